set_option maxHeartbeats 4000000 in
set_option maxRecDepth 100000 in
/-- isThing(x) -/
theorem m_isThing (l : Launch) (x : Int32) : Met l yM_isThing wsM_isThing ({ frames := 0, cells := 0, slots := 0, locals := 0 }) (va_Pc [.int x] (fun _ => True)) (vp_Si (fun r => r = xf_B (xf_in x 40))) 0 0 (fun _ => False) := by
  refine Met.ofW (cc := cM_isThing) (maxL := 1) (ret := (some .boolean)) (by decide) rfl ?_
  intro p e s m args below meth c s₁ B hml hv
  obtain ⟨rfl, -⟩ := hv
  have hx := B.exec
  have hb := B.bytes
  have hr := B.returns
  have hts := atoms_spec (ws := wsM_isThing) B.pre
  have hown : s.vm.findClass RX1 = some m.cls := findClass_of_methodNamed B.named
  have hlocks := B.notSynchronized
  have hl := lv_entry ([.int x]) (n := 1) (Nat.le_of_ble_eq_true rfl)
  rw [lg_entry_eq]
  generalize (lg_sl ([.int x]) ++ List.replicate (1 - (lg_sl ([.int x])).length) Slot.unset).toArray = ls at hl ⊢
  have hl : lv_has ls 1 [(0, .int x)] := hl
  refine lv_iload_n hx hb dM_isThing_0 rfl (lv_at hl 0 rfl) ?_
  refine lv_if_lt (tgt := 14) hx hb dM_isThing_1 (by decide) (fun c1 => ?_) (fun c1 => ?_)
  ·
    refine lv_iconst (v := nI 0) hx hb dM_isThing_14 (by decide) ?_
    exact W.zret (v := nI 0) hx hb hr (by first | rfl | exact xf_B_narrow _) (fun t9 ht9 hW9 => ⟨_, rfl, by rw [xf_in_split x (by decide), decide_eq_true c1]; rfl, ht9⟩) (fun q h => nomatch h) dM_isThing_15
  ·
    refine lv_iload_n hx hb dM_isThing_4 rfl (lv_at hl 0 rfl) ?_
    refine lv_bipush (v := nI 40) hx hb dM_isThing_5 (by decide) ?_
    refine lv_icmp_ge (tgt := 14) hx hb dM_isThing_7 (by decide) (fun c7 => ?_) (fun c7 => ?_)
    ·
      refine lv_iconst (v := nI 0) hx hb dM_isThing_14 (by decide) ?_
      exact W.zret (v := nI 0) hx hb hr (by first | rfl | exact xf_B_narrow _) (fun t9 ht9 hW9 => ⟨_, rfl, by rw [xf_in_split x (by decide), decide_eq_false (Int32.not_lt.mpr c7), Bool.and_false]; rfl, ht9⟩) (fun q h => nomatch h) dM_isThing_15
    ·
      refine lv_iconst (v := nI 1) hx hb dM_isThing_10 (by decide) ?_
      refine lv_goto (tgt := 15) hx hb dM_isThing_11 (by decide) ?_
      exact W.zret (v := nI 1) hx hb hr (by first | rfl | exact xf_B_narrow _) (fun t9 ht9 hW9 => ⟨_, rfl, by rw [xf_in_split x (by decide), decide_eq_false c1, decide_eq_true (Int32.not_le.mp c7)]; rfl, ht9⟩) (fun q h => nomatch h) dM_isThing_15
set_option maxHeartbeats 4000000 in
set_option maxRecDepth 100000 in
/-- isHead(x) -/
theorem m_isHead (l : Launch) (x : Int32) : Met l yM_isHead wsM_isHead ({ frames := 0, cells := 0, slots := 0, locals := 0 }) (va_Pc [.int x] (fun _ => True)) (vp_Si (fun r => r = xf_B (xf_in x 8))) 0 0 (fun _ => False) := by
  refine Met.ofW (cc := cM_isHead) (maxL := 1) (ret := (some .boolean)) (by decide) rfl ?_
  intro p e s m args below meth c s₁ B hml hv
  obtain ⟨rfl, -⟩ := hv
  have hx := B.exec
  have hb := B.bytes
  have hr := B.returns
  have hts := atoms_spec (ws := wsM_isHead) B.pre
  have hown : s.vm.findClass RX1 = some m.cls := findClass_of_methodNamed B.named
  have hlocks := B.notSynchronized
  have hl := lv_entry ([.int x]) (n := 1) (Nat.le_of_ble_eq_true rfl)
  rw [lg_entry_eq]
  generalize (lg_sl ([.int x]) ++ List.replicate (1 - (lg_sl ([.int x])).length) Slot.unset).toArray = ls at hl ⊢
  have hl : lv_has ls 1 [(0, .int x)] := hl
  refine lv_iload_n hx hb dM_isHead_0 rfl (lv_at hl 0 rfl) ?_
  refine lv_if_lt (tgt := 14) hx hb dM_isHead_1 (by decide) (fun c1 => ?_) (fun c1 => ?_)
  ·
    refine lv_iconst (v := nI 0) hx hb dM_isHead_14 (by decide) ?_
    exact W.zret (v := nI 0) hx hb hr (by first | rfl | exact xf_B_narrow _) (fun t9 ht9 hW9 => ⟨_, rfl, by rw [xf_in_split x (by decide), decide_eq_true c1]; rfl, ht9⟩) (fun q h => nomatch h) dM_isHead_15
  ·
    refine lv_iload_n hx hb dM_isHead_4 rfl (lv_at hl 0 rfl) ?_
    refine lv_bipush (v := nI 8) hx hb dM_isHead_5 (by decide) ?_
    refine lv_icmp_ge (tgt := 14) hx hb dM_isHead_7 (by decide) (fun c7 => ?_) (fun c7 => ?_)
    ·
      refine lv_iconst (v := nI 0) hx hb dM_isHead_14 (by decide) ?_
      exact W.zret (v := nI 0) hx hb hr (by first | rfl | exact xf_B_narrow _) (fun t9 ht9 hW9 => ⟨_, rfl, by rw [xf_in_split x (by decide), decide_eq_false (Int32.not_lt.mpr c7), Bool.and_false]; rfl, ht9⟩) (fun q h => nomatch h) dM_isHead_15
    ·
      refine lv_iconst (v := nI 1) hx hb dM_isHead_10 (by decide) ?_
      refine lv_goto (tgt := 15) hx hb dM_isHead_11 (by decide) ?_
      exact W.zret (v := nI 1) hx hb hr (by first | rfl | exact xf_B_narrow _) (fun t9 ht9 hW9 => ⟨_, rfl, by rw [xf_in_split x (by decide), decide_eq_false c1, decide_eq_true (Int32.not_le.mp c7)]; rfl, ht9⟩) (fun q h => nomatch h) dM_isHead_15
set_option maxHeartbeats 4000000 in
set_option maxRecDepth 100000 in
/-- isValue(x) -/
theorem m_isValue (l : Launch) (x : Int32) : Met l yM_isValue wsM_isValue ({ frames := 0, cells := 0, slots := 0, locals := 0 }) (va_Pc [.int x] (fun _ => True)) (vp_Si (fun r => r = xf_B (xf_in x 32))) 0 0 (fun _ => False) := by
  refine Met.ofW (cc := cM_isValue) (maxL := 1) (ret := (some .boolean)) (by decide) rfl ?_
  intro p e s m args below meth c s₁ B hml hv
  obtain ⟨rfl, -⟩ := hv
  have hx := B.exec
  have hb := B.bytes
  have hr := B.returns
  have hts := atoms_spec (ws := wsM_isValue) B.pre
  have hown : s.vm.findClass RX1 = some m.cls := findClass_of_methodNamed B.named
  have hlocks := B.notSynchronized
  have hl := lv_entry ([.int x]) (n := 1) (Nat.le_of_ble_eq_true rfl)
  rw [lg_entry_eq]
  generalize (lg_sl ([.int x]) ++ List.replicate (1 - (lg_sl ([.int x])).length) Slot.unset).toArray = ls at hl ⊢
  have hl : lv_has ls 1 [(0, .int x)] := hl
  refine lv_iload_n hx hb dM_isValue_0 rfl (lv_at hl 0 rfl) ?_
  refine lv_if_lt (tgt := 14) hx hb dM_isValue_1 (by decide) (fun c1 => ?_) (fun c1 => ?_)
  ·
    refine lv_iconst (v := nI 0) hx hb dM_isValue_14 (by decide) ?_
    exact W.zret (v := nI 0) hx hb hr (by first | rfl | exact xf_B_narrow _) (fun t9 ht9 hW9 => ⟨_, rfl, by rw [xf_in_split x (by decide), decide_eq_true c1]; rfl, ht9⟩) (fun q h => nomatch h) dM_isValue_15
  ·
    refine lv_iload_n hx hb dM_isValue_4 rfl (lv_at hl 0 rfl) ?_
    refine lv_bipush (v := nI 32) hx hb dM_isValue_5 (by decide) ?_
    refine lv_icmp_ge (tgt := 14) hx hb dM_isValue_7 (by decide) (fun c7 => ?_) (fun c7 => ?_)
    ·
      refine lv_iconst (v := nI 0) hx hb dM_isValue_14 (by decide) ?_
      exact W.zret (v := nI 0) hx hb hr (by first | rfl | exact xf_B_narrow _) (fun t9 ht9 hW9 => ⟨_, rfl, by rw [xf_in_split x (by decide), decide_eq_false (Int32.not_lt.mpr c7), Bool.and_false]; rfl, ht9⟩) (fun q h => nomatch h) dM_isValue_15
    ·
      refine lv_iconst (v := nI 1) hx hb dM_isValue_10 (by decide) ?_
      refine lv_goto (tgt := 15) hx hb dM_isValue_11 (by decide) ?_
      exact W.zret (v := nI 1) hx hb hr (by first | rfl | exact xf_B_narrow _) (fun t9 ht9 hW9 => ⟨_, rfl, by rw [xf_in_split x (by decide), decide_eq_false c1, decide_eq_true (Int32.not_le.mp c7)]; rfl, ht9⟩) (fun q h => nomatch h) dM_isValue_15
set_option maxHeartbeats 4000000 in
set_option maxRecDepth 100000 in
/-- at(x1, x2, x3) -/
theorem m_at (l : Launch) (x1 x2 x3 : Nat) : Met l yM_at wsM_at ({ frames := 0, cells := 0, slots := 0, locals := 0 }) (va_Pc [.int (nI x1), .int (nI x2), .int (nI x3)] (fun _ => True)) (vp_Si (fun r => r = nI ((x1 * 8 + x2) * 32 + x3))) 0 0 (fun _ => False) := by
  refine Met.ofW (cc := cM_at) (maxL := 3) (ret := (some .int)) (by decide) rfl ?_
  intro p e s m args below meth c s₁ B hml hv
  obtain ⟨rfl, -⟩ := hv
  have hx := B.exec
  have hb := B.bytes
  have hr := B.returns
  have hts := atoms_spec (ws := wsM_at) B.pre
  have hown : s.vm.findClass RX1 = some m.cls := findClass_of_methodNamed B.named
  have hlocks := B.notSynchronized
  have hl := lv_entry ([.int (nI x1), .int (nI x2), .int (nI x3)]) (n := 3) (Nat.le_of_ble_eq_true rfl)
  rw [lg_entry_eq]
  generalize (lg_sl ([.int (nI x1), .int (nI x2), .int (nI x3)]) ++ List.replicate (3 - (lg_sl ([.int (nI x1), .int (nI x2), .int (nI x3)])).length) Slot.unset).toArray = ls at hl ⊢
  have hl : lv_has ls 3 [(0, .int (nI x1)), (1, .int (nI x2)), (2, .int (nI x3))] := hl
  refine lv_iload_n hx hb dM_at_0 rfl (lv_at hl 0 rfl) ?_
  refine lv_bipush (v := nI 8) hx hb dM_at_1 (by decide) ?_
  refine lv_imul hx hb dM_at_3 ?_
  refine xf_be (y := nI (x1 * 8)) (by exact pk_mul _ _) ?_
  refine lv_iload_n hx hb dM_at_4 rfl (lv_at hl 1 rfl) ?_
  refine lv_iadd hx hb dM_at_5 ?_
  refine xf_be (y := nI (x1 * 8 + x2)) (by exact nI_add _ _) ?_
  refine lv_bipush (v := nI 32) hx hb dM_at_6 (by decide) ?_
  refine lv_imul hx hb dM_at_8 ?_
  refine xf_be (y := nI ((x1 * 8 + x2) * 32)) (by exact pk_mul _ _) ?_
  refine lv_iload_n hx hb dM_at_9 rfl (lv_at hl 2 rfl) ?_
  refine lv_iadd hx hb dM_at_10 ?_
  refine xf_be (y := nI ((x1 * 8 + x2) * 32 + x3)) (by exact nI_add _ _) ?_
  exact W.iret (v := nI ((x1 * 8 + x2) * 32 + x3)) hx hb hr (fun t9 ht9 hW9 => ⟨_, rfl, rfl, ht9⟩) (fun q h => nomatch h) dM_at_11
set_option maxHeartbeats 4000000 in
set_option maxRecDepth 100000 in
/-- isUnder(k, u) -/
theorem m_isUnder (l : Launch) (dC : Nat → ClassId) (dI : Nat → Nat → Nat) (h0 b1 b2 b3 b4 b5 : Nat) (cI cZ : ClassId) (mh : Nat → Bool) (ma : Nat → Int32) (mc : Nat → Bool) (mt mn : Nat → Int32) (cd ro : Int32) (k u : Nat) (hk : k < 32) (hu : u < 32) (hOk : mdOk ma) (hAc : mdAc ma) : Met l yM_isUnder wsM_isUnder ({ frames := 0, cells := 0, slots := 0, locals := 0 }) (va_Pc [.ref h0, .int (nI k), .int (nI u)] (fun U => va_P (dC, dI) fmCl (mw h0 b1 b2 b3 b4 b5 cI cZ mh ma mc mt mn cd ro) U.heap ∧ va_K (dC, dI) fmCl [(cI, .int), (cZ, .boolean)] U)) (vp_Si (fun r => r = xf_B (mdU ma k u))) 0 0 (fun _ => False) := by
  refine Met.ofW (cc := cM_isUnder) (maxL := 4) (ret := (some .boolean)) (by decide) rfl ?_
  intro p e s m args below meth c s₁ B hml hv
  obtain ⟨rfl, hP, hK⟩ := hv
  have hx := B.exec
  have hb := B.bytes
  have hr := B.returns
  have hts := atoms_spec (ws := wsM_isUnder) B.pre
  have hown : s.vm.findClass RX1 = some m.cls := findClass_of_methodNamed B.named
  have hlocks := B.notSynchronized
  have hin : ∀ w ∈ u_ws RX1 TM 7, w ∈ wsM_isUnder := by decide +kernel
  have hf_above := hts (.fieldLink RX1 13 "FacetCountsModel" "above" "[I") (by decide +kernel)
  have hl := lv_entry ([.ref h0, .int (nI k), .int (nI u)]) (n := 4) (Nat.le_of_ble_eq_true rfl)
  rw [lg_entry_eq]
  generalize (lg_sl ([.ref h0, .int (nI k), .int (nI u)]) ++ List.replicate (4 - (lg_sl ([.ref h0, .int (nI k), .int (nI u)])).length) Slot.unset).toArray = ls at hl ⊢
  have hl : lv_has ls 4 [(0, .ref h0), (1, .int (nI k)), (2, .int (nI u))] := hl
  obtain ⟨n0, hn0⟩ := hAc k hk
  refine lv_iload_n hx hb dM_isUnder_0 rfl (lv_at hl 1 rfl) ?_
  refine lv_istore_n (lv' := [(3, .int (nI k)), (0, .ref h0), (1, .int (nI k)), (2, .int (nI u))]) hx hb dM_isUnder_1 rfl hl (by decide) rfl (fun ls hl => ?_)
  refine xf_loopS (σ := Nat × Int32) (fun (z9 : Nat × Int32) => z9.1) (fun (z9 : Nat × Int32) => [(0, .ref h0), (1, .int (nI k)), (2, .int (nI u)), (3, .int z9.2)]) (fun (z9 : Nat × Int32) => (z9.2 = -1 ∨ ∃ j, j < 32 ∧ z9.2 = nI j) ∧ mdIt ma z9.1 z9.2 = -1 ∧ (mdU ma k u = true ↔ ∃ q, mdIt ma q z9.2 = nI u)) (n0, nI k) (lv_sub hl [1, 2, 3, 0] rfl) ⟨Or.inr ⟨k, hk, rfl⟩, hn0, mdU_iff⟩ (fun z9 ls hi hl ih2 => ?_)
  obtain ⟨n, a⟩ := z9
  have hl : lv_has ls 4 [(0, .ref h0), (1, .int (nI k)), (2, .int (nI u)), (3, .int a)] := hl
  obtain ⟨h1, h2, h3⟩ := hi
  have h1 : (a = -1 ∨ ∃ j, j < 32 ∧ a = nI j) := h1
  have h2 : mdIt ma n a = -1 := h2
  have h3 : (mdU ma k u = true ↔ ∃ q, mdIt ma q a = nI u) := h3
  refine lv_iload_n hx hb dM_isUnder_2 rfl (lv_at hl 3 rfl) ?_
  refine lv_iconst (v := (-1)) hx hb dM_isUnder_3 (by decide) ?_
  refine lv_icmp_eq (tgt := 22) hx hb dM_isUnder_4 (by decide) (fun c4 => ?_) (fun c4 => ?_)
  ·
    refine lv_iload_n hx hb dM_isUnder_22 rfl (lv_at hl 3 rfl) ?_
    refine lv_iconst (v := (-1)) hx hb dM_isUnder_23 (by decide) ?_
    refine lv_icmp_eq (tgt := 31) hx hb dM_isUnder_24 (by decide) (fun c24 => ?_) (fun c24 => ?_)
    ·
      refine lv_iconst (v := nI 0) hx hb dM_isUnder_31 (by decide) ?_
      exact W.zret (v := nI 0) hx hb hr (by first | rfl | exact xf_B_narrow _) (fun t9 ht9 hW9 => ⟨_, rfl, by rw [mdU_f (fun z => by obtain ⟨q, hq⟩ := h3.mp (mdU_iff.mpr z); rw [c4, mdIt_m1] at hq; exact xf_m1 (by omega) hq.symm)]; rfl, ht9⟩) (fun q h => nomatch h) dM_isUnder_32
    ·
      exact absurd c4 c24
  ·
    refine lv_iload_n hx hb dM_isUnder_7 rfl (lv_at hl 3 rfl) ?_
    refine lv_iload_n hx hb dM_isUnder_8 rfl (lv_at hl 2 rfl) ?_
    refine lv_icmp_eq (tgt := 22) hx hb dM_isUnder_9 (by decide) (fun c9 => ?_) (fun c9 => ?_)
    ·
      refine lv_iload_n hx hb dM_isUnder_22 rfl (lv_at hl 3 rfl) ?_
      refine lv_iconst (v := (-1)) hx hb dM_isUnder_23 (by decide) ?_
      refine lv_icmp_eq (tgt := 31) hx hb dM_isUnder_24 (by decide) (fun c24 => ?_) (fun c24 => ?_)
      ·
        exact absurd c24 c4
      ·
        refine lv_iconst (v := nI 1) hx hb dM_isUnder_27 (by decide) ?_
        refine lv_goto (tgt := 32) hx hb dM_isUnder_28 (by decide) ?_
        exact W.zret (v := nI 1) hx hb hr (by first | rfl | exact xf_B_narrow _) (fun t9 ht9 hW9 => ⟨_, rfl, by rw [h3.mpr ⟨0, c9⟩]; rfl, ht9⟩) (fun q h => nomatch h) dM_isUnder_32
    ·
      obtain ⟨j, hj, rfl⟩ := h1.resolve_left c4
      refine lv_aload_n hx hb dM_isUnder_12 rfl (lv_at hl 0 rfl) ?_
      refine va_get (D := (dC, dI)) (ci := 1) (v := .ref b2) (C := RX1) (T := TM) (N := 7) hx hb hts hin hown hK hP 0 rfl rfl 2 (by decide) hf_above (fun _ h9 => h9) rfl dM_isUnder_13 ?_
      refine lv_iload_n hx hb dM_isUnder_16 rfl (lv_at hl 3 rfl) ?_
      refine xf_iald hx hb hK hP 2 0 rfl rfl (j := j) (by omega) (by decide) dM_isUnder_17 ?_
      refine lv_istore_n (lv' := [(3, .int (ma j)), (0, .ref h0), (1, .int (nI k)), (2, .int (nI u))]) hx hb dM_isUnder_18 rfl hl (by decide) rfl (fun ls hl => ?_)
      refine lv_goto (tgt := 2) hx hb dM_isUnder_19 (by decide) ?_
      obtain ⟨n9, hn9⟩ : ∃ q, n = q + 1 := by
        cases n with
        | zero => exact absurd h2 c4
        | succ q => exact ⟨q, rfl⟩
      rw [hn9, mdIt_s ma hj] at h2
      have hl := lv_sub (l' := [(0, .ref h0), (1, .int (nI k)), (2, .int (nI u)), (3, .int (ma j))]) hl [1, 2, 3, 0] rfl
      have hl : lv_has ls 4 [(0, .ref h0), (1, .int (nI k)), (2, .int (nI u)), (3, .int ((ma j)))] := xf_lv hl (by rfl)
      exact ih2 (n - 1, ma j) ls (by show n - 1 < n; omega) (by exact ⟨hOk j hj, by rw [hn9]; exact h2, h3.trans (mdIt_e ma hj c9)⟩) hl
set_option maxHeartbeats 4000000 in
set_option maxRecDepth 100000 in
/-- owns(t, h, v) -/
theorem m_owns (l : Launch) (dC : Nat → ClassId) (dI : Nat → Nat → Nat) (h0 b1 b2 b3 b4 b5 : Nat) (cI cZ : ClassId) (mh : Nat → Bool) (ma : Nat → Int32) (mc : Nat → Bool) (mt mn : Nat → Int32) (cd ro : Int32) (t h v : Nat) (ht : t < 40) (hh : h < 8) (hv9 : v < 32) (hOk : mdOk ma) (hAc : mdAc ma) : Met l yM_owns wsM_owns ({ frames := 1, cells := 0, slots := 0, locals := 23 }) (va_Pc [.ref h0, .int (nI t), .int (nI h), .int (nI v)] (fun U => va_P (dC, dI) fmCl (mw h0 b1 b2 b3 b4 b5 cI cZ mh ma mc mt mn cd ro) U.heap ∧ va_K (dC, dI) fmCl [(cI, .int), (cZ, .boolean)] U)) (vp_Si (fun r => r = xf_B (mdO mh ma t h v))) 0 0 (fun _ => False) := by
  refine Met.ofW (cc := cM_owns) (maxL := 6) (ret := (some .boolean)) (by decide) rfl ?_
  intro p e s m args below meth c s₁ B hml hv
  obtain ⟨rfl, hP, hK⟩ := hv
  have hx := B.exec
  have hb := B.bytes
  have hr := B.returns
  have hts := atoms_spec (ws := wsM_owns) B.pre
  have hown : s.vm.findClass RX1 = some m.cls := findClass_of_methodNamed B.named
  have hlocks := B.notSynchronized
  have hin : ∀ w ∈ u_ws RX1 TM 7, w ∈ wsM_owns := by decide +kernel
  have hf_has := hts (.fieldLink RX1 7 "FacetCountsModel" "has" "[Z") (by decide +kernel)
  have hl := lv_entry ([.ref h0, .int (nI t), .int (nI h), .int (nI v)]) (n := 6) (Nat.le_of_ble_eq_true rfl)
  rw [lg_entry_eq]
  generalize (lg_sl ([.ref h0, .int (nI t), .int (nI h), .int (nI v)]) ++ List.replicate (6 - (lg_sl ([.ref h0, .int (nI t), .int (nI h), .int (nI v)])).length) Slot.unset).toArray = ls at hl ⊢
  have hl : lv_has ls 6 [(0, .ref h0), (1, .int (nI t)), (2, .int (nI h)), (3, .int (nI v))] := hl
  refine lv_iload_n hx hb dM_owns_0 rfl (lv_at hl 2 rfl) ?_
  refine xf_zle (tgt := 16) hx hb dM_owns_1 (by decide) (by omega) (fun c1 => ?_) (fun c1 => ?_)
  ·
    refine lv_iconst (v := nI 0) hx hb dM_owns_16 (by decide) ?_
    refine lv_istore (lv' := [(4, .int (nI 0)), (0, .ref h0), (1, .int (nI t)), (2, .int (nI h)), (3, .int (nI v))]) hx hb dM_owns_17 hl (by decide) rfl (fun ls hl => ?_)
    refine lv_iconst (v := nI 0) hx hb dM_owns_19 (by decide) ?_
    refine lv_istore (lv' := [(5, .int (nI 0)), (4, .int (nI 0)), (0, .ref h0), (1, .int (nI t)), (2, .int (nI h)), (3, .int (nI v))]) hx hb dM_owns_20 hl (by decide) rfl (fun ls hl => ?_)
    refine xf_loopS (σ := Nat) (fun (z9 : Nat) => 32 - z9) (fun (z9 : Nat) => [(0, .ref h0), (1, .int (nI t)), (2, .int (nI h)), (3, .int (nI v)), (4, .int (xf_B (xf_any (mdOP mh ma t v) z9))), (5, .int (nI z9))]) (fun (z9 : Nat) => z9 ≤ 32) 0 (lv_sub hl [2, 3, 4, 5, 1, 0] rfl) (Nat.zero_le _) (fun z9 ls hi hl ih22 => ?_)
    obtain ⟨k, hxe⟩ : ∃ z, z = z9 := ⟨_, rfl⟩
    subst hxe
    have hl : lv_has ls 6 [(0, .ref h0), (1, .int (nI t)), (2, .int (nI h)), (3, .int (nI v)), (4, .int (xf_B (xf_any (mdOP mh ma t v) k))), (5, .int (nI k))] := hl
    have hi : k ≤ 32 := hi
    refine lv_iload hx hb dM_owns_22 (lv_at hl 5 rfl) ?_
    refine lv_bipush (v := nI 32) hx hb dM_owns_24 (by decide) ?_
    refine xf_ge (tgt := 72) hx hb dM_owns_26 (by decide) (by omega) (by omega) (fun c26 => ?_) (fun c26 => ?_)
    ·
      obtain rfl : k = 32 := by omega
      refine lv_iload hx hb dM_owns_72 (lv_at hl 4 rfl) ?_
      exact W.zret (v := xf_B (xf_any (mdOP mh ma t v) 32)) hx hb hr (by first | rfl | exact xf_B_narrow _) (fun t9 ht9 hW9 => ⟨_, rfl, by rw [mdO, if_neg (by omega)], ht9⟩) (fun q h => nomatch h) dM_owns_74
    ·
      refine lv_iload hx hb dM_owns_29 (lv_at hl 4 rfl) ?_
      refine xf_Bne (tgt := 59) hx hb dM_owns_31 (by decide) (fun c31 => ?_) (fun c31 => ?_)
      ·
        refine lv_iconst (v := nI 1) hx hb dM_owns_59 (by decide) ?_
        refine lv_goto (tgt := 64) hx hb dM_owns_60 (by decide) ?_
        refine lv_istore (lv' := [(4, .int (nI 1)), (0, .ref h0), (1, .int (nI t)), (2, .int (nI h)), (3, .int (nI v)), (5, .int (nI k))]) hx hb dM_owns_64 hl (by decide) rfl (fun ls hl => ?_)
        refine lv_iinc (v := nI (k + 1)) (lv' := [(5, .int (nI (k + 1))), (4, .int (nI 1)), (0, .ref h0), (1, .int (nI t)), (2, .int (nI h)), (3, .int (nI v))]) hx hb dM_owns_66 hl (k := 5) rfl (by exact nI_1 k) (by decide) rfl (fun ls hl => ?_)
        refine lv_goto (tgt := 22) hx hb dM_owns_69 (by decide) ?_
        have hl := lv_sub (l' := [(0, .ref h0), (1, .int (nI t)), (2, .int (nI h)), (3, .int (nI v)), (4, .int (nI 1)), (5, .int (nI (k + 1)))]) hl [2, 3, 4, 5, 1, 0] rfl
        have hl : lv_has ls 6 [(0, .ref h0), (1, .int (nI t)), (2, .int (nI h)), (3, .int (nI v)), (4, .int (xf_B (xf_any (mdOP mh ma t v) (k + 1)))), (5, .int (nI (k + 1)))] := xf_lv hl (by simp [xf_any, mdOP, xf_B, c26, c31])
        exact ih22 (k + 1) ls (by show 32 - (k + 1) < 32 - k; omega) (by show (k + 1) ≤ 32; omega) hl
      ·
        refine lv_aload_n hx hb dM_owns_34 rfl (lv_at hl 0 rfl) ?_
        refine va_get (D := (dC, dI)) (ci := 1) (v := .ref b1) (C := RX1) (T := TM) (N := 7) hx hb hts hin hown hK hP 0 rfl rfl 1 (by decide) hf_has (fun _ h9 => h9) rfl dM_owns_35 ?_
        refine lv_iload_n hx hb dM_owns_38 rfl (lv_at hl 1 rfl) ?_
        refine lv_iconst (v := nI 0) hx hb dM_owns_39 (by decide) ?_
        refine lv_iload hx hb dM_owns_40 (lv_at hl 5 rfl) ?_
        refine vp_callSi (W.runS (As := [.int (nI t), .int (nI 0), .int (nI k)]) (rest := [.ref b1]) ⟨hx, hb, hml, hown, hts⟩ (m_at l t 0 k) (va_cwS 3 hts gM_owns_at rfl rfl rfl (by decide +kernel) ⟨Nat.le_of_ble_eq_true rfl, Nat.le_of_ble_eq_true rfl⟩) (xf_preS0) rfl rfl hl.1 rfl (lv_room (Nat.le_of_ble_eq_true rfl)) dM_owns_42 ⟨Nat.zero_le _, Nat.zero_le _⟩) (fun r hr9 => ?_)
        subst hr9
        refine xf_be (y := nI (t * 8 * 32 + k)) (rfl) ?_
        refine xf_zald hx hb hK hP 1 1 rfl rfl (j := (t * 8 * 32 + k)) (by omega) (by decide) dM_owns_45 ?_
        refine xf_Beq (tgt := 63) hx hb dM_owns_46 (by decide) (fun c46 => ?_) (fun c46 => ?_)
        ·
          refine lv_iconst (v := nI 0) hx hb dM_owns_63 (by decide) ?_
          refine lv_istore (lv' := [(4, .int (nI 0)), (0, .ref h0), (1, .int (nI t)), (2, .int (nI h)), (3, .int (nI v)), (5, .int (nI k))]) hx hb dM_owns_64 hl (by decide) rfl (fun ls hl => ?_)
          refine lv_iinc (v := nI (k + 1)) (lv' := [(5, .int (nI (k + 1))), (4, .int (nI 0)), (0, .ref h0), (1, .int (nI t)), (2, .int (nI h)), (3, .int (nI v))]) hx hb dM_owns_66 hl (k := 5) rfl (by exact nI_1 k) (by decide) rfl (fun ls hl => ?_)
          refine lv_goto (tgt := 22) hx hb dM_owns_69 (by decide) ?_
          have hl := lv_sub (l' := [(0, .ref h0), (1, .int (nI t)), (2, .int (nI h)), (3, .int (nI v)), (4, .int (nI 0)), (5, .int (nI (k + 1)))]) hl [2, 3, 4, 5, 1, 0] rfl
          have hl : lv_has ls 6 [(0, .ref h0), (1, .int (nI t)), (2, .int (nI h)), (3, .int (nI v)), (4, .int (xf_B (xf_any (mdOP mh ma t v) (k + 1)))), (5, .int (nI (k + 1)))] := xf_lv hl (by simp [xf_any, mdOP, xf_B, c26, c31, c46])
          exact ih22 (k + 1) ls (by show 32 - (k + 1) < 32 - k; omega) (by show (k + 1) ≤ 32; omega) hl
        ·
          refine lv_aload_n hx hb dM_owns_49 rfl (lv_at hl 0 rfl) ?_
          refine lv_iload hx hb dM_owns_50 (lv_at hl 5 rfl) ?_
          refine lv_iload_n hx hb dM_owns_52 rfl (lv_at hl 3 rfl) ?_
          refine vp_callSi (W.runV (As := [.int (nI k), .int (nI v)]) (rest := []) ⟨hx, hb, hml, hown, hts⟩ (m_isUnder l dC dI h0 b1 b2 b3 b4 b5 cI cZ mh ma mc mt mn cd ro k v (by omega) (by omega) hOk hAc) (cwV 2 hts gM_owns_isUnder rfl rfl rfl (by decide +kernel) ⟨Nat.le_of_ble_eq_true rfl, Nat.le_of_ble_eq_true rfl⟩) (xf_preV (ci := 1) (RX1, TM, 7) hK hP rfl rfl) rfl rfl hl.1 rfl (lv_room (Nat.le_of_ble_eq_true rfl)) dM_owns_53 ⟨Nat.zero_le _, Nat.zero_le _⟩) (fun r hr9 => ?_)
          subst hr9
          refine xf_Beq (tgt := 63) hx hb dM_owns_56 (by decide) (fun c56 => ?_) (fun c56 => ?_)
          ·
            refine lv_iconst (v := nI 0) hx hb dM_owns_63 (by decide) ?_
            refine lv_istore (lv' := [(4, .int (nI 0)), (0, .ref h0), (1, .int (nI t)), (2, .int (nI h)), (3, .int (nI v)), (5, .int (nI k))]) hx hb dM_owns_64 hl (by decide) rfl (fun ls hl => ?_)
            refine lv_iinc (v := nI (k + 1)) (lv' := [(5, .int (nI (k + 1))), (4, .int (nI 0)), (0, .ref h0), (1, .int (nI t)), (2, .int (nI h)), (3, .int (nI v))]) hx hb dM_owns_66 hl (k := 5) rfl (by exact nI_1 k) (by decide) rfl (fun ls hl => ?_)
            refine lv_goto (tgt := 22) hx hb dM_owns_69 (by decide) ?_
            have hl := lv_sub (l' := [(0, .ref h0), (1, .int (nI t)), (2, .int (nI h)), (3, .int (nI v)), (4, .int (nI 0)), (5, .int (nI (k + 1)))]) hl [2, 3, 4, 5, 1, 0] rfl
            have hl : lv_has ls 6 [(0, .ref h0), (1, .int (nI t)), (2, .int (nI h)), (3, .int (nI v)), (4, .int (xf_B (xf_any (mdOP mh ma t v) (k + 1)))), (5, .int (nI (k + 1)))] := xf_lv hl (by simp [xf_any, mdOP, xf_B, c26, c31, c46, c56])
            exact ih22 (k + 1) ls (by show 32 - (k + 1) < 32 - k; omega) (by show (k + 1) ≤ 32; omega) hl
          ·
            refine lv_iconst (v := nI 1) hx hb dM_owns_59 (by decide) ?_
            refine lv_goto (tgt := 64) hx hb dM_owns_60 (by decide) ?_
            refine lv_istore (lv' := [(4, .int (nI 1)), (0, .ref h0), (1, .int (nI t)), (2, .int (nI h)), (3, .int (nI v)), (5, .int (nI k))]) hx hb dM_owns_64 hl (by decide) rfl (fun ls hl => ?_)
            refine lv_iinc (v := nI (k + 1)) (lv' := [(5, .int (nI (k + 1))), (4, .int (nI 1)), (0, .ref h0), (1, .int (nI t)), (2, .int (nI h)), (3, .int (nI v))]) hx hb dM_owns_66 hl (k := 5) rfl (by exact nI_1 k) (by decide) rfl (fun ls hl => ?_)
            refine lv_goto (tgt := 22) hx hb dM_owns_69 (by decide) ?_
            have hl := lv_sub (l' := [(0, .ref h0), (1, .int (nI t)), (2, .int (nI h)), (3, .int (nI v)), (4, .int (nI 1)), (5, .int (nI (k + 1)))]) hl [2, 3, 4, 5, 1, 0] rfl
            have hl : lv_has ls 6 [(0, .ref h0), (1, .int (nI t)), (2, .int (nI h)), (3, .int (nI v)), (4, .int (xf_B (xf_any (mdOP mh ma t v) (k + 1)))), (5, .int (nI (k + 1)))] := xf_lv hl (by simp [xf_any, mdOP, xf_B, c26, c31, c46, c56])
            exact ih22 (k + 1) ls (by show 32 - (k + 1) < 32 - k; omega) (by show (k + 1) ≤ 32; omega) hl
  ·
    refine lv_aload_n hx hb dM_owns_4 rfl (lv_at hl 0 rfl) ?_
    refine va_get (D := (dC, dI)) (ci := 1) (v := .ref b1) (C := RX1) (T := TM) (N := 7) hx hb hts hin hown hK hP 0 rfl rfl 1 (by decide) hf_has (fun _ h9 => h9) rfl dM_owns_5 ?_
    refine lv_iload_n hx hb dM_owns_8 rfl (lv_at hl 1 rfl) ?_
    refine lv_iload_n hx hb dM_owns_9 rfl (lv_at hl 2 rfl) ?_
    refine lv_iload_n hx hb dM_owns_10 rfl (lv_at hl 3 rfl) ?_
    refine vp_callSi (W.runS (As := [.int (nI t), .int (nI h), .int (nI v)]) (rest := [.ref b1]) ⟨hx, hb, hml, hown, hts⟩ (m_at l t h v) (va_cwS 3 hts gM_owns_at rfl rfl rfl (by decide +kernel) ⟨Nat.le_of_ble_eq_true rfl, Nat.le_of_ble_eq_true rfl⟩) (xf_preS0) rfl rfl hl.1 rfl (lv_room (Nat.le_of_ble_eq_true rfl)) dM_owns_11 ⟨Nat.zero_le _, Nat.zero_le _⟩) (fun r hr9 => ?_)
    subst hr9
    refine xf_zald hx hb hK hP 1 1 rfl rfl (j := ((t * 8 + h) * 32 + v)) (by omega) (by decide) dM_owns_14 ?_
    exact W.zret (v := xf_B (mh ((t * 8 + h) * 32 + v))) hx hb hr (by first | rfl | exact xf_B_narrow _) (fun t9 ht9 hW9 => ⟨_, rfl, by rw [mdO, if_pos c1], ht9⟩) (fun q h => nomatch h) dM_owns_15
set_option maxHeartbeats 4000000 in
set_option maxRecDepth 100000 in
/-- isMet(t, h) -/
theorem m_isMet (l : Launch) (dC : Nat → ClassId) (dI : Nat → Nat → Nat) (h0 b1 b2 b3 b4 b5 : Nat) (cI cZ : ClassId) (mh : Nat → Bool) (ma : Nat → Int32) (mc : Nat → Bool) (mt mn : Nat → Int32) (cd ro : Int32) (t h : Nat) (ht : t < 40) (hh : h < 8) (hOk : mdOk ma) (hAc : mdAc ma) : Met l yM_isMet wsM_isMet ({ frames := 2, cells := 0, slots := 0, locals := 48 }) (va_Pc [.ref h0, .int (nI t), .int (nI h)] (fun U => va_P (dC, dI) fmCl (mw h0 b1 b2 b3 b4 b5 cI cZ mh ma mc mt mn cd ro) U.heap ∧ va_K (dC, dI) fmCl [(cI, .int), (cZ, .boolean)] U)) (vp_Si (fun r => r = xf_B (mdM mh ma mc t h))) 0 0 (fun _ => False) := by
  refine Met.ofW (cc := cM_isMet) (maxL := 6) (ret := (some .boolean)) (by decide) rfl ?_
  intro p e s m args below meth c s₁ B hml hv
  obtain ⟨rfl, hP, hK⟩ := hv
  have hx := B.exec
  have hb := B.bytes
  have hr := B.returns
  have hts := atoms_spec (ws := wsM_isMet) B.pre
  have hown : s.vm.findClass RX1 = some m.cls := findClass_of_methodNamed B.named
  have hlocks := B.notSynchronized
  have hin : ∀ w ∈ u_ws RX1 TM 7, w ∈ wsM_isMet := by decide +kernel
  have hf_chosen := hts (.fieldLink RX1 17 "FacetCountsModel" "chosen" "[Z") (by decide +kernel)
  have hl := lv_entry ([.ref h0, .int (nI t), .int (nI h)]) (n := 6) (Nat.le_of_ble_eq_true rfl)
  rw [lg_entry_eq]
  generalize (lg_sl ([.ref h0, .int (nI t), .int (nI h)]) ++ List.replicate (6 - (lg_sl ([.ref h0, .int (nI t), .int (nI h)])).length) Slot.unset).toArray = ls at hl ⊢
  have hl : lv_has ls 6 [(0, .ref h0), (1, .int (nI t)), (2, .int (nI h))] := hl
  refine lv_iconst (v := nI 0) hx hb dM_isMet_0 (by decide) ?_
  refine lv_istore_n (lv' := [(3, .int (nI 0)), (0, .ref h0), (1, .int (nI t)), (2, .int (nI h))]) hx hb dM_isMet_1 rfl hl (by decide) rfl (fun ls hl => ?_)
  refine lv_iconst (v := nI 0) hx hb dM_isMet_2 (by decide) ?_
  refine lv_istore (lv' := [(4, .int (nI 0)), (3, .int (nI 0)), (0, .ref h0), (1, .int (nI t)), (2, .int (nI h))]) hx hb dM_isMet_3 hl (by decide) rfl (fun ls hl => ?_)
  refine lv_iconst (v := nI 0) hx hb dM_isMet_5 (by decide) ?_
  refine lv_istore (lv' := [(5, .int (nI 0)), (4, .int (nI 0)), (3, .int (nI 0)), (0, .ref h0), (1, .int (nI t)), (2, .int (nI h))]) hx hb dM_isMet_6 hl (by decide) rfl (fun ls hl => ?_)
  refine xf_loopS (σ := Nat) (fun (z9 : Nat) => 32 - z9) (fun (z9 : Nat) => [(0, .ref h0), (1, .int (nI t)), (2, .int (nI h)), (3, .int (xf_B (xf_any (mdCh mc h) z9))), (4, .int (xf_B (xf_any (mdMP mh ma mc t h) z9))), (5, .int (nI z9))]) (fun (z9 : Nat) => z9 ≤ 32) 0 (lv_sub hl [3, 4, 5, 2, 1, 0] rfl) (Nat.zero_le _) (fun z9 ls hi hl ih8 => ?_)
  obtain ⟨v, hxe⟩ : ∃ z, z = z9 := ⟨_, rfl⟩
  subst hxe
  have hl : lv_has ls 6 [(0, .ref h0), (1, .int (nI t)), (2, .int (nI h)), (3, .int (xf_B (xf_any (mdCh mc h) v))), (4, .int (xf_B (xf_any (mdMP mh ma mc t h) v))), (5, .int (nI v))] := hl
  have hi : v ≤ 32 := hi
  refine lv_iload hx hb dM_isMet_8 (lv_at hl 5 rfl) ?_
  refine lv_bipush (v := nI 32) hx hb dM_isMet_10 (by decide) ?_
  refine xf_ge (tgt := 61) hx hb dM_isMet_12 (by decide) (by omega) (by omega) (fun c12 => ?_) (fun c12 => ?_)
  ·
    obtain rfl : v = 32 := by omega
    refine lv_iload hx hb dM_isMet_61 (lv_at hl 4 rfl) ?_
    refine xf_Bne (tgt := 70) hx hb dM_isMet_63 (by decide) (fun c63 => ?_) (fun c63 => ?_)
    ·
      refine lv_iconst (v := nI 1) hx hb dM_isMet_70 (by decide) ?_
      refine lv_goto (tgt := 75) hx hb dM_isMet_71 (by decide) ?_
      exact W.zret (v := nI 1) hx hb hr (by first | rfl | exact xf_B_narrow _) (fun t9 ht9 hW9 => ⟨_, rfl, by simp [mdM, xf_B, c63], ht9⟩) (fun q h => nomatch h) dM_isMet_75
    ·
      refine lv_iload_n hx hb dM_isMet_66 rfl (lv_at hl 3 rfl) ?_
      refine xf_Bne (tgt := 74) hx hb dM_isMet_67 (by decide) (fun c67 => ?_) (fun c67 => ?_)
      ·
        refine lv_iconst (v := nI 0) hx hb dM_isMet_74 (by decide) ?_
        exact W.zret (v := nI 0) hx hb hr (by first | rfl | exact xf_B_narrow _) (fun t9 ht9 hW9 => ⟨_, rfl, by simp [mdM, xf_B, c63, c67], ht9⟩) (fun q h => nomatch h) dM_isMet_75
      ·
        refine lv_iconst (v := nI 1) hx hb dM_isMet_70 (by decide) ?_
        refine lv_goto (tgt := 75) hx hb dM_isMet_71 (by decide) ?_
        exact W.zret (v := nI 1) hx hb hr (by first | rfl | exact xf_B_narrow _) (fun t9 ht9 hW9 => ⟨_, rfl, by simp [mdM, xf_B, c63, c67], ht9⟩) (fun q h => nomatch h) dM_isMet_75
  ·
    refine lv_aload_n hx hb dM_isMet_15 rfl (lv_at hl 0 rfl) ?_
    refine va_get (D := (dC, dI)) (ci := 1) (v := .ref b3) (C := RX1) (T := TM) (N := 7) hx hb hts hin hown hK hP 0 rfl rfl 3 (by decide) hf_chosen (fun _ h9 => h9) rfl dM_isMet_16 ?_
    refine lv_bipush (v := nI 32) hx hb dM_isMet_19 (by decide) ?_
    refine lv_iload_n hx hb dM_isMet_21 rfl (lv_at hl 2 rfl) ?_
    refine lv_imul hx hb dM_isMet_22 ?_
    refine xf_be (y := nI (32 * h)) (by exact pk_mul _ _) ?_
    refine lv_iload hx hb dM_isMet_23 (lv_at hl 5 rfl) ?_
    refine lv_iadd hx hb dM_isMet_25 ?_
    refine xf_be (y := nI (32 * h + v)) (by exact nI_add _ _) ?_
    refine xf_zald hx hb hK hP 3 1 rfl rfl (j := (32 * h + v)) (by omega) (by decide) dM_isMet_26 ?_
    refine xf_Beq (tgt := 55) hx hb dM_isMet_27 (by decide) (fun c27 => ?_) (fun c27 => ?_)
    ·
      refine lv_iinc (v := nI (v + 1)) (lv' := [(5, .int (nI (v + 1))), (0, .ref h0), (1, .int (nI t)), (2, .int (nI h)), (3, .int (xf_B (xf_any (mdCh mc h) v))), (4, .int (xf_B (xf_any (mdMP mh ma mc t h) v)))]) hx hb dM_isMet_55 hl (k := 5) rfl (by exact nI_1 v) (by decide) rfl (fun ls hl => ?_)
      refine lv_goto (tgt := 8) hx hb dM_isMet_58 (by decide) ?_
      have hl := lv_sub (l' := [(0, .ref h0), (1, .int (nI t)), (2, .int (nI h)), (3, .int (xf_B (xf_any (mdCh mc h) v))), (4, .int (xf_B (xf_any (mdMP mh ma mc t h) v))), (5, .int (nI (v + 1)))]) hl [1, 2, 3, 4, 5, 0] rfl
      have hl : lv_has ls 6 [(0, .ref h0), (1, .int (nI t)), (2, .int (nI h)), (3, .int (xf_B (xf_any (mdCh mc h) (v + 1)))), (4, .int (xf_B (xf_any (mdMP mh ma mc t h) (v + 1)))), (5, .int (nI (v + 1)))] := xf_lv hl (by simp [xf_any, mdCh, mdMP, xf_B, c12, c27])
      exact ih8 (v + 1) ls (by show 32 - (v + 1) < 32 - v; omega) (by show (v + 1) ≤ 32; omega) hl
    ·
      refine lv_iconst (v := nI 1) hx hb dM_isMet_30 (by decide) ?_
      refine lv_istore_n (lv' := [(3, .int (nI 1)), (0, .ref h0), (1, .int (nI t)), (2, .int (nI h)), (4, .int (xf_B (xf_any (mdMP mh ma mc t h) v))), (5, .int (nI v))]) hx hb dM_isMet_31 rfl hl (by decide) rfl (fun ls hl => ?_)
      refine lv_iload hx hb dM_isMet_32 (lv_at hl 4 rfl) ?_
      refine xf_Bne (tgt := 48) hx hb dM_isMet_34 (by decide) (fun c34 => ?_) (fun c34 => ?_)
      ·
        refine lv_iconst (v := nI 1) hx hb dM_isMet_48 (by decide) ?_
        refine lv_goto (tgt := 53) hx hb dM_isMet_49 (by decide) ?_
        refine lv_istore (lv' := [(4, .int (nI 1)), (3, .int (nI 1)), (0, .ref h0), (1, .int (nI t)), (2, .int (nI h)), (5, .int (nI v))]) hx hb dM_isMet_53 hl (by decide) rfl (fun ls hl => ?_)
        refine lv_iinc (v := nI (v + 1)) (lv' := [(5, .int (nI (v + 1))), (4, .int (nI 1)), (3, .int (nI 1)), (0, .ref h0), (1, .int (nI t)), (2, .int (nI h))]) hx hb dM_isMet_55 hl (k := 5) rfl (by exact nI_1 v) (by decide) rfl (fun ls hl => ?_)
        refine lv_goto (tgt := 8) hx hb dM_isMet_58 (by decide) ?_
        have hl := lv_sub (l' := [(0, .ref h0), (1, .int (nI t)), (2, .int (nI h)), (3, .int (nI 1)), (4, .int (nI 1)), (5, .int (nI (v + 1)))]) hl [3, 4, 5, 2, 1, 0] rfl
        have hl : lv_has ls 6 [(0, .ref h0), (1, .int (nI t)), (2, .int (nI h)), (3, .int (xf_B (xf_any (mdCh mc h) (v + 1)))), (4, .int (xf_B (xf_any (mdMP mh ma mc t h) (v + 1)))), (5, .int (nI (v + 1)))] := xf_lv hl (by simp [xf_any, mdCh, mdMP, xf_B, c12, c27, c34])
        exact ih8 (v + 1) ls (by show 32 - (v + 1) < 32 - v; omega) (by show (v + 1) ≤ 32; omega) hl
      ·
        refine lv_aload_n hx hb dM_isMet_37 rfl (lv_at hl 1 rfl) ?_
        refine lv_iload_n hx hb dM_isMet_38 rfl (lv_at hl 2 rfl) ?_
        refine lv_iload_n hx hb dM_isMet_39 rfl (lv_at hl 3 rfl) ?_
        refine lv_iload hx hb dM_isMet_40 (lv_at hl 5 rfl) ?_
        refine vp_callSi (W.runV (As := [.int (nI t), .int (nI h), .int (nI v)]) (rest := []) ⟨hx, hb, hml, hown, hts⟩ (m_owns l dC dI h0 b1 b2 b3 b4 b5 cI cZ mh ma mc mt mn cd ro t h v (by omega) (by omega) (by omega) hOk hAc) (cwV 3 hts gM_isMet_owns rfl rfl rfl (by decide +kernel) ⟨Nat.le_of_ble_eq_true rfl, Nat.le_of_ble_eq_true rfl⟩) (xf_preV (ci := 1) (RX1, TM, 7) hK hP rfl rfl) rfl rfl hl.1 rfl (lv_room (Nat.le_of_ble_eq_true rfl)) dM_isMet_42 ⟨Nat.zero_le _, Nat.zero_le _⟩) (fun r hr9 => ?_)
        subst hr9
        refine xf_Beq (tgt := 52) hx hb dM_isMet_45 (by decide) (fun c45 => ?_) (fun c45 => ?_)
        ·
          refine lv_iconst (v := nI 0) hx hb dM_isMet_52 (by decide) ?_
          refine lv_istore (lv' := [(4, .int (nI 0)), (3, .int (nI 1)), (0, .ref h0), (1, .int (nI t)), (2, .int (nI h)), (5, .int (nI v))]) hx hb dM_isMet_53 hl (by decide) rfl (fun ls hl => ?_)
          refine lv_iinc (v := nI (v + 1)) (lv' := [(5, .int (nI (v + 1))), (4, .int (nI 0)), (3, .int (nI 1)), (0, .ref h0), (1, .int (nI t)), (2, .int (nI h))]) hx hb dM_isMet_55 hl (k := 5) rfl (by exact nI_1 v) (by decide) rfl (fun ls hl => ?_)
          refine lv_goto (tgt := 8) hx hb dM_isMet_58 (by decide) ?_
          have hl := lv_sub (l' := [(0, .ref h0), (1, .int (nI t)), (2, .int (nI h)), (3, .int (nI 1)), (4, .int (nI 0)), (5, .int (nI (v + 1)))]) hl [3, 4, 5, 2, 1, 0] rfl
          have hl : lv_has ls 6 [(0, .ref h0), (1, .int (nI t)), (2, .int (nI h)), (3, .int (xf_B (xf_any (mdCh mc h) (v + 1)))), (4, .int (xf_B (xf_any (mdMP mh ma mc t h) (v + 1)))), (5, .int (nI (v + 1)))] := xf_lv hl (by simp [xf_any, mdCh, mdMP, xf_B, c12, c27, c34, c45])
          exact ih8 (v + 1) ls (by show 32 - (v + 1) < 32 - v; omega) (by show (v + 1) ≤ 32; omega) hl
        ·
          refine lv_iconst (v := nI 1) hx hb dM_isMet_48 (by decide) ?_
          refine lv_goto (tgt := 53) hx hb dM_isMet_49 (by decide) ?_
          refine lv_istore (lv' := [(4, .int (nI 1)), (3, .int (nI 1)), (0, .ref h0), (1, .int (nI t)), (2, .int (nI h)), (5, .int (nI v))]) hx hb dM_isMet_53 hl (by decide) rfl (fun ls hl => ?_)
          refine lv_iinc (v := nI (v + 1)) (lv' := [(5, .int (nI (v + 1))), (4, .int (nI 1)), (3, .int (nI 1)), (0, .ref h0), (1, .int (nI t)), (2, .int (nI h))]) hx hb dM_isMet_55 hl (k := 5) rfl (by exact nI_1 v) (by decide) rfl (fun ls hl => ?_)
          refine lv_goto (tgt := 8) hx hb dM_isMet_58 (by decide) ?_
          have hl := lv_sub (l' := [(0, .ref h0), (1, .int (nI t)), (2, .int (nI h)), (3, .int (nI 1)), (4, .int (nI 1)), (5, .int (nI (v + 1)))]) hl [3, 4, 5, 2, 1, 0] rfl
          have hl : lv_has ls 6 [(0, .ref h0), (1, .int (nI t)), (2, .int (nI h)), (3, .int (xf_B (xf_any (mdCh mc h) (v + 1)))), (4, .int (xf_B (xf_any (mdMP mh ma mc t h) (v + 1)))), (5, .int (nI (v + 1)))] := xf_lv hl (by simp [xf_any, mdCh, mdMP, xf_B, c12, c27, c34, c45])
          exact ih8 (v + 1) ls (by show 32 - (v + 1) < 32 - v; omega) (by show (v + 1) ≤ 32; omega) hl
set_option maxHeartbeats 4000000 in
set_option maxRecDepth 100000 in
/-- isKeptBut(t, hd) -/
theorem m_isKeptBut (l : Launch) (dC : Nat → ClassId) (dI : Nat → Nat → Nat) (h0 b1 b2 b3 b4 b5 : Nat) (cI cZ : ClassId) (mh : Nat → Bool) (ma : Nat → Int32) (mc : Nat → Bool) (mt mn : Nat → Int32) (cd ro : Int32) (t : Nat) (hd : Int32) (ht : t < 40) (hOk : mdOk ma) (hAc : mdAc ma) : Met l yM_isKeptBut wsM_isKeptBut ({ frames := 3, cells := 0, slots := 0, locals := 73 }) (va_Pc [.ref h0, .int (nI t), .int hd] (fun U => va_P (dC, dI) fmCl (mw h0 b1 b2 b3 b4 b5 cI cZ mh ma mc mt mn cd ro) U.heap ∧ va_K (dC, dI) fmCl [(cI, .int), (cZ, .boolean)] U)) (vp_Si (fun r => r = xf_B (mdK mh ma mc t hd))) 0 0 (fun _ => False) := by
  refine Met.ofW (cc := cM_isKeptBut) (maxL := 5) (ret := (some .boolean)) (by decide) rfl ?_
  intro p e s m args below meth c s₁ B hml hv
  obtain ⟨rfl, hP, hK⟩ := hv
  have hx := B.exec
  have hb := B.bytes
  have hr := B.returns
  have hts := atoms_spec (ws := wsM_isKeptBut) B.pre
  have hown : s.vm.findClass RX1 = some m.cls := findClass_of_methodNamed B.named
  have hlocks := B.notSynchronized
  have hl := lv_entry ([.ref h0, .int (nI t), .int hd]) (n := 5) (Nat.le_of_ble_eq_true rfl)
  rw [lg_entry_eq]
  generalize (lg_sl ([.ref h0, .int (nI t), .int hd]) ++ List.replicate (5 - (lg_sl ([.ref h0, .int (nI t), .int hd])).length) Slot.unset).toArray = ls at hl ⊢
  have hl : lv_has ls 5 [(0, .ref h0), (1, .int (nI t)), (2, .int hd)] := hl
  refine lv_iconst (v := nI 1) hx hb dM_isKeptBut_0 (by decide) ?_
  refine lv_istore_n (lv' := [(3, .int (nI 1)), (0, .ref h0), (1, .int (nI t)), (2, .int hd)]) hx hb dM_isKeptBut_1 rfl hl (by decide) rfl (fun ls hl => ?_)
  refine lv_iconst (v := nI 0) hx hb dM_isKeptBut_2 (by decide) ?_
  refine lv_istore (lv' := [(4, .int (nI 0)), (3, .int (nI 1)), (0, .ref h0), (1, .int (nI t)), (2, .int hd)]) hx hb dM_isKeptBut_3 hl (by decide) rfl (fun ls hl => ?_)
  refine xf_loopS (σ := Nat) (fun (z9 : Nat) => 8 - z9) (fun (z9 : Nat) => [(0, .ref h0), (1, .int (nI t)), (2, .int hd), (3, .int (xf_B (xf_all (mdKP mh ma mc t hd) z9))), (4, .int (nI z9))]) (fun (z9 : Nat) => z9 ≤ 8) 0 (lv_sub hl [2, 3, 4, 1, 0] rfl) (Nat.zero_le _) (fun z9 ls hi hl ih5 => ?_)
  obtain ⟨h, hxe⟩ : ∃ z, z = z9 := ⟨_, rfl⟩
  subst hxe
  have hl : lv_has ls 5 [(0, .ref h0), (1, .int (nI t)), (2, .int hd), (3, .int (xf_B (xf_all (mdKP mh ma mc t hd) h))), (4, .int (nI h))] := hl
  have hi : h ≤ 8 := hi
  refine lv_iload hx hb dM_isKeptBut_5 (lv_at hl 4 rfl) ?_
  refine lv_bipush (v := nI 8) hx hb dM_isKeptBut_7 (by decide) ?_
  refine xf_ge (tgt := 44) hx hb dM_isKeptBut_9 (by decide) (by omega) (by omega) (fun c9 => ?_) (fun c9 => ?_)
  ·
    obtain rfl : h = 8 := by omega
    refine lv_iload_n hx hb dM_isKeptBut_44 rfl (lv_at hl 3 rfl) ?_
    exact W.zret (v := xf_B (xf_all (mdKP mh ma mc t hd) 8)) hx hb hr (by first | rfl | exact xf_B_narrow _) (fun t9 ht9 hW9 => ⟨_, rfl, rfl, ht9⟩) (fun q h => nomatch h) dM_isKeptBut_45
  ·
    refine lv_iload_n hx hb dM_isKeptBut_12 rfl (lv_at hl 3 rfl) ?_
    refine xf_Beq (tgt := 36) hx hb dM_isKeptBut_13 (by decide) (fun c13 => ?_) (fun c13 => ?_)
    ·
      refine lv_iconst (v := nI 0) hx hb dM_isKeptBut_36 (by decide) ?_
      refine lv_istore_n (lv' := [(3, .int (nI 0)), (0, .ref h0), (1, .int (nI t)), (2, .int hd), (4, .int (nI h))]) hx hb dM_isKeptBut_37 rfl hl (by decide) rfl (fun ls hl => ?_)
      refine lv_iinc (v := nI (h + 1)) (lv' := [(4, .int (nI (h + 1))), (3, .int (nI 0)), (0, .ref h0), (1, .int (nI t)), (2, .int hd)]) hx hb dM_isKeptBut_38 hl (k := 4) rfl (by exact nI_1 h) (by decide) rfl (fun ls hl => ?_)
      refine lv_goto (tgt := 5) hx hb dM_isKeptBut_41 (by decide) ?_
      have hl := lv_sub (l' := [(0, .ref h0), (1, .int (nI t)), (2, .int hd), (3, .int (nI 0)), (4, .int (nI (h + 1)))]) hl [2, 3, 4, 1, 0] rfl
      have hl : lv_has ls 5 [(0, .ref h0), (1, .int (nI t)), (2, .int hd), (3, .int (xf_B (xf_all (mdKP mh ma mc t hd) (h + 1)))), (4, .int (nI (h + 1)))] := xf_lv hl (by simp [xf_all, mdKP, xf_B, c9, c13])
      exact ih5 (h + 1) ls (by show 8 - (h + 1) < 8 - h; omega) (by show (h + 1) ≤ 8; omega) hl
    ·
      refine lv_iload hx hb dM_isKeptBut_16 (lv_at hl 4 rfl) ?_
      refine lv_iload_n hx hb dM_isKeptBut_18 rfl (lv_at hl 2 rfl) ?_
      refine lv_icmp_eq (tgt := 32) hx hb dM_isKeptBut_19 (by decide) (fun c19 => ?_) (fun c19 => ?_)
      ·
        refine lv_iconst (v := nI 1) hx hb dM_isKeptBut_32 (by decide) ?_
        refine lv_goto (tgt := 37) hx hb dM_isKeptBut_33 (by decide) ?_
        refine lv_istore_n (lv' := [(3, .int (nI 1)), (0, .ref h0), (1, .int (nI t)), (2, .int hd), (4, .int (nI h))]) hx hb dM_isKeptBut_37 rfl hl (by decide) rfl (fun ls hl => ?_)
        refine lv_iinc (v := nI (h + 1)) (lv' := [(4, .int (nI (h + 1))), (3, .int (nI 1)), (0, .ref h0), (1, .int (nI t)), (2, .int hd)]) hx hb dM_isKeptBut_38 hl (k := 4) rfl (by exact nI_1 h) (by decide) rfl (fun ls hl => ?_)
        refine lv_goto (tgt := 5) hx hb dM_isKeptBut_41 (by decide) ?_
        have hl := lv_sub (l' := [(0, .ref h0), (1, .int (nI t)), (2, .int hd), (3, .int (nI 1)), (4, .int (nI (h + 1)))]) hl [2, 3, 4, 1, 0] rfl
        have hl : lv_has ls 5 [(0, .ref h0), (1, .int (nI t)), (2, .int hd), (3, .int (xf_B (xf_all (mdKP mh ma mc t hd) (h + 1)))), (4, .int (nI (h + 1)))] := xf_lv hl (by simp [xf_all, mdKP, xf_B, c9, c13, c19])
        exact ih5 (h + 1) ls (by show 8 - (h + 1) < 8 - h; omega) (by show (h + 1) ≤ 8; omega) hl
      ·
        refine lv_aload_n hx hb dM_isKeptBut_22 rfl (lv_at hl 0 rfl) ?_
        refine lv_iload_n hx hb dM_isKeptBut_23 rfl (lv_at hl 1 rfl) ?_
        refine lv_iload hx hb dM_isKeptBut_24 (lv_at hl 4 rfl) ?_
        refine vp_callSi (W.runV (As := [.int (nI t), .int (nI h)]) (rest := []) ⟨hx, hb, hml, hown, hts⟩ (m_isMet l dC dI h0 b1 b2 b3 b4 b5 cI cZ mh ma mc mt mn cd ro t h (by omega) (by omega) hOk hAc) (cwV 2 hts gM_isKeptBut_isMet rfl rfl rfl (by decide +kernel) ⟨Nat.le_of_ble_eq_true rfl, Nat.le_of_ble_eq_true rfl⟩) (xf_preV (ci := 1) (RX1, TM, 7) hK hP rfl rfl) rfl rfl hl.1 rfl (lv_room (Nat.le_of_ble_eq_true rfl)) dM_isKeptBut_26 ⟨Nat.zero_le _, Nat.zero_le _⟩) (fun r hr9 => ?_)
        subst hr9
        refine xf_Beq (tgt := 36) hx hb dM_isKeptBut_29 (by decide) (fun c29 => ?_) (fun c29 => ?_)
        ·
          refine lv_iconst (v := nI 0) hx hb dM_isKeptBut_36 (by decide) ?_
          refine lv_istore_n (lv' := [(3, .int (nI 0)), (0, .ref h0), (1, .int (nI t)), (2, .int hd), (4, .int (nI h))]) hx hb dM_isKeptBut_37 rfl hl (by decide) rfl (fun ls hl => ?_)
          refine lv_iinc (v := nI (h + 1)) (lv' := [(4, .int (nI (h + 1))), (3, .int (nI 0)), (0, .ref h0), (1, .int (nI t)), (2, .int hd)]) hx hb dM_isKeptBut_38 hl (k := 4) rfl (by exact nI_1 h) (by decide) rfl (fun ls hl => ?_)
          refine lv_goto (tgt := 5) hx hb dM_isKeptBut_41 (by decide) ?_
          have hl := lv_sub (l' := [(0, .ref h0), (1, .int (nI t)), (2, .int hd), (3, .int (nI 0)), (4, .int (nI (h + 1)))]) hl [2, 3, 4, 1, 0] rfl
          have hl : lv_has ls 5 [(0, .ref h0), (1, .int (nI t)), (2, .int hd), (3, .int (xf_B (xf_all (mdKP mh ma mc t hd) (h + 1)))), (4, .int (nI (h + 1)))] := xf_lv hl (by simp [xf_all, mdKP, xf_B, c9, c13, c19, c29])
          exact ih5 (h + 1) ls (by show 8 - (h + 1) < 8 - h; omega) (by show (h + 1) ≤ 8; omega) hl
        ·
          refine lv_iconst (v := nI 1) hx hb dM_isKeptBut_32 (by decide) ?_
          refine lv_goto (tgt := 37) hx hb dM_isKeptBut_33 (by decide) ?_
          refine lv_istore_n (lv' := [(3, .int (nI 1)), (0, .ref h0), (1, .int (nI t)), (2, .int hd), (4, .int (nI h))]) hx hb dM_isKeptBut_37 rfl hl (by decide) rfl (fun ls hl => ?_)
          refine lv_iinc (v := nI (h + 1)) (lv' := [(4, .int (nI (h + 1))), (3, .int (nI 1)), (0, .ref h0), (1, .int (nI t)), (2, .int hd)]) hx hb dM_isKeptBut_38 hl (k := 4) rfl (by exact nI_1 h) (by decide) rfl (fun ls hl => ?_)
          refine lv_goto (tgt := 5) hx hb dM_isKeptBut_41 (by decide) ?_
          have hl := lv_sub (l' := [(0, .ref h0), (1, .int (nI t)), (2, .int hd), (3, .int (nI 1)), (4, .int (nI (h + 1)))]) hl [2, 3, 4, 1, 0] rfl
          have hl : lv_has ls 5 [(0, .ref h0), (1, .int (nI t)), (2, .int hd), (3, .int (xf_B (xf_all (mdKP mh ma mc t hd) (h + 1)))), (4, .int (nI (h + 1)))] := xf_lv hl (by simp [xf_all, mdKP, xf_B, c9, c13, c19, c29])
          exact ih5 (h + 1) ls (by show 8 - (h + 1) < 8 - h; omega) (by show (h + 1) ≤ 8; omega) hl
set_option maxHeartbeats 4000000 in
set_option maxRecDepth 100000 in
/-- count(h, v) -/
theorem m_count (l : Launch) (dC : Nat → ClassId) (dI : Nat → Nat → Nat) (h0 b1 b2 b3 b4 b5 : Nat) (cI cZ : ClassId) (mh : Nat → Bool) (ma : Nat → Int32) (mc : Nat → Bool) (mt mn : Nat → Int32) (cd ro : Int32) (h v : Nat) (hh : h < 8) (hv9 : v < 32) (hOk : mdOk ma) (hAc : mdAc ma) : Met l yM_count wsM_count ({ frames := 4, cells := 0, slots := 0, locals := 97 }) (va_Pc [.ref h0, .int (nI h), .int (nI v)] (fun U => va_P (dC, dI) fmCl (mw h0 b1 b2 b3 b4 b5 cI cZ mh ma mc mt mn cd ro) U.heap ∧ va_K (dC, dI) fmCl [(cI, .int), (cZ, .boolean)] U)) (vp_Si (fun r => r = nI (mdN mh ma mc h v))) 0 0 (fun _ => False) := by
  refine Met.ofW (cc := cM_count) (maxL := 5) (ret := (some .int)) (by decide) rfl ?_
  intro p e s m args below meth c s₁ B hml hv
  obtain ⟨rfl, hP, hK⟩ := hv
  have hx := B.exec
  have hb := B.bytes
  have hr := B.returns
  have hts := atoms_spec (ws := wsM_count) B.pre
  have hown : s.vm.findClass RX1 = some m.cls := findClass_of_methodNamed B.named
  have hlocks := B.notSynchronized
  have hl := lv_entry ([.ref h0, .int (nI h), .int (nI v)]) (n := 5) (Nat.le_of_ble_eq_true rfl)
  rw [lg_entry_eq]
  generalize (lg_sl ([.ref h0, .int (nI h), .int (nI v)]) ++ List.replicate (5 - (lg_sl ([.ref h0, .int (nI h), .int (nI v)])).length) Slot.unset).toArray = ls at hl ⊢
  have hl : lv_has ls 5 [(0, .ref h0), (1, .int (nI h)), (2, .int (nI v))] := hl
  refine lv_iconst (v := nI 0) hx hb dM_count_0 (by decide) ?_
  refine lv_istore_n (lv' := [(3, .int (nI 0)), (0, .ref h0), (1, .int (nI h)), (2, .int (nI v))]) hx hb dM_count_1 rfl hl (by decide) rfl (fun ls hl => ?_)
  refine lv_iconst (v := nI 0) hx hb dM_count_2 (by decide) ?_
  refine lv_istore (lv' := [(4, .int (nI 0)), (3, .int (nI 0)), (0, .ref h0), (1, .int (nI h)), (2, .int (nI v))]) hx hb dM_count_3 hl (by decide) rfl (fun ls hl => ?_)
  refine xf_loopS (σ := Nat) (fun (z9 : Nat) => 40 - z9) (fun (z9 : Nat) => [(0, .ref h0), (1, .int (nI h)), (2, .int (nI v)), (3, .int (nI (xf_cnt (mdNP mh ma mc h v) z9))), (4, .int (nI z9))]) (fun (z9 : Nat) => z9 ≤ 40) 0 (lv_sub hl [2, 3, 4, 1, 0] rfl) (Nat.zero_le _) (fun z9 ls hi hl ih5 => ?_)
  obtain ⟨t, hxe⟩ : ∃ z, z = z9 := ⟨_, rfl⟩
  subst hxe
  have hl : lv_has ls 5 [(0, .ref h0), (1, .int (nI h)), (2, .int (nI v)), (3, .int (nI (xf_cnt (mdNP mh ma mc h v) t))), (4, .int (nI t))] := hl
  have hi : t ≤ 40 := hi
  refine lv_iload hx hb dM_count_5 (lv_at hl 4 rfl) ?_
  refine lv_bipush (v := nI 40) hx hb dM_count_7 (by decide) ?_
  refine xf_ge (tgt := 47) hx hb dM_count_9 (by decide) (by omega) (by omega) (fun c9 => ?_) (fun c9 => ?_)
  ·
    obtain rfl : t = 40 := by omega
    refine lv_iload_n hx hb dM_count_47 rfl (lv_at hl 3 rfl) ?_
    exact W.iret (v := nI (xf_cnt (mdNP mh ma mc h v) 40)) hx hb hr (fun t9 ht9 hW9 => ⟨_, rfl, rfl, ht9⟩) (fun q h => nomatch h) dM_count_48
  ·
    refine lv_iload_n hx hb dM_count_12 rfl (lv_at hl 3 rfl) ?_
    refine lv_aload_n hx hb dM_count_13 rfl (lv_at hl 0 rfl) ?_
    refine lv_iload hx hb dM_count_14 (lv_at hl 4 rfl) ?_
    refine lv_iload_n hx hb dM_count_16 rfl (lv_at hl 1 rfl) ?_
    refine lv_iload_n hx hb dM_count_17 rfl (lv_at hl 2 rfl) ?_
    refine vp_callSi (W.runV (As := [.int (nI t), .int (nI h), .int (nI v)]) (rest := [.int (nI (xf_cnt (mdNP mh ma mc h v) t))]) ⟨hx, hb, hml, hown, hts⟩ (m_owns l dC dI h0 b1 b2 b3 b4 b5 cI cZ mh ma mc mt mn cd ro t h v (by omega) (by omega) (by omega) hOk hAc) (cwV 3 hts gM_count_owns rfl rfl rfl (by decide +kernel) ⟨Nat.le_of_ble_eq_true rfl, Nat.le_of_ble_eq_true rfl⟩) (xf_preV (ci := 1) (RX1, TM, 7) hK hP rfl rfl) rfl rfl hl.1 rfl (lv_room (Nat.le_of_ble_eq_true rfl)) dM_count_18 ⟨Nat.zero_le _, Nat.zero_le _⟩) (fun r hr9 => ?_)
    subst hr9
    refine xf_Beq (tgt := 38) hx hb dM_count_21 (by decide) (fun c21 => ?_) (fun c21 => ?_)
    ·
      refine lv_iconst (v := nI 0) hx hb dM_count_38 (by decide) ?_
      refine lv_iadd hx hb dM_count_39 ?_
      refine xf_be (y := nI (xf_cnt (mdNP mh ma mc h v) t + 0)) (by exact nI_add _ _) ?_
      refine lv_istore_n (lv' := [(3, .int (nI (xf_cnt (mdNP mh ma mc h v) t + 0))), (0, .ref h0), (1, .int (nI h)), (2, .int (nI v)), (4, .int (nI t))]) hx hb dM_count_40 rfl hl (by decide) rfl (fun ls hl => ?_)
      refine lv_iinc (v := nI (t + 1)) (lv' := [(4, .int (nI (t + 1))), (3, .int (nI (xf_cnt (mdNP mh ma mc h v) t + 0))), (0, .ref h0), (1, .int (nI h)), (2, .int (nI v))]) hx hb dM_count_41 hl (k := 4) rfl (by exact nI_1 t) (by decide) rfl (fun ls hl => ?_)
      refine lv_goto (tgt := 5) hx hb dM_count_44 (by decide) ?_
      have hl := lv_sub (l' := [(0, .ref h0), (1, .int (nI h)), (2, .int (nI v)), (3, .int (nI (xf_cnt (mdNP mh ma mc h v) t + 0))), (4, .int (nI (t + 1)))]) hl [2, 3, 4, 1, 0] rfl
      have hl : lv_has ls 5 [(0, .ref h0), (1, .int (nI h)), (2, .int (nI v)), (3, .int (nI (xf_cnt (mdNP mh ma mc h v) (t + 1)))), (4, .int (nI (t + 1)))] := xf_lv hl (by simp [xf_cnt, mdNP, c9, c21])
      exact ih5 (t + 1) ls (by show 40 - (t + 1) < 40 - t; omega) (by show (t + 1) ≤ 40; omega) hl
    ·
      refine lv_aload_n hx hb dM_count_24 rfl (lv_at hl 0 rfl) ?_
      refine lv_iload hx hb dM_count_25 (lv_at hl 4 rfl) ?_
      refine lv_iload_n hx hb dM_count_27 rfl (lv_at hl 1 rfl) ?_
      refine vp_callSi (W.runV (As := [.int (nI t), .int (nI h)]) (rest := [.int (nI (xf_cnt (mdNP mh ma mc h v) t))]) ⟨hx, hb, hml, hown, hts⟩ (m_isKeptBut l dC dI h0 b1 b2 b3 b4 b5 cI cZ mh ma mc mt mn cd ro t (nI h) (by omega) hOk hAc) (cwV 2 hts gM_count_isKeptBut rfl rfl rfl (by decide +kernel) ⟨Nat.le_of_ble_eq_true rfl, Nat.le_of_ble_eq_true rfl⟩) (xf_preV (ci := 1) (RX1, TM, 7) hK hP rfl rfl) rfl rfl hl.1 rfl (lv_room (Nat.le_of_ble_eq_true rfl)) dM_count_28 ⟨Nat.zero_le _, Nat.zero_le _⟩) (fun r hr9 => ?_)
      subst hr9
      refine xf_Beq (tgt := 38) hx hb dM_count_31 (by decide) (fun c31 => ?_) (fun c31 => ?_)
      ·
        refine lv_iconst (v := nI 0) hx hb dM_count_38 (by decide) ?_
        refine lv_iadd hx hb dM_count_39 ?_
        refine xf_be (y := nI (xf_cnt (mdNP mh ma mc h v) t + 0)) (by exact nI_add _ _) ?_
        refine lv_istore_n (lv' := [(3, .int (nI (xf_cnt (mdNP mh ma mc h v) t + 0))), (0, .ref h0), (1, .int (nI h)), (2, .int (nI v)), (4, .int (nI t))]) hx hb dM_count_40 rfl hl (by decide) rfl (fun ls hl => ?_)
        refine lv_iinc (v := nI (t + 1)) (lv' := [(4, .int (nI (t + 1))), (3, .int (nI (xf_cnt (mdNP mh ma mc h v) t + 0))), (0, .ref h0), (1, .int (nI h)), (2, .int (nI v))]) hx hb dM_count_41 hl (k := 4) rfl (by exact nI_1 t) (by decide) rfl (fun ls hl => ?_)
        refine lv_goto (tgt := 5) hx hb dM_count_44 (by decide) ?_
        have hl := lv_sub (l' := [(0, .ref h0), (1, .int (nI h)), (2, .int (nI v)), (3, .int (nI (xf_cnt (mdNP mh ma mc h v) t + 0))), (4, .int (nI (t + 1)))]) hl [2, 3, 4, 1, 0] rfl
        have hl : lv_has ls 5 [(0, .ref h0), (1, .int (nI h)), (2, .int (nI v)), (3, .int (nI (xf_cnt (mdNP mh ma mc h v) (t + 1)))), (4, .int (nI (t + 1)))] := xf_lv hl (by simp [xf_cnt, mdNP, c9, c21, c31])
        exact ih5 (t + 1) ls (by show 40 - (t + 1) < 40 - t; omega) (by show (t + 1) ≤ 40; omega) hl
      ·
        refine lv_iconst (v := nI 1) hx hb dM_count_34 (by decide) ?_
        refine lv_goto (tgt := 39) hx hb dM_count_35 (by decide) ?_
        refine lv_iadd hx hb dM_count_39 ?_
        refine xf_be (y := nI (xf_cnt (mdNP mh ma mc h v) t + 1)) (by exact nI_add _ _) ?_
        refine lv_istore_n (lv' := [(3, .int (nI (xf_cnt (mdNP mh ma mc h v) t + 1))), (0, .ref h0), (1, .int (nI h)), (2, .int (nI v)), (4, .int (nI t))]) hx hb dM_count_40 rfl hl (by decide) rfl (fun ls hl => ?_)
        refine lv_iinc (v := nI (t + 1)) (lv' := [(4, .int (nI (t + 1))), (3, .int (nI (xf_cnt (mdNP mh ma mc h v) t + 1))), (0, .ref h0), (1, .int (nI h)), (2, .int (nI v))]) hx hb dM_count_41 hl (k := 4) rfl (by exact nI_1 t) (by decide) rfl (fun ls hl => ?_)
        refine lv_goto (tgt := 5) hx hb dM_count_44 (by decide) ?_
        have hl := lv_sub (l' := [(0, .ref h0), (1, .int (nI h)), (2, .int (nI v)), (3, .int (nI (xf_cnt (mdNP mh ma mc h v) t + 1))), (4, .int (nI (t + 1)))]) hl [2, 3, 4, 1, 0] rfl
        have hl : lv_has ls 5 [(0, .ref h0), (1, .int (nI h)), (2, .int (nI v)), (3, .int (nI (xf_cnt (mdNP mh ma mc h v) (t + 1)))), (4, .int (nI (t + 1)))] := xf_lv hl (by simp [xf_cnt, mdNP, c9, c21, c31])
        exact ih5 (t + 1) ls (by show 40 - (t + 1) < 40 - t; omega) (by show (t + 1) ≤ 40; omega) hl
set_option maxHeartbeats 4000000 in
set_option maxRecDepth 100000 in
/-- all(hd) -/
theorem m_all (l : Launch) (dC : Nat → ClassId) (dI : Nat → Nat → Nat) (h0 b1 b2 b3 b4 b5 : Nat) (cI cZ : ClassId) (mh : Nat → Bool) (ma : Nat → Int32) (mc : Nat → Bool) (mt mn : Nat → Int32) (cd ro : Int32) (hd : Int32) (hOk : mdOk ma) (hAc : mdAc ma) : Met l yM_all wsM_all ({ frames := 4, cells := 0, slots := 0, locals := 97 }) (va_Pc [.ref h0, .int hd] (fun U => va_P (dC, dI) fmCl (mw h0 b1 b2 b3 b4 b5 cI cZ mh ma mc mt mn cd ro) U.heap ∧ va_K (dC, dI) fmCl [(cI, .int), (cZ, .boolean)] U)) (vp_Si (fun r => r = nI (xf_cnt (mdAP mh ma mc hd) 40))) 0 0 (fun _ => False) := by
  refine Met.ofW (cc := cM_all) (maxL := 4) (ret := (some .int)) (by decide) rfl ?_
  intro p e s m args below meth c s₁ B hml hv
  obtain ⟨rfl, hP, hK⟩ := hv
  have hx := B.exec
  have hb := B.bytes
  have hr := B.returns
  have hts := atoms_spec (ws := wsM_all) B.pre
  have hown : s.vm.findClass RX1 = some m.cls := findClass_of_methodNamed B.named
  have hlocks := B.notSynchronized
  have hl := lv_entry ([.ref h0, .int hd]) (n := 4) (Nat.le_of_ble_eq_true rfl)
  rw [lg_entry_eq]
  generalize (lg_sl ([.ref h0, .int hd]) ++ List.replicate (4 - (lg_sl ([.ref h0, .int hd])).length) Slot.unset).toArray = ls at hl ⊢
  have hl : lv_has ls 4 [(0, .ref h0), (1, .int hd)] := hl
  refine lv_iconst (v := nI 0) hx hb dM_all_0 (by decide) ?_
  refine lv_istore_n (lv' := [(2, .int (nI 0)), (0, .ref h0), (1, .int hd)]) hx hb dM_all_1 rfl hl (by decide) rfl (fun ls hl => ?_)
  refine lv_iconst (v := nI 0) hx hb dM_all_2 (by decide) ?_
  refine lv_istore_n (lv' := [(3, .int (nI 0)), (2, .int (nI 0)), (0, .ref h0), (1, .int hd)]) hx hb dM_all_3 rfl hl (by decide) rfl (fun ls hl => ?_)
  refine xf_loopS (σ := Nat) (fun (z9 : Nat) => 40 - z9) (fun (z9 : Nat) => [(0, .ref h0), (1, .int hd), (2, .int (nI (xf_cnt (mdAP mh ma mc hd) z9))), (3, .int (nI z9))]) (fun (z9 : Nat) => z9 ≤ 40) 0 (lv_sub hl [2, 3, 1, 0] rfl) (Nat.zero_le _) (fun z9 ls hi hl ih4 => ?_)
  obtain ⟨t, hxe⟩ : ∃ z, z = z9 := ⟨_, rfl⟩
  subst hxe
  have hl : lv_has ls 4 [(0, .ref h0), (1, .int hd), (2, .int (nI (xf_cnt (mdAP mh ma mc hd) t))), (3, .int (nI t))] := hl
  have hi : t ≤ 40 := hi
  refine lv_iload_n hx hb dM_all_4 rfl (lv_at hl 3 rfl) ?_
  refine lv_bipush (v := nI 40) hx hb dM_all_5 (by decide) ?_
  refine xf_ge (tgt := 33) hx hb dM_all_7 (by decide) (by omega) (by omega) (fun c7 => ?_) (fun c7 => ?_)
  ·
    obtain rfl : t = 40 := by omega
    refine lv_iload_n hx hb dM_all_33 rfl (lv_at hl 2 rfl) ?_
    exact W.iret (v := nI (xf_cnt (mdAP mh ma mc hd) 40)) hx hb hr (fun t9 ht9 hW9 => ⟨_, rfl, rfl, ht9⟩) (fun q h => nomatch h) dM_all_34
  ·
    refine lv_iload_n hx hb dM_all_10 rfl (lv_at hl 2 rfl) ?_
    refine lv_aload_n hx hb dM_all_11 rfl (lv_at hl 0 rfl) ?_
    refine lv_iload_n hx hb dM_all_12 rfl (lv_at hl 3 rfl) ?_
    refine lv_iload_n hx hb dM_all_13 rfl (lv_at hl 1 rfl) ?_
    refine vp_callSi (W.runV (As := [.int (nI t), .int hd]) (rest := [.int (nI (xf_cnt (mdAP mh ma mc hd) t))]) ⟨hx, hb, hml, hown, hts⟩ (m_isKeptBut l dC dI h0 b1 b2 b3 b4 b5 cI cZ mh ma mc mt mn cd ro t hd (by omega) hOk hAc) (cwV 2 hts gM_all_isKeptBut rfl rfl rfl (by decide +kernel) ⟨Nat.le_of_ble_eq_true rfl, Nat.le_of_ble_eq_true rfl⟩) (xf_preV (ci := 1) (RX1, TM, 7) hK hP rfl rfl) rfl rfl hl.1 rfl (lv_room (Nat.le_of_ble_eq_true rfl)) dM_all_14 ⟨Nat.zero_le _, Nat.zero_le _⟩) (fun r hr9 => ?_)
    subst hr9
    refine xf_Beq (tgt := 24) hx hb dM_all_17 (by decide) (fun c17 => ?_) (fun c17 => ?_)
    ·
      refine lv_iconst (v := nI 0) hx hb dM_all_24 (by decide) ?_
      refine lv_iadd hx hb dM_all_25 ?_
      refine xf_be (y := nI (xf_cnt (mdAP mh ma mc hd) t + 0)) (by exact nI_add _ _) ?_
      refine lv_istore_n (lv' := [(2, .int (nI (xf_cnt (mdAP mh ma mc hd) t + 0))), (0, .ref h0), (1, .int hd), (3, .int (nI t))]) hx hb dM_all_26 rfl hl (by decide) rfl (fun ls hl => ?_)
      refine lv_iinc (v := nI (t + 1)) (lv' := [(3, .int (nI (t + 1))), (2, .int (nI (xf_cnt (mdAP mh ma mc hd) t + 0))), (0, .ref h0), (1, .int hd)]) hx hb dM_all_27 hl (k := 3) rfl (by exact nI_1 t) (by decide) rfl (fun ls hl => ?_)
      refine lv_goto (tgt := 4) hx hb dM_all_30 (by decide) ?_
      have hl := lv_sub (l' := [(0, .ref h0), (1, .int hd), (2, .int (nI (xf_cnt (mdAP mh ma mc hd) t + 0))), (3, .int (nI (t + 1)))]) hl [2, 3, 1, 0] rfl
      have hl : lv_has ls 4 [(0, .ref h0), (1, .int hd), (2, .int (nI (xf_cnt (mdAP mh ma mc hd) (t + 1)))), (3, .int (nI (t + 1)))] := xf_lv hl (by simp [xf_cnt, mdAP, c7, c17])
      exact ih4 (t + 1) ls (by show 40 - (t + 1) < 40 - t; omega) (by show (t + 1) ≤ 40; omega) hl
    ·
      refine lv_iconst (v := nI 1) hx hb dM_all_20 (by decide) ?_
      refine lv_goto (tgt := 25) hx hb dM_all_21 (by decide) ?_
      refine lv_iadd hx hb dM_all_25 ?_
      refine xf_be (y := nI (xf_cnt (mdAP mh ma mc hd) t + 1)) (by exact nI_add _ _) ?_
      refine lv_istore_n (lv' := [(2, .int (nI (xf_cnt (mdAP mh ma mc hd) t + 1))), (0, .ref h0), (1, .int hd), (3, .int (nI t))]) hx hb dM_all_26 rfl hl (by decide) rfl (fun ls hl => ?_)
      refine lv_iinc (v := nI (t + 1)) (lv' := [(3, .int (nI (t + 1))), (2, .int (nI (xf_cnt (mdAP mh ma mc hd) t + 1))), (0, .ref h0), (1, .int hd)]) hx hb dM_all_27 hl (k := 3) rfl (by exact nI_1 t) (by decide) rfl (fun ls hl => ?_)
      refine lv_goto (tgt := 4) hx hb dM_all_30 (by decide) ?_
      have hl := lv_sub (l' := [(0, .ref h0), (1, .int hd), (2, .int (nI (xf_cnt (mdAP mh ma mc hd) t + 1))), (3, .int (nI (t + 1)))]) hl [2, 3, 1, 0] rfl
      have hl : lv_has ls 4 [(0, .ref h0), (1, .int hd), (2, .int (nI (xf_cnt (mdAP mh ma mc hd) (t + 1)))), (3, .int (nI (t + 1)))] := xf_lv hl (by simp [xf_cnt, mdAP, c7, c17])
      exact ih4 (t + 1) ls (by show 40 - (t + 1) < 40 - t; omega) (by show (t + 1) ≤ 40; omega) hl
