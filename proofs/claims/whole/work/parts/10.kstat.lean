set_option maxHeartbeats 4000000 in
set_option maxRecDepth 100000 in
/-- isThing(x) -/
theorem k_isThing (l : Launch) (x : Int32) : Met l yX0_isThing wsX0_isThing ({ frames := 0, cells := 0, slots := 0, locals := 0 }) (va_Pc [.int x] (fun _ => True)) (vp_Si (fun r => r = xf_B (xf_in x 40))) 0 0 (fun _ => False) := by
  refine Met.ofW (cc := cX0_isThing) (maxL := 1) (ret := (some .boolean)) (by decide) rfl ?_
  intro p e s m args below meth c s₁ B hml hv
  obtain ⟨rfl, -⟩ := hv
  have hx := B.exec
  have hb := B.bytes
  have hr := B.returns
  have hts := atoms_spec (ws := wsX0_isThing) B.pre
  have hown : s.vm.findClass RX0 = some m.cls := findClass_of_methodNamed B.named
  have hlocks := B.notSynchronized
  have hl := lv_entry ([.int x]) (n := 1) (Nat.le_of_ble_eq_true rfl)
  rw [lg_entry_eq]
  generalize (lg_sl ([.int x]) ++ List.replicate (1 - (lg_sl ([.int x])).length) Slot.unset).toArray = ls at hl ⊢
  have hl : lv_has ls 1 [(0, .int x)] := hl
  refine lv_iload_n hx hb dX0_isThing_0 rfl (lv_at hl 0 rfl) ?_
  refine lv_if_lt (tgt := 14) hx hb dX0_isThing_1 (by decide) (fun c1 => ?_) (fun c1 => ?_)
  ·
    refine lv_iconst (v := nI 0) hx hb dX0_isThing_14 (by decide) ?_
    exact W.zret (v := nI 0) hx hb hr (by first | rfl | exact xf_B_narrow _) (fun t9 ht9 hW9 => ⟨_, rfl, by rw [xf_in_split x (by decide), decide_eq_true c1]; rfl, ht9⟩) (fun q h => nomatch h) dX0_isThing_15
  ·
    refine lv_iload_n hx hb dX0_isThing_4 rfl (lv_at hl 0 rfl) ?_
    refine lv_bipush (v := nI 40) hx hb dX0_isThing_5 (by decide) ?_
    refine lv_icmp_ge (tgt := 14) hx hb dX0_isThing_7 (by decide) (fun c7 => ?_) (fun c7 => ?_)
    ·
      refine lv_iconst (v := nI 0) hx hb dX0_isThing_14 (by decide) ?_
      exact W.zret (v := nI 0) hx hb hr (by first | rfl | exact xf_B_narrow _) (fun t9 ht9 hW9 => ⟨_, rfl, by rw [xf_in_split x (by decide), decide_eq_false (Int32.not_lt.mpr c7), Bool.and_false]; rfl, ht9⟩) (fun q h => nomatch h) dX0_isThing_15
    ·
      refine lv_iconst (v := nI 1) hx hb dX0_isThing_10 (by decide) ?_
      refine lv_goto (tgt := 15) hx hb dX0_isThing_11 (by decide) ?_
      exact W.zret (v := nI 1) hx hb hr (by first | rfl | exact xf_B_narrow _) (fun t9 ht9 hW9 => ⟨_, rfl, by rw [xf_in_split x (by decide), decide_eq_false c1, decide_eq_true (Int32.not_le.mp c7)]; rfl, ht9⟩) (fun q h => nomatch h) dX0_isThing_15
set_option maxHeartbeats 4000000 in
set_option maxRecDepth 100000 in
/-- isHead(x) -/
theorem k_isHead (l : Launch) (x : Int32) : Met l yX0_isHead wsX0_isHead ({ frames := 0, cells := 0, slots := 0, locals := 0 }) (va_Pc [.int x] (fun _ => True)) (vp_Si (fun r => r = xf_B (xf_in x 8))) 0 0 (fun _ => False) := by
  refine Met.ofW (cc := cX0_isHead) (maxL := 1) (ret := (some .boolean)) (by decide) rfl ?_
  intro p e s m args below meth c s₁ B hml hv
  obtain ⟨rfl, -⟩ := hv
  have hx := B.exec
  have hb := B.bytes
  have hr := B.returns
  have hts := atoms_spec (ws := wsX0_isHead) B.pre
  have hown : s.vm.findClass RX0 = some m.cls := findClass_of_methodNamed B.named
  have hlocks := B.notSynchronized
  have hl := lv_entry ([.int x]) (n := 1) (Nat.le_of_ble_eq_true rfl)
  rw [lg_entry_eq]
  generalize (lg_sl ([.int x]) ++ List.replicate (1 - (lg_sl ([.int x])).length) Slot.unset).toArray = ls at hl ⊢
  have hl : lv_has ls 1 [(0, .int x)] := hl
  refine lv_iload_n hx hb dX0_isHead_0 rfl (lv_at hl 0 rfl) ?_
  refine lv_if_lt (tgt := 14) hx hb dX0_isHead_1 (by decide) (fun c1 => ?_) (fun c1 => ?_)
  ·
    refine lv_iconst (v := nI 0) hx hb dX0_isHead_14 (by decide) ?_
    exact W.zret (v := nI 0) hx hb hr (by first | rfl | exact xf_B_narrow _) (fun t9 ht9 hW9 => ⟨_, rfl, by rw [xf_in_split x (by decide), decide_eq_true c1]; rfl, ht9⟩) (fun q h => nomatch h) dX0_isHead_15
  ·
    refine lv_iload_n hx hb dX0_isHead_4 rfl (lv_at hl 0 rfl) ?_
    refine lv_bipush (v := nI 8) hx hb dX0_isHead_5 (by decide) ?_
    refine lv_icmp_ge (tgt := 14) hx hb dX0_isHead_7 (by decide) (fun c7 => ?_) (fun c7 => ?_)
    ·
      refine lv_iconst (v := nI 0) hx hb dX0_isHead_14 (by decide) ?_
      exact W.zret (v := nI 0) hx hb hr (by first | rfl | exact xf_B_narrow _) (fun t9 ht9 hW9 => ⟨_, rfl, by rw [xf_in_split x (by decide), decide_eq_false (Int32.not_lt.mpr c7), Bool.and_false]; rfl, ht9⟩) (fun q h => nomatch h) dX0_isHead_15
    ·
      refine lv_iconst (v := nI 1) hx hb dX0_isHead_10 (by decide) ?_
      refine lv_goto (tgt := 15) hx hb dX0_isHead_11 (by decide) ?_
      exact W.zret (v := nI 1) hx hb hr (by first | rfl | exact xf_B_narrow _) (fun t9 ht9 hW9 => ⟨_, rfl, by rw [xf_in_split x (by decide), decide_eq_false c1, decide_eq_true (Int32.not_le.mp c7)]; rfl, ht9⟩) (fun q h => nomatch h) dX0_isHead_15
set_option maxHeartbeats 4000000 in
set_option maxRecDepth 100000 in
/-- isValue(x) -/
theorem k_isValue (l : Launch) (x : Int32) : Met l yX0_isValue wsX0_isValue ({ frames := 0, cells := 0, slots := 0, locals := 0 }) (va_Pc [.int x] (fun _ => True)) (vp_Si (fun r => r = xf_B (xf_in x 32))) 0 0 (fun _ => False) := by
  refine Met.ofW (cc := cX0_isValue) (maxL := 1) (ret := (some .boolean)) (by decide) rfl ?_
  intro p e s m args below meth c s₁ B hml hv
  obtain ⟨rfl, -⟩ := hv
  have hx := B.exec
  have hb := B.bytes
  have hr := B.returns
  have hts := atoms_spec (ws := wsX0_isValue) B.pre
  have hown : s.vm.findClass RX0 = some m.cls := findClass_of_methodNamed B.named
  have hlocks := B.notSynchronized
  have hl := lv_entry ([.int x]) (n := 1) (Nat.le_of_ble_eq_true rfl)
  rw [lg_entry_eq]
  generalize (lg_sl ([.int x]) ++ List.replicate (1 - (lg_sl ([.int x])).length) Slot.unset).toArray = ls at hl ⊢
  have hl : lv_has ls 1 [(0, .int x)] := hl
  refine lv_iload_n hx hb dX0_isValue_0 rfl (lv_at hl 0 rfl) ?_
  refine lv_if_lt (tgt := 14) hx hb dX0_isValue_1 (by decide) (fun c1 => ?_) (fun c1 => ?_)
  ·
    refine lv_iconst (v := nI 0) hx hb dX0_isValue_14 (by decide) ?_
    exact W.zret (v := nI 0) hx hb hr (by first | rfl | exact xf_B_narrow _) (fun t9 ht9 hW9 => ⟨_, rfl, by rw [xf_in_split x (by decide), decide_eq_true c1]; rfl, ht9⟩) (fun q h => nomatch h) dX0_isValue_15
  ·
    refine lv_iload_n hx hb dX0_isValue_4 rfl (lv_at hl 0 rfl) ?_
    refine lv_bipush (v := nI 32) hx hb dX0_isValue_5 (by decide) ?_
    refine lv_icmp_ge (tgt := 14) hx hb dX0_isValue_7 (by decide) (fun c7 => ?_) (fun c7 => ?_)
    ·
      refine lv_iconst (v := nI 0) hx hb dX0_isValue_14 (by decide) ?_
      exact W.zret (v := nI 0) hx hb hr (by first | rfl | exact xf_B_narrow _) (fun t9 ht9 hW9 => ⟨_, rfl, by rw [xf_in_split x (by decide), decide_eq_false (Int32.not_lt.mpr c7), Bool.and_false]; rfl, ht9⟩) (fun q h => nomatch h) dX0_isValue_15
    ·
      refine lv_iconst (v := nI 1) hx hb dX0_isValue_10 (by decide) ?_
      refine lv_goto (tgt := 15) hx hb dX0_isValue_11 (by decide) ?_
      exact W.zret (v := nI 1) hx hb hr (by first | rfl | exact xf_B_narrow _) (fun t9 ht9 hW9 => ⟨_, rfl, by rw [xf_in_split x (by decide), decide_eq_false c1, decide_eq_true (Int32.not_le.mp c7)]; rfl, ht9⟩) (fun q h => nomatch h) dX0_isValue_15
set_option maxHeartbeats 4000000 in
set_option maxRecDepth 100000 in
/-- holds(x, j) -/
theorem k_holds (l : Launch) (x : Int32) (j : Nat) (hj : j < 32) : Met l yX0_holds wsX0_holds ({ frames := 0, cells := 0, slots := 0, locals := 0 }) (va_Pc [.int x, .int (nI j)] (fun _ => True)) (vp_Si (fun r => r = xf_B (bt x j))) 0 0 (fun _ => False) := by
  refine Met.ofW (cc := cX0_holds) (maxL := 2) (ret := (some .boolean)) (by decide) rfl ?_
  intro p e s m args below meth c s₁ B hml hv
  obtain ⟨rfl, -⟩ := hv
  have hx := B.exec
  have hb := B.bytes
  have hr := B.returns
  have hts := atoms_spec (ws := wsX0_holds) B.pre
  have hown : s.vm.findClass RX0 = some m.cls := findClass_of_methodNamed B.named
  have hlocks := B.notSynchronized
  have hl := lv_entry ([.int x, .int (nI j)]) (n := 2) (Nat.le_of_ble_eq_true rfl)
  rw [lg_entry_eq]
  generalize (lg_sl ([.int x, .int (nI j)]) ++ List.replicate (2 - (lg_sl ([.int x, .int (nI j)])).length) Slot.unset).toArray = ls at hl ⊢
  have hl : lv_has ls 2 [(0, .int x), (1, .int (nI j))] := hl
  refine lv_iload_n hx hb dX0_holds_0 rfl (lv_at hl 0 rfl) ?_
  refine lv_iconst (v := nI 1) hx hb dX0_holds_1 (by decide) ?_
  refine lv_iload_n hx hb dX0_holds_2 rfl (lv_at hl 1 rfl) ?_
  refine lv_ishl hx hb dX0_holds_3 ?_
  refine xf_be (y := xf_bit j) (by rfl) ?_
  refine lv_iand hx hb dX0_holds_4 ?_
  refine lv_if_eq (tgt := 12) hx hb dX0_holds_5 (by decide) (fun c5 => ?_) (fun c5 => ?_)
  ·
    refine lv_iconst (v := nI 0) hx hb dX0_holds_12 (by decide) ?_
    exact W.zret (v := nI 0) hx hb hr (by first | rfl | exact xf_B_narrow _) (fun t9 ht9 hW9 => ⟨_, rfl, by rw [(xf_holds hj).mp c5]; rfl, ht9⟩) (fun q h => nomatch h) dX0_holds_13
  ·
    refine lv_iconst (v := nI 1) hx hb dX0_holds_8 (by decide) ?_
    refine lv_goto (tgt := 13) hx hb dX0_holds_9 (by decide) ?_
    exact W.zret (v := nI 1) hx hb hr (by first | rfl | exact xf_B_narrow _) (fun t9 ht9 hW9 => ⟨_, rfl, by rw [show bt x j = true from by cases hb9 : bt x j with | true => rfl | false => exact absurd ((xf_holds hj).mpr hb9) c5]; rfl, ht9⟩) (fun q h => nomatch h) dX0_holds_13
set_option maxHeartbeats 4000000 in
set_option maxRecDepth 100000 in
/-- sumOf(x) -/
theorem k_sumOf (l : Launch) (x : Int32) : Met l yX0_sumOf wsX0_sumOf ({ frames := 1, cells := 0, slots := 0, locals := 21 }) (va_Pc [.int x] (fun _ => True)) (vp_Si (fun r => r = nI (fcSO x 32))) 0 0 (fun _ => False) := by
  refine Met.ofW (cc := cX0_sumOf) (maxL := 3) (ret := (some .int)) (by decide) rfl ?_
  intro p e s m args below meth c s₁ B hml hv
  obtain ⟨rfl, -⟩ := hv
  have hx := B.exec
  have hb := B.bytes
  have hr := B.returns
  have hts := atoms_spec (ws := wsX0_sumOf) B.pre
  have hown : s.vm.findClass RX0 = some m.cls := findClass_of_methodNamed B.named
  have hlocks := B.notSynchronized
  have hl := lv_entry ([.int x]) (n := 3) (Nat.le_of_ble_eq_true rfl)
  rw [lg_entry_eq]
  generalize (lg_sl ([.int x]) ++ List.replicate (3 - (lg_sl ([.int x])).length) Slot.unset).toArray = ls at hl ⊢
  have hl : lv_has ls 3 [(0, .int x)] := hl
  refine lv_iconst (v := nI 0) hx hb dX0_sumOf_0 (by decide) ?_
  refine lv_istore_n (lv' := [(1, .int (nI 0)), (0, .int x)]) hx hb dX0_sumOf_1 rfl hl (by decide) rfl (fun ls hl => ?_)
  refine lv_iconst (v := nI 0) hx hb dX0_sumOf_2 (by decide) ?_
  refine lv_istore_n (lv' := [(2, .int (nI 0)), (1, .int (nI 0)), (0, .int x)]) hx hb dX0_sumOf_3 rfl hl (by decide) rfl (fun ls hl => ?_)
  refine xf_loopS (σ := Nat) (fun (z9 : Nat) => 32 - z9) (fun (z9 : Nat) => [(0, .int x), (1, .int (nI (fcSO x z9))), (2, .int (nI z9))]) (fun (z9 : Nat) => z9 ≤ 32) 0 (lv_sub hl [2, 1, 0] rfl) (Nat.zero_le _) (fun z9 ls hi hl ih4 => ?_)
  obtain ⟨v, hxe⟩ : ∃ z, z = z9 := ⟨_, rfl⟩
  subst hxe
  have hl : lv_has ls 3 [(0, .int x), (1, .int (nI (fcSO x v))), (2, .int (nI v))] := hl
  have hi : v ≤ 32 := hi
  refine lv_iload_n hx hb dX0_sumOf_4 rfl (lv_at hl 2 rfl) ?_
  refine lv_bipush (v := nI 32) hx hb dX0_sumOf_5 (by decide) ?_
  refine xf_ge (tgt := 28) hx hb dX0_sumOf_7 (by decide) (by omega) (by omega) (fun c7 => ?_) (fun c7 => ?_)
  ·
    refine lv_iload_n hx hb dX0_sumOf_28 rfl (lv_at hl 1 rfl) ?_
    exact W.iret (v := nI (fcSO x v)) hx hb hr (fun t9 ht9 hW9 => ⟨_, rfl, by rw [show v = 32 from by omega], ht9⟩) (fun q h => nomatch h) dX0_sumOf_29
  ·
    refine lv_iload_n hx hb dX0_sumOf_10 rfl (lv_at hl 0 rfl) ?_
    refine lv_iload_n hx hb dX0_sumOf_11 rfl (lv_at hl 2 rfl) ?_
    refine vp_callSi (W.runS (As := [.int x, .int (nI v)]) (rest := []) ⟨hx, hb, hml, hown, hts⟩ (k_holds l x v (by omega)) (va_cwS 2 hts gX0_sumOf_X0_holds rfl rfl rfl (by decide +kernel) ⟨Nat.le_of_ble_eq_true rfl, Nat.le_of_ble_eq_true rfl⟩) (xf_preS0) rfl rfl hl.1 rfl (lv_room (Nat.le_of_ble_eq_true rfl)) dX0_sumOf_12 ⟨Nat.zero_le _, Nat.zero_le _⟩) (fun r hr9 => ?_)
    subst hr9
    refine xf_Beq (tgt := 22) hx hb dX0_sumOf_15 (by decide) (fun c15 => ?_) (fun c15 => ?_)
    ·
      refine lv_iinc (v := nI (v + 1)) (lv' := [(2, .int (nI (v + 1))), (0, .int x), (1, .int (nI (fcSO x v)))]) hx hb dX0_sumOf_22 hl (k := 2) rfl (by exact nI_1 v) (by decide) rfl (fun ls hl => ?_)
      refine lv_goto (tgt := 4) hx hb dX0_sumOf_25 (by decide) ?_
      have hl := lv_sub (l' := [(0, .int x), (1, .int (nI (fcSO x v))), (2, .int (nI (v + 1)))]) hl [1, 2, 0] rfl
      have hl : lv_has ls 3 [(0, .int x), (1, .int (nI (fcSO x (v + 1)))), (2, .int (nI (v + 1)))] := xf_lv hl (by simp [fcSO, c7, c15])
      exact ih4 (v + 1) ls (by show 32 - (v + 1) < 32 - v; omega) (by show (v + 1) ≤ 32; omega) hl
    ·
      refine lv_iload_n hx hb dX0_sumOf_18 rfl (lv_at hl 1 rfl) ?_
      refine lv_iload_n hx hb dX0_sumOf_19 rfl (lv_at hl 2 rfl) ?_
      refine lv_iadd hx hb dX0_sumOf_20 ?_
      refine xf_be (y := nI (fcSO x v + v)) (by exact nI_add _ _) ?_
      refine lv_istore_n (lv' := [(1, .int (nI (fcSO x v + v))), (0, .int x), (2, .int (nI v))]) hx hb dX0_sumOf_21 rfl hl (by decide) rfl (fun ls hl => ?_)
      refine lv_iinc (v := nI (v + 1)) (lv' := [(2, .int (nI (v + 1))), (1, .int (nI (fcSO x v + v))), (0, .int x)]) hx hb dX0_sumOf_22 hl (k := 2) rfl (by exact nI_1 v) (by decide) rfl (fun ls hl => ?_)
      refine lv_goto (tgt := 4) hx hb dX0_sumOf_25 (by decide) ?_
      have hl := lv_sub (l' := [(0, .int x), (1, .int (nI (fcSO x v + v))), (2, .int (nI (v + 1)))]) hl [2, 1, 0] rfl
      have hl : lv_has ls 3 [(0, .int x), (1, .int (nI (fcSO x (v + 1)))), (2, .int (nI (v + 1)))] := xf_lv hl (by simp [fcSO, c7, c15])
      exact ih4 (v + 1) ls (by show 32 - (v + 1) < 32 - v; omega) (by show (v + 1) ≤ 32; omega) hl
set_option maxHeartbeats 4000000 in
set_option maxRecDepth 100000 in
/-- inLeastTerms(x, b, w) -/
theorem k_inLeastTerms (l : Launch) (x b w : Nat) (hx9 : x ≤ 40) (hb9 : b ≤ 40) (hw9 : w ≤ 40) : Met l yX0_inLeastTerms wsX0_inLeastTerms ({ frames := 0, cells := 0, slots := 0, locals := 0 }) (va_Pc [.int (nI x), .int (nI b), .int (nI w)] (fun _ => True)) (vp_Si (fun r => r = nI (fcLT x b w w))) 0 0 (fun _ => False) := by
  refine Met.ofW (cc := cX0_inLeastTerms) (maxL := 4) (ret := (some .int)) (by decide) rfl ?_
  intro p e s m args below meth c s₁ B hml hv
  obtain ⟨rfl, -⟩ := hv
  have hx := B.exec
  have hb := B.bytes
  have hr := B.returns
  have hts := atoms_spec (ws := wsX0_inLeastTerms) B.pre
  have hown : s.vm.findClass RX0 = some m.cls := findClass_of_methodNamed B.named
  have hlocks := B.notSynchronized
  have hl := lv_entry ([.int (nI x), .int (nI b), .int (nI w)]) (n := 4) (Nat.le_of_ble_eq_true rfl)
  rw [lg_entry_eq]
  generalize (lg_sl ([.int (nI x), .int (nI b), .int (nI w)]) ++ List.replicate (4 - (lg_sl ([.int (nI x), .int (nI b), .int (nI w)])).length) Slot.unset).toArray = ls at hl ⊢
  have hl : lv_has ls 4 [(0, .int (nI x)), (1, .int (nI b)), (2, .int (nI w))] := hl
  refine lv_iload_n hx hb dX0_inLeastTerms_0 rfl (lv_at hl 2 rfl) ?_
  refine lv_istore_n (lv' := [(3, .int (nI w)), (0, .int (nI x)), (1, .int (nI b)), (2, .int (nI w))]) hx hb dX0_inLeastTerms_1 rfl hl (by decide) rfl (fun ls hl => ?_)
  refine xf_loopS (σ := Nat) (fun (z9 : Nat) => z9) (fun (z9 : Nat) => [(0, .int (nI x)), (1, .int (nI b)), (2, .int (nI w)), (3, .int (nI z9))]) (fun (z9 : Nat) => z9 ≤ w ∧ fcLT x b w w = fcLT x b w z9) w (lv_sub hl [1, 2, 3, 0] rfl) ⟨Nat.le_refl _, rfl⟩ (fun z9 ls hi hl ih2 => ?_)
  obtain ⟨d, hxe⟩ : ∃ z, z = z9 := ⟨_, rfl⟩
  subst hxe
  have hl : lv_has ls 4 [(0, .int (nI x)), (1, .int (nI b)), (2, .int (nI w)), (3, .int (nI d))] := hl
  obtain ⟨hi, hR⟩ := hi
  have hi : d ≤ w := hi
  have hR : fcLT x b w w = fcLT x b w d := hR
  refine lv_iload_n hx hb dX0_inLeastTerms_2 rfl (lv_at hl 3 rfl) ?_
  refine lv_iconst (v := nI 1) hx hb dX0_inLeastTerms_3 (by decide) ?_
  refine xf_le (tgt := 29) hx hb dX0_inLeastTerms_4 (by decide) (by omega) (by omega) (fun c4 => ?_) (fun c4 => ?_)
  ·
    refine lv_iload_n hx hb dX0_inLeastTerms_29 rfl (lv_at hl 0 rfl) ?_
    exact W.iret (v := nI x) hx hb hr (fun t9 ht9 hW9 => ⟨_, rfl, by rw [hR]; rcases (show d = 0 ∨ d = 1 by omega) with rfl | rfl <;> rfl, ht9⟩) (fun q h => nomatch h) dX0_inLeastTerms_30
  ·
    refine lv_iload_n hx hb dX0_inLeastTerms_7 rfl (lv_at hl 1 rfl) ?_
    refine lv_iload_n hx hb dX0_inLeastTerms_8 rfl (lv_at hl 3 rfl) ?_
    refine lv_irem hx hb dX0_inLeastTerms_9 (nI_ne0 (by omega) (by omega)) ?_
    refine xf_be (y := nI (b % d)) (pk_rem (by omega) (by omega) (by omega)) ?_
    refine xf_zne (tgt := 23) hx hb dX0_inLeastTerms_10 (by decide) (by have := Nat.mod_lt b (show 0 < d by omega); omega) (fun c10 => ?_) (fun c10 => ?_)
    ·
      refine lv_iinc (v := nI (d - 1)) (lv' := [(3, .int (nI (d - 1))), (0, .int (nI x)), (1, .int (nI b)), (2, .int (nI w))]) hx hb dX0_inLeastTerms_23 hl (k := 3) rfl (by obtain ⟨q, rfl⟩ : ∃ q, d = q + 1 := ⟨d - 1, by omega⟩; exact pk_m1 q) (by decide) rfl (fun ls hl => ?_)
      refine lv_goto (tgt := 2) hx hb dX0_inLeastTerms_26 (by decide) ?_
      have hl := lv_sub (l' := [(0, .int (nI x)), (1, .int (nI b)), (2, .int (nI w)), (3, .int (nI (d - 1)))]) hl [1, 2, 3, 0] rfl
      have hl : lv_has ls 4 [(0, .int (nI x)), (1, .int (nI b)), (2, .int (nI w)), (3, .int (nI (d - 1)))] := xf_lv hl (by rfl)
      exact ih2 (d - 1) ls (by show (d - 1) < d; omega) (by refine ⟨by omega, ?_⟩; rw [hR]; obtain ⟨q, rfl⟩ : ∃ q, d = q + 1 := ⟨d - 1, by omega⟩; rw [fcLT, if_neg (by omega), if_neg (by exact fun z => c10 z.1)]; rfl) hl
    ·
      refine lv_iload_n hx hb dX0_inLeastTerms_13 rfl (lv_at hl 2 rfl) ?_
      refine lv_iload_n hx hb dX0_inLeastTerms_14 rfl (lv_at hl 3 rfl) ?_
      refine lv_irem hx hb dX0_inLeastTerms_15 (nI_ne0 (by omega) (by omega)) ?_
      refine xf_be (y := nI (w % d)) (pk_rem (by omega) (by omega) (by omega)) ?_
      refine xf_zne (tgt := 23) hx hb dX0_inLeastTerms_16 (by decide) (by have := Nat.mod_lt w (show 0 < d by omega); omega) (fun c16 => ?_) (fun c16 => ?_)
      ·
        refine lv_iinc (v := nI (d - 1)) (lv' := [(3, .int (nI (d - 1))), (0, .int (nI x)), (1, .int (nI b)), (2, .int (nI w))]) hx hb dX0_inLeastTerms_23 hl (k := 3) rfl (by obtain ⟨q, rfl⟩ : ∃ q, d = q + 1 := ⟨d - 1, by omega⟩; exact pk_m1 q) (by decide) rfl (fun ls hl => ?_)
        refine lv_goto (tgt := 2) hx hb dX0_inLeastTerms_26 (by decide) ?_
        have hl := lv_sub (l' := [(0, .int (nI x)), (1, .int (nI b)), (2, .int (nI w)), (3, .int (nI (d - 1)))]) hl [1, 2, 3, 0] rfl
        have hl : lv_has ls 4 [(0, .int (nI x)), (1, .int (nI b)), (2, .int (nI w)), (3, .int (nI (d - 1)))] := xf_lv hl (by rfl)
        exact ih2 (d - 1) ls (by show (d - 1) < d; omega) (by refine ⟨by omega, ?_⟩; rw [hR]; obtain ⟨q, rfl⟩ : ∃ q, d = q + 1 := ⟨d - 1, by omega⟩; rw [fcLT, if_neg (by omega), if_neg (by exact fun z => c16 z.2)]; rfl) hl
      ·
        refine lv_iload_n hx hb dX0_inLeastTerms_19 rfl (lv_at hl 0 rfl) ?_
        refine lv_iload_n hx hb dX0_inLeastTerms_20 rfl (lv_at hl 3 rfl) ?_
        refine lv_idiv hx hb dX0_inLeastTerms_21 (nI_ne0 (by omega) (by omega)) ?_
        refine xf_be (y := nI (x / d)) (pk_div (by omega) (by omega) (by omega)) ?_
        exact W.iret (v := nI (x / d)) hx hb hr (fun t9 ht9 hW9 => ⟨_, rfl, by rw [hR]; obtain ⟨q, rfl⟩ : ∃ q, d = q + 1 := ⟨d - 1, by omega⟩; rw [fcLT, if_neg (by omega), if_pos ⟨c10, c16⟩], ht9⟩) (fun q h => nomatch h) dX0_inLeastTerms_22
set_option maxHeartbeats 4000000 in
set_option maxRecDepth 100000 in
/-- span(pa, pb) -/
theorem k_span (l : Launch) (pa pb : Int32) : Met l yX0_span wsX0_span ({ frames := 1, cells := 0, slots := 0, locals := 21 }) (va_Pc [.int pa, .int pb] (fun _ => True)) (vp_Si (fun r => r = xf_mk (fcSpP pa pb) 32)) 0 0 (fun _ => False) := by
  refine Met.ofW (cc := cX0_span) (maxL := 6) (ret := (some .int)) (by decide) rfl ?_
  intro p e s m args below meth c s₁ B hml hv
  obtain ⟨rfl, -⟩ := hv
  have hx := B.exec
  have hb := B.bytes
  have hr := B.returns
  have hts := atoms_spec (ws := wsX0_span) B.pre
  have hown : s.vm.findClass RX0 = some m.cls := findClass_of_methodNamed B.named
  have hlocks := B.notSynchronized
  have hl := lv_entry ([.int pa, .int pb]) (n := 6) (Nat.le_of_ble_eq_true rfl)
  rw [lg_entry_eq]
  generalize (lg_sl ([.int pa, .int pb]) ++ List.replicate (6 - (lg_sl ([.int pa, .int pb])).length) Slot.unset).toArray = ls at hl ⊢
  have hl : lv_has ls 6 [(0, .int pa), (1, .int pb)] := hl
  obtain ⟨a, ha, ea, ea2⟩ := xf_max0 pa
  obtain ⟨b9, eb9⟩ : ∃ y, y = (if nI 31 < pb then nI 31 else pb) := ⟨_, rfl⟩
  have eb2 := xf_min31 pb
  rw [← eb9] at eb2
  refine lv_iload_n hx hb dX0_span_0 rfl (lv_at hl 0 rfl) ?_
  refine lv_iconst (v := nI 0) hx hb dX0_span_1 (by decide) ?_
  refine va_mmax hx hb (by rw [hml]; exact hl.1.symm) hown (hts (.methodLink RX0 109 Lib.Math.max.name) (by decide +kernel)) (hts (.static Lib.Math.max.name) (by decide +kernel)) (hts (.initialized "java/lang/Math") (by decide +kernel)) (hts (.code Lib.Math.max.name Lib.Math.max.code 2 (some .int)) (by decide +kernel)) (Nat.le_of_ble_eq_true rfl) (Nat.le_of_ble_eq_true rfl) (Nat.zero_le _) (Nat.zero_le _) dX0_span_2 ?_
  refine xf_be (y := nI a) (ea) ?_
  refine lv_istore_n (lv' := [(2, .int (nI a)), (0, .int pa), (1, .int pb)]) hx hb dX0_span_5 rfl hl (by decide) rfl (fun ls hl => ?_)
  refine lv_iload_n hx hb dX0_span_6 rfl (lv_at hl 2 rfl) ?_
  refine lv_bipush (v := nI 31) hx hb dX0_span_7 (by decide) ?_
  refine va_mmin hx hb (by rw [hml]; exact hl.1.symm) hown (hts (.methodLink RX0 114 Lib.Math.min.name) (by decide +kernel)) (hts (.static Lib.Math.min.name) (by decide +kernel)) (hts (.initialized "java/lang/Math") (by decide +kernel)) (hts (.code Lib.Math.min.name Lib.Math.min.code 2 (some .int)) (by decide +kernel)) (Nat.le_of_ble_eq_true rfl) (Nat.le_of_ble_eq_true rfl) (Nat.zero_le _) (Nat.zero_le _) dX0_span_9 ?_
  refine xf_be (y := b9) (eb9.symm) ?_
  refine lv_istore_n (lv' := [(3, .int b9), (2, .int (nI a)), (0, .int pa), (1, .int pb)]) hx hb dX0_span_12 rfl hl (by decide) rfl (fun ls hl => ?_)
  refine lv_iconst (v := nI 0) hx hb dX0_span_13 (by decide) ?_
  refine lv_istore (lv' := [(4, .int (nI 0)), (3, .int b9), (2, .int (nI a)), (0, .int pa), (1, .int pb)]) hx hb dX0_span_14 hl (by decide) rfl (fun ls hl => ?_)
  refine lv_iload_n hx hb dX0_span_16 rfl (lv_at hl 2 rfl) ?_
  refine lv_istore (lv' := [(5, .int (nI a)), (4, .int (nI 0)), (3, .int b9), (2, .int (nI a)), (0, .int pa), (1, .int pb)]) hx hb dX0_span_17 hl (by decide) rfl (fun ls hl => ?_)
  have hl := lv_sub (l' := [(0, .int pa), (1, .int pb), (2, .int (nI a)), (3, .int b9), (4, .int (nI 0)), (5, .int (nI a))]) hl [4, 5, 3, 2, 1, 0] rfl
  have hl : lv_has ls 6 [(0, .int pa), (1, .int pb), (2, .int (nI a)), (3, .int b9), (4, .int (xf_mk (fcSpP pa pb) a)), (5, .int (nI a))] := xf_lv hl (by rw [xf_mk_0 (fun j hj => by unfold fcSpP; rw [decide_eq_false (show ¬ pa.toInt ≤ (j : Int) by omega), Bool.false_and])])
  refine xf_loopS (σ := Nat) (fun (z9 : Nat) => 33 - z9) (fun (z9 : Nat) => [(0, .int pa), (1, .int pb), (2, .int (nI a)), (3, .int b9), (4, .int (xf_mk (fcSpP pa pb) z9)), (5, .int (nI z9))]) (fun (z9 : Nat) => a ≤ z9 ∧ (z9 ≤ 32 ∨ z9 = a)) a (hl) ⟨Nat.le_refl _, Or.inr rfl⟩ (fun z9 ls hi hl ih19 => ?_)
  obtain ⟨i, hxe⟩ : ∃ z, z = z9 := ⟨_, rfl⟩
  subst hxe
  have hl : lv_has ls 6 [(0, .int pa), (1, .int pb), (2, .int (nI a)), (3, .int b9), (4, .int (xf_mk (fcSpP pa pb) i)), (5, .int (nI i))] := hl
  obtain ⟨hi, hj⟩ := hi
  have hi : a ≤ i := hi
  have hj : (i ≤ 32 ∨ i = a) := hj
  refine lv_iload hx hb dX0_span_19 (lv_at hl 5 rfl) ?_
  refine lv_iload_n hx hb dX0_span_21 rfl (lv_at hl 3 rfl) ?_
  refine lv_icmp_gt (tgt := 40) hx hb dX0_span_22 (by decide) (fun c22 => ?_) (fun c22 => ?_)
  ·
    have c22' : b9.toInt < (i : Int) := by have z := Int32.lt_iff_toInt_lt.mp c22; rw [nI_toInt (by omega)] at z; exact z
    refine lv_iload hx hb dX0_span_40 (lv_at hl 4 rfl) ?_
    exact W.iret (v := xf_mk (fcSpP pa pb) i) hx hb hr (fun t9 ht9 hW9 => ⟨_, rfl, by
            by_cases h32 : i ≤ 32
            · exact (xf_mk_stay h32 (fun j h1 h2 => by unfold fcSpP; rw [decide_eq_false (show ¬ (j : Int) ≤ pb.toInt by omega), Bool.and_false])).symm
            · rw [xf_mk_0 (n := i) (fun j hj => by unfold fcSpP; rw [decide_eq_false (show ¬ pa.toInt ≤ (j : Int) by omega), Bool.false_and]), xf_mk_0 (n := 32) (fun j hj => by unfold fcSpP; rw [decide_eq_false (show ¬ pa.toInt ≤ (j : Int) by omega), Bool.false_and])], ht9⟩) (fun q h => nomatch h) dX0_span_42
  ·
    have c22' : (i : Int) ≤ b9.toInt := by have z := Int32.le_iff_toInt_le.mp (Int32.not_lt.mp c22); rw [nI_toInt (by omega)] at z; exact z
    refine lv_iload hx hb dX0_span_25 (lv_at hl 4 rfl) ?_
    refine lv_iconst (v := nI 1) hx hb dX0_span_27 (by decide) ?_
    refine lv_iload hx hb dX0_span_28 (lv_at hl 5 rfl) ?_
    refine lv_ishl hx hb dX0_span_30 ?_
    refine xf_be (y := xf_bit i) (by rfl) ?_
    refine lv_ior hx hb dX0_span_31 ?_
    refine lv_istore (lv' := [(4, .int ((xf_mk (fcSpP pa pb) i) ||| (xf_bit i))), (0, .int pa), (1, .int pb), (2, .int (nI a)), (3, .int b9), (5, .int (nI i))]) hx hb dX0_span_32 hl (by decide) rfl (fun ls hl => ?_)
    refine lv_iinc (v := nI (i + 1)) (lv' := [(5, .int (nI (i + 1))), (4, .int ((xf_mk (fcSpP pa pb) i) ||| (xf_bit i))), (0, .int pa), (1, .int pb), (2, .int (nI a)), (3, .int b9)]) hx hb dX0_span_34 hl (k := 5) rfl (by exact nI_1 i) (by decide) rfl (fun ls hl => ?_)
    refine lv_goto (tgt := 19) hx hb dX0_span_37 (by decide) ?_
    have e9 : fcSpP pa pb i = true := by unfold fcSpP; rw [decide_eq_true (show pa.toInt ≤ (i : Int) by omega), decide_eq_true (show (i : Int) ≤ pb.toInt by omega)]; rfl
    have hl := lv_sub (l' := [(0, .int pa), (1, .int pb), (2, .int (nI a)), (3, .int b9), (4, .int ((xf_mk (fcSpP pa pb) i) ||| (xf_bit i))), (5, .int (nI (i + 1)))]) hl [2, 3, 4, 5, 1, 0] rfl
    have hl : lv_has ls 6 [(0, .int pa), (1, .int pb), (2, .int (nI a)), (3, .int b9), (4, .int (xf_mk (fcSpP pa pb) (i + 1))), (5, .int (nI (i + 1)))] := xf_lv hl (by simp [xf_mk, e9])
    exact ih19 (i + 1) ls (by show 33 - (i + 1) < 33 - i; omega) (by exact ⟨by omega, Or.inl (by omega)⟩) hl
set_option maxHeartbeats 4000000 in
set_option maxRecDepth 100000 in
/-- Arrays.fill(a, x) -/
theorem j_fill (l : Launch) (dC : Nat → ClassId) (dI : Nat → Nat → Nat) (a : Nat) (cI : ClassId) (n : Nat) (f : Nat → Int32) (x : Int32) (hn : n < 2 ^ 31) : Met l yJ7_fill_53178 wsJ7_fill_53178 ({ frames := 0, cells := 0, slots := 0, locals := 0 }) (va_Pc [.ref a, .int x] (fun U => va_P (dC, dI) fmCl [(a, .inl (cI, n, .inl f))] U.heap ∧ va_K (dC, dI) fmCl [(cI, .int)] U ∧ va_D (fun _ => True) [(a, .inl (cI, n, .inl f))])) (va_Qv (fun _ : Unit => True) (fun _ t => va_P (dC, dI) fmCl [(a, .inl (cI, n, .inl (xf_fill x f n)))] t.heap) (xf_A [(a, .inl (cI, n, .inl f))])) 0 0 (xf_A [(a, .inl (cI, n, .inl f))]) := by
  refine Met.ofW (cc := cJ7_fill_53178) (maxL := 4) (ret := none) (by decide) rfl ?_
  intro p e s m args below meth c s₁ B hml hv
  obtain ⟨rfl, hP, hK, hD0⟩ := hv
  have hx := B.exec
  have hb := B.bytes
  have hr := B.returns
  have hlocks := B.notSynchronized
  have hD := xf_A_self hD0
  generalize hAe : xf_A [(a, .inl (cI, n, .inl f))] = A at hD ⊢
  have hS : va_S A s.heap s.heap [] := va_S.rf
  have hP : va_P (dC, dI) fmCl [(a, .inl (cI, n, .inl f))] s.heap := hP
  have hl := lv_entry ([.ref a, .int x]) (n := 4) (Nat.le_of_ble_eq_true rfl)
  rw [lg_entry_eq]
  generalize (lg_sl ([.ref a, .int x]) ++ List.replicate (4 - (lg_sl ([.ref a, .int x])).length) Slot.unset).toArray = ls at hl ⊢
  have hl : lv_has ls 4 [(0, .ref a), (1, .int x)] := hl
  refine lv_iconst (v := nI 0) hx hb dJ7_fill_53178_0 (by decide) ?_
  refine lv_istore_n (lv' := [(2, .int (nI 0)), (0, .ref a), (1, .int x)]) hx hb dJ7_fill_53178_1 rfl hl (by decide) rfl (fun ls hl => ?_)
  refine lv_aload_n hx hb dJ7_fill_53178_2 rfl (lv_at hl 1 rfl) ?_
  refine va_alen hx hb hK hP 0 0 rfl rfl (v := nI n) rfl dJ7_fill_53178_3 ?_
  refine lv_istore_n (lv' := [(3, .int (nI n)), (2, .int (nI 0)), (0, .ref a), (1, .int x)]) hx hb dJ7_fill_53178_4 rfl hl (by decide) rfl (fun ls hl => ?_)
  refine xf_loopH (σ := Nat) (fun (z9 : Nat) => n - z9) (fun (z9 : Nat) => [(0, .ref a), (1, .int x), (2, .int (nI z9)), (3, .int (nI n))]) (fun (z9 : Nat) => [(a, .inl (cI, n, .inl (xf_fill x f z9)))]) (fun (z9 : Nat) => z9 ≤ n) 0 (lv_sub hl [2, 3, 1, 0] rfl) (Nat.zero_le _) hP hD hS (fun z9 ls H locs hi hl hP hD hS ih5 => ?_)
  obtain ⟨i, hxe⟩ : ∃ z, z = z9 := ⟨_, rfl⟩
  subst hxe
  have hl : lv_has ls 4 [(0, .ref a), (1, .int x), (2, .int (nI i)), (3, .int (nI n))] := hl
  have hP : va_P (dC, dI) fmCl [(a, .inl (cI, n, .inl (xf_fill x f i)))] H := hP
  have hD : va_D A [(a, .inl (cI, n, .inl (xf_fill x f i)))] := hD
  have hi : i ≤ n := hi
  refine lv_iload_n hx hb dJ7_fill_53178_5 rfl (lv_at hl 2 rfl) ?_
  refine lv_iload_n hx hb dJ7_fill_53178_6 rfl (lv_at hl 3 rfl) ?_
  refine xf_ge (tgt := 20) hx hb dJ7_fill_53178_7 (by decide) (by omega) (by omega) (fun c7 => ?_) (fun c7 => ?_)
  ·
    obtain rfl : n = i := by omega
    exact W.vret hx hb hr (fun t9 ht9 hW9 => ⟨⟨(), rfl, trivial, xf_hP ht9 hP⟩, hS.F ht9⟩) hS.2.2 dJ7_fill_53178_20
  ·
    refine lv_aload_n hx hb dJ7_fill_53178_10 rfl (lv_at hl 0 rfl) ?_
    refine lv_iload_n hx hb dJ7_fill_53178_11 rfl (lv_at hl 2 rfl) ?_
    refine lv_iload_n hx hb dJ7_fill_53178_12 rfl (lv_at hl 1 rfl) ?_
    refine xf_iast hx hb hK hP hD hS 0 0 rfl rfl (j := i) (by omega) (by omega) dJ7_fill_53178_13 (fun H locs hP hD hS => ?_)
    have hP : va_P (dC, dI) fmCl [(a, .inl (cI, n, .inl (upd (xf_fill x f i) i x)))] H := hP
    have hD : va_D A [(a, .inl (cI, n, .inl (upd (xf_fill x f i) i x)))] := hD
    refine lv_iinc (v := nI (i + 1)) (lv' := [(2, .int (nI (i + 1))), (0, .ref a), (1, .int x), (3, .int (nI n))]) hx hb dJ7_fill_53178_14 hl (k := 2) rfl (by exact nI_1 i) (by decide) rfl (fun ls hl => ?_)
    refine lv_goto (tgt := 5) hx hb dJ7_fill_53178_17 (by decide) ?_
    have hl := lv_sub (l' := [(0, .ref a), (1, .int x), (2, .int (nI (i + 1))), (3, .int (nI n))]) hl [1, 2, 0, 3] rfl
    have hl : lv_has ls 4 [(0, .ref a), (1, .int x), (2, .int (nI (i + 1))), (3, .int (nI n))] := xf_lv hl (by rfl)
    have hP : va_P (dC, dI) fmCl [(a, .inl (cI, n, .inl (xf_fill x f (i + 1))))] H := xf_wP hP (by rfl)
    have hD : va_D A [(a, .inl (cI, n, .inl (xf_fill x f (i + 1))))] := xf_wD hD rfl
    exact ih5 (i + 1) ls H locs (by show n - (i + 1) < n - i; omega) (by show (i + 1) ≤ n; omega) hl hP hD hS
