set_option maxHeartbeats 4000000 in
set_option maxRecDepth 100000 in
/-- renewKinds(t) -/
theorem k_renewKinds (l : Launch) (dC : Nat → ClassId) (dI : Nat → Nat → Nat) (h0 a1 a2 a3 a4 a5 a6 : Nat) (cI : ClassId) (fg fk fu fc fb fn : Nat → Int32) (rc : Int32) (t : Nat) (ht : t < 40) : Met l yX0_renewKinds wsX0_renewKinds ({ frames := 2, cells := 0, slots := 0, locals := 46 }) (va_Pc [.ref h0, .int (nI t)] (fun U => va_P (dC, dI) fmCl (fw h0 a1 a2 a3 a4 a5 a6 cI fg fk fu fc fb fn rc) U.heap ∧ va_K (dC, dI) fmCl [(cI, .int)] U ∧ va_D (fun _ => True) (fw h0 a1 a2 a3 a4 a5 a6 cI fg fk fu fc fb fn rc))) (va_Qv (fun u : FcS => u = (fg, upd fk t (fcRK fu (fg (t * 8)) 32), fu, fc, fb, fn, rc)) (fun u t => va_P (dC, dI) fmCl (fw h0 a1 a2 a3 a4 a5 a6 cI u.1 u.2.1 u.2.2.1 u.2.2.2.1 u.2.2.2.2.1 u.2.2.2.2.2.1 u.2.2.2.2.2.2) t.heap) (xf_A (fw h0 a1 a2 a3 a4 a5 a6 cI fg fk fu fc fb fn rc))) 0 0 (xf_A (fw h0 a1 a2 a3 a4 a5 a6 cI fg fk fu fc fb fn rc)) := by
  refine Met.ofW (cc := cX0_renewKinds) (maxL := 5) (ret := none) (by decide) rfl ?_
  intro p e s m args below meth c s₁ B hml hv
  obtain ⟨rfl, hP, hK, hD0⟩ := hv
  have hx := B.exec
  have hb := B.bytes
  have hr := B.returns
  have hts := atoms_spec (ws := wsX0_renewKinds) B.pre
  have hown : s.vm.findClass RX0 = some m.cls := findClass_of_methodNamed B.named
  have hlocks := B.notSynchronized
  have hin : ∀ w ∈ u_ws RX0 TX0 7, w ∈ wsX0_renewKinds := by decide +kernel
  have hf_given := hts (.fieldLink RX0 9 "FacetCounts" "given" "[I") (by decide +kernel)
  have hf_kinds := hts (.fieldLink RX0 13 "FacetCounts" "kinds" "[I") (by decide +kernel)
  have hD := xf_A_self hD0
  generalize hAe : xf_A (fw h0 a1 a2 a3 a4 a5 a6 cI fg fk fu fc fb fn rc) = A at hD ⊢
  have hS : va_S A s.heap s.heap [] := va_S.rf
  have hP : va_P (dC, dI) fmCl (fw h0 a1 a2 a3 a4 a5 a6 cI fg fk fu fc fb fn rc) s.heap := hP
  have hl := lv_entry ([.ref h0, .int (nI t)]) (n := 5) (Nat.le_of_ble_eq_true rfl)
  rw [lg_entry_eq]
  generalize (lg_sl ([.ref h0, .int (nI t)]) ++ List.replicate (5 - (lg_sl ([.ref h0, .int (nI t)])).length) Slot.unset).toArray = ls at hl ⊢
  have hl : lv_has ls 5 [(0, .ref h0), (1, .int (nI t))] := hl
  refine lv_aload_n hx hb dX0_renewKinds_0 rfl (lv_at hl 0 rfl) ?_
  refine va_get (D := (dC, dI)) (ci := 0) (v := .ref a1) (C := RX0) (T := TX0) (N := 7) hx hb hts hin hown hK hP 0 rfl rfl 0 (by decide) hf_given (fun _ h9 => h9) rfl dX0_renewKinds_1 ?_
  refine lv_iload_n hx hb dX0_renewKinds_4 rfl (lv_at hl 1 rfl) ?_
  refine lv_bipush (v := nI 8) hx hb dX0_renewKinds_5 (by decide) ?_
  refine lv_imul hx hb dX0_renewKinds_7 ?_
  refine xf_be (y := nI (t * 8)) (by exact pk_mul _ _) ?_
  refine lv_iconst (v := nI 0) hx hb dX0_renewKinds_8 (by decide) ?_
  refine lv_iadd hx hb dX0_renewKinds_9 ?_
  refine xf_be (y := nI (t * 8)) (nI_add (t * 8) 0) ?_
  refine xf_iald hx hb hK hP 1 0 rfl rfl (j := (t * 8)) (by omega) (by decide) dX0_renewKinds_10 ?_
  refine lv_istore_n (lv' := [(2, .int (fg (t * 8))), (0, .ref h0), (1, .int (nI t))]) hx hb dX0_renewKinds_11 rfl hl (by decide) rfl (fun ls hl => ?_)
  refine lv_iconst (v := nI 0) hx hb dX0_renewKinds_12 (by decide) ?_
  refine lv_istore_n (lv' := [(3, .int (nI 0)), (2, .int (fg (t * 8))), (0, .ref h0), (1, .int (nI t))]) hx hb dX0_renewKinds_13 rfl hl (by decide) rfl (fun ls hl => ?_)
  refine lv_iconst (v := nI 0) hx hb dX0_renewKinds_14 (by decide) ?_
  refine lv_istore (lv' := [(4, .int (nI 0)), (3, .int (nI 0)), (2, .int (fg (t * 8))), (0, .ref h0), (1, .int (nI t))]) hx hb dX0_renewKinds_15 hl (by decide) rfl (fun ls hl => ?_)
  refine xf_loopS (σ := Nat) (fun (z9 : Nat) => 32 - z9) (fun (z9 : Nat) => [(0, .ref h0), (1, .int (nI t)), (2, .int (fg (t * 8))), (3, .int (fcRK fu (fg (t * 8)) z9)), (4, .int (nI z9))]) (fun (z9 : Nat) => z9 ≤ 32) 0 (lv_sub hl [3, 4, 2, 1, 0] rfl) (Nat.zero_le _) (fun z9 ls hi hl ih17 => ?_)
  obtain ⟨k, hxe⟩ : ∃ z, z = z9 := ⟨_, rfl⟩
  subst hxe
  have hl : lv_has ls 5 [(0, .ref h0), (1, .int (nI t)), (2, .int (fg (t * 8))), (3, .int (fcRK fu (fg (t * 8)) k)), (4, .int (nI k))] := hl
  have hi : k ≤ 32 := hi
  refine lv_iload hx hb dX0_renewKinds_17 (lv_at hl 4 rfl) ?_
  refine lv_bipush (v := nI 32) hx hb dX0_renewKinds_19 (by decide) ?_
  refine xf_ge (tgt := 47) hx hb dX0_renewKinds_21 (by decide) (by omega) (by omega) (fun c21 => ?_) (fun c21 => ?_)
  ·
    obtain rfl : k = 32 := by omega
    refine lv_aload_n hx hb dX0_renewKinds_47 rfl (lv_at hl 0 rfl) ?_
    refine va_get (D := (dC, dI)) (ci := 0) (v := .ref a2) (C := RX0) (T := TX0) (N := 7) hx hb hts hin hown hK hP 0 rfl rfl 1 (by decide) hf_kinds (fun _ h9 => h9) rfl dX0_renewKinds_48 ?_
    refine lv_iload_n hx hb dX0_renewKinds_51 rfl (lv_at hl 1 rfl) ?_
    refine lv_iload_n hx hb dX0_renewKinds_52 rfl (lv_at hl 3 rfl) ?_
    refine xf_iast hx hb hK hP hD hS 2 0 rfl rfl (j := t) (by omega) (by decide) dX0_renewKinds_53 (fun H locs hP hD hS => ?_)
    have hP : va_P (dC, dI) fmCl (fw h0 a1 a2 a3 a4 a5 a6 cI fg (upd fk t (fcRK fu (fg (t * 8)) 32)) fu fc fb fn rc) H := hP
    have hD : va_D A (fw h0 a1 a2 a3 a4 a5 a6 cI fg (upd fk t (fcRK fu (fg (t * 8)) 32)) fu fc fb fn rc) := hD
    exact W.vret hx hb hr (fun t9 ht9 hW9 => ⟨⟨(fg, upd fk t (fcRK fu (fg (t * 8)) 32), fu, fc, fb, fn, rc), rfl, rfl, xf_hP ht9 hP⟩, hS.F ht9⟩) hS.2.2 dX0_renewKinds_54
  ·
    refine lv_iload_n hx hb dX0_renewKinds_24 rfl (lv_at hl 2 rfl) ?_
    refine lv_iload hx hb dX0_renewKinds_25 (lv_at hl 4 rfl) ?_
    refine vp_callSi (W.runS (As := [.int (fg (t * 8)), .int (nI k)]) (rest := []) ⟨hx, hb, hml, hown, hts⟩ (k_holds l (fg (t * 8)) k (by omega)) (va_cwS 2 hts gX0_renewKinds_X0_holds rfl rfl rfl (by decide +kernel) ⟨Nat.le_of_ble_eq_true rfl, Nat.le_of_ble_eq_true rfl⟩) (xf_preS0) rfl rfl hl.1 rfl (lv_room (Nat.le_of_ble_eq_true rfl)) dX0_renewKinds_27 ⟨Nat.zero_le _, Nat.zero_le _⟩) (fun r hr9 => ?_)
    subst hr9
    refine xf_Beq (tgt := 41) hx hb dX0_renewKinds_30 (by decide) (fun c30 => ?_) (fun c30 => ?_)
    ·
      refine lv_iinc (v := nI (k + 1)) (lv' := [(4, .int (nI (k + 1))), (0, .ref h0), (1, .int (nI t)), (2, .int (fg (t * 8))), (3, .int (fcRK fu (fg (t * 8)) k))]) hx hb dX0_renewKinds_41 hl (k := 4) rfl (by exact nI_1 k) (by decide) rfl (fun ls hl => ?_)
      refine lv_goto (tgt := 17) hx hb dX0_renewKinds_44 (by decide) ?_
      have hl := lv_sub (l' := [(0, .ref h0), (1, .int (nI t)), (2, .int (fg (t * 8))), (3, .int (fcRK fu (fg (t * 8)) k)), (4, .int (nI (k + 1)))]) hl [1, 2, 3, 4, 0] rfl
      have hl : lv_has ls 5 [(0, .ref h0), (1, .int (nI t)), (2, .int (fg (t * 8))), (3, .int (fcRK fu (fg (t * 8)) (k + 1))), (4, .int (nI (k + 1)))] := xf_lv hl (by simp [fcRK, c21, c30])
      exact ih17 (k + 1) ls (by show 32 - (k + 1) < 32 - k; omega) (by show (k + 1) ≤ 32; omega) hl
    ·
      refine lv_aload_n hx hb dX0_renewKinds_33 rfl (lv_at hl 0 rfl) ?_
      refine lv_iload hx hb dX0_renewKinds_34 (lv_at hl 4 rfl) ?_
      refine lv_iload_n hx hb dX0_renewKinds_36 rfl (lv_at hl 3 rfl) ?_
      refine vp_callSi (W.runV (As := [.int (nI k), .int (fcRK fu (fg (t * 8)) k)]) (rest := []) ⟨hx, hb, hml, hown, hts⟩ (k_withUppers l dC dI h0 a1 a2 a3 a4 a5 a6 cI fg fk fu fc fb fn rc (nI k) (fcRK fu (fg (t * 8)) k)) (cwV 2 hts gX0_renewKinds_X0_withUppers rfl rfl rfl (by decide +kernel) ⟨Nat.le_of_ble_eq_true rfl, Nat.le_of_ble_eq_true rfl⟩) (xf_preV (ci := 0) (RX0, TX0, 7) hK hP rfl rfl) rfl rfl hl.1 rfl (lv_room (Nat.le_of_ble_eq_true rfl)) dX0_renewKinds_37 ⟨Nat.zero_le _, Nat.zero_le _⟩) (fun r hr9 => ?_)
      subst hr9
      refine lv_istore_n (lv' := [(3, .int (fcWU fu 32 (nI k) (fcRK fu (fg (t * 8)) k))), (0, .ref h0), (1, .int (nI t)), (2, .int (fg (t * 8))), (4, .int (nI k))]) hx hb dX0_renewKinds_40 rfl hl (by decide) rfl (fun ls hl => ?_)
      refine lv_iinc (v := nI (k + 1)) (lv' := [(4, .int (nI (k + 1))), (3, .int (fcWU fu 32 (nI k) (fcRK fu (fg (t * 8)) k))), (0, .ref h0), (1, .int (nI t)), (2, .int (fg (t * 8)))]) hx hb dX0_renewKinds_41 hl (k := 4) rfl (by exact nI_1 k) (by decide) rfl (fun ls hl => ?_)
      refine lv_goto (tgt := 17) hx hb dX0_renewKinds_44 (by decide) ?_
      have hl := lv_sub (l' := [(0, .ref h0), (1, .int (nI t)), (2, .int (fg (t * 8))), (3, .int (fcWU fu 32 (nI k) (fcRK fu (fg (t * 8)) k))), (4, .int (nI (k + 1)))]) hl [2, 3, 4, 1, 0] rfl
      have hl : lv_has ls 5 [(0, .ref h0), (1, .int (nI t)), (2, .int (fg (t * 8))), (3, .int (fcRK fu (fg (t * 8)) (k + 1))), (4, .int (nI (k + 1)))] := xf_lv hl (by simp [fcRK, c21, c30])
      exact ih17 (k + 1) ls (by show 32 - (k + 1) < 32 - k; omega) (by show (k + 1) ≤ 32; omega) hl
set_option maxHeartbeats 4000000 in
set_option maxRecDepth 100000 in
/-- countValues(h, set) -/
theorem k_countValues (l : Launch) (dC : Nat → ClassId) (dI : Nat → Nat → Nat) (h0 a1 a2 a3 a4 a5 a6 : Nat) (cI : ClassId) (fg fk fu fc fb fn : Nat → Int32) (rc : Int32) (h : Nat) (hh : h < 8) (set : Int32) : Met l yX0_countValues wsX0_countValues ({ frames := 1, cells := 0, slots := 0, locals := 21 }) (va_Pc [.ref h0, .int (nI h), .int set] (fun U => va_P (dC, dI) fmCl (fw h0 a1 a2 a3 a4 a5 a6 cI fg fk fu fc fb fn rc) U.heap ∧ va_K (dC, dI) fmCl [(cI, .int)] U ∧ va_D (fun _ => True) (fw h0 a1 a2 a3 a4 a5 a6 cI fg fk fu fc fb fn rc))) (va_Qv (fun u : FcS => u = (fg, fk, fu, fc, fb, fcCW h set fn, rc)) (fun u t => va_P (dC, dI) fmCl (fw h0 a1 a2 a3 a4 a5 a6 cI u.1 u.2.1 u.2.2.1 u.2.2.2.1 u.2.2.2.2.1 u.2.2.2.2.2.1 u.2.2.2.2.2.2) t.heap) (xf_A (fw h0 a1 a2 a3 a4 a5 a6 cI fg fk fu fc fb fn rc))) 0 0 (xf_A (fw h0 a1 a2 a3 a4 a5 a6 cI fg fk fu fc fb fn rc)) := by
  refine Met.ofW (cc := cX0_countValues) (maxL := 4) (ret := none) (by decide) rfl ?_
  intro p e s m args below meth c s₁ B hml hv
  obtain ⟨rfl, hP, hK, hD0⟩ := hv
  have hx := B.exec
  have hb := B.bytes
  have hr := B.returns
  have hts := atoms_spec (ws := wsX0_countValues) B.pre
  have hown : s.vm.findClass RX0 = some m.cls := findClass_of_methodNamed B.named
  have hlocks := B.notSynchronized
  have hin : ∀ w ∈ u_ws RX0 TX0 7, w ∈ wsX0_countValues := by decide +kernel
  have hf_counts := hts (.fieldLink RX0 25 "FacetCounts" "counts" "[I") (by decide +kernel)
  have hD := xf_A_self hD0
  generalize hAe : xf_A (fw h0 a1 a2 a3 a4 a5 a6 cI fg fk fu fc fb fn rc) = A at hD ⊢
  have hS : va_S A s.heap s.heap [] := va_S.rf
  have hP : va_P (dC, dI) fmCl (fw h0 a1 a2 a3 a4 a5 a6 cI fg fk fu fc fb fn rc) s.heap := hP
  have hl := lv_entry ([.ref h0, .int (nI h), .int set]) (n := 4) (Nat.le_of_ble_eq_true rfl)
  rw [lg_entry_eq]
  generalize (lg_sl ([.ref h0, .int (nI h), .int set]) ++ List.replicate (4 - (lg_sl ([.ref h0, .int (nI h), .int set])).length) Slot.unset).toArray = ls at hl ⊢
  have hl : lv_has ls 4 [(0, .ref h0), (1, .int (nI h)), (2, .int set)] := hl
  refine lv_iload_n hx hb dX0_countValues_0 rfl (lv_at hl 2 rfl) ?_
  refine lv_if_ne (tgt := 5) hx hb dX0_countValues_1 (by decide) (fun c1 => ?_) (fun c1 => ?_)
  ·
    refine lv_iconst (v := nI 0) hx hb dX0_countValues_5 (by decide) ?_
    refine lv_istore_n (lv' := [(3, .int (nI 0)), (0, .ref h0), (1, .int (nI h)), (2, .int set)]) hx hb dX0_countValues_6 rfl hl (by decide) rfl (fun ls hl => ?_)
    refine xf_loopH (σ := Nat) (fun (z9 : Nat) => 32 - z9) (fun (z9 : Nat) => [(0, .ref h0), (1, .int (nI h)), (2, .int set), (3, .int (nI z9))]) (fun (z9 : Nat) => (fw h0 a1 a2 a3 a4 a5 a6 cI fg fk fu fc fb (fcCV h set fn z9) rc)) (fun (z9 : Nat) => z9 ≤ 32) 0 (lv_sub hl [1, 2, 3, 0] rfl) (Nat.zero_le _) hP hD hS (fun z9 ls H locs hi hl hP hD hS ih7 => ?_)
    obtain ⟨v, hxe⟩ : ∃ z, z = z9 := ⟨_, rfl⟩
    subst hxe
    have hl : lv_has ls 4 [(0, .ref h0), (1, .int (nI h)), (2, .int set), (3, .int (nI v))] := hl
    have hP : va_P (dC, dI) fmCl (fw h0 a1 a2 a3 a4 a5 a6 cI fg fk fu fc fb (fcCV h set fn v) rc) H := hP
    have hD : va_D A (fw h0 a1 a2 a3 a4 a5 a6 cI fg fk fu fc fb (fcCV h set fn v) rc) := hD
    have hi : v ≤ 32 := hi
    refine lv_iload_n hx hb dX0_countValues_7 rfl (lv_at hl 3 rfl) ?_
    refine lv_bipush (v := nI 32) hx hb dX0_countValues_8 (by decide) ?_
    refine xf_ge (tgt := 42) hx hb dX0_countValues_10 (by decide) (by omega) (by omega) (fun c10 => ?_) (fun c10 => ?_)
    ·
      obtain rfl : v = 32 := by omega
      exact W.vret hx hb hr (fun t9 ht9 hW9 => ⟨⟨(fg, fk, fu, fc, fb, fcCV h set fn 32, rc), rfl, by simp [fcCW, c1], xf_hP ht9 hP⟩, hS.F ht9⟩) hS.2.2 dX0_countValues_42
    ·
      refine lv_iload_n hx hb dX0_countValues_13 rfl (lv_at hl 2 rfl) ?_
      refine lv_iload_n hx hb dX0_countValues_14 rfl (lv_at hl 3 rfl) ?_
      refine vp_callSi (W.runS (As := [.int set, .int (nI v)]) (rest := []) ⟨hx, hb, hml, hown, hts⟩ (k_holds l set v (by omega)) (va_cwS 2 hts gX0_countValues_X0_holds rfl rfl rfl (by decide +kernel) ⟨Nat.le_of_ble_eq_true rfl, Nat.le_of_ble_eq_true rfl⟩) (xf_preS0) rfl rfl hl.1 rfl (lv_room (Nat.le_of_ble_eq_true rfl)) dX0_countValues_15 ⟨Nat.zero_le _, Nat.zero_le _⟩) (fun r hr9 => ?_)
      subst hr9
      refine xf_Beq (tgt := 36) hx hb dX0_countValues_18 (by decide) (fun c18 => ?_) (fun c18 => ?_)
      ·
        refine lv_iinc (v := nI (v + 1)) (lv' := [(3, .int (nI (v + 1))), (0, .ref h0), (1, .int (nI h)), (2, .int set)]) hx hb dX0_countValues_36 hl (k := 3) rfl (by exact nI_1 v) (by decide) rfl (fun ls hl => ?_)
        refine lv_goto (tgt := 7) hx hb dX0_countValues_39 (by decide) ?_
        have hl := lv_sub (l' := [(0, .ref h0), (1, .int (nI h)), (2, .int set), (3, .int (nI (v + 1)))]) hl [1, 2, 3, 0] rfl
        have hl : lv_has ls 4 [(0, .ref h0), (1, .int (nI h)), (2, .int set), (3, .int (nI (v + 1)))] := xf_lv hl (by rfl)
        have hP : va_P (dC, dI) fmCl (fw h0 a1 a2 a3 a4 a5 a6 cI fg fk fu fc fb (fcCV h set fn (v + 1)) rc) H := xf_wP hP (by simp [fcCV, c10, c18])
        have hD : va_D A (fw h0 a1 a2 a3 a4 a5 a6 cI fg fk fu fc fb (fcCV h set fn (v + 1)) rc) := xf_wD hD rfl
        exact ih7 (v + 1) ls H locs (by show 32 - (v + 1) < 32 - v; omega) (by show (v + 1) ≤ 32; omega) hl hP hD hS
      ·
        refine lv_aload_n hx hb dX0_countValues_21 rfl (lv_at hl 0 rfl) ?_
        refine va_get (D := (dC, dI)) (ci := 0) (v := .ref a6) (C := RX0) (T := TX0) (N := 7) hx hb hts hin hown hK hP 0 rfl rfl 5 (by decide) hf_counts (fun _ h9 => h9) rfl dX0_countValues_22 ?_
        refine lv_iload_n hx hb dX0_countValues_25 rfl (lv_at hl 1 rfl) ?_
        refine lv_bipush (v := nI 32) hx hb dX0_countValues_26 (by decide) ?_
        refine lv_imul hx hb dX0_countValues_28 ?_
        refine xf_be (y := nI (h * 32)) (by exact pk_mul _ _) ?_
        refine lv_iload_n hx hb dX0_countValues_29 rfl (lv_at hl 3 rfl) ?_
        refine lv_iadd hx hb dX0_countValues_30 ?_
        refine xf_be (y := nI (h * 32 + v)) (by exact nI_add _ _) ?_
        refine lv_dup2_11 hx hb dX0_countValues_31 rfl rfl ?_
        refine xf_iald hx hb hK hP 6 0 rfl rfl (j := (h * 32 + v)) (by omega) (by decide) dX0_countValues_32 ?_
        refine lv_iconst (v := nI 1) hx hb dX0_countValues_33 (by decide) ?_
        refine lv_iadd hx hb dX0_countValues_34 ?_
        refine xf_iast hx hb hK hP hD hS 6 0 rfl rfl (j := (h * 32 + v)) (by omega) (by decide) dX0_countValues_35 (fun H locs hP hD hS => ?_)
        have hP : va_P (dC, dI) fmCl (fw h0 a1 a2 a3 a4 a5 a6 cI fg fk fu fc fb (upd (fcCV h set fn v) (h * 32 + v) (((fcCV h set fn v) (h * 32 + v)) + (nI 1))) rc) H := hP
        have hD : va_D A (fw h0 a1 a2 a3 a4 a5 a6 cI fg fk fu fc fb (upd (fcCV h set fn v) (h * 32 + v) (((fcCV h set fn v) (h * 32 + v)) + (nI 1))) rc) := hD
        refine lv_iinc (v := nI (v + 1)) (lv' := [(3, .int (nI (v + 1))), (0, .ref h0), (1, .int (nI h)), (2, .int set)]) hx hb dX0_countValues_36 hl (k := 3) rfl (by exact nI_1 v) (by decide) rfl (fun ls hl => ?_)
        refine lv_goto (tgt := 7) hx hb dX0_countValues_39 (by decide) ?_
        have hl := lv_sub (l' := [(0, .ref h0), (1, .int (nI h)), (2, .int set), (3, .int (nI (v + 1)))]) hl [1, 2, 3, 0] rfl
        have hl : lv_has ls 4 [(0, .ref h0), (1, .int (nI h)), (2, .int set), (3, .int (nI (v + 1)))] := xf_lv hl (by rfl)
        have hP : va_P (dC, dI) fmCl (fw h0 a1 a2 a3 a4 a5 a6 cI fg fk fu fc fb (fcCV h set fn (v + 1)) rc) H := xf_wP hP (by simp [fcCV, c10, c18])
        have hD : va_D A (fw h0 a1 a2 a3 a4 a5 a6 cI fg fk fu fc fb (fcCV h set fn (v + 1)) rc) := xf_wD hD rfl
        exact ih7 (v + 1) ls H locs (by show 32 - (v + 1) < 32 - v; omega) (by show (v + 1) ≤ 32; omega) hl hP hD hS
  ·
    exact W.vret hx hb hr (fun t9 ht9 hW9 => ⟨⟨(fg, fk, fu, fc, fb, fn, rc), rfl, by simp [fcCW, c1], xf_hP ht9 hP⟩, hS.F ht9⟩) hS.2.2 dX0_countValues_4
set_option maxHeartbeats 4000000 in
set_option maxRecDepth 100000 in
/-- countAll() -/
theorem k_countAll (l : Launch) (dC : Nat → ClassId) (dI : Nat → Nat → Nat) (h0 a1 a2 a3 a4 a5 a6 : Nat) (cI : ClassId) (fg fk fu fc fb fn : Nat → Int32) (rc : Int32) : Met l yX0_countAll wsX0_countAll ({ frames := 2, cells := 0, slots := 0, locals := 45 }) (va_Pc [.ref h0] (fun U => va_P (dC, dI) fmCl (fw h0 a1 a2 a3 a4 a5 a6 cI fg fk fu fc fb fn rc) U.heap ∧ va_K (dC, dI) fmCl [(cI, .int)] U ∧ va_D (fun _ => True) (fw h0 a1 a2 a3 a4 a5 a6 cI fg fk fu fc fb fn rc))) (va_Qv (fun u : FcS => u = (fg, fk, fu, fc, fb, fcAll fg fk fc fn, rc)) (fun u t => va_P (dC, dI) fmCl (fw h0 a1 a2 a3 a4 a5 a6 cI u.1 u.2.1 u.2.2.1 u.2.2.2.1 u.2.2.2.2.1 u.2.2.2.2.2.1 u.2.2.2.2.2.2) t.heap) (xf_A (fw h0 a1 a2 a3 a4 a5 a6 cI fg fk fu fc fb fn rc))) 0 0 (xf_A (fw h0 a1 a2 a3 a4 a5 a6 cI fg fk fu fc fb fn rc)) := by
  refine Met.ofW (cc := cX0_countAll) (maxL := 4) (ret := none) (by decide) rfl ?_
  intro p e s m args below meth c s₁ B hml hv
  obtain ⟨rfl, hP, hK, hD0⟩ := hv
  have hx := B.exec
  have hb := B.bytes
  have hr := B.returns
  have hts := atoms_spec (ws := wsX0_countAll) B.pre
  have hown : s.vm.findClass RX0 = some m.cls := findClass_of_methodNamed B.named
  have hlocks := B.notSynchronized
  have hin : ∀ w ∈ u_ws RX0 TX0 7, w ∈ wsX0_countAll := by decide +kernel
  have hf_counts := hts (.fieldLink RX0 25 "FacetCounts" "counts" "[I") (by decide +kernel)
  have hD := xf_A_self hD0
  generalize hAe : xf_A (fw h0 a1 a2 a3 a4 a5 a6 cI fg fk fu fc fb fn rc) = A at hD ⊢
  have hS : va_S A s.heap s.heap [] := va_S.rf
  have hP : va_P (dC, dI) fmCl (fw h0 a1 a2 a3 a4 a5 a6 cI fg fk fu fc fb fn rc) s.heap := hP
  have hl := lv_entry ([.ref h0]) (n := 4) (Nat.le_of_ble_eq_true rfl)
  rw [lg_entry_eq]
  generalize (lg_sl ([.ref h0]) ++ List.replicate (4 - (lg_sl ([.ref h0])).length) Slot.unset).toArray = ls at hl ⊢
  have hl : lv_has ls 4 [(0, .ref h0)] := hl
  refine lv_aload_n hx hb dX0_countAll_0 rfl (lv_at hl 0 rfl) ?_
  refine va_get (D := (dC, dI)) (ci := 0) (v := .ref a6) (C := RX0) (T := TX0) (N := 7) hx hb hts hin hown hK hP 0 rfl rfl 5 (by decide) hf_counts (fun _ h9 => h9) rfl dX0_countAll_1 ?_
  refine lv_iconst (v := nI 0) hx hb dX0_countAll_4 (by decide) ?_
  have hPf : va_P (dC, dI) fmCl ([(h0, .inr (0, [.ref a1, .ref a2, .ref a3, .ref a4, .ref a5, .ref a6, .int rc])), (a1, .inl (cI, 320, .inl fg)), (a2, .inl (cI, 40, .inl fk)), (a3, .inl (cI, 32, .inl fu)), (a4, .inl (cI, 8, .inl fc)), (a5, .inl (cI, 256, .inl fb))] ++ ([(a6, .inl (cI, 256, .inl fn))] ++ [])) _ := hP
  have hDf : va_D A ([(h0, .inr (0, [.ref a1, .ref a2, .ref a3, .ref a4, .ref a5, .ref a6, .int rc])), (a1, .inl (cI, 320, .inl fg)), (a2, .inl (cI, 40, .inl fk)), (a3, .inl (cI, 32, .inl fu)), (a4, .inl (cI, 8, .inl fc)), (a5, .inl (cI, 256, .inl fb))] ++ ([(a6, .inl (cI, 256, .inl fn))] ++ [])) := hD
  have hPc := xf_P_left (xf_P_right hPf)
  have hDc := xf_D_left (xf_D_right hDf)
  have hFc := xf_A_le hDc
  refine va_callv (va_runS (As := [.ref a6, .int (nI 0)]) (rest := []) ⟨hx, hb, hml, hown, hts⟩ (j_fill l dC dI a6 cI 256 fn (nI 0) (by decide)) (va_cwS 2 hts gX0_countAll_J7_fill_53178 rfl rfl rfl (by decide +kernel) ⟨Nat.le_of_ble_eq_true rfl, Nat.le_of_ble_eq_true rfl⟩) (xf_preSW hK hPc hDc) rfl rfl hl.1 rfl (lv_room (Nat.le_of_ble_eq_true rfl)) dX0_countAll_5 ⟨Nat.zero_le _, Nat.zero_le _⟩) hS (fun q _ h => hFc q h) hFc (fun u9 t9 H locs ht9 hvm9 hw9 hB9 hz9 hk9 hS => ?_)
  have hB9 := xf_hB ht9 hB9
  have hP : va_P (dC, dI) fmCl (fw h0 a1 a2 a3 a4 a5 a6 cI fg fk fu fc fb (xf_fill (nI 0) fn 256) rc) H := xf_join hPf hDf hB9 hk9
  have hD : va_D A (fw h0 a1 a2 a3 a4 a5 a6 cI fg fk fu fc fb (xf_fill (nI 0) fn 256) rc) := xf_wD hD rfl
  refine lv_iconst (v := nI 0) hx hb dX0_countAll_8 (by decide) ?_
  refine lv_istore_n (lv' := [(1, .int (nI 0)), (0, .ref h0)]) hx hb dX0_countAll_9 rfl hl (by decide) rfl (fun ls hl => ?_)
  refine xf_loopH (σ := Nat) (fun (z9 : Nat) => 40 - z9) (fun (z9 : Nat) => [(0, .ref h0), (1, .int (nI z9))]) (fun (z9 : Nat) => (fw h0 a1 a2 a3 a4 a5 a6 cI fg fk fu fc fb (fcCA fg fk fc (xf_fill (nI 0) fn 256) z9) rc)) (fun (z9 : Nat) => z9 ≤ 40) 0 (lv_sub hl [1, 0] rfl) (Nat.zero_le _) hP hD hS (fun z9 ls H locs hi hl hP hD hS ih10 => ?_)
  obtain ⟨t, hxe⟩ : ∃ z, z = z9 := ⟨_, rfl⟩
  subst hxe
  have hl : lv_has ls 4 [(0, .ref h0), (1, .int (nI t))] := hl
  have hP : va_P (dC, dI) fmCl (fw h0 a1 a2 a3 a4 a5 a6 cI fg fk fu fc fb (fcCA fg fk fc (xf_fill (nI 0) fn 256) t) rc) H := hP
  have hD : va_D A (fw h0 a1 a2 a3 a4 a5 a6 cI fg fk fu fc fb (fcCA fg fk fc (xf_fill (nI 0) fn 256) t) rc) := hD
  have hi : t ≤ 40 := hi
  refine lv_iload_n hx hb dX0_countAll_10 rfl (lv_at hl 1 rfl) ?_
  refine lv_bipush (v := nI 40) hx hb dX0_countAll_11 (by decide) ?_
  refine xf_ge (tgt := 63) hx hb dX0_countAll_13 (by decide) (by omega) (by omega) (fun c13 => ?_) (fun c13 => ?_)
  ·
    obtain rfl : t = 40 := by omega
    exact W.vret hx hb hr (fun t9 ht9 hW9 => ⟨⟨(fg, fk, fu, fc, fb, fcCA fg fk fc (xf_fill (nI 0) fn 256) 40, rc), rfl, rfl, xf_hP ht9 hP⟩, hS.F ht9⟩) hS.2.2 dX0_countAll_63
  ·
    refine lv_aload_n hx hb dX0_countAll_16 rfl (lv_at hl 0 rfl) ?_
    refine lv_iload_n hx hb dX0_countAll_17 rfl (lv_at hl 1 rfl) ?_
    refine vp_callSi (W.runV (As := [.int (nI t)]) (rest := []) ⟨hx, hb, hml, hown, hts⟩ (k_lackedHeads l dC dI h0 a1 a2 a3 a4 a5 a6 cI fg fk fu fc fb (fcCA fg fk fc (xf_fill (nI 0) fn 256) t) rc t (by omega)) (cwV 1 hts gX0_countAll_X0_lackedHeads rfl rfl rfl (by decide +kernel) ⟨Nat.le_of_ble_eq_true rfl, Nat.le_of_ble_eq_true rfl⟩) (xf_preV (ci := 0) (RX0, TX0, 7) hK hP rfl rfl) rfl rfl hl.1 rfl (lv_room (Nat.le_of_ble_eq_true rfl)) dX0_countAll_18 ⟨Nat.zero_le _, Nat.zero_le _⟩) (fun r hr9 => ?_)
    subst hr9
    refine lv_istore_n (lv' := [(2, .int (fcLk fg fk fc t)), (0, .ref h0), (1, .int (nI t))]) hx hb dX0_countAll_21 rfl hl (by decide) rfl (fun ls hl => ?_)
    refine lv_iconst (v := nI 0) hx hb dX0_countAll_22 (by decide) ?_
    refine lv_istore_n (lv' := [(3, .int (nI 0)), (2, .int (fcLk fg fk fc t)), (0, .ref h0), (1, .int (nI t))]) hx hb dX0_countAll_23 rfl hl (by decide) rfl (fun ls hl => ?_)
    refine xf_loopH (σ := Nat) (fun (z9 : Nat) => 8 - z9) (fun (z9 : Nat) => [(0, .ref h0), (1, .int (nI t)), (2, .int (fcLk fg fk fc t)), (3, .int (nI z9))]) (fun (z9 : Nat) => (fw h0 a1 a2 a3 a4 a5 a6 cI fg fk fu fc fb (fcCH (fcLk fg fk fc t) (fcV fg fk t) (fcCA fg fk fc (xf_fill (nI 0) fn 256) t) z9) rc)) (fun (z9 : Nat) => z9 ≤ 8) 0 (lv_sub hl [2, 3, 1, 0] rfl) (Nat.zero_le _) hP hD hS (fun z9 ls H locs hi hl hP hD hS ih24 => ?_)
    obtain ⟨h, hxe⟩ : ∃ z, z = z9 := ⟨_, rfl⟩
    subst hxe
    have hl : lv_has ls 4 [(0, .ref h0), (1, .int (nI t)), (2, .int (fcLk fg fk fc t)), (3, .int (nI h))] := hl
    have hP : va_P (dC, dI) fmCl (fw h0 a1 a2 a3 a4 a5 a6 cI fg fk fu fc fb (fcCH (fcLk fg fk fc t) (fcV fg fk t) (fcCA fg fk fc (xf_fill (nI 0) fn 256) t) h) rc) H := hP
    have hD : va_D A (fw h0 a1 a2 a3 a4 a5 a6 cI fg fk fu fc fb (fcCH (fcLk fg fk fc t) (fcV fg fk t) (fcCA fg fk fc (xf_fill (nI 0) fn 256) t) h) rc) := hD
    have hi : h ≤ 8 := hi
    refine lv_iload_n hx hb dX0_countAll_24 rfl (lv_at hl 3 rfl) ?_
    refine lv_bipush (v := nI 8) hx hb dX0_countAll_25 (by decide) ?_
    refine xf_ge (tgt := 57) hx hb dX0_countAll_27 (by decide) (by omega) (by omega) (fun c27 => ?_) (fun c27 => ?_)
    ·
      obtain rfl : h = 8 := by omega
      refine lv_iinc (v := nI (t + 1)) (lv' := [(1, .int (nI (t + 1))), (0, .ref h0), (2, .int (fcLk fg fk fc t)), (3, .int (nI 8))]) hx hb dX0_countAll_57 hl (k := 1) rfl (by exact nI_1 t) (by decide) rfl (fun ls hl => ?_)
      refine lv_goto (tgt := 10) hx hb dX0_countAll_60 (by decide) ?_
      have hl := lv_sub (l' := [(0, .ref h0), (1, .int (nI (t + 1)))]) hl [1, 0] rfl
      have hl : lv_has ls 4 [(0, .ref h0), (1, .int (nI (t + 1)))] := xf_lv hl (by rfl)
      have hP : va_P (dC, dI) fmCl (fw h0 a1 a2 a3 a4 a5 a6 cI fg fk fu fc fb (fcCA fg fk fc (xf_fill (nI 0) fn 256) (t + 1)) rc) H := xf_wP hP (by rfl)
      have hD : va_D A (fw h0 a1 a2 a3 a4 a5 a6 cI fg fk fu fc fb (fcCA fg fk fc (xf_fill (nI 0) fn 256) (t + 1)) rc) := xf_wD hD rfl
      exact ih10 (t + 1) ls H locs (by show 40 - (t + 1) < 40 - t; omega) (by show (t + 1) ≤ 40; omega) hl hP hD hS
    ·
      refine lv_iload_n hx hb dX0_countAll_30 rfl (lv_at hl 2 rfl) ?_
      refine lv_iconst (v := nI 1) hx hb dX0_countAll_31 (by decide) ?_
      refine lv_iload_n hx hb dX0_countAll_32 rfl (lv_at hl 3 rfl) ?_
      refine lv_ishl hx hb dX0_countAll_33 ?_
      refine xf_be (y := xf_bit h) (by rfl) ?_
      refine lv_iconst (v := (-1)) hx hb dX0_countAll_34 (by decide) ?_
      refine lv_ixor hx hb dX0_countAll_35 ?_
      refine xf_be (y := xf_not (xf_bit h)) (by rfl) ?_
      refine lv_iand hx hb dX0_countAll_36 ?_
      refine lv_if_ne (tgt := 51) hx hb dX0_countAll_37 (by decide) (fun c37 => ?_) (fun c37 => ?_)
      ·
        refine lv_iinc (v := nI (h + 1)) (lv' := [(3, .int (nI (h + 1))), (0, .ref h0), (1, .int (nI t)), (2, .int (fcLk fg fk fc t))]) hx hb dX0_countAll_51 hl (k := 3) rfl (by exact nI_1 h) (by decide) rfl (fun ls hl => ?_)
        refine lv_goto (tgt := 24) hx hb dX0_countAll_54 (by decide) ?_
        have hl := lv_sub (l' := [(0, .ref h0), (1, .int (nI t)), (2, .int (fcLk fg fk fc t)), (3, .int (nI (h + 1)))]) hl [1, 2, 3, 0] rfl
        have hl : lv_has ls 4 [(0, .ref h0), (1, .int (nI t)), (2, .int (fcLk fg fk fc t)), (3, .int (nI (h + 1)))] := xf_lv hl (by rfl)
        have hP : va_P (dC, dI) fmCl (fw h0 a1 a2 a3 a4 a5 a6 cI fg fk fu fc fb (fcCH (fcLk fg fk fc t) (fcV fg fk t) (fcCA fg fk fc (xf_fill (nI 0) fn 256) t) (h + 1)) rc) H := xf_wP hP (by simp [fcCH, c27, c37])
        have hD : va_D A (fw h0 a1 a2 a3 a4 a5 a6 cI fg fk fu fc fb (fcCH (fcLk fg fk fc t) (fcV fg fk t) (fcCA fg fk fc (xf_fill (nI 0) fn 256) t) (h + 1)) rc) := xf_wD hD rfl
        exact ih24 (h + 1) ls H locs (by show 8 - (h + 1) < 8 - h; omega) (by show (h + 1) ≤ 8; omega) hl hP hD hS
      ·
        refine lv_aload_n hx hb dX0_countAll_40 rfl (lv_at hl 0 rfl) ?_
        refine lv_iload_n hx hb dX0_countAll_41 rfl (lv_at hl 3 rfl) ?_
        refine lv_aload_n hx hb dX0_countAll_42 rfl (lv_at hl 0 rfl) ?_
        refine lv_iload_n hx hb dX0_countAll_43 rfl (lv_at hl 1 rfl) ?_
        refine lv_iload_n hx hb dX0_countAll_44 rfl (lv_at hl 3 rfl) ?_
        refine vp_callSi (W.runV (As := [.int (nI t), .int (nI h)]) (rest := [.int (nI h), .ref h0]) ⟨hx, hb, hml, hown, hts⟩ (k_valuesOf l dC dI h0 a1 a2 a3 a4 a5 a6 cI fg fk fu fc fb (fcCH (fcLk fg fk fc t) (fcV fg fk t) (fcCA fg fk fc (xf_fill (nI 0) fn 256) t) h) rc t h (by omega) (by omega)) (cwV 2 hts gX0_countAll_X0_valuesOf rfl rfl rfl (by decide +kernel) ⟨Nat.le_of_ble_eq_true rfl, Nat.le_of_ble_eq_true rfl⟩) (xf_preV (ci := 0) (RX0, TX0, 7) hK hP rfl rfl) rfl rfl hl.1 rfl (lv_room (Nat.le_of_ble_eq_true rfl)) dX0_countAll_45 ⟨Nat.zero_le _, Nat.zero_le _⟩) (fun r hr9 => ?_)
        subst hr9
        have hFc := xf_A_le hD
        refine va_callv (va_runV (As := [.int (nI h), .int (fcV fg fk t h)]) (rest := []) ⟨hx, hb, hml, hown, hts⟩ (k_countValues l dC dI h0 a1 a2 a3 a4 a5 a6 cI fg fk fu fc fb (fcCH (fcLk fg fk fc t) (fcV fg fk t) (fcCA fg fk fc (xf_fill (nI 0) fn 256) t) h) rc h (by omega) (fcV fg fk t h)) (cwV 2 hts gX0_countAll_X0_countValues rfl rfl rfl (by decide +kernel) ⟨Nat.le_of_ble_eq_true rfl, Nat.le_of_ble_eq_true rfl⟩) (xf_preW (ci := 0) (RX0, TX0, 7) hK hP hD rfl rfl) rfl rfl hl.1 rfl (lv_room (Nat.le_of_ble_eq_true rfl)) dX0_countAll_48 ⟨Nat.zero_le _, Nat.zero_le _⟩) hS (fun q _ h => hFc q h) hFc (fun u9 t9 H locs ht9 hvm9 hw9 hB9 hz9 hk9 hS => ?_)
        subst hw9
        have hB9 := xf_hB ht9 hB9
        have hP : va_P (dC, dI) fmCl (fw h0 a1 a2 a3 a4 a5 a6 cI fg fk fu fc fb (fcCW h (fcV fg fk t h) (fcCH (fcLk fg fk fc t) (fcV fg fk t) (fcCA fg fk fc (xf_fill (nI 0) fn 256) t) h)) rc) H := hB9
        have hD : va_D A (fw h0 a1 a2 a3 a4 a5 a6 cI fg fk fu fc fb (fcCW h (fcV fg fk t h) (fcCH (fcLk fg fk fc t) (fcV fg fk t) (fcCA fg fk fc (xf_fill (nI 0) fn 256) t) h)) rc) := xf_wD hD rfl
        refine lv_iinc (v := nI (h + 1)) (lv' := [(3, .int (nI (h + 1))), (0, .ref h0), (1, .int (nI t)), (2, .int (fcLk fg fk fc t))]) hx hb dX0_countAll_51 hl (k := 3) rfl (by exact nI_1 h) (by decide) rfl (fun ls hl => ?_)
        refine lv_goto (tgt := 24) hx hb dX0_countAll_54 (by decide) ?_
        have hl := lv_sub (l' := [(0, .ref h0), (1, .int (nI t)), (2, .int (fcLk fg fk fc t)), (3, .int (nI (h + 1)))]) hl [1, 2, 3, 0] rfl
        have hl : lv_has ls 4 [(0, .ref h0), (1, .int (nI t)), (2, .int (fcLk fg fk fc t)), (3, .int (nI (h + 1)))] := xf_lv hl (by rfl)
        have hP : va_P (dC, dI) fmCl (fw h0 a1 a2 a3 a4 a5 a6 cI fg fk fu fc fb (fcCH (fcLk fg fk fc t) (fcV fg fk t) (fcCA fg fk fc (xf_fill (nI 0) fn 256) t) (h + 1)) rc) H := xf_wP hP (by simp [fcCH, c27, c37])
        have hD : va_D A (fw h0 a1 a2 a3 a4 a5 a6 cI fg fk fu fc fb (fcCH (fcLk fg fk fc t) (fcV fg fk t) (fcCA fg fk fc (xf_fill (nI 0) fn 256) t) (h + 1)) rc) := xf_wD hD rfl
        exact ih24 (h + 1) ls H locs (by show 8 - (h + 1) < 8 - h; omega) (by show (h + 1) ≤ 8; omega) hl hP hD hS
