set_option maxHeartbeats 4000000 in
set_option maxRecDepth 100000 in
/-- valuesOf(t, h) -/
theorem k_valuesOf (l : Launch) (dC : Nat → ClassId) (dI : Nat → Nat → Nat) (h0 a1 a2 a3 a4 a5 a6 : Nat) (cI : ClassId) (fg fk fu fc fb fn : Nat → Int32) (rc : Int32) (t h : Nat) (ht : t < 40) (hh : h < 8) : Met l yX0_valuesOf wsX0_valuesOf ({ frames := 0, cells := 0, slots := 0, locals := 0 }) (va_Pc [.ref h0, .int (nI t), .int (nI h)] (fun U => va_P (dC, dI) fmCl (fw h0 a1 a2 a3 a4 a5 a6 cI fg fk fu fc fb fn rc) U.heap ∧ va_K (dC, dI) fmCl [(cI, .int)] U)) (vp_Si (fun r => r = fcV fg fk t h)) 0 0 (fun _ => False) := by
  refine Met.ofW (cc := cX0_valuesOf) (maxL := 3) (ret := (some .int)) (by decide) rfl ?_
  intro p e s m args below meth c s₁ B hml hv
  obtain ⟨rfl, hP, hK⟩ := hv
  have hx := B.exec
  have hb := B.bytes
  have hr := B.returns
  have hts := atoms_spec (ws := wsX0_valuesOf) B.pre
  have hown : s.vm.findClass RX0 = some m.cls := findClass_of_methodNamed B.named
  have hlocks := B.notSynchronized
  have hin : ∀ w ∈ u_ws RX0 TX0 7, w ∈ wsX0_valuesOf := by decide +kernel
  have hf_given := hts (.fieldLink RX0 9 "FacetCounts" "given" "[I") (by decide +kernel)
  have hf_kinds := hts (.fieldLink RX0 13 "FacetCounts" "kinds" "[I") (by decide +kernel)
  have hl := lv_entry ([.ref h0, .int (nI t), .int (nI h)]) (n := 3) (Nat.le_of_ble_eq_true rfl)
  rw [lg_entry_eq]
  generalize (lg_sl ([.ref h0, .int (nI t), .int (nI h)]) ++ List.replicate (3 - (lg_sl ([.ref h0, .int (nI t), .int (nI h)])).length) Slot.unset).toArray = ls at hl ⊢
  have hl : lv_has ls 3 [(0, .ref h0), (1, .int (nI t)), (2, .int (nI h))] := hl
  refine lv_iload_n hx hb dX0_valuesOf_0 rfl (lv_at hl 2 rfl) ?_
  refine xf_zne (tgt := 13) hx hb dX0_valuesOf_1 (by decide) (by omega) (fun c1 => ?_) (fun c1 => ?_)
  ·
    refine lv_aload_n hx hb dX0_valuesOf_13 rfl (lv_at hl 0 rfl) ?_
    refine va_get (D := (dC, dI)) (ci := 0) (v := .ref a1) (C := RX0) (T := TX0) (N := 7) hx hb hts hin hown hK hP 0 rfl rfl 0 (by decide) hf_given (fun _ h9 => h9) rfl dX0_valuesOf_14 ?_
    refine lv_iload_n hx hb dX0_valuesOf_17 rfl (lv_at hl 1 rfl) ?_
    refine lv_bipush (v := nI 8) hx hb dX0_valuesOf_18 (by decide) ?_
    refine lv_imul hx hb dX0_valuesOf_20 ?_
    refine xf_be (y := nI (t * 8)) (by exact pk_mul _ _) ?_
    refine lv_iload_n hx hb dX0_valuesOf_21 rfl (lv_at hl 2 rfl) ?_
    refine lv_iadd hx hb dX0_valuesOf_22 ?_
    refine xf_be (y := nI (t * 8 + h)) (by exact nI_add _ _) ?_
    refine xf_iald hx hb hK hP 1 0 rfl rfl (j := (t * 8 + h)) (by omega) (by decide) dX0_valuesOf_23 ?_
    exact W.iret (v := fg (t * 8 + h)) hx hb hr (fun t9 ht9 hW9 => ⟨_, rfl, by simp [fcV, c1], ht9⟩) (fun q h => nomatch h) dX0_valuesOf_24
  ·
    refine lv_aload_n hx hb dX0_valuesOf_4 rfl (lv_at hl 0 rfl) ?_
    refine va_get (D := (dC, dI)) (ci := 0) (v := .ref a2) (C := RX0) (T := TX0) (N := 7) hx hb hts hin hown hK hP 0 rfl rfl 1 (by decide) hf_kinds (fun _ h9 => h9) rfl dX0_valuesOf_5 ?_
    refine lv_iload_n hx hb dX0_valuesOf_8 rfl (lv_at hl 1 rfl) ?_
    refine xf_iald hx hb hK hP 2 0 rfl rfl (j := t) (by omega) (by decide) dX0_valuesOf_9 ?_
    refine lv_goto (tgt := 24) hx hb dX0_valuesOf_10 (by decide) ?_
    exact W.iret (v := fk t) hx hb hr (fun t9 ht9 hW9 => ⟨_, rfl, by simp [fcV, c1], ht9⟩) (fun q h => nomatch h) dX0_valuesOf_24
set_option maxHeartbeats 4000000 in
set_option maxRecDepth 100000 in
/-- withUppers(kd, set) -/
theorem k_withUppers (l : Launch) (dC : Nat → ClassId) (dI : Nat → Nat → Nat) (h0 a1 a2 a3 a4 a5 a6 : Nat) (cI : ClassId) (fg fk fu fc fb fn : Nat → Int32) (rc : Int32) (kd set : Int32) : Met l yX0_withUppers wsX0_withUppers ({ frames := 1, cells := 0, slots := 0, locals := 21 }) (va_Pc [.ref h0, .int kd, .int set] (fun U => va_P (dC, dI) fmCl (fw h0 a1 a2 a3 a4 a5 a6 cI fg fk fu fc fb fn rc) U.heap ∧ va_K (dC, dI) fmCl [(cI, .int)] U)) (vp_Si (fun r => r = fcWU fu 32 kd set)) 0 0 (fun _ => False) := by
  refine Met.ofW (cc := cX0_withUppers) (maxL := 6) (ret := (some .int)) (by decide) rfl ?_
  intro p e s m args below meth c s₁ B hml hv
  obtain ⟨rfl, hP, hK⟩ := hv
  have hx := B.exec
  have hb := B.bytes
  have hr := B.returns
  have hts := atoms_spec (ws := wsX0_withUppers) B.pre
  have hown : s.vm.findClass RX0 = some m.cls := findClass_of_methodNamed B.named
  have hlocks := B.notSynchronized
  have hin : ∀ w ∈ u_ws RX0 TX0 7, w ∈ wsX0_withUppers := by decide +kernel
  have hf_uppers := hts (.fieldLink RX0 16 "FacetCounts" "uppers" "[I") (by decide +kernel)
  have hl := lv_entry ([.ref h0, .int kd, .int set]) (n := 6) (Nat.le_of_ble_eq_true rfl)
  rw [lg_entry_eq]
  generalize (lg_sl ([.ref h0, .int kd, .int set]) ++ List.replicate (6 - (lg_sl ([.ref h0, .int kd, .int set])).length) Slot.unset).toArray = ls at hl ⊢
  have hl : lv_has ls 6 [(0, .ref h0), (1, .int kd), (2, .int set)] := hl
  refine lv_iload_n hx hb dX0_withUppers_0 rfl (lv_at hl 2 rfl) ?_
  refine lv_istore_n (lv' := [(3, .int set), (0, .ref h0), (1, .int kd), (2, .int set)]) hx hb dX0_withUppers_1 rfl hl (by decide) rfl (fun ls hl => ?_)
  refine lv_iload_n hx hb dX0_withUppers_2 rfl (lv_at hl 2 rfl) ?_
  refine lv_istore (lv' := [(4, .int kd), (3, .int set), (0, .ref h0), (1, .int kd), (2, .int set)]) hx hb dX0_withUppers_3 hl (by decide) rfl (fun ls hl => ?_)
  refine lv_iconst (v := nI 0) hx hb dX0_withUppers_5 (by decide) ?_
  refine lv_istore (lv' := [(5, .int (nI 0)), (4, .int kd), (3, .int set), (0, .ref h0), (1, .int kd), (2, .int set)]) hx hb dX0_withUppers_6 hl (by decide) rfl (fun ls hl => ?_)
  refine xf_loopS (σ := Nat × Int32 × Int32) (fun (z9 : Nat × Int32 × Int32) => 32 - z9.1) (fun (z9 : Nat × Int32 × Int32) => [(0, .ref h0), (1, .int kd), (2, .int set), (3, .int z9.2.2), (4, .int z9.2.1), (5, .int (nI z9.1))]) (fun (z9 : Nat × Int32 × Int32) => z9.1 ≤ 32 ∧ fcWU fu 32 kd set = fcWU fu (32 - z9.1) z9.2.1 z9.2.2) (0, kd, set) (lv_sub hl [3, 4, 5, 2, 1, 0] rfl) ⟨Nat.zero_le _, rfl⟩ (fun z9 ls hi hl ih8 => ?_)
  obtain ⟨i, ka, al⟩ := z9
  have hl : lv_has ls 6 [(0, .ref h0), (1, .int kd), (2, .int set), (3, .int al), (4, .int ka), (5, .int (nI i))] := hl
  obtain ⟨hi, hR⟩ := hi
  have hi : i ≤ 32 := hi
  have hR : fcWU fu 32 kd set = fcWU fu (32 - i) ka al := hR
  refine lv_iload hx hb dX0_withUppers_8 (lv_at hl 5 rfl) ?_
  refine lv_bipush (v := nI 32) hx hb dX0_withUppers_10 (by decide) ?_
  refine xf_ge (tgt := 54) hx hb dX0_withUppers_12 (by decide) (by omega) (by omega) (fun c12 => ?_) (fun c12 => ?_)
  ·
    refine lv_iload_n hx hb dX0_withUppers_54 rfl (lv_at hl 3 rfl) ?_
    exact W.iret (v := al) hx hb hr (fun t9 ht9 hW9 => ⟨_, rfl, by rw [show i = 32 by omega] at hR; exact hR.symm, ht9⟩) (fun q h => nomatch h) dX0_withUppers_55
  ·
    refine lv_iload hx hb dX0_withUppers_15 (lv_at hl 4 rfl) ?_
    refine vp_callSi (W.runS (As := [.int ka]) (rest := []) ⟨hx, hb, hml, hown, hts⟩ (k_isValue l ka) (va_cwS 1 hts gX0_withUppers_X0_isValue rfl rfl rfl (by decide +kernel) ⟨Nat.le_of_ble_eq_true rfl, Nat.le_of_ble_eq_true rfl⟩) (xf_preS0) rfl rfl hl.1 rfl (lv_room (Nat.le_of_ble_eq_true rfl)) dX0_withUppers_17 ⟨Nat.zero_le _, Nat.zero_le _⟩) (fun r hr9 => ?_)
    subst hr9
    refine xf_Beq (tgt := 54) hx hb dX0_withUppers_20 (by decide) (fun c20 => ?_) (fun c20 => ?_)
    ·
      refine lv_iload_n hx hb dX0_withUppers_54 rfl (lv_at hl 3 rfl) ?_
      exact W.iret (v := al) hx hb hr (fun t9 ht9 hW9 => ⟨_, rfl, by rw [hR, show 32 - i = (31 - i) + 1 by omega, fcWU, if_neg (by rw [c20]; decide)], ht9⟩) (fun q h => nomatch h) dX0_withUppers_55
    ·
      obtain ⟨j, hj, rfl⟩ := xf_in_of c20 (by decide)
      refine lv_iload_n hx hb dX0_withUppers_23 rfl (lv_at hl 3 rfl) ?_
      refine lv_iload hx hb dX0_withUppers_24 (lv_at hl 4 rfl) ?_
      refine vp_callSi (W.runS (As := [.int al, .int (nI j)]) (rest := []) ⟨hx, hb, hml, hown, hts⟩ (k_holds l al j (by omega)) (va_cwS 2 hts gX0_withUppers_X0_holds rfl rfl rfl (by decide +kernel) ⟨Nat.le_of_ble_eq_true rfl, Nat.le_of_ble_eq_true rfl⟩) (xf_preS0) rfl rfl hl.1 rfl (lv_room (Nat.le_of_ble_eq_true rfl)) dX0_withUppers_26 ⟨Nat.zero_le _, Nat.zero_le _⟩) (fun r hr9 => ?_)
      subst hr9
      refine xf_Bne (tgt := 54) hx hb dX0_withUppers_29 (by decide) (fun c29 => ?_) (fun c29 => ?_)
      ·
        refine lv_iload_n hx hb dX0_withUppers_54 rfl (lv_at hl 3 rfl) ?_
        exact W.iret (v := al) hx hb hr (fun t9 ht9 hW9 => ⟨_, rfl, by rw [hR, show 32 - i = (31 - i) + 1 by omega, fcWU, if_pos c20, nI_clamp (by omega), if_pos c29], ht9⟩) (fun q h => nomatch h) dX0_withUppers_55
      ·
        refine lv_iload_n hx hb dX0_withUppers_32 rfl (lv_at hl 3 rfl) ?_
        refine lv_iconst (v := nI 1) hx hb dX0_withUppers_33 (by decide) ?_
        refine lv_iload hx hb dX0_withUppers_34 (lv_at hl 4 rfl) ?_
        refine lv_ishl hx hb dX0_withUppers_36 ?_
        refine xf_be (y := xf_bit j) (by rfl) ?_
        refine lv_ior hx hb dX0_withUppers_37 ?_
        refine lv_istore_n (lv' := [(3, .int (al ||| (xf_bit j))), (0, .ref h0), (1, .int kd), (2, .int set), (4, .int (nI j)), (5, .int (nI i))]) hx hb dX0_withUppers_38 rfl hl (by decide) rfl (fun ls hl => ?_)
        refine lv_aload_n hx hb dX0_withUppers_39 rfl (lv_at hl 1 rfl) ?_
        refine va_get (D := (dC, dI)) (ci := 0) (v := .ref a3) (C := RX0) (T := TX0) (N := 7) hx hb hts hin hown hK hP 0 rfl rfl 2 (by decide) hf_uppers (fun _ h9 => h9) rfl dX0_withUppers_40 ?_
        refine lv_iload hx hb dX0_withUppers_43 (lv_at hl 4 rfl) ?_
        refine xf_iald hx hb hK hP 3 0 rfl rfl (j := j) (by omega) (by decide) dX0_withUppers_45 ?_
        refine lv_istore (lv' := [(4, .int (fu j)), (3, .int (al ||| (xf_bit j))), (0, .ref h0), (1, .int kd), (2, .int set), (5, .int (nI i))]) hx hb dX0_withUppers_46 hl (by decide) rfl (fun ls hl => ?_)
        refine lv_iinc (v := nI (i + 1)) (lv' := [(5, .int (nI (i + 1))), (4, .int (fu j)), (3, .int (al ||| (xf_bit j))), (0, .ref h0), (1, .int kd), (2, .int set)]) hx hb dX0_withUppers_48 hl (k := 5) rfl (by exact nI_1 i) (by decide) rfl (fun ls hl => ?_)
        refine lv_goto (tgt := 8) hx hb dX0_withUppers_51 (by decide) ?_
        have hl := lv_sub (l' := [(0, .ref h0), (1, .int kd), (2, .int set), (3, .int (al ||| (xf_bit j))), (4, .int (fu j)), (5, .int (nI (i + 1)))]) hl [3, 4, 5, 2, 1, 0] rfl
        have hl : lv_has ls 6 [(0, .ref h0), (1, .int kd), (2, .int set), (3, .int ((al ||| xf_bit j))), (4, .int ((fu j))), (5, .int (nI ((i + 1))))] := xf_lv hl (by rfl)
        exact ih8 (i + 1, fu j, al ||| xf_bit j) ls (by show 32 - (i + 1) < 32 - i; omega) (by refine ⟨by show i + 1 ≤ 32; omega, ?_⟩; show _ = fcWU fu (32 - (i + 1)) (fu j) (al ||| xf_bit j); rw [hR, show 32 - i = (32 - (i + 1)) + 1 by omega, fcWU, if_pos c20, nI_clamp (by omega), if_neg (by rw [c29]; decide)]) hl
set_option maxHeartbeats 4000000 in
set_option maxRecDepth 100000 in
/-- lackedHeads(t) -/
theorem k_lackedHeads (l : Launch) (dC : Nat → ClassId) (dI : Nat → Nat → Nat) (h0 a1 a2 a3 a4 a5 a6 : Nat) (cI : ClassId) (fg fk fu fc fb fn : Nat → Int32) (rc : Int32) (t : Nat) (ht : t < 40) : Met l yX0_lackedHeads wsX0_lackedHeads ({ frames := 1, cells := 0, slots := 0, locals := 22 }) (va_Pc [.ref h0, .int (nI t)] (fun U => va_P (dC, dI) fmCl (fw h0 a1 a2 a3 a4 a5 a6 cI fg fk fu fc fb fn rc) U.heap ∧ va_K (dC, dI) fmCl [(cI, .int)] U)) (vp_Si (fun r => r = fcLk fg fk fc t)) 0 0 (fun _ => False) := by
  refine Met.ofW (cc := cX0_lackedHeads) (maxL := 4) (ret := (some .int)) (by decide) rfl ?_
  intro p e s m args below meth c s₁ B hml hv
  obtain ⟨rfl, hP, hK⟩ := hv
  have hx := B.exec
  have hb := B.bytes
  have hr := B.returns
  have hts := atoms_spec (ws := wsX0_lackedHeads) B.pre
  have hown : s.vm.findClass RX0 = some m.cls := findClass_of_methodNamed B.named
  have hlocks := B.notSynchronized
  have hin : ∀ w ∈ u_ws RX0 TX0 7, w ∈ wsX0_lackedHeads := by decide +kernel
  have hf_chosen := hts (.fieldLink RX0 19 "FacetCounts" "chosen" "[I") (by decide +kernel)
  have hl := lv_entry ([.ref h0, .int (nI t)]) (n := 4) (Nat.le_of_ble_eq_true rfl)
  rw [lg_entry_eq]
  generalize (lg_sl ([.ref h0, .int (nI t)]) ++ List.replicate (4 - (lg_sl ([.ref h0, .int (nI t)])).length) Slot.unset).toArray = ls at hl ⊢
  have hl : lv_has ls 4 [(0, .ref h0), (1, .int (nI t))] := hl
  refine lv_iconst (v := nI 0) hx hb dX0_lackedHeads_0 (by decide) ?_
  refine lv_istore_n (lv' := [(2, .int (nI 0)), (0, .ref h0), (1, .int (nI t))]) hx hb dX0_lackedHeads_1 rfl hl (by decide) rfl (fun ls hl => ?_)
  refine lv_iconst (v := nI 0) hx hb dX0_lackedHeads_2 (by decide) ?_
  refine lv_istore_n (lv' := [(3, .int (nI 0)), (2, .int (nI 0)), (0, .ref h0), (1, .int (nI t))]) hx hb dX0_lackedHeads_3 rfl hl (by decide) rfl (fun ls hl => ?_)
  refine xf_loopS (σ := Nat) (fun (z9 : Nat) => 8 - z9) (fun (z9 : Nat) => [(0, .ref h0), (1, .int (nI t)), (2, .int (xf_mk (fcLP fc (fcV fg fk t)) z9)), (3, .int (nI z9))]) (fun (z9 : Nat) => z9 ≤ 8) 0 (lv_sub hl [2, 3, 1, 0] rfl) (Nat.zero_le _) (fun z9 ls hi hl ih4 => ?_)
  obtain ⟨h, hxe⟩ : ∃ z, z = z9 := ⟨_, rfl⟩
  subst hxe
  have hl : lv_has ls 4 [(0, .ref h0), (1, .int (nI t)), (2, .int (xf_mk (fcLP fc (fcV fg fk t)) h)), (3, .int (nI h))] := hl
  have hi : h ≤ 8 := hi
  refine lv_iload_n hx hb dX0_lackedHeads_4 rfl (lv_at hl 3 rfl) ?_
  refine lv_bipush (v := nI 8) hx hb dX0_lackedHeads_5 (by decide) ?_
  refine xf_ge (tgt := 47) hx hb dX0_lackedHeads_7 (by decide) (by omega) (by omega) (fun c7 => ?_) (fun c7 => ?_)
  ·
    refine lv_iload_n hx hb dX0_lackedHeads_47 rfl (lv_at hl 2 rfl) ?_
    exact W.iret (v := xf_mk (fcLP fc (fcV fg fk t)) h) hx hb hr (fun t9 ht9 hW9 => ⟨_, rfl, by rw [show h = 8 from by omega]; rfl, ht9⟩) (fun q h => nomatch h) dX0_lackedHeads_48
  ·
    refine lv_aload_n hx hb dX0_lackedHeads_10 rfl (lv_at hl 0 rfl) ?_
    refine va_get (D := (dC, dI)) (ci := 0) (v := .ref a4) (C := RX0) (T := TX0) (N := 7) hx hb hts hin hown hK hP 0 rfl rfl 3 (by decide) hf_chosen (fun _ h9 => h9) rfl dX0_lackedHeads_11 ?_
    refine lv_iload_n hx hb dX0_lackedHeads_14 rfl (lv_at hl 3 rfl) ?_
    refine xf_iald hx hb hK hP 4 0 rfl rfl (j := h) (by omega) (by decide) dX0_lackedHeads_15 ?_
    refine lv_if_eq (tgt := 41) hx hb dX0_lackedHeads_16 (by decide) (fun c16 => ?_) (fun c16 => ?_)
    ·
      refine lv_iinc (v := nI (h + 1)) (lv' := [(3, .int (nI (h + 1))), (0, .ref h0), (1, .int (nI t)), (2, .int (xf_mk (fcLP fc (fcV fg fk t)) h))]) hx hb dX0_lackedHeads_41 hl (k := 3) rfl (by exact nI_1 h) (by decide) rfl (fun ls hl => ?_)
      refine lv_goto (tgt := 4) hx hb dX0_lackedHeads_44 (by decide) ?_
      have hl := lv_sub (l' := [(0, .ref h0), (1, .int (nI t)), (2, .int (xf_mk (fcLP fc (fcV fg fk t)) h)), (3, .int (nI (h + 1)))]) hl [1, 2, 3, 0] rfl
      have hl : lv_has ls 4 [(0, .ref h0), (1, .int (nI t)), (2, .int (xf_mk (fcLP fc (fcV fg fk t)) (h + 1))), (3, .int (nI (h + 1)))] := xf_lv hl (by simp [xf_mk, fcLP, c7, c16])
      exact ih4 (h + 1) ls (by show 8 - (h + 1) < 8 - h; omega) (by show (h + 1) ≤ 8; omega) hl
    ·
      refine lv_aload_n hx hb dX0_lackedHeads_19 rfl (lv_at hl 0 rfl) ?_
      refine va_get (D := (dC, dI)) (ci := 0) (v := .ref a4) (C := RX0) (T := TX0) (N := 7) hx hb hts hin hown hK hP 0 rfl rfl 3 (by decide) hf_chosen (fun _ h9 => h9) rfl dX0_lackedHeads_20 ?_
      refine lv_iload_n hx hb dX0_lackedHeads_23 rfl (lv_at hl 3 rfl) ?_
      refine xf_iald hx hb hK hP 4 0 rfl rfl (j := h) (by omega) (by decide) dX0_lackedHeads_24 ?_
      refine lv_aload_n hx hb dX0_lackedHeads_25 rfl (lv_at hl 0 rfl) ?_
      refine lv_iload_n hx hb dX0_lackedHeads_26 rfl (lv_at hl 1 rfl) ?_
      refine lv_iload_n hx hb dX0_lackedHeads_27 rfl (lv_at hl 3 rfl) ?_
      refine vp_callSi (W.runV (As := [.int (nI t), .int (nI h)]) (rest := [.int (fc h)]) ⟨hx, hb, hml, hown, hts⟩ (k_valuesOf l dC dI h0 a1 a2 a3 a4 a5 a6 cI fg fk fu fc fb fn rc t h (by omega) (by omega)) (cwV 2 hts gX0_lackedHeads_X0_valuesOf rfl rfl rfl (by decide +kernel) ⟨Nat.le_of_ble_eq_true rfl, Nat.le_of_ble_eq_true rfl⟩) (xf_preV (ci := 0) (RX0, TX0, 7) hK hP rfl rfl) rfl rfl hl.1 rfl (lv_room (Nat.le_of_ble_eq_true rfl)) dX0_lackedHeads_28 ⟨Nat.zero_le _, Nat.zero_le _⟩) (fun r hr9 => ?_)
      subst hr9
      refine lv_iand hx hb dX0_lackedHeads_31 ?_
      refine lv_if_ne (tgt := 41) hx hb dX0_lackedHeads_32 (by decide) (fun c32 => ?_) (fun c32 => ?_)
      ·
        refine lv_iinc (v := nI (h + 1)) (lv' := [(3, .int (nI (h + 1))), (0, .ref h0), (1, .int (nI t)), (2, .int (xf_mk (fcLP fc (fcV fg fk t)) h))]) hx hb dX0_lackedHeads_41 hl (k := 3) rfl (by exact nI_1 h) (by decide) rfl (fun ls hl => ?_)
        refine lv_goto (tgt := 4) hx hb dX0_lackedHeads_44 (by decide) ?_
        have hl := lv_sub (l' := [(0, .ref h0), (1, .int (nI t)), (2, .int (xf_mk (fcLP fc (fcV fg fk t)) h)), (3, .int (nI (h + 1)))]) hl [1, 2, 3, 0] rfl
        have hl : lv_has ls 4 [(0, .ref h0), (1, .int (nI t)), (2, .int (xf_mk (fcLP fc (fcV fg fk t)) (h + 1))), (3, .int (nI (h + 1)))] := xf_lv hl (by simp [xf_mk, fcLP, c7, c16, c32])
        exact ih4 (h + 1) ls (by show 8 - (h + 1) < 8 - h; omega) (by show (h + 1) ≤ 8; omega) hl
      ·
        refine lv_iload_n hx hb dX0_lackedHeads_35 rfl (lv_at hl 2 rfl) ?_
        refine lv_iconst (v := nI 1) hx hb dX0_lackedHeads_36 (by decide) ?_
        refine lv_iload_n hx hb dX0_lackedHeads_37 rfl (lv_at hl 3 rfl) ?_
        refine lv_ishl hx hb dX0_lackedHeads_38 ?_
        refine xf_be (y := xf_bit h) (by rfl) ?_
        refine lv_ior hx hb dX0_lackedHeads_39 ?_
        refine lv_istore_n (lv' := [(2, .int ((xf_mk (fcLP fc (fcV fg fk t)) h) ||| (xf_bit h))), (0, .ref h0), (1, .int (nI t)), (3, .int (nI h))]) hx hb dX0_lackedHeads_40 rfl hl (by decide) rfl (fun ls hl => ?_)
        refine lv_iinc (v := nI (h + 1)) (lv' := [(3, .int (nI (h + 1))), (2, .int ((xf_mk (fcLP fc (fcV fg fk t)) h) ||| (xf_bit h))), (0, .ref h0), (1, .int (nI t))]) hx hb dX0_lackedHeads_41 hl (k := 3) rfl (by exact nI_1 h) (by decide) rfl (fun ls hl => ?_)
        refine lv_goto (tgt := 4) hx hb dX0_lackedHeads_44 (by decide) ?_
        have hl := lv_sub (l' := [(0, .ref h0), (1, .int (nI t)), (2, .int ((xf_mk (fcLP fc (fcV fg fk t)) h) ||| (xf_bit h))), (3, .int (nI (h + 1)))]) hl [2, 3, 1, 0] rfl
        have hl : lv_has ls 4 [(0, .ref h0), (1, .int (nI t)), (2, .int (xf_mk (fcLP fc (fcV fg fk t)) (h + 1))), (3, .int (nI (h + 1)))] := xf_lv hl (by simp [xf_mk, fcLP, c7, c16, c32])
        exact ih4 (h + 1) ls (by show 8 - (h + 1) < 8 - h; omega) (by show (h + 1) ≤ 8; omega) hl
set_option maxHeartbeats 4000000 in
set_option maxRecDepth 100000 in
/-- isKeptBut(t, h) -/
theorem k_isKeptBut (l : Launch) (dC : Nat → ClassId) (dI : Nat → Nat → Nat) (h0 a1 a2 a3 a4 a5 a6 : Nat) (cI : ClassId) (fg fk fu fc fb fn : Nat → Int32) (rc : Int32) (t h : Nat) (ht : t < 40) (hh : h < 8) : Met l yX0_isKeptBut wsX0_isKeptBut ({ frames := 2, cells := 0, slots := 0, locals := 45 }) (va_Pc [.ref h0, .int (nI t), .int (nI h)] (fun U => va_P (dC, dI) fmCl (fw h0 a1 a2 a3 a4 a5 a6 cI fg fk fu fc fb fn rc) U.heap ∧ va_K (dC, dI) fmCl [(cI, .int)] U)) (vp_Si (fun r => r = xf_B (fcKB fg fk fc h t))) 0 0 (fun _ => False) := by
  refine Met.ofW (cc := cX0_isKeptBut) (maxL := 3) (ret := (some .boolean)) (by decide) rfl ?_
  intro p e s m args below meth c s₁ B hml hv
  obtain ⟨rfl, hP, hK⟩ := hv
  have hx := B.exec
  have hb := B.bytes
  have hr := B.returns
  have hts := atoms_spec (ws := wsX0_isKeptBut) B.pre
  have hown : s.vm.findClass RX0 = some m.cls := findClass_of_methodNamed B.named
  have hlocks := B.notSynchronized
  have hl := lv_entry ([.ref h0, .int (nI t), .int (nI h)]) (n := 3) (Nat.le_of_ble_eq_true rfl)
  rw [lg_entry_eq]
  generalize (lg_sl ([.ref h0, .int (nI t), .int (nI h)]) ++ List.replicate (3 - (lg_sl ([.ref h0, .int (nI t), .int (nI h)])).length) Slot.unset).toArray = ls at hl ⊢
  have hl : lv_has ls 3 [(0, .ref h0), (1, .int (nI t)), (2, .int (nI h))] := hl
  refine lv_aload_n hx hb dX0_isKeptBut_0 rfl (lv_at hl 0 rfl) ?_
  refine lv_iload_n hx hb dX0_isKeptBut_1 rfl (lv_at hl 1 rfl) ?_
  refine vp_callSi (W.runV (As := [.int (nI t)]) (rest := []) ⟨hx, hb, hml, hown, hts⟩ (k_lackedHeads l dC dI h0 a1 a2 a3 a4 a5 a6 cI fg fk fu fc fb fn rc t (by omega)) (cwV 1 hts gX0_isKeptBut_X0_lackedHeads rfl rfl rfl (by decide +kernel) ⟨Nat.le_of_ble_eq_true rfl, Nat.le_of_ble_eq_true rfl⟩) (xf_preV (ci := 0) (RX0, TX0, 7) hK hP rfl rfl) rfl rfl hl.1 rfl (lv_room (Nat.le_of_ble_eq_true rfl)) dX0_isKeptBut_2 ⟨Nat.zero_le _, Nat.zero_le _⟩) (fun r hr9 => ?_)
  subst hr9
  refine lv_iconst (v := nI 1) hx hb dX0_isKeptBut_5 (by decide) ?_
  refine lv_iload_n hx hb dX0_isKeptBut_6 rfl (lv_at hl 2 rfl) ?_
  refine lv_ishl hx hb dX0_isKeptBut_7 ?_
  refine xf_be (y := xf_bit h) (by rfl) ?_
  refine lv_iconst (v := (-1)) hx hb dX0_isKeptBut_8 (by decide) ?_
  refine lv_ixor hx hb dX0_isKeptBut_9 ?_
  refine xf_be (y := xf_not (xf_bit h)) (by rfl) ?_
  refine lv_iand hx hb dX0_isKeptBut_10 ?_
  refine lv_if_ne (tgt := 18) hx hb dX0_isKeptBut_11 (by decide) (fun c11 => ?_) (fun c11 => ?_)
  ·
    refine lv_iconst (v := nI 0) hx hb dX0_isKeptBut_18 (by decide) ?_
    exact W.zret (v := nI 0) hx hb hr (by first | rfl | exact xf_B_narrow _) (fun t9 ht9 hW9 => ⟨_, rfl, by simp [xf_B, fcKB, c11], ht9⟩) (fun q h => nomatch h) dX0_isKeptBut_19
  ·
    refine lv_iconst (v := nI 1) hx hb dX0_isKeptBut_14 (by decide) ?_
    refine lv_goto (tgt := 19) hx hb dX0_isKeptBut_15 (by decide) ?_
    exact W.zret (v := nI 1) hx hb hr (by first | rfl | exact xf_B_narrow _) (fun t9 ht9 hW9 => ⟨_, rfl, by simp [xf_B, fcKB, c11], ht9⟩) (fun q h => nomatch h) dX0_isKeptBut_19
set_option maxHeartbeats 4000000 in
set_option maxRecDepth 100000 in
/-- countKept() -/
theorem k_countKept (l : Launch) (dC : Nat → ClassId) (dI : Nat → Nat → Nat) (h0 a1 a2 a3 a4 a5 a6 : Nat) (cI : ClassId) (fg fk fu fc fb fn : Nat → Int32) (rc : Int32) : Met l yX0_countKept wsX0_countKept ({ frames := 2, cells := 0, slots := 0, locals := 45 }) (va_Pc [.ref h0] (fun U => va_P (dC, dI) fmCl (fw h0 a1 a2 a3 a4 a5 a6 cI fg fk fu fc fb fn rc) U.heap ∧ va_K (dC, dI) fmCl [(cI, .int)] U)) (vp_Si (fun r => r = nI (xf_cnt (fcKp fg fk fc) 40))) 0 0 (fun _ => False) := by
  refine Met.ofW (cc := cX0_countKept) (maxL := 3) (ret := (some .int)) (by decide) rfl ?_
  intro p e s m args below meth c s₁ B hml hv
  obtain ⟨rfl, hP, hK⟩ := hv
  have hx := B.exec
  have hb := B.bytes
  have hr := B.returns
  have hts := atoms_spec (ws := wsX0_countKept) B.pre
  have hown : s.vm.findClass RX0 = some m.cls := findClass_of_methodNamed B.named
  have hlocks := B.notSynchronized
  have hl := lv_entry ([.ref h0]) (n := 3) (Nat.le_of_ble_eq_true rfl)
  rw [lg_entry_eq]
  generalize (lg_sl ([.ref h0]) ++ List.replicate (3 - (lg_sl ([.ref h0])).length) Slot.unset).toArray = ls at hl ⊢
  have hl : lv_has ls 3 [(0, .ref h0)] := hl
  refine lv_iconst (v := nI 0) hx hb dX0_countKept_0 (by decide) ?_
  refine lv_istore_n (lv' := [(1, .int (nI 0)), (0, .ref h0)]) hx hb dX0_countKept_1 rfl hl (by decide) rfl (fun ls hl => ?_)
  refine lv_iconst (v := nI 0) hx hb dX0_countKept_2 (by decide) ?_
  refine lv_istore_n (lv' := [(2, .int (nI 0)), (1, .int (nI 0)), (0, .ref h0)]) hx hb dX0_countKept_3 rfl hl (by decide) rfl (fun ls hl => ?_)
  refine xf_loopS (σ := Nat) (fun (z9 : Nat) => 40 - z9) (fun (z9 : Nat) => [(0, .ref h0), (1, .int (nI (xf_cnt (fcKp fg fk fc) z9))), (2, .int (nI z9))]) (fun (z9 : Nat) => z9 ≤ 40) 0 (lv_sub hl [2, 1, 0] rfl) (Nat.zero_le _) (fun z9 ls hi hl ih4 => ?_)
  obtain ⟨t, hxe⟩ : ∃ z, z = z9 := ⟨_, rfl⟩
  subst hxe
  have hl : lv_has ls 3 [(0, .ref h0), (1, .int (nI (xf_cnt (fcKp fg fk fc) t))), (2, .int (nI t))] := hl
  have hi : t ≤ 40 := hi
  refine lv_iload_n hx hb dX0_countKept_4 rfl (lv_at hl 2 rfl) ?_
  refine lv_bipush (v := nI 40) hx hb dX0_countKept_5 (by decide) ?_
  refine xf_ge (tgt := 27) hx hb dX0_countKept_7 (by decide) (by omega) (by omega) (fun c7 => ?_) (fun c7 => ?_)
  ·
    refine lv_iload_n hx hb dX0_countKept_27 rfl (lv_at hl 1 rfl) ?_
    exact W.iret (v := nI (xf_cnt (fcKp fg fk fc) t)) hx hb hr (fun t9 ht9 hW9 => ⟨_, rfl, by rw [show t = 40 from by omega], ht9⟩) (fun q h => nomatch h) dX0_countKept_28
  ·
    refine lv_aload_n hx hb dX0_countKept_10 rfl (lv_at hl 0 rfl) ?_
    refine lv_iload_n hx hb dX0_countKept_11 rfl (lv_at hl 2 rfl) ?_
    refine vp_callSi (W.runV (As := [.int (nI t)]) (rest := []) ⟨hx, hb, hml, hown, hts⟩ (k_lackedHeads l dC dI h0 a1 a2 a3 a4 a5 a6 cI fg fk fu fc fb fn rc t (by omega)) (cwV 1 hts gX0_countKept_X0_lackedHeads rfl rfl rfl (by decide +kernel) ⟨Nat.le_of_ble_eq_true rfl, Nat.le_of_ble_eq_true rfl⟩) (xf_preV (ci := 0) (RX0, TX0, 7) hK hP rfl rfl) rfl rfl hl.1 rfl (lv_room (Nat.le_of_ble_eq_true rfl)) dX0_countKept_12 ⟨Nat.zero_le _, Nat.zero_le _⟩) (fun r hr9 => ?_)
    subst hr9
    refine lv_if_ne (tgt := 21) hx hb dX0_countKept_15 (by decide) (fun c15 => ?_) (fun c15 => ?_)
    ·
      refine lv_iinc (v := nI (t + 1)) (lv' := [(2, .int (nI (t + 1))), (0, .ref h0), (1, .int (nI (xf_cnt (fcKp fg fk fc) t)))]) hx hb dX0_countKept_21 hl (k := 2) rfl (by exact nI_1 t) (by decide) rfl (fun ls hl => ?_)
      refine lv_goto (tgt := 4) hx hb dX0_countKept_24 (by decide) ?_
      have hl := lv_sub (l' := [(0, .ref h0), (1, .int (nI (xf_cnt (fcKp fg fk fc) t))), (2, .int (nI (t + 1)))]) hl [1, 2, 0] rfl
      have hl : lv_has ls 3 [(0, .ref h0), (1, .int (nI (xf_cnt (fcKp fg fk fc) (t + 1)))), (2, .int (nI (t + 1)))] := xf_lv hl (by simp [xf_cnt, fcKp, c7, c15])
      exact ih4 (t + 1) ls (by show 40 - (t + 1) < 40 - t; omega) (by show (t + 1) ≤ 40; omega) hl
    ·
      refine lv_iinc (v := nI (xf_cnt (fcKp fg fk fc) t + 1)) (lv' := [(1, .int (nI (xf_cnt (fcKp fg fk fc) t + 1))), (0, .ref h0), (2, .int (nI t))]) hx hb dX0_countKept_18 hl (k := 1) rfl (by exact nI_1 (xf_cnt (fcKp fg fk fc) t)) (by decide) rfl (fun ls hl => ?_)
      refine lv_iinc (v := nI (t + 1)) (lv' := [(2, .int (nI (t + 1))), (1, .int (nI (xf_cnt (fcKp fg fk fc) t + 1))), (0, .ref h0)]) hx hb dX0_countKept_21 hl (k := 2) rfl (by exact nI_1 t) (by decide) rfl (fun ls hl => ?_)
      refine lv_goto (tgt := 4) hx hb dX0_countKept_24 (by decide) ?_
      have hl := lv_sub (l' := [(0, .ref h0), (1, .int (nI (xf_cnt (fcKp fg fk fc) t + 1))), (2, .int (nI (t + 1)))]) hl [2, 1, 0] rfl
      have hl : lv_has ls 3 [(0, .ref h0), (1, .int (nI (xf_cnt (fcKp fg fk fc) (t + 1)))), (2, .int (nI (t + 1)))] := xf_lv hl (by simp [xf_cnt, fcKp, c7, c15])
      exact ih4 (t + 1) ls (by show 40 - (t + 1) < 40 - t; omega) (by show (t + 1) ≤ 40; omega) hl
set_option maxHeartbeats 4000000 in
set_option maxRecDepth 100000 in
/-- countKeptBut(h) -/
theorem k_countKeptBut (l : Launch) (dC : Nat → ClassId) (dI : Nat → Nat → Nat) (h0 a1 a2 a3 a4 a5 a6 : Nat) (cI : ClassId) (fg fk fu fc fb fn : Nat → Int32) (rc : Int32) (h : Nat) (hh : h < 8) : Met l yX0_countKeptBut wsX0_countKeptBut ({ frames := 3, cells := 0, slots := 0, locals := 67 }) (va_Pc [.ref h0, .int (nI h)] (fun U => va_P (dC, dI) fmCl (fw h0 a1 a2 a3 a4 a5 a6 cI fg fk fu fc fb fn rc) U.heap ∧ va_K (dC, dI) fmCl [(cI, .int)] U)) (vp_Si (fun r => r = nI (xf_cnt (fcKB fg fk fc h) 40))) 0 0 (fun _ => False) := by
  refine Met.ofW (cc := cX0_countKeptBut) (maxL := 4) (ret := (some .int)) (by decide) rfl ?_
  intro p e s m args below meth c s₁ B hml hv
  obtain ⟨rfl, hP, hK⟩ := hv
  have hx := B.exec
  have hb := B.bytes
  have hr := B.returns
  have hts := atoms_spec (ws := wsX0_countKeptBut) B.pre
  have hown : s.vm.findClass RX0 = some m.cls := findClass_of_methodNamed B.named
  have hlocks := B.notSynchronized
  have hl := lv_entry ([.ref h0, .int (nI h)]) (n := 4) (Nat.le_of_ble_eq_true rfl)
  rw [lg_entry_eq]
  generalize (lg_sl ([.ref h0, .int (nI h)]) ++ List.replicate (4 - (lg_sl ([.ref h0, .int (nI h)])).length) Slot.unset).toArray = ls at hl ⊢
  have hl : lv_has ls 4 [(0, .ref h0), (1, .int (nI h))] := hl
  refine lv_iconst (v := nI 0) hx hb dX0_countKeptBut_0 (by decide) ?_
  refine lv_istore_n (lv' := [(2, .int (nI 0)), (0, .ref h0), (1, .int (nI h))]) hx hb dX0_countKeptBut_1 rfl hl (by decide) rfl (fun ls hl => ?_)
  refine lv_iconst (v := nI 0) hx hb dX0_countKeptBut_2 (by decide) ?_
  refine lv_istore_n (lv' := [(3, .int (nI 0)), (2, .int (nI 0)), (0, .ref h0), (1, .int (nI h))]) hx hb dX0_countKeptBut_3 rfl hl (by decide) rfl (fun ls hl => ?_)
  refine xf_loopS (σ := Nat) (fun (z9 : Nat) => 40 - z9) (fun (z9 : Nat) => [(0, .ref h0), (1, .int (nI h)), (2, .int (nI (xf_cnt (fcKB fg fk fc h) z9))), (3, .int (nI z9))]) (fun (z9 : Nat) => z9 ≤ 40) 0 (lv_sub hl [2, 3, 1, 0] rfl) (Nat.zero_le _) (fun z9 ls hi hl ih4 => ?_)
  obtain ⟨t, hxe⟩ : ∃ z, z = z9 := ⟨_, rfl⟩
  subst hxe
  have hl : lv_has ls 4 [(0, .ref h0), (1, .int (nI h)), (2, .int (nI (xf_cnt (fcKB fg fk fc h) t))), (3, .int (nI t))] := hl
  have hi : t ≤ 40 := hi
  refine lv_iload_n hx hb dX0_countKeptBut_4 rfl (lv_at hl 3 rfl) ?_
  refine lv_bipush (v := nI 40) hx hb dX0_countKeptBut_5 (by decide) ?_
  refine xf_ge (tgt := 28) hx hb dX0_countKeptBut_7 (by decide) (by omega) (by omega) (fun c7 => ?_) (fun c7 => ?_)
  ·
    refine lv_iload_n hx hb dX0_countKeptBut_28 rfl (lv_at hl 2 rfl) ?_
    exact W.iret (v := nI (xf_cnt (fcKB fg fk fc h) t)) hx hb hr (fun t9 ht9 hW9 => ⟨_, rfl, by rw [show t = 40 from by omega], ht9⟩) (fun q h => nomatch h) dX0_countKeptBut_29
  ·
    refine lv_aload_n hx hb dX0_countKeptBut_10 rfl (lv_at hl 0 rfl) ?_
    refine lv_iload_n hx hb dX0_countKeptBut_11 rfl (lv_at hl 3 rfl) ?_
    refine lv_iload_n hx hb dX0_countKeptBut_12 rfl (lv_at hl 1 rfl) ?_
    refine vp_callSi (W.runV (As := [.int (nI t), .int (nI h)]) (rest := []) ⟨hx, hb, hml, hown, hts⟩ (k_isKeptBut l dC dI h0 a1 a2 a3 a4 a5 a6 cI fg fk fu fc fb fn rc t h (by omega) (by omega)) (cwV 2 hts gX0_countKeptBut_X0_isKeptBut rfl rfl rfl (by decide +kernel) ⟨Nat.le_of_ble_eq_true rfl, Nat.le_of_ble_eq_true rfl⟩) (xf_preV (ci := 0) (RX0, TX0, 7) hK hP rfl rfl) rfl rfl hl.1 rfl (lv_room (Nat.le_of_ble_eq_true rfl)) dX0_countKeptBut_13 ⟨Nat.zero_le _, Nat.zero_le _⟩) (fun r hr9 => ?_)
    subst hr9
    refine xf_Beq (tgt := 22) hx hb dX0_countKeptBut_16 (by decide) (fun c16 => ?_) (fun c16 => ?_)
    ·
      refine lv_iinc (v := nI (t + 1)) (lv' := [(3, .int (nI (t + 1))), (0, .ref h0), (1, .int (nI h)), (2, .int (nI (xf_cnt (fcKB fg fk fc h) t)))]) hx hb dX0_countKeptBut_22 hl (k := 3) rfl (by exact nI_1 t) (by decide) rfl (fun ls hl => ?_)
      refine lv_goto (tgt := 4) hx hb dX0_countKeptBut_25 (by decide) ?_
      have hl := lv_sub (l' := [(0, .ref h0), (1, .int (nI h)), (2, .int (nI (xf_cnt (fcKB fg fk fc h) t))), (3, .int (nI (t + 1)))]) hl [1, 2, 3, 0] rfl
      have hl : lv_has ls 4 [(0, .ref h0), (1, .int (nI h)), (2, .int (nI (xf_cnt (fcKB fg fk fc h) (t + 1)))), (3, .int (nI (t + 1)))] := xf_lv hl (by simp [xf_cnt, c7, c16])
      exact ih4 (t + 1) ls (by show 40 - (t + 1) < 40 - t; omega) (by show (t + 1) ≤ 40; omega) hl
    ·
      refine lv_iinc (v := nI (xf_cnt (fcKB fg fk fc h) t + 1)) (lv' := [(2, .int (nI (xf_cnt (fcKB fg fk fc h) t + 1))), (0, .ref h0), (1, .int (nI h)), (3, .int (nI t))]) hx hb dX0_countKeptBut_19 hl (k := 2) rfl (by exact nI_1 (xf_cnt (fcKB fg fk fc h) t)) (by decide) rfl (fun ls hl => ?_)
      refine lv_iinc (v := nI (t + 1)) (lv' := [(3, .int (nI (t + 1))), (2, .int (nI (xf_cnt (fcKB fg fk fc h) t + 1))), (0, .ref h0), (1, .int (nI h))]) hx hb dX0_countKeptBut_22 hl (k := 3) rfl (by exact nI_1 t) (by decide) rfl (fun ls hl => ?_)
      refine lv_goto (tgt := 4) hx hb dX0_countKeptBut_25 (by decide) ?_
      have hl := lv_sub (l' := [(0, .ref h0), (1, .int (nI h)), (2, .int (nI (xf_cnt (fcKB fg fk fc h) t + 1))), (3, .int (nI (t + 1)))]) hl [2, 3, 1, 0] rfl
      have hl : lv_has ls 4 [(0, .ref h0), (1, .int (nI h)), (2, .int (nI (xf_cnt (fcKB fg fk fc h) (t + 1)))), (3, .int (nI (t + 1)))] := xf_lv hl (by simp [xf_cnt, c7, c16])
      exact ih4 (t + 1) ls (by show 40 - (t + 1) < 40 - t; omega) (by show (t + 1) ≤ 40; omega) hl
set_option maxHeartbeats 4000000 in
set_option maxRecDepth 100000 in
/-- countWithAny(h, set) -/
theorem k_countWithAny (l : Launch) (dC : Nat → ClassId) (dI : Nat → Nat → Nat) (h0 a1 a2 a3 a4 a5 a6 : Nat) (cI : ClassId) (fg fk fu fc fb fn : Nat → Int32) (rc : Int32) (h : Nat) (hh : h < 8) (set : Int32) : Met l yX0_countWithAny wsX0_countWithAny ({ frames := 3, cells := 0, slots := 0, locals := 67 }) (va_Pc [.ref h0, .int (nI h), .int set] (fun U => va_P (dC, dI) fmCl (fw h0 a1 a2 a3 a4 a5 a6 cI fg fk fu fc fb fn rc) U.heap ∧ va_K (dC, dI) fmCl [(cI, .int)] U)) (vp_Si (fun r => r = nI (xf_cnt (fcWA fg fk fc h set) 40))) 0 0 (fun _ => False) := by
  refine Met.ofW (cc := cX0_countWithAny) (maxL := 5) (ret := (some .int)) (by decide) rfl ?_
  intro p e s m args below meth c s₁ B hml hv
  obtain ⟨rfl, hP, hK⟩ := hv
  have hx := B.exec
  have hb := B.bytes
  have hr := B.returns
  have hts := atoms_spec (ws := wsX0_countWithAny) B.pre
  have hown : s.vm.findClass RX0 = some m.cls := findClass_of_methodNamed B.named
  have hlocks := B.notSynchronized
  have hl := lv_entry ([.ref h0, .int (nI h), .int set]) (n := 5) (Nat.le_of_ble_eq_true rfl)
  rw [lg_entry_eq]
  generalize (lg_sl ([.ref h0, .int (nI h), .int set]) ++ List.replicate (5 - (lg_sl ([.ref h0, .int (nI h), .int set])).length) Slot.unset).toArray = ls at hl ⊢
  have hl : lv_has ls 5 [(0, .ref h0), (1, .int (nI h)), (2, .int set)] := hl
  refine lv_iconst (v := nI 0) hx hb dX0_countWithAny_0 (by decide) ?_
  refine lv_istore_n (lv' := [(3, .int (nI 0)), (0, .ref h0), (1, .int (nI h)), (2, .int set)]) hx hb dX0_countWithAny_1 rfl hl (by decide) rfl (fun ls hl => ?_)
  refine lv_iconst (v := nI 0) hx hb dX0_countWithAny_2 (by decide) ?_
  refine lv_istore (lv' := [(4, .int (nI 0)), (3, .int (nI 0)), (0, .ref h0), (1, .int (nI h)), (2, .int set)]) hx hb dX0_countWithAny_3 hl (by decide) rfl (fun ls hl => ?_)
  refine xf_loopS (σ := Nat) (fun (z9 : Nat) => 40 - z9) (fun (z9 : Nat) => [(0, .ref h0), (1, .int (nI h)), (2, .int set), (3, .int (nI (xf_cnt (fcWA fg fk fc h set) z9))), (4, .int (nI z9))]) (fun (z9 : Nat) => z9 ≤ 40) 0 (lv_sub hl [2, 3, 4, 1, 0] rfl) (Nat.zero_le _) (fun z9 ls hi hl ih5 => ?_)
  obtain ⟨t, hxe⟩ : ∃ z, z = z9 := ⟨_, rfl⟩
  subst hxe
  have hl : lv_has ls 5 [(0, .ref h0), (1, .int (nI h)), (2, .int set), (3, .int (nI (xf_cnt (fcWA fg fk fc h set) t))), (4, .int (nI t))] := hl
  have hi : t ≤ 40 := hi
  refine lv_iload hx hb dX0_countWithAny_5 (lv_at hl 4 rfl) ?_
  refine lv_bipush (v := nI 40) hx hb dX0_countWithAny_7 (by decide) ?_
  refine xf_ge (tgt := 43) hx hb dX0_countWithAny_9 (by decide) (by omega) (by omega) (fun c9 => ?_) (fun c9 => ?_)
  ·
    refine lv_iload_n hx hb dX0_countWithAny_43 rfl (lv_at hl 3 rfl) ?_
    exact W.iret (v := nI (xf_cnt (fcWA fg fk fc h set) t)) hx hb hr (fun t9 ht9 hW9 => ⟨_, rfl, by rw [show t = 40 from by omega], ht9⟩) (fun q h => nomatch h) dX0_countWithAny_44
  ·
    refine lv_aload_n hx hb dX0_countWithAny_12 rfl (lv_at hl 0 rfl) ?_
    refine lv_iload hx hb dX0_countWithAny_13 (lv_at hl 4 rfl) ?_
    refine lv_iload_n hx hb dX0_countWithAny_15 rfl (lv_at hl 1 rfl) ?_
    refine vp_callSi (W.runV (As := [.int (nI t), .int (nI h)]) (rest := []) ⟨hx, hb, hml, hown, hts⟩ (k_valuesOf l dC dI h0 a1 a2 a3 a4 a5 a6 cI fg fk fu fc fb fn rc t h (by omega) (by omega)) (cwV 2 hts gX0_countWithAny_X0_valuesOf rfl rfl rfl (by decide +kernel) ⟨Nat.le_of_ble_eq_true rfl, Nat.le_of_ble_eq_true rfl⟩) (xf_preV (ci := 0) (RX0, TX0, 7) hK hP rfl rfl) rfl rfl hl.1 rfl (lv_room (Nat.le_of_ble_eq_true rfl)) dX0_countWithAny_16 ⟨Nat.zero_le _, Nat.zero_le _⟩) (fun r hr9 => ?_)
    subst hr9
    refine lv_iload_n hx hb dX0_countWithAny_19 rfl (lv_at hl 2 rfl) ?_
    refine lv_iand hx hb dX0_countWithAny_20 ?_
    refine lv_if_eq (tgt := 37) hx hb dX0_countWithAny_21 (by decide) (fun c21 => ?_) (fun c21 => ?_)
    ·
      refine lv_iinc (v := nI (t + 1)) (lv' := [(4, .int (nI (t + 1))), (0, .ref h0), (1, .int (nI h)), (2, .int set), (3, .int (nI (xf_cnt (fcWA fg fk fc h set) t)))]) hx hb dX0_countWithAny_37 hl (k := 4) rfl (by exact nI_1 t) (by decide) rfl (fun ls hl => ?_)
      refine lv_goto (tgt := 5) hx hb dX0_countWithAny_40 (by decide) ?_
      have hl := lv_sub (l' := [(0, .ref h0), (1, .int (nI h)), (2, .int set), (3, .int (nI (xf_cnt (fcWA fg fk fc h set) t))), (4, .int (nI (t + 1)))]) hl [1, 2, 3, 4, 0] rfl
      have hl : lv_has ls 5 [(0, .ref h0), (1, .int (nI h)), (2, .int set), (3, .int (nI (xf_cnt (fcWA fg fk fc h set) (t + 1)))), (4, .int (nI (t + 1)))] := xf_lv hl (by simp [xf_cnt, fcWA, c9, c21])
      exact ih5 (t + 1) ls (by show 40 - (t + 1) < 40 - t; omega) (by show (t + 1) ≤ 40; omega) hl
    ·
      refine lv_aload_n hx hb dX0_countWithAny_24 rfl (lv_at hl 0 rfl) ?_
      refine lv_iload hx hb dX0_countWithAny_25 (lv_at hl 4 rfl) ?_
      refine lv_iload_n hx hb dX0_countWithAny_27 rfl (lv_at hl 1 rfl) ?_
      refine vp_callSi (W.runV (As := [.int (nI t), .int (nI h)]) (rest := []) ⟨hx, hb, hml, hown, hts⟩ (k_isKeptBut l dC dI h0 a1 a2 a3 a4 a5 a6 cI fg fk fu fc fb fn rc t h (by omega) (by omega)) (cwV 2 hts gX0_countWithAny_X0_isKeptBut rfl rfl rfl (by decide +kernel) ⟨Nat.le_of_ble_eq_true rfl, Nat.le_of_ble_eq_true rfl⟩) (xf_preV (ci := 0) (RX0, TX0, 7) hK hP rfl rfl) rfl rfl hl.1 rfl (lv_room (Nat.le_of_ble_eq_true rfl)) dX0_countWithAny_28 ⟨Nat.zero_le _, Nat.zero_le _⟩) (fun r hr9 => ?_)
      subst hr9
      refine xf_Beq (tgt := 37) hx hb dX0_countWithAny_31 (by decide) (fun c31 => ?_) (fun c31 => ?_)
      ·
        refine lv_iinc (v := nI (t + 1)) (lv' := [(4, .int (nI (t + 1))), (0, .ref h0), (1, .int (nI h)), (2, .int set), (3, .int (nI (xf_cnt (fcWA fg fk fc h set) t)))]) hx hb dX0_countWithAny_37 hl (k := 4) rfl (by exact nI_1 t) (by decide) rfl (fun ls hl => ?_)
        refine lv_goto (tgt := 5) hx hb dX0_countWithAny_40 (by decide) ?_
        have hl := lv_sub (l' := [(0, .ref h0), (1, .int (nI h)), (2, .int set), (3, .int (nI (xf_cnt (fcWA fg fk fc h set) t))), (4, .int (nI (t + 1)))]) hl [1, 2, 3, 4, 0] rfl
        have hl : lv_has ls 5 [(0, .ref h0), (1, .int (nI h)), (2, .int set), (3, .int (nI (xf_cnt (fcWA fg fk fc h set) (t + 1)))), (4, .int (nI (t + 1)))] := xf_lv hl (by simp [xf_cnt, fcWA, c9, c21, c31])
        exact ih5 (t + 1) ls (by show 40 - (t + 1) < 40 - t; omega) (by show (t + 1) ≤ 40; omega) hl
      ·
        refine lv_iinc (v := nI (xf_cnt (fcWA fg fk fc h set) t + 1)) (lv' := [(3, .int (nI (xf_cnt (fcWA fg fk fc h set) t + 1))), (0, .ref h0), (1, .int (nI h)), (2, .int set), (4, .int (nI t))]) hx hb dX0_countWithAny_34 hl (k := 3) rfl (by exact nI_1 (xf_cnt (fcWA fg fk fc h set) t)) (by decide) rfl (fun ls hl => ?_)
        refine lv_iinc (v := nI (t + 1)) (lv' := [(4, .int (nI (t + 1))), (3, .int (nI (xf_cnt (fcWA fg fk fc h set) t + 1))), (0, .ref h0), (1, .int (nI h)), (2, .int set)]) hx hb dX0_countWithAny_37 hl (k := 4) rfl (by exact nI_1 t) (by decide) rfl (fun ls hl => ?_)
        refine lv_goto (tgt := 5) hx hb dX0_countWithAny_40 (by decide) ?_
        have hl := lv_sub (l' := [(0, .ref h0), (1, .int (nI h)), (2, .int set), (3, .int (nI (xf_cnt (fcWA fg fk fc h set) t + 1))), (4, .int (nI (t + 1)))]) hl [2, 3, 4, 1, 0] rfl
        have hl : lv_has ls 5 [(0, .ref h0), (1, .int (nI h)), (2, .int set), (3, .int (nI (xf_cnt (fcWA fg fk fc h set) (t + 1)))), (4, .int (nI (t + 1)))] := xf_lv hl (by simp [xf_cnt, fcWA, c9, c21, c31])
        exact ih5 (t + 1) ls (by show 40 - (t + 1) < 40 - t; omega) (by show (t + 1) ≤ 40; omega) hl
set_option maxHeartbeats 4000000 in
set_option maxRecDepth 100000 in
/-- rankOf(h, v) -/
theorem k_rankOf (l : Launch) (dC : Nat → ClassId) (dI : Nat → Nat → Nat) (h0 a1 a2 a3 a4 a5 a6 : Nat) (cI : ClassId) (fg fk fu fc fb fn : Nat → Int32) (rc : Int32) (h v : Nat) (hh : h < 8) (hv9 : v < 32) : Met l yX0_rankOf wsX0_rankOf ({ frames := 0, cells := 0, slots := 0, locals := 0 }) (va_Pc [.ref h0, .int (nI h), .int (nI v)] (fun U => va_P (dC, dI) fmCl (fw h0 a1 a2 a3 a4 a5 a6 cI fg fk fu fc fb fn rc) U.heap ∧ va_K (dC, dI) fmCl [(cI, .int)] U)) (vp_Si (fun r => r = nI (xf_cnt (fcRkP fn h v) 32))) 0 0 (fun _ => False) := by
  refine Met.ofW (cc := cX0_rankOf) (maxL := 7) (ret := (some .int)) (by decide) rfl ?_
  intro p e s m args below meth c s₁ B hml hv
  obtain ⟨rfl, hP, hK⟩ := hv
  have hx := B.exec
  have hb := B.bytes
  have hr := B.returns
  have hts := atoms_spec (ws := wsX0_rankOf) B.pre
  have hown : s.vm.findClass RX0 = some m.cls := findClass_of_methodNamed B.named
  have hlocks := B.notSynchronized
  have hin : ∀ w ∈ u_ws RX0 TX0 7, w ∈ wsX0_rankOf := by decide +kernel
  have hf_counts := hts (.fieldLink RX0 25 "FacetCounts" "counts" "[I") (by decide +kernel)
  have hl := lv_entry ([.ref h0, .int (nI h), .int (nI v)]) (n := 7) (Nat.le_of_ble_eq_true rfl)
  rw [lg_entry_eq]
  generalize (lg_sl ([.ref h0, .int (nI h), .int (nI v)]) ++ List.replicate (7 - (lg_sl ([.ref h0, .int (nI h), .int (nI v)])).length) Slot.unset).toArray = ls at hl ⊢
  have hl : lv_has ls 7 [(0, .ref h0), (1, .int (nI h)), (2, .int (nI v))] := hl
  refine lv_aload_n hx hb dX0_rankOf_0 rfl (lv_at hl 0 rfl) ?_
  refine va_get (D := (dC, dI)) (ci := 0) (v := .ref a6) (C := RX0) (T := TX0) (N := 7) hx hb hts hin hown hK hP 0 rfl rfl 5 (by decide) hf_counts (fun _ h9 => h9) rfl dX0_rankOf_1 ?_
  refine lv_iload_n hx hb dX0_rankOf_4 rfl (lv_at hl 1 rfl) ?_
  refine lv_bipush (v := nI 32) hx hb dX0_rankOf_5 (by decide) ?_
  refine lv_imul hx hb dX0_rankOf_7 ?_
  refine xf_be (y := nI (h * 32)) (by exact pk_mul _ _) ?_
  refine lv_iload_n hx hb dX0_rankOf_8 rfl (lv_at hl 2 rfl) ?_
  refine lv_iadd hx hb dX0_rankOf_9 ?_
  refine xf_be (y := nI (h * 32 + v)) (by exact nI_add _ _) ?_
  refine xf_iald hx hb hK hP 6 0 rfl rfl (j := (h * 32 + v)) (by omega) (by decide) dX0_rankOf_10 ?_
  refine lv_istore_n (lv' := [(3, .int (fn (h * 32 + v))), (0, .ref h0), (1, .int (nI h)), (2, .int (nI v))]) hx hb dX0_rankOf_11 rfl hl (by decide) rfl (fun ls hl => ?_)
  refine lv_iconst (v := nI 0) hx hb dX0_rankOf_12 (by decide) ?_
  refine lv_istore (lv' := [(4, .int (nI 0)), (3, .int (fn (h * 32 + v))), (0, .ref h0), (1, .int (nI h)), (2, .int (nI v))]) hx hb dX0_rankOf_13 hl (by decide) rfl (fun ls hl => ?_)
  refine lv_iconst (v := nI 0) hx hb dX0_rankOf_15 (by decide) ?_
  refine lv_istore (lv' := [(5, .int (nI 0)), (4, .int (nI 0)), (3, .int (fn (h * 32 + v))), (0, .ref h0), (1, .int (nI h)), (2, .int (nI v))]) hx hb dX0_rankOf_16 hl (by decide) rfl (fun ls hl => ?_)
  refine xf_loopS (σ := Nat) (fun (z9 : Nat) => 32 - z9) (fun (z9 : Nat) => [(0, .ref h0), (1, .int (nI h)), (2, .int (nI v)), (3, .int (fn (h * 32 + v))), (4, .int (nI (xf_cnt (fcRkP fn h v) z9))), (5, .int (nI z9))]) (fun (z9 : Nat) => z9 ≤ 32) 0 (lv_sub hl [3, 4, 5, 2, 1, 0] rfl) (Nat.zero_le _) (fun z9 ls hi hl ih18 => ?_)
  obtain ⟨q, hxe⟩ : ∃ z, z = z9 := ⟨_, rfl⟩
  subst hxe
  have hl : lv_has ls 7 [(0, .ref h0), (1, .int (nI h)), (2, .int (nI v)), (3, .int (fn (h * 32 + v))), (4, .int (nI (xf_cnt (fcRkP fn h v) q))), (5, .int (nI q))] := hl
  have hi : q ≤ 32 := hi
  refine lv_iload hx hb dX0_rankOf_18 (lv_at hl 5 rfl) ?_
  refine lv_bipush (v := nI 32) hx hb dX0_rankOf_20 (by decide) ?_
  refine xf_ge (tgt := 66) hx hb dX0_rankOf_22 (by decide) (by omega) (by omega) (fun c22 => ?_) (fun c22 => ?_)
  ·
    refine lv_iload hx hb dX0_rankOf_66 (lv_at hl 4 rfl) ?_
    exact W.iret (v := nI (xf_cnt (fcRkP fn h v) q)) hx hb hr (fun t9 ht9 hW9 => ⟨_, rfl, by rw [show q = 32 from by omega], ht9⟩) (fun q h => nomatch h) dX0_rankOf_68
  ·
    refine lv_aload_n hx hb dX0_rankOf_25 rfl (lv_at hl 0 rfl) ?_
    refine va_get (D := (dC, dI)) (ci := 0) (v := .ref a6) (C := RX0) (T := TX0) (N := 7) hx hb hts hin hown hK hP 0 rfl rfl 5 (by decide) hf_counts (fun _ h9 => h9) rfl dX0_rankOf_26 ?_
    refine lv_iload_n hx hb dX0_rankOf_29 rfl (lv_at hl 1 rfl) ?_
    refine lv_bipush (v := nI 32) hx hb dX0_rankOf_30 (by decide) ?_
    refine lv_imul hx hb dX0_rankOf_32 ?_
    refine xf_be (y := nI (h * 32)) (by exact pk_mul _ _) ?_
    refine lv_iload hx hb dX0_rankOf_33 (lv_at hl 5 rfl) ?_
    refine lv_iadd hx hb dX0_rankOf_35 ?_
    refine xf_be (y := nI (h * 32 + q)) (by exact nI_add _ _) ?_
    refine xf_iald hx hb hK hP 6 0 rfl rfl (j := (h * 32 + q)) (by omega) (by decide) dX0_rankOf_36 ?_
    refine lv_istore (lv' := [(6, .int (fn (h * 32 + q))), (0, .ref h0), (1, .int (nI h)), (2, .int (nI v)), (3, .int (fn (h * 32 + v))), (4, .int (nI (xf_cnt (fcRkP fn h v) q))), (5, .int (nI q))]) hx hb dX0_rankOf_37 hl (by decide) rfl (fun ls hl => ?_)
    refine lv_iload hx hb dX0_rankOf_39 (lv_at hl 0 rfl) ?_
    refine lv_iload_n hx hb dX0_rankOf_41 rfl (lv_at hl 4 rfl) ?_
    refine lv_icmp_gt (tgt := 57) hx hb dX0_rankOf_42 (by decide) (fun c42 => ?_) (fun c42 => ?_)
    ·
      refine lv_iinc (v := nI (xf_cnt (fcRkP fn h v) q + 1)) (lv' := [(4, .int (nI (xf_cnt (fcRkP fn h v) q + 1))), (6, .int (fn (h * 32 + q))), (0, .ref h0), (1, .int (nI h)), (2, .int (nI v)), (3, .int (fn (h * 32 + v))), (5, .int (nI q))]) hx hb dX0_rankOf_57 hl (k := 5) rfl (by exact nI_1 (xf_cnt (fcRkP fn h v) q)) (by decide) rfl (fun ls hl => ?_)
      refine lv_iinc (v := nI (q + 1)) (lv' := [(5, .int (nI (q + 1))), (4, .int (nI (xf_cnt (fcRkP fn h v) q + 1))), (6, .int (fn (h * 32 + q))), (0, .ref h0), (1, .int (nI h)), (2, .int (nI v)), (3, .int (fn (h * 32 + v)))]) hx hb dX0_rankOf_60 hl (k := 6) rfl (by exact nI_1 q) (by decide) rfl (fun ls hl => ?_)
      refine lv_goto (tgt := 18) hx hb dX0_rankOf_63 (by decide) ?_
      have e9 : fcRkP fn h v q = true := by unfold fcRkP; rw [decide_eq_true c42, Bool.true_or]
      have hl := lv_sub (l' := [(0, .ref h0), (1, .int (nI h)), (2, .int (nI v)), (3, .int (fn (h * 32 + v))), (4, .int (nI (xf_cnt (fcRkP fn h v) q + 1))), (5, .int (nI (q + 1)))]) hl [3, 4, 5, 6, 1, 0] rfl
      have hl : lv_has ls 7 [(0, .ref h0), (1, .int (nI h)), (2, .int (nI v)), (3, .int (fn (h * 32 + v))), (4, .int (nI (xf_cnt (fcRkP fn h v) (q + 1)))), (5, .int (nI (q + 1)))] := xf_lv hl (by simp [xf_cnt, e9])
      exact ih18 (q + 1) ls (by show 32 - (q + 1) < 32 - q; omega) (by show (q + 1) ≤ 32; omega) hl
    ·
      refine lv_iload hx hb dX0_rankOf_45 (lv_at hl 0 rfl) ?_
      refine lv_iload_n hx hb dX0_rankOf_47 rfl (lv_at hl 4 rfl) ?_
      refine lv_icmp_ne (tgt := 60) hx hb dX0_rankOf_48 (by decide) (fun c48 => ?_) (fun c48 => ?_)
      ·
        refine lv_iinc (v := nI (q + 1)) (lv' := [(5, .int (nI (q + 1))), (6, .int (fn (h * 32 + q))), (0, .ref h0), (1, .int (nI h)), (2, .int (nI v)), (3, .int (fn (h * 32 + v))), (4, .int (nI (xf_cnt (fcRkP fn h v) q)))]) hx hb dX0_rankOf_60 hl (k := 6) rfl (by exact nI_1 q) (by decide) rfl (fun ls hl => ?_)
        refine lv_goto (tgt := 18) hx hb dX0_rankOf_63 (by decide) ?_
        have e9 : fcRkP fn h v q = false := by unfold fcRkP; rw [decide_eq_false c42, decide_eq_false c48]; rfl
        have hl := lv_sub (l' := [(0, .ref h0), (1, .int (nI h)), (2, .int (nI v)), (3, .int (fn (h * 32 + v))), (4, .int (nI (xf_cnt (fcRkP fn h v) q))), (5, .int (nI (q + 1)))]) hl [2, 3, 4, 5, 6, 0] rfl
        have hl : lv_has ls 7 [(0, .ref h0), (1, .int (nI h)), (2, .int (nI v)), (3, .int (fn (h * 32 + v))), (4, .int (nI (xf_cnt (fcRkP fn h v) (q + 1)))), (5, .int (nI (q + 1)))] := xf_lv hl (by simp [xf_cnt, e9])
        exact ih18 (q + 1) ls (by show 32 - (q + 1) < 32 - q; omega) (by show (q + 1) ≤ 32; omega) hl
      ·
        refine lv_iload hx hb dX0_rankOf_51 (lv_at hl 6 rfl) ?_
        refine lv_iload_n hx hb dX0_rankOf_53 rfl (lv_at hl 3 rfl) ?_
        refine xf_ge (tgt := 60) hx hb dX0_rankOf_54 (by decide) (by omega) (by omega) (fun c54 => ?_) (fun c54 => ?_)
        ·
          refine lv_iinc (v := nI (q + 1)) (lv' := [(5, .int (nI (q + 1))), (6, .int (fn (h * 32 + q))), (0, .ref h0), (1, .int (nI h)), (2, .int (nI v)), (3, .int (fn (h * 32 + v))), (4, .int (nI (xf_cnt (fcRkP fn h v) q)))]) hx hb dX0_rankOf_60 hl (k := 6) rfl (by exact nI_1 q) (by decide) rfl (fun ls hl => ?_)
          refine lv_goto (tgt := 18) hx hb dX0_rankOf_63 (by decide) ?_
          have e9 : fcRkP fn h v q = false := by unfold fcRkP; rw [decide_eq_false c42, decide_eq_true c48, decide_eq_false (show ¬ q < v by omega)]; rfl
          have hl := lv_sub (l' := [(0, .ref h0), (1, .int (nI h)), (2, .int (nI v)), (3, .int (fn (h * 32 + v))), (4, .int (nI (xf_cnt (fcRkP fn h v) q))), (5, .int (nI (q + 1)))]) hl [2, 3, 4, 5, 6, 0] rfl
          have hl : lv_has ls 7 [(0, .ref h0), (1, .int (nI h)), (2, .int (nI v)), (3, .int (fn (h * 32 + v))), (4, .int (nI (xf_cnt (fcRkP fn h v) (q + 1)))), (5, .int (nI (q + 1)))] := xf_lv hl (by simp [xf_cnt, e9])
          exact ih18 (q + 1) ls (by show 32 - (q + 1) < 32 - q; omega) (by show (q + 1) ≤ 32; omega) hl
        ·
          refine lv_iinc (v := nI (xf_cnt (fcRkP fn h v) q + 1)) (lv' := [(4, .int (nI (xf_cnt (fcRkP fn h v) q + 1))), (6, .int (fn (h * 32 + q))), (0, .ref h0), (1, .int (nI h)), (2, .int (nI v)), (3, .int (fn (h * 32 + v))), (5, .int (nI q))]) hx hb dX0_rankOf_57 hl (k := 5) rfl (by exact nI_1 (xf_cnt (fcRkP fn h v) q)) (by decide) rfl (fun ls hl => ?_)
          refine lv_iinc (v := nI (q + 1)) (lv' := [(5, .int (nI (q + 1))), (4, .int (nI (xf_cnt (fcRkP fn h v) q + 1))), (6, .int (fn (h * 32 + q))), (0, .ref h0), (1, .int (nI h)), (2, .int (nI v)), (3, .int (fn (h * 32 + v)))]) hx hb dX0_rankOf_60 hl (k := 6) rfl (by exact nI_1 q) (by decide) rfl (fun ls hl => ?_)
          refine lv_goto (tgt := 18) hx hb dX0_rankOf_63 (by decide) ?_
          have e9 : fcRkP fn h v q = true := by unfold fcRkP; rw [decide_eq_false c42, decide_eq_true c48, decide_eq_true c54]; rfl
          have hl := lv_sub (l' := [(0, .ref h0), (1, .int (nI h)), (2, .int (nI v)), (3, .int (fn (h * 32 + v))), (4, .int (nI (xf_cnt (fcRkP fn h v) q + 1))), (5, .int (nI (q + 1)))]) hl [3, 4, 5, 6, 1, 0] rfl
          have hl : lv_has ls 7 [(0, .ref h0), (1, .int (nI h)), (2, .int (nI v)), (3, .int (fn (h * 32 + v))), (4, .int (nI (xf_cnt (fcRkP fn h v) (q + 1)))), (5, .int (nI (q + 1)))] := xf_lv hl (by simp [xf_cnt, e9])
          exact ih18 (q + 1) ls (by show 32 - (q + 1) < 32 - q; omega) (by show (q + 1) ≤ 32; omega) hl
