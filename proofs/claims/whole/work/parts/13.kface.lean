set_option maxHeartbeats 4000000 in
set_option maxRecDepth 100000 in
/-- row(pt, ph, pv) -/
theorem k_row (l : Launch) (dC : Nat → ClassId) (dI : Nat → Nat → Nat) (h0 a1 a2 a3 a4 a5 a6 : Nat) (cI : ClassId) (fg fk fu fc fb fn : Nat → Int32) (rc : Int32) (pt ph pv : Int32) : Met l yX0_row wsX0_row ({ frames := 3, cells := 0, slots := 0, locals := 70 }) (va_Pc [.ref h0, .int pt, .int ph, .int pv] (fun U => va_P (dC, dI) fmCl (fw h0 a1 a2 a3 a4 a5 a6 cI fg fk fu fc fb fn rc) U.heap ∧ va_K (dC, dI) fmCl [(cI, .int)] U ∧ va_D (fun _ => True) (fw h0 a1 a2 a3 a4 a5 a6 cI fg fk fu fc fb fn rc))) (va_Qi (fun (r : Int32) (u : FcS) => (r, u) = fcRow fg fk fu fc fb fn rc pt ph pv) (fun u t => va_P (dC, dI) fmCl (fw h0 a1 a2 a3 a4 a5 a6 cI u.1 u.2.1 u.2.2.1 u.2.2.2.1 u.2.2.2.2.1 u.2.2.2.2.2.1 u.2.2.2.2.2.2) t.heap) (xf_A (fw h0 a1 a2 a3 a4 a5 a6 cI fg fk fu fc fb fn rc))) 0 0 (xf_A (fw h0 a1 a2 a3 a4 a5 a6 cI fg fk fu fc fb fn rc)) := by
  refine Met.ofW (cc := cX0_row) (maxL := 5) (ret := (some .int)) (by decide) rfl ?_
  intro p e s m args below meth c s₁ B hml hv
  obtain ⟨rfl, hP, hK, hD0⟩ := hv
  have hx := B.exec
  have hb := B.bytes
  have hr := B.returns
  have hts := atoms_spec (ws := wsX0_row) B.pre
  have hown : s.vm.findClass RX0 = some m.cls := findClass_of_methodNamed B.named
  have hlocks := B.notSynchronized
  have hin : ∀ w ∈ u_ws RX0 TX0 7, w ∈ wsX0_row := by decide +kernel
  have hf_given := hts (.fieldLink RX0 9 "FacetCounts" "given" "[I") (by decide +kernel)
  have hf_rowCount := hts (.fieldLink RX0 28 "FacetCounts" "rowCount" "I") (by decide +kernel)
  have hD := xf_A_self hD0
  generalize hAe : xf_A (fw h0 a1 a2 a3 a4 a5 a6 cI fg fk fu fc fb fn rc) = A at hD ⊢
  have hS : va_S A s.heap s.heap [] := va_S.rf
  have hP : va_P (dC, dI) fmCl (fw h0 a1 a2 a3 a4 a5 a6 cI fg fk fu fc fb fn rc) s.heap := hP
  have hl := lv_entry ([.ref h0, .int pt, .int ph, .int pv]) (n := 5) (Nat.le_of_ble_eq_true rfl)
  rw [lg_entry_eq]
  generalize (lg_sl ([.ref h0, .int pt, .int ph, .int pv]) ++ List.replicate (5 - (lg_sl ([.ref h0, .int pt, .int ph, .int pv])).length) Slot.unset).toArray = ls at hl ⊢
  have hl : lv_has ls 5 [(0, .ref h0), (1, .int pt), (2, .int ph), (3, .int pv)] := hl
  refine lv_iload_n hx hb dX0_row_0 rfl (lv_at hl 1 rfl) ?_
  refine vp_callSi (W.runS (As := [.int pt]) (rest := []) ⟨hx, hb, hml, hown, hts⟩ (k_isThing l pt) (va_cwS 1 hts gX0_row_X0_isThing rfl rfl rfl (by decide +kernel) ⟨Nat.le_of_ble_eq_true rfl, Nat.le_of_ble_eq_true rfl⟩) (xf_preS0) rfl rfl hl.1 rfl (lv_room (Nat.le_of_ble_eq_true rfl)) dX0_row_1 ⟨Nat.zero_le _, Nat.zero_le _⟩) (fun r hr9 => ?_)
  subst hr9
  refine xf_Beq (tgt := 21) hx hb dX0_row_4 (by decide) (fun c4 => ?_) (fun c4 => ?_)
  ·
    refine lv_iconst (v := (-1)) hx hb dX0_row_21 (by decide) ?_
    exact W.iret (v := (-1)) hx hb hr (fun t9 ht9 hW9 => ⟨⟨_, (fg, fk, fu, fc, fb, fn, rc), rfl, by simp [fcRow, c4], xf_hP ht9 hP⟩, hS.F ht9⟩) hS.2.2 dX0_row_22
  ·
    obtain ⟨t, ht, rfl⟩ := xf_in_of c4 (by decide)
    have et : (nI t).toNatClampNeg = t := nI_clamp (by omega)
    refine lv_iload_n hx hb dX0_row_7 rfl (lv_at hl 2 rfl) ?_
    refine vp_callSi (W.runS (As := [.int ph]) (rest := []) ⟨hx, hb, hml, hown, hts⟩ (k_isHead l ph) (va_cwS 1 hts gX0_row_X0_isHead rfl rfl rfl (by decide +kernel) ⟨Nat.le_of_ble_eq_true rfl, Nat.le_of_ble_eq_true rfl⟩) (xf_preS0) rfl rfl hl.1 rfl (lv_room (Nat.le_of_ble_eq_true rfl)) dX0_row_8 ⟨Nat.zero_le _, Nat.zero_le _⟩) (fun r hr9 => ?_)
    subst hr9
    refine xf_Beq (tgt := 21) hx hb dX0_row_11 (by decide) (fun c11 => ?_) (fun c11 => ?_)
    ·
      refine lv_iconst (v := (-1)) hx hb dX0_row_21 (by decide) ?_
      exact W.iret (v := (-1)) hx hb hr (fun t9 ht9 hW9 => ⟨⟨_, (fg, fk, fu, fc, fb, fn, rc), rfl, by simp [fcRow, c4, et, c11], xf_hP ht9 hP⟩, hS.F ht9⟩) hS.2.2 dX0_row_22
    ·
      obtain ⟨h, hh, rfl⟩ := xf_in_of c11 (by decide)
      have eh : (nI h).toNatClampNeg = h := nI_clamp (by omega)
      refine lv_iload_n hx hb dX0_row_14 rfl (lv_at hl 3 rfl) ?_
      refine vp_callSi (W.runS (As := [.int pv]) (rest := []) ⟨hx, hb, hml, hown, hts⟩ (k_isValue l pv) (va_cwS 1 hts gX0_row_X0_isValue rfl rfl rfl (by decide +kernel) ⟨Nat.le_of_ble_eq_true rfl, Nat.le_of_ble_eq_true rfl⟩) (xf_preS0) rfl rfl hl.1 rfl (lv_room (Nat.le_of_ble_eq_true rfl)) dX0_row_15 ⟨Nat.zero_le _, Nat.zero_le _⟩) (fun r hr9 => ?_)
      subst hr9
      refine xf_Bne (tgt := 23) hx hb dX0_row_18 (by decide) (fun c18 => ?_) (fun c18 => ?_)
      ·
        obtain ⟨v, hv, rfl⟩ := xf_in_of c18 (by decide)
        have ev : (nI v).toNatClampNeg = v := nI_clamp (by omega)
        refine lv_iload_n hx hb dX0_row_23 rfl (lv_at hl 1 rfl) ?_
        refine lv_bipush (v := nI 8) hx hb dX0_row_24 (by decide) ?_
        refine lv_imul hx hb dX0_row_26 ?_
        refine xf_be (y := nI (t * 8)) (by exact pk_mul _ _) ?_
        refine lv_iload_n hx hb dX0_row_27 rfl (lv_at hl 2 rfl) ?_
        refine lv_iadd hx hb dX0_row_28 ?_
        refine xf_be (y := nI (t * 8 + h)) (by exact nI_add _ _) ?_
        refine lv_istore (lv' := [(4, .int (nI (t * 8 + h))), (0, .ref h0), (1, .int (nI t)), (2, .int (nI h)), (3, .int (nI v))]) hx hb dX0_row_29 hl (by decide) rfl (fun ls hl => ?_)
        refine lv_aload_n hx hb dX0_row_31 rfl (lv_at hl 1 rfl) ?_
        refine va_get (D := (dC, dI)) (ci := 0) (v := .ref a1) (C := RX0) (T := TX0) (N := 7) hx hb hts hin hown hK hP 0 rfl rfl 0 (by decide) hf_given (fun _ h9 => h9) rfl dX0_row_32 ?_
        refine lv_iload hx hb dX0_row_35 (lv_at hl 0 rfl) ?_
        refine xf_iald hx hb hK hP 1 0 rfl rfl (j := (t * 8 + h)) (by omega) (by decide) dX0_row_37 ?_
        refine lv_iload_n hx hb dX0_row_38 rfl (lv_at hl 4 rfl) ?_
        refine vp_callSi (W.runS (As := [.int (fg (t * 8 + h)), .int (nI v)]) (rest := []) ⟨hx, hb, hml, hown, hts⟩ (k_holds l (fg (t * 8 + h)) v (by omega)) (va_cwS 2 hts gX0_row_X0_holds rfl rfl rfl (by decide +kernel) ⟨Nat.le_of_ble_eq_true rfl, Nat.le_of_ble_eq_true rfl⟩) (xf_preS0) rfl rfl hl.1 rfl (lv_room (Nat.le_of_ble_eq_true rfl)) dX0_row_39 ⟨Nat.zero_le _, Nat.zero_le _⟩) (fun r hr9 => ?_)
        subst hr9
        refine xf_Beq (tgt := 47) hx hb dX0_row_42 (by decide) (fun c42 => ?_) (fun c42 => ?_)
        ·
          refine lv_aload_n hx hb dX0_row_47 rfl (lv_at hl 1 rfl) ?_
          refine va_get (D := (dC, dI)) (ci := 0) (v := .int rc) (C := RX0) (T := TX0) (N := 7) hx hb hts hin hown hK hP 0 rfl rfl 6 (by decide) hf_rowCount (fun _ h9 => h9) rfl dX0_row_48 ?_
          refine lv_sipush (v := nI 300) hx hb dX0_row_51 (by decide) ?_
          refine lv_icmp_lt (tgt := 60) hx hb dX0_row_54 (by decide) (fun c54 => ?_) (fun c54 => ?_)
          ·
            refine lv_aload_n hx hb dX0_row_60 rfl (lv_at hl 1 rfl) ?_
            refine va_get (D := (dC, dI)) (ci := 0) (v := .ref a1) (C := RX0) (T := TX0) (N := 7) hx hb hts hin hown hK hP 0 rfl rfl 0 (by decide) hf_given (fun _ h9 => h9) rfl dX0_row_61 ?_
            refine lv_iload hx hb dX0_row_64 (lv_at hl 0 rfl) ?_
            refine lv_dup2_11 hx hb dX0_row_66 rfl rfl ?_
            refine xf_iald hx hb hK hP 1 0 rfl rfl (j := (t * 8 + h)) (by omega) (by decide) dX0_row_67 ?_
            refine lv_iconst (v := nI 1) hx hb dX0_row_68 (by decide) ?_
            refine lv_iload_n hx hb dX0_row_69 rfl (lv_at hl 4 rfl) ?_
            refine lv_ishl hx hb dX0_row_70 ?_
            refine xf_be (y := xf_bit v) (by rfl) ?_
            refine lv_ior hx hb dX0_row_71 ?_
            refine xf_iast hx hb hK hP hD hS 1 0 rfl rfl (j := (t * 8 + h)) (by omega) (by decide) dX0_row_72 (fun H locs hP hD hS => ?_)
            have hP : va_P (dC, dI) fmCl (fw h0 a1 a2 a3 a4 a5 a6 cI (upd fg (t * 8 + h) ((fg (t * 8 + h)) ||| (xf_bit v))) fk fu fc fb fn rc) H := hP
            have hD : va_D A (fw h0 a1 a2 a3 a4 a5 a6 cI (upd fg (t * 8 + h) ((fg (t * 8 + h)) ||| (xf_bit v))) fk fu fc fb fn rc) := hD
            refine lv_aload_n hx hb dX0_row_73 rfl (lv_at hl 1 rfl) ?_
            refine lv_dup hx hb dX0_row_74 rfl ?_
            refine va_get (D := (dC, dI)) (ci := 0) (v := .int rc) (C := RX0) (T := TX0) (N := 7) hx hb hts hin hown hK hP 0 rfl rfl 6 (by decide) hf_rowCount (fun _ h9 => h9) rfl dX0_row_75 ?_
            refine lv_iconst (v := nI 1) hx hb dX0_row_78 (by decide) ?_
            refine lv_iadd hx hb dX0_row_79 ?_
            refine va_put (D := (dC, dI)) (ci := 0) (v := .int (rc + (nI 1))) (ty := .int) (C := RX0) (T := TX0) (N := 7) hx hb hts hin tyX0 tyX0_ok nmX0 hown hK hP hD hS 0 rfl rfl 6 (by decide) hf_rowCount (fun _ h9 => h9) rfl (by decide +kernel) rfl rfl (Nat.le_of_ble_eq_true rfl) dX0_row_80 (fun H locs hP hD hS => ?_)
            have hP : va_P (dC, dI) fmCl (fw h0 a1 a2 a3 a4 a5 a6 cI (upd fg (t * 8 + h) ((fg (t * 8 + h)) ||| (xf_bit v))) fk fu fc fb fn (rc + (nI 1))) H := hP
            have hD : va_D A (fw h0 a1 a2 a3 a4 a5 a6 cI (upd fg (t * 8 + h) ((fg (t * 8 + h)) ||| (xf_bit v))) fk fu fc fb fn (rc + (nI 1))) := hD
            refine lv_aload_n hx hb dX0_row_83 rfl (lv_at hl 1 rfl) ?_
            refine lv_iload_n hx hb dX0_row_84 rfl (lv_at hl 2 rfl) ?_
            have hFc := xf_A_le hD
            refine va_callv (va_runV (As := [.int (nI t)]) (rest := []) ⟨hx, hb, hml, hown, hts⟩ (k_renewKinds l dC dI h0 a1 a2 a3 a4 a5 a6 cI (upd fg (t * 8 + h) ((fg (t * 8 + h)) ||| (xf_bit v))) fk fu fc fb fn (rc + (nI 1)) t (by omega)) (cwV 1 hts gX0_row_X0_renewKinds rfl rfl rfl (by decide +kernel) ⟨Nat.le_of_ble_eq_true rfl, Nat.le_of_ble_eq_true rfl⟩) (xf_preW (ci := 0) (RX0, TX0, 7) hK hP hD rfl rfl) rfl rfl hl.1 rfl (lv_room (Nat.le_of_ble_eq_true rfl)) dX0_row_85 ⟨Nat.zero_le _, Nat.zero_le _⟩) hS (fun q _ h => hFc q h) hFc (fun u9 t9 H locs ht9 hvm9 hw9 hB9 hz9 hk9 hS => ?_)
            subst hw9
            have hB9 := xf_hB ht9 hB9
            have hP : va_P (dC, dI) fmCl (fw h0 a1 a2 a3 a4 a5 a6 cI (upd fg (t * 8 + h) ((fg (t * 8 + h)) ||| (xf_bit v))) (upd fk t (fcRK fu ((upd fg (t * 8 + h) ((fg (t * 8 + h)) ||| (xf_bit v))) (t * 8)) 32)) fu fc fb fn (rc + (nI 1))) H := hB9
            have hD : va_D A (fw h0 a1 a2 a3 a4 a5 a6 cI (upd fg (t * 8 + h) ((fg (t * 8 + h)) ||| (xf_bit v))) (upd fk t (fcRK fu ((upd fg (t * 8 + h) ((fg (t * 8 + h)) ||| (xf_bit v))) (t * 8)) 32)) fu fc fb fn (rc + (nI 1))) := xf_wD hD rfl
            refine lv_iconst (v := nI 1) hx hb dX0_row_88 (by decide) ?_
            exact W.iret (v := nI 1) hx hb hr (fun t9 ht9 hW9 => ⟨⟨_, (upd fg (t * 8 + h) ((fg (t * 8 + h)) ||| (xf_bit v)), upd fk t (fcRK fu ((upd fg (t * 8 + h) ((fg (t * 8 + h)) ||| (xf_bit v))) (t * 8)) 32), fu, fc, fb, fn, rc + (nI 1)), rfl, by simp [fcRow, c4, et, c11, eh, c18, ev, c42, c54], xf_hP ht9 hP⟩, hS.F ht9⟩) hS.2.2 dX0_row_89
          ·
            refine lv_bipush (v := (-2)) hx hb dX0_row_57 (by decide) ?_
            exact W.iret (v := (-2)) hx hb hr (fun t9 ht9 hW9 => ⟨⟨_, (fg, fk, fu, fc, fb, fn, rc), rfl, by simp [fcRow, c4, et, c11, eh, c18, ev, c42, c54], xf_hP ht9 hP⟩, hS.F ht9⟩) hS.2.2 dX0_row_59
        ·
          refine lv_iconst (v := nI 0) hx hb dX0_row_45 (by decide) ?_
          exact W.iret (v := nI 0) hx hb hr (fun t9 ht9 hW9 => ⟨⟨_, (fg, fk, fu, fc, fb, fn, rc), rfl, by simp [fcRow, c4, et, c11, eh, c18, ev, c42], xf_hP ht9 hP⟩, hS.F ht9⟩) hS.2.2 dX0_row_46
      ·
        refine lv_iconst (v := (-1)) hx hb dX0_row_21 (by decide) ?_
        exact W.iret (v := (-1)) hx hb hr (fun t9 ht9 hW9 => ⟨⟨_, (fg, fk, fu, fc, fb, fn, rc), rfl, by simp [fcRow, c4, et, c11, eh, c18], xf_hP ht9 hP⟩, hS.F ht9⟩) hS.2.2 dX0_row_22
set_option maxHeartbeats 4000000 in
set_option maxRecDepth 100000 in
/-- drop(pt, ph, pv) -/
theorem k_drop (l : Launch) (dC : Nat → ClassId) (dI : Nat → Nat → Nat) (h0 a1 a2 a3 a4 a5 a6 : Nat) (cI : ClassId) (fg fk fu fc fb fn : Nat → Int32) (rc : Int32) (pt ph pv : Int32) : Met l yX0_drop wsX0_drop ({ frames := 3, cells := 0, slots := 0, locals := 70 }) (va_Pc [.ref h0, .int pt, .int ph, .int pv] (fun U => va_P (dC, dI) fmCl (fw h0 a1 a2 a3 a4 a5 a6 cI fg fk fu fc fb fn rc) U.heap ∧ va_K (dC, dI) fmCl [(cI, .int)] U ∧ va_D (fun _ => True) (fw h0 a1 a2 a3 a4 a5 a6 cI fg fk fu fc fb fn rc))) (va_Qi (fun (r : Int32) (u : FcS) => (r, u) = fcDrop fg fk fu fc fb fn rc pt ph pv) (fun u t => va_P (dC, dI) fmCl (fw h0 a1 a2 a3 a4 a5 a6 cI u.1 u.2.1 u.2.2.1 u.2.2.2.1 u.2.2.2.2.1 u.2.2.2.2.2.1 u.2.2.2.2.2.2) t.heap) (xf_A (fw h0 a1 a2 a3 a4 a5 a6 cI fg fk fu fc fb fn rc))) 0 0 (xf_A (fw h0 a1 a2 a3 a4 a5 a6 cI fg fk fu fc fb fn rc)) := by
  refine Met.ofW (cc := cX0_drop) (maxL := 5) (ret := (some .int)) (by decide) rfl ?_
  intro p e s m args below meth c s₁ B hml hv
  obtain ⟨rfl, hP, hK, hD0⟩ := hv
  have hx := B.exec
  have hb := B.bytes
  have hr := B.returns
  have hts := atoms_spec (ws := wsX0_drop) B.pre
  have hown : s.vm.findClass RX0 = some m.cls := findClass_of_methodNamed B.named
  have hlocks := B.notSynchronized
  have hin : ∀ w ∈ u_ws RX0 TX0 7, w ∈ wsX0_drop := by decide +kernel
  have hf_given := hts (.fieldLink RX0 9 "FacetCounts" "given" "[I") (by decide +kernel)
  have hf_rowCount := hts (.fieldLink RX0 28 "FacetCounts" "rowCount" "I") (by decide +kernel)
  have hD := xf_A_self hD0
  generalize hAe : xf_A (fw h0 a1 a2 a3 a4 a5 a6 cI fg fk fu fc fb fn rc) = A at hD ⊢
  have hS : va_S A s.heap s.heap [] := va_S.rf
  have hP : va_P (dC, dI) fmCl (fw h0 a1 a2 a3 a4 a5 a6 cI fg fk fu fc fb fn rc) s.heap := hP
  have hl := lv_entry ([.ref h0, .int pt, .int ph, .int pv]) (n := 5) (Nat.le_of_ble_eq_true rfl)
  rw [lg_entry_eq]
  generalize (lg_sl ([.ref h0, .int pt, .int ph, .int pv]) ++ List.replicate (5 - (lg_sl ([.ref h0, .int pt, .int ph, .int pv])).length) Slot.unset).toArray = ls at hl ⊢
  have hl : lv_has ls 5 [(0, .ref h0), (1, .int pt), (2, .int ph), (3, .int pv)] := hl
  refine lv_iload_n hx hb dX0_drop_0 rfl (lv_at hl 1 rfl) ?_
  refine vp_callSi (W.runS (As := [.int pt]) (rest := []) ⟨hx, hb, hml, hown, hts⟩ (k_isThing l pt) (va_cwS 1 hts gX0_drop_X0_isThing rfl rfl rfl (by decide +kernel) ⟨Nat.le_of_ble_eq_true rfl, Nat.le_of_ble_eq_true rfl⟩) (xf_preS0) rfl rfl hl.1 rfl (lv_room (Nat.le_of_ble_eq_true rfl)) dX0_drop_1 ⟨Nat.zero_le _, Nat.zero_le _⟩) (fun r hr9 => ?_)
  subst hr9
  refine xf_Beq (tgt := 21) hx hb dX0_drop_4 (by decide) (fun c4 => ?_) (fun c4 => ?_)
  ·
    refine lv_iconst (v := (-1)) hx hb dX0_drop_21 (by decide) ?_
    exact W.iret (v := (-1)) hx hb hr (fun t9 ht9 hW9 => ⟨⟨_, (fg, fk, fu, fc, fb, fn, rc), rfl, by simp [fcDrop, c4], xf_hP ht9 hP⟩, hS.F ht9⟩) hS.2.2 dX0_drop_22
  ·
    obtain ⟨t, ht, rfl⟩ := xf_in_of c4 (by decide)
    have et : (nI t).toNatClampNeg = t := nI_clamp (by omega)
    refine lv_iload_n hx hb dX0_drop_7 rfl (lv_at hl 2 rfl) ?_
    refine vp_callSi (W.runS (As := [.int ph]) (rest := []) ⟨hx, hb, hml, hown, hts⟩ (k_isHead l ph) (va_cwS 1 hts gX0_drop_X0_isHead rfl rfl rfl (by decide +kernel) ⟨Nat.le_of_ble_eq_true rfl, Nat.le_of_ble_eq_true rfl⟩) (xf_preS0) rfl rfl hl.1 rfl (lv_room (Nat.le_of_ble_eq_true rfl)) dX0_drop_8 ⟨Nat.zero_le _, Nat.zero_le _⟩) (fun r hr9 => ?_)
    subst hr9
    refine xf_Beq (tgt := 21) hx hb dX0_drop_11 (by decide) (fun c11 => ?_) (fun c11 => ?_)
    ·
      refine lv_iconst (v := (-1)) hx hb dX0_drop_21 (by decide) ?_
      exact W.iret (v := (-1)) hx hb hr (fun t9 ht9 hW9 => ⟨⟨_, (fg, fk, fu, fc, fb, fn, rc), rfl, by simp [fcDrop, c4, et, c11], xf_hP ht9 hP⟩, hS.F ht9⟩) hS.2.2 dX0_drop_22
    ·
      obtain ⟨h, hh, rfl⟩ := xf_in_of c11 (by decide)
      have eh : (nI h).toNatClampNeg = h := nI_clamp (by omega)
      refine lv_iload_n hx hb dX0_drop_14 rfl (lv_at hl 3 rfl) ?_
      refine vp_callSi (W.runS (As := [.int pv]) (rest := []) ⟨hx, hb, hml, hown, hts⟩ (k_isValue l pv) (va_cwS 1 hts gX0_drop_X0_isValue rfl rfl rfl (by decide +kernel) ⟨Nat.le_of_ble_eq_true rfl, Nat.le_of_ble_eq_true rfl⟩) (xf_preS0) rfl rfl hl.1 rfl (lv_room (Nat.le_of_ble_eq_true rfl)) dX0_drop_15 ⟨Nat.zero_le _, Nat.zero_le _⟩) (fun r hr9 => ?_)
      subst hr9
      refine xf_Bne (tgt := 23) hx hb dX0_drop_18 (by decide) (fun c18 => ?_) (fun c18 => ?_)
      ·
        obtain ⟨v, hv, rfl⟩ := xf_in_of c18 (by decide)
        have ev : (nI v).toNatClampNeg = v := nI_clamp (by omega)
        refine lv_iload_n hx hb dX0_drop_23 rfl (lv_at hl 1 rfl) ?_
        refine lv_bipush (v := nI 8) hx hb dX0_drop_24 (by decide) ?_
        refine lv_imul hx hb dX0_drop_26 ?_
        refine xf_be (y := nI (t * 8)) (by exact pk_mul _ _) ?_
        refine lv_iload_n hx hb dX0_drop_27 rfl (lv_at hl 2 rfl) ?_
        refine lv_iadd hx hb dX0_drop_28 ?_
        refine xf_be (y := nI (t * 8 + h)) (by exact nI_add _ _) ?_
        refine lv_istore (lv' := [(4, .int (nI (t * 8 + h))), (0, .ref h0), (1, .int (nI t)), (2, .int (nI h)), (3, .int (nI v))]) hx hb dX0_drop_29 hl (by decide) rfl (fun ls hl => ?_)
        refine lv_aload_n hx hb dX0_drop_31 rfl (lv_at hl 1 rfl) ?_
        refine va_get (D := (dC, dI)) (ci := 0) (v := .ref a1) (C := RX0) (T := TX0) (N := 7) hx hb hts hin hown hK hP 0 rfl rfl 0 (by decide) hf_given (fun _ h9 => h9) rfl dX0_drop_32 ?_
        refine lv_iload hx hb dX0_drop_35 (lv_at hl 0 rfl) ?_
        refine xf_iald hx hb hK hP 1 0 rfl rfl (j := (t * 8 + h)) (by omega) (by decide) dX0_drop_37 ?_
        refine lv_iload_n hx hb dX0_drop_38 rfl (lv_at hl 4 rfl) ?_
        refine vp_callSi (W.runS (As := [.int (fg (t * 8 + h)), .int (nI v)]) (rest := []) ⟨hx, hb, hml, hown, hts⟩ (k_holds l (fg (t * 8 + h)) v (by omega)) (va_cwS 2 hts gX0_drop_X0_holds rfl rfl rfl (by decide +kernel) ⟨Nat.le_of_ble_eq_true rfl, Nat.le_of_ble_eq_true rfl⟩) (xf_preS0) rfl rfl hl.1 rfl (lv_room (Nat.le_of_ble_eq_true rfl)) dX0_drop_39 ⟨Nat.zero_le _, Nat.zero_le _⟩) (fun r hr9 => ?_)
        subst hr9
        refine xf_Bne (tgt := 47) hx hb dX0_drop_42 (by decide) (fun c42 => ?_) (fun c42 => ?_)
        ·
          refine lv_aload_n hx hb dX0_drop_47 rfl (lv_at hl 1 rfl) ?_
          refine va_get (D := (dC, dI)) (ci := 0) (v := .ref a1) (C := RX0) (T := TX0) (N := 7) hx hb hts hin hown hK hP 0 rfl rfl 0 (by decide) hf_given (fun _ h9 => h9) rfl dX0_drop_48 ?_
          refine lv_iload hx hb dX0_drop_51 (lv_at hl 0 rfl) ?_
          refine lv_dup2_11 hx hb dX0_drop_53 rfl rfl ?_
          refine xf_iald hx hb hK hP 1 0 rfl rfl (j := (t * 8 + h)) (by omega) (by decide) dX0_drop_54 ?_
          refine lv_iconst (v := nI 1) hx hb dX0_drop_55 (by decide) ?_
          refine lv_iload_n hx hb dX0_drop_56 rfl (lv_at hl 4 rfl) ?_
          refine lv_ishl hx hb dX0_drop_57 ?_
          refine xf_be (y := xf_bit v) (by rfl) ?_
          refine lv_iconst (v := (-1)) hx hb dX0_drop_58 (by decide) ?_
          refine lv_ixor hx hb dX0_drop_59 ?_
          refine xf_be (y := xf_not (xf_bit v)) (by rfl) ?_
          refine lv_iand hx hb dX0_drop_60 ?_
          refine xf_iast hx hb hK hP hD hS 1 0 rfl rfl (j := (t * 8 + h)) (by omega) (by decide) dX0_drop_61 (fun H locs hP hD hS => ?_)
          have hP : va_P (dC, dI) fmCl (fw h0 a1 a2 a3 a4 a5 a6 cI (upd fg (t * 8 + h) ((fg (t * 8 + h)) &&& (xf_not (xf_bit v)))) fk fu fc fb fn rc) H := hP
          have hD : va_D A (fw h0 a1 a2 a3 a4 a5 a6 cI (upd fg (t * 8 + h) ((fg (t * 8 + h)) &&& (xf_not (xf_bit v)))) fk fu fc fb fn rc) := hD
          refine lv_aload_n hx hb dX0_drop_62 rfl (lv_at hl 1 rfl) ?_
          refine lv_dup hx hb dX0_drop_63 rfl ?_
          refine va_get (D := (dC, dI)) (ci := 0) (v := .int rc) (C := RX0) (T := TX0) (N := 7) hx hb hts hin hown hK hP 0 rfl rfl 6 (by decide) hf_rowCount (fun _ h9 => h9) rfl dX0_drop_64 ?_
          refine lv_iconst (v := nI 1) hx hb dX0_drop_67 (by decide) ?_
          refine lv_isub hx hb dX0_drop_68 ?_
          refine va_put (D := (dC, dI)) (ci := 0) (v := .int (rc - (nI 1))) (ty := .int) (C := RX0) (T := TX0) (N := 7) hx hb hts hin tyX0 tyX0_ok nmX0 hown hK hP hD hS 0 rfl rfl 6 (by decide) hf_rowCount (fun _ h9 => h9) rfl (by decide +kernel) rfl rfl (Nat.le_of_ble_eq_true rfl) dX0_drop_69 (fun H locs hP hD hS => ?_)
          have hP : va_P (dC, dI) fmCl (fw h0 a1 a2 a3 a4 a5 a6 cI (upd fg (t * 8 + h) ((fg (t * 8 + h)) &&& (xf_not (xf_bit v)))) fk fu fc fb fn (rc - (nI 1))) H := hP
          have hD : va_D A (fw h0 a1 a2 a3 a4 a5 a6 cI (upd fg (t * 8 + h) ((fg (t * 8 + h)) &&& (xf_not (xf_bit v)))) fk fu fc fb fn (rc - (nI 1))) := hD
          refine lv_aload_n hx hb dX0_drop_72 rfl (lv_at hl 1 rfl) ?_
          refine lv_iload_n hx hb dX0_drop_73 rfl (lv_at hl 2 rfl) ?_
          have hFc := xf_A_le hD
          refine va_callv (va_runV (As := [.int (nI t)]) (rest := []) ⟨hx, hb, hml, hown, hts⟩ (k_renewKinds l dC dI h0 a1 a2 a3 a4 a5 a6 cI (upd fg (t * 8 + h) ((fg (t * 8 + h)) &&& (xf_not (xf_bit v)))) fk fu fc fb fn (rc - (nI 1)) t (by omega)) (cwV 1 hts gX0_drop_X0_renewKinds rfl rfl rfl (by decide +kernel) ⟨Nat.le_of_ble_eq_true rfl, Nat.le_of_ble_eq_true rfl⟩) (xf_preW (ci := 0) (RX0, TX0, 7) hK hP hD rfl rfl) rfl rfl hl.1 rfl (lv_room (Nat.le_of_ble_eq_true rfl)) dX0_drop_74 ⟨Nat.zero_le _, Nat.zero_le _⟩) hS (fun q _ h => hFc q h) hFc (fun u9 t9 H locs ht9 hvm9 hw9 hB9 hz9 hk9 hS => ?_)
          subst hw9
          have hB9 := xf_hB ht9 hB9
          have hP : va_P (dC, dI) fmCl (fw h0 a1 a2 a3 a4 a5 a6 cI (upd fg (t * 8 + h) ((fg (t * 8 + h)) &&& (xf_not (xf_bit v)))) (upd fk t (fcRK fu ((upd fg (t * 8 + h) ((fg (t * 8 + h)) &&& (xf_not (xf_bit v)))) (t * 8)) 32)) fu fc fb fn (rc - (nI 1))) H := hB9
          have hD : va_D A (fw h0 a1 a2 a3 a4 a5 a6 cI (upd fg (t * 8 + h) ((fg (t * 8 + h)) &&& (xf_not (xf_bit v)))) (upd fk t (fcRK fu ((upd fg (t * 8 + h) ((fg (t * 8 + h)) &&& (xf_not (xf_bit v)))) (t * 8)) 32)) fu fc fb fn (rc - (nI 1))) := xf_wD hD rfl
          refine lv_iconst (v := nI 1) hx hb dX0_drop_77 (by decide) ?_
          exact W.iret (v := nI 1) hx hb hr (fun t9 ht9 hW9 => ⟨⟨_, (upd fg (t * 8 + h) ((fg (t * 8 + h)) &&& (xf_not (xf_bit v))), upd fk t (fcRK fu ((upd fg (t * 8 + h) ((fg (t * 8 + h)) &&& (xf_not (xf_bit v)))) (t * 8)) 32), fu, fc, fb, fn, rc - (nI 1)), rfl, by simp [fcDrop, c4, et, c11, eh, c18, ev, c42], xf_hP ht9 hP⟩, hS.F ht9⟩) hS.2.2 dX0_drop_78
        ·
          refine lv_iconst (v := nI 0) hx hb dX0_drop_45 (by decide) ?_
          exact W.iret (v := nI 0) hx hb hr (fun t9 ht9 hW9 => ⟨⟨_, (fg, fk, fu, fc, fb, fn, rc), rfl, by simp [fcDrop, c4, et, c11, eh, c18, ev, c42], xf_hP ht9 hP⟩, hS.F ht9⟩) hS.2.2 dX0_drop_46
      ·
        refine lv_iconst (v := (-1)) hx hb dX0_drop_21 (by decide) ?_
        exact W.iret (v := (-1)) hx hb hr (fun t9 ht9 hW9 => ⟨⟨_, (fg, fk, fu, fc, fb, fn, rc), rfl, by simp [fcDrop, c4, et, c11, eh, c18], xf_hP ht9 hP⟩, hS.F ht9⟩) hS.2.2 dX0_drop_22
set_option maxHeartbeats 4000000 in
set_option maxRecDepth 100000 in
/-- above(pk, pu) -/
theorem k_above (l : Launch) (dC : Nat → ClassId) (dI : Nat → Nat → Nat) (h0 a1 a2 a3 a4 a5 a6 : Nat) (cI : ClassId) (fg fk fu fc fb fn : Nat → Int32) (rc : Int32) (pk pu : Int32) : Met l yX0_above wsX0_above ({ frames := 3, cells := 0, slots := 0, locals := 70 }) (va_Pc [.ref h0, .int pk, .int pu] (fun U => va_P (dC, dI) fmCl (fw h0 a1 a2 a3 a4 a5 a6 cI fg fk fu fc fb fn rc) U.heap ∧ va_K (dC, dI) fmCl [(cI, .int)] U ∧ va_D (fun _ => True) (fw h0 a1 a2 a3 a4 a5 a6 cI fg fk fu fc fb fn rc))) (va_Qi (fun (r : Int32) (u : FcS) => (r, u) = fcAbove fg fk fu fc fb fn rc pk pu) (fun u t => va_P (dC, dI) fmCl (fw h0 a1 a2 a3 a4 a5 a6 cI u.1 u.2.1 u.2.2.1 u.2.2.2.1 u.2.2.2.2.1 u.2.2.2.2.2.1 u.2.2.2.2.2.2) t.heap) (xf_A (fw h0 a1 a2 a3 a4 a5 a6 cI fg fk fu fc fb fn rc))) 0 0 (xf_A (fw h0 a1 a2 a3 a4 a5 a6 cI fg fk fu fc fb fn rc)) := by
  refine Met.ofW (cc := cX0_above) (maxL := 4) (ret := (some .int)) (by decide) rfl ?_
  intro p e s m args below meth c s₁ B hml hv
  obtain ⟨rfl, hP, hK, hD0⟩ := hv
  have hx := B.exec
  have hb := B.bytes
  have hr := B.returns
  have hts := atoms_spec (ws := wsX0_above) B.pre
  have hown : s.vm.findClass RX0 = some m.cls := findClass_of_methodNamed B.named
  have hlocks := B.notSynchronized
  have hin : ∀ w ∈ u_ws RX0 TX0 7, w ∈ wsX0_above := by decide +kernel
  have hf_uppers := hts (.fieldLink RX0 16 "FacetCounts" "uppers" "[I") (by decide +kernel)
  have hD := xf_A_self hD0
  generalize hAe : xf_A (fw h0 a1 a2 a3 a4 a5 a6 cI fg fk fu fc fb fn rc) = A at hD ⊢
  have hS : va_S A s.heap s.heap [] := va_S.rf
  have hP : va_P (dC, dI) fmCl (fw h0 a1 a2 a3 a4 a5 a6 cI fg fk fu fc fb fn rc) s.heap := hP
  have hl := lv_entry ([.ref h0, .int pk, .int pu]) (n := 4) (Nat.le_of_ble_eq_true rfl)
  rw [lg_entry_eq]
  generalize (lg_sl ([.ref h0, .int pk, .int pu]) ++ List.replicate (4 - (lg_sl ([.ref h0, .int pk, .int pu])).length) Slot.unset).toArray = ls at hl ⊢
  have hl : lv_has ls 4 [(0, .ref h0), (1, .int pk), (2, .int pu)] := hl
  refine lv_iload_n hx hb dX0_above_0 rfl (lv_at hl 1 rfl) ?_
  refine vp_callSi (W.runS (As := [.int pk]) (rest := []) ⟨hx, hb, hml, hown, hts⟩ (k_isValue l pk) (va_cwS 1 hts gX0_above_X0_isValue rfl rfl rfl (by decide +kernel) ⟨Nat.le_of_ble_eq_true rfl, Nat.le_of_ble_eq_true rfl⟩) (xf_preS0) rfl rfl hl.1 rfl (lv_room (Nat.le_of_ble_eq_true rfl)) dX0_above_1 ⟨Nat.zero_le _, Nat.zero_le _⟩) (fun r hr9 => ?_)
  subst hr9
  refine xf_Beq (tgt := 19) hx hb dX0_above_4 (by decide) (fun c4 => ?_) (fun c4 => ?_)
  ·
    refine lv_iconst (v := (-1)) hx hb dX0_above_19 (by decide) ?_
    exact W.iret (v := (-1)) hx hb hr (fun t9 ht9 hW9 => ⟨⟨_, (fg, fk, fu, fc, fb, fn, rc), rfl, by simp [fcAbove, c4], xf_hP ht9 hP⟩, hS.F ht9⟩) hS.2.2 dX0_above_20
  ·
    obtain ⟨k, hk, rfl⟩ := xf_in_of c4 (by decide)
    have ek : (nI k).toNatClampNeg = k := nI_clamp (by omega)
    refine lv_iload_n hx hb dX0_above_7 rfl (lv_at hl 2 rfl) ?_
    refine lv_iconst (v := (-1)) hx hb dX0_above_8 (by decide) ?_
    refine lv_icmp_eq (tgt := 21) hx hb dX0_above_9 (by decide) (fun c9 => ?_) (fun c9 => ?_)
    ·
      refine lv_aload_n hx hb dX0_above_21 rfl (lv_at hl 0 rfl) ?_
      refine va_get (D := (dC, dI)) (ci := 0) (v := .ref a3) (C := RX0) (T := TX0) (N := 7) hx hb hts hin hown hK hP 0 rfl rfl 2 (by decide) hf_uppers (fun _ h9 => h9) rfl dX0_above_22 ?_
      refine lv_iload_n hx hb dX0_above_25 rfl (lv_at hl 1 rfl) ?_
      refine xf_iald hx hb hK hP 3 0 rfl rfl (j := k) (by omega) (by decide) dX0_above_26 ?_
      refine lv_iload_n hx hb dX0_above_27 rfl (lv_at hl 2 rfl) ?_
      refine lv_icmp_ne (tgt := 33) hx hb dX0_above_28 (by decide) (fun c28 => ?_) (fun c28 => ?_)
      ·
        refine lv_iload_n hx hb dX0_above_33 rfl (lv_at hl 2 rfl) ?_
        refine lv_iconst (v := (-1)) hx hb dX0_above_34 (by decide) ?_
        refine lv_icmp_eq (tgt := 54) hx hb dX0_above_35 (by decide) (fun c35 => ?_) (fun c35 => ?_)
        ·
          refine lv_aload_n hx hb dX0_above_54 rfl (lv_at hl 0 rfl) ?_
          refine va_get (D := (dC, dI)) (ci := 0) (v := .ref a3) (C := RX0) (T := TX0) (N := 7) hx hb hts hin hown hK hP 0 rfl rfl 2 (by decide) hf_uppers (fun _ h9 => h9) rfl dX0_above_55 ?_
          refine lv_iload_n hx hb dX0_above_58 rfl (lv_at hl 1 rfl) ?_
          refine lv_iload_n hx hb dX0_above_59 rfl (lv_at hl 2 rfl) ?_
          refine xf_iast hx hb hK hP hD hS 3 0 rfl rfl (j := k) (by omega) (by decide) dX0_above_60 (fun H locs hP hD hS => ?_)
          have hP : va_P (dC, dI) fmCl (fw h0 a1 a2 a3 a4 a5 a6 cI fg fk (upd fu k pu) fc fb fn rc) H := hP
          have hD : va_D A (fw h0 a1 a2 a3 a4 a5 a6 cI fg fk (upd fu k pu) fc fb fn rc) := hD
          refine lv_iconst (v := nI 0) hx hb dX0_above_61 (by decide) ?_
          refine lv_istore_n (lv' := [(3, .int (nI 0)), (0, .ref h0), (1, .int (nI k)), (2, .int pu)]) hx hb dX0_above_62 rfl hl (by decide) rfl (fun ls hl => ?_)
          refine xf_loopH (σ := Nat) (fun (z9 : Nat) => 40 - z9) (fun (z9 : Nat) => [(0, .ref h0), (1, .int (nI k)), (2, .int pu), (3, .int (nI z9))]) (fun (z9 : Nat) => (fw h0 a1 a2 a3 a4 a5 a6 cI fg (fcRA (upd fu k pu) fg fk z9) (upd fu k pu) fc fb fn rc)) (fun (z9 : Nat) => z9 ≤ 40) 0 (lv_sub hl [1, 2, 3, 0] rfl) (Nat.zero_le _) hP hD hS (fun z9 ls H locs hi hl hP hD hS ih63 => ?_)
          obtain ⟨t, hxe⟩ : ∃ z, z = z9 := ⟨_, rfl⟩
          subst hxe
          have hl : lv_has ls 4 [(0, .ref h0), (1, .int (nI k)), (2, .int pu), (3, .int (nI t))] := hl
          have hP : va_P (dC, dI) fmCl (fw h0 a1 a2 a3 a4 a5 a6 cI fg (fcRA (upd fu k pu) fg fk t) (upd fu k pu) fc fb fn rc) H := hP
          have hD : va_D A (fw h0 a1 a2 a3 a4 a5 a6 cI fg (fcRA (upd fu k pu) fg fk t) (upd fu k pu) fc fb fn rc) := hD
          have hi : t ≤ 40 := hi
          refine lv_iload_n hx hb dX0_above_63 rfl (lv_at hl 3 rfl) ?_
          refine lv_bipush (v := nI 40) hx hb dX0_above_64 (by decide) ?_
          refine xf_ge (tgt := 80) hx hb dX0_above_66 (by decide) (by omega) (by omega) (fun c66 => ?_) (fun c66 => ?_)
          ·
            obtain rfl : t = 40 := by omega
            refine lv_iconst (v := nI 1) hx hb dX0_above_80 (by decide) ?_
            exact W.iret (v := nI 1) hx hb hr (fun t9 ht9 hW9 => ⟨⟨_, (fg, fcRA (upd fu k pu) fg fk 40, upd fu k pu, fc, fb, fn, rc), rfl, by subst c9; simp [fcAbove, c4, ek, c28], xf_hP ht9 hP⟩, hS.F ht9⟩) hS.2.2 dX0_above_81
          ·
            refine lv_aload_n hx hb dX0_above_69 rfl (lv_at hl 0 rfl) ?_
            refine lv_iload_n hx hb dX0_above_70 rfl (lv_at hl 3 rfl) ?_
            have hFc := xf_A_le hD
            refine va_callv (va_runV (As := [.int (nI t)]) (rest := []) ⟨hx, hb, hml, hown, hts⟩ (k_renewKinds l dC dI h0 a1 a2 a3 a4 a5 a6 cI fg (fcRA (upd fu k pu) fg fk t) (upd fu k pu) fc fb fn rc t (by omega)) (cwV 1 hts gX0_above_X0_renewKinds rfl rfl rfl (by decide +kernel) ⟨Nat.le_of_ble_eq_true rfl, Nat.le_of_ble_eq_true rfl⟩) (xf_preW (ci := 0) (RX0, TX0, 7) hK hP hD rfl rfl) rfl rfl hl.1 rfl (lv_room (Nat.le_of_ble_eq_true rfl)) dX0_above_71 ⟨Nat.zero_le _, Nat.zero_le _⟩) hS (fun q _ h => hFc q h) hFc (fun u9 t9 H locs ht9 hvm9 hw9 hB9 hz9 hk9 hS => ?_)
            subst hw9
            have hB9 := xf_hB ht9 hB9
            have hP : va_P (dC, dI) fmCl (fw h0 a1 a2 a3 a4 a5 a6 cI fg (upd (fcRA (upd fu k pu) fg fk t) t (fcRK (upd fu k pu) (fg (t * 8)) 32)) (upd fu k pu) fc fb fn rc) H := hB9
            have hD : va_D A (fw h0 a1 a2 a3 a4 a5 a6 cI fg (upd (fcRA (upd fu k pu) fg fk t) t (fcRK (upd fu k pu) (fg (t * 8)) 32)) (upd fu k pu) fc fb fn rc) := xf_wD hD rfl
            refine lv_iinc (v := nI (t + 1)) (lv' := [(3, .int (nI (t + 1))), (0, .ref h0), (1, .int (nI k)), (2, .int pu)]) hx hb dX0_above_74 hl (k := 3) rfl (by exact nI_1 t) (by decide) rfl (fun ls hl => ?_)
            refine lv_goto (tgt := 63) hx hb dX0_above_77 (by decide) ?_
            have hl := lv_sub (l' := [(0, .ref h0), (1, .int (nI k)), (2, .int pu), (3, .int (nI (t + 1)))]) hl [1, 2, 3, 0] rfl
            have hl : lv_has ls 4 [(0, .ref h0), (1, .int (nI k)), (2, .int pu), (3, .int (nI (t + 1)))] := xf_lv hl (by rfl)
            have hP : va_P (dC, dI) fmCl (fw h0 a1 a2 a3 a4 a5 a6 cI fg (fcRA (upd fu k pu) fg fk (t + 1)) (upd fu k pu) fc fb fn rc) H := xf_wP hP (by rfl)
            have hD : va_D A (fw h0 a1 a2 a3 a4 a5 a6 cI fg (fcRA (upd fu k pu) fg fk (t + 1)) (upd fu k pu) fc fb fn rc) := xf_wD hD rfl
            exact ih63 (t + 1) ls H locs (by show 40 - (t + 1) < 40 - t; omega) (by show (t + 1) ≤ 40; omega) hl hP hD hS
        ·
          exact absurd c9 c35
      ·
        refine lv_iconst (v := nI 0) hx hb dX0_above_31 (by decide) ?_
        exact W.iret (v := nI 0) hx hb hr (fun t9 ht9 hW9 => ⟨⟨_, (fg, fk, fu, fc, fb, fn, rc), rfl, by subst c9; simp [fcAbove, c4, ek, c28], xf_hP ht9 hP⟩, hS.F ht9⟩) hS.2.2 dX0_above_32
    ·
      refine lv_iload_n hx hb dX0_above_12 rfl (lv_at hl 2 rfl) ?_
      refine vp_callSi (W.runS (As := [.int pu]) (rest := []) ⟨hx, hb, hml, hown, hts⟩ (k_isValue l pu) (va_cwS 1 hts gX0_above_X0_isValue rfl rfl rfl (by decide +kernel) ⟨Nat.le_of_ble_eq_true rfl, Nat.le_of_ble_eq_true rfl⟩) (xf_preS0) rfl rfl hl.1 rfl (lv_room (Nat.le_of_ble_eq_true rfl)) dX0_above_13 ⟨Nat.zero_le _, Nat.zero_le _⟩) (fun r hr9 => ?_)
      subst hr9
      refine xf_Bne (tgt := 21) hx hb dX0_above_16 (by decide) (fun c16 => ?_) (fun c16 => ?_)
      ·
        refine lv_aload_n hx hb dX0_above_21 rfl (lv_at hl 0 rfl) ?_
        refine va_get (D := (dC, dI)) (ci := 0) (v := .ref a3) (C := RX0) (T := TX0) (N := 7) hx hb hts hin hown hK hP 0 rfl rfl 2 (by decide) hf_uppers (fun _ h9 => h9) rfl dX0_above_22 ?_
        refine lv_iload_n hx hb dX0_above_25 rfl (lv_at hl 1 rfl) ?_
        refine xf_iald hx hb hK hP 3 0 rfl rfl (j := k) (by omega) (by decide) dX0_above_26 ?_
        refine lv_iload_n hx hb dX0_above_27 rfl (lv_at hl 2 rfl) ?_
        refine lv_icmp_ne (tgt := 33) hx hb dX0_above_28 (by decide) (fun c28 => ?_) (fun c28 => ?_)
        ·
          refine lv_iload_n hx hb dX0_above_33 rfl (lv_at hl 2 rfl) ?_
          refine lv_iconst (v := (-1)) hx hb dX0_above_34 (by decide) ?_
          refine lv_icmp_eq (tgt := 54) hx hb dX0_above_35 (by decide) (fun c35 => ?_) (fun c35 => ?_)
          ·
            exact absurd c35 c9
          ·
            refine lv_aload_n hx hb dX0_above_38 rfl (lv_at hl 0 rfl) ?_
            refine lv_iload_n hx hb dX0_above_39 rfl (lv_at hl 2 rfl) ?_
            refine lv_iconst (v := nI 0) hx hb dX0_above_40 (by decide) ?_
            refine vp_callSi (W.runV (As := [.int pu, .int (nI 0)]) (rest := []) ⟨hx, hb, hml, hown, hts⟩ (k_withUppers l dC dI h0 a1 a2 a3 a4 a5 a6 cI fg fk fu fc fb fn rc pu (nI 0)) (cwV 2 hts gX0_above_X0_withUppers rfl rfl rfl (by decide +kernel) ⟨Nat.le_of_ble_eq_true rfl, Nat.le_of_ble_eq_true rfl⟩) (xf_preV (ci := 0) (RX0, TX0, 7) hK hP rfl rfl) rfl rfl hl.1 rfl (lv_room (Nat.le_of_ble_eq_true rfl)) dX0_above_41 ⟨Nat.zero_le _, Nat.zero_le _⟩) (fun r hr9 => ?_)
            subst hr9
            refine lv_iload_n hx hb dX0_above_44 rfl (lv_at hl 1 rfl) ?_
            refine vp_callSi (W.runS (As := [.int (fcWU fu 32 pu (nI 0)), .int (nI k)]) (rest := []) ⟨hx, hb, hml, hown, hts⟩ (k_holds l (fcWU fu 32 pu (nI 0)) k (by omega)) (va_cwS 2 hts gX0_above_X0_holds rfl rfl rfl (by decide +kernel) ⟨Nat.le_of_ble_eq_true rfl, Nat.le_of_ble_eq_true rfl⟩) (xf_preS0) rfl rfl hl.1 rfl (lv_room (Nat.le_of_ble_eq_true rfl)) dX0_above_45 ⟨Nat.zero_le _, Nat.zero_le _⟩) (fun r hr9 => ?_)
            subst hr9
            refine xf_Beq (tgt := 54) hx hb dX0_above_48 (by decide) (fun c48 => ?_) (fun c48 => ?_)
            ·
              refine lv_aload_n hx hb dX0_above_54 rfl (lv_at hl 0 rfl) ?_
              refine va_get (D := (dC, dI)) (ci := 0) (v := .ref a3) (C := RX0) (T := TX0) (N := 7) hx hb hts hin hown hK hP 0 rfl rfl 2 (by decide) hf_uppers (fun _ h9 => h9) rfl dX0_above_55 ?_
              refine lv_iload_n hx hb dX0_above_58 rfl (lv_at hl 1 rfl) ?_
              refine lv_iload_n hx hb dX0_above_59 rfl (lv_at hl 2 rfl) ?_
              refine xf_iast hx hb hK hP hD hS 3 0 rfl rfl (j := k) (by omega) (by decide) dX0_above_60 (fun H locs hP hD hS => ?_)
              have hP : va_P (dC, dI) fmCl (fw h0 a1 a2 a3 a4 a5 a6 cI fg fk (upd fu k pu) fc fb fn rc) H := hP
              have hD : va_D A (fw h0 a1 a2 a3 a4 a5 a6 cI fg fk (upd fu k pu) fc fb fn rc) := hD
              refine lv_iconst (v := nI 0) hx hb dX0_above_61 (by decide) ?_
              refine lv_istore_n (lv' := [(3, .int (nI 0)), (0, .ref h0), (1, .int (nI k)), (2, .int pu)]) hx hb dX0_above_62 rfl hl (by decide) rfl (fun ls hl => ?_)
              refine xf_loopH (σ := Nat) (fun (z9 : Nat) => 40 - z9) (fun (z9 : Nat) => [(0, .ref h0), (1, .int (nI k)), (2, .int pu), (3, .int (nI z9))]) (fun (z9 : Nat) => (fw h0 a1 a2 a3 a4 a5 a6 cI fg (fcRA (upd fu k pu) fg fk z9) (upd fu k pu) fc fb fn rc)) (fun (z9 : Nat) => z9 ≤ 40) 0 (lv_sub hl [1, 2, 3, 0] rfl) (Nat.zero_le _) hP hD hS (fun z9 ls H locs hi hl hP hD hS ih63 => ?_)
              obtain ⟨t, hxe⟩ : ∃ z, z = z9 := ⟨_, rfl⟩
              subst hxe
              have hl : lv_has ls 4 [(0, .ref h0), (1, .int (nI k)), (2, .int pu), (3, .int (nI t))] := hl
              have hP : va_P (dC, dI) fmCl (fw h0 a1 a2 a3 a4 a5 a6 cI fg (fcRA (upd fu k pu) fg fk t) (upd fu k pu) fc fb fn rc) H := hP
              have hD : va_D A (fw h0 a1 a2 a3 a4 a5 a6 cI fg (fcRA (upd fu k pu) fg fk t) (upd fu k pu) fc fb fn rc) := hD
              have hi : t ≤ 40 := hi
              refine lv_iload_n hx hb dX0_above_63 rfl (lv_at hl 3 rfl) ?_
              refine lv_bipush (v := nI 40) hx hb dX0_above_64 (by decide) ?_
              refine xf_ge (tgt := 80) hx hb dX0_above_66 (by decide) (by omega) (by omega) (fun c66 => ?_) (fun c66 => ?_)
              ·
                obtain rfl : t = 40 := by omega
                refine lv_iconst (v := nI 1) hx hb dX0_above_80 (by decide) ?_
                exact W.iret (v := nI 1) hx hb hr (fun t9 ht9 hW9 => ⟨⟨_, (fg, fcRA (upd fu k pu) fg fk 40, upd fu k pu, fc, fb, fn, rc), rfl, by simp [fcAbove, c4, ek, c9, c16, c28, c48], xf_hP ht9 hP⟩, hS.F ht9⟩) hS.2.2 dX0_above_81
              ·
                refine lv_aload_n hx hb dX0_above_69 rfl (lv_at hl 0 rfl) ?_
                refine lv_iload_n hx hb dX0_above_70 rfl (lv_at hl 3 rfl) ?_
                have hFc := xf_A_le hD
                refine va_callv (va_runV (As := [.int (nI t)]) (rest := []) ⟨hx, hb, hml, hown, hts⟩ (k_renewKinds l dC dI h0 a1 a2 a3 a4 a5 a6 cI fg (fcRA (upd fu k pu) fg fk t) (upd fu k pu) fc fb fn rc t (by omega)) (cwV 1 hts gX0_above_X0_renewKinds rfl rfl rfl (by decide +kernel) ⟨Nat.le_of_ble_eq_true rfl, Nat.le_of_ble_eq_true rfl⟩) (xf_preW (ci := 0) (RX0, TX0, 7) hK hP hD rfl rfl) rfl rfl hl.1 rfl (lv_room (Nat.le_of_ble_eq_true rfl)) dX0_above_71 ⟨Nat.zero_le _, Nat.zero_le _⟩) hS (fun q _ h => hFc q h) hFc (fun u9 t9 H locs ht9 hvm9 hw9 hB9 hz9 hk9 hS => ?_)
                subst hw9
                have hB9 := xf_hB ht9 hB9
                have hP : va_P (dC, dI) fmCl (fw h0 a1 a2 a3 a4 a5 a6 cI fg (upd (fcRA (upd fu k pu) fg fk t) t (fcRK (upd fu k pu) (fg (t * 8)) 32)) (upd fu k pu) fc fb fn rc) H := hB9
                have hD : va_D A (fw h0 a1 a2 a3 a4 a5 a6 cI fg (upd (fcRA (upd fu k pu) fg fk t) t (fcRK (upd fu k pu) (fg (t * 8)) 32)) (upd fu k pu) fc fb fn rc) := xf_wD hD rfl
                refine lv_iinc (v := nI (t + 1)) (lv' := [(3, .int (nI (t + 1))), (0, .ref h0), (1, .int (nI k)), (2, .int pu)]) hx hb dX0_above_74 hl (k := 3) rfl (by exact nI_1 t) (by decide) rfl (fun ls hl => ?_)
                refine lv_goto (tgt := 63) hx hb dX0_above_77 (by decide) ?_
                have hl := lv_sub (l' := [(0, .ref h0), (1, .int (nI k)), (2, .int pu), (3, .int (nI (t + 1)))]) hl [1, 2, 3, 0] rfl
                have hl : lv_has ls 4 [(0, .ref h0), (1, .int (nI k)), (2, .int pu), (3, .int (nI (t + 1)))] := xf_lv hl (by rfl)
                have hP : va_P (dC, dI) fmCl (fw h0 a1 a2 a3 a4 a5 a6 cI fg (fcRA (upd fu k pu) fg fk (t + 1)) (upd fu k pu) fc fb fn rc) H := xf_wP hP (by rfl)
                have hD : va_D A (fw h0 a1 a2 a3 a4 a5 a6 cI fg (fcRA (upd fu k pu) fg fk (t + 1)) (upd fu k pu) fc fb fn rc) := xf_wD hD rfl
                exact ih63 (t + 1) ls H locs (by show 40 - (t + 1) < 40 - t; omega) (by show (t + 1) ≤ 40; omega) hl hP hD hS
            ·
              refine lv_bipush (v := (-3)) hx hb dX0_above_51 (by decide) ?_
              exact W.iret (v := (-3)) hx hb hr (fun t9 ht9 hW9 => ⟨⟨_, (fg, fk, fu, fc, fb, fn, rc), rfl, by simp [fcAbove, c4, ek, c9, c16, c28, c48], xf_hP ht9 hP⟩, hS.F ht9⟩) hS.2.2 dX0_above_53
        ·
          refine lv_iconst (v := nI 0) hx hb dX0_above_31 (by decide) ?_
          exact W.iret (v := nI 0) hx hb hr (fun t9 ht9 hW9 => ⟨⟨_, (fg, fk, fu, fc, fb, fn, rc), rfl, by simp [fcAbove, c4, ek, c9, c16, c28], xf_hP ht9 hP⟩, hS.F ht9⟩) hS.2.2 dX0_above_32
      ·
        refine lv_iconst (v := (-1)) hx hb dX0_above_19 (by decide) ?_
        exact W.iret (v := (-1)) hx hb hr (fun t9 ht9 hW9 => ⟨⟨_, (fg, fk, fu, fc, fb, fn, rc), rfl, by simp [fcAbove, c4, ek, c9, c16], xf_hP ht9 hP⟩, hS.F ht9⟩) hS.2.2 dX0_above_20
set_option maxHeartbeats 4000000 in
set_option maxRecDepth 100000 in
/-- choose(ph, pv, on) -/
theorem k_choose (l : Launch) (dC : Nat → ClassId) (dI : Nat → Nat → Nat) (h0 a1 a2 a3 a4 a5 a6 : Nat) (cI : ClassId) (fg fk fu fc fb fn : Nat → Int32) (rc : Int32) (ph pv on : Int32) : Met l yX0_choose wsX0_choose ({ frames := 3, cells := 0, slots := 0, locals := 67 }) (va_Pc [.ref h0, .int ph, .int pv, .int on] (fun U => va_P (dC, dI) fmCl (fw h0 a1 a2 a3 a4 a5 a6 cI fg fk fu fc fb fn rc) U.heap ∧ va_K (dC, dI) fmCl [(cI, .int)] U ∧ va_D (fun _ => True) (fw h0 a1 a2 a3 a4 a5 a6 cI fg fk fu fc fb fn rc))) (va_Qi (fun (r : Int32) (u : FcS) => (r, u) = fcChoose fg fk fu fc fb fn rc ph pv on) (fun u t => va_P (dC, dI) fmCl (fw h0 a1 a2 a3 a4 a5 a6 cI u.1 u.2.1 u.2.2.1 u.2.2.2.1 u.2.2.2.2.1 u.2.2.2.2.2.1 u.2.2.2.2.2.2) t.heap) (xf_A (fw h0 a1 a2 a3 a4 a5 a6 cI fg fk fu fc fb fn rc))) 0 0 (xf_A (fw h0 a1 a2 a3 a4 a5 a6 cI fg fk fu fc fb fn rc)) := by
  refine Met.ofW (cc := cX0_choose) (maxL := 4) (ret := (some .int)) (by decide) rfl ?_
  intro p e s m args below meth c s₁ B hml hv
  obtain ⟨rfl, hP, hK, hD0⟩ := hv
  have hx := B.exec
  have hb := B.bytes
  have hr := B.returns
  have hts := atoms_spec (ws := wsX0_choose) B.pre
  have hown : s.vm.findClass RX0 = some m.cls := findClass_of_methodNamed B.named
  have hlocks := B.notSynchronized
  have hin : ∀ w ∈ u_ws RX0 TX0 7, w ∈ wsX0_choose := by decide +kernel
  have hf_chosen := hts (.fieldLink RX0 19 "FacetCounts" "chosen" "[I") (by decide +kernel)
  have hD := xf_A_self hD0
  generalize hAe : xf_A (fw h0 a1 a2 a3 a4 a5 a6 cI fg fk fu fc fb fn rc) = A at hD ⊢
  have hS : va_S A s.heap s.heap [] := va_S.rf
  have hP : va_P (dC, dI) fmCl (fw h0 a1 a2 a3 a4 a5 a6 cI fg fk fu fc fb fn rc) s.heap := hP
  have hl := lv_entry ([.ref h0, .int ph, .int pv, .int on]) (n := 4) (Nat.le_of_ble_eq_true rfl)
  rw [lg_entry_eq]
  generalize (lg_sl ([.ref h0, .int ph, .int pv, .int on]) ++ List.replicate (4 - (lg_sl ([.ref h0, .int ph, .int pv, .int on])).length) Slot.unset).toArray = ls at hl ⊢
  have hl : lv_has ls 4 [(0, .ref h0), (1, .int ph), (2, .int pv), (3, .int on)] := hl
  refine lv_iload_n hx hb dX0_choose_0 rfl (lv_at hl 1 rfl) ?_
  refine vp_callSi (W.runS (As := [.int ph]) (rest := []) ⟨hx, hb, hml, hown, hts⟩ (k_isHead l ph) (va_cwS 1 hts gX0_choose_X0_isHead rfl rfl rfl (by decide +kernel) ⟨Nat.le_of_ble_eq_true rfl, Nat.le_of_ble_eq_true rfl⟩) (xf_preS0) rfl rfl hl.1 rfl (lv_room (Nat.le_of_ble_eq_true rfl)) dX0_choose_1 ⟨Nat.zero_le _, Nat.zero_le _⟩) (fun r hr9 => ?_)
  subst hr9
  refine xf_Beq (tgt := 14) hx hb dX0_choose_4 (by decide) (fun c4 => ?_) (fun c4 => ?_)
  ·
    refine lv_iconst (v := (-1)) hx hb dX0_choose_14 (by decide) ?_
    exact W.iret (v := (-1)) hx hb hr (fun t9 ht9 hW9 => ⟨⟨_, (fg, fk, fu, fc, fb, fn, rc), rfl, by simp [fcChoose, fcCh, c4], xf_hP ht9 hP⟩, hS.F ht9⟩) hS.2.2 dX0_choose_15
  ·
    obtain ⟨h, hh, rfl⟩ := xf_in_of c4 (by decide)
    have eh : (nI h).toNatClampNeg = h := nI_clamp (by omega)
    refine lv_iload_n hx hb dX0_choose_7 rfl (lv_at hl 2 rfl) ?_
    refine vp_callSi (W.runS (As := [.int pv]) (rest := []) ⟨hx, hb, hml, hown, hts⟩ (k_isValue l pv) (va_cwS 1 hts gX0_choose_X0_isValue rfl rfl rfl (by decide +kernel) ⟨Nat.le_of_ble_eq_true rfl, Nat.le_of_ble_eq_true rfl⟩) (xf_preS0) rfl rfl hl.1 rfl (lv_room (Nat.le_of_ble_eq_true rfl)) dX0_choose_8 ⟨Nat.zero_le _, Nat.zero_le _⟩) (fun r hr9 => ?_)
    subst hr9
    refine xf_Bne (tgt := 16) hx hb dX0_choose_11 (by decide) (fun c11 => ?_) (fun c11 => ?_)
    ·
      obtain ⟨v, hv, rfl⟩ := xf_in_of c11 (by decide)
      have ev : (nI v).toNatClampNeg = v := nI_clamp (by omega)
      refine lv_iload_n hx hb dX0_choose_16 rfl (lv_at hl 3 rfl) ?_
      refine lv_if_eq (tgt := 35) hx hb dX0_choose_17 (by decide) (fun c17 => ?_) (fun c17 => ?_)
      ·
        refine lv_aload_n hx hb dX0_choose_35 rfl (lv_at hl 0 rfl) ?_
        refine va_get (D := (dC, dI)) (ci := 0) (v := .ref a4) (C := RX0) (T := TX0) (N := 7) hx hb hts hin hown hK hP 0 rfl rfl 3 (by decide) hf_chosen (fun _ h9 => h9) rfl dX0_choose_36 ?_
        refine lv_iload_n hx hb dX0_choose_39 rfl (lv_at hl 1 rfl) ?_
        refine lv_dup2_11 hx hb dX0_choose_40 rfl rfl ?_
        refine xf_iald hx hb hK hP 4 0 rfl rfl (j := h) (by omega) (by decide) dX0_choose_41 ?_
        refine lv_iconst (v := nI 1) hx hb dX0_choose_42 (by decide) ?_
        refine lv_iload_n hx hb dX0_choose_43 rfl (lv_at hl 2 rfl) ?_
        refine lv_ishl hx hb dX0_choose_44 ?_
        refine xf_be (y := xf_bit v) (by rfl) ?_
        refine lv_iconst (v := (-1)) hx hb dX0_choose_45 (by decide) ?_
        refine lv_ixor hx hb dX0_choose_46 ?_
        refine xf_be (y := xf_not (xf_bit v)) (by rfl) ?_
        refine lv_iand hx hb dX0_choose_47 ?_
        refine xf_iast hx hb hK hP hD hS 4 0 rfl rfl (j := h) (by omega) (by decide) dX0_choose_48 (fun H locs hP hD hS => ?_)
        have hP : va_P (dC, dI) fmCl (fw h0 a1 a2 a3 a4 a5 a6 cI fg fk fu (upd fc h ((fc h) &&& (xf_not (xf_bit v)))) fb fn rc) H := hP
        have hD : va_D A (fw h0 a1 a2 a3 a4 a5 a6 cI fg fk fu (upd fc h ((fc h) &&& (xf_not (xf_bit v)))) fb fn rc) := hD
        refine lv_aload_n hx hb dX0_choose_49 rfl (lv_at hl 0 rfl) ?_
        refine vp_callSi (W.runV (As := []) (rest := []) ⟨hx, hb, hml, hown, hts⟩ (k_countKept l dC dI h0 a1 a2 a3 a4 a5 a6 cI fg fk fu (upd fc h ((fc h) &&& (xf_not (xf_bit v)))) fb fn rc) (cwV 0 hts gX0_choose_X0_countKept rfl rfl rfl (by decide +kernel) ⟨Nat.le_of_ble_eq_true rfl, Nat.le_of_ble_eq_true rfl⟩) (xf_preV (ci := 0) (RX0, TX0, 7) hK hP rfl rfl) rfl rfl hl.1 rfl (lv_room (Nat.le_of_ble_eq_true rfl)) dX0_choose_50 ⟨Nat.zero_le _, Nat.zero_le _⟩) (fun r hr9 => ?_)
        subst hr9
        exact W.iret (v := nI (xf_cnt (fcKp fg fk (upd fc h ((fc h) &&& (xf_not (xf_bit v))))) 40)) hx hb hr (fun t9 ht9 hW9 => ⟨⟨_, (fg, fk, fu, upd fc h ((fc h) &&& (xf_not (xf_bit v))), fb, fn, rc), rfl, by simp [fcChoose, fcCh, c4, eh, c11, ev, c17], xf_hP ht9 hP⟩, hS.F ht9⟩) hS.2.2 dX0_choose_53
      ·
        refine lv_aload_n hx hb dX0_choose_20 rfl (lv_at hl 0 rfl) ?_
        refine va_get (D := (dC, dI)) (ci := 0) (v := .ref a4) (C := RX0) (T := TX0) (N := 7) hx hb hts hin hown hK hP 0 rfl rfl 3 (by decide) hf_chosen (fun _ h9 => h9) rfl dX0_choose_21 ?_
        refine lv_iload_n hx hb dX0_choose_24 rfl (lv_at hl 1 rfl) ?_
        refine lv_dup2_11 hx hb dX0_choose_25 rfl rfl ?_
        refine xf_iald hx hb hK hP 4 0 rfl rfl (j := h) (by omega) (by decide) dX0_choose_26 ?_
        refine lv_iconst (v := nI 1) hx hb dX0_choose_27 (by decide) ?_
        refine lv_iload_n hx hb dX0_choose_28 rfl (lv_at hl 2 rfl) ?_
        refine lv_ishl hx hb dX0_choose_29 ?_
        refine xf_be (y := xf_bit v) (by rfl) ?_
        refine lv_ior hx hb dX0_choose_30 ?_
        refine xf_iast hx hb hK hP hD hS 4 0 rfl rfl (j := h) (by omega) (by decide) dX0_choose_31 (fun H locs hP hD hS => ?_)
        have hP : va_P (dC, dI) fmCl (fw h0 a1 a2 a3 a4 a5 a6 cI fg fk fu (upd fc h ((fc h) ||| (xf_bit v))) fb fn rc) H := hP
        have hD : va_D A (fw h0 a1 a2 a3 a4 a5 a6 cI fg fk fu (upd fc h ((fc h) ||| (xf_bit v))) fb fn rc) := hD
        refine lv_goto (tgt := 49) hx hb dX0_choose_32 (by decide) ?_
        refine lv_aload_n hx hb dX0_choose_49 rfl (lv_at hl 0 rfl) ?_
        refine vp_callSi (W.runV (As := []) (rest := []) ⟨hx, hb, hml, hown, hts⟩ (k_countKept l dC dI h0 a1 a2 a3 a4 a5 a6 cI fg fk fu (upd fc h ((fc h) ||| (xf_bit v))) fb fn rc) (cwV 0 hts gX0_choose_X0_countKept rfl rfl rfl (by decide +kernel) ⟨Nat.le_of_ble_eq_true rfl, Nat.le_of_ble_eq_true rfl⟩) (xf_preV (ci := 0) (RX0, TX0, 7) hK hP rfl rfl) rfl rfl hl.1 rfl (lv_room (Nat.le_of_ble_eq_true rfl)) dX0_choose_50 ⟨Nat.zero_le _, Nat.zero_le _⟩) (fun r hr9 => ?_)
        subst hr9
        exact W.iret (v := nI (xf_cnt (fcKp fg fk (upd fc h ((fc h) ||| (xf_bit v)))) 40)) hx hb hr (fun t9 ht9 hW9 => ⟨⟨_, (fg, fk, fu, upd fc h ((fc h) ||| (xf_bit v)), fb, fn, rc), rfl, by simp [fcChoose, fcCh, c4, eh, c11, ev, c17], xf_hP ht9 hP⟩, hS.F ht9⟩) hS.2.2 dX0_choose_53
    ·
      refine lv_iconst (v := (-1)) hx hb dX0_choose_14 (by decide) ?_
      exact W.iret (v := (-1)) hx hb hr (fun t9 ht9 hW9 => ⟨⟨_, (fg, fk, fu, fc, fb, fn, rc), rfl, by simp [fcChoose, fcCh, c4, eh, c11], xf_hP ht9 hP⟩, hS.F ht9⟩) hS.2.2 dX0_choose_15
set_option maxHeartbeats 4000000 in
set_option maxRecDepth 100000 in
/-- kept() -/
theorem k_kept (l : Launch) (dC : Nat → ClassId) (dI : Nat → Nat → Nat) (h0 a1 a2 a3 a4 a5 a6 : Nat) (cI : ClassId) (fg fk fu fc fb fn : Nat → Int32) (rc : Int32) : Met l yX0_kept wsX0_kept ({ frames := 3, cells := 0, slots := 0, locals := 67 }) (va_Pc [.ref h0] (fun U => va_P (dC, dI) fmCl (fw h0 a1 a2 a3 a4 a5 a6 cI fg fk fu fc fb fn rc) U.heap ∧ va_K (dC, dI) fmCl [(cI, .int)] U)) (vp_Si (fun r => r = nI (xf_cnt (fcKp fg fk fc) 40))) 0 0 (fun _ => False) := by
  refine Met.ofW (cc := cX0_kept) (maxL := 1) (ret := (some .int)) (by decide) rfl ?_
  intro p e s m args below meth c s₁ B hml hv
  obtain ⟨rfl, hP, hK⟩ := hv
  have hx := B.exec
  have hb := B.bytes
  have hr := B.returns
  have hts := atoms_spec (ws := wsX0_kept) B.pre
  have hown : s.vm.findClass RX0 = some m.cls := findClass_of_methodNamed B.named
  have hlocks := B.notSynchronized
  have hl := lv_entry ([.ref h0]) (n := 1) (Nat.le_of_ble_eq_true rfl)
  rw [lg_entry_eq]
  generalize (lg_sl ([.ref h0]) ++ List.replicate (1 - (lg_sl ([.ref h0])).length) Slot.unset).toArray = ls at hl ⊢
  have hl : lv_has ls 1 [(0, .ref h0)] := hl
  refine lv_aload_n hx hb dX0_kept_0 rfl (lv_at hl 0 rfl) ?_
  refine vp_callSi (W.runV (As := []) (rest := []) ⟨hx, hb, hml, hown, hts⟩ (k_countKept l dC dI h0 a1 a2 a3 a4 a5 a6 cI fg fk fu fc fb fn rc) (cwV 0 hts gX0_kept_X0_countKept rfl rfl rfl (by decide +kernel) ⟨Nat.le_of_ble_eq_true rfl, Nat.le_of_ble_eq_true rfl⟩) (xf_preV (ci := 0) (RX0, TX0, 7) hK hP rfl rfl) rfl rfl hl.1 rfl (lv_room (Nat.le_of_ble_eq_true rfl)) dX0_kept_1 ⟨Nat.zero_le _, Nat.zero_le _⟩) (fun r hr9 => ?_)
  subst hr9
  exact W.iret (v := nI (xf_cnt (fcKp fg fk fc) 40)) hx hb hr (fun t9 ht9 hW9 => ⟨_, rfl, rfl, ht9⟩) (fun q h => nomatch h) dX0_kept_4
set_option maxHeartbeats 4000000 in
set_option maxRecDepth 100000 in
/-- isKept(pt) -/
theorem k_isKept (l : Launch) (dC : Nat → ClassId) (dI : Nat → Nat → Nat) (h0 a1 a2 a3 a4 a5 a6 : Nat) (cI : ClassId) (fg fk fu fc fb fn : Nat → Int32) (rc : Int32) (pt : Int32) : Met l yX0_isKept wsX0_isKept ({ frames := 2, cells := 0, slots := 0, locals := 45 }) (va_Pc [.ref h0, .int pt] (fun U => va_P (dC, dI) fmCl (fw h0 a1 a2 a3 a4 a5 a6 cI fg fk fu fc fb fn rc) U.heap ∧ va_K (dC, dI) fmCl [(cI, .int)] U)) (vp_Si (fun r => r = fcIsKept fg fk fc pt)) 0 0 (fun _ => False) := by
  refine Met.ofW (cc := cX0_isKept) (maxL := 2) (ret := (some .int)) (by decide) rfl ?_
  intro p e s m args below meth c s₁ B hml hv
  obtain ⟨rfl, hP, hK⟩ := hv
  have hx := B.exec
  have hb := B.bytes
  have hr := B.returns
  have hts := atoms_spec (ws := wsX0_isKept) B.pre
  have hown : s.vm.findClass RX0 = some m.cls := findClass_of_methodNamed B.named
  have hlocks := B.notSynchronized
  have hl := lv_entry ([.ref h0, .int pt]) (n := 2) (Nat.le_of_ble_eq_true rfl)
  rw [lg_entry_eq]
  generalize (lg_sl ([.ref h0, .int pt]) ++ List.replicate (2 - (lg_sl ([.ref h0, .int pt])).length) Slot.unset).toArray = ls at hl ⊢
  have hl : lv_has ls 2 [(0, .ref h0), (1, .int pt)] := hl
  refine lv_iload_n hx hb dX0_isKept_0 rfl (lv_at hl 1 rfl) ?_
  refine vp_callSi (W.runS (As := [.int pt]) (rest := []) ⟨hx, hb, hml, hown, hts⟩ (k_isThing l pt) (va_cwS 1 hts gX0_isKept_X0_isThing rfl rfl rfl (by decide +kernel) ⟨Nat.le_of_ble_eq_true rfl, Nat.le_of_ble_eq_true rfl⟩) (xf_preS0) rfl rfl hl.1 rfl (lv_room (Nat.le_of_ble_eq_true rfl)) dX0_isKept_1 ⟨Nat.zero_le _, Nat.zero_le _⟩) (fun r hr9 => ?_)
  subst hr9
  refine xf_Bne (tgt := 9) hx hb dX0_isKept_4 (by decide) (fun c4 => ?_) (fun c4 => ?_)
  ·
    obtain ⟨t, ht, rfl⟩ := xf_in_of c4 (by decide)
    have et : (nI t).toNatClampNeg = t := nI_clamp (by omega)
    refine lv_aload_n hx hb dX0_isKept_9 rfl (lv_at hl 0 rfl) ?_
    refine lv_iload_n hx hb dX0_isKept_10 rfl (lv_at hl 1 rfl) ?_
    refine vp_callSi (W.runV (As := [.int (nI t)]) (rest := []) ⟨hx, hb, hml, hown, hts⟩ (k_lackedHeads l dC dI h0 a1 a2 a3 a4 a5 a6 cI fg fk fu fc fb fn rc t (by omega)) (cwV 1 hts gX0_isKept_X0_lackedHeads rfl rfl rfl (by decide +kernel) ⟨Nat.le_of_ble_eq_true rfl, Nat.le_of_ble_eq_true rfl⟩) (xf_preV (ci := 0) (RX0, TX0, 7) hK hP rfl rfl) rfl rfl hl.1 rfl (lv_room (Nat.le_of_ble_eq_true rfl)) dX0_isKept_11 ⟨Nat.zero_le _, Nat.zero_le _⟩) (fun r hr9 => ?_)
    subst hr9
    refine lv_if_ne (tgt := 21) hx hb dX0_isKept_14 (by decide) (fun c14 => ?_) (fun c14 => ?_)
    ·
      refine lv_iconst (v := nI 0) hx hb dX0_isKept_21 (by decide) ?_
      exact W.iret (v := nI 0) hx hb hr (fun t9 ht9 hW9 => ⟨_, rfl, by simp [fcIsKept, xf_B, fcKp, c4, et, c14], ht9⟩) (fun q h => nomatch h) dX0_isKept_22
    ·
      refine lv_iconst (v := nI 1) hx hb dX0_isKept_17 (by decide) ?_
      refine lv_goto (tgt := 22) hx hb dX0_isKept_18 (by decide) ?_
      exact W.iret (v := nI 1) hx hb hr (fun t9 ht9 hW9 => ⟨_, rfl, by simp [fcIsKept, xf_B, fcKp, c4, et, c14], ht9⟩) (fun q h => nomatch h) dX0_isKept_22
  ·
    refine lv_iconst (v := (-1)) hx hb dX0_isKept_7 (by decide) ?_
    exact W.iret (v := (-1)) hx hb hr (fun t9 ht9 hW9 => ⟨_, rfl, by simp [fcIsKept, xf_B, fcKp, c4], ht9⟩) (fun q h => nomatch h) dX0_isKept_8
set_option maxHeartbeats 4000000 in
set_option maxRecDepth 100000 in
/-- facet(ph, pv) -/
theorem k_facet (l : Launch) (dC : Nat → ClassId) (dI : Nat → Nat → Nat) (h0 a1 a2 a3 a4 a5 a6 : Nat) (cI : ClassId) (fg fk fu fc fb fn : Nat → Int32) (rc : Int32) (ph pv : Int32) : Met l yX0_facet wsX0_facet ({ frames := 4, cells := 0, slots := 0, locals := 91 }) (va_Pc [.ref h0, .int ph, .int pv] (fun U => va_P (dC, dI) fmCl (fw h0 a1 a2 a3 a4 a5 a6 cI fg fk fu fc fb fn rc) U.heap ∧ va_K (dC, dI) fmCl [(cI, .int)] U)) (vp_Si (fun r => r = fcFacet fg fk fc ph pv)) 0 0 (fun _ => False) := by
  refine Met.ofW (cc := cX0_facet) (maxL := 3) (ret := (some .int)) (by decide) rfl ?_
  intro p e s m args below meth c s₁ B hml hv
  obtain ⟨rfl, hP, hK⟩ := hv
  have hx := B.exec
  have hb := B.bytes
  have hr := B.returns
  have hts := atoms_spec (ws := wsX0_facet) B.pre
  have hown : s.vm.findClass RX0 = some m.cls := findClass_of_methodNamed B.named
  have hlocks := B.notSynchronized
  have hl := lv_entry ([.ref h0, .int ph, .int pv]) (n := 3) (Nat.le_of_ble_eq_true rfl)
  rw [lg_entry_eq]
  generalize (lg_sl ([.ref h0, .int ph, .int pv]) ++ List.replicate (3 - (lg_sl ([.ref h0, .int ph, .int pv])).length) Slot.unset).toArray = ls at hl ⊢
  have hl : lv_has ls 3 [(0, .ref h0), (1, .int ph), (2, .int pv)] := hl
  refine lv_iload_n hx hb dX0_facet_0 rfl (lv_at hl 1 rfl) ?_
  refine vp_callSi (W.runS (As := [.int ph]) (rest := []) ⟨hx, hb, hml, hown, hts⟩ (k_isHead l ph) (va_cwS 1 hts gX0_facet_X0_isHead rfl rfl rfl (by decide +kernel) ⟨Nat.le_of_ble_eq_true rfl, Nat.le_of_ble_eq_true rfl⟩) (xf_preS0) rfl rfl hl.1 rfl (lv_room (Nat.le_of_ble_eq_true rfl)) dX0_facet_1 ⟨Nat.zero_le _, Nat.zero_le _⟩) (fun r hr9 => ?_)
  subst hr9
  refine xf_Beq (tgt := 14) hx hb dX0_facet_4 (by decide) (fun c4 => ?_) (fun c4 => ?_)
  ·
    refine lv_iconst (v := (-1)) hx hb dX0_facet_14 (by decide) ?_
    exact W.iret (v := (-1)) hx hb hr (fun t9 ht9 hW9 => ⟨_, rfl, by simp [fcFacet, c4], ht9⟩) (fun q h => nomatch h) dX0_facet_15
  ·
    obtain ⟨h, hh, rfl⟩ := xf_in_of c4 (by decide)
    have eh : (nI h).toNatClampNeg = h := nI_clamp (by omega)
    refine lv_iload_n hx hb dX0_facet_7 rfl (lv_at hl 2 rfl) ?_
    refine vp_callSi (W.runS (As := [.int pv]) (rest := []) ⟨hx, hb, hml, hown, hts⟩ (k_isValue l pv) (va_cwS 1 hts gX0_facet_X0_isValue rfl rfl rfl (by decide +kernel) ⟨Nat.le_of_ble_eq_true rfl, Nat.le_of_ble_eq_true rfl⟩) (xf_preS0) rfl rfl hl.1 rfl (lv_room (Nat.le_of_ble_eq_true rfl)) dX0_facet_8 ⟨Nat.zero_le _, Nat.zero_le _⟩) (fun r hr9 => ?_)
    subst hr9
    refine xf_Bne (tgt := 16) hx hb dX0_facet_11 (by decide) (fun c11 => ?_) (fun c11 => ?_)
    ·
      obtain ⟨v, hv, rfl⟩ := xf_in_of c11 (by decide)
      have ev : (nI v).toNatClampNeg = v := nI_clamp (by omega)
      refine lv_aload_n hx hb dX0_facet_16 rfl (lv_at hl 0 rfl) ?_
      refine lv_iload_n hx hb dX0_facet_17 rfl (lv_at hl 1 rfl) ?_
      refine lv_iconst (v := nI 1) hx hb dX0_facet_18 (by decide) ?_
      refine lv_iload_n hx hb dX0_facet_19 rfl (lv_at hl 2 rfl) ?_
      refine lv_ishl hx hb dX0_facet_20 ?_
      refine xf_be (y := xf_bit v) (by rfl) ?_
      refine vp_callSi (W.runV (As := [.int (nI h), .int (xf_bit v)]) (rest := []) ⟨hx, hb, hml, hown, hts⟩ (k_countWithAny l dC dI h0 a1 a2 a3 a4 a5 a6 cI fg fk fu fc fb fn rc h (by omega) (xf_bit v)) (cwV 2 hts gX0_facet_X0_countWithAny rfl rfl rfl (by decide +kernel) ⟨Nat.le_of_ble_eq_true rfl, Nat.le_of_ble_eq_true rfl⟩) (xf_preV (ci := 0) (RX0, TX0, 7) hK hP rfl rfl) rfl rfl hl.1 rfl (lv_room (Nat.le_of_ble_eq_true rfl)) dX0_facet_21 ⟨Nat.zero_le _, Nat.zero_le _⟩) (fun r hr9 => ?_)
      subst hr9
      exact W.iret (v := nI (xf_cnt (fcWA fg fk fc h (xf_bit v)) 40)) hx hb hr (fun t9 ht9 hW9 => ⟨_, rfl, by simp [fcFacet, c4, eh, c11, ev], ht9⟩) (fun q h => nomatch h) dX0_facet_24
    ·
      refine lv_iconst (v := (-1)) hx hb dX0_facet_14 (by decide) ?_
      exact W.iret (v := (-1)) hx hb hr (fun t9 ht9 hW9 => ⟨_, rfl, by simp [fcFacet, c4, eh, c11], ht9⟩) (fun q h => nomatch h) dX0_facet_15
set_option maxHeartbeats 4000000 in
set_option maxRecDepth 100000 in
/-- range(ph, pa, pb) -/
theorem k_range (l : Launch) (dC : Nat → ClassId) (dI : Nat → Nat → Nat) (h0 a1 a2 a3 a4 a5 a6 : Nat) (cI : ClassId) (fg fk fu fc fb fn : Nat → Int32) (rc : Int32) (ph pa pb : Int32) : Met l yX0_range wsX0_range ({ frames := 4, cells := 0, slots := 0, locals := 91 }) (va_Pc [.ref h0, .int ph, .int pa, .int pb] (fun U => va_P (dC, dI) fmCl (fw h0 a1 a2 a3 a4 a5 a6 cI fg fk fu fc fb fn rc) U.heap ∧ va_K (dC, dI) fmCl [(cI, .int)] U)) (vp_Si (fun r => r = fcRange fg fk fc ph pa pb)) 0 0 (fun _ => False) := by
  refine Met.ofW (cc := cX0_range) (maxL := 4) (ret := (some .int)) (by decide) rfl ?_
  intro p e s m args below meth c s₁ B hml hv
  obtain ⟨rfl, hP, hK⟩ := hv
  have hx := B.exec
  have hb := B.bytes
  have hr := B.returns
  have hts := atoms_spec (ws := wsX0_range) B.pre
  have hown : s.vm.findClass RX0 = some m.cls := findClass_of_methodNamed B.named
  have hlocks := B.notSynchronized
  have hl := lv_entry ([.ref h0, .int ph, .int pa, .int pb]) (n := 4) (Nat.le_of_ble_eq_true rfl)
  rw [lg_entry_eq]
  generalize (lg_sl ([.ref h0, .int ph, .int pa, .int pb]) ++ List.replicate (4 - (lg_sl ([.ref h0, .int ph, .int pa, .int pb])).length) Slot.unset).toArray = ls at hl ⊢
  have hl : lv_has ls 4 [(0, .ref h0), (1, .int ph), (2, .int pa), (3, .int pb)] := hl
  refine lv_iload_n hx hb dX0_range_0 rfl (lv_at hl 1 rfl) ?_
  refine vp_callSi (W.runS (As := [.int ph]) (rest := []) ⟨hx, hb, hml, hown, hts⟩ (k_isHead l ph) (va_cwS 1 hts gX0_range_X0_isHead rfl rfl rfl (by decide +kernel) ⟨Nat.le_of_ble_eq_true rfl, Nat.le_of_ble_eq_true rfl⟩) (xf_preS0) rfl rfl hl.1 rfl (lv_room (Nat.le_of_ble_eq_true rfl)) dX0_range_1 ⟨Nat.zero_le _, Nat.zero_le _⟩) (fun r hr9 => ?_)
  subst hr9
  refine xf_Bne (tgt := 9) hx hb dX0_range_4 (by decide) (fun c4 => ?_) (fun c4 => ?_)
  ·
    obtain ⟨h, hh, rfl⟩ := xf_in_of c4 (by decide)
    have eh : (nI h).toNatClampNeg = h := nI_clamp (by omega)
    refine lv_aload_n hx hb dX0_range_9 rfl (lv_at hl 0 rfl) ?_
    refine lv_iload_n hx hb dX0_range_10 rfl (lv_at hl 1 rfl) ?_
    refine lv_iload_n hx hb dX0_range_11 rfl (lv_at hl 2 rfl) ?_
    refine lv_iload_n hx hb dX0_range_12 rfl (lv_at hl 3 rfl) ?_
    refine vp_callSi (W.runS (As := [.int pa, .int pb]) (rest := [.int (nI h), .ref h0]) ⟨hx, hb, hml, hown, hts⟩ (k_span l pa pb) (va_cwS 2 hts gX0_range_X0_span rfl rfl rfl (by decide +kernel) ⟨Nat.le_of_ble_eq_true rfl, Nat.le_of_ble_eq_true rfl⟩) (xf_preS0) rfl rfl hl.1 rfl (lv_room (Nat.le_of_ble_eq_true rfl)) dX0_range_13 ⟨Nat.zero_le _, Nat.zero_le _⟩) (fun r hr9 => ?_)
    subst hr9
    refine vp_callSi (W.runV (As := [.int (nI h), .int (xf_mk (fcSpP pa pb) 32)]) (rest := []) ⟨hx, hb, hml, hown, hts⟩ (k_countWithAny l dC dI h0 a1 a2 a3 a4 a5 a6 cI fg fk fu fc fb fn rc h (by omega) (xf_mk (fcSpP pa pb) 32)) (cwV 2 hts gX0_range_X0_countWithAny rfl rfl rfl (by decide +kernel) ⟨Nat.le_of_ble_eq_true rfl, Nat.le_of_ble_eq_true rfl⟩) (xf_preV (ci := 0) (RX0, TX0, 7) hK hP rfl rfl) rfl rfl hl.1 rfl (lv_room (Nat.le_of_ble_eq_true rfl)) dX0_range_16 ⟨Nat.zero_le _, Nat.zero_le _⟩) (fun r hr9 => ?_)
    subst hr9
    exact W.iret (v := nI (xf_cnt (fcWA fg fk fc h (xf_mk (fcSpP pa pb) 32)) 40)) hx hb hr (fun t9 ht9 hW9 => ⟨_, rfl, by simp [fcRange, c4, eh], ht9⟩) (fun q h => nomatch h) dX0_range_19
  ·
    refine lv_iconst (v := (-1)) hx hb dX0_range_7 (by decide) ?_
    exact W.iret (v := (-1)) hx hb hr (fun t9 ht9 hW9 => ⟨_, rfl, by simp [fcRange, c4], ht9⟩) (fun q h => nomatch h) dX0_range_8
set_option maxHeartbeats 4000000 in
set_option maxRecDepth 100000 in
/-- sum(ph, pv, po) -/
theorem k_sum (l : Launch) (dC : Nat → ClassId) (dI : Nat → Nat → Nat) (h0 a1 a2 a3 a4 a5 a6 : Nat) (cI : ClassId) (fg fk fu fc fb fn : Nat → Int32) (rc : Int32) (ph pv po : Int32) : Met l yX0_sum wsX0_sum ({ frames := 2, cells := 0, slots := 0, locals := 45 }) (va_Pc [.ref h0, .int ph, .int pv, .int po] (fun U => va_P (dC, dI) fmCl (fw h0 a1 a2 a3 a4 a5 a6 cI fg fk fu fc fb fn rc) U.heap ∧ va_K (dC, dI) fmCl [(cI, .int)] U)) (vp_Si (fun r => r = fcSum fg fk fc ph pv po)) 0 0 (fun _ => False) := by
  refine Met.ofW (cc := cX0_sum) (maxL := 6) (ret := (some .int)) (by decide) rfl ?_
  intro p e s m args below meth c s₁ B hml hv
  obtain ⟨rfl, hP, hK⟩ := hv
  have hx := B.exec
  have hb := B.bytes
  have hr := B.returns
  have hts := atoms_spec (ws := wsX0_sum) B.pre
  have hown : s.vm.findClass RX0 = some m.cls := findClass_of_methodNamed B.named
  have hlocks := B.notSynchronized
  have hl := lv_entry ([.ref h0, .int ph, .int pv, .int po]) (n := 6) (Nat.le_of_ble_eq_true rfl)
  rw [lg_entry_eq]
  generalize (lg_sl ([.ref h0, .int ph, .int pv, .int po]) ++ List.replicate (6 - (lg_sl ([.ref h0, .int ph, .int pv, .int po])).length) Slot.unset).toArray = ls at hl ⊢
  have hl : lv_has ls 6 [(0, .ref h0), (1, .int ph), (2, .int pv), (3, .int po)] := hl
  refine lv_iload_n hx hb dX0_sum_0 rfl (lv_at hl 1 rfl) ?_
  refine vp_callSi (W.runS (As := [.int ph]) (rest := []) ⟨hx, hb, hml, hown, hts⟩ (k_isHead l ph) (va_cwS 1 hts gX0_sum_X0_isHead rfl rfl rfl (by decide +kernel) ⟨Nat.le_of_ble_eq_true rfl, Nat.le_of_ble_eq_true rfl⟩) (xf_preS0) rfl rfl hl.1 rfl (lv_room (Nat.le_of_ble_eq_true rfl)) dX0_sum_1 ⟨Nat.zero_le _, Nat.zero_le _⟩) (fun r hr9 => ?_)
  subst hr9
  refine xf_Beq (tgt := 21) hx hb dX0_sum_4 (by decide) (fun c4 => ?_) (fun c4 => ?_)
  ·
    refine lv_iconst (v := (-1)) hx hb dX0_sum_21 (by decide) ?_
    exact W.iret (v := (-1)) hx hb hr (fun t9 ht9 hW9 => ⟨_, rfl, by simp [fcSum, c4], ht9⟩) (fun q h => nomatch h) dX0_sum_22
  ·
    obtain ⟨h, hh, rfl⟩ := xf_in_of c4 (by decide)
    have eh : (nI h).toNatClampNeg = h := nI_clamp (by omega)
    refine lv_iload_n hx hb dX0_sum_7 rfl (lv_at hl 2 rfl) ?_
    refine vp_callSi (W.runS (As := [.int pv]) (rest := []) ⟨hx, hb, hml, hown, hts⟩ (k_isValue l pv) (va_cwS 1 hts gX0_sum_X0_isValue rfl rfl rfl (by decide +kernel) ⟨Nat.le_of_ble_eq_true rfl, Nat.le_of_ble_eq_true rfl⟩) (xf_preS0) rfl rfl hl.1 rfl (lv_room (Nat.le_of_ble_eq_true rfl)) dX0_sum_8 ⟨Nat.zero_le _, Nat.zero_le _⟩) (fun r hr9 => ?_)
    subst hr9
    refine xf_Beq (tgt := 21) hx hb dX0_sum_11 (by decide) (fun c11 => ?_) (fun c11 => ?_)
    ·
      refine lv_iconst (v := (-1)) hx hb dX0_sum_21 (by decide) ?_
      exact W.iret (v := (-1)) hx hb hr (fun t9 ht9 hW9 => ⟨_, rfl, by simp [fcSum, c4, eh, c11], ht9⟩) (fun q h => nomatch h) dX0_sum_22
    ·
      obtain ⟨v, hv, rfl⟩ := xf_in_of c11 (by decide)
      have ev : (nI v).toNatClampNeg = v := nI_clamp (by omega)
      refine lv_iload_n hx hb dX0_sum_14 rfl (lv_at hl 3 rfl) ?_
      refine vp_callSi (W.runS (As := [.int po]) (rest := []) ⟨hx, hb, hml, hown, hts⟩ (k_isHead l po) (va_cwS 1 hts gX0_sum_X0_isHead rfl rfl rfl (by decide +kernel) ⟨Nat.le_of_ble_eq_true rfl, Nat.le_of_ble_eq_true rfl⟩) (xf_preS0) rfl rfl hl.1 rfl (lv_room (Nat.le_of_ble_eq_true rfl)) dX0_sum_15 ⟨Nat.zero_le _, Nat.zero_le _⟩) (fun r hr9 => ?_)
      subst hr9
      refine xf_Bne (tgt := 23) hx hb dX0_sum_18 (by decide) (fun c18 => ?_) (fun c18 => ?_)
      ·
        obtain ⟨o, ho, rfl⟩ := xf_in_of c18 (by decide)
        have eo : (nI o).toNatClampNeg = o := nI_clamp (by omega)
        refine lv_iconst (v := nI 0) hx hb dX0_sum_23 (by decide) ?_
        refine lv_istore (lv' := [(4, .int (nI 0)), (0, .ref h0), (1, .int (nI h)), (2, .int (nI v)), (3, .int (nI o))]) hx hb dX0_sum_24 hl (by decide) rfl (fun ls hl => ?_)
        refine lv_iconst (v := nI 0) hx hb dX0_sum_26 (by decide) ?_
        refine lv_istore (lv' := [(5, .int (nI 0)), (4, .int (nI 0)), (0, .ref h0), (1, .int (nI h)), (2, .int (nI v)), (3, .int (nI o))]) hx hb dX0_sum_27 hl (by decide) rfl (fun ls hl => ?_)
        refine xf_loopS (σ := Nat) (fun (z9 : Nat) => 40 - z9) (fun (z9 : Nat) => [(0, .ref h0), (1, .int (nI h)), (2, .int (nI v)), (3, .int (nI o)), (4, .int (nI (fcSm fg fk fc h v o z9))), (5, .int (nI z9))]) (fun (z9 : Nat) => z9 ≤ 40) 0 (lv_sub hl [2, 3, 4, 5, 1, 0] rfl) (Nat.zero_le _) (fun z9 ls hi hl ih29 => ?_)
        obtain ⟨t, hxe⟩ : ∃ z, z = z9 := ⟨_, rfl⟩
        subst hxe
        have hl : lv_has ls 6 [(0, .ref h0), (1, .int (nI h)), (2, .int (nI v)), (3, .int (nI o)), (4, .int (nI (fcSm fg fk fc h v o t))), (5, .int (nI t))] := hl
        have hi : t ≤ 40 := hi
        refine lv_iload hx hb dX0_sum_29 (lv_at hl 5 rfl) ?_
        refine lv_bipush (v := nI 40) hx hb dX0_sum_31 (by decide) ?_
        refine xf_ge (tgt := 80) hx hb dX0_sum_33 (by decide) (by omega) (by omega) (fun c33 => ?_) (fun c33 => ?_)
        ·
          obtain rfl : t = 40 := by omega
          refine lv_iload hx hb dX0_sum_80 (lv_at hl 4 rfl) ?_
          exact W.iret (v := nI (fcSm fg fk fc h v o 40)) hx hb hr (fun t9 ht9 hW9 => ⟨_, rfl, by simp [fcSum, c4, eh, c11, ev, c18, eo], ht9⟩) (fun q h => nomatch h) dX0_sum_82
        ·
          refine lv_aload_n hx hb dX0_sum_36 rfl (lv_at hl 0 rfl) ?_
          refine lv_iload hx hb dX0_sum_37 (lv_at hl 5 rfl) ?_
          refine lv_iload_n hx hb dX0_sum_39 rfl (lv_at hl 1 rfl) ?_
          refine vp_callSi (W.runV (As := [.int (nI t), .int (nI h)]) (rest := []) ⟨hx, hb, hml, hown, hts⟩ (k_valuesOf l dC dI h0 a1 a2 a3 a4 a5 a6 cI fg fk fu fc fb fn rc t h (by omega) (by omega)) (cwV 2 hts gX0_sum_X0_valuesOf rfl rfl rfl (by decide +kernel) ⟨Nat.le_of_ble_eq_true rfl, Nat.le_of_ble_eq_true rfl⟩) (xf_preV (ci := 0) (RX0, TX0, 7) hK hP rfl rfl) rfl rfl hl.1 rfl (lv_room (Nat.le_of_ble_eq_true rfl)) dX0_sum_40 ⟨Nat.zero_le _, Nat.zero_le _⟩) (fun r hr9 => ?_)
          subst hr9
          refine lv_iload_n hx hb dX0_sum_43 rfl (lv_at hl 2 rfl) ?_
          refine vp_callSi (W.runS (As := [.int (fcV fg fk t h), .int (nI v)]) (rest := []) ⟨hx, hb, hml, hown, hts⟩ (k_holds l (fcV fg fk t h) v (by omega)) (va_cwS 2 hts gX0_sum_X0_holds rfl rfl rfl (by decide +kernel) ⟨Nat.le_of_ble_eq_true rfl, Nat.le_of_ble_eq_true rfl⟩) (xf_preS0) rfl rfl hl.1 rfl (lv_room (Nat.le_of_ble_eq_true rfl)) dX0_sum_44 ⟨Nat.zero_le _, Nat.zero_le _⟩) (fun r hr9 => ?_)
          subst hr9
          refine xf_Beq (tgt := 74) hx hb dX0_sum_47 (by decide) (fun c47 => ?_) (fun c47 => ?_)
          ·
            refine lv_iinc (v := nI (t + 1)) (lv' := [(5, .int (nI (t + 1))), (0, .ref h0), (1, .int (nI h)), (2, .int (nI v)), (3, .int (nI o)), (4, .int (nI (fcSm fg fk fc h v o t)))]) hx hb dX0_sum_74 hl (k := 5) rfl (by exact nI_1 t) (by decide) rfl (fun ls hl => ?_)
            refine lv_goto (tgt := 29) hx hb dX0_sum_77 (by decide) ?_
            have hl := lv_sub (l' := [(0, .ref h0), (1, .int (nI h)), (2, .int (nI v)), (3, .int (nI o)), (4, .int (nI (fcSm fg fk fc h v o t))), (5, .int (nI (t + 1)))]) hl [1, 2, 3, 4, 5, 0] rfl
            have hl : lv_has ls 6 [(0, .ref h0), (1, .int (nI h)), (2, .int (nI v)), (3, .int (nI o)), (4, .int (nI (fcSm fg fk fc h v o (t + 1)))), (5, .int (nI (t + 1)))] := xf_lv hl (by simp [fcSm, fcKp, c33, c47])
            exact ih29 (t + 1) ls (by show 40 - (t + 1) < 40 - t; omega) (by show (t + 1) ≤ 40; omega) hl
          ·
            refine lv_aload_n hx hb dX0_sum_50 rfl (lv_at hl 0 rfl) ?_
            refine lv_iload hx hb dX0_sum_51 (lv_at hl 5 rfl) ?_
            refine vp_callSi (W.runV (As := [.int (nI t)]) (rest := []) ⟨hx, hb, hml, hown, hts⟩ (k_lackedHeads l dC dI h0 a1 a2 a3 a4 a5 a6 cI fg fk fu fc fb fn rc t (by omega)) (cwV 1 hts gX0_sum_X0_lackedHeads rfl rfl rfl (by decide +kernel) ⟨Nat.le_of_ble_eq_true rfl, Nat.le_of_ble_eq_true rfl⟩) (xf_preV (ci := 0) (RX0, TX0, 7) hK hP rfl rfl) rfl rfl hl.1 rfl (lv_room (Nat.le_of_ble_eq_true rfl)) dX0_sum_53 ⟨Nat.zero_le _, Nat.zero_le _⟩) (fun r hr9 => ?_)
            subst hr9
            refine lv_if_ne (tgt := 74) hx hb dX0_sum_56 (by decide) (fun c56 => ?_) (fun c56 => ?_)
            ·
              refine lv_iinc (v := nI (t + 1)) (lv' := [(5, .int (nI (t + 1))), (0, .ref h0), (1, .int (nI h)), (2, .int (nI v)), (3, .int (nI o)), (4, .int (nI (fcSm fg fk fc h v o t)))]) hx hb dX0_sum_74 hl (k := 5) rfl (by exact nI_1 t) (by decide) rfl (fun ls hl => ?_)
              refine lv_goto (tgt := 29) hx hb dX0_sum_77 (by decide) ?_
              have hl := lv_sub (l' := [(0, .ref h0), (1, .int (nI h)), (2, .int (nI v)), (3, .int (nI o)), (4, .int (nI (fcSm fg fk fc h v o t))), (5, .int (nI (t + 1)))]) hl [1, 2, 3, 4, 5, 0] rfl
              have hl : lv_has ls 6 [(0, .ref h0), (1, .int (nI h)), (2, .int (nI v)), (3, .int (nI o)), (4, .int (nI (fcSm fg fk fc h v o (t + 1)))), (5, .int (nI (t + 1)))] := xf_lv hl (by simp [fcSm, fcKp, c33, c47, c56])
              exact ih29 (t + 1) ls (by show 40 - (t + 1) < 40 - t; omega) (by show (t + 1) ≤ 40; omega) hl
            ·
              refine lv_iload hx hb dX0_sum_59 (lv_at hl 4 rfl) ?_
              refine lv_aload_n hx hb dX0_sum_61 rfl (lv_at hl 0 rfl) ?_
              refine lv_iload hx hb dX0_sum_62 (lv_at hl 5 rfl) ?_
              refine lv_iload_n hx hb dX0_sum_64 rfl (lv_at hl 3 rfl) ?_
              refine vp_callSi (W.runV (As := [.int (nI t), .int (nI o)]) (rest := [.int (nI (fcSm fg fk fc h v o t))]) ⟨hx, hb, hml, hown, hts⟩ (k_valuesOf l dC dI h0 a1 a2 a3 a4 a5 a6 cI fg fk fu fc fb fn rc t o (by omega) (by omega)) (cwV 2 hts gX0_sum_X0_valuesOf rfl rfl rfl (by decide +kernel) ⟨Nat.le_of_ble_eq_true rfl, Nat.le_of_ble_eq_true rfl⟩) (xf_preV (ci := 0) (RX0, TX0, 7) hK hP rfl rfl) rfl rfl hl.1 rfl (lv_room (Nat.le_of_ble_eq_true rfl)) dX0_sum_65 ⟨Nat.zero_le _, Nat.zero_le _⟩) (fun r hr9 => ?_)
              subst hr9
              refine vp_callSi (W.runS (As := [.int (fcV fg fk t o)]) (rest := [.int (nI (fcSm fg fk fc h v o t))]) ⟨hx, hb, hml, hown, hts⟩ (k_sumOf l (fcV fg fk t o)) (va_cwS 1 hts gX0_sum_X0_sumOf rfl rfl rfl (by decide +kernel) ⟨Nat.le_of_ble_eq_true rfl, Nat.le_of_ble_eq_true rfl⟩) (xf_preS0) rfl rfl hl.1 rfl (lv_room (Nat.le_of_ble_eq_true rfl)) dX0_sum_68 ⟨Nat.zero_le _, Nat.zero_le _⟩) (fun r hr9 => ?_)
              subst hr9
              refine lv_iadd hx hb dX0_sum_71 ?_
              refine xf_be (y := nI (fcSm fg fk fc h v o t + fcSO (fcV fg fk t o) 32)) (by exact nI_add _ _) ?_
              refine lv_istore (lv' := [(4, .int (nI (fcSm fg fk fc h v o t + fcSO (fcV fg fk t o) 32))), (0, .ref h0), (1, .int (nI h)), (2, .int (nI v)), (3, .int (nI o)), (5, .int (nI t))]) hx hb dX0_sum_72 hl (by decide) rfl (fun ls hl => ?_)
              refine lv_iinc (v := nI (t + 1)) (lv' := [(5, .int (nI (t + 1))), (4, .int (nI (fcSm fg fk fc h v o t + fcSO (fcV fg fk t o) 32))), (0, .ref h0), (1, .int (nI h)), (2, .int (nI v)), (3, .int (nI o))]) hx hb dX0_sum_74 hl (k := 5) rfl (by exact nI_1 t) (by decide) rfl (fun ls hl => ?_)
              refine lv_goto (tgt := 29) hx hb dX0_sum_77 (by decide) ?_
              have hl := lv_sub (l' := [(0, .ref h0), (1, .int (nI h)), (2, .int (nI v)), (3, .int (nI o)), (4, .int (nI (fcSm fg fk fc h v o t + fcSO (fcV fg fk t o) 32))), (5, .int (nI (t + 1)))]) hl [2, 3, 4, 5, 1, 0] rfl
              have hl : lv_has ls 6 [(0, .ref h0), (1, .int (nI h)), (2, .int (nI v)), (3, .int (nI o)), (4, .int (nI (fcSm fg fk fc h v o (t + 1)))), (5, .int (nI (t + 1)))] := xf_lv hl (by simp [fcSm, fcKp, c33, c47, c56])
              exact ih29 (t + 1) ls (by show 40 - (t + 1) < 40 - t; omega) (by show (t + 1) ≤ 40; omega) hl
      ·
        refine lv_iconst (v := (-1)) hx hb dX0_sum_21 (by decide) ?_
        exact W.iret (v := (-1)) hx hb hr (fun t9 ht9 hW9 => ⟨_, rfl, by simp [fcSum, c4, eh, c11, ev, c18], ht9⟩) (fun q h => nomatch h) dX0_sum_22
set_option maxHeartbeats 4000000 in
set_option maxRecDepth 100000 in
/-- rows() -/
theorem k_rows (l : Launch) (dC : Nat → ClassId) (dI : Nat → Nat → Nat) (h0 a1 a2 a3 a4 a5 a6 : Nat) (cI : ClassId) (fg fk fu fc fb fn : Nat → Int32) (rc : Int32) : Met l yX0_rows wsX0_rows ({ frames := 0, cells := 0, slots := 0, locals := 0 }) (va_Pc [.ref h0] (fun U => va_P (dC, dI) fmCl (fw h0 a1 a2 a3 a4 a5 a6 cI fg fk fu fc fb fn rc) U.heap ∧ va_K (dC, dI) fmCl [(cI, .int)] U)) (vp_Si (fun r => r = rc)) 0 0 (fun _ => False) := by
  refine Met.ofW (cc := cX0_rows) (maxL := 1) (ret := (some .int)) (by decide) rfl ?_
  intro p e s m args below meth c s₁ B hml hv
  obtain ⟨rfl, hP, hK⟩ := hv
  have hx := B.exec
  have hb := B.bytes
  have hr := B.returns
  have hts := atoms_spec (ws := wsX0_rows) B.pre
  have hown : s.vm.findClass RX0 = some m.cls := findClass_of_methodNamed B.named
  have hlocks := B.notSynchronized
  have hin : ∀ w ∈ u_ws RX0 TX0 7, w ∈ wsX0_rows := by decide +kernel
  have hf_rowCount := hts (.fieldLink RX0 28 "FacetCounts" "rowCount" "I") (by decide +kernel)
  have hl := lv_entry ([.ref h0]) (n := 1) (Nat.le_of_ble_eq_true rfl)
  rw [lg_entry_eq]
  generalize (lg_sl ([.ref h0]) ++ List.replicate (1 - (lg_sl ([.ref h0])).length) Slot.unset).toArray = ls at hl ⊢
  have hl : lv_has ls 1 [(0, .ref h0)] := hl
  refine lv_aload_n hx hb dX0_rows_0 rfl (lv_at hl 0 rfl) ?_
  refine va_get (D := (dC, dI)) (ci := 0) (v := .int rc) (C := RX0) (T := TX0) (N := 7) hx hb hts hin hown hK hP 0 rfl rfl 6 (by decide) hf_rowCount (fun _ h9 => h9) rfl dX0_rows_1 ?_
  exact W.iret (v := rc) hx hb hr (fun t9 ht9 hW9 => ⟨_, rfl, rfl, ht9⟩) (fun q h => nomatch h) dX0_rows_4
set_option maxHeartbeats 4000000 in
set_option maxRecDepth 100000 in
/-- top(ph, pr) -/
theorem k_top (l : Launch) (dC : Nat → ClassId) (dI : Nat → Nat → Nat) (h0 a1 a2 a3 a4 a5 a6 : Nat) (cI : ClassId) (fg fk fu fc fb fn : Nat → Int32) (rc : Int32) (ph pr : Int32) : Met l yX0_top wsX0_top ({ frames := 3, cells := 0, slots := 0, locals := 68 }) (va_Pc [.ref h0, .int ph, .int pr] (fun U => va_P (dC, dI) fmCl (fw h0 a1 a2 a3 a4 a5 a6 cI fg fk fu fc fb fn rc) U.heap ∧ va_K (dC, dI) fmCl [(cI, .int)] U ∧ va_D (fun _ => True) (fw h0 a1 a2 a3 a4 a5 a6 cI fg fk fu fc fb fn rc))) (va_Qi (fun (r : Int32) (u : FcS) => (r, u) = fcTop fg fk fu fc fb fn rc ph pr) (fun u t => va_P (dC, dI) fmCl (fw h0 a1 a2 a3 a4 a5 a6 cI u.1 u.2.1 u.2.2.1 u.2.2.2.1 u.2.2.2.2.1 u.2.2.2.2.2.1 u.2.2.2.2.2.2) t.heap) (xf_A (fw h0 a1 a2 a3 a4 a5 a6 cI fg fk fu fc fb fn rc))) 0 0 (xf_A (fw h0 a1 a2 a3 a4 a5 a6 cI fg fk fu fc fb fn rc)) := by
  refine Met.ofW (cc := cX0_top) (maxL := 4) (ret := (some .int)) (by decide) rfl ?_
  intro p e s m args below meth c s₁ B hml hv
  obtain ⟨rfl, hP, hK, hD0⟩ := hv
  have hx := B.exec
  have hb := B.bytes
  have hr := B.returns
  have hts := atoms_spec (ws := wsX0_top) B.pre
  have hown : s.vm.findClass RX0 = some m.cls := findClass_of_methodNamed B.named
  have hlocks := B.notSynchronized
  have hin : ∀ w ∈ u_ws RX0 TX0 7, w ∈ wsX0_top := by decide +kernel
  have hf_counts := hts (.fieldLink RX0 25 "FacetCounts" "counts" "[I") (by decide +kernel)
  have hD := xf_A_self hD0
  generalize hAe : xf_A (fw h0 a1 a2 a3 a4 a5 a6 cI fg fk fu fc fb fn rc) = A at hD ⊢
  have hS : va_S A s.heap s.heap [] := va_S.rf
  have hP : va_P (dC, dI) fmCl (fw h0 a1 a2 a3 a4 a5 a6 cI fg fk fu fc fb fn rc) s.heap := hP
  have hl := lv_entry ([.ref h0, .int ph, .int pr]) (n := 4) (Nat.le_of_ble_eq_true rfl)
  rw [lg_entry_eq]
  generalize (lg_sl ([.ref h0, .int ph, .int pr]) ++ List.replicate (4 - (lg_sl ([.ref h0, .int ph, .int pr])).length) Slot.unset).toArray = ls at hl ⊢
  have hl : lv_has ls 4 [(0, .ref h0), (1, .int ph), (2, .int pr)] := hl
  refine lv_iload_n hx hb dX0_top_0 rfl (lv_at hl 1 rfl) ?_
  refine vp_callSi (W.runS (As := [.int ph]) (rest := []) ⟨hx, hb, hml, hown, hts⟩ (k_isHead l ph) (va_cwS 1 hts gX0_top_X0_isHead rfl rfl rfl (by decide +kernel) ⟨Nat.le_of_ble_eq_true rfl, Nat.le_of_ble_eq_true rfl⟩) (xf_preS0) rfl rfl hl.1 rfl (lv_room (Nat.le_of_ble_eq_true rfl)) dX0_top_1 ⟨Nat.zero_le _, Nat.zero_le _⟩) (fun r hr9 => ?_)
  subst hr9
  refine xf_Beq (tgt := 17) hx hb dX0_top_4 (by decide) (fun c4 => ?_) (fun c4 => ?_)
  ·
    refine lv_iconst (v := (-1)) hx hb dX0_top_17 (by decide) ?_
    exact W.iret (v := (-1)) hx hb hr (fun t9 ht9 hW9 => ⟨⟨_, (fg, fk, fu, fc, fb, fn, rc), rfl, by simp [fcTop, c4], xf_hP ht9 hP⟩, hS.F ht9⟩) hS.2.2 dX0_top_18
  ·
    obtain ⟨h, hh, rfl⟩ := xf_in_of c4 (by decide)
    have eh : (nI h).toNatClampNeg = h := nI_clamp (by omega)
    refine lv_iload_n hx hb dX0_top_7 rfl (lv_at hl 2 rfl) ?_
    refine lv_if_lt (tgt := 17) hx hb dX0_top_8 (by decide) (fun c8 => ?_) (fun c8 => ?_)
    ·
      refine lv_iconst (v := (-1)) hx hb dX0_top_17 (by decide) ?_
      exact W.iret (v := (-1)) hx hb hr (fun t9 ht9 hW9 => ⟨⟨_, (fg, fk, fu, fc, fb, fn, rc), rfl, by rw [fcTop, if_neg (by rw [xf_in_split pr (by decide), decide_eq_true c8]; simp)], xf_hP ht9 hP⟩, hS.F ht9⟩) hS.2.2 dX0_top_18
    ·
      refine lv_iload_n hx hb dX0_top_11 rfl (lv_at hl 2 rfl) ?_
      refine lv_bipush (v := nI 32) hx hb dX0_top_12 (by decide) ?_
      refine lv_icmp_lt (tgt := 19) hx hb dX0_top_14 (by decide) (fun c14 => ?_) (fun c14 => ?_)
      ·
        have ein : (xf_in (nI h) 8 && xf_in pr 32) = true := by rw [c4, xf_in_split pr (by decide), decide_eq_false c8, decide_eq_true c14]; rfl
        refine lv_aload_n hx hb dX0_top_19 rfl (lv_at hl 0 rfl) ?_
        have hFc := xf_A_le hD
        refine va_callv (va_runV (As := []) (rest := []) ⟨hx, hb, hml, hown, hts⟩ (k_countAll l dC dI h0 a1 a2 a3 a4 a5 a6 cI fg fk fu fc fb fn rc) (cwV 0 hts gX0_top_X0_countAll rfl rfl rfl (by decide +kernel) ⟨Nat.le_of_ble_eq_true rfl, Nat.le_of_ble_eq_true rfl⟩) (xf_preW (ci := 0) (RX0, TX0, 7) hK hP hD rfl rfl) rfl rfl hl.1 rfl (lv_room (Nat.le_of_ble_eq_true rfl)) dX0_top_20 ⟨Nat.zero_le _, Nat.zero_le _⟩) hS (fun q _ h => hFc q h) hFc (fun u9 t9 H locs ht9 hvm9 hw9 hB9 hz9 hk9 hS => ?_)
        subst hw9
        have hB9 := xf_hB ht9 hB9
        have hP : va_P (dC, dI) fmCl (fw h0 a1 a2 a3 a4 a5 a6 cI fg fk fu fc fb (fcAll fg fk fc fn) rc) H := hB9
        have hD : va_D A (fw h0 a1 a2 a3 a4 a5 a6 cI fg fk fu fc fb (fcAll fg fk fc fn) rc) := xf_wD hD rfl
        refine lv_iconst (v := nI 0) hx hb dX0_top_23 (by decide) ?_
        refine lv_istore_n (lv' := [(3, .int (nI 0)), (0, .ref h0), (1, .int (nI h)), (2, .int pr)]) hx hb dX0_top_24 rfl hl (by decide) rfl (fun ls hl => ?_)
        refine xf_loopS (σ := Nat) (fun (z9 : Nat) => 32 - z9) (fun (z9 : Nat) => [(0, .ref h0), (1, .int (nI h)), (2, .int pr), (3, .int (nI z9))]) (fun (z9 : Nat) => z9 ≤ 32 ∧ xf_find (fcTP (fcAll fg fk fc fn) h pr) 32 0 = xf_find (fcTP (fcAll fg fk fc fn) h pr) (32 - z9) z9) 0 (lv_sub hl [1, 2, 3, 0] rfl) ⟨Nat.zero_le _, rfl⟩ (fun z9 ls hi hl ih25 => ?_)
        obtain ⟨v, hxe⟩ : ∃ z, z = z9 := ⟨_, rfl⟩
        subst hxe
        have hl : lv_has ls 4 [(0, .ref h0), (1, .int (nI h)), (2, .int pr), (3, .int (nI v))] := hl
        obtain ⟨hi, hR⟩ := hi
        have hi : v ≤ 32 := hi
        have hR : xf_find (fcTP (fcAll fg fk fc fn) h pr) 32 0 = xf_find (fcTP (fcAll fg fk fc fn) h pr) (32 - v) v := hR
        refine lv_iload_n hx hb dX0_top_25 rfl (lv_at hl 3 rfl) ?_
        refine lv_bipush (v := nI 32) hx hb dX0_top_26 (by decide) ?_
        refine xf_ge (tgt := 63) hx hb dX0_top_28 (by decide) (by omega) (by omega) (fun c28 => ?_) (fun c28 => ?_)
        ·
          refine lv_iconst (v := (-1)) hx hb dX0_top_63 (by decide) ?_
          exact W.iret (v := (-1)) hx hb hr (fun t9 ht9 hW9 => ⟨⟨_, (fg, fk, fu, fc, fb, fcAll fg fk fc fn, rc), rfl, by rw [fcTop, if_pos ein, eh, show xf_find (fcTP (fcAll fg fk fc fn) h pr) 32 0 = -1 from by rw [hR, show v = 32 by omega]; rfl], xf_hP ht9 hP⟩, hS.F ht9⟩) hS.2.2 dX0_top_64
        ·
          refine lv_aload_n hx hb dX0_top_31 rfl (lv_at hl 0 rfl) ?_
          refine va_get (D := (dC, dI)) (ci := 0) (v := .ref a6) (C := RX0) (T := TX0) (N := 7) hx hb hts hin hown hK hP 0 rfl rfl 5 (by decide) hf_counts (fun _ h9 => h9) rfl dX0_top_32 ?_
          refine lv_iload_n hx hb dX0_top_35 rfl (lv_at hl 1 rfl) ?_
          refine lv_bipush (v := nI 32) hx hb dX0_top_36 (by decide) ?_
          refine lv_imul hx hb dX0_top_38 ?_
          refine xf_be (y := nI (h * 32)) (by exact pk_mul _ _) ?_
          refine lv_iload_n hx hb dX0_top_39 rfl (lv_at hl 3 rfl) ?_
          refine lv_iadd hx hb dX0_top_40 ?_
          refine xf_be (y := nI (h * 32 + v)) (by exact nI_add _ _) ?_
          refine xf_iald hx hb hK hP 6 0 rfl rfl (j := (h * 32 + v)) (by omega) (by decide) dX0_top_41 ?_
          refine lv_if_eq (tgt := 57) hx hb dX0_top_42 (by decide) (fun c42 => ?_) (fun c42 => ?_)
          ·
            refine lv_iinc (v := nI (v + 1)) (lv' := [(3, .int (nI (v + 1))), (0, .ref h0), (1, .int (nI h)), (2, .int pr)]) hx hb dX0_top_57 hl (k := 3) rfl (by exact nI_1 v) (by decide) rfl (fun ls hl => ?_)
            refine lv_goto (tgt := 25) hx hb dX0_top_60 (by decide) ?_
            have e9 : fcTP (fcAll fg fk fc fn) h pr v = false := by unfold fcTP; rw [decide_eq_false (not_not_intro c42), Bool.false_and]
            have hl := lv_sub (l' := [(0, .ref h0), (1, .int (nI h)), (2, .int pr), (3, .int (nI (v + 1)))]) hl [1, 2, 3, 0] rfl
            have hl : lv_has ls 4 [(0, .ref h0), (1, .int (nI h)), (2, .int pr), (3, .int (nI (v + 1)))] := xf_lv hl (by rfl)
            exact ih25 (v + 1) ls (by show 32 - (v + 1) < 32 - v; omega) (by refine ⟨by omega, ?_⟩; rw [hR, show 32 - v = (32 - (v + 1)) + 1 by omega, xf_find, if_neg (by rw [e9]; decide)]) hl
          ·
            refine lv_aload_n hx hb dX0_top_45 rfl (lv_at hl 0 rfl) ?_
            refine lv_iload_n hx hb dX0_top_46 rfl (lv_at hl 1 rfl) ?_
            refine lv_iload_n hx hb dX0_top_47 rfl (lv_at hl 3 rfl) ?_
            refine vp_callSi (W.runV (As := [.int (nI h), .int (nI v)]) (rest := []) ⟨hx, hb, hml, hown, hts⟩ (k_rankOf l dC dI h0 a1 a2 a3 a4 a5 a6 cI fg fk fu fc fb (fcAll fg fk fc fn) rc h v (by omega) (by omega)) (cwV 2 hts gX0_top_X0_rankOf rfl rfl rfl (by decide +kernel) ⟨Nat.le_of_ble_eq_true rfl, Nat.le_of_ble_eq_true rfl⟩) (xf_preV (ci := 0) (RX0, TX0, 7) hK hP rfl rfl) rfl rfl hl.1 rfl (lv_room (Nat.le_of_ble_eq_true rfl)) dX0_top_48 ⟨Nat.zero_le _, Nat.zero_le _⟩) (fun r hr9 => ?_)
            subst hr9
            refine lv_iload_n hx hb dX0_top_51 rfl (lv_at hl 2 rfl) ?_
            refine lv_icmp_ne (tgt := 57) hx hb dX0_top_52 (by decide) (fun c52 => ?_) (fun c52 => ?_)
            ·
              refine lv_iinc (v := nI (v + 1)) (lv' := [(3, .int (nI (v + 1))), (0, .ref h0), (1, .int (nI h)), (2, .int pr)]) hx hb dX0_top_57 hl (k := 3) rfl (by exact nI_1 v) (by decide) rfl (fun ls hl => ?_)
              refine lv_goto (tgt := 25) hx hb dX0_top_60 (by decide) ?_
              have e9 : fcTP (fcAll fg fk fc fn) h pr v = false := by unfold fcTP; rw [decide_eq_false c52, Bool.and_false]
              have hl := lv_sub (l' := [(0, .ref h0), (1, .int (nI h)), (2, .int pr), (3, .int (nI (v + 1)))]) hl [1, 2, 3, 0] rfl
              have hl : lv_has ls 4 [(0, .ref h0), (1, .int (nI h)), (2, .int pr), (3, .int (nI (v + 1)))] := xf_lv hl (by rfl)
              exact ih25 (v + 1) ls (by show 32 - (v + 1) < 32 - v; omega) (by refine ⟨by omega, ?_⟩; rw [hR, show 32 - v = (32 - (v + 1)) + 1 by omega, xf_find, if_neg (by rw [e9]; decide)]) hl
            ·
              refine lv_iload_n hx hb dX0_top_55 rfl (lv_at hl 3 rfl) ?_
              exact W.iret (v := nI v) hx hb hr (fun t9 ht9 hW9 => ⟨⟨_, (fg, fk, fu, fc, fb, fcAll fg fk fc fn, rc), rfl, by rw [fcTop, if_pos ein, eh, show xf_find (fcTP (fcAll fg fk fc fn) h pr) 32 0 = nI v from by rw [hR, show 32 - v = (31 - v) + 1 by omega, xf_find, if_pos (by unfold fcTP; rw [decide_eq_true c42, decide_eq_true c52]; rfl)]], xf_hP ht9 hP⟩, hS.F ht9⟩) hS.2.2 dX0_top_56
      ·
        refine lv_iconst (v := (-1)) hx hb dX0_top_17 (by decide) ?_
        exact W.iret (v := (-1)) hx hb hr (fun t9 ht9 hW9 => ⟨⟨_, (fg, fk, fu, fc, fb, fn, rc), rfl, by rw [fcTop, if_neg (by rw [xf_in_split pr (by decide), decide_eq_false c14]; simp)], xf_hP ht9 hP⟩, hS.F ht9⟩) hS.2.2 dX0_top_18
set_option maxHeartbeats 4000000 in
set_option maxRecDepth 100000 in
/-- changed() -/
theorem k_changed (l : Launch) (dC : Nat → ClassId) (dI : Nat → Nat → Nat) (h0 a1 a2 a3 a4 a5 a6 : Nat) (cI : ClassId) (fg fk fu fc fb fn : Nat → Int32) (rc : Int32) : Met l yX0_changed wsX0_changed ({ frames := 3, cells := 0, slots := 0, locals := 68 }) (va_Pc [.ref h0] (fun U => va_P (dC, dI) fmCl (fw h0 a1 a2 a3 a4 a5 a6 cI fg fk fu fc fb fn rc) U.heap ∧ va_K (dC, dI) fmCl [(cI, .int)] U ∧ va_D (fun _ => True) (fw h0 a1 a2 a3 a4 a5 a6 cI fg fk fu fc fb fn rc))) (va_Qi (fun (r : Int32) (u : FcS) => (r, u) = fcChanged fg fk fu fc fb fn rc) (fun u t => va_P (dC, dI) fmCl (fw h0 a1 a2 a3 a4 a5 a6 cI u.1 u.2.1 u.2.2.1 u.2.2.2.1 u.2.2.2.2.1 u.2.2.2.2.2.1 u.2.2.2.2.2.2) t.heap) (xf_A (fw h0 a1 a2 a3 a4 a5 a6 cI fg fk fu fc fb fn rc))) 0 0 (xf_A (fw h0 a1 a2 a3 a4 a5 a6 cI fg fk fu fc fb fn rc)) := by
  refine Met.ofW (cc := cX0_changed) (maxL := 3) (ret := (some .int)) (by decide) rfl ?_
  intro p e s m args below meth c s₁ B hml hv
  obtain ⟨rfl, hP, hK, hD0⟩ := hv
  have hx := B.exec
  have hb := B.bytes
  have hr := B.returns
  have hts := atoms_spec (ws := wsX0_changed) B.pre
  have hown : s.vm.findClass RX0 = some m.cls := findClass_of_methodNamed B.named
  have hlocks := B.notSynchronized
  have hin : ∀ w ∈ u_ws RX0 TX0 7, w ∈ wsX0_changed := by decide +kernel
  have hf_counts := hts (.fieldLink RX0 25 "FacetCounts" "counts" "[I") (by decide +kernel)
  have hf_before := hts (.fieldLink RX0 22 "FacetCounts" "before" "[I") (by decide +kernel)
  have hD := xf_A_self hD0
  generalize hAe : xf_A (fw h0 a1 a2 a3 a4 a5 a6 cI fg fk fu fc fb fn rc) = A at hD ⊢
  have hS : va_S A s.heap s.heap [] := va_S.rf
  have hP : va_P (dC, dI) fmCl (fw h0 a1 a2 a3 a4 a5 a6 cI fg fk fu fc fb fn rc) s.heap := hP
  have hl := lv_entry ([.ref h0]) (n := 3) (Nat.le_of_ble_eq_true rfl)
  rw [lg_entry_eq]
  generalize (lg_sl ([.ref h0]) ++ List.replicate (3 - (lg_sl ([.ref h0])).length) Slot.unset).toArray = ls at hl ⊢
  have hl : lv_has ls 3 [(0, .ref h0)] := hl
  refine lv_aload_n hx hb dX0_changed_0 rfl (lv_at hl 0 rfl) ?_
  have hFc := xf_A_le hD
  refine va_callv (va_runV (As := []) (rest := []) ⟨hx, hb, hml, hown, hts⟩ (k_countAll l dC dI h0 a1 a2 a3 a4 a5 a6 cI fg fk fu fc fb fn rc) (cwV 0 hts gX0_changed_X0_countAll rfl rfl rfl (by decide +kernel) ⟨Nat.le_of_ble_eq_true rfl, Nat.le_of_ble_eq_true rfl⟩) (xf_preW (ci := 0) (RX0, TX0, 7) hK hP hD rfl rfl) rfl rfl hl.1 rfl (lv_room (Nat.le_of_ble_eq_true rfl)) dX0_changed_1 ⟨Nat.zero_le _, Nat.zero_le _⟩) hS (fun q _ h => hFc q h) hFc (fun u9 t9 H locs ht9 hvm9 hw9 hB9 hz9 hk9 hS => ?_)
  subst hw9
  have hB9 := xf_hB ht9 hB9
  have hP : va_P (dC, dI) fmCl (fw h0 a1 a2 a3 a4 a5 a6 cI fg fk fu fc fb (fcAll fg fk fc fn) rc) H := hB9
  have hD : va_D A (fw h0 a1 a2 a3 a4 a5 a6 cI fg fk fu fc fb (fcAll fg fk fc fn) rc) := xf_wD hD rfl
  refine lv_iconst (v := nI 0) hx hb dX0_changed_4 (by decide) ?_
  refine lv_istore_n (lv' := [(1, .int (nI 0)), (0, .ref h0)]) hx hb dX0_changed_5 rfl hl (by decide) rfl (fun ls hl => ?_)
  refine lv_iconst (v := nI 0) hx hb dX0_changed_6 (by decide) ?_
  refine lv_istore_n (lv' := [(2, .int (nI 0)), (1, .int (nI 0)), (0, .ref h0)]) hx hb dX0_changed_7 rfl hl (by decide) rfl (fun ls hl => ?_)
  refine xf_loopH (σ := Nat) (fun (z9 : Nat) => 256 - z9) (fun (z9 : Nat) => [(0, .ref h0), (1, .int (nI (xf_cnt (fcDf fb (fcAll fg fk fc fn)) z9))), (2, .int (nI z9))]) (fun (z9 : Nat) => (fw h0 a1 a2 a3 a4 a5 a6 cI fg fk fu fc (fcCp fb (fcAll fg fk fc fn) z9) (fcAll fg fk fc fn) rc)) (fun (z9 : Nat) => z9 ≤ 256) 0 (lv_sub hl [2, 1, 0] rfl) (Nat.zero_le _) hP hD hS (fun z9 ls H locs hi hl hP hD hS ih8 => ?_)
  obtain ⟨i, hxe⟩ : ∃ z, z = z9 := ⟨_, rfl⟩
  subst hxe
  have hl : lv_has ls 3 [(0, .ref h0), (1, .int (nI (xf_cnt (fcDf fb (fcAll fg fk fc fn)) i))), (2, .int (nI i))] := hl
  have hP : va_P (dC, dI) fmCl (fw h0 a1 a2 a3 a4 a5 a6 cI fg fk fu fc (fcCp fb (fcAll fg fk fc fn) i) (fcAll fg fk fc fn) rc) H := hP
  have hD : va_D A (fw h0 a1 a2 a3 a4 a5 a6 cI fg fk fu fc (fcCp fb (fcAll fg fk fc fn) i) (fcAll fg fk fc fn) rc) := hD
  have hi : i ≤ 256 := hi
  refine lv_iload_n hx hb dX0_changed_8 rfl (lv_at hl 2 rfl) ?_
  refine lv_sipush (v := nI 256) hx hb dX0_changed_9 (by decide) ?_
  refine xf_ge (tgt := 51) hx hb dX0_changed_12 (by decide) (by omega) (by omega) (fun c12 => ?_) (fun c12 => ?_)
  ·
    obtain rfl : i = 256 := by omega
    refine lv_iload_n hx hb dX0_changed_51 rfl (lv_at hl 1 rfl) ?_
    exact W.iret (v := nI (xf_cnt (fcDf fb (fcAll fg fk fc fn)) 256)) hx hb hr (fun t9 ht9 hW9 => ⟨⟨_, (fg, fk, fu, fc, fcCp fb (fcAll fg fk fc fn) 256, fcAll fg fk fc fn, rc), rfl, rfl, xf_hP ht9 hP⟩, hS.F ht9⟩) hS.2.2 dX0_changed_52
  ·
    refine lv_aload_n hx hb dX0_changed_15 rfl (lv_at hl 0 rfl) ?_
    refine va_get (D := (dC, dI)) (ci := 0) (v := .ref a6) (C := RX0) (T := TX0) (N := 7) hx hb hts hin hown hK hP 0 rfl rfl 5 (by decide) hf_counts (fun _ h9 => h9) rfl dX0_changed_16 ?_
    refine lv_iload_n hx hb dX0_changed_19 rfl (lv_at hl 2 rfl) ?_
    refine xf_iald hx hb hK hP 6 0 rfl rfl (j := i) (by omega) (by decide) dX0_changed_20 ?_
    refine lv_aload_n hx hb dX0_changed_21 rfl (lv_at hl 0 rfl) ?_
    refine va_get (D := (dC, dI)) (ci := 0) (v := .ref a5) (C := RX0) (T := TX0) (N := 7) hx hb hts hin hown hK hP 0 rfl rfl 4 (by decide) hf_before (fun _ h9 => h9) rfl dX0_changed_22 ?_
    refine lv_iload_n hx hb dX0_changed_25 rfl (lv_at hl 2 rfl) ?_
    refine xf_iald hx hb hK hP 5 0 rfl rfl (j := i) (by omega) (by decide) dX0_changed_26 ?_
    refine xf_be (y := fb i) (fcCp_ge _ _ i i (Nat.le_refl _)) ?_
    refine lv_icmp_eq (tgt := 33) hx hb dX0_changed_27 (by decide) (fun c27 => ?_) (fun c27 => ?_)
    ·
      refine lv_aload_n hx hb dX0_changed_33 rfl (lv_at hl 0 rfl) ?_
      refine va_get (D := (dC, dI)) (ci := 0) (v := .ref a5) (C := RX0) (T := TX0) (N := 7) hx hb hts hin hown hK hP 0 rfl rfl 4 (by decide) hf_before (fun _ h9 => h9) rfl dX0_changed_34 ?_
      refine lv_iload_n hx hb dX0_changed_37 rfl (lv_at hl 2 rfl) ?_
      refine lv_aload_n hx hb dX0_changed_38 rfl (lv_at hl 0 rfl) ?_
      refine va_get (D := (dC, dI)) (ci := 0) (v := .ref a6) (C := RX0) (T := TX0) (N := 7) hx hb hts hin hown hK hP 0 rfl rfl 5 (by decide) hf_counts (fun _ h9 => h9) rfl dX0_changed_39 ?_
      refine lv_iload_n hx hb dX0_changed_42 rfl (lv_at hl 2 rfl) ?_
      refine xf_iald hx hb hK hP 6 0 rfl rfl (j := i) (by omega) (by decide) dX0_changed_43 ?_
      refine xf_iast hx hb hK hP hD hS 5 0 rfl rfl (j := i) (by omega) (by decide) dX0_changed_44 (fun H locs hP hD hS => ?_)
      have hP : va_P (dC, dI) fmCl (fw h0 a1 a2 a3 a4 a5 a6 cI fg fk fu fc (upd (fcCp fb (fcAll fg fk fc fn) i) i ((fcAll fg fk fc fn) i)) (fcAll fg fk fc fn) rc) H := hP
      have hD : va_D A (fw h0 a1 a2 a3 a4 a5 a6 cI fg fk fu fc (upd (fcCp fb (fcAll fg fk fc fn) i) i ((fcAll fg fk fc fn) i)) (fcAll fg fk fc fn) rc) := hD
      refine lv_iinc (v := nI (i + 1)) (lv' := [(2, .int (nI (i + 1))), (0, .ref h0), (1, .int (nI (xf_cnt (fcDf fb (fcAll fg fk fc fn)) i)))]) hx hb dX0_changed_45 hl (k := 2) rfl (by exact nI_1 i) (by decide) rfl (fun ls hl => ?_)
      refine lv_goto (tgt := 8) hx hb dX0_changed_48 (by decide) ?_
      have hl := lv_sub (l' := [(0, .ref h0), (1, .int (nI (xf_cnt (fcDf fb (fcAll fg fk fc fn)) i))), (2, .int (nI (i + 1)))]) hl [1, 2, 0] rfl
      have hl : lv_has ls 3 [(0, .ref h0), (1, .int (nI (xf_cnt (fcDf fb (fcAll fg fk fc fn)) (i + 1)))), (2, .int (nI (i + 1)))] := xf_lv hl (by simp [xf_cnt, fcDf, c12, c27])
      have hP : va_P (dC, dI) fmCl (fw h0 a1 a2 a3 a4 a5 a6 cI fg fk fu fc (fcCp fb (fcAll fg fk fc fn) (i + 1)) (fcAll fg fk fc fn) rc) H := xf_wP hP (by rfl)
      have hD : va_D A (fw h0 a1 a2 a3 a4 a5 a6 cI fg fk fu fc (fcCp fb (fcAll fg fk fc fn) (i + 1)) (fcAll fg fk fc fn) rc) := xf_wD hD rfl
      exact ih8 (i + 1) ls H locs (by show 256 - (i + 1) < 256 - i; omega) (by show (i + 1) ≤ 256; omega) hl hP hD hS
    ·
      refine lv_iinc (v := nI (xf_cnt (fcDf fb (fcAll fg fk fc fn)) i + 1)) (lv' := [(1, .int (nI (xf_cnt (fcDf fb (fcAll fg fk fc fn)) i + 1))), (0, .ref h0), (2, .int (nI i))]) hx hb dX0_changed_30 hl (k := 1) rfl (by exact nI_1 (xf_cnt (fcDf fb (fcAll fg fk fc fn)) i)) (by decide) rfl (fun ls hl => ?_)
      refine lv_aload_n hx hb dX0_changed_33 rfl (lv_at hl 1 rfl) ?_
      refine va_get (D := (dC, dI)) (ci := 0) (v := .ref a5) (C := RX0) (T := TX0) (N := 7) hx hb hts hin hown hK hP 0 rfl rfl 4 (by decide) hf_before (fun _ h9 => h9) rfl dX0_changed_34 ?_
      refine lv_iload_n hx hb dX0_changed_37 rfl (lv_at hl 2 rfl) ?_
      refine lv_aload_n hx hb dX0_changed_38 rfl (lv_at hl 1 rfl) ?_
      refine va_get (D := (dC, dI)) (ci := 0) (v := .ref a6) (C := RX0) (T := TX0) (N := 7) hx hb hts hin hown hK hP 0 rfl rfl 5 (by decide) hf_counts (fun _ h9 => h9) rfl dX0_changed_39 ?_
      refine lv_iload_n hx hb dX0_changed_42 rfl (lv_at hl 2 rfl) ?_
      refine xf_iald hx hb hK hP 6 0 rfl rfl (j := i) (by omega) (by decide) dX0_changed_43 ?_
      refine xf_iast hx hb hK hP hD hS 5 0 rfl rfl (j := i) (by omega) (by decide) dX0_changed_44 (fun H locs hP hD hS => ?_)
      have hP : va_P (dC, dI) fmCl (fw h0 a1 a2 a3 a4 a5 a6 cI fg fk fu fc (upd (fcCp fb (fcAll fg fk fc fn) i) i ((fcAll fg fk fc fn) i)) (fcAll fg fk fc fn) rc) H := hP
      have hD : va_D A (fw h0 a1 a2 a3 a4 a5 a6 cI fg fk fu fc (upd (fcCp fb (fcAll fg fk fc fn) i) i ((fcAll fg fk fc fn) i)) (fcAll fg fk fc fn) rc) := hD
      refine lv_iinc (v := nI (i + 1)) (lv' := [(2, .int (nI (i + 1))), (1, .int (nI (xf_cnt (fcDf fb (fcAll fg fk fc fn)) i + 1))), (0, .ref h0)]) hx hb dX0_changed_45 hl (k := 2) rfl (by exact nI_1 i) (by decide) rfl (fun ls hl => ?_)
      refine lv_goto (tgt := 8) hx hb dX0_changed_48 (by decide) ?_
      have hl := lv_sub (l' := [(0, .ref h0), (1, .int (nI (xf_cnt (fcDf fb (fcAll fg fk fc fn)) i + 1))), (2, .int (nI (i + 1)))]) hl [2, 1, 0] rfl
      have hl : lv_has ls 3 [(0, .ref h0), (1, .int (nI (xf_cnt (fcDf fb (fcAll fg fk fc fn)) (i + 1)))), (2, .int (nI (i + 1)))] := xf_lv hl (by simp [xf_cnt, fcDf, c12, c27])
      have hP : va_P (dC, dI) fmCl (fw h0 a1 a2 a3 a4 a5 a6 cI fg fk fu fc (fcCp fb (fcAll fg fk fc fn) (i + 1)) (fcAll fg fk fc fn) rc) H := xf_wP hP (by rfl)
      have hD : va_D A (fw h0 a1 a2 a3 a4 a5 a6 cI fg fk fu fc (fcCp fb (fcAll fg fk fc fn) (i + 1)) (fcAll fg fk fc fn) rc) := xf_wD hD rfl
      exact ih8 (i + 1) ls H locs (by show 256 - (i + 1) < 256 - i; omega) (by show (i + 1) ≤ 256; omega) hl hP hD hS
