set_option maxHeartbeats 4000000 in
set_option maxRecDepth 100000 in
/-- thrown() -/
theorem m_thrown (l : Launch) (dC : Nat → ClassId) (dI : Nat → Nat → Nat) (h0 b1 b2 b3 b4 b5 : Nat) (cI cZ : ClassId) (mh : Nat → Bool) (ma : Nat → Int32) (mc : Nat → Bool) (mt mn : Nat → Int32) (cd ro : Int32) : Met l yM_thrown wsM_thrown ({ frames := 0, cells := 0, slots := 0, locals := 0 }) (va_Pc [.ref h0] (fun U => va_P (dC, dI) fmCl (mw h0 b1 b2 b3 b4 b5 cI cZ mh ma mc mt mn cd ro) U.heap ∧ va_K (dC, dI) fmCl [(cI, .int), (cZ, .boolean)] U)) (vp_Si (fun r => r = cd)) 0 0 (fun _ => False) := by
  refine Met.ofW (cc := cM_thrown) (maxL := 1) (ret := (some .int)) (by decide) rfl ?_
  intro p e s m args below meth c s₁ B hml hv
  obtain ⟨rfl, hP, hK⟩ := hv
  have hx := B.exec
  have hb := B.bytes
  have hr := B.returns
  have hts := atoms_spec (ws := wsM_thrown) B.pre
  have hown : s.vm.findClass RX1 = some m.cls := findClass_of_methodNamed B.named
  have hlocks := B.notSynchronized
  have hin : ∀ w ∈ u_ws RX1 TM 7, w ∈ wsM_thrown := by decide +kernel
  have hf_code := hts (.fieldLink RX1 26 "FacetCountsModel" "code" "I") (by decide +kernel)
  have hl := lv_entry ([.ref h0]) (n := 1) (Nat.le_of_ble_eq_true rfl)
  rw [lg_entry_eq]
  generalize (lg_sl ([.ref h0]) ++ List.replicate (1 - (lg_sl ([.ref h0])).length) Slot.unset).toArray = ls at hl ⊢
  have hl : lv_has ls 1 [(0, .ref h0)] := hl
  refine lv_aload_n hx hb dM_thrown_0 rfl (lv_at hl 0 rfl) ?_
  refine va_get (D := (dC, dI)) (ci := 1) (v := .int cd) (C := RX1) (T := TM) (N := 7) hx hb hts hin hown hK hP 0 rfl rfl 0 (by decide) hf_code (fun _ h9 => h9) rfl dM_thrown_1 ?_
  exact W.iret (v := cd) hx hb hr (fun t9 ht9 hW9 => ⟨_, rfl, rfl, ht9⟩) (fun q h => nomatch h) dM_thrown_4
set_option maxHeartbeats 4000000 in
set_option maxRecDepth 100000 in
/-- row(pt, ph, pv) -/
theorem m_row (l : Launch) (dC : Nat → ClassId) (dI : Nat → Nat → Nat) (h0 b1 b2 b3 b4 b5 : Nat) (cI cZ : ClassId) (mh : Nat → Bool) (ma : Nat → Int32) (mc : Nat → Bool) (mt mn : Nat → Int32) (cd ro : Int32) (pt ph pv : Int32) : Met l yM_row wsM_row ({ frames := 1, cells := 0, slots := 0, locals := 22 }) (va_Pc [.ref h0, .int pt, .int ph, .int pv] (fun U => va_P (dC, dI) fmCl (mw h0 b1 b2 b3 b4 b5 cI cZ mh ma mc mt mn cd ro) U.heap ∧ va_K (dC, dI) fmCl [(cI, .int), (cZ, .boolean)] U ∧ va_D (fun _ => True) (mw h0 b1 b2 b3 b4 b5 cI cZ mh ma mc mt mn cd ro))) (va_Qi (fun (r : Int32) (u : MdS) => (r, u) = mdRow mh ma mc mt mn ro pt ph pv) (fun u t => va_P (dC, dI) fmCl (mw h0 b1 b2 b3 b4 b5 cI cZ u.1 u.2.1 u.2.2.1 u.2.2.2.1 u.2.2.2.2.1 u.2.2.2.2.2.1 u.2.2.2.2.2.2) t.heap) (xf_A (mw h0 b1 b2 b3 b4 b5 cI cZ mh ma mc mt mn cd ro))) 0 0 (xf_A (mw h0 b1 b2 b3 b4 b5 cI cZ mh ma mc mt mn cd ro)) := by
  refine Met.ofW (cc := cM_row) (maxL := 4) (ret := (some .int)) (by decide) rfl ?_
  intro p e s m args below meth c s₁ B hml hv
  obtain ⟨rfl, hP, hK, hD0⟩ := hv
  have hx := B.exec
  have hb := B.bytes
  have hr := B.returns
  have hts := atoms_spec (ws := wsM_row) B.pre
  have hown : s.vm.findClass RX1 = some m.cls := findClass_of_methodNamed B.named
  have hlocks := B.notSynchronized
  have hin : ∀ w ∈ u_ws RX1 TM 7, w ∈ wsM_row := by decide +kernel
  have hf_code := hts (.fieldLink RX1 26 "FacetCountsModel" "code" "I") (by decide +kernel)
  have hf_has := hts (.fieldLink RX1 7 "FacetCountsModel" "has" "[Z") (by decide +kernel)
  have hf_rows := hts (.fieldLink RX1 44 "FacetCountsModel" "rows" "I") (by decide +kernel)
  have hD := xf_A_self hD0
  generalize hAe : xf_A (mw h0 b1 b2 b3 b4 b5 cI cZ mh ma mc mt mn cd ro) = A at hD ⊢
  have hS : va_S A s.heap s.heap [] := va_S.rf
  have hP : va_P (dC, dI) fmCl (mw h0 b1 b2 b3 b4 b5 cI cZ mh ma mc mt mn cd ro) s.heap := hP
  have hl := lv_entry ([.ref h0, .int pt, .int ph, .int pv]) (n := 4) (Nat.le_of_ble_eq_true rfl)
  rw [lg_entry_eq]
  generalize (lg_sl ([.ref h0, .int pt, .int ph, .int pv]) ++ List.replicate (4 - (lg_sl ([.ref h0, .int pt, .int ph, .int pv])).length) Slot.unset).toArray = ls at hl ⊢
  have hl : lv_has ls 4 [(0, .ref h0), (1, .int pt), (2, .int ph), (3, .int pv)] := hl
  refine lv_aload_n hx hb dM_row_0 rfl (lv_at hl 0 rfl) ?_
  refine lv_iconst (v := nI 0) hx hb dM_row_1 (by decide) ?_
  refine va_put (D := (dC, dI)) (ci := 1) (v := .int (nI 0)) (ty := .int) (C := RX1) (T := TM) (N := 7) hx hb hts hin tyM tyM_ok nmM hown hK hP hD hS 0 rfl rfl 0 (by decide) hf_code (fun _ h9 => h9) rfl (by decide +kernel) rfl rfl (Nat.le_of_ble_eq_true rfl) dM_row_2 (fun H locs hP hD hS => ?_)
  have hP : va_P (dC, dI) fmCl (mw h0 b1 b2 b3 b4 b5 cI cZ mh ma mc mt mn (nI 0) ro) H := hP
  have hD : va_D A (mw h0 b1 b2 b3 b4 b5 cI cZ mh ma mc mt mn (nI 0) ro) := hD
  refine lv_iload_n hx hb dM_row_5 rfl (lv_at hl 1 rfl) ?_
  refine vp_callSi (W.runS (As := [.int pt]) (rest := []) ⟨hx, hb, hml, hown, hts⟩ (m_isThing l pt) (va_cwS 1 hts gM_row_isThing rfl rfl rfl (by decide +kernel) ⟨Nat.le_of_ble_eq_true rfl, Nat.le_of_ble_eq_true rfl⟩) (xf_preS0) rfl rfl hl.1 rfl (lv_room (Nat.le_of_ble_eq_true rfl)) dM_row_6 ⟨Nat.zero_le _, Nat.zero_le _⟩) (fun r hr9 => ?_)
  subst hr9
  refine xf_Beq (tgt := 26) hx hb dM_row_9 (by decide) (fun c9 => ?_) (fun c9 => ?_)
  ·
    refine lv_iconst (v := (-1)) hx hb dM_row_26 (by decide) ?_
    exact W.iret (v := (-1)) hx hb hr (fun t9 ht9 hW9 => ⟨⟨_, (mh, ma, mc, mt, mn, nI 0, ro), rfl, by simp [mdRow, c9], xf_hP ht9 hP⟩, hS.F ht9⟩) hS.2.2 dM_row_27
  ·
    obtain ⟨t, ht, rfl⟩ := xf_in_of c9 (by decide)
    have et : (nI t).toNatClampNeg = t := nI_clamp (by omega)
    refine lv_iload_n hx hb dM_row_12 rfl (lv_at hl 2 rfl) ?_
    refine vp_callSi (W.runS (As := [.int ph]) (rest := []) ⟨hx, hb, hml, hown, hts⟩ (m_isHead l ph) (va_cwS 1 hts gM_row_isHead rfl rfl rfl (by decide +kernel) ⟨Nat.le_of_ble_eq_true rfl, Nat.le_of_ble_eq_true rfl⟩) (xf_preS0) rfl rfl hl.1 rfl (lv_room (Nat.le_of_ble_eq_true rfl)) dM_row_13 ⟨Nat.zero_le _, Nat.zero_le _⟩) (fun r hr9 => ?_)
    subst hr9
    refine xf_Beq (tgt := 26) hx hb dM_row_16 (by decide) (fun c16 => ?_) (fun c16 => ?_)
    ·
      refine lv_iconst (v := (-1)) hx hb dM_row_26 (by decide) ?_
      exact W.iret (v := (-1)) hx hb hr (fun t9 ht9 hW9 => ⟨⟨_, (mh, ma, mc, mt, mn, nI 0, ro), rfl, by simp [mdRow, c9, et, c16], xf_hP ht9 hP⟩, hS.F ht9⟩) hS.2.2 dM_row_27
    ·
      obtain ⟨h, hh, rfl⟩ := xf_in_of c16 (by decide)
      have eh : (nI h).toNatClampNeg = h := nI_clamp (by omega)
      refine lv_iload_n hx hb dM_row_19 rfl (lv_at hl 3 rfl) ?_
      refine vp_callSi (W.runS (As := [.int pv]) (rest := []) ⟨hx, hb, hml, hown, hts⟩ (m_isValue l pv) (va_cwS 1 hts gM_row_isValue rfl rfl rfl (by decide +kernel) ⟨Nat.le_of_ble_eq_true rfl, Nat.le_of_ble_eq_true rfl⟩) (xf_preS0) rfl rfl hl.1 rfl (lv_room (Nat.le_of_ble_eq_true rfl)) dM_row_20 ⟨Nat.zero_le _, Nat.zero_le _⟩) (fun r hr9 => ?_)
      subst hr9
      refine xf_Bne (tgt := 28) hx hb dM_row_23 (by decide) (fun c23 => ?_) (fun c23 => ?_)
      ·
        obtain ⟨v, hv, rfl⟩ := xf_in_of c23 (by decide)
        have ev : (nI v).toNatClampNeg = v := nI_clamp (by omega)
        refine lv_aload_n hx hb dM_row_28 rfl (lv_at hl 0 rfl) ?_
        refine va_get (D := (dC, dI)) (ci := 1) (v := .ref b1) (C := RX1) (T := TM) (N := 7) hx hb hts hin hown hK hP 0 rfl rfl 1 (by decide) hf_has (fun _ h9 => h9) rfl dM_row_29 ?_
        refine lv_iload_n hx hb dM_row_32 rfl (lv_at hl 1 rfl) ?_
        refine lv_iload_n hx hb dM_row_33 rfl (lv_at hl 2 rfl) ?_
        refine lv_iload_n hx hb dM_row_34 rfl (lv_at hl 3 rfl) ?_
        refine vp_callSi (W.runS (As := [.int (nI t), .int (nI h), .int (nI v)]) (rest := [.ref b1]) ⟨hx, hb, hml, hown, hts⟩ (m_at l t h v) (va_cwS 3 hts gM_row_at rfl rfl rfl (by decide +kernel) ⟨Nat.le_of_ble_eq_true rfl, Nat.le_of_ble_eq_true rfl⟩) (xf_preS0) rfl rfl hl.1 rfl (lv_room (Nat.le_of_ble_eq_true rfl)) dM_row_35 ⟨Nat.zero_le _, Nat.zero_le _⟩) (fun r hr9 => ?_)
        subst hr9
        refine xf_zald hx hb hK hP 1 1 rfl rfl (j := ((t * 8 + h) * 32 + v)) (by omega) (by decide) dM_row_38 ?_
        refine xf_Beq (tgt := 44) hx hb dM_row_39 (by decide) (fun c39 => ?_) (fun c39 => ?_)
        ·
          refine lv_aload_n hx hb dM_row_44 rfl (lv_at hl 0 rfl) ?_
          refine va_get (D := (dC, dI)) (ci := 1) (v := .int ro) (C := RX1) (T := TM) (N := 7) hx hb hts hin hown hK hP 0 rfl rfl 6 (by decide) hf_rows (fun _ h9 => h9) rfl dM_row_45 ?_
          refine lv_sipush (v := nI 300) hx hb dM_row_48 (by decide) ?_
          refine lv_icmp_ne (tgt := 57) hx hb dM_row_51 (by decide) (fun c51 => ?_) (fun c51 => ?_)
          ·
            refine lv_aload_n hx hb dM_row_57 rfl (lv_at hl 0 rfl) ?_
            refine va_get (D := (dC, dI)) (ci := 1) (v := .ref b1) (C := RX1) (T := TM) (N := 7) hx hb hts hin hown hK hP 0 rfl rfl 1 (by decide) hf_has (fun _ h9 => h9) rfl dM_row_58 ?_
            refine lv_iload_n hx hb dM_row_61 rfl (lv_at hl 1 rfl) ?_
            refine lv_iload_n hx hb dM_row_62 rfl (lv_at hl 2 rfl) ?_
            refine lv_iload_n hx hb dM_row_63 rfl (lv_at hl 3 rfl) ?_
            refine vp_callSi (W.runS (As := [.int (nI t), .int (nI h), .int (nI v)]) (rest := [.ref b1]) ⟨hx, hb, hml, hown, hts⟩ (m_at l t h v) (va_cwS 3 hts gM_row_at rfl rfl rfl (by decide +kernel) ⟨Nat.le_of_ble_eq_true rfl, Nat.le_of_ble_eq_true rfl⟩) (xf_preS0) rfl rfl hl.1 rfl (lv_room (Nat.le_of_ble_eq_true rfl)) dM_row_64 ⟨Nat.zero_le _, Nat.zero_le _⟩) (fun r hr9 => ?_)
            subst hr9
            refine lv_iconst (v := nI 1) hx hb dM_row_67 (by decide) ?_
            refine xf_zast (b := true) hx hb hK hP hD hS 1 1 rfl rfl rfl (j := ((t * 8 + h) * 32 + v)) (by omega) (by decide) dM_row_68 (fun H locs hP hD hS => ?_)
            have hP : va_P (dC, dI) fmCl (mw h0 b1 b2 b3 b4 b5 cI cZ (va_up mh ((t * 8 + h) * 32 + v) true) ma mc mt mn (nI 0) ro) H := hP
            have hD : va_D A (mw h0 b1 b2 b3 b4 b5 cI cZ (va_up mh ((t * 8 + h) * 32 + v) true) ma mc mt mn (nI 0) ro) := hD
            refine lv_aload_n hx hb dM_row_69 rfl (lv_at hl 0 rfl) ?_
            refine lv_dup hx hb dM_row_70 rfl ?_
            refine va_get (D := (dC, dI)) (ci := 1) (v := .int ro) (C := RX1) (T := TM) (N := 7) hx hb hts hin hown hK hP 0 rfl rfl 6 (by decide) hf_rows (fun _ h9 => h9) rfl dM_row_71 ?_
            refine lv_iconst (v := nI 1) hx hb dM_row_74 (by decide) ?_
            refine lv_iadd hx hb dM_row_75 ?_
            refine va_put (D := (dC, dI)) (ci := 1) (v := .int (ro + (nI 1))) (ty := .int) (C := RX1) (T := TM) (N := 7) hx hb hts hin tyM tyM_ok nmM hown hK hP hD hS 0 rfl rfl 6 (by decide) hf_rows (fun _ h9 => h9) rfl (by decide +kernel) rfl rfl (Nat.le_of_ble_eq_true rfl) dM_row_76 (fun H locs hP hD hS => ?_)
            have hP : va_P (dC, dI) fmCl (mw h0 b1 b2 b3 b4 b5 cI cZ (va_up mh ((t * 8 + h) * 32 + v) true) ma mc mt mn (nI 0) (ro + (nI 1))) H := hP
            have hD : va_D A (mw h0 b1 b2 b3 b4 b5 cI cZ (va_up mh ((t * 8 + h) * 32 + v) true) ma mc mt mn (nI 0) (ro + (nI 1))) := hD
            refine lv_iconst (v := nI 1) hx hb dM_row_79 (by decide) ?_
            exact W.iret (v := nI 1) hx hb hr (fun t9 ht9 hW9 => ⟨⟨_, (va_up mh ((t * 8 + h) * 32 + v) true, ma, mc, mt, mn, nI 0, ro + (nI 1)), rfl, by simp [mdRow, c9, et, c16, eh, c23, ev, c39, c51], xf_hP ht9 hP⟩, hS.F ht9⟩) hS.2.2 dM_row_80
          ·
            refine lv_bipush (v := (-2)) hx hb dM_row_54 (by decide) ?_
            exact W.iret (v := (-2)) hx hb hr (fun t9 ht9 hW9 => ⟨⟨_, (mh, ma, mc, mt, mn, nI 0, ro), rfl, by simp [mdRow, c9, et, c16, eh, c23, ev, c39, c51], xf_hP ht9 hP⟩, hS.F ht9⟩) hS.2.2 dM_row_56
        ·
          refine lv_iconst (v := nI 0) hx hb dM_row_42 (by decide) ?_
          exact W.iret (v := nI 0) hx hb hr (fun t9 ht9 hW9 => ⟨⟨_, (mh, ma, mc, mt, mn, nI 0, ro), rfl, by simp [mdRow, c9, et, c16, eh, c23, ev, c39], xf_hP ht9 hP⟩, hS.F ht9⟩) hS.2.2 dM_row_43
      ·
        refine lv_iconst (v := (-1)) hx hb dM_row_26 (by decide) ?_
        exact W.iret (v := (-1)) hx hb hr (fun t9 ht9 hW9 => ⟨⟨_, (mh, ma, mc, mt, mn, nI 0, ro), rfl, by simp [mdRow, c9, et, c16, eh, c23], xf_hP ht9 hP⟩, hS.F ht9⟩) hS.2.2 dM_row_27
set_option maxHeartbeats 4000000 in
set_option maxRecDepth 100000 in
/-- drop(pt, ph, pv) -/
theorem m_drop (l : Launch) (dC : Nat → ClassId) (dI : Nat → Nat → Nat) (h0 b1 b2 b3 b4 b5 : Nat) (cI cZ : ClassId) (mh : Nat → Bool) (ma : Nat → Int32) (mc : Nat → Bool) (mt mn : Nat → Int32) (cd ro : Int32) (pt ph pv : Int32) : Met l yM_drop wsM_drop ({ frames := 1, cells := 0, slots := 0, locals := 22 }) (va_Pc [.ref h0, .int pt, .int ph, .int pv] (fun U => va_P (dC, dI) fmCl (mw h0 b1 b2 b3 b4 b5 cI cZ mh ma mc mt mn cd ro) U.heap ∧ va_K (dC, dI) fmCl [(cI, .int), (cZ, .boolean)] U ∧ va_D (fun _ => True) (mw h0 b1 b2 b3 b4 b5 cI cZ mh ma mc mt mn cd ro))) (va_Qi (fun (r : Int32) (u : MdS) => (r, u) = mdDrop mh ma mc mt mn ro pt ph pv) (fun u t => va_P (dC, dI) fmCl (mw h0 b1 b2 b3 b4 b5 cI cZ u.1 u.2.1 u.2.2.1 u.2.2.2.1 u.2.2.2.2.1 u.2.2.2.2.2.1 u.2.2.2.2.2.2) t.heap) (xf_A (mw h0 b1 b2 b3 b4 b5 cI cZ mh ma mc mt mn cd ro))) 0 0 (xf_A (mw h0 b1 b2 b3 b4 b5 cI cZ mh ma mc mt mn cd ro)) := by
  refine Met.ofW (cc := cM_drop) (maxL := 4) (ret := (some .int)) (by decide) rfl ?_
  intro p e s m args below meth c s₁ B hml hv
  obtain ⟨rfl, hP, hK, hD0⟩ := hv
  have hx := B.exec
  have hb := B.bytes
  have hr := B.returns
  have hts := atoms_spec (ws := wsM_drop) B.pre
  have hown : s.vm.findClass RX1 = some m.cls := findClass_of_methodNamed B.named
  have hlocks := B.notSynchronized
  have hin : ∀ w ∈ u_ws RX1 TM 7, w ∈ wsM_drop := by decide +kernel
  have hf_code := hts (.fieldLink RX1 26 "FacetCountsModel" "code" "I") (by decide +kernel)
  have hf_has := hts (.fieldLink RX1 7 "FacetCountsModel" "has" "[Z") (by decide +kernel)
  have hf_rows := hts (.fieldLink RX1 44 "FacetCountsModel" "rows" "I") (by decide +kernel)
  have hD := xf_A_self hD0
  generalize hAe : xf_A (mw h0 b1 b2 b3 b4 b5 cI cZ mh ma mc mt mn cd ro) = A at hD ⊢
  have hS : va_S A s.heap s.heap [] := va_S.rf
  have hP : va_P (dC, dI) fmCl (mw h0 b1 b2 b3 b4 b5 cI cZ mh ma mc mt mn cd ro) s.heap := hP
  have hl := lv_entry ([.ref h0, .int pt, .int ph, .int pv]) (n := 4) (Nat.le_of_ble_eq_true rfl)
  rw [lg_entry_eq]
  generalize (lg_sl ([.ref h0, .int pt, .int ph, .int pv]) ++ List.replicate (4 - (lg_sl ([.ref h0, .int pt, .int ph, .int pv])).length) Slot.unset).toArray = ls at hl ⊢
  have hl : lv_has ls 4 [(0, .ref h0), (1, .int pt), (2, .int ph), (3, .int pv)] := hl
  refine lv_aload_n hx hb dM_drop_0 rfl (lv_at hl 0 rfl) ?_
  refine lv_iconst (v := nI 0) hx hb dM_drop_1 (by decide) ?_
  refine va_put (D := (dC, dI)) (ci := 1) (v := .int (nI 0)) (ty := .int) (C := RX1) (T := TM) (N := 7) hx hb hts hin tyM tyM_ok nmM hown hK hP hD hS 0 rfl rfl 0 (by decide) hf_code (fun _ h9 => h9) rfl (by decide +kernel) rfl rfl (Nat.le_of_ble_eq_true rfl) dM_drop_2 (fun H locs hP hD hS => ?_)
  have hP : va_P (dC, dI) fmCl (mw h0 b1 b2 b3 b4 b5 cI cZ mh ma mc mt mn (nI 0) ro) H := hP
  have hD : va_D A (mw h0 b1 b2 b3 b4 b5 cI cZ mh ma mc mt mn (nI 0) ro) := hD
  refine lv_iload_n hx hb dM_drop_5 rfl (lv_at hl 1 rfl) ?_
  refine vp_callSi (W.runS (As := [.int pt]) (rest := []) ⟨hx, hb, hml, hown, hts⟩ (m_isThing l pt) (va_cwS 1 hts gM_drop_isThing rfl rfl rfl (by decide +kernel) ⟨Nat.le_of_ble_eq_true rfl, Nat.le_of_ble_eq_true rfl⟩) (xf_preS0) rfl rfl hl.1 rfl (lv_room (Nat.le_of_ble_eq_true rfl)) dM_drop_6 ⟨Nat.zero_le _, Nat.zero_le _⟩) (fun r hr9 => ?_)
  subst hr9
  refine xf_Beq (tgt := 26) hx hb dM_drop_9 (by decide) (fun c9 => ?_) (fun c9 => ?_)
  ·
    refine lv_iconst (v := (-1)) hx hb dM_drop_26 (by decide) ?_
    exact W.iret (v := (-1)) hx hb hr (fun t9 ht9 hW9 => ⟨⟨_, (mh, ma, mc, mt, mn, nI 0, ro), rfl, by simp [mdDrop, c9], xf_hP ht9 hP⟩, hS.F ht9⟩) hS.2.2 dM_drop_27
  ·
    obtain ⟨t, ht, rfl⟩ := xf_in_of c9 (by decide)
    have et : (nI t).toNatClampNeg = t := nI_clamp (by omega)
    refine lv_iload_n hx hb dM_drop_12 rfl (lv_at hl 2 rfl) ?_
    refine vp_callSi (W.runS (As := [.int ph]) (rest := []) ⟨hx, hb, hml, hown, hts⟩ (m_isHead l ph) (va_cwS 1 hts gM_drop_isHead rfl rfl rfl (by decide +kernel) ⟨Nat.le_of_ble_eq_true rfl, Nat.le_of_ble_eq_true rfl⟩) (xf_preS0) rfl rfl hl.1 rfl (lv_room (Nat.le_of_ble_eq_true rfl)) dM_drop_13 ⟨Nat.zero_le _, Nat.zero_le _⟩) (fun r hr9 => ?_)
    subst hr9
    refine xf_Beq (tgt := 26) hx hb dM_drop_16 (by decide) (fun c16 => ?_) (fun c16 => ?_)
    ·
      refine lv_iconst (v := (-1)) hx hb dM_drop_26 (by decide) ?_
      exact W.iret (v := (-1)) hx hb hr (fun t9 ht9 hW9 => ⟨⟨_, (mh, ma, mc, mt, mn, nI 0, ro), rfl, by simp [mdDrop, c9, et, c16], xf_hP ht9 hP⟩, hS.F ht9⟩) hS.2.2 dM_drop_27
    ·
      obtain ⟨h, hh, rfl⟩ := xf_in_of c16 (by decide)
      have eh : (nI h).toNatClampNeg = h := nI_clamp (by omega)
      refine lv_iload_n hx hb dM_drop_19 rfl (lv_at hl 3 rfl) ?_
      refine vp_callSi (W.runS (As := [.int pv]) (rest := []) ⟨hx, hb, hml, hown, hts⟩ (m_isValue l pv) (va_cwS 1 hts gM_drop_isValue rfl rfl rfl (by decide +kernel) ⟨Nat.le_of_ble_eq_true rfl, Nat.le_of_ble_eq_true rfl⟩) (xf_preS0) rfl rfl hl.1 rfl (lv_room (Nat.le_of_ble_eq_true rfl)) dM_drop_20 ⟨Nat.zero_le _, Nat.zero_le _⟩) (fun r hr9 => ?_)
      subst hr9
      refine xf_Bne (tgt := 28) hx hb dM_drop_23 (by decide) (fun c23 => ?_) (fun c23 => ?_)
      ·
        obtain ⟨v, hv, rfl⟩ := xf_in_of c23 (by decide)
        have ev : (nI v).toNatClampNeg = v := nI_clamp (by omega)
        refine lv_aload_n hx hb dM_drop_28 rfl (lv_at hl 0 rfl) ?_
        refine va_get (D := (dC, dI)) (ci := 1) (v := .ref b1) (C := RX1) (T := TM) (N := 7) hx hb hts hin hown hK hP 0 rfl rfl 1 (by decide) hf_has (fun _ h9 => h9) rfl dM_drop_29 ?_
        refine lv_iload_n hx hb dM_drop_32 rfl (lv_at hl 1 rfl) ?_
        refine lv_iload_n hx hb dM_drop_33 rfl (lv_at hl 2 rfl) ?_
        refine lv_iload_n hx hb dM_drop_34 rfl (lv_at hl 3 rfl) ?_
        refine vp_callSi (W.runS (As := [.int (nI t), .int (nI h), .int (nI v)]) (rest := [.ref b1]) ⟨hx, hb, hml, hown, hts⟩ (m_at l t h v) (va_cwS 3 hts gM_drop_at rfl rfl rfl (by decide +kernel) ⟨Nat.le_of_ble_eq_true rfl, Nat.le_of_ble_eq_true rfl⟩) (xf_preS0) rfl rfl hl.1 rfl (lv_room (Nat.le_of_ble_eq_true rfl)) dM_drop_35 ⟨Nat.zero_le _, Nat.zero_le _⟩) (fun r hr9 => ?_)
        subst hr9
        refine xf_zald hx hb hK hP 1 1 rfl rfl (j := ((t * 8 + h) * 32 + v)) (by omega) (by decide) dM_drop_38 ?_
        refine xf_Bne (tgt := 44) hx hb dM_drop_39 (by decide) (fun c39 => ?_) (fun c39 => ?_)
        ·
          refine lv_aload_n hx hb dM_drop_44 rfl (lv_at hl 0 rfl) ?_
          refine va_get (D := (dC, dI)) (ci := 1) (v := .ref b1) (C := RX1) (T := TM) (N := 7) hx hb hts hin hown hK hP 0 rfl rfl 1 (by decide) hf_has (fun _ h9 => h9) rfl dM_drop_45 ?_
          refine lv_iload_n hx hb dM_drop_48 rfl (lv_at hl 1 rfl) ?_
          refine lv_iload_n hx hb dM_drop_49 rfl (lv_at hl 2 rfl) ?_
          refine lv_iload_n hx hb dM_drop_50 rfl (lv_at hl 3 rfl) ?_
          refine vp_callSi (W.runS (As := [.int (nI t), .int (nI h), .int (nI v)]) (rest := [.ref b1]) ⟨hx, hb, hml, hown, hts⟩ (m_at l t h v) (va_cwS 3 hts gM_drop_at rfl rfl rfl (by decide +kernel) ⟨Nat.le_of_ble_eq_true rfl, Nat.le_of_ble_eq_true rfl⟩) (xf_preS0) rfl rfl hl.1 rfl (lv_room (Nat.le_of_ble_eq_true rfl)) dM_drop_51 ⟨Nat.zero_le _, Nat.zero_le _⟩) (fun r hr9 => ?_)
          subst hr9
          refine lv_iconst (v := nI 0) hx hb dM_drop_54 (by decide) ?_
          refine xf_zast (b := false) hx hb hK hP hD hS 1 1 rfl rfl rfl (j := ((t * 8 + h) * 32 + v)) (by omega) (by decide) dM_drop_55 (fun H locs hP hD hS => ?_)
          have hP : va_P (dC, dI) fmCl (mw h0 b1 b2 b3 b4 b5 cI cZ (va_up mh ((t * 8 + h) * 32 + v) false) ma mc mt mn (nI 0) ro) H := hP
          have hD : va_D A (mw h0 b1 b2 b3 b4 b5 cI cZ (va_up mh ((t * 8 + h) * 32 + v) false) ma mc mt mn (nI 0) ro) := hD
          refine lv_aload_n hx hb dM_drop_56 rfl (lv_at hl 0 rfl) ?_
          refine lv_dup hx hb dM_drop_57 rfl ?_
          refine va_get (D := (dC, dI)) (ci := 1) (v := .int ro) (C := RX1) (T := TM) (N := 7) hx hb hts hin hown hK hP 0 rfl rfl 6 (by decide) hf_rows (fun _ h9 => h9) rfl dM_drop_58 ?_
          refine lv_iconst (v := nI 1) hx hb dM_drop_61 (by decide) ?_
          refine lv_isub hx hb dM_drop_62 ?_
          refine va_put (D := (dC, dI)) (ci := 1) (v := .int (ro - (nI 1))) (ty := .int) (C := RX1) (T := TM) (N := 7) hx hb hts hin tyM tyM_ok nmM hown hK hP hD hS 0 rfl rfl 6 (by decide) hf_rows (fun _ h9 => h9) rfl (by decide +kernel) rfl rfl (Nat.le_of_ble_eq_true rfl) dM_drop_63 (fun H locs hP hD hS => ?_)
          have hP : va_P (dC, dI) fmCl (mw h0 b1 b2 b3 b4 b5 cI cZ (va_up mh ((t * 8 + h) * 32 + v) false) ma mc mt mn (nI 0) (ro - (nI 1))) H := hP
          have hD : va_D A (mw h0 b1 b2 b3 b4 b5 cI cZ (va_up mh ((t * 8 + h) * 32 + v) false) ma mc mt mn (nI 0) (ro - (nI 1))) := hD
          refine lv_iconst (v := nI 1) hx hb dM_drop_66 (by decide) ?_
          exact W.iret (v := nI 1) hx hb hr (fun t9 ht9 hW9 => ⟨⟨_, (va_up mh ((t * 8 + h) * 32 + v) false, ma, mc, mt, mn, nI 0, ro - (nI 1)), rfl, by simp [mdDrop, c9, et, c16, eh, c23, ev, c39], xf_hP ht9 hP⟩, hS.F ht9⟩) hS.2.2 dM_drop_67
        ·
          refine lv_iconst (v := nI 0) hx hb dM_drop_42 (by decide) ?_
          exact W.iret (v := nI 0) hx hb hr (fun t9 ht9 hW9 => ⟨⟨_, (mh, ma, mc, mt, mn, nI 0, ro), rfl, by simp [mdDrop, c9, et, c16, eh, c23, ev, c39], xf_hP ht9 hP⟩, hS.F ht9⟩) hS.2.2 dM_drop_43
      ·
        refine lv_iconst (v := (-1)) hx hb dM_drop_26 (by decide) ?_
        exact W.iret (v := (-1)) hx hb hr (fun t9 ht9 hW9 => ⟨⟨_, (mh, ma, mc, mt, mn, nI 0, ro), rfl, by simp [mdDrop, c9, et, c16, eh, c23], xf_hP ht9 hP⟩, hS.F ht9⟩) hS.2.2 dM_drop_27
set_option maxHeartbeats 4000000 in
set_option maxRecDepth 100000 in
/-- above(pk, pu) -/
theorem m_above (l : Launch) (dC : Nat → ClassId) (dI : Nat → Nat → Nat) (h0 b1 b2 b3 b4 b5 : Nat) (cI cZ : ClassId) (mh : Nat → Bool) (ma : Nat → Int32) (mc : Nat → Bool) (mt mn : Nat → Int32) (cd ro : Int32) (pk pu : Int32) (hOk : mdOk ma) (hAc : mdAc ma) : Met l yM_above wsM_above ({ frames := 1, cells := 0, slots := 0, locals := 23 }) (va_Pc [.ref h0, .int pk, .int pu] (fun U => va_P (dC, dI) fmCl (mw h0 b1 b2 b3 b4 b5 cI cZ mh ma mc mt mn cd ro) U.heap ∧ va_K (dC, dI) fmCl [(cI, .int), (cZ, .boolean)] U ∧ va_D (fun _ => True) (mw h0 b1 b2 b3 b4 b5 cI cZ mh ma mc mt mn cd ro))) (va_Qi (fun (r : Int32) (u : MdS) => (r, u) = mdAbove mh ma mc mt mn ro pk pu) (fun u t => va_P (dC, dI) fmCl (mw h0 b1 b2 b3 b4 b5 cI cZ u.1 u.2.1 u.2.2.1 u.2.2.2.1 u.2.2.2.2.1 u.2.2.2.2.2.1 u.2.2.2.2.2.2) t.heap) (xf_A (mw h0 b1 b2 b3 b4 b5 cI cZ mh ma mc mt mn cd ro))) 0 0 (xf_A (mw h0 b1 b2 b3 b4 b5 cI cZ mh ma mc mt mn cd ro)) := by
  refine Met.ofW (cc := cM_above) (maxL := 3) (ret := (some .int)) (by decide) rfl ?_
  intro p e s m args below meth c s₁ B hml hv
  obtain ⟨rfl, hP, hK, hD0⟩ := hv
  have hx := B.exec
  have hb := B.bytes
  have hr := B.returns
  have hts := atoms_spec (ws := wsM_above) B.pre
  have hown : s.vm.findClass RX1 = some m.cls := findClass_of_methodNamed B.named
  have hlocks := B.notSynchronized
  have hin : ∀ w ∈ u_ws RX1 TM 7, w ∈ wsM_above := by decide +kernel
  have hf_code := hts (.fieldLink RX1 26 "FacetCountsModel" "code" "I") (by decide +kernel)
  have hf_above := hts (.fieldLink RX1 13 "FacetCountsModel" "above" "[I") (by decide +kernel)
  have hD := xf_A_self hD0
  generalize hAe : xf_A (mw h0 b1 b2 b3 b4 b5 cI cZ mh ma mc mt mn cd ro) = A at hD ⊢
  have hS : va_S A s.heap s.heap [] := va_S.rf
  have hP : va_P (dC, dI) fmCl (mw h0 b1 b2 b3 b4 b5 cI cZ mh ma mc mt mn cd ro) s.heap := hP
  have hl := lv_entry ([.ref h0, .int pk, .int pu]) (n := 3) (Nat.le_of_ble_eq_true rfl)
  rw [lg_entry_eq]
  generalize (lg_sl ([.ref h0, .int pk, .int pu]) ++ List.replicate (3 - (lg_sl ([.ref h0, .int pk, .int pu])).length) Slot.unset).toArray = ls at hl ⊢
  have hl : lv_has ls 3 [(0, .ref h0), (1, .int pk), (2, .int pu)] := hl
  refine lv_aload_n hx hb dM_above_0 rfl (lv_at hl 0 rfl) ?_
  refine lv_iconst (v := nI 0) hx hb dM_above_1 (by decide) ?_
  refine va_put (D := (dC, dI)) (ci := 1) (v := .int (nI 0)) (ty := .int) (C := RX1) (T := TM) (N := 7) hx hb hts hin tyM tyM_ok nmM hown hK hP hD hS 0 rfl rfl 0 (by decide) hf_code (fun _ h9 => h9) rfl (by decide +kernel) rfl rfl (Nat.le_of_ble_eq_true rfl) dM_above_2 (fun H locs hP hD hS => ?_)
  have hP : va_P (dC, dI) fmCl (mw h0 b1 b2 b3 b4 b5 cI cZ mh ma mc mt mn (nI 0) ro) H := hP
  have hD : va_D A (mw h0 b1 b2 b3 b4 b5 cI cZ mh ma mc mt mn (nI 0) ro) := hD
  refine lv_iload_n hx hb dM_above_5 rfl (lv_at hl 1 rfl) ?_
  refine vp_callSi (W.runS (As := [.int pk]) (rest := []) ⟨hx, hb, hml, hown, hts⟩ (m_isValue l pk) (va_cwS 1 hts gM_above_isValue rfl rfl rfl (by decide +kernel) ⟨Nat.le_of_ble_eq_true rfl, Nat.le_of_ble_eq_true rfl⟩) (xf_preS0) rfl rfl hl.1 rfl (lv_room (Nat.le_of_ble_eq_true rfl)) dM_above_6 ⟨Nat.zero_le _, Nat.zero_le _⟩) (fun r hr9 => ?_)
  subst hr9
  refine xf_Beq (tgt := 24) hx hb dM_above_9 (by decide) (fun c9 => ?_) (fun c9 => ?_)
  ·
    refine lv_iconst (v := (-1)) hx hb dM_above_24 (by decide) ?_
    exact W.iret (v := (-1)) hx hb hr (fun t9 ht9 hW9 => ⟨⟨_, (mh, ma, mc, mt, mn, nI 0, ro), rfl, by simp [mdAbove, c9], xf_hP ht9 hP⟩, hS.F ht9⟩) hS.2.2 dM_above_25
  ·
    obtain ⟨k, hk, rfl⟩ := xf_in_of c9 (by decide)
    have ek : (nI k).toNatClampNeg = k := nI_clamp (by omega)
    refine lv_iload_n hx hb dM_above_12 rfl (lv_at hl 2 rfl) ?_
    refine lv_iconst (v := (-1)) hx hb dM_above_13 (by decide) ?_
    refine lv_icmp_eq (tgt := 26) hx hb dM_above_14 (by decide) (fun c14 => ?_) (fun c14 => ?_)
    ·
      refine lv_aload_n hx hb dM_above_26 rfl (lv_at hl 0 rfl) ?_
      refine va_get (D := (dC, dI)) (ci := 1) (v := .ref b2) (C := RX1) (T := TM) (N := 7) hx hb hts hin hown hK hP 0 rfl rfl 2 (by decide) hf_above (fun _ h9 => h9) rfl dM_above_27 ?_
      refine lv_iload_n hx hb dM_above_30 rfl (lv_at hl 1 rfl) ?_
      refine xf_iald hx hb hK hP 2 0 rfl rfl (j := k) (by omega) (by decide) dM_above_31 ?_
      refine lv_iload_n hx hb dM_above_32 rfl (lv_at hl 2 rfl) ?_
      refine lv_icmp_ne (tgt := 38) hx hb dM_above_33 (by decide) (fun c33 => ?_) (fun c33 => ?_)
      ·
        refine lv_iload_n hx hb dM_above_38 rfl (lv_at hl 2 rfl) ?_
        refine lv_iconst (v := (-1)) hx hb dM_above_39 (by decide) ?_
        refine lv_icmp_eq (tgt := 55) hx hb dM_above_40 (by decide) (fun c40 => ?_) (fun c40 => ?_)
        ·
          refine lv_aload_n hx hb dM_above_55 rfl (lv_at hl 0 rfl) ?_
          refine va_get (D := (dC, dI)) (ci := 1) (v := .ref b2) (C := RX1) (T := TM) (N := 7) hx hb hts hin hown hK hP 0 rfl rfl 2 (by decide) hf_above (fun _ h9 => h9) rfl dM_above_56 ?_
          refine lv_iload_n hx hb dM_above_59 rfl (lv_at hl 1 rfl) ?_
          refine lv_iload_n hx hb dM_above_60 rfl (lv_at hl 2 rfl) ?_
          refine xf_iast hx hb hK hP hD hS 2 0 rfl rfl (j := k) (by omega) (by decide) dM_above_61 (fun H locs hP hD hS => ?_)
          have hP : va_P (dC, dI) fmCl (mw h0 b1 b2 b3 b4 b5 cI cZ mh (upd ma k pu) mc mt mn (nI 0) ro) H := hP
          have hD : va_D A (mw h0 b1 b2 b3 b4 b5 cI cZ mh (upd ma k pu) mc mt mn (nI 0) ro) := hD
          refine lv_iconst (v := nI 1) hx hb dM_above_62 (by decide) ?_
          exact W.iret (v := nI 1) hx hb hr (fun t9 ht9 hW9 => ⟨⟨_, (mh, upd ma k pu, mc, mt, mn, nI 0, ro), rfl, by subst c14; simp [mdAbove, c9, ek, c33], xf_hP ht9 hP⟩, hS.F ht9⟩) hS.2.2 dM_above_63
        ·
          exact absurd c14 c40
      ·
        refine lv_iconst (v := nI 0) hx hb dM_above_36 (by decide) ?_
        exact W.iret (v := nI 0) hx hb hr (fun t9 ht9 hW9 => ⟨⟨_, (mh, ma, mc, mt, mn, nI 0, ro), rfl, by subst c14; simp [mdAbove, c9, ek, c33], xf_hP ht9 hP⟩, hS.F ht9⟩) hS.2.2 dM_above_37
    ·
      refine lv_iload_n hx hb dM_above_17 rfl (lv_at hl 2 rfl) ?_
      refine vp_callSi (W.runS (As := [.int pu]) (rest := []) ⟨hx, hb, hml, hown, hts⟩ (m_isValue l pu) (va_cwS 1 hts gM_above_isValue rfl rfl rfl (by decide +kernel) ⟨Nat.le_of_ble_eq_true rfl, Nat.le_of_ble_eq_true rfl⟩) (xf_preS0) rfl rfl hl.1 rfl (lv_room (Nat.le_of_ble_eq_true rfl)) dM_above_18 ⟨Nat.zero_le _, Nat.zero_le _⟩) (fun r hr9 => ?_)
      subst hr9
      refine xf_Bne (tgt := 26) hx hb dM_above_21 (by decide) (fun c21 => ?_) (fun c21 => ?_)
      ·
        obtain ⟨u, hu, rfl⟩ := xf_in_of c21 (by decide)
        have eu : (nI u).toNatClampNeg = u := nI_clamp (by omega)
        refine lv_aload_n hx hb dM_above_26 rfl (lv_at hl 0 rfl) ?_
        refine va_get (D := (dC, dI)) (ci := 1) (v := .ref b2) (C := RX1) (T := TM) (N := 7) hx hb hts hin hown hK hP 0 rfl rfl 2 (by decide) hf_above (fun _ h9 => h9) rfl dM_above_27 ?_
        refine lv_iload_n hx hb dM_above_30 rfl (lv_at hl 1 rfl) ?_
        refine xf_iald hx hb hK hP 2 0 rfl rfl (j := k) (by omega) (by decide) dM_above_31 ?_
        refine lv_iload_n hx hb dM_above_32 rfl (lv_at hl 2 rfl) ?_
        refine lv_icmp_ne (tgt := 38) hx hb dM_above_33 (by decide) (fun c33 => ?_) (fun c33 => ?_)
        ·
          refine lv_iload_n hx hb dM_above_38 rfl (lv_at hl 2 rfl) ?_
          refine lv_iconst (v := (-1)) hx hb dM_above_39 (by decide) ?_
          refine lv_icmp_eq (tgt := 55) hx hb dM_above_40 (by decide) (fun c40 => ?_) (fun c40 => ?_)
          ·
            exact absurd c40 c14
          ·
            refine lv_aload_n hx hb dM_above_43 rfl (lv_at hl 0 rfl) ?_
            refine lv_iload_n hx hb dM_above_44 rfl (lv_at hl 2 rfl) ?_
            refine lv_iload_n hx hb dM_above_45 rfl (lv_at hl 1 rfl) ?_
            refine vp_callSi (W.runV (As := [.int (nI u), .int (nI k)]) (rest := []) ⟨hx, hb, hml, hown, hts⟩ (m_isUnder l dC dI h0 b1 b2 b3 b4 b5 cI cZ mh ma mc mt mn (nI 0) ro u k (by omega) (by omega) hOk hAc) (cwV 2 hts gM_above_isUnder rfl rfl rfl (by decide +kernel) ⟨Nat.le_of_ble_eq_true rfl, Nat.le_of_ble_eq_true rfl⟩) (xf_preV (ci := 1) (RX1, TM, 7) hK hP rfl rfl) rfl rfl hl.1 rfl (lv_room (Nat.le_of_ble_eq_true rfl)) dM_above_46 ⟨Nat.zero_le _, Nat.zero_le _⟩) (fun r hr9 => ?_)
            subst hr9
            refine xf_Beq (tgt := 55) hx hb dM_above_49 (by decide) (fun c49 => ?_) (fun c49 => ?_)
            ·
              refine lv_aload_n hx hb dM_above_55 rfl (lv_at hl 0 rfl) ?_
              refine va_get (D := (dC, dI)) (ci := 1) (v := .ref b2) (C := RX1) (T := TM) (N := 7) hx hb hts hin hown hK hP 0 rfl rfl 2 (by decide) hf_above (fun _ h9 => h9) rfl dM_above_56 ?_
              refine lv_iload_n hx hb dM_above_59 rfl (lv_at hl 1 rfl) ?_
              refine lv_iload_n hx hb dM_above_60 rfl (lv_at hl 2 rfl) ?_
              refine xf_iast hx hb hK hP hD hS 2 0 rfl rfl (j := k) (by omega) (by decide) dM_above_61 (fun H locs hP hD hS => ?_)
              have hP : va_P (dC, dI) fmCl (mw h0 b1 b2 b3 b4 b5 cI cZ mh (upd ma k (nI u)) mc mt mn (nI 0) ro) H := hP
              have hD : va_D A (mw h0 b1 b2 b3 b4 b5 cI cZ mh (upd ma k (nI u)) mc mt mn (nI 0) ro) := hD
              refine lv_iconst (v := nI 1) hx hb dM_above_62 (by decide) ?_
              exact W.iret (v := nI 1) hx hb hr (fun t9 ht9 hW9 => ⟨⟨_, (mh, upd ma k (nI u), mc, mt, mn, nI 0, ro), rfl, by simp [mdAbove, c9, ek, c14, c21, eu, c33, c49], xf_hP ht9 hP⟩, hS.F ht9⟩) hS.2.2 dM_above_63
            ·
              refine lv_bipush (v := (-3)) hx hb dM_above_52 (by decide) ?_
              exact W.iret (v := (-3)) hx hb hr (fun t9 ht9 hW9 => ⟨⟨_, (mh, ma, mc, mt, mn, nI 0, ro), rfl, by simp [mdAbove, c9, ek, c14, c21, eu, c33, c49], xf_hP ht9 hP⟩, hS.F ht9⟩) hS.2.2 dM_above_54
        ·
          refine lv_iconst (v := nI 0) hx hb dM_above_36 (by decide) ?_
          exact W.iret (v := nI 0) hx hb hr (fun t9 ht9 hW9 => ⟨⟨_, (mh, ma, mc, mt, mn, nI 0, ro), rfl, by simp [mdAbove, c9, ek, c14, c21, eu, c33], xf_hP ht9 hP⟩, hS.F ht9⟩) hS.2.2 dM_above_37
      ·
        refine lv_iconst (v := (-1)) hx hb dM_above_24 (by decide) ?_
        exact W.iret (v := (-1)) hx hb hr (fun t9 ht9 hW9 => ⟨⟨_, (mh, ma, mc, mt, mn, nI 0, ro), rfl, by simp [mdAbove, c9, ek, c14, c21], xf_hP ht9 hP⟩, hS.F ht9⟩) hS.2.2 dM_above_25
set_option maxHeartbeats 4000000 in
set_option maxRecDepth 100000 in
/-- choose(ph, pv, on) -/
theorem m_choose (l : Launch) (dC : Nat → ClassId) (dI : Nat → Nat → Nat) (h0 b1 b2 b3 b4 b5 : Nat) (cI cZ : ClassId) (mh : Nat → Bool) (ma : Nat → Int32) (mc : Nat → Bool) (mt mn : Nat → Int32) (cd ro : Int32) (ph pv : Int32) (on : Bool) (hOk : mdOk ma) (hAc : mdAc ma) : Met l yM_choose wsM_choose ({ frames := 5, cells := 0, slots := 0, locals := 120 }) (va_Pc [.ref h0, .int ph, .int pv, .int (xf_B on)] (fun U => va_P (dC, dI) fmCl (mw h0 b1 b2 b3 b4 b5 cI cZ mh ma mc mt mn cd ro) U.heap ∧ va_K (dC, dI) fmCl [(cI, .int), (cZ, .boolean)] U ∧ va_D (fun _ => True) (mw h0 b1 b2 b3 b4 b5 cI cZ mh ma mc mt mn cd ro))) (va_Qi (fun (r : Int32) (u : MdS) => (r, u) = mdChoose mh ma mc mt mn ro ph pv on) (fun u t => va_P (dC, dI) fmCl (mw h0 b1 b2 b3 b4 b5 cI cZ u.1 u.2.1 u.2.2.1 u.2.2.2.1 u.2.2.2.2.1 u.2.2.2.2.2.1 u.2.2.2.2.2.2) t.heap) (xf_A (mw h0 b1 b2 b3 b4 b5 cI cZ mh ma mc mt mn cd ro))) 0 0 (xf_A (mw h0 b1 b2 b3 b4 b5 cI cZ mh ma mc mt mn cd ro)) := by
  refine Met.ofW (cc := cM_choose) (maxL := 4) (ret := (some .int)) (by decide) rfl ?_
  intro p e s m args below meth c s₁ B hml hv
  obtain ⟨rfl, hP, hK, hD0⟩ := hv
  have hx := B.exec
  have hb := B.bytes
  have hr := B.returns
  have hts := atoms_spec (ws := wsM_choose) B.pre
  have hown : s.vm.findClass RX1 = some m.cls := findClass_of_methodNamed B.named
  have hlocks := B.notSynchronized
  have hin : ∀ w ∈ u_ws RX1 TM 7, w ∈ wsM_choose := by decide +kernel
  have hf_code := hts (.fieldLink RX1 26 "FacetCountsModel" "code" "I") (by decide +kernel)
  have hf_chosen := hts (.fieldLink RX1 17 "FacetCountsModel" "chosen" "[Z") (by decide +kernel)
  have hD := xf_A_self hD0
  generalize hAe : xf_A (mw h0 b1 b2 b3 b4 b5 cI cZ mh ma mc mt mn cd ro) = A at hD ⊢
  have hS : va_S A s.heap s.heap [] := va_S.rf
  have hP : va_P (dC, dI) fmCl (mw h0 b1 b2 b3 b4 b5 cI cZ mh ma mc mt mn cd ro) s.heap := hP
  have hl := lv_entry ([.ref h0, .int ph, .int pv, .int (xf_B on)]) (n := 4) (Nat.le_of_ble_eq_true rfl)
  rw [lg_entry_eq]
  generalize (lg_sl ([.ref h0, .int ph, .int pv, .int (xf_B on)]) ++ List.replicate (4 - (lg_sl ([.ref h0, .int ph, .int pv, .int (xf_B on)])).length) Slot.unset).toArray = ls at hl ⊢
  have hl : lv_has ls 4 [(0, .ref h0), (1, .int ph), (2, .int pv), (3, .int (xf_B on))] := hl
  refine lv_aload_n hx hb dM_choose_0 rfl (lv_at hl 0 rfl) ?_
  refine lv_iconst (v := nI 0) hx hb dM_choose_1 (by decide) ?_
  refine va_put (D := (dC, dI)) (ci := 1) (v := .int (nI 0)) (ty := .int) (C := RX1) (T := TM) (N := 7) hx hb hts hin tyM tyM_ok nmM hown hK hP hD hS 0 rfl rfl 0 (by decide) hf_code (fun _ h9 => h9) rfl (by decide +kernel) rfl rfl (Nat.le_of_ble_eq_true rfl) dM_choose_2 (fun H locs hP hD hS => ?_)
  have hP : va_P (dC, dI) fmCl (mw h0 b1 b2 b3 b4 b5 cI cZ mh ma mc mt mn (nI 0) ro) H := hP
  have hD : va_D A (mw h0 b1 b2 b3 b4 b5 cI cZ mh ma mc mt mn (nI 0) ro) := hD
  refine lv_iload_n hx hb dM_choose_5 rfl (lv_at hl 1 rfl) ?_
  refine vp_callSi (W.runS (As := [.int ph]) (rest := []) ⟨hx, hb, hml, hown, hts⟩ (m_isHead l ph) (va_cwS 1 hts gM_choose_isHead rfl rfl rfl (by decide +kernel) ⟨Nat.le_of_ble_eq_true rfl, Nat.le_of_ble_eq_true rfl⟩) (xf_preS0) rfl rfl hl.1 rfl (lv_room (Nat.le_of_ble_eq_true rfl)) dM_choose_6 ⟨Nat.zero_le _, Nat.zero_le _⟩) (fun r hr9 => ?_)
  subst hr9
  refine xf_Beq (tgt := 19) hx hb dM_choose_9 (by decide) (fun c9 => ?_) (fun c9 => ?_)
  ·
    refine lv_iconst (v := (-1)) hx hb dM_choose_19 (by decide) ?_
    exact W.iret (v := (-1)) hx hb hr (fun t9 ht9 hW9 => ⟨⟨_, (mh, ma, mc, mt, mn, nI 0, ro), rfl, by simp [mdChoose, c9], xf_hP ht9 hP⟩, hS.F ht9⟩) hS.2.2 dM_choose_20
  ·
    obtain ⟨h, hh, rfl⟩ := xf_in_of c9 (by decide)
    have eh : (nI h).toNatClampNeg = h := nI_clamp (by omega)
    refine lv_iload_n hx hb dM_choose_12 rfl (lv_at hl 2 rfl) ?_
    refine vp_callSi (W.runS (As := [.int pv]) (rest := []) ⟨hx, hb, hml, hown, hts⟩ (m_isValue l pv) (va_cwS 1 hts gM_choose_isValue rfl rfl rfl (by decide +kernel) ⟨Nat.le_of_ble_eq_true rfl, Nat.le_of_ble_eq_true rfl⟩) (xf_preS0) rfl rfl hl.1 rfl (lv_room (Nat.le_of_ble_eq_true rfl)) dM_choose_13 ⟨Nat.zero_le _, Nat.zero_le _⟩) (fun r hr9 => ?_)
    subst hr9
    refine xf_Bne (tgt := 21) hx hb dM_choose_16 (by decide) (fun c16 => ?_) (fun c16 => ?_)
    ·
      obtain ⟨v, hv, rfl⟩ := xf_in_of c16 (by decide)
      have ev : (nI v).toNatClampNeg = v := nI_clamp (by omega)
      refine lv_aload_n hx hb dM_choose_21 rfl (lv_at hl 0 rfl) ?_
      refine va_get (D := (dC, dI)) (ci := 1) (v := .ref b3) (C := RX1) (T := TM) (N := 7) hx hb hts hin hown hK hP 0 rfl rfl 3 (by decide) hf_chosen (fun _ h9 => h9) rfl dM_choose_22 ?_
      refine lv_bipush (v := nI 32) hx hb dM_choose_25 (by decide) ?_
      refine lv_iload_n hx hb dM_choose_27 rfl (lv_at hl 1 rfl) ?_
      refine lv_imul hx hb dM_choose_28 ?_
      refine xf_be (y := nI (32 * h)) (by exact pk_mul _ _) ?_
      refine lv_iload_n hx hb dM_choose_29 rfl (lv_at hl 2 rfl) ?_
      refine lv_iadd hx hb dM_choose_30 ?_
      refine xf_be (y := nI (32 * h + v)) (by exact nI_add _ _) ?_
      refine lv_iload_n hx hb dM_choose_31 rfl (lv_at hl 3 rfl) ?_
      refine xf_zast (b := on) hx hb hK hP hD hS 3 1 rfl rfl rfl (j := (32 * h + v)) (by omega) (by decide) dM_choose_32 (fun H locs hP hD hS => ?_)
      have hP : va_P (dC, dI) fmCl (mw h0 b1 b2 b3 b4 b5 cI cZ mh ma (va_up mc (32 * h + v) on) mt mn (nI 0) ro) H := hP
      have hD : va_D A (mw h0 b1 b2 b3 b4 b5 cI cZ mh ma (va_up mc (32 * h + v) on) mt mn (nI 0) ro) := hD
      refine lv_aload_n hx hb dM_choose_33 rfl (lv_at hl 0 rfl) ?_
      refine lv_iconst (v := (-1)) hx hb dM_choose_34 (by decide) ?_
      refine vp_callSi (W.runV (As := [.int ((-1))]) (rest := []) ⟨hx, hb, hml, hown, hts⟩ (m_all l dC dI h0 b1 b2 b3 b4 b5 cI cZ mh ma (va_up mc (32 * h + v) on) mt mn (nI 0) ro ((-1)) hOk hAc) (cwV 1 hts gM_choose_all rfl rfl rfl (by decide +kernel) ⟨Nat.le_of_ble_eq_true rfl, Nat.le_of_ble_eq_true rfl⟩) (xf_preV (ci := 1) (RX1, TM, 7) hK hP rfl rfl) rfl rfl hl.1 rfl (lv_room (Nat.le_of_ble_eq_true rfl)) dM_choose_35 ⟨Nat.zero_le _, Nat.zero_le _⟩) (fun r hr9 => ?_)
      subst hr9
      exact W.iret (v := nI (xf_cnt (mdAP mh ma (va_up mc (32 * h + v) on) ((-1))) 40)) hx hb hr (fun t9 ht9 hW9 => ⟨⟨_, (mh, ma, va_up mc (32 * h + v) on, mt, mn, nI 0, ro), rfl, by simp [mdChoose, c9, eh, c16, ev], xf_hP ht9 hP⟩, hS.F ht9⟩) hS.2.2 dM_choose_38
    ·
      refine lv_iconst (v := (-1)) hx hb dM_choose_19 (by decide) ?_
      exact W.iret (v := (-1)) hx hb hr (fun t9 ht9 hW9 => ⟨⟨_, (mh, ma, mc, mt, mn, nI 0, ro), rfl, by simp [mdChoose, c9, eh, c16], xf_hP ht9 hP⟩, hS.F ht9⟩) hS.2.2 dM_choose_20
set_option maxHeartbeats 4000000 in
set_option maxRecDepth 100000 in
/-- kept() -/
theorem m_kept (l : Launch) (dC : Nat → ClassId) (dI : Nat → Nat → Nat) (h0 b1 b2 b3 b4 b5 : Nat) (cI cZ : ClassId) (mh : Nat → Bool) (ma : Nat → Int32) (mc : Nat → Bool) (mt mn : Nat → Int32) (cd ro : Int32) (hOk : mdOk ma) (hAc : mdAc ma) : Met l yM_kept wsM_kept ({ frames := 5, cells := 0, slots := 0, locals := 120 }) (va_Pc [.ref h0] (fun U => va_P (dC, dI) fmCl (mw h0 b1 b2 b3 b4 b5 cI cZ mh ma mc mt mn cd ro) U.heap ∧ va_K (dC, dI) fmCl [(cI, .int), (cZ, .boolean)] U ∧ va_D (fun _ => True) (mw h0 b1 b2 b3 b4 b5 cI cZ mh ma mc mt mn cd ro))) (va_Qi (fun (r : Int32) (u : MdS) => (r, u) = (nI (xf_cnt (mdAP mh ma mc (-1)) 40), mh, ma, mc, mt, mn, nI 0, ro)) (fun u t => va_P (dC, dI) fmCl (mw h0 b1 b2 b3 b4 b5 cI cZ u.1 u.2.1 u.2.2.1 u.2.2.2.1 u.2.2.2.2.1 u.2.2.2.2.2.1 u.2.2.2.2.2.2) t.heap) (xf_A (mw h0 b1 b2 b3 b4 b5 cI cZ mh ma mc mt mn cd ro))) 0 0 (xf_A (mw h0 b1 b2 b3 b4 b5 cI cZ mh ma mc mt mn cd ro)) := by
  refine Met.ofW (cc := cM_kept) (maxL := 1) (ret := (some .int)) (by decide) rfl ?_
  intro p e s m args below meth c s₁ B hml hv
  obtain ⟨rfl, hP, hK, hD0⟩ := hv
  have hx := B.exec
  have hb := B.bytes
  have hr := B.returns
  have hts := atoms_spec (ws := wsM_kept) B.pre
  have hown : s.vm.findClass RX1 = some m.cls := findClass_of_methodNamed B.named
  have hlocks := B.notSynchronized
  have hin : ∀ w ∈ u_ws RX1 TM 7, w ∈ wsM_kept := by decide +kernel
  have hf_code := hts (.fieldLink RX1 26 "FacetCountsModel" "code" "I") (by decide +kernel)
  have hD := xf_A_self hD0
  generalize hAe : xf_A (mw h0 b1 b2 b3 b4 b5 cI cZ mh ma mc mt mn cd ro) = A at hD ⊢
  have hS : va_S A s.heap s.heap [] := va_S.rf
  have hP : va_P (dC, dI) fmCl (mw h0 b1 b2 b3 b4 b5 cI cZ mh ma mc mt mn cd ro) s.heap := hP
  have hl := lv_entry ([.ref h0]) (n := 1) (Nat.le_of_ble_eq_true rfl)
  rw [lg_entry_eq]
  generalize (lg_sl ([.ref h0]) ++ List.replicate (1 - (lg_sl ([.ref h0])).length) Slot.unset).toArray = ls at hl ⊢
  have hl : lv_has ls 1 [(0, .ref h0)] := hl
  refine lv_aload_n hx hb dM_kept_0 rfl (lv_at hl 0 rfl) ?_
  refine lv_iconst (v := nI 0) hx hb dM_kept_1 (by decide) ?_
  refine va_put (D := (dC, dI)) (ci := 1) (v := .int (nI 0)) (ty := .int) (C := RX1) (T := TM) (N := 7) hx hb hts hin tyM tyM_ok nmM hown hK hP hD hS 0 rfl rfl 0 (by decide) hf_code (fun _ h9 => h9) rfl (by decide +kernel) rfl rfl (Nat.le_of_ble_eq_true rfl) dM_kept_2 (fun H locs hP hD hS => ?_)
  have hP : va_P (dC, dI) fmCl (mw h0 b1 b2 b3 b4 b5 cI cZ mh ma mc mt mn (nI 0) ro) H := hP
  have hD : va_D A (mw h0 b1 b2 b3 b4 b5 cI cZ mh ma mc mt mn (nI 0) ro) := hD
  refine lv_aload_n hx hb dM_kept_5 rfl (lv_at hl 0 rfl) ?_
  refine lv_iconst (v := (-1)) hx hb dM_kept_6 (by decide) ?_
  refine vp_callSi (W.runV (As := [.int ((-1))]) (rest := []) ⟨hx, hb, hml, hown, hts⟩ (m_all l dC dI h0 b1 b2 b3 b4 b5 cI cZ mh ma mc mt mn (nI 0) ro ((-1)) hOk hAc) (cwV 1 hts gM_kept_all rfl rfl rfl (by decide +kernel) ⟨Nat.le_of_ble_eq_true rfl, Nat.le_of_ble_eq_true rfl⟩) (xf_preV (ci := 1) (RX1, TM, 7) hK hP rfl rfl) rfl rfl hl.1 rfl (lv_room (Nat.le_of_ble_eq_true rfl)) dM_kept_7 ⟨Nat.zero_le _, Nat.zero_le _⟩) (fun r hr9 => ?_)
  subst hr9
  exact W.iret (v := nI (xf_cnt (mdAP mh ma mc ((-1))) 40)) hx hb hr (fun t9 ht9 hW9 => ⟨⟨_, (mh, ma, mc, mt, mn, nI 0, ro), rfl, rfl, xf_hP ht9 hP⟩, hS.F ht9⟩) hS.2.2 dM_kept_10
set_option maxHeartbeats 4000000 in
set_option maxRecDepth 100000 in
/-- isKept(pt) -/
theorem m_isKept (l : Launch) (dC : Nat → ClassId) (dI : Nat → Nat → Nat) (h0 b1 b2 b3 b4 b5 : Nat) (cI cZ : ClassId) (mh : Nat → Bool) (ma : Nat → Int32) (mc : Nat → Bool) (mt mn : Nat → Int32) (cd ro : Int32) (pt : Int32) (hOk : mdOk ma) (hAc : mdAc ma) : Met l yM_isKept wsM_isKept ({ frames := 4, cells := 0, slots := 0, locals := 97 }) (va_Pc [.ref h0, .int pt] (fun U => va_P (dC, dI) fmCl (mw h0 b1 b2 b3 b4 b5 cI cZ mh ma mc mt mn cd ro) U.heap ∧ va_K (dC, dI) fmCl [(cI, .int), (cZ, .boolean)] U ∧ va_D (fun _ => True) (mw h0 b1 b2 b3 b4 b5 cI cZ mh ma mc mt mn cd ro))) (va_Qi (fun (r : Int32) (u : MdS) => (r, u) = (mdIsKept mh ma mc pt, mh, ma, mc, mt, mn, nI 0, ro)) (fun u t => va_P (dC, dI) fmCl (mw h0 b1 b2 b3 b4 b5 cI cZ u.1 u.2.1 u.2.2.1 u.2.2.2.1 u.2.2.2.2.1 u.2.2.2.2.2.1 u.2.2.2.2.2.2) t.heap) (xf_A (mw h0 b1 b2 b3 b4 b5 cI cZ mh ma mc mt mn cd ro))) 0 0 (xf_A (mw h0 b1 b2 b3 b4 b5 cI cZ mh ma mc mt mn cd ro)) := by
  refine Met.ofW (cc := cM_isKept) (maxL := 2) (ret := (some .int)) (by decide) rfl ?_
  intro p e s m args below meth c s₁ B hml hv
  obtain ⟨rfl, hP, hK, hD0⟩ := hv
  have hx := B.exec
  have hb := B.bytes
  have hr := B.returns
  have hts := atoms_spec (ws := wsM_isKept) B.pre
  have hown : s.vm.findClass RX1 = some m.cls := findClass_of_methodNamed B.named
  have hlocks := B.notSynchronized
  have hin : ∀ w ∈ u_ws RX1 TM 7, w ∈ wsM_isKept := by decide +kernel
  have hf_code := hts (.fieldLink RX1 26 "FacetCountsModel" "code" "I") (by decide +kernel)
  have hD := xf_A_self hD0
  generalize hAe : xf_A (mw h0 b1 b2 b3 b4 b5 cI cZ mh ma mc mt mn cd ro) = A at hD ⊢
  have hS : va_S A s.heap s.heap [] := va_S.rf
  have hP : va_P (dC, dI) fmCl (mw h0 b1 b2 b3 b4 b5 cI cZ mh ma mc mt mn cd ro) s.heap := hP
  have hl := lv_entry ([.ref h0, .int pt]) (n := 2) (Nat.le_of_ble_eq_true rfl)
  rw [lg_entry_eq]
  generalize (lg_sl ([.ref h0, .int pt]) ++ List.replicate (2 - (lg_sl ([.ref h0, .int pt])).length) Slot.unset).toArray = ls at hl ⊢
  have hl : lv_has ls 2 [(0, .ref h0), (1, .int pt)] := hl
  refine lv_aload_n hx hb dM_isKept_0 rfl (lv_at hl 0 rfl) ?_
  refine lv_iconst (v := nI 0) hx hb dM_isKept_1 (by decide) ?_
  refine va_put (D := (dC, dI)) (ci := 1) (v := .int (nI 0)) (ty := .int) (C := RX1) (T := TM) (N := 7) hx hb hts hin tyM tyM_ok nmM hown hK hP hD hS 0 rfl rfl 0 (by decide) hf_code (fun _ h9 => h9) rfl (by decide +kernel) rfl rfl (Nat.le_of_ble_eq_true rfl) dM_isKept_2 (fun H locs hP hD hS => ?_)
  have hP : va_P (dC, dI) fmCl (mw h0 b1 b2 b3 b4 b5 cI cZ mh ma mc mt mn (nI 0) ro) H := hP
  have hD : va_D A (mw h0 b1 b2 b3 b4 b5 cI cZ mh ma mc mt mn (nI 0) ro) := hD
  refine lv_iload_n hx hb dM_isKept_5 rfl (lv_at hl 1 rfl) ?_
  refine vp_callSi (W.runS (As := [.int pt]) (rest := []) ⟨hx, hb, hml, hown, hts⟩ (m_isThing l pt) (va_cwS 1 hts gM_isKept_isThing rfl rfl rfl (by decide +kernel) ⟨Nat.le_of_ble_eq_true rfl, Nat.le_of_ble_eq_true rfl⟩) (xf_preS0) rfl rfl hl.1 rfl (lv_room (Nat.le_of_ble_eq_true rfl)) dM_isKept_6 ⟨Nat.zero_le _, Nat.zero_le _⟩) (fun r hr9 => ?_)
  subst hr9
  refine xf_Bne (tgt := 16) hx hb dM_isKept_9 (by decide) (fun c9 => ?_) (fun c9 => ?_)
  ·
    obtain ⟨t, ht, rfl⟩ := xf_in_of c9 (by decide)
    have et : (nI t).toNatClampNeg = t := nI_clamp (by omega)
    refine lv_aload_n hx hb dM_isKept_16 rfl (lv_at hl 0 rfl) ?_
    refine lv_iload_n hx hb dM_isKept_17 rfl (lv_at hl 1 rfl) ?_
    refine lv_iconst (v := (-1)) hx hb dM_isKept_18 (by decide) ?_
    refine vp_callSi (W.runV (As := [.int (nI t), .int ((-1))]) (rest := []) ⟨hx, hb, hml, hown, hts⟩ (m_isKeptBut l dC dI h0 b1 b2 b3 b4 b5 cI cZ mh ma mc mt mn (nI 0) ro t ((-1)) (by omega) hOk hAc) (cwV 2 hts gM_isKept_isKeptBut rfl rfl rfl (by decide +kernel) ⟨Nat.le_of_ble_eq_true rfl, Nat.le_of_ble_eq_true rfl⟩) (xf_preV (ci := 1) (RX1, TM, 7) hK hP rfl rfl) rfl rfl hl.1 rfl (lv_room (Nat.le_of_ble_eq_true rfl)) dM_isKept_19 ⟨Nat.zero_le _, Nat.zero_le _⟩) (fun r hr9 => ?_)
    subst hr9
    refine xf_Beq (tgt := 29) hx hb dM_isKept_22 (by decide) (fun c22 => ?_) (fun c22 => ?_)
    ·
      refine lv_iconst (v := nI 0) hx hb dM_isKept_29 (by decide) ?_
      exact W.iret (v := nI 0) hx hb hr (fun t9 ht9 hW9 => ⟨⟨_, (mh, ma, mc, mt, mn, nI 0, ro), rfl, by simp [mdIsKept, xf_B, c9, et, c22], xf_hP ht9 hP⟩, hS.F ht9⟩) hS.2.2 dM_isKept_30
    ·
      refine lv_iconst (v := nI 1) hx hb dM_isKept_25 (by decide) ?_
      refine lv_goto (tgt := 30) hx hb dM_isKept_26 (by decide) ?_
      exact W.iret (v := nI 1) hx hb hr (fun t9 ht9 hW9 => ⟨⟨_, (mh, ma, mc, mt, mn, nI 0, ro), rfl, by simp [mdIsKept, xf_B, c9, et, c22], xf_hP ht9 hP⟩, hS.F ht9⟩) hS.2.2 dM_isKept_30
  ·
    refine lv_iconst (v := (-1)) hx hb dM_isKept_12 (by decide) ?_
    refine lv_goto (tgt := 30) hx hb dM_isKept_13 (by decide) ?_
    exact W.iret (v := (-1)) hx hb hr (fun t9 ht9 hW9 => ⟨⟨_, (mh, ma, mc, mt, mn, nI 0, ro), rfl, by simp [mdIsKept, xf_B, c9], xf_hP ht9 hP⟩, hS.F ht9⟩) hS.2.2 dM_isKept_30
set_option maxHeartbeats 4000000 in
set_option maxRecDepth 100000 in
/-- facet(ph, pv) -/
theorem m_facet (l : Launch) (dC : Nat → ClassId) (dI : Nat → Nat → Nat) (h0 b1 b2 b3 b4 b5 : Nat) (cI cZ : ClassId) (mh : Nat → Bool) (ma : Nat → Int32) (mc : Nat → Bool) (mt mn : Nat → Int32) (cd ro : Int32) (ph pv : Int32) (hOk : mdOk ma) (hAc : mdAc ma) : Met l yM_facet wsM_facet ({ frames := 5, cells := 0, slots := 0, locals := 121 }) (va_Pc [.ref h0, .int ph, .int pv] (fun U => va_P (dC, dI) fmCl (mw h0 b1 b2 b3 b4 b5 cI cZ mh ma mc mt mn cd ro) U.heap ∧ va_K (dC, dI) fmCl [(cI, .int), (cZ, .boolean)] U ∧ va_D (fun _ => True) (mw h0 b1 b2 b3 b4 b5 cI cZ mh ma mc mt mn cd ro))) (va_Qi (fun (r : Int32) (u : MdS) => (r, u) = (mdFacet mh ma mc ph pv, mh, ma, mc, mt, mn, nI 0, ro)) (fun u t => va_P (dC, dI) fmCl (mw h0 b1 b2 b3 b4 b5 cI cZ u.1 u.2.1 u.2.2.1 u.2.2.2.1 u.2.2.2.2.1 u.2.2.2.2.2.1 u.2.2.2.2.2.2) t.heap) (xf_A (mw h0 b1 b2 b3 b4 b5 cI cZ mh ma mc mt mn cd ro))) 0 0 (xf_A (mw h0 b1 b2 b3 b4 b5 cI cZ mh ma mc mt mn cd ro)) := by
  refine Met.ofW (cc := cM_facet) (maxL := 3) (ret := (some .int)) (by decide) rfl ?_
  intro p e s m args below meth c s₁ B hml hv
  obtain ⟨rfl, hP, hK, hD0⟩ := hv
  have hx := B.exec
  have hb := B.bytes
  have hr := B.returns
  have hts := atoms_spec (ws := wsM_facet) B.pre
  have hown : s.vm.findClass RX1 = some m.cls := findClass_of_methodNamed B.named
  have hlocks := B.notSynchronized
  have hin : ∀ w ∈ u_ws RX1 TM 7, w ∈ wsM_facet := by decide +kernel
  have hf_code := hts (.fieldLink RX1 26 "FacetCountsModel" "code" "I") (by decide +kernel)
  have hD := xf_A_self hD0
  generalize hAe : xf_A (mw h0 b1 b2 b3 b4 b5 cI cZ mh ma mc mt mn cd ro) = A at hD ⊢
  have hS : va_S A s.heap s.heap [] := va_S.rf
  have hP : va_P (dC, dI) fmCl (mw h0 b1 b2 b3 b4 b5 cI cZ mh ma mc mt mn cd ro) s.heap := hP
  have hl := lv_entry ([.ref h0, .int ph, .int pv]) (n := 3) (Nat.le_of_ble_eq_true rfl)
  rw [lg_entry_eq]
  generalize (lg_sl ([.ref h0, .int ph, .int pv]) ++ List.replicate (3 - (lg_sl ([.ref h0, .int ph, .int pv])).length) Slot.unset).toArray = ls at hl ⊢
  have hl : lv_has ls 3 [(0, .ref h0), (1, .int ph), (2, .int pv)] := hl
  refine lv_aload_n hx hb dM_facet_0 rfl (lv_at hl 0 rfl) ?_
  refine lv_iconst (v := nI 0) hx hb dM_facet_1 (by decide) ?_
  refine va_put (D := (dC, dI)) (ci := 1) (v := .int (nI 0)) (ty := .int) (C := RX1) (T := TM) (N := 7) hx hb hts hin tyM tyM_ok nmM hown hK hP hD hS 0 rfl rfl 0 (by decide) hf_code (fun _ h9 => h9) rfl (by decide +kernel) rfl rfl (Nat.le_of_ble_eq_true rfl) dM_facet_2 (fun H locs hP hD hS => ?_)
  have hP : va_P (dC, dI) fmCl (mw h0 b1 b2 b3 b4 b5 cI cZ mh ma mc mt mn (nI 0) ro) H := hP
  have hD : va_D A (mw h0 b1 b2 b3 b4 b5 cI cZ mh ma mc mt mn (nI 0) ro) := hD
  refine lv_iload_n hx hb dM_facet_5 rfl (lv_at hl 1 rfl) ?_
  refine vp_callSi (W.runS (As := [.int ph]) (rest := []) ⟨hx, hb, hml, hown, hts⟩ (m_isHead l ph) (va_cwS 1 hts gM_facet_isHead rfl rfl rfl (by decide +kernel) ⟨Nat.le_of_ble_eq_true rfl, Nat.le_of_ble_eq_true rfl⟩) (xf_preS0) rfl rfl hl.1 rfl (lv_room (Nat.le_of_ble_eq_true rfl)) dM_facet_6 ⟨Nat.zero_le _, Nat.zero_le _⟩) (fun r hr9 => ?_)
  subst hr9
  refine xf_Beq (tgt := 28) hx hb dM_facet_9 (by decide) (fun c9 => ?_) (fun c9 => ?_)
  ·
    refine lv_iconst (v := (-1)) hx hb dM_facet_28 (by decide) ?_
    exact W.iret (v := (-1)) hx hb hr (fun t9 ht9 hW9 => ⟨⟨_, (mh, ma, mc, mt, mn, nI 0, ro), rfl, by simp [mdFacet, c9], xf_hP ht9 hP⟩, hS.F ht9⟩) hS.2.2 dM_facet_29
  ·
    obtain ⟨h, hh, rfl⟩ := xf_in_of c9 (by decide)
    have eh : (nI h).toNatClampNeg = h := nI_clamp (by omega)
    refine lv_iload_n hx hb dM_facet_12 rfl (lv_at hl 2 rfl) ?_
    refine vp_callSi (W.runS (As := [.int pv]) (rest := []) ⟨hx, hb, hml, hown, hts⟩ (m_isValue l pv) (va_cwS 1 hts gM_facet_isValue rfl rfl rfl (by decide +kernel) ⟨Nat.le_of_ble_eq_true rfl, Nat.le_of_ble_eq_true rfl⟩) (xf_preS0) rfl rfl hl.1 rfl (lv_room (Nat.le_of_ble_eq_true rfl)) dM_facet_13 ⟨Nat.zero_le _, Nat.zero_le _⟩) (fun r hr9 => ?_)
    subst hr9
    refine xf_Beq (tgt := 28) hx hb dM_facet_16 (by decide) (fun c16 => ?_) (fun c16 => ?_)
    ·
      refine lv_iconst (v := (-1)) hx hb dM_facet_28 (by decide) ?_
      exact W.iret (v := (-1)) hx hb hr (fun t9 ht9 hW9 => ⟨⟨_, (mh, ma, mc, mt, mn, nI 0, ro), rfl, by simp [mdFacet, c9, eh, c16], xf_hP ht9 hP⟩, hS.F ht9⟩) hS.2.2 dM_facet_29
    ·
      obtain ⟨v, hv, rfl⟩ := xf_in_of c16 (by decide)
      have ev : (nI v).toNatClampNeg = v := nI_clamp (by omega)
      refine lv_aload_n hx hb dM_facet_19 rfl (lv_at hl 0 rfl) ?_
      refine lv_iload_n hx hb dM_facet_20 rfl (lv_at hl 1 rfl) ?_
      refine lv_iload_n hx hb dM_facet_21 rfl (lv_at hl 2 rfl) ?_
      refine vp_callSi (W.runV (As := [.int (nI h), .int (nI v)]) (rest := []) ⟨hx, hb, hml, hown, hts⟩ (m_count l dC dI h0 b1 b2 b3 b4 b5 cI cZ mh ma mc mt mn (nI 0) ro h v (by omega) (by omega) hOk hAc) (cwV 2 hts gM_facet_count rfl rfl rfl (by decide +kernel) ⟨Nat.le_of_ble_eq_true rfl, Nat.le_of_ble_eq_true rfl⟩) (xf_preV (ci := 1) (RX1, TM, 7) hK hP rfl rfl) rfl rfl hl.1 rfl (lv_room (Nat.le_of_ble_eq_true rfl)) dM_facet_22 ⟨Nat.zero_le _, Nat.zero_le _⟩) (fun r hr9 => ?_)
      subst hr9
      refine lv_goto (tgt := 29) hx hb dM_facet_25 (by decide) ?_
      exact W.iret (v := nI (mdN mh ma mc h v)) hx hb hr (fun t9 ht9 hW9 => ⟨⟨_, (mh, ma, mc, mt, mn, nI 0, ro), rfl, by simp [mdFacet, c9, eh, c16, ev], xf_hP ht9 hP⟩, hS.F ht9⟩) hS.2.2 dM_facet_29
set_option maxHeartbeats 4000000 in
set_option maxRecDepth 100000 in
/-- range(ph, pa, pb) -/
theorem m_range (l : Launch) (dC : Nat → ClassId) (dI : Nat → Nat → Nat) (h0 b1 b2 b3 b4 b5 : Nat) (cI cZ : ClassId) (mh : Nat → Bool) (ma : Nat → Int32) (mc : Nat → Bool) (mt mn : Nat → Int32) (cd ro : Int32) (ph pa pb : Int32) (hOk : mdOk ma) (hAc : mdAc ma) : Met l yM_range wsM_range ({ frames := 4, cells := 0, slots := 0, locals := 97 }) (va_Pc [.ref h0, .int ph, .int pa, .int pb] (fun U => va_P (dC, dI) fmCl (mw h0 b1 b2 b3 b4 b5 cI cZ mh ma mc mt mn cd ro) U.heap ∧ va_K (dC, dI) fmCl [(cI, .int), (cZ, .boolean)] U ∧ va_D (fun _ => True) (mw h0 b1 b2 b3 b4 b5 cI cZ mh ma mc mt mn cd ro))) (va_Qi (fun (r : Int32) (u : MdS) => (r, u) = (mdRange mh ma mc ph pa pb, mh, ma, mc, mt, mn, nI 0, ro)) (fun u t => va_P (dC, dI) fmCl (mw h0 b1 b2 b3 b4 b5 cI cZ u.1 u.2.1 u.2.2.1 u.2.2.2.1 u.2.2.2.2.1 u.2.2.2.2.2.1 u.2.2.2.2.2.2) t.heap) (xf_A (mw h0 b1 b2 b3 b4 b5 cI cZ mh ma mc mt mn cd ro))) 0 0 (xf_A (mw h0 b1 b2 b3 b4 b5 cI cZ mh ma mc mt mn cd ro)) := by
  refine Met.ofW (cc := cM_range) (maxL := 8) (ret := (some .int)) (by decide) rfl ?_
  intro p e s m args below meth c s₁ B hml hv
  obtain ⟨rfl, hP, hK, hD0⟩ := hv
  have hx := B.exec
  have hb := B.bytes
  have hr := B.returns
  have hts := atoms_spec (ws := wsM_range) B.pre
  have hown : s.vm.findClass RX1 = some m.cls := findClass_of_methodNamed B.named
  have hlocks := B.notSynchronized
  have hin : ∀ w ∈ u_ws RX1 TM 7, w ∈ wsM_range := by decide +kernel
  have hf_code := hts (.fieldLink RX1 26 "FacetCountsModel" "code" "I") (by decide +kernel)
  have hD := xf_A_self hD0
  generalize hAe : xf_A (mw h0 b1 b2 b3 b4 b5 cI cZ mh ma mc mt mn cd ro) = A at hD ⊢
  have hS : va_S A s.heap s.heap [] := va_S.rf
  have hP : va_P (dC, dI) fmCl (mw h0 b1 b2 b3 b4 b5 cI cZ mh ma mc mt mn cd ro) s.heap := hP
  have hl := lv_entry ([.ref h0, .int ph, .int pa, .int pb]) (n := 8) (Nat.le_of_ble_eq_true rfl)
  rw [lg_entry_eq]
  generalize (lg_sl ([.ref h0, .int ph, .int pa, .int pb]) ++ List.replicate (8 - (lg_sl ([.ref h0, .int ph, .int pa, .int pb])).length) Slot.unset).toArray = ls at hl ⊢
  have hl : lv_has ls 8 [(0, .ref h0), (1, .int ph), (2, .int pa), (3, .int pb)] := hl
  refine lv_aload_n hx hb dM_range_0 rfl (lv_at hl 0 rfl) ?_
  refine lv_iconst (v := nI 0) hx hb dM_range_1 (by decide) ?_
  refine va_put (D := (dC, dI)) (ci := 1) (v := .int (nI 0)) (ty := .int) (C := RX1) (T := TM) (N := 7) hx hb hts hin tyM tyM_ok nmM hown hK hP hD hS 0 rfl rfl 0 (by decide) hf_code (fun _ h9 => h9) rfl (by decide +kernel) rfl rfl (Nat.le_of_ble_eq_true rfl) dM_range_2 (fun H locs hP hD hS => ?_)
  have hP : va_P (dC, dI) fmCl (mw h0 b1 b2 b3 b4 b5 cI cZ mh ma mc mt mn (nI 0) ro) H := hP
  have hD : va_D A (mw h0 b1 b2 b3 b4 b5 cI cZ mh ma mc mt mn (nI 0) ro) := hD
  refine lv_iload_n hx hb dM_range_5 rfl (lv_at hl 1 rfl) ?_
  refine vp_callSi (W.runS (As := [.int ph]) (rest := []) ⟨hx, hb, hml, hown, hts⟩ (m_isHead l ph) (va_cwS 1 hts gM_range_isHead rfl rfl rfl (by decide +kernel) ⟨Nat.le_of_ble_eq_true rfl, Nat.le_of_ble_eq_true rfl⟩) (xf_preS0) rfl rfl hl.1 rfl (lv_room (Nat.le_of_ble_eq_true rfl)) dM_range_6 ⟨Nat.zero_le _, Nat.zero_le _⟩) (fun r hr9 => ?_)
  subst hr9
  refine xf_Bne (tgt := 14) hx hb dM_range_9 (by decide) (fun c9 => ?_) (fun c9 => ?_)
  ·
    obtain ⟨h, hh, rfl⟩ := xf_in_of c9 (by decide)
    have eh : (nI h).toNatClampNeg = h := nI_clamp (by omega)
    refine lv_iconst (v := nI 0) hx hb dM_range_14 (by decide) ?_
    refine lv_istore (lv' := [(4, .int (nI 0)), (0, .ref h0), (1, .int (nI h)), (2, .int pa), (3, .int pb)]) hx hb dM_range_15 hl (by decide) rfl (fun ls hl => ?_)
    refine lv_iconst (v := nI 0) hx hb dM_range_17 (by decide) ?_
    refine lv_istore (lv' := [(5, .int (nI 0)), (4, .int (nI 0)), (0, .ref h0), (1, .int (nI h)), (2, .int pa), (3, .int pb)]) hx hb dM_range_18 hl (by decide) rfl (fun ls hl => ?_)
    refine xf_loopS (σ := Nat) (fun (z9 : Nat) => 40 - z9) (fun (z9 : Nat) => [(0, .ref h0), (1, .int (nI h)), (2, .int pa), (3, .int pb), (4, .int (nI (xf_cnt (mdRg mh ma mc h pa pb) z9))), (5, .int (nI z9))]) (fun (z9 : Nat) => z9 ≤ 40) 0 (lv_sub hl [2, 3, 4, 5, 1, 0] rfl) (Nat.zero_le _) (fun z9 ls hi hl ih20 => ?_)
    obtain ⟨t, hxe⟩ : ∃ z, z = z9 := ⟨_, rfl⟩
    subst hxe
    have hl : lv_has ls 8 [(0, .ref h0), (1, .int (nI h)), (2, .int pa), (3, .int pb), (4, .int (nI (xf_cnt (mdRg mh ma mc h pa pb) t))), (5, .int (nI t))] := hl
    have hi : t ≤ 40 := hi
    refine lv_iload hx hb dM_range_20 (lv_at hl 5 rfl) ?_
    refine lv_bipush (v := nI 40) hx hb dM_range_22 (by decide) ?_
    refine xf_ge (tgt := 113) hx hb dM_range_24 (by decide) (by omega) (by omega) (fun c24 => ?_) (fun c24 => ?_)
    ·
      obtain rfl : t = 40 := by omega
      refine lv_iload hx hb dM_range_113 (lv_at hl 4 rfl) ?_
      exact W.iret (v := nI (xf_cnt (mdRg mh ma mc h pa pb) 40)) hx hb hr (fun t9 ht9 hW9 => ⟨⟨_, (mh, ma, mc, mt, mn, nI 0, ro), rfl, by simp [mdRange, c9, eh], xf_hP ht9 hP⟩, hS.F ht9⟩) hS.2.2 dM_range_115
    ·
      refine lv_iconst (v := nI 0) hx hb dM_range_27 (by decide) ?_
      refine lv_istore (lv' := [(6, .int (nI 0)), (0, .ref h0), (1, .int (nI h)), (2, .int pa), (3, .int pb), (4, .int (nI (xf_cnt (mdRg mh ma mc h pa pb) t))), (5, .int (nI t))]) hx hb dM_range_28 hl (by decide) rfl (fun ls hl => ?_)
      refine lv_iconst (v := nI 0) hx hb dM_range_30 (by decide) ?_
      refine lv_istore (lv' := [(7, .int (nI 0)), (6, .int (nI 0)), (0, .ref h0), (1, .int (nI h)), (2, .int pa), (3, .int pb), (4, .int (nI (xf_cnt (mdRg mh ma mc h pa pb) t))), (5, .int (nI t))]) hx hb dM_range_31 hl (by decide) rfl (fun ls hl => ?_)
      refine xf_loopS (σ := Nat) (fun (z9 : Nat) => 32 - z9) (fun (z9 : Nat) => [(0, .ref h0), (1, .int (nI h)), (2, .int pa), (3, .int pb), (4, .int (nI (xf_cnt (mdRg mh ma mc h pa pb) t))), (5, .int (nI t)), (6, .int (xf_B (xf_any (mdRq mh ma t h pa pb) z9))), (7, .int (nI z9))]) (fun (z9 : Nat) => z9 ≤ 32) 0 (lv_sub hl [2, 3, 4, 5, 6, 7, 1, 0] rfl) (Nat.zero_le _) (fun z9 ls hi hl ih33 => ?_)
      obtain ⟨v, hxe⟩ : ∃ z, z = z9 := ⟨_, rfl⟩
      subst hxe
      have hl : lv_has ls 8 [(0, .ref h0), (1, .int (nI h)), (2, .int pa), (3, .int pb), (4, .int (nI (xf_cnt (mdRg mh ma mc h pa pb) t))), (5, .int (nI t)), (6, .int (xf_B (xf_any (mdRq mh ma t h pa pb) v))), (7, .int (nI v))] := hl
      have hi : v ≤ 32 := hi
      refine lv_iload hx hb dM_range_33 (lv_at hl 7 rfl) ?_
      refine lv_bipush (v := nI 32) hx hb dM_range_35 (by decide) ?_
      refine xf_ge (tgt := 82) hx hb dM_range_37 (by decide) (by omega) (by omega) (fun c37 => ?_) (fun c37 => ?_)
      ·
        obtain rfl : v = 32 := by omega
        refine lv_iload hx hb dM_range_82 (lv_at hl 4 rfl) ?_
        refine lv_iload hx hb dM_range_84 (lv_at hl 6 rfl) ?_
        refine xf_Beq (tgt := 103) hx hb dM_range_86 (by decide) (fun c86 => ?_) (fun c86 => ?_)
        ·
          refine lv_iconst (v := nI 0) hx hb dM_range_103 (by decide) ?_
          refine lv_iadd hx hb dM_range_104 ?_
          refine xf_be (y := nI (xf_cnt (mdRg mh ma mc h pa pb) t + 0)) (by exact nI_add _ _) ?_
          refine lv_istore (lv' := [(4, .int (nI (xf_cnt (mdRg mh ma mc h pa pb) t + 0))), (0, .ref h0), (1, .int (nI h)), (2, .int pa), (3, .int pb), (5, .int (nI t)), (6, .int (xf_B (xf_any (mdRq mh ma t h pa pb) 32))), (7, .int (nI 32))]) hx hb dM_range_105 hl (by decide) rfl (fun ls hl => ?_)
          refine lv_iinc (v := nI (t + 1)) (lv' := [(5, .int (nI (t + 1))), (4, .int (nI (xf_cnt (mdRg mh ma mc h pa pb) t + 0))), (0, .ref h0), (1, .int (nI h)), (2, .int pa), (3, .int pb), (6, .int (xf_B (xf_any (mdRq mh ma t h pa pb) 32))), (7, .int (nI 32))]) hx hb dM_range_107 hl (k := 5) rfl (by exact nI_1 t) (by decide) rfl (fun ls hl => ?_)
          refine lv_goto (tgt := 20) hx hb dM_range_110 (by decide) ?_
          have hl := lv_sub (l' := [(0, .ref h0), (1, .int (nI h)), (2, .int pa), (3, .int pb), (4, .int (nI (xf_cnt (mdRg mh ma mc h pa pb) t + 0))), (5, .int (nI (t + 1)))]) hl [2, 3, 4, 5, 1, 0] rfl
          have hl : lv_has ls 8 [(0, .ref h0), (1, .int (nI h)), (2, .int pa), (3, .int pb), (4, .int (nI (xf_cnt (mdRg mh ma mc h pa pb) (t + 1)))), (5, .int (nI (t + 1)))] := xf_lv hl (by simp [xf_cnt, mdRg, c37, c86])
          exact ih20 (t + 1) ls (by show 40 - (t + 1) < 40 - t; omega) (by show (t + 1) ≤ 40; omega) hl
        ·
          refine lv_aload_n hx hb dM_range_89 rfl (lv_at hl 0 rfl) ?_
          refine lv_iload hx hb dM_range_90 (lv_at hl 5 rfl) ?_
          refine lv_iload_n hx hb dM_range_92 rfl (lv_at hl 1 rfl) ?_
          refine vp_callSi (W.runV (As := [.int (nI t), .int (nI h)]) (rest := [.int (nI (xf_cnt (mdRg mh ma mc h pa pb) t))]) ⟨hx, hb, hml, hown, hts⟩ (m_isKeptBut l dC dI h0 b1 b2 b3 b4 b5 cI cZ mh ma mc mt mn (nI 0) ro t (nI h) (by omega) hOk hAc) (cwV 2 hts gM_range_isKeptBut rfl rfl rfl (by decide +kernel) ⟨Nat.le_of_ble_eq_true rfl, Nat.le_of_ble_eq_true rfl⟩) (xf_preV (ci := 1) (RX1, TM, 7) hK hP rfl rfl) rfl rfl hl.1 rfl (lv_room (Nat.le_of_ble_eq_true rfl)) dM_range_93 ⟨Nat.zero_le _, Nat.zero_le _⟩) (fun r hr9 => ?_)
          subst hr9
          refine xf_Beq (tgt := 103) hx hb dM_range_96 (by decide) (fun c96 => ?_) (fun c96 => ?_)
          ·
            refine lv_iconst (v := nI 0) hx hb dM_range_103 (by decide) ?_
            refine lv_iadd hx hb dM_range_104 ?_
            refine xf_be (y := nI (xf_cnt (mdRg mh ma mc h pa pb) t + 0)) (by exact nI_add _ _) ?_
            refine lv_istore (lv' := [(4, .int (nI (xf_cnt (mdRg mh ma mc h pa pb) t + 0))), (0, .ref h0), (1, .int (nI h)), (2, .int pa), (3, .int pb), (5, .int (nI t)), (6, .int (xf_B (xf_any (mdRq mh ma t h pa pb) 32))), (7, .int (nI 32))]) hx hb dM_range_105 hl (by decide) rfl (fun ls hl => ?_)
            refine lv_iinc (v := nI (t + 1)) (lv' := [(5, .int (nI (t + 1))), (4, .int (nI (xf_cnt (mdRg mh ma mc h pa pb) t + 0))), (0, .ref h0), (1, .int (nI h)), (2, .int pa), (3, .int pb), (6, .int (xf_B (xf_any (mdRq mh ma t h pa pb) 32))), (7, .int (nI 32))]) hx hb dM_range_107 hl (k := 5) rfl (by exact nI_1 t) (by decide) rfl (fun ls hl => ?_)
            refine lv_goto (tgt := 20) hx hb dM_range_110 (by decide) ?_
            have hl := lv_sub (l' := [(0, .ref h0), (1, .int (nI h)), (2, .int pa), (3, .int pb), (4, .int (nI (xf_cnt (mdRg mh ma mc h pa pb) t + 0))), (5, .int (nI (t + 1)))]) hl [2, 3, 4, 5, 1, 0] rfl
            have hl : lv_has ls 8 [(0, .ref h0), (1, .int (nI h)), (2, .int pa), (3, .int pb), (4, .int (nI (xf_cnt (mdRg mh ma mc h pa pb) (t + 1)))), (5, .int (nI (t + 1)))] := xf_lv hl (by simp [xf_cnt, mdRg, c37, c86, c96])
            exact ih20 (t + 1) ls (by show 40 - (t + 1) < 40 - t; omega) (by show (t + 1) ≤ 40; omega) hl
          ·
            refine lv_iconst (v := nI 1) hx hb dM_range_99 (by decide) ?_
            refine lv_goto (tgt := 104) hx hb dM_range_100 (by decide) ?_
            refine lv_iadd hx hb dM_range_104 ?_
            refine xf_be (y := nI (xf_cnt (mdRg mh ma mc h pa pb) t + 1)) (by exact nI_add _ _) ?_
            refine lv_istore (lv' := [(4, .int (nI (xf_cnt (mdRg mh ma mc h pa pb) t + 1))), (0, .ref h0), (1, .int (nI h)), (2, .int pa), (3, .int pb), (5, .int (nI t)), (6, .int (xf_B (xf_any (mdRq mh ma t h pa pb) 32))), (7, .int (nI 32))]) hx hb dM_range_105 hl (by decide) rfl (fun ls hl => ?_)
            refine lv_iinc (v := nI (t + 1)) (lv' := [(5, .int (nI (t + 1))), (4, .int (nI (xf_cnt (mdRg mh ma mc h pa pb) t + 1))), (0, .ref h0), (1, .int (nI h)), (2, .int pa), (3, .int pb), (6, .int (xf_B (xf_any (mdRq mh ma t h pa pb) 32))), (7, .int (nI 32))]) hx hb dM_range_107 hl (k := 5) rfl (by exact nI_1 t) (by decide) rfl (fun ls hl => ?_)
            refine lv_goto (tgt := 20) hx hb dM_range_110 (by decide) ?_
            have hl := lv_sub (l' := [(0, .ref h0), (1, .int (nI h)), (2, .int pa), (3, .int pb), (4, .int (nI (xf_cnt (mdRg mh ma mc h pa pb) t + 1))), (5, .int (nI (t + 1)))]) hl [2, 3, 4, 5, 1, 0] rfl
            have hl : lv_has ls 8 [(0, .ref h0), (1, .int (nI h)), (2, .int pa), (3, .int pb), (4, .int (nI (xf_cnt (mdRg mh ma mc h pa pb) (t + 1)))), (5, .int (nI (t + 1)))] := xf_lv hl (by simp [xf_cnt, mdRg, c37, c86, c96])
            exact ih20 (t + 1) ls (by show 40 - (t + 1) < 40 - t; omega) (by show (t + 1) ≤ 40; omega) hl
      ·
        refine lv_iload hx hb dM_range_40 (lv_at hl 6 rfl) ?_
        refine xf_Bne (tgt := 69) hx hb dM_range_42 (by decide) (fun c42 => ?_) (fun c42 => ?_)
        ·
          refine lv_iconst (v := nI 1) hx hb dM_range_69 (by decide) ?_
          refine lv_goto (tgt := 74) hx hb dM_range_70 (by decide) ?_
          refine lv_istore (lv' := [(6, .int (nI 1)), (0, .ref h0), (1, .int (nI h)), (2, .int pa), (3, .int pb), (4, .int (nI (xf_cnt (mdRg mh ma mc h pa pb) t))), (5, .int (nI t)), (7, .int (nI v))]) hx hb dM_range_74 hl (by decide) rfl (fun ls hl => ?_)
          refine lv_iinc (v := nI (v + 1)) (lv' := [(7, .int (nI (v + 1))), (6, .int (nI 1)), (0, .ref h0), (1, .int (nI h)), (2, .int pa), (3, .int pb), (4, .int (nI (xf_cnt (mdRg mh ma mc h pa pb) t))), (5, .int (nI t))]) hx hb dM_range_76 hl (k := 7) rfl (by exact nI_1 v) (by decide) rfl (fun ls hl => ?_)
          refine lv_goto (tgt := 33) hx hb dM_range_79 (by decide) ?_
          have hl := lv_sub (l' := [(0, .ref h0), (1, .int (nI h)), (2, .int pa), (3, .int pb), (4, .int (nI (xf_cnt (mdRg mh ma mc h pa pb) t))), (5, .int (nI t)), (6, .int (nI 1)), (7, .int (nI (v + 1)))]) hl [2, 3, 4, 5, 6, 7, 1, 0] rfl
          have hl : lv_has ls 8 [(0, .ref h0), (1, .int (nI h)), (2, .int pa), (3, .int pb), (4, .int (nI (xf_cnt (mdRg mh ma mc h pa pb) t))), (5, .int (nI t)), (6, .int (xf_B (xf_any (mdRq mh ma t h pa pb) (v + 1)))), (7, .int (nI (v + 1)))] := xf_lv hl (by simp [xf_any, mdRq, xf_B, c37, c42])
          exact ih33 (v + 1) ls (by show 32 - (v + 1) < 32 - v; omega) (by show (v + 1) ≤ 32; omega) hl
        ·
          refine lv_iload hx hb dM_range_45 (lv_at hl 7 rfl) ?_
          refine lv_iload_n hx hb dM_range_47 rfl (lv_at hl 2 rfl) ?_
          refine lv_icmp_lt (tgt := 73) hx hb dM_range_48 (by decide) (fun c48 => ?_) (fun c48 => ?_)
          ·
            refine lv_iconst (v := nI 0) hx hb dM_range_73 (by decide) ?_
            refine lv_istore (lv' := [(6, .int (nI 0)), (0, .ref h0), (1, .int (nI h)), (2, .int pa), (3, .int pb), (4, .int (nI (xf_cnt (mdRg mh ma mc h pa pb) t))), (5, .int (nI t)), (7, .int (nI v))]) hx hb dM_range_74 hl (by decide) rfl (fun ls hl => ?_)
            refine lv_iinc (v := nI (v + 1)) (lv' := [(7, .int (nI (v + 1))), (6, .int (nI 0)), (0, .ref h0), (1, .int (nI h)), (2, .int pa), (3, .int pb), (4, .int (nI (xf_cnt (mdRg mh ma mc h pa pb) t))), (5, .int (nI t))]) hx hb dM_range_76 hl (k := 7) rfl (by exact nI_1 v) (by decide) rfl (fun ls hl => ?_)
            refine lv_goto (tgt := 33) hx hb dM_range_79 (by decide) ?_
            have hl := lv_sub (l' := [(0, .ref h0), (1, .int (nI h)), (2, .int pa), (3, .int pb), (4, .int (nI (xf_cnt (mdRg mh ma mc h pa pb) t))), (5, .int (nI t)), (6, .int (nI 0)), (7, .int (nI (v + 1)))]) hl [2, 3, 4, 5, 6, 7, 1, 0] rfl
            have hl : lv_has ls 8 [(0, .ref h0), (1, .int (nI h)), (2, .int pa), (3, .int pb), (4, .int (nI (xf_cnt (mdRg mh ma mc h pa pb) t))), (5, .int (nI t)), (6, .int (xf_B (xf_any (mdRq mh ma t h pa pb) (v + 1)))), (7, .int (nI (v + 1)))] := xf_lv hl (by simp [xf_any, mdRq, xf_B, c37, c42, c48])
            exact ih33 (v + 1) ls (by show 32 - (v + 1) < 32 - v; omega) (by show (v + 1) ≤ 32; omega) hl
          ·
            refine lv_iload hx hb dM_range_51 (lv_at hl 7 rfl) ?_
            refine lv_iload_n hx hb dM_range_53 rfl (lv_at hl 3 rfl) ?_
            refine lv_icmp_gt (tgt := 73) hx hb dM_range_54 (by decide) (fun c54 => ?_) (fun c54 => ?_)
            ·
              refine lv_iconst (v := nI 0) hx hb dM_range_73 (by decide) ?_
              refine lv_istore (lv' := [(6, .int (nI 0)), (0, .ref h0), (1, .int (nI h)), (2, .int pa), (3, .int pb), (4, .int (nI (xf_cnt (mdRg mh ma mc h pa pb) t))), (5, .int (nI t)), (7, .int (nI v))]) hx hb dM_range_74 hl (by decide) rfl (fun ls hl => ?_)
              refine lv_iinc (v := nI (v + 1)) (lv' := [(7, .int (nI (v + 1))), (6, .int (nI 0)), (0, .ref h0), (1, .int (nI h)), (2, .int pa), (3, .int pb), (4, .int (nI (xf_cnt (mdRg mh ma mc h pa pb) t))), (5, .int (nI t))]) hx hb dM_range_76 hl (k := 7) rfl (by exact nI_1 v) (by decide) rfl (fun ls hl => ?_)
              refine lv_goto (tgt := 33) hx hb dM_range_79 (by decide) ?_
              have hl := lv_sub (l' := [(0, .ref h0), (1, .int (nI h)), (2, .int pa), (3, .int pb), (4, .int (nI (xf_cnt (mdRg mh ma mc h pa pb) t))), (5, .int (nI t)), (6, .int (nI 0)), (7, .int (nI (v + 1)))]) hl [2, 3, 4, 5, 6, 7, 1, 0] rfl
              have hl : lv_has ls 8 [(0, .ref h0), (1, .int (nI h)), (2, .int pa), (3, .int pb), (4, .int (nI (xf_cnt (mdRg mh ma mc h pa pb) t))), (5, .int (nI t)), (6, .int (xf_B (xf_any (mdRq mh ma t h pa pb) (v + 1)))), (7, .int (nI (v + 1)))] := xf_lv hl (by simp [xf_any, mdRq, xf_B, c37, c42, c48, c54])
              exact ih33 (v + 1) ls (by show 32 - (v + 1) < 32 - v; omega) (by show (v + 1) ≤ 32; omega) hl
            ·
              refine lv_aload_n hx hb dM_range_57 rfl (lv_at hl 0 rfl) ?_
              refine lv_iload hx hb dM_range_58 (lv_at hl 5 rfl) ?_
              refine lv_iload_n hx hb dM_range_60 rfl (lv_at hl 1 rfl) ?_
              refine lv_iload hx hb dM_range_61 (lv_at hl 7 rfl) ?_
              refine vp_callSi (W.runV (As := [.int (nI t), .int (nI h), .int (nI v)]) (rest := []) ⟨hx, hb, hml, hown, hts⟩ (m_owns l dC dI h0 b1 b2 b3 b4 b5 cI cZ mh ma mc mt mn (nI 0) ro t h v (by omega) (by omega) (by omega) hOk hAc) (cwV 3 hts gM_range_owns rfl rfl rfl (by decide +kernel) ⟨Nat.le_of_ble_eq_true rfl, Nat.le_of_ble_eq_true rfl⟩) (xf_preV (ci := 1) (RX1, TM, 7) hK hP rfl rfl) rfl rfl hl.1 rfl (lv_room (Nat.le_of_ble_eq_true rfl)) dM_range_63 ⟨Nat.zero_le _, Nat.zero_le _⟩) (fun r hr9 => ?_)
              subst hr9
              refine xf_Beq (tgt := 73) hx hb dM_range_66 (by decide) (fun c66 => ?_) (fun c66 => ?_)
              ·
                refine lv_iconst (v := nI 0) hx hb dM_range_73 (by decide) ?_
                refine lv_istore (lv' := [(6, .int (nI 0)), (0, .ref h0), (1, .int (nI h)), (2, .int pa), (3, .int pb), (4, .int (nI (xf_cnt (mdRg mh ma mc h pa pb) t))), (5, .int (nI t)), (7, .int (nI v))]) hx hb dM_range_74 hl (by decide) rfl (fun ls hl => ?_)
                refine lv_iinc (v := nI (v + 1)) (lv' := [(7, .int (nI (v + 1))), (6, .int (nI 0)), (0, .ref h0), (1, .int (nI h)), (2, .int pa), (3, .int pb), (4, .int (nI (xf_cnt (mdRg mh ma mc h pa pb) t))), (5, .int (nI t))]) hx hb dM_range_76 hl (k := 7) rfl (by exact nI_1 v) (by decide) rfl (fun ls hl => ?_)
                refine lv_goto (tgt := 33) hx hb dM_range_79 (by decide) ?_
                have hl := lv_sub (l' := [(0, .ref h0), (1, .int (nI h)), (2, .int pa), (3, .int pb), (4, .int (nI (xf_cnt (mdRg mh ma mc h pa pb) t))), (5, .int (nI t)), (6, .int (nI 0)), (7, .int (nI (v + 1)))]) hl [2, 3, 4, 5, 6, 7, 1, 0] rfl
                have hl : lv_has ls 8 [(0, .ref h0), (1, .int (nI h)), (2, .int pa), (3, .int pb), (4, .int (nI (xf_cnt (mdRg mh ma mc h pa pb) t))), (5, .int (nI t)), (6, .int (xf_B (xf_any (mdRq mh ma t h pa pb) (v + 1)))), (7, .int (nI (v + 1)))] := xf_lv hl (by simp [xf_any, mdRq, xf_B, c37, c42, c48, c54, c66])
                exact ih33 (v + 1) ls (by show 32 - (v + 1) < 32 - v; omega) (by show (v + 1) ≤ 32; omega) hl
              ·
                refine lv_iconst (v := nI 1) hx hb dM_range_69 (by decide) ?_
                refine lv_goto (tgt := 74) hx hb dM_range_70 (by decide) ?_
                refine lv_istore (lv' := [(6, .int (nI 1)), (0, .ref h0), (1, .int (nI h)), (2, .int pa), (3, .int pb), (4, .int (nI (xf_cnt (mdRg mh ma mc h pa pb) t))), (5, .int (nI t)), (7, .int (nI v))]) hx hb dM_range_74 hl (by decide) rfl (fun ls hl => ?_)
                refine lv_iinc (v := nI (v + 1)) (lv' := [(7, .int (nI (v + 1))), (6, .int (nI 1)), (0, .ref h0), (1, .int (nI h)), (2, .int pa), (3, .int pb), (4, .int (nI (xf_cnt (mdRg mh ma mc h pa pb) t))), (5, .int (nI t))]) hx hb dM_range_76 hl (k := 7) rfl (by exact nI_1 v) (by decide) rfl (fun ls hl => ?_)
                refine lv_goto (tgt := 33) hx hb dM_range_79 (by decide) ?_
                have hl := lv_sub (l' := [(0, .ref h0), (1, .int (nI h)), (2, .int pa), (3, .int pb), (4, .int (nI (xf_cnt (mdRg mh ma mc h pa pb) t))), (5, .int (nI t)), (6, .int (nI 1)), (7, .int (nI (v + 1)))]) hl [2, 3, 4, 5, 6, 7, 1, 0] rfl
                have hl : lv_has ls 8 [(0, .ref h0), (1, .int (nI h)), (2, .int pa), (3, .int pb), (4, .int (nI (xf_cnt (mdRg mh ma mc h pa pb) t))), (5, .int (nI t)), (6, .int (xf_B (xf_any (mdRq mh ma t h pa pb) (v + 1)))), (7, .int (nI (v + 1)))] := xf_lv hl (by simp [xf_any, mdRq, xf_B, c37, c42, c48, c54, c66])
                exact ih33 (v + 1) ls (by show 32 - (v + 1) < 32 - v; omega) (by show (v + 1) ≤ 32; omega) hl
  ·
    refine lv_iconst (v := (-1)) hx hb dM_range_12 (by decide) ?_
    exact W.iret (v := (-1)) hx hb hr (fun t9 ht9 hW9 => ⟨⟨_, (mh, ma, mc, mt, mn, nI 0, ro), rfl, by simp [mdRange, c9], xf_hP ht9 hP⟩, hS.F ht9⟩) hS.2.2 dM_range_13
set_option maxHeartbeats 4000000 in
set_option maxRecDepth 100000 in
/-- sum(ph, pv, po) -/
theorem m_sum (l : Launch) (dC : Nat → ClassId) (dI : Nat → Nat → Nat) (h0 b1 b2 b3 b4 b5 : Nat) (cI cZ : ClassId) (mh : Nat → Bool) (ma : Nat → Int32) (mc : Nat → Bool) (mt mn : Nat → Int32) (cd ro : Int32) (ph pv po : Int32) (hOk : mdOk ma) (hAc : mdAc ma) : Met l yM_sum wsM_sum ({ frames := 4, cells := 0, slots := 0, locals := 97 }) (va_Pc [.ref h0, .int ph, .int pv, .int po] (fun U => va_P (dC, dI) fmCl (mw h0 b1 b2 b3 b4 b5 cI cZ mh ma mc mt mn cd ro) U.heap ∧ va_K (dC, dI) fmCl [(cI, .int), (cZ, .boolean)] U ∧ va_D (fun _ => True) (mw h0 b1 b2 b3 b4 b5 cI cZ mh ma mc mt mn cd ro))) (va_Qi (fun (r : Int32) (u : MdS) => (r, u) = (mdSum mh ma mc ph pv po, mh, ma, mc, mt, mn, nI 0, ro)) (fun u t => va_P (dC, dI) fmCl (mw h0 b1 b2 b3 b4 b5 cI cZ u.1 u.2.1 u.2.2.1 u.2.2.2.1 u.2.2.2.2.1 u.2.2.2.2.2.1 u.2.2.2.2.2.2) t.heap) (xf_A (mw h0 b1 b2 b3 b4 b5 cI cZ mh ma mc mt mn cd ro))) 0 0 (xf_A (mw h0 b1 b2 b3 b4 b5 cI cZ mh ma mc mt mn cd ro)) := by
  refine Met.ofW (cc := cM_sum) (maxL := 8) (ret := (some .int)) (by decide) rfl ?_
  intro p e s m args below meth c s₁ B hml hv
  obtain ⟨rfl, hP, hK, hD0⟩ := hv
  have hx := B.exec
  have hb := B.bytes
  have hr := B.returns
  have hts := atoms_spec (ws := wsM_sum) B.pre
  have hown : s.vm.findClass RX1 = some m.cls := findClass_of_methodNamed B.named
  have hlocks := B.notSynchronized
  have hin : ∀ w ∈ u_ws RX1 TM 7, w ∈ wsM_sum := by decide +kernel
  have hf_code := hts (.fieldLink RX1 26 "FacetCountsModel" "code" "I") (by decide +kernel)
  have hD := xf_A_self hD0
  generalize hAe : xf_A (mw h0 b1 b2 b3 b4 b5 cI cZ mh ma mc mt mn cd ro) = A at hD ⊢
  have hS : va_S A s.heap s.heap [] := va_S.rf
  have hP : va_P (dC, dI) fmCl (mw h0 b1 b2 b3 b4 b5 cI cZ mh ma mc mt mn cd ro) s.heap := hP
  have hl := lv_entry ([.ref h0, .int ph, .int pv, .int po]) (n := 8) (Nat.le_of_ble_eq_true rfl)
  rw [lg_entry_eq]
  generalize (lg_sl ([.ref h0, .int ph, .int pv, .int po]) ++ List.replicate (8 - (lg_sl ([.ref h0, .int ph, .int pv, .int po])).length) Slot.unset).toArray = ls at hl ⊢
  have hl : lv_has ls 8 [(0, .ref h0), (1, .int ph), (2, .int pv), (3, .int po)] := hl
  refine lv_aload_n hx hb dM_sum_0 rfl (lv_at hl 0 rfl) ?_
  refine lv_iconst (v := nI 0) hx hb dM_sum_1 (by decide) ?_
  refine va_put (D := (dC, dI)) (ci := 1) (v := .int (nI 0)) (ty := .int) (C := RX1) (T := TM) (N := 7) hx hb hts hin tyM tyM_ok nmM hown hK hP hD hS 0 rfl rfl 0 (by decide) hf_code (fun _ h9 => h9) rfl (by decide +kernel) rfl rfl (Nat.le_of_ble_eq_true rfl) dM_sum_2 (fun H locs hP hD hS => ?_)
  have hP : va_P (dC, dI) fmCl (mw h0 b1 b2 b3 b4 b5 cI cZ mh ma mc mt mn (nI 0) ro) H := hP
  have hD : va_D A (mw h0 b1 b2 b3 b4 b5 cI cZ mh ma mc mt mn (nI 0) ro) := hD
  refine lv_iload_n hx hb dM_sum_5 rfl (lv_at hl 1 rfl) ?_
  refine vp_callSi (W.runS (As := [.int ph]) (rest := []) ⟨hx, hb, hml, hown, hts⟩ (m_isHead l ph) (va_cwS 1 hts gM_sum_isHead rfl rfl rfl (by decide +kernel) ⟨Nat.le_of_ble_eq_true rfl, Nat.le_of_ble_eq_true rfl⟩) (xf_preS0) rfl rfl hl.1 rfl (lv_room (Nat.le_of_ble_eq_true rfl)) dM_sum_6 ⟨Nat.zero_le _, Nat.zero_le _⟩) (fun r hr9 => ?_)
  subst hr9
  refine xf_Beq (tgt := 26) hx hb dM_sum_9 (by decide) (fun c9 => ?_) (fun c9 => ?_)
  ·
    refine lv_iconst (v := (-1)) hx hb dM_sum_26 (by decide) ?_
    exact W.iret (v := (-1)) hx hb hr (fun t9 ht9 hW9 => ⟨⟨_, (mh, ma, mc, mt, mn, nI 0, ro), rfl, by simp [mdSum, c9], xf_hP ht9 hP⟩, hS.F ht9⟩) hS.2.2 dM_sum_27
  ·
    obtain ⟨h, hh, rfl⟩ := xf_in_of c9 (by decide)
    have eh : (nI h).toNatClampNeg = h := nI_clamp (by omega)
    refine lv_iload_n hx hb dM_sum_12 rfl (lv_at hl 2 rfl) ?_
    refine vp_callSi (W.runS (As := [.int pv]) (rest := []) ⟨hx, hb, hml, hown, hts⟩ (m_isValue l pv) (va_cwS 1 hts gM_sum_isValue rfl rfl rfl (by decide +kernel) ⟨Nat.le_of_ble_eq_true rfl, Nat.le_of_ble_eq_true rfl⟩) (xf_preS0) rfl rfl hl.1 rfl (lv_room (Nat.le_of_ble_eq_true rfl)) dM_sum_13 ⟨Nat.zero_le _, Nat.zero_le _⟩) (fun r hr9 => ?_)
    subst hr9
    refine xf_Beq (tgt := 26) hx hb dM_sum_16 (by decide) (fun c16 => ?_) (fun c16 => ?_)
    ·
      refine lv_iconst (v := (-1)) hx hb dM_sum_26 (by decide) ?_
      exact W.iret (v := (-1)) hx hb hr (fun t9 ht9 hW9 => ⟨⟨_, (mh, ma, mc, mt, mn, nI 0, ro), rfl, by simp [mdSum, c9, eh, c16], xf_hP ht9 hP⟩, hS.F ht9⟩) hS.2.2 dM_sum_27
    ·
      obtain ⟨v, hv, rfl⟩ := xf_in_of c16 (by decide)
      have ev : (nI v).toNatClampNeg = v := nI_clamp (by omega)
      refine lv_iload_n hx hb dM_sum_19 rfl (lv_at hl 3 rfl) ?_
      refine vp_callSi (W.runS (As := [.int po]) (rest := []) ⟨hx, hb, hml, hown, hts⟩ (m_isHead l po) (va_cwS 1 hts gM_sum_isHead rfl rfl rfl (by decide +kernel) ⟨Nat.le_of_ble_eq_true rfl, Nat.le_of_ble_eq_true rfl⟩) (xf_preS0) rfl rfl hl.1 rfl (lv_room (Nat.le_of_ble_eq_true rfl)) dM_sum_20 ⟨Nat.zero_le _, Nat.zero_le _⟩) (fun r hr9 => ?_)
      subst hr9
      refine xf_Bne (tgt := 28) hx hb dM_sum_23 (by decide) (fun c23 => ?_) (fun c23 => ?_)
      ·
        obtain ⟨o, ho, rfl⟩ := xf_in_of c23 (by decide)
        have eo : (nI o).toNatClampNeg = o := nI_clamp (by omega)
        refine lv_iconst (v := nI 0) hx hb dM_sum_28 (by decide) ?_
        refine lv_istore (lv' := [(4, .int (nI 0)), (0, .ref h0), (1, .int (nI h)), (2, .int (nI v)), (3, .int (nI o))]) hx hb dM_sum_29 hl (by decide) rfl (fun ls hl => ?_)
        refine lv_iconst (v := nI 0) hx hb dM_sum_31 (by decide) ?_
        refine lv_istore (lv' := [(5, .int (nI 0)), (4, .int (nI 0)), (0, .ref h0), (1, .int (nI h)), (2, .int (nI v)), (3, .int (nI o))]) hx hb dM_sum_32 hl (by decide) rfl (fun ls hl => ?_)
        refine xf_loopS (σ := Nat) (fun (z9 : Nat) => 40 - z9) (fun (z9 : Nat) => [(0, .ref h0), (1, .int (nI h)), (2, .int (nI v)), (3, .int (nI o)), (4, .int (nI (mdSm mh ma mc h v o z9))), (5, .int (nI z9))]) (fun (z9 : Nat) => z9 ≤ 40) 0 (lv_sub hl [2, 3, 4, 5, 1, 0] rfl) (Nat.zero_le _) (fun z9 ls hi hl ih34 => ?_)
        obtain ⟨t, hxe⟩ : ∃ z, z = z9 := ⟨_, rfl⟩
        subst hxe
        have hl : lv_has ls 8 [(0, .ref h0), (1, .int (nI h)), (2, .int (nI v)), (3, .int (nI o)), (4, .int (nI (mdSm mh ma mc h v o t))), (5, .int (nI t))] := hl
        have hi : t ≤ 40 := hi
        refine lv_iload hx hb dM_sum_34 (lv_at hl 5 rfl) ?_
        refine lv_bipush (v := nI 40) hx hb dM_sum_36 (by decide) ?_
        refine xf_ge (tgt := 119) hx hb dM_sum_38 (by decide) (by omega) (by omega) (fun c38 => ?_) (fun c38 => ?_)
        ·
          obtain rfl : t = 40 := by omega
          refine lv_iload hx hb dM_sum_119 (lv_at hl 4 rfl) ?_
          exact W.iret (v := nI (mdSm mh ma mc h v o 40)) hx hb hr (fun t9 ht9 hW9 => ⟨⟨_, (mh, ma, mc, mt, mn, nI 0, ro), rfl, by simp [mdSum, c9, eh, c16, ev, c23, eo], xf_hP ht9 hP⟩, hS.F ht9⟩) hS.2.2 dM_sum_121
        ·
          refine lv_aload_n hx hb dM_sum_41 rfl (lv_at hl 0 rfl) ?_
          refine lv_iload hx hb dM_sum_42 (lv_at hl 5 rfl) ?_
          refine lv_iload_n hx hb dM_sum_44 rfl (lv_at hl 1 rfl) ?_
          refine lv_iload_n hx hb dM_sum_45 rfl (lv_at hl 2 rfl) ?_
          refine vp_callSi (W.runV (As := [.int (nI t), .int (nI h), .int (nI v)]) (rest := []) ⟨hx, hb, hml, hown, hts⟩ (m_owns l dC dI h0 b1 b2 b3 b4 b5 cI cZ mh ma mc mt mn (nI 0) ro t h v (by omega) (by omega) (by omega) hOk hAc) (cwV 3 hts gM_sum_owns rfl rfl rfl (by decide +kernel) ⟨Nat.le_of_ble_eq_true rfl, Nat.le_of_ble_eq_true rfl⟩) (xf_preV (ci := 1) (RX1, TM, 7) hK hP rfl rfl) rfl rfl hl.1 rfl (lv_room (Nat.le_of_ble_eq_true rfl)) dM_sum_46 ⟨Nat.zero_le _, Nat.zero_le _⟩) (fun r hr9 => ?_)
          subst hr9
          refine xf_Beq (tgt := 66) hx hb dM_sum_49 (by decide) (fun c49 => ?_) (fun c49 => ?_)
          ·
            refine lv_iconst (v := nI 0) hx hb dM_sum_66 (by decide) ?_
            refine lv_istore (lv' := [(6, .int (nI 0)), (0, .ref h0), (1, .int (nI h)), (2, .int (nI v)), (3, .int (nI o)), (4, .int (nI (mdSm mh ma mc h v o t))), (5, .int (nI t))]) hx hb dM_sum_67 hl (by decide) rfl (fun ls hl => ?_)
            refine lv_iconst (v := nI 0) hx hb dM_sum_69 (by decide) ?_
            refine lv_istore (lv' := [(7, .int (nI 0)), (6, .int (nI 0)), (0, .ref h0), (1, .int (nI h)), (2, .int (nI v)), (3, .int (nI o)), (4, .int (nI (mdSm mh ma mc h v o t))), (5, .int (nI t))]) hx hb dM_sum_70 hl (by decide) rfl (fun ls hl => ?_)
            refine xf_loopS (σ := Nat) (fun (z9 : Nat) => 0 - z9) (fun (z9 : Nat) => [(0, .ref h0), (1, .int (nI h)), (2, .int (nI v)), (3, .int (nI o)), (4, .int (nI (mdSm mh ma mc h v o t))), (5, .int (nI t)), (6, .int (nI 0)), (7, .int (nI z9))]) (fun (z9 : Nat) => z9 ≤ 0) 0 (lv_sub hl [2, 3, 4, 5, 6, 7, 1, 0] rfl) (Nat.zero_le _) (fun z9 ls hi hl ih72 => ?_)
            obtain ⟨w, hxe⟩ : ∃ z, z = z9 := ⟨_, rfl⟩
            subst hxe
            have hl : lv_has ls 8 [(0, .ref h0), (1, .int (nI h)), (2, .int (nI v)), (3, .int (nI o)), (4, .int (nI (mdSm mh ma mc h v o t))), (5, .int (nI t)), (6, .int (nI 0)), (7, .int (nI w))] := hl
            have hi : w ≤ 0 := hi
            refine lv_iload hx hb dM_sum_72 (lv_at hl 7 rfl) ?_
            refine lv_bipush (v := nI 32) hx hb dM_sum_74 (by decide) ?_
            refine xf_ge (tgt := 113) hx hb dM_sum_76 (by decide) (by omega) (by omega) (fun c76 => ?_) (fun c76 => ?_)
            ·
              exact absurd c76 (by omega)
            ·
              refine lv_iload hx hb dM_sum_79 (lv_at hl 6 rfl) ?_
              refine lv_if_eq (tgt := 113) hx hb dM_sum_81 (by decide) (fun c81 => ?_) (fun c81 => ?_)
              ·
                refine lv_iinc (v := nI (t + 1)) (lv' := [(5, .int (nI (t + 1))), (0, .ref h0), (1, .int (nI h)), (2, .int (nI v)), (3, .int (nI o)), (4, .int (nI (mdSm mh ma mc h v o t))), (6, .int (nI 0)), (7, .int (nI w))]) hx hb dM_sum_113 hl (k := 5) rfl (by exact nI_1 t) (by decide) rfl (fun ls hl => ?_)
                refine lv_goto (tgt := 34) hx hb dM_sum_116 (by decide) ?_
                have hl := lv_sub (l' := [(0, .ref h0), (1, .int (nI h)), (2, .int (nI v)), (3, .int (nI o)), (4, .int (nI (mdSm mh ma mc h v o t))), (5, .int (nI (t + 1)))]) hl [1, 2, 3, 4, 5, 0] rfl
                have hl : lv_has ls 8 [(0, .ref h0), (1, .int (nI h)), (2, .int (nI v)), (3, .int (nI o)), (4, .int (nI (mdSm mh ma mc h v o (t + 1)))), (5, .int (nI (t + 1)))] := xf_lv hl (by simp [mdSm, c49])
                exact ih34 (t + 1) ls (by show 40 - (t + 1) < 40 - t; omega) (by show (t + 1) ≤ 40; omega) hl
              ·
                exact absurd nI_0 c81
          ·
            refine lv_aload_n hx hb dM_sum_52 rfl (lv_at hl 0 rfl) ?_
            refine lv_iload hx hb dM_sum_53 (lv_at hl 5 rfl) ?_
            refine lv_iconst (v := (-1)) hx hb dM_sum_55 (by decide) ?_
            refine vp_callSi (W.runV (As := [.int (nI t), .int ((-1))]) (rest := []) ⟨hx, hb, hml, hown, hts⟩ (m_isKeptBut l dC dI h0 b1 b2 b3 b4 b5 cI cZ mh ma mc mt mn (nI 0) ro t ((-1)) (by omega) hOk hAc) (cwV 2 hts gM_sum_isKeptBut rfl rfl rfl (by decide +kernel) ⟨Nat.le_of_ble_eq_true rfl, Nat.le_of_ble_eq_true rfl⟩) (xf_preV (ci := 1) (RX1, TM, 7) hK hP rfl rfl) rfl rfl hl.1 rfl (lv_room (Nat.le_of_ble_eq_true rfl)) dM_sum_56 ⟨Nat.zero_le _, Nat.zero_le _⟩) (fun r hr9 => ?_)
            subst hr9
            refine xf_Beq (tgt := 66) hx hb dM_sum_59 (by decide) (fun c59 => ?_) (fun c59 => ?_)
            ·
              refine lv_iconst (v := nI 0) hx hb dM_sum_66 (by decide) ?_
              refine lv_istore (lv' := [(6, .int (nI 0)), (0, .ref h0), (1, .int (nI h)), (2, .int (nI v)), (3, .int (nI o)), (4, .int (nI (mdSm mh ma mc h v o t))), (5, .int (nI t))]) hx hb dM_sum_67 hl (by decide) rfl (fun ls hl => ?_)
              refine lv_iconst (v := nI 0) hx hb dM_sum_69 (by decide) ?_
              refine lv_istore (lv' := [(7, .int (nI 0)), (6, .int (nI 0)), (0, .ref h0), (1, .int (nI h)), (2, .int (nI v)), (3, .int (nI o)), (4, .int (nI (mdSm mh ma mc h v o t))), (5, .int (nI t))]) hx hb dM_sum_70 hl (by decide) rfl (fun ls hl => ?_)
              refine xf_loopS (σ := Nat) (fun (z9 : Nat) => 0 - z9) (fun (z9 : Nat) => [(0, .ref h0), (1, .int (nI h)), (2, .int (nI v)), (3, .int (nI o)), (4, .int (nI (mdSm mh ma mc h v o t))), (5, .int (nI t)), (6, .int (nI 0)), (7, .int (nI z9))]) (fun (z9 : Nat) => z9 ≤ 0) 0 (lv_sub hl [2, 3, 4, 5, 6, 7, 1, 0] rfl) (Nat.zero_le _) (fun z9 ls hi hl ih72 => ?_)
              obtain ⟨w, hxe⟩ : ∃ z, z = z9 := ⟨_, rfl⟩
              subst hxe
              have hl : lv_has ls 8 [(0, .ref h0), (1, .int (nI h)), (2, .int (nI v)), (3, .int (nI o)), (4, .int (nI (mdSm mh ma mc h v o t))), (5, .int (nI t)), (6, .int (nI 0)), (7, .int (nI w))] := hl
              have hi : w ≤ 0 := hi
              refine lv_iload hx hb dM_sum_72 (lv_at hl 7 rfl) ?_
              refine lv_bipush (v := nI 32) hx hb dM_sum_74 (by decide) ?_
              refine xf_ge (tgt := 113) hx hb dM_sum_76 (by decide) (by omega) (by omega) (fun c76 => ?_) (fun c76 => ?_)
              ·
                exact absurd c76 (by omega)
              ·
                refine lv_iload hx hb dM_sum_79 (lv_at hl 6 rfl) ?_
                refine lv_if_eq (tgt := 113) hx hb dM_sum_81 (by decide) (fun c81 => ?_) (fun c81 => ?_)
                ·
                  refine lv_iinc (v := nI (t + 1)) (lv' := [(5, .int (nI (t + 1))), (0, .ref h0), (1, .int (nI h)), (2, .int (nI v)), (3, .int (nI o)), (4, .int (nI (mdSm mh ma mc h v o t))), (6, .int (nI 0)), (7, .int (nI w))]) hx hb dM_sum_113 hl (k := 5) rfl (by exact nI_1 t) (by decide) rfl (fun ls hl => ?_)
                  refine lv_goto (tgt := 34) hx hb dM_sum_116 (by decide) ?_
                  have hl := lv_sub (l' := [(0, .ref h0), (1, .int (nI h)), (2, .int (nI v)), (3, .int (nI o)), (4, .int (nI (mdSm mh ma mc h v o t))), (5, .int (nI (t + 1)))]) hl [1, 2, 3, 4, 5, 0] rfl
                  have hl : lv_has ls 8 [(0, .ref h0), (1, .int (nI h)), (2, .int (nI v)), (3, .int (nI o)), (4, .int (nI (mdSm mh ma mc h v o (t + 1)))), (5, .int (nI (t + 1)))] := xf_lv hl (by simp [mdSm, c49, c59])
                  exact ih34 (t + 1) ls (by show 40 - (t + 1) < 40 - t; omega) (by show (t + 1) ≤ 40; omega) hl
                ·
                  exact absurd nI_0 c81
            ·
              refine lv_iconst (v := nI 1) hx hb dM_sum_62 (by decide) ?_
              refine lv_goto (tgt := 67) hx hb dM_sum_63 (by decide) ?_
              refine lv_istore (lv' := [(6, .int (nI 1)), (0, .ref h0), (1, .int (nI h)), (2, .int (nI v)), (3, .int (nI o)), (4, .int (nI (mdSm mh ma mc h v o t))), (5, .int (nI t))]) hx hb dM_sum_67 hl (by decide) rfl (fun ls hl => ?_)
              refine lv_iconst (v := nI 0) hx hb dM_sum_69 (by decide) ?_
              refine lv_istore (lv' := [(7, .int (nI 0)), (6, .int (nI 1)), (0, .ref h0), (1, .int (nI h)), (2, .int (nI v)), (3, .int (nI o)), (4, .int (nI (mdSm mh ma mc h v o t))), (5, .int (nI t))]) hx hb dM_sum_70 hl (by decide) rfl (fun ls hl => ?_)
              refine xf_loopS (σ := Nat) (fun (z9 : Nat) => 32 - z9) (fun (z9 : Nat) => [(0, .ref h0), (1, .int (nI h)), (2, .int (nI v)), (3, .int (nI o)), (4, .int (nI (mdSm mh ma mc h v o t + mdSO mh ma t o z9))), (5, .int (nI t)), (6, .int (nI 1)), (7, .int (nI z9))]) (fun (z9 : Nat) => z9 ≤ 32) 0 (lv_sub hl [2, 3, 4, 5, 6, 7, 1, 0] rfl) (Nat.zero_le _) (fun z9 ls hi hl ih72 => ?_)
              obtain ⟨w, hxe⟩ : ∃ z, z = z9 := ⟨_, rfl⟩
              subst hxe
              have hl : lv_has ls 8 [(0, .ref h0), (1, .int (nI h)), (2, .int (nI v)), (3, .int (nI o)), (4, .int (nI (mdSm mh ma mc h v o t + mdSO mh ma t o w))), (5, .int (nI t)), (6, .int (nI 1)), (7, .int (nI w))] := hl
              have hi : w ≤ 32 := hi
              refine lv_iload hx hb dM_sum_72 (lv_at hl 7 rfl) ?_
              refine lv_bipush (v := nI 32) hx hb dM_sum_74 (by decide) ?_
              refine xf_ge (tgt := 113) hx hb dM_sum_76 (by decide) (by omega) (by omega) (fun c76 => ?_) (fun c76 => ?_)
              ·
                obtain rfl : w = 32 := by omega
                refine lv_iinc (v := nI (t + 1)) (lv' := [(5, .int (nI (t + 1))), (0, .ref h0), (1, .int (nI h)), (2, .int (nI v)), (3, .int (nI o)), (4, .int (nI (mdSm mh ma mc h v o t + mdSO mh ma t o 32))), (6, .int (nI 1)), (7, .int (nI 32))]) hx hb dM_sum_113 hl (k := 5) rfl (by exact nI_1 t) (by decide) rfl (fun ls hl => ?_)
                refine lv_goto (tgt := 34) hx hb dM_sum_116 (by decide) ?_
                have hl := lv_sub (l' := [(0, .ref h0), (1, .int (nI h)), (2, .int (nI v)), (3, .int (nI o)), (4, .int (nI (mdSm mh ma mc h v o t + mdSO mh ma t o 32))), (5, .int (nI (t + 1)))]) hl [1, 2, 3, 4, 5, 0] rfl
                have hl : lv_has ls 8 [(0, .ref h0), (1, .int (nI h)), (2, .int (nI v)), (3, .int (nI o)), (4, .int (nI (mdSm mh ma mc h v o (t + 1)))), (5, .int (nI (t + 1)))] := xf_lv hl (by simp [mdSm, c49, c59])
                exact ih34 (t + 1) ls (by show 40 - (t + 1) < 40 - t; omega) (by show (t + 1) ≤ 40; omega) hl
              ·
                refine lv_iload hx hb dM_sum_79 (lv_at hl 6 rfl) ?_
                refine lv_if_eq (tgt := 113) hx hb dM_sum_81 (by decide) (fun c81 => ?_) (fun c81 => ?_)
                ·
                  exact absurd c81 (by decide)
                ·
                  refine lv_iload hx hb dM_sum_84 (lv_at hl 4 rfl) ?_
                  refine lv_aload_n hx hb dM_sum_86 rfl (lv_at hl 0 rfl) ?_
                  refine lv_iload hx hb dM_sum_87 (lv_at hl 5 rfl) ?_
                  refine lv_iload_n hx hb dM_sum_89 rfl (lv_at hl 3 rfl) ?_
                  refine lv_iload hx hb dM_sum_90 (lv_at hl 7 rfl) ?_
                  refine vp_callSi (W.runV (As := [.int (nI t), .int (nI o), .int (nI w)]) (rest := [.int (nI (mdSm mh ma mc h v o t + mdSO mh ma t o w))]) ⟨hx, hb, hml, hown, hts⟩ (m_owns l dC dI h0 b1 b2 b3 b4 b5 cI cZ mh ma mc mt mn (nI 0) ro t o w (by omega) (by omega) (by omega) hOk hAc) (cwV 3 hts gM_sum_owns rfl rfl rfl (by decide +kernel) ⟨Nat.le_of_ble_eq_true rfl, Nat.le_of_ble_eq_true rfl⟩) (xf_preV (ci := 1) (RX1, TM, 7) hK hP rfl rfl) rfl rfl hl.1 rfl (lv_room (Nat.le_of_ble_eq_true rfl)) dM_sum_92 ⟨Nat.zero_le _, Nat.zero_le _⟩) (fun r hr9 => ?_)
                  subst hr9
                  refine xf_Beq (tgt := 103) hx hb dM_sum_95 (by decide) (fun c95 => ?_) (fun c95 => ?_)
                  ·
                    refine lv_iconst (v := nI 0) hx hb dM_sum_103 (by decide) ?_
                    refine lv_iadd hx hb dM_sum_104 ?_
                    refine xf_be (y := nI (mdSm mh ma mc h v o t + mdSO mh ma t o w + 0)) (by exact nI_add _ _) ?_
                    refine lv_istore (lv' := [(4, .int (nI (mdSm mh ma mc h v o t + mdSO mh ma t o w + 0))), (0, .ref h0), (1, .int (nI h)), (2, .int (nI v)), (3, .int (nI o)), (5, .int (nI t)), (6, .int (nI 1)), (7, .int (nI w))]) hx hb dM_sum_105 hl (by decide) rfl (fun ls hl => ?_)
                    refine lv_iinc (v := nI (w + 1)) (lv' := [(7, .int (nI (w + 1))), (4, .int (nI (mdSm mh ma mc h v o t + mdSO mh ma t o w + 0))), (0, .ref h0), (1, .int (nI h)), (2, .int (nI v)), (3, .int (nI o)), (5, .int (nI t)), (6, .int (nI 1))]) hx hb dM_sum_107 hl (k := 7) rfl (by exact nI_1 w) (by decide) rfl (fun ls hl => ?_)
                    refine lv_goto (tgt := 72) hx hb dM_sum_110 (by decide) ?_
                    have hl := lv_sub (l' := [(0, .ref h0), (1, .int (nI h)), (2, .int (nI v)), (3, .int (nI o)), (4, .int (nI (mdSm mh ma mc h v o t + mdSO mh ma t o w + 0))), (5, .int (nI t)), (6, .int (nI 1)), (7, .int (nI (w + 1)))]) hl [2, 3, 4, 5, 1, 6, 7, 0] rfl
                    have hl : lv_has ls 8 [(0, .ref h0), (1, .int (nI h)), (2, .int (nI v)), (3, .int (nI o)), (4, .int (nI (mdSm mh ma mc h v o t + mdSO mh ma t o (w + 1)))), (5, .int (nI t)), (6, .int (nI 1)), (7, .int (nI (w + 1)))] := xf_lv hl (by simp [mdSO, Nat.add_assoc, c76, c81, c95])
                    exact ih72 (w + 1) ls (by show 32 - (w + 1) < 32 - w; omega) (by show (w + 1) ≤ 32; omega) hl
                  ·
                    refine lv_iload hx hb dM_sum_98 (lv_at hl 7 rfl) ?_
                    refine lv_goto (tgt := 104) hx hb dM_sum_100 (by decide) ?_
                    refine lv_iadd hx hb dM_sum_104 ?_
                    refine xf_be (y := nI (mdSm mh ma mc h v o t + mdSO mh ma t o w + w)) (by exact nI_add _ _) ?_
                    refine lv_istore (lv' := [(4, .int (nI (mdSm mh ma mc h v o t + mdSO mh ma t o w + w))), (0, .ref h0), (1, .int (nI h)), (2, .int (nI v)), (3, .int (nI o)), (5, .int (nI t)), (6, .int (nI 1)), (7, .int (nI w))]) hx hb dM_sum_105 hl (by decide) rfl (fun ls hl => ?_)
                    refine lv_iinc (v := nI (w + 1)) (lv' := [(7, .int (nI (w + 1))), (4, .int (nI (mdSm mh ma mc h v o t + mdSO mh ma t o w + w))), (0, .ref h0), (1, .int (nI h)), (2, .int (nI v)), (3, .int (nI o)), (5, .int (nI t)), (6, .int (nI 1))]) hx hb dM_sum_107 hl (k := 7) rfl (by exact nI_1 w) (by decide) rfl (fun ls hl => ?_)
                    refine lv_goto (tgt := 72) hx hb dM_sum_110 (by decide) ?_
                    have hl := lv_sub (l' := [(0, .ref h0), (1, .int (nI h)), (2, .int (nI v)), (3, .int (nI o)), (4, .int (nI (mdSm mh ma mc h v o t + mdSO mh ma t o w + w))), (5, .int (nI t)), (6, .int (nI 1)), (7, .int (nI (w + 1)))]) hl [2, 3, 4, 5, 1, 6, 7, 0] rfl
                    have hl : lv_has ls 8 [(0, .ref h0), (1, .int (nI h)), (2, .int (nI v)), (3, .int (nI o)), (4, .int (nI (mdSm mh ma mc h v o t + mdSO mh ma t o (w + 1)))), (5, .int (nI t)), (6, .int (nI 1)), (7, .int (nI (w + 1)))] := xf_lv hl (by simp [mdSO, Nat.add_assoc, c76, c81, c95])
                    exact ih72 (w + 1) ls (by show 32 - (w + 1) < 32 - w; omega) (by show (w + 1) ≤ 32; omega) hl
      ·
        refine lv_iconst (v := (-1)) hx hb dM_sum_26 (by decide) ?_
        exact W.iret (v := (-1)) hx hb hr (fun t9 ht9 hW9 => ⟨⟨_, (mh, ma, mc, mt, mn, nI 0, ro), rfl, by simp [mdSum, c9, eh, c16, ev, c23], xf_hP ht9 hP⟩, hS.F ht9⟩) hS.2.2 dM_sum_27
set_option maxHeartbeats 4000000 in
set_option maxRecDepth 100000 in
/-- share(ph, pv, lo) -/
theorem m_share (l : Launch) (dC : Nat → ClassId) (dI : Nat → Nat → Nat) (h0 b1 b2 b3 b4 b5 : Nat) (cI cZ : ClassId) (mh : Nat → Bool) (ma : Nat → Int32) (mc : Nat → Bool) (mt mn : Nat → Int32) (cd ro : Int32) (ph pv lo : Int32) (hOk : mdOk ma) (hAc : mdAc ma) : Met l yM_share wsM_share ({ frames := 5, cells := 0, slots := 0, locals := 121 }) (va_Pc [.ref h0, .int ph, .int pv, .int lo] (fun U => va_P (dC, dI) fmCl (mw h0 b1 b2 b3 b4 b5 cI cZ mh ma mc mt mn cd ro) U.heap ∧ va_K (dC, dI) fmCl [(cI, .int), (cZ, .boolean)] U ∧ va_D (fun _ => True) (mw h0 b1 b2 b3 b4 b5 cI cZ mh ma mc mt mn cd ro))) (va_Qi (fun (r : Int32) (u : MdS) => (r, u) = mdShare mh ma mc mt mn ro ph pv lo) (fun u t => va_P (dC, dI) fmCl (mw h0 b1 b2 b3 b4 b5 cI cZ u.1 u.2.1 u.2.2.1 u.2.2.2.1 u.2.2.2.2.1 u.2.2.2.2.2.1 u.2.2.2.2.2.2) t.heap) (xf_A (mw h0 b1 b2 b3 b4 b5 cI cZ mh ma mc mt mn cd ro))) 0 0 (xf_A (mw h0 b1 b2 b3 b4 b5 cI cZ mh ma mc mt mn cd ro)) := by
  refine Met.ofW (cc := cM_share) (maxL := 8) (ret := (some .int)) (by decide) rfl ?_
  intro p e s m args below meth c s₁ B hml hv
  obtain ⟨rfl, hP, hK, hD0⟩ := hv
  have hx := B.exec
  have hb := B.bytes
  have hr := B.returns
  have hts := atoms_spec (ws := wsM_share) B.pre
  have hown : s.vm.findClass RX1 = some m.cls := findClass_of_methodNamed B.named
  have hlocks := B.notSynchronized
  have hin : ∀ w ∈ u_ws RX1 TM 7, w ∈ wsM_share := by decide +kernel
  have hf_code := hts (.fieldLink RX1 26 "FacetCountsModel" "code" "I") (by decide +kernel)
  have hD := xf_A_self hD0
  generalize hAe : xf_A (mw h0 b1 b2 b3 b4 b5 cI cZ mh ma mc mt mn cd ro) = A at hD ⊢
  have hS : va_S A s.heap s.heap [] := va_S.rf
  have hP : va_P (dC, dI) fmCl (mw h0 b1 b2 b3 b4 b5 cI cZ mh ma mc mt mn cd ro) s.heap := hP
  have hl := lv_entry ([.ref h0, .int ph, .int pv, .int lo]) (n := 8) (Nat.le_of_ble_eq_true rfl)
  rw [lg_entry_eq]
  generalize (lg_sl ([.ref h0, .int ph, .int pv, .int lo]) ++ List.replicate (8 - (lg_sl ([.ref h0, .int ph, .int pv, .int lo])).length) Slot.unset).toArray = ls at hl ⊢
  have hl : lv_has ls 8 [(0, .ref h0), (1, .int ph), (2, .int pv), (3, .int lo)] := hl
  refine lv_iload_n hx hb dM_share_0 rfl (lv_at hl 1 rfl) ?_
  refine vp_callSi (W.runS (As := [.int ph]) (rest := []) ⟨hx, hb, hml, hown, hts⟩ (m_isHead l ph) (va_cwS 1 hts gM_share_isHead rfl rfl rfl (by decide +kernel) ⟨Nat.le_of_ble_eq_true rfl, Nat.le_of_ble_eq_true rfl⟩) (xf_preS0) rfl rfl hl.1 rfl (lv_room (Nat.le_of_ble_eq_true rfl)) dM_share_1 ⟨Nat.zero_le _, Nat.zero_le _⟩) (fun r hr9 => ?_)
  subst hr9
  refine xf_Beq (tgt := 22) hx hb dM_share_4 (by decide) (fun c4 => ?_) (fun c4 => ?_)
  ·
    refine lv_iconst (v := nI 0) hx hb dM_share_22 (by decide) ?_
    refine lv_istore (lv' := [(4, .int (nI 0)), (0, .ref h0), (1, .int ph), (2, .int pv), (3, .int lo)]) hx hb dM_share_23 hl (by decide) rfl (fun ls hl => ?_)
    refine lv_aload_n hx hb dM_share_25 rfl (lv_at hl 1 rfl) ?_
    refine lv_iload hx hb dM_share_26 (lv_at hl 0 rfl) ?_
    refine lv_if_ne (tgt := 35) hx hb dM_share_28 (by decide) (fun c28 => ?_) (fun c28 => ?_)
    ·
      exact absurd nI_0 c28
    ·
      refine lv_iconst (v := nI 1) hx hb dM_share_31 (by decide) ?_
      refine lv_goto (tgt := 36) hx hb dM_share_32 (by decide) ?_
      refine va_put (D := (dC, dI)) (ci := 1) (v := .int (nI 1)) (ty := .int) (C := RX1) (T := TM) (N := 7) hx hb hts hin tyM tyM_ok nmM hown hK hP hD hS 0 rfl rfl 0 (by decide) hf_code (fun _ h9 => h9) rfl (by decide +kernel) rfl rfl (Nat.le_of_ble_eq_true rfl) dM_share_36 (fun H locs hP hD hS => ?_)
      have hP : va_P (dC, dI) fmCl (mw h0 b1 b2 b3 b4 b5 cI cZ mh ma mc mt mn (nI 1) ro) H := hP
      have hD : va_D A (mw h0 b1 b2 b3 b4 b5 cI cZ mh ma mc mt mn (nI 1) ro) := hD
      refine lv_aload_n hx hb dM_share_39 rfl (lv_at hl 1 rfl) ?_
      refine va_get (D := (dC, dI)) (ci := 1) (v := .int (nI 1)) (C := RX1) (T := TM) (N := 7) hx hb hts hin hown hK hP 0 rfl rfl 0 (by decide) hf_code (fun _ h9 => h9) rfl dM_share_40 ?_
      refine lv_if_le (tgt := 48) hx hb dM_share_43 (by decide) (fun c43 => ?_) (fun c43 => ?_)
      ·
        exact absurd c43 (by decide)
      ·
        refine lv_iconst (v := nI 0) hx hb dM_share_46 (by decide) ?_
        exact W.iret (v := nI 0) hx hb hr (fun t9 ht9 hW9 => ⟨⟨_, (mh, ma, mc, mt, mn, nI 1, ro), rfl, by simp [mdShare, mdShW, c4], xf_hP ht9 hP⟩, hS.F ht9⟩) hS.2.2 dM_share_47
  ·
    obtain ⟨h, hh, rfl⟩ := xf_in_of c4 (by decide)
    have eh : (nI h).toNatClampNeg = h := nI_clamp (by omega)
    refine lv_iload_n hx hb dM_share_7 rfl (lv_at hl 2 rfl) ?_
    refine vp_callSi (W.runS (As := [.int pv]) (rest := []) ⟨hx, hb, hml, hown, hts⟩ (m_isValue l pv) (va_cwS 1 hts gM_share_isValue rfl rfl rfl (by decide +kernel) ⟨Nat.le_of_ble_eq_true rfl, Nat.le_of_ble_eq_true rfl⟩) (xf_preS0) rfl rfl hl.1 rfl (lv_room (Nat.le_of_ble_eq_true rfl)) dM_share_8 ⟨Nat.zero_le _, Nat.zero_le _⟩) (fun r hr9 => ?_)
    subst hr9
    refine xf_Beq (tgt := 22) hx hb dM_share_11 (by decide) (fun c11 => ?_) (fun c11 => ?_)
    ·
      refine lv_iconst (v := nI 0) hx hb dM_share_22 (by decide) ?_
      refine lv_istore (lv' := [(4, .int (nI 0)), (0, .ref h0), (1, .int (nI h)), (2, .int pv), (3, .int lo)]) hx hb dM_share_23 hl (by decide) rfl (fun ls hl => ?_)
      refine lv_aload_n hx hb dM_share_25 rfl (lv_at hl 1 rfl) ?_
      refine lv_iload hx hb dM_share_26 (lv_at hl 0 rfl) ?_
      refine lv_if_ne (tgt := 35) hx hb dM_share_28 (by decide) (fun c28 => ?_) (fun c28 => ?_)
      ·
        exact absurd nI_0 c28
      ·
        refine lv_iconst (v := nI 1) hx hb dM_share_31 (by decide) ?_
        refine lv_goto (tgt := 36) hx hb dM_share_32 (by decide) ?_
        refine va_put (D := (dC, dI)) (ci := 1) (v := .int (nI 1)) (ty := .int) (C := RX1) (T := TM) (N := 7) hx hb hts hin tyM tyM_ok nmM hown hK hP hD hS 0 rfl rfl 0 (by decide) hf_code (fun _ h9 => h9) rfl (by decide +kernel) rfl rfl (Nat.le_of_ble_eq_true rfl) dM_share_36 (fun H locs hP hD hS => ?_)
        have hP : va_P (dC, dI) fmCl (mw h0 b1 b2 b3 b4 b5 cI cZ mh ma mc mt mn (nI 1) ro) H := hP
        have hD : va_D A (mw h0 b1 b2 b3 b4 b5 cI cZ mh ma mc mt mn (nI 1) ro) := hD
        refine lv_aload_n hx hb dM_share_39 rfl (lv_at hl 1 rfl) ?_
        refine va_get (D := (dC, dI)) (ci := 1) (v := .int (nI 1)) (C := RX1) (T := TM) (N := 7) hx hb hts hin hown hK hP 0 rfl rfl 0 (by decide) hf_code (fun _ h9 => h9) rfl dM_share_40 ?_
        refine lv_if_le (tgt := 48) hx hb dM_share_43 (by decide) (fun c43 => ?_) (fun c43 => ?_)
        ·
          exact absurd c43 (by decide)
        ·
          refine lv_iconst (v := nI 0) hx hb dM_share_46 (by decide) ?_
          exact W.iret (v := nI 0) hx hb hr (fun t9 ht9 hW9 => ⟨⟨_, (mh, ma, mc, mt, mn, nI 1, ro), rfl, by simp [mdShare, mdShW, c11], xf_hP ht9 hP⟩, hS.F ht9⟩) hS.2.2 dM_share_47
    ·
      obtain ⟨v, hv, rfl⟩ := xf_in_of c11 (by decide)
      have ev : (nI v).toNatClampNeg = v := nI_clamp (by omega)
      obtain ⟨w, ew⟩ : ∃ y, y = xf_cnt (mdAP mh ma mc (nI h)) 40 := ⟨_, rfl⟩
      have hw9 : w ≤ 40 := by rw [ew]; exact xf_cnt_le _ _
      refine lv_aload_n hx hb dM_share_14 rfl (lv_at hl 0 rfl) ?_
      refine lv_iload_n hx hb dM_share_15 rfl (lv_at hl 1 rfl) ?_
      refine vp_callSi (W.runV (As := [.int (nI h)]) (rest := []) ⟨hx, hb, hml, hown, hts⟩ (m_all l dC dI h0 b1 b2 b3 b4 b5 cI cZ mh ma mc mt mn cd ro (nI h) hOk hAc) (cwV 1 hts gM_share_all rfl rfl rfl (by decide +kernel) ⟨Nat.le_of_ble_eq_true rfl, Nat.le_of_ble_eq_true rfl⟩) (xf_preV (ci := 1) (RX1, TM, 7) hK hP rfl rfl) rfl rfl hl.1 rfl (lv_room (Nat.le_of_ble_eq_true rfl)) dM_share_16 ⟨Nat.zero_le _, Nat.zero_le _⟩) (fun r hr9 => ?_)
      subst hr9
      refine xf_be (y := nI w) (by rw [ew]) ?_
      refine lv_goto (tgt := 23) hx hb dM_share_19 (by decide) ?_
      refine lv_istore (lv' := [(4, .int (nI w)), (0, .ref h0), (1, .int (nI h)), (2, .int (nI v)), (3, .int lo)]) hx hb dM_share_23 hl (by decide) rfl (fun ls hl => ?_)
      refine lv_aload_n hx hb dM_share_25 rfl (lv_at hl 1 rfl) ?_
      refine lv_iload hx hb dM_share_26 (lv_at hl 0 rfl) ?_
      refine xf_zne (tgt := 35) hx hb dM_share_28 (by decide) (by omega) (fun c28 => ?_) (fun c28 => ?_)
      ·
        refine lv_iconst (v := nI 0) hx hb dM_share_35 (by decide) ?_
        refine va_put (D := (dC, dI)) (ci := 1) (v := .int (nI 0)) (ty := .int) (C := RX1) (T := TM) (N := 7) hx hb hts hin tyM tyM_ok nmM hown hK hP hD hS 0 rfl rfl 0 (by decide) hf_code (fun _ h9 => h9) rfl (by decide +kernel) rfl rfl (Nat.le_of_ble_eq_true rfl) dM_share_36 (fun H locs hP hD hS => ?_)
        have hP : va_P (dC, dI) fmCl (mw h0 b1 b2 b3 b4 b5 cI cZ mh ma mc mt mn (nI 0) ro) H := hP
        have hD : va_D A (mw h0 b1 b2 b3 b4 b5 cI cZ mh ma mc mt mn (nI 0) ro) := hD
        refine lv_aload_n hx hb dM_share_39 rfl (lv_at hl 1 rfl) ?_
        refine va_get (D := (dC, dI)) (ci := 1) (v := .int (nI 0)) (C := RX1) (T := TM) (N := 7) hx hb hts hin hown hK hP 0 rfl rfl 0 (by decide) hf_code (fun _ h9 => h9) rfl dM_share_40 ?_
        refine lv_if_le (tgt := 48) hx hb dM_share_43 (by decide) (fun c43 => ?_) (fun c43 => ?_)
        ·
          obtain ⟨n, en⟩ : ∃ y, y = mdN mh ma mc h v := ⟨_, rfl⟩
          have hn9 : n ≤ 40 := by rw [en]; exact mdN_le _ _ _ _ _
          refine lv_aload_n hx hb dM_share_48 rfl (lv_at hl 1 rfl) ?_
          refine lv_iload_n hx hb dM_share_49 rfl (lv_at hl 2 rfl) ?_
          refine lv_iload_n hx hb dM_share_50 rfl (lv_at hl 3 rfl) ?_
          refine vp_callSi (W.runV (As := [.int (nI h), .int (nI v)]) (rest := []) ⟨hx, hb, hml, hown, hts⟩ (m_count l dC dI h0 b1 b2 b3 b4 b5 cI cZ mh ma mc mt mn (nI 0) ro h v (by omega) (by omega) hOk hAc) (cwV 2 hts gM_share_count rfl rfl rfl (by decide +kernel) ⟨Nat.le_of_ble_eq_true rfl, Nat.le_of_ble_eq_true rfl⟩) (xf_preV (ci := 1) (RX1, TM, 7) hK hP rfl rfl) rfl rfl hl.1 rfl (lv_room (Nat.le_of_ble_eq_true rfl)) dM_share_51 ⟨Nat.zero_le _, Nat.zero_le _⟩) (fun r hr9 => ?_)
          subst hr9
          refine xf_be (y := nI n) (by rw [en]) ?_
          refine lv_istore (lv' := [(5, .int (nI n)), (4, .int (nI w)), (0, .ref h0), (1, .int (nI h)), (2, .int (nI v)), (3, .int lo)]) hx hb dM_share_54 hl (by decide) rfl (fun ls hl => ?_)
          refine lv_iconst (v := nI 1) hx hb dM_share_56 (by decide) ?_
          refine lv_istore (lv' := [(6, .int (nI 1)), (5, .int (nI n)), (4, .int (nI w)), (0, .ref h0), (1, .int (nI h)), (2, .int (nI v)), (3, .int lo)]) hx hb dM_share_57 hl (by decide) rfl (fun ls hl => ?_)
          refine lv_iconst (v := nI 1) hx hb dM_share_59 (by decide) ?_
          refine lv_istore (lv' := [(7, .int (nI 1)), (6, .int (nI 1)), (5, .int (nI n)), (4, .int (nI w)), (0, .ref h0), (1, .int (nI h)), (2, .int (nI v)), (3, .int lo)]) hx hb dM_share_60 hl (by decide) rfl (fun ls hl => ?_)
          refine xf_loopS (σ := Nat) (fun (z9 : Nat) => w + 1 - z9) (fun (z9 : Nat) => [(0, .ref h0), (1, .int (nI h)), (2, .int (nI v)), (3, .int lo), (4, .int (nI w)), (5, .int (nI n)), (6, .int (nI (mdG n w (z9 - 1)))), (7, .int (nI z9))]) (fun (z9 : Nat) => 1 ≤ z9 ∧ z9 ≤ w + 1) 1 (lv_sub hl [4, 5, 6, 7, 3, 2, 1, 0] rfl) ⟨Nat.le_refl _, by omega⟩ (fun z9 ls hi hl ih62 => ?_)
          obtain ⟨k, hxe⟩ : ∃ z, z = z9 := ⟨_, rfl⟩
          subst hxe
          have hl : lv_has ls 8 [(0, .ref h0), (1, .int (nI h)), (2, .int (nI v)), (3, .int lo), (4, .int (nI w)), (5, .int (nI n)), (6, .int (nI (mdG n w (k - 1)))), (7, .int (nI k))] := hl
          obtain ⟨hi, hj⟩ := hi
          have hi : 1 ≤ k := hi
          have hj : k ≤ w + 1 := hj
          refine lv_iload hx hb dM_share_62 (lv_at hl 7 rfl) ?_
          refine lv_iload hx hb dM_share_64 (lv_at hl 4 rfl) ?_
          refine xf_gt (tgt := 100) hx hb dM_share_66 (by decide) (by omega) (by omega) (fun c66 => ?_) (fun c66 => ?_)
          ·
            obtain rfl : k = w + 1 := by omega
            have hl : lv_has ls 8 [(0, .ref h0), (1, .int (nI h)), (2, .int (nI v)), (3, .int lo), (4, .int (nI w)), (5, .int (nI n)), (6, .int (nI (mdG n w w))), (7, .int (nI (w + 1)))] := hl
            refine lv_iload_n hx hb dM_share_100 rfl (lv_at hl 3 rfl) ?_
            refine lv_if_eq (tgt := 112) hx hb dM_share_101 (by decide) (fun c101 => ?_) (fun c101 => ?_)
            ·
              refine lv_iload hx hb dM_share_112 (lv_at hl 5 rfl) ?_
              refine lv_iload hx hb dM_share_114 (lv_at hl 6 rfl) ?_
              refine lv_idiv hx hb dM_share_116 (by have q := mdG_in n w w; exact nI_ne0 (by omega) (by omega)) ?_
              refine xf_be (y := nI (n / mdG n w w)) (by have q := mdG_in n w w; exact pk_div (by omega) (by omega) (by omega)) ?_
              exact W.iret (v := nI (n / mdG n w w)) hx hb hr (fun t9 ht9 hW9 => ⟨⟨_, (mh, ma, mc, mt, mn, nI 0, ro), rfl, by rw [mdShare, show mdShW mh ma mc (nI h) (nI v) = w from by rw [mdShW, if_pos (by rw [c4, c11]; rfl), ← ew], if_neg c28, eh, ev, ← en, if_pos c101], xf_hP ht9 hP⟩, hS.F ht9⟩) hS.2.2 dM_share_117
            ·
              refine lv_iload hx hb dM_share_104 (lv_at hl 4 rfl) ?_
              refine lv_iload hx hb dM_share_106 (lv_at hl 6 rfl) ?_
              refine lv_idiv hx hb dM_share_108 (by have q := mdG_in n w w; exact nI_ne0 (by omega) (by omega)) ?_
              refine xf_be (y := nI (w / mdG n w w)) (by have q := mdG_in n w w; exact pk_div (by omega) (by omega) (by omega)) ?_
              refine lv_goto (tgt := 117) hx hb dM_share_109 (by decide) ?_
              exact W.iret (v := nI (w / mdG n w w)) hx hb hr (fun t9 ht9 hW9 => ⟨⟨_, (mh, ma, mc, mt, mn, nI 0, ro), rfl, by rw [mdShare, show mdShW mh ma mc (nI h) (nI v) = w from by rw [mdShW, if_pos (by rw [c4, c11]; rfl), ← ew], if_neg c28, eh, ev, ← en, if_neg c101], xf_hP ht9 hP⟩, hS.F ht9⟩) hS.2.2 dM_share_117
          ·
            refine lv_iload hx hb dM_share_69 (lv_at hl 4 rfl) ?_
            refine lv_iload hx hb dM_share_71 (lv_at hl 7 rfl) ?_
            refine lv_irem hx hb dM_share_73 (nI_ne0 (by omega) (by omega)) ?_
            refine xf_be (y := nI (w % k)) (pk_rem (by omega) (by omega) (by omega)) ?_
            refine xf_zne (tgt := 90) hx hb dM_share_74 (by decide) (by have := Nat.mod_lt w (show 0 < k by omega); omega) (fun c74 => ?_) (fun c74 => ?_)
            ·
              refine lv_iload hx hb dM_share_90 (lv_at hl 6 rfl) ?_
              refine lv_istore (lv' := [(6, .int (nI (mdG n w (k - 1)))), (0, .ref h0), (1, .int (nI h)), (2, .int (nI v)), (3, .int lo), (4, .int (nI w)), (5, .int (nI n)), (7, .int (nI k))]) hx hb dM_share_92 hl (by decide) rfl (fun ls hl => ?_)
              refine lv_iinc (v := nI (k + 1)) (lv' := [(7, .int (nI (k + 1))), (6, .int (nI (mdG n w (k - 1)))), (0, .ref h0), (1, .int (nI h)), (2, .int (nI v)), (3, .int lo), (4, .int (nI w)), (5, .int (nI n))]) hx hb dM_share_94 hl (k := 7) rfl (by exact nI_1 k) (by decide) rfl (fun ls hl => ?_)
              refine lv_goto (tgt := 62) hx hb dM_share_97 (by decide) ?_
              have hl := lv_sub (l' := [(0, .ref h0), (1, .int (nI h)), (2, .int (nI v)), (3, .int lo), (4, .int (nI w)), (5, .int (nI n)), (6, .int (nI (mdG n w (k - 1)))), (7, .int (nI (k + 1)))]) hl [2, 3, 4, 5, 6, 7, 1, 0] rfl
              have hl : lv_has ls 8 [(0, .ref h0), (1, .int (nI h)), (2, .int (nI v)), (3, .int lo), (4, .int (nI w)), (5, .int (nI n)), (6, .int (nI (mdG n w ((k + 1) - 1)))), (7, .int (nI (k + 1)))] := xf_lv hl (by obtain ⟨q, rfl⟩ : ∃ q, k = q + 1 := ⟨k - 1, by omega⟩; simp [mdG, c66, c74])
              exact ih62 (k + 1) ls (by show w + 1 - (k + 1) < w + 1 - k; omega) (by exact ⟨by omega, by omega⟩) hl
            ·
              refine lv_iload hx hb dM_share_77 (lv_at hl 5 rfl) ?_
              refine lv_iload hx hb dM_share_79 (lv_at hl 7 rfl) ?_
              refine lv_irem hx hb dM_share_81 (nI_ne0 (by omega) (by omega)) ?_
              refine xf_be (y := nI (n % k)) (pk_rem (by omega) (by omega) (by omega)) ?_
              refine xf_zne (tgt := 90) hx hb dM_share_82 (by decide) (by have := Nat.mod_lt n (show 0 < k by omega); omega) (fun c82 => ?_) (fun c82 => ?_)
              ·
                refine lv_iload hx hb dM_share_90 (lv_at hl 6 rfl) ?_
                refine lv_istore (lv' := [(6, .int (nI (mdG n w (k - 1)))), (0, .ref h0), (1, .int (nI h)), (2, .int (nI v)), (3, .int lo), (4, .int (nI w)), (5, .int (nI n)), (7, .int (nI k))]) hx hb dM_share_92 hl (by decide) rfl (fun ls hl => ?_)
                refine lv_iinc (v := nI (k + 1)) (lv' := [(7, .int (nI (k + 1))), (6, .int (nI (mdG n w (k - 1)))), (0, .ref h0), (1, .int (nI h)), (2, .int (nI v)), (3, .int lo), (4, .int (nI w)), (5, .int (nI n))]) hx hb dM_share_94 hl (k := 7) rfl (by exact nI_1 k) (by decide) rfl (fun ls hl => ?_)
                refine lv_goto (tgt := 62) hx hb dM_share_97 (by decide) ?_
                have hl := lv_sub (l' := [(0, .ref h0), (1, .int (nI h)), (2, .int (nI v)), (3, .int lo), (4, .int (nI w)), (5, .int (nI n)), (6, .int (nI (mdG n w (k - 1)))), (7, .int (nI (k + 1)))]) hl [2, 3, 4, 5, 6, 7, 1, 0] rfl
                have hl : lv_has ls 8 [(0, .ref h0), (1, .int (nI h)), (2, .int (nI v)), (3, .int lo), (4, .int (nI w)), (5, .int (nI n)), (6, .int (nI (mdG n w ((k + 1) - 1)))), (7, .int (nI (k + 1)))] := xf_lv hl (by obtain ⟨q, rfl⟩ : ∃ q, k = q + 1 := ⟨k - 1, by omega⟩; simp [mdG, c66, c74, c82])
                exact ih62 (k + 1) ls (by show w + 1 - (k + 1) < w + 1 - k; omega) (by exact ⟨by omega, by omega⟩) hl
              ·
                refine lv_iload hx hb dM_share_85 (lv_at hl 7 rfl) ?_
                refine lv_goto (tgt := 92) hx hb dM_share_87 (by decide) ?_
                refine lv_istore (lv' := [(6, .int (nI k)), (0, .ref h0), (1, .int (nI h)), (2, .int (nI v)), (3, .int lo), (4, .int (nI w)), (5, .int (nI n)), (7, .int (nI k))]) hx hb dM_share_92 hl (by decide) rfl (fun ls hl => ?_)
                refine lv_iinc (v := nI (k + 1)) (lv' := [(7, .int (nI (k + 1))), (6, .int (nI k)), (0, .ref h0), (1, .int (nI h)), (2, .int (nI v)), (3, .int lo), (4, .int (nI w)), (5, .int (nI n))]) hx hb dM_share_94 hl (k := 7) rfl (by exact nI_1 k) (by decide) rfl (fun ls hl => ?_)
                refine lv_goto (tgt := 62) hx hb dM_share_97 (by decide) ?_
                have hl := lv_sub (l' := [(0, .ref h0), (1, .int (nI h)), (2, .int (nI v)), (3, .int lo), (4, .int (nI w)), (5, .int (nI n)), (6, .int (nI k)), (7, .int (nI (k + 1)))]) hl [2, 3, 4, 5, 6, 7, 1, 0] rfl
                have hl : lv_has ls 8 [(0, .ref h0), (1, .int (nI h)), (2, .int (nI v)), (3, .int lo), (4, .int (nI w)), (5, .int (nI n)), (6, .int (nI (mdG n w ((k + 1) - 1)))), (7, .int (nI (k + 1)))] := xf_lv hl (by obtain ⟨q, rfl⟩ : ∃ q, k = q + 1 := ⟨k - 1, by omega⟩; simp [mdG, c66, c74, c82])
                exact ih62 (k + 1) ls (by show w + 1 - (k + 1) < w + 1 - k; omega) (by exact ⟨by omega, by omega⟩) hl
        ·
          exact absurd (by decide) c43
      ·
        refine lv_iconst (v := nI 1) hx hb dM_share_31 (by decide) ?_
        refine lv_goto (tgt := 36) hx hb dM_share_32 (by decide) ?_
        refine va_put (D := (dC, dI)) (ci := 1) (v := .int (nI 1)) (ty := .int) (C := RX1) (T := TM) (N := 7) hx hb hts hin tyM tyM_ok nmM hown hK hP hD hS 0 rfl rfl 0 (by decide) hf_code (fun _ h9 => h9) rfl (by decide +kernel) rfl rfl (Nat.le_of_ble_eq_true rfl) dM_share_36 (fun H locs hP hD hS => ?_)
        have hP : va_P (dC, dI) fmCl (mw h0 b1 b2 b3 b4 b5 cI cZ mh ma mc mt mn (nI 1) ro) H := hP
        have hD : va_D A (mw h0 b1 b2 b3 b4 b5 cI cZ mh ma mc mt mn (nI 1) ro) := hD
        refine lv_aload_n hx hb dM_share_39 rfl (lv_at hl 1 rfl) ?_
        refine va_get (D := (dC, dI)) (ci := 1) (v := .int (nI 1)) (C := RX1) (T := TM) (N := 7) hx hb hts hin hown hK hP 0 rfl rfl 0 (by decide) hf_code (fun _ h9 => h9) rfl dM_share_40 ?_
        refine lv_if_le (tgt := 48) hx hb dM_share_43 (by decide) (fun c43 => ?_) (fun c43 => ?_)
        ·
          exact absurd c43 (by decide)
        ·
          refine lv_iconst (v := nI 0) hx hb dM_share_46 (by decide) ?_
          exact W.iret (v := nI 0) hx hb hr (fun t9 ht9 hW9 => ⟨⟨_, (mh, ma, mc, mt, mn, nI 1, ro), rfl, by rw [mdShare, if_pos (by rw [mdShW, if_pos (by rw [c4, c11]; rfl), ← ew]; exact c28)], xf_hP ht9 hP⟩, hS.F ht9⟩) hS.2.2 dM_share_47
set_option maxHeartbeats 4000000 in
set_option maxRecDepth 100000 in
/-- changed() -/
theorem m_changed (l : Launch) (dC : Nat → ClassId) (dI : Nat → Nat → Nat) (h0 b1 b2 b3 b4 b5 : Nat) (cI cZ : ClassId) (mh : Nat → Bool) (ma : Nat → Int32) (mc : Nat → Bool) (mt mn : Nat → Int32) (cd ro : Int32) (hOk : mdOk ma) (hAc : mdAc ma) : Met l yM_changed wsM_changed ({ frames := 5, cells := 0, slots := 0, locals := 121 }) (va_Pc [.ref h0] (fun U => va_P (dC, dI) fmCl (mw h0 b1 b2 b3 b4 b5 cI cZ mh ma mc mt mn cd ro) U.heap ∧ va_K (dC, dI) fmCl [(cI, .int), (cZ, .boolean)] U ∧ va_D (fun _ => True) (mw h0 b1 b2 b3 b4 b5 cI cZ mh ma mc mt mn cd ro))) (va_Qi (fun (r : Int32) (u : MdS) => (r, u) = mdChanged mh ma mc mt mn ro) (fun u t => va_P (dC, dI) fmCl (mw h0 b1 b2 b3 b4 b5 cI cZ u.1 u.2.1 u.2.2.1 u.2.2.2.1 u.2.2.2.2.1 u.2.2.2.2.2.1 u.2.2.2.2.2.2) t.heap) (xf_A (mw h0 b1 b2 b3 b4 b5 cI cZ mh ma mc mt mn cd ro))) 0 0 (xf_A (mw h0 b1 b2 b3 b4 b5 cI cZ mh ma mc mt mn cd ro)) := by
  refine Met.ofW (cc := cM_changed) (maxL := 5) (ret := (some .int)) (by decide) rfl ?_
  intro p e s m args below meth c s₁ B hml hv
  obtain ⟨rfl, hP, hK, hD0⟩ := hv
  have hx := B.exec
  have hb := B.bytes
  have hr := B.returns
  have hts := atoms_spec (ws := wsM_changed) B.pre
  have hown : s.vm.findClass RX1 = some m.cls := findClass_of_methodNamed B.named
  have hlocks := B.notSynchronized
  have hin : ∀ w ∈ u_ws RX1 TM 7, w ∈ wsM_changed := by decide +kernel
  have hf_code := hts (.fieldLink RX1 26 "FacetCountsModel" "code" "I") (by decide +kernel)
  have hf_told := hts (.fieldLink RX1 20 "FacetCountsModel" "told" "[I") (by decide +kernel)
  have hD := xf_A_self hD0
  generalize hAe : xf_A (mw h0 b1 b2 b3 b4 b5 cI cZ mh ma mc mt mn cd ro) = A at hD ⊢
  have hS : va_S A s.heap s.heap [] := va_S.rf
  have hP : va_P (dC, dI) fmCl (mw h0 b1 b2 b3 b4 b5 cI cZ mh ma mc mt mn cd ro) s.heap := hP
  have hl := lv_entry ([.ref h0]) (n := 5) (Nat.le_of_ble_eq_true rfl)
  rw [lg_entry_eq]
  generalize (lg_sl ([.ref h0]) ++ List.replicate (5 - (lg_sl ([.ref h0])).length) Slot.unset).toArray = ls at hl ⊢
  have hl : lv_has ls 5 [(0, .ref h0)] := hl
  refine lv_aload_n hx hb dM_changed_0 rfl (lv_at hl 0 rfl) ?_
  refine lv_iconst (v := nI 0) hx hb dM_changed_1 (by decide) ?_
  refine va_put (D := (dC, dI)) (ci := 1) (v := .int (nI 0)) (ty := .int) (C := RX1) (T := TM) (N := 7) hx hb hts hin tyM tyM_ok nmM hown hK hP hD hS 0 rfl rfl 0 (by decide) hf_code (fun _ h9 => h9) rfl (by decide +kernel) rfl rfl (Nat.le_of_ble_eq_true rfl) dM_changed_2 (fun H locs hP hD hS => ?_)
  have hP : va_P (dC, dI) fmCl (mw h0 b1 b2 b3 b4 b5 cI cZ mh ma mc mt mn (nI 0) ro) H := hP
  have hD : va_D A (mw h0 b1 b2 b3 b4 b5 cI cZ mh ma mc mt mn (nI 0) ro) := hD
  refine lv_iconst (v := nI 0) hx hb dM_changed_5 (by decide) ?_
  refine lv_istore_n (lv' := [(1, .int (nI 0)), (0, .ref h0)]) hx hb dM_changed_6 rfl hl (by decide) rfl (fun ls hl => ?_)
  refine lv_iconst (v := nI 0) hx hb dM_changed_7 (by decide) ?_
  refine lv_istore_n (lv' := [(2, .int (nI 0)), (1, .int (nI 0)), (0, .ref h0)]) hx hb dM_changed_8 rfl hl (by decide) rfl (fun ls hl => ?_)
  refine xf_loopH (σ := Nat) (fun (z9 : Nat) => 8 - z9) (fun (z9 : Nat) => [(0, .ref h0), (1, .int (nI (xf_cnt (mdDf mh ma mc mt) (32 * z9)))), (2, .int (nI z9))]) (fun (z9 : Nat) => (mw h0 b1 b2 b3 b4 b5 cI cZ mh ma mc (mdTd mh ma mc mt (32 * z9)) mn (nI 0) ro)) (fun (z9 : Nat) => z9 ≤ 8) 0 (lv_sub hl [2, 1, 0] rfl) (Nat.zero_le _) hP hD hS (fun z9 ls H locs hi hl hP hD hS ih9 => ?_)
  obtain ⟨h, hxe⟩ : ∃ z, z = z9 := ⟨_, rfl⟩
  subst hxe
  have hl : lv_has ls 5 [(0, .ref h0), (1, .int (nI (xf_cnt (mdDf mh ma mc mt) (32 * h)))), (2, .int (nI h))] := hl
  have hP : va_P (dC, dI) fmCl (mw h0 b1 b2 b3 b4 b5 cI cZ mh ma mc (mdTd mh ma mc mt (32 * h)) mn (nI 0) ro) H := hP
  have hD : va_D A (mw h0 b1 b2 b3 b4 b5 cI cZ mh ma mc (mdTd mh ma mc mt (32 * h)) mn (nI 0) ro) := hD
  have hi : h ≤ 8 := hi
  refine lv_iload_n hx hb dM_changed_9 rfl (lv_at hl 2 rfl) ?_
  refine lv_bipush (v := nI 8) hx hb dM_changed_10 (by decide) ?_
  refine xf_ge (tgt := 80) hx hb dM_changed_12 (by decide) (by omega) (by omega) (fun c12 => ?_) (fun c12 => ?_)
  ·
    obtain rfl : h = 8 := by omega
    refine lv_iload_n hx hb dM_changed_80 rfl (lv_at hl 1 rfl) ?_
    exact W.iret (v := nI (xf_cnt (mdDf mh ma mc mt) (32 * 8))) hx hb hr (fun t9 ht9 hW9 => ⟨⟨_, (mh, ma, mc, mdTd mh ma mc mt (32 * 8), mn, nI 0, ro), rfl, rfl, xf_hP ht9 hP⟩, hS.F ht9⟩) hS.2.2 dM_changed_81
  ·
    refine lv_iconst (v := nI 0) hx hb dM_changed_15 (by decide) ?_
    refine lv_istore_n (lv' := [(3, .int (nI 0)), (0, .ref h0), (1, .int (nI (xf_cnt (mdDf mh ma mc mt) (32 * h)))), (2, .int (nI h))]) hx hb dM_changed_16 rfl hl (by decide) rfl (fun ls hl => ?_)
    refine xf_loopH (σ := Nat) (fun (z9 : Nat) => 32 - z9) (fun (z9 : Nat) => [(0, .ref h0), (1, .int (nI (xf_cnt (mdDf mh ma mc mt) (32 * h + z9)))), (2, .int (nI h)), (3, .int (nI z9))]) (fun (z9 : Nat) => (mw h0 b1 b2 b3 b4 b5 cI cZ mh ma mc (mdTd mh ma mc mt (32 * h + z9)) mn (nI 0) ro)) (fun (z9 : Nat) => z9 ≤ 32) 0 (lv_sub hl [1, 2, 3, 0] rfl) (Nat.zero_le _) hP hD hS (fun z9 ls H locs hi hl hP hD hS ih17 => ?_)
    obtain ⟨v, hxe⟩ : ∃ z, z = z9 := ⟨_, rfl⟩
    subst hxe
    have hl : lv_has ls 5 [(0, .ref h0), (1, .int (nI (xf_cnt (mdDf mh ma mc mt) (32 * h + v)))), (2, .int (nI h)), (3, .int (nI v))] := hl
    have hP : va_P (dC, dI) fmCl (mw h0 b1 b2 b3 b4 b5 cI cZ mh ma mc (mdTd mh ma mc mt (32 * h + v)) mn (nI 0) ro) H := hP
    have hD : va_D A (mw h0 b1 b2 b3 b4 b5 cI cZ mh ma mc (mdTd mh ma mc mt (32 * h + v)) mn (nI 0) ro) := hD
    have hi : v ≤ 32 := hi
    refine lv_iload_n hx hb dM_changed_17 rfl (lv_at hl 3 rfl) ?_
    refine lv_bipush (v := nI 32) hx hb dM_changed_18 (by decide) ?_
    refine xf_ge (tgt := 74) hx hb dM_changed_20 (by decide) (by omega) (by omega) (fun c20 => ?_) (fun c20 => ?_)
    ·
      obtain rfl : v = 32 := by omega
      refine lv_iinc (v := nI (h + 1)) (lv' := [(2, .int (nI (h + 1))), (0, .ref h0), (1, .int (nI (xf_cnt (mdDf mh ma mc mt) (32 * h + 32)))), (3, .int (nI 32))]) hx hb dM_changed_74 hl (k := 2) rfl (by exact nI_1 h) (by decide) rfl (fun ls hl => ?_)
      refine lv_goto (tgt := 9) hx hb dM_changed_77 (by decide) ?_
      have hl := lv_sub (l' := [(0, .ref h0), (1, .int (nI (xf_cnt (mdDf mh ma mc mt) (32 * h + 32)))), (2, .int (nI (h + 1)))]) hl [1, 2, 0] rfl
      have hl : lv_has ls 5 [(0, .ref h0), (1, .int (nI (xf_cnt (mdDf mh ma mc mt) (32 * (h + 1))))), (2, .int (nI (h + 1)))] := xf_lv hl (by rfl)
      have hP : va_P (dC, dI) fmCl (mw h0 b1 b2 b3 b4 b5 cI cZ mh ma mc (mdTd mh ma mc mt (32 * (h + 1))) mn (nI 0) ro) H := xf_wP hP (by rfl)
      have hD : va_D A (mw h0 b1 b2 b3 b4 b5 cI cZ mh ma mc (mdTd mh ma mc mt (32 * (h + 1))) mn (nI 0) ro) := xf_wD hD rfl
      exact ih9 (h + 1) ls H locs (by show 8 - (h + 1) < 8 - h; omega) (by show (h + 1) ≤ 8; omega) hl hP hD hS
    ·
      refine lv_aload_n hx hb dM_changed_23 rfl (lv_at hl 0 rfl) ?_
      refine lv_iload_n hx hb dM_changed_24 rfl (lv_at hl 2 rfl) ?_
      refine lv_iload_n hx hb dM_changed_25 rfl (lv_at hl 3 rfl) ?_
      refine vp_callSi (W.runV (As := [.int (nI h), .int (nI v)]) (rest := []) ⟨hx, hb, hml, hown, hts⟩ (m_count l dC dI h0 b1 b2 b3 b4 b5 cI cZ mh ma mc (mdTd mh ma mc mt (32 * h + v)) mn (nI 0) ro h v (by omega) (by omega) hOk hAc) (cwV 2 hts gM_changed_count rfl rfl rfl (by decide +kernel) ⟨Nat.le_of_ble_eq_true rfl, Nat.le_of_ble_eq_true rfl⟩) (xf_preV (ci := 1) (RX1, TM, 7) hK hP rfl rfl) rfl rfl hl.1 rfl (lv_room (Nat.le_of_ble_eq_true rfl)) dM_changed_26 ⟨Nat.zero_le _, Nat.zero_le _⟩) (fun r hr9 => ?_)
      subst hr9
      refine lv_istore (lv' := [(4, .int (nI (mdN mh ma mc h v))), (0, .ref h0), (1, .int (nI (xf_cnt (mdDf mh ma mc mt) (32 * h + v)))), (2, .int (nI h)), (3, .int (nI v))]) hx hb dM_changed_29 hl (by decide) rfl (fun ls hl => ?_)
      refine lv_iload_n hx hb dM_changed_31 rfl (lv_at hl 2 rfl) ?_
      refine lv_iload hx hb dM_changed_32 (lv_at hl 0 rfl) ?_
      refine lv_aload_n hx hb dM_changed_34 rfl (lv_at hl 1 rfl) ?_
      refine va_get (D := (dC, dI)) (ci := 1) (v := .ref b4) (C := RX1) (T := TM) (N := 7) hx hb hts hin hown hK hP 0 rfl rfl 4 (by decide) hf_told (fun _ h9 => h9) rfl dM_changed_35 ?_
      refine lv_bipush (v := nI 32) hx hb dM_changed_38 (by decide) ?_
      refine lv_iload_n hx hb dM_changed_40 rfl (lv_at hl 3 rfl) ?_
      refine lv_imul hx hb dM_changed_41 ?_
      refine xf_be (y := nI (32 * h)) (by exact pk_mul _ _) ?_
      refine lv_iload_n hx hb dM_changed_42 rfl (lv_at hl 4 rfl) ?_
      refine lv_iadd hx hb dM_changed_43 ?_
      refine xf_be (y := nI (32 * h + v)) (by exact nI_add _ _) ?_
      refine xf_iald hx hb hK hP 4 0 rfl rfl (j := (32 * h + v)) (by omega) (by decide) dM_changed_44 ?_
      refine xf_be (y := mt (32 * h + v)) (mdTd_ge _ _ _ _ _ _ (Nat.le_refl _)) ?_
      refine lv_icmp_eq (tgt := 52) hx hb dM_changed_45 (by decide) (fun c45 => ?_) (fun c45 => ?_)
      ·
        refine lv_iconst (v := nI 0) hx hb dM_changed_52 (by decide) ?_
        refine lv_iadd hx hb dM_changed_53 ?_
        refine xf_be (y := nI (xf_cnt (mdDf mh ma mc mt) (32 * h + v) + 0)) (by exact nI_add _ _) ?_
        refine lv_istore_n (lv' := [(1, .int (nI (xf_cnt (mdDf mh ma mc mt) (32 * h + v) + 0))), (4, .int (nI (mdN mh ma mc h v))), (0, .ref h0), (2, .int (nI h)), (3, .int (nI v))]) hx hb dM_changed_54 rfl hl (by decide) rfl (fun ls hl => ?_)
        refine lv_aload_n hx hb dM_changed_55 rfl (lv_at hl 2 rfl) ?_
        refine va_get (D := (dC, dI)) (ci := 1) (v := .ref b4) (C := RX1) (T := TM) (N := 7) hx hb hts hin hown hK hP 0 rfl rfl 4 (by decide) hf_told (fun _ h9 => h9) rfl dM_changed_56 ?_
        refine lv_bipush (v := nI 32) hx hb dM_changed_59 (by decide) ?_
        refine lv_iload_n hx hb dM_changed_61 rfl (lv_at hl 3 rfl) ?_
        refine lv_imul hx hb dM_changed_62 ?_
        refine xf_be (y := nI (32 * h)) (by exact pk_mul _ _) ?_
        refine lv_iload_n hx hb dM_changed_63 rfl (lv_at hl 4 rfl) ?_
        refine lv_iadd hx hb dM_changed_64 ?_
        refine xf_be (y := nI (32 * h + v)) (by exact nI_add _ _) ?_
        refine lv_iload hx hb dM_changed_65 (lv_at hl 1 rfl) ?_
        refine xf_iast hx hb hK hP hD hS 4 0 rfl rfl (j := (32 * h + v)) (by omega) (by decide) dM_changed_67 (fun H locs hP hD hS => ?_)
        have hP : va_P (dC, dI) fmCl (mw h0 b1 b2 b3 b4 b5 cI cZ mh ma mc (upd (mdTd mh ma mc mt (32 * h + v)) (32 * h + v) (nI (mdN mh ma mc h v))) mn (nI 0) ro) H := hP
        have hD : va_D A (mw h0 b1 b2 b3 b4 b5 cI cZ mh ma mc (upd (mdTd mh ma mc mt (32 * h + v)) (32 * h + v) (nI (mdN mh ma mc h v))) mn (nI 0) ro) := hD
        refine lv_iinc (v := nI (v + 1)) (lv' := [(3, .int (nI (v + 1))), (1, .int (nI (xf_cnt (mdDf mh ma mc mt) (32 * h + v) + 0))), (4, .int (nI (mdN mh ma mc h v))), (0, .ref h0), (2, .int (nI h))]) hx hb dM_changed_68 hl (k := 4) rfl (by exact nI_1 v) (by decide) rfl (fun ls hl => ?_)
        refine lv_goto (tgt := 17) hx hb dM_changed_71 (by decide) ?_
        have e9 : mdDf mh ma mc mt (32 * h + v) = false := by unfold mdDf; rw [show (32 * h + v) / 32 = h by omega, show (32 * h + v) % 32 = v by omega]; exact decide_eq_false (not_not_intro c45)
        have hl := lv_sub (l' := [(0, .ref h0), (1, .int (nI (xf_cnt (mdDf mh ma mc mt) (32 * h + v) + 0))), (2, .int (nI h)), (3, .int (nI (v + 1)))]) hl [3, 1, 4, 0] rfl
        have hl : lv_has ls 5 [(0, .ref h0), (1, .int (nI (xf_cnt (mdDf mh ma mc mt) (32 * h + (v + 1))))), (2, .int (nI h)), (3, .int (nI (v + 1)))] := xf_lv hl (by rw [show 32 * h + (v + 1) = (32 * h + v) + 1 from rfl]; simp [xf_cnt, e9])
        have hP : va_P (dC, dI) fmCl (mw h0 b1 b2 b3 b4 b5 cI cZ mh ma mc (mdTd mh ma mc mt (32 * h + (v + 1))) mn (nI 0) ro) H := xf_wP hP (by rw [show 32 * h + (v + 1) = (32 * h + v) + 1 from rfl, mdTd, show (32 * h + v) / 32 = h by omega, show (32 * h + v) % 32 = v by omega])
        have hD : va_D A (mw h0 b1 b2 b3 b4 b5 cI cZ mh ma mc (mdTd mh ma mc mt (32 * h + (v + 1))) mn (nI 0) ro) := xf_wD hD rfl
        exact ih17 (v + 1) ls H locs (by show 32 - (v + 1) < 32 - v; omega) (by show (v + 1) ≤ 32; omega) hl hP hD hS
      ·
        refine lv_iconst (v := nI 1) hx hb dM_changed_48 (by decide) ?_
        refine lv_goto (tgt := 53) hx hb dM_changed_49 (by decide) ?_
        refine lv_iadd hx hb dM_changed_53 ?_
        refine xf_be (y := nI (xf_cnt (mdDf mh ma mc mt) (32 * h + v) + 1)) (by exact nI_add _ _) ?_
        refine lv_istore_n (lv' := [(1, .int (nI (xf_cnt (mdDf mh ma mc mt) (32 * h + v) + 1))), (4, .int (nI (mdN mh ma mc h v))), (0, .ref h0), (2, .int (nI h)), (3, .int (nI v))]) hx hb dM_changed_54 rfl hl (by decide) rfl (fun ls hl => ?_)
        refine lv_aload_n hx hb dM_changed_55 rfl (lv_at hl 2 rfl) ?_
        refine va_get (D := (dC, dI)) (ci := 1) (v := .ref b4) (C := RX1) (T := TM) (N := 7) hx hb hts hin hown hK hP 0 rfl rfl 4 (by decide) hf_told (fun _ h9 => h9) rfl dM_changed_56 ?_
        refine lv_bipush (v := nI 32) hx hb dM_changed_59 (by decide) ?_
        refine lv_iload_n hx hb dM_changed_61 rfl (lv_at hl 3 rfl) ?_
        refine lv_imul hx hb dM_changed_62 ?_
        refine xf_be (y := nI (32 * h)) (by exact pk_mul _ _) ?_
        refine lv_iload_n hx hb dM_changed_63 rfl (lv_at hl 4 rfl) ?_
        refine lv_iadd hx hb dM_changed_64 ?_
        refine xf_be (y := nI (32 * h + v)) (by exact nI_add _ _) ?_
        refine lv_iload hx hb dM_changed_65 (lv_at hl 1 rfl) ?_
        refine xf_iast hx hb hK hP hD hS 4 0 rfl rfl (j := (32 * h + v)) (by omega) (by decide) dM_changed_67 (fun H locs hP hD hS => ?_)
        have hP : va_P (dC, dI) fmCl (mw h0 b1 b2 b3 b4 b5 cI cZ mh ma mc (upd (mdTd mh ma mc mt (32 * h + v)) (32 * h + v) (nI (mdN mh ma mc h v))) mn (nI 0) ro) H := hP
        have hD : va_D A (mw h0 b1 b2 b3 b4 b5 cI cZ mh ma mc (upd (mdTd mh ma mc mt (32 * h + v)) (32 * h + v) (nI (mdN mh ma mc h v))) mn (nI 0) ro) := hD
        refine lv_iinc (v := nI (v + 1)) (lv' := [(3, .int (nI (v + 1))), (1, .int (nI (xf_cnt (mdDf mh ma mc mt) (32 * h + v) + 1))), (4, .int (nI (mdN mh ma mc h v))), (0, .ref h0), (2, .int (nI h))]) hx hb dM_changed_68 hl (k := 4) rfl (by exact nI_1 v) (by decide) rfl (fun ls hl => ?_)
        refine lv_goto (tgt := 17) hx hb dM_changed_71 (by decide) ?_
        have e9 : mdDf mh ma mc mt (32 * h + v) = true := by unfold mdDf; rw [show (32 * h + v) / 32 = h by omega, show (32 * h + v) % 32 = v by omega]; exact decide_eq_true c45
        have hl := lv_sub (l' := [(0, .ref h0), (1, .int (nI (xf_cnt (mdDf mh ma mc mt) (32 * h + v) + 1))), (2, .int (nI h)), (3, .int (nI (v + 1)))]) hl [3, 1, 4, 0] rfl
        have hl : lv_has ls 5 [(0, .ref h0), (1, .int (nI (xf_cnt (mdDf mh ma mc mt) (32 * h + (v + 1))))), (2, .int (nI h)), (3, .int (nI (v + 1)))] := xf_lv hl (by rw [show 32 * h + (v + 1) = (32 * h + v) + 1 from rfl]; simp [xf_cnt, e9])
        have hP : va_P (dC, dI) fmCl (mw h0 b1 b2 b3 b4 b5 cI cZ mh ma mc (mdTd mh ma mc mt (32 * h + (v + 1))) mn (nI 0) ro) H := xf_wP hP (by rw [show 32 * h + (v + 1) = (32 * h + v) + 1 from rfl, mdTd, show (32 * h + v) / 32 = h by omega, show (32 * h + v) % 32 = v by omega])
        have hD : va_D A (mw h0 b1 b2 b3 b4 b5 cI cZ mh ma mc (mdTd mh ma mc mt (32 * h + (v + 1))) mn (nI 0) ro) := xf_wD hD rfl
        exact ih17 (v + 1) ls H locs (by show 32 - (v + 1) < 32 - v; omega) (by show (v + 1) ≤ 32; omega) hl hP hD hS
set_option maxHeartbeats 4000000 in
set_option maxRecDepth 100000 in
/-- rows() -/
theorem m_rows (l : Launch) (dC : Nat → ClassId) (dI : Nat → Nat → Nat) (h0 b1 b2 b3 b4 b5 : Nat) (cI cZ : ClassId) (mh : Nat → Bool) (ma : Nat → Int32) (mc : Nat → Bool) (mt mn : Nat → Int32) (cd ro : Int32) : Met l yM_rows wsM_rows ({ frames := 0, cells := 0, slots := 0, locals := 0 }) (va_Pc [.ref h0] (fun U => va_P (dC, dI) fmCl (mw h0 b1 b2 b3 b4 b5 cI cZ mh ma mc mt mn cd ro) U.heap ∧ va_K (dC, dI) fmCl [(cI, .int), (cZ, .boolean)] U ∧ va_D (fun _ => True) (mw h0 b1 b2 b3 b4 b5 cI cZ mh ma mc mt mn cd ro))) (va_Qi (fun (r : Int32) (u : MdS) => (r, u) = (ro, mh, ma, mc, mt, mn, nI 0, ro)) (fun u t => va_P (dC, dI) fmCl (mw h0 b1 b2 b3 b4 b5 cI cZ u.1 u.2.1 u.2.2.1 u.2.2.2.1 u.2.2.2.2.1 u.2.2.2.2.2.1 u.2.2.2.2.2.2) t.heap) (xf_A (mw h0 b1 b2 b3 b4 b5 cI cZ mh ma mc mt mn cd ro))) 0 0 (xf_A (mw h0 b1 b2 b3 b4 b5 cI cZ mh ma mc mt mn cd ro)) := by
  refine Met.ofW (cc := cM_rows) (maxL := 1) (ret := (some .int)) (by decide) rfl ?_
  intro p e s m args below meth c s₁ B hml hv
  obtain ⟨rfl, hP, hK, hD0⟩ := hv
  have hx := B.exec
  have hb := B.bytes
  have hr := B.returns
  have hts := atoms_spec (ws := wsM_rows) B.pre
  have hown : s.vm.findClass RX1 = some m.cls := findClass_of_methodNamed B.named
  have hlocks := B.notSynchronized
  have hin : ∀ w ∈ u_ws RX1 TM 7, w ∈ wsM_rows := by decide +kernel
  have hf_code := hts (.fieldLink RX1 26 "FacetCountsModel" "code" "I") (by decide +kernel)
  have hf_rows := hts (.fieldLink RX1 44 "FacetCountsModel" "rows" "I") (by decide +kernel)
  have hD := xf_A_self hD0
  generalize hAe : xf_A (mw h0 b1 b2 b3 b4 b5 cI cZ mh ma mc mt mn cd ro) = A at hD ⊢
  have hS : va_S A s.heap s.heap [] := va_S.rf
  have hP : va_P (dC, dI) fmCl (mw h0 b1 b2 b3 b4 b5 cI cZ mh ma mc mt mn cd ro) s.heap := hP
  have hl := lv_entry ([.ref h0]) (n := 1) (Nat.le_of_ble_eq_true rfl)
  rw [lg_entry_eq]
  generalize (lg_sl ([.ref h0]) ++ List.replicate (1 - (lg_sl ([.ref h0])).length) Slot.unset).toArray = ls at hl ⊢
  have hl : lv_has ls 1 [(0, .ref h0)] := hl
  refine lv_aload_n hx hb dM_rows_0 rfl (lv_at hl 0 rfl) ?_
  refine lv_iconst (v := nI 0) hx hb dM_rows_1 (by decide) ?_
  refine va_put (D := (dC, dI)) (ci := 1) (v := .int (nI 0)) (ty := .int) (C := RX1) (T := TM) (N := 7) hx hb hts hin tyM tyM_ok nmM hown hK hP hD hS 0 rfl rfl 0 (by decide) hf_code (fun _ h9 => h9) rfl (by decide +kernel) rfl rfl (Nat.le_of_ble_eq_true rfl) dM_rows_2 (fun H locs hP hD hS => ?_)
  have hP : va_P (dC, dI) fmCl (mw h0 b1 b2 b3 b4 b5 cI cZ mh ma mc mt mn (nI 0) ro) H := hP
  have hD : va_D A (mw h0 b1 b2 b3 b4 b5 cI cZ mh ma mc mt mn (nI 0) ro) := hD
  refine lv_aload_n hx hb dM_rows_5 rfl (lv_at hl 0 rfl) ?_
  refine va_get (D := (dC, dI)) (ci := 1) (v := .int ro) (C := RX1) (T := TM) (N := 7) hx hb hts hin hown hK hP 0 rfl rfl 6 (by decide) hf_rows (fun _ h9 => h9) rfl dM_rows_6 ?_
  exact W.iret (v := ro) hx hb hr (fun t9 ht9 hW9 => ⟨⟨_, (mh, ma, mc, mt, mn, nI 0, ro), rfl, rfl, xf_hP ht9 hP⟩, hS.F ht9⟩) hS.2.2 dM_rows_9
