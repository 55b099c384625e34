/-- what the tables say of ArithmeticException, beside the words that calls carry on -/
def fmX (U : State) : Prop := va_Nw (.castable "java/lang/ArithmeticException" "java/lang/ArithmeticException") U ∧ va_Nw (.declares (Bundle.initS "java/lang/RuntimeException")) U ∧ va_Nw (.declares (Bundle.initS "java/lang/Exception")) U ∧ va_Nw (.declares (Bundle.initS "java/lang/Throwable")) U
theorem fmX_same {u U : State} (h : u.vm = U.vm) (z : fmX u) : fmX U := ⟨va_Nw.same rfl h z.1, va_Nw.same rfl h z.2.1, va_Nw.same rfl h z.2.2.1, va_Nw.same rfl h z.2.2.2⟩
theorem fmX_warm {s U : State} (hW : s.WarmedH U.vm) (z : fmX s) : fmX U := ⟨va_Nw.warmC hW z.1, va_Nw.warmD hW z.2.1, va_Nw.warmD hW z.2.2.1, va_Nw.warmD hW z.2.2.2⟩
set_option maxHeartbeats 4000000 in
set_option maxRecDepth 100000 in
/-- share(ph, pv, lo) -/
theorem k_share (l : Launch) (dC : Nat → ClassId) (dI : Nat → Nat → Nat) (h0 a1 a2 a3 a4 a5 a6 : Nat) (cI : ClassId) (fg fk fu fc fb fn : Nat → Int32) (rc : Int32) (ph pv lo : Int32) (sa1 sa2 : Nat) (hl9 : l.stackTraces = false) : vx_Met l yX0_share wsX0_share ({ frames := 6, cells := 1, slots := 6, locals := 91 }) (va_Pc [.ref h0, .int ph, .int pv, .int lo] (fun U => va_P (dC, dI) fmCl (fw h0 a1 a2 a3 a4 a5 a6 cI fg fk fu fc fb fn rc) U.heap ∧ va_K (dC, dI) fmCl [(cI, .int)] U ∧ vk_R RX0 88 "no such head or value" sa1 U ∧ vk_R RX0 96 "nothing is kept but for this head" sa2 U ∧ vx_Zq Bundle.tN "UNASSIGNED_STACK" Bundle.steD (fun _ => False) U U.heap ∧ vx_Zq Bundle.tN "SUPPRESSED_SENTINEL" Bundle.listD (fun _ => False) U U.heap ∧ fmX U)) (va_Qi (fun (r : Int32) (_ : Unit) => fcShare fg fk fc ph pv lo = some r) (fun _ _ => True) (fun _ => False)) (vx_X (fun _ : Unit => fcShare fg fk fc ph pv lo = none) (fun E _ _ => E = "java/lang/ArithmeticException") (fun _ => False)) 1 6 (fun _ => False) := by
  refine vx_ofW (cc := cX0_share) (maxL := 6) (ret := (some .int)) (by decide) rfl ?_
  intro p e s m args below meth c s₁ B hml htab hv
  obtain ⟨rfl, hP, hK, hR1, hR2, hU, hN, hC⟩ := hv
  have hx := B.exec
  have hb := B.bytes
  have hr := B.returns
  have hts := atoms_spec (ws := wsX0_share) B.pre
  have hown : s.vm.findClass RX0 = some m.cls := findClass_of_methodNamed B.named
  have hlocks := B.notSynchronized
  have hS : va_S (fun _ => False) s.heap s.heap [] := va_S.rf
  have hl := lv_entry ([.ref h0, .int ph, .int pv, .int lo]) (n := 6) (Nat.le_of_ble_eq_true rfl)
  rw [lg_entry_eq]
  generalize (lg_sl ([.ref h0, .int ph, .int pv, .int lo]) ++ List.replicate (6 - (lg_sl ([.ref h0, .int ph, .int pv, .int lo])).length) Slot.unset).toArray = ls at hl ⊢
  have hl : lv_has ls 6 [(0, .ref h0), (1, .int ph), (2, .int pv), (3, .int lo)] := hl
  refine lv_iload_n hx hb dX0_share_0 rfl (lv_at hl 1 rfl) ?_
  refine vp_callSi (W.runS (As := [.int ph]) (rest := []) ⟨hx, hb, hml, hown, hts⟩ (k_isHead l ph) (va_cwS 1 hts gX0_share_X0_isHead rfl rfl rfl (by decide +kernel) ⟨Nat.le_of_ble_eq_true rfl, Nat.le_of_ble_eq_true rfl⟩) (xf_preS0) rfl rfl hl.1 rfl (lv_room (Nat.le_of_ble_eq_true rfl)) dX0_share_1 ⟨Nat.zero_le _, Nat.zero_le _⟩) (fun r hr9 => ?_)
  subst hr9
  refine xf_Beq (tgt := 14) hx hb dX0_share_4 (by decide) (fun c4 => ?_) (fun c4 => ?_)
  ·
    exact vx_throwS hx hb hl9 (own := RX0) (cls := "java/lang/ArithmeticException") (text := "no such head or value") (names := ["java/lang/RuntimeException", "java/lang/Exception"]) (ik := 86) (is := 88) (ic := 90) (sa := sa1) (A := fun _ => False) hown (by decide +kernel) (by decide +kernel) (hts (.classLink RX0 86 "java/lang/ArithmeticException") (by decide +kernel)) (hts (.initialized "java/lang/ArithmeticException") (by decide +kernel)) hR1 (vx_hat (fun w hw => hts w (List.mem_cons_of_mem _ (List.mem_append_right _ hw))) (by decide +kernel) (vx_c (va_Nw.use rfl hC.1) (vx_c (va_Nw.use rfl hC.2.1) (vx_c (va_Nw.use rfl hC.2.2.1) (vx_c (va_Nw.use rfl hC.2.2.2) vx_n))))) (by decide +kernel) hU hN hS (by rw [hml]; exact hl.1) dX0_share_14 dX0_share_17 dX0_share_18 dX0_share_20 dX0_share_23 (fun x hx => (htab x hx).elim) (Nat.le_of_ble_eq_true rfl) (Nat.le_of_ble_eq_true rfl) (Nat.le_of_ble_eq_true rfl) (Nat.le_of_ble_eq_true rfl) hlocks (fun t9 ha9 hz9 hk9 => ⟨(), by simp [fcShare, c4], rfl, hz9, fun q hq _ => hk9 q hq⟩) (fun z h => nomatch h) (Nat.le_of_ble_eq_true rfl) (Nat.le_of_ble_eq_true rfl)
  ·
    obtain ⟨h, hh, rfl⟩ := xf_in_of c4 (by decide)
    have eh : (nI h).toNatClampNeg = h := nI_clamp (by omega)
    refine lv_iload_n hx hb dX0_share_7 rfl (lv_at hl 2 rfl) ?_
    refine vp_callSi (W.runS (As := [.int pv]) (rest := []) ⟨hx, hb, hml, hown, hts⟩ (k_isValue l pv) (va_cwS 1 hts gX0_share_X0_isValue rfl rfl rfl (by decide +kernel) ⟨Nat.le_of_ble_eq_true rfl, Nat.le_of_ble_eq_true rfl⟩) (xf_preS0) rfl rfl hl.1 rfl (lv_room (Nat.le_of_ble_eq_true rfl)) dX0_share_8 ⟨Nat.zero_le _, Nat.zero_le _⟩) (fun r hr9 => ?_)
    subst hr9
    refine xf_Bne (tgt := 24) hx hb dX0_share_11 (by decide) (fun c11 => ?_) (fun c11 => ?_)
    ·
      obtain ⟨v, hv, rfl⟩ := xf_in_of c11 (by decide)
      have ev : (nI v).toNatClampNeg = v := nI_clamp (by omega)
      refine lv_aload_n hx hb dX0_share_24 rfl (lv_at hl 0 rfl) ?_
      refine lv_iload_n hx hb dX0_share_25 rfl (lv_at hl 1 rfl) ?_
      refine vp_callSi (W.runV (As := [.int (nI h)]) (rest := []) ⟨hx, hb, hml, hown, hts⟩ (k_countKeptBut l dC dI h0 a1 a2 a3 a4 a5 a6 cI fg fk fu fc fb fn rc h (by omega)) (cwV 1 hts gX0_share_X0_countKeptBut rfl rfl rfl (by decide +kernel) ⟨Nat.le_of_ble_eq_true rfl, Nat.le_of_ble_eq_true rfl⟩) (xf_preV (ci := 0) (RX0, TX0, 7) hK hP rfl rfl) rfl rfl hl.1 rfl (lv_room (Nat.le_of_ble_eq_true rfl)) dX0_share_26 ⟨Nat.zero_le _, Nat.zero_le _⟩) (fun r hr9 => ?_)
      subst hr9
      refine lv_istore (lv' := [(4, .int (nI (xf_cnt (fcKB fg fk fc h) 40))), (0, .ref h0), (1, .int (nI h)), (2, .int (nI v)), (3, .int lo)]) hx hb dX0_share_29 hl (by decide) rfl (fun ls hl => ?_)
      refine lv_iload hx hb dX0_share_31 (lv_at hl 0 rfl) ?_
      refine xf_zne (tgt := 46) hx hb dX0_share_33 (by decide) (by have q := xf_cnt_le (fcKB fg fk fc h) 40; omega) (fun c33 => ?_) (fun c33 => ?_)
      ·
        refine lv_aload_n hx hb dX0_share_46 rfl (lv_at hl 1 rfl) ?_
        refine lv_iload_n hx hb dX0_share_47 rfl (lv_at hl 2 rfl) ?_
        refine lv_iconst (v := nI 1) hx hb dX0_share_48 (by decide) ?_
        refine lv_iload_n hx hb dX0_share_49 rfl (lv_at hl 3 rfl) ?_
        refine lv_ishl hx hb dX0_share_50 ?_
        refine xf_be (y := xf_bit v) (by rfl) ?_
        refine vp_callSi (W.runV (As := [.int (nI h), .int (xf_bit v)]) (rest := []) ⟨hx, hb, hml, hown, hts⟩ (k_countWithAny l dC dI h0 a1 a2 a3 a4 a5 a6 cI fg fk fu fc fb fn rc h (by omega) (xf_bit v)) (cwV 2 hts gX0_share_X0_countWithAny rfl rfl rfl (by decide +kernel) ⟨Nat.le_of_ble_eq_true rfl, Nat.le_of_ble_eq_true rfl⟩) (xf_preV (ci := 0) (RX0, TX0, 7) hK hP rfl rfl) rfl rfl hl.1 rfl (lv_room (Nat.le_of_ble_eq_true rfl)) dX0_share_51 ⟨Nat.zero_le _, Nat.zero_le _⟩) (fun r hr9 => ?_)
        subst hr9
        refine lv_istore (lv' := [(5, .int (nI (xf_cnt (fcWA fg fk fc h (xf_bit v)) 40))), (4, .int (nI (xf_cnt (fcKB fg fk fc h) 40))), (0, .ref h0), (1, .int (nI h)), (2, .int (nI v)), (3, .int lo)]) hx hb dX0_share_54 hl (by decide) rfl (fun ls hl => ?_)
        refine lv_iload_n hx hb dX0_share_56 rfl (lv_at hl 5 rfl) ?_
        refine lv_if_eq (tgt := 65) hx hb dX0_share_57 (by decide) (fun c57 => ?_) (fun c57 => ?_)
        ·
          refine lv_iload hx hb dX0_share_65 (lv_at hl 0 rfl) ?_
          refine lv_iload hx hb dX0_share_67 (lv_at hl 0 rfl) ?_
          refine lv_iload hx hb dX0_share_69 (lv_at hl 1 rfl) ?_
          refine vp_callSi (W.runS (As := [.int (nI (xf_cnt (fcWA fg fk fc h (xf_bit v)) 40)), .int (nI (xf_cnt (fcWA fg fk fc h (xf_bit v)) 40)), .int (nI (xf_cnt (fcKB fg fk fc h) 40))]) (rest := []) ⟨hx, hb, hml, hown, hts⟩ (k_inLeastTerms l (xf_cnt (fcWA fg fk fc h (xf_bit v)) 40) (xf_cnt (fcWA fg fk fc h (xf_bit v)) 40) (xf_cnt (fcKB fg fk fc h) 40) (xf_cnt_le _ _) (xf_cnt_le _ _) (xf_cnt_le _ _)) (va_cwS 3 hts gX0_share_X0_inLeastTerms rfl rfl rfl (by decide +kernel) ⟨Nat.le_of_ble_eq_true rfl, Nat.le_of_ble_eq_true rfl⟩) (xf_preS0) rfl rfl hl.1 rfl (lv_room (Nat.le_of_ble_eq_true rfl)) dX0_share_71 ⟨Nat.zero_le _, Nat.zero_le _⟩) (fun r hr9 => ?_)
          subst hr9
          refine vx_ret (mc := 1) (ms := 6) ?_
          refine W.widen (k := 1) (n := 6) (by omega) (by omega) ?_
          exact W.iret (v := nI (fcLT (xf_cnt (fcWA fg fk fc h (xf_bit v)) 40) (xf_cnt (fcWA fg fk fc h (xf_bit v)) 40) (xf_cnt (fcKB fg fk fc h) 40) (xf_cnt (fcKB fg fk fc h) 40))) hx hb hr (fun t9 ht9 hW9 => ⟨⟨_, (), rfl, by simp [fcShare, c4, eh, c11, ev, c33, c57], trivial⟩, hS.F ht9⟩) (fun q h => nomatch h) dX0_share_74
        ·
          refine lv_iload hx hb dX0_share_60 (lv_at hl 1 rfl) ?_
          refine lv_goto (tgt := 67) hx hb dX0_share_62 (by decide) ?_
          refine lv_iload hx hb dX0_share_67 (lv_at hl 0 rfl) ?_
          refine lv_iload hx hb dX0_share_69 (lv_at hl 1 rfl) ?_
          refine vp_callSi (W.runS (As := [.int (nI (xf_cnt (fcKB fg fk fc h) 40)), .int (nI (xf_cnt (fcWA fg fk fc h (xf_bit v)) 40)), .int (nI (xf_cnt (fcKB fg fk fc h) 40))]) (rest := []) ⟨hx, hb, hml, hown, hts⟩ (k_inLeastTerms l (xf_cnt (fcKB fg fk fc h) 40) (xf_cnt (fcWA fg fk fc h (xf_bit v)) 40) (xf_cnt (fcKB fg fk fc h) 40) (xf_cnt_le _ _) (xf_cnt_le _ _) (xf_cnt_le _ _)) (va_cwS 3 hts gX0_share_X0_inLeastTerms rfl rfl rfl (by decide +kernel) ⟨Nat.le_of_ble_eq_true rfl, Nat.le_of_ble_eq_true rfl⟩) (xf_preS0) rfl rfl hl.1 rfl (lv_room (Nat.le_of_ble_eq_true rfl)) dX0_share_71 ⟨Nat.zero_le _, Nat.zero_le _⟩) (fun r hr9 => ?_)
          subst hr9
          refine vx_ret (mc := 1) (ms := 6) ?_
          refine W.widen (k := 1) (n := 6) (by omega) (by omega) ?_
          exact W.iret (v := nI (fcLT (xf_cnt (fcKB fg fk fc h) 40) (xf_cnt (fcWA fg fk fc h (xf_bit v)) 40) (xf_cnt (fcKB fg fk fc h) 40) (xf_cnt (fcKB fg fk fc h) 40))) hx hb hr (fun t9 ht9 hW9 => ⟨⟨_, (), rfl, by simp [fcShare, c4, eh, c11, ev, c33, c57], trivial⟩, hS.F ht9⟩) (fun q h => nomatch h) dX0_share_74
      ·
        exact vx_throwS hx hb hl9 (own := RX0) (cls := "java/lang/ArithmeticException") (text := "nothing is kept but for this head") (names := ["java/lang/RuntimeException", "java/lang/Exception"]) (ik := 86) (is := 96) (ic := 90) (sa := sa2) (A := fun _ => False) hown (by decide +kernel) (by decide +kernel) (hts (.classLink RX0 86 "java/lang/ArithmeticException") (by decide +kernel)) (hts (.initialized "java/lang/ArithmeticException") (by decide +kernel)) hR2 (vx_hat (fun w hw => hts w (List.mem_cons_of_mem _ (List.mem_append_right _ hw))) (by decide +kernel) (vx_c (va_Nw.use rfl hC.1) (vx_c (va_Nw.use rfl hC.2.1) (vx_c (va_Nw.use rfl hC.2.2.1) (vx_c (va_Nw.use rfl hC.2.2.2) vx_n))))) (by decide +kernel) hU hN hS (by rw [hml]; exact hl.1) dX0_share_36 dX0_share_39 dX0_share_40 dX0_share_42 dX0_share_45 (fun x hx => (htab x hx).elim) (Nat.le_of_ble_eq_true rfl) (Nat.le_of_ble_eq_true rfl) (Nat.le_of_ble_eq_true rfl) (Nat.le_of_ble_eq_true rfl) hlocks (fun t9 ha9 hz9 hk9 => ⟨(), by simp [fcShare, c4, eh, c11, ev, c33], rfl, hz9, fun q hq _ => hk9 q hq⟩) (fun z h => nomatch h) (Nat.le_of_ble_eq_true rfl) (Nat.le_of_ble_eq_true rfl)
    ·
      exact vx_throwS hx hb hl9 (own := RX0) (cls := "java/lang/ArithmeticException") (text := "no such head or value") (names := ["java/lang/RuntimeException", "java/lang/Exception"]) (ik := 86) (is := 88) (ic := 90) (sa := sa1) (A := fun _ => False) hown (by decide +kernel) (by decide +kernel) (hts (.classLink RX0 86 "java/lang/ArithmeticException") (by decide +kernel)) (hts (.initialized "java/lang/ArithmeticException") (by decide +kernel)) hR1 (vx_hat (fun w hw => hts w (List.mem_cons_of_mem _ (List.mem_append_right _ hw))) (by decide +kernel) (vx_c (va_Nw.use rfl hC.1) (vx_c (va_Nw.use rfl hC.2.1) (vx_c (va_Nw.use rfl hC.2.2.1) (vx_c (va_Nw.use rfl hC.2.2.2) vx_n))))) (by decide +kernel) hU hN hS (by rw [hml]; exact hl.1) dX0_share_14 dX0_share_17 dX0_share_18 dX0_share_20 dX0_share_23 (fun x hx => (htab x hx).elim) (Nat.le_of_ble_eq_true rfl) (Nat.le_of_ble_eq_true rfl) (Nat.le_of_ble_eq_true rfl) (Nat.le_of_ble_eq_true rfl) hlocks (fun t9 ha9 hz9 hk9 => ⟨(), by simp [fcShare, c4, eh, c11], rfl, hz9, fun q hq _ => hk9 q hq⟩) (fun z h => nomatch h) (Nat.le_of_ble_eq_true rfl) (Nat.le_of_ble_eq_true rfl)
