set_option maxHeartbeats 4000000 in
set_option maxRecDepth 100000 in
/-- the law's share: 1 where the class throws, else 0 and the answer lies in out -/
theorem l_share (l : Launch) (dC : Nat → ClassId) (dI : Nat → Nat → Nat) (h0 a1 a2 a3 a4 a5 a6 : Nat) (cI : ClassId) (fg fk fu fc fb fn : Nat → Int32) (rc : Int32) (o : Nat) (cJ : ClassId) (f : Nat → Int64) (ph pv lo : Int32) (sa1 sa2 : Nat) (hl9 : l.stackTraces = false) : Met l yL_share wsL_share ({ frames := 7, cells := 1, slots := 6, locals := 116 }) (va_Pc [.ref h0, .int ph, .int pv, .int lo, .ref o] (fun U => va_P (dC, dI) fmCl ((fw h0 a1 a2 a3 a4 a5 a6 cI fg fk fu fc fb fn rc) ++ [(o, .inl (cJ, 1, .inr (.inl f)))]) U.heap ∧ va_K (dC, dI) fmCl [(cI, .int), (cJ, .long)] U ∧ va_D (fun _ => True) ((fw h0 a1 a2 a3 a4 a5 a6 cI fg fk fu fc fb fn rc) ++ [(o, .inl (cJ, 1, .inr (.inl f)))]) ∧ vk_R RX0 88 "no such head or value" sa1 U ∧ vk_R RX0 96 "nothing is kept but for this head" sa2 U ∧ vx_Zq Bundle.tN "UNASSIGNED_STACK" Bundle.steD (fun _ => False) U U.heap ∧ vx_Zq Bundle.tN "SUPPRESSED_SENTINEL" Bundle.listD (fun _ => False) U U.heap ∧ fmX U)) (va_Qi (fun (r : Int32) (u : Nat → Int64) => (fcShare fg fk fc ph pv lo = none ∧ r = nI 1 ∧ u = f) ∨ ∃ q, fcShare fg fk fc ph pv lo = some q ∧ r = nI 0 ∧ u = vp_updL f 0 q.toInt64) (fun u t => va_P (dC, dI) fmCl ((fw h0 a1 a2 a3 a4 a5 a6 cI fg fk fu fc fb fn rc) ++ [(o, .inl (cJ, 1, .inr (.inl u)))]) t.heap) (xf_A [(o, .inl (cJ, 1, .inr (.inl f)))])) 1 6 (xf_A [(o, .inl (cJ, 1, .inr (.inl f)))]) := by
  refine va_MetW (cc := cL_share) (maxL := 6) (ret := (some .int)) (hh := [(0, 12, 15, 13)]) (by decide) rfl ?_
  intro p e s m args below meth c s₁ B hml hv
  obtain ⟨rfl, hP, hK, hD0, hR1, hR2, hU, hN, hC⟩ := hv
  have hx := B.exec
  have hb := B.bytes
  have hr := B.returns
  have hts := atoms_spec (ws := wsL_share) B.pre
  have hown : s.vm.findClass RL = some m.cls := findClass_of_methodNamed B.named
  have hlocks := B.notSynchronized
  have htab := vx_table (x := yL_share) B (hts (.codeWith yL_share cL_share 6 (some .int) [(0, 12, 15, 13)]) List.mem_cons_self)
  have hDo : va_D (xf_A [(o, .inl (cJ, 1, .inr (.inl f)))]) [(o, .inl (cJ, 1, .inr (.inl f)))] := xf_A_self (xf_D_right hD0)
  generalize hAe : xf_A [(o, .inl (cJ, 1, .inr (.inl f)))] = A at hDo ⊢
  have hS : va_S A s.heap s.heap [] := va_S.rf
  have hP : va_P (dC, dI) fmCl ((fw h0 a1 a2 a3 a4 a5 a6 cI fg fk fu fc fb fn rc) ++ [(o, .inl (cJ, 1, .inr (.inl f)))]) s.heap := hP
  have hfw : ∀ {H : Heap} {locs : List Loc}, va_S A s.heap H locs → va_P (dC, dI) fmCl (fw h0 a1 a2 a3 a4 a5 a6 cI fg fk fu fc fb fn rc) H := fun hS => (xf_P_left hP).kept (fun k q hq => hS.2.1 q.1 ((xf_P_left hP k q hq).lt) (fun z => by rw [← hAe] at z; obtain ⟨j, e9, hj⟩ := z; exact xf_apart hD0 hq hj rfl))
  have hl := lv_entry ([.ref h0, .int ph, .int pv, .int lo, .ref o]) (n := 6) (Nat.le_of_ble_eq_true rfl)
  rw [lg_entry_eq]
  generalize (lg_sl ([.ref h0, .int ph, .int pv, .int lo, .ref o]) ++ List.replicate (6 - (lg_sl ([.ref h0, .int ph, .int pv, .int lo, .ref o])).length) Slot.unset).toArray = ls at hl ⊢
  have hl : lv_has ls 6 [(0, .ref h0), (1, .int ph), (2, .int pv), (3, .int lo), (4, .ref o)] := hl
  refine lv_aload hx hb dL_share_0 (lv_at hl 4 rfl) ?_
  refine lv_iconst (v := nI 0) hx hb dL_share_2 (by decide) ?_
  refine lv_aload_n hx hb dL_share_3 rfl (lv_at hl 0 rfl) ?_
  refine lv_iload_n hx hb dL_share_4 rfl (lv_at hl 1 rfl) ?_
  refine lv_iload_n hx hb dL_share_5 rfl (lv_at hl 2 rfl) ?_
  refine lv_iload_n hx hb dL_share_6 rfl (lv_at hl 3 rfl) ?_
  have hPc : va_P (dC, dI) fmCl (fw h0 a1 a2 a3 a4 a5 a6 cI fg fk fu fc fb fn rc) s.heap := xf_P_left hP
  have hKc := hK.sub (tys' := [(cI, .int)]) [0] rfl
  have hUs := hU
  have hNs := hN
  have hpre : PreV s s.heap RX0 h0 (va_Pc [.ref h0, .int ph, .int pv, .int lo] (fun U => va_P (dC, dI) fmCl (fw h0 a1 a2 a3 a4 a5 a6 cI fg fk fu fc fb fn rc) U.heap ∧ va_K (dC, dI) fmCl [(cI, .int)] U ∧ vk_R RX0 88 "no such head or value" sa1 U ∧ vk_R RX0 96 "nothing is kept but for this head" sa2 U ∧ vx_Zq Bundle.tN "UNASSIGNED_STACK" Bundle.steD (fun _ => False) U U.heap ∧ vx_Zq Bundle.tN "SUPPRESSED_SENTINEL" Bundle.listD (fun _ => False) U U.heap ∧ fmX U)) [.int ph, .int pv, .int lo] := ⟨fun a U g mk z => ⟨z.1, z.2.1, va_K.moved (u := U) (U := U.calling g mk a) (Vm.Alike.refl U.vm) z.2.2.1, vk_R.same (u := U) rfl z.2.2.2.1, vk_R.same (u := U) rfl z.2.2.2.2.1, vx_Zq.moved (u := U) (U := U.calling g mk a) (Vm.Alike.refl U.vm) z.2.2.2.2.2.1, vx_Zq.moved (u := U) (U := U.calling g mk a) (Vm.Alike.refl U.vm) z.2.2.2.2.2.2.1, fmX_same (u := U) rfl z.2.2.2.2.2.2.2⟩, va_recv hKc hPc (ci := 0) (q := (RX0, TX0, 7)) rfl (q0 := 0) rfl, fun U hU hW => ⟨rfl, by rw [hU]; exact hPc, va_K.moved hW.alike hKc, vk_R.warm hW hR1, vk_R.warm hW hR2, by rw [hU]; exact vx_Zq.moved hW.alike hUs, by rw [hU]; exact vx_Zq.moved hW.alike hNs, fmX_warm hW hC⟩⟩
  refine vx_calli (vx_runV (As := [.int ph, .int pv, .int lo]) (rest := [.int (nI 0), .ref o]) ⟨hx, hb, hml, hown, hts⟩ (k_share l dC dI h0 a1 a2 a3 a4 a5 a6 cI fg fk fu fc fb fn rc ph pv lo sa1 sa2 hl9) (cwV 3 hts gL_share_X0_share rfl rfl rfl (by decide +kernel) ⟨Nat.le_of_ble_eq_true rfl, Nat.le_of_ble_eq_true rfl⟩) hpre rfl rfl hl.1 rfl (lv_room (Nat.le_of_ble_eq_true rfl)) dL_share_7 ⟨Nat.le_of_ble_eq_true rfl, Nat.le_of_ble_eq_true rfl⟩) hS (fun q _ h => h.elim) (fun q h => h.elim) (fun q _ h => h.elim) (fun E ce q9 u9 t9 H locs ht9 hvm9 hp9 hB9 hz9 hk9 hS hce hcv hcl => ?_) (fun r u9 t9 H locs ht9 hvm9 hw9 hB9 hz9 hk9 hS => ?_)
  ·
    subst hB9
    have hP : va_P (dC, dI) fmCl ((fw h0 a1 a2 a3 a4 a5 a6 cI fg fk fu fc fb fn rc) ++ [(o, .inl (cJ, 1, .inr (.inl f)))]) H := hP.kept (fun k q hq => hk9 q.1 ((hP k q hq).lt) (fun z => z))
    refine vx_catch hown [] (⟨0, 12, 15, 13⟩ : ExceptionTableEntry) [] (by rw [htab]; rfl) (fun z h => nomatch h) (by decide) (by decide) (hts (.classLink RL 13 "java/lang/ArithmeticException") (by decide +kernel)) (va_Nw.use rfl hC.1) hce hcv hcl ?_
    refine lv_astore (lv' := [(5, .ref q9), (0, .ref h0), (1, .int ph), (2, .int pv), (3, .int lo), (4, .ref o)]) hx hb dL_share_15 hl (by decide) rfl (fun ls hl => ?_)
    refine lv_iconst (v := nI 1) hx hb dL_share_17 (by decide) ?_
    refine W.widen (k := 1) (n := 6) (by omega) (by omega) ?_
    exact W.iret (v := nI 1) hx hb hr (fun t9 ht9 hW9 => ⟨⟨_, f, rfl, Or.inl ⟨hp9, rfl, rfl⟩, xf_hP ht9 hP⟩, hS.F ht9⟩) hS.2.2 dL_share_18
  ·
    have hP : va_P (dC, dI) fmCl ((fw h0 a1 a2 a3 a4 a5 a6 cI fg fk fu fc fb fn rc) ++ [(o, .inl (cJ, 1, .inr (.inl f)))]) H := hP.kept (fun k q hq => hk9 q.1 ((hP k q hq).lt) (fun z => z))
    refine lv_i2l (v := r.toInt64) hx hb dL_share_10 rfl ?_
    have hPo : va_P (dC, dI) fmCl [(o, .inl (cJ, 1, .inr (.inl f)))] H := xf_P_right hP
    have hKo := hK.sub (tys' := [(cJ, .long)]) [1] rfl
    refine va_last hx hb hKo hPo hDo hS 0 0 rfl rfl (show vp_in (nI 0) 1 from vp_in_nI (by decide) (by decide)) dL_share_11 (fun H9 locs hPo9 hDo9 hS => ?_)
    have hPo9 : va_P (dC, dI) fmCl [(o, .inl (cJ, 1, .inr (.inl (vp_updL f 0 r.toInt64))))] H9 := by have z := hPo9; rw [show (nI 0).toNatClampNeg = 0 from nI_clamp (by decide)] at z; exact z
    have hP9 : va_P (dC, dI) fmCl ((fw h0 a1 a2 a3 a4 a5 a6 cI fg fk fu fc fb fn rc) ++ [(o, .inl (cJ, 1, .inr (.inl (vp_updL f 0 r.toInt64))))]) H9 := va_P.app (hfw hS) hPo9
    refine lv_goto (tgt := 19) hx hb dL_share_12 (by decide) ?_
    refine lv_iconst (v := nI 0) hx hb dL_share_19 (by decide) ?_
    refine W.widen (k := 1) (n := 6) (by omega) (by omega) ?_
    exact W.iret (v := nI 0) hx hb hr (fun t9 ht9 hW9 => ⟨⟨_, (vp_updL f 0 r.toInt64), rfl, Or.inr ⟨r, hw9, rfl, rfl⟩, xf_hP ht9 hP9⟩, hS.F ht9⟩) hS.2.2 dL_share_20
