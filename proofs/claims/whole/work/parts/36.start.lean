set_option maxHeartbeats 4000000 in
set_option maxRecDepth 100000 in
/-- THE LAW, from its entry -/
theorem whole_start {p : Program} {e : Env} {s : State} {m : MethodId} {below : List Frame} {meth : Method} {c : Code} (l : Launch) (hl9 : l.stackTraces = false) {b L : Nat} {xs : Nat → Int32} (hL : L ≤ 2048) (C0 : lw_At p s m meth c b L xs) : W p l e room_1 s m #[Value.ref b] below meth c s.heap [] 0 0 (lw_Z below #[Value.ref b] s) (entryFrame m ([Value.ref b] : List Value).toArray 7) := by
  obtain ⟨hx, hb, hr, hml, hown, hts, hX, hbl, hlocks, hgv⟩ := id C0
  have htsk := fun w h => hts w (wsL_law_in w h)
  have hA : ∀ q : Nat, s.heap.size ≤ q → (fun q : Nat => s.heap.size ≤ q) q := fun _ h => h
  have hbA : ¬ (fun q : Nat => s.heap.size ≤ q) b := Nat.not_le.mpr hbl
  obtain ⟨c0, iS0, hKn0⟩ := u_known (C := RX0) (T := TX0) (N := 7) (n := 7) hts inX0 (hts (.instantiable RX0 7) (by decide +kernel))
  obtain ⟨c1, iS1, hKn1⟩ := u_known (C := RX1) (T := TM) (N := 7) (n := 7) hts inM (hts (.instantiable RX1 7) (by decide +kernel))
  obtain ⟨dC, dI, hKc⟩ : ∃ (dC : Nat → ClassId) (dI : Nat → Nat → Nat), ∀ (k : Nat) (q : vw_C), fmCl[k]? = some q → u_Kn s q.1 q.2.1 q.2.2 (dC k) (dI k) := by
    refine ⟨fun k => if k = 0 then c0 else c1, fun k => if k = 0 then iS0 else iS1, ?_⟩
    intro k q hq
    match k, hq with
    | 0, hq => cases hq; exact hKn0
    | 1, hq => cases hq; exact hKn1
    | k + 2, hq => simp [fmCl] at hq
  have hS : va_S (fun q : Nat => s.heap.size ≤ q) s.heap s.heap [] := va_S.rf
  have hK : va_K (dC, dI) fmCl [] s := ⟨hKc, fun k q h => by simp at h⟩
  have hP : va_P (dC, dI) fmCl [] s.heap := fun k q h => by simp at h
  have hD : va_D (fun q : Nat => s.heap.size ≤ q) [] := ⟨fun i j p q h => by simp at h, fun k q h => by simp at h⟩
  have hgf := flat_of_before _ hgv
  obtain ⟨sa1, c_9, cA_9, kA_9, hq1, -⟩ := Cond.exactly_spec (args := #[Value.ref b]) (first := s) (o := none) (s := s) (idx := []) (t := .string "FacetCounts" 88) (cls := "java/lang/String") (hgf _ (by decide +kernel))
  obtain ⟨sa2, c_8, cA_8, kA_8, hq2, -⟩ := Cond.exactly_spec (args := #[Value.ref b]) (first := s) (o := none) (s := s) (idx := []) (t := .string "FacetCounts" 96) (cls := "java/lang/String") (hgf _ (by decide +kernel))
  have hR1 : vk_R RX0 88 "no such head or value" sa1 s := vk_R.of (hts (.stringRef "FacetCounts" 88 "no such head or value") (by decide +kernel)) hq1
  have hR2 : vk_R RX0 96 "nothing is kept but for this head" sa2 s := vk_R.of (hts (.stringRef "FacetCounts" 96 "nothing is kept but for this head") (by decide +kernel)) hq2
  have hU : vx_Zq Bundle.tN "UNASSIGNED_STACK" Bundle.steD (fun q : Nat => s.heap.size ≤ q) s s.heap := vx_Zqof (hts (.laysStatic Bundle.tN "UNASSIGNED_STACK" Bundle.steD) (by decide +kernel)) (hts (.initialized Bundle.tN) (by decide +kernel)) (hgf (.isRef (.static Bundle.tN "UNASSIGNED_STACK" Bundle.steD)) (by decide +kernel)) (fun a h => Nat.not_le.mpr h)
  have hN : vx_Zq Bundle.tN "SUPPRESSED_SENTINEL" Bundle.listD (fun q : Nat => s.heap.size ≤ q) s s.heap := vx_Zqof (hts (.laysStatic Bundle.tN "SUPPRESSED_SENTINEL" Bundle.listD) (by decide +kernel)) (hts (.initialized Bundle.tN) (by decide +kernel)) (hgf (.isRef (.static Bundle.tN "SUPPRESSED_SENTINEL" Bundle.listD)) (by decide +kernel)) (fun a h => Nat.not_le.mpr h)
  have hC : fmX s := ⟨va_Nw.of rfl (hts (.castable "java/lang/ArithmeticException" "java/lang/ArithmeticException") (by decide +kernel)), va_Nw.of rfl (hts (.declares (Bundle.initS "java/lang/RuntimeException")) (by decide +kernel)), va_Nw.of rfl (hts (.declares (Bundle.initS "java/lang/Exception")) (by decide +kernel)), va_Nw.of rfl (hts (.declares (Bundle.initS "java/lang/Throwable")) (by decide +kernel))⟩
  have hl := lv_entry ([.ref b]) (n := 7) (Nat.le_of_ble_eq_true rfl)
  rw [lg_entry_eq]
  generalize (lg_sl ([.ref b]) ++ List.replicate (7 - (lg_sl ([.ref b])).length) Slot.unset).toArray = ls at hl ⊢
  have hl : lv_has ls 7 [(0, .ref b)] := hl
  refine va_new (ci := 0) (fs := [.null, .null, .null, .null, .null, .null, .int 0]) (C := RX0) (T := TX0) (N := 7) hx hb hts inX0 tyX0 tyX0_ok hown (hts (.classLink RL 8 RX0) (by decide +kernel)) (hts (.instantiable RX0 7) (by decide +kernel)) (hts (.initialized RX0) (by decide +kernel)) hK hP hD hS hA rfl (fun j hj => by rcases (show j = 0 ∨ j = 1 ∨ j = 2 ∨ j = 3 ∨ j = 4 ∨ j = 5 ∨ j = 6 by omega) with rfl | rfl | rfl | rfl | rfl | rfl | rfl <;> rfl) (show 0 + 1 ≤ 1040 from by omega) (show 0 + 7 ≤ 19947 from by omega) dL_law_0 (fun h0 H hP hD hS => ?_)
  have hP : va_P (dC, dI) fmCl [(h0, .inr (0, [.null, .null, .null, .null, .null, .null, .int 0]))] H := hP
  have hD : va_D (fun q : Nat => s.heap.size ≤ q) [(h0, .inr (0, [.null, .null, .null, .null, .null, .null, .int 0]))] := hD
  refine W.widen (k := 1) (n := 7) (by omega) (by omega) ?_
  refine lv_dup hx hb dL_law_3 rfl ?_
  have hFc := va_free (wc := [(h0, .inr (0, [.null, .null, .null, .null, .null, .null, .int 0]))]) hD hS hA [0] rfl
  refine va_callv (va_runI (As := []) (rest := [.ref h0]) ⟨hx, hb, hml, hown, htsk⟩ (k_init l dC dI h0 H.size) (cwI 0 htsk gL_law_X0_init rfl rfl rfl (hts (.initialized RX0) (by decide +kernel)) (hts (.methodLink RL 15 yX0_init) (by decide +kernel)) (hts (.instanceMethod yX0_init) (by decide +kernel)) rfl (by decide +kernel) ⟨(Nat.le_of_ble_eq_true rfl), (Nat.le_of_ble_eq_true rfl)⟩) ⟨fun a U g mk q => ⟨q.1, q.2.1, q.2.2.1, va_K.moved (u := U) (U := U.calling g mk a) (Vm.Alike.refl U.vm) q.2.2.2.1, q.2.2.2.2⟩, fun U hU hW => ⟨rfl, by rw [hU], by rw [hU]; exact hP, va_K.moved hW.alike hK, hD.weaken (fun _ _ _ _ => trivial)⟩⟩ rfl rfl hl.1 rfl (lv_room (Nat.le_of_ble_eq_true rfl)) dL_law_4 ⟨show 1 + 6 ≤ 1040 from by omega, show 7 + 912 ≤ 19947 from by omega⟩) hS (fun q _ h => hFc q h) hFc (fun u9 t9 H1 locs ht9 hvm9 hw9 hB9 hz9 hk9 hS => ?_)
  obtain ⟨cI, a1, a2, a3, a4, a5, a6, hP1, hK1, hD1⟩ := hB9
  have hP1 := xf_hB ht9 hP1
  have hK := va_K.moved hvm9.symm hK1
  have hP : va_P (dC, dI) fmCl (fw h0 a1 a2 a3 a4 a5 a6 cI (fun _ => 0) (fun _ => 0) (xf_fill (-1) (fun _ => 0) 32) (fun _ => 0) (fun _ => 0) (fun _ => 0) (nI 0)) H1 := hP1
  have hD : va_D (fun q : Nat => s.heap.size ≤ q) (fw h0 a1 a2 a3 a4 a5 a6 cI (fun _ => 0) (fun _ => 0) (xf_fill (-1) (fun _ => 0) 32) (fun _ => 0) (fun _ => 0) (fun _ => 0) (nI 0)) := hD1.weaken (fun k q _ h => hFc q.1 h)
  refine W.widen (k := 7) (n := 919) (by omega) (by omega) ?_
  refine lv_astore_n (lv' := [(1, .ref h0), (0, .ref b)]) hx hb dL_law_7 rfl hl (by decide) rfl (fun ls hl => ?_)
  refine va_new (ci := 1) (fs := [.int 0, .null, .null, .null, .null, .null, .int 0]) (C := RX1) (T := TM) (N := 7) hx hb hts inM tyM tyM_ok hown (hts (.classLink RL 16 RX1) (by decide +kernel)) (hts (.instantiable RX1 7) (by decide +kernel)) (hts (.initialized RX1) (by decide +kernel)) hK hP hD hS hA rfl (fun j hj => by rcases (show j = 0 ∨ j = 1 ∨ j = 2 ∨ j = 3 ∨ j = 4 ∨ j = 5 ∨ j = 6 by omega) with rfl | rfl | rfl | rfl | rfl | rfl | rfl <;> rfl) (show 7 + 1 ≤ 1040 from by omega) (show 919 + 7 ≤ 19947 from by omega) dL_law_8 (fun g0 H hP hD hS => ?_)
  have hP : va_P (dC, dI) fmCl ((fw h0 a1 a2 a3 a4 a5 a6 cI (fun _ => 0) (fun _ => 0) (xf_fill (-1) (fun _ => 0) 32) (fun _ => 0) (fun _ => 0) (fun _ => 0) (nI 0)) ++ [(g0, .inr (1, [.int 0, .null, .null, .null, .null, .null, .int 0]))]) H := hP
  have hD : va_D (fun q : Nat => s.heap.size ≤ q) ((fw h0 a1 a2 a3 a4 a5 a6 cI (fun _ => 0) (fun _ => 0) (xf_fill (-1) (fun _ => 0) 32) (fun _ => 0) (fun _ => 0) (fun _ => 0) (nI 0)) ++ [(g0, .inr (1, [.int 0, .null, .null, .null, .null, .null, .int 0]))]) := hD
  refine W.widen (k := 8) (n := 926) (by omega) (by omega) ?_
  refine lv_dup hx hb dL_law_11 rfl ?_
  have hFc := va_free (wc := [(g0, .inr (1, [.int 0, .null, .null, .null, .null, .null, .int 0]))]) hD hS hA [7] rfl
  have hPc : va_P (dC, dI) fmCl [(g0, .inr (1, [.int 0, .null, .null, .null, .null, .null, .int 0]))] H := xf_P_right hP
  have hDc : va_D (fun q : Nat => s.heap.size ≤ q) [(g0, .inr (1, [.int 0, .null, .null, .null, .null, .null, .int 0]))] := xf_D_right hD
  have hKc := hK.sub (tys' := []) [] rfl
  refine va_callv (va_runI (As := []) (rest := [.ref g0]) ⟨hx, hb, hml, hown, hts⟩ (m_init l dC dI g0 H.size) (cwI 0 hts gL_M_init rfl rfl rfl (hts (.initialized RX1) (by decide +kernel)) (hts (.methodLink RL 18 yM_init) (by decide +kernel)) (hts (.instanceMethod yM_init) (by decide +kernel)) rfl (by decide +kernel) ⟨(Nat.le_of_ble_eq_true rfl), (Nat.le_of_ble_eq_true rfl)⟩) ⟨fun a U g mk q => ⟨q.1, q.2.1, q.2.2.1, va_K.moved (u := U) (U := U.calling g mk a) (Vm.Alike.refl U.vm) q.2.2.2.1, q.2.2.2.2⟩, fun U hU hW => ⟨rfl, by rw [hU], by rw [hU]; exact hPc, va_K.moved hW.alike hKc, hDc.weaken (fun _ _ _ _ => trivial)⟩⟩ rfl rfl hl.1 rfl (lv_room (Nat.le_of_ble_eq_true rfl)) dL_law_12 ⟨show 8 + 5 ≤ 1040 from by omega, show 926 + 10816 ≤ 19947 from by omega⟩) hS (fun q _ h => hFc q h) hFc (fun u9 t9 H1 locs ht9 hvm9 hw9 hB9 hz9 hk9 hS => ?_)
  obtain ⟨cI9, cZ, b1, b2, b3, b4, b5, hP1, hK1, hD1⟩ := hB9
  have hP1 := xf_hB ht9 hP1
  have hK1 := va_K.moved hvm9.symm hK1
  have hK := hK.app hK1
  obtain rfl : cI = cI9 := xf_oneI hK (i := 0) (j := 1) rfl rfl
  have hK := hK.sub (tys' := [(cI, .int), (cZ, .boolean)]) [0, 2] rfl
  obtain ⟨hP, hD⟩ := va_join (wr := (fw h0 a1 a2 a3 a4 a5 a6 cI (fun _ => 0) (fun _ => 0) (xf_fill (-1) (fun _ => 0) 32) (fun _ => 0) (fun _ => 0) (fun _ => 0) (nI 0))) (w1 := (mw g0 b1 b2 b3 b4 b5 cI cZ (fun _ => false) (xf_fill (-1) (fun _ => 0) 32) (fun _ => false) (fun _ => 0) (fun _ => 0) 0 0)) hP hD [7] [0, 1, 2, 3, 4, 5, 6] rfl rfl (by decide) (by decide) hk9 hFc hP1 hD1
  refine W.widen (k := 13) (n := 11742) (by omega) (by omega) ?_
  refine lv_astore_n (lv' := [(2, .ref g0), (1, .ref h0), (0, .ref b)]) hx hb dL_law_15 rfl hl (by decide) rfl (fun ls hl => ?_)
  refine lv_iconst (v := nI 1) hx hb dL_law_16 (by decide) ?_
  refine va_newa (n := nI 1) (N' := 1) (atype := .long) (a0 := (1, .inr (.inl (fun _ => 0)))) (ty := .long) hx hb (hts (.arrayClass .long) (by decide +kernel)) rfl hK hP hD hS hA (fun _ => vp_cell_l _ _ _) (nI_pos (by decide)) (@nI_clamp 1 (by decide)) (show 1 * 8 ≤ 536870912 from by omega) (show 13 + 1 ≤ 1040 from by omega) (show 11742 + 1 ≤ 19947 from by omega) dL_law_17 (fun o cJ H hK hP hD hS => ?_)
  refine W.widen (k := 14) (n := 11743) (by omega) (by omega) ?_
  refine lv_astore_n (lv' := [(3, .ref o), (2, .ref g0), (1, .ref h0), (0, .ref b)]) hx hb dL_law_19 rfl hl (by decide) rfl (fun ls hl => ?_)
  refine lv_iconst (v := nI 0) hx hb dL_law_20 (by decide) ?_
  refine lv_istore (lv' := [(4, .int (nI 0)), (3, .ref o), (2, .ref g0), (1, .ref h0), (0, .ref b)]) hx hb dL_law_21 hl (by decide) rfl (fun ls hl => ?_)
  have hP := hP.sub (ws' := (mw g0 b1 b2 b3 b4 b5 cI cZ (fun _ => false) (xf_fill (-1) (fun _ => 0) 32) (fun _ => false) (fun _ => 0) (fun _ => 0) 0 0) ++ ((fw h0 a1 a2 a3 a4 a5 a6 cI (fun _ => 0) (fun _ => 0) (xf_fill (-1) (fun _ => 0) 32) (fun _ => 0) (fun _ => 0) (fun _ => 0) (nI 0)) ++ [(o, .inl (cJ, 1, .inr (.inl (fun _ => 0))))])) [7, 8, 9, 10, 11, 12, 0, 1, 2, 3, 4, 5, 6, 13] rfl
  have hD := hD.sub (ws' := (mw g0 b1 b2 b3 b4 b5 cI cZ (fun _ => false) (xf_fill (-1) (fun _ => 0) 32) (fun _ => false) (fun _ => 0) (fun _ => 0) 0 0) ++ ((fw h0 a1 a2 a3 a4 a5 a6 cI (fun _ => 0) (fun _ => 0) (xf_fill (-1) (fun _ => 0) 32) (fun _ => 0) (fun _ => 0) (fun _ => 0) (nI 0)) ++ [(o, .inl (cJ, 1, .inr (.inl (fun _ => 0))))])) [7, 8, 9, 10, 11, 12, 0, 1, 2, 3, 4, 5, 6, 13] (by decide) rfl
  exact law_loop hL C0 hl9 hR1 hR2 hU hN hC (hK.sub (tys' := [(cI, .int), (cZ, .boolean), (cJ, .long)]) [0, 1, 2] rfl) 514 0 rfl (Nat.zero_le _) ((fun _ => 0, fun _ => 0, xf_fill (-1) (fun _ => 0) 32, fun _ => 0, fun _ => 0, fun _ => 0, nI 0) : FcS) ((fun _ => false, xf_fill (-1) (fun _ => 0) 32, fun _ => false, fun _ => 0, fun _ => 0, 0, 0) : MdS) (fun _ => 0) H _ ls fm_start hP hD hS (lv_sub hl [4, 3, 2, 1, 0] rfl)
