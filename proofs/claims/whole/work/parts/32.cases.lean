set_option maxHeartbeats 4000000 in
set_option maxRecDepth 100000 in
theorem lc_6 {p : Program} {l : Launch} {e : Env} {s : State} {m : MethodId} {below : List Frame} {meth : Method} {c : Code} {b L : Nat} {xs : Nat → Int32} (hL : L ≤ 2048) (C0 : lw_At p s m meth c b L xs) {dC : Nat → ClassId} {dI : Nat → Nat → Nat} {h0 a1 a2 a3 a4 a5 a6 g0 b1 b2 b3 b4 b5 o : Nat} {cI cZ cJ : ClassId} (x : FcS) (y : MdS) (f : Nat → Int64) {n i : Nat} (hi : i + 4 ≤ L) (hn : n < 2 ^ 30) (hI : fmS x y n) {H : Heap} {locs : List Loc} {cells slots : Nat} (hrc : cells + 1 ≤ room_1.cells) (hrs : slots + 6 ≤ room_1.slots) (hK : va_K (dC, dI) fmCl [(cI, .int), (cZ, .boolean), (cJ, .long)] s) (hP : va_P (dC, dI) fmCl ((mw g0 b1 b2 b3 b4 b5 cI cZ y.1 y.2.1 y.2.2.1 y.2.2.2.1 y.2.2.2.2.1 y.2.2.2.2.2.1 y.2.2.2.2.2.2) ++ ((fw h0 a1 a2 a3 a4 a5 a6 cI x.1 x.2.1 x.2.2.1 x.2.2.2.1 x.2.2.2.2.1 x.2.2.2.2.2.1 x.2.2.2.2.2.2) ++ [(o, .inl (cJ, 1, .inr (.inl f)))])) H) (hD : va_D (fun q : Nat => s.heap.size ≤ q) ((mw g0 b1 b2 b3 b4 b5 cI cZ y.1 y.2.1 y.2.2.1 y.2.2.2.1 y.2.2.2.2.1 y.2.2.2.2.2.1 y.2.2.2.2.2.2) ++ ((fw h0 a1 a2 a3 a4 a5 a6 cI x.1 x.2.1 x.2.2.1 x.2.2.2.1 x.2.2.2.2.1 x.2.2.2.2.2.1 x.2.2.2.2.2.2) ++ [(o, .inl (cJ, 1, .inr (.inl f)))]))) (hS : va_S (fun q : Nat => s.heap.size ≤ q) s.heap H locs) {ls : Array Slot} (hl : lv_has ls 7 [(0, .ref b), (1, .ref h0), (2, .ref g0), (3, .ref o), (4, .int (nI i))])
    (K : ∀ (x' : FcS) (y' : MdS) (f' : Nat → Int64) (H : Heap) (locs : List Loc) (ls : Array Slot), fmS x' y' (n + 1) → va_P (dC, dI) fmCl ((mw g0 b1 b2 b3 b4 b5 cI cZ y'.1 y'.2.1 y'.2.2.1 y'.2.2.2.1 y'.2.2.2.2.1 y'.2.2.2.2.2.1 y'.2.2.2.2.2.2) ++ ((fw h0 a1 a2 a3 a4 a5 a6 cI x'.1 x'.2.1 x'.2.2.1 x'.2.2.2.1 x'.2.2.2.2.1 x'.2.2.2.2.2.1 x'.2.2.2.2.2.2) ++ [(o, .inl (cJ, 1, .inr (.inl f')))])) H → va_D (fun q : Nat => s.heap.size ≤ q) ((mw g0 b1 b2 b3 b4 b5 cI cZ y'.1 y'.2.1 y'.2.2.1 y'.2.2.2.1 y'.2.2.2.2.1 y'.2.2.2.2.2.1 y'.2.2.2.2.2.2) ++ ((fw h0 a1 a2 a3 a4 a5 a6 cI x'.1 x'.2.1 x'.2.2.1 x'.2.2.2.1 x'.2.2.2.2.1 x'.2.2.2.2.2.1 x'.2.2.2.2.2.2) ++ [(o, .inl (cJ, 1, .inr (.inl f')))])) → va_S (fun q : Nat => s.heap.size ≤ q) s.heap H locs → lv_has ls 7 [(0, .ref b), (1, .ref h0), (2, .ref g0), (3, .ref o), (4, .int (nI i))] → W p l e room_1 s m #[Value.ref b] below meth c H locs (cells + 1) (slots + 6) (lw_Z below #[Value.ref b] s) (F0 m 636 ls [])) :
    W p l e room_1 s m #[Value.ref b] below meth c H locs cells slots (lw_Z below #[Value.ref b] s) (F0 m 342 ls []) := by
  obtain ⟨hx, hb, hr, hml, hown, hts, hX, hbl, hlocks, hgv⟩ := C0
  have hbA : ¬ (fun q : Nat => s.heap.size ≤ q) b := Nat.not_le.mpr hbl
  have htsk := fun w h => hts w (wsL_law_in w h)
  have hOk : mdOk y.2.1 := hI.2.1
  have hAc : mdAc y.2.1 := hI.2.2.1
  refine lv_aload_n hx hb dL_law_342 rfl (lv_at hl 1 rfl) ?_
  refine lv_aload_n hx hb dL_law_343 rfl (lv_at hl 0 rfl) ?_
  refine lv_iload hx hb dL_law_344 (lv_at hl 4 rfl) ?_
  refine lv_iconst (v := nI 1) hx hb dL_law_346 (by decide) ?_
  refine lv_iadd hx hb dL_law_347 ?_
  refine xf_be (y := nI (i + 1)) (by exact nI_add _ _) ?_
  refine xf_sld hx hb hX hbl hbA hS (j := (i + 1)) (by omega) (by omega) dL_law_348 ?_
  refine lv_aload_n hx hb dL_law_349 rfl (lv_at hl 0 rfl) ?_
  refine lv_iload hx hb dL_law_350 (lv_at hl 4 rfl) ?_
  refine lv_iconst (v := nI 2) hx hb dL_law_352 (by decide) ?_
  refine lv_iadd hx hb dL_law_353 ?_
  refine xf_be (y := nI (i + 2)) (by exact nI_add _ _) ?_
  refine xf_sld hx hb hX hbl hbA hS (j := (i + 2)) (by omega) (by omega) dL_law_354 ?_
  have hPc : va_P (dC, dI) fmCl (fw h0 a1 a2 a3 a4 a5 a6 cI x.1 x.2.1 x.2.2.1 x.2.2.2.1 x.2.2.2.2.1 x.2.2.2.2.2.1 x.2.2.2.2.2.2) _ := xf_P_left (xf_P_right hP)
  have hDc : va_D (fun q : Nat => s.heap.size ≤ q) (fw h0 a1 a2 a3 a4 a5 a6 cI x.1 x.2.1 x.2.2.1 x.2.2.2.1 x.2.2.2.2.1 x.2.2.2.2.2.1 x.2.2.2.2.2.2) := xf_D_left (xf_D_right hD)
  have hKc := hK.sub (tys' := [(cI, .int)]) [0] rfl
  refine vp_callSi (W.runV (As := [.int (xs (i + 1)), .int (xs (i + 2))]) (rest := []) ⟨hx, hb, hml, hown, htsk⟩ (k_facet l dC dI h0 a1 a2 a3 a4 a5 a6 cI x.1 x.2.1 x.2.2.1 x.2.2.2.1 x.2.2.2.2.1 x.2.2.2.2.2.1 x.2.2.2.2.2.2 (xs (i + 1)) (xs (i + 2))) (cwV 2 htsk gL_law_X0_facet rfl rfl rfl (by decide +kernel) ⟨Nat.le_of_ble_eq_true rfl, Nat.le_of_ble_eq_true rfl⟩) (xf_preV (ci := 0) (RX0, TX0, 7) hKc hPc rfl rfl) rfl rfl hl.1 rfl (lv_room (Nat.le_of_ble_eq_true rfl)) dL_law_355 ⟨by omega, by omega⟩) (fun r_k hw_k => ?_)
  refine lv_aload_n hx hb dL_law_358 rfl (lv_at hl 2 rfl) ?_
  refine lv_aload_n hx hb dL_law_359 rfl (lv_at hl 0 rfl) ?_
  refine lv_iload hx hb dL_law_360 (lv_at hl 4 rfl) ?_
  refine lv_iconst (v := nI 1) hx hb dL_law_362 (by decide) ?_
  refine lv_iadd hx hb dL_law_363 ?_
  refine xf_be (y := nI (i + 1)) (by exact nI_add _ _) ?_
  refine xf_sld hx hb hX hbl hbA hS (j := (i + 1)) (by omega) (by omega) dL_law_364 ?_
  refine lv_aload_n hx hb dL_law_365 rfl (lv_at hl 0 rfl) ?_
  refine lv_iload hx hb dL_law_366 (lv_at hl 4 rfl) ?_
  refine lv_iconst (v := nI 2) hx hb dL_law_368 (by decide) ?_
  refine lv_iadd hx hb dL_law_369 ?_
  refine xf_be (y := nI (i + 2)) (by exact nI_add _ _) ?_
  refine xf_sld hx hb hX hbl hbA hS (j := (i + 2)) (by omega) (by omega) dL_law_370 ?_
  have hPc : va_P (dC, dI) fmCl (mw g0 b1 b2 b3 b4 b5 cI cZ y.1 y.2.1 y.2.2.1 y.2.2.2.1 y.2.2.2.2.1 y.2.2.2.2.2.1 y.2.2.2.2.2.2) _ := xf_P_left hP
  have hDc : va_D (fun q : Nat => s.heap.size ≤ q) (mw g0 b1 b2 b3 b4 b5 cI cZ y.1 y.2.1 y.2.2.1 y.2.2.2.1 y.2.2.2.2.1 y.2.2.2.2.2.1 y.2.2.2.2.2.2) := xf_D_left hD
  have hKc := hK.sub (tys' := [(cI, .int), (cZ, .boolean)]) [0, 1] rfl
  have hFc := xf_A_le hDc
  refine va_calli (va_runV (As := [.int (xs (i + 1)), .int (xs (i + 2))]) (rest := [.int r_k]) ⟨hx, hb, hml, hown, hts⟩ (m_facet l dC dI g0 b1 b2 b3 b4 b5 cI cZ y.1 y.2.1 y.2.2.1 y.2.2.2.1 y.2.2.2.2.1 y.2.2.2.2.2.1 y.2.2.2.2.2.2 (xs (i + 1)) (xs (i + 2)) hOk hAc) (cwV 2 hts gL_M_facet rfl rfl rfl (by decide +kernel) ⟨Nat.le_of_ble_eq_true rfl, Nat.le_of_ble_eq_true rfl⟩) (xf_preW (ci := 1) (RX1, TM, 7) hKc hPc hDc rfl rfl) rfl rfl hl.1 rfl (lv_room (Nat.le_of_ble_eq_true rfl)) dL_law_371 ⟨by omega, by omega⟩) hS (fun q _ h => hFc q h) hFc (fun r_m u_m t9 H locs ht9 hvm9 hw_m hB9 hz9 hk9 hS => ?_)
  have hB9 := xf_hB ht9 hB9
  have hP0 : va_P (dC, dI) fmCl ([] ++ ((mw g0 b1 b2 b3 b4 b5 cI cZ y.1 y.2.1 y.2.2.1 y.2.2.2.1 y.2.2.2.2.1 y.2.2.2.2.2.1 y.2.2.2.2.2.2) ++ ((fw h0 a1 a2 a3 a4 a5 a6 cI x.1 x.2.1 x.2.2.1 x.2.2.2.1 x.2.2.2.2.1 x.2.2.2.2.2.1 x.2.2.2.2.2.2) ++ [(o, .inl (cJ, 1, .inr (.inl f)))]))) _ := hP
  have hD0 : va_D (fun q : Nat => s.heap.size ≤ q) ([] ++ ((mw g0 b1 b2 b3 b4 b5 cI cZ y.1 y.2.1 y.2.2.1 y.2.2.2.1 y.2.2.2.2.1 y.2.2.2.2.2.1 y.2.2.2.2.2.2) ++ ((fw h0 a1 a2 a3 a4 a5 a6 cI x.1 x.2.1 x.2.2.1 x.2.2.2.1 x.2.2.2.2.1 x.2.2.2.2.2.1 x.2.2.2.2.2.2) ++ [(o, .inl (cJ, 1, .inr (.inl f)))]))) := hD
  have hP : va_P (dC, dI) fmCl ((mw g0 b1 b2 b3 b4 b5 cI cZ u_m.1 u_m.2.1 u_m.2.2.1 u_m.2.2.2.1 u_m.2.2.2.2.1 u_m.2.2.2.2.2.1 u_m.2.2.2.2.2.2) ++ ((fw h0 a1 a2 a3 a4 a5 a6 cI x.1 x.2.1 x.2.2.1 x.2.2.2.1 x.2.2.2.2.1 x.2.2.2.2.2.1 x.2.2.2.2.2.2) ++ [(o, .inl (cJ, 1, .inr (.inl f)))])) H := xf_join (a := []) (w := (mw g0 b1 b2 b3 b4 b5 cI cZ y.1 y.2.1 y.2.2.1 y.2.2.2.1 y.2.2.2.2.1 y.2.2.2.2.2.1 y.2.2.2.2.2.2)) (w1 := (mw g0 b1 b2 b3 b4 b5 cI cZ u_m.1 u_m.2.1 u_m.2.2.1 u_m.2.2.2.1 u_m.2.2.2.2.1 u_m.2.2.2.2.2.1 u_m.2.2.2.2.2.2)) (b := ((fw h0 a1 a2 a3 a4 a5 a6 cI x.1 x.2.1 x.2.2.1 x.2.2.2.1 x.2.2.2.2.1 x.2.2.2.2.2.1 x.2.2.2.2.2.2) ++ [(o, .inl (cJ, 1, .inr (.inl f)))])) hP0 hD0 hB9 hk9
  have hD : va_D (fun q : Nat => s.heap.size ≤ q) ((mw g0 b1 b2 b3 b4 b5 cI cZ u_m.1 u_m.2.1 u_m.2.2.1 u_m.2.2.2.1 u_m.2.2.2.2.1 u_m.2.2.2.2.2.1 u_m.2.2.2.2.2.2) ++ ((fw h0 a1 a2 a3 a4 a5 a6 cI x.1 x.2.1 x.2.2.1 x.2.2.2.1 x.2.2.2.2.1 x.2.2.2.2.2.1 x.2.2.2.2.2.2) ++ [(o, .inl (cJ, 1, .inr (.inl f)))])) := xf_wD hD rfl
  refine lv_icmp_eq (tgt := 636) hx hb dL_law_374 (by decide) (fun c374 => ?_) (fun c374 => ?_)
  ·
    refine W.widen (k := cells + 1) (n := slots + 6) (by omega) (by omega) ?_
    exact K x u_m f H locs ls (by rw [show u_m = _ from congrArg Prod.snd hw_m]; exact fm_more hI) hP hD hS (lv_sub hl [0, 1, 2, 3, 4] rfl)
  ·
    exact absurd (hw_k.trans ((fm_facet hI (xs (i + 1)) (xs (i + 2))).trans (congrArg Prod.fst hw_m).symm)) c374
set_option maxHeartbeats 4000000 in
set_option maxRecDepth 100000 in
theorem lc_7 {p : Program} {l : Launch} {e : Env} {s : State} {m : MethodId} {below : List Frame} {meth : Method} {c : Code} {b L : Nat} {xs : Nat → Int32} (hL : L ≤ 2048) (C0 : lw_At p s m meth c b L xs) {dC : Nat → ClassId} {dI : Nat → Nat → Nat} {h0 a1 a2 a3 a4 a5 a6 g0 b1 b2 b3 b4 b5 o : Nat} {cI cZ cJ : ClassId} (x : FcS) (y : MdS) (f : Nat → Int64) {n i : Nat} (hi : i + 4 ≤ L) (hn : n < 2 ^ 30) (hI : fmS x y n) {H : Heap} {locs : List Loc} {cells slots : Nat} (hrc : cells + 1 ≤ room_1.cells) (hrs : slots + 6 ≤ room_1.slots) (hK : va_K (dC, dI) fmCl [(cI, .int), (cZ, .boolean), (cJ, .long)] s) (hP : va_P (dC, dI) fmCl ((mw g0 b1 b2 b3 b4 b5 cI cZ y.1 y.2.1 y.2.2.1 y.2.2.2.1 y.2.2.2.2.1 y.2.2.2.2.2.1 y.2.2.2.2.2.2) ++ ((fw h0 a1 a2 a3 a4 a5 a6 cI x.1 x.2.1 x.2.2.1 x.2.2.2.1 x.2.2.2.2.1 x.2.2.2.2.2.1 x.2.2.2.2.2.2) ++ [(o, .inl (cJ, 1, .inr (.inl f)))])) H) (hD : va_D (fun q : Nat => s.heap.size ≤ q) ((mw g0 b1 b2 b3 b4 b5 cI cZ y.1 y.2.1 y.2.2.1 y.2.2.2.1 y.2.2.2.2.1 y.2.2.2.2.2.1 y.2.2.2.2.2.2) ++ ((fw h0 a1 a2 a3 a4 a5 a6 cI x.1 x.2.1 x.2.2.1 x.2.2.2.1 x.2.2.2.2.1 x.2.2.2.2.2.1 x.2.2.2.2.2.2) ++ [(o, .inl (cJ, 1, .inr (.inl f)))]))) (hS : va_S (fun q : Nat => s.heap.size ≤ q) s.heap H locs) {ls : Array Slot} (hl : lv_has ls 7 [(0, .ref b), (1, .ref h0), (2, .ref g0), (3, .ref o), (4, .int (nI i))])
    (K : ∀ (x' : FcS) (y' : MdS) (f' : Nat → Int64) (H : Heap) (locs : List Loc) (ls : Array Slot), fmS x' y' (n + 1) → va_P (dC, dI) fmCl ((mw g0 b1 b2 b3 b4 b5 cI cZ y'.1 y'.2.1 y'.2.2.1 y'.2.2.2.1 y'.2.2.2.2.1 y'.2.2.2.2.2.1 y'.2.2.2.2.2.2) ++ ((fw h0 a1 a2 a3 a4 a5 a6 cI x'.1 x'.2.1 x'.2.2.1 x'.2.2.2.1 x'.2.2.2.2.1 x'.2.2.2.2.2.1 x'.2.2.2.2.2.2) ++ [(o, .inl (cJ, 1, .inr (.inl f')))])) H → va_D (fun q : Nat => s.heap.size ≤ q) ((mw g0 b1 b2 b3 b4 b5 cI cZ y'.1 y'.2.1 y'.2.2.1 y'.2.2.2.1 y'.2.2.2.2.1 y'.2.2.2.2.2.1 y'.2.2.2.2.2.2) ++ ((fw h0 a1 a2 a3 a4 a5 a6 cI x'.1 x'.2.1 x'.2.2.1 x'.2.2.2.1 x'.2.2.2.2.1 x'.2.2.2.2.2.1 x'.2.2.2.2.2.2) ++ [(o, .inl (cJ, 1, .inr (.inl f')))])) → va_S (fun q : Nat => s.heap.size ≤ q) s.heap H locs → lv_has ls 7 [(0, .ref b), (1, .ref h0), (2, .ref g0), (3, .ref o), (4, .int (nI i))] → W p l e room_1 s m #[Value.ref b] below meth c H locs (cells + 1) (slots + 6) (lw_Z below #[Value.ref b] s) (F0 m 636 ls [])) :
    W p l e room_1 s m #[Value.ref b] below meth c H locs cells slots (lw_Z below #[Value.ref b] s) (F0 m 379 ls []) := by
  obtain ⟨hx, hb, hr, hml, hown, hts, hX, hbl, hlocks, hgv⟩ := C0
  have hbA : ¬ (fun q : Nat => s.heap.size ≤ q) b := Nat.not_le.mpr hbl
  have htsk := fun w h => hts w (wsL_law_in w h)
  have hOk : mdOk y.2.1 := hI.2.1
  have hAc : mdAc y.2.1 := hI.2.2.1
  refine lv_aload_n hx hb dL_law_379 rfl (lv_at hl 1 rfl) ?_
  refine lv_aload_n hx hb dL_law_380 rfl (lv_at hl 0 rfl) ?_
  refine lv_iload hx hb dL_law_381 (lv_at hl 4 rfl) ?_
  refine lv_iconst (v := nI 1) hx hb dL_law_383 (by decide) ?_
  refine lv_iadd hx hb dL_law_384 ?_
  refine xf_be (y := nI (i + 1)) (by exact nI_add _ _) ?_
  refine xf_sld hx hb hX hbl hbA hS (j := (i + 1)) (by omega) (by omega) dL_law_385 ?_
  refine lv_aload_n hx hb dL_law_386 rfl (lv_at hl 0 rfl) ?_
  refine lv_iload hx hb dL_law_387 (lv_at hl 4 rfl) ?_
  refine lv_iconst (v := nI 2) hx hb dL_law_389 (by decide) ?_
  refine lv_iadd hx hb dL_law_390 ?_
  refine xf_be (y := nI (i + 2)) (by exact nI_add _ _) ?_
  refine xf_sld hx hb hX hbl hbA hS (j := (i + 2)) (by omega) (by omega) dL_law_391 ?_
  have hPc : va_P (dC, dI) fmCl (fw h0 a1 a2 a3 a4 a5 a6 cI x.1 x.2.1 x.2.2.1 x.2.2.2.1 x.2.2.2.2.1 x.2.2.2.2.2.1 x.2.2.2.2.2.2) _ := xf_P_left (xf_P_right hP)
  have hDc : va_D (fun q : Nat => s.heap.size ≤ q) (fw h0 a1 a2 a3 a4 a5 a6 cI x.1 x.2.1 x.2.2.1 x.2.2.2.1 x.2.2.2.2.1 x.2.2.2.2.2.1 x.2.2.2.2.2.2) := xf_D_left (xf_D_right hD)
  have hKc := hK.sub (tys' := [(cI, .int)]) [0] rfl
  have hFc := xf_A_le hDc
  refine va_calli (va_runV (As := [.int (xs (i + 1)), .int (xs (i + 2))]) (rest := []) ⟨hx, hb, hml, hown, htsk⟩ (k_top l dC dI h0 a1 a2 a3 a4 a5 a6 cI x.1 x.2.1 x.2.2.1 x.2.2.2.1 x.2.2.2.2.1 x.2.2.2.2.2.1 x.2.2.2.2.2.2 (xs (i + 1)) (xs (i + 2))) (cwV 2 htsk gL_law_X0_top rfl rfl rfl (by decide +kernel) ⟨Nat.le_of_ble_eq_true rfl, Nat.le_of_ble_eq_true rfl⟩) (xf_preW (ci := 0) (RX0, TX0, 7) hKc hPc hDc rfl rfl) rfl rfl hl.1 rfl (lv_room (Nat.le_of_ble_eq_true rfl)) dL_law_392 ⟨by omega, by omega⟩) hS (fun q _ h => hFc q h) hFc (fun r_k u_k t9 H locs ht9 hvm9 hw_k hB9 hz9 hk9 hS => ?_)
  have hB9 := xf_hB ht9 hB9
  have hP : va_P (dC, dI) fmCl ((mw g0 b1 b2 b3 b4 b5 cI cZ y.1 y.2.1 y.2.2.1 y.2.2.2.1 y.2.2.2.2.1 y.2.2.2.2.2.1 y.2.2.2.2.2.2) ++ ((fw h0 a1 a2 a3 a4 a5 a6 cI u_k.1 u_k.2.1 u_k.2.2.1 u_k.2.2.2.1 u_k.2.2.2.2.1 u_k.2.2.2.2.2.1 u_k.2.2.2.2.2.2) ++ [(o, .inl (cJ, 1, .inr (.inl f)))])) H := xf_join (a := (mw g0 b1 b2 b3 b4 b5 cI cZ y.1 y.2.1 y.2.2.1 y.2.2.2.1 y.2.2.2.2.1 y.2.2.2.2.2.1 y.2.2.2.2.2.2)) (w := (fw h0 a1 a2 a3 a4 a5 a6 cI x.1 x.2.1 x.2.2.1 x.2.2.2.1 x.2.2.2.2.1 x.2.2.2.2.2.1 x.2.2.2.2.2.2)) (w1 := (fw h0 a1 a2 a3 a4 a5 a6 cI u_k.1 u_k.2.1 u_k.2.2.1 u_k.2.2.2.1 u_k.2.2.2.2.1 u_k.2.2.2.2.2.1 u_k.2.2.2.2.2.2)) (b := [(o, .inl (cJ, 1, .inr (.inl f)))]) hP hD hB9 hk9
  have hD : va_D (fun q : Nat => s.heap.size ≤ q) ((mw g0 b1 b2 b3 b4 b5 cI cZ y.1 y.2.1 y.2.2.1 y.2.2.2.1 y.2.2.2.2.1 y.2.2.2.2.2.1 y.2.2.2.2.2.2) ++ ((fw h0 a1 a2 a3 a4 a5 a6 cI u_k.1 u_k.2.1 u_k.2.2.1 u_k.2.2.2.1 u_k.2.2.2.2.1 u_k.2.2.2.2.2.1 u_k.2.2.2.2.2.2) ++ [(o, .inl (cJ, 1, .inr (.inl f)))])) := xf_wD hD rfl
  refine lv_aload_n hx hb dL_law_395 rfl (lv_at hl 2 rfl) ?_
  refine lv_aload_n hx hb dL_law_396 rfl (lv_at hl 0 rfl) ?_
  refine lv_iload hx hb dL_law_397 (lv_at hl 4 rfl) ?_
  refine lv_iconst (v := nI 1) hx hb dL_law_399 (by decide) ?_
  refine lv_iadd hx hb dL_law_400 ?_
  refine xf_be (y := nI (i + 1)) (by exact nI_add _ _) ?_
  refine xf_sld hx hb hX hbl hbA hS (j := (i + 1)) (by omega) (by omega) dL_law_401 ?_
  refine lv_aload_n hx hb dL_law_402 rfl (lv_at hl 0 rfl) ?_
  refine lv_iload hx hb dL_law_403 (lv_at hl 4 rfl) ?_
  refine lv_iconst (v := nI 2) hx hb dL_law_405 (by decide) ?_
  refine lv_iadd hx hb dL_law_406 ?_
  refine xf_be (y := nI (i + 2)) (by exact nI_add _ _) ?_
  refine xf_sld hx hb hX hbl hbA hS (j := (i + 2)) (by omega) (by omega) dL_law_407 ?_
  have hPc : va_P (dC, dI) fmCl (mw g0 b1 b2 b3 b4 b5 cI cZ y.1 y.2.1 y.2.2.1 y.2.2.2.1 y.2.2.2.2.1 y.2.2.2.2.2.1 y.2.2.2.2.2.2) _ := xf_P_left hP
  have hDc : va_D (fun q : Nat => s.heap.size ≤ q) (mw g0 b1 b2 b3 b4 b5 cI cZ y.1 y.2.1 y.2.2.1 y.2.2.2.1 y.2.2.2.2.1 y.2.2.2.2.2.1 y.2.2.2.2.2.2) := xf_D_left hD
  have hKc := hK.sub (tys' := [(cI, .int), (cZ, .boolean)]) [0, 1] rfl
  have hFc := xf_A_le hDc
  refine va_calli (va_runV (As := [.int (xs (i + 1)), .int (xs (i + 2))]) (rest := [.int r_k]) ⟨hx, hb, hml, hown, hts⟩ (m_top l dC dI g0 b1 b2 b3 b4 b5 cI cZ y.1 y.2.1 y.2.2.1 y.2.2.2.1 y.2.2.2.2.1 y.2.2.2.2.2.1 y.2.2.2.2.2.2 (xs (i + 1)) (xs (i + 2)) hOk hAc) (cwV 2 hts gL_M_top rfl rfl rfl (by decide +kernel) ⟨Nat.le_of_ble_eq_true rfl, Nat.le_of_ble_eq_true rfl⟩) (xf_preW (ci := 1) (RX1, TM, 7) hKc hPc hDc rfl rfl) rfl rfl hl.1 rfl (lv_room (Nat.le_of_ble_eq_true rfl)) dL_law_408 ⟨by omega, by omega⟩) hS (fun q _ h => hFc q h) hFc (fun r_m u_m t9 H locs ht9 hvm9 hw_m hB9 hz9 hk9 hS => ?_)
  have hB9 := xf_hB ht9 hB9
  have hP0 : va_P (dC, dI) fmCl ([] ++ ((mw g0 b1 b2 b3 b4 b5 cI cZ y.1 y.2.1 y.2.2.1 y.2.2.2.1 y.2.2.2.2.1 y.2.2.2.2.2.1 y.2.2.2.2.2.2) ++ ((fw h0 a1 a2 a3 a4 a5 a6 cI u_k.1 u_k.2.1 u_k.2.2.1 u_k.2.2.2.1 u_k.2.2.2.2.1 u_k.2.2.2.2.2.1 u_k.2.2.2.2.2.2) ++ [(o, .inl (cJ, 1, .inr (.inl f)))]))) _ := hP
  have hD0 : va_D (fun q : Nat => s.heap.size ≤ q) ([] ++ ((mw g0 b1 b2 b3 b4 b5 cI cZ y.1 y.2.1 y.2.2.1 y.2.2.2.1 y.2.2.2.2.1 y.2.2.2.2.2.1 y.2.2.2.2.2.2) ++ ((fw h0 a1 a2 a3 a4 a5 a6 cI u_k.1 u_k.2.1 u_k.2.2.1 u_k.2.2.2.1 u_k.2.2.2.2.1 u_k.2.2.2.2.2.1 u_k.2.2.2.2.2.2) ++ [(o, .inl (cJ, 1, .inr (.inl f)))]))) := hD
  have hP : va_P (dC, dI) fmCl ((mw g0 b1 b2 b3 b4 b5 cI cZ u_m.1 u_m.2.1 u_m.2.2.1 u_m.2.2.2.1 u_m.2.2.2.2.1 u_m.2.2.2.2.2.1 u_m.2.2.2.2.2.2) ++ ((fw h0 a1 a2 a3 a4 a5 a6 cI u_k.1 u_k.2.1 u_k.2.2.1 u_k.2.2.2.1 u_k.2.2.2.2.1 u_k.2.2.2.2.2.1 u_k.2.2.2.2.2.2) ++ [(o, .inl (cJ, 1, .inr (.inl f)))])) H := xf_join (a := []) (w := (mw g0 b1 b2 b3 b4 b5 cI cZ y.1 y.2.1 y.2.2.1 y.2.2.2.1 y.2.2.2.2.1 y.2.2.2.2.2.1 y.2.2.2.2.2.2)) (w1 := (mw g0 b1 b2 b3 b4 b5 cI cZ u_m.1 u_m.2.1 u_m.2.2.1 u_m.2.2.2.1 u_m.2.2.2.2.1 u_m.2.2.2.2.2.1 u_m.2.2.2.2.2.2)) (b := ((fw h0 a1 a2 a3 a4 a5 a6 cI u_k.1 u_k.2.1 u_k.2.2.1 u_k.2.2.2.1 u_k.2.2.2.2.1 u_k.2.2.2.2.2.1 u_k.2.2.2.2.2.2) ++ [(o, .inl (cJ, 1, .inr (.inl f)))])) hP0 hD0 hB9 hk9
  have hD : va_D (fun q : Nat => s.heap.size ≤ q) ((mw g0 b1 b2 b3 b4 b5 cI cZ u_m.1 u_m.2.1 u_m.2.2.1 u_m.2.2.2.1 u_m.2.2.2.2.1 u_m.2.2.2.2.2.1 u_m.2.2.2.2.2.2) ++ ((fw h0 a1 a2 a3 a4 a5 a6 cI u_k.1 u_k.2.1 u_k.2.2.1 u_k.2.2.2.1 u_k.2.2.2.2.1 u_k.2.2.2.2.2.1 u_k.2.2.2.2.2.2) ++ [(o, .inl (cJ, 1, .inr (.inl f)))])) := xf_wD hD rfl
  refine lv_icmp_eq (tgt := 636) hx hb dL_law_411 (by decide) (fun c411 => ?_) (fun c411 => ?_)
  ·
    refine W.widen (k := cells + 1) (n := slots + 6) (by omega) (by omega) ?_
    exact K u_k u_m f H locs ls (by rw [show u_k = _ from congrArg Prod.snd hw_k, show u_m = _ from congrArg Prod.snd hw_m]; exact fm_topS x.2.2.2.2.2.1 y.2.2.2.2.1 hI (xs (i + 1)) (xs (i + 2))) hP hD hS (lv_sub hl [0, 1, 2, 3, 4] rfl)
  ·
    exact absurd ((congrArg Prod.fst hw_k).trans ((fm_top x.2.2.2.2.2.1 y.2.2.2.2.1 hI (xs (i + 1)) (xs (i + 2))).trans (congrArg Prod.fst hw_m).symm)) c411
set_option maxHeartbeats 4000000 in
set_option maxRecDepth 100000 in
theorem lc_8 {p : Program} {l : Launch} {e : Env} {s : State} {m : MethodId} {below : List Frame} {meth : Method} {c : Code} {b L : Nat} {xs : Nat → Int32} (hL : L ≤ 2048) (C0 : lw_At p s m meth c b L xs) {dC : Nat → ClassId} {dI : Nat → Nat → Nat} {h0 a1 a2 a3 a4 a5 a6 g0 b1 b2 b3 b4 b5 o : Nat} {cI cZ cJ : ClassId} (x : FcS) (y : MdS) (f : Nat → Int64) {n i : Nat} (hi : i + 4 ≤ L) (hn : n < 2 ^ 30) (hI : fmS x y n) {H : Heap} {locs : List Loc} {cells slots : Nat} (hrc : cells + 1 ≤ room_1.cells) (hrs : slots + 6 ≤ room_1.slots) (hK : va_K (dC, dI) fmCl [(cI, .int), (cZ, .boolean), (cJ, .long)] s) (hP : va_P (dC, dI) fmCl ((mw g0 b1 b2 b3 b4 b5 cI cZ y.1 y.2.1 y.2.2.1 y.2.2.2.1 y.2.2.2.2.1 y.2.2.2.2.2.1 y.2.2.2.2.2.2) ++ ((fw h0 a1 a2 a3 a4 a5 a6 cI x.1 x.2.1 x.2.2.1 x.2.2.2.1 x.2.2.2.2.1 x.2.2.2.2.2.1 x.2.2.2.2.2.2) ++ [(o, .inl (cJ, 1, .inr (.inl f)))])) H) (hD : va_D (fun q : Nat => s.heap.size ≤ q) ((mw g0 b1 b2 b3 b4 b5 cI cZ y.1 y.2.1 y.2.2.1 y.2.2.2.1 y.2.2.2.2.1 y.2.2.2.2.2.1 y.2.2.2.2.2.2) ++ ((fw h0 a1 a2 a3 a4 a5 a6 cI x.1 x.2.1 x.2.2.1 x.2.2.2.1 x.2.2.2.2.1 x.2.2.2.2.2.1 x.2.2.2.2.2.2) ++ [(o, .inl (cJ, 1, .inr (.inl f)))]))) (hS : va_S (fun q : Nat => s.heap.size ≤ q) s.heap H locs) {ls : Array Slot} (hl : lv_has ls 7 [(0, .ref b), (1, .ref h0), (2, .ref g0), (3, .ref o), (4, .int (nI i))])
    (K : ∀ (x' : FcS) (y' : MdS) (f' : Nat → Int64) (H : Heap) (locs : List Loc) (ls : Array Slot), fmS x' y' (n + 1) → va_P (dC, dI) fmCl ((mw g0 b1 b2 b3 b4 b5 cI cZ y'.1 y'.2.1 y'.2.2.1 y'.2.2.2.1 y'.2.2.2.2.1 y'.2.2.2.2.2.1 y'.2.2.2.2.2.2) ++ ((fw h0 a1 a2 a3 a4 a5 a6 cI x'.1 x'.2.1 x'.2.2.1 x'.2.2.2.1 x'.2.2.2.2.1 x'.2.2.2.2.2.1 x'.2.2.2.2.2.2) ++ [(o, .inl (cJ, 1, .inr (.inl f')))])) H → va_D (fun q : Nat => s.heap.size ≤ q) ((mw g0 b1 b2 b3 b4 b5 cI cZ y'.1 y'.2.1 y'.2.2.1 y'.2.2.2.1 y'.2.2.2.2.1 y'.2.2.2.2.2.1 y'.2.2.2.2.2.2) ++ ((fw h0 a1 a2 a3 a4 a5 a6 cI x'.1 x'.2.1 x'.2.2.1 x'.2.2.2.1 x'.2.2.2.2.1 x'.2.2.2.2.2.1 x'.2.2.2.2.2.2) ++ [(o, .inl (cJ, 1, .inr (.inl f')))])) → va_S (fun q : Nat => s.heap.size ≤ q) s.heap H locs → lv_has ls 7 [(0, .ref b), (1, .ref h0), (2, .ref g0), (3, .ref o), (4, .int (nI i))] → W p l e room_1 s m #[Value.ref b] below meth c H locs (cells + 1) (slots + 6) (lw_Z below #[Value.ref b] s) (F0 m 636 ls [])) :
    W p l e room_1 s m #[Value.ref b] below meth c H locs cells slots (lw_Z below #[Value.ref b] s) (F0 m 416 ls []) := by
  obtain ⟨hx, hb, hr, hml, hown, hts, hX, hbl, hlocks, hgv⟩ := C0
  have hbA : ¬ (fun q : Nat => s.heap.size ≤ q) b := Nat.not_le.mpr hbl
  have htsk := fun w h => hts w (wsL_law_in w h)
  have hOk : mdOk y.2.1 := hI.2.1
  have hAc : mdAc y.2.1 := hI.2.2.1
  refine lv_aload_n hx hb dL_law_416 rfl (lv_at hl 1 rfl) ?_
  refine lv_aload_n hx hb dL_law_417 rfl (lv_at hl 0 rfl) ?_
  refine lv_iload hx hb dL_law_418 (lv_at hl 4 rfl) ?_
  refine lv_iconst (v := nI 1) hx hb dL_law_420 (by decide) ?_
  refine lv_iadd hx hb dL_law_421 ?_
  refine xf_be (y := nI (i + 1)) (by exact nI_add _ _) ?_
  refine xf_sld hx hb hX hbl hbA hS (j := (i + 1)) (by omega) (by omega) dL_law_422 ?_
  refine lv_aload_n hx hb dL_law_423 rfl (lv_at hl 0 rfl) ?_
  refine lv_iload hx hb dL_law_424 (lv_at hl 4 rfl) ?_
  refine lv_iconst (v := nI 2) hx hb dL_law_426 (by decide) ?_
  refine lv_iadd hx hb dL_law_427 ?_
  refine xf_be (y := nI (i + 2)) (by exact nI_add _ _) ?_
  refine xf_sld hx hb hX hbl hbA hS (j := (i + 2)) (by omega) (by omega) dL_law_428 ?_
  refine lv_aload_n hx hb dL_law_429 rfl (lv_at hl 0 rfl) ?_
  refine lv_iload hx hb dL_law_430 (lv_at hl 4 rfl) ?_
  refine lv_iconst (v := nI 3) hx hb dL_law_432 (by decide) ?_
  refine lv_iadd hx hb dL_law_433 ?_
  refine xf_be (y := nI (i + 3)) (by exact nI_add _ _) ?_
  refine xf_sld hx hb hX hbl hbA hS (j := (i + 3)) (by omega) (by omega) dL_law_434 ?_
  have hPc : va_P (dC, dI) fmCl (fw h0 a1 a2 a3 a4 a5 a6 cI x.1 x.2.1 x.2.2.1 x.2.2.2.1 x.2.2.2.2.1 x.2.2.2.2.2.1 x.2.2.2.2.2.2) _ := xf_P_left (xf_P_right hP)
  have hDc : va_D (fun q : Nat => s.heap.size ≤ q) (fw h0 a1 a2 a3 a4 a5 a6 cI x.1 x.2.1 x.2.2.1 x.2.2.2.1 x.2.2.2.2.1 x.2.2.2.2.2.1 x.2.2.2.2.2.2) := xf_D_left (xf_D_right hD)
  have hKc := hK.sub (tys' := [(cI, .int)]) [0] rfl
  refine vp_callSi (W.runV (As := [.int (xs (i + 1)), .int (xs (i + 2)), .int (xs (i + 3))]) (rest := []) ⟨hx, hb, hml, hown, htsk⟩ (k_range l dC dI h0 a1 a2 a3 a4 a5 a6 cI x.1 x.2.1 x.2.2.1 x.2.2.2.1 x.2.2.2.2.1 x.2.2.2.2.2.1 x.2.2.2.2.2.2 (xs (i + 1)) (xs (i + 2)) (xs (i + 3))) (cwV 3 htsk gL_law_X0_range rfl rfl rfl (by decide +kernel) ⟨Nat.le_of_ble_eq_true rfl, Nat.le_of_ble_eq_true rfl⟩) (xf_preV (ci := 0) (RX0, TX0, 7) hKc hPc rfl rfl) rfl rfl hl.1 rfl (lv_room (Nat.le_of_ble_eq_true rfl)) dL_law_435 ⟨by omega, by omega⟩) (fun r_k hw_k => ?_)
  refine lv_aload_n hx hb dL_law_438 rfl (lv_at hl 2 rfl) ?_
  refine lv_aload_n hx hb dL_law_439 rfl (lv_at hl 0 rfl) ?_
  refine lv_iload hx hb dL_law_440 (lv_at hl 4 rfl) ?_
  refine lv_iconst (v := nI 1) hx hb dL_law_442 (by decide) ?_
  refine lv_iadd hx hb dL_law_443 ?_
  refine xf_be (y := nI (i + 1)) (by exact nI_add _ _) ?_
  refine xf_sld hx hb hX hbl hbA hS (j := (i + 1)) (by omega) (by omega) dL_law_444 ?_
  refine lv_aload_n hx hb dL_law_445 rfl (lv_at hl 0 rfl) ?_
  refine lv_iload hx hb dL_law_446 (lv_at hl 4 rfl) ?_
  refine lv_iconst (v := nI 2) hx hb dL_law_448 (by decide) ?_
  refine lv_iadd hx hb dL_law_449 ?_
  refine xf_be (y := nI (i + 2)) (by exact nI_add _ _) ?_
  refine xf_sld hx hb hX hbl hbA hS (j := (i + 2)) (by omega) (by omega) dL_law_450 ?_
  refine lv_aload_n hx hb dL_law_451 rfl (lv_at hl 0 rfl) ?_
  refine lv_iload hx hb dL_law_452 (lv_at hl 4 rfl) ?_
  refine lv_iconst (v := nI 3) hx hb dL_law_454 (by decide) ?_
  refine lv_iadd hx hb dL_law_455 ?_
  refine xf_be (y := nI (i + 3)) (by exact nI_add _ _) ?_
  refine xf_sld hx hb hX hbl hbA hS (j := (i + 3)) (by omega) (by omega) dL_law_456 ?_
  have hPc : va_P (dC, dI) fmCl (mw g0 b1 b2 b3 b4 b5 cI cZ y.1 y.2.1 y.2.2.1 y.2.2.2.1 y.2.2.2.2.1 y.2.2.2.2.2.1 y.2.2.2.2.2.2) _ := xf_P_left hP
  have hDc : va_D (fun q : Nat => s.heap.size ≤ q) (mw g0 b1 b2 b3 b4 b5 cI cZ y.1 y.2.1 y.2.2.1 y.2.2.2.1 y.2.2.2.2.1 y.2.2.2.2.2.1 y.2.2.2.2.2.2) := xf_D_left hD
  have hKc := hK.sub (tys' := [(cI, .int), (cZ, .boolean)]) [0, 1] rfl
  have hFc := xf_A_le hDc
  refine va_calli (va_runV (As := [.int (xs (i + 1)), .int (xs (i + 2)), .int (xs (i + 3))]) (rest := [.int r_k]) ⟨hx, hb, hml, hown, hts⟩ (m_range l dC dI g0 b1 b2 b3 b4 b5 cI cZ y.1 y.2.1 y.2.2.1 y.2.2.2.1 y.2.2.2.2.1 y.2.2.2.2.2.1 y.2.2.2.2.2.2 (xs (i + 1)) (xs (i + 2)) (xs (i + 3)) hOk hAc) (cwV 3 hts gL_M_range rfl rfl rfl (by decide +kernel) ⟨Nat.le_of_ble_eq_true rfl, Nat.le_of_ble_eq_true rfl⟩) (xf_preW (ci := 1) (RX1, TM, 7) hKc hPc hDc rfl rfl) rfl rfl hl.1 rfl (lv_room (Nat.le_of_ble_eq_true rfl)) dL_law_457 ⟨by omega, by omega⟩) hS (fun q _ h => hFc q h) hFc (fun r_m u_m t9 H locs ht9 hvm9 hw_m hB9 hz9 hk9 hS => ?_)
  have hB9 := xf_hB ht9 hB9
  have hP0 : va_P (dC, dI) fmCl ([] ++ ((mw g0 b1 b2 b3 b4 b5 cI cZ y.1 y.2.1 y.2.2.1 y.2.2.2.1 y.2.2.2.2.1 y.2.2.2.2.2.1 y.2.2.2.2.2.2) ++ ((fw h0 a1 a2 a3 a4 a5 a6 cI x.1 x.2.1 x.2.2.1 x.2.2.2.1 x.2.2.2.2.1 x.2.2.2.2.2.1 x.2.2.2.2.2.2) ++ [(o, .inl (cJ, 1, .inr (.inl f)))]))) _ := hP
  have hD0 : va_D (fun q : Nat => s.heap.size ≤ q) ([] ++ ((mw g0 b1 b2 b3 b4 b5 cI cZ y.1 y.2.1 y.2.2.1 y.2.2.2.1 y.2.2.2.2.1 y.2.2.2.2.2.1 y.2.2.2.2.2.2) ++ ((fw h0 a1 a2 a3 a4 a5 a6 cI x.1 x.2.1 x.2.2.1 x.2.2.2.1 x.2.2.2.2.1 x.2.2.2.2.2.1 x.2.2.2.2.2.2) ++ [(o, .inl (cJ, 1, .inr (.inl f)))]))) := hD
  have hP : va_P (dC, dI) fmCl ((mw g0 b1 b2 b3 b4 b5 cI cZ u_m.1 u_m.2.1 u_m.2.2.1 u_m.2.2.2.1 u_m.2.2.2.2.1 u_m.2.2.2.2.2.1 u_m.2.2.2.2.2.2) ++ ((fw h0 a1 a2 a3 a4 a5 a6 cI x.1 x.2.1 x.2.2.1 x.2.2.2.1 x.2.2.2.2.1 x.2.2.2.2.2.1 x.2.2.2.2.2.2) ++ [(o, .inl (cJ, 1, .inr (.inl f)))])) H := xf_join (a := []) (w := (mw g0 b1 b2 b3 b4 b5 cI cZ y.1 y.2.1 y.2.2.1 y.2.2.2.1 y.2.2.2.2.1 y.2.2.2.2.2.1 y.2.2.2.2.2.2)) (w1 := (mw g0 b1 b2 b3 b4 b5 cI cZ u_m.1 u_m.2.1 u_m.2.2.1 u_m.2.2.2.1 u_m.2.2.2.2.1 u_m.2.2.2.2.2.1 u_m.2.2.2.2.2.2)) (b := ((fw h0 a1 a2 a3 a4 a5 a6 cI x.1 x.2.1 x.2.2.1 x.2.2.2.1 x.2.2.2.2.1 x.2.2.2.2.2.1 x.2.2.2.2.2.2) ++ [(o, .inl (cJ, 1, .inr (.inl f)))])) hP0 hD0 hB9 hk9
  have hD : va_D (fun q : Nat => s.heap.size ≤ q) ((mw g0 b1 b2 b3 b4 b5 cI cZ u_m.1 u_m.2.1 u_m.2.2.1 u_m.2.2.2.1 u_m.2.2.2.2.1 u_m.2.2.2.2.2.1 u_m.2.2.2.2.2.2) ++ ((fw h0 a1 a2 a3 a4 a5 a6 cI x.1 x.2.1 x.2.2.1 x.2.2.2.1 x.2.2.2.2.1 x.2.2.2.2.2.1 x.2.2.2.2.2.2) ++ [(o, .inl (cJ, 1, .inr (.inl f)))])) := xf_wD hD rfl
  refine lv_icmp_eq (tgt := 636) hx hb dL_law_460 (by decide) (fun c460 => ?_) (fun c460 => ?_)
  ·
    refine W.widen (k := cells + 1) (n := slots + 6) (by omega) (by omega) ?_
    exact K x u_m f H locs ls (by rw [show u_m = _ from congrArg Prod.snd hw_m]; exact fm_more hI) hP hD hS (lv_sub hl [0, 1, 2, 3, 4] rfl)
  ·
    exact absurd (hw_k.trans ((fm_range hI (xs (i + 1)) (xs (i + 2)) (xs (i + 3))).trans (congrArg Prod.fst hw_m).symm)) c460
set_option maxHeartbeats 4000000 in
set_option maxRecDepth 100000 in
theorem lc_9 {p : Program} {l : Launch} {e : Env} {s : State} {m : MethodId} {below : List Frame} {meth : Method} {c : Code} {b L : Nat} {xs : Nat → Int32} (hL : L ≤ 2048) (C0 : lw_At p s m meth c b L xs) {dC : Nat → ClassId} {dI : Nat → Nat → Nat} {h0 a1 a2 a3 a4 a5 a6 g0 b1 b2 b3 b4 b5 o : Nat} {cI cZ cJ : ClassId} (x : FcS) (y : MdS) (f : Nat → Int64) {n i : Nat} (hi : i + 4 ≤ L) (hn : n < 2 ^ 30) (hI : fmS x y n) {H : Heap} {locs : List Loc} {cells slots : Nat} (hrc : cells + 1 ≤ room_1.cells) (hrs : slots + 6 ≤ room_1.slots) (hK : va_K (dC, dI) fmCl [(cI, .int), (cZ, .boolean), (cJ, .long)] s) (hP : va_P (dC, dI) fmCl ((mw g0 b1 b2 b3 b4 b5 cI cZ y.1 y.2.1 y.2.2.1 y.2.2.2.1 y.2.2.2.2.1 y.2.2.2.2.2.1 y.2.2.2.2.2.2) ++ ((fw h0 a1 a2 a3 a4 a5 a6 cI x.1 x.2.1 x.2.2.1 x.2.2.2.1 x.2.2.2.2.1 x.2.2.2.2.2.1 x.2.2.2.2.2.2) ++ [(o, .inl (cJ, 1, .inr (.inl f)))])) H) (hD : va_D (fun q : Nat => s.heap.size ≤ q) ((mw g0 b1 b2 b3 b4 b5 cI cZ y.1 y.2.1 y.2.2.1 y.2.2.2.1 y.2.2.2.2.1 y.2.2.2.2.2.1 y.2.2.2.2.2.2) ++ ((fw h0 a1 a2 a3 a4 a5 a6 cI x.1 x.2.1 x.2.2.1 x.2.2.2.1 x.2.2.2.2.1 x.2.2.2.2.2.1 x.2.2.2.2.2.2) ++ [(o, .inl (cJ, 1, .inr (.inl f)))]))) (hS : va_S (fun q : Nat => s.heap.size ≤ q) s.heap H locs) {ls : Array Slot} (hl : lv_has ls 7 [(0, .ref b), (1, .ref h0), (2, .ref g0), (3, .ref o), (4, .int (nI i))])
    (K : ∀ (x' : FcS) (y' : MdS) (f' : Nat → Int64) (H : Heap) (locs : List Loc) (ls : Array Slot), fmS x' y' (n + 1) → va_P (dC, dI) fmCl ((mw g0 b1 b2 b3 b4 b5 cI cZ y'.1 y'.2.1 y'.2.2.1 y'.2.2.2.1 y'.2.2.2.2.1 y'.2.2.2.2.2.1 y'.2.2.2.2.2.2) ++ ((fw h0 a1 a2 a3 a4 a5 a6 cI x'.1 x'.2.1 x'.2.2.1 x'.2.2.2.1 x'.2.2.2.2.1 x'.2.2.2.2.2.1 x'.2.2.2.2.2.2) ++ [(o, .inl (cJ, 1, .inr (.inl f')))])) H → va_D (fun q : Nat => s.heap.size ≤ q) ((mw g0 b1 b2 b3 b4 b5 cI cZ y'.1 y'.2.1 y'.2.2.1 y'.2.2.2.1 y'.2.2.2.2.1 y'.2.2.2.2.2.1 y'.2.2.2.2.2.2) ++ ((fw h0 a1 a2 a3 a4 a5 a6 cI x'.1 x'.2.1 x'.2.2.1 x'.2.2.2.1 x'.2.2.2.2.1 x'.2.2.2.2.2.1 x'.2.2.2.2.2.2) ++ [(o, .inl (cJ, 1, .inr (.inl f')))])) → va_S (fun q : Nat => s.heap.size ≤ q) s.heap H locs → lv_has ls 7 [(0, .ref b), (1, .ref h0), (2, .ref g0), (3, .ref o), (4, .int (nI i))] → W p l e room_1 s m #[Value.ref b] below meth c H locs (cells + 1) (slots + 6) (lw_Z below #[Value.ref b] s) (F0 m 636 ls [])) :
    W p l e room_1 s m #[Value.ref b] below meth c H locs cells slots (lw_Z below #[Value.ref b] s) (F0 m 465 ls []) := by
  obtain ⟨hx, hb, hr, hml, hown, hts, hX, hbl, hlocks, hgv⟩ := C0
  have hbA : ¬ (fun q : Nat => s.heap.size ≤ q) b := Nat.not_le.mpr hbl
  have htsk := fun w h => hts w (wsL_law_in w h)
  have hOk : mdOk y.2.1 := hI.2.1
  have hAc : mdAc y.2.1 := hI.2.2.1
  refine lv_aload_n hx hb dL_law_465 rfl (lv_at hl 1 rfl) ?_
  refine lv_aload_n hx hb dL_law_466 rfl (lv_at hl 0 rfl) ?_
  refine lv_iload hx hb dL_law_467 (lv_at hl 4 rfl) ?_
  refine lv_iconst (v := nI 1) hx hb dL_law_469 (by decide) ?_
  refine lv_iadd hx hb dL_law_470 ?_
  refine xf_be (y := nI (i + 1)) (by exact nI_add _ _) ?_
  refine xf_sld hx hb hX hbl hbA hS (j := (i + 1)) (by omega) (by omega) dL_law_471 ?_
  refine lv_aload_n hx hb dL_law_472 rfl (lv_at hl 0 rfl) ?_
  refine lv_iload hx hb dL_law_473 (lv_at hl 4 rfl) ?_
  refine lv_iconst (v := nI 2) hx hb dL_law_475 (by decide) ?_
  refine lv_iadd hx hb dL_law_476 ?_
  refine xf_be (y := nI (i + 2)) (by exact nI_add _ _) ?_
  refine xf_sld hx hb hX hbl hbA hS (j := (i + 2)) (by omega) (by omega) dL_law_477 ?_
  refine lv_aload_n hx hb dL_law_478 rfl (lv_at hl 0 rfl) ?_
  refine lv_iload hx hb dL_law_479 (lv_at hl 4 rfl) ?_
  refine lv_iconst (v := nI 3) hx hb dL_law_481 (by decide) ?_
  refine lv_iadd hx hb dL_law_482 ?_
  refine xf_be (y := nI (i + 3)) (by exact nI_add _ _) ?_
  refine xf_sld hx hb hX hbl hbA hS (j := (i + 3)) (by omega) (by omega) dL_law_483 ?_
  have hPc : va_P (dC, dI) fmCl (fw h0 a1 a2 a3 a4 a5 a6 cI x.1 x.2.1 x.2.2.1 x.2.2.2.1 x.2.2.2.2.1 x.2.2.2.2.2.1 x.2.2.2.2.2.2) _ := xf_P_left (xf_P_right hP)
  have hDc : va_D (fun q : Nat => s.heap.size ≤ q) (fw h0 a1 a2 a3 a4 a5 a6 cI x.1 x.2.1 x.2.2.1 x.2.2.2.1 x.2.2.2.2.1 x.2.2.2.2.2.1 x.2.2.2.2.2.2) := xf_D_left (xf_D_right hD)
  have hKc := hK.sub (tys' := [(cI, .int)]) [0] rfl
  refine vp_callSi (W.runV (As := [.int (xs (i + 1)), .int (xs (i + 2)), .int (xs (i + 3))]) (rest := []) ⟨hx, hb, hml, hown, htsk⟩ (k_sum l dC dI h0 a1 a2 a3 a4 a5 a6 cI x.1 x.2.1 x.2.2.1 x.2.2.2.1 x.2.2.2.2.1 x.2.2.2.2.2.1 x.2.2.2.2.2.2 (xs (i + 1)) (xs (i + 2)) (xs (i + 3))) (cwV 3 htsk gL_law_X0_sum rfl rfl rfl (by decide +kernel) ⟨Nat.le_of_ble_eq_true rfl, Nat.le_of_ble_eq_true rfl⟩) (xf_preV (ci := 0) (RX0, TX0, 7) hKc hPc rfl rfl) rfl rfl hl.1 rfl (lv_room (Nat.le_of_ble_eq_true rfl)) dL_law_484 ⟨by omega, by omega⟩) (fun r_k hw_k => ?_)
  refine lv_aload_n hx hb dL_law_487 rfl (lv_at hl 2 rfl) ?_
  refine lv_aload_n hx hb dL_law_488 rfl (lv_at hl 0 rfl) ?_
  refine lv_iload hx hb dL_law_489 (lv_at hl 4 rfl) ?_
  refine lv_iconst (v := nI 1) hx hb dL_law_491 (by decide) ?_
  refine lv_iadd hx hb dL_law_492 ?_
  refine xf_be (y := nI (i + 1)) (by exact nI_add _ _) ?_
  refine xf_sld hx hb hX hbl hbA hS (j := (i + 1)) (by omega) (by omega) dL_law_493 ?_
  refine lv_aload_n hx hb dL_law_494 rfl (lv_at hl 0 rfl) ?_
  refine lv_iload hx hb dL_law_495 (lv_at hl 4 rfl) ?_
  refine lv_iconst (v := nI 2) hx hb dL_law_497 (by decide) ?_
  refine lv_iadd hx hb dL_law_498 ?_
  refine xf_be (y := nI (i + 2)) (by exact nI_add _ _) ?_
  refine xf_sld hx hb hX hbl hbA hS (j := (i + 2)) (by omega) (by omega) dL_law_499 ?_
  refine lv_aload_n hx hb dL_law_500 rfl (lv_at hl 0 rfl) ?_
  refine lv_iload hx hb dL_law_501 (lv_at hl 4 rfl) ?_
  refine lv_iconst (v := nI 3) hx hb dL_law_503 (by decide) ?_
  refine lv_iadd hx hb dL_law_504 ?_
  refine xf_be (y := nI (i + 3)) (by exact nI_add _ _) ?_
  refine xf_sld hx hb hX hbl hbA hS (j := (i + 3)) (by omega) (by omega) dL_law_505 ?_
  have hPc : va_P (dC, dI) fmCl (mw g0 b1 b2 b3 b4 b5 cI cZ y.1 y.2.1 y.2.2.1 y.2.2.2.1 y.2.2.2.2.1 y.2.2.2.2.2.1 y.2.2.2.2.2.2) _ := xf_P_left hP
  have hDc : va_D (fun q : Nat => s.heap.size ≤ q) (mw g0 b1 b2 b3 b4 b5 cI cZ y.1 y.2.1 y.2.2.1 y.2.2.2.1 y.2.2.2.2.1 y.2.2.2.2.2.1 y.2.2.2.2.2.2) := xf_D_left hD
  have hKc := hK.sub (tys' := [(cI, .int), (cZ, .boolean)]) [0, 1] rfl
  have hFc := xf_A_le hDc
  refine va_calli (va_runV (As := [.int (xs (i + 1)), .int (xs (i + 2)), .int (xs (i + 3))]) (rest := [.int r_k]) ⟨hx, hb, hml, hown, hts⟩ (m_sum l dC dI g0 b1 b2 b3 b4 b5 cI cZ y.1 y.2.1 y.2.2.1 y.2.2.2.1 y.2.2.2.2.1 y.2.2.2.2.2.1 y.2.2.2.2.2.2 (xs (i + 1)) (xs (i + 2)) (xs (i + 3)) hOk hAc) (cwV 3 hts gL_M_sum rfl rfl rfl (by decide +kernel) ⟨Nat.le_of_ble_eq_true rfl, Nat.le_of_ble_eq_true rfl⟩) (xf_preW (ci := 1) (RX1, TM, 7) hKc hPc hDc rfl rfl) rfl rfl hl.1 rfl (lv_room (Nat.le_of_ble_eq_true rfl)) dL_law_506 ⟨by omega, by omega⟩) hS (fun q _ h => hFc q h) hFc (fun r_m u_m t9 H locs ht9 hvm9 hw_m hB9 hz9 hk9 hS => ?_)
  have hB9 := xf_hB ht9 hB9
  have hP0 : va_P (dC, dI) fmCl ([] ++ ((mw g0 b1 b2 b3 b4 b5 cI cZ y.1 y.2.1 y.2.2.1 y.2.2.2.1 y.2.2.2.2.1 y.2.2.2.2.2.1 y.2.2.2.2.2.2) ++ ((fw h0 a1 a2 a3 a4 a5 a6 cI x.1 x.2.1 x.2.2.1 x.2.2.2.1 x.2.2.2.2.1 x.2.2.2.2.2.1 x.2.2.2.2.2.2) ++ [(o, .inl (cJ, 1, .inr (.inl f)))]))) _ := hP
  have hD0 : va_D (fun q : Nat => s.heap.size ≤ q) ([] ++ ((mw g0 b1 b2 b3 b4 b5 cI cZ y.1 y.2.1 y.2.2.1 y.2.2.2.1 y.2.2.2.2.1 y.2.2.2.2.2.1 y.2.2.2.2.2.2) ++ ((fw h0 a1 a2 a3 a4 a5 a6 cI x.1 x.2.1 x.2.2.1 x.2.2.2.1 x.2.2.2.2.1 x.2.2.2.2.2.1 x.2.2.2.2.2.2) ++ [(o, .inl (cJ, 1, .inr (.inl f)))]))) := hD
  have hP : va_P (dC, dI) fmCl ((mw g0 b1 b2 b3 b4 b5 cI cZ u_m.1 u_m.2.1 u_m.2.2.1 u_m.2.2.2.1 u_m.2.2.2.2.1 u_m.2.2.2.2.2.1 u_m.2.2.2.2.2.2) ++ ((fw h0 a1 a2 a3 a4 a5 a6 cI x.1 x.2.1 x.2.2.1 x.2.2.2.1 x.2.2.2.2.1 x.2.2.2.2.2.1 x.2.2.2.2.2.2) ++ [(o, .inl (cJ, 1, .inr (.inl f)))])) H := xf_join (a := []) (w := (mw g0 b1 b2 b3 b4 b5 cI cZ y.1 y.2.1 y.2.2.1 y.2.2.2.1 y.2.2.2.2.1 y.2.2.2.2.2.1 y.2.2.2.2.2.2)) (w1 := (mw g0 b1 b2 b3 b4 b5 cI cZ u_m.1 u_m.2.1 u_m.2.2.1 u_m.2.2.2.1 u_m.2.2.2.2.1 u_m.2.2.2.2.2.1 u_m.2.2.2.2.2.2)) (b := ((fw h0 a1 a2 a3 a4 a5 a6 cI x.1 x.2.1 x.2.2.1 x.2.2.2.1 x.2.2.2.2.1 x.2.2.2.2.2.1 x.2.2.2.2.2.2) ++ [(o, .inl (cJ, 1, .inr (.inl f)))])) hP0 hD0 hB9 hk9
  have hD : va_D (fun q : Nat => s.heap.size ≤ q) ((mw g0 b1 b2 b3 b4 b5 cI cZ u_m.1 u_m.2.1 u_m.2.2.1 u_m.2.2.2.1 u_m.2.2.2.2.1 u_m.2.2.2.2.2.1 u_m.2.2.2.2.2.2) ++ ((fw h0 a1 a2 a3 a4 a5 a6 cI x.1 x.2.1 x.2.2.1 x.2.2.2.1 x.2.2.2.2.1 x.2.2.2.2.2.1 x.2.2.2.2.2.2) ++ [(o, .inl (cJ, 1, .inr (.inl f)))])) := xf_wD hD rfl
  refine lv_icmp_eq (tgt := 636) hx hb dL_law_509 (by decide) (fun c509 => ?_) (fun c509 => ?_)
  ·
    refine W.widen (k := cells + 1) (n := slots + 6) (by omega) (by omega) ?_
    exact K x u_m f H locs ls (by rw [show u_m = _ from congrArg Prod.snd hw_m]; exact fm_more hI) hP hD hS (lv_sub hl [0, 1, 2, 3, 4] rfl)
  ·
    exact absurd (hw_k.trans ((fm_sum hI (xs (i + 1)) (xs (i + 2)) (xs (i + 3))).trans (congrArg Prod.fst hw_m).symm)) c509
set_option maxHeartbeats 4000000 in
set_option maxRecDepth 100000 in
theorem lc_11 {p : Program} {l : Launch} {e : Env} {s : State} {m : MethodId} {below : List Frame} {meth : Method} {c : Code} {b L : Nat} {xs : Nat → Int32} (hL : L ≤ 2048) (C0 : lw_At p s m meth c b L xs) {dC : Nat → ClassId} {dI : Nat → Nat → Nat} {h0 a1 a2 a3 a4 a5 a6 g0 b1 b2 b3 b4 b5 o : Nat} {cI cZ cJ : ClassId} (x : FcS) (y : MdS) (f : Nat → Int64) {n i : Nat} (hi : i + 4 ≤ L) (hn : n < 2 ^ 30) (hI : fmS x y n) {H : Heap} {locs : List Loc} {cells slots : Nat} (hrc : cells + 1 ≤ room_1.cells) (hrs : slots + 6 ≤ room_1.slots) (hK : va_K (dC, dI) fmCl [(cI, .int), (cZ, .boolean), (cJ, .long)] s) (hP : va_P (dC, dI) fmCl ((mw g0 b1 b2 b3 b4 b5 cI cZ y.1 y.2.1 y.2.2.1 y.2.2.2.1 y.2.2.2.2.1 y.2.2.2.2.2.1 y.2.2.2.2.2.2) ++ ((fw h0 a1 a2 a3 a4 a5 a6 cI x.1 x.2.1 x.2.2.1 x.2.2.2.1 x.2.2.2.2.1 x.2.2.2.2.2.1 x.2.2.2.2.2.2) ++ [(o, .inl (cJ, 1, .inr (.inl f)))])) H) (hD : va_D (fun q : Nat => s.heap.size ≤ q) ((mw g0 b1 b2 b3 b4 b5 cI cZ y.1 y.2.1 y.2.2.1 y.2.2.2.1 y.2.2.2.2.1 y.2.2.2.2.2.1 y.2.2.2.2.2.2) ++ ((fw h0 a1 a2 a3 a4 a5 a6 cI x.1 x.2.1 x.2.2.1 x.2.2.2.1 x.2.2.2.2.1 x.2.2.2.2.2.1 x.2.2.2.2.2.2) ++ [(o, .inl (cJ, 1, .inr (.inl f)))]))) (hS : va_S (fun q : Nat => s.heap.size ≤ q) s.heap H locs) {ls : Array Slot} (hl : lv_has ls 7 [(0, .ref b), (1, .ref h0), (2, .ref g0), (3, .ref o), (4, .int (nI i))])
    (K : ∀ (x' : FcS) (y' : MdS) (f' : Nat → Int64) (H : Heap) (locs : List Loc) (ls : Array Slot), fmS x' y' (n + 1) → va_P (dC, dI) fmCl ((mw g0 b1 b2 b3 b4 b5 cI cZ y'.1 y'.2.1 y'.2.2.1 y'.2.2.2.1 y'.2.2.2.2.1 y'.2.2.2.2.2.1 y'.2.2.2.2.2.2) ++ ((fw h0 a1 a2 a3 a4 a5 a6 cI x'.1 x'.2.1 x'.2.2.1 x'.2.2.2.1 x'.2.2.2.2.1 x'.2.2.2.2.2.1 x'.2.2.2.2.2.2) ++ [(o, .inl (cJ, 1, .inr (.inl f')))])) H → va_D (fun q : Nat => s.heap.size ≤ q) ((mw g0 b1 b2 b3 b4 b5 cI cZ y'.1 y'.2.1 y'.2.2.1 y'.2.2.2.1 y'.2.2.2.2.1 y'.2.2.2.2.2.1 y'.2.2.2.2.2.2) ++ ((fw h0 a1 a2 a3 a4 a5 a6 cI x'.1 x'.2.1 x'.2.2.1 x'.2.2.2.1 x'.2.2.2.2.1 x'.2.2.2.2.2.1 x'.2.2.2.2.2.2) ++ [(o, .inl (cJ, 1, .inr (.inl f')))])) → va_S (fun q : Nat => s.heap.size ≤ q) s.heap H locs → lv_has ls 7 [(0, .ref b), (1, .ref h0), (2, .ref g0), (3, .ref o), (4, .int (nI i))] → W p l e room_1 s m #[Value.ref b] below meth c H locs (cells + 1) (slots + 6) (lw_Z below #[Value.ref b] s) (F0 m 636 ls [])) :
    W p l e room_1 s m #[Value.ref b] below meth c H locs cells slots (lw_Z below #[Value.ref b] s) (F0 m 610 ls []) := by
  obtain ⟨hx, hb, hr, hml, hown, hts, hX, hbl, hlocks, hgv⟩ := C0
  have hbA : ¬ (fun q : Nat => s.heap.size ≤ q) b := Nat.not_le.mpr hbl
  have htsk := fun w h => hts w (wsL_law_in w h)
  have hOk : mdOk y.2.1 := hI.2.1
  have hAc : mdAc y.2.1 := hI.2.2.1
  refine lv_aload_n hx hb dL_law_610 rfl (lv_at hl 1 rfl) ?_
  have hPc : va_P (dC, dI) fmCl (fw h0 a1 a2 a3 a4 a5 a6 cI x.1 x.2.1 x.2.2.1 x.2.2.2.1 x.2.2.2.2.1 x.2.2.2.2.2.1 x.2.2.2.2.2.2) _ := xf_P_left (xf_P_right hP)
  have hDc : va_D (fun q : Nat => s.heap.size ≤ q) (fw h0 a1 a2 a3 a4 a5 a6 cI x.1 x.2.1 x.2.2.1 x.2.2.2.1 x.2.2.2.2.1 x.2.2.2.2.2.1 x.2.2.2.2.2.2) := xf_D_left (xf_D_right hD)
  have hKc := hK.sub (tys' := [(cI, .int)]) [0] rfl
  have hFc := xf_A_le hDc
  refine va_calli (va_runV (As := []) (rest := []) ⟨hx, hb, hml, hown, htsk⟩ (k_changed l dC dI h0 a1 a2 a3 a4 a5 a6 cI x.1 x.2.1 x.2.2.1 x.2.2.2.1 x.2.2.2.2.1 x.2.2.2.2.2.1 x.2.2.2.2.2.2 ) (cwV 0 htsk gL_law_X0_changed rfl rfl rfl (by decide +kernel) ⟨Nat.le_of_ble_eq_true rfl, Nat.le_of_ble_eq_true rfl⟩) (xf_preW (ci := 0) (RX0, TX0, 7) hKc hPc hDc rfl rfl) rfl rfl hl.1 rfl (lv_room (Nat.le_of_ble_eq_true rfl)) dL_law_611 ⟨by omega, by omega⟩) hS (fun q _ h => hFc q h) hFc (fun r_k u_k t9 H locs ht9 hvm9 hw_k hB9 hz9 hk9 hS => ?_)
  have hB9 := xf_hB ht9 hB9
  have hP : va_P (dC, dI) fmCl ((mw g0 b1 b2 b3 b4 b5 cI cZ y.1 y.2.1 y.2.2.1 y.2.2.2.1 y.2.2.2.2.1 y.2.2.2.2.2.1 y.2.2.2.2.2.2) ++ ((fw h0 a1 a2 a3 a4 a5 a6 cI u_k.1 u_k.2.1 u_k.2.2.1 u_k.2.2.2.1 u_k.2.2.2.2.1 u_k.2.2.2.2.2.1 u_k.2.2.2.2.2.2) ++ [(o, .inl (cJ, 1, .inr (.inl f)))])) H := xf_join (a := (mw g0 b1 b2 b3 b4 b5 cI cZ y.1 y.2.1 y.2.2.1 y.2.2.2.1 y.2.2.2.2.1 y.2.2.2.2.2.1 y.2.2.2.2.2.2)) (w := (fw h0 a1 a2 a3 a4 a5 a6 cI x.1 x.2.1 x.2.2.1 x.2.2.2.1 x.2.2.2.2.1 x.2.2.2.2.2.1 x.2.2.2.2.2.2)) (w1 := (fw h0 a1 a2 a3 a4 a5 a6 cI u_k.1 u_k.2.1 u_k.2.2.1 u_k.2.2.2.1 u_k.2.2.2.2.1 u_k.2.2.2.2.2.1 u_k.2.2.2.2.2.2)) (b := [(o, .inl (cJ, 1, .inr (.inl f)))]) hP hD hB9 hk9
  have hD : va_D (fun q : Nat => s.heap.size ≤ q) ((mw g0 b1 b2 b3 b4 b5 cI cZ y.1 y.2.1 y.2.2.1 y.2.2.2.1 y.2.2.2.2.1 y.2.2.2.2.2.1 y.2.2.2.2.2.2) ++ ((fw h0 a1 a2 a3 a4 a5 a6 cI u_k.1 u_k.2.1 u_k.2.2.1 u_k.2.2.2.1 u_k.2.2.2.2.1 u_k.2.2.2.2.2.1 u_k.2.2.2.2.2.2) ++ [(o, .inl (cJ, 1, .inr (.inl f)))])) := xf_wD hD rfl
  refine lv_aload_n hx hb dL_law_614 rfl (lv_at hl 2 rfl) ?_
  have hPc : va_P (dC, dI) fmCl (mw g0 b1 b2 b3 b4 b5 cI cZ y.1 y.2.1 y.2.2.1 y.2.2.2.1 y.2.2.2.2.1 y.2.2.2.2.2.1 y.2.2.2.2.2.2) _ := xf_P_left hP
  have hDc : va_D (fun q : Nat => s.heap.size ≤ q) (mw g0 b1 b2 b3 b4 b5 cI cZ y.1 y.2.1 y.2.2.1 y.2.2.2.1 y.2.2.2.2.1 y.2.2.2.2.2.1 y.2.2.2.2.2.2) := xf_D_left hD
  have hKc := hK.sub (tys' := [(cI, .int), (cZ, .boolean)]) [0, 1] rfl
  have hFc := xf_A_le hDc
  refine va_calli (va_runV (As := []) (rest := [.int r_k]) ⟨hx, hb, hml, hown, hts⟩ (m_changed l dC dI g0 b1 b2 b3 b4 b5 cI cZ y.1 y.2.1 y.2.2.1 y.2.2.2.1 y.2.2.2.2.1 y.2.2.2.2.2.1 y.2.2.2.2.2.2 hOk hAc) (cwV 0 hts gL_M_changed rfl rfl rfl (by decide +kernel) ⟨Nat.le_of_ble_eq_true rfl, Nat.le_of_ble_eq_true rfl⟩) (xf_preW (ci := 1) (RX1, TM, 7) hKc hPc hDc rfl rfl) rfl rfl hl.1 rfl (lv_room (Nat.le_of_ble_eq_true rfl)) dL_law_615 ⟨by omega, by omega⟩) hS (fun q _ h => hFc q h) hFc (fun r_m u_m t9 H locs ht9 hvm9 hw_m hB9 hz9 hk9 hS => ?_)
  have hB9 := xf_hB ht9 hB9
  have hP0 : va_P (dC, dI) fmCl ([] ++ ((mw g0 b1 b2 b3 b4 b5 cI cZ y.1 y.2.1 y.2.2.1 y.2.2.2.1 y.2.2.2.2.1 y.2.2.2.2.2.1 y.2.2.2.2.2.2) ++ ((fw h0 a1 a2 a3 a4 a5 a6 cI u_k.1 u_k.2.1 u_k.2.2.1 u_k.2.2.2.1 u_k.2.2.2.2.1 u_k.2.2.2.2.2.1 u_k.2.2.2.2.2.2) ++ [(o, .inl (cJ, 1, .inr (.inl f)))]))) _ := hP
  have hD0 : va_D (fun q : Nat => s.heap.size ≤ q) ([] ++ ((mw g0 b1 b2 b3 b4 b5 cI cZ y.1 y.2.1 y.2.2.1 y.2.2.2.1 y.2.2.2.2.1 y.2.2.2.2.2.1 y.2.2.2.2.2.2) ++ ((fw h0 a1 a2 a3 a4 a5 a6 cI u_k.1 u_k.2.1 u_k.2.2.1 u_k.2.2.2.1 u_k.2.2.2.2.1 u_k.2.2.2.2.2.1 u_k.2.2.2.2.2.2) ++ [(o, .inl (cJ, 1, .inr (.inl f)))]))) := hD
  have hP : va_P (dC, dI) fmCl ((mw g0 b1 b2 b3 b4 b5 cI cZ u_m.1 u_m.2.1 u_m.2.2.1 u_m.2.2.2.1 u_m.2.2.2.2.1 u_m.2.2.2.2.2.1 u_m.2.2.2.2.2.2) ++ ((fw h0 a1 a2 a3 a4 a5 a6 cI u_k.1 u_k.2.1 u_k.2.2.1 u_k.2.2.2.1 u_k.2.2.2.2.1 u_k.2.2.2.2.2.1 u_k.2.2.2.2.2.2) ++ [(o, .inl (cJ, 1, .inr (.inl f)))])) H := xf_join (a := []) (w := (mw g0 b1 b2 b3 b4 b5 cI cZ y.1 y.2.1 y.2.2.1 y.2.2.2.1 y.2.2.2.2.1 y.2.2.2.2.2.1 y.2.2.2.2.2.2)) (w1 := (mw g0 b1 b2 b3 b4 b5 cI cZ u_m.1 u_m.2.1 u_m.2.2.1 u_m.2.2.2.1 u_m.2.2.2.2.1 u_m.2.2.2.2.2.1 u_m.2.2.2.2.2.2)) (b := ((fw h0 a1 a2 a3 a4 a5 a6 cI u_k.1 u_k.2.1 u_k.2.2.1 u_k.2.2.2.1 u_k.2.2.2.2.1 u_k.2.2.2.2.2.1 u_k.2.2.2.2.2.2) ++ [(o, .inl (cJ, 1, .inr (.inl f)))])) hP0 hD0 hB9 hk9
  have hD : va_D (fun q : Nat => s.heap.size ≤ q) ((mw g0 b1 b2 b3 b4 b5 cI cZ u_m.1 u_m.2.1 u_m.2.2.1 u_m.2.2.2.1 u_m.2.2.2.2.1 u_m.2.2.2.2.2.1 u_m.2.2.2.2.2.2) ++ ((fw h0 a1 a2 a3 a4 a5 a6 cI u_k.1 u_k.2.1 u_k.2.2.1 u_k.2.2.2.1 u_k.2.2.2.2.1 u_k.2.2.2.2.2.1 u_k.2.2.2.2.2.2) ++ [(o, .inl (cJ, 1, .inr (.inl f)))])) := xf_wD hD rfl
  refine lv_icmp_eq (tgt := 636) hx hb dL_law_618 (by decide) (fun c618 => ?_) (fun c618 => ?_)
  ·
    refine W.widen (k := cells + 1) (n := slots + 6) (by omega) (by omega) ?_
    exact K u_k u_m f H locs ls (by rw [show u_k = _ from congrArg Prod.snd hw_k, show u_m = _ from congrArg Prod.snd hw_m]; exact (fm_changed x.2.2.2.2.2.1 y.2.2.2.2.1 hI).2) hP hD hS (lv_sub hl [0, 1, 2, 3, 4] rfl)
  ·
    exact absurd ((congrArg Prod.fst hw_k).trans (((fm_changed x.2.2.2.2.2.1 y.2.2.2.2.1 hI).1).trans (congrArg Prod.fst hw_m).symm)) c618
set_option maxHeartbeats 4000000 in
set_option maxRecDepth 100000 in
theorem lc_12 {p : Program} {l : Launch} {e : Env} {s : State} {m : MethodId} {below : List Frame} {meth : Method} {c : Code} {b L : Nat} {xs : Nat → Int32} (hL : L ≤ 2048) (C0 : lw_At p s m meth c b L xs) {dC : Nat → ClassId} {dI : Nat → Nat → Nat} {h0 a1 a2 a3 a4 a5 a6 g0 b1 b2 b3 b4 b5 o : Nat} {cI cZ cJ : ClassId} (x : FcS) (y : MdS) (f : Nat → Int64) {n i : Nat} (hi : i + 4 ≤ L) (hn : n < 2 ^ 30) (hI : fmS x y n) {H : Heap} {locs : List Loc} {cells slots : Nat} (hrc : cells + 1 ≤ room_1.cells) (hrs : slots + 6 ≤ room_1.slots) (hK : va_K (dC, dI) fmCl [(cI, .int), (cZ, .boolean), (cJ, .long)] s) (hP : va_P (dC, dI) fmCl ((mw g0 b1 b2 b3 b4 b5 cI cZ y.1 y.2.1 y.2.2.1 y.2.2.2.1 y.2.2.2.2.1 y.2.2.2.2.2.1 y.2.2.2.2.2.2) ++ ((fw h0 a1 a2 a3 a4 a5 a6 cI x.1 x.2.1 x.2.2.1 x.2.2.2.1 x.2.2.2.2.1 x.2.2.2.2.2.1 x.2.2.2.2.2.2) ++ [(o, .inl (cJ, 1, .inr (.inl f)))])) H) (hD : va_D (fun q : Nat => s.heap.size ≤ q) ((mw g0 b1 b2 b3 b4 b5 cI cZ y.1 y.2.1 y.2.2.1 y.2.2.2.1 y.2.2.2.2.1 y.2.2.2.2.2.1 y.2.2.2.2.2.2) ++ ((fw h0 a1 a2 a3 a4 a5 a6 cI x.1 x.2.1 x.2.2.1 x.2.2.2.1 x.2.2.2.2.1 x.2.2.2.2.2.1 x.2.2.2.2.2.2) ++ [(o, .inl (cJ, 1, .inr (.inl f)))]))) (hS : va_S (fun q : Nat => s.heap.size ≤ q) s.heap H locs) {ls : Array Slot} (hl : lv_has ls 7 [(0, .ref b), (1, .ref h0), (2, .ref g0), (3, .ref o), (4, .int (nI i))])
    (K : ∀ (x' : FcS) (y' : MdS) (f' : Nat → Int64) (H : Heap) (locs : List Loc) (ls : Array Slot), fmS x' y' (n + 1) → va_P (dC, dI) fmCl ((mw g0 b1 b2 b3 b4 b5 cI cZ y'.1 y'.2.1 y'.2.2.1 y'.2.2.2.1 y'.2.2.2.2.1 y'.2.2.2.2.2.1 y'.2.2.2.2.2.2) ++ ((fw h0 a1 a2 a3 a4 a5 a6 cI x'.1 x'.2.1 x'.2.2.1 x'.2.2.2.1 x'.2.2.2.2.1 x'.2.2.2.2.2.1 x'.2.2.2.2.2.2) ++ [(o, .inl (cJ, 1, .inr (.inl f')))])) H → va_D (fun q : Nat => s.heap.size ≤ q) ((mw g0 b1 b2 b3 b4 b5 cI cZ y'.1 y'.2.1 y'.2.2.1 y'.2.2.2.1 y'.2.2.2.2.1 y'.2.2.2.2.2.1 y'.2.2.2.2.2.2) ++ ((fw h0 a1 a2 a3 a4 a5 a6 cI x'.1 x'.2.1 x'.2.2.1 x'.2.2.2.1 x'.2.2.2.2.1 x'.2.2.2.2.2.1 x'.2.2.2.2.2.2) ++ [(o, .inl (cJ, 1, .inr (.inl f')))])) → va_S (fun q : Nat => s.heap.size ≤ q) s.heap H locs → lv_has ls 7 [(0, .ref b), (1, .ref h0), (2, .ref g0), (3, .ref o), (4, .int (nI i))] → W p l e room_1 s m #[Value.ref b] below meth c H locs (cells + 1) (slots + 6) (lw_Z below #[Value.ref b] s) (F0 m 636 ls [])) :
    W p l e room_1 s m #[Value.ref b] below meth c H locs cells slots (lw_Z below #[Value.ref b] s) (F0 m 623 ls []) := by
  obtain ⟨hx, hb, hr, hml, hown, hts, hX, hbl, hlocks, hgv⟩ := C0
  have hbA : ¬ (fun q : Nat => s.heap.size ≤ q) b := Nat.not_le.mpr hbl
  have htsk := fun w h => hts w (wsL_law_in w h)
  have hOk : mdOk y.2.1 := hI.2.1
  have hAc : mdAc y.2.1 := hI.2.2.1
  refine lv_aload_n hx hb dL_law_623 rfl (lv_at hl 1 rfl) ?_
  have hPc : va_P (dC, dI) fmCl (fw h0 a1 a2 a3 a4 a5 a6 cI x.1 x.2.1 x.2.2.1 x.2.2.2.1 x.2.2.2.2.1 x.2.2.2.2.2.1 x.2.2.2.2.2.2) _ := xf_P_left (xf_P_right hP)
  have hDc : va_D (fun q : Nat => s.heap.size ≤ q) (fw h0 a1 a2 a3 a4 a5 a6 cI x.1 x.2.1 x.2.2.1 x.2.2.2.1 x.2.2.2.2.1 x.2.2.2.2.2.1 x.2.2.2.2.2.2) := xf_D_left (xf_D_right hD)
  have hKc := hK.sub (tys' := [(cI, .int)]) [0] rfl
  refine vp_callSi (W.runV (As := []) (rest := []) ⟨hx, hb, hml, hown, htsk⟩ (k_rows l dC dI h0 a1 a2 a3 a4 a5 a6 cI x.1 x.2.1 x.2.2.1 x.2.2.2.1 x.2.2.2.2.1 x.2.2.2.2.2.1 x.2.2.2.2.2.2 ) (cwV 0 htsk gL_law_X0_rows rfl rfl rfl (by decide +kernel) ⟨Nat.le_of_ble_eq_true rfl, Nat.le_of_ble_eq_true rfl⟩) (xf_preV (ci := 0) (RX0, TX0, 7) hKc hPc rfl rfl) rfl rfl hl.1 rfl (lv_room (Nat.le_of_ble_eq_true rfl)) dL_law_624 ⟨by omega, by omega⟩) (fun r_k hw_k => ?_)
  refine lv_aload_n hx hb dL_law_627 rfl (lv_at hl 2 rfl) ?_
  have hPc : va_P (dC, dI) fmCl (mw g0 b1 b2 b3 b4 b5 cI cZ y.1 y.2.1 y.2.2.1 y.2.2.2.1 y.2.2.2.2.1 y.2.2.2.2.2.1 y.2.2.2.2.2.2) _ := xf_P_left hP
  have hDc : va_D (fun q : Nat => s.heap.size ≤ q) (mw g0 b1 b2 b3 b4 b5 cI cZ y.1 y.2.1 y.2.2.1 y.2.2.2.1 y.2.2.2.2.1 y.2.2.2.2.2.1 y.2.2.2.2.2.2) := xf_D_left hD
  have hKc := hK.sub (tys' := [(cI, .int), (cZ, .boolean)]) [0, 1] rfl
  have hFc := xf_A_le hDc
  refine va_calli (va_runV (As := []) (rest := [.int r_k]) ⟨hx, hb, hml, hown, hts⟩ (m_rows l dC dI g0 b1 b2 b3 b4 b5 cI cZ y.1 y.2.1 y.2.2.1 y.2.2.2.1 y.2.2.2.2.1 y.2.2.2.2.2.1 y.2.2.2.2.2.2 ) (cwV 0 hts gL_M_rows rfl rfl rfl (by decide +kernel) ⟨Nat.le_of_ble_eq_true rfl, Nat.le_of_ble_eq_true rfl⟩) (xf_preW (ci := 1) (RX1, TM, 7) hKc hPc hDc rfl rfl) rfl rfl hl.1 rfl (lv_room (Nat.le_of_ble_eq_true rfl)) dL_law_628 ⟨by omega, by omega⟩) hS (fun q _ h => hFc q h) hFc (fun r_m u_m t9 H locs ht9 hvm9 hw_m hB9 hz9 hk9 hS => ?_)
  have hB9 := xf_hB ht9 hB9
  have hP0 : va_P (dC, dI) fmCl ([] ++ ((mw g0 b1 b2 b3 b4 b5 cI cZ y.1 y.2.1 y.2.2.1 y.2.2.2.1 y.2.2.2.2.1 y.2.2.2.2.2.1 y.2.2.2.2.2.2) ++ ((fw h0 a1 a2 a3 a4 a5 a6 cI x.1 x.2.1 x.2.2.1 x.2.2.2.1 x.2.2.2.2.1 x.2.2.2.2.2.1 x.2.2.2.2.2.2) ++ [(o, .inl (cJ, 1, .inr (.inl f)))]))) _ := hP
  have hD0 : va_D (fun q : Nat => s.heap.size ≤ q) ([] ++ ((mw g0 b1 b2 b3 b4 b5 cI cZ y.1 y.2.1 y.2.2.1 y.2.2.2.1 y.2.2.2.2.1 y.2.2.2.2.2.1 y.2.2.2.2.2.2) ++ ((fw h0 a1 a2 a3 a4 a5 a6 cI x.1 x.2.1 x.2.2.1 x.2.2.2.1 x.2.2.2.2.1 x.2.2.2.2.2.1 x.2.2.2.2.2.2) ++ [(o, .inl (cJ, 1, .inr (.inl f)))]))) := hD
  have hP : va_P (dC, dI) fmCl ((mw g0 b1 b2 b3 b4 b5 cI cZ u_m.1 u_m.2.1 u_m.2.2.1 u_m.2.2.2.1 u_m.2.2.2.2.1 u_m.2.2.2.2.2.1 u_m.2.2.2.2.2.2) ++ ((fw h0 a1 a2 a3 a4 a5 a6 cI x.1 x.2.1 x.2.2.1 x.2.2.2.1 x.2.2.2.2.1 x.2.2.2.2.2.1 x.2.2.2.2.2.2) ++ [(o, .inl (cJ, 1, .inr (.inl f)))])) H := xf_join (a := []) (w := (mw g0 b1 b2 b3 b4 b5 cI cZ y.1 y.2.1 y.2.2.1 y.2.2.2.1 y.2.2.2.2.1 y.2.2.2.2.2.1 y.2.2.2.2.2.2)) (w1 := (mw g0 b1 b2 b3 b4 b5 cI cZ u_m.1 u_m.2.1 u_m.2.2.1 u_m.2.2.2.1 u_m.2.2.2.2.1 u_m.2.2.2.2.2.1 u_m.2.2.2.2.2.2)) (b := ((fw h0 a1 a2 a3 a4 a5 a6 cI x.1 x.2.1 x.2.2.1 x.2.2.2.1 x.2.2.2.2.1 x.2.2.2.2.2.1 x.2.2.2.2.2.2) ++ [(o, .inl (cJ, 1, .inr (.inl f)))])) hP0 hD0 hB9 hk9
  have hD : va_D (fun q : Nat => s.heap.size ≤ q) ((mw g0 b1 b2 b3 b4 b5 cI cZ u_m.1 u_m.2.1 u_m.2.2.1 u_m.2.2.2.1 u_m.2.2.2.2.1 u_m.2.2.2.2.2.1 u_m.2.2.2.2.2.2) ++ ((fw h0 a1 a2 a3 a4 a5 a6 cI x.1 x.2.1 x.2.2.1 x.2.2.2.1 x.2.2.2.2.1 x.2.2.2.2.2.1 x.2.2.2.2.2.2) ++ [(o, .inl (cJ, 1, .inr (.inl f)))])) := xf_wD hD rfl
  refine lv_icmp_eq (tgt := 636) hx hb dL_law_631 (by decide) (fun c631 => ?_) (fun c631 => ?_)
  ·
    refine W.widen (k := cells + 1) (n := slots + 6) (by omega) (by omega) ?_
    exact K x u_m f H locs ls (by rw [show u_m = _ from congrArg Prod.snd hw_m]; exact fm_more hI) hP hD hS (lv_sub hl [0, 1, 2, 3, 4] rfl)
  ·
    exact absurd (hw_k.trans ((hI.2.2.2.2.2.2.2.1).trans (congrArg Prod.fst hw_m).symm)) c631
