set_option maxHeartbeats 4000000 in
set_option maxRecDepth 100000 in
theorem lc_10 {p : Program} {l : Launch} {e : Env} {s : State} {m : MethodId} {below : List Frame} {meth : Method} {c : Code} {b L : Nat} {xs : Nat → Int32} (hL : L ≤ 2048) (C0 : lw_At p s m meth c b L xs) {dC : Nat → ClassId} {dI : Nat → Nat → Nat} {h0 a1 a2 a3 a4 a5 a6 g0 b1 b2 b3 b4 b5 o : Nat} {cI cZ cJ : ClassId} {sa1 sa2 : Nat} (hl9 : l.stackTraces = false) (hR1 : vk_R RX0 88 "no such head or value" sa1 s) (hR2 : vk_R RX0 96 "nothing is kept but for this head" sa2 s) (hU : vx_Zq Bundle.tN "UNASSIGNED_STACK" Bundle.steD (fun q : Nat => s.heap.size ≤ q) s s.heap) (hN : vx_Zq Bundle.tN "SUPPRESSED_SENTINEL" Bundle.listD (fun q : Nat => s.heap.size ≤ q) s s.heap) (hC : fmX s) (x : FcS) (y : MdS) (f : Nat → Int64) {n i : Nat} (hi : i + 4 ≤ L) (hn : n < 2 ^ 30) (hI : fmS x y n) {H : Heap} {locs : List Loc} {cells slots : Nat} (hrc : cells + 1 ≤ room_1.cells) (hrs : slots + 6 ≤ room_1.slots) (hK : va_K (dC, dI) fmCl [(cI, .int), (cZ, .boolean), (cJ, .long)] s) (hP : va_P (dC, dI) fmCl ((mw g0 b1 b2 b3 b4 b5 cI cZ y.1 y.2.1 y.2.2.1 y.2.2.2.1 y.2.2.2.2.1 y.2.2.2.2.2.1 y.2.2.2.2.2.2) ++ ((fw h0 a1 a2 a3 a4 a5 a6 cI x.1 x.2.1 x.2.2.1 x.2.2.2.1 x.2.2.2.2.1 x.2.2.2.2.2.1 x.2.2.2.2.2.2) ++ [(o, .inl (cJ, 1, .inr (.inl f)))])) H) (hD : va_D (fun q : Nat => s.heap.size ≤ q) ((mw g0 b1 b2 b3 b4 b5 cI cZ y.1 y.2.1 y.2.2.1 y.2.2.2.1 y.2.2.2.2.1 y.2.2.2.2.2.1 y.2.2.2.2.2.2) ++ ((fw h0 a1 a2 a3 a4 a5 a6 cI x.1 x.2.1 x.2.2.1 x.2.2.2.1 x.2.2.2.2.1 x.2.2.2.2.2.1 x.2.2.2.2.2.2) ++ [(o, .inl (cJ, 1, .inr (.inl f)))]))) (hS : va_S (fun q : Nat => s.heap.size ≤ q) s.heap H locs) {ls : Array Slot} (hl : lv_has ls 7 [(0, .ref b), (1, .ref h0), (2, .ref g0), (3, .ref o), (4, .int (nI i))])
    (K : ∀ (x' : FcS) (y' : MdS) (f' : Nat → Int64) (H : Heap) (locs : List Loc) (ls : Array Slot), fmS x' y' (n + 1) → va_P (dC, dI) fmCl ((mw g0 b1 b2 b3 b4 b5 cI cZ y'.1 y'.2.1 y'.2.2.1 y'.2.2.2.1 y'.2.2.2.2.1 y'.2.2.2.2.2.1 y'.2.2.2.2.2.2) ++ ((fw h0 a1 a2 a3 a4 a5 a6 cI x'.1 x'.2.1 x'.2.2.1 x'.2.2.2.1 x'.2.2.2.2.1 x'.2.2.2.2.2.1 x'.2.2.2.2.2.2) ++ [(o, .inl (cJ, 1, .inr (.inl f')))])) H → va_D (fun q : Nat => s.heap.size ≤ q) ((mw g0 b1 b2 b3 b4 b5 cI cZ y'.1 y'.2.1 y'.2.2.1 y'.2.2.2.1 y'.2.2.2.2.1 y'.2.2.2.2.2.1 y'.2.2.2.2.2.2) ++ ((fw h0 a1 a2 a3 a4 a5 a6 cI x'.1 x'.2.1 x'.2.2.1 x'.2.2.2.1 x'.2.2.2.2.1 x'.2.2.2.2.2.1 x'.2.2.2.2.2.2) ++ [(o, .inl (cJ, 1, .inr (.inl f')))])) → va_S (fun q : Nat => s.heap.size ≤ q) s.heap H locs → lv_has ls 7 [(0, .ref b), (1, .ref h0), (2, .ref g0), (3, .ref o), (4, .int (nI i))] → W p l e room_1 s m #[Value.ref b] below meth c H locs (cells + 1) (slots + 6) (lw_Z below #[Value.ref b] s) (F0 m 636 ls [])) :
    W p l e room_1 s m #[Value.ref b] below meth c H locs cells slots (lw_Z below #[Value.ref b] s) (F0 m 514 ls []) := by
  obtain ⟨hx, hb, hr, hml, hown, hts, hX, hbl, hlocks, hgv⟩ := C0
  have hbA : ¬ (fun q : Nat => s.heap.size ≤ q) b := Nat.not_le.mpr hbl
  have htsk := fun w h => hts w (wsL_law_in w h)
  have hOk : mdOk y.2.1 := hI.2.1
  have hAc : mdAc y.2.1 := hI.2.2.1
  refine lv_aload_n hx hb dL_law_514 rfl (lv_at hl 1 rfl) ?_
  refine lv_aload_n hx hb dL_law_515 rfl (lv_at hl 0 rfl) ?_
  refine lv_iload hx hb dL_law_516 (lv_at hl 4 rfl) ?_
  refine lv_iconst (v := nI 1) hx hb dL_law_518 (by decide) ?_
  refine lv_iadd hx hb dL_law_519 ?_
  refine xf_be (y := nI (i + 1)) (by exact nI_add _ _) ?_
  refine xf_sld hx hb hX hbl hbA hS (j := (i + 1)) (by omega) (by omega) dL_law_520 ?_
  refine lv_aload_n hx hb dL_law_521 rfl (lv_at hl 0 rfl) ?_
  refine lv_iload hx hb dL_law_522 (lv_at hl 4 rfl) ?_
  refine lv_iconst (v := nI 2) hx hb dL_law_524 (by decide) ?_
  refine lv_iadd hx hb dL_law_525 ?_
  refine xf_be (y := nI (i + 2)) (by exact nI_add _ _) ?_
  refine xf_sld hx hb hX hbl hbA hS (j := (i + 2)) (by omega) (by omega) dL_law_526 ?_
  refine lv_aload_n hx hb dL_law_527 rfl (lv_at hl 0 rfl) ?_
  refine lv_iload hx hb dL_law_528 (lv_at hl 4 rfl) ?_
  refine lv_iconst (v := nI 3) hx hb dL_law_530 (by decide) ?_
  refine lv_iadd hx hb dL_law_531 ?_
  refine xf_be (y := nI (i + 3)) (by exact nI_add _ _) ?_
  refine xf_sld hx hb hX hbl hbA hS (j := (i + 3)) (by omega) (by omega) dL_law_532 ?_
  refine lv_if_eq (tgt := 540) hx hb dL_law_533 (by decide) (fun c533 => ?_) (fun c533 => ?_)
  ·
    refine lv_iconst (v := nI 0) hx hb dL_law_540 (by decide) ?_
    refine lv_aload_n hx hb dL_law_541 rfl (lv_at hl 3 rfl) ?_
    have hPc : va_P (dC, dI) fmCl ((fw h0 a1 a2 a3 a4 a5 a6 cI x.1 x.2.1 x.2.2.1 x.2.2.2.1 x.2.2.2.2.1 x.2.2.2.2.2.1 x.2.2.2.2.2.2) ++ [(o, .inl (cJ, 1, .inr (.inl f)))]) _ := xf_P_right hP
    have hDc : va_D (fun q : Nat => s.heap.size ≤ q) ((fw h0 a1 a2 a3 a4 a5 a6 cI x.1 x.2.1 x.2.2.1 x.2.2.2.1 x.2.2.2.2.1 x.2.2.2.2.2.1 x.2.2.2.2.2.2) ++ [(o, .inl (cJ, 1, .inr (.inl f)))]) := xf_D_right hD
    have hKc := hK.sub (tys' := [(cI, .int), (cJ, .long)]) [0, 2] rfl
    have hFc : ∀ q, xf_A [(o, .inl (cJ, 1, .inr (.inl f)))] q → (fun q : Nat => s.heap.size ≤ q) q := xf_A_le (xf_D_right hDc)
    have hUs := (hU.kept hS.2.1).narrow (B := fun _ => False) (fun q z => z.elim)
    have hNs := (hN.kept hS.2.1).narrow (B := fun _ => False) (fun q z => z.elim)
    have hpre : PreS s H (va_Pc [.ref h0, .int (xs (i + 1)), .int (xs (i + 2)), .int (nI 0), .ref o] (fun U => va_P (dC, dI) fmCl ((fw h0 a1 a2 a3 a4 a5 a6 cI x.1 x.2.1 x.2.2.1 x.2.2.2.1 x.2.2.2.2.1 x.2.2.2.2.2.1 x.2.2.2.2.2.2) ++ [(o, .inl (cJ, 1, .inr (.inl f)))]) U.heap ∧ va_K (dC, dI) fmCl [(cI, .int), (cJ, .long)] U ∧ va_D (fun _ => True) ((fw h0 a1 a2 a3 a4 a5 a6 cI x.1 x.2.1 x.2.2.1 x.2.2.2.1 x.2.2.2.2.1 x.2.2.2.2.2.1 x.2.2.2.2.2.2) ++ [(o, .inl (cJ, 1, .inr (.inl f)))]) ∧ vk_R RX0 88 "no such head or value" sa1 U ∧ vk_R RX0 96 "nothing is kept but for this head" sa2 U ∧ vx_Zq Bundle.tN "UNASSIGNED_STACK" Bundle.steD (fun _ => False) U U.heap ∧ vx_Zq Bundle.tN "SUPPRESSED_SENTINEL" Bundle.listD (fun _ => False) U U.heap ∧ fmX U)) [.ref h0, .int (xs (i + 1)), .int (xs (i + 2)), .int (nI 0), .ref o] := ⟨fun a U g mk z => ⟨z.1, z.2.1, va_K.moved (u := U) (U := U.calling g mk a) (Vm.Alike.refl U.vm) z.2.2.1, z.2.2.2.1, vk_R.same (u := U) rfl z.2.2.2.2.1, vk_R.same (u := U) rfl z.2.2.2.2.2.1, vx_Zq.moved (u := U) (U := U.calling g mk a) (Vm.Alike.refl U.vm) z.2.2.2.2.2.2.1, vx_Zq.moved (u := U) (U := U.calling g mk a) (Vm.Alike.refl U.vm) z.2.2.2.2.2.2.2.1, fmX_same (u := U) rfl z.2.2.2.2.2.2.2.2⟩, fun U hU9 hW => ⟨rfl, by rw [hU9]; exact hPc, va_K.moved hW.alike hKc, hDc.weaken (fun _ _ _ _ => trivial), vk_R.warm hW hR1, vk_R.warm hW hR2, by rw [hU9]; exact vx_Zq.moved hW.alike hUs, by rw [hU9]; exact vx_Zq.moved hW.alike hNs, fmX_warm hW hC⟩⟩
    refine va_calli (vx_runSW (As := [.ref h0, .int (xs (i + 1)), .int (xs (i + 2)), .int (nI 0), .ref o]) (rest := []) ⟨hx, hb, hml, hown, htsk⟩ (l_share l dC dI h0 a1 a2 a3 a4 a5 a6 cI x.1 x.2.1 x.2.2.1 x.2.2.2.1 x.2.2.2.2.1 x.2.2.2.2.2.1 x.2.2.2.2.2.2 o cJ f (xs (i + 1)) (xs (i + 2)) (nI 0) sa1 sa2 hl9) (vx_cwSW 5 htsk gL_law_L_share rfl rfl rfl (by decide +kernel) ⟨Nat.le_of_ble_eq_true rfl, Nat.le_of_ble_eq_true rfl⟩) hpre rfl rfl hl.1 rfl (lv_room (Nat.le_of_ble_eq_true rfl)) dL_law_542 ⟨hrc, hrs⟩) hS (fun q _ h => hFc q h) hFc (fun r_k u_f t9 H locs ht9 hvm9 hw_k hB9 hz9 hk9 hS => ?_)
    have hB9 := xf_hB ht9 hB9
    have hP : va_P (dC, dI) fmCl ((mw g0 b1 b2 b3 b4 b5 cI cZ y.1 y.2.1 y.2.2.1 y.2.2.2.1 y.2.2.2.2.1 y.2.2.2.2.2.1 y.2.2.2.2.2.2) ++ ((fw h0 a1 a2 a3 a4 a5 a6 cI x.1 x.2.1 x.2.2.1 x.2.2.2.1 x.2.2.2.2.1 x.2.2.2.2.2.1 x.2.2.2.2.2.2) ++ [(o, .inl (cJ, 1, .inr (.inl u_f)))])) H := va_P.app (xf_keep (w := [(o, .inl (cJ, 1, .inr (.inl f)))]) (xf_P_left hP) (fun k q hq z => by obtain ⟨j, e9, hj⟩ := z; exact xf_apart hD hq (xf_ix_right (a := (fw h0 a1 a2 a3 a4 a5 a6 cI x.1 x.2.1 x.2.2.1 x.2.2.2.1 x.2.2.2.2.1 x.2.2.2.2.2.1 x.2.2.2.2.2.2)) hj) rfl) hk9) hB9
    have hD : va_D (fun q : Nat => s.heap.size ≤ q) ((mw g0 b1 b2 b3 b4 b5 cI cZ y.1 y.2.1 y.2.2.1 y.2.2.2.1 y.2.2.2.2.1 y.2.2.2.2.2.1 y.2.2.2.2.2.2) ++ ((fw h0 a1 a2 a3 a4 a5 a6 cI x.1 x.2.1 x.2.2.1 x.2.2.2.1 x.2.2.2.2.1 x.2.2.2.2.2.1 x.2.2.2.2.2.2) ++ [(o, .inl (cJ, 1, .inr (.inl u_f)))])) := xf_wD hD rfl
    refine lv_istore (lv' := [(5, .int r_k), (0, .ref b), (1, .ref h0), (2, .ref g0), (3, .ref o), (4, .int (nI i))]) hx hb dL_law_545 hl (by decide) rfl (fun ls hl => ?_)
    refine lv_aload_n hx hb dL_law_547 rfl (lv_at hl 3 rfl) ?_
    refine lv_aload_n hx hb dL_law_548 rfl (lv_at hl 1 rfl) ?_
    refine lv_iload hx hb dL_law_549 (lv_at hl 5 rfl) ?_
    refine lv_iconst (v := nI 1) hx hb dL_law_551 (by decide) ?_
    refine lv_iadd hx hb dL_law_552 ?_
    refine xf_be (y := nI (i + 1)) (by exact nI_add _ _) ?_
    refine xf_sld hx hb hX hbl hbA hS (j := (i + 1)) (by omega) (by omega) dL_law_553 ?_
    refine lv_aload_n hx hb dL_law_554 rfl (lv_at hl 1 rfl) ?_
    refine lv_iload hx hb dL_law_555 (lv_at hl 5 rfl) ?_
    refine lv_iconst (v := nI 2) hx hb dL_law_557 (by decide) ?_
    refine lv_iadd hx hb dL_law_558 ?_
    refine xf_be (y := nI (i + 2)) (by exact nI_add _ _) ?_
    refine xf_sld hx hb hX hbl hbA hS (j := (i + 2)) (by omega) (by omega) dL_law_559 ?_
    refine lv_aload_n hx hb dL_law_560 rfl (lv_at hl 1 rfl) ?_
    refine lv_iload hx hb dL_law_561 (lv_at hl 5 rfl) ?_
    refine lv_iconst (v := nI 3) hx hb dL_law_563 (by decide) ?_
    refine lv_iadd hx hb dL_law_564 ?_
    refine xf_be (y := nI (i + 3)) (by exact nI_add _ _) ?_
    refine xf_sld hx hb hX hbl hbA hS (j := (i + 3)) (by omega) (by omega) dL_law_565 ?_
    refine lv_if_eq (tgt := 573) hx hb dL_law_566 (by decide) (fun c566 => ?_) (fun c566 => ?_)
    ·
      refine lv_iconst (v := nI 0) hx hb dL_law_573 (by decide) ?_
      have hPc : va_P (dC, dI) fmCl (mw g0 b1 b2 b3 b4 b5 cI cZ y.1 y.2.1 y.2.2.1 y.2.2.2.1 y.2.2.2.2.1 y.2.2.2.2.2.1 y.2.2.2.2.2.2) _ := xf_P_left hP
      have hDc : va_D (fun q : Nat => s.heap.size ≤ q) (mw g0 b1 b2 b3 b4 b5 cI cZ y.1 y.2.1 y.2.2.1 y.2.2.2.1 y.2.2.2.2.1 y.2.2.2.2.2.1 y.2.2.2.2.2.2) := xf_D_left hD
      have hKc := hK.sub (tys' := [(cI, .int), (cZ, .boolean)]) [0, 1] rfl
      have hFc := xf_A_le hDc
      refine va_calli (va_runV (As := [.int (xs (i + 1)), .int (xs (i + 2)), .int (nI 0)]) (rest := []) ⟨hx, hb, hml, hown, hts⟩ (m_share l dC dI g0 b1 b2 b3 b4 b5 cI cZ y.1 y.2.1 y.2.2.1 y.2.2.2.1 y.2.2.2.2.1 y.2.2.2.2.2.1 y.2.2.2.2.2.2 (xs (i + 1)) (xs (i + 2)) (nI 0) hOk hAc) (cwV 3 hts gL_M_share rfl rfl rfl (by decide +kernel) ⟨Nat.le_of_ble_eq_true rfl, Nat.le_of_ble_eq_true rfl⟩) (xf_preW (ci := 1) (RX1, TM, 7) hKc hPc hDc rfl rfl) rfl rfl hl.1 rfl (lv_room (Nat.le_of_ble_eq_true rfl)) dL_law_574 ⟨by omega, by omega⟩) hS (fun q _ h => hFc q h) hFc (fun r_m u_m t9 H locs ht9 hvm9 hw_m hB9 hz9 hk9 hS => ?_)
      have hB9 := xf_hB ht9 hB9
      have hP0 : va_P (dC, dI) fmCl ([] ++ ((mw g0 b1 b2 b3 b4 b5 cI cZ y.1 y.2.1 y.2.2.1 y.2.2.2.1 y.2.2.2.2.1 y.2.2.2.2.2.1 y.2.2.2.2.2.2) ++ ((fw h0 a1 a2 a3 a4 a5 a6 cI x.1 x.2.1 x.2.2.1 x.2.2.2.1 x.2.2.2.2.1 x.2.2.2.2.2.1 x.2.2.2.2.2.2) ++ [(o, .inl (cJ, 1, .inr (.inl u_f)))]))) _ := hP
      have hD0 : va_D (fun q : Nat => s.heap.size ≤ q) ([] ++ ((mw g0 b1 b2 b3 b4 b5 cI cZ y.1 y.2.1 y.2.2.1 y.2.2.2.1 y.2.2.2.2.1 y.2.2.2.2.2.1 y.2.2.2.2.2.2) ++ ((fw h0 a1 a2 a3 a4 a5 a6 cI x.1 x.2.1 x.2.2.1 x.2.2.2.1 x.2.2.2.2.1 x.2.2.2.2.2.1 x.2.2.2.2.2.2) ++ [(o, .inl (cJ, 1, .inr (.inl u_f)))]))) := hD
      have hP : va_P (dC, dI) fmCl ((mw g0 b1 b2 b3 b4 b5 cI cZ u_m.1 u_m.2.1 u_m.2.2.1 u_m.2.2.2.1 u_m.2.2.2.2.1 u_m.2.2.2.2.2.1 u_m.2.2.2.2.2.2) ++ ((fw h0 a1 a2 a3 a4 a5 a6 cI x.1 x.2.1 x.2.2.1 x.2.2.2.1 x.2.2.2.2.1 x.2.2.2.2.2.1 x.2.2.2.2.2.2) ++ [(o, .inl (cJ, 1, .inr (.inl u_f)))])) H := xf_join (a := []) (w := (mw g0 b1 b2 b3 b4 b5 cI cZ y.1 y.2.1 y.2.2.1 y.2.2.2.1 y.2.2.2.2.1 y.2.2.2.2.2.1 y.2.2.2.2.2.2)) (w1 := (mw g0 b1 b2 b3 b4 b5 cI cZ u_m.1 u_m.2.1 u_m.2.2.1 u_m.2.2.2.1 u_m.2.2.2.2.1 u_m.2.2.2.2.2.1 u_m.2.2.2.2.2.2)) (b := ((fw h0 a1 a2 a3 a4 a5 a6 cI x.1 x.2.1 x.2.2.1 x.2.2.2.1 x.2.2.2.2.1 x.2.2.2.2.2.1 x.2.2.2.2.2.2) ++ [(o, .inl (cJ, 1, .inr (.inl u_f)))])) hP0 hD0 hB9 hk9
      have hD : va_D (fun q : Nat => s.heap.size ≤ q) ((mw g0 b1 b2 b3 b4 b5 cI cZ u_m.1 u_m.2.1 u_m.2.2.1 u_m.2.2.2.1 u_m.2.2.2.2.1 u_m.2.2.2.2.2.1 u_m.2.2.2.2.2.2) ++ ((fw h0 a1 a2 a3 a4 a5 a6 cI x.1 x.2.1 x.2.2.1 x.2.2.2.1 x.2.2.2.2.1 x.2.2.2.2.2.1 x.2.2.2.2.2.2) ++ [(o, .inl (cJ, 1, .inr (.inl u_f)))])) := xf_wD hD rfl
      refine lv_istore (lv' := [(6, .int r_m), (5, .int r_k), (0, .ref b), (1, .ref h0), (2, .ref g0), (3, .ref o), (4, .int (nI i))]) hx hb dL_law_577 hl (by decide) rfl (fun ls hl => ?_)
      refine lv_aload_n hx hb dL_law_579 rfl (lv_at hl 4 rfl) ?_
      have hPc : va_P (dC, dI) fmCl (mw g0 b1 b2 b3 b4 b5 cI cZ u_m.1 u_m.2.1 u_m.2.2.1 u_m.2.2.2.1 u_m.2.2.2.2.1 u_m.2.2.2.2.2.1 u_m.2.2.2.2.2.2) _ := xf_P_left hP
      have hDc : va_D (fun q : Nat => s.heap.size ≤ q) (mw g0 b1 b2 b3 b4 b5 cI cZ u_m.1 u_m.2.1 u_m.2.2.1 u_m.2.2.2.1 u_m.2.2.2.2.1 u_m.2.2.2.2.2.1 u_m.2.2.2.2.2.2) := xf_D_left hD
      have hKc := hK.sub (tys' := [(cI, .int), (cZ, .boolean)]) [0, 1] rfl
      refine vp_callSi (W.runV (As := []) (rest := []) ⟨hx, hb, hml, hown, hts⟩ (m_thrown l dC dI g0 b1 b2 b3 b4 b5 cI cZ u_m.1 u_m.2.1 u_m.2.2.1 u_m.2.2.2.1 u_m.2.2.2.2.1 u_m.2.2.2.2.2.1 u_m.2.2.2.2.2.2 ) (cwV 0 hts gL_M_thrown rfl rfl rfl (by decide +kernel) ⟨Nat.le_of_ble_eq_true rfl, Nat.le_of_ble_eq_true rfl⟩) (xf_preV (ci := 1) (RX1, TM, 7) hKc hPc rfl rfl) rfl rfl hl.1 rfl (lv_room (Nat.le_of_ble_eq_true rfl)) dL_law_580 ⟨by omega, by omega⟩) (fun r_t hw_t => ?_)
      have hs := fm_share y.2.2.2.2.1 hI (xs (i + 1)) (xs (i + 2)) (nI 0)
      have hum : u_m = _ := congrArg Prod.snd hw_m
      have hall : (r_k = nI 1 ∧ r_t = nI 1) ∨ ∃ q : Int32, r_k = nI 0 ∧ r_t = nI 0 ∧ r_m = q ∧ u_f = vp_updL f 0 q.toInt64 := by
        rcases hw_k with ⟨h1, h2, h3⟩ | ⟨q, h1, h2, h3⟩
        · exact Or.inl ⟨h2, by rw [hw_t, hum]; exact hs.1 h1⟩
        · exact Or.inr ⟨q, h2, by rw [hw_t, hum]; exact (hs.2 q h1).1, (congrArg Prod.fst hw_m).trans (hs.2 q h1).2, h3⟩
      have hSm : fmS x u_m (n + 1) := by rw [hum]; exact fm_shareS y.2.2.2.2.1 hI (xs (i + 1)) (xs (i + 2)) (nI 0)
      refine lv_iload hx hb dL_law_583 (lv_at hl 1 rfl) ?_
      refine lv_icmp_eq (tgt := 590) hx hb dL_law_585 (by decide) (fun c585 => ?_) (fun c585 => ?_)
      ·
        refine lv_iload hx hb dL_law_590 (lv_at hl 1 rfl) ?_
        refine lv_if_ne (tgt := 607) hx hb dL_law_592 (by decide) (fun c592 => ?_) (fun c592 => ?_)
        ·
          refine lv_goto (tgt := 636) hx hb dL_law_607 (by decide) ?_
          exact K x u_m u_f H locs ls hSm hP hD hS (lv_sub hl [2, 3, 4, 5, 6] rfl)
        ·
          have hq : u_f 0 = r_m.toInt64 := by
            rcases hall with ⟨h1, -⟩ | ⟨q, -, -, h3, h4⟩
            · rw [h1] at c592; exact absurd c592 (by decide)
            · rw [h4, h3]; exact pk_uLs
          refine lv_aload_n hx hb dL_law_595 rfl (lv_at hl 5 rfl) ?_
          refine lv_iconst (v := nI 0) hx hb dL_law_596 (by decide) ?_
          refine va_lald hx hb hK hP 13 2 rfl rfl (show vp_in (nI 0) 1 from vp_in_nI (by decide) (by decide)) dL_law_597 ?_
          rw [show (nI 0).toNatClampNeg = 0 from nI_clamp (by decide), hq]
          refine lv_iload hx hb dL_law_598 (lv_at hl 0 rfl) ?_
          refine lv_i2l (v := r_m.toInt64) hx hb dL_law_600 rfl ?_
          refine W.lcmp hx hb dL_law_601 ?_
          refine lv_if_eq (tgt := 607) hx hb dL_law_602 (by decide) (fun c602 => ?_) (fun c602 => ?_)
          · refine lv_goto (tgt := 636) hx hb dL_law_607 (by decide) ?_
            exact K x u_m u_f H locs ls hSm hP hD hS (lv_sub hl [2, 3, 4, 5, 6] rfl)
          · exact absurd (lg_cmp_self _) c602
      ·
        exact absurd (by rcases hall with ⟨h1, h2⟩ | ⟨q, h1, h2, -⟩ <;> rw [h1, h2]) c585
    ·
      exact absurd c533 c566
  ·
    refine lv_iconst (v := nI 1) hx hb dL_law_536 (by decide) ?_
    refine lv_goto (tgt := 541) hx hb dL_law_537 (by decide) ?_
    refine lv_aload_n hx hb dL_law_541 rfl (lv_at hl 3 rfl) ?_
    have hPc : va_P (dC, dI) fmCl ((fw h0 a1 a2 a3 a4 a5 a6 cI x.1 x.2.1 x.2.2.1 x.2.2.2.1 x.2.2.2.2.1 x.2.2.2.2.2.1 x.2.2.2.2.2.2) ++ [(o, .inl (cJ, 1, .inr (.inl f)))]) _ := xf_P_right hP
    have hDc : va_D (fun q : Nat => s.heap.size ≤ q) ((fw h0 a1 a2 a3 a4 a5 a6 cI x.1 x.2.1 x.2.2.1 x.2.2.2.1 x.2.2.2.2.1 x.2.2.2.2.2.1 x.2.2.2.2.2.2) ++ [(o, .inl (cJ, 1, .inr (.inl f)))]) := xf_D_right hD
    have hKc := hK.sub (tys' := [(cI, .int), (cJ, .long)]) [0, 2] rfl
    have hFc : ∀ q, xf_A [(o, .inl (cJ, 1, .inr (.inl f)))] q → (fun q : Nat => s.heap.size ≤ q) q := xf_A_le (xf_D_right hDc)
    have hUs := (hU.kept hS.2.1).narrow (B := fun _ => False) (fun q z => z.elim)
    have hNs := (hN.kept hS.2.1).narrow (B := fun _ => False) (fun q z => z.elim)
    have hpre : PreS s H (va_Pc [.ref h0, .int (xs (i + 1)), .int (xs (i + 2)), .int (nI 1), .ref o] (fun U => va_P (dC, dI) fmCl ((fw h0 a1 a2 a3 a4 a5 a6 cI x.1 x.2.1 x.2.2.1 x.2.2.2.1 x.2.2.2.2.1 x.2.2.2.2.2.1 x.2.2.2.2.2.2) ++ [(o, .inl (cJ, 1, .inr (.inl f)))]) U.heap ∧ va_K (dC, dI) fmCl [(cI, .int), (cJ, .long)] U ∧ va_D (fun _ => True) ((fw h0 a1 a2 a3 a4 a5 a6 cI x.1 x.2.1 x.2.2.1 x.2.2.2.1 x.2.2.2.2.1 x.2.2.2.2.2.1 x.2.2.2.2.2.2) ++ [(o, .inl (cJ, 1, .inr (.inl f)))]) ∧ vk_R RX0 88 "no such head or value" sa1 U ∧ vk_R RX0 96 "nothing is kept but for this head" sa2 U ∧ vx_Zq Bundle.tN "UNASSIGNED_STACK" Bundle.steD (fun _ => False) U U.heap ∧ vx_Zq Bundle.tN "SUPPRESSED_SENTINEL" Bundle.listD (fun _ => False) U U.heap ∧ fmX U)) [.ref h0, .int (xs (i + 1)), .int (xs (i + 2)), .int (nI 1), .ref o] := ⟨fun a U g mk z => ⟨z.1, z.2.1, va_K.moved (u := U) (U := U.calling g mk a) (Vm.Alike.refl U.vm) z.2.2.1, z.2.2.2.1, vk_R.same (u := U) rfl z.2.2.2.2.1, vk_R.same (u := U) rfl z.2.2.2.2.2.1, vx_Zq.moved (u := U) (U := U.calling g mk a) (Vm.Alike.refl U.vm) z.2.2.2.2.2.2.1, vx_Zq.moved (u := U) (U := U.calling g mk a) (Vm.Alike.refl U.vm) z.2.2.2.2.2.2.2.1, fmX_same (u := U) rfl z.2.2.2.2.2.2.2.2⟩, fun U hU9 hW => ⟨rfl, by rw [hU9]; exact hPc, va_K.moved hW.alike hKc, hDc.weaken (fun _ _ _ _ => trivial), vk_R.warm hW hR1, vk_R.warm hW hR2, by rw [hU9]; exact vx_Zq.moved hW.alike hUs, by rw [hU9]; exact vx_Zq.moved hW.alike hNs, fmX_warm hW hC⟩⟩
    refine va_calli (vx_runSW (As := [.ref h0, .int (xs (i + 1)), .int (xs (i + 2)), .int (nI 1), .ref o]) (rest := []) ⟨hx, hb, hml, hown, htsk⟩ (l_share l dC dI h0 a1 a2 a3 a4 a5 a6 cI x.1 x.2.1 x.2.2.1 x.2.2.2.1 x.2.2.2.2.1 x.2.2.2.2.2.1 x.2.2.2.2.2.2 o cJ f (xs (i + 1)) (xs (i + 2)) (nI 1) sa1 sa2 hl9) (vx_cwSW 5 htsk gL_law_L_share rfl rfl rfl (by decide +kernel) ⟨Nat.le_of_ble_eq_true rfl, Nat.le_of_ble_eq_true rfl⟩) hpre rfl rfl hl.1 rfl (lv_room (Nat.le_of_ble_eq_true rfl)) dL_law_542 ⟨hrc, hrs⟩) hS (fun q _ h => hFc q h) hFc (fun r_k u_f t9 H locs ht9 hvm9 hw_k hB9 hz9 hk9 hS => ?_)
    have hB9 := xf_hB ht9 hB9
    have hP : va_P (dC, dI) fmCl ((mw g0 b1 b2 b3 b4 b5 cI cZ y.1 y.2.1 y.2.2.1 y.2.2.2.1 y.2.2.2.2.1 y.2.2.2.2.2.1 y.2.2.2.2.2.2) ++ ((fw h0 a1 a2 a3 a4 a5 a6 cI x.1 x.2.1 x.2.2.1 x.2.2.2.1 x.2.2.2.2.1 x.2.2.2.2.2.1 x.2.2.2.2.2.2) ++ [(o, .inl (cJ, 1, .inr (.inl u_f)))])) H := va_P.app (xf_keep (w := [(o, .inl (cJ, 1, .inr (.inl f)))]) (xf_P_left hP) (fun k q hq z => by obtain ⟨j, e9, hj⟩ := z; exact xf_apart hD hq (xf_ix_right (a := (fw h0 a1 a2 a3 a4 a5 a6 cI x.1 x.2.1 x.2.2.1 x.2.2.2.1 x.2.2.2.2.1 x.2.2.2.2.2.1 x.2.2.2.2.2.2)) hj) rfl) hk9) hB9
    have hD : va_D (fun q : Nat => s.heap.size ≤ q) ((mw g0 b1 b2 b3 b4 b5 cI cZ y.1 y.2.1 y.2.2.1 y.2.2.2.1 y.2.2.2.2.1 y.2.2.2.2.2.1 y.2.2.2.2.2.2) ++ ((fw h0 a1 a2 a3 a4 a5 a6 cI x.1 x.2.1 x.2.2.1 x.2.2.2.1 x.2.2.2.2.1 x.2.2.2.2.2.1 x.2.2.2.2.2.2) ++ [(o, .inl (cJ, 1, .inr (.inl u_f)))])) := xf_wD hD rfl
    refine lv_istore (lv' := [(5, .int r_k), (0, .ref b), (1, .ref h0), (2, .ref g0), (3, .ref o), (4, .int (nI i))]) hx hb dL_law_545 hl (by decide) rfl (fun ls hl => ?_)
    refine lv_aload_n hx hb dL_law_547 rfl (lv_at hl 3 rfl) ?_
    refine lv_aload_n hx hb dL_law_548 rfl (lv_at hl 1 rfl) ?_
    refine lv_iload hx hb dL_law_549 (lv_at hl 5 rfl) ?_
    refine lv_iconst (v := nI 1) hx hb dL_law_551 (by decide) ?_
    refine lv_iadd hx hb dL_law_552 ?_
    refine xf_be (y := nI (i + 1)) (by exact nI_add _ _) ?_
    refine xf_sld hx hb hX hbl hbA hS (j := (i + 1)) (by omega) (by omega) dL_law_553 ?_
    refine lv_aload_n hx hb dL_law_554 rfl (lv_at hl 1 rfl) ?_
    refine lv_iload hx hb dL_law_555 (lv_at hl 5 rfl) ?_
    refine lv_iconst (v := nI 2) hx hb dL_law_557 (by decide) ?_
    refine lv_iadd hx hb dL_law_558 ?_
    refine xf_be (y := nI (i + 2)) (by exact nI_add _ _) ?_
    refine xf_sld hx hb hX hbl hbA hS (j := (i + 2)) (by omega) (by omega) dL_law_559 ?_
    refine lv_aload_n hx hb dL_law_560 rfl (lv_at hl 1 rfl) ?_
    refine lv_iload hx hb dL_law_561 (lv_at hl 5 rfl) ?_
    refine lv_iconst (v := nI 3) hx hb dL_law_563 (by decide) ?_
    refine lv_iadd hx hb dL_law_564 ?_
    refine xf_be (y := nI (i + 3)) (by exact nI_add _ _) ?_
    refine xf_sld hx hb hX hbl hbA hS (j := (i + 3)) (by omega) (by omega) dL_law_565 ?_
    refine lv_if_eq (tgt := 573) hx hb dL_law_566 (by decide) (fun c566 => ?_) (fun c566 => ?_)
    ·
      exact absurd c566 c533
    ·
      refine lv_iconst (v := nI 1) hx hb dL_law_569 (by decide) ?_
      refine lv_goto (tgt := 574) hx hb dL_law_570 (by decide) ?_
      have hPc : va_P (dC, dI) fmCl (mw g0 b1 b2 b3 b4 b5 cI cZ y.1 y.2.1 y.2.2.1 y.2.2.2.1 y.2.2.2.2.1 y.2.2.2.2.2.1 y.2.2.2.2.2.2) _ := xf_P_left hP
      have hDc : va_D (fun q : Nat => s.heap.size ≤ q) (mw g0 b1 b2 b3 b4 b5 cI cZ y.1 y.2.1 y.2.2.1 y.2.2.2.1 y.2.2.2.2.1 y.2.2.2.2.2.1 y.2.2.2.2.2.2) := xf_D_left hD
      have hKc := hK.sub (tys' := [(cI, .int), (cZ, .boolean)]) [0, 1] rfl
      have hFc := xf_A_le hDc
      refine va_calli (va_runV (As := [.int (xs (i + 1)), .int (xs (i + 2)), .int (nI 1)]) (rest := []) ⟨hx, hb, hml, hown, hts⟩ (m_share l dC dI g0 b1 b2 b3 b4 b5 cI cZ y.1 y.2.1 y.2.2.1 y.2.2.2.1 y.2.2.2.2.1 y.2.2.2.2.2.1 y.2.2.2.2.2.2 (xs (i + 1)) (xs (i + 2)) (nI 1) hOk hAc) (cwV 3 hts gL_M_share rfl rfl rfl (by decide +kernel) ⟨Nat.le_of_ble_eq_true rfl, Nat.le_of_ble_eq_true rfl⟩) (xf_preW (ci := 1) (RX1, TM, 7) hKc hPc hDc rfl rfl) rfl rfl hl.1 rfl (lv_room (Nat.le_of_ble_eq_true rfl)) dL_law_574 ⟨by omega, by omega⟩) hS (fun q _ h => hFc q h) hFc (fun r_m u_m t9 H locs ht9 hvm9 hw_m hB9 hz9 hk9 hS => ?_)
      have hB9 := xf_hB ht9 hB9
      have hP0 : va_P (dC, dI) fmCl ([] ++ ((mw g0 b1 b2 b3 b4 b5 cI cZ y.1 y.2.1 y.2.2.1 y.2.2.2.1 y.2.2.2.2.1 y.2.2.2.2.2.1 y.2.2.2.2.2.2) ++ ((fw h0 a1 a2 a3 a4 a5 a6 cI x.1 x.2.1 x.2.2.1 x.2.2.2.1 x.2.2.2.2.1 x.2.2.2.2.2.1 x.2.2.2.2.2.2) ++ [(o, .inl (cJ, 1, .inr (.inl u_f)))]))) _ := hP
      have hD0 : va_D (fun q : Nat => s.heap.size ≤ q) ([] ++ ((mw g0 b1 b2 b3 b4 b5 cI cZ y.1 y.2.1 y.2.2.1 y.2.2.2.1 y.2.2.2.2.1 y.2.2.2.2.2.1 y.2.2.2.2.2.2) ++ ((fw h0 a1 a2 a3 a4 a5 a6 cI x.1 x.2.1 x.2.2.1 x.2.2.2.1 x.2.2.2.2.1 x.2.2.2.2.2.1 x.2.2.2.2.2.2) ++ [(o, .inl (cJ, 1, .inr (.inl u_f)))]))) := hD
      have hP : va_P (dC, dI) fmCl ((mw g0 b1 b2 b3 b4 b5 cI cZ u_m.1 u_m.2.1 u_m.2.2.1 u_m.2.2.2.1 u_m.2.2.2.2.1 u_m.2.2.2.2.2.1 u_m.2.2.2.2.2.2) ++ ((fw h0 a1 a2 a3 a4 a5 a6 cI x.1 x.2.1 x.2.2.1 x.2.2.2.1 x.2.2.2.2.1 x.2.2.2.2.2.1 x.2.2.2.2.2.2) ++ [(o, .inl (cJ, 1, .inr (.inl u_f)))])) H := xf_join (a := []) (w := (mw g0 b1 b2 b3 b4 b5 cI cZ y.1 y.2.1 y.2.2.1 y.2.2.2.1 y.2.2.2.2.1 y.2.2.2.2.2.1 y.2.2.2.2.2.2)) (w1 := (mw g0 b1 b2 b3 b4 b5 cI cZ u_m.1 u_m.2.1 u_m.2.2.1 u_m.2.2.2.1 u_m.2.2.2.2.1 u_m.2.2.2.2.2.1 u_m.2.2.2.2.2.2)) (b := ((fw h0 a1 a2 a3 a4 a5 a6 cI x.1 x.2.1 x.2.2.1 x.2.2.2.1 x.2.2.2.2.1 x.2.2.2.2.2.1 x.2.2.2.2.2.2) ++ [(o, .inl (cJ, 1, .inr (.inl u_f)))])) hP0 hD0 hB9 hk9
      have hD : va_D (fun q : Nat => s.heap.size ≤ q) ((mw g0 b1 b2 b3 b4 b5 cI cZ u_m.1 u_m.2.1 u_m.2.2.1 u_m.2.2.2.1 u_m.2.2.2.2.1 u_m.2.2.2.2.2.1 u_m.2.2.2.2.2.2) ++ ((fw h0 a1 a2 a3 a4 a5 a6 cI x.1 x.2.1 x.2.2.1 x.2.2.2.1 x.2.2.2.2.1 x.2.2.2.2.2.1 x.2.2.2.2.2.2) ++ [(o, .inl (cJ, 1, .inr (.inl u_f)))])) := xf_wD hD rfl
      refine lv_istore (lv' := [(6, .int r_m), (5, .int r_k), (0, .ref b), (1, .ref h0), (2, .ref g0), (3, .ref o), (4, .int (nI i))]) hx hb dL_law_577 hl (by decide) rfl (fun ls hl => ?_)
      refine lv_aload_n hx hb dL_law_579 rfl (lv_at hl 4 rfl) ?_
      have hPc : va_P (dC, dI) fmCl (mw g0 b1 b2 b3 b4 b5 cI cZ u_m.1 u_m.2.1 u_m.2.2.1 u_m.2.2.2.1 u_m.2.2.2.2.1 u_m.2.2.2.2.2.1 u_m.2.2.2.2.2.2) _ := xf_P_left hP
      have hDc : va_D (fun q : Nat => s.heap.size ≤ q) (mw g0 b1 b2 b3 b4 b5 cI cZ u_m.1 u_m.2.1 u_m.2.2.1 u_m.2.2.2.1 u_m.2.2.2.2.1 u_m.2.2.2.2.2.1 u_m.2.2.2.2.2.2) := xf_D_left hD
      have hKc := hK.sub (tys' := [(cI, .int), (cZ, .boolean)]) [0, 1] rfl
      refine vp_callSi (W.runV (As := []) (rest := []) ⟨hx, hb, hml, hown, hts⟩ (m_thrown l dC dI g0 b1 b2 b3 b4 b5 cI cZ u_m.1 u_m.2.1 u_m.2.2.1 u_m.2.2.2.1 u_m.2.2.2.2.1 u_m.2.2.2.2.2.1 u_m.2.2.2.2.2.2 ) (cwV 0 hts gL_M_thrown rfl rfl rfl (by decide +kernel) ⟨Nat.le_of_ble_eq_true rfl, Nat.le_of_ble_eq_true rfl⟩) (xf_preV (ci := 1) (RX1, TM, 7) hKc hPc rfl rfl) rfl rfl hl.1 rfl (lv_room (Nat.le_of_ble_eq_true rfl)) dL_law_580 ⟨by omega, by omega⟩) (fun r_t hw_t => ?_)
      have hs := fm_share y.2.2.2.2.1 hI (xs (i + 1)) (xs (i + 2)) (nI 1)
      have hum : u_m = _ := congrArg Prod.snd hw_m
      have hall : (r_k = nI 1 ∧ r_t = nI 1) ∨ ∃ q : Int32, r_k = nI 0 ∧ r_t = nI 0 ∧ r_m = q ∧ u_f = vp_updL f 0 q.toInt64 := by
        rcases hw_k with ⟨h1, h2, h3⟩ | ⟨q, h1, h2, h3⟩
        · exact Or.inl ⟨h2, by rw [hw_t, hum]; exact hs.1 h1⟩
        · exact Or.inr ⟨q, h2, by rw [hw_t, hum]; exact (hs.2 q h1).1, (congrArg Prod.fst hw_m).trans (hs.2 q h1).2, h3⟩
      have hSm : fmS x u_m (n + 1) := by rw [hum]; exact fm_shareS y.2.2.2.2.1 hI (xs (i + 1)) (xs (i + 2)) (nI 1)
      refine lv_iload hx hb dL_law_583 (lv_at hl 1 rfl) ?_
      refine lv_icmp_eq (tgt := 590) hx hb dL_law_585 (by decide) (fun c585 => ?_) (fun c585 => ?_)
      ·
        refine lv_iload hx hb dL_law_590 (lv_at hl 1 rfl) ?_
        refine lv_if_ne (tgt := 607) hx hb dL_law_592 (by decide) (fun c592 => ?_) (fun c592 => ?_)
        ·
          refine lv_goto (tgt := 636) hx hb dL_law_607 (by decide) ?_
          exact K x u_m u_f H locs ls hSm hP hD hS (lv_sub hl [2, 3, 4, 5, 6] rfl)
        ·
          have hq : u_f 0 = r_m.toInt64 := by
            rcases hall with ⟨h1, -⟩ | ⟨q, -, -, h3, h4⟩
            · rw [h1] at c592; exact absurd c592 (by decide)
            · rw [h4, h3]; exact pk_uLs
          refine lv_aload_n hx hb dL_law_595 rfl (lv_at hl 5 rfl) ?_
          refine lv_iconst (v := nI 0) hx hb dL_law_596 (by decide) ?_
          refine va_lald hx hb hK hP 13 2 rfl rfl (show vp_in (nI 0) 1 from vp_in_nI (by decide) (by decide)) dL_law_597 ?_
          rw [show (nI 0).toNatClampNeg = 0 from nI_clamp (by decide), hq]
          refine lv_iload hx hb dL_law_598 (lv_at hl 0 rfl) ?_
          refine lv_i2l (v := r_m.toInt64) hx hb dL_law_600 rfl ?_
          refine W.lcmp hx hb dL_law_601 ?_
          refine lv_if_eq (tgt := 607) hx hb dL_law_602 (by decide) (fun c602 => ?_) (fun c602 => ?_)
          · refine lv_goto (tgt := 636) hx hb dL_law_607 (by decide) ?_
            exact K x u_m u_f H locs ls hSm hP hD hS (lv_sub hl [2, 3, 4, 5, 6] rfl)
          · exact absurd (lg_cmp_self _) c602
      ·
        exact absurd (by rcases hall with ⟨h1, h2⟩ | ⟨q, h1, h2, -⟩ <;> rw [h1, h2]) c585
