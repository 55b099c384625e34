set_option maxHeartbeats 4000000 in
set_option maxRecDepth 100000 in
theorem lc_0 {p : Program} {l : Launch} {e : Env} {s : State} {m : MethodId} {below : List Frame} {meth : Method} {c : Code} {b L : Nat} {xs : Nat → Int32} (hL : L ≤ 2048) (C0 : lw_At p s m meth c b L xs) {dC : Nat → ClassId} {dI : Nat → Nat → Nat} {h0 a1 a2 a3 a4 a5 a6 g0 b1 b2 b3 b4 b5 o : Nat} {cI cZ cJ : ClassId} (x : FcS) (y : MdS) (f : Nat → Int64) {n i : Nat} (hi : i + 4 ≤ L) (hn : n < 2 ^ 30) (hI : fmS x y n) {H : Heap} {locs : List Loc} {cells slots : Nat} (hrc : cells + 1 ≤ room_1.cells) (hrs : slots + 6 ≤ room_1.slots) (hK : va_K (dC, dI) fmCl [(cI, .int), (cZ, .boolean), (cJ, .long)] s) (hP : va_P (dC, dI) fmCl ((mw g0 b1 b2 b3 b4 b5 cI cZ y.1 y.2.1 y.2.2.1 y.2.2.2.1 y.2.2.2.2.1 y.2.2.2.2.2.1 y.2.2.2.2.2.2) ++ ((fw h0 a1 a2 a3 a4 a5 a6 cI x.1 x.2.1 x.2.2.1 x.2.2.2.1 x.2.2.2.2.1 x.2.2.2.2.2.1 x.2.2.2.2.2.2) ++ [(o, .inl (cJ, 1, .inr (.inl f)))])) H) (hD : va_D (fun q : Nat => s.heap.size ≤ q) ((mw g0 b1 b2 b3 b4 b5 cI cZ y.1 y.2.1 y.2.2.1 y.2.2.2.1 y.2.2.2.2.1 y.2.2.2.2.2.1 y.2.2.2.2.2.2) ++ ((fw h0 a1 a2 a3 a4 a5 a6 cI x.1 x.2.1 x.2.2.1 x.2.2.2.1 x.2.2.2.2.1 x.2.2.2.2.2.1 x.2.2.2.2.2.2) ++ [(o, .inl (cJ, 1, .inr (.inl f)))]))) (hS : va_S (fun q : Nat => s.heap.size ≤ q) s.heap H locs) {ls : Array Slot} (hl : lv_has ls 7 [(0, .ref b), (1, .ref h0), (2, .ref g0), (3, .ref o), (4, .int (nI i))])
    (K : ∀ (x' : FcS) (y' : MdS) (f' : Nat → Int64) (H : Heap) (locs : List Loc) (ls : Array Slot), fmS x' y' (n + 1) → va_P (dC, dI) fmCl ((mw g0 b1 b2 b3 b4 b5 cI cZ y'.1 y'.2.1 y'.2.2.1 y'.2.2.2.1 y'.2.2.2.2.1 y'.2.2.2.2.2.1 y'.2.2.2.2.2.2) ++ ((fw h0 a1 a2 a3 a4 a5 a6 cI x'.1 x'.2.1 x'.2.2.1 x'.2.2.2.1 x'.2.2.2.2.1 x'.2.2.2.2.2.1 x'.2.2.2.2.2.2) ++ [(o, .inl (cJ, 1, .inr (.inl f')))])) H → va_D (fun q : Nat => s.heap.size ≤ q) ((mw g0 b1 b2 b3 b4 b5 cI cZ y'.1 y'.2.1 y'.2.2.1 y'.2.2.2.1 y'.2.2.2.2.1 y'.2.2.2.2.2.1 y'.2.2.2.2.2.2) ++ ((fw h0 a1 a2 a3 a4 a5 a6 cI x'.1 x'.2.1 x'.2.2.1 x'.2.2.2.1 x'.2.2.2.2.1 x'.2.2.2.2.2.1 x'.2.2.2.2.2.2) ++ [(o, .inl (cJ, 1, .inr (.inl f')))])) → va_S (fun q : Nat => s.heap.size ≤ q) s.heap H locs → lv_has ls 7 [(0, .ref b), (1, .ref h0), (2, .ref g0), (3, .ref o), (4, .int (nI i))] → W p l e room_1 s m #[Value.ref b] below meth c H locs (cells + 1) (slots + 6) (lw_Z below #[Value.ref b] s) (F0 m 636 ls [])) :
    W p l e room_1 s m #[Value.ref b] below meth c H locs cells slots (lw_Z below #[Value.ref b] s) (F0 m 104 ls []) := by
  obtain ⟨hx, hb, hr, hml, hown, hts, hX, hbl, hlocks, hgv⟩ := C0
  have hbA : ¬ (fun q : Nat => s.heap.size ≤ q) b := Nat.not_le.mpr hbl
  have htsk := fun w h => hts w (wsL_law_in w h)
  have hOk : mdOk y.2.1 := hI.2.1
  have hAc : mdAc y.2.1 := hI.2.2.1
  refine lv_aload_n hx hb dL_law_104 rfl (lv_at hl 1 rfl) ?_
  refine lv_aload_n hx hb dL_law_105 rfl (lv_at hl 0 rfl) ?_
  refine lv_iload hx hb dL_law_106 (lv_at hl 4 rfl) ?_
  refine lv_iconst (v := nI 1) hx hb dL_law_108 (by decide) ?_
  refine lv_iadd hx hb dL_law_109 ?_
  refine xf_be (y := nI (i + 1)) (by exact nI_add _ _) ?_
  refine xf_sld hx hb hX hbl hbA hS (j := (i + 1)) (by omega) (by omega) dL_law_110 ?_
  refine lv_aload_n hx hb dL_law_111 rfl (lv_at hl 0 rfl) ?_
  refine lv_iload hx hb dL_law_112 (lv_at hl 4 rfl) ?_
  refine lv_iconst (v := nI 2) hx hb dL_law_114 (by decide) ?_
  refine lv_iadd hx hb dL_law_115 ?_
  refine xf_be (y := nI (i + 2)) (by exact nI_add _ _) ?_
  refine xf_sld hx hb hX hbl hbA hS (j := (i + 2)) (by omega) (by omega) dL_law_116 ?_
  refine lv_aload_n hx hb dL_law_117 rfl (lv_at hl 0 rfl) ?_
  refine lv_iload hx hb dL_law_118 (lv_at hl 4 rfl) ?_
  refine lv_iconst (v := nI 3) hx hb dL_law_120 (by decide) ?_
  refine lv_iadd hx hb dL_law_121 ?_
  refine xf_be (y := nI (i + 3)) (by exact nI_add _ _) ?_
  refine xf_sld hx hb hX hbl hbA hS (j := (i + 3)) (by omega) (by omega) dL_law_122 ?_
  have hPc : va_P (dC, dI) fmCl (fw h0 a1 a2 a3 a4 a5 a6 cI x.1 x.2.1 x.2.2.1 x.2.2.2.1 x.2.2.2.2.1 x.2.2.2.2.2.1 x.2.2.2.2.2.2) _ := xf_P_left (xf_P_right hP)
  have hDc : va_D (fun q : Nat => s.heap.size ≤ q) (fw h0 a1 a2 a3 a4 a5 a6 cI x.1 x.2.1 x.2.2.1 x.2.2.2.1 x.2.2.2.2.1 x.2.2.2.2.2.1 x.2.2.2.2.2.2) := xf_D_left (xf_D_right hD)
  have hKc := hK.sub (tys' := [(cI, .int)]) [0] rfl
  have hFc := xf_A_le hDc
  refine va_calli (va_runV (As := [.int (xs (i + 1)), .int (xs (i + 2)), .int (xs (i + 3))]) (rest := []) ⟨hx, hb, hml, hown, htsk⟩ (k_row l dC dI h0 a1 a2 a3 a4 a5 a6 cI x.1 x.2.1 x.2.2.1 x.2.2.2.1 x.2.2.2.2.1 x.2.2.2.2.2.1 x.2.2.2.2.2.2 (xs (i + 1)) (xs (i + 2)) (xs (i + 3))) (cwV 3 htsk gL_law_X0_row rfl rfl rfl (by decide +kernel) ⟨Nat.le_of_ble_eq_true rfl, Nat.le_of_ble_eq_true rfl⟩) (xf_preW (ci := 0) (RX0, TX0, 7) hKc hPc hDc rfl rfl) rfl rfl hl.1 rfl (lv_room (Nat.le_of_ble_eq_true rfl)) dL_law_123 ⟨by omega, by omega⟩) hS (fun q _ h => hFc q h) hFc (fun r_k u_k t9 H locs ht9 hvm9 hw_k hB9 hz9 hk9 hS => ?_)
  have hB9 := xf_hB ht9 hB9
  have hP : va_P (dC, dI) fmCl ((mw g0 b1 b2 b3 b4 b5 cI cZ y.1 y.2.1 y.2.2.1 y.2.2.2.1 y.2.2.2.2.1 y.2.2.2.2.2.1 y.2.2.2.2.2.2) ++ ((fw h0 a1 a2 a3 a4 a5 a6 cI u_k.1 u_k.2.1 u_k.2.2.1 u_k.2.2.2.1 u_k.2.2.2.2.1 u_k.2.2.2.2.2.1 u_k.2.2.2.2.2.2) ++ [(o, .inl (cJ, 1, .inr (.inl f)))])) H := xf_join (a := (mw g0 b1 b2 b3 b4 b5 cI cZ y.1 y.2.1 y.2.2.1 y.2.2.2.1 y.2.2.2.2.1 y.2.2.2.2.2.1 y.2.2.2.2.2.2)) (w := (fw h0 a1 a2 a3 a4 a5 a6 cI x.1 x.2.1 x.2.2.1 x.2.2.2.1 x.2.2.2.2.1 x.2.2.2.2.2.1 x.2.2.2.2.2.2)) (w1 := (fw h0 a1 a2 a3 a4 a5 a6 cI u_k.1 u_k.2.1 u_k.2.2.1 u_k.2.2.2.1 u_k.2.2.2.2.1 u_k.2.2.2.2.2.1 u_k.2.2.2.2.2.2)) (b := [(o, .inl (cJ, 1, .inr (.inl f)))]) hP hD hB9 hk9
  have hD : va_D (fun q : Nat => s.heap.size ≤ q) ((mw g0 b1 b2 b3 b4 b5 cI cZ y.1 y.2.1 y.2.2.1 y.2.2.2.1 y.2.2.2.2.1 y.2.2.2.2.2.1 y.2.2.2.2.2.2) ++ ((fw h0 a1 a2 a3 a4 a5 a6 cI u_k.1 u_k.2.1 u_k.2.2.1 u_k.2.2.2.1 u_k.2.2.2.2.1 u_k.2.2.2.2.2.1 u_k.2.2.2.2.2.2) ++ [(o, .inl (cJ, 1, .inr (.inl f)))])) := xf_wD hD rfl
  refine lv_aload_n hx hb dL_law_126 rfl (lv_at hl 2 rfl) ?_
  refine lv_aload_n hx hb dL_law_127 rfl (lv_at hl 0 rfl) ?_
  refine lv_iload hx hb dL_law_128 (lv_at hl 4 rfl) ?_
  refine lv_iconst (v := nI 1) hx hb dL_law_130 (by decide) ?_
  refine lv_iadd hx hb dL_law_131 ?_
  refine xf_be (y := nI (i + 1)) (by exact nI_add _ _) ?_
  refine xf_sld hx hb hX hbl hbA hS (j := (i + 1)) (by omega) (by omega) dL_law_132 ?_
  refine lv_aload_n hx hb dL_law_133 rfl (lv_at hl 0 rfl) ?_
  refine lv_iload hx hb dL_law_134 (lv_at hl 4 rfl) ?_
  refine lv_iconst (v := nI 2) hx hb dL_law_136 (by decide) ?_
  refine lv_iadd hx hb dL_law_137 ?_
  refine xf_be (y := nI (i + 2)) (by exact nI_add _ _) ?_
  refine xf_sld hx hb hX hbl hbA hS (j := (i + 2)) (by omega) (by omega) dL_law_138 ?_
  refine lv_aload_n hx hb dL_law_139 rfl (lv_at hl 0 rfl) ?_
  refine lv_iload hx hb dL_law_140 (lv_at hl 4 rfl) ?_
  refine lv_iconst (v := nI 3) hx hb dL_law_142 (by decide) ?_
  refine lv_iadd hx hb dL_law_143 ?_
  refine xf_be (y := nI (i + 3)) (by exact nI_add _ _) ?_
  refine xf_sld hx hb hX hbl hbA hS (j := (i + 3)) (by omega) (by omega) dL_law_144 ?_
  have hPc : va_P (dC, dI) fmCl (mw g0 b1 b2 b3 b4 b5 cI cZ y.1 y.2.1 y.2.2.1 y.2.2.2.1 y.2.2.2.2.1 y.2.2.2.2.2.1 y.2.2.2.2.2.2) _ := xf_P_left hP
  have hDc : va_D (fun q : Nat => s.heap.size ≤ q) (mw g0 b1 b2 b3 b4 b5 cI cZ y.1 y.2.1 y.2.2.1 y.2.2.2.1 y.2.2.2.2.1 y.2.2.2.2.2.1 y.2.2.2.2.2.2) := xf_D_left hD
  have hKc := hK.sub (tys' := [(cI, .int), (cZ, .boolean)]) [0, 1] rfl
  have hFc := xf_A_le hDc
  refine va_calli (va_runV (As := [.int (xs (i + 1)), .int (xs (i + 2)), .int (xs (i + 3))]) (rest := [.int r_k]) ⟨hx, hb, hml, hown, hts⟩ (m_row l dC dI g0 b1 b2 b3 b4 b5 cI cZ y.1 y.2.1 y.2.2.1 y.2.2.2.1 y.2.2.2.2.1 y.2.2.2.2.2.1 y.2.2.2.2.2.2 (xs (i + 1)) (xs (i + 2)) (xs (i + 3))) (cwV 3 hts gL_M_row rfl rfl rfl (by decide +kernel) ⟨Nat.le_of_ble_eq_true rfl, Nat.le_of_ble_eq_true rfl⟩) (xf_preW (ci := 1) (RX1, TM, 7) hKc hPc hDc rfl rfl) rfl rfl hl.1 rfl (lv_room (Nat.le_of_ble_eq_true rfl)) dL_law_145 ⟨by omega, by omega⟩) hS (fun q _ h => hFc q h) hFc (fun r_m u_m t9 H locs ht9 hvm9 hw_m hB9 hz9 hk9 hS => ?_)
  have hB9 := xf_hB ht9 hB9
  have hP0 : va_P (dC, dI) fmCl ([] ++ ((mw g0 b1 b2 b3 b4 b5 cI cZ y.1 y.2.1 y.2.2.1 y.2.2.2.1 y.2.2.2.2.1 y.2.2.2.2.2.1 y.2.2.2.2.2.2) ++ ((fw h0 a1 a2 a3 a4 a5 a6 cI u_k.1 u_k.2.1 u_k.2.2.1 u_k.2.2.2.1 u_k.2.2.2.2.1 u_k.2.2.2.2.2.1 u_k.2.2.2.2.2.2) ++ [(o, .inl (cJ, 1, .inr (.inl f)))]))) _ := hP
  have hD0 : va_D (fun q : Nat => s.heap.size ≤ q) ([] ++ ((mw g0 b1 b2 b3 b4 b5 cI cZ y.1 y.2.1 y.2.2.1 y.2.2.2.1 y.2.2.2.2.1 y.2.2.2.2.2.1 y.2.2.2.2.2.2) ++ ((fw h0 a1 a2 a3 a4 a5 a6 cI u_k.1 u_k.2.1 u_k.2.2.1 u_k.2.2.2.1 u_k.2.2.2.2.1 u_k.2.2.2.2.2.1 u_k.2.2.2.2.2.2) ++ [(o, .inl (cJ, 1, .inr (.inl f)))]))) := hD
  have hP : va_P (dC, dI) fmCl ((mw g0 b1 b2 b3 b4 b5 cI cZ u_m.1 u_m.2.1 u_m.2.2.1 u_m.2.2.2.1 u_m.2.2.2.2.1 u_m.2.2.2.2.2.1 u_m.2.2.2.2.2.2) ++ ((fw h0 a1 a2 a3 a4 a5 a6 cI u_k.1 u_k.2.1 u_k.2.2.1 u_k.2.2.2.1 u_k.2.2.2.2.1 u_k.2.2.2.2.2.1 u_k.2.2.2.2.2.2) ++ [(o, .inl (cJ, 1, .inr (.inl f)))])) H := xf_join (a := []) (w := (mw g0 b1 b2 b3 b4 b5 cI cZ y.1 y.2.1 y.2.2.1 y.2.2.2.1 y.2.2.2.2.1 y.2.2.2.2.2.1 y.2.2.2.2.2.2)) (w1 := (mw g0 b1 b2 b3 b4 b5 cI cZ u_m.1 u_m.2.1 u_m.2.2.1 u_m.2.2.2.1 u_m.2.2.2.2.1 u_m.2.2.2.2.2.1 u_m.2.2.2.2.2.2)) (b := ((fw h0 a1 a2 a3 a4 a5 a6 cI u_k.1 u_k.2.1 u_k.2.2.1 u_k.2.2.2.1 u_k.2.2.2.2.1 u_k.2.2.2.2.2.1 u_k.2.2.2.2.2.2) ++ [(o, .inl (cJ, 1, .inr (.inl f)))])) hP0 hD0 hB9 hk9
  have hD : va_D (fun q : Nat => s.heap.size ≤ q) ((mw g0 b1 b2 b3 b4 b5 cI cZ u_m.1 u_m.2.1 u_m.2.2.1 u_m.2.2.2.1 u_m.2.2.2.2.1 u_m.2.2.2.2.2.1 u_m.2.2.2.2.2.2) ++ ((fw h0 a1 a2 a3 a4 a5 a6 cI u_k.1 u_k.2.1 u_k.2.2.1 u_k.2.2.2.1 u_k.2.2.2.2.1 u_k.2.2.2.2.2.1 u_k.2.2.2.2.2.2) ++ [(o, .inl (cJ, 1, .inr (.inl f)))])) := xf_wD hD rfl
  refine lv_icmp_eq (tgt := 636) hx hb dL_law_148 (by decide) (fun c148 => ?_) (fun c148 => ?_)
  ·
    refine W.widen (k := cells + 1) (n := slots + 6) (by omega) (by omega) ?_
    exact K u_k u_m f H locs ls (by rw [show u_k = _ from congrArg Prod.snd hw_k, show u_m = _ from congrArg Prod.snd hw_m]; exact (fm_row x.2.2.2.2.2.1 y.2.2.2.2.1 hI hn (xs (i + 1)) (xs (i + 2)) (xs (i + 3))).2) hP hD hS (lv_sub hl [0, 1, 2, 3, 4] rfl)
  ·
    exact absurd ((congrArg Prod.fst hw_k).trans (((fm_row x.2.2.2.2.2.1 y.2.2.2.2.1 hI hn (xs (i + 1)) (xs (i + 2)) (xs (i + 3))).1).trans (congrArg Prod.fst hw_m).symm)) c148
set_option maxHeartbeats 4000000 in
set_option maxRecDepth 100000 in
theorem lc_1 {p : Program} {l : Launch} {e : Env} {s : State} {m : MethodId} {below : List Frame} {meth : Method} {c : Code} {b L : Nat} {xs : Nat → Int32} (hL : L ≤ 2048) (C0 : lw_At p s m meth c b L xs) {dC : Nat → ClassId} {dI : Nat → Nat → Nat} {h0 a1 a2 a3 a4 a5 a6 g0 b1 b2 b3 b4 b5 o : Nat} {cI cZ cJ : ClassId} (x : FcS) (y : MdS) (f : Nat → Int64) {n i : Nat} (hi : i + 4 ≤ L) (hn : n < 2 ^ 30) (hI : fmS x y n) {H : Heap} {locs : List Loc} {cells slots : Nat} (hrc : cells + 1 ≤ room_1.cells) (hrs : slots + 6 ≤ room_1.slots) (hK : va_K (dC, dI) fmCl [(cI, .int), (cZ, .boolean), (cJ, .long)] s) (hP : va_P (dC, dI) fmCl ((mw g0 b1 b2 b3 b4 b5 cI cZ y.1 y.2.1 y.2.2.1 y.2.2.2.1 y.2.2.2.2.1 y.2.2.2.2.2.1 y.2.2.2.2.2.2) ++ ((fw h0 a1 a2 a3 a4 a5 a6 cI x.1 x.2.1 x.2.2.1 x.2.2.2.1 x.2.2.2.2.1 x.2.2.2.2.2.1 x.2.2.2.2.2.2) ++ [(o, .inl (cJ, 1, .inr (.inl f)))])) H) (hD : va_D (fun q : Nat => s.heap.size ≤ q) ((mw g0 b1 b2 b3 b4 b5 cI cZ y.1 y.2.1 y.2.2.1 y.2.2.2.1 y.2.2.2.2.1 y.2.2.2.2.2.1 y.2.2.2.2.2.2) ++ ((fw h0 a1 a2 a3 a4 a5 a6 cI x.1 x.2.1 x.2.2.1 x.2.2.2.1 x.2.2.2.2.1 x.2.2.2.2.2.1 x.2.2.2.2.2.2) ++ [(o, .inl (cJ, 1, .inr (.inl f)))]))) (hS : va_S (fun q : Nat => s.heap.size ≤ q) s.heap H locs) {ls : Array Slot} (hl : lv_has ls 7 [(0, .ref b), (1, .ref h0), (2, .ref g0), (3, .ref o), (4, .int (nI i))])
    (K : ∀ (x' : FcS) (y' : MdS) (f' : Nat → Int64) (H : Heap) (locs : List Loc) (ls : Array Slot), fmS x' y' (n + 1) → va_P (dC, dI) fmCl ((mw g0 b1 b2 b3 b4 b5 cI cZ y'.1 y'.2.1 y'.2.2.1 y'.2.2.2.1 y'.2.2.2.2.1 y'.2.2.2.2.2.1 y'.2.2.2.2.2.2) ++ ((fw h0 a1 a2 a3 a4 a5 a6 cI x'.1 x'.2.1 x'.2.2.1 x'.2.2.2.1 x'.2.2.2.2.1 x'.2.2.2.2.2.1 x'.2.2.2.2.2.2) ++ [(o, .inl (cJ, 1, .inr (.inl f')))])) H → va_D (fun q : Nat => s.heap.size ≤ q) ((mw g0 b1 b2 b3 b4 b5 cI cZ y'.1 y'.2.1 y'.2.2.1 y'.2.2.2.1 y'.2.2.2.2.1 y'.2.2.2.2.2.1 y'.2.2.2.2.2.2) ++ ((fw h0 a1 a2 a3 a4 a5 a6 cI x'.1 x'.2.1 x'.2.2.1 x'.2.2.2.1 x'.2.2.2.2.1 x'.2.2.2.2.2.1 x'.2.2.2.2.2.2) ++ [(o, .inl (cJ, 1, .inr (.inl f')))])) → va_S (fun q : Nat => s.heap.size ≤ q) s.heap H locs → lv_has ls 7 [(0, .ref b), (1, .ref h0), (2, .ref g0), (3, .ref o), (4, .int (nI i))] → W p l e room_1 s m #[Value.ref b] below meth c H locs (cells + 1) (slots + 6) (lw_Z below #[Value.ref b] s) (F0 m 636 ls [])) :
    W p l e room_1 s m #[Value.ref b] below meth c H locs cells slots (lw_Z below #[Value.ref b] s) (F0 m 153 ls []) := by
  obtain ⟨hx, hb, hr, hml, hown, hts, hX, hbl, hlocks, hgv⟩ := C0
  have hbA : ¬ (fun q : Nat => s.heap.size ≤ q) b := Nat.not_le.mpr hbl
  have htsk := fun w h => hts w (wsL_law_in w h)
  have hOk : mdOk y.2.1 := hI.2.1
  have hAc : mdAc y.2.1 := hI.2.2.1
  refine lv_aload_n hx hb dL_law_153 rfl (lv_at hl 1 rfl) ?_
  refine lv_aload_n hx hb dL_law_154 rfl (lv_at hl 0 rfl) ?_
  refine lv_iload hx hb dL_law_155 (lv_at hl 4 rfl) ?_
  refine lv_iconst (v := nI 1) hx hb dL_law_157 (by decide) ?_
  refine lv_iadd hx hb dL_law_158 ?_
  refine xf_be (y := nI (i + 1)) (by exact nI_add _ _) ?_
  refine xf_sld hx hb hX hbl hbA hS (j := (i + 1)) (by omega) (by omega) dL_law_159 ?_
  refine lv_aload_n hx hb dL_law_160 rfl (lv_at hl 0 rfl) ?_
  refine lv_iload hx hb dL_law_161 (lv_at hl 4 rfl) ?_
  refine lv_iconst (v := nI 2) hx hb dL_law_163 (by decide) ?_
  refine lv_iadd hx hb dL_law_164 ?_
  refine xf_be (y := nI (i + 2)) (by exact nI_add _ _) ?_
  refine xf_sld hx hb hX hbl hbA hS (j := (i + 2)) (by omega) (by omega) dL_law_165 ?_
  refine lv_aload_n hx hb dL_law_166 rfl (lv_at hl 0 rfl) ?_
  refine lv_iload hx hb dL_law_167 (lv_at hl 4 rfl) ?_
  refine lv_iconst (v := nI 3) hx hb dL_law_169 (by decide) ?_
  refine lv_iadd hx hb dL_law_170 ?_
  refine xf_be (y := nI (i + 3)) (by exact nI_add _ _) ?_
  refine xf_sld hx hb hX hbl hbA hS (j := (i + 3)) (by omega) (by omega) dL_law_171 ?_
  have hPc : va_P (dC, dI) fmCl (fw h0 a1 a2 a3 a4 a5 a6 cI x.1 x.2.1 x.2.2.1 x.2.2.2.1 x.2.2.2.2.1 x.2.2.2.2.2.1 x.2.2.2.2.2.2) _ := xf_P_left (xf_P_right hP)
  have hDc : va_D (fun q : Nat => s.heap.size ≤ q) (fw h0 a1 a2 a3 a4 a5 a6 cI x.1 x.2.1 x.2.2.1 x.2.2.2.1 x.2.2.2.2.1 x.2.2.2.2.2.1 x.2.2.2.2.2.2) := xf_D_left (xf_D_right hD)
  have hKc := hK.sub (tys' := [(cI, .int)]) [0] rfl
  have hFc := xf_A_le hDc
  refine va_calli (va_runV (As := [.int (xs (i + 1)), .int (xs (i + 2)), .int (xs (i + 3))]) (rest := []) ⟨hx, hb, hml, hown, htsk⟩ (k_drop l dC dI h0 a1 a2 a3 a4 a5 a6 cI x.1 x.2.1 x.2.2.1 x.2.2.2.1 x.2.2.2.2.1 x.2.2.2.2.2.1 x.2.2.2.2.2.2 (xs (i + 1)) (xs (i + 2)) (xs (i + 3))) (cwV 3 htsk gL_law_X0_drop rfl rfl rfl (by decide +kernel) ⟨Nat.le_of_ble_eq_true rfl, Nat.le_of_ble_eq_true rfl⟩) (xf_preW (ci := 0) (RX0, TX0, 7) hKc hPc hDc rfl rfl) rfl rfl hl.1 rfl (lv_room (Nat.le_of_ble_eq_true rfl)) dL_law_172 ⟨by omega, by omega⟩) hS (fun q _ h => hFc q h) hFc (fun r_k u_k t9 H locs ht9 hvm9 hw_k hB9 hz9 hk9 hS => ?_)
  have hB9 := xf_hB ht9 hB9
  have hP : va_P (dC, dI) fmCl ((mw g0 b1 b2 b3 b4 b5 cI cZ y.1 y.2.1 y.2.2.1 y.2.2.2.1 y.2.2.2.2.1 y.2.2.2.2.2.1 y.2.2.2.2.2.2) ++ ((fw h0 a1 a2 a3 a4 a5 a6 cI u_k.1 u_k.2.1 u_k.2.2.1 u_k.2.2.2.1 u_k.2.2.2.2.1 u_k.2.2.2.2.2.1 u_k.2.2.2.2.2.2) ++ [(o, .inl (cJ, 1, .inr (.inl f)))])) H := xf_join (a := (mw g0 b1 b2 b3 b4 b5 cI cZ y.1 y.2.1 y.2.2.1 y.2.2.2.1 y.2.2.2.2.1 y.2.2.2.2.2.1 y.2.2.2.2.2.2)) (w := (fw h0 a1 a2 a3 a4 a5 a6 cI x.1 x.2.1 x.2.2.1 x.2.2.2.1 x.2.2.2.2.1 x.2.2.2.2.2.1 x.2.2.2.2.2.2)) (w1 := (fw h0 a1 a2 a3 a4 a5 a6 cI u_k.1 u_k.2.1 u_k.2.2.1 u_k.2.2.2.1 u_k.2.2.2.2.1 u_k.2.2.2.2.2.1 u_k.2.2.2.2.2.2)) (b := [(o, .inl (cJ, 1, .inr (.inl f)))]) hP hD hB9 hk9
  have hD : va_D (fun q : Nat => s.heap.size ≤ q) ((mw g0 b1 b2 b3 b4 b5 cI cZ y.1 y.2.1 y.2.2.1 y.2.2.2.1 y.2.2.2.2.1 y.2.2.2.2.2.1 y.2.2.2.2.2.2) ++ ((fw h0 a1 a2 a3 a4 a5 a6 cI u_k.1 u_k.2.1 u_k.2.2.1 u_k.2.2.2.1 u_k.2.2.2.2.1 u_k.2.2.2.2.2.1 u_k.2.2.2.2.2.2) ++ [(o, .inl (cJ, 1, .inr (.inl f)))])) := xf_wD hD rfl
  refine lv_aload_n hx hb dL_law_175 rfl (lv_at hl 2 rfl) ?_
  refine lv_aload_n hx hb dL_law_176 rfl (lv_at hl 0 rfl) ?_
  refine lv_iload hx hb dL_law_177 (lv_at hl 4 rfl) ?_
  refine lv_iconst (v := nI 1) hx hb dL_law_179 (by decide) ?_
  refine lv_iadd hx hb dL_law_180 ?_
  refine xf_be (y := nI (i + 1)) (by exact nI_add _ _) ?_
  refine xf_sld hx hb hX hbl hbA hS (j := (i + 1)) (by omega) (by omega) dL_law_181 ?_
  refine lv_aload_n hx hb dL_law_182 rfl (lv_at hl 0 rfl) ?_
  refine lv_iload hx hb dL_law_183 (lv_at hl 4 rfl) ?_
  refine lv_iconst (v := nI 2) hx hb dL_law_185 (by decide) ?_
  refine lv_iadd hx hb dL_law_186 ?_
  refine xf_be (y := nI (i + 2)) (by exact nI_add _ _) ?_
  refine xf_sld hx hb hX hbl hbA hS (j := (i + 2)) (by omega) (by omega) dL_law_187 ?_
  refine lv_aload_n hx hb dL_law_188 rfl (lv_at hl 0 rfl) ?_
  refine lv_iload hx hb dL_law_189 (lv_at hl 4 rfl) ?_
  refine lv_iconst (v := nI 3) hx hb dL_law_191 (by decide) ?_
  refine lv_iadd hx hb dL_law_192 ?_
  refine xf_be (y := nI (i + 3)) (by exact nI_add _ _) ?_
  refine xf_sld hx hb hX hbl hbA hS (j := (i + 3)) (by omega) (by omega) dL_law_193 ?_
  have hPc : va_P (dC, dI) fmCl (mw g0 b1 b2 b3 b4 b5 cI cZ y.1 y.2.1 y.2.2.1 y.2.2.2.1 y.2.2.2.2.1 y.2.2.2.2.2.1 y.2.2.2.2.2.2) _ := xf_P_left hP
  have hDc : va_D (fun q : Nat => s.heap.size ≤ q) (mw g0 b1 b2 b3 b4 b5 cI cZ y.1 y.2.1 y.2.2.1 y.2.2.2.1 y.2.2.2.2.1 y.2.2.2.2.2.1 y.2.2.2.2.2.2) := xf_D_left hD
  have hKc := hK.sub (tys' := [(cI, .int), (cZ, .boolean)]) [0, 1] rfl
  have hFc := xf_A_le hDc
  refine va_calli (va_runV (As := [.int (xs (i + 1)), .int (xs (i + 2)), .int (xs (i + 3))]) (rest := [.int r_k]) ⟨hx, hb, hml, hown, hts⟩ (m_drop l dC dI g0 b1 b2 b3 b4 b5 cI cZ y.1 y.2.1 y.2.2.1 y.2.2.2.1 y.2.2.2.2.1 y.2.2.2.2.2.1 y.2.2.2.2.2.2 (xs (i + 1)) (xs (i + 2)) (xs (i + 3))) (cwV 3 hts gL_M_drop rfl rfl rfl (by decide +kernel) ⟨Nat.le_of_ble_eq_true rfl, Nat.le_of_ble_eq_true rfl⟩) (xf_preW (ci := 1) (RX1, TM, 7) hKc hPc hDc rfl rfl) rfl rfl hl.1 rfl (lv_room (Nat.le_of_ble_eq_true rfl)) dL_law_194 ⟨by omega, by omega⟩) hS (fun q _ h => hFc q h) hFc (fun r_m u_m t9 H locs ht9 hvm9 hw_m hB9 hz9 hk9 hS => ?_)
  have hB9 := xf_hB ht9 hB9
  have hP0 : va_P (dC, dI) fmCl ([] ++ ((mw g0 b1 b2 b3 b4 b5 cI cZ y.1 y.2.1 y.2.2.1 y.2.2.2.1 y.2.2.2.2.1 y.2.2.2.2.2.1 y.2.2.2.2.2.2) ++ ((fw h0 a1 a2 a3 a4 a5 a6 cI u_k.1 u_k.2.1 u_k.2.2.1 u_k.2.2.2.1 u_k.2.2.2.2.1 u_k.2.2.2.2.2.1 u_k.2.2.2.2.2.2) ++ [(o, .inl (cJ, 1, .inr (.inl f)))]))) _ := hP
  have hD0 : va_D (fun q : Nat => s.heap.size ≤ q) ([] ++ ((mw g0 b1 b2 b3 b4 b5 cI cZ y.1 y.2.1 y.2.2.1 y.2.2.2.1 y.2.2.2.2.1 y.2.2.2.2.2.1 y.2.2.2.2.2.2) ++ ((fw h0 a1 a2 a3 a4 a5 a6 cI u_k.1 u_k.2.1 u_k.2.2.1 u_k.2.2.2.1 u_k.2.2.2.2.1 u_k.2.2.2.2.2.1 u_k.2.2.2.2.2.2) ++ [(o, .inl (cJ, 1, .inr (.inl f)))]))) := hD
  have hP : va_P (dC, dI) fmCl ((mw g0 b1 b2 b3 b4 b5 cI cZ u_m.1 u_m.2.1 u_m.2.2.1 u_m.2.2.2.1 u_m.2.2.2.2.1 u_m.2.2.2.2.2.1 u_m.2.2.2.2.2.2) ++ ((fw h0 a1 a2 a3 a4 a5 a6 cI u_k.1 u_k.2.1 u_k.2.2.1 u_k.2.2.2.1 u_k.2.2.2.2.1 u_k.2.2.2.2.2.1 u_k.2.2.2.2.2.2) ++ [(o, .inl (cJ, 1, .inr (.inl f)))])) H := xf_join (a := []) (w := (mw g0 b1 b2 b3 b4 b5 cI cZ y.1 y.2.1 y.2.2.1 y.2.2.2.1 y.2.2.2.2.1 y.2.2.2.2.2.1 y.2.2.2.2.2.2)) (w1 := (mw g0 b1 b2 b3 b4 b5 cI cZ u_m.1 u_m.2.1 u_m.2.2.1 u_m.2.2.2.1 u_m.2.2.2.2.1 u_m.2.2.2.2.2.1 u_m.2.2.2.2.2.2)) (b := ((fw h0 a1 a2 a3 a4 a5 a6 cI u_k.1 u_k.2.1 u_k.2.2.1 u_k.2.2.2.1 u_k.2.2.2.2.1 u_k.2.2.2.2.2.1 u_k.2.2.2.2.2.2) ++ [(o, .inl (cJ, 1, .inr (.inl f)))])) hP0 hD0 hB9 hk9
  have hD : va_D (fun q : Nat => s.heap.size ≤ q) ((mw g0 b1 b2 b3 b4 b5 cI cZ u_m.1 u_m.2.1 u_m.2.2.1 u_m.2.2.2.1 u_m.2.2.2.2.1 u_m.2.2.2.2.2.1 u_m.2.2.2.2.2.2) ++ ((fw h0 a1 a2 a3 a4 a5 a6 cI u_k.1 u_k.2.1 u_k.2.2.1 u_k.2.2.2.1 u_k.2.2.2.2.1 u_k.2.2.2.2.2.1 u_k.2.2.2.2.2.2) ++ [(o, .inl (cJ, 1, .inr (.inl f)))])) := xf_wD hD rfl
  refine lv_icmp_eq (tgt := 636) hx hb dL_law_197 (by decide) (fun c197 => ?_) (fun c197 => ?_)
  ·
    refine W.widen (k := cells + 1) (n := slots + 6) (by omega) (by omega) ?_
    exact K u_k u_m f H locs ls (by rw [show u_k = _ from congrArg Prod.snd hw_k, show u_m = _ from congrArg Prod.snd hw_m]; exact (fm_drop x.2.2.2.2.2.1 y.2.2.2.2.1 hI hn (xs (i + 1)) (xs (i + 2)) (xs (i + 3))).2) hP hD hS (lv_sub hl [0, 1, 2, 3, 4] rfl)
  ·
    exact absurd ((congrArg Prod.fst hw_k).trans (((fm_drop x.2.2.2.2.2.1 y.2.2.2.2.1 hI hn (xs (i + 1)) (xs (i + 2)) (xs (i + 3))).1).trans (congrArg Prod.fst hw_m).symm)) c197
set_option maxHeartbeats 4000000 in
set_option maxRecDepth 100000 in
theorem lc_2 {p : Program} {l : Launch} {e : Env} {s : State} {m : MethodId} {below : List Frame} {meth : Method} {c : Code} {b L : Nat} {xs : Nat → Int32} (hL : L ≤ 2048) (C0 : lw_At p s m meth c b L xs) {dC : Nat → ClassId} {dI : Nat → Nat → Nat} {h0 a1 a2 a3 a4 a5 a6 g0 b1 b2 b3 b4 b5 o : Nat} {cI cZ cJ : ClassId} (x : FcS) (y : MdS) (f : Nat → Int64) {n i : Nat} (hi : i + 4 ≤ L) (hn : n < 2 ^ 30) (hI : fmS x y n) {H : Heap} {locs : List Loc} {cells slots : Nat} (hrc : cells + 1 ≤ room_1.cells) (hrs : slots + 6 ≤ room_1.slots) (hK : va_K (dC, dI) fmCl [(cI, .int), (cZ, .boolean), (cJ, .long)] s) (hP : va_P (dC, dI) fmCl ((mw g0 b1 b2 b3 b4 b5 cI cZ y.1 y.2.1 y.2.2.1 y.2.2.2.1 y.2.2.2.2.1 y.2.2.2.2.2.1 y.2.2.2.2.2.2) ++ ((fw h0 a1 a2 a3 a4 a5 a6 cI x.1 x.2.1 x.2.2.1 x.2.2.2.1 x.2.2.2.2.1 x.2.2.2.2.2.1 x.2.2.2.2.2.2) ++ [(o, .inl (cJ, 1, .inr (.inl f)))])) H) (hD : va_D (fun q : Nat => s.heap.size ≤ q) ((mw g0 b1 b2 b3 b4 b5 cI cZ y.1 y.2.1 y.2.2.1 y.2.2.2.1 y.2.2.2.2.1 y.2.2.2.2.2.1 y.2.2.2.2.2.2) ++ ((fw h0 a1 a2 a3 a4 a5 a6 cI x.1 x.2.1 x.2.2.1 x.2.2.2.1 x.2.2.2.2.1 x.2.2.2.2.2.1 x.2.2.2.2.2.2) ++ [(o, .inl (cJ, 1, .inr (.inl f)))]))) (hS : va_S (fun q : Nat => s.heap.size ≤ q) s.heap H locs) {ls : Array Slot} (hl : lv_has ls 7 [(0, .ref b), (1, .ref h0), (2, .ref g0), (3, .ref o), (4, .int (nI i))])
    (K : ∀ (x' : FcS) (y' : MdS) (f' : Nat → Int64) (H : Heap) (locs : List Loc) (ls : Array Slot), fmS x' y' (n + 1) → va_P (dC, dI) fmCl ((mw g0 b1 b2 b3 b4 b5 cI cZ y'.1 y'.2.1 y'.2.2.1 y'.2.2.2.1 y'.2.2.2.2.1 y'.2.2.2.2.2.1 y'.2.2.2.2.2.2) ++ ((fw h0 a1 a2 a3 a4 a5 a6 cI x'.1 x'.2.1 x'.2.2.1 x'.2.2.2.1 x'.2.2.2.2.1 x'.2.2.2.2.2.1 x'.2.2.2.2.2.2) ++ [(o, .inl (cJ, 1, .inr (.inl f')))])) H → va_D (fun q : Nat => s.heap.size ≤ q) ((mw g0 b1 b2 b3 b4 b5 cI cZ y'.1 y'.2.1 y'.2.2.1 y'.2.2.2.1 y'.2.2.2.2.1 y'.2.2.2.2.2.1 y'.2.2.2.2.2.2) ++ ((fw h0 a1 a2 a3 a4 a5 a6 cI x'.1 x'.2.1 x'.2.2.1 x'.2.2.2.1 x'.2.2.2.2.1 x'.2.2.2.2.2.1 x'.2.2.2.2.2.2) ++ [(o, .inl (cJ, 1, .inr (.inl f')))])) → va_S (fun q : Nat => s.heap.size ≤ q) s.heap H locs → lv_has ls 7 [(0, .ref b), (1, .ref h0), (2, .ref g0), (3, .ref o), (4, .int (nI i))] → W p l e room_1 s m #[Value.ref b] below meth c H locs (cells + 1) (slots + 6) (lw_Z below #[Value.ref b] s) (F0 m 636 ls [])) :
    W p l e room_1 s m #[Value.ref b] below meth c H locs cells slots (lw_Z below #[Value.ref b] s) (F0 m 202 ls []) := by
  obtain ⟨hx, hb, hr, hml, hown, hts, hX, hbl, hlocks, hgv⟩ := C0
  have hbA : ¬ (fun q : Nat => s.heap.size ≤ q) b := Nat.not_le.mpr hbl
  have htsk := fun w h => hts w (wsL_law_in w h)
  have hOk : mdOk y.2.1 := hI.2.1
  have hAc : mdAc y.2.1 := hI.2.2.1
  refine lv_aload_n hx hb dL_law_202 rfl (lv_at hl 1 rfl) ?_
  refine lv_aload_n hx hb dL_law_203 rfl (lv_at hl 0 rfl) ?_
  refine lv_iload hx hb dL_law_204 (lv_at hl 4 rfl) ?_
  refine lv_iconst (v := nI 1) hx hb dL_law_206 (by decide) ?_
  refine lv_iadd hx hb dL_law_207 ?_
  refine xf_be (y := nI (i + 1)) (by exact nI_add _ _) ?_
  refine xf_sld hx hb hX hbl hbA hS (j := (i + 1)) (by omega) (by omega) dL_law_208 ?_
  refine lv_aload_n hx hb dL_law_209 rfl (lv_at hl 0 rfl) ?_
  refine lv_iload hx hb dL_law_210 (lv_at hl 4 rfl) ?_
  refine lv_iconst (v := nI 2) hx hb dL_law_212 (by decide) ?_
  refine lv_iadd hx hb dL_law_213 ?_
  refine xf_be (y := nI (i + 2)) (by exact nI_add _ _) ?_
  refine xf_sld hx hb hX hbl hbA hS (j := (i + 2)) (by omega) (by omega) dL_law_214 ?_
  have hPc : va_P (dC, dI) fmCl (fw h0 a1 a2 a3 a4 a5 a6 cI x.1 x.2.1 x.2.2.1 x.2.2.2.1 x.2.2.2.2.1 x.2.2.2.2.2.1 x.2.2.2.2.2.2) _ := xf_P_left (xf_P_right hP)
  have hDc : va_D (fun q : Nat => s.heap.size ≤ q) (fw h0 a1 a2 a3 a4 a5 a6 cI x.1 x.2.1 x.2.2.1 x.2.2.2.1 x.2.2.2.2.1 x.2.2.2.2.2.1 x.2.2.2.2.2.2) := xf_D_left (xf_D_right hD)
  have hKc := hK.sub (tys' := [(cI, .int)]) [0] rfl
  have hFc := xf_A_le hDc
  refine va_calli (va_runV (As := [.int (xs (i + 1)), .int (xs (i + 2))]) (rest := []) ⟨hx, hb, hml, hown, htsk⟩ (k_above l dC dI h0 a1 a2 a3 a4 a5 a6 cI x.1 x.2.1 x.2.2.1 x.2.2.2.1 x.2.2.2.2.1 x.2.2.2.2.2.1 x.2.2.2.2.2.2 (xs (i + 1)) (xs (i + 2))) (cwV 2 htsk gL_law_X0_above rfl rfl rfl (by decide +kernel) ⟨Nat.le_of_ble_eq_true rfl, Nat.le_of_ble_eq_true rfl⟩) (xf_preW (ci := 0) (RX0, TX0, 7) hKc hPc hDc rfl rfl) rfl rfl hl.1 rfl (lv_room (Nat.le_of_ble_eq_true rfl)) dL_law_215 ⟨by omega, by omega⟩) hS (fun q _ h => hFc q h) hFc (fun r_k u_k t9 H locs ht9 hvm9 hw_k hB9 hz9 hk9 hS => ?_)
  have hB9 := xf_hB ht9 hB9
  have hP : va_P (dC, dI) fmCl ((mw g0 b1 b2 b3 b4 b5 cI cZ y.1 y.2.1 y.2.2.1 y.2.2.2.1 y.2.2.2.2.1 y.2.2.2.2.2.1 y.2.2.2.2.2.2) ++ ((fw h0 a1 a2 a3 a4 a5 a6 cI u_k.1 u_k.2.1 u_k.2.2.1 u_k.2.2.2.1 u_k.2.2.2.2.1 u_k.2.2.2.2.2.1 u_k.2.2.2.2.2.2) ++ [(o, .inl (cJ, 1, .inr (.inl f)))])) H := xf_join (a := (mw g0 b1 b2 b3 b4 b5 cI cZ y.1 y.2.1 y.2.2.1 y.2.2.2.1 y.2.2.2.2.1 y.2.2.2.2.2.1 y.2.2.2.2.2.2)) (w := (fw h0 a1 a2 a3 a4 a5 a6 cI x.1 x.2.1 x.2.2.1 x.2.2.2.1 x.2.2.2.2.1 x.2.2.2.2.2.1 x.2.2.2.2.2.2)) (w1 := (fw h0 a1 a2 a3 a4 a5 a6 cI u_k.1 u_k.2.1 u_k.2.2.1 u_k.2.2.2.1 u_k.2.2.2.2.1 u_k.2.2.2.2.2.1 u_k.2.2.2.2.2.2)) (b := [(o, .inl (cJ, 1, .inr (.inl f)))]) hP hD hB9 hk9
  have hD : va_D (fun q : Nat => s.heap.size ≤ q) ((mw g0 b1 b2 b3 b4 b5 cI cZ y.1 y.2.1 y.2.2.1 y.2.2.2.1 y.2.2.2.2.1 y.2.2.2.2.2.1 y.2.2.2.2.2.2) ++ ((fw h0 a1 a2 a3 a4 a5 a6 cI u_k.1 u_k.2.1 u_k.2.2.1 u_k.2.2.2.1 u_k.2.2.2.2.1 u_k.2.2.2.2.2.1 u_k.2.2.2.2.2.2) ++ [(o, .inl (cJ, 1, .inr (.inl f)))])) := xf_wD hD rfl
  refine lv_aload_n hx hb dL_law_218 rfl (lv_at hl 2 rfl) ?_
  refine lv_aload_n hx hb dL_law_219 rfl (lv_at hl 0 rfl) ?_
  refine lv_iload hx hb dL_law_220 (lv_at hl 4 rfl) ?_
  refine lv_iconst (v := nI 1) hx hb dL_law_222 (by decide) ?_
  refine lv_iadd hx hb dL_law_223 ?_
  refine xf_be (y := nI (i + 1)) (by exact nI_add _ _) ?_
  refine xf_sld hx hb hX hbl hbA hS (j := (i + 1)) (by omega) (by omega) dL_law_224 ?_
  refine lv_aload_n hx hb dL_law_225 rfl (lv_at hl 0 rfl) ?_
  refine lv_iload hx hb dL_law_226 (lv_at hl 4 rfl) ?_
  refine lv_iconst (v := nI 2) hx hb dL_law_228 (by decide) ?_
  refine lv_iadd hx hb dL_law_229 ?_
  refine xf_be (y := nI (i + 2)) (by exact nI_add _ _) ?_
  refine xf_sld hx hb hX hbl hbA hS (j := (i + 2)) (by omega) (by omega) dL_law_230 ?_
  have hPc : va_P (dC, dI) fmCl (mw g0 b1 b2 b3 b4 b5 cI cZ y.1 y.2.1 y.2.2.1 y.2.2.2.1 y.2.2.2.2.1 y.2.2.2.2.2.1 y.2.2.2.2.2.2) _ := xf_P_left hP
  have hDc : va_D (fun q : Nat => s.heap.size ≤ q) (mw g0 b1 b2 b3 b4 b5 cI cZ y.1 y.2.1 y.2.2.1 y.2.2.2.1 y.2.2.2.2.1 y.2.2.2.2.2.1 y.2.2.2.2.2.2) := xf_D_left hD
  have hKc := hK.sub (tys' := [(cI, .int), (cZ, .boolean)]) [0, 1] rfl
  have hFc := xf_A_le hDc
  refine va_calli (va_runV (As := [.int (xs (i + 1)), .int (xs (i + 2))]) (rest := [.int r_k]) ⟨hx, hb, hml, hown, hts⟩ (m_above l dC dI g0 b1 b2 b3 b4 b5 cI cZ y.1 y.2.1 y.2.2.1 y.2.2.2.1 y.2.2.2.2.1 y.2.2.2.2.2.1 y.2.2.2.2.2.2 (xs (i + 1)) (xs (i + 2)) hOk hAc) (cwV 2 hts gL_M_above rfl rfl rfl (by decide +kernel) ⟨Nat.le_of_ble_eq_true rfl, Nat.le_of_ble_eq_true rfl⟩) (xf_preW (ci := 1) (RX1, TM, 7) hKc hPc hDc rfl rfl) rfl rfl hl.1 rfl (lv_room (Nat.le_of_ble_eq_true rfl)) dL_law_231 ⟨by omega, by omega⟩) hS (fun q _ h => hFc q h) hFc (fun r_m u_m t9 H locs ht9 hvm9 hw_m hB9 hz9 hk9 hS => ?_)
  have hB9 := xf_hB ht9 hB9
  have hP0 : va_P (dC, dI) fmCl ([] ++ ((mw g0 b1 b2 b3 b4 b5 cI cZ y.1 y.2.1 y.2.2.1 y.2.2.2.1 y.2.2.2.2.1 y.2.2.2.2.2.1 y.2.2.2.2.2.2) ++ ((fw h0 a1 a2 a3 a4 a5 a6 cI u_k.1 u_k.2.1 u_k.2.2.1 u_k.2.2.2.1 u_k.2.2.2.2.1 u_k.2.2.2.2.2.1 u_k.2.2.2.2.2.2) ++ [(o, .inl (cJ, 1, .inr (.inl f)))]))) _ := hP
  have hD0 : va_D (fun q : Nat => s.heap.size ≤ q) ([] ++ ((mw g0 b1 b2 b3 b4 b5 cI cZ y.1 y.2.1 y.2.2.1 y.2.2.2.1 y.2.2.2.2.1 y.2.2.2.2.2.1 y.2.2.2.2.2.2) ++ ((fw h0 a1 a2 a3 a4 a5 a6 cI u_k.1 u_k.2.1 u_k.2.2.1 u_k.2.2.2.1 u_k.2.2.2.2.1 u_k.2.2.2.2.2.1 u_k.2.2.2.2.2.2) ++ [(o, .inl (cJ, 1, .inr (.inl f)))]))) := hD
  have hP : va_P (dC, dI) fmCl ((mw g0 b1 b2 b3 b4 b5 cI cZ u_m.1 u_m.2.1 u_m.2.2.1 u_m.2.2.2.1 u_m.2.2.2.2.1 u_m.2.2.2.2.2.1 u_m.2.2.2.2.2.2) ++ ((fw h0 a1 a2 a3 a4 a5 a6 cI u_k.1 u_k.2.1 u_k.2.2.1 u_k.2.2.2.1 u_k.2.2.2.2.1 u_k.2.2.2.2.2.1 u_k.2.2.2.2.2.2) ++ [(o, .inl (cJ, 1, .inr (.inl f)))])) H := xf_join (a := []) (w := (mw g0 b1 b2 b3 b4 b5 cI cZ y.1 y.2.1 y.2.2.1 y.2.2.2.1 y.2.2.2.2.1 y.2.2.2.2.2.1 y.2.2.2.2.2.2)) (w1 := (mw g0 b1 b2 b3 b4 b5 cI cZ u_m.1 u_m.2.1 u_m.2.2.1 u_m.2.2.2.1 u_m.2.2.2.2.1 u_m.2.2.2.2.2.1 u_m.2.2.2.2.2.2)) (b := ((fw h0 a1 a2 a3 a4 a5 a6 cI u_k.1 u_k.2.1 u_k.2.2.1 u_k.2.2.2.1 u_k.2.2.2.2.1 u_k.2.2.2.2.2.1 u_k.2.2.2.2.2.2) ++ [(o, .inl (cJ, 1, .inr (.inl f)))])) hP0 hD0 hB9 hk9
  have hD : va_D (fun q : Nat => s.heap.size ≤ q) ((mw g0 b1 b2 b3 b4 b5 cI cZ u_m.1 u_m.2.1 u_m.2.2.1 u_m.2.2.2.1 u_m.2.2.2.2.1 u_m.2.2.2.2.2.1 u_m.2.2.2.2.2.2) ++ ((fw h0 a1 a2 a3 a4 a5 a6 cI u_k.1 u_k.2.1 u_k.2.2.1 u_k.2.2.2.1 u_k.2.2.2.2.1 u_k.2.2.2.2.2.1 u_k.2.2.2.2.2.2) ++ [(o, .inl (cJ, 1, .inr (.inl f)))])) := xf_wD hD rfl
  refine lv_icmp_eq (tgt := 636) hx hb dL_law_234 (by decide) (fun c234 => ?_) (fun c234 => ?_)
  ·
    refine W.widen (k := cells + 1) (n := slots + 6) (by omega) (by omega) ?_
    exact K u_k u_m f H locs ls (by rw [show u_k = _ from congrArg Prod.snd hw_k, show u_m = _ from congrArg Prod.snd hw_m]; exact (fm_above x.2.2.2.2.2.1 y.2.2.2.2.1 hI (xs (i + 1)) (xs (i + 2))).2) hP hD hS (lv_sub hl [0, 1, 2, 3, 4] rfl)
  ·
    exact absurd ((congrArg Prod.fst hw_k).trans (((fm_above x.2.2.2.2.2.1 y.2.2.2.2.1 hI (xs (i + 1)) (xs (i + 2))).1).trans (congrArg Prod.fst hw_m).symm)) c234
set_option maxHeartbeats 4000000 in
set_option maxRecDepth 100000 in
theorem lc_3 {p : Program} {l : Launch} {e : Env} {s : State} {m : MethodId} {below : List Frame} {meth : Method} {c : Code} {b L : Nat} {xs : Nat → Int32} (hL : L ≤ 2048) (C0 : lw_At p s m meth c b L xs) {dC : Nat → ClassId} {dI : Nat → Nat → Nat} {h0 a1 a2 a3 a4 a5 a6 g0 b1 b2 b3 b4 b5 o : Nat} {cI cZ cJ : ClassId} (x : FcS) (y : MdS) (f : Nat → Int64) {n i : Nat} (hi : i + 4 ≤ L) (hn : n < 2 ^ 30) (hI : fmS x y n) {H : Heap} {locs : List Loc} {cells slots : Nat} (hrc : cells + 1 ≤ room_1.cells) (hrs : slots + 6 ≤ room_1.slots) (hK : va_K (dC, dI) fmCl [(cI, .int), (cZ, .boolean), (cJ, .long)] s) (hP : va_P (dC, dI) fmCl ((mw g0 b1 b2 b3 b4 b5 cI cZ y.1 y.2.1 y.2.2.1 y.2.2.2.1 y.2.2.2.2.1 y.2.2.2.2.2.1 y.2.2.2.2.2.2) ++ ((fw h0 a1 a2 a3 a4 a5 a6 cI x.1 x.2.1 x.2.2.1 x.2.2.2.1 x.2.2.2.2.1 x.2.2.2.2.2.1 x.2.2.2.2.2.2) ++ [(o, .inl (cJ, 1, .inr (.inl f)))])) H) (hD : va_D (fun q : Nat => s.heap.size ≤ q) ((mw g0 b1 b2 b3 b4 b5 cI cZ y.1 y.2.1 y.2.2.1 y.2.2.2.1 y.2.2.2.2.1 y.2.2.2.2.2.1 y.2.2.2.2.2.2) ++ ((fw h0 a1 a2 a3 a4 a5 a6 cI x.1 x.2.1 x.2.2.1 x.2.2.2.1 x.2.2.2.2.1 x.2.2.2.2.2.1 x.2.2.2.2.2.2) ++ [(o, .inl (cJ, 1, .inr (.inl f)))]))) (hS : va_S (fun q : Nat => s.heap.size ≤ q) s.heap H locs) {ls : Array Slot} (hl : lv_has ls 7 [(0, .ref b), (1, .ref h0), (2, .ref g0), (3, .ref o), (4, .int (nI i))])
    (K : ∀ (x' : FcS) (y' : MdS) (f' : Nat → Int64) (H : Heap) (locs : List Loc) (ls : Array Slot), fmS x' y' (n + 1) → va_P (dC, dI) fmCl ((mw g0 b1 b2 b3 b4 b5 cI cZ y'.1 y'.2.1 y'.2.2.1 y'.2.2.2.1 y'.2.2.2.2.1 y'.2.2.2.2.2.1 y'.2.2.2.2.2.2) ++ ((fw h0 a1 a2 a3 a4 a5 a6 cI x'.1 x'.2.1 x'.2.2.1 x'.2.2.2.1 x'.2.2.2.2.1 x'.2.2.2.2.2.1 x'.2.2.2.2.2.2) ++ [(o, .inl (cJ, 1, .inr (.inl f')))])) H → va_D (fun q : Nat => s.heap.size ≤ q) ((mw g0 b1 b2 b3 b4 b5 cI cZ y'.1 y'.2.1 y'.2.2.1 y'.2.2.2.1 y'.2.2.2.2.1 y'.2.2.2.2.2.1 y'.2.2.2.2.2.2) ++ ((fw h0 a1 a2 a3 a4 a5 a6 cI x'.1 x'.2.1 x'.2.2.1 x'.2.2.2.1 x'.2.2.2.2.1 x'.2.2.2.2.2.1 x'.2.2.2.2.2.2) ++ [(o, .inl (cJ, 1, .inr (.inl f')))])) → va_S (fun q : Nat => s.heap.size ≤ q) s.heap H locs → lv_has ls 7 [(0, .ref b), (1, .ref h0), (2, .ref g0), (3, .ref o), (4, .int (nI i))] → W p l e room_1 s m #[Value.ref b] below meth c H locs (cells + 1) (slots + 6) (lw_Z below #[Value.ref b] s) (F0 m 636 ls [])) :
    W p l e room_1 s m #[Value.ref b] below meth c H locs cells slots (lw_Z below #[Value.ref b] s) (F0 m 239 ls []) := by
  obtain ⟨hx, hb, hr, hml, hown, hts, hX, hbl, hlocks, hgv⟩ := C0
  have hbA : ¬ (fun q : Nat => s.heap.size ≤ q) b := Nat.not_le.mpr hbl
  have htsk := fun w h => hts w (wsL_law_in w h)
  have hOk : mdOk y.2.1 := hI.2.1
  have hAc : mdAc y.2.1 := hI.2.2.1
  refine lv_aload_n hx hb dL_law_239 rfl (lv_at hl 1 rfl) ?_
  refine lv_aload_n hx hb dL_law_240 rfl (lv_at hl 0 rfl) ?_
  refine lv_iload hx hb dL_law_241 (lv_at hl 4 rfl) ?_
  refine lv_iconst (v := nI 1) hx hb dL_law_243 (by decide) ?_
  refine lv_iadd hx hb dL_law_244 ?_
  refine xf_be (y := nI (i + 1)) (by exact nI_add _ _) ?_
  refine xf_sld hx hb hX hbl hbA hS (j := (i + 1)) (by omega) (by omega) dL_law_245 ?_
  refine lv_aload_n hx hb dL_law_246 rfl (lv_at hl 0 rfl) ?_
  refine lv_iload hx hb dL_law_247 (lv_at hl 4 rfl) ?_
  refine lv_iconst (v := nI 2) hx hb dL_law_249 (by decide) ?_
  refine lv_iadd hx hb dL_law_250 ?_
  refine xf_be (y := nI (i + 2)) (by exact nI_add _ _) ?_
  refine xf_sld hx hb hX hbl hbA hS (j := (i + 2)) (by omega) (by omega) dL_law_251 ?_
  refine lv_aload_n hx hb dL_law_252 rfl (lv_at hl 0 rfl) ?_
  refine lv_iload hx hb dL_law_253 (lv_at hl 4 rfl) ?_
  refine lv_iconst (v := nI 3) hx hb dL_law_255 (by decide) ?_
  refine lv_iadd hx hb dL_law_256 ?_
  refine xf_be (y := nI (i + 3)) (by exact nI_add _ _) ?_
  refine xf_sld hx hb hX hbl hbA hS (j := (i + 3)) (by omega) (by omega) dL_law_257 ?_
  refine lv_if_eq (tgt := 265) hx hb dL_law_258 (by decide) (fun c258 => ?_) (fun c258 => ?_)
  ·
    refine lv_iconst (v := nI 0) hx hb dL_law_265 (by decide) ?_
    have hPc : va_P (dC, dI) fmCl (fw h0 a1 a2 a3 a4 a5 a6 cI x.1 x.2.1 x.2.2.1 x.2.2.2.1 x.2.2.2.2.1 x.2.2.2.2.2.1 x.2.2.2.2.2.2) _ := xf_P_left (xf_P_right hP)
    have hDc : va_D (fun q : Nat => s.heap.size ≤ q) (fw h0 a1 a2 a3 a4 a5 a6 cI x.1 x.2.1 x.2.2.1 x.2.2.2.1 x.2.2.2.2.1 x.2.2.2.2.2.1 x.2.2.2.2.2.2) := xf_D_left (xf_D_right hD)
    have hKc := hK.sub (tys' := [(cI, .int)]) [0] rfl
    have hFc := xf_A_le hDc
    refine va_calli (va_runV (As := [.int (xs (i + 1)), .int (xs (i + 2)), .int (nI 0)]) (rest := []) ⟨hx, hb, hml, hown, htsk⟩ (k_choose l dC dI h0 a1 a2 a3 a4 a5 a6 cI x.1 x.2.1 x.2.2.1 x.2.2.2.1 x.2.2.2.2.1 x.2.2.2.2.2.1 x.2.2.2.2.2.2 (xs (i + 1)) (xs (i + 2)) (nI 0)) (cwV 3 htsk gL_law_X0_choose rfl rfl rfl (by decide +kernel) ⟨Nat.le_of_ble_eq_true rfl, Nat.le_of_ble_eq_true rfl⟩) (xf_preW (ci := 0) (RX0, TX0, 7) hKc hPc hDc rfl rfl) rfl rfl hl.1 rfl (lv_room (Nat.le_of_ble_eq_true rfl)) dL_law_266 ⟨by omega, by omega⟩) hS (fun q _ h => hFc q h) hFc (fun r_k u_k t9 H locs ht9 hvm9 hw_k hB9 hz9 hk9 hS => ?_)
    have hB9 := xf_hB ht9 hB9
    have hP : va_P (dC, dI) fmCl ((mw g0 b1 b2 b3 b4 b5 cI cZ y.1 y.2.1 y.2.2.1 y.2.2.2.1 y.2.2.2.2.1 y.2.2.2.2.2.1 y.2.2.2.2.2.2) ++ ((fw h0 a1 a2 a3 a4 a5 a6 cI u_k.1 u_k.2.1 u_k.2.2.1 u_k.2.2.2.1 u_k.2.2.2.2.1 u_k.2.2.2.2.2.1 u_k.2.2.2.2.2.2) ++ [(o, .inl (cJ, 1, .inr (.inl f)))])) H := xf_join (a := (mw g0 b1 b2 b3 b4 b5 cI cZ y.1 y.2.1 y.2.2.1 y.2.2.2.1 y.2.2.2.2.1 y.2.2.2.2.2.1 y.2.2.2.2.2.2)) (w := (fw h0 a1 a2 a3 a4 a5 a6 cI x.1 x.2.1 x.2.2.1 x.2.2.2.1 x.2.2.2.2.1 x.2.2.2.2.2.1 x.2.2.2.2.2.2)) (w1 := (fw h0 a1 a2 a3 a4 a5 a6 cI u_k.1 u_k.2.1 u_k.2.2.1 u_k.2.2.2.1 u_k.2.2.2.2.1 u_k.2.2.2.2.2.1 u_k.2.2.2.2.2.2)) (b := [(o, .inl (cJ, 1, .inr (.inl f)))]) hP hD hB9 hk9
    have hD : va_D (fun q : Nat => s.heap.size ≤ q) ((mw g0 b1 b2 b3 b4 b5 cI cZ y.1 y.2.1 y.2.2.1 y.2.2.2.1 y.2.2.2.2.1 y.2.2.2.2.2.1 y.2.2.2.2.2.2) ++ ((fw h0 a1 a2 a3 a4 a5 a6 cI u_k.1 u_k.2.1 u_k.2.2.1 u_k.2.2.2.1 u_k.2.2.2.2.1 u_k.2.2.2.2.2.1 u_k.2.2.2.2.2.2) ++ [(o, .inl (cJ, 1, .inr (.inl f)))])) := xf_wD hD rfl
    refine lv_aload_n hx hb dL_law_269 rfl (lv_at hl 2 rfl) ?_
    refine lv_aload_n hx hb dL_law_270 rfl (lv_at hl 0 rfl) ?_
    refine lv_iload hx hb dL_law_271 (lv_at hl 4 rfl) ?_
    refine lv_iconst (v := nI 1) hx hb dL_law_273 (by decide) ?_
    refine lv_iadd hx hb dL_law_274 ?_
    refine xf_be (y := nI (i + 1)) (by exact nI_add _ _) ?_
    refine xf_sld hx hb hX hbl hbA hS (j := (i + 1)) (by omega) (by omega) dL_law_275 ?_
    refine lv_aload_n hx hb dL_law_276 rfl (lv_at hl 0 rfl) ?_
    refine lv_iload hx hb dL_law_277 (lv_at hl 4 rfl) ?_
    refine lv_iconst (v := nI 2) hx hb dL_law_279 (by decide) ?_
    refine lv_iadd hx hb dL_law_280 ?_
    refine xf_be (y := nI (i + 2)) (by exact nI_add _ _) ?_
    refine xf_sld hx hb hX hbl hbA hS (j := (i + 2)) (by omega) (by omega) dL_law_281 ?_
    refine lv_aload_n hx hb dL_law_282 rfl (lv_at hl 0 rfl) ?_
    refine lv_iload hx hb dL_law_283 (lv_at hl 4 rfl) ?_
    refine lv_iconst (v := nI 3) hx hb dL_law_285 (by decide) ?_
    refine lv_iadd hx hb dL_law_286 ?_
    refine xf_be (y := nI (i + 3)) (by exact nI_add _ _) ?_
    refine xf_sld hx hb hX hbl hbA hS (j := (i + 3)) (by omega) (by omega) dL_law_287 ?_
    refine lv_if_eq (tgt := 295) hx hb dL_law_288 (by decide) (fun c288 => ?_) (fun c288 => ?_)
    ·
      refine lv_iconst (v := nI 0) hx hb dL_law_295 (by decide) ?_
      have hPc : va_P (dC, dI) fmCl (mw g0 b1 b2 b3 b4 b5 cI cZ y.1 y.2.1 y.2.2.1 y.2.2.2.1 y.2.2.2.2.1 y.2.2.2.2.2.1 y.2.2.2.2.2.2) _ := xf_P_left hP
      have hDc : va_D (fun q : Nat => s.heap.size ≤ q) (mw g0 b1 b2 b3 b4 b5 cI cZ y.1 y.2.1 y.2.2.1 y.2.2.2.1 y.2.2.2.2.1 y.2.2.2.2.2.1 y.2.2.2.2.2.2) := xf_D_left hD
      have hKc := hK.sub (tys' := [(cI, .int), (cZ, .boolean)]) [0, 1] rfl
      have hFc := xf_A_le hDc
      refine va_calli (va_runV (As := [.int (xs (i + 1)), .int (xs (i + 2)), .int (nI 0)]) (rest := [.int r_k]) ⟨hx, hb, hml, hown, hts⟩ (m_choose l dC dI g0 b1 b2 b3 b4 b5 cI cZ y.1 y.2.1 y.2.2.1 y.2.2.2.1 y.2.2.2.2.1 y.2.2.2.2.2.1 y.2.2.2.2.2.2 (xs (i + 1)) (xs (i + 2)) false hOk hAc) (cwV 3 hts gL_M_choose rfl rfl rfl (by decide +kernel) ⟨Nat.le_of_ble_eq_true rfl, Nat.le_of_ble_eq_true rfl⟩) (xf_preW (ci := 1) (RX1, TM, 7) hKc hPc hDc rfl rfl) rfl rfl hl.1 rfl (lv_room (Nat.le_of_ble_eq_true rfl)) dL_law_296 ⟨by omega, by omega⟩) hS (fun q _ h => hFc q h) hFc (fun r_m u_m t9 H locs ht9 hvm9 hw_m hB9 hz9 hk9 hS => ?_)
      have hB9 := xf_hB ht9 hB9
      have hP0 : va_P (dC, dI) fmCl ([] ++ ((mw g0 b1 b2 b3 b4 b5 cI cZ y.1 y.2.1 y.2.2.1 y.2.2.2.1 y.2.2.2.2.1 y.2.2.2.2.2.1 y.2.2.2.2.2.2) ++ ((fw h0 a1 a2 a3 a4 a5 a6 cI u_k.1 u_k.2.1 u_k.2.2.1 u_k.2.2.2.1 u_k.2.2.2.2.1 u_k.2.2.2.2.2.1 u_k.2.2.2.2.2.2) ++ [(o, .inl (cJ, 1, .inr (.inl f)))]))) _ := hP
      have hD0 : va_D (fun q : Nat => s.heap.size ≤ q) ([] ++ ((mw g0 b1 b2 b3 b4 b5 cI cZ y.1 y.2.1 y.2.2.1 y.2.2.2.1 y.2.2.2.2.1 y.2.2.2.2.2.1 y.2.2.2.2.2.2) ++ ((fw h0 a1 a2 a3 a4 a5 a6 cI u_k.1 u_k.2.1 u_k.2.2.1 u_k.2.2.2.1 u_k.2.2.2.2.1 u_k.2.2.2.2.2.1 u_k.2.2.2.2.2.2) ++ [(o, .inl (cJ, 1, .inr (.inl f)))]))) := hD
      have hP : va_P (dC, dI) fmCl ((mw g0 b1 b2 b3 b4 b5 cI cZ u_m.1 u_m.2.1 u_m.2.2.1 u_m.2.2.2.1 u_m.2.2.2.2.1 u_m.2.2.2.2.2.1 u_m.2.2.2.2.2.2) ++ ((fw h0 a1 a2 a3 a4 a5 a6 cI u_k.1 u_k.2.1 u_k.2.2.1 u_k.2.2.2.1 u_k.2.2.2.2.1 u_k.2.2.2.2.2.1 u_k.2.2.2.2.2.2) ++ [(o, .inl (cJ, 1, .inr (.inl f)))])) H := xf_join (a := []) (w := (mw g0 b1 b2 b3 b4 b5 cI cZ y.1 y.2.1 y.2.2.1 y.2.2.2.1 y.2.2.2.2.1 y.2.2.2.2.2.1 y.2.2.2.2.2.2)) (w1 := (mw g0 b1 b2 b3 b4 b5 cI cZ u_m.1 u_m.2.1 u_m.2.2.1 u_m.2.2.2.1 u_m.2.2.2.2.1 u_m.2.2.2.2.2.1 u_m.2.2.2.2.2.2)) (b := ((fw h0 a1 a2 a3 a4 a5 a6 cI u_k.1 u_k.2.1 u_k.2.2.1 u_k.2.2.2.1 u_k.2.2.2.2.1 u_k.2.2.2.2.2.1 u_k.2.2.2.2.2.2) ++ [(o, .inl (cJ, 1, .inr (.inl f)))])) hP0 hD0 hB9 hk9
      have hD : va_D (fun q : Nat => s.heap.size ≤ q) ((mw g0 b1 b2 b3 b4 b5 cI cZ u_m.1 u_m.2.1 u_m.2.2.1 u_m.2.2.2.1 u_m.2.2.2.2.1 u_m.2.2.2.2.2.1 u_m.2.2.2.2.2.2) ++ ((fw h0 a1 a2 a3 a4 a5 a6 cI u_k.1 u_k.2.1 u_k.2.2.1 u_k.2.2.2.1 u_k.2.2.2.2.1 u_k.2.2.2.2.2.1 u_k.2.2.2.2.2.2) ++ [(o, .inl (cJ, 1, .inr (.inl f)))])) := xf_wD hD rfl
      refine lv_icmp_eq (tgt := 636) hx hb dL_law_299 (by decide) (fun c299 => ?_) (fun c299 => ?_)
      ·
        refine W.widen (k := cells + 1) (n := slots + 6) (by omega) (by omega) ?_
        exact K u_k u_m f H locs ls (by rw [show u_k = _ from congrArg Prod.snd hw_k, show u_m = _ from congrArg Prod.snd hw_m]; exact (fm_choose x.2.2.2.2.2.1 y.2.2.2.2.1 hI (xs (i + 1)) (xs (i + 2)) false).2) hP hD hS (lv_sub hl [0, 1, 2, 3, 4] rfl)
      ·
        exact absurd ((congrArg Prod.fst hw_k).trans ((fm_choose x.2.2.2.2.2.1 y.2.2.2.2.1 hI (xs (i + 1)) (xs (i + 2)) false).1.trans (congrArg Prod.fst hw_m).symm)) c299
    ·
      exact absurd c258 c288
  ·
    refine lv_iconst (v := nI 1) hx hb dL_law_261 (by decide) ?_
    refine lv_goto (tgt := 266) hx hb dL_law_262 (by decide) ?_
    have hPc : va_P (dC, dI) fmCl (fw h0 a1 a2 a3 a4 a5 a6 cI x.1 x.2.1 x.2.2.1 x.2.2.2.1 x.2.2.2.2.1 x.2.2.2.2.2.1 x.2.2.2.2.2.2) _ := xf_P_left (xf_P_right hP)
    have hDc : va_D (fun q : Nat => s.heap.size ≤ q) (fw h0 a1 a2 a3 a4 a5 a6 cI x.1 x.2.1 x.2.2.1 x.2.2.2.1 x.2.2.2.2.1 x.2.2.2.2.2.1 x.2.2.2.2.2.2) := xf_D_left (xf_D_right hD)
    have hKc := hK.sub (tys' := [(cI, .int)]) [0] rfl
    have hFc := xf_A_le hDc
    refine va_calli (va_runV (As := [.int (xs (i + 1)), .int (xs (i + 2)), .int (nI 1)]) (rest := []) ⟨hx, hb, hml, hown, htsk⟩ (k_choose l dC dI h0 a1 a2 a3 a4 a5 a6 cI x.1 x.2.1 x.2.2.1 x.2.2.2.1 x.2.2.2.2.1 x.2.2.2.2.2.1 x.2.2.2.2.2.2 (xs (i + 1)) (xs (i + 2)) (nI 1)) (cwV 3 htsk gL_law_X0_choose rfl rfl rfl (by decide +kernel) ⟨Nat.le_of_ble_eq_true rfl, Nat.le_of_ble_eq_true rfl⟩) (xf_preW (ci := 0) (RX0, TX0, 7) hKc hPc hDc rfl rfl) rfl rfl hl.1 rfl (lv_room (Nat.le_of_ble_eq_true rfl)) dL_law_266 ⟨by omega, by omega⟩) hS (fun q _ h => hFc q h) hFc (fun r_k u_k t9 H locs ht9 hvm9 hw_k hB9 hz9 hk9 hS => ?_)
    have hB9 := xf_hB ht9 hB9
    have hP : va_P (dC, dI) fmCl ((mw g0 b1 b2 b3 b4 b5 cI cZ y.1 y.2.1 y.2.2.1 y.2.2.2.1 y.2.2.2.2.1 y.2.2.2.2.2.1 y.2.2.2.2.2.2) ++ ((fw h0 a1 a2 a3 a4 a5 a6 cI u_k.1 u_k.2.1 u_k.2.2.1 u_k.2.2.2.1 u_k.2.2.2.2.1 u_k.2.2.2.2.2.1 u_k.2.2.2.2.2.2) ++ [(o, .inl (cJ, 1, .inr (.inl f)))])) H := xf_join (a := (mw g0 b1 b2 b3 b4 b5 cI cZ y.1 y.2.1 y.2.2.1 y.2.2.2.1 y.2.2.2.2.1 y.2.2.2.2.2.1 y.2.2.2.2.2.2)) (w := (fw h0 a1 a2 a3 a4 a5 a6 cI x.1 x.2.1 x.2.2.1 x.2.2.2.1 x.2.2.2.2.1 x.2.2.2.2.2.1 x.2.2.2.2.2.2)) (w1 := (fw h0 a1 a2 a3 a4 a5 a6 cI u_k.1 u_k.2.1 u_k.2.2.1 u_k.2.2.2.1 u_k.2.2.2.2.1 u_k.2.2.2.2.2.1 u_k.2.2.2.2.2.2)) (b := [(o, .inl (cJ, 1, .inr (.inl f)))]) hP hD hB9 hk9
    have hD : va_D (fun q : Nat => s.heap.size ≤ q) ((mw g0 b1 b2 b3 b4 b5 cI cZ y.1 y.2.1 y.2.2.1 y.2.2.2.1 y.2.2.2.2.1 y.2.2.2.2.2.1 y.2.2.2.2.2.2) ++ ((fw h0 a1 a2 a3 a4 a5 a6 cI u_k.1 u_k.2.1 u_k.2.2.1 u_k.2.2.2.1 u_k.2.2.2.2.1 u_k.2.2.2.2.2.1 u_k.2.2.2.2.2.2) ++ [(o, .inl (cJ, 1, .inr (.inl f)))])) := xf_wD hD rfl
    refine lv_aload_n hx hb dL_law_269 rfl (lv_at hl 2 rfl) ?_
    refine lv_aload_n hx hb dL_law_270 rfl (lv_at hl 0 rfl) ?_
    refine lv_iload hx hb dL_law_271 (lv_at hl 4 rfl) ?_
    refine lv_iconst (v := nI 1) hx hb dL_law_273 (by decide) ?_
    refine lv_iadd hx hb dL_law_274 ?_
    refine xf_be (y := nI (i + 1)) (by exact nI_add _ _) ?_
    refine xf_sld hx hb hX hbl hbA hS (j := (i + 1)) (by omega) (by omega) dL_law_275 ?_
    refine lv_aload_n hx hb dL_law_276 rfl (lv_at hl 0 rfl) ?_
    refine lv_iload hx hb dL_law_277 (lv_at hl 4 rfl) ?_
    refine lv_iconst (v := nI 2) hx hb dL_law_279 (by decide) ?_
    refine lv_iadd hx hb dL_law_280 ?_
    refine xf_be (y := nI (i + 2)) (by exact nI_add _ _) ?_
    refine xf_sld hx hb hX hbl hbA hS (j := (i + 2)) (by omega) (by omega) dL_law_281 ?_
    refine lv_aload_n hx hb dL_law_282 rfl (lv_at hl 0 rfl) ?_
    refine lv_iload hx hb dL_law_283 (lv_at hl 4 rfl) ?_
    refine lv_iconst (v := nI 3) hx hb dL_law_285 (by decide) ?_
    refine lv_iadd hx hb dL_law_286 ?_
    refine xf_be (y := nI (i + 3)) (by exact nI_add _ _) ?_
    refine xf_sld hx hb hX hbl hbA hS (j := (i + 3)) (by omega) (by omega) dL_law_287 ?_
    refine lv_if_eq (tgt := 295) hx hb dL_law_288 (by decide) (fun c288 => ?_) (fun c288 => ?_)
    ·
      exact absurd c288 c258
    ·
      refine lv_iconst (v := nI 1) hx hb dL_law_291 (by decide) ?_
      refine lv_goto (tgt := 296) hx hb dL_law_292 (by decide) ?_
      have hPc : va_P (dC, dI) fmCl (mw g0 b1 b2 b3 b4 b5 cI cZ y.1 y.2.1 y.2.2.1 y.2.2.2.1 y.2.2.2.2.1 y.2.2.2.2.2.1 y.2.2.2.2.2.2) _ := xf_P_left hP
      have hDc : va_D (fun q : Nat => s.heap.size ≤ q) (mw g0 b1 b2 b3 b4 b5 cI cZ y.1 y.2.1 y.2.2.1 y.2.2.2.1 y.2.2.2.2.1 y.2.2.2.2.2.1 y.2.2.2.2.2.2) := xf_D_left hD
      have hKc := hK.sub (tys' := [(cI, .int), (cZ, .boolean)]) [0, 1] rfl
      have hFc := xf_A_le hDc
      refine va_calli (va_runV (As := [.int (xs (i + 1)), .int (xs (i + 2)), .int (nI 1)]) (rest := [.int r_k]) ⟨hx, hb, hml, hown, hts⟩ (m_choose l dC dI g0 b1 b2 b3 b4 b5 cI cZ y.1 y.2.1 y.2.2.1 y.2.2.2.1 y.2.2.2.2.1 y.2.2.2.2.2.1 y.2.2.2.2.2.2 (xs (i + 1)) (xs (i + 2)) true hOk hAc) (cwV 3 hts gL_M_choose rfl rfl rfl (by decide +kernel) ⟨Nat.le_of_ble_eq_true rfl, Nat.le_of_ble_eq_true rfl⟩) (xf_preW (ci := 1) (RX1, TM, 7) hKc hPc hDc rfl rfl) rfl rfl hl.1 rfl (lv_room (Nat.le_of_ble_eq_true rfl)) dL_law_296 ⟨by omega, by omega⟩) hS (fun q _ h => hFc q h) hFc (fun r_m u_m t9 H locs ht9 hvm9 hw_m hB9 hz9 hk9 hS => ?_)
      have hB9 := xf_hB ht9 hB9
      have hP0 : va_P (dC, dI) fmCl ([] ++ ((mw g0 b1 b2 b3 b4 b5 cI cZ y.1 y.2.1 y.2.2.1 y.2.2.2.1 y.2.2.2.2.1 y.2.2.2.2.2.1 y.2.2.2.2.2.2) ++ ((fw h0 a1 a2 a3 a4 a5 a6 cI u_k.1 u_k.2.1 u_k.2.2.1 u_k.2.2.2.1 u_k.2.2.2.2.1 u_k.2.2.2.2.2.1 u_k.2.2.2.2.2.2) ++ [(o, .inl (cJ, 1, .inr (.inl f)))]))) _ := hP
      have hD0 : va_D (fun q : Nat => s.heap.size ≤ q) ([] ++ ((mw g0 b1 b2 b3 b4 b5 cI cZ y.1 y.2.1 y.2.2.1 y.2.2.2.1 y.2.2.2.2.1 y.2.2.2.2.2.1 y.2.2.2.2.2.2) ++ ((fw h0 a1 a2 a3 a4 a5 a6 cI u_k.1 u_k.2.1 u_k.2.2.1 u_k.2.2.2.1 u_k.2.2.2.2.1 u_k.2.2.2.2.2.1 u_k.2.2.2.2.2.2) ++ [(o, .inl (cJ, 1, .inr (.inl f)))]))) := hD
      have hP : va_P (dC, dI) fmCl ((mw g0 b1 b2 b3 b4 b5 cI cZ u_m.1 u_m.2.1 u_m.2.2.1 u_m.2.2.2.1 u_m.2.2.2.2.1 u_m.2.2.2.2.2.1 u_m.2.2.2.2.2.2) ++ ((fw h0 a1 a2 a3 a4 a5 a6 cI u_k.1 u_k.2.1 u_k.2.2.1 u_k.2.2.2.1 u_k.2.2.2.2.1 u_k.2.2.2.2.2.1 u_k.2.2.2.2.2.2) ++ [(o, .inl (cJ, 1, .inr (.inl f)))])) H := xf_join (a := []) (w := (mw g0 b1 b2 b3 b4 b5 cI cZ y.1 y.2.1 y.2.2.1 y.2.2.2.1 y.2.2.2.2.1 y.2.2.2.2.2.1 y.2.2.2.2.2.2)) (w1 := (mw g0 b1 b2 b3 b4 b5 cI cZ u_m.1 u_m.2.1 u_m.2.2.1 u_m.2.2.2.1 u_m.2.2.2.2.1 u_m.2.2.2.2.2.1 u_m.2.2.2.2.2.2)) (b := ((fw h0 a1 a2 a3 a4 a5 a6 cI u_k.1 u_k.2.1 u_k.2.2.1 u_k.2.2.2.1 u_k.2.2.2.2.1 u_k.2.2.2.2.2.1 u_k.2.2.2.2.2.2) ++ [(o, .inl (cJ, 1, .inr (.inl f)))])) hP0 hD0 hB9 hk9
      have hD : va_D (fun q : Nat => s.heap.size ≤ q) ((mw g0 b1 b2 b3 b4 b5 cI cZ u_m.1 u_m.2.1 u_m.2.2.1 u_m.2.2.2.1 u_m.2.2.2.2.1 u_m.2.2.2.2.2.1 u_m.2.2.2.2.2.2) ++ ((fw h0 a1 a2 a3 a4 a5 a6 cI u_k.1 u_k.2.1 u_k.2.2.1 u_k.2.2.2.1 u_k.2.2.2.2.1 u_k.2.2.2.2.2.1 u_k.2.2.2.2.2.2) ++ [(o, .inl (cJ, 1, .inr (.inl f)))])) := xf_wD hD rfl
      refine lv_icmp_eq (tgt := 636) hx hb dL_law_299 (by decide) (fun c299 => ?_) (fun c299 => ?_)
      ·
        refine W.widen (k := cells + 1) (n := slots + 6) (by omega) (by omega) ?_
        exact K u_k u_m f H locs ls (by rw [show u_k = _ from congrArg Prod.snd hw_k, show u_m = _ from congrArg Prod.snd hw_m]; exact (fm_choose x.2.2.2.2.2.1 y.2.2.2.2.1 hI (xs (i + 1)) (xs (i + 2)) true).2) hP hD hS (lv_sub hl [0, 1, 2, 3, 4] rfl)
      ·
        exact absurd ((congrArg Prod.fst hw_k).trans ((fm_choose x.2.2.2.2.2.1 y.2.2.2.2.1 hI (xs (i + 1)) (xs (i + 2)) true).1.trans (congrArg Prod.fst hw_m).symm)) c299
set_option maxHeartbeats 4000000 in
set_option maxRecDepth 100000 in
theorem lc_4 {p : Program} {l : Launch} {e : Env} {s : State} {m : MethodId} {below : List Frame} {meth : Method} {c : Code} {b L : Nat} {xs : Nat → Int32} (hL : L ≤ 2048) (C0 : lw_At p s m meth c b L xs) {dC : Nat → ClassId} {dI : Nat → Nat → Nat} {h0 a1 a2 a3 a4 a5 a6 g0 b1 b2 b3 b4 b5 o : Nat} {cI cZ cJ : ClassId} (x : FcS) (y : MdS) (f : Nat → Int64) {n i : Nat} (hi : i + 4 ≤ L) (hn : n < 2 ^ 30) (hI : fmS x y n) {H : Heap} {locs : List Loc} {cells slots : Nat} (hrc : cells + 1 ≤ room_1.cells) (hrs : slots + 6 ≤ room_1.slots) (hK : va_K (dC, dI) fmCl [(cI, .int), (cZ, .boolean), (cJ, .long)] s) (hP : va_P (dC, dI) fmCl ((mw g0 b1 b2 b3 b4 b5 cI cZ y.1 y.2.1 y.2.2.1 y.2.2.2.1 y.2.2.2.2.1 y.2.2.2.2.2.1 y.2.2.2.2.2.2) ++ ((fw h0 a1 a2 a3 a4 a5 a6 cI x.1 x.2.1 x.2.2.1 x.2.2.2.1 x.2.2.2.2.1 x.2.2.2.2.2.1 x.2.2.2.2.2.2) ++ [(o, .inl (cJ, 1, .inr (.inl f)))])) H) (hD : va_D (fun q : Nat => s.heap.size ≤ q) ((mw g0 b1 b2 b3 b4 b5 cI cZ y.1 y.2.1 y.2.2.1 y.2.2.2.1 y.2.2.2.2.1 y.2.2.2.2.2.1 y.2.2.2.2.2.2) ++ ((fw h0 a1 a2 a3 a4 a5 a6 cI x.1 x.2.1 x.2.2.1 x.2.2.2.1 x.2.2.2.2.1 x.2.2.2.2.2.1 x.2.2.2.2.2.2) ++ [(o, .inl (cJ, 1, .inr (.inl f)))]))) (hS : va_S (fun q : Nat => s.heap.size ≤ q) s.heap H locs) {ls : Array Slot} (hl : lv_has ls 7 [(0, .ref b), (1, .ref h0), (2, .ref g0), (3, .ref o), (4, .int (nI i))])
    (K : ∀ (x' : FcS) (y' : MdS) (f' : Nat → Int64) (H : Heap) (locs : List Loc) (ls : Array Slot), fmS x' y' (n + 1) → va_P (dC, dI) fmCl ((mw g0 b1 b2 b3 b4 b5 cI cZ y'.1 y'.2.1 y'.2.2.1 y'.2.2.2.1 y'.2.2.2.2.1 y'.2.2.2.2.2.1 y'.2.2.2.2.2.2) ++ ((fw h0 a1 a2 a3 a4 a5 a6 cI x'.1 x'.2.1 x'.2.2.1 x'.2.2.2.1 x'.2.2.2.2.1 x'.2.2.2.2.2.1 x'.2.2.2.2.2.2) ++ [(o, .inl (cJ, 1, .inr (.inl f')))])) H → va_D (fun q : Nat => s.heap.size ≤ q) ((mw g0 b1 b2 b3 b4 b5 cI cZ y'.1 y'.2.1 y'.2.2.1 y'.2.2.2.1 y'.2.2.2.2.1 y'.2.2.2.2.2.1 y'.2.2.2.2.2.2) ++ ((fw h0 a1 a2 a3 a4 a5 a6 cI x'.1 x'.2.1 x'.2.2.1 x'.2.2.2.1 x'.2.2.2.2.1 x'.2.2.2.2.2.1 x'.2.2.2.2.2.2) ++ [(o, .inl (cJ, 1, .inr (.inl f')))])) → va_S (fun q : Nat => s.heap.size ≤ q) s.heap H locs → lv_has ls 7 [(0, .ref b), (1, .ref h0), (2, .ref g0), (3, .ref o), (4, .int (nI i))] → W p l e room_1 s m #[Value.ref b] below meth c H locs (cells + 1) (slots + 6) (lw_Z below #[Value.ref b] s) (F0 m 636 ls [])) :
    W p l e room_1 s m #[Value.ref b] below meth c H locs cells slots (lw_Z below #[Value.ref b] s) (F0 m 304 ls []) := by
  obtain ⟨hx, hb, hr, hml, hown, hts, hX, hbl, hlocks, hgv⟩ := C0
  have hbA : ¬ (fun q : Nat => s.heap.size ≤ q) b := Nat.not_le.mpr hbl
  have htsk := fun w h => hts w (wsL_law_in w h)
  have hOk : mdOk y.2.1 := hI.2.1
  have hAc : mdAc y.2.1 := hI.2.2.1
  refine lv_aload_n hx hb dL_law_304 rfl (lv_at hl 1 rfl) ?_
  have hPc : va_P (dC, dI) fmCl (fw h0 a1 a2 a3 a4 a5 a6 cI x.1 x.2.1 x.2.2.1 x.2.2.2.1 x.2.2.2.2.1 x.2.2.2.2.2.1 x.2.2.2.2.2.2) _ := xf_P_left (xf_P_right hP)
  have hDc : va_D (fun q : Nat => s.heap.size ≤ q) (fw h0 a1 a2 a3 a4 a5 a6 cI x.1 x.2.1 x.2.2.1 x.2.2.2.1 x.2.2.2.2.1 x.2.2.2.2.2.1 x.2.2.2.2.2.2) := xf_D_left (xf_D_right hD)
  have hKc := hK.sub (tys' := [(cI, .int)]) [0] rfl
  refine vp_callSi (W.runV (As := []) (rest := []) ⟨hx, hb, hml, hown, htsk⟩ (k_kept l dC dI h0 a1 a2 a3 a4 a5 a6 cI x.1 x.2.1 x.2.2.1 x.2.2.2.1 x.2.2.2.2.1 x.2.2.2.2.2.1 x.2.2.2.2.2.2 ) (cwV 0 htsk gL_law_X0_kept rfl rfl rfl (by decide +kernel) ⟨Nat.le_of_ble_eq_true rfl, Nat.le_of_ble_eq_true rfl⟩) (xf_preV (ci := 0) (RX0, TX0, 7) hKc hPc rfl rfl) rfl rfl hl.1 rfl (lv_room (Nat.le_of_ble_eq_true rfl)) dL_law_305 ⟨by omega, by omega⟩) (fun r_k hw_k => ?_)
  refine lv_aload_n hx hb dL_law_308 rfl (lv_at hl 2 rfl) ?_
  have hPc : va_P (dC, dI) fmCl (mw g0 b1 b2 b3 b4 b5 cI cZ y.1 y.2.1 y.2.2.1 y.2.2.2.1 y.2.2.2.2.1 y.2.2.2.2.2.1 y.2.2.2.2.2.2) _ := xf_P_left hP
  have hDc : va_D (fun q : Nat => s.heap.size ≤ q) (mw g0 b1 b2 b3 b4 b5 cI cZ y.1 y.2.1 y.2.2.1 y.2.2.2.1 y.2.2.2.2.1 y.2.2.2.2.2.1 y.2.2.2.2.2.2) := xf_D_left hD
  have hKc := hK.sub (tys' := [(cI, .int), (cZ, .boolean)]) [0, 1] rfl
  have hFc := xf_A_le hDc
  refine va_calli (va_runV (As := []) (rest := [.int r_k]) ⟨hx, hb, hml, hown, hts⟩ (m_kept l dC dI g0 b1 b2 b3 b4 b5 cI cZ y.1 y.2.1 y.2.2.1 y.2.2.2.1 y.2.2.2.2.1 y.2.2.2.2.2.1 y.2.2.2.2.2.2 hOk hAc) (cwV 0 hts gL_M_kept rfl rfl rfl (by decide +kernel) ⟨Nat.le_of_ble_eq_true rfl, Nat.le_of_ble_eq_true rfl⟩) (xf_preW (ci := 1) (RX1, TM, 7) hKc hPc hDc rfl rfl) rfl rfl hl.1 rfl (lv_room (Nat.le_of_ble_eq_true rfl)) dL_law_309 ⟨by omega, by omega⟩) hS (fun q _ h => hFc q h) hFc (fun r_m u_m t9 H locs ht9 hvm9 hw_m hB9 hz9 hk9 hS => ?_)
  have hB9 := xf_hB ht9 hB9
  have hP0 : va_P (dC, dI) fmCl ([] ++ ((mw g0 b1 b2 b3 b4 b5 cI cZ y.1 y.2.1 y.2.2.1 y.2.2.2.1 y.2.2.2.2.1 y.2.2.2.2.2.1 y.2.2.2.2.2.2) ++ ((fw h0 a1 a2 a3 a4 a5 a6 cI x.1 x.2.1 x.2.2.1 x.2.2.2.1 x.2.2.2.2.1 x.2.2.2.2.2.1 x.2.2.2.2.2.2) ++ [(o, .inl (cJ, 1, .inr (.inl f)))]))) _ := hP
  have hD0 : va_D (fun q : Nat => s.heap.size ≤ q) ([] ++ ((mw g0 b1 b2 b3 b4 b5 cI cZ y.1 y.2.1 y.2.2.1 y.2.2.2.1 y.2.2.2.2.1 y.2.2.2.2.2.1 y.2.2.2.2.2.2) ++ ((fw h0 a1 a2 a3 a4 a5 a6 cI x.1 x.2.1 x.2.2.1 x.2.2.2.1 x.2.2.2.2.1 x.2.2.2.2.2.1 x.2.2.2.2.2.2) ++ [(o, .inl (cJ, 1, .inr (.inl f)))]))) := hD
  have hP : va_P (dC, dI) fmCl ((mw g0 b1 b2 b3 b4 b5 cI cZ u_m.1 u_m.2.1 u_m.2.2.1 u_m.2.2.2.1 u_m.2.2.2.2.1 u_m.2.2.2.2.2.1 u_m.2.2.2.2.2.2) ++ ((fw h0 a1 a2 a3 a4 a5 a6 cI x.1 x.2.1 x.2.2.1 x.2.2.2.1 x.2.2.2.2.1 x.2.2.2.2.2.1 x.2.2.2.2.2.2) ++ [(o, .inl (cJ, 1, .inr (.inl f)))])) H := xf_join (a := []) (w := (mw g0 b1 b2 b3 b4 b5 cI cZ y.1 y.2.1 y.2.2.1 y.2.2.2.1 y.2.2.2.2.1 y.2.2.2.2.2.1 y.2.2.2.2.2.2)) (w1 := (mw g0 b1 b2 b3 b4 b5 cI cZ u_m.1 u_m.2.1 u_m.2.2.1 u_m.2.2.2.1 u_m.2.2.2.2.1 u_m.2.2.2.2.2.1 u_m.2.2.2.2.2.2)) (b := ((fw h0 a1 a2 a3 a4 a5 a6 cI x.1 x.2.1 x.2.2.1 x.2.2.2.1 x.2.2.2.2.1 x.2.2.2.2.2.1 x.2.2.2.2.2.2) ++ [(o, .inl (cJ, 1, .inr (.inl f)))])) hP0 hD0 hB9 hk9
  have hD : va_D (fun q : Nat => s.heap.size ≤ q) ((mw g0 b1 b2 b3 b4 b5 cI cZ u_m.1 u_m.2.1 u_m.2.2.1 u_m.2.2.2.1 u_m.2.2.2.2.1 u_m.2.2.2.2.2.1 u_m.2.2.2.2.2.2) ++ ((fw h0 a1 a2 a3 a4 a5 a6 cI x.1 x.2.1 x.2.2.1 x.2.2.2.1 x.2.2.2.2.1 x.2.2.2.2.2.1 x.2.2.2.2.2.2) ++ [(o, .inl (cJ, 1, .inr (.inl f)))])) := xf_wD hD rfl
  refine lv_icmp_eq (tgt := 636) hx hb dL_law_312 (by decide) (fun c312 => ?_) (fun c312 => ?_)
  ·
    refine W.widen (k := cells + 1) (n := slots + 6) (by omega) (by omega) ?_
    exact K x u_m f H locs ls (by rw [show u_m = _ from congrArg Prod.snd hw_m]; exact fm_more hI) hP hD hS (lv_sub hl [0, 1, 2, 3, 4] rfl)
  ·
    exact absurd (hw_k.trans (((congrArg nI (fm_all hI)).symm).trans (congrArg Prod.fst hw_m).symm)) c312
set_option maxHeartbeats 4000000 in
set_option maxRecDepth 100000 in
theorem lc_5 {p : Program} {l : Launch} {e : Env} {s : State} {m : MethodId} {below : List Frame} {meth : Method} {c : Code} {b L : Nat} {xs : Nat → Int32} (hL : L ≤ 2048) (C0 : lw_At p s m meth c b L xs) {dC : Nat → ClassId} {dI : Nat → Nat → Nat} {h0 a1 a2 a3 a4 a5 a6 g0 b1 b2 b3 b4 b5 o : Nat} {cI cZ cJ : ClassId} (x : FcS) (y : MdS) (f : Nat → Int64) {n i : Nat} (hi : i + 4 ≤ L) (hn : n < 2 ^ 30) (hI : fmS x y n) {H : Heap} {locs : List Loc} {cells slots : Nat} (hrc : cells + 1 ≤ room_1.cells) (hrs : slots + 6 ≤ room_1.slots) (hK : va_K (dC, dI) fmCl [(cI, .int), (cZ, .boolean), (cJ, .long)] s) (hP : va_P (dC, dI) fmCl ((mw g0 b1 b2 b3 b4 b5 cI cZ y.1 y.2.1 y.2.2.1 y.2.2.2.1 y.2.2.2.2.1 y.2.2.2.2.2.1 y.2.2.2.2.2.2) ++ ((fw h0 a1 a2 a3 a4 a5 a6 cI x.1 x.2.1 x.2.2.1 x.2.2.2.1 x.2.2.2.2.1 x.2.2.2.2.2.1 x.2.2.2.2.2.2) ++ [(o, .inl (cJ, 1, .inr (.inl f)))])) H) (hD : va_D (fun q : Nat => s.heap.size ≤ q) ((mw g0 b1 b2 b3 b4 b5 cI cZ y.1 y.2.1 y.2.2.1 y.2.2.2.1 y.2.2.2.2.1 y.2.2.2.2.2.1 y.2.2.2.2.2.2) ++ ((fw h0 a1 a2 a3 a4 a5 a6 cI x.1 x.2.1 x.2.2.1 x.2.2.2.1 x.2.2.2.2.1 x.2.2.2.2.2.1 x.2.2.2.2.2.2) ++ [(o, .inl (cJ, 1, .inr (.inl f)))]))) (hS : va_S (fun q : Nat => s.heap.size ≤ q) s.heap H locs) {ls : Array Slot} (hl : lv_has ls 7 [(0, .ref b), (1, .ref h0), (2, .ref g0), (3, .ref o), (4, .int (nI i))])
    (K : ∀ (x' : FcS) (y' : MdS) (f' : Nat → Int64) (H : Heap) (locs : List Loc) (ls : Array Slot), fmS x' y' (n + 1) → va_P (dC, dI) fmCl ((mw g0 b1 b2 b3 b4 b5 cI cZ y'.1 y'.2.1 y'.2.2.1 y'.2.2.2.1 y'.2.2.2.2.1 y'.2.2.2.2.2.1 y'.2.2.2.2.2.2) ++ ((fw h0 a1 a2 a3 a4 a5 a6 cI x'.1 x'.2.1 x'.2.2.1 x'.2.2.2.1 x'.2.2.2.2.1 x'.2.2.2.2.2.1 x'.2.2.2.2.2.2) ++ [(o, .inl (cJ, 1, .inr (.inl f')))])) H → va_D (fun q : Nat => s.heap.size ≤ q) ((mw g0 b1 b2 b3 b4 b5 cI cZ y'.1 y'.2.1 y'.2.2.1 y'.2.2.2.1 y'.2.2.2.2.1 y'.2.2.2.2.2.1 y'.2.2.2.2.2.2) ++ ((fw h0 a1 a2 a3 a4 a5 a6 cI x'.1 x'.2.1 x'.2.2.1 x'.2.2.2.1 x'.2.2.2.2.1 x'.2.2.2.2.2.1 x'.2.2.2.2.2.2) ++ [(o, .inl (cJ, 1, .inr (.inl f')))])) → va_S (fun q : Nat => s.heap.size ≤ q) s.heap H locs → lv_has ls 7 [(0, .ref b), (1, .ref h0), (2, .ref g0), (3, .ref o), (4, .int (nI i))] → W p l e room_1 s m #[Value.ref b] below meth c H locs (cells + 1) (slots + 6) (lw_Z below #[Value.ref b] s) (F0 m 636 ls [])) :
    W p l e room_1 s m #[Value.ref b] below meth c H locs cells slots (lw_Z below #[Value.ref b] s) (F0 m 317 ls []) := by
  obtain ⟨hx, hb, hr, hml, hown, hts, hX, hbl, hlocks, hgv⟩ := C0
  have hbA : ¬ (fun q : Nat => s.heap.size ≤ q) b := Nat.not_le.mpr hbl
  have htsk := fun w h => hts w (wsL_law_in w h)
  have hOk : mdOk y.2.1 := hI.2.1
  have hAc : mdAc y.2.1 := hI.2.2.1
  refine lv_aload_n hx hb dL_law_317 rfl (lv_at hl 1 rfl) ?_
  refine lv_aload_n hx hb dL_law_318 rfl (lv_at hl 0 rfl) ?_
  refine lv_iload hx hb dL_law_319 (lv_at hl 4 rfl) ?_
  refine lv_iconst (v := nI 1) hx hb dL_law_321 (by decide) ?_
  refine lv_iadd hx hb dL_law_322 ?_
  refine xf_be (y := nI (i + 1)) (by exact nI_add _ _) ?_
  refine xf_sld hx hb hX hbl hbA hS (j := (i + 1)) (by omega) (by omega) dL_law_323 ?_
  have hPc : va_P (dC, dI) fmCl (fw h0 a1 a2 a3 a4 a5 a6 cI x.1 x.2.1 x.2.2.1 x.2.2.2.1 x.2.2.2.2.1 x.2.2.2.2.2.1 x.2.2.2.2.2.2) _ := xf_P_left (xf_P_right hP)
  have hDc : va_D (fun q : Nat => s.heap.size ≤ q) (fw h0 a1 a2 a3 a4 a5 a6 cI x.1 x.2.1 x.2.2.1 x.2.2.2.1 x.2.2.2.2.1 x.2.2.2.2.2.1 x.2.2.2.2.2.2) := xf_D_left (xf_D_right hD)
  have hKc := hK.sub (tys' := [(cI, .int)]) [0] rfl
  refine vp_callSi (W.runV (As := [.int (xs (i + 1))]) (rest := []) ⟨hx, hb, hml, hown, htsk⟩ (k_isKept l dC dI h0 a1 a2 a3 a4 a5 a6 cI x.1 x.2.1 x.2.2.1 x.2.2.2.1 x.2.2.2.2.1 x.2.2.2.2.2.1 x.2.2.2.2.2.2 (xs (i + 1))) (cwV 1 htsk gL_law_X0_isKept rfl rfl rfl (by decide +kernel) ⟨Nat.le_of_ble_eq_true rfl, Nat.le_of_ble_eq_true rfl⟩) (xf_preV (ci := 0) (RX0, TX0, 7) hKc hPc rfl rfl) rfl rfl hl.1 rfl (lv_room (Nat.le_of_ble_eq_true rfl)) dL_law_324 ⟨by omega, by omega⟩) (fun r_k hw_k => ?_)
  refine lv_aload_n hx hb dL_law_327 rfl (lv_at hl 2 rfl) ?_
  refine lv_aload_n hx hb dL_law_328 rfl (lv_at hl 0 rfl) ?_
  refine lv_iload hx hb dL_law_329 (lv_at hl 4 rfl) ?_
  refine lv_iconst (v := nI 1) hx hb dL_law_331 (by decide) ?_
  refine lv_iadd hx hb dL_law_332 ?_
  refine xf_be (y := nI (i + 1)) (by exact nI_add _ _) ?_
  refine xf_sld hx hb hX hbl hbA hS (j := (i + 1)) (by omega) (by omega) dL_law_333 ?_
  have hPc : va_P (dC, dI) fmCl (mw g0 b1 b2 b3 b4 b5 cI cZ y.1 y.2.1 y.2.2.1 y.2.2.2.1 y.2.2.2.2.1 y.2.2.2.2.2.1 y.2.2.2.2.2.2) _ := xf_P_left hP
  have hDc : va_D (fun q : Nat => s.heap.size ≤ q) (mw g0 b1 b2 b3 b4 b5 cI cZ y.1 y.2.1 y.2.2.1 y.2.2.2.1 y.2.2.2.2.1 y.2.2.2.2.2.1 y.2.2.2.2.2.2) := xf_D_left hD
  have hKc := hK.sub (tys' := [(cI, .int), (cZ, .boolean)]) [0, 1] rfl
  have hFc := xf_A_le hDc
  refine va_calli (va_runV (As := [.int (xs (i + 1))]) (rest := [.int r_k]) ⟨hx, hb, hml, hown, hts⟩ (m_isKept l dC dI g0 b1 b2 b3 b4 b5 cI cZ y.1 y.2.1 y.2.2.1 y.2.2.2.1 y.2.2.2.2.1 y.2.2.2.2.2.1 y.2.2.2.2.2.2 (xs (i + 1)) hOk hAc) (cwV 1 hts gL_M_isKept rfl rfl rfl (by decide +kernel) ⟨Nat.le_of_ble_eq_true rfl, Nat.le_of_ble_eq_true rfl⟩) (xf_preW (ci := 1) (RX1, TM, 7) hKc hPc hDc rfl rfl) rfl rfl hl.1 rfl (lv_room (Nat.le_of_ble_eq_true rfl)) dL_law_334 ⟨by omega, by omega⟩) hS (fun q _ h => hFc q h) hFc (fun r_m u_m t9 H locs ht9 hvm9 hw_m hB9 hz9 hk9 hS => ?_)
  have hB9 := xf_hB ht9 hB9
  have hP0 : va_P (dC, dI) fmCl ([] ++ ((mw g0 b1 b2 b3 b4 b5 cI cZ y.1 y.2.1 y.2.2.1 y.2.2.2.1 y.2.2.2.2.1 y.2.2.2.2.2.1 y.2.2.2.2.2.2) ++ ((fw h0 a1 a2 a3 a4 a5 a6 cI x.1 x.2.1 x.2.2.1 x.2.2.2.1 x.2.2.2.2.1 x.2.2.2.2.2.1 x.2.2.2.2.2.2) ++ [(o, .inl (cJ, 1, .inr (.inl f)))]))) _ := hP
  have hD0 : va_D (fun q : Nat => s.heap.size ≤ q) ([] ++ ((mw g0 b1 b2 b3 b4 b5 cI cZ y.1 y.2.1 y.2.2.1 y.2.2.2.1 y.2.2.2.2.1 y.2.2.2.2.2.1 y.2.2.2.2.2.2) ++ ((fw h0 a1 a2 a3 a4 a5 a6 cI x.1 x.2.1 x.2.2.1 x.2.2.2.1 x.2.2.2.2.1 x.2.2.2.2.2.1 x.2.2.2.2.2.2) ++ [(o, .inl (cJ, 1, .inr (.inl f)))]))) := hD
  have hP : va_P (dC, dI) fmCl ((mw g0 b1 b2 b3 b4 b5 cI cZ u_m.1 u_m.2.1 u_m.2.2.1 u_m.2.2.2.1 u_m.2.2.2.2.1 u_m.2.2.2.2.2.1 u_m.2.2.2.2.2.2) ++ ((fw h0 a1 a2 a3 a4 a5 a6 cI x.1 x.2.1 x.2.2.1 x.2.2.2.1 x.2.2.2.2.1 x.2.2.2.2.2.1 x.2.2.2.2.2.2) ++ [(o, .inl (cJ, 1, .inr (.inl f)))])) H := xf_join (a := []) (w := (mw g0 b1 b2 b3 b4 b5 cI cZ y.1 y.2.1 y.2.2.1 y.2.2.2.1 y.2.2.2.2.1 y.2.2.2.2.2.1 y.2.2.2.2.2.2)) (w1 := (mw g0 b1 b2 b3 b4 b5 cI cZ u_m.1 u_m.2.1 u_m.2.2.1 u_m.2.2.2.1 u_m.2.2.2.2.1 u_m.2.2.2.2.2.1 u_m.2.2.2.2.2.2)) (b := ((fw h0 a1 a2 a3 a4 a5 a6 cI x.1 x.2.1 x.2.2.1 x.2.2.2.1 x.2.2.2.2.1 x.2.2.2.2.2.1 x.2.2.2.2.2.2) ++ [(o, .inl (cJ, 1, .inr (.inl f)))])) hP0 hD0 hB9 hk9
  have hD : va_D (fun q : Nat => s.heap.size ≤ q) ((mw g0 b1 b2 b3 b4 b5 cI cZ u_m.1 u_m.2.1 u_m.2.2.1 u_m.2.2.2.1 u_m.2.2.2.2.1 u_m.2.2.2.2.2.1 u_m.2.2.2.2.2.2) ++ ((fw h0 a1 a2 a3 a4 a5 a6 cI x.1 x.2.1 x.2.2.1 x.2.2.2.1 x.2.2.2.2.1 x.2.2.2.2.2.1 x.2.2.2.2.2.2) ++ [(o, .inl (cJ, 1, .inr (.inl f)))])) := xf_wD hD rfl
  refine lv_icmp_eq (tgt := 636) hx hb dL_law_337 (by decide) (fun c337 => ?_) (fun c337 => ?_)
  ·
    refine W.widen (k := cells + 1) (n := slots + 6) (by omega) (by omega) ?_
    exact K x u_m f H locs ls (by rw [show u_m = _ from congrArg Prod.snd hw_m]; exact fm_more hI) hP hD hS (lv_sub hl [0, 1, 2, 3, 4] rfl)
  ·
    exact absurd (hw_k.trans ((fm_isKept hI (xs (i + 1))).trans (congrArg Prod.fst hw_m).symm)) c337
