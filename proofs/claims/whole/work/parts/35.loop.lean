set_option maxHeartbeats 4000000 in
set_option maxRecDepth 100000 in
/-- the law's loop: at its head, with n calls done -/
theorem law_loop {p : Program} {l : Launch} {e : Env} {s : State} {m : MethodId} {below : List Frame} {meth : Method} {c : Code} {b L : Nat} {xs : Nat → Int32} (hL : L ≤ 2048) (C0 : lw_At p s m meth c b L xs) {dC : Nat → ClassId} {dI : Nat → Nat → Nat} {h0 a1 a2 a3 a4 a5 a6 g0 b1 b2 b3 b4 b5 o : Nat} {cI cZ cJ : ClassId} {sa1 sa2 : Nat} (hl9 : l.stackTraces = false) (hR1 : vk_R RX0 88 "no such head or value" sa1 s) (hR2 : vk_R RX0 96 "nothing is kept but for this head" sa2 s) (hU : vx_Zq Bundle.tN "UNASSIGNED_STACK" Bundle.steD (fun q : Nat => s.heap.size ≤ q) s s.heap) (hN : vx_Zq Bundle.tN "SUPPRESSED_SENTINEL" Bundle.listD (fun q : Nat => s.heap.size ≤ q) s s.heap) (hC : fmX s) (hK : va_K (dC, dI) fmCl [(cI, .int), (cZ, .boolean), (cJ, .long)] s) :
    ∀ (k n : Nat), n + k = 514 → 4 * n ≤ L + 3 → ∀ (x : FcS) (y : MdS) (f : Nat → Int64) (H : Heap) (locs : List Loc) (ls : Array Slot), fmS x y n → va_P (dC, dI) fmCl ((mw g0 b1 b2 b3 b4 b5 cI cZ y.1 y.2.1 y.2.2.1 y.2.2.2.1 y.2.2.2.2.1 y.2.2.2.2.2.1 y.2.2.2.2.2.2) ++ ((fw h0 a1 a2 a3 a4 a5 a6 cI x.1 x.2.1 x.2.2.1 x.2.2.2.1 x.2.2.2.2.1 x.2.2.2.2.2.1 x.2.2.2.2.2.2) ++ [(o, .inl (cJ, 1, .inr (.inl f)))])) H → va_D (fun q : Nat => s.heap.size ≤ q) ((mw g0 b1 b2 b3 b4 b5 cI cZ y.1 y.2.1 y.2.2.1 y.2.2.2.1 y.2.2.2.2.1 y.2.2.2.2.2.1 y.2.2.2.2.2.2) ++ ((fw h0 a1 a2 a3 a4 a5 a6 cI x.1 x.2.1 x.2.2.1 x.2.2.2.1 x.2.2.2.2.1 x.2.2.2.2.2.1 x.2.2.2.2.2.2) ++ [(o, .inl (cJ, 1, .inr (.inl f)))])) → va_S (fun q : Nat => s.heap.size ≤ q) s.heap H locs → lv_has ls 7 [(0, .ref b), (1, .ref h0), (2, .ref g0), (3, .ref o), (4, .int (nI (4 * n)))] → W p l e room_1 s m #[Value.ref b] below meth c H locs (14 + n) (11743 + 6 * n) (lw_Z below #[Value.ref b] s) (F0 m 23 ls []) := by
  obtain ⟨hx, hb, hr, hml, hown, hts, hX, hbl, hlocks, hgv⟩ := id C0
  have hbA : ¬ (fun q : Nat => s.heap.size ≤ q) b := Nat.not_le.mpr hbl
  intro k
  induction k with
  | zero => intro n h1 h2; exact absurd h2 (by omega)
  | succ k ih =>
    intro n h1 h2 x y f H locs ls hI hP hD hS hl
    refine lv_iload hx hb dL_law_23 (lv_at hl 4 rfl) ?_
    refine lv_aload_n hx hb dL_law_25 rfl (lv_at hl 0 rfl) ?_
    refine va_slen hx hb hX hbl hbA hS dL_law_26 ?_
    refine lv_iconst (v := nI 4) hx hb dL_law_27 (by decide) ?_
    refine lv_isub hx hb dL_law_28 ?_
    refine lv_icmp_gt (tgt := 642) hx hb dL_law_29 (by decide) (fun c29 => ?_) (fun c29 => ?_)
    · refine lv_iconst (v := 1) hx hb dL_law_642 (by decide) ?_
      refine va_forget (fun q hq => hS.2.2 q hq) ?_
      refine W.widen (k := 1040) (n := 19947) (by omega) (by omega) ?_
      exact lw_ret hx hb hr hlocks dL_law_643
    · have hi : 4 * n + 4 ≤ L := by
        have z := Int32.le_iff_toInt_le.mp (Int32.not_lt.mp c29)
        rw [nI_toInt (show 4 * n < 2 ^ 31 by omega), show (Int32.ofNat L - nI 4).toInt = (L : Int) - (4 : Nat) from pk_sub_toInt (a := L) (b := 4) (by omega) (by omega)] at z
        omega
      refine lv_aload_n hx hb dL_law_32 rfl (lv_at hl 0 rfl) ?_
      refine lv_iload hx hb dL_law_33 (lv_at hl 4 rfl) ?_
      refine xf_sld hx hb hX hbl hbA hS (j := 4 * n) (by omega) (by omega) dL_law_35 ?_
      refine lv_bipush (v := nI 15) hx hb dL_law_36 (by decide) ?_
      refine lv_iand hx hb dL_law_38 ?_
      obtain ⟨j, hj, ej⟩ := pk_andE (xs (4 * n)) (m := nI 15) 4 (by decide)
      refine xf_be ej ?_
      have hn : n < 2 ^ 30 := by omega
      have hrc : 14 + n + 1 ≤ room_1.cells := by show 14 + n + 1 ≤ 1040; omega
      have hrs : 11743 + 6 * n + 6 ≤ room_1.slots := by show 11743 + 6 * n + 6 ≤ 19947; omega
      have K : ∀ (x' : FcS) (y' : MdS) (f' : Nat → Int64) (H : Heap) (locs : List Loc) (ls : Array Slot), fmS x' y' (n + 1) → va_P (dC, dI) fmCl ((mw g0 b1 b2 b3 b4 b5 cI cZ y'.1 y'.2.1 y'.2.2.1 y'.2.2.2.1 y'.2.2.2.2.1 y'.2.2.2.2.2.1 y'.2.2.2.2.2.2) ++ ((fw h0 a1 a2 a3 a4 a5 a6 cI x'.1 x'.2.1 x'.2.2.1 x'.2.2.2.1 x'.2.2.2.2.1 x'.2.2.2.2.2.1 x'.2.2.2.2.2.2) ++ [(o, .inl (cJ, 1, .inr (.inl f')))])) H → va_D (fun q : Nat => s.heap.size ≤ q) ((mw g0 b1 b2 b3 b4 b5 cI cZ y'.1 y'.2.1 y'.2.2.1 y'.2.2.2.1 y'.2.2.2.2.1 y'.2.2.2.2.2.1 y'.2.2.2.2.2.2) ++ ((fw h0 a1 a2 a3 a4 a5 a6 cI x'.1 x'.2.1 x'.2.2.1 x'.2.2.2.1 x'.2.2.2.2.1 x'.2.2.2.2.2.1 x'.2.2.2.2.2.2) ++ [(o, .inl (cJ, 1, .inr (.inl f')))])) → va_S (fun q : Nat => s.heap.size ≤ q) s.heap H locs → lv_has ls 7 [(0, .ref b), (1, .ref h0), (2, .ref g0), (3, .ref o), (4, .int (nI (4 * n)))] → W p l e room_1 s m #[Value.ref b] below meth c H locs (14 + n + 1) (11743 + 6 * n + 6) (lw_Z below #[Value.ref b] s) (F0 m 636 ls []) := by
        intro x' y' f' H locs ls hI hP hD hS hl
        refine lv_iinc (v := nI (4 * (n + 1))) (lv' := [(4, .int (nI (4 * (n + 1)))), (0, .ref b), (1, .ref h0), (2, .ref g0), (3, .ref o)]) hx hb dL_law_636 hl (k := 4) rfl (by exact nI_add (4 * n) 4) (by decide) rfl (fun ls hl => ?_)
        refine lv_goto (tgt := 23) hx hb dL_law_639 (by decide) ?_
        refine W.widen (k := 14 + (n + 1)) (n := 11743 + 6 * (n + 1)) (by omega) (by omega) ?_
        exact ih (n + 1) (by omega) (by omega) x' y' f' H locs ls hI hP hD hS (lv_sub hl [1, 2, 3, 4, 0] rfl)
      rcases (show j = 0 ∨ j = 1 ∨ j = 2 ∨ j = 3 ∨ j = 4 ∨ j = 5 ∨ j = 6 ∨ j = 7 ∨ j = 8 ∨ j = 9 ∨ j = 10 ∨ j = 11 ∨ j = 12 ∨ j = 13 ∨ j = 14 ∨ j = 15 by omega) with rfl | rfl | rfl | rfl | rfl | rfl | rfl | rfl | rfl | rfl | rfl | rfl | rfl | rfl | rfl | rfl
      · refine lv_tableIn (tgt := 104) (off := 65) hx hb dL_law_39 (by decide) (by decide) (by decide +kernel) (by decide) ?_
        exact lc_0 hL C0 x y f hi hn hI hrc hrs hK hP hD hS hl K
      · refine lv_tableIn (tgt := 153) (off := 114) hx hb dL_law_39 (by decide) (by decide) (by decide +kernel) (by decide) ?_
        exact lc_1 hL C0 x y f hi hn hI hrc hrs hK hP hD hS hl K
      · refine lv_tableIn (tgt := 202) (off := 163) hx hb dL_law_39 (by decide) (by decide) (by decide +kernel) (by decide) ?_
        exact lc_2 hL C0 x y f hi hn hI hrc hrs hK hP hD hS hl K
      · refine lv_tableIn (tgt := 239) (off := 200) hx hb dL_law_39 (by decide) (by decide) (by decide +kernel) (by decide) ?_
        exact lc_3 hL C0 x y f hi hn hI hrc hrs hK hP hD hS hl K
      · refine lv_tableIn (tgt := 304) (off := 265) hx hb dL_law_39 (by decide) (by decide) (by decide +kernel) (by decide) ?_
        exact lc_4 hL C0 x y f hi hn hI hrc hrs hK hP hD hS hl K
      · refine lv_tableIn (tgt := 317) (off := 278) hx hb dL_law_39 (by decide) (by decide) (by decide +kernel) (by decide) ?_
        exact lc_5 hL C0 x y f hi hn hI hrc hrs hK hP hD hS hl K
      · refine lv_tableIn (tgt := 342) (off := 303) hx hb dL_law_39 (by decide) (by decide) (by decide +kernel) (by decide) ?_
        exact lc_6 hL C0 x y f hi hn hI hrc hrs hK hP hD hS hl K
      · refine lv_tableIn (tgt := 379) (off := 340) hx hb dL_law_39 (by decide) (by decide) (by decide +kernel) (by decide) ?_
        exact lc_7 hL C0 x y f hi hn hI hrc hrs hK hP hD hS hl K
      · refine lv_tableIn (tgt := 416) (off := 377) hx hb dL_law_39 (by decide) (by decide) (by decide +kernel) (by decide) ?_
        exact lc_8 hL C0 x y f hi hn hI hrc hrs hK hP hD hS hl K
      · refine lv_tableIn (tgt := 465) (off := 426) hx hb dL_law_39 (by decide) (by decide) (by decide +kernel) (by decide) ?_
        exact lc_9 hL C0 x y f hi hn hI hrc hrs hK hP hD hS hl K
      · refine lv_tableIn (tgt := 514) (off := 475) hx hb dL_law_39 (by decide) (by decide) (by decide +kernel) (by decide) ?_
        exact lc_10 hL C0 hl9 hR1 hR2 hU hN hC x y f hi hn hI hrc hrs hK hP hD hS hl K
      · refine lv_tableIn (tgt := 610) (off := 571) hx hb dL_law_39 (by decide) (by decide) (by decide +kernel) (by decide) ?_
        exact lc_11 hL C0 x y f hi hn hI hrc hrs hK hP hD hS hl K
      · refine lv_tableIn (tgt := 623) (off := 584) hx hb dL_law_39 (by decide) (by decide) (by decide +kernel) (by decide) ?_
        exact lc_12 hL C0 x y f hi hn hI hrc hrs hK hP hD hS hl K
      · refine lv_tableOut (tgt := 636) hx hb dL_law_39 (by decide) (by decide) ?_
        refine W.widen (k := 14 + n + 1) (n := 11743 + 6 * n + 6) (by omega) (by omega) ?_
        exact K x y f H locs ls (fm_more hI) hP hD hS hl
      · refine lv_tableOut (tgt := 636) hx hb dL_law_39 (by decide) (by decide) ?_
        refine W.widen (k := 14 + n + 1) (n := 11743 + 6 * n + 6) (by omega) (by omega) ?_
        exact K x y f H locs ls (fm_more hI) hP hD hS hl
      · refine lv_tableOut (tgt := 636) hx hb dL_law_39 (by decide) (by decide) ?_
        refine W.widen (k := 14 + n + 1) (n := 11743 + 6 * n + 6) (by omega) (by omega) ?_
        exact K x y f H locs ls (fm_more hI) hP hD hS hl
