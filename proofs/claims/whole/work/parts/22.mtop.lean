set_option maxHeartbeats 4000000 in
set_option maxRecDepth 100000 in
/-- top(ph, pr) -/
theorem m_top (l : Launch) (dC : Nat → ClassId) (dI : Nat → Nat → Nat) (h0 b1 b2 b3 b4 b5 : Nat) (cI cZ : ClassId) (mh : Nat → Bool) (ma : Nat → Int32) (mc : Nat → Bool) (mt mn : Nat → Int32) (cd ro : Int32) (ph pr : Int32) (hOk : mdOk ma) (hAc : mdAc ma) : Met l yM_top wsM_top ({ frames := 5, cells := 0, slots := 0, locals := 121 }) (va_Pc [.ref h0, .int ph, .int pr] (fun U => va_P (dC, dI) fmCl (mw h0 b1 b2 b3 b4 b5 cI cZ mh ma mc mt mn cd ro) U.heap ∧ va_K (dC, dI) fmCl [(cI, .int), (cZ, .boolean)] U ∧ va_D (fun _ => True) (mw h0 b1 b2 b3 b4 b5 cI cZ mh ma mc mt mn cd ro))) (va_Qi (fun (r : Int32) (u : MdS) => (r, u) = mdTop mh ma mc mt mn ro ph pr) (fun u t => va_P (dC, dI) fmCl (mw h0 b1 b2 b3 b4 b5 cI cZ u.1 u.2.1 u.2.2.1 u.2.2.2.1 u.2.2.2.2.1 u.2.2.2.2.2.1 u.2.2.2.2.2.2) t.heap) (xf_A (mw h0 b1 b2 b3 b4 b5 cI cZ mh ma mc mt mn cd ro))) 0 0 (xf_A (mw h0 b1 b2 b3 b4 b5 cI cZ mh ma mc mt mn cd ro)) := by
  refine Met.ofW (cc := cM_top) (maxL := 7) (ret := (some .int)) (by decide) rfl ?_
  intro p e s m args below meth c s₁ B hml hv
  obtain ⟨rfl, hP, hK, hD0⟩ := hv
  have hx := B.exec
  have hb := B.bytes
  have hr := B.returns
  have hts := atoms_spec (ws := wsM_top) B.pre
  have hown : s.vm.findClass RX1 = some m.cls := findClass_of_methodNamed B.named
  have hlocks := B.notSynchronized
  have hin : ∀ w ∈ u_ws RX1 TM 7, w ∈ wsM_top := by decide +kernel
  have hf_code := hts (.fieldLink RX1 26 "FacetCountsModel" "code" "I") (by decide +kernel)
  have hf_counts := hts (.fieldLink RX1 23 "FacetCountsModel" "counts" "[I") (by decide +kernel)
  have hD := xf_A_self hD0
  generalize hAe : xf_A (mw h0 b1 b2 b3 b4 b5 cI cZ mh ma mc mt mn cd ro) = A at hD ⊢
  have hS : va_S A s.heap s.heap [] := va_S.rf
  have hP : va_P (dC, dI) fmCl (mw h0 b1 b2 b3 b4 b5 cI cZ mh ma mc mt mn cd ro) s.heap := hP
  have hl := lv_entry ([.ref h0, .int ph, .int pr]) (n := 7) (Nat.le_of_ble_eq_true rfl)
  rw [lg_entry_eq]
  generalize (lg_sl ([.ref h0, .int ph, .int pr]) ++ List.replicate (7 - (lg_sl ([.ref h0, .int ph, .int pr])).length) Slot.unset).toArray = ls at hl ⊢
  have hl : lv_has ls 7 [(0, .ref h0), (1, .int ph), (2, .int pr)] := hl
  refine lv_aload_n hx hb dM_top_0 rfl (lv_at hl 0 rfl) ?_
  refine lv_iconst (v := nI 0) hx hb dM_top_1 (by decide) ?_
  refine va_put (D := (dC, dI)) (ci := 1) (v := .int (nI 0)) (ty := .int) (C := RX1) (T := TM) (N := 7) hx hb hts hin tyM tyM_ok nmM hown hK hP hD hS 0 rfl rfl 0 (by decide) hf_code (fun _ h9 => h9) rfl (by decide +kernel) rfl rfl (Nat.le_of_ble_eq_true rfl) dM_top_2 (fun H locs hP hD hS => ?_)
  have hP : va_P (dC, dI) fmCl (mw h0 b1 b2 b3 b4 b5 cI cZ mh ma mc mt mn (nI 0) ro) H := hP
  have hD : va_D A (mw h0 b1 b2 b3 b4 b5 cI cZ mh ma mc mt mn (nI 0) ro) := hD
  refine lv_iload_n hx hb dM_top_5 rfl (lv_at hl 1 rfl) ?_
  refine vp_callSi (W.runS (As := [.int ph]) (rest := []) ⟨hx, hb, hml, hown, hts⟩ (m_isHead l ph) (va_cwS 1 hts gM_top_isHead rfl rfl rfl (by decide +kernel) ⟨Nat.le_of_ble_eq_true rfl, Nat.le_of_ble_eq_true rfl⟩) (xf_preS0) rfl rfl hl.1 rfl (lv_room (Nat.le_of_ble_eq_true rfl)) dM_top_6 ⟨Nat.zero_le _, Nat.zero_le _⟩) (fun r hr9 => ?_)
  subst hr9
  refine xf_Bne (tgt := 14) hx hb dM_top_9 (by decide) (fun c9 => ?_) (fun c9 => ?_)
  ·
    obtain ⟨h, hh, rfl⟩ := xf_in_of c9 (by decide)
    have eh : (nI h).toNatClampNeg = h := nI_clamp (by omega)
    refine lv_iconst (v := nI 0) hx hb dM_top_14 (by decide) ?_
    refine lv_istore_n (lv' := [(3, .int (nI 0)), (0, .ref h0), (1, .int (nI h)), (2, .int pr)]) hx hb dM_top_15 rfl hl (by decide) rfl (fun ls hl => ?_)
    refine xf_loopH (σ := Nat) (fun (z9 : Nat) => 32 - z9) (fun (z9 : Nat) => [(0, .ref h0), (1, .int (nI h)), (2, .int pr), (3, .int (nI z9))]) (fun (z9 : Nat) => (mw h0 b1 b2 b3 b4 b5 cI cZ mh ma mc mt (mdCt mh ma mc h mn z9) (nI 0) ro)) (fun (z9 : Nat) => z9 ≤ 32) 0 (lv_sub hl [1, 2, 3, 0] rfl) (Nat.zero_le _) hP hD hS (fun z9 ls H locs hi hl hP hD hS ih16 => ?_)
    obtain ⟨v, hxe⟩ : ∃ z, z = z9 := ⟨_, rfl⟩
    subst hxe
    have hl : lv_has ls 7 [(0, .ref h0), (1, .int (nI h)), (2, .int pr), (3, .int (nI v))] := hl
    have hP : va_P (dC, dI) fmCl (mw h0 b1 b2 b3 b4 b5 cI cZ mh ma mc mt (mdCt mh ma mc h mn v) (nI 0) ro) H := hP
    have hD : va_D A (mw h0 b1 b2 b3 b4 b5 cI cZ mh ma mc mt (mdCt mh ma mc h mn v) (nI 0) ro) := hD
    have hi : v ≤ 32 := hi
    refine lv_iload_n hx hb dM_top_16 rfl (lv_at hl 3 rfl) ?_
    refine lv_bipush (v := nI 32) hx hb dM_top_17 (by decide) ?_
    refine xf_ge (tgt := 40) hx hb dM_top_19 (by decide) (by omega) (by omega) (fun c19 => ?_) (fun c19 => ?_)
    ·
      obtain rfl : v = 32 := by omega
      refine lv_iconst (v := nI 0) hx hb dM_top_40 (by decide) ?_
      refine lv_istore_n (lv' := [(3, .int (nI 0)), (0, .ref h0), (1, .int (nI h)), (2, .int pr)]) hx hb dM_top_41 rfl hl (by decide) rfl (fun ls hl => ?_)
      refine xf_loopS (σ := Nat) (fun (z9 : Nat) => 32 - z9) (fun (z9 : Nat) => [(0, .ref h0), (1, .int (nI h)), (2, .int pr), (3, .int (nI z9))]) (fun (z9 : Nat) => z9 ≤ 32 ∧ xf_find (mdTP mh ma mc h pr) 32 0 = xf_find (mdTP mh ma mc h pr) (32 - z9) z9) 0 (lv_sub hl [1, 2, 3, 0] rfl) ⟨Nat.zero_le _, rfl⟩ (fun z9 ls hi hl ih42 => ?_)
      obtain ⟨v, hxe⟩ : ∃ z, z = z9 := ⟨_, rfl⟩
      subst hxe
      have hl : lv_has ls 7 [(0, .ref h0), (1, .int (nI h)), (2, .int pr), (3, .int (nI v))] := hl
      obtain ⟨hi, hR⟩ := hi
      have hi : v ≤ 32 := hi
      have hR : xf_find (mdTP mh ma mc h pr) 32 0 = xf_find (mdTP mh ma mc h pr) (32 - v) v := hR
      refine lv_iload_n hx hb dM_top_42 rfl (lv_at hl 3 rfl) ?_
      refine lv_bipush (v := nI 32) hx hb dM_top_43 (by decide) ?_
      refine xf_ge (tgt := 134) hx hb dM_top_45 (by decide) (by omega) (by omega) (fun c45 => ?_) (fun c45 => ?_)
      ·
        refine lv_iconst (v := (-1)) hx hb dM_top_134 (by decide) ?_
        exact W.iret (v := (-1)) hx hb hr (fun t9 ht9 hW9 => ⟨⟨_, (mh, ma, mc, mt, mdCt mh ma mc h mn 32, nI 0, ro), rfl, by rw [mdTop, if_pos c9, eh, show xf_find (mdTP mh ma mc h pr) 32 0 = -1 from by rw [hR, show v = 32 by omega]; rfl], xf_hP ht9 hP⟩, hS.F ht9⟩) hS.2.2 dM_top_135
      ·
        have hb_v := mdN_le mh ma mc h v
        refine lv_aload_n hx hb dM_top_48 rfl (lv_at hl 0 rfl) ?_
        refine va_get (D := (dC, dI)) (ci := 1) (v := .ref b5) (C := RX1) (T := TM) (N := 7) hx hb hts hin hown hK hP 0 rfl rfl 5 (by decide) hf_counts (fun _ h9 => h9) rfl dM_top_49 ?_
        refine lv_iload_n hx hb dM_top_52 rfl (lv_at hl 3 rfl) ?_
        refine xf_iald hx hb hK hP 5 0 rfl rfl (j := v) (by omega) (by decide) dM_top_53 ?_
        refine xf_be (y := nI (mdN mh ma mc h v)) (mdCt_at mh ma mc h mn 32 v (by omega)) ?_
        refine lv_istore (lv' := [(4, .int (nI (mdN mh ma mc h v))), (0, .ref h0), (1, .int (nI h)), (2, .int pr), (3, .int (nI v))]) hx hb dM_top_54 hl (by decide) rfl (fun ls hl => ?_)
        refine lv_iconst (v := nI 0) hx hb dM_top_56 (by decide) ?_
        refine lv_istore (lv' := [(5, .int (nI 0)), (4, .int (nI (mdN mh ma mc h v))), (0, .ref h0), (1, .int (nI h)), (2, .int pr), (3, .int (nI v))]) hx hb dM_top_57 hl (by decide) rfl (fun ls hl => ?_)
        refine lv_iconst (v := nI 0) hx hb dM_top_59 (by decide) ?_
        refine lv_istore (lv' := [(6, .int (nI 0)), (5, .int (nI 0)), (4, .int (nI (mdN mh ma mc h v))), (0, .ref h0), (1, .int (nI h)), (2, .int pr), (3, .int (nI v))]) hx hb dM_top_60 hl (by decide) rfl (fun ls hl => ?_)
        refine xf_loopS (σ := Nat) (fun (z9 : Nat) => 32 - z9) (fun (z9 : Nat) => [(0, .ref h0), (1, .int (nI h)), (2, .int pr), (3, .int (nI v)), (4, .int (nI (mdN mh ma mc h v))), (5, .int (nI (xf_cnt (mdRk mh ma mc h v) z9))), (6, .int (nI z9))]) (fun (z9 : Nat) => z9 ≤ 32) 0 (lv_sub hl [3, 4, 5, 6, 2, 1, 0] rfl) (Nat.zero_le _) (fun z9 ls hi hl ih62 => ?_)
        obtain ⟨o, hxe⟩ : ∃ z, z = z9 := ⟨_, rfl⟩
        subst hxe
        have hl : lv_has ls 7 [(0, .ref h0), (1, .int (nI h)), (2, .int pr), (3, .int (nI v)), (4, .int (nI (mdN mh ma mc h v))), (5, .int (nI (xf_cnt (mdRk mh ma mc h v) o))), (6, .int (nI o))] := hl
        have hi : o ≤ 32 := hi
        refine lv_iload hx hb dM_top_62 (lv_at hl 6 rfl) ?_
        refine lv_bipush (v := nI 32) hx hb dM_top_64 (by decide) ?_
        refine xf_ge (tgt := 115) hx hb dM_top_66 (by decide) (by omega) (by omega) (fun c66 => ?_) (fun c66 => ?_)
        ·
          obtain rfl : o = 32 := by omega
          refine lv_iload hx hb dM_top_115 (lv_at hl 4 rfl) ?_
          refine xf_zle (tgt := 128) hx hb dM_top_117 (by decide) (by omega) (fun c117 => ?_) (fun c117 => ?_)
          ·
            refine lv_iinc (v := nI (v + 1)) (lv' := [(3, .int (nI (v + 1))), (0, .ref h0), (1, .int (nI h)), (2, .int pr), (4, .int (nI (mdN mh ma mc h v))), (5, .int (nI (xf_cnt (mdRk mh ma mc h v) 32))), (6, .int (nI 32))]) hx hb dM_top_128 hl (k := 3) rfl (by exact nI_1 v) (by decide) rfl (fun ls hl => ?_)
            refine lv_goto (tgt := 42) hx hb dM_top_131 (by decide) ?_
            have e9 : mdTP mh ma mc h pr v = false := by unfold mdTP; rw [decide_eq_false (show ¬ 0 < mdN mh ma mc h v by omega), Bool.false_and]
            have hl := lv_sub (l' := [(0, .ref h0), (1, .int (nI h)), (2, .int pr), (3, .int (nI (v + 1)))]) hl [1, 2, 3, 0] rfl
            have hl : lv_has ls 7 [(0, .ref h0), (1, .int (nI h)), (2, .int pr), (3, .int (nI (v + 1)))] := xf_lv hl (by rfl)
            exact ih42 (v + 1) ls (by show 32 - (v + 1) < 32 - v; omega) (by refine ⟨by omega, ?_⟩; rw [hR, show 32 - v = (32 - (v + 1)) + 1 by omega, xf_find, if_neg (by rw [e9]; decide)]) hl
          ·
            refine lv_iload hx hb dM_top_120 (lv_at hl 5 rfl) ?_
            refine lv_iload_n hx hb dM_top_122 rfl (lv_at hl 2 rfl) ?_
            refine lv_icmp_ne (tgt := 128) hx hb dM_top_123 (by decide) (fun c123 => ?_) (fun c123 => ?_)
            ·
              refine lv_iinc (v := nI (v + 1)) (lv' := [(3, .int (nI (v + 1))), (0, .ref h0), (1, .int (nI h)), (2, .int pr), (4, .int (nI (mdN mh ma mc h v))), (5, .int (nI (xf_cnt (mdRk mh ma mc h v) 32))), (6, .int (nI 32))]) hx hb dM_top_128 hl (k := 3) rfl (by exact nI_1 v) (by decide) rfl (fun ls hl => ?_)
              refine lv_goto (tgt := 42) hx hb dM_top_131 (by decide) ?_
              have e9 : mdTP mh ma mc h pr v = false := by unfold mdTP; rw [decide_eq_false c123, Bool.and_false]
              have hl := lv_sub (l' := [(0, .ref h0), (1, .int (nI h)), (2, .int pr), (3, .int (nI (v + 1)))]) hl [1, 2, 3, 0] rfl
              have hl : lv_has ls 7 [(0, .ref h0), (1, .int (nI h)), (2, .int pr), (3, .int (nI (v + 1)))] := xf_lv hl (by rfl)
              exact ih42 (v + 1) ls (by show 32 - (v + 1) < 32 - v; omega) (by refine ⟨by omega, ?_⟩; rw [hR, show 32 - v = (32 - (v + 1)) + 1 by omega, xf_find, if_neg (by rw [e9]; decide)]) hl
            ·
              refine lv_iload_n hx hb dM_top_126 rfl (lv_at hl 3 rfl) ?_
              exact W.iret (v := nI v) hx hb hr (fun t9 ht9 hW9 => ⟨⟨_, (mh, ma, mc, mt, mdCt mh ma mc h mn 32, nI 0, ro), rfl, by rw [mdTop, if_pos c9, eh, show xf_find (mdTP mh ma mc h pr) 32 0 = nI v from by rw [hR, show 32 - v = (31 - v) + 1 by omega, xf_find, if_pos (by unfold mdTP; rw [decide_eq_true c117, decide_eq_true c123]; rfl)]], xf_hP ht9 hP⟩, hS.F ht9⟩) hS.2.2 dM_top_127
        ·
          have hb_o := mdN_le mh ma mc h o
          refine lv_iload hx hb dM_top_69 (lv_at hl 5 rfl) ?_
          refine lv_aload_n hx hb dM_top_71 rfl (lv_at hl 0 rfl) ?_
          refine va_get (D := (dC, dI)) (ci := 1) (v := .ref b5) (C := RX1) (T := TM) (N := 7) hx hb hts hin hown hK hP 0 rfl rfl 5 (by decide) hf_counts (fun _ h9 => h9) rfl dM_top_72 ?_
          refine lv_iload hx hb dM_top_75 (lv_at hl 6 rfl) ?_
          refine xf_iald hx hb hK hP 5 0 rfl rfl (j := o) (by omega) (by decide) dM_top_77 ?_
          refine xf_be (y := nI (mdN mh ma mc h o)) (mdCt_at mh ma mc h mn 32 o (by omega)) ?_
          refine lv_iload hx hb dM_top_78 (lv_at hl 4 rfl) ?_
          refine xf_gt (tgt := 101) hx hb dM_top_80 (by decide) (by omega) (by omega) (fun c80 => ?_) (fun c80 => ?_)
          ·
            refine lv_iconst (v := nI 1) hx hb dM_top_101 (by decide) ?_
            refine lv_goto (tgt := 106) hx hb dM_top_102 (by decide) ?_
            refine lv_iadd hx hb dM_top_106 ?_
            refine xf_be (y := nI (xf_cnt (mdRk mh ma mc h v) o + 1)) (by exact nI_add _ _) ?_
            refine lv_istore (lv' := [(5, .int (nI (xf_cnt (mdRk mh ma mc h v) o + 1))), (0, .ref h0), (1, .int (nI h)), (2, .int pr), (3, .int (nI v)), (4, .int (nI (mdN mh ma mc h v))), (6, .int (nI o))]) hx hb dM_top_107 hl (by decide) rfl (fun ls hl => ?_)
            refine lv_iinc (v := nI (o + 1)) (lv' := [(6, .int (nI (o + 1))), (5, .int (nI (xf_cnt (mdRk mh ma mc h v) o + 1))), (0, .ref h0), (1, .int (nI h)), (2, .int pr), (3, .int (nI v)), (4, .int (nI (mdN mh ma mc h v)))]) hx hb dM_top_109 hl (k := 6) rfl (by exact nI_1 o) (by decide) rfl (fun ls hl => ?_)
            refine lv_goto (tgt := 62) hx hb dM_top_112 (by decide) ?_
            have e9 : mdRk mh ma mc h v o = true := by unfold mdRk; rw [decide_eq_true c80, Bool.true_or]
            have hl := lv_sub (l' := [(0, .ref h0), (1, .int (nI h)), (2, .int pr), (3, .int (nI v)), (4, .int (nI (mdN mh ma mc h v))), (5, .int (nI (xf_cnt (mdRk mh ma mc h v) o + 1))), (6, .int (nI (o + 1)))]) hl [2, 3, 4, 5, 6, 1, 0] rfl
            have hl : lv_has ls 7 [(0, .ref h0), (1, .int (nI h)), (2, .int pr), (3, .int (nI v)), (4, .int (nI (mdN mh ma mc h v))), (5, .int (nI (xf_cnt (mdRk mh ma mc h v) (o + 1)))), (6, .int (nI (o + 1)))] := xf_lv hl (by simp [xf_cnt, e9])
            exact ih62 (o + 1) ls (by show 32 - (o + 1) < 32 - o; omega) (by show (o + 1) ≤ 32; omega) hl
          ·
            refine lv_aload_n hx hb dM_top_83 rfl (lv_at hl 0 rfl) ?_
            refine va_get (D := (dC, dI)) (ci := 1) (v := .ref b5) (C := RX1) (T := TM) (N := 7) hx hb hts hin hown hK hP 0 rfl rfl 5 (by decide) hf_counts (fun _ h9 => h9) rfl dM_top_84 ?_
            refine lv_iload hx hb dM_top_87 (lv_at hl 6 rfl) ?_
            refine xf_iald hx hb hK hP 5 0 rfl rfl (j := o) (by omega) (by decide) dM_top_89 ?_
            refine xf_be (y := nI (mdN mh ma mc h o)) (mdCt_at mh ma mc h mn 32 o (by omega)) ?_
            refine lv_iload hx hb dM_top_90 (lv_at hl 4 rfl) ?_
            refine xf_ne (tgt := 105) hx hb dM_top_92 (by decide) (by omega) (by omega) (fun c92 => ?_) (fun c92 => ?_)
            ·
              refine lv_iconst (v := nI 0) hx hb dM_top_105 (by decide) ?_
              refine lv_iadd hx hb dM_top_106 ?_
              refine xf_be (y := nI (xf_cnt (mdRk mh ma mc h v) o + 0)) (by exact nI_add _ _) ?_
              refine lv_istore (lv' := [(5, .int (nI (xf_cnt (mdRk mh ma mc h v) o + 0))), (0, .ref h0), (1, .int (nI h)), (2, .int pr), (3, .int (nI v)), (4, .int (nI (mdN mh ma mc h v))), (6, .int (nI o))]) hx hb dM_top_107 hl (by decide) rfl (fun ls hl => ?_)
              refine lv_iinc (v := nI (o + 1)) (lv' := [(6, .int (nI (o + 1))), (5, .int (nI (xf_cnt (mdRk mh ma mc h v) o + 0))), (0, .ref h0), (1, .int (nI h)), (2, .int pr), (3, .int (nI v)), (4, .int (nI (mdN mh ma mc h v)))]) hx hb dM_top_109 hl (k := 6) rfl (by exact nI_1 o) (by decide) rfl (fun ls hl => ?_)
              refine lv_goto (tgt := 62) hx hb dM_top_112 (by decide) ?_
              have e9 : mdRk mh ma mc h v o = false := by unfold mdRk; rw [decide_eq_false (show ¬ mdN mh ma mc h v < mdN mh ma mc h o by omega), decide_eq_false c92]; rfl
              have hl := lv_sub (l' := [(0, .ref h0), (1, .int (nI h)), (2, .int pr), (3, .int (nI v)), (4, .int (nI (mdN mh ma mc h v))), (5, .int (nI (xf_cnt (mdRk mh ma mc h v) o + 0))), (6, .int (nI (o + 1)))]) hl [2, 3, 4, 5, 6, 1, 0] rfl
              have hl : lv_has ls 7 [(0, .ref h0), (1, .int (nI h)), (2, .int pr), (3, .int (nI v)), (4, .int (nI (mdN mh ma mc h v))), (5, .int (nI (xf_cnt (mdRk mh ma mc h v) (o + 1)))), (6, .int (nI (o + 1)))] := xf_lv hl (by simp [xf_cnt, e9])
              exact ih62 (o + 1) ls (by show 32 - (o + 1) < 32 - o; omega) (by show (o + 1) ≤ 32; omega) hl
            ·
              refine lv_iload hx hb dM_top_95 (lv_at hl 6 rfl) ?_
              refine lv_iload_n hx hb dM_top_97 rfl (lv_at hl 3 rfl) ?_
              refine xf_ge (tgt := 105) hx hb dM_top_98 (by decide) (by omega) (by omega) (fun c98 => ?_) (fun c98 => ?_)
              ·
                refine lv_iconst (v := nI 0) hx hb dM_top_105 (by decide) ?_
                refine lv_iadd hx hb dM_top_106 ?_
                refine xf_be (y := nI (xf_cnt (mdRk mh ma mc h v) o + 0)) (by exact nI_add _ _) ?_
                refine lv_istore (lv' := [(5, .int (nI (xf_cnt (mdRk mh ma mc h v) o + 0))), (0, .ref h0), (1, .int (nI h)), (2, .int pr), (3, .int (nI v)), (4, .int (nI (mdN mh ma mc h v))), (6, .int (nI o))]) hx hb dM_top_107 hl (by decide) rfl (fun ls hl => ?_)
                refine lv_iinc (v := nI (o + 1)) (lv' := [(6, .int (nI (o + 1))), (5, .int (nI (xf_cnt (mdRk mh ma mc h v) o + 0))), (0, .ref h0), (1, .int (nI h)), (2, .int pr), (3, .int (nI v)), (4, .int (nI (mdN mh ma mc h v)))]) hx hb dM_top_109 hl (k := 6) rfl (by exact nI_1 o) (by decide) rfl (fun ls hl => ?_)
                refine lv_goto (tgt := 62) hx hb dM_top_112 (by decide) ?_
                have e9 : mdRk mh ma mc h v o = false := by unfold mdRk; rw [decide_eq_false (show ¬ mdN mh ma mc h v < mdN mh ma mc h o by omega), decide_eq_true c92, decide_eq_false (show ¬ o < v by omega)]; rfl
                have hl := lv_sub (l' := [(0, .ref h0), (1, .int (nI h)), (2, .int pr), (3, .int (nI v)), (4, .int (nI (mdN mh ma mc h v))), (5, .int (nI (xf_cnt (mdRk mh ma mc h v) o + 0))), (6, .int (nI (o + 1)))]) hl [2, 3, 4, 5, 6, 1, 0] rfl
                have hl : lv_has ls 7 [(0, .ref h0), (1, .int (nI h)), (2, .int pr), (3, .int (nI v)), (4, .int (nI (mdN mh ma mc h v))), (5, .int (nI (xf_cnt (mdRk mh ma mc h v) (o + 1)))), (6, .int (nI (o + 1)))] := xf_lv hl (by simp [xf_cnt, e9])
                exact ih62 (o + 1) ls (by show 32 - (o + 1) < 32 - o; omega) (by show (o + 1) ≤ 32; omega) hl
              ·
                refine lv_iconst (v := nI 1) hx hb dM_top_101 (by decide) ?_
                refine lv_goto (tgt := 106) hx hb dM_top_102 (by decide) ?_
                refine lv_iadd hx hb dM_top_106 ?_
                refine xf_be (y := nI (xf_cnt (mdRk mh ma mc h v) o + 1)) (by exact nI_add _ _) ?_
                refine lv_istore (lv' := [(5, .int (nI (xf_cnt (mdRk mh ma mc h v) o + 1))), (0, .ref h0), (1, .int (nI h)), (2, .int pr), (3, .int (nI v)), (4, .int (nI (mdN mh ma mc h v))), (6, .int (nI o))]) hx hb dM_top_107 hl (by decide) rfl (fun ls hl => ?_)
                refine lv_iinc (v := nI (o + 1)) (lv' := [(6, .int (nI (o + 1))), (5, .int (nI (xf_cnt (mdRk mh ma mc h v) o + 1))), (0, .ref h0), (1, .int (nI h)), (2, .int pr), (3, .int (nI v)), (4, .int (nI (mdN mh ma mc h v)))]) hx hb dM_top_109 hl (k := 6) rfl (by exact nI_1 o) (by decide) rfl (fun ls hl => ?_)
                refine lv_goto (tgt := 62) hx hb dM_top_112 (by decide) ?_
                have e9 : mdRk mh ma mc h v o = true := by unfold mdRk; rw [decide_eq_false (show ¬ mdN mh ma mc h v < mdN mh ma mc h o by omega), decide_eq_true c92, decide_eq_true c98]; rfl
                have hl := lv_sub (l' := [(0, .ref h0), (1, .int (nI h)), (2, .int pr), (3, .int (nI v)), (4, .int (nI (mdN mh ma mc h v))), (5, .int (nI (xf_cnt (mdRk mh ma mc h v) o + 1))), (6, .int (nI (o + 1)))]) hl [2, 3, 4, 5, 6, 1, 0] rfl
                have hl : lv_has ls 7 [(0, .ref h0), (1, .int (nI h)), (2, .int pr), (3, .int (nI v)), (4, .int (nI (mdN mh ma mc h v))), (5, .int (nI (xf_cnt (mdRk mh ma mc h v) (o + 1)))), (6, .int (nI (o + 1)))] := xf_lv hl (by simp [xf_cnt, e9])
                exact ih62 (o + 1) ls (by show 32 - (o + 1) < 32 - o; omega) (by show (o + 1) ≤ 32; omega) hl
    ·
      refine lv_aload_n hx hb dM_top_22 rfl (lv_at hl 0 rfl) ?_
      refine va_get (D := (dC, dI)) (ci := 1) (v := .ref b5) (C := RX1) (T := TM) (N := 7) hx hb hts hin hown hK hP 0 rfl rfl 5 (by decide) hf_counts (fun _ h9 => h9) rfl dM_top_23 ?_
      refine lv_iload_n hx hb dM_top_26 rfl (lv_at hl 3 rfl) ?_
      refine lv_aload_n hx hb dM_top_27 rfl (lv_at hl 0 rfl) ?_
      refine lv_iload_n hx hb dM_top_28 rfl (lv_at hl 1 rfl) ?_
      refine lv_iload_n hx hb dM_top_29 rfl (lv_at hl 3 rfl) ?_
      refine vp_callSi (W.runV (As := [.int (nI h), .int (nI v)]) (rest := [.int (nI v), .ref b5]) ⟨hx, hb, hml, hown, hts⟩ (m_count l dC dI h0 b1 b2 b3 b4 b5 cI cZ mh ma mc mt (mdCt mh ma mc h mn v) (nI 0) ro h v (by omega) (by omega) hOk hAc) (cwV 2 hts gM_top_count rfl rfl rfl (by decide +kernel) ⟨Nat.le_of_ble_eq_true rfl, Nat.le_of_ble_eq_true rfl⟩) (xf_preV (ci := 1) (RX1, TM, 7) hK hP rfl rfl) rfl rfl hl.1 rfl (lv_room (Nat.le_of_ble_eq_true rfl)) dM_top_30 ⟨Nat.zero_le _, Nat.zero_le _⟩) (fun r hr9 => ?_)
      subst hr9
      refine xf_iast hx hb hK hP hD hS 5 0 rfl rfl (j := v) (by omega) (by decide) dM_top_33 (fun H locs hP hD hS => ?_)
      have hP : va_P (dC, dI) fmCl (mw h0 b1 b2 b3 b4 b5 cI cZ mh ma mc mt (upd (mdCt mh ma mc h mn v) v (nI (mdN mh ma mc h v))) (nI 0) ro) H := hP
      have hD : va_D A (mw h0 b1 b2 b3 b4 b5 cI cZ mh ma mc mt (upd (mdCt mh ma mc h mn v) v (nI (mdN mh ma mc h v))) (nI 0) ro) := hD
      refine lv_iinc (v := nI (v + 1)) (lv' := [(3, .int (nI (v + 1))), (0, .ref h0), (1, .int (nI h)), (2, .int pr)]) hx hb dM_top_34 hl (k := 3) rfl (by exact nI_1 v) (by decide) rfl (fun ls hl => ?_)
      refine lv_goto (tgt := 16) hx hb dM_top_37 (by decide) ?_
      have hl := lv_sub (l' := [(0, .ref h0), (1, .int (nI h)), (2, .int pr), (3, .int (nI (v + 1)))]) hl [1, 2, 3, 0] rfl
      have hl : lv_has ls 7 [(0, .ref h0), (1, .int (nI h)), (2, .int pr), (3, .int (nI (v + 1)))] := xf_lv hl (by rfl)
      have hP : va_P (dC, dI) fmCl (mw h0 b1 b2 b3 b4 b5 cI cZ mh ma mc mt (mdCt mh ma mc h mn (v + 1)) (nI 0) ro) H := xf_wP hP (by rfl)
      have hD : va_D A (mw h0 b1 b2 b3 b4 b5 cI cZ mh ma mc mt (mdCt mh ma mc h mn (v + 1)) (nI 0) ro) := xf_wD hD rfl
      exact ih16 (v + 1) ls H locs (by show 32 - (v + 1) < 32 - v; omega) (by show (v + 1) ≤ 32; omega) hl hP hD hS
  ·
    refine lv_iconst (v := (-1)) hx hb dM_top_12 (by decide) ?_
    exact W.iret (v := (-1)) hx hb hr (fun t9 ht9 hW9 => ⟨⟨_, (mh, ma, mc, mt, mn, nI 0, ro), rfl, by simp [mdTop, c9], xf_hP ht9 hP⟩, hS.F ht9⟩) hS.2.2 dM_top_13
