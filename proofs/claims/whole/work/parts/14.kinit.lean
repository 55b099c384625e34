set_option maxHeartbeats 1000000 in
set_option maxRecDepth 100000 in
/-- FacetCounts() -/
theorem k_init (l : Launch) (dC : Nat → ClassId) (dI : Nat → Nat → Nat) (h0 sz : Nat) : Met l yX0_init wsX0_init ({ frames := 2, cells := 6, slots := 912, locals := 40 }) (va_Pc [.ref h0] (fun U => U.heap.size = sz ∧ va_P (dC, dI) fmCl [(h0, .inr (0, [.null, .null, .null, .null, .null, .null, .int 0]))] U.heap ∧ va_K (dC, dI) fmCl [] U ∧ va_D (fun _ => True) [(h0, .inr (0, [.null, .null, .null, .null, .null, .null, .int 0]))])) (va_Qv (fun _ : Unit => True) (fun _ t => ∃ (cI : ClassId) (a1 a2 a3 a4 a5 a6 : Nat), va_P (dC, dI) fmCl (fw h0 a1 a2 a3 a4 a5 a6 cI ((fun _ => 0)) ((fun _ => 0)) (xf_fill (-1) (fun _ => 0) 32) ((fun _ => 0)) ((fun _ => 0)) ((fun _ => 0)) (nI 0)) t.heap ∧ va_K (dC, dI) fmCl [(cI, .int)] t ∧ va_D (va_A [(h0, .inr (0, [.null, .null, .null, .null, .null, .null, .int 0]))] sz) (fw h0 a1 a2 a3 a4 a5 a6 cI ((fun _ => 0)) ((fun _ => 0)) (xf_fill (-1) (fun _ => 0) 32) ((fun _ => 0)) ((fun _ => 0)) ((fun _ => 0)) (nI 0))) (va_A [(h0, .inr (0, [.null, .null, .null, .null, .null, .null, .int 0]))] sz)) 6 912 (va_A [(h0, .inr (0, [.null, .null, .null, .null, .null, .null, .int 0]))] sz) := by
  refine Met.ofW (cc := cX0_init) (maxL := 1) (ret := none) (by decide) rfl ?_
  intro p e s m args below meth c s₁ B hml hv
  obtain ⟨rfl, hsz, hP, hK, hD0⟩ := hv
  have hx := B.exec
  have hb := B.bytes
  have hr := B.returns
  have hts := atoms_spec (ws := wsX0_init) B.pre
  have hown : s.vm.findClass RX0 = some m.cls := findClass_of_methodNamed B.named
  have hlocks := B.notSynchronized
  have hin0 : meth.name = "<init>" := (name_of_methodNamed B.named B.method).1
  subst hsz
  have hD := hD0.self (sz := s.heap.size)
  generalize hAe : va_A [(h0, .inr (0, [.null, .null, .null, .null, .null, .null, .int 0]))] s.heap.size = A at hD ⊢
  have hA : ∀ q : Nat, s.heap.size ≤ q → A q := fun q h => by rw [← hAe]; exact Or.inr h
  have hS : va_S A s.heap s.heap [] := va_S.rf
  have hin : ∀ w ∈ u_ws RX0 TX0 7, w ∈ wsX0_init := by decide +kernel
  have hP : va_P (dC, dI) fmCl [(h0, .inr (0, [.null, .null, .null, .null, .null, .null, .int 0]))] s.heap := hP
  have hl := lv_entry ([.ref h0]) (n := 1) (Nat.le_of_ble_eq_true rfl)
  rw [lg_entry_eq]
  generalize (lg_sl ([.ref h0]) ++ List.replicate (1 - (lg_sl ([.ref h0])).length) Slot.unset).toArray = ls at hl ⊢
  have hl : lv_has ls 1 [(0, .ref h0)] := hl
  refine lv_aload_n hx hb dX0_init_0 rfl (lv_at hl 0 rfl) ?_
  refine W.objInit hx hb hown (hts (.methodLink RX0 1 objectInit) (by decide +kernel)) (hts (.instanceMethod objectInit) (by decide +kernel)) (hts (.code objectInit ⟨#[0xb1]⟩ 1 none) (by decide +kernel)) rfl (by rw [hml]; exact hl.1) rfl dX0_init_1 (Nat.le_of_ble_eq_true rfl) (Nat.le_of_ble_eq_true rfl) ?_
  refine W.eq (g2 := F0 m 4 ls []) rfl ?_
  refine lv_aload_n hx hb dX0_init_4 rfl (lv_at hl 0 rfl) ?_
  refine lv_sipush (v := nI 320) hx hb dX0_init_5 (by decide) ?_
  refine va_newa (n := nI 320) (N' := 320) (atype := .int) (a0 := (320, .inl (fun _ => 0))) (ty := .int) hx hb (hts (.arrayClass .int) (by decide +kernel)) rfl hK hP hD hS hA (fun _ => vp_cell_i _ _ _) (nI_pos (by decide)) (@nI_clamp 320 (by decide)) (show 320 * 4 ≤ 536870912 from by omega) (show 0 + 1 ≤ 6 from by omega) (show 0 + 320 ≤ 912 from by omega) dX0_init_8 (fun a1 cI H hK hP hD hS => ?_)
  have hK := hK.sub (tys' := [(cI, .int)]) [0] rfl
  have hP : va_P (dC, dI) fmCl [(h0, .inr (0, [.null, .null, .null, .null, .null, .null, .int 0])), (a1, .inl (cI, 320, .inl (fun _ => 0)))] H := hP
  have hD : va_D A [(h0, .inr (0, [.null, .null, .null, .null, .null, .null, .int 0])), (a1, .inl (cI, 320, .inl (fun _ => 0)))] := hD
  refine W.widen (k := 1) (n := 320) (by omega) (by omega) ?_
  have hf_given := hts (.fieldLink RX0 9 "FacetCounts" "given" "[I") (by decide +kernel)
  refine va_putF (D := (dC, dI)) (ci := 0) (v := .ref a1) (ty := .array .int) (C := RX0) (T := TX0) (N := 7) hx hb hts hin tyX0 tyX0_ok nmX0 hown hK hP hD hS 0 rfl rfl 0 (by decide) hf_given (fun _ h9 => h9) rfl hin0 rfl (by decide +kernel) rfl rfl (Nat.le_of_ble_eq_true rfl) dX0_init_10 (fun H locs hP hD hS => ?_)
  have hP : va_P (dC, dI) fmCl [(h0, .inr (0, [.ref a1, .null, .null, .null, .null, .null, .int 0])), (a1, .inl (cI, 320, .inl (fun _ => 0)))] H := hP
  have hD : va_D A [(h0, .inr (0, [.ref a1, .null, .null, .null, .null, .null, .int 0])), (a1, .inl (cI, 320, .inl (fun _ => 0)))] := hD
  refine lv_aload_n hx hb dX0_init_13 rfl (lv_at hl 0 rfl) ?_
  refine lv_bipush (v := nI 40) hx hb dX0_init_14 (by decide) ?_
  refine va_newa (n := nI 40) (N' := 40) (atype := .int) (a0 := (40, .inl (fun _ => 0))) (ty := .int) hx hb (hts (.arrayClass .int) (by decide +kernel)) rfl hK hP hD hS hA (fun _ => vp_cell_i _ _ _) (nI_pos (by decide)) (@nI_clamp 40 (by decide)) (show 40 * 4 ≤ 536870912 from by omega) (show 1 + 1 ≤ 6 from by omega) (show 320 + 40 ≤ 912 from by omega) dX0_init_16 (fun a2 cI9 H hK hP hD hS => ?_)
  obtain rfl : cI = cI9 := xf_oneI hK (i := 0) (j := 1) rfl rfl
  have hK := hK.sub (tys' := [(cI, .int)]) [0] rfl
  have hP : va_P (dC, dI) fmCl [(h0, .inr (0, [.ref a1, .null, .null, .null, .null, .null, .int 0])), (a1, .inl (cI, 320, .inl (fun _ => 0))), (a2, .inl (cI, 40, .inl (fun _ => 0)))] H := hP
  have hD : va_D A [(h0, .inr (0, [.ref a1, .null, .null, .null, .null, .null, .int 0])), (a1, .inl (cI, 320, .inl (fun _ => 0))), (a2, .inl (cI, 40, .inl (fun _ => 0)))] := hD
  refine W.widen (k := 2) (n := 360) (by omega) (by omega) ?_
  have hf_kinds := hts (.fieldLink RX0 13 "FacetCounts" "kinds" "[I") (by decide +kernel)
  refine va_putF (D := (dC, dI)) (ci := 0) (v := .ref a2) (ty := .array .int) (C := RX0) (T := TX0) (N := 7) hx hb hts hin tyX0 tyX0_ok nmX0 hown hK hP hD hS 0 rfl rfl 1 (by decide) hf_kinds (fun _ h9 => h9) rfl hin0 rfl (by decide +kernel) rfl rfl (Nat.le_of_ble_eq_true rfl) dX0_init_18 (fun H locs hP hD hS => ?_)
  have hP : va_P (dC, dI) fmCl [(h0, .inr (0, [.ref a1, .ref a2, .null, .null, .null, .null, .int 0])), (a1, .inl (cI, 320, .inl (fun _ => 0))), (a2, .inl (cI, 40, .inl (fun _ => 0)))] H := hP
  have hD : va_D A [(h0, .inr (0, [.ref a1, .ref a2, .null, .null, .null, .null, .int 0])), (a1, .inl (cI, 320, .inl (fun _ => 0))), (a2, .inl (cI, 40, .inl (fun _ => 0)))] := hD
  refine lv_aload_n hx hb dX0_init_21 rfl (lv_at hl 0 rfl) ?_
  refine lv_bipush (v := nI 32) hx hb dX0_init_22 (by decide) ?_
  refine va_newa (n := nI 32) (N' := 32) (atype := .int) (a0 := (32, .inl (fun _ => 0))) (ty := .int) hx hb (hts (.arrayClass .int) (by decide +kernel)) rfl hK hP hD hS hA (fun _ => vp_cell_i _ _ _) (nI_pos (by decide)) (@nI_clamp 32 (by decide)) (show 32 * 4 ≤ 536870912 from by omega) (show 2 + 1 ≤ 6 from by omega) (show 360 + 32 ≤ 912 from by omega) dX0_init_24 (fun a3 cI9 H hK hP hD hS => ?_)
  obtain rfl : cI = cI9 := xf_oneI hK (i := 0) (j := 1) rfl rfl
  have hK := hK.sub (tys' := [(cI, .int)]) [0] rfl
  have hP : va_P (dC, dI) fmCl [(h0, .inr (0, [.ref a1, .ref a2, .null, .null, .null, .null, .int 0])), (a1, .inl (cI, 320, .inl (fun _ => 0))), (a2, .inl (cI, 40, .inl (fun _ => 0))), (a3, .inl (cI, 32, .inl (fun _ => 0)))] H := hP
  have hD : va_D A [(h0, .inr (0, [.ref a1, .ref a2, .null, .null, .null, .null, .int 0])), (a1, .inl (cI, 320, .inl (fun _ => 0))), (a2, .inl (cI, 40, .inl (fun _ => 0))), (a3, .inl (cI, 32, .inl (fun _ => 0)))] := hD
  refine W.widen (k := 3) (n := 392) (by omega) (by omega) ?_
  have hf_uppers := hts (.fieldLink RX0 16 "FacetCounts" "uppers" "[I") (by decide +kernel)
  refine va_putF (D := (dC, dI)) (ci := 0) (v := .ref a3) (ty := .array .int) (C := RX0) (T := TX0) (N := 7) hx hb hts hin tyX0 tyX0_ok nmX0 hown hK hP hD hS 0 rfl rfl 2 (by decide) hf_uppers (fun _ h9 => h9) rfl hin0 rfl (by decide +kernel) rfl rfl (Nat.le_of_ble_eq_true rfl) dX0_init_26 (fun H locs hP hD hS => ?_)
  have hP : va_P (dC, dI) fmCl [(h0, .inr (0, [.ref a1, .ref a2, .ref a3, .null, .null, .null, .int 0])), (a1, .inl (cI, 320, .inl (fun _ => 0))), (a2, .inl (cI, 40, .inl (fun _ => 0))), (a3, .inl (cI, 32, .inl (fun _ => 0)))] H := hP
  have hD : va_D A [(h0, .inr (0, [.ref a1, .ref a2, .ref a3, .null, .null, .null, .int 0])), (a1, .inl (cI, 320, .inl (fun _ => 0))), (a2, .inl (cI, 40, .inl (fun _ => 0))), (a3, .inl (cI, 32, .inl (fun _ => 0)))] := hD
  refine lv_aload_n hx hb dX0_init_29 rfl (lv_at hl 0 rfl) ?_
  refine lv_bipush (v := nI 8) hx hb dX0_init_30 (by decide) ?_
  refine va_newa (n := nI 8) (N' := 8) (atype := .int) (a0 := (8, .inl (fun _ => 0))) (ty := .int) hx hb (hts (.arrayClass .int) (by decide +kernel)) rfl hK hP hD hS hA (fun _ => vp_cell_i _ _ _) (nI_pos (by decide)) (@nI_clamp 8 (by decide)) (show 8 * 4 ≤ 536870912 from by omega) (show 3 + 1 ≤ 6 from by omega) (show 392 + 8 ≤ 912 from by omega) dX0_init_32 (fun a4 cI9 H hK hP hD hS => ?_)
  obtain rfl : cI = cI9 := xf_oneI hK (i := 0) (j := 1) rfl rfl
  have hK := hK.sub (tys' := [(cI, .int)]) [0] rfl
  have hP : va_P (dC, dI) fmCl [(h0, .inr (0, [.ref a1, .ref a2, .ref a3, .null, .null, .null, .int 0])), (a1, .inl (cI, 320, .inl (fun _ => 0))), (a2, .inl (cI, 40, .inl (fun _ => 0))), (a3, .inl (cI, 32, .inl (fun _ => 0))), (a4, .inl (cI, 8, .inl (fun _ => 0)))] H := hP
  have hD : va_D A [(h0, .inr (0, [.ref a1, .ref a2, .ref a3, .null, .null, .null, .int 0])), (a1, .inl (cI, 320, .inl (fun _ => 0))), (a2, .inl (cI, 40, .inl (fun _ => 0))), (a3, .inl (cI, 32, .inl (fun _ => 0))), (a4, .inl (cI, 8, .inl (fun _ => 0)))] := hD
  refine W.widen (k := 4) (n := 400) (by omega) (by omega) ?_
  have hf_chosen := hts (.fieldLink RX0 19 "FacetCounts" "chosen" "[I") (by decide +kernel)
  refine va_putF (D := (dC, dI)) (ci := 0) (v := .ref a4) (ty := .array .int) (C := RX0) (T := TX0) (N := 7) hx hb hts hin tyX0 tyX0_ok nmX0 hown hK hP hD hS 0 rfl rfl 3 (by decide) hf_chosen (fun _ h9 => h9) rfl hin0 rfl (by decide +kernel) rfl rfl (Nat.le_of_ble_eq_true rfl) dX0_init_34 (fun H locs hP hD hS => ?_)
  have hP : va_P (dC, dI) fmCl [(h0, .inr (0, [.ref a1, .ref a2, .ref a3, .ref a4, .null, .null, .int 0])), (a1, .inl (cI, 320, .inl (fun _ => 0))), (a2, .inl (cI, 40, .inl (fun _ => 0))), (a3, .inl (cI, 32, .inl (fun _ => 0))), (a4, .inl (cI, 8, .inl (fun _ => 0)))] H := hP
  have hD : va_D A [(h0, .inr (0, [.ref a1, .ref a2, .ref a3, .ref a4, .null, .null, .int 0])), (a1, .inl (cI, 320, .inl (fun _ => 0))), (a2, .inl (cI, 40, .inl (fun _ => 0))), (a3, .inl (cI, 32, .inl (fun _ => 0))), (a4, .inl (cI, 8, .inl (fun _ => 0)))] := hD
  refine lv_aload_n hx hb dX0_init_37 rfl (lv_at hl 0 rfl) ?_
  refine lv_sipush (v := nI 256) hx hb dX0_init_38 (by decide) ?_
  refine va_newa (n := nI 256) (N' := 256) (atype := .int) (a0 := (256, .inl (fun _ => 0))) (ty := .int) hx hb (hts (.arrayClass .int) (by decide +kernel)) rfl hK hP hD hS hA (fun _ => vp_cell_i _ _ _) (nI_pos (by decide)) (@nI_clamp 256 (by decide)) (show 256 * 4 ≤ 536870912 from by omega) (show 4 + 1 ≤ 6 from by omega) (show 400 + 256 ≤ 912 from by omega) dX0_init_41 (fun a5 cI9 H hK hP hD hS => ?_)
  obtain rfl : cI = cI9 := xf_oneI hK (i := 0) (j := 1) rfl rfl
  have hK := hK.sub (tys' := [(cI, .int)]) [0] rfl
  have hP : va_P (dC, dI) fmCl [(h0, .inr (0, [.ref a1, .ref a2, .ref a3, .ref a4, .null, .null, .int 0])), (a1, .inl (cI, 320, .inl (fun _ => 0))), (a2, .inl (cI, 40, .inl (fun _ => 0))), (a3, .inl (cI, 32, .inl (fun _ => 0))), (a4, .inl (cI, 8, .inl (fun _ => 0))), (a5, .inl (cI, 256, .inl (fun _ => 0)))] H := hP
  have hD : va_D A [(h0, .inr (0, [.ref a1, .ref a2, .ref a3, .ref a4, .null, .null, .int 0])), (a1, .inl (cI, 320, .inl (fun _ => 0))), (a2, .inl (cI, 40, .inl (fun _ => 0))), (a3, .inl (cI, 32, .inl (fun _ => 0))), (a4, .inl (cI, 8, .inl (fun _ => 0))), (a5, .inl (cI, 256, .inl (fun _ => 0)))] := hD
  refine W.widen (k := 5) (n := 656) (by omega) (by omega) ?_
  have hf_before := hts (.fieldLink RX0 22 "FacetCounts" "before" "[I") (by decide +kernel)
  refine va_putF (D := (dC, dI)) (ci := 0) (v := .ref a5) (ty := .array .int) (C := RX0) (T := TX0) (N := 7) hx hb hts hin tyX0 tyX0_ok nmX0 hown hK hP hD hS 0 rfl rfl 4 (by decide) hf_before (fun _ h9 => h9) rfl hin0 rfl (by decide +kernel) rfl rfl (Nat.le_of_ble_eq_true rfl) dX0_init_43 (fun H locs hP hD hS => ?_)
  have hP : va_P (dC, dI) fmCl [(h0, .inr (0, [.ref a1, .ref a2, .ref a3, .ref a4, .ref a5, .null, .int 0])), (a1, .inl (cI, 320, .inl (fun _ => 0))), (a2, .inl (cI, 40, .inl (fun _ => 0))), (a3, .inl (cI, 32, .inl (fun _ => 0))), (a4, .inl (cI, 8, .inl (fun _ => 0))), (a5, .inl (cI, 256, .inl (fun _ => 0)))] H := hP
  have hD : va_D A [(h0, .inr (0, [.ref a1, .ref a2, .ref a3, .ref a4, .ref a5, .null, .int 0])), (a1, .inl (cI, 320, .inl (fun _ => 0))), (a2, .inl (cI, 40, .inl (fun _ => 0))), (a3, .inl (cI, 32, .inl (fun _ => 0))), (a4, .inl (cI, 8, .inl (fun _ => 0))), (a5, .inl (cI, 256, .inl (fun _ => 0)))] := hD
  refine lv_aload_n hx hb dX0_init_46 rfl (lv_at hl 0 rfl) ?_
  refine lv_sipush (v := nI 256) hx hb dX0_init_47 (by decide) ?_
  refine va_newa (n := nI 256) (N' := 256) (atype := .int) (a0 := (256, .inl (fun _ => 0))) (ty := .int) hx hb (hts (.arrayClass .int) (by decide +kernel)) rfl hK hP hD hS hA (fun _ => vp_cell_i _ _ _) (nI_pos (by decide)) (@nI_clamp 256 (by decide)) (show 256 * 4 ≤ 536870912 from by omega) (show 5 + 1 ≤ 6 from by omega) (show 656 + 256 ≤ 912 from by omega) dX0_init_50 (fun a6 cI9 H hK hP hD hS => ?_)
  obtain rfl : cI = cI9 := xf_oneI hK (i := 0) (j := 1) rfl rfl
  have hK := hK.sub (tys' := [(cI, .int)]) [0] rfl
  have hP : va_P (dC, dI) fmCl [(h0, .inr (0, [.ref a1, .ref a2, .ref a3, .ref a4, .ref a5, .null, .int 0])), (a1, .inl (cI, 320, .inl (fun _ => 0))), (a2, .inl (cI, 40, .inl (fun _ => 0))), (a3, .inl (cI, 32, .inl (fun _ => 0))), (a4, .inl (cI, 8, .inl (fun _ => 0))), (a5, .inl (cI, 256, .inl (fun _ => 0))), (a6, .inl (cI, 256, .inl (fun _ => 0)))] H := hP
  have hD : va_D A [(h0, .inr (0, [.ref a1, .ref a2, .ref a3, .ref a4, .ref a5, .null, .int 0])), (a1, .inl (cI, 320, .inl (fun _ => 0))), (a2, .inl (cI, 40, .inl (fun _ => 0))), (a3, .inl (cI, 32, .inl (fun _ => 0))), (a4, .inl (cI, 8, .inl (fun _ => 0))), (a5, .inl (cI, 256, .inl (fun _ => 0))), (a6, .inl (cI, 256, .inl (fun _ => 0)))] := hD
  refine W.widen (k := 6) (n := 912) (by omega) (by omega) ?_
  have hf_counts := hts (.fieldLink RX0 25 "FacetCounts" "counts" "[I") (by decide +kernel)
  refine va_putF (D := (dC, dI)) (ci := 0) (v := .ref a6) (ty := .array .int) (C := RX0) (T := TX0) (N := 7) hx hb hts hin tyX0 tyX0_ok nmX0 hown hK hP hD hS 0 rfl rfl 5 (by decide) hf_counts (fun _ h9 => h9) rfl hin0 rfl (by decide +kernel) rfl rfl (Nat.le_of_ble_eq_true rfl) dX0_init_52 (fun H locs hP hD hS => ?_)
  have hP : va_P (dC, dI) fmCl [(h0, .inr (0, [.ref a1, .ref a2, .ref a3, .ref a4, .ref a5, .ref a6, .int 0])), (a1, .inl (cI, 320, .inl (fun _ => 0))), (a2, .inl (cI, 40, .inl (fun _ => 0))), (a3, .inl (cI, 32, .inl (fun _ => 0))), (a4, .inl (cI, 8, .inl (fun _ => 0))), (a5, .inl (cI, 256, .inl (fun _ => 0))), (a6, .inl (cI, 256, .inl (fun _ => 0)))] H := hP
  have hD : va_D A [(h0, .inr (0, [.ref a1, .ref a2, .ref a3, .ref a4, .ref a5, .ref a6, .int 0])), (a1, .inl (cI, 320, .inl (fun _ => 0))), (a2, .inl (cI, 40, .inl (fun _ => 0))), (a3, .inl (cI, 32, .inl (fun _ => 0))), (a4, .inl (cI, 8, .inl (fun _ => 0))), (a5, .inl (cI, 256, .inl (fun _ => 0))), (a6, .inl (cI, 256, .inl (fun _ => 0)))] := hD
  refine lv_aload_n hx hb dX0_init_55 rfl (lv_at hl 0 rfl) ?_
  refine lv_iconst (v := nI 0) hx hb dX0_init_56 (by decide) ?_
  have hf_rowCount := hts (.fieldLink RX0 28 "FacetCounts" "rowCount" "I") (by decide +kernel)
  refine va_put (D := (dC, dI)) (ci := 0) (v := .int (nI 0)) (ty := .int) (C := RX0) (T := TX0) (N := 7) hx hb hts hin tyX0 tyX0_ok nmX0 hown hK hP hD hS 0 rfl rfl 6 (by decide) hf_rowCount (fun _ h9 => h9) rfl (by decide +kernel) rfl rfl (Nat.le_of_ble_eq_true rfl) dX0_init_57 (fun H locs hP hD hS => ?_)
  have hP : va_P (dC, dI) fmCl [(h0, .inr (0, [.ref a1, .ref a2, .ref a3, .ref a4, .ref a5, .ref a6, .int (nI 0)])), (a1, .inl (cI, 320, .inl (fun _ => 0))), (a2, .inl (cI, 40, .inl (fun _ => 0))), (a3, .inl (cI, 32, .inl (fun _ => 0))), (a4, .inl (cI, 8, .inl (fun _ => 0))), (a5, .inl (cI, 256, .inl (fun _ => 0))), (a6, .inl (cI, 256, .inl (fun _ => 0)))] H := hP
  have hD : va_D A [(h0, .inr (0, [.ref a1, .ref a2, .ref a3, .ref a4, .ref a5, .ref a6, .int (nI 0)])), (a1, .inl (cI, 320, .inl (fun _ => 0))), (a2, .inl (cI, 40, .inl (fun _ => 0))), (a3, .inl (cI, 32, .inl (fun _ => 0))), (a4, .inl (cI, 8, .inl (fun _ => 0))), (a5, .inl (cI, 256, .inl (fun _ => 0))), (a6, .inl (cI, 256, .inl (fun _ => 0)))] := hD
  refine lv_aload_n hx hb dX0_init_60 rfl (lv_at hl 0 rfl) ?_
  refine va_get (D := (dC, dI)) (ci := 0) (v := .ref a3) (C := RX0) (T := TX0) (N := 7) hx hb hts hin hown hK hP 0 rfl rfl 2 (by decide) hf_uppers (fun _ h9 => h9) rfl dX0_init_61 ?_
  refine lv_iconst (v := (-1)) hx hb dX0_init_64 (by decide) ?_
  have hPf : va_P (dC, dI) fmCl ([(h0, .inr (0, [.ref a1, .ref a2, .ref a3, .ref a4, .ref a5, .ref a6, .int (nI 0)])), (a1, .inl (cI, 320, .inl (fun _ => 0))), (a2, .inl (cI, 40, .inl (fun _ => 0)))] ++ ([(a3, .inl (cI, 32, .inl (fun _ => 0)))] ++ [(a4, .inl (cI, 8, .inl (fun _ => 0))), (a5, .inl (cI, 256, .inl (fun _ => 0))), (a6, .inl (cI, 256, .inl (fun _ => 0)))])) _ := hP
  have hDf : va_D A ([(h0, .inr (0, [.ref a1, .ref a2, .ref a3, .ref a4, .ref a5, .ref a6, .int (nI 0)])), (a1, .inl (cI, 320, .inl (fun _ => 0))), (a2, .inl (cI, 40, .inl (fun _ => 0)))] ++ ([(a3, .inl (cI, 32, .inl (fun _ => 0)))] ++ [(a4, .inl (cI, 8, .inl (fun _ => 0))), (a5, .inl (cI, 256, .inl (fun _ => 0))), (a6, .inl (cI, 256, .inl (fun _ => 0)))])) := hD
  have hPc := xf_P_left (xf_P_right hPf)
  have hDc := xf_D_left (xf_D_right hDf)
  have hFc := xf_A_le hDc
  refine va_callv (va_runS (As := [.ref a3, .int (-1)]) (rest := []) ⟨hx, hb, hml, hown, hts⟩ (j_fill l dC dI a3 cI 32 (fun _ => 0) (-1) (by decide)) (va_cwS 2 hts gX0_init_J7_fill_53178 rfl rfl rfl (by decide +kernel) ⟨Nat.le_of_ble_eq_true rfl, Nat.le_of_ble_eq_true rfl⟩) (xf_preSW hK hPc hDc) rfl rfl hl.1 rfl (lv_room (Nat.le_of_ble_eq_true rfl)) dX0_init_65 ⟨show 6 + 0 ≤ 6 from by omega, show 912 + 0 ≤ 912 from by omega⟩) hS (fun q _ h => hFc q h) hFc (fun u9 t9 H locs ht9 hvm9 hw9 hB9 hz9 hk9 hS => ?_)
  have hB9 := xf_hB ht9 hB9
  have hP : va_P (dC, dI) fmCl (fw h0 a1 a2 a3 a4 a5 a6 cI ((fun _ => 0)) ((fun _ => 0)) (xf_fill (-1) (fun _ => 0) 32) ((fun _ => 0)) ((fun _ => 0)) ((fun _ => 0)) (nI 0)) H := xf_join hPf hDf hB9 hk9
  have hD : va_D A (fw h0 a1 a2 a3 a4 a5 a6 cI ((fun _ => 0)) ((fun _ => 0)) (xf_fill (-1) (fun _ => 0) 32) ((fun _ => 0)) ((fun _ => 0)) ((fun _ => 0)) (nI 0)) := xf_wD hD rfl
  exact W.vret hx hb hr (fun t9 ht9 hW9 => ⟨⟨(), rfl, trivial, cI, a1, a2, a3, a4, a5, a6, xf_hP ht9 hP, va_K.moved hW9.alike hK, hD⟩, hS.F ht9⟩) hS.2.2 dX0_init_68
