set_option maxHeartbeats 1000000 in
set_option maxRecDepth 100000 in
/-- FacetCountsModel() -/
theorem m_init (l : Launch) (dC : Nat → ClassId) (dI : Nat → Nat → Nat) (h0 sz : Nat) : Met l yM_init wsM_init ({ frames := 1, cells := 5, slots := 10816, locals := 12 }) (va_Pc [.ref h0] (fun U => U.heap.size = sz ∧ va_P (dC, dI) fmCl [(h0, .inr (1, [.int 0, .null, .null, .null, .null, .null, .int 0]))] U.heap ∧ va_K (dC, dI) fmCl [] U ∧ va_D (fun _ => True) [(h0, .inr (1, [.int 0, .null, .null, .null, .null, .null, .int 0]))])) (va_Qv (fun _ : Unit => True) (fun _ t => ∃ (cI cZ : ClassId) (b1 b2 b3 b4 b5 : Nat), va_P (dC, dI) fmCl (mw h0 b1 b2 b3 b4 b5 cI cZ ((fun _ => false)) (xf_fill (-1) (fun _ => 0) 32) ((fun _ => false)) ((fun _ => 0)) ((fun _ => 0)) 0 0) t.heap ∧ va_K (dC, dI) fmCl [(cI, .int), (cZ, .boolean)] t ∧ va_D (va_A [(h0, .inr (1, [.int 0, .null, .null, .null, .null, .null, .int 0]))] sz) (mw h0 b1 b2 b3 b4 b5 cI cZ ((fun _ => false)) (xf_fill (-1) (fun _ => 0) 32) ((fun _ => false)) ((fun _ => 0)) ((fun _ => 0)) 0 0)) (va_A [(h0, .inr (1, [.int 0, .null, .null, .null, .null, .null, .int 0]))] sz)) 5 10816 (va_A [(h0, .inr (1, [.int 0, .null, .null, .null, .null, .null, .int 0]))] sz) := by
  refine Met.ofW (cc := cM_init) (maxL := 2) (ret := none) (by decide) rfl ?_
  intro p e s m args below meth c s₁ B hml hv
  obtain ⟨rfl, hsz, hP, hK, hD0⟩ := hv
  have hx := B.exec
  have hb := B.bytes
  have hr := B.returns
  have hts := atoms_spec (ws := wsM_init) B.pre
  have hown : s.vm.findClass RX1 = some m.cls := findClass_of_methodNamed B.named
  have hlocks := B.notSynchronized
  have hin0 : meth.name = "<init>" := (name_of_methodNamed B.named B.method).1
  subst hsz
  have hD := hD0.self (sz := s.heap.size)
  generalize hAe : va_A [(h0, .inr (1, [.int 0, .null, .null, .null, .null, .null, .int 0]))] s.heap.size = A at hD ⊢
  have hA : ∀ q : Nat, s.heap.size ≤ q → A q := fun q h => by rw [← hAe]; exact Or.inr h
  have hS : va_S A s.heap s.heap [] := va_S.rf
  have hin : ∀ w ∈ u_ws RX1 TM 7, w ∈ wsM_init := by decide +kernel
  have hP : va_P (dC, dI) fmCl [(h0, .inr (1, [.int 0, .null, .null, .null, .null, .null, .int 0]))] s.heap := hP
  have hl := lv_entry ([.ref h0]) (n := 2) (Nat.le_of_ble_eq_true rfl)
  rw [lg_entry_eq]
  generalize (lg_sl ([.ref h0]) ++ List.replicate (2 - (lg_sl ([.ref h0])).length) Slot.unset).toArray = ls at hl ⊢
  have hl : lv_has ls 2 [(0, .ref h0)] := hl
  refine lv_aload_n hx hb dM_init_0 rfl (lv_at hl 0 rfl) ?_
  refine W.objInit hx hb hown (hts (.methodLink RX1 1 objectInit) (by decide +kernel)) (hts (.instanceMethod objectInit) (by decide +kernel)) (hts (.code objectInit ⟨#[0xb1]⟩ 1 none) (by decide +kernel)) rfl (by rw [hml]; exact hl.1) rfl dM_init_1 (Nat.le_of_ble_eq_true rfl) (Nat.le_of_ble_eq_true rfl) ?_
  refine W.eq (g2 := F0 m 4 ls []) rfl ?_
  refine lv_aload_n hx hb dM_init_4 rfl (lv_at hl 0 rfl) ?_
  refine lv_sipush (v := nI 10240) hx hb dM_init_5 (by decide) ?_
  refine va_newa (n := nI 10240) (N' := 10240) (atype := .boolean) (a0 := (10240, .inl (fun i => xf_B ((fun _ => false) i)))) (ty := .boolean) hx hb (hts (.arrayClass .boolean) (by decide +kernel)) rfl hK hP hD hS hA (fun _ => vp_cell_i _ _ _) (nI_pos (by decide)) (@nI_clamp 10240 (by decide)) (show 10240 * 1 ≤ 536870912 from by omega) (show 0 + 1 ≤ 5 from by omega) (show 0 + 10240 ≤ 10816 from by omega) dM_init_8 (fun b1 cZ H hK hP hD hS => ?_)
  have hK := hK.sub (tys' := [(cZ, .boolean)]) [0] rfl
  have hP : va_P (dC, dI) fmCl [(h0, .inr (1, [.int 0, .null, .null, .null, .null, .null, .int 0])), (b1, .inl (cZ, 10240, .inl (fun i => xf_B ((fun _ => false) i))))] H := hP
  have hD : va_D A [(h0, .inr (1, [.int 0, .null, .null, .null, .null, .null, .int 0])), (b1, .inl (cZ, 10240, .inl (fun i => xf_B ((fun _ => false) i))))] := hD
  refine W.widen (k := 1) (n := 10240) (by omega) (by omega) ?_
  have hf_has := hts (.fieldLink RX1 7 "FacetCountsModel" "has" "[Z") (by decide +kernel)
  refine va_putF (D := (dC, dI)) (ci := 1) (v := .ref b1) (ty := .array .boolean) (C := RX1) (T := TM) (N := 7) hx hb hts hin tyM tyM_ok nmM hown hK hP hD hS 0 rfl rfl 1 (by decide) hf_has (fun _ h9 => h9) rfl hin0 rfl (by decide +kernel) rfl rfl (Nat.le_of_ble_eq_true rfl) dM_init_10 (fun H locs hP hD hS => ?_)
  have hP : va_P (dC, dI) fmCl [(h0, .inr (1, [.int 0, .ref b1, .null, .null, .null, .null, .int 0])), (b1, .inl (cZ, 10240, .inl (fun i => xf_B ((fun _ => false) i))))] H := hP
  have hD : va_D A [(h0, .inr (1, [.int 0, .ref b1, .null, .null, .null, .null, .int 0])), (b1, .inl (cZ, 10240, .inl (fun i => xf_B ((fun _ => false) i))))] := hD
  refine lv_aload_n hx hb dM_init_13 rfl (lv_at hl 0 rfl) ?_
  refine lv_bipush (v := nI 32) hx hb dM_init_14 (by decide) ?_
  refine va_newa (n := nI 32) (N' := 32) (atype := .int) (a0 := (32, .inl (fun _ => 0))) (ty := .int) hx hb (hts (.arrayClass .int) (by decide +kernel)) rfl hK hP hD hS hA (fun _ => vp_cell_i _ _ _) (nI_pos (by decide)) (@nI_clamp 32 (by decide)) (show 32 * 4 ≤ 536870912 from by omega) (show 1 + 1 ≤ 5 from by omega) (show 10240 + 32 ≤ 10816 from by omega) dM_init_16 (fun b2 cI H hK hP hD hS => ?_)
  have hK := hK.sub (tys' := [(cZ, .boolean), (cI, .int)]) [0, 1] rfl
  have hP : va_P (dC, dI) fmCl [(h0, .inr (1, [.int 0, .ref b1, .null, .null, .null, .null, .int 0])), (b1, .inl (cZ, 10240, .inl (fun i => xf_B ((fun _ => false) i)))), (b2, .inl (cI, 32, .inl (fun _ => 0)))] H := hP
  have hD : va_D A [(h0, .inr (1, [.int 0, .ref b1, .null, .null, .null, .null, .int 0])), (b1, .inl (cZ, 10240, .inl (fun i => xf_B ((fun _ => false) i)))), (b2, .inl (cI, 32, .inl (fun _ => 0)))] := hD
  refine W.widen (k := 2) (n := 10272) (by omega) (by omega) ?_
  have hf_above := hts (.fieldLink RX1 13 "FacetCountsModel" "above" "[I") (by decide +kernel)
  refine va_putF (D := (dC, dI)) (ci := 1) (v := .ref b2) (ty := .array .int) (C := RX1) (T := TM) (N := 7) hx hb hts hin tyM tyM_ok nmM hown hK hP hD hS 0 rfl rfl 2 (by decide) hf_above (fun _ h9 => h9) rfl hin0 rfl (by decide +kernel) rfl rfl (Nat.le_of_ble_eq_true rfl) dM_init_18 (fun H locs hP hD hS => ?_)
  have hP : va_P (dC, dI) fmCl [(h0, .inr (1, [.int 0, .ref b1, .ref b2, .null, .null, .null, .int 0])), (b1, .inl (cZ, 10240, .inl (fun i => xf_B ((fun _ => false) i)))), (b2, .inl (cI, 32, .inl (fun _ => 0)))] H := hP
  have hD : va_D A [(h0, .inr (1, [.int 0, .ref b1, .ref b2, .null, .null, .null, .int 0])), (b1, .inl (cZ, 10240, .inl (fun i => xf_B ((fun _ => false) i)))), (b2, .inl (cI, 32, .inl (fun _ => 0)))] := hD
  refine lv_aload_n hx hb dM_init_21 rfl (lv_at hl 0 rfl) ?_
  refine lv_sipush (v := nI 256) hx hb dM_init_22 (by decide) ?_
  refine va_newa (n := nI 256) (N' := 256) (atype := .boolean) (a0 := (256, .inl (fun i => xf_B ((fun _ => false) i)))) (ty := .boolean) hx hb (hts (.arrayClass .boolean) (by decide +kernel)) rfl hK hP hD hS hA (fun _ => vp_cell_i _ _ _) (nI_pos (by decide)) (@nI_clamp 256 (by decide)) (show 256 * 1 ≤ 536870912 from by omega) (show 2 + 1 ≤ 5 from by omega) (show 10272 + 256 ≤ 10816 from by omega) dM_init_25 (fun b3 cZ9 H hK hP hD hS => ?_)
  obtain rfl : cZ = cZ9 := xf_oneZ hK (i := 0) (j := 2) rfl rfl
  have hK := hK.sub (tys' := [(cZ, .boolean), (cI, .int)]) [0, 1] rfl
  have hP : va_P (dC, dI) fmCl [(h0, .inr (1, [.int 0, .ref b1, .ref b2, .null, .null, .null, .int 0])), (b1, .inl (cZ, 10240, .inl (fun i => xf_B ((fun _ => false) i)))), (b2, .inl (cI, 32, .inl (fun _ => 0))), (b3, .inl (cZ, 256, .inl (fun i => xf_B ((fun _ => false) i))))] H := hP
  have hD : va_D A [(h0, .inr (1, [.int 0, .ref b1, .ref b2, .null, .null, .null, .int 0])), (b1, .inl (cZ, 10240, .inl (fun i => xf_B ((fun _ => false) i)))), (b2, .inl (cI, 32, .inl (fun _ => 0))), (b3, .inl (cZ, 256, .inl (fun i => xf_B ((fun _ => false) i))))] := hD
  refine W.widen (k := 3) (n := 10528) (by omega) (by omega) ?_
  have hf_chosen := hts (.fieldLink RX1 17 "FacetCountsModel" "chosen" "[Z") (by decide +kernel)
  refine va_putF (D := (dC, dI)) (ci := 1) (v := .ref b3) (ty := .array .boolean) (C := RX1) (T := TM) (N := 7) hx hb hts hin tyM tyM_ok nmM hown hK hP hD hS 0 rfl rfl 3 (by decide) hf_chosen (fun _ h9 => h9) rfl hin0 rfl (by decide +kernel) rfl rfl (Nat.le_of_ble_eq_true rfl) dM_init_27 (fun H locs hP hD hS => ?_)
  have hP : va_P (dC, dI) fmCl [(h0, .inr (1, [.int 0, .ref b1, .ref b2, .ref b3, .null, .null, .int 0])), (b1, .inl (cZ, 10240, .inl (fun i => xf_B ((fun _ => false) i)))), (b2, .inl (cI, 32, .inl (fun _ => 0))), (b3, .inl (cZ, 256, .inl (fun i => xf_B ((fun _ => false) i))))] H := hP
  have hD : va_D A [(h0, .inr (1, [.int 0, .ref b1, .ref b2, .ref b3, .null, .null, .int 0])), (b1, .inl (cZ, 10240, .inl (fun i => xf_B ((fun _ => false) i)))), (b2, .inl (cI, 32, .inl (fun _ => 0))), (b3, .inl (cZ, 256, .inl (fun i => xf_B ((fun _ => false) i))))] := hD
  refine lv_aload_n hx hb dM_init_30 rfl (lv_at hl 0 rfl) ?_
  refine lv_sipush (v := nI 256) hx hb dM_init_31 (by decide) ?_
  refine va_newa (n := nI 256) (N' := 256) (atype := .int) (a0 := (256, .inl (fun _ => 0))) (ty := .int) hx hb (hts (.arrayClass .int) (by decide +kernel)) rfl hK hP hD hS hA (fun _ => vp_cell_i _ _ _) (nI_pos (by decide)) (@nI_clamp 256 (by decide)) (show 256 * 4 ≤ 536870912 from by omega) (show 3 + 1 ≤ 5 from by omega) (show 10528 + 256 ≤ 10816 from by omega) dM_init_34 (fun b4 cI9 H hK hP hD hS => ?_)
  obtain rfl : cI = cI9 := xf_oneI hK (i := 1) (j := 2) rfl rfl
  have hK := hK.sub (tys' := [(cZ, .boolean), (cI, .int)]) [0, 1] rfl
  have hP : va_P (dC, dI) fmCl [(h0, .inr (1, [.int 0, .ref b1, .ref b2, .ref b3, .null, .null, .int 0])), (b1, .inl (cZ, 10240, .inl (fun i => xf_B ((fun _ => false) i)))), (b2, .inl (cI, 32, .inl (fun _ => 0))), (b3, .inl (cZ, 256, .inl (fun i => xf_B ((fun _ => false) i)))), (b4, .inl (cI, 256, .inl (fun _ => 0)))] H := hP
  have hD : va_D A [(h0, .inr (1, [.int 0, .ref b1, .ref b2, .ref b3, .null, .null, .int 0])), (b1, .inl (cZ, 10240, .inl (fun i => xf_B ((fun _ => false) i)))), (b2, .inl (cI, 32, .inl (fun _ => 0))), (b3, .inl (cZ, 256, .inl (fun i => xf_B ((fun _ => false) i)))), (b4, .inl (cI, 256, .inl (fun _ => 0)))] := hD
  refine W.widen (k := 4) (n := 10784) (by omega) (by omega) ?_
  have hf_told := hts (.fieldLink RX1 20 "FacetCountsModel" "told" "[I") (by decide +kernel)
  refine va_putF (D := (dC, dI)) (ci := 1) (v := .ref b4) (ty := .array .int) (C := RX1) (T := TM) (N := 7) hx hb hts hin tyM tyM_ok nmM hown hK hP hD hS 0 rfl rfl 4 (by decide) hf_told (fun _ h9 => h9) rfl hin0 rfl (by decide +kernel) rfl rfl (Nat.le_of_ble_eq_true rfl) dM_init_36 (fun H locs hP hD hS => ?_)
  have hP : va_P (dC, dI) fmCl [(h0, .inr (1, [.int 0, .ref b1, .ref b2, .ref b3, .ref b4, .null, .int 0])), (b1, .inl (cZ, 10240, .inl (fun i => xf_B ((fun _ => false) i)))), (b2, .inl (cI, 32, .inl (fun _ => 0))), (b3, .inl (cZ, 256, .inl (fun i => xf_B ((fun _ => false) i)))), (b4, .inl (cI, 256, .inl (fun _ => 0)))] H := hP
  have hD : va_D A [(h0, .inr (1, [.int 0, .ref b1, .ref b2, .ref b3, .ref b4, .null, .int 0])), (b1, .inl (cZ, 10240, .inl (fun i => xf_B ((fun _ => false) i)))), (b2, .inl (cI, 32, .inl (fun _ => 0))), (b3, .inl (cZ, 256, .inl (fun i => xf_B ((fun _ => false) i)))), (b4, .inl (cI, 256, .inl (fun _ => 0)))] := hD
  refine lv_aload_n hx hb dM_init_39 rfl (lv_at hl 0 rfl) ?_
  refine lv_bipush (v := nI 32) hx hb dM_init_40 (by decide) ?_
  refine va_newa (n := nI 32) (N' := 32) (atype := .int) (a0 := (32, .inl (fun _ => 0))) (ty := .int) hx hb (hts (.arrayClass .int) (by decide +kernel)) rfl hK hP hD hS hA (fun _ => vp_cell_i _ _ _) (nI_pos (by decide)) (@nI_clamp 32 (by decide)) (show 32 * 4 ≤ 536870912 from by omega) (show 4 + 1 ≤ 5 from by omega) (show 10784 + 32 ≤ 10816 from by omega) dM_init_42 (fun b5 cI9 H hK hP hD hS => ?_)
  obtain rfl : cI = cI9 := xf_oneI hK (i := 1) (j := 2) rfl rfl
  have hK := hK.sub (tys' := [(cZ, .boolean), (cI, .int)]) [0, 1] rfl
  have hP : va_P (dC, dI) fmCl [(h0, .inr (1, [.int 0, .ref b1, .ref b2, .ref b3, .ref b4, .null, .int 0])), (b1, .inl (cZ, 10240, .inl (fun i => xf_B ((fun _ => false) i)))), (b2, .inl (cI, 32, .inl (fun _ => 0))), (b3, .inl (cZ, 256, .inl (fun i => xf_B ((fun _ => false) i)))), (b4, .inl (cI, 256, .inl (fun _ => 0))), (b5, .inl (cI, 32, .inl (fun _ => 0)))] H := hP
  have hD : va_D A [(h0, .inr (1, [.int 0, .ref b1, .ref b2, .ref b3, .ref b4, .null, .int 0])), (b1, .inl (cZ, 10240, .inl (fun i => xf_B ((fun _ => false) i)))), (b2, .inl (cI, 32, .inl (fun _ => 0))), (b3, .inl (cZ, 256, .inl (fun i => xf_B ((fun _ => false) i)))), (b4, .inl (cI, 256, .inl (fun _ => 0))), (b5, .inl (cI, 32, .inl (fun _ => 0)))] := hD
  refine W.widen (k := 5) (n := 10816) (by omega) (by omega) ?_
  have hf_counts := hts (.fieldLink RX1 23 "FacetCountsModel" "counts" "[I") (by decide +kernel)
  refine va_putF (D := (dC, dI)) (ci := 1) (v := .ref b5) (ty := .array .int) (C := RX1) (T := TM) (N := 7) hx hb hts hin tyM tyM_ok nmM hown hK hP hD hS 0 rfl rfl 5 (by decide) hf_counts (fun _ h9 => h9) rfl hin0 rfl (by decide +kernel) rfl rfl (Nat.le_of_ble_eq_true rfl) dM_init_44 (fun H locs hP hD hS => ?_)
  have hP : va_P (dC, dI) fmCl [(h0, .inr (1, [.int 0, .ref b1, .ref b2, .ref b3, .ref b4, .ref b5, .int 0])), (b1, .inl (cZ, 10240, .inl (fun i => xf_B ((fun _ => false) i)))), (b2, .inl (cI, 32, .inl (fun _ => 0))), (b3, .inl (cZ, 256, .inl (fun i => xf_B ((fun _ => false) i)))), (b4, .inl (cI, 256, .inl (fun _ => 0))), (b5, .inl (cI, 32, .inl (fun _ => 0)))] H := hP
  have hD : va_D A [(h0, .inr (1, [.int 0, .ref b1, .ref b2, .ref b3, .ref b4, .ref b5, .int 0])), (b1, .inl (cZ, 10240, .inl (fun i => xf_B ((fun _ => false) i)))), (b2, .inl (cI, 32, .inl (fun _ => 0))), (b3, .inl (cZ, 256, .inl (fun i => xf_B ((fun _ => false) i)))), (b4, .inl (cI, 256, .inl (fun _ => 0))), (b5, .inl (cI, 32, .inl (fun _ => 0)))] := hD
  have hK := hK.sub (tys' := [(cI, .int), (cZ, .boolean)]) [1, 0] rfl
  have hP : va_P (dC, dI) fmCl (mw h0 b1 b2 b3 b4 b5 cI cZ ((fun _ => false)) ((fun _ => 0)) ((fun _ => false)) ((fun _ => 0)) ((fun _ => 0)) 0 0) H := hP
  have hD : va_D A (mw h0 b1 b2 b3 b4 b5 cI cZ ((fun _ => false)) ((fun _ => 0)) ((fun _ => false)) ((fun _ => 0)) ((fun _ => 0)) 0 0) := hD
  refine lv_iconst (v := nI 0) hx hb dM_init_47 (by decide) ?_
  refine lv_istore_n (lv' := [(1, .int (nI 0)), (0, .ref h0)]) hx hb dM_init_48 rfl hl (by decide) rfl (fun ls hl => ?_)
  refine xf_loopH (σ := Nat) (fun (z9 : Nat) => 32 - z9) (fun (z9 : Nat) => [(0, .ref h0), (1, .int (nI z9))]) (fun (z9 : Nat) => (mw h0 b1 b2 b3 b4 b5 cI cZ ((fun _ => false)) (xf_fill (-1) (fun _ => 0) z9) ((fun _ => false)) ((fun _ => 0)) ((fun _ => 0)) 0 0)) (fun (z9 : Nat) => z9 ≤ 32) 0 (lv_sub hl [1, 0] rfl) (Nat.zero_le _) hP hD hS (fun z9 ls H locs hi hl hP hD hS ih49 => ?_)
  obtain ⟨k, hxe⟩ : ∃ z, z = z9 := ⟨_, rfl⟩
  subst hxe
  have hl : lv_has ls 2 [(0, .ref h0), (1, .int (nI k))] := hl
  have hP : va_P (dC, dI) fmCl (mw h0 b1 b2 b3 b4 b5 cI cZ ((fun _ => false)) (xf_fill (-1) (fun _ => 0) k) ((fun _ => false)) ((fun _ => 0)) ((fun _ => 0)) 0 0) H := hP
  have hD : va_D A (mw h0 b1 b2 b3 b4 b5 cI cZ ((fun _ => false)) (xf_fill (-1) (fun _ => 0) k) ((fun _ => false)) ((fun _ => 0)) ((fun _ => 0)) 0 0) := hD
  have hi : k ≤ 32 := hi
  refine lv_iload_n hx hb dM_init_49 rfl (lv_at hl 1 rfl) ?_
  refine lv_bipush (v := nI 32) hx hb dM_init_50 (by decide) ?_
  refine xf_ge (tgt := 68) hx hb dM_init_52 (by decide) (by omega) (by omega) (fun c52 => ?_) (fun c52 => ?_)
  ·
    obtain rfl : k = 32 := by omega
    exact W.vret hx hb hr (fun t9 ht9 hW9 => ⟨⟨(), rfl, trivial, cI, cZ, b1, b2, b3, b4, b5, xf_hP ht9 hP, va_K.moved hW9.alike hK, hD⟩, hS.F ht9⟩) hS.2.2 dM_init_68
  ·
    refine lv_aload_n hx hb dM_init_55 rfl (lv_at hl 0 rfl) ?_
    refine va_get (D := (dC, dI)) (ci := 1) (v := .ref b2) (C := RX1) (T := TM) (N := 7) hx hb hts hin hown hK hP 0 rfl rfl 2 (by decide) hf_above (fun _ h9 => h9) rfl dM_init_56 ?_
    refine lv_iload_n hx hb dM_init_59 rfl (lv_at hl 1 rfl) ?_
    refine lv_iconst (v := (-1)) hx hb dM_init_60 (by decide) ?_
    refine xf_iast hx hb hK hP hD hS 2 0 rfl rfl (j := k) (by omega) (by decide) dM_init_61 (fun H locs hP hD hS => ?_)
    have hP : va_P (dC, dI) fmCl (mw h0 b1 b2 b3 b4 b5 cI cZ ((fun _ => false)) (upd (xf_fill (-1) (fun _ => 0) k) k ((-1))) ((fun _ => false)) ((fun _ => 0)) ((fun _ => 0)) 0 0) H := hP
    have hD : va_D A (mw h0 b1 b2 b3 b4 b5 cI cZ ((fun _ => false)) (upd (xf_fill (-1) (fun _ => 0) k) k ((-1))) ((fun _ => false)) ((fun _ => 0)) ((fun _ => 0)) 0 0) := hD
    refine lv_iinc (v := nI (k + 1)) (lv' := [(1, .int (nI (k + 1))), (0, .ref h0)]) hx hb dM_init_62 hl (k := 1) rfl (by exact nI_1 k) (by decide) rfl (fun ls hl => ?_)
    refine lv_goto (tgt := 49) hx hb dM_init_65 (by decide) ?_
    have hl := lv_sub (l' := [(0, .ref h0), (1, .int (nI (k + 1)))]) hl [1, 0] rfl
    have hl : lv_has ls 2 [(0, .ref h0), (1, .int (nI (k + 1)))] := xf_lv hl (by rfl)
    have hP : va_P (dC, dI) fmCl (mw h0 b1 b2 b3 b4 b5 cI cZ ((fun _ => false)) (xf_fill (-1) (fun _ => 0) (k + 1)) ((fun _ => false)) ((fun _ => 0)) ((fun _ => 0)) 0 0) H := xf_wP hP (by rfl)
    have hD : va_D A (mw h0 b1 b2 b3 b4 b5 cI cZ ((fun _ => false)) (xf_fill (-1) (fun _ => 0) (k + 1)) ((fun _ => false)) ((fun _ => 0)) ((fun _ => 0)) 0 0) := xf_wD hD rfl
    exact ih49 (k + 1) ls H locs (by show 32 - (k + 1) < 32 - k; omega) (by show (k + 1) ≤ 32; omega) hl hP hD hS
