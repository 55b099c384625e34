/-! what holds between the class's state and the reference's -/
def fmI (fg fk fu fc fb : Nat → Int32) (rc : Int32) (mh : Nat → Bool) (ma : Nat → Int32) (mc : Nat → Bool) (mt : Nat → Int32) (ro : Int32) (n : Nat) : Prop :=
  (∀ k, k < 32 → fu k = ma k) ∧ mdOk ma ∧ mdAc ma ∧ (∀ t h v, t < 40 → h < 8 → v < 32 → mh ((t * 8 + h) * 32 + v) = bt (fg (t * 8 + h)) v) ∧
  (∀ t v, t < 40 → v < 32 → (bt (fk t) v = true ↔ ∃ k, k < 32 ∧ bt (fg (t * 8)) k = true ∧ mdU ma k v = true)) ∧
  (∀ h v, h < 8 → v < 32 → mc (32 * h + v) = bt (fc h) v) ∧ (∀ i, i < 256 → mt i = fb i) ∧ rc = ro ∧ -(n : Int) ≤ rc.toInt ∧ rc.toInt ≤ 300
theorem xf_ne0 {x : Int32} : ¬ x = 0 ↔ ∃ j, j < 32 ∧ bt x j = true := by
  rw [xf_bt0]
  constructor
  · intro h
    apply Classical.byContradiction
    intro hn
    exact h fun j hj => by
      cases hb : bt x j with
      | true => exact absurd ⟨j, hj, hb⟩ hn
      | false => rfl
  · intro ⟨j, hj, hb⟩ h
    rw [h j hj] at hb
    cases hb
section FMS
variable {fg fk fu fc fb : Nat → Int32} {rc : Int32} {mh : Nat → Bool} {ma : Nat → Int32} {mc : Nat → Bool} {mt : Nat → Int32} {ro : Int32} {n : Nat}
theorem fm_O (hI : fmI fg fk fu fc fb rc mh ma mc mt ro n) {t h v : Nat} (ht : t < 40) (hh : h < 8) (hv : v < 32) : mdO mh ma t h v = bt (fcV fg fk t h) v := by
  obtain ⟨-, -, -, i4, i5, -⟩ := hI
  unfold mdO fcV
  by_cases e : h = 0
  · subst e
    rw [if_neg (by omega), if_pos rfl, Bool.eq_iff_iff, xf_any_iff, i5 t v ht hv]
    constructor
    · intro ⟨k, hk, hb⟩
      unfold mdOP at hb
      rw [Bool.and_eq_true] at hb
      have q := i4 t 0 k ht (by omega) hk
      rw [Nat.add_zero] at q
      exact ⟨k, hk, by rw [← q]; exact hb.1, hb.2⟩
    · intro ⟨k, hk, h1, h2⟩
      have q := i4 t 0 k ht (by omega) hk
      rw [Nat.add_zero] at q
      exact ⟨k, hk, by unfold mdOP; rw [q, h1, h2]; rfl⟩
  · rw [if_pos (by omega), if_neg e]
    exact i4 t h v ht hh hv
theorem fm_M (hI : fmI fg fk fu fc fb rc mh ma mc mt ro n) {t h : Nat} (ht : t < 40) (hh : h < 8) : mdM mh ma mc t h = !fcLa fg fk fc t h := by
  have hc := hI.2.2.2.2.2.1
  have h1 : xf_any (mdCh mc h) 32 = decide (¬ fc h = 0) := by
    rw [Bool.eq_iff_iff, xf_any_iff, decide_eq_true_eq, xf_ne0]
    constructor
    · intro ⟨j, hj, hb⟩
      exact ⟨j, hj, by rw [← hc h j hh hj]; exact hb⟩
    · intro ⟨j, hj, hb⟩
      exact ⟨j, hj, by unfold mdCh; rw [hc h j hh hj]; exact hb⟩
  have h2 : xf_any (mdMP mh ma mc t h) 32 = decide (¬ fc h &&& fcV fg fk t h = 0) := by
    rw [Bool.eq_iff_iff, xf_any_iff, decide_eq_true_eq, xf_ne0]
    constructor
    · intro ⟨j, hj, hb⟩
      unfold mdMP at hb
      rw [hc h j hh hj, fm_O hI ht hh hj] at hb
      exact ⟨j, hj, by rw [b_and]; exact hb⟩
    · intro ⟨j, hj, hb⟩
      rw [b_and] at hb
      exact ⟨j, hj, by unfold mdMP; rw [hc h j hh hj, fm_O hI ht hh hj]; exact hb⟩
  unfold mdM fcLa fcLP
  rw [h1, h2]
  by_cases a : fc h = 0
  · simp [a]
  · by_cases b : fc h &&& fcV fg fk t h = 0
    · simp [a, b]
    · simp [a, b]
theorem fm_KB (hI : fmI fg fk fu fc fb rc mh ma mc mt ro n) {t h : Nat} (ht : t < 40) (hh : h < 8) : mdK mh ma mc t (nI h) = fcKB fg fk fc h t := by
  rw [Bool.eq_iff_iff, fcKB_iff fg fk fc h t hh]
  unfold mdK
  rw [xf_all_iff]
  constructor
  · intro q a ha hne
    have := q a ha
    unfold mdKP at this
    rw [fm_M hI ht ha, decide_eq_false (fun z => hne ((nI_eq (by omega) (by omega)).mp z)), Bool.false_or] at this
    simpa using this
  · intro q a ha
    unfold mdKP
    by_cases e : a = h
    · rw [e, decide_eq_true rfl, Bool.true_or]
    · rw [fm_M hI ht ha, q a ha e]
      simp
theorem fm_Kp (hI : fmI fg fk fu fc fb rc mh ma mc mt ro n) {t : Nat} (ht : t < 40) : mdK mh ma mc t (-1) = fcKp fg fk fc t := by
  rw [Bool.eq_iff_iff, fcKp_iff fg fk fc t]
  unfold mdK
  rw [xf_all_iff]
  constructor
  · intro q a ha
    have := q a ha
    unfold mdKP at this
    rw [fm_M hI ht ha, decide_eq_false (xf_m1 (show a < 2 ^ 31 by omega)), Bool.false_or] at this
    simpa using this
  · intro q a ha
    unfold mdKP
    rw [fm_M hI ht ha, q a ha]
    simp
theorem fm_N (hI : fmI fg fk fu fc fb rc mh ma mc mt ro n) {h v : Nat} (hh : h < 8) (hv : v < 32) : mdN mh ma mc h v = fcN fg fk fc h v := by
  unfold mdN fcN
  exact xf_cnt_congr fun t ht => by
    unfold mdNP
    rw [fm_O hI ht hh hv, fm_KB hI ht hh]
theorem fm_all (hI : fmI fg fk fu fc fb rc mh ma mc mt ro n) : xf_cnt (mdAP mh ma mc (-1)) 40 = xf_cnt (fcKp fg fk fc) 40 := xf_cnt_congr fun t ht => fm_Kp hI ht
theorem fm_allB (hI : fmI fg fk fu fc fb rc mh ma mc mt ro n) {h : Nat} (hh : h < 8) : xf_cnt (mdAP mh ma mc (nI h)) 40 = xf_cnt (fcKB fg fk fc h) 40 := xf_cnt_congr fun t ht => fm_KB hI ht hh
/-- one call more -/
theorem fm_more (hI : fmI fg fk fu fc fb rc mh ma mc mt ro n) : fmI fg fk fu fc fb rc mh ma mc mt ro (n + 1) := by
  obtain ⟨i1, i2, i3, i4, i5, i6, i7, i8, i9, i10⟩ := hI
  exact ⟨i1, i2, i3, i4, i5, i6, i7, i8, by omega, i10⟩
theorem fm_isKept (hI : fmI fg fk fu fc fb rc mh ma mc mt ro n) (t : Int32) : fcIsKept fg fk fc t = mdIsKept mh ma mc t := by
  unfold fcIsKept mdIsKept
  by_cases h : xf_in t 40 = true
  · obtain ⟨j, hj, rfl⟩ := xf_in_of h (by decide)
    rw [if_pos h, if_pos h, nI_clamp (by omega), fm_Kp hI hj]
  · rw [if_neg h, if_neg h]
theorem fm_facet (hI : fmI fg fk fu fc fb rc mh ma mc mt ro n) (h v : Int32) : fcFacet fg fk fc h v = mdFacet mh ma mc h v := by
  unfold fcFacet mdFacet
  by_cases q : (xf_in h 8 && xf_in v 32) = true
  · have q' := q
    rw [Bool.and_eq_true] at q'
    obtain ⟨i, hi, rfl⟩ := xf_in_of q'.1 (by decide)
    obtain ⟨j, hj, rfl⟩ := xf_in_of q'.2 (by decide)
    rw [if_pos q, if_pos q, nI_clamp (by omega), nI_clamp (by omega), fm_N hI hi hj, fcWA_bit fg fk fc i j hj]
    rfl
  · rw [if_neg q, if_neg q]
theorem fm_range (hI : fmI fg fk fu fc fb rc mh ma mc mt ro n) (h pa pb : Int32) : fcRange fg fk fc h pa pb = mdRange mh ma mc h pa pb := by
  unfold fcRange mdRange
  by_cases q : xf_in h 8 = true
  · obtain ⟨i, hi, rfl⟩ := xf_in_of q (by decide)
    rw [if_pos q, if_pos q, nI_clamp (by omega)]
    congr 1
    refine xf_cnt_congr fun t ht => ?_
    unfold fcWA mdRg
    rw [fm_KB hI ht hi]
    congr 1
    rw [Bool.eq_iff_iff, decide_eq_true_eq, xf_ne0, xf_any_iff]
    constructor
    · intro ⟨j, hj, hb⟩
      rw [b_and, xf_mk_bt _ 32 (Nat.le_refl _) j hj, decide_eq_true hj, Bool.true_and, Bool.and_eq_true] at hb
      refine ⟨j, hj, ?_⟩
      unfold mdRq
      have h2 := hb.2
      unfold fcSpP at h2
      rw [Bool.and_eq_true, decide_eq_true_eq, decide_eq_true_eq] at h2
      rw [fm_O hI ht hi hj, hb.1, decide_eq_false (fun z => by
        have z := Int32.lt_iff_toInt_lt.mp z
        rw [nI_toInt (by omega)] at z
        omega), decide_eq_false (fun z => by
        have z := Int32.lt_iff_toInt_lt.mp z
        rw [nI_toInt (by omega)] at z
        omega)]
      rfl
    · intro ⟨j, hj, hb⟩
      unfold mdRq at hb
      rw [Bool.and_eq_true, Bool.and_eq_true, fm_O hI ht hi hj] at hb
      refine ⟨j, hj, ?_⟩
      rw [b_and, xf_mk_bt _ 32 (Nat.le_refl _) j hj, decide_eq_true hj, Bool.true_and, hb.2, Bool.true_and]
      unfold fcSpP
      have h1 : ¬ nI j < pa := by simpa using hb.1.1
      have h2 : ¬ pb < nI j := by simpa using hb.1.2
      rw [Int32.lt_iff_toInt_lt, nI_toInt (by omega)] at h1 h2
      rw [decide_eq_true (show pa.toInt ≤ (j : Int) by omega), decide_eq_true (show (j : Int) ≤ pb.toInt by omega)]
      rfl
  · rw [if_neg q, if_neg q]
theorem fm_SO (hI : fmI fg fk fu fc fb rc mh ma mc mt ro n) {t o : Nat} (ht : t < 40) (ho : o < 8) : ∀ k, k ≤ 32 → mdSO mh ma t o k = fcSO (fcV fg fk t o) k
  | 0, _ => rfl
  | k + 1, hk => by
    show mdSO mh ma t o k + _ = fcSO (fcV fg fk t o) k + _
    rw [fm_SO hI ht ho k (by omega), fm_O hI ht ho (show k < 32 by omega)]
theorem fm_Sm (hI : fmI fg fk fu fc fb rc mh ma mc mt ro n) {h v o : Nat} (hh : h < 8) (hv : v < 32) (ho : o < 8) : ∀ t, t ≤ 40 → mdSm mh ma mc h v o t = fcSm fg fk fc h v o t
  | 0, _ => rfl
  | t + 1, ht => by
    show mdSm mh ma mc h v o t + _ = fcSm fg fk fc h v o t + _
    rw [fm_Sm hI hh hv ho t (by omega), fm_O hI (show t < 40 by omega) hh hv, fm_Kp hI (show t < 40 by omega), fm_SO hI (show t < 40 by omega) ho 32 (Nat.le_refl _)]
theorem fm_sum (hI : fmI fg fk fu fc fb rc mh ma mc mt ro n) (h v o : Int32) : fcSum fg fk fc h v o = mdSum mh ma mc h v o := by
  unfold fcSum mdSum
  by_cases q : (xf_in h 8 && xf_in v 32 && xf_in o 8) = true
  · have q' := q
    rw [Bool.and_eq_true, Bool.and_eq_true] at q'
    obtain ⟨i, hi, rfl⟩ := xf_in_of q'.1.1 (by decide)
    obtain ⟨j, hj, rfl⟩ := xf_in_of q'.1.2 (by decide)
    obtain ⟨k, hk, rfl⟩ := xf_in_of q'.2 (by decide)
    rw [if_pos q, if_pos q, nI_clamp (by omega), nI_clamp (by omega), nI_clamp (by omega), fm_Sm hI hi hj hk 40 (Nat.le_refl _)]
  · rw [if_neg q, if_neg q]
theorem xf_find_congr {P Q : Nat → Bool} : ∀ k i, (∀ j, i ≤ j → j < i + k → P j = Q j) → xf_find P k i = xf_find Q k i
  | 0, _, _ => rfl
  | k + 1, i, h => by
    show (if P i = true then nI i else xf_find P k (i + 1)) = (if Q i = true then nI i else xf_find Q k (i + 1))
    rw [h i (Nat.le_refl _) (by omega), xf_find_congr k (i + 1) (fun j h1 h2 => h j (by omega) (by omega))]
theorem xf_find_none {P : Nat → Bool} : ∀ k i, (∀ j, i ≤ j → j < i + k → P j = false) → xf_find P k i = -1
  | 0, _, _ => rfl
  | k + 1, i, h => by
    show (if P i = true then nI i else xf_find P k (i + 1)) = -1
    rw [h i (Nat.le_refl _) (by omega), if_neg (by decide)]
    exact xf_find_none k (i + 1) (fun j h1 h2 => h j (by omega) (by omega))
theorem fcN_le (h v : Nat) : fcN fg fk fc h v ≤ 40 := xf_cnt_le _ _
theorem fm_top (fn mn : Nat → Int32) (hI : fmI fg fk fu fc fb rc mh ma mc mt ro n) (h pr : Int32) : (fcTop fg fk fu fc fb fn rc h pr).1 = (mdTop mh ma mc mt mn ro h pr).1 := by
  unfold fcTop mdTop
  by_cases q : xf_in h 8 = true
  · obtain ⟨i, hi, rfl⟩ := xf_in_of q (by decide)
    rw [if_pos q, q, Bool.true_and, nI_clamp (show i < 2 ^ 31 by omega)]
    have key : ∀ v, v < 32 → fcTP (fcAll fg fk fc fn) i pr v = mdTP mh ma mc i pr v := fun v hv => by
      unfold fcTP mdTP
      rw [fcAll_at fg fk fc fn i v hi hv, fm_N hI hi hv]
      have hb := fcN_le (fg := fg) (fk := fk) (fc := fc) i v
      congr 1
      · rw [Bool.eq_iff_iff, decide_eq_true_eq, decide_eq_true_eq]
        constructor
        · intro z; exact Nat.pos_of_ne_zero fun e => z (by rw [e]; exact nI_0)
        · intro z; exact nI_ne0 z (by omega)
      · congr 2
        refine congrArg nI (xf_cnt_congr fun o ho => ?_)
        unfold fcRkP mdRk
        have hb2 := fcN_le (fg := fg) (fk := fk) (fc := fc) i o
        rw [fcAll_at fg fk fc fn i v hi hv, fcAll_at fg fk fc fn i o hi ho, fm_N hI hi hv, fm_N hI hi ho]
        congr 1
        · exact decide_eq_decide.mpr (nI_ltI (by omega) (by omega))
        · congr 1
          exact decide_eq_decide.mpr (nI_eq (by omega) (by omega))
    by_cases hr : xf_in pr 32 = true
    · rw [if_pos hr]
      exact xf_find_congr 32 0 (fun j _ hj => key j (by omega))
    · rw [if_neg hr]
      show -1 = xf_find (mdTP mh ma mc i pr) 32 0
      refine (xf_find_none 32 0 (fun j _ hj => ?_)).symm
      unfold mdTP
      have hc : xf_cnt (mdRk mh ma mc i j) 32 < 32 := by
        have h1 := xf_cnt_le (mdRk mh ma mc i j) 32
        rcases Nat.lt_or_ge (xf_cnt (mdRk mh ma mc i j) 32) 32 with z | z
        · exact z
        · have h2 := xf_cnt_full z j (by omega)
          unfold mdRk at h2
          simp at h2
      rw [decide_eq_false (show ¬ nI (xf_cnt (mdRk mh ma mc i j) 32) = pr from fun z => hr (by rw [← z]; exact xf_in_nI hc (by decide))), Bool.and_false]
  · rw [if_neg q, if_neg (by rw [Bool.and_eq_true]; exact fun z => q z.1)]
end FMS
/-! the calls that write -/
section FMW
variable {fg fk fu fc fb : Nat → Int32} {rc : Int32} {mh : Nat → Bool} {ma : Nat → Int32} {mc : Nat → Bool} {mt : Nat → Int32} {ro : Int32} {n : Nat}
def fmS (x : FcS) (y : MdS) (n : Nat) : Prop := fmI x.1 x.2.1 x.2.2.1 x.2.2.2.1 x.2.2.2.2.1 x.2.2.2.2.2.2 y.1 y.2.1 y.2.2.1 y.2.2.2.1 y.2.2.2.2.2.2 n
theorem xf_or_bit (x : Int32) {v : Nat} (hv : v < 32) {j : Nat} (hj : j < 32) : bt (x ||| xf_bit v) j = if j = v then true else bt x j := by
  rw [b_or, xf_bt_bit v hv j hj]
  by_cases e : j = v
  · rw [if_pos e, decide_eq_true e, Bool.or_true]
  · rw [if_neg e, decide_eq_false e, Bool.or_false]
theorem xf_and_bit (x : Int32) {v : Nat} (hv : v < 32) {j : Nat} (hj : j < 32) : bt (x &&& xf_not (xf_bit v)) j = if j = v then false else bt x j := by
  rw [b_and, xf_not_bt _ j hj, xf_bt_bit v hv j hj]
  by_cases e : j = v
  · rw [if_pos e, decide_eq_true e]; simp
  · rw [if_neg e, decide_eq_false e]; simp
/-- rows of one thing under one head change, and what the thing has under head 0 is told anew -/
theorem fm_given (hI : fmI fg fk fu fc fb rc mh ma mc mt ro n) {t h v : Nat} (ht : t < 40) (hh : h < 8) (hv : v < 32) (b : Bool) {s : Int32} (hs : ∀ j, j < 32 → bt s j = if j = v then b else bt (fg (t * 8 + h)) j) {rc' ro' : Int32} (he : rc' = ro') (h1 : -((n + 1 : Nat) : Int) ≤ rc'.toInt) (h2 : rc'.toInt ≤ 300) :
    fmI (upd fg (t * 8 + h) s) (upd fk t (fcRK fu (upd fg (t * 8 + h) s (t * 8)) 32)) fu fc fb rc' (va_up mh ((t * 8 + h) * 32 + v) b) ma mc mt ro' (n + 1) := by
  obtain ⟨i1, i2, i3, i4, i5, i6, i7, -⟩ := hI
  refine ⟨i1, i2, i3, fun a c w ha hc hw => ?_, fun a w ha hw => ?_, i6, i7, he, h1, h2⟩
  · by_cases e : a * 8 + c = t * 8 + h
    · rw [e, pk_us, hs w hw]
      by_cases e2 : w = v
      · subst e2; rw [va_up_self, if_pos rfl]
      · rw [va_up_ne _ _ (by omega), if_neg e2]
        have := i4 t h w ht hh hw
        exact this
    · rw [va_up_ne _ _ (by omega), pk_un e]
      exact i4 a c w ha hc hw
  · by_cases e : a = t
    · subst e
      rw [pk_us]
      have hOk := mdOk_congr i1 i2
      rw [(fcRK_spec hOk _ 32 (Nat.le_refl _)).2 w hw]
      constructor
      · intro ⟨k, k1, k2, k3⟩; exact ⟨k, k1, k2, by rw [← mdU_congr i1 i2 k1]; exact k3⟩
      · intro ⟨k, k1, k2, k3⟩; exact ⟨k, k1, k2, by rw [mdU_congr i1 i2 k1]; exact k3⟩
    · rw [pk_un e, pk_un (by omega)]
      exact i5 a w ha hw
theorem fm_row (fn mn : Nat → Int32) (hI : fmI fg fk fu fc fb rc mh ma mc mt ro n) (hn : n < 2 ^ 30) (t h v : Int32) : (fcRow fg fk fu fc fb fn rc t h v).1 = (mdRow mh ma mc mt mn ro t h v).1 ∧ fmS (fcRow fg fk fu fc fb fn rc t h v).2 (mdRow mh ma mc mt mn ro t h v).2 (n + 1) := by
  have hM := fm_more hI
  have i4 := hI.2.2.2.1
  have i8 := hI.2.2.2.2.2.2.2
  unfold fcRow mdRow
  by_cases q : (xf_in t 40 && xf_in h 8 && xf_in v 32) = true
  · have q' := q
    rw [Bool.and_eq_true, Bool.and_eq_true] at q'
    obtain ⟨i, hi, rfl⟩ := xf_in_of q'.1.1 (by decide)
    obtain ⟨j, hj, rfl⟩ := xf_in_of q'.1.2 (by decide)
    obtain ⟨k, hk, rfl⟩ := xf_in_of q'.2 (by decide)
    rw [if_pos q, if_pos q, nI_clamp (show i < 2 ^ 31 by omega), nI_clamp (show j < 2 ^ 31 by omega), nI_clamp (show k < 2 ^ 31 by omega), i4 i j k hi hj hk]
    by_cases b : bt (fg (i * 8 + j)) k = true
    · rw [if_pos b, if_pos b]
      exact ⟨rfl, hM⟩
    · rw [if_neg b, if_neg b]
      have h300 : (nI 300).toInt = 300 := nI_toInt (by decide)
      by_cases c : rc < nI 300
      · have c' := Int32.lt_iff_toInt_lt.mp c
        rw [h300] at c'
        have hne : ¬ ro = nI 300 := fun e => by rw [← i8.1] at e; rw [e, h300] at c'; omega
        rw [if_pos c, if_neg hne]
        have hadd : (rc + nI 1).toInt = rc.toInt + 1 := by
          have h1 : (nI 1).toInt = 1 := nI_toInt (by decide)
          rw [Int32.toInt_add, h1]
          exact Int.bmod_eq_of_le (by omega) (by omega)
        exact ⟨rfl, fm_given hI hi hj hk true (fun w hw => xf_or_bit _ hk hw) (by rw [i8.1]) (by rw [hadd]; omega) (by rw [hadd]; omega)⟩
      · have c' := Int32.le_iff_toInt_le.mp (Int32.not_lt.mp c)
        rw [h300] at c'
        have he : ro = nI 300 := by
          rw [← i8.1]
          exact Int32.toInt_inj.mp (by rw [h300]; omega)
        rw [if_neg c, if_pos he]
        exact ⟨rfl, hM⟩
  · rw [if_neg q, if_neg q]
    exact ⟨rfl, hM⟩
theorem fm_drop (fn mn : Nat → Int32) (hI : fmI fg fk fu fc fb rc mh ma mc mt ro n) (hn : n < 2 ^ 30) (t h v : Int32) : (fcDrop fg fk fu fc fb fn rc t h v).1 = (mdDrop mh ma mc mt mn ro t h v).1 ∧ fmS (fcDrop fg fk fu fc fb fn rc t h v).2 (mdDrop mh ma mc mt mn ro t h v).2 (n + 1) := by
  have hM := fm_more hI
  have i4 := hI.2.2.2.1
  have i8 := hI.2.2.2.2.2.2.2
  unfold fcDrop mdDrop
  by_cases q : (xf_in t 40 && xf_in h 8 && xf_in v 32) = true
  · have q' := q
    rw [Bool.and_eq_true, Bool.and_eq_true] at q'
    obtain ⟨i, hi, rfl⟩ := xf_in_of q'.1.1 (by decide)
    obtain ⟨j, hj, rfl⟩ := xf_in_of q'.1.2 (by decide)
    obtain ⟨k, hk, rfl⟩ := xf_in_of q'.2 (by decide)
    rw [if_pos q, if_pos q, nI_clamp (show i < 2 ^ 31 by omega), nI_clamp (show j < 2 ^ 31 by omega), nI_clamp (show k < 2 ^ 31 by omega), i4 i j k hi hj hk]
    by_cases b : bt (fg (i * 8 + j)) k = true
    · rw [if_pos b, if_pos b]
      have hsub : (rc - nI 1).toInt = rc.toInt - 1 := by
        have h1 : (nI 1).toInt = 1 := nI_toInt (by decide)
        rw [Int32.toInt_sub, h1]
        exact Int.bmod_eq_of_le (by omega) (by omega)
      exact ⟨rfl, fm_given hI hi hj hk false (fun w hw => xf_and_bit _ hk hw) (by rw [i8.1]) (by rw [hsub]; omega) (by rw [hsub]; omega)⟩
    · rw [if_neg b, if_neg b]
      exact ⟨rfl, hM⟩
  · rw [if_neg q, if_neg q]
    exact ⟨rfl, hM⟩
theorem fm_above (fn mn : Nat → Int32) (hI : fmI fg fk fu fc fb rc mh ma mc mt ro n) (k u : Int32) : (fcAbove fg fk fu fc fb fn rc k u).1 = (mdAbove mh ma mc mt mn ro k u).1 ∧ fmS (fcAbove fg fk fu fc fb fn rc k u).2 (mdAbove mh ma mc mt mn ro k u).2 (n + 1) := by
  have hM := fm_more hI
  obtain ⟨i1, i2, i3, i4, i5, i6, i7, i8, i9, i10⟩ := id hI
  unfold fcAbove mdAbove
  by_cases q : (xf_in k 32 && (decide (u = -1) || xf_in u 32)) = true
  · have q' := q
    rw [Bool.and_eq_true, Bool.or_eq_true, decide_eq_true_eq] at q'
    obtain ⟨j, hj, rfl⟩ := xf_in_of q'.1 (by decide)
    rw [if_pos q, if_pos q, nI_clamp (show j < 2 ^ 31 by omega), i1 j hj]
    by_cases b : ma j = u
    · rw [if_pos b, if_pos b]
      exact ⟨rfl, hM⟩
    · rw [if_neg b, if_neg b]
      have hu : u = -1 ∨ ∃ i, i < 32 ∧ u = nI i := q'.2.imp id (fun z => xf_in_of z (by decide))
      have hnew : (u = -1 ∨ ∃ i, i < 32 ∧ u = nI i ∧ mdU ma i j = false) → fmI fg (fcRA (upd fu j u) fg fk 40) (upd fu j u) fc fb rc mh (upd ma j u) mc mt ro (n + 1) := by
        intro hn
        have e1 : ∀ a, a < 32 → upd fu j u a = upd ma j u a := fun a ha => by
          by_cases e : a = j
          · rw [e, pk_us, pk_us]
          · rw [pk_un e, pk_un e]; exact i1 a ha
        have e2 := mdOk_upd i2 j hu
        refine ⟨e1, e2, mdAc_upd i2 i3 hj hn, i4, fun t v ht hv => ?_, i6, i7, i8, by omega, i10⟩
        rw [fcRA_at, if_pos ht, (fcRK_spec (mdOk_congr e1 e2) _ 32 (Nat.le_refl _)).2 v hv]
        constructor
        · intro ⟨a, k1, k2, k3⟩; exact ⟨a, k1, k2, by rw [← mdU_congr e1 e2 k1]; exact k3⟩
        · intro ⟨a, k1, k2, k3⟩; exact ⟨a, k1, k2, by rw [mdU_congr e1 e2 k1]; exact k3⟩
      rcases hu with rfl | ⟨i, hi, rfl⟩
      · rw [decide_eq_true rfl]
        exact ⟨rfl, hnew (Or.inl rfl)⟩
      · have hne := xf_m1 (show i < 2 ^ 31 by omega)
        rw [decide_eq_false hne, nI_clamp (show i < 2 ^ 31 by omega), fcWU_up (mdOk_congr i1 i2) hi hj, mdU_congr i1 i2 hi]
        cases c : mdU ma i j with
        | true => exact ⟨rfl, hM⟩
        | false => exact ⟨rfl, hnew (Or.inr ⟨i, hi, rfl, c⟩)⟩
  · rw [if_neg q, if_neg q]
    exact ⟨rfl, hM⟩
theorem fm_choose (fn mn : Nat → Int32) (hI : fmI fg fk fu fc fb rc mh ma mc mt ro n) (h v : Int32) (on : Bool) : (fcChoose fg fk fu fc fb fn rc h v (xf_B on)).1 = (mdChoose mh ma mc mt mn ro h v on).1 ∧ fmS (fcChoose fg fk fu fc fb fn rc h v (xf_B on)).2 (mdChoose mh ma mc mt mn ro h v on).2 (n + 1) := by
  have hM := fm_more hI
  obtain ⟨i1, i2, i3, i4, i5, i6, i7, i8⟩ := id hM
  unfold fcChoose mdChoose
  by_cases q : (xf_in h 8 && xf_in v 32) = true
  · have q' := q
    rw [Bool.and_eq_true] at q'
    obtain ⟨i, hi, rfl⟩ := xf_in_of q'.1 (by decide)
    obtain ⟨j, hj, rfl⟩ := xf_in_of q'.2 (by decide)
    rw [if_pos q, if_pos q, nI_clamp (show i < 2 ^ 31 by omega), nI_clamp (show j < 2 ^ 31 by omega)]
    have hN : fmI fg fk fu (fcCh fc i j (xf_B on)) fb rc mh ma (va_up mc (32 * i + j) on) mt ro (n + 1) := by
      refine ⟨i1, i2, i3, i4, i5, fun a w ha hw => ?_, i7, i8⟩
      have key : bt (fcCh fc i j (xf_B on) a) w = if a = i ∧ w = j then on else bt (fc a) w := by
        unfold fcCh
        cases on with
        | true =>
          rw [if_neg (show ¬ xf_B true = 0 by decide)]
          by_cases e : a = i
          · subst e
            rw [pk_us, xf_or_bit _ hj hw]
            by_cases e2 : w = j
            · rw [if_pos e2, if_pos ⟨rfl, e2⟩]
            · rw [if_neg e2, if_neg (fun z => e2 z.2)]
          · rw [pk_un e, if_neg (fun z => e z.1)]
        | false =>
          rw [if_pos (show xf_B false = 0 by decide)]
          by_cases e : a = i
          · subst e
            rw [pk_us, xf_and_bit _ hj hw]
            by_cases e2 : w = j
            · rw [if_pos e2, if_pos ⟨rfl, e2⟩]
            · rw [if_neg e2, if_neg (fun z => e2 z.2)]
          · rw [pk_un e, if_neg (fun z => e z.1)]
      rw [key]
      by_cases e : a = i ∧ w = j
      · obtain ⟨rfl, rfl⟩ := e
        rw [va_up_self, if_pos ⟨rfl, rfl⟩]
      · rw [va_up_ne _ _ (by omega), if_neg e]
        exact i6 a w ha hw
    exact ⟨congrArg nI (fm_all hN).symm, hN⟩
  · rw [if_neg q, if_neg q]
    exact ⟨rfl, hM⟩
theorem fm_topS (fn mn : Nat → Int32) (hI : fmI fg fk fu fc fb rc mh ma mc mt ro n) (h pr : Int32) : fmS (fcTop fg fk fu fc fb fn rc h pr).2 (mdTop mh ma mc mt mn ro h pr).2 (n + 1) := by
  unfold fcTop mdTop
  split <;> split <;> exact fm_more hI
theorem fcCp_at (f g : Nat → Int32) : ∀ k i, i < k → fcCp f g k i = g i
  | 0, i, h => absurd h (Nat.not_lt_zero i)
  | k + 1, i, h => by
    show upd (fcCp f g k) k (g k) i = g i
    by_cases e : i = k
    · subst e; rw [pk_us]
    · rw [pk_un e]; exact fcCp_at f g k i (by omega)
theorem mdTd_at (mh : Nat → Bool) (ma : Nat → Int32) (mc : Nat → Bool) (mt : Nat → Int32) : ∀ k i, i < k → mdTd mh ma mc mt k i = nI (mdN mh ma mc (i / 32) (i % 32))
  | 0, i, h => absurd h (Nat.not_lt_zero i)
  | k + 1, i, h => by
    show upd (mdTd mh ma mc mt k) k (nI (mdN mh ma mc (k / 32) (k % 32))) i = _
    by_cases e : i = k
    · subst e; rw [pk_us]
    · rw [pk_un e]; exact mdTd_at mh ma mc mt k i (by omega)
theorem fm_changed (fn mn : Nat → Int32) (hI : fmI fg fk fu fc fb rc mh ma mc mt ro n) : (fcChanged fg fk fu fc fb fn rc).1 = (mdChanged mh ma mc mt mn ro).1 ∧ fmS (fcChanged fg fk fu fc fb fn rc).2 (mdChanged mh ma mc mt mn ro).2 (n + 1) := by
  obtain ⟨i1, i2, i3, i4, i5, i6, i7, i8⟩ := fm_more hI
  have key : ∀ i, i < 256 → fcAll fg fk fc fn i = nI (mdN mh ma mc (i / 32) (i % 32)) := fun i hi => by
    have h1 := fcAll_at fg fk fc fn (i / 32) (i % 32) (by omega) (by omega)
    rw [show i / 32 * 32 + i % 32 = i by omega] at h1
    rw [h1, fm_N hI (by omega) (by omega)]
  refine ⟨?_, i1, i2, i3, i4, i5, i6, fun i hi => ?_, i8⟩
  · refine congrArg nI (xf_cnt_congr fun i hi => ?_)
    unfold fcDf mdDf
    rw [key i hi, i7 i hi]
  · show mdTd mh ma mc mt 256 i = fcCp fb (fcAll fg fk fc fn) 256 i
    rw [mdTd_at _ _ _ _ 256 i hi, fcCp_at _ _ 256 i hi, key i hi]
theorem fcLT_eq (x b w : Nat) : ∀ d, fcLT x b w d = x / mdG b w d
  | 0 => (Nat.div_one x).symm
  | d + 1 => by
    show (if d + 1 ≤ 1 then x else if b % (d + 1) = 0 ∧ w % (d + 1) = 0 then x / (d + 1) else fcLT x b w d) = x / (if w % (d + 1) = 0 ∧ b % (d + 1) = 0 then d + 1 else mdG b w d)
    by_cases e : d + 1 ≤ 1
    · have : d = 0 := by omega
      subst this
      rw [if_pos e, if_pos ⟨Nat.mod_one w, Nat.mod_one b⟩, Nat.div_one]
    · rw [if_neg e]
      by_cases c : b % (d + 1) = 0 ∧ w % (d + 1) = 0
      · rw [if_pos c, if_pos ⟨c.2, c.1⟩]
      · rw [if_neg c, if_neg (fun z => c ⟨z.2, z.1⟩)]
        exact fcLT_eq x b w d
/-- share: the reference's code is 1 just where the class throws; else the answers are one -/
theorem fm_share (mn : Nat → Int32) (hI : fmI fg fk fu fc fb rc mh ma mc mt ro n) (h v lo : Int32) :
    (fcShare fg fk fc h v lo = none → (mdShare mh ma mc mt mn ro h v lo).2.2.2.2.2.2.1 = nI 1) ∧ (∀ r, fcShare fg fk fc h v lo = some r → (mdShare mh ma mc mt mn ro h v lo).2.2.2.2.2.2.1 = nI 0 ∧ (mdShare mh ma mc mt mn ro h v lo).1 = r) := by
  unfold fcShare mdShare mdShW
  by_cases q : (xf_in h 8 && xf_in v 32) = true
  · have q' := q
    rw [Bool.and_eq_true] at q'
    obtain ⟨i, hi, rfl⟩ := xf_in_of q'.1 (by decide)
    obtain ⟨j, hj, rfl⟩ := xf_in_of q'.2 (by decide)
    rw [if_pos q, if_pos q, nI_clamp (show i < 2 ^ 31 by omega), nI_clamp (show j < 2 ^ 31 by omega), fm_allB hI hi, fm_N hI hi hj, fcWA_bit fg fk fc i j hj]
    by_cases c : xf_cnt (fcKB fg fk fc i) 40 = 0
    · rw [if_pos c, if_pos c]
      exact ⟨fun _ => rfl, fun r z => by cases z⟩
    · rw [if_neg c, if_neg c]
      refine ⟨fun z => (by cases z), fun r z => ⟨rfl, ?_⟩⟩
      rw [← Option.some.inj z, fcLT_eq]
      rfl
  · rw [if_neg q, if_neg q]
    exact ⟨fun _ => rfl, fun r z => by cases z⟩
end FMW
theorem fm_shareS {fg fk fu fc fb : Nat → Int32} {rc : Int32} {mh : Nat → Bool} {ma : Nat → Int32} {mc : Nat → Bool} {mt : Nat → Int32} {ro : Int32} {n : Nat} {fn : Nat → Int32} (mn : Nat → Int32) (hI : fmI fg fk fu fc fb rc mh ma mc mt ro n) (h v lo : Int32) : fmS (fg, fk, fu, fc, fb, fn, rc) (mdShare mh ma mc mt mn ro h v lo).2 (n + 1) := by
  unfold mdShare
  split <;> exact fm_more hI
theorem lg_cmp_self (x : Int64) : lg_cmp x x = 0 := by unfold lg_cmp; simp
/-- the two fresh objects -/
theorem fm_start : fmS ((fun _ => 0, fun _ => 0, xf_fill (-1) (fun _ => 0) 32, fun _ => 0, fun _ => 0, fun _ => 0, nI 0) : FcS) ((fun _ => false, xf_fill (-1) (fun _ => 0) 32, fun _ => false, fun _ => 0, fun _ => 0, 0, 0) : MdS) 0 := by
  have hm : ∀ k, k < 32 → xf_fill (-1) (fun _ => 0) 32 k = -1 := fun k hk => by rw [xf_fill_at, if_pos hk]
  refine ⟨fun _ _ => rfl, fun k hk => Or.inl (hm k hk), fun k hk => ⟨1, (mdIt_s _ hk 0).trans (hm k hk)⟩, fun t h v _ _ _ => ?_, fun t v _ _ => ?_, fun h v _ _ => ?_, fun _ _ => rfl, by decide, by decide, by decide⟩
  · show false = bt 0 v
    rw [b_0]
  · show bt 0 v = true ↔ _
    rw [b_0]
    constructor
    · intro z; cases z
    · rintro ⟨k, -, z, -⟩
      have z : bt 0 k = true := z
      rw [b_0] at z; cases z
  · show false = bt 0 v
    rw [b_0]
