/-! what the class's methods answer: pure words, near to the code -/
abbrev FcS : Type := (Nat → Int32) × (Nat → Int32) × (Nat → Int32) × (Nat → Int32) × (Nat → Int32) × (Nat → Int32) × Int32
def fcV (fg fk : Nat → Int32) (t h : Nat) : Int32 := if h = 0 then fk t else fg (t * 8 + h)
def fcLP (fc V : Nat → Int32) : Nat → Bool := fun h => decide (¬ fc h = 0) && decide (fc h &&& V h = 0)
def fcLk (fg fk fc : Nat → Int32) (t : Nat) : Int32 := xf_mk (fcLP fc (fcV fg fk t)) 8
def fcKp (fg fk fc : Nat → Int32) : Nat → Bool := fun t => decide (fcLk fg fk fc t = 0)
def fcKB (fg fk fc : Nat → Int32) (h : Nat) : Nat → Bool := fun t => decide (fcLk fg fk fc t &&& xf_not (xf_bit h) = 0)
def fcWA (fg fk fc : Nat → Int32) (h : Nat) (set : Int32) : Nat → Bool := fun t => decide (¬ fcV fg fk t h &&& set = 0) && fcKB fg fk fc h t
def fcWU (fu : Nat → Int32) : Nat → Int32 → Int32 → Int32
  | 0, _, all => all
  | n + 1, ka, all => if xf_in ka 32 = true then (if bt all ka.toNatClampNeg = true then all else fcWU fu n (fu ka.toNatClampNeg) (all ||| xf_bit ka.toNatClampNeg)) else all
def fcRK (fu : Nat → Int32) (own : Int32) : Nat → Int32
  | 0 => nI 0
  | k + 1 => if bt own k = true then fcWU fu 32 (nI k) (fcRK fu own k) else fcRK fu own k
def fcRA (fu fg fk : Nat → Int32) : Nat → (Nat → Int32)
  | 0 => fk
  | t + 1 => upd (fcRA fu fg fk t) t (fcRK fu (fg (t * 8)) 32)
def fcCV (h : Nat) (set : Int32) (fn : Nat → Int32) : Nat → (Nat → Int32)
  | 0 => fn
  | v + 1 => if bt set v = true then upd (fcCV h set fn v) (h * 32 + v) (fcCV h set fn v (h * 32 + v) + nI 1) else fcCV h set fn v
def fcCW (h : Nat) (set : Int32) (fn : Nat → Int32) : Nat → Int32 := if set = 0 then fn else fcCV h set fn 32
def fcCH (lk : Int32) (V : Nat → Int32) (fn : Nat → Int32) : Nat → (Nat → Int32)
  | 0 => fn
  | h + 1 => if lk &&& xf_not (xf_bit h) = 0 then fcCW h (V h) (fcCH lk V fn h) else fcCH lk V fn h
def fcCA (fg fk fc fn : Nat → Int32) : Nat → (Nat → Int32)
  | 0 => fn
  | t + 1 => fcCH (fcLk fg fk fc t) (fcV fg fk t) (fcCA fg fk fc fn t) 8
def xf_fill (x : Int32) (f : Nat → Int32) : Nat → (Nat → Int32)
  | 0 => f
  | k + 1 => upd (xf_fill x f k) k x
def fcAll (fg fk fc fn : Nat → Int32) : Nat → Int32 := fcCA fg fk fc (xf_fill (nI 0) fn 256) 40
def fcRkP (fn : Nat → Int32) (h v : Nat) : Nat → Bool := fun q => decide (fn (h * 32 + v) < fn (h * 32 + q)) || (decide (fn (h * 32 + q) = fn (h * 32 + v)) && decide (q < v))
def fcTP (fn : Nat → Int32) (h : Nat) (rank : Int32) : Nat → Bool := fun v => decide (¬ fn (h * 32 + v) = 0) && decide (nI (xf_cnt (fcRkP fn h v) 32) = rank)
def fcCp (fb fn : Nat → Int32) : Nat → (Nat → Int32)
  | 0 => fb
  | k + 1 => upd (fcCp fb fn k) k (fn k)
def fcDf (fb fn : Nat → Int32) : Nat → Bool := fun i => decide (¬ fn i = fb i)
def fcSO (set : Int32) : Nat → Nat
  | 0 => 0
  | v + 1 => fcSO set v + (if bt set v = true then v else 0)
def fcSm (fg fk fc : Nat → Int32) (h v o : Nat) : Nat → Nat
  | 0 => 0
  | t + 1 => fcSm fg fk fc h v o t + (if (bt (fcV fg fk t h) v && fcKp fg fk fc t) = true then fcSO (fcV fg fk t o) 32 else 0)
def fcLT (x b w : Nat) : Nat → Nat
  | 0 => x
  | d + 1 => if d + 1 ≤ 1 then x else if b % (d + 1) = 0 ∧ w % (d + 1) = 0 then x / (d + 1) else fcLT x b w d
def fcSpP (a b : Int32) : Nat → Bool := fun j => decide (a.toInt ≤ (j : Int)) && decide ((j : Int) ≤ b.toInt)
/-- the calls of the face: the answer, and the state behind it -/
def fcRow (fg fk fu fc fb fn : Nat → Int32) (rc t h v : Int32) : Int32 × FcS :=
  if (xf_in t 40 && xf_in h 8 && xf_in v 32) = true then
    (if bt (fg (t.toNatClampNeg * 8 + h.toNatClampNeg)) v.toNatClampNeg = true then (nI 0, fg, fk, fu, fc, fb, fn, rc)
     else if rc < nI 300 then
      (nI 1, upd fg (t.toNatClampNeg * 8 + h.toNatClampNeg) (fg (t.toNatClampNeg * 8 + h.toNatClampNeg) ||| xf_bit v.toNatClampNeg),
        upd fk t.toNatClampNeg (fcRK fu (upd fg (t.toNatClampNeg * 8 + h.toNatClampNeg) (fg (t.toNatClampNeg * 8 + h.toNatClampNeg) ||| xf_bit v.toNatClampNeg) (t.toNatClampNeg * 8)) 32), fu, fc, fb, fn, rc + nI 1)
     else (-2, fg, fk, fu, fc, fb, fn, rc))
  else (-1, fg, fk, fu, fc, fb, fn, rc)
def fcDrop (fg fk fu fc fb fn : Nat → Int32) (rc t h v : Int32) : Int32 × FcS :=
  if (xf_in t 40 && xf_in h 8 && xf_in v 32) = true then
    (if bt (fg (t.toNatClampNeg * 8 + h.toNatClampNeg)) v.toNatClampNeg = true then
      (nI 1, upd fg (t.toNatClampNeg * 8 + h.toNatClampNeg) (fg (t.toNatClampNeg * 8 + h.toNatClampNeg) &&& xf_not (xf_bit v.toNatClampNeg)),
        upd fk t.toNatClampNeg (fcRK fu (upd fg (t.toNatClampNeg * 8 + h.toNatClampNeg) (fg (t.toNatClampNeg * 8 + h.toNatClampNeg) &&& xf_not (xf_bit v.toNatClampNeg)) (t.toNatClampNeg * 8)) 32), fu, fc, fb, fn, rc - nI 1)
     else (nI 0, fg, fk, fu, fc, fb, fn, rc))
  else (-1, fg, fk, fu, fc, fb, fn, rc)
def fcAbove (fg fk fu fc fb fn : Nat → Int32) (rc k u : Int32) : Int32 × FcS :=
  if (xf_in k 32 && (decide (u = -1) || xf_in u 32)) = true then
    (if fu k.toNatClampNeg = u then (nI 0, fg, fk, fu, fc, fb, fn, rc)
     else if (!decide (u = -1) && bt (fcWU fu 32 u (nI 0)) k.toNatClampNeg) = true then (-3, fg, fk, fu, fc, fb, fn, rc)
     else (nI 1, fg, fcRA (upd fu k.toNatClampNeg u) fg fk 40, upd fu k.toNatClampNeg u, fc, fb, fn, rc))
  else (-1, fg, fk, fu, fc, fb, fn, rc)
def fcCh (fc : Nat → Int32) (h v : Nat) (on : Int32) : Nat → Int32 := if on = 0 then upd fc h (fc h &&& xf_not (xf_bit v)) else upd fc h (fc h ||| xf_bit v)
def fcChoose (fg fk fu fc fb fn : Nat → Int32) (rc h v on : Int32) : Int32 × FcS :=
  if (xf_in h 8 && xf_in v 32) = true then (nI (xf_cnt (fcKp fg fk (fcCh fc h.toNatClampNeg v.toNatClampNeg on)) 40), fg, fk, fu, fcCh fc h.toNatClampNeg v.toNatClampNeg on, fb, fn, rc)
  else (-1, fg, fk, fu, fc, fb, fn, rc)
def fcIsKept (fg fk fc : Nat → Int32) (t : Int32) : Int32 := if xf_in t 40 = true then xf_B (fcKp fg fk fc t.toNatClampNeg) else -1
def fcFacet (fg fk fc : Nat → Int32) (h v : Int32) : Int32 := if (xf_in h 8 && xf_in v 32) = true then nI (xf_cnt (fcWA fg fk fc h.toNatClampNeg (xf_bit v.toNatClampNeg)) 40) else -1
def fcTop (fg fk fu fc fb fn : Nat → Int32) (rc h rank : Int32) : Int32 × FcS :=
  if (xf_in h 8 && xf_in rank 32) = true then (xf_find (fcTP (fcAll fg fk fc fn) h.toNatClampNeg rank) 32 0, fg, fk, fu, fc, fb, fcAll fg fk fc fn, rc)
  else (-1, fg, fk, fu, fc, fb, fn, rc)
def fcRange (fg fk fc : Nat → Int32) (h a b : Int32) : Int32 := if xf_in h 8 = true then nI (xf_cnt (fcWA fg fk fc h.toNatClampNeg (xf_mk (fcSpP a b) 32)) 40) else -1
def fcSum (fg fk fc : Nat → Int32) (h v o : Int32) : Int32 := if (xf_in h 8 && xf_in v 32 && xf_in o 8) = true then nI (fcSm fg fk fc h.toNatClampNeg v.toNatClampNeg o.toNatClampNeg 40) else -1
def fcChanged (fg fk fu fc fb fn : Nat → Int32) (rc : Int32) : Int32 × FcS :=
  (nI (xf_cnt (fcDf fb (fcAll fg fk fc fn)) 256), fg, fk, fu, fc, fcCp fb (fcAll fg fk fc fn) 256, fcAll fg fk fc fn, rc)
/-- share: none where it throws -/
def fcShare (fg fk fc : Nat → Int32) (h v lo : Int32) : Option Int32 :=
  if (xf_in h 8 && xf_in v 32) = true then
    (if xf_cnt (fcKB fg fk fc h.toNatClampNeg) 40 = 0 then none
     else some (nI (fcLT (if lo = 0 then xf_cnt (fcWA fg fk fc h.toNatClampNeg (xf_bit v.toNatClampNeg)) 40 else xf_cnt (fcKB fg fk fc h.toNatClampNeg) 40) (xf_cnt (fcWA fg fk fc h.toNatClampNeg (xf_bit v.toNatClampNeg)) 40) (xf_cnt (fcKB fg fk fc h.toNatClampNeg) 40) (xf_cnt (fcKB fg fk fc h.toNatClampNeg) 40))))
  else none
/-! rows on these -/
theorem xf_bt_bit : ∀ j, j < 32 → ∀ i, i < 32 → bt (xf_bit j) i = decide (i = j) := by decide +kernel
theorem xf_holds {x : Int32} {j : Nat} (hj : j < 32) : x &&& xf_bit j = 0 ↔ bt x j = false := by
  constructor
  · intro h
    have h1 := b_and x (xf_bit j) j
    rw [h, b_0, xf_bt_bit j hj j hj] at h1
    simpa using h1.symm
  · intro h
    refine b_ext (fun i hi => ?_)
    rw [b_and, xf_bt_bit j hj i hi, b_0]
    by_cases e : i = j
    · subst e; simp [h]
    · simp [e]
theorem fcCp_ge (fb fn : Nat → Int32) : ∀ (i j : Nat), i ≤ j → fcCp fb fn i j = fb j
  | 0, _, _ => rfl
  | i + 1, j, h => by
    show upd (fcCp fb fn i) i (fn i) j = fb j
    rw [pk_un (by omega)]
    exact fcCp_ge fb fn i j (by omega)
theorem xf_cnt_le (P : Nat → Bool) : ∀ n, xf_cnt P n ≤ n
  | 0 => Nat.le_refl 0
  | n + 1 => by
    have h := xf_cnt_le P n
    unfold xf_cnt
    split <;> omega
theorem xf_mk_0 {P : Nat → Bool} : ∀ {n : Nat}, (∀ j, j < n → P j = false) → xf_mk P n = nI 0
  | 0, _ => rfl
  | n + 1, h => by
    unfold xf_mk
    rw [h n (Nat.lt_succ_self n)]
    exact xf_mk_0 fun j hj => h j (Nat.lt_succ_of_lt hj)
theorem xf_mk_stay {P : Nat → Bool} {a : Nat} : ∀ {n : Nat}, a ≤ n → (∀ j, a ≤ j → j < n → P j = false) → xf_mk P n = xf_mk P a
  | 0, h, _ => by rw [Nat.le_zero.mp h]
  | n + 1, h, hP => by
    by_cases e : a = n + 1
    · rw [e]
    · have h1 := hP n (by omega) (Nat.lt_succ_self n)
      show (if P n = true then _ else xf_mk P n) = _
      rw [h1]
      exact xf_mk_stay (by omega) (fun j hj hn => hP j hj (Nat.lt_succ_of_lt hn))
theorem xf_max0 (x : Int32) : ∃ a : Nat, a < 2 ^ 31 ∧ (if x < nI 0 then nI 0 else x) = nI a ∧ (x.toInt < 0 ∧ (a : Int) = 0 ∨ 0 ≤ x.toInt ∧ (a : Int) = x.toInt) := by
  by_cases h : x < nI 0
  · refine ⟨0, by decide, by rw [if_pos h], Or.inl ⟨?_, rfl⟩⟩
    have z := Int32.lt_iff_toInt_lt.mp h
    rwa [nI_toInt (by decide)] at z
  · obtain ⟨j, hj, e⟩ := nI_of (x := x) (by rw [← nI_0]; exact h)
    refine ⟨j, hj, by rw [if_neg h, e], Or.inr ?_⟩
    rw [e, nI_toInt hj]
    omega
theorem xf_min31 (x : Int32) : ((if nI 31 < x then nI 31 else x).toInt = 31 ∧ 31 < x.toInt) ∨ ((if nI 31 < x then nI 31 else x).toInt = x.toInt ∧ x.toInt ≤ 31) := by
  by_cases h : nI 31 < x
  · have z := Int32.lt_iff_toInt_lt.mp h
    rw [nI_toInt (by decide)] at z
    rw [if_pos h, nI_toInt (by decide)]
    exact Or.inl ⟨rfl, z⟩
  · have z := Int32.le_iff_toInt_le.mp (Int32.not_lt.mp h)
    rw [nI_toInt (by decide)] at z
    rw [if_neg h]
    exact Or.inr ⟨rfl, z⟩
/-! what the reference's methods answer -/
abbrev MdS : Type := (Nat → Bool) × (Nat → Int32) × (Nat → Bool) × (Nat → Int32) × (Nat → Int32) × Int32 × Int32
def mdIt (ma : Nat → Int32) : Nat → Int32 → Int32
  | 0, a => a
  | n + 1, a => if a = -1 then -1 else mdIt ma n (ma a.toNatClampNeg)
def mdOk (ma : Nat → Int32) : Prop := ∀ k, k < 32 → ma k = -1 ∨ ∃ j, j < 32 ∧ ma k = nI j
def mdAc (ma : Nat → Int32) : Prop := ∀ k, k < 32 → ∃ n, mdIt ma n (nI k) = -1
noncomputable def mdU (ma : Nat → Int32) (k u : Nat) : Bool := @decide (∃ n, mdIt ma n (nI k) = nI u) (Classical.propDecidable _)
noncomputable def mdOP (mh : Nat → Bool) (ma : Nat → Int32) (t v : Nat) : Nat → Bool := fun k => mh (t * 8 * 32 + k) && mdU ma k v
noncomputable def mdO (mh : Nat → Bool) (ma : Nat → Int32) (t h v : Nat) : Bool := if 0 < h then mh ((t * 8 + h) * 32 + v) else xf_any (mdOP mh ma t v) 32
def mdCh (mc : Nat → Bool) (h : Nat) : Nat → Bool := fun v => mc (32 * h + v)
noncomputable def mdMP (mh : Nat → Bool) (ma : Nat → Int32) (mc : Nat → Bool) (t h : Nat) : Nat → Bool := fun v => mc (32 * h + v) && mdO mh ma t h v
noncomputable def mdM (mh : Nat → Bool) (ma : Nat → Int32) (mc : Nat → Bool) (t h : Nat) : Bool := xf_any (mdMP mh ma mc t h) 32 || !xf_any (mdCh mc h) 32
noncomputable def mdKP (mh : Nat → Bool) (ma : Nat → Int32) (mc : Nat → Bool) (t : Nat) (hd : Int32) : Nat → Bool := fun h => decide (nI h = hd) || mdM mh ma mc t h
noncomputable def mdK (mh : Nat → Bool) (ma : Nat → Int32) (mc : Nat → Bool) (t : Nat) (hd : Int32) : Bool := xf_all (mdKP mh ma mc t hd) 8
noncomputable def mdNP (mh : Nat → Bool) (ma : Nat → Int32) (mc : Nat → Bool) (h v : Nat) : Nat → Bool := fun t => mdO mh ma t h v && mdK mh ma mc t (nI h)
noncomputable def mdN (mh : Nat → Bool) (ma : Nat → Int32) (mc : Nat → Bool) (h v : Nat) : Nat := xf_cnt (mdNP mh ma mc h v) 40
noncomputable def mdAP (mh : Nat → Bool) (ma : Nat → Int32) (mc : Nat → Bool) (hd : Int32) : Nat → Bool := fun t => mdK mh ma mc t hd
noncomputable def mdCt (mh : Nat → Bool) (ma : Nat → Int32) (mc : Nat → Bool) (h : Nat) (mn : Nat → Int32) : Nat → (Nat → Int32)
  | 0 => mn
  | k + 1 => upd (mdCt mh ma mc h mn k) k (nI (mdN mh ma mc h k))
noncomputable def mdRk (mh : Nat → Bool) (ma : Nat → Int32) (mc : Nat → Bool) (h v : Nat) : Nat → Bool := fun o => decide (mdN mh ma mc h v < mdN mh ma mc h o) || (decide (mdN mh ma mc h o = mdN mh ma mc h v) && decide (o < v))
noncomputable def mdTP (mh : Nat → Bool) (ma : Nat → Int32) (mc : Nat → Bool) (h : Nat) (pr : Int32) : Nat → Bool := fun v => decide (0 < mdN mh ma mc h v) && decide (nI (xf_cnt (mdRk mh ma mc h v) 32) = pr)
noncomputable def mdRq (mh : Nat → Bool) (ma : Nat → Int32) (t h : Nat) (pa pb : Int32) : Nat → Bool := fun v => !decide (nI v < pa) && !decide (pb < nI v) && mdO mh ma t h v
noncomputable def mdRg (mh : Nat → Bool) (ma : Nat → Int32) (mc : Nat → Bool) (h : Nat) (pa pb : Int32) : Nat → Bool := fun t => xf_any (mdRq mh ma t h pa pb) 32 && mdK mh ma mc t (nI h)
noncomputable def mdSO (mh : Nat → Bool) (ma : Nat → Int32) (t o : Nat) : Nat → Nat
  | 0 => 0
  | v + 1 => mdSO mh ma t o v + (if mdO mh ma t o v = true then v else 0)
noncomputable def mdSm (mh : Nat → Bool) (ma : Nat → Int32) (mc : Nat → Bool) (h v o : Nat) : Nat → Nat
  | 0 => 0
  | t + 1 => mdSm mh ma mc h v o t + (if (mdO mh ma t h v && mdK mh ma mc t (-1)) = true then mdSO mh ma t o 32 else 0)
def mdG (n w : Nat) : Nat → Nat
  | 0 => 1
  | i + 1 => if w % (i + 1) = 0 ∧ n % (i + 1) = 0 then i + 1 else mdG n w i
noncomputable def mdDf (mh : Nat → Bool) (ma : Nat → Int32) (mc : Nat → Bool) (mt : Nat → Int32) : Nat → Bool := fun i => decide (¬ nI (mdN mh ma mc (i / 32) (i % 32)) = mt i)
noncomputable def mdTd (mh : Nat → Bool) (ma : Nat → Int32) (mc : Nat → Bool) (mt : Nat → Int32) : Nat → (Nat → Int32)
  | 0 => mt
  | i + 1 => upd (mdTd mh ma mc mt i) i (nI (mdN mh ma mc (i / 32) (i % 32)))
/-- the calls: the answer, and the state behind it -/
def mdRow (mh : Nat → Bool) (ma : Nat → Int32) (mc : Nat → Bool) (mt mn : Nat → Int32) (ro t h v : Int32) : Int32 × MdS :=
  if (xf_in t 40 && xf_in h 8 && xf_in v 32) = true then
    (if mh ((t.toNatClampNeg * 8 + h.toNatClampNeg) * 32 + v.toNatClampNeg) = true then (nI 0, mh, ma, mc, mt, mn, nI 0, ro)
     else if ro = nI 300 then (-2, mh, ma, mc, mt, mn, nI 0, ro)
     else (nI 1, va_up mh ((t.toNatClampNeg * 8 + h.toNatClampNeg) * 32 + v.toNatClampNeg) true, ma, mc, mt, mn, nI 0, ro + nI 1))
  else (-1, mh, ma, mc, mt, mn, nI 0, ro)
def mdDrop (mh : Nat → Bool) (ma : Nat → Int32) (mc : Nat → Bool) (mt mn : Nat → Int32) (ro t h v : Int32) : Int32 × MdS :=
  if (xf_in t 40 && xf_in h 8 && xf_in v 32) = true then
    (if mh ((t.toNatClampNeg * 8 + h.toNatClampNeg) * 32 + v.toNatClampNeg) = true then (nI 1, va_up mh ((t.toNatClampNeg * 8 + h.toNatClampNeg) * 32 + v.toNatClampNeg) false, ma, mc, mt, mn, nI 0, ro - nI 1)
     else (nI 0, mh, ma, mc, mt, mn, nI 0, ro))
  else (-1, mh, ma, mc, mt, mn, nI 0, ro)
noncomputable def mdAbove (mh : Nat → Bool) (ma : Nat → Int32) (mc : Nat → Bool) (mt mn : Nat → Int32) (ro k u : Int32) : Int32 × MdS :=
  if (xf_in k 32 && (decide (u = -1) || xf_in u 32)) = true then
    (if ma k.toNatClampNeg = u then (nI 0, mh, ma, mc, mt, mn, nI 0, ro)
     else if (!decide (u = -1) && mdU ma u.toNatClampNeg k.toNatClampNeg) = true then (-3, mh, ma, mc, mt, mn, nI 0, ro)
     else (nI 1, mh, upd ma k.toNatClampNeg u, mc, mt, mn, nI 0, ro))
  else (-1, mh, ma, mc, mt, mn, nI 0, ro)
noncomputable def mdChoose (mh : Nat → Bool) (ma : Nat → Int32) (mc : Nat → Bool) (mt mn : Nat → Int32) (ro h v : Int32) (on : Bool) : Int32 × MdS :=
  if (xf_in h 8 && xf_in v 32) = true then (nI (xf_cnt (mdAP mh ma (va_up mc (32 * h.toNatClampNeg + v.toNatClampNeg) on) (-1)) 40), mh, ma, va_up mc (32 * h.toNatClampNeg + v.toNatClampNeg) on, mt, mn, nI 0, ro)
  else (-1, mh, ma, mc, mt, mn, nI 0, ro)
noncomputable def mdIsKept (mh : Nat → Bool) (ma : Nat → Int32) (mc : Nat → Bool) (t : Int32) : Int32 := if xf_in t 40 = true then xf_B (mdK mh ma mc t.toNatClampNeg (-1)) else -1
noncomputable def mdFacet (mh : Nat → Bool) (ma : Nat → Int32) (mc : Nat → Bool) (h v : Int32) : Int32 := if (xf_in h 8 && xf_in v 32) = true then nI (mdN mh ma mc h.toNatClampNeg v.toNatClampNeg) else -1
noncomputable def mdTop (mh : Nat → Bool) (ma : Nat → Int32) (mc : Nat → Bool) (mt mn : Nat → Int32) (ro h pr : Int32) : Int32 × MdS :=
  if xf_in h 8 = true then (xf_find (mdTP mh ma mc h.toNatClampNeg pr) 32 0, mh, ma, mc, mt, mdCt mh ma mc h.toNatClampNeg mn 32, nI 0, ro)
  else (-1, mh, ma, mc, mt, mn, nI 0, ro)
noncomputable def mdRange (mh : Nat → Bool) (ma : Nat → Int32) (mc : Nat → Bool) (h pa pb : Int32) : Int32 := if xf_in h 8 = true then nI (xf_cnt (mdRg mh ma mc h.toNatClampNeg pa pb) 40) else -1
noncomputable def mdSum (mh : Nat → Bool) (ma : Nat → Int32) (mc : Nat → Bool) (h v o : Int32) : Int32 := if (xf_in h 8 && xf_in v 32 && xf_in o 8) = true then nI (mdSm mh ma mc h.toNatClampNeg v.toNatClampNeg o.toNatClampNeg 40) else -1
noncomputable def mdShW (mh : Nat → Bool) (ma : Nat → Int32) (mc : Nat → Bool) (h v : Int32) : Nat := if (xf_in h 8 && xf_in v 32) = true then xf_cnt (mdAP mh ma mc h) 40 else 0
noncomputable def mdShare (mh : Nat → Bool) (ma : Nat → Int32) (mc : Nat → Bool) (mt mn : Nat → Int32) (ro h v lo : Int32) : Int32 × MdS :=
  if mdShW mh ma mc h v = 0 then (nI 0, mh, ma, mc, mt, mn, nI 1, ro)
  else (nI ((if lo = 0 then mdN mh ma mc h.toNatClampNeg v.toNatClampNeg else mdShW mh ma mc h v) / mdG (mdN mh ma mc h.toNatClampNeg v.toNatClampNeg) (mdShW mh ma mc h v) (mdShW mh ma mc h v)), mh, ma, mc, mt, mn, nI 0, ro)
noncomputable def mdChanged (mh : Nat → Bool) (ma : Nat → Int32) (mc : Nat → Bool) (mt mn : Nat → Int32) (ro : Int32) : Int32 × MdS :=
  (nI (xf_cnt (mdDf mh ma mc mt) 256), mh, ma, mc, mdTd mh ma mc mt 256, mn, nI 0, ro)
/-! rows on these -/
theorem mdU_iff {ma : Nat → Int32} {k u : Nat} : mdU ma k u = true ↔ ∃ n, mdIt ma n (nI k) = nI u := by unfold mdU; exact @decide_eq_true_iff _ (Classical.propDecidable _)
theorem mdU_f {ma : Nat → Int32} {k u : Nat} (h : ¬ ∃ n, mdIt ma n (nI k) = nI u) : mdU ma k u = false := by
  cases hb : mdU ma k u with
  | true => exact absurd (mdU_iff.mp hb) h
  | false => rfl
theorem xf_m1 {j : Nat} (h : j < 2 ^ 31) : ¬ nI j = -1 := fun e => by
  have h1 := congrArg Int32.toInt e
  rw [nI_toInt h] at h1
  have h2 : (-1 : Int32).toInt = -1 := by decide
  omega
theorem mdIt_m1 (ma : Nat → Int32) : ∀ n, mdIt ma n (-1) = -1
  | 0 => rfl
  | n + 1 => by unfold mdIt; rw [if_pos rfl]
theorem mdIt_s (ma : Nat → Int32) {j : Nat} (hj : j < 32) (n : Nat) : mdIt ma (n + 1) (nI j) = mdIt ma n (ma j) := by
  show (if nI j = -1 then -1 else mdIt ma n (ma (nI j).toNatClampNeg)) = _
  rw [if_neg (xf_m1 (by omega)), nI_clamp (by omega)]
theorem mdIt_e (ma : Nat → Int32) {j u : Nat} (hj : j < 32) (hu : ¬ nI j = nI u) : (∃ q, mdIt ma q (nI j) = nI u) ↔ ∃ q, mdIt ma q (ma j) = nI u := by
  constructor
  · intro ⟨q, hq⟩
    match q, hq with
    | 0, hq => exact absurd hq hu
    | q + 1, hq => exact ⟨q, by rw [← mdIt_s ma hj]; exact hq⟩
  · intro ⟨q, hq⟩
    exact ⟨q + 1, by rw [mdIt_s ma hj]; exact hq⟩
theorem mdN_le (mh : Nat → Bool) (ma : Nat → Int32) (mc : Nat → Bool) (h v : Nat) : mdN mh ma mc h v ≤ 40 := xf_cnt_le _ _
theorem mdCt_at (mh : Nat → Bool) (ma : Nat → Int32) (mc : Nat → Bool) (h : Nat) (mn : Nat → Int32) : ∀ n v, v < n → mdCt mh ma mc h mn n v = nI (mdN mh ma mc h v)
  | 0, v, hv => absurd hv (Nat.not_lt_zero v)
  | n + 1, v, hv => by
    show upd (mdCt mh ma mc h mn n) n (nI (mdN mh ma mc h n)) v = _
    by_cases e : v = n
    · subst e; rw [pk_us]
    · rw [pk_un e]; exact mdCt_at mh ma mc h mn n v (by omega)
theorem mdTd_ge (mh : Nat → Bool) (ma : Nat → Int32) (mc : Nat → Bool) (mt : Nat → Int32) : ∀ i j, i ≤ j → mdTd mh ma mc mt i j = mt j
  | 0, _, _ => rfl
  | i + 1, j, h => by
    show upd (mdTd mh ma mc mt i) i _ j = mt j
    rw [pk_un (by omega)]
    exact mdTd_ge mh ma mc mt i j (by omega)
theorem mdG_in (n w : Nat) : ∀ i, 1 ≤ mdG n w i ∧ (mdG n w i ≤ i ∨ mdG n w i = 1)
  | 0 => ⟨Nat.le_refl 1, Or.inr rfl⟩
  | i + 1 => by
    unfold mdG
    split
    · exact ⟨by omega, Or.inl (by omega)⟩
    · have h := mdG_in n w i
      exact ⟨h.1, by omega⟩
/-! the counts that countAll leaves -/
theorem xf_fill_at (x : Int32) (f : Nat → Int32) : ∀ n i, xf_fill x f n i = if i < n then x else f i
  | 0, i => by rw [if_neg (by omega)]; rfl
  | n + 1, i => by
    show upd (xf_fill x f n) n x i = _
    by_cases h : i = n
    · subst h; rw [pk_us, if_pos (by omega)]
    · rw [pk_un h, xf_fill_at x f n i]
      by_cases h2 : i < n
      · rw [if_pos h2, if_pos (by omega)]
      · rw [if_neg h2, if_neg (by omega)]
theorem fcCV_at (h : Nat) (set : Int32) (fn : Nat → Int32) (a v : Nat) (hv : v < 32) : ∀ n, n ≤ 32 → fcCV h set fn n (a * 32 + v) = if a = h ∧ v < n ∧ bt set v = true then fn (a * 32 + v) + nI 1 else fn (a * 32 + v)
  | 0, _ => by rw [if_neg (by omega)]; rfl
  | n + 1, hn => by
    have ih := fcCV_at h set fn a v hv n (by omega)
    show (if bt set n = true then upd (fcCV h set fn n) (h * 32 + n) (fcCV h set fn n (h * 32 + n) + nI 1) else fcCV h set fn n) (a * 32 + v) = _
    by_cases hb : bt set n = true
    · rw [if_pos hb]
      by_cases e : a = h ∧ v = n
      · obtain ⟨e1, e2⟩ := e
        subst e1; subst e2
        rw [pk_us, ih, if_neg (by omega), if_pos ⟨rfl, by omega, hb⟩]
      · rw [pk_un (by omega), ih]
        by_cases c : a = h ∧ v < n ∧ bt set v = true
        · rw [if_pos c, if_pos ⟨c.1, by omega, c.2.2⟩]
        · rw [if_neg c, if_neg (fun z => c ⟨z.1, by omega, z.2.2⟩)]
    · rw [if_neg hb, ih]
      by_cases c : a = h ∧ v < n ∧ bt set v = true
      · rw [if_pos c, if_pos ⟨c.1, by omega, c.2.2⟩]
      · rw [if_neg c, if_neg (fun z => c ⟨z.1, (by
          rcases Nat.lt_or_ge v n with q | q
          · exact q
          · exact absurd (by rw [← show v = n by omega]; exact z.2.2) hb), z.2.2⟩)]
theorem fcCW_at (h : Nat) (set : Int32) (fn : Nat → Int32) (a v : Nat) (hv : v < 32) : fcCW h set fn (a * 32 + v) = if a = h ∧ bt set v = true then fn (a * 32 + v) + nI 1 else fn (a * 32 + v) := by
  unfold fcCW
  by_cases e : set = 0
  · rw [if_pos e, if_neg (fun z => by rw [e, b_0] at z; exact absurd z.2 (by decide))]
  · rw [if_neg e, fcCV_at h set fn a v hv 32 (Nat.le_refl _)]
    by_cases c : a = h ∧ bt set v = true
    · rw [if_pos c, if_pos ⟨c.1, hv, c.2⟩]
    · rw [if_neg c, if_neg (fun z => c ⟨z.1, z.2.2⟩)]
theorem fcCH_at (lk : Int32) (V fn : Nat → Int32) (a v : Nat) (hv : v < 32) : ∀ n, fcCH lk V fn n (a * 32 + v) = if a < n ∧ lk &&& xf_not (xf_bit a) = 0 ∧ bt (V a) v = true then fn (a * 32 + v) + nI 1 else fn (a * 32 + v)
  | 0 => by rw [if_neg (by omega)]; rfl
  | n + 1 => by
    have ih := fcCH_at lk V fn a v hv n
    show (if lk &&& xf_not (xf_bit n) = 0 then fcCW n (V n) (fcCH lk V fn n) else fcCH lk V fn n) (a * 32 + v) = _
    by_cases hk : lk &&& xf_not (xf_bit n) = 0
    · rw [if_pos hk, fcCW_at n (V n) _ a v hv, ih]
      by_cases e : a = n
      · subst e
        rw [if_neg (show ¬ (a < a ∧ lk &&& xf_not (xf_bit a) = 0 ∧ bt (V a) v = true) by omega)]
        by_cases c : bt (V a) v = true
        · rw [if_pos ⟨rfl, c⟩, if_pos ⟨by omega, hk, c⟩]
        · rw [if_neg (fun z => c z.2), if_neg (fun z => c z.2.2)]
      · rw [if_neg (fun z => e z.1)]
        by_cases c : a < n ∧ lk &&& xf_not (xf_bit a) = 0 ∧ bt (V a) v = true
        · rw [if_pos c, if_pos ⟨by omega, c.2⟩]
        · rw [if_neg c, if_neg (fun z => c ⟨by omega, z.2⟩)]
    · rw [if_neg hk, ih]
      by_cases c : a < n ∧ lk &&& xf_not (xf_bit a) = 0 ∧ bt (V a) v = true
      · rw [if_pos c, if_pos ⟨by omega, c.2⟩]
      · rw [if_neg c, if_neg (fun z => c ⟨(by
          rcases Nat.lt_or_ge a n with q | q
          · exact q
          · exact absurd (by rw [← show a = n by omega]; exact z.2.1) hk), z.2⟩)]
/-- THE COUNT of a value under a head -/
def fcN (fg fk fc : Nat → Int32) (h v : Nat) : Nat := xf_cnt (fun t => bt (fcV fg fk t h) v && fcKB fg fk fc h t) 40
theorem fcCA_at (fg fk fc fn : Nat → Int32) (h v : Nat) (hh : h < 8) (hv : v < 32) : ∀ n, fcCA fg fk fc fn n (h * 32 + v) = fn (h * 32 + v) + nI (xf_cnt (fun t => bt (fcV fg fk t h) v && fcKB fg fk fc h t) n)
  | 0 => by
    show fn (h * 32 + v) = fn (h * 32 + v) + nI 0
    rw [nI_0, Int32.add_zero]
  | n + 1 => by
    have ih := fcCA_at fg fk fc fn h v hh hv n
    show fcCH (fcLk fg fk fc n) (fcV fg fk n) (fcCA fg fk fc fn n) 8 (h * 32 + v) = _
    rw [fcCH_at _ _ _ h v hv 8, ih]
    show _ = fn (h * 32 + v) + nI (xf_cnt _ n + (if (bt (fcV fg fk n h) v && fcKB fg fk fc h n) = true then 1 else 0))
    by_cases c : fcLk fg fk fc n &&& xf_not (xf_bit h) = 0 ∧ bt (fcV fg fk n h) v = true
    · rw [if_pos ⟨hh, c⟩, if_pos (by unfold fcKB; rw [c.2, decide_eq_true c.1]; rfl), Int32.add_assoc, nI_add]
    · rw [if_neg (fun z => c z.2), if_neg (fun z => c (by
        unfold fcKB at z
        rw [Bool.and_eq_true, decide_eq_true_eq] at z
        exact ⟨z.2, z.1⟩)), Nat.add_zero]
theorem fcAll_at (fg fk fc fn : Nat → Int32) (h v : Nat) (hh : h < 8) (hv : v < 32) : fcAll fg fk fc fn (h * 32 + v) = nI (fcN fg fk fc h v) := by
  unfold fcAll fcN
  rw [fcCA_at fg fk fc _ h v hh hv 40, xf_fill_at, if_pos (by omega), nI_0, Int32.zero_add]
theorem fcWA_bit (fg fk fc : Nat → Int32) (h v : Nat) (hv : v < 32) : fcWA fg fk fc h (xf_bit v) = fun t => bt (fcV fg fk t h) v && fcKB fg fk fc h t := by
  funext t
  unfold fcWA
  congr 1
  cases hb : bt (fcV fg fk t h) v with
  | true => exact decide_eq_true (fun z => by rw [xf_holds hv, hb] at z; cases z)
  | false => exact decide_eq_false (fun z => z ((xf_holds hv).mpr hb))
/-! sets of bits -/
theorem xf_mk_bt (P : Nat → Bool) : ∀ n, n ≤ 32 → ∀ j, j < 32 → bt (xf_mk P n) j = (decide (j < n) && P j)
  | 0, _, j, _ => by
    show bt (nI 0) j = _
    rw [nI_0, b_0, decide_eq_false (by omega), Bool.false_and]
  | n + 1, hn, j, hj => by
    have ih := xf_mk_bt P n (by omega) j hj
    show bt (if P n = true then xf_mk P n ||| xf_bit n else xf_mk P n) j = _
    by_cases hp : P n = true
    · rw [if_pos hp, b_or, ih, xf_bt_bit n (by omega) j hj]
      by_cases e : j = n
      · subst e; simp [hp]
      · rw [decide_eq_false e, Bool.or_false]
        by_cases q : j < n
        · rw [decide_eq_true q, decide_eq_true (show j < n + 1 by omega)]
        · rw [decide_eq_false q, decide_eq_false (show ¬ j < n + 1 by omega)]
    · rw [if_neg hp, ih]
      by_cases e : j = n
      · subst e
        rw [decide_eq_false (Nat.lt_irrefl _), Bool.false_and]
        cases hb : P j with
        | true => exact absurd hb hp
        | false => rw [Bool.and_false]
      · by_cases q : j < n
        · rw [decide_eq_true q, decide_eq_true (show j < n + 1 by omega)]
        · rw [decide_eq_false q, decide_eq_false (show ¬ j < n + 1 by omega)]
theorem xf_bt0 {x : Int32} : x = 0 ↔ ∀ j, j < 32 → bt x j = false := by
  constructor
  · intro h j _; rw [h, b_0]
  · intro h; exact b_ext fun i hi => by rw [h i hi, b_0]
theorem xf_not_bt (x : Int32) (j : Nat) (hj : j < 32) : bt (xf_not x) j = !bt x j := by
  unfold xf_not
  rw [b_xor, b_m1 j hj]
  cases bt x j <;> rfl
/-- a thing lacks a head: the head has chosen values, the thing has none of them -/
def fcLa (fg fk fc : Nat → Int32) (t h : Nat) : Bool := fcLP fc (fcV fg fk t) h
theorem fcKp_iff (fg fk fc : Nat → Int32) (t : Nat) : fcKp fg fk fc t = true ↔ ∀ h, h < 8 → fcLa fg fk fc t h = false := by
  unfold fcKp fcLk fcLa
  rw [decide_eq_true_eq, xf_bt0]
  constructor
  · intro z h hh
    have := z h (by omega)
    rwa [xf_mk_bt _ 8 (by omega) h (by omega), decide_eq_true hh, Bool.true_and] at this
  · intro z j hj
    rw [xf_mk_bt _ 8 (by omega) j hj]
    by_cases q : j < 8
    · rw [z j q, Bool.and_false]
    · rw [decide_eq_false q, Bool.false_and]
theorem fcKB_iff (fg fk fc : Nat → Int32) (h t : Nat) (hh : h < 8) : fcKB fg fk fc h t = true ↔ ∀ a, a < 8 → a ≠ h → fcLa fg fk fc t a = false := by
  unfold fcKB fcLk fcLa
  rw [decide_eq_true_eq, xf_bt0]
  constructor
  · intro z a ha hne
    have := z a (by omega)
    rw [b_and, xf_not_bt _ a (by omega), xf_bt_bit h (by omega) a (by omega), decide_eq_false hne, xf_mk_bt _ 8 (by omega) a (by omega), decide_eq_true ha] at this
    simpa using this
  · intro z j hj
    rw [b_and, xf_not_bt _ j hj, xf_bt_bit h (by omega) j hj, xf_mk_bt _ 8 (by omega) j hj]
    by_cases q : j < 8
    · by_cases e : j = h
      · rw [decide_eq_true e]; simp
      · rw [z j q e]; simp
    · rw [decide_eq_false q]; simp
