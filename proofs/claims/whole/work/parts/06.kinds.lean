/-! kinds and those above them -/
theorem xf_any_iff (P : Nat → Bool) : ∀ n, xf_any P n = true ↔ ∃ j, j < n ∧ P j = true
  | 0 => ⟨fun h => (by cases h), fun ⟨j, h, _⟩ => absurd h (Nat.not_lt_zero j)⟩
  | n + 1 => by
    show (xf_any P n || P n) = true ↔ _
    rw [Bool.or_eq_true, xf_any_iff P n]
    constructor
    · rintro (⟨j, h1, h2⟩ | h)
      · exact ⟨j, by omega, h2⟩
      · exact ⟨n, by omega, h⟩
    · rintro ⟨j, h1, h2⟩
      by_cases e : j = n
      · exact Or.inr (by rw [← e]; exact h2)
      · exact Or.inl ⟨j, by omega, h2⟩
theorem xf_all_iff (P : Nat → Bool) : ∀ n, xf_all P n = true ↔ ∀ j, j < n → P j = true
  | 0 => ⟨fun _ j h => absurd h (Nat.not_lt_zero j), fun _ => rfl⟩
  | n + 1 => by
    show (xf_all P n && P n) = true ↔ _
    rw [Bool.and_eq_true, xf_all_iff P n]
    constructor
    · intro ⟨h1, h2⟩ j hj
      by_cases e : j = n
      · rw [e]; exact h2
      · exact h1 j (by omega)
    · intro h
      exact ⟨fun j hj => h j (by omega), h n (by omega)⟩
theorem xf_cnt_congr {P Q : Nat → Bool} : ∀ {n : Nat}, (∀ j, j < n → P j = Q j) → xf_cnt P n = xf_cnt Q n
  | 0, _ => rfl
  | n + 1, h => by
    show xf_cnt P n + _ = xf_cnt Q n + _
    rw [xf_cnt_congr (n := n) (fun j hj => h j (by omega)), h n (by omega)]
theorem xf_cnt_full {P : Nat → Bool} : ∀ {n : Nat}, n ≤ xf_cnt P n → ∀ j, j < n → P j = true
  | 0, _, j, hj => absurd hj (Nat.not_lt_zero j)
  | n + 1, h, j, hj => by
    have h' : n + 1 ≤ xf_cnt P n + (if P n = true then 1 else 0) := h
    have hle := xf_cnt_le P n
    by_cases hp : P n = true
    · rw [if_pos hp] at h'
      by_cases e : j = n
      · rw [e]; exact hp
      · exact xf_cnt_full (n := n) (by omega) j (by omega)
    · rw [if_neg hp] at h'
      omega
theorem xf_cnt_set {P Q : Nat → Bool} {i : Nat} (hP : P i = false) (hQ : Q i = true) (hne : ∀ j, j ≠ i → Q j = P j) : ∀ n, i < n → xf_cnt Q n = xf_cnt P n + 1
  | 0, h => absurd h (Nat.not_lt_zero i)
  | n + 1, h => by
    show xf_cnt Q n + (if Q n = true then 1 else 0) = xf_cnt P n + (if P n = true then 1 else 0) + 1
    by_cases e : i = n
    · subst e
      rw [xf_cnt_congr (n := i) (P := Q) (Q := P) (fun j hj => hne j (by omega)), hP, hQ]
      simp
    · rw [xf_cnt_set hP hQ hne n (by omega), hne n (fun z => e z.symm)]
      omega
theorem xf_inj {i j : Nat} (hi : i < 32) (hj : j < 32) (h : nI i = nI j) : i = j := (nI_eq (by omega) (by omega)).mp h
/-- the walk up: what it keeps, what it brings -/
theorem fcWU_spec (fu : Nat → Int32) : ∀ (n : Nat) (ka al : Int32), 32 ≤ n + xf_cnt (bt al) 32 → (∀ j, j < 32 → bt al j = true → ∀ i, i < 32 → fu j = nI i → bt al i = true ∨ ka = nI i) →
    (∀ v, v < 32 → bt al v = true → bt (fcWU fu n ka al) v = true) ∧ (∀ i, i < 32 → ka = nI i → bt (fcWU fu n ka al) i = true) ∧
    (∀ j, j < 32 → bt (fcWU fu n ka al) j = true → ∀ i, i < 32 → fu j = nI i → bt (fcWU fu n ka al) i = true) ∧
    (∀ v, v < 32 → bt (fcWU fu n ka al) v = true → bt al v = true ∨ ∃ q, mdIt fu q ka = nI v)
  | 0, ka, al, hc, _ => by
    have hf : ∀ j, j < 32 → bt al j = true := xf_cnt_full (by omega)
    exact ⟨fun v _ h => h, fun i hi _ => hf i hi, fun _ _ _ i hi _ => hf i hi, fun v _ h => Or.inl h⟩
  | n + 1, ka, al, hc, hn => by
    by_cases hin : xf_in ka 32 = true
    · obtain ⟨j, hj, rfl⟩ := xf_in_of hin (by decide)
      have ej : (nI j).toNatClampNeg = j := nI_clamp (by omega)
      by_cases hb : bt al j = true
      · have e : fcWU fu (n + 1) (nI j) al = al := by rw [fcWU, if_pos hin, ej, if_pos hb]
        rw [e]
        refine ⟨fun v _ h => h, fun i hi h => by rw [← xf_inj hj hi h]; exact hb, fun a ha h i hi hu => ?_, fun v _ h => Or.inl h⟩
        rcases hn a ha h i hi hu with q | q
        · exact q
        · rw [← xf_inj hj hi q]; exact hb
      · have e : fcWU fu (n + 1) (nI j) al = fcWU fu n (fu j) (al ||| xf_bit j) := by rw [fcWU, if_pos hin, ej, if_neg hb]
        rw [e]
        have hor : ∀ v, v < 32 → bt (al ||| xf_bit j) v = (bt al v || decide (v = j)) := fun v hv => by rw [b_or, xf_bt_bit j hj v hv]
        have hbf : bt al j = false := by cases q : bt al j with | true => exact absurd q hb | false => rfl
        have hcard : xf_cnt (bt (al ||| xf_bit j)) 32 = xf_cnt (bt al) 32 + 1 := by
          have h1 : xf_cnt (bt (al ||| xf_bit j)) 32 = xf_cnt (fun v => bt al v || decide (v = j)) 32 := xf_cnt_congr hor
          rw [h1]
          exact xf_cnt_set hbf (by simp) (fun v hv => by simp [hv]) 32 hj
        obtain ⟨p1, p2, p3, p4⟩ := fcWU_spec fu n (fu j) (al ||| xf_bit j) (by omega) (fun a ha h i hi hu => by
          rw [hor a ha, Bool.or_eq_true, decide_eq_true_eq] at h
          rcases h with h | h
          · rcases hn a ha h i hi hu with q | q
            · exact Or.inl (by rw [hor i hi, q]; rfl)
            · exact Or.inl (by rw [hor i hi, xf_inj hj hi q]; simp)
          · exact Or.inr (by rw [← h]; exact hu))
        refine ⟨fun v hv h => p1 v hv (by rw [hor v hv, h]; rfl), fun i hi h => p1 i hi (by rw [hor i hi, xf_inj hj hi h]; simp), p3, fun v hv h => ?_⟩
        rcases p4 v hv h with q | ⟨q, hq⟩
        · rw [hor v hv, Bool.or_eq_true, decide_eq_true_eq] at q
          rcases q with q | q
          · exact Or.inl q
          · exact Or.inr ⟨0, by rw [q]; rfl⟩
        · exact Or.inr ⟨q + 1, by rw [mdIt_s fu hj]; exact hq⟩
    · have e : fcWU fu (n + 1) ka al = al := by rw [fcWU, if_neg hin]
      rw [e]
      refine ⟨fun v _ h => h, fun i hi h => absurd (by rw [h]; exact xf_in_nI hi (by decide)) hin, fun a ha h i hi hu => ?_, fun v _ h => Or.inl h⟩
      rcases hn a ha h i hi hu with q | q
      · exact q
      · exact absurd (by rw [q]; exact xf_in_nI hi (by decide)) hin
def fcCl (fu : Nat → Int32) (S : Int32) : Prop := ∀ j, j < 32 → bt S j = true → ∀ i, i < 32 → fu j = nI i → bt S i = true
theorem fcCl_reach {fu : Nat → Int32} (hOk : mdOk fu) {S : Int32} (hc : fcCl fu S) {v : Nat} (hv : v < 32) : ∀ q j, j < 32 → bt S j = true → mdIt fu q (nI j) = nI v → bt S v = true
  | 0, j, hj, hb, h => by rw [← xf_inj hj hv h]; exact hb
  | q + 1, j, hj, hb, h => by
    rw [mdIt_s fu hj] at h
    rcases hOk j hj with e | ⟨i, hi, e⟩
    · rw [e, mdIt_m1] at h
      exact absurd h.symm (xf_m1 (by omega))
    · rw [e] at h
      exact fcCl_reach hOk hc hv q i hi (hc j hj hb i hi e) h
theorem fcWU_up {fu : Nat → Int32} (hOk : mdOk fu) {k v : Nat} (hk : k < 32) (hv : v < 32) : bt (fcWU fu 32 (nI k) (nI 0)) v = mdU fu k v := by
  obtain ⟨p1, p2, p3, p4⟩ := fcWU_spec fu 32 (nI k) (nI 0) (by omega) (fun j _ h => by rw [nI_0, b_0] at h; cases h)
  rw [Bool.eq_iff_iff, mdU_iff]
  constructor
  · intro h
    rcases p4 v hv h with q | q
    · rw [nI_0, b_0] at q; cases q
    · exact q
  · intro ⟨q, hq⟩
    exact fcCl_reach hOk p3 hv q k hk (p2 k hk rfl) hq
theorem fcRK_spec {fu : Nat → Int32} (hOk : mdOk fu) (own : Int32) : ∀ n, n ≤ 32 → fcCl fu (fcRK fu own n) ∧ ∀ v, v < 32 → (bt (fcRK fu own n) v = true ↔ ∃ k, k < n ∧ bt own k = true ∧ mdU fu k v = true)
  | 0, _ => ⟨fun j _ h => (by rw [show fcRK fu own 0 = nI 0 from rfl, nI_0, b_0] at h; cases h), fun v _ => ⟨fun h => (by rw [show fcRK fu own 0 = nI 0 from rfl, nI_0, b_0] at h; cases h), fun ⟨k, h, _⟩ => absurd h (Nat.not_lt_zero k)⟩⟩
  | n + 1, hn => by
    obtain ⟨c1, c2⟩ := fcRK_spec hOk own n (by omega)
    by_cases hb : bt own n = true
    · have e : fcRK fu own (n + 1) = fcWU fu 32 (nI n) (fcRK fu own n) := by rw [fcRK, if_pos hb]
      rw [e]
      obtain ⟨p1, p2, p3, p4⟩ := fcWU_spec fu 32 (nI n) (fcRK fu own n) (by omega) (fun j hj h i hi hu => Or.inl (c1 j hj h i hi hu))
      refine ⟨p3, fun v hv => ⟨fun h => ?_, fun ⟨k, h1, h2, h3⟩ => ?_⟩⟩
      · rcases p4 v hv h with q | q
        · obtain ⟨k, h1, h2, h3⟩ := (c2 v hv).mp q
          exact ⟨k, by omega, h2, h3⟩
        · exact ⟨n, by omega, hb, mdU_iff.mpr q⟩
      · by_cases ek : k = n
        · subst ek
          obtain ⟨q, hq⟩ := mdU_iff.mp h3
          exact fcCl_reach hOk p3 hv q k (by omega) (p2 k (by omega) rfl) hq
        · exact p1 v hv ((c2 v hv).mpr ⟨k, by omega, h2, h3⟩)
    · have e : fcRK fu own (n + 1) = fcRK fu own n := by rw [fcRK, if_neg hb]
      rw [e]
      refine ⟨c1, fun v hv => (c2 v hv).trans ⟨fun ⟨k, h1, h2, h3⟩ => ⟨k, by omega, h2, h3⟩, fun ⟨k, h1, h2, h3⟩ => ⟨k, ?_, h2, h3⟩⟩⟩
      rcases Nat.lt_or_ge k n with q | q
      · exact q
      · exact absurd (by rw [← show k = n by omega]; exact h2) hb
theorem mdIt_congr {fu ma : Nat → Int32} (h : ∀ k, k < 32 → fu k = ma k) (hOk : mdOk ma) : ∀ q a, (a = -1 ∨ ∃ j, j < 32 ∧ a = nI j) → mdIt fu q a = mdIt ma q a
  | 0, _, _ => rfl
  | q + 1, a, ha => by
    rcases ha with rfl | ⟨j, hj, rfl⟩
    · rw [mdIt_m1, mdIt_m1]
    · rw [mdIt_s fu hj, mdIt_s ma hj, h j hj]
      exact mdIt_congr h hOk q _ (hOk j hj)
theorem mdU_congr {fu ma : Nat → Int32} (h : ∀ k, k < 32 → fu k = ma k) (hOk : mdOk ma) {k : Nat} (hk : k < 32) (v : Nat) : mdU fu k v = mdU ma k v := by
  rw [Bool.eq_iff_iff, mdU_iff, mdU_iff]
  constructor
  · intro ⟨q, hq⟩
    exact ⟨q, by rw [← mdIt_congr h hOk q _ (Or.inr ⟨k, hk, rfl⟩)]; exact hq⟩
  · intro ⟨q, hq⟩
    exact ⟨q, by rw [mdIt_congr h hOk q _ (Or.inr ⟨k, hk, rfl⟩)]; exact hq⟩
theorem mdOk_congr {fu ma : Nat → Int32} (h : ∀ k, k < 32 → fu k = ma k) (hOk : mdOk ma) : mdOk fu := fun k hk => by rw [h k hk]; exact hOk k hk
/-! a new one above: chains still end -/
theorem mdOk_upd {ma : Nat → Int32} (hOk : mdOk ma) (k : Nat) {u : Int32} (hu : u = -1 ∨ ∃ j, j < 32 ∧ u = nI j) : mdOk (upd ma k u) := fun j hj => by
  by_cases e : j = k
  · rw [e, pk_us]; exact hu
  · rw [pk_un e]; exact hOk j hj
theorem mdIt_away {ma : Nat → Int32} (hOk : mdOk ma) {k : Nat} (u : Int32) (hk : k < 32) : ∀ q a, (a = -1 ∨ ∃ j, j < 32 ∧ a = nI j) → (∀ i, mdIt ma i a ≠ nI k) → mdIt (upd ma k u) q a = mdIt ma q a
  | 0, _, _, _ => rfl
  | q + 1, a, ha, hn => by
    rcases ha with rfl | ⟨j, hj, rfl⟩
    · rw [mdIt_m1, mdIt_m1]
    · have hjk : j ≠ k := fun e => hn 0 (by rw [e]; rfl)
      rw [mdIt_s _ hj, mdIt_s ma hj, pk_un hjk]
      exact mdIt_away hOk u hk q _ (hOk j hj) (fun i => by rw [← mdIt_s ma hj]; exact hn (i + 1))
theorem mdAc_upd {ma : Nat → Int32} (hOk : mdOk ma) (hAc : mdAc ma) {k : Nat} (hk : k < 32) {u : Int32} (hu : u = -1 ∨ ∃ j, j < 32 ∧ u = nI j ∧ mdU ma j k = false) : mdAc (upd ma k u) := by
  have hend : ∃ n, mdIt (upd ma k u) n u = -1 := by
    rcases hu with rfl | ⟨j, hj, rfl, hf⟩
    · exact ⟨0, rfl⟩
    · obtain ⟨n, hn⟩ := hAc j hj
      exact ⟨n, by rw [mdIt_away hOk _ hk n _ (Or.inr ⟨j, hj, rfl⟩) (fun i e => by rw [mdU_iff.mpr ⟨i, e⟩] at hf; cases hf)]; exact hn⟩
  have key : ∀ n a, (a = -1 ∨ ∃ j, j < 32 ∧ a = nI j) → mdIt ma n a = -1 → ∃ q, mdIt (upd ma k u) q a = -1 := by
    intro n
    induction n with
    | zero => exact fun a _ h => ⟨0, h⟩
    | succ n ih =>
      intro a ha h
      rcases ha with rfl | ⟨j, hj, rfl⟩
      · exact ⟨0, rfl⟩
      · by_cases e : j = k
        · obtain ⟨q, hq⟩ := hend
          exact ⟨q + 1, by rw [mdIt_s _ hj, e, pk_us]; exact hq⟩
        · rw [mdIt_s ma hj] at h
          obtain ⟨q, hq⟩ := ih _ (hOk j hj) h
          exact ⟨q + 1, by rw [mdIt_s _ hj, pk_un e]; exact hq⟩
  exact fun j hj => by
    obtain ⟨n, hn⟩ := hAc j hj
    exact key n _ (Or.inr ⟨j, hj, rfl⟩) hn
theorem fcRA_at (fu fg fk : Nat → Int32) : ∀ n t, fcRA fu fg fk n t = if t < n then fcRK fu (fg (t * 8)) 32 else fk t
  | 0, t => by rw [if_neg (by omega)]; rfl
  | n + 1, t => by
    show upd (fcRA fu fg fk n) n (fcRK fu (fg (n * 8)) 32) t = _
    by_cases e : t = n
    · subst e; rw [pk_us, if_pos (by omega)]
    · rw [pk_un e, fcRA_at fu fg fk n t]
      by_cases h : t < n
      · rw [if_pos h, if_pos (by omega)]
      · rw [if_neg h, if_neg (by omega)]
