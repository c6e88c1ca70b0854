/-! ===== the order of what follows a place ===== -/
/-- a text: signs above 0, then the end's 0 at n -/
def tx_ok (T : Nat → Nat) (n : Nat) : Prop := T n = 0 ∧ ∀ i, i < n → 0 < T i
/-- with how many signs two places begin alike, d at most -/
def lcf (T : Nat → Nat) : Nat → Nat → Nat → Nat
  | 0, _, _ => 0
  | d + 1, p, q => if T p = T q then lcf T d (p + 1) (q + 1) + 1 else 0
def lc (T : Nat → Nat) (n p q : Nat) : Nat := lcf T (n - max p q) p q
theorem lc_rec {T : Nat → Nat} {n p q : Nat} (hp : p < n) (hq : q < n) : lc T n p q = if T p = T q then lc T n (p + 1) (q + 1) + 1 else 0 := by
  unfold lc
  have e : n - max p q = (n - max (p + 1) (q + 1)) + 1 := by omega
  rw [e]
  rfl
theorem lc_end {T : Nat → Nat} {n p q : Nat} (h : n ≤ p ∨ n ≤ q) : lc T n p q = 0 := by
  unfold lc
  rw [show n - max p q = 0 by omega]
  rfl
theorem lcf_spec (T : Nat → Nat) : ∀ d p q, lcf T d p q ≤ d ∧ (∀ j, j < lcf T d p q → T (p + j) = T (q + j)) ∧ (lcf T d p q = d ∨ T (p + lcf T d p q) ≠ T (q + lcf T d p q))
  | 0, p, q => ⟨Nat.le_refl _, fun j hj => absurd hj (Nat.not_lt_zero _), Or.inl rfl⟩
  | d + 1, p, q => by
    unfold lcf
    by_cases e : T p = T q
    · rw [if_pos e]
      obtain ⟨h1, h2, h3⟩ := lcf_spec T d (p + 1) (q + 1)
      refine ⟨by omega, fun j hj => ?_, ?_⟩
      · match j with
        | 0 => exact e
        | j + 1 =>
          have := h2 j (by omega)
          rw [show p + (j + 1) = p + 1 + j by omega, show q + (j + 1) = q + 1 + j by omega]
          exact this
      · rcases h3 with h3 | h3
        · exact Or.inl (by omega)
        · refine Or.inr ?_
          rw [show p + (lcf T d (p + 1) (q + 1) + 1) = p + 1 + lcf T d (p + 1) (q + 1) by omega, show q + (lcf T d (p + 1) (q + 1) + 1) = q + 1 + lcf T d (p + 1) (q + 1) by omega]
          exact h3
    · rw [if_neg e]
      exact ⟨Nat.zero_le _, fun j hj => absurd hj (Nat.not_lt_zero _), Or.inr e⟩
theorem lc_le {T : Nat → Nat} {n p q : Nat} (hp : p ≤ n) (hq : q ≤ n) : p + lc T n p q ≤ n ∧ q + lc T n p q ≤ n := by
  have := (lcf_spec T (n - max p q) p q).1
  unfold lc
  omega
theorem lc_eq {T : Nat → Nat} {n p q j : Nat} (h : j < lc T n p q) : T (p + j) = T (q + j) := (lcf_spec T (n - max p q) p q).2.1 j h
theorem lc_ne {T : Nat → Nat} {n p q : Nat} (hT : tx_ok T n) (hp : p ≤ n) (hq : q ≤ n) (hpq : p ≠ q) : T (p + lc T n p q) ≠ T (q + lc T n p q) := by
  rcases (lcf_spec T (n - max p q) p q).2.2 with h | h
  · have e : lc T n p q = n - max p q := h
    rw [e]
    rcases Nat.lt_or_ge p q with c | c
    · rw [show max p q = q by omega, show q + (n - q) = n by omega, hT.1]
      have := hT.2 (p + (n - q)) (by omega)
      omega
    · rw [show max p q = p by omega, show p + (n - p) = n by omega, hT.1]
      have := hT.2 (q + (n - p)) (by omega)
      omega
  · exact h
theorem lc_comm (T : Nat → Nat) (n p q : Nat) : lc T n p q = lc T n q p := by
  have h : ∀ d p q, lcf T d p q = lcf T d q p := by
    intro d
    induction d with
    | zero => intro p q; rfl
    | succ d ih =>
      intro p q
      unfold lcf
      by_cases e : T p = T q
      · rw [if_pos e, if_pos e.symm, ih]
      · rw [if_neg e, if_neg (fun q => e q.symm)]
  unfold lc
  rw [h, Nat.max_comm]
/-- what follows p is ahead of what follows q -/
def sl (T : Nat → Nat) (n p q : Nat) : Bool := decide (T (p + lc T n p q) < T (q + lc T n p q))
theorem sl_rec {T : Nat → Nat} {n p q : Nat} (hp : p < n) (hq : q < n) (e : T p = T q) : sl T n p q = sl T n (p + 1) (q + 1) := by
  unfold sl
  rw [lc_rec hp hq, if_pos e, show p + (lc T n (p + 1) (q + 1) + 1) = p + 1 + lc T n (p + 1) (q + 1) by omega, show q + (lc T n (p + 1) (q + 1) + 1) = q + 1 + lc T n (p + 1) (q + 1) by omega]
theorem sl_lt {T : Nat → Nat} {n p q : Nat} (e : T p ≠ T q) : sl T n p q = decide (T p < T q) := by
  have h : lc T n p q = 0 := by
    rcases Nat.lt_or_ge p n with hp | hp
    · rcases Nat.lt_or_ge q n with hq | hq
      · rw [lc_rec hp hq, if_neg e]
      · exact lc_end (Or.inr hq)
    · exact lc_end (Or.inl hp)
  unfold sl
  rw [h]
  rfl
theorem sl_self (T : Nat → Nat) (n p : Nat) : sl T n p p = false := by
  unfold sl
  exact decide_eq_false (Nat.lt_irrefl _)
theorem sl_or {T : Nat → Nat} {n p q : Nat} (hT : tx_ok T n) (hp : p ≤ n) (hq : q ≤ n) (hpq : p ≠ q) : sl T n p q = !sl T n q p := by
  have h := lc_ne hT hp hq hpq
  unfold sl
  rw [lc_comm T n q p]
  rcases Nat.lt_or_ge (T (p + lc T n p q)) (T (q + lc T n p q)) with c | c
  · rw [decide_eq_true c, decide_eq_false (by omega)]; rfl
  · rw [decide_eq_false (by omega), decide_eq_true (by omega)]; rfl
theorem sl_tr {T : Nat → Nat} {n : Nat} (hT : tx_ok T n) : ∀ (d p q r : Nat), n - max p (max q r) ≤ d → p ≤ n → q ≤ n → r ≤ n → sl T n p q = true → sl T n q r = true → sl T n p r = true := by
  have hz : ∀ i, i ≤ n → T i = 0 → i = n := fun i hi h => by
    rcases Nat.lt_or_ge i n with c | c
    · have := hT.2 i c; omega
    · omega
  intro d
  induction d with
  | zero =>
    intro p q r hd hp hq hr h1 h2
    by_cases e1 : T p = T q
    · by_cases c : p < n ∧ q < n
      · have hrn : r = n := by omega
        subst hrn
        by_cases e2 : T q = T r
        · rw [hT.1] at e2
          exact absurd (hz q hq e2) (by omega)
        · rw [sl_lt e2, hT.1] at h2
          exact absurd (of_decide_eq_true h2) (Nat.not_lt_zero _)
      · have hpq : T p = 0 ∧ T q = 0 := by
          rcases Nat.lt_or_ge p n with c1 | c1
          · have hqn : q = n := by omega
            rw [e1, hqn]; exact ⟨hT.1, hT.1⟩
          · have hpn : p = n := by omega
            rw [← e1, hpn]; exact ⟨hT.1, hT.1⟩
        have := hz p hp hpq.1
        have := hz q hq hpq.2
        rw [show q = p by omega] at h1
        rw [sl_self] at h1
        cases h1
    · rw [sl_lt e1] at h1
      have h1 := of_decide_eq_true h1
      by_cases e2 : T q = T r
      · by_cases c : q < n ∧ r < n
        · have hpn : p = n := by omega
          rw [hpn, hT.1] at h1
          rw [sl_lt (by rw [hpn, hT.1]; omega), hpn, hT.1]
          exact decide_eq_true (by omega)
        · have hqr : q = n ∧ r = n := by
            rcases Nat.lt_or_ge q n with c1 | c1
            · have hrn : r = n := by omega
              rw [hrn, hT.1] at e2
              exact ⟨hz q hq e2, hrn⟩
            · have hqn : q = n := by omega
              rw [hqn, hT.1] at e2
              exact ⟨hqn, hz r hr e2.symm⟩
          rw [hqr.1, hqr.2, sl_self] at h2
          cases h2
      · rw [sl_lt e2] at h2
        have h2 := of_decide_eq_true h2
        rw [sl_lt (by omega)]
        exact decide_eq_true (by omega)
  | succ d ih =>
    intro p q r hd hp hq hr h1 h2
    by_cases e1 : T p = T q
    · by_cases e2 : T q = T r
      · by_cases c : p < n ∧ q < n ∧ r < n
        · rw [sl_rec c.1 c.2.1 e1] at h1
          rw [sl_rec c.2.1 c.2.2 e2] at h2
          rw [sl_rec c.1 c.2.2 (e1.trans e2)]
          exact ih _ _ _ (by omega) (by omega) (by omega) (by omega) h1 h2
        · have h0 : T p = 0 := by
            rcases Nat.lt_or_ge p n with c1 | c1
            · rcases Nat.lt_or_ge q n with c2 | c2
              · rw [e1, e2, show r = n by omega]; exact hT.1
              · rw [e1, show q = n by omega]; exact hT.1
            · rw [show p = n by omega]; exact hT.1
          have a1 := hz p hp h0
          have a2 := hz q hq (by omega)
          rw [a1, a2, sl_self] at h1
          cases h1
      · rw [sl_lt e2] at h2
        have h2 := of_decide_eq_true h2
        rw [sl_lt (by omega)]
        exact decide_eq_true (by omega)
    · rw [sl_lt e1] at h1
      have h1 := of_decide_eq_true h1
      have h3 : T q ≤ T r := by
        by_cases e2 : T q = T r
        · omega
        · rw [sl_lt e2] at h2
          have h2 := of_decide_eq_true h2
          omega
      rw [sl_lt (by omega)]
      exact decide_eq_true (by omega)
theorem sl_trans {T : Nat → Nat} {n p q r : Nat} (hT : tx_ok T n) (hp : p ≤ n) (hq : q ≤ n) (hr : r ≤ n) (h1 : sl T n p q = true) (h2 : sl T n q r = true) : sl T n p r = true := sl_tr hT _ p q r (Nat.le_refl _) hp hq hr h1 h2
/-- the row of p among the places of a set -/
def rkS (T : Nat → Nat) (n : Nat) (S : Nat → Bool) (p : Nat) : Nat := ct (fun q => S q && sl T n q p) (n + 1)
theorem rkS_lt {T : Nat → Nat} {n : Nat} {S : Nat → Bool} {p q : Nat} (hT : tx_ok T n) (hp : p ≤ n) (hq : q ≤ n) (hS : S p = true) (h : sl T n p q = true) : rkS T n S p < rkS T n S q := by
  refine ct_lt (n + 1) (fun i hi h1 => ?_) p (by omega) ?_ ?_
  · simp only [Bool.and_eq_true] at h1 ⊢
    exact ⟨h1.1, sl_trans hT (by omega) hp hq h1.2 h⟩
  · show (S p && sl T n p p) = false
    rw [sl_self, Bool.and_false]
  · show (S p && sl T n p q) = true
    rw [hS, h]; rfl
theorem rkS_iff {T : Nat → Nat} {n : Nat} {S : Nat → Bool} {p q : Nat} (hT : tx_ok T n) (hp : p ≤ n) (hq : q ≤ n) (hSp : S p = true) (hSq : S q = true) : rkS T n S p < rkS T n S q ↔ sl T n p q = true := by
  refine ⟨fun h => ?_, rkS_lt hT hp hq hSp⟩
  by_cases e : p = q
  · subst e; exact absurd h (Nat.lt_irrefl _)
  · cases hs : sl T n p q with
    | true => rfl
    | false =>
      have h2 := sl_or hT hq hp (fun z => e z.symm)
      rw [hs] at h2
      have := rkS_lt hT hq hp hSq h2
      omega
theorem rkS_inj {T : Nat → Nat} {n : Nat} {S : Nat → Bool} {p q : Nat} (hT : tx_ok T n) (hp : p ≤ n) (hq : q ≤ n) (hSp : S p = true) (hSq : S q = true) (h : rkS T n S p = rkS T n S q) : p = q := by
  by_cases e : p = q
  · exact e
  · exfalso
    have h2 := sl_or hT hp hq e
    cases hs : sl T n p q with
    | true => have := rkS_lt hT hp hq hSp hs; omega
    | false =>
      rw [hs] at h2
      have h3 : sl T n q p = true := by
        cases hq9 : sl T n q p with
        | true => rfl
        | false => rw [hq9] at h2; cases h2
      have := rkS_lt hT hq hp hSq h3; omega
/-- one place more in the set -/
theorem rkS_more {T : Nat → Nat} {n : Nat} {S S' : Nat → Bool} {x p : Nat} (hx : x ≤ n) (hS : S x = false) (hS' : ∀ i, i ≤ n → S' i = (S i || decide (i = x))) : rkS T n S' p = rkS T n S p + (if sl T n x p then 1 else 0) := by
  have h : rkS T n S' p = rkS T n S p + ct (fun q => decide (q = x) && sl T n q p) (n + 1) := by
    refine ct_add (n + 1) (fun i hi => ?_)
    show (if (S' i && sl T n i p) = true then 1 else 0) = _
    rw [hS' i (by omega)]
    by_cases e : i = x
    · subst e
      rw [hS, decide_eq_true rfl]
      simp only [Bool.false_or, Bool.true_and, Bool.false_and, Bool.false_eq_true, if_false, Nat.zero_add]
    · rw [decide_eq_false e]
      simp only [Bool.or_false, Bool.false_and, Bool.false_eq_true, if_false, Nat.add_zero]
  rw [h]
  congr 1
  cases hs : sl T n x p with
  | true =>
    rw [if_pos rfl]
    refine ct_one x (n + 1) (fun i hi h1 => ?_) (by omega) ?_
    · simp only [Bool.and_eq_true, decide_eq_true_eq] at h1
      exact h1.1
    · show (decide (x = x) && sl T n x p) = true
      rw [hs, decide_eq_true rfl]; rfl
  | false =>
    rw [if_neg (by decide)]
    refine ct_zero (n + 1) (fun i hi => ?_)
    by_cases e : i = x
    · subst e
      show (decide (i = i) && sl T n i p) = false
      rw [hs, Bool.and_false]
    · show (decide (i = x) && sl T n i p) = false
      rw [decide_eq_false e, Bool.false_and]
