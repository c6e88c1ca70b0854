/-! ===== patterns: how places stand to them, counted ===== -/
theorem ct_split (F : Nat → Bool) (n k : Nat) (hk : k < n) : ct F n = ct (fun i => F i && !decide (i = k)) n + (if F k then 1 else 0) := by
  have h := ct_add (P := fun i => F i && !decide (i = k)) (Q := fun i => F i && decide (i = k)) (R := F) n (fun i _ => by
    by_cases e : i = k
    · rw [decide_eq_true e]; cases F i <;> rfl
    · rw [decide_eq_false e]; cases F i <;> rfl)
  rw [h]
  congr 1
  cases hf : F k with
  | true =>
    rw [if_pos rfl]
    refine ct_one k n (fun i _ h1 => ?_) hk ?_
    · simp only [Bool.and_eq_true, decide_eq_true_eq] at h1; exact h1.2
    · show (F k && decide (k = k)) = true
      rw [hf, decide_eq_true rfl]; rfl
  | false =>
    rw [if_neg (by decide)]
    refine ct_zero n (fun i _ => ?_)
    by_cases e : i = k
    · subst e
      show (F i && decide (i = i)) = false
      rw [hf, Bool.false_and]
    · show (F i && decide (i = k)) = false
      rw [decide_eq_false e, Bool.and_false]
/-- rows ahead of R, counted by their places -/
theorem ct_rows {T : Nat → Nat} {n : Nat} (hT : tx_ok T n) (F : Nat → Bool) : ∀ R, R ≤ n + 1 → ct (fun p => decide (rk T n p < R) && F p) (n + 1) = ct (fun r => F (pa T n r)) R
  | 0, _ => by
    show _ = 0
    exact ct_zero _ (fun i _ => by rw [decide_eq_false (Nat.not_lt_zero _), Bool.false_and])
  | R + 1, h => by
    obtain ⟨h1, h2⟩ := pa_ok (r := R) hT (by omega)
    rw [ct_split _ (n + 1) (pa T n R) (by omega)]
    have e : ct (fun i => (decide (rk T n i < R + 1) && F i) && !decide (i = pa T n R)) (n + 1) = ct (fun p => decide (rk T n p < R) && F p) (n + 1) := ct_congr _ (fun i hi => by
      by_cases c : i = pa T n R
      · rw [decide_eq_true c, c, h2, decide_eq_false (Nat.lt_irrefl R)]
        simp
      · have hne : rk T n i ≠ R := fun z => c (rk_inj hT (by omega) h1 (z.trans h2.symm))
        rw [decide_eq_false c]
        by_cases q : rk T n i < R
        · rw [decide_eq_true q, decide_eq_true (by omega)]; simp
        · rw [decide_eq_false q, decide_eq_false (by omega)]; simp)
    rw [e, ct_rows hT F R (by omega)]
    show _ = ct (fun r => F (pa T n r)) R + (if F (pa T n R) = true then 1 else 0)
    rw [h2, decide_eq_true (Nat.lt_succ_self R), Bool.true_and]
/-- a sign of the text, the end's 0 from n on -/
def tz (T : Nat → Nat) (n i : Nat) : Nat := if i < n then T i else 0
theorem tz_le {T : Nat → Nat} {n i : Nat} (hT : tx_ok T n) (hi : i ≤ n) : tz T n i = T i := by
  unfold tz
  by_cases c : i < n
  · rw [if_pos c]
  · rw [if_neg c, show i = n by omega, hT.1]
/-- 0: what follows p is ahead of the pattern; 1: begins with it; 2: behind it -/
def cp (T : Nat → Nat) (n : Nat) : Nat → (Nat → Nat) → Nat → Nat
  | 0, _, _ => 1
  | m + 1, Q, p => if tz T n p = Q 0 then cp T n m (fun k => Q (k + 1)) (p + 1) else if tz T n p < Q 0 then 0 else 2
/-- how many places are ahead of a pattern, how many begin with it -/
def LO (T : Nat → Nat) (n m : Nat) (Q : Nat → Nat) : Nat := ct (fun p => decide (cp T n m Q p = 0)) (n + 1)
def SZ (T : Nat → Nat) (n m : Nat) (Q : Nat → Nat) : Nat := ct (fun p => decide (cp T n m Q p = 1)) (n + 1)
theorem cp_lt3 (T : Nat → Nat) (n : Nat) : ∀ m Q p, cp T n m Q p < 3
  | 0, _, _ => by show 1 < 3; decide
  | m + 1, Q, p => by
    unfold cp
    split
    · exact cp_lt3 T n m _ _
    · split <;> decide
theorem cp_cong {T : Nat → Nat} {n : Nat} : ∀ m (Q Q' : Nat → Nat) p, (∀ k, k < m → Q k = Q' k) → cp T n m Q p = cp T n m Q' p
  | 0, _, _, _, _ => rfl
  | m + 1, Q, Q', p, h => by
    unfold cp
    rw [h 0 (by omega), cp_cong m _ _ (p + 1) (fun k hk => h (k + 1) (by omega))]
/-- it begins with the pattern: all signs are the same -/
theorem cp_one {T : Nat → Nat} {n : Nat} : ∀ m Q p, cp T n m Q p = 1 ↔ ∀ k, k < m → tz T n (p + k) = Q k
  | 0, Q, p => ⟨fun _ k hk => absurd hk (Nat.not_lt_zero _), fun _ => rfl⟩
  | m + 1, Q, p => by
    unfold cp
    by_cases c : tz T n p = Q 0
    · rw [if_pos c, cp_one m _ (p + 1)]
      refine ⟨fun h k hk => ?_, fun h k hk => ?_⟩
      · match k with
        | 0 => exact c
        | k + 1 => rw [show p + (k + 1) = p + 1 + k by omega]; exact h k (by omega)
      · rw [show p + 1 + k = p + (k + 1) by omega]; exact h (k + 1) (by omega)
    · rw [if_neg c]
      refine ⟨fun h => ?_, fun h => absurd (h 0 (by omega)) c⟩
      split at h <;> cases h
/-- one letter more behind -/
theorem cp_snoc {T : Nat → Nat} {n : Nat} : ∀ m Q p, cp T n (m + 1) Q p = if cp T n m Q p = 1 then (if tz T n (p + m) = Q m then 1 else if tz T n (p + m) < Q m then 0 else 2) else cp T n m Q p
  | 0, Q, p => by
    show (if tz T n p = Q 0 then 1 else if tz T n p < Q 0 then 0 else 2) = _
    rw [if_pos (show cp T n 0 Q p = 1 from rfl)]
    rfl
  | m + 1, Q, p => by
    rw [show cp T n (m + 1 + 1) Q p = (if tz T n p = Q 0 then cp T n (m + 1) (fun k => Q (k + 1)) (p + 1) else if tz T n p < Q 0 then 0 else 2) from rfl, show cp T n (m + 1) Q p = (if tz T n p = Q 0 then cp T n m (fun k => Q (k + 1)) (p + 1) else if tz T n p < Q 0 then 0 else 2) from rfl]
    by_cases c : tz T n p = Q 0
    · rw [if_pos c, if_pos c, cp_snoc m _ (p + 1), show p + 1 + m = p + (m + 1) by omega]
    · rw [if_neg c, if_neg c]
      by_cases q : tz T n p < Q 0
      · rw [if_pos q, if_neg (by decide)]
      · rw [if_neg q, if_neg (by decide)]
/-- who is ahead of one that is ahead of the pattern, is ahead of it too -/
theorem cp_down {T : Nat → Nat} {n : Nat} (hT : tx_ok T n) : ∀ m (Q : Nat → Nat) p q, (∀ k, k < m → 0 < Q k) → p ≤ n → q ≤ n → sl T n p q = true → cp T n m Q p ≤ cp T n m Q q
  | 0, _, _, _, _, _, _, _ => Nat.le_refl _
  | m + 1, Q, p, q, hQ, hp, hq, h => by
    have hQ0 := hQ 0 (by omega)
    unfold cp
    rw [tz_le hT hp, tz_le hT hq]
    by_cases e : T p = T q
    · by_cases c : p < n ∧ q < n
      · rw [e]
        rw [sl_rec c.1 c.2 e] at h
        have ih := cp_down hT m (fun k => Q (k + 1)) (p + 1) (q + 1) (fun k hk => hQ (k + 1) (by omega)) (by omega) (by omega) h
        split
        · exact ih
        · exact Nat.le_refl _
      · have h0 : T p = 0 ∧ T q = 0 := by
          rcases Nat.lt_or_ge p n with c1 | c1
          · have e2 : q = n := by omega
            rw [e, e2]; exact ⟨hT.1, hT.1⟩
          · have e2 : p = n := by omega
            rw [← e, e2]; exact ⟨hT.1, hT.1⟩
        rw [h0.1, h0.2, if_neg (by omega), if_pos hQ0]
        exact Nat.zero_le _
    · rw [sl_lt e] at h
      have h := of_decide_eq_true h
      by_cases c1 : T p = Q 0
      · rw [if_pos c1, if_neg (by omega), if_neg (by omega)]
        have := cp_lt3 T n m (fun k => Q (k + 1)) (p + 1)
        omega
      · rw [if_neg c1]
        by_cases c2 : T p < Q 0
        · rw [if_pos c2]; exact Nat.zero_le _
        · rw [if_neg c2, if_neg (by omega), if_neg (by omega)]
          exact Nat.le_refl _
/-- a set of places that goes down with the order is the rows below its number -/
theorem ct_down {T : Nat → Nat} {n : Nat} (hT : tx_ok T n) {F : Nat → Bool} (hF : ∀ p q, p ≤ n → q ≤ n → sl T n p q = true → F q = true → F p = true) {p : Nat} (hp : p ≤ n) : F p = true ↔ rk T n p < ct F (n + 1) := by
  have hrk : ∀ q, q ≤ n → rk T n q = ct (fun i => sl T n i q) (n + 1) := fun q hq => ct_congr (n + 1) (fun i _ => by rw [show (sf 0 i) = true from decide_eq_true (Nat.zero_le _), Bool.true_and])
  refine ⟨fun h => ?_, fun h => ?_⟩
  · rw [hrk p hp]
    exact ct_lt (n + 1) (fun i hi h1 => hF i p (by omega) hp h1 h) p (by omega) (sl_self T n p) h
  · cases hf : F p with
    | true => rfl
    | false =>
      exfalso
      rw [hrk p hp] at h
      have : ct F (n + 1) ≤ ct (fun i => sl T n i p) (n + 1) := ct_sub (n + 1) (fun i hi h1 => by
        cases hs : sl T n i p with
        | true => rfl
        | false =>
          by_cases e : i = p
          · subst e; rw [hf] at h1; cases h1
          · have h2 := sl_or hT hp (show i ≤ n by omega) (fun z => e z.symm)
            rw [hs] at h2
            have := hF p i hp (by omega) h2 h1
            rw [hf] at this; cases this)
      omega
theorem lo_iff {T : Nat → Nat} {n m : Nat} {Q : Nat → Nat} (hT : tx_ok T n) (hQ : ∀ k, k < m → 0 < Q k) {p : Nat} (hp : p ≤ n) : cp T n m Q p = 0 ↔ rk T n p < LO T n m Q := by
  have h := ct_down hT (F := fun p => decide (cp T n m Q p = 0)) (fun a b ha hb hs h1 => decide_eq_true (by
    have h2 := cp_down hT m Q a b hQ ha hb hs
    have h3 := of_decide_eq_true h1
    omega)) hp
  rw [decide_eq_true_eq] at h
  exact h
theorem lo_sz {T : Nat → Nat} {n m : Nat} {Q : Nat → Nat} : LO T n m Q + SZ T n m Q = ct (fun p => decide (cp T n m Q p ≤ 1)) (n + 1) := by
  symm
  refine ct_add (n + 1) (fun i _ => ?_)
  by_cases c : cp T n m Q i = 0
  · rw [c]; rfl
  · by_cases c1 : cp T n m Q i = 1
    · rw [c1]; rfl
    · rw [if_neg (by rw [decide_eq_false (by omega)]; decide), if_neg (by rw [decide_eq_false c]; decide), if_neg (by rw [decide_eq_false c1]; decide)]
theorem hi_iff {T : Nat → Nat} {n m : Nat} {Q : Nat → Nat} (hT : tx_ok T n) (hQ : ∀ k, k < m → 0 < Q k) {p : Nat} (hp : p ≤ n) : cp T n m Q p ≤ 1 ↔ rk T n p < LO T n m Q + SZ T n m Q := by
  have h := ct_down hT (F := fun p => decide (cp T n m Q p ≤ 1)) (fun a b ha hb hs h1 => decide_eq_true (by
    have h2 := cp_down hT m Q a b hQ ha hb hs
    have h3 := of_decide_eq_true h1
    omega)) hp
  rw [decide_eq_true_eq, ← lo_sz] at h
  exact h
theorem lo_le {T : Nat → Nat} {n m : Nat} {Q : Nat → Nat} : LO T n m Q + SZ T n m Q ≤ n + 1 := by rw [lo_sz]; exact ct_le _ _
/-- a letter ahead of the pattern -/
def cons (c : Nat) (Q : Nat → Nat) : Nat → Nat := fun k => match k with
  | 0 => c
  | k + 1 => Q k
/-- counting places by what stands before them -/
theorem ct_shift (F : Nat → Bool) : ∀ n, ct F (n + 1) = (if F 0 then 1 else 0) + ct (fun i => F (i + 1)) n
  | 0 => by show 0 + (if F 0 = true then 1 else 0) = _ + 0; omega
  | n + 1 => by
    show ct F (n + 1) + (if F (n + 1) = true then 1 else 0) = _ + (ct (fun i => F (i + 1)) n + (if F (n + 1) = true then 1 else 0))
    rw [ct_shift F n]
    omega
/-- one letter more in front: from places to what stands before them -/
theorem lo_cons_places {T : Nat → Nat} {n m c : Nat} {Q : Nat → Nat} (hT : tx_ok T n) (hc : 0 < c) (v : Nat) (hv : v < 2) : ct (fun p => decide (cp T n (m + 1) (cons c Q) p ≤ v)) (n + 1) = ct (fun p => decide (bf T p < c)) (n + 1) + ct (fun p => decide (bf T p = c) && decide (cp T n m Q p ≤ v)) (n + 1) := by
  rw [ct_shift (fun p => decide (bf T p < c)) n, ct_shift (fun p => decide (bf T p = c) && decide (cp T n m Q p ≤ v)) n]
  have hb0 : bf T 0 = 0 := rfl
  rw [hb0, if_pos (decide_eq_true hc), decide_eq_false (show ¬ 0 = c by omega), Bool.false_and, if_neg (by decide)]
  show ct (fun p => decide (cp T n (m + 1) (cons c Q) p ≤ v)) n + (if decide (cp T n (m + 1) (cons c Q) n ≤ v) = true then 1 else 0) = _
  have hn0 : cp T n (m + 1) (cons c Q) n = 0 := by
    show (if tz T n n = c then _ else if tz T n n < c then 0 else 2) = 0
    rw [tz_le hT (Nat.le_refl _), hT.1, if_neg (by omega), if_pos hc]
  rw [hn0, if_pos (decide_eq_true (Nat.zero_le _))]
  have h := ct_add (P := fun i => decide (bf T (i + 1) < c)) (Q := fun i => decide (bf T (i + 1) = c) && decide (cp T n m Q (i + 1) ≤ v)) (R := fun p => decide (cp T n (m + 1) (cons c Q) p ≤ v)) n (fun i hi => by
    have e1 : bf T (i + 1) = T i := rfl
    have e2 : cp T n (m + 1) (cons c Q) i = (if T i = c then cp T n m Q (i + 1) else if T i < c then 0 else 2) := by
      show (if tz T n i = c then cp T n m (fun k => cons c Q (k + 1)) (i + 1) else if tz T n i < c then 0 else 2) = _
      rw [tz_le hT (by omega)]
      rfl
    rw [e2, e1]
    by_cases a : T i = c
    · rw [if_pos a, decide_eq_false (show ¬ T i < c by omega), decide_eq_true a, Bool.true_and]
      simp
    · rw [if_neg a, decide_eq_false a, Bool.false_and]
      by_cases b : T i < c
      · rw [if_pos b, decide_eq_true b, decide_eq_true (Nat.zero_le _)]; simp
      · rw [if_neg b, decide_eq_false b, decide_eq_false (by omega)]; simp)
  rw [h]
  omega
theorem sc_all {T : Nat → Nat} {n s : Nat} (hT : tx_ok T n) : sc T n (n + 1) s = ct (fun p => decide (bf T p < s)) (n + 1) := by
  unfold sc
  rw [← ct_rows hT (fun p => decide (bf T p < s)) (n + 1) (Nat.le_refl _)]
  exact ct_congr _ (fun i hi => by rw [decide_eq_true (rk_lt (by omega)), Bool.true_and])
theorem scn_eq {T : Nat → Nat} {n r c : Nat} (hT : tx_ok T n) (hr : r ≤ n + 1) : sc T n r (c + 1) = sc T n r c + ct (fun p => decide (rk T n p < r) && decide (bf T p = c)) (n + 1) := by
  rw [ct_rows hT (fun p => decide (bf T p = c)) r hr]
  unfold sc
  exact ct_add r (fun i _ => by
    by_cases a : bf T (pa T n i) < c
    · rw [decide_eq_true a, decide_eq_true (by omega), decide_eq_false (by omega)]; rfl
    · by_cases b : bf T (pa T n i) = c
      · rw [decide_eq_false a, decide_eq_true (by omega), decide_eq_true b]; rfl
      · rw [decide_eq_false a, decide_eq_false (by omega), decide_eq_false b]; rfl)
/-- where the rows of a letter ahead of a pattern begin, and end -/
theorem lo_cons {T : Nat → Nat} {n m c : Nat} {Q : Nat → Nat} (hT : tx_ok T n) (hc : 0 < c) (hQ : ∀ k, k < m → 0 < Q k) : LO T n (m + 1) (cons c Q) + sc T n (LO T n m Q) c = sc T n (n + 1) c + sc T n (LO T n m Q) (c + 1) := by
  have h := lo_cons_places (m := m) (Q := Q) hT hc 0 (by decide)
  have e0 : LO T n (m + 1) (cons c Q) = ct (fun p => decide (cp T n (m + 1) (cons c Q) p ≤ 0)) (n + 1) := ct_congr _ (fun i _ => by
    by_cases a : cp T n (m + 1) (cons c Q) i = 0
    · rw [decide_eq_true a, decide_eq_true (by omega)]
    · rw [decide_eq_false a, decide_eq_false (by omega)])
  have hle : LO T n m Q ≤ n + 1 := ct_le _ _
  rw [e0, h, sc_all hT, scn_eq hT hle]
  have e1 : ct (fun p => decide (bf T p = c) && decide (cp T n m Q p ≤ 0)) (n + 1) = ct (fun p => decide (rk T n p < LO T n m Q) && decide (bf T p = c)) (n + 1) := ct_congr _ (fun i hi => by
    have h2 := lo_iff (m := m) (Q := Q) hT hQ (p := i) (by omega)
    rw [Bool.and_comm]
    by_cases a : cp T n m Q i = 0
    · rw [decide_eq_true (show cp T n m Q i ≤ 0 by omega), decide_eq_true (h2.mp a)]
    · rw [decide_eq_false (show ¬ cp T n m Q i ≤ 0 by omega), decide_eq_false (fun z => a (h2.mpr z))])
  rw [e1]
  omega
theorem hi_cons {T : Nat → Nat} {n m c : Nat} {Q : Nat → Nat} (hT : tx_ok T n) (hc : 0 < c) (hQ : ∀ k, k < m → 0 < Q k) : LO T n (m + 1) (cons c Q) + SZ T n (m + 1) (cons c Q) + sc T n (LO T n m Q + SZ T n m Q) c = sc T n (n + 1) c + sc T n (LO T n m Q + SZ T n m Q) (c + 1) := by
  have h := lo_cons_places (m := m) (Q := Q) hT hc 1 (by decide)
  have hle : LO T n m Q + SZ T n m Q ≤ n + 1 := lo_le
  rw [lo_sz, h, sc_all hT, scn_eq hT hle]
  have e1 : ct (fun p => decide (bf T p = c) && decide (cp T n m Q p ≤ 1)) (n + 1) = ct (fun p => decide (rk T n p < LO T n m Q + SZ T n m Q) && decide (bf T p = c)) (n + 1) := ct_congr _ (fun i hi => by
    have h2 := hi_iff (m := m) (Q := Q) hT hQ (p := i) (by omega)
    rw [Bool.and_comm]
    by_cases a : cp T n m Q i ≤ 1
    · rw [decide_eq_true a, decide_eq_true (h2.mp a)]
    · rw [decide_eq_false a, decide_eq_false (fun z => a (h2.mpr z))])
  rw [e1]
  omega
