/-! ===== both ends: a pattern forth, and the same read backwards ===== -/
theorem ct_cut {F : Nat → Bool} {k : Nat} : ∀ n, k ≤ n → (∀ i, k ≤ i → i < n → F i = false) → ct F n = ct F k
  | 0, h, _ => by rw [show k = 0 by omega]
  | n + 1, h, hf => by
    by_cases e : k = n + 1
    · rw [e]
    · show ct F n + _ = _
      rw [ct_cut n (by omega) (fun i h1 h2 => hf i h1 (by omega)), hf n (by omega) (by omega)]
      rfl
theorem ct_rev (F : Nat → Bool) : ∀ k, ct (fun i => F (k - 1 - i)) k = ct F k
  | 0 => rfl
  | k + 1 => by
    rw [ct_shift (fun i => F (k + 1 - 1 - i)) k]
    show _ = ct F k + (if F k = true then 1 else 0)
    rw [← ct_rev F k, show k + 1 - 1 - 0 = k by omega]
    have : ct (fun i => F (k + 1 - 1 - (i + 1))) k = ct (fun i => F (k - 1 - i)) k := ct_congr k (fun i _ => by rw [show k + 1 - 1 - (i + 1) = k - 1 - i by omega])
    rw [this]
    omega
/-- the pattern backwards -/
def rq (m : Nat) (Q : Nat → Nat) : Nat → Nat := fun k => Q (m - 1 - k)
theorem cp_fit {T : Nat → Nat} {n m : Nat} {Q : Nat → Nat} {p : Nat} (hQ : ∀ k, k < m → 0 < Q k) (h : cp T n m Q p = 1) (hp : p ≤ n) : p + m ≤ n := by
  rcases Nat.eq_zero_or_pos m with c | c
  · omega
  · have h1 := (cp_one m Q p).mp h (m - 1) (by omega)
    have h2 := hQ (m - 1) (by omega)
    unfold tz at h1
    by_cases e : p + (m - 1) < n
    · omega
    · rw [if_neg e] at h1; omega
theorem rv_rv {T : Nat → Nat} {n i : Nat} (hT : tx_ok T n) (hi : i ≤ n) : rv (rv T n) n i = T i := by
  unfold rv
  by_cases c : i < n
  · rw [if_pos c, if_pos (by omega), show n - 1 - (n - 1 - i) = i by omega]
  · rw [if_neg c, show i = n by omega, hT.1]
/-- where the pattern stands forth, it stands backwards -/
theorem cp_both {T : Nat → Nat} {n m : Nat} {Q : Nat → Nat} {p : Nat} (h : p + m ≤ n) : cp (rv T n) n m (rq m Q) (n - m - p) = 1 ↔ cp T n m Q p = 1 := by
  rw [cp_one, cp_one]
  have key : ∀ k, k < m → tz (rv T n) n (n - m - p + k) = tz T n (p + (m - 1 - k)) := fun k hk => by
    unfold tz rv
    rw [if_pos (by omega), if_pos (by omega), if_pos (by omega), show n - 1 - (n - m - p + k) = p + (m - 1 - k) by omega]
  refine ⟨fun h1 k hk => ?_, fun h1 k hk => ?_⟩
  · have h2 := h1 (m - 1 - k) (by omega)
    rw [key _ (by omega), show m - 1 - (m - 1 - k) = k by omega] at h2
    unfold rq at h2
    rw [show m - 1 - (m - 1 - k) = k by omega] at h2
    exact h2
  · rw [key k hk]
    exact h1 (m - 1 - k) (by omega)
theorem ct_both {T : Nat → Nat} {n m : Nat} {Q : Nat → Nat} (hQ : ∀ k, k < m → 0 < Q k) (G G' : Nat → Bool) (hG : ∀ p, p + m ≤ n → G p = G' (n - m - p)) : ct (fun p => decide (cp T n m Q p = 1) && G p) (n + 1) = ct (fun p => decide (cp (rv T n) n m (rq m Q) p = 1) && G' p) (n + 1) := by
  have hR : ∀ k, k < m → 0 < rq m Q k := fun k hk => hQ _ (by omega)
  rcases Nat.lt_or_ge n m with c | c
  · rw [ct_zero (n + 1) (fun i hi => ?_), ct_zero (n + 1) (fun i hi => ?_)]
    · rw [decide_eq_false (fun z => by have := cp_fit hR z (by omega); omega), Bool.false_and]
    · rw [decide_eq_false (fun z => by have := cp_fit hQ z (by omega); omega), Bool.false_and]
  · rw [ct_cut (k := n - m + 1) (n + 1) (by omega) (fun i h1 h2 => by rw [decide_eq_false (fun z => by have := cp_fit hQ z (by omega); omega), Bool.false_and]), ct_cut (F := fun p => decide (cp (rv T n) n m (rq m Q) p = 1) && G' p) (k := n - m + 1) (n + 1) (by omega) (fun i h1 h2 => by rw [decide_eq_false (fun z => by have := cp_fit hR z (by omega); omega), Bool.false_and]), ← ct_rev _ (n - m + 1)]
    refine ct_congr _ (fun i hi => ?_)
    have e : n - m + 1 - 1 - i = n - m - i := by omega
    show (decide (cp T n m Q (n - m + 1 - 1 - i) = 1) && G (n - m + 1 - 1 - i)) = _
    rw [e, hG _ (by omega), show n - m - (n - m - i) = i by omega]
    have h3 := cp_both (T := T) (n := n) (m := m) (Q := Q) (p := n - m - i) (by omega)
    rw [show n - m - (n - m - i) = i by omega] at h3
    by_cases a : cp T n m Q (n - m - i) = 1
    · rw [decide_eq_true a, decide_eq_true (h3.mpr a)]
    · rw [decide_eq_false a, decide_eq_false (fun z => a (h3.mp z))]
theorem sz_both {T : Nat → Nat} {n m : Nat} {Q : Nat → Nat} (hQ : ∀ k, k < m → 0 < Q k) : SZ (rv T n) n m (rq m Q) = SZ T n m Q := by
  have h := ct_both (T := T) (n := n) hQ (fun _ => true) (fun _ => true) (fun _ _ => rfl)
  simp only [Bool.and_true] at h
  exact h.symm
/-- rows of a span whose sign before is below s -/
theorem sc_span {T : Nat → Nat} {n m s : Nat} {Q : Nat → Nat} (hT : tx_ok T n) (hQ : ∀ k, k < m → 0 < Q k) : sc T n (LO T n m Q + SZ T n m Q) s = sc T n (LO T n m Q) s + ct (fun p => decide (cp T n m Q p = 1) && decide (bf T p < s)) (n + 1) := by
  have h1 : LO T n m Q + SZ T n m Q ≤ n + 1 := lo_le
  unfold sc
  rw [← ct_rows hT (fun p => decide (bf T p < s)) _ h1, ← ct_rows hT (fun p => decide (bf T p < s)) (LO T n m Q) (by omega)]
  refine ct_add (n + 1) (fun i hi => ?_)
  have a1 := lo_iff (m := m) (Q := Q) hT hQ (p := i) (by omega)
  have a2 := hi_iff (m := m) (Q := Q) hT hQ (p := i) (by omega)
  by_cases c : bf T i < s
  · rw [decide_eq_true c, Bool.and_true, Bool.and_true, Bool.and_true]
    by_cases c0 : cp T n m Q i = 0
    · rw [decide_eq_true (a1.mp c0), decide_eq_true (a2.mp (by omega)), decide_eq_false (by omega)]; rfl
    · by_cases c1 : cp T n m Q i = 1
      · rw [decide_eq_false (fun z => c0 (a1.mpr z)), decide_eq_true (a2.mp (by omega)), decide_eq_true c1]; rfl
      · rw [decide_eq_false (fun z => c0 (a1.mpr z)), decide_eq_false (fun z => by have := a2.mpr z; omega), decide_eq_false c1]; rfl
  · rw [decide_eq_false c, Bool.and_false, Bool.and_false, Bool.and_false]; rfl
/-- a letter behind the pattern -/
def snoc (m : Nat) (Q : Nat → Nat) (c : Nat) : Nat → Nat := fun k => if k = m then c else Q k
theorem lo_snoc {T : Nat → Nat} {n m c : Nat} {Q : Nat → Nat} (hT : tx_ok T n) (hQ : ∀ k, k < m → 0 < Q k) : LO T n (m + 1) (snoc m Q c) + sc (rv T n) n (LO (rv T n) n m (rq m Q)) c = LO T n m Q + sc (rv T n) n (LO (rv T n) n m (rq m Q) + SZ (rv T n) n m (rq m Q)) c := by
  have hU := rv_ok hT
  have hR : ∀ k, k < m → 0 < rq m Q k := fun k hk => hQ _ (by omega)
  rw [sc_span hU hR, ← ct_both (T := T) (n := n) hQ (fun p => decide (tz T n (p + m) < c)) (fun p => decide (bf (rv T n) p < c)) (fun p hp => by
    have e : bf (rv T n) (n - m - p) = tz T n (p + m) := by
      unfold bf tz rv
      by_cases a : n - m - p = 0
      · rw [if_pos a, if_neg (by omega)]
      · rw [if_neg a, if_pos (by omega), if_pos (by omega), show n - 1 - (n - m - p - 1) = p + m by omega]
    rw [e])]
  have h := ct_add (P := fun p => decide (cp T n m Q p = 0)) (Q := fun p => decide (cp T n m Q p = 1) && decide (tz T n (p + m) < c)) (R := fun p => decide (cp T n (m + 1) (snoc m Q c) p = 0)) (n + 1) (fun i _ => by
    rw [cp_snoc m (snoc m Q c) i, cp_cong m (snoc m Q c) Q i (fun k hk => by unfold snoc; rw [if_neg (by omega)]), show snoc m Q c m = c from if_pos rfl]
    by_cases c1 : cp T n m Q i = 1
    · rw [if_pos c1, decide_eq_true c1, c1]
      by_cases a : tz T n (i + m) = c
      · rw [if_pos a, decide_eq_false (show ¬ tz T n (i + m) < c by omega)]; rfl
      · rw [if_neg a]
        by_cases b : tz T n (i + m) < c
        · rw [if_pos b, decide_eq_true b]; rfl
        · rw [if_neg b, decide_eq_false b]; rfl
    · rw [if_neg c1, decide_eq_false c1, Bool.false_and]; simp)
  show ct _ (n + 1) + _ = ct _ (n + 1) + _
  rw [h]
  omega
theorem rq_snoc {m c : Nat} {Q : Nat → Nat} {k : Nat} (hk : k < m + 1) : rq (m + 1) (snoc m Q c) k = cons c (rq m Q) k := by
  unfold rq snoc cons
  match k with
  | 0 => rw [if_pos (by omega)]
  | k + 1 => rw [if_neg (by omega)]; show Q _ = Q _; rw [show m + 1 - 1 - (k + 1) = m - 1 - k by omega]
theorem rq_cons {m c : Nat} {Q : Nat → Nat} {k : Nat} (hk : k < m + 1) : rq (m + 1) (cons c Q) k = snoc m (rq m Q) c k := by
  unfold rq snoc
  by_cases e : k = m
  · subst e
    rw [if_pos rfl, show k + 1 - 1 - k = 0 by omega]
    rfl
  · rw [if_neg e, show m + 1 - 1 - k = (m - 1 - k) + 1 by omega]
    rfl
theorem lo_cong {T : Nat → Nat} {n m : Nat} {Q Q' : Nat → Nat} (h : ∀ k, k < m → Q k = Q' k) : LO T n m Q = LO T n m Q' := ct_congr _ (fun i _ => by rw [cp_cong m Q Q' i h])
theorem sz_cong {T : Nat → Nat} {n m : Nat} {Q Q' : Nat → Nat} (h : ∀ k, k < m → Q k = Q' k) : SZ T n m Q = SZ T n m Q' := ct_congr _ (fun i _ => by rw [cp_cong m Q Q' i h])
theorem tz_rv {T : Nat → Nat} {n : Nat} (hT : tx_ok T n) (i : Nat) : tz (rv (rv T n) n) n i = tz T n i := by
  unfold tz
  by_cases c : i < n
  · rw [if_pos c, if_pos c, rv_rv hT (by omega)]
  · rw [if_neg c, if_neg c]
theorem cp_rv {T : Nat → Nat} {n : Nat} (hT : tx_ok T n) : ∀ m Q p, cp (rv (rv T n) n) n m Q p = cp T n m Q p
  | 0, _, _ => rfl
  | m + 1, Q, p => by unfold cp; rw [tz_rv hT, cp_rv hT m]
theorem rq_rq {m : Nat} {Q : Nat → Nat} {k : Nat} (hk : k < m) : rq m (rq m Q) k = Q k := by
  unfold rq
  rw [show m - 1 - (m - 1 - k) = k by omega]
/-- the other side's beginning, when a letter comes in front -/
theorem lo_cons_back {T : Nat → Nat} {n m c : Nat} {Q : Nat → Nat} (hT : tx_ok T n) (hQ : ∀ k, k < m → 0 < Q k) : LO (rv T n) n (m + 1) (rq (m + 1) (cons c Q)) + sc T n (LO T n m Q) c = LO (rv T n) n m (rq m Q) + sc T n (LO T n m Q + SZ T n m Q) c := by
  have hR : ∀ k, k < m → 0 < rq m Q k := fun k hk => hQ _ (by omega)
  have hU := rv_ok hT
  rw [lo_cong (fun k hk => rq_cons (m := m) (c := c) (Q := Q) hk), sc_span hT hQ]
  have h := ct_add (P := fun p => decide (cp (rv T n) n m (rq m Q) p = 0)) (Q := fun p => decide (cp (rv T n) n m (rq m Q) p = 1) && decide (tz (rv T n) n (p + m) < c)) (R := fun p => decide (cp (rv T n) n (m + 1) (snoc m (rq m Q) c) p = 0)) (n + 1) (fun i _ => by
    rw [cp_snoc m (snoc m (rq m Q) c) i, cp_cong m (snoc m (rq m Q) c) (rq m Q) i (fun k hk => by unfold snoc; rw [if_neg (by omega)]), show snoc m (rq m Q) c m = c from if_pos rfl]
    by_cases c1 : cp (rv T n) n m (rq m Q) i = 1
    · rw [if_pos c1, decide_eq_true c1, c1]
      by_cases a : tz (rv T n) n (i + m) = c
      · rw [if_pos a, decide_eq_false (show ¬ tz (rv T n) n (i + m) < c by omega)]; rfl
      · rw [if_neg a]
        by_cases b : tz (rv T n) n (i + m) < c
        · rw [if_pos b, decide_eq_true b]; rfl
        · rw [if_neg b, decide_eq_false b]; rfl
    · rw [if_neg c1, decide_eq_false c1, Bool.false_and]; simp)
  have h2 := ct_both (T := T) (n := n) hQ (fun p => decide (bf T p < c)) (fun p => decide (tz (rv T n) n (p + m) < c)) (fun p hp => by
    have e : tz (rv T n) n (n - m - p + m) = bf T p := by
      unfold bf tz rv
      by_cases a : p = 0
      · rw [if_pos a, if_neg (by omega)]
      · rw [if_neg a, if_pos (by omega), if_pos (by omega), show n - 1 - (n - m - p + m) = p - 1 by omega]
    rw [e])
  show ct _ (n + 1) + _ = ct _ (n + 1) + _
  rw [h, h2]
  omega
