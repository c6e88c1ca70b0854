/-! ===== call: scheme; the class reads a row of digits ===== -/
def dd9 (F : Nat → Nat) (so p k : Nat) : Nat := bz9 F so (p + k) - 48
theorem dd9_lt {F : Nat → Nat} {so p k : Nat} (h : dg9 F so (p + k) = true) : dd9 F so p k ≤ 9 := by
  obtain ⟨c, d1, d2⟩ := dg9_lt h
  unfold dd9
  rw [bz9_lt c]; omega
/-- the k-th part may come next -/
def nx9 (d : Nat → Nat) (P k : Nat) : Prop := d k < P ∧ (∀ j, j < k → d j ≠ d k) ∧ (k = 0 ∨ ∃ j, j < k ∧ (d j = d k + 1 ∨ d j + 1 = d k))
def us9 (d : Nat → Nat) : Nat → Nat → Bool
  | 0, _ => false
  | x + 1, i => us9 d x i || decide (i = d x)
theorem us9_iff (d : Nat → Nat) (i : Nat) : ∀ x, us9 d x i = true ↔ ∃ j, j < x ∧ d j = i := by
  intro x
  induction x with
  | zero => exact ⟨fun z => by cases z, fun ⟨j, h, _⟩ => absurd h (Nat.not_lt_zero _)⟩
  | succ x ih =>
    show (us9 d x i || decide (i = d x)) = true ↔ _
    rw [Bool.or_eq_true, ih, decide_eq_true_eq]
    constructor
    · rintro (⟨j, h1, h2⟩ | h)
      · exact ⟨j, by omega, h2⟩
      · exact ⟨x, by omega, h.symm⟩
    · rintro ⟨j, h1, h2⟩
      by_cases e : j = x
      · right; rw [← h2, e]
      · left; exact ⟨j, by omega, h2⟩
