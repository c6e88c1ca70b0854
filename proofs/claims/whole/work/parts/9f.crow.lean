/-! ===== call: scheme; the class reads a row of digits ===== -/
def dd9 (F : Nat → Nat) (so p k : Nat) : Nat := bz9 F so (p + k) - 48
theorem dd9_lt {F : Nat → Nat} {so p k : Nat} (h : dg9 F so (p + k) = true) : dd9 F so p k ≤ 9 := by
  obtain ⟨c, d1, d2⟩ := dg9_lt h
  unfold dd9
  rw [bz9_lt c]; omega
/-- the k-th part may come next -/
def nx9 (d : Nat → Nat) (P k : Nat) : Prop := d k < P ∧ (∀ j, j < k → d j ≠ d k) ∧ (k = 0 ∨ ∃ j, j < k ∧ (d j = d k + 1 ∨ d j + 1 = d k))
def us9 (d : Nat → Nat) : Nat → Nat → Bool
  | 0, _ => false
  | x + 1, i => us9 d x i || decide (i = d x)
theorem us9_iff (d : Nat → Nat) (i : Nat) : ∀ x, us9 d x i = true ↔ ∃ j, j < x ∧ d j = i := by
  intro x
  induction x with
  | zero => exact ⟨fun z => (by cases z), fun ⟨j, h, _⟩ => absurd h (Nat.not_lt_zero _)⟩
  | succ x ih =>
    show (us9 d x i || decide (i = d x)) = true ↔ _
    rw [Bool.or_eq_true, ih, decide_eq_true_eq]
    constructor
    · rintro (⟨j, h1, h2⟩ | h)
      · exact ⟨j, by omega, h2⟩
      · exact ⟨x, by omega, h.symm⟩
    · rintro ⟨j, h1, h2⟩
      by_cases e : j = x
      · right; rw [← h2, e]
      · left; exact ⟨j, by omega, h2⟩
set_option maxRecDepth 100000 in
theorem nb_m : ∀ c : Fin 7, ((nI 1 <<< ((nI (c.val + 1)) &&& nI 31)) ||| ((nI 1 <<< (nI c.val &&& nI 31)) >>> (nI 1 &&& nI 31))) = nI (2 ^ (c.val + 1) + (if c.val = 0 then 0 else 2 ^ (c.val - 1))) := by decide +kernel
set_option maxRecDepth 100000 in
theorem bt_nb0 : ∀ b0 b1 b2 b3 b4 b5 b6 b7 : Bool, ∀ c : Fin 7, decide ((nI (bt (b8 b0 b1 b2 b3 b4 b5 b6 b7) 8) &&& nI (2 ^ (c.val + 1) + (if c.val = 0 then 0 else 2 ^ (c.val - 1)))) = nI 0) = !(b8 b0 b1 b2 b3 b4 b5 b6 b7 (c.val + 1) || (decide (0 < c.val) && b8 b0 b1 b2 b3 b4 b5 b6 b7 (c.val - 1))) := by decide +kernel
theorem bt_nb (P : Nat → Bool) {c : Nat} (hc : c < 7) : decide ((nI (bt P 8) &&& ((nI 1 <<< ((nI (c + 1)) &&& nI 31)) ||| ((nI 1 <<< (nI c &&& nI 31)) >>> (nI 1 &&& nI 31)))) = nI 0) = !(P (c + 1) || (decide (0 < c) && P (c - 1))) := by
  have h := bt_nb0 (P 0) (P 1) (P 2) (P 3) (P 4) (P 5) (P 6) (P 7) ⟨c, hc⟩
  rw [← bt_congr 8 (b8_of P), ← nb_m ⟨c, hc⟩] at h
  show _ = !(P (c + 1) || (decide (0 < c) && P (c - 1)))
  rw [b8_of P (c + 1) (by omega), b8_of P (c - 1) (by omega)]
  exact h
theorem bt_no {d : Nat → Nat} : nI (bt (us9 d 0) 8) = nI 0 := rfl
theorem c_canFollow {d : Nat → Nat} {P x : Nat} (hP : P ≤ 5) (hd : d x ≤ 9) (hok : ∀ j, j < x → nx9 d P j) : ∃ b : Bool, mX6_canFollow (nI (d x)) (nI (bt (us9 d x) 8)) (nI P) = some (bI b) ∧ (b = true ↔ nx9 d P x) := by
  unfold mX6_canFollow mX6_canFollow_J37
  simp only [li0, li1, li31]
  by_cases h1 : P ≤ d x
  · refine ⟨false, ?_, fun z => (by cases z), fun z => by have := z.1; omega⟩
    rw [if_pos (nI_le h1 (by omega)), bI_f]
  rw [if_neg (fun z => h1 ((nI_leI (by omega) (by omega)).mp z))]
  have ha := bt_and (us9 d x) (c := d x) (by omega)
  cases h2 : us9 d x (d x) with
  | true =>
    refine ⟨false, ?_, fun z => (by cases z), fun z => ?_⟩
    · rw [if_neg (fun z => by have := ha.mp z; rw [h2] at this; cases this), bI_f]
    · obtain ⟨j, j1, j2⟩ := (us9_iff d (d x) x).mp h2
      exact absurd j2 (z.2.1 j j1)
  | false =>
    rw [if_pos (ha.mpr h2)]
    have hne : ∀ j, j < x → d j ≠ d x := fun j hj e => by
      have := (us9_iff d (d x) x).mpr ⟨j, hj, e⟩
      rw [h2] at this; cases this
    by_cases h3 : x = 0
    · refine ⟨true, ?_, fun _ => ⟨by omega, hne, Or.inl h3⟩, fun _ => rfl⟩
      rw [h3, if_pos bt_no, bI_t]
    · have hm : ¬ nI (bt (us9 d x) 8) = nI 0 := fun z => by
        have h0 := hok 0 (by omega)
        have hb := bt_and (us9 d x) (c := d 0) (by have := h0.1; omega)
        rw [z, show nI 0 &&& (nI 1 <<< (nI (d 0) &&& nI 31)) = nI 0 by rw [nI_0]; exact Int32.zero_and] at hb
        have := hb.mp rfl
        rw [(us9_iff d (d 0) x).mpr ⟨0, by omega, rfl⟩] at this
        cases this
      rw [if_neg hm, nI_add]
      have hn := bt_nb (us9 d x) (c := d x) (by omega)
      have hiff : (us9 d x (d x + 1) || (decide (0 < d x) && us9 d x (d x - 1))) = true ↔ ∃ j, j < x ∧ (d j = d x + 1 ∨ d j + 1 = d x) := by
        rw [Bool.or_eq_true, Bool.and_eq_true, decide_eq_true_eq, us9_iff, us9_iff]
        constructor
        · rintro (⟨j, a, b⟩ | ⟨z, j, a, b⟩)
          · exact ⟨j, a, Or.inl b⟩
          · exact ⟨j, a, Or.inr (by omega)⟩
        · rintro ⟨j, a, b | b⟩
          · exact Or.inl ⟨j, a, b⟩
          · exact Or.inr ⟨by omega, j, a, by omega⟩
      cases h4 : (us9 d x (d x + 1) || (decide (0 < d x) && us9 d x (d x - 1))) with
      | true =>
        rw [h4] at hn hiff
        refine ⟨true, ?_, fun _ => ⟨by omega, hne, Or.inr (hiff.mp rfl)⟩, fun _ => rfl⟩
        rw [if_neg (of_decide_eq_false hn), bI_t]
      | false =>
        rw [h4] at hn hiff
        refine ⟨false, ?_, fun z => (by cases z), fun z => ?_⟩
        · rw [if_pos (of_decide_eq_true hn), bI_f]
        · rcases z.2.2 with z | z
          · omega
          · exact absurd (hiff.mpr z) (by decide)
