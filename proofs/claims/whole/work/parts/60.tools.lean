/-! ===== loops whose states are told; numbers ===== -/
theorem lp_to {σ ρ : Type} {b : σ → Option (σ ⊕ ρ)} (st : Nat → σ) {a N : Nat} {r : ρ} (ha : a ≤ N) (hN : N < 5000 + a) (step : ∀ x, a ≤ x → x < N → b (st x) = some (.inl (st (x + 1)))) (fin : b (st N) = some (.inr r)) : me_l b me_fu (st a) = some r := by
  have h : ∀ k fu, a + k ≤ N → N - (a + k) < fu → me_l b fu (st (a + k)) = some r := by
    intro k fu
    induction fu generalizing k with
    | zero => intro _ h; exact absurd h (Nat.not_lt_zero _)
    | succ fu ih =>
      intro h1 h2
      by_cases e : a + k = N
      · rw [e]; simp only [me_l, fin]
      · simp only [me_l, step (a + k) (by omega) (by omega)]
        exact ih (k + 1) (by omega) (by omega)
  exact h 0 me_fu (by omega) (by unfold me_fu; omega)
theorem lp_dn {σ ρ : Type} {b : σ → Option (σ ⊕ ρ)} (st : Nat → σ) {N : Nat} {r : ρ} (hN : N < 5000) (step : ∀ x, x < N → b (st (x + 1)) = some (.inl (st x))) (fin : b (st 0) = some (.inr r)) : me_l b me_fu (st N) = some r := by
  have h : ∀ k fu, k ≤ N → k < fu → me_l b fu (st k) = some r := by
    intro k fu
    induction fu generalizing k with
    | zero => intro _ h; exact absurd h (Nat.not_lt_zero _)
    | succ fu ih =>
      intro h1 h2
      match k with
      | 0 => simp only [me_l, fin]
      | k + 1 => simp only [me_l, step k (by omega)]; exact ih k (by omega) (by omega)
  exact h N me_fu (Nat.le_refl _) (by unfold me_fu; omega)
/-- a loop that goes up, by relation -/
theorem lp_up {σ ρ : Type} {b : σ → Option (σ ⊕ ρ)} (I : Nat → σ → Prop) (Qx : ρ → Prop) {a N : Nat} (ha : a ≤ N) (hN : N < 5000 + a) (step : ∀ x s, a ≤ x → x < N → I x s → (∃ s', b s = some (.inl s') ∧ I (x + 1) s') ∨ (∃ r, b s = some (.inr r) ∧ Qx r)) (fin : ∀ s, I N s → ∃ r, b s = some (.inr r) ∧ Qx r) {s0 : σ} (h0 : I a s0) : ∃ r, me_l b me_fu s0 = some r ∧ Qx r := by
  have h : ∀ fu k s, a + k ≤ N → N - (a + k) < fu → I (a + k) s → ∃ r, me_l b fu s = some r ∧ Qx r := by
    intro fu
    induction fu with
    | zero => intro _ _ _ h; exact absurd h (Nat.not_lt_zero _)
    | succ fu ih =>
      intro k s h1 h2 hI
      by_cases e : a + k = N
      · rw [e] at hI
        obtain ⟨r, h3, h4⟩ := fin s hI
        exact ⟨r, by simp only [me_l, h3], h4⟩
      · rcases step (a + k) s (by omega) (by omega) hI with ⟨s', h3, h4⟩ | ⟨r, h3, h4⟩
        · obtain ⟨r, h5, h6⟩ := ih (k + 1) s' (by omega) (by omega) h4
          exact ⟨r, by simp only [me_l, h3]; exact h5, h6⟩
        · exact ⟨r, by simp only [me_l, h3], h4⟩
  exact h me_fu 0 s0 (by omega) (by unfold me_fu; omega) h0
/-- a loop that goes down, by relation -/
theorem lp_down {σ ρ : Type} {b : σ → Option (σ ⊕ ρ)} (I : Nat → σ → Prop) (Qx : ρ → Prop) {N : Nat} (hN : N < 5000) (step : ∀ x s, x < N → I (x + 1) s → (∃ s', b s = some (.inl s') ∧ I x s') ∨ (∃ r, b s = some (.inr r) ∧ Qx r)) (fin : ∀ s, I 0 s → ∃ r, b s = some (.inr r) ∧ Qx r) {s0 : σ} (h0 : I N s0) : ∃ r, me_l b me_fu s0 = some r ∧ Qx r := by
  have h : ∀ fu k s, k ≤ N → k < fu → I k s → ∃ r, me_l b fu s = some r ∧ Qx r := by
    intro fu
    induction fu with
    | zero => intro _ _ _ h; exact absurd h (Nat.not_lt_zero _)
    | succ fu ih =>
      intro k s h1 h2 hI
      match k, hI with
      | 0, hI =>
        obtain ⟨r, h3, h4⟩ := fin s hI
        exact ⟨r, by simp only [me_l, h3], h4⟩
      | k + 1, hI =>
        rcases step k s (by omega) hI with ⟨s', h3, h4⟩ | ⟨r, h3, h4⟩
        · obtain ⟨r, h5, h6⟩ := ih k s' (by omega) (by omega) h4
          exact ⟨r, by simp only [me_l, h3]; exact h5, h6⟩
        · exact ⟨r, by simp only [me_l, h3], h4⟩
  exact h me_fu N s0 (Nat.le_refl _) (by unfold me_fu; omega) h0
theorem li0 : (0 : Int32) = nI 0 := by decide
theorem li1 : (1 : Int32) = nI 1 := by decide
theorem li2 : (2 : Int32) = nI 2 := by decide
theorem li3 : (3 : Int32) = nI 3 := by decide
theorem li4 : (4 : Int32) = nI 4 := by decide
theorem li5 : (5 : Int32) = nI 5 := by decide
theorem li6 : (6 : Int32) = nI 6 := by decide
theorem li7 : (7 : Int32) = nI 7 := by decide
theorem li8 : (8 : Int32) = nI 8 := by decide
theorem li9 : (9 : Int32) = nI 9 := by decide
theorem li10 : (10 : Int32) = nI 10 := by decide
theorem li12 : (12 : Int32) = nI 12 := by decide
theorem li16 : (16 : Int32) = nI 16 := by decide
theorem li20 : (20 : Int32) = nI 20 := by decide
theorem li24 : (24 : Int32) = nI 24 := by decide
theorem li25 : (25 : Int32) = nI 25 := by decide
theorem li31 : (31 : Int32) = nI 31 := by decide
theorem li32 : (32 : Int32) = nI 32 := by decide
theorem li40 : (40 : Int32) = nI 40 := by decide
theorem li41 : (41 : Int32) = nI 41 := by decide
theorem li42 : (42 : Int32) = nI 42 := by decide
theorem li48 : (48 : Int32) = nI 48 := by decide
theorem li57 : (57 : Int32) = nI 57 := by decide
theorem li59 : (59 : Int32) = nI 59 := by decide
theorem li97 : (97 : Int32) = nI 97 := by decide
theorem li104 : (104 : Int32) = nI 104 := by decide
theorem li105 : (105 : Int32) = nI 105 := by decide
theorem li124 : (124 : Int32) = nI 124 := by decide
theorem li126 : (126 : Int32) = nI 126 := by decide
theorem li240 : (240 : Int32) = nI 240 := by decide
theorem li241 : (241 : Int32) = nI 241 := by decide
theorem nI_subc {a b : Nat} (h : b ≤ a) : nI a - nI b = nI (a - b) := nI_sub h
theorem nI_mulc (a b : Nat) : nI a * nI b = nI (a * b) := by unfold nI; rw [← Int32.ofNat_mul]
theorem nI_nm {a : Nat} (h : 1 ≤ a) : nI a + -nI 1 = nI (a - 1) := by rw [← nI_sub h, Int32.sub_eq_add_neg]
theorem nI_subm {a : Nat} (h : a = 0) : nI a - nI 1 = -nI 1 := by subst h; decide +kernel
theorem nI_mt {a : Nat} (h : a < 2 ^ 31) : (-nI 1 : Int32).toInt = -1 := by decide +kernel
theorem pu_le_t {a b : Nat} (h : a ≤ b) (hb : b < 2 ^ 31) : (nI a ≤ nI b) = True := eq_true (nI_le h hb)
theorem pu_le_f {a b : Nat} (h : b < a) (hb : a < 2 ^ 31) : (nI a ≤ nI b) = False := eq_false (nI_ge h hb)
theorem pu_lt_t {a b : Nat} (h : a < b) (hb : b < 2 ^ 31) : (nI a < nI b) = True := eq_true (nI_lt h hb)
theorem pu_lt_f {a b : Nat} (h : b ≤ a) (hb : a < 2 ^ 31) : (nI a < nI b) = False := eq_false (nI_nlt h hb)
theorem pu_eq_t {a b : Nat} (h : a = b) : (nI a = nI b) = True := eq_true (by rw [h])
theorem pu_eq_f {a b : Nat} (h : a ≠ b) (ha : a < 2 ^ 31) (hb : b < 2 ^ 31) : (nI a = nI b) = False := eq_false (fun z => h ((nI_eq ha hb).mp z))
theorem nm_eq {a : Nat} (h : a < 2 ^ 31) : (nI a = -nI 1) = False := eq_false (fun z => by
  have h1 := nI_toInt h
  rw [z, nI_mt h] at h1
  omega)
theorem nm_eq2 {a : Nat} (h : a < 2 ^ 31) : (-nI 1 = nI a) = False := eq_false (fun z => by
  have := nm_eq h
  rw [z] at this
  exact this.mp rfl)
theorem nm_lt {a : Nat} (h : a < 2 ^ 31) : (-nI 1 < nI a) = True := eq_true (by rw [Int32.lt_iff_toInt_lt, nI_toInt h, nI_mt h]; omega)
theorem nm_lt2 {a : Nat} (h : a < 2 ^ 31) : (nI a < -nI 1) = False := eq_false (by rw [Int32.lt_iff_toInt_lt, nI_toInt h, nI_mt h]; omega)
theorem nm_le {a : Nat} (h : a < 2 ^ 31) : (-nI 1 ≤ nI a) = True := eq_true (by rw [Int32.le_iff_toInt_le, nI_toInt h, nI_mt h]; omega)
theorem nm_le2 {a : Nat} (h : a < 2 ^ 31) : (nI a ≤ -nI 1) = False := eq_false (by rw [Int32.le_iff_toInt_le, nI_toInt h, nI_mt h]; omega)
theorem nm_ss : (-nI 1 : Int32) - nI 0 = -nI 1 := by decide +kernel
theorem nm_sp : (-nI 1 : Int32) + nI 1 = nI 0 := by decide +kernel
theorem pu_snq {M : me_M} {a k j : Nat} {x : Int32} (h : j ≠ k) : (me_s M a k x).1 a j = M.1 a j := pu_sn h
theorem pu_neq {M : me_M} {a k b : Nat} {x : Int32} (h : b ≠ a) : (me_s M a k x).1 b = M.1 b := me_s_ne h
theorem me_s2 {M : me_M} {a k : Nat} {x : Int32} : (me_s M a k x).2 = M.2 := rfl
/-- a counter that goes down past 0 -/
def dn : Nat → Int32
  | 0 => -nI 1
  | k + 1 => nI k
theorem dn_0 : dn 0 = -nI 1 := rfl
theorem dn_s (k : Nat) : dn (k + 1) = nI k := rfl
theorem dn_p {k : Nat} : nI k + -nI 1 = dn k := by
  match k with
  | 0 => decide +kernel
  | k + 1 => rw [nI_nm (by omega)]; rfl
theorem dn_m {k : Nat} : nI k - nI 1 = dn k := by rw [Int32.sub_eq_add_neg]; exact dn_p
theorem dn_a {k : Nat} : dn k + nI 1 = nI k := by
  match k with
  | 0 => decide +kernel
  | k + 1 => rw [dn_s, nI_add]
theorem dn_z {k : Nat} : dn k + nI 0 = dn k := by rw [nI_0, Int32.add_zero]
theorem ct_s (P : Nat → Bool) (n : Nat) : ct P (n + 1) = ct P n + (if P n then 1 else 0) := rfl
