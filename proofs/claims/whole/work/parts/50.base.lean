/-! ===== pure part: loops, numbers, counting ===== -/
theorem me_l_ok {σ ρ : Type} {b : σ → Option (σ ⊕ ρ)} (I : σ → Prop) (μ : σ → Nat) (Qx : ρ → Prop) (step : ∀ s, I s → (∃ s', b s = some (.inl s') ∧ I s' ∧ μ s' < μ s) ∨ (∃ r, b s = some (.inr r) ∧ Qx r)) : ∀ n s, I s → μ s < n → ∃ r, me_l b n s = some r ∧ Qx r := by
  intro n
  induction n with
  | zero => intro s _ h; exact absurd h (Nat.not_lt_zero _)
  | succ n ih =>
    intro s hI hm
    rcases step s hI with ⟨s', e, hI', hlt⟩ | ⟨r, e, hq⟩
    · obtain ⟨r, e2, hq⟩ := ih s' hI' (by omega)
      exact ⟨r, by simp only [me_l, e]; exact e2, hq⟩
    · exact ⟨r, by simp only [me_l, e], hq⟩
theorem pu_r {M : me_M} {a N k : Nat} (h : k < N) (hN : N < 2 ^ 31) : me_r M a N (nI k) = some (M.1 a k) := by
  unfold me_r
  rw [if_neg (nI_in h hN), nI_clamp (by omega)]
theorem pu_t {M : me_M} {a N k : Nat} {v : Int32} (h : k < N) (hN : N < 2 ^ 31) : me_t M a N (nI k) v = some (me_s M a k v) := by
  unfold me_t
  rw [if_neg (nI_in h hN), nI_clamp (by omega)]
theorem pu_a {N b k : Nat} (h : k < N) (hN : N < 2 ^ 31) : me_a N b (nI k) = some (b + k) := by
  unfold me_a
  rw [if_neg (nI_in h hN), nI_clamp (by omega)]
theorem nI_sub {a b : Nat} (h : b ≤ a) : nI a - nI b = nI (a - b) := by
  have : nI a = nI (a - b) + nI b := by rw [nI_add, Nat.sub_add_cancel h]
  rw [this, Int32.add_sub_cancel]
theorem nI_sub1 {a : Nat} (h : 1 ≤ a) : nI a - 1 = nI (a - 1) := nI_sub h
theorem nI_m1 {a : Nat} (h : 1 ≤ a) : nI a + (-1) = nI (a - 1) := by
  rw [← nI_sub1 h, Int32.sub_eq_add_neg]
theorem nI_00 : nI 0 ≤ 0 := by decide +kernel
theorem nI_0m : nI 0 - 1 < 0 := by decide +kernel
theorem nI_lit1 : (1 : Int32) = nI 1 := by decide
/-- rows alike but those listed -/
def me_eqx (l : List Nat) (M M' : me_M) : Prop := M'.2 = M.2 ∧ ∀ b, b ∉ l → M'.1 b = M.1 b
theorem me_eqx.rf {l : List Nat} {M : me_M} : me_eqx l M M := ⟨rfl, fun _ _ => rfl⟩
theorem me_eqx.tr {l : List Nat} {M M1 M2 : me_M} (h1 : me_eqx l M M1) (h2 : me_eqx l M1 M2) : me_eqx l M M2 := ⟨h2.1.trans h1.1, fun b hb => (h2.2 b hb).trans (h1.2 b hb)⟩
theorem me_eqx.up {l l' : List Nat} {M M1 : me_M} (h1 : me_eqx l M M1) (h : ∀ x ∈ l, x ∈ l') : me_eqx l' M M1 := ⟨h1.1, fun b hb => h1.2 b (fun q => hb (h b q))⟩
theorem me_eqx.s {l : List Nat} {M : me_M} {a k : Nat} {x : Int32} (ha : a ∈ l) : me_eqx l M (me_s M a k x) := ⟨rfl, fun b hb => me_s_ne (fun e => hb (e ▸ ha))⟩
theorem pu_sg {M : me_M} {a k j : Nat} {x : Int32} : (me_s M a k x).1 a j = if j = k then x else M.1 a j := by rw [me_s_eq]; rfl
theorem pu_ss {M : me_M} {a k : Nat} {x : Int32} : (me_s M a k x).1 a k = x := by rw [me_s_eq, pk_us]
theorem pu_sn {M : me_M} {a k j : Nat} {x : Int32} (h : j ≠ k) : (me_s M a k x).1 a j = M.1 a j := by rw [me_s_eq, pk_un h]
/-- how many below n -/
def ct (P : Nat → Bool) : Nat → Nat
  | 0 => 0
  | n + 1 => ct P n + (if P n then 1 else 0)
theorem ct_le (P : Nat → Bool) : ∀ n, ct P n ≤ n
  | 0 => Nat.le_refl _
  | n + 1 => by have := ct_le P n; unfold ct; split <;> omega
theorem ct_congr {P Q : Nat → Bool} : ∀ n, (∀ i, i < n → P i = Q i) → ct P n = ct Q n
  | 0, _ => rfl
  | n + 1, h => by unfold ct; rw [ct_congr n (fun i hi => h i (by omega)), h n (by omega)]
theorem ct_sub {P Q : Nat → Bool} : ∀ n, (∀ i, i < n → P i = true → Q i = true) → ct P n ≤ ct Q n
  | 0, _ => Nat.le_refl _
  | n + 1, h => by
    have h1 := ct_sub n (fun i hi => h i (by omega))
    have h2 := h n (by omega)
    unfold ct
    by_cases hp : P n = true
    · rw [if_pos hp, if_pos (h2 hp)]; omega
    · rw [if_neg hp]; omega
theorem ct_lt {P Q : Nat → Bool} : ∀ n, (∀ i, i < n → P i = true → Q i = true) → ∀ k, k < n → P k = false → Q k = true → ct P n < ct Q n
  | 0, _, k, hk, _, _ => absurd hk (Nat.not_lt_zero _)
  | n + 1, h, k, hk, hp, hq => by
    have h1 := ct_sub n (fun i hi => h i (by omega))
    unfold ct
    by_cases e : k = n
    · subst e
      rw [hp, hq]
      simp only [if_true, Bool.false_eq_true, if_false]
      omega
    · have h3 := ct_lt n (fun i hi => h i (by omega)) k (by omega) hp hq
      have h2 := h n (by omega)
      by_cases hpn : P n = true
      · rw [if_pos hpn, if_pos (h2 hpn)]; omega
      · rw [if_neg hpn]; omega
theorem ct_add {P Q R : Nat → Bool} : ∀ n, (∀ i, i < n → (if R i then 1 else 0) = (if P i then 1 else 0) + (if Q i then 1 else 0)) → ct R n = ct P n + ct Q n
  | 0, _ => rfl
  | n + 1, h => by
    have h1 := ct_add n (fun i hi => h i (by omega))
    have h2 := h n (by omega)
    unfold ct
    omega
theorem ct_one {P : Nat → Bool} (k : Nat) : ∀ n, (∀ i, i < n → P i = true → i = k) → k < n → P k = true → ct P n = 1
  | 0, _, hk, _ => absurd hk (Nat.not_lt_zero _)
  | n + 1, h, hk, hp => by
    unfold ct
    by_cases e : k = n
    · subst e
      have h0 : ct P k = ct (fun _ => false) k := ct_congr k (fun i hi => by
        cases hq : P i with
        | false => rfl
        | true => exact absurd (h i (by omega) hq) (by omega))
      have hz : ∀ m, ct (fun _ => false) m = 0 := fun m => by
        induction m with
        | zero => rfl
        | succ m ih => unfold ct; rw [ih]; rfl
      rw [h0, hz, if_pos hp]
    · rw [ct_one k n (fun i hi => h i (by omega)) (by omega) hp]
      cases hq : P n with
      | false => rfl
      | true => exact absurd (h n (by omega) hq) (fun q => e q.symm)
theorem ct_zero {P : Nat → Bool} : ∀ n, (∀ i, i < n → P i = false) → ct P n = 0
  | 0, _ => rfl
  | n + 1, h => by unfold ct; rw [ct_zero n (fun i hi => h i (by omega)), h n (by omega)]; rfl
theorem ct_full {P : Nat → Bool} : ∀ n, (∀ i, i < n → P i = true) → ct P n = n
  | 0, _ => rfl
  | n + 1, h => by unfold ct; rw [ct_full n (fun i hi => h i (by omega)), h n (by omega)]; rfl
/-- a map of the first N numbers into themselves that takes none twice takes each -/
theorem pigeon : ∀ (N : Nat) (f : Nat → Nat), (∀ i, i < N → f i < N) → (∀ i j, i < N → j < N → f i = f j → i = j) → ∀ r, r < N → ∃ i, i < N ∧ f i = r
  | 0, _, _, _, r, hr => absurd hr (Nat.not_lt_zero _)
  | N + 1, f, h1, h2, r, hr => by
    by_cases hN : f N = r
    · exact ⟨N, by omega, hN⟩
    · have key : ∃ i, i < N ∧ (if f i = N then f N else f i) = (if r = N then f N else r) := by
        refine pigeon N (fun i => if f i = N then f N else f i) ?_ ?_ _ ?_
        · intro i hi
          show (if f i = N then f N else f i) < N
          by_cases e : f i = N
          · rw [if_pos e]
            have := h1 N (by omega)
            rcases Nat.lt_or_ge (f N) N with q | q
            · exact q
            · exact absurd (h2 i N (by omega) (by omega) (by omega)) (by omega)
          · rw [if_neg e]; have := h1 i (by omega); omega
        · intro i j hi hj
          show (if f i = N then f N else f i) = (if f j = N then f N else f j) → i = j
          intro e
          by_cases ei : f i = N <;> by_cases ej : f j = N
          · exact h2 i j (by omega) (by omega) (ei.trans ej.symm)
          · rw [if_pos ei, if_neg ej] at e
            exact absurd (h2 N j (by omega) (by omega) e) (by omega)
          · rw [if_neg ei, if_pos ej] at e
            exact absurd (h2 i N (by omega) (by omega) e) (by omega)
          · rw [if_neg ei, if_neg ej] at e
            exact h2 i j (by omega) (by omega) e
        · by_cases e : r = N
          · rw [if_pos e]
            have := h1 N (by omega)
            omega
          · rw [if_neg e]; omega
      obtain ⟨i, hi, e⟩ := key
      refine ⟨i, by omega, ?_⟩
      by_cases ei : f i = N
      · rw [if_pos ei] at e
        by_cases er : r = N
        · omega
        · rw [if_neg er] at e; exact absurd e hN
      · rw [if_neg ei] at e
        by_cases er : r = N
        · rw [if_pos er] at e
          exact absurd (h2 i N (by omega) (by omega) e) (by omega)
        · rw [if_neg er] at e; exact e
