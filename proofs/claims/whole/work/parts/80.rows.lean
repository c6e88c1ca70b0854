/-! ===== strings alike, by rows ===== -/
theorem lk_comm (T : Nat → Nat) (n : Nat) : ∀ d p q, n - p ≤ d → lk T n p q = lk T n q p := by
  intro d
  induction d with
  | zero => intro p q h; rw [lk_end (Or.inl (by omega)), lk_end (Or.inr (by omega))]
  | succ d ih =>
    intro p q h
    by_cases hp : p < n
    · by_cases hq : q < n
      · rw [lk_rec hp hq, lk_rec hq hp, ih (p + 1) (q + 1) (by omega)]
        by_cases e : T p = T q
        · rw [e]
        · rw [if_neg (fun z => e z.1), if_neg (fun z => e z.1.symm)]
      · rw [lk_end (Or.inr (by omega)), lk_end (Or.inl (by omega))]
    · rw [lk_end (Or.inl (by omega)), lk_end (Or.inr (by omega))]
theorem lk_sym (T : Nat → Nat) (n p q : Nat) : lk T n p q = lk T n q p := lk_comm T n _ p q (Nat.le_refl _)
theorem lk_tri (T : Nat → Nat) (n : Nat) : ∀ len p q r, len ≤ lk T n p q → len ≤ lk T n q r → len ≤ lk T n p r := by
  intro len
  induction len with
  | zero => intro p q r _ _; exact Nat.zero_le _
  | succ len ih =>
    intro p q r h1 h2
    by_cases hp : p < n
    · by_cases hq : q < n
      · by_cases hr : r < n
        · rw [lk_rec hp hq] at h1
          rw [lk_rec hq hr] at h2
          by_cases e1 : T p = T q ∧ T p ≠ 1
          · by_cases e2 : T q = T r ∧ T q ≠ 1
            · rw [if_pos e1] at h1
              rw [if_pos e2] at h2
              rw [lk_rec hp hr, if_pos ⟨e1.1.trans e2.1, e1.2⟩]
              have := ih (p + 1) (q + 1) (r + 1) (by omega) (by omega)
              omega
            · rw [if_neg e2] at h2; omega
          · rw [if_neg e1] at h1; omega
        · rw [lk_end (Or.inr (by omega))] at h2; omega
      · rw [lk_end (Or.inr (by omega))] at h1; omega
    · rw [lk_end (Or.inl (by omega))] at h1; omega
theorem lk_m1 {T : Nat → Nat} {n p q r : Nat} (hT : tx_ok T n) (hp : p ≤ n) (hq : q ≤ n) (hr : r ≤ n) (h1 : sl T n p q = true) (h2 : sl T n q r = true) : lk T n p r ≤ lk T n p q ∧ lk T n p r ≤ lk T n q r := by
  have a := lc_mono2 hT hp hq hr h1 h2
  have b := lc_mono hT hp hq hr h1 h2
  refine ⟨?_, ?_⟩
  · unfold lk; omega
  · rw [lk_sym T n p r, lk_sym T n q r]
    unfold lk
    rw [lc_comm T n r p, lc_comm T n r q]
    omega
theorem sl_pa {T : Nat → Nat} {n a b : Nat} (hT : tx_ok T n) (hab : a < b) (hb : b ≤ n) : sl T n (pa T n a) (pa T n b) = true := by
  obtain ⟨a1, a2⟩ := pa_ok (r := a) hT (by omega)
  obtain ⟨b1, b2⟩ := pa_ok (r := b) hT hb
  exact (rk_iff hT a1 b1).mp (by omega)
theorem hd_s {T : Nat → Nat} {n r : Nat} : hd T n (r + 1) = lk T n (pa T n (r + 1)) (pa T n r) := by
  unfold hd
  rw [if_neg (by omega), Nat.add_sub_cancel]
theorem lk_rows {T : Nat → Nat} {n a len : Nat} (hT : tx_ok T n) : ∀ b, a < b → b ≤ n → (len ≤ lk T n (pa T n a) (pa T n b) ↔ ∀ r, a < r → r ≤ b → len ≤ hd T n r)
  | 0, h, _ => absurd h (Nat.not_lt_zero _)
  | b + 1, h, hb => by
    by_cases e : a = b
    · subst e
      rw [lk_sym, ← hd_s]
      exact ⟨fun z r h1 h2 => by rw [show r = a + 1 by omega]; exact z, fun z => z _ (by omega) (Nat.le_refl _)⟩
    · have ih := lk_rows (a := a) (len := len) hT b (by omega) (by omega)
      have m := lk_m1 hT (pa_le hT (show a ≤ n by omega)) (pa_le hT (show b ≤ n by omega)) (pa_le hT hb) (sl_pa hT (show a < b by omega) (by omega)) (sl_pa hT (show b < b + 1 by omega) hb)
      have hd1 : hd T n (b + 1) = lk T n (pa T n b) (pa T n (b + 1)) := by rw [hd_s, lk_sym]
      refine ⟨fun z r h1 h2 => ?_, fun z => ?_⟩
      · by_cases c : r = b + 1
        · rw [c, hd1]; omega
        · exact ih.mp (by omega) r h1 (by omega)
      · exact lk_tri T n len _ _ _ (ih.mpr (fun r h1 h2 => z r h1 (by omega))) (by rw [← hd1]; exact z _ (by omega) (Nat.le_refl _))
/-- the same, 0 behind the last row -/
def hx9 (T : Nat → Nat) (n r : Nat) : Nat := if r ≤ n then hd T n r else 0
theorem hx9_le {T : Nat → Nat} {n r : Nat} (hr : r ≤ n) : hx9 T n r = hd T n r := if_pos hr
theorem hd_bd {T : Nat → Nat} {n r : Nat} : hd T n r ≤ n := by
  unfold hd
  split
  · omega
  · have := lk_le (T := T) (n := n) (p := pa T n r) (q := pa T n (r - 1)); omega
theorem hx9_bd {T : Nat → Nat} {n r : Nat} : hx9 T n r ≤ n := by
  unfold hx9
  split
  · exact hd_bd
  · omega
theorem tw_rows {T : Nat → Nat} {n p : Nat} (hT : tx_ok T n) (hp : p ≤ n) : tw T n p = max (hx9 T n (rk T n p)) (hx9 T n (rk T n p + 1)) := by
  have hr := rk_lt (T := T) hp
  have hpa := pa_rk hT hp
  have h1 : hx9 T n (rk T n p) ≤ tw T n p := by
    rw [hx9_le (by omega)]
    rcases hrk : rk T n p with _ | r
    · exact Nat.zero_le _
    · rw [hrk] at hpa hr
      rw [hd_s, hpa]
      by_cases c : pa T n r < n
      · have hne : pa T n r ≠ p := fun z => by
          have := (pa_ok (r := r) hT (by omega)).2
          rw [z, hrk] at this; omega
        have := mx_ge (f := fun q => if q = p then 0 else lk T n p q) c
        simp only [if_neg hne] at this
        exact this
      · rw [lk_end (Or.inr (by omega))]; exact Nat.zero_le _
  have h2 : hx9 T n (rk T n p + 1) ≤ tw T n p := by
    unfold hx9
    by_cases d : rk T n p + 1 ≤ n
    · rw [if_pos d, hd_s, hpa, lk_sym]
      by_cases c : pa T n (rk T n p + 1) < n
      · have hne : pa T n (rk T n p + 1) ≠ p := fun z => by
          have := (pa_ok (r := rk T n p + 1) hT d).2
          rw [z] at this; omega
        have := mx_ge (f := fun q => if q = p then 0 else lk T n p q) c
        simp only [if_neg hne] at this
        exact this
      · rw [lk_end (Or.inr (by omega))]; exact Nat.zero_le _
    · rw [if_neg d]; exact Nat.zero_le _
  have h3 : tw T n p ≤ max (hx9 T n (rk T n p)) (hx9 T n (rk T n p + 1)) := mx_le (fun q hq => by
    by_cases e : q = p
    · rw [if_pos e]; exact Nat.zero_le _
    · rw [if_neg e]
      have hq' := rk_lt (T := T) (show q ≤ n by omega)
      have hqa := pa_rk hT (show q ≤ n by omega)
      rcases Nat.lt_or_ge (rk T n q) (rk T n p) with c | c
      · have := (lk_rows (len := lk T n p q) hT (rk T n p) c (by omega)).mp (by rw [hpa, hqa, lk_sym]; exact Nat.le_refl _) (rk T n p) c (Nat.le_refl _)
        rw [hx9_le (by omega)]
        omega
      · have hne : rk T n q ≠ rk T n p := fun z => e (rk_inj hT (by omega) hp z)
        have := (lk_rows (len := lk T n p q) hT (rk T n q) (show rk T n p < rk T n q by omega) (by omega)).mp (by rw [hpa, hqa]; exact Nat.le_refl _) (rk T n p + 1) (by omega) (by omega)
        rw [hx9_le (show rk T n p + 1 ≤ n by omega)]
        omega)
  omega
theorem rk_n {T : Nat → Nat} {n : Nat} (hT : tx_ok T n) : rk T n n = 0 := by
  rcases Nat.eq_zero_or_pos (rk T n n) with h | h
  · exact h
  · exfalso
    obtain ⟨a1, a2⟩ := pa_ok (r := 0) hT (Nat.zero_le _)
    have h1 := (rk_iff hT a1 (Nat.le_refl n)).mp (by omega)
    unfold sl at h1
    have h2 := of_decide_eq_true h1
    rw [lc_end (Or.inr (Nat.le_refl _)), Nat.add_zero, Nat.add_zero, hT.1] at h2
    exact absurd h2 (Nat.not_lt_zero _)
/-- rows next to one another that begin alike are all that do -/
theorem in_int {T : Nat → Nat} {n r lo hi len q : Nat} (hT : tx_ok T n) (hlen : 1 ≤ len) (h1 : lo ≤ r) (h2 : r < hi) (h3 : hi ≤ n + 1) (hlo : hx9 T n lo < len) (hhi : hx9 T n hi < len) (hj : ∀ j, lo < j → j < hi → len ≤ hd T n j) (hq : q ≤ n) : (q = pa T n r ∨ len ≤ lk T n (pa T n r) q) ↔ (lo ≤ rk T n q ∧ rk T n q < hi) := by
  have hqr := rk_lt (T := T) hq
  have hqa := pa_rk hT hq
  obtain ⟨p1, p2⟩ := pa_ok (r := r) hT (by omega)
  by_cases e : rk T n q = r
  · have : q = pa T n r := by rw [← hqa, e]
    exact ⟨fun _ => ⟨by omega, by omega⟩, fun _ => Or.inl this⟩
  · have hne : q ≠ pa T n r := fun z => e (by rw [z]; exact p2)
    rcases Nat.lt_or_ge (rk T n q) r with c | c
    · have hr := lk_rows (len := len) hT r c (by omega)
      rw [hqa, lk_sym] at hr
      refine ⟨fun z => ?_, fun z => Or.inr (hr.mpr (fun j j1 j2 => hj j (by omega) (by omega)))⟩
      rcases z with z | z
      · exact absurd z hne
      · by_cases d : lo ≤ rk T n q
        · exact ⟨d, by omega⟩
        · have := hr.mp z lo (by omega) h1
          rw [hx9_le (by omega)] at hlo
          omega
    · have hr := lk_rows (len := len) hT (rk T n q) (show r < rk T n q by omega) (by omega)
      rw [hqa] at hr
      refine ⟨fun z => ?_, fun z => Or.inr (hr.mpr (fun j j1 j2 => hj j (by omega) (by omega)))⟩
      rcases z with z | z
      · exact absurd z hne
      · by_cases d : rk T n q < hi
        · exact ⟨by omega, d⟩
        · have := hr.mp z hi (by omega) (by omega)
          rw [hx9_le (by omega)] at hhi
          omega
theorem ct_iv (lo hi : Nat) (h : lo ≤ hi) : ∀ N, hi ≤ N → ct (fun r => decide (lo ≤ r) && decide (r < hi)) N = hi - lo
  | 0, hN => by show 0 = _; omega
  | N + 1, hN => by
    rw [ct_s]
    by_cases c : hi ≤ N
    · rw [ct_iv lo hi h N c, decide_eq_false (show ¬ N < hi by omega), Bool.and_false, if_neg (by decide)]; rfl
    · by_cases d : lo ≤ N
      · have e : ct (fun r => decide (lo ≤ r) && decide (r < hi)) N = ct (fun r => decide (lo ≤ r) && decide (r < N)) N := ct_congr N (fun i hi2 => by rw [decide_eq_true (show i < hi by omega), decide_eq_true hi2])
        rw [e, ct_iv lo N d N (Nat.le_refl _), decide_eq_true d, decide_eq_true (show N < hi by omega)]
        show N - lo + 1 = hi - lo
        omega
      · have e : ct (fun r => decide (lo ≤ r) && decide (r < hi)) N = 0 := ct_zero N (fun i hi2 => by rw [decide_eq_false (show ¬ lo ≤ i by omega)]; rfl)
        rw [e, decide_eq_false d]
        show 0 + 0 = hi - lo
        omega
theorem ct_rows1 {T : Nat → Nat} {n : Nat} (hT : tx_ok T n) (F : Nat → Bool) : ct F (n + 1) = ct (fun r => F (pa T n r)) (n + 1) := by
  rw [← ct_rows hT F (n + 1) (Nat.le_refl _)]
  refine ct_congr (n + 1) (fun i hi => ?_)
  rw [decide_eq_true (rk_lt (T := T) (show i ≤ n by omega)), Bool.true_and]
theorem tm_int {T : Nat → Nat} {n r lo hi len : Nat} (hT : tx_ok T n) (hlen : 1 ≤ len) (h1 : lo ≤ r) (h2 : r < hi) (h3 : hi ≤ n + 1) (hlo : hx9 T n lo < len) (hhi : hx9 T n hi < len) (hj : ∀ j, lo < j → j < hi → len ≤ hd T n j) (hp : pa T n r < n) : tm T n (pa T n r) len = hi - lo := by
  have e : tm T n (pa T n r) len = ct (fun q => decide (q = pa T n r) || decide (len ≤ lk T n (pa T n r) q)) (n + 1) := by
    rw [ct_s, decide_eq_false (show ¬ n = pa T n r by omega), lk_end (Or.inr (Nat.le_refl n)), decide_eq_false (show ¬ len ≤ 0 by omega)]
    rfl
  rw [e, ct_rows1 hT]
  have e2 : ct (fun i => decide (pa T n i = pa T n r) || decide (len ≤ lk T n (pa T n r) (pa T n i))) (n + 1) = ct (fun r => decide (lo ≤ r) && decide (r < hi)) (n + 1) := ct_congr (n + 1) (fun i hi9 => by
    obtain ⟨q1, q2⟩ := pa_ok (r := i) hT (by omega)
    have hi2 := in_int hT hlen h1 h2 h3 hlo hhi hj q1
    rw [q2] at hi2
    rw [Bool.eq_iff_iff, Bool.or_eq_true, Bool.and_eq_true, decide_eq_true_eq, decide_eq_true_eq, decide_eq_true_eq, decide_eq_true_eq]
    exact hi2)
  rw [e2, ct_iv lo hi (by omega) (n + 1) h3]
theorem ct_inj {P : Nat → Bool} {f : Nat → Nat} {K : Nat} : ∀ N (Q : Nat → Bool), (∀ p, p < N → P p = true → f p < K ∧ Q (f p) = true) → (∀ p q, p < N → q < N → P p = true → P q = true → f p = f q → p = q) → ct P N ≤ ct Q K
  | 0, _, _, _ => Nat.zero_le _
  | N + 1, Q, h1, h2 => by
    rw [ct_s]
    by_cases c : P N = true
    · obtain ⟨k1, k2⟩ := h1 N (by omega) c
      rw [if_pos c, ct_split Q K (f N) k1, if_pos k2]
      have := ct_inj (P := P) (f := f) N (fun i => Q i && !decide (i = f N)) (fun p hp hP => by
        obtain ⟨a, b⟩ := h1 p (by omega) hP
        have hne : f p ≠ f N := fun z => by have := h2 p N (by omega) (by omega) hP c z; omega
        exact ⟨a, by rw [b, decide_eq_false hne]; rfl⟩) (fun p q hp hq => h2 p q (by omega) (by omega))
      omega
    · rw [if_neg c]
      exact ct_inj N Q (fun p hp => h1 p (by omega)) (fun p q hp hq => h2 p q (by omega) (by omega))
/-- the least by a measure among those that stand to p in a relation -/
theorem least_of {R : Nat → Bool} {g : Nat → Nat} : ∀ (b : Nat) (p N : Nat), p < N → R p = true → g p ≤ b → ∃ q, q < N ∧ R q = true ∧ ∀ x, x < N → R x = true → g q ≤ g x
  | 0, p, N, h1, h2, h3 => ⟨p, h1, h2, fun x _ _ => by omega⟩
  | b + 1, p, N, h1, h2, h3 => by
    by_cases c : ∃ q, q < N ∧ R q = true ∧ g q < g p
    · obtain ⟨q, q1, q2, q3⟩ := c
      exact least_of b q N q1 q2 (by omega)
    · exact ⟨p, h1, h2, fun x x1 x2 => by
        rcases Nat.lt_or_ge (g x) (g p) with z | z
        · exact absurd ⟨x, x1, x2, z⟩ c
        · exact z⟩
/-- as many are first of their kind by one order as by another -/
theorem firsts_le {N : Nat} {A : Nat → Bool} {R : Nat → Nat → Bool} {f g : Nat → Nat} (hR1 : ∀ p, R p p = true) (hR2 : ∀ p q, R p q = true → R q p = true) (hR3 : ∀ p q r, R p q = true → R q r = true → R p r = true) (hA : ∀ p q, p < N → q < N → A p = true → R p q = true → A q = true) (hf : ∀ p q, p < N → q < N → f p = f q → p = q) : ct (fun p => A p && decide (∀ q, q < N → R p q = true → f p ≤ f q)) N ≤ ct (fun p => A p && decide (∀ q, q < N → R p q = true → g p ≤ g q)) N := by
  have hex : ∀ p, ∃ q, p < N → (q < N ∧ R p q = true ∧ ∀ x, x < N → R p x = true → g q ≤ g x) := fun p => by
    by_cases hp : p < N
    · obtain ⟨q, q1, q2, q3⟩ := least_of (R := fun q => R p q) (g := g) (g p) p N hp (hR1 p) (Nat.le_refl _)
      exact ⟨q, fun _ => ⟨q1, q2, q3⟩⟩
    · exact ⟨0, fun z => absurd z hp⟩
  refine ct_inj (f := fun p => Classical.choose (hex p)) N _ (fun p hp hP => ?_) (fun p q hp hq hP hQ e => ?_)
  · rw [Bool.and_eq_true, decide_eq_true_eq] at hP
    obtain ⟨a, b, c⟩ := Classical.choose_spec (hex p) hp
    refine ⟨a, ?_⟩
    rw [Bool.and_eq_true, decide_eq_true_eq]
    exact ⟨hA p _ hp a hP.1 b, fun x hx hr => c x hx (hR3 _ _ _ b hr)⟩
  · rw [Bool.and_eq_true, decide_eq_true_eq] at hP hQ
    obtain ⟨a, b, c⟩ := Classical.choose_spec (hex p) hp
    obtain ⟨a', b', c'⟩ := Classical.choose_spec (hex q) hq
    have e : Classical.choose (hex p) = Classical.choose (hex q) := e
    rw [e] at b
    have hpq : R p q = true := hR3 _ _ _ b (hR2 _ _ b')
    have h1 := hP.2 q hq hpq
    have h2 := hQ.2 p hp (hR2 _ _ hpq)
    exact hf p q hp hq (by omega)
