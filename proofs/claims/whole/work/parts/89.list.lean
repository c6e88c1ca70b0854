/-! ===== the class lists the maximal strings ===== -/
theorem lk_at {T : Nat → Nat} {n : Nat} : ∀ len p q, len < lk T n p q → p + len < n ∧ q + len < n ∧ T (p + len) = T (q + len) ∧ T (p + len) ≠ 1
  | len, p, q, h => by
    by_cases hp : p < n
    · by_cases hq : q < n
      · rw [lk_rec hp hq] at h
        by_cases e : T p = T q ∧ T p ≠ 1
        · rw [if_pos e] at h
          match len with
          | 0 => exact ⟨hp, hq, e.1, e.2⟩
          | len + 1 =>
            have := lk_at (T := T) (n := n) len (p + 1) (q + 1) (by omega)
            rw [show p + (len + 1) = p + 1 + len by omega, show q + (len + 1) = q + 1 + len by omega]
            exact this
        · rw [if_neg e] at h; omega
      · rw [lk_end (Or.inr (by omega))] at h; omega
    · rw [lk_end (Or.inl (by omega))] at h; omega
theorem lk_up {T : Nat → Nat} {n : Nat} : ∀ len p q, len ≤ lk T n p q → p + len < n → q + len < n → T (p + len) = T (q + len) → T (p + len) ≠ 1 → len + 1 ≤ lk T n p q
  | 0, p, q, _, hp, hq, h1, h2 => by rw [lk_rec (T := T) (show p < n from hp) (show q < n from hq), if_pos ⟨h1, h2⟩]; omega
  | len + 1, p, q, h, hp, hq, h1, h2 => by
    have h0 := lk_at (T := T) (n := n) 0 p q (by omega)
    rw [lk_rec (show p < n by omega) (show q < n by omega)] at h ⊢
    rw [if_pos ⟨h0.2.2.1, h0.2.2.2⟩] at h ⊢
    rw [show p + (len + 1) = p + 1 + len by omega] at hp h1 h2
    rw [show q + (len + 1) = q + 1 + len by omega] at hq h1
    have := lk_up (T := T) (n := n) len (p + 1) (q + 1) (by omega) hp hq h1 h2
    omega
/-- a string of a row's beginning is maximal: seen by rows -/
theorem isM_int {T : Nat → Nat} {n r hi len : Nat} (hT : tx9 T n) (hlen : 1 ≤ len) (hr : 1 ≤ r) (h2 : r + 1 < hi) (h3 : hi ≤ n + 1) (hlo : hx9 T n r < len) (hhi : hx9 T n hi < len) (hj : ∀ j, r < j → j < hi → len ≤ hd T n j) : isM T n (pa T n r) len = true ↔ ((∃ j, r < j ∧ j < hi ∧ hd T n j = len) ∧ ∃ i, r ≤ i ∧ i < hi ∧ (bf T (pa T n i) < 2 ∨ bf T (pa T n i) ≠ bf T (pa T n r))) := by
  have hset := fun q (hq : q ≤ n) => in_int (q := q) hT.1 hlen (Nat.le_refl r) (show r < hi by omega) h3 hlo hhi hj hq
  have hpn : ∀ i, r ≤ i → i < hi → pa T n i < n := fun i h1 h2 => by
    obtain ⟨p1, p2⟩ := pa_ok (r := i) hT.1 (by omega)
    rcases Nat.lt_or_ge (pa T n i) n with z | z
    · exact z
    · rw [show pa T n i = n by omega, rk_n hT.1] at p2; omega
  have htm := tm_int hT.1 hlen (Nat.le_refl r) (show r < hi by omega) h3 hlo hhi hj (hpn r (Nat.le_refl _) (by omega))
  unfold isM
  rw [Bool.and_eq_true, Bool.and_eq_true, decide_eq_true_eq, decide_eq_true_eq, decide_eq_true_eq, htm]
  refine ⟨fun ⟨⟨_, q, q1, q2, q3⟩, q', q1', q2', q3'⟩ => ⟨?_, ?_⟩, fun ⟨⟨j, j1, j2, j3⟩, i, i1, i2, i3⟩ => ⟨⟨by omega, pa T n i, hpn i i1 i2, ?_, i3⟩, ?_⟩⟩
  · by_cases c : ∃ j, r < j ∧ j < hi ∧ hd T n j = len
    · exact c
    · exfalso
      have hj1 : ∀ j, r < j → j < hi → len + 1 ≤ hd T n j := fun j j1 j2 => by
        have a := hj j j1 j2
        rcases Nat.lt_or_ge len (hd T n j) with z | z
        · exact z
        · exact absurd ⟨j, j1, j2, by omega⟩ c
      have hall : ∀ b, r < b → b < hi → len + 1 ≤ lk T n (pa T n r) (pa T n b) := fun b b1 b2 => (lk_rows hT.1 b b1 (by omega)).mpr (fun j j1 j2 => hj1 j j1 (by omega))
      have hr1 := lk_at (T := T) (n := n) len _ _ (hall (r + 1) (by omega) h2)
      have hpp := hT.1.2 (pa T n r + len) hr1.1
      have hlbp : lb T n (pa T n r + len) = T (pa T n r + len) := if_pos hr1.1
      have hin := (hset q' (by omega)).mp q2'
      have hqa := pa_rk hT.1 (show q' ≤ n by omega)
      by_cases e : rk T n q' = r
      · rw [← hqa, e, hlbp] at q3'
        omega
      · have hq := lk_at (T := T) (n := n) len _ _ (hall (rk T n q') (by omega) hin.2)
        rw [hqa] at hq
        have hlbq : lb T n (q' + len) = T (q' + len) := if_pos hq.2.1
        rw [hlbp, hlbq] at q3'
        omega
  · have hin := (hset q (by omega)).mp q2
    have hqa := pa_rk hT.1 (show q ≤ n by omega)
    exact ⟨rk T n q, hin.1, hin.2, by rw [hqa]; exact q3⟩
  · have := (pa_ok (r := i) hT.1 (by omega)).2
    exact (hset _ (by have := hpn i i1 i2; omega)).mpr (by omega)
  · have p1 := (pa_ok (r := j - 1) hT.1 (by omega)).2
    have p2 := (pa_ok (r := j) hT.1 (by omega)).2
    have n1 := hpn (j - 1) (by omega) (by omega)
    have n2 := hpn j (by omega) (by omega)
    have s1 := (hset (pa T n (j - 1)) (by omega)).mpr (by omega)
    have s2 := (hset (pa T n j) (by omega)).mpr (by omega)
    have hdj : hd T n j = lk T n (pa T n j) (pa T n (j - 1)) := by unfold hd; rw [if_neg (by omega)]
    by_cases c1 : lb T n (pa T n j + len) < 2 ∨ lb T n (pa T n j + len) ≠ lb T n (pa T n r + len)
    · exact ⟨pa T n j, n2, s2, c1⟩
    · refine ⟨pa T n (j - 1), n1, s1, ?_⟩
      by_cases c2 : lb T n (pa T n (j - 1) + len) < 2 ∨ lb T n (pa T n (j - 1) + len) ≠ lb T n (pa T n r + len)
      · exact c2
      · exfalso
        have e : lb T n (pa T n j + len) = lb T n (pa T n (j - 1) + len) := by omega
        have b1 : ¬ lb T n (pa T n j + len) < 2 := by omega
        have b2 : ¬ lb T n (pa T n (j - 1) + len) < 2 := by omega
        have l1 : pa T n j + len < n := by
          rcases Nat.lt_or_ge (pa T n j + len) n with z | z
          · exact z
          · exact absurd (show lb T n (pa T n j + len) < 2 by unfold lb; rw [if_neg (by omega)]; omega) b1
        have l2 : pa T n (j - 1) + len < n := by
          rcases Nat.lt_or_ge (pa T n (j - 1) + len) n with z | z
          · exact z
          · exact absurd (show lb T n (pa T n (j - 1) + len) < 2 by unfold lb; rw [if_neg (by omega)]; omega) b2
        have e1 : lb T n (pa T n j + len) = T (pa T n j + len) := if_pos l1
        have e2 : lb T n (pa T n (j - 1) + len) = T (pa T n (j - 1) + len) := if_pos l2
        have := lk_up (T := T) (n := n) len (pa T n j) (pa T n (j - 1)) (by omega) l1 l2 (by omega) (by omega)
        omega
theorem sm9_s (f : Nat → Nat) (n : Nat) : sm9 f (n + 1) = sm9 f n + f n := rfl
theorem sm9_add (f g : Nat → Nat) : ∀ n, sm9 (fun i => f i + g i) n = sm9 f n + sm9 g n
  | 0 => rfl
  | n + 1 => by rw [sm9_s, sm9_s, sm9_s, sm9_add f g n]; omega
theorem sm9_ct (P : Nat → Bool) : ∀ n, sm9 (fun i => if P i = true then 1 else 0) n = ct P n
  | 0 => rfl
  | n + 1 => by rw [sm9_s, ct_s, sm9_ct P n]
theorem sm9_z : ∀ n, sm9 (fun _ => 0) n = 0
  | 0 => rfl
  | n + 1 => by rw [sm9_s, sm9_z n]
theorem sm9_swap (P : Nat → Nat → Bool) (N : Nat) : ∀ R, sm9 (fun r => ct (P r) N) R = sm9 (fun j => ct (fun r => P r j) R) N
  | 0 => (sm9_z N).symm
  | R + 1 => by
    rw [sm9_s, sm9_swap P N R]
    have : (fun j => ct (fun r => P r j) (R + 1)) = fun j => ct (fun r => P r j) R + (if P R j = true then 1 else 0) := rfl
    rw [this, sm9_add, sm9_ct (P R) N]
theorem sm9_le {f g : Nat → Nat} : ∀ n, (∀ i, i < n → f i ≤ g i) → sm9 f n ≤ sm9 g n
  | 0, _ => Nat.le_refl _
  | n + 1, h => by
    have := sm9_le (f := f) (g := g) n (fun i hi => h i (by omega))
    have := h n (by omega)
    rw [sm9_s, sm9_s]; omega
theorem ct_le1 {P : Nat → Bool} {N : Nat} (h : ∀ a b, P a = true → P b = true → a = b) : ct P N ≤ 1 := by
  have := ct_inj (P := P) (f := fun _ => 0) (K := 1) N (fun _ => true) (fun p _ _ => ⟨by omega, rfl⟩) (fun p q _ _ hp hq _ => h p q hp hq)
  exact Nat.le_trans this (ct_le _ _)
def pJ (T : Nat → Nat) (n r j : Nat) : Bool := decide (r < j ∧ hd T n r < hd T n j ∧ ∀ i, i < j → r < i → hd T n j < hd T n i)
/-- what a maximal string of a row shows of the rows behind it -/
theorem MX_rows {T : Nat → Nat} {n r len : Nat} (hT : tx9 T n) (hr : r ≤ n) (h : MX T n r len = true) : 1 ≤ r ∧ 1 ≤ len ∧ ∃ hi, r + 1 < hi ∧ hi ≤ n + 1 ∧ hx9 T n r < len ∧ hx9 T n hi < len ∧ (∀ j, r < j → j < hi → len ≤ hd T n j) ∧ ∃ j, r < j ∧ j < hi ∧ hd T n j = len := by
  obtain ⟨x1, x2, x3, x4⟩ := MX_iff.mp h
  obtain ⟨p1, p2⟩ := pa_ok (r := r) hT.1 hr
  have hr1 : 1 ≤ r := by
    rcases Nat.eq_zero_or_pos r with z | z
    · exfalso
      have := rk_inj hT.1 p1 (Nat.le_refl n) (by rw [p2, rk_n hT.1, z])
      omega
    · exact z
  have htw := tw_rows hT.1 p1
  rw [p2, hx9_le hr] at htw
  obtain ⟨hi, k1, k2, k3, k4⟩ := ex_hi (T := T) (n := n) (len := len) (by omega) (n - r) r (by omega)
  have hlo : hx9 T n r < len := by rw [hx9_le hr]; exact x1
  have hne : r + 1 < hi := by
    rcases Nat.lt_or_ge (r + 1) hi with z | z
    · exact z
    · rw [show hi = r + 1 by omega] at k3; omega
  exact ⟨hr1, by omega, hi, hne, k2, hlo, k3, k4, ((isM_int hT (by omega) hr1 hne k2 hlo k3 k4).mp x4).1⟩
theorem nmx_b {T : Nat → Nat} {n : Nat} (hT : tx9 T n) : nmx T n (n + 1) ≤ n := by
  have h1 : ∀ r, r < n + 1 → ct (MX T n r) 241 ≤ ct (pJ T n r) (n + 1) := fun r hr => by
    have hex : ∀ len, ∃ j, MX T n r len = true → (j < n + 1 ∧ hd T n j = len ∧ pJ T n r j = true) := fun len => by
      by_cases hM : MX T n r len = true
      · obtain ⟨hr1, hl1, hi, a1, a2, a3, a4, a5, j, j1, j2, j3⟩ := MX_rows hT (by omega) hM
        obtain ⟨q, q1, q2, q3⟩ := least_of (R := fun j => decide (r < j ∧ hd T n j = len)) (g := fun j => j) j j hi j2 (decide_eq_true ⟨j1, j3⟩) (Nat.le_refl _)
        have q2 := of_decide_eq_true q2
        refine ⟨q, fun _ => ⟨by omega, q2.2, decide_eq_true ⟨q2.1, by rw [q2.2]; rw [hx9_le (by omega)] at a3; exact a3, fun i i1 i2 => ?_⟩⟩⟩
        have b1 := a5 i i2 (by omega)
        rcases Nat.lt_or_ge len (hd T n i) with z | z
        · rw [q2.2]; exact z
        · have b2 : hd T n i = len := by omega
          have b3 := q3 i (by omega) (decide_eq_true ⟨i2, b2⟩)
          have b3 : q ≤ i := b3
          omega
      · exact ⟨0, fun z => absurd z hM⟩
    refine ct_inj (f := fun len => Classical.choose (hex len)) 241 _ (fun len hlen hM => ?_) (fun a b _ _ ha hb e => ?_)
    · have := Classical.choose_spec (hex len) hM
      exact ⟨this.1, this.2.2⟩
    · have e : Classical.choose (hex a) = Classical.choose (hex b) := e
      have h1 := (Classical.choose_spec (hex a) ha).2.1
      have h2 := (Classical.choose_spec (hex b) hb).2.1
      rw [e] at h1
      omega
  have h2 : nmx T n (n + 1) ≤ sm9 (fun r => ct (pJ T n r) (n + 1)) (n + 1) := sm9_le (n + 1) h1
  rw [sm9_swap] at h2
  have h3 : sm9 (fun j => ct (fun r => pJ T n r j) (n + 1)) (n + 1) ≤ sm9 (fun j => if decide (1 ≤ j) = true then 1 else 0) (n + 1) := sm9_le (n + 1) (fun j hj => by
    by_cases c : 1 ≤ j
    · rw [decide_eq_true c, if_pos rfl]
      refine ct_le1 (fun a b ha hb => ?_)
      have ha := of_decide_eq_true ha
      have hb := of_decide_eq_true hb
      rcases Nat.lt_or_ge a b with z | z
      · have := ha.2.2 b hb.1 z; omega
      · rcases Nat.lt_or_ge b a with y | y
        · have := hb.2.2 a ha.1 y; omega
        · omega
    · rw [decide_eq_false c, if_neg (by decide)]
      refine Nat.le_of_eq (ct_zero _ (fun i _ => decide_eq_false (fun z => by omega))))
  rw [sm9_ct (fun j => decide (1 ≤ j)), ct_ge] at h3
  omega
theorem ct_all {P : Nat → Bool} : ∀ s, ct P s = s → ∀ i, i < s → P i = true
  | 0, _, i, h => absurd h (Nat.not_lt_zero _)
  | s + 1, h, i, hi => by
    have hb := ct_le P s
    rw [ct_s] at h
    cases c : P s with
    | true =>
      rw [c, if_pos rfl] at h
      by_cases e : i = s
      · rw [e]; exact c
      · exact ct_all s (by omega) i (by omega)
    | false =>
      rw [c, if_neg (by decide)] at h
      omega
theorem c_addMax {T : Nat → Nat} {n low hi L c : Nat} {M : me_M} (hT : tx9 T n) (hx : cx T n M) (h1 : low < hi) (h2 : hi ≤ n + 1) (hL : L ≤ 240) (h5 : M.1 26 5 = nI c) (hc : c < 240) : mX2_addIfMaximal_26 M (nI L) (nI low) (nI (hi - low)) = some (if decide (∃ i, i < hi ∧ low ≤ i ∧ (bf T (pa T n i) < 2 ∨ bf T (pa T n i) ≠ bf T (pa T n low))) = true then me_s (me_s (me_s (me_s M 27 c (nI L)) 28 c (nI low)) 29 c (nI (hi - low))) 26 5 (nI (c + 1)) else M) := by
  have hn := hT.2.2.2
  have hb := (c_before (b := 0) hT hx (by omega) (show low ≤ n by omega)).1 rfl
  have hb : mX4_before_9 M (nI low) = some (nI (bf T (pa T n low))) := hb
  have b9 := bf_lt (p := pa T n low) hT.2.1
  unfold mX2_addIfMaximal_26 mX2_addIfMaximal_26_J51 mX2_addIfMaximal_26_J52
  by_cases c1 : bf T (pa T n low) < 2
  · rw [decide_eq_true (show ∃ i, i < hi ∧ low ≤ i ∧ (bf T (pa T n i) < 2 ∨ bf T (pa T n i) ≠ bf T (pa T n low)) from ⟨low, h1, Nat.le_refl _, Or.inl c1⟩), if_pos rfl]
    simp (disch := omega) only [Option.bind_some, if_true, if_false, Sum.elim_inl, Sum.elim_inr, li0, li1, li2, li3, li4, li5, li6, li7, li8, li9, li10, li12, li16, li20, li24, li25, li31, li32, li40, li41, li42, li48, li57, li59, li97, li104, li105, li124, li126, li240, li241, nI_add, nI_subc, nI_subm, nI_mulc, nI_nm, pu_r, pu_t, pu_a, pu_le_t, pu_le_f, pu_lt_t, pu_lt_f, pu_eq_t, pu_eq_f, nm_eq, nm_eq2, nm_lt, nm_lt2, nm_le, nm_le2, nm_ss, nm_sp, pu_ss, pu_snq, pu_neq, eq_self, and_true, true_and, and_false, false_and, or_true, true_or, or_false, false_or, not_true_eq_false, not_false_eq_true, hb, h5]
  · have hs : ∀ r, sc T n r (bf T (pa T n low) + 1) = sc T n r (bf T (pa T n low)) + ct (fun i => decide (bf T (pa T n i) = bf T (pa T n low))) r := fun r => scq
    have w1 := g_lettersAhead (o := 9) (sg := 4) (pl := 10) (ro := 11) (al := 12) (sm := 13) (r := hi) (c := bf T (pa T n low) - 2) hT.2.1 hn hx.2.1.2.2.2 h2 (by omega)
    have w2 := g_lettersAhead (o := 9) (sg := 4) (pl := 10) (ro := 11) (al := 12) (sm := 13) (r := low) (c := bf T (pa T n low) - 2) hT.2.1 hn hx.2.1.2.2.2 (by omega) (by omega)
    rw [show bf T (pa T n low) - 2 + 3 = bf T (pa T n low) + 1 by omega, show bf T (pa T n low) - 2 + 2 = bf T (pa T n low) by omega, hs, Nat.add_sub_cancel_left] at w1 w2
    have hcb := ct_ab (g := fun i => decide (bf T (pa T n i) = bf T (pa T n low))) (a := low) (hi - low)
    rw [show low + (hi - low) = hi by omega] at hcb
    have hcl := ct_le (fun j => (fun i => decide (bf T (pa T n i) = bf T (pa T n low))) (low + j)) (hi - low)
    have hcl2 := ct_le (fun i => decide (bf T (pa T n i) = bf T (pa T n low))) low
    by_cases c2 : ∃ i, i < hi ∧ low ≤ i ∧ (bf T (pa T n i) < 2 ∨ bf T (pa T n i) ≠ bf T (pa T n low))
    · have hne : ct (fun j => (fun i => decide (bf T (pa T n i) = bf T (pa T n low))) (low + j)) (hi - low) ≠ hi - low := fun z => by
        obtain ⟨i, i1, i2, i3⟩ := c2
        have := ct_all (hi - low) z (i - low) (by omega)
        have this := of_decide_eq_true this
        rw [show low + (i - low) = i by omega] at this
        omega
      rw [decide_eq_true c2, if_pos rfl]
      generalize ct (fun j => (fun i => decide (bf T (pa T n i) = bf T (pa T n low))) (low + j)) (hi - low) = y at *
      generalize ct (fun i => decide (bf T (pa T n i) = bf T (pa T n low))) low = z at *
      rw [hcb] at w1
      simp (disch := omega) only [Option.bind_some, if_true, if_false, Sum.elim_inl, Sum.elim_inr, li0, li1, li2, li3, li4, li5, li6, li7, li8, li9, li10, li12, li16, li20, li24, li25, li31, li32, li40, li41, li42, li48, li57, li59, li97, li104, li105, li124, li126, li240, li241, nI_add, nI_subc, nI_subm, nI_mulc, nI_nm, pu_r, pu_t, pu_a, pu_le_t, pu_le_f, pu_lt_t, pu_lt_f, pu_eq_t, pu_eq_f, nm_eq, nm_eq2, nm_lt, nm_lt2, nm_le, nm_le2, nm_ss, nm_sp, pu_ss, pu_snq, pu_neq, eq_self, and_true, true_and, and_false, false_and, or_true, true_or, or_false, false_or, not_true_eq_false, not_false_eq_true, hb, h5, show low + (hi - low) = hi by omega, eX4_lettersAhead_9, w1, w2, show z + y - z = y by omega]
    · have he : ct (fun j => (fun i => decide (bf T (pa T n i) = bf T (pa T n low))) (low + j)) (hi - low) = hi - low := ct_full _ (fun j hj => decide_eq_true (by
        rcases Nat.decEq (bf T (pa T n (low + j))) (bf T (pa T n low)) with z | z
        · exact absurd ⟨low + j, by omega, by omega, Or.inr z⟩ c2
        · exact z))
      rw [decide_eq_false c2]
      generalize ct (fun j => (fun i => decide (bf T (pa T n i) = bf T (pa T n low))) (low + j)) (hi - low) = y at *
      generalize ct (fun i => decide (bf T (pa T n i) = bf T (pa T n low))) low = z at *
      rw [hcb] at w1
      simp (disch := omega) only [Option.bind_some, if_true, if_false, Sum.elim_inl, Sum.elim_inr, li0, li1, li2, li3, li4, li5, li6, li7, li8, li9, li10, li12, li16, li20, li24, li25, li31, li32, li40, li41, li42, li48, li57, li59, li97, li104, li105, li124, li126, li240, li241, nI_add, nI_subc, nI_subm, nI_mulc, nI_nm, pu_r, pu_t, pu_a, pu_le_t, pu_le_f, pu_lt_t, pu_lt_f, pu_eq_t, pu_eq_f, nm_eq, nm_eq2, nm_lt, nm_lt2, nm_le, nm_le2, nm_ss, nm_sp, pu_ss, pu_snq, pu_neq, eq_self, and_true, true_and, and_false, false_and, or_true, true_or, or_false, false_or, not_true_eq_false, not_false_eq_true, hb, h5, show low + (hi - low) = hi by omega, eX4_lettersAhead_9, w1, w2, show z + y - z = y by omega, Bool.false_eq_true]
