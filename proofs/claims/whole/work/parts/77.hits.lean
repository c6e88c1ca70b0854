/-! ===== documents and hits ===== -/
theorem nI_sneg {a b : Nat} (h : a < b) (hb : b < 2 ^ 31) : (nI a - nI b < nI 0) = True := eq_true (by
  rw [Int32.lt_iff_toInt_lt, Int32.toInt_sub, nI_toInt (by omega), nI_toInt hb, nI_toInt (by omega), Int.bmod_eq_of_le (by omega) (by omega)]
  omega)
theorem ct_dn {F : Nat → Bool} : ∀ N, (∀ p q, p ≤ q → q < N → F q = true → F p = true) → ∀ p, p < N → (F p = true ↔ p < ct F N)
  | 0, _, p, hp => absurd hp (Nat.not_lt_zero _)
  | N + 1, h, p, hp => by
    have ih := ct_dn N (fun p q a b c => h p q a (by omega) c)
    rw [ct_s]
    by_cases c : F N = true
    · have hf : ct F N = N := ct_full N (fun i hi => h i N (by omega) (by omega) c)
      rw [hf, if_pos c]
      exact ⟨fun _ => hp, fun _ => h p N (by omega) (by omega) c⟩
    · rw [if_neg c, Nat.add_zero]
      by_cases e : p = N
      · subst e
        have := ct_le F p
        exact ⟨fun z => absurd z c, fun z => absurd z (by omega)⟩
      · exact ih p (by omega)
theorem ct_mono' (P : Nat → Bool) {p q : Nat} (h : p ≤ q) : ct P p ≤ ct P q := by
  induction q with
  | zero => rw [show p = 0 by omega]; exact Nat.le_refl _
  | succ q ih =>
    by_cases e : p = q + 1
    · rw [e]; exact Nat.le_refl _
    · have := ih (by omega)
      rw [ct_s]
      split <;> omega
/-- where a document begins -/
def bo (T : Nat → Nat) (n d : Nat) : Nat := ct (fun p => decide (bars T p < d)) (n + 1)
theorem bo_iff {T : Nat → Nat} {n d p : Nat} (hp : p ≤ n) : bars T p < d ↔ p < bo T n d := by
  have h := ct_dn (F := fun p => decide (bars T p < d)) (n + 1) (fun p q a _ c => decide_eq_true (by
    have h1 := bars_mono T a
    have h2 := of_decide_eq_true c
    omega)) p (by omega)
  rw [decide_eq_true_eq] at h
  exact h
theorem bo_nif {T : Nat → Nat} {n d p : Nat} (hp : p ≤ n) : d ≤ bars T p ↔ bo T n d ≤ p := by
  have := bo_iff (T := T) (n := n) (d := d) hp
  omega
theorem bo_ok {T : Nat → Nat} {n d : Nat} (hd : d ≤ bars T n) : bo T n d ≤ n ∧ bars T (bo T n d) = d ∧ (d = 0 → bo T n d = 0) ∧ (0 < d → 0 < bo T n d ∧ T (bo T n d - 1) = 1 ∧ bars T (bo T n d - 1) + 1 = d) := by
  have h1 : bo T n d ≤ n := by
    by_cases c : n < bo T n d
    · have := (bo_iff (T := T) (d := d) (Nat.le_refl n)).mpr c; omega
    · omega
  have h2 := bo_iff (T := T) (d := d) h1
  have h3 : ¬ bars T (bo T n d) < d := fun z => absurd (h2.mp z) (Nat.lt_irrefl _)
  have h0 := bo_iff (T := T) (n := n) (d := d) (Nat.zero_le n)
  have b0 : bars T 0 = 0 := rfl
  by_cases c : d = 0
  · have hb : bo T n d = 0 := by
      rcases Nat.eq_zero_or_pos (bo T n d) with z | z
      · exact z
      · have := h0.mpr z; omega
    exact ⟨h1, by rw [hb, b0, c], fun _ => hb, fun z => absurd z (by omega)⟩
  · have hp : 0 < bo T n d := h0.mp (by omega)
    have h4 := (bo_iff (T := T) (n := n) (d := d) (show bo T n d - 1 ≤ n by omega)).mpr (by omega)
    have h5 := bars_succ T (bo T n d - 1)
    rw [show bo T n d - 1 + 1 = bo T n d by omega] at h5
    by_cases e : T (bo T n d - 1) = 1
    · rw [if_pos e] at h5
      exact ⟨h1, by omega, fun z => absurd z c, fun _ => ⟨hp, e, by omega⟩⟩
    · rw [if_neg e] at h5; omega
theorem c_first {T : Nat → Nat} {n d : Nat} {M : me_M} (h : tx_docs T n M) (hd : d ≤ bars T n) : M.1 8 d = nI (bo T n d) := by
  obtain ⟨-, h1, h2, -⟩ := h
  obtain ⟨b1, b2, b3, b4⟩ := bo_ok hd
  by_cases c : d = 0
  · rw [b3 c, c]; exact h1
  · obtain ⟨q1, q2, q3⟩ := b4 (by omega)
    have := h2 (bo T n d - 1) (by omega) q2
    rw [q3, show bo T n d - 1 + 1 = bo T n d by omega] at this
    exact this
theorem r_documentOf {T : Nat → Nat} {n p : Nat} {M : me_M} (hT : tx9 T n) (hM : rx T n M) (hp : p ≤ n) : mX12_documentOf_63 M (nI p) = some (nI (bars T p)) := by
  obtain ⟨hM1, hM2⟩ := hM
  obtain ⟨-, hT9, -, hn⟩ := hT
  have h : me_l (mX12_documentOf_63_L4 M (nI p)) me_fu (nI 0, nI 0) = some (nI (bars T p)) := by
    refine lp_to (fun x => (nI (bars T x), nI x)) (a := 0) (N := p) (by omega) (by omega) (fun x _ hx => ?_) ?_
    · simp only [mX12_documentOf_63_L4, mX12_documentOf_63_J35]
      have := hT9 x
      by_cases c : T x = 1
      · simp (disch := omega) only [Option.bind_some, if_true, if_false, Sum.elim_inl, Sum.elim_inr, li0, li1, li2, li3, li4, li5, li6, li7, li8, li9, li10, li12, li16, li20, li24, li25, li31, li32, li40, li41, li42, li48, li57, li59, li97, li104, li105, li124, li126, li240, li241, nI_add, nI_subc, nI_subm, nI_mulc, nI_nm, pu_r, pu_t, pu_a, pu_le_t, pu_le_f, pu_lt_t, pu_lt_f, pu_eq_t, pu_eq_f, nm_eq, nm_eq2, nm_lt, nm_lt2, nm_le, nm_le2, nm_ss, nm_sp, pu_ss, pu_snq, pu_neq, eq_self, and_true, true_and, and_false, false_and, or_true, true_or, or_false, false_or, not_true_eq_false, not_false_eq_true, hM1, hM2, c, bars_succ]
      · simp (disch := omega) only [Option.bind_some, if_true, if_false, Sum.elim_inl, Sum.elim_inr, li0, li1, li2, li3, li4, li5, li6, li7, li8, li9, li10, li12, li16, li20, li24, li25, li31, li32, li40, li41, li42, li48, li57, li59, li97, li104, li105, li124, li126, li240, li241, nI_add, nI_subc, nI_subm, nI_mulc, nI_nm, pu_r, pu_t, pu_a, pu_le_t, pu_le_f, pu_lt_t, pu_lt_f, pu_eq_t, pu_eq_f, nm_eq, nm_eq2, nm_lt, nm_lt2, nm_le, nm_le2, nm_ss, nm_sp, pu_ss, pu_snq, pu_neq, eq_self, and_true, true_and, and_false, false_and, or_true, true_or, or_false, false_or, not_true_eq_false, not_false_eq_true, hM1, hM2, bars_succ, if_neg c, Nat.add_zero]
    · simp only [mX12_documentOf_63_L4]
      simp (disch := omega) only [Option.bind_some, if_true, if_false, Sum.elim_inl, Sum.elim_inr, li0, li1, li2, li3, li4, li5, li6, li7, li8, li9, li10, li12, li16, li20, li24, li25, li31, li32, li40, li41, li42, li48, li57, li59, li97, li104, li105, li124, li126, li240, li241, nI_add, nI_subc, nI_subm, nI_mulc, nI_nm, pu_r, pu_t, pu_a, pu_le_t, pu_le_f, pu_lt_t, pu_lt_f, pu_eq_t, pu_eq_f, nm_eq, nm_eq2, nm_lt, nm_lt2, nm_le, nm_le2, nm_ss, nm_sp, pu_ss, pu_snq, pu_neq, eq_self, and_true, true_and, and_false, false_and, or_true, true_or, or_false, false_or, not_true_eq_false, not_false_eq_true, hM1]
  unfold mX12_documentOf_63
  simp (disch := omega) only [Option.bind_some, if_true, if_false, Sum.elim_inl, Sum.elim_inr, li0, li1, li2, li3, li4, li5, li6, li7, li8, li9, li10, li12, li16, li20, li24, li25, li31, li32, li40, li41, li42, li48, li57, li59, li97, li104, li105, li124, li126, li240, li241, nI_add, nI_subc, nI_subm, nI_mulc, nI_nm, pu_r, pu_t, pu_a, pu_le_t, pu_le_f, pu_lt_t, pu_lt_f, pu_eq_t, pu_eq_f, nm_eq, nm_eq2, nm_lt, nm_lt2, nm_le, nm_le2, nm_ss, nm_sp, pu_ss, pu_snq, pu_neq, eq_self, and_true, true_and, and_false, false_and, or_true, true_or, or_false, false_or, not_true_eq_false, not_false_eq_true, h]
theorem r_beginOf {T : Nat → Nat} {n d : Nat} {M : me_M} (hT : tx9 T n) (hM : rx T n M) (hd : d ≤ bars T n) : mX12_beginOf_63 M (nI d) = some (nI (bo T n d)) := by
  obtain ⟨hM1, hM2⟩ := hM
  obtain ⟨-, hT9, -, hn⟩ := hT
  obtain ⟨b1, b2, b3, b4⟩ := bo_ok hd
  have hbn : bars T n ≤ n := ct_le _ _
  have h : me_l (mX12_beginOf_63_L4 M) me_fu (nI d, nI 0) = some (nI (bo T n d)) := by
    refine lp_to (fun x => (nI (d - bars T x), nI x)) (a := 0) (N := bo T n d) (by omega) (by omega) (fun x _ hx => ?_) ?_
    · simp only [mX12_beginOf_63_L4, mX12_beginOf_63_J26]
      have := hT9 x
      have h1 := (bo_iff (T := T) (n := n) (d := d) (show x ≤ n by omega)).mpr hx
      by_cases c : T x = 1
      · simp (disch := omega) only [Option.bind_some, if_true, if_false, Sum.elim_inl, Sum.elim_inr, li0, li1, li2, li3, li4, li5, li6, li7, li8, li9, li10, li12, li16, li20, li24, li25, li31, li32, li40, li41, li42, li48, li57, li59, li97, li104, li105, li124, li126, li240, li241, nI_add, nI_subc, nI_subm, nI_mulc, nI_nm, pu_r, pu_t, pu_a, pu_le_t, pu_le_f, pu_lt_t, pu_lt_f, pu_eq_t, pu_eq_f, nm_eq, nm_eq2, nm_lt, nm_lt2, nm_le, nm_le2, nm_ss, nm_sp, pu_ss, pu_snq, pu_neq, eq_self, and_true, true_and, and_false, false_and, or_true, true_or, or_false, false_or, not_true_eq_false, not_false_eq_true, hM1, hM2, c, bars_succ, show d - bars T x - 1 = d - (bars T x + 1) by omega]
      · simp (disch := omega) only [Option.bind_some, if_true, if_false, Sum.elim_inl, Sum.elim_inr, li0, li1, li2, li3, li4, li5, li6, li7, li8, li9, li10, li12, li16, li20, li24, li25, li31, li32, li40, li41, li42, li48, li57, li59, li97, li104, li105, li124, li126, li240, li241, nI_add, nI_subc, nI_subm, nI_mulc, nI_nm, pu_r, pu_t, pu_a, pu_le_t, pu_le_f, pu_lt_t, pu_lt_f, pu_eq_t, pu_eq_f, nm_eq, nm_eq2, nm_lt, nm_lt2, nm_le, nm_le2, nm_ss, nm_sp, pu_ss, pu_snq, pu_neq, eq_self, and_true, true_and, and_false, false_and, or_true, true_or, or_false, false_or, not_true_eq_false, not_false_eq_true, hM1, hM2, bars_succ, if_neg c, Nat.add_zero, Nat.sub_zero]
    · simp only [mX12_beginOf_63_L4]
      simp (disch := omega) only [Option.bind_some, if_true, if_false, Sum.elim_inl, Sum.elim_inr, li0, li1, li2, li3, li4, li5, li6, li7, li8, li9, li10, li12, li16, li20, li24, li25, li31, li32, li40, li41, li42, li48, li57, li59, li97, li104, li105, li124, li126, li240, li241, nI_add, nI_subc, nI_subm, nI_mulc, nI_nm, pu_r, pu_t, pu_a, pu_le_t, pu_le_f, pu_lt_t, pu_lt_f, pu_eq_t, pu_eq_f, nm_eq, nm_eq2, nm_lt, nm_lt2, nm_le, nm_le2, nm_ss, nm_sp, pu_ss, pu_snq, pu_neq, eq_self, and_true, true_and, and_false, false_and, or_true, true_or, or_false, false_or, not_true_eq_false, not_false_eq_true, b2, Nat.sub_self]
  unfold mX12_beginOf_63
  simp (disch := omega) only [Option.bind_some, if_true, if_false, Sum.elim_inl, Sum.elim_inr, li0, li1, li2, li3, li4, li5, li6, li7, li8, li9, li10, li12, li16, li20, li24, li25, li31, li32, li40, li41, li42, li48, li57, li59, li97, li104, li105, li124, li126, li240, li241, nI_add, nI_subc, nI_subm, nI_mulc, nI_nm, pu_r, pu_t, pu_a, pu_le_t, pu_le_f, pu_lt_t, pu_lt_f, pu_eq_t, pu_eq_f, nm_eq, nm_eq2, nm_lt, nm_lt2, nm_le, nm_le2, nm_ss, nm_sp, pu_ss, pu_snq, pu_neq, eq_self, and_true, true_and, and_false, false_and, or_true, true_or, or_false, false_or, not_true_eq_false, not_false_eq_true, h]
theorem c_isHit {T : Nat → Nat} {n m p : Nat} {W X : Nat → Nat} {M : me_M} (hT : tx9 T n) (hx : cx T n M) (h : cu T n m W X M) (hQ : ∀ i, i < m → 0 < wn W X m i) (hp : p ≤ n) : mX11_isHit_0 M (nI p) = some (nI (if decide (cp T n m (wn W X m) p = 1) = true then 1 else 0)) := by
  have hn := hT.2.2.2
  have hr := (hx.2.1.2.1 p hp).2
  obtain ⟨s1, s2, s3⟩ := cu_sp h
  have l1 := lo_iff hT.1 hQ hp
  have l2 := hi_iff hT.1 hQ hp
  have l3 : LO T n m (wn W X m) + SZ T n m (wn W X m) ≤ n + 1 := lo_le
  have l5 := rk_lt (T := T) hp
  unfold mX11_isHit_0
  by_cases a : rk T n p < LO T n m (wn W X m)
  · have hc : decide (cp T n m (wn W X m) p = 1) = false := decide_eq_false (by rw [l1.mpr a]; decide)
    simp (disch := omega) only [Option.bind_some, if_true, if_false, Sum.elim_inl, Sum.elim_inr, li0, li1, li2, li3, li4, li5, li6, li7, li8, li9, li10, li12, li16, li20, li24, li25, li31, li32, li40, li41, li42, li48, li57, li59, li97, li104, li105, li124, li126, li240, li241, nI_add, nI_subc, nI_subm, nI_mulc, nI_nm, pu_r, pu_t, pu_a, pu_le_t, pu_le_f, pu_lt_t, pu_lt_f, pu_eq_t, pu_eq_f, nm_eq, nm_eq2, nm_lt, nm_lt2, nm_le, nm_le2, nm_ss, nm_sp, pu_ss, pu_snq, pu_neq, eq_self, and_true, true_and, and_false, false_and, or_true, true_or, or_false, false_or, not_true_eq_false, not_false_eq_true, hr, s1, s3, nI_sneg, hc, Bool.false_eq_true]
  · by_cases b : rk T n p < LO T n m (wn W X m) + SZ T n m (wn W X m)
    · have hc : decide (cp T n m (wn W X m) p = 1) = true := decide_eq_true (by
        have h1 := l2.mpr b
        have h2 : ¬ cp T n m (wn W X m) p = 0 := fun z => a (l1.mp z)
        omega)
      simp (disch := omega) only [Option.bind_some, if_true, if_false, Sum.elim_inl, Sum.elim_inr, li0, li1, li2, li3, li4, li5, li6, li7, li8, li9, li10, li12, li16, li20, li24, li25, li31, li32, li40, li41, li42, li48, li57, li59, li97, li104, li105, li124, li126, li240, li241, nI_add, nI_subc, nI_subm, nI_mulc, nI_nm, pu_r, pu_t, pu_a, pu_le_t, pu_le_f, pu_lt_t, pu_lt_f, pu_eq_t, pu_eq_f, nm_eq, nm_eq2, nm_lt, nm_lt2, nm_le, nm_le2, nm_ss, nm_sp, pu_ss, pu_snq, pu_neq, eq_self, and_true, true_and, and_false, false_and, or_true, true_or, or_false, false_or, not_true_eq_false, not_false_eq_true, hr, s1, s3, hc]
    · have hc : decide (cp T n m (wn W X m) p = 1) = false := decide_eq_false (fun z => b (l2.mp (by omega)))
      simp (disch := omega) only [Option.bind_some, if_true, if_false, Sum.elim_inl, Sum.elim_inr, li0, li1, li2, li3, li4, li5, li6, li7, li8, li9, li10, li12, li16, li20, li24, li25, li31, li32, li40, li41, li42, li48, li57, li59, li97, li104, li105, li124, li126, li240, li241, nI_add, nI_subc, nI_subm, nI_mulc, nI_nm, pu_r, pu_t, pu_a, pu_le_t, pu_le_f, pu_lt_t, pu_lt_f, pu_eq_t, pu_eq_f, nm_eq, nm_eq2, nm_lt, nm_lt2, nm_le, nm_le2, nm_ss, nm_sp, pu_ss, pu_snq, pu_neq, eq_self, and_true, true_and, and_false, false_and, or_true, true_or, or_false, false_or, not_true_eq_false, not_false_eq_true, hr, s1, s3, hc, Bool.false_eq_true]
theorem ex_next (H : Nat → Bool) {N : Nat} : ∀ d a, a + d = N → ct H a < ct H N → ∃ q, a ≤ q ∧ q < N ∧ H q = true ∧ ct H q = ct H a ∧ ∀ j, a ≤ j → j < q → H j = false
  | 0, a, h, hc => by rw [show a = N by omega] at hc; exact absurd hc (Nat.lt_irrefl _)
  | d + 1, a, h, hc => by
    cases e : H a with
    | true => exact ⟨a, Nat.le_refl _, by omega, e, rfl, fun j h1 h2 => absurd h1 (by omega)⟩
    | false =>
      have h1 : ct H (a + 1) = ct H a := by rw [ct_s, e]; rfl
      obtain ⟨q, q1, q2, q3, q4, q5⟩ := ex_next (N := N) H d (a + 1) (by omega) (by omega)
      refine ⟨q, by omega, q2, q3, by omega, fun j j1 j2 => ?_⟩
      by_cases z : j = a
      · rw [z]; exact e
      · exact q5 j (by omega) j2
theorem c_next {n a q : Nat} {H : Nat → Bool} {M : me_M} (hn : n ≤ 240) (h3 : M.1 3 5 = nI n) (hi : ∀ p, p ≤ n → mX11_isHit_0 M (nI p) = some (nI (if H p = true then 1 else 0))) (h1 : a ≤ q) (h2 : q ≤ n) (hq : H q = true) (hj : ∀ j, a ≤ j → j < q → H j = false) : mX11_nextHit_0 M (nI a) = some (nI q) := by
  have h : me_l (mX11_nextHit_0_L2 M) me_fu (nI a) = some (.inr (nI q)) := by
    refine lp_to (fun x => nI x) (a := a) (N := q) h1 (by omega) (fun x hx1 hx => ?_) ?_
    · simp only [mX11_nextHit_0_L2]
      simp (disch := omega) only [Option.bind_some, if_true, if_false, Sum.elim_inl, Sum.elim_inr, li0, li1, li2, li3, li4, li5, li6, li7, li8, li9, li10, li12, li16, li20, li24, li25, li31, li32, li40, li41, li42, li48, li57, li59, li97, li104, li105, li124, li126, li240, li241, nI_add, nI_subc, nI_subm, nI_mulc, nI_nm, pu_r, pu_t, pu_a, pu_le_t, pu_le_f, pu_lt_t, pu_lt_f, pu_eq_t, pu_eq_f, nm_eq, nm_eq2, nm_lt, nm_lt2, nm_le, nm_le2, nm_ss, nm_sp, pu_ss, pu_snq, pu_neq, eq_self, and_true, true_and, and_false, false_and, or_true, true_or, or_false, false_or, not_true_eq_false, not_false_eq_true, h3, hi, hj x hx1 hx, Bool.false_eq_true]
    · simp only [mX11_nextHit_0_L2]
      simp (disch := omega) only [Option.bind_some, if_true, if_false, Sum.elim_inl, Sum.elim_inr, li0, li1, li2, li3, li4, li5, li6, li7, li8, li9, li10, li12, li16, li20, li24, li25, li31, li32, li40, li41, li42, li48, li57, li59, li97, li104, li105, li124, li126, li240, li241, nI_add, nI_subc, nI_subm, nI_mulc, nI_nm, pu_r, pu_t, pu_a, pu_le_t, pu_le_f, pu_lt_t, pu_lt_f, pu_eq_t, pu_eq_f, nm_eq, nm_eq2, nm_lt, nm_lt2, nm_le, nm_le2, nm_ss, nm_sp, pu_ss, pu_snq, pu_neq, eq_self, and_true, true_and, and_false, false_and, or_true, true_or, or_false, false_or, not_true_eq_false, not_false_eq_true, h3, hi, hq]
  unfold mX11_nextHit_0
  simp (disch := omega) only [Option.bind_some, if_true, if_false, Sum.elim_inl, Sum.elim_inr, li0, li1, li2, li3, li4, li5, li6, li7, li8, li9, li10, li12, li16, li20, li24, li25, li31, li32, li40, li41, li42, li48, li57, li59, li97, li104, li105, li124, li126, li240, li241, nI_add, nI_subc, nI_subm, nI_mulc, nI_nm, pu_r, pu_t, pu_a, pu_le_t, pu_le_f, pu_lt_t, pu_lt_f, pu_eq_t, pu_eq_f, nm_eq, nm_eq2, nm_lt, nm_lt2, nm_le, nm_le2, nm_ss, nm_sp, pu_ss, pu_snq, pu_neq, eq_self, and_true, true_and, and_false, false_and, or_true, true_or, or_false, false_or, not_true_eq_false, not_false_eq_true, h]
theorem c_next0 {n a : Nat} {H : Nat → Bool} {M : me_M} (hn : n ≤ 240) (h3 : M.1 3 5 = nI n) (hi : ∀ p, p ≤ n → mX11_isHit_0 M (nI p) = some (nI (if H p = true then 1 else 0))) (h1 : a ≤ n + 1) (hj : ∀ j, a ≤ j → j ≤ n → H j = false) : mX11_nextHit_0 M (nI a) = some (-nI 1) := by
  have h : me_l (mX11_nextHit_0_L2 M) me_fu (nI a) = some (.inl ()) := by
    refine lp_to (fun x => nI x) (a := a) (N := n + 1) h1 (by omega) (fun x hx1 hx => ?_) ?_
    · simp only [mX11_nextHit_0_L2]
      simp (disch := omega) only [Option.bind_some, if_true, if_false, Sum.elim_inl, Sum.elim_inr, li0, li1, li2, li3, li4, li5, li6, li7, li8, li9, li10, li12, li16, li20, li24, li25, li31, li32, li40, li41, li42, li48, li57, li59, li97, li104, li105, li124, li126, li240, li241, nI_add, nI_subc, nI_subm, nI_mulc, nI_nm, pu_r, pu_t, pu_a, pu_le_t, pu_le_f, pu_lt_t, pu_lt_f, pu_eq_t, pu_eq_f, nm_eq, nm_eq2, nm_lt, nm_lt2, nm_le, nm_le2, nm_ss, nm_sp, pu_ss, pu_snq, pu_neq, eq_self, and_true, true_and, and_false, false_and, or_true, true_or, or_false, false_or, not_true_eq_false, not_false_eq_true, h3, hi, hj x hx1 (by omega), Bool.false_eq_true]
    · simp only [mX11_nextHit_0_L2]
      simp (disch := omega) only [Option.bind_some, if_true, if_false, Sum.elim_inl, Sum.elim_inr, li0, li1, li2, li3, li4, li5, li6, li7, li8, li9, li10, li12, li16, li20, li24, li25, li31, li32, li40, li41, li42, li48, li57, li59, li97, li104, li105, li124, li126, li240, li241, nI_add, nI_subc, nI_subm, nI_mulc, nI_nm, pu_r, pu_t, pu_a, pu_le_t, pu_le_f, pu_lt_t, pu_lt_f, pu_eq_t, pu_eq_f, nm_eq, nm_eq2, nm_lt, nm_lt2, nm_le, nm_le2, nm_ss, nm_sp, pu_ss, pu_snq, pu_neq, eq_self, and_true, true_and, and_false, false_and, or_true, true_or, or_false, false_or, not_true_eq_false, not_false_eq_true, h3]
  unfold mX11_nextHit_0
  simp (disch := omega) only [Option.bind_some, if_true, if_false, Sum.elim_inl, Sum.elim_inr, li0, li1, li2, li3, li4, li5, li6, li7, li8, li9, li10, li12, li16, li20, li24, li25, li31, li32, li40, li41, li42, li48, li57, li59, li97, li104, li105, li124, li126, li240, li241, nI_add, nI_subc, nI_subm, nI_mulc, nI_nm, pu_r, pu_t, pu_a, pu_le_t, pu_le_f, pu_lt_t, pu_lt_f, pu_eq_t, pu_eq_f, nm_eq, nm_eq2, nm_lt, nm_lt2, nm_le, nm_le2, nm_ss, nm_sp, pu_ss, pu_snq, pu_neq, eq_self, and_true, true_and, and_false, false_and, or_true, true_or, or_false, false_or, not_true_eq_false, not_false_eq_true, h]
theorem c_placeOfHit {n k : Nat} {H : Nat → Bool} {M : me_M} (hn : n ≤ 240) (h3 : M.1 3 5 = nI n) (hi : ∀ p, p ≤ n → mX11_isHit_0 M (nI p) = some (nI (if H p = true then 1 else 0))) (hs : mX0_size_19 M = some (nI (ct H (n + 1)))) (hk : k < ct H (n + 1)) : ∃ q, q ≤ n ∧ H q = true ∧ ct H q = k ∧ mX11_placeOfHit_0 M (nI k) = some (nI q) := by
  have hle := ct_le H (n + 1)
  have hc0 : ct H 0 = 0 := rfl
  obtain ⟨q0, a1, a2, a3, a4, a5⟩ := ex_next (N := n + 1) H (n + 1) 0 (by omega) (by omega)
  have e0 := c_next hn h3 hi a1 (by omega) a3 a5
  obtain ⟨r, e, q, hq1, hq2, hq3, hq4⟩ := lp_up (b := mX11_placeOfHit_0_L25 M (nI k)) (fun i s => ∃ p, s = (nI p, nI i) ∧ p ≤ n ∧ H p = true ∧ ct H p = i) (fun r => ∃ p, r = nI p ∧ p ≤ n ∧ H p = true ∧ ct H p = k) (a := 0) (N := k) (by omega) (by omega) (fun i s _ hik hs => by
    obtain ⟨p, rfl, p1, p2, p3⟩ := hs
    left
    have hc1 : ct H (p + 1) = i + 1 := by rw [ct_s, p2, p3]; rfl
    obtain ⟨q, b1, b2, b3, b4, b5⟩ := ex_next (N := n + 1) H (n + 1 - (p + 1)) (p + 1) (by omega) (by omega)
    have e1 := c_next hn h3 hi b1 (by omega) b3 b5
    refine ⟨(nI q, nI (i + 1)), ?_, q, rfl, by omega, b3, by omega⟩
    simp only [mX11_placeOfHit_0_L25]
    simp (disch := omega) only [Option.bind_some, if_true, if_false, Sum.elim_inl, Sum.elim_inr, li0, li1, li2, li3, li4, li5, li6, li7, li8, li9, li10, li12, li16, li20, li24, li25, li31, li32, li40, li41, li42, li48, li57, li59, li97, li104, li105, li124, li126, li240, li241, nI_add, nI_subc, nI_subm, nI_mulc, nI_nm, pu_r, pu_t, pu_a, pu_le_t, pu_le_f, pu_lt_t, pu_lt_f, pu_eq_t, pu_eq_f, nm_eq, nm_eq2, nm_lt, nm_lt2, nm_le, nm_le2, nm_ss, nm_sp, pu_ss, pu_snq, pu_neq, eq_self, and_true, true_and, and_false, false_and, or_true, true_or, or_false, false_or, not_true_eq_false, not_false_eq_true, e1]) (fun s hs => by
    obtain ⟨p, rfl, p1, p2, p3⟩ := hs
    refine ⟨nI p, ?_, p, rfl, p1, p2, p3⟩
    simp only [mX11_placeOfHit_0_L25]
    simp (disch := omega) only [Option.bind_some, if_true, if_false, Sum.elim_inl, Sum.elim_inr, li0, li1, li2, li3, li4, li5, li6, li7, li8, li9, li10, li12, li16, li20, li24, li25, li31, li32, li40, li41, li42, li48, li57, li59, li97, li104, li105, li124, li126, li240, li241, nI_add, nI_subc, nI_subm, nI_mulc, nI_nm, pu_r, pu_t, pu_a, pu_le_t, pu_le_f, pu_lt_t, pu_lt_f, pu_eq_t, pu_eq_f, nm_eq, nm_eq2, nm_lt, nm_lt2, nm_le, nm_le2, nm_ss, nm_sp, pu_ss, pu_snq, pu_neq, eq_self, and_true, true_and, and_false, false_and, or_true, true_or, or_false, false_or, not_true_eq_false, not_false_eq_true]) (s0 := (nI q0, nI 0)) ⟨q0, rfl, by omega, a3, by omega⟩
  refine ⟨q, hq2, hq3, hq4, ?_⟩
  unfold mX11_placeOfHit_0
  simp (disch := omega) only [Option.bind_some, if_true, if_false, Sum.elim_inl, Sum.elim_inr, li0, li1, li2, li3, li4, li5, li6, li7, li8, li9, li10, li12, li16, li20, li24, li25, li31, li32, li40, li41, li42, li48, li57, li59, li97, li104, li105, li124, li126, li240, li241, nI_add, nI_subc, nI_subm, nI_mulc, nI_nm, pu_r, pu_t, pu_a, pu_le_t, pu_le_f, pu_lt_t, pu_lt_f, pu_eq_t, pu_eq_f, nm_eq, nm_eq2, nm_lt, nm_lt2, nm_le, nm_le2, nm_ss, nm_sp, pu_ss, pu_snq, pu_neq, eq_self, and_true, true_and, and_false, false_and, or_true, true_or, or_false, false_or, not_true_eq_false, not_false_eq_true, hs, e0, e, hq1]
theorem c_noHit {N : Nat} {M : me_M} {a : Int32} (hN : N < 2 ^ 31) (hs : mX0_size_19 M = some (nI N)) (hb : iB a (nI 0) (dn N) = false) : mX11_placeOfHit_0 M a = some (-nI 1) := by
  have h := c_rng (α := Bool) (a := a) (m := N) (A := false) (B := true) hN
  rw [hb, if_neg Bool.false_ne_true] at h
  unfold mX11_placeOfHit_0
  rw [hs, li0, li1]
  by_cases c : a < nI 0
  · rw [if_pos c]
  · rw [if_neg c] at h ⊢
    by_cases d : nI N ≤ a
    · show (if a < nI N then _ else some (-nI 1)) = some (-nI 1)
      rw [if_neg (fun z => nlt_le.mp z d)]
    · rw [if_neg d] at h
      exact absurd h (by decide)
theorem dn_eq {a k : Nat} (ha : a < 2 ^ 31) (hk : k < 2 ^ 31) : (dn a = nI k) = (a = k + 1) := by
  match a with
  | 0 => rw [dn_0, nm_eq2 hk]; exact (eq_false (by omega)).symm
  | a + 1 => rw [dn_s]; exact propext ⟨fun z => by have := (nI_eq (by omega) hk).mp z; omega, fun z => by rw [show a = k by omega]⟩
theorem r_hitAt {n k q : Nat} {H : Nat → Bool} {M : me_M} (hn : n ≤ 240) (h3 : M.1 63 5 = nI n) (hi : ∀ p, p ≤ n → mX12_isHit_63 M (nI p) = some (nI (if H p = true then 1 else 0))) (hq : q ≤ n) (hH : H q = true) (hk : ct H q = k) : mX12_hitAt_63 M (nI k) = some (nI q) := by
  have hle := ct_le H q
  have h : me_l (mX12_hitAt_63_L4 M (nI k)) me_fu (-nI 1, nI 0) = some (.inr (nI q)) := by
    refine lp_to (fun x => (dn (ct H x), nI x)) (a := 0) (N := q) (by omega) (by omega) (fun x _ hx => ?_) ?_
    · simp only [mX12_hitAt_63_L4, mX12_hitAt_63_J26]
      have h1 : ct H (x + 1) ≤ ct H q := ct_mono' H (by omega)
      have h2 := ct_le H (x + 1)
      have h5 : (dn (ct H (x + 1)) = nI k) = False := by rw [dn_eq (by omega) (by omega)]; exact eq_false (by omega)
      cases c : H x with
      | true =>
        have e : ct H (x + 1) = ct H x + 1 := by rw [ct_s, c]; rfl
        rw [e, dn_s] at h5
        simp (disch := omega) only [Option.bind_some, if_true, if_false, Sum.elim_inl, Sum.elim_inr, li0, li1, li2, li3, li4, li5, li6, li7, li8, li9, li10, li12, li16, li20, li24, li25, li31, li32, li40, li41, li42, li48, li57, li59, li97, li104, li105, li124, li126, li240, li241, nI_add, nI_subc, nI_subm, nI_mulc, nI_nm, pu_r, pu_t, pu_a, pu_le_t, pu_le_f, pu_lt_t, pu_lt_f, pu_eq_t, pu_eq_f, nm_eq, nm_eq2, nm_lt, nm_lt2, nm_le, nm_le2, nm_ss, nm_sp, pu_ss, pu_snq, pu_neq, eq_self, and_true, true_and, and_false, false_and, or_true, true_or, or_false, false_or, not_true_eq_false, not_false_eq_true, h3, hi, c, dn_a, h5, e, dn_s]
      | false =>
        have e : ct H (x + 1) = ct H x := by rw [ct_s, c]; rfl
        rw [e] at h5
        simp (disch := omega) only [Option.bind_some, if_true, if_false, Sum.elim_inl, Sum.elim_inr, li0, li1, li2, li3, li4, li5, li6, li7, li8, li9, li10, li12, li16, li20, li24, li25, li31, li32, li40, li41, li42, li48, li57, li59, li97, li104, li105, li124, li126, li240, li241, nI_add, nI_subc, nI_subm, nI_mulc, nI_nm, pu_r, pu_t, pu_a, pu_le_t, pu_le_f, pu_lt_t, pu_lt_f, pu_eq_t, pu_eq_f, nm_eq, nm_eq2, nm_lt, nm_lt2, nm_le, nm_le2, nm_ss, nm_sp, pu_ss, pu_snq, pu_neq, eq_self, and_true, true_and, and_false, false_and, or_true, true_or, or_false, false_or, not_true_eq_false, not_false_eq_true, h3, hi, c, dn_z, h5, e, Bool.false_eq_true]
    · simp only [mX12_hitAt_63_L4, mX12_hitAt_63_J26]
      simp (disch := omega) only [Option.bind_some, if_true, if_false, Sum.elim_inl, Sum.elim_inr, li0, li1, li2, li3, li4, li5, li6, li7, li8, li9, li10, li12, li16, li20, li24, li25, li31, li32, li40, li41, li42, li48, li57, li59, li97, li104, li105, li124, li126, li240, li241, nI_add, nI_subc, nI_subm, nI_mulc, nI_nm, pu_r, pu_t, pu_a, pu_le_t, pu_le_f, pu_lt_t, pu_lt_f, pu_eq_t, pu_eq_f, nm_eq, nm_eq2, nm_lt, nm_lt2, nm_le, nm_le2, nm_ss, nm_sp, pu_ss, pu_snq, pu_neq, eq_self, and_true, true_and, and_false, false_and, or_true, true_or, or_false, false_or, not_true_eq_false, not_false_eq_true, h3, hi, hH, dn_a, hk]
  unfold mX12_hitAt_63
  simp (disch := omega) only [Option.bind_some, if_true, if_false, Sum.elim_inl, Sum.elim_inr, li0, li1, li2, li3, li4, li5, li6, li7, li8, li9, li10, li12, li16, li20, li24, li25, li31, li32, li40, li41, li42, li48, li57, li59, li97, li104, li105, li124, li126, li240, li241, nI_add, nI_subc, nI_subm, nI_mulc, nI_nm, pu_r, pu_t, pu_a, pu_le_t, pu_le_f, pu_lt_t, pu_lt_f, pu_eq_t, pu_eq_f, nm_eq, nm_eq2, nm_lt, nm_lt2, nm_le, nm_le2, nm_ss, nm_sp, pu_ss, pu_snq, pu_neq, eq_self, and_true, true_and, and_false, false_and, or_true, true_or, or_false, false_or, not_true_eq_false, not_false_eq_true, h]
theorem c_hitsIn {T : Nat → Nat} {n d : Nat} {H : Nat → Bool} {M : me_M} (hT : tx9 T n) (h3 : M.1 3 5 = nI n) (hdc : tx_docs T n M) (hi : ∀ p, p ≤ n → mX11_isHit_0 M (nI p) = some (nI (if H p = true then 1 else 0))) (hd : d ≤ bars T n) : mX11_hitsIn_0 M (nI d) = some (nI (ct (fun p => H p && decide (bars T p = d)) (n + 1))) := by
  have hn := hT.2.2.2
  have hbn : bars T n ≤ n := ct_le _ _
  obtain ⟨b1, b2, b3, b4⟩ := bo_ok hd
  have e8 := c_first hdc hd
  have hN : bo T n (d + 1) ≤ n + 1 := ct_le _ _
  have hlt : bo T n d < bo T n (d + 1) := (bo_iff b1).mp (by omega)
  have hG0 : ct (fun p => H p && decide (bars T p = d)) (bo T n d) = 0 := ct_zero _ (fun i hi => by
    have := (bo_iff (T := T) (n := n) (d := d) (show i ≤ n by omega)).mpr hi
    rw [decide_eq_false (by omega), Bool.and_false])
  have hGN : ct (fun p => H p && decide (bars T p = d)) (n + 1) = ct (fun p => H p && decide (bars T p = d)) (bo T n (d + 1)) := ct_cut (n + 1) hN (fun i h1 h2 => by
    have := (bo_nif (T := T) (n := n) (d := d + 1) (show i ≤ n by omega)).mpr (by omega)
    rw [decide_eq_false (by omega), Bool.and_false])
  have h : me_l (mX11_hitsIn_0_L12 M (nI d)) me_fu (nI 0, nI (bo T n d)) = some (nI (ct (fun p => H p && decide (bars T p = d)) (n + 1))) := by
    rw [hGN]
    have hl := lp_to (b := mX11_hitsIn_0_L12 M (nI d)) (fun x => (nI (ct (fun p => H p && decide (bars T p = d)) x), nI x)) (a := bo T n d) (N := bo T n (d + 1)) (r := nI (ct (fun p => H p && decide (bars T p = d)) (bo T n (d + 1)))) (by omega) (by omega) (fun x hx1 hx => ?_) ?_
    · rw [hG0] at hl; exact hl
    · simp only [mX11_hitsIn_0_L12, mX11_hitsIn_0_J50]
      have h7 := hdc.1
      have q1 := (bo_iff (T := T) (n := n) (d := d + 1) (show x ≤ n by omega)).mpr hx
      have q2 := (bo_nif (T := T) (n := n) (d := d) (show x ≤ n by omega)).mpr (by omega)
      have q3 : bars T x = d := by omega
      cases c : H x with
      | true => simp (disch := omega) only [Option.bind_some, if_true, if_false, Sum.elim_inl, Sum.elim_inr, li0, li1, li2, li3, li4, li5, li6, li7, li8, li9, li10, li12, li16, li20, li24, li25, li31, li32, li40, li41, li42, li48, li57, li59, li97, li104, li105, li124, li126, li240, li241, nI_add, nI_subc, nI_subm, nI_mulc, nI_nm, pu_r, pu_t, pu_a, pu_le_t, pu_le_f, pu_lt_t, pu_lt_f, pu_eq_t, pu_eq_f, nm_eq, nm_eq2, nm_lt, nm_lt2, nm_le, nm_le2, nm_ss, nm_sp, pu_ss, pu_snq, pu_neq, eq_self, and_true, true_and, and_false, false_and, or_true, true_or, or_false, false_or, not_true_eq_false, not_false_eq_true, h3, h7, hi, c, ct_s, Bool.true_and, decide_eq_true q3]
      | false => simp (disch := omega) only [Option.bind_some, if_true, if_false, Sum.elim_inl, Sum.elim_inr, li0, li1, li2, li3, li4, li5, li6, li7, li8, li9, li10, li12, li16, li20, li24, li25, li31, li32, li40, li41, li42, li48, li57, li59, li97, li104, li105, li124, li126, li240, li241, nI_add, nI_subc, nI_subm, nI_mulc, nI_nm, pu_r, pu_t, pu_a, pu_le_t, pu_le_f, pu_lt_t, pu_lt_f, pu_eq_t, pu_eq_f, nm_eq, nm_eq2, nm_lt, nm_lt2, nm_le, nm_le2, nm_ss, nm_sp, pu_ss, pu_snq, pu_neq, eq_self, and_true, true_and, and_false, false_and, or_true, true_or, or_false, false_or, not_true_eq_false, not_false_eq_true, h3, h7, hi, c, ct_s, Bool.false_and, Bool.false_eq_true, Nat.add_zero]
    · simp only [mX11_hitsIn_0_L12, mX11_hitsIn_0_J50]
      have h7 := hdc.1
      by_cases c : n < bo T n (d + 1)
      · simp (disch := omega) only [Option.bind_some, if_true, if_false, Sum.elim_inl, Sum.elim_inr, li0, li1, li2, li3, li4, li5, li6, li7, li8, li9, li10, li12, li16, li20, li24, li25, li31, li32, li40, li41, li42, li48, li57, li59, li97, li104, li105, li124, li126, li240, li241, nI_add, nI_subc, nI_subm, nI_mulc, nI_nm, pu_r, pu_t, pu_a, pu_le_t, pu_le_f, pu_lt_t, pu_lt_f, pu_eq_t, pu_eq_f, nm_eq, nm_eq2, nm_lt, nm_lt2, nm_le, nm_le2, nm_ss, nm_sp, pu_ss, pu_snq, pu_neq, eq_self, and_true, true_and, and_false, false_and, or_true, true_or, or_false, false_or, not_true_eq_false, not_false_eq_true, h3]
      · have q1 := (bo_nif (T := T) (n := n) (d := d + 1) (show bo T n (d + 1) ≤ n by omega)).mpr (by omega)
        have q2 : bars T (bo T n (d + 1)) ≤ bo T n (d + 1) := ct_le _ _
        simp (disch := omega) only [Option.bind_some, if_true, if_false, Sum.elim_inl, Sum.elim_inr, li0, li1, li2, li3, li4, li5, li6, li7, li8, li9, li10, li12, li16, li20, li24, li25, li31, li32, li40, li41, li42, li48, li57, li59, li97, li104, li105, li124, li126, li240, li241, nI_add, nI_subc, nI_subm, nI_mulc, nI_nm, pu_r, pu_t, pu_a, pu_le_t, pu_le_f, pu_lt_t, pu_lt_f, pu_eq_t, pu_eq_f, nm_eq, nm_eq2, nm_lt, nm_lt2, nm_le, nm_le2, nm_ss, nm_sp, pu_ss, pu_snq, pu_neq, eq_self, and_true, true_and, and_false, false_and, or_true, true_or, or_false, false_or, not_true_eq_false, not_false_eq_true, h3, h7]
  unfold mX11_hitsIn_0
  simp (disch := omega) only [Option.bind_some, if_true, if_false, Sum.elim_inl, Sum.elim_inr, li0, li1, li2, li3, li4, li5, li6, li7, li8, li9, li10, li12, li16, li20, li24, li25, li31, li32, li40, li41, li42, li48, li57, li59, li97, li104, li105, li124, li126, li240, li241, nI_add, nI_subc, nI_subm, nI_mulc, nI_nm, pu_r, pu_t, pu_a, pu_le_t, pu_le_f, pu_lt_t, pu_lt_f, pu_eq_t, pu_eq_f, nm_eq, nm_eq2, nm_lt, nm_lt2, nm_le, nm_le2, nm_ss, nm_sp, pu_ss, pu_snq, pu_neq, eq_self, and_true, true_and, and_false, false_and, or_true, true_or, or_false, false_or, not_true_eq_false, not_false_eq_true, e8, h]
theorem r_hitsIn {T : Nat → Nat} {n d : Nat} {H : Nat → Bool} {M : me_M} (hT : tx9 T n) (hM : rx T n M) (hi : ∀ p, p ≤ n → mX12_isHit_63 M (nI p) = some (nI (if H p = true then 1 else 0))) (hd : d ≤ n) : mX12_hitsIn_63 M (nI d) = some (nI (ct (fun p => H p && decide (bars T p = d)) (n + 1))) := by
  have hn := hT.2.2.2
  have h3 := hM.1
  have h : me_l (mX12_hitsIn_63_L4 M (nI d)) me_fu (nI 0, nI 0) = some (nI (ct (fun p => H p && decide (bars T p = d)) (n + 1))) := by
    refine lp_to (fun x => (nI (ct (fun p => H p && decide (bars T p = d)) x), nI x)) (a := 0) (N := n + 1) (by omega) (by omega) (fun x _ hx => ?_) ?_
    · simp only [mX12_hitsIn_63_L4, mX12_hitsIn_63_J34, mX12_hitsIn_63_J35]
      have hb : bars T x ≤ x := ct_le _ _
      cases c : H x with
      | true =>
        by_cases e : bars T x = d
        · simp (disch := omega) only [Option.bind_some, if_true, if_false, Sum.elim_inl, Sum.elim_inr, li0, li1, li2, li3, li4, li5, li6, li7, li8, li9, li10, li12, li16, li20, li24, li25, li31, li32, li40, li41, li42, li48, li57, li59, li97, li104, li105, li124, li126, li240, li241, nI_add, nI_subc, nI_subm, nI_mulc, nI_nm, pu_r, pu_t, pu_a, pu_le_t, pu_le_f, pu_lt_t, pu_lt_f, pu_eq_t, pu_eq_f, nm_eq, nm_eq2, nm_lt, nm_lt2, nm_le, nm_le2, nm_ss, nm_sp, pu_ss, pu_snq, pu_neq, eq_self, and_true, true_and, and_false, false_and, or_true, true_or, or_false, false_or, not_true_eq_false, not_false_eq_true, h3, hi, c, r_documentOf hT hM, ct_s, Bool.true_and, decide_eq_true e]
        · simp (disch := omega) only [Option.bind_some, if_true, if_false, Sum.elim_inl, Sum.elim_inr, li0, li1, li2, li3, li4, li5, li6, li7, li8, li9, li10, li12, li16, li20, li24, li25, li31, li32, li40, li41, li42, li48, li57, li59, li97, li104, li105, li124, li126, li240, li241, nI_add, nI_subc, nI_subm, nI_mulc, nI_nm, pu_r, pu_t, pu_a, pu_le_t, pu_le_f, pu_lt_t, pu_lt_f, pu_eq_t, pu_eq_f, nm_eq, nm_eq2, nm_lt, nm_lt2, nm_le, nm_le2, nm_ss, nm_sp, pu_ss, pu_snq, pu_neq, eq_self, and_true, true_and, and_false, false_and, or_true, true_or, or_false, false_or, not_true_eq_false, not_false_eq_true, h3, hi, c, r_documentOf hT hM, ct_s, Bool.true_and, decide_eq_false e, Bool.false_eq_true, Nat.add_zero]
      | false => simp (disch := omega) only [Option.bind_some, if_true, if_false, Sum.elim_inl, Sum.elim_inr, li0, li1, li2, li3, li4, li5, li6, li7, li8, li9, li10, li12, li16, li20, li24, li25, li31, li32, li40, li41, li42, li48, li57, li59, li97, li104, li105, li124, li126, li240, li241, nI_add, nI_subc, nI_subm, nI_mulc, nI_nm, pu_r, pu_t, pu_a, pu_le_t, pu_le_f, pu_lt_t, pu_lt_f, pu_eq_t, pu_eq_f, nm_eq, nm_eq2, nm_lt, nm_lt2, nm_le, nm_le2, nm_ss, nm_sp, pu_ss, pu_snq, pu_neq, eq_self, and_true, true_and, and_false, false_and, or_true, true_or, or_false, false_or, not_true_eq_false, not_false_eq_true, h3, hi, c, ct_s, Bool.false_and, Bool.false_eq_true, Nat.add_zero]
    · simp only [mX12_hitsIn_63_L4]
      simp (disch := omega) only [Option.bind_some, if_true, if_false, Sum.elim_inl, Sum.elim_inr, li0, li1, li2, li3, li4, li5, li6, li7, li8, li9, li10, li12, li16, li20, li24, li25, li31, li32, li40, li41, li42, li48, li57, li59, li97, li104, li105, li124, li126, li240, li241, nI_add, nI_subc, nI_subm, nI_mulc, nI_nm, pu_r, pu_t, pu_a, pu_le_t, pu_le_f, pu_lt_t, pu_lt_f, pu_eq_t, pu_eq_f, nm_eq, nm_eq2, nm_lt, nm_lt2, nm_le, nm_le2, nm_ss, nm_sp, pu_ss, pu_snq, pu_neq, eq_self, and_true, true_and, and_false, false_and, or_true, true_or, or_false, false_or, not_true_eq_false, not_false_eq_true, h3]
  unfold mX12_hitsIn_63
  simp (disch := omega) only [Option.bind_some, if_true, if_false, Sum.elim_inl, Sum.elim_inr, li0, li1, li2, li3, li4, li5, li6, li7, li8, li9, li10, li12, li16, li20, li24, li25, li31, li32, li40, li41, li42, li48, li57, li59, li97, li104, li105, li124, li126, li240, li241, nI_add, nI_subc, nI_subm, nI_mulc, nI_nm, pu_r, pu_t, pu_a, pu_le_t, pu_le_f, pu_lt_t, pu_lt_f, pu_eq_t, pu_eq_f, nm_eq, nm_eq2, nm_lt, nm_lt2, nm_le, nm_le2, nm_ss, nm_sp, pu_ss, pu_snq, pu_neq, eq_self, and_true, true_and, and_false, false_and, or_true, true_or, or_false, false_or, not_true_eq_false, not_false_eq_true, h]
theorem vA_hit {T : Nat → Nat} {n m : Nat} {W X : Nat → Nat} {t : Nat} {F : Nat → Nat} {S P : Nat} {D : Nat → Nat → Nat → Nat} {M : me_M} (ha : vA T n m W X t F S P D M) : (∀ p, p ≤ n → mX11_isHit_0 M (nI p) = some (nI (if (fun p => decide (cp T n m (wn W X m) p = 1)) p = true then 1 else 0))) ∧ (∀ p, p ≤ n → mX12_isHit_63 M (nI p) = some (nI (if (fun p => decide (cp T n m (wn W X m) p = 1)) p = true then 1 else 0))) := by
  refine ⟨fun p hp => c_isHit ha.1.1 ha.1.2.1 ha.2.1.1 ha.2.1.2.1.pos hp, fun p hp => ?_⟩
  rw [r_isHit ha.1.1 ha.1.2.2.1.1 ha.2.1.2.1 hp]
  simp only [decide_eq_true_eq]
theorem qr_hit {T : Nat → Nat} {n m : Nat} {W X : Nat → Nat} {t : Nat} {F : Nat → Nat} {S P : Nat} {D : Nat → Nat → Nat → Nat} {M : me_M} (h : Inv M) (ha : vA T n m W X t F S P D M) (a0 a1 : Int32) (hb0 : iB a0 (nI 0) (dn (SZ T n m (wn W X m))) = true) (hb1 : iB a1 (nI 0) (nI 2) = true) : aQ (hL_hit M a0 a1) (fun M1 => mX12_hit_63 M1 a0 a1) := by
  have hT := ha.1.1
  have hn := hT.2.2.2
  have c1 := ha.1.2.1.1.1.1
  have hsz : SZ T n m (wn W X m) ≤ n + 1 := ct_le _ _
  obtain ⟨k, hk, rfl⟩ := iB_d hb0 (by omega)
  obtain ⟨j, -, hj, rfl⟩ := iB_n hb1 (by omega) (by omega)
  obtain ⟨q, q1, q2, q3, q4⟩ := c_placeOfHit hn c1 (vA_hit ha).1 (cu_sp ha.2.1.1).2.2 hk
  have hdc := ha.1.2.1.1.2.2.2.1
  have hb : bars T q ≤ bars T n := bars_mono T q1
  have hbn : bars T n ≤ n := ct_le _ _
  have hbq : bars T q ≤ q := ct_le _ _
  have e7 := hdc.1 q q1
  have e8 := c_first hdc hb
  obtain ⟨b1, b2, b3, b4⟩ := bo_ok hb
  have hle : bo T n (bars T q) ≤ q := by
    have := (bo_nif (T := T) (n := n) (d := bars T q) q1).mp (Nat.le_refl _)
    exact this
  have key : ∀ v, (j = 0 → v = q) → (j = 1 → v = bars T q) → (j = 2 → v = q - bo T n (bars T q)) → aQ (hL_hit M (nI k) (nI j)) (fun M1 => mX12_hit_63 M1 (nI k) (nI j)) := fun v v0 v1 v2 => by
    refine aQ.p (v := nI v) (G := fun M0 => nX12_hit M0 (nI k) (nI j)) (fun M1 => zX12_hit M1 _ _) h ha ?_ (fun M0 h0 hz hf => ?_)
    · have hj3 : j = 0 ∨ j = 1 ∨ j = 2 := by omega
      rcases hj3 with rfl | rfl | rfl
      · rw [v0 rfl]
        simp (disch := omega) only [↓reduceIte, ↓needEb, ↓needAb, ↓needSb, ↓needE0l, ↓needE1l, ↓needA0l, ↓needA1l, ↓needS0l, ↓needS1l, ↓bnd c_isWhat, ↓bnd c_isSide, ↓bnd c_isLetter, ↓bnd c_isLength, ↓bnd c_isOften, ↓bnd r_in, ↓bnd r_isLetter, bI_t, bI_f, Bool.false_eq_true, Option.bind_none, Option.none_or, Option.some_or, xAN, xNA, xSA, Option.bind_some, if_true, if_false, Sum.elim_inl, Sum.elim_inr, li0, li1, li2, li3, li4, li5, li6, li7, li8, li9, li10, li12, li16, li20, li24, li25, li31, li32, li40, li41, li42, li48, li57, li59, li97, li104, li105, li124, li126, li240, li241, nI_add, nI_subc, nI_subm, nI_mulc, nI_nm, pu_r, pu_t, pu_a, pu_le_t, pu_le_f, pu_lt_t, pu_lt_f, pu_eq_t, pu_eq_f, nm_eq, nm_eq2, nm_lt, nm_lt2, nm_le, nm_le2, nm_ss, nm_sp, pu_ss, pu_snq, pu_neq, eq_self, and_true, true_and, and_false, false_and, or_true, true_or, or_false, false_or, not_true_eq_false, not_false_eq_true, hL_hit, mX11_hit_0, mX11_hit_0_J17, hb1, q4, e7]
      · rw [v1 rfl]
        simp (disch := omega) only [↓reduceIte, ↓needEb, ↓needAb, ↓needSb, ↓needE0l, ↓needE1l, ↓needA0l, ↓needA1l, ↓needS0l, ↓needS1l, ↓bnd c_isWhat, ↓bnd c_isSide, ↓bnd c_isLetter, ↓bnd c_isLength, ↓bnd c_isOften, ↓bnd r_in, ↓bnd r_isLetter, bI_t, bI_f, Bool.false_eq_true, Option.bind_none, Option.none_or, Option.some_or, xAN, xNA, xSA, Option.bind_some, if_true, if_false, Sum.elim_inl, Sum.elim_inr, li0, li1, li2, li3, li4, li5, li6, li7, li8, li9, li10, li12, li16, li20, li24, li25, li31, li32, li40, li41, li42, li48, li57, li59, li97, li104, li105, li124, li126, li240, li241, nI_add, nI_subc, nI_subm, nI_mulc, nI_nm, pu_r, pu_t, pu_a, pu_le_t, pu_le_f, pu_lt_t, pu_lt_f, pu_eq_t, pu_eq_f, nm_eq, nm_eq2, nm_lt, nm_lt2, nm_le, nm_le2, nm_ss, nm_sp, pu_ss, pu_snq, pu_neq, eq_self, and_true, true_and, and_false, false_and, or_true, true_or, or_false, false_or, not_true_eq_false, not_false_eq_true, hL_hit, mX11_hit_0, mX11_hit_0_J17, hb1, q4, e7]
      · rw [v2 rfl]
        simp (disch := omega) only [↓reduceIte, ↓needEb, ↓needAb, ↓needSb, ↓needE0l, ↓needE1l, ↓needA0l, ↓needA1l, ↓needS0l, ↓needS1l, ↓bnd c_isWhat, ↓bnd c_isSide, ↓bnd c_isLetter, ↓bnd c_isLength, ↓bnd c_isOften, ↓bnd r_in, ↓bnd r_isLetter, bI_t, bI_f, Bool.false_eq_true, Option.bind_none, Option.none_or, Option.some_or, xAN, xNA, xSA, Option.bind_some, if_true, if_false, Sum.elim_inl, Sum.elim_inr, li0, li1, li2, li3, li4, li5, li6, li7, li8, li9, li10, li12, li16, li20, li24, li25, li31, li32, li40, li41, li42, li48, li57, li59, li97, li104, li105, li124, li126, li240, li241, nI_add, nI_subc, nI_subm, nI_mulc, nI_nm, pu_r, pu_t, pu_a, pu_le_t, pu_le_f, pu_lt_t, pu_lt_f, pu_eq_t, pu_eq_f, nm_eq, nm_eq2, nm_lt, nm_lt2, nm_le, nm_le2, nm_ss, nm_sp, pu_ss, pu_snq, pu_neq, eq_self, and_true, true_and, and_false, false_and, or_true, true_or, or_false, false_or, not_true_eq_false, not_false_eq_true, hL_hit, mX11_hit_0, mX11_hit_0_J17, hb1, q4, e7, e8]
    · have r4 := r_hitAt hn h0.1.2.2.1.1.1 (vA_hit h0).2 q1 q2 q3
      have r7 := r_documentOf hT h0.1.2.2.1.1 q1
      have r8 := r_beginOf hT h0.1.2.2.1.1 hb
      have hs0 := r_sizeOf hT h0.1.2.2.1 h0.2.1.2.1
      have hj3 : j = 0 ∨ j = 1 ∨ j = 2 := by omega
      simp only [nX12_hit, hs0, Option.bind_some, li1, dn_m]
      rcases hj3 with rfl | rfl | rfl
      · rw [v0 rfl]
        simp (disch := omega) only [↓reduceIte, ↓needEb, ↓needAb, ↓needSb, ↓needE0l, ↓needE1l, ↓needA0l, ↓needA1l, ↓needS0l, ↓needS1l, ↓bnd c_isWhat, ↓bnd c_isSide, ↓bnd c_isLetter, ↓bnd c_isLength, ↓bnd c_isOften, ↓bnd r_in, ↓bnd r_isLetter, bI_t, bI_f, Bool.false_eq_true, Option.bind_none, Option.none_or, Option.some_or, xAN, xNA, xSA, Option.bind_some, if_true, if_false, Sum.elim_inl, Sum.elim_inr, li0, li1, li2, li3, li4, li5, li6, li7, li8, li9, li10, li12, li16, li20, li24, li25, li31, li32, li40, li41, li42, li48, li57, li59, li97, li104, li105, li124, li126, li240, li241, nI_add, nI_subc, nI_subm, nI_mulc, nI_nm, pu_r, pu_t, pu_a, pu_le_t, pu_le_f, pu_lt_t, pu_lt_f, pu_eq_t, pu_eq_f, nm_eq, nm_eq2, nm_lt, nm_lt2, nm_le, nm_le2, nm_ss, nm_sp, pu_ss, pu_snq, pu_neq, eq_self, and_true, true_and, and_false, false_and, or_true, true_or, or_false, false_or, not_true_eq_false, not_false_eq_true, mX12_hit_63_J25, mX12_hit_63_J48, hb0, hb1, ↓bnd (r_bad0l hz), r4, r7]
      · rw [v1 rfl]
        simp (disch := omega) only [↓reduceIte, ↓needEb, ↓needAb, ↓needSb, ↓needE0l, ↓needE1l, ↓needA0l, ↓needA1l, ↓needS0l, ↓needS1l, ↓bnd c_isWhat, ↓bnd c_isSide, ↓bnd c_isLetter, ↓bnd c_isLength, ↓bnd c_isOften, ↓bnd r_in, ↓bnd r_isLetter, bI_t, bI_f, Bool.false_eq_true, Option.bind_none, Option.none_or, Option.some_or, xAN, xNA, xSA, Option.bind_some, if_true, if_false, Sum.elim_inl, Sum.elim_inr, li0, li1, li2, li3, li4, li5, li6, li7, li8, li9, li10, li12, li16, li20, li24, li25, li31, li32, li40, li41, li42, li48, li57, li59, li97, li104, li105, li124, li126, li240, li241, nI_add, nI_subc, nI_subm, nI_mulc, nI_nm, pu_r, pu_t, pu_a, pu_le_t, pu_le_f, pu_lt_t, pu_lt_f, pu_eq_t, pu_eq_f, nm_eq, nm_eq2, nm_lt, nm_lt2, nm_le, nm_le2, nm_ss, nm_sp, pu_ss, pu_snq, pu_neq, eq_self, and_true, true_and, and_false, false_and, or_true, true_or, or_false, false_or, not_true_eq_false, not_false_eq_true, mX12_hit_63_J25, mX12_hit_63_J48, hb0, hb1, ↓bnd (r_bad0l hz), r4, r7]
      · rw [v2 rfl]
        simp (disch := omega) only [↓reduceIte, ↓needEb, ↓needAb, ↓needSb, ↓needE0l, ↓needE1l, ↓needA0l, ↓needA1l, ↓needS0l, ↓needS1l, ↓bnd c_isWhat, ↓bnd c_isSide, ↓bnd c_isLetter, ↓bnd c_isLength, ↓bnd c_isOften, ↓bnd r_in, ↓bnd r_isLetter, bI_t, bI_f, Bool.false_eq_true, Option.bind_none, Option.none_or, Option.some_or, xAN, xNA, xSA, Option.bind_some, if_true, if_false, Sum.elim_inl, Sum.elim_inr, li0, li1, li2, li3, li4, li5, li6, li7, li8, li9, li10, li12, li16, li20, li24, li25, li31, li32, li40, li41, li42, li48, li57, li59, li97, li104, li105, li124, li126, li240, li241, nI_add, nI_subc, nI_subm, nI_mulc, nI_nm, pu_r, pu_t, pu_a, pu_le_t, pu_le_f, pu_lt_t, pu_lt_f, pu_eq_t, pu_eq_f, nm_eq, nm_eq2, nm_lt, nm_lt2, nm_le, nm_le2, nm_ss, nm_sp, pu_ss, pu_snq, pu_neq, eq_self, and_true, true_and, and_false, false_and, or_true, true_or, or_false, false_or, not_true_eq_false, not_false_eq_true, mX12_hit_63_J25, mX12_hit_63_J48, hb0, hb1, ↓bnd (r_bad0l hz), r4, r7, r8]
  by_cases j0 : j = 0
  · exact key q (fun _ => rfl) (fun z => absurd z (by omega)) (fun z => absurd z (by omega))
  · by_cases j1 : j = 1
    · exact key (bars T q) (fun z => absurd z (by omega)) (fun _ => rfl) (fun z => absurd z (by omega))
    · exact key (q - bo T n (bars T q)) (fun z => absurd z (by omega)) (fun z => absurd z (by omega)) (fun _ => rfl)
theorem q_hit {M : me_M} (h : Inv M) (a0 : Int32) (a1 : Int32) : aQ (hL_hit M a0 a1) (fun M1 => mX12_hit_63 M1 a0 a1) := by
  obtain ⟨T, n, m, W, X, t, F, S, P, D, ha⟩ := h.vA
  have hT := ha.1.1
  have hx := ha.1.2.1
  have c1 := hx.1.1.1
  have hn := hT.2.2.2
  have h9 := hT.2.1
  have hp1 := ha.2.2.1.2.1
  have ht := ha.2.2.1.1
  have hm4 := ha.2.1.1.2.2.1
  have hm40 := ha.2.1.1.1
  have hsz : SZ T n m (wn W X m) ≤ n + 1 := ct_le _ _
  cases hb0 : iB a0 (nI 0) (dn (SZ T n m (wn W X m))) with
  | false =>
    have e0 := c_noHit (show SZ T n m (wn W X m) < 2 ^ 31 by omega) (cu_sp ha.2.1.1).2.2 hb0
    refine aQ.t 0 1 (G := fun M0 => nX12_hit M0 a0 a1) (fun M1 => zX12_hit M1 a0 a1) h ha (by omega) (by omega) (by omega) ?_ (fun M0 h0 hz hf => ?_)
    · simp (disch := omega) only [↓reduceIte, ↓needEb, ↓needAb, ↓needSb, ↓needE0l, ↓needE1l, ↓needA0l, ↓needA1l, ↓needS0l, ↓needS1l, ↓bnd c_isWhat, ↓bnd c_isSide, ↓bnd c_isLetter, ↓bnd c_isLength, ↓bnd c_isOften, ↓bnd r_in, ↓bnd r_isLetter, bI_t, bI_f, Bool.false_eq_true, Option.bind_none, Option.none_or, Option.some_or, xAN, xNA, xSA, Option.bind_some, if_true, if_false, Sum.elim_inl, Sum.elim_inr, li0, li1, li2, li3, li4, li5, li6, li7, li8, li9, li10, li12, li16, li20, li24, li25, li31, li32, li40, li41, li42, li48, li57, li59, li97, li104, li105, li124, li126, li240, li241, nI_add, nI_subc, nI_subm, nI_mulc, nI_nm, pu_r, pu_t, pu_a, pu_le_t, pu_le_f, pu_lt_t, pu_lt_f, pu_eq_t, pu_eq_f, nm_eq, nm_eq2, nm_lt, nm_lt2, nm_le, nm_le2, nm_ss, nm_sp, pu_ss, pu_snq, pu_neq, eq_self, and_true, true_and, and_false, false_and, or_true, true_or, or_false, false_or, not_true_eq_false, not_false_eq_true, mX11_hit_0_J17, mX11_hit_0, tX11_hit_0_J17, tX11_hit_0, hL_hit, e0]
    · simp (disch := omega) only [↓reduceIte, ↓needEb, ↓needAb, ↓needSb, ↓needE0l, ↓needE1l, ↓needA0l, ↓needA1l, ↓needS0l, ↓needS1l, ↓bnd c_isWhat, ↓bnd c_isSide, ↓bnd c_isLetter, ↓bnd c_isLength, ↓bnd c_isOften, ↓bnd r_in, ↓bnd r_isLetter, bI_t, bI_f, Bool.false_eq_true, Option.bind_none, Option.none_or, Option.some_or, xAN, xNA, xSA, Option.bind_some, if_true, if_false, Sum.elim_inl, Sum.elim_inr, li0, li1, li2, li3, li4, li5, li6, li7, li8, li9, li10, li12, li16, li20, li24, li25, li31, li32, li40, li41, li42, li48, li57, li59, li97, li104, li105, li124, li126, li240, li241, nI_add, nI_mulc, nI_nm, pu_r, pu_t, pu_a, pu_le_t, pu_le_f, pu_lt_t, pu_lt_f, pu_eq_t, pu_eq_f, nm_eq, nm_eq2, nm_lt, nm_lt2, nm_le, nm_le2, nm_ss, nm_sp, pu_ss, pu_snq, pu_neq, eq_self, and_true, true_and, and_false, false_and, or_true, true_or, or_false, false_or, not_true_eq_false, not_false_eq_true, nX12_hit, mX12_hit_63_J48, mX12_hit_63_J25, r_sizeOf hT h0.1.2.2.1 h0.2.1.2.1, dn_m, hb0, ↓bnd (r_bad0l hz), ↓bnd (r_bad10 hz), ↓bnd (r_bad11 hz), ↓bnd (r_bad21 hz), ↓bnd (r_bad22 hz)]
  | true =>
    cases hb1 : iB a1 (nI 0) (nI 2) with
    | false =>
      obtain ⟨q, q1, q4⟩ : ∃ q, q ≤ n ∧ mX11_placeOfHit_0 M a0 = some (nI q) := by
        obtain ⟨k, hk, e⟩ := iB_d hb0 (by omega)
        obtain ⟨q, q1, -, -, q4⟩ := c_placeOfHit hn c1 (vA_hit ha).1 (cu_sp ha.2.1.1).2.2 hk
        exact ⟨q, q1, by rw [e]; exact q4⟩
      refine aQ.t 1 2 (G := fun M0 => nX12_hit M0 a0 a1) (fun M1 => zX12_hit M1 a0 a1) h ha (by omega) (by omega) (by omega) ?_ (fun M0 h0 hz hf => ?_)
      · simp (disch := omega) only [↓reduceIte, ↓needEb, ↓needAb, ↓needSb, ↓needE0l, ↓needE1l, ↓needA0l, ↓needA1l, ↓needS0l, ↓needS1l, ↓bnd c_isWhat, ↓bnd c_isSide, ↓bnd c_isLetter, ↓bnd c_isLength, ↓bnd c_isOften, ↓bnd r_in, ↓bnd r_isLetter, bI_t, bI_f, Bool.false_eq_true, Option.bind_none, Option.none_or, Option.some_or, xAN, xNA, xSA, Option.bind_some, if_true, if_false, Sum.elim_inl, Sum.elim_inr, li0, li1, li2, li3, li4, li5, li6, li7, li8, li9, li10, li12, li16, li20, li24, li25, li31, li32, li40, li41, li42, li48, li57, li59, li97, li104, li105, li124, li126, li240, li241, nI_add, nI_subc, nI_subm, nI_mulc, nI_nm, pu_r, pu_t, pu_a, pu_le_t, pu_le_f, pu_lt_t, pu_lt_f, pu_eq_t, pu_eq_f, nm_eq, nm_eq2, nm_lt, nm_lt2, nm_le, nm_le2, nm_ss, nm_sp, pu_ss, pu_snq, pu_neq, eq_self, and_true, true_and, and_false, false_and, or_true, true_or, or_false, false_or, not_true_eq_false, not_false_eq_true, mX11_hit_0_J17, mX11_hit_0, tX11_hit_0_J17, tX11_hit_0, hL_hit, q4, hb1]
      · simp (disch := omega) only [↓reduceIte, ↓needEb, ↓needAb, ↓needSb, ↓needE0l, ↓needE1l, ↓needA0l, ↓needA1l, ↓needS0l, ↓needS1l, ↓bnd c_isWhat, ↓bnd c_isSide, ↓bnd c_isLetter, ↓bnd c_isLength, ↓bnd c_isOften, ↓bnd r_in, ↓bnd r_isLetter, bI_t, bI_f, Bool.false_eq_true, Option.bind_none, Option.none_or, Option.some_or, xAN, xNA, xSA, Option.bind_some, if_true, if_false, Sum.elim_inl, Sum.elim_inr, li0, li1, li2, li3, li4, li5, li6, li7, li8, li9, li10, li12, li16, li20, li24, li25, li31, li32, li40, li41, li42, li48, li57, li59, li97, li104, li105, li124, li126, li240, li241, nI_add, nI_mulc, nI_nm, pu_r, pu_t, pu_a, pu_le_t, pu_le_f, pu_lt_t, pu_lt_f, pu_eq_t, pu_eq_f, nm_eq, nm_eq2, nm_lt, nm_lt2, nm_le, nm_le2, nm_ss, nm_sp, pu_ss, pu_snq, pu_neq, eq_self, and_true, true_and, and_false, false_and, or_true, true_or, or_false, false_or, not_true_eq_false, not_false_eq_true, nX12_hit, mX12_hit_63_J48, mX12_hit_63_J25, r_sizeOf hT h0.1.2.2.1 h0.2.1.2.1, dn_m, hb0, hb1, ↓bnd (r_bad0l hz), ↓bnd (r_bad10 hz), ↓bnd (r_bad11 hz), ↓bnd (r_bad21 hz), ↓bnd (r_bad22 hz)]
    | true =>
      exact qr_hit h ha a0 a1 hb0 hb1
theorem qr_document {T : Nat → Nat} {n m : Nat} {W X : Nat → Nat} {t : Nat} {F : Nat → Nat} {S P : Nat} {D : Nat → Nat → Nat → Nat} {M : me_M} (h : Inv M) (ha : vA T n m W X t F S P D M) (a0 a1 : Int32) (hb0 : iB a0 (nI 0) (dn (bars T n + 1)) = true) (hb1 : iB a1 (nI 0) (nI 2) = true) : aQ (hL_document M a0 a1) (fun M1 => mX12_document_63 M1 a0 a1) := by
  have hT := ha.1.1
  have hn := hT.2.2.2
  have c1 := ha.1.2.1.1.1.1
  have hbn : bars T n ≤ n := ct_le _ _
  obtain ⟨d, hd, rfl⟩ := iB_d hb0 (by omega)
  obtain ⟨j, -, hj, rfl⟩ := iB_n hb1 (by omega) (by omega)
  have hdc := ha.1.2.1.1.2.2.2.1
  have e6 := ha.1.2.1.1.2.2.1
  have e36 := hdc.2.2.2
  have e8 := c_first hdc (show d ≤ bars T n by omega)
  obtain ⟨b1, -, -, -⟩ := bo_ok (show d ≤ bars T n by omega)
  have e9 := c_hitsIn hT c1 hdc (vA_hit ha).1 (show d ≤ bars T n by omega)
  have key : ∀ v, (j = 0 → v = bo T n d) → (j = 1 → v = lf T n (bo T n d)) → (j = 2 → v = ct (fun p => (fun p => decide (cp T n m (wn W X m) p = 1)) p && decide (bars T p = d)) (n + 1)) → aQ (hL_document M (nI d) (nI j)) (fun M1 => mX12_document_63 M1 (nI d) (nI j)) := fun v v0 v1 v2 => by
    refine aQ.p (v := nI v) (G := fun M0 => nX12_document M0 (nI d) (nI j)) (fun M1 => zX12_document M1 _ _) h ha ?_ (fun M0 h0 hz hf => ?_)
    · have hj3 : j = 0 ∨ j = 1 ∨ j = 2 := by omega
      rcases hj3 with rfl | rfl | rfl
      · rw [v0 rfl]
        simp (disch := omega) only [↓reduceIte, ↓needEb, ↓needAb, ↓needSb, ↓needE0l, ↓needE1l, ↓needA0l, ↓needA1l, ↓needS0l, ↓needS1l, ↓bnd c_isWhat, ↓bnd c_isSide, ↓bnd c_isLetter, ↓bnd c_isLength, ↓bnd c_isOften, ↓bnd r_in, ↓bnd r_isLetter, bI_t, bI_f, Bool.false_eq_true, Option.bind_none, Option.none_or, Option.some_or, xAN, xNA, xSA, Option.bind_some, if_true, if_false, Sum.elim_inl, Sum.elim_inr, li0, li1, li2, li3, li4, li5, li6, li7, li8, li9, li10, li12, li16, li20, li24, li25, li31, li32, li40, li41, li42, li48, li57, li59, li97, li104, li105, li124, li126, li240, li241, nI_add, nI_subc, nI_subm, nI_mulc, nI_nm, pu_r, pu_t, pu_a, pu_le_t, pu_le_f, pu_lt_t, pu_lt_f, pu_eq_t, pu_eq_f, nm_eq, nm_eq2, nm_lt, nm_lt2, nm_le, nm_le2, nm_ss, nm_sp, pu_ss, pu_snq, pu_neq, eq_self, and_true, true_and, and_false, false_and, or_true, true_or, or_false, false_or, not_true_eq_false, not_false_eq_true, hL_document, mX11_document_0, mX11_document_0_J20, mX11_document_0_J21, e36, c_rng, hb0, hb1, e8]
      · rw [v1 rfl]
        simp (disch := omega) only [↓reduceIte, ↓needEb, ↓needAb, ↓needSb, ↓needE0l, ↓needE1l, ↓needA0l, ↓needA1l, ↓needS0l, ↓needS1l, ↓bnd c_isWhat, ↓bnd c_isSide, ↓bnd c_isLetter, ↓bnd c_isLength, ↓bnd c_isOften, ↓bnd r_in, ↓bnd r_isLetter, bI_t, bI_f, Bool.false_eq_true, Option.bind_none, Option.none_or, Option.some_or, xAN, xNA, xSA, Option.bind_some, if_true, if_false, Sum.elim_inl, Sum.elim_inr, li0, li1, li2, li3, li4, li5, li6, li7, li8, li9, li10, li12, li16, li20, li24, li25, li31, li32, li40, li41, li42, li48, li57, li59, li97, li104, li105, li124, li126, li240, li241, nI_add, nI_subc, nI_subm, nI_mulc, nI_nm, pu_r, pu_t, pu_a, pu_le_t, pu_le_f, pu_lt_t, pu_lt_f, pu_eq_t, pu_eq_f, nm_eq, nm_eq2, nm_lt, nm_lt2, nm_le, nm_le2, nm_ss, nm_sp, pu_ss, pu_snq, pu_neq, eq_self, and_true, true_and, and_false, false_and, or_true, true_or, or_false, false_or, not_true_eq_false, not_false_eq_true, hL_document, mX11_document_0, mX11_document_0_J20, mX11_document_0_J21, e36, c_rng, hb0, hb1, e8, e6]
      · rw [v2 rfl]
        simp (disch := omega) only [↓reduceIte, ↓needEb, ↓needAb, ↓needSb, ↓needE0l, ↓needE1l, ↓needA0l, ↓needA1l, ↓needS0l, ↓needS1l, ↓bnd c_isWhat, ↓bnd c_isSide, ↓bnd c_isLetter, ↓bnd c_isLength, ↓bnd c_isOften, ↓bnd r_in, ↓bnd r_isLetter, bI_t, bI_f, Bool.false_eq_true, Option.bind_none, Option.none_or, Option.some_or, xAN, xNA, xSA, Option.bind_some, if_true, if_false, Sum.elim_inl, Sum.elim_inr, li0, li1, li2, li3, li4, li5, li6, li7, li8, li9, li10, li12, li16, li20, li24, li25, li31, li32, li40, li41, li42, li48, li57, li59, li97, li104, li105, li124, li126, li240, li241, nI_add, nI_subc, nI_subm, nI_mulc, nI_nm, pu_r, pu_t, pu_a, pu_le_t, pu_le_f, pu_lt_t, pu_lt_f, pu_eq_t, pu_eq_f, nm_eq, nm_eq2, nm_lt, nm_lt2, nm_le, nm_le2, nm_ss, nm_sp, pu_ss, pu_snq, pu_neq, eq_self, and_true, true_and, and_false, false_and, or_true, true_or, or_false, false_or, not_true_eq_false, not_false_eq_true, hL_document, mX11_document_0, mX11_document_0_J20, mX11_document_0_J21, e36, c_rng, hb0, hb1, e8, e9]
    · have r8 := r_beginOf hT h0.1.2.2.1.1 (show d ≤ bars T n by omega)
      have r9 := r_hitsIn hT h0.1.2.2.1.1 (vA_hit h0).2 (show d ≤ n by omega)
      have r6 := r_run hT h0.1.2.2.1.1 b1
      have hs0 := r_docs hT h0.1.2.2.1.1
      have hj3 : j = 0 ∨ j = 1 ∨ j = 2 := by omega
      simp only [nX12_document, hs0, Option.bind_some, li1, dn_m]
      rcases hj3 with rfl | rfl | rfl
      · rw [v0 rfl]
        simp (disch := omega) only [↓reduceIte, ↓needEb, ↓needAb, ↓needSb, ↓needE0l, ↓needE1l, ↓needA0l, ↓needA1l, ↓needS0l, ↓needS1l, ↓bnd c_isWhat, ↓bnd c_isSide, ↓bnd c_isLetter, ↓bnd c_isLength, ↓bnd c_isOften, ↓bnd r_in, ↓bnd r_isLetter, bI_t, bI_f, Bool.false_eq_true, Option.bind_none, Option.none_or, Option.some_or, xAN, xNA, xSA, Option.bind_some, if_true, if_false, Sum.elim_inl, Sum.elim_inr, li0, li1, li2, li3, li4, li5, li6, li7, li8, li9, li10, li12, li16, li20, li24, li25, li31, li32, li40, li41, li42, li48, li57, li59, li97, li104, li105, li124, li126, li240, li241, nI_add, nI_subc, nI_subm, nI_mulc, nI_nm, pu_r, pu_t, pu_a, pu_le_t, pu_le_f, pu_lt_t, pu_lt_f, pu_eq_t, pu_eq_f, nm_eq, nm_eq2, nm_lt, nm_lt2, nm_le, nm_le2, nm_ss, nm_sp, pu_ss, pu_snq, pu_neq, eq_self, and_true, true_and, and_false, false_and, or_true, true_or, or_false, false_or, not_true_eq_false, not_false_eq_true, mX12_document_63_J25, mX12_document_63_J48, hb0, hb1, ↓bnd (r_bad0l hz), r8]
      · rw [v1 rfl]
        simp (disch := omega) only [↓reduceIte, ↓needEb, ↓needAb, ↓needSb, ↓needE0l, ↓needE1l, ↓needA0l, ↓needA1l, ↓needS0l, ↓needS1l, ↓bnd c_isWhat, ↓bnd c_isSide, ↓bnd c_isLetter, ↓bnd c_isLength, ↓bnd c_isOften, ↓bnd r_in, ↓bnd r_isLetter, bI_t, bI_f, Bool.false_eq_true, Option.bind_none, Option.none_or, Option.some_or, xAN, xNA, xSA, Option.bind_some, if_true, if_false, Sum.elim_inl, Sum.elim_inr, li0, li1, li2, li3, li4, li5, li6, li7, li8, li9, li10, li12, li16, li20, li24, li25, li31, li32, li40, li41, li42, li48, li57, li59, li97, li104, li105, li124, li126, li240, li241, nI_add, nI_subc, nI_subm, nI_mulc, nI_nm, pu_r, pu_t, pu_a, pu_le_t, pu_le_f, pu_lt_t, pu_lt_f, pu_eq_t, pu_eq_f, nm_eq, nm_eq2, nm_lt, nm_lt2, nm_le, nm_le2, nm_ss, nm_sp, pu_ss, pu_snq, pu_neq, eq_self, and_true, true_and, and_false, false_and, or_true, true_or, or_false, false_or, not_true_eq_false, not_false_eq_true, mX12_document_63_J25, mX12_document_63_J48, hb0, hb1, ↓bnd (r_bad0l hz), r8, r6]
      · rw [v2 rfl]
        simp (disch := omega) only [↓reduceIte, ↓needEb, ↓needAb, ↓needSb, ↓needE0l, ↓needE1l, ↓needA0l, ↓needA1l, ↓needS0l, ↓needS1l, ↓bnd c_isWhat, ↓bnd c_isSide, ↓bnd c_isLetter, ↓bnd c_isLength, ↓bnd c_isOften, ↓bnd r_in, ↓bnd r_isLetter, bI_t, bI_f, Bool.false_eq_true, Option.bind_none, Option.none_or, Option.some_or, xAN, xNA, xSA, Option.bind_some, if_true, if_false, Sum.elim_inl, Sum.elim_inr, li0, li1, li2, li3, li4, li5, li6, li7, li8, li9, li10, li12, li16, li20, li24, li25, li31, li32, li40, li41, li42, li48, li57, li59, li97, li104, li105, li124, li126, li240, li241, nI_add, nI_subc, nI_subm, nI_mulc, nI_nm, pu_r, pu_t, pu_a, pu_le_t, pu_le_f, pu_lt_t, pu_lt_f, pu_eq_t, pu_eq_f, nm_eq, nm_eq2, nm_lt, nm_lt2, nm_le, nm_le2, nm_ss, nm_sp, pu_ss, pu_snq, pu_neq, eq_self, and_true, true_and, and_false, false_and, or_true, true_or, or_false, false_or, not_true_eq_false, not_false_eq_true, mX12_document_63_J25, mX12_document_63_J48, hb0, hb1, ↓bnd (r_bad0l hz), r9]
  by_cases j0 : j = 0
  · exact key _ (fun _ => rfl) (fun z => absurd z (by omega)) (fun z => absurd z (by omega))
  · by_cases j1 : j = 1
    · exact key _ (fun z => absurd z (by omega)) (fun _ => rfl) (fun z => absurd z (by omega))
    · exact key _ (fun z => absurd z (by omega)) (fun z => absurd z (by omega)) (fun _ => rfl)
theorem q_document {M : me_M} (h : Inv M) (a0 : Int32) (a1 : Int32) : aQ (hL_document M a0 a1) (fun M1 => mX12_document_63 M1 a0 a1) := by
  obtain ⟨T, n, m, W, X, t, F, S, P, D, ha⟩ := h.vA
  have hT := ha.1.1
  have hx := ha.1.2.1
  have c1 := hx.1.1.1
  have hn := hT.2.2.2
  have h9 := hT.2.1
  have hp1 := ha.2.2.1.2.1
  have ht := ha.2.2.1.1
  have hm4 := ha.2.1.1.2.2.1
  have hm40 := ha.2.1.1.1
  have hbr : bars T n ≤ n := ct_le _ _
  cases hb0 : iB a0 (nI 0) (dn (bars T n + 1)) with
  | false =>
    refine aQ.t 0 1 (G := fun M0 => nX12_document M0 a0 a1) (fun M1 => zX12_document M1 a0 a1) h ha (by omega) (by omega) (by omega) ?_ (fun M0 h0 hz hf => ?_)
    · simp (disch := omega) only [↓reduceIte, ↓needEb, ↓needAb, ↓needSb, ↓needE0l, ↓needE1l, ↓needA0l, ↓needA1l, ↓needS0l, ↓needS1l, ↓bnd c_isWhat, ↓bnd c_isSide, ↓bnd c_isLetter, ↓bnd c_isLength, ↓bnd c_isOften, ↓bnd r_in, ↓bnd r_isLetter, bI_t, bI_f, Bool.false_eq_true, Option.bind_none, Option.none_or, Option.some_or, xAN, xNA, xSA, Option.bind_some, if_true, if_false, Sum.elim_inl, Sum.elim_inr, li0, li1, li2, li3, li4, li5, li6, li7, li8, li9, li10, li12, li16, li20, li24, li25, li31, li32, li40, li41, li42, li48, li57, li59, li97, li104, li105, li124, li126, li240, li241, nI_add, nI_subc, nI_subm, nI_mulc, nI_nm, pu_r, pu_t, pu_a, pu_le_t, pu_le_f, pu_lt_t, pu_lt_f, pu_eq_t, pu_eq_f, nm_eq, nm_eq2, nm_lt, nm_lt2, nm_le, nm_le2, nm_ss, nm_sp, pu_ss, pu_snq, pu_neq, eq_self, and_true, true_and, and_false, false_and, or_true, true_or, or_false, false_or, not_true_eq_false, not_false_eq_true, mX11_document_0_J21, mX11_document_0_J20, mX11_document_0, tX11_document_0_J21, tX11_document_0_J20, tX11_document_0, hL_document, hx.1.2.2.2.1.2.2.2, c_rng, hb0]
    · simp (disch := omega) only [↓reduceIte, ↓needEb, ↓needAb, ↓needSb, ↓needE0l, ↓needE1l, ↓needA0l, ↓needA1l, ↓needS0l, ↓needS1l, ↓bnd c_isWhat, ↓bnd c_isSide, ↓bnd c_isLetter, ↓bnd c_isLength, ↓bnd c_isOften, ↓bnd r_in, ↓bnd r_isLetter, bI_t, bI_f, Bool.false_eq_true, Option.bind_none, Option.none_or, Option.some_or, xAN, xNA, xSA, Option.bind_some, if_true, if_false, Sum.elim_inl, Sum.elim_inr, li0, li1, li2, li3, li4, li5, li6, li7, li8, li9, li10, li12, li16, li20, li24, li25, li31, li32, li40, li41, li42, li48, li57, li59, li97, li104, li105, li124, li126, li240, li241, nI_add, nI_mulc, nI_nm, pu_r, pu_t, pu_a, pu_le_t, pu_le_f, pu_lt_t, pu_lt_f, pu_eq_t, pu_eq_f, nm_eq, nm_eq2, nm_lt, nm_lt2, nm_le, nm_le2, nm_ss, nm_sp, pu_ss, pu_snq, pu_neq, eq_self, and_true, true_and, and_false, false_and, or_true, true_or, or_false, false_or, not_true_eq_false, not_false_eq_true, nX12_document, mX12_document_63_J48, mX12_document_63_J25, r_docs hT h0.1.2.2.1.1, dn_m, hb0, ↓bnd (r_bad0l hz), ↓bnd (r_bad10 hz), ↓bnd (r_bad11 hz), ↓bnd (r_bad21 hz), ↓bnd (r_bad22 hz)]
  | true =>
    cases hb1 : iB a1 (nI 0) (nI 2) with
    | false =>
      refine aQ.t 1 2 (G := fun M0 => nX12_document M0 a0 a1) (fun M1 => zX12_document M1 a0 a1) h ha (by omega) (by omega) (by omega) ?_ (fun M0 h0 hz hf => ?_)
      · simp (disch := omega) only [↓reduceIte, ↓needEb, ↓needAb, ↓needSb, ↓needE0l, ↓needE1l, ↓needA0l, ↓needA1l, ↓needS0l, ↓needS1l, ↓bnd c_isWhat, ↓bnd c_isSide, ↓bnd c_isLetter, ↓bnd c_isLength, ↓bnd c_isOften, ↓bnd r_in, ↓bnd r_isLetter, bI_t, bI_f, Bool.false_eq_true, Option.bind_none, Option.none_or, Option.some_or, xAN, xNA, xSA, Option.bind_some, if_true, if_false, Sum.elim_inl, Sum.elim_inr, li0, li1, li2, li3, li4, li5, li6, li7, li8, li9, li10, li12, li16, li20, li24, li25, li31, li32, li40, li41, li42, li48, li57, li59, li97, li104, li105, li124, li126, li240, li241, nI_add, nI_subc, nI_subm, nI_mulc, nI_nm, pu_r, pu_t, pu_a, pu_le_t, pu_le_f, pu_lt_t, pu_lt_f, pu_eq_t, pu_eq_f, nm_eq, nm_eq2, nm_lt, nm_lt2, nm_le, nm_le2, nm_ss, nm_sp, pu_ss, pu_snq, pu_neq, eq_self, and_true, true_and, and_false, false_and, or_true, true_or, or_false, false_or, not_true_eq_false, not_false_eq_true, mX11_document_0_J21, mX11_document_0_J20, mX11_document_0, tX11_document_0_J21, tX11_document_0_J20, tX11_document_0, hL_document, hx.1.2.2.2.1.2.2.2, c_rng, hb0, hb1]
      · simp (disch := omega) only [↓reduceIte, ↓needEb, ↓needAb, ↓needSb, ↓needE0l, ↓needE1l, ↓needA0l, ↓needA1l, ↓needS0l, ↓needS1l, ↓bnd c_isWhat, ↓bnd c_isSide, ↓bnd c_isLetter, ↓bnd c_isLength, ↓bnd c_isOften, ↓bnd r_in, ↓bnd r_isLetter, bI_t, bI_f, Bool.false_eq_true, Option.bind_none, Option.none_or, Option.some_or, xAN, xNA, xSA, Option.bind_some, if_true, if_false, Sum.elim_inl, Sum.elim_inr, li0, li1, li2, li3, li4, li5, li6, li7, li8, li9, li10, li12, li16, li20, li24, li25, li31, li32, li40, li41, li42, li48, li57, li59, li97, li104, li105, li124, li126, li240, li241, nI_add, nI_mulc, nI_nm, pu_r, pu_t, pu_a, pu_le_t, pu_le_f, pu_lt_t, pu_lt_f, pu_eq_t, pu_eq_f, nm_eq, nm_eq2, nm_lt, nm_lt2, nm_le, nm_le2, nm_ss, nm_sp, pu_ss, pu_snq, pu_neq, eq_self, and_true, true_and, and_false, false_and, or_true, true_or, or_false, false_or, not_true_eq_false, not_false_eq_true, nX12_document, mX12_document_63_J48, mX12_document_63_J25, r_docs hT h0.1.2.2.1.1, dn_m, hb0, hb1, ↓bnd (r_bad0l hz), ↓bnd (r_bad10 hz), ↓bnd (r_bad11 hz), ↓bnd (r_bad21 hz), ↓bnd (r_bad22 hz)]
    | true =>
      exact qr_document h ha a0 a1 hb0 hb1
