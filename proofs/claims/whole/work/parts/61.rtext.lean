/-! ===== the reference's readings of the text ===== -/
/-- the reference's text stands -/
def rx (T : Nat → Nat) (n : Nat) (M : me_M) : Prop := M.1 63 5 = nI n ∧ ∀ i, i ≤ n → M.1 67 i = nI (T i)
/-- a text as the class and the reference hold it -/
def tx9 (T : Nat → Nat) (n : Nat) : Prop := tx_ok T n ∧ (∀ i, T i < 10) ∧ 1 ≤ n ∧ n ≤ 240
theorem ct_not_le (P : Nat → Bool) (n : Nat) : ct P n ≤ n := ct_le P n
theorem r_docs {T : Nat → Nat} {n : Nat} {M : me_M} (hT : tx9 T n) (hM : rx T n M) : mX12_documents_63 M = some (nI (bars T n + 1)) := by
  obtain ⟨hM1, hM2⟩ := hM
  obtain ⟨-, hT9, -, hn⟩ := hT
  have h : me_l (mX12_documents_63_L4 M) me_fu (nI 1, nI 0) = some (nI (bars T n + 1)) := by
    refine lp_to (fun x => (nI (bars T x + 1), nI x)) (a := 0) (N := n) (by omega) (by omega) (fun x _ hx => ?_) ?_
    · simp only [mX12_documents_63_L4, mX12_documents_63_J30]
      have := hT9 x
      by_cases c : T x = 1
      · simp (disch := omega) only [Option.bind_some, if_true, if_false, Sum.elim_inl, Sum.elim_inr, li0, li1, li2, li3, li4, li5, li6, li7, li8, li9, li10, li12, li16, li20, li24, li25, li31, li32, li40, li41, li42, li48, li57, li59, li97, li104, li105, li124, li126, li240, li241, nI_add, nI_subc, nI_subm, nI_mulc, nI_nm, pu_r, pu_t, pu_a, pu_le_t, pu_le_f, pu_lt_t, pu_lt_f, pu_eq_t, pu_eq_f, nm_eq, nm_eq2, nm_lt, nm_lt2, nm_le, nm_le2, nm_ss, nm_sp, pu_ss, pu_snq, pu_neq, eq_self, and_true, true_and, and_false, false_and, or_true, true_or, or_false, false_or, not_true_eq_false, not_false_eq_true, hM1, hM2, c, bars_succ]
      · simp (disch := omega) only [Option.bind_some, if_true, if_false, Sum.elim_inl, Sum.elim_inr, li0, li1, li2, li3, li4, li5, li6, li7, li8, li9, li10, li12, li16, li20, li24, li25, li31, li32, li40, li41, li42, li48, li57, li59, li97, li104, li105, li124, li126, li240, li241, nI_add, nI_subc, nI_subm, nI_mulc, nI_nm, pu_r, pu_t, pu_a, pu_le_t, pu_le_f, pu_lt_t, pu_lt_f, pu_eq_t, pu_eq_f, nm_eq, nm_eq2, nm_lt, nm_lt2, nm_le, nm_le2, nm_ss, nm_sp, pu_ss, pu_snq, pu_neq, eq_self, and_true, true_and, and_false, false_and, or_true, true_or, or_false, false_or, not_true_eq_false, not_false_eq_true, hM1, hM2, bars_succ, if_neg c, Nat.add_zero]
    · simp only [mX12_documents_63_L4]
      simp (disch := omega) only [Option.bind_some, if_true, if_false, Sum.elim_inl, Sum.elim_inr, li0, li1, li2, li3, li4, li5, li6, li7, li8, li9, li10, li12, li16, li20, li24, li25, li31, li32, li40, li41, li42, li48, li57, li59, li97, li104, li105, li124, li126, li240, li241, nI_add, nI_subc, nI_subm, nI_mulc, nI_nm, pu_r, pu_t, pu_a, pu_le_t, pu_le_f, pu_lt_t, pu_lt_f, pu_eq_t, pu_eq_f, nm_eq, nm_eq2, nm_lt, nm_lt2, nm_le, nm_le2, nm_ss, nm_sp, pu_ss, pu_snq, pu_neq, eq_self, and_true, true_and, and_false, false_and, or_true, true_or, or_false, false_or, not_true_eq_false, not_false_eq_true, hM1]
  unfold mX12_documents_63
  simp (disch := omega) only [Option.bind_some, if_true, if_false, Sum.elim_inl, Sum.elim_inr, li0, li1, li2, li3, li4, li5, li6, li7, li8, li9, li10, li12, li16, li20, li24, li25, li31, li32, li40, li41, li42, li48, li57, li59, li97, li104, li105, li124, li126, li240, li241, nI_add, nI_subc, nI_subm, nI_mulc, nI_nm, pu_r, pu_t, pu_a, pu_le_t, pu_le_f, pu_lt_t, pu_lt_f, pu_eq_t, pu_eq_f, nm_eq, nm_eq2, nm_lt, nm_lt2, nm_le, nm_le2, nm_ss, nm_sp, pu_ss, pu_snq, pu_neq, eq_self, and_true, true_and, and_false, false_and, or_true, true_or, or_false, false_or, not_true_eq_false, not_false_eq_true, h]
/-- whether a sign stands in the text -/
def hl (T : Nat → Nat) (n s : Nat) : Bool := decide (∃ i, i < n ∧ T i = s)
theorem r_hasLetter {T : Nat → Nat} {n s : Nat} {M : me_M} (hT : tx9 T n) (hM : rx T n M) (hs : s < 100) : mX12_hasLetter_63 M (nI s) = some (nI (if hl T n s then 1 else 0)) := by
  obtain ⟨hM1, hM2⟩ := hM
  obtain ⟨-, hT9, -, hn⟩ := hT
  obtain ⟨r, h1, h2⟩ := lp_up (b := mX12_hasLetter_63_L2 M (nI s)) (fun x st => st = nI x ∧ ∀ i, i < x → T i ≠ s) (fun r => (r = .inl () ∧ hl T n s = false) ∨ (r = .inr (nI 1) ∧ hl T n s = true)) (a := 0) (N := n) (by omega) (by omega) (fun x st _ hx hI => by
    obtain ⟨rfl, hI⟩ := hI
    simp only [mX12_hasLetter_63_L2]
    have := hT9 x
    by_cases c : T x = s
    · right
      simp (disch := omega) only [Option.bind_some, if_true, if_false, Sum.elim_inl, Sum.elim_inr, li0, li1, li2, li3, li4, li5, li6, li7, li8, li9, li10, li12, li16, li20, li24, li25, li31, li32, li40, li41, li42, li48, li57, li59, li97, li104, li105, li124, li126, li240, li241, nI_add, nI_subc, nI_subm, nI_mulc, nI_nm, pu_r, pu_t, pu_a, pu_le_t, pu_le_f, pu_lt_t, pu_lt_f, pu_eq_t, pu_eq_f, nm_eq, nm_eq2, nm_lt, nm_lt2, nm_le, nm_le2, nm_ss, nm_sp, pu_ss, pu_snq, pu_neq, eq_self, and_true, true_and, and_false, false_and, or_true, true_or, or_false, false_or, not_true_eq_false, not_false_eq_true, hM1, hM2]
      exact ⟨_, rfl, Or.inr ⟨rfl, decide_eq_true ⟨x, hx, c⟩⟩⟩
    · left
      simp (disch := omega) only [Option.bind_some, if_true, if_false, Sum.elim_inl, Sum.elim_inr, li0, li1, li2, li3, li4, li5, li6, li7, li8, li9, li10, li12, li16, li20, li24, li25, li31, li32, li40, li41, li42, li48, li57, li59, li97, li104, li105, li124, li126, li240, li241, nI_add, nI_subc, nI_subm, nI_mulc, nI_nm, pu_r, pu_t, pu_a, pu_le_t, pu_le_f, pu_lt_t, pu_lt_f, pu_eq_t, pu_eq_f, nm_eq, nm_eq2, nm_lt, nm_lt2, nm_le, nm_le2, nm_ss, nm_sp, pu_ss, pu_snq, pu_neq, eq_self, and_true, true_and, and_false, false_and, or_true, true_or, or_false, false_or, not_true_eq_false, not_false_eq_true, hM1, hM2]
      exact ⟨_, rfl, rfl, fun i hi => by
        by_cases e : i = x
        · subst e; exact c
        · exact hI i (by omega)⟩) (fun st hI => by
    obtain ⟨rfl, hI⟩ := hI
    simp only [mX12_hasLetter_63_L2]
    simp (disch := omega) only [Option.bind_some, if_true, if_false, Sum.elim_inl, Sum.elim_inr, li0, li1, li2, li3, li4, li5, li6, li7, li8, li9, li10, li12, li16, li20, li24, li25, li31, li32, li40, li41, li42, li48, li57, li59, li97, li104, li105, li124, li126, li240, li241, nI_add, nI_subc, nI_subm, nI_mulc, nI_nm, pu_r, pu_t, pu_a, pu_le_t, pu_le_f, pu_lt_t, pu_lt_f, pu_eq_t, pu_eq_f, nm_eq, nm_eq2, nm_lt, nm_lt2, nm_le, nm_le2, nm_ss, nm_sp, pu_ss, pu_snq, pu_neq, eq_self, and_true, true_and, and_false, false_and, or_true, true_or, or_false, false_or, not_true_eq_false, not_false_eq_true, hM1]
    exact ⟨_, rfl, Or.inl ⟨rfl, decide_eq_false (fun ⟨i, hi, e⟩ => hI i hi e)⟩⟩) (s0 := nI 0) ⟨rfl, fun i hi => absurd hi (Nat.not_lt_zero _)⟩
  unfold mX12_hasLetter_63
  rcases h2 with ⟨rfl, h2⟩ | ⟨rfl, h2⟩
  · simp (disch := omega) only [Option.bind_some, if_true, if_false, Sum.elim_inl, Sum.elim_inr, li0, li1, li2, li3, li4, li5, li6, li7, li8, li9, li10, li12, li16, li20, li24, li25, li31, li32, li40, li41, li42, li48, li57, li59, li97, li104, li105, li124, li126, li240, li241, nI_add, nI_subc, nI_subm, nI_mulc, nI_nm, pu_r, pu_t, pu_a, pu_le_t, pu_le_f, pu_lt_t, pu_lt_f, pu_eq_t, pu_eq_f, nm_eq, nm_eq2, nm_lt, nm_lt2, nm_le, nm_le2, nm_ss, nm_sp, pu_ss, pu_snq, pu_neq, eq_self, and_true, true_and, and_false, false_and, or_true, true_or, or_false, false_or, not_true_eq_false, not_false_eq_true, h1, h2, Bool.false_eq_true]
  · simp (disch := omega) only [Option.bind_some, if_true, if_false, Sum.elim_inl, Sum.elim_inr, li0, li1, li2, li3, li4, li5, li6, li7, li8, li9, li10, li12, li16, li20, li24, li25, li31, li32, li40, li41, li42, li48, li57, li59, li97, li104, li105, li124, li126, li240, li241, nI_add, nI_subc, nI_subm, nI_mulc, nI_nm, pu_r, pu_t, pu_a, pu_le_t, pu_le_f, pu_lt_t, pu_lt_f, pu_eq_t, pu_eq_f, nm_eq, nm_eq2, nm_lt, nm_lt2, nm_le, nm_le2, nm_ss, nm_sp, pu_ss, pu_snq, pu_neq, eq_self, and_true, true_and, and_false, false_and, or_true, true_or, or_false, false_or, not_true_eq_false, not_false_eq_true, h1, h2]
theorem r_unlike {T : Nat → Nat} {n : Nat} {M : me_M} (hT : tx9 T n) (hM : rx T n M) : mX12_unlike_63 M = some (nI (ct (fun c => hl T n (c + 2)) 8)) := by
  have h : me_l (mX12_unlike_63_L4 M) me_fu (nI 0, nI 2) = some (nI (ct (fun c => hl T n (c + 2)) 8)) := by
    refine lp_to (fun x => (nI (ct (fun c => hl T n (c + 2)) x), nI (x + 2))) (a := 0) (N := 8) (by omega) (by omega) (fun x _ hx => ?_) ?_
    · simp only [mX12_unlike_63_L4, mX12_unlike_63_J24]
      cases c : hl T n (x + 2) with
      | true => simp (disch := omega) only [Option.bind_some, if_true, if_false, Sum.elim_inl, Sum.elim_inr, li0, li1, li2, li3, li4, li5, li6, li7, li8, li9, li10, li12, li16, li20, li24, li25, li31, li32, li40, li41, li42, li48, li57, li59, li97, li104, li105, li124, li126, li240, li241, nI_add, nI_subc, nI_subm, nI_mulc, nI_nm, pu_r, pu_t, pu_a, pu_le_t, pu_le_f, pu_lt_t, pu_lt_f, pu_eq_t, pu_eq_f, nm_eq, nm_eq2, nm_lt, nm_lt2, nm_le, nm_le2, nm_ss, nm_sp, pu_ss, pu_snq, pu_neq, eq_self, and_true, true_and, and_false, false_and, or_true, true_or, or_false, false_or, not_true_eq_false, not_false_eq_true, r_hasLetter hT hM, c, ct_s]
      | false => simp (disch := omega) only [Option.bind_some, if_true, if_false, Sum.elim_inl, Sum.elim_inr, li0, li1, li2, li3, li4, li5, li6, li7, li8, li9, li10, li12, li16, li20, li24, li25, li31, li32, li40, li41, li42, li48, li57, li59, li97, li104, li105, li124, li126, li240, li241, nI_add, nI_subc, nI_subm, nI_mulc, nI_nm, pu_r, pu_t, pu_a, pu_le_t, pu_le_f, pu_lt_t, pu_lt_f, pu_eq_t, pu_eq_f, nm_eq, nm_eq2, nm_lt, nm_lt2, nm_le, nm_le2, nm_ss, nm_sp, pu_ss, pu_snq, pu_neq, eq_self, and_true, true_and, and_false, false_and, or_true, true_or, or_false, false_or, not_true_eq_false, not_false_eq_true, r_hasLetter hT hM, c, ct_s, Bool.false_eq_true, Nat.add_zero]
    · simp only [mX12_unlike_63_L4]
      simp (disch := omega) only [Option.bind_some, if_true, if_false, Sum.elim_inl, Sum.elim_inr, li0, li1, li2, li3, li4, li5, li6, li7, li8, li9, li10, li12, li16, li20, li24, li25, li31, li32, li40, li41, li42, li48, li57, li59, li97, li104, li105, li124, li126, li240, li241, nI_add, nI_subc, nI_subm, nI_mulc, nI_nm, pu_r, pu_t, pu_a, pu_le_t, pu_le_f, pu_lt_t, pu_lt_f, pu_eq_t, pu_eq_f, nm_eq, nm_eq2, nm_lt, nm_lt2, nm_le, nm_le2, nm_ss, nm_sp, pu_ss, pu_snq, pu_neq, eq_self, and_true, true_and, and_false, false_and, or_true, true_or, or_false, false_or, not_true_eq_false, not_false_eq_true]
  unfold mX12_unlike_63
  simp (disch := omega) only [Option.bind_some, if_true, if_false, Sum.elim_inl, Sum.elim_inr, li0, li1, li2, li3, li4, li5, li6, li7, li8, li9, li10, li12, li16, li20, li24, li25, li31, li32, li40, li41, li42, li48, li57, li59, li97, li104, li105, li124, li126, li240, li241, nI_add, nI_subc, nI_subm, nI_mulc, nI_nm, pu_r, pu_t, pu_a, pu_le_t, pu_le_f, pu_lt_t, pu_lt_f, pu_eq_t, pu_eq_f, nm_eq, nm_eq2, nm_lt, nm_lt2, nm_le, nm_le2, nm_ss, nm_sp, pu_ss, pu_snq, pu_neq, eq_self, and_true, true_and, and_false, false_and, or_true, true_or, or_false, false_or, not_true_eq_false, not_false_eq_true, h]
theorem r_run {T : Nat → Nat} {n p : Nat} {M : me_M} (hT : tx9 T n) (hM : rx T n M) (hp : p ≤ n) : mX12_run_63 M (nI p) = some (nI (lf T n p)) := by
  obtain ⟨hM1, hM2⟩ := hM
  obtain ⟨-, hT9, -, hn⟩ := hT
  have hle := lf_le (T := T) (n := n) p
  obtain ⟨r, h1, h2⟩ := lp_up (b := mX12_run_63_L2 M (nI p)) (fun x st => st = nI x ∧ lf T n p = x + lf T n (p + x)) (fun r => r = nI (lf T n p)) (a := 0) (N := n - p) (by omega) (by omega) (fun x st _ hx hI => by
    obtain ⟨rfl, hI⟩ := hI
    simp only [mX12_run_63_L2]
    have := hT9 (p + x)
    rw [lf_rec (show p + x < n by omega)] at hI
    by_cases c : T (p + x) = 1
    · right
      rw [if_pos c] at hI
      simp (disch := omega) only [Option.bind_some, if_true, if_false, Sum.elim_inl, Sum.elim_inr, li0, li1, li2, li3, li4, li5, li6, li7, li8, li9, li10, li12, li16, li20, li24, li25, li31, li32, li40, li41, li42, li48, li57, li59, li97, li104, li105, li124, li126, li240, li241, nI_add, nI_subc, nI_subm, nI_mulc, nI_nm, pu_r, pu_t, pu_a, pu_le_t, pu_le_f, pu_lt_t, pu_lt_f, pu_eq_t, pu_eq_f, nm_eq, nm_eq2, nm_lt, nm_lt2, nm_le, nm_le2, nm_ss, nm_sp, pu_ss, pu_snq, pu_neq, eq_self, and_true, true_and, and_false, false_and, or_true, true_or, or_false, false_or, not_true_eq_false, not_false_eq_true, hM1, hM2]
      exact ⟨_, rfl, by rw [hI]; rfl⟩
    · left
      rw [if_neg c] at hI
      simp (disch := omega) only [Option.bind_some, if_true, if_false, Sum.elim_inl, Sum.elim_inr, li0, li1, li2, li3, li4, li5, li6, li7, li8, li9, li10, li12, li16, li20, li24, li25, li31, li32, li40, li41, li42, li48, li57, li59, li97, li104, li105, li124, li126, li240, li241, nI_add, nI_subc, nI_subm, nI_mulc, nI_nm, pu_r, pu_t, pu_a, pu_le_t, pu_le_f, pu_lt_t, pu_lt_f, pu_eq_t, pu_eq_f, nm_eq, nm_eq2, nm_lt, nm_lt2, nm_le, nm_le2, nm_ss, nm_sp, pu_ss, pu_snq, pu_neq, eq_self, and_true, true_and, and_false, false_and, or_true, true_or, or_false, false_or, not_true_eq_false, not_false_eq_true, hM1, hM2]
      exact ⟨_, rfl, rfl, by rw [show p + (x + 1) = p + x + 1 by omega]; omega⟩) (fun st hI => by
    obtain ⟨rfl, hI⟩ := hI
    rw [lf_end (show n ≤ p + (n - p) by omega)] at hI
    simp only [mX12_run_63_L2]
    simp (disch := omega) only [Option.bind_some, if_true, if_false, Sum.elim_inl, Sum.elim_inr, li0, li1, li2, li3, li4, li5, li6, li7, li8, li9, li10, li12, li16, li20, li24, li25, li31, li32, li40, li41, li42, li48, li57, li59, li97, li104, li105, li124, li126, li240, li241, nI_add, nI_subc, nI_subm, nI_mulc, nI_nm, pu_r, pu_t, pu_a, pu_le_t, pu_le_f, pu_lt_t, pu_lt_f, pu_eq_t, pu_eq_f, nm_eq, nm_eq2, nm_lt, nm_lt2, nm_le, nm_le2, nm_ss, nm_sp, pu_ss, pu_snq, pu_neq, eq_self, and_true, true_and, and_false, false_and, or_true, true_or, or_false, false_or, not_true_eq_false, not_false_eq_true, hM1]
    exact ⟨_, rfl, by rw [hI]; rfl⟩) (s0 := nI 0) ⟨rfl, by simp⟩
  subst h2
  unfold mX12_run_63
  simp (disch := omega) only [Option.bind_some, if_true, if_false, Sum.elim_inl, Sum.elim_inr, li0, li1, li2, li3, li4, li5, li6, li7, li8, li9, li10, li12, li16, li20, li24, li25, li31, li32, li40, li41, li42, li48, li57, li59, li97, li104, li105, li124, li126, li240, li241, nI_add, nI_subc, nI_subm, nI_mulc, nI_nm, pu_r, pu_t, pu_a, pu_le_t, pu_le_f, pu_lt_t, pu_lt_f, pu_eq_t, pu_eq_f, nm_eq, nm_eq2, nm_lt, nm_lt2, nm_le, nm_le2, nm_ss, nm_sp, pu_ss, pu_snq, pu_neq, eq_self, and_true, true_and, and_false, false_and, or_true, true_or, or_false, false_or, not_true_eq_false, not_false_eq_true, h1]
/-- with how many letters two places begin alike -/
def lk (T : Nat → Nat) (n p q : Nat) : Nat := min (lc T n p q) (lf T n p)
theorem lk_le {T : Nat → Nat} {n p q : Nat} : lk T n p q ≤ n - p := by
  have := lf_le (T := T) (n := n) p
  unfold lk
  omega
theorem lk_end {T : Nat → Nat} {n p q : Nat} (h : n ≤ p ∨ n ≤ q) : lk T n p q = 0 := by
  unfold lk
  rw [lc_end h]
  omega
theorem lk_rec {T : Nat → Nat} {n p q : Nat} (hp : p < n) (hq : q < n) : lk T n p q = if T p = T q ∧ T p ≠ 1 then lk T n (p + 1) (q + 1) + 1 else 0 := by
  unfold lk
  rw [lc_rec hp hq, lf_rec hp]
  by_cases a : T p = T q
  · by_cases b : T p = 1
    · rw [if_pos a, if_pos b, if_neg (fun z => z.2 b)]; omega
    · rw [if_pos a, if_neg b, if_pos ⟨a, b⟩]; omega
  · rw [if_neg a, if_neg (c := T p = T q ∧ T p ≠ 1) (fun z => a z.1)]; omega
theorem r_like {T : Nat → Nat} {n p q : Nat} {M : me_M} (hT : tx9 T n) (hM : rx T n M) (hp : p ≤ n) (hq : q ≤ n) : mX12_like_63 M (nI p) (nI q) = some (nI (lk T n p q)) := by
  obtain ⟨hM1, hM2⟩ := hM
  obtain ⟨-, hT9, -, hn⟩ := hT
  obtain ⟨r, h1, h2⟩ := lp_up (b := mX12_like_63_L2 M (nI p) (nI q)) (fun x st => st = nI x ∧ lk T n p q = x + lk T n (p + x) (q + x)) (fun r => r = nI (lk T n p q)) (a := 0) (N := n - max p q) (by omega) (by omega) (fun x st _ hx hI => by
    obtain ⟨rfl, hI⟩ := hI
    simp only [mX12_like_63_L2]
    have := hT9 (p + x)
    have := hT9 (q + x)
    rw [lk_rec (show p + x < n by omega) (show q + x < n by omega)] at hI
    by_cases c : T (p + x) = T (q + x)
    · by_cases d : T (p + x) = 1
      · right
        rw [if_neg (fun z => z.2 d)] at hI
        simp (disch := omega) only [Option.bind_some, if_true, if_false, Sum.elim_inl, Sum.elim_inr, li0, li1, li2, li3, li4, li5, li6, li7, li8, li9, li10, li12, li16, li20, li24, li25, li31, li32, li40, li41, li42, li48, li57, li59, li97, li104, li105, li124, li126, li240, li241, nI_add, nI_subc, nI_subm, nI_mulc, nI_nm, pu_r, pu_t, pu_a, pu_le_t, pu_le_f, pu_lt_t, pu_lt_f, pu_eq_t, pu_eq_f, nm_eq, nm_eq2, nm_lt, nm_lt2, nm_le, nm_le2, nm_ss, nm_sp, pu_ss, pu_snq, pu_neq, eq_self, and_true, true_and, and_false, false_and, or_true, true_or, or_false, false_or, not_true_eq_false, not_false_eq_true, hM1, hM2]
        exact ⟨_, rfl, by rw [hI]; rfl⟩
      · left
        rw [if_pos ⟨c, d⟩] at hI
        simp (disch := omega) only [Option.bind_some, if_true, if_false, Sum.elim_inl, Sum.elim_inr, li0, li1, li2, li3, li4, li5, li6, li7, li8, li9, li10, li12, li16, li20, li24, li25, li31, li32, li40, li41, li42, li48, li57, li59, li97, li104, li105, li124, li126, li240, li241, nI_add, nI_subc, nI_subm, nI_mulc, nI_nm, pu_r, pu_t, pu_a, pu_le_t, pu_le_f, pu_lt_t, pu_lt_f, pu_eq_t, pu_eq_f, nm_eq, nm_eq2, nm_lt, nm_lt2, nm_le, nm_le2, nm_ss, nm_sp, pu_ss, pu_snq, pu_neq, eq_self, and_true, true_and, and_false, false_and, or_true, true_or, or_false, false_or, not_true_eq_false, not_false_eq_true, hM1, hM2]
        exact ⟨_, rfl, rfl, by rw [show p + (x + 1) = p + x + 1 by omega, show q + (x + 1) = q + x + 1 by omega]; omega⟩
    · right
      rw [if_neg (fun z => c z.1)] at hI
      simp (disch := omega) only [Option.bind_some, if_true, if_false, Sum.elim_inl, Sum.elim_inr, li0, li1, li2, li3, li4, li5, li6, li7, li8, li9, li10, li12, li16, li20, li24, li25, li31, li32, li40, li41, li42, li48, li57, li59, li97, li104, li105, li124, li126, li240, li241, nI_add, nI_subc, nI_subm, nI_mulc, nI_nm, pu_r, pu_t, pu_a, pu_le_t, pu_le_f, pu_lt_t, pu_lt_f, pu_eq_t, pu_eq_f, nm_eq, nm_eq2, nm_lt, nm_lt2, nm_le, nm_le2, nm_ss, nm_sp, pu_ss, pu_snq, pu_neq, eq_self, and_true, true_and, and_false, false_and, or_true, true_or, or_false, false_or, not_true_eq_false, not_false_eq_true, hM1, hM2]
      exact ⟨_, rfl, by rw [hI]; rfl⟩) (fun st hI => by
    obtain ⟨rfl, hI⟩ := hI
    rw [lk_end (show n ≤ p + (n - max p q) ∨ n ≤ q + (n - max p q) by omega)] at hI
    simp only [mX12_like_63_L2]
    by_cases c : n ≤ p + (n - max p q)
    · simp (disch := omega) only [Option.bind_some, if_true, if_false, Sum.elim_inl, Sum.elim_inr, li0, li1, li2, li3, li4, li5, li6, li7, li8, li9, li10, li12, li16, li20, li24, li25, li31, li32, li40, li41, li42, li48, li57, li59, li97, li104, li105, li124, li126, li240, li241, nI_add, nI_subc, nI_subm, nI_mulc, nI_nm, pu_r, pu_t, pu_a, pu_le_t, pu_le_f, pu_lt_t, pu_lt_f, pu_eq_t, pu_eq_f, nm_eq, nm_eq2, nm_lt, nm_lt2, nm_le, nm_le2, nm_ss, nm_sp, pu_ss, pu_snq, pu_neq, eq_self, and_true, true_and, and_false, false_and, or_true, true_or, or_false, false_or, not_true_eq_false, not_false_eq_true, hM1]
      exact ⟨_, rfl, by rw [hI]; rfl⟩
    · simp (disch := omega) only [Option.bind_some, if_true, if_false, Sum.elim_inl, Sum.elim_inr, li0, li1, li2, li3, li4, li5, li6, li7, li8, li9, li10, li12, li16, li20, li24, li25, li31, li32, li40, li41, li42, li48, li57, li59, li97, li104, li105, li124, li126, li240, li241, nI_add, nI_subc, nI_subm, nI_mulc, nI_nm, pu_r, pu_t, pu_a, pu_le_t, pu_le_f, pu_lt_t, pu_lt_f, pu_eq_t, pu_eq_f, nm_eq, nm_eq2, nm_lt, nm_lt2, nm_le, nm_le2, nm_ss, nm_sp, pu_ss, pu_snq, pu_neq, eq_self, and_true, true_and, and_false, false_and, or_true, true_or, or_false, false_or, not_true_eq_false, not_false_eq_true, hM1]
      exact ⟨_, rfl, by rw [hI]; rfl⟩) (s0 := nI 0) ⟨rfl, by simp⟩
  subst h2
  unfold mX12_like_63
  simp (disch := omega) only [Option.bind_some, if_true, if_false, Sum.elim_inl, Sum.elim_inr, li0, li1, li2, li3, li4, li5, li6, li7, li8, li9, li10, li12, li16, li20, li24, li25, li31, li32, li40, li41, li42, li48, li57, li59, li97, li104, li105, li124, li126, li240, li241, nI_add, nI_subc, nI_subm, nI_mulc, nI_nm, pu_r, pu_t, pu_a, pu_le_t, pu_le_f, pu_lt_t, pu_lt_f, pu_eq_t, pu_eq_f, nm_eq, nm_eq2, nm_lt, nm_lt2, nm_le, nm_le2, nm_ss, nm_sp, pu_ss, pu_snq, pu_neq, eq_self, and_true, true_and, and_false, false_and, or_true, true_or, or_false, false_or, not_true_eq_false, not_false_eq_true, h1]
/-- the greatest of some numbers -/
def mx (f : Nat → Nat) : Nat → Nat
  | 0 => 0
  | n + 1 => max (mx f n) (f n)
theorem mx_s (f : Nat → Nat) (n : Nat) : mx f (n + 1) = max (mx f n) (f n) := rfl
theorem mx_ge {f : Nat → Nat} : ∀ {n i : Nat}, i < n → f i ≤ mx f n
  | 0, _, h => absurd h (Nat.not_lt_zero _)
  | n + 1, i, h => by
    rw [mx_s]
    by_cases e : i = n
    · subst e; omega
    · have := mx_ge (f := f) (show i < n by omega); omega
theorem mx_le {f : Nat → Nat} {b : Nat} : ∀ {n : Nat}, (∀ i, i < n → f i ≤ b) → mx f n ≤ b
  | 0, _ => Nat.zero_le _
  | n + 1, h => by
    have := mx_le (f := f) (n := n) (fun i hi => h i (by omega))
    have := h n (by omega)
    rw [mx_s]; omega
theorem mx_at {f : Nat → Nat} : ∀ {n : Nat}, 0 < mx f n → ∃ i, i < n ∧ f i = mx f n
  | 0, h => absurd h (Nat.not_lt_zero _)
  | n + 1, h => by
    rw [mx_s] at h ⊢
    by_cases c : f n ≤ mx f n
    · obtain ⟨i, hi, e⟩ := mx_at (f := f) (n := n) (by omega)
      exact ⟨i, by omega, by omega⟩
    · exact ⟨n, by omega, by omega⟩
theorem mx_congr {f g : Nat → Nat} : ∀ {n : Nat}, (∀ i, i < n → f i = g i) → mx f n = mx g n
  | 0, _ => rfl
  | n + 1, h => by rw [mx_s, mx_s, mx_congr (fun i hi => h i (by omega)), h n (by omega)]
theorem r_more {a b : Nat} (ha : a < 2 ^ 31) (hb : b < 2 ^ 31) : mX12_more (nI a) (nI b) = some (nI (max a b)) := by
  unfold mX12_more
  by_cases c : a ≤ b
  · simp (disch := omega) only [Option.bind_some, if_true, if_false, Sum.elim_inl, Sum.elim_inr, li0, li1, li2, li3, li4, li5, li6, li7, li8, li9, li10, li12, li16, li20, li24, li25, li31, li32, li40, li41, li42, li48, li57, li59, li97, li104, li105, li124, li126, li240, li241, nI_add, nI_subc, nI_subm, nI_mulc, nI_nm, pu_r, pu_t, pu_a, pu_le_t, pu_le_f, pu_lt_t, pu_lt_f, pu_eq_t, pu_eq_f, nm_eq, nm_eq2, nm_lt, nm_lt2, nm_le, nm_le2, nm_ss, nm_sp, pu_ss, pu_snq, pu_neq, eq_self, and_true, true_and, and_false, false_and, or_true, true_or, or_false, false_or, not_true_eq_false, not_false_eq_true, Nat.max_eq_right c]
  · simp (disch := omega) only [Option.bind_some, if_true, if_false, Sum.elim_inl, Sum.elim_inr, li0, li1, li2, li3, li4, li5, li6, li7, li8, li9, li10, li12, li16, li20, li24, li25, li31, li32, li40, li41, li42, li48, li57, li59, li97, li104, li105, li124, li126, li240, li241, nI_add, nI_subc, nI_subm, nI_mulc, nI_nm, pu_r, pu_t, pu_a, pu_le_t, pu_le_f, pu_lt_t, pu_lt_f, pu_eq_t, pu_eq_f, nm_eq, nm_eq2, nm_lt, nm_lt2, nm_le, nm_le2, nm_ss, nm_sp, pu_ss, pu_snq, pu_neq, eq_self, and_true, true_and, and_false, false_and, or_true, true_or, or_false, false_or, not_true_eq_false, not_false_eq_true, Nat.max_eq_left (show b ≤ a by omega)]
theorem r_less {a b : Nat} (ha : a < 2 ^ 31) (hb : b < 2 ^ 31) : mX12_less (nI a) (nI b) = some (nI (min a b)) := by
  unfold mX12_less
  by_cases c : b ≤ a
  · simp (disch := omega) only [Option.bind_some, if_true, if_false, Sum.elim_inl, Sum.elim_inr, li0, li1, li2, li3, li4, li5, li6, li7, li8, li9, li10, li12, li16, li20, li24, li25, li31, li32, li40, li41, li42, li48, li57, li59, li97, li104, li105, li124, li126, li240, li241, nI_add, nI_subc, nI_subm, nI_mulc, nI_nm, pu_r, pu_t, pu_a, pu_le_t, pu_le_f, pu_lt_t, pu_lt_f, pu_eq_t, pu_eq_f, nm_eq, nm_eq2, nm_lt, nm_lt2, nm_le, nm_le2, nm_ss, nm_sp, pu_ss, pu_snq, pu_neq, eq_self, and_true, true_and, and_false, false_and, or_true, true_or, or_false, false_or, not_true_eq_false, not_false_eq_true, Nat.min_eq_right c]
  · simp (disch := omega) only [Option.bind_some, if_true, if_false, Sum.elim_inl, Sum.elim_inr, li0, li1, li2, li3, li4, li5, li6, li7, li8, li9, li10, li12, li16, li20, li24, li25, li31, li32, li40, li41, li42, li48, li57, li59, li97, li104, li105, li124, li126, li240, li241, nI_add, nI_subc, nI_subm, nI_mulc, nI_nm, pu_r, pu_t, pu_a, pu_le_t, pu_le_f, pu_lt_t, pu_lt_f, pu_eq_t, pu_eq_f, nm_eq, nm_eq2, nm_lt, nm_lt2, nm_le, nm_le2, nm_ss, nm_sp, pu_ss, pu_snq, pu_neq, eq_self, and_true, true_and, and_false, false_and, or_true, true_or, or_false, false_or, not_true_eq_false, not_false_eq_true, Nat.min_eq_left (show a ≤ b by omega)]
theorem c_max {a b : Nat} (ha : a < 2 ^ 31) (hb : b < 2 ^ 31) : mJ9_max_7cf53 (nI a) (nI b) = some (nI (max a b)) := by
  unfold mJ9_max_7cf53
  by_cases c : a < b
  · simp (disch := omega) only [Option.bind_some, if_true, if_false, Sum.elim_inl, Sum.elim_inr, li0, li1, li2, li3, li4, li5, li6, li7, li8, li9, li10, li12, li16, li20, li24, li25, li31, li32, li40, li41, li42, li48, li57, li59, li97, li104, li105, li124, li126, li240, li241, nI_add, nI_subc, nI_subm, nI_mulc, nI_nm, pu_r, pu_t, pu_a, pu_le_t, pu_le_f, pu_lt_t, pu_lt_f, pu_eq_t, pu_eq_f, nm_eq, nm_eq2, nm_lt, nm_lt2, nm_le, nm_le2, nm_ss, nm_sp, pu_ss, pu_snq, pu_neq, eq_self, and_true, true_and, and_false, false_and, or_true, true_or, or_false, false_or, not_true_eq_false, not_false_eq_true, Nat.max_eq_right (Nat.le_of_lt c)]
  · simp (disch := omega) only [Option.bind_some, if_true, if_false, Sum.elim_inl, Sum.elim_inr, li0, li1, li2, li3, li4, li5, li6, li7, li8, li9, li10, li12, li16, li20, li24, li25, li31, li32, li40, li41, li42, li48, li57, li59, li97, li104, li105, li124, li126, li240, li241, nI_add, nI_subc, nI_subm, nI_mulc, nI_nm, pu_r, pu_t, pu_a, pu_le_t, pu_le_f, pu_lt_t, pu_lt_f, pu_eq_t, pu_eq_f, nm_eq, nm_eq2, nm_lt, nm_lt2, nm_le, nm_le2, nm_ss, nm_sp, pu_ss, pu_snq, pu_neq, eq_self, and_true, true_and, and_false, false_and, or_true, true_or, or_false, false_or, not_true_eq_false, not_false_eq_true, Nat.max_eq_left (show b ≤ a by omega)]
theorem c_min {a b : Nat} (ha : a < 2 ^ 31) (hb : b < 2 ^ 31) : mJ9_min_7cf53 (nI a) (nI b) = some (nI (min a b)) := by
  unfold mJ9_min_7cf53
  by_cases c : b < a
  · simp (disch := omega) only [Option.bind_some, if_true, if_false, Sum.elim_inl, Sum.elim_inr, li0, li1, li2, li3, li4, li5, li6, li7, li8, li9, li10, li12, li16, li20, li24, li25, li31, li32, li40, li41, li42, li48, li57, li59, li97, li104, li105, li124, li126, li240, li241, nI_add, nI_subc, nI_subm, nI_mulc, nI_nm, pu_r, pu_t, pu_a, pu_le_t, pu_le_f, pu_lt_t, pu_lt_f, pu_eq_t, pu_eq_f, nm_eq, nm_eq2, nm_lt, nm_lt2, nm_le, nm_le2, nm_ss, nm_sp, pu_ss, pu_snq, pu_neq, eq_self, and_true, true_and, and_false, false_and, or_true, true_or, or_false, false_or, not_true_eq_false, not_false_eq_true, Nat.min_eq_right (Nat.le_of_lt c)]
  · simp (disch := omega) only [Option.bind_some, if_true, if_false, Sum.elim_inl, Sum.elim_inr, li0, li1, li2, li3, li4, li5, li6, li7, li8, li9, li10, li12, li16, li20, li24, li25, li31, li32, li40, li41, li42, li48, li57, li59, li97, li104, li105, li124, li126, li240, li241, nI_add, nI_subc, nI_subm, nI_mulc, nI_nm, pu_r, pu_t, pu_a, pu_le_t, pu_le_f, pu_lt_t, pu_lt_f, pu_eq_t, pu_eq_f, nm_eq, nm_eq2, nm_lt, nm_lt2, nm_le, nm_le2, nm_ss, nm_sp, pu_ss, pu_snq, pu_neq, eq_self, and_true, true_and, and_false, false_and, or_true, true_or, or_false, false_or, not_true_eq_false, not_false_eq_true, Nat.min_eq_left (show a ≤ b by omega)]
