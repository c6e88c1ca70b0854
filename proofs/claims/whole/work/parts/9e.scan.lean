/-! ===== call: scheme; reading bytes ===== -/
def bz9 (F : Nat → Nat) (so p : Nat) : Nat := if p < so then F p else 300
def dg9 (F : Nat → Nat) (so p : Nat) : Bool := decide (48 ≤ bz9 F so p ∧ bz9 F so p ≤ 57)
def cT (F : Nat → Nat) (so : Nat) (M : me_M) : Prop := so ≤ 240 ∧ M.1 52 1 = nI so ∧ ∀ i, i < so → F i < 256 ∧ M.1 2 i = nI (F i)
def rT (F : Nat → Nat) (so : Nat) (M : me_M) : Prop := so ≤ 240 ∧ M.1 63 24 = nI so ∧ ∀ i, i < so → F i < 256 ∧ M.1 65 i = nI (F i)
theorem cT.fr {F : Nat → Nat} {so : Nat} {Z : Nat → Nat → Prop} {M M' : me_M} (h : cT F so M) (hx : fr Z M M') (h1 : ¬ Z 52 1) (h2 : ∀ k, ¬ Z 2 k) : cT F so M' := ⟨h.1, by rw [hx.2 _ _ h1]; exact h.2.1, fun i hi => by rw [hx.2 _ _ (h2 _)]; exact h.2.2 i hi⟩
theorem rT.fr {F : Nat → Nat} {so : Nat} {Z : Nat → Nat → Prop} {M M' : me_M} (h : rT F so M) (hx : fr Z M M') (h1 : ¬ Z 63 24) (h2 : ∀ k, ¬ Z 65 k) : rT F so M' := ⟨h.1, by rw [hx.2 _ _ h1]; exact h.2.1, fun i hi => by rw [hx.2 _ _ (h2 _)]; exact h.2.2 i hi⟩
theorem bz9_lt {F : Nat → Nat} {so p : Nat} (h : p < so) : bz9 F so p = F p := if_pos h
theorem bz9_ge {F : Nat → Nat} {so p : Nat} (h : so ≤ p) : bz9 F so p = 300 := if_neg (by omega)
theorem dg9_lt {F : Nat → Nat} {so p : Nat} (h : dg9 F so p = true) : p < so ∧ 48 ≤ F p ∧ F p ≤ 57 := by
  have h := of_decide_eq_true h
  by_cases c : p < so
  · rw [bz9_lt c] at h; exact ⟨c, h⟩
  · rw [bz9_ge (by omega)] at h; omega
theorem dg9_in {F : Nat → Nat} {so p : Nat} (h : p < so) : dg9 F so p = decide (48 ≤ F p ∧ F p ≤ 57) := by unfold dg9; rw [bz9_lt h]
theorem dg9_out {F : Nat → Nat} {so p : Nat} (h : so ≤ p) : dg9 F so p = false := by unfold dg9; rw [bz9_ge h]; rfl
theorem isdb {x : Nat} (h : x < 2 ^ 31) : mX6_isDigitByte (nI x) = some (bI (decide (48 ≤ x ∧ x ≤ 57))) := by
  unfold mX6_isDigitByte
  by_cases c : 48 ≤ x ∧ x ≤ 57
  · rw [decide_eq_true c, bI_t]; simp (disch := omega) only [Option.bind_some, if_true, if_false, Sum.elim_inl, Sum.elim_inr, li0, li1, li2, li3, li4, li5, li6, li7, li8, li9, li10, li12, li16, li20, li24, li25, li31, li32, li40, li41, li42, li48, li57, li59, li97, li104, li105, li124, li126, li240, li241, nI_add, nI_subc, nI_subm, nI_mulc, nI_nm, pu_r, pu_t, pu_a, pu_le_t, pu_le_f, pu_lt_t, pu_lt_f, pu_eq_t, pu_eq_f, nm_eq, nm_eq2, nm_lt, nm_lt2, nm_le, nm_le2, nm_ss, nm_sp, pu_ss, pu_snq, pu_neq, eq_self, and_true, true_and, and_false, false_and, or_true, true_or, or_false, false_or, not_true_eq_false, not_false_eq_true]
  · rw [decide_eq_false c, bI_f]
    by_cases e : x < 48
    · simp (disch := omega) only [Option.bind_some, if_true, if_false, Sum.elim_inl, Sum.elim_inr, li0, li1, li2, li3, li4, li5, li6, li7, li8, li9, li10, li12, li16, li20, li24, li25, li31, li32, li40, li41, li42, li48, li57, li59, li97, li104, li105, li124, li126, li240, li241, nI_add, nI_subc, nI_subm, nI_mulc, nI_nm, pu_r, pu_t, pu_a, pu_le_t, pu_le_f, pu_lt_t, pu_lt_f, pu_eq_t, pu_eq_f, nm_eq, nm_eq2, nm_lt, nm_lt2, nm_le, nm_le2, nm_ss, nm_sp, pu_ss, pu_snq, pu_neq, eq_self, and_true, true_and, and_false, false_and, or_true, true_or, or_false, false_or, not_true_eq_false, not_false_eq_true]
    · simp (disch := omega) only [Option.bind_some, if_true, if_false, Sum.elim_inl, Sum.elim_inr, li0, li1, li2, li3, li4, li5, li6, li7, li8, li9, li10, li12, li16, li20, li24, li25, li31, li32, li40, li41, li42, li48, li57, li59, li97, li104, li105, li124, li126, li240, li241, nI_add, nI_subc, nI_subm, nI_mulc, nI_nm, pu_r, pu_t, pu_a, pu_le_t, pu_le_f, pu_lt_t, pu_lt_f, pu_eq_t, pu_eq_f, nm_eq, nm_eq2, nm_lt, nm_lt2, nm_le, nm_le2, nm_ss, nm_sp, pu_ss, pu_snq, pu_neq, eq_self, and_true, true_and, and_false, false_and, or_true, true_or, or_false, false_or, not_true_eq_false, not_false_eq_true]
theorem c_isDigit {F : Nat → Nat} {so p : Nat} {M : me_M} (hc : cT F so M) (hp : p ≤ 1000) (h2 : M.1 52 2 = nI p) : mX6_isDigit_52 M = some (bI (dg9 F so p)) := by
  have hs := hc.1
  unfold mX6_isDigit_52
  by_cases c : p < so
  · obtain ⟨b1, b2⟩ := hc.2.2 p c
    have hd := isdb (x := F p) (by omega)
    rw [dg9_in c]
    generalize decide (48 ≤ F p ∧ F p ≤ 57) = b at *
    cases b with
    | true => rw [bI_t] at *; simp (disch := omega) only [Option.bind_some, if_true, if_false, Sum.elim_inl, Sum.elim_inr, li0, li1, li2, li3, li4, li5, li6, li7, li8, li9, li10, li12, li16, li20, li24, li25, li31, li32, li40, li41, li42, li48, li57, li59, li97, li104, li105, li124, li126, li240, li241, nI_add, nI_subc, nI_subm, nI_mulc, nI_nm, pu_r, pu_t, pu_a, pu_le_t, pu_le_f, pu_lt_t, pu_lt_f, pu_eq_t, pu_eq_f, nm_eq, nm_eq2, nm_lt, nm_lt2, nm_le, nm_le2, nm_ss, nm_sp, pu_ss, pu_snq, pu_neq, eq_self, and_true, true_and, and_false, false_and, or_true, true_or, or_false, false_or, not_true_eq_false, not_false_eq_true, hc.2.1, h2, b2, hd]
    | false => rw [bI_f] at *; simp (disch := omega) only [Option.bind_some, if_true, if_false, Sum.elim_inl, Sum.elim_inr, li0, li1, li2, li3, li4, li5, li6, li7, li8, li9, li10, li12, li16, li20, li24, li25, li31, li32, li40, li41, li42, li48, li57, li59, li97, li104, li105, li124, li126, li240, li241, nI_add, nI_subc, nI_subm, nI_mulc, nI_nm, pu_r, pu_t, pu_a, pu_le_t, pu_le_f, pu_lt_t, pu_lt_f, pu_eq_t, pu_eq_f, nm_eq, nm_eq2, nm_lt, nm_lt2, nm_le, nm_le2, nm_ss, nm_sp, pu_ss, pu_snq, pu_neq, eq_self, and_true, true_and, and_false, false_and, or_true, true_or, or_false, false_or, not_true_eq_false, not_false_eq_true, hc.2.1, h2, b2, hd]
  · rw [dg9_out (by omega), bI_f]; simp (disch := omega) only [Option.bind_some, if_true, if_false, Sum.elim_inl, Sum.elim_inr, li0, li1, li2, li3, li4, li5, li6, li7, li8, li9, li10, li12, li16, li20, li24, li25, li31, li32, li40, li41, li42, li48, li57, li59, li97, li104, li105, li124, li126, li240, li241, nI_add, nI_subc, nI_subm, nI_mulc, nI_nm, pu_r, pu_t, pu_a, pu_le_t, pu_le_f, pu_lt_t, pu_lt_f, pu_eq_t, pu_eq_f, nm_eq, nm_eq2, nm_lt, nm_lt2, nm_le, nm_le2, nm_ss, nm_sp, pu_ss, pu_snq, pu_neq, eq_self, and_true, true_and, and_false, false_and, or_true, true_or, or_false, false_or, not_true_eq_false, not_false_eq_true, hc.2.1, h2]
theorem c_digitHere {F : Nat → Nat} {so p : Nat} {M : me_M} (hc : cT F so M) (h2 : M.1 52 2 = nI p) (hd : dg9 F so p = true) : mX6_digitHere_52 M = some (nI (bz9 F so p - 48)) := by
  obtain ⟨c, d1, d2⟩ := dg9_lt hd
  have hs := hc.1
  obtain ⟨b1, b2⟩ := hc.2.2 p c
  unfold mX6_digitHere_52
  rw [bz9_lt c]
  simp (disch := omega) only [Option.bind_some, if_true, if_false, Sum.elim_inl, Sum.elim_inr, li0, li1, li2, li3, li4, li5, li6, li7, li8, li9, li10, li12, li16, li20, li24, li25, li31, li32, li40, li41, li42, li48, li57, li59, li97, li104, li105, li124, li126, li240, li241, nI_add, nI_subc, nI_subm, nI_mulc, nI_nm, pu_r, pu_t, pu_a, pu_le_t, pu_le_f, pu_lt_t, pu_lt_f, pu_eq_t, pu_eq_f, nm_eq, nm_eq2, nm_lt, nm_lt2, nm_le, nm_le2, nm_ss, nm_sp, pu_ss, pu_snq, pu_neq, eq_self, and_true, true_and, and_false, false_and, or_true, true_or, or_false, false_or, not_true_eq_false, not_false_eq_true, h2, b2, show (48 : Int32) = nI 48 from rfl]
theorem c_isByte {F : Nat → Nat} {so p ch : Nat} {M : me_M} (hc : cT F so M) (hp : p ≤ 1000) (h2 : M.1 52 2 = nI p) (hch : ch < 256) : mX6_isByte_52 M (nI ch) = some (bI (decide (bz9 F so p = ch))) := by
  have hs := hc.1
  unfold mX6_isByte_52
  by_cases c : p < so
  · obtain ⟨b1, b2⟩ := hc.2.2 p c
    rw [bz9_lt c]
    by_cases e : F p = ch
    · rw [decide_eq_true e, bI_t]; simp (disch := omega) only [Option.bind_some, if_true, if_false, Sum.elim_inl, Sum.elim_inr, li0, li1, li2, li3, li4, li5, li6, li7, li8, li9, li10, li12, li16, li20, li24, li25, li31, li32, li40, li41, li42, li48, li57, li59, li97, li104, li105, li124, li126, li240, li241, nI_add, nI_subc, nI_subm, nI_mulc, nI_nm, pu_r, pu_t, pu_a, pu_le_t, pu_le_f, pu_lt_t, pu_lt_f, pu_eq_t, pu_eq_f, nm_eq, nm_eq2, nm_lt, nm_lt2, nm_le, nm_le2, nm_ss, nm_sp, pu_ss, pu_snq, pu_neq, eq_self, and_true, true_and, and_false, false_and, or_true, true_or, or_false, false_or, not_true_eq_false, not_false_eq_true, hc.2.1, h2, b2]
    · rw [decide_eq_false e, bI_f]; simp (disch := omega) only [Option.bind_some, if_true, if_false, Sum.elim_inl, Sum.elim_inr, li0, li1, li2, li3, li4, li5, li6, li7, li8, li9, li10, li12, li16, li20, li24, li25, li31, li32, li40, li41, li42, li48, li57, li59, li97, li104, li105, li124, li126, li240, li241, nI_add, nI_subc, nI_subm, nI_mulc, nI_nm, pu_r, pu_t, pu_a, pu_le_t, pu_le_f, pu_lt_t, pu_lt_f, pu_eq_t, pu_eq_f, nm_eq, nm_eq2, nm_lt, nm_lt2, nm_le, nm_le2, nm_ss, nm_sp, pu_ss, pu_snq, pu_neq, eq_self, and_true, true_and, and_false, false_and, or_true, true_or, or_false, false_or, not_true_eq_false, not_false_eq_true, hc.2.1, h2, b2]
  · rw [bz9_ge (by omega), decide_eq_false (by omega), bI_f]; simp (disch := omega) only [Option.bind_some, if_true, if_false, Sum.elim_inl, Sum.elim_inr, li0, li1, li2, li3, li4, li5, li6, li7, li8, li9, li10, li12, li16, li20, li24, li25, li31, li32, li40, li41, li42, li48, li57, li59, li97, li104, li105, li124, li126, li240, li241, nI_add, nI_subc, nI_subm, nI_mulc, nI_nm, pu_r, pu_t, pu_a, pu_le_t, pu_le_f, pu_lt_t, pu_lt_f, pu_eq_t, pu_eq_f, nm_eq, nm_eq2, nm_lt, nm_lt2, nm_le, nm_le2, nm_ss, nm_sp, pu_ss, pu_snq, pu_neq, eq_self, and_true, true_and, and_false, false_and, or_true, true_or, or_false, false_or, not_true_eq_false, not_false_eq_true, hc.2.1, h2]
def skR (F : Nat → Nat) (so p q : Nat) : Prop := p ≤ q ∧ (q = p ∨ q ≤ so) ∧ (∀ i, p ≤ i → i < q → bz9 F so i = 32) ∧ bz9 F so q ≠ 32
theorem sk_ex (F : Nat → Nat) (so : Nat) : ∀ k p, so - p = k → ∃ q, skR F so p q := by
  intro k
  induction k with
  | zero => intro p h; exact ⟨p, Nat.le_refl _, Or.inl rfl, fun i h1 h2 => by omega, by rw [bz9_ge (by omega)]; decide⟩
  | succ k ih =>
    intro p h
    by_cases c : bz9 F so p = 32
    · obtain ⟨q, q1, q2, q3, q4⟩ := ih (p + 1) (by omega)
      refine ⟨q, by omega, by omega, fun i h1 h2 => ?_, q4⟩
      by_cases e : i = p
      · rw [e]; exact c
      · exact q3 i (by omega) h2
    · exact ⟨p, Nat.le_refl _, Or.inl rfl, fun i h1 h2 => by omega, c⟩
theorem c_skip {F : Nat → Nat} {so p q : Nat} {M : me_M} (hc : cT F so M) (hp : p ≤ 1000) (h2 : M.1 52 2 = nI p) (hq : skR F so p q) : ∃ M1, mX6_skipBlanks_52 M = some M1 ∧ fr (fun b k => b = 52 ∧ k = 2) M M1 ∧ M1.1 52 2 = nI q := by
  have hs := hc.1
  obtain ⟨q1, q2, q3, q4⟩ := hq
  obtain ⟨r, e, h⟩ := lp_up (b := mX6_skipBlanks_52_L0) (fun x Mx => fr (fun b k => b = 52 ∧ k = 2) M Mx ∧ Mx.1 52 2 = nI x) (fun r => fr (fun b k => b = 52 ∧ k = 2) M r ∧ r.1 52 2 = nI q) (a := p) (N := q) q1 (by omega) (fun x Mx h1 hx ⟨hf, h2x⟩ => by
    left
    have hcx := hc.fr hf (by omega) (fun k => by omega)
    have hb := q3 x h1 hx
    have hlt : x < so := by
      by_cases c : x < so
      · exact c
      · rw [bz9_ge (by omega)] at hb; omega
    rw [bz9_lt hlt] at hb
    obtain ⟨-, b2⟩ := hcx.2.2 x hlt
    refine ⟨me_s Mx 52 2 (nI (x + 1)), ?_, hf.st (by omega), pu_ss⟩
    simp only [mX6_skipBlanks_52_L0]
    simp (disch := omega) only [Option.bind_some, if_true, if_false, Sum.elim_inl, Sum.elim_inr, li0, li1, li2, li3, li4, li5, li6, li7, li8, li9, li10, li12, li16, li20, li24, li25, li31, li32, li40, li41, li42, li48, li57, li59, li97, li104, li105, li124, li126, li240, li241, nI_add, nI_subc, nI_subm, nI_mulc, nI_nm, pu_r, pu_t, pu_a, pu_le_t, pu_le_f, pu_lt_t, pu_lt_f, pu_eq_t, pu_eq_f, nm_eq, nm_eq2, nm_lt, nm_lt2, nm_le, nm_le2, nm_ss, nm_sp, pu_ss, pu_snq, pu_neq, eq_self, and_true, true_and, and_false, false_and, or_true, true_or, or_false, false_or, not_true_eq_false, not_false_eq_true, hcx.2.1, h2x, b2]) (fun Mx ⟨hf, h2x⟩ => by
    have hcx := hc.fr hf (by omega) (fun k => by omega)
    refine ⟨Mx, ?_, hf, h2x⟩
    simp only [mX6_skipBlanks_52_L0]
    by_cases hlt : q < so
    · rw [bz9_lt hlt] at q4
      obtain ⟨b1, b2⟩ := hcx.2.2 q hlt
      simp (disch := omega) only [Option.bind_some, if_true, if_false, Sum.elim_inl, Sum.elim_inr, li0, li1, li2, li3, li4, li5, li6, li7, li8, li9, li10, li12, li16, li20, li24, li25, li31, li32, li40, li41, li42, li48, li57, li59, li97, li104, li105, li124, li126, li240, li241, nI_add, nI_subc, nI_subm, nI_mulc, nI_nm, pu_r, pu_t, pu_a, pu_le_t, pu_le_f, pu_lt_t, pu_lt_f, pu_eq_t, pu_eq_f, nm_eq, nm_eq2, nm_lt, nm_lt2, nm_le, nm_le2, nm_ss, nm_sp, pu_ss, pu_snq, pu_neq, eq_self, and_true, true_and, and_false, false_and, or_true, true_or, or_false, false_or, not_true_eq_false, not_false_eq_true, hcx.2.1, h2x, b2]
    · simp (disch := omega) only [Option.bind_some, if_true, if_false, Sum.elim_inl, Sum.elim_inr, li0, li1, li2, li3, li4, li5, li6, li7, li8, li9, li10, li12, li16, li20, li24, li25, li31, li32, li40, li41, li42, li48, li57, li59, li97, li104, li105, li124, li126, li240, li241, nI_add, nI_subc, nI_subm, nI_mulc, nI_nm, pu_r, pu_t, pu_a, pu_le_t, pu_le_f, pu_lt_t, pu_lt_f, pu_eq_t, pu_eq_f, nm_eq, nm_eq2, nm_lt, nm_lt2, nm_le, nm_le2, nm_ss, nm_sp, pu_ss, pu_snq, pu_neq, eq_self, and_true, true_and, and_false, false_and, or_true, true_or, or_false, false_or, not_true_eq_false, not_false_eq_true, hcx.2.1, h2x]) (s0 := M) ⟨fr.rf, h2⟩
  refine ⟨r, ?_, h⟩
  unfold mX6_skipBlanks_52
  rw [e, Option.bind_some]
/-- the reference's byte -/
def hv (F : Nat → Nat) (so p : Nat) : Int32 := if p < so then nI (F p) else -nI 1
theorem r_here {F : Nat → Nat} {so p : Nat} {M : me_M} (hc : rT F so M) (hp : p ≤ 1000) (h2 : M.1 63 25 = nI p) : mX12_here_63 M = some (hv F so p) := by
  have hs := hc.1
  unfold mX12_here_63 hv
  by_cases c : p < so
  · obtain ⟨b1, b2⟩ := hc.2.2 p c
    rw [if_pos c]; simp (disch := omega) only [Option.bind_some, if_true, if_false, Sum.elim_inl, Sum.elim_inr, li0, li1, li2, li3, li4, li5, li6, li7, li8, li9, li10, li12, li16, li20, li24, li25, li31, li32, li40, li41, li42, li48, li57, li59, li97, li104, li105, li124, li126, li240, li241, nI_add, nI_subc, nI_subm, nI_mulc, nI_nm, pu_r, pu_t, pu_a, pu_le_t, pu_le_f, pu_lt_t, pu_lt_f, pu_eq_t, pu_eq_f, nm_eq, nm_eq2, nm_lt, nm_lt2, nm_le, nm_le2, nm_ss, nm_sp, pu_ss, pu_snq, pu_neq, eq_self, and_true, true_and, and_false, false_and, or_true, true_or, or_false, false_or, not_true_eq_false, not_false_eq_true, hc.2.1, h2, b2]
  · rw [if_neg c]; simp (disch := omega) only [Option.bind_some, if_true, if_false, Sum.elim_inl, Sum.elim_inr, li0, li1, li2, li3, li4, li5, li6, li7, li8, li9, li10, li12, li16, li20, li24, li25, li31, li32, li40, li41, li42, li48, li57, li59, li97, li104, li105, li124, li126, li240, li241, nI_add, nI_subc, nI_subm, nI_mulc, nI_nm, pu_r, pu_t, pu_a, pu_le_t, pu_le_f, pu_lt_t, pu_lt_f, pu_eq_t, pu_eq_f, nm_eq, nm_eq2, nm_lt, nm_lt2, nm_le, nm_le2, nm_ss, nm_sp, pu_ss, pu_snq, pu_neq, eq_self, and_true, true_and, and_false, false_and, or_true, true_or, or_false, false_or, not_true_eq_false, not_false_eq_true, hc.2.1, h2]
theorem hv_eq {F : Nat → Nat} {so p c : Nat} (hF : ∀ i, i < so → F i < 256) (hc : c < 256) : (hv F so p = nI c) = (bz9 F so p = c) := by
  unfold hv
  by_cases h : p < so
  · have := hF p h
    rw [if_pos h, bz9_lt h]
    exact propext (nI_eq (by omega) (by omega))
  · rw [if_neg h, bz9_ge (by omega), nm_eq2 (by omega)]
    exact (eq_false (by omega)).symm
theorem hv_m {F : Nat → Nat} {so p : Nat} (hF : ∀ i, i < so → F i < 256) : (hv F so p = -nI 1) = (so ≤ p) := by
  unfold hv
  by_cases h : p < so
  · have := hF p h
    rw [if_pos h, nm_eq (by omega)]
    exact (eq_false (by omega)).symm
  · rw [if_neg h]
    exact (eq_true rfl).trans (eq_true (by omega)).symm
theorem r_isDig {F : Nat → Nat} {so p : Nat} (hF : ∀ i, i < so → F i < 256) : mX12_isDigit (hv F so p) = some (bI (dg9 F so p)) := by
  unfold hv
  by_cases h : p < so
  · have := hF p h
    rw [if_pos h, dg9_in h]
    exact isdb (by omega)
  · rw [if_neg h, dg9_out (by omega), bI_f]
    decide +kernel
theorem hv_dig {F : Nat → Nat} {so p : Nat} (h : dg9 F so p = true) : hv F so p - nI 48 = nI (bz9 F so p - 48) := by
  obtain ⟨c, d1, d2⟩ := dg9_lt h
  unfold hv
  rw [if_pos c, bz9_lt c, nI_sub d1]
theorem r_skip {F : Nat → Nat} {so p q : Nat} {M : me_M} (hc : rT F so M) (hp : p ≤ 1000) (h2 : M.1 63 25 = nI p) (hq : skR F so p q) : ∃ M1, mX12_blanks_63 M = some M1 ∧ fr (fun b k => b = 63 ∧ k = 25) M M1 ∧ M1.1 63 25 = nI q := by
  have hs := hc.1
  have hF : ∀ i, i < so → F i < 256 := fun i hi => (hc.2.2 i hi).1
  obtain ⟨q1, q2, q3, q4⟩ := hq
  obtain ⟨r, e, h⟩ := lp_up (b := mX12_blanks_63_L0) (fun x Mx => fr (fun b k => b = 63 ∧ k = 25) M Mx ∧ Mx.1 63 25 = nI x) (fun r => fr (fun b k => b = 63 ∧ k = 25) M r ∧ r.1 63 25 = nI q) (a := p) (N := q) q1 (by omega) (fun x Mx h1 hx ⟨hf, h2x⟩ => by
    left
    have hcx := hc.fr hf (by omega) (fun k => by omega)
    have hb := q3 x h1 hx
    refine ⟨me_s Mx 63 25 (nI (x + 1)), ?_, hf.st (by omega), pu_ss⟩
    simp only [mX12_blanks_63_L0]
    rw [r_here hcx (by omega) h2x, Option.bind_some, li32, if_pos ((hv_eq (c := 32) hF (by omega)).mpr hb), h2x, li1, nI_add]) (fun Mx ⟨hf, h2x⟩ => by
    have hcx := hc.fr hf (by omega) (fun k => by omega)
    refine ⟨Mx, ?_, hf, h2x⟩
    simp only [mX12_blanks_63_L0]
    rw [r_here hcx (by omega) h2x, Option.bind_some, li32, if_neg (fun z => q4 ((hv_eq (c := 32) hF (by omega)).mp z))]) (s0 := M) ⟨fr.rf, h2⟩
  refine ⟨r, ?_, h⟩
  unfold mX12_blanks_63
  rw [e, Option.bind_some]
theorem r_wrong0 {M : me_M} {a b : Int32} (h : M.1 63 26 = nI 0) : mX12_wrong_63 M a b = some (me_s (me_s M 63 26 a) 63 27 b) := by
  unfold mX12_wrong_63; rw [h, li0, if_pos rfl]
theorem r_wrong1 {M : me_M} {a b : Int32} {k : Nat} (h : M.1 63 26 = nI k) (h1 : 1 ≤ k) (h2 : k ≤ 3) : mX12_wrong_63 M a b = some M := by
  unfold mX12_wrong_63; rw [h, li0, if_neg (fun z => by have := (nI_eq (by omega) (by omega)).mp z; omega)]
theorem r_fine0 {M : me_M} (h : M.1 63 26 = nI 0) : mX12_fine_63 M = some (nI 1) := by
  unfold mX12_fine_63; rw [h, li0, if_pos rfl, li1]
theorem r_fine1 {M : me_M} {k : Nat} (h : M.1 63 26 = nI k) (h1 : 1 ≤ k) (h2 : k ≤ 3) : mX12_fine_63 M = some (nI 0) := by
  unfold mX12_fine_63; rw [h, li0, if_neg (fun z => by have := (nI_eq (by omega) (by omega)).mp z; omega)]
/-- a row of digits, read -/
def rowR (ok : Nat → Prop) (e : Nat) (F : Nat → Nat) (so p P : Nat) (o : Option (Nat × Nat)) : Prop := (∃ k, k < P ∧ (∀ j, j < k → dg9 F so (p + j) = true ∧ ok j) ∧ ((dg9 F so (p + k) = false ∧ o = some (1, p + k)) ∨ (dg9 F so (p + k) = true ∧ ¬ ok k ∧ o = some (2, p + k)))) ∨ ((∀ j, j < P → dg9 F so (p + j) = true ∧ ok j) ∧ ((dg9 F so (p + P) = true ∧ o = some (e, p + P)) ∨ (dg9 F so (p + P) = false ∧ o = none)))
/-- what the class's reader tells -/
def cQ (o : Option (Nat × Nat)) (p : Nat) (M : me_M) : Prop := match o with
  | none => M.1 52 3 = nI 0 ∧ M.1 52 4 = -nI 1 ∧ M.1 52 2 = nI p
  | some (kd, pl) => M.1 52 3 = nI kd ∧ M.1 52 4 = nI pl ∧ M.1 52 2 = nI pl ∧ 1 ≤ kd ∧ kd ≤ 3 ∧ pl ≤ 240
def rQ (o : Option (Nat × Nat)) (p : Nat) (M : me_M) : Prop := match o with
  | none => M.1 63 26 = nI 0 ∧ M.1 63 27 = -nI 1 ∧ M.1 63 25 = nI p
  | some (kd, pl) => M.1 63 26 = nI kd ∧ M.1 63 27 = nI pl ∧ 1 ≤ kd ∧ kd ≤ 3 ∧ ∃ q, q ≤ 300 ∧ M.1 63 25 = nI q
theorem lp_pre {σ ρ : Type} {b : σ → Option (σ ⊕ ρ)} (I : Nat → σ → Prop) {N : Nat} (step : ∀ x s, x < N → I x s → ∃ s', b s = some (.inl s') ∧ I (x + 1) s') {s0 : σ} (h0 : I 0 s0) : ∃ s, I N s ∧ ∀ f, me_l b (f + N) s0 = me_l b f s := by
  have h : ∀ k, k ≤ N → ∃ s, I k s ∧ ∀ f, me_l b (f + k) s0 = me_l b f s := by
    intro k
    induction k with
    | zero => intro _; exact ⟨s0, h0, fun f => rfl⟩
    | succ k ih =>
      intro hk
      obtain ⟨s, hI, he⟩ := ih (by omega)
      obtain ⟨s', h1, h2⟩ := step k s (by omega) hI
      refine ⟨s', h2, fun f => ?_⟩
      have := he (f + 1)
      rw [show f + 1 + k = f + (k + 1) by omega] at this
      rw [this]
      simp only [me_l, h1]
  exact h N (Nat.le_refl _)
theorem lp_in {σ ρ : Type} {b : σ → Option (σ ⊕ ρ)} {f : Nat} {s s' : σ} (h : b s = some (.inl s')) : me_l b (f + 1) s = me_l b f s' := by simp only [me_l, h]
theorem lp_ou {σ ρ : Type} {b : σ → Option (σ ⊕ ρ)} {f : Nat} {s : σ} {r : ρ} (h : b s = some (.inr r)) : me_l b (f + 1) s = some r := by simp only [me_l, h]
