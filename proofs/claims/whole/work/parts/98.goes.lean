/-! ===== a search runs, class and reference side by side ===== -/
theorem lp_up2 {σ ρ σ' ρ' : Type} {b : σ → Option (σ ⊕ ρ)} {b' : σ' → Option (σ' ⊕ ρ')} (I : Nat → σ → σ' → Prop) (Q : ρ → ρ' → Prop) {N : Nat} (hN : N < 5000) (step : ∀ x s s', x < N → I x s s' → ∃ t t', b s = some (.inl t) ∧ b' s' = some (.inl t') ∧ I (x + 1) t t') (fin : ∀ s s', I N s s' → ∃ r r', b s = some (.inr r) ∧ b' s' = some (.inr r') ∧ Q r r') {s0 : σ} {s0' : σ'} (h0 : I 0 s0 s0') : ∃ r r', me_l b me_fu s0 = some r ∧ me_l b' me_fu s0' = some r' ∧ Q r r' := by
  have h : ∀ fu k s s', k ≤ N → N - k < fu → I k s s' → ∃ r r', me_l b fu s = some r ∧ me_l b' fu s' = some r' ∧ Q r r' := by
    intro fu
    induction fu with
    | zero => intro _ _ _ _ h; exact absurd h (Nat.not_lt_zero _)
    | succ fu ih =>
      intro k s s' h1 h2 hI
      by_cases e : k = N
      · rw [e] at hI
        obtain ⟨r, r', h3, h4, h5⟩ := fin s s' hI
        exact ⟨r, r', by simp only [me_l, h3], by simp only [me_l, h4], h5⟩
      · obtain ⟨t, t', h3, h4, h5⟩ := step k s s' (by omega) hI
        obtain ⟨r, r', h6, h7, h8⟩ := ih (k + 1) t t' (by omega) (by omega) h5
        exact ⟨r, r', by simp only [me_l, h3]; exact h6, by simp only [me_l, h4]; exact h7, h8⟩
  exact h me_fu 0 s0 s0' (Nat.zero_le _) (by unfold me_fu; omega) h0
def accC (n : Nat) (O E : Nat → Nat) (M : me_M) : Prop := ∀ p, p ≤ n → M.1 45 p = nI (O p) ∧ (0 < O p → M.1 46 p = nI (E p) ∧ E p ≤ 24)
def accR (n : Nat) (O E : Nat → Nat) (M : me_M) : Prop := ∀ p, p ≤ n → M.1 79 p = nI (O p) ∧ (0 < O p → M.1 80 p = nI (E p) ∧ E p ≤ 24)
def hB (T : Nat → Nat) (n d : Nat) (Q : Nat → Nat) (p : Nat) : Bool := decide (cp T n d Q p = 1)
def oN (H : Nat → Bool) (O : Nat → Nat) : Nat → Nat := fun p => O p + (if H p = true then 1 else 0)
def eN (H : Nat → Bool) (O E : Nat → Nat) (e : Nat) : Nat → Nat := fun p => if H p = true then (if O p = 0 then e else min (E p) e) else E p
theorem c_leaf {T : Nat → Nat} {n d e : Nat} {Q O E : Nat → Nat} {M : me_M} (hT : tx9 T n) (hx : cx T n M) (hd : d ≤ 24) (hQ : ∀ i, i < d → 0 < Q i) (hs : spn 38 39 40 T n d Q M) (ha : accC n O E M) (hO : ∀ p, p ≤ n → O p < 1000) (he : e ≤ 24) : ∃ M', mX1_noteFound_36 M (nI d) (nI e) = some M' ∧ fr (fun b k => (b = 36 ∧ k = 11) ∨ b = 45 ∨ b = 46) M M' ∧ M'.1 36 11 = M.1 36 11 + nI (SZ T n d Q) ∧ accC n (oN (hB T n d Q) O) (eN (hB T n d Q) O E e) M' := by
  have hn := hT.2.2.2
  have hle : LO T n d Q + SZ T n d Q ≤ n + 1 := lo_le
  have hH : ∀ p, p ≤ n → (hB T n d Q p = true ↔ (LO T n d Q ≤ rk T n p ∧ rk T n p < LO T n d Q + SZ T n d Q)) := fun p hp => by
    have l1 := lo_iff hT.1 hQ hp
    have l2 := hi_iff hT.1 hQ hp
    unfold hB
    rw [decide_eq_true_eq]
    omega
  obtain ⟨r, e1, hr⟩ := lp_up (b := mX1_noteFound_36_L24 (nI e) (nI (LO T n d Q)) (nI (SZ T n d Q))) (fun x st => ∃ Mx, st = (nI x, Mx) ∧ fr (fun b _ => b = 45 ∨ b = 46) M Mx ∧ ∀ p, p ≤ n → ((LO T n d Q ≤ rk T n p ∧ rk T n p < x → Mx.1 45 p = nI (O p + 1) ∧ Mx.1 46 p = nI (if O p = 0 then e else min (E p) e)) ∧ (¬ (LO T n d Q ≤ rk T n p ∧ rk T n p < x) → Mx.1 45 p = nI (O p) ∧ Mx.1 46 p = M.1 46 p))) (fun Mx => fr (fun b _ => b = 45 ∨ b = 46) M Mx ∧ ∀ p, p ≤ n → ((LO T n d Q ≤ rk T n p ∧ rk T n p < LO T n d Q + SZ T n d Q → Mx.1 45 p = nI (O p + 1) ∧ Mx.1 46 p = nI (if O p = 0 then e else min (E p) e)) ∧ (¬ (LO T n d Q ≤ rk T n p ∧ rk T n p < LO T n d Q + SZ T n d Q) → Mx.1 45 p = nI (O p) ∧ Mx.1 46 p = M.1 46 p))) (a := LO T n d Q) (N := LO T n d Q + SZ T n d Q) (by omega) (by omega) (fun x st hx1 hx2 hst => by
    obtain ⟨Mx, rfl, hf, hI⟩ := hst
    left
    obtain ⟨p1, p2⟩ := pa_ok (r := x) hT.1 (by omega)
    have h10 : Mx.1 10 x = nI (pa T n x) := by rw [hf.2 _ _ (by omega)]; exact rk_pl hT.1 hx.2.1.2.1 (by omega)
    obtain ⟨q1, q2⟩ := (hI _ p1).2 (by omega)
    have hOp := hO (pa T n x) p1
    have hap := (ha _ p1).2
    have hpeq : ∀ p, p ≤ n → rk T n p = x → p = pa T n x := fun p hp hr => by rw [← hr, pa_rk hT.1 hp]
    have hfin : ∀ My : me_M, (∀ p, p ≤ n → p ≠ pa T n x → My.1 45 p = Mx.1 45 p ∧ My.1 46 p = Mx.1 46 p) → My.1 45 (pa T n x) = nI (O (pa T n x) + 1) → My.1 46 (pa T n x) = nI (if O (pa T n x) = 0 then e else min (E (pa T n x)) e) → ∀ p, p ≤ n → ((LO T n d Q ≤ rk T n p ∧ rk T n p < x + 1 → My.1 45 p = nI (O p + 1) ∧ My.1 46 p = nI (if O p = 0 then e else min (E p) e)) ∧ (¬ (LO T n d Q ≤ rk T n p ∧ rk T n p < x + 1) → My.1 45 p = nI (O p) ∧ My.1 46 p = M.1 46 p)) := fun My z1 z2 z3 p hp => by
      by_cases c : p = pa T n x
      · subst c
        exact ⟨fun _ => ⟨z2, z3⟩, fun z => absurd (show LO T n d Q ≤ rk T n (pa T n x) ∧ rk T n (pa T n x) < x + 1 by omega) z⟩
      · have hne : rk T n p ≠ x := fun z => c (hpeq p hp z)
        obtain ⟨y1, y2⟩ := z1 p hp c
        rw [y1, y2]
        exact ⟨fun z => (hI p hp).1 (by omega), fun z => (hI p hp).2 (by omega)⟩
    by_cases c0 : O (pa T n x) = 0
    · refine ⟨(nI (x + 1), me_s (me_s Mx 46 (pa T n x) (nI e)) 45 (pa T n x) (nI (O (pa T n x) + 1))), ?_, _, rfl, (hf.st (by omega)).st (by omega), hfin _ (fun p hp hne => ⟨by rw [pu_sn hne, me_s_ne (by decide)], by rw [me_s_ne (by decide), pu_sn hne]⟩) pu_ss (by rw [me_s_ne (by decide), pu_ss, if_pos c0])⟩
      simp only [mX1_noteFound_36_L24, mX1_noteFound_36_J66, mX1_noteFound_36_J74]
      simp (disch := omega) only [Option.bind_some, if_true, if_false, Sum.elim_inl, Sum.elim_inr, li0, li1, li2, li3, li4, li5, li6, li7, li8, li9, li10, li12, li16, li20, li24, li25, li31, li32, li40, li41, li42, li48, li57, li59, li97, li104, li105, li124, li126, li240, li241, nI_add, nI_subc, nI_subm, nI_mulc, nI_nm, pu_r, pu_t, pu_a, pu_le_t, pu_le_f, pu_lt_t, pu_lt_f, pu_eq_t, pu_eq_f, nm_eq, nm_eq2, nm_lt, nm_lt2, nm_le, nm_le2, nm_ss, nm_sp, pu_ss, pu_snq, pu_neq, eq_self, and_true, true_and, and_false, false_and, or_true, true_or, or_false, false_or, not_true_eq_false, not_false_eq_true, h10, q1]
    · obtain ⟨a1, a2⟩ := hap (by omega)
      rw [a1] at q2
      by_cases c1 : E (pa T n x) ≤ e
      · refine ⟨(nI (x + 1), me_s Mx 45 (pa T n x) (nI (O (pa T n x) + 1))), ?_, _, rfl, hf.st (by omega), hfin _ (fun p hp hne => ⟨by rw [pu_sn hne], by rw [me_s_ne (by decide)]⟩) pu_ss (by rw [me_s_ne (by decide), q2, if_neg c0, Nat.min_eq_left c1])⟩
        simp only [mX1_noteFound_36_L24, mX1_noteFound_36_J66, mX1_noteFound_36_J74]
        simp (disch := omega) only [Option.bind_some, if_true, if_false, Sum.elim_inl, Sum.elim_inr, li0, li1, li2, li3, li4, li5, li6, li7, li8, li9, li10, li12, li16, li20, li24, li25, li31, li32, li40, li41, li42, li48, li57, li59, li97, li104, li105, li124, li126, li240, li241, nI_add, nI_subc, nI_subm, nI_mulc, nI_nm, pu_r, pu_t, pu_a, pu_le_t, pu_le_f, pu_lt_t, pu_lt_f, pu_eq_t, pu_eq_f, nm_eq, nm_eq2, nm_lt, nm_lt2, nm_le, nm_le2, nm_ss, nm_sp, pu_ss, pu_snq, pu_neq, eq_self, and_true, true_and, and_false, false_and, or_true, true_or, or_false, false_or, not_true_eq_false, not_false_eq_true, h10, q1, q2]
      · refine ⟨(nI (x + 1), me_s (me_s Mx 46 (pa T n x) (nI e)) 45 (pa T n x) (nI (O (pa T n x) + 1))), ?_, _, rfl, (hf.st (by omega)).st (by omega), hfin _ (fun p hp hne => ⟨by rw [pu_sn hne, me_s_ne (by decide)], by rw [me_s_ne (by decide), pu_sn hne]⟩) pu_ss (by rw [me_s_ne (by decide), pu_ss, if_neg c0, Nat.min_eq_right (by omega)])⟩
        simp only [mX1_noteFound_36_L24, mX1_noteFound_36_J66, mX1_noteFound_36_J74]
        simp (disch := omega) only [Option.bind_some, if_true, if_false, Sum.elim_inl, Sum.elim_inr, li0, li1, li2, li3, li4, li5, li6, li7, li8, li9, li10, li12, li16, li20, li24, li25, li31, li32, li40, li41, li42, li48, li57, li59, li97, li104, li105, li124, li126, li240, li241, nI_add, nI_subc, nI_subm, nI_mulc, nI_nm, pu_r, pu_t, pu_a, pu_le_t, pu_le_f, pu_lt_t, pu_lt_f, pu_eq_t, pu_eq_f, nm_eq, nm_eq2, nm_lt, nm_lt2, nm_le, nm_le2, nm_ss, nm_sp, pu_ss, pu_snq, pu_neq, eq_self, and_true, true_and, and_false, false_and, or_true, true_or, or_false, false_or, not_true_eq_false, not_false_eq_true, h10, q1, q2]) (fun st hst => by
    obtain ⟨Mx, rfl, hf, hI⟩ := hst
    refine ⟨Mx, ?_, hf, hI⟩
    simp only [mX1_noteFound_36_L24]
    simp (disch := omega) only [Option.bind_some, if_true, if_false, Sum.elim_inl, Sum.elim_inr, li0, li1, li2, li3, li4, li5, li6, li7, li8, li9, li10, li12, li16, li20, li24, li25, li31, li32, li40, li41, li42, li48, li57, li59, li97, li104, li105, li124, li126, li240, li241, nI_add, nI_subc, nI_subm, nI_mulc, nI_nm, pu_r, pu_t, pu_a, pu_le_t, pu_le_f, pu_lt_t, pu_lt_f, pu_eq_t, pu_eq_f, nm_eq, nm_eq2, nm_lt, nm_lt2, nm_le, nm_le2, nm_ss, nm_sp, pu_ss, pu_snq, pu_neq, eq_self, and_true, true_and, and_false, false_and, or_true, true_or, or_false, false_or, not_true_eq_false, not_false_eq_true]) (s0 := (nI (LO T n d Q), M)) ⟨M, rfl, fr.rf, fun p hp => ⟨fun z => by omega, fun _ => ⟨(ha p hp).1, rfl⟩⟩⟩
  obtain ⟨hf, hI⟩ := hr
  have h11 : r.1 36 11 = M.1 36 11 := hf.2 _ _ (by omega)
  refine ⟨me_s r 36 11 (M.1 36 11 + nI (SZ T n d Q)), ?_, (hf.up (fun b k h => by omega)).st (by omega), pu_ss, fun p hp => ?_⟩
  · unfold mX1_noteFound_36
    simp (disch := omega) only [Option.bind_some, if_true, if_false, Sum.elim_inl, Sum.elim_inr, li0, li1, li2, li3, li4, li5, li6, li7, li8, li9, li10, li12, li16, li20, li24, li25, li31, li32, li40, li41, li42, li48, li57, li59, li97, li104, li105, li124, li126, li240, li241, nI_add, nI_subc, nI_subm, nI_mulc, nI_nm, pu_r, pu_t, pu_a, pu_le_t, pu_le_f, pu_lt_t, pu_lt_f, pu_eq_t, pu_eq_f, nm_eq, nm_eq2, nm_lt, nm_lt2, nm_le, nm_le2, nm_ss, nm_sp, pu_ss, pu_snq, pu_neq, eq_self, and_true, true_and, and_false, false_and, or_true, true_or, or_false, false_or, not_true_eq_false, not_false_eq_true, hs.1, hs.2.2, e1, h11]
  · rw [me_s_ne (by decide), me_s_ne (by decide)]
    unfold oN eN
    cases hh : hB T n d Q p with
    | true =>
      obtain ⟨y1, y2⟩ := (hI p hp).1 ((hH p hp).mp hh)
      rw [if_pos rfl]
      refine ⟨y1, fun _ => ⟨by rw [if_pos rfl]; exact y2, ?_⟩⟩
      rw [if_pos rfl]
      by_cases c : O p = 0
      · rw [if_pos c]; exact he
      · rw [if_neg c]; omega
    | false =>
      obtain ⟨y1, y2⟩ := (hI p hp).2 (fun z => by rw [(hH p hp).mpr z] at hh; cases hh)
      rw [if_neg (by decide), Nat.add_zero]
      refine ⟨y1, fun z => ?_⟩
      rw [if_neg (by decide), y2]
      exact (ha p hp).2 z
/-- the places of a pattern, in order -/
def row9 (T : Nat → Nat) (n d : Nat) (Q : Nat → Nat) (M : me_M) : Prop := ∀ p, p ≤ n → hB T n d Q p = true → M.1 (158 + d) (ct (hB T n d Q) p) = nI p
theorem add1 (x : Int32) (k : Nat) : x + nI k + 1 = x + nI (k + 1) := by rw [Int32.add_assoc, nI_1]
theorem r_leaf {T : Nat → Nat} {n d e th : Nat} {Q O E : Nat → Nat} {rec : me_M → Int32 → Int32 → Int32 → Int32 → Option me_M} {M : me_M} (hn : n ≤ 240) (hd : d ≤ 24) (he : e ≤ 24) (hrow : row9 T n d Q M) (hth : M.1 63 37 = nI th) (hth2 : th < 2) (ha : th = 0 → accR n O E M) (hO : ∀ p, p ≤ n → O p < 1000) : ∃ M', me_l (mX12_goes_63_L11 rec (nI d) (nI (SZ T n d Q)) (nI e)) me_fu (nI 0, M) = some M' ∧ fr (fun b k => (b = 63 ∧ k = 36) ∨ b = 79 ∨ b = 80) M M' ∧ (th = 1 → M'.1 79 = M.1 79 ∧ M'.1 80 = M.1 80) ∧ M'.1 63 36 = M.1 63 36 + nI (SZ T n d Q) ∧ (th = 0 → accR n (oN (hB T n d Q) O) (eN (hB T n d Q) O E e) M') := by
  have hsz : SZ T n d Q = ct (hB T n d Q) (n + 1) := rfl
  have hle := ct_le (hB T n d Q) (n + 1)
  rw [hsz]
  obtain ⟨r, e1, hr⟩ := lp_up (b := mX12_goes_63_L11 rec (nI d) (nI (ct (hB T n d Q) (n + 1))) (nI e)) (fun x st => ∃ Mx, st = (nI x, Mx) ∧ fr (fun b k => (b = 63 ∧ k = 36) ∨ b = 79 ∨ b = 80) M Mx ∧ (th = 1 → Mx.1 79 = M.1 79 ∧ Mx.1 80 = M.1 80) ∧ Mx.1 63 36 = M.1 63 36 + nI x ∧ (th = 0 → ∀ p, p ≤ n → ((hB T n d Q p = true ∧ ct (hB T n d Q) p < x → Mx.1 79 p = nI (O p + 1) ∧ Mx.1 80 p = nI (if O p = 0 then e else min (E p) e)) ∧ (¬ (hB T n d Q p = true ∧ ct (hB T n d Q) p < x) → Mx.1 79 p = nI (O p) ∧ Mx.1 80 p = M.1 80 p)))) (fun Mx => fr (fun b k => (b = 63 ∧ k = 36) ∨ b = 79 ∨ b = 80) M Mx ∧ (th = 1 → Mx.1 79 = M.1 79 ∧ Mx.1 80 = M.1 80) ∧ Mx.1 63 36 = M.1 63 36 + nI (ct (hB T n d Q) (n + 1)) ∧ (th = 0 → ∀ p, p ≤ n → ((hB T n d Q p = true ∧ ct (hB T n d Q) p < ct (hB T n d Q) (n + 1) → Mx.1 79 p = nI (O p + 1) ∧ Mx.1 80 p = nI (if O p = 0 then e else min (E p) e)) ∧ (¬ (hB T n d Q p = true ∧ ct (hB T n d Q) p < ct (hB T n d Q) (n + 1)) → Mx.1 79 p = nI (O p) ∧ Mx.1 80 p = M.1 80 p)))) (a := 0) (N := ct (hB T n d Q) (n + 1)) (by omega) (by omega) (fun x st _ hx hst => by
    obtain ⟨Mx, rfl, hf, hk1, h36, hI⟩ := hst
    left
    obtain ⟨p, p1, p2, p3⟩ := ct_at (n + 1) x hx
    have hr0 : Mx.1 (158 + d) x = nI p := by rw [hf.2 _ _ (by omega), ← p3]; exact hrow p (by omega) p2
    have h37 : Mx.1 63 37 = nI th := by rw [hf.2 _ _ (by omega)]; exact hth
    have huniq : ∀ q, hB T n d Q q = true → ct (hB T n d Q) q = x → q = p := fun q hq hc => by
      rcases Nat.lt_or_ge q p with z | z
      · have a1 : ct (hB T n d Q) (q + 1) = ct (hB T n d Q) q + 1 := by rw [ct_s, hq]; rfl
        have a2 : ct (hB T n d Q) (q + 1) ≤ ct (hB T n d Q) p := ct_mono' _ (by omega)
        omega
      · rcases Nat.lt_or_ge p q with y | y
        · have a1 : ct (hB T n d Q) (p + 1) = ct (hB T n d Q) p + 1 := by rw [ct_s, p2]; rfl
          have a2 : ct (hB T n d Q) (p + 1) ≤ ct (hB T n d Q) q := ct_mono' _ (by omega)
          omega
        · omega
    have hth3 : th = 0 ∨ th = 1 := by omega
    rcases hth3 with rfl | rfl
    · have hI := hI rfl
      have ha := ha rfl
      obtain ⟨q1, q2⟩ := (hI p (by omega)).2 (by omega)
      have hOp := hO p (by omega)
      have hap := (ha p (by omega)).2
      have hfin : ∀ My : me_M, (∀ q, q ≤ n → q ≠ p → My.1 79 q = Mx.1 79 q ∧ My.1 80 q = Mx.1 80 q) → My.1 79 p = nI (O p + 1) → My.1 80 p = nI (if O p = 0 then e else min (E p) e) → ((0 : Nat) = 0 → ∀ q, q ≤ n → ((hB T n d Q q = true ∧ ct (hB T n d Q) q < x + 1 → My.1 79 q = nI (O q + 1) ∧ My.1 80 q = nI (if O q = 0 then e else min (E q) e)) ∧ (¬ (hB T n d Q q = true ∧ ct (hB T n d Q) q < x + 1) → My.1 79 q = nI (O q) ∧ My.1 80 q = M.1 80 q))) := fun My z1 z2 z3 _ q hq => by
        by_cases c : q = p
        · subst c
          exact ⟨fun _ => ⟨z2, z3⟩, fun z => absurd (show hB T n d Q q = true ∧ ct (hB T n d Q) q < x + 1 from ⟨p2, by omega⟩) z⟩
        · obtain ⟨y1, y2⟩ := z1 q hq c
          rw [y1, y2]
          refine ⟨fun z => (hI q hq).1 ⟨z.1, ?_⟩, fun z => (hI q hq).2 (fun w => z ⟨w.1, by omega⟩)⟩
          rcases Nat.lt_or_ge (ct (hB T n d Q) q) x with w | w
          · exact w
          · exact absurd (huniq q z.1 (by omega)) c
      have he36 : ∀ v, (me_s Mx 63 36 v).1 63 37 = nI 0 := fun v => by rw [pu_sn (by decide)]; exact h37
      by_cases c0 : O p = 0
      · refine ⟨(nI (x + 1), me_s (me_s (me_s Mx 63 36 (M.1 63 36 + nI (x + 1))) 80 p (nI e)) 79 p (nI (O p + 1))), ?_, _, rfl, ((hf.st (by omega)).st (by omega)).st (by omega), fun z => absurd z (by decide), by rw [me_s_ne (by decide), me_s_ne (by decide)]; exact pu_ss, hfin _ (fun q hq hne => ⟨by rw [pu_sn hne, me_s_ne (by decide), me_s_ne (by decide)], by rw [me_s_ne (by decide), pu_sn hne, me_s_ne (by decide)]⟩) pu_ss (by rw [me_s_ne (by decide), pu_ss, if_pos c0])⟩
        simp only [mX12_goes_63_L11, mX12_goes_63_J81, mX12_goes_63_J93]
        rw [h36, add1]
        simp (disch := omega) only [Option.bind_some, if_true, if_false, Sum.elim_inl, Sum.elim_inr, li0, li1, li2, li3, li4, li5, li6, li7, li8, li9, li10, li12, li16, li20, li24, li25, li31, li32, li40, li41, li42, li48, li57, li59, li97, li104, li105, li124, li126, li240, li241, nI_add, nI_subc, nI_subm, nI_mulc, nI_nm, pu_r, pu_t, pu_a, pu_le_t, pu_le_f, pu_lt_t, pu_lt_f, pu_eq_t, pu_eq_f, nm_eq, nm_eq2, nm_lt, nm_lt2, nm_le, nm_le2, nm_ss, nm_sp, pu_ss, pu_snq, pu_neq, eq_self, and_true, true_and, and_false, false_and, or_true, true_or, or_false, false_or, not_true_eq_false, not_false_eq_true, hr0, h37, q1]
      · obtain ⟨a1, a2⟩ := hap (by omega)
        rw [a1] at q2
        refine ⟨(nI (x + 1), me_s (me_s (me_s Mx 63 36 (M.1 63 36 + nI (x + 1))) 80 p (nI (min (E p) e))) 79 p (nI (O p + 1))), ?_, _, rfl, ((hf.st (by omega)).st (by omega)).st (by omega), fun z => absurd z (by decide), by rw [me_s_ne (by decide), me_s_ne (by decide)]; exact pu_ss, hfin _ (fun q hq hne => ⟨by rw [pu_sn hne, me_s_ne (by decide), me_s_ne (by decide)], by rw [me_s_ne (by decide), pu_sn hne, me_s_ne (by decide)]⟩) pu_ss (by rw [me_s_ne (by decide), pu_ss, if_neg c0])⟩
        simp only [mX12_goes_63_L11, mX12_goes_63_J81, mX12_goes_63_J93]
        rw [h36, add1]
        simp (disch := omega) only [Option.bind_some, if_true, if_false, Sum.elim_inl, Sum.elim_inr, li0, li1, li2, li3, li4, li5, li6, li7, li8, li9, li10, li12, li16, li20, li24, li25, li31, li32, li40, li41, li42, li48, li57, li59, li97, li104, li105, li124, li126, li240, li241, nI_add, nI_subc, nI_subm, nI_mulc, nI_nm, pu_r, pu_t, pu_a, pu_le_t, pu_le_f, pu_lt_t, pu_lt_f, pu_eq_t, pu_eq_f, nm_eq, nm_eq2, nm_lt, nm_lt2, nm_le, nm_le2, nm_ss, nm_sp, pu_ss, pu_snq, pu_neq, eq_self, and_true, true_and, and_false, false_and, or_true, true_or, or_false, false_or, not_true_eq_false, not_false_eq_true, hr0, h37, q1, q2, r_less]
    · refine ⟨(nI (x + 1), me_s Mx 63 36 (M.1 63 36 + nI (x + 1))), ?_, _, rfl, hf.st (by omega), fun _ => ⟨by rw [me_s_ne (by decide)]; exact (hk1 rfl).1, by rw [me_s_ne (by decide)]; exact (hk1 rfl).2⟩, pu_ss, fun z => absurd z (by decide)⟩
      simp only [mX12_goes_63_L11, mX12_goes_63_J93]
      rw [h36, add1]
      simp (disch := omega) only [Option.bind_some, if_true, if_false, Sum.elim_inl, Sum.elim_inr, li0, li1, li2, li3, li4, li5, li6, li7, li8, li9, li10, li12, li16, li20, li24, li25, li31, li32, li40, li41, li42, li48, li57, li59, li97, li104, li105, li124, li126, li240, li241, nI_add, nI_subc, nI_subm, nI_mulc, nI_nm, pu_r, pu_t, pu_a, pu_le_t, pu_le_f, pu_lt_t, pu_lt_f, pu_eq_t, pu_eq_f, nm_eq, nm_eq2, nm_lt, nm_lt2, nm_le, nm_le2, nm_ss, nm_sp, pu_ss, pu_snq, pu_neq, eq_self, and_true, true_and, and_false, false_and, or_true, true_or, or_false, false_or, not_true_eq_false, not_false_eq_true, hr0, h37]) (fun st hst => by
    obtain ⟨Mx, rfl, hf, hk1, h36, hI⟩ := hst
    refine ⟨Mx, ?_, hf, hk1, h36, hI⟩
    simp only [mX12_goes_63_L11]
    simp (disch := omega) only [Option.bind_some, if_true, if_false, Sum.elim_inl, Sum.elim_inr, li0, li1, li2, li3, li4, li5, li6, li7, li8, li9, li10, li12, li16, li20, li24, li25, li31, li32, li40, li41, li42, li48, li57, li59, li97, li104, li105, li124, li126, li240, li241, nI_add, nI_subc, nI_subm, nI_mulc, nI_nm, pu_r, pu_t, pu_a, pu_le_t, pu_le_f, pu_lt_t, pu_lt_f, pu_eq_t, pu_eq_f, nm_eq, nm_eq2, nm_lt, nm_lt2, nm_le, nm_le2, nm_ss, nm_sp, pu_ss, pu_snq, pu_neq, eq_self, and_true, true_and, and_false, false_and, or_true, true_or, or_false, false_or, not_true_eq_false, not_false_eq_true]) (s0 := (nI 0, M)) ⟨M, rfl, fr.rf, fun _ => ⟨rfl, rfl⟩, by rw [nI_0, Int32.add_zero], fun z p hp => ⟨fun y => absurd y.2 (Nat.not_lt_zero _), fun _ => ⟨(ha z p hp).1, rfl⟩⟩⟩
  obtain ⟨hf, hk1, h36, hI⟩ := hr
  refine ⟨r, e1, hf, hk1, h36, fun z p hp => ?_⟩
  have hI := hI z p hp
  have ha := ha z p hp
  unfold oN eN
  cases hh : hB T n d Q p with
  | true =>
    have hlt : ct (hB T n d Q) p < ct (hB T n d Q) (n + 1) := by
      have a1 : ct (hB T n d Q) (p + 1) = ct (hB T n d Q) p + 1 := by rw [ct_s, hh]; rfl
      have a2 : ct (hB T n d Q) (p + 1) ≤ ct (hB T n d Q) (n + 1) := ct_mono' _ (by omega)
      omega
    obtain ⟨y1, y2⟩ := hI.1 ⟨hh, hlt⟩
    rw [if_pos rfl]
    refine ⟨y1, fun _ => ⟨by rw [if_pos rfl]; exact y2, ?_⟩⟩
    rw [if_pos rfl]
    by_cases c : O p = 0
    · rw [if_pos c]; exact he
    · rw [if_neg c]; omega
  | false =>
    obtain ⟨y1, y2⟩ := hI.2 (fun z => by rw [hh] at z; cases z.1)
    rw [if_neg (by decide), Nat.add_zero]
    refine ⟨y1, fun z => ?_⟩
    rw [if_neg (by decide), y2]
    exact ha.2 z
/-- one letter more: the rows of places are narrowed -/
theorem r_narrows {T : Nat → Nat} {n d w c : Nat} {Q : Nat → Nat} {M : me_M} (hT : tx9 T n) (hM : rx T n M) (hd : d < 24) (hw : w < 2) (hc1 : 2 ≤ c) (hc2 : c < 10) (hrow : row9 T n d Q M) (h84 : M.1 84 d = nI w) : ∃ M', mX12_narrows_63 M (nI d) (nI (SZ T n d Q)) (nI c) = some (nI (SZ T n (d + 1) (gro w d Q c)), M') ∧ fr (fun b _ => b = 158 + (d + 1)) M M' ∧ row9 T n (d + 1) (gro w d Q c) M' := by
  have hn := hT.2.2.2
  have hsz : SZ T n d Q = ct (hB T n d Q) (n + 1) := rfl
  have hle := ct_le (hB T n d Q) (n + 1)
  obtain ⟨δ, hδ⟩ : ∃ δ, δ = 1 - w := ⟨_, rfl⟩
  -- what stands before or behind
  have hnew : ∀ q, q ≤ n → (hB T n (d + 1) (gro w d Q c) q = true ↔ (hB T n d Q (q + δ) = true ∧ tz T n (if w = 0 then q else q + d) = c)) := fun q hq => by
    unfold hB
    rw [decide_eq_true_eq, decide_eq_true_eq]
    by_cases z : w = 0
    · rw [show gro w d Q c = cons c Q from if_pos z, if_pos z, hδ, z]
      show (if tz T n q = c then cp T n d Q (q + 1) else if tz T n q < c then 0 else 2) = 1 ↔ _
      by_cases y : tz T n q = c
      · rw [if_pos y]; exact ⟨fun a => ⟨a, y⟩, fun a => a.1⟩
      · rw [if_neg y]
        refine ⟨fun a => ?_, fun a => absurd a.2 y⟩
        split at a <;> omega
    · rw [show gro w d Q c = snoc d Q c from if_neg z, if_neg z, cp_snoc, hδ, show 1 - w = 0 by omega, Nat.add_zero, cp_cong d (snoc d Q c) Q q (fun k hk => if_neg (by omega)), show snoc d Q c d = c from if_pos rfl]
      by_cases y : cp T n d Q q = 1
      · rw [if_pos y]
        by_cases x : tz T n (q + d) = c
        · rw [if_pos x]; exact ⟨fun _ => ⟨y, x⟩, fun _ => rfl⟩
        · rw [if_neg x]
          refine ⟨fun a => ?_, fun a => absurd a.2 x⟩
          split at a <;> omega
      · rw [if_neg y]; exact ⟨fun a => absurd a y, fun a => absurd a.1 y⟩
  have hctm : ∀ a b, hB T n d Q a = true → a < b → ct (hB T n d Q) a < ct (hB T n d Q) b := fun a b ha hab => by
    have a1 : ct (hB T n d Q) (a + 1) = ct (hB T n d Q) a + 1 := by rw [ct_s, ha]; rfl
    have a2 : ct (hB T n d Q) (a + 1) ≤ ct (hB T n d Q) b := ct_mono' _ (by omega)
    omega
  have hle2 := ct_le (hB T n (d + 1) (gro w d Q c)) (n + 1)
  rw [hsz]
  obtain ⟨r, e, hr⟩ := lp_up (b := mX12_narrows_63_L6 (nI d) (nI (ct (hB T n d Q) (n + 1))) (nI c)) (fun x st => ∃ Mx, st = (nI (ct (fun q => hB T n (d + 1) (gro w d Q c) q && decide (ct (hB T n d Q) (q + δ) < x)) (n + 1)), nI x, Mx) ∧ fr (fun b _ => b = 158 + (d + 1)) M Mx ∧ ∀ q, q ≤ n → hB T n (d + 1) (gro w d Q c) q = true → ct (hB T n d Q) (q + δ) < x → Mx.1 (158 + (d + 1)) (ct (hB T n (d + 1) (gro w d Q c)) q) = nI q) (fun r => ∃ Mx, r = (nI (ct (fun q => hB T n (d + 1) (gro w d Q c) q && decide (ct (hB T n d Q) (q + δ) < ct (hB T n d Q) (n + 1))) (n + 1)), Mx) ∧ fr (fun b _ => b = 158 + (d + 1)) M Mx ∧ ∀ q, q ≤ n → hB T n (d + 1) (gro w d Q c) q = true → ct (hB T n d Q) (q + δ) < ct (hB T n d Q) (n + 1) → Mx.1 (158 + (d + 1)) (ct (hB T n (d + 1) (gro w d Q c)) q) = nI q) (a := 0) (N := ct (hB T n d Q) (n + 1)) (by omega) (by omega) (fun x st _ hx hst => by
    obtain ⟨Mx, rfl, hf, hI⟩ := hst
    left
    obtain ⟨p, p1, p2, p3⟩ := ct_at (n + 1) x hx
    have hr0 : Mx.1 (158 + d) x = nI p := by rw [hf.2 _ _ (by omega), ← p3]; exact hrow p (by omega) p2
    have h84x : Mx.1 84 d = nI w := by rw [hf.2 _ _ (by omega)]; exact h84
    have h5x : Mx.1 63 5 = nI n := by rw [hf.2 _ _ (by omega)]; exact hM.1
    have h67x : ∀ i, i ≤ n → Mx.1 67 i = nI (T i) := fun i hi => by rw [hf.2 _ _ (by omega)]; exact hM.2 i hi
    have hso := ct_le (fun q => hB T n (d + 1) (gro w d Q c) q && decide (ct (hB T n d Q) (q + δ) < x)) (n + 1)
    -- others than the place of p keep their standing
    have hsame : ∀ q, q ≤ n → hB T n (d + 1) (gro w d Q c) q = true → q + δ ≠ p → decide (ct (hB T n d Q) (q + δ) < x + 1) = decide (ct (hB T n d Q) (q + δ) < x) := fun q hq hh hne => by
      have h1 := ((hnew q hq).mp hh).1
      rw [Bool.eq_iff_iff, decide_eq_true_eq, decide_eq_true_eq]
      refine ⟨fun z => ?_, fun z => by omega⟩
      rcases Nat.lt_or_ge (q + δ) p with y | y
      · have := hctm _ _ h1 y; omega
      · have := hctm p (q + δ) p2 (by omega); omega
    have hskip : (∀ q, q ≤ n → hB T n (d + 1) (gro w d Q c) q = true → q + δ ≠ p) → ct (fun q => hB T n (d + 1) (gro w d Q c) q && decide (ct (hB T n d Q) (q + δ) < x + 1)) (n + 1) = ct (fun q => hB T n (d + 1) (gro w d Q c) q && decide (ct (hB T n d Q) (q + δ) < x)) (n + 1) ∧ ∀ q, q ≤ n → hB T n (d + 1) (gro w d Q c) q = true → ct (hB T n d Q) (q + δ) < x + 1 → Mx.1 (158 + (d + 1)) (ct (hB T n (d + 1) (gro w d Q c)) q) = nI q := fun hno => by
      refine ⟨ct_congr (n + 1) (fun q hq => ?_), fun q hq hh hlt => ?_⟩
      · cases hh : hB T n (d + 1) (gro w d Q c) q with
        | false => rfl
        | true => rw [hsame q (by omega) hh (hno q (by omega) hh)]
      · have := hsame q hq hh (hno q hq hh)
        rw [decide_eq_true hlt] at this
        exact hI q hq hh (of_decide_eq_true this.symm)
    have htake : ∀ q, q + δ = p → q ≤ n → hB T n (d + 1) (gro w d Q c) q = true → ct (fun q => hB T n (d + 1) (gro w d Q c) q && decide (ct (hB T n d Q) (q + δ) < x)) (n + 1) = ct (hB T n (d + 1) (gro w d Q c)) q ∧ ct (fun q => hB T n (d + 1) (gro w d Q c) q && decide (ct (hB T n d Q) (q + δ) < x + 1)) (n + 1) = ct (hB T n (d + 1) (gro w d Q c)) q + 1 := fun q hq hqn hh => by
      have hcut : ∀ y, y ≤ q + 1 → (∀ q', q' < y → hB T n (d + 1) (gro w d Q c) q' = true → ct (hB T n d Q) (q' + δ) < x + (y - q)) → (∀ q', y ≤ q' → q' ≤ n → hB T n (d + 1) (gro w d Q c) q' = true → ¬ ct (hB T n d Q) (q' + δ) < x + (y - q)) → ct (fun q => hB T n (d + 1) (gro w d Q c) q && decide (ct (hB T n d Q) (q + δ) < x + (y - q))) (n + 1) = ct (hB T n (d + 1) (gro w d Q c)) y → True := fun _ _ _ _ _ => trivial
      have hlo : ∀ q', q' ≤ n → hB T n (d + 1) (gro w d Q c) q' = true → (ct (hB T n d Q) (q' + δ) < x ↔ q' < q) := fun q' hq' hh' => by
        have h1 := ((hnew q' hq').mp hh').1
        refine ⟨fun z => ?_, fun z => ?_⟩
        · rcases Nat.lt_or_ge q' q with y | y
          · exact y
          · have : ct (hB T n d Q) p ≤ ct (hB T n d Q) (q' + δ) := ct_mono' _ (by omega)
            omega
        · have := hctm (q' + δ) p h1 (by omega)
          omega
      have hlo1 : ∀ q', q' ≤ n → hB T n (d + 1) (gro w d Q c) q' = true → (ct (hB T n d Q) (q' + δ) < x + 1 ↔ q' < q + 1) := fun q' hq' hh' => by
        by_cases z : q' = q
        · rw [z, hq, p3]; omega
        · have h2 := hsame q' hq' hh' (by omega)
          have h3 := hlo q' hq' hh'
          rw [Bool.eq_iff_iff, decide_eq_true_eq, decide_eq_true_eq] at h2
          omega
      have hct : ∀ b y, y ≤ n + 1 → (∀ q', q' ≤ n → hB T n (d + 1) (gro w d Q c) q' = true → (ct (hB T n d Q) (q' + δ) < b ↔ q' < y)) → ct (fun q => hB T n (d + 1) (gro w d Q c) q && decide (ct (hB T n d Q) (q + δ) < b)) (n + 1) = ct (hB T n (d + 1) (gro w d Q c)) y := fun b y hy hb => by
        rw [ct_cut (n + 1) hy (fun q' h1 h2 => by
          cases hh' : hB T n (d + 1) (gro w d Q c) q' with
          | false => rfl
          | true => rw [decide_eq_false (fun z => by have := (hb q' (by omega) hh').mp z; omega)]; rfl)]
        refine ct_congr y (fun q' hq' => ?_)
        cases hh' : hB T n (d + 1) (gro w d Q c) q' with
        | false => rfl
        | true => rw [decide_eq_true ((hb q' (by omega) hh').mpr hq')]; rfl
      refine ⟨hct x q (by omega) hlo, ?_⟩
      rw [hct (x + 1) (q + 1) (by omega) hlo1, ct_s, hh]; rfl
    have hstore : ∀ q, q + δ = p → q ≤ n → hB T n (d + 1) (gro w d Q c) q = true → ∀ q', q' ≤ n → hB T n (d + 1) (gro w d Q c) q' = true → ct (hB T n d Q) (q' + δ) < x + 1 → (me_s Mx (158 + (d + 1)) (ct (hB T n (d + 1) (gro w d Q c)) q) (nI q)).1 (158 + (d + 1)) (ct (hB T n (d + 1) (gro w d Q c)) q') = nI q' := fun q hq hqn hh q' hq' hh' hlt => by
      by_cases z : q' = q
      · rw [z, pu_ss]
      · have h2 := hsame q' hq' hh' (by omega)
        rw [decide_eq_true hlt] at h2
        have hne : ct (hB T n (d + 1) (gro w d Q c)) q' ≠ ct (hB T n (d + 1) (gro w d Q c)) q := fun y => by
          rcases Nat.lt_or_ge q' q with w1 | w1
          · have a1 : ct (hB T n (d + 1) (gro w d Q c)) (q' + 1) = ct (hB T n (d + 1) (gro w d Q c)) q' + 1 := by rw [ct_s, hh']; rfl
            have a2 : ct (hB T n (d + 1) (gro w d Q c)) (q' + 1) ≤ ct (hB T n (d + 1) (gro w d Q c)) q := ct_mono' _ (by omega)
            omega
          · have a1 : ct (hB T n (d + 1) (gro w d Q c)) (q + 1) = ct (hB T n (d + 1) (gro w d Q c)) q + 1 := by rw [ct_s, hh]; rfl
            have a2 : ct (hB T n (d + 1) (gro w d Q c)) (q + 1) ≤ ct (hB T n (d + 1) (gro w d Q c)) q' := ct_mono' _ (by omega)
            omega
        rw [pu_sn hne]
        exact hI q' hq' hh' (of_decide_eq_true h2.symm)
    by_cases z : w = 0
    · subst z
      have hδ1 : δ = 1 := by omega
      rcases p with _ | q
      · obtain ⟨k1, k2⟩ := hskip (fun q _ _ => by omega)
        refine ⟨_, ?_, Mx, rfl, hf, k2⟩
        simp only [mX12_narrows_63_L6, mX12_narrows_63_J41, mX12_narrows_63_J61, mX12_narrows_63_J109]
        rw [k1]
        simp (disch := omega) only [Option.bind_some, if_true, if_false, Sum.elim_inl, Sum.elim_inr, li0, li1, li2, li3, li4, li5, li6, li7, li8, li9, li10, li12, li16, li20, li24, li25, li31, li32, li40, li41, li42, li48, li57, li59, li97, li104, li105, li124, li126, li240, li241, nI_add, nI_subc, nI_subm, nI_mulc, nI_nm, pu_r, pu_t, pu_a, pu_le_t, pu_le_f, pu_lt_t, pu_lt_f, pu_eq_t, pu_eq_f, nm_eq, nm_eq2, nm_lt, nm_lt2, nm_le, nm_le2, nm_ss, nm_sp, pu_ss, pu_snq, pu_neq, eq_self, and_true, true_and, and_false, false_and, or_true, true_or, or_false, false_or, not_true_eq_false, not_false_eq_true, hr0, h84x]
      · have hTq := hT.2.1 q
        by_cases y : q < n ∧ T q = c
        · have hh : hB T n (d + 1) (gro 0 d Q c) q = true := (hnew q (by omega)).mpr ⟨by rw [hδ1]; exact p2, by rw [if_pos rfl, tz_le hT.1 (by omega)]; exact y.2⟩
          obtain ⟨k1, k2⟩ := htake q (by omega) (by omega) hh
          have hcq := ct_le (hB T n (d + 1) (gro 0 d Q c)) q
          refine ⟨_, ?_, me_s Mx (158 + (d + 1)) (ct (hB T n (d + 1) (gro 0 d Q c)) q) (nI q), rfl, hf.st rfl, hstore q (by omega) (by omega) hh⟩
          simp only [mX12_narrows_63_L6, mX12_narrows_63_J41, mX12_narrows_63_J61, mX12_narrows_63_J109]
          rw [k1, k2]
          simp (disch := omega) only [Option.bind_some, if_true, if_false, Sum.elim_inl, Sum.elim_inr, li0, li1, li2, li3, li4, li5, li6, li7, li8, li9, li10, li12, li16, li20, li24, li25, li31, li32, li40, li41, li42, li48, li57, li59, li97, li104, li105, li124, li126, li240, li241, nI_add, nI_subc, nI_subm, nI_mulc, nI_nm, pu_r, pu_t, pu_a, pu_le_t, pu_le_f, pu_lt_t, pu_lt_f, pu_eq_t, pu_eq_f, nm_eq, nm_eq2, nm_lt, nm_lt2, nm_le, nm_le2, nm_ss, nm_sp, pu_ss, pu_snq, pu_neq, eq_self, and_true, true_and, and_false, false_and, or_true, true_or, or_false, false_or, not_true_eq_false, not_false_eq_true, hr0, h84x, Nat.add_sub_cancel, h5x, h67x, y.2]
        · obtain ⟨k1, k2⟩ := hskip (fun q' hq' hh' hne => by
            have h3 := ((hnew q' hq').mp hh').2
            rw [if_pos rfl, show q' = q by omega] at h3
            unfold tz at h3
            by_cases v : q < n
            · rw [if_pos v] at h3; exact y ⟨v, h3⟩
            · rw [if_neg v] at h3; omega)
          refine ⟨_, ?_, Mx, rfl, hf, k2⟩
          simp only [mX12_narrows_63_L6, mX12_narrows_63_J41, mX12_narrows_63_J61, mX12_narrows_63_J109]
          rw [k1]
          by_cases v : q < n
          · have : ¬ T q = c := fun u => y ⟨v, u⟩
            simp (disch := omega) only [Option.bind_some, if_true, if_false, Sum.elim_inl, Sum.elim_inr, li0, li1, li2, li3, li4, li5, li6, li7, li8, li9, li10, li12, li16, li20, li24, li25, li31, li32, li40, li41, li42, li48, li57, li59, li97, li104, li105, li124, li126, li240, li241, nI_add, nI_subc, nI_subm, nI_mulc, nI_nm, pu_r, pu_t, pu_a, pu_le_t, pu_le_f, pu_lt_t, pu_lt_f, pu_eq_t, pu_eq_f, nm_eq, nm_eq2, nm_lt, nm_lt2, nm_le, nm_le2, nm_ss, nm_sp, pu_ss, pu_snq, pu_neq, eq_self, and_true, true_and, and_false, false_and, or_true, true_or, or_false, false_or, not_true_eq_false, not_false_eq_true, hr0, h84x, Nat.add_sub_cancel, h5x, h67x]
          · omega
    · have hw1 : w = 1 := by omega
      subst hw1
      have hδ0 : δ = 0 := by omega
      have hTq := hT.2.1 (p + d)
      by_cases y : p + d < n ∧ T (p + d) = c
      · have hh : hB T n (d + 1) (gro 1 d Q c) p = true := (hnew p (by omega)).mpr ⟨by rw [hδ0]; exact p2, by rw [if_neg (by decide), tz_le hT.1 (by omega)]; exact y.2⟩
        obtain ⟨k1, k2⟩ := htake p (by omega) (by omega) hh
        have hcq := ct_le (hB T n (d + 1) (gro 1 d Q c)) p
        refine ⟨_, ?_, me_s Mx (158 + (d + 1)) (ct (hB T n (d + 1) (gro 1 d Q c)) p) (nI p), rfl, hf.st rfl, hstore p (by omega) (by omega) hh⟩
        simp only [mX12_narrows_63_L6, mX12_narrows_63_J41, mX12_narrows_63_J61, mX12_narrows_63_J109]
        rw [k1, k2]
        simp (disch := omega) only [Option.bind_some, if_true, if_false, Sum.elim_inl, Sum.elim_inr, li0, li1, li2, li3, li4, li5, li6, li7, li8, li9, li10, li12, li16, li20, li24, li25, li31, li32, li40, li41, li42, li48, li57, li59, li97, li104, li105, li124, li126, li240, li241, nI_add, nI_subc, nI_subm, nI_mulc, nI_nm, pu_r, pu_t, pu_a, pu_le_t, pu_le_f, pu_lt_t, pu_lt_f, pu_eq_t, pu_eq_f, nm_eq, nm_eq2, nm_lt, nm_lt2, nm_le, nm_le2, nm_ss, nm_sp, pu_ss, pu_snq, pu_neq, eq_self, and_true, true_and, and_false, false_and, or_true, true_or, or_false, false_or, not_true_eq_false, not_false_eq_true, hr0, h84x, h5x, h67x, y.2]
      · obtain ⟨k1, k2⟩ := hskip (fun q' hq' hh' hne => by
          have h3 := ((hnew q' hq').mp hh').2
          rw [if_neg (by decide), show q' = p by omega] at h3
          unfold tz at h3
          by_cases v : p + d < n
          · rw [if_pos v] at h3; exact y ⟨v, h3⟩
          · rw [if_neg v] at h3; omega)
        refine ⟨_, ?_, Mx, rfl, hf, k2⟩
        simp only [mX12_narrows_63_L6, mX12_narrows_63_J41, mX12_narrows_63_J61, mX12_narrows_63_J109]
        rw [k1]
        by_cases v : p + d < n
        · have : ¬ T (p + d) = c := fun u => y ⟨v, u⟩
          simp (disch := omega) only [Option.bind_some, if_true, if_false, Sum.elim_inl, Sum.elim_inr, li0, li1, li2, li3, li4, li5, li6, li7, li8, li9, li10, li12, li16, li20, li24, li25, li31, li32, li40, li41, li42, li48, li57, li59, li97, li104, li105, li124, li126, li240, li241, nI_add, nI_subc, nI_subm, nI_mulc, nI_nm, pu_r, pu_t, pu_a, pu_le_t, pu_le_f, pu_lt_t, pu_lt_f, pu_eq_t, pu_eq_f, nm_eq, nm_eq2, nm_lt, nm_lt2, nm_le, nm_le2, nm_ss, nm_sp, pu_ss, pu_snq, pu_neq, eq_self, and_true, true_and, and_false, false_and, or_true, true_or, or_false, false_or, not_true_eq_false, not_false_eq_true, hr0, h84x, h5x, h67x]
        · simp (disch := omega) only [Option.bind_some, if_true, if_false, Sum.elim_inl, Sum.elim_inr, li0, li1, li2, li3, li4, li5, li6, li7, li8, li9, li10, li12, li16, li20, li24, li25, li31, li32, li40, li41, li42, li48, li57, li59, li97, li104, li105, li124, li126, li240, li241, nI_add, nI_subc, nI_subm, nI_mulc, nI_nm, pu_r, pu_t, pu_a, pu_le_t, pu_le_f, pu_lt_t, pu_lt_f, pu_eq_t, pu_eq_f, nm_eq, nm_eq2, nm_lt, nm_lt2, nm_le, nm_le2, nm_ss, nm_sp, pu_ss, pu_snq, pu_neq, eq_self, and_true, true_and, and_false, false_and, or_true, true_or, or_false, false_or, not_true_eq_false, not_false_eq_true, hr0, h84x, h5x]) (fun st hst => by
    obtain ⟨Mx, rfl, hf, hI⟩ := hst
    refine ⟨_, ?_, Mx, rfl, hf, hI⟩
    simp only [mX12_narrows_63_L6]
    simp (disch := omega) only [Option.bind_some, if_true, if_false, Sum.elim_inl, Sum.elim_inr, li0, li1, li2, li3, li4, li5, li6, li7, li8, li9, li10, li12, li16, li20, li24, li25, li31, li32, li40, li41, li42, li48, li57, li59, li97, li104, li105, li124, li126, li240, li241, nI_add, nI_subc, nI_subm, nI_mulc, nI_nm, pu_r, pu_t, pu_a, pu_le_t, pu_le_f, pu_lt_t, pu_lt_f, pu_eq_t, pu_eq_f, nm_eq, nm_eq2, nm_lt, nm_lt2, nm_le, nm_le2, nm_ss, nm_sp, pu_ss, pu_snq, pu_neq, eq_self, and_true, true_and, and_false, false_and, or_true, true_or, or_false, false_or, not_true_eq_false, not_false_eq_true]) (s0 := (nI 0, nI 0, M)) ⟨M, by rw [ct_zero _ (fun q _ => by rw [decide_eq_false (Nat.not_lt_zero _), Bool.and_false])], fr.rf, fun q _ _ h => absurd h (Nat.not_lt_zero _)⟩
  obtain ⟨Mx, rfl, hf, hI⟩ := hr
  have hpos : ∀ q, q ≤ n → hB T n (d + 1) (gro w d Q c) q = true → ct (hB T n d Q) (q + δ) < ct (hB T n d Q) (n + 1) := fun q hq hh => by
    have h1 := (hnew q hq).mp hh
    by_cases z : q + δ ≤ n
    · exact hctm _ _ h1.1 (by omega)
    · exfalso
      have hz0 : w = 0 := by omega
      have h2 := h1.2
      rw [if_pos hz0] at h2
      unfold tz at h2
      rw [if_neg (by omega)] at h2
      omega
  have hall : ct (fun q => hB T n (d + 1) (gro w d Q c) q && decide (ct (hB T n d Q) (q + δ) < ct (hB T n d Q) (n + 1))) (n + 1) = SZ T n (d + 1) (gro w d Q c) := by
    show _ = ct (hB T n (d + 1) (gro w d Q c)) (n + 1)
    refine ct_congr (n + 1) (fun q hq => ?_)
    cases hh : hB T n (d + 1) (gro w d Q c) q with
    | false => rfl
    | true => rw [decide_eq_true (hpos q (by omega) hh)]; rfl
  rw [hall] at e
  refine ⟨Mx, ?_, hf, fun q hq hh => hI q hq hh (hpos q hq hh)⟩
  unfold mX12_narrows_63
  simp (disch := omega) only [Option.bind_some, if_true, if_false, Sum.elim_inl, Sum.elim_inr, li0, li1, li2, li3, li4, li5, li6, li7, li8, li9, li10, li12, li16, li20, li24, li25, li31, li32, li40, li41, li42, li48, li57, li59, li97, li104, li105, li124, li126, li240, li241, nI_add, nI_subc, nI_subm, nI_mulc, nI_nm, pu_r, pu_t, pu_a, pu_le_t, pu_le_f, pu_lt_t, pu_lt_f, pu_eq_t, pu_eq_f, nm_eq, nm_eq2, nm_lt, nm_lt2, nm_le, nm_le2, nm_ss, nm_sp, pu_ss, pu_snq, pu_neq, eq_self, and_true, true_and, and_false, false_and, or_true, true_or, or_false, false_or, not_true_eq_false, not_false_eq_true, e]
