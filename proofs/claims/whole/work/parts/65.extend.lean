/-! ===== a letter more: spans ===== -/
theorem sc_le {T : Nat → Nat} {n r s : Nat} : sc T n r s ≤ r := ct_le _ _
theorem sc_mono {T : Nat → Nat} {n r s s' : Nat} (h : s ≤ s') : sc T n r s ≤ sc T n r s' := ct_sub r (fun i _ h1 => decide_eq_true (by have := of_decide_eq_true h1; omega))
theorem sc_top {T : Nat → Nat} {n r : Nat} (hT : ∀ i, T i < 10) : sc T n r 10 = r := ct_full r (fun i _ => decide_eq_true (by
  unfold bf
  split
  · decide
  · exact hT _))
theorem g_smaller {o sg pl ro al sm n r c : Nat} {T : Nat → Nat} {M : me_M} (hT : ∀ i, T i < 10) (hn : n ≤ 240) (h : rw_sm sm T n M) (hr : r ≤ n + 1) (hc : c ≤ 8) : gX4_smallerAhead o sg pl ro al sm M (nI r) (nI c) = some (nI (sc T n r (c + 2))) := by
  unfold gX4_smallerAhead
  by_cases e : c = 8
  · subst e
    simp (disch := omega) only [Option.bind_some, if_true, if_false, Sum.elim_inl, Sum.elim_inr, li0, li1, li2, li3, li4, li5, li6, li7, li8, li9, li10, li12, li16, li20, li24, li25, li31, li32, li40, li41, li42, li48, li57, li59, li97, li104, li105, li124, li126, li240, li241, nI_add, nI_subc, nI_subm, nI_mulc, nI_nm, pu_r, pu_t, pu_a, pu_le_t, pu_le_f, pu_lt_t, pu_lt_f, pu_eq_t, pu_eq_f, nm_eq, nm_eq2, nm_lt, nm_lt2, nm_le, nm_le2, nm_ss, nm_sp, pu_ss, pu_snq, pu_neq, eq_self, and_true, true_and, and_false, false_and, or_true, true_or, or_false, false_or, not_true_eq_false, not_false_eq_true, sc_top hT]
  · have h := h r c hr (by omega)
    simp (disch := omega) only [Option.bind_some, if_true, if_false, Sum.elim_inl, Sum.elim_inr, li0, li1, li2, li3, li4, li5, li6, li7, li8, li9, li10, li12, li16, li20, li24, li25, li31, li32, li40, li41, li42, li48, li57, li59, li97, li104, li105, li124, li126, li240, li241, nI_add, nI_subc, nI_subm, nI_mulc, nI_nm, pu_r, pu_t, pu_a, pu_le_t, pu_le_f, pu_lt_t, pu_lt_f, pu_eq_t, pu_eq_f, nm_eq, nm_eq2, nm_lt, nm_lt2, nm_le, nm_le2, nm_ss, nm_sp, pu_ss, pu_snq, pu_neq, eq_self, and_true, true_and, and_false, false_and, or_true, true_or, or_false, false_or, not_true_eq_false, not_false_eq_true, h]
theorem g_lettersAhead {o sg pl ro al sm n r c : Nat} {T : Nat → Nat} {M : me_M} (hT : ∀ i, T i < 10) (hn : n ≤ 240) (h : rw_sm sm T n M) (hr : r ≤ n + 1) (hc : c < 8) : gX4_lettersAhead o sg pl ro al sm M (nI r) (nI c) = some (nI (sc T n r (c + 3) - sc T n r (c + 2))) := by
  unfold gX4_lettersAhead
  have h1 := sc_mono (T := T) (n := n) (r := r) (show c + 2 ≤ c + 1 + 2 by omega)
  simp (disch := omega) only [Option.bind_some, if_true, if_false, Sum.elim_inl, Sum.elim_inr, li0, li1, li2, li3, li4, li5, li6, li7, li8, li9, li10, li12, li16, li20, li24, li25, li31, li32, li40, li41, li42, li48, li57, li59, li97, li104, li105, li124, li126, li240, li241, nI_add, nI_subc, nI_subm, nI_mulc, nI_nm, pu_r, pu_t, pu_a, pu_le_t, pu_le_f, pu_lt_t, pu_lt_f, pu_eq_t, pu_eq_f, nm_eq, nm_eq2, nm_lt, nm_lt2, nm_le, nm_le2, nm_ss, nm_sp, pu_ss, pu_snq, pu_neq, eq_self, and_true, true_and, and_false, false_and, or_true, true_or, or_false, false_or, not_true_eq_false, not_false_eq_true, g_smaller hT hn h hr]
theorem g_rowWith {o sg pl ro al sm n r c : Nat} {T : Nat → Nat} {M : me_M} (hT : ∀ i, T i < 10) (hn : n ≤ 240) (ho : M.1 o 5 = nI n) (h : rw_sm sm T n M) (hr : r ≤ n + 1) (hc : c < 8) : gX4_rowWith o sg pl ro al sm M (nI r) (nI c) = some (nI (sc T n (n + 1) (c + 2) + (sc T n r (c + 3) - sc T n r (c + 2)))) := by
  unfold gX4_rowWith
  simp (disch := omega) only [Option.bind_some, if_true, if_false, Sum.elim_inl, Sum.elim_inr, li0, li1, li2, li3, li4, li5, li6, li7, li8, li9, li10, li12, li16, li20, li24, li25, li31, li32, li40, li41, li42, li48, li57, li59, li97, li104, li105, li124, li126, li240, li241, nI_add, nI_subc, nI_subm, nI_mulc, nI_nm, pu_r, pu_t, pu_a, pu_le_t, pu_le_f, pu_lt_t, pu_lt_f, pu_eq_t, pu_eq_f, nm_eq, nm_eq2, nm_lt, nm_lt2, nm_le, nm_le2, nm_ss, nm_sp, pu_ss, pu_snq, pu_neq, eq_self, and_true, true_and, and_false, false_and, or_true, true_or, or_false, false_or, not_true_eq_false, not_false_eq_true, ho, g_smaller hT hn h (Nat.le_refl _), g_lettersAhead hT hn h hr hc]
/-- the spans of a pattern of k letters stand -/
def spn (a b s : Nat) (T : Nat → Nat) (n k : Nat) (Q : Nat → Nat) (M : me_M) : Prop := M.1 a k = nI (LO T n k Q) ∧ M.1 b k = nI (LO (rv T n) n k (rq k Q)) ∧ M.1 s k = nI (SZ T n k Q)
/-- a pattern grown by a letter -/
def gro (w k : Nat) (Q : Nat → Nat) (c : Nat) : Nat → Nat := if w = 0 then cons c Q else snoc k Q c
theorem rw_sm.fr {sm n : Nat} {T : Nat → Nat} {S : Nat → Nat → Prop} {M M' : me_M} (h : rw_sm sm T n M) (hx : fr S M M') (h1 : ∀ k, ¬ S sm k) : rw_sm sm T n M' := fun r c hr hc => by rw [hx.2 _ _ (h1 _)]; exact h r c hr hc
theorem g_extend {a b s L n k c w : Nat} {T Q : Nat → Nat} {M : me_M} (hT : tx9 T n) (h9 : cxr 9 4 10 11 12 13 T n M) (h14 : cxr 14 5 15 16 17 18 (rv T n) n M) (hL : L < 100) (hk : k + 1 < L) (hc : c < 8) (hw : w < 2) (hQ : ∀ i, i < k → 0 < Q i) (hs : spn a b s T n k Q M) (hd : 18 < a ∧ a < b ∧ b < s) :
    ∃ M', gX7_extend a b s L (nI L) M (nI k) (nI c) (nI w) = some (nI (SZ T n (k + 1) (gro w k Q (c + 2))), M') ∧ fr (fun x j => j = k + 1 ∧ (x = a ∨ x = b ∨ x = s)) M M' ∧ spn a b s T n (k + 1) (gro w k Q (c + 2)) M' := by
  obtain ⟨s1, s2, s3⟩ := hs
  have hn := hT.2.2.2
  have hT9 := hT.2.1
  have hU := rv9 hT
  have hR : ∀ i, i < k → 0 < rq k Q i := fun i hi => hQ _ (by omega)
  have q1 : LO T n k Q + SZ T n k Q ≤ n + 1 := lo_le
  have q2 : LO (rv T n) n k (rq k Q) + SZ (rv T n) n k (rq k Q) ≤ n + 1 := lo_le
  have q3 := sz_both (T := T) (n := n) hQ
  by_cases e : w = 0
  · subst e
    have t1 : LO T n (k + 1) (cons (c + 2) Q) + sc T n (LO T n k Q) (c + 2) = sc T n (n + 1) (c + 2) + sc T n (LO T n k Q) (c + 3) := lo_cons (c := c + 2) (Q := Q) hT.1 (by omega) hQ
    have t2 : LO T n (k + 1) (cons (c + 2) Q) + SZ T n (k + 1) (cons (c + 2) Q) + sc T n (LO T n k Q + SZ T n k Q) (c + 2) = sc T n (n + 1) (c + 2) + sc T n (LO T n k Q + SZ T n k Q) (c + 3) := hi_cons (c := c + 2) (Q := Q) hT.1 (by omega) hQ
    have t3 := lo_cons_back (c := c + 2) (Q := Q) hT.1 hQ
    have m1 := sc_mono (T := T) (n := n) (r := LO T n k Q) (show c + 2 ≤ c + 3 by omega)
    have m2 := sc_mono (T := T) (n := n) (r := LO T n k Q + SZ T n k Q) (show c + 2 ≤ c + 3 by omega)
    have l1 := sc_le (T := T) (n := n) (r := n + 1) (s := c + 2)
    have l2 := sc_le (T := T) (n := n) (r := LO T n k Q + SZ T n k Q) (s := c + 3)
    have l3 := sc_le (T := T) (n := n) (r := LO T n k Q + SZ T n k Q) (s := c + 2)
    have u1 : sc T n (n + 1) (c + 2) + (sc T n (LO T n k Q) (c + 3) - sc T n (LO T n k Q) (c + 2)) = LO T n (k + 1) (cons (c + 2) Q) := by omega
    have u2 : sc T n (n + 1) (c + 2) + (sc T n (LO T n k Q + SZ T n k Q) (c + 3) - sc T n (LO T n k Q + SZ T n k Q) (c + 2)) - LO T n (k + 1) (cons (c + 2) Q) = SZ T n (k + 1) (cons (c + 2) Q) := by omega
    have u3 : LO (rv T n) n k (rq k Q) + sc T n (LO T n k Q + SZ T n k Q) (c + 2) - sc T n (LO T n k Q) (c + 2) = LO (rv T n) n (k + 1) (rq (k + 1) (cons (c + 2) Q)) := by omega
    have key : gX7_extend a b s L (nI L) M (nI k) (nI c) (nI 0) = some (nI (SZ T n (k + 1) (cons (c + 2) Q)), me_s (me_s (me_s M a (k + 1) (nI (LO T n (k + 1) (cons (c + 2) Q)))) b (k + 1) (nI (LO (rv T n) n (k + 1) (rq (k + 1) (cons (c + 2) Q))))) s (k + 1) (nI (SZ T n (k + 1) (cons (c + 2) Q)))) := by
      unfold gX7_extend
      rw [eX4_rowWith_9, eX4_smallerAhead_9]
      have v1 : rw_sm 13 T n (me_s M a (k + 1) (nI (LO T n (k + 1) (cons (c + 2) Q)))) := h9.2.2.2.fr (fr.s (S := fun x _ => x = a) rfl) (fun k => by omega)
      have v2 : ∀ z, rw_sm 13 T n (me_s (me_s M a (k + 1) (nI (LO T n (k + 1) (cons (c + 2) Q)))) b (k + 1) z) := fun z => v1.fr (fr.s (S := fun x _ => x = b) rfl) (fun k => by omega)
      have v3 : ∀ z, (me_s (me_s M a (k + 1) (nI (LO T n (k + 1) (cons (c + 2) Q)))) b (k + 1) z).1 9 5 = nI n := fun z => by rw [me_s_ne (by omega), me_s_ne (by omega)]; exact h9.1.1
      simp (disch := omega) only [Option.bind_some, if_true, if_false, Sum.elim_inl, Sum.elim_inr, li0, li1, li2, li3, li4, li5, li6, li7, li8, li9, li10, li12, li16, li20, li24, li25, li31, li32, li40, li41, li42, li48, li57, li59, li97, li104, li105, li124, li126, li240, li241, nI_add, nI_subc, nI_subm, nI_mulc, nI_nm, pu_r, pu_t, pu_a, pu_le_t, pu_le_f, pu_lt_t, pu_lt_f, pu_eq_t, pu_eq_f, nm_eq, nm_eq2, nm_lt, nm_lt2, nm_le, nm_le2, nm_ss, nm_sp, pu_ss, pu_snq, pu_neq, eq_self, and_true, true_and, and_false, false_and, or_true, true_or, or_false, false_or, not_true_eq_false, not_false_eq_true, s1, s2, s3, g_rowWith hT9 hn h9.1.1 h9.2.2.2, u1, g_smaller hT9 hn v1, g_rowWith hT9 hn (v3 _) (v2 _), u2, u3]
    refine ⟨_, key, ((fr.s (by omega)).tr (fr.s (by omega))).tr (fr.s (by omega)), ?_, ?_, ?_⟩
    · simp (disch := omega) only [Option.bind_some, if_true, if_false, Sum.elim_inl, Sum.elim_inr, li0, li1, li2, li3, li4, li5, li6, li7, li8, li9, li10, li12, li16, li20, li24, li25, li31, li32, li40, li41, li42, li48, li57, li59, li97, li104, li105, li124, li126, li240, li241, nI_add, nI_subc, nI_subm, nI_mulc, nI_nm, pu_r, pu_t, pu_a, pu_le_t, pu_le_f, pu_lt_t, pu_lt_f, pu_eq_t, pu_eq_f, nm_eq, nm_eq2, nm_lt, nm_lt2, nm_le, nm_le2, nm_ss, nm_sp, pu_ss, pu_snq, pu_neq, eq_self, and_true, true_and, and_false, false_and, or_true, true_or, or_false, false_or, not_true_eq_false, not_false_eq_true, gro]
    · simp (disch := omega) only [Option.bind_some, if_true, if_false, Sum.elim_inl, Sum.elim_inr, li0, li1, li2, li3, li4, li5, li6, li7, li8, li9, li10, li12, li16, li20, li24, li25, li31, li32, li40, li41, li42, li48, li57, li59, li97, li104, li105, li124, li126, li240, li241, nI_add, nI_subc, nI_subm, nI_mulc, nI_nm, pu_r, pu_t, pu_a, pu_le_t, pu_le_f, pu_lt_t, pu_lt_f, pu_eq_t, pu_eq_f, nm_eq, nm_eq2, nm_lt, nm_lt2, nm_le, nm_le2, nm_ss, nm_sp, pu_ss, pu_snq, pu_neq, eq_self, and_true, true_and, and_false, false_and, or_true, true_or, or_false, false_or, not_true_eq_false, not_false_eq_true, gro]
    · simp (disch := omega) only [Option.bind_some, if_true, if_false, Sum.elim_inl, Sum.elim_inr, li0, li1, li2, li3, li4, li5, li6, li7, li8, li9, li10, li12, li16, li20, li24, li25, li31, li32, li40, li41, li42, li48, li57, li59, li97, li104, li105, li124, li126, li240, li241, nI_add, nI_subc, nI_subm, nI_mulc, nI_nm, pu_r, pu_t, pu_a, pu_le_t, pu_le_f, pu_lt_t, pu_lt_f, pu_eq_t, pu_eq_f, nm_eq, nm_eq2, nm_lt, nm_lt2, nm_le, nm_le2, nm_ss, nm_sp, pu_ss, pu_snq, pu_neq, eq_self, and_true, true_and, and_false, false_and, or_true, true_or, or_false, false_or, not_true_eq_false, not_false_eq_true, gro]
  · have e : w = 1 := by omega
    subst e
    have t1 : LO (rv T n) n (k + 1) (cons (c + 2) (rq k Q)) + sc (rv T n) n (LO (rv T n) n k (rq k Q)) (c + 2) = sc (rv T n) n (n + 1) (c + 2) + sc (rv T n) n (LO (rv T n) n k (rq k Q)) (c + 3) := lo_cons (c := c + 2) (Q := rq k Q) hU.1 (by omega) hR
    have t2 : LO (rv T n) n (k + 1) (cons (c + 2) (rq k Q)) + SZ (rv T n) n (k + 1) (cons (c + 2) (rq k Q)) + sc (rv T n) n (LO (rv T n) n k (rq k Q) + SZ (rv T n) n k (rq k Q)) (c + 2) = sc (rv T n) n (n + 1) (c + 2) + sc (rv T n) n (LO (rv T n) n k (rq k Q) + SZ (rv T n) n k (rq k Q)) (c + 3) := hi_cons (c := c + 2) (Q := rq k Q) hU.1 (by omega) hR
    have t3 := lo_snoc (c := c + 2) (Q := Q) hT.1 hQ
    have hQ' : ∀ i, i < k + 1 → 0 < snoc k Q (c + 2) i := fun i hi => by
      unfold snoc
      split
      · omega
      · exact hQ i (by omega)
    have t4 : SZ (rv T n) n (k + 1) (cons (c + 2) (rq k Q)) = SZ T n (k + 1) (snoc k Q (c + 2)) := by
      rw [← sz_both hQ']
      exact sz_cong (fun i hi => (rq_snoc hi).symm)
    have t5 : LO (rv T n) n (k + 1) (rq (k + 1) (snoc k Q (c + 2))) = LO (rv T n) n (k + 1) (cons (c + 2) (rq k Q)) := lo_cong (fun i hi => rq_snoc hi)
    have m1 := sc_mono (T := rv T n) (n := n) (r := LO (rv T n) n k (rq k Q)) (show c + 2 ≤ c + 3 by omega)
    rw [q3] at t2 t3 q2
    have m2 := sc_mono (T := rv T n) (n := n) (r := LO (rv T n) n k (rq k Q) + SZ T n k Q) (show c + 2 ≤ c + 3 by omega)
    have l1 := sc_le (T := rv T n) (n := n) (r := n + 1) (s := c + 2)
    have l2 := sc_le (T := rv T n) (n := n) (r := LO (rv T n) n k (rq k Q) + SZ T n k Q) (s := c + 3)
    have l3 := sc_le (T := rv T n) (n := n) (r := LO (rv T n) n k (rq k Q) + SZ T n k Q) (s := c + 2)
    have u1 : sc (rv T n) n (n + 1) (c + 2) + (sc (rv T n) n (LO (rv T n) n k (rq k Q)) (c + 3) - sc (rv T n) n (LO (rv T n) n k (rq k Q)) (c + 2)) = LO (rv T n) n (k + 1) (rq (k + 1) (snoc k Q (c + 2))) := by omega
    have u2 : sc (rv T n) n (n + 1) (c + 2) + (sc (rv T n) n (LO (rv T n) n k (rq k Q) + SZ T n k Q) (c + 3) - sc (rv T n) n (LO (rv T n) n k (rq k Q) + SZ T n k Q) (c + 2)) - LO (rv T n) n (k + 1) (rq (k + 1) (snoc k Q (c + 2))) = SZ T n (k + 1) (snoc k Q (c + 2)) := by omega
    have u3 : LO T n k Q + sc (rv T n) n (LO (rv T n) n k (rq k Q) + SZ T n k Q) (c + 2) - sc (rv T n) n (LO (rv T n) n k (rq k Q)) (c + 2) = LO T n (k + 1) (snoc k Q (c + 2)) := by omega
    have key : gX7_extend a b s L (nI L) M (nI k) (nI c) (nI 1) = some (nI (SZ T n (k + 1) (snoc k Q (c + 2))), me_s (me_s (me_s M b (k + 1) (nI (LO (rv T n) n (k + 1) (rq (k + 1) (snoc k Q (c + 2)))))) a (k + 1) (nI (LO T n (k + 1) (snoc k Q (c + 2))))) s (k + 1) (nI (SZ T n (k + 1) (snoc k Q (c + 2))))) := by
      unfold gX7_extend
      rw [eX4_rowWith_14, eX4_smallerAhead_14]
      have v1 : rw_sm 18 (rv T n) n (me_s M b (k + 1) (nI (LO (rv T n) n (k + 1) (rq (k + 1) (snoc k Q (c + 2)))))) := h14.2.2.2.fr (fr.s (S := fun x _ => x = b) rfl) (fun k => by omega)
      have v2 : ∀ z, rw_sm 18 (rv T n) n (me_s (me_s M b (k + 1) (nI (LO (rv T n) n (k + 1) (rq (k + 1) (snoc k Q (c + 2)))))) a (k + 1) z) := fun z => v1.fr (fr.s (S := fun x _ => x = a) rfl) (fun k => by omega)
      have v3 : ∀ z, (me_s (me_s M b (k + 1) (nI (LO (rv T n) n (k + 1) (rq (k + 1) (snoc k Q (c + 2)))))) a (k + 1) z).1 14 5 = nI n := fun z => by rw [me_s_ne (by omega), me_s_ne (by omega)]; exact h14.1.1
      simp (disch := omega) only [Option.bind_some, if_true, if_false, Sum.elim_inl, Sum.elim_inr, li0, li1, li2, li3, li4, li5, li6, li7, li8, li9, li10, li12, li16, li20, li24, li25, li31, li32, li40, li41, li42, li48, li57, li59, li97, li104, li105, li124, li126, li240, li241, nI_add, nI_subc, nI_subm, nI_mulc, nI_nm, pu_r, pu_t, pu_a, pu_le_t, pu_le_f, pu_lt_t, pu_lt_f, pu_eq_t, pu_eq_f, nm_eq, nm_eq2, nm_lt, nm_lt2, nm_le, nm_le2, nm_ss, nm_sp, pu_ss, pu_snq, pu_neq, eq_self, and_true, true_and, and_false, false_and, or_true, true_or, or_false, false_or, not_true_eq_false, not_false_eq_true, s1, s2, s3, g_rowWith hU.2.1 hn h14.1.1 h14.2.2.2, u1, g_smaller hU.2.1 hn v1, g_rowWith hU.2.1 hn (v3 _) (v2 _), u2, u3]
    refine ⟨_, key, ((fr.s (by omega)).tr (fr.s (by omega))).tr (fr.s (by omega)), ?_, ?_, ?_⟩
    · simp (disch := omega) only [Option.bind_some, if_true, if_false, Sum.elim_inl, Sum.elim_inr, li0, li1, li2, li3, li4, li5, li6, li7, li8, li9, li10, li12, li16, li20, li24, li25, li31, li32, li40, li41, li42, li48, li57, li59, li97, li104, li105, li124, li126, li240, li241, nI_add, nI_subc, nI_subm, nI_mulc, nI_nm, pu_r, pu_t, pu_a, pu_le_t, pu_le_f, pu_lt_t, pu_lt_f, pu_eq_t, pu_eq_f, nm_eq, nm_eq2, nm_lt, nm_lt2, nm_le, nm_le2, nm_ss, nm_sp, pu_ss, pu_snq, pu_neq, eq_self, and_true, true_and, and_false, false_and, or_true, true_or, or_false, false_or, not_true_eq_false, not_false_eq_true, gro]
      rfl
    · simp (disch := omega) only [Option.bind_some, if_true, if_false, Sum.elim_inl, Sum.elim_inr, li0, li1, li2, li3, li4, li5, li6, li7, li8, li9, li10, li12, li16, li20, li24, li25, li31, li32, li40, li41, li42, li48, li57, li59, li97, li104, li105, li124, li126, li240, li241, nI_add, nI_subc, nI_subm, nI_mulc, nI_nm, pu_r, pu_t, pu_a, pu_le_t, pu_le_f, pu_lt_t, pu_lt_f, pu_eq_t, pu_eq_f, nm_eq, nm_eq2, nm_lt, nm_lt2, nm_le, nm_le2, nm_ss, nm_sp, pu_ss, pu_snq, pu_neq, eq_self, and_true, true_and, and_false, false_and, or_true, true_or, or_false, false_or, not_true_eq_false, not_false_eq_true, gro]
      rfl
    · simp (disch := omega) only [Option.bind_some, if_true, if_false, Sum.elim_inl, Sum.elim_inr, li0, li1, li2, li3, li4, li5, li6, li7, li8, li9, li10, li12, li16, li20, li24, li25, li31, li32, li40, li41, li42, li48, li57, li59, li97, li104, li105, li124, li126, li240, li241, nI_add, nI_subc, nI_subm, nI_mulc, nI_nm, pu_r, pu_t, pu_a, pu_le_t, pu_le_f, pu_lt_t, pu_lt_f, pu_eq_t, pu_eq_f, nm_eq, nm_eq2, nm_lt, nm_lt2, nm_le, nm_le2, nm_ss, nm_sp, pu_ss, pu_snq, pu_neq, eq_self, and_true, true_and, and_false, false_and, or_true, true_or, or_false, false_or, not_true_eq_false, not_false_eq_true, gro]
      rfl
