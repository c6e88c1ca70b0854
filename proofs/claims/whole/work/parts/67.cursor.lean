/-! ===== the cursor, of the class and of the reference ===== -/
def upN (f : Nat → Nat) (k v : Nat) : Nat → Nat := fun i => if i = k then v else f i
theorem upN_s (f : Nat → Nat) (k v : Nat) : upN f k v k = v := if_pos rfl
theorem upN_n {f : Nat → Nat} {k v i : Nat} (h : i ≠ k) : upN f k v i = f i := if_neg h
/-- where the letters begin after j growths -/
def fW (W : Nat → Nat) (j : Nat) : Nat := 40 - ct (fun i => decide (W i = 0)) j
/-- the pattern after j growths -/
def wn (W X : Nat → Nat) (j : Nat) : Nat → Nat := fun i => X (fW W j + i)
theorem fW_s (W : Nat → Nat) (j : Nat) (h : j < 40) : (W j = 0 → fW W (j + 1) + 1 = fW W j) ∧ (W j ≠ 0 → fW W (j + 1) = fW W j) := by
  have := ct_le (fun i => decide (W i = 0)) j
  unfold fW
  rw [ct_s]
  refine ⟨fun e => ?_, fun e => ?_⟩
  · rw [decide_eq_true e, if_pos rfl]; omega
  · rw [decide_eq_false e, if_neg (by decide)]; rfl
theorem fW_nest (W : Nat → Nat) {j : Nat} : ∀ m, m ≤ 40 → j ≤ m → fW W m ≤ fW W j ∧ fW W j + j ≤ fW W m + m
  | 0, _, h => by rw [show j = 0 by omega]; exact ⟨Nat.le_refl _, Nat.le_refl _⟩
  | m + 1, h40, h => by
    by_cases e : j = m + 1
    · rw [e]; exact ⟨Nat.le_refl _, Nat.le_refl _⟩
    · have h1 := fW_nest W m (by omega) (show j ≤ m by omega)
      have h2 := fW_s W m (by omega)
      by_cases c : W m = 0
      · have := h2.1 c; omega
      · have := h2.2 c; omega
theorem fW_b (W : Nat → Nat) (m : Nat) (h : m ≤ 40) : 40 ≤ fW W m + m ∧ fW W m ≤ 40 := by
  have := ct_le (fun i => decide (W i = 0)) m
  unfold fW
  omega
theorem fW_cong {W W' : Nat → Nat} {j : Nat} (h : ∀ i, i < j → W i = W' i) : fW W j = fW W' j := by
  unfold fW
  rw [ct_congr j (fun i hi => by rw [h i hi])]
theorem spn_cong {a b s n k : Nat} {T Q Q' : Nat → Nat} {M : me_M} (h : spn a b s T n k Q M) (hq : ∀ i, i < k → Q i = Q' i) : spn a b s T n k Q' M := by
  obtain ⟨h1, h2, h3⟩ := h
  refine ⟨?_, ?_, ?_⟩
  · rw [h1, lo_cong hq]
  · rw [h2, lo_cong (fun i hi => show rq k Q i = rq k Q' i from hq _ (by omega))]
  · rw [h3, sz_cong hq]
theorem spn.fr {a b s n k : Nat} {T Q : Nat → Nat} {S : Nat → Nat → Prop} {M M' : me_M} (h : spn a b s T n k Q M) (hx : fr S M M') (h1 : ¬ S a k) (h2 : ¬ S b k) (h3 : ¬ S s k) : spn a b s T n k Q M' := ⟨by rw [hx.2 _ _ h1]; exact h.1, by rw [hx.2 _ _ h2]; exact h.2.1, by rw [hx.2 _ _ h3]; exact h.2.2⟩
def cu (T : Nat → Nat) (n m : Nat) (W X : Nat → Nat) (M : me_M) : Prop := m ≤ 40 ∧ (∀ j, j < m → W j < 2 ∧ M.1 24 j = nI (W j)) ∧ M.1 19 4 = nI m ∧ M.1 19 3 = nI (fW W m) ∧ (∀ i, i < m → M.1 25 (fW W m + i) = nI (X (fW W m + i) - 2)) ∧ ∀ j, j ≤ m → spn 21 22 23 T n j (wn W X j) M
def ru (m : Nat) (W X : Nat → Nat) (M : me_M) : Prop := rc m (wn W X m) (fW W m + 2) M ∧ ∀ j, j < m → M.1 76 j = nI (W j)
theorem cu.fr {T : Nat → Nat} {n m : Nat} {W X : Nat → Nat} {S : Nat → Nat → Prop} {M M' : me_M} (h : cu T n m W X M) (hx : fr S M M') (hs : ∀ b k, 19 ≤ b → b ≤ 25 → ¬ S b k) : cu T n m W X M' := by
  obtain ⟨h1, h2, h3, h4, h5, h6⟩ := h
  refine ⟨h1, fun j hj => ⟨(h2 j hj).1, ?_⟩, ?_, ?_, fun i hi => ?_, fun j hj => (h6 j hj).fr hx (hs _ _ (by omega) (by omega)) (hs _ _ (by omega) (by omega)) (hs _ _ (by omega) (by omega))⟩
  · rw [hx.2 _ _ (hs _ _ (by omega) (by omega))]; exact (h2 j hj).2
  · rw [hx.2 _ _ (hs _ _ (by omega) (by omega))]; exact h3
  · rw [hx.2 _ _ (hs _ _ (by omega) (by omega))]; exact h4
  · rw [hx.2 _ _ (hs _ _ (by omega) (by omega))]; exact h5 i hi
theorem rc.fr {m f : Nat} {Q : Nat → Nat} {S : Nat → Nat → Prop} {M M' : me_M} (h : rc m Q f M) (hx : fr S M M') (h1 : ¬ S 63 10) (h2 : ¬ S 63 11) (h3 : ∀ k, ¬ S 75 k) : rc m Q f M' := ⟨by rw [hx.2 _ _ h1]; exact h.1, by rw [hx.2 _ _ h2]; exact h.2.1, h.2.2.1, fun i hi => by rw [hx.2 _ _ (h3 _)]; exact h.2.2.2 i hi⟩
theorem ru.fr {m : Nat} {W X : Nat → Nat} {S : Nat → Nat → Prop} {M M' : me_M} (h : ru m W X M) (hx : fr S M M') (h1 : ¬ S 63 10) (h2 : ¬ S 63 11) (h3 : ∀ k, ¬ S 75 k) (h4 : ∀ k, ¬ S 76 k) : ru m W X M' := ⟨h.1.fr hx h1 h2 h3, fun j hj => by rw [hx.2 _ _ (h4 _)]; exact h.2 j hj⟩
/-- what growth does to sides and letters -/
def gW (W : Nat → Nat) (m w : Nat) : Nat → Nat := upN W m w
def gXx (W X : Nat → Nat) (m w v : Nat) : Nat → Nat := if w = 0 then upN X (fW W m - 1) v else upN X (fW W m + m) v
theorem gW_f {W : Nat → Nat} {m w : Nat} (hm : m < 40) : (∀ j, j ≤ m → fW (gW W m w) j = fW W j) ∧ (w = 0 → fW (gW W m w) (m + 1) + 1 = fW W m) ∧ (w ≠ 0 → fW (gW W m w) (m + 1) = fW W m) := by
  have h0 : ∀ j, j ≤ m → fW (gW W m w) j = fW W j := fun j hj => fW_cong (fun i hi => upN_n (by omega))
  have h1 := fW_s (gW W m w) m hm
  have e : gW W m w m = w := upN_s _ _ _
  rw [e, h0 m (Nat.le_refl _)] at h1
  exact ⟨h0, h1.1, h1.2⟩
theorem gX_old {W X : Nat → Nat} {m w v j i : Nat} (hm : m < 40) (hj : j ≤ m) (hi : i < j) : wn (gW W m w) (gXx W X m w v) j i = wn W X j i := by
  have h1 := (gW_f (W := W) (w := w) hm).1 j hj
  have h2 := fW_nest W m (by omega) hj
  have h3 := fW_b W m (by omega)
  unfold wn
  rw [h1]
  unfold gXx
  by_cases e : w = 0
  · rw [if_pos e]; exact upN_n (by omega)
  · rw [if_neg e]; exact upN_n (by omega)
theorem gX_new {W X : Nat → Nat} {m w v i : Nat} (hm : m < 40) (hi : i < m + 1) : gro w m (wn W X m) v i = wn (gW W m w) (gXx W X m w v) (m + 1) i := by
  have h1 := gW_f (W := W) (w := w) hm
  have h3 := fW_b W m (by omega)
  unfold gro gXx wn
  by_cases e : w = 0
  · have h2 := h1.2.1 e
    rw [if_pos e, if_pos e]
    match i with
    | 0 =>
      rw [show fW (gW W m w) (m + 1) + 0 = fW W m - 1 by omega, upN_s]
      rfl
    | i + 1 =>
      rw [show fW (gW W m w) (m + 1) + (i + 1) = fW W m + i by omega, upN_n (by omega)]
      rfl
  · have h2 := h1.2.2 e
    rw [if_neg e, if_neg e, h2]
    unfold snoc
    by_cases q : i = m
    · rw [if_pos q, q, upN_s]
    · rw [if_neg q, upN_n (by omega)]
theorem cp_zero {T : Nat → Nat} {n : Nat} {Q : Nat → Nat} : LO T n 0 Q = 0 ∧ SZ T n 0 Q = n + 1 := ⟨ct_zero _ (fun i _ => decide_eq_false (fun h => by cases h)), ct_full _ (fun i _ => decide_eq_true rfl)⟩
theorem c_empty {T : Nat → Nat} {n : Nat} {M : me_M} (hn : n ≤ 240) (h9 : M.1 9 5 = nI n) : ∃ M', mX0_empty_19 M = some M' ∧ fr (fun b k => (b = 19 ∧ (k = 3 ∨ k = 4)) ∨ (21 ≤ b ∧ b ≤ 23)) M M' ∧ ∀ W X, cu T n 0 W X M' := by
  refine ⟨me_s (me_s (me_s (me_s (me_s M 19 3 (nI 40)) 19 4 (nI 0)) 21 0 (nI 0)) 22 0 (nI 0)) 23 0 (nI (n + 1)), ?_, (((((fr.s (by omega)).tr (fr.s (by omega))).tr (fr.s (by omega))).tr (fr.s (by omega))).tr (fr.s (by omega))), fun W X => ⟨by omega, fun j h => absurd h (Nat.not_lt_zero _), ?_, ?_, fun j h => absurd h (Nat.not_lt_zero _), fun j hj => ?_⟩⟩
  · unfold mX0_empty_19 mX7_start_20
    simp (disch := omega) only [Option.bind_some, if_true, if_false, Sum.elim_inl, Sum.elim_inr, li0, li1, li2, li3, li4, li5, li6, li7, li8, li9, li10, li12, li16, li20, li24, li25, li31, li32, li40, li41, li42, li48, li57, li59, li97, li104, li105, li124, li126, li240, li241, nI_add, nI_subc, nI_subm, nI_mulc, nI_nm, pu_r, pu_t, pu_a, pu_le_t, pu_le_f, pu_lt_t, pu_lt_f, pu_eq_t, pu_eq_f, nm_eq, nm_eq2, nm_lt, nm_lt2, nm_le, nm_le2, nm_ss, nm_sp, pu_ss, pu_snq, pu_neq, eq_self, and_true, true_and, and_false, false_and, or_true, true_or, or_false, false_or, not_true_eq_false, not_false_eq_true, h9]
  · simp (disch := omega) only [Option.bind_some, if_true, if_false, Sum.elim_inl, Sum.elim_inr, li0, li1, li2, li3, li4, li5, li6, li7, li8, li9, li10, li12, li16, li20, li24, li25, li31, li32, li40, li41, li42, li48, li57, li59, li97, li104, li105, li124, li126, li240, li241, nI_add, nI_subc, nI_subm, nI_mulc, nI_nm, pu_r, pu_t, pu_a, pu_le_t, pu_le_f, pu_lt_t, pu_lt_f, pu_eq_t, pu_eq_f, nm_eq, nm_eq2, nm_lt, nm_lt2, nm_le, nm_le2, nm_ss, nm_sp, pu_ss, pu_snq, pu_neq, eq_self, and_true, true_and, and_false, false_and, or_true, true_or, or_false, false_or, not_true_eq_false, not_false_eq_true]
  · simp (disch := omega) only [Option.bind_some, if_true, if_false, Sum.elim_inl, Sum.elim_inr, li0, li1, li2, li3, li4, li5, li6, li7, li8, li9, li10, li12, li16, li20, li24, li25, li31, li32, li40, li41, li42, li48, li57, li59, li97, li104, li105, li124, li126, li240, li241, nI_add, nI_subc, nI_subm, nI_mulc, nI_nm, pu_r, pu_t, pu_a, pu_le_t, pu_le_f, pu_lt_t, pu_lt_f, pu_eq_t, pu_eq_f, nm_eq, nm_eq2, nm_lt, nm_lt2, nm_le, nm_le2, nm_ss, nm_sp, pu_ss, pu_snq, pu_neq, eq_self, and_true, true_and, and_false, false_and, or_true, true_or, or_false, false_or, not_true_eq_false, not_false_eq_true]
    rfl
  · have e : j = 0 := by omega
    subst e
    refine ⟨?_, ?_, ?_⟩
    · simp (disch := omega) only [Option.bind_some, if_true, if_false, Sum.elim_inl, Sum.elim_inr, li0, li1, li2, li3, li4, li5, li6, li7, li8, li9, li10, li12, li16, li20, li24, li25, li31, li32, li40, li41, li42, li48, li57, li59, li97, li104, li105, li124, li126, li240, li241, nI_add, nI_subc, nI_subm, nI_mulc, nI_nm, pu_r, pu_t, pu_a, pu_le_t, pu_le_f, pu_lt_t, pu_lt_f, pu_eq_t, pu_eq_f, nm_eq, nm_eq2, nm_lt, nm_lt2, nm_le, nm_le2, nm_ss, nm_sp, pu_ss, pu_snq, pu_neq, eq_self, and_true, true_and, and_false, false_and, or_true, true_or, or_false, false_or, not_true_eq_false, not_false_eq_true, cp_zero.1]
    · simp (disch := omega) only [Option.bind_some, if_true, if_false, Sum.elim_inl, Sum.elim_inr, li0, li1, li2, li3, li4, li5, li6, li7, li8, li9, li10, li12, li16, li20, li24, li25, li31, li32, li40, li41, li42, li48, li57, li59, li97, li104, li105, li124, li126, li240, li241, nI_add, nI_subc, nI_subm, nI_mulc, nI_nm, pu_r, pu_t, pu_a, pu_le_t, pu_le_f, pu_lt_t, pu_lt_f, pu_eq_t, pu_eq_f, nm_eq, nm_eq2, nm_lt, nm_lt2, nm_le, nm_le2, nm_ss, nm_sp, pu_ss, pu_snq, pu_neq, eq_self, and_true, true_and, and_false, false_and, or_true, true_or, or_false, false_or, not_true_eq_false, not_false_eq_true, cp_zero.1]
    · simp (disch := omega) only [Option.bind_some, if_true, if_false, Sum.elim_inl, Sum.elim_inr, li0, li1, li2, li3, li4, li5, li6, li7, li8, li9, li10, li12, li16, li20, li24, li25, li31, li32, li40, li41, li42, li48, li57, li59, li97, li104, li105, li124, li126, li240, li241, nI_add, nI_subc, nI_subm, nI_mulc, nI_nm, pu_r, pu_t, pu_a, pu_le_t, pu_le_f, pu_lt_t, pu_lt_f, pu_eq_t, pu_eq_f, nm_eq, nm_eq2, nm_lt, nm_lt2, nm_le, nm_le2, nm_ss, nm_sp, pu_ss, pu_snq, pu_neq, eq_self, and_true, true_and, and_false, false_and, or_true, true_or, or_false, false_or, not_true_eq_false, not_false_eq_true, cp_zero.2]
theorem cu_sp {T : Nat → Nat} {n m : Nat} {W X : Nat → Nat} {M : me_M} (h : cu T n m W X M) : mX0_lowForth_19 M = some (nI (LO T n m (wn W X m))) ∧ mX0_lowBack_19 M = some (nI (LO (rv T n) n m (rq m (wn W X m)))) ∧ mX0_size_19 M = some (nI (SZ T n m (wn W X m))) := by
  obtain ⟨h1, h2, h3, h4, h5, h6⟩ := h
  obtain ⟨s1, s2, s3⟩ := h6 m (Nat.le_refl _)
  refine ⟨?_, ?_, ?_⟩
  · unfold mX0_lowForth_19; simp (disch := omega) only [Option.bind_some, if_true, if_false, Sum.elim_inl, Sum.elim_inr, li0, li1, li2, li3, li4, li5, li6, li7, li8, li9, li10, li12, li16, li20, li24, li25, li31, li32, li40, li41, li42, li48, li57, li59, li97, li104, li105, li124, li126, li240, li241, nI_add, nI_subc, nI_subm, nI_mulc, nI_nm, pu_r, pu_t, pu_a, pu_le_t, pu_le_f, pu_lt_t, pu_lt_f, pu_eq_t, pu_eq_f, nm_eq, nm_eq2, nm_lt, nm_lt2, nm_le, nm_le2, nm_ss, nm_sp, pu_ss, pu_snq, pu_neq, eq_self, and_true, true_and, and_false, false_and, or_true, true_or, or_false, false_or, not_true_eq_false, not_false_eq_true, h3, s1]
  · unfold mX0_lowBack_19; simp (disch := omega) only [Option.bind_some, if_true, if_false, Sum.elim_inl, Sum.elim_inr, li0, li1, li2, li3, li4, li5, li6, li7, li8, li9, li10, li12, li16, li20, li24, li25, li31, li32, li40, li41, li42, li48, li57, li59, li97, li104, li105, li124, li126, li240, li241, nI_add, nI_subc, nI_subm, nI_mulc, nI_nm, pu_r, pu_t, pu_a, pu_le_t, pu_le_f, pu_lt_t, pu_lt_f, pu_eq_t, pu_eq_f, nm_eq, nm_eq2, nm_lt, nm_lt2, nm_le, nm_le2, nm_ss, nm_sp, pu_ss, pu_snq, pu_neq, eq_self, and_true, true_and, and_false, false_and, or_true, true_or, or_false, false_or, not_true_eq_false, not_false_eq_true, h3, s2]
  · unfold mX0_size_19; simp (disch := omega) only [Option.bind_some, if_true, if_false, Sum.elim_inl, Sum.elim_inr, li0, li1, li2, li3, li4, li5, li6, li7, li8, li9, li10, li12, li16, li20, li24, li25, li31, li32, li40, li41, li42, li48, li57, li59, li97, li104, li105, li124, li126, li240, li241, nI_add, nI_subc, nI_subm, nI_mulc, nI_nm, pu_r, pu_t, pu_a, pu_le_t, pu_le_f, pu_lt_t, pu_lt_f, pu_eq_t, pu_eq_f, nm_eq, nm_eq2, nm_lt, nm_lt2, nm_le, nm_le2, nm_ss, nm_sp, pu_ss, pu_snq, pu_neq, eq_self, and_true, true_and, and_false, false_and, or_true, true_or, or_false, false_or, not_true_eq_false, not_false_eq_true, h3, s3]
/-- extend at the cursor's end -/
theorem c_ext {T : Nat → Nat} {n m c w : Nat} {W X : Nat → Nat} {M : me_M} (hT : tx9 T n) (hx : cx T n M) (h : cu T n m W X M) (hX : ∀ i, i < m → 2 ≤ wn W X m i) (hm : m < 40) (hc : c < 8) (hw : w < 2) : ∃ M', mX7_extend_20 M (nI m) (nI c) (nI w) = some (nI (SZ T n (m + 1) (gro w m (wn W X m) (c + 2))), M') ∧ fr (fun x j => j = m + 1 ∧ 21 ≤ x ∧ x ≤ 23) M M' ∧ spn 21 22 23 T n (m + 1) (gro w m (wn W X m) (c + 2)) M' ∧ cu T n m W X M' := by
  have h41 : (41 : Int32) = nI 41 := by decide
  obtain ⟨M', e1, f1, g1⟩ := g_extend (L := 41) hT hx.2.1 hx.2.2 (by omega) (by omega) hc hw (fun i hi => by have := hX i hi; omega) (h.2.2.2.2.2 m (Nat.le_refl _)) (by omega)
  have f1 : fr (fun x j => j = m + 1 ∧ 21 ≤ x ∧ x ≤ 23) M M' := f1.up (fun b k h => by omega)
  refine ⟨M', by rw [eX7_extend_20, h41]; exact e1, f1, g1, ?_⟩
  obtain ⟨h1, h2, h3, h4, h5, h6⟩ := h
  refine ⟨h1, fun j hj => ⟨(h2 j hj).1, ?_⟩, ?_, ?_, fun i hi => ?_, fun j hj => (h6 j hj).fr f1 (by omega) (by omega) (by omega)⟩
  · rw [f1.2 _ _ (by omega)]; exact (h2 j hj).2
  · rw [f1.2 _ _ (by omega)]; exact h3
  · rw [f1.2 _ _ (by omega)]; exact h4
  · rw [f1.2 _ _ (by omega)]; exact h5 i hi
theorem c_push {T : Nat → Nat} {n m c w : Nat} {W X : Nat → Nat} {M : me_M} (hT : tx9 T n) (hx : cx T n M) (h : cu T n m W X M) (hX : ∀ i, i < m → 2 ≤ wn W X m i) (hm : m < 40) (hc : c < 8) (hw : w < 2) : ∃ M', mX0_push_19 M (nI c) (nI w) = some (nI (SZ T n (m + 1) (gro w m (wn W X m) (c + 2))), M') ∧ fr (fun x j => 19 ≤ x ∧ x ≤ 25) M M' ∧ (if SZ T n (m + 1) (gro w m (wn W X m) (c + 2)) = 0 then cu T n m W X M' else cu T n (m + 1) (gW W m w) (gXx W X m w (c + 2)) M') := by
  obtain ⟨M1, e1, f1, g1, u1⟩ := c_ext hT hx h hX hm hc hw
  have hb := fW_b W m (by omega)
  have hg := gW_f (W := W) (w := w) hm
  have hsz : SZ T n (m + 1) (gro w m (wn W X m) (c + 2)) ≤ n + 1 := ct_le _ _
  have hn := hT.2.2.2
  have h4m := h.2.2.1
  unfold mX0_push_19
  by_cases z : SZ T n (m + 1) (gro w m (wn W X m) (c + 2)) = 0
  · simp only [if_pos z]
    refine ⟨M1, ?_, f1.up (fun b k h => by omega), u1⟩
    simp (disch := omega) only [Option.bind_some, if_true, if_false, Sum.elim_inl, Sum.elim_inr, li0, li1, li2, li3, li4, li5, li6, li7, li8, li9, li10, li12, li16, li20, li24, li25, li31, li32, li40, li41, li42, li48, li57, li59, li97, li104, li105, li124, li126, li240, li241, nI_add, nI_subc, nI_subm, nI_mulc, nI_nm, pu_r, pu_t, pu_a, pu_le_t, pu_le_f, pu_lt_t, pu_lt_f, pu_eq_t, pu_eq_f, nm_eq, nm_eq2, nm_lt, nm_lt2, nm_le, nm_le2, nm_ss, nm_sp, pu_ss, pu_snq, pu_neq, eq_self, and_true, true_and, and_false, false_and, or_true, true_or, or_false, false_or, not_true_eq_false, not_false_eq_true, h4m, e1, z]
  · simp only [if_neg z]
    obtain ⟨h1, h2, h3, h4, h5, h6⟩ := u1
    have hold : ∀ j, j < m → gW W m w j = W j := fun j hj => upN_n (by omega)
    have hnew : gW W m w m = w := upN_s _ _ _
    by_cases e : w = 0
    · subst e
      have k2 := hg.2.1 rfl
      refine ⟨me_s (me_s (me_s (me_s M1 19 3 (nI (fW W m - 1))) 25 (fW W m - 1) (nI c)) 24 m (nI 0)) 19 4 (nI (m + 1)), ?_, (((f1.up (fun b k h => by omega)).st (by omega)).st (by omega)).st (by omega) |>.st (by omega), by omega, fun j hj => ?_, ?_, ?_, fun i hi => ?_, fun j hj => ?_⟩
      · simp only [mX0_push_19_J73]
        simp (disch := omega) only [Option.bind_some, if_true, if_false, Sum.elim_inl, Sum.elim_inr, li0, li1, li2, li3, li4, li5, li6, li7, li8, li9, li10, li12, li16, li20, li24, li25, li31, li32, li40, li41, li42, li48, li57, li59, li97, li104, li105, li124, li126, li240, li241, nI_add, nI_subc, nI_subm, nI_mulc, nI_nm, pu_r, pu_t, pu_a, pu_le_t, pu_le_f, pu_lt_t, pu_lt_f, pu_eq_t, pu_eq_f, nm_eq, nm_eq2, nm_lt, nm_lt2, nm_le, nm_le2, nm_ss, nm_sp, pu_ss, pu_snq, pu_neq, eq_self, and_true, true_and, and_false, false_and, or_true, true_or, or_false, false_or, not_true_eq_false, not_false_eq_true, h4m, e1, h4, h3]
      · by_cases q : j = m
        · subst q
          rw [hnew]
          refine ⟨by omega, ?_⟩
          simp (disch := omega) only [Option.bind_some, if_true, if_false, Sum.elim_inl, Sum.elim_inr, li0, li1, li2, li3, li4, li5, li6, li7, li8, li9, li10, li12, li16, li20, li24, li25, li31, li32, li40, li41, li42, li48, li57, li59, li97, li104, li105, li124, li126, li240, li241, nI_add, nI_subc, nI_subm, nI_mulc, nI_nm, pu_r, pu_t, pu_a, pu_le_t, pu_le_f, pu_lt_t, pu_lt_f, pu_eq_t, pu_eq_f, nm_eq, nm_eq2, nm_lt, nm_lt2, nm_le, nm_le2, nm_ss, nm_sp, pu_ss, pu_snq, pu_neq, eq_self, and_true, true_and, and_false, false_and, or_true, true_or, or_false, false_or, not_true_eq_false, not_false_eq_true]
        · rw [hold j (by omega)]
          refine ⟨(h2 j (by omega)).1, ?_⟩
          simp (disch := omega) only [Option.bind_some, if_true, if_false, Sum.elim_inl, Sum.elim_inr, li0, li1, li2, li3, li4, li5, li6, li7, li8, li9, li10, li12, li16, li20, li24, li25, li31, li32, li40, li41, li42, li48, li57, li59, li97, li104, li105, li124, li126, li240, li241, nI_add, nI_subc, nI_subm, nI_mulc, nI_nm, pu_r, pu_t, pu_a, pu_le_t, pu_le_f, pu_lt_t, pu_lt_f, pu_eq_t, pu_eq_f, nm_eq, nm_eq2, nm_lt, nm_lt2, nm_le, nm_le2, nm_ss, nm_sp, pu_ss, pu_snq, pu_neq, eq_self, and_true, true_and, and_false, false_and, or_true, true_or, or_false, false_or, not_true_eq_false, not_false_eq_true, (h2 j (show j < m by omega)).2]
      · simp (disch := omega) only [Option.bind_some, if_true, if_false, Sum.elim_inl, Sum.elim_inr, li0, li1, li2, li3, li4, li5, li6, li7, li8, li9, li10, li12, li16, li20, li24, li25, li31, li32, li40, li41, li42, li48, li57, li59, li97, li104, li105, li124, li126, li240, li241, nI_add, nI_subc, nI_subm, nI_mulc, nI_nm, pu_r, pu_t, pu_a, pu_le_t, pu_le_f, pu_lt_t, pu_lt_f, pu_eq_t, pu_eq_f, nm_eq, nm_eq2, nm_lt, nm_lt2, nm_le, nm_le2, nm_ss, nm_sp, pu_ss, pu_snq, pu_neq, eq_self, and_true, true_and, and_false, false_and, or_true, true_or, or_false, false_or, not_true_eq_false, not_false_eq_true]
      · simp (disch := omega) only [Option.bind_some, if_true, if_false, Sum.elim_inl, Sum.elim_inr, li0, li1, li2, li3, li4, li5, li6, li7, li8, li9, li10, li12, li16, li20, li24, li25, li31, li32, li40, li41, li42, li48, li57, li59, li97, li104, li105, li124, li126, li240, li241, nI_add, nI_subc, nI_subm, nI_mulc, nI_nm, pu_r, pu_t, pu_a, pu_le_t, pu_le_f, pu_lt_t, pu_lt_f, pu_eq_t, pu_eq_f, nm_eq, nm_eq2, nm_lt, nm_lt2, nm_le, nm_le2, nm_ss, nm_sp, pu_ss, pu_snq, pu_neq, eq_self, and_true, true_and, and_false, false_and, or_true, true_or, or_false, false_or, not_true_eq_false, not_false_eq_true, show fW (gW W m 0) (m + 1) = fW W m - 1 by omega]
      · have h7 := gX_new (W := W) (X := X) (w := 0) (v := c + 2) hm hi
        show _ = nI (wn (gW W m 0) (gXx W X m 0 (c + 2)) (m + 1) i - 2)
        rw [← h7, show fW (gW W m 0) (m + 1) = fW W m - 1 by omega]
        match i, hi with
        | 0, _ =>
          simp (disch := omega) only [Option.bind_some, if_true, if_false, Sum.elim_inl, Sum.elim_inr, li0, li1, li2, li3, li4, li5, li6, li7, li8, li9, li10, li12, li16, li20, li24, li25, li31, li32, li40, li41, li42, li48, li57, li59, li97, li104, li105, li124, li126, li240, li241, nI_add, nI_subc, nI_subm, nI_mulc, nI_nm, pu_r, pu_t, pu_a, pu_le_t, pu_le_f, pu_lt_t, pu_lt_f, pu_eq_t, pu_eq_f, nm_eq, nm_eq2, nm_lt, nm_lt2, nm_le, nm_le2, nm_ss, nm_sp, pu_ss, pu_snq, pu_neq, eq_self, and_true, true_and, and_false, false_and, or_true, true_or, or_false, false_or, not_true_eq_false, not_false_eq_true, gro, cons, Nat.add_zero]
          try rfl
        | i + 1, hi =>
          have := h5 i (by omega)
          simp (disch := omega) only [Option.bind_some, if_true, if_false, Sum.elim_inl, Sum.elim_inr, li0, li1, li2, li3, li4, li5, li6, li7, li8, li9, li10, li12, li16, li20, li24, li25, li31, li32, li40, li41, li42, li48, li57, li59, li97, li104, li105, li124, li126, li240, li241, nI_add, nI_subc, nI_subm, nI_mulc, nI_nm, pu_r, pu_t, pu_a, pu_le_t, pu_le_f, pu_lt_t, pu_lt_f, pu_eq_t, pu_eq_f, nm_eq, nm_eq2, nm_lt, nm_lt2, nm_le, nm_le2, nm_ss, nm_sp, pu_ss, pu_snq, pu_neq, eq_self, and_true, true_and, and_false, false_and, or_true, true_or, or_false, false_or, not_true_eq_false, not_false_eq_true, show fW W m - 1 + (i + 1) = fW W m + i by omega, this, gro, cons]
          rfl
      · have hS : ∀ j Q, spn 21 22 23 T n j Q M1 → spn 21 22 23 T n j Q (me_s (me_s (me_s (me_s M1 19 3 (nI (fW W m - 1))) 25 (fW W m - 1) (nI c)) 24 m (nI 0)) 19 4 (nI (m + 1))) := fun j Q hs => hs.fr (S := fun b _ => b = 19 ∨ b = 24 ∨ b = 25) ((((fr.s (by omega)).st (by omega)).st (by omega)).st (by omega)) (by omega) (by omega) (by omega)
        by_cases q : j = m + 1
        · subst q
          exact spn_cong (hS _ _ g1) (fun i hi => gX_new hm hi)
        · exact spn_cong (hS _ _ (h6 j (by omega))) (fun i hi => (gX_old hm (by omega) hi).symm)
    · have e : w = 1 := by omega
      subst e
      have k2 := hg.2.2 (by decide)
      refine ⟨me_s (me_s (me_s M1 25 (fW W m + m) (nI c)) 24 m (nI 1)) 19 4 (nI (m + 1)), ?_, ((f1.up (fun b k h => by omega)).st (by omega)).st (by omega) |>.st (by omega), by omega, fun j hj => ?_, ?_, ?_, fun i hi => ?_, fun j hj => ?_⟩
      · simp only [mX0_push_19_J73]
        simp (disch := omega) only [Option.bind_some, if_true, if_false, Sum.elim_inl, Sum.elim_inr, li0, li1, li2, li3, li4, li5, li6, li7, li8, li9, li10, li12, li16, li20, li24, li25, li31, li32, li40, li41, li42, li48, li57, li59, li97, li104, li105, li124, li126, li240, li241, nI_add, nI_subc, nI_subm, nI_mulc, nI_nm, pu_r, pu_t, pu_a, pu_le_t, pu_le_f, pu_lt_t, pu_lt_f, pu_eq_t, pu_eq_f, nm_eq, nm_eq2, nm_lt, nm_lt2, nm_le, nm_le2, nm_ss, nm_sp, pu_ss, pu_snq, pu_neq, eq_self, and_true, true_and, and_false, false_and, or_true, true_or, or_false, false_or, not_true_eq_false, not_false_eq_true, h4m, e1, h4, h3]
      · by_cases q : j = m
        · subst q
          rw [hnew]
          refine ⟨by omega, ?_⟩
          simp (disch := omega) only [Option.bind_some, if_true, if_false, Sum.elim_inl, Sum.elim_inr, li0, li1, li2, li3, li4, li5, li6, li7, li8, li9, li10, li12, li16, li20, li24, li25, li31, li32, li40, li41, li42, li48, li57, li59, li97, li104, li105, li124, li126, li240, li241, nI_add, nI_subc, nI_subm, nI_mulc, nI_nm, pu_r, pu_t, pu_a, pu_le_t, pu_le_f, pu_lt_t, pu_lt_f, pu_eq_t, pu_eq_f, nm_eq, nm_eq2, nm_lt, nm_lt2, nm_le, nm_le2, nm_ss, nm_sp, pu_ss, pu_snq, pu_neq, eq_self, and_true, true_and, and_false, false_and, or_true, true_or, or_false, false_or, not_true_eq_false, not_false_eq_true]
        · rw [hold j (by omega)]
          refine ⟨(h2 j (by omega)).1, ?_⟩
          simp (disch := omega) only [Option.bind_some, if_true, if_false, Sum.elim_inl, Sum.elim_inr, li0, li1, li2, li3, li4, li5, li6, li7, li8, li9, li10, li12, li16, li20, li24, li25, li31, li32, li40, li41, li42, li48, li57, li59, li97, li104, li105, li124, li126, li240, li241, nI_add, nI_subc, nI_subm, nI_mulc, nI_nm, pu_r, pu_t, pu_a, pu_le_t, pu_le_f, pu_lt_t, pu_lt_f, pu_eq_t, pu_eq_f, nm_eq, nm_eq2, nm_lt, nm_lt2, nm_le, nm_le2, nm_ss, nm_sp, pu_ss, pu_snq, pu_neq, eq_self, and_true, true_and, and_false, false_and, or_true, true_or, or_false, false_or, not_true_eq_false, not_false_eq_true, (h2 j (show j < m by omega)).2]
      · simp (disch := omega) only [Option.bind_some, if_true, if_false, Sum.elim_inl, Sum.elim_inr, li0, li1, li2, li3, li4, li5, li6, li7, li8, li9, li10, li12, li16, li20, li24, li25, li31, li32, li40, li41, li42, li48, li57, li59, li97, li104, li105, li124, li126, li240, li241, nI_add, nI_subc, nI_subm, nI_mulc, nI_nm, pu_r, pu_t, pu_a, pu_le_t, pu_le_f, pu_lt_t, pu_lt_f, pu_eq_t, pu_eq_f, nm_eq, nm_eq2, nm_lt, nm_lt2, nm_le, nm_le2, nm_ss, nm_sp, pu_ss, pu_snq, pu_neq, eq_self, and_true, true_and, and_false, false_and, or_true, true_or, or_false, false_or, not_true_eq_false, not_false_eq_true]
      · simp (disch := omega) only [Option.bind_some, if_true, if_false, Sum.elim_inl, Sum.elim_inr, li0, li1, li2, li3, li4, li5, li6, li7, li8, li9, li10, li12, li16, li20, li24, li25, li31, li32, li40, li41, li42, li48, li57, li59, li97, li104, li105, li124, li126, li240, li241, nI_add, nI_subc, nI_subm, nI_mulc, nI_nm, pu_r, pu_t, pu_a, pu_le_t, pu_le_f, pu_lt_t, pu_lt_f, pu_eq_t, pu_eq_f, nm_eq, nm_eq2, nm_lt, nm_lt2, nm_le, nm_le2, nm_ss, nm_sp, pu_ss, pu_snq, pu_neq, eq_self, and_true, true_and, and_false, false_and, or_true, true_or, or_false, false_or, not_true_eq_false, not_false_eq_true, k2, h4]
      · have h7 := gX_new (W := W) (X := X) (w := 1) (v := c + 2) hm hi
        show _ = nI (wn (gW W m 1) (gXx W X m 1 (c + 2)) (m + 1) i - 2)
        rw [← h7, k2]
        unfold gro
        rw [if_neg (by decide)]
        unfold snoc
        by_cases q : i = m
        · subst q
          simp (disch := omega) only [Option.bind_some, if_true, if_false, Sum.elim_inl, Sum.elim_inr, li0, li1, li2, li3, li4, li5, li6, li7, li8, li9, li10, li12, li16, li20, li24, li25, li31, li32, li40, li41, li42, li48, li57, li59, li97, li104, li105, li124, li126, li240, li241, nI_add, nI_subc, nI_subm, nI_mulc, nI_nm, pu_r, pu_t, pu_a, pu_le_t, pu_le_f, pu_lt_t, pu_lt_f, pu_eq_t, pu_eq_f, nm_eq, nm_eq2, nm_lt, nm_lt2, nm_le, nm_le2, nm_ss, nm_sp, pu_ss, pu_snq, pu_neq, eq_self, and_true, true_and, and_false, false_and, or_true, true_or, or_false, false_or, not_true_eq_false, not_false_eq_true]
          try rfl
        · have := h5 i (by omega)
          rw [if_neg q]
          simp (disch := omega) only [Option.bind_some, if_true, if_false, Sum.elim_inl, Sum.elim_inr, li0, li1, li2, li3, li4, li5, li6, li7, li8, li9, li10, li12, li16, li20, li24, li25, li31, li32, li40, li41, li42, li48, li57, li59, li97, li104, li105, li124, li126, li240, li241, nI_add, nI_subc, nI_subm, nI_mulc, nI_nm, pu_r, pu_t, pu_a, pu_le_t, pu_le_f, pu_lt_t, pu_lt_f, pu_eq_t, pu_eq_f, nm_eq, nm_eq2, nm_lt, nm_lt2, nm_le, nm_le2, nm_ss, nm_sp, pu_ss, pu_snq, pu_neq, eq_self, and_true, true_and, and_false, false_and, or_true, true_or, or_false, false_or, not_true_eq_false, not_false_eq_true, this]
          try rfl
      · have hS : ∀ j Q, spn 21 22 23 T n j Q M1 → spn 21 22 23 T n j Q (me_s (me_s (me_s M1 25 (fW W m + m) (nI c)) 24 m (nI 1)) 19 4 (nI (m + 1))) := fun j Q hs => hs.fr (S := fun b _ => b = 19 ∨ b = 24 ∨ b = 25) (((fr.s (by omega)).st (by omega)).st (by omega)) (by omega) (by omega) (by omega)
        by_cases q : j = m + 1
        · subst q
          exact spn_cong (hS _ _ g1) (fun i hi => gX_new hm hi)
        · exact spn_cong (hS _ _ (h6 j (by omega))) (fun i hi => (gX_old hm (by omega) hi).symm)
