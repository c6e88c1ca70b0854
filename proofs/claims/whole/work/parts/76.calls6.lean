/-! ===== calls: grow, grows ===== -/
theorem fr.o {S : Nat → Nat → Prop} {M M1 : me_M} {k : Nat} {x : Int64} (h : fr S M M1) : fr S (me_o M k x) (me_o M1 k x) := ⟨by
  show (M1.2.1, vp_updL M1.2.2 k x) = (M.2.1, vp_updL M.2.2 k x)
  rw [h.1], h.2⟩
theorem rc_cong {m f : Nat} {Q Q' : Nat → Nat} {M : me_M} (h : rc m Q f M) (hq : ∀ i, i < m → Q i = Q' i) : rc m Q' f M := ⟨h.1, h.2.1, h.2.2.1, fun i hi => by rw [← hq i hi]; exact h.2.2.2 i hi⟩
theorem r_sizeBy {T : Nat → Nat} {n m w v : Nat} {W X : Nat → Nat} {M : me_M} (hT : tx9 T n) (hy : ry T n M) (h : rc m (wn W X m) (fW W m + 2) M) (hm : m < 40) (hw : w < 2) (hv1 : 2 ≤ v) (hv2 : v < 10) : ∃ M', mX12_sizeBy_63 M (nI v) (nI w) = some (nI (SZ T n (m + 1) (gro w m (wn W X m) v)), M') ∧ fr (fun b j => (b = 63 ∧ (j = 10 ∨ j = 11)) ∨ b = 75) M M' ∧ rc (m + 1) (wn (gW W m w) (gXx W X m w v) (m + 1)) (fW (gW W m w) (m + 1) + 2) M' := by
  obtain ⟨h1, h2, h3, h4⟩ := h
  obtain ⟨g0, g1, g2⟩ := gW_f (W := W) (w := w) hm
  have hb := fW_b W m (by omega)
  have hsz : ∀ M', fr (fun b j => (b = 63 ∧ (j = 10 ∨ j = 11)) ∨ b = 75) M M' → rc (m + 1) (wn (gW W m w) (gXx W X m w v) (m + 1)) (fW (gW W m w) (m + 1) + 2) M' → mX12_sizeOf_63 M' = some (nI (SZ T n (m + 1) (gro w m (wn W X m) v))) := fun M' hf hr => by
    rw [r_sizeOf hT (hy.fr hf (by omega) (fun b k _ _ => by omega)) hr]
    rw [sz_cong (fun k hk => (gX_new (W := W) (X := X) (w := w) (v := v) hm hk).symm)]
  unfold mX12_sizeBy_63 mX12_sizeBy_63_J47
  by_cases c : w = 0
  · subst c
    have e := g1 rfl
    have eg : gro 0 m (wn W X m) v = cons v (wn W X m) := if_pos rfl
    have hf : fr (fun b j => (b = 63 ∧ (j = 10 ∨ j = 11)) ∨ b = 75) M (me_s (me_s M 63 10 (nI (fW (gW W m 0) (m + 1) + 2))) 75 (fW (gW W m 0) (m + 1) + 2) (nI v)) := (fr.s (by omega)).st (by omega)
    have hr : rc (m + 1) (wn (gW W m 0) (gXx W X m 0 v) (m + 1)) (fW (gW W m 0) (m + 1) + 2) (me_s (me_s M 63 10 (nI (fW (gW W m 0) (m + 1) + 2))) 75 (fW (gW W m 0) (m + 1) + 2) (nI v)) := by
      refine ⟨by simp (disch := omega) only [Option.bind_some, if_true, if_false, Sum.elim_inl, Sum.elim_inr, li0, li1, li2, li3, li4, li5, li6, li7, li8, li9, li10, li12, li16, li20, li24, li25, li31, li32, li40, li41, li42, li48, li57, li59, li97, li104, li105, li124, li126, li240, li241, nI_add, nI_subc, nI_subm, nI_mulc, nI_nm, pu_r, pu_t, pu_a, pu_le_t, pu_le_f, pu_lt_t, pu_lt_f, pu_eq_t, pu_eq_f, nm_eq, nm_eq2, nm_lt, nm_lt2, nm_le, nm_le2, nm_ss, nm_sp, pu_ss, pu_snq, pu_neq, eq_self, and_true, true_and, and_false, false_and, or_true, true_or, or_false, false_or, not_true_eq_false, not_false_eq_true], by simp (disch := omega) only [Option.bind_some, if_true, if_false, Sum.elim_inl, Sum.elim_inr, li0, li1, li2, li3, li4, li5, li6, li7, li8, li9, li10, li12, li16, li20, li24, li25, li31, li32, li40, li41, li42, li48, li57, li59, li97, li104, li105, li124, li126, li240, li241, nI_add, nI_subc, nI_subm, nI_mulc, nI_nm, pu_r, pu_t, pu_a, pu_le_t, pu_le_f, pu_lt_t, pu_lt_f, pu_eq_t, pu_eq_f, nm_eq, nm_eq2, nm_lt, nm_lt2, nm_le, nm_le2, nm_ss, nm_sp, pu_ss, pu_snq, pu_neq, eq_self, and_true, true_and, and_false, false_and, or_true, true_or, or_false, false_or, not_true_eq_false, not_false_eq_true, h2, show fW W m + 2 + m = fW (gW W m 0) (m + 1) + 2 + (m + 1) by omega], by omega, fun i hi => ?_⟩
      rw [← gX_new hm hi, eg]
      match i, hi with
      | 0, _ => exact ⟨pu_ss, hv1, hv2⟩
      | k + 1, hi =>
        obtain ⟨q1, q2, q3⟩ := h4 k (by omega)
        refine ⟨?_, q2, q3⟩
        rw [pu_sn (by omega), me_s_ne (by decide), show fW (gW W m 0) (m + 1) + 2 + (k + 1) = fW W m + 2 + k by omega]
        exact q1
    refine ⟨_, ?_, hf, hr⟩
    simp (disch := omega) only [Option.bind_some, if_true, if_false, Sum.elim_inl, Sum.elim_inr, li0, li1, li2, li3, li4, li5, li6, li7, li8, li9, li10, li12, li16, li20, li24, li25, li31, li32, li40, li41, li42, li48, li57, li59, li97, li104, li105, li124, li126, li240, li241, nI_add, nI_subc, nI_subm, nI_mulc, nI_nm, pu_r, pu_t, pu_a, pu_le_t, pu_le_f, pu_lt_t, pu_lt_f, pu_eq_t, pu_eq_f, nm_eq, nm_eq2, nm_lt, nm_lt2, nm_le, nm_le2, nm_ss, nm_sp, pu_ss, pu_snq, pu_neq, eq_self, and_true, true_and, and_false, false_and, or_true, true_or, or_false, false_or, not_true_eq_false, not_false_eq_true, h1, show fW W m + 2 - 1 = fW (gW W m 0) (m + 1) + 2 by omega, hsz _ hf hr]
  · have e := g2 c
    have eg : gro w m (wn W X m) v = snoc m (wn W X m) v := if_neg c
    have hf : fr (fun b j => (b = 63 ∧ (j = 10 ∨ j = 11)) ∨ b = 75) M (me_s (me_s M 75 (fW W m + 2 + m) (nI v)) 63 11 (nI (fW W m + 2 + m + 1))) := (fr.s (by omega)).st (by omega)
    have hr : rc (m + 1) (wn (gW W m w) (gXx W X m w v) (m + 1)) (fW (gW W m w) (m + 1) + 2) (me_s (me_s M 75 (fW W m + 2 + m) (nI v)) 63 11 (nI (fW W m + 2 + m + 1))) := by
      refine ⟨by simp (disch := omega) only [Option.bind_some, if_true, if_false, Sum.elim_inl, Sum.elim_inr, li0, li1, li2, li3, li4, li5, li6, li7, li8, li9, li10, li12, li16, li20, li24, li25, li31, li32, li40, li41, li42, li48, li57, li59, li97, li104, li105, li124, li126, li240, li241, nI_add, nI_subc, nI_subm, nI_mulc, nI_nm, pu_r, pu_t, pu_a, pu_le_t, pu_le_f, pu_lt_t, pu_lt_f, pu_eq_t, pu_eq_f, nm_eq, nm_eq2, nm_lt, nm_lt2, nm_le, nm_le2, nm_ss, nm_sp, pu_ss, pu_snq, pu_neq, eq_self, and_true, true_and, and_false, false_and, or_true, true_or, or_false, false_or, not_true_eq_false, not_false_eq_true, h1, e], by simp (disch := omega) only [Option.bind_some, if_true, if_false, Sum.elim_inl, Sum.elim_inr, li0, li1, li2, li3, li4, li5, li6, li7, li8, li9, li10, li12, li16, li20, li24, li25, li31, li32, li40, li41, li42, li48, li57, li59, li97, li104, li105, li124, li126, li240, li241, nI_add, nI_subc, nI_subm, nI_mulc, nI_nm, pu_r, pu_t, pu_a, pu_le_t, pu_le_f, pu_lt_t, pu_lt_f, pu_eq_t, pu_eq_f, nm_eq, nm_eq2, nm_lt, nm_lt2, nm_le, nm_le2, nm_ss, nm_sp, pu_ss, pu_snq, pu_neq, eq_self, and_true, true_and, and_false, false_and, or_true, true_or, or_false, false_or, not_true_eq_false, not_false_eq_true, e, show fW W m + 2 + (m + 1) = fW W m + 2 + m + 1 by omega], by omega, fun i hi => ?_⟩
      rw [← gX_new hm hi, eg, e, me_s_ne (by decide)]
      unfold snoc
      by_cases d : i = m
      · rw [if_pos d, d, pu_ss]; exact ⟨rfl, hv1, hv2⟩
      · rw [if_neg d, pu_sn (by omega)]; exact h4 i (by omega)
    refine ⟨_, ?_, hf, hr⟩
    simp (disch := omega) only [Option.bind_some, if_true, if_false, Sum.elim_inl, Sum.elim_inr, li0, li1, li2, li3, li4, li5, li6, li7, li8, li9, li10, li12, li16, li20, li24, li25, li31, li32, li40, li41, li42, li48, li57, li59, li97, li104, li105, li124, li126, li240, li241, nI_add, nI_subc, nI_subm, nI_mulc, nI_nm, pu_r, pu_t, pu_a, pu_le_t, pu_le_f, pu_lt_t, pu_lt_f, pu_eq_t, pu_eq_f, nm_eq, nm_eq2, nm_lt, nm_lt2, nm_le, nm_le2, nm_ss, nm_sp, pu_ss, pu_snq, pu_neq, eq_self, and_true, true_and, and_false, false_and, or_true, true_or, or_false, false_or, not_true_eq_false, not_false_eq_true, h2, hsz _ hf hr]
theorem r_takes2 {k : Nat} {W X : Nat → Nat} {M : me_M} (h : rc (k + 1) (wn W X (k + 1)) (fW W (k + 1) + 2) M) (hk : k < 40) (hw2 : W k < 2) : ∃ M', mX12_takesOff_63 M (nI (W k)) = some M' ∧ fr (fun b j => b = 63 ∧ (j = 10 ∨ j = 11)) M M' ∧ rc k (wn W X k) (fW W k + 2) M' := by
  obtain ⟨h1, h2, h3, h4⟩ := h
  have hw := fW_s W k hk
  have hb := fW_b W (k + 1) (by omega)
  have key : ∀ M', M'.1 63 10 = nI (fW W k + 2) → M'.1 63 11 = nI (fW W k + 2 + k) → fr (fun b j => b = 63 ∧ (j = 10 ∨ j = 11)) M M' → fW W k ≤ 40 → rc k (wn W X k) (fW W k + 2) M' := fun M' e1 e2 hf h40 => ⟨e1, e2, by omega, fun i hi => by
    obtain ⟨i', g1, g2, g3⟩ := wn_in (W := W) (X := X) hk hi
    rw [hf.2 _ _ (by omega), g3, show fW W k + 2 + i = fW W (k + 1) + 2 + i' by omega]
    exact h4 i' g1⟩
  unfold mX12_takesOff_63
  by_cases c : W k = 0
  · have hw := hw.1 c
    refine ⟨me_s M 63 10 (nI (fW W k + 2)), ?_, fr.s (by omega), key _ ?_ ?_ (fr.s (by omega)) (by have := fW_b W k (by omega); omega)⟩
    · simp (disch := omega) only [Option.bind_some, if_true, if_false, Sum.elim_inl, Sum.elim_inr, li0, li1, li2, li3, li4, li5, li6, li7, li8, li9, li10, li12, li16, li20, li24, li25, li31, li32, li40, li41, li42, li48, li57, li59, li97, li104, li105, li124, li126, li240, li241, nI_add, nI_subc, nI_subm, nI_mulc, nI_nm, pu_r, pu_t, pu_a, pu_le_t, pu_le_f, pu_lt_t, pu_lt_f, pu_eq_t, pu_eq_f, nm_eq, nm_eq2, nm_lt, nm_lt2, nm_le, nm_le2, nm_ss, nm_sp, pu_ss, pu_snq, pu_neq, eq_self, and_true, true_and, and_false, false_and, or_true, true_or, or_false, false_or, not_true_eq_false, not_false_eq_true, c, h1, show fW W (k + 1) + 2 + 1 = fW W k + 2 by omega]
    · simp (disch := omega) only [Option.bind_some, if_true, if_false, Sum.elim_inl, Sum.elim_inr, li0, li1, li2, li3, li4, li5, li6, li7, li8, li9, li10, li12, li16, li20, li24, li25, li31, li32, li40, li41, li42, li48, li57, li59, li97, li104, li105, li124, li126, li240, li241, nI_add, nI_subc, nI_subm, nI_mulc, nI_nm, pu_r, pu_t, pu_a, pu_le_t, pu_le_f, pu_lt_t, pu_lt_f, pu_eq_t, pu_eq_f, nm_eq, nm_eq2, nm_lt, nm_lt2, nm_le, nm_le2, nm_ss, nm_sp, pu_ss, pu_snq, pu_neq, eq_self, and_true, true_and, and_false, false_and, or_true, true_or, or_false, false_or, not_true_eq_false, not_false_eq_true]
    · simp (disch := omega) only [Option.bind_some, if_true, if_false, Sum.elim_inl, Sum.elim_inr, li0, li1, li2, li3, li4, li5, li6, li7, li8, li9, li10, li12, li16, li20, li24, li25, li31, li32, li40, li41, li42, li48, li57, li59, li97, li104, li105, li124, li126, li240, li241, nI_add, nI_subc, nI_subm, nI_mulc, nI_nm, pu_r, pu_t, pu_a, pu_le_t, pu_le_f, pu_lt_t, pu_lt_f, pu_eq_t, pu_eq_f, nm_eq, nm_eq2, nm_lt, nm_lt2, nm_le, nm_le2, nm_ss, nm_sp, pu_ss, pu_snq, pu_neq, eq_self, and_true, true_and, and_false, false_and, or_true, true_or, or_false, false_or, not_true_eq_false, not_false_eq_true, h2, show fW W (k + 1) + 2 + (k + 1) = fW W k + 2 + k by omega]
  · have hw := hw.2 c
    refine ⟨me_s M 63 11 (nI (fW W k + 2 + k)), ?_, fr.s (by omega), key _ ?_ ?_ (fr.s (by omega)) (by have := fW_b W k (by omega); omega)⟩
    · simp (disch := omega) only [Option.bind_some, if_true, if_false, Sum.elim_inl, Sum.elim_inr, li0, li1, li2, li3, li4, li5, li6, li7, li8, li9, li10, li12, li16, li20, li24, li25, li31, li32, li40, li41, li42, li48, li57, li59, li97, li104, li105, li124, li126, li240, li241, nI_add, nI_subc, nI_subm, nI_mulc, nI_nm, pu_r, pu_t, pu_a, pu_le_t, pu_le_f, pu_lt_t, pu_lt_f, pu_eq_t, pu_eq_f, nm_eq, nm_eq2, nm_lt, nm_lt2, nm_le, nm_le2, nm_ss, nm_sp, pu_ss, pu_snq, pu_neq, eq_self, and_true, true_and, and_false, false_and, or_true, true_or, or_false, false_or, not_true_eq_false, not_false_eq_true, h2, show fW W (k + 1) + 2 + (k + 1) - 1 = fW W k + 2 + k by omega]
    · simp (disch := omega) only [Option.bind_some, if_true, if_false, Sum.elim_inl, Sum.elim_inr, li0, li1, li2, li3, li4, li5, li6, li7, li8, li9, li10, li12, li16, li20, li24, li25, li31, li32, li40, li41, li42, li48, li57, li59, li97, li104, li105, li124, li126, li240, li241, nI_add, nI_subc, nI_subm, nI_mulc, nI_nm, pu_r, pu_t, pu_a, pu_le_t, pu_le_f, pu_lt_t, pu_lt_f, pu_eq_t, pu_eq_f, nm_eq, nm_eq2, nm_lt, nm_lt2, nm_le, nm_le2, nm_ss, nm_sp, pu_ss, pu_snq, pu_neq, eq_self, and_true, true_and, and_false, false_and, or_true, true_or, or_false, false_or, not_true_eq_false, not_false_eq_true, h1, hw]
    · simp (disch := omega) only [Option.bind_some, if_true, if_false, Sum.elim_inl, Sum.elim_inr, li0, li1, li2, li3, li4, li5, li6, li7, li8, li9, li10, li12, li16, li20, li24, li25, li31, li32, li40, li41, li42, li48, li57, li59, li97, li104, li105, li124, li126, li240, li241, nI_add, nI_subc, nI_subm, nI_mulc, nI_nm, pu_r, pu_t, pu_a, pu_le_t, pu_le_f, pu_lt_t, pu_lt_f, pu_eq_t, pu_eq_f, nm_eq, nm_eq2, nm_lt, nm_lt2, nm_le, nm_le2, nm_ss, nm_sp, pu_ss, pu_snq, pu_neq, eq_self, and_true, true_and, and_false, false_and, or_true, true_or, or_false, false_or, not_true_eq_false, not_false_eq_true]
/-- grown and taken off again -/
theorem r_back {m w v : Nat} {W X : Nat → Nat} {M : me_M} (h : rc (m + 1) (wn (gW W m w) (gXx W X m w v) (m + 1)) (fW (gW W m w) (m + 1) + 2) M) (hm : m < 40) (hw : w < 2) : ∃ M', mX12_takesOff_63 M (nI w) = some M' ∧ fr (fun b j => b = 63 ∧ (j = 10 ∨ j = 11)) M M' ∧ rc m (wn W X m) (fW W m + 2) M' := by
  have e : gW W m w m = w := upN_s W m w
  obtain ⟨M', e1, f1, g1⟩ := r_takes2 h hm (by rw [e]; exact hw)
  rw [e] at e1
  rw [(gW_f (W := W) (w := w) hm).1 m (Nat.le_refl _)] at g1
  exact ⟨M', e1, f1, rc_cong g1 (fun i hi => gX_old hm (Nat.le_refl _) hi)⟩
theorem qr_grow {T : Nat → Nat} {n m : Nat} {W X : Nat → Nat} {t : Nat} {F : Nat → Nat} {S P : Nat} {D : Nat → Nat → Nat → Nat} {M : me_M} (h : Inv M) (ha : vA T n m W X t F S P D M) (a0 a1 : Int32) (hb0 : iB a0 (nI 97) (nI 104) = true) (hb1 : iB a1 (nI 0) (nI 1) = true) : aQ (hL_grow M a0 a1) (fun M1 => mX12_grow_63 M1 a0 a1) := by
  have hT := ha.1.1
  have hm4 := ha.2.1.1.2.2.1
  have hm40 := ha.2.1.1.1
  obtain ⟨c', hc1, hc2, rfl⟩ := iB_n hb0 (by omega) (by omega)
  obtain ⟨c, rfl⟩ : ∃ c, c' = 97 + c := ⟨c' - 97, by omega⟩
  obtain ⟨w, -, hw, rfl⟩ := iB_n hb1 (by omega) (by omega)
  by_cases hm : m < 40
  · obtain ⟨M1, e1, f1, g1⟩ := c_push hT ha.1.2.1 ha.2.1.1 (fun i hi => (ha.2.1.2.1.2.2.2 i hi).2.1) hm (show c < 8 by omega) (show w < 2 by omega)
    have hle : SZ T n (m + 1) (gro w m (wn W X m) (c + 2)) ≤ n + 1 := ct_le _ _
    have hn := hT.2.2.2
    generalize hx : (nI (SZ T n (m + 1) (gro w m (wn W X m) (c + 2)))).toInt64 = x
    have hab : vA T n m W X t F S P D (me_o M 0 x) := ha
    have hIb : Inv (me_o M 0 x) := h.o
    have f1b : fr (fun b j => 19 ≤ b ∧ b ≤ 25) (me_o M 0 x) (me_o M1 0 x) := f1.o
    have hzf : fr (fun b j => (19 ≤ b ∧ b ≤ 25) ∨ (b = 63 ∧ j = 0)) (me_o M 0 x) (me_s (me_o M1 0 x) 63 0 (nI 0)) := (f1b.up (fun b k h => by omega)).st (by omega)
    have hrc : rc m (wn W X m) (fW W m + 2) (me_s (me_o M1 0 x) 63 0 (nI 0)) := hab.2.1.2.1.fr hzf (by omega) (by omega) (fun k => by omega)
    have hl1 := r_letters hrc
    obtain ⟨M2, e2, f2, g2⟩ := r_sizeBy hT (hab.1.2.2.1.fr hzf (by omega) (fun b k _ _ => by omega)) hrc hm (show w < 2 by omega) (show 2 ≤ c + 2 by omega) (by omega)
    have e0 : (me_s (me_o M1 0 x) 63 0 (nI 0)).1 63 0 = nI 0 := pu_ss
    have hl2 := r_letters g2
    have hsz : SZ T n (m + 1) (gro w m (wn W X m) (c + 2)) < 2 ^ 31 := by omega
    by_cases cz : SZ T n (m + 1) (gro w m (wn W X m) (c + 2)) = 0
    · rw [if_pos cz] at g1
      obtain ⟨M3, e3, f3, g3⟩ := r_back g2 hm (show w < 2 by omega)
      refine aQ.c (M1 := M1) (v := nI (SZ T n (m + 1) (gro w m (wn W X m) (c + 2)))) (M2 := M3) (G := fun M0 => nX12_grow M0 (nI (97 + c)) (nI w)) (fun M1 => zX12_grow M1 _ _) ?_ ?_ ?_ ?_ ?_
      · simp (disch := omega) only [↓reduceIte, ↓needEb, ↓needAb, ↓needSb, ↓needE0l, ↓needE1l, ↓needA0l, ↓needA1l, ↓needS0l, ↓needS1l, ↓bnd c_isWhat, ↓bnd c_isSide, ↓bnd c_isLetter, ↓bnd c_isLength, ↓bnd c_isOften, ↓bnd r_in, ↓bnd r_isLetter, bI_t, bI_f, Bool.false_eq_true, Option.bind_none, Option.none_or, Option.some_or, xAN, xNA, xSA, Option.bind_some, if_true, if_false, Sum.elim_inl, Sum.elim_inr, li0, li1, li2, li3, li4, li5, li6, li7, li8, li9, li10, li12, li16, li20, li24, li25, li31, li32, li40, li41, li42, li48, li57, li59, li97, li104, li105, li124, li126, li240, li241, nI_add, nI_subc, nI_subm, nI_mulc, nI_nm, pu_r, pu_t, pu_a, pu_le_t, pu_le_f, pu_lt_t, pu_lt_f, pu_eq_t, pu_eq_f, nm_eq, nm_eq2, nm_lt, nm_lt2, nm_le, nm_le2, nm_ss, nm_sp, pu_ss, pu_snq, pu_neq, eq_self, and_true, true_and, and_false, false_and, or_true, true_or, or_false, false_or, not_true_eq_false, not_false_eq_true, hL_grow, mX11_grow_0, mX11_grow_0_J20, mX11_grow_0_J21, mX11_grow_0_J42, hb0, hb1, hm4, show 97 + c - 97 = c by omega, e1]
      · rw [hx]
        simp (disch := omega) only [↓reduceIte, ↓needEb, ↓needAb, ↓needSb, ↓needE0l, ↓needE1l, ↓needA0l, ↓needA1l, ↓needS0l, ↓needS1l, ↓bnd c_isWhat, ↓bnd c_isSide, ↓bnd c_isLetter, ↓bnd c_isLength, ↓bnd c_isOften, ↓bnd r_in, ↓bnd r_isLetter, bI_t, bI_f, Bool.false_eq_true, Option.bind_none, Option.none_or, Option.some_or, xAN, xNA, xSA, Option.bind_some, if_true, if_false, Sum.elim_inl, Sum.elim_inr, li0, li1, li2, li3, li4, li5, li6, li7, li8, li9, li10, li12, li16, li20, li24, li25, li31, li32, li40, li41, li42, li48, li57, li59, li97, li104, li105, li124, li126, li240, li241, nI_add, nI_subc, nI_subm, nI_mulc, nI_nm, pu_r, pu_t, pu_a, pu_le_t, pu_le_f, pu_lt_t, pu_lt_f, pu_eq_t, pu_eq_f, nm_eq, nm_eq2, nm_lt, nm_lt2, nm_le, nm_le2, nm_ss, nm_sp, pu_ss, pu_snq, pu_neq, eq_self, and_true, true_and, and_false, false_and, or_true, true_or, or_false, false_or, not_true_eq_false, not_false_eq_true, nX12_grow, mX12_grow_63_J22, mX12_grow_63_J27, mX12_grow_63_J50, hb0, hb1, ↓bnd (r_bad0l e0), hl1, show 97 + c - 97 + 2 = c + 2 by omega, e2, e3]
      · rw [f3.2 _ _ (by omega), f2.2 _ _ (by omega)]; exact e0
      · rw [hx, f3.1, f2.1]; rfl
      · refine inv_cur hIb hab ((hzf.up (fun b k h => by omega)).tr ((f2.up (fun b k h => by omega)).tr (f3.up (fun b k h => by omega)))) ⟨cu.fr (M := me_o M1 0 x) (S := fun b k => b = 63 ∨ b = 75) g1 ((fr.s (by omega)).tr ((f2.up (fun b k h => by omega)).tr (f3.up (fun b k h => by omega)))) (fun b k _ _ => by omega), g3, fun j hj => ?_⟩
        rw [f3.2 _ _ (by omega), f2.2 _ _ (by omega), hzf.2 _ _ (by omega)]
        exact hab.2.1.2.2 j hj
    · rw [if_neg cz] at g1
      refine aQ.c (M1 := M1) (v := nI (SZ T n (m + 1) (gro w m (wn W X m) (c + 2)))) (M2 := me_s M2 76 m (nI w)) (G := fun M0 => nX12_grow M0 (nI (97 + c)) (nI w)) (fun M1 => zX12_grow M1 _ _) ?_ ?_ ?_ ?_ ?_
      · simp (disch := omega) only [↓reduceIte, ↓needEb, ↓needAb, ↓needSb, ↓needE0l, ↓needE1l, ↓needA0l, ↓needA1l, ↓needS0l, ↓needS1l, ↓bnd c_isWhat, ↓bnd c_isSide, ↓bnd c_isLetter, ↓bnd c_isLength, ↓bnd c_isOften, ↓bnd r_in, ↓bnd r_isLetter, bI_t, bI_f, Bool.false_eq_true, Option.bind_none, Option.none_or, Option.some_or, xAN, xNA, xSA, Option.bind_some, if_true, if_false, Sum.elim_inl, Sum.elim_inr, li0, li1, li2, li3, li4, li5, li6, li7, li8, li9, li10, li12, li16, li20, li24, li25, li31, li32, li40, li41, li42, li48, li57, li59, li97, li104, li105, li124, li126, li240, li241, nI_add, nI_subc, nI_subm, nI_mulc, nI_nm, pu_r, pu_t, pu_a, pu_le_t, pu_le_f, pu_lt_t, pu_lt_f, pu_eq_t, pu_eq_f, nm_eq, nm_eq2, nm_lt, nm_lt2, nm_le, nm_le2, nm_ss, nm_sp, pu_ss, pu_snq, pu_neq, eq_self, and_true, true_and, and_false, false_and, or_true, true_or, or_false, false_or, not_true_eq_false, not_false_eq_true, hL_grow, mX11_grow_0, mX11_grow_0_J20, mX11_grow_0_J21, mX11_grow_0_J42, hb0, hb1, hm4, show 97 + c - 97 = c by omega, e1]
      · rw [hx]
        simp (disch := omega) only [↓reduceIte, ↓needEb, ↓needAb, ↓needSb, ↓needE0l, ↓needE1l, ↓needA0l, ↓needA1l, ↓needS0l, ↓needS1l, ↓bnd c_isWhat, ↓bnd c_isSide, ↓bnd c_isLetter, ↓bnd c_isLength, ↓bnd c_isOften, ↓bnd r_in, ↓bnd r_isLetter, bI_t, bI_f, Bool.false_eq_true, Option.bind_none, Option.none_or, Option.some_or, xAN, xNA, xSA, Option.bind_some, if_true, if_false, Sum.elim_inl, Sum.elim_inr, li0, li1, li2, li3, li4, li5, li6, li7, li8, li9, li10, li12, li16, li20, li24, li25, li31, li32, li40, li41, li42, li48, li57, li59, li97, li104, li105, li124, li126, li240, li241, nI_add, nI_subc, nI_subm, nI_mulc, nI_nm, pu_r, pu_t, pu_a, pu_le_t, pu_le_f, pu_lt_t, pu_lt_f, pu_eq_t, pu_eq_f, nm_eq, nm_eq2, nm_lt, nm_lt2, nm_le, nm_le2, nm_ss, nm_sp, pu_ss, pu_snq, pu_neq, eq_self, and_true, true_and, and_false, false_and, or_true, true_or, or_false, false_or, not_true_eq_false, not_false_eq_true, nX12_grow, mX12_grow_63_J22, mX12_grow_63_J27, mX12_grow_63_J50, hb0, hb1, ↓bnd (r_bad0l e0), hl1, show 97 + c - 97 + 2 = c + 2 by omega, e2, hl2, Nat.add_sub_cancel]
      · rw [me_s_ne (by decide), f2.2 _ _ (by omega)]; exact e0
      · rw [hx]
        show M2.2 = _
        rw [f2.1]; rfl
      · have f3 : fr (fun b k => b = 76) M2 (me_s M2 76 m (nI w)) := fr.s (by omega)
        refine inv_cur hIb hab ((hzf.up (fun b k h => by omega)).tr ((f2.up (fun b k h => by omega)).tr (f3.up (fun b k h => by omega)))) ⟨cu.fr (M := me_o M1 0 x) (S := fun b k => b = 63 ∨ b = 75 ∨ b = 76) g1 ((fr.s (by omega)).tr ((f2.up (fun b k h => by omega)).tr (f3.up (fun b k h => by omega)))) (fun b k _ _ => by omega), g2.fr f3 (by omega) (by omega) (fun k => by omega), fun j hj => ?_⟩
        by_cases d : j = m
        · rw [d, pu_ss]; show _ = nI (upN W m w m); rw [upN_s]
        · rw [pu_sn d, f2.2 _ _ (by omega), hzf.2 _ _ (by omega)]
          show _ = nI (upN W m w j)
          rw [upN_n d]
          exact hab.2.1.2.2 j (by omega)
  · have hm : m = 40 := by omega
    refine aQ.t 2 2 (G := fun M0 => nX12_grow M0 (nI (97 + c)) (nI w)) (fun M1 => zX12_grow M1 _ _) h ha (by omega) (by omega) (by omega) ?_ (fun M0 h0 hz hf => ?_)
    · simp (disch := omega) only [↓reduceIte, ↓needEb, ↓needAb, ↓needSb, ↓needE0l, ↓needE1l, ↓needA0l, ↓needA1l, ↓needS0l, ↓needS1l, ↓bnd c_isWhat, ↓bnd c_isSide, ↓bnd c_isLetter, ↓bnd c_isLength, ↓bnd c_isOften, ↓bnd r_in, ↓bnd r_isLetter, bI_t, bI_f, Bool.false_eq_true, Option.bind_none, Option.none_or, Option.some_or, xAN, xNA, xSA, Option.bind_some, if_true, if_false, Sum.elim_inl, Sum.elim_inr, li0, li1, li2, li3, li4, li5, li6, li7, li8, li9, li10, li12, li16, li20, li24, li25, li31, li32, li40, li41, li42, li48, li57, li59, li97, li104, li105, li124, li126, li240, li241, nI_add, nI_subc, nI_subm, nI_mulc, nI_nm, pu_r, pu_t, pu_a, pu_le_t, pu_le_f, pu_lt_t, pu_lt_f, pu_eq_t, pu_eq_f, nm_eq, nm_eq2, nm_lt, nm_lt2, nm_le, nm_le2, nm_ss, nm_sp, pu_ss, pu_snq, pu_neq, eq_self, and_true, true_and, and_false, false_and, or_true, true_or, or_false, false_or, not_true_eq_false, not_false_eq_true, hL_grow, mX11_grow_0, mX11_grow_0_J20, mX11_grow_0_J21, mX11_grow_0_J42, tX11_grow_0, tX11_grow_0_J20, tX11_grow_0_J21, tX11_grow_0_J42, hb0, hb1, hm4]
    · simp (disch := omega) only [↓reduceIte, ↓needEb, ↓needAb, ↓needSb, ↓needE0l, ↓needE1l, ↓needA0l, ↓needA1l, ↓needS0l, ↓needS1l, ↓bnd c_isWhat, ↓bnd c_isSide, ↓bnd c_isLetter, ↓bnd c_isLength, ↓bnd c_isOften, ↓bnd r_in, ↓bnd r_isLetter, bI_t, bI_f, Bool.false_eq_true, Option.bind_none, Option.none_or, Option.some_or, xAN, xNA, xSA, Option.bind_some, if_true, if_false, Sum.elim_inl, Sum.elim_inr, li0, li1, li2, li3, li4, li5, li6, li7, li8, li9, li10, li12, li16, li20, li24, li25, li31, li32, li40, li41, li42, li48, li57, li59, li97, li104, li105, li124, li126, li240, li241, nI_add, nI_subc, nI_subm, nI_mulc, nI_nm, pu_r, pu_t, pu_a, pu_le_t, pu_le_f, pu_lt_t, pu_lt_f, pu_eq_t, pu_eq_f, nm_eq, nm_eq2, nm_lt, nm_lt2, nm_le, nm_le2, nm_ss, nm_sp, pu_ss, pu_snq, pu_neq, eq_self, and_true, true_and, and_false, false_and, or_true, true_or, or_false, false_or, not_true_eq_false, not_false_eq_true, nX12_grow, mX12_grow_63_J22, mX12_grow_63_J27, mX12_grow_63_J50, hb0, hb1, ↓bnd (r_bad0l hz), r_letters h0.2.1.2.1, ↓bnd (r_bad22 hz)]
theorem q_grow {M : me_M} (h : Inv M) (a0 : Int32) (a1 : Int32) : aQ (hL_grow M a0 a1) (fun M1 => mX12_grow_63 M1 a0 a1) := by
  obtain ⟨T, n, m, W, X, t, F, S, P, D, ha⟩ := h.vA
  have hT := ha.1.1
  have hx := ha.1.2.1
  have c1 := hx.1.1.1
  have hn := hT.2.2.2
  have h9 := hT.2.1
  have hp1 := ha.2.2.1.2.1
  have ht := ha.2.2.1.1
  have hm4 := ha.2.1.1.2.2.1
  have hm40 := ha.2.1.1.1
  cases hb0 : iB a0 (nI 97) (nI 104) with
  | false =>
    refine aQ.t 1 1 (G := fun M0 => nX12_grow M0 a0 a1) (fun M1 => zX12_grow M1 a0 a1) h ha (by omega) (by omega) (by omega) ?_ (fun M0 h0 hz hf => ?_)
    · simp (disch := omega) only [↓reduceIte, ↓needEb, ↓needAb, ↓needSb, ↓needE0l, ↓needE1l, ↓needA0l, ↓needA1l, ↓needS0l, ↓needS1l, ↓bnd c_isWhat, ↓bnd c_isSide, ↓bnd c_isLetter, ↓bnd c_isLength, ↓bnd c_isOften, ↓bnd r_in, ↓bnd r_isLetter, bI_t, bI_f, Bool.false_eq_true, Option.bind_none, Option.none_or, Option.some_or, xAN, xNA, xSA, Option.bind_some, if_true, if_false, Sum.elim_inl, Sum.elim_inr, li0, li1, li2, li3, li4, li5, li6, li7, li8, li9, li10, li12, li16, li20, li24, li25, li31, li32, li40, li41, li42, li48, li57, li59, li97, li104, li105, li124, li126, li240, li241, nI_add, nI_subc, nI_subm, nI_mulc, nI_nm, pu_r, pu_t, pu_a, pu_le_t, pu_le_f, pu_lt_t, pu_lt_f, pu_eq_t, pu_eq_f, nm_eq, nm_eq2, nm_lt, nm_lt2, nm_le, nm_le2, nm_ss, nm_sp, pu_ss, pu_snq, pu_neq, eq_self, and_true, true_and, and_false, false_and, or_true, true_or, or_false, false_or, not_true_eq_false, not_false_eq_true, mX11_grow_0_J42, mX11_grow_0_J21, mX11_grow_0_J20, mX11_grow_0, tX11_grow_0_J42, tX11_grow_0_J21, tX11_grow_0_J20, tX11_grow_0, hL_grow, hb0]
    · simp (disch := omega) only [↓reduceIte, ↓needEb, ↓needAb, ↓needSb, ↓needE0l, ↓needE1l, ↓needA0l, ↓needA1l, ↓needS0l, ↓needS1l, ↓bnd c_isWhat, ↓bnd c_isSide, ↓bnd c_isLetter, ↓bnd c_isLength, ↓bnd c_isOften, ↓bnd r_in, ↓bnd r_isLetter, bI_t, bI_f, Bool.false_eq_true, Option.bind_none, Option.none_or, Option.some_or, xAN, xNA, xSA, Option.bind_some, if_true, if_false, Sum.elim_inl, Sum.elim_inr, li0, li1, li2, li3, li4, li5, li6, li7, li8, li9, li10, li12, li16, li20, li24, li25, li31, li32, li40, li41, li42, li48, li57, li59, li97, li104, li105, li124, li126, li240, li241, nI_add, nI_subc, nI_subm, nI_mulc, nI_nm, pu_r, pu_t, pu_a, pu_le_t, pu_le_f, pu_lt_t, pu_lt_f, pu_eq_t, pu_eq_f, nm_eq, nm_eq2, nm_lt, nm_lt2, nm_le, nm_le2, nm_ss, nm_sp, pu_ss, pu_snq, pu_neq, eq_self, and_true, true_and, and_false, false_and, or_true, true_or, or_false, false_or, not_true_eq_false, not_false_eq_true, nX12_grow, mX12_grow_63_J50, mX12_grow_63_J27, mX12_grow_63_J22, hb0, ↓bnd (r_bad0l hz), ↓bnd (r_bad10 hz), ↓bnd (r_bad11 hz), ↓bnd (r_bad21 hz), ↓bnd (r_bad22 hz)]
  | true =>
    cases hb1 : iB a1 (nI 0) (nI 1) with
    | false =>
      refine aQ.t 1 1 (G := fun M0 => nX12_grow M0 a0 a1) (fun M1 => zX12_grow M1 a0 a1) h ha (by omega) (by omega) (by omega) ?_ (fun M0 h0 hz hf => ?_)
      · simp (disch := omega) only [↓reduceIte, ↓needEb, ↓needAb, ↓needSb, ↓needE0l, ↓needE1l, ↓needA0l, ↓needA1l, ↓needS0l, ↓needS1l, ↓bnd c_isWhat, ↓bnd c_isSide, ↓bnd c_isLetter, ↓bnd c_isLength, ↓bnd c_isOften, ↓bnd r_in, ↓bnd r_isLetter, bI_t, bI_f, Bool.false_eq_true, Option.bind_none, Option.none_or, Option.some_or, xAN, xNA, xSA, Option.bind_some, if_true, if_false, Sum.elim_inl, Sum.elim_inr, li0, li1, li2, li3, li4, li5, li6, li7, li8, li9, li10, li12, li16, li20, li24, li25, li31, li32, li40, li41, li42, li48, li57, li59, li97, li104, li105, li124, li126, li240, li241, nI_add, nI_subc, nI_subm, nI_mulc, nI_nm, pu_r, pu_t, pu_a, pu_le_t, pu_le_f, pu_lt_t, pu_lt_f, pu_eq_t, pu_eq_f, nm_eq, nm_eq2, nm_lt, nm_lt2, nm_le, nm_le2, nm_ss, nm_sp, pu_ss, pu_snq, pu_neq, eq_self, and_true, true_and, and_false, false_and, or_true, true_or, or_false, false_or, not_true_eq_false, not_false_eq_true, mX11_grow_0_J42, mX11_grow_0_J21, mX11_grow_0_J20, mX11_grow_0, tX11_grow_0_J42, tX11_grow_0_J21, tX11_grow_0_J20, tX11_grow_0, hL_grow, hb0, hb1]
      · simp (disch := omega) only [↓reduceIte, ↓needEb, ↓needAb, ↓needSb, ↓needE0l, ↓needE1l, ↓needA0l, ↓needA1l, ↓needS0l, ↓needS1l, ↓bnd c_isWhat, ↓bnd c_isSide, ↓bnd c_isLetter, ↓bnd c_isLength, ↓bnd c_isOften, ↓bnd r_in, ↓bnd r_isLetter, bI_t, bI_f, Bool.false_eq_true, Option.bind_none, Option.none_or, Option.some_or, xAN, xNA, xSA, Option.bind_some, if_true, if_false, Sum.elim_inl, Sum.elim_inr, li0, li1, li2, li3, li4, li5, li6, li7, li8, li9, li10, li12, li16, li20, li24, li25, li31, li32, li40, li41, li42, li48, li57, li59, li97, li104, li105, li124, li126, li240, li241, nI_add, nI_subc, nI_subm, nI_mulc, nI_nm, pu_r, pu_t, pu_a, pu_le_t, pu_le_f, pu_lt_t, pu_lt_f, pu_eq_t, pu_eq_f, nm_eq, nm_eq2, nm_lt, nm_lt2, nm_le, nm_le2, nm_ss, nm_sp, pu_ss, pu_snq, pu_neq, eq_self, and_true, true_and, and_false, false_and, or_true, true_or, or_false, false_or, not_true_eq_false, not_false_eq_true, nX12_grow, mX12_grow_63_J50, mX12_grow_63_J27, mX12_grow_63_J22, hb0, hb1, ↓bnd (r_bad0l hz), ↓bnd (r_bad10 hz), ↓bnd (r_bad11 hz), ↓bnd (r_bad21 hz), ↓bnd (r_bad22 hz)]
    | true =>
      exact qr_grow h ha a0 a1 hb0 hb1
theorem or_z (a : Int32) : a ||| nI 0 = a := by rw [nI_0]; exact Int32.or_zero
/-- the letters by which a pattern can grow, below x -/
def pg (T : Nat → Nat) (n m w : Nat) (Q : Nat → Nat) (x : Nat) : Nat → Bool := fun c => decide (c < x) && decide (0 < SZ T n (m + 1) (gro w m Q (c + 2)))
theorem pg_0 {T : Nat → Nat} {n m w : Nat} {Q : Nat → Nat} : bt (pg T n m w Q 0) 8 = 0 := by
  rw [bt_congr (Q := fun _ => false) 8 (fun i _ => by unfold pg; rw [decide_eq_false (Nat.not_lt_zero _), Bool.false_and])]
  rfl
theorem pg_t {T : Nat → Nat} {n m w : Nat} {Q : Nat → Nat} {x : Nat} (hx : x < 8) (h : 0 < SZ T n (m + 1) (gro w m Q (x + 2))) : nI (bt (pg T n m w Q x) 8) ||| (nI 1 <<< (nI x &&& nI 31)) = nI (bt (pg T n m w Q (x + 1)) 8) := by
  rw [bt_or _ hx]
  congr 1
  refine bt_congr 8 (fun i _ => ?_)
  unfold pg
  by_cases e : i = x
  · subst e; rw [decide_eq_true h, decide_eq_true (show i < i + 1 by omega), decide_eq_true (show i = i from rfl), Bool.or_true]; rfl
  · by_cases d : i < x
    · rw [decide_eq_true d, decide_eq_true (show i < x + 1 by omega), decide_eq_false e, Bool.or_false]
    · rw [decide_eq_false d, decide_eq_false (show ¬ i < x + 1 by omega), decide_eq_false e, Bool.or_false]
theorem pg_f {T : Nat → Nat} {n m w : Nat} {Q : Nat → Nat} {x : Nat} (h : ¬ 0 < SZ T n (m + 1) (gro w m Q (x + 2))) : bt (pg T n m w Q (x + 1)) 8 = bt (pg T n m w Q x) 8 := by
  refine bt_congr 8 (fun i _ => ?_)
  unfold pg
  by_cases e : i = x
  · subst e; rw [decide_eq_false h, Bool.and_false, Bool.and_false]
  · by_cases d : i < x
    · rw [decide_eq_true d, decide_eq_true (show i < x + 1 by omega)]
    · rw [decide_eq_false d, decide_eq_false (show ¬ i < x + 1 by omega)]
theorem c_ways {T : Nat → Nat} {n m w : Nat} {W X : Nat → Nat} {M : me_M} (hT : tx9 T n) (hx : cx T n M) (h : cu T n m W X M) (hX : ∀ i, i < m → 2 ≤ wn W X m i) (hm : m < 40) (hw : w < 2) : ∃ M', mX0_waysOn_19 M (nI w) = some (nI (bt (pg T n m w (wn W X m) 8) 8), M') ∧ fr (fun b j => 21 ≤ b ∧ b ≤ 23) M M' ∧ cu T n m W X M' := by
  have hm4 := h.2.2.1
  obtain ⟨r, e, hr⟩ := lp_up (b := mX0_waysOn_19_L15 (nI w)) (fun x s => ∃ Mx, s = (nI (bt (pg T n m w (wn W X m) x) 8), nI x, Mx) ∧ fr (fun b j => 21 ≤ b ∧ b ≤ 23) M Mx ∧ cu T n m W X Mx) (fun r => ∃ Mx, r = (nI (bt (pg T n m w (wn W X m) 8) 8), Mx) ∧ fr (fun b j => 21 ≤ b ∧ b ≤ 23) M Mx ∧ cu T n m W X Mx) (a := 0) (N := 8) (by omega) (by omega) (fun x s _ hx8 hs => by
      obtain ⟨Mx, rfl, hf, hc⟩ := hs
      left
      obtain ⟨M2, e2, f2, -, c2⟩ := c_ext hT (hx.fr hf (fun b k _ _ => by omega)) hc hX hm hx8 hw
      have hle : SZ T n (m + 1) (gro w m (wn W X m) (x + 2)) ≤ n + 1 := ct_le _ _
      have hn := hT.2.2.2
      refine ⟨(nI (bt (pg T n m w (wn W X m) (x + 1)) 8), nI (x + 1), M2), ?_, M2, rfl, hf.tr (f2.up (fun b k h => by omega)), c2⟩
      simp only [mX0_waysOn_19_L15, mX0_waysOn_19_J43]
      have h19 := hc.2.2.1
      by_cases c : 0 < SZ T n (m + 1) (gro w m (wn W X m) (x + 2))
      · simp (disch := omega) only [Option.bind_some, if_true, if_false, Sum.elim_inl, Sum.elim_inr, li0, li1, li2, li3, li4, li5, li6, li7, li8, li9, li10, li12, li16, li20, li24, li25, li31, li32, li40, li41, li42, li48, li57, li59, li97, li104, li105, li124, li126, li240, li241, nI_add, nI_subc, nI_subm, nI_mulc, nI_nm, pu_r, pu_t, pu_a, pu_le_t, pu_le_f, pu_lt_t, pu_lt_f, pu_eq_t, pu_eq_f, nm_eq, nm_eq2, nm_lt, nm_lt2, nm_le, nm_le2, nm_ss, nm_sp, pu_ss, pu_snq, pu_neq, eq_self, and_true, true_and, and_false, false_and, or_true, true_or, or_false, false_or, not_true_eq_false, not_false_eq_true, h19, e2, pg_t hx8 c]
      · simp (disch := omega) only [Option.bind_some, if_true, if_false, Sum.elim_inl, Sum.elim_inr, li0, li1, li2, li3, li4, li5, li6, li7, li8, li9, li10, li12, li16, li20, li24, li25, li31, li32, li40, li41, li42, li48, li57, li59, li97, li104, li105, li124, li126, li240, li241, nI_add, nI_subc, nI_subm, nI_mulc, nI_nm, pu_r, pu_t, pu_a, pu_le_t, pu_le_f, pu_lt_t, pu_lt_f, pu_eq_t, pu_eq_f, nm_eq, nm_eq2, nm_lt, nm_lt2, nm_le, nm_le2, nm_ss, nm_sp, pu_ss, pu_snq, pu_neq, eq_self, and_true, true_and, and_false, false_and, or_true, true_or, or_false, false_or, not_true_eq_false, not_false_eq_true, h19, e2, pg_f c]) (fun s hs => by
      obtain ⟨Mx, rfl, hf, hc⟩ := hs
      exact ⟨(nI (bt (pg T n m w (wn W X m) 8) 8), Mx), by
        simp only [mX0_waysOn_19_L15]
        simp (disch := omega) only [Option.bind_some, if_true, if_false, Sum.elim_inl, Sum.elim_inr, li0, li1, li2, li3, li4, li5, li6, li7, li8, li9, li10, li12, li16, li20, li24, li25, li31, li32, li40, li41, li42, li48, li57, li59, li97, li104, li105, li124, li126, li240, li241, nI_add, nI_subc, nI_subm, nI_mulc, nI_nm, pu_r, pu_t, pu_a, pu_le_t, pu_le_f, pu_lt_t, pu_lt_f, pu_eq_t, pu_eq_f, nm_eq, nm_eq2, nm_lt, nm_lt2, nm_le, nm_le2, nm_ss, nm_sp, pu_ss, pu_snq, pu_neq, eq_self, and_true, true_and, and_false, false_and, or_true, true_or, or_false, false_or, not_true_eq_false, not_false_eq_true], Mx, rfl, hf, hc⟩) (s0 := (nI 0, nI 0, M)) ⟨M, by rw [pg_0], fr.rf, h⟩
  obtain ⟨Mx, rfl, hf, hc⟩ := hr
  refine ⟨Mx, ?_, hf, hc⟩
  simp (disch := omega) only [Option.bind_some, if_true, if_false, Sum.elim_inl, Sum.elim_inr, li0, li1, li2, li3, li4, li5, li6, li7, li8, li9, li10, li12, li16, li20, li24, li25, li31, li32, li40, li41, li42, li48, li57, li59, li97, li104, li105, li124, li126, li240, li241, nI_add, nI_subc, nI_subm, nI_mulc, nI_nm, pu_r, pu_t, pu_a, pu_le_t, pu_le_f, pu_lt_t, pu_lt_f, pu_eq_t, pu_eq_f, nm_eq, nm_eq2, nm_lt, nm_lt2, nm_le, nm_le2, nm_ss, nm_sp, pu_ss, pu_snq, pu_neq, eq_self, and_true, true_and, and_false, false_and, or_true, true_or, or_false, false_or, not_true_eq_false, not_false_eq_true, mX0_waysOn_19, hm4, e]
theorem r_ways {T : Nat → Nat} {n m w : Nat} {W X : Nat → Nat} {M : me_M} (hT : tx9 T n) (hy : ry T n M) (h : rc m (wn W X m) (fW W m + 2) M) (hm : m < 40) (hw : w < 2) : ∃ M', me_l (mX12_grows_63_L34 (nI w)) me_fu (nI 0, nI 2, M) = some (nI (bt (pg T n m w (wn W X m) 8) 8), M') ∧ fr (fun b j => (b = 63 ∧ (j = 10 ∨ j = 11)) ∨ b = 75) M M' ∧ rc m (wn W X m) (fW W m + 2) M' := by
  obtain ⟨r, e, hr⟩ := lp_up (b := mX12_grows_63_L34 (nI w)) (fun x s => ∃ Mx, s = (nI (bt (pg T n m w (wn W X m) x) 8), nI (x + 2), Mx) ∧ fr (fun b j => (b = 63 ∧ (j = 10 ∨ j = 11)) ∨ b = 75) M Mx ∧ rc m (wn W X m) (fW W m + 2) Mx) (fun r => ∃ Mx, r = (nI (bt (pg T n m w (wn W X m) 8) 8), Mx) ∧ fr (fun b j => (b = 63 ∧ (j = 10 ∨ j = 11)) ∨ b = 75) M Mx ∧ rc m (wn W X m) (fW W m + 2) Mx) (a := 0) (N := 8) (by omega) (by omega) (fun x s _ hx8 hs => by
      obtain ⟨Mx, rfl, hf, hc⟩ := hs
      left
      obtain ⟨M2, e2, f2, c2⟩ := r_sizeBy hT (hy.fr hf (by omega) (fun b k _ _ => by omega)) hc hm hw (show 2 ≤ x + 2 by omega) (by omega)
      obtain ⟨M3, e3, f3, c3⟩ := r_back c2 hm hw
      have hle : SZ T n (m + 1) (gro w m (wn W X m) (x + 2)) ≤ n + 1 := ct_le _ _
      have hn := hT.2.2.2
      refine ⟨(nI (bt (pg T n m w (wn W X m) (x + 1)) 8), nI (x + 1 + 2), M3), ?_, M3, rfl, hf.tr (f2.tr (f3.up (fun b k h => by omega))), c3⟩
      simp only [mX12_grows_63_L34, mX12_grows_63_J68]
      have hl := r_letters hc
      by_cases c : 0 < SZ T n (m + 1) (gro w m (wn W X m) (x + 2))
      · simp (disch := omega) only [Option.bind_some, if_true, if_false, Sum.elim_inl, Sum.elim_inr, li0, li1, li2, li3, li4, li5, li6, li7, li8, li9, li10, li12, li16, li20, li24, li25, li31, li32, li40, li41, li42, li48, li57, li59, li97, li104, li105, li124, li126, li240, li241, nI_add, nI_subc, nI_subm, nI_mulc, nI_nm, pu_r, pu_t, pu_a, pu_le_t, pu_le_f, pu_lt_t, pu_lt_f, pu_eq_t, pu_eq_f, nm_eq, nm_eq2, nm_lt, nm_lt2, nm_le, nm_le2, nm_ss, nm_sp, pu_ss, pu_snq, pu_neq, eq_self, and_true, true_and, and_false, false_and, or_true, true_or, or_false, false_or, not_true_eq_false, not_false_eq_true, hl, e2, e3, Nat.add_sub_cancel, pg_t hx8 c, show x + 2 + 1 = x + 1 + 2 by omega]
      · simp (disch := omega) only [Option.bind_some, if_true, if_false, Sum.elim_inl, Sum.elim_inr, li0, li1, li2, li3, li4, li5, li6, li7, li8, li9, li10, li12, li16, li20, li24, li25, li31, li32, li40, li41, li42, li48, li57, li59, li97, li104, li105, li124, li126, li240, li241, nI_add, nI_subc, nI_subm, nI_mulc, nI_nm, pu_r, pu_t, pu_a, pu_le_t, pu_le_f, pu_lt_t, pu_lt_f, pu_eq_t, pu_eq_f, nm_eq, nm_eq2, nm_lt, nm_lt2, nm_le, nm_le2, nm_ss, nm_sp, pu_ss, pu_snq, pu_neq, eq_self, and_true, true_and, and_false, false_and, or_true, true_or, or_false, false_or, not_true_eq_false, not_false_eq_true, hl, e2, e3, or_z, pg_f c, show x + 2 + 1 = x + 1 + 2 by omega]) (fun s hs => by
      obtain ⟨Mx, rfl, hf, hc⟩ := hs
      exact ⟨(nI (bt (pg T n m w (wn W X m) 8) 8), Mx), by
        simp only [mX12_grows_63_L34]
        simp (disch := omega) only [Option.bind_some, if_true, if_false, Sum.elim_inl, Sum.elim_inr, li0, li1, li2, li3, li4, li5, li6, li7, li8, li9, li10, li12, li16, li20, li24, li25, li31, li32, li40, li41, li42, li48, li57, li59, li97, li104, li105, li124, li126, li240, li241, nI_add, nI_subc, nI_subm, nI_mulc, nI_nm, pu_r, pu_t, pu_a, pu_le_t, pu_le_f, pu_lt_t, pu_lt_f, pu_eq_t, pu_eq_f, nm_eq, nm_eq2, nm_lt, nm_lt2, nm_le, nm_le2, nm_ss, nm_sp, pu_ss, pu_snq, pu_neq, eq_self, and_true, true_and, and_false, false_and, or_true, true_or, or_false, false_or, not_true_eq_false, not_false_eq_true], Mx, rfl, hf, hc⟩) (s0 := (nI 0, nI 2, M)) ⟨M, by rw [pg_0], fr.rf, h⟩
  obtain ⟨Mx, rfl, hf, hc⟩ := hr
  exact ⟨Mx, e, hf, hc⟩
theorem qr_grows {T : Nat → Nat} {n m : Nat} {W X : Nat → Nat} {t : Nat} {F : Nat → Nat} {S P : Nat} {D : Nat → Nat → Nat → Nat} {M : me_M} (h : Inv M) (ha : vA T n m W X t F S P D M) (a0 : Int32) (hb0 : iB a0 (nI 0) (nI 1) = true) : aQ (hL_grows M a0) (fun M1 => mX12_grows_63 M1 a0) := by
  have hT := ha.1.1
  have hm4 := ha.2.1.1.2.2.1
  have hm40 := ha.2.1.1.1
  obtain ⟨w, -, hw, rfl⟩ := iB_n hb0 (by omega) (by omega)
  by_cases hm : m < 40
  · obtain ⟨M1, e1, f1, g1⟩ := c_ways hT ha.1.2.1 ha.2.1.1 (fun i hi => (ha.2.1.2.1.2.2.2 i hi).2.1) hm (show w < 2 by omega)
    generalize hx : (nI (bt (pg T n m w (wn W X m) 8) 8)).toInt64 = x
    have hab : vA T n m W X t F S P D (me_o M 0 x) := ha
    have hIb : Inv (me_o M 0 x) := h.o
    have hzf : fr (fun b j => (21 ≤ b ∧ b ≤ 23) ∨ (b = 63 ∧ j = 0)) (me_o M 0 x) (me_s (me_o M1 0 x) 63 0 (nI 0)) := (f1.o.up (fun b k h => by omega)).st (by omega)
    have hrc : rc m (wn W X m) (fW W m + 2) (me_s (me_o M1 0 x) 63 0 (nI 0)) := hab.2.1.2.1.fr hzf (by omega) (by omega) (fun k => by omega)
    obtain ⟨M2, e2, f2, g2⟩ := r_ways hT (hab.1.2.2.1.fr hzf (by omega) (fun b k _ _ => by omega)) hrc hm (show w < 2 by omega)
    have e0 : (me_s (me_o M1 0 x) 63 0 (nI 0)).1 63 0 = nI 0 := pu_ss
    refine aQ.c (M1 := M1) (v := nI (bt (pg T n m w (wn W X m) 8) 8)) (M2 := M2) (G := fun M0 => nX12_grows M0 (nI w)) (fun M1 => zX12_grows M1 _) ?_ ?_ ?_ ?_ ?_
    · simp (disch := omega) only [↓reduceIte, ↓needEb, ↓needAb, ↓needSb, ↓needE0l, ↓needE1l, ↓needA0l, ↓needA1l, ↓needS0l, ↓needS1l, ↓bnd c_isWhat, ↓bnd c_isSide, ↓bnd c_isLetter, ↓bnd c_isLength, ↓bnd c_isOften, ↓bnd r_in, ↓bnd r_isLetter, bI_t, bI_f, Bool.false_eq_true, Option.bind_none, Option.none_or, Option.some_or, xAN, xNA, xSA, Option.bind_some, if_true, if_false, Sum.elim_inl, Sum.elim_inr, li0, li1, li2, li3, li4, li5, li6, li7, li8, li9, li10, li12, li16, li20, li24, li25, li31, li32, li40, li41, li42, li48, li57, li59, li97, li104, li105, li124, li126, li240, li241, nI_add, nI_subc, nI_subm, nI_mulc, nI_nm, pu_r, pu_t, pu_a, pu_le_t, pu_le_f, pu_lt_t, pu_lt_f, pu_eq_t, pu_eq_f, nm_eq, nm_eq2, nm_lt, nm_lt2, nm_le, nm_le2, nm_ss, nm_sp, pu_ss, pu_snq, pu_neq, eq_self, and_true, true_and, and_false, false_and, or_true, true_or, or_false, false_or, not_true_eq_false, not_false_eq_true, hL_grows, mX11_grows_0, hb0, e1]
    · rw [hx]
      simp (disch := omega) only [↓reduceIte, ↓needEb, ↓needAb, ↓needSb, ↓needE0l, ↓needE1l, ↓needA0l, ↓needA1l, ↓needS0l, ↓needS1l, ↓bnd c_isWhat, ↓bnd c_isSide, ↓bnd c_isLetter, ↓bnd c_isLength, ↓bnd c_isOften, ↓bnd r_in, ↓bnd r_isLetter, bI_t, bI_f, Bool.false_eq_true, Option.bind_none, Option.none_or, Option.some_or, xAN, xNA, xSA, Option.bind_some, if_true, if_false, Sum.elim_inl, Sum.elim_inr, li0, li1, li2, li3, li4, li5, li6, li7, li8, li9, li10, li12, li16, li20, li24, li25, li31, li32, li40, li41, li42, li48, li57, li59, li97, li104, li105, li124, li126, li240, li241, nI_add, nI_subc, nI_subm, nI_mulc, nI_nm, pu_r, pu_t, pu_a, pu_le_t, pu_le_f, pu_lt_t, pu_lt_f, pu_eq_t, pu_eq_f, nm_eq, nm_eq2, nm_lt, nm_lt2, nm_le, nm_le2, nm_ss, nm_sp, pu_ss, pu_snq, pu_neq, eq_self, and_true, true_and, and_false, false_and, or_true, true_or, or_false, false_or, not_true_eq_false, not_false_eq_true, nX12_grows, mX12_grows_63_J20, hb0, ↓bnd (r_bad0l e0), e2]
    · rw [f2.2 _ _ (by omega)]; exact e0
    · rw [hx, f2.1]; rfl
    · refine inv_cur hIb hab ((hzf.up (fun b k h => by omega)).tr (f2.up (fun b k h => by omega))) ⟨cu.fr (M := me_o M1 0 x) (S := fun b k => b = 63 ∨ b = 75) g1 ((fr.s (by omega)).tr (f2.up (fun b k h => by omega))) (fun b k _ _ => by omega), g2, fun j hj => ?_⟩
      rw [f2.2 _ _ (by omega), hzf.2 _ _ (by omega)]
      exact hab.2.1.2.2 j hj
  · have hm : m = 40 := by omega
    refine aQ.p (v := nI 0) (G := fun M0 => nX12_grows M0 (nI w)) (fun M1 => zX12_grows M1 _) h ha ?_ (fun M0 h0 hz hf => ?_)
    · simp (disch := omega) only [↓reduceIte, ↓needEb, ↓needAb, ↓needSb, ↓needE0l, ↓needE1l, ↓needA0l, ↓needA1l, ↓needS0l, ↓needS1l, ↓bnd c_isWhat, ↓bnd c_isSide, ↓bnd c_isLetter, ↓bnd c_isLength, ↓bnd c_isOften, ↓bnd r_in, ↓bnd r_isLetter, bI_t, bI_f, Bool.false_eq_true, Option.bind_none, Option.none_or, Option.some_or, xAN, xNA, xSA, Option.bind_some, if_true, if_false, Sum.elim_inl, Sum.elim_inr, li0, li1, li2, li3, li4, li5, li6, li7, li8, li9, li10, li12, li16, li20, li24, li25, li31, li32, li40, li41, li42, li48, li57, li59, li97, li104, li105, li124, li126, li240, li241, nI_add, nI_subc, nI_subm, nI_mulc, nI_nm, pu_r, pu_t, pu_a, pu_le_t, pu_le_f, pu_lt_t, pu_lt_f, pu_eq_t, pu_eq_f, nm_eq, nm_eq2, nm_lt, nm_lt2, nm_le, nm_le2, nm_ss, nm_sp, pu_ss, pu_snq, pu_neq, eq_self, and_true, true_and, and_false, false_and, or_true, true_or, or_false, false_or, not_true_eq_false, not_false_eq_true, hL_grows, mX11_grows_0, hb0, mX0_waysOn_19, hm4]
    · have hl : me_l (mX12_grows_63_L34 (nI w)) me_fu (nI 0, nI 2, M0) = some (nI 0, M0) := by
        refine lp_to (fun _ => (nI 0, nI 2, M0)) (a := 0) (N := 0) (by omega) (by omega) (fun x _ hx => absurd hx (by omega)) ?_
        simp only [mX12_grows_63_L34]
        simp (disch := omega) only [Option.bind_some, if_true, if_false, Sum.elim_inl, Sum.elim_inr, li0, li1, li2, li3, li4, li5, li6, li7, li8, li9, li10, li12, li16, li20, li24, li25, li31, li32, li40, li41, li42, li48, li57, li59, li97, li104, li105, li124, li126, li240, li241, nI_add, nI_subc, nI_subm, nI_mulc, nI_nm, pu_r, pu_t, pu_a, pu_le_t, pu_le_f, pu_lt_t, pu_lt_f, pu_eq_t, pu_eq_f, nm_eq, nm_eq2, nm_lt, nm_lt2, nm_le, nm_le2, nm_ss, nm_sp, pu_ss, pu_snq, pu_neq, eq_self, and_true, true_and, and_false, false_and, or_true, true_or, or_false, false_or, not_true_eq_false, not_false_eq_true, r_letters h0.2.1.2.1]
      simp (disch := omega) only [↓reduceIte, ↓needEb, ↓needAb, ↓needSb, ↓needE0l, ↓needE1l, ↓needA0l, ↓needA1l, ↓needS0l, ↓needS1l, ↓bnd c_isWhat, ↓bnd c_isSide, ↓bnd c_isLetter, ↓bnd c_isLength, ↓bnd c_isOften, ↓bnd r_in, ↓bnd r_isLetter, bI_t, bI_f, Bool.false_eq_true, Option.bind_none, Option.none_or, Option.some_or, xAN, xNA, xSA, Option.bind_some, if_true, if_false, Sum.elim_inl, Sum.elim_inr, li0, li1, li2, li3, li4, li5, li6, li7, li8, li9, li10, li12, li16, li20, li24, li25, li31, li32, li40, li41, li42, li48, li57, li59, li97, li104, li105, li124, li126, li240, li241, nI_add, nI_subc, nI_subm, nI_mulc, nI_nm, pu_r, pu_t, pu_a, pu_le_t, pu_le_f, pu_lt_t, pu_lt_f, pu_eq_t, pu_eq_f, nm_eq, nm_eq2, nm_lt, nm_lt2, nm_le, nm_le2, nm_ss, nm_sp, pu_ss, pu_snq, pu_neq, eq_self, and_true, true_and, and_false, false_and, or_true, true_or, or_false, false_or, not_true_eq_false, not_false_eq_true, nX12_grows, mX12_grows_63_J20, hb0, ↓bnd (r_bad0l hz), hl]
theorem q_grows {M : me_M} (h : Inv M) (a0 : Int32) : aQ (hL_grows M a0) (fun M1 => mX12_grows_63 M1 a0) := by
  obtain ⟨T, n, m, W, X, t, F, S, P, D, ha⟩ := h.vA
  have hT := ha.1.1
  have hx := ha.1.2.1
  have c1 := hx.1.1.1
  have hn := hT.2.2.2
  have h9 := hT.2.1
  have hp1 := ha.2.2.1.2.1
  have ht := ha.2.2.1.1
  have hm4 := ha.2.1.1.2.2.1
  have hm40 := ha.2.1.1.1
  cases hb0 : iB a0 (nI 0) (nI 1) with
  | false =>
    refine aQ.t 1 1 (G := fun M0 => nX12_grows M0 a0) (fun M1 => zX12_grows M1 a0) h ha (by omega) (by omega) (by omega) ?_ (fun M0 h0 hz hf => ?_)
    · simp (disch := omega) only [↓reduceIte, ↓needEb, ↓needAb, ↓needSb, ↓needE0l, ↓needE1l, ↓needA0l, ↓needA1l, ↓needS0l, ↓needS1l, ↓bnd c_isWhat, ↓bnd c_isSide, ↓bnd c_isLetter, ↓bnd c_isLength, ↓bnd c_isOften, ↓bnd r_in, ↓bnd r_isLetter, bI_t, bI_f, Bool.false_eq_true, Option.bind_none, Option.none_or, Option.some_or, xAN, xNA, xSA, Option.bind_some, if_true, if_false, Sum.elim_inl, Sum.elim_inr, li0, li1, li2, li3, li4, li5, li6, li7, li8, li9, li10, li12, li16, li20, li24, li25, li31, li32, li40, li41, li42, li48, li57, li59, li97, li104, li105, li124, li126, li240, li241, nI_add, nI_subc, nI_subm, nI_mulc, nI_nm, pu_r, pu_t, pu_a, pu_le_t, pu_le_f, pu_lt_t, pu_lt_f, pu_eq_t, pu_eq_f, nm_eq, nm_eq2, nm_lt, nm_lt2, nm_le, nm_le2, nm_ss, nm_sp, pu_ss, pu_snq, pu_neq, eq_self, and_true, true_and, and_false, false_and, or_true, true_or, or_false, false_or, not_true_eq_false, not_false_eq_true, mX11_grows_0, tX11_grows_0, hL_grows, hb0]
    · simp (disch := omega) only [↓reduceIte, ↓needEb, ↓needAb, ↓needSb, ↓needE0l, ↓needE1l, ↓needA0l, ↓needA1l, ↓needS0l, ↓needS1l, ↓bnd c_isWhat, ↓bnd c_isSide, ↓bnd c_isLetter, ↓bnd c_isLength, ↓bnd c_isOften, ↓bnd r_in, ↓bnd r_isLetter, bI_t, bI_f, Bool.false_eq_true, Option.bind_none, Option.none_or, Option.some_or, xAN, xNA, xSA, Option.bind_some, if_true, if_false, Sum.elim_inl, Sum.elim_inr, li0, li1, li2, li3, li4, li5, li6, li7, li8, li9, li10, li12, li16, li20, li24, li25, li31, li32, li40, li41, li42, li48, li57, li59, li97, li104, li105, li124, li126, li240, li241, nI_add, nI_subc, nI_subm, nI_mulc, nI_nm, pu_r, pu_t, pu_a, pu_le_t, pu_le_f, pu_lt_t, pu_lt_f, pu_eq_t, pu_eq_f, nm_eq, nm_eq2, nm_lt, nm_lt2, nm_le, nm_le2, nm_ss, nm_sp, pu_ss, pu_snq, pu_neq, eq_self, and_true, true_and, and_false, false_and, or_true, true_or, or_false, false_or, not_true_eq_false, not_false_eq_true, nX12_grows, mX12_grows_63_J68, mX12_grows_63_J20, hb0, ↓bnd (r_bad0l hz), ↓bnd (r_bad10 hz), ↓bnd (r_bad11 hz), ↓bnd (r_bad21 hz), ↓bnd (r_bad22 hz)]
  | true =>
    exact qr_grows h ha a0 hb0
