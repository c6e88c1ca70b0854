/-! ===== call: scheme; one search ===== -/
def d39 (a b e : Nat → Nat) (w k : Nat) : Nat := if w = 0 then a k else if w = 1 then b k else e k
theorem okd_of {P : Nat} {a b e : Nat → Nat} (h0 : ∀ k, k < P → nx9 a P k) (h1 : ∀ k, k < P → lo9 b (fun _ => 0) k) (h2 : ∀ k, k < P → lo9 e b k) : okd P (d39 a b e) := by
  refine ⟨fun k hk => (h0 k hk).1, fun j k hj hk => (h0 k hk).2.1 j hj, fun k h hk => ?_, fun k hk => ⟨(h2 k hk).2.2, (h2 k hk).1⟩, fun k hk => ⟨?_, ?_⟩⟩
  · rcases (h0 k hk).2.2 with z | ⟨j, j1, j2⟩
    · omega
    · exact ⟨j, j1, j2⟩
  · have := (h1 (k + 1) hk).2.1
    rw [Nat.add_sub_cancel] at this
    show b k ≤ b (k + 1)
    omega
  · have := (h2 (k + 1) hk).2.1
    rw [Nat.add_sub_cancel] at this
    show e k ≤ e (k + 1)
    omega
theorem row_ok {ok : Nat → Prop} {e so p P : Nat} {F : Nat → Nat} (h : rowR ok e F so p P none) : ∀ j, j < P → dg9 F so (p + j) = true ∧ ok j := by
  rcases h with ⟨k, -, -, ⟨-, z⟩ | ⟨-, -, z⟩⟩ | ⟨z, -⟩
  · cases z
  · cases z
  · exact z
theorem sea_rest {ob od le mo sh c : Nat} {M M1 : me_M} (hc : c < 8) (h4 : M.1 ob 4 = nI c) (h : gX6_readOrder ob od le mo sh M = some (nI 1, M1)) : gX6_readSearch ob od le mo sh M = gRest ob od le mo sh M1 := by
  unfold gX6_readSearch gRest
  simp (disch := omega) only [Option.bind_some, if_true, if_false, Sum.elim_inl, Sum.elim_inr, li0, li1, li2, li3, li4, li5, li6, li7, li8, li9, li10, li12, li16, li20, li24, li25, li31, li32, li40, li41, li42, li48, li57, li59, li97, li104, li105, li124, li126, li240, li241, nI_add, nI_subc, nI_subm, nI_mulc, nI_nm, pu_r, pu_t, pu_a, pu_le_t, pu_le_f, pu_lt_t, pu_lt_f, pu_eq_t, pu_eq_f, nm_eq, nm_eq2, nm_lt, nm_lt2, nm_le, nm_le2, nm_ss, nm_sp, pu_ss, pu_snq, pu_neq, eq_self, and_true, true_and, and_false, false_and, or_true, true_or, or_false, false_or, not_true_eq_false, not_false_eq_true, h4, h]
theorem sea_fail {ob od le mo sh c : Nat} {M M1 : me_M} (hc : c < 8) (h4 : M.1 ob 4 = nI c) (h : gX6_readOrder ob od le mo sh M = some (nI 0, M1)) : gX6_readSearch ob od le mo sh M = some M1 := by
  unfold gX6_readSearch
  simp (disch := omega) only [Option.bind_some, if_true, if_false, Sum.elim_inl, Sum.elim_inr, li0, li1, li2, li3, li4, li5, li6, li7, li8, li9, li10, li12, li16, li20, li24, li25, li31, li32, li40, li41, li42, li48, li57, li59, li97, li104, li105, li124, li126, li240, li241, nI_add, nI_subc, nI_subm, nI_mulc, nI_nm, pu_r, pu_t, pu_a, pu_le_t, pu_le_f, pu_lt_t, pu_lt_f, pu_eq_t, pu_eq_f, nm_eq, nm_eq2, nm_lt, nm_lt2, nm_le, nm_le2, nm_ss, nm_sp, pu_ss, pu_snq, pu_neq, eq_self, and_true, true_and, and_false, false_and, or_true, true_or, or_false, false_or, not_true_eq_false, not_false_eq_true, h4, h, j76]
theorem r_29F {F : Nat → Nat} {so c p kd pl : Nat} {M : me_M} (ht : rT F so M) (hq : rQ (some (kd, pl)) p M) : ∃ M1, mX12_readsSearch_63_J29 (101 + c) M = some M1 ∧ fr (fun b k => b = 63 ∧ k = 25) M M1 ∧ rE (some (kd, pl)) p M1 := by
  obtain ⟨N2, n2, m2, x2⟩ := r_turnF (a1 := 101 + c) (w := 1) ht hq (by omega)
  have htN2 : rT F so N2 := ht.fr m2 (by omega) (fun k => by omega)
  obtain ⟨N3, n3, m3, x3⟩ := r_turnF (a1 := 101 + c) (w := 2) htN2 x2 (by omega)
  obtain ⟨N4, n4, m4, x4, x5, x6⟩ := r_tailF (htN2.fr m3 (by omega) (fun k => by omega)) x3
  exact ⟨N4, r_29 n2 n3 n4, m2.tr (m3.tr m4), x4, x5, hq.2.2.1, hq.2.2.2.1, x6⟩
/-- one search, read by both -/
theorem sea9 {ob od le mo sh c P p so : Nat} {F : Nat → Nat} {M M' : me_M} (hob : ob9 ob od le mo) (hc : c < 8) (ht : cT F so M) (hq : cQ none p M) (ht' : rT F so M') (hq' : rQ none p M') (hp : p ≤ so) (hd : dg9 F so p = true) (h4 : M.1 ob 4 = nI c) (hP : 0 < c → 1 ≤ P ∧ P ≤ 5 ∧ M.1 ob 5 = nI P ∧ M'.1 78 1 = nI P) : ∃ o p' P' d M1 M1', gX6_readSearch ob od le mo sh M = some M1 ∧ mX12_readsSearch_63 M' (nI c) = some M1' ∧ fr (fun b k => (b = 52 ∧ 2 ≤ k ∧ k ≤ 4) ∨ ((b = od ∨ b = le ∨ b = mo) ∧ c * 5 ≤ k) ∨ (b = ob ∧ (k = 4 ∨ (k = 5 ∧ c = 0)))) M M1 ∧ fr (fun b k => (b = 63 ∧ 25 ≤ k ∧ k ≤ 27) ∨ (133 + 3 * c ≤ b ∧ b ≤ 133 + 3 * c + 2) ∨ (b = 78 ∧ k = 1 ∧ c = 0)) M' M1' ∧ cQ o p' M1 ∧ rE o p' M1' ∧ (o = none → p < p' ∧ p' ≤ so ∧ M1.1 ob 4 = nI (c + 1) ∧ 1 ≤ P' ∧ P' ≤ 5 ∧ (0 < c → P' = P) ∧ M1.1 ob 5 = nI P' ∧ M1'.1 78 1 = nI P' ∧ okd P' d ∧ ∀ w k, w < 3 → k < P' → M1.1 (ob + 1 + w) (c * 5 + k) = nI (d w k) ∧ M1'.1 (133 + 3 * c + w) k = nI (d w k)) ∧ (o ≠ none → M1.1 ob 4 = nI c) := by
  have hob2 := hob
  unfold ob9 at hob2
  have hso := ht.1
  have fin : ∀ (P' : Nat) (Mo Mo' : me_M) (o : Option (Nat × Nat)), 1 ≤ P' → P' ≤ 5 → (0 < c → P' = P) → gX6_readOrder ob od le mo sh M = some (bI o.isNone, Mo) → mX12_readsSearch_63 M' (nI c) = mX12_readsSearch_63_J29 (101 + c) Mo' → fr (fun b k => (b = 52 ∧ 2 ≤ k ∧ k ≤ 4) ∨ (b = od ∧ c * 5 ≤ k) ∨ (b = ob ∧ k = 5 ∧ c = 0)) M Mo → fr (fun b k => (b = 63 ∧ 25 ≤ k ∧ k ≤ 27) ∨ b = 133 + 3 * c + 0 ∨ (b = 78 ∧ k = 1 ∧ c = 0)) M' Mo' → (o = none → ∀ j, j < P' → dg9 F so (p + j) = true ∧ nx9 (dd9 F so p) P' j) → cQ o (p + P') Mo → rQ o (p + P') Mo' → Mo.1 ob 5 = nI P' → Mo'.1 78 1 = nI P' → (o = none → ∀ k, k < P' → Mo.1 od (c * 5 + k) = nI (dd9 F so p k) ∧ Mo'.1 (133 + 3 * c + 0) k = nI (dd9 F so p k)) → ∃ o p' P' d M1 M1', gX6_readSearch ob od le mo sh M = some M1 ∧ mX12_readsSearch_63 M' (nI c) = some M1' ∧ fr (fun b k => (b = 52 ∧ 2 ≤ k ∧ k ≤ 4) ∨ ((b = od ∨ b = le ∨ b = mo) ∧ c * 5 ≤ k) ∨ (b = ob ∧ (k = 4 ∨ (k = 5 ∧ c = 0)))) M M1 ∧ fr (fun b k => (b = 63 ∧ 25 ≤ k ∧ k ≤ 27) ∨ (133 + 3 * c ≤ b ∧ b ≤ 133 + 3 * c + 2) ∨ (b = 78 ∧ k = 1 ∧ c = 0)) M' M1' ∧ cQ o p' M1 ∧ rE o p' M1' ∧ (o = none → p < p' ∧ p' ≤ so ∧ M1.1 ob 4 = nI (c + 1) ∧ 1 ≤ P' ∧ P' ≤ 5 ∧ (0 < c → P' = P) ∧ M1.1 ob 5 = nI P' ∧ M1'.1 78 1 = nI P' ∧ okd P' d ∧ ∀ w k, w < 3 → k < P' → M1.1 (ob + 1 + w) (c * 5 + k) = nI (d w k) ∧ M1'.1 (133 + 3 * c + w) k = nI (d w k)) ∧ (o ≠ none → M1.1 ob 4 = nI c) := fun P' Mo Mo' o p1 p5 pP eo er fo fo' hok hqo hqo' h5 h78 hdg => by
    have hto : cT F so Mo := ht.fr fo (by omega) (fun k => by omega)
    have hto' : rT F so Mo' := ht'.fr fo' (by omega) (fun k => by omega)
    have h4o : Mo.1 ob 4 = nI c := by rw [fo.2 _ _ (by omega)]; exact h4
    cases o with
    | some v =>
      obtain ⟨kd, pl⟩ := v
      obtain ⟨N, n1, m1, x1⟩ := r_29F (c := c) hto' hqo'
      refine ⟨some (kd, pl), 0, 0, fun _ _ => 0, Mo, N, sea_fail hc h4 eo, by rw [er]; exact n1, fo.up (fun b k h => by omega), (fo'.up (fun b k h => by omega)).tr (m1.up (fun b k h => by omega)), hqo, x1, fun z => (by cases z), fun _ => h4o⟩
    | none =>
      have hok := hok rfl
      have hdg := hdg rfl
      have hpP : p + P' ≤ so := by have := (dg9_lt (hok (P' - 1) (by omega)).1).1; omega
      obtain ⟨o, p', d1, d2, M1, M1', r1, r2, r3, r4, r5, r6, r7, r8⟩ := rest9 (sh := sh) hob hc p1 p5 hto hqo hto' hqo' hpP h4o h5 h78
      refine ⟨o, p', P', d39 (dd9 F so p) d1 d2, M1, M1', (sea_rest hc h4 eo).trans r1, er.trans r2, (fo.up (fun b k h => by omega)).tr (r3.up (fun b k h => by omega)), (fo'.up (fun b k h => by omega)).tr (r4.up (fun b k h => by omega)), r5, r6, fun z => ?_, r8⟩
      obtain ⟨s1, s2, s3, s4⟩ := r7 z
      refine ⟨by omega, s2, s3, p1, p5, pP, by rw [r3.2 _ _ (by omega)]; exact h5, by rw [r4.2 _ _ (by omega)]; exact h78, okd_of (fun k hk => (hok k hk).2) (fun k hk => (s4 k hk).1) (fun k hk => (s4 k hk).2.1), fun w k hw hk => ?_⟩
      obtain ⟨t1, t2, t3, t4, t5, t6⟩ := s4 k hk
      have hw3 : w = 0 ∨ w = 1 ∨ w = 2 := by omega
      rcases hw3 with rfl | rfl | rfl
      · refine ⟨?_, ?_⟩
        · rw [show ob + 1 + 0 = od by omega, r3.2 _ _ (by omega)]; exact (hdg k hk).1
        · rw [r4.2 _ _ (by omega)]; exact (hdg k hk).2
      · refine ⟨?_, t5⟩
        rw [show ob + 1 + 1 = le by omega]; exact t3
      · refine ⟨?_, t6⟩
        rw [show ob + 1 + 2 = mo by omega]; exact t4
  by_cases hc0 : c = 0
  · obtain ⟨n, n1, n2, n3⟩ := nd_ex F so (so - p) p rfl
    have hn1 : 1 ≤ n := by
      by_cases z : n = 0
      · rw [z, Nat.add_zero, hd] at n2; cases n2
      · omega
    obtain ⟨P', hP'⟩ : ∃ P', P' = min n 5 := ⟨_, rfl⟩
    have hdf := c_digits ht hp hq.2.2 n1 n2
    have fM : fr (fun b k => b = ob ∧ k = 5) M (me_s M ob 5 (nI P')) := fr.s (by omega)
    obtain ⟨o, Mo, e1, f1, w1, g1, k1⟩ := c_order (sh := sh) (c := c) (P := P') (p := p) (M := me_s M ob 5 (nI P')) hob hc (by omega) (by omega) (ht.fr fM (by omega) (fun k => by omega)) ⟨by rw [fM.2 _ _ (by omega)]; exact hq.1, by rw [fM.2 _ _ (by omega)]; exact hq.2.1, by rw [fM.2 _ _ (by omega)]; exact hq.2.2⟩ hp (by rw [fM.2 _ _ (by omega)]; exact h4) pu_ss
    rw [if_pos hc0] at w1
    obtain ⟨Mo', e2, f2, g2, x2, k2⟩ := r_first (P := P') (o := o) (by omega) (by omega) ht' hq' hp (fun j hj => n1 j (by omega)) (by
      by_cases z : n ≤ 5
      · right; rw [show P' = n by omega]; exact n2
      · left; omega) w1
    refine fin P' Mo Mo' o (by omega) (by omega) (fun z => by omega) ?_ ?_ ((fM.up (fun b k h => by omega)).tr (f1.up (fun b k h => by omega))) (f2.up (fun b k h => by omega)) (fun z => by subst z; exact row_ok w1) g1 x2 (by rw [f1.2 _ _ (by omega)]; exact pu_ss) g2 (fun z k hk => ⟨k1 z k hk, by rw [hc0]; exact k2 k hk⟩)
    · unfold gX6_readOrder
      rw [h4, hc0]
      have hmn := c_min (a := n) (b := 5) (by have := n3; omega) (by omega)
      rw [← hP'] at hmn
      simp (disch := omega) only [Option.bind_some, if_true, if_false, Sum.elim_inl, Sum.elim_inr, li0, li1, li2, li3, li4, li5, li6, li7, li8, li9, li10, li12, li16, li20, li24, li25, li31, li32, li40, li41, li42, li48, li57, li59, li97, li104, li105, li124, li126, li240, li241, nI_add, nI_subc, nI_subm, nI_mulc, nI_nm, pu_r, pu_t, pu_a, pu_le_t, pu_le_f, pu_lt_t, pu_lt_f, pu_eq_t, pu_eq_f, nm_eq, nm_eq2, nm_lt, nm_lt2, nm_le, nm_le2, nm_ss, nm_sp, pu_ss, pu_snq, pu_neq, eq_self, and_true, true_and, and_false, false_and, or_true, true_or, or_false, false_or, not_true_eq_false, not_false_eq_true, hdf, hmn, e1]
    · rw [hc0]
      unfold mX12_readsSearch_63
      simp (disch := omega) only [Option.bind_some, if_true, if_false, Sum.elim_inl, Sum.elim_inr, li0, li1, li2, li3, li4, li5, li6, li7, li8, li9, li10, li12, li16, li20, li24, li25, li31, li32, li40, li41, li42, li48, li57, li59, li97, li104, li105, li124, li126, li240, li241, nI_add, nI_subc, nI_subm, nI_mulc, nI_nm, pu_r, pu_t, pu_a, pu_le_t, pu_le_f, pu_lt_t, pu_lt_f, pu_eq_t, pu_eq_f, nm_eq, nm_eq2, nm_lt, nm_lt2, nm_le, nm_le2, nm_ss, nm_sp, pu_ss, pu_snq, pu_neq, eq_self, and_true, true_and, and_false, false_and, or_true, true_or, or_false, false_or, not_true_eq_false, not_false_eq_true, e2]
  · obtain ⟨p1, p5, h5, h78⟩ := hP (by omega)
    obtain ⟨o, Mo, e1, f1, w1, g1, k1⟩ := c_order (sh := sh) hob hc p1 p5 ht hq hp h4 h5
    rw [if_neg hc0] at w1
    obtain ⟨Mo', e2, f2, x2, k2⟩ := r_row (w := 0) (L := fun _ => 0) (o := o) (by omega) hc p1 p5 ht' hq' hp h78 (fun z => by omega) (by unfold okw; exact w1)
    refine fin P Mo Mo' o p1 p5 (fun _ => rfl) ?_ ?_ (f1.up (fun b k h => by omega)) (f2.up (fun b k h => by omega)) (fun z => by subst z; exact row_ok w1) g1 x2 (by rw [f1.2 _ _ (by omega)]; exact h5) (by rw [f2.2 _ _ (by omega)]; exact h78) (fun z k hk => ⟨k1 z k hk, k2 z k hk⟩)
    · unfold gX6_readOrder
      simp (disch := omega) only [Option.bind_some, if_true, if_false, Sum.elim_inl, Sum.elim_inr, li0, li1, li2, li3, li4, li5, li6, li7, li8, li9, li10, li12, li16, li20, li24, li25, li31, li32, li40, li41, li42, li48, li57, li59, li97, li104, li105, li124, li126, li240, li241, nI_add, nI_subc, nI_subm, nI_mulc, nI_nm, pu_r, pu_t, pu_a, pu_le_t, pu_le_f, pu_lt_t, pu_lt_f, pu_eq_t, pu_eq_f, nm_eq, nm_eq2, nm_lt, nm_lt2, nm_le, nm_le2, nm_ss, nm_sp, pu_ss, pu_snq, pu_neq, eq_self, and_true, true_and, and_false, false_and, or_true, true_or, or_false, false_or, not_true_eq_false, not_false_eq_true, h4, e1]
    · unfold mX12_readsSearch_63
      simp (disch := omega) only [Option.bind_some, if_true, if_false, Sum.elim_inl, Sum.elim_inr, li0, li1, li2, li3, li4, li5, li6, li7, li8, li9, li10, li12, li16, li20, li24, li25, li31, li32, li40, li41, li42, li48, li57, li59, li97, li104, li105, li124, li126, li240, li241, nI_add, nI_subc, nI_subm, nI_mulc, nI_nm, pu_r, pu_t, pu_a, pu_le_t, pu_le_f, pu_lt_t, pu_lt_f, pu_eq_t, pu_eq_f, nm_eq, nm_eq2, nm_lt, nm_lt2, nm_le, nm_le2, nm_ss, nm_sp, pu_ss, pu_snq, pu_neq, eq_self, and_true, true_and, and_false, false_and, or_true, true_or, or_false, false_or, not_true_eq_false, not_false_eq_true, e2]
