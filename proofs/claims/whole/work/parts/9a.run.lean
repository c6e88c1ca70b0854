/-! ===== calls: search, ran ===== -/
theorem clamp9 {a : Nat} (h : a < 1000) : (nI a).toNatClampNeg = a := nI_clamp (by omega)
theorem c_start37 {T : Nat → Nat} {n : Nat} {M : me_M} (hn : n ≤ 240) (h9 : M.1 9 5 = nI n) (Q : Nat → Nat) : ∃ M', mX7_start_37 M = some M' ∧ fr (fun b k => (38 ≤ b ∧ b ≤ 40) ∧ k = 0) M M' ∧ spn 38 39 40 T n 0 Q M' := by
  have hz1 := cp_zero (T := T) (n := n) (Q := Q)
  have hz2 := cp_zero (T := rv T n) (n := n) (Q := rq 0 Q)
  refine ⟨me_s (me_s (me_s M 38 0 (nI 0)) 39 0 (nI 0)) 40 0 (nI (n + 1)), ?_, ((fr.s (by omega)).st (by omega)).st (by omega), ?_, ?_, ?_⟩
  · unfold mX7_start_37
    simp (disch := omega) only [Option.bind_some, if_true, if_false, Sum.elim_inl, Sum.elim_inr, li0, li1, li2, li3, li4, li5, li6, li7, li8, li9, li10, li12, li16, li20, li24, li25, li31, li32, li40, li41, li42, li48, li57, li59, li97, li104, li105, li124, li126, li240, li241, nI_add, nI_subc, nI_subm, nI_mulc, nI_nm, pu_r, pu_t, pu_a, pu_le_t, pu_le_f, pu_lt_t, pu_lt_f, pu_eq_t, pu_eq_f, nm_eq, nm_eq2, nm_lt, nm_lt2, nm_le, nm_le2, nm_ss, nm_sp, pu_ss, pu_snq, pu_neq, eq_self, and_true, true_and, and_false, false_and, or_true, true_or, or_false, false_or, not_true_eq_false, not_false_eq_true, h9]
  · rw [hz1.1]; simp (disch := omega) only [Option.bind_some, if_true, if_false, Sum.elim_inl, Sum.elim_inr, li0, li1, li2, li3, li4, li5, li6, li7, li8, li9, li10, li12, li16, li20, li24, li25, li31, li32, li40, li41, li42, li48, li57, li59, li97, li104, li105, li124, li126, li240, li241, nI_add, nI_subc, nI_subm, nI_mulc, nI_nm, pu_r, pu_t, pu_a, pu_le_t, pu_le_f, pu_lt_t, pu_lt_f, pu_eq_t, pu_eq_f, nm_eq, nm_eq2, nm_lt, nm_lt2, nm_le, nm_le2, nm_ss, nm_sp, pu_ss, pu_snq, pu_neq, eq_self, and_true, true_and, and_false, false_and, or_true, true_or, or_false, false_or, not_true_eq_false, not_false_eq_true]
  · rw [hz2.1]; simp (disch := omega) only [Option.bind_some, if_true, if_false, Sum.elim_inl, Sum.elim_inr, li0, li1, li2, li3, li4, li5, li6, li7, li8, li9, li10, li12, li16, li20, li24, li25, li31, li32, li40, li41, li42, li48, li57, li59, li97, li104, li105, li124, li126, li240, li241, nI_add, nI_subc, nI_subm, nI_mulc, nI_nm, pu_r, pu_t, pu_a, pu_le_t, pu_le_f, pu_lt_t, pu_lt_f, pu_eq_t, pu_eq_f, nm_eq, nm_eq2, nm_lt, nm_lt2, nm_le, nm_le2, nm_ss, nm_sp, pu_ss, pu_snq, pu_neq, eq_self, and_true, true_and, and_false, false_and, or_true, true_or, or_false, false_or, not_true_eq_false, not_false_eq_true]
  · rw [hz1.2]; simp (disch := omega) only [Option.bind_some, if_true, if_false, Sum.elim_inl, Sum.elim_inr, li0, li1, li2, li3, li4, li5, li6, li7, li8, li9, li10, li12, li16, li20, li24, li25, li31, li32, li40, li41, li42, li48, li57, li59, li97, li104, li105, li124, li126, li240, li241, nI_add, nI_subc, nI_subm, nI_mulc, nI_nm, pu_r, pu_t, pu_a, pu_le_t, pu_le_f, pu_lt_t, pu_lt_f, pu_eq_t, pu_eq_f, nm_eq, nm_eq2, nm_lt, nm_lt2, nm_le, nm_le2, nm_ss, nm_sp, pu_ss, pu_snq, pu_neq, eq_self, and_true, true_and, and_false, false_and, or_true, true_or, or_false, false_or, not_true_eq_false, not_false_eq_true]
theorem r_row0 {T : Nat → Nat} {n : Nat} {p0 : Int32} {M : me_M} (hn : n ≤ 240) (h5 : M.1 63 5 = nI n) (Q : Nat → Nat) : ∃ M', me_l (mX12_runs_63_L7 p0) me_fu (nI 0, M) = some M' ∧ fr (fun b _ => b = 158) M M' ∧ row9 T n 0 Q M' := by
  obtain ⟨r, e, hr⟩ := lp_up (b := mX12_runs_63_L7 p0) (fun x st => ∃ Mx, st = (nI x, Mx) ∧ fr (fun b _ => b = 158) M Mx ∧ ∀ p, p < x → Mx.1 158 p = nI p) (fun r => fr (fun b _ => b = 158) M r ∧ ∀ p, p < n + 1 → r.1 158 p = nI p) (a := 0) (N := n + 1) (by omega) (by omega) (fun x st _ hx hst => by
    obtain ⟨Mx, rfl, hf, hI⟩ := hst
    left
    have h5x : Mx.1 63 5 = nI n := by rw [hf.2 _ _ (by omega)]; exact h5
    refine ⟨(nI (x + 1), me_s Mx 158 x (nI x)), ?_, _, rfl, hf.st (by omega), fun p hp => ?_⟩
    · simp only [mX12_runs_63_L7]
      simp (disch := omega) only [Option.bind_some, if_true, if_false, Sum.elim_inl, Sum.elim_inr, li0, li1, li2, li3, li4, li5, li6, li7, li8, li9, li10, li12, li16, li20, li24, li25, li31, li32, li40, li41, li42, li48, li57, li59, li97, li104, li105, li124, li126, li240, li241, nI_add, nI_subc, nI_subm, nI_mulc, nI_nm, pu_r, pu_t, pu_a, pu_le_t, pu_le_f, pu_lt_t, pu_lt_f, pu_eq_t, pu_eq_f, nm_eq, nm_eq2, nm_lt, nm_lt2, nm_le, nm_le2, nm_ss, nm_sp, pu_ss, pu_snq, pu_neq, eq_self, and_true, true_and, and_false, false_and, or_true, true_or, or_false, false_or, not_true_eq_false, not_false_eq_true, h5x]
    · by_cases c : p = x
      · rw [c, pu_ss]
      · rw [pu_sn c]; exact hI p (by omega)) (fun st hst => by
    obtain ⟨Mx, rfl, hf, hI⟩ := hst
    have h5x : Mx.1 63 5 = nI n := by rw [hf.2 _ _ (by omega)]; exact h5
    refine ⟨Mx, ?_, hf, hI⟩
    simp only [mX12_runs_63_L7]
    simp (disch := omega) only [Option.bind_some, if_true, if_false, Sum.elim_inl, Sum.elim_inr, li0, li1, li2, li3, li4, li5, li6, li7, li8, li9, li10, li12, li16, li20, li24, li25, li31, li32, li40, li41, li42, li48, li57, li59, li97, li104, li105, li124, li126, li240, li241, nI_add, nI_subc, nI_subm, nI_mulc, nI_nm, pu_r, pu_t, pu_a, pu_le_t, pu_le_f, pu_lt_t, pu_lt_f, pu_eq_t, pu_eq_f, nm_eq, nm_eq2, nm_lt, nm_lt2, nm_le, nm_le2, nm_ss, nm_sp, pu_ss, pu_snq, pu_neq, eq_self, and_true, true_and, and_false, false_and, or_true, true_or, or_false, false_or, not_true_eq_false, not_false_eq_true, h5x]) (s0 := (nI 0, M)) ⟨M, rfl, fr.rf, fun p hp => absurd hp (Nat.not_lt_zero _)⟩
  refine ⟨r, e, hr.1, fun p hp _ => ?_⟩
  rw [ct_full (P := hB T n 0 Q) p (fun i _ => decide_eq_true rfl)]
  exact hr.2 p (by omega)
theorem run_c {ob od le mo sh P s L : Nat} {M M8 M9 M1 : me_M} (hob : ob ≠ 36) (h5 : M.1 ob 5 = nI P) (hP1 : 1 ≤ P) (hP5 : P ≤ 5) (e8 : me_l (gX1_run_L22 ob od le mo sh (nI L) (nI (s * 5))) me_fu (nI 0, me_s M 36 9 (nI 0)) = some M8) (e9 : mX7_start_37 M8 = some M9) (r1 : mX1_goOn_36 26 M9 (nI 0) (nI 0) = some M1) : gX1_run ob od le mo sh M (nI s) (nI L) = some M1 := by
  have h5s : (me_s M 36 9 (nI 0)).1 ob 5 = nI P := by rw [me_s_ne hob]; exact h5
  have h1P : (1 : Int32) ≤ nI P := by rw [li1]; exact nI_le hP1 (by omega)
  have h55 : nI s * 5 = nI (s * 5) := by rw [li5, nI_mulc]
  have h1 : gX1_run ob od le mo sh M (nI s) (nI L) = gX1_run_K22 ob od le mo sh (nI L) (nI (s * 5)) (nI 0) (me_s M 36 9 (nI 0)) := by
    unfold gX1_run
    rw [← li0] at h5s ⊢
    rw [h5s, if_pos h1P, h55]
  rw [h1]
  unfold gX1_run_K22
  rw [e8, Option.bind_some, e9, Option.bind_some]
  rw [← li0] at r1
  rw [r1, Option.bind_some]
theorem run_r {s n : Nat} {M' N1 N4 M1' : me_M} (n1 : mX12_laysTurns_63 M' (nI s) = some N1) (n4 : me_l (mX12_runs_63_L7 (nI s)) me_fu (nI 0, N1) = some N4) (h5 : N4.1 63 5 = nI n) (r2 : mX12_goes_63 26 N4 (nI s) (nI 0) (nI (n + 1)) (nI 0) = some M1') : mX12_runs_63 M' (nI s) = some M1' := by
  unfold mX12_runs_63
  generalize mX12_goes_63 26 = g at *
  simp (disch := omega) only [Option.bind_some, if_true, if_false, Sum.elim_inl, Sum.elim_inr, li0, li1, li2, li3, li4, li5, li6, li7, li8, li9, li10, li12, li16, li20, li24, li25, li31, li32, li40, li41, li42, li48, li57, li59, li97, li104, li105, li124, li126, li240, li241, nI_add, nI_subc, nI_subm, nI_mulc, nI_nm, pu_r, pu_t, pu_a, pu_le_t, pu_le_f, pu_lt_t, pu_lt_f, pu_eq_t, pu_eq_f, nm_eq, nm_eq2, nm_lt, nm_lt2, nm_le, nm_le2, nm_ss, nm_sp, pu_ss, pu_snq, pu_neq, eq_self, and_true, true_and, and_false, false_and, or_true, true_or, or_false, false_or, not_true_eq_false, not_false_eq_true, n1, n4, h5, r2]
/-- one search, run by both -/
theorem run9 {ob od le mo sh S P s L n th : Nat} {T G O E : Nat → Nat} {D : Nat → Nat → Nat → Nat} {M M' : me_M} (hT : tx9 T n) (hs : s < S) (hth : th < 2) (hd : 53 ≤ ob ∧ 53 ≤ od ∧ 53 ≤ le ∧ 53 ≤ mo) (hcx : cx T n M) (hsch : sch ob od le mo S P D M) (hL1 : P ≤ L) (hL : L ≤ 24) (hG : ∀ i, i < L → 2 ≤ G i ∧ G i < 10 ∧ M.1 48 i = nI (G i - 2) ∧ M'.1 81 i = nI (G i)) (hv : rS S P D M') (hrx : rx T n M') (h20 : M'.1 63 20 = nI L) (h37 : M'.1 63 37 = nI th) (htr : M.1 36 10 = M'.1 63 35) (hfo : M.1 36 11 = M'.1 63 36) (hac : accC n O E M) (har : th = 0 → accR n O E M') (hO : ∀ p, p ≤ n → O p ≤ 8) : ∃ M1 M1' O1 E1, gX1_run ob od le mo sh M (nI s) (nI L) = some M1 ∧ mX12_runs_63 M' (nI s) = some M1' ∧ fr (fun b k => (b = 36 ∧ 9 ≤ k) ∨ (38 ≤ b ∧ b ≤ 46)) M M1 ∧ fr (fun b k => (b = 63 ∧ (k = 35 ∨ k = 36)) ∨ b = 79 ∨ b = 80 ∨ (83 ≤ b ∧ b ≤ 86) ∨ (158 ≤ b ∧ b ≤ 182)) M' M1' ∧ M1.1 36 10 = M1'.1 63 35 ∧ M1.1 36 11 = M1'.1 63 36 ∧ accC n O1 E1 M1 ∧ (th = 0 → accR n O1 E1 M1') ∧ (th = 1 → M1'.1 79 = M'.1 79 ∧ M1'.1 80 = M'.1 80) ∧ (∀ p, p ≤ n → O p ≤ O1 p ∧ O1 p ≤ O p + 1) ∧ ∀ p, p ≤ n → O1 p ≠ O p → p + L ≤ n := by
  have hn := hT.2.2.2
  have hS := hv.1
  have hP1 := hv.2.1
  have hP5 := hv.2.2.1
  have hok := hv.2.2.2.1 s hs
  have hcP := cs9_P (L := L) hok hP1
  have f0 : fr (fun b k => b = 36 ∧ k = 9) M (me_s M 36 9 (nI 0)) := fr.s (by omega)
  obtain ⟨M8, e8, f8, g8, k8⟩ := c_plan (ob := ob) (od := od) (le := le) (mo := mo) (sh := sh) (G := G) (M := me_s M 36 9 (nI 0)) hS hP1 hP5 hs hok (hsch.fr f0 (by omega) (by omega) (fun k => by omega) (fun k => by omega) (fun k => by omega)) hd hL1 hL (fun i hi => by rw [me_s_ne (by decide)]; exact (hG i hi).2.2.1) pu_ss
  have f08 := (f0.up (fun b k h => by omega) : fr (fun b j => (b = 36 ∧ j = 9) ∨ (41 ≤ b ∧ b ≤ 44)) M (me_s M 36 9 (nI 0))).tr f8
  have hcx8 : cx T n M8 := hcx.fr f08 (fun b k _ _ => by omega)
  obtain ⟨M9, e9, f9, g9⟩ := c_start37 (T := T) (M := M8) hn hcx8.2.1.1.1 (fun _ => 0)
  have hcx9 : cx T n M9 := hcx8.fr f9 (fun b k _ _ => by omega)
  obtain ⟨N1, n1, m1, q1⟩ := r_plan hv hs hL1 hL h20
  obtain ⟨N4, n4, m4, q4⟩ := r_row0 (T := T) (p0 := nI s) (M := N1) hn (by rw [m1.2 _ _ (by omega)]; exact hrx.1) (fun _ => 0)
  have hrx4 : rx T n N4 := (hrx.fr m1 (by omega) (fun k => by omega)).fr m4 (by omega) (fun k => by omega)
  have hent : ∀ t, t < L → ∃ i e, i < P ∧ e < ln9 L P (D s) i ∧ t = cs9 L P (D s) i + e := fun t ht => cs9_at P (by rw [hcP]; exact ht)
  have hvals : ∀ t, t < L → ∃ i e, i < P ∧ e < ln9 L P (D s) i ∧ t = cs9 L P (D s) i + e ∧ (M8.1 41 t).toNatClampNeg + 2 = G (ps9 L P (D s) i e) ∧ (M8.1 42 t).toNatClampNeg = sd9' (D s) i ∧ (M8.1 43 t).toNatClampNeg = (if e + 1 = ln9 L P (D s) i then D s 1 i else 0) ∧ (M8.1 44 t).toNatClampNeg = D s 2 i := fun t ht => by
    obtain ⟨i, e, i1, i2, rfl⟩ := hent t ht
    obtain ⟨z1, z2, z3, z4⟩ := k8 i e i1 i2
    have hps := ps9_lt hok hP1 i1 i2
    have hg := hG _ hps
    have ho := hok.2.2.2.1 i i1
    refine ⟨i, e, i1, i2, rfl, ?_, ?_, ?_, ?_⟩
    · rw [z1, clamp9 (by omega)]; omega
    · rw [z2]
      unfold sd9'
      split <;> rw [clamp9 (by omega)]
    · rw [z3]
      split <;> rw [clamp9 (by omega)]
    · rw [z4, clamp9 (by omega)]
  have hpl : ∀ t, t < L → 2 ≤ (M8.1 41 t).toNatClampNeg + 2 ∧ (M8.1 41 t).toNatClampNeg + 2 < 10 ∧ (M8.1 42 t).toNatClampNeg < 2 ∧ (M8.1 43 t).toNatClampNeg ≤ 4 ∧ (M8.1 44 t).toNatClampNeg ≤ 4 := fun t ht => by
    obtain ⟨i, e, i1, i2, -, z1, z2, z3, z4⟩ := hvals t ht
    have hg := hG _ (ps9_lt hok hP1 i1 i2)
    have ho := hok.2.2.2.1 i i1
    have hsd : sd9' (D s) i < 2 := by unfold sd9'; split <;> omega
    refine ⟨by omega, by omega, by omega, ?_, by omega⟩
    rw [z3]
    split <;> omega
  have hpc : pC L (fun t => (M8.1 41 t).toNatClampNeg + 2) (fun t => (M8.1 42 t).toNatClampNeg) (fun t => (M8.1 43 t).toNatClampNeg) (fun t => (M8.1 44 t).toNatClampNeg) M9 := by
    refine ⟨by rw [f9.2 _ _ (by omega)]; exact g8, fun t ht => ?_⟩
    obtain ⟨i, e, i1, i2, rfl, z1, z2, z3, z4⟩ := hvals t ht
    obtain ⟨y1, y2, y3, y4⟩ := k8 i e i1 i2
    refine ⟨?_, ?_, ?_, ?_⟩
    · rw [f9.2 _ _ (by omega)]
      show _ = nI ((M8.1 41 (cs9 L P (D s) i + e)).toNatClampNeg + 2 - 2)
      rw [z1, y1]
    · rw [f9.2 _ _ (by omega)]
      show _ = nI (M8.1 42 (cs9 L P (D s) i + e)).toNatClampNeg
      rw [z2, y2]
    · rw [f9.2 _ _ (by omega)]
      show _ = nI (M8.1 43 (cs9 L P (D s) i + e)).toNatClampNeg
      rw [z3, y3]
    · rw [f9.2 _ _ (by omega)]
      show _ = nI (M8.1 44 (cs9 L P (D s) i + e)).toNatClampNeg
      rw [z4, y4]
  have hpr : pR L s (fun t => (M8.1 41 t).toNatClampNeg + 2) (fun t => (M8.1 42 t).toNatClampNeg) (fun t => (M8.1 43 t).toNatClampNeg) (fun t => (M8.1 44 t).toNatClampNeg) N4 := by
    refine ⟨by rw [m4.2 _ _ (by omega), m1.2 _ _ (by omega)]; exact h20, fun t ht => ?_⟩
    obtain ⟨i, e, i1, i2, rfl, z1, z2, z3, z4⟩ := hvals t ht
    obtain ⟨y1, y2, y3, y4⟩ := q1 i e i1 i2
    have hps := ps9_lt hok hP1 i1 i2
    have hdg := hv.2.2.2.2.2.2
    refine ⟨ps9 L P (D s) i e, i, if e + 1 = ln9 L P (D s) i then 1 else 0, by rw [m4.2 _ _ (by omega)]; exact y1, by omega, ?_, ?_, by rw [m4.2 _ _ (by omega)]; exact y3, by omega, ?_, by rw [m4.2 _ _ (by omega)]; exact y4, ?_⟩
    · rw [m4.2 _ _ (by omega), m1.2 _ _ (by omega), (hG _ hps).2.2.2]
      show _ = nI ((M8.1 41 (cs9 L P (D s) i + e)).toNatClampNeg + 2)
      rw [z1]
    · rw [m4.2 _ _ (by omega), y2]
      show _ = nI (M8.1 42 (cs9 L P (D s) i + e)).toNatClampNeg
      rw [z2]
    · rw [m4.2 _ _ (by omega), m1.2 _ _ (by omega), hdg s 2 i hs (by omega) i1]
      show _ = nI (M8.1 44 (cs9 L P (D s) i + e)).toNatClampNeg
      rw [z4]
    · by_cases y : e + 1 = ln9 L P (D s) i
      · rw [if_pos y] at z3 ⊢
        refine Or.inl ⟨rfl, ?_⟩
        rw [m4.2 _ _ (by omega), m1.2 _ _ (by omega), hdg s 1 i hs (by omega) i1]
        show _ = nI (M8.1 43 (cs9 L P (D s) i + e)).toNatClampNeg
        rw [z3]
      · rw [if_neg y] at z3 ⊢
        exact Or.inr ⟨rfl, z3⟩
  have hsz0 : SZ T n 0 (fun _ => 0) = n + 1 := cp_zero.2
  obtain ⟨M1, M1', O1, E1, r1, r2, r3, r4, r5, r6, r7, r8, r8b, r9, r10⟩ := goto9 (n := n) (L := L) (s := s) (th := th) hT hL (by omega) hth hpl L 0 (fun _ => 0) 0 26 M9 N4 O E (by omega) (by omega) (Nat.le_refl _) (fun i hi => absurd hi (Nat.not_lt_zero _)) hpc hcx9 g9 hpr hrx4 q4 (by rw [m4.2 _ _ (by omega), m1.2 _ _ (by omega)]; exact h37) (by rw [f9.2 _ _ (by omega), f08.2 _ _ (by omega), m4.2 _ _ (by omega), m1.2 _ _ (by omega)]; exact htr) (by rw [f9.2 _ _ (by omega), f08.2 _ _ (by omega), m4.2 _ _ (by omega), m1.2 _ _ (by omega)]; exact hfo) (fun p hp => by rw [f9.2 45 _ (by omega), f9.2 46 _ (by omega), f08.2 45 _ (by omega), f08.2 46 _ (by omega)]; exact hac p hp) (fun z p hp => by rw [m4.2 79 _ (by omega), m4.2 80 _ (by omega), m1.2 79 _ (by omega), m1.2 80 _ (by omega)]; exact har z p hp) (fun p hp => by have := hO p hp; omega)
  rw [hsz0] at r2
  refine ⟨M1, M1', O1, E1, ?_, ?_, (f08.up (fun b k h => by omega)).tr ((f9.up (fun b k h => by omega)).tr (r3.up (fun b k h => by unfold fC9 at h; omega))), (m1.up (fun b k h => by omega)).tr ((m4.up (fun b k h => by omega)).tr (r4.up (fun b k h => by unfold fR9 at h; omega))), r5, r6, r7, r8, fun z => ?_, r9, fun p hp hne => (r10 p hp hne).2⟩
  · exact run_c (by omega) hsch.2.1 hP1 hP5 e8 e9 r1
  · exact run_r n1 n4 hrx4.1 r2
  · obtain ⟨z1, z2⟩ := r8b z
    exact ⟨z1.trans (by funext p; rw [m4.2 79 p (by omega), m1.2 79 p (by omega)]), z2.trans (by funext p; rw [m4.2 80 p (by omega), m1.2 80 p (by omega)])⟩
theorem c_forget {M : me_M} : ∃ M', mX1_forget_36 M = some M' ∧ fr (fun b k => (b = 36 ∧ (k = 10 ∨ k = 11)) ∨ b = 45) M M' ∧ M'.1 36 10 = nI 0 ∧ M'.1 36 11 = nI 0 ∧ ∀ p, p ≤ 240 → M'.1 45 p = nI 0 := by
  obtain ⟨r, e, hr⟩ := lp_up (b := mX1_forget_36_L12) (fun x st => ∃ Mx, st = (nI x, Mx) ∧ fr (fun b _ => b = 45) (me_s (me_s M 36 10 (nI 0)) 36 11 (nI 0)) Mx ∧ ∀ p, p < x → Mx.1 45 p = nI 0) (fun r => fr (fun b _ => b = 45) (me_s (me_s M 36 10 (nI 0)) 36 11 (nI 0)) r ∧ ∀ p, p < 241 → r.1 45 p = nI 0) (a := 0) (N := 241) (by omega) (by omega) (fun x st _ hx hst => by
    obtain ⟨Mx, rfl, hf, hI⟩ := hst
    left
    refine ⟨(nI (x + 1), me_s Mx 45 x (nI 0)), ?_, _, rfl, hf.st (by omega), fun p hp => ?_⟩
    · simp only [mX1_forget_36_L12]
      simp (disch := omega) only [Option.bind_some, if_true, if_false, Sum.elim_inl, Sum.elim_inr, li0, li1, li2, li3, li4, li5, li6, li7, li8, li9, li10, li12, li16, li20, li24, li25, li31, li32, li40, li41, li42, li48, li57, li59, li97, li104, li105, li124, li126, li240, li241, nI_add, nI_subc, nI_subm, nI_mulc, nI_nm, pu_r, pu_t, pu_a, pu_le_t, pu_le_f, pu_lt_t, pu_lt_f, pu_eq_t, pu_eq_f, nm_eq, nm_eq2, nm_lt, nm_lt2, nm_le, nm_le2, nm_ss, nm_sp, pu_ss, pu_snq, pu_neq, eq_self, and_true, true_and, and_false, false_and, or_true, true_or, or_false, false_or, not_true_eq_false, not_false_eq_true]
    · by_cases c : p = x
      · rw [c, pu_ss]
      · rw [pu_sn c]; exact hI p (by omega)) (fun st hst => by
    obtain ⟨Mx, rfl, hf, hI⟩ := hst
    refine ⟨Mx, ?_, hf, hI⟩
    simp only [mX1_forget_36_L12]
    simp (disch := omega) only [Option.bind_some, if_true, if_false, Sum.elim_inl, Sum.elim_inr, li0, li1, li2, li3, li4, li5, li6, li7, li8, li9, li10, li12, li16, li20, li24, li25, li31, li32, li40, li41, li42, li48, li57, li59, li97, li104, li105, li124, li126, li240, li241, nI_add, nI_subc, nI_subm, nI_mulc, nI_nm, pu_r, pu_t, pu_a, pu_le_t, pu_le_f, pu_lt_t, pu_lt_f, pu_eq_t, pu_eq_f, nm_eq, nm_eq2, nm_lt, nm_lt2, nm_le, nm_le2, nm_ss, nm_sp, pu_ss, pu_snq, pu_neq, eq_self, and_true, true_and, and_false, false_and, or_true, true_or, or_false, false_or, not_true_eq_false, not_false_eq_true]) (s0 := (nI 0, me_s (me_s M 36 10 (nI 0)) 36 11 (nI 0))) ⟨_, rfl, fr.rf, fun p hp => absurd hp (Nat.not_lt_zero _)⟩
  refine ⟨r, ?_, ((fr.s (by omega)).st (by omega)).tr (hr.1.up (fun b k h => by omega)), ?_, ?_, fun p hp => hr.2 p (by omega)⟩
  · unfold mX1_forget_36
    simp (disch := omega) only [Option.bind_some, if_true, if_false, Sum.elim_inl, Sum.elim_inr, li0, li1, li2, li3, li4, li5, li6, li7, li8, li9, li10, li12, li16, li20, li24, li25, li31, li32, li40, li41, li42, li48, li57, li59, li97, li104, li105, li124, li126, li240, li241, nI_add, nI_subc, nI_subm, nI_mulc, nI_nm, pu_r, pu_t, pu_a, pu_le_t, pu_le_f, pu_lt_t, pu_lt_f, pu_eq_t, pu_eq_f, nm_eq, nm_eq2, nm_lt, nm_lt2, nm_le, nm_le2, nm_ss, nm_sp, pu_ss, pu_snq, pu_neq, eq_self, and_true, true_and, and_false, false_and, or_true, true_or, or_false, false_or, not_true_eq_false, not_false_eq_true, e]
  · rw [hr.1.2 _ _ (by omega)]; simp (disch := omega) only [Option.bind_some, if_true, if_false, Sum.elim_inl, Sum.elim_inr, li0, li1, li2, li3, li4, li5, li6, li7, li8, li9, li10, li12, li16, li20, li24, li25, li31, li32, li40, li41, li42, li48, li57, li59, li97, li104, li105, li124, li126, li240, li241, nI_add, nI_subc, nI_subm, nI_mulc, nI_nm, pu_r, pu_t, pu_a, pu_le_t, pu_le_f, pu_lt_t, pu_lt_f, pu_eq_t, pu_eq_f, nm_eq, nm_eq2, nm_lt, nm_lt2, nm_le, nm_le2, nm_ss, nm_sp, pu_ss, pu_snq, pu_neq, eq_self, and_true, true_and, and_false, false_and, or_true, true_or, or_false, false_or, not_true_eq_false, not_false_eq_true]
  · rw [hr.1.2 _ _ (by omega)]; simp (disch := omega) only [Option.bind_some, if_true, if_false, Sum.elim_inl, Sum.elim_inr, li0, li1, li2, li3, li4, li5, li6, li7, li8, li9, li10, li12, li16, li20, li24, li25, li31, li32, li40, li41, li42, li48, li57, li59, li97, li104, li105, li124, li126, li240, li241, nI_add, nI_subc, nI_subm, nI_mulc, nI_nm, pu_r, pu_t, pu_a, pu_le_t, pu_le_f, pu_lt_t, pu_lt_f, pu_eq_t, pu_eq_f, nm_eq, nm_eq2, nm_lt, nm_lt2, nm_le, nm_le2, nm_ss, nm_sp, pu_ss, pu_snq, pu_neq, eq_self, and_true, true_and, and_false, false_and, or_true, true_or, or_false, false_or, not_true_eq_false, not_false_eq_true]
