/-! ===== call: scheme; the first order ===== -/
theorem nd_ex (F : Nat → Nat) (so : Nat) : ∀ k p, so - p = k → ∃ n, (∀ j, j < n → dg9 F so (p + j) = true) ∧ dg9 F so (p + n) = false ∧ (n = 0 ∨ p + n ≤ so) := by
  intro k
  induction k with
  | zero => intro p h; exact ⟨0, fun j hj => absurd hj (Nat.not_lt_zero _), dg9_out (by omega), Or.inl rfl⟩
  | succ k ih =>
    intro p h
    cases c : dg9 F so p with
    | true =>
      obtain ⟨n, n1, n2, n3⟩ := ih (p + 1) (by omega)
      refine ⟨n + 1, fun j hj => ?_, by rw [show p + (n + 1) = p + 1 + n by omega]; exact n2, Or.inr (by omega)⟩
      by_cases z : j = 0
      · rw [z, Nat.add_zero]; exact c
      · have := n1 (j - 1) (by omega)
        rw [show p + 1 + (j - 1) = p + j by omega] at this
        exact this
    | false => exact ⟨0, fun j hj => absurd hj (Nat.not_lt_zero _), by rw [Nat.add_zero]; exact c, Or.inl rfl⟩
theorem c_digits {F : Nat → Nat} {so p n : Nat} {M : me_M} (ht : cT F so M) (hp : p ≤ so) (h2 : M.1 52 2 = nI p) (hn : ∀ j, j < n → dg9 F so (p + j) = true) (hn2 : dg9 F so (p + n) = false) : mX6_digitsFrom_52 M = some (nI n) := by
  have hs := ht.1
  have hnb : p + n ≤ so := by
    by_cases z : n = 0
    · omega
    · have := (dg9_lt (hn (n - 1) (by omega))).1; omega
  have e : me_l (mX6_digitsFrom_52_L7 M) me_fu (nI 0, nI (p + 0)) = some (nI n) := lp_to (fun x => (nI x, nI (p + x))) (a := 0) (N := n) (by omega) (by omega) (fun x _ hx => by
    obtain ⟨c, d1, d2⟩ := dg9_lt (hn x hx)
    obtain ⟨b1, b2⟩ := ht.2.2 (p + x) c
    have hd := isdb (x := F (p + x)) (by omega)
    rw [decide_eq_true ⟨d1, d2⟩, bI_t] at hd
    simp only [mX6_digitsFrom_52_L7]
    simp (disch := omega) only [Option.bind_some, if_true, if_false, Sum.elim_inl, Sum.elim_inr, li0, li1, li2, li3, li4, li5, li6, li7, li8, li9, li10, li12, li16, li20, li24, li25, li31, li32, li40, li41, li42, li48, li57, li59, li97, li104, li105, li124, li126, li240, li241, nI_add, nI_subc, nI_subm, nI_mulc, nI_nm, pu_r, pu_t, pu_a, pu_le_t, pu_le_f, pu_lt_t, pu_lt_f, pu_eq_t, pu_eq_f, nm_eq, nm_eq2, nm_lt, nm_lt2, nm_le, nm_le2, nm_ss, nm_sp, pu_ss, pu_snq, pu_neq, eq_self, and_true, true_and, and_false, false_and, or_true, true_or, or_false, false_or, not_true_eq_false, not_false_eq_true, ht.2.1, b2, hd, show p + x + 1 = p + (x + 1) by omega]) (by
    simp only [mX6_digitsFrom_52_L7]
    by_cases c : p + n < so
    · obtain ⟨b1, b2⟩ := ht.2.2 (p + n) c
      have hd := isdb (x := F (p + n)) (by omega)
      rw [← dg9_in c, hn2, bI_f] at hd
      simp (disch := omega) only [Option.bind_some, if_true, if_false, Sum.elim_inl, Sum.elim_inr, li0, li1, li2, li3, li4, li5, li6, li7, li8, li9, li10, li12, li16, li20, li24, li25, li31, li32, li40, li41, li42, li48, li57, li59, li97, li104, li105, li124, li126, li240, li241, nI_add, nI_subc, nI_subm, nI_mulc, nI_nm, pu_r, pu_t, pu_a, pu_le_t, pu_le_f, pu_lt_t, pu_lt_f, pu_eq_t, pu_eq_f, nm_eq, nm_eq2, nm_lt, nm_lt2, nm_le, nm_le2, nm_ss, nm_sp, pu_ss, pu_snq, pu_neq, eq_self, and_true, true_and, and_false, false_and, or_true, true_or, or_false, false_or, not_true_eq_false, not_false_eq_true, ht.2.1, b2, hd]
    · simp (disch := omega) only [Option.bind_some, if_true, if_false, Sum.elim_inl, Sum.elim_inr, li0, li1, li2, li3, li4, li5, li6, li7, li8, li9, li10, li12, li16, li20, li24, li25, li31, li32, li40, li41, li42, li48, li57, li59, li97, li104, li105, li124, li126, li240, li241, nI_add, nI_subc, nI_subm, nI_mulc, nI_nm, pu_r, pu_t, pu_a, pu_le_t, pu_le_f, pu_lt_t, pu_lt_f, pu_eq_t, pu_eq_f, nm_eq, nm_eq2, nm_lt, nm_lt2, nm_le, nm_le2, nm_ss, nm_sp, pu_ss, pu_snq, pu_neq, eq_self, and_true, true_and, and_false, false_and, or_true, true_or, or_false, false_or, not_true_eq_false, not_false_eq_true, ht.2.1])
  rw [Nat.add_zero] at e
  unfold mX6_digitsFrom_52
  rw [h2, li0, e, Option.bind_some]
theorem r_first {P p so : Nat} {F : Nat → Nat} {M : me_M} {o : Option (Nat × Nat)} (hP1 : 1 ≤ P) (hP5 : P ≤ 5) (ht : rT F so M) (hq : rQ none p M) (hp : p ≤ so) (hdi : ∀ j, j < P → dg9 F so (p + j) = true) (hend : P = 5 ∨ dg9 F so (p + P) = false) (hrow : rowR (nx9 (dd9 F so p) P) 3 F so p P o) : ∃ M1, mX12_readsFirstOrder_63_dig M 133 = some M1 ∧ fr (fun b k => (b = 63 ∧ 25 ≤ k ∧ k ≤ 27) ∨ b = 133 ∨ (b = 78 ∧ k = 1)) M M1 ∧ M1.1 78 1 = nI P ∧ rQ o (p + P) M1 ∧ ∀ k, k < P → M1.1 133 k = nI (dd9 F so p k) := by
  have hs := ht.1
  have hF : ∀ i, i < so → F i < 256 := fun i hi => (ht.2.2 i hi).1
  obtain ⟨q26, q27, q25⟩ := hq
  have hpP : p + P ≤ so := by have := (dg9_lt (hdi (P - 1) (by omega))).1; omega
  obtain ⟨r3, e3, M3, rfl, f3, c3, g3⟩ := lp_up (b := mX12_readsFirstOrder_63_dig_L7 133 (nI p)) (fun x st => ∃ Mx, st = (nI x, Mx) ∧ fr (fun b k => (b = 63 ∧ k = 25) ∨ b = 133) M Mx ∧ Mx.1 63 25 = nI (p + x) ∧ ∀ j, j < x → Mx.1 133 j = nI (dd9 F so p j)) (fun r => ∃ Mx, r = (nI P, Mx) ∧ fr (fun b k => (b = 63 ∧ k = 25) ∨ b = 133) M Mx ∧ Mx.1 63 25 = nI (p + P) ∧ ∀ j, j < P → Mx.1 133 j = nI (dd9 F so p j)) (a := 0) (N := P) (by omega) (by omega) (fun x st _ hx hst => by
    obtain ⟨Mx, rfl, hf, h25, hdg⟩ := hst
    left
    have htx : rT F so Mx := ht.fr hf (by omega) (fun k => by omega)
    have hh := r_here htx (p := p + x) (by omega) h25
    have hid := r_isDig (so := so) (p := p + x) hF
    have hv := hv_dig (hdi x hx)
    rw [show bz9 F so (p + x) - 48 = dd9 F so p x from rfl] at hv
    rw [hdi x hx, bI_t] at hid
    refine ⟨(nI (x + 1), me_s (me_s Mx 133 x (nI (dd9 F so p x))) 63 25 (nI (p + (x + 1)))), ?_, _, rfl, (hf.st (by omega)).st (by omega), pu_ss, fun j hj => ?_⟩
    · simp only [mX12_readsFirstOrder_63_dig_L7]
      simp (disch := omega) only [Option.bind_some, if_true, if_false, Sum.elim_inl, Sum.elim_inr, li0, li1, li2, li3, li4, li5, li6, li7, li8, li9, li10, li12, li16, li20, li24, li25, li31, li32, li40, li41, li42, li48, li57, li59, li97, li104, li105, li124, li126, li240, li241, nI_add, nI_subc, nI_subm, nI_mulc, nI_nm, pu_r, pu_t, pu_a, pu_le_t, pu_le_f, pu_lt_t, pu_lt_f, pu_eq_t, pu_eq_f, nm_eq, nm_eq2, nm_lt, nm_lt2, nm_le, nm_le2, nm_ss, nm_sp, pu_ss, pu_snq, pu_neq, eq_self, and_true, true_and, and_false, false_and, or_true, true_or, or_false, false_or, not_true_eq_false, not_false_eq_true, hh, hid, hv, h25, show p + x + 1 = p + (x + 1) by omega]
    · rw [me_s_ne (by omega)]
      by_cases z : j = x
      · rw [z, pu_ss]
      · rw [pu_sn z]; exact hdg j (by omega)) (fun st hst => by
    obtain ⟨Mx, rfl, hf, h25, hdg⟩ := hst
    have htx : rT F so Mx := ht.fr hf (by omega) (fun k => by omega)
    have hh := r_here htx (p := p + P) (by omega) h25
    have hid := r_isDig (so := so) (p := p + P) hF
    refine ⟨_, ?_, Mx, rfl, hf, h25, hdg⟩
    simp only [mX12_readsFirstOrder_63_dig_L7]
    cases hd : dg9 F so (p + P) with
    | false => rw [hd, bI_f] at hid; simp (disch := omega) only [Option.bind_some, if_true, if_false, Sum.elim_inl, Sum.elim_inr, li0, li1, li2, li3, li4, li5, li6, li7, li8, li9, li10, li12, li16, li20, li24, li25, li31, li32, li40, li41, li42, li48, li57, li59, li97, li104, li105, li124, li126, li240, li241, nI_add, nI_subc, nI_subm, nI_mulc, nI_nm, pu_r, pu_t, pu_a, pu_le_t, pu_le_f, pu_lt_t, pu_lt_f, pu_eq_t, pu_eq_f, nm_eq, nm_eq2, nm_lt, nm_lt2, nm_le, nm_le2, nm_ss, nm_sp, pu_ss, pu_snq, pu_neq, eq_self, and_true, true_and, and_false, false_and, or_true, true_or, or_false, false_or, not_true_eq_false, not_false_eq_true, hh, hid]
    | true =>
      rw [hd, bI_t] at hid
      have : P = 5 := by
        rcases hend with z | z
        · exact z
        · rw [hd] at z; cases z
      simp (disch := omega) only [Option.bind_some, if_true, if_false, Sum.elim_inl, Sum.elim_inr, li0, li1, li2, li3, li4, li5, li6, li7, li8, li9, li10, li12, li16, li20, li24, li25, li31, li32, li40, li41, li42, li48, li57, li59, li97, li104, li105, li124, li126, li240, li241, nI_add, nI_subc, nI_subm, nI_mulc, nI_nm, pu_r, pu_t, pu_a, pu_le_t, pu_le_f, pu_lt_t, pu_lt_f, pu_eq_t, pu_eq_f, nm_eq, nm_eq2, nm_lt, nm_lt2, nm_le, nm_le2, nm_ss, nm_sp, pu_ss, pu_snq, pu_neq, eq_self, and_true, true_and, and_false, false_and, or_true, true_or, or_false, false_or, not_true_eq_false, not_false_eq_true, hh, hid]) (s0 := (nI 0, M)) ⟨M, rfl, fr.rf, q25, fun j hj => absurd hj (Nat.not_lt_zero _)⟩
  obtain ⟨M4, hM4⟩ : ∃ M4, M4 = me_s M3 78 1 (nI P) := ⟨_, rfl⟩
  have f4 : fr (fun b k => (b = 63 ∧ k = 25) ∨ b = 133 ∨ (b = 78 ∧ k = 1)) M M4 := by rw [hM4]; exact (f3.up (fun b k h => by omega)).st (by omega)
  have c4 : M4.1 63 25 = nI (p + P) := by rw [hM4, me_s_ne (by decide)]; exact c3
  have g4 : ∀ j, j < P → M4.1 133 j = nI (dd9 F so p j) := fun j hj => by rw [hM4, me_s_ne (by decide)]; exact g3 j hj
  have k4 : M4.1 78 1 = nI P := by rw [hM4]; exact pu_ss
  obtain ⟨M8, e8, f8, h8⟩ := lp_up (b := mX12_readsFirstOrder_63_dig_L58 133 (nI p) (nI P)) (fun x st => ∃ Mx, st = (nI x, Mx) ∧ fr (fun b k => b = 63 ∧ (k = 26 ∨ k = 27)) M4 Mx ∧ (((∀ j, j < x → nx9 (dd9 F so p) P j) ∧ Mx.1 63 26 = nI 0 ∧ Mx.1 63 27 = -nI 1) ∨ ∃ k, k < x ∧ (∀ j, j < k → nx9 (dd9 F so p) P j) ∧ ¬ nx9 (dd9 F so p) P k ∧ Mx.1 63 26 = nI 2 ∧ Mx.1 63 27 = nI (p + k))) (fun Mx => fr (fun b k => b = 63 ∧ (k = 26 ∨ k = 27)) M4 Mx ∧ (((∀ j, j < P → nx9 (dd9 F so p) P j) ∧ Mx.1 63 26 = nI 0 ∧ Mx.1 63 27 = -nI 1) ∨ ∃ k, k < P ∧ (∀ j, j < k → nx9 (dd9 F so p) P j) ∧ ¬ nx9 (dd9 F so p) P k ∧ Mx.1 63 26 = nI 2 ∧ Mx.1 63 27 = nI (p + k))) (a := 0) (N := P) (by omega) (by omega) (fun x st _ hx hst => by
    obtain ⟨Mx, rfl, hf, hI⟩ := hst
    left
    obtain ⟨b, b1, b2⟩ := r_next (j0 := 133) (k := x) (P := P) (d := dd9 F so p) (M := Mx) (by omega) hP5 (fun j hj => ⟨by rw [hf.2 _ _ (by omega)]; exact g4 j (by omega), dd9_lt (hdi j (by omega))⟩)
    simp only [mX12_readsFirstOrder_63_dig_L58, mX12_readsFirstOrder_63_dig_J83]
    rcases hI with ⟨i1, i2, i3⟩ | ⟨k, k1, k2, k3, k4, k5⟩
    · cases b with
      | true =>
        rw [bI_t] at b1
        refine ⟨(nI (x + 1), Mx), ?_, Mx, rfl, hf, Or.inl ⟨all_s.mpr ⟨i1, b2.mp rfl⟩, i2, i3⟩⟩
        simp (disch := omega) only [Option.bind_some, if_true, if_false, Sum.elim_inl, Sum.elim_inr, li0, li1, li2, li3, li4, li5, li6, li7, li8, li9, li10, li12, li16, li20, li24, li25, li31, li32, li40, li41, li42, li48, li57, li59, li97, li104, li105, li124, li126, li240, li241, nI_add, nI_subc, nI_subm, nI_mulc, nI_nm, pu_r, pu_t, pu_a, pu_le_t, pu_le_f, pu_lt_t, pu_lt_f, pu_eq_t, pu_eq_f, nm_eq, nm_eq2, nm_lt, nm_lt2, nm_le, nm_le2, nm_ss, nm_sp, pu_ss, pu_snq, pu_neq, eq_self, and_true, true_and, and_false, false_and, or_true, true_or, or_false, false_or, not_true_eq_false, not_false_eq_true, b1]
      | false =>
        rw [bI_f] at b1
        refine ⟨(nI (x + 1), me_s (me_s Mx 63 26 (nI 2)) 63 27 (nI (p + x))), ?_, _, rfl, (hf.st (by omega)).st (by omega), Or.inr ⟨x, by omega, i1, fun z => (by have := b2.mpr z; cases this), by simp (disch := omega) only [Option.bind_some, if_true, if_false, Sum.elim_inl, Sum.elim_inr, li0, li1, li2, li3, li4, li5, li6, li7, li8, li9, li10, li12, li16, li20, li24, li25, li31, li32, li40, li41, li42, li48, li57, li59, li97, li104, li105, li124, li126, li240, li241, nI_add, nI_subc, nI_subm, nI_mulc, nI_nm, pu_r, pu_t, pu_a, pu_le_t, pu_le_f, pu_lt_t, pu_lt_f, pu_eq_t, pu_eq_f, nm_eq, nm_eq2, nm_lt, nm_lt2, nm_le, nm_le2, nm_ss, nm_sp, pu_ss, pu_snq, pu_neq, eq_self, and_true, true_and, and_false, false_and, or_true, true_or, or_false, false_or, not_true_eq_false, not_false_eq_true], by simp (disch := omega) only [Option.bind_some, if_true, if_false, Sum.elim_inl, Sum.elim_inr, li0, li1, li2, li3, li4, li5, li6, li7, li8, li9, li10, li12, li16, li20, li24, li25, li31, li32, li40, li41, li42, li48, li57, li59, li97, li104, li105, li124, li126, li240, li241, nI_add, nI_subc, nI_subm, nI_mulc, nI_nm, pu_r, pu_t, pu_a, pu_le_t, pu_le_f, pu_lt_t, pu_lt_f, pu_eq_t, pu_eq_f, nm_eq, nm_eq2, nm_lt, nm_lt2, nm_le, nm_le2, nm_ss, nm_sp, pu_ss, pu_snq, pu_neq, eq_self, and_true, true_and, and_false, false_and, or_true, true_or, or_false, false_or, not_true_eq_false, not_false_eq_true]⟩⟩
        simp (disch := omega) only [Option.bind_some, if_true, if_false, Sum.elim_inl, Sum.elim_inr, li0, li1, li2, li3, li4, li5, li6, li7, li8, li9, li10, li12, li16, li20, li24, li25, li31, li32, li40, li41, li42, li48, li57, li59, li97, li104, li105, li124, li126, li240, li241, nI_add, nI_subc, nI_subm, nI_mulc, nI_nm, pu_r, pu_t, pu_a, pu_le_t, pu_le_f, pu_lt_t, pu_lt_f, pu_eq_t, pu_eq_f, nm_eq, nm_eq2, nm_lt, nm_lt2, nm_le, nm_le2, nm_ss, nm_sp, pu_ss, pu_snq, pu_neq, eq_self, and_true, true_and, and_false, false_and, or_true, true_or, or_false, false_or, not_true_eq_false, not_false_eq_true, b1, r_wrong0 i2]
    · refine ⟨(nI (x + 1), Mx), ?_, Mx, rfl, hf, Or.inr ⟨k, by omega, k2, k3, k4, k5⟩⟩
      cases b with
      | true => rw [bI_t] at b1; simp (disch := omega) only [Option.bind_some, if_true, if_false, Sum.elim_inl, Sum.elim_inr, li0, li1, li2, li3, li4, li5, li6, li7, li8, li9, li10, li12, li16, li20, li24, li25, li31, li32, li40, li41, li42, li48, li57, li59, li97, li104, li105, li124, li126, li240, li241, nI_add, nI_subc, nI_subm, nI_mulc, nI_nm, pu_r, pu_t, pu_a, pu_le_t, pu_le_f, pu_lt_t, pu_lt_f, pu_eq_t, pu_eq_f, nm_eq, nm_eq2, nm_lt, nm_lt2, nm_le, nm_le2, nm_ss, nm_sp, pu_ss, pu_snq, pu_neq, eq_self, and_true, true_and, and_false, false_and, or_true, true_or, or_false, false_or, not_true_eq_false, not_false_eq_true, b1]
      | false => rw [bI_f] at b1; simp (disch := omega) only [Option.bind_some, if_true, if_false, Sum.elim_inl, Sum.elim_inr, li0, li1, li2, li3, li4, li5, li6, li7, li8, li9, li10, li12, li16, li20, li24, li25, li31, li32, li40, li41, li42, li48, li57, li59, li97, li104, li105, li124, li126, li240, li241, nI_add, nI_subc, nI_subm, nI_mulc, nI_nm, pu_r, pu_t, pu_a, pu_le_t, pu_le_f, pu_lt_t, pu_lt_f, pu_eq_t, pu_eq_f, nm_eq, nm_eq2, nm_lt, nm_lt2, nm_le, nm_le2, nm_ss, nm_sp, pu_ss, pu_snq, pu_neq, eq_self, and_true, true_and, and_false, false_and, or_true, true_or, or_false, false_or, not_true_eq_false, not_false_eq_true, b1, r_wrong1 k4 (by omega) (by omega)]) (fun st hst => by
    obtain ⟨Mx, rfl, hf, hI⟩ := hst
    refine ⟨Mx, ?_, hf, hI⟩
    simp only [mX12_readsFirstOrder_63_dig_L58]
    simp (disch := omega) only [Option.bind_some, if_true, if_false, Sum.elim_inl, Sum.elim_inr, li0, li1, li2, li3, li4, li5, li6, li7, li8, li9, li10, li12, li16, li20, li24, li25, li31, li32, li40, li41, li42, li48, li57, li59, li97, li104, li105, li124, li126, li240, li241, nI_add, nI_subc, nI_subm, nI_mulc, nI_nm, pu_r, pu_t, pu_a, pu_le_t, pu_le_f, pu_lt_t, pu_lt_f, pu_eq_t, pu_eq_f, nm_eq, nm_eq2, nm_lt, nm_lt2, nm_le, nm_le2, nm_ss, nm_sp, pu_ss, pu_snq, pu_neq, eq_self, and_true, true_and, and_false, false_and, or_true, true_or, or_false, false_or, not_true_eq_false, not_false_eq_true]) (s0 := (nI 0, M4)) ⟨M4, rfl, fr.rf, Or.inl ⟨fun j hj => absurd hj (Nat.not_lt_zero _), by rw [f4.2 _ _ (by omega)]; exact q26, by rw [f4.2 _ _ (by omega)]; exact q27⟩⟩
  have f08 : fr (fun b k => (b = 63 ∧ 25 ≤ k ∧ k ≤ 27) ∨ b = 133 ∨ (b = 78 ∧ k = 1)) M M8 := (f4.up (fun b k h => by omega)).tr (f8.up (fun b k h => by omega))
  have ht8 : rT F so M8 := ht.fr f08 (by omega) (fun k => by omega)
  have c8 : M8.1 63 25 = nI (p + P) := by rw [f8.2 _ _ (by omega)]; exact c4
  have k8 : M8.1 78 1 = nI P := by rw [f8.2 _ _ (by omega)]; exact k4
  have g8 : ∀ k, k < P → M8.1 133 k = nI (dd9 F so p k) := fun k hk => by rw [f8.2 _ _ (by omega)]; exact g4 k hk
  have hh := r_here ht8 (p := p + P) (by omega) c8
  have hid := r_isDig (so := so) (p := p + P) hF
  unfold mX12_readsFirstOrder_63_dig mX12_readsFirstOrder_63_dig_K7
  rw [q25, li0, e3, Option.bind_some]
  simp only [li1]
  rw [show me_t M3 78 2 (nI 1) (nI P) = some M4 by rw [hM4]; exact pu_t (by omega) (by omega), Option.bind_some, e8, Option.bind_some, hh, Option.bind_some, hid, Option.bind_some]
  rcases h8 with ⟨i1, i2, i3⟩ | ⟨k, k1, k2, k3, k4, k5⟩
  · rcases hrow with ⟨k, hk, hok, ⟨hd, -⟩ | ⟨-, hno, -⟩⟩ | ⟨hok, ⟨hd, rfl⟩ | ⟨hd, rfl⟩⟩
    · rw [hdi k hk] at hd; cases hd
    · exact absurd (i1 k hk) hno
    · rw [hd, bI_t]
      refine ⟨me_s (me_s M8 63 26 (nI 3)) 63 27 (nI (p + P)), ?_, (f08.st (by omega)).st (by omega), by rw [me_s_ne (by decide), me_s_ne (by decide)]; exact k8, ⟨by simp (disch := omega) only [Option.bind_some, if_true, if_false, Sum.elim_inl, Sum.elim_inr, li0, li1, li2, li3, li4, li5, li6, li7, li8, li9, li10, li12, li16, li20, li24, li25, li31, li32, li40, li41, li42, li48, li57, li59, li97, li104, li105, li124, li126, li240, li241, nI_add, nI_subc, nI_subm, nI_mulc, nI_nm, pu_r, pu_t, pu_a, pu_le_t, pu_le_f, pu_lt_t, pu_lt_f, pu_eq_t, pu_eq_f, nm_eq, nm_eq2, nm_lt, nm_lt2, nm_le, nm_le2, nm_ss, nm_sp, pu_ss, pu_snq, pu_neq, eq_self, and_true, true_and, and_false, false_and, or_true, true_or, or_false, false_or, not_true_eq_false, not_false_eq_true], by simp (disch := omega) only [Option.bind_some, if_true, if_false, Sum.elim_inl, Sum.elim_inr, li0, li1, li2, li3, li4, li5, li6, li7, li8, li9, li10, li12, li16, li20, li24, li25, li31, li32, li40, li41, li42, li48, li57, li59, li97, li104, li105, li124, li126, li240, li241, nI_add, nI_subc, nI_subm, nI_mulc, nI_nm, pu_r, pu_t, pu_a, pu_le_t, pu_le_f, pu_lt_t, pu_lt_f, pu_eq_t, pu_eq_f, nm_eq, nm_eq2, nm_lt, nm_lt2, nm_le, nm_le2, nm_ss, nm_sp, pu_ss, pu_snq, pu_neq, eq_self, and_true, true_and, and_false, false_and, or_true, true_or, or_false, false_or, not_true_eq_false, not_false_eq_true], by omega, by omega, p + P, by omega, by rw [pu_sn (by decide), pu_sn (by decide)]; exact c8⟩, fun k hk => by rw [me_s_ne (by decide), me_s_ne (by decide)]; exact g8 k hk⟩
      simp (disch := omega) only [Option.bind_some, if_true, if_false, Sum.elim_inl, Sum.elim_inr, li0, li1, li2, li3, li4, li5, li6, li7, li8, li9, li10, li12, li16, li20, li24, li25, li31, li32, li40, li41, li42, li48, li57, li59, li97, li104, li105, li124, li126, li240, li241, nI_add, nI_subc, nI_subm, nI_mulc, nI_nm, pu_r, pu_t, pu_a, pu_le_t, pu_le_f, pu_lt_t, pu_lt_f, pu_eq_t, pu_eq_f, nm_eq, nm_eq2, nm_lt, nm_lt2, nm_le, nm_le2, nm_ss, nm_sp, pu_ss, pu_snq, pu_neq, eq_self, and_true, true_and, and_false, false_and, or_true, true_or, or_false, false_or, not_true_eq_false, not_false_eq_true, r_wrong0 i2, c8]
    · rw [hd, bI_f]
      refine ⟨M8, ?_, f08, k8, ⟨i2, i3, c8⟩, g8⟩
      simp (disch := omega) only [Option.bind_some, if_true, if_false, Sum.elim_inl, Sum.elim_inr, li0, li1, li2, li3, li4, li5, li6, li7, li8, li9, li10, li12, li16, li20, li24, li25, li31, li32, li40, li41, li42, li48, li57, li59, li97, li104, li105, li124, li126, li240, li241, nI_add, nI_subc, nI_subm, nI_mulc, nI_nm, pu_r, pu_t, pu_a, pu_le_t, pu_le_f, pu_lt_t, pu_lt_f, pu_eq_t, pu_eq_f, nm_eq, nm_eq2, nm_lt, nm_lt2, nm_le, nm_le2, nm_ss, nm_sp, pu_ss, pu_snq, pu_neq, eq_self, and_true, true_and, and_false, false_and, or_true, true_or, or_false, false_or, not_true_eq_false, not_false_eq_true]
  · have hres : (if bI (dg9 F so (p + P)) = nI 0 then some M8 else (mX12_wrong_63 M8 3 (M8.1 63 25)).bind fun M9 => some M9) = some M8 := by
      cases dg9 F so (p + P) with
      | false => rw [bI_f]; simp (disch := omega) only [Option.bind_some, if_true, if_false, Sum.elim_inl, Sum.elim_inr, li0, li1, li2, li3, li4, li5, li6, li7, li8, li9, li10, li12, li16, li20, li24, li25, li31, li32, li40, li41, li42, li48, li57, li59, li97, li104, li105, li124, li126, li240, li241, nI_add, nI_subc, nI_subm, nI_mulc, nI_nm, pu_r, pu_t, pu_a, pu_le_t, pu_le_f, pu_lt_t, pu_lt_f, pu_eq_t, pu_eq_f, nm_eq, nm_eq2, nm_lt, nm_lt2, nm_le, nm_le2, nm_ss, nm_sp, pu_ss, pu_snq, pu_neq, eq_self, and_true, true_and, and_false, false_and, or_true, true_or, or_false, false_or, not_true_eq_false, not_false_eq_true]
      | true => rw [bI_t]; simp (disch := omega) only [Option.bind_some, if_true, if_false, Sum.elim_inl, Sum.elim_inr, li0, li1, li2, li3, li4, li5, li6, li7, li8, li9, li10, li12, li16, li20, li24, li25, li31, li32, li40, li41, li42, li48, li57, li59, li97, li104, li105, li124, li126, li240, li241, nI_add, nI_subc, nI_subm, nI_mulc, nI_nm, pu_r, pu_t, pu_a, pu_le_t, pu_le_f, pu_lt_t, pu_lt_f, pu_eq_t, pu_eq_f, nm_eq, nm_eq2, nm_lt, nm_lt2, nm_le, nm_le2, nm_ss, nm_sp, pu_ss, pu_snq, pu_neq, eq_self, and_true, true_and, and_false, false_and, or_true, true_or, or_false, false_or, not_true_eq_false, not_false_eq_true, r_wrong1 k4 (by omega) (by omega)]
    refine ⟨M8, hres, f08, k8, ?_, g8⟩
    rcases hrow with ⟨k', hk, hok, ⟨hd, -⟩ | ⟨hd, hno, rfl⟩⟩ | ⟨hok, -⟩
    · rw [hdi k' hk] at hd; cases hd
    · have : k' = k := by
        rcases Nat.lt_trichotomy k' k with z | z | z
        · exact absurd (k2 k' z) hno
        · exact z
        · exact absurd (hok k z).2 k3
      rw [this]
      exact ⟨k4, k5, by omega, by omega, p + P, by omega, c8⟩
    · exact absurd (hok k k1).2 k3
