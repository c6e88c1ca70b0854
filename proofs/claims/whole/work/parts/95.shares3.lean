/-! ===== calls: shares, sound, needless, the reference ===== -/
def by9 (B P S : Nat) (D : Nat → Nat → Nat → Nat) (ex : Nat → Bool) (v : Nat) : Nat := ct (fun s => !ex s && cov B P D v s) S
def cd9 (w y : Nat) : Bool := decide (w = 0 ∨ (w = 1 ∧ y = 0) ∨ (w = 2 ∧ 1 < y))
theorem r_sharesBy {S P w : Nat} {D : Nat → Nat → Nat → Nat} {ex : Nat → Bool} {M : me_M} (hv : rS S P D M) (hex : ∀ s, s < S → (nI s = M.1 63 29) = (ex s = true)) (hw : w ≤ 2) : ∃ M', mX12_sharesBy_63 M (nI w) = some (nI (ct (fun v => okv (bud S P D) P v && cd9 w (by9 (bud S P D + 1) P S D ex v)) ((bud S P D + 1) ^ P)), M') ∧ fr (fun x _ => x = 82) M M' := by
  have hbud := r_budget9 hv
  have hb := bud_le hv.2.1 hv.2.2.1 hv.2.2.2.1
  have hP5 := hv.2.2.1
  have hS := hv.1
  generalize bud S P D = b at *
  have hpw := pw_b hb hP5
  have e13 : me_l (mX12_sharesBy_63_L13 M (nI w) (nI b) (nI 0)) me_fu (nI 1, nI 0) = some (nI ((b + 1) ^ P)) := by
    have h78 := hv.2.2.2.2.2.1
    refine lp_to (fun x => (nI ((b + 1) ^ x), nI x)) (a := 0) (N := P) (by omega) (by omega) (fun x _ hx => ?_) ?_
    · simp only [mX12_sharesBy_63_L13]
      simp (disch := omega) only [Option.bind_some, if_true, if_false, Sum.elim_inl, Sum.elim_inr, li0, li1, li2, li3, li4, li5, li6, li7, li8, li9, li10, li12, li16, li20, li24, li25, li31, li32, li40, li41, li42, li48, li57, li59, li97, li104, li105, li124, li126, li240, li241, nI_add, nI_subc, nI_subm, nI_mulc, nI_nm, pu_r, pu_t, pu_a, pu_le_t, pu_le_f, pu_lt_t, pu_lt_f, pu_eq_t, pu_eq_f, nm_eq, nm_eq2, nm_lt, nm_lt2, nm_le, nm_le2, nm_ss, nm_sp, pu_ss, pu_snq, pu_neq, eq_self, and_true, true_and, and_false, false_and, or_true, true_or, or_false, false_or, not_true_eq_false, not_false_eq_true, h78, Nat.pow_succ]
    · simp only [mX12_sharesBy_63_L13]
      simp (disch := omega) only [Option.bind_some, if_true, if_false, Sum.elim_inl, Sum.elim_inr, li0, li1, li2, li3, li4, li5, li6, li7, li8, li9, li10, li12, li16, li20, li24, li25, li31, li32, li40, li41, li42, li48, li57, li59, li97, li104, li105, li124, li126, li240, li241, nI_add, nI_subc, nI_subm, nI_mulc, nI_nm, pu_r, pu_t, pu_a, pu_le_t, pu_le_f, pu_lt_t, pu_lt_f, pu_eq_t, pu_eq_f, nm_eq, nm_eq2, nm_lt, nm_lt2, nm_le, nm_le2, nm_ss, nm_sp, pu_ss, pu_snq, pu_neq, eq_self, and_true, true_and, and_false, false_and, or_true, true_or, or_false, false_or, not_true_eq_false, not_false_eq_true, h78]
  obtain ⟨r, e, hr⟩ := lp_up (b := mX12_sharesBy_63_L39 (nI w) (nI b) (nI ((b + 1) ^ P))) (fun v st => ∃ Mx, st = (nI (ct (fun v => okv b P v && cd9 w (by9 (b + 1) P S D ex v)) v), nI v, Mx) ∧ fr (fun x _ => x = 82) M Mx) (fun r => ∃ Mx, r = (nI (ct (fun v => okv b P v && cd9 w (by9 (b + 1) P S D ex v)) ((b + 1) ^ P)), Mx) ∧ fr (fun x _ => x = 82) M Mx) (a := 0) (N := (b + 1) ^ P) (Nat.zero_le _) (by omega) (fun v st _ hv9 hst => by
    obtain ⟨Mx, rfl, hf⟩ := hst
    left
    have hcl := ct_le (fun v => okv b P v && cd9 w (by9 (b + 1) P S D ex v)) v
    obtain ⟨r58, e58, M4, rfl, f4, g4⟩ := lp_up (b := mX12_sharesBy_63_L58 (nI w) (nI b) (nI ((b + 1) ^ P)) (nI (ct (fun v => okv b P v && cd9 w (by9 (b + 1) P S D ex v)) v)) (nI v) (nI 0)) (fun i st => ∃ My, st = (nI (sm9 (fun j => dg (b + 1) v j) i), nI (v / (b + 1) ^ i), nI i, My) ∧ fr (fun x _ => x = 82) Mx My ∧ ∀ j, j < i → My.1 82 j = nI (dg (b + 1) v j)) (fun r => ∃ My, r = (nI (sm9 (fun j => dg (b + 1) v j) P), My) ∧ fr (fun x _ => x = 82) Mx My ∧ ∀ j, j < P → My.1 82 j = nI (dg (b + 1) v j)) (a := 0) (N := P) (by omega) (by omega) (fun i st _ hi hst => by
      obtain ⟨My, rfl, hfy, hI⟩ := hst
      left
      have h78 : My.1 78 0 = nI P := by rw [hfy.2 _ _ (by omega), hf.2 _ _ (by omega)]; exact hv.2.2.2.2.2.1
      have hdv : v / (b + 1) ^ i ≤ v := Nat.div_le_self _ _
      have hdd : v / (b + 1) ^ i / (b + 1) = v / (b + 1) ^ (i + 1) := by rw [Nat.div_div_eq_div_mul, ← Nat.pow_succ]
      have hdi : v / (b + 1) ^ i % (b + 1) = dg (b + 1) v i := (dg_div _ _ _).symm
      refine ⟨(nI (sm9 (fun j => dg (b + 1) v j) (i + 1)), nI (v / (b + 1) ^ (i + 1)), nI (i + 1), me_s My 82 i (nI (dg (b + 1) v i))), ?_, _, rfl, hfy.st (by omega), fun j hj => ?_⟩
      · simp only [mX12_sharesBy_63_L58]
        simp (disch := omega) only [Option.bind_some, if_true, if_false, Sum.elim_inl, Sum.elim_inr, li0, li1, li2, li3, li4, li5, li6, li7, li8, li9, li10, li12, li16, li20, li24, li25, li31, li32, li40, li41, li42, li48, li57, li59, li97, li104, li105, li124, li126, li240, li241, nI_add, nI_subc, nI_subm, nI_mulc, nI_nm, pu_r, pu_t, pu_a, pu_le_t, pu_le_f, pu_lt_t, pu_lt_f, pu_eq_t, pu_eq_f, nm_eq, nm_eq2, nm_lt, nm_lt2, nm_le, nm_le2, nm_ss, nm_sp, pu_ss, pu_snq, pu_neq, eq_self, and_true, true_and, and_false, false_and, or_true, true_or, or_false, false_or, not_true_eq_false, not_false_eq_true, h78, pu_md, pu_dv, hdi, hdd, sm9_s]
      · by_cases c : j = i
        · rw [c, pu_ss]
        · rw [pu_sn c]; exact hI j (by omega)) (fun st hst => by
      obtain ⟨My, rfl, hfy, hI⟩ := hst
      have h78 : My.1 78 0 = nI P := by rw [hfy.2 _ _ (by omega), hf.2 _ _ (by omega)]; exact hv.2.2.2.2.2.1
      refine ⟨_, ?_, My, rfl, hfy, hI⟩
      simp only [mX12_sharesBy_63_L58]
      simp (disch := omega) only [Option.bind_some, if_true, if_false, Sum.elim_inl, Sum.elim_inr, li0, li1, li2, li3, li4, li5, li6, li7, li8, li9, li10, li12, li16, li20, li24, li25, li31, li32, li40, li41, li42, li48, li57, li59, li97, li104, li105, li124, li126, li240, li241, nI_add, nI_subc, nI_subm, nI_mulc, nI_nm, pu_r, pu_t, pu_a, pu_le_t, pu_le_f, pu_lt_t, pu_lt_f, pu_eq_t, pu_eq_f, nm_eq, nm_eq2, nm_lt, nm_lt2, nm_le, nm_le2, nm_ss, nm_sp, pu_ss, pu_snq, pu_neq, eq_self, and_true, true_and, and_false, false_and, or_true, true_or, or_false, false_or, not_true_eq_false, not_false_eq_true, h78]) (s0 := (nI 0, nI v, nI 0, Mx)) ⟨Mx, by rw [Nat.pow_zero, Nat.div_one]; rfl, fr.rf, fun j hj => absurd hj (Nat.not_lt_zero _)⟩
    have hsum : sm9 (fun j => dg (b + 1) v j) P = sg9 (b + 1) v P := (sg9_sm _ _ _).symm
    rw [hsum] at e58
    have hsb : sg9 (b + 1) v P ≤ 1000 := by
      rw [← hsum]
      have := sm9_bd (f := fun j => dg (b + 1) v j) (c := 4) P (fun j _ => by have := dg_lt (v := v) (i := j) (show 0 < b + 1 by omega); omega)
      omega
    have hf4 := hf.tr f4
    have hv4 : rS S P D M4 := hv.fr hf4 (by omega) (by omega) (fun b k _ _ => by omega)
    have e120 : me_l (mX12_sharesBy_63_L120 M4 (nI w) (nI b) (nI ((b + 1) ^ P)) (nI (ct (fun v => okv b P v && cd9 w (by9 (b + 1) P S D ex v)) v)) (nI v)) me_fu (nI 0, nI 0) = some (nI (by9 (b + 1) P S D ex v)) := by
      refine lp_to (fun x => (nI (ct (fun s => !ex s && cov (b + 1) P D v s) x), nI x)) (a := 0) (N := S) (by omega) (by omega) (fun x _ hx => ?_) ?_
      · simp only [mX12_sharesBy_63_L120, mX12_sharesBy_63_J155, mX12_sharesBy_63_J156]
        have hc := r_covers9 hb hv4 hx g4
        have h77 := hv4.2.2.2.2.1
        have h29 : M4.1 63 29 = M.1 63 29 := hf4.2 _ _ (by omega)
        have hx9 := hex x hx
        rw [ct_s]
        cases he : ex x with
        | true =>
          have hx9 : (nI x = M.1 63 29) = True := by rw [hx9, he]; exact eq_true rfl
          simp (disch := omega) only [Option.bind_some, if_true, if_false, Sum.elim_inl, Sum.elim_inr, li0, li1, li2, li3, li4, li5, li6, li7, li8, li9, li10, li12, li16, li20, li24, li25, li31, li32, li40, li41, li42, li48, li57, li59, li97, li104, li105, li124, li126, li240, li241, nI_add, nI_subc, nI_subm, nI_mulc, nI_nm, pu_r, pu_t, pu_a, pu_le_t, pu_le_f, pu_lt_t, pu_lt_f, pu_eq_t, pu_eq_f, nm_eq, nm_eq2, nm_lt, nm_lt2, nm_le, nm_le2, nm_ss, nm_sp, pu_ss, pu_snq, pu_neq, eq_self, and_true, true_and, and_false, false_and, or_true, true_or, or_false, false_or, not_true_eq_false, not_false_eq_true, h77, h29, hx9, Bool.not_true, Bool.false_and, Bool.false_eq_true, Nat.add_zero]
        | false =>
          have hx9 : (nI x = M.1 63 29) = False := by rw [hx9, he]; exact eq_false (by decide)
          cases hcv : cov (b + 1) P D v x with
          | true =>
            rw [hcv, bI_t] at hc
            simp (disch := omega) only [Option.bind_some, if_true, if_false, Sum.elim_inl, Sum.elim_inr, li0, li1, li2, li3, li4, li5, li6, li7, li8, li9, li10, li12, li16, li20, li24, li25, li31, li32, li40, li41, li42, li48, li57, li59, li97, li104, li105, li124, li126, li240, li241, nI_add, nI_subc, nI_subm, nI_mulc, nI_nm, pu_r, pu_t, pu_a, pu_le_t, pu_le_f, pu_lt_t, pu_lt_f, pu_eq_t, pu_eq_f, nm_eq, nm_eq2, nm_lt, nm_lt2, nm_le, nm_le2, nm_ss, nm_sp, pu_ss, pu_snq, pu_neq, eq_self, and_true, true_and, and_false, false_and, or_true, true_or, or_false, false_or, not_true_eq_false, not_false_eq_true, h77, h29, hx9, hc, Bool.not_false, Bool.true_and]
          | false =>
            rw [hcv, bI_f] at hc
            simp (disch := omega) only [Option.bind_some, if_true, if_false, Sum.elim_inl, Sum.elim_inr, li0, li1, li2, li3, li4, li5, li6, li7, li8, li9, li10, li12, li16, li20, li24, li25, li31, li32, li40, li41, li42, li48, li57, li59, li97, li104, li105, li124, li126, li240, li241, nI_add, nI_subc, nI_subm, nI_mulc, nI_nm, pu_r, pu_t, pu_a, pu_le_t, pu_le_f, pu_lt_t, pu_lt_f, pu_eq_t, pu_eq_f, nm_eq, nm_eq2, nm_lt, nm_lt2, nm_le, nm_le2, nm_ss, nm_sp, pu_ss, pu_snq, pu_neq, eq_self, and_true, true_and, and_false, false_and, or_true, true_or, or_false, false_or, not_true_eq_false, not_false_eq_true, h77, h29, hx9, hc, Bool.not_false, Bool.true_and, Bool.false_eq_true, Nat.add_zero]
      · simp only [mX12_sharesBy_63_L120]
        simp (disch := omega) only [Option.bind_some, if_true, if_false, Sum.elim_inl, Sum.elim_inr, li0, li1, li2, li3, li4, li5, li6, li7, li8, li9, li10, li12, li16, li20, li24, li25, li31, li32, li40, li41, li42, li48, li57, li59, li97, li104, li105, li124, li126, li240, li241, nI_add, nI_subc, nI_subm, nI_mulc, nI_nm, pu_r, pu_t, pu_a, pu_le_t, pu_le_f, pu_lt_t, pu_lt_f, pu_eq_t, pu_eq_f, nm_eq, nm_eq2, nm_lt, nm_lt2, nm_le, nm_le2, nm_ss, nm_sp, pu_ss, pu_snq, pu_neq, eq_self, and_true, true_and, and_false, false_and, or_true, true_or, or_false, false_or, not_true_eq_false, not_false_eq_true, hv4.2.2.2.2.1, by9]
    have hby : by9 (b + 1) P S D ex v ≤ S := ct_le _ _
    refine ⟨_, ?_, M4, rfl, hf4⟩
    simp only [mX12_sharesBy_63_L39, mX12_sharesBy_63_K58]
    by_cases c : sg9 (b + 1) v P ≤ b
    · have hkv : okv b P v = true := decide_eq_true c
      have hes : ∀ q : Bool, cd9 w (by9 (b + 1) P S D ex v) = q → ct (fun v => okv b P v && cd9 w (by9 (b + 1) P S D ex v)) (v + 1) = ct (fun v => okv b P v && cd9 w (by9 (b + 1) P S D ex v)) v + (if q = true then 1 else 0) := fun q hq => by
        rw [ct_s, hkv, hq]; rfl
      have hw3 : w = 0 ∨ w = 1 ∨ w = 2 := by omega
      rcases hw3 with rfl | rfl | rfl
      · have es := hes true (decide_eq_true (Or.inl rfl))
        simp (disch := omega) only [Option.bind_some, if_true, if_false, Sum.elim_inl, Sum.elim_inr, li0, li1, li2, li3, li4, li5, li6, li7, li8, li9, li10, li12, li16, li20, li24, li25, li31, li32, li40, li41, li42, li48, li57, li59, li97, li104, li105, li124, li126, li240, li241, nI_add, nI_subc, nI_subm, nI_mulc, nI_nm, pu_r, pu_t, pu_a, pu_le_t, pu_le_f, pu_lt_t, pu_lt_f, pu_eq_t, pu_eq_f, nm_eq, nm_eq2, nm_lt, nm_lt2, nm_le, nm_le2, nm_ss, nm_sp, pu_ss, pu_snq, pu_neq, eq_self, and_true, true_and, and_false, false_and, or_true, true_or, or_false, false_or, not_true_eq_false, not_false_eq_true, e58, e120, es, mX12_sharesBy_63_J192, mX12_sharesBy_63_J197, mX12_sharesBy_63_J200]
      · by_cases d : by9 (b + 1) P S D ex v = 0
        · have es := hes true (decide_eq_true (Or.inr (Or.inl ⟨rfl, d⟩)))
          simp (disch := omega) only [Option.bind_some, if_true, if_false, Sum.elim_inl, Sum.elim_inr, li0, li1, li2, li3, li4, li5, li6, li7, li8, li9, li10, li12, li16, li20, li24, li25, li31, li32, li40, li41, li42, li48, li57, li59, li97, li104, li105, li124, li126, li240, li241, nI_add, nI_subc, nI_subm, nI_mulc, nI_nm, pu_r, pu_t, pu_a, pu_le_t, pu_le_f, pu_lt_t, pu_lt_f, pu_eq_t, pu_eq_f, nm_eq, nm_eq2, nm_lt, nm_lt2, nm_le, nm_le2, nm_ss, nm_sp, pu_ss, pu_snq, pu_neq, eq_self, and_true, true_and, and_false, false_and, or_true, true_or, or_false, false_or, not_true_eq_false, not_false_eq_true, e58, e120, es, mX12_sharesBy_63_J192, mX12_sharesBy_63_J197, mX12_sharesBy_63_J200]
        · have es := hes false (decide_eq_false (by omega))
          simp (disch := omega) only [Option.bind_some, if_true, if_false, Sum.elim_inl, Sum.elim_inr, li0, li1, li2, li3, li4, li5, li6, li7, li8, li9, li10, li12, li16, li20, li24, li25, li31, li32, li40, li41, li42, li48, li57, li59, li97, li104, li105, li124, li126, li240, li241, nI_add, nI_subc, nI_subm, nI_mulc, nI_nm, pu_r, pu_t, pu_a, pu_le_t, pu_le_f, pu_lt_t, pu_lt_f, pu_eq_t, pu_eq_f, nm_eq, nm_eq2, nm_lt, nm_lt2, nm_le, nm_le2, nm_ss, nm_sp, pu_ss, pu_snq, pu_neq, eq_self, and_true, true_and, and_false, false_and, or_true, true_or, or_false, false_or, not_true_eq_false, not_false_eq_true, e58, e120, es, mX12_sharesBy_63_J181, mX12_sharesBy_63_J196, mX12_sharesBy_63_J197, mX12_sharesBy_63_J200, Bool.false_eq_true]
      · by_cases d : 1 < by9 (b + 1) P S D ex v
        · have es := hes true (decide_eq_true (Or.inr (Or.inr ⟨rfl, d⟩)))
          simp (disch := omega) only [Option.bind_some, if_true, if_false, Sum.elim_inl, Sum.elim_inr, li0, li1, li2, li3, li4, li5, li6, li7, li8, li9, li10, li12, li16, li20, li24, li25, li31, li32, li40, li41, li42, li48, li57, li59, li97, li104, li105, li124, li126, li240, li241, nI_add, nI_subc, nI_subm, nI_mulc, nI_nm, pu_r, pu_t, pu_a, pu_le_t, pu_le_f, pu_lt_t, pu_lt_f, pu_eq_t, pu_eq_f, nm_eq, nm_eq2, nm_lt, nm_lt2, nm_le, nm_le2, nm_ss, nm_sp, pu_ss, pu_snq, pu_neq, eq_self, and_true, true_and, and_false, false_and, or_true, true_or, or_false, false_or, not_true_eq_false, not_false_eq_true, e58, e120, es, mX12_sharesBy_63_J181, mX12_sharesBy_63_J192, mX12_sharesBy_63_J197, mX12_sharesBy_63_J200]
        · have es := hes false (decide_eq_false (by omega))
          simp (disch := omega) only [Option.bind_some, if_true, if_false, Sum.elim_inl, Sum.elim_inr, li0, li1, li2, li3, li4, li5, li6, li7, li8, li9, li10, li12, li16, li20, li24, li25, li31, li32, li40, li41, li42, li48, li57, li59, li97, li104, li105, li124, li126, li240, li241, nI_add, nI_subc, nI_subm, nI_mulc, nI_nm, pu_r, pu_t, pu_a, pu_le_t, pu_le_f, pu_lt_t, pu_lt_f, pu_eq_t, pu_eq_f, nm_eq, nm_eq2, nm_lt, nm_lt2, nm_le, nm_le2, nm_ss, nm_sp, pu_ss, pu_snq, pu_neq, eq_self, and_true, true_and, and_false, false_and, or_true, true_or, or_false, false_or, not_true_eq_false, not_false_eq_true, e58, e120, es, mX12_sharesBy_63_J181, mX12_sharesBy_63_J196, mX12_sharesBy_63_J197, mX12_sharesBy_63_J200, Bool.false_eq_true]
    · have hkv : okv b P v = false := decide_eq_false c
      have es : ct (fun v => okv b P v && cd9 w (by9 (b + 1) P S D ex v)) (v + 1) = ct (fun v => okv b P v && cd9 w (by9 (b + 1) P S D ex v)) v := by
        rw [ct_s, hkv]; rfl
      simp (disch := omega) only [Option.bind_some, if_true, if_false, Sum.elim_inl, Sum.elim_inr, li0, li1, li2, li3, li4, li5, li6, li7, li8, li9, li10, li12, li16, li20, li24, li25, li31, li32, li40, li41, li42, li48, li57, li59, li97, li104, li105, li124, li126, li240, li241, nI_add, nI_subc, nI_subm, nI_mulc, nI_nm, pu_r, pu_t, pu_a, pu_le_t, pu_le_f, pu_lt_t, pu_lt_f, pu_eq_t, pu_eq_f, nm_eq, nm_eq2, nm_lt, nm_lt2, nm_le, nm_le2, nm_ss, nm_sp, pu_ss, pu_snq, pu_neq, eq_self, and_true, true_and, and_false, false_and, or_true, true_or, or_false, false_or, not_true_eq_false, not_false_eq_true, e58, es, mX12_sharesBy_63_J200]) (fun st hst => by
    obtain ⟨Mx, rfl, hf⟩ := hst
    refine ⟨_, ?_, Mx, rfl, hf⟩
    simp only [mX12_sharesBy_63_L39]
    simp (disch := omega) only [Option.bind_some, if_true, if_false, Sum.elim_inl, Sum.elim_inr, li0, li1, li2, li3, li4, li5, li6, li7, li8, li9, li10, li12, li16, li20, li24, li25, li31, li32, li40, li41, li42, li48, li57, li59, li97, li104, li105, li124, li126, li240, li241, nI_add, nI_subc, nI_subm, nI_mulc, nI_nm, pu_r, pu_t, pu_a, pu_le_t, pu_le_f, pu_lt_t, pu_lt_f, pu_eq_t, pu_eq_f, nm_eq, nm_eq2, nm_lt, nm_lt2, nm_le, nm_le2, nm_ss, nm_sp, pu_ss, pu_snq, pu_neq, eq_self, and_true, true_and, and_false, false_and, or_true, true_or, or_false, false_or, not_true_eq_false, not_false_eq_true]) (s0 := (nI 0, nI 0, M)) ⟨M, rfl, fr.rf⟩
  obtain ⟨Mx, rfl, hf⟩ := hr
  refine ⟨Mx, ?_, hf⟩
  unfold mX12_sharesBy_63 mX12_sharesBy_63_K13
  simp (disch := omega) only [Option.bind_some, if_true, if_false, Sum.elim_inl, Sum.elim_inr, li0, li1, li2, li3, li4, li5, li6, li7, li8, li9, li10, li12, li16, li20, li24, li25, li31, li32, li40, li41, li42, li48, li57, li59, li97, li104, li105, li124, li126, li240, li241, nI_add, nI_subc, nI_subm, nI_mulc, nI_nm, pu_r, pu_t, pu_a, pu_le_t, pu_le_f, pu_lt_t, pu_lt_f, pu_eq_t, pu_eq_f, nm_eq, nm_eq2, nm_lt, nm_lt2, nm_le, nm_le2, nm_ss, nm_sp, pu_ss, pu_snq, pu_neq, eq_self, and_true, true_and, and_false, false_and, or_true, true_or, or_false, false_or, not_true_eq_false, not_false_eq_true, hbud, e13, e]
theorem tms_by {B P S : Nat} {D : Nat → Nat → Nat → Nat} {v : Nat} (hS : S ≤ 8) : tms B P S D v = by9 B P S D (fun _ => false) v := by
  unfold tms by9
  rw [ct_cut (F := cvS B P S D v) 8 hS (fun i a _ => by unfold cvS; rw [decide_eq_false (by omega), Bool.false_and])]
  refine ct_congr S (fun i hi => ?_)
  unfold cvS
  rw [decide_eq_true hi]
  rfl
theorem plan_sch {S P : Nat} {D : Nat → Nat → Nat → Nat} {M : me_M} (h : vS S P D M) : ((M.2.1 0 = 53) = True ∧ (M.2.1 0 = 58) = False ∧ sch 53 54 55 56 S P D M) ∨ ((M.2.1 0 = 53) = False ∧ (M.2.1 0 = 58) = True ∧ sch 58 59 60 61 S P D M) := by
  rcases vS_at h with ⟨p53, p58, h4, h5, hD⟩ | ⟨p53, p58, h4, h5, hD⟩
  · exact Or.inl ⟨p53, p58, h4, h5, fun s k a b => hD s 0 k a (by omega) b, fun s k a b => hD s 1 k a (by omega) b, fun s k a b => hD s 2 k a (by omega) b⟩
  · exact Or.inr ⟨p53, p58, h4, h5, fun s k a b => hD s 0 k a (by omega) b, fun s k a b => hD s 1 k a (by omega) b, fun s k a b => hD s 2 k a (by omega) b⟩
theorem but_no {S : Nat} {M : me_M} (hS : S ≤ 8) (h : M.1 63 29 = -nI 1) : ∀ s, s < S → (nI s = M.1 63 29) = ((fun _ => false) s = true) := fun s hs => by
  rw [h, nm_eq (by omega)]
  exact (eq_false (show ¬ false = true by decide)).symm
def val9 (S P : Nat) (D : Nat → Nat → Nat → Nat) (w : Nat) : Nat := ct (fun v => okv (bud S P D) P v && cd9 w (by9 (bud S P D + 1) P S D (fun _ => false) v)) ((bud S P D + 1) ^ P)
theorem cnt9_val {ob S P : Nat} {D : Nat → Nat → Nat → Nat} {M : me_M} (hS : S ≤ 8) (h : cnt9 ob (bud S P D) P S D ((bud S P D + 1) ^ P) M) : M.1 ob 7 = nI (val9 S P D 0) ∧ M.1 ob 8 = nI (val9 S P D 1) ∧ M.1 ob 9 = nI (val9 S P D 2) := by
  obtain ⟨h1, h2, h3, -⟩ := h
  refine ⟨?_, ?_, ?_⟩
  · rw [h1]
    congr 1
    refine ct_congr _ (fun v _ => ?_)
    rw [show cd9 0 (by9 (bud S P D + 1) P S D (fun _ => false) v) = true from decide_eq_true (Or.inl rfl), Bool.and_true]
  · rw [h2]
    congr 1
    refine ct_congr _ (fun v _ => ?_)
    congr 1
    rw [tms_by hS]
    unfold cd9
    rw [Bool.eq_iff_iff, decide_eq_true_eq, decide_eq_true_eq]
    omega
  · rw [h3]
    congr 1
    refine ct_congr _ (fun v _ => ?_)
    congr 1
    rw [tms_by hS]
    unfold cd9
    rw [Bool.eq_iff_iff, decide_eq_true_eq, decide_eq_true_eq]
    omega
theorem val9_b {S P : Nat} {D : Nat → Nat → Nat → Nat} {w : Nat} (hP1 : 1 ≤ P) (hP5 : P ≤ 5) (h : ∀ s, s < S → okd P (D s)) : val9 S P D w ≤ 3125 := by
  have h1 : val9 S P D w ≤ (bud S P D + 1) ^ P := ct_le _ _
  have h2 := pw_b (bud_le hP1 hP5 h) hP5
  omega
theorem scr_sch {b k : Nat} (h : ((b = 53 ∨ b = 58) ∧ 6 ≤ k) ∨ b = 57 ∨ b = 62) : scr b k := by unfold scr; omega
theorem qr_shares {T : Nat → Nat} {n m : Nat} {W X : Nat → Nat} {t : Nat} {F : Nat → Nat} {S P : Nat} {D : Nat → Nat → Nat → Nat} {M : me_M} (h : Inv M) (ha : vA T n m W X t F S P D M) (a0 : Int32) (hb0 : iB a0 (nI 0) (nI 2) = true) : aQ (hL_shares M a0) (fun M1 => mX12_shares_63 M1 a0) := by
  have hvs := ha.2.2.2.2.1
  have hS8 := hvs.2.1
  have hP1 := hvs.2.2.1
  have hP5 := hvs.2.2.2.1
  have hok := hvs.2.2.2.2.1
  obtain ⟨j, -, hj, rfl⟩ := iB_n hb0 (by omega) (by omega)
  have hj3 : j = 0 ∨ j = 1 ∨ j = 2 := by omega
  have key : ∀ M1, (mX11_shares_0 M (nI j) = some (nI (val9 S P D j), M1)) → fr (fun b k => ((b = 53 ∨ b = 58) ∧ 6 ≤ k) ∨ b = 57 ∨ b = 62) M M1 → aQ (hL_shares M (nI j)) (fun M1 => mX12_shares_63 M1 (nI j)) := fun M1 e1 f1 => by
    generalize hx : (nI (val9 S P D j)).toInt64 = x
    have hzf : fr (fun b k => ((b = 53 ∨ b = 58) ∧ 6 ≤ k) ∨ b = 57 ∨ b = 62 ∨ (b = 63 ∧ k = 0)) (me_o M 0 x) (me_s (me_o M1 0 x) 63 0 (nI 0)) := (f1.o.up (fun b k h => by omega)).st (by omega)
    have e0 : (me_s (me_o M1 0 x) 63 0 (nI 0)).1 63 0 = nI 0 := pu_ss
    have hrs : rS S P D (me_s (me_o M1 0 x) 63 0 (nI 0)) := rS.fr (M := me_o M 0 x) hvs.rS hzf (by omega) (by omega) (fun b k _ _ => by omega)
    obtain ⟨M2, e2, f2⟩ := r_sharesBy (w := j) hrs (but_no hS8 (by rw [hzf.2 _ _ (by omega)]; exact hvs.2.2.2.2.2.2.2.2.2.2.2)) (by omega)
    have e2 : mX12_sharesBy_63 (me_s (me_o M1 0 x) 63 0 (nI 0)) (nI j) = some (nI (val9 S P D j), M2) := e2
    refine aQ.c (M1 := M1) (v := nI (val9 S P D j)) (M2 := M2) (G := fun M0 => nX12_shares M0 (nI j)) (fun M1 => zX12_shares M1 _) ?_ ?_ ?_ ?_ ?_
    · unfold hL_shares
      rw [e1]
      rfl
    · rw [hx]
      simp (disch := omega) only [↓reduceIte, ↓needEb, ↓needAb, ↓needSb, ↓needE0l, ↓needE1l, ↓needA0l, ↓needA1l, ↓needS0l, ↓needS1l, ↓bnd c_isWhat, ↓bnd c_isSide, ↓bnd c_isLetter, ↓bnd c_isLength, ↓bnd c_isOften, ↓bnd r_in, ↓bnd r_isLetter, bI_t, bI_f, Bool.false_eq_true, Option.bind_none, Option.none_or, Option.some_or, xAN, xNA, xSA, Option.bind_some, if_true, if_false, Sum.elim_inl, Sum.elim_inr, li0, li1, li2, li3, li4, li5, li6, li7, li8, li9, li10, li12, li16, li20, li24, li25, li31, li32, li40, li41, li42, li48, li57, li59, li97, li104, li105, li124, li126, li240, li241, nI_add, nI_subc, nI_subm, nI_mulc, nI_nm, pu_r, pu_t, pu_a, pu_le_t, pu_le_f, pu_lt_t, pu_lt_f, pu_eq_t, pu_eq_f, nm_eq, nm_eq2, nm_lt, nm_lt2, nm_le, nm_le2, nm_ss, nm_sp, pu_ss, pu_snq, pu_neq, eq_self, and_true, true_and, and_false, false_and, or_true, true_or, or_false, false_or, not_true_eq_false, not_false_eq_true, nX12_shares, mX12_shares_63_J20, hb0, ↓bnd (r_bad0l e0), e2]
    · rw [f2.2 _ _ (by omega)]; exact e0
    · rw [hx, f2.1]; rfl
    · exact Inv.go (M := me_o M 0 x) h.o ((hzf.up (fun b k h => by unfold scr; omega)).tr (f2.up (fun b k h => by unfold scr; omega)))
  rcases plan_sch hvs with ⟨p53, p58, hs⟩ | ⟨p53, p58, hs⟩
  · obtain ⟨M1, e1, f1, g1⟩ := c_survey (sh := 57) hS8 hP1 hP5 hok hs (by omega)
    obtain ⟨g7, g8, g9⟩ := cnt9_val hS8 g1
    have q53 : (M1.2.1 0 = 53) = True := by rw [f1.1]; exact p53
    refine key M1 ?_ (f1.up (fun b k h => by omega))
    rcases hj3 with rfl | rfl | rfl
    · simp (disch := omega) only [↓reduceIte, ↓needEb, ↓needAb, ↓needSb, ↓needE0l, ↓needE1l, ↓needA0l, ↓needA1l, ↓needS0l, ↓needS1l, ↓bnd c_isWhat, ↓bnd c_isSide, ↓bnd c_isLetter, ↓bnd c_isLength, ↓bnd c_isOften, ↓bnd r_in, ↓bnd r_isLetter, bI_t, bI_f, Bool.false_eq_true, Option.bind_none, Option.none_or, Option.some_or, xAN, xNA, xSA, Option.bind_some, if_true, if_false, Sum.elim_inl, Sum.elim_inr, li0, li1, li2, li3, li4, li5, li6, li7, li8, li9, li10, li12, li16, li20, li24, li25, li31, li32, li40, li41, li42, li48, li57, li59, li97, li104, li105, li124, li126, li240, li241, nI_add, nI_subc, nI_subm, nI_mulc, nI_nm, pu_r, pu_t, pu_a, pu_le_t, pu_le_f, pu_lt_t, pu_lt_f, pu_eq_t, pu_eq_f, nm_eq, nm_eq2, nm_lt, nm_lt2, nm_le, nm_le2, nm_ss, nm_sp, pu_ss, pu_snq, pu_neq, eq_self, and_true, true_and, and_false, false_and, or_true, true_or, or_false, false_or, not_true_eq_false, not_false_eq_true, mX11_shares_0, hb0, p53, eX5_surveyShares_53, e1, q53, g7]
    · simp (disch := omega) only [↓reduceIte, ↓needEb, ↓needAb, ↓needSb, ↓needE0l, ↓needE1l, ↓needA0l, ↓needA1l, ↓needS0l, ↓needS1l, ↓bnd c_isWhat, ↓bnd c_isSide, ↓bnd c_isLetter, ↓bnd c_isLength, ↓bnd c_isOften, ↓bnd r_in, ↓bnd r_isLetter, bI_t, bI_f, Bool.false_eq_true, Option.bind_none, Option.none_or, Option.some_or, xAN, xNA, xSA, Option.bind_some, if_true, if_false, Sum.elim_inl, Sum.elim_inr, li0, li1, li2, li3, li4, li5, li6, li7, li8, li9, li10, li12, li16, li20, li24, li25, li31, li32, li40, li41, li42, li48, li57, li59, li97, li104, li105, li124, li126, li240, li241, nI_add, nI_subc, nI_subm, nI_mulc, nI_nm, pu_r, pu_t, pu_a, pu_le_t, pu_le_f, pu_lt_t, pu_lt_f, pu_eq_t, pu_eq_f, nm_eq, nm_eq2, nm_lt, nm_lt2, nm_le, nm_le2, nm_ss, nm_sp, pu_ss, pu_snq, pu_neq, eq_self, and_true, true_and, and_false, false_and, or_true, true_or, or_false, false_or, not_true_eq_false, not_false_eq_true, mX11_shares_0, hb0, p53, eX5_surveyShares_53, e1, q53, g8]
    · simp (disch := omega) only [↓reduceIte, ↓needEb, ↓needAb, ↓needSb, ↓needE0l, ↓needE1l, ↓needA0l, ↓needA1l, ↓needS0l, ↓needS1l, ↓bnd c_isWhat, ↓bnd c_isSide, ↓bnd c_isLetter, ↓bnd c_isLength, ↓bnd c_isOften, ↓bnd r_in, ↓bnd r_isLetter, bI_t, bI_f, Bool.false_eq_true, Option.bind_none, Option.none_or, Option.some_or, xAN, xNA, xSA, Option.bind_some, if_true, if_false, Sum.elim_inl, Sum.elim_inr, li0, li1, li2, li3, li4, li5, li6, li7, li8, li9, li10, li12, li16, li20, li24, li25, li31, li32, li40, li41, li42, li48, li57, li59, li97, li104, li105, li124, li126, li240, li241, nI_add, nI_subc, nI_subm, nI_mulc, nI_nm, pu_r, pu_t, pu_a, pu_le_t, pu_le_f, pu_lt_t, pu_lt_f, pu_eq_t, pu_eq_f, nm_eq, nm_eq2, nm_lt, nm_lt2, nm_le, nm_le2, nm_ss, nm_sp, pu_ss, pu_snq, pu_neq, eq_self, and_true, true_and, and_false, false_and, or_true, true_or, or_false, false_or, not_true_eq_false, not_false_eq_true, mX11_shares_0, hb0, p53, eX5_surveyShares_53, e1, q53, g9]
  · obtain ⟨M1, e1, f1, g1⟩ := c_survey (sh := 62) hS8 hP1 hP5 hok hs (by omega)
    obtain ⟨g7, g8, g9⟩ := cnt9_val hS8 g1
    have q53 : (M1.2.1 0 = 53) = False := by rw [f1.1]; exact p53
    have q58 : (M1.2.1 0 = 58) = True := by rw [f1.1]; exact p58
    refine key M1 ?_ (f1.up (fun b k h => by omega))
    rcases hj3 with rfl | rfl | rfl
    · simp (disch := omega) only [↓reduceIte, ↓needEb, ↓needAb, ↓needSb, ↓needE0l, ↓needE1l, ↓needA0l, ↓needA1l, ↓needS0l, ↓needS1l, ↓bnd c_isWhat, ↓bnd c_isSide, ↓bnd c_isLetter, ↓bnd c_isLength, ↓bnd c_isOften, ↓bnd r_in, ↓bnd r_isLetter, bI_t, bI_f, Bool.false_eq_true, Option.bind_none, Option.none_or, Option.some_or, xAN, xNA, xSA, Option.bind_some, if_true, if_false, Sum.elim_inl, Sum.elim_inr, li0, li1, li2, li3, li4, li5, li6, li7, li8, li9, li10, li12, li16, li20, li24, li25, li31, li32, li40, li41, li42, li48, li57, li59, li97, li104, li105, li124, li126, li240, li241, nI_add, nI_subc, nI_subm, nI_mulc, nI_nm, pu_r, pu_t, pu_a, pu_le_t, pu_le_f, pu_lt_t, pu_lt_f, pu_eq_t, pu_eq_f, nm_eq, nm_eq2, nm_lt, nm_lt2, nm_le, nm_le2, nm_ss, nm_sp, pu_ss, pu_snq, pu_neq, eq_self, and_true, true_and, and_false, false_and, or_true, true_or, or_false, false_or, not_true_eq_false, not_false_eq_true, mX11_shares_0, hb0, p53, p58, eX5_surveyShares_58, e1, q53, q58, g7]
    · simp (disch := omega) only [↓reduceIte, ↓needEb, ↓needAb, ↓needSb, ↓needE0l, ↓needE1l, ↓needA0l, ↓needA1l, ↓needS0l, ↓needS1l, ↓bnd c_isWhat, ↓bnd c_isSide, ↓bnd c_isLetter, ↓bnd c_isLength, ↓bnd c_isOften, ↓bnd r_in, ↓bnd r_isLetter, bI_t, bI_f, Bool.false_eq_true, Option.bind_none, Option.none_or, Option.some_or, xAN, xNA, xSA, Option.bind_some, if_true, if_false, Sum.elim_inl, Sum.elim_inr, li0, li1, li2, li3, li4, li5, li6, li7, li8, li9, li10, li12, li16, li20, li24, li25, li31, li32, li40, li41, li42, li48, li57, li59, li97, li104, li105, li124, li126, li240, li241, nI_add, nI_subc, nI_subm, nI_mulc, nI_nm, pu_r, pu_t, pu_a, pu_le_t, pu_le_f, pu_lt_t, pu_lt_f, pu_eq_t, pu_eq_f, nm_eq, nm_eq2, nm_lt, nm_lt2, nm_le, nm_le2, nm_ss, nm_sp, pu_ss, pu_snq, pu_neq, eq_self, and_true, true_and, and_false, false_and, or_true, true_or, or_false, false_or, not_true_eq_false, not_false_eq_true, mX11_shares_0, hb0, p53, p58, eX5_surveyShares_58, e1, q53, q58, g8]
    · simp (disch := omega) only [↓reduceIte, ↓needEb, ↓needAb, ↓needSb, ↓needE0l, ↓needE1l, ↓needA0l, ↓needA1l, ↓needS0l, ↓needS1l, ↓bnd c_isWhat, ↓bnd c_isSide, ↓bnd c_isLetter, ↓bnd c_isLength, ↓bnd c_isOften, ↓bnd r_in, ↓bnd r_isLetter, bI_t, bI_f, Bool.false_eq_true, Option.bind_none, Option.none_or, Option.some_or, xAN, xNA, xSA, Option.bind_some, if_true, if_false, Sum.elim_inl, Sum.elim_inr, li0, li1, li2, li3, li4, li5, li6, li7, li8, li9, li10, li12, li16, li20, li24, li25, li31, li32, li40, li41, li42, li48, li57, li59, li97, li104, li105, li124, li126, li240, li241, nI_add, nI_subc, nI_subm, nI_mulc, nI_nm, pu_r, pu_t, pu_a, pu_le_t, pu_le_f, pu_lt_t, pu_lt_f, pu_eq_t, pu_eq_f, nm_eq, nm_eq2, nm_lt, nm_lt2, nm_le, nm_le2, nm_ss, nm_sp, pu_ss, pu_snq, pu_neq, eq_self, and_true, true_and, and_false, false_and, or_true, true_or, or_false, false_or, not_true_eq_false, not_false_eq_true, mX11_shares_0, hb0, p53, p58, eX5_surveyShares_58, e1, q53, q58, g9]
theorem q_shares {M : me_M} (h : Inv M) (a0 : Int32) : aQ (hL_shares M a0) (fun M1 => mX12_shares_63 M1 a0) := by
  obtain ⟨T, n, m, W, X, t, F, S, P, D, ha⟩ := h.vA
  have hT := ha.1.1
  have hx := ha.1.2.1
  have c1 := hx.1.1.1
  have hn := hT.2.2.2
  have h9 := hT.2.1
  have hp1 := ha.2.2.1.2.1
  have ht := ha.2.2.1.1
  have hm4 := ha.2.1.1.2.2.1
  have hm40 := ha.2.1.1.1
  cases hb0 : iB a0 (nI 0) (nI 2) with
  | false =>
    refine aQ.t 1 1 (G := fun M0 => nX12_shares M0 a0) (fun M1 => zX12_shares M1 a0) h ha (by omega) (by omega) (by omega) ?_ (fun M0 h0 hz hf => ?_)
    · simp (disch := omega) only [↓reduceIte, ↓needEb, ↓needAb, ↓needSb, ↓needE0l, ↓needE1l, ↓needA0l, ↓needA1l, ↓needS0l, ↓needS1l, ↓bnd c_isWhat, ↓bnd c_isSide, ↓bnd c_isLetter, ↓bnd c_isLength, ↓bnd c_isOften, ↓bnd r_in, ↓bnd r_isLetter, bI_t, bI_f, Bool.false_eq_true, Option.bind_none, Option.none_or, Option.some_or, xAN, xNA, xSA, Option.bind_some, if_true, if_false, Sum.elim_inl, Sum.elim_inr, li0, li1, li2, li3, li4, li5, li6, li7, li8, li9, li10, li12, li16, li20, li24, li25, li31, li32, li40, li41, li42, li48, li57, li59, li97, li104, li105, li124, li126, li240, li241, nI_add, nI_subc, nI_subm, nI_mulc, nI_nm, pu_r, pu_t, pu_a, pu_le_t, pu_le_f, pu_lt_t, pu_lt_f, pu_eq_t, pu_eq_f, nm_eq, nm_eq2, nm_lt, nm_lt2, nm_le, nm_le2, nm_ss, nm_sp, pu_ss, pu_snq, pu_neq, eq_self, and_true, true_and, and_false, false_and, or_true, true_or, or_false, false_or, not_true_eq_false, not_false_eq_true, mX11_shares_0, tX11_shares_0, hL_shares, hb0]
    · simp (disch := omega) only [↓reduceIte, ↓needEb, ↓needAb, ↓needSb, ↓needE0l, ↓needE1l, ↓needA0l, ↓needA1l, ↓needS0l, ↓needS1l, ↓bnd c_isWhat, ↓bnd c_isSide, ↓bnd c_isLetter, ↓bnd c_isLength, ↓bnd c_isOften, ↓bnd r_in, ↓bnd r_isLetter, bI_t, bI_f, Bool.false_eq_true, Option.bind_none, Option.none_or, Option.some_or, xAN, xNA, xSA, Option.bind_some, if_true, if_false, Sum.elim_inl, Sum.elim_inr, li0, li1, li2, li3, li4, li5, li6, li7, li8, li9, li10, li12, li16, li20, li24, li25, li31, li32, li40, li41, li42, li48, li57, li59, li97, li104, li105, li124, li126, li240, li241, nI_add, nI_subc, nI_subm, nI_mulc, nI_nm, pu_r, pu_t, pu_a, pu_le_t, pu_le_f, pu_lt_t, pu_lt_f, pu_eq_t, pu_eq_f, nm_eq, nm_eq2, nm_lt, nm_lt2, nm_le, nm_le2, nm_ss, nm_sp, pu_ss, pu_snq, pu_neq, eq_self, and_true, true_and, and_false, false_and, or_true, true_or, or_false, false_or, not_true_eq_false, not_false_eq_true, nX12_shares, mX12_shares_63_J20, hb0, ↓bnd (r_bad0l hz), ↓bnd (r_bad10 hz), ↓bnd (r_bad11 hz), ↓bnd (r_bad21 hz), ↓bnd (r_bad22 hz)]
  | true =>
    exact qr_shares h ha a0 hb0
theorem s_sound {xs : Nat → Int32} {Lx : Nat} {i : Int32} {M : me_M} (h : Inv M) : ∃ M', sg_sound xs Lx i M = some M' ∧ Inv M' := by
  obtain ⟨T, n, m, W, X, t, F, S, P, D, ha⟩ := h.vA
  have hvs := ha.2.2.2.2.1
  have hS8 := hvs.2.1
  have hP1 := hvs.2.2.1
  have hP5 := hvs.2.2.2.1
  have hok := hvs.2.2.2.2.1
  have b1 := val9_b (S := S) (P := P) (D := D) (w := 1) hP1 hP5 hok
  have b2 := val9_b (S := S) (P := P) (D := D) (w := 2) hP1 hP5 hok
  have key : ∀ M1, (mX11_sound_0 M = some (bI (decide (val9 S P D 1 = 0 ∧ val9 S P D 2 = 0)), M1)) → fr (fun b k => ((b = 53 ∨ b = 58) ∧ 6 ≤ k) ∨ b = 57 ∨ b = 62) M M1 → ∃ M', sg_sound xs Lx i M = some M' ∧ Inv M' := fun M1 e1 f1 => by
    have hzf : fr (fun b k => ((b = 53 ∨ b = 58) ∧ 6 ≤ k) ∨ b = 57 ∨ b = 62 ∨ (b = 63 ∧ k = 0)) M (me_s M1 63 0 (nI 0)) := (f1.up (fun b k h => by omega)).st (by omega)
    have hrs : rS S P D (me_s M1 63 0 (nI 0)) := hvs.rS.fr hzf (by omega) (by omega) (fun b k _ _ => by omega)
    have h29 : (me_s M1 63 0 (nI 0)).1 63 29 = -nI 1 := by rw [hzf.2 _ _ (by omega)]; exact hvs.2.2.2.2.2.2.2.2.2.2.2
    obtain ⟨M2, e2, f2⟩ := r_sharesBy (w := 1) hrs (but_no hS8 h29) (by omega)
    have e2 : mX12_sharesBy_63 (me_s M1 63 0 (nI 0)) (nI 1) = some (nI (val9 S P D 1), M2) := e2
    obtain ⟨M3, e3, f3⟩ := r_sharesBy (w := 2) (hrs.fr f2 (by omega) (by omega) (fun b k _ _ => by omega)) (but_no hS8 (by rw [f2.2 _ _ (by omega)]; exact h29)) (by omega)
    have e3 : mX12_sharesBy_63 M2 (nI 2) = some (nI (val9 S P D 2), M3) := e3
    have i2 : Inv M2 := h.go ((hzf.up (fun b k h => by unfold scr; omega)).tr (f2.up (fun b k h => by unfold scr; omega)))
    have i3 : Inv M3 := i2.go (f3.up (fun b k h => by unfold scr; omega))
    by_cases c1 : val9 S P D 1 = 0
    · by_cases c2 : val9 S P D 2 = 0
      · rw [decide_eq_true ⟨c1, c2⟩, bI_t] at e1
        refine ⟨M3, ?_, i3⟩
        simp (disch := omega) only [Option.bind_some, if_true, if_false, Sum.elim_inl, Sum.elim_inr, li0, li1, li2, li3, li4, li5, li6, li7, li8, li9, li10, li12, li16, li20, li24, li25, li31, li32, li40, li41, li42, li48, li57, li59, li97, li104, li105, li124, li126, li240, li241, nI_add, nI_subc, nI_subm, nI_mulc, nI_nm, pu_r, pu_t, pu_a, pu_le_t, pu_le_f, pu_lt_t, pu_lt_f, pu_eq_t, pu_eq_f, nm_eq, nm_eq2, nm_lt, nm_lt2, nm_le, nm_le2, nm_ss, nm_sp, pu_ss, pu_snq, pu_neq, eq_self, and_true, true_and, and_false, false_and, or_true, true_or, or_false, false_or, not_true_eq_false, not_false_eq_true, sg_sound, e1, mX12_sound_63, e2, e3]
      · rw [decide_eq_false (fun z => c2 z.2), bI_f] at e1
        refine ⟨M3, ?_, i3⟩
        simp (disch := omega) only [Option.bind_some, if_true, if_false, Sum.elim_inl, Sum.elim_inr, li0, li1, li2, li3, li4, li5, li6, li7, li8, li9, li10, li12, li16, li20, li24, li25, li31, li32, li40, li41, li42, li48, li57, li59, li97, li104, li105, li124, li126, li240, li241, nI_add, nI_subc, nI_subm, nI_mulc, nI_nm, pu_r, pu_t, pu_a, pu_le_t, pu_le_f, pu_lt_t, pu_lt_f, pu_eq_t, pu_eq_f, nm_eq, nm_eq2, nm_lt, nm_lt2, nm_le, nm_le2, nm_ss, nm_sp, pu_ss, pu_snq, pu_neq, eq_self, and_true, true_and, and_false, false_and, or_true, true_or, or_false, false_or, not_true_eq_false, not_false_eq_true, sg_sound, e1, mX12_sound_63, e2, e3]
    · rw [decide_eq_false (fun z => c1 z.1), bI_f] at e1
      refine ⟨M2, ?_, i2⟩
      simp (disch := omega) only [Option.bind_some, if_true, if_false, Sum.elim_inl, Sum.elim_inr, li0, li1, li2, li3, li4, li5, li6, li7, li8, li9, li10, li12, li16, li20, li24, li25, li31, li32, li40, li41, li42, li48, li57, li59, li97, li104, li105, li124, li126, li240, li241, nI_add, nI_subc, nI_subm, nI_mulc, nI_nm, pu_r, pu_t, pu_a, pu_le_t, pu_le_f, pu_lt_t, pu_lt_f, pu_eq_t, pu_eq_f, nm_eq, nm_eq2, nm_lt, nm_lt2, nm_le, nm_le2, nm_ss, nm_sp, pu_ss, pu_snq, pu_neq, eq_self, and_true, true_and, and_false, false_and, or_true, true_or, or_false, false_or, not_true_eq_false, not_false_eq_true, sg_sound, e1, mX12_sound_63, e2]
  rcases plan_sch hvs with ⟨p53, p58, hs⟩ | ⟨p53, p58, hs⟩
  · obtain ⟨M1, e1, f1, g1⟩ := c_survey (sh := 57) hS8 hP1 hP5 hok hs (by omega)
    obtain ⟨g7, g8, g9⟩ := cnt9_val hS8 g1
    have q53 : (M1.2.1 0 = 53) = True := by rw [f1.1]; exact p53
    refine key M1 ?_ (f1.up (fun b k h => by omega))
    by_cases c1 : val9 S P D 1 = 0
    · by_cases c2 : val9 S P D 2 = 0
      · rw [decide_eq_true ⟨c1, c2⟩, bI_t]
        simp (disch := omega) only [Option.bind_some, if_true, if_false, Sum.elim_inl, Sum.elim_inr, li0, li1, li2, li3, li4, li5, li6, li7, li8, li9, li10, li12, li16, li20, li24, li25, li31, li32, li40, li41, li42, li48, li57, li59, li97, li104, li105, li124, li126, li240, li241, nI_add, nI_subc, nI_subm, nI_mulc, nI_nm, pu_r, pu_t, pu_a, pu_le_t, pu_le_f, pu_lt_t, pu_lt_f, pu_eq_t, pu_eq_f, nm_eq, nm_eq2, nm_lt, nm_lt2, nm_le, nm_le2, nm_ss, nm_sp, pu_ss, pu_snq, pu_neq, eq_self, and_true, true_and, and_false, false_and, or_true, true_or, or_false, false_or, not_true_eq_false, not_false_eq_true, mX11_sound_0, p53, eX5_surveyShares_53, e1, q53, g8, g9]
      · rw [decide_eq_false (fun z => c2 z.2), bI_f]
        simp (disch := omega) only [Option.bind_some, if_true, if_false, Sum.elim_inl, Sum.elim_inr, li0, li1, li2, li3, li4, li5, li6, li7, li8, li9, li10, li12, li16, li20, li24, li25, li31, li32, li40, li41, li42, li48, li57, li59, li97, li104, li105, li124, li126, li240, li241, nI_add, nI_subc, nI_subm, nI_mulc, nI_nm, pu_r, pu_t, pu_a, pu_le_t, pu_le_f, pu_lt_t, pu_lt_f, pu_eq_t, pu_eq_f, nm_eq, nm_eq2, nm_lt, nm_lt2, nm_le, nm_le2, nm_ss, nm_sp, pu_ss, pu_snq, pu_neq, eq_self, and_true, true_and, and_false, false_and, or_true, true_or, or_false, false_or, not_true_eq_false, not_false_eq_true, mX11_sound_0, p53, eX5_surveyShares_53, e1, q53, g8, g9]
    · rw [decide_eq_false (fun z => c1 z.1), bI_f]
      simp (disch := omega) only [Option.bind_some, if_true, if_false, Sum.elim_inl, Sum.elim_inr, li0, li1, li2, li3, li4, li5, li6, li7, li8, li9, li10, li12, li16, li20, li24, li25, li31, li32, li40, li41, li42, li48, li57, li59, li97, li104, li105, li124, li126, li240, li241, nI_add, nI_subc, nI_subm, nI_mulc, nI_nm, pu_r, pu_t, pu_a, pu_le_t, pu_le_f, pu_lt_t, pu_lt_f, pu_eq_t, pu_eq_f, nm_eq, nm_eq2, nm_lt, nm_lt2, nm_le, nm_le2, nm_ss, nm_sp, pu_ss, pu_snq, pu_neq, eq_self, and_true, true_and, and_false, false_and, or_true, true_or, or_false, false_or, not_true_eq_false, not_false_eq_true, mX11_sound_0, p53, eX5_surveyShares_53, e1, q53, g8, g9]
  · obtain ⟨M1, e1, f1, g1⟩ := c_survey (sh := 62) hS8 hP1 hP5 hok hs (by omega)
    obtain ⟨g7, g8, g9⟩ := cnt9_val hS8 g1
    have q53 : (M1.2.1 0 = 53) = False := by rw [f1.1]; exact p53
    have q58 : (M1.2.1 0 = 58) = True := by rw [f1.1]; exact p58
    refine key M1 ?_ (f1.up (fun b k h => by omega))
    by_cases c1 : val9 S P D 1 = 0
    · by_cases c2 : val9 S P D 2 = 0
      · rw [decide_eq_true ⟨c1, c2⟩, bI_t]
        simp (disch := omega) only [Option.bind_some, if_true, if_false, Sum.elim_inl, Sum.elim_inr, li0, li1, li2, li3, li4, li5, li6, li7, li8, li9, li10, li12, li16, li20, li24, li25, li31, li32, li40, li41, li42, li48, li57, li59, li97, li104, li105, li124, li126, li240, li241, nI_add, nI_subc, nI_subm, nI_mulc, nI_nm, pu_r, pu_t, pu_a, pu_le_t, pu_le_f, pu_lt_t, pu_lt_f, pu_eq_t, pu_eq_f, nm_eq, nm_eq2, nm_lt, nm_lt2, nm_le, nm_le2, nm_ss, nm_sp, pu_ss, pu_snq, pu_neq, eq_self, and_true, true_and, and_false, false_and, or_true, true_or, or_false, false_or, not_true_eq_false, not_false_eq_true, mX11_sound_0, p53, p58, eX5_surveyShares_58, e1, q53, q58, g8, g9]
      · rw [decide_eq_false (fun z => c2 z.2), bI_f]
        simp (disch := omega) only [Option.bind_some, if_true, if_false, Sum.elim_inl, Sum.elim_inr, li0, li1, li2, li3, li4, li5, li6, li7, li8, li9, li10, li12, li16, li20, li24, li25, li31, li32, li40, li41, li42, li48, li57, li59, li97, li104, li105, li124, li126, li240, li241, nI_add, nI_subc, nI_subm, nI_mulc, nI_nm, pu_r, pu_t, pu_a, pu_le_t, pu_le_f, pu_lt_t, pu_lt_f, pu_eq_t, pu_eq_f, nm_eq, nm_eq2, nm_lt, nm_lt2, nm_le, nm_le2, nm_ss, nm_sp, pu_ss, pu_snq, pu_neq, eq_self, and_true, true_and, and_false, false_and, or_true, true_or, or_false, false_or, not_true_eq_false, not_false_eq_true, mX11_sound_0, p53, p58, eX5_surveyShares_58, e1, q53, q58, g8, g9]
    · rw [decide_eq_false (fun z => c1 z.1), bI_f]
      simp (disch := omega) only [Option.bind_some, if_true, if_false, Sum.elim_inl, Sum.elim_inr, li0, li1, li2, li3, li4, li5, li6, li7, li8, li9, li10, li12, li16, li20, li24, li25, li31, li32, li40, li41, li42, li48, li57, li59, li97, li104, li105, li124, li126, li240, li241, nI_add, nI_subc, nI_subm, nI_mulc, nI_nm, pu_r, pu_t, pu_a, pu_le_t, pu_le_f, pu_lt_t, pu_lt_f, pu_eq_t, pu_eq_f, nm_eq, nm_eq2, nm_lt, nm_lt2, nm_le, nm_le2, nm_ss, nm_sp, pu_ss, pu_snq, pu_neq, eq_self, and_true, true_and, and_false, false_and, or_true, true_or, or_false, false_or, not_true_eq_false, not_false_eq_true, mX11_sound_0, p53, p58, eX5_surveyShares_58, e1, q53, q58, g8, g9]
theorem nl_bits0 : ∀ b0 b1 b2 b3 b4 b5 b6 b7 : Bool, ∀ S : Fin 9, ((nI 1 <<< (nI S.val &&& nI 31)) - nI 1) &&& (nI (bt (b8 b0 b1 b2 b3 b4 b5 b6 b7) 8) ^^^ -nI 1) = nI (bt (fun i => decide (i < S.val) && !b8 b0 b1 b2 b3 b4 b5 b6 b7 i) 8) := by decide +kernel
theorem nl_bits (P : Nat → Bool) {S : Nat} (hS : S ≤ 8) : ((nI 1 <<< (nI S &&& nI 31)) - nI 1) &&& (nI (bt P 8) ^^^ -nI 1) = nI (bt (fun i => decide (i < S) && !P i) 8) := by
  have h := nl_bits0 (P 0) (P 1) (P 2) (P 3) (P 4) (P 5) (P 6) (P 7) ⟨S, by omega⟩
  rw [bt_congr 8 (b8_of P), h]
  congr 1
theorem by_k {B P S k : Nat} {D : Nat → Nat → Nat → Nat} {v : Nat} (hk : k < S) : by9 B P S D (fun _ => false) v = by9 B P S D (fun s => decide (s = k)) v + (if cov B P D v k = true then 1 else 0) := by
  unfold by9
  have := ct_split (fun s => cov B P D v s) S k hk
  rw [show ct (fun s => !(fun _ => false) s && cov B P D v s) S = ct (fun s => cov B P D v s) S from rfl, this]
  congr 1
  exact ct_congr S (fun i _ => Bool.and_comm _ _)
theorem nl_iff {S P k : Nat} {D : Nat → Nat → Nat → Nat} (hS : S ≤ 8) (hk : k < S) : (ct (fun v => okv (bud S P D) P v && cd9 1 (by9 (bud S P D + 1) P S D (fun s => decide (s = k)) v)) ((bud S P D + 1) ^ P) = val9 S P D 1) ↔ nE9 (bud S P D) P S D ((bud S P D + 1) ^ P) k = false := by
  generalize hb : bud S P D = b
  have hv : val9 S P D 1 = ct (fun v => okv b P v && cd9 1 (by9 (b + 1) P S D (fun _ => false) v)) ((b + 1) ^ P) := by unfold val9; rw [hb]
  rw [hv]
  have cd1 : ∀ y, cd9 1 y = true ↔ y = 0 := fun y => by unfold cd9; rw [decide_eq_true_eq]; omega
  have hsub : ∀ v, v < (b + 1) ^ P → (okv b P v && cd9 1 (by9 (b + 1) P S D (fun _ => false) v)) = true → (okv b P v && cd9 1 (by9 (b + 1) P S D (fun s => decide (s = k)) v)) = true := fun v _ hh => by
    rw [Bool.and_eq_true, cd1] at hh ⊢
    have := by_k (B := b + 1) (P := P) (D := D) (v := v) hk
    exact ⟨hh.1, by omega⟩
  have hne : ∀ v, (okv b P v = true ∧ tms (b + 1) P S D v = 1 ∧ cvS (b + 1) P S D v k = true) ↔ (okv b P v = true ∧ by9 (b + 1) P S D (fun s => decide (s = k)) v = 0 ∧ by9 (b + 1) P S D (fun _ => false) v ≠ 0) := fun v => by
    have h1 := by_k (B := b + 1) (P := P) (D := D) (v := v) hk
    rw [tms_by hS]
    have h2 : cvS (b + 1) P S D v k = cov (b + 1) P D v k := by unfold cvS; rw [decide_eq_true hk]; rfl
    rw [h2]
    cases hc : cov (b + 1) P D v k with
    | true =>
      rw [hc, if_pos rfl] at h1
      exact ⟨fun z => ⟨z.1, by omega, by omega⟩, fun z => ⟨z.1, by omega, rfl⟩⟩
    | false =>
      rw [hc, if_neg (by decide)] at h1
      exact ⟨fun z => (by cases z.2.2), fun z => (by omega)⟩
  refine ⟨fun he => ?_, fun he => ?_⟩
  · refine decide_eq_false (fun ⟨v, v1, v2⟩ => ?_)
    obtain ⟨z1, z2, z3⟩ := (hne v).mp v2
    have := ct_lt ((b + 1) ^ P) hsub v v1 (by
      show (okv b P v && cd9 1 (by9 (b + 1) P S D (fun _ => false) v)) = false
      rw [z1, Bool.true_and]
      exact decide_eq_false (by omega)) (by
      show (okv b P v && cd9 1 (by9 (b + 1) P S D (fun s => decide (s = k)) v)) = true
      rw [z1, Bool.true_and]
      exact (cd1 _).mpr z2)
    omega
  · have he := of_decide_eq_false he
    refine ct_congr _ (fun v hv9 => ?_)
    rw [Bool.eq_iff_iff]
    refine ⟨fun z => ?_, hsub v hv9⟩
    rw [Bool.and_eq_true, cd1] at z ⊢
    refine ⟨z.1, ?_⟩
    rcases Nat.decEq (by9 (b + 1) P S D (fun _ => false) v) 0 with y | y
    · exact absurd ⟨v, hv9, (hne v).mpr ⟨z.1, z.2, y⟩⟩ he
    · exact y
theorem s_needless {xs : Nat → Int32} {Lx : Nat} {i : Int32} {M : me_M} (h : Inv M) : ∃ M', sg_needless xs Lx i M = some M' ∧ Inv M' := by
  obtain ⟨T, n, m, W, X, t, F, S, P, D, ha⟩ := h.vA
  have hvs := ha.2.2.2.2.1
  have hS8 := hvs.2.1
  have hP1 := hvs.2.2.1
  have hP5 := hvs.2.2.2.1
  have hok := hvs.2.2.2.2.1
  have hb4 := bud_le hP1 hP5 hok
  have hpw := pw_b hb4 hP5
  have b1 := val9_b (S := S) (P := P) (D := D) (w := 1) hP1 hP5 hok
  have key : ∀ M1, (mX11_needless_0 M = some (nI (bt (fun i => decide (i < S) && !nE9 (bud S P D) P S D ((bud S P D + 1) ^ P) i) 8), M1)) → fr (fun b k => ((b = 53 ∨ b = 58) ∧ 6 ≤ k) ∨ b = 57 ∨ b = 62) M M1 → ∃ M', sg_needless xs Lx i M = some M' ∧ Inv M' := fun M1 e1 f1 => by
    have hzf : fr (fun b k => ((b = 53 ∨ b = 58) ∧ 6 ≤ k) ∨ b = 57 ∨ b = 62 ∨ (b = 63 ∧ k = 0)) M (me_s M1 63 0 (nI 0)) := (f1.up (fun b k h => by omega)).st (by omega)
    have hrs : rS S P D (me_s M1 63 0 (nI 0)) := hvs.rS.fr hzf (by omega) (by omega) (fun b k _ _ => by omega)
    have h29 : (me_s M1 63 0 (nI 0)).1 63 29 = -nI 1 := by rw [hzf.2 _ _ (by omega)]; exact hvs.2.2.2.2.2.2.2.2.2.2.2
    obtain ⟨M2, e2, f2⟩ := r_sharesBy (w := 1) hrs (but_no hS8 h29) (by omega)
    have e2 : mX12_sharesBy_63 (me_s M1 63 0 (nI 0)) (nI 1) = some (nI (val9 S P D 1), M2) := e2
    have hrs2 := hrs.fr f2 (by omega) (by omega) (fun b k _ _ => by omega)
    obtain ⟨r, e, hr⟩ := lp_up (b := mX12_needless_63_L15 (nI (val9 S P D 1))) (fun x st => ∃ Mx, st = (nI (bt (fun i => decide (i < x) && !nE9 (bud S P D) P S D ((bud S P D + 1) ^ P) i) 8), nI x, Mx) ∧ fr (fun b k => b = 82 ∨ (b = 63 ∧ k = 29)) M2 Mx) (fun r => ∃ Mx, r = (nI (bt (fun i => decide (i < S) && !nE9 (bud S P D) P S D ((bud S P D + 1) ^ P) i) 8), Mx) ∧ fr (fun b k => b = 82 ∨ (b = 63 ∧ k = 29)) M2 Mx) (a := 0) (N := S) (by omega) (by omega) (fun x st _ hx hst => by
      obtain ⟨Mx, rfl, hf⟩ := hst
      left
      have hrx : rS S P D (me_s Mx 63 29 (nI x)) := hrs2.fr (hf.st (by omega)) (by omega) (by omega) (fun b k _ _ => by omega)
      have h77 : Mx.1 77 0 = nI S := by rw [hf.2 _ _ (by omega)]; exact hrs2.2.2.2.2.1
      obtain ⟨M3, e3, f3⟩ := r_sharesBy (w := 1) (ex := fun s => decide (s = x)) hrx (fun s hs => by
        rw [pu_ss]
        by_cases z : s = x
        · rw [z, decide_eq_true rfl]; simp
        · rw [decide_eq_false z, pu_eq_f z (by omega) (by omega)]; simp) (by omega)
      have hle : ct (fun v => okv (bud S P D) P v && cd9 1 (by9 (bud S P D + 1) P S D (fun s => decide (s = x)) v)) ((bud S P D + 1) ^ P) ≤ (bud S P D + 1) ^ P := ct_le _ _
      have hnl := nl_iff (P := P) (D := D) hS8 hx
      generalize ct (fun v => okv (bud S P D) P v && cd9 1 (by9 (bud S P D + 1) P S D (fun s => decide (s = x)) v)) ((bud S P D + 1) ^ P) = y at *
      refine ⟨_, ?_, M3, rfl, (hf.st (by omega)).tr (f3.up (fun b k h => by omega))⟩
      simp only [mX12_needless_63_L15, mX12_needless_63_J47]
      cases hq : nE9 (bud S P D) P S D ((bud S P D + 1) ^ P) x with
      | false =>
        have hy := hnl.mpr hq
        have ee : nI (bt (fun i => decide (i < x) && !nE9 (bud S P D) P S D ((bud S P D + 1) ^ P) i) 8) ||| (nI 1 <<< (nI x &&& nI 31)) = nI (bt (fun i => decide (i < x + 1) && !nE9 (bud S P D) P S D ((bud S P D + 1) ^ P) i) 8) := by
          rw [bt_or _ (by omega)]
          congr 1
          refine bt_congr 8 (fun i _ => ?_)
          by_cases z : i = x
          · subst z
            rw [hq, decide_eq_true (show i = i from rfl), decide_eq_true (show i < i + 1 by omega), Bool.or_true]; rfl
          · rw [decide_eq_false z, Bool.or_false]
            by_cases w : i < x
            · rw [decide_eq_true w, decide_eq_true (show i < x + 1 by omega)]
            · rw [decide_eq_false w, decide_eq_false (show ¬ i < x + 1 by omega)]
        simp (disch := omega) only [Option.bind_some, if_true, if_false, Sum.elim_inl, Sum.elim_inr, li0, li1, li2, li3, li4, li5, li6, li7, li8, li9, li10, li12, li16, li20, li24, li25, li31, li32, li40, li41, li42, li48, li57, li59, li97, li104, li105, li124, li126, li240, li241, nI_add, nI_subc, nI_subm, nI_mulc, nI_nm, pu_r, pu_t, pu_a, pu_le_t, pu_le_f, pu_lt_t, pu_lt_f, pu_eq_t, pu_eq_f, nm_eq, nm_eq2, nm_lt, nm_lt2, nm_le, nm_le2, nm_ss, nm_sp, pu_ss, pu_snq, pu_neq, eq_self, and_true, true_and, and_false, false_and, or_true, true_or, or_false, false_or, not_true_eq_false, not_false_eq_true, h77, e3, ee]
      | true =>
        have hy : ¬ y = val9 S P D 1 := fun z => by rw [hnl.mp z] at hq; cases hq
        have ee : bt (fun i => decide (i < x + 1) && !nE9 (bud S P D) P S D ((bud S P D + 1) ^ P) i) 8 = bt (fun i => decide (i < x) && !nE9 (bud S P D) P S D ((bud S P D + 1) ^ P) i) 8 := by
          refine bt_congr 8 (fun i _ => ?_)
          by_cases z : i = x
          · subst z
            rw [hq, Bool.not_true, Bool.and_false, Bool.and_false]
          · by_cases w : i < x
            · rw [decide_eq_true w, decide_eq_true (show i < x + 1 by omega)]
            · rw [decide_eq_false w, decide_eq_false (show ¬ i < x + 1 by omega)]
        simp (disch := omega) only [Option.bind_some, if_true, if_false, Sum.elim_inl, Sum.elim_inr, li0, li1, li2, li3, li4, li5, li6, li7, li8, li9, li10, li12, li16, li20, li24, li25, li31, li32, li40, li41, li42, li48, li57, li59, li97, li104, li105, li124, li126, li240, li241, nI_add, nI_subc, nI_subm, nI_mulc, nI_nm, pu_r, pu_t, pu_a, pu_le_t, pu_le_f, pu_lt_t, pu_lt_f, pu_eq_t, pu_eq_f, nm_eq, nm_eq2, nm_lt, nm_lt2, nm_le, nm_le2, nm_ss, nm_sp, pu_ss, pu_snq, pu_neq, eq_self, and_true, true_and, and_false, false_and, or_true, true_or, or_false, false_or, not_true_eq_false, not_false_eq_true, h77, e3, ee, or_z]) (fun st hst => by
      obtain ⟨Mx, rfl, hf⟩ := hst
      have h77 : Mx.1 77 0 = nI S := by rw [hf.2 _ _ (by omega)]; exact hrs2.2.2.2.2.1
      refine ⟨_, ?_, Mx, rfl, hf⟩
      simp only [mX12_needless_63_L15]
      simp (disch := omega) only [Option.bind_some, if_true, if_false, Sum.elim_inl, Sum.elim_inr, li0, li1, li2, li3, li4, li5, li6, li7, li8, li9, li10, li12, li16, li20, li24, li25, li31, li32, li40, li41, li42, li48, li57, li59, li97, li104, li105, li124, li126, li240, li241, nI_add, nI_subc, nI_subm, nI_mulc, nI_nm, pu_r, pu_t, pu_a, pu_le_t, pu_le_f, pu_lt_t, pu_lt_f, pu_eq_t, pu_eq_f, nm_eq, nm_eq2, nm_lt, nm_lt2, nm_le, nm_le2, nm_ss, nm_sp, pu_ss, pu_snq, pu_neq, eq_self, and_true, true_and, and_false, false_and, or_true, true_or, or_false, false_or, not_true_eq_false, not_false_eq_true, h77]) (s0 := (nI 0, nI 0, M2)) ⟨M2, by
        rw [bt_congr (P := fun i => decide (i < 0) && !nE9 (bud S P D) P S D ((bud S P D + 1) ^ P) i) (Q := fun _ => false) 8 (fun i _ => by rw [decide_eq_false (Nat.not_lt_zero _), Bool.false_and])]
        rfl, fr.rf⟩
    obtain ⟨Mx, rfl, hf⟩ := hr
    refine ⟨me_s Mx 63 29 (-nI 1), ?_, ?_⟩
    · simp (disch := omega) only [Option.bind_some, if_true, if_false, Sum.elim_inl, Sum.elim_inr, li0, li1, li2, li3, li4, li5, li6, li7, li8, li9, li10, li12, li16, li20, li24, li25, li31, li32, li40, li41, li42, li48, li57, li59, li97, li104, li105, li124, li126, li240, li241, nI_add, nI_subc, nI_subm, nI_mulc, nI_nm, pu_r, pu_t, pu_a, pu_le_t, pu_le_f, pu_lt_t, pu_lt_f, pu_eq_t, pu_eq_f, nm_eq, nm_eq2, nm_lt, nm_lt2, nm_le, nm_le2, nm_ss, nm_sp, pu_ss, pu_snq, pu_neq, eq_self, and_true, true_and, and_false, false_and, or_true, true_or, or_false, false_or, not_true_eq_false, not_false_eq_true, sg_needless, e1, mX12_needless_63, e2, e]
    · have f4 : fr (fun b k => ((b = 53 ∨ b = 58) ∧ 6 ≤ k) ∨ b = 57 ∨ b = 62 ∨ (b = 63 ∧ (k = 0 ∨ k = 29)) ∨ b = 82) M (me_s Mx 63 29 (-nI 1)) := ((hzf.up (fun b k h => by omega)).tr ((f2.up (fun b k h => by omega)).tr (hf.up (fun b k h => by omega)))).st (by omega)
      refine h.go ⟨f4.1, fun b k hbk => ?_⟩
      by_cases z : b = 63 ∧ k = 29
      · rw [z.1, z.2, pu_ss]; exact hvs.2.2.2.2.2.2.2.2.2.2.2.symm
      · exact f4.2 b k (fun q => hbk (by unfold scr; omega))
  rcases plan_sch hvs with ⟨p53, p58, hs⟩ | ⟨p53, p58, hs⟩
  · obtain ⟨M1, e1, f1, g1⟩ := c_survey (sh := 57) hS8 hP1 hP5 hok hs (by omega)
    have q53 : (M1.2.1 0 = 53) = True := by rw [f1.1]; exact p53
    have h4 : M1.1 53 4 = nI S := by rw [f1.2 _ _ (by omega)]; exact hs.1
    refine key M1 ?_ (f1.up (fun b k h => by omega))
    rw [← nl_bits _ hS8, ← g1.2.2.2]
    simp (disch := omega) only [Option.bind_some, if_true, if_false, Sum.elim_inl, Sum.elim_inr, li0, li1, li2, li3, li4, li5, li6, li7, li8, li9, li10, li12, li16, li20, li24, li25, li31, li32, li40, li41, li42, li48, li57, li59, li97, li104, li105, li124, li126, li240, li241, nI_add, nI_subc, nI_subm, nI_mulc, nI_nm, pu_r, pu_t, pu_a, pu_le_t, pu_le_f, pu_lt_t, pu_lt_f, pu_eq_t, pu_eq_f, nm_eq, nm_eq2, nm_lt, nm_lt2, nm_le, nm_le2, nm_ss, nm_sp, pu_ss, pu_snq, pu_neq, eq_self, and_true, true_and, and_false, false_and, or_true, true_or, or_false, false_or, not_true_eq_false, not_false_eq_true, mX11_needless_0, p53, eX5_surveyShares_53, e1, q53, h4]
  · obtain ⟨M1, e1, f1, g1⟩ := c_survey (sh := 62) hS8 hP1 hP5 hok hs (by omega)
    have q53 : (M1.2.1 0 = 53) = False := by rw [f1.1]; exact p53
    have q58 : (M1.2.1 0 = 58) = True := by rw [f1.1]; exact p58
    have h4 : M1.1 58 4 = nI S := by rw [f1.2 _ _ (by omega)]; exact hs.1
    refine key M1 ?_ (f1.up (fun b k h => by omega))
    rw [← nl_bits _ hS8, ← g1.2.2.2]
    simp (disch := omega) only [Option.bind_some, if_true, if_false, Sum.elim_inl, Sum.elim_inr, li0, li1, li2, li3, li4, li5, li6, li7, li8, li9, li10, li12, li16, li20, li24, li25, li31, li32, li40, li41, li42, li48, li57, li59, li97, li104, li105, li124, li126, li240, li241, nI_add, nI_subc, nI_subm, nI_mulc, nI_nm, pu_r, pu_t, pu_a, pu_le_t, pu_le_f, pu_lt_t, pu_lt_f, pu_eq_t, pu_eq_f, nm_eq, nm_eq2, nm_lt, nm_lt2, nm_le, nm_le2, nm_ss, nm_sp, pu_ss, pu_snq, pu_neq, eq_self, and_true, true_and, and_false, false_and, or_true, true_or, or_false, false_or, not_true_eq_false, not_false_eq_true, mX11_needless_0, p53, p58, eX5_surveyShares_58, e1, q53, q58, h4]
