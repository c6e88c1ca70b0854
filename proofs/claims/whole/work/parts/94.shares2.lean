/-! ===== calls: shares, sound, needless ===== -/
def tms (B P S : Nat) (D : Nat → Nat → Nat → Nat) (v : Nat) : Nat := ct (cvS B P S D v) 8
def nE9 (b P S : Nat) (D : Nat → Nat → Nat → Nat) (v s : Nat) : Bool := decide (∃ w, w < v ∧ (okv b P w = true ∧ tms (b + 1) P S D w = 1 ∧ cvS (b + 1) P S D w s = true))
def cnt9 (ob b P S : Nat) (D : Nat → Nat → Nat → Nat) (v : Nat) (M : me_M) : Prop := M.1 ob 7 = nI (ct (okv b P) v) ∧ M.1 ob 8 = nI (ct (fun w => okv b P w && decide (tms (b + 1) P S D w = 0)) v) ∧ M.1 ob 9 = nI (ct (fun w => okv b P w && decide (1 < tms (b + 1) P S D w)) v) ∧ M.1 ob 10 = nI (bt (nE9 b P S D v) 8)
theorem nE9_s {b P S : Nat} {D : Nat → Nat → Nat → Nat} {v s : Nat} : nE9 b P S D (v + 1) s = (nE9 b P S D v s || (okv b P v && (decide (tms (b + 1) P S D v = 1) && cvS (b + 1) P S D v s))) := by
  unfold nE9
  rw [Bool.eq_iff_iff, Bool.or_eq_true, Bool.and_eq_true, Bool.and_eq_true, decide_eq_true_eq, decide_eq_true_eq, decide_eq_true_eq]
  refine ⟨fun ⟨w, w1, w2⟩ => ?_, fun h => ?_⟩
  · by_cases e : w = v
    · rw [e] at w2; exact Or.inr w2
    · exact Or.inl ⟨w, by omega, w2⟩
  · rcases h with ⟨w, w1, w2⟩ | h
    · exact ⟨w, by omega, w2⟩
    · exact ⟨v, by omega, h⟩
theorem cnt9_skip {ob b P S : Nat} {D : Nat → Nat → Nat → Nat} {M : me_M} {v : Nat} : ∀ v', v ≤ v' → (∀ w, v ≤ w → w < v' → okv b P w = false) → cnt9 ob b P S D v M → cnt9 ob b P S D v' M := fun v' h hno hc => by
  obtain ⟨h1, h2, h3, h4⟩ := hc
  refine ⟨?_, ?_, ?_, ?_⟩
  · rw [ct_cut v' h (fun i a b => hno i a b)]; exact h1
  · rw [ct_cut v' h (fun i a b => by rw [hno i a b, Bool.false_and])]; exact h2
  · rw [ct_cut v' h (fun i a b => by rw [hno i a b, Bool.false_and])]; exact h3
  · rw [h4]
    congr 1
    refine bt_congr 8 (fun s _ => ?_)
    unfold nE9
    rw [Bool.eq_iff_iff, decide_eq_true_eq, decide_eq_true_eq]
    refine ⟨fun ⟨w, w1, w2⟩ => ⟨w, by omega, w2⟩, fun ⟨w, w1, w2⟩ => ⟨w, ?_, w2⟩⟩
    rcases Nat.lt_or_ge w v with z | z
    · exact z
    · rw [hno w z w1] at w2; cases w2.1
/-- one bit alone -/
theorem bt_single {C : Nat → Bool} (h : ct C 8 = 1) : ∃ c, c < 8 ∧ C c = true ∧ nI (bt C 8) = nI 1 <<< (nI c &&& nI 31) := by
  obtain ⟨c, c1, c2, c3⟩ := ct_at (K := C) 8 0 (by omega)
  have hu : ∀ i, i < 8 → C i = true → i = c := fun i hi hC => by
    rcases Nat.lt_or_ge i c with z | z
    · have a : ct C (i + 1) = ct C i + 1 := by rw [ct_s, hC]; rfl
      have b : ct C (i + 1) ≤ ct C c := ct_mono' _ (by omega)
      omega
    · rcases Nat.lt_or_ge c i with y | y
      · have a : ct C (c + 1) = ct C c + 1 := by rw [ct_s, c2]; rfl
        have a2 : ct C (i + 1) = ct C i + 1 := by rw [ct_s, hC]; rfl
        have b : ct C (c + 1) ≤ ct C i := ct_mono' _ (by omega)
        have b2 : ct C (i + 1) ≤ ct C 8 := ct_mono' _ (by omega)
        omega
      · omega
  refine ⟨c, c1, c2, ?_⟩
  have e : bt C 8 = bt (fun i => (fun _ => false) i || decide (i = c)) 8 := bt_congr 8 (fun i hi => by
    by_cases z : i = c
    · rw [z, c2, decide_eq_true rfl]; rfl
    · rw [decide_eq_false z]
      cases hC : C i with
      | false => rfl
      | true => exact absurd (hu i hi hC) z)
  rw [e, ← bt_or (fun _ => false) c1, show nI (bt (fun _ => false) 8) = nI 0 from rfl, nI_0, Int32.zero_or]
theorem bt_or1 (A : Nat → Bool) {C : Nat → Bool} (h : ct C 8 = 1) : nI (bt A 8) ||| nI (bt C 8) = nI (bt (fun i => A i || C i) 8) := by
  obtain ⟨c, c1, c2, c3⟩ := bt_single h
  rw [c3, bt_or _ c1]
  congr 1
  refine bt_congr 8 (fun i hi => ?_)
  congr 1
  by_cases z : i = c
  · rw [z, c2, decide_eq_true rfl]
  · rw [decide_eq_false z]
    cases hC : C i with
    | false => rfl
    | true =>
      exfalso
      rcases Nat.lt_or_ge i c with y | y
      · have a : ct C (i + 1) = ct C i + 1 := by rw [ct_s, hC]; rfl
        have a2 : ct C (c + 1) = ct C c + 1 := by rw [ct_s, c2]; rfl
        have b : ct C (i + 1) ≤ ct C c := ct_mono' _ (by omega)
        have b2 : ct C (c + 1) ≤ ct C 8 := ct_mono' _ (by omega)
        omega
      · have a : ct C (c + 1) = ct C c + 1 := by rw [ct_s, c2]; rfl
        have a2 : ct C (i + 1) = ct C i + 1 := by rw [ct_s, hC]; rfl
        have b : ct C (c + 1) ≤ ct C i := ct_mono' _ (by omega)
        have b2 : ct C (i + 1) ≤ ct C 8 := ct_mono' _ (by omega)
        omega
theorem c_note9 {ob od le mo sh b P S v : Nat} {D : Nat → Nat → Nat → Nat} {M : me_M} (hv9 : v < 4000) (hv : okv b P v = true) (hc : cnt9 ob b P S D v M) : ∃ M', gX5_noteShare ob od le mo sh M (nI (bt (cvS (b + 1) P S D v) 8)) = some M' ∧ fr (fun x k => x = ob ∧ 7 ≤ k) M M' ∧ cnt9 ob b P S D (v + 1) M' := by
  obtain ⟨h1, h2, h3, h4⟩ := hc
  have hbc := bt_bc (cvS (b + 1) P S D v)
  have ht : ct (cvS (b + 1) P S D v) 8 = tms (b + 1) P S D v := rfl
  have ht8 : tms (b + 1) P S D v ≤ 8 := ct_le _ _
  rw [ht] at hbc
  have q1 := ct_le (okv b P) v
  have q2 := ct_le (fun w => okv b P w && decide (tms (b + 1) P S D w = 0)) v
  have q3 := ct_le (fun w => okv b P w && decide (1 < tms (b + 1) P S D w)) v
  have e1 : ct (okv b P) (v + 1) = ct (okv b P) v + 1 := by rw [ct_s, hv]; rfl
  unfold gX5_noteShare
  by_cases c0 : tms (b + 1) P S D v = 0
  · refine ⟨me_s (me_s M ob 7 (nI (ct (okv b P) v + 1))) ob 8 (nI (ct (fun w => okv b P w && decide (tms (b + 1) P S D w = 0)) v + 1)), ?_, (fr.s (by omega)).st (by omega), ?_, ?_, ?_, ?_⟩
    · simp (disch := omega) only [Option.bind_some, if_true, if_false, Sum.elim_inl, Sum.elim_inr, li0, li1, li2, li3, li4, li5, li6, li7, li8, li9, li10, li12, li16, li20, li24, li25, li31, li32, li40, li41, li42, li48, li57, li59, li97, li104, li105, li124, li126, li240, li241, nI_add, nI_subc, nI_subm, nI_mulc, nI_nm, pu_r, pu_t, pu_a, pu_le_t, pu_le_f, pu_lt_t, pu_lt_f, pu_eq_t, pu_eq_f, nm_eq, nm_eq2, nm_lt, nm_lt2, nm_le, nm_le2, nm_ss, nm_sp, pu_ss, pu_snq, pu_neq, eq_self, and_true, true_and, and_false, false_and, or_true, true_or, or_false, false_or, not_true_eq_false, not_false_eq_true, hbc, h1, h2]
    · rw [e1]; simp (disch := omega) only [Option.bind_some, if_true, if_false, Sum.elim_inl, Sum.elim_inr, li0, li1, li2, li3, li4, li5, li6, li7, li8, li9, li10, li12, li16, li20, li24, li25, li31, li32, li40, li41, li42, li48, li57, li59, li97, li104, li105, li124, li126, li240, li241, nI_add, nI_subc, nI_subm, nI_mulc, nI_nm, pu_r, pu_t, pu_a, pu_le_t, pu_le_f, pu_lt_t, pu_lt_f, pu_eq_t, pu_eq_f, nm_eq, nm_eq2, nm_lt, nm_lt2, nm_le, nm_le2, nm_ss, nm_sp, pu_ss, pu_snq, pu_neq, eq_self, and_true, true_and, and_false, false_and, or_true, true_or, or_false, false_or, not_true_eq_false, not_false_eq_true]
    · rw [ct_s, hv, decide_eq_true c0]; simp (disch := omega) only [Option.bind_some, if_true, if_false, Sum.elim_inl, Sum.elim_inr, li0, li1, li2, li3, li4, li5, li6, li7, li8, li9, li10, li12, li16, li20, li24, li25, li31, li32, li40, li41, li42, li48, li57, li59, li97, li104, li105, li124, li126, li240, li241, nI_add, nI_subc, nI_subm, nI_mulc, nI_nm, pu_r, pu_t, pu_a, pu_le_t, pu_le_f, pu_lt_t, pu_lt_f, pu_eq_t, pu_eq_f, nm_eq, nm_eq2, nm_lt, nm_lt2, nm_le, nm_le2, nm_ss, nm_sp, pu_ss, pu_snq, pu_neq, eq_self, and_true, true_and, and_false, false_and, or_true, true_or, or_false, false_or, not_true_eq_false, not_false_eq_true]; rfl
    · rw [ct_s, hv, decide_eq_false (show ¬ 1 < tms (b + 1) P S D v by omega)]; simp (disch := omega) only [Option.bind_some, if_true, if_false, Sum.elim_inl, Sum.elim_inr, li0, li1, li2, li3, li4, li5, li6, li7, li8, li9, li10, li12, li16, li20, li24, li25, li31, li32, li40, li41, li42, li48, li57, li59, li97, li104, li105, li124, li126, li240, li241, nI_add, nI_subc, nI_subm, nI_mulc, nI_nm, pu_r, pu_t, pu_a, pu_le_t, pu_le_f, pu_lt_t, pu_lt_f, pu_eq_t, pu_eq_f, nm_eq, nm_eq2, nm_lt, nm_lt2, nm_le, nm_le2, nm_ss, nm_sp, pu_ss, pu_snq, pu_neq, eq_self, and_true, true_and, and_false, false_and, or_true, true_or, or_false, false_or, not_true_eq_false, not_false_eq_true, h3]; rfl
    · simp (disch := omega) only [Option.bind_some, if_true, if_false, Sum.elim_inl, Sum.elim_inr, li0, li1, li2, li3, li4, li5, li6, li7, li8, li9, li10, li12, li16, li20, li24, li25, li31, li32, li40, li41, li42, li48, li57, li59, li97, li104, li105, li124, li126, li240, li241, nI_add, nI_subc, nI_subm, nI_mulc, nI_nm, pu_r, pu_t, pu_a, pu_le_t, pu_le_f, pu_lt_t, pu_lt_f, pu_eq_t, pu_eq_f, nm_eq, nm_eq2, nm_lt, nm_lt2, nm_le, nm_le2, nm_ss, nm_sp, pu_ss, pu_snq, pu_neq, eq_self, and_true, true_and, and_false, false_and, or_true, true_or, or_false, false_or, not_true_eq_false, not_false_eq_true, h4]
      congr 1
      refine bt_congr 8 (fun s _ => ?_)
      rw [nE9_s, decide_eq_false (show ¬ tms (b + 1) P S D v = 1 by omega), Bool.false_and, Bool.and_false, Bool.or_false]
  · by_cases c1 : tms (b + 1) P S D v = 1
    · have hor := bt_or1 (nE9 b P S D v) (C := cvS (b + 1) P S D v) c1
      refine ⟨me_s (me_s M ob 7 (nI (ct (okv b P) v + 1))) ob 10 (nI (bt (fun i => nE9 b P S D v i || cvS (b + 1) P S D v i) 8)), ?_, (fr.s (by omega)).st (by omega), ?_, ?_, ?_, ?_⟩
      · simp (disch := omega) only [Option.bind_some, if_true, if_false, Sum.elim_inl, Sum.elim_inr, li0, li1, li2, li3, li4, li5, li6, li7, li8, li9, li10, li12, li16, li20, li24, li25, li31, li32, li40, li41, li42, li48, li57, li59, li97, li104, li105, li124, li126, li240, li241, nI_add, nI_subc, nI_subm, nI_mulc, nI_nm, pu_r, pu_t, pu_a, pu_le_t, pu_le_f, pu_lt_t, pu_lt_f, pu_eq_t, pu_eq_f, nm_eq, nm_eq2, nm_lt, nm_lt2, nm_le, nm_le2, nm_ss, nm_sp, pu_ss, pu_snq, pu_neq, eq_self, and_true, true_and, and_false, false_and, or_true, true_or, or_false, false_or, not_true_eq_false, not_false_eq_true, hbc, h1, h4, hor]
      · rw [e1]; simp (disch := omega) only [Option.bind_some, if_true, if_false, Sum.elim_inl, Sum.elim_inr, li0, li1, li2, li3, li4, li5, li6, li7, li8, li9, li10, li12, li16, li20, li24, li25, li31, li32, li40, li41, li42, li48, li57, li59, li97, li104, li105, li124, li126, li240, li241, nI_add, nI_subc, nI_subm, nI_mulc, nI_nm, pu_r, pu_t, pu_a, pu_le_t, pu_le_f, pu_lt_t, pu_lt_f, pu_eq_t, pu_eq_f, nm_eq, nm_eq2, nm_lt, nm_lt2, nm_le, nm_le2, nm_ss, nm_sp, pu_ss, pu_snq, pu_neq, eq_self, and_true, true_and, and_false, false_and, or_true, true_or, or_false, false_or, not_true_eq_false, not_false_eq_true]
      · rw [ct_s, hv, decide_eq_false c0]; simp (disch := omega) only [Option.bind_some, if_true, if_false, Sum.elim_inl, Sum.elim_inr, li0, li1, li2, li3, li4, li5, li6, li7, li8, li9, li10, li12, li16, li20, li24, li25, li31, li32, li40, li41, li42, li48, li57, li59, li97, li104, li105, li124, li126, li240, li241, nI_add, nI_subc, nI_subm, nI_mulc, nI_nm, pu_r, pu_t, pu_a, pu_le_t, pu_le_f, pu_lt_t, pu_lt_f, pu_eq_t, pu_eq_f, nm_eq, nm_eq2, nm_lt, nm_lt2, nm_le, nm_le2, nm_ss, nm_sp, pu_ss, pu_snq, pu_neq, eq_self, and_true, true_and, and_false, false_and, or_true, true_or, or_false, false_or, not_true_eq_false, not_false_eq_true, h2]; rfl
      · rw [ct_s, hv, decide_eq_false (show ¬ 1 < tms (b + 1) P S D v by omega)]; simp (disch := omega) only [Option.bind_some, if_true, if_false, Sum.elim_inl, Sum.elim_inr, li0, li1, li2, li3, li4, li5, li6, li7, li8, li9, li10, li12, li16, li20, li24, li25, li31, li32, li40, li41, li42, li48, li57, li59, li97, li104, li105, li124, li126, li240, li241, nI_add, nI_subc, nI_subm, nI_mulc, nI_nm, pu_r, pu_t, pu_a, pu_le_t, pu_le_f, pu_lt_t, pu_lt_f, pu_eq_t, pu_eq_f, nm_eq, nm_eq2, nm_lt, nm_lt2, nm_le, nm_le2, nm_ss, nm_sp, pu_ss, pu_snq, pu_neq, eq_self, and_true, true_and, and_false, false_and, or_true, true_or, or_false, false_or, not_true_eq_false, not_false_eq_true, h3]; rfl
      · rw [pu_ss]
        congr 1
        refine bt_congr 8 (fun s _ => ?_)
        rw [nE9_s, decide_eq_true c1, hv, Bool.true_and, Bool.true_and]
    · refine ⟨me_s (me_s M ob 7 (nI (ct (okv b P) v + 1))) ob 9 (nI (ct (fun w => okv b P w && decide (1 < tms (b + 1) P S D w)) v + 1)), ?_, (fr.s (by omega)).st (by omega), ?_, ?_, ?_, ?_⟩
      · simp (disch := omega) only [Option.bind_some, if_true, if_false, Sum.elim_inl, Sum.elim_inr, li0, li1, li2, li3, li4, li5, li6, li7, li8, li9, li10, li12, li16, li20, li24, li25, li31, li32, li40, li41, li42, li48, li57, li59, li97, li104, li105, li124, li126, li240, li241, nI_add, nI_subc, nI_subm, nI_mulc, nI_nm, pu_r, pu_t, pu_a, pu_le_t, pu_le_f, pu_lt_t, pu_lt_f, pu_eq_t, pu_eq_f, nm_eq, nm_eq2, nm_lt, nm_lt2, nm_le, nm_le2, nm_ss, nm_sp, pu_ss, pu_snq, pu_neq, eq_self, and_true, true_and, and_false, false_and, or_true, true_or, or_false, false_or, not_true_eq_false, not_false_eq_true, hbc, h1, h3]
      · rw [e1]; simp (disch := omega) only [Option.bind_some, if_true, if_false, Sum.elim_inl, Sum.elim_inr, li0, li1, li2, li3, li4, li5, li6, li7, li8, li9, li10, li12, li16, li20, li24, li25, li31, li32, li40, li41, li42, li48, li57, li59, li97, li104, li105, li124, li126, li240, li241, nI_add, nI_subc, nI_subm, nI_mulc, nI_nm, pu_r, pu_t, pu_a, pu_le_t, pu_le_f, pu_lt_t, pu_lt_f, pu_eq_t, pu_eq_f, nm_eq, nm_eq2, nm_lt, nm_lt2, nm_le, nm_le2, nm_ss, nm_sp, pu_ss, pu_snq, pu_neq, eq_self, and_true, true_and, and_false, false_and, or_true, true_or, or_false, false_or, not_true_eq_false, not_false_eq_true]
      · rw [ct_s, hv, decide_eq_false c0]; simp (disch := omega) only [Option.bind_some, if_true, if_false, Sum.elim_inl, Sum.elim_inr, li0, li1, li2, li3, li4, li5, li6, li7, li8, li9, li10, li12, li16, li20, li24, li25, li31, li32, li40, li41, li42, li48, li57, li59, li97, li104, li105, li124, li126, li240, li241, nI_add, nI_subc, nI_subm, nI_mulc, nI_nm, pu_r, pu_t, pu_a, pu_le_t, pu_le_f, pu_lt_t, pu_lt_f, pu_eq_t, pu_eq_f, nm_eq, nm_eq2, nm_lt, nm_lt2, nm_le, nm_le2, nm_ss, nm_sp, pu_ss, pu_snq, pu_neq, eq_self, and_true, true_and, and_false, false_and, or_true, true_or, or_false, false_or, not_true_eq_false, not_false_eq_true, h2]; rfl
      · rw [ct_s, hv, decide_eq_true (show 1 < tms (b + 1) P S D v by omega)]; simp (disch := omega) only [Option.bind_some, if_true, if_false, Sum.elim_inl, Sum.elim_inr, li0, li1, li2, li3, li4, li5, li6, li7, li8, li9, li10, li12, li16, li20, li24, li25, li31, li32, li40, li41, li42, li48, li57, li59, li97, li104, li105, li124, li126, li240, li241, nI_add, nI_subc, nI_subm, nI_mulc, nI_nm, pu_r, pu_t, pu_a, pu_le_t, pu_le_f, pu_lt_t, pu_lt_f, pu_eq_t, pu_eq_f, nm_eq, nm_eq2, nm_lt, nm_lt2, nm_le, nm_le2, nm_ss, nm_sp, pu_ss, pu_snq, pu_neq, eq_self, and_true, true_and, and_false, false_and, or_true, true_or, or_false, false_or, not_true_eq_false, not_false_eq_true]; rfl
      · simp (disch := omega) only [Option.bind_some, if_true, if_false, Sum.elim_inl, Sum.elim_inr, li0, li1, li2, li3, li4, li5, li6, li7, li8, li9, li10, li12, li16, li20, li24, li25, li31, li32, li40, li41, li42, li48, li57, li59, li97, li104, li105, li124, li126, li240, li241, nI_add, nI_subc, nI_subm, nI_mulc, nI_nm, pu_r, pu_t, pu_a, pu_le_t, pu_le_f, pu_lt_t, pu_lt_f, pu_eq_t, pu_eq_f, nm_eq, nm_eq2, nm_lt, nm_lt2, nm_le, nm_le2, nm_ss, nm_sp, pu_ss, pu_snq, pu_neq, eq_self, and_true, true_and, and_false, false_and, or_true, true_or, or_false, false_or, not_true_eq_false, not_false_eq_true, h4]
        congr 1
        refine bt_congr 8 (fun s _ => ?_)
        rw [nE9_s, decide_eq_false c1, Bool.false_and, Bool.and_false, Bool.or_false]
theorem pw_b {b P : Nat} (hb : b ≤ 4) (hP : P ≤ 5) : (b + 1) ^ P ≤ 3125 := by
  have h1 : (b + 1) ^ P ≤ 5 ^ P := Nat.pow_le_pow_left (by omega) P
  have h2 : (5 : Nat) ^ P ≤ 5 ^ 5 := Nat.pow_le_pow_right (by omega) hP
  have h3 : (5 : Nat) ^ 5 = 3125 := by decide
  omega
theorem dg_z {B i : Nat} : dg B 0 i = 0 := by rw [dg_div, Nat.zero_div, Nat.zero_mod]
theorem sg9_z {B : Nat} : ∀ P, sg9 B 0 P = 0
  | 0 => sg9_0 _ _
  | P + 1 => by rw [sg9_s, Nat.zero_mod, Nat.zero_div, sg9_z P]
theorem c_survey {ob od le mo sh S P : Nat} {D : Nat → Nat → Nat → Nat} {M : me_M} (hS : S ≤ 8) (hP1 : 1 ≤ P) (hP5 : P ≤ 5) (hok : ∀ s, s < S → okd P (D s)) (hM : sch ob od le mo S P D M) (hd : ob ≠ sh ∧ od ≠ sh ∧ le ≠ sh ∧ mo ≠ sh ∧ od ≠ ob ∧ le ≠ ob ∧ mo ≠ ob) : ∃ M', gX5_surveyShares ob od le mo sh M = some M' ∧ fr (fun x k => (x = ob ∧ 6 ≤ k) ∨ x = sh) M M' ∧ cnt9 ob (bud S P D) P S D ((bud S P D + 1) ^ P) M' := by
  obtain ⟨d1, d2, d3, d4, d5, d6, d7⟩ := hd
  have hbud := c_budget (ob := ob) (od := od) (le := le) (mo := mo) (sh := sh) hS hP1 hP5 hok hM.1 hM.2.1 hM.2.2.2.2
  have hb := bud_le hP1 hP5 hok
  generalize bud S P D = b at *
  have hpw := pw_b hb hP5
  have hpos : 0 < (b + 1) ^ P := Nat.pow_pos (by omega)
  have h126 := ok_126 b (by omega) P (by omega)
  have hsch : ∀ Mx, fr (fun x k => (x = ob ∧ 6 ≤ k) ∨ x = sh) M Mx → sch ob od le mo S P D Mx := fun Mx hf => hM.fr hf (by omega) (by omega) (fun k => by omega) (fun k => by omega) (fun k => by omega)
  -- the first share
  obtain ⟨M1, e1, f1, g1⟩ : ∃ M1, gX5_firstShare ob od le mo sh (me_s (me_s (me_s (me_s M ob 7 (nI 0)) ob 8 (nI 0)) ob 9 (nI 0)) ob 10 (nI 0)) = some M1 ∧ fr (fun x k => (x = ob ∧ k = 6) ∨ x = sh) (me_s (me_s (me_s (me_s M ob 7 (nI 0)) ob 8 (nI 0)) ob 9 (nI 0)) ob 10 (nI 0)) M1 ∧ (M1.1 ob 6 = nI 0 ∧ ∀ i, i < 5 → M1.1 sh i = nI 0) := by
    generalize me_s (me_s (me_s (me_s M ob 7 (nI 0)) ob 8 (nI 0)) ob 9 (nI 0)) ob 10 (nI 0) = M0
    obtain ⟨r, e, hr⟩ := lp_up (b := gX5_firstShare_L7 ob od le mo sh) (fun x st => ∃ Mx, st = (nI x, Mx) ∧ fr (fun x k => (x = ob ∧ k = 6) ∨ x = sh) M0 Mx ∧ Mx.1 ob 6 = nI 0 ∧ ∀ i, i < x → Mx.1 sh i = nI 0) (fun r => fr (fun x k => (x = ob ∧ k = 6) ∨ x = sh) M0 r ∧ r.1 ob 6 = nI 0 ∧ ∀ i, i < 5 → r.1 sh i = nI 0) (a := 0) (N := 5) (by omega) (by omega) (fun x st _ hx hst => by
      obtain ⟨Mx, rfl, hf, h6, hI⟩ := hst
      left
      refine ⟨(nI (x + 1), me_s Mx sh x (nI 0)), ?_, _, rfl, hf.st (by omega), by rw [me_s_ne d1]; exact h6, fun i hi => ?_⟩
      · simp only [gX5_firstShare_L7]
        simp (disch := omega) only [Option.bind_some, if_true, if_false, Sum.elim_inl, Sum.elim_inr, li0, li1, li2, li3, li4, li5, li6, li7, li8, li9, li10, li12, li16, li20, li24, li25, li31, li32, li40, li41, li42, li48, li57, li59, li97, li104, li105, li124, li126, li240, li241, nI_add, nI_subc, nI_subm, nI_mulc, nI_nm, pu_r, pu_t, pu_a, pu_le_t, pu_le_f, pu_lt_t, pu_lt_f, pu_eq_t, pu_eq_f, nm_eq, nm_eq2, nm_lt, nm_lt2, nm_le, nm_le2, nm_ss, nm_sp, pu_ss, pu_snq, pu_neq, eq_self, and_true, true_and, and_false, false_and, or_true, true_or, or_false, false_or, not_true_eq_false, not_false_eq_true]
      · by_cases c : i = x
        · rw [c, pu_ss]
        · rw [pu_sn c]; exact hI i (by omega)) (fun st hst => by
      obtain ⟨Mx, rfl, hf, h6, hI⟩ := hst
      refine ⟨Mx, ?_, hf, h6, hI⟩
      simp only [gX5_firstShare_L7]
      simp (disch := omega) only [Option.bind_some, if_true, if_false, Sum.elim_inl, Sum.elim_inr, li0, li1, li2, li3, li4, li5, li6, li7, li8, li9, li10, li12, li16, li20, li24, li25, li31, li32, li40, li41, li42, li48, li57, li59, li97, li104, li105, li124, li126, li240, li241, nI_add, nI_subc, nI_subm, nI_mulc, nI_nm, pu_r, pu_t, pu_a, pu_le_t, pu_le_f, pu_lt_t, pu_lt_f, pu_eq_t, pu_eq_f, nm_eq, nm_eq2, nm_lt, nm_lt2, nm_le, nm_le2, nm_ss, nm_sp, pu_ss, pu_snq, pu_neq, eq_self, and_true, true_and, and_false, false_and, or_true, true_or, or_false, false_or, not_true_eq_false, not_false_eq_true]) (s0 := (nI 0, me_s M0 ob 6 (nI 0))) ⟨_, rfl, fr.s (by omega), pu_ss, fun i hi => absurd hi (Nat.not_lt_zero _)⟩
    refine ⟨r, ?_, hr⟩
    unfold gX5_firstShare
    simp (disch := omega) only [Option.bind_some, if_true, if_false, Sum.elim_inl, Sum.elim_inr, li0, li1, li2, li3, li4, li5, li6, li7, li8, li9, li10, li12, li16, li20, li24, li25, li31, li32, li40, li41, li42, li48, li57, li59, li97, li104, li105, li124, li126, li240, li241, nI_add, nI_subc, nI_subm, nI_mulc, nI_nm, pu_r, pu_t, pu_a, pu_le_t, pu_le_f, pu_lt_t, pu_lt_f, pu_eq_t, pu_eq_f, nm_eq, nm_eq2, nm_lt, nm_lt2, nm_le, nm_le2, nm_ss, nm_sp, pu_ss, pu_snq, pu_neq, eq_self, and_true, true_and, and_false, false_and, or_true, true_or, or_false, false_or, not_true_eq_false, not_false_eq_true, e]
  have f01 : fr (fun x k => (x = ob ∧ 6 ≤ k) ∨ x = sh) M M1 := ((((fr.s (by omega)).st (by omega)).st (by omega)).st (by omega)).tr (f1.up (fun b k h => by omega))
  have hc0 : cnt9 ob b P S D 0 M1 := by
    have hz : bt (nE9 b P S D 0) 8 = 0 := by
      rw [bt_congr (P := nE9 b P S D 0) (Q := fun _ => false) 8 (fun i _ => decide_eq_false (fun ⟨w, w1, _⟩ => absurd w1 (Nat.not_lt_zero _)))]
      rfl
    refine ⟨?_, ?_, ?_, ?_⟩
    · rw [f1.2 _ _ (by omega)]; simp (disch := omega) only [Option.bind_some, if_true, if_false, Sum.elim_inl, Sum.elim_inr, li0, li1, li2, li3, li4, li5, li6, li7, li8, li9, li10, li12, li16, li20, li24, li25, li31, li32, li40, li41, li42, li48, li57, li59, li97, li104, li105, li124, li126, li240, li241, nI_add, nI_subc, nI_subm, nI_mulc, nI_nm, pu_r, pu_t, pu_a, pu_le_t, pu_le_f, pu_lt_t, pu_lt_f, pu_eq_t, pu_eq_f, nm_eq, nm_eq2, nm_lt, nm_lt2, nm_le, nm_le2, nm_ss, nm_sp, pu_ss, pu_snq, pu_neq, eq_self, and_true, true_and, and_false, false_and, or_true, true_or, or_false, false_or, not_true_eq_false, not_false_eq_true]; rfl
    · rw [f1.2 _ _ (by omega)]; simp (disch := omega) only [Option.bind_some, if_true, if_false, Sum.elim_inl, Sum.elim_inr, li0, li1, li2, li3, li4, li5, li6, li7, li8, li9, li10, li12, li16, li20, li24, li25, li31, li32, li40, li41, li42, li48, li57, li59, li97, li104, li105, li124, li126, li240, li241, nI_add, nI_subc, nI_subm, nI_mulc, nI_nm, pu_r, pu_t, pu_a, pu_le_t, pu_le_f, pu_lt_t, pu_lt_f, pu_eq_t, pu_eq_f, nm_eq, nm_eq2, nm_lt, nm_lt2, nm_le, nm_le2, nm_ss, nm_sp, pu_ss, pu_snq, pu_neq, eq_self, and_true, true_and, and_false, false_and, or_true, true_or, or_false, false_or, not_true_eq_false, not_false_eq_true]; rfl
    · rw [f1.2 _ _ (by omega)]; simp (disch := omega) only [Option.bind_some, if_true, if_false, Sum.elim_inl, Sum.elim_inr, li0, li1, li2, li3, li4, li5, li6, li7, li8, li9, li10, li12, li16, li20, li24, li25, li31, li32, li40, li41, li42, li48, li57, li59, li97, li104, li105, li124, li126, li240, li241, nI_add, nI_subc, nI_subm, nI_mulc, nI_nm, pu_r, pu_t, pu_a, pu_le_t, pu_le_f, pu_lt_t, pu_lt_f, pu_eq_t, pu_eq_f, nm_eq, nm_eq2, nm_lt, nm_lt2, nm_le, nm_le2, nm_ss, nm_sp, pu_ss, pu_snq, pu_neq, eq_self, and_true, true_and, and_false, false_and, or_true, true_or, or_false, false_or, not_true_eq_false, not_false_eq_true]; rfl
    · rw [f1.2 _ _ (by omega), hz]; simp (disch := omega) only [Option.bind_some, if_true, if_false, Sum.elim_inl, Sum.elim_inr, li0, li1, li2, li3, li4, li5, li6, li7, li8, li9, li10, li12, li16, li20, li24, li25, li31, li32, li40, li41, li42, li48, li57, li59, li97, li104, li105, li124, li126, li240, li241, nI_add, nI_subc, nI_subm, nI_mulc, nI_nm, pu_r, pu_t, pu_a, pu_le_t, pu_le_f, pu_lt_t, pu_lt_f, pu_eq_t, pu_eq_f, nm_eq, nm_eq2, nm_lt, nm_lt2, nm_le, nm_le2, nm_ss, nm_sp, pu_ss, pu_snq, pu_neq, eq_self, and_true, true_and, and_false, false_and, or_true, true_or, or_false, false_or, not_true_eq_false, not_false_eq_true]
  have hex0 : okv b P 0 = true := decide_eq_true (by rw [sg9_z]; omega)
  obtain ⟨r, e, hr⟩ := lp_up (b := gX5_surveyShares_L33 ob od le mo sh (nI b)) (fun τ st => ∃ Mx, fr (fun x k => (x = ob ∧ 6 ≤ k) ∨ x = sh) M Mx ∧ ((∃ v, st = (nI 1, nI τ, Mx) ∧ v < (b + 1) ^ P ∧ okv b P v = true ∧ τ = ct (okv b P) v ∧ Mx.1 ob 6 = nI (sg9 (b + 1) v P) ∧ (∀ i, i < P → Mx.1 sh i = nI (dg (b + 1) v i)) ∧ cnt9 ob b P S D v Mx) ∨ (st = (nI 0, nI τ, Mx) ∧ τ = ct (okv b P) ((b + 1) ^ P) ∧ cnt9 ob b P S D ((b + 1) ^ P) Mx))) (fun r => fr (fun x k => (x = ob ∧ 6 ≤ k) ∨ x = sh) M r ∧ cnt9 ob b P S D ((b + 1) ^ P) r) (a := 0) (N := ct (okv b P) ((b + 1) ^ P)) (Nat.zero_le _) (by omega) (fun τ st _ hτ hst => by
    obtain ⟨Mx, hf, hst⟩ := hst
    rcases hst with ⟨v, rfl, v1, v2, v3, v4, v5, v6⟩ | ⟨rfl, z, _⟩
    · left
      have hs9 := of_decide_eq_true v2
      have hcb := c_bits (ob := ob) (od := od) (le := le) (mo := mo) (sh := sh) hb hS hP5 hok (hsch Mx hf) v5
      obtain ⟨M3, e3, f3, g3⟩ := c_note9 (ob := ob) (od := od) (le := le) (mo := mo) (sh := sh) (by omega) v2 v6
      have hf3 := hf.tr (f3.up (fun b k h => by omega) : fr (fun x k => (x = ob ∧ 6 ≤ k) ∨ x = sh) Mx M3)
      have e1v : ct (okv b P) (v + 1) = ct (okv b P) v + 1 := by rw [ct_s, v2]; rfl
      rcases c_next9 (ob := ob) (od := od) (le := le) (mo := mo) (sh := sh) (M := M3) hb hP5 (hsch M3 hf3).2.1 d1 (by rw [f3.2 _ _ (by omega)]; exact v4) v1 hs9 (fun i hi => by rw [f3.2 _ _ (by omega)]; exact v5 i hi) with ⟨v', M4, e4, f4, w1, w2, w3, w4, w5, w6⟩ | ⟨M4, e4, f4, w4⟩
      · refine ⟨(nI 1, nI (τ + 1), M4), ?_, M4, hf3.tr (f4.up (fun b k h => by omega)), Or.inl ⟨v', rfl, w2, decide_eq_true w3, ?_, w5, w6, ?_⟩⟩
        · simp only [gX5_surveyShares_L33]
          simp (disch := omega) only [Option.bind_some, if_true, if_false, Sum.elim_inl, Sum.elim_inr, li0, li1, li2, li3, li4, li5, li6, li7, li8, li9, li10, li12, li16, li20, li24, li25, li31, li32, li40, li41, li42, li48, li57, li59, li97, li104, li105, li124, li126, li240, li241, nI_add, nI_subc, nI_subm, nI_mulc, nI_nm, pu_r, pu_t, pu_a, pu_le_t, pu_le_f, pu_lt_t, pu_lt_f, pu_eq_t, pu_eq_f, nm_eq, nm_eq2, nm_lt, nm_lt2, nm_le, nm_le2, nm_ss, nm_sp, pu_ss, pu_snq, pu_neq, eq_self, and_true, true_and, and_false, false_and, or_true, true_or, or_false, false_or, not_true_eq_false, not_false_eq_true, hcb, e3, e4]
        · rw [ct_cut (F := okv b P) v' (show v + 1 ≤ v' by omega) (fun i a c => decide_eq_false (by have := w4 i (by omega) c; omega)), e1v, v3]
        · refine cnt9_skip v' (show v + 1 ≤ v' by omega) (fun i a c => decide_eq_false (by have := w4 i (by omega) c; omega)) ?_
          exact ⟨by rw [f4.2 _ _ (by omega)]; exact g3.1, by rw [f4.2 _ _ (by omega)]; exact g3.2.1, by rw [f4.2 _ _ (by omega)]; exact g3.2.2.1, by rw [f4.2 _ _ (by omega)]; exact g3.2.2.2⟩
      · refine ⟨(nI 0, nI (τ + 1), M4), ?_, M4, hf3.tr (f4.up (fun b k h => by omega)), Or.inr ⟨rfl, ?_, ?_⟩⟩
        · simp only [gX5_surveyShares_L33]
          simp (disch := omega) only [Option.bind_some, if_true, if_false, Sum.elim_inl, Sum.elim_inr, li0, li1, li2, li3, li4, li5, li6, li7, li8, li9, li10, li12, li16, li20, li24, li25, li31, li32, li40, li41, li42, li48, li57, li59, li97, li104, li105, li124, li126, li240, li241, nI_add, nI_subc, nI_subm, nI_mulc, nI_nm, pu_r, pu_t, pu_a, pu_le_t, pu_le_f, pu_lt_t, pu_lt_f, pu_eq_t, pu_eq_f, nm_eq, nm_eq2, nm_lt, nm_lt2, nm_le, nm_le2, nm_ss, nm_sp, pu_ss, pu_snq, pu_neq, eq_self, and_true, true_and, and_false, false_and, or_true, true_or, or_false, false_or, not_true_eq_false, not_false_eq_true, hcb, e3, e4]
        · rw [ct_cut (F := okv b P) ((b + 1) ^ P) (show v + 1 ≤ (b + 1) ^ P by omega) (fun i a c => decide_eq_false (by have := w4 i (by omega) c; omega)), e1v, v3]
        · refine cnt9_skip ((b + 1) ^ P) (show v + 1 ≤ (b + 1) ^ P by omega) (fun i a c => decide_eq_false (by have := w4 i (by omega) c; omega)) ?_
          exact ⟨by rw [f4.2 _ _ (by omega)]; exact g3.1, by rw [f4.2 _ _ (by omega)]; exact g3.2.1, by rw [f4.2 _ _ (by omega)]; exact g3.2.2.1, by rw [f4.2 _ _ (by omega)]; exact g3.2.2.2⟩
    · omega) (fun st hst => by
    obtain ⟨Mx, hf, hst⟩ := hst
    rcases hst with ⟨v, rfl, v1, v2, v3, v4, v5, v6⟩ | ⟨rfl, z, hc⟩
    · exfalso
      have e1v : ct (okv b P) (v + 1) = ct (okv b P) v + 1 := by rw [ct_s, v2]; rfl
      have : ct (okv b P) (v + 1) ≤ ct (okv b P) ((b + 1) ^ P) := ct_mono' _ (by omega)
      omega
    · refine ⟨Mx, ?_, hf, hc⟩
      simp only [gX5_surveyShares_L33]
      by_cases y : 126 ≤ ct (okv b P) ((b + 1) ^ P)
      · simp (disch := omega) only [Option.bind_some, if_true, if_false, Sum.elim_inl, Sum.elim_inr, li0, li1, li2, li3, li4, li5, li6, li7, li8, li9, li10, li12, li16, li20, li24, li25, li31, li32, li40, li41, li42, li48, li57, li59, li97, li104, li105, li124, li126, li240, li241, nI_add, nI_subc, nI_subm, nI_mulc, nI_nm, pu_r, pu_t, pu_a, pu_le_t, pu_le_f, pu_lt_t, pu_lt_f, pu_eq_t, pu_eq_f, nm_eq, nm_eq2, nm_lt, nm_lt2, nm_le, nm_le2, nm_ss, nm_sp, pu_ss, pu_snq, pu_neq, eq_self, and_true, true_and, and_false, false_and, or_true, true_or, or_false, false_or, not_true_eq_false, not_false_eq_true]
      · simp (disch := omega) only [Option.bind_some, if_true, if_false, Sum.elim_inl, Sum.elim_inr, li0, li1, li2, li3, li4, li5, li6, li7, li8, li9, li10, li12, li16, li20, li24, li25, li31, li32, li40, li41, li42, li48, li57, li59, li97, li104, li105, li124, li126, li240, li241, nI_add, nI_subc, nI_subm, nI_mulc, nI_nm, pu_r, pu_t, pu_a, pu_le_t, pu_le_f, pu_lt_t, pu_lt_f, pu_eq_t, pu_eq_f, nm_eq, nm_eq2, nm_lt, nm_lt2, nm_le, nm_le2, nm_ss, nm_sp, pu_ss, pu_snq, pu_neq, eq_self, and_true, true_and, and_false, false_and, or_true, true_or, or_false, false_or, not_true_eq_false, not_false_eq_true]) (s0 := (nI 1, nI 0, M1)) ⟨M1, f01, Or.inl ⟨0, rfl, hpos, hex0, rfl, by rw [sg9_z]; exact g1.1, fun i hi => by rw [dg_z]; exact g1.2 i (by omega), hc0⟩⟩
  refine ⟨r, ?_, hr⟩
  unfold gX5_surveyShares
  simp (disch := omega) only [Option.bind_some, if_true, if_false, Sum.elim_inl, Sum.elim_inr, li0, li1, li2, li3, li4, li5, li6, li7, li8, li9, li10, li12, li16, li20, li24, li25, li31, li32, li40, li41, li42, li48, li57, li59, li97, li104, li105, li124, li126, li240, li241, nI_add, nI_subc, nI_subm, nI_mulc, nI_nm, pu_r, pu_t, pu_a, pu_le_t, pu_le_f, pu_lt_t, pu_lt_f, pu_eq_t, pu_eq_f, nm_eq, nm_eq2, nm_lt, nm_lt2, nm_le, nm_le2, nm_ss, nm_sp, pu_ss, pu_snq, pu_neq, eq_self, and_true, true_and, and_false, false_and, or_true, true_or, or_false, false_or, not_true_eq_false, not_false_eq_true, hbud, e1, e]
/-! the reference -/
def rS (S P : Nat) (D : Nat → Nat → Nat → Nat) (M : me_M) : Prop := S ≤ 8 ∧ 1 ≤ P ∧ P ≤ 5 ∧ (∀ s, s < S → okd P (D s)) ∧ M.1 77 0 = nI S ∧ M.1 78 0 = nI P ∧ ∀ s w k, s < S → w < 3 → k < P → M.1 (109 + 3 * s + w) k = nI (D s w k)
theorem vS.rS {S P : Nat} {D : Nat → Nat → Nat → Nat} {M : me_M} (h : vS S P D M) : rS S P D M := ⟨h.2.1, h.2.2.1, h.2.2.2.1, h.2.2.2.2.1, (vS_ref h).1, (vS_ref h).2, fun s w k a b c => vS_dig h a b c⟩
theorem rS.fr {S P : Nat} {D : Nat → Nat → Nat → Nat} {Z : Nat → Nat → Prop} {M M' : me_M} (h : rS S P D M) (hx : fr Z M M') (h1 : ¬ Z 77 0) (h2 : ¬ Z 78 0) (h3 : ∀ b k, 109 ≤ b → b ≤ 132 → ¬ Z b k) : rS S P D M' := by
  obtain ⟨a1, a2, a3, a4, a5, a6, a7⟩ := h
  exact ⟨a1, a2, a3, a4, by rw [hx.2 _ _ h1]; exact a5, by rw [hx.2 _ _ h2]; exact a6, fun s w k b1 b2 b3 => by rw [hx.2 _ _ (h3 _ _ (by omega) (by omega))]; exact a7 s w k b1 b2 b3⟩
theorem r_budget9 {S P : Nat} {D : Nat → Nat → Nat → Nat} {M : me_M} (hv : rS S P D M) : mX12_budget_63 M = some (nI (bud S P D)) := by
  obtain ⟨hS, hP1, hP5, h, h4, h5, hdg⟩ := hv
  have hl : me_l (mX12_budget_63_L4 M) me_fu (nI 0, nI 0) = some (nI (bud S P D)) := by
    refine lp_to (fun x => (nI (mx (fun s => D s 2 (P - 1)) x), nI x)) (a := 0) (N := S) (by omega) (by omega) (fun x _ hx => ?_) ?_
    · simp only [mX12_budget_63_L4]
      have hb : mx (fun s => D s 2 (P - 1)) x ≤ 4 := mx_le (fun s hs => okd4 (h s (by omega)) (by omega) (by omega) hP5)
      have hb2 := okd4 (h x hx) (show 2 < 3 by omega) (show P - 1 < P by omega) hP5
      have hd := hdg x 2 (P - 1) hx (by omega) (by omega)
      simp (disch := omega) only [Option.bind_some, if_true, if_false, Sum.elim_inl, Sum.elim_inr, li0, li1, li2, li3, li4, li5, li6, li7, li8, li9, li10, li12, li16, li20, li24, li25, li31, li32, li40, li41, li42, li48, li57, li59, li97, li104, li105, li124, li126, li240, li241, nI_add, nI_subc, nI_subm, nI_mulc, nI_nm, pu_r, pu_t, pu_a, pu_le_t, pu_le_f, pu_lt_t, pu_lt_f, pu_eq_t, pu_eq_f, nm_eq, nm_eq2, nm_lt, nm_lt2, nm_le, nm_le2, nm_ss, nm_sp, pu_ss, pu_snq, pu_neq, eq_self, and_true, true_and, and_false, false_and, or_true, true_or, or_false, false_or, not_true_eq_false, not_false_eq_true, h4, h5, Nat.add_sub_cancel_left, hd, r_more, mx_s]
    · simp only [mX12_budget_63_L4]
      simp (disch := omega) only [Option.bind_some, if_true, if_false, Sum.elim_inl, Sum.elim_inr, li0, li1, li2, li3, li4, li5, li6, li7, li8, li9, li10, li12, li16, li20, li24, li25, li31, li32, li40, li41, li42, li48, li57, li59, li97, li104, li105, li124, li126, li240, li241, nI_add, nI_subc, nI_subm, nI_mulc, nI_nm, pu_r, pu_t, pu_a, pu_le_t, pu_le_f, pu_lt_t, pu_lt_f, pu_eq_t, pu_eq_f, nm_eq, nm_eq2, nm_lt, nm_lt2, nm_le, nm_le2, nm_ss, nm_sp, pu_ss, pu_snq, pu_neq, eq_self, and_true, true_and, and_false, false_and, or_true, true_or, or_false, false_or, not_true_eq_false, not_false_eq_true, h4]
  unfold mX12_budget_63
  simp (disch := omega) only [Option.bind_some, if_true, if_false, Sum.elim_inl, Sum.elim_inr, li0, li1, li2, li3, li4, li5, li6, li7, li8, li9, li10, li12, li16, li20, li24, li25, li31, li32, li40, li41, li42, li48, li57, li59, li97, li104, li105, li124, li126, li240, li241, nI_add, nI_subc, nI_subm, nI_mulc, nI_nm, pu_r, pu_t, pu_a, pu_le_t, pu_le_f, pu_lt_t, pu_lt_f, pu_eq_t, pu_eq_f, nm_eq, nm_eq2, nm_lt, nm_lt2, nm_le, nm_le2, nm_ss, nm_sp, pu_ss, pu_snq, pu_neq, eq_self, and_true, true_and, and_false, false_and, or_true, true_or, or_false, false_or, not_true_eq_false, not_false_eq_true, hl]
theorem r_covers9 {S P b v s : Nat} {D : Nat → Nat → Nat → Nat} {M : me_M} (hb : b ≤ 4) (hv : rS S P D M) (hs : s < S) (hsh : ∀ i, i < P → M.1 82 i = nI (dg (b + 1) v i)) : mX12_covers_63 M (nI s) = some (bI (cov (b + 1) P D v s)) := by
  obtain ⟨hS, hP1, hP5, hok, h77, h78, hdg⟩ := hv
  have hok := hok s hs
  have hdb : ∀ j, dg (b + 1) v j ≤ 4 := fun j => by have := dg_lt (v := v) (i := j) (show 0 < b + 1 by omega); omega
  obtain ⟨r, e, hr⟩ := lp_up (b := mX12_covers_63_L4 M (nI s)) (fun x st => st = (nI (sm9 (fun j => dg (b + 1) v (D s 0 j)) x), nI x) ∧ ∀ k, k < x → D s 1 k ≤ sm9 (fun j => dg (b + 1) v (D s 0 j)) (k + 1) ∧ sm9 (fun j => dg (b + 1) v (D s 0 j)) (k + 1) ≤ D s 2 k) (fun r => (r = .inl () ∧ cov (b + 1) P D v s = true) ∨ (r = .inr (nI 0) ∧ cov (b + 1) P D v s = false)) (a := 0) (N := P) (by omega) (by omega) (fun x st _ hx hst => by
    obtain ⟨rfl, hI⟩ := hst
    have o1 := hok.1 x hx
    have o2 := hok.2.2.2.1 x hx
    have q0 := hdg s 0 x hs (by omega) hx
    have q1 := hdg s 1 x hs (by omega) hx
    have q2 := hdg s 2 x hs (by omega) hx
    have q3 := hsh (D s 0 x) o1
    have q4 := hdb (D s 0 x)
    have q5 : sm9 (fun j => dg (b + 1) v (D s 0 j)) x ≤ x * 4 := sm9_bd x (fun j _ => hdb _)
    have q6 := sm9_s (fun j => dg (b + 1) v (D s 0 j)) x
    have hin : mX12_in (nI (sm9 (fun j => dg (b + 1) v (D s 0 j)) x + dg (b + 1) v (D s 0 x))) (nI (D s 1 x)) (nI (D s 2 x)) = some (bI (decide (D s 1 x ≤ sm9 (fun j => dg (b + 1) v (D s 0 j)) x + dg (b + 1) v (D s 0 x) ∧ sm9 (fun j => dg (b + 1) v (D s 0 j)) x + dg (b + 1) v (D s 0 x) ≤ D s 2 x))) := by
      rw [r_in, iB_nI (by omega) (by omega) (by omega)]
    simp only [mX12_covers_63_L4]
    by_cases c : D s 1 x ≤ sm9 (fun j => dg (b + 1) v (D s 0 j)) x + dg (b + 1) v (D s 0 x) ∧ sm9 (fun j => dg (b + 1) v (D s 0 j)) x + dg (b + 1) v (D s 0 x) ≤ D s 2 x
    · left
      rw [decide_eq_true c, bI_t] at hin
      refine ⟨_, ?_, rfl, all_s.mpr ⟨hI, by rw [q6]; exact c⟩⟩
      simp (disch := omega) only [Option.bind_some, if_true, if_false, Sum.elim_inl, Sum.elim_inr, li0, li1, li2, li3, li4, li5, li6, li7, li8, li9, li10, li12, li16, li20, li24, li25, li31, li32, li40, li41, li42, li48, li57, li59, li97, li104, li105, li124, li126, li240, li241, nI_add, nI_subc, nI_subm, nI_mulc, nI_nm, pu_r, pu_t, pu_a, pu_le_t, pu_le_f, pu_lt_t, pu_lt_f, pu_eq_t, pu_eq_f, nm_eq, nm_eq2, nm_lt, nm_lt2, nm_le, nm_le2, nm_ss, nm_sp, pu_ss, pu_snq, pu_neq, eq_self, and_true, true_and, and_false, false_and, or_true, true_or, or_false, false_or, not_true_eq_false, not_false_eq_true, h78, Nat.add_sub_cancel_left, q0, q1, q2, q3, hin, sm9_s]
    · right
      rw [decide_eq_false c, bI_f] at hin
      refine ⟨.inr (nI 0), ?_, Or.inr ⟨rfl, decide_eq_false (fun z => c (by have := z x hx; rw [q6] at this; exact this))⟩⟩
      simp (disch := omega) only [Option.bind_some, if_true, if_false, Sum.elim_inl, Sum.elim_inr, li0, li1, li2, li3, li4, li5, li6, li7, li8, li9, li10, li12, li16, li20, li24, li25, li31, li32, li40, li41, li42, li48, li57, li59, li97, li104, li105, li124, li126, li240, li241, nI_add, nI_subc, nI_subm, nI_mulc, nI_nm, pu_r, pu_t, pu_a, pu_le_t, pu_le_f, pu_lt_t, pu_lt_f, pu_eq_t, pu_eq_f, nm_eq, nm_eq2, nm_lt, nm_lt2, nm_le, nm_le2, nm_ss, nm_sp, pu_ss, pu_snq, pu_neq, eq_self, and_true, true_and, and_false, false_and, or_true, true_or, or_false, false_or, not_true_eq_false, not_false_eq_true, h78, Nat.add_sub_cancel_left, q0, q1, q2, q3, hin]) (fun st hst => by
    obtain ⟨rfl, hI⟩ := hst
    refine ⟨.inl (), ?_, Or.inl ⟨rfl, decide_eq_true hI⟩⟩
    simp only [mX12_covers_63_L4]
    simp (disch := omega) only [Option.bind_some, if_true, if_false, Sum.elim_inl, Sum.elim_inr, li0, li1, li2, li3, li4, li5, li6, li7, li8, li9, li10, li12, li16, li20, li24, li25, li31, li32, li40, li41, li42, li48, li57, li59, li97, li104, li105, li124, li126, li240, li241, nI_add, nI_subc, nI_subm, nI_mulc, nI_nm, pu_r, pu_t, pu_a, pu_le_t, pu_le_f, pu_lt_t, pu_lt_f, pu_eq_t, pu_eq_f, nm_eq, nm_eq2, nm_lt, nm_lt2, nm_le, nm_le2, nm_ss, nm_sp, pu_ss, pu_snq, pu_neq, eq_self, and_true, true_and, and_false, false_and, or_true, true_or, or_false, false_or, not_true_eq_false, not_false_eq_true, h78]) (s0 := (nI 0, nI 0)) ⟨rfl, fun k hk => absurd hk (Nat.not_lt_zero _)⟩
  unfold mX12_covers_63
  rcases hr with ⟨rfl, hr⟩ | ⟨rfl, hr⟩
  · simp (disch := omega) only [Option.bind_some, if_true, if_false, Sum.elim_inl, Sum.elim_inr, li0, li1, li2, li3, li4, li5, li6, li7, li8, li9, li10, li12, li16, li20, li24, li25, li31, li32, li40, li41, li42, li48, li57, li59, li97, li104, li105, li124, li126, li240, li241, nI_add, nI_subc, nI_subm, nI_mulc, nI_nm, pu_r, pu_t, pu_a, pu_le_t, pu_le_f, pu_lt_t, pu_lt_f, pu_eq_t, pu_eq_f, nm_eq, nm_eq2, nm_lt, nm_lt2, nm_le, nm_le2, nm_ss, nm_sp, pu_ss, pu_snq, pu_neq, eq_self, and_true, true_and, and_false, false_and, or_true, true_or, or_false, false_or, not_true_eq_false, not_false_eq_true, e, hr, bI_t]
  · simp (disch := omega) only [Option.bind_some, if_true, if_false, Sum.elim_inl, Sum.elim_inr, li0, li1, li2, li3, li4, li5, li6, li7, li8, li9, li10, li12, li16, li20, li24, li25, li31, li32, li40, li41, li42, li48, li57, li59, li97, li104, li105, li124, li126, li240, li241, nI_add, nI_subc, nI_subm, nI_mulc, nI_nm, pu_r, pu_t, pu_a, pu_le_t, pu_le_f, pu_lt_t, pu_lt_f, pu_eq_t, pu_eq_f, nm_eq, nm_eq2, nm_lt, nm_lt2, nm_le, nm_le2, nm_ss, nm_sp, pu_ss, pu_snq, pu_neq, eq_self, and_true, true_and, and_false, false_and, or_true, true_or, or_false, false_or, not_true_eq_false, not_false_eq_true, e, hr, bI_f]
