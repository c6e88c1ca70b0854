/-! ===== call: scheme; the reference reads a row of digits ===== -/
theorem nI_pm {a b : Nat} (ha : a < 1000) (hb : b < 1000) : (nI a = nI b - nI 1) = (a + 1 = b) := by
  rw [dn_m, show (nI a = dn b) = (dn b = nI a) from propext ⟨Eq.symm, Eq.symm⟩, dn_eq (by omega) (by omega)]
  exact propext ⟨Eq.symm, Eq.symm⟩
theorem r_next {j0 k P : Nat} {d : Nat → Nat} {M : me_M} (hk : k < 5) (hP : P ≤ 5) (hd : ∀ j, j ≤ k → M.1 j0 j = nI (d j) ∧ d j ≤ 9) : ∃ b : Bool, mX12_isNext_dig M j0 (nI k) (nI P) = some (bI b) ∧ (b = true ↔ nx9 d P k) := by
  obtain ⟨hk1, hk2⟩ := hd k (Nat.le_refl _)
  by_cases h1 : d k < P
  · obtain ⟨r, e, hr⟩ := lp_up (b := mX12_isNext_dig_L25 M j0 (nI k) (nI (d k))) (fun x st => ∃ a : Bool, st = (bI a, nI x) ∧ (a = true ↔ (k = 0 ∨ ∃ j, j < x ∧ (d j = d k + 1 ∨ d j + 1 = d k))) ∧ ∀ j, j < x → d j ≠ d k) (fun r => (∃ a : Bool, r = .inl (bI a) ∧ (a = true ↔ (k = 0 ∨ ∃ j, j < k ∧ (d j = d k + 1 ∨ d j + 1 = d k))) ∧ ∀ j, j < k → d j ≠ d k) ∨ (r = .inr (nI 0) ∧ ∃ j, j < k ∧ d j = d k)) (a := 0) (N := k) (by omega) (by omega) (fun x st _ hx hst => by
      obtain ⟨a, rfl, ha, hne⟩ := hst
      obtain ⟨x1, x2⟩ := hd x (by omega)
      simp only [mX12_isNext_dig_L25, mX12_isNext_dig_J63, mX12_isNext_dig_J68]
      by_cases c1 : d x = d k
      · right
        refine ⟨.inr (nI 0), ?_, Or.inr ⟨rfl, x, hx, c1⟩⟩
        simp (disch := omega) only [Option.bind_some, if_true, if_false, Sum.elim_inl, Sum.elim_inr, li0, li1, li2, li3, li4, li5, li6, li7, li8, li9, li10, li12, li16, li20, li24, li25, li31, li32, li40, li41, li42, li48, li57, li59, li97, li104, li105, li124, li126, li240, li241, nI_add, nI_subc, nI_subm, nI_mulc, nI_nm, pu_r, pu_t, pu_a, pu_le_t, pu_le_f, pu_lt_t, pu_lt_f, pu_eq_t, pu_eq_f, nm_eq, nm_eq2, nm_lt, nm_lt2, nm_le, nm_le2, nm_ss, nm_sp, pu_ss, pu_snq, pu_neq, eq_self, and_true, true_and, and_false, false_and, or_true, true_or, or_false, false_or, not_true_eq_false, not_false_eq_true, x1]
      · left
        have hne2 : ∀ j, j < x + 1 → d j ≠ d k := all_s.mpr ⟨hne, c1⟩
        by_cases c2 : d x + 1 = d k
        · refine ⟨(nI 1, nI (x + 1)), ?_, true, rfl, ⟨fun _ => Or.inr ⟨x, by omega, Or.inr c2⟩, fun _ => rfl⟩, hne2⟩
          have hq : (nI (d x) = nI (d k) - nI 1) = True := eq_true ((nI_pm (by omega) (by omega)).mpr c2)
          simp (disch := omega) only [Option.bind_some, if_true, if_false, Sum.elim_inl, Sum.elim_inr, li0, li1, li2, li3, li4, li5, li6, li7, li8, li9, li10, li12, li16, li20, li24, li25, li31, li32, li40, li41, li42, li48, li57, li59, li97, li104, li105, li124, li126, li240, li241, nI_add, nI_mulc, nI_nm, pu_r, pu_t, pu_a, pu_le_t, pu_le_f, pu_lt_t, pu_lt_f, pu_eq_t, pu_eq_f, nm_eq, nm_eq2, nm_lt, nm_lt2, nm_le, nm_le2, nm_ss, nm_sp, pu_ss, pu_snq, pu_neq, eq_self, and_true, true_and, and_false, false_and, or_true, true_or, or_false, false_or, not_true_eq_false, not_false_eq_true, x1, hq, bI_or1]
        · have hq : (nI (d x) = nI (d k) - nI 1) = False := eq_false (fun z => c2 ((nI_pm (by omega) (by omega)).mp z))
          by_cases c3 : d x = d k + 1
          · refine ⟨(nI 1, nI (x + 1)), ?_, true, rfl, ⟨fun _ => Or.inr ⟨x, by omega, Or.inl c3⟩, fun _ => rfl⟩, hne2⟩
            simp (disch := omega) only [Option.bind_some, if_true, if_false, Sum.elim_inl, Sum.elim_inr, li0, li1, li2, li3, li4, li5, li6, li7, li8, li9, li10, li12, li16, li20, li24, li25, li31, li32, li40, li41, li42, li48, li57, li59, li97, li104, li105, li124, li126, li240, li241, nI_add, nI_mulc, nI_nm, pu_r, pu_t, pu_a, pu_le_t, pu_le_f, pu_lt_t, pu_lt_f, pu_eq_t, pu_eq_f, nm_eq, nm_eq2, nm_lt, nm_lt2, nm_le, nm_le2, nm_ss, nm_sp, pu_ss, pu_snq, pu_neq, eq_self, and_true, true_and, and_false, false_and, or_true, true_or, or_false, false_or, not_true_eq_false, not_false_eq_true, x1, hq, bI_or1]
          · refine ⟨(bI a, nI (x + 1)), ?_, a, rfl, ?_, hne2⟩
            · simp (disch := omega) only [Option.bind_some, if_true, if_false, Sum.elim_inl, Sum.elim_inr, li0, li1, li2, li3, li4, li5, li6, li7, li8, li9, li10, li12, li16, li20, li24, li25, li31, li32, li40, li41, li42, li48, li57, li59, li97, li104, li105, li124, li126, li240, li241, nI_add, nI_mulc, nI_nm, pu_r, pu_t, pu_a, pu_le_t, pu_le_f, pu_lt_t, pu_lt_f, pu_eq_t, pu_eq_f, nm_eq, nm_eq2, nm_lt, nm_lt2, nm_le, nm_le2, nm_ss, nm_sp, pu_ss, pu_snq, pu_neq, eq_self, and_true, true_and, and_false, false_and, or_true, true_or, or_false, false_or, not_true_eq_false, not_false_eq_true, x1, hq, or_z]
            · rw [ha]
              constructor
              · rintro (z | ⟨j, j1, j2⟩)
                · exact Or.inl z
                · exact Or.inr ⟨j, by omega, j2⟩
              · rintro (z | ⟨j, j1, j2⟩)
                · exact Or.inl z
                · by_cases z : j = x
                  · rw [z] at j2; omega
                  · exact Or.inr ⟨j, by omega, j2⟩) (fun st hst => by
      obtain ⟨a, rfl, ha, hne⟩ := hst
      refine ⟨.inl (bI a), ?_, Or.inl ⟨a, rfl, ha, hne⟩⟩
      simp only [mX12_isNext_dig_L25]
      simp (disch := omega) only [Option.bind_some, if_true, if_false, Sum.elim_inl, Sum.elim_inr, li0, li1, li2, li3, li4, li5, li6, li7, li8, li9, li10, li12, li16, li20, li24, li25, li31, li32, li40, li41, li42, li48, li57, li59, li97, li104, li105, li124, li126, li240, li241, nI_add, nI_subc, nI_subm, nI_mulc, nI_nm, pu_r, pu_t, pu_a, pu_le_t, pu_le_f, pu_lt_t, pu_lt_f, pu_eq_t, pu_eq_f, nm_eq, nm_eq2, nm_lt, nm_lt2, nm_le, nm_le2, nm_ss, nm_sp, pu_ss, pu_snq, pu_neq, eq_self, and_true, true_and, and_false, false_and, or_true, true_or, or_false, false_or, not_true_eq_false, not_false_eq_true]) (s0 := (bI (decide (k = 0)), nI 0)) ⟨decide (k = 0), rfl, by
        rw [decide_eq_true_eq]
        exact ⟨Or.inl, fun z => by
          rcases z with z | ⟨j, j1, _⟩
          · exact z
          · exact absurd j1 (Nat.not_lt_zero _)⟩, fun j hj => absurd hj (Nat.not_lt_zero _)⟩
    have hJ : mX12_isNext_dig M j0 (nI k) (nI P) = mX12_isNext_dig_J20 j0 (nI k) (nI (d k)) M (bI (decide (k = 0))) := by
      unfold mX12_isNext_dig
      by_cases z : k = 0
      · rw [decide_eq_true z, bI_t]; simp (disch := omega) only [Option.bind_some, if_true, if_false, Sum.elim_inl, Sum.elim_inr, li0, li1, li2, li3, li4, li5, li6, li7, li8, li9, li10, li12, li16, li20, li24, li25, li31, li32, li40, li41, li42, li48, li57, li59, li97, li104, li105, li124, li126, li240, li241, nI_add, nI_subc, nI_subm, nI_mulc, nI_nm, pu_r, pu_t, pu_a, pu_le_t, pu_le_f, pu_lt_t, pu_lt_f, pu_eq_t, pu_eq_f, nm_eq, nm_eq2, nm_lt, nm_lt2, nm_le, nm_le2, nm_ss, nm_sp, pu_ss, pu_snq, pu_neq, eq_self, and_true, true_and, and_false, false_and, or_true, true_or, or_false, false_or, not_true_eq_false, not_false_eq_true, hk1]
      · rw [decide_eq_false z, bI_f]; simp (disch := omega) only [Option.bind_some, if_true, if_false, Sum.elim_inl, Sum.elim_inr, li0, li1, li2, li3, li4, li5, li6, li7, li8, li9, li10, li12, li16, li20, li24, li25, li31, li32, li40, li41, li42, li48, li57, li59, li97, li104, li105, li124, li126, li240, li241, nI_add, nI_subc, nI_subm, nI_mulc, nI_nm, pu_r, pu_t, pu_a, pu_le_t, pu_le_f, pu_lt_t, pu_lt_f, pu_eq_t, pu_eq_f, nm_eq, nm_eq2, nm_lt, nm_lt2, nm_le, nm_le2, nm_ss, nm_sp, pu_ss, pu_snq, pu_neq, eq_self, and_true, true_and, and_false, false_and, or_true, true_or, or_false, false_or, not_true_eq_false, not_false_eq_true, hk1]
    rw [hJ]
    unfold mX12_isNext_dig_J20
    rcases hr with ⟨a, rfl, ha, hne⟩ | ⟨rfl, j, j1, j2⟩
    · refine ⟨a, ?_, ⟨fun z => ⟨h1, hne, ha.mp z⟩, fun z => ha.mpr z.2.2⟩⟩
      rw [li0, e]
      cases a with
      | true => rw [bI_t]; simp (disch := omega) only [Option.bind_some, if_true, if_false, Sum.elim_inl, Sum.elim_inr, li0, li1, li2, li3, li4, li5, li6, li7, li8, li9, li10, li12, li16, li20, li24, li25, li31, li32, li40, li41, li42, li48, li57, li59, li97, li104, li105, li124, li126, li240, li241, nI_add, nI_subc, nI_subm, nI_mulc, nI_nm, pu_r, pu_t, pu_a, pu_le_t, pu_le_f, pu_lt_t, pu_lt_f, pu_eq_t, pu_eq_f, nm_eq, nm_eq2, nm_lt, nm_lt2, nm_le, nm_le2, nm_ss, nm_sp, pu_ss, pu_snq, pu_neq, eq_self, and_true, true_and, and_false, false_and, or_true, true_or, or_false, false_or, not_true_eq_false, not_false_eq_true]
      | false => rw [bI_f]; simp (disch := omega) only [Option.bind_some, if_true, if_false, Sum.elim_inl, Sum.elim_inr, li0, li1, li2, li3, li4, li5, li6, li7, li8, li9, li10, li12, li16, li20, li24, li25, li31, li32, li40, li41, li42, li48, li57, li59, li97, li104, li105, li124, li126, li240, li241, nI_add, nI_subc, nI_subm, nI_mulc, nI_nm, pu_r, pu_t, pu_a, pu_le_t, pu_le_f, pu_lt_t, pu_lt_f, pu_eq_t, pu_eq_f, nm_eq, nm_eq2, nm_lt, nm_lt2, nm_le, nm_le2, nm_ss, nm_sp, pu_ss, pu_snq, pu_neq, eq_self, and_true, true_and, and_false, false_and, or_true, true_or, or_false, false_or, not_true_eq_false, not_false_eq_true]
    · refine ⟨false, ?_, ⟨fun z => (by cases z), fun z => absurd j2 (z.2.1 j j1)⟩⟩
      rw [li0, e, bI_f]
      simp (disch := omega) only [Option.bind_some, if_true, if_false, Sum.elim_inl, Sum.elim_inr, li0, li1, li2, li3, li4, li5, li6, li7, li8, li9, li10, li12, li16, li20, li24, li25, li31, li32, li40, li41, li42, li48, li57, li59, li97, li104, li105, li124, li126, li240, li241, nI_add, nI_subc, nI_subm, nI_mulc, nI_nm, pu_r, pu_t, pu_a, pu_le_t, pu_le_f, pu_lt_t, pu_lt_f, pu_eq_t, pu_eq_f, nm_eq, nm_eq2, nm_lt, nm_lt2, nm_le, nm_le2, nm_ss, nm_sp, pu_ss, pu_snq, pu_neq, eq_self, and_true, true_and, and_false, false_and, or_true, true_or, or_false, false_or, not_true_eq_false, not_false_eq_true]
  · refine ⟨false, ?_, ⟨fun z => (by cases z), fun z => absurd z.1 h1⟩⟩
    unfold mX12_isNext_dig
    rw [bI_f]
    simp (disch := omega) only [Option.bind_some, if_true, if_false, Sum.elim_inl, Sum.elim_inr, li0, li1, li2, li3, li4, li5, li6, li7, li8, li9, li10, li12, li16, li20, li24, li25, li31, li32, li40, li41, li42, li48, li57, li59, li97, li104, li105, li124, li126, li240, li241, nI_add, nI_subc, nI_subm, nI_mulc, nI_nm, pu_r, pu_t, pu_a, pu_le_t, pu_le_f, pu_lt_t, pu_lt_f, pu_eq_t, pu_eq_f, nm_eq, nm_eq2, nm_lt, nm_lt2, nm_le, nm_le2, nm_ss, nm_sp, pu_ss, pu_snq, pu_neq, eq_self, and_true, true_and, and_false, false_and, or_true, true_or, or_false, false_or, not_true_eq_false, not_false_eq_true, hk1]
def okw (w : Nat) (d L : Nat → Nat) (P k : Nat) : Prop := if w = 0 then nx9 d P k else if w = 1 then lo9 d (fun _ => 0) k else lo9 d L k
theorem r_J124 {j0 q x : Nat} {w : Int32} {b : Bool} {M : me_M} (h26 : M.1 63 26 = nI 0) (h25 : M.1 63 25 = nI q) : mX12_readsRow_63_101_J124 j0 w (nI x) M (bI b) = some (.inl (nI (x + 1), if b = true then me_s M 63 25 (nI (q + 1)) else me_s (me_s (me_s M 63 26 (nI 2)) 63 27 (nI q)) 63 25 (nI (q + 1)))) := by
  unfold mX12_readsRow_63_101_J124 mX12_readsRow_63_101_J140
  cases b with
  | true => rw [bI_t]; simp (disch := omega) only [Option.bind_some, if_true, if_false, Sum.elim_inl, Sum.elim_inr, li0, li1, li2, li3, li4, li5, li6, li7, li8, li9, li10, li12, li16, li20, li24, li25, li31, li32, li40, li41, li42, li48, li57, li59, li97, li104, li105, li124, li126, li240, li241, nI_add, nI_subc, nI_subm, nI_mulc, nI_nm, pu_r, pu_t, pu_a, pu_le_t, pu_le_f, pu_lt_t, pu_lt_f, pu_eq_t, pu_eq_f, nm_eq, nm_eq2, nm_lt, nm_lt2, nm_le, nm_le2, nm_ss, nm_sp, pu_ss, pu_snq, pu_neq, eq_self, and_true, true_and, and_false, false_and, or_true, true_or, or_false, false_or, not_true_eq_false, not_false_eq_true, h25]
  | false => rw [bI_f]; simp (disch := omega) only [Option.bind_some, if_true, if_false, Sum.elim_inl, Sum.elim_inr, li0, li1, li2, li3, li4, li5, li6, li7, li8, li9, li10, li12, li16, li20, li24, li25, li31, li32, li40, li41, li42, li48, li57, li59, li97, li104, li105, li124, li126, li240, li241, nI_add, nI_subc, nI_subm, nI_mulc, nI_nm, pu_r, pu_t, pu_a, pu_le_t, pu_le_f, pu_lt_t, pu_lt_f, pu_eq_t, pu_eq_f, nm_eq, nm_eq2, nm_lt, nm_lt2, nm_le, nm_le2, nm_ss, nm_sp, pu_ss, pu_snq, pu_neq, eq_self, and_true, true_and, and_false, false_and, or_true, true_or, or_false, false_or, not_true_eq_false, not_false_eq_true, h25, r_wrong0 h26, Bool.false_eq_true]
theorem r_J38 {w c P p so x : Nat} {F L : Nat → Nat} {M : me_M} (hw : w < 3) (hc : c < 8) (hP5 : P ≤ 5) (hx : x < P) (ht : rT F so M) (h26 : M.1 63 26 = nI 0) (h25 : M.1 63 25 = nI (p + x)) (hd : ∀ j, j ≤ x → dg9 F so (p + j) = true) (hp : p + x ≤ 240) (h78 : M.1 78 1 = nI P) (hL : w = 2 → M.1 (133 + 3 * c + 1) x = nI (L x) ∧ L x ≤ 4) (hdg : ∀ j, j < x → M.1 (133 + 3 * c + w) j = nI (dd9 F so p j)) : ∃ b : Bool, mX12_readsRow_63_101_J38 (101 + c) (nI w) (nI x) M = mX12_readsRow_63_101_J124 (101 + c) (nI w) (nI x) (me_s M (133 + 3 * c + w) x (nI (dd9 F so p x))) (bI b) ∧ (b = true ↔ okw w (dd9 F so p) L P x) := by
  have hs := ht.1
  have hh := r_here ht (p := p + x) (by omega) h25
  have hdx := hd x (Nat.le_refl _)
  have h9 := dd9_lt hdx
  have hv := hv_dig hdx
  rw [show bz9 F so (p + x) - 48 = dd9 F so p x from rfl] at hv
  have hid : 109 + 3 * (101 + c - 93) = 133 + 3 * c := by omega
  have hst : ∀ j, j ≤ x → (me_s M (133 + 3 * c + w) x (nI (dd9 F so p x))).1 (133 + 3 * c + w) j = nI (dd9 F so p j) := fun j hj => by
    by_cases z : j = x
    · rw [z, pu_ss]
    · rw [pu_sn z]; exact hdg j (by omega)
  have h48 : (48 : Int32) = nI 48 := rfl
  have hf := r_fine0 h26
  unfold okw
  have hw3 : w = 0 ∨ w = 1 ∨ w = 2 := by omega
  rcases hw3 with rfl | rfl | rfl
  · obtain ⟨b, b1, b2⟩ := r_next (j0 := 133 + 3 * c + 0) (k := x) (P := P) (d := dd9 F so p) (M := me_s M (133 + 3 * c + 0) x (nI (dd9 F so p x))) (by omega) hP5 (fun j hj => ⟨hst j hj, dd9_lt (hd j hj)⟩)
    have h78b : (me_s M (133 + 3 * c + 0) x (nI (dd9 F so p x))).1 78 1 = nI P := by rw [me_s_ne (by omega)]; exact h78
    refine ⟨b, ?_, by rw [if_pos rfl]; exact b2⟩
    unfold mX12_readsRow_63_101_J38
    simp (disch := omega) only [Option.bind_some, if_true, if_false, Sum.elim_inl, Sum.elim_inr, li0, li1, li2, li3, li4, li5, li6, li7, li8, li9, li10, li12, li16, li20, li24, li25, li31, li32, li40, li41, li42, li48, li57, li59, li97, li104, li105, li124, li126, li240, li241, nI_add, nI_subc, nI_subm, nI_mulc, nI_nm, pu_r, pu_t, pu_a, pu_le_t, pu_le_f, pu_lt_t, pu_lt_f, pu_eq_t, pu_eq_f, nm_eq, nm_eq2, nm_lt, nm_lt2, nm_le, nm_le2, nm_ss, nm_sp, pu_ss, pu_snq, pu_neq, eq_self, and_true, true_and, and_false, false_and, or_true, true_or, or_false, false_or, not_true_eq_false, not_false_eq_true, hf, hh, hid, hv, h78, b1]
  · rw [if_neg (by decide), if_pos rfl]
    have hN : ∀ j, j ≤ x → (me_s M (133 + 3 * c + 1) x (nI (dd9 F so p x))).1 (133 + 3 * c + 1) j = nI (dd9 F so p j) := hst
    have hlt : ∀ j, j ≤ x → dd9 F so p j ≤ 9 := fun j hj => dd9_lt (hd j hj)
    have hiff := lo9_iff (dd9 F so p) (fun _ => 0) x
    by_cases hk : lo9 (dd9 F so p) (fun _ => 0) x
    · refine ⟨true, ?_, fun _ => hk, fun _ => rfl⟩
      unfold mX12_readsRow_63_101_J38
      obtain ⟨k1, k2, -⟩ := hk
      by_cases z : x = 0
      · simp (disch := omega) only [Option.bind_some, if_true, if_false, Sum.elim_inl, Sum.elim_inr, li0, li1, li2, li3, li4, li5, li6, li7, li8, li9, li10, li12, li16, li20, li24, li25, li31, li32, li40, li41, li42, li48, li57, li59, li97, li104, li105, li124, li126, li240, li241, nI_add, nI_subc, nI_subm, nI_mulc, nI_nm, pu_r, pu_t, pu_a, pu_le_t, pu_le_f, pu_lt_t, pu_lt_f, pu_eq_t, pu_eq_f, nm_eq, nm_eq2, nm_lt, nm_lt2, nm_le, nm_le2, nm_ss, nm_sp, pu_ss, pu_snq, pu_neq, eq_self, and_true, true_and, and_false, false_and, or_true, true_or, or_false, false_or, not_true_eq_false, not_false_eq_true, hf, hh, hid, hv, mX12_readsRow_63_101_J123, mX12_readsRow_63_101_J119, mX12_readsRow_63_101_J104, bI_t]
      · have hm := hN (x - 1) (by omega)
        have hm0 := hdg (x - 1) (by omega)
        have h9m := hlt (x - 1) (by omega)
        have k3 : dd9 F so p (x - 1) ≤ dd9 F so p x := by omega
        generalize hNN : me_s M (133 + 3 * c + 1) x (nI (dd9 F so p x)) = N at *
        simp (disch := omega) only [Option.bind_some, if_true, if_false, Sum.elim_inl, Sum.elim_inr, li0, li1, li2, li3, li4, li5, li6, li7, li8, li9, li10, li12, li16, li20, li24, li25, li31, li32, li40, li41, li42, li48, li57, li59, li97, li104, li105, li124, li126, li240, li241, nI_add, nI_subc, nI_subm, nI_mulc, nI_nm, pu_r, pu_t, pu_a, pu_le_t, pu_le_f, pu_lt_t, pu_lt_f, pu_eq_t, pu_eq_f, nm_eq, nm_eq2, nm_lt, nm_lt2, nm_le, nm_le2, nm_ss, nm_sp, pu_ss, pu_snq, pu_neq, eq_self, and_true, true_and, and_false, false_and, or_true, true_or, or_false, false_or, not_true_eq_false, not_false_eq_true, hf, hh, hid, hv, hNN, hm, hm0, mX12_readsRow_63_101_J123, mX12_readsRow_63_101_J119, mX12_readsRow_63_101_J104, bI_t]
    · refine ⟨false, ?_, fun z => (by cases z), fun z => absurd z hk⟩
      unfold mX12_readsRow_63_101_J38
      by_cases k1 : 4 < dd9 F so p x
      · simp (disch := omega) only [Option.bind_some, if_true, if_false, Sum.elim_inl, Sum.elim_inr, li0, li1, li2, li3, li4, li5, li6, li7, li8, li9, li10, li12, li16, li20, li24, li25, li31, li32, li40, li41, li42, li48, li57, li59, li97, li104, li105, li124, li126, li240, li241, nI_add, nI_subc, nI_subm, nI_mulc, nI_nm, pu_r, pu_t, pu_a, pu_le_t, pu_le_f, pu_lt_t, pu_lt_f, pu_eq_t, pu_eq_f, nm_eq, nm_eq2, nm_lt, nm_lt2, nm_le, nm_le2, nm_ss, nm_sp, pu_ss, pu_snq, pu_neq, eq_self, and_true, true_and, and_false, false_and, or_true, true_or, or_false, false_or, not_true_eq_false, not_false_eq_true, hf, hh, hid, hv, mX12_readsRow_63_101_J123, mX12_readsRow_63_101_J119, mX12_readsRow_63_101_J104, bI_f]
      · have z : ¬ x = 0 := fun z => hk ⟨by omega, Or.inl z, Nat.zero_le _⟩
        have hm := hN (x - 1) (by omega)
        have hm0 := hdg (x - 1) (by omega)
        have h9m := hlt (x - 1) (by omega)
        have k3 : dd9 F so p x < dd9 F so p (x - 1) := by
          by_cases y : dd9 F so p x < dd9 F so p (x - 1)
          · exact y
          · exact absurd ⟨by omega, Or.inr (by omega), Nat.zero_le _⟩ hk
        generalize hNN : me_s M (133 + 3 * c + 1) x (nI (dd9 F so p x)) = N at *
        simp (disch := omega) only [Option.bind_some, if_true, if_false, Sum.elim_inl, Sum.elim_inr, li0, li1, li2, li3, li4, li5, li6, li7, li8, li9, li10, li12, li16, li20, li24, li25, li31, li32, li40, li41, li42, li48, li57, li59, li97, li104, li105, li124, li126, li240, li241, nI_add, nI_subc, nI_subm, nI_mulc, nI_nm, pu_r, pu_t, pu_a, pu_le_t, pu_le_f, pu_lt_t, pu_lt_f, pu_eq_t, pu_eq_f, nm_eq, nm_eq2, nm_lt, nm_lt2, nm_le, nm_le2, nm_ss, nm_sp, pu_ss, pu_snq, pu_neq, eq_self, and_true, true_and, and_false, false_and, or_true, true_or, or_false, false_or, not_true_eq_false, not_false_eq_true, hf, hh, hid, hv, hNN, hm, hm0, mX12_readsRow_63_101_J123, mX12_readsRow_63_101_J119, mX12_readsRow_63_101_J104, bI_f]
  · rw [if_neg (by decide), if_neg (by decide)]
    have hN : ∀ j, j ≤ x → (me_s M (133 + 3 * c + 2) x (nI (dd9 F so p x))).1 (133 + 3 * c + 2) j = nI (dd9 F so p j) := hst
    have hlt : ∀ j, j ≤ x → dd9 F so p j ≤ 9 := fun j hj => dd9_lt (hd j hj)
    obtain ⟨hL1, hL2⟩ := hL rfl
    have hLx : (me_s M (133 + 3 * c + 2) x (nI (dd9 F so p x))).1 (133 + 3 * c + 1) x = nI (L x) := by rw [me_s_ne (by omega)]; exact hL1
    by_cases hk : lo9 (dd9 F so p) L x
    · refine ⟨true, ?_, fun _ => hk, fun _ => rfl⟩
      unfold mX12_readsRow_63_101_J38
      obtain ⟨k1, k2, k4⟩ := hk
      by_cases z : x = 0
      · generalize hNN : me_s M (133 + 3 * c + 2) x (nI (dd9 F so p x)) = N at *
        simp (disch := omega) only [Option.bind_some, if_true, if_false, Sum.elim_inl, Sum.elim_inr, li0, li1, li2, li3, li4, li5, li6, li7, li8, li9, li10, li12, li16, li20, li24, li25, li31, li32, li40, li41, li42, li48, li57, li59, li97, li104, li105, li124, li126, li240, li241, nI_add, nI_subc, nI_subm, nI_mulc, nI_nm, pu_r, pu_t, pu_a, pu_le_t, pu_le_f, pu_lt_t, pu_lt_f, pu_eq_t, pu_eq_f, nm_eq, nm_eq2, nm_lt, nm_lt2, nm_le, nm_le2, nm_ss, nm_sp, pu_ss, pu_snq, pu_neq, eq_self, and_true, true_and, and_false, false_and, or_true, true_or, or_false, false_or, not_true_eq_false, not_false_eq_true, hf, hh, hid, hv, hNN, hL1, hLx, mX12_readsRow_63_101_J123, mX12_readsRow_63_101_J119, mX12_readsRow_63_101_J104, bI_t]
      · have hm := hN (x - 1) (by omega)
        have hm0 := hdg (x - 1) (by omega)
        have h9m := hlt (x - 1) (by omega)
        have k3 : dd9 F so p (x - 1) ≤ dd9 F so p x := by omega
        generalize hNN : me_s M (133 + 3 * c + 2) x (nI (dd9 F so p x)) = N at *
        simp (disch := omega) only [Option.bind_some, if_true, if_false, Sum.elim_inl, Sum.elim_inr, li0, li1, li2, li3, li4, li5, li6, li7, li8, li9, li10, li12, li16, li20, li24, li25, li31, li32, li40, li41, li42, li48, li57, li59, li97, li104, li105, li124, li126, li240, li241, nI_add, nI_subc, nI_subm, nI_mulc, nI_nm, pu_r, pu_t, pu_a, pu_le_t, pu_le_f, pu_lt_t, pu_lt_f, pu_eq_t, pu_eq_f, nm_eq, nm_eq2, nm_lt, nm_lt2, nm_le, nm_le2, nm_ss, nm_sp, pu_ss, pu_snq, pu_neq, eq_self, and_true, true_and, and_false, false_and, or_true, true_or, or_false, false_or, not_true_eq_false, not_false_eq_true, hf, hh, hid, hv, hNN, hm, hm0, hL1, hLx, mX12_readsRow_63_101_J123, mX12_readsRow_63_101_J119, mX12_readsRow_63_101_J104, bI_t]
    · refine ⟨false, ?_, fun z => (by cases z), fun z => absurd z hk⟩
      unfold mX12_readsRow_63_101_J38
      by_cases k1 : 4 < dd9 F so p x
      · simp (disch := omega) only [Option.bind_some, if_true, if_false, Sum.elim_inl, Sum.elim_inr, li0, li1, li2, li3, li4, li5, li6, li7, li8, li9, li10, li12, li16, li20, li24, li25, li31, li32, li40, li41, li42, li48, li57, li59, li97, li104, li105, li124, li126, li240, li241, nI_add, nI_subc, nI_subm, nI_mulc, nI_nm, pu_r, pu_t, pu_a, pu_le_t, pu_le_f, pu_lt_t, pu_lt_f, pu_eq_t, pu_eq_f, nm_eq, nm_eq2, nm_lt, nm_lt2, nm_le, nm_le2, nm_ss, nm_sp, pu_ss, pu_snq, pu_neq, eq_self, and_true, true_and, and_false, false_and, or_true, true_or, or_false, false_or, not_true_eq_false, not_false_eq_true, hf, hh, hid, hv, mX12_readsRow_63_101_J123, mX12_readsRow_63_101_J119, mX12_readsRow_63_101_J104, bI_f]
      · by_cases z : x = 0
        · have k4 : dd9 F so p x < L x := by
            by_cases y : dd9 F so p x < L x
            · exact y
            · exact absurd ⟨by omega, Or.inl z, by omega⟩ hk
          generalize hNN : me_s M (133 + 3 * c + 2) x (nI (dd9 F so p x)) = N at *
          simp (disch := omega) only [Option.bind_some, if_true, if_false, Sum.elim_inl, Sum.elim_inr, li0, li1, li2, li3, li4, li5, li6, li7, li8, li9, li10, li12, li16, li20, li24, li25, li31, li32, li40, li41, li42, li48, li57, li59, li97, li104, li105, li124, li126, li240, li241, nI_add, nI_subc, nI_subm, nI_mulc, nI_nm, pu_r, pu_t, pu_a, pu_le_t, pu_le_f, pu_lt_t, pu_lt_f, pu_eq_t, pu_eq_f, nm_eq, nm_eq2, nm_lt, nm_lt2, nm_le, nm_le2, nm_ss, nm_sp, pu_ss, pu_snq, pu_neq, eq_self, and_true, true_and, and_false, false_and, or_true, true_or, or_false, false_or, not_true_eq_false, not_false_eq_true, hf, hh, hid, hv, hNN, hL1, hLx, mX12_readsRow_63_101_J123, mX12_readsRow_63_101_J119, mX12_readsRow_63_101_J104, bI_f]
        · have hm := hN (x - 1) (by omega)
          have hm0 := hdg (x - 1) (by omega)
          have h9m := hlt (x - 1) (by omega)
          by_cases k3 : dd9 F so p x < dd9 F so p (x - 1)
          · generalize hNN : me_s M (133 + 3 * c + 2) x (nI (dd9 F so p x)) = N at *
            simp (disch := omega) only [Option.bind_some, if_true, if_false, Sum.elim_inl, Sum.elim_inr, li0, li1, li2, li3, li4, li5, li6, li7, li8, li9, li10, li12, li16, li20, li24, li25, li31, li32, li40, li41, li42, li48, li57, li59, li97, li104, li105, li124, li126, li240, li241, nI_add, nI_subc, nI_subm, nI_mulc, nI_nm, pu_r, pu_t, pu_a, pu_le_t, pu_le_f, pu_lt_t, pu_lt_f, pu_eq_t, pu_eq_f, nm_eq, nm_eq2, nm_lt, nm_lt2, nm_le, nm_le2, nm_ss, nm_sp, pu_ss, pu_snq, pu_neq, eq_self, and_true, true_and, and_false, false_and, or_true, true_or, or_false, false_or, not_true_eq_false, not_false_eq_true, hf, hh, hid, hv, hNN, hm, hm0, hL1, hLx, mX12_readsRow_63_101_J123, mX12_readsRow_63_101_J119, mX12_readsRow_63_101_J104, bI_f]
          · have k4 : dd9 F so p x < L x := by
              by_cases y : dd9 F so p x < L x
              · exact y
              · exact absurd ⟨by omega, Or.inr (by omega), by omega⟩ hk
            generalize hNN : me_s M (133 + 3 * c + 2) x (nI (dd9 F so p x)) = N at *
            simp (disch := omega) only [Option.bind_some, if_true, if_false, Sum.elim_inl, Sum.elim_inr, li0, li1, li2, li3, li4, li5, li6, li7, li8, li9, li10, li12, li16, li20, li24, li25, li31, li32, li40, li41, li42, li48, li57, li59, li97, li104, li105, li124, li126, li240, li241, nI_add, nI_subc, nI_subm, nI_mulc, nI_nm, pu_r, pu_t, pu_a, pu_le_t, pu_le_f, pu_lt_t, pu_lt_f, pu_eq_t, pu_eq_f, nm_eq, nm_eq2, nm_lt, nm_lt2, nm_le, nm_le2, nm_ss, nm_sp, pu_ss, pu_snq, pu_neq, eq_self, and_true, true_and, and_false, false_and, or_true, true_or, or_false, false_or, not_true_eq_false, not_false_eq_true, hf, hh, hid, hv, hNN, hm, hm0, hL1, hLx, mX12_readsRow_63_101_J123, mX12_readsRow_63_101_J119, mX12_readsRow_63_101_J104, bI_f]
