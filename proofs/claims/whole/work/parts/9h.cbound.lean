/-! ===== call: scheme; the class reads bounds ===== -/
/-- the k-th bound is one -/
def lo9 (d L : Nat → Nat) (k : Nat) : Prop := d k ≤ 4 ∧ (k = 0 ∨ d (k - 1) ≤ d k) ∧ L k ≤ d k
def fl9 (d : Nat → Nat) (x : Nat) : Nat := if x = 0 then 0 else d (x - 1)
theorem fl9_s (d : Nat → Nat) (x : Nat) : fl9 d (x + 1) = d x := by unfold fl9; rw [if_neg (by omega), Nat.add_sub_cancel]
theorem lo9_iff (d L : Nat → Nat) (k : Nat) : lo9 d L k ↔ max (fl9 d k) (L k) ≤ d k ∧ d k ≤ 4 := by
  unfold lo9 fl9
  by_cases h : k = 0
  · rw [if_pos h]; omega
  · rw [if_neg h]; omega
theorem c_bound1 {F : Nat → Nat} {so q : Nat} {f : Int32} {M : me_M} (ht : cT F so M) (hq : q ≤ 1000) (h2 : M.1 52 2 = nI q) (hd : dg9 F so q = false) : mX6_boundHere_52 M f = some (-nI 1, me_s (me_s M 52 3 (nI 1)) 52 4 (M.1 52 2)) := by
  have hid := c_isDigit ht hq h2
  rw [hd, bI_f] at hid
  unfold mX6_boundHere_52
  simp (disch := omega) only [Option.bind_some, if_true, if_false, Sum.elim_inl, Sum.elim_inr, li0, li1, li2, li3, li4, li5, li6, li7, li8, li9, li10, li12, li16, li20, li24, li25, li31, li32, li40, li41, li42, li48, li57, li59, li97, li104, li105, li124, li126, li240, li241, nI_add, nI_subc, nI_subm, nI_mulc, nI_nm, pu_r, pu_t, pu_a, pu_le_t, pu_le_f, pu_lt_t, pu_lt_f, pu_eq_t, pu_eq_f, nm_eq, nm_eq2, nm_lt, nm_lt2, nm_le, nm_le2, nm_ss, nm_sp, pu_ss, pu_snq, pu_neq, eq_self, and_true, true_and, and_false, false_and, or_true, true_or, or_false, false_or, not_true_eq_false, not_false_eq_true, hid, c_fail]
theorem c_bound2 {F : Nat → Nat} {so q f : Nat} {M : me_M} (ht : cT F so M) (hq : q ≤ 1000) (h2 : M.1 52 2 = nI q) (hd : dg9 F so q = true) (hf : f ≤ 9) (hn : ¬ (f ≤ bz9 F so q - 48 ∧ bz9 F so q - 48 ≤ 4)) : mX6_boundHere_52 M (nI f) = some (-nI 1, me_s (me_s M 52 3 (nI 2)) 52 4 (M.1 52 2)) := by
  have hid := c_isDigit ht hq h2
  rw [hd, bI_t] at hid
  have hdh := c_digitHere ht h2 hd
  have hb := (dg9_lt hd).2
  rw [← bz9_lt (F := F) (dg9_lt hd).1] at hb
  have hv : bz9 F so q - 48 ≤ 9 := by omega
  generalize bz9 F so q - 48 = v at *
  unfold mX6_boundHere_52 mX6_boundHere_52_J30
  by_cases c : v < f
  · simp (disch := omega) only [Option.bind_some, if_true, if_false, Sum.elim_inl, Sum.elim_inr, li0, li1, li2, li3, li4, li5, li6, li7, li8, li9, li10, li12, li16, li20, li24, li25, li31, li32, li40, li41, li42, li48, li57, li59, li97, li104, li105, li124, li126, li240, li241, nI_add, nI_subc, nI_subm, nI_mulc, nI_nm, pu_r, pu_t, pu_a, pu_le_t, pu_le_f, pu_lt_t, pu_lt_f, pu_eq_t, pu_eq_f, nm_eq, nm_eq2, nm_lt, nm_lt2, nm_le, nm_le2, nm_ss, nm_sp, pu_ss, pu_snq, pu_neq, eq_self, and_true, true_and, and_false, false_and, or_true, true_or, or_false, false_or, not_true_eq_false, not_false_eq_true, hid, hdh, c_fail]
  · have : 4 < v := by omega
    simp (disch := omega) only [Option.bind_some, if_true, if_false, Sum.elim_inl, Sum.elim_inr, li0, li1, li2, li3, li4, li5, li6, li7, li8, li9, li10, li12, li16, li20, li24, li25, li31, li32, li40, li41, li42, li48, li57, li59, li97, li104, li105, li124, li126, li240, li241, nI_add, nI_subc, nI_subm, nI_mulc, nI_nm, pu_r, pu_t, pu_a, pu_le_t, pu_le_f, pu_lt_t, pu_lt_f, pu_eq_t, pu_eq_f, nm_eq, nm_eq2, nm_lt, nm_lt2, nm_le, nm_le2, nm_ss, nm_sp, pu_ss, pu_snq, pu_neq, eq_self, and_true, true_and, and_false, false_and, or_true, true_or, or_false, false_or, not_true_eq_false, not_false_eq_true, hid, hdh, c_fail]
theorem c_bound3 {F : Nat → Nat} {so q f : Nat} {M : me_M} (ht : cT F so M) (hq : q ≤ 1000) (h2 : M.1 52 2 = nI q) (hd : dg9 F so q = true) (hn : f ≤ bz9 F so q - 48 ∧ bz9 F so q - 48 ≤ 4) : mX6_boundHere_52 M (nI f) = some (nI (bz9 F so q - 48), M) := by
  have hid := c_isDigit ht hq h2
  rw [hd, bI_t] at hid
  have hdh := c_digitHere ht h2 hd
  generalize bz9 F so q - 48 = v at *
  unfold mX6_boundHere_52 mX6_boundHere_52_J30
  simp (disch := omega) only [Option.bind_some, if_true, if_false, Sum.elim_inl, Sum.elim_inr, li0, li1, li2, li3, li4, li5, li6, li7, li8, li9, li10, li12, li16, li20, li24, li25, li31, li32, li40, li41, li42, li48, li57, li59, li97, li104, li105, li124, li126, li240, li241, nI_add, nI_subc, nI_subm, nI_mulc, nI_nm, pu_r, pu_t, pu_a, pu_le_t, pu_le_f, pu_lt_t, pu_lt_f, pu_eq_t, pu_eq_f, nm_eq, nm_eq2, nm_lt, nm_lt2, nm_le, nm_le2, nm_ss, nm_sp, pu_ss, pu_snq, pu_neq, eq_self, and_true, true_and, and_false, false_and, or_true, true_or, or_false, false_or, not_true_eq_false, not_false_eq_true, hid, hdh]
theorem c_least {ob od le mo sh c P p so : Nat} {F : Nat → Nat} {M : me_M} (hob : ob9 ob od le mo) (hc : c < 8) (hP1 : 1 ≤ P) (hP5 : P ≤ 5) (ht : cT F so M) (hq : cQ none p M) (hp : p ≤ so) (h4 : M.1 ob 4 = nI c) (h5 : M.1 ob 5 = nI P) : ∃ o M1, gX6_readLeast ob od le mo sh M = some (bI o.isNone, M1) ∧ fr (fun b k => (b = 52 ∧ 2 ≤ k ∧ k ≤ 4) ∨ (b = le ∧ c * 5 ≤ k)) M M1 ∧ rowR (lo9 (dd9 F so p) (fun _ => 0)) 1 F so p P o ∧ cQ o (p + P) M1 ∧ (o = none → ∀ k, k < P → M1.1 le (c * 5 + k) = nI (dd9 F so p k)) := by
  unfold ob9 at hob
  have hs := ht.1
  obtain ⟨q3, q4, q2⟩ := hq
  obtain ⟨r, e, hr⟩ := lp_up (b := gX6_readLeast_L4 ob od le mo sh) (fun x st => ∃ Mx, st = (nI (fl9 (dd9 F so p) x), nI x, Mx) ∧ fr (fun b k => (b = 52 ∧ k = 2) ∨ (b = le ∧ c * 5 ≤ k)) M Mx ∧ Mx.1 52 2 = nI (p + x) ∧ (∀ j, j < x → dg9 F so (p + j) = true ∧ lo9 (dd9 F so p) (fun _ => 0) j) ∧ ∀ j, j < x → Mx.1 le (c * 5 + j) = nI (dd9 F so p j)) (fun r => (∃ Mx, r = .inl Mx ∧ fr (fun b k => (b = 52 ∧ k = 2) ∨ (b = le ∧ c * 5 ≤ k)) M Mx ∧ Mx.1 52 2 = nI (p + P) ∧ (∀ j, j < P → dg9 F so (p + j) = true ∧ lo9 (dd9 F so p) (fun _ => 0) j) ∧ ∀ j, j < P → Mx.1 le (c * 5 + j) = nI (dd9 F so p j)) ∨ (∃ Mx o, r = .inr (nI 0, Mx) ∧ o ≠ none ∧ fr (fun b k => (b = 52 ∧ 2 ≤ k ∧ k ≤ 4) ∨ (b = le ∧ c * 5 ≤ k)) M Mx ∧ rowR (lo9 (dd9 F so p) (fun _ => 0)) 1 F so p P o ∧ cQ o (p + P) Mx)) (a := 0) (N := P) (by omega) (by omega) (fun x st _ hx hst => by
    obtain ⟨Mx, rfl, hf, h2x, hok, hdg⟩ := hst
    have htx := ht.fr hf (by omega) (fun k => by omega)
    have h4x : Mx.1 ob 4 = nI c := by rw [hf.2 _ _ (by omega)]; exact h4
    have h5x : Mx.1 ob 5 = nI P := by rw [hf.2 _ _ (by omega)]; exact h5
    have hpx : p + x ≤ 240 := by
      by_cases z : x = 0
      · omega
      · have := (dg9_lt (hok (x - 1) (by omega)).1).1; omega
    have hfb : fl9 (dd9 F so p) x ≤ 4 := by
      unfold fl9
      by_cases z : x = 0
      · rw [if_pos z]; omega
      · rw [if_neg z]; exact (hok (x - 1) (by omega)).2.1
    have hfail : ∀ kd, 1 ≤ kd → kd ≤ 3 → fr (fun b k => (b = 52 ∧ 2 ≤ k ∧ k ≤ 4) ∨ (b = le ∧ c * 5 ≤ k)) M (me_s (me_s Mx 52 3 (nI kd)) 52 4 (Mx.1 52 2)) := fun kd _ _ => ((hf.up (fun b k h => by omega)).st (by omega)).st (by omega)
    cases hd : dg9 F so (p + x) with
    | false =>
      right
      have hb := c_bound1 (f := nI (fl9 (dd9 F so p) x)) htx (by omega) h2x hd
      refine ⟨_, ?_, Or.inr ⟨_, some (1, p + x), rfl, by simp, hfail 1 (by omega) (by omega), Or.inl ⟨x, hx, hok, Or.inl ⟨hd, rfl⟩⟩, cQ_fail h2x (by omega) (by omega) hpx⟩⟩
      simp only [gX6_readLeast_L4]
      simp (disch := omega) only [Option.bind_some, if_true, if_false, Sum.elim_inl, Sum.elim_inr, li0, li1, li2, li3, li4, li5, li6, li7, li8, li9, li10, li12, li16, li20, li24, li25, li31, li32, li40, li41, li42, li48, li57, li59, li97, li104, li105, li124, li126, li240, li241, nI_add, nI_subc, nI_subm, nI_mulc, nI_nm, pu_r, pu_t, pu_a, pu_le_t, pu_le_f, pu_lt_t, pu_lt_f, pu_eq_t, pu_eq_f, nm_eq, nm_eq2, nm_lt, nm_lt2, nm_le, nm_le2, nm_ss, nm_sp, pu_ss, pu_snq, pu_neq, eq_self, and_true, true_and, and_false, false_and, or_true, true_or, or_false, false_or, not_true_eq_false, not_false_eq_true, h5x, h4x, hb]
    | true =>
      by_cases hk : lo9 (dd9 F so p) (fun _ => 0) x
      · left
        have hk2 := (lo9_iff _ _ _).mp hk
        have hb := c_bound3 (f := fl9 (dd9 F so p) x) htx (by omega) h2x hd ⟨by have := hk2.1; show _ ≤ dd9 F so p x; omega, hk2.2⟩
        have h9 : dd9 F so p x ≤ 9 := dd9_lt hd
        rw [show bz9 F so (p + x) - 48 = dd9 F so p x from rfl] at hb
        refine ⟨(nI (fl9 (dd9 F so p) (x + 1)), nI (x + 1), me_s (me_s Mx le (c * 5 + x) (nI (dd9 F so p x))) 52 2 (nI (p + (x + 1)))), ?_, _, rfl, (hf.st (by omega)).st (by omega), pu_ss, all_s.mpr ⟨hok, hd, hk⟩, fun j hj => ?_⟩
        · simp only [gX6_readLeast_L4]
          rw [fl9_s]
          simp (disch := omega) only [Option.bind_some, if_true, if_false, Sum.elim_inl, Sum.elim_inr, li0, li1, li2, li3, li4, li5, li6, li7, li8, li9, li10, li12, li16, li20, li24, li25, li31, li32, li40, li41, li42, li48, li57, li59, li97, li104, li105, li124, li126, li240, li241, nI_add, nI_subc, nI_subm, nI_mulc, nI_nm, pu_r, pu_t, pu_a, pu_le_t, pu_le_f, pu_lt_t, pu_lt_f, pu_eq_t, pu_eq_f, nm_eq, nm_eq2, nm_lt, nm_lt2, nm_le, nm_le2, nm_ss, nm_sp, pu_ss, pu_snq, pu_neq, eq_self, and_true, true_and, and_false, false_and, or_true, true_or, or_false, false_or, not_true_eq_false, not_false_eq_true, h5x, h4x, hb, h2x, show p + x + 1 = p + (x + 1) by omega]
        · rw [me_s_ne (by omega)]
          by_cases z : j = x
          · rw [z, pu_ss]
          · rw [pu_sn (by omega)]; exact hdg j (by omega)
      · right
        have hb := c_bound2 (f := fl9 (dd9 F so p) x) htx (by omega) h2x hd (by omega) (fun z => hk ((lo9_iff _ _ _).mpr ⟨by have := z.1; rw [show bz9 F so (p + x) - 48 = dd9 F so p x from rfl] at this; show max (fl9 (dd9 F so p) x) 0 ≤ dd9 F so p x; omega, z.2⟩))
        refine ⟨_, ?_, Or.inr ⟨_, some (2, p + x), rfl, by simp, hfail 2 (by omega) (by omega), Or.inl ⟨x, hx, hok, Or.inr ⟨hd, hk, rfl⟩⟩, cQ_fail h2x (by omega) (by omega) hpx⟩⟩
        simp only [gX6_readLeast_L4]
        simp (disch := omega) only [Option.bind_some, if_true, if_false, Sum.elim_inl, Sum.elim_inr, li0, li1, li2, li3, li4, li5, li6, li7, li8, li9, li10, li12, li16, li20, li24, li25, li31, li32, li40, li41, li42, li48, li57, li59, li97, li104, li105, li124, li126, li240, li241, nI_add, nI_subc, nI_subm, nI_mulc, nI_nm, pu_r, pu_t, pu_a, pu_le_t, pu_le_f, pu_lt_t, pu_lt_f, pu_eq_t, pu_eq_f, nm_eq, nm_eq2, nm_lt, nm_lt2, nm_le, nm_le2, nm_ss, nm_sp, pu_ss, pu_snq, pu_neq, eq_self, and_true, true_and, and_false, false_and, or_true, true_or, or_false, false_or, not_true_eq_false, not_false_eq_true, h5x, h4x, hb]) (fun st hst => by
    obtain ⟨Mx, rfl, hf, h2x, hok, hdg⟩ := hst
    have h5x : Mx.1 ob 5 = nI P := by rw [hf.2 _ _ (by omega)]; exact h5
    refine ⟨.inl Mx, ?_, Or.inl ⟨Mx, rfl, hf, h2x, hok, hdg⟩⟩
    simp only [gX6_readLeast_L4]
    simp (disch := omega) only [Option.bind_some, if_true, if_false, Sum.elim_inl, Sum.elim_inr, li0, li1, li2, li3, li4, li5, li6, li7, li8, li9, li10, li12, li16, li20, li24, li25, li31, li32, li40, li41, li42, li48, li57, li59, li97, li104, li105, li124, li126, li240, li241, nI_add, nI_subc, nI_subm, nI_mulc, nI_nm, pu_r, pu_t, pu_a, pu_le_t, pu_le_f, pu_lt_t, pu_lt_f, pu_eq_t, pu_eq_f, nm_eq, nm_eq2, nm_lt, nm_lt2, nm_le, nm_le2, nm_ss, nm_sp, pu_ss, pu_snq, pu_neq, eq_self, and_true, true_and, and_false, false_and, or_true, true_or, or_false, false_or, not_true_eq_false, not_false_eq_true, h5x]) (s0 := (nI 0, nI 0, M)) ⟨M, rfl, fr.rf, q2, fun j hj => absurd hj (Nat.not_lt_zero _), fun j hj => absurd hj (Nat.not_lt_zero _)⟩
  unfold gX6_readLeast
  rcases hr with ⟨Mx, rfl, hf, h2x, hok, hdg⟩ | ⟨Mx, o, rfl, ho, hf, hrow, hq⟩
  · have htx := ht.fr hf (by omega) (fun k => by omega)
    have hpx : p + P ≤ 240 := by have := (dg9_lt (hok (P - 1) (by omega)).1).1; omega
    have hid := c_isDigit htx (p := p + P) (by omega) h2x
    cases hd : dg9 F so (p + P) with
    | false =>
      rw [hd, bI_f] at hid
      refine ⟨none, Mx, ?_, hf.up (fun b k h => by omega), Or.inr ⟨hok, Or.inr ⟨hd, rfl⟩⟩, ⟨by rw [hf.2 _ _ (by omega)]; exact q3, by rw [hf.2 _ _ (by omega)]; exact q4, h2x⟩, fun _ => hdg⟩
      simp (disch := omega) only [Option.bind_some, if_true, if_false, Sum.elim_inl, Sum.elim_inr, li0, li1, li2, li3, li4, li5, li6, li7, li8, li9, li10, li12, li16, li20, li24, li25, li31, li32, li40, li41, li42, li48, li57, li59, li97, li104, li105, li124, li126, li240, li241, nI_add, nI_subc, nI_subm, nI_mulc, nI_nm, pu_r, pu_t, pu_a, pu_le_t, pu_le_f, pu_lt_t, pu_lt_f, pu_eq_t, pu_eq_f, nm_eq, nm_eq2, nm_lt, nm_lt2, nm_le, nm_le2, nm_ss, nm_sp, pu_ss, pu_snq, pu_neq, eq_self, and_true, true_and, and_false, false_and, or_true, true_or, or_false, false_or, not_true_eq_false, not_false_eq_true, e, hid, show bI (Option.isNone (none : Option (Nat × Nat))) = nI 1 from rfl]
    | true =>
      rw [hd, bI_t] at hid
      refine ⟨some (1, p + P), me_s (me_s Mx 52 3 (nI 1)) 52 4 (Mx.1 52 2), ?_, ((hf.up (fun b k h => by omega)).st (by omega)).st (by omega), Or.inr ⟨hok, Or.inl ⟨hd, rfl⟩⟩, cQ_fail h2x (by omega) (by omega) hpx, fun z => by cases z⟩
      simp (disch := omega) only [Option.bind_some, if_true, if_false, Sum.elim_inl, Sum.elim_inr, li0, li1, li2, li3, li4, li5, li6, li7, li8, li9, li10, li12, li16, li20, li24, li25, li31, li32, li40, li41, li42, li48, li57, li59, li97, li104, li105, li124, li126, li240, li241, nI_add, nI_subc, nI_subm, nI_mulc, nI_nm, pu_r, pu_t, pu_a, pu_le_t, pu_le_f, pu_lt_t, pu_lt_f, pu_eq_t, pu_eq_f, nm_eq, nm_eq2, nm_lt, nm_lt2, nm_le, nm_le2, nm_ss, nm_sp, pu_ss, pu_snq, pu_neq, eq_self, and_true, true_and, and_false, false_and, or_true, true_or, or_false, false_or, not_true_eq_false, not_false_eq_true, e, hid, c_fail, show bI (Option.isNone (some (1, p + P))) = nI 0 from rfl]
  · obtain ⟨⟨kd, pl⟩, rfl⟩ : ∃ w, o = some w := by
      cases o with
      | none => exact absurd rfl ho
      | some w => exact ⟨w, rfl⟩
    refine ⟨some (kd, pl), Mx, ?_, hf, hrow, hq, fun z => by cases z⟩
    simp (disch := omega) only [Option.bind_some, if_true, if_false, Sum.elim_inl, Sum.elim_inr, li0, li1, li2, li3, li4, li5, li6, li7, li8, li9, li10, li12, li16, li20, li24, li25, li31, li32, li40, li41, li42, li48, li57, li59, li97, li104, li105, li124, li126, li240, li241, nI_add, nI_subc, nI_subm, nI_mulc, nI_nm, pu_r, pu_t, pu_a, pu_le_t, pu_le_f, pu_lt_t, pu_lt_f, pu_eq_t, pu_eq_f, nm_eq, nm_eq2, nm_lt, nm_lt2, nm_le, nm_le2, nm_ss, nm_sp, pu_ss, pu_snq, pu_neq, eq_self, and_true, true_and, and_false, false_and, or_true, true_or, or_false, false_or, not_true_eq_false, not_false_eq_true, e, show bI (Option.isNone (some (kd, pl))) = nI 0 from rfl]
theorem c_most {ob od le mo sh c P p so : Nat} {F L : Nat → Nat} {M : me_M} (hob : ob9 ob od le mo) (hc : c < 8) (hP1 : 1 ≤ P) (hP5 : P ≤ 5) (ht : cT F so M) (hq : cQ none p M) (hp : p ≤ so) (h4 : M.1 ob 4 = nI c) (h5 : M.1 ob 5 = nI P) (hL : ∀ k, k < P → M.1 le (c * 5 + k) = nI (L k) ∧ L k ≤ 4) : ∃ o M1, gX6_readMost ob od le mo sh M = some (bI o.isNone, M1) ∧ fr (fun b k => (b = 52 ∧ 2 ≤ k ∧ k ≤ 4) ∨ (b = mo ∧ c * 5 ≤ k)) M M1 ∧ rowR (lo9 (dd9 F so p) L) 1 F so p P o ∧ cQ o (p + P) M1 ∧ (o = none → ∀ k, k < P → M1.1 mo (c * 5 + k) = nI (dd9 F so p k)) := by
  unfold ob9 at hob
  have hs := ht.1
  obtain ⟨q3, q4, q2⟩ := hq
  obtain ⟨r, e, hr⟩ := lp_up (b := gX6_readMost_L4 ob od le mo sh) (fun x st => ∃ Mx, st = (nI (fl9 (dd9 F so p) x), nI x, Mx) ∧ fr (fun b k => (b = 52 ∧ k = 2) ∨ (b = mo ∧ c * 5 ≤ k)) M Mx ∧ Mx.1 52 2 = nI (p + x) ∧ (∀ j, j < x → dg9 F so (p + j) = true ∧ lo9 (dd9 F so p) L j) ∧ ∀ j, j < x → Mx.1 mo (c * 5 + j) = nI (dd9 F so p j)) (fun r => (∃ Mx, r = .inl Mx ∧ fr (fun b k => (b = 52 ∧ k = 2) ∨ (b = mo ∧ c * 5 ≤ k)) M Mx ∧ Mx.1 52 2 = nI (p + P) ∧ (∀ j, j < P → dg9 F so (p + j) = true ∧ lo9 (dd9 F so p) L j) ∧ ∀ j, j < P → Mx.1 mo (c * 5 + j) = nI (dd9 F so p j)) ∨ (∃ Mx o, r = .inr (nI 0, Mx) ∧ o ≠ none ∧ fr (fun b k => (b = 52 ∧ 2 ≤ k ∧ k ≤ 4) ∨ (b = mo ∧ c * 5 ≤ k)) M Mx ∧ rowR (lo9 (dd9 F so p) L) 1 F so p P o ∧ cQ o (p + P) Mx)) (a := 0) (N := P) (by omega) (by omega) (fun x st _ hx hst => by
    obtain ⟨Mx, rfl, hf, h2x, hok, hdg⟩ := hst
    have htx := ht.fr hf (by omega) (fun k => by omega)
    have h4x : Mx.1 ob 4 = nI c := by rw [hf.2 _ _ (by omega)]; exact h4
    have h5x : Mx.1 ob 5 = nI P := by rw [hf.2 _ _ (by omega)]; exact h5
    have hpx : p + x ≤ 240 := by
      by_cases z : x = 0
      · omega
      · have := (dg9_lt (hok (x - 1) (by omega)).1).1; omega
    have hfb : fl9 (dd9 F so p) x ≤ 4 := by
      unfold fl9
      by_cases z : x = 0
      · rw [if_pos z]; omega
      · rw [if_neg z]; exact (hok (x - 1) (by omega)).2.1
    have hLx : Mx.1 le (c * 5 + x) = nI (L x) := by rw [hf.2 _ _ (by omega)]; exact (hL x hx).1
    have hLb := (hL x hx).2
    have hmx := c_max (a := fl9 (dd9 F so p) x) (b := L x) (by omega) (by omega)
    have hfail : ∀ kd, 1 ≤ kd → kd ≤ 3 → fr (fun b k => (b = 52 ∧ 2 ≤ k ∧ k ≤ 4) ∨ (b = mo ∧ c * 5 ≤ k)) M (me_s (me_s Mx 52 3 (nI kd)) 52 4 (Mx.1 52 2)) := fun kd _ _ => ((hf.up (fun b k h => by omega)).st (by omega)).st (by omega)
    cases hd : dg9 F so (p + x) with
    | false =>
      right
      have hb := c_bound1 (f := nI (max (fl9 (dd9 F so p) x) (L x))) htx (by omega) h2x hd
      refine ⟨_, ?_, Or.inr ⟨_, some (1, p + x), rfl, by simp, hfail 1 (by omega) (by omega), Or.inl ⟨x, hx, hok, Or.inl ⟨hd, rfl⟩⟩, cQ_fail h2x (by omega) (by omega) hpx⟩⟩
      simp only [gX6_readMost_L4]
      simp (disch := omega) only [Option.bind_some, if_true, if_false, Sum.elim_inl, Sum.elim_inr, li0, li1, li2, li3, li4, li5, li6, li7, li8, li9, li10, li12, li16, li20, li24, li25, li31, li32, li40, li41, li42, li48, li57, li59, li97, li104, li105, li124, li126, li240, li241, nI_add, nI_subc, nI_subm, nI_mulc, nI_nm, pu_r, pu_t, pu_a, pu_le_t, pu_le_f, pu_lt_t, pu_lt_f, pu_eq_t, pu_eq_f, nm_eq, nm_eq2, nm_lt, nm_lt2, nm_le, nm_le2, nm_ss, nm_sp, pu_ss, pu_snq, pu_neq, eq_self, and_true, true_and, and_false, false_and, or_true, true_or, or_false, false_or, not_true_eq_false, not_false_eq_true, h5x, h4x, hLx, hmx, hb]
    | true =>
      by_cases hk : lo9 (dd9 F so p) L x
      · left
        have hk2 := (lo9_iff _ _ _).mp hk
        have hb := c_bound3 (f := max (fl9 (dd9 F so p) x) (L x)) htx (by omega) h2x hd ⟨by have := hk2.1; show _ ≤ dd9 F so p x; omega, hk2.2⟩
        have h9 : dd9 F so p x ≤ 9 := dd9_lt hd
        rw [show bz9 F so (p + x) - 48 = dd9 F so p x from rfl] at hb
        refine ⟨(nI (fl9 (dd9 F so p) (x + 1)), nI (x + 1), me_s (me_s Mx mo (c * 5 + x) (nI (dd9 F so p x))) 52 2 (nI (p + (x + 1)))), ?_, _, rfl, (hf.st (by omega)).st (by omega), pu_ss, all_s.mpr ⟨hok, hd, hk⟩, fun j hj => ?_⟩
        · simp only [gX6_readMost_L4]
          rw [fl9_s]
          simp (disch := omega) only [Option.bind_some, if_true, if_false, Sum.elim_inl, Sum.elim_inr, li0, li1, li2, li3, li4, li5, li6, li7, li8, li9, li10, li12, li16, li20, li24, li25, li31, li32, li40, li41, li42, li48, li57, li59, li97, li104, li105, li124, li126, li240, li241, nI_add, nI_subc, nI_subm, nI_mulc, nI_nm, pu_r, pu_t, pu_a, pu_le_t, pu_le_f, pu_lt_t, pu_lt_f, pu_eq_t, pu_eq_f, nm_eq, nm_eq2, nm_lt, nm_lt2, nm_le, nm_le2, nm_ss, nm_sp, pu_ss, pu_snq, pu_neq, eq_self, and_true, true_and, and_false, false_and, or_true, true_or, or_false, false_or, not_true_eq_false, not_false_eq_true, h5x, h4x, hLx, hmx, hb, h2x, show p + x + 1 = p + (x + 1) by omega]
        · rw [me_s_ne (by omega)]
          by_cases z : j = x
          · rw [z, pu_ss]
          · rw [pu_sn (by omega)]; exact hdg j (by omega)
      · right
        have hb := c_bound2 (f := max (fl9 (dd9 F so p) x) (L x)) htx (by omega) h2x hd (by omega) (fun z => hk ((lo9_iff _ _ _).mpr ⟨by have := z.1; rw [show bz9 F so (p + x) - 48 = dd9 F so p x from rfl] at this; omega, z.2⟩))
        refine ⟨_, ?_, Or.inr ⟨_, some (2, p + x), rfl, by simp, hfail 2 (by omega) (by omega), Or.inl ⟨x, hx, hok, Or.inr ⟨hd, hk, rfl⟩⟩, cQ_fail h2x (by omega) (by omega) hpx⟩⟩
        simp only [gX6_readMost_L4]
        simp (disch := omega) only [Option.bind_some, if_true, if_false, Sum.elim_inl, Sum.elim_inr, li0, li1, li2, li3, li4, li5, li6, li7, li8, li9, li10, li12, li16, li20, li24, li25, li31, li32, li40, li41, li42, li48, li57, li59, li97, li104, li105, li124, li126, li240, li241, nI_add, nI_subc, nI_subm, nI_mulc, nI_nm, pu_r, pu_t, pu_a, pu_le_t, pu_le_f, pu_lt_t, pu_lt_f, pu_eq_t, pu_eq_f, nm_eq, nm_eq2, nm_lt, nm_lt2, nm_le, nm_le2, nm_ss, nm_sp, pu_ss, pu_snq, pu_neq, eq_self, and_true, true_and, and_false, false_and, or_true, true_or, or_false, false_or, not_true_eq_false, not_false_eq_true, h5x, h4x, hLx, hmx, hb]) (fun st hst => by
    obtain ⟨Mx, rfl, hf, h2x, hok, hdg⟩ := hst
    have h5x : Mx.1 ob 5 = nI P := by rw [hf.2 _ _ (by omega)]; exact h5
    refine ⟨.inl Mx, ?_, Or.inl ⟨Mx, rfl, hf, h2x, hok, hdg⟩⟩
    simp only [gX6_readMost_L4]
    simp (disch := omega) only [Option.bind_some, if_true, if_false, Sum.elim_inl, Sum.elim_inr, li0, li1, li2, li3, li4, li5, li6, li7, li8, li9, li10, li12, li16, li20, li24, li25, li31, li32, li40, li41, li42, li48, li57, li59, li97, li104, li105, li124, li126, li240, li241, nI_add, nI_subc, nI_subm, nI_mulc, nI_nm, pu_r, pu_t, pu_a, pu_le_t, pu_le_f, pu_lt_t, pu_lt_f, pu_eq_t, pu_eq_f, nm_eq, nm_eq2, nm_lt, nm_lt2, nm_le, nm_le2, nm_ss, nm_sp, pu_ss, pu_snq, pu_neq, eq_self, and_true, true_and, and_false, false_and, or_true, true_or, or_false, false_or, not_true_eq_false, not_false_eq_true, h5x]) (s0 := (nI 0, nI 0, M)) ⟨M, rfl, fr.rf, q2, fun j hj => absurd hj (Nat.not_lt_zero _), fun j hj => absurd hj (Nat.not_lt_zero _)⟩
  unfold gX6_readMost
  rcases hr with ⟨Mx, rfl, hf, h2x, hok, hdg⟩ | ⟨Mx, o, rfl, ho, hf, hrow, hq⟩
  · have htx := ht.fr hf (by omega) (fun k => by omega)
    have hpx : p + P ≤ 240 := by have := (dg9_lt (hok (P - 1) (by omega)).1).1; omega
    have hid := c_isDigit htx (p := p + P) (by omega) h2x
    cases hd : dg9 F so (p + P) with
    | false =>
      rw [hd, bI_f] at hid
      refine ⟨none, Mx, ?_, hf.up (fun b k h => by omega), Or.inr ⟨hok, Or.inr ⟨hd, rfl⟩⟩, ⟨by rw [hf.2 _ _ (by omega)]; exact q3, by rw [hf.2 _ _ (by omega)]; exact q4, h2x⟩, fun _ => hdg⟩
      simp (disch := omega) only [Option.bind_some, if_true, if_false, Sum.elim_inl, Sum.elim_inr, li0, li1, li2, li3, li4, li5, li6, li7, li8, li9, li10, li12, li16, li20, li24, li25, li31, li32, li40, li41, li42, li48, li57, li59, li97, li104, li105, li124, li126, li240, li241, nI_add, nI_subc, nI_subm, nI_mulc, nI_nm, pu_r, pu_t, pu_a, pu_le_t, pu_le_f, pu_lt_t, pu_lt_f, pu_eq_t, pu_eq_f, nm_eq, nm_eq2, nm_lt, nm_lt2, nm_le, nm_le2, nm_ss, nm_sp, pu_ss, pu_snq, pu_neq, eq_self, and_true, true_and, and_false, false_and, or_true, true_or, or_false, false_or, not_true_eq_false, not_false_eq_true, e, hid, show bI (Option.isNone (none : Option (Nat × Nat))) = nI 1 from rfl]
    | true =>
      rw [hd, bI_t] at hid
      refine ⟨some (1, p + P), me_s (me_s Mx 52 3 (nI 1)) 52 4 (Mx.1 52 2), ?_, ((hf.up (fun b k h => by omega)).st (by omega)).st (by omega), Or.inr ⟨hok, Or.inl ⟨hd, rfl⟩⟩, cQ_fail h2x (by omega) (by omega) hpx, fun z => by cases z⟩
      simp (disch := omega) only [Option.bind_some, if_true, if_false, Sum.elim_inl, Sum.elim_inr, li0, li1, li2, li3, li4, li5, li6, li7, li8, li9, li10, li12, li16, li20, li24, li25, li31, li32, li40, li41, li42, li48, li57, li59, li97, li104, li105, li124, li126, li240, li241, nI_add, nI_subc, nI_subm, nI_mulc, nI_nm, pu_r, pu_t, pu_a, pu_le_t, pu_le_f, pu_lt_t, pu_lt_f, pu_eq_t, pu_eq_f, nm_eq, nm_eq2, nm_lt, nm_lt2, nm_le, nm_le2, nm_ss, nm_sp, pu_ss, pu_snq, pu_neq, eq_self, and_true, true_and, and_false, false_and, or_true, true_or, or_false, false_or, not_true_eq_false, not_false_eq_true, e, hid, c_fail, show bI (Option.isNone (some (1, p + P))) = nI 0 from rfl]
  · obtain ⟨⟨kd, pl⟩, rfl⟩ : ∃ w, o = some w := by
      cases o with
      | none => exact absurd rfl ho
      | some w => exact ⟨w, rfl⟩
    refine ⟨some (kd, pl), Mx, ?_, hf, hrow, hq, fun z => by cases z⟩
    simp (disch := omega) only [Option.bind_some, if_true, if_false, Sum.elim_inl, Sum.elim_inr, li0, li1, li2, li3, li4, li5, li6, li7, li8, li9, li10, li12, li16, li20, li24, li25, li31, li32, li40, li41, li42, li48, li57, li59, li97, li104, li105, li124, li126, li240, li241, nI_add, nI_subc, nI_subm, nI_mulc, nI_nm, pu_r, pu_t, pu_a, pu_le_t, pu_le_f, pu_lt_t, pu_lt_f, pu_eq_t, pu_eq_f, nm_eq, nm_eq2, nm_lt, nm_lt2, nm_le, nm_le2, nm_ss, nm_sp, pu_ss, pu_snq, pu_neq, eq_self, and_true, true_and, and_false, false_and, or_true, true_or, or_false, false_or, not_true_eq_false, not_false_eq_true, e, show bI (Option.isNone (some (kd, pl))) = nI 0 from rfl]
