/-! ===== call: scheme; the class reads the order ===== -/
def ob9 (ob od le mo : Nat) : Prop := (ob = 53 ∧ od = 54 ∧ le = 55 ∧ mo = 56) ∨ (ob = 58 ∧ od = 59 ∧ le = 60 ∧ mo = 61)
theorem c_fail {M : me_M} {a : Int32} : mX6_fail_52 M a = some (nI 0, me_s (me_s M 52 3 a) 52 4 (M.1 52 2)) := by
  unfold mX6_fail_52; rw [li0, pu_sn (by decide)]
theorem cQ_fail {M : me_M} {kd pl : Nat} (h2 : M.1 52 2 = nI pl) (h1 : 1 ≤ kd) (h3 : kd ≤ 3) (h4 : pl ≤ 240) : cQ (some (kd, pl)) 0 (me_s (me_s M 52 3 (nI kd)) 52 4 (M.1 52 2)) := by
  show _ ∧ _ ∧ _ ∧ _ ∧ _ ∧ _
  refine ⟨?_, ?_, ?_, h1, h3, h4⟩
  · simp (disch := omega) only [Option.bind_some, if_true, if_false, Sum.elim_inl, Sum.elim_inr, li0, li1, li2, li3, li4, li5, li6, li7, li8, li9, li10, li12, li16, li20, li24, li25, li31, li32, li40, li41, li42, li48, li57, li59, li97, li104, li105, li124, li126, li240, li241, nI_add, nI_subc, nI_subm, nI_mulc, nI_nm, pu_r, pu_t, pu_a, pu_le_t, pu_le_f, pu_lt_t, pu_lt_f, pu_eq_t, pu_eq_f, nm_eq, nm_eq2, nm_lt, nm_lt2, nm_le, nm_le2, nm_ss, nm_sp, pu_ss, pu_snq, pu_neq, eq_self, and_true, true_and, and_false, false_and, or_true, true_or, or_false, false_or, not_true_eq_false, not_false_eq_true]
  · rw [h2]; simp (disch := omega) only [Option.bind_some, if_true, if_false, Sum.elim_inl, Sum.elim_inr, li0, li1, li2, li3, li4, li5, li6, li7, li8, li9, li10, li12, li16, li20, li24, li25, li31, li32, li40, li41, li42, li48, li57, li59, li97, li104, li105, li124, li126, li240, li241, nI_add, nI_subc, nI_subm, nI_mulc, nI_nm, pu_r, pu_t, pu_a, pu_le_t, pu_le_f, pu_lt_t, pu_lt_f, pu_eq_t, pu_eq_f, nm_eq, nm_eq2, nm_lt, nm_lt2, nm_le, nm_le2, nm_ss, nm_sp, pu_ss, pu_snq, pu_neq, eq_self, and_true, true_and, and_false, false_and, or_true, true_or, or_false, false_or, not_true_eq_false, not_false_eq_true]
  · rw [pu_sn (by decide), pu_sn (by decide)]; exact h2
theorem c_order {ob od le mo sh c P p so : Nat} {F : Nat → Nat} {M : me_M} (hob : ob9 ob od le mo) (hc : c < 8) (hP1 : 1 ≤ P) (hP5 : P ≤ 5) (ht : cT F so M) (hq : cQ none p M) (hp : p ≤ so) (h4 : M.1 ob 4 = nI c) (h5 : M.1 ob 5 = nI P) : ∃ o M1, gX6_readOrder_J19 ob od le mo sh M = some (bI o.isNone, M1) ∧ fr (fun b k => (b = 52 ∧ 2 ≤ k ∧ k ≤ 4) ∨ (b = od ∧ c * 5 ≤ k)) M M1 ∧ rowR (nx9 (dd9 F so p) P) (if c = 0 then 3 else 1) F so p P o ∧ cQ o (p + P) M1 ∧ (o = none → ∀ k, k < P → M1.1 od (c * 5 + k) = nI (dd9 F so p k)) := by
  unfold ob9 at hob
  have hs := ht.1
  obtain ⟨q3, q4, q2⟩ := hq
  obtain ⟨r, e, hr⟩ := lp_up (b := gX6_readOrder_L36 ob od le mo sh) (fun x st => ∃ Mx, st = (nI (bt (us9 (dd9 F so p) x) 8), nI x, Mx) ∧ fr (fun b k => (b = 52 ∧ k = 2) ∨ (b = od ∧ c * 5 ≤ k)) M Mx ∧ Mx.1 52 2 = nI (p + x) ∧ (∀ j, j < x → dg9 F so (p + j) = true ∧ nx9 (dd9 F so p) P j) ∧ ∀ j, j < x → Mx.1 od (c * 5 + j) = nI (dd9 F so p j)) (fun r => (∃ Mx, r = .inl Mx ∧ fr (fun b k => (b = 52 ∧ k = 2) ∨ (b = od ∧ c * 5 ≤ k)) M Mx ∧ Mx.1 52 2 = nI (p + P) ∧ (∀ j, j < P → dg9 F so (p + j) = true ∧ nx9 (dd9 F so p) P j) ∧ ∀ j, j < P → Mx.1 od (c * 5 + j) = nI (dd9 F so p j)) ∨ (∃ Mx o, r = .inr (nI 0, Mx) ∧ o ≠ none ∧ fr (fun b k => (b = 52 ∧ 2 ≤ k ∧ k ≤ 4) ∨ (b = od ∧ c * 5 ≤ k)) M Mx ∧ rowR (nx9 (dd9 F so p) P) (if c = 0 then 3 else 1) F so p P o ∧ cQ o (p + P) Mx)) (a := 0) (N := P) (by omega) (by omega) (fun x st _ hx hst => by
    obtain ⟨Mx, rfl, hf, h2x, hok, hdg⟩ := hst
    have htx := ht.fr hf (by omega) (fun k => by omega)
    have h4x : Mx.1 ob 4 = nI c := by rw [hf.2 _ _ (by omega)]; exact h4
    have h5x : Mx.1 ob 5 = nI P := by rw [hf.2 _ _ (by omega)]; exact h5
    have hpx : p + x ≤ 240 := by
      by_cases z : x = 0
      · omega
      · have := (dg9_lt (hok (x - 1) (by omega)).1).1; omega
    have hid := c_isDigit htx (p := p + x) (by omega) h2x
    have hfail : ∀ kd, 1 ≤ kd → kd ≤ 3 → fr (fun b k => (b = 52 ∧ 2 ≤ k ∧ k ≤ 4) ∨ (b = od ∧ c * 5 ≤ k)) M (me_s (me_s Mx 52 3 (nI kd)) 52 4 (Mx.1 52 2)) := fun kd _ _ => ((hf.up (fun b k h => by omega)).st (by omega)).st (by omega)
    cases hd : dg9 F so (p + x) with
    | false =>
      right
      rw [hd, bI_f] at hid
      refine ⟨_, ?_, Or.inr ⟨_, some (1, p + x), rfl, by simp, hfail 1 (by omega) (by omega), Or.inl ⟨x, hx, hok, Or.inl ⟨hd, rfl⟩⟩, cQ_fail h2x (by omega) (by omega) hpx⟩⟩
      simp only [gX6_readOrder_L36]
      simp (disch := omega) only [Option.bind_some, if_true, if_false, Sum.elim_inl, Sum.elim_inr, li0, li1, li2, li3, li4, li5, li6, li7, li8, li9, li10, li12, li16, li20, li24, li25, li31, li32, li40, li41, li42, li48, li57, li59, li97, li104, li105, li124, li126, li240, li241, nI_add, nI_subc, nI_subm, nI_mulc, nI_nm, pu_r, pu_t, pu_a, pu_le_t, pu_le_f, pu_lt_t, pu_lt_f, pu_eq_t, pu_eq_f, nm_eq, nm_eq2, nm_lt, nm_lt2, nm_le, nm_le2, nm_ss, nm_sp, pu_ss, pu_snq, pu_neq, eq_self, and_true, true_and, and_false, false_and, or_true, true_or, or_false, false_or, not_true_eq_false, not_false_eq_true, h5x, hid, c_fail]
    | true =>
      rw [hd, bI_t] at hid
      have hdh := c_digitHere htx h2x hd
      obtain ⟨b, hb1, hb2⟩ := c_canFollow (d := dd9 F so p) (x := x) hP5 (dd9_lt hd) (fun j hj => (hok j hj).2)
      cases b with
      | false =>
        right
        rw [bI_f] at hb1
        refine ⟨_, ?_, Or.inr ⟨_, some (2, p + x), rfl, by simp, hfail 2 (by omega) (by omega), Or.inl ⟨x, hx, hok, Or.inr ⟨hd, fun z => (by have := hb2.mpr z; cases this), rfl⟩⟩, cQ_fail h2x (by omega) (by omega) hpx⟩⟩
        simp only [gX6_readOrder_L36]
        rw [show bz9 F so (p + x) - 48 = dd9 F so p x from rfl] at hdh
        simp (disch := omega) only [Option.bind_some, if_true, if_false, Sum.elim_inl, Sum.elim_inr, li0, li1, li2, li3, li4, li5, li6, li7, li8, li9, li10, li12, li16, li20, li24, li25, li31, li32, li40, li41, li42, li48, li57, li59, li97, li104, li105, li124, li126, li240, li241, nI_add, nI_subc, nI_subm, nI_mulc, nI_nm, pu_r, pu_t, pu_a, pu_le_t, pu_le_f, pu_lt_t, pu_lt_f, pu_eq_t, pu_eq_f, nm_eq, nm_eq2, nm_lt, nm_lt2, nm_le, nm_le2, nm_ss, nm_sp, pu_ss, pu_snq, pu_neq, eq_self, and_true, true_and, and_false, false_and, or_true, true_or, or_false, false_or, not_true_eq_false, not_false_eq_true, h5x, hid, hdh, hb1, c_fail]
      | true =>
        left
        rw [bI_t] at hb1
        have hnx := hb2.mp rfl
        have h8 : dd9 F so p x < 8 := by have := hnx.1; omega
        have hor : nI (bt (us9 (dd9 F so p) x) 8) ||| (nI 1 <<< (nI (dd9 F so p x) &&& nI 31)) = nI (bt (us9 (dd9 F so p) (x + 1)) 8) := bt_or (us9 (dd9 F so p) x) h8
        refine ⟨(nI (bt (us9 (dd9 F so p) (x + 1)) 8), nI (x + 1), me_s (me_s Mx od (c * 5 + x) (nI (dd9 F so p x))) 52 2 (nI (p + (x + 1)))), ?_, _, rfl, (hf.st (by omega)).st (by omega), pu_ss, all_s.mpr ⟨hok, hd, hnx⟩, fun j hj => ?_⟩
        · simp only [gX6_readOrder_L36]
          rw [show bz9 F so (p + x) - 48 = dd9 F so p x from rfl] at hdh
          simp (disch := omega) only [Option.bind_some, if_true, if_false, Sum.elim_inl, Sum.elim_inr, li0, li1, li2, li3, li4, li5, li6, li7, li8, li9, li10, li12, li16, li20, li24, li25, li31, li32, li40, li41, li42, li48, li57, li59, li97, li104, li105, li124, li126, li240, li241, nI_add, nI_subc, nI_subm, nI_mulc, nI_nm, pu_r, pu_t, pu_a, pu_le_t, pu_le_f, pu_lt_t, pu_lt_f, pu_eq_t, pu_eq_f, nm_eq, nm_eq2, nm_lt, nm_lt2, nm_le, nm_le2, nm_ss, nm_sp, pu_ss, pu_snq, pu_neq, eq_self, and_true, true_and, and_false, false_and, or_true, true_or, or_false, false_or, not_true_eq_false, not_false_eq_true, h5x, h4x, hid, hdh, hb1, h2x, hor, show p + x + 1 = p + (x + 1) by omega]
        · rw [me_s_ne (by omega)]
          by_cases z : j = x
          · rw [z, pu_ss]
          · rw [pu_sn (by omega)]; exact hdg j (by omega)) (fun st hst => by
    obtain ⟨Mx, rfl, hf, h2x, hok, hdg⟩ := hst
    have h5x : Mx.1 ob 5 = nI P := by rw [hf.2 _ _ (by omega)]; exact h5
    refine ⟨.inl Mx, ?_, Or.inl ⟨Mx, rfl, hf, h2x, hok, hdg⟩⟩
    simp only [gX6_readOrder_L36]
    simp (disch := omega) only [Option.bind_some, if_true, if_false, Sum.elim_inl, Sum.elim_inr, li0, li1, li2, li3, li4, li5, li6, li7, li8, li9, li10, li12, li16, li20, li24, li25, li31, li32, li40, li41, li42, li48, li57, li59, li97, li104, li105, li124, li126, li240, li241, nI_add, nI_subc, nI_subm, nI_mulc, nI_nm, pu_r, pu_t, pu_a, pu_le_t, pu_le_f, pu_lt_t, pu_lt_f, pu_eq_t, pu_eq_f, nm_eq, nm_eq2, nm_lt, nm_lt2, nm_le, nm_le2, nm_ss, nm_sp, pu_ss, pu_snq, pu_neq, eq_self, and_true, true_and, and_false, false_and, or_true, true_or, or_false, false_or, not_true_eq_false, not_false_eq_true, h5x]) (s0 := (nI 0, nI 0, M)) ⟨M, by rw [bt_no], fr.rf, q2, fun j hj => absurd hj (Nat.not_lt_zero _), fun j hj => absurd hj (Nat.not_lt_zero _)⟩
  unfold gX6_readOrder_J19
  rcases hr with ⟨Mx, rfl, hf, h2x, hok, hdg⟩ | ⟨Mx, o, rfl, ho, hf, hrow, hq⟩
  · have htx := ht.fr hf (by omega) (fun k => by omega)
    have h4x : Mx.1 ob 4 = nI c := by rw [hf.2 _ _ (by omega)]; exact h4
    have hpx : p + P ≤ 240 := by have := (dg9_lt (hok (P - 1) (by omega)).1).1; omega
    have hid := c_isDigit htx (p := p + P) (by omega) h2x
    cases hd : dg9 F so (p + P) with
    | false =>
      rw [hd, bI_f] at hid
      refine ⟨none, Mx, ?_, hf.up (fun b k h => by omega), Or.inr ⟨hok, Or.inr ⟨hd, rfl⟩⟩, ⟨by rw [hf.2 _ _ (by omega)]; exact q3, by rw [hf.2 _ _ (by omega)]; exact q4, h2x⟩, fun _ => hdg⟩
      simp (disch := omega) only [Option.bind_some, if_true, if_false, Sum.elim_inl, Sum.elim_inr, li0, li1, li2, li3, li4, li5, li6, li7, li8, li9, li10, li12, li16, li20, li24, li25, li31, li32, li40, li41, li42, li48, li57, li59, li97, li104, li105, li124, li126, li240, li241, nI_add, nI_subc, nI_subm, nI_mulc, nI_nm, pu_r, pu_t, pu_a, pu_le_t, pu_le_f, pu_lt_t, pu_lt_f, pu_eq_t, pu_eq_f, nm_eq, nm_eq2, nm_lt, nm_lt2, nm_le, nm_le2, nm_ss, nm_sp, pu_ss, pu_snq, pu_neq, eq_self, and_true, true_and, and_false, false_and, or_true, true_or, or_false, false_or, not_true_eq_false, not_false_eq_true, h5, e, hid, show bI (Option.isNone (none : Option (Nat × Nat))) = nI 1 from rfl]
    | true =>
      rw [hd, bI_t] at hid
      refine ⟨some (if c = 0 then 3 else 1, p + P), me_s (me_s Mx 52 3 (nI (if c = 0 then 3 else 1))) 52 4 (Mx.1 52 2), ?_, ((hf.up (fun b k h => by omega)).st (by omega)).st (by omega), Or.inr ⟨hok, Or.inl ⟨hd, rfl⟩⟩, cQ_fail h2x (by split <;> omega) (by split <;> omega) hpx, fun z => by cases z⟩
      by_cases z : c = 0
      · rw [if_pos z]
        simp (disch := omega) only [Option.bind_some, if_true, if_false, Sum.elim_inl, Sum.elim_inr, li0, li1, li2, li3, li4, li5, li6, li7, li8, li9, li10, li12, li16, li20, li24, li25, li31, li32, li40, li41, li42, li48, li57, li59, li97, li104, li105, li124, li126, li240, li241, nI_add, nI_subc, nI_subm, nI_mulc, nI_nm, pu_r, pu_t, pu_a, pu_le_t, pu_le_f, pu_lt_t, pu_lt_f, pu_eq_t, pu_eq_f, nm_eq, nm_eq2, nm_lt, nm_lt2, nm_le, nm_le2, nm_ss, nm_sp, pu_ss, pu_snq, pu_neq, eq_self, and_true, true_and, and_false, false_and, or_true, true_or, or_false, false_or, not_true_eq_false, not_false_eq_true, h5, e, hid, h4x, gX6_readOrder_J140, c_fail, show bI (Option.isNone (some (3, p + P))) = nI 0 from rfl]
      · rw [if_neg z]
        simp (disch := omega) only [Option.bind_some, if_true, if_false, Sum.elim_inl, Sum.elim_inr, li0, li1, li2, li3, li4, li5, li6, li7, li8, li9, li10, li12, li16, li20, li24, li25, li31, li32, li40, li41, li42, li48, li57, li59, li97, li104, li105, li124, li126, li240, li241, nI_add, nI_subc, nI_subm, nI_mulc, nI_nm, pu_r, pu_t, pu_a, pu_le_t, pu_le_f, pu_lt_t, pu_lt_f, pu_eq_t, pu_eq_f, nm_eq, nm_eq2, nm_lt, nm_lt2, nm_le, nm_le2, nm_ss, nm_sp, pu_ss, pu_snq, pu_neq, eq_self, and_true, true_and, and_false, false_and, or_true, true_or, or_false, false_or, not_true_eq_false, not_false_eq_true, h5, e, hid, h4x, gX6_readOrder_J140, c_fail, show bI (Option.isNone (some (1, p + P))) = nI 0 from rfl]
  · obtain ⟨⟨kd, pl⟩, rfl⟩ : ∃ w, o = some w := by
      cases o with
      | none => exact absurd rfl ho
      | some w => exact ⟨w, rfl⟩
    refine ⟨some (kd, pl), Mx, ?_, hf, hrow, hq, fun z => by cases z⟩
    simp (disch := omega) only [Option.bind_some, if_true, if_false, Sum.elim_inl, Sum.elim_inr, li0, li1, li2, li3, li4, li5, li6, li7, li8, li9, li10, li12, li16, li20, li24, li25, li31, li32, li40, li41, li42, li48, li57, li59, li97, li104, li105, li124, li126, li240, li241, nI_add, nI_subc, nI_subm, nI_mulc, nI_nm, pu_r, pu_t, pu_a, pu_le_t, pu_le_f, pu_lt_t, pu_lt_f, pu_eq_t, pu_eq_f, nm_eq, nm_eq2, nm_lt, nm_lt2, nm_le, nm_le2, nm_ss, nm_sp, pu_ss, pu_snq, pu_neq, eq_self, and_true, true_and, and_false, false_and, or_true, true_or, or_false, false_or, not_true_eq_false, not_false_eq_true, h5, e, show bI (Option.isNone (some (kd, pl))) = nI 0 from rfl]
