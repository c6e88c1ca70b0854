/-! ===== call: scheme; one search, behind its order ===== -/
def gRest (ob od le mo sh : Nat) (M1 : me_M) : Option me_M :=
  ((mX6_readGap_52 M1).bind fun (v2, M2) => (if v2 = 0 then (gX6_readSearch_J76 ob od le mo sh M2) else ((gX6_readLeast ob od le mo sh M2).bind fun (v3, M3) => (if v3 = 0 then (gX6_readSearch_J76 ob od le mo sh M3) else ((mX6_readGap_52 M3).bind fun (v4, M4) => (if v4 = 0 then (gX6_readSearch_J76 ob od le mo sh M4) else ((gX6_readMost ob od le mo sh M4).bind fun (v5, M5) => (if v5 = 0 then (gX6_readSearch_J76 ob od le mo sh M5) else ((mX6_readSemicolon_52 M5).bind fun (v6, M6) => (if v6 = 0 then (gX6_readSearch_J76 ob od le mo sh M6) else (gX6_readSearch_J77 ob od le mo sh 1 M6)))))))))))
def rE (o : Option (Nat × Nat)) (p : Nat) (M : me_M) : Prop := match o with
  | none => M.1 63 26 = nI 0 ∧ M.1 63 27 = -nI 1 ∧ M.1 63 25 = nI p
  | some (kd, pl) => M.1 63 26 = nI kd ∧ M.1 63 27 = nI pl ∧ 1 ≤ kd ∧ kd ≤ 3 ∧ ∃ q, q ≤ 301 ∧ M.1 63 25 = nI q
theorem r_29 {a1 : Nat} {M Ma Mb Mz : me_M} (s1 : mX12_readsSearch_63_L31 a1 (nI 1, M) = some (.inl (nI 2, Ma))) (s2 : mX12_readsSearch_63_L31 a1 (nI 2, Ma) = some (.inl (nI 3, Mb))) (s3 : ((mX12_blanks_63 Mb).bind fun M11 => ((mX12_here_63 M11).bind fun v9 => (if v9 = 59 then (mX12_readsSearch_63_J99 M11) else ((mX12_wrong_63 M11 1 (M11.1 63 25)).bind fun M12 => (mX12_readsSearch_63_J99 M12))))) = some Mz) : mX12_readsSearch_63_J29 a1 M = some Mz := by
  have hx : mX12_readsSearch_63_L31 a1 (nI 3, Mb) = some (.inr Mb) := by
    simp only [mX12_readsSearch_63_L31]
    simp (disch := omega) only [Option.bind_some, if_true, if_false, Sum.elim_inl, Sum.elim_inr, li0, li1, li2, li3, li4, li5, li6, li7, li8, li9, li10, li12, li16, li20, li24, li25, li31, li32, li40, li41, li42, li48, li57, li59, li97, li104, li105, li124, li126, li240, li241, nI_add, nI_subc, nI_subm, nI_mulc, nI_nm, pu_r, pu_t, pu_a, pu_le_t, pu_le_f, pu_lt_t, pu_lt_f, pu_eq_t, pu_eq_f, nm_eq, nm_eq2, nm_lt, nm_lt2, nm_le, nm_le2, nm_ss, nm_sp, pu_ss, pu_snq, pu_neq, eq_self, and_true, true_and, and_false, false_and, or_true, true_or, or_false, false_or, not_true_eq_false, not_false_eq_true]
  have e : me_l (mX12_readsSearch_63_L31 a1) me_fu (1, M) = some Mb := by
    rw [li1]
    show me_l _ (4997 + 1 + 1 + 1) _ = _
    rw [lp_in s1, lp_in s2, lp_ou hx]
  unfold mX12_readsSearch_63_J29
  rw [e, Option.bind_some]
  exact s3
theorem j76 {ob od le mo sh : Nat} {M : me_M} : gX6_readSearch_J76 ob od le mo sh M = some M := by
  unfold gX6_readSearch_J76 gX6_readSearch_J77
  rw [if_pos rfl]
theorem rest9 {ob od le mo sh c P p so : Nat} {F : Nat → Nat} {M M' : me_M} (hob : ob9 ob od le mo) (hc : c < 8) (hP1 : 1 ≤ P) (hP5 : P ≤ 5) (ht : cT F so M) (hq : cQ none p M) (ht' : rT F so M') (hq' : rQ none p M') (hp : p ≤ so) (h4 : M.1 ob 4 = nI c) (h5 : M.1 ob 5 = nI P) (h78 : M'.1 78 1 = nI P) : ∃ o p' d1 d2 M1 M1', gRest ob od le mo sh M = some M1 ∧ mX12_readsSearch_63_J29 (101 + c) M' = some M1' ∧ fr (fun b k => (b = 52 ∧ 2 ≤ k ∧ k ≤ 4) ∨ (b = le ∧ c * 5 ≤ k) ∨ (b = mo ∧ c * 5 ≤ k) ∨ (b = ob ∧ k = 4)) M M1 ∧ fr (fun b k => (b = 63 ∧ 25 ≤ k ∧ k ≤ 27) ∨ b = 133 + 3 * c + 1 ∨ b = 133 + 3 * c + 2) M' M1' ∧ cQ o p' M1 ∧ rE o p' M1' ∧ (o = none → p < p' ∧ p' ≤ so ∧ M1.1 ob 4 = nI (c + 1) ∧ ∀ k, k < P → lo9 d1 (fun _ => 0) k ∧ lo9 d2 d1 k ∧ M1.1 le (c * 5 + k) = nI (d1 k) ∧ M1.1 mo (c * 5 + k) = nI (d2 k) ∧ M1'.1 (133 + 3 * c + 1) k = nI (d1 k) ∧ M1'.1 (133 + 3 * c + 2) k = nI (d2 k)) ∧ (o ≠ none → M1.1 ob 4 = nI c) := by
  have hob2 := hob
  unfold ob9 at hob2
  have hso := ht.1
  have hqp := hq
  by_cases h1 : bz9 F so p = 32
  · obtain ⟨p2, hs2⟩ := sk_ex F so (so - p) p rfl
    have hp2 := hs2.2.1
    have hp2' := hs2.1
    have hne2 : p2 ≠ p := fun z => hs2.2.2.2 (by rw [z]; exact h1)
    obtain ⟨M2, e2, f2, g2⟩ := c_gap1 ht hq (by omega) h1 hs2
    have ht2 : cT F so M2 := ht.fr f2 (by omega) (fun k => by omega)
    obtain ⟨o2, M3, e3, f3, w3, g3, k3⟩ := c_least (sh := sh) hob hc hP1 hP5 ht2 g2 (by omega) (by rw [f2.2 _ _ (by omega)]; exact h4) (by rw [f2.2 _ _ (by omega)]; exact h5)
    obtain ⟨N2, n2, m2, x2, y2⟩ := r_turn1 (w := 1) (L := fun _ => 0) (by omega) hc hP1 hP5 ht' hq' hp h1 hs2 h78 (fun z => by omega) (o := o2) (by unfold okw; exact w3)
    have htN2 : rT F so N2 := ht'.fr m2 (by omega) (fun k => by omega)
    have f03 : fr (fun b k => (b = 52 ∧ 2 ≤ k ∧ k ≤ 4) ∨ (b = le ∧ c * 5 ≤ k)) M M3 := (f2.up (fun b k h => by omega)).tr f3
    have ht3 : cT F so M3 := ht.fr f03 (by omega) (fun k => by omega)
    cases o2 with
    | some v =>
      obtain ⟨kd, pl⟩ := v
      obtain ⟨N3, n3, m3, x3⟩ := r_turnF (a1 := 101 + c) (w := 2) htN2 x2 (by omega)
      obtain ⟨N4, n4, m4, x4, x5, x6⟩ := r_tailF (htN2.fr m3 (by omega) (fun k => by omega)) x3
      refine ⟨some (kd, pl), 0, fun _ => 0, fun _ => 0, M3, N4, ?_, r_29 n2 n3 n4, f03.up (fun b k h => by omega), (m2.up (fun b k h => by omega)).tr ((m3.up (fun b k h => by omega)).tr (m4.up (fun b k h => by omega))), g3, ⟨x4, x5, x2.2.2.1, x2.2.2.2.1, x6⟩, fun z => (by cases z), fun _ => by rw [f03.2 _ _ (by omega)]; exact h4⟩
      unfold gRest
      simp (disch := omega) only [Option.bind_some, if_true, if_false, Sum.elim_inl, Sum.elim_inr, li0, li1, li2, li3, li4, li5, li6, li7, li8, li9, li10, li12, li16, li20, li24, li25, li31, li32, li40, li41, li42, li48, li57, li59, li97, li104, li105, li124, li126, li240, li241, nI_add, nI_subc, nI_subm, nI_mulc, nI_nm, pu_r, pu_t, pu_a, pu_le_t, pu_le_f, pu_lt_t, pu_lt_f, pu_eq_t, pu_eq_f, nm_eq, nm_eq2, nm_lt, nm_lt2, nm_le, nm_le2, nm_ss, nm_sp, pu_ss, pu_snq, pu_neq, eq_self, and_true, true_and, and_false, false_and, or_true, true_or, or_false, false_or, not_true_eq_false, not_false_eq_true, e2, e3, j76, show bI (Option.isNone (some (kd, pl))) = nI 0 from rfl]
    | none =>
      have k3 := k3 rfl
      have y2 := y2 rfl
      have hok3 : ∀ j, j < P → dg9 F so (p2 + j) = true ∧ lo9 (dd9 F so p2) (fun _ => 0) j := by
        rcases w3 with ⟨k, -, -, ⟨-, z⟩ | ⟨-, -, z⟩⟩ | ⟨z, -⟩
        · cases z
        · cases z
        · exact z
      have hp3 : p2 + P ≤ so := by have := (dg9_lt (hok3 (P - 1) (by omega)).1).1; omega
      by_cases h2 : bz9 F so (p2 + P) = 32
      · obtain ⟨p4, hs4⟩ := sk_ex F so (so - (p2 + P)) (p2 + P) rfl
        have hp4 := hs4.2.1
        have hp4' := hs4.1
        obtain ⟨M4, e4, f4, g4⟩ := c_gap1 ht3 g3 (by omega) h2 hs4
        have ht4 : cT F so M4 := ht3.fr f4 (by omega) (fun k => by omega)
        have f04 : fr (fun b k => (b = 52 ∧ 2 ≤ k ∧ k ≤ 4) ∨ (b = le ∧ c * 5 ≤ k)) M M4 := f03.tr (f4.up (fun b k h => by omega))
        obtain ⟨o3, M5, e5, f5, w5, g5, k5⟩ := c_most (sh := sh) (L := dd9 F so p2) hob hc hP1 hP5 ht4 g4 (by omega) (by rw [f04.2 _ _ (by omega)]; exact h4) (by rw [f04.2 _ _ (by omega)]; exact h5) (fun k hk => ⟨by rw [f4.2 _ _ (by omega)]; exact k3 k hk, (hok3 k hk).2.1⟩)
        obtain ⟨N3, n3, m3, x3, y3⟩ := r_turn1 (w := 2) (L := dd9 F so p2) (by omega) hc hP1 hP5 htN2 x2 hp3 h2 hs4 (by rw [m2.2 _ _ (by omega)]; exact h78) (fun _ k hk => ⟨y2 k hk, (hok3 k hk).2.1⟩) (o := o3) (by unfold okw; exact w5)
        have htN3 : rT F so N3 := htN2.fr m3 (by omega) (fun k => by omega)
        have f05 : fr (fun b k => (b = 52 ∧ 2 ≤ k ∧ k ≤ 4) ∨ (b = le ∧ c * 5 ≤ k) ∨ (b = mo ∧ c * 5 ≤ k)) M M5 := (f04.up (fun b k h => by omega)).tr (f5.up (fun b k h => by omega))
        have ht5 : cT F so M5 := ht.fr f05 (by omega) (fun k => by omega)
        have m03 : fr (fun b k => (b = 63 ∧ 25 ≤ k ∧ k ≤ 27) ∨ b = 133 + 3 * c + 1 ∨ b = 133 + 3 * c + 2) M' N3 := (m2.up (fun b k h => by omega)).tr (m3.up (fun b k h => by omega))
        cases o3 with
        | some v =>
          obtain ⟨kd, pl⟩ := v
          obtain ⟨N4, n4, m4, x4, x5, x6⟩ := r_tailF htN3 x3
          refine ⟨some (kd, pl), 0, fun _ => 0, fun _ => 0, M5, N4, ?_, r_29 n2 n3 n4, f05.up (fun b k h => by omega), m03.tr (m4.up (fun b k h => by omega)), g5, ⟨x4, x5, x3.2.2.1, x3.2.2.2.1, x6⟩, fun z => (by cases z), fun _ => by rw [f05.2 _ _ (by omega)]; exact h4⟩
          unfold gRest
          simp (disch := omega) only [Option.bind_some, if_true, if_false, Sum.elim_inl, Sum.elim_inr, li0, li1, li2, li3, li4, li5, li6, li7, li8, li9, li10, li12, li16, li20, li24, li25, li31, li32, li40, li41, li42, li48, li57, li59, li97, li104, li105, li124, li126, li240, li241, nI_add, nI_subc, nI_subm, nI_mulc, nI_nm, pu_r, pu_t, pu_a, pu_le_t, pu_le_f, pu_lt_t, pu_lt_f, pu_eq_t, pu_eq_f, nm_eq, nm_eq2, nm_lt, nm_lt2, nm_le, nm_le2, nm_ss, nm_sp, pu_ss, pu_snq, pu_neq, eq_self, and_true, true_and, and_false, false_and, or_true, true_or, or_false, false_or, not_true_eq_false, not_false_eq_true, e2, e3, e4, e5, j76, show bI (Option.isNone (some (kd, pl))) = nI 0 from rfl, show bI (Option.isNone (none : Option (Nat × Nat))) = nI 1 from rfl]
        | none =>
          have k5 := k5 rfl
          have y3 := y3 rfl
          have hok5 : ∀ j, j < P → dg9 F so (p4 + j) = true ∧ lo9 (dd9 F so p4) (dd9 F so p2) j := by
            rcases w5 with ⟨k, -, -, ⟨-, z⟩ | ⟨-, -, z⟩⟩ | ⟨z, -⟩
            · cases z
            · cases z
            · exact z
          clear w5
          have hp5 : p4 + P ≤ so := by have := (dg9_lt (hok5 (P - 1) (by omega)).1).1; omega
          obtain ⟨p6, hs6⟩ := sk_ex F so (so - (p4 + P)) (p4 + P) rfl
          have hp6 := hs6.2.1
          have hp6' := hs6.1
          obtain ⟨N4, n4, m4, x4, x5⟩ := r_tail htN3 x3 (by omega) hs6
          by_cases h3 : bz9 F so p6 = 59
          · replace x4 := x4 h3
            clear x5
            obtain ⟨M6, e6, f6, g6⟩ := c_semi1 ht5 g5 (by omega) hs6 h3
            have hlt : p6 < so := by
              by_cases z : p6 < so
              · exact z
              · rw [bz9_ge (by omega)] at h3; omega
            have f56 : fr (fun b k => (b = 52 ∧ k = 2) ∨ (b = ob ∧ k = 4)) M5 (me_s M6 ob 4 (nI (c + 1))) := (f6.up (fun b k h => by omega)).st (by omega)
            refine ⟨none, p6 + 1, dd9 F so p2, dd9 F so p4, me_s M6 ob 4 (nI (c + 1)), N4, ?_, r_29 n2 n3 n4, (f05.up (fun b k h => by omega)).tr (f56.up (fun b k h => by omega)), m03.tr (m4.up (fun b k h => by omega)), ?_, x4, fun _ => ⟨by omega, by omega, pu_ss, fun k hk => ⟨(hok3 k hk).2, (hok5 k hk).2, ?_, ?_, ?_, ?_⟩⟩, fun z => absurd rfl z⟩
            · have h46 : M6.1 ob 4 = nI c := by rw [f6.2 _ _ (by omega), f05.2 _ _ (by omega)]; exact h4
              unfold gRest gX6_readSearch_J77
              simp (disch := omega) only [Option.bind_some, if_true, if_false, Sum.elim_inl, Sum.elim_inr, li0, li1, li2, li3, li4, li5, li6, li7, li8, li9, li10, li12, li16, li20, li24, li25, li31, li32, li40, li41, li42, li48, li57, li59, li97, li104, li105, li124, li126, li240, li241, nI_add, nI_subc, nI_subm, nI_mulc, nI_nm, pu_r, pu_t, pu_a, pu_le_t, pu_le_f, pu_lt_t, pu_lt_f, pu_eq_t, pu_eq_f, nm_eq, nm_eq2, nm_lt, nm_lt2, nm_le, nm_le2, nm_ss, nm_sp, pu_ss, pu_snq, pu_neq, eq_self, and_true, true_and, and_false, false_and, or_true, true_or, or_false, false_or, not_true_eq_false, not_false_eq_true, e2, e3, e4, e5, e6, h46, show bI (Option.isNone (none : Option (Nat × Nat))) = nI 1 from rfl]
            · obtain ⟨z1, z2, z3⟩ := g6
              exact ⟨by rw [me_s_ne (by omega)]; exact z1, by rw [me_s_ne (by omega)]; exact z2, by rw [me_s_ne (by omega)]; exact z3⟩
            · rw [f56.2 _ _ (by omega), f5.2 _ _ (by omega), f4.2 _ _ (by omega)]; exact k3 k hk
            · rw [f56.2 _ _ (by omega)]; exact k5 k hk
            · rw [m4.2 _ _ (by omega), m3.2 _ _ (by omega)]; exact y2 k hk
            · rw [m4.2 _ _ (by omega)]; exact y3 k hk
          · obtain ⟨M6, e6, f6, g6⟩ := c_semi0 ht5 g5 (by omega) hs6 h3
            obtain ⟨z1, z2, z3⟩ := x5 h3
            refine ⟨some (1, p6), 0, fun _ => 0, fun _ => 0, M6, N4, ?_, r_29 n2 n3 n4, (f05.up (fun b k h => by omega)).tr (f6.up (fun b k h => by omega)), m03.tr (m4.up (fun b k h => by omega)), g6, ⟨z1, z2, by omega, by omega, z3⟩, fun z => (by cases z), fun _ => by rw [f6.2 _ _ (by omega), f05.2 _ _ (by omega)]; exact h4⟩
            unfold gRest
            simp (disch := omega) only [Option.bind_some, if_true, if_false, Sum.elim_inl, Sum.elim_inr, li0, li1, li2, li3, li4, li5, li6, li7, li8, li9, li10, li12, li16, li20, li24, li25, li31, li32, li40, li41, li42, li48, li57, li59, li97, li104, li105, li124, li126, li240, li241, nI_add, nI_subc, nI_subm, nI_mulc, nI_nm, pu_r, pu_t, pu_a, pu_le_t, pu_le_f, pu_lt_t, pu_lt_f, pu_eq_t, pu_eq_f, nm_eq, nm_eq2, nm_lt, nm_lt2, nm_le, nm_le2, nm_ss, nm_sp, pu_ss, pu_snq, pu_neq, eq_self, and_true, true_and, and_false, false_and, or_true, true_or, or_false, false_or, not_true_eq_false, not_false_eq_true, e2, e3, e4, e5, e6, j76, show bI (Option.isNone (none : Option (Nat × Nat))) = nI 1 from rfl]
      · obtain ⟨M4, e4, f4, g4⟩ := c_gap0 ht3 g3 (by omega) h2
        obtain ⟨N3, n3, m3, x3⟩ := r_turn0 (a1 := 101 + c) (w := 2) htN2 x2 (by omega) (by omega) h2
        obtain ⟨N4, n4, m4, x4, x5, x6⟩ := r_tailF (htN2.fr m3 (by omega) (fun k => by omega)) x3
        refine ⟨some (1, p2 + P), 0, fun _ => 0, fun _ => 0, M4, N4, ?_, r_29 n2 n3 n4, (f03.up (fun b k h => by omega)).tr (f4.up (fun b k h => by omega)), (m2.up (fun b k h => by omega)).tr ((m3.up (fun b k h => by omega)).tr (m4.up (fun b k h => by omega))), g4, ⟨x4, x5, by omega, by omega, x6⟩, fun z => (by cases z), fun _ => by rw [f4.2 _ _ (by omega), f03.2 _ _ (by omega)]; exact h4⟩
        unfold gRest
        simp (disch := omega) only [Option.bind_some, if_true, if_false, Sum.elim_inl, Sum.elim_inr, li0, li1, li2, li3, li4, li5, li6, li7, li8, li9, li10, li12, li16, li20, li24, li25, li31, li32, li40, li41, li42, li48, li57, li59, li97, li104, li105, li124, li126, li240, li241, nI_add, nI_subc, nI_subm, nI_mulc, nI_nm, pu_r, pu_t, pu_a, pu_le_t, pu_le_f, pu_lt_t, pu_lt_f, pu_eq_t, pu_eq_f, nm_eq, nm_eq2, nm_lt, nm_lt2, nm_le, nm_le2, nm_ss, nm_sp, pu_ss, pu_snq, pu_neq, eq_self, and_true, true_and, and_false, false_and, or_true, true_or, or_false, false_or, not_true_eq_false, not_false_eq_true, e2, e3, e4, j76, show bI (Option.isNone (none : Option (Nat × Nat))) = nI 1 from rfl]
  · obtain ⟨M2, e2, f2, g2⟩ := c_gap0 ht hq (by omega) h1
    obtain ⟨N2, n2, m2, x2⟩ := r_turn0 (a1 := 101 + c) (w := 1) ht' hq' (by omega) (by omega) h1
    have htN2 : rT F so N2 := ht'.fr m2 (by omega) (fun k => by omega)
    obtain ⟨N3, n3, m3, x3⟩ := r_turnF (a1 := 101 + c) (w := 2) htN2 x2 (by omega)
    obtain ⟨N4, n4, m4, x4, x5, x6⟩ := r_tailF (htN2.fr m3 (by omega) (fun k => by omega)) x3
    refine ⟨some (1, p), 0, fun _ => 0, fun _ => 0, M2, N4, ?_, r_29 n2 n3 n4, f2.up (fun b k h => by omega), (m2.up (fun b k h => by omega)).tr ((m3.up (fun b k h => by omega)).tr (m4.up (fun b k h => by omega))), g2, ⟨x4, x5, by omega, by omega, x6⟩, fun z => (by cases z), fun _ => by rw [f2.2 _ _ (by omega)]; exact h4⟩
    unfold gRest
    simp (disch := omega) only [Option.bind_some, if_true, if_false, Sum.elim_inl, Sum.elim_inr, li0, li1, li2, li3, li4, li5, li6, li7, li8, li9, li10, li12, li16, li20, li24, li25, li31, li32, li40, li41, li42, li48, li57, li59, li97, li104, li105, li124, li126, li240, li241, nI_add, nI_subc, nI_subm, nI_mulc, nI_nm, pu_r, pu_t, pu_a, pu_le_t, pu_le_f, pu_lt_t, pu_lt_f, pu_eq_t, pu_eq_f, nm_eq, nm_eq2, nm_lt, nm_lt2, nm_le, nm_le2, nm_ss, nm_sp, pu_ss, pu_snq, pu_neq, eq_self, and_true, true_and, and_false, false_and, or_true, true_or, or_false, false_or, not_true_eq_false, not_false_eq_true, e2, j76]
