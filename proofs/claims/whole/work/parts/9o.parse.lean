/-! ===== call: scheme; all searches ===== -/
theorem c_ninth {ob od le mo sh p so kd : Nat} {F : Nat → Nat} {M : me_M} (hob : ob9 ob od le mo) (ht : cT F so M) (hq : cQ none p M) (hp : p ≤ so) (h4 : M.1 ob 4 = nI 8) (hk : kd = if dg9 F so p = true then 3 else 1) : ∃ M1, gX6_readSearch ob od le mo sh M = some M1 ∧ fr (fun b k => b = 52 ∧ 2 ≤ k ∧ k ≤ 4) M M1 ∧ cQ (some (kd, p)) p M1 := by
  unfold ob9 at hob
  have hso := ht.1
  have hid := c_isDigit ht (by omega) hq.2.2
  have hkb : 1 ≤ kd ∧ kd ≤ 3 := by rw [hk]; split <;> omega
  refine ⟨me_s (me_s M 52 3 (nI kd)) 52 4 (M.1 52 2), ?_, (fr.s (by omega)).st (by omega), cQ_fail hq.2.2 hkb.1 hkb.2 (by omega)⟩
  unfold gX6_readSearch gX6_readSearch_J22
  rw [hk]
  cases hd : dg9 F so p with
  | true => rw [hd, bI_t] at hid; rw [show (if true = true then (3 : Nat) else 1) = 3 from rfl]; simp (disch := omega) only [Option.bind_some, if_true, if_false, Sum.elim_inl, Sum.elim_inr, li0, li1, li2, li3, li4, li5, li6, li7, li8, li9, li10, li12, li16, li20, li24, li25, li31, li32, li40, li41, li42, li48, li57, li59, li97, li104, li105, li124, li126, li240, li241, nI_add, nI_subc, nI_subm, nI_mulc, nI_nm, pu_r, pu_t, pu_a, pu_le_t, pu_le_f, pu_lt_t, pu_lt_f, pu_eq_t, pu_eq_f, nm_eq, nm_eq2, nm_lt, nm_lt2, nm_le, nm_le2, nm_ss, nm_sp, pu_ss, pu_snq, pu_neq, eq_self, and_true, true_and, and_false, false_and, or_true, true_or, or_false, false_or, not_true_eq_false, not_false_eq_true, h4, hid, c_fail]
  | false => rw [hd, bI_f] at hid; rw [show (if false = true then (3 : Nat) else 1) = 1 from rfl]; simp (disch := omega) only [Option.bind_some, if_true, if_false, Sum.elim_inl, Sum.elim_inr, li0, li1, li2, li3, li4, li5, li6, li7, li8, li9, li10, li12, li16, li20, li24, li25, li31, li32, li40, li41, li42, li48, li57, li59, li97, li104, li105, li124, li126, li240, li241, nI_add, nI_subc, nI_subm, nI_mulc, nI_nm, pu_r, pu_t, pu_a, pu_le_t, pu_le_f, pu_lt_t, pu_lt_f, pu_eq_t, pu_eq_f, nm_eq, nm_eq2, nm_lt, nm_lt2, nm_le, nm_le2, nm_ss, nm_sp, pu_ss, pu_snq, pu_neq, eq_self, and_true, true_and, and_false, false_and, or_true, true_or, or_false, false_or, not_true_eq_false, not_false_eq_true, h4, hid, c_fail]
theorem c_nodigit {ob od le mo sh c P p so : Nat} {F : Nat → Nat} {M : me_M} (hob : ob9 ob od le mo) (hc : c < 8) (ht : cT F so M) (hq : cQ none p M) (hp : p ≤ so) (hd : dg9 F so p = false) (h4 : M.1 ob 4 = nI c) (hP : 0 < c → 1 ≤ P ∧ P ≤ 5 ∧ M.1 ob 5 = nI P) : ∃ M1, gX6_readSearch ob od le mo sh M = some M1 ∧ fr (fun b k => (b = 52 ∧ 2 ≤ k ∧ k ≤ 4) ∨ (b = od ∧ c * 5 ≤ k) ∨ (b = ob ∧ k = 5 ∧ c = 0)) M M1 ∧ cQ (some (1, p)) p M1 := by
  have hob2 := hob
  unfold ob9 at hob2
  have hso := ht.1
  by_cases hc0 : c = 0
  · have hdf := c_digits (n := 0) ht hp hq.2.2 (fun j hj => absurd hj (Nat.not_lt_zero _)) (by rw [Nat.add_zero]; exact hd)
    have h2 : (me_s M ob 5 (nI 0)).1 52 2 = nI p := by rw [me_s_ne (by omega)]; exact hq.2.2
    have h50 : (me_s M ob 5 (nI 0)).1 ob 5 = nI 0 := pu_ss
    refine ⟨_, sea_fail hc h4 (M1 := me_s (me_s (me_s M ob 5 (nI 0)) 52 3 (nI 1)) 52 4 ((me_s M ob 5 (nI 0)).1 52 2)) ?_, ((fr.s (by omega)).st (by omega)).st (by omega), cQ_fail h2 (by omega) (by omega) (by omega)⟩
    unfold gX6_readOrder gX6_readOrder_J19
    rw [h4, hc0]
    have hmn := c_min (a := 0) (b := 5) (by omega) (by omega)
    rw [show min 0 5 = 0 from rfl] at hmn
    simp (disch := omega) only [Option.bind_some, if_true, if_false, Sum.elim_inl, Sum.elim_inr, li0, li1, li2, li3, li4, li5, li6, li7, li8, li9, li10, li12, li16, li20, li24, li25, li31, li32, li40, li41, li42, li48, li57, li59, li97, li104, li105, li124, li126, li240, li241, nI_add, nI_subc, nI_subm, nI_mulc, nI_nm, pu_r, pu_t, pu_a, pu_le_t, pu_le_f, pu_lt_t, pu_lt_f, pu_eq_t, pu_eq_f, nm_eq, nm_eq2, nm_lt, nm_lt2, nm_le, nm_le2, nm_ss, nm_sp, pu_ss, pu_snq, pu_neq, eq_self, and_true, true_and, and_false, false_and, or_true, true_or, or_false, false_or, not_true_eq_false, not_false_eq_true, hdf, hmn, h50, c_fail]
  · obtain ⟨p1, p5, h5⟩ := hP (by omega)
    obtain ⟨o, Mo, e1, f1, w1, g1, k1⟩ := c_order (sh := sh) hob hc p1 p5 ht hq hp h4 h5
    have ho : o = some (1, p) := by
      rcases w1 with ⟨k, hk, hok, z⟩ | ⟨hok, -⟩
      · by_cases y : k = 0
        · rw [y, Nat.add_zero] at z
          rcases z with ⟨-, z⟩ | ⟨z, -⟩
          · exact z
          · rw [hd] at z; cases z
        · have := (hok 0 (by omega)).1
          rw [Nat.add_zero, hd] at this; cases this
      · have := (hok 0 (by omega)).1
        rw [Nat.add_zero, hd] at this; cases this
    subst ho
    refine ⟨Mo, sea_fail hc h4 ?_, f1.up (fun b k h => by omega), g1⟩
    unfold gX6_readOrder
    simp (disch := omega) only [Option.bind_some, if_true, if_false, Sum.elim_inl, Sum.elim_inr, li0, li1, li2, li3, li4, li5, li6, li7, li8, li9, li10, li12, li16, li20, li24, li25, li31, li32, li40, li41, li42, li48, li57, li59, li97, li104, li105, li124, li126, li240, li241, nI_add, nI_subc, nI_subm, nI_mulc, nI_nm, pu_r, pu_t, pu_a, pu_le_t, pu_le_f, pu_lt_t, pu_lt_f, pu_eq_t, pu_eq_f, nm_eq, nm_eq2, nm_lt, nm_lt2, nm_le, nm_le2, nm_ss, nm_sp, pu_ss, pu_snq, pu_neq, eq_self, and_true, true_and, and_false, false_and, or_true, true_or, or_false, false_or, not_true_eq_false, not_false_eq_true, h4, e1, show bI (Option.isNone (some (1, p))) = nI 0 from rfl]
/-- both at the head of their loops, c searches read -/
def hd9 (ob so c p P : Nat) (D : Nat → Nat → Nat → Nat) (F : Nat → Nat) (M M' : me_M) : Prop := cT F so M ∧ rT F so M' ∧ p ≤ so ∧ cQ none p M ∧ rQ none p M' ∧ M.1 ob 4 = nI c ∧ M'.1 77 1 = nI c ∧ (0 < c → 1 ≤ P ∧ P ≤ 5 ∧ M.1 ob 5 = nI P ∧ M'.1 78 1 = nI P) ∧ ∀ s, s < c → okd P (D s) ∧ ∀ w k, w < 3 → k < P → M.1 (ob + 1 + w) (s * 5 + k) = nI (D s w k) ∧ M'.1 (133 + 3 * s + w) k = nI (D s w k)
def fc9 (ob od le mo b k : Nat) : Prop := (b = 52 ∧ 2 ≤ k ∧ k ≤ 4) ∨ (b = od ∨ b = le ∨ b = mo) ∨ (b = ob ∧ (k = 4 ∨ k = 5))
def fq9 (b k : Nat) : Prop := (b = 63 ∧ 25 ≤ k ∧ k ≤ 27) ∨ (133 ≤ b ∧ b ≤ 156) ∨ ((b = 77 ∨ b = 78) ∧ k = 1)
/-- a faulted class's loop ends -/
theorem c_endF {ob od le mo sh c so p kd pl f : Nat} {F : Nat → Nat} {M M1 : me_M} (hc : c ≤ 8) (hlt : p < so) (ht : cT F so M) (hq : cQ none p M) (e : gX6_readSearch ob od le mo sh M = some M1) (ht1 : cT F so M1) (g : cQ (some (kd, pl)) p M1) : ∃ M2, me_l (gX6_read_L31 ob od le mo sh) (f + 1 + 1) (nI c, M) = some M2 ∧ fr (fun b k => b = 52 ∧ k = 2) M1 M2 ∧ M2.1 52 3 = nI kd ∧ M2.1 52 4 = nI pl := by
  have hso := ht.1
  obtain ⟨q', hs⟩ := sk_ex F so (so - pl) pl rfl
  have hpl := g.2.2.2.2.2
  obtain ⟨M2, e2, f2, g2⟩ := c_skip ht1 (by omega) g.2.2.1 hs
  have hq2 := hs.2.1
  have h3 : M2.1 52 3 = nI kd := by rw [f2.2 _ _ (by omega)]; exact g.1
  have h4 : M2.1 52 4 = nI pl := by rw [f2.2 _ _ (by omega)]; exact g.2.1
  have h1 : M2.1 52 1 = nI so := by rw [f2.2 _ _ (by omega)]; exact ht1.2.1
  have hk1 := g.2.2.2.1
  have hk2 := g.2.2.2.2.1
  refine ⟨M2, ?_, f2, h3, h4⟩
  rw [lp_in (s' := (nI (c + 1), M2)), lp_ou (r := M2)]
  · simp only [gX6_read_L31]
    by_cases z : 8 < c + 1
    · simp (disch := omega) only [Option.bind_some, if_true, if_false, Sum.elim_inl, Sum.elim_inr, li0, li1, li2, li3, li4, li5, li6, li7, li8, li9, li10, li12, li16, li20, li24, li25, li31, li32, li40, li41, li42, li48, li57, li59, li97, li104, li105, li124, li126, li240, li241, nI_add, nI_subc, nI_subm, nI_mulc, nI_nm, pu_r, pu_t, pu_a, pu_le_t, pu_le_f, pu_lt_t, pu_lt_f, pu_eq_t, pu_eq_f, nm_eq, nm_eq2, nm_lt, nm_lt2, nm_le, nm_le2, nm_ss, nm_sp, pu_ss, pu_snq, pu_neq, eq_self, and_true, true_and, and_false, false_and, or_true, true_or, or_false, false_or, not_true_eq_false, not_false_eq_true]
    · by_cases y : so ≤ q'
      · simp (disch := omega) only [Option.bind_some, if_true, if_false, Sum.elim_inl, Sum.elim_inr, li0, li1, li2, li3, li4, li5, li6, li7, li8, li9, li10, li12, li16, li20, li24, li25, li31, li32, li40, li41, li42, li48, li57, li59, li97, li104, li105, li124, li126, li240, li241, nI_add, nI_subc, nI_subm, nI_mulc, nI_nm, pu_r, pu_t, pu_a, pu_le_t, pu_le_f, pu_lt_t, pu_lt_f, pu_eq_t, pu_eq_f, nm_eq, nm_eq2, nm_lt, nm_lt2, nm_le, nm_le2, nm_ss, nm_sp, pu_ss, pu_snq, pu_neq, eq_self, and_true, true_and, and_false, false_and, or_true, true_or, or_false, false_or, not_true_eq_false, not_false_eq_true, h1, g2]
      · simp (disch := omega) only [Option.bind_some, if_true, if_false, Sum.elim_inl, Sum.elim_inr, li0, li1, li2, li3, li4, li5, li6, li7, li8, li9, li10, li12, li16, li20, li24, li25, li31, li32, li40, li41, li42, li48, li57, li59, li97, li104, li105, li124, li126, li240, li241, nI_add, nI_subc, nI_subm, nI_mulc, nI_nm, pu_r, pu_t, pu_a, pu_le_t, pu_le_f, pu_lt_t, pu_lt_f, pu_eq_t, pu_eq_f, nm_eq, nm_eq2, nm_lt, nm_lt2, nm_le, nm_le2, nm_ss, nm_sp, pu_ss, pu_snq, pu_neq, eq_self, and_true, true_and, and_false, false_and, or_true, true_or, or_false, false_or, not_true_eq_false, not_false_eq_true, h1, g2, h3]
  · simp only [gX6_read_L31]
    simp (disch := omega) only [Option.bind_some, if_true, if_false, Sum.elim_inl, Sum.elim_inr, li0, li1, li2, li3, li4, li5, li6, li7, li8, li9, li10, li12, li16, li20, li24, li25, li31, li32, li40, li41, li42, li48, li57, li59, li97, li104, li105, li124, li126, li240, li241, nI_add, nI_subc, nI_subm, nI_mulc, nI_nm, pu_r, pu_t, pu_a, pu_le_t, pu_le_f, pu_lt_t, pu_lt_f, pu_eq_t, pu_eq_f, nm_eq, nm_eq2, nm_lt, nm_lt2, nm_le, nm_le2, nm_ss, nm_sp, pu_ss, pu_snq, pu_neq, eq_self, and_true, true_and, and_false, false_and, or_true, true_or, or_false, false_or, not_true_eq_false, not_false_eq_true, ht.2.1, hq.2.2, hq.1, e, e2]
/-- all searches, read by both -/
theorem parse9 {ob od le mo sh so : Nat} {F : Nat → Nat} (hob : ob9 ob od le mo) : ∀ j c p P D f f' M M', c + j = 8 → j + 2 ≤ f → j + 2 ≤ f' → hd9 ob so c p P D F M M' → ∃ M1 M1', me_l (gX6_read_L31 ob od le mo sh) f (nI c, M) = some M1 ∧ me_l mX12_scheme_63_L86 f' M' = some M1' ∧ fr (fc9 ob od le mo) M M1 ∧ fr fq9 M' M1' ∧ ((∃ kd pl, 1 ≤ kd ∧ kd ≤ 3 ∧ pl ≤ 240 ∧ M1.1 52 3 = nI kd ∧ M1.1 52 4 = nI pl ∧ M1'.1 63 26 = nI kd ∧ M1'.1 63 27 = nI pl) ∨ ∃ c' p' P' D', c' ≤ 8 ∧ (c = c' → p' = p ∧ so ≤ p) ∧ c ≤ c' ∧ hd9 ob so c' p' P' D' F M1 M1') := by
  have hob2 := hob
  unfold ob9 at hob2
  intro j
  induction j with
  | zero =>
    intro c p P D f f' M M' hcj hf hf' ⟨ht, ht', hp, hq, hq', h4, h77, hP, hD⟩
    have hso := ht.1
    have hF : ∀ i, i < so → F i < 256 := fun i hi => (ht'.2.2 i hi).1
    have hc8 : c = 8 := by omega
    obtain ⟨f, rfl⟩ : ∃ g, f = g + 1 + 1 := ⟨f - 2, by omega⟩
    obtain ⟨f', rfl⟩ : ∃ g, f' = g + 1 + 1 := ⟨f' - 2, by omega⟩
    have hh := r_here ht' (by omega) hq'.2.2
    have hm := hv_m (F := F) (so := so) (p := p) hF
    by_cases he : so ≤ p
    · refine ⟨M, M', ?_, ?_, fr.rf, fr.rf, Or.inr ⟨c, p, P, D, by omega, fun _ => ⟨rfl, he⟩, Nat.le_refl _, ht, ht', hp, hq, hq', h4, h77, hP, hD⟩⟩
      · rw [lp_ou]
        simp only [gX6_read_L31]
        simp (disch := omega) only [Option.bind_some, if_true, if_false, Sum.elim_inl, Sum.elim_inr, li0, li1, li2, li3, li4, li5, li6, li7, li8, li9, li10, li12, li16, li20, li24, li25, li31, li32, li40, li41, li42, li48, li57, li59, li97, li104, li105, li124, li126, li240, li241, nI_add, nI_subc, nI_subm, nI_mulc, nI_nm, pu_r, pu_t, pu_a, pu_le_t, pu_le_f, pu_lt_t, pu_lt_f, pu_eq_t, pu_eq_f, nm_eq, nm_eq2, nm_lt, nm_lt2, nm_le, nm_le2, nm_ss, nm_sp, pu_ss, pu_snq, pu_neq, eq_self, and_true, true_and, and_false, false_and, or_true, true_or, or_false, false_or, not_true_eq_false, not_false_eq_true, ht.2.1, hq.2.2]
      · rw [lp_ou]
        have z : hv F so p = -nI 1 := hm.mpr he
        simp only [mX12_scheme_63_L86]
        simp (disch := omega) only [Option.bind_some, if_true, if_false, Sum.elim_inl, Sum.elim_inr, li0, li1, li2, li3, li4, li5, li6, li7, li8, li9, li10, li12, li16, li20, li24, li25, li31, li32, li40, li41, li42, li48, li57, li59, li97, li104, li105, li124, li126, li240, li241, nI_add, nI_subc, nI_subm, nI_mulc, nI_nm, pu_r, pu_t, pu_a, pu_le_t, pu_le_f, pu_lt_t, pu_lt_f, pu_eq_t, pu_eq_f, nm_eq, nm_eq2, nm_lt, nm_lt2, nm_le, nm_le2, nm_ss, nm_sp, pu_ss, pu_snq, pu_neq, eq_self, and_true, true_and, and_false, false_and, or_true, true_or, or_false, false_or, not_true_eq_false, not_false_eq_true, r_fine0 hq'.1, hh, z]
    · obtain ⟨kd, hkd⟩ : ∃ kd, kd = if dg9 F so p = true then 3 else 1 := ⟨_, rfl⟩
      have hkb : 1 ≤ kd ∧ kd ≤ 3 := by rw [hkd]; split <;> omega
      obtain ⟨M1, e1, f1, g1⟩ := c_ninth (sh := sh) hob ht hq hp (by rw [h4, hc8]) hkd
      obtain ⟨M2, e2, f2, x3, x4⟩ := c_endF (f := f) (c := c) (by omega) (by omega) ht hq e1 (ht.fr f1 (by omega) (fun k => by omega)) g1
      have z : ¬ hv F so p = -nI 1 := fun y => he (hm.mp y)
      have w26 : (me_s (me_s M' 63 26 (nI kd)) 63 27 (nI p)).1 63 26 = nI kd := by simp (disch := omega) only [Option.bind_some, if_true, if_false, Sum.elim_inl, Sum.elim_inr, li0, li1, li2, li3, li4, li5, li6, li7, li8, li9, li10, li12, li16, li20, li24, li25, li31, li32, li40, li41, li42, li48, li57, li59, li97, li104, li105, li124, li126, li240, li241, nI_add, nI_subc, nI_subm, nI_mulc, nI_nm, pu_r, pu_t, pu_a, pu_le_t, pu_le_f, pu_lt_t, pu_lt_f, pu_eq_t, pu_eq_f, nm_eq, nm_eq2, nm_lt, nm_lt2, nm_le, nm_le2, nm_ss, nm_sp, pu_ss, pu_snq, pu_neq, eq_self, and_true, true_and, and_false, false_and, or_true, true_or, or_false, false_or, not_true_eq_false, not_false_eq_true]
      have w27 : (me_s (me_s M' 63 26 (nI kd)) 63 27 (nI p)).1 63 27 = nI p := by simp (disch := omega) only [Option.bind_some, if_true, if_false, Sum.elim_inl, Sum.elim_inr, li0, li1, li2, li3, li4, li5, li6, li7, li8, li9, li10, li12, li16, li20, li24, li25, li31, li32, li40, li41, li42, li48, li57, li59, li97, li104, li105, li124, li126, li240, li241, nI_add, nI_subc, nI_subm, nI_mulc, nI_nm, pu_r, pu_t, pu_a, pu_le_t, pu_le_f, pu_lt_t, pu_lt_f, pu_eq_t, pu_eq_f, nm_eq, nm_eq2, nm_lt, nm_lt2, nm_le, nm_le2, nm_ss, nm_sp, pu_ss, pu_snq, pu_neq, eq_self, and_true, true_and, and_false, false_and, or_true, true_or, or_false, false_or, not_true_eq_false, not_false_eq_true]
      refine ⟨M2, me_s (me_s M' 63 26 (nI kd)) 63 27 (nI p), e2, ?_, (f1.up (fun b k h => by unfold fc9; omega)).tr (f2.up (fun b k h => by unfold fc9; omega)), (fr.s (by unfold fq9; omega)).st (by unfold fq9; omega), Or.inl ⟨kd, p, hkb.1, hkb.2, by omega, x3, x4, w26, w27⟩⟩
      have hfi := r_fine1 w26 hkb.1 hkb.2
      have hid := r_isDig (so := so) (p := p) hF
      have hwr := fun a => r_wrong0 (a := a) (b := nI p) hq'.1
      have h25 := hq'.2.2
      rw [lp_ou (r := me_s (me_s M' 63 26 (nI kd)) 63 27 (nI p))]
      simp only [mX12_scheme_63_L86, mX12_scheme_63_J143]
      cases hd : dg9 F so p with
      | true =>
        rw [hd, bI_t] at hid
        rw [hd, if_pos rfl] at hkd
        subst hkd
        simp (disch := omega) only [Option.bind_some, if_true, if_false, Sum.elim_inl, Sum.elim_inr, li0, li1, li2, li3, li4, li5, li6, li7, li8, li9, li10, li12, li16, li20, li24, li25, li31, li32, li40, li41, li42, li48, li57, li59, li97, li104, li105, li124, li126, li240, li241, nI_add, nI_subc, nI_subm, nI_mulc, nI_nm, pu_r, pu_t, pu_a, pu_le_t, pu_le_f, pu_lt_t, pu_lt_f, pu_eq_t, pu_eq_f, nm_eq, nm_eq2, nm_lt, nm_lt2, nm_le, nm_le2, nm_ss, nm_sp, pu_ss, pu_snq, pu_neq, eq_self, and_true, true_and, and_false, false_and, or_true, true_or, or_false, false_or, not_true_eq_false, not_false_eq_true, r_fine0 hq'.1, hh, z, hid, h77, hc8, h25, hwr, hfi]
      | false =>
        rw [hd, bI_f] at hid
        rw [hd, if_neg (by decide)] at hkd
        subst hkd
        simp (disch := omega) only [Option.bind_some, if_true, if_false, Sum.elim_inl, Sum.elim_inr, li0, li1, li2, li3, li4, li5, li6, li7, li8, li9, li10, li12, li16, li20, li24, li25, li31, li32, li40, li41, li42, li48, li57, li59, li97, li104, li105, li124, li126, li240, li241, nI_add, nI_subc, nI_subm, nI_mulc, nI_nm, pu_r, pu_t, pu_a, pu_le_t, pu_le_f, pu_lt_t, pu_lt_f, pu_eq_t, pu_eq_f, nm_eq, nm_eq2, nm_lt, nm_lt2, nm_le, nm_le2, nm_ss, nm_sp, pu_ss, pu_snq, pu_neq, eq_self, and_true, true_and, and_false, false_and, or_true, true_or, or_false, false_or, not_true_eq_false, not_false_eq_true, r_fine0 hq'.1, hh, z, hid, h25, hwr, hfi]
  | succ j ih =>
    intro c p P D f f' M M' hcj hf hf' ⟨ht, ht', hp, hq, hq', h4, h77, hP, hD⟩
    have hso := ht.1
    have hF : ∀ i, i < so → F i < 256 := fun i hi => (ht'.2.2 i hi).1
    have hc8 : c < 8 := by omega
    obtain ⟨f, rfl⟩ : ∃ g, f = g + 1 + 1 := ⟨f - 2, by omega⟩
    obtain ⟨f', rfl⟩ : ∃ g, f' = g + 1 + 1 := ⟨f' - 2, by omega⟩
    have hh := r_here ht' (by omega) hq'.2.2
    have hm := hv_m (F := F) (so := so) (p := p) hF
    by_cases he : so ≤ p
    · refine ⟨M, M', ?_, ?_, fr.rf, fr.rf, Or.inr ⟨c, p, P, D, by omega, fun _ => ⟨rfl, he⟩, Nat.le_refl _, ht, ht', hp, hq, hq', h4, h77, hP, hD⟩⟩
      · rw [lp_ou]
        simp only [gX6_read_L31]
        simp (disch := omega) only [Option.bind_some, if_true, if_false, Sum.elim_inl, Sum.elim_inr, li0, li1, li2, li3, li4, li5, li6, li7, li8, li9, li10, li12, li16, li20, li24, li25, li31, li32, li40, li41, li42, li48, li57, li59, li97, li104, li105, li124, li126, li240, li241, nI_add, nI_subc, nI_subm, nI_mulc, nI_nm, pu_r, pu_t, pu_a, pu_le_t, pu_le_f, pu_lt_t, pu_lt_f, pu_eq_t, pu_eq_f, nm_eq, nm_eq2, nm_lt, nm_lt2, nm_le, nm_le2, nm_ss, nm_sp, pu_ss, pu_snq, pu_neq, eq_self, and_true, true_and, and_false, false_and, or_true, true_or, or_false, false_or, not_true_eq_false, not_false_eq_true, ht.2.1, hq.2.2]
      · rw [lp_ou]
        have z : hv F so p = -nI 1 := hm.mpr he
        simp only [mX12_scheme_63_L86]
        simp (disch := omega) only [Option.bind_some, if_true, if_false, Sum.elim_inl, Sum.elim_inr, li0, li1, li2, li3, li4, li5, li6, li7, li8, li9, li10, li12, li16, li20, li24, li25, li31, li32, li40, li41, li42, li48, li57, li59, li97, li104, li105, li124, li126, li240, li241, nI_add, nI_subc, nI_subm, nI_mulc, nI_nm, pu_r, pu_t, pu_a, pu_le_t, pu_le_f, pu_lt_t, pu_lt_f, pu_eq_t, pu_eq_f, nm_eq, nm_eq2, nm_lt, nm_lt2, nm_le, nm_le2, nm_ss, nm_sp, pu_ss, pu_snq, pu_neq, eq_self, and_true, true_and, and_false, false_and, or_true, true_or, or_false, false_or, not_true_eq_false, not_false_eq_true, r_fine0 hq'.1, hh, z]
    · have z : ¬ hv F so p = -nI 1 := fun y => he (hm.mp y)
      have hid := r_isDig (so := so) (p := p) hF
      cases hd : dg9 F so p with
      | false =>
        rw [hd, bI_f] at hid
        obtain ⟨M1, e1, f1, g1⟩ := c_nodigit (sh := sh) hob hc8 ht hq hp hd h4 (fun z => ⟨(hP z).1, (hP z).2.1, (hP z).2.2.1⟩)
        obtain ⟨M2, e2, f2, x3, x4⟩ := c_endF (f := f) (c := c) (by omega) (by omega) ht hq e1 (ht.fr f1 (by omega) (fun k => by omega)) g1
        have w26 : (me_s (me_s M' 63 26 (nI 1)) 63 27 (nI p)).1 63 26 = nI 1 := by simp (disch := omega) only [Option.bind_some, if_true, if_false, Sum.elim_inl, Sum.elim_inr, li0, li1, li2, li3, li4, li5, li6, li7, li8, li9, li10, li12, li16, li20, li24, li25, li31, li32, li40, li41, li42, li48, li57, li59, li97, li104, li105, li124, li126, li240, li241, nI_add, nI_subc, nI_subm, nI_mulc, nI_nm, pu_r, pu_t, pu_a, pu_le_t, pu_le_f, pu_lt_t, pu_lt_f, pu_eq_t, pu_eq_f, nm_eq, nm_eq2, nm_lt, nm_lt2, nm_le, nm_le2, nm_ss, nm_sp, pu_ss, pu_snq, pu_neq, eq_self, and_true, true_and, and_false, false_and, or_true, true_or, or_false, false_or, not_true_eq_false, not_false_eq_true]
        have w27 : (me_s (me_s M' 63 26 (nI 1)) 63 27 (nI p)).1 63 27 = nI p := by simp (disch := omega) only [Option.bind_some, if_true, if_false, Sum.elim_inl, Sum.elim_inr, li0, li1, li2, li3, li4, li5, li6, li7, li8, li9, li10, li12, li16, li20, li24, li25, li31, li32, li40, li41, li42, li48, li57, li59, li97, li104, li105, li124, li126, li240, li241, nI_add, nI_subc, nI_subm, nI_mulc, nI_nm, pu_r, pu_t, pu_a, pu_le_t, pu_le_f, pu_lt_t, pu_lt_f, pu_eq_t, pu_eq_f, nm_eq, nm_eq2, nm_lt, nm_lt2, nm_le, nm_le2, nm_ss, nm_sp, pu_ss, pu_snq, pu_neq, eq_self, and_true, true_and, and_false, false_and, or_true, true_or, or_false, false_or, not_true_eq_false, not_false_eq_true]
        have hfi := r_fine1 w26 (by omega) (by omega)
        have hwr := fun a => r_wrong0 (a := a) (b := nI p) hq'.1
        have h25 := hq'.2.2
        refine ⟨M2, me_s (me_s M' 63 26 (nI 1)) 63 27 (nI p), e2, ?_, (f1.up (fun b k h => by unfold fc9; omega)).tr (f2.up (fun b k h => by unfold fc9; omega)), (fr.s (by unfold fq9; omega)).st (by unfold fq9; omega), Or.inl ⟨1, p, by omega, by omega, by omega, x3, x4, w26, w27⟩⟩
        rw [lp_ou (r := me_s (me_s M' 63 26 (nI 1)) 63 27 (nI p))]
        simp only [mX12_scheme_63_L86, mX12_scheme_63_J143]
        simp (disch := omega) only [Option.bind_some, if_true, if_false, Sum.elim_inl, Sum.elim_inr, li0, li1, li2, li3, li4, li5, li6, li7, li8, li9, li10, li12, li16, li20, li24, li25, li31, li32, li40, li41, li42, li48, li57, li59, li97, li104, li105, li124, li126, li240, li241, nI_add, nI_subc, nI_subm, nI_mulc, nI_nm, pu_r, pu_t, pu_a, pu_le_t, pu_le_f, pu_lt_t, pu_lt_f, pu_eq_t, pu_eq_f, nm_eq, nm_eq2, nm_lt, nm_lt2, nm_le, nm_le2, nm_ss, nm_sp, pu_ss, pu_snq, pu_neq, eq_self, and_true, true_and, and_false, false_and, or_true, true_or, or_false, false_or, not_true_eq_false, not_false_eq_true, r_fine0 hq'.1, hh, z, hid, h25, hwr, hfi]
      | true =>
        rw [hd, bI_t] at hid
        obtain ⟨o, p1, P', d, M1, N1, e1, n1, f1, m1, g1, x1, y1, y2⟩ := sea9 (sh := sh) (P := P) hob hc8 ht hq ht' hq' hp hd h4 hP
        have ht1 : cT F so M1 := ht.fr f1 (by omega) (fun k => by omega)
        have htN : rT F so N1 := ht'.fr m1 (by omega) (fun k => by omega)
        have n77 : N1.1 77 1 = nI c := by rw [m1.2 _ _ (by omega)]; exact h77
        have htK : rT F so (me_s N1 77 1 (nI (c + 1))) := htN.fr (fr.s (S := fun b k => b = 77 ∧ k = 1) (by omega)) (by omega) (fun k => by omega)
        cases o with
        | some v =>
          obtain ⟨kd, pl⟩ := v
          obtain ⟨x26, x27, k1, k2, q, hqb, x25⟩ := x1
          obtain ⟨M2, e2, f2, x3, x4⟩ := c_endF (f := f) (c := c) (by omega) (by omega) ht hq e1 ht1 g1
          obtain ⟨q', hs⟩ := sk_ex F so (so - q) q rfl
          obtain ⟨N2, n2, m2, g2⟩ := r_skip htK (p := q) (by omega) (by rw [me_s_ne (by decide)]; exact x25) hs
          have w26 : N2.1 63 26 = nI kd := by rw [m2.2 _ _ (by omega), me_s_ne (by decide)]; exact x26
          have w27 : N2.1 63 27 = nI pl := by rw [m2.2 _ _ (by omega), me_s_ne (by decide)]; exact x27
          have hfi := r_fine1 w26 k1 k2
          have hpl := g1.2.2.2.2.2
          refine ⟨M2, N2, e2, ?_, (f1.up (fun b k h => by unfold fc9; omega)).tr (f2.up (fun b k h => by unfold fc9; omega)), ((m1.up (fun b k h => by unfold fq9; omega)).st (by unfold fq9; omega)).tr (m2.up (fun b k h => by unfold fq9; omega)), Or.inl ⟨kd, pl, k1, k2, hpl, x3, x4, w26, w27⟩⟩
          rw [lp_in (s' := N2), lp_ou (r := N2)]
          · simp only [mX12_scheme_63_L86]
            simp (disch := omega) only [Option.bind_some, if_true, if_false, Sum.elim_inl, Sum.elim_inr, li0, li1, li2, li3, li4, li5, li6, li7, li8, li9, li10, li12, li16, li20, li24, li25, li31, li32, li40, li41, li42, li48, li57, li59, li97, li104, li105, li124, li126, li240, li241, nI_add, nI_subc, nI_subm, nI_mulc, nI_nm, pu_r, pu_t, pu_a, pu_le_t, pu_le_f, pu_lt_t, pu_lt_f, pu_eq_t, pu_eq_f, nm_eq, nm_eq2, nm_lt, nm_lt2, nm_le, nm_le2, nm_ss, nm_sp, pu_ss, pu_snq, pu_neq, eq_self, and_true, true_and, and_false, false_and, or_true, true_or, or_false, false_or, not_true_eq_false, not_false_eq_true, hfi]
          · simp only [mX12_scheme_63_L86, mX12_scheme_63_J143]
            simp (disch := omega) only [Option.bind_some, if_true, if_false, Sum.elim_inl, Sum.elim_inr, li0, li1, li2, li3, li4, li5, li6, li7, li8, li9, li10, li12, li16, li20, li24, li25, li31, li32, li40, li41, li42, li48, li57, li59, li97, li104, li105, li124, li126, li240, li241, nI_add, nI_subc, nI_subm, nI_mulc, nI_nm, pu_r, pu_t, pu_a, pu_le_t, pu_le_f, pu_lt_t, pu_lt_f, pu_eq_t, pu_eq_f, nm_eq, nm_eq2, nm_lt, nm_lt2, nm_le, nm_le2, nm_ss, nm_sp, pu_ss, pu_snq, pu_neq, eq_self, and_true, true_and, and_false, false_and, or_true, true_or, or_false, false_or, not_true_eq_false, not_false_eq_true, r_fine0 hq'.1, hh, z, hid, h77, n1, n77, n2]
        | none =>
          obtain ⟨s1, s2, s3, s4, s5, s6, s7, s8, s9, s10⟩ := y1 rfl
          obtain ⟨q', hs⟩ := sk_ex F so (so - p1) p1 rfl
          have hq2 := hs.2.1
          have hq3 := hs.1
          obtain ⟨M2, e2, f2, g2⟩ := c_skip ht1 (p := p1) (by omega) g1.2.2 hs
          obtain ⟨N2, n2, m2, k2⟩ := r_skip htK (p := p1) (by omega) (by rw [me_s_ne (by decide)]; exact x1.2.2) hs
          have f02 : fr (fun b k => (b = 52 ∧ 2 ≤ k ∧ k ≤ 4) ∨ ((b = od ∨ b = le ∨ b = mo) ∧ c * 5 ≤ k) ∨ (b = ob ∧ (k = 4 ∨ (k = 5 ∧ c = 0)))) M M2 := f1.tr (f2.up (fun b k h => by omega))
          have m02 : fr (fun b k => (b = 63 ∧ 25 ≤ k ∧ k ≤ 27) ∨ (133 + 3 * c ≤ b ∧ b ≤ 133 + 3 * c + 2) ∨ (b = 78 ∧ k = 1 ∧ c = 0) ∨ (b = 77 ∧ k = 1)) M' N2 := ((m1.up (fun b k h => by omega)).st (by omega)).tr (m2.up (fun b k h => by omega))
          have hnew : hd9 ob so (c + 1) q' P' (fun s => if s = c then d else D s) F M2 N2 := by
            refine ⟨ht.fr f02 (by omega) (fun k => by omega), ht'.fr m02 (by omega) (fun k => by omega), by omega, ⟨by rw [f2.2 _ _ (by omega)]; exact g1.1, by rw [f2.2 _ _ (by omega)]; exact g1.2.1, g2⟩, ⟨by rw [m2.2 _ _ (by omega), me_s_ne (by decide)]; exact x1.1, by rw [m2.2 _ _ (by omega), me_s_ne (by decide)]; exact x1.2.1, k2⟩, by rw [f2.2 _ _ (by omega)]; exact s3, by rw [m2.2 _ _ (by omega)]; exact pu_ss, fun _ => ⟨s4, s5, by rw [f2.2 _ _ (by omega)]; exact s7, by rw [m2.2 _ _ (by omega), me_s_ne (by decide)]; exact s8⟩, fun s hs9 => ?_⟩
            by_cases y : s = c
            · show okd P' (if s = c then d else D s) ∧ _
              simp only [if_pos y]
              refine ⟨s9, fun w k hw hk => ?_⟩
              rw [y, f2.2 _ _ (by omega), m2.2 _ _ (by omega), me_s_ne (by omega)]
              exact s10 w k hw hk
            · have hPP : P' = P := s6 (by omega)
              obtain ⟨z1, z2⟩ := hD s (by omega)
              show okd P' (if s = c then d else D s) ∧ _
              simp only [if_neg y]
              refine ⟨by rw [hPP]; exact z1, fun w k hw hk => ?_⟩
              have hP5 := (hP (by omega)).2.1
              rw [f02.2 _ _ (by omega), m02.2 _ _ (by omega)]
              exact z2 w k hw (by omega)
          obtain ⟨M3, N3, e3, n3, f3, m3, hres⟩ := ih (c + 1) q' P' _ (f + 1) (f' + 1) M2 N2 (by omega) (by omega) (by omega) hnew
          refine ⟨M3, N3, ?_, ?_, (f02.up (fun b k h => by unfold fc9; omega)).tr f3, (m02.up (fun b k h => by unfold fq9; omega)).tr m3, ?_⟩
          · rw [lp_in (s' := (nI (c + 1), M2))]
            · exact e3
            · simp only [gX6_read_L31]
              simp (disch := omega) only [Option.bind_some, if_true, if_false, Sum.elim_inl, Sum.elim_inr, li0, li1, li2, li3, li4, li5, li6, li7, li8, li9, li10, li12, li16, li20, li24, li25, li31, li32, li40, li41, li42, li48, li57, li59, li97, li104, li105, li124, li126, li240, li241, nI_add, nI_subc, nI_subm, nI_mulc, nI_nm, pu_r, pu_t, pu_a, pu_le_t, pu_le_f, pu_lt_t, pu_lt_f, pu_eq_t, pu_eq_f, nm_eq, nm_eq2, nm_lt, nm_lt2, nm_le, nm_le2, nm_ss, nm_sp, pu_ss, pu_snq, pu_neq, eq_self, and_true, true_and, and_false, false_and, or_true, true_or, or_false, false_or, not_true_eq_false, not_false_eq_true, ht.2.1, hq.2.2, hq.1, e1, e2]
          · rw [lp_in (s' := N2)]
            · exact n3
            · simp only [mX12_scheme_63_L86, mX12_scheme_63_J143]
              simp (disch := omega) only [Option.bind_some, if_true, if_false, Sum.elim_inl, Sum.elim_inr, li0, li1, li2, li3, li4, li5, li6, li7, li8, li9, li10, li12, li16, li20, li24, li25, li31, li32, li40, li41, li42, li48, li57, li59, li97, li104, li105, li124, li126, li240, li241, nI_add, nI_subc, nI_subm, nI_mulc, nI_nm, pu_r, pu_t, pu_a, pu_le_t, pu_le_f, pu_lt_t, pu_lt_f, pu_eq_t, pu_eq_f, nm_eq, nm_eq2, nm_lt, nm_lt2, nm_le, nm_le2, nm_ss, nm_sp, pu_ss, pu_snq, pu_neq, eq_self, and_true, true_and, and_false, false_and, or_true, true_or, or_false, false_or, not_true_eq_false, not_false_eq_true, r_fine0 hq'.1, hh, z, hid, h77, n1, n77, n2]
          · rcases hres with h | ⟨c', p', P'', D', a1, a2, a3, a4⟩
            · exact Or.inl h
            · exact Or.inr ⟨c', p', P'', D', a1, fun y => by omega, by omega, a4⟩
