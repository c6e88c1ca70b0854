/-! ===== call: scheme; the reference reads a whole row ===== -/
theorem r_row {w c P p so : Nat} {F L : Nat → Nat} {M : me_M} {o : Option (Nat × Nat)} (hw : w < 3) (hc : c < 8) (hP1 : 1 ≤ P) (hP5 : P ≤ 5) (ht : rT F so M) (hq : rQ none p M) (hp : p ≤ so) (h78 : M.1 78 1 = nI P) (hL : w = 2 → ∀ k, k < P → M.1 (133 + 3 * c + 1) k = nI (L k) ∧ L k ≤ 4) (hrow : rowR (okw w (dd9 F so p) L P) 1 F so p P o) : ∃ M1, mX12_readsRow_63_101 M (101 + c) (nI w) = some M1 ∧ fr (fun b k => (b = 63 ∧ 25 ≤ k ∧ k ≤ 27) ∨ b = 133 + 3 * c + w) M M1 ∧ rQ o (p + P) M1 ∧ (o = none → ∀ k, k < P → M1.1 (133 + 3 * c + w) k = nI (dd9 F so p k)) := by
  have hs := ht.1
  have hF : ∀ i, i < so → F i < 256 := fun i hi => (ht.2.2 i hi).1
  obtain ⟨q26, q27, q25⟩ := hq
  have hstate : ∀ Mx, fr (fun b k => (b = 63 ∧ k = 25) ∨ b = 133 + 3 * c + w) M Mx → rT F so Mx ∧ Mx.1 63 26 = nI 0 ∧ Mx.1 78 1 = nI P ∧ (w = 2 → ∀ k, k < P → Mx.1 (133 + 3 * c + 1) k = nI (L k) ∧ L k ≤ 4) := fun Mx hf => ⟨ht.fr hf (by omega) (fun k => by omega), by rw [hf.2 _ _ (by omega)]; exact q26, by rw [hf.2 _ _ (by omega)]; exact h78, fun z k hk => by rw [hf.2 _ _ (by omega)]; exact hL z k hk⟩
  have hbound : ∀ k, k ≤ P → (∀ j, j < k → dg9 F so (p + j) = true) → p + k ≤ so := fun k _ h => by
    by_cases z : k = 0
    · omega
    · have := (dg9_lt (h (k - 1) (by omega))).1; omega
  have hpre : ∀ k, k ≤ P → (∀ j, j < k → dg9 F so (p + j) = true ∧ okw w (dd9 F so p) L P j) → ∃ st, (∃ Mx, st = (nI k, Mx) ∧ fr (fun b k => (b = 63 ∧ k = 25) ∨ b = 133 + 3 * c + w) M Mx ∧ Mx.1 63 25 = nI (p + k) ∧ ∀ j, j < k → Mx.1 (133 + 3 * c + w) j = nI (dd9 F so p j)) ∧ ∀ f, me_l (mX12_readsRow_63_101_L2 (101 + c) (nI w)) (f + k) (nI 0, M) = me_l (mX12_readsRow_63_101_L2 (101 + c) (nI w)) f st := fun k hk hok => by
    refine lp_pre (fun x st => ∃ Mx, st = (nI x, Mx) ∧ fr (fun b k => (b = 63 ∧ k = 25) ∨ b = 133 + 3 * c + w) M Mx ∧ Mx.1 63 25 = nI (p + x) ∧ ∀ j, j < x → Mx.1 (133 + 3 * c + w) j = nI (dd9 F so p j)) (fun x st hx hst => ?_) ⟨M, rfl, fr.rf, q25, fun j hj => absurd hj (Nat.not_lt_zero _)⟩
    obtain ⟨Mx, rfl, hf, h25, hdg⟩ := hst
    obtain ⟨htx, h26, h78x, hLx⟩ := hstate Mx hf
    have hb := hbound x (by omega) (fun j hj => (hok j (by omega)).1)
    obtain ⟨b, b1, b2⟩ := r_J38 (L := L) hw hc hP5 (show x < P by omega) htx h26 h25 (fun j hj => (hok j (by omega)).1) (by omega) h78x (fun z => hLx z x (by omega)) hdg
    have hbt := b2.mpr (hok x hx).2
    rw [hbt, r_J124 (M := me_s Mx (133 + 3 * c + w) x (nI (dd9 F so p x))) (q := p + x) (by rw [me_s_ne (by omega)]; exact h26) (by rw [me_s_ne (by omega)]; exact h25), if_pos rfl] at b1
    have hh := r_here htx (p := p + x) (by omega) h25
    have hid := r_isDig (so := so) (p := p + x) hF
    rw [(hok x hx).1, bI_t] at hid
    refine ⟨(nI (x + 1), me_s (me_s Mx (133 + 3 * c + w) x (nI (dd9 F so p x))) 63 25 (nI (p + x + 1))), ?_, _, rfl, (hf.st (by omega)).st (by omega), by rw [pu_ss, show p + x + 1 = p + (x + 1) by omega], fun j hj => ?_⟩
    · simp only [mX12_readsRow_63_101_L2]
      simp (disch := omega) only [Option.bind_some, if_true, if_false, Sum.elim_inl, Sum.elim_inr, li0, li1, li2, li3, li4, li5, li6, li7, li8, li9, li10, li12, li16, li20, li24, li25, li31, li32, li40, li41, li42, li48, li57, li59, li97, li104, li105, li124, li126, li240, li241, nI_add, nI_subc, nI_subm, nI_mulc, nI_nm, pu_r, pu_t, pu_a, pu_le_t, pu_le_f, pu_lt_t, pu_lt_f, pu_eq_t, pu_eq_f, nm_eq, nm_eq2, nm_lt, nm_lt2, nm_le, nm_le2, nm_ss, nm_sp, pu_ss, pu_snq, pu_neq, eq_self, and_true, true_and, and_false, false_and, or_true, true_or, or_false, false_or, not_true_eq_false, not_false_eq_true, h78x, r_fine0 h26, hh, hid, b1]
    · rw [me_s_ne (by omega)]
      by_cases z : j = x
      · rw [z, pu_ss]
      · rw [pu_sn z]; exact hdg j (by omega)
  have hfu : ∀ k, k ≤ P → me_fu = 4998 - k + 1 + 1 + k := fun k hk => by show 5000 = _; omega
  unfold mX12_readsRow_63_101
  rw [li0]
  rcases hrow with ⟨k, hk, hok, ⟨hd, rfl⟩ | ⟨hd, hno, rfl⟩⟩ | ⟨hok, hlast⟩
  · obtain ⟨st, ⟨Mx, rfl, hf, h25, hdg⟩, he⟩ := hpre k (by omega) hok
    obtain ⟨htx, h26, h78x, hLx⟩ := hstate Mx hf
    have hb := hbound k (by omega) (fun j hj => (hok j (by omega)).1)
    have hh := r_here htx (p := p + k) (by omega) h25
    have hid := r_isDig (so := so) (p := p + k) hF
    rw [hd, bI_f] at hid
    have h26w : (me_s (me_s Mx 63 26 (nI 1)) 63 27 (nI (p + k))).1 63 26 = nI 1 := by simp (disch := omega) only [Option.bind_some, if_true, if_false, Sum.elim_inl, Sum.elim_inr, li0, li1, li2, li3, li4, li5, li6, li7, li8, li9, li10, li12, li16, li20, li24, li25, li31, li32, li40, li41, li42, li48, li57, li59, li97, li104, li105, li124, li126, li240, li241, nI_add, nI_subc, nI_subm, nI_mulc, nI_nm, pu_r, pu_t, pu_a, pu_le_t, pu_le_f, pu_lt_t, pu_lt_f, pu_eq_t, pu_eq_f, nm_eq, nm_eq2, nm_lt, nm_lt2, nm_le, nm_le2, nm_ss, nm_sp, pu_ss, pu_snq, pu_neq, eq_self, and_true, true_and, and_false, false_and, or_true, true_or, or_false, false_or, not_true_eq_false, not_false_eq_true]
    have hfi := r_fine1 h26w (by omega) (by omega)
    refine ⟨me_s (me_s Mx 63 26 (nI 1)) 63 27 (nI (p + k)), ?_, ((hf.up (fun b k h => by omega)).st (by omega)).st (by omega), ⟨h26w, by simp (disch := omega) only [Option.bind_some, if_true, if_false, Sum.elim_inl, Sum.elim_inr, li0, li1, li2, li3, li4, li5, li6, li7, li8, li9, li10, li12, li16, li20, li24, li25, li31, li32, li40, li41, li42, li48, li57, li59, li97, li104, li105, li124, li126, li240, li241, nI_add, nI_subc, nI_subm, nI_mulc, nI_nm, pu_r, pu_t, pu_a, pu_le_t, pu_le_f, pu_lt_t, pu_lt_f, pu_eq_t, pu_eq_f, nm_eq, nm_eq2, nm_lt, nm_lt2, nm_le, nm_le2, nm_ss, nm_sp, pu_ss, pu_snq, pu_neq, eq_self, and_true, true_and, and_false, false_and, or_true, true_or, or_false, false_or, not_true_eq_false, not_false_eq_true], by omega, by omega, p + k, by omega, by rw [pu_sn (by decide), pu_sn (by decide)]; exact h25⟩, fun z => by cases z⟩
    have hstep : mX12_readsRow_63_101_L2 (101 + c) (nI w) (nI k, Mx) = some (.inr (.inr (me_s (me_s Mx 63 26 (nI 1)) 63 27 (nI (p + k))))) := by
      simp only [mX12_readsRow_63_101_L2, mX12_readsRow_63_101_J38]
      simp (disch := omega) only [Option.bind_some, if_true, if_false, Sum.elim_inl, Sum.elim_inr, li0, li1, li2, li3, li4, li5, li6, li7, li8, li9, li10, li12, li16, li20, li24, li25, li31, li32, li40, li41, li42, li48, li57, li59, li97, li104, li105, li124, li126, li240, li241, nI_add, nI_subc, nI_subm, nI_mulc, nI_nm, pu_r, pu_t, pu_a, pu_le_t, pu_le_f, pu_lt_t, pu_lt_f, pu_eq_t, pu_eq_f, nm_eq, nm_eq2, nm_lt, nm_lt2, nm_le, nm_le2, nm_ss, nm_sp, pu_ss, pu_snq, pu_neq, eq_self, and_true, true_and, and_false, false_and, or_true, true_or, or_false, false_or, not_true_eq_false, not_false_eq_true, h78x, r_fine0 h26, hh, hid, h25, r_wrong0 h26, hfi]
    rw [hfu k (by omega), he, lp_ou hstep]
    rfl
  · obtain ⟨st, ⟨Mx, rfl, hf, h25, hdg⟩, he⟩ := hpre k (by omega) hok
    obtain ⟨htx, h26, h78x, hLx⟩ := hstate Mx hf
    have hb := hbound k (by omega) (fun j hj => (hok j (by omega)).1)
    obtain ⟨b, b1, b2⟩ := r_J38 (L := L) hw hc hP5 hk htx h26 h25 (fun j hj => by
      by_cases z : j = k
      · rw [z]; exact hd
      · exact (hok j (by omega)).1) (by omega) h78x (fun z => hLx z k hk) hdg
    have hbf : b = false := by
      cases b with
      | false => rfl
      | true => exact absurd (b2.mp rfl) hno
    rw [hbf, r_J124 (M := me_s Mx (133 + 3 * c + w) k (nI (dd9 F so p k))) (q := p + k) (by rw [me_s_ne (by omega)]; exact h26) (by rw [me_s_ne (by omega)]; exact h25), if_neg (by decide)] at b1
    have hh := r_here htx (p := p + k) (by omega) h25
    have hid := r_isDig (so := so) (p := p + k) hF
    rw [hd, bI_t] at hid
    have hstep : mX12_readsRow_63_101_L2 (101 + c) (nI w) (nI k, Mx) = some (.inl (nI (k + 1), me_s (me_s (me_s (me_s Mx (133 + 3 * c + w) k (nI (dd9 F so p k))) 63 26 (nI 2)) 63 27 (nI (p + k))) 63 25 (nI (p + k + 1)))) := by
      simp only [mX12_readsRow_63_101_L2]
      simp (disch := omega) only [Option.bind_some, if_true, if_false, Sum.elim_inl, Sum.elim_inr, li0, li1, li2, li3, li4, li5, li6, li7, li8, li9, li10, li12, li16, li20, li24, li25, li31, li32, li40, li41, li42, li48, li57, li59, li97, li104, li105, li124, li126, li240, li241, nI_add, nI_subc, nI_subm, nI_mulc, nI_nm, pu_r, pu_t, pu_a, pu_le_t, pu_le_f, pu_lt_t, pu_lt_f, pu_eq_t, pu_eq_f, nm_eq, nm_eq2, nm_lt, nm_lt2, nm_le, nm_le2, nm_ss, nm_sp, pu_ss, pu_snq, pu_neq, eq_self, and_true, true_and, and_false, false_and, or_true, true_or, or_false, false_or, not_true_eq_false, not_false_eq_true, h78x, r_fine0 h26, hh, hid, b1]
    have hf3 : fr (fun b k => (b = 63 ∧ 25 ≤ k ∧ k ≤ 27) ∨ b = 133 + 3 * c + w) M (me_s (me_s (me_s (me_s Mx (133 + 3 * c + w) k (nI (dd9 F so p k))) 63 26 (nI 2)) 63 27 (nI (p + k))) 63 25 (nI (p + k + 1))) := ((((hf.up (fun b k h => by omega)).st (by omega)).st (by omega)).st (by omega)).st (by omega)
    have n26 : (me_s (me_s (me_s (me_s Mx (133 + 3 * c + w) k (nI (dd9 F so p k))) 63 26 (nI 2)) 63 27 (nI (p + k))) 63 25 (nI (p + k + 1))).1 63 26 = nI 2 := by simp (disch := omega) only [Option.bind_some, if_true, if_false, Sum.elim_inl, Sum.elim_inr, li0, li1, li2, li3, li4, li5, li6, li7, li8, li9, li10, li12, li16, li20, li24, li25, li31, li32, li40, li41, li42, li48, li57, li59, li97, li104, li105, li124, li126, li240, li241, nI_add, nI_subc, nI_subm, nI_mulc, nI_nm, pu_r, pu_t, pu_a, pu_le_t, pu_le_f, pu_lt_t, pu_lt_f, pu_eq_t, pu_eq_f, nm_eq, nm_eq2, nm_lt, nm_lt2, nm_le, nm_le2, nm_ss, nm_sp, pu_ss, pu_snq, pu_neq, eq_self, and_true, true_and, and_false, false_and, or_true, true_or, or_false, false_or, not_true_eq_false, not_false_eq_true]
    have n27 : (me_s (me_s (me_s (me_s Mx (133 + 3 * c + w) k (nI (dd9 F so p k))) 63 26 (nI 2)) 63 27 (nI (p + k))) 63 25 (nI (p + k + 1))).1 63 27 = nI (p + k) := by simp (disch := omega) only [Option.bind_some, if_true, if_false, Sum.elim_inl, Sum.elim_inr, li0, li1, li2, li3, li4, li5, li6, li7, li8, li9, li10, li12, li16, li20, li24, li25, li31, li32, li40, li41, li42, li48, li57, li59, li97, li104, li105, li124, li126, li240, li241, nI_add, nI_subc, nI_subm, nI_mulc, nI_nm, pu_r, pu_t, pu_a, pu_le_t, pu_le_f, pu_lt_t, pu_lt_f, pu_eq_t, pu_eq_f, nm_eq, nm_eq2, nm_lt, nm_lt2, nm_le, nm_le2, nm_ss, nm_sp, pu_ss, pu_snq, pu_neq, eq_self, and_true, true_and, and_false, false_and, or_true, true_or, or_false, false_or, not_true_eq_false, not_false_eq_true]
    have n25 : (me_s (me_s (me_s (me_s Mx (133 + 3 * c + w) k (nI (dd9 F so p k))) 63 26 (nI 2)) 63 27 (nI (p + k))) 63 25 (nI (p + k + 1))).1 63 25 = nI (p + k + 1) := pu_ss
    generalize me_s (me_s (me_s (me_s Mx (133 + 3 * c + w) k (nI (dd9 F so p k))) 63 26 (nI 2)) 63 27 (nI (p + k))) 63 25 (nI (p + k + 1)) = N at *
    have htn : rT F so N := ht.fr hf3 (by omega) (fun k => by omega)
    have n78 : N.1 78 1 = nI P := by rw [hf3.2 _ _ (by omega)]; exact h78
    have hstep2 : mX12_readsRow_63_101_L2 (101 + c) (nI w) (nI (k + 1), N) = some (.inr (.inl N)) := by
      simp only [mX12_readsRow_63_101_L2]
      by_cases z : P ≤ k + 1
      · simp (disch := omega) only [Option.bind_some, if_true, if_false, Sum.elim_inl, Sum.elim_inr, li0, li1, li2, li3, li4, li5, li6, li7, li8, li9, li10, li12, li16, li20, li24, li25, li31, li32, li40, li41, li42, li48, li57, li59, li97, li104, li105, li124, li126, li240, li241, nI_add, nI_subc, nI_subm, nI_mulc, nI_nm, pu_r, pu_t, pu_a, pu_le_t, pu_le_f, pu_lt_t, pu_lt_f, pu_eq_t, pu_eq_f, nm_eq, nm_eq2, nm_lt, nm_lt2, nm_le, nm_le2, nm_ss, nm_sp, pu_ss, pu_snq, pu_neq, eq_self, and_true, true_and, and_false, false_and, or_true, true_or, or_false, false_or, not_true_eq_false, not_false_eq_true, n78]
      · simp (disch := omega) only [Option.bind_some, if_true, if_false, Sum.elim_inl, Sum.elim_inr, li0, li1, li2, li3, li4, li5, li6, li7, li8, li9, li10, li12, li16, li20, li24, li25, li31, li32, li40, li41, li42, li48, li57, li59, li97, li104, li105, li124, li126, li240, li241, nI_add, nI_subc, nI_subm, nI_mulc, nI_nm, pu_r, pu_t, pu_a, pu_le_t, pu_le_f, pu_lt_t, pu_lt_f, pu_eq_t, pu_eq_f, nm_eq, nm_eq2, nm_lt, nm_lt2, nm_le, nm_le2, nm_ss, nm_sp, pu_ss, pu_snq, pu_neq, eq_self, and_true, true_and, and_false, false_and, or_true, true_or, or_false, false_or, not_true_eq_false, not_false_eq_true, n78, r_fine1 n26 (by omega) (by omega)]
    refine ⟨N, ?_, hf3, ⟨n26, n27, by omega, by omega, p + k + 1, by omega, n25⟩, fun z => by cases z⟩
    rw [hfu k (by omega), he, lp_in hstep, lp_ou hstep2, Option.bind_some, Sum.elim_inl, r_here htn (p := p + k + 1) (by omega) n25, Option.bind_some, r_isDig hF, Option.bind_some]
    cases dg9 F so (p + k + 1) with
    | false => rw [bI_f]; simp (disch := omega) only [Option.bind_some, if_true, if_false, Sum.elim_inl, Sum.elim_inr, li0, li1, li2, li3, li4, li5, li6, li7, li8, li9, li10, li12, li16, li20, li24, li25, li31, li32, li40, li41, li42, li48, li57, li59, li97, li104, li105, li124, li126, li240, li241, nI_add, nI_subc, nI_subm, nI_mulc, nI_nm, pu_r, pu_t, pu_a, pu_le_t, pu_le_f, pu_lt_t, pu_lt_f, pu_eq_t, pu_eq_f, nm_eq, nm_eq2, nm_lt, nm_lt2, nm_le, nm_le2, nm_ss, nm_sp, pu_ss, pu_snq, pu_neq, eq_self, and_true, true_and, and_false, false_and, or_true, true_or, or_false, false_or, not_true_eq_false, not_false_eq_true]
    | true => rw [bI_t]; simp (disch := omega) only [Option.bind_some, if_true, if_false, Sum.elim_inl, Sum.elim_inr, li0, li1, li2, li3, li4, li5, li6, li7, li8, li9, li10, li12, li16, li20, li24, li25, li31, li32, li40, li41, li42, li48, li57, li59, li97, li104, li105, li124, li126, li240, li241, nI_add, nI_subc, nI_subm, nI_mulc, nI_nm, pu_r, pu_t, pu_a, pu_le_t, pu_le_f, pu_lt_t, pu_lt_f, pu_eq_t, pu_eq_f, nm_eq, nm_eq2, nm_lt, nm_lt2, nm_le, nm_le2, nm_ss, nm_sp, pu_ss, pu_snq, pu_neq, eq_self, and_true, true_and, and_false, false_and, or_true, true_or, or_false, false_or, not_true_eq_false, not_false_eq_true, r_wrong1 n26 (by omega) (by omega)]
  · obtain ⟨st, ⟨Mx, rfl, hf, h25, hdg⟩, he⟩ := hpre P (Nat.le_refl _) hok
    obtain ⟨htx, h26, h78x, hLx⟩ := hstate Mx hf
    have hb := hbound P (Nat.le_refl _) (fun j hj => (hok j hj).1)
    have hstep : mX12_readsRow_63_101_L2 (101 + c) (nI w) (nI P, Mx) = some (.inr (.inl Mx)) := by
      simp only [mX12_readsRow_63_101_L2]
      simp (disch := omega) only [Option.bind_some, if_true, if_false, Sum.elim_inl, Sum.elim_inr, li0, li1, li2, li3, li4, li5, li6, li7, li8, li9, li10, li12, li16, li20, li24, li25, li31, li32, li40, li41, li42, li48, li57, li59, li97, li104, li105, li124, li126, li240, li241, nI_add, nI_subc, nI_subm, nI_mulc, nI_nm, pu_r, pu_t, pu_a, pu_le_t, pu_le_f, pu_lt_t, pu_lt_f, pu_eq_t, pu_eq_f, nm_eq, nm_eq2, nm_lt, nm_lt2, nm_le, nm_le2, nm_ss, nm_sp, pu_ss, pu_snq, pu_neq, eq_self, and_true, true_and, and_false, false_and, or_true, true_or, or_false, false_or, not_true_eq_false, not_false_eq_true, h78x]
    rw [hfu P (by omega), he, lp_ou hstep, Option.bind_some, Sum.elim_inl, r_here htx (p := p + P) (by omega) h25, Option.bind_some, r_isDig hF, Option.bind_some]
    rcases hlast with ⟨hd, rfl⟩ | ⟨hd, rfl⟩
    · rw [hd, bI_t]
      refine ⟨me_s (me_s Mx 63 26 (nI 1)) 63 27 (nI (p + P)), ?_, ((hf.up (fun b k h => by omega)).st (by omega)).st (by omega), ⟨by simp (disch := omega) only [Option.bind_some, if_true, if_false, Sum.elim_inl, Sum.elim_inr, li0, li1, li2, li3, li4, li5, li6, li7, li8, li9, li10, li12, li16, li20, li24, li25, li31, li32, li40, li41, li42, li48, li57, li59, li97, li104, li105, li124, li126, li240, li241, nI_add, nI_subc, nI_subm, nI_mulc, nI_nm, pu_r, pu_t, pu_a, pu_le_t, pu_le_f, pu_lt_t, pu_lt_f, pu_eq_t, pu_eq_f, nm_eq, nm_eq2, nm_lt, nm_lt2, nm_le, nm_le2, nm_ss, nm_sp, pu_ss, pu_snq, pu_neq, eq_self, and_true, true_and, and_false, false_and, or_true, true_or, or_false, false_or, not_true_eq_false, not_false_eq_true], by simp (disch := omega) only [Option.bind_some, if_true, if_false, Sum.elim_inl, Sum.elim_inr, li0, li1, li2, li3, li4, li5, li6, li7, li8, li9, li10, li12, li16, li20, li24, li25, li31, li32, li40, li41, li42, li48, li57, li59, li97, li104, li105, li124, li126, li240, li241, nI_add, nI_subc, nI_subm, nI_mulc, nI_nm, pu_r, pu_t, pu_a, pu_le_t, pu_le_f, pu_lt_t, pu_lt_f, pu_eq_t, pu_eq_f, nm_eq, nm_eq2, nm_lt, nm_lt2, nm_le, nm_le2, nm_ss, nm_sp, pu_ss, pu_snq, pu_neq, eq_self, and_true, true_and, and_false, false_and, or_true, true_or, or_false, false_or, not_true_eq_false, not_false_eq_true], by omega, by omega, p + P, by omega, by rw [pu_sn (by decide), pu_sn (by decide)]; exact h25⟩, fun z => by cases z⟩
      simp (disch := omega) only [Option.bind_some, if_true, if_false, Sum.elim_inl, Sum.elim_inr, li0, li1, li2, li3, li4, li5, li6, li7, li8, li9, li10, li12, li16, li20, li24, li25, li31, li32, li40, li41, li42, li48, li57, li59, li97, li104, li105, li124, li126, li240, li241, nI_add, nI_subc, nI_subm, nI_mulc, nI_nm, pu_r, pu_t, pu_a, pu_le_t, pu_le_f, pu_lt_t, pu_lt_f, pu_eq_t, pu_eq_f, nm_eq, nm_eq2, nm_lt, nm_lt2, nm_le, nm_le2, nm_ss, nm_sp, pu_ss, pu_snq, pu_neq, eq_self, and_true, true_and, and_false, false_and, or_true, true_or, or_false, false_or, not_true_eq_false, not_false_eq_true, r_wrong0 h26, h25]
    · rw [hd, bI_f]
      refine ⟨Mx, ?_, hf.up (fun b k h => by omega), ⟨h26, by rw [hf.2 _ _ (by omega)]; exact q27, h25⟩, fun _ => hdg⟩
      simp (disch := omega) only [Option.bind_some, if_true, if_false, Sum.elim_inl, Sum.elim_inr, li0, li1, li2, li3, li4, li5, li6, li7, li8, li9, li10, li12, li16, li20, li24, li25, li31, li32, li40, li41, li42, li48, li57, li59, li97, li104, li105, li124, li126, li240, li241, nI_add, nI_subc, nI_subm, nI_mulc, nI_nm, pu_r, pu_t, pu_a, pu_le_t, pu_le_f, pu_lt_t, pu_lt_f, pu_eq_t, pu_eq_f, nm_eq, nm_eq2, nm_lt, nm_lt2, nm_le, nm_le2, nm_ss, nm_sp, pu_ss, pu_snq, pu_neq, eq_self, and_true, true_and, and_false, false_and, or_true, true_or, or_false, false_or, not_true_eq_false, not_false_eq_true]
