/-! ===== shares: vectors as numbers ===== -/
/-- the i-th digit of v to the base B -/
def dg (B : Nat) : Nat → Nat → Nat
  | v, 0 => v % B
  | v, i + 1 => dg B (v / B) i
/-- the sum of its first P digits -/
def sg9 (B : Nat) : Nat → Nat → Nat
  | _, 0 => 0
  | v, P + 1 => v % B + sg9 B (v / B) P
theorem dg_0 (B v : Nat) : dg B v 0 = v % B := by unfold dg; rfl
theorem dg_s (B v i : Nat) : dg B v (i + 1) = dg B (v / B) i := by rw [dg]
theorem sg9_0 (B v : Nat) : sg9 B v 0 = 0 := by unfold sg9; rfl
theorem sg9_s (B v P : Nat) : sg9 B v (P + 1) = v % B + sg9 B (v / B) P := by rw [sg9]
theorem dg_div (B : Nat) : ∀ i v, dg B v i = v / B ^ i % B
  | 0, v => by rw [dg_0, Nat.pow_zero, Nat.div_one]
  | i + 1, v => by rw [dg_s, dg_div B i, Nat.div_div_eq_div_mul, Nat.pow_succ, Nat.mul_comm]
theorem sg9_sm (B : Nat) : ∀ P v, sg9 B v P = sm9 (fun i => dg B v i) P
  | 0, v => by rw [sg9_0]; rfl
  | P + 1, v => by
    have h : ∀ Q, sm9 (fun i => dg B v i) (Q + 1) = v % B + sm9 (fun i => dg B (v / B) i) Q := fun Q => by
      induction Q with
      | zero => show 0 + dg B v 0 = _ + 0; rw [dg_0]; omega
      | succ Q ih => rw [sm9_s, ih, sm9_s, dg_s]; omega
    rw [sg9_s, sg9_sm B P, h P]
theorem dg_lt {B v i : Nat} (hB : 0 < B) : dg B v i < B := by rw [dg_div]; exact Nat.mod_lt _ hB
theorem pw_s (B P : Nat) : B ^ (P + 1) = B * B ^ P := by rw [Nat.pow_succ, Nat.mul_comm]
/-- the next one, where the first x parts are full -/
theorem nx_ok {b : Nat} : ∀ x P v, x < P → v < (b + 1) ^ P → (∀ y, y < x → sg9 (b + 1) (v / (b + 1) ^ y) (P - y) = b) → sg9 (b + 1) (v / (b + 1) ^ x) (P - x) < b → ∃ v', v < v' ∧ v' < (b + 1) ^ P ∧ sg9 (b + 1) v' P = sg9 (b + 1) (v / (b + 1) ^ x) (P - x) + 1 ∧ (∀ w, v < w → w < v' → b < sg9 (b + 1) w P) ∧ (∀ i, i < x → dg (b + 1) v' i = 0) ∧ dg (b + 1) v' x = dg (b + 1) v x + 1 ∧ ∀ i, x < i → dg (b + 1) v' i = dg (b + 1) v i
  | 0, P, v, hP, hv, _, hlt => by
    rw [Nat.pow_zero, Nat.div_one, Nat.sub_zero] at hlt
    obtain ⟨Q, rfl⟩ : ∃ Q, P = Q + 1 := ⟨P - 1, by omega⟩
    have hs := sg9_s (b + 1) v Q
    have hd := Nat.div_add_mod v (b + 1)
    have hm := Nat.mod_lt v (show 0 < b + 1 by omega)
    have e1 : (v + 1) % (b + 1) = v % (b + 1) + 1 := by
      rw [show v + 1 = (v % (b + 1) + 1) + (b + 1) * (v / (b + 1)) by omega, Nat.add_mul_mod_self_left, Nat.mod_eq_of_lt (by omega)]
    have e2 : (v + 1) / (b + 1) = v / (b + 1) := by
      have h1 := Nat.div_add_mod (v + 1) (b + 1)
      rw [e1] at h1
      have h3 : (b + 1) * ((v + 1) / (b + 1)) = (b + 1) * (v / (b + 1)) := by omega
      exact Nat.eq_of_mul_eq_mul_left (by omega) h3
    refine ⟨v + 1, by omega, ?_, ?_, fun w h1 h2 => by omega, fun i hi => absurd hi (Nat.not_lt_zero _), ?_, fun i hi => ?_⟩
    · rw [pw_s] at hv ⊢
      have h1 : v / (b + 1) < (b + 1) ^ Q := Nat.div_lt_of_lt_mul hv
      have h2 : (b + 1) * (v / (b + 1) + 1) ≤ (b + 1) * (b + 1) ^ Q := Nat.mul_le_mul_left _ h1
      rw [Nat.mul_add] at h2
      omega
    · rw [Nat.pow_zero, Nat.div_one, Nat.sub_zero, sg9_s, e1, e2, hs]; omega
    · rw [dg_0, dg_0, e1]
    · obtain ⟨i', rfl⟩ : ∃ i', i = i' + 1 := ⟨i - 1, by omega⟩
      rw [dg_s, dg_s, e2]
  | x + 1, P, v, hP, hv, hful, hlt => by
    obtain ⟨Q, rfl⟩ : ∃ Q, P = Q + 1 := ⟨P - 1, by omega⟩
    have hdd : ∀ y, v / (b + 1) / (b + 1) ^ y = v / (b + 1) ^ (y + 1) := fun y => by rw [Nat.div_div_eq_div_mul, pw_s]
    have hu : v / (b + 1) < (b + 1) ^ Q := by rw [pw_s] at hv; exact Nat.div_lt_of_lt_mul hv
    obtain ⟨u', a1, a2, a3, a4, a5, a6, a7⟩ := nx_ok (b := b) x Q (v / (b + 1)) (by omega) hu (fun y hy => by rw [hdd, show Q - y = Q + 1 - (y + 1) by omega]; exact hful (y + 1) (by omega)) (by rw [hdd, show Q - x = Q + 1 - (x + 1) by omega]; exact hlt)
    have hd := Nat.div_add_mod v (b + 1)
    have hm := Nat.mod_lt v (show 0 < b + 1 by omega)
    have e1 : ((b + 1) * u') % (b + 1) = 0 := Nat.mul_mod_right _ _
    have e2 : ((b + 1) * u') / (b + 1) = u' := Nat.mul_div_cancel_left _ (by omega)
    have h0 := hful 0 (by omega)
    rw [Nat.pow_zero, Nat.div_one, Nat.sub_zero, sg9_s] at h0
    refine ⟨(b + 1) * u', ?_, ?_, ?_, fun w w1 w2 => ?_, fun i hi => ?_, ?_, fun i hi => ?_⟩
    · have : (b + 1) * (v / (b + 1) + 1) ≤ (b + 1) * u' := Nat.mul_le_mul_left _ a1
      rw [Nat.mul_add] at this
      omega
    · rw [pw_s]; exact Nat.mul_lt_mul_of_pos_left a2 (by omega)
    · rw [sg9_s, e1, e2, a3, hdd, show Q - x = Q + 1 - (x + 1) by omega]; omega
    · rw [sg9_s]
      have hwd := Nat.div_add_mod w (b + 1)
      have hwu : w / (b + 1) < u' := Nat.div_lt_of_lt_mul w2
      rcases Nat.lt_or_ge (v / (b + 1)) (w / (b + 1)) with z | z
      · have := a4 _ z hwu; omega
      · have hle : v / (b + 1) ≤ w / (b + 1) := Nat.div_le_div_right (by omega)
        have he : w / (b + 1) = v / (b + 1) := by omega
        rw [he] at hwd ⊢
        omega
    · match i with
      | 0 => rw [dg_0, e1]
      | i + 1 => rw [dg_s, e2]; exact a5 i (by omega)
    · rw [dg_s, dg_s, e2]; exact a6
    · obtain ⟨i', rfl⟩ : ∃ i', i = i' + 1 := ⟨i - 1, by omega⟩
      rw [dg_s, dg_s, e2]; exact a7 i' (by omega)
theorem nx_no {b : Nat} : ∀ P v, v < (b + 1) ^ P → (∀ y, y < P → sg9 (b + 1) (v / (b + 1) ^ y) (P - y) = b) → ∀ w, v < w → w < (b + 1) ^ P → b < sg9 (b + 1) w P
  | 0, v, hv, _, w, w1, w2 => by rw [Nat.pow_zero] at w2; omega
  | P + 1, v, hv, hful, w, w1, w2 => by
    have hdd : ∀ y, v / (b + 1) / (b + 1) ^ y = v / (b + 1) ^ (y + 1) := fun y => by rw [Nat.div_div_eq_div_mul, pw_s]
    have hu : v / (b + 1) < (b + 1) ^ P := by rw [pw_s] at hv; exact Nat.div_lt_of_lt_mul hv
    have hwu : w / (b + 1) < (b + 1) ^ P := by rw [pw_s] at w2; exact Nat.div_lt_of_lt_mul w2
    have h0 := hful 0 (by omega)
    rw [Nat.pow_zero, Nat.div_one, Nat.sub_zero, sg9_s] at h0
    have hd := Nat.div_add_mod v (b + 1)
    have hwd := Nat.div_add_mod w (b + 1)
    rw [sg9_s]
    rcases Nat.lt_or_ge (v / (b + 1)) (w / (b + 1)) with z | z
    · have := nx_no (b := b) P (v / (b + 1)) hu (fun y hy => by rw [hdd, show P - y = P + 1 - (y + 1) by omega]; exact hful (y + 1) (by omega)) _ z hwu
      omega
    · have hle : v / (b + 1) ≤ w / (b + 1) := Nat.div_le_div_right (by omega)
      have he : w / (b + 1) = v / (b + 1) := by omega
      rw [he] at hwd ⊢
      omega
theorem sg9_x {B : Nat} : ∀ x P v, x < P → sg9 B (v / B ^ x) (P - x) = dg B v x + sg9 B (v / B ^ (x + 1)) (P - (x + 1)) := fun x P v h => by
  obtain ⟨q, hq⟩ : ∃ q, P - x = q + 1 := ⟨P - x - 1, by omega⟩
  rw [hq, sg9_s, dg_div, Nat.div_div_eq_div_mul, ← Nat.pow_succ, show P - (x + 1) = q by omega]
/-- the shares of a budget -/
def okv (b P v : Nat) : Bool := decide (sg9 (b + 1) v P ≤ b)
set_option maxRecDepth 100000 in
theorem ok_126 : ∀ b, b < 5 → ∀ P, P < 6 → ct (okv b P) ((b + 1) ^ P) ≤ 126 := by decide +kernel
/-- whether a search covers a share -/
def cov (B P : Nat) (D : Nat → Nat → Nat → Nat) (v s : Nat) : Bool := decide (∀ k, k < P → D s 1 k ≤ sm9 (fun j => dg B v (D s 0 j)) (k + 1) ∧ sm9 (fun j => dg B v (D s 0 j)) (k + 1) ≤ D s 2 k)
theorem sm9_bd {f : Nat → Nat} {c : Nat} : ∀ k, (∀ j, j < k → f j ≤ c) → sm9 f k ≤ k * c
  | 0, _ => Nat.zero_le _
  | k + 1, h => by
    have h1 := sm9_bd (f := f) (c := c) k (fun j hj => h j (by omega))
    have h2 := h k (by omega)
    rw [sm9_s, Nat.add_mul]; omega
theorem c_covers {ob od le mo sh S P b v s : Nat} {D : Nat → Nat → Nat → Nat} {M : me_M} (hb : b ≤ 4) (hS : S ≤ 8) (hP5 : P ≤ 5) (hs : s < S) (hok : okd P (D s)) (h5 : M.1 ob 5 = nI P) (h0 : ∀ k, k < P → M.1 od (s * 5 + k) = nI (D s 0 k)) (h1 : ∀ k, k < P → M.1 le (s * 5 + k) = nI (D s 1 k)) (h2 : ∀ k, k < P → M.1 mo (s * 5 + k) = nI (D s 2 k)) (hv : ∀ i, i < P → M.1 sh i = nI (dg (b + 1) v i)) : gX5_covers ob od le mo sh M (nI s) = some (bI (cov (b + 1) P D v s)) := by
  have hdb : ∀ j, dg (b + 1) v j ≤ 4 := fun j => by have := dg_lt (v := v) (i := j) (show 0 < b + 1 by omega); omega
  obtain ⟨r, e, hr⟩ := lp_up (b := gX5_covers_L4 ob od le mo sh M (nI s)) (fun x st => st = (nI (sm9 (fun j => dg (b + 1) v (D s 0 j)) x), nI x) ∧ ∀ k, k < x → D s 1 k ≤ sm9 (fun j => dg (b + 1) v (D s 0 j)) (k + 1) ∧ sm9 (fun j => dg (b + 1) v (D s 0 j)) (k + 1) ≤ D s 2 k) (fun r => (r = .inl () ∧ cov (b + 1) P D v s = true) ∨ (r = .inr (nI 0) ∧ cov (b + 1) P D v s = false)) (a := 0) (N := P) (by omega) (by omega) (fun x st _ hx hst => by
    obtain ⟨rfl, hI⟩ := hst
    have o1 := hok.1 x hx
    have o2 := hok.2.2.2.1 x hx
    have q0 := h0 x hx
    have q1 := h1 x hx
    have q2 := h2 x hx
    have q3 := hv (D s 0 x) o1
    have q4 := hdb (D s 0 x)
    have q5 : sm9 (fun j => dg (b + 1) v (D s 0 j)) x ≤ x * 4 := sm9_bd x (fun j _ => hdb _)
    have q6 := sm9_s (fun j => dg (b + 1) v (D s 0 j)) x
    simp only [gX5_covers_L4]
    by_cases c : D s 1 x ≤ sm9 (fun j => dg (b + 1) v (D s 0 j)) x + dg (b + 1) v (D s 0 x)
    · by_cases d : sm9 (fun j => dg (b + 1) v (D s 0 j)) x + dg (b + 1) v (D s 0 x) ≤ D s 2 x
      · left
        refine ⟨_, ?_, rfl, all_s.mpr ⟨hI, by rw [q6]; exact ⟨c, d⟩⟩⟩
        simp (disch := omega) only [Option.bind_some, if_true, if_false, Sum.elim_inl, Sum.elim_inr, li0, li1, li2, li3, li4, li5, li6, li7, li8, li9, li10, li12, li16, li20, li24, li25, li31, li32, li40, li41, li42, li48, li57, li59, li97, li104, li105, li124, li126, li240, li241, nI_add, nI_subc, nI_subm, nI_mulc, nI_nm, pu_r, pu_t, pu_a, pu_le_t, pu_le_f, pu_lt_t, pu_lt_f, pu_eq_t, pu_eq_f, nm_eq, nm_eq2, nm_lt, nm_lt2, nm_le, nm_le2, nm_ss, nm_sp, pu_ss, pu_snq, pu_neq, eq_self, and_true, true_and, and_false, false_and, or_true, true_or, or_false, false_or, not_true_eq_false, not_false_eq_true, h5, q0, q1, q2, q3, sm9_s]
      · right
        refine ⟨.inr (nI 0), ?_, Or.inr ⟨rfl, decide_eq_false (fun z => d (by have := (z x hx).2; rw [q6] at this; exact this))⟩⟩
        simp (disch := omega) only [Option.bind_some, if_true, if_false, Sum.elim_inl, Sum.elim_inr, li0, li1, li2, li3, li4, li5, li6, li7, li8, li9, li10, li12, li16, li20, li24, li25, li31, li32, li40, li41, li42, li48, li57, li59, li97, li104, li105, li124, li126, li240, li241, nI_add, nI_subc, nI_subm, nI_mulc, nI_nm, pu_r, pu_t, pu_a, pu_le_t, pu_le_f, pu_lt_t, pu_lt_f, pu_eq_t, pu_eq_f, nm_eq, nm_eq2, nm_lt, nm_lt2, nm_le, nm_le2, nm_ss, nm_sp, pu_ss, pu_snq, pu_neq, eq_self, and_true, true_and, and_false, false_and, or_true, true_or, or_false, false_or, not_true_eq_false, not_false_eq_true, h5, q0, q1, q2, q3]
    · right
      refine ⟨.inr (nI 0), ?_, Or.inr ⟨rfl, decide_eq_false (fun z => c (by have := (z x hx).1; rw [q6] at this; exact this))⟩⟩
      simp (disch := omega) only [Option.bind_some, if_true, if_false, Sum.elim_inl, Sum.elim_inr, li0, li1, li2, li3, li4, li5, li6, li7, li8, li9, li10, li12, li16, li20, li24, li25, li31, li32, li40, li41, li42, li48, li57, li59, li97, li104, li105, li124, li126, li240, li241, nI_add, nI_subc, nI_subm, nI_mulc, nI_nm, pu_r, pu_t, pu_a, pu_le_t, pu_le_f, pu_lt_t, pu_lt_f, pu_eq_t, pu_eq_f, nm_eq, nm_eq2, nm_lt, nm_lt2, nm_le, nm_le2, nm_ss, nm_sp, pu_ss, pu_snq, pu_neq, eq_self, and_true, true_and, and_false, false_and, or_true, true_or, or_false, false_or, not_true_eq_false, not_false_eq_true, h5, q0, q1, q3]) (fun st hst => by
    obtain ⟨rfl, hI⟩ := hst
    refine ⟨.inl (), ?_, Or.inl ⟨rfl, decide_eq_true hI⟩⟩
    simp only [gX5_covers_L4]
    simp (disch := omega) only [Option.bind_some, if_true, if_false, Sum.elim_inl, Sum.elim_inr, li0, li1, li2, li3, li4, li5, li6, li7, li8, li9, li10, li12, li16, li20, li24, li25, li31, li32, li40, li41, li42, li48, li57, li59, li97, li104, li105, li124, li126, li240, li241, nI_add, nI_subc, nI_subm, nI_mulc, nI_nm, pu_r, pu_t, pu_a, pu_le_t, pu_le_f, pu_lt_t, pu_lt_f, pu_eq_t, pu_eq_f, nm_eq, nm_eq2, nm_lt, nm_lt2, nm_le, nm_le2, nm_ss, nm_sp, pu_ss, pu_snq, pu_neq, eq_self, and_true, true_and, and_false, false_and, or_true, true_or, or_false, false_or, not_true_eq_false, not_false_eq_true, h5]) (s0 := (nI 0, nI 0)) ⟨rfl, fun k hk => absurd hk (Nat.not_lt_zero _)⟩
  unfold gX5_covers
  rcases hr with ⟨rfl, hr⟩ | ⟨rfl, hr⟩
  · simp (disch := omega) only [Option.bind_some, if_true, if_false, Sum.elim_inl, Sum.elim_inr, li0, li1, li2, li3, li4, li5, li6, li7, li8, li9, li10, li12, li16, li20, li24, li25, li31, li32, li40, li41, li42, li48, li57, li59, li97, li104, li105, li124, li126, li240, li241, nI_add, nI_subc, nI_subm, nI_mulc, nI_nm, pu_r, pu_t, pu_a, pu_le_t, pu_le_f, pu_lt_t, pu_lt_f, pu_eq_t, pu_eq_f, nm_eq, nm_eq2, nm_lt, nm_lt2, nm_le, nm_le2, nm_ss, nm_sp, pu_ss, pu_snq, pu_neq, eq_self, and_true, true_and, and_false, false_and, or_true, true_or, or_false, false_or, not_true_eq_false, not_false_eq_true, e, hr, bI_t]
  · simp (disch := omega) only [Option.bind_some, if_true, if_false, Sum.elim_inl, Sum.elim_inr, li0, li1, li2, li3, li4, li5, li6, li7, li8, li9, li10, li12, li16, li20, li24, li25, li31, li32, li40, li41, li42, li48, li57, li59, li97, li104, li105, li124, li126, li240, li241, nI_add, nI_subc, nI_subm, nI_mulc, nI_nm, pu_r, pu_t, pu_a, pu_le_t, pu_le_f, pu_lt_t, pu_lt_f, pu_eq_t, pu_eq_f, nm_eq, nm_eq2, nm_lt, nm_lt2, nm_le, nm_le2, nm_ss, nm_sp, pu_ss, pu_snq, pu_neq, eq_self, and_true, true_and, and_false, false_and, or_true, true_or, or_false, false_or, not_true_eq_false, not_false_eq_true, e, hr, bI_f]
def cvS (B P S : Nat) (D : Nat → Nat → Nat → Nat) (v s : Nat) : Bool := decide (s < S) && cov B P D v s
/-- a scheme of the class stands -/
def sch (ob od le mo S P : Nat) (D : Nat → Nat → Nat → Nat) (M : me_M) : Prop := M.1 ob 4 = nI S ∧ M.1 ob 5 = nI P ∧ (∀ s k, s < S → k < P → M.1 od (s * 5 + k) = nI (D s 0 k)) ∧ (∀ s k, s < S → k < P → M.1 le (s * 5 + k) = nI (D s 1 k)) ∧ ∀ s k, s < S → k < P → M.1 mo (s * 5 + k) = nI (D s 2 k)
theorem sch.fr {ob od le mo S P : Nat} {D : Nat → Nat → Nat → Nat} {Z : Nat → Nat → Prop} {M M' : me_M} (h : sch ob od le mo S P D M) (hx : fr Z M M') (h1 : ¬ Z ob 4) (h2 : ¬ Z ob 5) (h3 : ∀ k, ¬ Z od k) (h4 : ∀ k, ¬ Z le k) (h5 : ∀ k, ¬ Z mo k) : sch ob od le mo S P D M' := ⟨by rw [hx.2 _ _ h1]; exact h.1, by rw [hx.2 _ _ h2]; exact h.2.1, fun s k a b => by rw [hx.2 _ _ (h3 _)]; exact h.2.2.1 s k a b, fun s k a b => by rw [hx.2 _ _ (h4 _)]; exact h.2.2.2.1 s k a b, fun s k a b => by rw [hx.2 _ _ (h5 _)]; exact h.2.2.2.2 s k a b⟩
theorem c_bits {ob od le mo sh S P b v : Nat} {D : Nat → Nat → Nat → Nat} {M : me_M} (hb : b ≤ 4) (hS : S ≤ 8) (hP5 : P ≤ 5) (hok : ∀ s, s < S → okd P (D s)) (hM : sch ob od le mo S P D M) (hv : ∀ i, i < P → M.1 sh i = nI (dg (b + 1) v i)) : gX5_coveringBits ob od le mo sh M = some (nI (bt (cvS (b + 1) P S D v) 8)) := by
  have hl : me_l (gX5_coveringBits_L4 ob od le mo sh M) me_fu (nI 0, nI 0) = some (nI (bt (cvS (b + 1) P S D v) 8)) := by
    have := lp_to (b := gX5_coveringBits_L4 ob od le mo sh M) (fun x => (nI (bt (fun s => decide (s < x) && cvS (b + 1) P S D v s) 8), nI x)) (a := 0) (N := S) (r := nI (bt (cvS (b + 1) P S D v) 8)) (by omega) (by omega) (fun x _ hx => ?_) ?_
    · rw [bt_congr (P := fun s => decide (s < 0) && cvS (b + 1) P S D v s) (Q := fun _ => false) 8 (fun i _ => by rw [decide_eq_false (Nat.not_lt_zero _), Bool.false_and])] at this
      exact this
    · simp only [gX5_coveringBits_L4, gX5_coveringBits_J26]
      have hc := c_covers (ob := ob) (od := od) (le := le) (mo := mo) (sh := sh) (M := M) hb hS hP5 hx (hok x hx) hM.2.1 (fun k hk => hM.2.2.1 x k hx hk) (fun k hk => hM.2.2.2.1 x k hx hk) (fun k hk => hM.2.2.2.2 x k hx hk) hv
      have h4 := hM.1
      cases hcv : cov (b + 1) P D v x with
      | true =>
        rw [hcv, bI_t] at hc
        have e : nI (bt (fun s => decide (s < x) && cvS (b + 1) P S D v s) 8) ||| (nI 1 <<< (nI x &&& nI 31)) = nI (bt (fun s => decide (s < x + 1) && cvS (b + 1) P S D v s) 8) := by
          rw [bt_or _ (by omega)]
          congr 1
          refine bt_congr 8 (fun i _ => ?_)
          by_cases z : i = x
          · subst z
            have : cvS (b + 1) P S D v i = true := by unfold cvS; rw [decide_eq_true hx, hcv]; rfl
            rw [this, decide_eq_true (show i = i from rfl), decide_eq_true (show i < i + 1 by omega), Bool.or_true]; rfl
          · rw [decide_eq_false z, Bool.or_false]
            by_cases y : i < x
            · rw [decide_eq_true y, decide_eq_true (show i < x + 1 by omega)]
            · rw [decide_eq_false y, decide_eq_false (show ¬ i < x + 1 by omega)]
        simp (disch := omega) only [Option.bind_some, if_true, if_false, Sum.elim_inl, Sum.elim_inr, li0, li1, li2, li3, li4, li5, li6, li7, li8, li9, li10, li12, li16, li20, li24, li25, li31, li32, li40, li41, li42, li48, li57, li59, li97, li104, li105, li124, li126, li240, li241, nI_add, nI_subc, nI_subm, nI_mulc, nI_nm, pu_r, pu_t, pu_a, pu_le_t, pu_le_f, pu_lt_t, pu_lt_f, pu_eq_t, pu_eq_f, nm_eq, nm_eq2, nm_lt, nm_lt2, nm_le, nm_le2, nm_ss, nm_sp, pu_ss, pu_snq, pu_neq, eq_self, and_true, true_and, and_false, false_and, or_true, true_or, or_false, false_or, not_true_eq_false, not_false_eq_true, h4, hc, e]
      | false =>
        rw [hcv, bI_f] at hc
        have e : bt (fun s => decide (s < x + 1) && cvS (b + 1) P S D v s) 8 = bt (fun s => decide (s < x) && cvS (b + 1) P S D v s) 8 := by
          refine bt_congr 8 (fun i _ => ?_)
          by_cases z : i = x
          · subst z
            have : cvS (b + 1) P S D v i = false := by unfold cvS; rw [hcv, Bool.and_false]
            rw [this, Bool.and_false, Bool.and_false]
          · by_cases y : i < x
            · rw [decide_eq_true y, decide_eq_true (show i < x + 1 by omega)]
            · rw [decide_eq_false y, decide_eq_false (show ¬ i < x + 1 by omega)]
        simp (disch := omega) only [Option.bind_some, if_true, if_false, Sum.elim_inl, Sum.elim_inr, li0, li1, li2, li3, li4, li5, li6, li7, li8, li9, li10, li12, li16, li20, li24, li25, li31, li32, li40, li41, li42, li48, li57, li59, li97, li104, li105, li124, li126, li240, li241, nI_add, nI_subc, nI_subm, nI_mulc, nI_nm, pu_r, pu_t, pu_a, pu_le_t, pu_le_f, pu_lt_t, pu_lt_f, pu_eq_t, pu_eq_f, nm_eq, nm_eq2, nm_lt, nm_lt2, nm_le, nm_le2, nm_ss, nm_sp, pu_ss, pu_snq, pu_neq, eq_self, and_true, true_and, and_false, false_and, or_true, true_or, or_false, false_or, not_true_eq_false, not_false_eq_true, h4, hc, e]
    · simp only [gX5_coveringBits_L4]
      have e : bt (fun s => decide (s < S) && cvS (b + 1) P S D v s) 8 = bt (cvS (b + 1) P S D v) 8 := bt_congr 8 (fun i _ => by
        unfold cvS
        cases decide (i < S) <;> rfl)
      simp (disch := omega) only [Option.bind_some, if_true, if_false, Sum.elim_inl, Sum.elim_inr, li0, li1, li2, li3, li4, li5, li6, li7, li8, li9, li10, li12, li16, li20, li24, li25, li31, li32, li40, li41, li42, li48, li57, li59, li97, li104, li105, li124, li126, li240, li241, nI_add, nI_subc, nI_subm, nI_mulc, nI_nm, pu_r, pu_t, pu_a, pu_le_t, pu_le_f, pu_lt_t, pu_lt_f, pu_eq_t, pu_eq_f, nm_eq, nm_eq2, nm_lt, nm_lt2, nm_le, nm_le2, nm_ss, nm_sp, pu_ss, pu_snq, pu_neq, eq_self, and_true, true_and, and_false, false_and, or_true, true_or, or_false, false_or, not_true_eq_false, not_false_eq_true, hM.1, e]
  unfold gX5_coveringBits
  simp (disch := omega) only [Option.bind_some, if_true, if_false, Sum.elim_inl, Sum.elim_inr, li0, li1, li2, li3, li4, li5, li6, li7, li8, li9, li10, li12, li16, li20, li24, li25, li31, li32, li40, li41, li42, li48, li57, li59, li97, li104, li105, li124, li126, li240, li241, nI_add, nI_subc, nI_subm, nI_mulc, nI_nm, pu_r, pu_t, pu_a, pu_le_t, pu_le_f, pu_lt_t, pu_lt_f, pu_eq_t, pu_eq_f, nm_eq, nm_eq2, nm_lt, nm_lt2, nm_le, nm_le2, nm_ss, nm_sp, pu_ss, pu_snq, pu_neq, eq_self, and_true, true_and, and_false, false_and, or_true, true_or, or_false, false_or, not_true_eq_false, not_false_eq_true, hl]
/-- the next share, in the class -/
theorem c_next9 {ob od le mo sh P b v : Nat} {M : me_M} (hb : b ≤ 4) (hP5 : P ≤ 5) (h5 : M.1 ob 5 = nI P) (hne : ob ≠ sh) (h6 : M.1 ob 6 = nI (sg9 (b + 1) v P)) (hv : v < (b + 1) ^ P) (hsv : sg9 (b + 1) v P ≤ b) (hsh : ∀ i, i < P → M.1 sh i = nI (dg (b + 1) v i)) : (∃ v' M', gX5_nextShare ob od le mo sh M (nI b) = some (nI 1, M') ∧ fr (fun x k => (x = ob ∧ k = 6) ∨ x = sh) M M' ∧ v < v' ∧ v' < (b + 1) ^ P ∧ sg9 (b + 1) v' P ≤ b ∧ (∀ w, v < w → w < v' → b < sg9 (b + 1) w P) ∧ M'.1 ob 6 = nI (sg9 (b + 1) v' P) ∧ ∀ i, i < P → M'.1 sh i = nI (dg (b + 1) v' i)) ∨ (∃ M', gX5_nextShare ob od le mo sh M (nI b) = some (nI 0, M') ∧ fr (fun x k => (x = ob ∧ k = 6) ∨ x = sh) M M' ∧ ∀ w, v < w → w < (b + 1) ^ P → b < sg9 (b + 1) w P) := by
  have hdb : ∀ j, dg (b + 1) v j ≤ 4 := fun j => by have := dg_lt (v := v) (i := j) (show 0 < b + 1 by omega); omega
  obtain ⟨r, e, hr⟩ := lp_up (b := gX5_nextShare_L2 ob od le mo sh (nI b)) (fun x st => ∃ Mx, st = (nI x, Mx) ∧ fr (fun x k => (x = ob ∧ k = 6) ∨ x = sh) M Mx ∧ Mx.1 ob 6 = nI (sg9 (b + 1) (v / (b + 1) ^ x) (P - x)) ∧ sg9 (b + 1) (v / (b + 1) ^ x) (P - x) ≤ b ∧ (∀ y, y < x → sg9 (b + 1) (v / (b + 1) ^ y) (P - y) = b) ∧ (∀ i, i < x → Mx.1 sh i = nI 0) ∧ ∀ i, x ≤ i → i < P → Mx.1 sh i = nI (dg (b + 1) v i)) (fun r => (∃ Mx, r = .inl Mx ∧ fr (fun x k => (x = ob ∧ k = 6) ∨ x = sh) M Mx ∧ ∀ w, v < w → w < (b + 1) ^ P → b < sg9 (b + 1) w P) ∨ ∃ v' Mx, r = .inr (nI 1, Mx) ∧ fr (fun x k => (x = ob ∧ k = 6) ∨ x = sh) M Mx ∧ v < v' ∧ v' < (b + 1) ^ P ∧ sg9 (b + 1) v' P ≤ b ∧ (∀ w, v < w → w < v' → b < sg9 (b + 1) w P) ∧ Mx.1 ob 6 = nI (sg9 (b + 1) v' P) ∧ ∀ i, i < P → Mx.1 sh i = nI (dg (b + 1) v' i)) (a := 0) (N := P) (by omega) (by omega) (fun x st _ hx hst => by
    obtain ⟨Mx, rfl, hf, h6x, hle, hful, hz, hd⟩ := hst
    have h5x : Mx.1 ob 5 = nI P := by rw [hf.2 _ _ (by omega)]; exact h5
    have hdx := hd x (Nat.le_refl _) hx
    have hb4 := hdb x
    by_cases c : sg9 (b + 1) (v / (b + 1) ^ x) (P - x) < b
    · right
      obtain ⟨v', a1, a2, a3, a4, a5, a6, a7⟩ := nx_ok x P v hx hv hful c
      refine ⟨.inr (nI 1, me_s (me_s Mx sh x (nI (dg (b + 1) v x + 1))) ob 6 (nI (sg9 (b + 1) (v / (b + 1) ^ x) (P - x) + 1))), ?_, Or.inr ⟨v', _, rfl, (hf.st (by omega)).st (by omega), a1, a2, by omega, a4, by rw [a3]; exact pu_ss, fun i hi => ?_⟩⟩
      · simp only [gX5_nextShare_L2]
        have e1 : ((me_s Mx sh x (nI (dg (b + 1) v x + 1))).1 ob) 6 = nI (sg9 (b + 1) (v / (b + 1) ^ x) (P - x)) := by rw [me_s_ne hne]; exact h6x
        simp (disch := omega) only [Option.bind_some, if_true, if_false, Sum.elim_inl, Sum.elim_inr, li0, li1, li2, li3, li4, li5, li6, li7, li8, li9, li10, li12, li16, li20, li24, li25, li31, li32, li40, li41, li42, li48, li57, li59, li97, li104, li105, li124, li126, li240, li241, nI_add, nI_subc, nI_subm, nI_mulc, nI_nm, pu_r, pu_t, pu_a, pu_le_t, pu_le_f, pu_lt_t, pu_lt_f, pu_eq_t, pu_eq_f, nm_eq, nm_eq2, nm_lt, nm_lt2, nm_le, nm_le2, nm_ss, nm_sp, pu_ss, pu_snq, pu_neq, eq_self, and_true, true_and, and_false, false_and, or_true, true_or, or_false, false_or, not_true_eq_false, not_false_eq_true, h5x, h6x, hdx, e1]
      · rw [me_s_ne (fun z => hne z.symm)]
        by_cases z : i = x
        · rw [z, pu_ss, a6]
        · rw [pu_sn z]
          rcases Nat.lt_or_ge i x with y | y
          · rw [hz i y, a5 i y]
          · rw [hd i y hi, a7 i (by omega)]
    · left
      have hsx := sg9_x (B := b + 1) x P v hx
      refine ⟨(nI (x + 1), me_s (me_s Mx ob 6 (nI (sg9 (b + 1) (v / (b + 1) ^ (x + 1)) (P - (x + 1))))) sh x (nI 0)), ?_, _, rfl, (hf.st (by omega)).st (by omega), by rw [me_s_ne hne]; exact pu_ss, by omega, fun y hy => ?_, fun i hi => ?_, fun i i1 i2 => ?_⟩
      · simp only [gX5_nextShare_L2]
        simp (disch := omega) only [Option.bind_some, if_true, if_false, Sum.elim_inl, Sum.elim_inr, li0, li1, li2, li3, li4, li5, li6, li7, li8, li9, li10, li12, li16, li20, li24, li25, li31, li32, li40, li41, li42, li48, li57, li59, li97, li104, li105, li124, li126, li240, li241, nI_add, nI_subc, nI_subm, nI_mulc, nI_nm, pu_r, pu_t, pu_a, pu_le_t, pu_le_f, pu_lt_t, pu_lt_f, pu_eq_t, pu_eq_f, nm_eq, nm_eq2, nm_lt, nm_lt2, nm_le, nm_le2, nm_ss, nm_sp, pu_ss, pu_snq, pu_neq, eq_self, and_true, true_and, and_false, false_and, or_true, true_or, or_false, false_or, not_true_eq_false, not_false_eq_true, h5x, h6x, hdx, show sg9 (b + 1) (v / (b + 1) ^ x) (P - x) - dg (b + 1) v x = sg9 (b + 1) (v / (b + 1) ^ (x + 1)) (P - (x + 1)) by omega]
      · by_cases z : y = x
        · rw [z]; omega
        · exact hful y (by omega)
      · by_cases z : i = x
        · rw [z, pu_ss]
        · rw [pu_sn z, me_s_ne (fun z => hne z.symm)]; exact hz i (by omega)
      · rw [pu_sn (by omega), me_s_ne (fun z => hne z.symm)]; exact hd i (by omega) i2) (fun st hst => by
    obtain ⟨Mx, rfl, hf, h6x, hle, hful, hz, hd⟩ := hst
    have h5x : Mx.1 ob 5 = nI P := by rw [hf.2 _ _ (by omega)]; exact h5
    refine ⟨.inl Mx, ?_, Or.inl ⟨Mx, rfl, hf, nx_no P v hv hful⟩⟩
    simp only [gX5_nextShare_L2]
    simp (disch := omega) only [Option.bind_some, if_true, if_false, Sum.elim_inl, Sum.elim_inr, li0, li1, li2, li3, li4, li5, li6, li7, li8, li9, li10, li12, li16, li20, li24, li25, li31, li32, li40, li41, li42, li48, li57, li59, li97, li104, li105, li124, li126, li240, li241, nI_add, nI_subc, nI_subm, nI_mulc, nI_nm, pu_r, pu_t, pu_a, pu_le_t, pu_le_f, pu_lt_t, pu_lt_f, pu_eq_t, pu_eq_f, nm_eq, nm_eq2, nm_lt, nm_lt2, nm_le, nm_le2, nm_ss, nm_sp, pu_ss, pu_snq, pu_neq, eq_self, and_true, true_and, and_false, false_and, or_true, true_or, or_false, false_or, not_true_eq_false, not_false_eq_true, h5x]) (s0 := (nI 0, M)) ⟨M, rfl, fr.rf, by rw [Nat.pow_zero, Nat.div_one, Nat.sub_zero]; exact h6, by rw [Nat.pow_zero, Nat.div_one, Nat.sub_zero]; exact hsv, fun y hy => absurd hy (Nat.not_lt_zero _), fun i hi => absurd hi (Nat.not_lt_zero _), fun i _ hi => hsh i hi⟩
  unfold gX5_nextShare
  rcases hr with ⟨Mx, rfl, hf, hn⟩ | ⟨v', Mx, rfl, hf, hn⟩
  · right
    exact ⟨Mx, by simp (disch := omega) only [Option.bind_some, if_true, if_false, Sum.elim_inl, Sum.elim_inr, li0, li1, li2, li3, li4, li5, li6, li7, li8, li9, li10, li12, li16, li20, li24, li25, li31, li32, li40, li41, li42, li48, li57, li59, li97, li104, li105, li124, li126, li240, li241, nI_add, nI_subc, nI_subm, nI_mulc, nI_nm, pu_r, pu_t, pu_a, pu_le_t, pu_le_f, pu_lt_t, pu_lt_f, pu_eq_t, pu_eq_f, nm_eq, nm_eq2, nm_lt, nm_lt2, nm_le, nm_le2, nm_ss, nm_sp, pu_ss, pu_snq, pu_neq, eq_self, and_true, true_and, and_false, false_and, or_true, true_or, or_false, false_or, not_true_eq_false, not_false_eq_true, e], hf, hn⟩
  · left
    exact ⟨v', Mx, by simp (disch := omega) only [Option.bind_some, if_true, if_false, Sum.elim_inl, Sum.elim_inr, li0, li1, li2, li3, li4, li5, li6, li7, li8, li9, li10, li12, li16, li20, li24, li25, li31, li32, li40, li41, li42, li48, li57, li59, li97, li104, li105, li124, li126, li240, li241, nI_add, nI_subc, nI_subm, nI_mulc, nI_nm, pu_r, pu_t, pu_a, pu_le_t, pu_le_f, pu_lt_t, pu_lt_f, pu_eq_t, pu_eq_f, nm_eq, nm_eq2, nm_lt, nm_lt2, nm_le, nm_le2, nm_ss, nm_sp, pu_ss, pu_snq, pu_neq, eq_self, and_true, true_and, and_false, false_and, or_true, true_or, or_false, false_or, not_true_eq_false, not_false_eq_true, e], hf, hn⟩
