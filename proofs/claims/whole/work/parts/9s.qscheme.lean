/-! ===== call: scheme; both ===== -/
def zS (b k : Nat) : Prop := (b = 1 ∧ k = 1) ∨ (b = 52 ∧ 1 ≤ k ∧ k ≤ 4) ∨ (53 ≤ b ∧ b ≤ 62) ∨ (b = 63 ∧ (k = 0 ∨ k = 2 ∨ k = 3 ∨ (24 ≤ k ∧ k ≤ 27))) ∨ b = 77 ∨ b = 78 ∨ (109 ≤ b ∧ b ≤ 156)
theorem inv_sch {T : Nat → Nat} {n m : Nat} {W X : Nat → Nat} {t : Nat} {F : Nat → Nat} {S P : Nat} {D : Nat → Nat → Nat → Nat} {S' P' : Nat} {D' : Nat → Nat → Nat → Nat} {M M' : me_M} (h : Inv M) (ha : vA T n m W X t F S P D M) (hx : ∀ b k, ¬ zS b k → M'.1 b k = M.1 b k) (hp1 : M'.1 1 1 = nI 0) (hp2 : M'.1 63 2 = nI 0) (h4 : M'.1 52 4 = M'.1 63 3) (hs : vS S' P' D' M') : Inv M' := by
  obtain ⟨-, -, -, -, -, -, -, -, -, -, -, -, -, k4, -, -, -⟩ := h
  obtain ⟨h1, h2, h3, -, h5, h6, h7⟩ := ha
  have fx : fr zS M (M'.1, M.2) := ⟨rfl, hx⟩
  have g1 : vT T n (M'.1, M.2) := h1.fr fx (fun b k _ _ => by unfold zS; omega) (fun b k _ _ => by unfold zS; omega) (by unfold zS; omega) (fun b k _ _ => by unfold zS; omega)
  have g2 : vC T n m W X (M'.1, M.2) := h2.fr fx (fun b k _ _ => by unfold zS; omega) (by unfold zS; omega) (by unfold zS; omega) (fun k => by unfold zS; omega) (fun k => by unfold zS; omega)
  have g6 : vR n (M'.1, M.2) := h6.fr fx (fun b k _ _ => by unfold zS; omega) (fun k _ _ => by unfold zS; omega) (fun b k _ _ => by unfold zS; omega)
  have g7 : vM (M'.1, M.2) := h7.fr fx (by unfold zS; omega) (by unfold zS; omega) (fun b k _ _ => by unfold zS; omega) (fun b k _ _ => by unfold zS; omega)
  obtain ⟨a1, a2, a3, -, v, b1, b2, b3, b4⟩ := k4
  refine ⟨T, n, m, W, X, 0, F, S', P', D', g1, g2, ⟨Nat.zero_le _, hp1, hp2, fun i hi => absurd hi (Nat.not_lt_zero _)⟩, ⟨?_, ?_, ?_, h4, v, b1, b2, ?_, ?_⟩, hs, g6, g7⟩
  · rw [hx _ _ (by unfold zS; omega), hx _ _ (by unfold zS; omega)]; exact a1
  · rw [hx _ _ (by unfold zS; omega), hx _ _ (by unfold zS; omega)]; exact a2
  · rw [hx _ _ (by unfold zS; omega), hx _ _ (by unfold zS; omega)]; exact a3
  · rw [hx _ _ (by unfold zS; omega)]; exact b3
  · rw [hx _ _ (by unfold zS; omega)]; exact b4
def sp9 (ob od le mo sh op : Nat) : Prop := (ob = 53 ∧ od = 54 ∧ le = 55 ∧ mo = 56 ∧ sh = 57 ∧ op = 58) ∨ (ob = 58 ∧ od = 59 ∧ le = 60 ∧ mo = 61 ∧ sh = 62 ∧ op = 53)
theorem sp9.ob {ob od le mo sh op : Nat} (h : sp9 ob od le mo sh op) : ob9 ob od le mo := by
  unfold sp9 at h; unfold ob9; omega
theorem qr_schemeF {T : Nat → Nat} {n m : Nat} {W X : Nat → Nat} {t : Nat} {F : Nat → Nat} {S P : Nat} {D : Nat → Nat → Nat → Nat} {ob od le mo sh op so kd pl : Nat} {M M5 : me_M} (h : Inv M) (ha : vA T n m W X t F S P D M) (hq : sp9 ob od le mo sh op) (i0 : M.2.1 0 = op) (i1 : M.2.1 1 = ob) (s2 : so ≤ t) (hb0 : iB (nI so) (nI 1) (nI t) = true) (r5 : gX6_read ob od le mo sh M (nI so) = some M5) (f5 : fr (fun b k => (b = 52 ∧ 1 ≤ k ∧ k ≤ 4) ∨ (b = od ∨ b = le ∨ b = mo) ∨ (b = ob ∧ (k = 4 ∨ k = 5))) M M5) (k1 : 1 ≤ kd) (k3 : kd ≤ 3) (g3 : M5.1 52 3 = nI kd) (g4 : M5.1 52 4 = nI pl) (hpl : pl ≤ 240) : aQ (hL_scheme M (nI so)) (fun M1 => mX12_scheme_63 M1 (nI so)) := by
  have hvp := ha.2.2.1
  have ht := hvp.1
  have hp1 := hvp.2.1
  have hvs := ha.2.2.2.2.1
  have hq2 := hq
  unfold sp9 at hq2
  have hso : so ≤ 240 := by omega
  have hM : ∀ i, i < so → F i < 256 ∧ M.1 2 i = nI (F i) := fun i hi => ⟨(hvp.2.2.2 i (by omega)).1, (hvp.2.2.2 i (by omega)).2.1⟩
  have hcl := c_schemeF (ob := ob) (M1 := M5) hp1 hb0 k1 k3 (by
    rcases hq2 with ⟨rfl, rfl, rfl, rfl, rfl, rfl⟩ | ⟨rfl, rfl, rfl, rfl, rfl, rfl⟩
    · exact Or.inl ⟨i1, rfl, r5⟩
    · exact Or.inr ⟨i1, rfl, r5⟩) g3
  generalize hx : (nI kd - nI 10).toInt64 = x at hcl
  obtain ⟨N, hN⟩ : ∃ N, N = me_s (me_o (me_s M5 1 1 (nI 0)) 0 x) 63 0 (nI 0) := ⟨_, rfl⟩
  have fz : fr (fun b k => (b = 1 ∧ k = 1) ∨ (b = 52 ∧ 1 ≤ k ∧ k ≤ 4) ∨ (b = od ∨ b = le ∨ b = mo) ∨ (b = ob ∧ (k = 4 ∨ k = 5)) ∨ (b = 63 ∧ k = 0)) (me_o M 0 x) N := by
    rw [hN]
    exact (((f5.up (fun b k h => by omega)).st (by omega)).o).st (by omega)
  have hzM : ∀ b k, ¬ ((b = 1 ∧ k = 1) ∨ (b = 52 ∧ 1 ≤ k ∧ k ≤ 4) ∨ (b = od ∨ b = le ∨ b = mo) ∨ (b = ob ∧ (k = 4 ∨ k = 5)) ∨ (b = 63 ∧ k = 0)) → N.1 b k = M.1 b k := fun b k z => fz.2 b k z
  have h632 : N.1 63 2 = nI t := by rw [hzM _ _ (by omega)]; exact hvp.2.2.1
  obtain ⟨M5', N6, N14, r5', hJ, e14, -, f14, w2, res⟩ := read9 (sh := sh) (M := M) (N := N) (F := F) hq.ob hso hM (fun i hi => ⟨(hM i hi).1, by rw [hzM _ _ (by omega)]; exact (hvp.2.2.2 i (by omega)).2.2⟩)
  have hMM : M5' = M5 := by rw [r5'] at r5; exact Option.some.inj r5
  rw [hMM] at res
  have e0 : N.1 63 0 = nI 0 := by rw [hN]; exact pu_ss
  have hrJ := r_schemeJ (N := N) hb0 e0 h632 hJ
  have hN2 : N.2 = (me_o (me_s M5 1 1 (nI 0)) 0 x).2 := by rw [hN]; rfl
  have hN1 : N.1 1 1 = nI 0 := by rw [hN, me_s_ne (by decide)]; show (me_s M5 1 1 (nI 0)).1 1 1 = _; exact pu_ss
  have hN4 : N.1 52 4 = nI pl := by rw [hN, me_s_ne (by decide)]; show (me_s M5 1 1 (nI 0)).1 52 4 = _; rw [me_s_ne (by decide)]; exact g4
  rcases res with ⟨kd2, pl2, -, k3', p3', g3', g4', g26, g27⟩ | ⟨S2, P2, D2, -, -, -, -, z3, -⟩
  · have hk : kd2 = kd := by rw [g3'] at g3; exact (nI_eq (by omega) (by omega)).mp g3
    have hp : pl2 = pl := by rw [g4'] at g4; exact (nI_eq (by omega) (by omega)).mp g4
    rw [hk] at g26
    rw [hp] at g27
    have hrF := r_schemeF e14 g26 k1 k3
    have f3 : fr (fun b k => b = 63 ∧ k = 3) N14 (me_s N14 63 3 (N14.1 63 27)) := fr.s (by omega)
    have h33 : (me_s N14 63 3 (N14.1 63 27)).1 63 3 = nI pl := by rw [pu_ss]; exact g27
    generalize hz : me_s N14 63 3 (N14.1 63 27) = Mz at hrF f3 h33
    refine aQ.c (M1 := me_s M5 1 1 (nI 0)) (v := nI kd - nI 10) (M2 := Mz) (G := fun M0 => nX12_scheme M0 (nI so)) (fun M1 => zX12_scheme M1 _) (by rw [hx]; exact hcl) ?_ ?_ ?_ ?_
    · rw [hx, ← hN]; exact hrJ.trans hrF
    · rw [f3.2 _ _ (by omega), f14.2 _ _ (by omega)]; exact e0
    · rw [hx, f3.1, f14.1]; exact hN2
    · have hall : ∀ b k, ¬ ((b = 1 ∧ k = 1) ∨ (b = 52 ∧ 1 ≤ k ∧ k ≤ 4) ∨ (b = od ∨ b = le ∨ b = mo) ∨ (b = ob ∧ (k = 4 ∨ k = 5)) ∨ (b = 63 ∧ (k = 0 ∨ k = 2 ∨ k = 3 ∨ (24 ≤ k ∧ k ≤ 27))) ∨ (133 ≤ b ∧ b ≤ 156) ∨ ((b = 77 ∨ b = 78) ∧ k = 1)) → Mz.1 b k = M.1 b k := fun b k z => by rw [f3.2 _ _ (by omega), f14.2 _ _ (by omega)]; exact hzM b k (by omega)
      have hz2 : Mz.2.1 = M.2.1 := by rw [f3.1, f14.1, hN2]; show M5.2.1 = M.2.1; rw [f5.1]
      refine inv_sch (S' := S) (P' := P) (D' := D) h ha (fun b k z => hall b k (by unfold zS at z; omega)) ?_ ?_ ?_ ?_
      · rw [f3.2 _ _ (by omega), f14.2 _ _ (by omega)]; exact hN1
      · rw [f3.2 _ _ (by omega)]; exact w2
      · rw [h33, f3.2 _ _ (by omega), f14.2 _ _ (by omega)]; exact hN4
      · obtain ⟨a1, a2, a3, a4, a5, a6, a7, a8, a9, a10, a11, a12⟩ := hvs
        refine ⟨a1, a2, a3, a4, a5, by rw [hz2]; exact a6, ?_, ?_, fun s w k hs hw hk => ?_, ?_, ?_, ?_⟩
        · rw [hz2, i0, hall _ _ (by omega), ← i0]; exact a7
        · rw [hz2, i0, hall _ _ (by omega), ← i0]; exact a8
        · rw [hz2, i0, hall _ _ (by omega), hall _ _ (by omega), ← i0]; exact a9 s w k hs hw hk
        · rw [hall _ _ (by omega)]; exact a10
        · rw [hall _ _ (by omega)]; exact a11
        · rw [hall _ _ (by omega)]; exact a12
  · rw [z3] at g3
    have := (nI_eq (by omega) (by omega)).mp g3
    omega
theorem qr_schemeS {T : Nat → Nat} {n m : Nat} {W X : Nat → Nat} {t : Nat} {F : Nat → Nat} {S P : Nat} {D : Nat → Nat → Nat → Nat} {ob od le mo sh op so S1 : Nat} {M M5 : me_M} (h : Inv M) (ha : vA T n m W X t F S P D M) (hq : sp9 ob od le mo sh op) (i0 : M.2.1 0 = op) (i1 : M.2.1 1 = ob) (s2 : so ≤ t) (hb0 : iB (nI so) (nI 1) (nI t) = true) (r5 : gX6_read ob od le mo sh M (nI so) = some M5) (f5 : fr (fun b k => (b = 52 ∧ 1 ≤ k ∧ k ≤ 4) ∨ (b = od ∨ b = le ∨ b = mo) ∨ (b = ob ∧ (k = 4 ∨ k = 5))) M M5) (g3 : M5.1 52 3 = nI 0) (gS : M5.1 ob 4 = nI S1) (hS1 : S1 ≤ 8) : aQ (hL_scheme M (nI so)) (fun M1 => mX12_scheme_63 M1 (nI so)) := by
  have hvp := ha.2.2.1
  have ht := hvp.1
  have hp1 := hvp.2.1
  have hvs := ha.2.2.2.2.1
  have hq2 := hq
  unfold sp9 at hq2
  have hso : so ≤ 240 := by omega
  have hM : ∀ i, i < so → F i < 256 ∧ M.1 2 i = nI (F i) := fun i hi => ⟨(hvp.2.2.2 i (by omega)).1, (hvp.2.2.2 i (by omega)).2.1⟩
  have hcl := c_schemeS (ob := ob) (op := op) (M1 := M5) hp1 hb0 (by
    rcases hq2 with ⟨rfl, rfl, rfl, rfl, rfl, rfl⟩ | ⟨rfl, rfl, rfl, rfl, rfl, rfl⟩
    · exact Or.inl ⟨i0, i1, rfl, rfl, r5⟩
    · exact Or.inr ⟨i0, i1, rfl, rfl, r5⟩) f5.1 g3
  rw [gS] at hcl
  generalize hx : (nI S1).toInt64 = x at hcl
  obtain ⟨N, hN⟩ : ∃ N, N = me_s (me_o (me_p (me_p (me_s M5 1 1 (nI 0)) 0 ob) 1 op) 0 x) 63 0 (nI 0) := ⟨_, rfl⟩
  have hN' : N.1 = (me_s (me_s M5 1 1 (nI 0)) 63 0 (nI 0)).1 := by rw [hN]; rfl
  have fz : fr (fun b k => (b = 1 ∧ k = 1) ∨ (b = 52 ∧ 1 ≤ k ∧ k ≤ 4) ∨ (b = od ∨ b = le ∨ b = mo) ∨ (b = ob ∧ (k = 4 ∨ k = 5)) ∨ (b = 63 ∧ k = 0)) M (me_s (me_s M5 1 1 (nI 0)) 63 0 (nI 0)) := ((f5.up (fun b k h => by omega)).st (by omega)).st (by omega)
  have hzM : ∀ b k, ¬ ((b = 1 ∧ k = 1) ∨ (b = 52 ∧ 1 ≤ k ∧ k ≤ 4) ∨ (b = od ∨ b = le ∨ b = mo) ∨ (b = ob ∧ (k = 4 ∨ k = 5)) ∨ (b = 63 ∧ k = 0)) → N.1 b k = M.1 b k := fun b k z => by rw [hN']; exact fz.2 b k z
  have h632 : N.1 63 2 = nI t := by rw [hzM _ _ (by omega)]; exact hvp.2.2.1
  obtain ⟨M5', N6, N14, r5', hJ, e14, -, f14, w2, res⟩ := read9 (sh := sh) (M := M) (N := N) (F := F) hq.ob hso hM (fun i hi => ⟨(hM i hi).1, by rw [hzM _ _ (by omega)]; exact (hvp.2.2.2 i (by omega)).2.2⟩)
  have hMM : M5' = M5 := by rw [r5'] at r5; exact Option.some.inj r5
  rw [hMM] at res
  have e0 : N.1 63 0 = nI 0 := by rw [hN']; exact pu_ss
  have hrJ := r_schemeJ (N := N) hb0 e0 h632 hJ
  have hN2 : N.2 = (me_o (me_p (me_p (me_s M5 1 1 (nI 0)) 0 ob) 1 op) 0 x).2 := by rw [hN]; rfl
  have hN1 : N.1 1 1 = nI 0 := by rw [hN', me_s_ne (by decide)]; exact pu_ss
  have hNc : ∀ b k, b < 63 → b ≠ 1 → N.1 b k = M5.1 b k := fun b k c1 c2 => by rw [hN', me_s_ne (by omega), me_s_ne (by omega)]
  rcases res with ⟨kd2, pl2, kk, k3', p3', g3', g4', g26, g27⟩ | ⟨S2, P2, D2, c1, c2, c3, c4, z3, z4, z26, z27, y4, y5, y77, y78, yD⟩
  · rw [g3'] at g3
    have := (nI_eq (by omega) (by omega)).mp g3
    omega
  · have hS2 : S2 = S1 := by rw [y4] at gS; exact (nI_eq (by omega) (by omega)).mp gS
    obtain ⟨Mz, hrS, gz, z33, z77, z78, zD⟩ := r_schemeS (D := D2) c2 c4 e14 z26 y77 y78 (fun s w k a b c => ((yD s a).2 w k b c).2)
    rw [hS2] at hrS
    refine aQ.c (M1 := me_p (me_p (me_s M5 1 1 (nI 0)) 0 ob) 1 op) (v := nI S1) (M2 := Mz) (G := fun M0 => nX12_scheme M0 (nI so)) (fun M1 => zX12_scheme M1 _) (by rw [hx]; exact hcl) ?_ ?_ ?_ ?_
    · rw [hx, ← hN]; exact hrJ.trans hrS
    · rw [gz.2 _ _ (by omega), f14.2 _ _ (by omega)]; exact e0
    · rw [hx, gz.1, f14.1]; exact hN2
    · have hcls : ∀ b k, b < 63 → Mz.1 b k = N.1 b k := fun b k hb => by rw [gz.2 _ _ (by omega), f14.2 _ _ (by omega)]
      have hz0 : Mz.2.1 0 = ob := by rw [gz.1, f14.1, hN2]; rfl
      have hz1 : Mz.2.1 1 = op := by rw [gz.1, f14.1, hN2]; rfl
      refine inv_sch (S' := S2) (P' := P2) (D' := D2) h ha (fun b k z => ?_) ?_ ?_ ?_ ?_
      · unfold zS at z
        rw [gz.2 _ _ (by omega), f14.2 _ _ (by omega)]
        exact hzM b k (by omega)
      · rw [hcls _ _ (by omega)]; exact hN1
      · rw [gz.2 _ _ (by omega)]; exact w2
      · rw [z33, z27, hcls _ _ (by omega), hNc _ _ (by omega) (by omega)]; exact z4
      · refine ⟨c1, c2, c3, c4, fun s hs => (yD s hs).1, by rw [hz0, hz1]; omega, ?_, ?_, fun s w k hs hw hk => ⟨?_, zD s w k hs hw hk⟩, z77, z78, ?_⟩
        · rw [hz0, hcls _ _ (by omega), hNc _ _ (by omega) (by omega)]; exact y4
        · rw [hz0, hcls _ _ (by omega), hNc _ _ (by omega) (by omega)]; exact y5
        · rw [hz0, hcls _ _ (by omega), hNc _ _ (by omega) (by omega)]; exact ((yD s hs).2 w k hw hk).1
        · rw [gz.2 _ _ (by omega), f14.2 _ _ (by omega), hzM _ _ (by omega)]; exact hvs.2.2.2.2.2.2.2.2.2.2.2
theorem qr_scheme {T : Nat → Nat} {n m : Nat} {W X : Nat → Nat} {t : Nat} {F : Nat → Nat} {S P : Nat} {D : Nat → Nat → Nat → Nat} {M : me_M} (h : Inv M) (ha : vA T n m W X t F S P D M) (a0 : Int32) (hb0 : iB a0 (nI 1) (nI t) = true) : aQ (hL_scheme M a0) (fun M1 => mX12_scheme_63 M1 a0) := by
  have hvp := ha.2.2.1
  have ht := hvp.1
  have hvs := ha.2.2.2.2.1
  obtain ⟨so, s1, s2, rfl⟩ := iB_n hb0 (by omega) (by omega)
  obtain ⟨ob, od, le, mo, sh, op, hq, i0, i1⟩ : ∃ ob od le mo sh op, sp9 ob od le mo sh op ∧ M.2.1 0 = op ∧ M.2.1 1 = ob := by
    rcases hvs.2.2.2.2.2.1 with ⟨i0, i1⟩ | ⟨i0, i1⟩
    · exact ⟨58, 59, 60, 61, 62, 53, Or.inr ⟨rfl, rfl, rfl, rfl, rfl, rfl⟩, i0, i1⟩
    · exact ⟨53, 54, 55, 56, 57, 58, Or.inl ⟨rfl, rfl, rfl, rfl, rfl, rfl⟩, i0, i1⟩
  obtain ⟨M5, N6, N14, r5, -, -, f5, -, -, res⟩ := read9 (sh := sh) (M := M) (N := M) (F := F) (so := so) hq.ob (by omega) (fun i hi => ⟨(hvp.2.2.2 i (by omega)).1, (hvp.2.2.2 i (by omega)).2.1⟩) (fun i hi => ⟨(hvp.2.2.2 i (by omega)).1, (hvp.2.2.2 i (by omega)).2.2⟩)
  rcases res with ⟨kd, pl, k1, k3, p3, g3, g4, -, -⟩ | ⟨S2, P2, D2, c1, c2, c3, c4, z3, -, -, -, y4, -⟩
  · exact qr_schemeF h ha hq i0 i1 s2 hb0 r5 f5 k1 k3 g3 g4 p3
  · exact qr_schemeS h ha hq i0 i1 s2 hb0 r5 f5 z3 y4 c2
theorem q_scheme {M : me_M} (h : Inv M) (a0 : Int32) : aQ (hL_scheme M a0) (fun M1 => mX12_scheme_63 M1 a0) := by
  obtain ⟨T, n, m, W, X, t, F, S, P, D, ha⟩ := h.vA
  have hT := ha.1.1
  have hx := ha.1.2.1
  have c1 := hx.1.1.1
  have hn := hT.2.2.2
  have h9 := hT.2.1
  have hp1 := ha.2.2.1.2.1
  have ht := ha.2.2.1.1
  have hm4 := ha.2.1.1.2.2.1
  have hm40 := ha.2.1.1.1
  cases hb0 : iB a0 (nI 1) (nI t) with
  | false =>
    refine aQ.t 1 1 (G := fun M0 => nX12_scheme M0 a0) (fun M1 => zX12_scheme M1 a0) h ha (by omega) (by omega) (by omega) ?_ (fun M0 h0 hz hf => ?_)
    · simp (disch := omega) only [↓reduceIte, ↓needEb, ↓needAb, ↓needSb, ↓needE0l, ↓needE1l, ↓needA0l, ↓needA1l, ↓needS0l, ↓needS1l, ↓bnd c_isWhat, ↓bnd c_isSide, ↓bnd c_isLetter, ↓bnd c_isLength, ↓bnd c_isOften, ↓bnd r_in, ↓bnd r_isLetter, bI_t, bI_f, Bool.false_eq_true, Option.bind_none, Option.none_or, Option.some_or, xAN, xNA, xSA, Option.bind_some, if_true, if_false, Sum.elim_inl, Sum.elim_inr, li0, li1, li2, li3, li4, li5, li6, li7, li8, li9, li10, li12, li16, li20, li24, li25, li31, li32, li40, li41, li42, li48, li57, li59, li97, li104, li105, li124, li126, li240, li241, nI_add, nI_subc, nI_subm, nI_mulc, nI_nm, pu_r, pu_t, pu_a, pu_le_t, pu_le_f, pu_lt_t, pu_lt_f, pu_eq_t, pu_eq_f, nm_eq, nm_eq2, nm_lt, nm_lt2, nm_le, nm_le2, nm_ss, nm_sp, pu_ss, pu_snq, pu_neq, eq_self, and_true, true_and, and_false, false_and, or_true, true_or, or_false, false_or, not_true_eq_false, not_false_eq_true, mX11_scheme_0, tX11_scheme_0, hL_scheme, ↓bnd (c_holds hp1), hb0]
    · simp (disch := omega) only [↓reduceIte, ↓needEb, ↓needAb, ↓needSb, ↓needE0l, ↓needE1l, ↓needA0l, ↓needA1l, ↓needS0l, ↓needS1l, ↓bnd c_isWhat, ↓bnd c_isSide, ↓bnd c_isLetter, ↓bnd c_isLength, ↓bnd c_isOften, ↓bnd r_in, ↓bnd r_isLetter, bI_t, bI_f, Bool.false_eq_true, Option.bind_none, Option.none_or, Option.some_or, xAN, xNA, xSA, Option.bind_some, if_true, if_false, Sum.elim_inl, Sum.elim_inr, li0, li1, li2, li3, li4, li5, li6, li7, li8, li9, li10, li12, li16, li20, li24, li25, li31, li32, li40, li41, li42, li48, li57, li59, li97, li104, li105, li124, li126, li240, li241, nI_add, nI_subc, nI_subm, nI_mulc, nI_nm, pu_r, pu_t, pu_a, pu_le_t, pu_le_f, pu_lt_t, pu_lt_f, pu_eq_t, pu_eq_f, nm_eq, nm_eq2, nm_lt, nm_lt2, nm_le, nm_le2, nm_ss, nm_sp, pu_ss, pu_snq, pu_neq, eq_self, and_true, true_and, and_false, false_and, or_true, true_or, or_false, false_or, not_true_eq_false, not_false_eq_true, nX12_scheme, mX12_scheme_63_J143, mX12_scheme_63_J86, mX12_scheme_63_J23, h0.2.2.1.2.2.1, hb0, ↓bnd (r_bad0l hz), ↓bnd (r_bad10 hz), ↓bnd (r_bad11 hz), ↓bnd (r_bad21 hz), ↓bnd (r_bad22 hz)]
  | true =>
    exact qr_scheme h ha a0 hb0
