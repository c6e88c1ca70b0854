set_option maxHeartbeats 4000000 in
set_option maxRecDepth 100000 in
/-- THE LAW, from its entry -/
theorem whole_start {p : Program} {e : Env} {s : State} {m : MethodId} {below : List Frame} {meth : Method} {c : Code} (l : Launch) (hflags : l.flags = flags0) {b L : Nat} {xs : Nat → Int32} (hL : L ≤ 3072) (C0 : lw_At p s m meth c b L xs) : W p l e room_1 s m #[Value.ref b] below meth c s.heap [] 0 0 (lw_Z below #[Value.ref b] s) (entryFrame m ([Value.ref b] : List Value).toArray 8) := by
  obtain ⟨hx, hb, hr, hml, hown, hts0, hX, hbl, hlocks, hgv⟩ := id C0
  have hs := flat_of_before _ hgv
  have htr : l.stackTraces = false := by
    unfold Launch.stackTraces
    rw [hflags]
    decide +kernel
  obtain ⟨A, hAd⟩ : ∃ A : Nat → Prop, A = fun q => s.heap.size ≤ q := ⟨_, rfl⟩
  have hA : ∀ q : Nat, s.heap.size ≤ q → A q := fun q h => by rw [hAd]; exact h
  have hAs : ∀ q, A q → s.heap.size ≤ q := fun q h => by rw [hAd] at h; exact h
  have hbA : ¬ A b := fun h => absurd (hAs b h) (Nat.not_le.mpr hbl)
  have hts : ∀ w ∈ lw_good, w.before #[Value.ref b] s = true := fun w hw => hts0 w (List.mem_filter.mp hw).1
  have hnw : ∀ w ∈ lw_nest, va_Nw w s := fun w hw => by
    obtain ⟨h1, h2⟩ := List.mem_filter.mp hw
    exact va_Nw.of (by cases w <;> first | rfl | cases h2) (hts0 w (List.mem_append_right _ h1))
  have hz : me_Z A s s.heap := by
    have hno : ∀ a : Nat, a < s.heap.size → ¬ A a := fun a h1 h2 => absurd (hAs a h2) (Nat.not_le.mpr h1)
    have hsr : ∀ k : Nat, (Cond.exactly (.string RX11 k) "java/lang/String").before #[Value.ref b] s = true → ∃ a, (Term.string RX11 k).eval #[Value.ref b] s none [] s = some (.ref a) := fun k h => by
      obtain ⟨a, c9, cell, k9, h1, -⟩ := Cond.exactly_spec h
      exact ⟨a, h1⟩
    refine ⟨vx_Zqof (hts0 _ tl_us) (hts0 _ tl_it) (hs _ (by decide +kernel)) hno, vx_Zqof (hts0 _ tl_ss) (hts0 _ tl_it) (hs _ (by decide +kernel)) hno, ?_, ?_, ?_, va_Nc.of (hs (Cond.not (.castable "java/lang/IllegalArgumentException" "java/util/NoSuchElementException")) (by decide +kernel)), va_Nc.of (hs (Cond.not (.castable "java/lang/IllegalStateException" "java/lang/IllegalArgumentException")) (by decide +kernel))⟩
    · obtain ⟨a, ha⟩ := hsr 435 (hs _ (by decide +kernel))
      exact ⟨a, vk_R.of (hts0 _ tl_s435) ha⟩
    · obtain ⟨a, ha⟩ := hsr 442 (hs _ (by decide +kernel))
      exact ⟨a, vk_R.of (hts0 _ tl_s442) ha⟩
    · obtain ⟨a, ha⟩ := hsr 447 (hs _ (by decide +kernel))
      exact ⟨a, vk_R.of (hts0 _ tl_s447) ha⟩
  obtain ⟨c0, i0, hK0⟩ := u_known (C := RX0) (T := TX0) (N := 5) (n := 5) hts inw0 (hts _ tw_130)
  obtain ⟨c1, i1, hK1⟩ := u_known (C := RX1) (T := TX1) (N := 12) (n := 12) hts inw1 (hts _ tw_249)
  obtain ⟨c2, i2, hK2⟩ := u_known (C := RX2) (T := TX2) (N := 6) (n := 6) hts inw2 (hts _ tw_180)
  obtain ⟨c3, i3, hK3⟩ := u_known (C := RX3) (T := TX3) (N := 9) (n := 9) hts inw3 (hts _ tw_300)
  obtain ⟨c4, i4, hK4⟩ := u_known (C := RX4) (T := TX4) (N := 6) (n := 6) hts inw4 (hts _ tw_96)
  obtain ⟨c5, i5, hK5⟩ := u_known (C := RX5) (T := TX5) (N := 11) (n := 11) hts inw5 (hts _ tw_367)
  obtain ⟨c6, i6, hK6⟩ := u_known (C := RX6) (T := TX6) (N := 5) (n := 5) hts inw6 (hts _ tw_343)
  obtain ⟨c7, i7, hK7⟩ := u_known (C := RX7) (T := TX7) (N := 5) (n := 5) hts inw7 (hts _ tw_136)
  obtain ⟨c8, i8, hK8⟩ := u_known (C := RX8) (T := TX8) (N := 9) (n := 9) hts inw8 (hts _ tw_208)
  obtain ⟨c9, i9, hK9⟩ := u_known (C := RX9) (T := TX9) (N := 2) (n := 2) hts inw9 (hts _ tw_31)
  obtain ⟨c10, i10, hK10⟩ := u_known (C := RX10) (T := TX10) (N := 8) (n := 8) hts inw10 (hts _ tw_48)
  obtain ⟨c11, i11, hK11⟩ := u_known (C := RX11) (T := TX11) (N := 16) (n := 16) hts inw11 (hts _ tw_23)
  obtain ⟨c12, i12, hK12⟩ := u_known (C := RX12) (T := TX12) (N := 43) (n := 43) hts inw12 (hts _ tw_1300)
  obtain ⟨dC, dI, hKc⟩ : ∃ (dC : Nat → ClassId) (dI : Nat → Nat → Nat), ∀ (k : Nat) (q : vw_C), vwCl[k]? = some q → u_Kn s q.1 q.2.1 q.2.2 (dC k) (dI k) := by
    refine ⟨fun k => [c0, c1, c2, c3, c4, c5, c6, c7, c8, c9, c10, c11, c12].getD k c0, fun k => [i0, i1, i2, i3, i4, i5, i6, i7, i8, i9, i10, i11, i12].getD k i0, ?_⟩
    intro k q hq
    match k, hq with
    | 0, hq => cases hq; exact hK0
    | 1, hq => cases hq; exact hK1
    | 2, hq => cases hq; exact hK2
    | 3, hq => cases hq; exact hK3
    | 4, hq => cases hq; exact hK4
    | 5, hq => cases hq; exact hK5
    | 6, hq => cases hq; exact hK6
    | 7, hq => cases hq; exact hK7
    | 8, hq => cases hq; exact hK8
    | 9, hq => cases hq; exact hK9
    | 10, hq => cases hq; exact hK10
    | 11, hq => cases hq; exact hK11
    | 12, hq => cases hq; exact hK12
    | k + 13, hq => simp [vwCl] at hq
  obtain ⟨cA, hkin, hKa⟩ := g_rows hts0 (hts _ tw_46) (hts _ tw_1826)
  have hK : va_K (dC, dI) vwCl (me_tys cA) s := ⟨hKc, hKa⟩
  obtain ⟨M1, M2, e1, e2, e3, e4, e5, hI⟩ := ini
  have X : g_X p room_1 s m #[Value.ref b] c (dC, dI) (cA 0) 8 200 601024 7293034 A cL_law RL (me_tys cA) := ⟨hx, hb, hml, hown, hts, hK, rfl, hA, hnw, (Nat.le_of_ble_eq_true rfl), (Nat.le_of_ble_eq_true rfl), Nat.le_refl _, Nat.le_refl _⟩
  have hl := lv_entry ([.ref b]) (n := 8) (Nat.le_of_ble_eq_true rfl)
  rw [lg_entry_eq]
  generalize (lg_sl ([.ref b]) ++ List.replicate (8 - (lg_sl ([.ref b])).length) Slot.unset).toArray = ls at hl ⊢
  have hl : lv_has ls 8 [(0, .ref b)] := hl
  have G : ∀ B, s.heap.size = B → g_W p l e room_1 s m #[Value.ref b] below meth c 0 0 (lw_Z below #[Value.ref b] s) (dC, dI) 8 A B 0 [(0, .ref b)] [] [] := by
    intro B hB
    have hAB : ∀ i, A (g_ad B (B + 1) i) := fun i => hA _ (by have := g_ad_ge B i; omega)
    refine g_new (ws := []) X [] (B + 1) rfl kN_L_8 (Nat.le_of_ble_eq_true rfl) (Nat.le_of_ble_eq_true rfl) dL_law_0 ?_
    refine g_dup X rfl dL_law_3 ?_
    refine g_as [(B, .inr (11, [.null, .null, .null, .null, .null, .null, .null, .null, .null, .null, .null, .null, .int 0, .int 0, .int 0, .int 0]))] rfl ?_
    refine g_callM (n := 63) (cA := cA) (ad := g_ad B (B + 1)) (M1 := M1) X [] (gi_X11 l (dC, dI) cA B e1 (me_tys cA) (B + 1) (fun k _ => rfl)) (fun H hz9 hP9 hD9 => ⟨g_B_blind, fun U hU hW => ⟨rfl, by rw [hU]; exact hz9, by rw [hU]; exact hP9, va_K.moved hW.alike hK, hD9.weaken (fun _ _ _ _ => trivial), me_nw_warm hW hnw⟩⟩) kC_L_113 rfl (Nat.le_of_ble_eq_true rfl) (Nat.le_of_ble_eq_true rfl) (Nat.le_of_ble_eq_true rfl) (Nat.le_of_ble_eq_true rfl) dL_law_4 (g_ad_inj B) (fun i _ => hAB i) (fun z1 hz1 hlt => ?_)
    refine g_astore_n X (i := 1) [(1, .ref B), (0, .ref b)] (Nat.le_of_ble_eq_true rfl) rfl dL_law_7 ?_
    refine g_new (ws := me_w 63 (g_ad B (B + 1)) cA M1) X [] (z1 + 1) rfl kN_L_114 (Nat.le_of_ble_eq_true rfl) (Nat.le_of_ble_eq_true rfl) dL_law_8 ?_
    refine g_dup X rfl dL_law_11 ?_
    refine g_as ((z1, .inr (12, [.int 0, .null, .int 0, .int 0, .null, .int 0, .int 0, .null, .null, .null, .int 0, .int 0, .null, .null, .null, .null, .null, .int 0, .int 0, .int 0, .int 0, .null, .null, .null, .int 0, .int 0, .int 0, .int 0, .null, .int 0, .null, .null, .null, .null, .null, .int 0, .int 0, .int 0, .int 0, .null, .null, .null, .null])) :: me_w 63 (g_ad B (B + 1)) cA M1) rfl ?_
    have hA2 : ∀ i, A (g_a2 (g_ad B (B + 1)) z1 i) := fun i => by
      by_cases h6 : i < 63
      · rw [show g_a2 (g_ad B (B + 1)) z1 i = g_ad B (B + 1) i from if_pos h6]
        exact hAB i
      · rw [g_a2_ge (by omega)]
        exact hA _ (by omega)
    have hin2 := g_a2_inj hlt (g_ad_inj B)
    refine g_callM (n := 424) (cA := cA) (ad := g_a2 (g_ad B (B + 1)) z1) (M1 := M2) X [] (gi_X12 l (dC, dI) cA (g_ad B (B + 1)) z1 e2 e3 e4 hlt (g_ad_inj B) (me_tys cA) (fun k _ => rfl)) (fun H hz9 hP9 hD9 => ⟨g_BK_blind, fun U hU hW => ⟨rfl, ⟨by rw [hU]; exact hz9, by rw [hU]; exact hP9, va_K.moved hW.alike hK, hD9.weaken (fun _ _ _ _ => trivial), me_nw_warm hW hnw⟩, g_kin.moved hW.alike hkin⟩⟩) kC_L_116 rfl (Nat.le_of_ble_eq_true rfl) (Nat.le_of_ble_eq_true rfl) (Nat.le_of_ble_eq_true rfl) (Nat.le_of_ble_eq_true rfl) dL_law_12 hin2 (fun i _ => hA2 i) (fun z2 hz2 hlt2 => ?_)
    refine g_astore_n X (i := 2) [(2, .ref z1), (1, .ref B), (0, .ref b)] (Nat.le_of_ble_eq_true rfl) rfl dL_law_15 ?_
    refine g_iconst X (v := 1) dL_law_16 (by decide) ?_
    refine g_newl (ws := me_w 424 (g_a2 (g_ad B (B + 1)) z1) cA M2) (N := 1) (cL := cA 4) X [] (z2 + 1) rfl 4 rfl tw_1826 (by decide) (by decide) (Nat.le_of_ble_eq_true rfl) (Nat.le_of_ble_eq_true rfl) (Nat.le_of_ble_eq_true rfl) dL_law_17 ?_
    refine g_widen 425 21254 (Nat.le_of_ble_eq_true rfl) (Nat.le_of_ble_eq_true rfl) ?_
    obtain ⟨ad, had⟩ : ∃ ad, ad = g_a3 (g_a2 (g_ad B (B + 1)) z1) z2 := ⟨_, rfl⟩
    have had1 : ∀ j, j < 424 → ad j = g_a2 (g_ad B (B + 1)) z1 j := fun j hj => by rw [had]; exact if_pos hj
    have had2 : ad 424 = z2 := by rw [had]; rfl
    have had0 : ad 0 = B := by rw [had]; rfl
    have had63 : ad 63 = z1 := by rw [had]; rfl
    refine g_bridge3 (ad := ad) (cA := cA) (n := 425) (M := M2) (fun H hP i hi => ?_) (fun i hi j hj h9 => ?_) (fun i hi => ?_) (fun hD9 => ?_)
    · by_cases h4 : i < 424
      · exact g_c424 had1 (by rw [e5]; decide) (by rw [e5]; decide) h4 (g_P_iff.mp hP _ (List.mem_cons_of_mem _ (List.mem_of_getElem? (me_w_get h4))))
      · have h5 : i = 424 := by omega
        subst h5
        have h6 := g_P_iff.mp hP (z2, .inl (cA 4, 1, .inr (.inl (fun _ => 0)))) List.mem_cons_self
        have h7 : me_c ad cA M2 424 = .inl (cA 4, 1, .inr (.inl (fun _ => 0))) := by
          unfold me_c
          rw [me_k424]
          show Sum.inl (cA 4, 1, Sum.inr (Sum.inl M2.2.2)) = _
          rw [e5]
          rfl
        rw [h7, had2]
        exact h6
    · by_cases h1 : i < 424
      · by_cases h2 : j < 424
        · rw [had1 i h1, had1 j h2] at h9
          exact hin2 i h1 j h2 h9
        · have h5 : j = 424 := by omega
          rw [h5, had2, had1 i h1] at h9
          have := hlt2 i h1
          omega
      · have h5 : i = 424 := by omega
        by_cases h2 : j < 424
        · rw [h5, had2, had1 j h2] at h9
          have := hlt2 j h2
          omega
        · omega
    · by_cases h1 : i < 424
      · rw [had1 i h1]
        exact hA2 i
      · rw [show i = 424 by omega, had2]
        exact hA _ (by omega)
    · have X9 : me_X p room_1 s m #[Value.ref b] c (dC, dI) cA ad 425 5 425 8 425 21254 200 A cL_law RL (me_tys cA) := g_toX X (Nat.le_of_ble_eq_true rfl) (Nat.le_of_ble_eq_true rfl) (fun k _ => rfl) hD9 (Nat.le_refl _) (by decide)
      rw [← had2, ← had63, ← had0]
      refine me_astore_n X9 (i := 3) [(3, .ref (ad 424)), (2, .ref (ad 63)), (1, .ref (ad 0)), (0, .ref b)] (Nat.le_of_ble_eq_true rfl) rfl dL_law_19 ?_
      refine me_iconst X9 dL_law_20 ic_0 ?_
      refine me_istore X9 (i := 4) [(4, .int 0), (3, .ref (ad 424)), (2, .ref (ad 63)), (1, .ref (ad 0)), (0, .ref b)] (Nat.le_of_ble_eq_true rfl) rfl dL_law_21 ?_
      refine me_sub (L' := [(0, .ref b), (1, .ref (ad 0)), (2, .ref (ad 63)), (3, .ref (ad 424)), (4, .int (nI (6 * 0)))]) [4, 3, 2, 1, 0] rfl ?_
      exact law_loop htr hz hX hbl hbA hL hr hlocks hAs 514 0 425 21254 M2 rfl rfl (by omega) (by omega) hI X9
  exact G s.heap.size rfl s.heap [] ls rfl (fun k q h => by simp at h) ⟨fun i j p q h => by simp at h, fun k q h => by simp at h⟩ va_S.rf hl
