/-! ===== rows of rows in a constructor ===== -/
def g_kin (cA : Nat → ClassId) (U : State) : Prop := (∃ k comp, U.vm.classes[cA 0]? = some k ∧ k.kind = .array comp .int) ∧ (∃ k, U.vm.classes[cA 1]? = some k ∧ k.kind = .array (cA 0) (.array .int)) ∧ (∃ k, U.vm.classes[cA 2]? = some k ∧ k.kind = .array (cA 1) (.array (.array .int))) ∧ (∃ k, U.vm.classes[cA 3]? = some k ∧ k.kind = .array (cA 2) (.array (.array (.array .int))))
theorem g_kin.vm {cA : Nat → ClassId} {u : State} {V : Vm} (hvm : u.vm.Alike V) (h : g_kin cA u) : (∃ k comp, V.classes[cA 0]? = some k ∧ k.kind = .array comp .int) ∧ (∃ k, V.classes[cA 1]? = some k ∧ k.kind = .array (cA 0) (.array .int)) ∧ (∃ k, V.classes[cA 2]? = some k ∧ k.kind = .array (cA 1) (.array (.array .int))) ∧ (∃ k, V.classes[cA 3]? = some k ∧ k.kind = .array (cA 2) (.array (.array (.array .int)))) := by
  obtain ⟨⟨k0, c0, a0, b0⟩, ⟨k1, a1, b1⟩, ⟨k2, a2, b2⟩, ⟨k3, a3, b3⟩⟩ := h
  obtain ⟨q0, x0, y0⟩ := hvm.2.2 _ _ a0
  obtain ⟨q1, x1, y1⟩ := hvm.2.2 _ _ a1
  obtain ⟨q2, x2, y2⟩ := hvm.2.2 _ _ a2
  obtain ⟨q3, x3, y3⟩ := hvm.2.2 _ _ a3
  exact ⟨⟨q0, c0, x0, by rw [y0]; exact b0⟩, ⟨q1, x1, by rw [y1]; exact b1⟩, ⟨q2, x2, by rw [y2]; exact b2⟩, ⟨q3, x3, by rw [y3]; exact b3⟩⟩
theorem g_kin.moved {cA : Nat → ClassId} {u U : State} (hvm : u.vm.Alike U.vm) (h : g_kin cA u) : g_kin cA U := h.vm hvm
theorem g_arrV {c : ClassId} {N : Nat} {f g : Nat → Value} (h : ∀ j, j < N → f j = g j) : arrV c N f = arrV c N g := by
  have e : (fun j : Fin N => f j.val) = (fun j => g j.val) := funext fun j => h j.val j.isLt
  unfold arrV
  rw [e]
theorem gm_C_0 {C : Nat → Nat → Cell} {z : Nat} {c : ClassId} {N b : Nat} : gm_C C z c N b 0 = gm_o c N z b N := if_pos rfl
theorem gm_C_s {C : Nat → Nat → Cell} {z : Nat} {c : ClassId} {N b j t : Nat} (hz : 0 < z) (ht : t < z) : gm_C C z c N b (1 + j * z + t) = C (b + 1 + j * z) t := by
  unfold gm_C
  rw [if_neg (by omega), show 1 + j * z + t - 1 = z * j + t by rw [Nat.mul_comm]; omega, Nat.mul_add_div hz, Nat.div_eq_of_lt ht, Nat.mul_add_mod, Nat.mod_eq_of_lt ht]
  rfl
section GMC
variable {D : va_G} {cA : Nat → ClassId} {ad : Nat → Nat} {H : Heap}
theorem g_at_row {i N a : Nat} (hk : me_k i = (0, N, 0, 0)) (hz : mi_M.1 i = fun _ => 0) (hH : H[a]? = some (arrV (cA 0) N (fun _ => .int 0))) (ha : ad i = a) : va_at D vwCl (ad i, me_c ad cA mi_M i) H := by
  have e : me_c ad cA mi_M i = .inl (cA 0, N, .inl (fun _ => 0)) := by
    unfold me_c
    rw [hk]
    show Sum.inl (cA 0, N, Sum.inl (mi_M.1 i)) = _
    rw [hz]
  rw [e, ha]
  exact hH
theorem g_at_tab {i N b t a z h0 : Nat} (hk : me_k i = (1, N, b, t)) (hH : H[a]? = some (gm_o (cA t) N z h0 N)) (ha : ad i = a) (hj : ∀ j, j < N → ad (b + j) = h0 + 1 + j * z) : va_at D vwCl (ad i, me_c ad cA mi_M i) H := by
  have e : me_c ad cA mi_M i = .inl (cA t, N, .inr (.inr (.inr (.inr (fun j => some (ad (b + j))))))) := by
    unfold me_c
    rw [hk]
    rfl
  rw [e, ha]
  show H[a]? = some (arrV (cA t) N (fun j => va_rf (some (ad (b + j)))))
  rw [hH]
  refine congrArg some (g_arrV (fun j hj9 => ?_))
  rw [if_pos hj9, hj j hj9]
end GMC
/-- the cells of the numbers b, b + 1, .. as they are at the start -/
def g_blk (ad : Nat → Nat) (cA : Nat → ClassId) (b T : Nat) : va_W := (List.range T).map (fun t => (ad (b + t), me_c ad cA mi_M (b + t)))
theorem g_blk_mem {ad : Nat → Nat} {cA : Nat → ClassId} {b T i : Nat} (h1 : b ≤ i) (h2 : i < b + T) : (ad i, me_c ad cA mi_M i) ∈ g_blk ad cA b T := List.mem_map.mpr ⟨i - b, List.mem_range.mpr (by omega), by rw [show b + (i - b) = i by omega]⟩
section GMA
variable {p : Program} {l : Launch} {e : Env} {R : Room} {s : State} {m : MethodId} {args : Array Value} {below : List Frame} {meth : Method} {c : Code} {cells slots : Nat} {Q : State → Prop}
variable {D : va_G} {cA : Nat → ClassId} {ad : Nat → Nat} {nL pc z h mc ms : Nat} {A : Nat → Prop} {cc : ByteArray} {own : String} {tys : List (ClassId × FieldType)} {L : List (Nat × Value)} {st stk : List Value} {ws : va_W}
theorem g_ma_end (hA : ∀ q, s.heap.size ≤ q → A q) (pre : va_W) (b T z1 : Nat) {f : State → State} {zz sl : Nat} {C : Nat → Nat → Cell} (hf : gm_ok f zz sl C) (hnew : ∀ H1 : Heap, (∀ t, t < zz → H1[z + t]? = some (C z t)) → va_P D vwCl (g_blk ad cA b T) H1) (hinj : ∀ i, i < T → ∀ j, j < T → ad (b + i) = ad (b + j) → i = j) (hge : ∀ t, t < T → z ≤ ad (b + t)) (hz1 : z + zz = z1)
    (go : ∀ (T : State) (locs : List Loc) (ls : Array Slot), T.heap.size = z → Stand p l e R s m args below meth c T locs cells slots → ∃ vm₁ : Vm, s.WarmedH vm₁ ∧ Stand p l e R s m args below meth c (f (T.setVm vm₁)) locs (cells + zz) (slots + sl) ∧ ∀ target, Steps p.tables e below ((f (T.setVm vm₁)).setTop (F0 m (pc + 4) ls (.ref T.heap.size :: st))) target → Steps p.tables e below (T.setTop (F0 m pc ls stk)) target)
    (kk : g_W p l e R s m args below meth c (cells + zz) (slots + sl) Q D nL A z1 (pc + 4) L (.ref z :: st) (pre ++ (g_blk ad cA b T ++ ws))) : g_W p l e R s m args below meth c cells slots Q D nL A z pc L stk (pre ++ ws) := by
  intro H locs ls hz hP hD hS hl T9 hT XS
  have hTz : T9.heap.size = z := by rw [hT]; exact hz
  obtain ⟨vm₁, hW, X', step⟩ := go T9 locs ls hTz XS
  obtain ⟨f1, f2, f3, f4, f5, f6⟩ := hf (T9.setVm vm₁)
  have hh : (T9.setVm vm₁).heap = H := hT
  rw [hh, hz] at f1 f6
  rw [hh] at f4
  rw [hz] at f4
  obtain ⟨a1, a2, a3⟩ := g_grow (H1 := (f (T9.setVm vm₁)).heap) (new := g_blk ad cA b T) hP hD hS hA (by rw [hz]; exact f4) (by rw [f1, hz]; omega) (hnew _ f6) (by
    unfold g_blk List.Nodup
    rw [List.map_map, List.pairwise_map]
    refine List.Pairwise.imp_of_mem ?_ (List.nodup_range (n := T))
    intro i j hi hj hij e9
    exact hij (hinj i (List.mem_range.mp hi) j (List.mem_range.mp hj) e9)) (fun x hx => by
    obtain ⟨t, ht, rfl⟩ := List.mem_map.mp hx
    rw [hz]
    exact hge t (List.mem_range.mp ht))
  obtain ⟨t2, b1, b2⟩ := kk _ locs ls (by rw [f1]; exact hz1) a1 a2 a3 hl _ rfl X'
  exact ⟨t2, step t2 (by rw [hTz]; exact b1), b2⟩
theorem g_lim (XS : ∃ T locs cells slots, Stand p l e R s m args below meth c T locs cells slots) {N k : Nat} (h : N * k ≤ 536870912) (h2 : N ≤ 536870912) : (¬ N > e.platform.arrayLengthLimit) ∧ ¬ N * k > e.platform.maxHeapBytes := by
  obtain ⟨T, locs, cells, slots, X⟩ := XS
  exact ⟨by rw [Launch.admits_arrayLengthLimit X.admits]; omega, by rw [Launch.admits_maxHeapBytes X.admits]; omega⟩
set_option maxHeartbeats 2000000 in
theorem g_ma2 (X : g_X p R s m args c D (cA 0) nL h mc ms A cc own tys) (hkin : g_kin cA s) (hnm : s.vm.findClass "[[I" = some (cA 1)) (pre : va_W) (b z1 : Nat) {index N K : Nat} {n k : Int32} (hcl : Cond.classLink own index "[[I" ∈ lw_good) (hn : ¬ n < 0) (hN : n.toNatClampNeg = N) (hk : ¬ k < 0) (hK : k.toNatClampNeg = K) (hbN : N * 4 ≤ 536870912) (hbK : K * 4 ≤ 536870912) (hc : cells + (1 + N * 1) ≤ mc) (hs : slots + (N + N * K) ≤ ms) (hroot : me_k b = (1, N, b + 1, 1)) (hrow : ∀ j, j < N → me_k (b + 1 + j) = (0, K, 0, 0)) (hzero : ∀ j, j < N → mi_M.1 (b + 1 + j) = fun _ => 0) (had : ∀ t, t < 1 + N → ad (b + t) = z + t) (hz1 : z + (1 + N * 1) = z1) (hd : decode cc pc = .ok (.multianewarray index 2, 4))
    (kk : g_W p l e R s m args below meth c (cells + (1 + N * 1)) (slots + (N + N * K)) Q D nL A z1 (pc + 4) L (.ref z :: st) (pre ++ (g_blk ad cA b (1 + N) ++ ws))) : g_W p l e R s m args below meth c cells slots Q D nL A z pc L (.int k :: .int n :: st) (pre ++ ws) := by
  obtain ⟨hx, hb9, hml, hown, hts, hK9, ht, hA, hN9, hfr, hlo, hcl9, hsl⟩ := X
  have ok1 := gm_ok_1 (cA 0) K
  have ok2 := gm_ok_n (by decide) ok1 (cA 1) N
  refine g_ma_end hA pre b (1 + N) z1 ok2 (fun H1 h1 => g_P_iff.mpr fun x hx9 => ?_) (fun i hi j hj e9 => by rw [had i hi, had j hj] at e9; omega) (fun t ht9 => by rw [had t ht9]; omega) hz1 (fun T locs ls hTz XS => ?_) kk
  · obtain ⟨t, ht9, rfl⟩ := List.mem_map.mp hx9
    have ht8 := List.mem_range.mp ht9
    have hcell := h1 t (by omega)
    by_cases h0 : t = 0
    · subst h0
      rw [gm_C_0] at hcell
      exact g_at_tab hroot hcell (had 0 ht8) (fun j hj => by have := had (1 + j) (by omega); rw [show b + 1 + j = b + (1 + j) by omega, this]; omega)
    · obtain ⟨j, rfl⟩ : ∃ j, t = 1 + j := ⟨t - 1, by omega⟩
      have e9 : gm_C (fun _ _ => arrV (cA 0) K (fun _ => .int 0)) 1 (cA 1) N z (1 + j * 1 + 0) = arrV (cA 0) K (fun _ => .int 0) := gm_C_s (by decide) (by decide)
      rw [show 1 + j = 1 + j * 1 + 0 by omega, e9] at hcell
      have hr := hrow j (by omega)
      have hz0 := hzero j (by omega)
      rw [show b + 1 + j = b + (1 + j) by omega] at hr hz0
      exact g_at_row hr hz0 hcell (by rw [had (1 + j) ht8]; omega)
  · have hlN := g_lim (N := N) (k := 4) ⟨T, locs, cells, slots, XS⟩ hbN (by omega)
    have hlK := g_lim (N := K) (k := 4) ⟨T, locs, cells, slots, XS⟩ hbK (by omega)
    obtain ⟨vm₁, a1, a2, a3⟩ := gm_go2 XS hx (own := own) (index := index) (name := "[[I") hown (hts _ hcl) hnm (g := F0 m pc ls (.int k :: .int n :: st)) rfl (by rw [hb9]; exact hd) rfl ok2 (Nat.le_trans hc hcl9) (Nat.le_trans hs hsl) (fun T locs cells slots X => gm_st_n ok1 (fun T locs cells slots X => gm_st_1 X (cA 0) K) X (cA 1) N) (fun V E hV => by
      obtain ⟨⟨k0, c0, x0, y0⟩, ⟨k1, x1, y1⟩, -, -⟩ := hkin.vm hV
      exact gm_wp_n ok1 x1 y1 hn hN hlN.1 hlN.2 (by simp [hk]) (gm_wp_1 x0 y0 hk hK hlK.1 hlK.2))
    exact ⟨vm₁, a1, a2, a3⟩
theorem g_k93 {i : Nat} (h1 : 93 ≤ i) (h2 : i < 109) : me_k i = (1, 3, 109 + 3 * (i - 93), 1) := by
  unfold me_k
  rw [if_neg (by omega), if_pos h2]
theorem g_k109 {i : Nat} (h1 : 109 ≤ i) (h2 : i < 157) : me_k i = (0, 5, 0, 0) := by
  unfold me_k
  rw [if_neg (by omega), if_neg (by omega), if_pos h2]
theorem g_z109 {i : Nat} (h1 : 79 ≤ i) : mi_M.1 i = fun _ => 0 := by
  show mi_1 i = _
  unfold mi_1
  rw [if_neg (by omega), if_neg (by omega), if_neg (by omega), if_neg (by omega), if_neg (by omega), if_neg (by omega), if_neg (by omega), if_neg (by omega), if_neg (by omega)]
set_option maxHeartbeats 2000000 in
theorem g_ma4 (X : g_X p R s m args c D (cA 0) nL h mc ms A cc own tys) (hkin : g_kin cA s) (hnm : s.vm.findClass "[[[[I" = some (cA 3)) (pre : va_W) (z1 : Nat) {index : Nat} (hcl : Cond.classLink own index "[[[[I" ∈ lw_good) (hc : cells + 67 ≤ mc) (hs : slots + 306 ≤ ms) (h90 : ad 90 = z) (h91 : ∀ i, i < 2 → ad (91 + i) = z + 1 + i * 33) (h93 : ∀ i s, i < 2 → s < 8 → ad (93 + 8 * i + s) = z + 1 + i * 33 + 1 + s * 4) (h109 : ∀ i s w, i < 2 → s < 8 → w < 3 → ad (109 + 24 * i + 3 * s + w) = z + 1 + i * 33 + 1 + s * 4 + 1 + w * 1) (hinj : ∀ i, i < 67 → ∀ j, j < 67 → ad (90 + i) = ad (90 + j) → i = j) (hge : ∀ t, t < 67 → z ≤ ad (90 + t)) (hz1 : z + 67 = z1) (hd : decode cc pc = .ok (.multianewarray index 4, 4))
    (kk : g_W p l e R s m args below meth c (cells + 67) (slots + 306) Q D nL A z1 (pc + 4) L (.ref z :: st) (pre ++ (g_blk ad cA 90 67 ++ ws))) : g_W p l e R s m args below meth c cells slots Q D nL A z pc L (.int 5 :: .int 3 :: .int 8 :: .int 2 :: st) (pre ++ ws) := by
  obtain ⟨hx, hb9, hml, hown, hts, hK9, ht, hA, hN9, hfr, hlo, hcl9, hsl⟩ := X
  have ok1 := gm_ok_1 (cA 0) 5
  have ok2 : gm_ok (gm_n (gm_1 (cA 0) 5) 1 (cA 1) 3) 4 18 (gm_C (fun _ _ => arrV (cA 0) 5 (fun _ => .int 0)) 1 (cA 1) 3) := gm_ok_n (by decide) ok1 (cA 1) 3
  have ok3 : gm_ok (gm_n (gm_n (gm_1 (cA 0) 5) 1 (cA 1) 3) 4 (cA 2) 8) 33 152 (gm_C (gm_C (fun _ _ => arrV (cA 0) 5 (fun _ => .int 0)) 1 (cA 1) 3) 4 (cA 2) 8) := gm_ok_n (by decide) ok2 (cA 2) 8
  have ok4 : gm_ok (gm_n (gm_n (gm_n (gm_1 (cA 0) 5) 1 (cA 1) 3) 4 (cA 2) 8) 33 (cA 3) 2) 67 306 (gm_C (gm_C (gm_C (fun _ _ => arrV (cA 0) 5 (fun _ => .int 0)) 1 (cA 1) 3) 4 (cA 2) 8) 33 (cA 3) 2) := gm_ok_n (by decide) ok3 (cA 3) 2
  refine g_ma_end hA pre 90 67 z1 ok4 (fun H1 h1 => g_P_iff.mpr fun x hx9 => ?_) hinj hge hz1 (fun T locs ls hTz XS => ?_) kk
  · obtain ⟨t, ht9, rfl⟩ := List.mem_map.mp hx9
    have ht8 := List.mem_range.mp ht9
    have c1 : ∀ i u, i < 2 → u < 33 → H1[z + 1 + i * 33 + u]? = some (gm_C (gm_C (fun _ _ => arrV (cA 0) 5 (fun _ => .int 0)) 1 (cA 1) 3) 4 (cA 2) 8 (z + 1 + i * 33) u) := fun i u hi hu => by
      have := h1 (1 + i * 33 + u) (by omega)
      rw [gm_C_s (by decide) hu] at this
      rw [← this]
      congr 1
      omega
    have c2 : ∀ i s u, i < 2 → s < 8 → u < 4 → H1[z + 1 + i * 33 + 1 + s * 4 + u]? = some (gm_C (fun _ _ => arrV (cA 0) 5 (fun _ => .int 0)) 1 (cA 1) 3 (z + 1 + i * 33 + 1 + s * 4) u) := fun i s u hi hs9 hu => by
      have := c1 i (1 + s * 4 + u) hi (by omega)
      rw [gm_C_s (by decide) hu] at this
      rw [← this]
      congr 1
      omega
    have c3 : ∀ i s w, i < 2 → s < 8 → w < 3 → H1[z + 1 + i * 33 + 1 + s * 4 + 1 + w * 1]? = some (arrV (cA 0) 5 (fun _ => .int 0)) := fun i s w hi hs9 hw => by
      have := c2 i s (1 + w * 1 + 0) hi hs9 (by omega)
      rw [gm_C_s (by decide) (by decide)] at this
      rw [← this]
      congr 1
      omega
    by_cases q0 : t = 0
    · subst q0
      have hcell := h1 0 (by decide)
      rw [gm_C_0] at hcell
      exact g_at_tab me_k90 hcell h90 (fun j hj => h91 j hj)
    · by_cases q1 : t < 3
      · obtain ⟨i, hi, rfl⟩ : ∃ i, i < 2 ∧ t = 1 + i := ⟨t - 1, by omega, by omega⟩
        have hcell := c1 i 0 hi (by decide)
        rw [gm_C_0] at hcell
        have hk : me_k (90 + (1 + i)) = (1, 8, 93 + 8 * i, 2) := by
          rcases (show i = 0 ∨ i = 1 by omega) with rfl | rfl
          · exact me_k91
          · exact me_k92
        exact g_at_tab hk hcell (by rw [show 90 + (1 + i) = 91 + i by omega]; exact h91 i hi) (fun j hj => h93 i j hi hj)
      · by_cases q2 : t < 19
        · obtain ⟨i, s9, hi, hs9, rfl⟩ : ∃ i s, i < 2 ∧ s < 8 ∧ t = 3 + 8 * i + s := ⟨(t - 3) / 8, (t - 3) % 8, by omega, by omega, by omega⟩
          have hcell := c2 i s9 0 hi hs9 (by decide)
          rw [gm_C_0] at hcell
          have hk := g_k93 (i := 90 + (3 + 8 * i + s9)) (by omega) (by omega)
          exact g_at_tab hk hcell (by rw [show 90 + (3 + 8 * i + s9) = 93 + 8 * i + s9 by omega]; exact h93 i s9 hi hs9) (fun j hj => by
            rw [show 109 + 3 * (90 + (3 + 8 * i + s9) - 93) + j = 109 + 24 * i + 3 * s9 + j by omega]
            exact h109 i s9 j hi hs9 hj)
        · obtain ⟨i, s9, w, hi, hs9, hw, rfl⟩ : ∃ i s w, i < 2 ∧ s < 8 ∧ w < 3 ∧ t = 19 + 24 * i + 3 * s + w := ⟨(t - 19) / 24, (t - 19) % 24 / 3, (t - 19) % 24 % 3, by omega, by omega, by omega, by omega⟩
          exact g_at_row (g_k109 (by omega) (by omega)) (g_z109 (by omega)) (c3 i s9 w hi hs9 hw) (by rw [show 90 + (19 + 24 * i + 3 * s9 + w) = 109 + 24 * i + 3 * s9 + w by omega]; exact h109 i s9 w hi hs9 hw)
  · have hl := fun (N : Nat) (hN : N ≤ 8) => g_lim (N := N) (k := 4) ⟨T, locs, cells, slots, XS⟩ (by omega) (by omega)
    obtain ⟨vm₁, a1, a2, a3⟩ := gm_go4 XS hx (own := own) (index := index) (name := "[[[[I") hown (hts _ hcl) hnm (g := F0 m pc ls (.int 5 :: .int 3 :: .int 8 :: .int 2 :: st)) rfl (by rw [hb9]; exact hd) rfl ok4 (Nat.le_trans hc hcl9) (Nat.le_trans hs hsl) (fun T locs cells slots X => gm_st_n ok3 (fun T locs cells slots X => gm_st_n ok2 (fun T locs cells slots X => gm_st_n ok1 (fun T locs cells slots X => gm_st_1 X (cA 0) 5) X (cA 1) 3) X (cA 2) 8) X (cA 3) 2) (fun V E hV => by
      obtain ⟨⟨k0, c0, x0, y0⟩, ⟨k1, x1, y1⟩, ⟨k2, x2, y2⟩, ⟨k3, x3, y3⟩⟩ := hkin.vm hV
      have w1 := gm_wp_1 (E := E) (e := e) (n := 5) (N := 5) x0 y0 (by decide) (by decide) (hl 5 (by decide)).1 (hl 5 (by decide)).2
      have w2 := gm_wp_n (E := E) (e := e) (n := 3) (N := 3) ok1 x1 y1 (by decide) (by decide) (hl 3 (by decide)).1 (hl 3 (by decide)).2 (by decide) w1
      have w3 := gm_wp_n (E := E) (e := e) (n := 8) (N := 8) ok2 x2 y2 (by decide) (by decide) (hl 8 (by decide)).1 (hl 8 (by decide)).2 (by decide) w2
      exact gm_wp_n (E := E) (e := e) (n := 2) (N := 2) ok3 x3 y3 (by decide) (by decide) (hl 2 (by decide)).1 (hl 2 (by decide)).2 (by decide) w3)
    exact ⟨vm₁, a1, a2, a3⟩
end GMA
