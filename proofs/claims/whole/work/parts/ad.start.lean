/-! ===== the law from its entry ===== -/
section GLW
variable {p : Program} {l : Launch} {e : Env} {R : Room} {s : State} {m : MethodId} {args : Array Value} {below : List Frame} {meth : Method} {c : Code} {cells slots : Nat} {Q : State → Prop}
variable {D : va_G} {cI : ClassId} {nL pc z h mc ms : Nat} {A : Nat → Prop} {cc : ByteArray} {own : String} {tys : List (ClassId × FieldType)} {L : List (Nat × Value)} {st : List Value} {ws : va_W}
theorem g_astore_n (X : g_X p R s m args c D cI nL h mc ms A cc own tys) {i : Fin 4} {x : Nat} (L' : List (Nat × Value)) (hn : (i : Nat) < nL) (hl : ((i : Nat), Value.ref x) :: L.filter (fun q => !(q.1 == (i : Nat)) && !(q.1 + 1 == (i : Nat) && q.2.category == 2)) = L') (hd : decode cc pc = .ok (.astore_n i, 1)) (k : g_W p l e R s m args below meth c cells slots Q D nL A z (pc + 1) L' st ws) : g_W p l e R s m args below meth c cells slots Q D nL A z pc L (.ref x :: st) ws := fun H locs ls hz hP hD hS h => lv_astore_n X.1 X.2.1 hd rfl h hn hl (fun ls' h' => k H locs ls' hz hP hD hS h')
theorem g_newl (X : g_X p R s m args c D cI nL h mc ms A cc own tys) (pre : va_W) (z1 : Nat) (hz1 : z + 1 = z1) {n : Int32} {N : Nat} {cL : ClassId} (t : Nat) (htL : tys[t]? = some (cL, .long)) (harr : Cond.arrayClass .long ∈ lw_good) (hn : ¬ n < 0) (hN : n.toNatClampNeg = N) (hb : N * 8 ≤ 536870912) (hc : cells + 1 ≤ mc) (hs : slots + N ≤ ms) (hd : decode cc pc = .ok (.newarray .long, 2)) (kk : g_W p l e R s m args below meth c (cells + 1) (slots + N) Q D nL A z1 (pc + 2) L (.ref z :: st) (pre ++ ((z, .inl (cL, N, .inr (.inl (fun _ => 0)))) :: ws))) : g_W p l e R s m args below meth c cells slots Q D nL A z pc L (.int n :: st) (pre ++ ws) := by
  intro H locs ls hz hP hD hS hlv
  obtain ⟨hx, hb9, hml, hown, hts, hK, ht, hA, hN9, hfr, hlo, hcl, hsl⟩ := X
  refine va_newaK hx hb9 (atype := .long) (hts _ harr) rfl hd rfl hn hN hb (Nat.le_trans hc hcl) (Nat.le_trans hs hsl) hz fun H1 cA e1 zz o1 hAr hNm => ?_
  have hcA : cA = cL := Option.some.inj (hNm.symm.trans (hK.2 t _ htL).2)
  subst hcA
  obtain ⟨a1, a2, a3⟩ := g_grow (new := [(z, .inl (cA, N, .inr (.inl (fun _ => 0))))]) hP hD hS hA (by rw [hz]; exact o1) (by omega) (g_P_iff.mpr fun x hx9 => by
    rw [List.mem_singleton] at hx9
    subst hx9
    exact e1) (by simp) (fun x hx9 => by
    rw [List.mem_singleton] at hx9
    subst hx9
    show H.size ≤ z
    omega)
  exact kk H1 locs ls (zz.trans hz1) a1 a2 a3 hlv
set_option maxHeartbeats 2000000 in
/-- a constructor whose end is told as a memory -/
theorem g_callM (X : g_X p R s m args c D cI nL h mc ms A cc own tys) {y : MethodName} {bytes : ByteArray} {maxL index a h' mc' ms' n : Nat} {Bp : State → Prop} {cA : Nat → ClassId} {ad : Nat → Nat} {M1 : me_M} (As : List Value) {stk : List Value}
    (hM : Met l y (Cond.code y bytes maxL none :: lw_good) (g_rm h' mc' ms') (va_Pc (.ref a :: As) Bp) (me_Qc D cA ad n (va_A ws z) none M1) mc' ms' (va_A ws z)) (hB : ∀ H : Heap, H.size = z → va_P D vwCl ws H → va_D A ws → PreS s H (va_Pc (.ref a :: As) Bp) (.ref a :: As)) (hV : g_V own index y bytes maxL As.length) (hstk : stk = As.reverse ++ .ref a :: st) (hh : h' + 1 ≤ h) (hc : cells + mc' ≤ mc) (hs : slots + ms' ≤ ms) (hw : (st.map fun v => v.category).sum ≤ 8) (hd : decode cc pc = .ok (.invokespecial index, 3)) (hinj : ∀ i, i < n → ∀ j, j < n → ad i = ad j → i = j) (hAd : ∀ i, i < n → A (ad i))
    (kk : ∀ z1, z ≤ z1 → (∀ i, i < n → ad i < z1) → g_W p l e R s m args below meth c (cells + mc') (slots + ms') Q D nL A z1 (pc + 3) L st (me_w n ad cA M1)) : g_W p l e R s m args below meth c cells slots Q D nL A z pc L stk ws := by
  intro H locs ls hz hP hD hS hlv
  obtain ⟨hx, hb9, hml, hown, hts, hK, ht, hA, hnw, hfr, hlo, hcl, hsl⟩ := X
  obtain ⟨hlk, hin, hini, hcode, hy1, hy2, hna, hm21, hyn⟩ := hV
  subst hstk
  have hp := hB H hz hP hD
  have hR : (g_rm h' mc' ms').frames + 1 ≤ R.frames ∧ 8 + (maxL + 11) + (g_rm h' mc' ms').locals ≤ R.locals := ⟨Nat.le_trans hh hfr, by show 8 + (maxL + 11) + 40 * h' ≤ R.locals; omega⟩
  have hG := me_good_in hcode
  have hr : va_Run p l e R s m args below meth c H locs cells slots mc' ms' (F0 m pc ls (As.reverse ++ .ref a :: st)) st (me_Qc D cA ad n (va_A ws z) none M1 (Value.ref a :: As).toArray) (va_A ws z) := by
    rcases hlk with hq | ⟨host, hq⟩
    · exact va_runI ⟨hx, hb9, hml, hown, hts⟩ hM ⟨callB_of As.length hts hG rfl rfl rfl (hts _ hini) (hts _ hq) ⟨hy1, hy2, hna⟩ hR, hyn, hts _ hin⟩ hp rfl rfl hlv.1 rfl (lv_room hw) hd ⟨Nat.le_trans hc hcl, Nat.le_trans hs hsl⟩
    · exact va_runIN ⟨hx, hb9, hml, hown, hts⟩ hM ⟨va_cnB As.length hts hG rfl rfl rfl (hnw _ hq) (hts _ hini) ⟨hy1, hy2, hna⟩ hR, hyn, hts _ hin⟩ hp rfl rfl hlv.1 rfl (lv_room hw) hd ⟨Nat.le_trans hc hcl, Nat.le_trans hs hsl⟩
  intro T hT XS
  obtain ⟨v, st₀, t, T', L9, h0, X', hL, e1, e2, ⟨hv, hP1, hzF, hkF⟩, hgo⟩ := hr T hT XS
  cases hv
  rw [h0] at hzF hkF
  have hsub : ∀ q, va_A ws z q → A q := by
    rintro q (⟨k9, e9, h9⟩ | h9)
    · exact hD.2 k9 _ h9
    · exact hA q (Nat.le_trans hS.1 (by omega))
  have hD1 : va_D A (me_w n ad cA M1) := by
    refine ⟨fun i j x y hi hj e9 => ?_, fun k q hq => ?_⟩
    · by_cases li : i < n
      · by_cases lj : j < n
        · rw [me_w_get li] at hi
          rw [me_w_get lj] at hj
          cases hi
          cases hj
          exact hinj i li j lj e9
        · rw [me_w_none lj] at hj
          cases hj
      · rw [me_w_none li] at hi
        cases hi
    · by_cases lk : k < n
      · rw [me_w_get lk] at hq
        cases hq
        exact hAd k lk
      · rw [me_w_none lk] at hq
        cases hq
  have hS1 : va_S A s.heap T'.heap (locs ++ L9) := ⟨by rw [e1]; exact Nat.le_trans hS.1 hzF, fun q h1 h2 => by rw [e1, hkF q (Nat.lt_of_lt_of_le h1 hS.1) (fun z => h2 (hsub q z))]; exact hS.2.1 q h1 h2, fun q hq => by
      rcases List.mem_append.mp hq with h | h
      · exact hS.2.2 q h
      · exact hsub _ (hL q h)⟩
  obtain ⟨t2, b1, b2⟩ := kk t.heap.size (by omega) (fun i hi => (hP1 i _ (me_w_get hi)).lt) T'.heap (locs ++ L9) ls (by rw [e1]) (by rw [e1]; exact hP1) hD1 hS1 hlv T' rfl X'
  exact ⟨t2, hgo t2 b1, b2⟩
end GLW
theorem g_over {args : Array Value} {s : State} {t : FieldType} (h : (Cond.arrayOver (.array t)).before args s = true) : ∃ comp c k, s.vm.findClass (FieldType.array t).toString = some comp ∧ s.vm.classes[c]? = some k ∧ k.kind = .array comp (.array t) ∧ s.vm.findClass ("[" ++ (FieldType.array t).toString) = some c := by
  simp only [Cond.before, Cond.holds, Cond.value, beq_iff_eq, Option.bind_eq_some_iff, Option.map_eq_some_iff] at h
  obtain ⟨comp, h1, c, h2, k, h3, h4⟩ := h
  have h5 := (Array.findIdx?_eq_some_iff_getElem.mp h2).2.1
  rw [(Array.getElem?_eq_some_iff.mp h3).2] at h5
  refine ⟨comp, c, k, h1, h3, ?_⟩
  split at h4
  · rename_i x y hxy
    rw [hxy] at h5 ⊢
    rw [Bool.and_eq_true, decide_eq_true_eq, decide_eq_true_eq] at h4
    exact ⟨by rw [eq_of_beq h5, h4.1], h4.2⟩
  · exact absurd h4 (by decide)
theorem g_arrOf {s : State} {cA comp : ClassId} {k : Class} {ty : FieldType} (hk : s.vm.classes[cA]? = some k) (hkind : k.kind = .array comp ty) : ArrOfT s cA ty := fun n z => ⟨fun x => by simp [arrV], k, hk, comp, hkind⟩
/-- the rows' classes, as the tables have them -/
theorem g_rows {args : Array Value} {s : State} (hts : ∀ w ∈ lw_tbl, w.before args s = true) (hi : (Cond.arrayClass .int).before args s = true) (hL : (Cond.arrayClass .long).before args s = true) : ∃ cA : Nat → ClassId, g_kin cA s ∧ ∀ (k : Nat) (q : ClassId × FieldType), (me_tys cA)[k]? = some q → ArrOfT s q.1 q.2 ∧ va_RA s q.1 q.2 := by
  obtain ⟨c0, k0, p0, f0, x0, y0⟩ := Cond.arrayClass_spec hi
  obtain ⟨c4, k4, p4, f4, x4, y4⟩ := Cond.arrayClass_spec hL
  obtain ⟨p1, c1, k1, g1, x1, y1, f1⟩ := g_over (hts _ tl_o1)
  obtain ⟨p2, c2, k2, g2, x2, y2, f2⟩ := g_over (hts _ tl_o2)
  obtain ⟨p3, c3, k3, g3, x3, y3, f3⟩ := g_over (hts _ tl_o3)
  have e1 : p1 = c0 := Option.some.inj (g1.symm.trans f0)
  have e2 : p2 = c1 := Option.some.inj (g2.symm.trans f1)
  have e3 : p3 = c2 := Option.some.inj (g3.symm.trans f2)
  subst e1
  subst e2
  subst e3
  refine ⟨fun k => if k = 0 then p1 else if k = 1 then p2 else if k = 2 then p3 else if k = 3 then c3 else c4, ⟨⟨k0, p0, x0, y0⟩, ⟨k1, x1, y1⟩, ⟨k2, x2, y2⟩, ⟨k3, x3, y3⟩⟩, ?_⟩
  intro k q hq
  match k, hq with
  | 0, hq => cases hq; exact ⟨g_arrOf x0 y0, f0⟩
  | 1, hq => cases hq; exact ⟨g_arrOf x1 y1, f1⟩
  | 2, hq => cases hq; exact ⟨g_arrOf x2 y2, f2⟩
  | 3, hq => cases hq; exact ⟨g_arrOf x3 y3, f3⟩
  | 4, hq => cases hq; exact ⟨g_arrOf x4 y4, f4⟩
  | k + 5, hq => simp [me_tys] at hq
