/-! ===== rows for the law and its helpers: its long[1], its handlers, its script ===== -/
section MEL
variable {p : Program} {l : Launch} {e : Env} {R : Room} {s : State} {m : MethodId} {args : Array Value} {below : List Frame} {meth : Method} {c : Code} {cells slots : Nat} {Q : State → Prop}
variable {D : va_G} {cA : Nat → ClassId} {ad : Nat → Nat} {n nt N0 nL pc h : Nat} {A : Nat → Prop} {cc : ByteArray} {own : String} {tys : List (ClassId × FieldType)} {L : List (Nat × Value)} {st : List Value} {M : me_M}
theorem me_w_set' {M' : me_M} {i : Nat} {e : va_E} (he : me_c ad cA M' i = e) (ho : ∀ j, j < n → j ≠ i → me_c ad cA M' j = me_c ad cA M j) : (me_w n ad cA M).set i (ad i, e) = me_w n ad cA M' := by
  apply List.ext_getElem?
  intro j
  rw [List.getElem?_set]
  by_cases hn : j < n
  · by_cases hj : i = j
    · subst hj
      rw [if_pos rfl, if_pos (by unfold me_w; rw [List.length_map, List.length_range]; exact hn), me_w_get hn, he]
    · rw [if_neg hj, me_w_get hn, me_w_get hn, ho j hn (fun q => hj q.symm)]
  · rw [me_w_none (M := M') hn]
    by_cases hj : i = j
    · subst hj
      rw [if_pos rfl, if_neg (by unfold me_w; rw [List.length_map, List.length_range]; exact hn)]
    · rw [if_neg hj, me_w_none hn]
theorem me_k_lt (j : Nat) (h : j < 424) : (me_k j).1 < 3 := by
  unfold me_k
  by_cases h1 : j < 93
  · rw [if_pos h1]
    have : ∀ j, j < 93 → (me_tab.getD j (0, 0, 0, 0)).1 < 3 := by decide +kernel
    exact this j h1
  · rw [if_neg h1]
    by_cases h2 : j < 109
    · rw [if_pos h2]; show 1 < 3; decide
    · rw [if_neg h2]
      by_cases h3 : j < 157
      · rw [if_pos h3]; show 0 < 3; decide
      · rw [if_neg h3]
        by_cases h4 : j = 157
        · rw [if_pos h4]; show 1 < 3; decide
        · rw [if_neg h4]
          by_cases h5 : j < 183
          · rw [if_pos h5]; show 0 < 3; decide
          · rw [if_neg h5]
            by_cases h6 : j = 183
            · rw [if_pos h6]; show 1 < 3; decide
            · rw [if_neg h6, if_pos h]; show 0 < 3; decide
theorem me_c_o {k : Nat} {x : Int64} {j : Nat} (hj : j < 424) : me_c ad cA (me_o M k x) j = me_c ad cA M j := by
  have hl : ∀ (cs : List Nat) (k0 : Nat), me_fl ad (me_o M k x) j k0 cs = me_fl ad M j k0 cs := by
    intro cs
    induction cs with
    | nil => intro _; rfl
    | cons f cs ih =>
      intro k0
      simp only [me_fl]
      rw [ih]
      congr 1
  have h3 := me_k_lt j hj
  unfold me_c
  generalize me_k j = z at h3 ⊢
  obtain ⟨k1, k2, k3, k4⟩ := z
  match k1, h3 with
  | 0, _ => rfl
  | 1, _ => rfl
  | 2, _ => simp only [me_cv]; rw [hl]
  | q + 3, h3 => exact absurd h3 (by show ¬ q + 3 < 3; omega)
theorem me_ty4 (X : me_X p R s m args c D cA ad n nt N0 nL cells slots h A cc own tys) (h5 : 4 < nt) : tys[4]? = some (cA 4, .long) := by
  rw [X.2.2.2.2.2.2.1 4 h5]
  rfl
theorem me_last (X : me_X p R s m args c D cA ad 425 nt N0 nL cells slots h A cc own tys) (h5 : 4 < nt) {v : Int64} (hd : decode cc pc = .ok (.lastore, 1)) (k : me_W p l e R s m args below meth c cells slots Q D cA ad 425 nL A (pc + 1) L st (me_o M 0 v)) : me_W p l e R s m args below meth c cells slots Q D cA ad 425 nL A pc L (.long v :: .int 0 :: .ref (ad 424) :: st) M := by
  intro H locs ls hP hS hlv
  have hg : (me_w 425 ad cA M)[424]? = some (ad 424, .inl (cA 4, 1, .inr (.inl M.2.2))) := by
    rw [me_w_get (by decide)]
    unfold me_c
    rw [me_k424]
    rfl
  refine va_last X.1 X.2.1 X.2.2.2.2.2.1 hP (X.2.2.2.2.2.2.2.1 M) hS 424 4 hg (me_ty4 X h5) (i := 0) (by show ¬ ((0 : Int32) < 0 ∨ 1 ≤ (0 : Int32).toNatClampNeg); decide) hd (fun H1 locs1 hP1 hD1 hS1 => ?_)
  have he : (0 : Int32).toNatClampNeg = 0 := by decide
  rw [he, me_w_set' (M' := me_o M 0 v) (by unfold me_c; rw [me_k424]; rfl) (fun j hj hne => me_c_o (by omega))] at hP1
  exact k H1 locs1 ls hP1 hS1 hlv
theorem me_lald (X : me_X p R s m args c D cA ad 425 nt N0 nL cells slots h A cc own tys) (h5 : 4 < nt) (hd : decode cc pc = .ok (.laload, 1)) (k : me_W p l e R s m args below meth c cells slots Q D cA ad 425 nL A (pc + 1) L (.long (M.2.2 0) :: st) M) : me_W p l e R s m args below meth c cells slots Q D cA ad 425 nL A pc L (.int 0 :: .ref (ad 424) :: st) M := by
  intro H locs ls hP hS hlv
  have hg : (me_w 425 ad cA M)[424]? = some (ad 424, .inl (cA 4, 1, .inr (.inl M.2.2))) := by
    rw [me_w_get (by decide)]
    unfold me_c
    rw [me_k424]
    rfl
  have he : (0 : Int32).toNatClampNeg = 0 := by decide
  refine va_lald X.1 X.2.1 X.2.2.2.2.2.1 hP 424 4 hg (me_ty4 X h5) (i := 0) (by show ¬ ((0 : Int32) < 0 ∨ 1 ≤ (0 : Int32).toNatClampNeg); decide) hd ?_
  rw [he]
  exact k H locs ls hP hS hlv
/-- the contract of a method with handlers -/
def me_Ch (l : Launch) (y : MethodName) (cc : ByteArray) (maxL : Nat) (ret : Option FieldType) (hh : List (Nat × Nat × Nat × Nat)) (h n nt : Nat) (av : (Nat → Nat) → List Value) (M : me_M) (r : Int32) (M' : me_M) : Prop :=
  ∀ (D : va_G) (cA : Nat → ClassId) (ad : Nat → Nat) (tys : List (ClassId × FieldType)) (sz : Nat), (∀ k, k < nt → tys[k]? = (me_tys cA)[k]?) → Met l y (Cond.codeWith y cc maxL ret hh :: lw_good) (me_rmx h) (va_Pc (av ad) (me_BX D cA ad n tys sz M)) (me_Qc D cA ad n (va_A (me_w n ad cA M) sz) (some (.int r)) M') 1 6 (va_A (me_w n ad cA M) sz)
set_option maxHeartbeats 1000000 in
theorem me_enterH {y : MethodName} {maxL : Nat} {ret : Option FieldType} {hh : List (Nat × Nat × Nat × Nat)} {av : (Nat → Nat) → List Value} {r : Int32} {M' : me_M} (own : String) (hown : y.cls = own) (hpl : plainName y.cls = true) (hN : N0 ≤ n) (hnt : 1 ≤ nt) (hfit : ∀ ad, (lg_sl (av ad)).length ≤ maxL)
    (body : ∀ (p : Program) (e : Env) (R : Room) (s : State) (m : MethodId) (args : Array Value) (below : List Frame) (meth : Method) (c : Code) (D : va_G) (cA : Nat → ClassId) (ad : Nat → Nat) (tys : List (ClassId × FieldType)) (A : Nat → Prop), me_X p R s m args c D cA ad n nt N0 maxL 0 0 h A cc own tys → meth.sig.returnType = ret → meth.locks = false → me_Z A s s.heap → c.exceptionTable.toList = tableOf hh → 1 ≤ R.cells → 6 ≤ R.slots → me_W p l e R s m args below meth c 0 0 (MQ below (me_Qc D cA ad n A (some (.int r)) M') args s 1 6 A) D cA ad n maxL A 0 (lv_args 0 (av ad)) [] M) : me_Ch l y cc maxL ret hh h n nt av M r M' := by
  intro D cA ad tys sz htys
  refine va_MetW (cc := cc) (maxL := maxL) (ret := ret) (hh := hh) hpl rfl ?_
  intro p e s m args below meth c s₁ B hml hv
  obtain ⟨rfl, ⟨hsz, hP, hK, hD0, hN9⟩, hz⟩ := hv
  have hts := atoms_spec (ws := Cond.codeWith y cc maxL ret hh :: lw_good) B.pre
  have hown9 : s.vm.findClass y.cls = some m.cls := findClass_of_methodNamed B.named
  have htab := vx_table (x := y) B (hts _ List.mem_cons_self)
  subst hsz
  have hD := hD0.self (sz := s.heap.size)
  generalize hAe : va_A (me_w n ad cA M) s.heap.size = A at hD hz ⊢
  have hA : ∀ q : Nat, s.heap.size ≤ q → A q := fun q h => by rw [← hAe]; exact Or.inr h
  have hS : va_S A s.heap s.heap [] := va_S.rf
  have hl := lv_entry (av ad) (n := maxL) (hfit ad)
  rw [lg_entry_eq]
  generalize (lg_sl (av ad) ++ List.replicate (maxL - (lg_sl (av ad)).length) Slot.unset).toArray = ls at hl ⊢
  subst hown
  exact body p e _ s m _ below meth c D cA ad tys A ⟨B.exec, B.bytes, hml, hown9, fun w hw => hts w (List.mem_cons_of_mem _ hw), hK, htys, fun M => me_w_D hD, hA, hN, hnt, Nat.zero_le _, Nat.zero_le _, hN9, Nat.le_refl _, Nat.le_refl _⟩ B.returns B.notSynchronized hz htab (Nat.le_refl _) (Nat.le_refl _) s.heap [] ls hP hS hl
theorem me_iretH (X : me_X p R s m args c D cA ad n nt N0 nL cells slots h A cc own tys) {v : Int32} (hc : cells ≤ 1) (hs : slots ≤ 6) (hr : meth.sig.returnType = some .int) (hlk : meth.locks = false) (hd : decode cc pc = .ok (.ireturn, 1)) : me_W p l e R s m args below meth c cells slots (MQ below (me_Qc D cA ad n A (some (.int v)) M) args s 1 6 A) D cA ad n nL A pc L [.int v] M := fun H locs ls hP hS _ => W.widen hc hs (W.iret X.1 X.2.1 hr (fun t ht _ => ⟨rfl, by rw [ht]; exact hP, hS.F ht⟩) hS.2.2 hd hlk)
theorem me_Xup {cells' slots' : Nat} (X : me_X p R s m args c D cA ad n nt N0 nL cells slots h A cc own tys) (h1 : cells' ≤ R.cells) (h2 : slots' ≤ R.slots) : me_X p R s m args c D cA ad n nt N0 nL cells' slots' h A cc own tys := by
  obtain ⟨hx, hb, hml, hown, hts, hK, htys, hD, hA, hN, hnt1, hcl, hsl, hnw, hfr, hlo⟩ := X
  exact ⟨hx, hb, hml, hown, hts, hK, htys, hD, hA, hN, hnt1, h1, h2, hnw, hfr, hlo⟩
set_option maxHeartbeats 2000000 in
/-- a call that throws, caught here -/
theorem me_callC (X : me_X p R s m args c D cA ad n nt N0 nL 0 0 h A cc own tys) (hz : me_Z A s s.heap) (hRc : 1 ≤ R.cells) (hRs : 6 ≤ R.slots) {y : MethodName} {bytes : ByteArray} {maxL index i ci h' nt' : Nat} {ret : Option FieldType} {av : (Nat → Nat) → List Value} {E nm : String} {M1 : me_M} (As : List Value) {stk : List Value}
    (hC : me_Cx l y bytes maxL ret h' n nt' av M E M1) (hV : me_V own index y bytes maxL ret ci As.length) (hav : av ad = .ref (ad i) :: As) (hstk : stk = As.reverse ++ .ref (ad i) :: st) (hi : i < N0) (hk : me_k i = (2, ci, 0, 0)) (hh : h' + 1 ≤ h) (hnt : nt' ≤ nt) (hw : (st.map fun v => v.category).sum ≤ 8) (hd : decode cc pc = .ok (.invokevirtual index, 3)) (hq : Cond.methodLink own index y ∈ lw_good)
    (pre suf : List ExceptionTableEntry) (x : ExceptionTableEntry) (hsplit : c.exceptionTable.toList = pre ++ x :: suf)
    (hpass : ∀ z ∈ pre, z.catchType ≠ 0 ∧ ∃ nm : String, Cond.classLink own z.catchType nm ∈ lw_good ∧ va_Nc E nm s) (hcov : covers x pc = true) (h0 : x.catchType ≠ 0) (hlink : Cond.classLink own x.catchType nm ∈ lw_good) (hcast : Cond.castable E nm ∈ lw_nest) (tgt : Nat) (htgt : x.handlerPc = tgt)
    (k : ∀ q : Nat, me_W p l e R s m args below meth c 1 6 Q D cA ad n nL A tgt L [.ref q] M1) : me_W p l e R s m args below meth c 0 0 Q D cA ad n nL A pc L stk M := by
  intro H locs ls hP hS hl
  obtain ⟨hx, hb, hml, hown, hts, hK, htys, hD, hA, hN, hnt1, hcl, hsl, hnw, hfr, hlo⟩ := X
  obtain ⟨⟨T, N, hc⟩, -, hin, hsel, hini, hcode, hy1, hy2, hna, hm21⟩ := hV
  subst hstk
  subst htgt
  have hM := hC D cA ad tys H.size (fun k hk => htys k (Nat.lt_of_lt_of_le hk hnt))
  rw [hav] at hM
  have hsub : ∀ q, va_A (me_w n ad cA M) H.size q → A q := by
    rintro q (⟨k9, e9, h9⟩ | h9)
    · exact (hD M).2 k9 _ h9
    · exact hA q (Nat.le_trans hS.1 h9)
  have hp : PreV s H y.cls (ad i) (va_Pc (.ref (ad i) :: As) (me_BX D cA ad n tys H.size M)) As := ⟨me_BX_blind, va_recv hK hP hc (me_w_obj (Nat.lt_of_lt_of_le hi hN) hk), fun U hU hW => ⟨rfl, ⟨by rw [hU], by rw [hU]; exact hP, va_K.moved hW.alike hK, (hD M).weaken (fun _ _ _ _ => trivial), me_nw_warm hW hnw⟩, hz.go hS hsub hU hW⟩⟩
  have hR : (me_rmx h').frames + 1 ≤ R.frames ∧ 8 + (maxL + 11) + (me_rmx h').locals ≤ R.locals := ⟨Nat.le_trans hh hfr, by show 8 + (maxL + 11) + 40 * h' ≤ R.locals; omega⟩
  have hG := me_good_in hcode
  have hr := vx_runV (C := y.cls) (g := F0 m pc ls (As.reverse ++ .ref (ad i) :: st)) (rest := st) (cells := 0) (slots := 0) (l := l) (p := p) (e := e) (below := below) (meth := meth) (locs := locs) ⟨hx, hb, hml, hown, hts⟩ hM ⟨callB_of As.length hts hG rfl rfl rfl (hts _ hini) (hts _ hq) ⟨hy1, hy2, hna⟩ hR, hts _ hin, hts _ hsel⟩ hp rfl rfl hl.1 rfl (lv_room hw) hd ⟨hRc, hRs⟩
  intro T9 hT9 XS
  rcases hr T9 hT9 XS with ⟨v, st₀, t, T', L9, h09, X', hL, e1, e2, hf, hgo⟩ | ⟨q, st₀, t, T', L9, E9, ce, h09, X', hL, e1, e2, ⟨rfl, hP1, hF1⟩, hce, hcv, hcl9, hsteps⟩
  · exact absurd hf id
  · have hS1 : va_S A s.heap T'.heap (locs ++ L9) := ⟨by rw [e1]; exact Nat.le_trans hS.1 (by have := hF1.1; rw [h09] at this; exact this), fun q9 h1 h2 => by
      rw [e1, hF1.2 q9 (by rw [h09]; exact Nat.lt_of_lt_of_le h1 hS.1) (fun z => h2 (hsub q9 z)), h09]
      exact hS.2.1 q9 h1 h2, fun z hz9 => by
        rcases List.mem_append.mp hz9 with h | h
        · exact hS.2.2 z h
        · exact hsub _ (hL z h)⟩
    have ho := vx_catch (pc := pc) (rest := st) (E := E9) (ce := ce) (q := q) (H := T'.heap) (locs := locs ++ L9) (cells := 0 + 1) (slots := 0 + 6) (Q := Q) (p := p) (l := l) (e := e) (R := R) (s := s) (m := m) (args := args) (below := below) (meth := meth) (c := c) (ls := ls) hown pre x suf hsplit (fun z hz9 => by
      obtain ⟨g1, nm9, g2, g3⟩ := hpass z hz9
      exact Or.inr ⟨g1, nm9, hts _ g2, g3⟩) hcov h0 (hts _ hlink) (va_Nw.use rfl (hnw _ hcast)) (by rw [e1]; exact hce) hcv hcl9 (k q T'.heap (locs ++ L9) ls (by rw [e1]; exact hP1) hS1 hl)
    obtain ⟨t2, a1, b1⟩ := ho T' rfl X'
    exact ⟨t2, hsteps.trans a1, b1⟩
def me_SH (own : String) (index : Nat) (y : MethodName) (bytes : ByteArray) (maxL : Nat) (ret : Option FieldType) (hh : List (Nat × Nat × Nat × Nat)) (na : Nat) : Prop := Cond.methodLink own index y ∈ lw_good ∧ Cond.static y ∈ lw_good ∧ Cond.initialized y.cls ∈ lw_good ∧ Cond.codeWith y bytes maxL ret hh ∈ lw_good ∧ y.cls ≠ "java/lang/invoke/MethodHandle" ∧ y.cls ≠ "java/lang/invoke/VarHandle" ∧ (parseMethodDescriptor y.desc).map (fun d => d.parameters.length) = some na ∧ maxL ≤ 21
set_option maxHeartbeats 2000000 in
theorem me_callSH (X : me_X p R s m args c D cA ad n nt N0 nL cells slots h A cc own tys) (hz : me_Z A s s.heap) (hRc : cells + 1 ≤ R.cells) (hRs : slots + 6 ≤ R.slots) {y : MethodName} {bytes : ByteArray} {maxL index h' nt' : Nat} {ret : Option FieldType} {hh : List (Nat × Nat × Nat × Nat)} {av : (Nat → Nat) → List Value} {r : Int32} {M1 : me_M} (As : List Value) {stk : List Value}
    (hC : me_Ch l y bytes maxL ret hh h' n nt' av M r M1) (hV : me_SH own index y bytes maxL ret hh As.length) (hav : av ad = As) (hstk : stk = As.reverse ++ st) (hh9 : h' + 1 ≤ h) (hnt : nt' ≤ nt) (hw : (st.map fun v => v.category).sum ≤ 8) (hd : decode cc pc = .ok (.invokestatic index, 3))
    (k : me_W p l e R s m args below meth c (cells + 1) (slots + 6) Q D cA ad n nL A (pc + 3) L (.int r :: st) M1) : me_W p l e R s m args below meth c cells slots Q D cA ad n nL A pc L stk M := by
  intro H locs ls hP hS hl
  obtain ⟨hx, hb, hml, hown, hts, hK, htys, hD, hA, hN, hnt1, hcl, hsl, hnw, hfr, hlo⟩ := X
  obtain ⟨hq, hin, hini, hcode, hy1, hy2, hna, hm21⟩ := hV
  subst hstk
  have hM := hC D cA ad tys H.size (fun k hk => htys k (Nat.lt_of_lt_of_le hk hnt))
  rw [hav] at hM
  have hsub : ∀ q, va_A (me_w n ad cA M) H.size q → A q := by
    rintro q (⟨k9, e9, h9⟩ | h9)
    · exact (hD M).2 k9 _ h9
    · exact hA q (Nat.le_trans hS.1 h9)
  have hp : PreS s H (va_Pc As (me_BX D cA ad n tys H.size M)) As := ⟨me_BX_blind, fun U hU hW => ⟨rfl, ⟨by rw [hU], by rw [hU]; exact hP, va_K.moved hW.alike hK, (hD M).weaken (fun _ _ _ _ => trivial), me_nw_warm hW hnw⟩, hz.go hS hsub hU hW⟩⟩
  have hR : (me_rmx h').frames + 1 ≤ R.frames ∧ 8 + (maxL + 11) + (me_rmx h').locals ≤ R.locals := ⟨Nat.le_trans hh9 hfr, by show 8 + (maxL + 11) + 40 * h' ≤ R.locals; omega⟩
  have hG : GoodIn lw_good (Cond.codeWith y bytes maxL ret hh :: lw_good) := by
    intro w hw9
    rcases List.mem_cons.mp hw9 with rfl | hw9
    · exact ⟨hcode, good_of_word (List.mem_filter.mp hcode).2⟩
    · exact ⟨hw9, good_of_word (List.mem_filter.mp hw9).2⟩
  have hr := vx_runSW (hh := hh) (g := F0 m pc ls (As.reverse ++ st)) (rest := st) (cells := cells) (slots := slots) (l := l) (p := p) (e := e) (below := below) (meth := meth) (locs := locs) (H := H) (R := R) (own := own) (index := index) (bytes := bytes) (maxL := maxL) (ret := ret) (n := As.length) ⟨hx, hb, hml, hown, hts⟩ hM ⟨⟨rfl, rfl, hR.1, hR.2, pay_in hts hG, List.mem_cons_self⟩, hts _ hcode, hts _ hini, ⟨hy1, hy2⟩, fun sig h9 => by rw [h9] at hna; exact (Option.some.inj hna).symm, hts _ hq, hts _ hin⟩ hp rfl rfl hl.1 rfl (lv_room hw) hd ⟨hRc, hRs⟩
  intro T9 hT9 XS
  obtain ⟨v, st₀, t, T', L9, h09, X', hL, e1, e2, ⟨hv, hb9, hz9, hk9⟩, hgo⟩ := hr T9 hT9 XS
  cases hv
  rw [h09] at hz9 hk9
  obtain ⟨t2, a1, b1⟩ := k T'.heap (locs ++ L9) ls (by rw [e1]; exact hb9)
    ⟨Nat.le_trans hS.1 (by rw [e1]; exact hz9), fun q h1 h2 => by rw [e1, hk9 q (Nat.lt_of_lt_of_le h1 hS.1) (fun z => h2 (hsub q z))]; exact hS.2.1 q h1 h2, fun q hq9 => by
      rcases List.mem_append.mp hq9 with h | h
      · exact hS.2.2 q h
      · exact hsub _ (hL q h)⟩ hl T' rfl X'
  exact ⟨t2, hgo t2 a1, b1⟩
def me_sr (xs : Nat → Int32) (Lx : Nat) (x : Int32) : Option Int32 := if x < 0 ∨ Lx ≤ x.toNatClampNeg then none else some (xs x.toNatClampNeg)
theorem me_sr_spec {xs : Nat → Int32} {Lx : Nat} {x v : Int32} (h : me_sr xs Lx x = some v) : vp_in x Lx ∧ v = xs x.toNatClampNeg := by
  unfold me_sr at h
  by_cases c : x < 0 ∨ Lx ≤ x.toNatClampNeg
  · rw [if_pos c] at h; cases h
  · rw [if_neg c] at h; cases h; exact ⟨c, rfl⟩
theorem me_sld (X : me_X p R s m args c D cA ad n nt N0 nL cells slots h A cc own tys) {b Lx : Nat} {xs : Nat → Int32} (hX : va_X b Lx xs s s.heap) (hbl : b < s.heap.size) (hbA : ¬ A b) {x v : Int32} (he : me_sr xs Lx x = some v) (hd : decode cc pc = .ok (.iaload, 1)) (k : me_W p l e R s m args below meth c cells slots Q D cA ad n nL A (pc + 1) L (.int v :: st) M) : me_W p l e R s m args below meth c cells slots Q D cA ad n nL A pc L (.int x :: .ref b :: st) M := by
  intro H locs ls hP hS hl
  obtain ⟨h1, rfl⟩ := me_sr_spec he
  exact va_sld X.1 X.2.1 hX hbl hbA hS h1 hd (k H locs ls hP hS hl)
theorem me_slen (X : me_X p R s m args c D cA ad n nt N0 nL cells slots h A cc own tys) {b Lx : Nat} {xs : Nat → Int32} (hX : va_X b Lx xs s s.heap) (hbl : b < s.heap.size) (hbA : ¬ A b) (hd : decode cc pc = .ok (.arraylength, 1)) (k : me_W p l e R s m args below meth c cells slots Q D cA ad n nL A (pc + 1) L (.int (Int32.ofNat Lx) :: st) M) : me_W p l e R s m args below meth c cells slots Q D cA ad n nL A pc L (.ref b :: st) M := by
  intro H locs ls hP hS hl
  exact va_slen X.1 X.2.1 hX hbl hbA hS hd (k H locs ls hP hS hl)
end MEL
