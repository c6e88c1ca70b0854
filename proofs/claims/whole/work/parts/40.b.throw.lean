/-! ===== throws: what the machine's own tables give, the contract of a call that throws ===== -/
def me_Z (A : Nat → Prop) (U : State) (H : Heap) : Prop := vx_Zq Bundle.tN "UNASSIGNED_STACK" Bundle.steD A U H ∧ vx_Zq Bundle.tN "SUPPRESSED_SENTINEL" Bundle.listD A U H ∧ (∃ a, vk_R RX11 435 "no such side, row, place, document, letter or hit" a U) ∧ (∃ a, vk_R RX11 442 "an argument that the call does not take" a U) ∧ (∃ a, vk_R RX11 447 "the cursor has as many letters as it can" a U) ∧ va_Nc "java/lang/IllegalArgumentException" "java/util/NoSuchElementException" U ∧ va_Nc "java/lang/IllegalStateException" "java/lang/IllegalArgumentException" U
theorem me_Z.go {A B : Nat → Prop} {s U : State} {H : Heap} {locs : List Loc} (hz : me_Z A s s.heap) (hS : va_S A s.heap H locs) (hAB : ∀ q, B q → A q) (hU : U.heap = H) (hW : s.WarmedH U.vm) : me_Z B U U.heap := by
  obtain ⟨h1, h2, ⟨a3, h3⟩, ⟨a4, h4⟩, ⟨a5, h5⟩, h6, h7⟩ := hz
  rw [hU]
  exact ⟨((h1.kept (fun a ha hn => hS.2.1 a ha hn)).narrow hAB).moved hW.alike, ((h2.kept (fun a ha hn => hS.2.1 a ha hn)).narrow hAB).moved hW.alike, ⟨a3, h3.warm hW⟩, ⟨a4, h4.warm hW⟩, ⟨a5, h5.warm hW⟩, h6.moved hW.alike, h7.moved hW.alike⟩
theorem me_Z.same {A : Nat → Prop} {u U : State} (hv : U.vm = u.vm) (hh : U.heap = u.heap) (hz : me_Z A u u.heap) : me_Z A U U.heap := by
  obtain ⟨h1, h2, ⟨a3, h3⟩, ⟨a4, h4⟩, ⟨a5, h5⟩, h6, h7⟩ := hz
  have hal : u.vm.Alike U.vm := by rw [hv]; exact Vm.Alike.refl _
  rw [hh]
  exact ⟨h1.moved hal, h2.moved hal, ⟨a3, h3.same hv⟩, ⟨a4, h4.same hv⟩, ⟨a5, h5.same hv⟩, h6.moved hal, h7.moved hal⟩
abbrev me_rmx (h : Nat) : Room := { frames := h, cells := 1, slots := 6, locals := 40 * h }
def me_XC (D : va_G) (cA : Nat → ClassId) (ad : Nat → Nat) (n : Nat) (A : Nat → Prop) (E : String) (M' : me_M) : String → State → State → Prop := fun E' st t => E' = E ∧ va_P D vwCl (me_w n ad cA M') t.heap ∧ va_F A st t
def me_BX (D : va_G) (cA : Nat → ClassId) (ad : Nat → Nat) (n : Nat) (tys : List (ClassId × FieldType)) (sz : Nat) (M : me_M) (U : State) : Prop := me_B D cA ad n tys sz M U ∧ me_Z (va_A (me_w n ad cA M) sz) U U.heap
def me_QF : Array Value → State → Outcome → State → Prop := fun _ _ _ _ => False
/-- the contract of a call that throws E -/
def me_Cx (l : Launch) (y : MethodName) (cc : ByteArray) (maxL : Nat) (ret : Option FieldType) (h n nt : Nat) (av : (Nat → Nat) → List Value) (M : me_M) (E : String) (M' : me_M) : Prop :=
  ∀ (D : va_G) (cA : Nat → ClassId) (ad : Nat → Nat) (tys : List (ClassId × FieldType)) (sz : Nat), (∀ k, k < nt → tys[k]? = (me_tys cA)[k]?) → vx_Met l y (Cond.code y cc maxL ret :: lw_good) (me_rmx h) (va_Pc (av ad) (me_BX D cA ad n tys sz M)) me_QF (me_XC D cA ad n (va_A (me_w n ad cA M) sz) E M') 1 6 (va_A (me_w n ad cA M) sz)
theorem me_BX_blind {D : va_G} {cA : Nat → ClassId} {ad : Nat → Nat} {n : Nat} {tys : List (ClassId × FieldType)} {sz : Nat} {M : me_M} {av : List Value} : FrameBlind (va_Pc av (me_BX D cA ad n tys sz M)) := by
  intro a U g mk q
  obtain ⟨q0, q1, qz⟩ := q
  exact ⟨q0, (me_B_blind (av := av) a U g mk ⟨q0, q1⟩).2, me_Z.same (u := U) (U := U.calling g mk a) rfl rfl qz⟩
set_option maxHeartbeats 1000000 in
theorem me_enterX {l : Launch} {y : MethodName} {cc : ByteArray} {maxL : Nat} {ret : Option FieldType} {h n nt N0 : Nat} {av : (Nat → Nat) → List Value} {M : me_M} {E : String} {M' : me_M} (own : String) (hown : y.cls = own) (hpl : plainName y.cls = true) (hN : N0 ≤ n) (hnt : 1 ≤ nt) (hfit : ∀ ad, (lg_sl (av ad)).length ≤ maxL)
    (body : ∀ (p : Program) (e : Env) (R : Room) (s : State) (m : MethodId) (args : Array Value) (below : List Frame) (meth : Method) (c : Code) (D : va_G) (cA : Nat → ClassId) (ad : Nat → Nat) (tys : List (ClassId × FieldType)) (A : Nat → Prop), me_X p R s m args c D cA ad n nt N0 maxL 0 0 h A cc own tys → meth.sig.returnType = ret → meth.locks = false → me_Z A s s.heap → (∀ x ∈ c.exceptionTable.toList, False) → 1 ≤ R.cells → 6 ≤ R.slots → me_W p l e R s m args below meth c 0 0 (vx_MQ below me_QF (me_XC D cA ad n A E M') args s 1 6 A) D cA ad n maxL A 0 (lv_args 0 (av ad)) [] M) : me_Cx l y cc maxL ret h n nt av M E M' := by
  intro D cA ad tys sz htys
  refine vx_ofW (cc := cc) (maxL := maxL) (ret := ret) hpl rfl ?_
  intro p e s m args below meth c s₁ B hml htab hv
  obtain ⟨rfl, ⟨hsz, hP, hK, hD0, hN9⟩, hz⟩ := hv
  have hts := atoms_spec (ws := Cond.code y cc maxL ret :: lw_good) B.pre
  have hown9 : s.vm.findClass y.cls = some m.cls := findClass_of_methodNamed B.named
  subst hsz
  have hD := hD0.self (sz := s.heap.size)
  generalize hAe : va_A (me_w n ad cA M) s.heap.size = A at hD hz ⊢
  have hA : ∀ q : Nat, s.heap.size ≤ q → A q := fun q h => by rw [← hAe]; exact Or.inr h
  have hS : va_S A s.heap s.heap [] := va_S.rf
  have hl := lv_entry (av ad) (n := maxL) (hfit ad)
  rw [lg_entry_eq]
  generalize (lg_sl (av ad) ++ List.replicate (maxL - (lg_sl (av ad)).length) Slot.unset).toArray = ls at hl ⊢
  subst hown
  exact body p e _ s m _ below meth c D cA ad tys A ⟨B.exec, B.bytes, hml, hown9, fun w hw => hts w (List.mem_cons_of_mem _ hw), hK, htys, fun M => me_w_D hD, hA, hN, hnt, Nat.zero_le _, Nat.zero_le _, hN9, Nat.le_refl _, Nat.le_refl _⟩ B.returns B.notSynchronized hz htab (Nat.le_refl _) (Nat.le_refl _) s.heap [] ls hP hS hl
section MEX
variable {p : Program} {l : Launch} {e : Env} {R : Room} {s : State} {m : MethodId} {args : Array Value} {below : List Frame} {meth : Method} {c : Code} {cells slots : Nat} {Q : State → Prop}
variable {D : va_G} {cA : Nat → ClassId} {ad : Nat → Nat} {n nt N0 nL pc h : Nat} {A : Nat → Prop} {cc : ByteArray} {own : String} {tys : List (ClassId × FieldType)} {L : List (Nat × Value)} {st : List Value} {M : me_M}
set_option maxHeartbeats 2000000 in
theorem me_throw (X : me_X p R s m args c D cA ad n nt N0 nL 0 0 h A cc RX11 tys) (hl : l.stackTraces = false) (hz : me_Z A s s.heap) (htab : ∀ x ∈ c.exceptionTable.toList, False) (hlk : meth.locks = false) (hRc : 1 ≤ R.cells) (hRs : 6 ≤ R.slots) (h6 : 6 ≤ h) {cls text : String} {ik is ic : Nat} {Qc : Array Value → State → Outcome → State → Prop}
    (hstr : ∃ a, vk_R RX11 is text a s) (hcls : Bundle.fit cls = true) (hk : Cond.classLink RX11 ik cls ∈ lw_good) (hini : Cond.initialized cls ∈ lw_good)
    (hw1 : ∀ w ∈ (vx_atS RX11 ic cls ["java/lang/RuntimeException", "java/lang/Exception"]).filter goodWord, w ∈ lw_good) (hw2 : ∀ w ∈ (vx_atS RX11 ic cls ["java/lang/RuntimeException", "java/lang/Exception"]).filter (fun w => !goodWord w), w ∈ lw_nest)
    (hw3 : ∀ w ∈ Cond.classLink RX11 ik cls :: Cond.initialized cls :: vx_atS RX11 ic cls ["java/lang/RuntimeException", "java/lang/Exception"], vx_ot w = true)
    (d0 : decode cc pc = .ok (.new ik, 3)) (d3 : decode cc (pc + 3) = .ok (.dup, 1)) (d4 : decode cc (pc + 4) = .ok (.ldc_w is, 3)) (d7 : decode cc (pc + 7) = .ok (.invokespecial ic, 3)) (d10 : decode cc (pc + 10) = .ok (.athrow, 1)) :
    me_W p l e R s m args below meth c 0 0 (vx_MQ below Qc (me_XC D cA ad n A cls M) args s 1 6 A) D cA ad n nL A pc L [] M := by
  intro H locs ls hP hS hlv
  obtain ⟨hx, hb, hml, hown, hts, hK, htys, hD, hA, hN, hnt1, hcl, hsl, hnw, hfr, hlo⟩ := X
  obtain ⟨sa, hstr⟩ := hstr
  have hgw : ∀ w ∈ lw_nest, w.before args s = true := fun w hw => va_Nw.use (by have hq := (List.mem_filter.mp hw).2; cases w <;> first | rfl | cases hq) (hnw w hw)
  refine vx_throwSW (own := RX11) (cls := cls) (text := text) (names := ["java/lang/RuntimeException", "java/lang/Exception"]) (ik := ik) (is := is) (ic := ic) (mc := 1) (ms := 6) (sa := sa) (A := A) hx hb hl hown hcls (by decide +kernel) (hts _ hk) (hts _ hini) hstr (vx_hat (fun w hw => hts w (hw1 w hw)) hw2 hgw) hw3 hz.1 hz.2.1 hS (hlv.1.trans hml.symm) d0 d3 d4 d7 d10 (fun x hx => absurd (htab x hx) id) (by show 2 + 3 < R.frames; omega) (by show 0 + (13 * (2 + 1) + 43) ≤ R.locals; omega) hRc hRs hlk (fun t hal hsz hq => ⟨rfl, hP.kept (fun k9 x hx => hq x.1 ((hP k9 x hx).lt)), Nat.le_trans hS.1 hsz, fun q h1 h2 => by rw [hq q (Nat.lt_of_lt_of_le h1 hS.1)]; exact hS.2.1 q h1 h2⟩) hS.2.2 (Nat.le_refl _) (Nat.le_refl _)
set_option maxHeartbeats 2000000 in
theorem me_throwN (X : me_X p R s m args c D cA ad n nt N0 nL 0 0 h A cc RX11 tys) (hl : l.stackTraces = false) (hz : me_Z A s s.heap) (htab : ∀ x ∈ c.exceptionTable.toList, False) (hlk : meth.locks = false) (hRc : 1 ≤ R.cells) (hRs : 6 ≤ R.slots) (h6 : 6 ≤ h) {text : String} {ik is ic : Nat} {Qc : Array Value → State → Outcome → State → Prop}
    (hstr : ∃ a, vk_R RX11 is text a s) (hk : Cond.classLink RX11 ik ns_X ∈ lw_good) (hini : Cond.initialized ns_X ∈ lw_good)
    (hw1 : ∀ w ∈ (ns_atS RX11 ic).filter goodWord, w ∈ lw_good) (hw2 : ∀ w ∈ (ns_atS RX11 ic).filter (fun w => !goodWord w), w ∈ lw_nest)
    (hw3 : ∀ w ∈ Cond.classLink RX11 ik ns_X :: Cond.initialized ns_X :: ns_atS RX11 ic, vx_ot w = true)
    (d0 : decode cc pc = .ok (.new ik, 3)) (d3 : decode cc (pc + 3) = .ok (.dup, 1)) (d4 : decode cc (pc + 4) = .ok (.ldc_w is, 3)) (d7 : decode cc (pc + 7) = .ok (.invokespecial ic, 3)) (d10 : decode cc (pc + 10) = .ok (.athrow, 1)) :
    me_W p l e R s m args below meth c 0 0 (vx_MQ below Qc (me_XC D cA ad n A ns_X M) args s 1 6 A) D cA ad n nL A pc L [] M := by
  intro H locs ls hP hS hlv
  obtain ⟨hx, hb, hml, hown, hts, hK, htys, hD, hA, hN, hnt1, hcl, hsl, hnw, hfr, hlo⟩ := X
  obtain ⟨sa, hstr⟩ := hstr
  have hgw : ∀ w ∈ lw_nest, w.before args s = true := fun w hw => va_Nw.use (by have hq := (List.mem_filter.mp hw).2; cases w <;> first | rfl | cases hq) (hnw w hw)
  refine ns_throw (own := RX11) (text := text) (ik := ik) (is := is) (ic := ic) (mc := 1) (ms := 6) (sa := sa) (A := A) hx hb hl hown (hts _ hk) (hts _ hini) hstr (vx_hat (fun w hw => hts w (hw1 w hw)) hw2 hgw) hw3 hz.1 hz.2.1 hS (hlv.1.trans hml.symm) d0 d3 d4 d7 d10 (fun x hx => absurd (htab x hx) id) (by omega) (by show 0 + (13 * 3 + 43) ≤ R.locals; omega) hRc hRs hlk (fun t hal hsz hq => ⟨rfl, hP.kept (fun k9 x hx => hq x.1 ((hP k9 x hx).lt)), Nat.le_trans hS.1 hsz, fun q h1 h2 => by rw [hq q (Nat.lt_of_lt_of_le h1 hS.1)]; exact hS.2.1 q h1 h2⟩) hS.2.2 (Nat.le_refl _) (Nat.le_refl _)
set_option maxHeartbeats 2000000 in
/-- a call that throws, out of a method that has no handler -/
theorem me_callX (X : me_X p R s m args c D cA ad n nt N0 nL 0 0 h A cc own tys) (hz : me_Z A s s.heap) (htab : ∀ x ∈ c.exceptionTable.toList, False) (hlk : meth.locks = false) (hRc : 1 ≤ R.cells) (hRs : 6 ≤ R.slots) {y : MethodName} {bytes : ByteArray} {maxL index i ci h' nt' : Nat} {ret : Option FieldType} {av : (Nat → Nat) → List Value} {E : String} {M1 : me_M} (As : List Value) {stk : List Value}
    (hC : me_Cx l y bytes maxL ret h' n nt' av M E M1) (hV : me_V own index y bytes maxL ret ci As.length) (hav : av ad = .ref (ad i) :: As) (hstk : stk = As.reverse ++ .ref (ad i) :: st) (hi : i < N0) (hk : me_k i = (2, ci, 0, 0)) (hh : h' + 1 ≤ h) (hnt : nt' ≤ nt) (hw : (st.map fun v => v.category).sum ≤ 8) (hd : decode cc pc = .ok (.invokevirtual index, 3)) (hq : Cond.methodLink own index y ∈ lw_good) :
    me_W p l e R s m args below meth c 0 0 (vx_MQ below me_QF (me_XC D cA ad n A E M1) args s 1 6 A) D cA ad n nL A pc L stk M := by
  intro H locs ls hP hS hl
  obtain ⟨hx, hb, hml, hown, hts, hK, htys, hD, hA, hN, hnt1, hcl, hsl, hnw, hfr, hlo⟩ := X
  obtain ⟨⟨T, N, hc⟩, -, hin, hsel, hini, hcode, hy1, hy2, hna, hm21⟩ := hV
  subst hstk
  have hM := hC D cA ad tys H.size (fun k hk => htys k (Nat.lt_of_lt_of_le hk hnt))
  rw [hav] at hM
  have hsub : ∀ q, va_A (me_w n ad cA M) H.size q → A q := by
    rintro q (⟨k9, e9, h9⟩ | h9)
    · exact (hD M).2 k9 _ h9
    · exact hA q (Nat.le_trans hS.1 h9)
  have hp : PreV s H y.cls (ad i) (va_Pc (.ref (ad i) :: As) (me_BX D cA ad n tys H.size M)) As := ⟨me_BX_blind, va_recv hK hP hc (me_w_obj (Nat.lt_of_lt_of_le hi hN) hk), fun U hU hW => ⟨rfl, ⟨by rw [hU], by rw [hU]; exact hP, va_K.moved hW.alike hK, (hD M).weaken (fun _ _ _ _ => trivial), me_nw_warm hW hnw⟩, hz.go hS hsub hU hW⟩⟩
  have hR : (me_rmx h').frames + 1 ≤ R.frames ∧ 8 + (maxL + 11) + (me_rmx h').locals ≤ R.locals := ⟨Nat.le_trans hh hfr, by show 8 + (maxL + 11) + 40 * h' ≤ R.locals; omega⟩
  have hG := me_good_in hcode
  have hr := vx_runV (C := y.cls) (g := F0 m pc ls (As.reverse ++ .ref (ad i) :: st)) (rest := st) (cells := 0) (slots := 0) (l := l) (p := p) (e := e) (below := below) (meth := meth) (locs := locs) ⟨hx, hb, hml, hown, hts⟩ hM ⟨callB_of As.length hts hG rfl rfl rfl (hts _ hini) (hts _ hq) ⟨hy1, hy2, hna⟩ hR, hts _ hin, hts _ hsel⟩ hp rfl rfl hl.1 rfl (lv_room hw) hd ⟨hRc, hRs⟩
  intro T9 hT9 XS
  rcases hr T9 hT9 XS with ⟨v, st₀, t, T', L9, h0, X', hL, e1, e2, hf, hgo⟩ | ⟨q, st₀, t, T', L9, E9, ce, h0, X', hL, e1, e2, ⟨rfl, hP1, hF1⟩, hce, hcv, hcl9, hsteps⟩
  · exact absurd hf id
  · have hSz : va_F A s T' := ⟨by rw [e1]; exact Nat.le_trans hS.1 (by have := hF1.1; rw [h0] at this; exact this), fun q9 h1 h2 => by
      rw [e1, hF1.2 q9 (by rw [h0]; exact Nat.lt_of_lt_of_le h1 hS.1) (fun z => h2 (hsub q9 z)), h0]
      exact hS.2.1 q9 h1 h2⟩
    have ho := vx_out (Qc := me_QF) (XC := me_XC D cA ad n A E9 M1) (free := A) (ls := ls) (rest := st) (pc := pc) (E := E9) (ce := ce) (q := q) (mc := 1) (ms := 6) (H := T'.heap) (locs := locs ++ L9) (cells := 0 + 1) (slots := 0 + 6) (p := p) (l := l) (e := e) (R := R) (s := s) (m := m) (args := args) (below := below) (meth := meth) (c := c) (fun x hx => absurd (htab x hx) id) hlk (by rw [e1]; exact hce) hcv hcl9 (fun t9 ht9 _ => ⟨rfl, by rw [ht9, e1]; exact hP1, by exact ⟨by rw [ht9]; exact hSz.1, fun q9 h1 h2 => by rw [ht9]; exact hSz.2 q9 h1 h2⟩⟩) (fun z hz9 => by
      rcases List.mem_append.mp hz9 with h | h
      · exact hS.2.2 z h
      · exact hsub _ (hL z h)) (Nat.le_refl _) (Nat.le_refl _)
    obtain ⟨t2, a1, b1⟩ := ho T' rfl X'
    exact ⟨t2, hsteps.trans a1, b1⟩
end MEX
