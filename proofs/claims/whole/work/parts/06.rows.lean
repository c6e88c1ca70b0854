def me_fu : Nat := 5000
theorem me_so {α : Type} {a b : α} (h : some a = some b) : b = a := (Option.some.inj h).symm
theorem me_sp {α β : Type} {a b : α} {c d : β} (h : some (a, c) = some (b, d)) : b = a ∧ d = c := by cases h; exact ⟨rfl, rfl⟩
theorem me_ip {α : Type} {p : Prop} {i : Decidable p} {a b : Option α} {z : α} (hp : p) (h : @ite _ p i a b = some z) : a = some z := by rwa [if_pos hp] at h
theorem me_in {α : Type} {p : Prop} {i : Decidable p} {a b : Option α} {z : α} (hp : ¬ p) (h : @ite _ p i a b = some z) : b = some z := by rwa [if_neg hp] at h
theorem me_bd {α β : Type} {x : Option α} {f : α → Option β} {z : β} (h : x.bind f = some z) : ∃ a, x = some a ∧ f a = some z := Option.bind_eq_some_iff.mp h
theorem me_el {α β γ : Type} {f : α → Option γ} {g : β → Option γ} {a : α} {z : γ} (h : Sum.elim f g (.inl a) = some z) : f a = some z := h
theorem me_z {x : Int32} (h : x = 0 ∨ x = 1) : narrow .boolean (.int x) = .int x := by rcases h with rfl | rfl <;> decide
def me_fI (N j : Nat) : Prop := me_k j = (0, N, 0, 0) ∧ j < 424
def me_fR (j : Nat) : Prop := me_k j = (1, 3, 109 + 3 * (j - 93), 1) ∧ j < 424 ∧ 93 ≤ j ∧ j < 109
theorem me_in_lt {x : Int32} {N : Nat} (h : vp_in x N) : x.toNatClampNeg < N := Nat.not_le.mp fun q => h (Or.inr q)
theorem me_f67 {x : Int32} {j : Nat} (h : me_a 2 67 x = some j) : me_fI 241 j := by
  obtain ⟨h1, rfl⟩ := me_a_spec h
  have := me_in_lt h1
  have e : x.toNatClampNeg = 0 ∨ x.toNatClampNeg = 1 := by omega
  rcases e with e | e <;> rw [e] <;> exact ⟨by decide +kernel, by decide⟩
theorem me_f70 {x : Int32} {j : Nat} (h : me_a 2 70 x = some j) : me_fI 241 j := by
  obtain ⟨h1, rfl⟩ := me_a_spec h
  have := me_in_lt h1
  have e : x.toNatClampNeg = 0 ∨ x.toNatClampNeg = 1 := by omega
  rcases e with e | e <;> rw [e] <;> exact ⟨by decide +kernel, by decide⟩
theorem me_f73 {x : Int32} {j : Nat} (h : me_a 2 73 x = some j) : me_fI 241 j := by
  obtain ⟨h1, rfl⟩ := me_a_spec h
  have := me_in_lt h1
  have e : x.toNatClampNeg = 0 ∨ x.toNatClampNeg = 1 := by omega
  rcases e with e | e <;> rw [e] <;> exact ⟨by decide +kernel, by decide⟩
theorem me_kR {j : Nat} (h1 : 93 ≤ j) (h2 : j < 109) : me_fR j := by
  refine ⟨?_, by omega, h1, h2⟩
  unfold me_k
  rw [if_neg (by omega), if_pos h2]
theorem me_f93 {x : Int32} {j : Nat} (h : me_a 8 93 x = some j) : me_fR j := by
  obtain ⟨h1, rfl⟩ := me_a_spec h
  have := me_in_lt h1
  exact me_kR (by omega) (by omega)
theorem me_f101 {x : Int32} {j : Nat} (h : me_a 8 101 x = some j) : me_fR j := by
  obtain ⟨h1, rfl⟩ := me_a_spec h
  have := me_in_lt h1
  exact me_kR (by omega) (by omega)
theorem me_fdig {x : Int32} {i j : Nat} (hi : me_fR i) (h : me_a 3 (109 + 3 * (i - 93)) x = some j) : me_fI 5 j := by
  obtain ⟨h1, rfl⟩ := me_a_spec h
  have := me_in_lt h1
  obtain ⟨-, -, h3, h4⟩ := hi
  refine ⟨?_, by omega⟩
  unfold me_k
  rw [if_neg (by omega), if_neg (by omega), if_pos (by omega)]
theorem me_f158 {x : Int32} {j : Nat} (h : me_a 25 158 x = some j) : me_fI 241 j := by
  obtain ⟨h1, rfl⟩ := me_a_spec h
  have := me_in_lt h1
  refine ⟨?_, by omega⟩
  unfold me_k
  rw [if_neg (by omega), if_neg (by omega), if_neg (by omega), if_neg (by omega), if_pos (by omega)]
theorem me_f184 {x : Int32} {j : Nat} (h : me_a 240 184 x = some j) : me_fI 4 j := by
  obtain ⟨h1, rfl⟩ := me_a_spec h
  have := me_in_lt h1
  refine ⟨?_, by omega⟩
  unfold me_k
  rw [if_neg (by omega), if_neg (by omega), if_neg (by omega), if_neg (by omega), if_neg (by omega), if_neg (by omega), if_pos (by omega)]
section MER
variable {p : Program} {l : Launch} {e : Env} {R : Room} {s : State} {m : MethodId} {args : Array Value} {below : List Frame} {meth : Method} {c : Code} {cells slots : Nat} {Q : State → Prop}
variable {D : va_G} {cA : Nat → ClassId} {ad : Nat → Nat} {n nt N0 nL pc h : Nat} {A : Nat → Prop} {cc : ByteArray} {own : String} {tys : List (ClassId × FieldType)} {L : List (Nat × Value)} {st : List Value} {M : me_M}
theorem me_getd0 (X : me_X p R s m args c D cA ad n nt N0 nL cells slots h A cc own tys) {index ci k i j : Nat} (hj : M.2.1 0 = j) (hF : me_F own index ci k) (hi : i < N0) (hk : me_k i = (2, ci, 0, 0)) (hf : (me_fs i)[k]? = some 1) (hd : decode cc pc = .ok (.getfield index, 3)) (kk : me_W p l e R s m args below meth c cells slots Q D cA ad n nL A (pc + 3) L (.ref (ad j) :: st) M) : me_W p l e R s m args below meth c cells slots Q D cA ad n nL A pc L (.ref (ad i) :: st) M := by
  subst hj
  exact me_getp0 X hF hi hk hf hd kk
theorem me_getd1 (X : me_X p R s m args c D cA ad n nt N0 nL cells slots h A cc own tys) {index ci k i j : Nat} (hj : M.2.1 1 = j) (hF : me_F own index ci k) (hi : i < N0) (hk : me_k i = (2, ci, 0, 0)) (hf : (me_fs i)[k]? = some 2) (hd : decode cc pc = .ok (.getfield index, 3)) (kk : me_W p l e R s m args below meth c cells slots Q D cA ad n nL A (pc + 3) L (.ref (ad j) :: st) M) : me_W p l e R s m args below meth c cells slots Q D cA ad n nL A pc L (.ref (ad i) :: st) M := by
  subst hj
  exact me_getp1 X hF hi hk hf hd kk
theorem me_callVi (X : me_X p R s m args c D cA ad n nt N0 nL cells slots h A cc own tys) {y : MethodName} {bytes : ByteArray} {maxL index i ci h' nt' : Nat} {ret : Option FieldType} {av : (Nat → Nat) → List Value} {r : Int32} {M1 : me_M} (As : List Value) {stk : List Value}
    (hC : me_Ct l y bytes maxL ret h' n nt' av M (fun _ => some (.int r)) M1) (hV : me_V own index y bytes maxL ret ci As.length) (hav : av ad = .ref (ad i) :: As) (hstk : stk = As.reverse ++ .ref (ad i) :: st) (hi : i < N0) (hk : me_k i = (2, ci, 0, 0)) (hh : h' + 1 ≤ h) (hnt : nt' ≤ nt) (hw : (st.map fun v => v.category).sum ≤ 8) (hd : decode cc pc = .ok (.invokevirtual index, 3))
    (k : me_W p l e R s m args below meth c cells slots Q D cA ad n nL A (pc + 3) L (.int r :: st) M1) : me_W p l e R s m args below meth c cells slots Q D cA ad n nL A pc L stk M := me_callV X As hC hV hav hstk hi hk hh hnt hw hd k
theorem me_callVv (X : me_X p R s m args c D cA ad n nt N0 nL cells slots h A cc own tys) {y : MethodName} {bytes : ByteArray} {maxL index i ci h' nt' : Nat} {ret : Option FieldType} {av : (Nat → Nat) → List Value} {M1 : me_M} (As : List Value) {stk : List Value}
    (hC : me_Ct l y bytes maxL ret h' n nt' av M (fun _ => none) M1) (hV : me_V own index y bytes maxL ret ci As.length) (hav : av ad = .ref (ad i) :: As) (hstk : stk = As.reverse ++ .ref (ad i) :: st) (hi : i < N0) (hk : me_k i = (2, ci, 0, 0)) (hh : h' + 1 ≤ h) (hnt : nt' ≤ nt) (hw : (st.map fun v => v.category).sum ≤ 8) (hd : decode cc pc = .ok (.invokevirtual index, 3))
    (k : me_W p l e R s m args below meth c cells slots Q D cA ad n nL A (pc + 3) L st M1) : me_W p l e R s m args below meth c cells slots Q D cA ad n nL A pc L stk M := me_callV X As hC hV hav hstk hi hk hh hnt hw hd k
theorem me_callVa (X : me_X p R s m args c D cA ad n nt N0 nL cells slots h A cc own tys) {y : MethodName} {bytes : ByteArray} {maxL index i ci h' nt' : Nat} {ret : Option FieldType} {av : (Nat → Nat) → List Value} {r : Nat} {M1 : me_M} (As : List Value) {stk : List Value}
    (hC : me_Ct l y bytes maxL ret h' n nt' av M (fun ad => some (.ref (ad r))) M1) (hV : me_V own index y bytes maxL ret ci As.length) (hav : av ad = .ref (ad i) :: As) (hstk : stk = As.reverse ++ .ref (ad i) :: st) (hi : i < N0) (hk : me_k i = (2, ci, 0, 0)) (hh : h' + 1 ≤ h) (hnt : nt' ≤ nt) (hw : (st.map fun v => v.category).sum ≤ 8) (hd : decode cc pc = .ok (.invokevirtual index, 3))
    (k : me_W p l e R s m args below meth c cells slots Q D cA ad n nL A (pc + 3) L (.ref (ad r) :: st) M1) : me_W p l e R s m args below meth c cells slots Q D cA ad n nL A pc L stk M := me_callV X As hC hV hav hstk hi hk hh hnt hw hd k
theorem me_callVj (X : me_X p R s m args c D cA ad n nt N0 nL cells slots h A cc own tys) {y : MethodName} {bytes : ByteArray} {maxL index i ci h' nt' : Nat} {ret : Option FieldType} {av : (Nat → Nat) → List Value} {r : Int64} {M1 : me_M} (As : List Value) {stk : List Value}
    (hC : me_Ct l y bytes maxL ret h' n nt' av M (fun _ => some (.long r)) M1) (hV : me_V own index y bytes maxL ret ci As.length) (hav : av ad = .ref (ad i) :: As) (hstk : stk = As.reverse ++ .ref (ad i) :: st) (hi : i < N0) (hk : me_k i = (2, ci, 0, 0)) (hh : h' + 1 ≤ h) (hnt : nt' ≤ nt) (hw : (st.map fun v => v.category).sum ≤ 8) (hd : decode cc pc = .ok (.invokevirtual index, 3))
    (k : me_W p l e R s m args below meth c cells slots Q D cA ad n nL A (pc + 3) L (.long r :: st) M1) : me_W p l e R s m args below meth c cells slots Q D cA ad n nL A pc L stk M := me_callV X As hC hV hav hstk hi hk hh hnt hw hd k
theorem me_callSi (X : me_X p R s m args c D cA ad n nt N0 nL cells slots h A cc own tys) {y : MethodName} {bytes : ByteArray} {maxL index h' nt' : Nat} {ret : Option FieldType} {av : (Nat → Nat) → List Value} {r : Int32} {M1 : me_M} (As : List Value) {stk : List Value}
    (hC : me_Ct l y bytes maxL ret h' n nt' av M (fun _ => some (.int r)) M1) (hV : me_S own index y bytes maxL ret As.length) (hav : av ad = As) (hstk : stk = As.reverse ++ st) (hh : h' + 1 ≤ h) (hnt : nt' ≤ nt) (hw : (st.map fun v => v.category).sum ≤ 8) (hd : decode cc pc = .ok (.invokestatic index, 3))
    (k : me_W p l e R s m args below meth c cells slots Q D cA ad n nL A (pc + 3) L (.int r :: st) M1) : me_W p l e R s m args below meth c cells slots Q D cA ad n nL A pc L stk M := me_callS X As hC hV hav hstk hh hnt hw hd k
theorem me_callSv (X : me_X p R s m args c D cA ad n nt N0 nL cells slots h A cc own tys) {y : MethodName} {bytes : ByteArray} {maxL index h' nt' : Nat} {ret : Option FieldType} {av : (Nat → Nat) → List Value} {M1 : me_M} (As : List Value) {stk : List Value}
    (hC : me_Ct l y bytes maxL ret h' n nt' av M (fun _ => none) M1) (hV : me_S own index y bytes maxL ret As.length) (hav : av ad = As) (hstk : stk = As.reverse ++ st) (hh : h' + 1 ≤ h) (hnt : nt' ≤ nt) (hw : (st.map fun v => v.category).sum ≤ 8) (hd : decode cc pc = .ok (.invokestatic index, 3))
    (k : me_W p l e R s m args below meth c cells slots Q D cA ad n nL A (pc + 3) L st M1) : me_W p l e R s m args below meth c cells slots Q D cA ad n nL A pc L stk M := me_callS X As hC hV hav hstk hh hnt hw hd k
theorem me_fl_p (ad : Nat → Nat) (M : me_M) (i a j k : Nat) (ha : a = 0 ∨ a = 1) : ∀ (cs : List Nat) (k0 : Nat), cs[k]? = some (a + 1) → (∀ q f : Nat, cs[q]? = some f → f = a + 1 → q = k) → me_fl ad (me_p M a j) i k0 cs = (me_fl ad M i k0 cs).set k (.ref (ad j)) := by
  have hne : ∀ k2 f, f ≠ a + 1 → me_fv ad (me_p M a j) i k2 f = me_fv ad M i k2 f := by
    intro k2 f hf
    match f with
    | 0 => rfl
    | 1 =>
      have h1 : a = 1 := by rcases ha with h | h <;> omega
      subst h1
      rfl
    | 2 =>
      have h1 : a = 0 := by rcases ha with h | h <;> omega
      subst h1
      rfl
    | q + 3 => rfl
  have hrest : ∀ (cs : List Nat) (k0 : Nat), (∀ q f : Nat, cs[q]? = some f → f ≠ a + 1) → me_fl ad (me_p M a j) i k0 cs = me_fl ad M i k0 cs := by
    intro cs
    induction cs with
    | nil => intro k0 _; rfl
    | cons f cs ih => intro k0 hq; simp only [me_fl]; rw [hne k0 f (hq 0 f rfl), ih (k0 + 1) (fun q g hg => hq (q + 1) g (by simpa using hg))]
  induction k with
  | zero =>
    intro cs k0 h1 h2
    match cs, h1, h2 with
    | f :: cs, h1, h2 =>
      have hf : f = a + 1 := by simpa using h1
      subst hf
      simp only [me_fl, List.set_cons_zero]
      rw [hrest cs (k0 + 1) (fun q g hg e => by have := h2 (q + 1) g (by simpa using hg) e; omega)]
      rcases ha with rfl | rfl <;> rfl
  | succ k ih =>
    intro cs k0 h1 h2
    match cs, h1, h2 with
    | f :: cs, h1, h2 =>
      simp only [me_fl, List.set_cons_succ]
      rw [hne k0 f (fun e => by have := h2 0 f rfl e; omega), ih cs (k0 + 1) (by simpa using h1) (fun q g hg e => by have := h2 (q + 1) g (by simpa using hg) e; omega)]
theorem me_fs_ne (x : Nat) : x ≠ 0 → ∀ f ∈ me_fs x, f ≠ 1 ∧ f ≠ 2 := by
  unfold me_fs
  split <;> first | (intro h; exact absurd rfl h) | (intro _ f hf; cases hf; done) | (intro _; decide)
theorem me_c_p {x a j : Nat} (ha : a = 0 ∨ a = 1) (hx : x ≠ 0) : me_c ad cA (me_p M a j) x = me_c ad cA M x := by
  have hl : ∀ (cs : List Nat) (k0 : Nat), (∀ f ∈ cs, f ≠ 1 ∧ f ≠ 2) → me_fl ad (me_p M a j) x k0 cs = me_fl ad M x k0 cs := by
    intro cs
    induction cs with
    | nil => intro _ _; rfl
    | cons f cs ih =>
      intro k0 hq
      simp only [me_fl]
      rw [ih (k0 + 1) (fun g hg => hq g (List.mem_cons_of_mem _ hg))]
      have h1 := hq f List.mem_cons_self
      congr 1
      match f, h1 with
      | 0, _ => rfl
      | 1, h1 => exact absurd rfl h1.1
      | 2, h1 => exact absurd rfl h1.2
      | q + 3, _ => rfl
  unfold me_c
  obtain ⟨k1, k2, k3, k4⟩ := me_k x
  match k1 with
  | 0 => rfl
  | 1 => rfl
  | 2 => simp only [me_cv]; rw [hl _ _ (me_fs_ne x hx)]
  | _ + 3 => rfl
theorem me_putp0 (X : me_X p R s m args c D cA ad n nt N0 nL cells slots h A cc own tys) {index j : Nat} {cn : String} (hF : me_G own index 11 10 (.object cn)) (hi : 0 < N0) (hk : me_k 0 = (2, 11, 0, 0)) (hf : (me_fs 0)[10]? = some 1) (hd : decode cc pc = .ok (.putfield index, 3)) (kk : me_W p l e R s m args below meth c cells slots Q D cA ad n nL A (pc + 3) L st (me_p M 0 j)) : me_W p l e R s m args below meth c cells slots Q D cA ad n nL A pc L (.ref (ad j) :: .ref (ad 0) :: st) M :=
  me_putv X hF hi hk (List.getElem?_eq_some_iff.mp hf).1 rfl rfl (me_fl_p ad M 0 0 j 10 (Or.inl rfl) (me_fs 0) 0 hf (by
    intro q f hq hf1
    subst hf1
    have hlt : q < 16 := (List.getElem?_eq_some_iff.mp hq).1
    revert hq
    revert q
    decide)) (fun x hx => me_c_p (Or.inl rfl) hx) hd kk
theorem me_putp1 (X : me_X p R s m args c D cA ad n nt N0 nL cells slots h A cc own tys) {index j : Nat} {cn : String} (hF : me_G own index 11 11 (.object cn)) (hi : 0 < N0) (hk : me_k 0 = (2, 11, 0, 0)) (hf : (me_fs 0)[11]? = some 2) (hd : decode cc pc = .ok (.putfield index, 3)) (kk : me_W p l e R s m args below meth c cells slots Q D cA ad n nL A (pc + 3) L st (me_p M 1 j)) : me_W p l e R s m args below meth c cells slots Q D cA ad n nL A pc L (.ref (ad j) :: .ref (ad 0) :: st) M :=
  me_putv X hF hi hk (List.getElem?_eq_some_iff.mp hf).1 rfl rfl (me_fl_p ad M 0 1 j 11 (Or.inr rfl) (me_fs 0) 0 hf (by
    intro q f hq hf1
    subst hf1
    have hlt : q < 16 := (List.getElem?_eq_some_iff.mp hq).1
    revert hq
    revert q
    decide)) (fun x hx => me_c_p (Or.inr rfl) hx) hd kk
end MER
