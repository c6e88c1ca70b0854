/-- the tables' words that go from a caller to a callee; those of nest mates go beside them -/
def lw_good : List Cond := lw_tbl.filter goodWord
def lw_isn (w : Cond) : Bool := match w with
  | .fieldLinkNest .. => true
  | .methodLinkNest .. => true
  | .castable .. => true
  | .declares .. => true
  | _ => false
def lw_nest : List Cond := tables_1.filter lw_isn
theorem lw_in {w : Cond} (h : w ∈ tables_1) (hg : goodWord w = true) : w ∈ lw_good := List.mem_filter.mpr ⟨List.mem_append_right _ h, hg⟩
theorem lw_ins {q : MethodName × Nat} (h : q ∈ lw_privs) : Cond.selects q.1.cls q.1 q.1 ∈ lw_good := List.mem_filter.mpr ⟨List.mem_append_left _ (List.mem_map.mpr ⟨q, h, rfl⟩), rfl⟩
theorem lw_inn {w : Cond} (h : w ∈ tables_1) (hg : lw_isn w = true) : w ∈ lw_nest := List.mem_filter.mpr ⟨h, hg⟩

/-! ===== the memory of the system: places by number (ids), each a row of ints, a row of references, an object, or the law's row of longs ===== -/
abbrev me_M : Type := (Nat → Nat → Int32) × (Nat → Nat) × (Nat → Int64)
def me_s (M : me_M) (a k : Nat) (x : Int32) : me_M := (fun b => if b = a then upd (M.1 a) k x else M.1 b, M.2)
def me_p (M : me_M) (a k : Nat) : me_M := (M.1, fun j => if j = a then k else M.2.1 j, M.2.2)
def me_o (M : me_M) (k : Nat) (x : Int64) : me_M := (M.1, M.2.1, vp_updL M.2.2 k x)
def me_tab : List (Nat × Nat × Nat × Nat) := [(2, 11, 0, 0), (2, 9, 0, 0), (0, 240, 0, 0), (2, 10, 0, 0), (0, 241, 0, 0), (0, 241, 0, 0), (0, 241, 0, 0), (0, 241, 0, 0), (0, 241, 0, 0), (2, 4, 0, 0), (0, 241, 0, 0), (0, 241, 0, 0), (0, 241, 0, 0), (0, 1936, 0, 0), (2, 4, 0, 0), (0, 241, 0, 0), (0, 241, 0, 0), (0, 241, 0, 0), (0, 1936, 0, 0), (2, 0, 0, 0), (2, 7, 0, 0), (0, 41, 0, 0), (0, 41, 0, 0), (0, 41, 0, 0), (0, 40, 0, 0), (0, 80, 0, 0), (2, 2, 0, 0), (0, 240, 0, 0), (0, 240, 0, 0), (0, 240, 0, 0), (2, 8, 0, 0), (0, 241, 0, 0), (0, 240, 0, 0), (0, 240, 0, 0), (0, 240, 0, 0), (0, 240, 0, 0), (2, 1, 0, 0), (2, 7, 0, 0), (0, 41, 0, 0), (0, 41, 0, 0), (0, 41, 0, 0), (0, 24, 0, 0), (0, 24, 0, 0), (0, 24, 0, 0), (0, 24, 0, 0), (0, 241, 0, 0), (0, 241, 0, 0), (2, 3, 0, 0), (0, 24, 0, 0), (0, 241, 0, 0), (0, 241, 0, 0), (0, 241, 0, 0), (2, 6, 0, 0), (2, 5, 0, 0), (0, 40, 0, 0), (0, 40, 0, 0), (0, 40, 0, 0), (0, 5, 0, 0), (2, 5, 0, 0), (0, 40, 0, 0), (0, 40, 0, 0), (0, 40, 0, 0), (0, 5, 0, 0), (2, 12, 0, 0), (0, 3, 0, 0), (0, 240, 0, 0), (1, 2, 67, 1), (0, 241, 0, 0), (0, 241, 0, 0), (1, 2, 70, 1), (0, 241, 0, 0), (0, 241, 0, 0), (1, 2, 73, 1), (0, 241, 0, 0), (0, 241, 0, 0), (0, 84, 0, 0), (0, 40, 0, 0), (0, 2, 0, 0), (0, 2, 0, 0), (0, 241, 0, 0), (0, 241, 0, 0), (0, 24, 0, 0), (0, 5, 0, 0), (0, 24, 0, 0), (0, 24, 0, 0), (0, 24, 0, 0), (0, 24, 0, 0), (0, 240, 0, 0), (0, 240, 0, 0), (0, 3, 0, 0), (1, 2, 91, 3), (1, 8, 93, 2), (1, 8, 101, 2)]
def me_k (i : Nat) : Nat × Nat × Nat × Nat := if i < 93 then me_tab.getD i (0, 0, 0, 0) else if i < 109 then (1, 3, 109 + 3 * (i - 93), 1) else if i < 157 then (0, 5, 0, 0) else if i = 157 then (1, 25, 158, 1) else if i < 183 then (0, 241, 0, 0) else if i = 183 then (1, 240, 184, 1) else if i < 424 then (0, 4, 0, 0) else (3, 1, 0, 0)
/-- an object's fields: 0 an int, 1 and 2 the two references that move, j + 3 the place j -/
def me_fs (i : Nat) : List Nat := match i with
  | 0 => [4, 6, 12, 17, 22, 29, 33, 39, 50, 55, 1, 2, 0, 0, 0, 0]
  | 1 => [5, 0]
  | 3 => [7, 8, 9, 10, 11, 0, 0, 0]
  | 9 => [7, 13, 14, 15, 16, 0]
  | 14 => [8, 18, 19, 20, 21, 0]
  | 19 => [23, 27, 28, 0, 0]
  | 20 => [12, 17, 24, 25, 26]
  | 26 => [6, 12, 30, 31, 32, 0]
  | 30 => [6, 34, 35, 36, 37, 38, 0, 0, 0]
  | 36 => [6, 12, 40, 44, 45, 46, 47, 48, 49, 0, 0, 0]
  | 37 => [12, 17, 41, 42, 43]
  | 47 => [51, 52, 53, 54, 0, 0, 0, 0, 0]
  | 52 => [4, 0, 0, 0, 0]
  | 53 => [57, 58, 59, 60, 0, 0, 0, 0, 0, 0, 0]
  | 58 => [62, 63, 64, 65, 0, 0, 0, 0, 0, 0, 0]
  | 63 => [0, 67, 0, 0, 68, 0, 0, 69, 72, 75, 0, 0, 78, 79, 80, 81, 93, 0, 0, 0, 0, 82, 83, 84, 0, 0, 0, 0, 85, 0, 86, 87, 88, 89, 160, 0, 0, 0, 0, 186, 90, 91, 92]
  | _ => []
def me_fv (ad : Nat → Nat) (M : me_M) (i k c : Nat) : Value := match c with
  | 0 => .int (M.1 i k)
  | 1 => .ref (ad (M.2.1 0))
  | 2 => .ref (ad (M.2.1 1))
  | j + 3 => .ref (ad j)
def me_fl (ad : Nat → Nat) (M : me_M) (i : Nat) : Nat → List Nat → List Value
  | _, [] => []
  | k, c :: cs => me_fv ad M i k c :: me_fl ad M i (k + 1) cs
def me_cv (ad : Nat → Nat) (cA : Nat → ClassId) (M : me_M) (i : Nat) (q : Nat × Nat × Nat × Nat) : va_E := match q with
  | (0, n, _, _) => .inl (cA 0, n, .inl (M.1 i))
  | (1, n, b, t) => .inl (cA t, n, .inr (.inr (.inr (.inr (fun j => some (ad (b + j)))))))
  | (2, ci, _, _) => .inr (ci, me_fl ad M i 0 (me_fs i))
  | (_, n, _, _) => .inl (cA 4, n, .inr (.inl M.2.2))
def me_c (ad : Nat → Nat) (cA : Nat → ClassId) (M : me_M) (i : Nat) : va_E := me_cv ad cA M i (me_k i)
def me_w (n : Nat) (ad : Nat → Nat) (cA : Nat → ClassId) (M : me_M) : va_W := (List.range n).map (fun i => (ad i, me_c ad cA M i))
theorem me_w_get {n : Nat} {ad : Nat → Nat} {cA : Nat → ClassId} {M : me_M} {i : Nat} (h : i < n) : (me_w n ad cA M)[i]? = some (ad i, me_c ad cA M i) := by
  unfold me_w
  rw [List.getElem?_map, List.getElem?_range h]
  rfl
theorem me_w_none {n : Nat} {ad : Nat → Nat} {cA : Nat → ClassId} {M : me_M} {i : Nat} (h : ¬ i < n) : (me_w n ad cA M)[i]? = none := List.getElem?_eq_none (by unfold me_w; rw [List.length_map, List.length_range]; omega)
theorem me_w_set {n : Nat} {ad : Nat → Nat} {cA : Nat → ClassId} {M M' : me_M} {i : Nat} {e : va_E} (he : me_c ad cA M' i = e) (ho : ∀ j, j ≠ i → me_c ad cA M' j = me_c ad cA M j) : (me_w n ad cA M).set i (ad i, e) = me_w n ad cA M' := by
  apply List.ext_getElem?
  intro j
  rw [List.getElem?_set]
  by_cases hn : j < n
  · by_cases hj : i = j
    · subst hj
      rw [if_pos rfl, if_pos (by unfold me_w; rw [List.length_map, List.length_range]; exact hn), me_w_get hn, he]
    · rw [if_neg hj, me_w_get hn, me_w_get hn, ho j (fun q => hj q.symm)]
  · rw [me_w_none (M := M') hn]
    by_cases hj : i = j
    · subst hj
      rw [if_pos rfl, if_neg (by unfold me_w; rw [List.length_map, List.length_range]; exact hn)]
    · rw [if_neg hj, me_w_none hn]
theorem me_fl_get (ad : Nat → Nat) (M : me_M) (i : Nat) : ∀ (cs : List Nat) (k0 k : Nat), (me_fl ad M i k0 cs)[k]? = (cs[k]?).map (fun c => me_fv ad M i (k0 + k) c)
  | [], _, _ => by simp [me_fl]
  | c :: cs, k0, 0 => by simp [me_fl]
  | c :: cs, k0, k + 1 => by
    simp only [me_fl, List.getElem?_cons_succ]
    rw [me_fl_get ad M i cs (k0 + 1) k, show k0 + 1 + k = k0 + (k + 1) by omega]
theorem me_fl_len (ad : Nat → Nat) (M : me_M) (i : Nat) : ∀ (cs : List Nat) (k0 : Nat), (me_fl ad M i k0 cs).length = cs.length
  | [], _ => rfl
  | _ :: cs, k0 => by simp only [me_fl, List.length_cons, me_fl_len ad M i cs (k0 + 1)]
theorem me_s_eq {M : me_M} {a k : Nat} {x : Int32} : (me_s M a k x).1 a = upd (M.1 a) k x := by
  show (if a = a then upd (M.1 a) k x else M.1 a) = _
  rw [if_pos rfl]
theorem me_s_ne {M : me_M} {a k b : Nat} {x : Int32} (h : b ≠ a) : (me_s M a k x).1 b = M.1 b := by
  show (if b = a then upd (M.1 a) k x else M.1 b) = _
  rw [if_neg h]
theorem me_c_cong {ad : Nat → Nat} {cA : Nat → ClassId} {M M' : me_M} {i : Nat} (h1 : M'.1 i = M.1 i) (h2 : M'.2 = M.2) : me_c ad cA M' i = me_c ad cA M i := by
  have hv : ∀ k c, me_fv ad M' i k c = me_fv ad M i k c := by
    intro k c
    match c with
    | 0 => simp only [me_fv, h1]
    | 1 => simp only [me_fv, h2]
    | 2 => simp only [me_fv, h2]
    | j + 3 => rfl
  have hl : ∀ (cs : List Nat) (k0 : Nat), me_fl ad M' i k0 cs = me_fl ad M i k0 cs := by
    intro cs
    induction cs with
    | nil => intro _; rfl
    | cons c cs ih => intro k0; simp only [me_fl, hv, ih]
  unfold me_c
  obtain ⟨a, b, c, d⟩ := me_k i
  match a with
  | 0 => simp only [me_cv, h1]
  | 1 => rfl
  | 2 => simp only [me_cv, hl]
  | _ + 3 => simp only [me_cv, h2]
theorem me_w_D {n : Nat} {ad : Nat → Nat} {cA : Nat → ClassId} {M M' : me_M} {A : Nat → Prop} (h : va_D A (me_w n ad cA M)) : va_D A (me_w n ad cA M') := by
  have key : ∀ (i : Nat) (x : Nat × va_E), (me_w n ad cA M')[i]? = some x → (me_w n ad cA M)[i]? = some (x.1, me_c ad cA M i) := by
    intro i x hx
    by_cases hi : i < n
    · rw [me_w_get hi] at hx
      cases hx
      rw [me_w_get hi]
    · rw [me_w_none hi] at hx
      cases hx
  refine ⟨fun i j x y hx hy hxy => h.1 i j _ _ (key i x hx) (key j y hy) hxy, fun k x hx => ?_⟩
  have h2 := h.2 k _ (key k x hx)
  exact h2
theorem me_w_A {n : Nat} {ad : Nat → Nat} {cA : Nat → ClassId} {M M' : me_M} {sz : Nat} {q : Nat} (h : va_A (me_w n ad cA M') sz q) : va_A (me_w n ad cA M) sz q := by
  rcases h with ⟨k, e, h⟩ | h
  · by_cases hi : k < n
    · rw [me_w_get hi] at h
      cases h
      exact Or.inl ⟨k, _, me_w_get hi⟩
    · rw [me_w_none hi] at h
      cases h
  · exact Or.inr h
/-- the array classes: ints, then rows of rows, the longs last -/
def me_tys (cA : Nat → ClassId) : List (ClassId × FieldType) := [(cA 0, .int), (cA 1, .array .int), (cA 2, .array (.array .int)), (cA 3, .array (.array (.array .int))), (cA 4, .long)]
def me_r (M : me_M) (a N : Nat) (x : Int32) : Option Int32 := if x < 0 ∨ N ≤ x.toNatClampNeg then none else some (M.1 a x.toNatClampNeg)
def me_t (M : me_M) (a N : Nat) (x v : Int32) : Option me_M := if x < 0 ∨ N ≤ x.toNatClampNeg then none else some (me_s M a x.toNatClampNeg v)
def me_a (N b : Nat) (x : Int32) : Option Nat := if x < 0 ∨ N ≤ x.toNatClampNeg then none else some (b + x.toNatClampNeg)
def me_dv (x y : Int32) : Option Int32 := if y = 0 then none else some (x / y)
def me_md (x y : Int32) : Option Int32 := if y = 0 then none else some (x - x / y * y)
theorem me_r_spec {M : me_M} {a N : Nat} {x v : Int32} (h : me_r M a N x = some v) : vp_in x N ∧ v = M.1 a x.toNatClampNeg := by
  unfold me_r at h
  by_cases c : x < 0 ∨ N ≤ x.toNatClampNeg
  · rw [if_pos c] at h; cases h
  · rw [if_neg c] at h; cases h; exact ⟨c, rfl⟩
theorem me_t_spec {M M1 : me_M} {a N : Nat} {x v : Int32} (h : me_t M a N x v = some M1) : vp_in x N ∧ M1 = me_s M a x.toNatClampNeg v := by
  unfold me_t at h
  by_cases c : x < 0 ∨ N ≤ x.toNatClampNeg
  · rw [if_pos c] at h; cases h
  · rw [if_neg c] at h; cases h; exact ⟨c, rfl⟩
theorem me_a_spec {N b j : Nat} {x : Int32} (h : me_a N b x = some j) : vp_in x N ∧ j = b + x.toNatClampNeg := by
  unfold me_a at h
  by_cases c : x < 0 ∨ N ≤ x.toNatClampNeg
  · rw [if_pos c] at h; cases h
  · rw [if_neg c] at h; cases h; exact ⟨c, rfl⟩
theorem me_dv_spec {x y v : Int32} (h : me_dv x y = some v) : ¬ y = 0 ∧ v = x / y := by
  unfold me_dv at h
  by_cases c : y = 0
  · rw [if_pos c] at h; cases h
  · rw [if_neg c] at h; cases h; exact ⟨c, rfl⟩
theorem me_md_spec {x y v : Int32} (h : me_md x y = some v) : ¬ y = 0 ∧ v = x - x / y * y := by
  unfold me_md at h
  by_cases c : y = 0
  · rw [if_pos c] at h; cases h
  · rw [if_neg c] at h; cases h; exact ⟨c, rfl⟩
/-- a loop: the body says 'again' or 'out' -/
def me_l {σ ρ : Type} (b : σ → Option (σ ⊕ ρ)) : Nat → σ → Option ρ
  | 0, _ => none
  | n + 1, s => match b s with
    | none => none
    | some (.inl s') => me_l b n s'
    | some (.inr r) => some r
theorem me_l_W {σ ρ : Type} {b : σ → Option (σ ⊕ ρ)} {P : σ → Prop} {r : ρ} (hs : ∀ s z, b s = some z → (∀ s', z = .inl s' → P s') → (z = .inr r → True) → (∀ r', z = .inr r' → r' = r) → P s) : ∀ n s, me_l b n s = some r → P s := by
  intro n
  induction n with
  | zero => intro s h; cases h
  | succ n ih =>
    intro s h
    unfold me_l at h
    cases hb : b s with
    | none => rw [hb] at h; cases h
    | some z =>
      rw [hb] at h
      cases z with
      | inl s' => exact hs s _ hb (fun s2 e => by cases e; exact ih s' h) (fun _ => trivial) (fun r' e => by cases e)
      | inr r2 =>
        cases h
        exact hs s _ hb (fun s2 e => by cases e) (fun _ => trivial) (fun r' e => by cases e; rfl)
section MEW
variable {p : Program} {l : Launch} {e : Env} {R : Room} {s : State} {m : MethodId} {args : Array Value} {below : List Frame} {meth : Method} {c : Code} {cells slots : Nat} {Q : State → Prop}
variable {D : va_G} {cA : Nat → ClassId} {ad : Nat → Nat} {n nt N0 nL pc h : Nat} {A : Nat → Prop} {cc : ByteArray} {own : String} {tys : List (ClassId × FieldType)} {L : List (Nat × Value)} {st : List Value} {M : me_M}
/-- what stands over a method's whole walk -/
def me_X (p : Program) (R : Room) (s : State) (m : MethodId) (args : Array Value) (c : Code) (D : va_G) (cA : Nat → ClassId) (ad : Nat → Nat) (n nt N0 nL cells slots h : Nat) (A : Nat → Prop) (cc : ByteArray) (own : String) (tys : List (ClassId × FieldType)) : Prop :=
  p.tables.exec = Jvm.exec ∧ c.code = cc ∧ c.maxLocals = nL ∧ s.vm.findClass own = some m.cls ∧ (∀ w ∈ lw_good, w.before args s = true) ∧ va_K D vwCl tys s ∧ (∀ k, k < nt → tys[k]? = (me_tys cA)[k]?) ∧ (∀ M, va_D A (me_w n ad cA M)) ∧ (∀ q, s.heap.size ≤ q → A q) ∧ N0 ≤ n ∧ 1 ≤ nt ∧ cells ≤ R.cells ∧ slots ≤ R.slots ∧ (∀ w ∈ lw_nest, va_Nw w s) ∧ h ≤ R.frames ∧ 40 * h ≤ R.locals
/-- the walk stands at pc, with these locals, this stack, this memory -/
def me_W (p : Program) (l : Launch) (e : Env) (R : Room) (s : State) (m : MethodId) (args : Array Value) (below : List Frame) (meth : Method) (c : Code) (cells slots : Nat) (Q : State → Prop) (D : va_G) (cA : Nat → ClassId) (ad : Nat → Nat) (n nL : Nat) (A : Nat → Prop) (pc : Nat) (L : List (Nat × Value)) (st : List Value) (M : me_M) : Prop :=
  ∀ (H : Heap) (locs : List Loc) (ls : Array Slot), va_P D vwCl (me_w n ad cA M) H → va_S A s.heap H locs → lv_has ls nL L → W p l e R s m args below meth c H locs cells slots Q (F0 m pc ls st)
theorem me_sub (ks : List Nat) {L' : List (Nat × Value)} (hl : lv_pick L ks = L') (k : me_W p l e R s m args below meth c cells slots Q D cA ad n nL A pc L' st M) : me_W p l e R s m args below meth c cells slots Q D cA ad n nL A pc L st M := fun H locs ls hP hS h => k H locs ls hP hS (lv_sub h ks hl)
theorem me_iconst (X : me_X p R s m args c D cA ad n nt N0 nL cells slots h A cc own tys) {i : Int} {v : Int32} (hd : decode cc pc = .ok (.iconst i, 1)) (hv : Int32.ofInt i = v) (k : me_W p l e R s m args below meth c cells slots Q D cA ad n nL A (pc + 1) L (.int v :: st) M) : me_W p l e R s m args below meth c cells slots Q D cA ad n nL A pc L st M := fun H locs ls hP hS h => lv_iconst X.1 X.2.1 hd hv (k H locs ls hP hS h)
theorem me_bipush (X : me_X p R s m args c D cA ad n nt N0 nL cells slots h A cc own tys) {i : Int} {v : Int32} (hd : decode cc pc = .ok (.bipush i, 2)) (hv : (Int8.ofInt i).toInt32 = v) (k : me_W p l e R s m args below meth c cells slots Q D cA ad n nL A (pc + 2) L (.int v :: st) M) : me_W p l e R s m args below meth c cells slots Q D cA ad n nL A pc L st M := fun H locs ls hP hS h => lv_bipush X.1 X.2.1 hd hv (k H locs ls hP hS h)
theorem me_sipush (X : me_X p R s m args c D cA ad n nt N0 nL cells slots h A cc own tys) {i : Int} {v : Int32} (hd : decode cc pc = .ok (.sipush i, 3)) (hv : (Int16.ofInt i).toInt32 = v) (k : me_W p l e R s m args below meth c cells slots Q D cA ad n nL A (pc + 3) L (.int v :: st) M) : me_W p l e R s m args below meth c cells slots Q D cA ad n nL A pc L st M := fun H locs ls hP hS h => lv_sipush X.1 X.2.1 hd hv (k H locs ls hP hS h)
theorem me_ldcw (X : me_X p R s m args c D cA ad n nt N0 nL cells slots h A cc own tys) {index : Nat} {v : Int32} (hc : Cond.constant own index v ∈ lw_good) (hd : decode cc pc = .ok (.ldc_w index, 3)) (k : me_W p l e R s m args below meth c cells slots Q D cA ad n nL A (pc + 3) L (.int v :: st) M) : me_W p l e R s m args below meth c cells slots Q D cA ad n nL A pc L st M := fun H locs ls hP hS h => lv_ldcw X.1 X.2.1 X.2.2.2.1 (X.2.2.2.2.1 _ hc) hd (k H locs ls hP hS h)
theorem me_ldc (X : me_X p R s m args c D cA ad n nt N0 nL cells slots h A cc own tys) {index : Nat} {v : Int32} (hc : Cond.constant own index v ∈ lw_good) (hd : decode cc pc = .ok (.ldc index, 2)) (k : me_W p l e R s m args below meth c cells slots Q D cA ad n nL A (pc + 2) L (.int v :: st) M) : me_W p l e R s m args below meth c cells slots Q D cA ad n nL A pc L st M := fun H locs ls hP hS h => lv_ldc X.1 X.2.1 X.2.2.2.1 (X.2.2.2.2.1 _ hc) hd (k H locs ls hP hS h)
theorem me_ldc2 (X : me_X p R s m args c D cA ad n nt N0 nL cells slots h A cc own tys) {index : Nat} {v : Int64} (hc : Cond.constantLong own index v ∈ lw_good) (hd : decode cc pc = .ok (.ldc2_w index, 3)) (k : me_W p l e R s m args below meth c cells slots Q D cA ad n nL A (pc + 3) L (.long v :: st) M) : me_W p l e R s m args below meth c cells slots Q D cA ad n nL A pc L st M := fun H locs ls hP hS h => lv_ldc2 X.1 X.2.1 X.2.2.2.1 (X.2.2.2.2.1 _ hc) hd (k H locs ls hP hS h)
theorem me_lconst (X : me_X p R s m args c D cA ad n nt N0 nL cells slots h A cc own tys) {i : Fin 2} {v : Int64} (hd : decode cc pc = .ok (.lconst i, 1)) (hv : Int64.ofNat (i : Nat) = v) (k : me_W p l e R s m args below meth c cells slots Q D cA ad n nL A (pc + 1) L (.long v :: st) M) : me_W p l e R s m args below meth c cells slots Q D cA ad n nL A pc L st M := fun H locs ls hP hS h => lv_lconst X.1 X.2.1 hd hv (k H locs ls hP hS h)
theorem me_iload_n (X : me_X p R s m args c D cA ad n nt N0 nL cells slots h A cc own tys) {i : Fin 4} {x : Int32} (q : Nat) (hq : L[q]? = some ((i : Nat), .int x)) (hd : decode cc pc = .ok (.iload_n i, 1)) (k : me_W p l e R s m args below meth c cells slots Q D cA ad n nL A (pc + 1) L (.int x :: st) M) : me_W p l e R s m args below meth c cells slots Q D cA ad n nL A pc L st M := fun H locs ls hP hS h => lv_iload_n X.1 X.2.1 hd rfl (lv_at h q hq) (k H locs ls hP hS h)
theorem me_iload (X : me_X p R s m args c D cA ad n nt N0 nL cells slots h A cc own tys) {i : Nat} {x : Int32} (q : Nat) (hq : L[q]? = some (i, .int x)) (hd : decode cc pc = .ok (.iload i, 2)) (k : me_W p l e R s m args below meth c cells slots Q D cA ad n nL A (pc + 2) L (.int x :: st) M) : me_W p l e R s m args below meth c cells slots Q D cA ad n nL A pc L st M := fun H locs ls hP hS h => lv_iload X.1 X.2.1 hd (lv_at h q hq) (k H locs ls hP hS h)
theorem me_lload_n (X : me_X p R s m args c D cA ad n nt N0 nL cells slots h A cc own tys) {i : Fin 4} {x : Int64} (q : Nat) (hq : L[q]? = some ((i : Nat), .long x)) (hd : decode cc pc = .ok (.lload_n i, 1)) (k : me_W p l e R s m args below meth c cells slots Q D cA ad n nL A (pc + 1) L (.long x :: st) M) : me_W p l e R s m args below meth c cells slots Q D cA ad n nL A pc L st M := fun H locs ls hP hS h => lv_lload_n X.1 X.2.1 hd rfl (lv_at h q hq) (k H locs ls hP hS h)
theorem me_lload (X : me_X p R s m args c D cA ad n nt N0 nL cells slots h A cc own tys) {i : Nat} {x : Int64} (q : Nat) (hq : L[q]? = some (i, .long x)) (hd : decode cc pc = .ok (.lload i, 2)) (k : me_W p l e R s m args below meth c cells slots Q D cA ad n nL A (pc + 2) L (.long x :: st) M) : me_W p l e R s m args below meth c cells slots Q D cA ad n nL A pc L st M := fun H locs ls hP hS h => lv_lload X.1 X.2.1 hd (lv_at h q hq) (k H locs ls hP hS h)
theorem me_aload_n (X : me_X p R s m args c D cA ad n nt N0 nL cells slots h A cc own tys) {i : Fin 4} {x : Nat} (q : Nat) (hq : L[q]? = some ((i : Nat), .ref x)) (hd : decode cc pc = .ok (.aload_n i, 1)) (k : me_W p l e R s m args below meth c cells slots Q D cA ad n nL A (pc + 1) L (.ref x :: st) M) : me_W p l e R s m args below meth c cells slots Q D cA ad n nL A pc L st M := fun H locs ls hP hS h => lv_aload_n X.1 X.2.1 hd rfl (lv_at h q hq) (k H locs ls hP hS h)
theorem me_aload (X : me_X p R s m args c D cA ad n nt N0 nL cells slots h A cc own tys) {i : Nat} {x : Nat} (q : Nat) (hq : L[q]? = some (i, .ref x)) (hd : decode cc pc = .ok (.aload i, 2)) (k : me_W p l e R s m args below meth c cells slots Q D cA ad n nL A (pc + 2) L (.ref x :: st) M) : me_W p l e R s m args below meth c cells slots Q D cA ad n nL A pc L st M := fun H locs ls hP hS h => lv_aload X.1 X.2.1 hd (lv_at h q hq) (k H locs ls hP hS h)
theorem me_istore_n (X : me_X p R s m args c D cA ad n nt N0 nL cells slots h A cc own tys) {i : Fin 4} {x : Int32} (L' : List (Nat × Value)) (hn : (i : Nat) < nL) (hl : ((i : Nat), Value.int x) :: L.filter (fun q => !(q.1 == (i : Nat)) && !(q.1 + 1 == (i : Nat) && q.2.category == 2)) = L') (hd : decode cc pc = .ok (.istore_n i, 1)) (k : me_W p l e R s m args below meth c cells slots Q D cA ad n nL A (pc + 1) L' st M) : me_W p l e R s m args below meth c cells slots Q D cA ad n nL A pc L (.int x :: st) M := fun H locs ls hP hS h => lv_istore_n X.1 X.2.1 hd rfl h hn hl (fun ls' h' => k H locs ls' hP hS h')
theorem me_istore (X : me_X p R s m args c D cA ad n nt N0 nL cells slots h A cc own tys) {i : Nat} {x : Int32} (L' : List (Nat × Value)) (hn : i < nL) (hl : (i, Value.int x) :: L.filter (fun q => !(q.1 == i) && !(q.1 + 1 == i && q.2.category == 2)) = L') (hd : decode cc pc = .ok (.istore i, 2)) (k : me_W p l e R s m args below meth c cells slots Q D cA ad n nL A (pc + 2) L' st M) : me_W p l e R s m args below meth c cells slots Q D cA ad n nL A pc L (.int x :: st) M := fun H locs ls hP hS h => lv_istore X.1 X.2.1 hd h hn hl (fun ls' h' => k H locs ls' hP hS h')
theorem me_astore_n (X : me_X p R s m args c D cA ad n nt N0 nL cells slots h A cc own tys) {i : Fin 4} {x : Nat} (L' : List (Nat × Value)) (hn : (i : Nat) < nL) (hl : ((i : Nat), Value.ref x) :: L.filter (fun q => !(q.1 == (i : Nat)) && !(q.1 + 1 == (i : Nat) && q.2.category == 2)) = L') (hd : decode cc pc = .ok (.astore_n i, 1)) (k : me_W p l e R s m args below meth c cells slots Q D cA ad n nL A (pc + 1) L' st M) : me_W p l e R s m args below meth c cells slots Q D cA ad n nL A pc L (.ref x :: st) M := fun H locs ls hP hS h => lv_astore_n X.1 X.2.1 hd rfl h hn hl (fun ls' h' => k H locs ls' hP hS h')
theorem me_astore (X : me_X p R s m args c D cA ad n nt N0 nL cells slots h A cc own tys) {i : Nat} {x : Nat} (L' : List (Nat × Value)) (hn : i < nL) (hl : (i, Value.ref x) :: L.filter (fun q => !(q.1 == i) && !(q.1 + 1 == i && q.2.category == 2)) = L') (hd : decode cc pc = .ok (.astore i, 2)) (k : me_W p l e R s m args below meth c cells slots Q D cA ad n nL A (pc + 2) L' st M) : me_W p l e R s m args below meth c cells slots Q D cA ad n nL A pc L (.ref x :: st) M := fun H locs ls hP hS h => lv_astore X.1 X.2.1 hd h hn hl (fun ls' h' => k H locs ls' hP hS h')
theorem me_lstore_n (X : me_X p R s m args c D cA ad n nt N0 nL cells slots h A cc own tys) {i : Fin 4} {x : Int64} (L' : List (Nat × Value)) (hn : (i : Nat) + 1 < nL) (hl : ((i : Nat), Value.long x) :: L.filter (fun q => !(q.1 == (i : Nat)) && (!(q.1 == (i : Nat) + 1) && !(q.1 + 1 == (i : Nat) && q.2.category == 2))) = L') (hd : decode cc pc = .ok (.lstore_n i, 1)) (k : me_W p l e R s m args below meth c cells slots Q D cA ad n nL A (pc + 1) L' st M) : me_W p l e R s m args below meth c cells slots Q D cA ad n nL A pc L (.long x :: st) M := fun H locs ls hP hS h => lv_lstore_n X.1 X.2.1 hd rfl h hn hl (fun ls' h' => k H locs ls' hP hS h')
theorem me_lstore (X : me_X p R s m args c D cA ad n nt N0 nL cells slots h A cc own tys) {i : Nat} {x : Int64} (L' : List (Nat × Value)) (hn : i + 1 < nL) (hl : (i, Value.long x) :: L.filter (fun q => !(q.1 == i) && (!(q.1 == i + 1) && !(q.1 + 1 == i && q.2.category == 2))) = L') (hd : decode cc pc = .ok (.lstore i, 2)) (k : me_W p l e R s m args below meth c cells slots Q D cA ad n nL A (pc + 2) L' st M) : me_W p l e R s m args below meth c cells slots Q D cA ad n nL A pc L (.long x :: st) M := fun H locs ls hP hS h => lv_lstore X.1 X.2.1 hd h hn hl (fun ls' h' => k H locs ls' hP hS h')
theorem me_iinc (X : me_X p R s m args c D cA ad n nt N0 nL cells slots h A cc own tys) {i : Nat} {j : Int} {x v : Int32} (q : Nat) (hq : L[q]? = some (i, .int x)) (hv : x + Int32.ofInt j = v) (L' : List (Nat × Value)) (hn : i < nL) (hl : (i, Value.int v) :: L.filter (fun q => !(q.1 == i) && !(q.1 + 1 == i && q.2.category == 2)) = L') (hd : decode cc pc = .ok (.iinc i j, 3)) (k : me_W p l e R s m args below meth c cells slots Q D cA ad n nL A (pc + 3) L' st M) : me_W p l e R s m args below meth c cells slots Q D cA ad n nL A pc L st M := fun H locs ls hP hS h => lv_iinc X.1 X.2.1 hd h hq hv hn hl (fun ls' h' => k H locs ls' hP hS h')
theorem me_iadd (X : me_X p R s m args c D cA ad n nt N0 nL cells slots h A cc own tys) {x y : Int32} (hd : decode cc pc = .ok (.iadd, 1)) (k : me_W p l e R s m args below meth c cells slots Q D cA ad n nL A (pc + 1) L (.int (x + y) :: st) M) : me_W p l e R s m args below meth c cells slots Q D cA ad n nL A pc L (.int y :: .int x :: st) M := fun H locs ls hP hS h => lv_iadd X.1 X.2.1 hd (k H locs ls hP hS h)
theorem me_isub (X : me_X p R s m args c D cA ad n nt N0 nL cells slots h A cc own tys) {x y : Int32} (hd : decode cc pc = .ok (.isub, 1)) (k : me_W p l e R s m args below meth c cells slots Q D cA ad n nL A (pc + 1) L (.int (x - y) :: st) M) : me_W p l e R s m args below meth c cells slots Q D cA ad n nL A pc L (.int y :: .int x :: st) M := fun H locs ls hP hS h => lv_isub X.1 X.2.1 hd (k H locs ls hP hS h)
theorem me_imul (X : me_X p R s m args c D cA ad n nt N0 nL cells slots h A cc own tys) {x y : Int32} (hd : decode cc pc = .ok (.imul, 1)) (k : me_W p l e R s m args below meth c cells slots Q D cA ad n nL A (pc + 1) L (.int (x * y) :: st) M) : me_W p l e R s m args below meth c cells slots Q D cA ad n nL A pc L (.int y :: .int x :: st) M := fun H locs ls hP hS h => lv_imul X.1 X.2.1 hd (k H locs ls hP hS h)
theorem me_iand (X : me_X p R s m args c D cA ad n nt N0 nL cells slots h A cc own tys) {x y : Int32} (hd : decode cc pc = .ok (.iand, 1)) (k : me_W p l e R s m args below meth c cells slots Q D cA ad n nL A (pc + 1) L (.int (x &&& y) :: st) M) : me_W p l e R s m args below meth c cells slots Q D cA ad n nL A pc L (.int y :: .int x :: st) M := fun H locs ls hP hS h => lv_iand X.1 X.2.1 hd (k H locs ls hP hS h)
theorem me_ior (X : me_X p R s m args c D cA ad n nt N0 nL cells slots h A cc own tys) {x y : Int32} (hd : decode cc pc = .ok (.ior, 1)) (k : me_W p l e R s m args below meth c cells slots Q D cA ad n nL A (pc + 1) L (.int (x ||| y) :: st) M) : me_W p l e R s m args below meth c cells slots Q D cA ad n nL A pc L (.int y :: .int x :: st) M := fun H locs ls hP hS h => lv_ior X.1 X.2.1 hd (k H locs ls hP hS h)
theorem me_ixor (X : me_X p R s m args c D cA ad n nt N0 nL cells slots h A cc own tys) {x y : Int32} (hd : decode cc pc = .ok (.ixor, 1)) (k : me_W p l e R s m args below meth c cells slots Q D cA ad n nL A (pc + 1) L (.int (x ^^^ y) :: st) M) : me_W p l e R s m args below meth c cells slots Q D cA ad n nL A pc L (.int y :: .int x :: st) M := fun H locs ls hP hS h => lv_ixor X.1 X.2.1 hd (k H locs ls hP hS h)
theorem me_ishl (X : me_X p R s m args c D cA ad n nt N0 nL cells slots h A cc own tys) {x y : Int32} (hd : decode cc pc = .ok (.ishl, 1)) (k : me_W p l e R s m args below meth c cells slots Q D cA ad n nL A (pc + 1) L (.int (x <<< (y &&& 31)) :: st) M) : me_W p l e R s m args below meth c cells slots Q D cA ad n nL A pc L (.int y :: .int x :: st) M := fun H locs ls hP hS h => lv_ishl X.1 X.2.1 hd (k H locs ls hP hS h)
theorem me_ishr (X : me_X p R s m args c D cA ad n nt N0 nL cells slots h A cc own tys) {x y : Int32} (hd : decode cc pc = .ok (.ishr, 1)) (k : me_W p l e R s m args below meth c cells slots Q D cA ad n nL A (pc + 1) L (.int (x >>> (y &&& 31)) :: st) M) : me_W p l e R s m args below meth c cells slots Q D cA ad n nL A pc L (.int y :: .int x :: st) M := fun H locs ls hP hS h => lv_ishr X.1 X.2.1 hd (k H locs ls hP hS h)
theorem me_iushr (X : me_X p R s m args c D cA ad n nt N0 nL cells slots h A cc own tys) {x y : Int32} (hd : decode cc pc = .ok (.iushr, 1)) (k : me_W p l e R s m args below meth c cells slots Q D cA ad n nL A (pc + 1) L (.int ((x.toUInt32 >>> (y.toUInt32 &&& Int32.toUInt32 31)).toInt32) :: st) M) : me_W p l e R s m args below meth c cells slots Q D cA ad n nL A pc L (.int y :: .int x :: st) M := fun H locs ls hP hS h => lv_iushr X.1 X.2.1 hd rfl (k H locs ls hP hS h)
theorem me_ladd (X : me_X p R s m args c D cA ad n nt N0 nL cells slots h A cc own tys) {x y : Int64} (hd : decode cc pc = .ok (.ladd, 1)) (k : me_W p l e R s m args below meth c cells slots Q D cA ad n nL A (pc + 1) L (.long (x + y) :: st) M) : me_W p l e R s m args below meth c cells slots Q D cA ad n nL A pc L (.long y :: .long x :: st) M := fun H locs ls hP hS h => lv_ladd X.1 X.2.1 hd (k H locs ls hP hS h)
theorem me_lmul (X : me_X p R s m args c D cA ad n nt N0 nL cells slots h A cc own tys) {x y : Int64} (hd : decode cc pc = .ok (.lmul, 1)) (k : me_W p l e R s m args below meth c cells slots Q D cA ad n nL A (pc + 1) L (.long (x * y) :: st) M) : me_W p l e R s m args below meth c cells slots Q D cA ad n nL A pc L (.long y :: .long x :: st) M := fun H locs ls hP hS h => lv_lmul X.1 X.2.1 hd (k H locs ls hP hS h)
theorem me_idiv (X : me_X p R s m args c D cA ad n nt N0 nL cells slots h A cc own tys) {x y v : Int32} (hv : me_dv x y = some v) (hd : decode cc pc = .ok (.idiv, 1)) (k : me_W p l e R s m args below meth c cells slots Q D cA ad n nL A (pc + 1) L (.int v :: st) M) : me_W p l e R s m args below meth c cells slots Q D cA ad n nL A pc L (.int y :: .int x :: st) M := fun H locs ls hP hS h => lv_idiv X.1 X.2.1 hd (me_dv_spec hv).1 (by have := k H locs ls hP hS h; rw [(me_dv_spec hv).2] at this; exact this)
theorem me_irem (X : me_X p R s m args c D cA ad n nt N0 nL cells slots h A cc own tys) {x y v : Int32} (hv : me_md x y = some v) (hd : decode cc pc = .ok (.irem, 1)) (k : me_W p l e R s m args below meth c cells slots Q D cA ad n nL A (pc + 1) L (.int v :: st) M) : me_W p l e R s m args below meth c cells slots Q D cA ad n nL A pc L (.int y :: .int x :: st) M := fun H locs ls hP hS h => lv_irem X.1 X.2.1 hd (me_md_spec hv).1 (by have := k H locs ls hP hS h; rw [(me_md_spec hv).2] at this; exact this)
theorem me_dup (X : me_X p R s m args c D cA ad n nt N0 nL cells slots h A cc own tys) {v : Value} (hv : v.category = 1) (hd : decode cc pc = .ok (.dup, 1)) (k : me_W p l e R s m args below meth c cells slots Q D cA ad n nL A (pc + 1) L (v :: v :: st) M) : me_W p l e R s m args below meth c cells slots Q D cA ad n nL A pc L (v :: st) M := fun H locs ls hP hS h => lv_dup X.1 X.2.1 hd hv (k H locs ls hP hS h)
theorem me_pop (X : me_X p R s m args c D cA ad n nt N0 nL cells slots h A cc own tys) {v : Value} (hv : v.category = 1) (hd : decode cc pc = .ok (.pop, 1)) (k : me_W p l e R s m args below meth c cells slots Q D cA ad n nL A (pc + 1) L st M) : me_W p l e R s m args below meth c cells slots Q D cA ad n nL A pc L (v :: st) M := fun H locs ls hP hS h => lv_pop X.1 X.2.1 hd hv (k H locs ls hP hS h)
theorem me_dup2 (X : me_X p R s m args c D cA ad n nt N0 nL cells slots h A cc own tys) {v u : Value} (hv : v.category = 1) (hu : u.category = 1) (hd : decode cc pc = .ok (.dup2, 1)) (k : me_W p l e R s m args below meth c cells slots Q D cA ad n nL A (pc + 1) L (v :: u :: v :: u :: st) M) : me_W p l e R s m args below meth c cells slots Q D cA ad n nL A pc L (v :: u :: st) M := fun H locs ls hP hS h => lv_dup2_11 X.1 X.2.1 hd hv hu (k H locs ls hP hS h)
theorem me_i2l (X : me_X p R s m args c D cA ad n nt N0 nL cells slots h A cc own tys) {x : Int32} (hd : decode cc pc = .ok (.i2l, 1)) (k : me_W p l e R s m args below meth c cells slots Q D cA ad n nL A (pc + 1) L (.long x.toInt64 :: st) M) : me_W p l e R s m args below meth c cells slots Q D cA ad n nL A pc L (.int x :: st) M := fun H locs ls hP hS h => lv_i2l X.1 X.2.1 hd rfl (k H locs ls hP hS h)
theorem me_lcmp (X : me_X p R s m args c D cA ad n nt N0 nL cells slots h A cc own tys) {x y : Int64} (hd : decode cc pc = .ok (.lcmp, 1)) (k : me_W p l e R s m args below meth c cells slots Q D cA ad n nL A (pc + 1) L (.int (lg_cmp x y) :: st) M) : me_W p l e R s m args below meth c cells slots Q D cA ad n nL A pc L (.long y :: .long x :: st) M := fun H locs ls hP hS h => W.lcmp X.1 X.2.1 hd (k H locs ls hP hS h)
theorem me_if_eq (X : me_X p R s m args c D cA ad n nt N0 nL cells slots h A cc own tys) {x : Int32} {off : Int} (tgt : Nat) (ht : (pc : Int) + off = (tgt : Int)) (hd : decode cc pc = .ok (.ifCond .eq off, 3)) (kt : x = 0 → me_W p l e R s m args below meth c cells slots Q D cA ad n nL A tgt L st M) (kf : ¬ x = 0 → me_W p l e R s m args below meth c cells slots Q D cA ad n nL A (pc + 3) L st M) : me_W p l e R s m args below meth c cells slots Q D cA ad n nL A pc L (.int x :: st) M := fun H locs ls hP hS h => lv_if_eq X.1 X.2.1 hd ht (fun q => kt q H locs ls hP hS h) (fun q => kf q H locs ls hP hS h)
theorem me_if_ne (X : me_X p R s m args c D cA ad n nt N0 nL cells slots h A cc own tys) {x : Int32} {off : Int} (tgt : Nat) (ht : (pc : Int) + off = (tgt : Int)) (hd : decode cc pc = .ok (.ifCond .ne off, 3)) (kt : ¬ x = 0 → me_W p l e R s m args below meth c cells slots Q D cA ad n nL A tgt L st M) (kf : x = 0 → me_W p l e R s m args below meth c cells slots Q D cA ad n nL A (pc + 3) L st M) : me_W p l e R s m args below meth c cells slots Q D cA ad n nL A pc L (.int x :: st) M := fun H locs ls hP hS h => lv_if_ne X.1 X.2.1 hd ht (fun q => kt q H locs ls hP hS h) (fun q => kf q H locs ls hP hS h)
theorem me_if_lt (X : me_X p R s m args c D cA ad n nt N0 nL cells slots h A cc own tys) {x : Int32} {off : Int} (tgt : Nat) (ht : (pc : Int) + off = (tgt : Int)) (hd : decode cc pc = .ok (.ifCond .lt off, 3)) (kt : x < 0 → me_W p l e R s m args below meth c cells slots Q D cA ad n nL A tgt L st M) (kf : ¬ x < 0 → me_W p l e R s m args below meth c cells slots Q D cA ad n nL A (pc + 3) L st M) : me_W p l e R s m args below meth c cells slots Q D cA ad n nL A pc L (.int x :: st) M := fun H locs ls hP hS h => lv_if_lt X.1 X.2.1 hd ht (fun q => kt q H locs ls hP hS h) (fun q => kf q H locs ls hP hS h)
theorem me_if_ge (X : me_X p R s m args c D cA ad n nt N0 nL cells slots h A cc own tys) {x : Int32} {off : Int} (tgt : Nat) (ht : (pc : Int) + off = (tgt : Int)) (hd : decode cc pc = .ok (.ifCond .ge off, 3)) (kt : 0 ≤ x → me_W p l e R s m args below meth c cells slots Q D cA ad n nL A tgt L st M) (kf : ¬ 0 ≤ x → me_W p l e R s m args below meth c cells slots Q D cA ad n nL A (pc + 3) L st M) : me_W p l e R s m args below meth c cells slots Q D cA ad n nL A pc L (.int x :: st) M := fun H locs ls hP hS h => lv_if_ge X.1 X.2.1 hd ht (fun q => kt q H locs ls hP hS h) (fun q => kf q H locs ls hP hS h)
theorem me_if_gt (X : me_X p R s m args c D cA ad n nt N0 nL cells slots h A cc own tys) {x : Int32} {off : Int} (tgt : Nat) (ht : (pc : Int) + off = (tgt : Int)) (hd : decode cc pc = .ok (.ifCond .gt off, 3)) (kt : 0 < x → me_W p l e R s m args below meth c cells slots Q D cA ad n nL A tgt L st M) (kf : ¬ 0 < x → me_W p l e R s m args below meth c cells slots Q D cA ad n nL A (pc + 3) L st M) : me_W p l e R s m args below meth c cells slots Q D cA ad n nL A pc L (.int x :: st) M := fun H locs ls hP hS h => lv_if_gt X.1 X.2.1 hd ht (fun q => kt q H locs ls hP hS h) (fun q => kf q H locs ls hP hS h)
theorem me_if_le (X : me_X p R s m args c D cA ad n nt N0 nL cells slots h A cc own tys) {x : Int32} {off : Int} (tgt : Nat) (ht : (pc : Int) + off = (tgt : Int)) (hd : decode cc pc = .ok (.ifCond .le off, 3)) (kt : x ≤ 0 → me_W p l e R s m args below meth c cells slots Q D cA ad n nL A tgt L st M) (kf : ¬ x ≤ 0 → me_W p l e R s m args below meth c cells slots Q D cA ad n nL A (pc + 3) L st M) : me_W p l e R s m args below meth c cells slots Q D cA ad n nL A pc L (.int x :: st) M := fun H locs ls hP hS h => lv_if_le X.1 X.2.1 hd ht (fun q => kt q H locs ls hP hS h) (fun q => kf q H locs ls hP hS h)
theorem me_icmp_eq (X : me_X p R s m args c D cA ad n nt N0 nL cells slots h A cc own tys) {x y : Int32} {off : Int} (tgt : Nat) (ht : (pc : Int) + off = (tgt : Int)) (hd : decode cc pc = .ok (.if_icmp .eq off, 3)) (kt : x = y → me_W p l e R s m args below meth c cells slots Q D cA ad n nL A tgt L st M) (kf : ¬ x = y → me_W p l e R s m args below meth c cells slots Q D cA ad n nL A (pc + 3) L st M) : me_W p l e R s m args below meth c cells slots Q D cA ad n nL A pc L (.int y :: .int x :: st) M := fun H locs ls hP hS h => lv_icmp_eq X.1 X.2.1 hd ht (fun q => kt q H locs ls hP hS h) (fun q => kf q H locs ls hP hS h)
theorem me_icmp_ne (X : me_X p R s m args c D cA ad n nt N0 nL cells slots h A cc own tys) {x y : Int32} {off : Int} (tgt : Nat) (ht : (pc : Int) + off = (tgt : Int)) (hd : decode cc pc = .ok (.if_icmp .ne off, 3)) (kt : ¬ x = y → me_W p l e R s m args below meth c cells slots Q D cA ad n nL A tgt L st M) (kf : x = y → me_W p l e R s m args below meth c cells slots Q D cA ad n nL A (pc + 3) L st M) : me_W p l e R s m args below meth c cells slots Q D cA ad n nL A pc L (.int y :: .int x :: st) M := fun H locs ls hP hS h => lv_icmp_ne X.1 X.2.1 hd ht (fun q => kt q H locs ls hP hS h) (fun q => kf q H locs ls hP hS h)
theorem me_icmp_lt (X : me_X p R s m args c D cA ad n nt N0 nL cells slots h A cc own tys) {x y : Int32} {off : Int} (tgt : Nat) (ht : (pc : Int) + off = (tgt : Int)) (hd : decode cc pc = .ok (.if_icmp .lt off, 3)) (kt : x < y → me_W p l e R s m args below meth c cells slots Q D cA ad n nL A tgt L st M) (kf : ¬ x < y → me_W p l e R s m args below meth c cells slots Q D cA ad n nL A (pc + 3) L st M) : me_W p l e R s m args below meth c cells slots Q D cA ad n nL A pc L (.int y :: .int x :: st) M := fun H locs ls hP hS h => lv_icmp_lt X.1 X.2.1 hd ht (fun q => kt q H locs ls hP hS h) (fun q => kf q H locs ls hP hS h)
theorem me_icmp_ge (X : me_X p R s m args c D cA ad n nt N0 nL cells slots h A cc own tys) {x y : Int32} {off : Int} (tgt : Nat) (ht : (pc : Int) + off = (tgt : Int)) (hd : decode cc pc = .ok (.if_icmp .ge off, 3)) (kt : y ≤ x → me_W p l e R s m args below meth c cells slots Q D cA ad n nL A tgt L st M) (kf : ¬ y ≤ x → me_W p l e R s m args below meth c cells slots Q D cA ad n nL A (pc + 3) L st M) : me_W p l e R s m args below meth c cells slots Q D cA ad n nL A pc L (.int y :: .int x :: st) M := fun H locs ls hP hS h => lv_icmp_ge X.1 X.2.1 hd ht (fun q => kt q H locs ls hP hS h) (fun q => kf q H locs ls hP hS h)
theorem me_icmp_gt (X : me_X p R s m args c D cA ad n nt N0 nL cells slots h A cc own tys) {x y : Int32} {off : Int} (tgt : Nat) (ht : (pc : Int) + off = (tgt : Int)) (hd : decode cc pc = .ok (.if_icmp .gt off, 3)) (kt : y < x → me_W p l e R s m args below meth c cells slots Q D cA ad n nL A tgt L st M) (kf : ¬ y < x → me_W p l e R s m args below meth c cells slots Q D cA ad n nL A (pc + 3) L st M) : me_W p l e R s m args below meth c cells slots Q D cA ad n nL A pc L (.int y :: .int x :: st) M := fun H locs ls hP hS h => lv_icmp_gt X.1 X.2.1 hd ht (fun q => kt q H locs ls hP hS h) (fun q => kf q H locs ls hP hS h)
theorem me_icmp_le (X : me_X p R s m args c D cA ad n nt N0 nL cells slots h A cc own tys) {x y : Int32} {off : Int} (tgt : Nat) (ht : (pc : Int) + off = (tgt : Int)) (hd : decode cc pc = .ok (.if_icmp .le off, 3)) (kt : x ≤ y → me_W p l e R s m args below meth c cells slots Q D cA ad n nL A tgt L st M) (kf : ¬ x ≤ y → me_W p l e R s m args below meth c cells slots Q D cA ad n nL A (pc + 3) L st M) : me_W p l e R s m args below meth c cells slots Q D cA ad n nL A pc L (.int y :: .int x :: st) M := fun H locs ls hP hS h => lv_icmp_le X.1 X.2.1 hd ht (fun q => kt q H locs ls hP hS h) (fun q => kf q H locs ls hP hS h)
theorem me_goto (X : me_X p R s m args c D cA ad n nt N0 nL cells slots h A cc own tys) {off : Int} (tgt : Nat) (ht : (pc : Int) + off = (tgt : Int)) (hd : decode cc pc = .ok (.goto off, 3)) (k : me_W p l e R s m args below meth c cells slots Q D cA ad n nL A tgt L st M) : me_W p l e R s m args below meth c cells slots Q D cA ad n nL A pc L st M := fun H locs ls hP hS h => lv_goto X.1 X.2.1 hd ht (k H locs ls hP hS h)
theorem me_tout (X : me_X p R s m args c D cA ad n nt N0 nL cells slots h A cc own tys) {dflt lo hi : Int} {offs : Array Int} {len : Nat} {x : Int32} (tgt : Nat) (hx : x.toInt < lo ∨ hi < x.toInt) (ht : (pc : Int) + dflt = (tgt : Int)) (hd : decode cc pc = .ok (.tableswitch dflt lo hi offs, len)) (k : me_W p l e R s m args below meth c cells slots Q D cA ad n nL A tgt L st M) : me_W p l e R s m args below meth c cells slots Q D cA ad n nL A pc L (.int x :: st) M := fun H locs ls hP hS h => lv_tableOut X.1 X.2.1 hd hx ht (k H locs ls hP hS h)
theorem me_tin (X : me_X p R s m args c D cA ad n nt N0 nL cells slots h A cc own tys) {dflt lo hi : Int} {offs : Array Int} {len : Nat} {x : Int32} {off : Int} (tgt : Nat) (h1 : ¬ x.toInt < lo) (h2 : ¬ hi < x.toInt) (ho : offs[(x.toInt - lo).toNat]? = some off) (ht : (pc : Int) + off = (tgt : Int)) (hd : decode cc pc = .ok (.tableswitch dflt lo hi offs, len)) (k : me_W p l e R s m args below meth c cells slots Q D cA ad n nL A tgt L st M) : me_W p l e R s m args below meth c cells slots Q D cA ad n nL A pc L (.int x :: st) M := fun H locs ls hP hS h => lv_tableIn X.1 X.2.1 hd h1 h2 ho ht (k H locs ls hP hS h)
theorem me_look (X : me_X p R s m args c D cA ad n nt N0 nL cells slots h A cc own tys) {dflt : Int} {ps : Array (Int × Int)} {len : Nat} {x : Int32} {off : Int} (tgt : Nat) (hp : (ps.toList.zip (ps.toList.drop 1)).all (fun (a, next) => a.1 < next.1) = true) (ho : Op.lookupswitch.offset ps.toList dflt x.toInt = off) (ht : (pc : Int) + off = (tgt : Int)) (hd : decode cc pc = .ok (.lookupswitch dflt ps, len)) (k : me_W p l e R s m args below meth c cells slots Q D cA ad n nL A tgt L st M) : me_W p l e R s m args below meth c cells slots Q D cA ad n nL A pc L (.int x :: st) M := fun H locs ls hP hS h => lv_lookup X.1 X.2.1 hd hp ho ht (k H locs ls hP hS h)
theorem me_ty0 (X : me_X p R s m args c D cA ad n nt N0 nL cells slots h A cc own tys) : tys[0]? = some (cA 0, .int) := by
  rw [X.2.2.2.2.2.2.1 0 X.2.2.2.2.2.2.2.2.2.2.1]
  rfl
theorem me_iald (X : me_X p R s m args c D cA ad n nt N0 nL cells slots h A cc own tys) {i N : Nat} {x v : Int32} (hi : i < N0) (hk : me_k i = (0, N, 0, 0)) (he : me_r M i N x = some v) (hd : decode cc pc = .ok (.iaload, 1)) (k : me_W p l e R s m args below meth c cells slots Q D cA ad n nL A (pc + 1) L (.int v :: st) M) : me_W p l e R s m args below meth c cells slots Q D cA ad n nL A pc L (.int x :: .ref (ad i) :: st) M := by
  intro H locs ls hP hS h
  obtain ⟨h1, rfl⟩ := me_r_spec he
  have hg : (me_w n ad cA M)[i]? = some (ad i, .inl (cA 0, N, .inl (M.1 i))) := by
    rw [me_w_get (Nat.lt_of_lt_of_le hi X.2.2.2.2.2.2.2.2.2.1)]
    unfold me_c
    rw [hk]
    rfl
  exact va_iald X.1 X.2.1 X.2.2.2.2.2.1 hP i 0 hg (me_ty0 X) h1 hd (k H locs ls hP hS h)
theorem me_iast (X : me_X p R s m args c D cA ad n nt N0 nL cells slots h A cc own tys) {i N : Nat} {x v : Int32} {M1 : me_M} (hi : i < N0) (hk : me_k i = (0, N, 0, 0)) (he : me_t M i N x v = some M1) (hd : decode cc pc = .ok (.iastore, 1)) (k : me_W p l e R s m args below meth c cells slots Q D cA ad n nL A (pc + 1) L st M1) : me_W p l e R s m args below meth c cells slots Q D cA ad n nL A pc L (.int v :: .int x :: .ref (ad i) :: st) M := by
  intro H locs ls hP hS h
  obtain ⟨h1, rfl⟩ := me_t_spec he
  have hg : (me_w n ad cA M)[i]? = some (ad i, .inl (cA 0, N, .inl (M.1 i))) := by
    rw [me_w_get (Nat.lt_of_lt_of_le hi X.2.2.2.2.2.2.2.2.2.1)]
    unfold me_c
    rw [hk]
    rfl
  refine va_iast X.1 X.2.1 X.2.2.2.2.2.1 hP (X.2.2.2.2.2.2.2.1 M) hS i 0 hg (me_ty0 X) h1 hd (fun H1 locs1 hP1 hD1 hS1 => ?_)
  rw [me_w_set (M' := me_s M i x.toNatClampNeg v) (by unfold me_c; rw [hk]; show (Sum.inl (cA 0, N, Sum.inl ((me_s M i x.toNatClampNeg v).1 i)) : va_E) = _; rw [me_s_eq]) (fun j hj => me_c_cong (me_s_ne hj) rfl)] at hP1
  exact k H1 locs1 ls hP1 hS1 h
theorem me_alen (X : me_X p R s m args c D cA ad n nt N0 nL cells slots h A cc own tys) {i N : Nat} {v : Int32} (hi : i < N0) (hk : me_k i = (0, N, 0, 0)) (hv : Int32.ofNat N = v) (hd : decode cc pc = .ok (.arraylength, 1)) (k : me_W p l e R s m args below meth c cells slots Q D cA ad n nL A (pc + 1) L (.int v :: st) M) : me_W p l e R s m args below meth c cells slots Q D cA ad n nL A pc L (.ref (ad i) :: st) M := by
  intro H locs ls hP hS h
  have hg : (me_w n ad cA M)[i]? = some (ad i, .inl (cA 0, N, .inl (M.1 i))) := by
    rw [me_w_get (Nat.lt_of_lt_of_le hi X.2.2.2.2.2.2.2.2.2.1)]
    unfold me_c
    rw [hk]
    rfl
  exact va_alen X.1 X.2.1 X.2.2.2.2.2.1 hP i 0 hg (me_ty0 X) hv hd (k H locs ls hP hS h)
theorem me_aald (X : me_X p R s m args c D cA ad n nt N0 nL cells slots h A cc own tys) {i N b t j : Nat} {x : Int32} (hi : i < N0) (ht : 0 < t ∧ t < 4 ∧ t < nt) (hk : me_k i = (1, N, b, t)) (he : me_a N b x = some j) (hd : decode cc pc = .ok (.aaload, 1)) (k : me_W p l e R s m args below meth c cells slots Q D cA ad n nL A (pc + 1) L (.ref (ad j) :: st) M) : me_W p l e R s m args below meth c cells slots Q D cA ad n nL A pc L (.int x :: .ref (ad i) :: st) M := by
  intro H locs ls hP hS h
  obtain ⟨h1, rfl⟩ := me_a_spec he
  have hg : (me_w n ad cA M)[i]? = some (ad i, .inl (cA t, N, .inr (.inr (.inr (.inr (fun j => some (ad (b + j)))))))) := by
    rw [me_w_get (Nat.lt_of_lt_of_le hi X.2.2.2.2.2.2.2.2.2.1)]
    unfold me_c
    rw [hk]
    rfl
  have hty : ∃ ty : FieldType, ty.isReference = true ∧ tys[t]? = some (cA t, ty) := by
    rw [X.2.2.2.2.2.2.1 t ht.2.2]
    match t, ht with
    | 1, _ => exact ⟨.array .int, rfl, rfl⟩
    | 2, _ => exact ⟨.array (.array .int), rfl, rfl⟩
    | 3, _ => exact ⟨.array (.array (.array .int)), rfl, rfl⟩
    | 0, ht => exact absurd ht.1 (by omega)
    | t + 4, ht => exact absurd ht.2.1 (by omega)
  obtain ⟨ty, hr, hty⟩ := hty
  have hlt : x.toNatClampNeg < N := Nat.not_le.mp fun q => h1 (Or.inr q)
  exact W.aald (v := .ref (ad (b + x.toNatClampNeg))) (ty := ty) X.1 X.2.1 (hP i _ hg) ((X.2.2.2.2.2.1.2 t _ hty).1 N (fun j => va_rf (some (ad (b + j))))) hr (fun q => by cases q) (by show ¬ (x < 0 ∨ (arrV _ _ _).slots.size ≤ _); rw [arrV_size]; exact h1) (by show (arrV _ _ _).slots[_]? = _; rw [arrV_read _ _ hlt]; rfl) rfl rfl hd (k H locs ls hP hS h)
def me_F (own : String) (index ci k : Nat) : Prop := ∃ (C : String) (T : u_T) (N : Nat), vwCl[ci]? = some (C, T, N) ∧ k < N ∧ (∀ w ∈ u_ws C T N, w ∈ lw_good) ∧ (Cond.fieldLink own index (T k).1 (T k).2.1 (T k).2.2.1 ∈ lw_good ∨ ∃ host, Cond.fieldLinkNest own index (T k).1 (T k).2.1 (T k).2.2.1 host ∈ lw_nest)
def me_G (own : String) (index ci k : Nat) (ty : FieldType) : Prop := ∃ (C : String) (T : u_T) (N : Nat) (ty0 : Nat → FieldType), vwCl[ci]? = some (C, T, N) ∧ k < N ∧ (∀ w ∈ u_ws C T N, w ∈ lw_good) ∧ (∀ k, k < N → parseFieldDescriptor (T k).2.2.1 = some (ty0 k)) ∧ (∀ a, a < N → ∀ b, b < N → a ≠ b → (T a).2.1 ≠ (T b).2.1) ∧ (T k).2.2.2 = false ∧ parseFieldDescriptor (T k).2.2.1 = some ty ∧ (Cond.fieldLink own index (T k).1 (T k).2.1 (T k).2.2.1 ∈ lw_good ∨ ∃ host, Cond.fieldLinkNest own index (T k).1 (T k).2.1 (T k).2.2.1 host ∈ lw_nest)
theorem me_w_obj {i ci : Nat} (h : i < n) (hk : me_k i = (2, ci, 0, 0)) : (me_w n ad cA M)[i]? = some (ad i, .inr (ci, me_fl ad M i 0 (me_fs i))) := by
  rw [me_w_get h]
  unfold me_c
  rw [hk]
  rfl
theorem me_getv (X : me_X p R s m args c D cA ad n nt N0 nL cells slots h A cc own tys) {index ci k i f : Nat} (hF : me_F own index ci k) (hi : i < N0) (hk : me_k i = (2, ci, 0, 0)) (hf : (me_fs i)[k]? = some f) (hd : decode cc pc = .ok (.getfield index, 3)) (kk : me_W p l e R s m args below meth c cells slots Q D cA ad n nL A (pc + 3) L (me_fv ad M i k f :: st) M) : me_W p l e R s m args below meth c cells slots Q D cA ad n nL A pc L (.ref (ad i) :: st) M := by
  intro H locs ls hP hS h
  obtain ⟨C, T, N, hc, hkN, hin, hlk⟩ := hF
  have hv : (me_fl ad M i 0 (me_fs i))[k]? = some (me_fv ad M i k f) := by
    rw [me_fl_get, hf, Nat.zero_add]
    rfl
  rcases hlk with hq | ⟨host, hq⟩
  · exact va_get X.1 X.2.1 X.2.2.2.2.1 hin X.2.2.2.1 X.2.2.2.2.2.1 hP i (me_w_obj (Nat.lt_of_lt_of_le hi X.2.2.2.2.2.2.2.2.2.1) hk) hc k hkN (X.2.2.2.2.1 _ hq) (fun _ h9 => h9) hv hd (kk H locs ls hP hS h)
  · exact va_getN X.1 X.2.1 X.2.2.2.2.1 hin X.2.2.2.1 X.2.2.2.2.2.1 hP i (me_w_obj (Nat.lt_of_lt_of_le hi X.2.2.2.2.2.2.2.2.2.1) hk) hc k hkN (va_Nw.use rfl (X.2.2.2.2.2.2.2.2.2.2.2.2.2.1 _ hq)) (fun _ h9 => h9) hv hd (kk H locs ls hP hS h)
theorem me_geti (X : me_X p R s m args c D cA ad n nt N0 nL cells slots h A cc own tys) {index ci k i : Nat} (hF : me_F own index ci k) (hi : i < N0) (hk : me_k i = (2, ci, 0, 0)) (hf : (me_fs i)[k]? = some 0) (hd : decode cc pc = .ok (.getfield index, 3)) (kk : me_W p l e R s m args below meth c cells slots Q D cA ad n nL A (pc + 3) L (.int (M.1 i k) :: st) M) : me_W p l e R s m args below meth c cells slots Q D cA ad n nL A pc L (.ref (ad i) :: st) M := me_getv X hF hi hk hf hd kk
theorem me_getr (X : me_X p R s m args c D cA ad n nt N0 nL cells slots h A cc own tys) {index ci k i : Nat} (j : Nat) (hF : me_F own index ci k) (hi : i < N0) (hk : me_k i = (2, ci, 0, 0)) (hf : (me_fs i)[k]? = some (j + 3)) (hd : decode cc pc = .ok (.getfield index, 3)) (kk : me_W p l e R s m args below meth c cells slots Q D cA ad n nL A (pc + 3) L (.ref (ad j) :: st) M) : me_W p l e R s m args below meth c cells slots Q D cA ad n nL A pc L (.ref (ad i) :: st) M := me_getv X hF hi hk hf hd kk
theorem me_getp0 (X : me_X p R s m args c D cA ad n nt N0 nL cells slots h A cc own tys) {index ci k i : Nat} (hF : me_F own index ci k) (hi : i < N0) (hk : me_k i = (2, ci, 0, 0)) (hf : (me_fs i)[k]? = some 1) (hd : decode cc pc = .ok (.getfield index, 3)) (kk : me_W p l e R s m args below meth c cells slots Q D cA ad n nL A (pc + 3) L (.ref (ad (M.2.1 0)) :: st) M) : me_W p l e R s m args below meth c cells slots Q D cA ad n nL A pc L (.ref (ad i) :: st) M := me_getv X hF hi hk hf hd kk
theorem me_getp1 (X : me_X p R s m args c D cA ad n nt N0 nL cells slots h A cc own tys) {index ci k i : Nat} (hF : me_F own index ci k) (hi : i < N0) (hk : me_k i = (2, ci, 0, 0)) (hf : (me_fs i)[k]? = some 2) (hd : decode cc pc = .ok (.getfield index, 3)) (kk : me_W p l e R s m args below meth c cells slots Q D cA ad n nL A (pc + 3) L (.ref (ad (M.2.1 1)) :: st) M) : me_W p l e R s m args below meth c cells slots Q D cA ad n nL A pc L (.ref (ad i) :: st) M := me_getv X hF hi hk hf hd kk
theorem me_putv (X : me_X p R s m args c D cA ad n nt N0 nL cells slots h A cc own tys) {index ci k i : Nat} {ty : FieldType} {v : Value} {M1 : me_M} (hF : me_G own index ci k ty) (hi : i < N0) (hk : me_k i = (2, ci, 0, 0)) (hlen : k < (me_fs i).length) (hn : narrow ty v = v) (hfit : fits ty v = true) (hM1 : me_fl ad M1 i 0 (me_fs i) = (me_fl ad M i 0 (me_fs i)).set k v) (hM2 : ∀ j, j ≠ i → me_c ad cA M1 j = me_c ad cA M j) (hd : decode cc pc = .ok (.putfield index, 3)) (kk : me_W p l e R s m args below meth c cells slots Q D cA ad n nL A (pc + 3) L st M1) : me_W p l e R s m args below meth c cells slots Q D cA ad n nL A pc L (v :: .ref (ad i) :: st) M := by
  intro H locs ls hP hS h
  obtain ⟨C, T, N, ty0, hc, hkN, hin, hty, hnm, hfin, hpd, hlk⟩ := hF
  have hw : (me_w n ad cA M).set i (ad i, .inr (ci, (me_fl ad M i 0 (me_fs i)).set k v)) = me_w n ad cA M1 := me_w_set (by unfold me_c; rw [hk, ← hM1]; rfl) hM2
  rcases hlk with hq | ⟨host, hq⟩
  · refine va_put X.1 X.2.1 X.2.2.2.2.1 hin ty0 hty hnm X.2.2.2.1 X.2.2.2.2.2.1 hP (X.2.2.2.2.2.2.2.1 M) hS i (me_w_obj (Nat.lt_of_lt_of_le hi X.2.2.2.2.2.2.2.2.2.1) hk) hc k hkN (X.2.2.2.2.1 _ hq) (fun _ h9 => h9) hfin hpd hn hfit (by rw [me_fl_len]; exact hlen) hd (fun H1 locs1 hP1 hD1 hS1 => ?_)
    rw [hw] at hP1
    exact kk H1 locs1 ls hP1 hS1 h
  · refine va_putN X.1 X.2.1 X.2.2.2.2.1 hin ty0 hty hnm X.2.2.2.1 X.2.2.2.2.2.1 hP (X.2.2.2.2.2.2.2.1 M) hS i (me_w_obj (Nat.lt_of_lt_of_le hi X.2.2.2.2.2.2.2.2.2.1) hk) hc k hkN (va_Nw.use rfl (X.2.2.2.2.2.2.2.2.2.2.2.2.2.1 _ hq)) (fun _ h9 => h9) hfin hpd hn hfit (by rw [me_fl_len]; exact hlen) hd (fun H1 locs1 hP1 hD1 hS1 => ?_)
    rw [hw] at hP1
    exact kk H1 locs1 ls hP1 hS1 h
theorem me_fl_s (ad : Nat → Nat) (M : me_M) (i k : Nat) (x : Int32) : ∀ (cs : List Nat) (k0 : Nat), cs[k]? = some 0 → me_fl ad (me_s M i (k0 + k) x) i k0 cs = (me_fl ad M i k0 cs).set k (.int x) := by
  have hv : ∀ k1 k2 f, k2 ≠ k1 → me_fv ad (me_s M i k1 x) i k2 f = me_fv ad M i k2 f := by
    intro k1 k2 f h
    match f with
    | 0 => simp only [me_fv, me_s_eq]; rw [pk_un h]
    | 1 => rfl
    | 2 => rfl
    | j + 3 => rfl
  have hrest : ∀ (cs : List Nat) (k1 k0 : Nat), k1 < k0 → me_fl ad (me_s M i k1 x) i k0 cs = me_fl ad M i k0 cs := by
    intro cs
    induction cs with
    | nil => intro k1 k0 _; rfl
    | cons f cs ih => intro k1 k0 hlt; simp only [me_fl]; rw [hv k1 k0 f (by omega), ih k1 (k0 + 1) (by omega)]
  induction k with
  | zero =>
    intro cs k0 h
    match cs, h with
    | f :: cs, h =>
      have hf : f = 0 := by simpa using h
      subst hf
      simp only [me_fl, List.set_cons_zero, Nat.add_zero]
      rw [hrest cs k0 (k0 + 1) (by omega)]
      simp only [me_fv, me_s_eq]
      rw [pk_us]
  | succ k ih =>
    intro cs k0 h
    match cs, h with
    | f :: cs, h =>
      simp only [me_fl, List.set_cons_succ]
      rw [hv (k0 + (k + 1)) k0 f (by omega)]
      have h2 := ih cs (k0 + 1) (by simpa using h)
      rw [show k0 + 1 + k = k0 + (k + 1) by omega] at h2
      rw [h2]
theorem me_puti (X : me_X p R s m args c D cA ad n nt N0 nL cells slots h A cc own tys) {index ci k i : Nat} {x : Int32} (hF : me_G own index ci k .int) (hi : i < N0) (hk : me_k i = (2, ci, 0, 0)) (hf : (me_fs i)[k]? = some 0) (hd : decode cc pc = .ok (.putfield index, 3)) (kk : me_W p l e R s m args below meth c cells slots Q D cA ad n nL A (pc + 3) L st (me_s M i k x)) : me_W p l e R s m args below meth c cells slots Q D cA ad n nL A pc L (.int x :: .ref (ad i) :: st) M := by
  have h1 := me_fl_s ad M i k x (me_fs i) 0 hf
  rw [Nat.zero_add] at h1
  exact me_putv X hF hi hk (List.getElem?_eq_some_iff.mp hf).1 rfl rfl h1 (fun j hj => me_c_cong (me_s_ne hj) rfl) hd kk
theorem me_putz (X : me_X p R s m args c D cA ad n nt N0 nL cells slots h A cc own tys) {index ci k i : Nat} {x : Int32} (hx : narrow .boolean (.int x) = .int x ∧ fits .boolean (.int x) = true) (hF : me_G own index ci k .boolean) (hi : i < N0) (hk : me_k i = (2, ci, 0, 0)) (hf : (me_fs i)[k]? = some 0) (hd : decode cc pc = .ok (.putfield index, 3)) (kk : me_W p l e R s m args below meth c cells slots Q D cA ad n nL A (pc + 3) L st (me_s M i k x)) : me_W p l e R s m args below meth c cells slots Q D cA ad n nL A pc L (.int x :: .ref (ad i) :: st) M := by
  have h1 := me_fl_s ad M i k x (me_fs i) 0 hf
  rw [Nat.zero_add] at h1
  exact me_putv X hF hi hk (List.getElem?_eq_some_iff.mp hf).1 hx.1 hx.2 h1 (fun j hj => me_c_cong (me_s_ne hj) rfl) hd kk
end MEW
/-! ===== contracts over the memory: entry, returns, calls ===== -/
theorem me_good_in {y : MethodName} {cc : ByteArray} {maxL : Nat} {ret : Option FieldType} (h : Cond.code y cc maxL ret ∈ lw_good) : GoodIn lw_good (Cond.code y cc maxL ret :: lw_good) := by
  intro w hw
  rcases List.mem_cons.mp hw with rfl | hw
  · exact ⟨h, good_of_word (List.mem_filter.mp h).2⟩
  · exact ⟨hw, good_of_word (List.mem_filter.mp hw).2⟩
theorem me_nw_same {u U : State} (h : u.vm = U.vm) (hn : ∀ w ∈ lw_nest, va_Nw w u) : ∀ w ∈ lw_nest, va_Nw w U := by
  intro w hw
  have hq := (List.mem_filter.mp hw).2
  exact va_Nw.same (by cases w <;> first | rfl | cases hq) h (hn w hw)
theorem me_nw_warm {u U : State} (h : u.WarmedH U.vm) (hn : ∀ w ∈ lw_nest, va_Nw w u) : ∀ w ∈ lw_nest, va_Nw w U := by
  intro w hw
  have hq := (List.mem_filter.mp hw).2
  have h1 := hn w hw
  cases w <;> first | exact va_Nw.warmF h h1 | exact va_Nw.warmM h h1 | exact va_Nw.warmC h h1 | exact va_Nw.warmD h h1 | cases hq
def me_Qc (D : va_G) (cA : Nat → ClassId) (ad : Nat → Nat) (n : Nat) (A : Nat → Prop) (r : Option Value) (M' : me_M) : Array Value → State → Outcome → State → Prop := fun _ st oc t => oc = .returned r ∧ va_P D vwCl (me_w n ad cA M') t.heap ∧ va_F A st t
def me_B (D : va_G) (cA : Nat → ClassId) (ad : Nat → Nat) (n : Nat) (tys : List (ClassId × FieldType)) (sz : Nat) (M : me_M) (U : State) : Prop := U.heap.size = sz ∧ va_P D vwCl (me_w n ad cA M) U.heap ∧ va_K D vwCl tys U ∧ va_D (fun _ => True) (me_w n ad cA M) ∧ ∀ w ∈ lw_nest, va_Nw w U
abbrev me_rm (h : Nat) : Room := { frames := h, cells := 0, slots := 0, locals := 40 * h }
/-- the contract: from the memory M the method, called with av, returns r, and the memory is M' -/
def me_Ct (l : Launch) (y : MethodName) (cc : ByteArray) (maxL : Nat) (ret : Option FieldType) (h n nt : Nat) (av : (Nat → Nat) → List Value) (M : me_M) (r : (Nat → Nat) → Option Value) (M' : me_M) : Prop :=
  ∀ (D : va_G) (cA : Nat → ClassId) (ad : Nat → Nat) (tys : List (ClassId × FieldType)) (sz : Nat), (∀ k, k < nt → tys[k]? = (me_tys cA)[k]?) → Met l y (Cond.code y cc maxL ret :: lw_good) (me_rm h) (va_Pc (av ad) (me_B D cA ad n tys sz M)) (me_Qc D cA ad n (va_A (me_w n ad cA M) sz) (r ad) M') 0 0 (va_A (me_w n ad cA M) sz)
theorem me_B_blind {D : va_G} {cA : Nat → ClassId} {ad : Nat → Nat} {n : Nat} {tys : List (ClassId × FieldType)} {sz : Nat} {M : me_M} {av : List Value} : FrameBlind (va_Pc av (me_B D cA ad n tys sz M)) := by
  intro a U g mk q
  obtain ⟨q0, q1, qP, qK, qD, qN⟩ := q
  exact ⟨q0, q1, qP, va_K.moved (u := U) (U := U.calling g mk a) (Vm.Alike.refl U.vm) qK, qD, me_nw_same (u := U) (U := U.calling g mk a) rfl qN⟩
theorem me_ofW {l : Launch} {y : MethodName} {ws ws' : List Cond} {rm : Room} {Pc : Array Value → State → Prop} {Qc : Array Value → State → Outcome → State → Prop} {mc ms : Nat} {free : Addr → Prop} {cc : ByteArray} {maxL : Nat} {ret : Option FieldType} (hy : plainFor y = true) (hw : ws = Cond.code y cc maxL ret :: ws')
    (body : ∀ p e s m args below meth c s₁, BodyLoose p l y (headSpec ws rm) cc maxL ret e s m args below meth c s₁ → c.maxLocals = maxL → Pc args s → W p l e (headSpec ws rm).room s m args below meth c s.heap [] 0 0 (MQ below Qc args s mc ms free) (entryFrame m args maxL)) : Met l y ws rm Pc Qc mc ms free := by
  refine MetFree.of_bodySF (code := cc) (maxLocals := maxL) (ret := ret) hy (fun args s m h hn => ?_) (fun p e s m args below meth c s₁ B hml hP _ => ?_)
  · obtain ⟨meth, c, h1, h2, h3, h4, h5, h6, -, -⟩ := Cond.code_spec hn (atoms_spec (ws := ws) h _ (by rw [hw]; exact List.mem_cons_self))
    exact ⟨meth, c, h1, h2, h3, h4, h5, h6⟩
  · obtain ⟨t, a1, o, b1, b2, b3⟩ := body p e s m args below meth c s₁ B hml hP s₁ (by rw [B.state]; rfl) (Stand.of_body B)
    exact ⟨t, o, a1, b1, b2, ⟨b3.1, b3.2⟩⟩
set_option maxHeartbeats 1000000 in
theorem me_enter {l : Launch} {y : MethodName} {cc : ByteArray} {maxL : Nat} {ret : Option FieldType} {h n nt N0 : Nat} {av : (Nat → Nat) → List Value} {M : me_M} {r : (Nat → Nat) → Option Value} {M' : me_M} (own : String) (hown : y.cls = own) (hpl : plainFor y = true) (hN : N0 ≤ n) (hnt : 1 ≤ nt) (hfit : ∀ ad, (lg_sl (av ad)).length ≤ maxL)
    (body : ∀ (p : Program) (e : Env) (R : Room) (s : State) (m : MethodId) (args : Array Value) (below : List Frame) (meth : Method) (c : Code) (D : va_G) (cA : Nat → ClassId) (ad : Nat → Nat) (tys : List (ClassId × FieldType)) (A : Nat → Prop), me_X p R s m args c D cA ad n nt N0 maxL 0 0 h A cc own tys → meth.sig.returnType = ret → meth.locks = false → me_W p l e R s m args below meth c 0 0 (MQ below (me_Qc D cA ad n A (r ad) M') args s 0 0 A) D cA ad n maxL A 0 (lv_args 0 (av ad)) [] M) : me_Ct l y cc maxL ret h n nt av M r M' := by
  intro D cA ad tys sz htys
  refine me_ofW (cc := cc) (maxL := maxL) (ret := ret) hpl rfl ?_
  intro p e s m args below meth c s₁ B hml hv
  obtain ⟨rfl, hsz, hP, hK, hD0, hN9⟩ := hv
  have hts := atoms_spec (ws := Cond.code y cc maxL ret :: lw_good) B.pre
  have hown9 : s.vm.findClass y.cls = some m.cls := findClass_of_methodNamed B.named
  subst hsz
  have hD := hD0.self (sz := s.heap.size)
  generalize hAe : va_A (me_w n ad cA M) s.heap.size = A at hD ⊢
  have hA : ∀ q : Nat, s.heap.size ≤ q → A q := fun q h => by rw [← hAe]; exact Or.inr h
  have hS : va_S A s.heap s.heap [] := va_S.rf
  have hl := lv_entry (av ad) (n := maxL) (hfit ad)
  rw [lg_entry_eq]
  generalize (lg_sl (av ad) ++ List.replicate (maxL - (lg_sl (av ad)).length) Slot.unset).toArray = ls at hl ⊢
  subst hown
  exact body p e _ s m _ below meth c D cA ad tys A ⟨B.exec, B.bytes, hml, hown9, fun w hw => hts w (List.mem_cons_of_mem _ hw), hK, htys, fun M => me_w_D hD, hA, hN, hnt, Nat.zero_le _, Nat.zero_le _, hN9, Nat.le_refl _, Nat.le_refl _⟩ B.returns B.notSynchronized s.heap [] ls hP hS hl
section MEC
variable {p : Program} {l : Launch} {e : Env} {R : Room} {s : State} {m : MethodId} {args : Array Value} {below : List Frame} {meth : Method} {c : Code} {cells slots : Nat} {Q : State → Prop}
variable {D : va_G} {cA : Nat → ClassId} {ad : Nat → Nat} {n nt N0 nL pc h : Nat} {A : Nat → Prop} {cc : ByteArray} {own : String} {tys : List (ClassId × FieldType)} {L : List (Nat × Value)} {st : List Value} {M : me_M}
theorem me_iret (X : me_X p R s m args c D cA ad n nt N0 nL cells slots h A cc own tys) {v : Int32} (hr : meth.sig.returnType = some .int) (hlk : meth.locks = false) (hd : decode cc pc = .ok (.ireturn, 1)) : me_W p l e R s m args below meth c cells slots (MQ below (me_Qc D cA ad n A (some (.int v)) M) args s cells slots A) D cA ad n nL A pc L [.int v] M := fun H locs ls hP hS _ => W.iret X.1 X.2.1 hr (fun t ht _ => ⟨rfl, by rw [ht]; exact hP, hS.F ht⟩) hS.2.2 hd hlk
theorem me_zret (X : me_X p R s m args c D cA ad n nt N0 nL cells slots h A cc own tys) {v : Int32} (hv : narrow .boolean (.int v) = .int v) (hr : meth.sig.returnType = some .boolean) (hlk : meth.locks = false) (hd : decode cc pc = .ok (.ireturn, 1)) : me_W p l e R s m args below meth c cells slots (MQ below (me_Qc D cA ad n A (some (.int v)) M) args s cells slots A) D cA ad n nL A pc L [.int v] M := fun H locs ls hP hS _ => W.zret X.1 X.2.1 hr hv (fun t ht _ => ⟨rfl, by rw [ht]; exact hP, hS.F ht⟩) hS.2.2 hd hlk
theorem me_lret (X : me_X p R s m args c D cA ad n nt N0 nL cells slots h A cc own tys) {v : Int64} (hr : meth.sig.returnType = some .long) (hlk : meth.locks = false) (hd : decode cc pc = .ok (.lreturn, 1)) : me_W p l e R s m args below meth c cells slots (MQ below (me_Qc D cA ad n A (some (.long v)) M) args s cells slots A) D cA ad n nL A pc L [.long v] M := fun H locs ls hP hS _ => W.lret X.1 X.2.1 hr (fun t ht _ => ⟨rfl, by rw [ht]; exact hP, hS.F ht⟩) hS.2.2 hd hlk
theorem me_vret (X : me_X p R s m args c D cA ad n nt N0 nL cells slots h A cc own tys) (hr : meth.sig.returnType = none) (hlk : meth.locks = false) (hd : decode cc pc = .ok (.return_, 1)) : me_W p l e R s m args below meth c cells slots (MQ below (me_Qc D cA ad n A none M) args s cells slots A) D cA ad n nL A pc L [] M := fun H locs ls hP hS _ => W.vret X.1 X.2.1 hr (fun t ht _ => ⟨rfl, by rw [ht]; exact hP, hS.F ht⟩) hS.2.2 hd hlk
theorem me_aret (X : me_X p R s m args c D cA ad n nt N0 nL cells slots h A cc own tys) {v : Nat} {cn : String} (hr : meth.sig.returnType = some (.object cn)) (hlk : meth.locks = false) (hd : decode cc pc = .ok (.areturn, 1)) : me_W p l e R s m args below meth c cells slots (MQ below (me_Qc D cA ad n A (some (.ref v)) M) args s cells slots A) D cA ad n nL A pc L [.ref v] M := fun H locs ls hP hS _ => W.aret X.1 X.2.1 hr (Or.inl ⟨cn, rfl⟩) (Or.inr ⟨v, rfl⟩) (fun t ht _ => ⟨rfl, by rw [ht]; exact hP, hS.F ht⟩) hS.2.2 hd hlk
/-- behind a call -/
theorem me_after {H : Heap} {locs : List Loc} {ls : Array Slot} {stk : List Value} {rv : Option Value} {M1 : me_M} {a : Array Value} (hr : va_Run p l e R s m args below meth c H locs cells slots 0 0 (F0 m pc ls stk) st (me_Qc D cA ad n (va_A (me_w n ad cA M) H.size) rv M1 a) (va_A (me_w n ad cA M) H.size)) (hS : va_S A s.heap H locs) (hA : ∀ q, va_A (me_w n ad cA M) H.size q → A q)
    (k : ∀ (H1 : Heap) (locs1 : List Loc), va_P D vwCl (me_w n ad cA M1) H1 → va_S A s.heap H1 locs1 → W p l e R s m args below meth c H1 locs1 cells slots Q (F0 m (pc + 3) ls (rv.toList ++ st))) : W p l e R s m args below meth c H locs cells slots Q (F0 m pc ls stk) := by
  intro T hT X
  obtain ⟨v, st₀, t, T', L, h0, X', hL, e1, e2, ⟨hv, hb, hz, hk⟩, hgo⟩ := hr T hT X
  cases hv
  rw [h0] at hz hk
  obtain ⟨t2, a1, b1⟩ := k T'.heap (locs ++ L) (by rw [e1]; exact hb)
    ⟨Nat.le_trans hS.1 (by rw [e1]; exact hz), fun q h1 h2 => by rw [e1, hk q (Nat.lt_of_lt_of_le h1 hS.1) (fun z => h2 (hA q z))]; exact hS.2.1 q h1 h2, fun q hq => by
      rcases List.mem_append.mp hq with h | h
      · exact hS.2.2 q h
      · exact hA _ (hL q h)⟩ T' rfl X'
  exact ⟨t2, hgo t2 a1, b1⟩
/-- what the tables say of a call of an object's method -/
def me_V (own : String) (index : Nat) (y : MethodName) (bytes : ByteArray) (maxL : Nat) (ret : Option FieldType) (ci na : Nat) : Prop := (∃ (T : u_T) (N : Nat), vwCl[ci]? = some (y.cls, T, N)) ∧ (Cond.methodLink own index y ∈ lw_good ∨ ∃ host, Cond.methodLinkNest own index y host ∈ lw_nest) ∧ Cond.instanceMethod y ∈ lw_good ∧ Cond.selects y.cls y y ∈ lw_good ∧ Cond.initialized y.cls ∈ lw_good ∧ Cond.code y bytes maxL ret ∈ lw_good ∧ y.cls ≠ "java/lang/invoke/MethodHandle" ∧ y.cls ≠ "java/lang/invoke/VarHandle" ∧ (parseMethodDescriptor y.desc).map (fun d => d.parameters.length) = some na ∧ maxL ≤ 21
def me_S (own : String) (index : Nat) (y : MethodName) (bytes : ByteArray) (maxL : Nat) (ret : Option FieldType) (na : Nat) : Prop := (Cond.methodLink own index y ∈ lw_good ∨ ∃ host, Cond.methodLinkNest own index y host ∈ lw_nest) ∧ Cond.static y ∈ lw_good ∧ Cond.initialized y.cls ∈ lw_good ∧ Cond.code y bytes maxL ret ∈ lw_good ∧ y.cls ≠ "java/lang/invoke/MethodHandle" ∧ y.cls ≠ "java/lang/invoke/VarHandle" ∧ (parseMethodDescriptor y.desc).map (fun d => d.parameters.length) = some na ∧ maxL ≤ 21
set_option maxHeartbeats 2000000 in
theorem me_callV (X : me_X p R s m args c D cA ad n nt N0 nL cells slots h A cc own tys) {y : MethodName} {bytes : ByteArray} {maxL index i ci h' nt' : Nat} {ret : Option FieldType} {av : (Nat → Nat) → List Value} {r : (Nat → Nat) → Option Value} {M1 : me_M} (As : List Value) {stk : List Value}
    (hC : me_Ct l y bytes maxL ret h' n nt' av M r M1) (hV : me_V own index y bytes maxL ret ci As.length) (hav : av ad = .ref (ad i) :: As) (hstk : stk = As.reverse ++ .ref (ad i) :: st) (hi : i < N0) (hk : me_k i = (2, ci, 0, 0)) (hh : h' + 1 ≤ h) (hnt : nt' ≤ nt) (hw : (st.map fun v => v.category).sum ≤ 8) (hd : decode cc pc = .ok (.invokevirtual index, 3))
    (k : me_W p l e R s m args below meth c cells slots Q D cA ad n nL A (pc + 3) L ((r ad).toList ++ st) M1) : me_W p l e R s m args below meth c cells slots Q D cA ad n nL A pc L stk M := by
  intro H locs ls hP hS hl
  obtain ⟨hx, hb, hml, hown, hts, hK, htys, hD, hA, hN, hnt1, hcl, hsl, hnw, hfr, hlo⟩ := X
  obtain ⟨⟨T, N, hc⟩, hlk, hin, hsel, hini, hcode, hy1, hy2, hna, hm21⟩ := hV
  subst hstk
  have hM := hC D cA ad tys H.size (fun k hk => htys k (Nat.lt_of_lt_of_le hk hnt))
  rw [hav] at hM
  have hsub : ∀ q, va_A (me_w n ad cA M) H.size q → A q := by
    rintro q (⟨k9, e9, h9⟩ | h9)
    · exact (hD M).2 k9 _ h9
    · exact hA q (Nat.le_trans hS.1 h9)
  have hp : PreV s H y.cls (ad i) (va_Pc (.ref (ad i) :: As) (me_B D cA ad n tys H.size M)) As := ⟨me_B_blind, va_recv hK hP hc (me_w_obj (Nat.lt_of_lt_of_le hi hN) hk), fun U hU hW => ⟨rfl, by rw [hU], by rw [hU]; exact hP, va_K.moved hW.alike hK, (hD M).weaken (fun _ _ _ _ => trivial), me_nw_warm hW hnw⟩⟩
  have hR : (me_rm h').frames + 1 ≤ R.frames ∧ 8 + (maxL + 11) + (me_rm h').locals ≤ R.locals := ⟨Nat.le_trans hh hfr, by show 8 + (maxL + 11) + 40 * h' ≤ R.locals; omega⟩
  have hG := me_good_in hcode
  have hf : cells + 0 ≤ R.cells ∧ slots + 0 ≤ R.slots := ⟨hcl, hsl⟩
  rcases hlk with hq | ⟨host, hq⟩
  · exact me_after (va_runV (C := y.cls) ⟨hx, hb, hml, hown, hts⟩ hM ⟨callB_of As.length hts hG rfl rfl rfl (hts _ hini) (hts _ hq) ⟨hy1, hy2, hna⟩ hR, hts _ hin, hts _ hsel⟩ hp rfl rfl hl.1 rfl (lv_room hw) hd hf) hS hsub (fun H1 locs1 hP1 hS1 => k H1 locs1 ls hP1 hS1 hl)
  · exact me_after (va_runVN (C := y.cls) ⟨hx, hb, hml, hown, hts⟩ hM ⟨va_cnB As.length hts hG rfl rfl rfl (hnw _ hq) (hts _ hini) ⟨hy1, hy2, hna⟩ hR, hts _ hin, hts _ hsel⟩ hp rfl rfl hl.1 rfl (lv_room hw) hd hf) hS hsub (fun H1 locs1 hP1 hS1 => k H1 locs1 ls hP1 hS1 hl)
set_option maxHeartbeats 2000000 in
theorem me_callS (X : me_X p R s m args c D cA ad n nt N0 nL cells slots h A cc own tys) {y : MethodName} {bytes : ByteArray} {maxL index h' nt' : Nat} {ret : Option FieldType} {av : (Nat → Nat) → List Value} {r : (Nat → Nat) → Option Value} {M1 : me_M} (As : List Value) {stk : List Value}
    (hC : me_Ct l y bytes maxL ret h' n nt' av M r M1) (hV : me_S own index y bytes maxL ret As.length) (hav : av ad = As) (hstk : stk = As.reverse ++ st) (hh : h' + 1 ≤ h) (hnt : nt' ≤ nt) (hw : (st.map fun v => v.category).sum ≤ 8) (hd : decode cc pc = .ok (.invokestatic index, 3))
    (k : me_W p l e R s m args below meth c cells slots Q D cA ad n nL A (pc + 3) L ((r ad).toList ++ st) M1) : me_W p l e R s m args below meth c cells slots Q D cA ad n nL A pc L stk M := by
  intro H locs ls hP hS hl
  obtain ⟨hx, hb, hml, hown, hts, hK, htys, hD, hA, hN, hnt1, hcl, hsl, hnw, hfr, hlo⟩ := X
  obtain ⟨hlk, hin, hini, hcode, hy1, hy2, hna, hm21⟩ := hV
  subst hstk
  have hM := hC D cA ad tys H.size (fun k hk => htys k (Nat.lt_of_lt_of_le hk hnt))
  rw [hav] at hM
  have hsub : ∀ q, va_A (me_w n ad cA M) H.size q → A q := by
    rintro q (⟨k9, e9, h9⟩ | h9)
    · exact (hD M).2 k9 _ h9
    · exact hA q (Nat.le_trans hS.1 h9)
  have hp : PreS s H (va_Pc As (me_B D cA ad n tys H.size M)) As := ⟨me_B_blind, fun U hU hW => ⟨rfl, by rw [hU], by rw [hU]; exact hP, va_K.moved hW.alike hK, (hD M).weaken (fun _ _ _ _ => trivial), me_nw_warm hW hnw⟩⟩
  have hR : (me_rm h').frames + 1 ≤ R.frames ∧ 8 + (maxL + 11) + (me_rm h').locals ≤ R.locals := ⟨Nat.le_trans hh hfr, by show 8 + (maxL + 11) + 40 * h' ≤ R.locals; omega⟩
  have hG := me_good_in hcode
  have hf : cells + 0 ≤ R.cells ∧ slots + 0 ≤ R.slots := ⟨hcl, hsl⟩
  rcases hlk with hq | ⟨host, hq⟩
  · exact me_after (va_runS ⟨hx, hb, hml, hown, hts⟩ hM ⟨callB_of As.length hts hG rfl rfl rfl (hts _ hini) (hts _ hq) ⟨hy1, hy2, hna⟩ hR, hts _ hin⟩ hp rfl rfl hl.1 rfl (lv_room hw) hd hf) hS hsub (fun H1 locs1 hP1 hS1 => k H1 locs1 ls hP1 hS1 hl)
  · exact me_after (va_runSN ⟨hx, hb, hml, hown, hts⟩ hM ⟨va_cnB As.length hts hG rfl rfl rfl (hnw _ hq) (hts _ hini) ⟨hy1, hy2, hna⟩ hR, hts _ hin, trivial⟩ hp rfl rfl hl.1 rfl (lv_room hw) hd hf) hS hsub (fun H1 locs1 hP1 hS1 => k H1 locs1 ls hP1 hS1 hl)
end MEC

theorem me_k0 : me_k 0 = (2, 11, 0, 0) := by decide +kernel
theorem me_k1 : me_k 1 = (2, 9, 0, 0) := by decide +kernel
theorem me_k2 : me_k 2 = (0, 240, 0, 0) := by decide +kernel
theorem me_k3 : me_k 3 = (2, 10, 0, 0) := by decide +kernel
theorem me_k4 : me_k 4 = (0, 241, 0, 0) := by decide +kernel
theorem me_k5 : me_k 5 = (0, 241, 0, 0) := by decide +kernel
theorem me_k6 : me_k 6 = (0, 241, 0, 0) := by decide +kernel
theorem me_k7 : me_k 7 = (0, 241, 0, 0) := by decide +kernel
theorem me_k8 : me_k 8 = (0, 241, 0, 0) := by decide +kernel
theorem me_k9 : me_k 9 = (2, 4, 0, 0) := by decide +kernel
theorem me_k10 : me_k 10 = (0, 241, 0, 0) := by decide +kernel
theorem me_k11 : me_k 11 = (0, 241, 0, 0) := by decide +kernel
theorem me_k12 : me_k 12 = (0, 241, 0, 0) := by decide +kernel
theorem me_k13 : me_k 13 = (0, 1936, 0, 0) := by decide +kernel
theorem me_k14 : me_k 14 = (2, 4, 0, 0) := by decide +kernel
theorem me_k15 : me_k 15 = (0, 241, 0, 0) := by decide +kernel
theorem me_k16 : me_k 16 = (0, 241, 0, 0) := by decide +kernel
theorem me_k17 : me_k 17 = (0, 241, 0, 0) := by decide +kernel
theorem me_k18 : me_k 18 = (0, 1936, 0, 0) := by decide +kernel
theorem me_k19 : me_k 19 = (2, 0, 0, 0) := by decide +kernel
theorem me_k20 : me_k 20 = (2, 7, 0, 0) := by decide +kernel
theorem me_k21 : me_k 21 = (0, 41, 0, 0) := by decide +kernel
theorem me_k22 : me_k 22 = (0, 41, 0, 0) := by decide +kernel
theorem me_k23 : me_k 23 = (0, 41, 0, 0) := by decide +kernel
theorem me_k24 : me_k 24 = (0, 40, 0, 0) := by decide +kernel
theorem me_k25 : me_k 25 = (0, 80, 0, 0) := by decide +kernel
theorem me_k26 : me_k 26 = (2, 2, 0, 0) := by decide +kernel
theorem me_k27 : me_k 27 = (0, 240, 0, 0) := by decide +kernel
theorem me_k28 : me_k 28 = (0, 240, 0, 0) := by decide +kernel
theorem me_k29 : me_k 29 = (0, 240, 0, 0) := by decide +kernel
theorem me_k30 : me_k 30 = (2, 8, 0, 0) := by decide +kernel
theorem me_k31 : me_k 31 = (0, 241, 0, 0) := by decide +kernel
theorem me_k32 : me_k 32 = (0, 240, 0, 0) := by decide +kernel
theorem me_k33 : me_k 33 = (0, 240, 0, 0) := by decide +kernel
theorem me_k34 : me_k 34 = (0, 240, 0, 0) := by decide +kernel
theorem me_k35 : me_k 35 = (0, 240, 0, 0) := by decide +kernel
theorem me_k36 : me_k 36 = (2, 1, 0, 0) := by decide +kernel
theorem me_k37 : me_k 37 = (2, 7, 0, 0) := by decide +kernel
theorem me_k38 : me_k 38 = (0, 41, 0, 0) := by decide +kernel
theorem me_k39 : me_k 39 = (0, 41, 0, 0) := by decide +kernel
theorem me_k40 : me_k 40 = (0, 41, 0, 0) := by decide +kernel
theorem me_k41 : me_k 41 = (0, 24, 0, 0) := by decide +kernel
theorem me_k42 : me_k 42 = (0, 24, 0, 0) := by decide +kernel
theorem me_k43 : me_k 43 = (0, 24, 0, 0) := by decide +kernel
theorem me_k44 : me_k 44 = (0, 24, 0, 0) := by decide +kernel
theorem me_k45 : me_k 45 = (0, 241, 0, 0) := by decide +kernel
theorem me_k46 : me_k 46 = (0, 241, 0, 0) := by decide +kernel
theorem me_k47 : me_k 47 = (2, 3, 0, 0) := by decide +kernel
theorem me_k48 : me_k 48 = (0, 24, 0, 0) := by decide +kernel
theorem me_k49 : me_k 49 = (0, 241, 0, 0) := by decide +kernel
theorem me_k50 : me_k 50 = (0, 241, 0, 0) := by decide +kernel
theorem me_k51 : me_k 51 = (0, 241, 0, 0) := by decide +kernel
theorem me_k52 : me_k 52 = (2, 6, 0, 0) := by decide +kernel
theorem me_k53 : me_k 53 = (2, 5, 0, 0) := by decide +kernel
theorem me_k54 : me_k 54 = (0, 40, 0, 0) := by decide +kernel
theorem me_k55 : me_k 55 = (0, 40, 0, 0) := by decide +kernel
theorem me_k56 : me_k 56 = (0, 40, 0, 0) := by decide +kernel
theorem me_k57 : me_k 57 = (0, 5, 0, 0) := by decide +kernel
theorem me_k58 : me_k 58 = (2, 5, 0, 0) := by decide +kernel
theorem me_k59 : me_k 59 = (0, 40, 0, 0) := by decide +kernel
theorem me_k60 : me_k 60 = (0, 40, 0, 0) := by decide +kernel
theorem me_k61 : me_k 61 = (0, 40, 0, 0) := by decide +kernel
theorem me_k62 : me_k 62 = (0, 5, 0, 0) := by decide +kernel
theorem me_k63 : me_k 63 = (2, 12, 0, 0) := by decide +kernel
theorem me_k64 : me_k 64 = (0, 3, 0, 0) := by decide +kernel
theorem me_k65 : me_k 65 = (0, 240, 0, 0) := by decide +kernel
theorem me_k66 : me_k 66 = (1, 2, 67, 1) := by decide +kernel
theorem me_k67 : me_k 67 = (0, 241, 0, 0) := by decide +kernel
theorem me_k68 : me_k 68 = (0, 241, 0, 0) := by decide +kernel
theorem me_k69 : me_k 69 = (1, 2, 70, 1) := by decide +kernel
theorem me_k70 : me_k 70 = (0, 241, 0, 0) := by decide +kernel
theorem me_k71 : me_k 71 = (0, 241, 0, 0) := by decide +kernel
theorem me_k72 : me_k 72 = (1, 2, 73, 1) := by decide +kernel
theorem me_k73 : me_k 73 = (0, 241, 0, 0) := by decide +kernel
theorem me_k74 : me_k 74 = (0, 241, 0, 0) := by decide +kernel
theorem me_k75 : me_k 75 = (0, 84, 0, 0) := by decide +kernel
theorem me_k76 : me_k 76 = (0, 40, 0, 0) := by decide +kernel
theorem me_k77 : me_k 77 = (0, 2, 0, 0) := by decide +kernel
theorem me_k78 : me_k 78 = (0, 2, 0, 0) := by decide +kernel
theorem me_k79 : me_k 79 = (0, 241, 0, 0) := by decide +kernel
theorem me_k80 : me_k 80 = (0, 241, 0, 0) := by decide +kernel
theorem me_k81 : me_k 81 = (0, 24, 0, 0) := by decide +kernel
theorem me_k82 : me_k 82 = (0, 5, 0, 0) := by decide +kernel
theorem me_k83 : me_k 83 = (0, 24, 0, 0) := by decide +kernel
theorem me_k84 : me_k 84 = (0, 24, 0, 0) := by decide +kernel
theorem me_k85 : me_k 85 = (0, 24, 0, 0) := by decide +kernel
theorem me_k86 : me_k 86 = (0, 24, 0, 0) := by decide +kernel
theorem me_k87 : me_k 87 = (0, 240, 0, 0) := by decide +kernel
theorem me_k88 : me_k 88 = (0, 240, 0, 0) := by decide +kernel
theorem me_k89 : me_k 89 = (0, 3, 0, 0) := by decide +kernel
theorem me_k90 : me_k 90 = (1, 2, 91, 3) := by decide +kernel
theorem me_k91 : me_k 91 = (1, 8, 93, 2) := by decide +kernel
theorem me_k92 : me_k 92 = (1, 8, 101, 2) := by decide +kernel
theorem me_k157 : me_k 157 = (1, 25, 158, 1) := by decide +kernel
theorem me_k183 : me_k 183 = (1, 240, 184, 1) := by decide +kernel
theorem me_k424 : me_k 424 = (3, 1, 0, 0) := by decide +kernel
theorem me_f0_0 : (me_fs 0)[0]? = some 4 := by decide +kernel
theorem me_f0_1 : (me_fs 0)[1]? = some 6 := by decide +kernel
theorem me_f0_2 : (me_fs 0)[2]? = some 12 := by decide +kernel
theorem me_f0_3 : (me_fs 0)[3]? = some 17 := by decide +kernel
theorem me_f0_4 : (me_fs 0)[4]? = some 22 := by decide +kernel
theorem me_f0_5 : (me_fs 0)[5]? = some 29 := by decide +kernel
theorem me_f0_6 : (me_fs 0)[6]? = some 33 := by decide +kernel
theorem me_f0_7 : (me_fs 0)[7]? = some 39 := by decide +kernel
theorem me_f0_8 : (me_fs 0)[8]? = some 50 := by decide +kernel
theorem me_f0_9 : (me_fs 0)[9]? = some 55 := by decide +kernel
theorem me_f0_10 : (me_fs 0)[10]? = some 1 := by decide +kernel
theorem me_f0_11 : (me_fs 0)[11]? = some 2 := by decide +kernel
theorem me_f0_12 : (me_fs 0)[12]? = some 0 := by decide +kernel
theorem me_f0_13 : (me_fs 0)[13]? = some 0 := by decide +kernel
theorem me_f0_14 : (me_fs 0)[14]? = some 0 := by decide +kernel
theorem me_f0_15 : (me_fs 0)[15]? = some 0 := by decide +kernel
theorem me_f1_0 : (me_fs 1)[0]? = some 5 := by decide +kernel
theorem me_f1_1 : (me_fs 1)[1]? = some 0 := by decide +kernel
theorem me_f3_0 : (me_fs 3)[0]? = some 7 := by decide +kernel
theorem me_f3_1 : (me_fs 3)[1]? = some 8 := by decide +kernel
theorem me_f3_2 : (me_fs 3)[2]? = some 9 := by decide +kernel
theorem me_f3_3 : (me_fs 3)[3]? = some 10 := by decide +kernel
theorem me_f3_4 : (me_fs 3)[4]? = some 11 := by decide +kernel
theorem me_f3_5 : (me_fs 3)[5]? = some 0 := by decide +kernel
theorem me_f3_6 : (me_fs 3)[6]? = some 0 := by decide +kernel
theorem me_f3_7 : (me_fs 3)[7]? = some 0 := by decide +kernel
theorem me_f9_0 : (me_fs 9)[0]? = some 7 := by decide +kernel
theorem me_f9_1 : (me_fs 9)[1]? = some 13 := by decide +kernel
theorem me_f9_2 : (me_fs 9)[2]? = some 14 := by decide +kernel
theorem me_f9_3 : (me_fs 9)[3]? = some 15 := by decide +kernel
theorem me_f9_4 : (me_fs 9)[4]? = some 16 := by decide +kernel
theorem me_f9_5 : (me_fs 9)[5]? = some 0 := by decide +kernel
theorem me_f14_0 : (me_fs 14)[0]? = some 8 := by decide +kernel
theorem me_f14_1 : (me_fs 14)[1]? = some 18 := by decide +kernel
theorem me_f14_2 : (me_fs 14)[2]? = some 19 := by decide +kernel
theorem me_f14_3 : (me_fs 14)[3]? = some 20 := by decide +kernel
theorem me_f14_4 : (me_fs 14)[4]? = some 21 := by decide +kernel
theorem me_f14_5 : (me_fs 14)[5]? = some 0 := by decide +kernel
theorem me_f19_0 : (me_fs 19)[0]? = some 23 := by decide +kernel
theorem me_f19_1 : (me_fs 19)[1]? = some 27 := by decide +kernel
theorem me_f19_2 : (me_fs 19)[2]? = some 28 := by decide +kernel
theorem me_f19_3 : (me_fs 19)[3]? = some 0 := by decide +kernel
theorem me_f19_4 : (me_fs 19)[4]? = some 0 := by decide +kernel
theorem me_f20_0 : (me_fs 20)[0]? = some 12 := by decide +kernel
theorem me_f20_1 : (me_fs 20)[1]? = some 17 := by decide +kernel
theorem me_f20_2 : (me_fs 20)[2]? = some 24 := by decide +kernel
theorem me_f20_3 : (me_fs 20)[3]? = some 25 := by decide +kernel
theorem me_f20_4 : (me_fs 20)[4]? = some 26 := by decide +kernel
theorem me_f26_0 : (me_fs 26)[0]? = some 6 := by decide +kernel
theorem me_f26_1 : (me_fs 26)[1]? = some 12 := by decide +kernel
theorem me_f26_2 : (me_fs 26)[2]? = some 30 := by decide +kernel
theorem me_f26_3 : (me_fs 26)[3]? = some 31 := by decide +kernel
theorem me_f26_4 : (me_fs 26)[4]? = some 32 := by decide +kernel
theorem me_f26_5 : (me_fs 26)[5]? = some 0 := by decide +kernel
theorem me_f30_0 : (me_fs 30)[0]? = some 6 := by decide +kernel
theorem me_f30_1 : (me_fs 30)[1]? = some 34 := by decide +kernel
theorem me_f30_2 : (me_fs 30)[2]? = some 35 := by decide +kernel
theorem me_f30_3 : (me_fs 30)[3]? = some 36 := by decide +kernel
theorem me_f30_4 : (me_fs 30)[4]? = some 37 := by decide +kernel
theorem me_f30_5 : (me_fs 30)[5]? = some 38 := by decide +kernel
theorem me_f30_6 : (me_fs 30)[6]? = some 0 := by decide +kernel
theorem me_f30_7 : (me_fs 30)[7]? = some 0 := by decide +kernel
theorem me_f30_8 : (me_fs 30)[8]? = some 0 := by decide +kernel
theorem me_f36_0 : (me_fs 36)[0]? = some 6 := by decide +kernel
theorem me_f36_1 : (me_fs 36)[1]? = some 12 := by decide +kernel
theorem me_f36_2 : (me_fs 36)[2]? = some 40 := by decide +kernel
theorem me_f36_3 : (me_fs 36)[3]? = some 44 := by decide +kernel
theorem me_f36_4 : (me_fs 36)[4]? = some 45 := by decide +kernel
theorem me_f36_5 : (me_fs 36)[5]? = some 46 := by decide +kernel
theorem me_f36_6 : (me_fs 36)[6]? = some 47 := by decide +kernel
theorem me_f36_7 : (me_fs 36)[7]? = some 48 := by decide +kernel
theorem me_f36_8 : (me_fs 36)[8]? = some 49 := by decide +kernel
theorem me_f36_9 : (me_fs 36)[9]? = some 0 := by decide +kernel
theorem me_f36_10 : (me_fs 36)[10]? = some 0 := by decide +kernel
theorem me_f36_11 : (me_fs 36)[11]? = some 0 := by decide +kernel
theorem me_f37_0 : (me_fs 37)[0]? = some 12 := by decide +kernel
theorem me_f37_1 : (me_fs 37)[1]? = some 17 := by decide +kernel
theorem me_f37_2 : (me_fs 37)[2]? = some 41 := by decide +kernel
theorem me_f37_3 : (me_fs 37)[3]? = some 42 := by decide +kernel
theorem me_f37_4 : (me_fs 37)[4]? = some 43 := by decide +kernel
theorem me_f47_0 : (me_fs 47)[0]? = some 51 := by decide +kernel
theorem me_f47_1 : (me_fs 47)[1]? = some 52 := by decide +kernel
theorem me_f47_2 : (me_fs 47)[2]? = some 53 := by decide +kernel
theorem me_f47_3 : (me_fs 47)[3]? = some 54 := by decide +kernel
theorem me_f47_4 : (me_fs 47)[4]? = some 0 := by decide +kernel
theorem me_f47_5 : (me_fs 47)[5]? = some 0 := by decide +kernel
theorem me_f47_6 : (me_fs 47)[6]? = some 0 := by decide +kernel
theorem me_f47_7 : (me_fs 47)[7]? = some 0 := by decide +kernel
theorem me_f47_8 : (me_fs 47)[8]? = some 0 := by decide +kernel
theorem me_f52_0 : (me_fs 52)[0]? = some 4 := by decide +kernel
theorem me_f52_1 : (me_fs 52)[1]? = some 0 := by decide +kernel
theorem me_f52_2 : (me_fs 52)[2]? = some 0 := by decide +kernel
theorem me_f52_3 : (me_fs 52)[3]? = some 0 := by decide +kernel
theorem me_f52_4 : (me_fs 52)[4]? = some 0 := by decide +kernel
theorem me_f53_0 : (me_fs 53)[0]? = some 57 := by decide +kernel
theorem me_f53_1 : (me_fs 53)[1]? = some 58 := by decide +kernel
theorem me_f53_2 : (me_fs 53)[2]? = some 59 := by decide +kernel
theorem me_f53_3 : (me_fs 53)[3]? = some 60 := by decide +kernel
theorem me_f53_4 : (me_fs 53)[4]? = some 0 := by decide +kernel
theorem me_f53_5 : (me_fs 53)[5]? = some 0 := by decide +kernel
theorem me_f53_6 : (me_fs 53)[6]? = some 0 := by decide +kernel
theorem me_f53_7 : (me_fs 53)[7]? = some 0 := by decide +kernel
theorem me_f53_8 : (me_fs 53)[8]? = some 0 := by decide +kernel
theorem me_f53_9 : (me_fs 53)[9]? = some 0 := by decide +kernel
theorem me_f53_10 : (me_fs 53)[10]? = some 0 := by decide +kernel
theorem me_f58_0 : (me_fs 58)[0]? = some 62 := by decide +kernel
theorem me_f58_1 : (me_fs 58)[1]? = some 63 := by decide +kernel
theorem me_f58_2 : (me_fs 58)[2]? = some 64 := by decide +kernel
theorem me_f58_3 : (me_fs 58)[3]? = some 65 := by decide +kernel
theorem me_f58_4 : (me_fs 58)[4]? = some 0 := by decide +kernel
theorem me_f58_5 : (me_fs 58)[5]? = some 0 := by decide +kernel
theorem me_f58_6 : (me_fs 58)[6]? = some 0 := by decide +kernel
theorem me_f58_7 : (me_fs 58)[7]? = some 0 := by decide +kernel
theorem me_f58_8 : (me_fs 58)[8]? = some 0 := by decide +kernel
theorem me_f58_9 : (me_fs 58)[9]? = some 0 := by decide +kernel
theorem me_f58_10 : (me_fs 58)[10]? = some 0 := by decide +kernel
theorem me_f63_0 : (me_fs 63)[0]? = some 0 := by decide +kernel
theorem me_f63_1 : (me_fs 63)[1]? = some 67 := by decide +kernel
theorem me_f63_2 : (me_fs 63)[2]? = some 0 := by decide +kernel
theorem me_f63_3 : (me_fs 63)[3]? = some 0 := by decide +kernel
theorem me_f63_4 : (me_fs 63)[4]? = some 68 := by decide +kernel
theorem me_f63_5 : (me_fs 63)[5]? = some 0 := by decide +kernel
theorem me_f63_6 : (me_fs 63)[6]? = some 0 := by decide +kernel
theorem me_f63_7 : (me_fs 63)[7]? = some 69 := by decide +kernel
theorem me_f63_8 : (me_fs 63)[8]? = some 72 := by decide +kernel
theorem me_f63_9 : (me_fs 63)[9]? = some 75 := by decide +kernel
theorem me_f63_10 : (me_fs 63)[10]? = some 0 := by decide +kernel
theorem me_f63_11 : (me_fs 63)[11]? = some 0 := by decide +kernel
theorem me_f63_12 : (me_fs 63)[12]? = some 78 := by decide +kernel
theorem me_f63_13 : (me_fs 63)[13]? = some 79 := by decide +kernel
theorem me_f63_14 : (me_fs 63)[14]? = some 80 := by decide +kernel
theorem me_f63_15 : (me_fs 63)[15]? = some 81 := by decide +kernel
theorem me_f63_16 : (me_fs 63)[16]? = some 93 := by decide +kernel
theorem me_f63_17 : (me_fs 63)[17]? = some 0 := by decide +kernel
theorem me_f63_18 : (me_fs 63)[18]? = some 0 := by decide +kernel
theorem me_f63_19 : (me_fs 63)[19]? = some 0 := by decide +kernel
theorem me_f63_20 : (me_fs 63)[20]? = some 0 := by decide +kernel
theorem me_f63_21 : (me_fs 63)[21]? = some 82 := by decide +kernel
theorem me_f63_22 : (me_fs 63)[22]? = some 83 := by decide +kernel
theorem me_f63_23 : (me_fs 63)[23]? = some 84 := by decide +kernel
theorem me_f63_24 : (me_fs 63)[24]? = some 0 := by decide +kernel
theorem me_f63_25 : (me_fs 63)[25]? = some 0 := by decide +kernel
theorem me_f63_26 : (me_fs 63)[26]? = some 0 := by decide +kernel
theorem me_f63_27 : (me_fs 63)[27]? = some 0 := by decide +kernel
theorem me_f63_28 : (me_fs 63)[28]? = some 85 := by decide +kernel
theorem me_f63_29 : (me_fs 63)[29]? = some 0 := by decide +kernel
theorem me_f63_30 : (me_fs 63)[30]? = some 86 := by decide +kernel
theorem me_f63_31 : (me_fs 63)[31]? = some 87 := by decide +kernel
theorem me_f63_32 : (me_fs 63)[32]? = some 88 := by decide +kernel
theorem me_f63_33 : (me_fs 63)[33]? = some 89 := by decide +kernel
theorem me_f63_34 : (me_fs 63)[34]? = some 160 := by decide +kernel
theorem me_f63_35 : (me_fs 63)[35]? = some 0 := by decide +kernel
theorem me_f63_36 : (me_fs 63)[36]? = some 0 := by decide +kernel
theorem me_f63_37 : (me_fs 63)[37]? = some 0 := by decide +kernel
theorem me_f63_38 : (me_fs 63)[38]? = some 0 := by decide +kernel
theorem me_f63_39 : (me_fs 63)[39]? = some 186 := by decide +kernel
theorem me_f63_40 : (me_fs 63)[40]? = some 90 := by decide +kernel
theorem me_f63_41 : (me_fs 63)[41]? = some 91 := by decide +kernel
theorem me_f63_42 : (me_fs 63)[42]? = some 92 := by decide +kernel
