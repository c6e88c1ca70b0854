/-! ===== constructors: rows over a world that is told as a list ===== -/
theorem g_P_iff {D : va_G} {cl : List vw_C} {ws : va_W} {H : Heap} : va_P D cl ws H ↔ ∀ x ∈ ws, va_at D cl x H := ⟨fun h x hx => by
  obtain ⟨k, hk⟩ := List.getElem?_of_mem hx
  exact h k x hk, fun h k q hk => h q (List.mem_of_getElem? hk)⟩
theorem g_D_iff {A : Nat → Prop} {ws : va_W} : va_D A ws ↔ (ws.map Prod.fst).Nodup ∧ ∀ x ∈ ws, A x.1 := by
  constructor
  · intro h
    refine ⟨?_, fun x hx => ?_⟩
    · unfold List.Nodup
      rw [List.pairwise_iff_getElem]
      intro i j hi hj hij e
      rw [List.length_map] at hi hj
      rw [List.getElem_map, List.getElem_map] at e
      have := h.1 i j _ _ (List.getElem?_eq_getElem hi) (List.getElem?_eq_getElem hj) e
      omega
    · obtain ⟨k, hk⟩ := List.getElem?_of_mem hx
      exact h.2 k x hk
  · rintro ⟨h1, h2⟩
    refine ⟨fun i j p q hi hj e => ?_, fun k q hk => h2 q (List.mem_of_getElem? hk)⟩
    unfold List.Nodup at h1
    rw [List.pairwise_iff_getElem] at h1
    obtain ⟨li, ei⟩ := List.getElem?_eq_some_iff.mp hi
    obtain ⟨lj, ej⟩ := List.getElem?_eq_some_iff.mp hj
    rcases Nat.lt_trichotomy i j with h | h | h
    · refine absurd ?_ (h1 i j (by rw [List.length_map]; exact li) (by rw [List.length_map]; exact lj) h)
      rw [List.getElem_map, List.getElem_map, ei, ej]
      exact e
    · exact h
    · refine absurd ?_ (h1 j i (by rw [List.length_map]; exact lj) (by rw [List.length_map]; exact li) h)
      rw [List.getElem_map, List.getElem_map, ei, ej]
      exact e.symm
/-- cells put between the first ones and the others -/
theorem g_D_mid {A : Nat → Prop} {pre new ws : va_W} (h : va_D A (pre ++ ws)) (hn : va_D A new) (ha : ∀ x ∈ new, ∀ y ∈ pre ++ ws, x.1 ≠ y.1) : va_D A (pre ++ (new ++ ws)) := by
  rw [g_D_iff] at h hn ⊢
  obtain ⟨h1, h2⟩ := h
  obtain ⟨n1, n2⟩ := hn
  rw [List.map_append, List.nodup_append] at h1
  obtain ⟨p1, w1, pw⟩ := h1
  refine ⟨?_, fun x hx => ?_⟩
  · rw [List.map_append, List.map_append, List.nodup_append, List.nodup_append]
    refine ⟨p1, ⟨n1, w1, ?_⟩, ?_⟩
    · intro a hxa b hxb
      obtain ⟨x, hx, rfl⟩ := List.mem_map.mp hxa
      obtain ⟨y, hy, rfl⟩ := List.mem_map.mp hxb
      exact ha x hx y (List.mem_append_right _ hy)
    · intro a hxa b hxb
      rcases List.mem_append.mp hxb with h | h
      · obtain ⟨x, hx, rfl⟩ := List.mem_map.mp hxa
        obtain ⟨y, hy, rfl⟩ := List.mem_map.mp h
        exact fun e => ha y hy x (List.mem_append_left _ hx) e.symm
      · exact pw a hxa b h
  · rcases List.mem_append.mp hx with h | h
    · exact h2 x (List.mem_append_left _ h)
    · rcases List.mem_append.mp h with h | h
      · exact n2 x h
      · exact h2 x (List.mem_append_right _ h)
theorem g_P_mid {D : va_G} {cl : List vw_C} {pre new ws : va_W} {H : Heap} (h : va_P D cl (pre ++ ws) H) (hn : va_P D cl new H) : va_P D cl (pre ++ (new ++ ws)) H := by
  rw [g_P_iff] at h hn ⊢
  intro x hx
  rcases List.mem_append.mp hx with z | z
  · exact h x (List.mem_append_left _ z)
  · rcases List.mem_append.mp z with z | z
    · exact hn x z
    · exact h x (List.mem_append_right _ z)
abbrev g_rm (h mc ms : Nat) : Room := { frames := h, cells := mc, slots := ms, locals := 40 * h }
/-- what stands over a constructor's walk -/
def g_X (p : Program) (R : Room) (s : State) (m : MethodId) (args : Array Value) (c : Code) (D : va_G) (cI : ClassId) (nL h mc ms : Nat) (A : Nat → Prop) (cc : ByteArray) (own : String) (tys : List (ClassId × FieldType)) : Prop :=
  p.tables.exec = Jvm.exec ∧ c.code = cc ∧ c.maxLocals = nL ∧ s.vm.findClass own = some m.cls ∧ (∀ w ∈ lw_good, w.before args s = true) ∧ va_K D vwCl tys s ∧ tys[0]? = some (cI, .int) ∧ (∀ q, s.heap.size ≤ q → A q) ∧ (∀ w ∈ lw_nest, va_Nw w s) ∧ h ≤ R.frames ∧ 40 * h ≤ R.locals ∧ mc ≤ R.cells ∧ ms ≤ R.slots
def g_W (p : Program) (l : Launch) (e : Env) (R : Room) (s : State) (m : MethodId) (args : Array Value) (below : List Frame) (meth : Method) (c : Code) (cells slots : Nat) (Q : State → Prop) (D : va_G) (nL : Nat) (A : Nat → Prop) (z pc : Nat) (L : List (Nat × Value)) (st : List Value) (ws : va_W) : Prop :=
  ∀ (H : Heap) (locs : List Loc) (ls : Array Slot), H.size = z → va_P D vwCl ws H → va_D A ws → va_S A s.heap H locs → lv_has ls nL L → W p l e R s m args below meth c H locs cells slots Q (F0 m pc ls st)
def g_B (D : va_G) (tys : List (ClassId × FieldType)) (sz : Nat) (ws0 : va_W) (U : State) : Prop := U.heap.size = sz ∧ va_P D vwCl ws0 U.heap ∧ va_K D vwCl tys U ∧ va_D (fun _ => True) ws0 ∧ ∀ w ∈ lw_nest, va_Nw w U
def g_Q (D : va_G) (z1 : Nat) (ws1 : va_W) (A : Nat → Prop) : Array Value → State → Outcome → State → Prop := fun _ st oc t => oc = .returned none ∧ t.heap.size = z1 ∧ va_P D vwCl ws1 t.heap ∧ va_D A ws1 ∧ va_F A st t
def g_Ct (l : Launch) (y : MethodName) (cc : ByteArray) (maxL h mc ms : Nat) (D : va_G) (cI : ClassId) (av : List Value) (ws0 : va_W) (ws1 : Nat → va_W) : Prop :=
  ∀ (tys : List (ClassId × FieldType)) (sz : Nat), tys[0]? = some (cI, .int) → Met l y (Cond.code y cc maxL none :: lw_good) (g_rm h mc ms) (va_Pc av (g_B D tys sz ws0)) (g_Q D (sz + mc) (ws1 sz) (va_A ws0 sz)) mc ms (va_A ws0 sz)
theorem g_B_blind {D : va_G} {tys : List (ClassId × FieldType)} {sz : Nat} {ws0 : va_W} {av : List Value} : FrameBlind (va_Pc av (g_B D tys sz ws0)) := by
  intro a U g mk q
  obtain ⟨q0, q1, qP, qK, qD, qN⟩ := q
  exact ⟨q0, q1, qP, va_K.moved (u := U) (U := U.calling g mk a) (Vm.Alike.refl U.vm) qK, qD, me_nw_same (u := U) (U := U.calling g mk a) rfl qN⟩
set_option maxHeartbeats 1000000 in
theorem g_enter {l : Launch} {y : MethodName} {cc : ByteArray} {maxL h mc ms : Nat} {D : va_G} {cI : ClassId} {av : List Value} {ws0 : va_W} {tys : List (ClassId × FieldType)} {sz : Nat} {Qc : (Nat → Prop) → Array Value → State → Outcome → State → Prop} (own : String) (hown : y.cls = own) (hpl : plainFor y = true) (hnm : y.name = "<init>") (hfit : (lg_sl av).length ≤ maxL) (ht : tys[0]? = some (cI, .int))
    (body : ∀ (p : Program) (e : Env) (R : Room) (s : State) (m : MethodId) (args : Array Value) (below : List Frame) (meth : Method) (c : Code) (A : Nat → Prop), g_X p R s m args c D cI maxL h mc ms A cc own tys → meth.name = "<init>" → meth.sig.returnType = none → meth.locks = false → s.heap.size = sz → g_W p l e R s m args below meth c 0 0 (MQ below (Qc A) args s mc ms A) D maxL A sz 0 (lv_args 0 av) [] ws0) : Met l y (Cond.code y cc maxL none :: lw_good) (g_rm h mc ms) (va_Pc av (g_B D tys sz ws0)) (Qc (va_A ws0 sz)) mc ms (va_A ws0 sz) := by
  refine me_ofW (cc := cc) (maxL := maxL) (ret := none) hpl rfl ?_
  intro p e s m args below meth c s₁ B hml hv
  obtain ⟨rfl, hsz, hP, hK, hD0, hN9⟩ := hv
  have hts := atoms_spec (ws := Cond.code y cc maxL none :: lw_good) B.pre
  have hown9 : s.vm.findClass y.cls = some m.cls := findClass_of_methodNamed B.named
  have hin : meth.name = y.name := (name_of_methodNamed B.named B.method).1
  have hD := hD0.self (sz := sz)
  generalize hAe : va_A ws0 sz = A at hD ⊢
  have hA : ∀ q : Nat, s.heap.size ≤ q → A q := fun q h => by rw [← hAe]; exact Or.inr (by rw [← hsz]; exact h)
  have hS : va_S A s.heap s.heap [] := va_S.rf
  have hl := lv_entry av (n := maxL) hfit
  rw [lg_entry_eq]
  generalize (lg_sl av ++ List.replicate (maxL - (lg_sl av).length) Slot.unset).toArray = ls at hl ⊢
  subst hown
  exact body p e _ s m _ below meth c A ⟨B.exec, B.bytes, hml, hown9, fun w hw => hts w (List.mem_cons_of_mem _ hw), hK, ht, hA, hN9, Nat.le_refl _, Nat.le_refl _, Nat.le_refl _, Nat.le_refl _⟩ (hin.trans hnm) B.returns B.notSynchronized hsz s.heap [] ls hsz hP hD hS hl
section GCT
variable {p : Program} {l : Launch} {e : Env} {R : Room} {s : State} {m : MethodId} {args : Array Value} {below : List Frame} {meth : Method} {c : Code} {cells slots : Nat} {Q : State → Prop}
variable {D : va_G} {cI : ClassId} {nL pc z h mc ms : Nat} {A : Nat → Prop} {cc : ByteArray} {own : String} {tys : List (ClassId × FieldType)} {L : List (Nat × Value)} {st : List Value} {ws : va_W}
theorem g_as (ws' : va_W) (hw : ws = ws') (k : g_W p l e R s m args below meth c cells slots Q D nL A z pc L st ws') : g_W p l e R s m args below meth c cells slots Q D nL A z pc L st ws := by
  rw [hw]
  exact k
theorem g_widen (k n : Nat) (h1 : cells ≤ k) (h2 : slots ≤ n) (kk : g_W p l e R s m args below meth c k n Q D nL A z pc L st ws) : g_W p l e R s m args below meth c cells slots Q D nL A z pc L st ws := fun H locs ls hz hP hD hS hl => W.widen h1 h2 (kk H locs ls hz hP hD hS hl)
theorem g_aload_n (X : g_X p R s m args c D cI nL h mc ms A cc own tys) {i : Fin 4} {x : Nat} (q : Nat) (hq : L[q]? = some ((i : Nat), .ref x)) (hd : decode cc pc = .ok (.aload_n i, 1)) (k : g_W p l e R s m args below meth c cells slots Q D nL A z (pc + 1) L (.ref x :: st) ws) : g_W p l e R s m args below meth c cells slots Q D nL A z pc L st ws := fun H locs ls hz hP hD hS h => lv_aload_n X.1 X.2.1 hd rfl (lv_at h q hq) (k H locs ls hz hP hD hS h)
theorem g_iload_n (X : g_X p R s m args c D cI nL h mc ms A cc own tys) {i : Fin 4} {x : Int32} (q : Nat) (hq : L[q]? = some ((i : Nat), .int x)) (hd : decode cc pc = .ok (.iload_n i, 1)) (k : g_W p l e R s m args below meth c cells slots Q D nL A z (pc + 1) L (.int x :: st) ws) : g_W p l e R s m args below meth c cells slots Q D nL A z pc L st ws := fun H locs ls hz hP hD hS h => lv_iload_n X.1 X.2.1 hd rfl (lv_at h q hq) (k H locs ls hz hP hD hS h)
theorem g_iconst (X : g_X p R s m args c D cI nL h mc ms A cc own tys) {i : Int} {v : Int32} (hd : decode cc pc = .ok (.iconst i, 1)) (hv : Int32.ofInt i = v) (k : g_W p l e R s m args below meth c cells slots Q D nL A z (pc + 1) L (.int v :: st) ws) : g_W p l e R s m args below meth c cells slots Q D nL A z pc L st ws := fun H locs ls hz hP hD hS h => lv_iconst X.1 X.2.1 hd hv (k H locs ls hz hP hD hS h)
theorem g_bipush (X : g_X p R s m args c D cI nL h mc ms A cc own tys) {i : Int} {v : Int32} (hd : decode cc pc = .ok (.bipush i, 2)) (hv : (Int8.ofInt i).toInt32 = v) (k : g_W p l e R s m args below meth c cells slots Q D nL A z (pc + 2) L (.int v :: st) ws) : g_W p l e R s m args below meth c cells slots Q D nL A z pc L st ws := fun H locs ls hz hP hD hS h => lv_bipush X.1 X.2.1 hd hv (k H locs ls hz hP hD hS h)
theorem g_sipush (X : g_X p R s m args c D cI nL h mc ms A cc own tys) {i : Int} {v : Int32} (hd : decode cc pc = .ok (.sipush i, 3)) (hv : (Int16.ofInt i).toInt32 = v) (k : g_W p l e R s m args below meth c cells slots Q D nL A z (pc + 3) L (.int v :: st) ws) : g_W p l e R s m args below meth c cells slots Q D nL A z pc L st ws := fun H locs ls hz hP hD hS h => lv_sipush X.1 X.2.1 hd hv (k H locs ls hz hP hD hS h)
theorem g_iadd (X : g_X p R s m args c D cI nL h mc ms A cc own tys) {x y v : Int32} (hv : x + y = v) (hd : decode cc pc = .ok (.iadd, 1)) (k : g_W p l e R s m args below meth c cells slots Q D nL A z (pc + 1) L (.int v :: st) ws) : g_W p l e R s m args below meth c cells slots Q D nL A z pc L (.int y :: .int x :: st) ws := by
  subst hv
  exact fun H locs ls hz hP hD hS h => lv_iadd X.1 X.2.1 hd (k H locs ls hz hP hD hS h)
theorem g_dup (X : g_X p R s m args c D cI nL h mc ms A cc own tys) {v : Value} (hv : v.category = 1) (hd : decode cc pc = .ok (.dup, 1)) (k : g_W p l e R s m args below meth c cells slots Q D nL A z (pc + 1) L (v :: v :: st) ws) : g_W p l e R s m args below meth c cells slots Q D nL A z pc L (v :: st) ws := fun H locs ls hz hP hD hS h => lv_dup X.1 X.2.1 hd hv (k H locs ls hz hP hD hS h)
theorem g_oinit (X : g_X p R s m args c D cI nL h mc ms A cc own tys) {idx a : Nat} (h1 : 1 ≤ h) (hlk : Cond.methodLink own idx objectInit ∈ lw_good) (hin : Cond.instanceMethod objectInit ∈ lw_good) (hco : Cond.code objectInit ⟨#[0xb1]⟩ 1 none ∈ lw_good) (hw : (st.map fun v => v.category).sum ≤ 8) (hd : decode cc pc = .ok (.invokespecial idx, 3)) (k : g_W p l e R s m args below meth c cells slots Q D nL A z (pc + 3) L st ws) : g_W p l e R s m args below meth c cells slots Q D nL A z pc L (.ref a :: st) ws := by
  intro H locs ls hz hP hD hS hl
  obtain ⟨hx, hb, hml, hown, hts, hK, ht, hA, hN, hfr, hlo, hcl, hsl⟩ := X
  refine W.objInit hx hb hown (hts _ hlk) (hts _ hin) (hts _ hco) rfl (by rw [hml]; exact hl.1) rfl hd (by omega) (by have := lv_room (m := m) (pc := pc) (ls := ls) (rest := st) hw; show 2 * (F0 m pc ls (.ref a :: st)).monitorRoom + _ + 12 ≤ R.locals; show 2 * 0 + _ + 12 ≤ R.locals; omega) ?_
  exact k H locs ls hz hP hD hS hl
/-- what the tables say of a field that is written in a constructor -/
def g_P (own : String) (index ci k : Nat) (ty : FieldType) : Prop := ∃ (C : String) (T : u_T) (N : Nat) (ty0 : Nat → FieldType), vwCl[ci]? = some (C, T, N) ∧ k < N ∧ (∀ w ∈ u_ws C T N, w ∈ lw_good) ∧ (∀ k, k < N → parseFieldDescriptor (T k).2.2.1 = some (ty0 k)) ∧ (∀ a, a < N → ∀ b, b < N → a ≠ b → (T a).2.1 ≠ (T b).2.1) ∧ (T k).1 = own ∧ parseFieldDescriptor (T k).2.2.1 = some ty ∧ Cond.fieldLink own index (T k).1 (T k).2.1 (T k).2.2.1 ∈ lw_good
set_option maxHeartbeats 2000000 in
theorem g_put (X : g_X p R s m args c D cI nL h mc ms A cc own tys) (hnam : meth.name = "<init>") {index ci k a : Nat} {ty : FieldType} {v : Value} {fs : List Value} (fs' : List Value) (hF : g_P own index ci k ty) (hn : narrow ty v = v) (hfit : fits ty v = true) (hl : k < fs.length) (hfs : fs.set k v = fs') (hd : decode cc pc = .ok (.putfield index, 3)) (kk : g_W p l e R s m args below meth c cells slots Q D nL A z (pc + 3) L st ((a, .inr (ci, fs')) :: ws)) : g_W p l e R s m args below meth c cells slots Q D nL A z pc L (v :: .ref a :: st) ((a, .inr (ci, fs)) :: ws) := by
  intro H locs ls hz hP hD hS0 hlv
  subst hfs
  obtain ⟨C, T, N, ty0, hc, hk, hin, hty, hnm, hdecl, hpd, hq⟩ := hF
  obtain ⟨hx, hb, hml, hown, hts, hK, ht, hA, hN, hfr, hlo, hcl, hsl9⟩ := X
  have hap := va_apart (own := own) hts hin ty0 hty hnm hK hc
  obtain ⟨r, h1, cell, q1, q2, q3, q4⟩ := hP 0 _ rfl
  have hr : r = (C, T, N) := Option.some.inj (h1.symm.trans hc)
  subst hr
  obtain ⟨hS, hfc, kC, hkC, hkind⟩ := hK.1 ci _ hc
  obtain ⟨cf, kf, fi, f, hi, hsl⟩ := hS k hk
  have hst := (u_facts hfc hkC (u_lays hts hin hk) hi).1
  have hend : ∀ (H' : Heap), H'[a]? = some (cell.setSlot ((D.2 ci) k) v) → H'.size = H.size → (∀ q : Nat, q ≠ a → H'[q]? = H[q]?) → ∀ locs1, va_S A s.heap H' locs1 → W p l e R s m args below meth c H' locs1 cells slots Q (F0 m (pc + 3) ls st) := fun H' e1 e2 e3 locs1 hS1 =>
    kk H' locs1 ls (e2.trans hz) (hP.set hD (p := 0) rfl ⟨_, hc, t_OB.to (V := updV (vp_V fs) k v) ⟨_, e1, q2, q3, t_set q4 hap hk v⟩ (fun j _ => vp_updV_set hl v j)⟩ e3) (hD.set (p := 0) rfl) hS1 hlv
  have hlay := hts _ (hin _ (u_in_lay hk))
  unfold u_lay at hlay
  cases hfin : (T k).2.2.2 with
  | false =>
    rw [if_neg (by rw [hfin]; decide)] at hlay
    have h6 := u_store hfc hkC hkind hlay hi hpd hn hfit
    refine W.putK hx hb (f := f) ⟨hown, hts _ hq, ⟨_, _, _, hi⟩, hst⟩ (by rw [q2]; exact h6) q1 q3 (by rw [hsl]; exact k2_hasslot (q4 k hk)) rfl rfl hd fun H' e1 e2 e3 => ?_
    rw [hsl] at e1 ⊢
    exact hend H' e1 e2 e3 _ (hS0.put e2 e3 (hD.2 0 _ rfl))
  | true =>
    rw [if_pos hfin] at hlay
    have hcf : m.cls = cf := by
      obtain ⟨_, _, c', _, _, _, -, -, hf', -, -, -, hown2, -⟩ := Cond.laysFinal_spec hlay
      have e1 : c' = cf := by have := hi.symm.trans hf'; simp at this; exact this.1.symm
      rw [hdecl] at hown2
      rw [← e1]; exact Option.some.inj (hown.symm.trans hown2)
    have h6 := u_fits hfc hkC hkind (Or.inr hlay) hi hpd hn hfit
    refine W.putFinK hx hb hown (hts _ hq) hi hst hcf hnam (by rw [q2]; exact h6) q1 q3 (by rw [hsl]; exact k2_hasslot (q4 k hk)) rfl rfl hd fun H' e1 e2 e3 => ?_
    rw [hsl] at e1 ⊢
    exact hend H' e1 e2 e3 _ (hS0.put e2 e3 (hD.2 0 _ rfl))
theorem g_get (X : g_X p R s m args c D cI nL h mc ms A cc own tys) {index ci k a : Nat} (q0 : Nat) {fs : List Value} {v : Value} (hF : me_F own index ci k) (he : ws[q0]? = some (a, .inr (ci, fs))) (hv : fs[k]? = some v) (hd : decode cc pc = .ok (.getfield index, 3)) (kk : g_W p l e R s m args below meth c cells slots Q D nL A z (pc + 3) L (v :: st) ws) : g_W p l e R s m args below meth c cells slots Q D nL A z pc L (.ref a :: st) ws := by
  intro H locs ls hz hP hD hS hlv
  obtain ⟨C, T, N, hc, hkN, hin, hlk⟩ := hF
  rcases hlk with hq | ⟨host, hq⟩
  · exact va_get X.1 X.2.1 X.2.2.2.2.1 hin X.2.2.2.1 X.2.2.2.2.2.1 hP q0 he hc k hkN (X.2.2.2.2.1 _ hq) (fun _ h9 => h9) hv hd (kk H locs ls hz hP hD hS hlv)
  · exact va_getN X.1 X.2.1 X.2.2.2.2.1 hin X.2.2.2.1 X.2.2.2.2.2.1 hP q0 he hc k hkN (va_Nw.use rfl (X.2.2.2.2.2.2.2.2.1 _ hq)) (fun _ h9 => h9) hv hd (kk H locs ls hz hP hD hS hlv)
theorem g_iast (X : g_X p R s m args c D cI nL h mc ms A cc own tys) {a N : Nat} {f : Nat → Int32} (q0 : Nat) (ws' : va_W) {i x : Int32} (he : ws[q0]? = some (a, .inl (cI, N, .inl f))) (hin : vp_in i N) (hw : ws.set q0 (a, .inl (cI, N, .inl (upd f i.toNatClampNeg x))) = ws') (hd : decode cc pc = .ok (.iastore, 1)) (kk : g_W p l e R s m args below meth c cells slots Q D nL A z (pc + 1) L st ws') : g_W p l e R s m args below meth c cells slots Q D nL A z pc L (.int x :: .int i :: .ref a :: st) ws := by
  intro H locs ls hz hP hD hS hlv
  subst hw
  have ht := X.2.2.2.2.2.2.1
  have hK := X.2.2.2.2.2.1
  refine W.iast X.1 X.2.1 (hP q0 _ he) ((hK.2 0 _ ht).1 N (fun j => .int (f j))) (fun q => by cases q) (by show ¬ (i < 0 ∨ (arrV _ _ _).slots.size ≤ _); rw [arrV_size]; exact hin) rfl rfl hd fun H1 e z oq => ?_
  refine kk H1 _ ls (z.trans hz) (hP.set hD he ?_ oq) (hD.set he) (hS.put z oq (hD.2 q0 _ he)) hlv
  show H1[a]? = some (vp_cell _ _)
  rw [e]
  show some ((arrV cI N (fun j => .int (f j))).setSlot i.toNatClampNeg (.int x)) = some (arrV cI N (fun j => .int (upd f i.toNatClampNeg x j)))
  rw [arrV_store]
  refine congrArg some (congrArg (arrV cI N) (funext fun j => ?_))
  unfold updV upd
  by_cases h9 : j = i.toNatClampNeg
  · rw [if_pos h9, if_pos h9]
  · rw [if_neg h9, if_neg h9]
/-- cells made at the heap's end -/
theorem g_grow {pre new : va_W} {H H1 : Heap} {locs : List Loc} (hP : va_P D vwCl (pre ++ ws) H) (hD : va_D A (pre ++ ws)) (hS : va_S A s.heap H locs) (hA : ∀ q, s.heap.size ≤ q → A q) (ho : ∀ q, q < H.size → H1[q]? = H[q]?) (hs : H.size ≤ H1.size) (hn : va_P D vwCl new H1) (h1 : (new.map Prod.fst).Nodup) (h2 : ∀ x ∈ new, H.size ≤ x.1) : va_P D vwCl (pre ++ (new ++ ws)) H1 ∧ va_D A (pre ++ (new ++ ws)) ∧ va_S A s.heap H1 locs := by
  refine ⟨g_P_mid (hP.kept (fun k x hx => ho x.1 ((hP k x hx).lt))) hn, g_D_mid hD (g_D_iff.mpr ⟨h1, fun x hx => hA _ (Nat.le_trans hS.1 (h2 x hx))⟩) (fun x hx y hy e => ?_), ⟨Nat.le_trans hS.1 hs, fun x a b => (ho x (Nat.lt_of_lt_of_le a hS.1)).trans (hS.2.1 x a b), hS.2.2⟩⟩
  have h3 := (g_P_iff.mp hP y hy).lt
  have h4 := h2 x hx
  omega
theorem g_newa (X : g_X p R s m args c D cI nL h mc ms A cc own tys) (pre : va_W) (z1 : Nat) (hz1 : z + 1 = z1) {n : Int32} {N : Nat} (harr : Cond.arrayClass .int ∈ lw_good) (hn : ¬ n < 0) (hN : n.toNatClampNeg = N) (hb : N * 4 ≤ 536870912) (hc : cells + 1 ≤ mc) (hs : slots + N ≤ ms) (hd : decode cc pc = .ok (.newarray .int, 2)) (kk : g_W p l e R s m args below meth c (cells + 1) (slots + N) Q D nL A z1 (pc + 2) L (.ref z :: st) (pre ++ ((z, .inl (cI, N, .inl (fun _ => 0))) :: ws))) : g_W p l e R s m args below meth c cells slots Q D nL A z pc L (.int n :: st) (pre ++ ws) := by
  intro H locs ls hz hP hD hS hlv
  obtain ⟨hx, hb9, hml, hown, hts, hK, ht, hA, hN9, hfr, hlo, hcl, hsl⟩ := X
  refine va_newaK hx hb9 (atype := .int) (hts _ harr) rfl hd rfl hn hN hb (Nat.le_trans hc hcl) (Nat.le_trans hs hsl) hz fun H1 cA e1 zz o1 hAr hNm => ?_
  have hcA : cA = cI := Option.some.inj (hNm.symm.trans (hK.2 0 _ ht).2)
  subst hcA
  obtain ⟨a1, a2, a3⟩ := g_grow (new := [(z, .inl (cA, N, .inl (fun _ => 0)))]) hP hD hS hA (by rw [hz]; exact o1) (by omega) (g_P_iff.mpr fun x hx9 => by
    rw [List.mem_singleton] at hx9
    subst hx9
    exact e1) (by simp) (fun x hx9 => by
    rw [List.mem_singleton] at hx9
    subst hx9
    show H.size ≤ z
    omega)
  exact kk H1 locs ls (zz.trans hz1) a1 a2 a3 hlv
/-- what the tables say of a class that is made here -/
def g_N (own : String) (index ci N : Nat) (fs : List Value) : Prop := ∃ (C : String) (T : u_T) (ty : Nat → FieldType), vwCl[ci]? = some (C, T, N) ∧ (∀ w ∈ u_ws C T N, w ∈ lw_good) ∧ (∀ k, k < N → parseFieldDescriptor (T k).2.2.1 = some (ty k)) ∧ Cond.classLink own index C ∈ lw_good ∧ Cond.instantiable C N ∈ lw_good ∧ Cond.initialized C ∈ lw_good ∧ ∀ j, j < N → defaultValue (ty j) = vp_V fs j
theorem g_new (X : g_X p R s m args c D cI nL h mc ms A cc own tys) (pre : va_W) (z1 : Nat) (hz1 : z + 1 = z1) {index ci N : Nat} {fs : List Value} (hF : g_N own index ci N fs) (hc : cells + 1 ≤ mc) (hs : slots + N ≤ ms) (hd : decode cc pc = .ok (.new index, 3)) (kk : g_W p l e R s m args below meth c (cells + 1) (slots + N) Q D nL A z1 (pc + 3) L (.ref z :: st) (pre ++ ((z, .inr (ci, fs)) :: ws))) : g_W p l e R s m args below meth c cells slots Q D nL A z pc L st (pre ++ ws) := by
  intro H locs ls hz hP hD hS hlv
  obtain ⟨hx, hb9, hml, hown, hts, hK, ht, hA, hN9, hfr, hlo, hcl, hsl⟩ := X
  obtain ⟨C, T, ty, hvc, hin, hty, h1, h2, h3, hfs⟩ := hF
  have hKn := hK.1 ci _ hvc
  refine W.newcK hx hb9 hown (hts _ h1) (hts _ h2) (hts _ h3) rfl hd (Nat.le_trans hc hcl) (Nat.le_trans hs hsl) hKn.2.1 hz fun H1 kC hkC e1 zz o1 => ?_
  obtain ⟨a1, a2, a3⟩ := g_grow (new := [(z, .inr (ci, fs))]) hP hD hS hA (by rw [hz]; exact o1) (by omega) (g_P_iff.mpr fun x hx9 => by
    rw [List.mem_singleton] at hx9
    subst hx9
    exact ⟨_, hvc, (u_born ty hts hin hKn hkC e1 hty).to hfs⟩) (by simp) (fun x hx9 => by
    rw [List.mem_singleton] at hx9
    subst hx9
    show H.size ≤ z
    omega)
  exact kk H1 locs ls (zz.trans hz1) a1 a2 a3 hlv
theorem g_vret (X : g_X p R s m args c D cI nL h mc ms A cc own tys) (hc : cells ≤ mc) (hs : slots ≤ ms) (hr : meth.sig.returnType = none) (hlk : meth.locks = false) (hd : decode cc pc = .ok (.return_, 1)) : g_W p l e R s m args below meth c cells slots (MQ below (g_Q D z ws A) args s mc ms A) D nL A z pc L [] ws := fun H locs ls hz hP hD hS _ => W.widen hc hs (W.vret X.1 X.2.1 hr (fun t ht _ => ⟨rfl, by rw [ht]; exact hz, by rw [ht]; exact hP, hD, hS.F ht⟩) hS.2.2 hd hlk)
/-- what the tables say of a constructor that is called here -/
def g_V (own : String) (index : Nat) (y : MethodName) (bytes : ByteArray) (maxL na : Nat) : Prop := (Cond.methodLink own index y ∈ lw_good ∨ ∃ host, Cond.methodLinkNest own index y host ∈ lw_nest) ∧ Cond.instanceMethod y ∈ lw_good ∧ Cond.initialized y.cls ∈ lw_good ∧ Cond.code y bytes maxL none ∈ lw_good ∧ y.cls ≠ "java/lang/invoke/MethodHandle" ∧ y.cls ≠ "java/lang/invoke/VarHandle" ∧ (parseMethodDescriptor y.desc).map (fun d => d.parameters.length) = some na ∧ maxL ≤ 21 ∧ y.name = "<init>"
set_option maxHeartbeats 2000000 in
theorem g_run (X : g_X p R s m args c D cI nL h mc ms A cc own tys) {y : MethodName} {bytes : ByteArray} {maxL index a h' mc' ms' : Nat} {ws0 : va_W} {Qc : Array Value → State → Outcome → State → Prop} (As : List Value) {stk : List Value} {H : Heap} {locs : List Loc} {ls : Array Slot}
    (hM : Met l y (Cond.code y bytes maxL none :: lw_good) (g_rm h' mc' ms') (va_Pc (.ref a :: As) (g_B D tys z ws0)) Qc mc' ms' (va_A ws0 z)) (hV : g_V own index y bytes maxL As.length) (hstk : stk = As.reverse ++ .ref a :: st) (hh : h' + 1 ≤ h) (hc : cells + mc' ≤ mc) (hs : slots + ms' ≤ ms) (hw : (st.map fun v => v.category).sum ≤ 8) (hd : decode cc pc = .ok (.invokespecial index, 3)) (hz : H.size = z) (hP0 : va_P D vwCl ws0 H) (hD0 : va_D A ws0) (hlv : lv_has ls nL L) : va_Run p l e R s m args below meth c H locs cells slots mc' ms' (F0 m pc ls stk) st (Qc (Value.ref a :: As).toArray) (va_A ws0 z) := by
  obtain ⟨hx, hb9, hml, hown, hts, hK, ht, hA, hnw, hfr, hlo, hcl, hsl⟩ := X
  obtain ⟨hlk, hin, hini, hcode, hy1, hy2, hna, hm21, hyn⟩ := hV
  subst hstk
  have hp : PreS s H (va_Pc (.ref a :: As) (g_B D tys z ws0)) (.ref a :: As) := ⟨g_B_blind, fun U hU hW => ⟨rfl, by rw [hU]; exact hz, by rw [hU]; exact hP0, va_K.moved hW.alike hK, hD0.weaken (fun _ _ _ _ => trivial), me_nw_warm hW hnw⟩⟩
  have hR : (g_rm h' mc' ms').frames + 1 ≤ R.frames ∧ 8 + (maxL + 11) + (g_rm h' mc' ms').locals ≤ R.locals := ⟨Nat.le_trans hh hfr, by show 8 + (maxL + 11) + 40 * h' ≤ R.locals; omega⟩
  have hG := me_good_in hcode
  rcases hlk with hq | ⟨host, hq⟩
  · exact va_runI ⟨hx, hb9, hml, hown, hts⟩ hM ⟨callB_of As.length hts hG rfl rfl rfl (hts _ hini) (hts _ hq) ⟨hy1, hy2, hna⟩ hR, hyn, hts _ hin⟩ hp rfl rfl hlv.1 rfl (lv_room hw) hd ⟨Nat.le_trans hc hcl, Nat.le_trans hs hsl⟩
  · exact va_runIN ⟨hx, hb9, hml, hown, hts⟩ hM ⟨va_cnB As.length hts hG rfl rfl rfl (hnw _ hq) (hts _ hini) ⟨hy1, hy2, hna⟩ hR, hyn, hts _ hin⟩ hp rfl rfl hlv.1 rfl (lv_room hw) hd ⟨Nat.le_trans hc hcl, Nat.le_trans hs hsl⟩
set_option maxHeartbeats 2000000 in
theorem g_call (X : g_X p R s m args c D cI nL h mc ms A cc own tys) (pre : va_W) (z1 : Nat) {y : MethodName} {bytes : ByteArray} {maxL index a h' mc' ms' : Nat} {e0 : va_E} {ws1 : Nat → va_W} (As : List Value) {stk : List Value}
    (hC : g_Ct l y bytes maxL h' mc' ms' D cI (.ref a :: As) [(a, e0)] ws1) (hz9 : z + mc' = z1) (hV : g_V own index y bytes maxL As.length) (hstk : stk = As.reverse ++ .ref a :: st) (hh : h' + 1 ≤ h) (hc : cells + mc' ≤ mc) (hs : slots + ms' ≤ ms) (hw : (st.map fun v => v.category).sum ≤ 8) (hd : decode cc pc = .ok (.invokespecial index, 3))
    (kk : g_W p l e R s m args below meth c (cells + mc') (slots + ms') Q D nL A z1 (pc + 3) L st (pre ++ (ws1 z ++ ws))) : g_W p l e R s m args below meth c cells slots Q D nL A z pc L stk (pre ++ ((a, e0) :: ws)) := by
  intro H locs ls hz hP hD hS hlv
  have hA := X.2.2.2.2.2.2.2.1
  have hP0 : va_P D vwCl [(a, e0)] H := g_P_iff.mpr fun x hx => g_P_iff.mp hP x (by
    rw [List.mem_singleton] at hx
    subst hx
    exact List.mem_append_right _ List.mem_cons_self)
  obtain ⟨hDn, hDA⟩ := g_D_iff.mp hD
  have haA : A a := hDA (a, e0) (List.mem_append_right _ List.mem_cons_self)
  have hD0 : va_D A [(a, e0)] := g_D_iff.mpr ⟨by simp, fun x hx => by
    rw [List.mem_singleton] at hx
    subst hx
    exact haA⟩
  have hr := g_run (ws0 := [(a, e0)]) (meth := meth) (locs := locs) (cells := cells) (slots := slots) (below := below) (e := e) X As (hC tys z X.2.2.2.2.2.2.1) hV hstk hh hc hs hw hd hz hP0 hD0 hlv
  intro T hT XS
  obtain ⟨v, st₀, t, T', L9, h0, X', hL, e1, e2, ⟨hv, hz1, hP1, hD1, hzF, hkF⟩, hgo⟩ := hr T hT XS
  cases hv
  rw [h0] at hzF hkF
  have hsub : ∀ q, va_A [(a, e0)] z q → A q := by
    rintro q (⟨k9, e9, h9⟩ | h9)
    · have := List.mem_of_getElem? h9
      rw [List.mem_singleton] at this
      cases this
      exact haA
    · exact hA q (Nat.le_trans hS.1 (by omega))
  have hin : ∀ y ∈ pre ++ ws, y ∈ pre ++ ((a, e0) :: ws) := fun y hy => by
    rcases List.mem_append.mp hy with h | h
    · exact List.mem_append_left _ h
    · exact List.mem_append_right _ (List.mem_cons_of_mem _ h)
  have hne : ∀ y ∈ pre ++ ws, y.1 ≠ a := fun y hy e9 => by
    rw [List.map_append, List.nodup_append, List.map_cons, List.nodup_cons] at hDn
    rcases List.mem_append.mp hy with h | h
    · exact hDn.2.2 y.1 (List.mem_map.mpr ⟨y, h, rfl⟩) a List.mem_cons_self e9
    · exact hDn.2.1.1 (List.mem_map.mpr ⟨y, h, e9⟩)
  have hold : ∀ q, q < H.size → q ≠ a → t.heap[q]? = H[q]? := fun q h1 h2 => hkF q h1 (by
    rintro (⟨k9, e9, h9⟩ | h9)
    · have := List.mem_of_getElem? h9
      rw [List.mem_singleton] at this
      cases this
      exact h2 rfl
    · omega)
  have hPr : va_P D vwCl (pre ++ ws) t.heap := g_P_iff.mpr fun y hy => (g_P_iff.mp hP y (hin y hy)).kept (hold y.1 (g_P_iff.mp hP y (hin y hy)).lt (hne y hy))
  have hDr : va_D A (pre ++ ws) := g_D_iff.mpr ⟨by
    rw [List.map_append, List.nodup_append, List.map_cons, List.nodup_cons] at hDn
    rw [List.map_append, List.nodup_append]
    exact ⟨hDn.1, hDn.2.1.2, fun x hx y hy => hDn.2.2 x hx y (List.mem_cons_of_mem _ hy)⟩, fun y hy => hDA y (hin y hy)⟩
  obtain ⟨hDn1, hDA1⟩ := g_D_iff.mp hD1
  have hS1 : va_S A s.heap T'.heap (locs ++ L9) := ⟨by rw [e1]; exact Nat.le_trans hS.1 hzF, fun q h1 h2 => by rw [e1, hkF q (Nat.lt_of_lt_of_le h1 hS.1) (fun z => h2 (hsub q z))]; exact hS.2.1 q h1 h2, fun q hq => by
      rcases List.mem_append.mp hq with h | h
      · exact hS.2.2 q h
      · exact hsub _ (hL q h)⟩
  obtain ⟨t2, b1, b2⟩ := kk T'.heap (locs ++ L9) ls (by rw [e1]; exact hz1.trans hz9) (by rw [e1]; exact g_P_mid hPr hP1) (g_D_mid hDr (g_D_iff.mpr ⟨hDn1, fun x hx => hsub _ (hDA1 x hx)⟩) (fun x hx y hy e9 => by
    rcases hDA1 x hx with ⟨k9, e8, h9⟩ | h9
    · have := List.mem_of_getElem? h9
      rw [List.mem_singleton] at this
      exact hne y hy (e9.symm.trans (Prod.mk.inj this).1)
    · have := (g_P_iff.mp hP y (hin y hy)).lt
      omega)) hS1 hlv T' rfl X'
  exact ⟨t2, hgo t2 b1, b2⟩
end GCT
section GBR
variable {p : Program} {l : Launch} {e : Env} {R : Room} {s : State} {m : MethodId} {args : Array Value} {below : List Frame} {meth : Method} {c : Code} {cells slots : Nat} {Q : State → Prop}
variable {D : va_G} {cA : Nat → ClassId} {ad : Nat → Nat} {n nt N0 nL pc z h mc ms : Nat} {A : Nat → Prop} {cc : ByteArray} {own : String} {tys : List (ClassId × FieldType)} {L : List (Nat × Value)} {st : List Value} {ws : va_W} {M : me_M}
theorem g_toX (X : g_X p R s m args c D (cA 0) nL h mc ms A cc own tys) (hc : cells ≤ mc) (hs : slots ≤ ms) (htys : ∀ k, k < nt → tys[k]? = (me_tys cA)[k]?) (hD : ∀ M, va_D A (me_w n ad cA M)) (hN : N0 ≤ n) (hnt : 1 ≤ nt) : me_X p R s m args c D cA ad n nt N0 nL cells slots h A cc own tys := by
  obtain ⟨hx, hb, hml, hown, hts, hK, ht, hA, hN9, hfr, hlo, hcl, hsl⟩ := X
  exact ⟨hx, hb, hml, hown, hts, hK, htys, hD, hA, hN, hnt, Nat.le_trans hc hcl, Nat.le_trans hs hsl, hN9, hfr, hlo⟩
theorem g_vretM (X : me_X p R s m args c D cA ad n nt N0 nL cells slots h A cc own tys) (hc : cells ≤ mc) (hs : slots ≤ ms) (hr : meth.sig.returnType = none) (hlk : meth.locks = false) (hd : decode cc pc = .ok (.return_, 1)) : me_W p l e R s m args below meth c cells slots (MQ below (me_Qc D cA ad n A none M) args s mc ms A) D cA ad n nL A pc L [] M := fun H locs ls hP hS _ => W.widen hc hs (W.vret X.1 X.2.1 hr (fun t ht _ => ⟨rfl, by rw [ht]; exact hP, hS.F ht⟩) hS.2.2 hd hlk)
theorem g_bridge (pos : Nat → Nat) (hpos : ∀ i, i < n → ws[pos i]? = some (ad i, me_c ad cA M i)) (hinj : ∀ i, i < n → ∀ j, j < n → pos i = pos j → i = j) (kk : (∀ M, va_D A (me_w n ad cA M)) → me_W p l e R s m args below meth c cells slots Q D cA ad n nL A pc L st M) : g_W p l e R s m args below meth c cells slots Q D nL A z pc L st ws := by
  intro H locs ls hz hP hD hS hl
  have hin : ∀ (k : Nat) (q : Nat × va_E), (me_w n ad cA M)[k]? = some q → k < n ∧ ws[pos k]? = some q := fun k q hq => by
    by_cases hk : k < n
    · rw [me_w_get hk] at hq
      exact ⟨hk, by rw [hpos k hk]; exact hq⟩
    · rw [me_w_none hk] at hq
      cases hq
  have hD' : va_D A (me_w n ad cA M) := ⟨fun i j x y hi hj e => by
    obtain ⟨li, wi⟩ := hin i x hi
    obtain ⟨lj, wj⟩ := hin j y hj
    exact hinj i li j lj (hD.1 _ _ x y wi wj e), fun k q hq => hD.2 _ q (hin k q hq).2⟩
  exact kk (fun M => me_w_D hD') H locs ls (fun k q hq => hP _ q (hin k q hq).2) hS hl
end GBR
