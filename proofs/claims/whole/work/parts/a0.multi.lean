/-! ===== rows of rows, made at once ===== -/
def gm_o (c : ClassId) (N z h0 i : Nat) : Cell := arrV c N (fun j => va_rf (if j < i then some (h0 + 1 + j * z) else none))
def gm_it (f : State → State) (z : Nat) (c : ClassId) (N : Nat) (s : State) : Nat → State
  | 0 => s.pushCell (gm_o c N z s.heap.size 0)
  | i + 1 => (f (gm_it f z c N s i)).setCell s.heap.size (gm_o c N z s.heap.size (i + 1))
def gm_1 (c : ClassId) (K : Nat) (s : State) : State := s.pushCell (arrV c K (fun _ => .int 0))
def gm_n (f : State → State) (z : Nat) (c : ClassId) (N : Nat) (s : State) : State := gm_it f z c N s N
def gm_C (C : Nat → Nat → Cell) (z : Nat) (c : ClassId) (N : Nat) (b t : Nat) : Cell := if t = 0 then gm_o c N z b N else C (b + 1 + (t - 1) / z * z) ((t - 1) % z)
def gm_ok (f : State → State) (z sl : Nat) (C : Nat → Nat → Cell) : Prop := ∀ s : State, (f s).heap.size = s.heap.size + z ∧ (f s).vm = s.vm ∧ (f s).slotsUsed = s.slotsUsed + sl ∧ (∀ a, a < s.heap.size → (f s).heap[a]? = s.heap[a]?) ∧ (∀ g : JFrame, f (s.setTop g) = (f s).setTop g) ∧ ∀ t, t < z → (f s).heap[s.heap.size + t]? = some (C s.heap.size t)
theorem gm_o_size (c : ClassId) (N z h0 i : Nat) : (gm_o c N z h0 i).slots.size = N := arrV_size _ _ _
theorem gm_o_next (c : ClassId) (N z h0 i : Nat) : (gm_o c N z h0 i).setSlot i (.ref (h0 + 1 + i * z)) = gm_o c N z h0 (i + 1) := by
  unfold gm_o
  rw [arrV_store]
  refine congrArg (arrV c N) (funext fun j => ?_)
  by_cases e : j = i
  · subst e
    simp [updV, va_rf]
  · by_cases h : j < i
    · simp [updV, e, h, Nat.lt_succ_of_lt h]
    · simp [updV, e, h, show ¬ j < i + 1 by omega]
theorem gm_ok_1 (c : ClassId) (K : Nat) : gm_ok (gm_1 c K) 1 K (fun _ _ => arrV c K (fun _ => .int 0)) := by
  intro s
  refine ⟨by simp [gm_1], rfl, by simp [gm_1, arrV_size], fun a ha => State.heap_pushCell_of_lt _ _ ha, fun g => by simp only [gm_1, State.pushCell_setTop], fun t ht => ?_⟩
  rw [show t = 0 by omega]
  exact State.heap_pushCell_size _ _
theorem gm_it_ok {f : State → State} {z sl : Nat} {C : Nat → Nat → Cell} (hf : gm_ok f z sl C) (c : ClassId) (N : Nat) (s : State) : ∀ i : Nat, (gm_it f z c N s i).heap.size = s.heap.size + 1 + i * z ∧ (gm_it f z c N s i).vm = s.vm ∧ (gm_it f z c N s i).slotsUsed = s.slotsUsed + N + i * sl ∧ (gm_it f z c N s i).heap[s.heap.size]? = some (gm_o c N z s.heap.size i) ∧ (∀ a, a < s.heap.size → (gm_it f z c N s i).heap[a]? = s.heap[a]?) ∧ ∀ j t, j < i → t < z → (gm_it f z c N s i).heap[s.heap.size + 1 + j * z + t]? = some (C (s.heap.size + 1 + j * z) t)
  | 0 => ⟨by simp [gm_it], rfl, by simp [gm_it, gm_o_size], by simp [gm_it], fun a ha => State.heap_pushCell_of_lt _ _ ha, fun j t h => absurd h (Nat.not_lt_zero _)⟩
  | i + 1 => by
    obtain ⟨a1, a2, a3, a4, a5, a6⟩ := gm_it_ok hf c N s i
    obtain ⟨b1, b2, b3, b4, b5, b6⟩ := hf (gm_it f z c N s i)
    have hmul : (i + 1) * z = i * z + z := Nat.succ_mul i z
    have hmul2 : (i + 1) * sl = i * sl + sl := Nat.succ_mul i sl
    have h0 : (f (gm_it f z c N s i)).heap[s.heap.size]? = some (gm_o c N z s.heap.size i) := by rw [b4 _ (by omega)]; exact a4
    refine ⟨?_, ?_, ?_, State.heap_setCell_self h0, fun a ha => ?_, fun j t hj ht => ?_⟩
    · simp only [gm_it, State.setCell, Array.size_setIfInBounds]
      rw [b1, a1]; omega
    · show (f (gm_it f z c N s i)).vm = s.vm
      rw [b2, a2]
    · show (f (gm_it f z c N s i)).slotsUsed = _
      rw [b3, a3]; omega
    · show ((f (gm_it f z c N s i)).setCell s.heap.size _).heap[a]? = _
      rw [State.heap_setCell_other (Nat.ne_of_gt ha), b4 _ (by omega)]
      exact a5 a ha
    · show ((f (gm_it f z c N s i)).setCell s.heap.size _).heap[s.heap.size + 1 + j * z + t]? = _
      rw [State.heap_setCell_other (show s.heap.size ≠ s.heap.size + 1 + j * z + t by omega)]
      rcases Nat.lt_or_ge j i with h | h
      · have hm : (j + 1) * z ≤ i * z := Nat.mul_le_mul_right z h
        rw [Nat.succ_mul] at hm
        rw [b4 _ (by omega)]
        exact a6 j t h ht
      · have e : j = i := by omega
        subst e
        rw [← a1]
        exact b6 t ht
theorem gm_it_top {f : State → State} {z sl : Nat} {C : Nat → Nat → Cell} (hf : gm_ok f z sl C) (c : ClassId) (N : Nat) (s : State) (g : JFrame) : ∀ i : Nat, gm_it f z c N (s.setTop g) i = (gm_it f z c N s i).setTop g
  | 0 => by simp only [gm_it, State.heap_setTop, State.pushCell_setTop]
  | i + 1 => by simp only [gm_it, gm_it_top hf c N s g i, (hf _).2.2.2.2.1 g, State.heap_setTop, State.setCell_setTop]
theorem gm_ok_n {f : State → State} {z sl : Nat} {C : Nat → Nat → Cell} (hz : 0 < z) (hf : gm_ok f z sl C) (c : ClassId) (N : Nat) : gm_ok (gm_n f z c N) (1 + N * z) (N + N * sl) (gm_C C z c N) := by
  intro s
  obtain ⟨a1, a2, a3, a4, a5, a6⟩ := gm_it_ok hf c N s N
  refine ⟨by unfold gm_n; rw [a1]; omega, a2, by unfold gm_n; rw [a3]; omega, a5, fun g => gm_it_top hf c N s g N, fun t ht => ?_⟩
  unfold gm_C
  by_cases h0 : t = 0
  · rw [if_pos h0, h0]; exact a4
  · rw [if_neg h0]
    have hd : (t - 1) / z < N := by
      rw [Nat.div_lt_iff_lt_mul hz]; omega
    have hm := Nat.div_add_mod (t - 1) z
    rw [Nat.mul_comm] at hm
    have := a6 ((t - 1) / z) ((t - 1) % z) hd (Nat.mod_lt _ hz)
    rw [show s.heap.size + t = s.heap.size + 1 + (t - 1) / z * z + (t - 1) % z by omega]
    exact this
section GMS
variable {p : Program} {l : Launch} {e : Env} {R : Room} {s : State} {m : MethodId} {args : Array Value} {below : List Frame} {meth : Method} {c : Code}
theorem gm_st_1 {T : State} {locs : List Loc} {cells slots : Nat} (X : Stand p l e R s m args below meth c T locs cells slots) (cA : ClassId) (K : Nat) : Stand p l e R s m args below meth c (gm_1 cA K T) locs (cells + 1) (slots + K) := by
  have h := X.pushed (arrV cA K (fun _ => .int 0))
  rw [arrV_size] at h
  exact h
theorem gm_st_it {f : State → State} {z sl : Nat} {C : Nat → Nat → Cell} (hf : gm_ok f z sl C) (hs : ∀ (T : State) (locs : List Loc) (cells slots : Nat), Stand p l e R s m args below meth c T locs cells slots → Stand p l e R s m args below meth c (f T) locs (cells + z) (slots + sl)) {T : State} {locs : List Loc} {cells slots : Nat} (X : Stand p l e R s m args below meth c T locs cells slots) (cA : ClassId) (N : Nat) : ∀ i, Stand p l e R s m args below meth c (gm_it f z cA N T i) locs (cells + 1 + i * z) (slots + N + i * sl)
  | 0 => by
    have h := X.pushed (gm_o cA N z T.heap.size 0)
    rw [gm_o_size] at h
    rw [Nat.zero_mul, Nat.zero_mul]
    exact h
  | i + 1 => by
    have Xi := hs _ _ _ _ (gm_st_it hf hs X cA N i)
    obtain ⟨a1, a2, a3, a4, a5, a6⟩ := gm_it_ok hf cA N T i
    obtain ⟨b1, b2, b3, b4, b5, b6⟩ := hf (gm_it f z cA N T i)
    have h0 : (f (gm_it f z cA N T i)).heap[T.heap.size]? = some (gm_o cA N z T.heap.size i) := by rw [b4 _ (by omega)]; exact a4
    have h := Xi.stored h0 i (.ref (T.heap.size + 1 + i * z))
    rw [gm_o_next] at h
    have h2 := h.dropFresh (fun x hx => by
      rw [List.mem_singleton] at hx
      rw [hx]
      exact X.heapGrown)
    rw [show cells + 1 + (i + 1) * z = cells + 1 + i * z + z by rw [Nat.succ_mul]; omega, show slots + N + (i + 1) * sl = slots + N + i * sl + sl by rw [Nat.succ_mul]; omega]
    exact h2
theorem gm_st_n {f : State → State} {z sl : Nat} {C : Nat → Nat → Cell} (hf : gm_ok f z sl C) (hs : ∀ (T : State) (locs : List Loc) (cells slots : Nat), Stand p l e R s m args below meth c T locs cells slots → Stand p l e R s m args below meth c (f T) locs (cells + z) (slots + sl)) {T : State} {locs : List Loc} {cells slots : Nat} (X : Stand p l e R s m args below meth c T locs cells slots) (cA : ClassId) (N : Nat) : Stand p l e R s m args below meth c (gm_n f z cA N T) locs (cells + (1 + N * z)) (slots + (N + N * sl)) := by
  have h := gm_st_it hf hs X cA N N
  rw [Nat.add_assoc, Nat.add_assoc slots] at h
  exact h
end GMS
def gm_wp (V : Vm) (E : CtlPost) (e : Env) (c : ClassId) (ns : List Int32) (f : State → State) (z sl : Nat) : Prop := ∀ (s : State) (d : Bool) (acts : List Action) (Q : Addr → Pre), s.vm = V → s.heap.size + z ≤ e.platform.maxCells → s.slotsUsed + sl ≤ e.platform.maxSlots → (∀ d' acts', Q s.heap.size d' acts' (f s)) → wp (Jvm.Op.multianewarray.make c ns) Q E e d acts s
section GMW
variable {E : CtlPost} {e : Env} {d : Bool} {acts : List Action} {s : State}
theorem gm_new {c comp : ClassId} {k : Class} {type : FieldType} {len : Nat} {init : Value} (hk : s.vm.classes[c]? = some k) (hkind : k.kind = .array comp type) (hl : ¬ len > e.platform.arrayLengthLimit) (hh : ¬ len * componentBytes type > e.platform.maxHeapBytes) (hfit : fits type init = true) {Q : Addr → Pre} (h1 : s.heap.size < e.platform.maxCells) (h2 : s.slotsUsed + len ≤ e.platform.maxSlots) (hq : ∀ acts', Q s.heap.size d acts' (s.pushCell (arrV c len (fun _ => init)))) : wp (Jvm.newArray c len init) Q E e d acts s := W.newArray_of hk hkind hl hh h1 h2 hfit (fun acts' => by
  have h9 := hq acts'
  rw [← arrV_new] at h9
  exact h9)
theorem gm_wp_1 {V : Vm} {c comp : ClassId} {k : Class} {n : Int32} {N : Nat} (hk : V.classes[c]? = some k) (hkind : k.kind = .array comp .int) (hn : ¬ n < 0) (hN : n.toNatClampNeg = N) (hl : ¬ N > e.platform.arrayLengthLimit) (hh : ¬ N * componentBytes .int > e.platform.maxHeapBytes) : gm_wp V E e c [n] (gm_1 c N) 1 N := by
  intro s d acts Q hv h1 h2 hq
  subst hv
  subst hN
  rw [Jvm.Op.multianewarray.make]
  simp only [wp_bind', W.ite, hn, if_false, wp_pure', W.theClass, hk, hkind, Option.some.injEq, exists_eq_left']
  exact gm_new hk hkind hl hh rfl (by omega) (by omega) (fun _ => hq _ _)
theorem gm_wp_n {V : Vm} {c comp : ClassId} {k : Class} {n n2 : Int32} {r : List Int32} {N z sl : Nat} {t0 : FieldType} {f : State → State} {C : Nat → Nat → Cell} (hf : gm_ok f z sl C) (hk : V.classes[c]? = some k) (hkind : k.kind = .array comp (.array t0)) (hn : ¬ n < 0) (hN : n.toNatClampNeg = N) (hl : ¬ N > e.platform.arrayLengthLimit) (hh : ¬ N * 4 > e.platform.maxHeapBytes) (hfind : (n2 :: r).find? (· < 0) = none) (hi : gm_wp V E e comp (n2 :: r) f z sl) : gm_wp V E e c (n :: n2 :: r) (gm_n f z c N) (1 + N * z) (N + N * sl) := by
  intro s d acts Q hv h1 h2 hq
  subst hv
  subst hN
  rw [Jvm.Op.multianewarray.make]
  simp only [wp_bind', W.ite, hn, if_false, wp_pure', W.theClass, hk, hkind, Option.some.injEq, exists_eq_left']
  refine gm_new hk hkind hl hh rfl (by omega) (by have := Nat.zero_le (n.toNatClampNeg * sl); omega) (fun acts2 => ?_)
  simp only [hfind]
  rw [ite_self, wp_bind', Std.Legacy.Range.forIn_eq_forIn_range']
  have hsz : ([:n.toNatClampNeg] : Std.Legacy.Range).size = n.toNatClampNeg := by simp [Std.Legacy.Range.size]
  rw [hsz]
  have h00 : gm_o c n.toNatClampNeg z s.heap.size 0 = arrV c n.toNatClampNeg (fun _ => .null) := by
    unfold gm_o
    refine congrArg (arrV c _) (funext fun j => ?_)
    simp [va_rf]
  rw [← h00]
  show wp (forIn (List.range' 0 n.toNatClampNeg 1) PUnit.unit _) _ E e d acts2 (gm_it f z c n.toNatClampNeg s 0)
  refine wp_forIn_inv (fun rest s' => ∃ i, i ≤ n.toNatClampNeg ∧ rest = List.range' i (n.toNatClampNeg - i) ∧ s' = gm_it f z c n.toNatClampNeg s i) _ _ ⟨0, Nat.zero_le _, rfl, rfl⟩ ?_ ?_
  · rintro x rest s' d' acts' Q' ⟨i, hi9, hl9, rfl⟩ hnext
    have hlt : i < n.toNatClampNeg := by
      rcases Nat.lt_or_ge i n.toNatClampNeg with h | h
      · exact h
      · rw [show n.toNatClampNeg - i = 0 from by omega] at hl9; simp at hl9
    obtain ⟨rfl, hrest⟩ : x = i ∧ rest = List.range' (i + 1) (n.toNatClampNeg - (i + 1)) := by
      rw [show n.toNatClampNeg - i = (n.toNatClampNeg - (i + 1)) + 1 from by omega, List.range'_succ] at hl9
      exact ⟨(List.cons.inj hl9).1, (List.cons.inj hl9).2⟩
    obtain ⟨a1, a2, a3, a4, a5, a6⟩ := gm_it_ok hf c n.toNatClampNeg s x
    obtain ⟨b1, b2, b3, b4, b5, b6⟩ := hf (gm_it f z c n.toNatClampNeg s x)
    have hmz : x * z + z ≤ n.toNatClampNeg * z := by
      have := Nat.mul_le_mul_right z (show x + 1 ≤ n.toNatClampNeg from hlt)
      rw [Nat.succ_mul] at this; exact this
    have hms : x * sl + sl ≤ n.toNatClampNeg * sl := by
      have := Nat.mul_le_mul_right sl (show x + 1 ≤ n.toNatClampNeg from hlt)
      rw [Nat.succ_mul] at this; exact this
    simp only [wp_bind']
    refine hi _ _ _ _ a2 (by rw [a1]; omega) (by rw [a3]; omega) (fun d9 acts9 => ?_)
    simp only [wp_bind', W.writeLoc, wp_pure']
    refine ⟨gm_o c n.toNatClampNeg z s.heap.size x, by rw [b4 _ (by omega)]; exact a4, by simp [gm_o, arrV], by rw [gm_o_size]; exact hlt, ?_, hnext _ _ _ ⟨x + 1, hlt, hrest, ?_⟩⟩
    · simp [State.fitsSlot, State.slotType?, gm_o, arrV, b2, a2, hk, hkind, fits]
    · rw [a1, gm_o_next]
      rfl
  · rintro s' d' acts' ⟨i, hi9, hl9, rfl⟩
    have hiN : i = n.toNatClampNeg := by
      rcases Nat.lt_or_ge i n.toNatClampNeg with h | h
      · rw [show n.toNatClampNeg - i = (n.toNatClampNeg - (i + 1)) + 1 from by omega, List.range'_succ] at hl9; cases hl9
      · omega
    subst hiN
    simp only [wp_pure']
    exact hq _ _
end GMW
section GMG
variable {p : Program} {l : Launch} {e : Env} {R : Room} {s : State} {m : MethodId} {args : Array Value} {below : List Frame} {meth : Method} {c : Code}
theorem gm_go2 {T : State} {locs : List Loc} {cells slots : Nat} (X : Stand p l e R s m args below meth c T locs cells slots) (hexec : p.tables.exec = Jvm.exec) {own name : String} {index : Nat} {cA : ClassId} (hown : s.vm.findClass own = some m.cls) (hclink : (Cond.classLink own index name).before args s = true) (hname : s.vm.findClass name = some cA) {g : JFrame} (hg : g.method = m) (hdg : decode c.code g.pc = .ok (.multianewarray index 2, 4)) {n1 n2 : Int32} {rest : List Value} (hstack : g.stack = .int n2 :: .int n1 :: rest) {f : State → State} {z sl : Nat} {C : Nat → Nat → Cell} (hf : gm_ok f z sl C) (hcells : cells + z ≤ R.cells) (hslots : slots + sl ≤ R.slots) (hs : ∀ (T : State) (locs : List Loc) (cells slots : Nat), Stand p l e R s m args below meth c T locs cells slots → Stand p l e R s m args below meth c (f T) locs (cells + z) (slots + sl)) (hwp : ∀ (vm₁ : Vm) (E : CtlPost), s.vm.Alike vm₁ → gm_wp vm₁ E e cA [n1, n2] f z sl) :
    ∃ vm₁ : Vm, s.WarmedH vm₁ ∧ Stand p l e R s m args below meth c (f (T.setVm vm₁)) locs (cells + z) (slots + sl) ∧ ∀ target, Steps p.tables e below ((f (T.setVm vm₁)).setTop { g with pc := g.pc + 4, stack := .ref T.heap.size :: rest }) target → Steps p.tables e below (T.setTop g) target := by
  subst hg
  have hpl : e.platform.magicAccessors = ({} : Platform).magicAccessors := by rw [X.admits.platform]
  obtain ⟨c0, hfc0, hcl⟩ := Cond.classLink_spec hown hclink e.platform hpl
  cases hname.symm.trans hfc0
  obtain ⟨hg₁, hwarm₁, hready₁⟩ := State.classEntry (e := e) X.warmed hcl
  generalize T.vm.noted g.method.cls index (.cls cA) = vm₁ at hg₁ hwarm₁ hready₁
  have X₁ := X.noted hwarm₁
  obtain ⟨hr1, hr2⟩ := X.roomAbove hcells hslots
  have XF := hs _ _ _ _ X₁
  refine ⟨vm₁, hwarm₁, XF, fun target hrest => ?_⟩
  jvm_step X.here [hexec, hdg]
  simp only [multianewarray.sem, wp_bind', W.resolveClassAt_links (State.method?_setTop g X.here.top) hg₁]
  rw [W.popN, if_neg (by decide)]
  refine ⟨g, State.topJava?_setTop' (s := T.setVm vm₁) g X.here.top, [.int n1, .int n2], rest, rfl, hstack, ?_⟩
  simp only [List.mapM_cons, List.mapM_nil, wp_bind', wp_pure']
  refine hwp vm₁ _ hwarm₁.alike _ _ _ _ rfl hr1 hr2 (fun d' acts' => ?_)
  have eS : ((T.setTop g).setVm vm₁).setTop { g with stack := rest } = (T.setVm vm₁).setTop { g with stack := rest } := by
    show ((T.setVm vm₁).setTop g).setTop _ = _
    rw [State.setTop_setTop]
  rw [eS, (hf _).2.2.2.2.1]
  simp only [wp_bind', W.mark, W.pushRef, State.topJava?_setTop' _ XF.here.top, Option.some.injEq, exists_eq_left', State.setTop_setTop, State.heap_setTop]
  intro acts
  simp [jvm, XF.here.top]
  exact hrest
theorem gm_go4 {T : State} {locs : List Loc} {cells slots : Nat} (X : Stand p l e R s m args below meth c T locs cells slots) (hexec : p.tables.exec = Jvm.exec) {own name : String} {index : Nat} {cA : ClassId} (hown : s.vm.findClass own = some m.cls) (hclink : (Cond.classLink own index name).before args s = true) (hname : s.vm.findClass name = some cA) {g : JFrame} (hg : g.method = m) (hdg : decode c.code g.pc = .ok (.multianewarray index 4, 4)) {n1 n2 n3 n4 : Int32} {rest : List Value} (hstack : g.stack = .int n4 :: .int n3 :: .int n2 :: .int n1 :: rest) {f : State → State} {z sl : Nat} {C : Nat → Nat → Cell} (hf : gm_ok f z sl C) (hcells : cells + z ≤ R.cells) (hslots : slots + sl ≤ R.slots) (hs : ∀ (T : State) (locs : List Loc) (cells slots : Nat), Stand p l e R s m args below meth c T locs cells slots → Stand p l e R s m args below meth c (f T) locs (cells + z) (slots + sl)) (hwp : ∀ (vm₁ : Vm) (E : CtlPost), s.vm.Alike vm₁ → gm_wp vm₁ E e cA [n1, n2, n3, n4] f z sl) :
    ∃ vm₁ : Vm, s.WarmedH vm₁ ∧ Stand p l e R s m args below meth c (f (T.setVm vm₁)) locs (cells + z) (slots + sl) ∧ ∀ target, Steps p.tables e below ((f (T.setVm vm₁)).setTop { g with pc := g.pc + 4, stack := .ref T.heap.size :: rest }) target → Steps p.tables e below (T.setTop g) target := by
  subst hg
  have hpl : e.platform.magicAccessors = ({} : Platform).magicAccessors := by rw [X.admits.platform]
  obtain ⟨c0, hfc0, hcl⟩ := Cond.classLink_spec hown hclink e.platform hpl
  cases hname.symm.trans hfc0
  obtain ⟨hg₁, hwarm₁, hready₁⟩ := State.classEntry (e := e) X.warmed hcl
  generalize T.vm.noted g.method.cls index (.cls cA) = vm₁ at hg₁ hwarm₁ hready₁
  have X₁ := X.noted hwarm₁
  obtain ⟨hr1, hr2⟩ := X.roomAbove hcells hslots
  have XF := hs _ _ _ _ X₁
  refine ⟨vm₁, hwarm₁, XF, fun target hrest => ?_⟩
  jvm_step X.here [hexec, hdg]
  simp only [multianewarray.sem, wp_bind', W.resolveClassAt_links (State.method?_setTop g X.here.top) hg₁]
  rw [W.popN, if_neg (by decide)]
  refine ⟨g, State.topJava?_setTop' (s := T.setVm vm₁) g X.here.top, [.int n1, .int n2, .int n3, .int n4], rest, rfl, hstack, ?_⟩
  simp only [List.mapM_cons, List.mapM_nil, wp_bind', wp_pure']
  refine hwp vm₁ _ hwarm₁.alike _ _ _ _ rfl hr1 hr2 (fun d' acts' => ?_)
  have eS : ((T.setTop g).setVm vm₁).setTop { g with stack := rest } = (T.setVm vm₁).setTop { g with stack := rest } := by
    show ((T.setVm vm₁).setTop g).setTop _ = _
    rw [State.setTop_setTop]
  rw [eS, (hf _).2.2.2.2.1]
  simp only [wp_bind', W.mark, W.pushRef, State.topJava?_setTop' _ XF.here.top, Option.some.injEq, exists_eq_left', State.setTop_setTop, State.heap_setTop]
  intro acts
  simp [jvm, XF.here.top]
  exact hrest
end GMG
