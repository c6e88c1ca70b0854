/-! ===== the law's walk ===== -/
theorem g_kd424 : ∀ i, i < 424 → (me_k i).1 < 3 ∧ ((me_k i).1 = 1 → (me_k i).2.2.1 + (me_k i).2.1 ≤ 424) := by decide +kernel
theorem g_fs424 : ∀ i, i < 424 → ∀ f ∈ me_fs i, f < 427 := by decide +kernel
/-- a cell is told alike by two tables of addresses that agree -/
theorem g_c424 {D : va_G} {ad a2 : Nat → Nat} {cA : Nat → ClassId} {M : me_M} {H : Heap} (h : ∀ j, j < 424 → ad j = a2 j) (h0 : M.2.1 0 < 424) (h1 : M.2.1 1 < 424) {i : Nat} (hi : i < 424) (ha : va_at D vwCl (a2 i, me_c a2 cA M i) H) : va_at D vwCl (ad i, me_c ad cA M i) H := by
  have hv : ∀ k f, f < 427 → me_fv ad M i k f = me_fv a2 M i k f := by
    intro k f hf
    match f, hf with
    | 0, _ => rfl
    | 1, _ => simp only [me_fv, h _ h0]
    | 2, _ => simp only [me_fv, h _ h1]
    | j + 3, hf => simp only [me_fv, h j (by omega)]
  have hl : ∀ (cs : List Nat) (k0 : Nat), (∀ f ∈ cs, f < 427) → me_fl ad M i k0 cs = me_fl a2 M i k0 cs := by
    intro cs
    induction cs with
    | nil => intro _ _; rfl
    | cons f cs ih =>
      intro k0 hc
      simp only [me_fl]
      rw [hv _ f (hc f List.mem_cons_self), ih (k0 + 1) (fun x hx => hc x (List.mem_cons_of_mem _ hx))]
  rw [h i hi]
  obtain ⟨hk, hk1⟩ := g_kd424 i hi
  have hf := g_fs424 i hi
  unfold me_c at ha ⊢
  generalize me_k i = q at hk hk1 ha ⊢
  obtain ⟨a, b, c, d⟩ := q
  match a, hk with
  | 0, _ => exact ha
  | 1, _ =>
    have hb := hk1 rfl
    have e : arrV (cA d) b (fun j => va_rf (some (ad (c + j)))) = arrV (cA d) b (fun j => va_rf (some (a2 (c + j)))) := g_arrV (fun j hj => by rw [h (c + j) (by have : c + b ≤ 424 := hb; omega)])
    have ha' : H[a2 i]? = some (arrV (cA d) b (fun j => va_rf (some (a2 (c + j))))) := ha
    show H[a2 i]? = some (arrV (cA d) b (fun j => va_rf (some (ad (c + j)))))
    rw [e]
    exact ha'
  | 2, _ =>
    simp only [me_cv, hl _ 0 hf]
    exact ha
  | n + 3, hk => exact absurd hk (by show ¬ n + 3 < 3; omega)
section GB3
variable {p : Program} {l : Launch} {e : Env} {R : Room} {s : State} {m : MethodId} {args : Array Value} {below : List Frame} {meth : Method} {c : Code} {cells slots : Nat} {Q : State → Prop}
variable {D : va_G} {cA : Nat → ClassId} {ad : Nat → Nat} {n nL pc z : Nat} {A : Nat → Prop} {L : List (Nat × Value)} {st : List Value} {ws : va_W} {M : me_M}
theorem g_bridge3 (hmem : ∀ H : Heap, va_P D vwCl ws H → ∀ i, i < n → va_at D vwCl (ad i, me_c ad cA M i) H) (hinj : ∀ i, i < n → ∀ j, j < n → ad i = ad j → i = j) (hAd : ∀ i, i < n → A (ad i)) (kk : (∀ M, va_D A (me_w n ad cA M)) → me_W p l e R s m args below meth c cells slots Q D cA ad n nL A pc L st M) : g_W p l e R s m args below meth c cells slots Q D nL A z pc L st ws := by
  intro H locs ls hz hP hD hS hl
  have hin : ∀ (k : Nat) (q : Nat × va_E), (me_w n ad cA M)[k]? = some q → k < n ∧ q = (ad k, me_c ad cA M k) := fun k q hq => by
    by_cases hk : k < n
    · rw [me_w_get hk] at hq
      cases hq
      exact ⟨hk, rfl⟩
    · rw [me_w_none hk] at hq
      cases hq
  have hD' : va_D A (me_w n ad cA M) := by
    refine ⟨fun i j x y hi hj e9 => ?_, fun k q hq => ?_⟩
    · obtain ⟨li, ei⟩ := hin i x hi
      obtain ⟨lj, ej⟩ := hin j y hj
      rw [ei, ej] at e9
      exact hinj i li j lj e9
    · obtain ⟨lk, ek⟩ := hin k q hq
      rw [ek]
      exact hAd k lk
  exact kk (fun M => me_w_D hD') H locs ls (fun k q hq => by
    obtain ⟨lk, ek⟩ := hin k q hq
    rw [ek]
    exact hmem H hP k lk) hS hl
end GB3
theorem g_ad_inj (B : Nat) : ∀ i, i < 63 → ∀ j, j < 63 → g_ad B (B + 1) i = g_ad B (B + 1) j → i = j := fun i hi j hj h => by
  have ho : ∀ i, i < 63 → ∀ j, j < 63 → i ≠ 0 → j ≠ 0 → g_off i = g_off j → i = j := by decide +kernel
  unfold g_ad at h
  by_cases h1 : i = 0
  · rw [if_pos h1] at h
    by_cases h2 : j = 0
    · omega
    · rw [if_neg h2] at h
      omega
  · rw [if_neg h1] at h
    by_cases h2 : j = 0
    · rw [if_pos h2] at h
      omega
    · rw [if_neg h2] at h
      exact ho i hi j hj h1 h2 (by omega)
theorem g_ad_ge (B i : Nat) : B ≤ g_ad B (B + 1) i := by
  unfold g_ad
  split <;> omega
/-- all addresses: the class's, the reference's, the law's row of longs -/
def g_a3 (a2 : Nat → Nat) (q i : Nat) : Nat := if i < 424 then a2 i else q
