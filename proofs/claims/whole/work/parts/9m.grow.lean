/-! Worlds that grow: the constructors. All new cells stand one behind the other, from b on. -/
def mw (b : Nat) (xs : List va_E) : va_W := xs.zipIdx.map (fun x => (b + x.2, x.1))
theorem mw_at (b : Nat) (xs : List va_E) (k : Nat) : (mw b xs)[k]? = (xs[k]?).map (fun q => (b + k, q)) := by
  unfold mw
  rw [List.getElem?_map, List.getElem?_zipIdx]
  cases xs[k]? with
  | none => rfl
  | some q => simp
theorem mw_of {b : Nat} {xs : List va_E} {k : Nat} {q : va_E} (h : xs[k]? = some q) : (mw b xs)[k]? = some (b + k, q) := by rw [mw_at, h]; rfl
theorem mw_in {b : Nat} {xs : List va_E} {k : Nat} {p : Nat × va_E} (h : (mw b xs)[k]? = some p) : p.1 = b + k ∧ k < xs.length ∧ xs[k]? = some p.2 := by
  rw [mw_at] at h
  cases hq : xs[k]? with
  | none => rw [hq] at h; cases h
  | some q => rw [hq] at h; cases h; exact ⟨rfl, (List.getElem?_eq_some_iff.mp hq).1, rfl⟩
theorem mw_D (b : Nat) (xs : List va_E) : va_D (fun q => b ≤ q) (mw b xs) := by
  refine ⟨fun i j p q hi hj e => ?_, fun k q h => ?_⟩
  · have h1 := (mw_in hi).1
    have h2 := (mw_in hj).1
    omega
  · have h1 := (mw_in h).1
    show b ≤ q.1
    omega
theorem mw_set {b : Nat} {xs : List va_E} {k : Nat} {e : va_E} : (mw b xs).set k (b + k, e) = mw b (xs.set k e) := by
  apply List.ext_getElem?
  intro j
  rw [mw_at, List.getElem?_set, List.getElem?_set, mw_at]
  by_cases c1 : k = j
  · subst c1
    rw [if_pos rfl, if_pos rfl]
    have hl : (mw b xs).length = xs.length := by simp [mw]
    rw [hl]
    by_cases c2 : k < xs.length
    · rw [if_pos c2, if_pos c2]; rfl
    · rw [if_neg c2, if_neg c2]; rfl
  · rw [if_neg c1, if_neg c1]
theorem mw_app {b : Nat} {xs ys : List va_E} : mw b (xs ++ ys) = mw b xs ++ mw (b + xs.length) ys := by
  apply List.ext_getElem?
  intro j
  have hl : (mw b xs).length = xs.length := by simp [mw]
  by_cases c : j < xs.length
  · rw [mw_at, List.getElem?_append_left c, List.getElem?_append_left (by omega), mw_at]
  · rw [mw_at, List.getElem?_append_right (by omega), List.getElem?_append_right (by omega), mw_at, hl]
    rw [show b + xs.length + (j - xs.length) = b + j by omega]
theorem mw_one (b : Nat) (e : va_E) : mw b [e] = [(b, e)] := rfl
theorem mw_sub {D : va_G} {b : Nat} {xs ys : List va_E} {H : Heap} : va_P D vwCl (mw b (xs ++ ys)) H ↔ va_P D vwCl (mw b xs) H ∧ va_P D vwCl (mw (b + xs.length) ys) H := by
  rw [mw_app]
  refine ⟨fun h => ⟨fun k q hk => h k q ?_, fun k q hk => h ((mw b xs).length + k) q ?_⟩, fun h => h.1.app h.2⟩
  · rw [List.getElem?_append_left (List.getElem?_eq_some_iff.mp hk).1]
    exact hk
  · rw [List.getElem?_append_right (by omega), Nat.add_sub_cancel_left]
    exact hk
/-- words that don't stand in Tb -/
def NWL : List Cond := [.arrayOver (.object "DotWar$Code"), .arrayOver (.object "DotWar$Reader"), .arrayOver (.object "DotWar$School"), .arrayOver (.array .int), .methodLinkNest "DotWar" 15 yX1_init "DotWar", .methodLinkNest "DotWar" 33 yX10_init "DotWar", .methodLinkNest "DotWar" 40 yX2_init "DotWar", .methodLinkNest "DotWar" 60 yX6_init "DotWar", .methodLinkNest "DotWar" 71 yX8_init "DotWar", .methodLinkNest "DotWar" 74 yX3_init "DotWar"]
def NX (U : State) : Prop := ∀ w ∈ NWL, va_Nw w U
theorem ao_vm {ty : FieldType} {A A2 : Array Value} {u U : State} (h : u.vm = U.vm) (k : (Cond.arrayOver ty).before A u = true) : (Cond.arrayOver ty).before A2 U = true := by
  unfold Cond.before Cond.holds at k ⊢
  simp only [Cond.value] at k ⊢
  rw [← h]
  exact k
theorem NX.same {u U : State} (h : u.vm = U.vm) (k : NX u) : NX U := by
  intro w hw
  have h0 := k w hw
  simp only [NWL, List.mem_cons, List.not_mem_nil, or_false] at hw
  rcases hw with e | e | e | e | e | e | e | e | e | e <;> subst e <;> first | exact ao_vm h h0 | exact va_Nw.same rfl h h0
theorem NX.warm {s U : State} (hW : s.WarmedH U.vm) (k : NX s) : NX U := by
  intro w hw
  have h0 := k w hw
  have key : ∀ ty : FieldType, va_Nw (.arrayOver ty) s → va_Nw (.arrayOver ty) U := fun ty hz => ao_vm (rfl : (s.setVm U.vm).vm = U.vm) (Cond.overAtom_setVm hW.alike _ rfl hz)
  simp only [NWL, List.mem_cons, List.not_mem_nil, or_false] at hw
  rcases hw with e | e | e | e | e | e | e | e | e | e <;> subst e <;> first | exact key _ h0 | exact va_Nw.warmM hW h0
