/-- the memories behind the constructors -/
def s0C : MemT := fun k j => if k = 195 then (if 0 ≤ j ∧ j < 26 then -1 else 0) else if k = 4 ∨ k = 11 ∨ k = 18 ∨ k = 25 ∨ k = 32 ∨ k = 70 then (if j = 0 then 4 else 0) else if k = 57 then (if j = 0 then 10 else 0) else 0
def s0M : MemT := fun k j => if k = 32 then (if 0 ≤ j ∧ j < 26 then -6 else 0) else if k = 31 then (if 0 ≤ j ∧ j < 6 then -6 else 0) else 0
theorem s0_z {k : Nat} (j : Int) (h : k ≠ 195 ∧ k ≠ 4 ∧ k ≠ 11 ∧ k ≠ 18 ∧ k ≠ 25 ∧ k ≠ 32 ∧ k ≠ 57 ∧ k ≠ 70) : s0C k j = 0 := by
  unfold s0C
  rw [if_neg (by omega), if_neg (by omega), if_neg (by omega)]
theorem s0_4 {k : Nat} (j : Int) (h : k = 4 ∨ k = 11 ∨ k = 18 ∨ k = 25 ∨ k = 32 ∨ k = 70) : s0C k j = if j = 0 then 4 else 0 := by
  unfold s0C
  rw [if_neg (by omega), if_pos h]
theorem m0_z {k : Nat} (j : Int) (h : k ≠ 31 ∧ k ≠ 32) : s0M k j = 0 := by
  unfold s0M
  rw [if_neg (by omega), if_neg (by omega)]
theorem ok_C (x : CX) : Ok (EC x) s0C := by
  intro k i _
  unfold s0C
  repeat' split
  all_goals omega
theorem ok_M (x : CX) : Ok (EM x) s0M := by
  intro k i _
  unfold s0M
  repeat' split
  all_goals omega
theorem wf_0 : Wf s0C := by
  refine ⟨fun c hc => ?_, ?_, ?_, ?_, ?_, ?_, ?_, ?_⟩
  · have h3 : s0C (4 + 7 * c) 3 = 0 := by rw [s0_4 _ (by omega)]; rfl
    refine ⟨fun l _ _ => by rw [s0_z _ (by omega)]; omega, by rw [s0_4 _ (by omega)]; rfl, by rw [h3]; omega, fun s h1 h2 => ?_⟩
    rw [h3] at h2
    omega
  · refine ⟨by rw [s0_z _ (by omega)]; omega, fun i h1 h2 => ?_, by rw [s0_z _ (by omega)]; omega, fun i h1 h2 => ?_, by rw [s0_z _ (by omega)]; omega, fun i h1 h2 => ?_⟩ <;> (rw [s0_z _ (by omega)] at h2; omega)
  · have h3 : s0C 57 3 = 0 := rfl
    refine ⟨rfl, by rw [h3]; omega, fun w h1 h2 => ?_, fun b hb w h1 h2 => by rw [s0_z _ (by omega)]; omega⟩
    rw [h3] at h2
    omega
  · have h3 : s0C 70 3 = 0 := rfl
    refine ⟨rfl, by rw [h3]; omega, fun r h1 h2 => ?_⟩
    rw [h3] at h2
    omega
  · refine ⟨by rw [s0_z _ (by omega)]; omega, fun r hr => ⟨by rw [s0_z _ (by omega)]; omega, by rw [s0_z _ (by omega)]; omega, Or.inl (s0_z _ (by omega)), fun e h1 h2 => by rw [s0_z _ (by omega)]; omega⟩⟩
  · exact fun s hs b hb e h1 h2 => by rw [s0_z _ (by omega)]; omega
  · exact fun s hs => ⟨0, by omega, s0_z _ (by omega), Or.inl rfl⟩
  · intro l h1 h2
    have : s0C 195 l = -1 := by
      unfold s0C
      rw [if_pos rfl, if_pos ⟨h1, h2⟩]
    rw [this]
    omega
theorem rel_0 : Rel s0C s0M := by
  refine ⟨fun c hc => ?_, ?_, ?_, ?_, ?_, ?_, ?_, ?_⟩
  · have h3 : s0C (4 + 7 * c) 3 = 0 := by rw [s0_4 _ (by omega)]; rfl
    refine ⟨fun l _ _ => by rw [s0_z _ (by omega), m0_z _ (by omega)], by rw [h3, m0_z _ (by omega)], fun s h1 h2 => ?_⟩
    rw [h3] at h2
    omega
  · refine ⟨by rw [s0_z _ (by omega), m0_z _ (by omega)], fun i h1 h2 => ?_, by rw [s0_z _ (by omega), m0_z _ (by omega)], fun i h1 h2 => ?_, by rw [s0_z _ (by omega), m0_z _ (by omega)], fun i h1 h2 => ?_⟩ <;> (rw [s0_z _ (by omega)] at h2; omega)
  · have h3 : s0C 57 3 = 0 := rfl
    refine ⟨by rw [h3, m0_z _ (by omega)], fun w h1 h2 => ?_, fun b hb w h1 h2 => by rw [s0_z _ (by omega), m0_z _ (by omega)]⟩
    rw [h3] at h2
    omega
  · have h3 : s0C 70 3 = 0 := rfl
    refine ⟨by rw [h3, m0_z _ (by omega)], fun r h1 h2 => ?_⟩
    rw [h3] at h2
    omega
  · refine ⟨by rw [s0_z _ (by omega), m0_z _ (by omega)], fun r hr => ⟨by rw [s0_z _ (by omega), m0_z _ (by omega)], by rw [s0_z _ (by omega), m0_z _ (by omega)], by rw [s0_z _ (by omega), m0_z _ (by omega)], fun e h1 h2 => by rw [s0_z _ (by omega), m0_z _ (by omega)]⟩⟩
  · exact fun s hs b hb e h1 h2 => by rw [s0_z _ (by omega), m0_z _ (by omega)]
  · intro s hs
    refine Or.inl ⟨?_, s0_z _ (by omega)⟩
    unfold s0M
    rw [if_neg (by omega), if_pos rfl, if_pos (by omega)]
  · intro l h1 h2
    have e1 : s0C 195 l = -1 := by
      unfold s0C
      rw [if_pos rfl, if_pos ⟨h1, h2⟩]
    have e2 : s0M 32 l = -6 := by
      unfold s0M
      rw [if_pos rfl, if_pos ⟨h1, h2⟩]
    rw [e1, e2, if_pos (by omega)]
def enL (E : EE) (μ : MemT) : Nat → LayT → List va_E
  | _, [] => []
  | k, q :: qs => en E μ k q :: enL E μ (k + 1) qs
theorem enL_at (E : EE) (μ : MemT) : ∀ (qs : LayT) (k j : Nat), (enL E μ k qs)[j]? = (qs[j]?).map (fun q => en E μ (k + j) q)
  | [], k, j => by simp [enL]
  | q :: qs, k, 0 => rfl
  | q :: qs, k, j + 1 => by
    unfold enL
    rw [List.getElem?_cons_succ, List.getElem?_cons_succ, enL_at E μ qs (k + 1) j, show k + 1 + j = k + (j + 1) by omega]
theorem wd_mw (E : EE) (μ : MemT) : wd E μ = mw (eB E) (enL E μ 0 (eY E)) := by
  apply List.ext_getElem?
  intro k
  rw [wd_at, mw_at, enL_at, Nat.zero_add]
  cases (eY E)[k]? with
  | none => rfl
  | some q => rfl
theorem q_lf (b a w N : Nat) : lf (b + a) w N = fun j => ((((List.range N).map (fun i => some (a + w * i)))[j]?).join).map (fun r => b + r) := by
  funext j
  unfold lf
  rw [List.getElem?_map]
  by_cases c : j < N
  · rw [if_pos c, List.getElem?_range c]
    show _ = some (b + (a + w * j))
    rw [Nat.add_assoc]
  · rw [if_neg c, List.getElem?_eq_none (by rw [List.length_range]; omega)]
    rfl
theorem mul_q (E : EE) (B b a N M : Nat) (h : B = b + a) : mulL E B N M = (.inl (eA E 27, N, .inr (.inr (.inr (.inr (fun j => ((((List.range N).map (fun i => some (a + 1 + i)))[j]?).join).map (fun r => b + r)))))) : va_E) :: List.replicate N (aI E M) := by
  have e : (fun j => if j < N then some (B + 1 + j) else none) = (fun j => ((((List.range N).map (fun i => some (a + 1 + i)))[j]?).join).map (fun r => b + r)) := by
    funext j
    rw [List.getElem?_map]
    by_cases c : j < N
    · rw [if_pos c, List.getElem?_range c]
      show _ = some (b + (a + 1 + j))
      rw [h, show b + a + 1 + j = b + (a + 1 + j) by omega]
    · rw [if_neg c, List.getElem?_eq_none (by rw [List.length_range]; omega)]
      rfl
  unfold mulL aQ
  rw [e]
theorem blk6 (f : Nat → List va_E) (w a : Nat) : blkL f w a 6 = f (a + w * 0) ++ (f (a + w * 1) ++ (f (a + w * 2) ++ (f (a + w * 3) ++ (f (a + w * 4) ++ f (a + w * 5))))) := by
  show ((((([] ++ f (a + w * 0)) ++ f (a + w * 1)) ++ f (a + w * 2)) ++ f (a + w * 3)) ++ f (a + w * 4)) ++ f (a + w * 5) = _
  simp only [List.nil_append, List.append_assoc]
