theorem up_fn {μ : MemT} {k a : Nat} {i z : Int} (h : a ≠ k) : up μ k i z a = μ a := up_other a h
theorem WfCode.fr {σ τ : MemT} {c : Nat} (h : WfCode σ c) (hc : c < 5) (k : ∀ j, 3 ≤ j → j ≤ 36 → τ j = σ j) : WfCode τ c := by
  unfold WfCode at h ⊢
  rw [k (3 + 7 * c) (by omega) (by omega), k (4 + 7 * c) (by omega) (by omega), k (5 + 7 * c) (by omega) (by omega), k (6 + 7 * c) (by omega) (by omega), k (7 + 7 * c) (by omega) (by omega), k (8 + 7 * c) (by omega) (by omega)]
  exact h
theorem WfPad.fr {σ τ : MemT} (h : WfPad σ) (k : ∀ j, 37 ≤ j → j ≤ 42 → τ j = σ j) : WfPad τ := by
  unfold WfPad at h ⊢
  rw [k 37 (by omega) (by omega), k 38 (by omega) (by omega), k 39 (by omega) (by omega), k 40 (by omega) (by omega), k 41 (by omega) (by omega), k 42 (by omega) (by omega)]
  exact h
theorem WfWord.fr {σ τ : MemT} (h : WfWord σ) (k : ∀ j, 57 ≤ j → j ≤ 68 → τ j = σ j) : WfWord τ := by
  unfold WfWord at h ⊢
  rw [k 57 (by omega) (by omega), k 58 (by omega) (by omega), k 59 (by omega) (by omega)]
  exact ⟨h.1, h.2.1, h.2.2.1, fun b hb => by rw [k (61 + b) (by omega) (by omega)]; exact h.2.2.2 b hb⟩
theorem WfRow.fr {σ τ : MemT} (h : WfRow σ) (k : ∀ j, 70 ≤ j → j ≤ 72 → τ j = σ j) : WfRow τ := by
  unfold WfRow at h ⊢
  rw [k 70 (by omega) (by omega), k 71 (by omega) (by omega), k 72 (by omega) (by omega)]
  exact h
theorem WfRd.fr {σ τ : MemT} (h : WfRd σ) (k0 : τ 0 8 = σ 0 8) (k : ∀ j, 78 ≤ j → j ≤ 117 → τ j = σ j) : WfRd τ := by
  unfold WfRd at h ⊢
  rw [k0]
  exact ⟨h.1, fun r hr => by rw [k (78 + 2 * r) (by omega) (by omega), k (79 + 2 * r) (by omega) (by omega)]; exact h.2 r hr⟩
theorem WfSh.fr {σ τ : MemT} (h : WfSh σ) (k : ∀ s b : Nat, s < 6 → b < 8 → τ (121 + 12 * s + b) = σ (121 + 12 * s + b)) : WfSh τ := by
  unfold WfSh at h ⊢
  exact fun s hs b hb => by rw [k s b hs hb]; exact h s hs b hb
theorem WfRule.fr {σ τ : MemT} (h : WfRule σ) (k : ∀ s, s < 6 → τ (129 + 12 * s) = σ (129 + 12 * s) ∧ τ (130 + 12 * s) = σ (130 + 12 * s)) : WfRule τ := by
  unfold WfRule at h ⊢
  exact fun s hs => by rw [(k s hs).1, (k s hs).2]; exact h s hs
theorem WfPart.fr {σ τ : MemT} (h : WfPart σ) (k : τ 195 = σ 195) : WfPart τ := by
  unfold WfPart at h ⊢
  rw [k]
  exact h
theorem ReCode.fr {σ τ μ ν : MemT} {c : Nat} (h : ReCode σ μ c) (hc : c < 5) (k : ∀ j, 3 ≤ j → j ≤ 36 → τ j = σ j) (m : ∀ j, 1 ≤ j → j ≤ 6 → ν j = μ j) : ReCode τ ν c := by
  unfold ReCode at h ⊢
  rw [k (3 + 7 * c) (by omega) (by omega), k (4 + 7 * c) (by omega) (by omega), k (5 + 7 * c) (by omega) (by omega), k (6 + 7 * c) (by omega) (by omega), k (7 + 7 * c) (by omega) (by omega), k (8 + 7 * c) (by omega) (by omega), m 1 (by omega) (by omega), m 2 (by omega) (by omega), m 3 (by omega) (by omega), m 4 (by omega) (by omega), m 5 (by omega) (by omega), m 6 (by omega) (by omega)]
  exact h
theorem RePad.fr {σ τ μ ν : MemT} (h : RePad σ μ) (k : ∀ j, 37 ≤ j → j ≤ 42 → τ j = σ j) (m : ν 7 = μ 7 ∧ ν 8 = μ 8 ∧ ν 29 = μ 29) (m0 : ν 0 7 = μ 0 7 ∧ ν 0 9 = μ 0 9 ∧ ν 0 42 = μ 0 42) : RePad τ ν := by
  unfold RePad at h ⊢
  rw [k 37 (by omega) (by omega), k 38 (by omega) (by omega), k 39 (by omega) (by omega), k 40 (by omega) (by omega), k 41 (by omega) (by omega), k 42 (by omega) (by omega), m.1, m.2.1, m.2.2, m0.1, m0.2.1, m0.2.2]
  exact h
theorem ReWord.fr {σ τ μ ν : MemT} (h : ReWord σ μ) (k : ∀ j, 57 ≤ j → j ≤ 68 → τ j = σ j) (m : ∀ j, 17 ≤ j → j ≤ 19 → ν j = μ j) (m0 : ν 0 22 = μ 0 22) : ReWord τ ν := by
  unfold ReWord at h ⊢
  rw [k 57 (by omega) (by omega), k 58 (by omega) (by omega), k 59 (by omega) (by omega), m 17 (by omega) (by omega), m 18 (by omega) (by omega), m 19 (by omega) (by omega), m0]
  exact ⟨h.1, h.2.1, fun b hb => by rw [k (61 + b) (by omega) (by omega)]; exact h.2.2 b hb⟩
theorem ReRow.fr {σ τ μ ν : MemT} (h : ReRow σ μ) (k : ∀ j, 70 ≤ j → j ≤ 72 → τ j = σ j) (m : ∀ j, 20 ≤ j → j ≤ 21 → ν j = μ j) (m0 : ν 0 28 = μ 0 28) : ReRow τ ν := by
  unfold ReRow at h ⊢
  rw [k 70 (by omega) (by omega), k 71 (by omega) (by omega), k 72 (by omega) (by omega), m 20 (by omega) (by omega), m 21 (by omega) (by omega), m0]
  exact h
theorem ReRd.fr {σ τ μ ν : MemT} (h : ReRd σ μ) (k0 : τ 0 8 = σ 0 8) (k : ∀ j, 78 ≤ j → j ≤ 117 → τ j = σ j) (m : ∀ j, 22 ≤ j → j ≤ 25 → ν j = μ j) (m0 : ν 0 33 = μ 0 33) : ReRd τ ν := by
  unfold ReRd at h ⊢
  rw [k0, m 22 (by omega) (by omega), m 23 (by omega) (by omega), m 24 (by omega) (by omega), m 25 (by omega) (by omega), m0]
  exact ⟨h.1, fun r hr => by rw [k (78 + 2 * r) (by omega) (by omega), k (79 + 2 * r) (by omega) (by omega)]; exact h.2 r hr⟩
theorem ReSh.fr {σ τ μ ν : MemT} (h : ReSh σ μ) (k : ∀ s b : Nat, s < 6 → b < 8 → τ (121 + 12 * s + b) = σ (121 + 12 * s + b)) (m : ν 26 = μ 26) : ReSh τ ν := by
  unfold ReSh at h ⊢
  rw [m]
  exact fun s hs b hb => by rw [k s b hs hb]; exact h s hs b hb
theorem ReRule.fr {σ τ μ ν : MemT} (h : ReRule σ μ) (k : ∀ s, s < 6 → τ (129 + 12 * s) = σ (129 + 12 * s) ∧ τ (130 + 12 * s) = σ (130 + 12 * s)) (m : ν 30 = μ 30 ∧ ν 31 = μ 31) : ReRule τ ν := by
  unfold ReRule at h ⊢
  rw [m.1, m.2]
  exact fun s hs => by rw [(k s hs).1, (k s hs).2]; exact h s hs
theorem RePart.fr {σ τ μ ν : MemT} (h : RePart σ μ) (k : τ 195 = σ 195) (m : ν 32 = μ 32) : RePart τ ν := by
  unfold RePart at h ⊢
  rw [k, m]
  exact h
