def slt (k : Nat) : Nat := if k < 12 then k else 12
def ftI (σ : MemT) (c : Nat) (t : Nat → Int) (n p k : Nat) : Bool := if k < 12 then fitK σ c t n p k else (decide (σ (3 + 7 * c) ((k : Int) - 12) ≠ 0) && decide (t p = (k : Int) - 12))
def widK (σ : MemT) (c k : Nat) : Int := if k < 12 then (if σ (8 + 7 * c) k = 0 then 1 else 2) else 1
def ptsK (σ : MemT) (c : Nat) (t : Nat → Int) (p k : Nat) : Int := if k < 12 then pop (σ (7 + 7 * c) k).toNat + pop (σ (8 + 7 * c) k).toNat else pop (σ (3 + 7 * c) (t p)).toNat
theorem ownK_wp (σ : MemT) (c : Nat) (t : Nat → Int) (p k : Nat) : ownK σ c t p k = 1024 * widK σ c k + ptsK σ c t p k := by
  unfold ownK widK ptsK
  split
  · rfl
  · omega
theorem ftI_fit {σ : MemT} {c : Nat} {t : Nat → Int} {n p k : Nat} (h : ftI σ c t n p k = true) : fitK σ c t n p (slt k) = true := by
  unfold ftI at h
  unfold slt
  by_cases h_k : k < 12
  · rw [if_pos h_k] at h ⊢
    exact h
  · rw [if_neg h_k] at h ⊢
    rw [Bool.and_eq_true] at h
    have h_1 := of_decide_eq_true h.1
    have h_2 := of_decide_eq_true h.2
    unfold fitK
    rw [if_neg (by decide), h_2]
    exact decide_eq_true h_1
/-- what the reference says of an item that begins at a place -/
theorem itm {σ μ : MemT} {c : Nat} (h_c : c < 5) (h_w : WfCode σ c) (h_r : ReCode σ μ c) {t : Nat → Int} {n p k : Nat} (h_k : k < 38) (h : ftI σ c t n p k = true) : ∃ w : Nat, wdI μ c k = w ∧ (1 ≤ w ∧ w ≤ 2) ∧ (w : Int) = widK σ c (slt k) ∧ lnI μ c k = lenK σ c (slt k) ∧ ∃ g : Nat → Nat, (∀ i, i < w → clI μ c k i = g i ∧ g i < 64) ∧ sm (fun i => pop (g i)) w = ptsK σ c t p (slt k) := by
  obtain ⟨r1, r2, r3⟩ := id h_r
  unfold ftI at h
  unfold slt
  by_cases h_12 : k < 12
  · rw [if_pos h_12] at h ⊢
    unfold fitK at h
    rw [if_pos h_12, Bool.and_eq_true, Bool.and_eq_true] at h
    have h_1 := of_decide_eq_true h.1
    obtain ⟨h_z1, h_z2, h_z3, h_z4⟩ := h_w.2.2.2 k (by omega) h_1
    obtain ⟨h_r1, h_r2, h_r3, h_r4, h_r5⟩ := r3 k (by omega) h_1
    have h_ln : lnI μ c k = lenK σ c k := by
      unfold lnI lenK
      rw [if_pos h_12, if_pos h_12, h_r1]
      omega
    unfold wdI widK clI ptsK
    rw [if_pos h_12, if_pos h_12, if_pos h_12]
    by_cases h_0 : σ (8 + 7 * c) k = 0
    · refine ⟨1, h_r4 h_0, by omega, by rw [if_pos h_0]; rfl, h_ln, fun _ => (σ (7 + 7 * c) k).toNat, fun i h_i => ?_, ?_⟩
      · obtain rfl : i = 0 := by omega
        rw [if_pos h_12, show ((0 : Nat) : Int) = 0 from rfl, Int.add_zero, h_r3]
        dsimp only
        omega
      · rw [h_0]
        show (0 : Int) + pop (σ (7 + 7 * c) k).toNat = pop (σ (7 + 7 * c) k).toNat + pop 0
        rw [show pop 0 = 0 from rfl]
        omega
    · obtain ⟨h_5, h_6⟩ := h_r5 h_0
      refine ⟨2, h_5, by omega, by rw [if_neg h_0]; rfl, h_ln, fun i => if i = 0 then (σ (7 + 7 * c) k).toNat else (σ (8 + 7 * c) k).toNat, fun i h_i => ?_, ?_⟩
      · rw [if_pos h_12]
        by_cases h_i0 : i = 0
        · subst h_i0
          rw [show ((0 : Nat) : Int) = 0 from rfl, Int.add_zero, h_r3]
          show σ (7 + 7 * c) k = ((σ (7 + 7 * c) k).toNat : Nat) ∧ (σ (7 + 7 * c) k).toNat < 64
          omega
        · obtain rfl : i = 1 := by omega
          rw [show ((1 : Nat) : Int) = 1 from rfl, h_6]
          show σ (8 + 7 * c) k = ((σ (8 + 7 * c) k).toNat : Nat) ∧ (σ (8 + 7 * c) k).toNat < 64
          omega
      · show (0 : Int) + pop (σ (7 + 7 * c) k).toNat + pop (σ (8 + 7 * c) k).toNat = _
        omega
  · rw [if_neg h_12] at h ⊢
    rw [Bool.and_eq_true] at h
    have h_1 := of_decide_eq_true h.1
    have h_2 := of_decide_eq_true h.2
    have h_3 := h_w.1 ((k : Int) - 12) (by omega) (by omega)
    unfold wdI widK clI ptsK lnI lenK
    rw [if_neg h_12, if_neg (by decide), if_neg h_12, if_neg (by decide), if_neg (by decide)]
    refine ⟨1, rfl, by omega, rfl, rfl, fun _ => (σ (3 + 7 * c) (t p)).toNat, fun i h_i => ?_, ?_⟩
    · rw [if_neg h_12, show 26 * (c : Int) + k - 12 = 26 * c + ((k : Int) - 12) by omega, r1 ((k : Int) - 12) (by omega) (by omega), h_2]
      dsimp only
      omega
    · show (0 : Int) + pop (σ (3 + 7 * c) (t p)).toNat = pop (σ (3 + 7 * c) (t p)).toNat
      omega
section WR2
variable {E : EE} {x x1 x2 : CX} {μ σ : MemT}
/-- the text that the reference writes -/
def TX (μ : MemT) (n : Nat) (t : Nat → Int) : Prop := μ 0 11 = n ∧ ∀ i : Nat, i < n → μ 9 i = t i
theorem m_fits (c k p n : Nat) (t : Nat → Int) (h_c : c < 5) (h_k : k < 38) (h_p : p < n) (h_n : n ≤ 10) (h_tx : TX μ n t) (h_w : WfCode σ c) (h_r : ReCode σ μ c) : CT (EM x) 1 yX12_fits [rf (EM x) 0, iv c, iv k, iv p] μ (rI (b2 (ftI σ c t n p k = true)) μ) := by
  obtain ⟨r1, r2, r3⟩ := id h_r
  by_cases h_12 : k < 12
  · have h_z := m_fitsI (x := x) (μ := μ) c k p n (σ (6 + 7 * c) k).toNat t (fun i => σ (5 + 7 * c) (4 * k + i)) h_c h_k h_p h_n h_tx.1 h_tx.2 (fun h_is => by
      unfold isI at h_is
      rw [if_pos h_12] at h_is
      have h_1 := of_decide_eq_true h_is
      rw [r2] at h_1
      obtain ⟨h_z1, h_z2, h_z3, h_z4⟩ := h_w.2.2.2 k (by omega) h_1
      obtain ⟨h_r1, h_r2, h_r3, h_r4, h_r5⟩ := r3 k (by omega) h_1
      refine ⟨?_, by omega, fun i h_i => ⟨?_, h_z2 i (by omega) (by omega)⟩⟩
      · unfold lnI
        rw [if_pos h_12, h_r1]
        omega
      · unfold ltI
        rw [if_pos h_12]
        exact h_r2 i (by omega) (by omega))
    refine h_z.mono (fun r m q => ⟨q.1.trans (congrArg (fun z => some (iv (b2 (z = true)))) ?_), q.2⟩)
    unfold ftI fitK isI
    rw [if_pos h_12, if_pos h_12, if_pos h_12, r2]
    by_cases h_1 : (k : Int) < σ (4 + 7 * c) 3
    · obtain ⟨h_z1, h_z2, h_z3, h_z4⟩ := h_w.2.2.2 k (by omega) h_1
      rw [show (((σ (6 + 7 * c) k).toNat : Nat) : Int) = σ (6 + 7 * c) k by omega]
    · rw [decide_eq_false h_1, Bool.false_and, Bool.false_and]
  · have h_z := m_fitsI (x := x) (μ := μ) c k p n 1 t (fun _ => (k : Int) - 12) h_c h_k h_p h_n h_tx.1 h_tx.2 (fun h_is => by
      refine ⟨?_, by omega, fun i h_i => ⟨?_, by omega⟩⟩
      · unfold lnI
        rw [if_neg h_12]
        rfl
      · unfold ltI
        rw [if_neg h_12])
    refine h_z.mono (fun r m q => ⟨q.1.trans (congrArg (fun z => some (iv (b2 (z = true)))) ?_), q.2⟩)
    have h_3 := h_w.1 ((k : Int) - 12) (by omega) (by omega)
    unfold ftI isI
    rw [if_neg h_12, if_neg h_12, show 26 * (c : Int) + k - 12 = 26 * c + ((k : Int) - 12) by omega, r1 ((k : Int) - 12) (by omega) (by omega), decide_eq_true (show (p : Int) + ((1 : Nat) : Int) ≤ n by omega), Bool.true_and, decide_eq_decide.2 (show 0 < σ (3 + 7 * c) ((k : Int) - 12) ↔ σ (3 + 7 * c) ((k : Int) - 12) ≠ 0 by omega)]
    congr 1
    rw [Bool.eq_iff_iff, eqB_iff, decide_eq_true_eq]
    exact ⟨fun h => (h 0 (by decide)).symm, fun h i h_i => by
      obtain rfl : i = 0 := by omega
      exact h.symm⟩
theorem m_byItem (c k p n : Nat) (t : Nat → Int) (h_c : c < 5) (h_k : k < 38) (h_p : p < n) (h_n : n ≤ 10) (h_w : WfCode σ c) (h_r : ReCode σ μ c) (h : ftI σ c t n p k = true) : CT (EM x) 2 yX12_byItem [rf (EM x) 0, iv c, iv k, iv p] μ (rI (if μ 10 ((p + lenK σ c (slt k) : Nat) : Int) = 100000000 then 100000000 else μ 10 ((p + lenK σ c (slt k) : Nat) : Int) + 1000 * widK σ c (slt k) + ptsK σ c t p (slt k)) μ) := by
  obtain ⟨w, h_1, h_2, h_3, h_4, g, h_5, h_6⟩ := itm h_c h_w h_r h_k h
  have h_7 := fitK_len h_w h_p (ftI_fit h)
  rw [← h_3, ← h_6]
  generalize lenK σ c (slt k) = z at h_4 h_7 ⊢
  refine CT.ofJ (own := RX12) (cc := cX12_byItem) (n := 5) (ret := (some .int)) (by decide) rfl cw_X12_byItem (by decide) (Nat.le_of_ble_eq_true rfl) (ls := [some (rf (EM x) 0), some (iv c), some (iv k), some (iv p), none]) rfl ?_
  intro X G
  first | refine j_aload_n G dX12_byItem_0 rfl ?_ | refine j_aload_nN G dX12_byItem_0 rfl ?_
  refine j_getr G fl_X12_37 dX12_byItem_1 (by first | assumption | rfl) (by rfl) ?_
  refine j_iload_n G dX12_byItem_4 rfl ?_
  first | refine j_aload_n G dX12_byItem_5 rfl ?_ | refine j_aload_nN G dX12_byItem_5 rfl ?_
  refine j_iload_n G dX12_byItem_6 rfl ?_
  refine j_iload_n G dX12_byItem_7 rfl ?_
  refine j_callV G mv_X12_158 dX12_byItem_8 (m_longOf c k h_c h_k) (by first | assumption | rfl) (by decide) (by rfl) rfl rfl (by exact Nat.le_of_ble_eq_true rfl) (by decide) (kI ?_)
  rw [h_4]
  refine j_iadd G dX12_byItem_11 ?_
  rw [show (p : Int) + (z : Int) = ((p + z : Nat) : Int) by omega]
  refine j_iaload G dX12_byItem_12 (by first | assumption | rfl) (by omega) (fun r_12 => ?_)
  try simp (disch := omega) only [up_same, up_cell, up_idx, cpm_at, fil_at] at r_12 ⊢
  refine j_istore4 G dX12_byItem_13 (by decide) rfl ?_
  refine j_iload G dX12_byItem_15 rfl ?_
  refine j_pc (p2 := 17) rfl ?_
  refine j_ldc G kc_X12_167 dX12_byItem_17 (z := 100000000) (by decide) ?_
  refine j_icmp_ne G dX12_byItem_19 (tgt := 27) (by decide) (by omega) (by omega) (fun c_19 => ?_) (fun c_19 => ?_)
  · refine j_iload G dX12_byItem_27 rfl ?_
    refine j_sipush G dX12_byItem_29 (by decide) ?_
    first | refine j_aload_n G dX12_byItem_32 rfl ?_ | refine j_aload_nN G dX12_byItem_32 rfl ?_
    refine j_iload_n G dX12_byItem_33 rfl ?_
    refine j_iload_n G dX12_byItem_34 rfl ?_
    refine j_callV G mv_X12_142 dX12_byItem_35 (m_wideOf c k h_c h_k) (by first | assumption | rfl) (by decide) (by rfl) rfl rfl (by exact Nat.le_of_ble_eq_true rfl) (by decide) (kI ?_)
    rw [h_1]
    refine j_imul G dX12_byItem_38 ?_
    refine j_iadd G dX12_byItem_39 ?_
    first | refine j_aload_n G dX12_byItem_40 rfl ?_ | refine j_aload_nN G dX12_byItem_40 rfl ?_
    refine j_iload_n G dX12_byItem_41 rfl ?_
    refine j_iload_n G dX12_byItem_42 rfl ?_
    refine j_pc (p2 := 43) rfl ?_
    refine j_callV G mv_X12_168 dX12_byItem_43 (m_pointsOfI c k w h_c h_k h_1 h_2.2 g h_5) (by first | assumption | rfl) (by decide) (by rfl) rfl rfl (by exact Nat.le_of_ble_eq_true rfl) (by decide) (kI ?_)
    refine j_iadd G dX12_byItem_46 ?_
    refine j_ireturn G dX12_byItem_47 ?_
    first | (rw [if_pos (by assumption)]; exact ⟨rfl, rfl⟩) | (rw [if_neg (by assumption)]; exact ⟨rfl, rfl⟩)
  · refine j_ldc G kc_X12_167 dX12_byItem_22 (z := 100000000) (by decide) ?_
    refine j_goto G dX12_byItem_24 (tgt := 47) (by decide) ?_
    refine j_ireturn G dX12_byItem_47 ?_
    first | (rw [if_pos (by assumption)]; exact ⟨rfl, rfl⟩) | (rw [if_neg (by assumption)]; exact ⟨rfl, rfl⟩)
end WR2
