/-! the reference's items -/
def lnI (μ : MemT) (c k : Nat) : Int := if k < 12 then μ 3 (12 * (c : Int) + k) else 1
def wdI (μ : MemT) (c k : Nat) : Int := if k < 12 then μ 5 (12 * (c : Int) + k) else 1
def ltI (μ : MemT) (c k : Nat) (i : Nat) : Int := if k < 12 then μ 2 (4 * (12 * (c : Int) + k) + i) else k - 12
def clI (μ : MemT) (c k : Nat) (i : Nat) : Int := if k < 12 then μ 4 (2 * (12 * (c : Int) + k) + i) else μ 1 (26 * (c : Int) + k - 12)
def isI (μ : MemT) (c k : Nat) : Bool := if k < 12 then decide ((k : Int) < μ 6 c) else decide (0 < μ 1 (26 * (c : Int) + k - 12))
section WR
variable {E : EE} {x x1 x2 : CX} {μ σ : MemT}
theorem m_longOf (c k : Nat) (h_c : c < 5) (h_k : k < 38) : CT (EM x) 0 yX12_longOf [rf (EM x) 0, iv c, iv k] μ (rI (lnI μ c k) μ) := by
  unfold lnI
  refine CT.ofJ (own := RX12) (cc := cX12_longOf) (n := 3) (ret := (some .int)) (by decide) rfl cw_X12_longOf (by decide) (Nat.le_of_ble_eq_true rfl) (ls := [some (rf (EM x) 0), some (iv c), some (iv k)]) rfl ?_
  intro X G
  refine j_iload_n G dX12_longOf_0 rfl ?_
  refine j_bipush G dX12_longOf_1 (by decide) ?_
  refine j_icmp_ge G dX12_longOf_3 (tgt := 20) (by decide) (by omega) (by omega) (fun c_3 => ?_) (fun c_3 => ?_)
  · refine j_iconst G dX12_longOf_20 ?_
    refine j_ireturn G dX12_longOf_21 ?_
    first | (rw [if_pos (by omega)]; exact ⟨rfl, rfl⟩) | (rw [if_neg (by omega)]; exact ⟨rfl, rfl⟩)
  · first | refine j_aload_n G dX12_longOf_6 rfl ?_ | refine j_aload_nN G dX12_longOf_6 rfl ?_
    refine j_getr G fl_X12_16 dX12_longOf_7 (by first | assumption | rfl) (by rfl) ?_
    refine j_bipush G dX12_longOf_10 (by decide) ?_
    refine j_iload_n G dX12_longOf_12 rfl ?_
    refine j_imul G dX12_longOf_13 ?_
    refine j_iload_n G dX12_longOf_14 rfl ?_
    refine j_iadd G dX12_longOf_15 ?_
    refine j_iaload G dX12_longOf_16 (by first | assumption | rfl) (by omega) (fun r_16 => ?_)
    try simp (disch := omega) only [up_same, up_cell, up_idx, cpm_at, fil_at] at r_16 ⊢
    refine j_goto G dX12_longOf_17 (tgt := 21) (by decide) ?_
    refine j_ireturn G dX12_longOf_21 ?_
    first | (rw [if_pos (by omega)]; exact ⟨rfl, rfl⟩) | (rw [if_neg (by omega)]; exact ⟨rfl, rfl⟩)
theorem m_wideOf (c k : Nat) (h_c : c < 5) (h_k : k < 38) : CT (EM x) 0 yX12_wideOf [rf (EM x) 0, iv c, iv k] μ (rI (wdI μ c k) μ) := by
  unfold wdI
  refine CT.ofJ (own := RX12) (cc := cX12_wideOf) (n := 3) (ret := (some .int)) (by decide) rfl cw_X12_wideOf (by decide) (Nat.le_of_ble_eq_true rfl) (ls := [some (rf (EM x) 0), some (iv c), some (iv k)]) rfl ?_
  intro X G
  refine j_iload_n G dX12_wideOf_0 rfl ?_
  refine j_bipush G dX12_wideOf_1 (by decide) ?_
  refine j_icmp_ge G dX12_wideOf_3 (tgt := 20) (by decide) (by omega) (by omega) (fun c_3 => ?_) (fun c_3 => ?_)
  · refine j_iconst G dX12_wideOf_20 ?_
    refine j_ireturn G dX12_wideOf_21 ?_
    first | (rw [if_pos (by omega)]; exact ⟨rfl, rfl⟩) | (rw [if_neg (by omega)]; exact ⟨rfl, rfl⟩)
  · first | refine j_aload_n G dX12_wideOf_6 rfl ?_ | refine j_aload_nN G dX12_wideOf_6 rfl ?_
    refine j_getr G fl_X12_22 dX12_wideOf_7 (by first | assumption | rfl) (by rfl) ?_
    refine j_bipush G dX12_wideOf_10 (by decide) ?_
    refine j_iload_n G dX12_wideOf_12 rfl ?_
    refine j_imul G dX12_wideOf_13 ?_
    refine j_iload_n G dX12_wideOf_14 rfl ?_
    refine j_iadd G dX12_wideOf_15 ?_
    refine j_iaload G dX12_wideOf_16 (by first | assumption | rfl) (by omega) (fun r_16 => ?_)
    try simp (disch := omega) only [up_same, up_cell, up_idx, cpm_at, fil_at] at r_16 ⊢
    refine j_goto G dX12_wideOf_17 (tgt := 21) (by decide) ?_
    refine j_ireturn G dX12_wideOf_21 ?_
    first | (rw [if_pos (by omega)]; exact ⟨rfl, rfl⟩) | (rw [if_neg (by omega)]; exact ⟨rfl, rfl⟩)
theorem m_letterAt (c k i : Nat) (h_c : c < 5) (h_k : k < 38) (h_i : i < 4) : CT (EM x) 0 yX12_letterAt [rf (EM x) 0, iv c, iv k, iv i] μ (rI (ltI μ c k i) μ) := by
  unfold ltI
  refine CT.ofJ (own := RX12) (cc := cX12_letterAt) (n := 4) (ret := (some .int)) (by decide) rfl cw_X12_letterAt (by decide) (Nat.le_of_ble_eq_true rfl) (ls := [some (rf (EM x) 0), some (iv c), some (iv k), some (iv i)]) rfl ?_
  intro X G
  refine j_iload_n G dX12_letterAt_0 rfl ?_
  refine j_bipush G dX12_letterAt_1 (by decide) ?_
  refine j_icmp_ge G dX12_letterAt_3 (tgt := 24) (by decide) (by omega) (by omega) (fun c_3 => ?_) (fun c_3 => ?_)
  · refine j_iload_n G dX12_letterAt_24 rfl ?_
    refine j_bipush G dX12_letterAt_25 (by decide) ?_
    refine j_isub G dX12_letterAt_27 ?_
    refine j_ireturn G dX12_letterAt_28 ?_
    first | (rw [if_pos (by omega)]; exact ⟨rfl, rfl⟩) | (rw [if_neg (by omega)]; exact ⟨rfl, rfl⟩)
  · first | refine j_aload_n G dX12_letterAt_6 rfl ?_ | refine j_aload_nN G dX12_letterAt_6 rfl ?_
    refine j_getr G fl_X12_13 dX12_letterAt_7 (by first | assumption | rfl) (by rfl) ?_
    refine j_iconst G dX12_letterAt_10 ?_
    refine j_bipush G dX12_letterAt_11 (by decide) ?_
    refine j_iload_n G dX12_letterAt_13 rfl ?_
    refine j_imul G dX12_letterAt_14 ?_
    refine j_iload_n G dX12_letterAt_15 rfl ?_
    refine j_iadd G dX12_letterAt_16 ?_
    refine j_imul G dX12_letterAt_17 ?_
    refine j_iload_n G dX12_letterAt_18 rfl ?_
    refine j_iadd G dX12_letterAt_19 ?_
    refine j_pc (p2 := 20) rfl ?_
    refine j_iaload G dX12_letterAt_20 (by first | assumption | rfl) (by omega) (fun r_20 => ?_)
    try simp (disch := omega) only [up_same, up_cell, up_idx, cpm_at, fil_at] at r_20 ⊢
    refine j_goto G dX12_letterAt_21 (tgt := 28) (by decide) ?_
    refine j_ireturn G dX12_letterAt_28 ?_
    first | (rw [if_pos (by omega)]; exact ⟨rfl, rfl⟩) | (rw [if_neg (by omega)]; exact ⟨rfl, rfl⟩)
theorem m_cellAt (c k i : Nat) (h_c : c < 5) (h_k : k < 38) (h_i : i < 2) : CT (EM x) 0 yX12_cellAt [rf (EM x) 0, iv c, iv k, iv i] μ (rI (clI μ c k i) μ) := by
  unfold clI
  refine CT.ofJ (own := RX12) (cc := cX12_cellAt) (n := 4) (ret := (some .int)) (by decide) rfl cw_X12_cellAt (by decide) (Nat.le_of_ble_eq_true rfl) (ls := [some (rf (EM x) 0), some (iv c), some (iv k), some (iv i)]) rfl ?_
  intro X G
  refine j_iload_n G dX12_cellAt_0 rfl ?_
  refine j_bipush G dX12_cellAt_1 (by decide) ?_
  refine j_icmp_ge G dX12_cellAt_3 (tgt := 24) (by decide) (by omega) (by omega) (fun c_3 => ?_) (fun c_3 => ?_)
  · first | refine j_aload_n G dX12_cellAt_24 rfl ?_ | refine j_aload_nN G dX12_cellAt_24 rfl ?_
    refine j_getr G fl_X12_7 dX12_cellAt_25 (by first | assumption | rfl) (by rfl) ?_
    refine j_bipush G dX12_cellAt_28 (by decide) ?_
    refine j_iload_n G dX12_cellAt_30 rfl ?_
    refine j_imul G dX12_cellAt_31 ?_
    refine j_iload_n G dX12_cellAt_32 rfl ?_
    refine j_iadd G dX12_cellAt_33 ?_
    refine j_bipush G dX12_cellAt_34 (by decide) ?_
    refine j_isub G dX12_cellAt_36 ?_
    refine j_iaload G dX12_cellAt_37 (by first | assumption | rfl) (by omega) (fun r_37 => ?_)
    try simp (disch := omega) only [up_same, up_cell, up_idx, cpm_at, fil_at] at r_37 ⊢
    refine j_ireturn G dX12_cellAt_38 ?_
    first | (rw [if_pos (by omega)]; exact ⟨rfl, rfl⟩) | (rw [if_neg (by omega)]; exact ⟨rfl, rfl⟩)
  · first | refine j_aload_n G dX12_cellAt_6 rfl ?_ | refine j_aload_nN G dX12_cellAt_6 rfl ?_
    refine j_getr G fl_X12_19 dX12_cellAt_7 (by first | assumption | rfl) (by rfl) ?_
    refine j_iconst G dX12_cellAt_10 ?_
    refine j_bipush G dX12_cellAt_11 (by decide) ?_
    refine j_iload_n G dX12_cellAt_13 rfl ?_
    refine j_imul G dX12_cellAt_14 ?_
    refine j_iload_n G dX12_cellAt_15 rfl ?_
    refine j_iadd G dX12_cellAt_16 ?_
    refine j_imul G dX12_cellAt_17 ?_
    refine j_iload_n G dX12_cellAt_18 rfl ?_
    refine j_iadd G dX12_cellAt_19 ?_
    refine j_pc (p2 := 20) rfl ?_
    refine j_iaload G dX12_cellAt_20 (by first | assumption | rfl) (by omega) (fun r_20 => ?_)
    try simp (disch := omega) only [up_same, up_cell, up_idx, cpm_at, fil_at] at r_20 ⊢
    refine j_goto G dX12_cellAt_21 (tgt := 38) (by decide) ?_
    refine j_ireturn G dX12_cellAt_38 ?_
    first | (rw [if_pos (by omega)]; exact ⟨rfl, rfl⟩) | (rw [if_neg (by omega)]; exact ⟨rfl, rfl⟩)
theorem m_isItem (c k : Nat) (h_c : c < 5) (h_k : k < 38) : CT (EM x) 0 yX12_isItem [rf (EM x) 0, iv c, iv k] μ (rI (b2 (isI μ c k = true)) μ) := by
  unfold isI
  refine CT.ofJ (own := RX12) (cc := cX12_isItem) (n := 3) (ret := (some .boolean)) (by decide) rfl cw_X12_isItem (by decide) (Nat.le_of_ble_eq_true rfl) (ls := [some (rf (EM x) 0), some (iv c), some (iv k)]) rfl ?_
  intro X G
  refine j_iload_n G dX12_isItem_0 rfl ?_
  refine j_bipush G dX12_isItem_1 (by decide) ?_
  refine j_icmp_ge G dX12_isItem_3 (tgt := 24) (by decide) (by omega) (by omega) (fun c_3 => ?_) (fun c_3 => ?_)
  · first | refine j_aload_n G dX12_isItem_24 rfl ?_ | refine j_aload_nN G dX12_isItem_24 rfl ?_
    refine j_getr G fl_X12_7 dX12_isItem_25 (by first | assumption | rfl) (by rfl) ?_
    refine j_bipush G dX12_isItem_28 (by decide) ?_
    refine j_iload_n G dX12_isItem_30 rfl ?_
    refine j_imul G dX12_isItem_31 ?_
    refine j_iload_n G dX12_isItem_32 rfl ?_
    refine j_iadd G dX12_isItem_33 ?_
    refine j_bipush G dX12_isItem_34 (by decide) ?_
    refine j_isub G dX12_isItem_36 ?_
    refine j_iaload G dX12_isItem_37 (by first | assumption | rfl) (by omega) (fun r_37 => ?_)
    try simp (disch := omega) only [up_same, up_cell, up_idx, cpm_at, fil_at] at r_37 ⊢
    refine j_if_le G dX12_isItem_38 (tgt := 45) (by decide) (by omega) (fun c_38 => ?_) (fun c_38 => ?_)
    · refine j_iconst G dX12_isItem_45 ?_
      refine j_zreturn G dX12_isItem_46 (by first | exact b2_01 _ | omega) ?_
      first
      | (rw [if_pos (by omega), decide_eq_true (by omega)]; exact ⟨rfl, rfl⟩)
      | (rw [if_pos (by omega), decide_eq_false (by omega)]; exact ⟨rfl, rfl⟩)
      | (rw [if_neg (by omega), decide_eq_true (by omega)]; exact ⟨rfl, rfl⟩)
      | (rw [if_neg (by omega), decide_eq_false (by omega)]; exact ⟨rfl, rfl⟩)
    · refine j_iconst G dX12_isItem_41 ?_
      refine j_goto G dX12_isItem_42 (tgt := 46) (by decide) ?_
      refine j_zreturn G dX12_isItem_46 (by first | exact b2_01 _ | omega) ?_
      first
      | (rw [if_pos (by omega), decide_eq_true (by omega)]; exact ⟨rfl, rfl⟩)
      | (rw [if_pos (by omega), decide_eq_false (by omega)]; exact ⟨rfl, rfl⟩)
      | (rw [if_neg (by omega), decide_eq_true (by omega)]; exact ⟨rfl, rfl⟩)
      | (rw [if_neg (by omega), decide_eq_false (by omega)]; exact ⟨rfl, rfl⟩)
  · refine j_iload_n G dX12_isItem_6 rfl ?_
    first | refine j_aload_n G dX12_isItem_7 rfl ?_ | refine j_aload_nN G dX12_isItem_7 rfl ?_
    refine j_getr G fl_X12_25 dX12_isItem_8 (by first | assumption | rfl) (by rfl) ?_
    refine j_iload_n G dX12_isItem_11 rfl ?_
    refine j_iaload G dX12_isItem_12 (by first | assumption | rfl) (by omega) (fun r_12 => ?_)
    try simp (disch := omega) only [up_same, up_cell, up_idx, cpm_at, fil_at] at r_12 ⊢
    refine j_icmp_ge G dX12_isItem_13 (tgt := 20) (by decide) (by omega) (by omega) (fun c_13 => ?_) (fun c_13 => ?_)
    · refine j_iconst G dX12_isItem_20 ?_
      refine j_goto G dX12_isItem_21 (tgt := 46) (by decide) ?_
      refine j_zreturn G dX12_isItem_46 (by first | exact b2_01 _ | omega) ?_
      first
      | (rw [if_pos (by omega), decide_eq_true (by omega)]; exact ⟨rfl, rfl⟩)
      | (rw [if_pos (by omega), decide_eq_false (by omega)]; exact ⟨rfl, rfl⟩)
      | (rw [if_neg (by omega), decide_eq_true (by omega)]; exact ⟨rfl, rfl⟩)
      | (rw [if_neg (by omega), decide_eq_false (by omega)]; exact ⟨rfl, rfl⟩)
    · refine j_iconst G dX12_isItem_16 ?_
      refine j_goto G dX12_isItem_17 (tgt := 46) (by decide) ?_
      refine j_zreturn G dX12_isItem_46 (by first | exact b2_01 _ | omega) ?_
      first
      | (rw [if_pos (by omega), decide_eq_true (by omega)]; exact ⟨rfl, rfl⟩)
      | (rw [if_pos (by omega), decide_eq_false (by omega)]; exact ⟨rfl, rfl⟩)
      | (rw [if_neg (by omega), decide_eq_true (by omega)]; exact ⟨rfl, rfl⟩)
      | (rw [if_neg (by omega), decide_eq_false (by omega)]; exact ⟨rfl, rfl⟩)
theorem m_pointsOfI (c k w : Nat) (h_c : c < 5) (h_k : k < 38) (h_w : wdI μ c k = w) (h_w2 : w ≤ 2) (g : Nat → Nat) (h_g : ∀ i, i < w → clI μ c k i = g i ∧ g i < 64) : CT (EM x) 1 yX12_pointsOf [rf (EM x) 0, iv c, iv k] μ (rI (sm (fun i => pop (g i)) w) μ) := by
  refine CT.ofJ (own := RX12) (cc := cX12_pointsOf) (n := 5) (ret := (some .int)) (by decide) rfl cw_X12_pointsOf (by decide) (Nat.le_of_ble_eq_true rfl) (ls := [some (rf (EM x) 0), some (iv c), some (iv k), none, none]) rfl ?_
  intro X G
  refine j_iconst G dX12_pointsOf_0 ?_
  refine j_istore3 G dX12_pointsOf_1 (by decide) rfl ?_
  refine j_iconst G dX12_pointsOf_2 ?_
  refine j_istore4 G dX12_pointsOf_3 (by decide) rfl ?_
  refine j_pc (p2 := 5) rfl ?_
  refine down (Pr := fun i => JJ (EM x) X 1 (rI (sm (fun i => pop (g i)) w) μ) 5 5 [some (rf (EM x) 0), some (iv c), some (iv k), some (iv (sm (fun i => pop (g i)) i)), some (iv i)] [] μ) w ?_ 0 (Nat.zero_le _)
  intro i h_i ih
  refine j_iload G dX12_pointsOf_5 rfl ?_
  first | refine j_aload_n G dX12_pointsOf_7 rfl ?_ | refine j_aload_nN G dX12_pointsOf_7 rfl ?_
  refine j_iload_n G dX12_pointsOf_8 rfl ?_
  refine j_iload_n G dX12_pointsOf_9 rfl ?_
  refine j_callV G mv_X12_142 dX12_pointsOf_10 (m_wideOf c k h_c h_k) (by first | assumption | rfl) (by decide) (by rfl) rfl rfl (by exact Nat.le_of_ble_eq_true rfl) (by decide) (kI ?_)
  rw [h_w] at *
  refine j_icmp_ge G dX12_pointsOf_13 (tgt := 36) (by decide) (by omega) (by omega) (fun c_13 => ?_) (fun c_13 => ?_)
  · refine j_iload_n G dX12_pointsOf_36 rfl ?_
    refine j_ireturn G dX12_pointsOf_37 ?_
    obtain rfl : i = w := by omega
    exact ⟨rfl, rfl⟩
  · refine j_iload_n G dX12_pointsOf_16 rfl ?_
    first | refine j_aload_n G dX12_pointsOf_17 rfl ?_ | refine j_aload_nN G dX12_pointsOf_17 rfl ?_
    refine j_iload_n G dX12_pointsOf_18 rfl ?_
    refine j_iload_n G dX12_pointsOf_19 rfl ?_
    refine j_iload G dX12_pointsOf_20 rfl ?_
    refine j_callV G mv_X12_146 dX12_pointsOf_22 (m_cellAt c k i h_c h_k (by omega)) (by first | assumption | rfl) (by decide) (by rfl) rfl rfl (by exact Nat.le_of_ble_eq_true rfl) (by decide) (kI ?_)
    obtain ⟨h_g1, h_g2⟩ := h_g i (by omega)
    rw [h_g1]
    refine j_callS G ms_X12_150 dX12_pointsOf_25 (m_ones (g i) (by omega)) rfl rfl (by exact Nat.le_of_ble_eq_true rfl) (by decide) (kI ?_)
    rw [popN_26 (by omega)]
    refine j_iadd G dX12_pointsOf_28 ?_
    refine j_istore3 G dX12_pointsOf_29 (by decide) rfl ?_
    refine j_iinc4 G dX12_pointsOf_30 (by decide) rfl rfl ?_
    refine j_goto G dX12_pointsOf_33 (tgt := 5) (by decide) ?_
    refine j_pc (p2 := 5) rfl ?_
    exact ih (by omega)
theorem m_fitsI (c k p n z : Nat) (t lf : Nat → Int) (h_c : c < 5) (h_k : k < 38) (h_p : p < n) (h_n : n ≤ 10) (h_tn : μ 0 11 = n) (h_t : ∀ i : Nat, i < n → μ 9 i = t i) (h_z : isI μ c k = true → lnI μ c k = z ∧ (1 ≤ z ∧ z ≤ 4) ∧ ∀ i, i < z → ltI μ c k i = lf i ∧ (0 ≤ lf i ∧ lf i ≤ 25)) : CT (EM x) 1 yX12_fits [rf (EM x) 0, iv c, iv k, iv p] μ (rI (b2 ((isI μ c k && (decide ((p : Int) + z ≤ n) && eqB lf (fun i => t (p + i)) z)) = true)) μ) := by
  refine CT.ofJ (own := RX12) (cc := cX12_fits) (n := 6) (ret := (some .boolean)) (by decide) rfl cw_X12_fits (by decide) (Nat.le_of_ble_eq_true rfl) (ls := [some (rf (EM x) 0), some (iv c), some (iv k), some (iv p), none, none]) rfl ?_
  intro X G
  have h_ex : ∀ i : Int, JJ (EM x) X 1 (rI 0 μ) 6 34 [some (rf (EM x) 0), some (iv c), some (iv k), some (iv p), some (iv 0), some (iv i)] [] μ := by
    intro i
    refine j_iload G dX12_fits_34 rfl ?_
    refine j_if_eq G dX12_fits_36 (tgt := 83) (by decide) (by omega) (fun c_36 => ?_) (fun c_36 => ?_)
    · refine j_iload G dX12_fits_83 rfl ?_
      refine j_zreturn G dX12_fits_85 (by first | exact b2_01 _ | omega) ?_
      exact ⟨rfl, rfl⟩
    · omega
  have h_lp : lnI μ c k = z → (1 ≤ z ∧ z ≤ 4) → (∀ i, i < z → ltI μ c k i = lf i ∧ (0 ≤ lf i ∧ lf i ≤ 25)) → (p : Int) + z ≤ n → JJ (EM x) X 1 (rI (b2 (eqB lf (fun i => t (p + i)) z = true)) μ) 6 34 [some (rf (EM x) 0), some (iv c), some (iv k), some (iv p), some (iv 1), some (iv 0)] [] μ := by
    intro h_z1 h_z2 h_z3 h_pz
    refine down (Pr := fun i => (∀ j, j < i → lf j = t (p + j)) → JJ (EM x) X 1 (rI (b2 (eqB lf (fun i => t (p + i)) z = true)) μ) 6 34 [some (rf (EM x) 0), some (iv c), some (iv k), some (iv p), some (iv 1), some (iv i)] [] μ) z ?_ 0 (Nat.zero_le _) (fun j h_j => by omega)
    intro i h_i ih h_al
    refine j_iload G dX12_fits_34 rfl ?_
    refine j_if_eq G dX12_fits_36 (tgt := 83) (by decide) (by omega) (fun c_36 => ?_) (fun c_36 => ?_)
    · omega
    · refine j_iload G dX12_fits_39 rfl ?_
      first | refine j_aload_n G dX12_fits_41 rfl ?_ | refine j_aload_nN G dX12_fits_41 rfl ?_
      refine j_iload_n G dX12_fits_42 rfl ?_
      refine j_iload_n G dX12_fits_43 rfl ?_
      refine j_callV G mv_X12_158 dX12_fits_44 (m_longOf c k h_c h_k) (by first | assumption | rfl) (by decide) (by rfl) rfl rfl (by exact Nat.le_of_ble_eq_true rfl) (by decide) (kI ?_)
      rw [h_z1]
      refine j_icmp_ge G dX12_fits_47 (tgt := 83) (by decide) (by omega) (by omega) (fun c_47 => ?_) (fun c_47 => ?_)
      · refine j_iload G dX12_fits_83 rfl ?_
        refine j_zreturn G dX12_fits_85 (by first | exact b2_01 _ | omega) ?_
        obtain rfl : i = z := by omega
        rw [eqB_iff.2 h_al]
        exact ⟨rfl, rfl⟩
      · first | refine j_aload_n G dX12_fits_50 rfl ?_ | refine j_aload_nN G dX12_fits_50 rfl ?_
        refine j_iload_n G dX12_fits_51 rfl ?_
        refine j_iload_n G dX12_fits_52 rfl ?_
        refine j_iload G dX12_fits_53 rfl ?_
        refine j_callV G mv_X12_164 dX12_fits_55 (m_letterAt c k i h_c h_k (by omega)) (by first | assumption | rfl) (by decide) (by rfl) rfl rfl (by exact Nat.le_of_ble_eq_true rfl) (by decide) (kI ?_)
        rw [(h_z3 i (by omega)).1]
        have h_ri := (h_z3 i (by omega)).2
        have h_ti : μ 9 ((p : Int) + i) = t (p + i) := h_t (p + i) (by omega)
        first | refine j_aload_n G dX12_fits_58 rfl ?_ | refine j_aload_nN G dX12_fits_58 rfl ?_
        refine j_getr G fl_X12_34 dX12_fits_59 (by first | assumption | rfl) (by rfl) ?_
        refine j_iload_n G dX12_fits_62 rfl ?_
        refine j_iload G dX12_fits_63 rfl ?_
        refine j_iadd G dX12_fits_65 ?_
        refine j_iaload G dX12_fits_66 (by first | assumption | rfl) (by omega) (fun r_66 => ?_)
        try simp (disch := omega) only [up_same, up_cell, up_idx, cpm_at, fil_at] at r_66 ⊢
        refine j_pc (p2 := 67) rfl ?_
        rw [h_ti] at *
        refine j_icmp_ne G dX12_fits_67 (tgt := 74) (by decide) (by omega) (by omega) (fun c_67 => ?_) (fun c_67 => ?_)
        · refine j_iconst G dX12_fits_74 ?_
          refine j_istore4 G dX12_fits_75 (by decide) rfl ?_
          refine j_iinc5 G dX12_fits_77 (by decide) rfl rfl ?_
          refine j_goto G dX12_fits_80 (tgt := 34) (by decide) ?_
          refine j_pc (p2 := 34) rfl ?_
          first
          | (refine ih (by omega) (fun j h_j => ?_); by_cases h_e2 : j = i; (rw [h_e2]; exact c_67); exact h_al j (by omega))
          | (rw [show eqB lf (fun i => t (p + i)) z = false from Bool.eq_false_iff.2 (fun y => c_67 (eqB_iff.1 y i (by omega)))]; exact h_ex _)
        · refine j_iconst G dX12_fits_70 ?_
          refine j_goto G dX12_fits_71 (tgt := 75) (by decide) ?_
          refine j_istore4 G dX12_fits_75 (by decide) rfl ?_
          refine j_iinc5 G dX12_fits_77 (by decide) rfl rfl ?_
          refine j_goto G dX12_fits_80 (tgt := 34) (by decide) ?_
          refine j_pc (p2 := 34) rfl ?_
          first
          | (refine ih (by omega) (fun j h_j => ?_); by_cases h_e2 : j = i; (rw [h_e2]; exact c_67); exact h_al j (by omega))
          | (rw [show eqB lf (fun i => t (p + i)) z = false from Bool.eq_false_iff.2 (fun y => c_67 (eqB_iff.1 y i (by omega)))]; exact h_ex _)
  first | refine j_aload_n G dX12_fits_0 rfl ?_ | refine j_aload_nN G dX12_fits_0 rfl ?_
  refine j_iload_n G dX12_fits_1 rfl ?_
  refine j_iload_n G dX12_fits_2 rfl ?_
  refine j_callV G mv_X12_154 dX12_fits_3 (m_isItem c k h_c h_k) (by first | assumption | rfl) (by decide) (by rfl) rfl rfl (by exact Nat.le_of_ble_eq_true rfl) (by decide) (kI ?_)
  refine j_if_eqB G dX12_fits_6 (tgt := 28) (by decide)  (fun c_6 => ?_) (fun c_6 => ?_)
  · refine j_iconst G dX12_fits_28 ?_
    refine j_istore4 G dX12_fits_29 (by decide) rfl ?_
    refine j_iconst G dX12_fits_31 ?_
    refine j_istore5 G dX12_fits_32 (by decide) rfl ?_
    refine j_pc (p2 := 34) rfl ?_
    first
    | (rw [Bool.eq_false_iff.2 c_6, Bool.false_and]; exact h_ex 0)
    | (rw [decide_eq_false (show ¬ (p : Int) + z ≤ n by omega), Bool.false_and, Bool.and_false]; exact h_ex 0)
    | (rw [c_6, Bool.true_and, decide_eq_true (show (p : Int) + z ≤ n by omega), Bool.true_and]; exact h_lp h_z1 h_z2 h_z3 (by omega))
  · obtain ⟨h_z1, h_z2, h_z3⟩ := h_z c_6
    refine j_iload_n G dX12_fits_9 rfl ?_
    first | refine j_aload_n G dX12_fits_10 rfl ?_ | refine j_aload_nN G dX12_fits_10 rfl ?_
    refine j_iload_n G dX12_fits_11 rfl ?_
    refine j_iload_n G dX12_fits_12 rfl ?_
    refine j_callV G mv_X12_158 dX12_fits_13 (m_longOf c k h_c h_k) (by first | assumption | rfl) (by decide) (by rfl) rfl rfl (by exact Nat.le_of_ble_eq_true rfl) (by decide) (kI ?_)
    rw [h_z1]
    refine j_iadd G dX12_fits_16 ?_
    first | refine j_aload_n G dX12_fits_17 rfl ?_ | refine j_aload_nN G dX12_fits_17 rfl ?_
    refine j_geti G fl_X12_161 dX12_fits_18 11 rfl (by first | assumption | rfl) (by rfl) (fun r_18 => ?_)
    try simp (disch := omega) only [up_same, up_cell, up_idx, cpm_at, fil_at] at r_18 ⊢
    rw [h_tn]
    refine j_icmp_gt G dX12_fits_21 (tgt := 28) (by decide) (by omega) (by omega) (fun c_21 => ?_) (fun c_21 => ?_)
    · refine j_iconst G dX12_fits_28 ?_
      refine j_istore4 G dX12_fits_29 (by decide) rfl ?_
      refine j_iconst G dX12_fits_31 ?_
      refine j_istore5 G dX12_fits_32 (by decide) rfl ?_
      refine j_pc (p2 := 34) rfl ?_
      first
      | (rw [Bool.eq_false_iff.2 c_6, Bool.false_and]; exact h_ex 0)
      | (rw [decide_eq_false (show ¬ (p : Int) + z ≤ n by omega), Bool.false_and, Bool.and_false]; exact h_ex 0)
      | (rw [c_6, Bool.true_and, decide_eq_true (show (p : Int) + z ≤ n by omega), Bool.true_and]; exact h_lp h_z1 h_z2 h_z3 (by omega))
    · refine j_iconst G dX12_fits_24 ?_
      refine j_goto G dX12_fits_25 (tgt := 29) (by decide) ?_
      refine j_istore4 G dX12_fits_29 (by decide) rfl ?_
      refine j_iconst G dX12_fits_31 ?_
      refine j_istore5 G dX12_fits_32 (by decide) rfl ?_
      refine j_pc (p2 := 34) rfl ?_
      first
      | (rw [Bool.eq_false_iff.2 c_6, Bool.false_and]; exact h_ex 0)
      | (rw [decide_eq_false (show ¬ (p : Int) + z ≤ n by omega), Bool.false_and, Bool.and_false]; exact h_ex 0)
      | (rw [c_6, Bool.true_and, decide_eq_true (show (p : Int) + z ≤ n by omega), Bool.true_and]; exact h_lp h_z1 h_z2 h_z3 (by omega))
end WR
