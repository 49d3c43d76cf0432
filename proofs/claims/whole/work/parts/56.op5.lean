section OP5
variable {x x1 x2 : CX} {μ σ : MemT}
def cpS (σ : MemT) (s : Nat) : Int := sm (fun b => sm (fun e => σ (121 + 12 * s + b) e) 5) 8
theorem cpS_0 (σ : MemT) (s : Nat) : sm (fun b => sm (fun e => if (0 : Nat).testBit e = true then 0 else σ (121 + 12 * s + b) e) 5) 8 = cpS σ s := sm_cg 8 (fun b _ => sm_cg 5 (fun e _ => by simp))
theorem cpS_rg (h_w : WfSh σ) (s : Nat) (h_s : s < 6) : 0 ≤ cpS σ s ∧ cpS σ s ≤ 4000 := by
  have := sm_rg (g := fun b => sm (fun e => σ (121 + 12 * s + b) e) 5) (a := 0) (b := 500) 8 (fun b h_b => by
    have := sm_rg (g := fun e => σ (121 + 12 * s + b) e) (a := 0) (b := 100) 5 (fun e h_e => h_w s h_s b h_b e (by omega) (by omega))
    omega)
  unfold cpS
  omega
theorem c_allCopies (h_w : WfSh σ) : CT (EC x) 1 yX11_allCopies [rf (EC x) 0] σ (rI (sm (cpS σ) 6) σ) := by
  have h_ou : ∀ s : Nat, s ≤ 6 → 0 ≤ sm (cpS σ) s ∧ sm (cpS σ) s ≤ 24000 := by
    intro s h_s
    have := sm_rg (g := cpS σ) (a := 0) (b := 4000) s (fun i hi => cpS_rg h_w i (by omega))
    omega
  refine CT.ofJ (own := RX11) (cc := cX11_allCopies) (n := 3) (ret := (some .int)) (by decide) rfl cw_X11_allCopies (by decide) (Nat.le_of_ble_eq_true rfl) (ls := [some (rf (EC x) 0), none, none]) rfl ?_
  intro X G
  refine j_iconst G dX11_allCopies_0 ?_
  refine j_istore1 G dX11_allCopies_1 (by decide) rfl ?_
  refine j_iconst G dX11_allCopies_2 ?_
  refine j_istore2 G dX11_allCopies_3 (by decide) rfl ?_
  refine j_pc (p2 := 4) rfl ?_
  refine down (Pr := fun s => JJ (EC x) X 1 (rI (sm (cpS σ) 6) σ) 3 4 [some (rf (EC x) 0), some (iv (sm (cpS σ) s)), some (iv s)] [] σ) 6 ?_ 0 (by decide)
  intro s h_s ih
  have h_B := h_ou s h_s
  refine j_iload_n G dX11_allCopies_4 rfl ?_
  refine j_bipush G dX11_allCopies_5 (by decide) ?_
  refine j_icmp_ge G dX11_allCopies_7 (tgt := 29) (by decide) (by omega) (by omega) (fun c_7 => ?_) (fun c_7 => ?_)
  · refine j_iload_n G dX11_allCopies_29 rfl ?_
    refine j_ireturn G dX11_allCopies_30 ?_
    exact ⟨by rw [show s = 6 by omega], rfl⟩
  · refine j_iload_n G dX11_allCopies_10 rfl ?_
    first | refine j_aload_n G dX11_allCopies_11 rfl ?_ | refine j_aload_nN G dX11_allCopies_11 rfl ?_
    refine j_getr G fl_X11_67 dX11_allCopies_12 (by first | assumption | rfl) (by rfl) ?_
    refine j_iload_n G dX11_allCopies_15 rfl ?_
    have h_s6 : s < 6 := by omega
    obtain ⟨h_y1, h_y2, -⟩ := ly_school (x := x) h_s6
    refine j_aaload G dX11_allCopies_16 (by first | assumption | rfl) (by decide) (by omega) h_y1 ?_
    refine j_iconst G dX11_allCopies_17 ?_
    refine j_callV G mv_X11_248 dX11_allCopies_18 (s_beyond s h_s6 0 (by decide) h_w) (by first | assumption | rfl) (by decide) (by rfl) rfl rfl (by exact Nat.le_of_ble_eq_true rfl) (by decide) (kI ?_)
    rw [cpS_0]
    refine j_iadd G dX11_allCopies_21 ?_
    refine j_istore1 G dX11_allCopies_22 (by decide) rfl ?_
    refine j_iinc2 G dX11_allCopies_23 (by decide) rfl rfl ?_
    refine j_goto G dX11_allCopies_26 (tgt := 4) (by decide) ?_
    refine j_pc (p2 := 4) rfl ?_
    have h_z := ih (by omega)
    rw [sm_s] at h_z
    exact h_z
/-- the small facts -/
def tdS (σ : MemT) (w : Int) : Int := if w = 0 then σ 37 1 else if w = 1 then σ 39 1 else if w = 2 then σ 41 1 else if w = 3 then σ 57 3 else if w = 4 then σ 70 3 else if w = 5 then σ 0 8 else if w = 6 then sm (cpS σ) 6 else -2
theorem c_told10 (e : Nat) (h_e : e < 5) : CT (EC x) 2 yX11_told [rf (EC x) 0, iv (10 + e)] σ (rI (σ (4 + 7 * e) 3) σ) := by
  obtain ⟨h_z1, h_z2, h_z3, h_z4, h_z5, h_z6, h_z7⟩ := ly_code (x := x) h_e
  refine CT.ofJ (own := RX11) (cc := cX11_told) (n := 2) (ret := (some .int)) (by decide) rfl cw_X11_told (by decide) (Nat.le_of_ble_eq_true rfl) (ls := [some (rf (EC x) 0), some (iv (10 + e))]) rfl ?_
  intro X G
  refine j_iload_n G dX11_told_0 rfl ?_
  refine j_bipush G dX11_told_1 (by decide) ?_
  refine j_bipush G dX11_told_3 (by decide) ?_
  refine j_callS G ms_X11_92 dX11_told_5 (x_within _ _ _ (by omega) (by omega) (by omega)) rfl rfl (by exact Nat.le_of_ble_eq_true rfl) (by decide) (kI ?_)
  refine j_if_eqB G dX11_told_8 (tgt := 27) (by decide)  (fun c_8 => ?_) (fun c_8 => ?_)
  · omega
  · first | refine j_aload_n G dX11_told_11 rfl ?_ | refine j_aload_nN G dX11_told_11 rfl ?_
    refine j_getr G fl_X11_11 dX11_told_12 (by first | assumption | rfl) (by rfl) ?_
    refine j_iload_n G dX11_told_15 rfl ?_
    refine j_bipush G dX11_told_16 (by decide) ?_
    refine j_isub G dX11_told_18 ?_
    refine j_aaload G dX11_told_19 (by first | assumption | rfl) (by decide) (by omega) (by rw [show (10 : Int) + e - 10 = e by omega]; exact ly_codes h_e) ?_
    refine j_getr G fl_X11_112 dX11_told_20 (by first | assumption | rfl) (by rfl) ?_
    refine j_geti G fl_X11_164 dX11_told_23 3 rfl (by first | assumption | rfl) (by rfl) (fun r_23 => ?_)
    try simp (disch := omega) only [up_same, up_cell, up_idx, cpm_at, fil_at] at r_23 ⊢
    refine j_ireturn G dX11_told_26 ?_
    exact ⟨rfl, rfl⟩
theorem c_told20 (e : Nat) (h_e : e < 5) : CT (EC x) 2 yX11_told [rf (EC x) 0, iv (20 + e)] σ (rI (sm (fun l => if σ (3 + 7 * e) l = 0 then 0 else 1) 26) σ) := by
  obtain ⟨h_z1, h_z2, h_z3, h_z4, h_z5, h_z6, h_z7⟩ := ly_code (x := x) h_e
  refine CT.ofJ (own := RX11) (cc := cX11_told) (n := 2) (ret := (some .int)) (by decide) rfl cw_X11_told (by decide) (Nat.le_of_ble_eq_true rfl) (ls := [some (rf (EC x) 0), some (iv (20 + e))]) rfl ?_
  intro X G
  refine j_iload_n G dX11_told_0 rfl ?_
  refine j_bipush G dX11_told_1 (by decide) ?_
  refine j_bipush G dX11_told_3 (by decide) ?_
  refine j_callS G ms_X11_92 dX11_told_5 (x_within _ _ _ (by omega) (by omega) (by omega)) rfl rfl (by exact Nat.le_of_ble_eq_true rfl) (by decide) (kI ?_)
  refine j_if_eqB G dX11_told_8 (tgt := 27) (by decide)  (fun c_8 => ?_) (fun c_8 => ?_)
  · refine j_iload_n G dX11_told_27 rfl ?_
    refine j_bipush G dX11_told_28 (by decide) ?_
    refine j_bipush G dX11_told_30 (by decide) ?_
    refine j_callS G ms_X11_92 dX11_told_32 (x_within _ _ _ (by omega) (by omega) (by omega)) rfl rfl (by exact Nat.le_of_ble_eq_true rfl) (by decide) (kI ?_)
    refine j_if_eqB G dX11_told_35 (tgt := 51) (by decide)  (fun c_35 => ?_) (fun c_35 => ?_)
    · omega
    · first | refine j_aload_n G dX11_told_38 rfl ?_ | refine j_aload_nN G dX11_told_38 rfl ?_
      refine j_getr G fl_X11_11 dX11_told_39 (by first | assumption | rfl) (by rfl) ?_
      refine j_iload_n G dX11_told_42 rfl ?_
      refine j_bipush G dX11_told_43 (by decide) ?_
      refine j_isub G dX11_told_45 ?_
      refine j_aaload G dX11_told_46 (by first | assumption | rfl) (by decide) (by omega) (by rw [show (20 : Int) + e - 20 = e by omega]; exact ly_codes h_e) ?_
      refine j_callV G mv_X11_314 dX11_told_47 (k_letterCount (2 + 7 * e) (3 + 7 * e) (4 + 7 * e) (7 + 7 * e) (8 + 7 * e) h_z1 h_z2) (by first | assumption | rfl) (by decide) (by rfl) rfl rfl (by exact Nat.le_of_ble_eq_true rfl) (by decide) (kI ?_)
      refine j_ireturn G dX11_told_50 ?_
      exact ⟨rfl, rfl⟩
  · omega
theorem c_told (w : Int) (h_1 : (-2147483648 ≤ w ∧ w < 2147483648)) (h_a : ¬ (10 ≤ w ∧ w ≤ 14)) (h_b : ¬ (20 ≤ w ∧ w ≤ 24)) (h_w : WfSh σ) : CT (EC x) 2 yX11_told [rf (EC x) 0, iv w] σ (rI (tdS σ w) σ) := by
  unfold tdS
  refine CT.ofJ (own := RX11) (cc := cX11_told) (n := 2) (ret := (some .int)) (by decide) rfl cw_X11_told (by decide) (Nat.le_of_ble_eq_true rfl) (ls := [some (rf (EC x) 0), some (iv w)]) rfl ?_
  intro X G
  refine j_iload_n G dX11_told_0 rfl ?_
  refine j_bipush G dX11_told_1 (by decide) ?_
  refine j_bipush G dX11_told_3 (by decide) ?_
  refine j_callS G ms_X11_92 dX11_told_5 (x_within _ _ _ (by omega) (by omega) (by omega)) rfl rfl (by exact Nat.le_of_ble_eq_true rfl) (by decide) (kI ?_)
  refine j_if_eqB G dX11_told_8 (tgt := 27) (by decide)  (fun c_8 => ?_) (fun c_8 => ?_)
  · refine j_iload_n G dX11_told_27 rfl ?_
    refine j_bipush G dX11_told_28 (by decide) ?_
    refine j_bipush G dX11_told_30 (by decide) ?_
    refine j_callS G ms_X11_92 dX11_told_32 (x_within _ _ _ (by omega) (by omega) (by omega)) rfl rfl (by exact Nat.le_of_ble_eq_true rfl) (by decide) (kI ?_)
    refine j_if_eqB G dX11_told_35 (tgt := 51) (by decide)  (fun c_35 => ?_) (fun c_35 => ?_)
    · refine j_iload_n G dX11_told_51 rfl ?_
      by_cases s_52_0 : w = 0
      · refine j_tableIn G dX11_told_52 (tgt := 96) (by omega) (by omega) (by rw [s_52_0]; rfl) (by decide) ?_
        first | refine j_aload_n G dX11_told_96 rfl ?_ | refine j_aload_nN G dX11_told_96 rfl ?_
        refine j_getr G fl_X11_21 dX11_told_97 (by first | assumption | rfl) (by rfl) ?_
        refine j_geti G fl_X11_119 dX11_told_100 1 rfl (by first | assumption | rfl) (by rfl) (fun r_100 => ?_)
        try simp (disch := omega) only [up_same, up_cell, up_idx, cpm_at, fil_at] at r_100 ⊢
        refine j_ireturn G dX11_told_103 ?_
        exact ⟨by repeat' split <;> first | rfl | omega, rfl⟩
      by_cases s_52_1 : w = 1
      · refine j_tableIn G dX11_told_52 (tgt := 104) (by omega) (by omega) (by rw [s_52_1]; rfl) (by decide) ?_
        first | refine j_aload_n G dX11_told_104 rfl ?_ | refine j_aload_nN G dX11_told_104 rfl ?_
        refine j_getr G fl_X11_25 dX11_told_105 (by first | assumption | rfl) (by rfl) ?_
        refine j_geti G fl_X11_119 dX11_told_108 1 rfl (by first | assumption | rfl) (by rfl) (fun r_108 => ?_)
        try simp (disch := omega) only [up_same, up_cell, up_idx, cpm_at, fil_at] at r_108 ⊢
        refine j_ireturn G dX11_told_111 ?_
        exact ⟨by repeat' split <;> first | rfl | omega, rfl⟩
      by_cases s_52_2 : w = 2
      · refine j_tableIn G dX11_told_52 (tgt := 112) (by omega) (by omega) (by rw [s_52_2]; rfl) (by decide) ?_
        first | refine j_aload_n G dX11_told_112 rfl ?_ | refine j_aload_nN G dX11_told_112 rfl ?_
        refine j_getr G fl_X11_28 dX11_told_113 (by first | assumption | rfl) (by rfl) ?_
        refine j_geti G fl_X11_119 dX11_told_116 1 rfl (by first | assumption | rfl) (by rfl) (fun r_116 => ?_)
        try simp (disch := omega) only [up_same, up_cell, up_idx, cpm_at, fil_at] at r_116 ⊢
        refine j_ireturn G dX11_told_119 ?_
        exact ⟨by repeat' split <;> first | rfl | omega, rfl⟩
      by_cases s_52_3 : w = 3
      · refine j_tableIn G dX11_told_52 (tgt := 120) (by omega) (by omega) (by rw [s_52_3]; rfl) (by decide) ?_
        first | refine j_aload_n G dX11_told_120 rfl ?_ | refine j_aload_nN G dX11_told_120 rfl ?_
        refine j_getr G fl_X11_50 dX11_told_121 (by first | assumption | rfl) (by rfl) ?_
        refine j_getr G fl_X11_157 dX11_told_124 (by first | assumption | rfl) (by rfl) ?_
        refine j_geti G fl_X11_164 dX11_told_127 3 rfl (by first | assumption | rfl) (by rfl) (fun r_127 => ?_)
        try simp (disch := omega) only [up_same, up_cell, up_idx, cpm_at, fil_at] at r_127 ⊢
        refine j_ireturn G dX11_told_130 ?_
        exact ⟨by repeat' split <;> first | rfl | omega, rfl⟩
      by_cases s_52_4 : w = 4
      · refine j_tableIn G dX11_told_52 (tgt := 131) (by omega) (by omega) (by rw [s_52_4]; rfl) (by decide) ?_
        first | refine j_aload_n G dX11_told_131 rfl ?_ | refine j_aload_nN G dX11_told_131 rfl ?_
        refine j_getr G fl_X11_50 dX11_told_132 (by first | assumption | rfl) (by rfl) ?_
        refine j_getr G fl_X11_187 dX11_told_135 (by first | assumption | rfl) (by rfl) ?_
        refine j_geti G fl_X11_164 dX11_told_138 3 rfl (by first | assumption | rfl) (by rfl) (fun r_138 => ?_)
        try simp (disch := omega) only [up_same, up_cell, up_idx, cpm_at, fil_at] at r_138 ⊢
        refine j_ireturn G dX11_told_141 ?_
        exact ⟨by repeat' split <;> first | rfl | omega, rfl⟩
      by_cases s_52_5 : w = 5
      · refine j_tableIn G dX11_told_52 (tgt := 142) (by omega) (by omega) (by rw [s_52_5]; rfl) (by decide) ?_
        first | refine j_aload_n G dX11_told_142 rfl ?_ | refine j_aload_nN G dX11_told_142 rfl ?_
        refine j_geti G fl_X11_61 dX11_told_143 8 rfl (by first | assumption | rfl) (by rfl) (fun r_143 => ?_)
        try simp (disch := omega) only [up_same, up_cell, up_idx, cpm_at, fil_at] at r_143 ⊢
        refine j_ireturn G dX11_told_146 ?_
        exact ⟨by repeat' split <;> first | rfl | omega, rfl⟩
      by_cases s_52_6 : w = 6
      · refine j_tableIn G dX11_told_52 (tgt := 147) (by omega) (by omega) (by rw [s_52_6]; rfl) (by decide) ?_
        first | refine j_aload_n G dX11_told_147 rfl ?_ | refine j_aload_nN G dX11_told_147 rfl ?_
        refine j_callV G mv_X11_317 dX11_told_148 (c_allCopies h_w) (by first | assumption | rfl) (by decide) (by rfl) rfl rfl (by exact Nat.le_of_ble_eq_true rfl) (by decide) (kI ?_)
        refine j_ireturn G dX11_told_151 ?_
        exact ⟨by repeat' split <;> first | rfl | omega, rfl⟩
      refine j_tableOut G dX11_told_52 (tgt := 152) (by omega) (by omega) (by decide) ?_
      refine j_bipush G dX11_told_152 (by decide) ?_
      refine j_ireturn G dX11_told_154 ?_
      exact ⟨by repeat' split <;> first | rfl | omega, rfl⟩
    · omega
  · omega
theorem m_told10 (w : Int) (h_w : 10 ≤ w ∧ w ≤ 14) : CT (EM x) 1 yX12_told [rf (EM x) 0, iv w] μ (rI (μ 6 (w - 10)) μ) := by
  refine CT.ofJ (own := RX12) (cc := cX12_told) (n := 4) (ret := (some .int)) (by decide) rfl cw_X12_told (by decide) (Nat.le_of_ble_eq_true rfl) (ls := [some (rf (EM x) 0), some (iv w), none, none]) rfl ?_
  intro X G
  refine j_iload_n G dX12_told_0 rfl ?_
  refine j_i2l G (by omega) dX12_told_1 ?_
  refine j_ldc2I G (10) kl_X12_273 dX12_told_2 (by decide) ?_
  refine j_ldc2I G (14) kl_X12_275 dX12_told_5 (by decide) ?_
  refine j_callS G ms_X12_115 dX12_told_8 (m_in _ _ _ (by omega) (by omega) (by omega)) rfl rfl (by exact Nat.le_of_ble_eq_true rfl) (by decide) (kI ?_)
  refine j_if_eqB G dX12_told_11 (tgt := 24) (by decide)  (fun c_11 => ?_) (fun c_11 => ?_)
  · omega
  · first | refine j_aload_n G dX12_told_14 rfl ?_ | refine j_aload_nN G dX12_told_14 rfl ?_
    refine j_getr G fl_X12_25 dX12_told_15 (by first | assumption | rfl) (by rfl) ?_
    refine j_iload_n G dX12_told_18 rfl ?_
    refine j_bipush G dX12_told_19 (by decide) ?_
    refine j_isub G dX12_told_21 ?_
    refine j_iaload G dX12_told_22 (by first | assumption | rfl) (by omega) (fun r_22 => ?_)
    try simp (disch := omega) only [up_same, up_cell, up_idx, cpm_at, fil_at] at r_22 ⊢
    refine j_ireturn G dX12_told_23 ?_
    exact ⟨rfl, rfl⟩
theorem m_told20 (w : Int) (h_w : 20 ≤ w ∧ w ≤ 24) : CT (EM x) 1 yX12_told [rf (EM x) 0, iv w] μ (rI (sm (fun l => if 0 < μ 1 (26 * (w - 20) + l) then 1 else 0) 26) μ) := by
  refine CT.ofJ (own := RX12) (cc := cX12_told) (n := 4) (ret := (some .int)) (by decide) rfl cw_X12_told (by decide) (Nat.le_of_ble_eq_true rfl) (ls := [some (rf (EM x) 0), some (iv w), none, none]) rfl ?_
  intro X G
  refine j_iload_n G dX12_told_0 rfl ?_
  refine j_i2l G (by omega) dX12_told_1 ?_
  refine j_ldc2I G (10) kl_X12_273 dX12_told_2 (by decide) ?_
  refine j_ldc2I G (14) kl_X12_275 dX12_told_5 (by decide) ?_
  refine j_callS G ms_X12_115 dX12_told_8 (m_in _ _ _ (by omega) (by omega) (by omega)) rfl rfl (by exact Nat.le_of_ble_eq_true rfl) (by decide) (kI ?_)
  refine j_if_eqB G dX12_told_11 (tgt := 24) (by decide)  (fun c_11 => ?_) (fun c_11 => ?_)
  · refine j_iconst G dX12_told_24 ?_
    refine j_istore2 G dX12_told_25 (by decide) rfl ?_
    refine j_iload_n G dX12_told_26 rfl ?_
    refine j_i2l G (by omega) dX12_told_27 ?_
    refine j_ldc2I G (20) kl_X12_365 dX12_told_28 (by decide) ?_
    refine j_ldc2I G (24) kl_X12_367 dX12_told_31 (by decide) ?_
    refine j_callS G ms_X12_115 dX12_told_34 (m_in _ _ _ (by omega) (by omega) (by omega)) rfl rfl (by exact Nat.le_of_ble_eq_true rfl) (by decide) (kI ?_)
    refine j_if_eqB G dX12_told_37 (tgt := 81) (by decide)  (fun c_37 => ?_) (fun c_37 => ?_)
    · omega
    · refine j_iconst G dX12_told_40 ?_
      refine j_istore3 G dX12_told_41 (by decide) rfl ?_
      refine j_pc (p2 := 42) rfl ?_
      refine down (Pr := fun l => JJ (EM x) X 1 (rI (sm (fun l => if 0 < μ 1 (26 * (w - 20) + l) then 1 else 0) 26) μ) 4 42 [some (rf (EM x) 0), some (iv w), some (iv (sm (fun l => if 0 < μ 1 (26 * (w - 20) + l) then 1 else 0) l)), some (iv l)] [] μ) 26 ?_ 0 (by decide)
      intro l h_l ih
      refine j_iload_n G dX12_told_42 rfl ?_
      refine j_bipush G dX12_told_43 (by decide) ?_
      refine j_icmp_ge G dX12_told_45 (tgt := 79) (by decide) (by omega) (by omega) (fun c_45 => ?_) (fun c_45 => ?_)
      · refine j_iload_n G dX12_told_79 rfl ?_
        refine j_ireturn G dX12_told_80 ?_
        exact ⟨by rw [show l = 26 by omega], rfl⟩
      · refine j_iload_n G dX12_told_48 rfl ?_
        first | refine j_aload_n G dX12_told_49 rfl ?_ | refine j_aload_nN G dX12_told_49 rfl ?_
        refine j_getr G fl_X12_7 dX12_told_50 (by first | assumption | rfl) (by rfl) ?_
        refine j_bipush G dX12_told_53 (by decide) ?_
        refine j_iload_n G dX12_told_55 rfl ?_
        refine j_bipush G dX12_told_56 (by decide) ?_
        refine j_isub G dX12_told_58 ?_
        refine j_imul G dX12_told_59 ?_
        refine j_iload_n G dX12_told_60 rfl ?_
        refine j_iadd G dX12_told_61 ?_
        refine j_iaload G dX12_told_62 (by first | assumption | rfl) (by omega) (fun r_62 => ?_)
        try simp (disch := omega) only [up_same, up_cell, up_idx, cpm_at, fil_at] at r_62 ⊢
        refine j_pc (p2 := 63) rfl ?_
        refine j_if_le G dX12_told_63 (tgt := 70) (by decide) (by omega) (fun c_63 => ?_) (fun c_63 => ?_)
        · refine j_iconst G dX12_told_70 ?_
          refine j_iadd G dX12_told_71 ?_
          refine j_istore2 G dX12_told_72 (by decide) rfl ?_
          refine j_iinc3 G dX12_told_73 (by decide) rfl rfl ?_
          refine j_goto G dX12_told_76 (tgt := 42) (by decide) ?_
          refine j_pc (p2 := 42) rfl ?_
          have h_z := ih (by omega)
          rw [sm_s (n := l)] at h_z
          first | (rw [if_pos (by omega)] at h_z; exact h_z) | (rw [if_neg (by omega)] at h_z; exact h_z)
        · refine j_iconst G dX12_told_66 ?_
          refine j_goto G dX12_told_67 (tgt := 71) (by decide) ?_
          refine j_iadd G dX12_told_71 ?_
          refine j_istore2 G dX12_told_72 (by decide) rfl ?_
          refine j_iinc3 G dX12_told_73 (by decide) rfl rfl ?_
          refine j_goto G dX12_told_76 (tgt := 42) (by decide) ?_
          refine j_pc (p2 := 42) rfl ?_
          have h_z := ih (by omega)
          rw [sm_s (n := l)] at h_z
          first | (rw [if_pos (by omega)] at h_z; exact h_z) | (rw [if_neg (by omega)] at h_z; exact h_z)
  · omega
theorem m_told (w : Int) (h_1 : (-2147483648 ≤ w ∧ w < 2147483648)) (h_a : ¬ (10 ≤ w ∧ w ≤ 14)) (h_b : ¬ (20 ≤ w ∧ w ≤ 24)) (h_w : ∀ n : Nat, n ≤ 240 → 0 ≤ sm (fun k => μ 26 k) n ∧ sm (fun k => μ 26 k) n ≤ 24000) : CT (EM x) 1 yX12_told [rf (EM x) 0, iv w] μ (rI (if w = 0 then μ 0 7 else if w = 1 then μ 0 9 else if w = 2 then μ 0 42 else if w = 3 then μ 0 22 else if w = 4 then μ 0 28 else if w = 5 then μ 0 33 else if w = 6 then sm (fun k => μ 26 k) 240 else -2) μ) := by
  refine CT.ofJ (own := RX12) (cc := cX12_told) (n := 4) (ret := (some .int)) (by decide) rfl cw_X12_told (by decide) (Nat.le_of_ble_eq_true rfl) (ls := [some (rf (EM x) 0), some (iv w), none, none]) rfl ?_
  intro X G
  refine j_iload_n G dX12_told_0 rfl ?_
  refine j_i2l G (by omega) dX12_told_1 ?_
  refine j_ldc2I G (10) kl_X12_273 dX12_told_2 (by decide) ?_
  refine j_ldc2I G (14) kl_X12_275 dX12_told_5 (by decide) ?_
  refine j_callS G ms_X12_115 dX12_told_8 (m_in _ _ _ (by omega) (by omega) (by omega)) rfl rfl (by exact Nat.le_of_ble_eq_true rfl) (by decide) (kI ?_)
  refine j_if_eqB G dX12_told_11 (tgt := 24) (by decide)  (fun c_11 => ?_) (fun c_11 => ?_)
  · refine j_iconst G dX12_told_24 ?_
    refine j_istore2 G dX12_told_25 (by decide) rfl ?_
    refine j_iload_n G dX12_told_26 rfl ?_
    refine j_i2l G (by omega) dX12_told_27 ?_
    refine j_ldc2I G (20) kl_X12_365 dX12_told_28 (by decide) ?_
    refine j_ldc2I G (24) kl_X12_367 dX12_told_31 (by decide) ?_
    refine j_callS G ms_X12_115 dX12_told_34 (m_in _ _ _ (by omega) (by omega) (by omega)) rfl rfl (by exact Nat.le_of_ble_eq_true rfl) (by decide) (kI ?_)
    refine j_if_eqB G dX12_told_37 (tgt := 81) (by decide)  (fun c_37 => ?_) (fun c_37 => ?_)
    · refine j_iconst G dX12_told_81 ?_
      refine j_istore3 G dX12_told_82 (by decide) rfl ?_
      refine j_pc (p2 := 83) rfl ?_
      generalize h_pst : rI (if w = 0 then μ 0 7 else if w = 1 then μ 0 9 else if w = 2 then μ 0 42 else if w = 3 then μ 0 22 else if w = 4 then μ 0 28 else if w = 5 then μ 0 33 else if w = 6 then sm (fun k => μ 26 k) 240 else -2) μ = pst
      refine down (Pr := fun k => JJ (EM x) X 1 pst 4 83 [some (rf (EM x) 0), some (iv w), some (iv (sm (fun k => μ 26 k) k)), some (iv k)] [] μ) 240 ?_ 0 (by decide)
      intro k h_k ih
      have h_B := h_w k h_k
      refine j_iload_n G dX12_told_83 rfl ?_
      refine j_sipush G dX12_told_84 (by decide) ?_
      refine j_icmp_ge G dX12_told_87 (tgt := 105) (by decide) (by omega) (by omega) (fun c_87 => ?_) (fun c_87 => ?_)
      · refine j_iload_n G dX12_told_105 rfl ?_
        by_cases s_106_0 : w = 0
        · refine j_tableIn G dX12_told_106 (tgt := 148) (by omega) (by omega) (by rw [s_106_0]; rfl) (by decide) ?_
          first | refine j_aload_n G dX12_told_148 rfl ?_ | refine j_aload_nN G dX12_told_148 rfl ?_
          refine j_geti G fl_X12_130 dX12_told_149 7 rfl (by first | assumption | rfl) (by rfl) (fun r_149 => ?_)
          try simp (disch := omega) only [up_same, up_cell, up_idx, cpm_at, fil_at] at r_149 ⊢
          refine j_ireturn G dX12_told_152 ?_
          obtain rfl : k = 240 := by omega
          rw [← h_pst]
          exact ⟨by repeat' split <;> first | rfl | omega, rfl⟩
        by_cases s_106_1 : w = 1
        · refine j_tableIn G dX12_told_106 (tgt := 153) (by omega) (by omega) (by rw [s_106_1]; rfl) (by decide) ?_
          first | refine j_aload_n G dX12_told_153 rfl ?_ | refine j_aload_nN G dX12_told_153 rfl ?_
          refine j_geti G fl_X12_134 dX12_told_154 9 rfl (by first | assumption | rfl) (by rfl) (fun r_154 => ?_)
          try simp (disch := omega) only [up_same, up_cell, up_idx, cpm_at, fil_at] at r_154 ⊢
          refine j_ireturn G dX12_told_157 ?_
          obtain rfl : k = 240 := by omega
          rw [← h_pst]
          exact ⟨by repeat' split <;> first | rfl | omega, rfl⟩
        by_cases s_106_2 : w = 2
        · refine j_tableIn G dX12_told_106 (tgt := 158) (by omega) (by omega) (by rw [s_106_2]; rfl) (by decide) ?_
          first | refine j_aload_n G dX12_told_158 rfl ?_ | refine j_aload_nN G dX12_told_158 rfl ?_
          refine j_geti G fl_X12_137 dX12_told_159 42 rfl (by first | assumption | rfl) (by rfl) (fun r_159 => ?_)
          try simp (disch := omega) only [up_same, up_cell, up_idx, cpm_at, fil_at] at r_159 ⊢
          refine j_ireturn G dX12_told_162 ?_
          obtain rfl : k = 240 := by omega
          rw [← h_pst]
          exact ⟨by repeat' split <;> first | rfl | omega, rfl⟩
        by_cases s_106_3 : w = 3
        · refine j_tableIn G dX12_told_106 (tgt := 163) (by omega) (by omega) (by rw [s_106_3]; rfl) (by decide) ?_
          first | refine j_aload_n G dX12_told_163 rfl ?_ | refine j_aload_nN G dX12_told_163 rfl ?_
          refine j_geti G fl_X12_213 dX12_told_164 22 rfl (by first | assumption | rfl) (by rfl) (fun r_164 => ?_)
          try simp (disch := omega) only [up_same, up_cell, up_idx, cpm_at, fil_at] at r_164 ⊢
          refine j_ireturn G dX12_told_167 ?_
          obtain rfl : k = 240 := by omega
          rw [← h_pst]
          exact ⟨by repeat' split <;> first | rfl | omega, rfl⟩
        by_cases s_106_4 : w = 4
        · refine j_tableIn G dX12_told_106 (tgt := 168) (by omega) (by omega) (by rw [s_106_4]; rfl) (by decide) ?_
          first | refine j_aload_n G dX12_told_168 rfl ?_ | refine j_aload_nN G dX12_told_168 rfl ?_
          refine j_geti G fl_X12_235 dX12_told_169 28 rfl (by first | assumption | rfl) (by rfl) (fun r_169 => ?_)
          try simp (disch := omega) only [up_same, up_cell, up_idx, cpm_at, fil_at] at r_169 ⊢
          refine j_ireturn G dX12_told_172 ?_
          obtain rfl : k = 240 := by omega
          rw [← h_pst]
          exact ⟨by repeat' split <;> first | rfl | omega, rfl⟩
        by_cases s_106_5 : w = 5
        · refine j_tableIn G dX12_told_106 (tgt := 173) (by omega) (by omega) (by rw [s_106_5]; rfl) (by decide) ?_
          first | refine j_aload_n G dX12_told_173 rfl ?_ | refine j_aload_nN G dX12_told_173 rfl ?_
          refine j_geti G fl_X12_249 dX12_told_174 33 rfl (by first | assumption | rfl) (by rfl) (fun r_174 => ?_)
          try simp (disch := omega) only [up_same, up_cell, up_idx, cpm_at, fil_at] at r_174 ⊢
          refine j_ireturn G dX12_told_177 ?_
          obtain rfl : k = 240 := by omega
          rw [← h_pst]
          exact ⟨by repeat' split <;> first | rfl | omega, rfl⟩
        by_cases s_106_6 : w = 6
        · refine j_tableIn G dX12_told_106 (tgt := 178) (by omega) (by omega) (by rw [s_106_6]; rfl) (by decide) ?_
          refine j_iload_n G dX12_told_178 rfl ?_
          refine j_ireturn G dX12_told_179 ?_
          obtain rfl : k = 240 := by omega
          rw [← h_pst, s_106_6]
          exact ⟨by simp, rfl⟩
        refine j_tableOut G dX12_told_106 (tgt := 180) (by omega) (by omega) (by decide) ?_
        refine j_bipush G dX12_told_180 (by decide) ?_
        refine j_ireturn G dX12_told_182 ?_
        obtain rfl : k = 240 := by omega
        rw [← h_pst]
        exact ⟨by repeat' split <;> first | rfl | omega, rfl⟩
      · refine j_iload_n G dX12_told_90 rfl ?_
        first | refine j_aload_n G dX12_told_91 rfl ?_ | refine j_aload_nN G dX12_told_91 rfl ?_
        refine j_getr G fl_X12_86 dX12_told_92 (by first | assumption | rfl) (by rfl) ?_
        refine j_iload_n G dX12_told_95 rfl ?_
        refine j_iaload G dX12_told_96 (by first | assumption | rfl) (by omega) (fun r_96 => ?_)
        try simp (disch := omega) only [up_same, up_cell, up_idx, cpm_at, fil_at] at r_96 ⊢
        refine j_iadd G dX12_told_97 ?_
        refine j_istore2 G dX12_told_98 (by decide) rfl ?_
        refine j_iinc3 G dX12_told_99 (by decide) rfl rfl ?_
        refine j_goto G dX12_told_102 (tgt := 83) (by decide) ?_
        refine j_pc (p2 := 83) rfl ?_
        have h_z := ih (by omega)
        rw [sm_s] at h_z
        exact h_z
    · omega
  · omega
theorem op_told (w : Int) (h_1 : (-2147483648 ≤ w ∧ w < 2147483648)) : OP x1 x2 yX11_told yX12_told [iv w] := by
  apply OP.same
  intro σ μ hw hr
  obtain ⟨w1, w2, w3, w4, w5, w6, w7, w8⟩ := id hw
  obtain ⟨r1, r2, r3, r4, r5, r6, r7, r8⟩ := id hr
  by_cases h_a : 10 ≤ w ∧ w ≤ 14
  · obtain ⟨e, h_e, h_we⟩ := nat_of (n := 4) (z := w - 10) (by omega)
    obtain rfl : w = 10 + e := by omega
    refine ⟨_, _, _, (by decide), (by decide), rI_P (c_told10 (x := x1) (σ := σ) e (by omega)) ⟨rfl, KC.rf _⟩, rI_P (m_told10 (x := x2) (μ := μ) _ h_a) ⟨?_, KM.rf _⟩⟩
    rw [h_we]
    exact (r1 e (by omega)).2.1
  · by_cases h_b : 20 ≤ w ∧ w ≤ 24
    · obtain ⟨e, h_e, h_we⟩ := nat_of (n := 4) (z := w - 20) (by omega)
      obtain rfl : w = 20 + e := by omega
      refine ⟨_, _, _, (by decide), (by decide), rI_P (c_told20 (x := x1) (σ := σ) e (by omega)) ⟨rfl, KC.rf _⟩, rI_P (m_told20 (x := x2) (μ := μ) _ h_b) ⟨?_, KM.rf _⟩⟩
      refine sm_cg 26 (fun l h_l => ?_)
      have h_w := (w1 e (by omega)).1 l (by omega) (by omega)
      rw [h_we, (r1 e (by omega)).1 l (by omega) (by omega)]
      by_cases h_q : σ (3 + 7 * e) l = 0
      · rw [if_neg (by omega), if_pos h_q]
      · rw [if_pos (by omega), if_neg h_q]
    · have h_cell : ∀ k : Nat, k < 240 → μ 26 k = σ (121 + 12 * (k / 40) + k % 40 / 5) ((k % 5 : Nat) : Int) := by
        intro k h_k
        have := r6 (k / 40) (by omega) (k % 40 / 5) (by omega) ((k % 5 : Nat) : Int) (by omega) (by omega)
        rw [show (40 : Int) * ((k / 40 : Nat) : Int) + 5 * ((k % 40 / 5 : Nat) : Int) + ((k % 5 : Nat) : Int) = k by omega] at this
        exact this
      have h_rg : ∀ n : Nat, n ≤ 240 → 0 ≤ sm (fun k => μ 26 k) n ∧ sm (fun k => μ 26 k) n ≤ 24000 := by
        intro n h_n
        have := sm_rg (g := fun k => μ 26 k) (a := 0) (b := 100) n (fun k h_k => by
          rw [h_cell k (by omega)]
          exact w6 (k / 40) (by omega) (k % 40 / 5) (by omega) ((k % 5 : Nat) : Int) (by omega) (by omega))
        omega
      refine ⟨_, _, _, (by decide), (by decide), rI_P (c_told (x := x1) (σ := σ) w h_1 h_a h_b w6) ⟨rfl, KC.rf _⟩, rI_P (m_told (x := x2) (μ := μ) w h_1 h_a h_b h_rg) ⟨?_, KM.rf _⟩⟩
      have h_sum : sm (fun k => μ 26 k) 240 = sm (cpS σ) 6 := by
        rw [show 240 = 40 * 6 from rfl, sm_flat]
        refine sm_cg 6 (fun s h_s => ?_)
        rw [show (40 : Nat) = 5 * 8 from rfl, sm_flat]
        unfold cpS
        refine sm_cg 8 (fun b h_b => sm_cg 5 (fun e h_e => ?_))
        rw [← r6 s h_s b h_b e (by omega) (by omega)]
        congr 1
        omega
      unfold tdS
      rw [h_sum, r2.1, r2.2.2.1, r2.2.2.2.2.1, r3.1, r4.1, r5.1]
end OP5
