section OP3
variable {x x1 x2 : CX} {μ σ : MemT}
theorem m_readBy (r s : Nat) (h_r : r < 20) (h_s : s < 6) (h_sc : μ 23 r = s) : CT (EM x) 2 yX12_readBy [rf (EM x) 0, iv r] μ (rI (bo (fun b => anyB (fun e => decide (0 < μ 25 (5 * r + e)) && decide (0 < μ 26 (40 * s + 5 * b + e))) 5) 8) μ) := by
  refine CT.ofJ (own := RX12) (cc := cX12_readBy) (n := 4) (ret := (some .int)) (by decide) rfl cw_X12_readBy (by decide) (Nat.le_of_ble_eq_true rfl) (ls := [some (rf (EM x) 0), some (iv r), none, none]) rfl ?_
  intro X G
  refine j_iconst G dX12_readBy_0 ?_
  refine j_istore2 G dX12_readBy_1 (by decide) rfl ?_
  refine j_iconst G dX12_readBy_2 ?_
  refine j_istore3 G dX12_readBy_3 (by decide) rfl ?_
  refine j_pc (p2 := 4) rfl ?_
  refine down (Pr := fun b => JJ (EM x) X 2 (rI (bo (fun b => anyB (fun e => decide (0 < μ 25 (5 * r + e)) && decide (0 < μ 26 (40 * s + 5 * b + e))) 5) 8) μ) 4 4 [some (rf (EM x) 0), some (iv r), some (iv (bo (fun b => anyB (fun e => decide (0 < μ 25 (5 * r + e)) && decide (0 < μ 26 (40 * s + 5 * b + e))) 5) b)), some (iv b)] [] μ) 8 ?_ 0 (by decide)
  intro b h_b ih
  generalize h_pst : rI (bo (fun b => anyB (fun e => decide (0 < μ 25 (5 * r + e)) && decide (0 < μ 26 (40 * s + 5 * b + e))) 5) 8) μ = pst at ih ⊢
  have h_B := pow31 (bo_lt (fun b => anyB (fun e => decide (0 < μ 25 (5 * r + e)) && decide (0 < μ 26 (40 * s + 5 * b + e))) 5) b) (by omega)
  refine j_iload_n G dX12_readBy_4 rfl ?_
  refine j_bipush G dX12_readBy_5 (by decide) ?_
  refine j_icmp_ge G dX12_readBy_7 (tgt := 35) (by decide) (by omega) (by omega) (fun c_7 => ?_) (fun c_7 => ?_)
  · refine j_iload_n G dX12_readBy_35 rfl ?_
    refine j_ireturn G dX12_readBy_36 ?_
    rw [← h_pst, show b = 8 by omega]
    exact ⟨rfl, rfl⟩
  · refine j_iload_n G dX12_readBy_10 rfl ?_
    first | refine j_aload_n G dX12_readBy_11 rfl ?_ | refine j_aload_nN G dX12_readBy_11 rfl ?_
    refine j_iload_n G dX12_readBy_12 rfl ?_
    refine j_iload_n G dX12_readBy_13 rfl ?_
    refine j_callV G mv_X12_282 dX12_readBy_14 (m_canRead r s b h_r h_s (by omega) h_sc) (by first | assumption | rfl) (by decide) (by rfl) rfl rfl (by exact Nat.le_of_ble_eq_true rfl) (by decide) (kI ?_)
    refine j_if_eqB G dX12_readBy_17 (tgt := 26) (by decide)  (fun c_17 => ?_) (fun c_17 => ?_)
    · refine j_iconst G dX12_readBy_26 ?_
      refine j_ior G dX12_readBy_27 ?_
      refine j_istore2 G dX12_readBy_28 (by decide) rfl ?_
      refine j_iinc3 G dX12_readBy_29 (by decide) rfl rfl ?_
      refine j_goto G dX12_readBy_32 (tgt := 4) (by decide) ?_
      refine j_pc (p2 := 4) rfl ?_
      have h_z := ih (by omega)
      rw [show bo (fun b => anyB (fun e => decide (0 < μ 25 (5 * r + e)) && decide (0 < μ 26 (40 * s + 5 * b + e))) 5) (b + 1) = bo (fun b => anyB (fun e => decide (0 < μ 25 (5 * r + e)) && decide (0 < μ 26 (40 * s + 5 * b + e))) 5) b ||| (if anyB (fun e => decide (0 < μ 25 (5 * r + e)) && decide (0 < μ 26 (40 * s + 5 * b + e))) 5 then 2 ^ b else 0) from rfl, ← kn_s h_B (by omega)] at h_z
      first | (rw [if_pos c_17] at h_z; exact h_z) | (rw [if_neg c_17] at h_z; exact h_z)
    · refine j_iconst G dX12_readBy_20 ?_
      refine j_iload_n G dX12_readBy_21 rfl ?_
      refine j_ishl G dX12_readBy_22 ?_
      refine j_goto G dX12_readBy_23 (tgt := 27) (by decide) ?_
      refine j_ior G dX12_readBy_27 ?_
      refine j_istore2 G dX12_readBy_28 (by decide) rfl ?_
      refine j_iinc3 G dX12_readBy_29 (by decide) rfl rfl ?_
      refine j_goto G dX12_readBy_32 (tgt := 4) (by decide) ?_
      refine j_pc (p2 := 4) rfl ?_
      have h_z := ih (by omega)
      rw [show bo (fun b => anyB (fun e => decide (0 < μ 25 (5 * r + e)) && decide (0 < μ 26 (40 * s + 5 * b + e))) 5) (b + 1) = bo (fun b => anyB (fun e => decide (0 < μ 25 (5 * r + e)) && decide (0 < μ 26 (40 * s + 5 * b + e))) 5) b ||| (if anyB (fun e => decide (0 < μ 25 (5 * r + e)) && decide (0 < μ 26 (40 * s + 5 * b + e))) 5 then 2 ^ b else 0) from rfl, ← kn_s h_B (by omega)] at h_z
      first | (rw [if_pos c_17] at h_z; exact h_z) | (rw [if_neg c_17] at h_z; exact h_z)
theorem m_readS (r s : Nat) (h_r : r < 20) (h_s : s < 6) (h_rd : ReRd σ μ) (h_sh : ReSh σ μ) (h_sc : σ (78 + 2 * r) 1 = s) : CT (EM x) 2 yX12_readBy [rf (EM x) 0, iv r] μ (rI (rdS σ r s) μ) := by
  obtain ⟨g1, g2, g3, g4⟩ := h_rd.2 r h_r
  have h_k := m_readBy (x := x) (μ := μ) r s h_r h_s (by rw [g2]; exact h_sc)
  rw [show bo (fun b => anyB (fun e => decide (0 < μ 25 (5 * r + e)) && decide (0 < μ 26 (40 * s + 5 * b + e))) 5) 8 = rdS σ r s from bo_cg 8 (fun b h_b => anyB_cg 5 (fun e h_e => by rw [g4 e (by omega) (by omega), h_sh s h_s b h_b e (by omega) (by omega)]))] at h_k
  exact h_k
theorem m_reads (r : Int) (h_1 : (-2147483648 ≤ r ∧ r < 2147483648)) (h_n : 0 ≤ μ 0 33 ∧ μ 0 33 ≤ 20) (z : Int) (h_z : 0 ≤ r → r < μ 0 33 → CT (EM x) 2 yX12_readBy [rf (EM x) 0, iv r] μ (rI z μ)) : CT (EM x) 3 yX12_reads [rf (EM x) 0, iv r] μ (rI (if 0 ≤ r ∧ r < μ 0 33 then z else -1) μ) := by
  refine CT.ofJ (own := RX12) (cc := cX12_reads) (n := 2) (ret := (some .int)) (by decide) rfl cw_X12_reads (by decide) (Nat.le_of_ble_eq_true rfl) (ls := [some (rf (EM x) 0), some (iv r)]) rfl ?_
  intro X G
  first | refine j_aload_n G dX12_reads_0 rfl ?_ | refine j_aload_nN G dX12_reads_0 rfl ?_
  refine j_iload_n G dX12_reads_1 rfl ?_
  refine j_callV G mv_X12_259 dX12_reads_2 (m_isReader r h_1 h_n) (by first | assumption | rfl) (by decide) (by rfl) rfl rfl (by exact Nat.le_of_ble_eq_true rfl) (by decide) (kI ?_)
  refine j_if_eqB G dX12_reads_5 (tgt := 16) (by decide)  (fun c_5 => ?_) (fun c_5 => ?_)
  · refine j_iconst G dX12_reads_16 ?_
    refine j_ireturn G dX12_reads_17 ?_
    exact ⟨by split <;> first | rfl | omega, rfl⟩
  · first | refine j_aload_n G dX12_reads_8 rfl ?_ | refine j_aload_nN G dX12_reads_8 rfl ?_
    refine j_iload_n G dX12_reads_9 rfl ?_
    refine j_callV G mv_X12_285 dX12_reads_10 (h_z (by omega) (by omega)) (by first | assumption | rfl) (by decide) (by rfl) rfl rfl (by exact Nat.le_of_ble_eq_true rfl) (by decide) (kI ?_)
    refine j_goto G dX12_reads_13 (tgt := 17) (by decide) ?_
    refine j_ireturn G dX12_reads_17 ?_
    exact ⟨by split <;> first | rfl | omega, rfl⟩
theorem op_reads (r : Int) (h_1 : (-2147483648 ≤ r ∧ r < 2147483648)) : OP x1 x2 yX11_reads yX12_reads [iv r] := by
  apply OP.same
  intro σ μ hw hr
  obtain ⟨w1, w2, w3, w4, w5, w6, w7, w8⟩ := id hw
  obtain ⟨r1, r2, r3, r4, r5, r6, r7, r8⟩ := id hr
  by_cases h_r : 0 ≤ r ∧ r < σ 0 8
  · have h_20 := w5.1
    obtain ⟨rr, h_rr, rfl⟩ := nat_of (n := 20) (z := r) (by omega)
    obtain ⟨s, h_s, h_sc⟩ := nat_of (n := 5) (w5.2 rr (by omega)).2.1
    have h_k := c_reads (x := x1) (σ := σ) rr (by omega) (by omega) s (by omega) h_sc
    have h_m := m_reads (x := x2) (μ := μ) rr h_1 (by rw [r5.1]; exact w5.1) (rdS σ rr s) (fun _ _ => m_readS rr s (by omega) (by omega) r5 r6 h_sc)
    rw [r5.1, if_pos h_r] at h_m
    exact ⟨_, _, _, (by decide), (by decide), rI_P h_k ⟨rfl, KC.rf _⟩, rI_P h_m ⟨rfl, KM.rf _⟩⟩
  · have h_k := c_readsN (x := x1) (σ := σ) r h_1 h_r w5.1
    have h_m := m_reads (x := x2) (μ := μ) r h_1 (by rw [r5.1]; exact w5.1) 0 (fun h_a h_b => absurd ⟨h_a, by rw [← r5.1]; exact h_b⟩ h_r)
    rw [r5.1, if_neg h_r] at h_m
    exact ⟨_, _, _, (by decide), (by decide), rI_P h_k ⟨rfl, KC.rf _⟩, rI_P h_m ⟨rfl, KM.rf _⟩⟩
theorem c_learn (r c : Nat) (h_r : r < σ 0 8) (h_n : σ 0 8 ≤ 20) (h_c : c < 5) (h_ag : 0 ≤ σ (78 + 2 * r) 0 ∧ σ (78 + 2 * r) 0 ≤ 90) (h_sh : 0 ≤ σ (4 + 7 * c) 3 ∧ σ (4 + 7 * c) 3 ≤ 12) (u : Int) (h_u : 0 ≤ u ∧ u ≤ 26) (h_un : ownS (σ (79 + 2 * r)) = -6 → u = sm (fun l => if σ (3 + 7 * c) l ≠ 0 then 1 else 0) 26) (h_uo : ∀ o : Nat, o < 5 → ownS (σ (79 + 2 * r)) = o → u = sm (fun l => if σ (3 + 7 * c) l ≠ 0 ∧ σ (3 + 7 * o) l ≠ σ (3 + 7 * c) l then 1 else 0) 26) : CT (EC x) 2 yX11_learn [rf (EC x) 0, iv r, iv c] σ
    (rI (if 0 < σ (79 + 2 * r) c then 0 else if 70 < σ (78 + 2 * r) 0 ∧ 14 ≤ u then -6 else (2 * u + 3 * σ (4 + 7 * c) 3) * (100 + σ (78 + 2 * r) 0) / 100) σ) := by
  obtain ⟨h_y1, h_y2, h_y3⟩ := ly_reader (x := x) (r := r) (by omega)
  obtain ⟨h_z1, h_z2, h_z3, h_z4, h_z5, h_z6, h_z7⟩ := ly_code (x := x) h_c
  refine CT.ofJ (own := RX11) (cc := cX11_learn) (n := 6) (ret := (some .int)) (by decide) rfl cw_X11_learn (by decide) (Nat.le_of_ble_eq_true rfl) (ls := [some (rf (EC x) 0), some (iv r), some (iv c), none, none, none]) rfl ?_
  intro X G
  have h_end : JJ (EC x) X 2 (rI (if 70 < σ (78 + 2 * r) 0 ∧ 14 ≤ u then -6 else (2 * u + 3 * σ (4 + 7 * c) 3) * (100 + σ (78 + 2 * r) 0) / 100) σ) 6 48 [some (rf (EC x) 0), some (iv r), some (iv c), some (rf (EC x) (78 + 2 * r)), some (rf (EC x) (2 + 7 * c)), none] [iv u] σ := by
    have h_b1 : 0 ≤ (2 * u + 3 * σ (4 + 7 * c) 3) * (100 + σ (78 + 2 * r) 0) := Int.mul_nonneg (by omega) (by omega)
    have h_b2 : (2 * u + 3 * σ (4 + 7 * c) 3) * (100 + σ (78 + 2 * r) 0) ≤ 88 * 190 := Int.mul_le_mul (by omega) (by omega) (by omega) (by omega)
    refine j_istore5 G dX11_learn_48 (by decide) rfl ?_
    first | refine j_aload_n G dX11_learn_50 rfl ?_ | refine j_aload_nN G dX11_learn_50 rfl ?_
    refine j_geti G fl_X11_201 dX11_learn_51 0 rfl (by first | assumption | rfl) (by rfl) (fun r_51 => ?_)
    try simp (disch := omega) only [up_same, up_cell, up_idx, cpm_at, fil_at] at r_51 ⊢
    refine j_bipush G dX11_learn_54 (by decide) ?_
    refine j_icmp_le G dX11_learn_56 (tgt := 69) (by decide) (by omega) (by omega) (fun c_56 => ?_) (fun c_56 => ?_)
    · refine j_iconst G dX11_learn_69 ?_
      refine j_iload G dX11_learn_70 rfl ?_
      refine j_imul G dX11_learn_72 ?_
      refine j_iconst G dX11_learn_73 ?_
      first | refine j_aload G dX11_learn_74 rfl ?_ | refine j_aloadN G dX11_learn_74 rfl ?_
      refine j_getr G fl_X11_112 dX11_learn_76 (by first | assumption | rfl) (by rfl) ?_
      refine j_geti G fl_X11_164 dX11_learn_79 3 rfl (by first | assumption | rfl) (by rfl) (fun r_79 => ?_)
      try simp (disch := omega) only [up_same, up_cell, up_idx, cpm_at, fil_at] at r_79 ⊢
      refine j_imul G dX11_learn_82 ?_
      refine j_iadd G dX11_learn_83 ?_
      refine j_bipush G dX11_learn_84 (by decide) ?_
      first | refine j_aload_n G dX11_learn_86 rfl ?_ | refine j_aload_nN G dX11_learn_86 rfl ?_
      refine j_pc (p2 := 87) rfl ?_
      refine j_geti G fl_X11_201 dX11_learn_87 0 rfl (by first | assumption | rfl) (by rfl) (fun r_87 => ?_)
      try simp (disch := omega) only [up_same, up_cell, up_idx, cpm_at, fil_at] at r_87 ⊢
      refine j_iadd G dX11_learn_90 ?_
      refine j_imul G dX11_learn_91 ?_
      refine j_bipush G dX11_learn_92 (by decide) ?_
      refine j_idiv G dX11_learn_94 (by omega) (by omega) ?_
      refine j_ireturn G dX11_learn_95 ?_
      exact ⟨by split <;> first | rfl | omega, rfl⟩
    · refine j_iload G dX11_learn_59 rfl ?_
      refine j_bipush G dX11_learn_61 (by decide) ?_
      refine j_icmp_lt G dX11_learn_63 (tgt := 69) (by decide) (by omega) (by omega) (fun c_63 => ?_) (fun c_63 => ?_)
      · refine j_iconst G dX11_learn_69 ?_
        refine j_iload G dX11_learn_70 rfl ?_
        refine j_imul G dX11_learn_72 ?_
        refine j_iconst G dX11_learn_73 ?_
        first | refine j_aload G dX11_learn_74 rfl ?_ | refine j_aloadN G dX11_learn_74 rfl ?_
        refine j_getr G fl_X11_112 dX11_learn_76 (by first | assumption | rfl) (by rfl) ?_
        refine j_geti G fl_X11_164 dX11_learn_79 3 rfl (by first | assumption | rfl) (by rfl) (fun r_79 => ?_)
        try simp (disch := omega) only [up_same, up_cell, up_idx, cpm_at, fil_at] at r_79 ⊢
        refine j_imul G dX11_learn_82 ?_
        refine j_iadd G dX11_learn_83 ?_
        refine j_bipush G dX11_learn_84 (by decide) ?_
        first | refine j_aload_n G dX11_learn_86 rfl ?_ | refine j_aload_nN G dX11_learn_86 rfl ?_
        refine j_pc (p2 := 87) rfl ?_
        refine j_geti G fl_X11_201 dX11_learn_87 0 rfl (by first | assumption | rfl) (by rfl) (fun r_87 => ?_)
        try simp (disch := omega) only [up_same, up_cell, up_idx, cpm_at, fil_at] at r_87 ⊢
        refine j_iadd G dX11_learn_90 ?_
        refine j_imul G dX11_learn_91 ?_
        refine j_bipush G dX11_learn_92 (by decide) ?_
        refine j_idiv G dX11_learn_94 (by omega) (by omega) ?_
        refine j_ireturn G dX11_learn_95 ?_
        exact ⟨by split <;> first | rfl | omega, rfl⟩
      · refine j_bipush G dX11_learn_66 (by decide) ?_
        refine j_ireturn G dX11_learn_68 ?_
        exact ⟨by split <;> first | rfl | omega, rfl⟩
  first | refine j_aload_n G dX11_learn_0 rfl ?_ | refine j_aload_nN G dX11_learn_0 rfl ?_
  refine j_iload_n G dX11_learn_1 rfl ?_
  refine j_callV G mv_X11_210 dX11_learn_2 (c_readerAt r h_r h_n) (by first | assumption | rfl) (by decide) (by rfl) rfl rfl (by exact Nat.le_of_ble_eq_true rfl) (by decide) (kV ?_)
  first | refine j_astore3 G dX11_learn_5 (by decide) rfl ?_ | refine j_astoreN3 G dX11_learn_5 (by decide) rfl ?_
  first | refine j_aload_n G dX11_learn_6 rfl ?_ | refine j_aload_nN G dX11_learn_6 rfl ?_
  refine j_iload_n G dX11_learn_7 rfl ?_
  refine j_callV G mv_X11_88 dX11_learn_8 (c_codeAt c h_c) (by first | assumption | rfl) (by decide) (by rfl) rfl rfl (by exact Nat.le_of_ble_eq_true rfl) (by decide) (kV ?_)
  first | refine j_astore4 G dX11_learn_11 (by decide) rfl ?_ | refine j_astoreN4 G dX11_learn_11 (by decide) rfl ?_
  first | refine j_aload_n G dX11_learn_13 rfl ?_ | refine j_aload_nN G dX11_learn_13 rfl ?_
  refine j_ifnull G dX11_learn_14 ?_
  first | refine j_aload G dX11_learn_17 rfl ?_ | refine j_aloadN G dX11_learn_17 rfl ?_
  refine j_pc (p2 := 19) rfl ?_
  refine j_ifnonnull G dX11_learn_19 (tgt := 24) (by decide) ?_
  first | refine j_aload_n G dX11_learn_24 rfl ?_ | refine j_aload_nN G dX11_learn_24 rfl ?_
  refine j_getr G fl_X11_214 dX11_learn_25 (by first | assumption | rfl) (by rfl) ?_
  refine j_iload_n G dX11_learn_28 rfl ?_
  refine j_iaload G dX11_learn_29 (by first | assumption | rfl) (by omega) (fun r_29 => ?_)
  try simp (disch := omega) only [up_same, up_cell, up_idx, cpm_at, fil_at] at r_29 ⊢
  refine j_if_le G dX11_learn_30 (tgt := 35) (by decide) (by omega) (fun c_30 => ?_) (fun c_30 => ?_)
  · first | refine j_aload G dX11_learn_35 rfl ?_ | refine j_aloadN G dX11_learn_35 rfl ?_
    first | refine j_aload_n G dX11_learn_37 rfl ?_ | refine j_aload_nN G dX11_learn_37 rfl ?_
    first | refine j_aload_n G dX11_learn_38 rfl ?_ | refine j_aload_nN G dX11_learn_38 rfl ?_
    refine j_callV G mv_X11_217 dX11_learn_39 (r_ownCode (78 + 2 * r) (79 + 2 * r) h_y2 h_y3) (by first | assumption | rfl) (by decide) (by rfl) rfl rfl (by exact Nat.le_of_ble_eq_true rfl) (by decide) (kI ?_)
    refine j_pc (p2 := 42) rfl ?_
    rw [if_neg (by omega)]
    rcases ownS_rg (σ (79 + 2 * r)) with h_o | h_o
    · rw [h_un h_o] at h_end ⊢
      rw [h_o]
      refine j_callV G mv_X11_88 dX11_learn_42 (c_codeAtN (-6) (by decide) (by decide)) (by first | assumption | rfl) (by decide) (by rfl) rfl rfl (by exact Nat.le_of_ble_eq_true rfl) (by decide) (kV ?_)
      refine j_callV G mv_X11_237 dX11_learn_45 (k_unlikeN (2 + 7 * c) (3 + 7 * c) (4 + 7 * c) (7 + 7 * c) (8 + 7 * c) h_z1 h_z2) (by first | assumption | rfl) (by decide) (by rfl) rfl rfl (by exact Nat.le_of_ble_eq_true rfl) (by decide) (kI ?_)
      refine j_pc (p2 := 48) rfl ?_
      exact h_end
    · obtain ⟨o, h_o4, h_oe⟩ := nat_of (n := 4) h_o
      obtain ⟨h_v1, h_v2, -⟩ := ly_code (x := x) (c := o) (by omega)
      rw [h_uo o (by omega) h_oe] at h_end ⊢
      rw [h_oe]
      refine j_callV G mv_X11_88 dX11_learn_42 (c_codeAt o (by omega)) (by first | assumption | rfl) (by decide) (by rfl) rfl rfl (by exact Nat.le_of_ble_eq_true rfl) (by decide) (kV ?_)
      refine j_callV G mv_X11_237 dX11_learn_45 (k_unlike (2 + 7 * c) (3 + 7 * c) (4 + 7 * c) (7 + 7 * c) (8 + 7 * c) (2 + 7 * o) (3 + 7 * o) (4 + 7 * o) (7 + 7 * o) (8 + 7 * o) h_z1 h_z2 h_v1 h_v2) (by first | assumption | rfl) (by decide) (by rfl) rfl rfl (by exact Nat.le_of_ble_eq_true rfl) (by decide) (kI ?_)
      refine j_pc (p2 := 48) rfl ?_
      exact h_end
  · refine j_iconst G dX11_learn_33 ?_
    refine j_ireturn G dX11_learn_34 ?_
    exact ⟨by rw [if_pos (by omega)], rfl⟩
theorem c_learnN (r c : Int) (h_1 : (-2147483648 ≤ r ∧ r < 2147483648)) (h_2 : (-2147483648 ≤ c ∧ c < 2147483648)) (h_r : ¬ (0 ≤ r ∧ r < σ 0 8)) (h_n : 0 ≤ σ 0 8 ∧ σ 0 8 ≤ 20) : CT (EC x) 2 yX11_learn [rf (EC x) 0, iv r, iv c] σ (rI (-1) σ) := by
  refine CT.ofJ (own := RX11) (cc := cX11_learn) (n := 6) (ret := (some .int)) (by decide) rfl cw_X11_learn (by decide) (Nat.le_of_ble_eq_true rfl) (ls := [some (rf (EC x) 0), some (iv r), some (iv c), none, none, none]) rfl ?_
  intro X G
  by_cases h_c : 0 ≤ c ∧ c ≤ 4
  · obtain ⟨e, h_e4, rfl⟩ := nat_of (n := 4) h_c
    first | refine j_aload_n G dX11_learn_0 rfl ?_ | refine j_aload_nN G dX11_learn_0 rfl ?_
    refine j_iload_n G dX11_learn_1 rfl ?_
    refine j_callV G mv_X11_210 dX11_learn_2 (c_readerAtN r h_1 h_r h_n) (by first | assumption | rfl) (by decide) (by rfl) rfl rfl (by exact Nat.le_of_ble_eq_true rfl) (by decide) (kV ?_)
    first | refine j_astore3 G dX11_learn_5 (by decide) rfl ?_ | refine j_astoreN3 G dX11_learn_5 (by decide) rfl ?_
    first | refine j_aload_n G dX11_learn_6 rfl ?_ | refine j_aload_nN G dX11_learn_6 rfl ?_
    refine j_iload_n G dX11_learn_7 rfl ?_
    refine j_callV G mv_X11_88 dX11_learn_8 (c_codeAt e (by omega)) (by first | assumption | rfl) (by decide) (by rfl) rfl rfl (by exact Nat.le_of_ble_eq_true rfl) (by decide) (kV ?_)
    first | refine j_astore4 G dX11_learn_11 (by decide) rfl ?_ | refine j_astoreN4 G dX11_learn_11 (by decide) rfl ?_
    first | refine j_aload_n G dX11_learn_13 rfl ?_ | refine j_aload_nN G dX11_learn_13 rfl ?_
    refine j_ifnullN G dX11_learn_14 (tgt := 22) (by decide) ?_
    refine j_iconst G dX11_learn_22 ?_
    refine j_pc (p2 := 23) rfl ?_
    refine j_ireturn G dX11_learn_23 ?_
    exact ⟨rfl, rfl⟩
  · first | refine j_aload_n G dX11_learn_0 rfl ?_ | refine j_aload_nN G dX11_learn_0 rfl ?_
    refine j_iload_n G dX11_learn_1 rfl ?_
    refine j_callV G mv_X11_210 dX11_learn_2 (c_readerAtN r h_1 h_r h_n) (by first | assumption | rfl) (by decide) (by rfl) rfl rfl (by exact Nat.le_of_ble_eq_true rfl) (by decide) (kV ?_)
    first | refine j_astore3 G dX11_learn_5 (by decide) rfl ?_ | refine j_astoreN3 G dX11_learn_5 (by decide) rfl ?_
    first | refine j_aload_n G dX11_learn_6 rfl ?_ | refine j_aload_nN G dX11_learn_6 rfl ?_
    refine j_iload_n G dX11_learn_7 rfl ?_
    refine j_callV G mv_X11_88 dX11_learn_8 (c_codeAtN c h_2 h_c) (by first | assumption | rfl) (by decide) (by rfl) rfl rfl (by exact Nat.le_of_ble_eq_true rfl) (by decide) (kV ?_)
    first | refine j_astore4 G dX11_learn_11 (by decide) rfl ?_ | refine j_astoreN4 G dX11_learn_11 (by decide) rfl ?_
    first | refine j_aload_n G dX11_learn_13 rfl ?_ | refine j_aload_nN G dX11_learn_13 rfl ?_
    refine j_ifnullN G dX11_learn_14 (tgt := 22) (by decide) ?_
    refine j_iconst G dX11_learn_22 ?_
    refine j_pc (p2 := 23) rfl ?_
    refine j_ireturn G dX11_learn_23 ?_
    exact ⟨rfl, rfl⟩
theorem c_learnN2 (r : Nat) (c : Int) (h_r : r < σ 0 8) (h_n : σ 0 8 ≤ 20) (h_2 : (-2147483648 ≤ c ∧ c < 2147483648)) (h_c : ¬ (0 ≤ c ∧ c ≤ 4)) : CT (EC x) 2 yX11_learn [rf (EC x) 0, iv r, iv c] σ (rI (-1) σ) := by
  refine CT.ofJ (own := RX11) (cc := cX11_learn) (n := 6) (ret := (some .int)) (by decide) rfl cw_X11_learn (by decide) (Nat.le_of_ble_eq_true rfl) (ls := [some (rf (EC x) 0), some (iv r), some (iv c), none, none, none]) rfl ?_
  intro X G
  first | refine j_aload_n G dX11_learn_0 rfl ?_ | refine j_aload_nN G dX11_learn_0 rfl ?_
  refine j_iload_n G dX11_learn_1 rfl ?_
  refine j_callV G mv_X11_210 dX11_learn_2 (c_readerAt r h_r h_n) (by first | assumption | rfl) (by decide) (by rfl) rfl rfl (by exact Nat.le_of_ble_eq_true rfl) (by decide) (kV ?_)
  first | refine j_astore3 G dX11_learn_5 (by decide) rfl ?_ | refine j_astoreN3 G dX11_learn_5 (by decide) rfl ?_
  first | refine j_aload_n G dX11_learn_6 rfl ?_ | refine j_aload_nN G dX11_learn_6 rfl ?_
  refine j_iload_n G dX11_learn_7 rfl ?_
  refine j_callV G mv_X11_88 dX11_learn_8 (c_codeAtN c h_2 h_c) (by first | assumption | rfl) (by decide) (by rfl) rfl rfl (by exact Nat.le_of_ble_eq_true rfl) (by decide) (kV ?_)
  first | refine j_astore4 G dX11_learn_11 (by decide) rfl ?_ | refine j_astoreN4 G dX11_learn_11 (by decide) rfl ?_
  first | refine j_aload_n G dX11_learn_13 rfl ?_ | refine j_aload_nN G dX11_learn_13 rfl ?_
  refine j_ifnull G dX11_learn_14 ?_
  first | refine j_aload G dX11_learn_17 rfl ?_ | refine j_aloadN G dX11_learn_17 rfl ?_
  refine j_pc (p2 := 19) rfl ?_
  refine j_ifnonnullN G dX11_learn_19 ?_
  refine j_iconst G dX11_learn_22 ?_
  refine j_ireturn G dX11_learn_23 ?_
  exact ⟨rfl, rfl⟩
end OP3
