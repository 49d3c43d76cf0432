section MO2
variable {x : CX} {μ : MemT}
theorem m_isBook (z : Int) (h_z : (-2147483648 ≤ z ∧ z < 2147483648)) : CT (EM x) 1 yX12_isBook [iv z] μ (rI (b2 (0 ≤ z ∧ z ≤ 7)) μ) := by
  refine CT.ofJ (own := RX12) (cc := cX12_isBook) (n := 1) (ret := (some .boolean)) (by decide) rfl cw_X12_isBook (by decide) (Nat.le_of_ble_eq_true rfl) (ls := [some (iv z)]) rfl ?_
  intro X G
  refine j_iload_n G dX12_isBook_0 rfl ?_
  refine j_i2l G (by omega) dX12_isBook_1 ?_
  refine j_lconstI G 0 dX12_isBook_2 (by decide) ?_
  refine j_ldc2I G (7) kl_X12_216 dX12_isBook_3 (by decide) ?_
  refine j_callS G ms_X12_115 dX12_isBook_6 (m_in _ _ _ (by omega) (by omega) (by omega)) rfl rfl (by exact Nat.le_of_ble_eq_true rfl) (by decide) (kI ?_)
  refine j_zreturn G dX12_isBook_9 (by first | exact b2_01 _ | omega) ?_
  exact ⟨rfl, rfl⟩
theorem m_isSchool (z : Int) (h_z : (-2147483648 ≤ z ∧ z < 2147483648)) : CT (EM x) 1 yX12_isSchool [iv z] μ (rI (b2 (0 ≤ z ∧ z ≤ 5)) μ) := by
  refine CT.ofJ (own := RX12) (cc := cX12_isSchool) (n := 1) (ret := (some .boolean)) (by decide) rfl cw_X12_isSchool (by decide) (Nat.le_of_ble_eq_true rfl) (ls := [some (iv z)]) rfl ?_
  intro X G
  refine j_iload_n G dX12_isSchool_0 rfl ?_
  refine j_i2l G (by omega) dX12_isSchool_1 ?_
  refine j_lconstI G 0 dX12_isSchool_2 (by decide) ?_
  refine j_ldc2I G (5) kl_X12_252 dX12_isSchool_3 (by decide) ?_
  refine j_callS G ms_X12_115 dX12_isSchool_6 (m_in _ _ _ (by omega) (by omega) (by omega)) rfl rfl (by exact Nat.le_of_ble_eq_true rfl) (by decide) (kI ?_)
  refine j_zreturn G dX12_isSchool_9 (by first | exact b2_01 _ | omega) ?_
  exact ⟨rfl, rfl⟩
theorem m_isReader (z : Int) (h_z : (-2147483648 ≤ z ∧ z < 2147483648)) (h_n : 0 ≤ μ 0 33 ∧ μ 0 33 ≤ 20) : CT (EM x) 1 yX12_isReader [rf (EM x) 0, iv z] μ (rI (b2 (0 ≤ z ∧ z ≤ μ 0 33 - 1)) μ) := by
  refine CT.ofJ (own := RX12) (cc := cX12_isReader) (n := 2) (ret := (some .boolean)) (by decide) rfl cw_X12_isReader (by decide) (Nat.le_of_ble_eq_true rfl) (ls := [some (rf (EM x) 0), some (iv z)]) rfl ?_
  intro X G
  refine j_iload_n G dX12_isReader_0 rfl ?_
  refine j_i2l G (by omega) dX12_isReader_1 ?_
  refine j_lconstI G 0 dX12_isReader_2 (by decide) ?_
  first | refine j_aload_n G dX12_isReader_3 rfl ?_ | refine j_aload_nN G dX12_isReader_3 rfl ?_
  refine j_geti G fl_X12_249 dX12_isReader_4 33 rfl (by first | assumption | rfl) (by rfl) (fun r_4 => ?_)
  try simp (disch := omega) only [up_same, up_cell, up_idx, cpm_at, fil_at] at r_4 ⊢
  refine j_iconst G dX12_isReader_7 ?_
  refine j_isub G dX12_isReader_8 ?_
  refine j_i2l G (by omega) dX12_isReader_9 ?_
  refine j_callS G ms_X12_115 dX12_isReader_10 (m_in _ _ _ (by omega) (by omega) (by omega)) rfl rfl (by exact Nat.le_of_ble_eq_true rfl) (by decide) (kI ?_)
  refine j_zreturn G dX12_isReader_13 (by first | exact b2_01 _ | omega) ?_
  exact ⟨rfl, rfl⟩
theorem m_word (h_w : 0 ≤ μ 0 22 ∧ μ 0 22 ≤ 30) (h_p : 0 ≤ μ 0 7 ∧ μ 0 7 ≤ 10) : CT (EM x) 1 yX12_word [rf (EM x) 0] μ
    (if 30 ≤ μ 0 22 then rI (-4) μ else if μ 0 7 = 0 then rI (-5) μ else rI (μ 0 22) (up (up (up (cpm μ 7 0 17 (10 * μ 0 22) (μ 0 7)) 18 (μ 0 22) (μ 0 7)) 0 7 0) 0 22 (μ 0 22 + 1))) := by
  refine CT.ofJ (own := RX12) (cc := cX12_word) (n := 2) (ret := (some .int)) (by decide) rfl cw_X12_word (by decide) (Nat.le_of_ble_eq_true rfl) (ls := [some (rf (EM x) 0), none]) rfl ?_
  intro X G
  first | refine j_aload_n G dX12_word_0 rfl ?_ | refine j_aload_nN G dX12_word_0 rfl ?_
  refine j_geti G fl_X12_213 dX12_word_1 22 rfl (by first | assumption | rfl) (by rfl) (fun r_1 => ?_)
  try simp (disch := omega) only [up_same, up_cell, up_idx, cpm_at, fil_at] at r_1 ⊢
  refine j_bipush G dX12_word_4 (by decide) ?_
  refine j_icmp_ne G dX12_word_6 (tgt := 12) (by decide) (by omega) (by omega) (fun c_6 => ?_) (fun c_6 => ?_)
  · first | refine j_aload_n G dX12_word_12 rfl ?_ | refine j_aload_nN G dX12_word_12 rfl ?_
    refine j_geti G fl_X12_130 dX12_word_13 7 rfl (by first | assumption | rfl) (by rfl) (fun r_13 => ?_)
    try simp (disch := omega) only [up_same, up_cell, up_idx, cpm_at, fil_at] at r_13 ⊢
    refine j_if_ne G dX12_word_16 (tgt := 22) (by decide) (by omega) (fun c_16 => ?_) (fun c_16 => ?_)
    · refine j_iconst G dX12_word_22 ?_
      refine j_istore1 G dX12_word_23 (by decide) rfl ?_
      refine j_pc (p2 := 24) rfl ?_
      rw [if_neg (show ¬ 30 ≤ μ 0 22 by omega), if_neg (by omega)]
      obtain ⟨m, h_m⟩ : ∃ m : Nat, μ 0 7 = m := ⟨(μ 0 7).toNat, by omega⟩
      refine j_mem (cpm_0 (src := 7) (sp := 0) (dst := 17) (dp := 10 * μ 0 22)).symm ?_
      refine down (Pr := fun i => JJ (EM x) X 1 (rI (μ 0 22) (up (up (up (cpm μ 7 0 17 (10 * μ 0 22) (μ 0 7)) 18 (μ 0 22) (μ 0 7)) 0 7 0) 0 22 (μ 0 22 + 1))) 2 24 [some (rf (EM x) 0), some (iv i)] [] (cpm μ 7 0 17 (10 * μ 0 22) i)) m ?_ 0 (Nat.zero_le _)
      intro i h_i ih
      refine j_iload_n G dX12_word_24 rfl ?_
      first | refine j_aload_n G dX12_word_25 rfl ?_ | refine j_aload_nN G dX12_word_25 rfl ?_
      refine j_geti G fl_X12_130 dX12_word_26 7 rfl (by first | assumption | rfl) (by rfl) (fun r_26 => ?_)
      try simp (disch := omega) only [up_same, up_cell, up_idx, cpm_at, fil_at] at r_26 ⊢
      refine j_icmp_ge G dX12_word_29 (tgt := 58) (by decide) (by omega) (by omega) (fun c_29 => ?_) (fun c_29 => ?_)
      · first | refine j_aload_n G dX12_word_58 rfl ?_ | refine j_aload_nN G dX12_word_58 rfl ?_
        refine j_getr G fl_X12_62 dX12_word_59 (by first | assumption | rfl) (by rfl) ?_
        first | refine j_aload_n G dX12_word_62 rfl ?_ | refine j_aload_nN G dX12_word_62 rfl ?_
        refine j_geti G fl_X12_213 dX12_word_63 22 rfl (by first | assumption | rfl) (by rfl) (fun r_63 => ?_)
        try simp (disch := omega) only [up_same, up_cell, up_idx, cpm_at, fil_at] at r_63 ⊢
        first | refine j_aload_n G dX12_word_66 rfl ?_ | refine j_aload_nN G dX12_word_66 rfl ?_
        refine j_geti G fl_X12_130 dX12_word_67 7 rfl (by first | assumption | rfl) (by rfl) (fun r_67 => ?_)
        try simp (disch := omega) only [up_same, up_cell, up_idx, cpm_at, fil_at] at r_67 ⊢
        refine j_iastore G dX12_word_70 (by first | assumption | rfl) (by omega) (by omega) ?_
        first | refine j_aload_n G dX12_word_71 rfl ?_ | refine j_aload_nN G dX12_word_71 rfl ?_
        refine j_iconst G dX12_word_72 ?_
        refine j_puti G fp_X12_130 dX12_word_73 7 rfl (by first | assumption | rfl) (by rfl) (by omega) ?_
        first | refine j_aload_n G dX12_word_76 rfl ?_ | refine j_aload_nN G dX12_word_76 rfl ?_
        refine j_pc (p2 := 77) rfl ?_
        refine j_dup G dX12_word_77 rfl ?_
        refine j_geti G fl_X12_213 dX12_word_78 22 rfl (by first | assumption | rfl) (by rfl) (fun r_78 => ?_)
        try simp (disch := omega) only [up_same, up_cell, up_idx, cpm_at, fil_at] at r_78 ⊢
        refine j_iconst G dX12_word_81 ?_
        refine j_iadd G dX12_word_82 ?_
        refine j_puti G fp_X12_213 dX12_word_83 22 rfl (by first | assumption | rfl) (by rfl) (by omega) ?_
        first | refine j_aload_n G dX12_word_86 rfl ?_ | refine j_aload_nN G dX12_word_86 rfl ?_
        refine j_geti G fl_X12_213 dX12_word_87 22 rfl (by first | assumption | rfl) (by rfl) (fun r_87 => ?_)
        try simp (disch := omega) only [up_same, up_cell, up_idx, cpm_at, fil_at] at r_87 ⊢
        refine j_iconst G dX12_word_90 ?_
        refine j_isub G dX12_word_91 ?_
        refine j_ireturn G dX12_word_92 ?_
        exact ⟨congrArg (fun z => some (iv z)) (by omega), by rw [show (i : Int) = μ 0 7 by omega]⟩
      · first | refine j_aload_n G dX12_word_32 rfl ?_ | refine j_aload_nN G dX12_word_32 rfl ?_
        refine j_getr G fl_X12_59 dX12_word_33 (by first | assumption | rfl) (by rfl) ?_
        refine j_bipush G dX12_word_36 (by decide) ?_
        first | refine j_aload_n G dX12_word_38 rfl ?_ | refine j_aload_nN G dX12_word_38 rfl ?_
        refine j_geti G fl_X12_213 dX12_word_39 22 rfl (by first | assumption | rfl) (by rfl) (fun r_39 => ?_)
        try simp (disch := omega) only [up_same, up_cell, up_idx, cpm_at, fil_at] at r_39 ⊢
        refine j_imul G dX12_word_42 ?_
        refine j_iload_n G dX12_word_43 rfl ?_
        refine j_iadd G dX12_word_44 ?_
        first | refine j_aload_n G dX12_word_45 rfl ?_ | refine j_aload_nN G dX12_word_45 rfl ?_
        refine j_getr G fl_X12_28 dX12_word_46 (by first | assumption | rfl) (by rfl) ?_
        refine j_iload_n G dX12_word_49 rfl ?_
        refine j_pc (p2 := 50) rfl ?_
        refine j_iaload G dX12_word_50 (by first | assumption | rfl) (by omega) (fun r_50 => ?_)
        try simp (disch := omega) only [up_same, up_cell, up_idx, cpm_at, fil_at] at r_50 ⊢
        refine j_iastore G dX12_word_51 (by first | assumption | rfl) (by omega) (by omega) ?_
        refine j_iinc1 G dX12_word_52 (by decide) rfl rfl ?_
        refine j_goto G dX12_word_55 (tgt := 24) (by decide) ?_
        refine j_pc (p2 := 24) rfl ?_
        exact j_mem (by rw [show μ 7 i = μ 7 (0 + i) by rw [Int.zero_add]]; exact cpm_s (by omega)) (ih (by omega))
    · refine j_bipush G dX12_word_19 (by decide) ?_
      refine j_ireturn G dX12_word_21 ?_
      repeat' split
      all_goals first | exact ⟨rfl, rfl⟩ | omega
  · refine j_bipush G dX12_word_9 (by decide) ?_
    refine j_ireturn G dX12_word_11 ?_
    repeat' split
    all_goals first | exact ⟨rfl, rfl⟩ | omega
theorem m_row (h_w : 0 ≤ μ 0 28 ∧ μ 0 28 ≤ 12) (h_p : 0 ≤ μ 0 7 ∧ μ 0 7 ≤ 10) : CT (EM x) 1 yX12_row [rf (EM x) 0] μ
    (if 12 ≤ μ 0 28 then rI (-4) μ else if ¬ (2 ≤ μ 0 7 ∧ μ 0 7 ≤ 4) then rI (-5) μ else rI (μ 0 28) (up (up (up (cpm μ 7 0 20 (4 * μ 0 28) (μ 0 7)) 21 (μ 0 28) (μ 0 7)) 0 7 0) 0 28 (μ 0 28 + 1))) := by
  refine CT.ofJ (own := RX12) (cc := cX12_row) (n := 2) (ret := (some .int)) (by decide) rfl cw_X12_row (by decide) (Nat.le_of_ble_eq_true rfl) (ls := [some (rf (EM x) 0), none]) rfl ?_
  intro X G
  first | refine j_aload_n G dX12_row_0 rfl ?_ | refine j_aload_nN G dX12_row_0 rfl ?_
  refine j_geti G fl_X12_235 dX12_row_1 28 rfl (by first | assumption | rfl) (by rfl) (fun r_1 => ?_)
  try simp (disch := omega) only [up_same, up_cell, up_idx, cpm_at, fil_at] at r_1 ⊢
  refine j_bipush G dX12_row_4 (by decide) ?_
  refine j_icmp_ne G dX12_row_6 (tgt := 12) (by decide) (by omega) (by omega) (fun c_6 => ?_) (fun c_6 => ?_)
  · first | refine j_aload_n G dX12_row_12 rfl ?_ | refine j_aload_nN G dX12_row_12 rfl ?_
    refine j_geti G fl_X12_130 dX12_row_13 7 rfl (by first | assumption | rfl) (by rfl) (fun r_13 => ?_)
    try simp (disch := omega) only [up_same, up_cell, up_idx, cpm_at, fil_at] at r_13 ⊢
    refine j_i2l G (by omega) dX12_row_16 ?_
    refine j_ldc2I G (2) kl_X12_140 dX12_row_17 (by decide) ?_
    refine j_ldc2I G (4) kl_X12_113 dX12_row_20 (by decide) ?_
    refine j_callS G ms_X12_115 dX12_row_23 (m_in _ _ _ (by omega) (by omega) (by omega)) rfl rfl (by exact Nat.le_of_ble_eq_true rfl) (by decide) (kI ?_)
    refine j_if_neB G dX12_row_26 (tgt := 32) (by decide)  (fun c_26 => ?_) (fun c_26 => ?_)
    · refine j_iconst G dX12_row_32 ?_
      refine j_istore1 G dX12_row_33 (by decide) rfl ?_
      refine j_pc (p2 := 34) rfl ?_
      rw [if_neg (show ¬ 12 ≤ μ 0 28 by omega), if_neg (by omega)]
      obtain ⟨m, h_m⟩ : ∃ m : Nat, μ 0 7 = m := ⟨(μ 0 7).toNat, by omega⟩
      refine j_mem (cpm_0 (src := 7) (sp := 0) (dst := 20) (dp := 4 * μ 0 28)).symm ?_
      refine down (Pr := fun i => JJ (EM x) X 1 (rI (μ 0 28) (up (up (up (cpm μ 7 0 20 (4 * μ 0 28) (μ 0 7)) 21 (μ 0 28) (μ 0 7)) 0 7 0) 0 28 (μ 0 28 + 1))) 2 34 [some (rf (EM x) 0), some (iv i)] [] (cpm μ 7 0 20 (4 * μ 0 28) i)) m ?_ 0 (Nat.zero_le _)
      intro i h_i ih
      refine j_iload_n G dX12_row_34 rfl ?_
      first | refine j_aload_n G dX12_row_35 rfl ?_ | refine j_aload_nN G dX12_row_35 rfl ?_
      refine j_geti G fl_X12_130 dX12_row_36 7 rfl (by first | assumption | rfl) (by rfl) (fun r_36 => ?_)
      try simp (disch := omega) only [up_same, up_cell, up_idx, cpm_at, fil_at] at r_36 ⊢
      refine j_icmp_ge G dX12_row_39 (tgt := 67) (by decide) (by omega) (by omega) (fun c_39 => ?_) (fun c_39 => ?_)
      · first | refine j_aload_n G dX12_row_67 rfl ?_ | refine j_aload_nN G dX12_row_67 rfl ?_
        refine j_getr G fl_X12_71 dX12_row_68 (by first | assumption | rfl) (by rfl) ?_
        first | refine j_aload_n G dX12_row_71 rfl ?_ | refine j_aload_nN G dX12_row_71 rfl ?_
        refine j_geti G fl_X12_235 dX12_row_72 28 rfl (by first | assumption | rfl) (by rfl) (fun r_72 => ?_)
        try simp (disch := omega) only [up_same, up_cell, up_idx, cpm_at, fil_at] at r_72 ⊢
        first | refine j_aload_n G dX12_row_75 rfl ?_ | refine j_aload_nN G dX12_row_75 rfl ?_
        refine j_geti G fl_X12_130 dX12_row_76 7 rfl (by first | assumption | rfl) (by rfl) (fun r_76 => ?_)
        try simp (disch := omega) only [up_same, up_cell, up_idx, cpm_at, fil_at] at r_76 ⊢
        refine j_iastore G dX12_row_79 (by first | assumption | rfl) (by omega) (by omega) ?_
        first | refine j_aload_n G dX12_row_80 rfl ?_ | refine j_aload_nN G dX12_row_80 rfl ?_
        refine j_iconst G dX12_row_81 ?_
        refine j_puti G fp_X12_130 dX12_row_82 7 rfl (by first | assumption | rfl) (by rfl) (by omega) ?_
        first | refine j_aload_n G dX12_row_85 rfl ?_ | refine j_aload_nN G dX12_row_85 rfl ?_
        refine j_pc (p2 := 86) rfl ?_
        refine j_dup G dX12_row_86 rfl ?_
        refine j_geti G fl_X12_235 dX12_row_87 28 rfl (by first | assumption | rfl) (by rfl) (fun r_87 => ?_)
        try simp (disch := omega) only [up_same, up_cell, up_idx, cpm_at, fil_at] at r_87 ⊢
        refine j_iconst G dX12_row_90 ?_
        refine j_iadd G dX12_row_91 ?_
        refine j_puti G fp_X12_235 dX12_row_92 28 rfl (by first | assumption | rfl) (by rfl) (by omega) ?_
        first | refine j_aload_n G dX12_row_95 rfl ?_ | refine j_aload_nN G dX12_row_95 rfl ?_
        refine j_geti G fl_X12_235 dX12_row_96 28 rfl (by first | assumption | rfl) (by rfl) (fun r_96 => ?_)
        try simp (disch := omega) only [up_same, up_cell, up_idx, cpm_at, fil_at] at r_96 ⊢
        refine j_iconst G dX12_row_99 ?_
        refine j_isub G dX12_row_100 ?_
        refine j_ireturn G dX12_row_101 ?_
        exact ⟨congrArg (fun z => some (iv z)) (by omega), by rw [show (i : Int) = μ 0 7 by omega]⟩
      · first | refine j_aload_n G dX12_row_42 rfl ?_ | refine j_aload_nN G dX12_row_42 rfl ?_
        refine j_getr G fl_X12_68 dX12_row_43 (by first | assumption | rfl) (by rfl) ?_
        refine j_iconst G dX12_row_46 ?_
        first | refine j_aload_n G dX12_row_47 rfl ?_ | refine j_aload_nN G dX12_row_47 rfl ?_
        refine j_geti G fl_X12_235 dX12_row_48 28 rfl (by first | assumption | rfl) (by rfl) (fun r_48 => ?_)
        try simp (disch := omega) only [up_same, up_cell, up_idx, cpm_at, fil_at] at r_48 ⊢
        refine j_imul G dX12_row_51 ?_
        refine j_iload_n G dX12_row_52 rfl ?_
        refine j_iadd G dX12_row_53 ?_
        first | refine j_aload_n G dX12_row_54 rfl ?_ | refine j_aload_nN G dX12_row_54 rfl ?_
        refine j_getr G fl_X12_28 dX12_row_55 (by first | assumption | rfl) (by rfl) ?_
        refine j_iload_n G dX12_row_58 rfl ?_
        refine j_pc (p2 := 59) rfl ?_
        refine j_iaload G dX12_row_59 (by first | assumption | rfl) (by omega) (fun r_59 => ?_)
        try simp (disch := omega) only [up_same, up_cell, up_idx, cpm_at, fil_at] at r_59 ⊢
        refine j_iastore G dX12_row_60 (by first | assumption | rfl) (by omega) (by omega) ?_
        refine j_iinc1 G dX12_row_61 (by decide) rfl rfl ?_
        refine j_goto G dX12_row_64 (tgt := 34) (by decide) ?_
        refine j_pc (p2 := 34) rfl ?_
        exact j_mem (by rw [show μ 7 i = μ 7 (0 + i) by rw [Int.zero_add]]; exact cpm_s (by omega)) (ih (by omega))
    · refine j_bipush G dX12_row_29 (by decide) ?_
      refine j_ireturn G dX12_row_31 ?_
      repeat' split
      all_goals first | exact ⟨rfl, rfl⟩ | omega
  · refine j_bipush G dX12_row_9 (by decide) ?_
    refine j_ireturn G dX12_row_11 ?_
    repeat' split
    all_goals first | exact ⟨rfl, rfl⟩ | omega
theorem m_abbreviate (code : Int) (h_1 : (-2147483648 ≤ code ∧ code < 2147483648)) (h_w : 0 ≤ code → code ≤ 4 → 0 ≤ μ 6 code ∧ μ 6 code ≤ 12) (h_p : 0 ≤ μ 0 7 ∧ μ 0 7 ≤ 10) (h_d : 0 ≤ μ 0 9 ∧ μ 0 9 ≤ 12) : CT (EM x) 2 yX12_abbreviate [rf (EM x) 0, iv code] μ
    (if ¬ (0 ≤ code ∧ code ≤ 4) then rI (-1) μ else if 12 ≤ μ 6 code then rI (-4) μ else if ¬ ((2 ≤ μ 0 7 ∧ μ 0 7 ≤ 4) ∧ 1 ≤ μ 0 9 ∧ μ 0 9 ≤ 2) then rI (-5) μ else
     rI (μ 6 code) (up (up (up (up (up (cpm (cpm μ 7 0 2 (4 * (12 * code + μ 6 code)) (μ 0 7)) 8 0 4 (2 * (12 * code + μ 6 code)) (μ 0 9)) 3 (12 * code + μ 6 code) (μ 0 7)) 5 (12 * code + μ 6 code) (μ 0 9)) 0 7 0) 0 9 0) 6 code (μ 6 code + 1))) := by
  refine CT.ofJ (own := RX12) (cc := cX12_abbreviate) (n := 4) (ret := (some .int)) (by decide) rfl cw_X12_abbreviate (by decide) (Nat.le_of_ble_eq_true rfl) (ls := [some (rf (EM x) 0), some (iv code), none, none]) rfl ?_
  intro X G
  refine j_iload_n G dX12_abbreviate_0 rfl ?_
  refine j_callS G ms_X12_121 dX12_abbreviate_1 (m_isCode code h_1) rfl rfl (by exact Nat.le_of_ble_eq_true rfl) (by decide) (kI ?_)
  refine j_if_neB G dX12_abbreviate_4 (tgt := 9) (by decide)  (fun c_4 => ?_) (fun c_4 => ?_)
  · first | refine j_aload_n G dX12_abbreviate_9 rfl ?_ | refine j_aload_nN G dX12_abbreviate_9 rfl ?_
    refine j_getr G fl_X12_25 dX12_abbreviate_10 (by first | assumption | rfl) (by rfl) ?_
    refine j_iload_n G dX12_abbreviate_13 rfl ?_
    have h_w2 := h_w (by omega) (by omega)
    refine j_iaload G dX12_abbreviate_14 (by first | assumption | rfl) (by omega) (fun r_14 => ?_)
    try simp (disch := omega) only [up_same, up_cell, up_idx, cpm_at, fil_at] at r_14 ⊢
    refine j_bipush G dX12_abbreviate_15 (by decide) ?_
    refine j_icmp_ne G dX12_abbreviate_17 (tgt := 23) (by decide) (by omega) (by omega) (fun c_17 => ?_) (fun c_17 => ?_)
    · first | refine j_aload_n G dX12_abbreviate_23 rfl ?_ | refine j_aload_nN G dX12_abbreviate_23 rfl ?_
      refine j_geti G fl_X12_130 dX12_abbreviate_24 7 rfl (by first | assumption | rfl) (by rfl) (fun r_24 => ?_)
      try simp (disch := omega) only [up_same, up_cell, up_idx, cpm_at, fil_at] at r_24 ⊢
      refine j_i2l G (by omega) dX12_abbreviate_27 ?_
      refine j_ldc2I G (2) kl_X12_140 dX12_abbreviate_28 (by decide) ?_
      refine j_ldc2I G (4) kl_X12_113 dX12_abbreviate_31 (by decide) ?_
      refine j_callS G ms_X12_115 dX12_abbreviate_34 (m_in _ _ _ (by omega) (by omega) (by omega)) rfl rfl (by exact Nat.le_of_ble_eq_true rfl) (by decide) (kI ?_)
      refine j_if_eqB G dX12_abbreviate_37 (tgt := 55) (by decide)  (fun c_37 => ?_) (fun c_37 => ?_)
      · refine j_bipush G dX12_abbreviate_55 (by decide) ?_
        refine j_ireturn G dX12_abbreviate_57 ?_
        repeat' split
        all_goals first | exact ⟨rfl, rfl⟩ | omega
      · first | refine j_aload_n G dX12_abbreviate_40 rfl ?_ | refine j_aload_nN G dX12_abbreviate_40 rfl ?_
        refine j_geti G fl_X12_134 dX12_abbreviate_41 9 rfl (by first | assumption | rfl) (by rfl) (fun r_41 => ?_)
        try simp (disch := omega) only [up_same, up_cell, up_idx, cpm_at, fil_at] at r_41 ⊢
        refine j_i2l G (by omega) dX12_abbreviate_44 ?_
        refine j_lconstI G 1 dX12_abbreviate_45 (by decide) ?_
        refine j_ldc2I G (2) kl_X12_140 dX12_abbreviate_46 (by decide) ?_
        refine j_callS G ms_X12_115 dX12_abbreviate_49 (m_in _ _ _ (by omega) (by omega) (by omega)) rfl rfl (by exact Nat.le_of_ble_eq_true rfl) (by decide) (kI ?_)
        refine j_if_neB G dX12_abbreviate_52 (tgt := 58) (by decide)  (fun c_52 => ?_) (fun c_52 => ?_)
        · refine j_bipush G dX12_abbreviate_58 (by decide) ?_
          refine j_iload_n G dX12_abbreviate_60 rfl ?_
          refine j_imul G dX12_abbreviate_61 ?_
          first | refine j_aload_n G dX12_abbreviate_62 rfl ?_ | refine j_aload_nN G dX12_abbreviate_62 rfl ?_
          refine j_getr G fl_X12_25 dX12_abbreviate_63 (by first | assumption | rfl) (by rfl) ?_
          refine j_iload_n G dX12_abbreviate_66 rfl ?_
          refine j_iaload G dX12_abbreviate_67 (by first | assumption | rfl) (by omega) (fun r_67 => ?_)
          try simp (disch := omega) only [up_same, up_cell, up_idx, cpm_at, fil_at] at r_67 ⊢
          refine j_iadd G dX12_abbreviate_68 ?_
          refine j_istore2 G dX12_abbreviate_69 (by decide) rfl ?_
          refine j_iconst G dX12_abbreviate_70 ?_
          refine j_istore3 G dX12_abbreviate_71 (by decide) rfl ?_
          refine j_pc (p2 := 72) rfl ?_
          rw [if_neg (show ¬ ¬ (0 ≤ code ∧ code ≤ 4) by omega), if_neg (show ¬ 12 ≤ μ 6 code by omega), if_neg (by omega)]
          obtain ⟨m, h_m⟩ : ∃ m : Nat, μ 0 7 = m := ⟨(μ 0 7).toNat, by omega⟩
          obtain ⟨m2, h_m2⟩ : ∃ m2 : Nat, μ 0 9 = m2 := ⟨(μ 0 9).toNat, by omega⟩
          generalize h_pst : rI (μ 6 code) (up (up (up (up (up (cpm (cpm μ 7 0 2 (4 * (12 * code + μ 6 code)) (μ 0 7)) 8 0 4 (2 * (12 * code + μ 6 code)) (μ 0 9)) 3 (12 * code + μ 6 code) (μ 0 7)) 5 (12 * code + μ 6 code) (μ 0 9)) 0 7 0) 0 9 0) 6 code (μ 6 code + 1)) = pst
          have h_2 : ∀ i, i ≤ m2 → JJ (EM x) X 2 pst 4 104 [some (rf (EM x) 0), some (iv code), some (iv (12 * code + μ 6 code)), some (iv i)] [] (cpm (cpm μ 7 0 2 (4 * (12 * code + μ 6 code)) (μ 0 7)) 8 0 4 (2 * (12 * code + μ 6 code)) i) := by
            refine down (Pr := fun i => JJ (EM x) X 2 pst 4 104 [some (rf (EM x) 0), some (iv code), some (iv (12 * code + μ 6 code)), some (iv i)] [] (cpm (cpm μ 7 0 2 (4 * (12 * code + μ 6 code)) (μ 0 7)) 8 0 4 (2 * (12 * code + μ 6 code)) i)) m2 ?_
            intro i h_i ih
            refine j_iload_n G dX12_abbreviate_104 rfl ?_
            first | refine j_aload_n G dX12_abbreviate_105 rfl ?_ | refine j_aload_nN G dX12_abbreviate_105 rfl ?_
            refine j_geti G fl_X12_134 dX12_abbreviate_106 9 rfl (by first | assumption | rfl) (by rfl) (fun r_106 => ?_)
            try simp (disch := omega) only [up_same, up_cell, up_idx, cpm_at, fil_at] at r_106 ⊢
            refine j_icmp_ge G dX12_abbreviate_109 (tgt := 134) (by decide) (by omega) (by omega) (fun c_109 => ?_) (fun c_109 => ?_)
            · first | refine j_aload_n G dX12_abbreviate_134 rfl ?_ | refine j_aload_nN G dX12_abbreviate_134 rfl ?_
              refine j_getr G fl_X12_16 dX12_abbreviate_135 (by first | assumption | rfl) (by rfl) ?_
              refine j_iload_n G dX12_abbreviate_138 rfl ?_
              first | refine j_aload_n G dX12_abbreviate_139 rfl ?_ | refine j_aload_nN G dX12_abbreviate_139 rfl ?_
              refine j_geti G fl_X12_130 dX12_abbreviate_140 7 rfl (by first | assumption | rfl) (by rfl) (fun r_140 => ?_)
              try simp (disch := omega) only [up_same, up_cell, up_idx, cpm_at, fil_at] at r_140 ⊢
              refine j_iastore G dX12_abbreviate_143 (by first | assumption | rfl) (by omega) (by omega) ?_
              first | refine j_aload_n G dX12_abbreviate_144 rfl ?_ | refine j_aload_nN G dX12_abbreviate_144 rfl ?_
              refine j_getr G fl_X12_22 dX12_abbreviate_145 (by first | assumption | rfl) (by rfl) ?_
              refine j_iload_n G dX12_abbreviate_148 rfl ?_
              first | refine j_aload_n G dX12_abbreviate_149 rfl ?_ | refine j_aload_nN G dX12_abbreviate_149 rfl ?_
              refine j_geti G fl_X12_134 dX12_abbreviate_150 9 rfl (by first | assumption | rfl) (by rfl) (fun r_150 => ?_)
              try simp (disch := omega) only [up_same, up_cell, up_idx, cpm_at, fil_at] at r_150 ⊢
              refine j_pc (p2 := 153) rfl ?_
              refine j_iastore G dX12_abbreviate_153 (by first | assumption | rfl) (by omega) (by omega) ?_
              first | refine j_aload_n G dX12_abbreviate_154 rfl ?_ | refine j_aload_nN G dX12_abbreviate_154 rfl ?_
              refine j_iconst G dX12_abbreviate_155 ?_
              refine j_puti G fp_X12_130 dX12_abbreviate_156 7 rfl (by first | assumption | rfl) (by rfl) (by omega) ?_
              first | refine j_aload_n G dX12_abbreviate_159 rfl ?_ | refine j_aload_nN G dX12_abbreviate_159 rfl ?_
              refine j_iconst G dX12_abbreviate_160 ?_
              refine j_puti G fp_X12_134 dX12_abbreviate_161 9 rfl (by first | assumption | rfl) (by rfl) (by omega) ?_
              first | refine j_aload_n G dX12_abbreviate_164 rfl ?_ | refine j_aload_nN G dX12_abbreviate_164 rfl ?_
              refine j_getr G fl_X12_25 dX12_abbreviate_165 (by first | assumption | rfl) (by rfl) ?_
              refine j_iload_n G dX12_abbreviate_168 rfl ?_
              refine j_dup2 G dX12_abbreviate_169 rfl rfl ?_
              refine j_iaload G dX12_abbreviate_170 (by first | assumption | rfl) (by omega) (fun r_170 => ?_)
              try simp (disch := omega) only [up_same, up_cell, up_idx, cpm_at, fil_at] at r_170 ⊢
              refine j_pc (p2 := 171) rfl ?_
              refine j_iconst G dX12_abbreviate_171 ?_
              refine j_iadd G dX12_abbreviate_172 ?_
              refine j_iastore G dX12_abbreviate_173 (by first | assumption | rfl) (by omega) (by omega) ?_
              first | refine j_aload_n G dX12_abbreviate_174 rfl ?_ | refine j_aload_nN G dX12_abbreviate_174 rfl ?_
              refine j_getr G fl_X12_25 dX12_abbreviate_175 (by first | assumption | rfl) (by rfl) ?_
              refine j_iload_n G dX12_abbreviate_178 rfl ?_
              refine j_iaload G dX12_abbreviate_179 (by first | assumption | rfl) (by omega) (fun r_179 => ?_)
              try simp (disch := omega) only [up_same, up_cell, up_idx, cpm_at, fil_at] at r_179 ⊢
              refine j_iconst G dX12_abbreviate_180 ?_
              refine j_isub G dX12_abbreviate_181 ?_
              refine j_ireturn G dX12_abbreviate_182 ?_
              rw [← h_pst, show (i : Int) = μ 0 9 by omega]
              exact ⟨congrArg (fun z => some (iv z)) (by omega), rfl⟩
            · first | refine j_aload_n G dX12_abbreviate_112 rfl ?_ | refine j_aload_nN G dX12_abbreviate_112 rfl ?_
              refine j_getr G fl_X12_19 dX12_abbreviate_113 (by first | assumption | rfl) (by rfl) ?_
              refine j_iconst G dX12_abbreviate_116 ?_
              refine j_iload_n G dX12_abbreviate_117 rfl ?_
              refine j_imul G dX12_abbreviate_118 ?_
              refine j_iload_n G dX12_abbreviate_119 rfl ?_
              refine j_iadd G dX12_abbreviate_120 ?_
              first | refine j_aload_n G dX12_abbreviate_121 rfl ?_ | refine j_aload_nN G dX12_abbreviate_121 rfl ?_
              refine j_getr G fl_X12_31 dX12_abbreviate_122 (by first | assumption | rfl) (by rfl) ?_
              refine j_iload_n G dX12_abbreviate_125 rfl ?_
              refine j_iaload G dX12_abbreviate_126 (by first | assumption | rfl) (by omega) (fun r_126 => ?_)
              try simp (disch := omega) only [up_same, up_cell, up_idx, cpm_at, fil_at] at r_126 ⊢
              refine j_pc (p2 := 127) rfl ?_
              refine j_iastore G dX12_abbreviate_127 (by first | assumption | rfl) (by omega) (by omega) ?_
              refine j_iinc3 G dX12_abbreviate_128 (by decide) rfl rfl ?_
              refine j_goto G dX12_abbreviate_131 (tgt := 104) (by decide) ?_
              refine j_pc (p2 := 104) rfl ?_
              exact j_mem (by rw [show μ 8 i = cpm μ 7 0 2 (4 * (12 * code + μ 6 code)) (μ 0 7) 8 (0 + i) by rw [Int.zero_add, cpm_at (by decide)]]; exact cpm_s (by omega)) (ih (by omega))
          refine j_mem (cpm_0 (src := 7) (sp := 0) (dst := 2) (dp := 4 * (12 * code + μ 6 code))).symm ?_
          refine down (Pr := fun i => JJ (EM x) X 2 pst 4 72 [some (rf (EM x) 0), some (iv code), some (iv (12 * code + μ 6 code)), some (iv i)] [] (cpm μ 7 0 2 (4 * (12 * code + μ 6 code)) i)) m ?_ 0 (Nat.zero_le _)
          intro i h_i ih
          refine j_iload_n G dX12_abbreviate_72 rfl ?_
          first | refine j_aload_n G dX12_abbreviate_73 rfl ?_ | refine j_aload_nN G dX12_abbreviate_73 rfl ?_
          refine j_geti G fl_X12_130 dX12_abbreviate_74 7 rfl (by first | assumption | rfl) (by rfl) (fun r_74 => ?_)
          try simp (disch := omega) only [up_same, up_cell, up_idx, cpm_at, fil_at] at r_74 ⊢
          refine j_icmp_ge G dX12_abbreviate_77 (tgt := 102) (by decide) (by omega) (by omega) (fun c_77 => ?_) (fun c_77 => ?_)
          · refine j_iconst G dX12_abbreviate_102 ?_
            refine j_istore3 G dX12_abbreviate_103 (by decide) rfl ?_
            refine j_pc (p2 := 104) rfl ?_
            rw [show (i : Int) = μ 0 7 by omega]
            exact j_mem cpm_0.symm (h_2 0 (Nat.zero_le _))
          · first | refine j_aload_n G dX12_abbreviate_80 rfl ?_ | refine j_aload_nN G dX12_abbreviate_80 rfl ?_
            refine j_getr G fl_X12_13 dX12_abbreviate_81 (by first | assumption | rfl) (by rfl) ?_
            refine j_iconst G dX12_abbreviate_84 ?_
            refine j_iload_n G dX12_abbreviate_85 rfl ?_
            refine j_imul G dX12_abbreviate_86 ?_
            refine j_iload_n G dX12_abbreviate_87 rfl ?_
            refine j_iadd G dX12_abbreviate_88 ?_
            first | refine j_aload_n G dX12_abbreviate_89 rfl ?_ | refine j_aload_nN G dX12_abbreviate_89 rfl ?_
            refine j_getr G fl_X12_28 dX12_abbreviate_90 (by first | assumption | rfl) (by rfl) ?_
            refine j_iload_n G dX12_abbreviate_93 rfl ?_
            refine j_iaload G dX12_abbreviate_94 (by first | assumption | rfl) (by omega) (fun r_94 => ?_)
            try simp (disch := omega) only [up_same, up_cell, up_idx, cpm_at, fil_at] at r_94 ⊢
            refine j_pc (p2 := 95) rfl ?_
            refine j_iastore G dX12_abbreviate_95 (by first | assumption | rfl) (by omega) (by omega) ?_
            refine j_iinc3 G dX12_abbreviate_96 (by decide) rfl rfl ?_
            refine j_goto G dX12_abbreviate_99 (tgt := 72) (by decide) ?_
            refine j_pc (p2 := 72) rfl ?_
            exact j_mem (by rw [show μ 7 i = μ 7 (0 + i) by rw [Int.zero_add]]; exact cpm_s (by omega)) (ih (by omega))
        · refine j_bipush G dX12_abbreviate_55 (by decide) ?_
          refine j_ireturn G dX12_abbreviate_57 ?_
          repeat' split
          all_goals first | exact ⟨rfl, rfl⟩ | omega
    · refine j_bipush G dX12_abbreviate_20 (by decide) ?_
      refine j_ireturn G dX12_abbreviate_22 ?_
      repeat' split
      all_goals first | exact ⟨rfl, rfl⟩ | omega
  · refine j_iconst G dX12_abbreviate_7 ?_
    refine j_ireturn G dX12_abbreviate_8 ?_
    repeat' split
    all_goals first | exact ⟨rfl, rfl⟩ | omega
theorem m_count (b w n : Int) (h_1 : (-2147483648 ≤ b ∧ b < 2147483648)) (h_2 : (-2147483648 ≤ w ∧ w < 2147483648)) (h_3 : (-2147483648 ≤ n ∧ n < 2147483648)) (h_w : 0 ≤ μ 0 22 ∧ μ 0 22 ≤ 30) : CT (EM x) 2 yX12_count [rf (EM x) 0, iv b, iv w, iv n] μ
    (if ¬ ((0 ≤ b ∧ b ≤ 7) ∧ 0 ≤ w ∧ w ≤ μ 0 22 - 1) then rI (-1) μ else if ¬ (0 ≤ n ∧ n ≤ 1000) then rI (-2) μ else rI (μ 19 (30 * b + w)) (up μ 19 (30 * b + w) n)) := by
  refine CT.ofJ (own := RX12) (cc := cX12_count) (n := 5) (ret := (some .int)) (by decide) rfl cw_X12_count (by decide) (Nat.le_of_ble_eq_true rfl) (ls := [some (rf (EM x) 0), some (iv b), some (iv w), some (iv n), none]) rfl ?_
  intro X G
  refine j_iload_n G dX12_count_0 rfl ?_
  refine j_callS G ms_X12_218 dX12_count_1 (m_isBook b h_1) rfl rfl (by exact Nat.le_of_ble_eq_true rfl) (by decide) (kI ?_)
  refine j_if_eqB G dX12_count_4 (tgt := 23) (by decide)  (fun c_4 => ?_) (fun c_4 => ?_)
  · refine j_iconst G dX12_count_23 ?_
    refine j_ireturn G dX12_count_24 ?_
    repeat' split
    all_goals first | exact ⟨rfl, rfl⟩ | omega
  · refine j_iload_n G dX12_count_7 rfl ?_
    refine j_i2l G (by omega) dX12_count_8 ?_
    refine j_lconstI G 0 dX12_count_9 (by decide) ?_
    first | refine j_aload_n G dX12_count_10 rfl ?_ | refine j_aload_nN G dX12_count_10 rfl ?_
    refine j_geti G fl_X12_213 dX12_count_11 22 rfl (by first | assumption | rfl) (by rfl) (fun r_11 => ?_)
    try simp (disch := omega) only [up_same, up_cell, up_idx, cpm_at, fil_at] at r_11 ⊢
    refine j_iconst G dX12_count_14 ?_
    refine j_isub G dX12_count_15 ?_
    refine j_i2l G (by omega) dX12_count_16 ?_
    refine j_callS G ms_X12_115 dX12_count_17 (m_in _ _ _ (by omega) (by omega) (by omega)) rfl rfl (by exact Nat.le_of_ble_eq_true rfl) (by decide) (kI ?_)
    refine j_if_neB G dX12_count_20 (tgt := 25) (by decide)  (fun c_20 => ?_) (fun c_20 => ?_)
    · refine j_iload_n G dX12_count_25 rfl ?_
      refine j_i2l G (by omega) dX12_count_26 ?_
      refine j_lconstI G 0 dX12_count_27 (by decide) ?_
      refine j_ldc2I G (1000) kl_X12_221 dX12_count_28 (by decide) ?_
      refine j_callS G ms_X12_115 dX12_count_31 (m_in _ _ _ (by omega) (by omega) (by omega)) rfl rfl (by exact Nat.le_of_ble_eq_true rfl) (by decide) (kI ?_)
      refine j_if_neB G dX12_count_34 (tgt := 40) (by decide)  (fun c_34 => ?_) (fun c_34 => ?_)
      · first | refine j_aload_n G dX12_count_40 rfl ?_ | refine j_aload_nN G dX12_count_40 rfl ?_
        refine j_getr G fl_X12_65 dX12_count_41 (by first | assumption | rfl) (by rfl) ?_
        refine j_bipush G dX12_count_44 (by decide) ?_
        refine j_iload_n G dX12_count_46 rfl ?_
        refine j_imul G dX12_count_47 ?_
        refine j_iload_n G dX12_count_48 rfl ?_
        refine j_iadd G dX12_count_49 ?_
        refine j_iaload G dX12_count_50 (by first | assumption | rfl) (by omega) (fun r_50 => ?_)
        try simp (disch := omega) only [up_same, up_cell, up_idx, cpm_at, fil_at] at r_50 ⊢
        refine j_istore4 G dX12_count_51 (by decide) rfl ?_
        first | refine j_aload_n G dX12_count_53 rfl ?_ | refine j_aload_nN G dX12_count_53 rfl ?_
        refine j_getr G fl_X12_65 dX12_count_54 (by first | assumption | rfl) (by rfl) ?_
        refine j_pc (p2 := 57) rfl ?_
        refine j_bipush G dX12_count_57 (by decide) ?_
        refine j_iload_n G dX12_count_59 rfl ?_
        refine j_imul G dX12_count_60 ?_
        refine j_iload_n G dX12_count_61 rfl ?_
        refine j_iadd G dX12_count_62 ?_
        refine j_iload_n G dX12_count_63 rfl ?_
        refine j_iastore G dX12_count_64 (by first | assumption | rfl) (by omega) (by omega) ?_
        refine j_iload G dX12_count_65 rfl ?_
        refine j_ireturn G dX12_count_67 ?_
        repeat' split
        all_goals first | exact ⟨rfl, rfl⟩ | omega
      · refine j_bipush G dX12_count_37 (by decide) ?_
        refine j_ireturn G dX12_count_39 ?_
        repeat' split
        all_goals first | exact ⟨rfl, rfl⟩ | omega
    · refine j_iconst G dX12_count_23 ?_
      refine j_ireturn G dX12_count_24 ?_
      repeat' split
      all_goals first | exact ⟨rfl, rfl⟩ | omega
theorem m_reader (age s q : Int) (h_1 : (-2147483648 ≤ age ∧ age < 2147483648)) (h_2 : (-2147483648 ≤ s ∧ s < 2147483648)) (h_q : q = 0 ∨ q = 1) (h_n : 0 ≤ μ 0 33 ∧ μ 0 33 ≤ 20) : CT (EM x) 2 yX12_reader [rf (EM x) 0, iv age, iv s, iv q] μ
    (if ¬ (0 ≤ s ∧ s ≤ 5) then rI (-1) μ else if ¬ (5 ≤ age ∧ age ≤ 90) then rI (-2) μ else if 20 ≤ μ 0 33 then rI (-4) μ else rI (μ 0 33) (up (up (up (up μ 22 (μ 0 33) age) 23 (μ 0 33) s) 24 (μ 0 33) q) 0 33 (μ 0 33 + 1))) := by
  refine CT.ofJ (own := RX12) (cc := cX12_reader) (n := 4) (ret := (some .int)) (by decide) rfl cw_X12_reader (by decide) (Nat.le_of_ble_eq_true rfl) (ls := [some (rf (EM x) 0), some (iv age), some (iv s), some (iv q)]) rfl ?_
  intro X G
  refine j_iload_n G dX12_reader_0 rfl ?_
  refine j_callS G ms_X12_254 dX12_reader_1 (m_isSchool s h_2) rfl rfl (by exact Nat.le_of_ble_eq_true rfl) (by decide) (kI ?_)
  refine j_if_neB G dX12_reader_4 (tgt := 9) (by decide)  (fun c_4 => ?_) (fun c_4 => ?_)
  · refine j_iload_n G dX12_reader_9 rfl ?_
    refine j_i2l G (by omega) dX12_reader_10 ?_
    refine j_ldc2I G (5) kl_X12_252 dX12_reader_11 (by decide) ?_
    refine j_ldc2I G (90) kl_X12_257 dX12_reader_14 (by decide) ?_
    refine j_callS G ms_X12_115 dX12_reader_17 (m_in _ _ _ (by omega) (by omega) (by omega)) rfl rfl (by exact Nat.le_of_ble_eq_true rfl) (by decide) (kI ?_)
    refine j_if_neB G dX12_reader_20 (tgt := 26) (by decide)  (fun c_20 => ?_) (fun c_20 => ?_)
    · first | refine j_aload_n G dX12_reader_26 rfl ?_ | refine j_aload_nN G dX12_reader_26 rfl ?_
      refine j_geti G fl_X12_249 dX12_reader_27 33 rfl (by first | assumption | rfl) (by rfl) (fun r_27 => ?_)
      try simp (disch := omega) only [up_same, up_cell, up_idx, cpm_at, fil_at] at r_27 ⊢
      refine j_bipush G dX12_reader_30 (by decide) ?_
      refine j_icmp_ne G dX12_reader_32 (tgt := 38) (by decide) (by omega) (by omega) (fun c_32 => ?_) (fun c_32 => ?_)
      · first | refine j_aload_n G dX12_reader_38 rfl ?_ | refine j_aload_nN G dX12_reader_38 rfl ?_
        refine j_getr G fl_X12_74 dX12_reader_39 (by first | assumption | rfl) (by rfl) ?_
        first | refine j_aload_n G dX12_reader_42 rfl ?_ | refine j_aload_nN G dX12_reader_42 rfl ?_
        refine j_geti G fl_X12_249 dX12_reader_43 33 rfl (by first | assumption | rfl) (by rfl) (fun r_43 => ?_)
        try simp (disch := omega) only [up_same, up_cell, up_idx, cpm_at, fil_at] at r_43 ⊢
        refine j_iload_n G dX12_reader_46 rfl ?_
        refine j_iastore G dX12_reader_47 (by first | assumption | rfl) (by omega) (by omega) ?_
        first | refine j_aload_n G dX12_reader_48 rfl ?_ | refine j_aload_nN G dX12_reader_48 rfl ?_
        refine j_getr G fl_X12_77 dX12_reader_49 (by first | assumption | rfl) (by rfl) ?_
        first | refine j_aload_n G dX12_reader_52 rfl ?_ | refine j_aload_nN G dX12_reader_52 rfl ?_
        refine j_geti G fl_X12_249 dX12_reader_53 33 rfl (by first | assumption | rfl) (by rfl) (fun r_53 => ?_)
        try simp (disch := omega) only [up_same, up_cell, up_idx, cpm_at, fil_at] at r_53 ⊢
        refine j_iload_n G dX12_reader_56 rfl ?_
        refine j_pc (p2 := 57) rfl ?_
        refine j_iastore G dX12_reader_57 (by first | assumption | rfl) (by omega) (by omega) ?_
        first | refine j_aload_n G dX12_reader_58 rfl ?_ | refine j_aload_nN G dX12_reader_58 rfl ?_
        refine j_getr G fl_X12_80 dX12_reader_59 (by first | assumption | rfl) (by rfl) ?_
        first | refine j_aload_n G dX12_reader_62 rfl ?_ | refine j_aload_nN G dX12_reader_62 rfl ?_
        refine j_geti G fl_X12_249 dX12_reader_63 33 rfl (by first | assumption | rfl) (by rfl) (fun r_63 => ?_)
        try simp (disch := omega) only [up_same, up_cell, up_idx, cpm_at, fil_at] at r_63 ⊢
        refine j_iload_n G dX12_reader_66 rfl ?_
        refine j_bastore G dX12_reader_67 (by first | assumption | rfl) (by omega) (by omega) ?_
        first | refine j_aload_n G dX12_reader_68 rfl ?_ | refine j_aload_nN G dX12_reader_68 rfl ?_
        refine j_dup G dX12_reader_69 rfl ?_
        refine j_geti G fl_X12_249 dX12_reader_70 33 rfl (by first | assumption | rfl) (by rfl) (fun r_70 => ?_)
        try simp (disch := omega) only [up_same, up_cell, up_idx, cpm_at, fil_at] at r_70 ⊢
        refine j_iconst G dX12_reader_73 ?_
        refine j_iadd G dX12_reader_74 ?_
        refine j_pc (p2 := 75) rfl ?_
        refine j_puti G fp_X12_249 dX12_reader_75 33 rfl (by first | assumption | rfl) (by rfl) (by omega) ?_
        first | refine j_aload_n G dX12_reader_78 rfl ?_ | refine j_aload_nN G dX12_reader_78 rfl ?_
        refine j_geti G fl_X12_249 dX12_reader_79 33 rfl (by first | assumption | rfl) (by rfl) (fun r_79 => ?_)
        try simp (disch := omega) only [up_same, up_cell, up_idx, cpm_at, fil_at] at r_79 ⊢
        refine j_iconst G dX12_reader_82 ?_
        refine j_isub G dX12_reader_83 ?_
        refine j_ireturn G dX12_reader_84 ?_
        repeat' split
        all_goals first | exact ⟨rfl, rfl⟩ | omega | skip
        all_goals exact ⟨congrArg (fun z => some (iv z)) (by omega), rfl⟩
      · refine j_bipush G dX12_reader_35 (by decide) ?_
        refine j_ireturn G dX12_reader_37 ?_
        repeat' split
        all_goals first | exact ⟨rfl, rfl⟩ | omega | skip
        all_goals exact ⟨congrArg (fun z => some (iv z)) (by omega), rfl⟩
    · refine j_bipush G dX12_reader_23 (by decide) ?_
      refine j_ireturn G dX12_reader_25 ?_
      repeat' split
      all_goals first | exact ⟨rfl, rfl⟩ | omega | skip
      all_goals exact ⟨congrArg (fun z => some (iv z)) (by omega), rfl⟩
  · refine j_iconst G dX12_reader_7 ?_
    refine j_ireturn G dX12_reader_8 ?_
    repeat' split
    all_goals first | exact ⟨rfl, rfl⟩ | omega | skip
    all_goals exact ⟨congrArg (fun z => some (iv z)) (by omega), rfl⟩
theorem m_know (r c y : Int) (h_1 : (-2147483648 ≤ r ∧ r < 2147483648)) (h_2 : (-2147483648 ≤ c ∧ c < 2147483648)) (h_3 : (-2147483648 ≤ y ∧ y < 2147483648)) (h_n : 0 ≤ μ 0 33 ∧ μ 0 33 ≤ 20) : CT (EM x) 2 yX12_know [rf (EM x) 0, iv r, iv c, iv y] μ
    (if ¬ ((0 ≤ r ∧ r ≤ μ 0 33 - 1) ∧ 0 ≤ c ∧ c ≤ 4) then rI (-1) μ else if ¬ (0 ≤ y ∧ y ≤ 50) then rI (-2) μ else rI (μ 25 (5 * r + c)) (up μ 25 (5 * r + c) y)) := by
  refine CT.ofJ (own := RX12) (cc := cX12_know) (n := 5) (ret := (some .int)) (by decide) rfl cw_X12_know (by decide) (Nat.le_of_ble_eq_true rfl) (ls := [some (rf (EM x) 0), some (iv r), some (iv c), some (iv y), none]) rfl ?_
  intro X G
  first | refine j_aload_n G dX12_know_0 rfl ?_ | refine j_aload_nN G dX12_know_0 rfl ?_
  refine j_iload_n G dX12_know_1 rfl ?_
  refine j_callV G mv_X12_259 dX12_know_2 (m_isReader r h_1 h_n) (by first | assumption | rfl) (by decide) (by rfl) rfl rfl (by exact Nat.le_of_ble_eq_true rfl) (by decide) (kI ?_)
  refine j_if_eqB G dX12_know_5 (tgt := 15) (by decide)  (fun c_5 => ?_) (fun c_5 => ?_)
  · refine j_iconst G dX12_know_15 ?_
    refine j_ireturn G dX12_know_16 ?_
    repeat' split
    all_goals first | exact ⟨rfl, rfl⟩ | omega
  · refine j_iload_n G dX12_know_8 rfl ?_
    refine j_callS G ms_X12_121 dX12_know_9 (m_isCode c h_2) rfl rfl (by exact Nat.le_of_ble_eq_true rfl) (by decide) (kI ?_)
    refine j_if_neB G dX12_know_12 (tgt := 17) (by decide)  (fun c_12 => ?_) (fun c_12 => ?_)
    · refine j_iload_n G dX12_know_17 rfl ?_
      refine j_i2l G (by omega) dX12_know_18 ?_
      refine j_lconstI G 0 dX12_know_19 (by decide) ?_
      refine j_ldc2I G (50) kl_X12_262 dX12_know_20 (by decide) ?_
      refine j_callS G ms_X12_115 dX12_know_23 (m_in _ _ _ (by omega) (by omega) (by omega)) rfl rfl (by exact Nat.le_of_ble_eq_true rfl) (by decide) (kI ?_)
      refine j_if_neB G dX12_know_26 (tgt := 32) (by decide)  (fun c_26 => ?_) (fun c_26 => ?_)
      · first | refine j_aload_n G dX12_know_32 rfl ?_ | refine j_aload_nN G dX12_know_32 rfl ?_
        refine j_getr G fl_X12_83 dX12_know_33 (by first | assumption | rfl) (by rfl) ?_
        refine j_iconst G dX12_know_36 ?_
        refine j_iload_n G dX12_know_37 rfl ?_
        refine j_imul G dX12_know_38 ?_
        refine j_iload_n G dX12_know_39 rfl ?_
        refine j_iadd G dX12_know_40 ?_
        refine j_iaload G dX12_know_41 (by first | assumption | rfl) (by omega) (fun r_41 => ?_)
        try simp (disch := omega) only [up_same, up_cell, up_idx, cpm_at, fil_at] at r_41 ⊢
        refine j_istore4 G dX12_know_42 (by decide) rfl ?_
        first | refine j_aload_n G dX12_know_44 rfl ?_ | refine j_aload_nN G dX12_know_44 rfl ?_
        refine j_getr G fl_X12_83 dX12_know_45 (by first | assumption | rfl) (by rfl) ?_
        refine j_pc (p2 := 48) rfl ?_
        refine j_iconst G dX12_know_48 ?_
        refine j_iload_n G dX12_know_49 rfl ?_
        refine j_imul G dX12_know_50 ?_
        refine j_iload_n G dX12_know_51 rfl ?_
        refine j_iadd G dX12_know_52 ?_
        refine j_iload_n G dX12_know_53 rfl ?_
        refine j_iastore G dX12_know_54 (by first | assumption | rfl) (by omega) (by omega) ?_
        refine j_iload G dX12_know_55 rfl ?_
        refine j_ireturn G dX12_know_57 ?_
        repeat' split
        all_goals first | exact ⟨rfl, rfl⟩ | omega
      · refine j_bipush G dX12_know_29 (by decide) ?_
        refine j_ireturn G dX12_know_31 ?_
        repeat' split
        all_goals first | exact ⟨rfl, rfl⟩ | omega
    · refine j_iconst G dX12_know_15 ?_
      refine j_ireturn G dX12_know_16 ?_
      repeat' split
      all_goals first | exact ⟨rfl, rfl⟩ | omega
theorem m_move (r s : Int) (h_1 : (-2147483648 ≤ r ∧ r < 2147483648)) (h_2 : (-2147483648 ≤ s ∧ s < 2147483648)) (h_n : 0 ≤ μ 0 33 ∧ μ 0 33 ≤ 20) : CT (EM x) 2 yX12_move [rf (EM x) 0, iv r, iv s] μ
    (if ¬ ((0 ≤ r ∧ r ≤ μ 0 33 - 1) ∧ 0 ≤ s ∧ s ≤ 5) then rI (-1) μ else rI (μ 23 r) (up μ 23 r s)) := by
  refine CT.ofJ (own := RX12) (cc := cX12_move) (n := 4) (ret := (some .int)) (by decide) rfl cw_X12_move (by decide) (Nat.le_of_ble_eq_true rfl) (ls := [some (rf (EM x) 0), some (iv r), some (iv s), none]) rfl ?_
  intro X G
  first | refine j_aload_n G dX12_move_0 rfl ?_ | refine j_aload_nN G dX12_move_0 rfl ?_
  refine j_iload_n G dX12_move_1 rfl ?_
  refine j_callV G mv_X12_259 dX12_move_2 (m_isReader r h_1 h_n) (by first | assumption | rfl) (by decide) (by rfl) rfl rfl (by exact Nat.le_of_ble_eq_true rfl) (by decide) (kI ?_)
  refine j_if_eqB G dX12_move_5 (tgt := 15) (by decide)  (fun c_5 => ?_) (fun c_5 => ?_)
  · refine j_iconst G dX12_move_15 ?_
    refine j_ireturn G dX12_move_16 ?_
    repeat' split
    all_goals first | exact ⟨rfl, rfl⟩ | omega
  · refine j_iload_n G dX12_move_8 rfl ?_
    refine j_callS G ms_X12_254 dX12_move_9 (m_isSchool s h_2) rfl rfl (by exact Nat.le_of_ble_eq_true rfl) (by decide) (kI ?_)
    refine j_if_neB G dX12_move_12 (tgt := 17) (by decide)  (fun c_12 => ?_) (fun c_12 => ?_)
    · first | refine j_aload_n G dX12_move_17 rfl ?_ | refine j_aload_nN G dX12_move_17 rfl ?_
      refine j_getr G fl_X12_77 dX12_move_18 (by first | assumption | rfl) (by rfl) ?_
      refine j_iload_n G dX12_move_21 rfl ?_
      refine j_iaload G dX12_move_22 (by first | assumption | rfl) (by omega) (fun r_22 => ?_)
      try simp (disch := omega) only [up_same, up_cell, up_idx, cpm_at, fil_at] at r_22 ⊢
      refine j_istore3 G dX12_move_23 (by decide) rfl ?_
      first | refine j_aload_n G dX12_move_24 rfl ?_ | refine j_aload_nN G dX12_move_24 rfl ?_
      refine j_getr G fl_X12_77 dX12_move_25 (by first | assumption | rfl) (by rfl) ?_
      refine j_iload_n G dX12_move_28 rfl ?_
      refine j_iload_n G dX12_move_29 rfl ?_
      refine j_iastore G dX12_move_30 (by first | assumption | rfl) (by omega) (by omega) ?_
      refine j_iload_n G dX12_move_31 rfl ?_
      refine j_pc (p2 := 32) rfl ?_
      refine j_ireturn G dX12_move_32 ?_
      repeat' split
      all_goals first | exact ⟨rfl, rfl⟩ | omega
    · refine j_iconst G dX12_move_15 ?_
      refine j_ireturn G dX12_move_16 ?_
      repeat' split
      all_goals first | exact ⟨rfl, rfl⟩ | omega
theorem m_part (l p : Int) (h_1 : (-2147483648 ≤ l ∧ l < 2147483648)) (h_2 : (-2147483648 ≤ p ∧ p < 2147483648)) : CT (EM x) 2 yX12_part [rf (EM x) 0, iv l, iv p] μ
    (if ¬ (0 ≤ l ∧ l ≤ 25) then rI (-1) μ else if ¬ (-1 ≤ p ∧ p ≤ 6) then rI (-2) μ else rI (μ 32 l) (up μ 32 l (if p < 0 then -6 else p))) := by
  refine CT.ofJ (own := RX12) (cc := cX12_part) (n := 4) (ret := (some .int)) (by decide) rfl cw_X12_part (by decide) (Nat.le_of_ble_eq_true rfl) (ls := [some (rf (EM x) 0), some (iv l), some (iv p), none]) rfl ?_
  intro X G
  refine j_iload_n G dX12_part_0 rfl ?_
  refine j_callS G ms_X12_125 dX12_part_1 (m_isLetter l h_1) rfl rfl (by exact Nat.le_of_ble_eq_true rfl) (by decide) (kI ?_)
  refine j_if_neB G dX12_part_4 (tgt := 9) (by decide)  (fun c_4 => ?_) (fun c_4 => ?_)
  · refine j_iload_n G dX12_part_9 rfl ?_
    refine j_i2l G (by omega) dX12_part_10 ?_
    refine j_ldc2I G (-1) kl_X12_340 dX12_part_11 (by decide) ?_
    refine j_ldc2I G (6) kl_X12_342 dX12_part_14 (by decide) ?_
    refine j_callS G ms_X12_115 dX12_part_17 (m_in _ _ _ (by omega) (by omega) (by omega)) rfl rfl (by exact Nat.le_of_ble_eq_true rfl) (by decide) (kI ?_)
    refine j_if_neB G dX12_part_20 (tgt := 26) (by decide)  (fun c_20 => ?_) (fun c_20 => ?_)
    · first | refine j_aload_n G dX12_part_26 rfl ?_ | refine j_aload_nN G dX12_part_26 rfl ?_
      refine j_getr G fl_X12_104 dX12_part_27 (by first | assumption | rfl) (by rfl) ?_
      refine j_iload_n G dX12_part_30 rfl ?_
      refine j_iaload G dX12_part_31 (by first | assumption | rfl) (by omega) (fun r_31 => ?_)
      try simp (disch := omega) only [up_same, up_cell, up_idx, cpm_at, fil_at] at r_31 ⊢
      refine j_istore3 G dX12_part_32 (by decide) rfl ?_
      first | refine j_aload_n G dX12_part_33 rfl ?_ | refine j_aload_nN G dX12_part_33 rfl ?_
      refine j_getr G fl_X12_104 dX12_part_34 (by first | assumption | rfl) (by rfl) ?_
      refine j_iload_n G dX12_part_37 rfl ?_
      refine j_iload_n G dX12_part_38 rfl ?_
      refine j_if_ge G dX12_part_39 (tgt := 47) (by decide) (by omega) (fun c_39 => ?_) (fun c_39 => ?_)
      · refine j_iload_n G dX12_part_47 rfl ?_
        refine j_iastore G dX12_part_48 (by first | assumption | rfl) (by omega) (by omega) ?_
        refine j_iload_n G dX12_part_49 rfl ?_
        refine j_ireturn G dX12_part_50 ?_
        repeat' split
        all_goals first | exact ⟨rfl, rfl⟩ | omega
      · refine j_bipush G dX12_part_42 (by decide) ?_
        refine j_goto G dX12_part_44 (tgt := 48) (by decide) ?_
        refine j_iastore G dX12_part_48 (by first | assumption | rfl) (by omega) (by omega) ?_
        refine j_iload_n G dX12_part_49 rfl ?_
        refine j_ireturn G dX12_part_50 ?_
        repeat' split
        all_goals first | exact ⟨rfl, rfl⟩ | omega
    · refine j_bipush G dX12_part_23 (by decide) ?_
      refine j_ireturn G dX12_part_25 ?_
      repeat' split
      all_goals first | exact ⟨rfl, rfl⟩ | omega
  · refine j_iconst G dX12_part_7 ?_
    refine j_ireturn G dX12_part_8 ?_
    repeat' split
    all_goals first | exact ⟨rfl, rfl⟩ | omega
theorem m_shelf (s b c n : Int) (h_1 : (-2147483648 ≤ s ∧ s < 2147483648)) (h_2 : (-2147483648 ≤ b ∧ b < 2147483648)) (h_3 : (-2147483648 ≤ c ∧ c < 2147483648)) (h_4 : (-2147483648 ≤ n ∧ n < 2147483648)) : CT (EM x) 2 yX12_shelf [rf (EM x) 0, iv s, iv b, iv c, iv n] μ
    (if ¬ ((0 ≤ s ∧ s ≤ 5) ∧ (0 ≤ b ∧ b ≤ 7) ∧ 0 ≤ c ∧ c ≤ 4) then rI (-1) μ else if ¬ (0 ≤ n ∧ n ≤ 100) then rI (-2) μ else rI (μ 26 (40 * s + 5 * b + c)) (up μ 26 (40 * s + 5 * b + c) n)) := by
  refine CT.ofJ (own := RX12) (cc := cX12_shelf) (n := 7) (ret := (some .int)) (by decide) rfl cw_X12_shelf (by decide) (Nat.le_of_ble_eq_true rfl) (ls := [some (rf (EM x) 0), some (iv s), some (iv b), some (iv c), some (iv n), none, none]) rfl ?_
  intro X G
  refine j_iload_n G dX12_shelf_0 rfl ?_
  refine j_callS G ms_X12_254 dX12_shelf_1 (m_isSchool s h_1) rfl rfl (by exact Nat.le_of_ble_eq_true rfl) (by decide) (kI ?_)
  refine j_if_eqB G dX12_shelf_4 (tgt := 21) (by decide)  (fun c_4 => ?_) (fun c_4 => ?_)
  · refine j_iconst G dX12_shelf_21 ?_
    refine j_ireturn G dX12_shelf_22 ?_
    repeat' split
    all_goals first | exact ⟨rfl, rfl⟩ | omega
  · refine j_iload_n G dX12_shelf_7 rfl ?_
    refine j_callS G ms_X12_218 dX12_shelf_8 (m_isBook b h_2) rfl rfl (by exact Nat.le_of_ble_eq_true rfl) (by decide) (kI ?_)
    refine j_if_eqB G dX12_shelf_11 (tgt := 21) (by decide)  (fun c_11 => ?_) (fun c_11 => ?_)
    · refine j_iconst G dX12_shelf_21 ?_
      refine j_ireturn G dX12_shelf_22 ?_
      repeat' split
      all_goals first | exact ⟨rfl, rfl⟩ | omega
    · refine j_iload_n G dX12_shelf_14 rfl ?_
      refine j_callS G ms_X12_121 dX12_shelf_15 (m_isCode c h_3) rfl rfl (by exact Nat.le_of_ble_eq_true rfl) (by decide) (kI ?_)
      refine j_if_neB G dX12_shelf_18 (tgt := 23) (by decide)  (fun c_18 => ?_) (fun c_18 => ?_)
      · refine j_iload G dX12_shelf_23 rfl ?_
        refine j_i2l G (by omega) dX12_shelf_25 ?_
        refine j_lconstI G 0 dX12_shelf_26 (by decide) ?_
        refine j_ldc2I G (100) kl_X12_280 dX12_shelf_27 (by decide) ?_
        refine j_callS G ms_X12_115 dX12_shelf_30 (m_in _ _ _ (by omega) (by omega) (by omega)) rfl rfl (by exact Nat.le_of_ble_eq_true rfl) (by decide) (kI ?_)
        refine j_if_neB G dX12_shelf_33 (tgt := 39) (by decide)  (fun c_33 => ?_) (fun c_33 => ?_)
        · refine j_bipush G dX12_shelf_39 (by decide) ?_
          refine j_iload_n G dX12_shelf_41 rfl ?_
          refine j_imul G dX12_shelf_42 ?_
          refine j_iconst G dX12_shelf_43 ?_
          refine j_iload_n G dX12_shelf_44 rfl ?_
          refine j_imul G dX12_shelf_45 ?_
          refine j_iadd G dX12_shelf_46 ?_
          refine j_iload_n G dX12_shelf_47 rfl ?_
          refine j_iadd G dX12_shelf_48 ?_
          refine j_istore5 G dX12_shelf_49 (by decide) rfl ?_
          first | refine j_aload_n G dX12_shelf_51 rfl ?_ | refine j_aload_nN G dX12_shelf_51 rfl ?_
          refine j_pc (p2 := 52) rfl ?_
          refine j_getr G fl_X12_86 dX12_shelf_52 (by first | assumption | rfl) (by rfl) ?_
          refine j_iload G dX12_shelf_55 rfl ?_
          refine j_iaload G dX12_shelf_57 (by first | assumption | rfl) (by omega) (fun r_57 => ?_)
          try simp (disch := omega) only [up_same, up_cell, up_idx, cpm_at, fil_at] at r_57 ⊢
          refine j_istore6 G dX12_shelf_58 (by decide) rfl ?_
          first | refine j_aload_n G dX12_shelf_60 rfl ?_ | refine j_aload_nN G dX12_shelf_60 rfl ?_
          refine j_getr G fl_X12_86 dX12_shelf_61 (by first | assumption | rfl) (by rfl) ?_
          refine j_iload G dX12_shelf_64 rfl ?_
          refine j_iload G dX12_shelf_66 rfl ?_
          refine j_iastore G dX12_shelf_68 (by first | assumption | rfl) (by omega) (by omega) ?_
          refine j_iload G dX12_shelf_69 rfl ?_
          refine j_ireturn G dX12_shelf_71 ?_
          repeat' split
          all_goals first | exact ⟨rfl, rfl⟩ | omega
        · refine j_bipush G dX12_shelf_36 (by decide) ?_
          refine j_ireturn G dX12_shelf_38 ?_
          repeat' split
          all_goals first | exact ⟨rfl, rfl⟩ | omega
      · refine j_iconst G dX12_shelf_21 ?_
        refine j_ireturn G dX12_shelf_22 ?_
        repeat' split
        all_goals first | exact ⟨rfl, rfl⟩ | omega
end MO2
