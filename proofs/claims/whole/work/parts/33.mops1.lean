section MO1
variable {x : CX} {μ : MemT}
theorem m_say (l : Int) (h_1 : -2147483648 ≤ l ∧ l < 2147483648) (h_p : 0 ≤ μ 0 7 ∧ μ 0 7 ≤ 10) : CT (EM x) 2 yX12_say [rf (EM x) 0, iv l] μ
    (if ¬ (0 ≤ l ∧ l ≤ 25) then rI (-1) μ else if 10 ≤ μ 0 7 then rI (-4) μ else rI (μ 0 7 + 1) (up (up μ 7 (μ 0 7) l) 0 7 (μ 0 7 + 1))) := by
  refine CT.ofJ (own := RX12) (cc := cX12_say) (n := 2) (ret := (some .int)) (by decide) rfl cw_X12_say (by decide) (Nat.le_of_ble_eq_true rfl) (ls := [some (rf (EM x) 0), some (iv l)]) rfl ?_
  intro X G
  refine j_iload_n G dX12_say_0 rfl ?_
  refine j_callS G ms_X12_125 dX12_say_1 (m_isLetter l h_1) rfl rfl (by exact Nat.le_of_ble_eq_true rfl) (by decide) (kI ?_)
  refine j_if_neB G dX12_say_4 (tgt := 9) (by decide)  (fun c_4 => ?_) (fun c_4 => ?_)
  · first | refine j_aload_n G dX12_say_9 rfl ?_ | refine j_aload_nN G dX12_say_9 rfl ?_
    refine j_geti G fl_X12_130 dX12_say_10 7 rfl (by first | assumption | rfl) (by rfl) (fun r_10 => ?_)
    try simp (disch := omega) only [up_same, up_cell, up_idx, cpm_at, fil_at] at r_10 ⊢
    refine j_bipush G dX12_say_13 (by decide) ?_
    refine j_icmp_ne G dX12_say_15 (tgt := 21) (by decide) (by omega) (by omega) (fun c_15 => ?_) (fun c_15 => ?_)
    · first | refine j_aload_n G dX12_say_21 rfl ?_ | refine j_aload_nN G dX12_say_21 rfl ?_
      refine j_getr G fl_X12_28 dX12_say_22 (by first | assumption | rfl) (by rfl) ?_
      first | refine j_aload_n G dX12_say_25 rfl ?_ | refine j_aload_nN G dX12_say_25 rfl ?_
      refine j_geti G fl_X12_130 dX12_say_26 7 rfl (by first | assumption | rfl) (by rfl) (fun r_26 => ?_)
      try simp (disch := omega) only [up_same, up_cell, up_idx, cpm_at, fil_at] at r_26 ⊢
      refine j_iload_n G dX12_say_29 rfl ?_
      refine j_iastore G dX12_say_30 (by first | assumption | rfl) (by omega) (by omega) ?_
      first | refine j_aload_n G dX12_say_31 rfl ?_ | refine j_aload_nN G dX12_say_31 rfl ?_
      refine j_dup G dX12_say_32 rfl ?_
      refine j_geti G fl_X12_130 dX12_say_33 7 rfl (by first | assumption | rfl) (by rfl) (fun r_33 => ?_)
      try simp (disch := omega) only [up_same, up_cell, up_idx, cpm_at, fil_at] at r_33 ⊢
      refine j_iconst G dX12_say_36 ?_
      refine j_iadd G dX12_say_37 ?_
      refine j_pc (p2 := 38) rfl ?_
      refine j_puti G fp_X12_130 dX12_say_38 7 rfl (by first | assumption | rfl) (by rfl) (by omega) ?_
      first | refine j_aload_n G dX12_say_41 rfl ?_ | refine j_aload_nN G dX12_say_41 rfl ?_
      refine j_geti G fl_X12_130 dX12_say_42 7 rfl (by first | assumption | rfl) (by rfl) (fun r_42 => ?_)
      try simp (disch := omega) only [up_same, up_cell, up_idx, cpm_at, fil_at] at r_42 ⊢
      refine j_ireturn G dX12_say_45 ?_
      repeat' split
      all_goals first | exact ⟨rfl, rfl⟩ | omega
    · refine j_bipush G dX12_say_18 (by decide) ?_
      refine j_ireturn G dX12_say_20 ?_
      repeat' split
      all_goals first | exact ⟨rfl, rfl⟩ | omega
  · refine j_iconst G dX12_say_7 ?_
    refine j_ireturn G dX12_say_8 ?_
    repeat' split
    all_goals first | exact ⟨rfl, rfl⟩ | omega
theorem m_dot (l : Int) (h_1 : -2147483648 ≤ l ∧ l < 2147483648) (h_p : 0 ≤ μ 0 9 ∧ μ 0 9 ≤ 12) : CT (EM x) 2 yX12_dot [rf (EM x) 0, iv l] μ
    (if ¬ (1 ≤ l ∧ l ≤ 63) then rI (-2) μ else if 12 ≤ μ 0 9 then rI (-4) μ else rI (μ 0 9 + 1) (up (up μ 8 (μ 0 9) l) 0 9 (μ 0 9 + 1))) := by
  refine CT.ofJ (own := RX12) (cc := cX12_dot) (n := 2) (ret := (some .int)) (by decide) rfl cw_X12_dot (by decide) (Nat.le_of_ble_eq_true rfl) (ls := [some (rf (EM x) 0), some (iv l)]) rfl ?_
  intro X G
  refine j_iload_n G dX12_dot_0 rfl ?_
  refine j_i2l G (by omega) dX12_dot_1 ?_
  refine j_lconstI G 1 dX12_dot_2 (by decide) ?_
  refine j_ldc2I G (63) kl_X12_128 dX12_dot_3 (by decide) ?_
  refine j_callS G ms_X12_115 dX12_dot_6 (m_in _ _ _ (by omega) (by omega) (by omega)) rfl rfl (by exact Nat.le_of_ble_eq_true rfl) (by decide) (kI ?_)
  refine j_if_neB G dX12_dot_9 (tgt := 15) (by decide)  (fun c_9 => ?_) (fun c_9 => ?_)
  · first | refine j_aload_n G dX12_dot_15 rfl ?_ | refine j_aload_nN G dX12_dot_15 rfl ?_
    refine j_geti G fl_X12_134 dX12_dot_16 9 rfl (by first | assumption | rfl) (by rfl) (fun r_16 => ?_)
    try simp (disch := omega) only [up_same, up_cell, up_idx, cpm_at, fil_at] at r_16 ⊢
    refine j_bipush G dX12_dot_19 (by decide) ?_
    refine j_icmp_ne G dX12_dot_21 (tgt := 27) (by decide) (by omega) (by omega) (fun c_21 => ?_) (fun c_21 => ?_)
    · first | refine j_aload_n G dX12_dot_27 rfl ?_ | refine j_aload_nN G dX12_dot_27 rfl ?_
      refine j_getr G fl_X12_31 dX12_dot_28 (by first | assumption | rfl) (by rfl) ?_
      first | refine j_aload_n G dX12_dot_31 rfl ?_ | refine j_aload_nN G dX12_dot_31 rfl ?_
      refine j_geti G fl_X12_134 dX12_dot_32 9 rfl (by first | assumption | rfl) (by rfl) (fun r_32 => ?_)
      try simp (disch := omega) only [up_same, up_cell, up_idx, cpm_at, fil_at] at r_32 ⊢
      refine j_iload_n G dX12_dot_35 rfl ?_
      refine j_iastore G dX12_dot_36 (by first | assumption | rfl) (by omega) (by omega) ?_
      first | refine j_aload_n G dX12_dot_37 rfl ?_ | refine j_aload_nN G dX12_dot_37 rfl ?_
      refine j_dup G dX12_dot_38 rfl ?_
      refine j_geti G fl_X12_134 dX12_dot_39 9 rfl (by first | assumption | rfl) (by rfl) (fun r_39 => ?_)
      try simp (disch := omega) only [up_same, up_cell, up_idx, cpm_at, fil_at] at r_39 ⊢
      refine j_iconst G dX12_dot_42 ?_
      refine j_iadd G dX12_dot_43 ?_
      refine j_pc (p2 := 44) rfl ?_
      refine j_puti G fp_X12_134 dX12_dot_44 9 rfl (by first | assumption | rfl) (by rfl) (by omega) ?_
      first | refine j_aload_n G dX12_dot_47 rfl ?_ | refine j_aload_nN G dX12_dot_47 rfl ?_
      refine j_geti G fl_X12_134 dX12_dot_48 9 rfl (by first | assumption | rfl) (by rfl) (fun r_48 => ?_)
      try simp (disch := omega) only [up_same, up_cell, up_idx, cpm_at, fil_at] at r_48 ⊢
      refine j_ireturn G dX12_dot_51 ?_
      repeat' split
      all_goals first | exact ⟨rfl, rfl⟩ | omega
    · refine j_bipush G dX12_dot_24 (by decide) ?_
      refine j_ireturn G dX12_dot_26 ?_
      repeat' split
      all_goals first | exact ⟨rfl, rfl⟩ | omega
  · refine j_bipush G dX12_dot_12 (by decide) ?_
    refine j_ireturn G dX12_dot_14 ?_
    repeat' split
    all_goals first | exact ⟨rfl, rfl⟩ | omega
theorem m_sign (l : Int) (h_1 : -2147483648 ≤ l ∧ l < 2147483648) (h_p : 0 ≤ μ 0 42 ∧ μ 0 42 ≤ 40) : CT (EM x) 2 yX12_sign [rf (EM x) 0, iv l] μ
    (if ¬ (33 ≤ l ∧ l ≤ 126) then rI (-2) μ else if 40 ≤ μ 0 42 then rI (-4) μ else rI (μ 0 42 + 1) (up (up μ 29 (μ 0 42) l) 0 42 (μ 0 42 + 1))) := by
  refine CT.ofJ (own := RX12) (cc := cX12_sign) (n := 2) (ret := (some .int)) (by decide) rfl cw_X12_sign (by decide) (Nat.le_of_ble_eq_true rfl) (ls := [some (rf (EM x) 0), some (iv l)]) rfl ?_
  intro X G
  refine j_iload_n G dX12_sign_0 rfl ?_
  refine j_i2l G (by omega) dX12_sign_1 ?_
  refine j_ldc2I G (33) kl_X12_312 dX12_sign_2 (by decide) ?_
  refine j_ldc2I G (126) kl_X12_314 dX12_sign_5 (by decide) ?_
  refine j_callS G ms_X12_115 dX12_sign_8 (m_in _ _ _ (by omega) (by omega) (by omega)) rfl rfl (by exact Nat.le_of_ble_eq_true rfl) (by decide) (kI ?_)
  refine j_if_neB G dX12_sign_11 (tgt := 17) (by decide)  (fun c_11 => ?_) (fun c_11 => ?_)
  · first | refine j_aload_n G dX12_sign_17 rfl ?_ | refine j_aload_nN G dX12_sign_17 rfl ?_
    refine j_geti G fl_X12_137 dX12_sign_18 42 rfl (by first | assumption | rfl) (by rfl) (fun r_18 => ?_)
    try simp (disch := omega) only [up_same, up_cell, up_idx, cpm_at, fil_at] at r_18 ⊢
    refine j_bipush G dX12_sign_21 (by decide) ?_
    refine j_icmp_ne G dX12_sign_23 (tgt := 29) (by decide) (by omega) (by omega) (fun c_23 => ?_) (fun c_23 => ?_)
    · first | refine j_aload_n G dX12_sign_29 rfl ?_ | refine j_aload_nN G dX12_sign_29 rfl ?_
      refine j_getr G fl_X12_95 dX12_sign_30 (by first | assumption | rfl) (by rfl) ?_
      first | refine j_aload_n G dX12_sign_33 rfl ?_ | refine j_aload_nN G dX12_sign_33 rfl ?_
      refine j_geti G fl_X12_137 dX12_sign_34 42 rfl (by first | assumption | rfl) (by rfl) (fun r_34 => ?_)
      try simp (disch := omega) only [up_same, up_cell, up_idx, cpm_at, fil_at] at r_34 ⊢
      refine j_iload_n G dX12_sign_37 rfl ?_
      refine j_iastore G dX12_sign_38 (by first | assumption | rfl) (by omega) (by omega) ?_
      first | refine j_aload_n G dX12_sign_39 rfl ?_ | refine j_aload_nN G dX12_sign_39 rfl ?_
      refine j_dup G dX12_sign_40 rfl ?_
      refine j_geti G fl_X12_137 dX12_sign_41 42 rfl (by first | assumption | rfl) (by rfl) (fun r_41 => ?_)
      try simp (disch := omega) only [up_same, up_cell, up_idx, cpm_at, fil_at] at r_41 ⊢
      refine j_iconst G dX12_sign_44 ?_
      refine j_iadd G dX12_sign_45 ?_
      refine j_pc (p2 := 46) rfl ?_
      refine j_puti G fp_X12_137 dX12_sign_46 42 rfl (by first | assumption | rfl) (by rfl) (by omega) ?_
      first | refine j_aload_n G dX12_sign_49 rfl ?_ | refine j_aload_nN G dX12_sign_49 rfl ?_
      refine j_geti G fl_X12_137 dX12_sign_50 42 rfl (by first | assumption | rfl) (by rfl) (fun r_50 => ?_)
      try simp (disch := omega) only [up_same, up_cell, up_idx, cpm_at, fil_at] at r_50 ⊢
      refine j_ireturn G dX12_sign_53 ?_
      repeat' split
      all_goals first | exact ⟨rfl, rfl⟩ | omega
    · refine j_bipush G dX12_sign_26 (by decide) ?_
      refine j_ireturn G dX12_sign_28 ?_
      repeat' split
      all_goals first | exact ⟨rfl, rfl⟩ | omega
  · refine j_bipush G dX12_sign_14 (by decide) ?_
    refine j_ireturn G dX12_sign_16 ?_
    repeat' split
    all_goals first | exact ⟨rfl, rfl⟩ | omega
theorem m_wipe (z : Int) (h_1 : -2147483648 ≤ z ∧ z < 2147483648) : CT (EM x) 0 yX12_wipe [rf (EM x) 0, iv z] μ
    (if z = 0 then rI (μ 0 7) (up μ 0 7 0) else if z = 1 then rI (μ 0 9) (up μ 0 9 0) else if z = 2 then rI (μ 0 42) (up μ 0 42 0) else rI (-2) μ) := by
  refine CT.ofJ (own := RX12) (cc := cX12_wipe) (n := 3) (ret := (some .int)) (by decide) rfl cw_X12_wipe (by decide) (Nat.le_of_ble_eq_true rfl) (ls := [some (rf (EM x) 0), some (iv z), none]) rfl ?_
  intro X G
  by_cases h_z0 : z = 0
  · subst h_z0
    refine j_iload_n G dX12_wipe_0 rfl ?_
    refine j_if_ne G dX12_wipe_1 (tgt := 11) (by decide) (by omega) (fun c_1 => ?_) (fun c_1 => ?_)
    · omega
    · first | refine j_aload_n G dX12_wipe_4 rfl ?_ | refine j_aload_nN G dX12_wipe_4 rfl ?_
      refine j_geti G fl_X12_130 dX12_wipe_5 7 rfl (by first | assumption | rfl) (by rfl) (fun r_5 => ?_)
      try simp (disch := omega) only [up_same, up_cell, up_idx, cpm_at, fil_at] at r_5 ⊢
      refine j_goto G dX12_wipe_8 (tgt := 37) (by decide) ?_
      refine j_istore2 G dX12_wipe_37 (by decide) rfl ?_
      refine j_iload_n G dX12_wipe_38 rfl ?_
      refine j_if_ne G dX12_wipe_39 (tgt := 50) (by decide) (by omega) (fun c_39 => ?_) (fun c_39 => ?_)
      · omega
      · first | refine j_aload_n G dX12_wipe_42 rfl ?_ | refine j_aload_nN G dX12_wipe_42 rfl ?_
        refine j_iconst G dX12_wipe_43 ?_
        refine j_puti G fp_X12_130 dX12_wipe_44 7 rfl (by first | assumption | rfl) (by rfl) (by omega) ?_
        refine j_goto G dX12_wipe_47 (tgt := 73) (by decide) ?_
        refine j_iload_n G dX12_wipe_73 rfl ?_
        refine j_ireturn G dX12_wipe_74 ?_
        exact ⟨rfl, rfl⟩
  · by_cases h_z1 : z = 1
    · subst h_z1
      refine j_iload_n G dX12_wipe_0 rfl ?_
      refine j_if_ne G dX12_wipe_1 (tgt := 11) (by decide) (by omega) (fun c_1 => ?_) (fun c_1 => ?_)
      · refine j_iload_n G dX12_wipe_11 rfl ?_
        refine j_iconst G dX12_wipe_12 ?_
        refine j_icmp_ne G dX12_wipe_13 (tgt := 23) (by decide) (by omega) (by omega) (fun c_13 => ?_) (fun c_13 => ?_)
        · omega
        · first | refine j_aload_n G dX12_wipe_16 rfl ?_ | refine j_aload_nN G dX12_wipe_16 rfl ?_
          refine j_geti G fl_X12_134 dX12_wipe_17 9 rfl (by first | assumption | rfl) (by rfl) (fun r_17 => ?_)
          try simp (disch := omega) only [up_same, up_cell, up_idx, cpm_at, fil_at] at r_17 ⊢
          refine j_goto G dX12_wipe_20 (tgt := 37) (by decide) ?_
          refine j_istore2 G dX12_wipe_37 (by decide) rfl ?_
          refine j_iload_n G dX12_wipe_38 rfl ?_
          refine j_if_ne G dX12_wipe_39 (tgt := 50) (by decide) (by omega) (fun c_39 => ?_) (fun c_39 => ?_)
          · refine j_iload_n G dX12_wipe_50 rfl ?_
            refine j_iconst G dX12_wipe_51 ?_
            refine j_icmp_ne G dX12_wipe_52 (tgt := 63) (by decide) (by omega) (by omega) (fun c_52 => ?_) (fun c_52 => ?_)
            · omega
            · first | refine j_aload_n G dX12_wipe_55 rfl ?_ | refine j_aload_nN G dX12_wipe_55 rfl ?_
              refine j_iconst G dX12_wipe_56 ?_
              refine j_puti G fp_X12_134 dX12_wipe_57 9 rfl (by first | assumption | rfl) (by rfl) (by omega) ?_
              refine j_goto G dX12_wipe_60 (tgt := 73) (by decide) ?_
              refine j_iload_n G dX12_wipe_73 rfl ?_
              refine j_ireturn G dX12_wipe_74 ?_
              exact ⟨rfl, rfl⟩
          · omega
      · omega
    · by_cases h_z2 : z = 2
      · subst h_z2
        refine j_iload_n G dX12_wipe_0 rfl ?_
        refine j_if_ne G dX12_wipe_1 (tgt := 11) (by decide) (by omega) (fun c_1 => ?_) (fun c_1 => ?_)
        · refine j_iload_n G dX12_wipe_11 rfl ?_
          refine j_iconst G dX12_wipe_12 ?_
          refine j_icmp_ne G dX12_wipe_13 (tgt := 23) (by decide) (by omega) (by omega) (fun c_13 => ?_) (fun c_13 => ?_)
          · refine j_iload_n G dX12_wipe_23 rfl ?_
            refine j_iconst G dX12_wipe_24 ?_
            refine j_icmp_ne G dX12_wipe_25 (tgt := 35) (by decide) (by omega) (by omega) (fun c_25 => ?_) (fun c_25 => ?_)
            · omega
            · first | refine j_aload_n G dX12_wipe_28 rfl ?_ | refine j_aload_nN G dX12_wipe_28 rfl ?_
              refine j_geti G fl_X12_137 dX12_wipe_29 42 rfl (by first | assumption | rfl) (by rfl) (fun r_29 => ?_)
              try simp (disch := omega) only [up_same, up_cell, up_idx, cpm_at, fil_at] at r_29 ⊢
              refine j_goto G dX12_wipe_32 (tgt := 37) (by decide) ?_
              refine j_istore2 G dX12_wipe_37 (by decide) rfl ?_
              refine j_iload_n G dX12_wipe_38 rfl ?_
              refine j_if_ne G dX12_wipe_39 (tgt := 50) (by decide) (by omega) (fun c_39 => ?_) (fun c_39 => ?_)
              · refine j_iload_n G dX12_wipe_50 rfl ?_
                refine j_iconst G dX12_wipe_51 ?_
                refine j_icmp_ne G dX12_wipe_52 (tgt := 63) (by decide) (by omega) (by omega) (fun c_52 => ?_) (fun c_52 => ?_)
                · refine j_iload_n G dX12_wipe_63 rfl ?_
                  refine j_iconst G dX12_wipe_64 ?_
                  refine j_icmp_ne G dX12_wipe_65 (tgt := 73) (by decide) (by omega) (by omega) (fun c_65 => ?_) (fun c_65 => ?_)
                  · omega
                  · first | refine j_aload_n G dX12_wipe_68 rfl ?_ | refine j_aload_nN G dX12_wipe_68 rfl ?_
                    refine j_iconst G dX12_wipe_69 ?_
                    refine j_puti G fp_X12_137 dX12_wipe_70 42 rfl (by first | assumption | rfl) (by rfl) (by omega) ?_
                    refine j_iload_n G dX12_wipe_73 rfl ?_
                    refine j_ireturn G dX12_wipe_74 ?_
                    exact ⟨rfl, rfl⟩
                · omega
              · omega
          · omega
        · omega
      · refine j_iload_n G dX12_wipe_0 rfl ?_
        refine j_if_ne G dX12_wipe_1 (tgt := 11) (by decide) (by omega) (fun c_1 => ?_) (fun c_1 => ?_)
        · refine j_iload_n G dX12_wipe_11 rfl ?_
          refine j_iconst G dX12_wipe_12 ?_
          refine j_icmp_ne G dX12_wipe_13 (tgt := 23) (by decide) (by omega) (by omega) (fun c_13 => ?_) (fun c_13 => ?_)
          · refine j_iload_n G dX12_wipe_23 rfl ?_
            refine j_iconst G dX12_wipe_24 ?_
            refine j_icmp_ne G dX12_wipe_25 (tgt := 35) (by decide) (by omega) (by omega) (fun c_25 => ?_) (fun c_25 => ?_)
            · refine j_bipush G dX12_wipe_35 (by decide) ?_
              refine j_istore2 G dX12_wipe_37 (by decide) rfl ?_
              refine j_iload_n G dX12_wipe_38 rfl ?_
              refine j_if_ne G dX12_wipe_39 (tgt := 50) (by decide) (by omega) (fun c_39 => ?_) (fun c_39 => ?_)
              · refine j_iload_n G dX12_wipe_50 rfl ?_
                refine j_iconst G dX12_wipe_51 ?_
                refine j_icmp_ne G dX12_wipe_52 (tgt := 63) (by decide) (by omega) (by omega) (fun c_52 => ?_) (fun c_52 => ?_)
                · refine j_iload_n G dX12_wipe_63 rfl ?_
                  refine j_iconst G dX12_wipe_64 ?_
                  refine j_icmp_ne G dX12_wipe_65 (tgt := 73) (by decide) (by omega) (by omega) (fun c_65 => ?_) (fun c_65 => ?_)
                  · refine j_iload_n G dX12_wipe_73 rfl ?_
                    refine j_ireturn G dX12_wipe_74 ?_
                    rw [if_neg h_z0, if_neg h_z1, if_neg h_z2]
                    exact ⟨rfl, rfl⟩
                  · omega
                · omega
              · omega
            · omega
          · omega
        · omega
end MO1
