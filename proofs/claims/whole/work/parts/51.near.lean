section NR
variable {E : EE} {x : CX} {μ σ : MemT}
theorem k_letterCount (k q a1 a2 a3 : Nat) (h_k : (eY E)[k]? = some (1, 4, [some q, some a1, some a2, some a3])) (h_q : (eY E)[q]? = some (20, 26, [])) : CT E 0 yX1_letterCount [rf E k] μ (rI (sm (fun l => if μ q l = 0 then 0 else 1) 26) μ) := by
  refine CT.ofJ (own := RX1) (cc := cX1_letterCount) (n := 3) (ret := (some .int)) (by decide) rfl cw_X1_letterCount (by decide) (Nat.le_of_ble_eq_true rfl) (ls := [some (rf E k), none, none]) rfl ?_
  intro X G
  refine j_iconst G dX1_letterCount_0 ?_
  refine j_istore1 G dX1_letterCount_1 (by decide) rfl ?_
  refine j_iconst G dX1_letterCount_2 ?_
  refine j_istore2 G dX1_letterCount_3 (by decide) rfl ?_
  refine j_pc (p2 := 4) rfl ?_
  refine down (Pr := fun i => JJ E X 0 (rI (sm (fun l => if μ q l = 0 then 0 else 1) 26) μ) 3 4 [some (rf E k), some (iv (sm (fun l => if μ q l = 0 then 0 else 1) i)), some (iv i)] [] μ) 26 ?_ 0 (by decide)
  intro i h_i ih
  refine j_iload_n G dX1_letterCount_4 rfl ?_
  refine j_bipush G dX1_letterCount_5 (by decide) ?_
  refine j_icmp_ge G dX1_letterCount_7 (tgt := 33) (by decide) (by omega) (by omega) (fun c_7 => ?_) (fun c_7 => ?_)
  · refine j_iload_n G dX1_letterCount_33 rfl ?_
    refine j_ireturn G dX1_letterCount_34 ?_
    exact ⟨by rw [show i = 26 by omega], rfl⟩
  · refine j_iload_n G dX1_letterCount_10 rfl ?_
    first | refine j_aload_n G dX1_letterCount_11 rfl ?_ | refine j_aload_nN G dX1_letterCount_11 rfl ?_
    refine j_getr G fl_X1_9 dX1_letterCount_12 (by first | assumption | rfl) (by rfl) ?_
    refine j_iload_n G dX1_letterCount_15 rfl ?_
    refine j_iaload G dX1_letterCount_16 (by first | assumption | rfl) (by omega) (fun r_16 => ?_)
    try simp (disch := omega) only [up_same, up_cell, up_idx, cpm_at, fil_at] at r_16 ⊢
    refine j_if_ne G dX1_letterCount_17 (tgt := 24) (by decide) (by omega) (fun c_17 => ?_) (fun c_17 => ?_)
    · refine j_iconst G dX1_letterCount_24 ?_
      refine j_iadd G dX1_letterCount_25 ?_
      refine j_istore1 G dX1_letterCount_26 (by decide) rfl ?_
      refine j_iinc2 G dX1_letterCount_27 (by decide) rfl rfl ?_
      refine j_goto G dX1_letterCount_30 (tgt := 4) (by decide) ?_
      refine j_pc (p2 := 4) rfl ?_
      have h_z := ih (by omega)
      rw [sm_s (n := i)] at h_z
      first | (rw [if_pos (by omega)] at h_z; exact h_z) | (rw [if_neg (by omega)] at h_z; exact h_z)
    · refine j_iconst G dX1_letterCount_20 ?_
      refine j_goto G dX1_letterCount_21 (tgt := 25) (by decide) ?_
      refine j_iadd G dX1_letterCount_25 ?_
      refine j_istore1 G dX1_letterCount_26 (by decide) rfl ?_
      refine j_iinc2 G dX1_letterCount_27 (by decide) rfl rfl ?_
      refine j_goto G dX1_letterCount_30 (tgt := 4) (by decide) ?_
      refine j_pc (p2 := 4) rfl ?_
      have h_z := ih (by omega)
      rw [sm_s (n := i)] at h_z
      first | (rw [if_pos (by omega)] at h_z; exact h_z) | (rw [if_neg (by omega)] at h_z; exact h_z)
theorem k_unlike (k q a1 a2 a3 k2 q2 e1 e2 e3 : Nat) (h_k : (eY E)[k]? = some (1, 4, [some q, some a1, some a2, some a3])) (h_q : (eY E)[q]? = some (20, 26, [])) (h_k2 : (eY E)[k2]? = some (1, 4, [some q2, some e1, some e2, some e3])) (h_q2 : (eY E)[q2]? = some (20, 26, [])) : CT E 0 yX1_unlikeLetters [rf E k, rf E k2] μ (rI (sm (fun l => if μ q l ≠ 0 ∧ μ q2 l ≠ μ q l then 1 else 0) 26) μ) := by
  refine CT.ofJ (own := RX1) (cc := cX1_unlikeLetters) (n := 4) (ret := (some .int)) (by decide) rfl cw_X1_unlikeLetters (by decide) (Nat.le_of_ble_eq_true rfl) (ls := [some (rf E k), some (rf E k2), none, none]) rfl ?_
  intro X G
  refine j_iconst G dX1_unlikeLetters_0 ?_
  refine j_istore2 G dX1_unlikeLetters_1 (by decide) rfl ?_
  refine j_iconst G dX1_unlikeLetters_2 ?_
  refine j_istore3 G dX1_unlikeLetters_3 (by decide) rfl ?_
  refine j_pc (p2 := 4) rfl ?_
  refine down (Pr := fun i => JJ E X 0 (rI (sm (fun l => if μ q l ≠ 0 ∧ μ q2 l ≠ μ q l then 1 else 0) 26) μ) 4 4 [some (rf E k), some (rf E k2), some (iv (sm (fun l => if μ q l ≠ 0 ∧ μ q2 l ≠ μ q l then 1 else 0) i)), some (iv i)] [] μ) 26 ?_ 0 (by decide)
  intro i h_i ih
  refine j_iload_n G dX1_unlikeLetters_4 rfl ?_
  refine j_bipush G dX1_unlikeLetters_5 (by decide) ?_
  refine j_icmp_ge G dX1_unlikeLetters_7 (tgt := 47) (by decide) (by omega) (by omega) (fun c_7 => ?_) (fun c_7 => ?_)
  · refine j_iload_n G dX1_unlikeLetters_47 rfl ?_
    refine j_ireturn G dX1_unlikeLetters_48 ?_
    exact ⟨by rw [show i = 26 by omega], rfl⟩
  · first | refine j_aload_n G dX1_unlikeLetters_10 rfl ?_ | refine j_aload_nN G dX1_unlikeLetters_10 rfl ?_
    refine j_getr G fl_X1_9 dX1_unlikeLetters_11 (by first | assumption | rfl) (by rfl) ?_
    refine j_iload_n G dX1_unlikeLetters_14 rfl ?_
    refine j_iaload G dX1_unlikeLetters_15 (by first | assumption | rfl) (by omega) (fun r_15 => ?_)
    try simp (disch := omega) only [up_same, up_cell, up_idx, cpm_at, fil_at] at r_15 ⊢
    refine j_if_eq G dX1_unlikeLetters_16 (tgt := 41) (by decide) (by omega) (fun c_16 => ?_) (fun c_16 => ?_)
    · refine j_iinc3 G dX1_unlikeLetters_41 (by decide) rfl rfl ?_
      refine j_goto G dX1_unlikeLetters_44 (tgt := 4) (by decide) ?_
      refine j_pc (p2 := 4) rfl ?_
      have h_z := ih (by omega)
      rw [sm_s (n := i)] at h_z
      first | (rw [if_pos (by omega)] at h_z; exact h_z) | (rw [if_neg (by omega), Int.add_zero] at h_z; exact h_z)
    · first | refine j_aload_n G dX1_unlikeLetters_19 rfl ?_ | refine j_aload_nN G dX1_unlikeLetters_19 rfl ?_
      refine j_ifnull G dX1_unlikeLetters_20 ?_
      first | refine j_aload_n G dX1_unlikeLetters_23 rfl ?_ | refine j_aload_nN G dX1_unlikeLetters_23 rfl ?_
      refine j_getr G fl_X1_9 dX1_unlikeLetters_24 (by first | assumption | rfl) (by rfl) ?_
      refine j_iload_n G dX1_unlikeLetters_27 rfl ?_
      refine j_iaload G dX1_unlikeLetters_28 (by first | assumption | rfl) (by omega) (fun r_28 => ?_)
      try simp (disch := omega) only [up_same, up_cell, up_idx, cpm_at, fil_at] at r_28 ⊢
      first | refine j_aload_n G dX1_unlikeLetters_29 rfl ?_ | refine j_aload_nN G dX1_unlikeLetters_29 rfl ?_
      refine j_getr G fl_X1_9 dX1_unlikeLetters_30 (by first | assumption | rfl) (by rfl) ?_
      refine j_iload_n G dX1_unlikeLetters_33 rfl ?_
      refine j_iaload G dX1_unlikeLetters_34 (by first | assumption | rfl) (by omega) (fun r_34 => ?_)
      try simp (disch := omega) only [up_same, up_cell, up_idx, cpm_at, fil_at] at r_34 ⊢
      refine j_icmp_eq G dX1_unlikeLetters_35 (tgt := 41) (by decide) (by omega) (by omega) (fun c_35 => ?_) (fun c_35 => ?_)
      · refine j_iinc3 G dX1_unlikeLetters_41 (by decide) rfl rfl ?_
        refine j_goto G dX1_unlikeLetters_44 (tgt := 4) (by decide) ?_
        refine j_pc (p2 := 4) rfl ?_
        have h_z := ih (by omega)
        rw [sm_s (n := i)] at h_z
        first | (rw [if_pos (by omega)] at h_z; exact h_z) | (rw [if_neg (by omega), Int.add_zero] at h_z; exact h_z)
      · refine j_iinc2 G dX1_unlikeLetters_38 (by decide) rfl rfl ?_
        refine j_iinc3 G dX1_unlikeLetters_41 (by decide) rfl rfl ?_
        refine j_goto G dX1_unlikeLetters_44 (tgt := 4) (by decide) ?_
        refine j_pc (p2 := 4) rfl ?_
        have h_z := ih (by omega)
        rw [sm_s (n := i)] at h_z
        first | (rw [if_pos (by omega)] at h_z; exact h_z) | (rw [if_neg (by omega), Int.add_zero] at h_z; exact h_z)
theorem k_unlikeN (k q a1 a2 a3 : Nat) (h_k : (eY E)[k]? = some (1, 4, [some q, some a1, some a2, some a3])) (h_q : (eY E)[q]? = some (20, 26, [])) : CT E 0 yX1_unlikeLetters [rf E k, .null] μ (rI (sm (fun l => if μ q l ≠ 0 then 1 else 0) 26) μ) := by
  refine CT.ofJ (own := RX1) (cc := cX1_unlikeLetters) (n := 4) (ret := (some .int)) (by decide) rfl cw_X1_unlikeLetters (by decide) (Nat.le_of_ble_eq_true rfl) (ls := [some (rf E k), some (.null), none, none]) rfl ?_
  intro X G
  refine j_iconst G dX1_unlikeLetters_0 ?_
  refine j_istore2 G dX1_unlikeLetters_1 (by decide) rfl ?_
  refine j_iconst G dX1_unlikeLetters_2 ?_
  refine j_istore3 G dX1_unlikeLetters_3 (by decide) rfl ?_
  refine j_pc (p2 := 4) rfl ?_
  refine down (Pr := fun i => JJ E X 0 (rI (sm (fun l => if μ q l ≠ 0 then 1 else 0) 26) μ) 4 4 [some (rf E k), some .null, some (iv (sm (fun l => if μ q l ≠ 0 then 1 else 0) i)), some (iv i)] [] μ) 26 ?_ 0 (by decide)
  intro i h_i ih
  refine j_iload_n G dX1_unlikeLetters_4 rfl ?_
  refine j_bipush G dX1_unlikeLetters_5 (by decide) ?_
  refine j_icmp_ge G dX1_unlikeLetters_7 (tgt := 47) (by decide) (by omega) (by omega) (fun c_7 => ?_) (fun c_7 => ?_)
  · refine j_iload_n G dX1_unlikeLetters_47 rfl ?_
    refine j_ireturn G dX1_unlikeLetters_48 ?_
    exact ⟨by rw [show i = 26 by omega], rfl⟩
  · first | refine j_aload_n G dX1_unlikeLetters_10 rfl ?_ | refine j_aload_nN G dX1_unlikeLetters_10 rfl ?_
    refine j_getr G fl_X1_9 dX1_unlikeLetters_11 (by first | assumption | rfl) (by rfl) ?_
    refine j_iload_n G dX1_unlikeLetters_14 rfl ?_
    refine j_iaload G dX1_unlikeLetters_15 (by first | assumption | rfl) (by omega) (fun r_15 => ?_)
    try simp (disch := omega) only [up_same, up_cell, up_idx, cpm_at, fil_at] at r_15 ⊢
    refine j_if_eq G dX1_unlikeLetters_16 (tgt := 41) (by decide) (by omega) (fun c_16 => ?_) (fun c_16 => ?_)
    · refine j_iinc3 G dX1_unlikeLetters_41 (by decide) rfl rfl ?_
      refine j_goto G dX1_unlikeLetters_44 (tgt := 4) (by decide) ?_
      refine j_pc (p2 := 4) rfl ?_
      have h_z := ih (by omega)
      rw [sm_s (n := i)] at h_z
      first | (rw [if_pos (by omega)] at h_z; exact h_z) | (rw [if_neg (by omega), Int.add_zero] at h_z; exact h_z)
    · first | refine j_aload_n G dX1_unlikeLetters_19 rfl ?_ | refine j_aload_nN G dX1_unlikeLetters_19 rfl ?_
      refine j_ifnullN G dX1_unlikeLetters_20 (tgt := 38) (by decide) ?_
      refine j_iinc2 G dX1_unlikeLetters_38 (by decide) rfl rfl ?_
      refine j_iinc3 G dX1_unlikeLetters_41 (by decide) rfl rfl ?_
      refine j_goto G dX1_unlikeLetters_44 (tgt := 4) (by decide) ?_
      refine j_pc (p2 := 4) rfl ?_
      have h_z := ih (by omega)
      rw [sm_s (n := i)] at h_z
      first | (rw [if_pos (by omega)] at h_z; exact h_z) | (rw [if_neg (by omega), Int.add_zero] at h_z; exact h_z)
end NR
