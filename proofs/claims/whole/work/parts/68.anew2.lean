def slS (σ : MemT) (l : Nat) : Bool := decide (0 ≤ σ 195 l)
theorem df_ow (σ : MemT) (sel : Nat → Bool) (t : Nat → Int) (ow : Nat → Int) (l : Nat) (h : sel l = true) : sm (fun c => if σ (3 + 7 * c) l = t l then 0 else ow c) 5 = sm (fun c => dfS σ sel t c l * ow c) 5 := sm_cg 5 (fun c _ => by
  unfold dfS
  by_cases h_1 : σ (3 + 7 * c) l = t l
  · rw [if_pos h_1, if_neg (fun z => z.2 h_1), Int.zero_mul]
  · rw [if_neg h_1, if_pos ⟨h, h_1⟩, Int.one_mul])
theorem df_no (σ : MemT) (sel : Nat → Bool) (t : Nat → Int) (ow : Nat → Int) (l : Nat) (h : ¬ sel l = true) : sm (fun c => dfS σ sel t c l * ow c) 5 = 0 := by
  rw [sm_cg (g2 := fun _ => 0) 5 (fun c _ => ?_), sm_zero]
  unfold dfS
  rw [if_neg (fun z => h z.1), Int.zero_mul]
theorem df_rg (σ : MemT) (sel : Nat → Bool) (t : Nat → Int) (ow : Nat → Int) (h_or : ∀ c, c < 5 → 0 ≤ ow c ∧ ow c ≤ 20) (n : Nat) (h_n : n ≤ 26) : 0 ≤ sm (fun l => sm (fun c => dfS σ sel t c l * ow c) 5) n ∧ sm (fun l => sm (fun c => dfS σ sel t c l * ow c) 5) n ≤ 2600 := by
  have := sm_rg (g := fun l => sm (fun c => dfS σ sel t c l * ow c) 5) (a := 0) (b := 100) n (fun l _ => by
    have := sm_rg (g := fun c => dfS σ sel t c l * ow c) (a := 0) (b := 20) 5 (fun c h_c => by
      have h_1 := h_or c h_c
      unfold dfS
      split <;> omega)
    exact this)
  omega
section AN2
variable {E : EE} {x x1 x2 : CX} {μ σ : MemT}
theorem c_newToAll (pk : Nat → Int) (h_pk : ∀ p, p < 7 → 0 ≤ pk p ∧ pk p < 5) (h_p : ∀ p : Nat, p < 7 → σ 197 p = pk p) (h_wp : WfPart σ) (h_wc : ∀ c, c < 5 → WfCode σ c) (ow : Nat → Int) (h_ow : ∀ c : Nat, c < 5 → σ 196 c = ow c) (h_or : ∀ c, c < 5 → 0 ≤ ow c ∧ ow c ≤ 20) : CT (EC x) 1 yX4_newToAll [rf (EC x) 194] σ (rI (sm (fun l => sm (fun c => dfS σ (slS σ) (wS σ pk) c l * ow c) 5) 26) σ) := by
  have h_wr := wS_rg h_pk h_wp h_wc
  refine CT.ofJ (own := RX4) (cc := cX4_newToAll) (n := 3) (ret := (some .int)) (by decide) rfl cw_X4_newToAll (by decide) (Nat.le_of_ble_eq_true rfl) (ls := [some (rf (EC x) 194), none, none]) rfl ?_
  intro X G
  refine j_iconst G dX4_newToAll_0 ?_
  refine j_istore1 G dX4_newToAll_1 (by decide) rfl ?_
  refine j_iconst G dX4_newToAll_2 ?_
  refine j_istore2 G dX4_newToAll_3 (by decide) rfl ?_
  refine j_pc (p2 := 4) rfl ?_
  refine down (Pr := fun i => JJ (EC x) X 1 (rI (sm (fun l => sm (fun c => dfS σ (slS σ) (wS σ pk) c l * ow c) 5) 26) σ) 3 4 [some (rf (EC x) 194), some (iv (sm (fun l => sm (fun c => dfS σ (slS σ) (wS σ pk) c l * ow c) 5) i)), some (iv i)] [] σ) 26 ?_ 0 (by decide)
  intro i h_i ih
  refine j_iload_n G dX4_newToAll_4 rfl ?_
  refine j_bipush G dX4_newToAll_5 (by decide) ?_
  refine j_icmp_ge G dX4_newToAll_7 (tgt := 54) (by decide) (by omega) (by omega) (fun c_7 => ?_) (fun c_7 => ?_)
  · refine j_iload_n G dX4_newToAll_54 rfl ?_
    refine j_ireturn G dX4_newToAll_55 ?_
    obtain rfl : i = 26 := by omega
    exact ⟨rfl, rfl⟩
  · first | refine j_aload_n G dX4_newToAll_10 rfl ?_ | refine j_aload_nN G dX4_newToAll_10 rfl ?_
    refine j_getr G fl_X4_9 dX4_newToAll_11 (by first | assumption | rfl) (by rfl) ?_
    refine j_iload_n G dX4_newToAll_14 rfl ?_
    refine j_iaload G dX4_newToAll_15 (by first | assumption | rfl) (by omega) (fun r_15 => ?_)
    try simp (disch := omega) only [up_same, up_cell, up_idx, cpm_at, fil_at] at r_15 ⊢
    refine j_if_lt G dX4_newToAll_16 (tgt := 48) (by decide) (by omega) (fun c_16 => ?_) (fun c_16 => ?_)
    · refine j_iinc2 G dX4_newToAll_48 (by decide) rfl rfl ?_
      refine j_goto G dX4_newToAll_51 (tgt := 4) (by decide) ?_
      refine j_pc (p2 := 4) rfl ?_
      have h_z := ih (by omega)
      rw [sm_s (n := i)] at h_z
      first
      | (rw [df_no σ (slS σ) (wS σ pk) ow i (by unfold slS; rw [decide_eq_true_eq]; omega), Int.add_zero] at h_z; exact h_z)
      | exact h_z
    · have h_w1 : wS σ pk i = σ (3 + 7 * (pk (σ 195 i).toNat).toNat) i := by unfold wS; rw [if_neg (by omega)]
      have h_w2 := h_wp i (by omega) (by omega)
      have h_w3 := h_wr i (by omega)
      obtain ⟨p, h_p6, h_pe⟩ := nat_of (n := 6) (z := σ 195 i) (by omega)
      have h_w4 := h_pk p (by omega)
      obtain ⟨c, h_c4, h_ce⟩ := nat_of (n := 4) (z := pk p) (by omega)
      rw [h_pe, Int.toNat_natCast, h_ce, Int.toNat_natCast] at h_w1
      obtain ⟨h_y1, h_y2, h_y3, h_y4, h_y5, h_y6, h_y7⟩ := ly_code (x := x) (c := c) (by omega)
      have h_sl : slS σ i = true := decide_eq_true (by omega)
      refine j_iload_n G dX4_newToAll_19 rfl ?_
      first | refine j_aload_n G dX4_newToAll_20 rfl ?_ | refine j_aload_nN G dX4_newToAll_20 rfl ?_
      refine j_iload_n G dX4_newToAll_21 rfl ?_
      first | refine j_aload_n G dX4_newToAll_22 rfl ?_ | refine j_aload_nN G dX4_newToAll_22 rfl ?_
      refine j_getr G fl_X4_31 dX4_newToAll_23 (by first | assumption | rfl) (by rfl) ?_
      first | refine j_aload_n G dX4_newToAll_26 rfl ?_ | refine j_aload_nN G dX4_newToAll_26 rfl ?_
      refine j_getr G fl_X4_18 dX4_newToAll_27 (by first | assumption | rfl) (by rfl) ?_
      first | refine j_aload_n G dX4_newToAll_30 rfl ?_ | refine j_aload_nN G dX4_newToAll_30 rfl ?_
      refine j_getr G fl_X4_9 dX4_newToAll_31 (by first | assumption | rfl) (by rfl) ?_
      refine j_iload_n G dX4_newToAll_34 rfl ?_
      refine j_iaload G dX4_newToAll_35 (by first | assumption | rfl) (by omega) (fun r_35 => ?_)
      try simp (disch := omega) only [up_same, up_cell, up_idx, cpm_at, fil_at] at r_35 ⊢
      refine j_pc (p2 := 36) rfl ?_
      rw [h_pe] at *
      refine j_iaload G dX4_newToAll_36 (by first | assumption | rfl) (by omega) (fun r_36 => ?_)
      try simp (disch := omega) only [up_same, up_cell, up_idx, cpm_at, fil_at] at r_36 ⊢
      rw [h_p p (by omega), h_ce] at *
      refine j_aaload G dX4_newToAll_37 (by first | assumption | rfl) (by decide) (by omega) (ly_codes (by omega)) ?_
      refine j_getr G fl_X4_41 dX4_newToAll_38 (by first | assumption | rfl) (by rfl) ?_
      refine j_iload_n G dX4_newToAll_41 rfl ?_
      refine j_iaload G dX4_newToAll_42 (by first | assumption | rfl) (by omega) (fun r_42 => ?_)
      try simp (disch := omega) only [up_same, up_cell, up_idx, cpm_at, fil_at] at r_42 ⊢
      rw [← h_w1]
      refine j_callV G mv_X4_50 dX4_newToAll_43 (c_strangers i (wS σ pk i) (by omega) (by omega) ow h_ow h_or) (by first | assumption | rfl) (by decide) (by rfl) rfl rfl (by exact Nat.le_of_ble_eq_true rfl) (by decide) (kI ?_)
      rw [df_ow σ (slS σ) (wS σ pk) ow i h_sl]
      refine j_iadd G dX4_newToAll_46 ?_
      refine j_istore1 G dX4_newToAll_47 (by decide) rfl ?_
      refine j_iinc2 G dX4_newToAll_48 (by decide) rfl rfl ?_
      refine j_goto G dX4_newToAll_51 (tgt := 4) (by decide) ?_
      refine j_pc (p2 := 4) rfl ?_
      have h_z := ih (by omega)
      rw [sm_s (n := i)] at h_z
      first
      | (rw [df_no σ (slS σ) (wS σ pk) ow i (by unfold slS; rw [decide_eq_true_eq]; omega), Int.add_zero] at h_z; exact h_z)
      | exact h_z
theorem m_anewOf (pk : Nat → Int) (h_pk : ∀ p, p < 7 → 0 ≤ pk p ∧ pk p < 5) (h_p : ∀ p : Nat, p < 7 → μ 33 p = pk p) (n : Nat) (h_n : σ 0 8 = n) (h_20 : n ≤ 20) (h_wp : WfPart σ) (h_wc : ∀ c, c < 5 → WfCode σ c) (h_rp : RePart σ μ) (h_rc : ∀ c, c < 5 → ReCode σ μ c) (h_rd : ReRd σ μ) : CT (EM x) 1 yX12_anewOf [rf (EM x) 0] μ (rI (anS σ n (slS σ) (wS σ pk)) μ) := by
  have h_wr := wS_rg h_pk h_wp h_wc
  refine CT.ofJ (own := RX12) (cc := cX12_anewOf) (n := 5) (ret := (some .int)) (by decide) rfl cw_X12_anewOf (by decide) (Nat.le_of_ble_eq_true rfl) (ls := [some (rf (EM x) 0), none, none, none, none]) rfl ?_
  intro X G
  refine j_iconst G dX12_anewOf_0 ?_
  refine j_istore1 G dX12_anewOf_1 (by decide) rfl ?_
  refine j_iconst G dX12_anewOf_2 ?_
  refine j_istore2 G dX12_anewOf_3 (by decide) rfl ?_
  refine j_pc (p2 := 4) rfl ?_
  refine j_weak (ls' := [some (rf (EM x) 0), some (iv (anS σ 0 (slS σ) (wS σ pk))), some (iv ((0 : Nat) : Int)), none, none]) ?_ ⟨rfl, rfl, rfl, trivial⟩
  refine down (Pr := fun i => JJ (EM x) X 1 (rI (anS σ n (slS σ) (wS σ pk)) μ) 5 4 [some (rf (EM x) 0), some (iv (anS σ i (slS σ) (wS σ pk))), some (iv i), none, none] [] μ) n ?_ 0 (Nat.zero_le _)
  intro i h_i ih
  refine j_iload_n G dX12_anewOf_4 rfl ?_
  first | refine j_aload_n G dX12_anewOf_5 rfl ?_ | refine j_aload_nN G dX12_anewOf_5 rfl ?_
  refine j_geti G fl_X12_249 dX12_anewOf_6 33 rfl (by first | assumption | rfl) (by rfl) (fun r_6 => ?_)
  try simp (disch := omega) only [up_same, up_cell, up_idx, cpm_at, fil_at] at r_6 ⊢
  rw [h_rd.1, h_n]
  refine j_icmp_ge G dX12_anewOf_9 (tgt := 83) (by decide) (by omega) (by omega) (fun c_9 => ?_) (fun c_9 => ?_)
  · refine j_iload_n G dX12_anewOf_83 rfl ?_
    refine j_ireturn G dX12_anewOf_84 ?_
    obtain rfl : i = n := by omega
    exact ⟨rfl, rfl⟩
  · have h_i20 : i < 20 := by omega
    have h_oe : ownS (fun e => μ 25 (5 * (i : Int) + e)) = ownS (σ (79 + 2 * i)) := congrArg Prod.fst (ownA_cg 5 (fun e he => (h_rd.2 i h_i20).2.2.2 e (by omega) (by omega)))
    have h_o1 := ownA_1 (σ (79 + 2 * i)) 5
    rw [show (ownA (σ (79 + 2 * i)) 5).1 = ownS (σ (79 + 2 * i)) from rfl] at h_o1
    have h_as : anS σ (i + 1) (slS σ) (wS σ pk) = anS σ i (slS σ) (wS σ pk) + (if ownS (σ (79 + 2 * i)) < 0 then 0 else sm (fun l => dfS σ (slS σ) (wS σ pk) (ownS (σ (79 + 2 * i))).toNat l) 26) := rfl
    first | refine j_aload_n G dX12_anewOf_12 rfl ?_ | refine j_aload_nN G dX12_anewOf_12 rfl ?_
    refine j_iload_n G dX12_anewOf_13 rfl ?_
    refine j_callV G mv_X12_267 dX12_anewOf_14 (m_ownCode i (by omega)) (by first | assumption | rfl) (by decide) (by rfl) rfl rfl (by exact Nat.le_of_ble_eq_true rfl) (by decide) (kI ?_)
    rw [h_oe]
    refine j_istore3 G dX12_anewOf_17 (by decide) rfl ?_
    refine j_iconst G dX12_anewOf_18 ?_
    refine j_istore4 G dX12_anewOf_19 (by decide) rfl ?_
    refine j_pc (p2 := 21) rfl ?_
    generalize ownS (σ (79 + 2 * i)) = own at h_o1 h_as h_oe ⊢
    by_cases h_ow : own < 0
    · refine j_iload G dX12_anewOf_21 rfl ?_
      refine j_bipush G dX12_anewOf_23 (by decide) ?_
      refine j_icmp_ge G dX12_anewOf_25 (tgt := 77) (by decide) (by omega) (by omega) (fun c_25 => ?_) (fun c_25 => ?_)
      · refine j_iinc2 G dX12_anewOf_77 (by decide) rfl rfl ?_
        refine j_goto G dX12_anewOf_80 (tgt := 4) (by decide) ?_
        refine j_pc (p2 := 4) rfl ?_
        have h_z := ih (by omega)
        rw [h_as, if_pos h_ow, Int.add_zero] at h_z
        exact j_weak h_z ⟨rfl, rfl, rfl, trivial⟩
      · refine j_iload_n G dX12_anewOf_28 rfl ?_
        refine j_if_lt G dX12_anewOf_29 (tgt := 77) (by decide) (by omega) (fun c_29 => ?_) (fun c_29 => ?_)
        · refine j_iinc2 G dX12_anewOf_77 (by decide) rfl rfl ?_
          refine j_goto G dX12_anewOf_80 (tgt := 4) (by decide) ?_
          refine j_pc (p2 := 4) rfl ?_
          have h_z := ih (by omega)
          rw [h_as, if_pos h_ow, Int.add_zero] at h_z
          exact j_weak h_z ⟨rfl, rfl, rfl, trivial⟩
        · omega
    · obtain ⟨o, h_o4, h_oo⟩ := nat_of (n := 4) (z := own) (by omega)
      rw [if_neg h_ow, h_oo, Int.toNat_natCast] at h_as
      rw [h_oo]
      refine j_weak (ls' := [some (rf (EM x) 0), some (iv (anS σ i (slS σ) (wS σ pk) + sm (fun l => dfS σ (slS σ) (wS σ pk) o l) 0)), some (iv i), some (iv o), some (iv ((0 : Nat) : Int))]) ?_ ⟨rfl, congrArg (fun z => some (iv z)) (Int.add_zero _).symm, rfl, rfl, rfl, trivial⟩
      refine down (Pr := fun j => JJ (EM x) X 1 (rI (anS σ n (slS σ) (wS σ pk)) μ) 5 21 [some (rf (EM x) 0), some (iv (anS σ i (slS σ) (wS σ pk) + sm (fun l => dfS σ (slS σ) (wS σ pk) o l) j)), some (iv i), some (iv o), some (iv j)] [] μ) 26 ?_ 0 (by decide)
      intro j h_j ih2
      · refine j_iload G dX12_anewOf_21 rfl ?_
        refine j_bipush G dX12_anewOf_23 (by decide) ?_
        refine j_icmp_ge G dX12_anewOf_25 (tgt := 77) (by decide) (by omega) (by omega) (fun c_25 => ?_) (fun c_25 => ?_)
        · refine j_iinc2 G dX12_anewOf_77 (by decide) rfl rfl ?_
          refine j_goto G dX12_anewOf_80 (tgt := 4) (by decide) ?_
          refine j_pc (p2 := 4) rfl ?_
          obtain rfl : j = 26 := by omega
          have h_z := ih (by omega)
          rw [h_as] at h_z
          exact j_weak h_z ⟨rfl, rfl, rfl, trivial⟩
        · refine j_iload_n G dX12_anewOf_28 rfl ?_
          refine j_if_lt G dX12_anewOf_29 (tgt := 77) (by decide) (by omega) (fun c_29 => ?_) (fun c_29 => ?_)
          · omega
          · have h_32 := h_rp j (by omega) (by omega)
            have h_co := (h_rc o (by omega)).1 j (by omega) (by omega)
            have h_wo := (h_wc o (by omega)).1 j (by omega) (by omega)
            refine j_iload_n G dX12_anewOf_32 rfl ?_
            first | refine j_aload_n G dX12_anewOf_33 rfl ?_ | refine j_aload_nN G dX12_anewOf_33 rfl ?_
            refine j_getr G fl_X12_104 dX12_anewOf_34 (by first | assumption | rfl) (by rfl) ?_
            refine j_iload G dX12_anewOf_37 rfl ?_
            refine j_iaload G dX12_anewOf_39 (by first | assumption | rfl) (by omega) (fun r_39 => ?_)
            try simp (disch := omega) only [up_same, up_cell, up_idx, cpm_at, fil_at] at r_39 ⊢
            rw [h_32] at *
            refine j_if_lt G dX12_anewOf_40 (tgt := 68) (by decide) (by split <;> omega) (fun c_40 => ?_) (fun c_40 => ?_)
            · refine j_iconst G dX12_anewOf_68 ?_
              refine j_iadd G dX12_anewOf_69 ?_
              refine j_istore1 G dX12_anewOf_70 (by decide) rfl ?_
              refine j_iinc4 G dX12_anewOf_71 (by decide) rfl rfl ?_
              refine j_goto G dX12_anewOf_74 (tgt := 21) (by decide) ?_
              refine j_pc (p2 := 21) rfl ?_
              have h_z := ih2 (by omega)
              rw [sm_s (n := j), ← Int.add_assoc] at h_z
              unfold dfS slS at h_z ⊢
              first
              | (have h_c : σ (3 + 7 * o) j = wS σ pk j := c_61
                 rw [if_neg (fun z => z.2 h_c)] at h_z; exact h_z)
              | (have h_c : σ (3 + 7 * o) j ≠ wS σ pk j := c_61
                 rw [if_pos ⟨decide_eq_true (by omega), h_c⟩] at h_z; exact h_z)
              | (have h_c : ¬ 0 ≤ σ 195 j := fun z1 => by rw [if_neg (show ¬ σ 195 j < 0 by omega)] at c_40; omega
                 rw [if_neg (fun z => h_c (of_decide_eq_true z.1))] at h_z; exact h_z)
            · have h_nn : ¬ σ 195 j < 0 := fun h => by rw [if_pos h] at c_40; omega
              have h_w1 : wS σ pk j = σ (3 + 7 * (pk (σ 195 j).toNat).toNat) j := by unfold wS; rw [if_neg (by omega)]
              have h_w2 := h_wp j (by omega) (by omega)
              have h_w3 := h_wr j (by omega)
              obtain ⟨p, h_p6, h_pe⟩ := nat_of (n := 6) (z := σ 195 j) (by omega)
              have h_w4 := h_pk p (by omega)
              obtain ⟨c, h_c4, h_ce⟩ := nat_of (n := 4) (z := pk p) (by omega)
              rw [h_pe, Int.toNat_natCast, h_ce, Int.toNat_natCast] at h_w1
              have h_mv : μ 1 (26 * c + j) = wS σ pk j := ((h_rc c (by omega)).1 j (by omega) (by omega)).trans h_w1.symm
              first | refine j_aload_n G dX12_anewOf_43 rfl ?_ | refine j_aload_nN G dX12_anewOf_43 rfl ?_
              refine j_getr G fl_X12_7 dX12_anewOf_44 (by first | assumption | rfl) (by rfl) ?_
              refine j_bipush G dX12_anewOf_47 (by decide) ?_
              refine j_iload_n G dX12_anewOf_49 rfl ?_
              refine j_imul G dX12_anewOf_50 ?_
              refine j_iload G dX12_anewOf_51 rfl ?_
              refine j_iadd G dX12_anewOf_53 ?_
              refine j_iaload G dX12_anewOf_54 (by first | assumption | rfl) (by omega) (fun r_54 => ?_)
              try simp (disch := omega) only [up_same, up_cell, up_idx, cpm_at, fil_at] at r_54 ⊢
              rw [h_co] at *
              first | refine j_aload_n G dX12_anewOf_55 rfl ?_ | refine j_aload_nN G dX12_anewOf_55 rfl ?_
              refine j_iload G dX12_anewOf_56 rfl ?_
              refine j_callV G mv_X12_345 dX12_anewOf_58 (m_mixedCell j p c (by omega) (by omega) (by omega) (by have := h_rp j (by omega) (by omega); rw [if_neg h_nn, h_pe] at this; exact this) ((h_p p (by omega)).trans h_ce)) (by first | assumption | rfl) (by decide) (by rfl) rfl rfl (by exact Nat.le_of_ble_eq_true rfl) (by decide) (kI ?_)
              refine j_pc (p2 := 61) rfl ?_
              rw [h_mv]
              refine j_icmp_eq G dX12_anewOf_61 (tgt := 68) (by decide) (by omega) (by omega) (fun c_61 => ?_) (fun c_61 => ?_)
              · refine j_iconst G dX12_anewOf_68 ?_
                refine j_iadd G dX12_anewOf_69 ?_
                refine j_istore1 G dX12_anewOf_70 (by decide) rfl ?_
                refine j_iinc4 G dX12_anewOf_71 (by decide) rfl rfl ?_
                refine j_goto G dX12_anewOf_74 (tgt := 21) (by decide) ?_
                refine j_pc (p2 := 21) rfl ?_
                have h_z := ih2 (by omega)
                rw [sm_s (n := j), ← Int.add_assoc] at h_z
                unfold dfS slS at h_z ⊢
                first
                | (have h_c : σ (3 + 7 * o) j = wS σ pk j := c_61
                   rw [if_neg (fun z => z.2 h_c)] at h_z; exact h_z)
                | (have h_c : σ (3 + 7 * o) j ≠ wS σ pk j := c_61
                   rw [if_pos ⟨decide_eq_true (by omega), h_c⟩] at h_z; exact h_z)
                | (have h_c : ¬ 0 ≤ σ 195 j := fun z1 => by rw [if_neg (show ¬ σ 195 j < 0 by omega)] at c_40; omega
                   rw [if_neg (fun z => h_c (of_decide_eq_true z.1))] at h_z; exact h_z)
              · refine j_iconst G dX12_anewOf_64 ?_
                refine j_goto G dX12_anewOf_65 (tgt := 69) (by decide) ?_
                refine j_iadd G dX12_anewOf_69 ?_
                refine j_istore1 G dX12_anewOf_70 (by decide) rfl ?_
                refine j_iinc4 G dX12_anewOf_71 (by decide) rfl rfl ?_
                refine j_goto G dX12_anewOf_74 (tgt := 21) (by decide) ?_
                refine j_pc (p2 := 21) rfl ?_
                have h_z := ih2 (by omega)
                rw [sm_s (n := j), ← Int.add_assoc] at h_z
                unfold dfS slS at h_z ⊢
                first
                | (have h_c : σ (3 + 7 * o) j = wS σ pk j := c_61
                   rw [if_neg (fun z => z.2 h_c)] at h_z; exact h_z)
                | (have h_c : σ (3 + 7 * o) j ≠ wS σ pk j := c_61
                   rw [if_pos ⟨decide_eq_true (by omega), h_c⟩] at h_z; exact h_z)
                | (have h_c : ¬ 0 ≤ σ 195 j := fun z1 => by rw [if_neg (show ¬ σ 195 j < 0 by omega)] at c_40; omega
                   rw [if_neg (fun z => h_c (of_decide_eq_true z.1))] at h_z; exact h_z)
theorem ReRd.on {ν : MemT} (h : ReRd σ μ) (h_0 : ν 0 33 = μ 0 33) (h_e : ∀ j, 22 ≤ j → j ≤ 25 → ν j = μ j) : ReRd σ ν := by
  unfold ReRd at h ⊢
  rw [h_0, h_e 22 (by omega) (by omega), h_e 23 (by omega) (by omega), h_e 24 (by omega) (by omega), h_e 25 (by omega) (by omega)]
  exact h
theorem RePart.on {ν : MemT} (h : RePart σ μ) (h_0 : ν 32 = μ 32) : RePart σ ν := by
  unfold RePart at h ⊢
  rw [h_0]
  exact h
theorem ReCode.on {ν : MemT} {c : Nat} (h : ReCode σ μ c) (h_0 : ∀ j, 1 ≤ j → j ≤ 6 → ν j = μ j) : ReCode σ ν c := by
  unfold ReCode at h ⊢
  rw [h_0 1 (by omega) (by omega), h_0 2 (by omega) (by omega), h_0 3 (by omega) (by omega), h_0 4 (by omega) (by omega), h_0 5 (by omega) (by omega), h_0 6 (by omega) (by omega)]
  exact h
/-- what anew answers -/
def anewS (σ : MemT) (n : Nat) (d : Int) : Int := if dgO d then (if mxB (wS σ (dgt d)) 26 then anS σ n (slS σ) (wS σ (dgt d)) else -5) else -2
theorem c_anew (d : Int) (h_d : (-2147483648 ≤ d ∧ d < 2147483648)) (n : Nat) (h_n : σ 0 8 = n) (h_20 : n ≤ 20) (h_wp : WfPart σ) (h_wc : ∀ c, c < 5 → WfCode σ c) : CT (EC x) 3 yX11_anew [rf (EC x) 0, iv d] σ (rP (fun z τ => z = anewS σ n d ∧ KC σ τ)) := by
  unfold anewS
  have h_or : ∀ c, c < 5 → 0 ≤ onS σ n c ∧ onS σ n c ≤ 20 := fun c _ => by have := onS_rg σ n c; omega
  refine CT.ofJ (own := RX11) (cc := cX11_anew) (n := 2) (ret := (some .int)) (by decide) rfl cw_X11_anew (by decide) (Nat.le_of_ble_eq_true rfl) (ls := [some (rf (EC x) 0), some (iv d)]) rfl ?_
  intro X G
  first | refine j_aload_n G dX11_anew_0 rfl ?_ | refine j_aload_nN G dX11_anew_0 rfl ?_
  refine j_getr G fl_X11_84 dX11_anew_1 (by first | assumption | rfl) (by rfl) ?_
  refine j_iload_n G dX11_anew_4 rfl ?_
  refine j_callV G mv_X11_299 dX11_anew_5 (c_takeDigits d h_d) (by first | assumption | rfl) (by decide) (by rfl) rfl rfl (by exact Nat.le_of_ble_eq_true rfl) (by decide) (kP (fun z τ h_t => ?_))
  obtain ⟨h_t1, rfl, h_t2⟩ := h_t
  refine j_if_neB G dX11_anew_8 (tgt := 14) (by decide)  (fun c_8 => ?_) (fun c_8 => ?_)
  · have h_dg := (dgO_dg c_8).2
    have h_ws : ∀ l, l < 26 → wS τ (dgt d) l = wS σ (dgt d) l := fun l h_l => wS_on h_dg h_wp (h_t1 195 (by omega)) (fun c h_c => h_t1 _ (by omega)) l h_l
    have h_ww : mxB (wS τ (dgt d)) 26 = mxB (wS σ (dgt d)) 26 := mxB_cg 26 h_ws
    first | refine j_aload_n G dX11_anew_14 rfl ?_ | refine j_aload_nN G dX11_anew_14 rfl ?_
    refine j_getr G fl_X11_84 dX11_anew_15 (by first | assumption | rfl) (by rfl) ?_
    refine j_callV G mv_X11_302 dX11_anew_18 (c_mayBe (dgt d) h_dg (h_t2 c_8) (h_wp.on (h_t1 195 (by omega))) (fun c h_c => (h_wc c h_c).on (fun j h_1 h_2 => h_t1 j (by omega)))) (by first | assumption | rfl) (by decide) (by rfl) rfl rfl (by exact Nat.le_of_ble_eq_true rfl) (by decide) (kI ?_)
    rw [h_ww]
    refine j_if_neB G dX11_anew_21 (tgt := 27) (by decide)  (fun c_21 => ?_) (fun c_21 => ?_)
    · first | refine j_aload_n G dX11_anew_27 rfl ?_ | refine j_aload_nN G dX11_anew_27 rfl ?_
      refine j_callV G mv_X11_305 dX11_anew_28 (c_countAll n ((congrFun (h_t1 0 (by omega)) 8).trans h_n) h_20) (by first | assumption | rfl) (by decide) (by rfl) rfl rfl (by exact Nat.le_of_ble_eq_true rfl) (by decide) (kM (fun τ2 h_t3 => ?_))
      obtain ⟨h_t4, h_t5⟩ := h_t3
      have h_o2 : Ons (fun j => j = 196 ∨ j = 197) σ τ2 := (h_t1.wk (fun j h => Or.inr h)).tr (h_t4.wk (fun j h => Or.inl h))
      have h_on : ∀ c, onS τ n c = onS σ n c := fun c => sm_cg n (fun r h_r => by unfold owS; rw [h_t1 (79 + 2 * r) (by omega)])
      have h_w2 : ∀ l, l < 26 → wS τ2 (dgt d) l = wS σ (dgt d) l := fun l h_l => wS_on h_dg h_wp (h_o2 195 (by omega)) (fun c h_c => h_o2 _ (by omega)) l h_l
      have h_rs : sm (fun l => sm (fun c => dfS τ2 (slS τ2) (wS τ2 (dgt d)) c l * onS σ n c) 5) 26 = anS σ n (slS σ) (wS σ (dgt d)) := by
        rw [← anS_eq σ h_20]
        exact sm_cg 26 (fun l h_l => sm_cg 5 (fun c h_c => by unfold dfS slS; rw [h_w2 l h_l, h_o2 195 (by omega), h_o2 (3 + 7 * c) (by omega)]))
      first | refine j_aload_n G dX11_anew_31 rfl ?_ | refine j_aload_nN G dX11_anew_31 rfl ?_
      refine j_getr G fl_X11_84 dX11_anew_32 (by first | assumption | rfl) (by rfl) ?_
      refine j_callV G mv_X11_308 dX11_anew_35 (c_newToAll (dgt d) h_dg (fun p h_p => by rw [h_t4 197 (by omega)]; exact h_t2 c_8 p h_p) (h_wp.on (h_o2 195 (by omega))) (fun c h_c => (h_wc c h_c).on (fun j h_1 h_2 => h_o2 j (by omega))) (onS σ n) (fun c h_c => (h_t5 c h_c).trans (h_on c)) h_or) (by first | assumption | rfl) (by decide) (by rfl) rfl rfl (by exact Nat.le_of_ble_eq_true rfl) (by decide) (kI ?_)
      refine j_ireturn G dX11_anew_38 ?_
      exact ⟨_, rfl, by rw [if_pos c_8, if_pos c_21, h_rs], h_o2.wk (fun j h => by unfold scC; omega)⟩
    · refine j_bipush G dX11_anew_24 (by decide) ?_
      refine j_ireturn G dX11_anew_26 ?_
      exact ⟨-5, rfl, by rw [if_pos c_8, if_neg c_21], h_t1.wk (fun j h => by unfold scC; omega)⟩
  · refine j_bipush G dX11_anew_11 (by decide) ?_
    refine j_ireturn G dX11_anew_13 ?_
    exact ⟨-2, rfl, by rw [if_neg c_8], h_t1.wk (fun j h => by unfold scC; omega)⟩
theorem m_anew (d : Int) (h_d : (-2147483648 ≤ d ∧ d < 2147483648)) (n : Nat) (h_n : σ 0 8 = n) (h_20 : n ≤ 20) (h_wp : WfPart σ) (h_wc : ∀ c, c < 5 → WfCode σ c) (h_rp : RePart σ μ) (h_rc : ∀ c, c < 5 → ReCode σ μ c) (h_rd : ReRd σ μ) : CT (EM x) 2 yX12_anew [rf (EM x) 0, iv d] μ (rP (fun z ν => z = anewS σ n d ∧ KM μ ν)) := by
  unfold anewS
  have h_km : ∀ ν, Ons (· = 33) μ ν → KM μ ν := fun ν h => ⟨fun k h_1 _ => h k (fun z => h_1 (by unfold scM; omega)), fun i _ => by rw [h 0 (by omega)]⟩
  refine CT.ofJ (own := RX12) (cc := cX12_anew) (n := 2) (ret := (some .int)) (by decide) rfl cw_X12_anew (by decide) (Nat.le_of_ble_eq_true rfl) (ls := [some (rf (EM x) 0), some (iv d)]) rfl ?_
  intro X G
  first | refine j_aload_n G dX12_anew_0 rfl ?_ | refine j_aload_nN G dX12_anew_0 rfl ?_
  refine j_iload_n G dX12_anew_1 rfl ?_
  refine j_callV G mv_X12_348 dX12_anew_2 (m_layMix d h_d) (by first | assumption | rfl) (by decide) (by rfl) rfl rfl (by exact Nat.le_of_ble_eq_true rfl) (by decide) (kP (fun z ν h_t => ?_))
  obtain ⟨h_t1, rfl, h_t2⟩ := h_t
  refine j_if_neB G dX12_anew_5 (tgt := 11) (by decide)  (fun c_5 => ?_) (fun c_5 => ?_)
  · have h_dg := (dgO_dg c_5).2
    have h_rp2 : RePart σ ν := h_rp.on (h_t1 32 (by omega))
    have h_rc2 : ∀ c, c < 5 → ReCode σ ν c := fun c h_c => (h_rc c h_c).on (fun j h_1 h_2 => h_t1 j (by omega))
    have h_rd2 : ReRd σ ν := h_rd.on (congrFun (h_t1 0 (by omega)) 33) (fun j h_1 h_2 => h_t1 j (by omega))
    first | refine j_aload_n G dX12_anew_11 rfl ?_ | refine j_aload_nN G dX12_anew_11 rfl ?_
    refine j_callV G mv_X12_351 dX12_anew_12 (m_mayMix (σ := σ) (dgt d) h_dg (h_t2 c_5) h_wp h_wc h_rp2 h_rc2) (by first | assumption | rfl) (by decide) (by rfl) rfl rfl (by exact Nat.le_of_ble_eq_true rfl) (by decide) (kI ?_)
    refine j_if_eqB G dX12_anew_15 (tgt := 25) (by decide)  (fun c_15 => ?_) (fun c_15 => ?_)
    · refine j_bipush G dX12_anew_25 (by decide) ?_
      refine j_ireturn G dX12_anew_27 ?_
      first
      | exact ⟨_, rfl, by rw [if_pos c_5, if_pos c_15], h_km _ h_t1⟩
      | exact ⟨_, rfl, by rw [if_pos c_5, if_neg c_15], h_km _ h_t1⟩
    · first | refine j_aload_n G dX12_anew_18 rfl ?_ | refine j_aload_nN G dX12_anew_18 rfl ?_
      refine j_callV G mv_X12_355 dX12_anew_19 (m_anewOf (σ := σ) (dgt d) h_dg (h_t2 c_5) n h_n h_20 h_wp h_wc h_rp2 h_rc2 h_rd2) (by first | assumption | rfl) (by decide) (by rfl) rfl rfl (by exact Nat.le_of_ble_eq_true rfl) (by decide) (kI ?_)
      refine j_goto G dX12_anew_22 (tgt := 27) (by decide) ?_
      refine j_ireturn G dX12_anew_27 ?_
      first
      | exact ⟨_, rfl, by rw [if_pos c_5, if_pos c_15], h_km _ h_t1⟩
      | exact ⟨_, rfl, by rw [if_pos c_5, if_neg c_15], h_km _ h_t1⟩
  · refine j_bipush G dX12_anew_8 (by decide) ?_
    refine j_ireturn G dX12_anew_10 ?_
    exact ⟨-2, rfl, by rw [if_neg c_5], h_km _ h_t1⟩
theorem op_anew (d : Int) (h_1 : (-2147483648 ≤ d ∧ d < 2147483648)) : OP x1 x2 yX11_anew yX12_anew [iv d] := by
  refine OP.same (fun σ μ hw hr => ?_)
  obtain ⟨w1, w2, w3, w4, w5, w6, w7, w8⟩ := id hw
  obtain ⟨r1, r2, r3, r4, r5, r6, r7, r8⟩ := id hr
  obtain ⟨n, h_n20, h_n⟩ := nat_of (n := 20) w5.1
  exact ⟨_, _, _, by decide, by decide, c_anew d h_1 n h_n h_n20 w8 w1, m_anew d h_1 n h_n h_n20 w8 w1 r8 r1 r5⟩
end AN2
