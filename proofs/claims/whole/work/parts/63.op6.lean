/-- may she vote -/
def voS (σ : MemT) (s r : Nat) : Bool := decide (σ (78 + 2 * r) 1 = s) && clB (σ (130 + 12 * s)) (fcS σ r) (σ (129 + 12 * s) 1).toNat 0 (decide (0 < (σ (129 + 12 * s) 1).toNat)) 0 0 0
def thS (σ : MemT) (s r : Nat) : Bool := decide (σ (78 + 2 * r) 1 = s)
def owS (σ : MemT) (m : Nat) (e : Int) (r : Nat) : Int := if m.testBit r = true ∧ ownS (σ (79 + 2 * r)) = e then 1 else 0
theorem owS_rg (σ : MemT) (m : Nat) (e : Int) (n : Nat) : 0 ≤ sm (owS σ m e) n ∧ sm (owS σ m e) n ≤ n := by
  have := sm_rg (g := owS σ m e) (a := 0) (b := 1) n (fun i _ => by unfold owS; split <;> omega)
  omega
theorem fcS_rg {σ : MemT} (h_wr : WfRd σ) (r : Nat) (h_r : r < 20) (g : Int) : -2147483648 ≤ fcS σ r g ∧ fcS σ r g < 2147483648 := by
  obtain ⟨w1, w2, w3, w4⟩ := h_wr.2 r h_r
  have h_om := own_most (σ (79 + 2 * r)) 5
  have h_o1 := ownA_1 (σ (79 + 2 * r)) 5
  have h_p := pop_rg (knA (σ (79 + 2 * r)) 5)
  unfold fcS
  repeat' split
  · omega
  · rcases h_om with ⟨a1, a2⟩ | ⟨a1, a2⟩
    · omega
    · have := w4 (ownA (σ (79 + 2 * r)) 5).1 a1 (by omega)
      omega
  · omega
  · omega
section VC
variable {E : EE} {x x1 x2 : CX} {μ σ : MemT}
theorem c_votersOf (s n : Nat) (h_s : s < 6) (h_n : σ 0 8 = n) (h_20 : n ≤ 20) (h_wr : WfRd σ) (h_ru : WfRule σ) : CT (EC x) 4 yX11_votersOf [rf (EC x) 0, iv s] σ (rI (bo (voS σ s) n) σ) := by
  obtain ⟨h_y1, h_y2, h_y3, h_y4, h_y5⟩ := ly_school (x := x) h_s
  obtain ⟨m, h_m40, h_me, h_mo⟩ := h_ru s h_s
  refine CT.ofJ (own := RX11) (cc := cX11_votersOf) (n := 5) (ret := (some .int)) (by decide) rfl cw_X11_votersOf (by decide) (Nat.le_of_ble_eq_true rfl) (ls := [some (rf (EC x) 0), some (iv s), none, none, none]) rfl ?_
  intro X G
  first | refine j_aload_n G dX11_votersOf_0 rfl ?_ | refine j_aload_nN G dX11_votersOf_0 rfl ?_
  refine j_iload_n G dX11_votersOf_1 rfl ?_
  refine j_callV G mv_X11_197 dX11_votersOf_2 (c_schoolAt s h_s) (by first | assumption | rfl) (by decide) (by rfl) rfl rfl (by exact Nat.le_of_ble_eq_true rfl) (by decide) (kV ?_)
  first | refine j_astore2 G dX11_votersOf_5 (by decide) rfl ?_ | refine j_astoreN2 G dX11_votersOf_5 (by decide) rfl ?_
  refine j_iconst G dX11_votersOf_6 ?_
  refine j_istore3 G dX11_votersOf_7 (by decide) rfl ?_
  refine j_iconst G dX11_votersOf_8 ?_
  refine j_istore4 G dX11_votersOf_9 (by decide) rfl ?_
  refine j_pc (p2 := 11) rfl ?_
  refine down (Pr := fun i => JJ (EC x) X 4 (rI (bo (voS σ s) n) σ) 5 11 [some (rf (EC x) 0), some (iv s), some (rf (EC x) (119 + 12 * s)), some (iv ((bo (voS σ s) i : Nat) : Int)), some (iv i)] [] σ) n ?_ 0 (Nat.zero_le _)
  intro i h_i ih
  have h_B := pow31 (bo_lt (voS σ s) i) (by omega)
  first | refine j_aload_n G dX11_votersOf_11 rfl ?_ | refine j_aload_nN G dX11_votersOf_11 rfl ?_
  refine j_ifnull G dX11_votersOf_12 ?_
  refine j_iload G dX11_votersOf_15 rfl ?_
  first | refine j_aload_n G dX11_votersOf_17 rfl ?_ | refine j_aload_nN G dX11_votersOf_17 rfl ?_
  refine j_geti G fl_X11_61 dX11_votersOf_18 8 rfl (by first | assumption | rfl) (by rfl) (fun r_18 => ?_)
  try simp (disch := omega) only [up_same, up_cell, up_idx, cpm_at, fil_at] at r_18 ⊢
  refine j_icmp_ge G dX11_votersOf_21 (tgt := 68) (by decide) (by omega) (by omega) (fun c_21 => ?_) (fun c_21 => ?_)
  · refine j_iload_n G dX11_votersOf_68 rfl ?_
    refine j_ireturn G dX11_votersOf_69 ?_
    obtain rfl : i = n := by omega
    exact ⟨rfl, rfl⟩
  · first | refine j_aload_n G dX11_votersOf_24 rfl ?_ | refine j_aload_nN G dX11_votersOf_24 rfl ?_
    have h_i20 : i < 20 := by omega
    obtain ⟨h_z1, h_z2, h_z3⟩ := ly_reader (x := x) h_i20
    refine j_getr G fl_X11_56 dX11_votersOf_25 (by first | assumption | rfl) (by rfl) ?_
    refine j_iload G dX11_votersOf_28 rfl ?_
    refine j_aaload G dX11_votersOf_30 (by first | assumption | rfl) (by decide) (by omega) h_z1 ?_
    refine j_geti G fl_X11_204 dX11_votersOf_31 1 rfl (by first | assumption | rfl) (by rfl) (fun r_31 => ?_)
    try simp (disch := omega) only [up_same, up_cell, up_idx, cpm_at, fil_at] at r_31 ⊢
    refine j_iload_n G dX11_votersOf_34 rfl ?_
    refine j_icmp_ne G dX11_votersOf_35 (tgt := 62) (by decide) (by omega) (by omega) (fun c_35 => ?_) (fun c_35 => ?_)
    · refine j_iinc4 G dX11_votersOf_62 (by decide) rfl rfl ?_
      refine j_goto G dX11_votersOf_65 (tgt := 11) (by decide) ?_
      refine j_pc (p2 := 11) rfl ?_
      have h_z := ih (by omega)
      rw [show bo (voS σ s) (i + 1) = bo (voS σ s) i ||| (if voS σ s i then 2 ^ i else 0) from rfl] at h_z
      unfold voS at h_z ⊢
      rw [h_me, Int.toNat_natCast] at h_z ⊢
      unfold voS at h_B
      rw [h_me, Int.toNat_natCast] at h_B
      first
      | (rw [if_neg (by rw [Bool.and_eq_true, decide_eq_true_eq]; exact fun h => c_35 h.1), Nat.or_zero] at h_z; exact h_z)
      | (rw [if_neg (by rw [Bool.and_eq_true]; exact fun h => c_52 h.2), Nat.or_zero] at h_z; exact h_z)
      | (rw [← kn_s h_B (by omega), if_pos (by rw [Bool.and_eq_true, decide_eq_true_eq]; exact ⟨c_35, c_52⟩)] at h_z; exact h_z)
    · first | refine j_aload_n G dX11_votersOf_38 rfl ?_ | refine j_aload_nN G dX11_votersOf_38 rfl ?_
      refine j_getr G fl_X11_284 dX11_votersOf_39 (by first | assumption | rfl) (by rfl) ?_
      first | refine j_aload_n G dX11_votersOf_42 rfl ?_ | refine j_aload_nN G dX11_votersOf_42 rfl ?_
      refine j_getr G fl_X11_56 dX11_votersOf_43 (by first | assumption | rfl) (by rfl) ?_
      refine j_iload G dX11_votersOf_46 rfl ?_
      refine j_aaload G dX11_votersOf_48 (by first | assumption | rfl) (by decide) (by omega) h_z1 ?_
      refine j_callS G ms_X11_320 dX11_votersOf_49 (c_allows s i m h_s h_i20 h_me h_m40 h_mo (fcS_rg h_wr i h_i20)) rfl rfl (by exact Nat.le_of_ble_eq_true rfl) (by decide) (kI ?_)
      refine j_if_eqB G dX11_votersOf_52 (tgt := 62) (by decide)  (fun c_52 => ?_) (fun c_52 => ?_)
      · refine j_iinc4 G dX11_votersOf_62 (by decide) rfl rfl ?_
        refine j_goto G dX11_votersOf_65 (tgt := 11) (by decide) ?_
        refine j_pc (p2 := 11) rfl ?_
        have h_z := ih (by omega)
        rw [show bo (voS σ s) (i + 1) = bo (voS σ s) i ||| (if voS σ s i then 2 ^ i else 0) from rfl] at h_z
        unfold voS at h_z ⊢
        rw [h_me, Int.toNat_natCast] at h_z ⊢
        unfold voS at h_B
        rw [h_me, Int.toNat_natCast] at h_B
        first
        | (rw [if_neg (by rw [Bool.and_eq_true, decide_eq_true_eq]; exact fun h => c_35 h.1), Nat.or_zero] at h_z; exact h_z)
        | (rw [if_neg (by rw [Bool.and_eq_true]; exact fun h => c_52 h.2), Nat.or_zero] at h_z; exact h_z)
        | (rw [← kn_s h_B (by omega), if_pos (by rw [Bool.and_eq_true, decide_eq_true_eq]; exact ⟨c_35, c_52⟩)] at h_z; exact h_z)
      · refine j_iload_n G dX11_votersOf_55 rfl ?_
        refine j_iconst G dX11_votersOf_56 ?_
        refine j_iload G dX11_votersOf_57 rfl ?_
        refine j_ishl G dX11_votersOf_59 ?_
        refine j_ior G dX11_votersOf_60 ?_
        refine j_istore3 G dX11_votersOf_61 (by decide) rfl ?_
        refine j_iinc4 G dX11_votersOf_62 (by decide) rfl rfl ?_
        refine j_goto G dX11_votersOf_65 (tgt := 11) (by decide) ?_
        refine j_pc (p2 := 11) rfl ?_
        have h_z := ih (by omega)
        rw [show bo (voS σ s) (i + 1) = bo (voS σ s) i ||| (if voS σ s i then 2 ^ i else 0) from rfl] at h_z
        unfold voS at h_z ⊢
        rw [h_me, Int.toNat_natCast] at h_z ⊢
        unfold voS at h_B
        rw [h_me, Int.toNat_natCast] at h_B
        first
        | (rw [if_neg (by rw [Bool.and_eq_true, decide_eq_true_eq]; exact fun h => c_35 h.1), Nat.or_zero] at h_z; exact h_z)
        | (rw [if_neg (by rw [Bool.and_eq_true]; exact fun h => c_52 h.2), Nat.or_zero] at h_z; exact h_z)
        | (rw [← kn_s h_B (by omega), if_pos (by rw [Bool.and_eq_true, decide_eq_true_eq]; exact ⟨c_35, c_52⟩)] at h_z; exact h_z)
theorem c_readersOf (s n : Nat) (h_s : s < 6) (h_n : σ 0 8 = n) (h_20 : n ≤ 20) : CT (EC x) 0 yX11_readersOf [rf (EC x) 0, iv s] σ (rI (bo (thS σ s) n) σ) := by
  refine CT.ofJ (own := RX11) (cc := cX11_readersOf) (n := 4) (ret := (some .int)) (by decide) rfl cw_X11_readersOf (by decide) (Nat.le_of_ble_eq_true rfl) (ls := [some (rf (EC x) 0), some (iv s), none, none]) rfl ?_
  intro X G
  refine j_iconst G dX11_readersOf_0 ?_
  refine j_istore2 G dX11_readersOf_1 (by decide) rfl ?_
  refine j_iconst G dX11_readersOf_2 ?_
  refine j_istore3 G dX11_readersOf_3 (by decide) rfl ?_
  refine j_pc (p2 := 4) rfl ?_
  refine down (Pr := fun i => JJ (EC x) X 0 (rI (bo (thS σ s) n) σ) 4 4 [some (rf (EC x) 0), some (iv s), some (iv ((bo (thS σ s) i : Nat) : Int)), some (iv i)] [] σ) n ?_ 0 (Nat.zero_le _)
  intro i h_i ih
  have h_B := pow31 (bo_lt (thS σ s) i) (by omega)
  refine j_iload_n G dX11_readersOf_4 rfl ?_
  first | refine j_aload_n G dX11_readersOf_5 rfl ?_ | refine j_aload_nN G dX11_readersOf_5 rfl ?_
  refine j_geti G fl_X11_61 dX11_readersOf_6 8 rfl (by first | assumption | rfl) (by rfl) (fun r_6 => ?_)
  try simp (disch := omega) only [up_same, up_cell, up_idx, cpm_at, fil_at] at r_6 ⊢
  refine j_icmp_ge G dX11_readersOf_9 (tgt := 41) (by decide) (by omega) (by omega) (fun c_9 => ?_) (fun c_9 => ?_)
  · refine j_iload_n G dX11_readersOf_41 rfl ?_
    refine j_ireturn G dX11_readersOf_42 ?_
    obtain rfl : i = n := by omega
    exact ⟨rfl, rfl⟩
  · refine j_iload_n G dX11_readersOf_12 rfl ?_
    first | refine j_aload_n G dX11_readersOf_13 rfl ?_ | refine j_aload_nN G dX11_readersOf_13 rfl ?_
    have h_i20 : i < 20 := by omega
    obtain ⟨h_z1, h_z2, h_z3⟩ := ly_reader (x := x) h_i20
    refine j_getr G fl_X11_56 dX11_readersOf_14 (by first | assumption | rfl) (by rfl) ?_
    refine j_iload_n G dX11_readersOf_17 rfl ?_
    refine j_aaload G dX11_readersOf_18 (by first | assumption | rfl) (by decide) (by omega) h_z1 ?_
    refine j_geti G fl_X11_204 dX11_readersOf_19 1 rfl (by first | assumption | rfl) (by rfl) (fun r_19 => ?_)
    try simp (disch := omega) only [up_same, up_cell, up_idx, cpm_at, fil_at] at r_19 ⊢
    refine j_iload_n G dX11_readersOf_22 rfl ?_
    refine j_icmp_ne G dX11_readersOf_23 (tgt := 32) (by decide) (by omega) (by omega) (fun c_23 => ?_) (fun c_23 => ?_)
    · refine j_iconst G dX11_readersOf_32 ?_
      refine j_ior G dX11_readersOf_33 ?_
      refine j_istore2 G dX11_readersOf_34 (by decide) rfl ?_
      refine j_iinc3 G dX11_readersOf_35 (by decide) rfl rfl ?_
      refine j_goto G dX11_readersOf_38 (tgt := 4) (by decide) ?_
      refine j_pc (p2 := 4) rfl ?_
      have h_z := ih (by omega)
      rw [show bo (thS σ s) (i + 1) = bo (thS σ s) i ||| (if thS σ s i then 2 ^ i else 0) from rfl, ← kn_s h_B (by omega)] at h_z
      first
      | (rw [if_neg (by unfold thS; rw [decide_eq_true_eq]; exact c_23)] at h_z; exact h_z)
      | (rw [if_pos (by unfold thS; rw [decide_eq_true_eq]; exact c_23)] at h_z; exact h_z)
    · refine j_iconst G dX11_readersOf_26 ?_
      refine j_iload_n G dX11_readersOf_27 rfl ?_
      refine j_ishl G dX11_readersOf_28 ?_
      refine j_goto G dX11_readersOf_29 (tgt := 33) (by decide) ?_
      refine j_ior G dX11_readersOf_33 ?_
      refine j_istore2 G dX11_readersOf_34 (by decide) rfl ?_
      refine j_iinc3 G dX11_readersOf_35 (by decide) rfl rfl ?_
      refine j_goto G dX11_readersOf_38 (tgt := 4) (by decide) ?_
      refine j_pc (p2 := 4) rfl ?_
      have h_z := ih (by omega)
      rw [show bo (thS σ s) (i + 1) = bo (thS σ s) i ||| (if thS σ s i then 2 ^ i else 0) from rfl, ← kn_s h_B (by omega)] at h_z
      first
      | (rw [if_neg (by unfold thS; rw [decide_eq_true_eq]; exact c_23)] at h_z; exact h_z)
      | (rw [if_pos (by unfold thS; rw [decide_eq_true_eq]; exact c_23)] at h_z; exact h_z)
theorem c_countOwners (e : Int) (h_e : (-2147483648 ≤ e ∧ e < 2147483648)) (m n : Nat) (h_m : m < 2147483648) (h_n : σ 0 8 = n) (h_20 : n ≤ 20) : CT (EC x) 1 yX11_countOwners [rf (EC x) 0, iv e, iv m] σ (rI (sm (owS σ m e) n) σ) := by
  refine CT.ofJ (own := RX11) (cc := cX11_countOwners) (n := 5) (ret := (some .int)) (by decide) rfl cw_X11_countOwners (by decide) (Nat.le_of_ble_eq_true rfl) (ls := [some (rf (EC x) 0), some (iv e), some (iv m), none, none]) rfl ?_
  intro X G
  refine j_iconst G dX11_countOwners_0 ?_
  refine j_istore3 G dX11_countOwners_1 (by decide) rfl ?_
  refine j_iconst G dX11_countOwners_2 ?_
  refine j_istore4 G dX11_countOwners_3 (by decide) rfl ?_
  refine j_pc (p2 := 5) rfl ?_
  refine down (Pr := fun i => JJ (EC x) X 1 (rI (sm (owS σ m e) n) σ) 5 5 [some (rf (EC x) 0), some (iv e), some (iv m), some (iv (sm (owS σ m e) i)), some (iv i)] [] σ) n ?_ 0 (Nat.zero_le _)
  intro i h_i ih
  have h_B := owS_rg σ m e i
  refine j_iload G dX11_countOwners_5 rfl ?_
  first | refine j_aload_n G dX11_countOwners_7 rfl ?_ | refine j_aload_nN G dX11_countOwners_7 rfl ?_
  refine j_geti G fl_X11_61 dX11_countOwners_8 8 rfl (by first | assumption | rfl) (by rfl) (fun r_8 => ?_)
  try simp (disch := omega) only [up_same, up_cell, up_idx, cpm_at, fil_at] at r_8 ⊢
  refine j_icmp_ge G dX11_countOwners_11 (tgt := 47) (by decide) (by omega) (by omega) (fun c_11 => ?_) (fun c_11 => ?_)
  · refine j_iload_n G dX11_countOwners_47 rfl ?_
    refine j_ireturn G dX11_countOwners_48 ?_
    obtain rfl : i = n := by omega
    exact ⟨rfl, rfl⟩
  · refine j_iload_n G dX11_countOwners_14 rfl ?_
    refine j_iload G dX11_countOwners_15 rfl ?_
    refine j_ishr G dX11_countOwners_17 ?_
    refine j_iconst G dX11_countOwners_18 ?_
    refine j_iand G dX11_countOwners_19 ?_
    rw [bit32 h_m (by omega)]
    refine j_iconst G dX11_countOwners_20 ?_
    refine j_icmp_ne G dX11_countOwners_21 (tgt := 41) (by decide) (by have := b2_01 (m.testBit i = true); omega) (by omega) (fun c_21 => ?_) (fun c_21 => ?_)
    · refine j_iinc4 G dX11_countOwners_41 (by decide) rfl rfl ?_
      refine j_goto G dX11_countOwners_44 (tgt := 5) (by decide) ?_
      refine j_pc (p2 := 5) rfl ?_
      have h_z := ih (by omega)
      rw [sm_s] at h_z
      unfold owS at h_z ⊢
      unfold b2 at c_21
      by_cases h_t : m.testBit i = true
      · rw [if_pos h_t] at c_21
        first
        | (exfalso; omega)
        | (rw [if_pos ⟨h_t, c_35⟩] at h_z; exact h_z)
        | (rw [if_neg (fun h => c_35 h.2), Int.add_zero] at h_z; exact h_z)
      · rw [if_neg h_t] at c_21
        first
        | (exfalso; omega)
        | (rw [if_neg (fun h => h_t h.1), Int.add_zero] at h_z; exact h_z)
    · first | refine j_aload_n G dX11_countOwners_24 rfl ?_ | refine j_aload_nN G dX11_countOwners_24 rfl ?_
      have h_i20 : i < 20 := by omega
      obtain ⟨h_z1, h_z2, h_z3⟩ := ly_reader (x := x) h_i20
      refine j_getr G fl_X11_56 dX11_countOwners_25 (by first | assumption | rfl) (by rfl) ?_
      refine j_iload G dX11_countOwners_28 rfl ?_
      refine j_aaload G dX11_countOwners_30 (by first | assumption | rfl) (by decide) (by omega) h_z1 ?_
      refine j_callV G mv_X11_217 dX11_countOwners_31 (r_ownCode (78 + 2 * i) (79 + 2 * i) h_z2 h_z3) (by first | assumption | rfl) (by decide) (by rfl) rfl rfl (by exact Nat.le_of_ble_eq_true rfl) (by decide) (kI ?_)
      refine j_iload_n G dX11_countOwners_34 rfl ?_
      refine j_icmp_ne G dX11_countOwners_35 (tgt := 41) (by decide) (by have := ownS_rg (σ (79 + 2 * i)); omega) h_e (fun c_35 => ?_) (fun c_35 => ?_)
      · refine j_iinc4 G dX11_countOwners_41 (by decide) rfl rfl ?_
        refine j_goto G dX11_countOwners_44 (tgt := 5) (by decide) ?_
        refine j_pc (p2 := 5) rfl ?_
        have h_z := ih (by omega)
        rw [sm_s] at h_z
        unfold owS at h_z ⊢
        unfold b2 at c_21
        by_cases h_t : m.testBit i = true
        · rw [if_pos h_t] at c_21
          first
          | (exfalso; omega)
          | (rw [if_pos ⟨h_t, c_35⟩] at h_z; exact h_z)
          | (rw [if_neg (fun h => c_35 h.2), Int.add_zero] at h_z; exact h_z)
        · rw [if_neg h_t] at c_21
          first
          | (exfalso; omega)
          | (rw [if_neg (fun h => h_t h.1), Int.add_zero] at h_z; exact h_z)
      · refine j_iinc3 G dX11_countOwners_38 (by decide) rfl rfl ?_
        refine j_iinc4 G dX11_countOwners_41 (by decide) rfl rfl ?_
        refine j_goto G dX11_countOwners_44 (tgt := 5) (by decide) ?_
        refine j_pc (p2 := 5) rfl ?_
        have h_z := ih (by omega)
        rw [sm_s] at h_z
        unfold owS at h_z ⊢
        unfold b2 at c_21
        by_cases h_t : m.testBit i = true
        · rw [if_pos h_t] at c_21
          first
          | (exfalso; omega)
          | (rw [if_pos ⟨h_t, c_35⟩] at h_z; exact h_z)
          | (rw [if_neg (fun h => c_35 h.2), Int.add_zero] at h_z; exact h_z)
        · rw [if_neg h_t] at c_21
          first
          | (exfalso; omega)
          | (rw [if_neg (fun h => h_t h.1), Int.add_zero] at h_z; exact h_z)
theorem c_voters (s n : Nat) (h_s : s < 6) (h_n : σ 0 8 = n) (h_20 : n ≤ 20) (h_wr : WfRd σ) (h_ru : WfRule σ) : CT (EC x) 5 yX11_voters [rf (EC x) 0, iv s] σ (rI (bo (voS σ s) n) σ) := by
  refine CT.ofJ (own := RX11) (cc := cX11_voters) (n := 2) (ret := (some .int)) (by decide) rfl cw_X11_voters (by decide) (Nat.le_of_ble_eq_true rfl) (ls := [some (rf (EC x) 0), some (iv s)]) rfl ?_
  intro X G
  first | refine j_aload_n G dX11_voters_0 rfl ?_ | refine j_aload_nN G dX11_voters_0 rfl ?_
  refine j_iload_n G dX11_voters_1 rfl ?_
  refine j_callV G mv_X11_197 dX11_voters_2 (c_schoolAt s h_s) (by first | assumption | rfl) (by decide) (by rfl) rfl rfl (by exact Nat.le_of_ble_eq_true rfl) (by decide) (kV ?_)
  refine j_ifnonnull G dX11_voters_5 (tgt := 12) (by decide) ?_
  first | refine j_aload_n G dX11_voters_12 rfl ?_ | refine j_aload_nN G dX11_voters_12 rfl ?_
  refine j_iload_n G dX11_voters_13 rfl ?_
  refine j_callV G mv_X11_287 dX11_voters_14 (c_votersOf s n h_s h_n h_20 h_wr h_ru) (by first | assumption | rfl) (by decide) (by rfl) rfl rfl (by exact Nat.le_of_ble_eq_true rfl) (by decide) (kI ?_)
  refine j_ireturn G dX11_voters_17 ?_
  exact ⟨rfl, rfl⟩
theorem c_votersN (s : Int) (h_1 : (-2147483648 ≤ s ∧ s < 2147483648)) (h_s : ¬ (0 ≤ s ∧ s ≤ 5)) : CT (EC x) 5 yX11_voters [rf (EC x) 0, iv s] σ (rI (-1) σ) := by
  refine CT.ofJ (own := RX11) (cc := cX11_voters) (n := 2) (ret := (some .int)) (by decide) rfl cw_X11_voters (by decide) (Nat.le_of_ble_eq_true rfl) (ls := [some (rf (EC x) 0), some (iv s)]) rfl ?_
  intro X G
  first | refine j_aload_n G dX11_voters_0 rfl ?_ | refine j_aload_nN G dX11_voters_0 rfl ?_
  refine j_iload_n G dX11_voters_1 rfl ?_
  refine j_callV G mv_X11_197 dX11_voters_2 (c_schoolAtN s h_1 h_s) (by first | assumption | rfl) (by decide) (by rfl) rfl rfl (by exact Nat.le_of_ble_eq_true rfl) (by decide) (kV ?_)
  refine j_ifnonnullN G dX11_voters_5 ?_
  refine j_iconst G dX11_voters_8 ?_
  refine j_goto G dX11_voters_9 (tgt := 17) (by decide) ?_
  refine j_ireturn G dX11_voters_17 ?_
  exact ⟨rfl, rfl⟩
def chS (σ : MemT) (m n : Nat) : Int := ownS (fun e => sm (owS σ m e) n)
theorem c_choice (s n : Nat) (a : Int) (h_a : a = 0 ∨ a = 1) (h_s : s < 6) (h_n : σ 0 8 = n) (h_20 : n ≤ 20) (h_wr : WfRd σ) (h_ru : WfRule σ) : CT (EC x) 5 yX11_choice [rf (EC x) 0, iv s, iv a] σ (rI (chS σ (if a = 0 then bo (voS σ s) n else bo (thS σ s) n) n) σ) := by
  refine CT.ofJ (own := RX11) (cc := cX11_choice) (n := 8) (ret := (some .int)) (by decide) rfl cw_X11_choice (by decide) (Nat.le_of_ble_eq_true rfl) (ls := [some (rf (EC x) 0), some (iv s), some (iv a), none, none, none, none, none]) rfl ?_
  intro X G
  have h_lp : ∀ m : Nat, m < 2 ^ 20 → ∀ i : Nat, i ≤ 5 → JJ (EC x) X 5 (rI (chS σ m n) σ) 8 38 [some (rf (EC x) 0), some (iv s), some (iv a), some (iv m), some (iv (ownA (fun e => sm (owS σ m e) n) i).1), some (iv (ownA (fun e => sm (owS σ m e) n) i).2), some (iv i), none] [] σ := by
    intro m h_m
    unfold chS
    have h_rg : ∀ e, -2147483648 ≤ (fun e => sm (owS σ m e) n) e ∧ (fun e => sm (owS σ m e) n) e < 2147483648 := fun e => by have := owS_rg σ m e n; dsimp only; omega
    have h_cc : ∀ i : Nat, i < 5 → CT (EC x) 1 yX11_countOwners [rf (EC x) 0, iv i, iv m] σ (rI ((fun e => sm (owS σ m e) n) (i : Int)) σ) := fun i h_i => c_countOwners i (by omega) m n (by omega) h_n h_20
    generalize (fun e => sm (owS σ m e) n) = f at h_rg h_cc ⊢
    refine down (Pr := fun i => JJ (EC x) X 5 (rI (ownS f) σ) 8 38 [some (rf (EC x) 0), some (iv s), some (iv a), some (iv m), some (iv (ownA f i).1), some (iv (ownA f i).2), some (iv i), none] [] σ) 5 ?_
    intro i h_i ih
    have h_2 := ownA_rg h_rg i
    have h_3 := h_rg i
    refine j_iload G dX11_choice_38 rfl ?_
    refine j_iconst G dX11_choice_40 ?_
    refine j_icmp_ge G dX11_choice_41 (tgt := 74) (by decide) (by omega) (by omega) (fun c_41 => ?_) (fun c_41 => ?_)
    · refine j_iload G dX11_choice_74 rfl ?_
      refine j_ireturn G dX11_choice_76 ?_
      obtain rfl : i = 5 := by omega
      exact ⟨rfl, rfl⟩
    · first | refine j_aload_n G dX11_choice_44 rfl ?_ | refine j_aload_nN G dX11_choice_44 rfl ?_
      refine j_iload G dX11_choice_45 rfl ?_
      refine j_iload_n G dX11_choice_47 rfl ?_
      refine j_callV G mv_X11_293 dX11_choice_48 (h_cc i (by omega)) (by first | assumption | rfl) (by decide) (by rfl) rfl rfl (by exact Nat.le_of_ble_eq_true rfl) (by decide) (kI ?_)
      refine j_istore7 G dX11_choice_51 (by decide) rfl ?_
      refine j_iload G dX11_choice_53 rfl ?_
      refine j_iload G dX11_choice_55 rfl ?_
      refine j_icmp_le G dX11_choice_57 (tgt := 68) (by decide) (by omega) (by omega) (fun c_57 => ?_) (fun c_57 => ?_)
      · refine j_iinc6 G dX11_choice_68 (by decide) rfl rfl ?_
        refine j_goto G dX11_choice_71 (tgt := 38) (by decide) ?_
        refine j_pc (p2 := 38) rfl ?_
        have h_z := ih (by omega)
        first
        | (rw [ownA_f (by omega)] at h_z; exact j_weak h_z ⟨rfl, rfl, rfl, rfl, rfl, rfl, rfl, trivial⟩)
        | (rw [ownA_t (by omega)] at h_z; exact j_weak h_z ⟨rfl, rfl, rfl, rfl, rfl, rfl, rfl, trivial⟩)
      · refine j_iload G dX11_choice_60 rfl ?_
        refine j_istore5 G dX11_choice_62 (by decide) rfl ?_
        refine j_iload G dX11_choice_64 rfl ?_
        refine j_istore4 G dX11_choice_66 (by decide) rfl ?_
        refine j_iinc6 G dX11_choice_68 (by decide) rfl rfl ?_
        refine j_goto G dX11_choice_71 (tgt := 38) (by decide) ?_
        refine j_pc (p2 := 38) rfl ?_
        have h_z := ih (by omega)
        first
        | (rw [ownA_f (by omega)] at h_z; exact j_weak h_z ⟨rfl, rfl, rfl, rfl, rfl, rfl, rfl, trivial⟩)
        | (rw [ownA_t (by omega)] at h_z; exact j_weak h_z ⟨rfl, rfl, rfl, rfl, rfl, rfl, rfl, trivial⟩)
  first | refine j_aload_n G dX11_choice_0 rfl ?_ | refine j_aload_nN G dX11_choice_0 rfl ?_
  refine j_iload_n G dX11_choice_1 rfl ?_
  refine j_callV G mv_X11_197 dX11_choice_2 (c_schoolAt s h_s) (by first | assumption | rfl) (by decide) (by rfl) rfl rfl (by exact Nat.le_of_ble_eq_true rfl) (by decide) (kV ?_)
  refine j_ifnonnull G dX11_choice_5 (tgt := 10) (by decide) ?_
  refine j_iload_n G dX11_choice_10 rfl ?_
  refine j_if_eq G dX11_choice_11 (tgt := 22) (by decide) (by omega) (fun c_11 => ?_) (fun c_11 => ?_)
  · first | refine j_aload_n G dX11_choice_22 rfl ?_ | refine j_aload_nN G dX11_choice_22 rfl ?_
    refine j_iload_n G dX11_choice_23 rfl ?_
    refine j_callV G mv_X11_287 dX11_choice_24 (c_votersOf s n h_s h_n h_20 h_wr h_ru) (by first | assumption | rfl) (by decide) (by rfl) rfl rfl (by exact Nat.le_of_ble_eq_true rfl) (by decide) (kI ?_)
    refine j_istore3 G dX11_choice_27 (by decide) rfl ?_
    refine j_bipush G dX11_choice_28 (by decide) ?_
    refine j_istore4 G dX11_choice_30 (by decide) rfl ?_
    refine j_iconst G dX11_choice_32 ?_
    refine j_istore5 G dX11_choice_33 (by decide) rfl ?_
    refine j_iconst G dX11_choice_35 ?_
    refine j_istore6 G dX11_choice_36 (by decide) rfl ?_
    refine j_pc (p2 := 38) rfl ?_
    first
    | (rw [if_pos c_11]; exact j_weak (h_lp _ (Nat.lt_of_lt_of_le (bo_lt _ n) (Nat.pow_le_pow_right (by decide) h_20)) 0 (by decide)) ⟨rfl, rfl, rfl, rfl, rfl, rfl, rfl, trivial⟩)
    | (rw [if_neg c_11]; exact j_weak (h_lp _ (Nat.lt_of_lt_of_le (bo_lt _ n) (Nat.pow_le_pow_right (by decide) h_20)) 0 (by decide)) ⟨rfl, rfl, rfl, rfl, rfl, rfl, rfl, trivial⟩)
  · first | refine j_aload_n G dX11_choice_14 rfl ?_ | refine j_aload_nN G dX11_choice_14 rfl ?_
    refine j_iload_n G dX11_choice_15 rfl ?_
    refine j_callV G mv_X11_290 dX11_choice_16 (c_readersOf s n h_s h_n h_20) (by first | assumption | rfl) (by decide) (by rfl) rfl rfl (by exact Nat.le_of_ble_eq_true rfl) (by decide) (kI ?_)
    refine j_goto G dX11_choice_19 (tgt := 27) (by decide) ?_
    refine j_istore3 G dX11_choice_27 (by decide) rfl ?_
    refine j_bipush G dX11_choice_28 (by decide) ?_
    refine j_istore4 G dX11_choice_30 (by decide) rfl ?_
    refine j_iconst G dX11_choice_32 ?_
    refine j_istore5 G dX11_choice_33 (by decide) rfl ?_
    refine j_iconst G dX11_choice_35 ?_
    refine j_istore6 G dX11_choice_36 (by decide) rfl ?_
    refine j_pc (p2 := 38) rfl ?_
    first
    | (rw [if_pos c_11]; exact j_weak (h_lp _ (Nat.lt_of_lt_of_le (bo_lt _ n) (Nat.pow_le_pow_right (by decide) h_20)) 0 (by decide)) ⟨rfl, rfl, rfl, rfl, rfl, rfl, rfl, trivial⟩)
    | (rw [if_neg c_11]; exact j_weak (h_lp _ (Nat.lt_of_lt_of_le (bo_lt _ n) (Nat.pow_le_pow_right (by decide) h_20)) 0 (by decide)) ⟨rfl, rfl, rfl, rfl, rfl, rfl, rfl, trivial⟩)
theorem c_choiceN (s a : Int) (h_1 : (-2147483648 ≤ s ∧ s < 2147483648)) (h_s : ¬ (0 ≤ s ∧ s ≤ 5)) : CT (EC x) 5 yX11_choice [rf (EC x) 0, iv s, iv a] σ (rI (-1) σ) := by
  refine CT.ofJ (own := RX11) (cc := cX11_choice) (n := 8) (ret := (some .int)) (by decide) rfl cw_X11_choice (by decide) (Nat.le_of_ble_eq_true rfl) (ls := [some (rf (EC x) 0), some (iv s), some (iv a), none, none, none, none, none]) rfl ?_
  intro X G
  first | refine j_aload_n G dX11_choice_0 rfl ?_ | refine j_aload_nN G dX11_choice_0 rfl ?_
  refine j_iload_n G dX11_choice_1 rfl ?_
  refine j_callV G mv_X11_197 dX11_choice_2 (c_schoolAtN s h_1 h_s) (by first | assumption | rfl) (by decide) (by rfl) rfl rfl (by exact Nat.le_of_ble_eq_true rfl) (by decide) (kV ?_)
  refine j_ifnonnullN G dX11_choice_5 ?_
  refine j_iconst G dX11_choice_8 ?_
  refine j_ireturn G dX11_choice_9 ?_
  exact ⟨rfl, rfl⟩
theorem m_votersOf (s n : Nat) (a : Int) (h_a : a = 0 ∨ a = 1) (h_s : s < 6) (h_n : σ 0 8 = n) (h_20 : n ≤ 20) (h_wr : WfRd σ) (h_ru : WfRule σ) (h_rd : ReRd σ μ) (h_rr : ReRule σ μ) : CT (EM x) 4 yX12_votersOf [rf (EM x) 0, iv s, iv a] μ (rI (((if a = 0 then bo (voS σ s) n else bo (thS σ s) n) : Nat) : Int) μ) := by
  obtain ⟨m, h_m40, h_me, h_mo⟩ := h_ru s h_s
  have h_ml : m = 0 → μ 31 s = -6 := fun h => by
    rcases h_rr s h_s with ⟨g1, g2⟩ | ⟨g1, g2, g3⟩
    · exact g1
    · omega
  have h_mm : 0 < m → μ 31 s = m ∧ ∀ i, 0 ≤ i → i < m → μ 30 (40 * s + i) = σ (130 + 12 * s) i := fun h => by
    rcases h_rr s h_s with ⟨g1, g2⟩ | ⟨g1, g2, g3⟩
    · omega
    · exact ⟨by rw [g2]; exact h_me, fun i h_i0 h_i1 => g3 i (by omega) (by omega)⟩
  refine CT.ofJ (own := RX12) (cc := cX12_votersOf) (n := 6) (ret := (some .int)) (by decide) rfl cw_X12_votersOf (by decide) (Nat.le_of_ble_eq_true rfl) (ls := [some (rf (EM x) 0), some (iv s), some (iv a), none, none, none]) rfl ?_
  intro X G
  generalize h_pp : (fun r => if a = 0 then voS σ s r else thS σ s r) = pp
  have h_tgt : (if a = 0 then bo (voS σ s) n else bo (thS σ s) n) = bo pp n := by
    rw [← h_pp]
    split
    · exact bo_cg n (fun i _ => rfl)
    · exact bo_cg n (fun i _ => rfl)
  rw [h_tgt]
  refine j_iconst G dX12_votersOf_0 ?_
  refine j_istore3 G dX12_votersOf_1 (by decide) rfl ?_
  refine j_iconst G dX12_votersOf_2 ?_
  refine j_istore4 G dX12_votersOf_3 (by decide) rfl ?_
  refine j_pc (p2 := 5) rfl ?_
  refine j_weak (ls' := [some (rf (EM x) 0), some (iv s), some (iv a), some (iv ((bo pp 0 : Nat) : Int)), some (iv ((0 : Nat) : Int)), none]) ?_ ⟨rfl, rfl, rfl, rfl, rfl, trivial⟩
  refine down (Pr := fun i => JJ (EM x) X 4 (rI (bo pp n) μ) 6 5 [some (rf (EM x) 0), some (iv s), some (iv a), some (iv ((bo pp i : Nat) : Int)), some (iv i), none] [] μ) n ?_ 0 (Nat.zero_le _)
  intro i h_i ih
  have h_B := pow31 (bo_lt pp i) (by omega)
  have h_53 : i < n → ∀ z : Int, z = b2 (pp i = true) → JJ (EM x) X 4 (rI (bo pp n) μ) 6 53 [some (rf (EM x) 0), some (iv s), some (iv a), some (iv ((bo pp i : Nat) : Int)), some (iv i), none] [iv z] μ := by
    intro h_in z h_z
    subst h_z
    have h_01 := b2_01 (pp i = true)
    refine j_istore5 G dX12_votersOf_53 (by decide) rfl ?_
    refine j_iload_n G dX12_votersOf_55 rfl ?_
    refine j_iload G dX12_votersOf_56 rfl ?_
    refine j_if_eqB G dX12_votersOf_58 (tgt := 68) (by decide)  (fun c_58 => ?_) (fun c_58 => ?_)
    · refine j_iconst G dX12_votersOf_68 ?_
      refine j_ior G dX12_votersOf_69 ?_
      refine j_istore3 G dX12_votersOf_70 (by decide) rfl ?_
      refine j_iinc4 G dX12_votersOf_71 (by decide) rfl rfl ?_
      refine j_goto G dX12_votersOf_74 (tgt := 5) (by decide) ?_
      refine j_pc (p2 := 5) rfl ?_
      have h_z := ih h_in
      rw [show bo pp (i + 1) = bo pp i ||| (if pp i then 2 ^ i else 0) from rfl, ← kn_s h_B (by omega)] at h_z
      first
      | (rw [if_pos c_58] at h_z; exact j_weak h_z ⟨rfl, rfl, rfl, rfl, rfl, trivial⟩)
      | (rw [if_neg c_58] at h_z; exact j_weak h_z ⟨rfl, rfl, rfl, rfl, rfl, trivial⟩)
    · refine j_iconst G dX12_votersOf_61 ?_
      refine j_iload G dX12_votersOf_62 rfl ?_
      refine j_ishl G dX12_votersOf_64 ?_
      refine j_goto G dX12_votersOf_65 (tgt := 69) (by decide) ?_
      refine j_ior G dX12_votersOf_69 ?_
      refine j_istore3 G dX12_votersOf_70 (by decide) rfl ?_
      refine j_iinc4 G dX12_votersOf_71 (by decide) rfl rfl ?_
      refine j_goto G dX12_votersOf_74 (tgt := 5) (by decide) ?_
      refine j_pc (p2 := 5) rfl ?_
      have h_z := ih h_in
      rw [show bo pp (i + 1) = bo pp i ||| (if pp i then 2 ^ i else 0) from rfl, ← kn_s h_B (by omega)] at h_z
      first
      | (rw [if_pos c_58] at h_z; exact j_weak h_z ⟨rfl, rfl, rfl, rfl, rfl, trivial⟩)
      | (rw [if_neg c_58] at h_z; exact j_weak h_z ⟨rfl, rfl, rfl, rfl, rfl, trivial⟩)
  have h_ppi : pp i = if a = 0 then voS σ s i else thS σ s i := by rw [← h_pp]
  have h_vo : voS σ s i = (decide (σ (78 + 2 * i) 1 = s) && clB (σ (130 + 12 * s)) (fcS σ i) m 0 (decide (0 < m)) 0 0 0) := by
    unfold voS
    rw [h_me, Int.toNat_natCast]
  refine j_iload G dX12_votersOf_5 rfl ?_
  first | refine j_aload_n G dX12_votersOf_7 rfl ?_ | refine j_aload_nN G dX12_votersOf_7 rfl ?_
  refine j_geti G fl_X12_249 dX12_votersOf_8 33 rfl (by first | assumption | rfl) (by rfl) (fun r_8 => ?_)
  try simp (disch := omega) only [up_same, up_cell, up_idx, cpm_at, fil_at] at r_8 ⊢
  rw [h_rd.1, h_n]
  refine j_icmp_ge G dX12_votersOf_11 (tgt := 77) (by decide) (by omega) (by omega) (fun c_11 => ?_) (fun c_11 => ?_)
  · refine j_iload_n G dX12_votersOf_77 rfl ?_
    refine j_ireturn G dX12_votersOf_78 ?_
    obtain rfl : i = n := by omega
    exact ⟨rfl, rfl⟩
  · first | refine j_aload_n G dX12_votersOf_14 rfl ?_ | refine j_aload_nN G dX12_votersOf_14 rfl ?_
    refine j_getr G fl_X12_77 dX12_votersOf_15 (by first | assumption | rfl) (by rfl) ?_
    refine j_iload G dX12_votersOf_18 rfl ?_
    have h_i20 : i < 20 := by omega
    obtain ⟨g1, g2, g3, g4⟩ := h_rd.2 i h_i20
    refine j_iaload G dX12_votersOf_20 (by first | assumption | rfl) (by omega) (fun r_20 => ?_)
    try simp (disch := omega) only [up_same, up_cell, up_idx, cpm_at, fil_at] at r_20 ⊢
    rw [g2] at *
    refine j_iload_n G dX12_votersOf_21 rfl ?_
    refine j_icmp_ne G dX12_votersOf_22 (tgt := 52) (by decide) (by omega) (by omega) (fun c_22 => ?_) (fun c_22 => ?_)
    · refine j_iconst G dX12_votersOf_52 ?_
      refine j_pc (p2 := 53) rfl ?_
      refine h_53 (by omega) _ ?_
      rw [h_ppi]
      unfold thS
      rw [h_vo]
      unfold b2
      first
      | (rw [decide_eq_false c_22]; split <;> rfl)
      | (rw [decide_eq_true c_22, if_neg c_26]; rfl)
      | (rw [decide_eq_true c_22, if_pos (show a = 0 by omega), if_pos (show _ = true by rw [show decide (0 < m) = true by simp; omega]; exact c_45)]; done)
      | (rw [decide_eq_true c_22, if_pos (show a = 0 by omega), if_neg (show ¬ _ = true by rw [show decide (0 < m) = true by simp; omega]; exact c_45)]; done)
      | (rw [show m = 0 by rcases Nat.eq_zero_or_pos m with h | h; exact h; have := (h_mm h).1; omega, decide_eq_true c_22, if_pos (show a = 0 by omega)]; rfl)
    · refine j_iload_n G dX12_votersOf_25 rfl ?_
      refine j_if_ne G dX12_votersOf_26 (tgt := 48) (by decide) (by omega) (fun c_26 => ?_) (fun c_26 => ?_)
      · refine j_iconst G dX12_votersOf_48 ?_
        refine j_goto G dX12_votersOf_49 (tgt := 53) (by decide) ?_
        refine j_pc (p2 := 53) rfl ?_
        refine h_53 (by omega) _ ?_
        rw [h_ppi]
        unfold thS
        rw [h_vo]
        unfold b2
        first
        | (rw [decide_eq_false c_22]; split <;> rfl)
        | (rw [decide_eq_true c_22, if_neg c_26]; rfl)
        | (rw [decide_eq_true c_22, if_pos (show a = 0 by omega), if_pos (show _ = true by rw [show decide (0 < m) = true by simp; omega]; exact c_45)]; done)
        | (rw [decide_eq_true c_22, if_pos (show a = 0 by omega), if_neg (show ¬ _ = true by rw [show decide (0 < m) = true by simp; omega]; exact c_45)]; done)
        | (rw [show m = 0 by rcases Nat.eq_zero_or_pos m with h | h; exact h; have := (h_mm h).1; omega, decide_eq_true c_22, if_pos (show a = 0 by omega)]; rfl)
      · first | refine j_aload_n G dX12_votersOf_29 rfl ?_ | refine j_aload_nN G dX12_votersOf_29 rfl ?_
        refine j_getr G fl_X12_101 dX12_votersOf_30 (by first | assumption | rfl) (by rfl) ?_
        refine j_iload_n G dX12_votersOf_33 rfl ?_
        refine j_iaload G dX12_votersOf_34 (by first | assumption | rfl) (by omega) (fun r_34 => ?_)
        try simp (disch := omega) only [up_same, up_cell, up_idx, cpm_at, fil_at] at r_34 ⊢
        refine j_if_le G dX12_votersOf_35 (tgt := 52) (by decide) (by omega) (fun c_35 => ?_) (fun c_35 => ?_)
        · refine j_iconst G dX12_votersOf_52 ?_
          refine j_pc (p2 := 53) rfl ?_
          refine h_53 (by omega) _ ?_
          rw [h_ppi]
          unfold thS
          rw [h_vo]
          unfold b2
          first
          | (rw [decide_eq_false c_22]; split <;> rfl)
          | (rw [decide_eq_true c_22, if_neg c_26]; rfl)
          | (rw [decide_eq_true c_22, if_pos (show a = 0 by omega), if_pos (show _ = true by rw [show decide (0 < m) = true by simp; omega]; exact c_45)]; done)
          | (rw [decide_eq_true c_22, if_pos (show a = 0 by omega), if_neg (show ¬ _ = true by rw [show decide (0 < m) = true by simp; omega]; exact c_45)]; done)
          | (rw [show m = 0 by rcases Nat.eq_zero_or_pos m with h | h; exact h; have := (h_mm h).1; omega, decide_eq_true c_22, if_pos (show a = 0 by omega)]; rfl)
        · first | refine j_aload_n G dX12_votersOf_38 rfl ?_ | refine j_aload_nN G dX12_votersOf_38 rfl ?_
          refine j_iload_n G dX12_votersOf_39 rfl ?_
          refine j_iload G dX12_votersOf_40 rfl ?_
          refine j_callV G mv_X12_333 dX12_votersOf_42 (m_mayVote s i m h_s h_i20 h_me h_m40 (by omega) (by omega) h_rd h_wr (fcS_rg h_wr i h_i20) (h_mm (by omega)).1 (h_mm (by omega)).2) (by first | assumption | rfl) (by decide) (by rfl) rfl rfl (by exact Nat.le_of_ble_eq_true rfl) (by decide) (kI ?_)
          refine j_if_eqB G dX12_votersOf_45 (tgt := 52) (by decide)  (fun c_45 => ?_) (fun c_45 => ?_)
          · refine j_iconst G dX12_votersOf_52 ?_
            refine j_pc (p2 := 53) rfl ?_
            refine h_53 (by omega) _ ?_
            rw [h_ppi]
            unfold thS
            rw [h_vo]
            unfold b2
            first
            | (rw [decide_eq_false c_22]; split <;> rfl)
            | (rw [decide_eq_true c_22, if_neg c_26]; rfl)
            | (rw [decide_eq_true c_22, if_pos (show a = 0 by omega), if_pos (show _ = true by rw [show decide (0 < m) = true by simp; omega]; exact c_45)]; done)
            | (rw [decide_eq_true c_22, if_pos (show a = 0 by omega), if_neg (show ¬ _ = true by rw [show decide (0 < m) = true by simp; omega]; exact c_45)]; done)
            | (rw [show m = 0 by rcases Nat.eq_zero_or_pos m with h | h; exact h; have := (h_mm h).1; omega, decide_eq_true c_22, if_pos (show a = 0 by omega)]; rfl)
          · refine j_iconst G dX12_votersOf_48 ?_
            refine j_goto G dX12_votersOf_49 (tgt := 53) (by decide) ?_
            refine j_pc (p2 := 53) rfl ?_
            refine h_53 (by omega) _ ?_
            rw [h_ppi]
            unfold thS
            rw [h_vo]
            unfold b2
            first
            | (rw [decide_eq_false c_22]; split <;> rfl)
            | (rw [decide_eq_true c_22, if_neg c_26]; rfl)
            | (rw [decide_eq_true c_22, if_pos (show a = 0 by omega), if_pos (show _ = true by rw [show decide (0 < m) = true by simp; omega]; exact c_45)]; done)
            | (rw [decide_eq_true c_22, if_pos (show a = 0 by omega), if_neg (show ¬ _ = true by rw [show decide (0 < m) = true by simp; omega]; exact c_45)]; done)
            | (rw [show m = 0 by rcases Nat.eq_zero_or_pos m with h | h; exact h; have := (h_mm h).1; omega, decide_eq_true c_22, if_pos (show a = 0 by omega)]; rfl)
theorem m_voters (s : Int) (h_s : (-2147483648 ≤ s ∧ s < 2147483648)) (n : Nat) (h_n : σ 0 8 = n) (h_20 : n ≤ 20) (h_wr : WfRd σ) (h_ru : WfRule σ) (h_rd : ReRd σ μ) (h_rr : ReRule σ μ) : CT (EM x) 5 yX12_voters [rf (EM x) 0, iv s] μ (rI (if 0 ≤ s ∧ s ≤ 5 then ((bo (voS σ s.toNat) n : Nat) : Int) else -1) μ) := by
  refine CT.ofJ (own := RX12) (cc := cX12_voters) (n := 2) (ret := (some .int)) (by decide) rfl cw_X12_voters (by decide) (Nat.le_of_ble_eq_true rfl) (ls := [some (rf (EM x) 0), some (iv s)]) rfl ?_
  intro X G
  refine j_iload_n G dX12_voters_0 rfl ?_
  refine j_callS G ms_X12_254 dX12_voters_1 (m_isSchool s h_s) rfl rfl (by exact Nat.le_of_ble_eq_true rfl) (by decide) (kI ?_)
  refine j_if_eqB G dX12_voters_4 (tgt := 16) (by decide)  (fun c_4 => ?_) (fun c_4 => ?_)
  · refine j_iconst G dX12_voters_16 ?_
    refine j_ireturn G dX12_voters_17 ?_
    first
    | (rw [if_pos c_4]; exact ⟨rfl, rfl⟩)
    | (rw [if_neg c_4]; exact ⟨rfl, rfl⟩)
  · obtain ⟨ss, h_s5, rfl⟩ := nat_of (n := 5) c_4
    first | refine j_aload_n G dX12_voters_7 rfl ?_ | refine j_aload_nN G dX12_voters_7 rfl ?_
    refine j_iload_n G dX12_voters_8 rfl ?_
    refine j_iconst G dX12_voters_9 ?_
    refine j_callV G mv_X12_336 dX12_voters_10 (m_votersOf ss n 0 (Or.inl rfl) (by omega) h_n h_20 h_wr h_ru h_rd h_rr) (by first | assumption | rfl) (by decide) (by rfl) rfl rfl (by exact Nat.le_of_ble_eq_true rfl) (by decide) (kI ?_)
    refine j_goto G dX12_voters_13 (tgt := 17) (by decide) ?_
    refine j_ireturn G dX12_voters_17 ?_
    first
    | (rw [if_pos c_4]; exact ⟨rfl, rfl⟩)
    | (rw [if_neg c_4]; exact ⟨rfl, rfl⟩)
theorem m_choice (s a : Int) (h_a : a = 0 ∨ a = 1) (h_s : (-2147483648 ≤ s ∧ s < 2147483648)) (n : Nat) (h_n : σ 0 8 = n) (h_20 : n ≤ 20) (h_wr : WfRd σ) (h_ru : WfRule σ) (h_rd : ReRd σ μ) (h_rr : ReRule σ μ) : CT (EM x) 5 yX12_choice [rf (EM x) 0, iv s, iv a] μ (rI (if 0 ≤ s ∧ s ≤ 5 then chS σ (if a = 0 then bo (voS σ s.toNat) n else bo (thS σ s.toNat) n) n else -1) μ) := by
  refine CT.ofJ (own := RX12) (cc := cX12_choice) (n := 9) (ret := (some .int)) (by decide) rfl cw_X12_choice (by decide) (Nat.le_of_ble_eq_true rfl) (ls := [some (rf (EM x) 0), some (iv s), some (iv a), none, none, none, none, none, none]) rfl ?_
  intro X G
  have h_lp : ∀ m : Nat, m < 2 ^ 20 → ∀ i : Nat, i ≤ 5 → JJ (EM x) X 5 (rI (chS σ m n) μ) 9 26 [some (rf (EM x) 0), some (iv s), some (iv a), some (iv m), some (iv (ownA (fun e => sm (owS σ m e) n) i).1), some (iv (ownA (fun e => sm (owS σ m e) n) i).2), some (iv i), none, none] [] μ := by
    intro m h_m
    unfold chS
    have h_rg : ∀ e, -2147483648 ≤ (fun e => sm (owS σ m e) n) e ∧ (fun e => sm (owS σ m e) n) e < 2147483648 := fun e => by have := owS_rg σ m e n; dsimp only; omega
    have h_f : ∀ e : Int, (fun e => sm (owS σ m e) n) e = sm (owS σ m e) n := fun _ => rfl
    generalize (fun e => sm (owS σ m e) n) = f at h_rg h_f ⊢
    refine down (Pr := fun i => JJ (EM x) X 5 (rI (ownS f) μ) 9 26 [some (rf (EM x) 0), some (iv s), some (iv a), some (iv m), some (iv (ownA f i).1), some (iv (ownA f i).2), some (iv i), none, none] [] μ) 5 ?_
    intro i h_i ih
    have h_2 := ownA_rg h_rg i
    have h_3 := h_rg i
    refine j_iload G dX12_choice_26 rfl ?_
    refine j_iconst G dX12_choice_28 ?_
    refine j_icmp_ge G dX12_choice_29 (tgt := 105) (by decide) (by omega) (by omega) (fun c_29 => ?_) (fun c_29 => ?_)
    · refine j_iload G dX12_choice_105 rfl ?_
      refine j_ireturn G dX12_choice_107 ?_
      obtain rfl : i = 5 := by omega
      exact ⟨rfl, rfl⟩
    · refine j_iconst G dX12_choice_32 ?_
      refine j_istore7 G dX12_choice_33 (by decide) rfl ?_
      refine j_iconst G dX12_choice_35 ?_
      refine j_istore8 G dX12_choice_36 (by decide) rfl ?_
      refine j_pc (p2 := 38) rfl ?_
      refine down (Pr := fun j => JJ (EM x) X 5 (rI (ownS f) μ) 9 38 [some (rf (EM x) 0), some (iv s), some (iv a), some (iv m), some (iv (ownA f i).1), some (iv (ownA f i).2), some (iv i), some (iv (sm (owS σ m i) j)), some (iv j)] [] μ) n ?_ 0 (Nat.zero_le _)
      intro j h_j ih2
      have h_B := owS_rg σ m i j
      refine j_iload G dX12_choice_38 rfl ?_
      first | refine j_aload_n G dX12_choice_40 rfl ?_ | refine j_aload_nN G dX12_choice_40 rfl ?_
      refine j_geti G fl_X12_249 dX12_choice_41 33 rfl (by first | assumption | rfl) (by rfl) (fun r_41 => ?_)
      try simp (disch := omega) only [up_same, up_cell, up_idx, cpm_at, fil_at] at r_41 ⊢
      rw [h_rd.1, h_n]
      refine j_icmp_ge G dX12_choice_44 (tgt := 84) (by decide) (by omega) (by omega) (fun c_44 => ?_) (fun c_44 => ?_)
      · obtain rfl : j = n := by omega
        rw [← h_f]
        refine j_iload G dX12_choice_84 rfl ?_
        refine j_iload G dX12_choice_86 rfl ?_
        refine j_icmp_le G dX12_choice_88 (tgt := 99) (by decide) (by omega) (by omega) (fun c_88 => ?_) (fun c_88 => ?_)
        · refine j_iinc6 G dX12_choice_99 (by decide) rfl rfl ?_
          refine j_goto G dX12_choice_102 (tgt := 26) (by decide) ?_
          refine j_pc (p2 := 26) rfl ?_
          have h_z := ih (by omega)
          first
          | (rw [ownA_f (by omega)] at h_z; exact j_weak h_z ⟨rfl, rfl, rfl, rfl, rfl, rfl, rfl, trivial⟩)
          | (rw [ownA_t (by omega)] at h_z; exact j_weak h_z ⟨rfl, rfl, rfl, rfl, rfl, rfl, rfl, trivial⟩)
        · refine j_iload G dX12_choice_91 rfl ?_
          refine j_istore5 G dX12_choice_93 (by decide) rfl ?_
          refine j_iload G dX12_choice_95 rfl ?_
          refine j_istore4 G dX12_choice_97 (by decide) rfl ?_
          refine j_iinc6 G dX12_choice_99 (by decide) rfl rfl ?_
          refine j_goto G dX12_choice_102 (tgt := 26) (by decide) ?_
          refine j_pc (p2 := 26) rfl ?_
          have h_z := ih (by omega)
          first
          | (rw [ownA_f (by omega)] at h_z; exact j_weak h_z ⟨rfl, rfl, rfl, rfl, rfl, rfl, rfl, trivial⟩)
          | (rw [ownA_t (by omega)] at h_z; exact j_weak h_z ⟨rfl, rfl, rfl, rfl, rfl, rfl, rfl, trivial⟩)
      · refine j_iload G dX12_choice_47 rfl ?_
        refine j_iload_n G dX12_choice_49 rfl ?_
        refine j_iload G dX12_choice_50 rfl ?_
        refine j_ishr G dX12_choice_52 ?_
        refine j_iconst G dX12_choice_53 ?_
        refine j_iand G dX12_choice_54 ?_
        rw [bit32 (by omega) (by omega)]
        refine j_iconst G dX12_choice_55 ?_
        refine j_icmp_ne G dX12_choice_56 (tgt := 74) (by decide) (by have := b2_01 (m.testBit j = true); omega) (by omega) (fun c_56 => ?_) (fun c_56 => ?_)
        · refine j_iconst G dX12_choice_74 ?_
          refine j_iadd G dX12_choice_75 ?_
          refine j_istore7 G dX12_choice_76 (by decide) rfl ?_
          refine j_iinc8 G dX12_choice_78 (by decide) rfl rfl ?_
          refine j_goto G dX12_choice_81 (tgt := 38) (by decide) ?_
          refine j_pc (p2 := 38) rfl ?_
          have h_z := ih2 (by omega)
          rw [sm_s] at h_z
          unfold owS at h_z ⊢
          unfold b2 at c_56
          by_cases h_t : m.testBit j = true
          · rw [if_pos h_t] at c_56
            first
            | (exfalso; omega)
            | (rw [if_pos ⟨h_t, c_67⟩] at h_z; exact h_z)
            | (rw [if_neg (fun h => c_67 h.2)] at h_z; exact h_z)
          · rw [if_neg h_t] at c_56
            first
            | (exfalso; omega)
            | (rw [if_neg (fun h => h_t h.1)] at h_z; exact h_z)
        · have h_j20 : j < 20 := by omega
          have h_oe : ownS (fun e => μ 25 (5 * (j : Int) + e)) = ownS (σ (79 + 2 * j)) := congrArg Prod.fst (ownA_cg 5 (fun e he => (h_rd.2 j h_j20).2.2.2 e (by omega) (by omega)))
          first | refine j_aload_n G dX12_choice_59 rfl ?_ | refine j_aload_nN G dX12_choice_59 rfl ?_
          refine j_iload G dX12_choice_60 rfl ?_
          refine j_callV G mv_X12_267 dX12_choice_62 (m_ownCode j (by omega)) (by first | assumption | rfl) (by decide) (by rfl) rfl rfl (by exact Nat.le_of_ble_eq_true rfl) (by decide) (kI ?_)
          refine j_iload G dX12_choice_65 rfl ?_
          rw [h_oe]
          refine j_icmp_ne G dX12_choice_67 (tgt := 74) (by decide) (by have := ownS_rg (σ (79 + 2 * j)); omega) (by omega) (fun c_67 => ?_) (fun c_67 => ?_)
          · refine j_iconst G dX12_choice_74 ?_
            refine j_iadd G dX12_choice_75 ?_
            refine j_istore7 G dX12_choice_76 (by decide) rfl ?_
            refine j_iinc8 G dX12_choice_78 (by decide) rfl rfl ?_
            refine j_goto G dX12_choice_81 (tgt := 38) (by decide) ?_
            refine j_pc (p2 := 38) rfl ?_
            have h_z := ih2 (by omega)
            rw [sm_s] at h_z
            unfold owS at h_z ⊢
            unfold b2 at c_56
            by_cases h_t : m.testBit j = true
            · rw [if_pos h_t] at c_56
              first
              | (exfalso; omega)
              | (rw [if_pos ⟨h_t, c_67⟩] at h_z; exact h_z)
              | (rw [if_neg (fun h => c_67 h.2)] at h_z; exact h_z)
            · rw [if_neg h_t] at c_56
              first
              | (exfalso; omega)
              | (rw [if_neg (fun h => h_t h.1)] at h_z; exact h_z)
          · refine j_iconst G dX12_choice_70 ?_
            refine j_goto G dX12_choice_71 (tgt := 75) (by decide) ?_
            refine j_iadd G dX12_choice_75 ?_
            refine j_istore7 G dX12_choice_76 (by decide) rfl ?_
            refine j_iinc8 G dX12_choice_78 (by decide) rfl rfl ?_
            refine j_goto G dX12_choice_81 (tgt := 38) (by decide) ?_
            refine j_pc (p2 := 38) rfl ?_
            have h_z := ih2 (by omega)
            rw [sm_s] at h_z
            unfold owS at h_z ⊢
            unfold b2 at c_56
            by_cases h_t : m.testBit j = true
            · rw [if_pos h_t] at c_56
              first
              | (exfalso; omega)
              | (rw [if_pos ⟨h_t, c_67⟩] at h_z; exact h_z)
              | (rw [if_neg (fun h => c_67 h.2)] at h_z; exact h_z)
            · rw [if_neg h_t] at c_56
              first
              | (exfalso; omega)
              | (rw [if_neg (fun h => h_t h.1)] at h_z; exact h_z)
  refine j_iload_n G dX12_choice_0 rfl ?_
  refine j_callS G ms_X12_254 dX12_choice_1 (m_isSchool s h_s) rfl rfl (by exact Nat.le_of_ble_eq_true rfl) (by decide) (kI ?_)
  refine j_if_neB G dX12_choice_4 (tgt := 9) (by decide)  (fun c_4 => ?_) (fun c_4 => ?_)
  · rw [if_pos c_4]
    obtain ⟨ss, h_s5, rfl⟩ := nat_of (n := 5) c_4
    rw [Int.toNat_natCast]
    first | refine j_aload_n G dX12_choice_9 rfl ?_ | refine j_aload_nN G dX12_choice_9 rfl ?_
    refine j_iload_n G dX12_choice_10 rfl ?_
    refine j_iload_n G dX12_choice_11 rfl ?_
    refine j_callV G mv_X12_336 dX12_choice_12 (m_votersOf ss n a h_a (by omega) h_n h_20 h_wr h_ru h_rd h_rr) (by first | assumption | rfl) (by decide) (by rfl) rfl rfl (by exact Nat.le_of_ble_eq_true rfl) (by decide) (kI ?_)
    refine j_istore3 G dX12_choice_15 (by decide) rfl ?_
    refine j_bipush G dX12_choice_16 (by decide) ?_
    refine j_istore4 G dX12_choice_18 (by decide) rfl ?_
    refine j_iconst G dX12_choice_20 ?_
    refine j_istore5 G dX12_choice_21 (by decide) rfl ?_
    refine j_iconst G dX12_choice_23 ?_
    refine j_istore6 G dX12_choice_24 (by decide) rfl ?_
    refine j_pc (p2 := 26) rfl ?_
    exact j_weak (h_lp _ (by split <;> exact Nat.lt_of_lt_of_le (bo_lt _ n) (Nat.pow_le_pow_right (by decide) h_20)) 0 (by decide)) ⟨rfl, rfl, rfl, rfl, rfl, rfl, rfl, trivial⟩
  · refine j_iconst G dX12_choice_7 ?_
    refine j_ireturn G dX12_choice_8 ?_
    rw [if_neg c_4]
    exact ⟨rfl, rfl⟩
theorem op_voters (s : Int) (h_1 : (-2147483648 ≤ s ∧ s < 2147483648)) : OP x1 x2 yX11_voters yX12_voters [iv s] := by
  intro σ μ hw hr
  obtain ⟨w1, w2, w3, w4, w5, w6, w7, w8⟩ := id hw
  obtain ⟨r1, r2, r3, r4, r5, r6, r7, r8⟩ := id hr
  obtain ⟨n, h_n20, h_n⟩ := nat_of (n := 20) w5.1
  have h_m := m_voters (x := x2) (μ := μ) s h_1 n h_n h_n20 w5 w7 r5 r7
  by_cases h_s : 0 ≤ s ∧ s ≤ 5
  · obtain ⟨ss, h_s5, rfl⟩ := nat_of (n := 5) h_s
    have h_k := c_voters (x := x1) (σ := σ) ss n (by omega) h_n h_n20 w5 w7
    rw [if_pos (by omega), Int.toNat_natCast] at h_m
    exact ⟨_, σ, _, _, (by decide), (by decide), rI_P h_k ⟨rfl, KC.rf _⟩, rI_P h_m ⟨rfl, hr⟩, hw⟩
  · have h_k := c_votersN (x := x1) (σ := σ) s h_1 h_s
    rw [if_neg h_s] at h_m
    exact ⟨_, σ, _, _, (by decide), (by decide), rI_P h_k ⟨rfl, KC.rf _⟩, rI_P h_m ⟨rfl, hr⟩, hw⟩
theorem op_choice (s a : Int) (h_1 : (-2147483648 ≤ s ∧ s < 2147483648)) (h_a : a = 0 ∨ a = 1) : OP x1 x2 yX11_choice yX12_choice [iv s, iv a] := by
  intro σ μ hw hr
  obtain ⟨w1, w2, w3, w4, w5, w6, w7, w8⟩ := id hw
  obtain ⟨r1, r2, r3, r4, r5, r6, r7, r8⟩ := id hr
  obtain ⟨n, h_n20, h_n⟩ := nat_of (n := 20) w5.1
  have h_m := m_choice (x := x2) (μ := μ) s a h_a h_1 n h_n h_n20 w5 w7 r5 r7
  by_cases h_s : 0 ≤ s ∧ s ≤ 5
  · obtain ⟨ss, h_s5, rfl⟩ := nat_of (n := 5) h_s
    have h_k := c_choice (x := x1) (σ := σ) ss n a h_a (by omega) h_n h_n20 w5 w7
    rw [if_pos (by omega), Int.toNat_natCast] at h_m
    exact ⟨_, σ, _, _, (by decide), (by decide), rI_P h_k ⟨rfl, KC.rf _⟩, rI_P h_m ⟨rfl, hr⟩, hw⟩
  · have h_k := c_choiceN (x := x1) (σ := σ) s a h_1 h_s
    rw [if_neg h_s] at h_m
    exact ⟨_, σ, _, _, (by decide), (by decide), rI_P h_k ⟨rfl, KC.rf _⟩, rI_P h_m ⟨rfl, hr⟩, hw⟩
end VC
