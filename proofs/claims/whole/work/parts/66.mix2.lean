/-! which cells a mix has -/
def usN (w : Nat → Int) : Nat → Nat
  | 0 => 0
  | n + 1 => if w n ≤ 0 then usN w n else usN w n ||| 2 ^ (w n).toNat
def mxB (w : Nat → Int) : Nat → Bool
  | 0 => true
  | n + 1 => mxB w n && (decide (w n < 0) || (decide (0 < w n) && !(usN w n).testBit (w n).toNat))
theorem usN_lt {w : Nat → Int} : ∀ n : Nat, (∀ l : Nat, l < n → w l ≤ 63) → usN w n < 2 ^ 64
  | 0, _ => by simp [usN]
  | n + 1, h => by
    have h_1 := usN_lt n (fun l hl => h l (by omega))
    have h_2 := h n (by omega)
    unfold usN
    split
    · exact h_1
    · exact Nat.or_lt_two_pow h_1 (Nat.pow_lt_pow_right (by decide) (by omega))
theorem mxB_f {w : Nat → Int} {n : Nat} (m : Nat) : n ≤ m → mxB w n = false → mxB w m = false := by
  intro h_1 h_2
  induction m with
  | zero =>
    obtain rfl : n = 0 := by omega
    exact h_2
  | succ m ih =>
    by_cases h_3 : n = m + 1
    · rw [← h_3]; exact h_2
    · unfold mxB
      rw [ih (by omega), Bool.false_and]
theorem usN_s (w : Nat → Int) (n : Nat) : usN w (n + 1) = if w n ≤ 0 then usN w n else usN w n ||| 2 ^ (w n).toNat := rfl
theorem mxB_s (w : Nat → Int) (n : Nat) : mxB w (n + 1) = (mxB w n && (decide (w n < 0) || (decide (0 < w n) && !(usN w n).testBit (w n).toNat))) := rfl
theorem mx_no {w : Nat → Int} {i v : Nat} (h_v : w i = v) (h : v = 0 ∨ (usN w i).testBit v = true) : mxB w (i + 1) = false := by
  unfold mxB
  rw [h_v, Int.toNat_natCast, decide_eq_false (show ¬ (v : Int) < 0 by omega), Bool.false_or]
  rcases h with h | h
  · rw [decide_eq_false (show ¬ (0 : Int) < v by omega), Bool.false_and, Bool.and_false]
  · rw [h]
    simp
theorem mx_yes {w : Nat → Int} {i v : Nat} (h_so : mxB w i = true) (h_v : w i = v) (h : ¬ (v = 0 ∨ (usN w i).testBit v = true)) : mxB w (i + 1) = true ∧ usN w (i + 1) = usN w i ||| 2 ^ v := by
  rw [mxB_s, usN_s, h_v, Int.toNat_natCast, h_so, decide_eq_true (show (0 : Int) < v by omega), Bool.eq_false_iff.2 (fun z => h (Or.inr z)), if_neg (by omega)]
  exact ⟨by simp, rfl⟩
theorem mx_skip {w : Nat → Int} {i : Nat} (h_so : mxB w i = true) (h_v : w i < 0) : mxB w (i + 1) = true ∧ usN w (i + 1) = usN w i := by
  rw [mxB_s, usN_s, h_so, decide_eq_true h_v, if_pos (by omega)]
  exact ⟨rfl, rfl⟩
theorem mx_bit {Q : Prop} [Decidable Q] {v : Nat} (h_0 : v = 0 → Q) : (if Q then 1 else 2 ^ v) = 1 ↔ Q := by
  constructor
  · intro h
    refine Decidable.byContradiction (fun h_n => ?_)
    rw [if_neg h_n] at h
    have h_1 : 0 < v := Nat.pos_of_ne_zero (fun z => h_n (h_0 z))
    have := Nat.pow_le_pow_right (n := 2) (by decide) h_1
    omega
  · exact fun h => if_pos h
/-- the cell of a letter by some choice of codes; -1: it's of no part -/
def wS (σ : MemT) (pk : Nat → Int) (l : Nat) : Int := if σ 195 l < 0 then -1 else σ (3 + 7 * (pk (σ 195 l).toNat).toNat) l
theorem wS_rg {σ : MemT} {pk : Nat → Int} (h_pk : ∀ p, p < 7 → 0 ≤ pk p ∧ pk p < 5) (h_wp : WfPart σ) (h_wc : ∀ c, c < 5 → WfCode σ c) (l : Nat) (h_l : l < 26) : -1 ≤ wS σ pk l ∧ wS σ pk l ≤ 63 := by
  have h_1 := h_wp l (by omega) (by omega)
  unfold wS
  split
  · omega
  · have h_2 := h_pk (σ 195 l).toNat (by omega)
    have h_3 := (h_wc (pk (σ 195 l).toNat).toNat (by omega)).1 l (by omega) (by omega)
    omega
section MX2
variable {E : EE} {x x1 x2 : CX} {μ σ : MemT}
theorem c_cellBit (c u : Nat) (h_c : c < 64) (h_u : u < 2 ^ 64) : CT (EC x) 0 yX4_cellBit [iv c, .long (lgN u)] σ (rV (.long (lgN (if c = 0 ∨ u.testBit c = true then 1 else 2 ^ c))) σ) := by
  refine CT.ofJ (own := RX4) (cc := cX4_cellBit) (n := 3) (ret := (some .long)) (by decide) rfl cw_X4_cellBit (by decide) (Nat.le_of_ble_eq_true rfl) (ls := [some (iv c), some (.long (lgN u)), none]) rfl ?_
  intro X G
  refine j_iload_n G dX4_cellBit_0 rfl ?_
  refine j_if_eq G dX4_cellBit_1 (tgt := 14) (by decide) (by omega) (fun c_1 => ?_) (fun c_1 => ?_)
  · refine j_lconstI G 1 dX4_cellBit_14 (by decide) ?_
    refine j_goto G dX4_cellBit_15 (tgt := 21) (by decide) ?_
    first | rw [lN_shl c h_c] | skip
    refine j_lreturn G dX4_cellBit_21 ?_
    first
    | (rw [if_pos (Or.inl (by omega))]; exact ⟨rfl, rfl⟩)
    | (rw [if_pos (Or.inr (by have := h_q.1 c_11; refine Decidable.byContradiction (fun h => ?_); rw [if_neg h] at this; exact absurd this (by decide)))]; exact ⟨rfl, rfl⟩)
    | (rw [if_neg (fun h => by rcases h with h | h; omega; exact c_11 (h_q.2 (if_pos h)))]; exact ⟨rfl, rfl⟩)
  · refine j_lload_n G dX4_cellBit_4 rfl ?_
    refine j_iload_n G dX4_cellBit_5 rfl ?_
    refine j_lushr G dX4_cellBit_6 ?_
    refine j_lconstI G 1 dX4_cellBit_7 (by decide) ?_
    refine j_land G dX4_cellBit_8 ?_
    rw [bit64u h_u h_c, lN_bool]
    refine j_lconstI G 1 dX4_cellBit_9 (by decide) ?_
    refine j_lcmp G dX4_cellBit_10 ?_
    have h_q := lgc_z (a := if u.testBit c then 1 else 0) (b := 1) (by split <;> decide) (by decide)
    refine j_if_ne G dX4_cellBit_11 (tgt := 18) (by decide) (ofI_rng _) (fun c_11 => ?_) (fun c_11 => ?_)
    · refine j_lconstI G 1 dX4_cellBit_18 (by decide) ?_
      refine j_iload_n G dX4_cellBit_19 rfl ?_
      refine j_lshl G dX4_cellBit_20 ?_
      first | rw [lN_shl c h_c] | skip
      refine j_lreturn G dX4_cellBit_21 ?_
      first
      | (rw [if_pos (Or.inl (by omega))]; exact ⟨rfl, rfl⟩)
      | (rw [if_pos (Or.inr (by have := h_q.1 c_11; refine Decidable.byContradiction (fun h => ?_); rw [if_neg h] at this; exact absurd this (by decide)))]; exact ⟨rfl, rfl⟩)
      | (rw [if_neg (fun h => by rcases h with h | h; omega; exact c_11 (h_q.2 (if_pos h)))]; exact ⟨rfl, rfl⟩)
    · refine j_lconstI G 1 dX4_cellBit_14 (by decide) ?_
      refine j_goto G dX4_cellBit_15 (tgt := 21) (by decide) ?_
      first | rw [lN_shl c h_c] | skip
      refine j_lreturn G dX4_cellBit_21 ?_
      first
      | (rw [if_pos (Or.inl (by omega))]; exact ⟨rfl, rfl⟩)
      | (rw [if_pos (Or.inr (by have := h_q.1 c_11; refine Decidable.byContradiction (fun h => ?_); rw [if_neg h] at this; exact absurd this (by decide)))]; exact ⟨rfl, rfl⟩)
      | (rw [if_neg (fun h => by rcases h with h | h; omega; exact c_11 (h_q.2 (if_pos h)))]; exact ⟨rfl, rfl⟩)
theorem c_mayBe (pk : Nat → Int) (h_pk : ∀ p, p < 7 → 0 ≤ pk p ∧ pk p < 5) (h_p : ∀ p : Nat, p < 7 → σ 197 p = pk p) (h_wp : WfPart σ) (h_wc : ∀ c, c < 5 → WfCode σ c) : CT (EC x) 1 yX4_mayBe [rf (EC x) 194] σ (rI (b2 (mxB (wS σ pk) 26 = true)) σ) := by
  have h_wr := wS_rg h_pk h_wp h_wc
  refine CT.ofJ (own := RX4) (cc := cX4_mayBe) (n := 6) (ret := (some .boolean)) (by decide) rfl cw_X4_mayBe (by decide) (Nat.le_of_ble_eq_true rfl) (ls := [some (rf (EC x) 194), none, none, none, none, none]) rfl ?_
  intro X G
  refine j_lconstI G 0 dX4_mayBe_0 (by decide) ?_
  refine j_lstore1 G dX4_mayBe_1 (by decide) rfl ?_
  refine j_iconst G dX4_mayBe_2 ?_
  refine j_istore3 G dX4_mayBe_3 (by decide) rfl ?_
  refine j_pc (p2 := 4) rfl ?_
  refine j_weak (ls' := [some (rf (EC x) 194), some (.long (lgN (usN (wS σ pk) 0))), none, some (iv ((0 : Nat) : Int)), none, none]) ?_ ⟨rfl, rfl, rfl, trivial⟩
  refine down (Pr := fun i => mxB (wS σ pk) i = true → JJ (EC x) X 1 (rI (b2 (mxB (wS σ pk) 26 = true)) σ) 6 4 [some (rf (EC x) 194), some (.long (lgN (usN (wS σ pk) i))), none, some (iv i), none, none] [] σ) 26 ?_ 0 (by decide) rfl
  intro i h_i ih h_so
  have h_U := usN_lt (w := wS σ pk) i (fun l h_l => (h_wr l (by omega)).2)
  refine j_iload_n G dX4_mayBe_4 rfl ?_
  refine j_bipush G dX4_mayBe_5 (by decide) ?_
  refine j_icmp_ge G dX4_mayBe_7 (tgt := 66) (by decide) (by omega) (by omega) (fun c_7 => ?_) (fun c_7 => ?_)
  · refine j_iconst G dX4_mayBe_66 ?_
    refine j_zreturn G dX4_mayBe_67 (by first | exact b2_01 _ | omega) ?_
    obtain rfl : i = 26 := by omega
    rw [h_so]
    exact ⟨rfl, rfl⟩
  · first | refine j_aload_n G dX4_mayBe_10 rfl ?_ | refine j_aload_nN G dX4_mayBe_10 rfl ?_
    refine j_getr G fl_X4_9 dX4_mayBe_11 (by first | assumption | rfl) (by rfl) ?_
    refine j_iload_n G dX4_mayBe_14 rfl ?_
    refine j_iaload G dX4_mayBe_15 (by first | assumption | rfl) (by omega) (fun r_15 => ?_)
    try simp (disch := omega) only [up_same, up_cell, up_idx, cpm_at, fil_at] at r_15 ⊢
    refine j_if_lt G dX4_mayBe_16 (tgt := 60) (by decide) (by omega) (fun c_16 => ?_) (fun c_16 => ?_)
    · refine j_iinc3 G dX4_mayBe_60 (by decide) rfl rfl ?_
      refine j_goto G dX4_mayBe_63 (tgt := 4) (by decide) ?_
      refine j_pc (p2 := 4) rfl ?_
      have h_z := ih (by omega)
      first
      | (have h_1 : ¬ (v = 0 ∨ (usN (wS σ pk) i).testBit v = true) := fun h => c_50 (h_q.2 ((mx_bit Or.inl).2 h))
         obtain ⟨h_2, h_3⟩ := mx_yes h_so h_wv h_1
         rw [h_3] at h_z
         rw [if_neg h_1]
         exact j_weak (h_z h_2) ⟨rfl, rfl, rfl, trivial⟩)
      | (obtain ⟨h_2, h_3⟩ := mx_skip (w := wS σ pk) (i := i) h_so (by unfold wS; rw [if_pos c_16]; decide)
         rw [h_3] at h_z
         exact h_z h_2)
    · have h_w1 : wS σ pk i = σ (3 + 7 * (pk (σ 195 i).toNat).toNat) i := by unfold wS; rw [if_neg (by omega)]
      have h_w2 := h_wp i (by omega) (by omega)
      have h_w3 := h_wr i (by omega)
      obtain ⟨p, h_p6, h_pe⟩ := nat_of (n := 6) (z := σ 195 i) (by omega)
      have h_w4 := h_pk p (by omega)
      obtain ⟨c, h_c4, h_ce⟩ := nat_of (n := 4) (z := pk p) (by omega)
      rw [h_pe, Int.toNat_natCast, h_ce, Int.toNat_natCast] at h_w1
      have h_w5 := (h_wc c (by omega)).1 i (by omega) (by omega)
      obtain ⟨v, h_v63, h_ve⟩ := nat_of (n := 63) (z := σ (3 + 7 * c) i) (by omega)
      obtain ⟨h_y1, h_y2, h_y3, h_y4, h_y5, h_y6, h_y7⟩ := ly_code (x := x) (c := c) (by omega)
      first | refine j_aload_n G dX4_mayBe_19 rfl ?_ | refine j_aload_nN G dX4_mayBe_19 rfl ?_
      refine j_getr G fl_X4_31 dX4_mayBe_20 (by first | assumption | rfl) (by rfl) ?_
      first | refine j_aload_n G dX4_mayBe_23 rfl ?_ | refine j_aload_nN G dX4_mayBe_23 rfl ?_
      refine j_getr G fl_X4_18 dX4_mayBe_24 (by first | assumption | rfl) (by rfl) ?_
      first | refine j_aload_n G dX4_mayBe_27 rfl ?_ | refine j_aload_nN G dX4_mayBe_27 rfl ?_
      refine j_getr G fl_X4_9 dX4_mayBe_28 (by first | assumption | rfl) (by rfl) ?_
      refine j_iload_n G dX4_mayBe_31 rfl ?_
      refine j_iaload G dX4_mayBe_32 (by first | assumption | rfl) (by omega) (fun r_32 => ?_)
      try simp (disch := omega) only [up_same, up_cell, up_idx, cpm_at, fil_at] at r_32 ⊢
      rw [h_pe] at *
      refine j_iaload G dX4_mayBe_33 (by first | assumption | rfl) (by omega) (fun r_33 => ?_)
      try simp (disch := omega) only [up_same, up_cell, up_idx, cpm_at, fil_at] at r_33 ⊢
      rw [h_p p (by omega), h_ce] at *
      refine j_aaload G dX4_mayBe_34 (by first | assumption | rfl) (by decide) (by omega) (ly_codes (by omega)) ?_
      refine j_getr G fl_X4_41 dX4_mayBe_35 (by first | assumption | rfl) (by rfl) ?_
      refine j_pc (p2 := 38) rfl ?_
      refine j_iload_n G dX4_mayBe_38 rfl ?_
      refine j_iaload G dX4_mayBe_39 (by first | assumption | rfl) (by omega) (fun r_39 => ?_)
      try simp (disch := omega) only [up_same, up_cell, up_idx, cpm_at, fil_at] at r_39 ⊢
      have h_wv : wS σ pk i = v := h_w1.trans h_ve
      rw [h_ve] at *
      refine j_lload_n G dX4_mayBe_40 rfl ?_
      refine j_callS G ms_X4_46 dX4_mayBe_41 (c_cellBit v (usN (wS σ pk) i) (by omega) h_U) rfl rfl (by exact Nat.le_of_ble_eq_true rfl) (by decide) (kV ?_)
      refine j_lstore4 G dX4_mayBe_44 (by decide) rfl ?_
      refine j_lload G dX4_mayBe_46 rfl ?_
      refine j_lconstI G 1 dX4_mayBe_48 (by decide) ?_
      refine j_lcmp G dX4_mayBe_49 ?_
      have h_q := lgc_z (a := if v = 0 ∨ (usN (wS σ pk) i).testBit v = true then 1 else 2 ^ v) (b := 1) (by split; decide; exact Nat.pow_lt_pow_right (by decide) (by omega)) (by decide)
      refine j_if_ne G dX4_mayBe_50 (tgt := 55) (by decide) (ofI_rng _) (fun c_50 => ?_) (fun c_50 => ?_)
      · refine j_lload_n G dX4_mayBe_55 rfl ?_
        refine j_lload G dX4_mayBe_56 rfl ?_
        refine j_lor G dX4_mayBe_58 ?_
        rw [lN_or]
        refine j_lstore1 G dX4_mayBe_59 (by decide) rfl ?_
        refine j_iinc3 G dX4_mayBe_60 (by decide) rfl rfl ?_
        refine j_goto G dX4_mayBe_63 (tgt := 4) (by decide) ?_
        refine j_pc (p2 := 4) rfl ?_
        have h_z := ih (by omega)
        first
        | (have h_1 : ¬ (v = 0 ∨ (usN (wS σ pk) i).testBit v = true) := fun h => c_50 (h_q.2 ((mx_bit Or.inl).2 h))
           obtain ⟨h_2, h_3⟩ := mx_yes h_so h_wv h_1
           rw [h_3] at h_z
           rw [if_neg h_1]
           exact j_weak (h_z h_2) ⟨rfl, rfl, rfl, trivial⟩)
        | (obtain ⟨h_2, h_3⟩ := mx_skip (w := wS σ pk) (i := i) h_so (by unfold wS; rw [if_pos c_16]; decide)
           rw [h_3] at h_z
           exact h_z h_2)
      · refine j_iconst G dX4_mayBe_53 ?_
        refine j_zreturn G dX4_mayBe_54 (by first | exact b2_01 _ | omega) ?_
        refine ⟨congrArg (fun z => some (iv z)) ?_, rfl⟩
        rw [mxB_f (n := i + 1) 26 (by omega) (mx_no h_wv ((mx_bit Or.inl).1 (h_q.1 c_50)))]
        rfl
theorem m_mixedCell (l p c : Nat) (h_l : l < 26) (h_p : p < 7) (h_c : c < 5) (h_1 : μ 32 l = p) (h_2 : μ 33 p = c) : CT (EM x) 0 yX12_mixedCell [rf (EM x) 0, iv l] μ (rI (μ 1 (26 * c + l)) μ) := by
  refine CT.ofJ (own := RX12) (cc := cX12_mixedCell) (n := 2) (ret := (some .int)) (by decide) rfl cw_X12_mixedCell (by decide) (Nat.le_of_ble_eq_true rfl) (ls := [some (rf (EM x) 0), some (iv l)]) rfl ?_
  intro X G
  first | refine j_aload_n G dX12_mixedCell_0 rfl ?_ | refine j_aload_nN G dX12_mixedCell_0 rfl ?_
  refine j_getr G fl_X12_7 dX12_mixedCell_1 (by first | assumption | rfl) (by rfl) ?_
  refine j_bipush G dX12_mixedCell_4 (by decide) ?_
  first | refine j_aload_n G dX12_mixedCell_6 rfl ?_ | refine j_aload_nN G dX12_mixedCell_6 rfl ?_
  refine j_getr G fl_X12_107 dX12_mixedCell_7 (by first | assumption | rfl) (by rfl) ?_
  first | refine j_aload_n G dX12_mixedCell_10 rfl ?_ | refine j_aload_nN G dX12_mixedCell_10 rfl ?_
  refine j_getr G fl_X12_104 dX12_mixedCell_11 (by first | assumption | rfl) (by rfl) ?_
  refine j_iload_n G dX12_mixedCell_14 rfl ?_
  refine j_iaload G dX12_mixedCell_15 (by first | assumption | rfl) (by omega) (fun r_15 => ?_)
  try simp (disch := omega) only [up_same, up_cell, up_idx, cpm_at, fil_at] at r_15 ⊢
  rw [h_1] at *
  refine j_iaload G dX12_mixedCell_16 (by first | assumption | rfl) (by omega) (fun r_16 => ?_)
  try simp (disch := omega) only [up_same, up_cell, up_idx, cpm_at, fil_at] at r_16 ⊢
  rw [h_2] at *
  refine j_imul G dX12_mixedCell_17 ?_
  refine j_pc (p2 := 18) rfl ?_
  refine j_iload_n G dX12_mixedCell_18 rfl ?_
  refine j_iadd G dX12_mixedCell_19 ?_
  refine j_iaload G dX12_mixedCell_20 (by first | assumption | rfl) (by omega) (fun r_20 => ?_)
  try simp (disch := omega) only [up_same, up_cell, up_idx, cpm_at, fil_at] at r_20 ⊢
  refine j_ireturn G dX12_mixedCell_21 ?_
  exact ⟨rfl, rfl⟩
theorem m_mayMix (pk : Nat → Int) (h_pk : ∀ p, p < 7 → 0 ≤ pk p ∧ pk p < 5) (h_p : ∀ p : Nat, p < 7 → μ 33 p = pk p) (h_wp : WfPart σ) (h_wc : ∀ c, c < 5 → WfCode σ c) (h_rp : RePart σ μ) (h_rc : ∀ c, c < 5 → ReCode σ μ c) : CT (EM x) 1 yX12_mayMix [rf (EM x) 0] μ (rI (b2 (mxB (wS σ pk) 26 = true)) μ) := by
  have h_wr := wS_rg h_pk h_wp h_wc
  refine CT.ofJ (own := RX12) (cc := cX12_mayMix) (n := 5) (ret := (some .boolean)) (by decide) rfl cw_X12_mayMix (by decide) (Nat.le_of_ble_eq_true rfl) (ls := [some (rf (EM x) 0), none, none, none, none]) rfl ?_
  intro X G
  refine j_lconstI G 0 dX12_mayMix_0 (by decide) ?_
  refine j_lstore1 G dX12_mayMix_1 (by decide) rfl ?_
  refine j_iconst G dX12_mayMix_2 ?_
  refine j_istore3 G dX12_mayMix_3 (by decide) rfl ?_
  refine j_pc (p2 := 4) rfl ?_
  refine j_weak (ls' := [some (rf (EM x) 0), some (.long (lgN (usN (wS σ pk) 0))), none, some (iv ((0 : Nat) : Int)), none]) ?_ ⟨rfl, rfl, rfl, trivial⟩
  refine down (Pr := fun i => mxB (wS σ pk) i = true → JJ (EM x) X 1 (rI (b2 (mxB (wS σ pk) 26 = true)) μ) 5 4 [some (rf (EM x) 0), some (.long (lgN (usN (wS σ pk) i))), none, some (iv i), none] [] μ) 26 ?_ 0 (by decide) rfl
  intro i h_i ih h_so
  have h_U := usN_lt (w := wS σ pk) i (fun l h_l => (h_wr l (by omega)).2)
  refine j_iload_n G dX12_mayMix_4 rfl ?_
  refine j_bipush G dX12_mayMix_5 (by decide) ?_
  refine j_icmp_ge G dX12_mayMix_7 (tgt := 57) (by decide) (by omega) (by omega) (fun c_7 => ?_) (fun c_7 => ?_)
  · refine j_iconst G dX12_mayMix_57 ?_
    refine j_zreturn G dX12_mayMix_58 (by first | exact b2_01 _ | omega) ?_
    obtain rfl : i = 26 := by omega
    rw [h_so]
    exact ⟨rfl, rfl⟩
  · have h_32 := h_rp i (by omega) (by omega)
    first | refine j_aload_n G dX12_mayMix_10 rfl ?_ | refine j_aload_nN G dX12_mayMix_10 rfl ?_
    refine j_getr G fl_X12_104 dX12_mayMix_11 (by first | assumption | rfl) (by rfl) ?_
    refine j_iload_n G dX12_mayMix_14 rfl ?_
    refine j_iaload G dX12_mayMix_15 (by first | assumption | rfl) (by omega) (fun r_15 => ?_)
    try simp (disch := omega) only [up_same, up_cell, up_idx, cpm_at, fil_at] at r_15 ⊢
    rw [h_32] at *
    refine j_if_lt G dX12_mayMix_16 (tgt := 51) (by decide) (by split <;> omega) (fun c_16 => ?_) (fun c_16 => ?_)
    · refine j_iinc3 G dX12_mayMix_51 (by decide) rfl rfl ?_
      refine j_goto G dX12_mayMix_54 (tgt := 4) (by decide) ?_
      refine j_pc (p2 := 4) rfl ?_
      have h_z := ih (by omega)
      first
      | (have h_1 : ¬ (v = 0 ∨ (usN (wS σ pk) i).testBit v = true) := fun h => by
           rcases h with h | h
           · omega
           · exact c_39 (h_q.2 (if_pos h))
         obtain ⟨h_2, h_3⟩ := mx_yes h_so h_wv h_1
         rw [h_3] at h_z
         exact j_weak (h_z h_2) ⟨rfl, rfl, rfl, trivial⟩)
      | (have h_nn : σ 195 i < 0 := Decidable.byContradiction (fun h => by rw [if_neg h] at c_16; omega)
         obtain ⟨h_2, h_3⟩ := mx_skip (w := wS σ pk) (i := i) h_so (by unfold wS; rw [if_pos h_nn]; decide)
         rw [h_3] at h_z
         exact h_z h_2)
    · have h_nn : ¬ σ 195 i < 0 := fun h => by rw [if_pos h] at c_16; omega
      have h_w1 : wS σ pk i = σ (3 + 7 * (pk (σ 195 i).toNat).toNat) i := by unfold wS; rw [if_neg (by omega)]
      have h_w2 := h_wp i (by omega) (by omega)
      have h_w3 := h_wr i (by omega)
      obtain ⟨p, h_p6, h_pe⟩ := nat_of (n := 6) (z := σ 195 i) (by omega)
      have h_w4 := h_pk p (by omega)
      obtain ⟨c, h_c4, h_ce⟩ := nat_of (n := 4) (z := pk p) (by omega)
      rw [h_pe, Int.toNat_natCast, h_ce, Int.toNat_natCast] at h_w1
      have h_w5 := (h_wc c (by omega)).1 i (by omega) (by omega)
      obtain ⟨v, h_v63, h_ve⟩ := nat_of (n := 63) (z := σ (3 + 7 * c) i) (by omega)
      have h_wv : wS σ pk i = v := h_w1.trans h_ve
      have h_mv : μ 1 (26 * c + i) = v := ((h_rc c (by omega)).1 i (by omega) (by omega)).trans h_ve
      first | refine j_aload_n G dX12_mayMix_19 rfl ?_ | refine j_aload_nN G dX12_mayMix_19 rfl ?_
      refine j_iload_n G dX12_mayMix_20 rfl ?_
      refine j_callV G mv_X12_345 dX12_mayMix_21 (m_mixedCell i p c (by omega) (by omega) (by omega) (by have := h_rp i (by omega) (by omega); rw [if_neg h_nn, h_pe] at this; exact this) ((h_p p (by omega)).trans h_ce)) (by first | assumption | rfl) (by decide) (by rfl) rfl rfl (by exact Nat.le_of_ble_eq_true rfl) (by decide) (kI ?_)
      rw [h_mv]
      refine j_istore4 G dX12_mayMix_24 (by decide) rfl ?_
      refine j_iload G dX12_mayMix_26 rfl ?_
      refine j_if_eq G dX12_mayMix_28 (tgt := 42) (by decide) (by omega) (fun c_28 => ?_) (fun c_28 => ?_)
      · refine j_iconst G dX12_mayMix_42 ?_
        refine j_zreturn G dX12_mayMix_43 (by first | exact b2_01 _ | omega) ?_
        refine ⟨congrArg (fun z => some (iv z)) ?_, rfl⟩
        first
        | (rw [mxB_f (n := i + 1) 26 (by omega) (mx_no h_wv (Or.inl (by omega)))]; rfl)
        | (rw [mxB_f (n := i + 1) 26 (by omega) (mx_no h_wv (Or.inr (by have := h_q.1 c_39; refine Decidable.byContradiction (fun h => ?_); rw [if_neg h] at this; exact absurd this (by decide))))]; rfl)
      · refine j_lload_n G dX12_mayMix_31 rfl ?_
        refine j_iload G dX12_mayMix_32 rfl ?_
        refine j_lshr G dX12_mayMix_34 ?_
        refine j_lconstI G 1 dX12_mayMix_35 (by decide) ?_
        refine j_land G dX12_mayMix_36 ?_
        rw [bit64s h_U (by omega), lN_bool]
        refine j_lconstI G 1 dX12_mayMix_37 (by decide) ?_
        refine j_lcmp G dX12_mayMix_38 ?_
        have h_q := lgc_z (a := if (usN (wS σ pk) i).testBit v then 1 else 0) (b := 1) (by split <;> decide) (by decide)
        refine j_if_ne G dX12_mayMix_39 (tgt := 44) (by decide) (ofI_rng _) (fun c_39 => ?_) (fun c_39 => ?_)
        · refine j_lload_n G dX12_mayMix_44 rfl ?_
          refine j_lconstI G 1 dX12_mayMix_45 (by decide) ?_
          refine j_iload G dX12_mayMix_46 rfl ?_
          refine j_lshl G dX12_mayMix_48 ?_
          rw [lN_shl v (by omega)]
          refine j_lor G dX12_mayMix_49 ?_
          rw [lN_or]
          refine j_lstore1 G dX12_mayMix_50 (by decide) rfl ?_
          refine j_iinc3 G dX12_mayMix_51 (by decide) rfl rfl ?_
          refine j_goto G dX12_mayMix_54 (tgt := 4) (by decide) ?_
          refine j_pc (p2 := 4) rfl ?_
          have h_z := ih (by omega)
          first
          | (have h_1 : ¬ (v = 0 ∨ (usN (wS σ pk) i).testBit v = true) := fun h => by
               rcases h with h | h
               · omega
               · exact c_39 (h_q.2 (if_pos h))
             obtain ⟨h_2, h_3⟩ := mx_yes h_so h_wv h_1
             rw [h_3] at h_z
             exact j_weak (h_z h_2) ⟨rfl, rfl, rfl, trivial⟩)
          | (have h_nn : σ 195 i < 0 := Decidable.byContradiction (fun h => by rw [if_neg h] at c_16; omega)
             obtain ⟨h_2, h_3⟩ := mx_skip (w := wS σ pk) (i := i) h_so (by unfold wS; rw [if_pos h_nn]; decide)
             rw [h_3] at h_z
             exact h_z h_2)
        · refine j_iconst G dX12_mayMix_42 ?_
          refine j_zreturn G dX12_mayMix_43 (by first | exact b2_01 _ | omega) ?_
          refine ⟨congrArg (fun z => some (iv z)) ?_, rfl⟩
          first
          | (rw [mxB_f (n := i + 1) 26 (by omega) (mx_no h_wv (Or.inl (by omega)))]; rfl)
          | (rw [mxB_f (n := i + 1) 26 (by omega) (mx_no h_wv (Or.inr (by have := h_q.1 c_39; refine Decidable.byContradiction (fun h => ?_); rw [if_neg h] at this; exact absurd this (by decide))))]; rfl)
theorem WfPart.on {τ : MemT} (h : WfPart σ) (h_e : τ 195 = σ 195) : WfPart τ := by
  unfold WfPart at h ⊢
  rw [h_e]
  exact h
theorem WfCode.on {τ : MemT} {c : Nat} (h : WfCode σ c) (h_e : ∀ j, 3 + 7 * c ≤ j → j ≤ 8 + 7 * c → τ j = σ j) : WfCode τ c := by
  unfold WfCode at h ⊢
  rw [h_e (3 + 7 * c) (by omega) (by omega), h_e (4 + 7 * c) (by omega) (by omega), h_e (5 + 7 * c) (by omega) (by omega), h_e (6 + 7 * c) (by omega) (by omega), h_e (7 + 7 * c) (by omega) (by omega), h_e (8 + 7 * c) (by omega) (by omega)]
  exact h
theorem wS_on {τ : MemT} {pk : Nat → Int} (h_pk : ∀ p, p < 7 → 0 ≤ pk p ∧ pk p < 5) (h_wp : WfPart σ) (h_e : τ 195 = σ 195) (h_c : ∀ c, c < 5 → τ (3 + 7 * c) = σ (3 + 7 * c)) (l : Nat) (h_l : l < 26) : wS τ pk l = wS σ pk l := by
  have h_1 := h_wp l (by omega) (by omega)
  unfold wS
  rw [h_e]
  split
  · rfl
  · have h_2 := h_pk (σ 195 l).toNat (by omega)
    rw [h_c _ (by omega)]
theorem usN_cg {w v : Nat → Int} : ∀ n, (∀ l, l < n → w l = v l) → usN w n = usN v n
  | 0, _ => rfl
  | n + 1, h => by rw [usN_s, usN_s, usN_cg n (fun l hl => h l (by omega)), h n (by omega)]
theorem mxB_cg {w v : Nat → Int} : ∀ n, (∀ l, l < n → w l = v l) → mxB w n = mxB v n
  | 0, _ => rfl
  | n + 1, h => by rw [mxB_s, mxB_s, usN_cg n (fun l hl => h l (by omega)), mxB_cg n (fun l hl => h l (by omega)), h n (by omega)]
/-- what mix answers -/
def mixS (σ : MemT) (d : Int) : Int := if dgO d then b2 (mxB (wS σ (dgt d)) 26 = true) else -2
theorem c_mix (d : Int) (h_d : (-2147483648 ≤ d ∧ d < 2147483648)) (h_wp : WfPart σ) (h_wc : ∀ c, c < 5 → WfCode σ c) : CT (EC x) 2 yX11_mix [rf (EC x) 0, iv d] σ (rP (fun z τ => z = mixS σ d ∧ KC σ τ)) := by
  unfold mixS
  refine CT.ofJ (own := RX11) (cc := cX11_mix) (n := 2) (ret := (some .int)) (by decide) rfl cw_X11_mix (by decide) (Nat.le_of_ble_eq_true rfl) (ls := [some (rf (EC x) 0), some (iv d)]) rfl ?_
  intro X G
  first | refine j_aload_n G dX11_mix_0 rfl ?_ | refine j_aload_nN G dX11_mix_0 rfl ?_
  refine j_getr G fl_X11_84 dX11_mix_1 (by first | assumption | rfl) (by rfl) ?_
  refine j_iload_n G dX11_mix_4 rfl ?_
  refine j_callV G mv_X11_299 dX11_mix_5 (c_takeDigits d h_d) (by first | assumption | rfl) (by decide) (by rfl) rfl rfl (by exact Nat.le_of_ble_eq_true rfl) (by decide) (kP (fun z τ h_t => ?_))
  obtain ⟨h_t1, rfl, h_t2⟩ := h_t
  refine j_if_neB G dX11_mix_8 (tgt := 14) (by decide)  (fun c_8 => ?_) (fun c_8 => ?_)
  · have h_dg := (dgO_dg c_8).2
    have h_ww : mxB (wS τ (dgt d)) 26 = mxB (wS σ (dgt d)) 26 := mxB_cg 26 (fun l h_l => wS_on h_dg h_wp (h_t1 195 (by omega)) (fun c h_c => h_t1 _ (by omega)) l h_l)
    first | refine j_aload_n G dX11_mix_14 rfl ?_ | refine j_aload_nN G dX11_mix_14 rfl ?_
    refine j_getr G fl_X11_84 dX11_mix_15 (by first | assumption | rfl) (by rfl) ?_
    refine j_callV G mv_X11_302 dX11_mix_18 (c_mayBe (dgt d) h_dg (h_t2 c_8) (h_wp.on (h_t1 195 (by omega))) (fun c h_c => (h_wc c h_c).on (fun j h_1 h_2 => h_t1 j (by omega)))) (by first | assumption | rfl) (by decide) (by rfl) rfl rfl (by exact Nat.le_of_ble_eq_true rfl) (by decide) (kI ?_)
    rw [h_ww]
    refine j_if_eqB G dX11_mix_21 (tgt := 28) (by decide)  (fun c_21 => ?_) (fun c_21 => ?_)
    · refine j_iconst G dX11_mix_28 ?_
      refine j_ireturn G dX11_mix_29 ?_
      first
      | exact ⟨_, rfl, by rw [if_pos c_8, b2_t c_21], h_t1.wk (fun j h => by unfold scC; omega)⟩
      | exact ⟨_, rfl, by rw [if_pos c_8, b2_f c_21], h_t1.wk (fun j h => by unfold scC; omega)⟩
    · refine j_iconst G dX11_mix_24 ?_
      refine j_goto G dX11_mix_25 (tgt := 29) (by decide) ?_
      refine j_ireturn G dX11_mix_29 ?_
      first
      | exact ⟨_, rfl, by rw [if_pos c_8, b2_t c_21], h_t1.wk (fun j h => by unfold scC; omega)⟩
      | exact ⟨_, rfl, by rw [if_pos c_8, b2_f c_21], h_t1.wk (fun j h => by unfold scC; omega)⟩
  · refine j_bipush G dX11_mix_11 (by decide) ?_
    refine j_ireturn G dX11_mix_13 ?_
    exact ⟨-2, rfl, by rw [if_neg c_8], h_t1.wk (fun j h => by unfold scC; omega)⟩
theorem m_mix (d : Int) (h_d : (-2147483648 ≤ d ∧ d < 2147483648)) (h_wp : WfPart σ) (h_wc : ∀ c, c < 5 → WfCode σ c) (h_rp : RePart σ μ) (h_rc : ∀ c, c < 5 → ReCode σ μ c) : CT (EM x) 2 yX12_mix [rf (EM x) 0, iv d] μ (rP (fun z ν => z = mixS σ d ∧ KM μ ν)) := by
  unfold mixS
  have h_km : ∀ ν, Ons (· = 33) μ ν → KM μ ν := fun ν h => ⟨fun k h_1 _ => h k (fun z => h_1 (by unfold scM; omega)), fun i _ => by rw [h 0 (by omega)]⟩
  refine CT.ofJ (own := RX12) (cc := cX12_mix) (n := 2) (ret := (some .int)) (by decide) rfl cw_X12_mix (by decide) (Nat.le_of_ble_eq_true rfl) (ls := [some (rf (EM x) 0), some (iv d)]) rfl ?_
  intro X G
  first | refine j_aload_n G dX12_mix_0 rfl ?_ | refine j_aload_nN G dX12_mix_0 rfl ?_
  refine j_iload_n G dX12_mix_1 rfl ?_
  refine j_callV G mv_X12_348 dX12_mix_2 (m_layMix d h_d) (by first | assumption | rfl) (by decide) (by rfl) rfl rfl (by exact Nat.le_of_ble_eq_true rfl) (by decide) (kP (fun z ν h_t => ?_))
  obtain ⟨h_t1, rfl, h_t2⟩ := h_t
  refine j_if_neB G dX12_mix_5 (tgt := 11) (by decide)  (fun c_5 => ?_) (fun c_5 => ?_)
  · have h_dg := (dgO_dg c_5).2
    first | refine j_aload_n G dX12_mix_11 rfl ?_ | refine j_aload_nN G dX12_mix_11 rfl ?_
    refine j_callV G mv_X12_351 dX12_mix_12 (m_mayMix (σ := σ) (dgt d) h_dg (h_t2 c_5) h_wp h_wc (by unfold RePart at h_rp ⊢; rw [h_t1 32 (by omega)]; exact h_rp) (fun c h_c => by have := h_rc c h_c; unfold ReCode at this ⊢; rw [h_t1 1 (by omega), h_t1 2 (by omega), h_t1 3 (by omega), h_t1 4 (by omega), h_t1 5 (by omega), h_t1 6 (by omega)]; exact this)) (by first | assumption | rfl) (by decide) (by rfl) rfl rfl (by exact Nat.le_of_ble_eq_true rfl) (by decide) (kI ?_)
    refine j_if_eqB G dX12_mix_15 (tgt := 22) (by decide)  (fun c_15 => ?_) (fun c_15 => ?_)
    · refine j_iconst G dX12_mix_22 ?_
      refine j_ireturn G dX12_mix_23 ?_
      first
      | exact ⟨_, rfl, by rw [if_pos c_5, b2_t c_15], h_km _ h_t1⟩
      | exact ⟨_, rfl, by rw [if_pos c_5, b2_f c_15], h_km _ h_t1⟩
    · refine j_iconst G dX12_mix_18 ?_
      refine j_goto G dX12_mix_19 (tgt := 23) (by decide) ?_
      refine j_ireturn G dX12_mix_23 ?_
      first
      | exact ⟨_, rfl, by rw [if_pos c_5, b2_t c_15], h_km _ h_t1⟩
      | exact ⟨_, rfl, by rw [if_pos c_5, b2_f c_15], h_km _ h_t1⟩
  · refine j_bipush G dX12_mix_8 (by decide) ?_
    refine j_ireturn G dX12_mix_10 ?_
    exact ⟨-2, rfl, by rw [if_neg c_5], h_km _ h_t1⟩
theorem op_mix (d : Int) (h_1 : (-2147483648 ≤ d ∧ d < 2147483648)) : OP x1 x2 yX11_mix yX12_mix [iv d] := by
  refine OP.same (fun σ μ hw hr => ?_)
  obtain ⟨w1, w2, w3, w4, w5, w6, w7, w8⟩ := id hw
  obtain ⟨r1, r2, r3, r4, r5, r6, r7, r8⟩ := id hr
  exact ⟨_, _, _, by decide, by decide, c_mix d h_1 w8 w1, m_mix d h_1 w8 w1 r8 r1⟩
end MX2
