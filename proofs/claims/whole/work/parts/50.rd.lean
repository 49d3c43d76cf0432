/-- a sum -/
def sm (g : Nat → Int) : Nat → Int
  | 0 => 0
  | n + 1 => sm g n + g n
theorem sm_s (g : Nat → Int) (n : Nat) : sm g (n + 1) = sm g n + g n := rfl
theorem sm_cg {g g2 : Nat → Int} : ∀ n, (∀ i, i < n → g i = g2 i) → sm g n = sm g2 n
  | 0, _ => rfl
  | n + 1, h => by rw [sm_s, sm_s, sm_cg n (fun i hi => h i (by omega)), h n (by omega)]
theorem sm_rg {g : Nat → Int} {a b : Int} : ∀ n : Nat, (∀ i, i < n → a ≤ g i ∧ g i ≤ b) → n * a ≤ sm g n ∧ sm g n ≤ n * b
  | 0, _ => by simp [sm]
  | n + 1, h => by
    have h_1 := sm_rg n (fun i hi => h i (by omega))
    have h_2 := h n (by omega)
    rw [sm_s, show ((n + 1 : Nat) : Int) = (n : Int) + 1 from rfl, Int.add_mul, Int.add_mul, Int.one_mul, Int.one_mul]
    omega
def ownA (f : Int → Int) : Nat → Int × Int
  | 0 => (-6, 0)
  | n + 1 => if (ownA f n).2 < f n then ((n : Int), f n) else ownA f n
def ownS (f : Int → Int) : Int := (ownA f 5).1
theorem ownA_t {f : Int → Int} {n : Nat} (h : (ownA f n).2 < f n) : ownA f (n + 1) = ((n : Int), f n) := if_pos h
theorem ownA_f {f : Int → Int} {n : Nat} (h : f n ≤ (ownA f n).2) : ownA f (n + 1) = ownA f n := if_neg (by omega)
theorem ownA_cg {f g : Int → Int} : ∀ n : Nat, (∀ i : Nat, i < n → f i = g i) → ownA f n = ownA g n
  | 0, _ => rfl
  | n + 1, h => by
    unfold ownA
    rw [ownA_cg n (fun i hi => h i (by omega)), h n (by omega)]
theorem ownA_rg {f : Int → Int} (h : ∀ i, -2147483648 ≤ f i ∧ f i < 2147483648) : ∀ n : Nat, 0 ≤ (ownA f n).2 ∧ (ownA f n).2 < 2147483648
  | 0 => by simp [ownA]
  | n + 1 => by
    have h_1 := ownA_rg h n
    have h_2 := h n
    unfold ownA
    split <;> (try dsimp only) <;> omega
theorem ownA_1 (f : Int → Int) : ∀ n : Nat, (ownA f n).1 = -6 ∨ (0 ≤ (ownA f n).1 ∧ (ownA f n).1 < n)
  | 0 => Or.inl rfl
  | n + 1 => by
    have h_1 := ownA_1 f n
    unfold ownA
    split <;> (try dsimp only) <;> omega
theorem ownS_rg (f : Int → Int) : ownS f = -6 ∨ (0 ≤ ownS f ∧ ownS f ≤ 4) := by
  have h_1 := ownA_1 f 5
  unfold ownS
  omega
/-- which codes are known, as bits -/
def knA (f : Int → Int) : Nat → Nat
  | 0 => 0
  | n + 1 => knA f n ||| (if 0 < f n then 2 ^ n else 0)
theorem knA_lt (f : Int → Int) : ∀ n, knA f n < 2 ^ n
  | 0 => by simp [knA]
  | n + 1 => by
    have h_1 := knA_lt f n
    unfold knA
    apply Nat.or_lt_two_pow
    · exact Nat.lt_of_lt_of_le h_1 (Nat.pow_le_pow_right (by decide) (by omega))
    · split
      · exact Nat.pow_lt_pow_right (by decide) (by omega)
      · exact Nat.two_pow_pos _
theorem knA_cg {f g : Int → Int} : ∀ n : Nat, (∀ i : Nat, i < n → f i = g i) → knA f n = knA g n
  | 0, _ => rfl
  | n + 1, h => by
    unfold knA
    rw [knA_cg n (fun i hi => h i (by omega)), h n (by omega)]
theorem or_bit {a k j : Nat} (p : Prop) [Decidable p] : (a ||| (if p then 2 ^ k else 0)).testBit j = (a.testBit j || (decide p && decide (k = j))) := by
  rw [Nat.testBit_or]
  by_cases h_p : p
  · rw [if_pos h_p, Nat.testBit_two_pow]
    simp [h_p]
  · rw [if_neg h_p]
    simp [h_p]
theorem knA_bit (f : Int → Int) (j : Nat) : ∀ n, j < n → (knA f n).testBit j = decide (0 < f j)
  | 0, h => absurd h (by omega)
  | n + 1, h => by
    unfold knA
    rw [or_bit]
    by_cases h_j : j = n
    · subst h_j
      rw [testBit_big (knA_lt f j) j (Nat.le_refl _)]
      simp
    · rw [knA_bit f j n (by omega)]
      simp [show ¬ n = j by omega]
/-- the loop's step -/
theorem kn_s {a k : Nat} (ha : a < 2147483648) (hk : k < 31) (p : Prop) [Decidable p] : or32 a (if p then shl32 1 k else 0) = ((a ||| (if p then 2 ^ k else 0) : Nat) : Int) := by
  have h_2 : 2 ^ k < 2 ^ 31 := Nat.pow_lt_pow_right (by decide) hk
  by_cases h_p : p
  · rw [if_pos h_p, if_pos h_p, shl32_one k hk, or32_nat ha (by omega)]
  · rw [if_neg h_p, if_neg h_p, show (0 : Int) = ((0 : Nat) : Int) from rfl, or32_nat ha (by omega)]
theorem pow31 {a k : Nat} (h : a < 2 ^ k) (hk : k ≤ 31) : a < 2147483648 := Nat.lt_of_lt_of_le h (Nat.pow_le_pow_right (by decide) hk)
section RD
variable {E : EE} {x : CX} {μ σ : MemT}
theorem r_ownCode (k q : Nat) (h_k : (eY E)[k]? = some (6, 4, [none, none, none, some q])) (h_q : (eY E)[q]? = some (20, 5, [])) : CT E 0 yX6_ownCode [rf E k] μ (rI (ownS (μ q)) μ) := by
  refine CT.ofJ (own := RX6) (cc := cX6_ownCode) (n := 4) (ret := (some .int)) (by decide) rfl cw_X6_ownCode (by decide) (Nat.le_of_ble_eq_true rfl) (ls := [some (rf E k), none, none, none]) rfl ?_
  intro X G
  refine j_ok (fun h_ok => ?_)
  have h_rg : ∀ i, -2147483648 ≤ μ q i ∧ μ q i < 2147483648 := fun i => h_ok q i (fun _ _ z => by rw [h_q] at z; cases z)
  refine j_bipush G dX6_ownCode_0 (by decide) ?_
  refine j_istore1 G dX6_ownCode_2 (by decide) rfl ?_
  refine j_iconst G dX6_ownCode_3 ?_
  refine j_istore2 G dX6_ownCode_4 (by decide) rfl ?_
  refine j_iconst G dX6_ownCode_5 ?_
  refine j_istore3 G dX6_ownCode_6 (by decide) rfl ?_
  refine j_pc (p2 := 7) rfl ?_
  refine down (Pr := fun i => JJ E X 0 (rI (ownS (μ q)) μ) 4 7 [some (rf E k), some (iv (ownA (μ q) i).1), some (iv (ownA (μ q) i).2), some (iv i)] [] μ) 5 ?_ 0 (by decide)
  intro i h_i ih
  have h_2 := ownA_rg h_rg i
  refine j_iload_n G dX6_ownCode_7 rfl ?_
  refine j_iconst G dX6_ownCode_8 ?_
  refine j_icmp_ge G dX6_ownCode_9 (tgt := 37) (by decide) (by omega) (by omega) (fun c_9 => ?_) (fun c_9 => ?_)
  · refine j_iload_n G dX6_ownCode_37 rfl ?_
    refine j_ireturn G dX6_ownCode_38 ?_
    exact ⟨by rw [show i = 5 by omega]; rfl, rfl⟩
  · first | refine j_aload_n G dX6_ownCode_12 rfl ?_ | refine j_aload_nN G dX6_ownCode_12 rfl ?_
    refine j_getr G fl_X6_9 dX6_ownCode_13 (by first | assumption | rfl) (by rfl) ?_
    refine j_iload_n G dX6_ownCode_16 rfl ?_
    refine j_iaload G dX6_ownCode_17 (by first | assumption | rfl) (by omega) (fun r_17 => ?_)
    try simp (disch := omega) only [up_same, up_cell, up_idx, cpm_at, fil_at] at r_17 ⊢
    refine j_iload_n G dX6_ownCode_18 rfl ?_
    refine j_icmp_le G dX6_ownCode_19 (tgt := 31) (by decide) (by omega) (by omega) (fun c_19 => ?_) (fun c_19 => ?_)
    · refine j_iinc3 G dX6_ownCode_31 (by decide) rfl rfl ?_
      refine j_goto G dX6_ownCode_34 (tgt := 7) (by decide) ?_
      refine j_pc (p2 := 7) rfl ?_
      have h_z := ih (by omega)
      first | (rw [ownA_f (by omega)] at h_z; exact h_z) | (rw [ownA_t (by omega)] at h_z; exact h_z)
    · first | refine j_aload_n G dX6_ownCode_22 rfl ?_ | refine j_aload_nN G dX6_ownCode_22 rfl ?_
      refine j_getr G fl_X6_9 dX6_ownCode_23 (by first | assumption | rfl) (by rfl) ?_
      refine j_iload_n G dX6_ownCode_26 rfl ?_
      refine j_iaload G dX6_ownCode_27 (by first | assumption | rfl) (by omega) (fun r_27 => ?_)
      try simp (disch := omega) only [up_same, up_cell, up_idx, cpm_at, fil_at] at r_27 ⊢
      refine j_istore2 G dX6_ownCode_28 (by decide) rfl ?_
      refine j_iload_n G dX6_ownCode_29 rfl ?_
      refine j_istore1 G dX6_ownCode_30 (by decide) rfl ?_
      refine j_iinc3 G dX6_ownCode_31 (by decide) rfl rfl ?_
      refine j_goto G dX6_ownCode_34 (tgt := 7) (by decide) ?_
      refine j_pc (p2 := 7) rfl ?_
      have h_z := ih (by omega)
      first | (rw [ownA_f (by omega)] at h_z; exact h_z) | (rw [ownA_t (by omega)] at h_z; exact h_z)
theorem r_mostYears (k q : Nat) (h_k : (eY E)[k]? = some (6, 4, [none, none, none, some q])) (h_q : (eY E)[q]? = some (20, 5, [])) : CT E 1 yX6_mostYears [rf E k] μ (rI (ownA (μ q) 5).2 μ) := by
  refine CT.ofJ (own := RX6) (cc := cX6_mostYears) (n := 3) (ret := (some .int)) (by decide) rfl cw_X6_mostYears (by decide) (Nat.le_of_ble_eq_true rfl) (ls := [some (rf E k), none, none]) rfl ?_
  intro X G
  refine j_ok (fun h_ok => ?_)
  have h_rg : ∀ i, -2147483648 ≤ μ q i ∧ μ q i < 2147483648 := fun i => h_ok q i (fun _ _ z => by rw [h_q] at z; cases z)
  refine j_iconst G dX6_mostYears_0 ?_
  refine j_istore1 G dX6_mostYears_1 (by decide) rfl ?_
  refine j_iconst G dX6_mostYears_2 ?_
  refine j_istore2 G dX6_mostYears_3 (by decide) rfl ?_
  refine j_pc (p2 := 4) rfl ?_
  refine down (Pr := fun i => JJ E X 1 (rI (ownA (μ q) 5).2 μ) 3 4 [some (rf E k), some (iv (ownA (μ q) i).2), some (iv i)] [] μ) 5 ?_ 0 (by decide)
  intro i h_i ih
  have h_2 := ownA_rg h_rg i
  refine j_iload_n G dX6_mostYears_4 rfl ?_
  refine j_iconst G dX6_mostYears_5 ?_
  refine j_icmp_ge G dX6_mostYears_6 (tgt := 26) (by decide) (by omega) (by omega) (fun c_6 => ?_) (fun c_6 => ?_)
  · refine j_iload_n G dX6_mostYears_26 rfl ?_
    refine j_ireturn G dX6_mostYears_27 ?_
    exact ⟨by rw [show i = 5 by omega], rfl⟩
  · refine j_iload_n G dX6_mostYears_9 rfl ?_
    first | refine j_aload_n G dX6_mostYears_10 rfl ?_ | refine j_aload_nN G dX6_mostYears_10 rfl ?_
    refine j_getr G fl_X6_9 dX6_mostYears_11 (by first | assumption | rfl) (by rfl) ?_
    refine j_iload_n G dX6_mostYears_14 rfl ?_
    refine j_iaload G dX6_mostYears_15 (by first | assumption | rfl) (by omega) (fun r_15 => ?_)
    try simp (disch := omega) only [up_same, up_cell, up_idx, cpm_at, fil_at] at r_15 ⊢
    refine j_max G ms_X6_15 dX6_mostYears_16 (by omega) (by omega) (by decide) (by exact Nat.le_of_ble_eq_true rfl) ?_
    refine j_istore1 G dX6_mostYears_19 (by decide) rfl ?_
    refine j_iinc2 G dX6_mostYears_20 (by decide) rfl rfl ?_
    refine j_goto G dX6_mostYears_23 (tgt := 4) (by decide) ?_
    refine j_pc (p2 := 4) rfl ?_
    have h_z := ih (by omega)
    by_cases h_c : (ownA (μ q) i).2 < μ q i
    · rw [ownA_t h_c] at h_z
      rw [Int.max_eq_right (by omega)]
      exact h_z
    · rw [ownA_f (n := i) (by omega)] at h_z
      rw [Int.max_eq_left (by omega)]
      exact h_z
theorem r_known (k q : Nat) (h_k : (eY E)[k]? = some (6, 4, [none, none, none, some q])) (h_q : (eY E)[q]? = some (20, 5, [])) : CT E 0 yX6_knownCodes [rf E k] μ (rI (knA (μ q) 5) μ) := by
  refine CT.ofJ (own := RX6) (cc := cX6_knownCodes) (n := 3) (ret := (some .int)) (by decide) rfl cw_X6_knownCodes (by decide) (Nat.le_of_ble_eq_true rfl) (ls := [some (rf E k), none, none]) rfl ?_
  intro X G
  refine j_iconst G dX6_knownCodes_0 ?_
  refine j_istore1 G dX6_knownCodes_1 (by decide) rfl ?_
  refine j_iconst G dX6_knownCodes_2 ?_
  refine j_istore2 G dX6_knownCodes_3 (by decide) rfl ?_
  refine j_pc (p2 := 4) rfl ?_
  refine down (Pr := fun i => JJ E X 0 (rI (knA (μ q) 5) μ) 3 4 [some (rf E k), some (iv (knA (μ q) i)), some (iv i)] [] μ) 5 ?_ 0 (by decide)
  intro i h_i ih
  have h_2 := pow31 (knA_lt (μ q) i) (by omega)
  refine j_iload_n G dX6_knownCodes_4 rfl ?_
  refine j_iconst G dX6_knownCodes_5 ?_
  refine j_icmp_ge G dX6_knownCodes_6 (tgt := 34) (by decide) (by omega) (by omega) (fun c_6 => ?_) (fun c_6 => ?_)
  · refine j_iload_n G dX6_knownCodes_34 rfl ?_
    refine j_ireturn G dX6_knownCodes_35 ?_
    exact ⟨by rw [show i = 5 by omega], rfl⟩
  · refine j_iload_n G dX6_knownCodes_9 rfl ?_
    first | refine j_aload_n G dX6_knownCodes_10 rfl ?_ | refine j_aload_nN G dX6_knownCodes_10 rfl ?_
    refine j_getr G fl_X6_9 dX6_knownCodes_11 (by first | assumption | rfl) (by rfl) ?_
    refine j_iload_n G dX6_knownCodes_14 rfl ?_
    refine j_iaload G dX6_knownCodes_15 (by first | assumption | rfl) (by omega) (fun r_15 => ?_)
    try simp (disch := omega) only [up_same, up_cell, up_idx, cpm_at, fil_at] at r_15 ⊢
    refine j_if_le G dX6_knownCodes_16 (tgt := 25) (by decide) (by omega) (fun c_16 => ?_) (fun c_16 => ?_)
    · refine j_iconst G dX6_knownCodes_25 ?_
      refine j_ior G dX6_knownCodes_26 ?_
      refine j_istore1 G dX6_knownCodes_27 (by decide) rfl ?_
      refine j_iinc2 G dX6_knownCodes_28 (by decide) rfl rfl ?_
      refine j_goto G dX6_knownCodes_31 (tgt := 4) (by decide) ?_
      refine j_pc (p2 := 4) rfl ?_
      have h_z := ih (by omega)
      have h_s := kn_s (a := knA (μ q) i) (k := i) h_2 (by omega) (0 < μ q i)
      rw [show knA (μ q) (i + 1) = knA (μ q) i ||| (if 0 < μ q i then 2 ^ i else 0) from rfl, ← h_s] at h_z
      first | (rw [if_pos (show 0 < μ q i by omega)] at h_z; exact h_z) | (rw [if_neg (show ¬ 0 < μ q i by omega)] at h_z; exact h_z)
    · refine j_iconst G dX6_knownCodes_19 ?_
      refine j_iload_n G dX6_knownCodes_20 rfl ?_
      refine j_ishl G dX6_knownCodes_21 ?_
      refine j_goto G dX6_knownCodes_22 (tgt := 26) (by decide) ?_
      refine j_ior G dX6_knownCodes_26 ?_
      refine j_istore1 G dX6_knownCodes_27 (by decide) rfl ?_
      refine j_iinc2 G dX6_knownCodes_28 (by decide) rfl rfl ?_
      refine j_goto G dX6_knownCodes_31 (tgt := 4) (by decide) ?_
      refine j_pc (p2 := 4) rfl ?_
      have h_z := ih (by omega)
      have h_s := kn_s (a := knA (μ q) i) (k := i) h_2 (by omega) (0 < μ q i)
      rw [show knA (μ q) (i + 1) = knA (μ q) i ||| (if 0 < μ q i then 2 ^ i else 0) from rfl, ← h_s] at h_z
      first | (rw [if_pos (show 0 < μ q i by omega)] at h_z; exact h_z) | (rw [if_neg (show ¬ 0 < μ q i by omega)] at h_z; exact h_z)
theorem m_ownCode (r : Int) (h_r : 0 ≤ r ∧ r < 20) : CT (EM x) 0 yX12_ownCode [rf (EM x) 0, iv r] μ (rI (ownS (fun e => μ 25 (5 * r + e))) μ) := by
  refine CT.ofJ (own := RX12) (cc := cX12_ownCode) (n := 5) (ret := (some .int)) (by decide) rfl cw_X12_ownCode (by decide) (Nat.le_of_ble_eq_true rfl) (ls := [some (rf (EM x) 0), some (iv r), none, none, none]) rfl ?_
  intro X G
  refine j_ok (fun h_ok => ?_)
  have h_rg : ∀ i, -2147483648 ≤ μ 25 (5 * r + i) ∧ μ 25 (5 * r + i) < 2147483648 := fun i => h_ok 25 _ (fun _ _ z => by cases z)
  refine j_bipush G dX12_ownCode_0 (by decide) ?_
  refine j_istore2 G dX12_ownCode_2 (by decide) rfl ?_
  refine j_iconst G dX12_ownCode_3 ?_
  refine j_istore3 G dX12_ownCode_4 (by decide) rfl ?_
  refine j_iconst G dX12_ownCode_5 ?_
  refine j_istore4 G dX12_ownCode_6 (by decide) rfl ?_
  refine j_pc (p2 := 8) rfl ?_
  refine down (Pr := fun i => JJ (EM x) X 0 (rI (ownS (fun e => μ 25 (5 * r + e))) μ) 5 8 [some (rf (EM x) 0), some (iv r), some (iv (ownA (fun e => μ 25 (5 * r + e)) i).1), some (iv (ownA (fun e => μ 25 (5 * r + e)) i).2), some (iv i)] [] μ) 5 ?_ 0 (by decide)
  intro i h_i ih
  have h_2 := ownA_rg h_rg i
  refine j_iload G dX12_ownCode_8 rfl ?_
  refine j_iconst G dX12_ownCode_10 ?_
  refine j_icmp_ge G dX12_ownCode_11 (tgt := 50) (by decide) (by omega) (by omega) (fun c_11 => ?_) (fun c_11 => ?_)
  · refine j_iload_n G dX12_ownCode_50 rfl ?_
    refine j_ireturn G dX12_ownCode_51 ?_
    exact ⟨by rw [show i = 5 by omega]; rfl, rfl⟩
  · first | refine j_aload_n G dX12_ownCode_14 rfl ?_ | refine j_aload_nN G dX12_ownCode_14 rfl ?_
    refine j_getr G fl_X12_83 dX12_ownCode_15 (by first | assumption | rfl) (by rfl) ?_
    refine j_iconst G dX12_ownCode_18 ?_
    refine j_iload_n G dX12_ownCode_19 rfl ?_
    refine j_imul G dX12_ownCode_20 ?_
    refine j_iload G dX12_ownCode_21 rfl ?_
    refine j_iadd G dX12_ownCode_23 ?_
    refine j_iaload G dX12_ownCode_24 (by first | assumption | rfl) (by omega) (fun r_24 => ?_)
    try simp (disch := omega) only [up_same, up_cell, up_idx, cpm_at, fil_at] at r_24 ⊢
    refine j_iload_n G dX12_ownCode_25 rfl ?_
    refine j_icmp_le G dX12_ownCode_26 (tgt := 44) (by decide) (by omega) (by omega) (fun c_26 => ?_) (fun c_26 => ?_)
    · refine j_iinc4 G dX12_ownCode_44 (by decide) rfl rfl ?_
      refine j_goto G dX12_ownCode_47 (tgt := 8) (by decide) ?_
      refine j_pc (p2 := 8) rfl ?_
      have h_z := ih (by omega)
      first | (rw [ownA_f (by omega)] at h_z; exact h_z) | (rw [ownA_t (by omega)] at h_z; exact h_z)
    · first | refine j_aload_n G dX12_ownCode_29 rfl ?_ | refine j_aload_nN G dX12_ownCode_29 rfl ?_
      refine j_getr G fl_X12_83 dX12_ownCode_30 (by first | assumption | rfl) (by rfl) ?_
      refine j_iconst G dX12_ownCode_33 ?_
      refine j_iload_n G dX12_ownCode_34 rfl ?_
      refine j_imul G dX12_ownCode_35 ?_
      refine j_iload G dX12_ownCode_36 rfl ?_
      refine j_iadd G dX12_ownCode_38 ?_
      refine j_iaload G dX12_ownCode_39 (by first | assumption | rfl) (by omega) (fun r_39 => ?_)
      try simp (disch := omega) only [up_same, up_cell, up_idx, cpm_at, fil_at] at r_39 ⊢
      refine j_istore3 G dX12_ownCode_40 (by decide) rfl ?_
      refine j_iload G dX12_ownCode_41 rfl ?_
      refine j_istore2 G dX12_ownCode_43 (by decide) rfl ?_
      refine j_pc (p2 := 44) rfl ?_
      refine j_iinc4 G dX12_ownCode_44 (by decide) rfl rfl ?_
      refine j_goto G dX12_ownCode_47 (tgt := 8) (by decide) ?_
      refine j_pc (p2 := 8) rfl ?_
      have h_z := ih (by omega)
      first | (rw [ownA_f (by omega)] at h_z; exact h_z) | (rw [ownA_t (by omega)] at h_z; exact h_z)
theorem m_knows (r e : Int) (h_r : 0 ≤ r ∧ r < 20) (h_e : 0 ≤ e ∧ e < 5) : CT (EM x) 0 yX12_knows [rf (EM x) 0, iv r, iv e] μ (rI (b2 (0 < μ 25 (5 * r + e))) μ) := by
  refine CT.ofJ (own := RX12) (cc := cX12_knows) (n := 3) (ret := (some .boolean)) (by decide) rfl cw_X12_knows (by decide) (Nat.le_of_ble_eq_true rfl) (ls := [some (rf (EM x) 0), some (iv r), some (iv e)]) rfl ?_
  intro X G
  first | refine j_aload_n G dX12_knows_0 rfl ?_ | refine j_aload_nN G dX12_knows_0 rfl ?_
  refine j_getr G fl_X12_83 dX12_knows_1 (by first | assumption | rfl) (by rfl) ?_
  refine j_iconst G dX12_knows_4 ?_
  refine j_iload_n G dX12_knows_5 rfl ?_
  refine j_imul G dX12_knows_6 ?_
  refine j_iload_n G dX12_knows_7 rfl ?_
  refine j_iadd G dX12_knows_8 ?_
  refine j_iaload G dX12_knows_9 (by first | assumption | rfl) (by omega) (fun r_9 => ?_)
  try simp (disch := omega) only [up_same, up_cell, up_idx, cpm_at, fil_at] at r_9 ⊢
  refine j_if_le G dX12_knows_10 (tgt := 17) (by decide) (by omega) (fun c_10 => ?_) (fun c_10 => ?_)
  · refine j_iconst G dX12_knows_17 ?_
    refine j_zreturn G dX12_knows_18 (by first | exact b2_01 _ | omega) ?_
    exact ⟨by unfold b2; split <;> first | rfl | omega, rfl⟩
  · refine j_iconst G dX12_knows_13 ?_
    refine j_goto G dX12_knows_14 (tgt := 18) (by decide) ?_
    refine j_zreturn G dX12_knows_18 (by first | exact b2_01 _ | omega) ?_
    exact ⟨by unfold b2; split <;> first | rfl | omega, rfl⟩
theorem m_known (r : Int) (h_r : 0 ≤ r ∧ r < 20) : CT (EM x) 1 yX12_known [rf (EM x) 0, iv r] μ (rI (knA (fun e => μ 25 (5 * r + e)) 5) μ) := by
  refine CT.ofJ (own := RX12) (cc := cX12_known) (n := 4) (ret := (some .int)) (by decide) rfl cw_X12_known (by decide) (Nat.le_of_ble_eq_true rfl) (ls := [some (rf (EM x) 0), some (iv r), none, none]) rfl ?_
  intro X G
  refine j_iconst G dX12_known_0 ?_
  refine j_istore2 G dX12_known_1 (by decide) rfl ?_
  refine j_iconst G dX12_known_2 ?_
  refine j_istore3 G dX12_known_3 (by decide) rfl ?_
  refine j_pc (p2 := 4) rfl ?_
  refine down (Pr := fun i => JJ (EM x) X 1 (rI (knA (fun e => μ 25 (5 * r + e)) 5) μ) 4 4 [some (rf (EM x) 0), some (iv r), some (iv (knA (fun e => μ 25 (5 * r + e)) i)), some (iv i)] [] μ) 5 ?_ 0 (by decide)
  intro i h_i ih
  have h_2 := pow31 (knA_lt (fun e => μ 25 (5 * r + e)) i) (by omega)
  refine j_iload_n G dX12_known_4 rfl ?_
  refine j_iconst G dX12_known_5 ?_
  refine j_icmp_ge G dX12_known_6 (tgt := 34) (by decide) (by omega) (by omega) (fun c_6 => ?_) (fun c_6 => ?_)
  · refine j_iload_n G dX12_known_34 rfl ?_
    refine j_ireturn G dX12_known_35 ?_
    exact ⟨by rw [show i = 5 by omega], rfl⟩
  · refine j_iload_n G dX12_known_9 rfl ?_
    first | refine j_aload_n G dX12_known_10 rfl ?_ | refine j_aload_nN G dX12_known_10 rfl ?_
    refine j_iload_n G dX12_known_11 rfl ?_
    refine j_iload_n G dX12_known_12 rfl ?_
    refine j_callV G mv_X12_264 dX12_known_13 (m_knows r i h_r (by omega)) (by first | assumption | rfl) (by decide) (by rfl) rfl rfl (by exact Nat.le_of_ble_eq_true rfl) (by decide) (kI ?_)
    refine j_if_eqB G dX12_known_16 (tgt := 25) (by decide)  (fun c_16 => ?_) (fun c_16 => ?_)
    · refine j_iconst G dX12_known_25 ?_
      refine j_ior G dX12_known_26 ?_
      refine j_istore2 G dX12_known_27 (by decide) rfl ?_
      refine j_iinc3 G dX12_known_28 (by decide) rfl rfl ?_
      refine j_goto G dX12_known_31 (tgt := 4) (by decide) ?_
      refine j_pc (p2 := 4) rfl ?_
      have h_z := ih (by omega)
      have h_s := kn_s (a := knA (fun e => μ 25 (5 * r + e)) i) (k := i) h_2 (by omega) (0 < μ 25 (5 * r + i))
      rw [show knA (fun e => μ 25 (5 * r + e)) (i + 1) = knA (fun e => μ 25 (5 * r + e)) i ||| (if 0 < μ 25 (5 * r + i) then 2 ^ i else 0) from rfl, ← h_s] at h_z
      first | (rw [if_pos (show 0 < μ 25 (5 * r + i) by omega)] at h_z; exact h_z) | (rw [if_neg (show ¬ 0 < μ 25 (5 * r + i) by omega)] at h_z; exact h_z)
    · refine j_iconst G dX12_known_19 ?_
      refine j_iload_n G dX12_known_20 rfl ?_
      refine j_ishl G dX12_known_21 ?_
      refine j_goto G dX12_known_22 (tgt := 26) (by decide) ?_
      refine j_ior G dX12_known_26 ?_
      refine j_istore2 G dX12_known_27 (by decide) rfl ?_
      refine j_iinc3 G dX12_known_28 (by decide) rfl rfl ?_
      refine j_goto G dX12_known_31 (tgt := 4) (by decide) ?_
      refine j_pc (p2 := 4) rfl ?_
      have h_z := ih (by omega)
      have h_s := kn_s (a := knA (fun e => μ 25 (5 * r + e)) i) (k := i) h_2 (by omega) (0 < μ 25 (5 * r + i))
      rw [show knA (fun e => μ 25 (5 * r + e)) (i + 1) = knA (fun e => μ 25 (5 * r + e)) i ||| (if 0 < μ 25 (5 * r + i) then 2 ^ i else 0) from rfl, ← h_s] at h_z
      first | (rw [if_pos (show 0 < μ 25 (5 * r + i) by omega)] at h_z; exact h_z) | (rw [if_neg (show ¬ 0 < μ 25 (5 * r + i) by omega)] at h_z; exact h_z)
end RD
