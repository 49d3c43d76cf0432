/-! long bits -/
abbrev lgN (b : Nat) : Int64 := Int64.ofInt (b : Int)
theorem lN_bv (b : Nat) : (lgN b).toBitVec = BitVec.ofNat 64 b := by
  show BitVec.ofInt 64 (b : Int) = BitVec.ofNat 64 b
  exact BitVec.ofInt_natCast 64 b
theorem lN_or (a b : Nat) : lgN a ||| lgN b = lgN (a ||| b) := by
  apply Int64.toBitVec_inj.1
  rw [Int64.toBitVec_or, lN_bv, lN_bv, lN_bv]
  apply BitVec.eq_of_getLsbD_eq
  intro i hi
  simp [hi]
theorem lN_and (a b : Nat) : lgN a &&& lgN b = lgN (a &&& b) := by
  apply Int64.toBitVec_inj.1
  rw [Int64.toBitVec_and, lN_bv, lN_bv, lN_bv]
  apply BitVec.eq_of_getLsbD_eq
  intro i hi
  simp [hi]
theorem lN_or0 (a : Nat) : lgN a ||| Int64.ofInt 0 = lgN a := by
  have := lN_or a 0
  rw [Nat.or_zero] at this
  exact this
theorem lN_shl : ∀ k : Nat, k < 64 → Int64.ofInt 1 <<< ((Int32.ofInt (k : Int)).toInt64 &&& 63) = lgN (2 ^ k) := by decide +kernel
theorem qs_u : ∀ k : Nat, k < 64 → ((Int32.ofInt (k : Int)).toInt64.toUInt64 &&& Int64.toUInt64 63) = UInt64.ofNat k := by decide +kernel
theorem qs_s : ∀ k : Nat, k < 64 → ((Int32.ofInt (k : Int)).toInt64 &&& 63) = Int64.ofNat k := by decide +kernel
theorem lN_bool (p : Bool) : Int64.ofInt (b2 (p = true)) = lgN (if p then 1 else 0) := by cases p <;> rfl
theorem bit_and1 (a k : Nat) : (a / 2 ^ k) &&& 1 = if a.testBit k then 1 else 0 := by
  rw [Nat.and_one_is_mod, Nat.testBit_eq_decide_div_mod_eq]
  have h_2 : a / 2 ^ k % 2 = 0 ∨ a / 2 ^ k % 2 = 1 := by omega
  rcases h_2 with h_3 | h_3 <;> rw [h_3] <;> simp
theorem lN_inj {a b : Nat} (ha : a < 2 ^ 64) (hb : b < 2 ^ 64) (h : lgN a = lgN b) : a = b := by
  have h_1 : (lgN a).toBitVec.toNat = (lgN b).toBitVec.toNat := by rw [h]
  rw [lN_bv, lN_bv, BitVec.toNat_ofNat, BitVec.toNat_ofNat, Nat.mod_eq_of_lt ha, Nat.mod_eq_of_lt hb] at h_1
  exact h_1
theorem bit64u {a k : Nat} (ha : a < 2 ^ 64) (hk : k < 64) : ((lgN a).toUInt64 >>> ((Int32.ofInt (k : Int)).toInt64.toUInt64 &&& Int64.toUInt64 63)).toInt64 &&& Int64.ofInt 1 = Int64.ofInt (b2 (a.testBit k = true)) := by
  rw [qs_u k hk, lN_bool, ← bit_and1]
  apply Int64.toBitVec_inj.1
  rw [Int64.toBitVec_and, lN_bv]
  show (lgN a).toBitVec >>> ((UInt64.ofNat k).toBitVec % 64#64) &&& (lgN 1).toBitVec = _
  rw [lN_bv, lN_bv]
  apply BitVec.eq_of_toNat_eq
  have h_k : ((UInt64.ofNat k).toBitVec % 64#64).toNat = k := by
    show (BitVec.ofNat 64 k % 64#64).toNat = k
    have : ∀ k : Nat, k < 64 → (BitVec.ofNat 64 k % 64#64).toNat = k := by decide +kernel
    exact this k hk
  rw [BitVec.toNat_and]
  show (BitVec.ofNat 64 a >>> ((UInt64.ofNat k).toBitVec % 64#64).toNat).toNat &&& _ = _
  rw [h_k, BitVec.toNat_ushiftRight, BitVec.toNat_ofNat, BitVec.toNat_ofNat, BitVec.toNat_ofNat, Nat.mod_eq_of_lt ha, Nat.shiftRight_eq_div_pow, show 1 % 2 ^ 64 = 1 from rfl]
  have h_3 : a / 2 ^ k &&& 1 ≤ 1 := Nat.and_le_right
  omega
theorem bit64s {a k : Nat} (ha : a < 2 ^ 64) (hk : k < 64) : (lgN a >>> ((Int32.ofInt (k : Int)).toInt64 &&& 63)) &&& Int64.ofInt 1 = Int64.ofInt (b2 (a.testBit k = true)) := by
  rw [qs_s k hk, lN_bool, ← bit_and1]
  apply Int64.toBitVec_inj.1
  rw [Int64.toBitVec_and, lN_bv]
  show (lgN a).toBitVec.sshiftRight' ((Int64.ofNat k).toBitVec.smod 64#64) &&& (lgN 1).toBitVec = _
  rw [lN_bv, lN_bv]
  have h_k : ((Int64.ofNat k).toBitVec.smod 64#64).toNat = k := by
    show ((BitVec.ofNat 64 k).smod 64#64).toNat = k
    have : ∀ k : Nat, k < 64 → ((BitVec.ofNat 64 k).smod 64#64).toNat = k := by decide +kernel
    exact this k hk
  rw [BitVec.sshiftRight_eq', h_k]
  apply BitVec.eq_of_getLsbD_eq
  intro i hi
  rw [BitVec.getLsbD_and, BitVec.getLsbD_sshiftRight, BitVec.getLsbD_ofNat, BitVec.getLsbD_ofNat, BitVec.getLsbD_ofNat, Nat.testBit_and]
  rcases Nat.eq_zero_or_pos i with h_0 | h_0
  · subst h_0
    have h_4 : a / 2 ^ k = a >>> k := (Nat.shiftRight_eq_div_pow a k).symm
    rw [h_4, Nat.testBit_shiftRight]
    simp [hk, BitVec.getLsbD_ofNat]
  · have h_5 : Nat.testBit 1 i = false := Nat.testBit_lt_two_pow (by have := Nat.pow_le_pow_right (n := 2) (by decide) h_0; omega)
    rw [h_5]
    simp
theorem l2i_01 (q : Prop) [Decidable q] : (Int64.ofInt (b2 q)).toInt32.toInt = b2 q := by
  unfold b2
  split <;> rfl
theorem lgc_z {a b : Nat} (ha : a < 2 ^ 64) (hb : b < 2 ^ 64) : (lg_cmp (lgN a) (lgN b)).toInt = 0 ↔ a = b := by
  unfold lg_cmp
  constructor
  · intro h
    by_cases h_1 : lgN a > lgN b
    · rw [if_pos h_1] at h
      exact absurd h (by decide)
    · rw [if_neg h_1] at h
      by_cases h_2 : lgN a = lgN b
      · exact lN_inj ha hb h_2
      · rw [if_neg h_2] at h
        exact absurd h (by decide)
  · rintro rfl
    rw [if_neg (by rw [gt_iff_lt]; exact Int64.lt_irrefl), if_pos rfl]
    rfl
/-! near -/
def hdN (f : Int → Int) : Nat → Nat
  | 0 => 0
  | n + 1 => hdN f n ||| (if f n = 0 then 0 else 2 ^ (f n).toNat)
theorem hdN_lt {f : Int → Int} : ∀ n : Nat, (∀ l : Nat, l < n → 0 ≤ f l ∧ f l ≤ 63) → hdN f n < 2 ^ 64
  | 0, _ => by simp [hdN]
  | n + 1, h => by
    have h_1 := hdN_lt n (fun l hl => h l (by omega))
    have h_2 := h n (by omega)
    unfold hdN
    refine Nat.or_lt_two_pow h_1 ?_
    split
    · decide
    · exact Nat.pow_lt_pow_right (by decide) (by omega)
theorem hdN_bit {f : Int → Int} (c : Nat) (h_c : 0 < c) : ∀ n : Nat, (∀ l : Nat, l < n → 0 ≤ f l ∧ f l ≤ 63) → (hdN f n).testBit c = anyB (fun l => decide (f l = c)) n
  | 0, _ => by simp [hdN, anyB]
  | n + 1, h => by
    have h_1 := hdN_bit c h_c n (fun l hl => h l (by omega))
    have h_2 := h n (by omega)
    unfold hdN anyB
    rw [Nat.testBit_or, h_1]
    congr 1
    split
    · rw [Nat.zero_testBit]
      exact (decide_eq_false (by omega)).symm
    · rw [Nat.testBit_two_pow]
      exact decide_eq_decide.2 (by omega)
theorem hdN_b0 {f : Int → Int} : ∀ n : Nat, (∀ l : Nat, l < n → 0 ≤ f l ∧ f l ≤ 63) → (hdN f n).testBit 0 = false
  | 0, _ => by simp [hdN]
  | n + 1, h => by
    have h_1 := hdN_b0 n (fun l hl => h l (by omega))
    have h_2 := h n (by omega)
    unfold hdN
    rw [Nat.testBit_or, h_1, Bool.false_or]
    split
    · rw [Nat.zero_testBit]
    · rw [Nat.testBit_two_pow]
      exact decide_eq_false (by omega)
def nrS (f : Int → Int) (c : Nat) : Int := sm (fun j => if (hdN f 26).testBit (c ^^^ 2 ^ j) then 1 else 0) 6
theorem sm_plus (g h : Nat → Int) : ∀ n, sm (fun i => g i + h i) n = sm g n + sm h n
  | 0 => rfl
  | n + 1 => by rw [sm_s, sm_s, sm_s, sm_plus g h n]; omega
theorem sm_zero : ∀ n, sm (fun _ => 0) n = 0
  | 0 => rfl
  | n + 1 => by rw [sm_s, sm_zero n]; rfl
theorem sm_swap (h : Nat → Nat → Int) (m : Nat) : ∀ n, sm (fun o => sm (fun j => h o j) m) n = sm (fun j => sm (fun o => h o j) n) m
  | 0 => (sm_zero m).symm
  | n + 1 => by
    rw [sm_s, sm_swap h m n, ← sm_plus]
    rfl
theorem sm_one (g : Nat → Int) (t : Nat) : ∀ n, sm (fun o => if o = t then g o else 0) n = if t < n then g t else 0
  | 0 => by simp [sm]
  | n + 1 => by
    rw [sm_s, sm_one g t n]
    by_cases h_1 : n = t
    · subst h_1
      rw [if_neg (by omega), if_pos rfl, if_pos (by omega)]
      omega
    · rw [if_neg h_1]
      by_cases h_2 : t < n
      · rw [if_pos h_2, if_pos (by omega)]
        omega
      · rw [if_neg h_2, if_neg (by omega)]
        omega
theorem pop_one : ∀ c : Nat, c < 64 → ∀ o : Nat, o < 64 → (if popN (o ^^^ c) 26 = 1 then (1 : Int) else 0) = sm (fun j => if o = c ^^^ 2 ^ j then 1 else 0) 6 := by decide +kernel
theorem sm_if (g : Int) (p : Nat → Prop) [DecidablePred p] : ∀ n, sm (fun j => if p j then g else 0) n = g * sm (fun j => if p j then 1 else 0) n
  | 0 => by simp [sm]
  | n + 1 => by
    rw [sm_s, sm_s, sm_if g p n, Int.mul_add]
    congr 1
    split <;> omega
theorem near_eq (g : Nat → Int) (c : Nat) (h_c : c < 64) : sm (fun o => if popN (o ^^^ c) 26 = 1 then g o else 0) 64 = sm (fun j => g (c ^^^ 2 ^ j)) 6 := by
  rw [sm_cg (g2 := fun o => sm (fun j => if o = c ^^^ 2 ^ j then g o else 0) 6) 64 (fun o h_o => ?_), sm_swap]
  · refine sm_cg 6 (fun j h_j => ?_)
    rw [sm_one g (c ^^^ 2 ^ j) 64, if_pos]
    refine Nat.xor_lt_two_pow (n := 6) (by omega) ?_
    exact Nat.pow_lt_pow_right (by decide) h_j
  · rw [sm_if (g o) (fun j => o = c ^^^ 2 ^ j) 6, ← pop_one c h_c o h_o]
    split <;> omega
section NR2
variable {E : EE} {x x1 x2 : CX} {μ σ : MemT}
theorem k_likeOf (k q a1 a2 a3 : Nat) (h_k : (eY E)[k]? = some (1, 4, [some q, some a1, some a2, some a3])) (h_q : (eY E)[q]? = some (20, 26, [])) (c : Nat) (h_c : c < 64) (h_f : ∀ l : Nat, l < 26 → 0 ≤ μ q l ∧ μ q l ≤ 63) : CT E 0 yX1_likeOf [rf E k, iv c] μ (rI (nrS (μ q) c) μ) := by
  refine CT.ofJ (own := RX1) (cc := cX1_likeOf) (n := 6) (ret := (some .int)) (by decide) rfl cw_X1_likeOf (by decide) (Nat.le_of_ble_eq_true rfl) (ls := [some (rf E k), some (iv c), none, none, none, none]) rfl ?_
  intro X G
  refine j_lconstI G 0 dX1_likeOf_0 (by decide) ?_
  refine j_lstore2 G dX1_likeOf_1 (by decide) rfl ?_
  refine j_iconst G dX1_likeOf_2 ?_
  refine j_istore4 G dX1_likeOf_3 (by decide) rfl ?_
  refine j_pc (p2 := 5) rfl ?_
  refine down (Pr := fun i => JJ E X 0 (rI (nrS (μ q) c) μ) 6 5 [some (rf E k), some (iv c), some (.long (lgN (hdN (μ q) i))), none, some (iv i), none] [] μ) 26 ?_ 0 (by decide)
  intro i h_i ih
  refine j_iload G dX1_likeOf_5 rfl ?_
  refine j_bipush G dX1_likeOf_7 (by decide) ?_
  refine j_icmp_ge G dX1_likeOf_9 (tgt := 44) (by decide) (by omega) (by omega) (fun c_9 => ?_) (fun c_9 => ?_)
  · refine j_iconst G dX1_likeOf_44 ?_
    refine j_istore4 G dX1_likeOf_45 (by decide) rfl ?_
    refine j_iconst G dX1_likeOf_47 ?_
    refine j_istore5 G dX1_likeOf_48 (by decide) rfl ?_
    refine j_pc (p2 := 50) rfl ?_
    obtain rfl : i = 26 := by omega
    have h_H := hdN_lt (f := μ q) 26 h_f
    have h_rg : ∀ n : Nat, n ≤ 6 → 0 ≤ sm (fun j => if (hdN (μ q) 26).testBit (c ^^^ 2 ^ j) then 1 else 0) n ∧ sm (fun j => if (hdN (μ q) 26).testBit (c ^^^ 2 ^ j) then 1 else 0) n ≤ 6 := fun n h_n => by
      have := sm_rg (g := fun j => if (hdN (μ q) 26).testBit (c ^^^ 2 ^ j) then 1 else 0) (a := 0) (b := 1) n (fun i _ => by split <;> omega)
      omega
    refine down (Pr := fun j => JJ E X 0 (rI (nrS (μ q) c) μ) 6 50 [some (rf E k), some (iv c), some (.long (lgN (hdN (μ q) 26))), none, some (iv (sm (fun j => if (hdN (μ q) 26).testBit (c ^^^ 2 ^ j) then 1 else 0) j)), some (iv j)] [] μ) 6 ?_ 0 (by decide)
    intro j h_j ih2
    have h_2j := h_rg j h_j
    refine j_iload G dX1_likeOf_50 rfl ?_
    refine j_bipush G dX1_likeOf_52 (by decide) ?_
    refine j_icmp_ge G dX1_likeOf_54 (tgt := 79) (by decide) (by omega) (by omega) (fun c_54 => ?_) (fun c_54 => ?_)
    · refine j_iload G dX1_likeOf_79 rfl ?_
      refine j_ireturn G dX1_likeOf_81 ?_
      obtain rfl : j = 6 := by omega
      exact ⟨rfl, rfl⟩
    · have h_p : 2 ^ j < 2 ^ 6 := Nat.pow_lt_pow_right (by decide) (by omega)
      have h_x : c ^^^ 2 ^ j < 2 ^ 6 := Nat.xor_lt_two_pow (by omega) h_p
      refine j_iload G dX1_likeOf_57 rfl ?_
      refine j_lload_n G dX1_likeOf_59 rfl ?_
      refine j_iload_n G dX1_likeOf_60 rfl ?_
      refine j_iconst G dX1_likeOf_61 ?_
      refine j_iload G dX1_likeOf_62 rfl ?_
      refine j_ishl G dX1_likeOf_64 ?_
      rw [shl32_one j (by omega)]
      refine j_ixor G dX1_likeOf_65 ?_
      rw [xor32_nat (by omega) (by omega)]
      refine j_lushr G dX1_likeOf_66 ?_
      refine j_lconstI G 1 dX1_likeOf_67 (by decide) ?_
      refine j_land G dX1_likeOf_68 ?_
      rw [bit64u h_H (by omega)]
      refine j_l2i G dX1_likeOf_69 ?_
      refine j_pc (p2 := 70) rfl ?_
      rw [l2i_01]
      refine j_iadd G dX1_likeOf_70 ?_
      refine j_istore4 G dX1_likeOf_71 (by decide) rfl ?_
      refine j_iinc5 G dX1_likeOf_73 (by decide) rfl rfl ?_
      refine j_goto G dX1_likeOf_76 (tgt := 50) (by decide) ?_
      refine j_pc (p2 := 50) rfl ?_
      have h_z := ih2 (by omega)
      exact h_z
  · refine j_lload_n G dX1_likeOf_12 rfl ?_
    first | refine j_aload_n G dX1_likeOf_13 rfl ?_ | refine j_aload_nN G dX1_likeOf_13 rfl ?_
    refine j_getr G fl_X1_9 dX1_likeOf_14 (by first | assumption | rfl) (by rfl) ?_
    refine j_iload G dX1_likeOf_17 rfl ?_
    refine j_iaload G dX1_likeOf_19 (by first | assumption | rfl) (by omega) (fun r_19 => ?_)
    try simp (disch := omega) only [up_same, up_cell, up_idx, cpm_at, fil_at] at r_19 ⊢
    refine j_if_ne G dX1_likeOf_20 (tgt := 27) (by decide) (by omega) (fun c_20 => ?_) (fun c_20 => ?_)
    · have h_fi := h_f i (by omega)
      obtain ⟨w, h_w63, h_w⟩ := nat_of (n := 63) h_fi
      refine j_lconstI G 1 dX1_likeOf_27 (by decide) ?_
      first | refine j_aload_n G dX1_likeOf_28 rfl ?_ | refine j_aload_nN G dX1_likeOf_28 rfl ?_
      refine j_getr G fl_X1_9 dX1_likeOf_29 (by first | assumption | rfl) (by rfl) ?_
      refine j_iload G dX1_likeOf_32 rfl ?_
      refine j_iaload G dX1_likeOf_34 (by first | assumption | rfl) (by omega) (fun r_34 => ?_)
      try simp (disch := omega) only [up_same, up_cell, up_idx, cpm_at, fil_at] at r_34 ⊢
      rw [h_w]
      refine j_lshl G dX1_likeOf_35 ?_
      refine j_lor G dX1_likeOf_36 ?_
      first | rw [lN_shl w (by omega), lN_or] | rw [lN_or0]
      refine j_lstore2 G dX1_likeOf_37 (by decide) rfl ?_
      refine j_iinc4 G dX1_likeOf_38 (by decide) rfl rfl ?_
      refine j_goto G dX1_likeOf_41 (tgt := 5) (by decide) ?_
      refine j_pc (p2 := 5) rfl ?_
      have h_z := ih (by omega)
      unfold hdN at h_z
      first
      | (rw [if_pos c_20, Nat.or_zero] at h_z; exact h_z)
      | (rw [if_neg c_20, h_w, Int.toNat_natCast] at h_z; exact h_z)
    · refine j_lconstI G 0 dX1_likeOf_23 (by decide) ?_
      refine j_goto G dX1_likeOf_24 (tgt := 36) (by decide) ?_
      refine j_lor G dX1_likeOf_36 ?_
      first | rw [lN_shl w (by omega), lN_or] | rw [lN_or0]
      refine j_lstore2 G dX1_likeOf_37 (by decide) rfl ?_
      refine j_iinc4 G dX1_likeOf_38 (by decide) rfl rfl ?_
      refine j_goto G dX1_likeOf_41 (tgt := 5) (by decide) ?_
      refine j_pc (p2 := 5) rfl ?_
      have h_z := ih (by omega)
      unfold hdN at h_z
      first
      | (rw [if_pos c_20, Nat.or_zero] at h_z; exact h_z)
      | (rw [if_neg c_20, h_w, Int.toNat_natCast] at h_z; exact h_z)
theorem nrS_rg (f : Int → Int) (c : Nat) : 0 ≤ nrS f c ∧ nrS f c ≤ 6 := by
  have := sm_rg (g := fun j => if (hdN f 26).testBit (c ^^^ 2 ^ j) then 1 else 0) (a := 0) (b := 1) 6 (fun i _ => by split <;> omega)
  exact this
def nrG (f : Int → Int) (c o : Nat) : Int := if popN (o ^^^ c) 26 = 1 then (if (hdN f 26).testBit o then 1 else 0) else 0
theorem nrG_sm (f : Int → Int) (c : Nat) (h_c : c < 64) : sm (nrG f c) 64 = nrS f c := near_eq (fun o => if (hdN f 26).testBit o then 1 else 0) c h_c
theorem m_nearOf (f : Int → Int) (k c : Nat) (h_k : k < 5) (h_c : c < 64) (h_f : ∀ l : Nat, l < 26 → 0 ≤ f l ∧ f l ≤ 63) (h_m : ∀ l, 0 ≤ l → l < 26 → μ 1 (26 * k + l) = f l) : CT (EM x) 1 yX12_nearOf [rf (EM x) 0, iv k, iv c] μ (rI (nrS f c) μ) := by
  rw [← nrG_sm f c h_c]
  have h_rg : ∀ n : Nat, n ≤ 64 → 0 ≤ sm (nrG f c) n ∧ sm (nrG f c) n ≤ 64 := fun n h_n => by
    have := sm_rg (g := nrG f c) (a := 0) (b := 1) n (fun i _ => by unfold nrG; repeat' split <;> omega)
    omega
  have h_s1 : sm (nrG f c) 1 = 0 := by
    show 0 + nrG f c 0 = 0
    unfold nrG
    rw [hdN_b0 26 h_f]
    split <;> rfl
  refine CT.ofJ (own := RX12) (cc := cX12_nearOf) (n := 7) (ret := (some .int)) (by decide) rfl cw_X12_nearOf (by decide) (Nat.le_of_ble_eq_true rfl) (ls := [some (rf (EM x) 0), some (iv k), some (iv c), none, none, none, none]) rfl ?_
  intro X G
  refine j_iconst G dX12_nearOf_0 ?_
  refine j_istore3 G dX12_nearOf_1 (by decide) rfl ?_
  refine j_iconst G dX12_nearOf_2 ?_
  refine j_istore4 G dX12_nearOf_3 (by decide) rfl ?_
  refine j_pc (p2 := 5) rfl ?_
  refine j_weak (ls' := [some (rf (EM x) 0), some (iv k), some (iv c), some (iv (sm (nrG f c) 1)), some (iv ((1 : Nat) : Int)), none, none]) ?_ ⟨rfl, rfl, rfl, congrArg (fun z => some (iv z)) h_s1.symm, rfl, trivial⟩
  refine down (Pr := fun i => 1 ≤ i → JJ (EM x) X 1 (rI (sm (nrG f c) 64) μ) 7 5 [some (rf (EM x) 0), some (iv k), some (iv c), some (iv (sm (nrG f c) i)), some (iv i), none, none] [] μ) 64 ?_ 1 (by decide) (by decide)
  intro i h_i ih h_i1
  have h_2 := h_rg i h_i
  refine j_iload G dX12_nearOf_5 rfl ?_
  refine j_bipush G dX12_nearOf_7 (by decide) ?_
  refine j_icmp_ge G dX12_nearOf_9 (tgt := 90) (by decide) (by omega) (by omega) (fun c_9 => ?_) (fun c_9 => ?_)
  · refine j_iload_n G dX12_nearOf_90 rfl ?_
    refine j_ireturn G dX12_nearOf_91 ?_
    obtain rfl : i = 64 := by omega
    exact ⟨rfl, rfl⟩
  · refine j_iconst G dX12_nearOf_12 ?_
    refine j_istore5 G dX12_nearOf_13 (by decide) rfl ?_
    refine j_iconst G dX12_nearOf_15 ?_
    refine j_istore6 G dX12_nearOf_16 (by decide) rfl ?_
    refine j_pc (p2 := 18) rfl ?_
    refine j_weak (ls' := [some (rf (EM x) 0), some (iv k), some (iv c), some (iv (sm (nrG f c) i)), some (iv i), some (iv (b2 (anyB (fun l => decide (f l = i)) 0 = true))), some (iv ((0 : Nat) : Int))]) ?_ ⟨rfl, rfl, rfl, rfl, rfl, rfl, rfl, trivial⟩
    refine down (Pr := fun j => JJ (EM x) X 1 (rI (sm (nrG f c) 64) μ) 7 18 [some (rf (EM x) 0), some (iv k), some (iv c), some (iv (sm (nrG f c) i)), some (iv i), some (iv (b2 (anyB (fun l => decide (f l = i)) j = true))), some (iv j)] [] μ) 26 ?_ 0 (by decide)
    intro j h_j ih2
    have h_01 := b2_01 (anyB (fun l => decide (f l = i)) j = true)
    refine j_iload G dX12_nearOf_18 rfl ?_
    refine j_bipush G dX12_nearOf_20 (by decide) ?_
    refine j_icmp_ge G dX12_nearOf_22 (tgt := 60) (by decide) (by omega) (by omega) (fun c_22 => ?_) (fun c_22 => ?_)
    · obtain rfl : j = 26 := by omega
      have h_b := hdN_bit (f := f) i (by omega) 26 h_f
      have h_x : i ^^^ c < 2 ^ 6 := Nat.xor_lt_two_pow (by omega) (by omega)
      have h_pp := popN_le (i ^^^ c) 26
      refine j_iload_n G dX12_nearOf_60 rfl ?_
      refine j_iload G dX12_nearOf_61 rfl ?_
      refine j_if_eqB G dX12_nearOf_63 (tgt := 81) (by decide)  (fun c_63 => ?_) (fun c_63 => ?_)
      · refine j_iconst G dX12_nearOf_81 ?_
        refine j_iadd G dX12_nearOf_82 ?_
        refine j_istore3 G dX12_nearOf_83 (by decide) rfl ?_
        refine j_iinc4 G dX12_nearOf_84 (by decide) rfl rfl ?_
        refine j_goto G dX12_nearOf_87 (tgt := 5) (by decide) ?_
        refine j_pc (p2 := 5) rfl ?_
        have h_z := ih (by omega) (by omega)
        rw [sm_s (nrG f c) i, show nrG f c i = if popN (i ^^^ c) 26 = 1 then (if (hdN f 26).testBit i then 1 else 0) else 0 from rfl, h_b] at h_z
        first
        | (rw [if_neg c_63, ite_self] at h_z; exact j_weak h_z ⟨rfl, rfl, rfl, rfl, rfl, trivial⟩)
        | (rw [if_pos c_63, if_pos (by omega)] at h_z; exact j_weak h_z ⟨rfl, rfl, rfl, rfl, rfl, trivial⟩)
        | (rw [if_pos c_63, if_neg (by omega)] at h_z; exact j_weak h_z ⟨rfl, rfl, rfl, rfl, rfl, trivial⟩)
      · refine j_iload G dX12_nearOf_66 rfl ?_
        refine j_iload_n G dX12_nearOf_68 rfl ?_
        refine j_ixor G dX12_nearOf_69 ?_
        rw [xor32_nat (by omega) (by omega)]
        refine j_callS G ms_X12_150 dX12_nearOf_70 (m_ones (i ^^^ c) (by omega)) rfl rfl (by exact Nat.le_of_ble_eq_true rfl) (by decide) (kI ?_)
        refine j_iconst G dX12_nearOf_73 ?_
        refine j_icmp_ne G dX12_nearOf_74 (tgt := 81) (by decide) (by omega) (by omega) (fun c_74 => ?_) (fun c_74 => ?_)
        · refine j_iconst G dX12_nearOf_81 ?_
          refine j_iadd G dX12_nearOf_82 ?_
          refine j_istore3 G dX12_nearOf_83 (by decide) rfl ?_
          refine j_iinc4 G dX12_nearOf_84 (by decide) rfl rfl ?_
          refine j_goto G dX12_nearOf_87 (tgt := 5) (by decide) ?_
          refine j_pc (p2 := 5) rfl ?_
          have h_z := ih (by omega) (by omega)
          rw [sm_s (nrG f c) i, show nrG f c i = if popN (i ^^^ c) 26 = 1 then (if (hdN f 26).testBit i then 1 else 0) else 0 from rfl, h_b] at h_z
          first
          | (rw [if_neg c_63, ite_self] at h_z; exact j_weak h_z ⟨rfl, rfl, rfl, rfl, rfl, trivial⟩)
          | (rw [if_pos c_63, if_pos (by omega)] at h_z; exact j_weak h_z ⟨rfl, rfl, rfl, rfl, rfl, trivial⟩)
          | (rw [if_pos c_63, if_neg (by omega)] at h_z; exact j_weak h_z ⟨rfl, rfl, rfl, rfl, rfl, trivial⟩)
        · refine j_iconst G dX12_nearOf_77 ?_
          refine j_goto G dX12_nearOf_78 (tgt := 82) (by decide) ?_
          refine j_iadd G dX12_nearOf_82 ?_
          refine j_istore3 G dX12_nearOf_83 (by decide) rfl ?_
          refine j_iinc4 G dX12_nearOf_84 (by decide) rfl rfl ?_
          refine j_goto G dX12_nearOf_87 (tgt := 5) (by decide) ?_
          refine j_pc (p2 := 5) rfl ?_
          have h_z := ih (by omega) (by omega)
          rw [sm_s (nrG f c) i, show nrG f c i = if popN (i ^^^ c) 26 = 1 then (if (hdN f 26).testBit i then 1 else 0) else 0 from rfl, h_b] at h_z
          first
          | (rw [if_neg c_63, ite_self] at h_z; exact j_weak h_z ⟨rfl, rfl, rfl, rfl, rfl, trivial⟩)
          | (rw [if_pos c_63, if_pos (by omega)] at h_z; exact j_weak h_z ⟨rfl, rfl, rfl, rfl, rfl, trivial⟩)
          | (rw [if_pos c_63, if_neg (by omega)] at h_z; exact j_weak h_z ⟨rfl, rfl, rfl, rfl, rfl, trivial⟩)
    · refine j_iload G dX12_nearOf_25 rfl ?_
      refine j_if_neB G dX12_nearOf_27 (tgt := 47) (by decide)  (fun c_27 => ?_) (fun c_27 => ?_)
      · refine j_iconst G dX12_nearOf_47 ?_
        refine j_goto G dX12_nearOf_48 (tgt := 52) (by decide) ?_
        refine j_istore5 G dX12_nearOf_52 (by decide) rfl ?_
        refine j_iinc6 G dX12_nearOf_54 (by decide) rfl rfl ?_
        refine j_goto G dX12_nearOf_57 (tgt := 18) (by decide) ?_
        refine j_pc (p2 := 18) rfl ?_
        have h_z := ih2 (by omega)
        rw [show anyB (fun l => decide (f l = i)) (j + 1) = (anyB (fun l => decide (f l = i)) j || decide (f j = i)) from rfl] at h_z
        first
        | (rw [c_27, Bool.true_or] at h_z; exact h_z)
        | (rw [Bool.eq_false_iff.2 c_27, Bool.false_or, decide_eq_true c_44] at h_z; exact h_z)
        | (rw [Bool.eq_false_iff.2 c_27, Bool.false_or, decide_eq_false c_44] at h_z; exact h_z)
      · first | refine j_aload_n G dX12_nearOf_30 rfl ?_ | refine j_aload_nN G dX12_nearOf_30 rfl ?_
        refine j_getr G fl_X12_7 dX12_nearOf_31 (by first | assumption | rfl) (by rfl) ?_
        refine j_bipush G dX12_nearOf_34 (by decide) ?_
        refine j_iload_n G dX12_nearOf_36 rfl ?_
        refine j_imul G dX12_nearOf_37 ?_
        refine j_iload G dX12_nearOf_38 rfl ?_
        refine j_iadd G dX12_nearOf_40 ?_
        refine j_iaload G dX12_nearOf_41 (by first | assumption | rfl) (by omega) (fun r_41 => ?_)
        try simp (disch := omega) only [up_same, up_cell, up_idx, cpm_at, fil_at] at r_41 ⊢
        rw [h_m j (by omega) (by omega)] at *
        refine j_iload G dX12_nearOf_42 rfl ?_
        refine j_icmp_ne G dX12_nearOf_44 (tgt := 51) (by decide) (by omega) (by omega) (fun c_44 => ?_) (fun c_44 => ?_)
        · refine j_iconst G dX12_nearOf_51 ?_
          refine j_istore5 G dX12_nearOf_52 (by decide) rfl ?_
          refine j_iinc6 G dX12_nearOf_54 (by decide) rfl rfl ?_
          refine j_goto G dX12_nearOf_57 (tgt := 18) (by decide) ?_
          refine j_pc (p2 := 18) rfl ?_
          have h_z := ih2 (by omega)
          rw [show anyB (fun l => decide (f l = i)) (j + 1) = (anyB (fun l => decide (f l = i)) j || decide (f j = i)) from rfl] at h_z
          first
          | (rw [c_27, Bool.true_or] at h_z; exact h_z)
          | (rw [Bool.eq_false_iff.2 c_27, Bool.false_or, decide_eq_true c_44] at h_z; exact h_z)
          | (rw [Bool.eq_false_iff.2 c_27, Bool.false_or, decide_eq_false c_44] at h_z; exact h_z)
        · refine j_iconst G dX12_nearOf_47 ?_
          refine j_goto G dX12_nearOf_48 (tgt := 52) (by decide) ?_
          refine j_istore5 G dX12_nearOf_52 (by decide) rfl ?_
          refine j_iinc6 G dX12_nearOf_54 (by decide) rfl rfl ?_
          refine j_goto G dX12_nearOf_57 (tgt := 18) (by decide) ?_
          refine j_pc (p2 := 18) rfl ?_
          have h_z := ih2 (by omega)
          rw [show anyB (fun l => decide (f l = i)) (j + 1) = (anyB (fun l => decide (f l = i)) j || decide (f j = i)) from rfl] at h_z
          first
          | (rw [c_27, Bool.true_or] at h_z; exact h_z)
          | (rw [Bool.eq_false_iff.2 c_27, Bool.false_or, decide_eq_true c_44] at h_z; exact h_z)
          | (rw [Bool.eq_false_iff.2 c_27, Bool.false_or, decide_eq_false c_44] at h_z; exact h_z)
theorem c_near (k : Nat) (z : Int) (h_k : k < 5) (h_z : (-2147483648 ≤ z ∧ z < 2147483648)) (h_f : ∀ l : Nat, l < 26 → 0 ≤ σ (3 + 7 * k) l ∧ σ (3 + 7 * k) l ≤ 63) : CT (EC x) 2 yX11_near [rf (EC x) 0, iv k, iv z] σ (rI (if 1 ≤ z ∧ z ≤ 63 then nrS (σ (3 + 7 * k)) z.toNat else -2) σ) := by
  obtain ⟨h_y1, h_y2, h_y3, h_y4, h_y5, h_y6, h_y7⟩ := ly_code (x := x) h_k
  refine CT.ofJ (own := RX11) (cc := cX11_near) (n := 4) (ret := (some .int)) (by decide) rfl cw_X11_near (by decide) (Nat.le_of_ble_eq_true rfl) (ls := [some (rf (EC x) 0), some (iv k), some (iv z), none]) rfl ?_
  intro X G
  first | refine j_aload_n G dX11_near_0 rfl ?_ | refine j_aload_nN G dX11_near_0 rfl ?_
  refine j_iload_n G dX11_near_1 rfl ?_
  refine j_callV G mv_X11_88 dX11_near_2 (c_codeAt k h_k) (by first | assumption | rfl) (by decide) (by rfl) rfl rfl (by exact Nat.le_of_ble_eq_true rfl) (by decide) (kV ?_)
  first | refine j_astore3 G dX11_near_5 (by decide) rfl ?_ | refine j_astoreN3 G dX11_near_5 (by decide) rfl ?_
  first | refine j_aload_n G dX11_near_6 rfl ?_ | refine j_aload_nN G dX11_near_6 rfl ?_
  refine j_ifnonnull G dX11_near_7 (tgt := 12) (by decide) ?_
  refine j_iload_n G dX11_near_12 rfl ?_
  refine j_iconst G dX11_near_13 ?_
  refine j_bipush G dX11_near_14 (by decide) ?_
  refine j_callS G ms_X11_92 dX11_near_16 (x_within _ _ _ (by omega) (by omega) (by omega)) rfl rfl (by exact Nat.le_of_ble_eq_true rfl) (by decide) (kI ?_)
  refine j_if_eqB G dX11_near_19 (tgt := 30) (by decide)  (fun c_19 => ?_) (fun c_19 => ?_)
  · refine j_bipush G dX11_near_30 (by decide) ?_
    refine j_ireturn G dX11_near_32 ?_
    first
    | exact ⟨rfl, rfl⟩
    | (rw [if_neg c_19]; exact ⟨rfl, rfl⟩)
  · rw [if_pos c_19]
    obtain ⟨w, h_w, rfl⟩ := nat_of (n := 63) (z := z) (by omega)
    rw [Int.toNat_natCast]
    first | refine j_aload_n G dX11_near_22 rfl ?_ | refine j_aload_nN G dX11_near_22 rfl ?_
    refine j_iload_n G dX11_near_23 rfl ?_
    refine j_callV G mv_X11_223 dX11_near_24 (k_likeOf (2 + 7 * k) (3 + 7 * k) (4 + 7 * k) (7 + 7 * k) (8 + 7 * k) h_y1 h_y2 w (by omega) h_f) (by first | assumption | rfl) (by decide) (by rfl) rfl rfl (by exact Nat.le_of_ble_eq_true rfl) (by decide) (kI ?_)
    refine j_goto G dX11_near_27 (tgt := 32) (by decide) ?_
    refine j_ireturn G dX11_near_32 ?_
    first
    | exact ⟨rfl, rfl⟩
    | (rw [if_neg c_19]; exact ⟨rfl, rfl⟩)
theorem c_nearN (k z : Int) (h_1 : (-2147483648 ≤ k ∧ k < 2147483648)) (h_k : ¬ (0 ≤ k ∧ k ≤ 4)) : CT (EC x) 2 yX11_near [rf (EC x) 0, iv k, iv z] σ (rI (-1) σ) := by
  refine CT.ofJ (own := RX11) (cc := cX11_near) (n := 4) (ret := (some .int)) (by decide) rfl cw_X11_near (by decide) (Nat.le_of_ble_eq_true rfl) (ls := [some (rf (EC x) 0), some (iv k), some (iv z), none]) rfl ?_
  intro X G
  first | refine j_aload_n G dX11_near_0 rfl ?_ | refine j_aload_nN G dX11_near_0 rfl ?_
  refine j_iload_n G dX11_near_1 rfl ?_
  refine j_callV G mv_X11_88 dX11_near_2 (c_codeAtN k h_1 h_k) (by first | assumption | rfl) (by decide) (by rfl) rfl rfl (by exact Nat.le_of_ble_eq_true rfl) (by decide) (kV ?_)
  first | refine j_astore3 G dX11_near_5 (by decide) rfl ?_ | refine j_astoreN3 G dX11_near_5 (by decide) rfl ?_
  first | refine j_aload_n G dX11_near_6 rfl ?_ | refine j_aload_nN G dX11_near_6 rfl ?_
  refine j_ifnonnullN G dX11_near_7 ?_
  refine j_iconst G dX11_near_10 ?_
  refine j_ireturn G dX11_near_11 ?_
  exact ⟨rfl, rfl⟩
theorem m_near (k z : Int) (f : Int → Int) (h_1 : (-2147483648 ≤ k ∧ k < 2147483648)) (h_z : (-2147483648 ≤ z ∧ z < 2147483648)) (h_f : ∀ l : Nat, l < 26 → 0 ≤ f l ∧ f l ≤ 63) (h_m : 0 ≤ k ∧ k ≤ 4 → ∀ l, 0 ≤ l → l < 26 → μ 1 (26 * k + l) = f l) : CT (EM x) 2 yX12_near [rf (EM x) 0, iv k, iv z] μ (rI (if 0 ≤ k ∧ k ≤ 4 then (if 1 ≤ z ∧ z ≤ 63 then nrS f z.toNat else -2) else -1) μ) := by
  refine CT.ofJ (own := RX12) (cc := cX12_near) (n := 3) (ret := (some .int)) (by decide) rfl cw_X12_near (by decide) (Nat.le_of_ble_eq_true rfl) (ls := [some (rf (EM x) 0), some (iv k), some (iv z)]) rfl ?_
  intro X G
  refine j_iload_n G dX12_near_0 rfl ?_
  refine j_callS G ms_X12_121 dX12_near_1 (m_isCode k h_1) rfl rfl (by exact Nat.le_of_ble_eq_true rfl) (by decide) (kI ?_)
  refine j_if_neB G dX12_near_4 (tgt := 9) (by decide)  (fun c_4 => ?_) (fun c_4 => ?_)
  · rw [if_pos c_4]
    refine j_iload_n G dX12_near_9 rfl ?_
    refine j_i2l G (by omega) dX12_near_10 ?_
    refine j_lconstI G 1 dX12_near_11 (by decide) ?_
    refine j_ldc2I G (63) kl_X12_128 dX12_near_12 (by decide) ?_
    refine j_callS G ms_X12_115 dX12_near_15 (m_in _ _ _ (by omega) (by omega) (by omega)) rfl rfl (by exact Nat.le_of_ble_eq_true rfl) (by decide) (kI ?_)
    refine j_if_eqB G dX12_near_18 (tgt := 30) (by decide)  (fun c_18 => ?_) (fun c_18 => ?_)
    · refine j_bipush G dX12_near_30 (by decide) ?_
      refine j_ireturn G dX12_near_32 ?_
      first
      | exact ⟨rfl, rfl⟩
      | (rw [if_neg c_18]; exact ⟨rfl, rfl⟩)
    · rw [if_pos c_18]
      obtain ⟨w, h_w, rfl⟩ := nat_of (n := 63) (z := z) (by omega)
      obtain ⟨kk, h_kk, rfl⟩ := nat_of (n := 4) c_4
      rw [Int.toNat_natCast]
      first | refine j_aload_n G dX12_near_21 rfl ?_ | refine j_aload_nN G dX12_near_21 rfl ?_
      refine j_iload_n G dX12_near_22 rfl ?_
      refine j_iload_n G dX12_near_23 rfl ?_
      refine j_callV G mv_X12_277 dX12_near_24 (m_nearOf f kk w (by omega) (by omega) h_f (h_m c_4)) (by first | assumption | rfl) (by decide) (by rfl) rfl rfl (by exact Nat.le_of_ble_eq_true rfl) (by decide) (kI ?_)
      refine j_goto G dX12_near_27 (tgt := 32) (by decide) ?_
      refine j_ireturn G dX12_near_32 ?_
      first
      | exact ⟨rfl, rfl⟩
      | (rw [if_neg c_18]; exact ⟨rfl, rfl⟩)
  · refine j_iconst G dX12_near_7 ?_
    refine j_ireturn G dX12_near_8 ?_
    rw [if_neg c_4]; exact ⟨rfl, rfl⟩
theorem op_near (k z : Int) (h_1 : (-2147483648 ≤ k ∧ k < 2147483648)) (h_2 : (-2147483648 ≤ z ∧ z < 2147483648)) : OP x1 x2 yX11_near yX12_near [iv k, iv z] := by
  intro σ μ hw hr
  obtain ⟨w1, w2, w3, w4, w5, w6, w7, w8⟩ := id hw
  obtain ⟨r1, r2, r3, r4, r5, r6, r7, r8⟩ := id hr
  by_cases h_k : 0 ≤ k ∧ k ≤ 4
  · obtain ⟨kk, h_kk, rfl⟩ := nat_of (n := 4) h_k
    have h_f : ∀ l : Nat, l < 26 → 0 ≤ σ (3 + 7 * kk) l ∧ σ (3 + 7 * kk) l ≤ 63 := fun l h_l => (w1 kk (by omega)).1 l (by omega) (by omega)
    have h_m := m_near (x := x2) (μ := μ) kk z (σ (3 + 7 * kk)) h_1 h_2 h_f (fun _ => (r1 kk (by omega)).1)
    have h_k := c_near (x := x1) (σ := σ) kk z (by omega) h_2 h_f
    rw [if_pos (by omega)] at h_m
    exact ⟨_, σ, _, _, (by decide), (by decide), rI_P h_k ⟨rfl, KC.rf _⟩, rI_P h_m ⟨rfl, hr⟩, hw⟩
  · have h_k := c_nearN (x := x1) (σ := σ) k z h_1 h_k
    have h_m := m_near (x := x2) (μ := μ) k z (fun _ => 0) h_1 h_2 (fun _ _ => by omega) (fun h => absurd h (by assumption))
    rw [if_neg (by assumption)] at h_m
    exact ⟨_, σ, _, _, (by decide), (by decide), rI_P h_k ⟨rfl, KC.rf _⟩, rI_P h_m ⟨rfl, hr⟩, hw⟩
end NR2
