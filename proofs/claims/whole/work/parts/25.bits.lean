/-! bits of numbers that aren't negative -/
theorem ofI_nat (a : Nat) : Int32.ofInt (a : Int) = nI a := Int32.ofInt_eq_ofNat
theorem nI_toInt2 {a : Nat} (h : a < 2147483648) : (nI a).toInt = (a : Int) := nI_toInt (by omega)
theorem qb_and (a b : Nat) : nI a &&& nI b = nI (a &&& b) := by
  apply Int32.toBitVec_inj.1
  show BitVec.ofNat 32 a &&& BitVec.ofNat 32 b = BitVec.ofNat 32 (a &&& b)
  apply BitVec.eq_of_getLsbD_eq
  intro i hi
  simp [hi]
theorem qb_or (a b : Nat) : nI a ||| nI b = nI (a ||| b) := by
  apply Int32.toBitVec_inj.1
  show BitVec.ofNat 32 a ||| BitVec.ofNat 32 b = BitVec.ofNat 32 (a ||| b)
  apply BitVec.eq_of_getLsbD_eq
  intro i hi
  simp [hi]
theorem qb_xor (a b : Nat) : nI a ^^^ nI b = nI (a ^^^ b) := by
  apply Int32.toBitVec_inj.1
  show BitVec.ofNat 32 a ^^^ BitVec.ofNat 32 b = BitVec.ofNat 32 (a ^^^ b)
  apply BitVec.eq_of_getLsbD_eq
  intro i hi
  simp [hi]
theorem qb_sm : ∀ k, k < 32 → ((nI k &&& 31).toBitVec.smod 32).toNat = k := by decide +kernel
theorem and32_nat {a b : Nat} (ha : a < 2147483648) : and32 a b = ((a &&& b : Nat) : Int) := by
  have h_1 : a &&& b ≤ a := Nat.and_le_left
  unfold and32
  rw [ofI_nat, ofI_nat, qb_and, nI_toInt2 (by omega)]
theorem or32_nat {a b : Nat} (ha : a < 2147483648) (hb : b < 2147483648) : or32 a b = ((a ||| b : Nat) : Int) := by
  have h_1 : a ||| b < 2 ^ 31 := Nat.or_lt_two_pow (by omega) (by omega)
  unfold or32
  rw [ofI_nat, ofI_nat, qb_or, nI_toInt2 (by omega)]
theorem xor32_nat {a b : Nat} (ha : a < 2147483648) (hb : b < 2147483648) : xor32 a b = ((a ^^^ b : Nat) : Int) := by
  have h_1 : a ^^^ b < 2 ^ 31 := Nat.xor_lt_two_pow (by omega) (by omega)
  unfold xor32
  rw [ofI_nat, ofI_nat, qb_xor, nI_toInt2 (by omega)]
theorem shl32_one : ∀ k : Nat, k < 31 → shl32 1 k = ((2 ^ k : Nat) : Int) := by decide +kernel
theorem shr32_nat {a k : Nat} (ha : a < 2147483648) (hk : k < 32) : shr32 a k = ((a / 2 ^ k : Nat) : Int) := by
  have h_1 : a / 2 ^ k ≤ a := Nat.div_le_self _ _
  unfold shr32
  rw [ofI_nat, ofI_nat, pk_shrN (by omega) _ k (qb_sm k hk), nI_toInt2 (by omega)]
theorem bit32 {a k : Nat} (ha : a < 2147483648) (hk : k < 32) : and32 (shr32 a k) 1 = b2 (a.testBit k = true) := by
  have h_1 : a / 2 ^ k ≤ a := Nat.div_le_self _ _
  rw [shr32_nat ha hk, show (1 : Int) = ((1 : Nat) : Int) from rfl, and32_nat (by omega), Nat.and_one_is_mod]
  unfold b2
  rw [Nat.testBit_eq_decide_div_mod_eq]
  have h_2 : a / 2 ^ k % 2 = 0 ∨ a / 2 ^ k % 2 = 1 := by omega
  rcases h_2 with h_3 | h_3 <;> rw [h_3] <;> simp
/-- how many of the first n bits are set -/
def popN (a : Nat) : Nat → Nat
  | 0 => 0
  | n + 1 => popN a n + (if a.testBit n then 1 else 0)
def pop (a : Nat) : Nat := popN a 12
theorem popN_le (a : Nat) : ∀ n, popN a n ≤ n
  | 0 => Nat.le_refl _
  | n + 1 => by
    have := popN_le a n
    unfold popN
    split <;> omega
theorem popN_zero {a : Nat} : ∀ n, (∀ k, k < n → a.testBit k = false) → popN a n = 0
  | 0, _ => rfl
  | n + 1, h => by
    unfold popN
    rw [popN_zero n (fun k hk => h k (by omega)), h n (by omega)]
    rfl
theorem popN_more {a : Nat} (m : Nat) : ∀ n, (∀ k, m ≤ k → a.testBit k = false) → m ≤ n → popN a n = popN a m
  | 0, h, h_m => by rw [show m = 0 by omega]
  | n + 1, h, h_m => by
    by_cases h_e : m = n + 1
    · rw [h_e]
    · rw [show popN a (n + 1) = popN a n + (if a.testBit n then 1 else 0) from rfl, popN_more m n h (by omega), h n (by omega)]
      simp
theorem testBit_big {a m : Nat} (h : a < 2 ^ m) (k : Nat) (hk : m ≤ k) : a.testBit k = false := Nat.testBit_lt_two_pow (Nat.lt_of_lt_of_le h (Nat.pow_le_pow_right (by decide) hk))
def ush32 (x y : Int) : Int := (((Int32.ofInt x).toUInt32 >>> ((Int32.ofInt y).toUInt32 &&& Int32.toUInt32 31)).toInt32).toInt
/-- what Integer.bitCount does -/
def bcF (z : Int) : Int :=
  let a := z - and32 (ush32 z 1) 1431655765
  let b := and32 a 858993459 + and32 (ush32 a 2) 858993459
  let e := and32 (b + ush32 b 4) 252645135
  let f := e + ush32 e 8
  let g := f + ush32 f 16
  and32 g 63
theorem bcF_pop2 : ∀ u : Nat, u < 64 → ∀ v : Nat, v < 64 → bcF ((64 * u + v : Nat) : Int) = (pop (64 * u + v) : Int) := by decide +kernel
theorem bcF_pop (a : Nat) (h : a < 4096) : bcF a = (pop a : Int) := by
  have h_1 := bcF_pop2 (a / 64) (by omega) (a % 64) (by omega)
  rw [show 64 * (a / 64) + a % 64 = a by omega] at h_1
  exact h_1
section BC
variable {E : EE} {μ : MemT}
theorem x_bitCount (z : Int) : CT E 0 yJ6_bitCount_0f7a4 [iv z] μ (rI (bcF z) μ) := by
  refine CT.ofJ (own := RJ6) (cc := cJ6_bitCount_0f7a4) (n := 1) (ret := (some .int)) (by decide) rfl cw_J6_bitCount_0f7a4 (by decide) (Nat.le_of_ble_eq_true rfl) (ls := [some (iv z)]) rfl ?_
  intro X G
  refine j_iload_n G dJ6_bitCount_0f7a4_0 rfl ?_
  refine j_iload_n G dJ6_bitCount_0f7a4_1 rfl ?_
  refine j_iconst G dJ6_bitCount_0f7a4_2 ?_
  refine j_iushr G dJ6_bitCount_0f7a4_3 ?_
  refine j_ldcw G kc_J6_265 dJ6_bitCount_0f7a4_4 (z := 1431655765) (by decide) ?_
  refine j_iand G dJ6_bitCount_0f7a4_7 ?_
  refine j_isub G dJ6_bitCount_0f7a4_8 ?_
  refine j_istore0 G dJ6_bitCount_0f7a4_9 (by decide) rfl ?_
  refine j_iload_n G dJ6_bitCount_0f7a4_10 rfl ?_
  refine j_ldcw G kc_J6_266 dJ6_bitCount_0f7a4_11 (z := 858993459) (by decide) ?_
  refine j_iand G dJ6_bitCount_0f7a4_14 ?_
  refine j_pc (p2 := 15) rfl ?_
  refine j_iload_n G dJ6_bitCount_0f7a4_15 rfl ?_
  refine j_iconst G dJ6_bitCount_0f7a4_16 ?_
  refine j_iushr G dJ6_bitCount_0f7a4_17 ?_
  refine j_ldcw G kc_J6_266 dJ6_bitCount_0f7a4_18 (z := 858993459) (by decide) ?_
  refine j_iand G dJ6_bitCount_0f7a4_21 ?_
  refine j_iadd G dJ6_bitCount_0f7a4_22 ?_
  refine j_istore0 G dJ6_bitCount_0f7a4_23 (by decide) rfl ?_
  refine j_iload_n G dJ6_bitCount_0f7a4_24 rfl ?_
  refine j_iload_n G dJ6_bitCount_0f7a4_25 rfl ?_
  refine j_iconst G dJ6_bitCount_0f7a4_26 ?_
  refine j_iushr G dJ6_bitCount_0f7a4_27 ?_
  refine j_iadd G dJ6_bitCount_0f7a4_28 ?_
  refine j_pc (p2 := 29) rfl ?_
  refine j_ldcw G kc_J6_267 dJ6_bitCount_0f7a4_29 (z := 252645135) (by decide) ?_
  refine j_iand G dJ6_bitCount_0f7a4_32 ?_
  refine j_istore0 G dJ6_bitCount_0f7a4_33 (by decide) rfl ?_
  refine j_iload_n G dJ6_bitCount_0f7a4_34 rfl ?_
  refine j_iload_n G dJ6_bitCount_0f7a4_35 rfl ?_
  refine j_bipush G dJ6_bitCount_0f7a4_36 (by decide) ?_
  refine j_iushr G dJ6_bitCount_0f7a4_38 ?_
  refine j_iadd G dJ6_bitCount_0f7a4_39 ?_
  refine j_istore0 G dJ6_bitCount_0f7a4_40 (by decide) rfl ?_
  refine j_iload_n G dJ6_bitCount_0f7a4_41 rfl ?_
  refine j_iload_n G dJ6_bitCount_0f7a4_42 rfl ?_
  refine j_bipush G dJ6_bitCount_0f7a4_43 (by decide) ?_
  refine j_pc (p2 := 45) rfl ?_
  refine j_iushr G dJ6_bitCount_0f7a4_45 ?_
  refine j_iadd G dJ6_bitCount_0f7a4_46 ?_
  refine j_istore0 G dJ6_bitCount_0f7a4_47 (by decide) rfl ?_
  refine j_iload_n G dJ6_bitCount_0f7a4_48 rfl ?_
  refine j_bipush G dJ6_bitCount_0f7a4_49 (by decide) ?_
  refine j_iand G dJ6_bitCount_0f7a4_51 ?_
  refine j_ireturn G dJ6_bitCount_0f7a4_52 ?_
  exact ⟨rfl, rfl⟩
end BC
