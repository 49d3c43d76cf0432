theorem stp_rg (q g : Int) (h : 0 ≤ q ∧ q ≤ 5) : -1 ≤ stp q g ∧ stp q g ≤ 5 := by
  unfold stp
  repeat' split
  all_goals omega
theorem rst_s (f : Int → Int) (n : Nat) : rst f (n + 1) = if rst f n < 0 then rst f n else stp (rst f n) (f n) := rfl
theorem rst_rg (f : Int → Int) : ∀ n, -1 ≤ rst f n ∧ rst f n ≤ 5
  | 0 => by simp [rst]
  | n + 1 => by
    have h_1 := rst_rg f n
    rw [rst_s]
    split
    · omega
    · exact stp_rg _ _ (by omega)
theorem rst_cg {f g : Int → Int} : ∀ n : Nat, (∀ i : Nat, i < n → f i = g i) → rst f n = rst g n
  | 0, _ => rfl
  | n + 1, h => by rw [rst_s, rst_s, rst_cg n (fun i hi => h i (by omega)), h n (by omega)]
/-- the fault of n signs, from the i-th on, k of them left -/
def flt (f : Int → Int) (n : Nat) : Nat → Nat → Int
  | 0, i => if 2 < rst f i then -6 else n
  | k + 1, i => if stp (rst f i) (f i) < 0 then i else flt f n k (i + 1)
theorem flt_0 (f : Int → Int) (n i : Nat) : flt f n 0 i = if 2 < rst f i then (-6 : Int) else (n : Int) := rfl
theorem flt_s (f : Int → Int) (n k i : Nat) : flt f n (k + 1) i = if stp (rst f i) (f i) < 0 then (i : Int) else flt f n k (i + 1) := rfl
theorem flt_cg {f g : Int → Int} {n : Nat} : ∀ k i, i + k = n → (∀ j : Nat, j < n → f j = g j) → flt f n k i = flt g n k i
  | 0, i, h, hf => by unfold flt; rw [rst_cg i (fun j hj => hf j (by omega))]
  | k + 1, i, h, hf => by
    unfold flt
    rw [rst_cg i (fun j hj => hf j (by omega)), hf i (by omega), flt_cg k (i + 1) (by omega) hf]
theorem flt_rg {f : Int → Int} {n : Nat} : ∀ k i, i + k = n → flt f n k i = -6 ∨ (0 ≤ flt f n k i ∧ flt f n k i ≤ n)
  | 0, i, h => by unfold flt; split <;> omega
  | k + 1, i, h => by
    unfold flt
    split
    · omega
    · exact flt_rg k (i + 1) (by omega)
theorem flt_ok {f : Int → Int} {n : Nat} : ∀ k i, i + k = n → 0 ≤ rst f i → flt f n k i = -6 → 2 < rst f n
  | 0, i, h, h0, h1 => by
    unfold flt at h1
    by_cases h_c : 2 < rst f i
    · rw [← show i = n by omega]; exact h_c
    · rw [if_neg h_c] at h1; omega
  | k + 1, i, h, h0, h1 => by
    unfold flt at h1
    by_cases h_c : stp (rst f i) (f i) < 0
    · rw [if_pos h_c] at h1; omega
    · rw [if_neg h_c] at h1
      exact flt_ok k (i + 1) (by omega) (by rw [rst_s, if_neg (by omega)]; omega) h1
section FA
variable {E : EE} {x x1 x2 : CX} {μ σ : MemT}
theorem x_isSubject (g : Int) (h_g : (-2147483648 ≤ g ∧ g < 2147483648)) : CT E 0 yX7_isSubject [iv g] μ (rI (b2 (g = 97 ∨ g = 121 ∨ g = 107 ∨ g = 115)) μ) := by
  refine CT.ofJ (own := RX7) (cc := cX7_isSubject) (n := 1) (ret := (some .boolean)) (by decide) rfl cw_X7_isSubject (by decide) (Nat.le_of_ble_eq_true rfl) (ls := [some (iv g)]) rfl ?_
  intro X G
  refine j_iload_n G dX7_isSubject_0 rfl ?_
  refine j_bipush G dX7_isSubject_1 (by decide) ?_
  refine j_icmp_eq G dX7_isSubject_3 (tgt := 24) (by decide) (by omega) (by omega) (fun c_3 => ?_) (fun c_3 => ?_)
  · refine j_iconst G dX7_isSubject_24 ?_
    refine j_goto G dX7_isSubject_25 (tgt := 29) (by decide) ?_
    refine j_zreturn G dX7_isSubject_29 (by first | exact b2_01 _ | omega) ?_
    exact ⟨by unfold b2; split <;> first | rfl | omega, rfl⟩
  · refine j_iload_n G dX7_isSubject_6 rfl ?_
    refine j_bipush G dX7_isSubject_7 (by decide) ?_
    refine j_icmp_eq G dX7_isSubject_9 (tgt := 24) (by decide) (by omega) (by omega) (fun c_9 => ?_) (fun c_9 => ?_)
    · refine j_iconst G dX7_isSubject_24 ?_
      refine j_goto G dX7_isSubject_25 (tgt := 29) (by decide) ?_
      refine j_zreturn G dX7_isSubject_29 (by first | exact b2_01 _ | omega) ?_
      exact ⟨by unfold b2; split <;> first | rfl | omega, rfl⟩
    · refine j_iload_n G dX7_isSubject_12 rfl ?_
      refine j_bipush G dX7_isSubject_13 (by decide) ?_
      refine j_icmp_eq G dX7_isSubject_15 (tgt := 24) (by decide) (by omega) (by omega) (fun c_15 => ?_) (fun c_15 => ?_)
      · refine j_iconst G dX7_isSubject_24 ?_
        refine j_goto G dX7_isSubject_25 (tgt := 29) (by decide) ?_
        refine j_zreturn G dX7_isSubject_29 (by first | exact b2_01 _ | omega) ?_
        exact ⟨by unfold b2; split <;> first | rfl | omega, rfl⟩
      · refine j_iload_n G dX7_isSubject_18 rfl ?_
        refine j_bipush G dX7_isSubject_19 (by decide) ?_
        refine j_icmp_ne G dX7_isSubject_21 (tgt := 28) (by decide) (by omega) (by omega) (fun c_21 => ?_) (fun c_21 => ?_)
        · refine j_iconst G dX7_isSubject_28 ?_
          refine j_zreturn G dX7_isSubject_29 (by first | exact b2_01 _ | omega) ?_
          exact ⟨by unfold b2; split <;> first | rfl | omega, rfl⟩
        · refine j_iconst G dX7_isSubject_24 ?_
          refine j_goto G dX7_isSubject_25 (tgt := 29) (by decide) ?_
          refine j_zreturn G dX7_isSubject_29 (by first | exact b2_01 _ | omega) ?_
          exact ⟨by unfold b2; split <;> first | rfl | omega, rfl⟩
theorem x_isComparison (g : Int) (h_g : (-2147483648 ≤ g ∧ g < 2147483648)) : CT E 0 yX7_isComparison [iv g] μ (rI (b2 (g = 60 ∨ g = 62 ∨ g = 61)) μ) := by
  refine CT.ofJ (own := RX7) (cc := cX7_isComparison) (n := 1) (ret := (some .boolean)) (by decide) rfl cw_X7_isComparison (by decide) (Nat.le_of_ble_eq_true rfl) (ls := [some (iv g)]) rfl ?_
  intro X G
  refine j_iload_n G dX7_isComparison_0 rfl ?_
  refine j_bipush G dX7_isComparison_1 (by decide) ?_
  refine j_icmp_eq G dX7_isComparison_3 (tgt := 18) (by decide) (by omega) (by omega) (fun c_3 => ?_) (fun c_3 => ?_)
  · refine j_iconst G dX7_isComparison_18 ?_
    refine j_goto G dX7_isComparison_19 (tgt := 23) (by decide) ?_
    refine j_zreturn G dX7_isComparison_23 (by first | exact b2_01 _ | omega) ?_
    exact ⟨by unfold b2; split <;> first | rfl | omega, rfl⟩
  · refine j_iload_n G dX7_isComparison_6 rfl ?_
    refine j_bipush G dX7_isComparison_7 (by decide) ?_
    refine j_icmp_eq G dX7_isComparison_9 (tgt := 18) (by decide) (by omega) (by omega) (fun c_9 => ?_) (fun c_9 => ?_)
    · refine j_iconst G dX7_isComparison_18 ?_
      refine j_goto G dX7_isComparison_19 (tgt := 23) (by decide) ?_
      refine j_zreturn G dX7_isComparison_23 (by first | exact b2_01 _ | omega) ?_
      exact ⟨by unfold b2; split <;> first | rfl | omega, rfl⟩
    · refine j_iload_n G dX7_isComparison_12 rfl ?_
      refine j_bipush G dX7_isComparison_13 (by decide) ?_
      refine j_icmp_ne G dX7_isComparison_15 (tgt := 22) (by decide) (by omega) (by omega) (fun c_15 => ?_) (fun c_15 => ?_)
      · refine j_iconst G dX7_isComparison_22 ?_
        refine j_zreturn G dX7_isComparison_23 (by first | exact b2_01 _ | omega) ?_
        exact ⟨by unfold b2; split <;> first | rfl | omega, rfl⟩
      · refine j_iconst G dX7_isComparison_18 ?_
        refine j_goto G dX7_isComparison_19 (tgt := 23) (by decide) ?_
        refine j_zreturn G dX7_isComparison_23 (by first | exact b2_01 _ | omega) ?_
        exact ⟨by unfold b2; split <;> first | rfl | omega, rfl⟩
theorem x_isDigit (g : Int) (h_g : (-2147483648 ≤ g ∧ g < 2147483648)) : CT E 0 yX7_isDigit [iv g] μ (rI (b2 (48 ≤ g ∧ g ≤ 57)) μ) := by
  refine CT.ofJ (own := RX7) (cc := cX7_isDigit) (n := 1) (ret := (some .boolean)) (by decide) rfl cw_X7_isDigit (by decide) (Nat.le_of_ble_eq_true rfl) (ls := [some (iv g)]) rfl ?_
  intro X G
  refine j_iload_n G dX7_isDigit_0 rfl ?_
  refine j_bipush G dX7_isDigit_1 (by decide) ?_
  refine j_icmp_lt G dX7_isDigit_3 (tgt := 16) (by decide) (by omega) (by omega) (fun c_3 => ?_) (fun c_3 => ?_)
  · refine j_iconst G dX7_isDigit_16 ?_
    refine j_zreturn G dX7_isDigit_17 (by first | exact b2_01 _ | omega) ?_
    exact ⟨by unfold b2; split <;> first | rfl | omega, rfl⟩
  · refine j_iload_n G dX7_isDigit_6 rfl ?_
    refine j_bipush G dX7_isDigit_7 (by decide) ?_
    refine j_icmp_gt G dX7_isDigit_9 (tgt := 16) (by decide) (by omega) (by omega) (fun c_9 => ?_) (fun c_9 => ?_)
    · refine j_iconst G dX7_isDigit_16 ?_
      refine j_zreturn G dX7_isDigit_17 (by first | exact b2_01 _ | omega) ?_
      exact ⟨by unfold b2; split <;> first | rfl | omega, rfl⟩
    · refine j_iconst G dX7_isDigit_12 ?_
      refine j_goto G dX7_isDigit_13 (tgt := 17) (by decide) ?_
      refine j_zreturn G dX7_isDigit_17 (by first | exact b2_01 _ | omega) ?_
      exact ⟨by unfold b2; split <;> first | rfl | omega, rfl⟩
theorem x_isJoint (g : Int) (h_g : (-2147483648 ≤ g ∧ g < 2147483648)) : CT E 0 yX7_isJoint [iv g] μ (rI (b2 (g = 38 ∨ g = 124)) μ) := by
  refine CT.ofJ (own := RX7) (cc := cX7_isJoint) (n := 1) (ret := (some .boolean)) (by decide) rfl cw_X7_isJoint (by decide) (Nat.le_of_ble_eq_true rfl) (ls := [some (iv g)]) rfl ?_
  intro X G
  refine j_iload_n G dX7_isJoint_0 rfl ?_
  refine j_bipush G dX7_isJoint_1 (by decide) ?_
  refine j_icmp_eq G dX7_isJoint_3 (tgt := 12) (by decide) (by omega) (by omega) (fun c_3 => ?_) (fun c_3 => ?_)
  · refine j_iconst G dX7_isJoint_12 ?_
    refine j_goto G dX7_isJoint_13 (tgt := 17) (by decide) ?_
    refine j_zreturn G dX7_isJoint_17 (by first | exact b2_01 _ | omega) ?_
    exact ⟨by unfold b2; split <;> first | rfl | omega, rfl⟩
  · refine j_iload_n G dX7_isJoint_6 rfl ?_
    refine j_bipush G dX7_isJoint_7 (by decide) ?_
    refine j_icmp_ne G dX7_isJoint_9 (tgt := 16) (by decide) (by omega) (by omega) (fun c_9 => ?_) (fun c_9 => ?_)
    · refine j_iconst G dX7_isJoint_16 ?_
      refine j_zreturn G dX7_isJoint_17 (by first | exact b2_01 _ | omega) ?_
      exact ⟨by unfold b2; split <;> first | rfl | omega, rfl⟩
    · refine j_iconst G dX7_isJoint_12 ?_
      refine j_goto G dX7_isJoint_13 (tgt := 17) (by decide) ?_
      refine j_zreturn G dX7_isJoint_17 (by first | exact b2_01 _ | omega) ?_
      exact ⟨by unfold b2; split <;> first | rfl | omega, rfl⟩
theorem x_stateAfter (q g : Int) (h_q : 0 ≤ q ∧ q ≤ 5) (h_g : (-2147483648 ≤ g ∧ g < 2147483648)) : CT E 1 yX7_stateAfter [iv q, iv g] μ (rI (if stp q g < 0 then -6 else stp q g) μ) := by
  refine CT.ofJ (own := RX7) (cc := cX7_stateAfter) (n := 2) (ret := (some .int)) (by decide) rfl cw_X7_stateAfter (by decide) (Nat.le_of_ble_eq_true rfl) (ls := [some (iv q), some (iv g)]) rfl ?_
  intro X G
  unfold stp
  refine j_iload_n G dX7_stateAfter_0 rfl ?_
  refine j_if_ne G dX7_stateAfter_1 (tgt := 18) (by decide) (by omega) (fun c_1 => ?_) (fun c_1 => ?_)
  · refine j_iload_n G dX7_stateAfter_18 rfl ?_
    refine j_iconst G dX7_stateAfter_19 ?_
    refine j_icmp_ne G dX7_stateAfter_20 (tgt := 37) (by decide) (by omega) (by omega) (fun c_20 => ?_) (fun c_20 => ?_)
    · refine j_iload_n G dX7_stateAfter_37 rfl ?_
      refine j_callS G ms_X7_32 dX7_stateAfter_38 (x_isDigit g h_g) rfl rfl (by exact Nat.le_of_ble_eq_true rfl) (by decide) (kI ?_)
      refine j_if_eqB G dX7_stateAfter_41 (tgt := 58) (by decide)  (fun c_41 => ?_) (fun c_41 => ?_)
      · refine j_iload_n G dX7_stateAfter_58 rfl ?_
        refine j_iconst G dX7_stateAfter_59 ?_
        refine j_icmp_lt G dX7_stateAfter_60 (tgt := 74) (by decide) (by omega) (by omega) (fun c_60 => ?_) (fun c_60 => ?_)
        · refine j_bipush G dX7_stateAfter_74 (by decide) ?_
          refine j_ireturn G dX7_stateAfter_76 ?_
          exact ⟨congrArg (fun z => some (iv z)) (by repeat' split <;> first | rfl | omega), rfl⟩
        · refine j_iload_n G dX7_stateAfter_63 rfl ?_
          refine j_callS G ms_X7_35 dX7_stateAfter_64 (x_isJoint g h_g) rfl rfl (by exact Nat.le_of_ble_eq_true rfl) (by decide) (kI ?_)
          refine j_if_eqB G dX7_stateAfter_67 (tgt := 74) (by decide)  (fun c_67 => ?_) (fun c_67 => ?_)
          · refine j_bipush G dX7_stateAfter_74 (by decide) ?_
            refine j_ireturn G dX7_stateAfter_76 ?_
            exact ⟨congrArg (fun z => some (iv z)) (by repeat' split <;> first | rfl | omega), rfl⟩
          · refine j_iconst G dX7_stateAfter_70 ?_
            refine j_goto G dX7_stateAfter_71 (tgt := 76) (by decide) ?_
            refine j_ireturn G dX7_stateAfter_76 ?_
            exact ⟨congrArg (fun z => some (iv z)) (by repeat' split <;> first | rfl | omega), rfl⟩
      · refine j_iload_n G dX7_stateAfter_44 rfl ?_
        refine j_iconst G dX7_stateAfter_45 ?_
        refine j_icmp_ge G dX7_stateAfter_46 (tgt := 55) (by decide) (by omega) (by omega) (fun c_46 => ?_) (fun c_46 => ?_)
        · refine j_bipush G dX7_stateAfter_55 (by decide) ?_
          refine j_ireturn G dX7_stateAfter_57 ?_
          exact ⟨congrArg (fun z => some (iv z)) (by repeat' split <;> first | rfl | omega), rfl⟩
        · refine j_iload_n G dX7_stateAfter_49 rfl ?_
          refine j_iconst G dX7_stateAfter_50 ?_
          refine j_iadd G dX7_stateAfter_51 ?_
          refine j_goto G dX7_stateAfter_52 (tgt := 57) (by decide) ?_
          refine j_ireturn G dX7_stateAfter_57 ?_
          exact ⟨congrArg (fun z => some (iv z)) (by repeat' split <;> first | rfl | omega), rfl⟩
    · refine j_iload_n G dX7_stateAfter_23 rfl ?_
      refine j_callS G ms_X7_29 dX7_stateAfter_24 (x_isComparison g h_g) rfl rfl (by exact Nat.le_of_ble_eq_true rfl) (by decide) (kI ?_)
      refine j_if_eqB G dX7_stateAfter_27 (tgt := 34) (by decide)  (fun c_27 => ?_) (fun c_27 => ?_)
      · refine j_bipush G dX7_stateAfter_34 (by decide) ?_
        refine j_ireturn G dX7_stateAfter_36 ?_
        exact ⟨congrArg (fun z => some (iv z)) (by repeat' split <;> first | rfl | omega), rfl⟩
      · refine j_iconst G dX7_stateAfter_30 ?_
        refine j_goto G dX7_stateAfter_31 (tgt := 36) (by decide) ?_
        refine j_ireturn G dX7_stateAfter_36 ?_
        exact ⟨congrArg (fun z => some (iv z)) (by repeat' split <;> first | rfl | omega), rfl⟩
  · refine j_iload_n G dX7_stateAfter_4 rfl ?_
    refine j_callS G ms_X7_25 dX7_stateAfter_5 (x_isSubject g h_g) rfl rfl (by exact Nat.le_of_ble_eq_true rfl) (by decide) (kI ?_)
    refine j_if_eqB G dX7_stateAfter_8 (tgt := 15) (by decide)  (fun c_8 => ?_) (fun c_8 => ?_)
    · refine j_bipush G dX7_stateAfter_15 (by decide) ?_
      refine j_ireturn G dX7_stateAfter_17 ?_
      exact ⟨congrArg (fun z => some (iv z)) (by repeat' split <;> first | rfl | omega), rfl⟩
    · refine j_iconst G dX7_stateAfter_11 ?_
      refine j_goto G dX7_stateAfter_12 (tgt := 17) (by decide) ?_
      refine j_ireturn G dX7_stateAfter_17 ?_
      exact ⟨congrArg (fun z => some (iv z)) (by repeat' split <;> first | rfl | omega), rfl⟩
theorem x_faultOf (k q nn : Nat) (h_p : (eY E)[k]? = some (5, 2, [some q, none])) (h_q : (eY E)[q]? = some (20, nn, [])) (h_nn : nn < 5000) (n : Nat) (h_n : μ k 1 = n) (h_le : n ≤ nn) : CT E 2 yX7_faultOf [rf E k] μ (rI (flt (μ q) n n 0) μ) := by
  refine CT.ofJ (own := RX7) (cc := cX7_faultOf) (n := 3) (ret := (some .int)) (by decide) rfl cw_X7_faultOf (by decide) (Nat.le_of_ble_eq_true rfl) (ls := [some (rf E k), none, none]) rfl ?_
  intro X G
  refine j_iconst G dX7_faultOf_0 ?_
  refine j_istore1 G dX7_faultOf_1 (by decide) rfl ?_
  refine j_iconst G dX7_faultOf_2 ?_
  refine j_istore2 G dX7_faultOf_3 (by decide) rfl ?_
  refine j_pc (p2 := 4) rfl ?_
  refine down (Pr := fun i => 0 ≤ rst (μ q) i → flt (μ q) n n 0 = flt (μ q) n (n - i) i → JJ E X 2 (rI (flt (μ q) n n 0) μ) 3 4 [some (rf E k), some (iv (rst (μ q) i)), some (iv i)] [] μ) n ?_ 0 (Nat.zero_le _) (by simp [rst]) rfl
  intro i h_i ih h_r h_f
  have h_rr := rst_rg (μ q) i
  refine j_iload_n G dX7_faultOf_4 rfl ?_
  first | refine j_aload_n G dX7_faultOf_5 rfl ?_ | refine j_aload_nN G dX7_faultOf_5 rfl ?_
  refine j_geti G fl_X7_11 dX7_faultOf_6 1 rfl (by first | assumption | rfl) (by rfl) (fun r_6 => ?_)
  try simp (disch := omega) only [up_same, up_cell, up_idx, cpm_at, fil_at] at r_6 ⊢
  refine j_icmp_ge G dX7_faultOf_9 (tgt := 36) (by decide) (by omega) (by omega) (fun c_9 => ?_) (fun c_9 => ?_)
  · refine j_iload_n G dX7_faultOf_36 rfl ?_
    refine j_iconst G dX7_faultOf_37 ?_
    refine j_icmp_lt G dX7_faultOf_38 (tgt := 46) (by decide) (by omega) (by omega) (fun c_38 => ?_) (fun c_38 => ?_)
    · first | refine j_aload_n G dX7_faultOf_46 rfl ?_ | refine j_aload_nN G dX7_faultOf_46 rfl ?_
      refine j_geti G fl_X7_11 dX7_faultOf_47 1 rfl (by first | assumption | rfl) (by rfl) (fun r_47 => ?_)
      try simp (disch := omega) only [up_same, up_cell, up_idx, cpm_at, fil_at] at r_47 ⊢
      refine j_ireturn G dX7_faultOf_50 ?_
      obtain rfl : i = n := by omega
      rw [show i - i = 0 by omega, flt_0] at h_f
      refine ⟨?_, rfl⟩
      rw [h_f]
      first | rw [if_pos (by omega)] | (rw [if_neg (by omega), h_n])
    · refine j_bipush G dX7_faultOf_41 (by decide) ?_
      refine j_goto G dX7_faultOf_43 (tgt := 50) (by decide) ?_
      refine j_ireturn G dX7_faultOf_50 ?_
      obtain rfl : i = n := by omega
      rw [show i - i = 0 by omega, flt_0] at h_f
      refine ⟨?_, rfl⟩
      rw [h_f]
      first | rw [if_pos (by omega)] | (rw [if_neg (by omega), h_n])
  · refine j_iload_n G dX7_faultOf_12 rfl ?_
    first | refine j_aload_n G dX7_faultOf_13 rfl ?_ | refine j_aload_nN G dX7_faultOf_13 rfl ?_
    refine j_iload_n G dX7_faultOf_14 rfl ?_
    refine j_callV G mv_X7_17 dX7_faultOf_15 (p_at k q nn i (by omega) h_p h_q h_nn (by omega)) (by first | assumption | rfl) (by decide) (by rfl) rfl rfl (by exact Nat.le_of_ble_eq_true rfl) (by decide) (kI ?_)
    rw [if_pos (by omega)]
    refine j_ok (fun h_ok => ?_)
    have h_gi := h_ok q i (fun _ _ z => by rw [h_q] at z; cases z)
    have h_st := stp_rg (rst (μ q) i) (μ q i) (by omega)
    rw [show n - i = (n - (i + 1)) + 1 by omega, flt_s] at h_f
    refine j_callS G ms_X7_21 dX7_faultOf_18 (x_stateAfter _ _ (by omega) h_gi) rfl rfl (by exact Nat.le_of_ble_eq_true rfl) (by decide) (kI ?_)
    refine j_istore1 G dX7_faultOf_21 (by decide) rfl ?_
    refine j_iload_n G dX7_faultOf_22 rfl ?_
    refine j_bipush G dX7_faultOf_23 (by decide) ?_
    refine j_icmp_ne G dX7_faultOf_25 (tgt := 30) (by decide) (by split <;> omega) (by omega) (fun c_25 => ?_) (fun c_25 => ?_)
    · refine j_iinc2 G dX7_faultOf_30 (by decide) rfl rfl ?_
      refine j_goto G dX7_faultOf_33 (tgt := 4) (by decide) ?_
      refine j_pc (p2 := 4) rfl ?_
      by_cases h_c : stp (rst (μ q) i) (μ q i) < 0
      · rw [if_pos h_c] at c_25
        omega
      · rw [if_neg h_c] at h_f ⊢
        have h_z := ih (by omega)
        rw [rst_s, if_neg (by omega)] at h_z
        exact h_z (by omega) h_f
    · refine j_iload_n G dX7_faultOf_28 rfl ?_
      refine j_ireturn G dX7_faultOf_29 ?_
      by_cases h_c : stp (rst (μ q) i) (μ q i) < 0
      · rw [if_pos h_c] at h_f
        exact ⟨by rw [← h_f], rfl⟩
      · rw [if_neg h_c] at c_25
        omega
theorem m_isDigit (z : Int) (h_z : (-2147483648 ≤ z ∧ z < 2147483648)) : CT (EM x) 1 yX12_isDigit [iv z] μ (rI (b2 (48 ≤ z ∧ z ≤ 57)) μ) := by
  refine CT.ofJ (own := RX12) (cc := cX12_isDigit) (n := 1) (ret := (some .boolean)) (by decide) rfl cw_X12_isDigit (by decide) (Nat.le_of_ble_eq_true rfl) (ls := [some (iv z)]) rfl ?_
  intro X G
  refine j_iload_n G dX12_isDigit_0 rfl ?_
  refine j_i2l G (by omega) dX12_isDigit_1 ?_
  refine j_ldc2I G (48) kl_X12_316 dX12_isDigit_2 (by decide) ?_
  refine j_ldc2I G (57) kl_X12_318 dX12_isDigit_5 (by decide) ?_
  refine j_callS G ms_X12_115 dX12_isDigit_8 (m_in _ _ _ (by omega) (by omega) (by omega)) rfl rfl (by exact Nat.le_of_ble_eq_true rfl) (by decide) (kI ?_)
  refine j_zreturn G dX12_isDigit_11 (by first | exact b2_01 _ | omega) ?_
  exact ⟨rfl, rfl⟩
theorem m_stepOf (q g : Int) (h_q : 0 ≤ q ∧ q ≤ 5) (h_g : (-2147483648 ≤ g ∧ g < 2147483648)) : CT (EM x) 2 yX12_stepOf [iv q, iv g] μ (rI (stp q g) μ) := by
  refine CT.ofJ (own := RX12) (cc := cX12_stepOf) (n := 2) (ret := (some .int)) (by decide) rfl cw_X12_stepOf (by decide) (Nat.le_of_ble_eq_true rfl) (ls := [some (iv q), some (iv g)]) rfl ?_
  intro X G
  unfold stp
  refine j_iload_n G dX12_stepOf_0 rfl ?_
  refine j_if_ne G dX12_stepOf_1 (tgt := 34) (by decide) (by omega) (fun c_1 => ?_) (fun c_1 => ?_)
  · refine j_iload_n G dX12_stepOf_34 rfl ?_
    refine j_iconst G dX12_stepOf_35 ?_
    refine j_icmp_ne G dX12_stepOf_36 (tgt := 63) (by decide) (by omega) (by omega) (fun c_36 => ?_) (fun c_36 => ?_)
    · refine j_iload_n G dX12_stepOf_63 rfl ?_
      refine j_callS G ms_X12_320 dX12_stepOf_64 (m_isDigit g h_g) rfl rfl (by exact Nat.le_of_ble_eq_true rfl) (by decide) (kI ?_)
      refine j_if_eqB G dX12_stepOf_67 (tgt := 83) (by decide)  (fun c_67 => ?_) (fun c_67 => ?_)
      · refine j_iload_n G dX12_stepOf_83 rfl ?_
        refine j_iconst G dX12_stepOf_84 ?_
        refine j_icmp_le G dX12_stepOf_85 (tgt := 104) (by decide) (by omega) (by omega) (fun c_85 => ?_) (fun c_85 => ?_)
        · refine j_iconst G dX12_stepOf_104 ?_
          refine j_ireturn G dX12_stepOf_105 ?_
          exact ⟨congrArg (fun z => some (iv z)) (by repeat' split <;> first | rfl | omega), rfl⟩
        · refine j_iload_n G dX12_stepOf_88 rfl ?_
          refine j_bipush G dX12_stepOf_89 (by decide) ?_
          refine j_icmp_eq G dX12_stepOf_91 (tgt := 100) (by decide) (by omega) (by omega) (fun c_91 => ?_) (fun c_91 => ?_)
          · refine j_iconst G dX12_stepOf_100 ?_
            refine j_goto G dX12_stepOf_101 (tgt := 105) (by decide) ?_
            refine j_ireturn G dX12_stepOf_105 ?_
            exact ⟨congrArg (fun z => some (iv z)) (by repeat' split <;> first | rfl | omega), rfl⟩
          · refine j_iload_n G dX12_stepOf_94 rfl ?_
            refine j_bipush G dX12_stepOf_95 (by decide) ?_
            refine j_icmp_ne G dX12_stepOf_97 (tgt := 104) (by decide) (by omega) (by omega) (fun c_97 => ?_) (fun c_97 => ?_)
            · refine j_iconst G dX12_stepOf_104 ?_
              refine j_ireturn G dX12_stepOf_105 ?_
              exact ⟨congrArg (fun z => some (iv z)) (by repeat' split <;> first | rfl | omega), rfl⟩
            · refine j_iconst G dX12_stepOf_100 ?_
              refine j_goto G dX12_stepOf_101 (tgt := 105) (by decide) ?_
              refine j_ireturn G dX12_stepOf_105 ?_
              exact ⟨congrArg (fun z => some (iv z)) (by repeat' split <;> first | rfl | omega), rfl⟩
      · refine j_iload_n G dX12_stepOf_70 rfl ?_
        refine j_iconst G dX12_stepOf_71 ?_
        refine j_icmp_ge G dX12_stepOf_72 (tgt := 81) (by decide) (by omega) (by omega) (fun c_72 => ?_) (fun c_72 => ?_)
        · refine j_iconst G dX12_stepOf_81 ?_
          refine j_ireturn G dX12_stepOf_82 ?_
          exact ⟨congrArg (fun z => some (iv z)) (by repeat' split <;> first | rfl | omega), rfl⟩
        · refine j_iload_n G dX12_stepOf_75 rfl ?_
          refine j_iconst G dX12_stepOf_76 ?_
          refine j_iadd G dX12_stepOf_77 ?_
          refine j_goto G dX12_stepOf_78 (tgt := 82) (by decide) ?_
          refine j_ireturn G dX12_stepOf_82 ?_
          exact ⟨congrArg (fun z => some (iv z)) (by repeat' split <;> first | rfl | omega), rfl⟩
    · refine j_iload_n G dX12_stepOf_39 rfl ?_
      refine j_bipush G dX12_stepOf_40 (by decide) ?_
      refine j_icmp_eq G dX12_stepOf_42 (tgt := 57) (by decide) (by omega) (by omega) (fun c_42 => ?_) (fun c_42 => ?_)
      · refine j_iconst G dX12_stepOf_57 ?_
        refine j_goto G dX12_stepOf_58 (tgt := 62) (by decide) ?_
        refine j_ireturn G dX12_stepOf_62 ?_
        exact ⟨congrArg (fun z => some (iv z)) (by repeat' split <;> first | rfl | omega), rfl⟩
      · refine j_iload_n G dX12_stepOf_45 rfl ?_
        refine j_bipush G dX12_stepOf_46 (by decide) ?_
        refine j_icmp_eq G dX12_stepOf_48 (tgt := 57) (by decide) (by omega) (by omega) (fun c_48 => ?_) (fun c_48 => ?_)
        · refine j_iconst G dX12_stepOf_57 ?_
          refine j_goto G dX12_stepOf_58 (tgt := 62) (by decide) ?_
          refine j_ireturn G dX12_stepOf_62 ?_
          exact ⟨congrArg (fun z => some (iv z)) (by repeat' split <;> first | rfl | omega), rfl⟩
        · refine j_iload_n G dX12_stepOf_51 rfl ?_
          refine j_bipush G dX12_stepOf_52 (by decide) ?_
          refine j_icmp_ne G dX12_stepOf_54 (tgt := 61) (by decide) (by omega) (by omega) (fun c_54 => ?_) (fun c_54 => ?_)
          · refine j_iconst G dX12_stepOf_61 ?_
            refine j_ireturn G dX12_stepOf_62 ?_
            exact ⟨congrArg (fun z => some (iv z)) (by repeat' split <;> first | rfl | omega), rfl⟩
          · refine j_iconst G dX12_stepOf_57 ?_
            refine j_goto G dX12_stepOf_58 (tgt := 62) (by decide) ?_
            refine j_ireturn G dX12_stepOf_62 ?_
            exact ⟨congrArg (fun z => some (iv z)) (by repeat' split <;> first | rfl | omega), rfl⟩
  · refine j_iload_n G dX12_stepOf_4 rfl ?_
    refine j_bipush G dX12_stepOf_5 (by decide) ?_
    refine j_icmp_eq G dX12_stepOf_7 (tgt := 28) (by decide) (by omega) (by omega) (fun c_7 => ?_) (fun c_7 => ?_)
    · refine j_iconst G dX12_stepOf_28 ?_
      refine j_goto G dX12_stepOf_29 (tgt := 33) (by decide) ?_
      refine j_ireturn G dX12_stepOf_33 ?_
      exact ⟨congrArg (fun z => some (iv z)) (by repeat' split <;> first | rfl | omega), rfl⟩
    · refine j_iload_n G dX12_stepOf_10 rfl ?_
      refine j_bipush G dX12_stepOf_11 (by decide) ?_
      refine j_icmp_eq G dX12_stepOf_13 (tgt := 28) (by decide) (by omega) (by omega) (fun c_13 => ?_) (fun c_13 => ?_)
      · refine j_iconst G dX12_stepOf_28 ?_
        refine j_goto G dX12_stepOf_29 (tgt := 33) (by decide) ?_
        refine j_ireturn G dX12_stepOf_33 ?_
        exact ⟨congrArg (fun z => some (iv z)) (by repeat' split <;> first | rfl | omega), rfl⟩
      · refine j_iload_n G dX12_stepOf_16 rfl ?_
        refine j_bipush G dX12_stepOf_17 (by decide) ?_
        refine j_icmp_eq G dX12_stepOf_19 (tgt := 28) (by decide) (by omega) (by omega) (fun c_19 => ?_) (fun c_19 => ?_)
        · refine j_iconst G dX12_stepOf_28 ?_
          refine j_goto G dX12_stepOf_29 (tgt := 33) (by decide) ?_
          refine j_ireturn G dX12_stepOf_33 ?_
          exact ⟨congrArg (fun z => some (iv z)) (by repeat' split <;> first | rfl | omega), rfl⟩
        · refine j_iload_n G dX12_stepOf_22 rfl ?_
          refine j_bipush G dX12_stepOf_23 (by decide) ?_
          refine j_icmp_ne G dX12_stepOf_25 (tgt := 32) (by decide) (by omega) (by omega) (fun c_25 => ?_) (fun c_25 => ?_)
          · refine j_iconst G dX12_stepOf_32 ?_
            refine j_ireturn G dX12_stepOf_33 ?_
            exact ⟨congrArg (fun z => some (iv z)) (by repeat' split <;> first | rfl | omega), rfl⟩
          · refine j_iconst G dX12_stepOf_28 ?_
            refine j_goto G dX12_stepOf_29 (tgt := 33) (by decide) ?_
            refine j_ireturn G dX12_stepOf_33 ?_
            exact ⟨congrArg (fun z => some (iv z)) (by repeat' split <;> first | rfl | omega), rfl⟩
theorem m_fault (n : Nat) (h_n : μ 0 42 = n) (h_le : n ≤ 40) : CT (EM x) 3 yX12_fault [rf (EM x) 0] μ (rI (flt (μ 29) n n 0) μ) := by
  refine CT.ofJ (own := RX12) (cc := cX12_fault) (n := 3) (ret := (some .int)) (by decide) rfl cw_X12_fault (by decide) (Nat.le_of_ble_eq_true rfl) (ls := [some (rf (EM x) 0), none, none]) rfl ?_
  intro X G
  refine j_iconst G dX12_fault_0 ?_
  refine j_istore1 G dX12_fault_1 (by decide) rfl ?_
  refine j_iconst G dX12_fault_2 ?_
  refine j_istore2 G dX12_fault_3 (by decide) rfl ?_
  refine j_pc (p2 := 4) rfl ?_
  refine down (Pr := fun i => 0 ≤ rst (μ 29) i → flt (μ 29) n n 0 = flt (μ 29) n (n - i) i → JJ (EM x) X 3 (rI (flt (μ 29) n n 0) μ) 3 4 [some (rf (EM x) 0), some (iv (rst (μ 29) i)), some (iv i)] [] μ) n ?_ 0 (Nat.zero_le _) (by simp [rst]) rfl
  intro i h_i ih h_r h_f
  have h_rr := rst_rg (μ 29) i
  refine j_iload_n G dX12_fault_4 rfl ?_
  first | refine j_aload_n G dX12_fault_5 rfl ?_ | refine j_aload_nN G dX12_fault_5 rfl ?_
  refine j_geti G fl_X12_137 dX12_fault_6 42 rfl (by first | assumption | rfl) (by rfl) (fun r_6 => ?_)
  try simp (disch := omega) only [up_same, up_cell, up_idx, cpm_at, fil_at] at r_6 ⊢
  refine j_icmp_ge G dX12_fault_9 (tgt := 35) (by decide) (by omega) (by omega) (fun c_9 => ?_) (fun c_9 => ?_)
  · refine j_iload_n G dX12_fault_35 rfl ?_
    refine j_iconst G dX12_fault_36 ?_
    refine j_icmp_le G dX12_fault_37 (tgt := 45) (by decide) (by omega) (by omega) (fun c_37 => ?_) (fun c_37 => ?_)
    · first | refine j_aload_n G dX12_fault_45 rfl ?_ | refine j_aload_nN G dX12_fault_45 rfl ?_
      refine j_geti G fl_X12_137 dX12_fault_46 42 rfl (by first | assumption | rfl) (by rfl) (fun r_46 => ?_)
      try simp (disch := omega) only [up_same, up_cell, up_idx, cpm_at, fil_at] at r_46 ⊢
      refine j_ireturn G dX12_fault_49 ?_
      obtain rfl : i = n := by omega
      rw [show i - i = 0 by omega, flt_0] at h_f
      refine ⟨?_, rfl⟩
      rw [h_f]
      first | rw [if_pos (by omega)] | (rw [if_neg (by omega), h_n])
    · refine j_bipush G dX12_fault_40 (by decide) ?_
      refine j_goto G dX12_fault_42 (tgt := 49) (by decide) ?_
      refine j_ireturn G dX12_fault_49 ?_
      obtain rfl : i = n := by omega
      rw [show i - i = 0 by omega, flt_0] at h_f
      refine ⟨?_, rfl⟩
      rw [h_f]
      first | rw [if_pos (by omega)] | (rw [if_neg (by omega), h_n])
  · refine j_iload_n G dX12_fault_12 rfl ?_
    first | refine j_aload_n G dX12_fault_13 rfl ?_ | refine j_aload_nN G dX12_fault_13 rfl ?_
    refine j_getr G fl_X12_95 dX12_fault_14 (by first | assumption | rfl) (by rfl) ?_
    refine j_iload_n G dX12_fault_17 rfl ?_
    refine j_iaload G dX12_fault_18 (by first | assumption | rfl) (by omega) (fun r_18 => ?_)
    try simp (disch := omega) only [up_same, up_cell, up_idx, cpm_at, fil_at] at r_18 ⊢
    have h_st := stp_rg (rst (μ 29) i) (μ 29 i) (by omega)
    rw [show n - i = (n - (i + 1)) + 1 by omega, flt_s] at h_f
    refine j_callS G ms_X12_323 dX12_fault_19 (m_stepOf _ _ (by omega) (by omega)) rfl rfl (by exact Nat.le_of_ble_eq_true rfl) (by decide) (kI ?_)
    refine j_istore1 G dX12_fault_22 (by decide) rfl ?_
    refine j_iload_n G dX12_fault_23 rfl ?_
    refine j_if_ge G dX12_fault_24 (tgt := 29) (by decide) (by omega) (fun c_24 => ?_) (fun c_24 => ?_)
    · refine j_iinc2 G dX12_fault_29 (by decide) rfl rfl ?_
      refine j_goto G dX12_fault_32 (tgt := 4) (by decide) ?_
      refine j_pc (p2 := 4) rfl ?_
      rw [if_neg (by omega)] at h_f
      have h_z := ih (by omega)
      rw [rst_s, if_neg (by omega)] at h_z
      exact h_z (by omega) h_f
    · refine j_iload_n G dX12_fault_27 rfl ?_
      refine j_ireturn G dX12_fault_28 ?_
      rw [if_pos (by omega)] at h_f
      exact ⟨by rw [← h_f], rfl⟩
theorem c_fault (n : Nat) (h_n : σ 41 1 = n) (h_le : n ≤ 40) : CT (EC x) 3 yX11_fault [rf (EC x) 0] σ (rI (flt (σ 42) n n 0) σ) := by
  refine CT.ofJ (own := RX11) (cc := cX11_fault) (n := 1) (ret := (some .int)) (by decide) rfl cw_X11_fault (by decide) (Nat.le_of_ble_eq_true rfl) (ls := [some (rf (EC x) 0)]) rfl ?_
  intro X G
  first | refine j_aload_n G dX11_fault_0 rfl ?_ | refine j_aload_nN G dX11_fault_0 rfl ?_
  refine j_getr G fl_X11_28 dX11_fault_1 (by first | assumption | rfl) (by rfl) ?_
  refine j_callS G ms_X11_279 dX11_fault_4 (x_faultOf 41 42 40 rfl rfl (by decide) n h_n h_le) rfl rfl (by exact Nat.le_of_ble_eq_true rfl) (by decide) (kI ?_)
  refine j_ireturn G dX11_fault_7 ?_
  exact ⟨rfl, rfl⟩
theorem op_fault : OP x1 x2 yX11_fault yX12_fault [] := by
  apply OP.same
  intro σ μ hw hr
  obtain ⟨w1, w2, w3, w4, w5, w6, w7, w8⟩ := id hw
  obtain ⟨r1, r2, r3, r4, r5, r6, r7, r8⟩ := id hr
  obtain ⟨p1, p2, p3, p4, p5, p6⟩ := id w2
  obtain ⟨q1, q2, q3, q4, q5, q6⟩ := id r2
  obtain ⟨n, h_n40, h_n⟩ := nat_of (n := 40) p5
  refine ⟨_, _, _, (by decide), (by decide), rI_P (c_fault (x := x1) (σ := σ) n h_n h_n40) ⟨rfl, KC.rf _⟩, rI_P (m_fault (x := x2) (μ := μ) n (by rw [q5]; exact h_n) h_n40) ⟨?_, KM.rf _⟩⟩
  exact flt_cg n 0 (by omega) (fun j hj => q6 j (by omega) (by omega))
theorem up3 {m : MemT} {k q : Nat} {a b i z : Int} (h : k ≠ q) : up (up (up m k 1 a) q i z) k 1 b = up (up m q i z) k 1 b := by
  funext c j
  unfold up
  by_cases h_1 : c = k ∧ j = 1
  · rw [if_pos h_1, if_pos h_1]
  · rw [if_neg h_1, if_neg h_1, if_neg h_1]
theorem c_board (s n : Nat) (h_s : s < 6) (h_n : σ 41 1 = n) (h_le : n ≤ 40) (h_r : 0 ≤ σ (129 + 12 * s) 1 ∧ σ (129 + 12 * s) 1 ≤ 40) : CT (EC x) 3 yX11_board [rf (EC x) 0, iv s] σ
    (if flt (σ 42) n n 0 ≠ -6 then rI (-5) σ else rI (if σ (129 + 12 * s) 1 = 0 then 1 else 0) (up (up (cpm σ 42 0 (130 + 12 * s) 0 n) (129 + 12 * s) 1 n) 41 1 0)) := by
  obtain ⟨h_y1, h_y2, h_y3, h_y4, h_y5⟩ := ly_school (x := x) h_s
  have h_fr := flt_rg (f := σ 42) (n := n) n 0 (by omega)
  refine CT.ofJ (own := RX11) (cc := cX11_board) (n := 5) (ret := (some .int)) (by decide) rfl cw_X11_board (by decide) (Nat.le_of_ble_eq_true rfl) (ls := [some (rf (EC x) 0), some (iv s), none, none, none]) rfl ?_
  intro X G
  have h_lp : ∀ (z : Int), z = (if σ (129 + 12 * s) 1 = 0 then 1 else 0) → ∀ i, i ≤ n → JJ (EC x) X 3 (rI (if σ (129 + 12 * s) 1 = 0 then 1 else 0) (up (up (cpm σ 42 0 (130 + 12 * s) 0 n) (129 + 12 * s) 1 n) 41 1 0)) 5 54 [some (rf (EC x) 0), some (iv s), some (rf (EC x) (119 + 12 * s)), some (iv z), some (iv i)] [] (up (cpm σ 42 0 (130 + 12 * s) 0 i) (129 + 12 * s) 1 i) := by
    intro z h_z
    refine down (Pr := fun i => JJ (EC x) X 3 (rI (if σ (129 + 12 * s) 1 = 0 then 1 else 0) (up (up (cpm σ 42 0 (130 + 12 * s) 0 n) (129 + 12 * s) 1 n) 41 1 0)) 5 54 [some (rf (EC x) 0), some (iv s), some (rf (EC x) (119 + 12 * s)), some (iv z), some (iv i)] [] (up (cpm σ 42 0 (130 + 12 * s) 0 i) (129 + 12 * s) 1 i)) n ?_
    intro i h_i ih
    refine j_iload G dX11_board_54 rfl ?_
    first | refine j_aload_n G dX11_board_56 rfl ?_ | refine j_aload_nN G dX11_board_56 rfl ?_
    refine j_getr G fl_X11_28 dX11_board_57 (by first | assumption | rfl) (by rfl) ?_
    refine j_geti G fl_X11_119 dX11_board_60 1 rfl (by first | assumption | rfl) (by rfl) (fun r_60 => ?_)
    try simp (disch := omega) only [up_same, up_cell, up_idx, cpm_at, fil_at] at r_60 ⊢
    refine j_icmp_ge G dX11_board_63 (tgt := 89) (by decide) (by omega) (by omega) (fun c_63 => ?_) (fun c_63 => ?_)
    · first | refine j_aload_n G dX11_board_89 rfl ?_ | refine j_aload_nN G dX11_board_89 rfl ?_
      refine j_getr G fl_X11_28 dX11_board_90 (by first | assumption | rfl) (by rfl) ?_
      refine j_callV G mv_X11_108 dX11_board_93 (p_empty 41 42 40 rfl) (by first | assumption | rfl) (by decide) (by rfl) rfl rfl (by exact Nat.le_of_ble_eq_true rfl) (by decide) (kI ?_)
      refine j_pop G dX11_board_96 rfl ?_
      refine j_iload_n G dX11_board_97 rfl ?_
      refine j_ireturn G dX11_board_98 ?_
      obtain rfl : i = n := by omega
      exact ⟨by rw [h_z], rfl⟩
    · first | refine j_aload_n G dX11_board_66 rfl ?_ | refine j_aload_nN G dX11_board_66 rfl ?_
      refine j_getr G fl_X11_284 dX11_board_67 (by first | assumption | rfl) (by rfl) ?_
      first | refine j_aload_n G dX11_board_70 rfl ?_ | refine j_aload_nN G dX11_board_70 rfl ?_
      refine j_getr G fl_X11_28 dX11_board_71 (by first | assumption | rfl) (by rfl) ?_
      refine j_iload G dX11_board_74 rfl ?_
      refine j_callV G mv_X11_136 dX11_board_76 (p_at 41 42 40 i (by omega) rfl rfl (by decide) (by simp (disch := omega) only [up_same, up_cell, up_idx, cpm_at, fil_at]; omega)) (by first | assumption | rfl) (by decide) (by rfl) rfl rfl (by exact Nat.le_of_ble_eq_true rfl) (by decide) (kI ?_)
      simp (disch := omega) only [up_same, up_cell, up_idx, cpm_at, fil_at]
      rw [if_pos (show (0 : Int) ≤ i ∧ (i : Int) < σ 41 1 by omega)]
      refine j_ok (fun h_ok => ?_)
      have h_gi := h_ok 42 i (fun _ _ z => by cases z)
      simp (disch := omega) only [up_cell, cpm_at] at h_gi
      refine j_callV G mv_X11_104 dX11_board_79 (p_add (129 + 12 * s) (130 + 12 * s) 40 (σ 42 i) h_gi h_y4 h_y5 (by decide) (by simp (disch := omega) only [up_same, up_cell, up_idx, cpm_at, fil_at]; omega)) (by first | assumption | rfl) (by decide) (by rfl) rfl rfl (by exact Nat.le_of_ble_eq_true rfl) (by decide) (kI ?_)
      simp (disch := omega) only [up_same, up_cell, up_idx, cpm_at, fil_at]
      refine j_pop G dX11_board_82 rfl ?_
      refine j_iinc4 G dX11_board_83 (by decide) rfl rfl ?_
      refine j_goto G dX11_board_86 (tgt := 54) (by decide) ?_
      refine j_pc (p2 := 54) rfl ?_
      have h_w := ih (by omega)
      refine j_mem ?_ h_w
      have h_cs := cpm_s (μ := σ) (src := 42) (sp := 0) (dst := 130 + 12 * s) (dp := 0) (m := i) (by omega)
      rw [Int.zero_add] at h_cs
      rw [up3 (by omega), h_cs]
      rfl
  first | refine j_aload_n G dX11_board_0 rfl ?_ | refine j_aload_nN G dX11_board_0 rfl ?_
  refine j_iload_n G dX11_board_1 rfl ?_
  refine j_callV G mv_X11_197 dX11_board_2 (c_schoolAt s h_s) (by first | assumption | rfl) (by decide) (by rfl) rfl rfl (by exact Nat.le_of_ble_eq_true rfl) (by decide) (kV ?_)
  first | refine j_astore2 G dX11_board_5 (by decide) rfl ?_ | refine j_astoreN2 G dX11_board_5 (by decide) rfl ?_
  first | refine j_aload_n G dX11_board_6 rfl ?_ | refine j_aload_nN G dX11_board_6 rfl ?_
  refine j_ifnonnull G dX11_board_7 (tgt := 12) (by decide) ?_
  first | refine j_aload_n G dX11_board_12 rfl ?_ | refine j_aload_nN G dX11_board_12 rfl ?_
  refine j_getr G fl_X11_28 dX11_board_13 (by first | assumption | rfl) (by rfl) ?_
  refine j_callS G ms_X11_279 dX11_board_16 (x_faultOf 41 42 40 rfl rfl (by decide) n h_n h_le) rfl rfl (by exact Nat.le_of_ble_eq_true rfl) (by decide) (kI ?_)
  refine j_bipush G dX11_board_19 (by decide) ?_
  refine j_icmp_eq G dX11_board_21 (tgt := 27) (by decide) (by omega) (by omega) (fun c_21 => ?_) (fun c_21 => ?_)
  · first | refine j_aload_n G dX11_board_27 rfl ?_ | refine j_aload_nN G dX11_board_27 rfl ?_
    refine j_getr G fl_X11_284 dX11_board_28 (by first | assumption | rfl) (by rfl) ?_
    refine j_geti G fl_X11_119 dX11_board_31 1 rfl (by first | assumption | rfl) (by rfl) (fun r_31 => ?_)
    try simp (disch := omega) only [up_same, up_cell, up_idx, cpm_at, fil_at] at r_31 ⊢
    refine j_if_ne G dX11_board_34 (tgt := 41) (by decide) (by omega) (fun c_34 => ?_) (fun c_34 => ?_)
    · refine j_iconst G dX11_board_41 ?_
      refine j_istore3 G dX11_board_42 (by decide) rfl ?_
      first | refine j_aload_n G dX11_board_43 rfl ?_ | refine j_aload_nN G dX11_board_43 rfl ?_
      refine j_getr G fl_X11_284 dX11_board_44 (by first | assumption | rfl) (by rfl) ?_
      refine j_callV G mv_X11_108 dX11_board_47 (p_empty (129 + 12 * s) (130 + 12 * s) 40 h_y4) (by first | assumption | rfl) (by decide) (by rfl) rfl rfl (by exact Nat.le_of_ble_eq_true rfl) (by decide) (kI ?_)
      refine j_pop G dX11_board_50 rfl ?_
      refine j_iconst G dX11_board_51 ?_
      refine j_istore4 G dX11_board_52 (by decide) rfl ?_
      refine j_pc (p2 := 54) rfl ?_
      rw [if_neg (by omega)]
      refine j_mem (μ' := up (cpm σ 42 0 (130 + 12 * s) 0 ((0 : Nat) : Int)) (129 + 12 * s) 1 ((0 : Nat) : Int)) (by rw [show ((0 : Nat) : Int) = 0 from rfl, cpm_0]) ?_
      exact h_lp _ (by split <;> first | rfl | omega) 0 (Nat.zero_le _)
    · refine j_iconst G dX11_board_37 ?_
      refine j_goto G dX11_board_38 (tgt := 42) (by decide) ?_
      refine j_istore3 G dX11_board_42 (by decide) rfl ?_
      first | refine j_aload_n G dX11_board_43 rfl ?_ | refine j_aload_nN G dX11_board_43 rfl ?_
      refine j_getr G fl_X11_284 dX11_board_44 (by first | assumption | rfl) (by rfl) ?_
      refine j_callV G mv_X11_108 dX11_board_47 (p_empty (129 + 12 * s) (130 + 12 * s) 40 h_y4) (by first | assumption | rfl) (by decide) (by rfl) rfl rfl (by exact Nat.le_of_ble_eq_true rfl) (by decide) (kI ?_)
      refine j_pop G dX11_board_50 rfl ?_
      refine j_iconst G dX11_board_51 ?_
      refine j_istore4 G dX11_board_52 (by decide) rfl ?_
      refine j_pc (p2 := 54) rfl ?_
      rw [if_neg (by omega)]
      refine j_mem (μ' := up (cpm σ 42 0 (130 + 12 * s) 0 ((0 : Nat) : Int)) (129 + 12 * s) 1 ((0 : Nat) : Int)) (by rw [show ((0 : Nat) : Int) = 0 from rfl, cpm_0]) ?_
      exact h_lp _ (by split <;> first | rfl | omega) 0 (Nat.zero_le _)
  · refine j_bipush G dX11_board_24 (by decide) ?_
    refine j_ireturn G dX11_board_26 ?_
    exact ite_pst_t (by omega) ⟨rfl, rfl⟩
theorem c_boardN (s : Int) (h_1 : (-2147483648 ≤ s ∧ s < 2147483648)) (h_s : ¬ (0 ≤ s ∧ s ≤ 5)) : CT (EC x) 3 yX11_board [rf (EC x) 0, iv s] σ (rI (-1) σ) := by
  refine CT.ofJ (own := RX11) (cc := cX11_board) (n := 5) (ret := (some .int)) (by decide) rfl cw_X11_board (by decide) (Nat.le_of_ble_eq_true rfl) (ls := [some (rf (EC x) 0), some (iv s), none, none, none]) rfl ?_
  intro X G
  first | refine j_aload_n G dX11_board_0 rfl ?_ | refine j_aload_nN G dX11_board_0 rfl ?_
  refine j_iload_n G dX11_board_1 rfl ?_
  refine j_callV G mv_X11_197 dX11_board_2 (c_schoolAtN s h_1 h_s) (by first | assumption | rfl) (by decide) (by rfl) rfl rfl (by exact Nat.le_of_ble_eq_true rfl) (by decide) (kV ?_)
  first | refine j_astore2 G dX11_board_5 (by decide) rfl ?_ | refine j_astoreN2 G dX11_board_5 (by decide) rfl ?_
  first | refine j_aload_n G dX11_board_6 rfl ?_ | refine j_aload_nN G dX11_board_6 rfl ?_
  refine j_ifnonnullN G dX11_board_7 ?_
  refine j_iconst G dX11_board_10 ?_
  refine j_ireturn G dX11_board_11 ?_
  exact ⟨rfl, rfl⟩
theorem m_board (s : Int) (n : Nat) (h_1 : (-2147483648 ≤ s ∧ s < 2147483648)) (h_n : μ 0 42 = n) (h_le : n ≤ 40) : CT (EM x) 4 yX12_board [rf (EM x) 0, iv s] μ
    (if ¬ (0 ≤ s ∧ s ≤ 5) then rI (-1) μ else if flt (μ 29) n n 0 ≠ -6 then rI (-5) μ else rI (if μ 31 s < 0 then 1 else 0) (up (up (cpm μ 29 0 30 (40 * s) n) 31 s n) 0 42 0)) := by
  have h_fr := flt_rg (f := μ 29) (n := n) n 0 (by omega)
  refine CT.ofJ (own := RX12) (cc := cX12_board) (n := 4) (ret := (some .int)) (by decide) rfl cw_X12_board (by decide) (Nat.le_of_ble_eq_true rfl) (ls := [some (rf (EM x) 0), some (iv s), none, none]) rfl ?_
  intro X G
  refine j_iload_n G dX12_board_0 rfl ?_
  refine j_callS G ms_X12_254 dX12_board_1 (m_isSchool s h_1) rfl rfl (by exact Nat.le_of_ble_eq_true rfl) (by decide) (kI ?_)
  refine j_if_neB G dX12_board_4 (tgt := 9) (by decide)  (fun c_4 => ?_) (fun c_4 => ?_)
  · first | refine j_aload_n G dX12_board_9 rfl ?_ | refine j_aload_nN G dX12_board_9 rfl ?_
    refine j_callV G mv_X12_326 dX12_board_10 (m_fault n h_n h_le) (by first | assumption | rfl) (by decide) (by rfl) rfl rfl (by exact Nat.le_of_ble_eq_true rfl) (by decide) (kI ?_)
    refine j_if_lt G dX12_board_13 (tgt := 19) (by decide) (by omega) (fun c_13 => ?_) (fun c_13 => ?_)
    · first | refine j_aload_n G dX12_board_19 rfl ?_ | refine j_aload_nN G dX12_board_19 rfl ?_
      refine j_getr G fl_X12_101 dX12_board_20 (by first | assumption | rfl) (by rfl) ?_
      refine j_iload_n G dX12_board_23 rfl ?_
      refine j_iaload G dX12_board_24 (by first | assumption | rfl) (by omega) (fun r_24 => ?_)
      try simp (disch := omega) only [up_same, up_cell, up_idx, cpm_at, fil_at] at r_24 ⊢
      refine j_istore2 G dX12_board_25 (by decide) rfl ?_
      refine j_iconst G dX12_board_26 ?_
      refine j_istore3 G dX12_board_27 (by decide) rfl ?_
      refine j_pc (p2 := 28) rfl ?_
      rw [if_neg (by omega), if_neg (by omega)]
      refine j_mem (cpm_0 (src := 29) (sp := 0) (dst := 30) (dp := 40 * s)).symm ?_
      refine down (Pr := fun i => JJ (EM x) X 4 (rI (if μ 31 s < 0 then 1 else 0) (up (up (cpm μ 29 0 30 (40 * s) n) 31 s n) 0 42 0)) 4 28 [some (rf (EM x) 0), some (iv s), some (iv (μ 31 s)), some (iv i)] [] (cpm μ 29 0 30 (40 * s) i)) n ?_ 0 (Nat.zero_le _)
      intro i h_i ih
      refine j_iload_n G dX12_board_28 rfl ?_
      first | refine j_aload_n G dX12_board_29 rfl ?_ | refine j_aload_nN G dX12_board_29 rfl ?_
      refine j_geti G fl_X12_137 dX12_board_30 42 rfl (by first | assumption | rfl) (by rfl) (fun r_30 => ?_)
      try simp (disch := omega) only [up_same, up_cell, up_idx, cpm_at, fil_at] at r_30 ⊢
      refine j_icmp_ge G dX12_board_33 (tgt := 59) (by decide) (by omega) (by omega) (fun c_33 => ?_) (fun c_33 => ?_)
      · first | refine j_aload_n G dX12_board_59 rfl ?_ | refine j_aload_nN G dX12_board_59 rfl ?_
        refine j_getr G fl_X12_101 dX12_board_60 (by first | assumption | rfl) (by rfl) ?_
        refine j_iload_n G dX12_board_63 rfl ?_
        first | refine j_aload_n G dX12_board_64 rfl ?_ | refine j_aload_nN G dX12_board_64 rfl ?_
        refine j_geti G fl_X12_137 dX12_board_65 42 rfl (by first | assumption | rfl) (by rfl) (fun r_65 => ?_)
        try simp (disch := omega) only [up_same, up_cell, up_idx, cpm_at, fil_at] at r_65 ⊢
        refine j_iastore G dX12_board_68 (by first | assumption | rfl) (by omega) (by omega) ?_
        first | refine j_aload_n G dX12_board_69 rfl ?_ | refine j_aload_nN G dX12_board_69 rfl ?_
        refine j_iconst G dX12_board_70 ?_
        refine j_puti G fp_X12_137 dX12_board_71 42 rfl (by first | assumption | rfl) (by rfl) (by omega) ?_
        refine j_iload_n G dX12_board_74 rfl ?_
        refine j_if_ge G dX12_board_75 (tgt := 82) (by decide) (by omega) (fun c_75 => ?_) (fun c_75 => ?_)
        · refine j_iconst G dX12_board_82 ?_
          refine j_ireturn G dX12_board_83 ?_
          obtain rfl : i = n := by omega
          rw [h_n]
          exact ⟨congrArg (fun z => some (iv z)) (by split <;> first | rfl | omega), rfl⟩
        · refine j_iconst G dX12_board_78 ?_
          refine j_goto G dX12_board_79 (tgt := 83) (by decide) ?_
          refine j_ireturn G dX12_board_83 ?_
          obtain rfl : i = n := by omega
          rw [h_n]
          exact ⟨congrArg (fun z => some (iv z)) (by split <;> first | rfl | omega), rfl⟩
      · first | refine j_aload_n G dX12_board_36 rfl ?_ | refine j_aload_nN G dX12_board_36 rfl ?_
        refine j_getr G fl_X12_98 dX12_board_37 (by first | assumption | rfl) (by rfl) ?_
        refine j_bipush G dX12_board_40 (by decide) ?_
        refine j_iload_n G dX12_board_42 rfl ?_
        refine j_imul G dX12_board_43 ?_
        refine j_iload_n G dX12_board_44 rfl ?_
        refine j_iadd G dX12_board_45 ?_
        first | refine j_aload_n G dX12_board_46 rfl ?_ | refine j_aload_nN G dX12_board_46 rfl ?_
        refine j_getr G fl_X12_95 dX12_board_47 (by first | assumption | rfl) (by rfl) ?_
        refine j_iload_n G dX12_board_50 rfl ?_
        refine j_iaload G dX12_board_51 (by first | assumption | rfl) (by omega) (fun r_51 => ?_)
        try simp (disch := omega) only [up_same, up_cell, up_idx, cpm_at, fil_at] at r_51 ⊢
        refine j_pc (p2 := 52) rfl ?_
        refine j_iastore G dX12_board_52 (by first | assumption | rfl) (by omega) (by omega) ?_
        refine j_iinc3 G dX12_board_53 (by decide) rfl rfl ?_
        refine j_goto G dX12_board_56 (tgt := 28) (by decide) ?_
        refine j_pc (p2 := 28) rfl ?_
        exact j_mem (by rw [show μ 29 i = μ 29 (0 + i) by rw [Int.zero_add]]; exact cpm_s (by omega)) (ih (by omega))
    · refine j_bipush G dX12_board_16 (by decide) ?_
      refine j_ireturn G dX12_board_18 ?_
      exact ite_pst_f (by omega) (ite_pst_t (by omega) ⟨rfl, rfl⟩)
  · refine j_iconst G dX12_board_7 ?_
    refine j_ireturn G dX12_board_8 ?_
    exact ite_pst_t (by omega) ⟨rfl, rfl⟩
theorem op_board (s : Int) (h_1 : (-2147483648 ≤ s ∧ s < 2147483648)) : OP x1 x2 yX11_board yX12_board [iv s] := by
  intro σ μ hw hr
  obtain ⟨w1, w2, w3, w4, w5, w6, w7, w8⟩ := id hw
  obtain ⟨r1, r2, r3, r4, r5, r6, r7, r8⟩ := id hr
  obtain ⟨p1, p2, p3, p4, p5, p6⟩ := id w2
  obtain ⟨q1, q2, q3, q4, q5, q6⟩ := id r2
  obtain ⟨n, h_n40, h_n⟩ := nat_of (n := 40) p5
  have h_m := m_board (x := x2) (μ := μ) s n h_1 (by rw [q5]; exact h_n) h_n40
  rw [show flt (μ 29) n n 0 = flt (σ 42) n n 0 from flt_cg n 0 (by omega) (fun j hj => q6 j (by omega) (by omega))] at h_m
  by_cases h_s : 0 ≤ s ∧ s ≤ 5
  · obtain ⟨ss, h_s5, rfl⟩ := nat_of (n := 5) h_s
    obtain ⟨m, h_m40, h_me, h_ms⟩ := w7 ss (by omega)
    have h_k := c_board (x := x1) (σ := σ) ss n (by omega) h_n h_n40 (by omega)
    rw [if_neg (by omega)] at h_m
    by_cases h_f : flt (σ 42) n n 0 ≠ -6
    · rw [if_pos h_f] at h_k h_m
      exact ⟨_, σ, _, _, (by decide), (by decide), rI_P h_k ⟨rfl, KC.rf _⟩, rI_P h_m ⟨rfl, hr⟩, hw⟩
    · rw [if_neg h_f] at h_k h_m
      have h_ok := flt_ok (f := σ 42) (n := n) n 0 (by omega) (by simp [rst]) (by omega)
      have h_n0 : 0 < n := by
        rcases Nat.eq_zero_or_pos n with h_0 | h_0
        · rw [h_0] at h_ok
          simp [rst] at h_ok
        · exact h_0
      have h_res : (if μ 31 ss < 0 then (1 : Int) else 0) = if σ (129 + 12 * ss) 1 = 0 then 1 else 0 := by
        rcases r7 ss (by omega) with ⟨g1, g2⟩ | ⟨g1, g2, -⟩
        · rw [g1, g2, if_pos (by omega), if_pos rfl]
        · rw [if_neg (by omega), if_neg (by omega)]
      refine ⟨_, _, _, _, (by decide), (by decide), rI_P h_k ⟨rfl, KC.rf _⟩, rI_P h_m ⟨h_res, ?_⟩, ?_⟩
      · refine ⟨(fun e h_e5 => (r1 e h_e5).fr h_e5 (fun j _ _ => by simp (disch := omega) only [up_fn, cpm_cell, fil_cell]) (fun j _ _ => by simp (disch := omega) only [up_fn, cpm_cell, fil_cell])), ?_, r3.fr (fun j _ _ => by simp (disch := omega) only [up_fn, cpm_cell, fil_cell]) (fun j _ _ => by simp (disch := omega) only [up_fn, cpm_cell, fil_cell]) (by simp (disch := omega) only [up_cell, up_idx, up_same, cpm_at, fil_at]), r4.fr (fun j _ _ => by simp (disch := omega) only [up_fn, cpm_cell, fil_cell]) (fun j _ _ => by simp (disch := omega) only [up_fn, cpm_cell, fil_cell]) (by simp (disch := omega) only [up_cell, up_idx, up_same, cpm_at, fil_at]), r5.fr (by simp (disch := omega) only [up_cell, up_idx, up_same, cpm_at, fil_at]) (fun j _ _ => by simp (disch := omega) only [up_fn, cpm_cell, fil_cell]) (fun j _ _ => by simp (disch := omega) only [up_fn, cpm_cell, fil_cell]) (by simp (disch := omega) only [up_cell, up_idx, up_same, cpm_at, fil_at]), r6.fr (fun s b _ _ => by simp (disch := omega) only [up_fn, cpm_cell, fil_cell]) (by simp (disch := omega) only [up_fn, cpm_cell, fil_cell]), ?_, r8.fr (by simp (disch := omega) only [up_fn, cpm_cell, fil_cell]) (by simp (disch := omega) only [up_fn, cpm_cell, fil_cell])⟩
        · unfold RePad
          simp (disch := omega) only [up_fn, cpm_cell, up_cell, up_idx, up_same, cpm_at]
          exact ⟨q1, q2, q3, q4, trivial, fun i h_i0 h_i1 => absurd h_i1 (by omega)⟩
        · intro e h_e
          simp (disch := omega) only [up_fn, cpm_cell, up_cell, cpm_at]
          by_cases h_es : e = ss
          · subst h_es
            refine Or.inr ?_
            simp only [up_same]
            refine ⟨by omega, trivial, fun i h_i0 h_i1 => ?_⟩
            rw [cpm_in (by omega), cpm_in (by omega), show (0 : Int) + (40 * (e : Int) + i - 40 * (e : Int)) = i by omega, show (0 : Int) + (i - 0) = i by omega]
            exact q6 i h_i0 (by omega)
          · simp (disch := omega) only [up_cell, up_idx, cpm_at]
            rcases r7 e h_e with ⟨g1, g2⟩ | ⟨g1, g2, g3⟩
            · exact Or.inl ⟨g1, g2⟩
            · obtain ⟨m2, h_m2, h_me2, -⟩ := w7 e h_e
              refine Or.inr ⟨g1, g2, fun i h_i0 h_i1 => ?_⟩
              rw [cpm_out (by omega)]
              exact g3 i h_i0 h_i1
      · refine ⟨(fun e h_e5 => (w1 e h_e5).fr h_e5 (fun j _ _ => by simp (disch := omega) only [up_fn, cpm_cell, fil_cell])), ?_, w3.fr (fun j _ _ => by simp (disch := omega) only [up_fn, cpm_cell, fil_cell]), w4.fr (fun j _ _ => by simp (disch := omega) only [up_fn, cpm_cell, fil_cell]), w5.fr (by simp (disch := omega) only [up_cell, up_idx, up_same, cpm_at, fil_at]) (fun j _ _ => by simp (disch := omega) only [up_fn, cpm_cell, fil_cell]), w6.fr (fun s b _ _ => by simp (disch := omega) only [up_fn, cpm_cell, fil_cell]), ?_, w8.fr (by simp (disch := omega) only [up_fn, cpm_cell, fil_cell])⟩
        · unfold WfPad
          simp (disch := omega) only [up_fn, cpm_cell, up_cell, up_idx, up_same, cpm_at]
          exact ⟨p1, p2, p3, p4, by omega, fun i h_i0 h_i1 => absurd h_i1 (by omega)⟩
        · intro e h_e
          by_cases h_es : e = ss
          · subst h_es
            simp (disch := omega) only [up_fn, cpm_cell, up_cell, cpm_at, up_same]
            refine ⟨n, h_n40, rfl, Or.inr ?_⟩
            rw [rst_cg (g := σ 42) n (fun i hi => by rw [cpm_in (by omega), show (0 : Int) + ((i : Int) - 0) = i by omega])]
            exact h_ok
          · simp (disch := omega) only [up_fn, cpm_cell, up_cell, cpm_at]
            exact w7 e h_e
  · have h_k := c_boardN (x := x1) (σ := σ) s h_1 h_s
    rw [if_pos (by omega)] at h_m
    exact ⟨_, σ, _, _, (by decide), (by decide), rI_P h_k ⟨rfl, KC.rf _⟩, rI_P h_m ⟨rfl, hr⟩, hw⟩
end FA
