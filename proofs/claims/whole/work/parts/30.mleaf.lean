section ML
variable {c : Launch × va_G × (Nat → ClassId) × Nat} {μ : MemT}
theorem m_in (a b e : Int) (ha : -2147483648 ≤ a ∧ a < 2147483648) (hb : -2147483648 ≤ b ∧ b < 2147483648) (he : -2147483648 ≤ e ∧ e < 2147483648) : CT (EM c) 0 yX12_in [.long (Int64.ofInt a), .long (Int64.ofInt b), .long (Int64.ofInt e)] μ (rI (b2 (b ≤ a ∧ a ≤ e)) μ) := by
  refine CT.ofJ (own := RX12) (cc := cX12_in) (n := 6) (ret := (some .boolean)) (by decide) rfl cw_X12_in (by decide) (Nat.le_of_ble_eq_true rfl) (ls := [some (.long (Int64.ofInt a)), none, some (.long (Int64.ofInt b)), none, some (.long (Int64.ofInt e)), none]) rfl ?_
  intro X G
  refine j_lload_n G dX12_in_0 rfl ?_
  refine j_lload_n G dX12_in_1 rfl ?_
  refine j_lcmpI G dX12_in_2 ha hb ?_
  refine j_if_lt G dX12_in_3 (tgt := 17) (by decide) (by unfold cmpI; split <;> (try split) <;> omega) (fun c_3 => ?_) (fun c_3 => ?_)
  · refine j_iconst G dX12_in_17 ?_
    refine j_zreturn G dX12_in_18 (by first | exact b2_01 _ | omega) ?_
    unfold cmpI at *
    refine ⟨?_, rfl⟩
    unfold b2
    split <;> (repeat split at *) <;> first | rfl | omega
  · refine j_lload_n G dX12_in_6 rfl ?_
    refine j_lload G dX12_in_7 rfl ?_
    refine j_lcmpI G dX12_in_9 ha he ?_
    refine j_if_gt G dX12_in_10 (tgt := 17) (by decide) (by unfold cmpI; split <;> (try split) <;> omega) (fun c_10 => ?_) (fun c_10 => ?_)
    · refine j_iconst G dX12_in_17 ?_
      refine j_zreturn G dX12_in_18 (by first | exact b2_01 _ | omega) ?_
      unfold cmpI at *
      refine ⟨?_, rfl⟩
      unfold b2
      split <;> (repeat split at *) <;> first | rfl | omega
    · refine j_iconst G dX12_in_13 ?_
      refine j_goto G dX12_in_14 (tgt := 18) (by decide) ?_
      refine j_zreturn G dX12_in_18 (by first | exact b2_01 _ | omega) ?_
      unfold cmpI at *
      refine ⟨?_, rfl⟩
      unfold b2
      split <;> (repeat split at *) <;> first | rfl | omega
theorem m_isCode (z : Int) (hz : -2147483648 ≤ z ∧ z < 2147483648) : CT (EM c) 1 yX12_isCode [iv z] μ (rI (b2 (0 ≤ z ∧ z ≤ 4)) μ) := by
  refine CT.ofJ (own := RX12) (cc := cX12_isCode) (n := 1) (ret := (some .boolean)) (by decide) rfl cw_X12_isCode (by decide) (Nat.le_of_ble_eq_true rfl) (ls := [some (iv z)]) rfl ?_
  intro X G
  refine j_iload_n G dX12_isCode_0 rfl ?_
  refine j_i2l G (by omega) dX12_isCode_1 ?_
  refine j_lconstI G 0 dX12_isCode_2 (by decide) ?_
  refine j_ldc2I G (4) kl_X12_113 dX12_isCode_3 (by decide) ?_
  refine j_callS G ms_X12_115 dX12_isCode_6 (m_in _ _ _ (by omega) (by omega) (by omega)) rfl rfl (by exact Nat.le_of_ble_eq_true rfl) (by decide) (kI ?_)
  refine j_zreturn G dX12_isCode_9 (by first | exact b2_01 _ | omega) ?_
  exact ⟨rfl, rfl⟩
theorem m_isLetter (z : Int) (hz : -2147483648 ≤ z ∧ z < 2147483648) : CT (EM c) 1 yX12_isLetter [iv z] μ (rI (b2 (0 ≤ z ∧ z ≤ 25)) μ) := by
  refine CT.ofJ (own := RX12) (cc := cX12_isLetter) (n := 1) (ret := (some .boolean)) (by decide) rfl cw_X12_isLetter (by decide) (Nat.le_of_ble_eq_true rfl) (ls := [some (iv z)]) rfl ?_
  intro X G
  refine j_iload_n G dX12_isLetter_0 rfl ?_
  refine j_i2l G (by omega) dX12_isLetter_1 ?_
  refine j_lconstI G 0 dX12_isLetter_2 (by decide) ?_
  refine j_ldc2I G (25) kl_X12_119 dX12_isLetter_3 (by decide) ?_
  refine j_callS G ms_X12_115 dX12_isLetter_6 (m_in _ _ _ (by omega) (by omega) (by omega)) rfl rfl (by exact Nat.le_of_ble_eq_true rfl) (by decide) (kI ?_)
  refine j_zreturn G dX12_isLetter_9 (by first | exact b2_01 _ | omega) ?_
  exact ⟨rfl, rfl⟩
theorem m_letter (code l cell : Int) (h1 : -2147483648 ≤ code ∧ code < 2147483648) (h2 : -2147483648 ≤ l ∧ l < 2147483648) (h3 : -2147483648 ≤ cell ∧ cell < 2147483648) : CT (EM c) 2 yX12_letter [rf (EM c) 0, iv code, iv l, iv cell] μ
    (if ¬ ((0 ≤ code ∧ code ≤ 4) ∧ 0 ≤ l ∧ l ≤ 25) then rI (-1) μ else if ¬ (0 ≤ cell ∧ cell ≤ 63) then rI (-2) μ else rI (μ 1 (26 * code + l)) (up μ 1 (26 * code + l) cell)) := by
  refine CT.ofJ (own := RX12) (cc := cX12_letter) (n := 5) (ret := (some .int)) (by decide) rfl cw_X12_letter (by decide) (Nat.le_of_ble_eq_true rfl) (ls := [some (rf (EM c) 0), some (iv code), some (iv l), some (iv cell), none]) rfl ?_
  intro X G
  refine j_iload_n G dX12_letter_0 rfl ?_
  refine j_callS G ms_X12_121 dX12_letter_1 (m_isCode code h1) rfl rfl (by exact Nat.le_of_ble_eq_true rfl) (by decide) (kI ?_)
  refine j_if_eqB G dX12_letter_4 (tgt := 14) (by decide)  (fun c_4 => ?_) (fun c_4 => ?_)
  · refine j_iconst G dX12_letter_14 ?_
    refine j_ireturn G dX12_letter_15 ?_
    repeat' split
    all_goals first | exact ⟨rfl, rfl⟩ | omega
  · refine j_iload_n G dX12_letter_7 rfl ?_
    refine j_callS G ms_X12_125 dX12_letter_8 (m_isLetter l h2) rfl rfl (by exact Nat.le_of_ble_eq_true rfl) (by decide) (kI ?_)
    refine j_if_neB G dX12_letter_11 (tgt := 16) (by decide)  (fun c_11 => ?_) (fun c_11 => ?_)
    · refine j_iload_n G dX12_letter_16 rfl ?_
      refine j_i2l G (by omega) dX12_letter_17 ?_
      refine j_lconstI G 0 dX12_letter_18 (by decide) ?_
      refine j_ldc2I G (63) kl_X12_128 dX12_letter_19 (by decide) ?_
      refine j_callS G ms_X12_115 dX12_letter_22 (m_in _ _ _ (by omega) (by omega) (by omega)) rfl rfl (by exact Nat.le_of_ble_eq_true rfl) (by decide) (kI ?_)
      refine j_if_neB G dX12_letter_25 (tgt := 31) (by decide)  (fun c_25 => ?_) (fun c_25 => ?_)
      · first | refine j_aload_n G dX12_letter_31 rfl ?_ | refine j_aload_nN G dX12_letter_31 rfl ?_
        refine j_getr G fl_X12_7 dX12_letter_32 (by first | assumption | rfl) (by rfl) ?_
        refine j_bipush G dX12_letter_35 (by decide) ?_
        refine j_iload_n G dX12_letter_37 rfl ?_
        refine j_imul G dX12_letter_38 ?_
        refine j_iload_n G dX12_letter_39 rfl ?_
        refine j_iadd G dX12_letter_40 ?_
        refine j_iaload G dX12_letter_41 (by first | assumption | rfl) (by omega) (fun r_41 => ?_)
        try simp (disch := omega) only [up_same, up_cell, up_idx, cpm_at, fil_at] at r_41 ⊢
        refine j_istore4 G dX12_letter_42 (by decide) rfl ?_
        first | refine j_aload_n G dX12_letter_44 rfl ?_ | refine j_aload_nN G dX12_letter_44 rfl ?_
        refine j_getr G fl_X12_7 dX12_letter_45 (by first | assumption | rfl) (by rfl) ?_
        refine j_pc (p2 := 48) rfl ?_
        refine j_bipush G dX12_letter_48 (by decide) ?_
        refine j_iload_n G dX12_letter_50 rfl ?_
        refine j_imul G dX12_letter_51 ?_
        refine j_iload_n G dX12_letter_52 rfl ?_
        refine j_iadd G dX12_letter_53 ?_
        refine j_iload_n G dX12_letter_54 rfl ?_
        refine j_iastore G dX12_letter_55 (by first | assumption | rfl) (by omega) (by omega) ?_
        refine j_iload G dX12_letter_56 rfl ?_
        refine j_ireturn G dX12_letter_58 ?_
        repeat' split
        all_goals first | exact ⟨rfl, rfl⟩ | omega
      · refine j_bipush G dX12_letter_28 (by decide) ?_
        refine j_ireturn G dX12_letter_30 ?_
        repeat' split
        all_goals first | exact ⟨rfl, rfl⟩ | omega
    · refine j_iconst G dX12_letter_14 ?_
      refine j_ireturn G dX12_letter_15 ?_
      repeat' split
      all_goals first | exact ⟨rfl, rfl⟩ | omega
end ML
