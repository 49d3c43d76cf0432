def cwK2 : Nat → Prop := fun k => k = 9 ∨ k = 10
def cwQ2 : Int → Prop := fun i => i = 11
section CL
variable {E : EE} {x x1 x2 : CX} {μ σ τ : MemT}
theorem m_bookWith (b c S n m : Nat) (h_b : b < 8) (h_c : c < 5) (h_S : S < 4096) (h_n : σ 57 3 = n) (h_ww : WfWord σ) (h_rw : ReWord σ μ) (h_m : RoO σ m) (h_rm : RoM σ μ m) (h_wc : WfCode σ c) (h_rc : ReCode σ μ c) : CT (EM x) 2 yX12_bookWith [rf (EM x) 0, iv b, iv c, iv S] μ (rP (fun y ν => y = rfv (twN σ b c m S n) ∧ KX cwK2 cwQ2 μ ν)) := by
  obtain ⟨h_w1, h_w2, h_w3, h_w4⟩ := id h_ww
  obtain ⟨h_r1, h_r2, h_r3⟩ := id h_rw
  have h_tr := twN_rg (c := c) h_b h_ww h_n h_m S
  refine CT.ofJ (own := RX12) (cc := cX12_bookWith) (n := 8) (ret := (some .int)) (by decide) rfl cw_X12_bookWith (by decide) (Nat.le_of_ble_eq_true rfl) (ls := [some (rf (EM x) 0), some (iv b), some (iv c), some (iv S), none, none, none, none]) rfl ?_
  intro X G
  refine j_iconst G dX12_bookWith_0 ?_
  refine j_istore4 G dX12_bookWith_1 (by decide) rfl ?_
  refine j_iconst G dX12_bookWith_3 ?_
  refine j_istore5 G dX12_bookWith_4 (by decide) rfl ?_
  refine j_pc (p2 := 6) rfl ?_
  refine j_weak (ls' := [some (rf (EM x) 0), some (iv b), some (iv c), some (iv S), some (iv (rfv (twN σ b c m S 0))), some (iv ((0 : Nat) : Int)), none, none]) ?_ ⟨rfl, rfl, rfl, rfl, rfl, rfl, trivial⟩
  refine down (Pr := fun w => ∀ ν : MemT, KX cwK2 cwQ2 μ ν → JJ (EM x) X 2 (rP (fun y ν => y = rfv (twN σ b c m S n) ∧ KX cwK2 cwQ2 μ ν)) 8 6 [some (rf (EM x) 0), some (iv b), some (iv c), some (iv S), some (iv (rfv (twN σ b c m S w))), some (iv w), none, none] [] ν) n ?_ 0 (Nat.zero_le _) μ (KX.rf _ _ _)
  intro w h_w ih ν h_k
  have h_tw := h_tr w h_w
  have h_tv : cwv 1000000 (twN σ b c m S w) := by
    by_cases h_1 : twN σ b c m S w = 268435456
    · exact Or.inl h_1
    · exact Or.inr (by omega)
  have h_tf := rfv_rg h_tv (by decide)
  refine j_iload G dX12_bookWith_6 rfl ?_
  first | refine j_aload_n G dX12_bookWith_8 rfl ?_ | refine j_aload_nN G dX12_bookWith_8 rfl ?_
  refine j_geti G fl_X12_213 dX12_bookWith_9 22 rfl (by first | exact rfl | assumption) (by rfl) (fun r_9 => ?_)
  try simp (disch := omega) only [up_same, up_cell, up_idx, cpm_at, fil_at] at r_9 ⊢
  rw [h_k.2 22 (by unfold cwQ2; omega), h_r1, h_n]
  refine j_icmp_ge G dX12_bookWith_12 (tgt := 83) (by decide) (by omega) (by omega) (fun c_12 => ?_) (fun c_12 => ?_)
  · refine j_iload G dX12_bookWith_83 rfl ?_
    refine j_ireturn G dX12_bookWith_85 ?_
    obtain rfl : w = n := by omega
    exact ⟨_, rfl, rfl, h_k⟩
  · refine j_iload G dX12_bookWith_15 rfl ?_
    refine j_ldc G kc_X12_167 dX12_bookWith_17 (z := 100000000) (by decide) ?_
    refine j_icmp_ge G dX12_bookWith_19 (tgt := 83) (by decide) (by omega) (by omega) (fun c_19 => ?_) (fun c_19 => ?_)
    · have h_top := h_tf.2.2.1 (by omega)
      refine j_iload G dX12_bookWith_83 rfl ?_
      refine j_ireturn G dX12_bookWith_85 ?_
      exact ⟨_, rfl, by rw [h_top, twN_top h_b h_ww h_n h_m S h_top n h_w (Nat.le_refl _)], h_k⟩
    · have h_19 : ν 19 (30 * (b : Int) + w) = σ (61 + b) w := by rw [h_k.1 19 (by unfold cwK2; omega) (by decide)]; exact h_r3 b h_b w (by omega) (by omega)
      have h_ci := h_w4 b h_b w (by omega) (by omega)
      have h_ts := twN_s σ b c m S w
      have h_tne : twN σ b c m S w ≠ 268435456 := fun y => by have := h_tf.2.2.2 y; omega
      have h_77 : ∀ (ν2 : MemT) (s2 : Int), KX cwK2 cwQ2 μ ν2 → s2 = rfv (twN σ b c m S (w + 1)) → JJ (EM x) X 2 (rP (fun y ν => y = rfv (twN σ b c m S n) ∧ KX cwK2 cwQ2 μ ν)) 8 77 [some (rf (EM x) 0), some (iv b), some (iv c), some (iv S), some (iv s2), some (iv w), none, none] [] ν2 := by
        intro ν2 s2 h_k2 h_s2
        rw [h_s2]
        · refine j_iinc5 G dX12_bookWith_77 (by decide) rfl rfl ?_
          refine j_goto G dX12_bookWith_80 (tgt := 6) (by decide) ?_
          refine j_pc (p2 := 6) rfl ?_
          exact ih (by omega) ν2 h_k2
      first | refine j_aload_n G dX12_bookWith_22 rfl ?_ | refine j_aload_nN G dX12_bookWith_22 rfl ?_
      refine j_getr G fl_X12_65 dX12_bookWith_23 (by first | exact rfl | assumption) (by rfl) ?_
      refine j_bipush G dX12_bookWith_26 (by decide) ?_
      refine j_iload_n G dX12_bookWith_28 rfl ?_
      refine j_imul G dX12_bookWith_29 ?_
      refine j_iload G dX12_bookWith_30 rfl ?_
      refine j_iadd G dX12_bookWith_32 ?_
      refine j_iaload G dX12_bookWith_33 (by first | exact rfl | assumption) (by omega) (fun r_33 => ?_)
      try simp (disch := omega) only [up_same, up_cell, up_idx, cpm_at, fil_at] at r_33 ⊢
      rw [h_19]
      refine j_istore6 G dX12_bookWith_34 (by decide) rfl ?_
      refine j_iload G dX12_bookWith_36 rfl ?_
      refine j_if_le G dX12_bookWith_38 (tgt := 77) (by decide) (by omega) (fun c_38 => ?_) (fun c_38 => ?_)
      · rw [if_neg (by omega)] at h_ts
        exact j_weak (h_77 ν _ h_k (by rw [h_ts])) ⟨rfl, rfl, rfl, rfl, rfl, rfl, trivial⟩
      · rw [if_pos (by omega)] at h_ts
        obtain ⟨h_5, h_6⟩ := h_w3 w (by omega) (by omega)
        obtain ⟨h_7, h_8⟩ := h_r2 w (by omega) (by omega)
        obtain ⟨h_30, h_59, h_z, h_t⟩ := WdO h_ww h_n (show w < n by omega)
        first | refine j_aload_n G dX12_bookWith_41 rfl ?_ | refine j_aload_nN G dX12_bookWith_41 rfl ?_
        refine j_iload G dX12_bookWith_42 rfl ?_
        refine j_callV G mv_X12_229 dX12_bookWith_44 (m_layWord w (wsz σ w) (by omega) (by rw [h_k.1 18 (by unfold cwK2; omega) (by decide), h_7, h_59]) (by omega)) (by first | exact rfl | assumption) (by decide) (by rfl) rfl rfl (by exact Nat.le_of_ble_eq_true rfl) (by first | decide | omega) (kM (fun ν2 h_l => ?_))
        obtain ⟨h_l1, h_l2, h_l3⟩ := h_l
        have h_tx : TX ν2 (wsz σ w) (wtx σ w) := ⟨h_l2, fun j h_j => (h_l3 j h_j).trans (by rw [h_k.1 17 (by unfold cwK2; omega) (by decide)]; exact h_8 j (by omega) (by omega))⟩
        have h_k2 : KX cwK2 cwQ2 μ ν2 := ⟨fun j h_1 h_2 => (h_l1.1 j (fun h => h_1 (by unfold cwK2; omega)) h_2).trans (h_k.1 j h_1 h_2), fun j h_1 => (h_l1.2 j (fun h => h_1 (by unfold cwQ2; omega))).trans (h_k.2 j h_1)⟩
        have h_rc2 : ReCode σ ν2 c := h_rc.on (fun j h_1 h_2 => h_k2.1 j (by unfold cwK2; omega) (by omega))
        have h_rm2 : RoM σ ν2 m := h_rm.on (h_k2.1 20 (by unfold cwK2; omega) (by decide)) (h_k2.1 21 (by unfold cwK2; omega) (by decide)) (h_k2.2 28 (by unfold cwQ2; omega))
        first | refine j_aload_n G dX12_bookWith_47 rfl ?_ | refine j_aload_nN G dX12_bookWith_47 rfl ?_
        refine j_iload_n G dX12_bookWith_48 rfl ?_
        refine j_iload_n G dX12_bookWith_49 rfl ?_
        refine j_callV G mv_X12_241 dX12_bookWith_50 (m_cellsWith (σ := σ) c S (wsz σ w) m (wtx σ w) h_c h_S (by omega) h_tx h_t h_m h_rm2 h_wc h_rc2) (by first | exact rfl | assumption) (by decide) (by rfl) rfl rfl (by exact Nat.le_of_ble_eq_true rfl) (by first | decide | omega) (kP (fun y ν3 h_y => ?_))
        obtain ⟨rfl, h_o3⟩ := h_y
        have h_k3 : KX cwK2 cwQ2 μ ν3 := ⟨fun j h_1 h_2 => (h_o3 j (fun h => h_1 (by unfold cwK2; omega))).trans (h_k2.1 j h_1 h_2), fun j h_1 => by rw [h_o3 0 (by decide)]; exact h_k2.2 j h_1⟩
        have h_cw : cwA σ c (wtx σ w) (wsz σ w) m (fun r => S.testBit r) 0 = cwW σ c m w S := rfl
        rw [h_cw]
        have h_cv := cwW_rg (c := c) h_ww h_n (show w < n by omega) h_m S
        have h_cf := rfv_rg h_cv (by decide)
        refine j_istore7 G dX12_bookWith_53 (by decide) rfl ?_
        refine j_iload G dX12_bookWith_55 rfl ?_
        refine j_ldc G kc_X12_167 dX12_bookWith_57 (z := 100000000) (by decide) ?_
        refine j_icmp_ne G dX12_bookWith_59 (tgt := 67) (by decide) (by omega) (by omega) (fun c_59 => ?_) (fun c_59 => ?_)
        · have h_ne : cwW σ c m w S ≠ 268435456 := fun y => c_59 (by rw [y, rfv_i])
          rw [rfv_v h_ne]
          rw [rfv_v h_tne]
          rcases h_cv with h_4 | h_4
          · exact absurd h_4 h_ne
          have h_m1 := Int.mul_nonneg h_ci.1 h_4.1
          have h_m2 : σ (61 + b) w * cwW σ c m w S ≤ 1000 * 10 := Int.mul_le_mul h_ci.2 h_4.2 h_4.1 (by omega)
          refine j_iload G dX12_bookWith_67 rfl ?_
          refine j_iload G dX12_bookWith_69 rfl ?_
          refine j_iload G dX12_bookWith_71 rfl ?_
          refine j_imul G dX12_bookWith_73 ?_
          refine j_iadd G dX12_bookWith_74 ?_
          refine j_istore4 G dX12_bookWith_75 (by decide) rfl ?_
          refine j_pc (p2 := 77) rfl ?_
          exact j_weak (h_77 ν3 _ h_k3 (by rw [h_ts, if_neg h_ne, Int.min_eq_right (by omega), rfv_v (by omega)])) ⟨rfl, rfl, rfl, rfl, rfl, rfl, trivial⟩
        · refine j_ldc G kc_X12_167 dX12_bookWith_62 (z := 100000000) (by decide) ?_
          refine j_goto G dX12_bookWith_64 (tgt := 75) (by decide) ?_
          refine j_istore4 G dX12_bookWith_75 (by decide) rfl ?_
          refine j_pc (p2 := 77) rfl ?_
          exact j_weak (h_77 ν3 _ h_k3 (by rw [h_ts, if_pos (h_cf.2.2.1 c_59), Int.min_eq_left (by omega), rfv_i])) ⟨rfl, rfl, rfl, rfl, rfl, rfl, trivial⟩
theorem m_chosen (b c k n m : Nat) (what : Int) (h_wh : 0 ≤ what ∧ what ≤ 1) (h_b : b < 8) (h_c : c < 5) (h_k : k ≤ 12) (h_n : σ 57 3 = n) (h_ww : WfWord σ) (h_rw : ReWord σ μ) (h_m : RoO σ m) (h_rm : RoM σ μ m) (h_wc : WfCode σ c) (h_rc : ReCode σ μ c) : CT (EM x) 3 yX12_chosen [rf (EM x) 0, iv b, iv c, iv k, iv what] μ (rP (fun y ν => KM μ ν ∧ ((y = -5 ∧ ∀ R, R < 2 ^ m → ¬ gdO (fun S => twN σ b c m S n) k R) ∨ ∃ S : Nat, (y = if what = 0 then (S : Int) else twN σ b c m S n) ∧ opO (fun S => twN σ b c m S n) k (fun R => R < 2 ^ m) S))) := by
  have h_2m : 2 ^ m ≤ 2 ^ 12 := Nat.pow_le_pow_right (by decide) h_m.2.1
  have h_m12 := h_m.2.1
  have h_sl := shl32_one m (by omega)
  have h_n30 : n ≤ 30 := by have := h_ww.2.1; omega
  have h_tr := fun S => twN_rg (c := c) h_b h_ww h_n h_m S n (Nat.le_refl _)
  generalize h_post : (rP (fun y ν => KM μ ν ∧ ((y = -5 ∧ ∀ R, R < 2 ^ m → ¬ gdO (fun S => twN σ b c m S n) k R) ∨ ∃ S : Nat, (y = if what = 0 then (S : Int) else twN σ b c m S n) ∧ opO (fun S => twN σ b c m S n) k (fun R => R < 2 ^ m) S))) = post
  generalize h_TT : (fun S => twN σ b c m S n) = T at h_post
  have h_T1 : ∀ S, twN σ b c m S n = T S := fun S => congrFun h_TT S
  have h_Tr : ∀ S, 0 ≤ T S ∧ T S ≤ 268435456 ∧ (T S < 268435456 → T S ≤ 300000) := fun S => by rw [← h_T1]; have := h_tr S; omega
  refine CT.ofJ (own := RX12) (cc := cX12_chosen) (n := 9) (ret := (some .int)) (by decide) rfl cw_X12_chosen (by decide) (Nat.le_of_ble_eq_true rfl) (ls := [some (rf (EM x) 0), some (iv b), some (iv c), some (iv k), some (iv what), none, none, none, none]) rfl ?_
  intro X G
  refine j_iload_n G dX12_chosen_0 rfl ?_
  refine j_callS G ms_X12_218 dX12_chosen_1 (m_isBook b (by omega)) rfl rfl (by exact Nat.le_of_ble_eq_true rfl) (by first | decide | omega) (kI ?_)
  refine j_if_eqB G dX12_chosen_4 (tgt := 14) (by decide)  (fun c_4 => ?_) (fun c_4 => ?_)
  · refine j_iconst G dX12_chosen_14 ?_
    refine j_ireturn G dX12_chosen_15 ?_
    omega
  · refine j_iload_n G dX12_chosen_7 rfl ?_
    refine j_callS G ms_X12_121 dX12_chosen_8 (m_isCode c (by omega)) rfl rfl (by exact Nat.le_of_ble_eq_true rfl) (by first | decide | omega) (kI ?_)
    refine j_if_neB G dX12_chosen_11 (tgt := 16) (by decide)  (fun c_11 => ?_) (fun c_11 => ?_)
    · refine j_iload_n G dX12_chosen_16 rfl ?_
      refine j_i2l G (by omega) dX12_chosen_17 ?_
      refine j_lconstI G 0 dX12_chosen_18 (by decide) ?_
      refine j_ldc2I G (12) kl_X12_244 dX12_chosen_19 (by decide) ?_
      refine j_callS G ms_X12_115 dX12_chosen_22 (m_in _ _ _ (by omega) (by omega) (by omega)) rfl rfl (by exact Nat.le_of_ble_eq_true rfl) (by first | decide | omega) (kI ?_)
      refine j_if_eqB G dX12_chosen_25 (tgt := 39) (by decide)  (fun c_25 => ?_) (fun c_25 => ?_)
      · refine j_bipush G dX12_chosen_39 (by decide) ?_
        refine j_ireturn G dX12_chosen_41 ?_
        omega
      · refine j_iload G dX12_chosen_28 rfl ?_
        refine j_i2l G (by omega) dX12_chosen_30 ?_
        refine j_lconstI G 0 dX12_chosen_31 (by decide) ?_
        refine j_lconstI G 1 dX12_chosen_32 (by decide) ?_
        refine j_callS G ms_X12_115 dX12_chosen_33 (m_in _ _ _ (by omega) (by omega) (by omega)) rfl rfl (by exact Nat.le_of_ble_eq_true rfl) (by first | decide | omega) (kI ?_)
        refine j_if_neB G dX12_chosen_36 (tgt := 42) (by decide)  (fun c_36 => ?_) (fun c_36 => ?_)
        · refine j_iconst G dX12_chosen_42 ?_
          refine j_istore5 G dX12_chosen_43 (by decide) rfl ?_
          refine j_ldc G kc_X12_167 dX12_chosen_45 (z := 100000000) (by decide) ?_
          refine j_istore6 G dX12_chosen_47 (by decide) rfl ?_
          refine j_iconst G dX12_chosen_49 ?_
          refine j_istore7 G dX12_chosen_50 (by decide) rfl ?_
          refine j_pc (p2 := 52) rfl ?_
          generalize h_N : (2 ^ m : Nat) = N at h_2m h_sl h_post
          refine j_weak (ls' := [some (rf (EM x) 0), some (iv b), some (iv c), some (iv k), some (iv what), some (iv 0), some (iv 100000000), some (iv ((0 : Nat) : Int)), none]) ?_ ⟨rfl, rfl, rfl, rfl, rfl, rfl, rfl, rfl, trivial⟩
          refine down (Pr := fun j => ∀ (ν : MemT) (best least : Int), KX cwK2 cwQ2 μ ν → RSt T k (fun R => R < j) best least → JJ (EM x) X 3 post 9 52 [some (rf (EM x) 0), some (iv b), some (iv c), some (iv k), some (iv what), some (iv best), some (iv least), some (iv j), none] [] ν) N ?_ 0 (Nat.zero_le _) μ 0 100000000 (KX.rf _ _ _) (Or.inl ⟨rfl, rfl, fun R h_R => absurd h_R (Nat.not_lt_zero _)⟩)
          intro j h_j ih ν best least h_x h_st
          obtain ⟨bn, h_bn4, h_bne, h_lr⟩ : ∃ bn : Nat, bn < 4096 ∧ best = bn ∧ (0 ≤ least ∧ least ≤ 100000000) := by
            rcases h_st with ⟨h_1, h_2, -⟩ | ⟨S, h_1, h_2, h_3, h_4, -⟩
            · exact ⟨0, by decide, h_1, by omega⟩
            · have h_5 := h_Tr S
              have h_6 := h_4.2
              have h_7 : S < j := h_3
              exact ⟨S, by omega, h_1, by omega⟩
          have h_rm2 : RoM σ ν m := h_rm.on (h_x.1 20 (by unfold cwK2; omega) (by decide)) (h_x.1 21 (by unfold cwK2; omega) (by decide)) (h_x.2 28 (by unfold cwQ2; omega))
          refine j_iload G dX12_chosen_52 rfl ?_
          refine j_iconst G dX12_chosen_54 ?_
          first | refine j_aload_n G dX12_chosen_55 rfl ?_ | refine j_aload_nN G dX12_chosen_55 rfl ?_
          refine j_geti G fl_X12_235 dX12_chosen_56 28 rfl (by first | exact rfl | assumption) (by rfl) (fun r_56 => ?_)
          try simp (disch := omega) only [up_same, up_cell, up_idx, cpm_at, fil_at] at r_56 ⊢
          rw [h_rm2.1]
          refine j_ishl G dX12_chosen_59 ?_
          rw [h_sl]
          refine j_icmp_ge G dX12_chosen_60 (tgt := 123) (by decide) (by omega) (by omega) (fun c_60 => ?_) (fun c_60 => ?_)
          · obtain rfl : j = N := by omega
            have h_km : KM μ ν := h_x.wk (fun q h => by unfold cwK2 at h; unfold scM; omega) (fun q h => by unfold cwQ2 at h; unfold scF; omega)
            refine j_iload G dX12_chosen_123 rfl ?_
            refine j_ldc G kc_X12_167 dX12_chosen_125 (z := 100000000) (by decide) ?_
            refine j_icmp_ne G dX12_chosen_127 (tgt := 135) (by decide) (by omega) (by omega) (fun c_127 => ?_) (fun c_127 => ?_)
            · refine j_iload G dX12_chosen_135 rfl ?_
              refine j_if_ne G dX12_chosen_137 (tgt := 145) (by decide) (by omega) (fun c_137 => ?_) (fun c_137 => ?_)
              · refine j_iload G dX12_chosen_145 rfl ?_
                refine j_ireturn G dX12_chosen_147 ?_
                rw [← h_post]
                rcases h_st with ⟨h_1, h_2, h_3⟩ | ⟨S, h_1, h_2, h_3⟩
                · first
                  | omega
                  | exact ⟨-5, rfl, h_km, Or.inl ⟨rfl, h_3⟩⟩
                · have h_5 := h_3.2.1.2
                  have h_6 := h_Tr S
                  first
                  | omega
                  | exact ⟨_, rfl, h_km, Or.inr ⟨S, by rw [if_pos (by omega)]; exact h_1, h_3⟩⟩
                  | exact ⟨_, rfl, h_km, Or.inr ⟨S, by rw [if_neg (by omega), h_T1]; exact h_2, h_3⟩⟩
              · refine j_iload G dX12_chosen_140 rfl ?_
                refine j_goto G dX12_chosen_142 (tgt := 147) (by decide) ?_
                refine j_ireturn G dX12_chosen_147 ?_
                rw [← h_post]
                rcases h_st with ⟨h_1, h_2, h_3⟩ | ⟨S, h_1, h_2, h_3⟩
                · first
                  | omega
                  | exact ⟨-5, rfl, h_km, Or.inl ⟨rfl, h_3⟩⟩
                · have h_5 := h_3.2.1.2
                  have h_6 := h_Tr S
                  first
                  | omega
                  | exact ⟨_, rfl, h_km, Or.inr ⟨S, by rw [if_pos (by omega)]; exact h_1, h_3⟩⟩
                  | exact ⟨_, rfl, h_km, Or.inr ⟨S, by rw [if_neg (by omega), h_T1]; exact h_2, h_3⟩⟩
            · refine j_bipush G dX12_chosen_130 (by decide) ?_
              refine j_goto G dX12_chosen_132 (tgt := 147) (by decide) ?_
              refine j_ireturn G dX12_chosen_147 ?_
              rw [← h_post]
              rcases h_st with ⟨h_1, h_2, h_3⟩ | ⟨S, h_1, h_2, h_3⟩
              · first
                | omega
                | exact ⟨-5, rfl, h_km, Or.inl ⟨rfl, h_3⟩⟩
              · have h_5 := h_3.2.1.2
                have h_6 := h_Tr S
                first
                | omega
                | exact ⟨_, rfl, h_km, Or.inr ⟨S, by rw [if_pos (by omega)]; exact h_1, h_3⟩⟩
                | exact ⟨_, rfl, h_km, Or.inr ⟨S, by rw [if_neg (by omega), h_T1]; exact h_2, h_3⟩⟩
          · have h_pj := popN_le j 12
            have h_D : ∀ R, (R < j ∨ R = j) ↔ R < j + 1 := fun R => by omega
            have h_Tj := h_Tr j
            have h_117 : ∀ (ν2 : MemT) (best2 least2 : Int) (l8 : Option Value), KX cwK2 cwQ2 μ ν2 → RSt T k (fun R => R < j ∨ R = j) best2 least2 → JJ (EM x) X 3 post 9 117 [some (rf (EM x) 0), some (iv b), some (iv c), some (iv k), some (iv what), some (iv best2), some (iv least2), some (iv j), l8] [] ν2 := by
              intro ν2 best2 least2 l8 h_x2 h_s2
              · refine j_iinc7 G dX12_chosen_117 (by decide) rfl rfl ?_
                refine j_goto G dX12_chosen_120 (tgt := 52) (by decide) ?_
                refine j_pc (p2 := 52) rfl ?_
                exact j_weak (ih (by omega) ν2 best2 least2 h_x2 (h_s2.cg T k (fun R => (h_D R).symm))) ⟨rfl, rfl, rfl, rfl, rfl, rfl, rfl, rfl, trivial⟩
            have h_no : (gdO T k j → ¬ (T j < least ∨ (T j = least ∧ popN j 12 < popN bn 12))) → RSt T k (fun R => R < j ∨ R = j) best least := fun h => by
              rcases h_st with ⟨h_1, h_2, h_3⟩ | ⟨S, h_1, h_2, h_3⟩
              · refine Or.inl ⟨h_1, h_2, fun R h_R h_g => ?_⟩
                rcases h_R with h_R | h_R
                · exact h_3 R h_R h_g
                · subst h_R
                  have := h h_g
                  have := h_g.2
                  omega
              · obtain rfl : S = bn := by omega
                exact Or.inr ⟨S, h_1, h_2, opO_n T k h_3 (fun R h_R => h_R) (fun h_g h_5 => h h_g (by omega))⟩
            have h_yes : gdO T k j → (T j < least ∨ (T j = least ∧ popN j 12 < popN bn 12)) → RSt T k (fun R => R < j ∨ R = j) j (T j) := fun h_g h => by
              refine Or.inr ⟨j, rfl, rfl, ?_⟩
              rcases h_st with ⟨h_1, h_2, h_3⟩ | ⟨S, h_1, h_2, h_3⟩
              · exact opO_f T k h_3 h_g
              · obtain rfl : S = bn := by omega
                exact opO_y T k h_3 h_g (by omega)
            refine j_iload G dX12_chosen_63 rfl ?_
            refine j_callS G ms_X12_150 dX12_chosen_65 (m_ones j (by omega)) rfl rfl (by exact Nat.le_of_ble_eq_true rfl) (by first | decide | omega) (kI ?_)
            rw [popN_26 (by omega), show pop j = popN j 12 from rfl]
            refine j_iload_n G dX12_chosen_68 rfl ?_
            refine j_icmp_gt G dX12_chosen_69 (tgt := 117) (by decide) (by omega) (by omega) (fun c_69 => ?_) (fun c_69 => ?_)
            · exact h_117 ν best least _ h_x (h_no (fun h_g => by have := h_g.1; omega))
            · first | refine j_aload_n G dX12_chosen_72 rfl ?_ | refine j_aload_nN G dX12_chosen_72 rfl ?_
              refine j_iload_n G dX12_chosen_73 rfl ?_
              refine j_iload_n G dX12_chosen_74 rfl ?_
              refine j_iload G dX12_chosen_75 rfl ?_
              refine j_callV G mv_X12_246 dX12_chosen_77 (m_bookWith (σ := σ) b c j n m h_b h_c (by omega) h_n h_ww (h_rw.fr (fun _ _ _ => rfl) (fun q h_1 h_2 => h_x.1 q (by unfold cwK2; omega) (by omega)) (h_x.2 22 (by unfold cwQ2; omega))) h_m h_rm2 h_wc (h_rc.on (fun q h_1 h_2 => h_x.1 q (by unfold cwK2; omega) (by omega)))) (by first | exact rfl | assumption) (by decide) (by rfl) rfl rfl (by exact Nat.le_of_ble_eq_true rfl) (by first | decide | omega) (kP (fun y ν2 h_y => ?_))
              obtain ⟨rfl, h_x2⟩ := h_y
              rw [h_T1]
              have h_x3 := h_x.tr h_x2
              have h_pk : popN j 12 ≤ k := by omega
              have h_rv : (T j = 268435456 ∧ rfv (T j) = 100000000) ∨ (T j ≠ 268435456 ∧ rfv (T j) = T j) := by
                by_cases h_1 : T j = 268435456
                · exact Or.inl ⟨h_1, by rw [h_1, rfv_i]⟩
                · exact Or.inr ⟨h_1, rfv_v h_1⟩
              generalize rfv (T j) = is at h_rv ⊢
              refine j_istore8 G dX12_chosen_80 (by decide) rfl ?_
              refine j_iload G dX12_chosen_82 rfl ?_
              refine j_iload G dX12_chosen_84 rfl ?_
              refine j_icmp_lt G dX12_chosen_86 (tgt := 109) (by decide) (by omega) (by omega) (fun c_86 => ?_) (fun c_86 => ?_)
              · refine j_pc (p2 := 109) rfl ?_
                have h_lt : T j < 268435456 ∧ is = T j := by
                  rcases h_st with ⟨h_1, h_2, h_3⟩ | ⟨S, h_1, h_2, h_3⟩
                  · first
                    | omega
                    | (obtain rfl : bn = 0 := by omega
                       have h_p0 : popN 0 12 = 0 := rfl
                       omega)
                  · have h_5 := h_3.2.1.2
                    have h_6 := h_Tr S
                    omega
                have h_s2 := h_yes ⟨h_pk, h_lt.1⟩ (by omega)
                rw [h_lt.2]
                refine j_iload G dX12_chosen_109 rfl ?_
                refine j_istore6 G dX12_chosen_111 (by decide) rfl ?_
                refine j_iload G dX12_chosen_113 rfl ?_
                refine j_istore5 G dX12_chosen_115 (by decide) rfl ?_
                refine j_pc (p2 := 117) rfl ?_
                exact h_117 ν2 _ _ _ h_x3 h_s2
              · refine j_iload G dX12_chosen_89 rfl ?_
                refine j_iload G dX12_chosen_91 rfl ?_
                refine j_icmp_ne G dX12_chosen_93 (tgt := 117) (by decide) (by omega) (by omega) (fun c_93 => ?_) (fun c_93 => ?_)
                · exact h_117 ν2 best least _ h_x3 (h_no (fun h_g => by have := h_g.2; omega))
                · refine j_iload G dX12_chosen_96 rfl ?_
                  refine j_callS G ms_X12_150 dX12_chosen_98 (m_ones j (by omega)) rfl rfl (by exact Nat.le_of_ble_eq_true rfl) (by first | decide | omega) (kI ?_)
                  rw [popN_26 (by omega), show pop j = popN j 12 from rfl, h_bne]
                  refine j_iload G dX12_chosen_101 rfl ?_
                  refine j_callS G ms_X12_150 dX12_chosen_103 (m_ones bn (by omega)) rfl rfl (by exact Nat.le_of_ble_eq_true rfl) (by first | decide | omega) (kI ?_)
                  rw [popN_26 (by omega), show pop bn = popN bn 12 from rfl, ← h_bne]
                  have h_pb := popN_le bn 12
                  refine j_icmp_ge G dX12_chosen_106 (tgt := 117) (by decide) (by omega) (by omega) (fun c_106 => ?_) (fun c_106 => ?_)
                  · exact h_117 ν2 best least _ h_x3 (h_no (fun h_g => by have := h_g.2; omega))
                  · refine j_pc (p2 := 109) rfl ?_
                    have h_lt : T j < 268435456 ∧ is = T j := by
                      rcases h_st with ⟨h_1, h_2, h_3⟩ | ⟨S, h_1, h_2, h_3⟩
                      · first
                        | omega
                        | (obtain rfl : bn = 0 := by omega
                           have h_p0 : popN 0 12 = 0 := rfl
                           omega)
                      · have h_5 := h_3.2.1.2
                        have h_6 := h_Tr S
                        omega
                    have h_s2 := h_yes ⟨h_pk, h_lt.1⟩ (by omega)
                    rw [h_lt.2]
                    refine j_iload G dX12_chosen_109 rfl ?_
                    refine j_istore6 G dX12_chosen_111 (by decide) rfl ?_
                    refine j_iload G dX12_chosen_113 rfl ?_
                    refine j_istore5 G dX12_chosen_115 (by decide) rfl ?_
                    refine j_pc (p2 := 117) rfl ?_
                    exact h_117 ν2 _ _ _ h_x3 h_s2
        · refine j_bipush G dX12_chosen_39 (by decide) ?_
          refine j_ireturn G dX12_chosen_41 ?_
          omega
    · refine j_iconst G dX12_chosen_14 ?_
      refine j_ireturn G dX12_chosen_15 ?_
      omega
theorem m_chosenN (b c k what : Int) (h_1 : (-2147483648 ≤ b ∧ b < 2147483648)) (h_2 : (-2147483648 ≤ c ∧ c < 2147483648)) (h_N : ¬ ((0 ≤ c ∧ c ≤ 4) ∧ 0 ≤ b ∧ b ≤ 7)) : CT (EM x) 3 yX12_chosen [rf (EM x) 0, iv b, iv c, iv k, iv what] μ (rI (-1) μ) := by
  refine CT.ofJ (own := RX12) (cc := cX12_chosen) (n := 9) (ret := (some .int)) (by decide) rfl cw_X12_chosen (by decide) (Nat.le_of_ble_eq_true rfl) (ls := [some (rf (EM x) 0), some (iv b), some (iv c), some (iv k), some (iv what), none, none, none, none]) rfl ?_
  intro X G
  refine j_iload_n G dX12_chosen_0 rfl ?_
  refine j_callS G ms_X12_218 dX12_chosen_1 (m_isBook b h_1) rfl rfl (by exact Nat.le_of_ble_eq_true rfl) (by first | decide | omega) (kI ?_)
  refine j_if_eqB G dX12_chosen_4 (tgt := 14) (by decide)  (fun c_4 => ?_) (fun c_4 => ?_)
  · refine j_iconst G dX12_chosen_14 ?_
    refine j_ireturn G dX12_chosen_15 ?_
    exact ⟨rfl, rfl⟩
  · refine j_iload_n G dX12_chosen_7 rfl ?_
    refine j_callS G ms_X12_121 dX12_chosen_8 (m_isCode c h_2) rfl rfl (by exact Nat.le_of_ble_eq_true rfl) (by first | decide | omega) (kI ?_)
    refine j_if_neB G dX12_chosen_11 (tgt := 16) (by decide)  (fun c_11 => ?_) (fun c_11 => ?_)
    · omega
    · refine j_iconst G dX12_chosen_14 ?_
      refine j_ireturn G dX12_chosen_15 ?_
      exact ⟨rfl, rfl⟩
theorem m_chosenO (b c : Nat) (k what : Int) (h_b : b < 8) (h_c : c < 5) (h_1 : (-2147483648 ≤ k ∧ k < 2147483648)) (h_2 : (-2147483648 ≤ what ∧ what < 2147483648)) (h_N : ¬ ((0 ≤ k ∧ k ≤ 12) ∧ 0 ≤ what ∧ what ≤ 1)) : CT (EM x) 3 yX12_chosen [rf (EM x) 0, iv b, iv c, iv k, iv what] μ (rI (-2) μ) := by
  refine CT.ofJ (own := RX12) (cc := cX12_chosen) (n := 9) (ret := (some .int)) (by decide) rfl cw_X12_chosen (by decide) (Nat.le_of_ble_eq_true rfl) (ls := [some (rf (EM x) 0), some (iv b), some (iv c), some (iv k), some (iv what), none, none, none, none]) rfl ?_
  intro X G
  refine j_iload_n G dX12_chosen_0 rfl ?_
  refine j_callS G ms_X12_218 dX12_chosen_1 (m_isBook b (by omega)) rfl rfl (by exact Nat.le_of_ble_eq_true rfl) (by first | decide | omega) (kI ?_)
  refine j_if_eqB G dX12_chosen_4 (tgt := 14) (by decide)  (fun c_4 => ?_) (fun c_4 => ?_)
  · refine j_iconst G dX12_chosen_14 ?_
    refine j_ireturn G dX12_chosen_15 ?_
    omega
  · refine j_iload_n G dX12_chosen_7 rfl ?_
    refine j_callS G ms_X12_121 dX12_chosen_8 (m_isCode c (by omega)) rfl rfl (by exact Nat.le_of_ble_eq_true rfl) (by first | decide | omega) (kI ?_)
    refine j_if_neB G dX12_chosen_11 (tgt := 16) (by decide)  (fun c_11 => ?_) (fun c_11 => ?_)
    · refine j_iload_n G dX12_chosen_16 rfl ?_
      refine j_i2l G (by omega) dX12_chosen_17 ?_
      refine j_lconstI G 0 dX12_chosen_18 (by decide) ?_
      refine j_ldc2I G (12) kl_X12_244 dX12_chosen_19 (by decide) ?_
      refine j_callS G ms_X12_115 dX12_chosen_22 (m_in _ _ _ (by omega) (by omega) (by omega)) rfl rfl (by exact Nat.le_of_ble_eq_true rfl) (by first | decide | omega) (kI ?_)
      refine j_if_eqB G dX12_chosen_25 (tgt := 39) (by decide)  (fun c_25 => ?_) (fun c_25 => ?_)
      · refine j_bipush G dX12_chosen_39 (by decide) ?_
        refine j_ireturn G dX12_chosen_41 ?_
        exact ⟨rfl, rfl⟩
      · refine j_iload G dX12_chosen_28 rfl ?_
        refine j_i2l G (by omega) dX12_chosen_30 ?_
        refine j_lconstI G 0 dX12_chosen_31 (by decide) ?_
        refine j_lconstI G 1 dX12_chosen_32 (by decide) ?_
        refine j_callS G ms_X12_115 dX12_chosen_33 (m_in _ _ _ (by omega) (by omega) (by omega)) rfl rfl (by exact Nat.le_of_ble_eq_true rfl) (by first | decide | omega) (kI ?_)
        refine j_if_neB G dX12_chosen_36 (tgt := 42) (by decide)  (fun c_36 => ?_) (fun c_36 => ?_)
        · omega
        · refine j_bipush G dX12_chosen_39 (by decide) ?_
          refine j_ireturn G dX12_chosen_41 ?_
          exact ⟨rfl, rfl⟩
    · refine j_iconst G dX12_chosen_14 ?_
      refine j_ireturn G dX12_chosen_15 ?_
      omega
theorem op_chosen (b c k what : Int) (h_1 : (-2147483648 ≤ b ∧ b < 2147483648)) (h_2 : (-2147483648 ≤ c ∧ c < 2147483648)) (h_3 : (-2147483648 ≤ k ∧ k < 2147483648)) (h_4 : (-2147483648 ≤ what ∧ what < 2147483648)) : OP x1 x2 yX11_chosen yX12_chosen [iv b, iv c, iv k, iv what] := by
  refine OP.same (fun σ μ hw hr => ?_)
  obtain ⟨w1, w2, w3, w4, w5, w6, w7, w8⟩ := id hw
  obtain ⟨r1, r2, r3, r4, r5, r6, r7, r8⟩ := id hr
  by_cases h_N : (0 ≤ c ∧ c ≤ 4) ∧ 0 ≤ b ∧ b ≤ 7
  · obtain ⟨cc, h_c4, rfl⟩ := nat_of (n := 4) h_N.1
    obtain ⟨bb, h_b7, rfl⟩ := nat_of (n := 7) h_N.2
    by_cases h_O : (0 ≤ k ∧ k ≤ 12) ∧ 0 ≤ what ∧ what ≤ 1
    · obtain ⟨kk, h_k12, rfl⟩ := nat_of (n := 12) h_O.1
      obtain ⟨n, h_n30, h_n⟩ := nat_of (n := 30) w3.2.1
      have h_c := c_chosen (x := x1) bb n _ cc kk what h_O.2 (by omega) h_n (by omega) (w1 cc (by omega)) w3 w4 (RoO.of w4) (by omega)
      have h_m := m_chosen (x := x2) bb cc kk n _ what h_O.2 (by omega) (by omega) (by omega) h_n w3 r3 (RoO.of w4) (RoM.of w4 r4) (w1 cc (by omega)) (r1 cc (by omega))
      generalize (σ 70 3).toNat = m at h_c h_m
      rcases opO_ex (fun S => twN σ bb cc m S n) kk (2 ^ m) with ⟨S, h_S⟩ | h_no
      · refine ⟨if what = 0 then (S : Int) else twN σ bb cc m S n, _, _, (by decide), (by decide), h_c.mono (fun r t q => ?_), h_m.mono (fun r t q => ?_)⟩
        · obtain ⟨z, q1, q2, q3⟩ := q
          refine ⟨z, q1, ?_, q2⟩
          rcases q3 with ⟨q4, q5⟩ | ⟨R, q4, q5, -⟩
          · exact absurd ⟨S, h_S⟩ q5
          · rw [q4, opO_u _ kk (q5 ⟨S, h_S⟩) h_S]
        · obtain ⟨z, q1, q2, q3⟩ := q
          refine ⟨z, q1, ?_, q2⟩
          rcases q3 with ⟨q4, q5⟩ | ⟨R, q4, q5⟩
          · exact absurd h_S.2.1 (q5 S h_S.1)
          · rw [q4, opO_u _ kk q5 h_S]
      · refine ⟨-5, _, _, (by decide), (by decide), h_c.mono (fun r t q => ?_), h_m.mono (fun r t q => ?_)⟩
        · obtain ⟨z, q1, q2, q3⟩ := q
          refine ⟨z, q1, ?_, q2⟩
          rcases q3 with ⟨q4, q5⟩ | ⟨R, q4, q5, q6, q7⟩
          · exact q4
          · exact absurd q6 (h_no R q7)
        · obtain ⟨z, q1, q2, q3⟩ := q
          refine ⟨z, q1, ?_, q2⟩
          rcases q3 with ⟨q4, q5⟩ | ⟨R, q4, q5⟩
          · exact q4
          · exact absurd q5.2.1 (h_no R q5.1)
    · exact ⟨_, _, _, by decide, by decide, rI_P (c_chosenO bb cc k what (by omega) (by omega) h_3 h_4 h_O) ⟨rfl, KC.rf _⟩, rI_P (m_chosenO bb cc k what (by omega) (by omega) h_3 h_4 h_O) ⟨rfl, KM.rf _⟩⟩
  · have h_m := m_chosenN (x := x2) (μ := μ) b c k what h_1 h_2 h_N
    by_cases h_c : 0 ≤ c ∧ c ≤ 4
    · obtain ⟨cc, h_c4, rfl⟩ := nat_of (n := 4) h_c
      exact ⟨_, _, _, by decide, by decide, rI_P (c_chosenN1 b k what cc (by omega) h_1 (by omega)) ⟨rfl, KC.rf _⟩, rI_P h_m ⟨rfl, KM.rf _⟩⟩
    · exact ⟨_, _, _, by decide, by decide, rI_P (c_chosenN2 b c k what h_2 h_c) ⟨rfl, KC.rf _⟩, rI_P h_m ⟨rfl, KM.rf _⟩⟩
end CL
