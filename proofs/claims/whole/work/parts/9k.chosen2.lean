theorem opO_ex (T : Nat → Int) (k : Nat) : ∀ N, (∃ S, opO T k (fun R => R < N) S) ∨ ∀ R, R < N → ¬ gdO T k R
  | 0 => Or.inr (fun R h => absurd h (Nat.not_lt_zero _))
  | N + 1 => by
    have h_D : ∀ R, (R < N ∨ R = N) ↔ R < N + 1 := fun R => by omega
    rcases opO_ex T k N with ⟨S, h_S⟩ | h_n
    · by_cases h_b : gdO T k N ∧ (T N < T S ∨ (T N = T S ∧ popN N 12 < popN S 12))
      · exact Or.inl ⟨N, opO_cg T k h_D (opO_y T k h_S h_b.1 h_b.2)⟩
      · exact Or.inl ⟨S, opO_cg T k h_D (opO_n T k h_S (fun R h => h) (fun h_g h_c => h_b ⟨h_g, h_c⟩))⟩
    · by_cases h_g : gdO T k N
      · exact Or.inl ⟨N, opO_cg T k h_D (opO_f T k h_n h_g)⟩
      · refine Or.inr (fun R h_R => ?_)
        by_cases h_e : R = N
        · rw [h_e]
          exact h_g
        · exact h_n R (by omega)
theorem rfv_i : rfv 268435456 = 100000000 := if_pos rfl
theorem rfv_v {v : Int} (h : v ≠ 268435456) : rfv v = v := if_neg h
theorem rfv_rg {k : Nat} {v : Int} (h : cwv k v) (h_k : k ≤ 1000000) : 0 ≤ rfv v ∧ rfv v ≤ 100000000 ∧ (rfv v = 100000000 ↔ v = 268435456) := by
  rcases h with h | h
  · rw [h, rfv_i]
    omega
  · rw [rfv_v (by omega)]
    omega
theorem rfv_min {k : Nat} {a b : Int} (h_a : cwv k a) (h_b : cwv k b) (h_k : k ≤ 1000000) : rfv (min b a) = if rfv a < rfv b then rfv a else rfv b := by
  rcases h_a with h_a | h_a
  · rw [h_a, rfv_i]
    rcases h_b with h_b | h_b
    · rw [h_b, rfv_i, if_neg (by omega), Int.min_self, rfv_i]
    · rw [Int.min_eq_left (by omega), rfv_v (by omega), if_neg (by omega)]
  · rw [rfv_v (v := a) (by omega)]
    rcases h_b with h_b | h_b
    · rw [h_b, rfv_i, if_pos (by omega), Int.min_eq_right (by omega), rfv_v (by omega)]
    · rw [rfv_v (v := b) (by omega), rfv_v (by omega)]
      split <;> omega
theorem twN_top {σ : MemT} {b c m n : Nat} (h_b : b < 8) (h_ww : WfWord σ) (h_n : σ 57 3 = n) (h_m : RoO σ m) (S : Nat) {w : Nat} (h : twN σ b c m S w = 268435456) : ∀ v, w ≤ v → v ≤ n → twN σ b c m S v = 268435456
  | 0, h_1, _ => by rw [show w = 0 by omega] at h; exact h
  | v + 1, h_1, h_2 => by
    by_cases h_e : w = v + 1
    · rw [← h_e]; exact h
    · have ih := twN_top h_b h_ww h_n h_m S h v (by omega) (by omega)
      rw [twN_s, ih]
      have h_30 : n ≤ 30 := (WdO h_ww h_n (show v < n by omega)).1
      have h_3 := h_ww.2.2.2 b h_b v (by omega) (by omega)
      split
      · rcases cwW_rg (c := c) h_ww h_n (show v < n by omega) h_m S with h_4 | h_4
        · rw [if_pos h_4]
          omega
        · rw [if_neg (by omega)]
          have := Int.mul_nonneg h_3.1 h_4.1
          omega
      · rfl
section CK
variable {E : EE} {x x1 x2 : CX} {μ σ τ : MemT}
def RoM (σ μ : MemT) (m : Nat) : Prop := μ 0 28 = m ∧ ∀ r : Nat, r < m → μ 21 r = (roL σ r : Nat) ∧ ∀ i : Nat, i < roL σ r → μ 20 (4 * (r : Int) + i) = σ 71 (4 * (r : Int) + i) ∧ (0 ≤ σ 71 (4 * (r : Int) + i) ∧ σ 71 (4 * (r : Int) + i) ≤ 25)
theorem RoM.of (h_w : WfRow σ) (h_r : ReRow σ μ) : RoM σ μ (σ 70 3).toNat := by
  obtain ⟨h_1, h_2, h_3⟩ := h_w
  obtain ⟨h_4, h_5⟩ := h_r
  refine ⟨by omega, fun r h_rm => ?_⟩
  obtain ⟨h_6, h_7⟩ := h_3 r (by omega) (by omega)
  obtain ⟨h_8, h_9⟩ := h_5 r (by omega) (by omega)
  unfold roL
  exact ⟨by omega, fun i h_i => ⟨h_9 i (by omega) (by omega), h_7 i (by omega) (by omega)⟩⟩
theorem RoM.on {ν : MemT} {m : Nat} (h : RoM σ μ m) (h_1 : ν 20 = μ 20) (h_2 : ν 21 = μ 21) (h_3 : ν 0 28 = μ 0 28) : RoM σ ν m := by
  unfold RoM at h ⊢
  rw [h_1, h_2, h_3]
  exact h
theorem m_rowFits (r p z m : Nat) (t : Nat → Int) (h_m : RoO σ m) (h_r : r < m) (h_p : p < z) (h_z : z ≤ 10) (h_tx : TX μ z t) (h_t : ∀ i, i < z → 0 ≤ t i ∧ t i ≤ 25) (h_rm : RoM σ μ m) : CT (EM x) 0 yX12_rowFits [rf (EM x) 0, iv r, iv p] μ (rI (b2 (roF σ t z r p = true)) μ) := by
  obtain ⟨h_a1, h_a2, h_a3⟩ := id h_m
  obtain ⟨-, h_l2, h_l4⟩ := h_a3 r h_r
  obtain ⟨h_21, h_20⟩ := h_rm.2 r h_r
  have h_rf : roF σ t z r p = (decide ((p : Int) + roL σ r ≤ z) && eqB (fun i => σ 71 (4 * (r : Int) + i)) (fun i => t (p + i)) (roL σ r)) := rfl
  rw [h_rf]
  refine CT.ofJ (own := RX12) (cc := cX12_rowFits) (n := 5) (ret := (some .boolean)) (by decide) rfl cw_X12_rowFits (by decide) (Nat.le_of_ble_eq_true rfl) (ls := [some (rf (EM x) 0), some (iv r), some (iv p), none, none]) rfl ?_
  intro X G
  have h_ex : ∀ i : Int, JJ (EM x) X 0 (rI 0 μ) 5 24 [some (rf (EM x) 0), some (iv r), some (iv p), some (iv 0), some (iv i)] [] μ := by
    intro i
    refine j_iload_n G dX12_rowFits_24 rfl ?_
    refine j_if_eq G dX12_rowFits_25 (tgt := 74) (by decide) (by omega) (fun c_25 => ?_) (fun c_25 => ?_)
    · refine j_iload_n G dX12_rowFits_74 rfl ?_
      refine j_zreturn G dX12_rowFits_75 (by first | exact b2_01 _ | omega) ?_
      exact ⟨rfl, rfl⟩
    · omega
  refine j_iload_n G dX12_rowFits_0 rfl ?_
  first | refine j_aload_n G dX12_rowFits_1 rfl ?_ | refine j_aload_nN G dX12_rowFits_1 rfl ?_
  refine j_getr G fl_X12_71 dX12_rowFits_2 (by first | exact rfl | assumption) (by rfl) ?_
  refine j_iload_n G dX12_rowFits_5 rfl ?_
  refine j_iaload G dX12_rowFits_6 (by first | exact rfl | assumption) (by omega) (fun r_6 => ?_)
  try simp (disch := omega) only [up_same, up_cell, up_idx, cpm_at, fil_at] at r_6 ⊢
  rw [h_21]
  refine j_iadd G dX12_rowFits_7 ?_
  first | refine j_aload_n G dX12_rowFits_8 rfl ?_ | refine j_aload_nN G dX12_rowFits_8 rfl ?_
  refine j_geti G fl_X12_161 dX12_rowFits_9 11 rfl (by first | exact rfl | assumption) (by rfl) (fun r_9 => ?_)
  try simp (disch := omega) only [up_same, up_cell, up_idx, cpm_at, fil_at] at r_9 ⊢
  rw [h_tx.1]
  refine j_icmp_gt G dX12_rowFits_12 (tgt := 19) (by decide) (by omega) (by omega) (fun c_12 => ?_) (fun c_12 => ?_)
  · rw [decide_eq_false (show ¬ (p : Int) + roL σ r ≤ z by omega), Bool.false_and]
    refine j_iconst G dX12_rowFits_19 ?_
    refine j_istore3 G dX12_rowFits_20 (by decide) rfl ?_
    refine j_iconst G dX12_rowFits_21 ?_
    refine j_istore4 G dX12_rowFits_22 (by decide) rfl ?_
    refine j_pc (p2 := 24) rfl ?_
    exact h_ex 0
  · refine j_iconst G dX12_rowFits_15 ?_
    refine j_goto G dX12_rowFits_16 (tgt := 20) (by decide) ?_
    refine j_istore3 G dX12_rowFits_20 (by decide) rfl ?_
    refine j_iconst G dX12_rowFits_21 ?_
    refine j_istore4 G dX12_rowFits_22 (by decide) rfl ?_
    refine j_pc (p2 := 24) rfl ?_
    rw [decide_eq_true (show (p : Int) + roL σ r ≤ z by omega), Bool.true_and]
    refine down (Pr := fun i => (∀ j : Nat, j < i → σ 71 (4 * (r : Int) + j) = t (p + j)) → JJ (EM x) X 0 (rI (b2 (eqB (fun i => σ 71 (4 * (r : Int) + i)) (fun i => t (p + i)) (roL σ r) = true)) μ) 5 24 [some (rf (EM x) 0), some (iv r), some (iv p), some (iv 1), some (iv i)] [] μ) (roL σ r) ?_ 0 (Nat.zero_le _) (fun j h_j => by omega)
    intro i h_i ih h_al
    refine j_iload_n G dX12_rowFits_24 rfl ?_
    refine j_if_eq G dX12_rowFits_25 (tgt := 74) (by decide) (by omega) (fun c_25 => ?_) (fun c_25 => ?_)
    · omega
    · refine j_iload G dX12_rowFits_28 rfl ?_
      first | refine j_aload_n G dX12_rowFits_30 rfl ?_ | refine j_aload_nN G dX12_rowFits_30 rfl ?_
      refine j_getr G fl_X12_71 dX12_rowFits_31 (by first | exact rfl | assumption) (by rfl) ?_
      refine j_iload_n G dX12_rowFits_34 rfl ?_
      refine j_iaload G dX12_rowFits_35 (by first | exact rfl | assumption) (by omega) (fun r_35 => ?_)
      try simp (disch := omega) only [up_same, up_cell, up_idx, cpm_at, fil_at] at r_35 ⊢
      rw [h_21]
      refine j_icmp_ge G dX12_rowFits_36 (tgt := 74) (by decide) (by omega) (by omega) (fun c_36 => ?_) (fun c_36 => ?_)
      · refine j_iload_n G dX12_rowFits_74 rfl ?_
        refine j_zreturn G dX12_rowFits_75 (by first | exact b2_01 _ | omega) ?_
        obtain rfl : i = roL σ r := by omega
        rw [eqB_iff.2 h_al]
        exact ⟨rfl, rfl⟩
      · obtain ⟨h_20i, h_20r⟩ := h_20 i (by omega)
        have h_ti : μ 9 ((p : Int) + i) = t (p + i) := h_tx.2 (p + i) (by omega)
        have h_tr := h_t (p + i) (by omega)
        first | refine j_aload_n G dX12_rowFits_39 rfl ?_ | refine j_aload_nN G dX12_rowFits_39 rfl ?_
        refine j_getr G fl_X12_68 dX12_rowFits_40 (by first | exact rfl | assumption) (by rfl) ?_
        refine j_iconst G dX12_rowFits_43 ?_
        refine j_iload_n G dX12_rowFits_44 rfl ?_
        refine j_imul G dX12_rowFits_45 ?_
        refine j_iload G dX12_rowFits_46 rfl ?_
        refine j_iadd G dX12_rowFits_48 ?_
        refine j_iaload G dX12_rowFits_49 (by first | exact rfl | assumption) (by omega) (fun r_49 => ?_)
        try simp (disch := omega) only [up_same, up_cell, up_idx, cpm_at, fil_at] at r_49 ⊢
        rw [h_20i]
        first | refine j_aload_n G dX12_rowFits_50 rfl ?_ | refine j_aload_nN G dX12_rowFits_50 rfl ?_
        refine j_getr G fl_X12_34 dX12_rowFits_51 (by first | exact rfl | assumption) (by rfl) ?_
        refine j_iload_n G dX12_rowFits_54 rfl ?_
        refine j_pc (p2 := 55) rfl ?_
        refine j_iload G dX12_rowFits_55 rfl ?_
        refine j_iadd G dX12_rowFits_57 ?_
        refine j_iaload G dX12_rowFits_58 (by first | exact rfl | assumption) (by omega) (fun r_58 => ?_)
        try simp (disch := omega) only [up_same, up_cell, up_idx, cpm_at, fil_at] at r_58 ⊢
        rw [h_ti]
        refine j_icmp_ne G dX12_rowFits_59 (tgt := 66) (by decide) (by omega) (by omega) (fun c_59 => ?_) (fun c_59 => ?_)
        · rw [show eqB (fun i => σ 71 (4 * (r : Int) + i)) (fun i => t (p + i)) (roL σ r) = false from Bool.eq_false_iff.2 (fun y => c_59 (eqB_iff.1 y i (by omega)))]
          refine j_iconst G dX12_rowFits_66 ?_
          refine j_istore3 G dX12_rowFits_67 (by decide) rfl ?_
          refine j_iinc4 G dX12_rowFits_68 (by decide) rfl rfl ?_
          refine j_goto G dX12_rowFits_71 (tgt := 24) (by decide) ?_
          refine j_pc (p2 := 24) rfl ?_
          exact h_ex _
        · refine j_iconst G dX12_rowFits_62 ?_
          refine j_goto G dX12_rowFits_63 (tgt := 67) (by decide) ?_
          refine j_istore3 G dX12_rowFits_67 (by decide) rfl ?_
          refine j_iinc4 G dX12_rowFits_68 (by decide) rfl rfl ?_
          refine j_goto G dX12_rowFits_71 (tgt := 24) (by decide) ?_
          refine j_pc (p2 := 24) rfl ?_
          refine ih (by omega) (fun j h_j => ?_)
          by_cases h_e2 : j = i
          · rw [h_e2]
            exact c_59
          · exact h_al j (by omega)
theorem m_cellsWith (c S z m : Nat) (t : Nat → Int) (h_c : c < 5) (h_S : S < 4096) (h_z : z ≤ 10) (h_tx : TX μ z t) (h_t : ∀ i, i < z → 0 ≤ t i ∧ t i ≤ 25) (h_m : RoO σ m) (h_rm : RoM σ μ m) (h_wc : WfCode σ c) (h_rc : ReCode σ μ c) : CT (EM x) 1 yX12_cellsWith [rf (EM x) 0, iv c, iv S] μ (rP (fun y ν => y = rfv (cwA σ c t z m (fun r => S.testBit r) 0) ∧ Ons (· = 10) μ ν)) := by
  have h_cv := cwA_v (c := c) (t := t) (z := z) h_m (fun r => S.testBit r)
  have h_cs := fun p (h_p : p < z) => cwA_s (c := c) (t := t) (z := z) h_m (rs := fun r => S.testBit r) h_p
  have h_ce := cwA_e σ c t z m (fun r => S.testBit r)
  generalize h_AA : cwA σ c t z m (fun r => S.testBit r) = A at h_cv h_cs h_ce ⊢
  have h_cv2 : ∀ p, p ≤ z → cwv 20 (A p) := fun p h_p => by
    rcases h_cv p h_p with h | h
    · exact Or.inl h
    · exact Or.inr (by omega)
  have h_cr := fun p h_p => rfv_rg (h_cv2 p h_p) (by decide)
  obtain ⟨h_a1, h_a2, h_a3⟩ := id h_m
  refine CT.ofJ (own := RX12) (cc := cX12_cellsWith) (n := 7) (ret := (some .int)) (by decide) rfl cw_X12_cellsWith (by decide) (Nat.le_of_ble_eq_true rfl) (ls := [some (rf (EM x) 0), some (iv c), some (iv S), none, none, none, none]) rfl ?_
  intro X G
  have h_lp : ∀ i : Nat, i ≤ z → ∀ ν : MemT, Ons (· = 10) μ ν → (∀ q : Nat, i ≤ q → q ≤ z → ν 10 q = rfv (A q)) → JJ (EM x) X 1 (rP (fun y ν => y = rfv (A 0) ∧ Ons (· = 10) μ ν)) 7 17 [some (rf (EM x) 0), some (iv c), some (iv S), some (iv ((i : Int) - 1)), none, none, none] [] ν := by
    intro i
    induction i with
    | zero =>
      intro h_i ν h_o h_v
      have h_0 := h_v 0 (by omega) (by omega)
      · refine j_iload_n G dX12_cellsWith_17 rfl ?_
        refine j_if_lt G dX12_cellsWith_18 (tgt := 158) (by decide) (by omega) (fun c_18 => ?_) (fun c_18 => ?_)
        · first | refine j_aload_n G dX12_cellsWith_158 rfl ?_ | refine j_aload_nN G dX12_cellsWith_158 rfl ?_
          refine j_getr G fl_X12_37 dX12_cellsWith_159 (by first | exact rfl | assumption) (by rfl) ?_
          refine j_iconst G dX12_cellsWith_162 ?_
          refine j_iaload G dX12_cellsWith_163 (by first | exact rfl | assumption) (by omega) (fun r_163 => ?_)
          try simp (disch := omega) only [up_same, up_cell, up_idx, cpm_at, fil_at] at r_163 ⊢
          refine j_ireturn G dX12_cellsWith_164 ?_
          exact ⟨_, rfl, h_0, h_o⟩
        · omega
    | succ i ih =>
      intro h_i ν h_o h_v
      rw [show ((i + 1 : Nat) : Int) - 1 = i by omega]
      have h_ti := h_t i (by omega)
      have h_wi : ν 9 i = t i := by rw [h_o 9 (by decide)]; exact h_tx.2 i (by omega)
      have h_c1 : ν 1 (26 * (c : Int) + t i) = σ (3 + 7 * c) (t i) := by rw [h_o 1 (by decide)]; exact h_rc.1 (t i) h_ti.1 (by omega)
      have h_ci := h_wc.1 (t i) h_ti.1 (by omega)
      have h_vi : ν 10 ((i : Int) + 1) = rfv (A (i + 1)) := h_v (i + 1) (by omega) (by omega)
      have h_cr1 := h_cr (i + 1) (by omega)
      have h_st := h_cs i (by omega)
      unfold stC at h_st
      have h_rm2 : RoM σ ν m := h_rm.on (h_o 20 (by decide)) (h_o 21 (by decide)) (by rw [h_o 0 (by decide)])
      have h_tx2 : TX ν z t := ⟨by rw [h_o 0 (by decide)]; exact h_tx.1, fun j h_j => by rw [h_o 9 (by decide)]; exact h_tx.2 j h_j⟩
      have h_53 : ∀ (i0 : Int), cwv 20 i0 → i0 = (if σ (3 + 7 * c) (t i) = 0 then 268435456 else A (i + 1)) → JJ (EM x) X 1 (rP (fun y ν => y = rfv (A 0) ∧ Ons (· = 10) μ ν)) 7 53 [some (rf (EM x) 0), some (iv c), some (iv S), some (iv i), none, none, none] [iv (rfv i0)] ν := by
        intro i0 h_i0 h_i0e
        rw [← h_i0e] at h_st
        · refine j_istore4 G dX12_cellsWith_53 (by decide) rfl ?_
          refine j_iconst G dX12_cellsWith_55 ?_
          refine j_istore5 G dX12_cellsWith_56 (by decide) rfl ?_
          refine j_pc (p2 := 58) rfl ?_
          refine j_weak (ls' := [some (rf (EM x) 0), some (iv c), some (iv S), some (iv i), some (iv (rfv (lsM (fun r => S.testBit r && roF σ t z r i) (fun r => A (i + roL σ r)) i0 0))), some (iv ((0 : Nat) : Int)), none]) ?_ ⟨rfl, rfl, rfl, rfl, rfl, rfl, trivial⟩
          refine down (Pr := fun r => JJ (EM x) X 1 (rP (fun y ν => y = rfv (A 0) ∧ Ons (· = 10) μ ν)) 7 58 [some (rf (EM x) 0), some (iv c), some (iv S), some (iv i), some (iv (rfv (lsM (fun r => S.testBit r && roF σ t z r i) (fun r => A (i + roL σ r)) i0 r))), some (iv r), none] [] ν) m ?_ 0 (Nat.zero_le _)
          intro r h_r ih2
          have h_lv : cwv 20 (lsM (fun r => S.testBit r && roF σ t z r i) (fun r => A (i + roL σ r)) i0 r) := by
            rcases lsM_is (P := fun r => S.testBit r && roF σ t z r i) (g := fun r => A (i + roL σ r)) (i0 := i0) r with h_3 | ⟨s, h_3, h_5, h_4⟩
            · rw [h_3]
              exact h_i0
            · rw [h_4]
              rw [Bool.and_eq_true, roF_iff] at h_5
              exact h_cv2 _ h_5.2.1
          have h_lr := rfv_rg h_lv (by decide)
          have h_ss : lsM (fun r => S.testBit r && roF σ t z r i) (fun r => A (i + roL σ r)) i0 (r + 1) = if (S.testBit r && roF σ t z r i) = true then min (lsM (fun r => S.testBit r && roF σ t z r i) (fun r => A (i + roL σ r)) i0 r) (A (i + roL σ r)) else lsM (fun r => S.testBit r && roF σ t z r i) (fun r => A (i + roL σ r)) i0 r := rfl
          generalize h_LS : lsM (fun r => S.testBit r && roF σ t z r i) (fun r => A (i + roL σ r)) i0 = ls at h_lv h_lr h_ss h_st ih2 ⊢
          have h_106 : r < m → ∀ is : Int, (0 ≤ is ∧ is ≤ 100000000) → (if is < rfv (ls r) then is else rfv (ls r)) = rfv (ls (r + 1)) → JJ (EM x) X 1 (rP (fun y ν => y = rfv (A 0) ∧ Ons (· = 10) μ ν)) 7 106 [some (rf (EM x) 0), some (iv c), some (iv S), some (iv i), some (iv (rfv (ls r))), some (iv r), none] [iv is] ν := by
            intro h_rm3 is h_is h_e
            have h_z2 := ih2 h_rm3
            rw [← h_e] at h_z2
            · refine j_istore6 G dX12_cellsWith_106 (by decide) rfl ?_
              refine j_iload G dX12_cellsWith_108 rfl ?_
              refine j_iload G dX12_cellsWith_110 rfl ?_
              refine j_icmp_ge G dX12_cellsWith_112 (tgt := 120) (by decide) (by omega) (by omega) (fun c_112 => ?_) (fun c_112 => ?_)
              · refine j_iload G dX12_cellsWith_120 rfl ?_
                refine j_istore4 G dX12_cellsWith_122 (by decide) rfl ?_
                refine j_iinc5 G dX12_cellsWith_124 (by decide) rfl rfl ?_
                refine j_goto G dX12_cellsWith_127 (tgt := 58) (by decide) ?_
                refine j_pc (p2 := 58) rfl ?_
                first
                | (rw [if_pos (by omega)] at h_z2
                   exact j_weak h_z2 ⟨rfl, rfl, rfl, rfl, rfl, rfl, trivial⟩)
                | (rw [if_neg (by omega)] at h_z2
                   exact j_weak h_z2 ⟨rfl, rfl, rfl, rfl, rfl, rfl, trivial⟩)
              · refine j_iload G dX12_cellsWith_115 rfl ?_
                refine j_goto G dX12_cellsWith_117 (tgt := 122) (by decide) ?_
                refine j_istore4 G dX12_cellsWith_122 (by decide) rfl ?_
                refine j_iinc5 G dX12_cellsWith_124 (by decide) rfl rfl ?_
                refine j_goto G dX12_cellsWith_127 (tgt := 58) (by decide) ?_
                refine j_pc (p2 := 58) rfl ?_
                first
                | (rw [if_pos (by omega)] at h_z2
                   exact j_weak h_z2 ⟨rfl, rfl, rfl, rfl, rfl, rfl, trivial⟩)
                | (rw [if_neg (by omega)] at h_z2
                   exact j_weak h_z2 ⟨rfl, rfl, rfl, rfl, rfl, rfl, trivial⟩)
          have h_b32 := bit32 (a := S) (k := r) (by omega) (by omega)
          have h_01 := b2_01 (S.testBit r = true)
          have h_nos : r < m → ¬ (S.testBit r && roF σ t z r i) = true → (if (100000000 : Int) < rfv (ls r) then 100000000 else rfv (ls r)) = rfv (ls (r + 1)) := fun _ h => by rw [h_ss, if_neg h, if_neg (by omega)]
          refine j_iload G dX12_cellsWith_58 rfl ?_
          first | refine j_aload_n G dX12_cellsWith_60 rfl ?_ | refine j_aload_nN G dX12_cellsWith_60 rfl ?_
          refine j_geti G fl_X12_235 dX12_cellsWith_61 28 rfl (by first | exact rfl | assumption) (by rfl) (fun r_61 => ?_)
          try simp (disch := omega) only [up_same, up_cell, up_idx, cpm_at, fil_at] at r_61 ⊢
          rw [h_rm2.1]
          refine j_icmp_ge G dX12_cellsWith_64 (tgt := 130) (by decide) (by omega) (by omega) (fun c_64 => ?_) (fun c_64 => ?_)
          · obtain rfl : r = m := by omega
            have h_cri := h_cr i (by omega)
            have h_17 : ∀ y : Int, y = rfv (A i) → JJ (EM x) X 1 (rP (fun y ν => y = rfv (A 0) ∧ Ons (· = 10) μ ν)) 7 17 [some (rf (EM x) 0), some (iv c), some (iv S), some (iv ((i : Int) - 1)), none, none, none] [] (up ν 10 i y) := fun y h_y => ih (by omega) _ (h_o.up rfl) (fun q h_1 h_2 => by
              by_cases h_e : q = i
              · subst h_e
                rw [up_same, h_y]
              · rw [up_idx (by omega)]
                exact h_v q (by omega) h_2)
            first | refine j_aload_n G dX12_cellsWith_130 rfl ?_ | refine j_aload_nN G dX12_cellsWith_130 rfl ?_
            refine j_getr G fl_X12_37 dX12_cellsWith_131 (by first | exact rfl | assumption) (by rfl) ?_
            refine j_iload_n G dX12_cellsWith_134 rfl ?_
            refine j_iload G dX12_cellsWith_135 rfl ?_
            refine j_ldc G kc_X12_167 dX12_cellsWith_137 (z := 100000000) (by decide) ?_
            refine j_icmp_ne G dX12_cellsWith_139 (tgt := 147) (by decide) (by omega) (by omega) (fun c_139 => ?_) (fun c_139 => ?_)
            · have h_lne : ls r ≠ 268435456 := fun y => c_139 (by rw [y, rfv_i])
              rw [rfv_v h_lne] at h_lr ⊢
              have h_Ai : ls r + 1 = rfv (A i) := by
                rcases h_lv with h | h
                · exact absurd h h_lne
                · rw [h_st, Int.min_eq_right (by omega), rfv_v (by omega)]
              refine j_iload G dX12_cellsWith_147 rfl ?_
              refine j_iconst G dX12_cellsWith_149 ?_
              refine j_iadd G dX12_cellsWith_150 ?_
              refine j_iastore G dX12_cellsWith_151 (by first | exact rfl | assumption) (by omega) (by omega) ?_
              refine j_iinc3 G dX12_cellsWith_152 (by decide) rfl rfl ?_
              refine j_goto G dX12_cellsWith_155 (tgt := 17) (by decide) ?_
              refine j_pc (p2 := 17) rfl ?_
              exact j_weak (h_17 _ h_Ai) ⟨rfl, rfl, rfl, rfl, trivial⟩
            · have h_Ai2 : (100000000 : Int) = rfv (A i) := by
                rw [h_st, h_lr.2.2.1 c_139, Int.min_eq_left (by omega), rfv_i]
              refine j_ldc G kc_X12_167 dX12_cellsWith_142 (z := 100000000) (by decide) ?_
              refine j_goto G dX12_cellsWith_144 (tgt := 151) (by decide) ?_
              refine j_iastore G dX12_cellsWith_151 (by first | exact rfl | assumption) (by omega) (by omega) ?_
              refine j_iinc3 G dX12_cellsWith_152 (by decide) rfl rfl ?_
              refine j_goto G dX12_cellsWith_155 (tgt := 17) (by decide) ?_
              refine j_pc (p2 := 17) rfl ?_
              exact j_weak (h_17 _ h_Ai2) ⟨rfl, rfl, rfl, rfl, trivial⟩
          · refine j_iload_n G dX12_cellsWith_67 rfl ?_
            refine j_iload G dX12_cellsWith_68 rfl ?_
            refine j_ishr G dX12_cellsWith_70 ?_
            refine j_iconst G dX12_cellsWith_71 ?_
            refine j_iand G dX12_cellsWith_72 ?_
            rw [h_b32]
            refine j_iconst G dX12_cellsWith_73 ?_
            refine j_icmp_ne G dX12_cellsWith_74 (tgt := 104) (by decide) (by omega) (by omega) (fun c_74 => ?_) (fun c_74 => ?_)
            · have h_nb : ¬ S.testBit r = true := fun y => by rw [b2_t y] at c_74; omega
              refine j_ldc G kc_X12_167 dX12_cellsWith_104 (z := 100000000) (by decide) ?_
              refine j_pc (p2 := 106) rfl ?_
              exact h_106 (by omega) _ (by omega) (h_nos (by omega) (fun y => by rw [Bool.and_eq_true] at y; exact h_nb y.1))
            · have h_yb : S.testBit r = true := Decidable.byContradiction (fun y => by rw [b2_f y] at c_74; omega)
              obtain ⟨h_21, -⟩ := h_rm2.2 r (by omega)
              obtain ⟨-, h_l2, h_l4⟩ := h_a3 r (by omega)
              first | refine j_aload_n G dX12_cellsWith_77 rfl ?_ | refine j_aload_nN G dX12_cellsWith_77 rfl ?_
              refine j_iload G dX12_cellsWith_78 rfl ?_
              refine j_iload_n G dX12_cellsWith_80 rfl ?_
              refine j_callV G mv_X12_238 dX12_cellsWith_81 (m_rowFits (σ := σ) r i z m t h_m (by omega) (by omega) h_z h_tx2 h_t h_rm2) (by first | exact rfl | assumption) (by decide) (by rfl) rfl rfl (by exact Nat.le_of_ble_eq_true rfl) (by first | decide | omega) (kI ?_)
              refine j_if_eqB G dX12_cellsWith_84 (tgt := 104) (by decide)  (fun c_84 => ?_) (fun c_84 => ?_)
              · refine j_ldc G kc_X12_167 dX12_cellsWith_104 (z := 100000000) (by decide) ?_
                refine j_pc (p2 := 106) rfl ?_
                exact h_106 (by omega) _ (by omega) (h_nos (by omega) (fun y => by rw [Bool.and_eq_true] at y; exact c_84 y.2))
              · have h_iz := (roF_iff.1 c_84).1
                have h_vr : ν 10 ((i : Int) + (roL σ r : Nat)) = rfv (A (i + roL σ r)) := h_v (i + roL σ r) (by omega) h_iz
                have h_crr := h_cr _ h_iz
                have h_yss : ls (r + 1) = min (ls r) (A (i + roL σ r)) := by rw [h_ss, h_yb, c_84]; exact if_pos rfl
                first | refine j_aload_n G dX12_cellsWith_87 rfl ?_ | refine j_aload_nN G dX12_cellsWith_87 rfl ?_
                refine j_getr G fl_X12_37 dX12_cellsWith_88 (by first | exact rfl | assumption) (by rfl) ?_
                refine j_iload_n G dX12_cellsWith_91 rfl ?_
                first | refine j_aload_n G dX12_cellsWith_92 rfl ?_ | refine j_aload_nN G dX12_cellsWith_92 rfl ?_
                refine j_getr G fl_X12_71 dX12_cellsWith_93 (by first | exact rfl | assumption) (by rfl) ?_
                refine j_iload G dX12_cellsWith_96 rfl ?_
                refine j_iaload G dX12_cellsWith_98 (by first | exact rfl | assumption) (by omega) (fun r_98 => ?_)
                try simp (disch := omega) only [up_same, up_cell, up_idx, cpm_at, fil_at] at r_98 ⊢
                rw [h_21]
                refine j_iadd G dX12_cellsWith_99 ?_
                refine j_iaload G dX12_cellsWith_100 (by first | exact rfl | assumption) (by omega) (fun r_100 => ?_)
                try simp (disch := omega) only [up_same, up_cell, up_idx, cpm_at, fil_at] at r_100 ⊢
                rw [h_vr]
                refine j_goto G dX12_cellsWith_101 (tgt := 106) (by decide) ?_
                refine j_pc (p2 := 106) rfl ?_
                exact h_106 (by omega) _ (by omega) (by rw [h_yss, rfv_min (h_cv2 _ h_iz) h_lv (by decide)])
      · refine j_iload_n G dX12_cellsWith_17 rfl ?_
        refine j_if_lt G dX12_cellsWith_18 (tgt := 158) (by decide) (by omega) (fun c_18 => ?_) (fun c_18 => ?_)
        · omega
        · first | refine j_aload_n G dX12_cellsWith_21 rfl ?_ | refine j_aload_nN G dX12_cellsWith_21 rfl ?_
          refine j_getr G fl_X12_7 dX12_cellsWith_22 (by first | exact rfl | assumption) (by rfl) ?_
          refine j_bipush G dX12_cellsWith_25 (by decide) ?_
          refine j_iload_n G dX12_cellsWith_27 rfl ?_
          refine j_imul G dX12_cellsWith_28 ?_
          first | refine j_aload_n G dX12_cellsWith_29 rfl ?_ | refine j_aload_nN G dX12_cellsWith_29 rfl ?_
          refine j_getr G fl_X12_34 dX12_cellsWith_30 (by first | exact rfl | assumption) (by rfl) ?_
          refine j_iload_n G dX12_cellsWith_33 rfl ?_
          refine j_iaload G dX12_cellsWith_34 (by first | exact rfl | assumption) (by omega) (fun r_34 => ?_)
          try simp (disch := omega) only [up_same, up_cell, up_idx, cpm_at, fil_at] at r_34 ⊢
          rw [h_wi]
          refine j_iadd G dX12_cellsWith_35 ?_
          refine j_iaload G dX12_cellsWith_36 (by first | exact rfl | assumption) (by omega) (fun r_36 => ?_)
          try simp (disch := omega) only [up_same, up_cell, up_idx, cpm_at, fil_at] at r_36 ⊢
          refine j_pc (p2 := 37) rfl ?_
          rw [h_c1]
          refine j_if_le G dX12_cellsWith_37 (tgt := 51) (by decide) (by omega) (fun c_37 => ?_) (fun c_37 => ?_)
          · refine j_ldc G kc_X12_167 dX12_cellsWith_51 (z := 100000000) (by decide) ?_
            refine j_pc (p2 := 53) rfl ?_
            have h_z := h_53 268435456 (Or.inl rfl) (by rw [if_pos (by omega)])
            rw [rfv_i] at h_z
            exact h_z
          · first | refine j_aload_n G dX12_cellsWith_40 rfl ?_ | refine j_aload_nN G dX12_cellsWith_40 rfl ?_
            refine j_getr G fl_X12_37 dX12_cellsWith_41 (by first | exact rfl | assumption) (by rfl) ?_
            refine j_iload_n G dX12_cellsWith_44 rfl ?_
            refine j_iconst G dX12_cellsWith_45 ?_
            refine j_iadd G dX12_cellsWith_46 ?_
            refine j_iaload G dX12_cellsWith_47 (by first | exact rfl | assumption) (by omega) (fun r_47 => ?_)
            try simp (disch := omega) only [up_same, up_cell, up_idx, cpm_at, fil_at] at r_47 ⊢
            rw [h_vi]
            refine j_goto G dX12_cellsWith_48 (tgt := 53) (by decide) ?_
            refine j_pc (p2 := 53) rfl ?_
            exact h_53 _ (h_cv2 _ (by omega)) (by rw [if_neg (by omega)])
  have h_t1 := h_tx.1
  first | refine j_aload_n G dX12_cellsWith_0 rfl ?_ | refine j_aload_nN G dX12_cellsWith_0 rfl ?_
  refine j_getr G fl_X12_37 dX12_cellsWith_1 (by first | exact rfl | assumption) (by rfl) ?_
  first | refine j_aload_n G dX12_cellsWith_4 rfl ?_ | refine j_aload_nN G dX12_cellsWith_4 rfl ?_
  refine j_geti G fl_X12_161 dX12_cellsWith_5 11 rfl (by first | exact rfl | assumption) (by rfl) (fun r_5 => ?_)
  try simp (disch := omega) only [up_same, up_cell, up_idx, cpm_at, fil_at] at r_5 ⊢
  rw [h_t1]
  refine j_iconst G dX12_cellsWith_8 ?_
  refine j_iastore G dX12_cellsWith_9 (by first | exact rfl | assumption) (by omega) (by omega) ?_
  first | refine j_aload_n G dX12_cellsWith_10 rfl ?_ | refine j_aload_nN G dX12_cellsWith_10 rfl ?_
  refine j_geti G fl_X12_161 dX12_cellsWith_11 11 rfl (by first | exact rfl | assumption) (by rfl) (fun r_11 => ?_)
  try simp (disch := omega) only [up_same, up_cell, up_idx, cpm_at, fil_at] at r_11 ⊢
  rw [h_t1]
  refine j_iconst G dX12_cellsWith_14 ?_
  refine j_isub G dX12_cellsWith_15 ?_
  refine j_istore3 G dX12_cellsWith_16 (by decide) rfl ?_
  refine j_pc (p2 := 17) rfl ?_
  refine j_weak (h_lp z (by omega) _ ((Ons.rf _ _).up rfl) (fun q h_1 h_2 => ?_)) ⟨rfl, rfl, rfl, rfl, trivial⟩
  obtain rfl : q = z := by omega
  rw [up_same, h_ce]
  rfl
end CK
