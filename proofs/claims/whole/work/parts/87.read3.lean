def DX (ν : MemT) (n : Nat) (d : Nat → Int) : Prop := ν 0 9 = n ∧ ∀ i : Nat, i < n → ν 8 i = d i
section RM4
variable {E : EE} {x x1 x2 : CX} {μ σ : MemT}
theorem m_readI (c k p n z : Nat) (d cf wy : Nat → Int) (h_c : c < 5) (h_k : k < 38) (h_p : p < n) (h_n : n ≤ 12) (h_d : DX μ n d) (h_z : isI μ c k = true → wdI μ c k = z ∧ (1 ≤ z ∧ z ≤ 2) ∧ ∀ i, i < z → clI μ c k i = cf i ∧ (0 ≤ cf i ∧ cf i ≤ 63)) (h_dr : ∀ i, i < n → 0 ≤ d i ∧ d i ≤ 63) (h_wy : isI μ c k = true → p + z ≤ n → μ 12 ((p + z : Nat) : Int) = wy (p + z) ∧ 0 ≤ wy (p + z) ∧ wy (p + z) ≤ 1000000) : CT (EM x) 1 yX12_isReadBy [rf (EM x) 0, iv c, iv k, iv p] μ (rI (b2 (((isI μ c k && (decide ((p : Int) + z ≤ n) && eqB cf (fun i => d (p + i)) z)) && decide (0 < wy (p + z))) = true)) μ) := by
  refine CT.ofJ (own := RX12) (cc := cX12_isReadBy) (n := 6) (ret := (some .boolean)) (by decide) rfl cw_X12_isReadBy (by decide) (Nat.le_of_ble_eq_true rfl) (ls := [some (rf (EM x) 0), some (iv c), some (iv k), some (iv p), none, none]) rfl ?_
  intro X G
  have h_ex : ∀ i : Int, JJ (EM x) X 1 (rI 0 μ) 6 34 [some (rf (EM x) 0), some (iv c), some (iv k), some (iv p), some (iv 0), some (iv i)] [] μ := by
    intro i
    refine j_iload G dX12_isReadBy_34 rfl ?_
    refine j_if_eq G dX12_isReadBy_36 (tgt := 83) (by decide) (by omega) (fun c_36 => ?_) (fun c_36 => ?_)
    · refine j_iload G dX12_isReadBy_83 rfl ?_
      refine j_if_eq G dX12_isReadBy_85 (tgt := 108) (by decide) (by omega) (fun c_85 => ?_) (fun c_85 => ?_)
      · refine j_iconst G dX12_isReadBy_108 ?_
        refine j_zreturn G dX12_isReadBy_109 (by first | exact b2_01 _ | omega) ?_
        exact ⟨rfl, rfl⟩
      · omega
    · omega
  have h_lp : wdI μ c k = z → (1 ≤ z ∧ z ≤ 2) → (∀ i, i < z → clI μ c k i = cf i ∧ (0 ≤ cf i ∧ cf i ≤ 63)) → (p : Int) + z ≤ n → (μ 12 ((p + z : Nat) : Int) = wy (p + z) ∧ 0 ≤ wy (p + z) ∧ wy (p + z) ≤ 1000000) → JJ (EM x) X 1 (rI (b2 ((eqB cf (fun i => d (p + i)) z && decide (0 < wy (p + z))) = true)) μ) 6 34 [some (rf (EM x) 0), some (iv c), some (iv k), some (iv p), some (iv 1), some (iv 0)] [] μ := by
    intro h_z1 h_z2 h_z3 h_pz h_wz
    refine down (Pr := fun i => (∀ j, j < i → cf j = d (p + j)) → JJ (EM x) X 1 (rI (b2 ((eqB cf (fun i => d (p + i)) z && decide (0 < wy (p + z))) = true)) μ) 6 34 [some (rf (EM x) 0), some (iv c), some (iv k), some (iv p), some (iv 1), some (iv i)] [] μ) z ?_ 0 (Nat.zero_le _) (fun j h_j => by omega)
    intro i h_i ih h_al
    refine j_iload G dX12_isReadBy_34 rfl ?_
    refine j_if_eq G dX12_isReadBy_36 (tgt := 83) (by decide) (by omega) (fun c_36 => ?_) (fun c_36 => ?_)
    · omega
    · refine j_iload G dX12_isReadBy_39 rfl ?_
      first | refine j_aload_n G dX12_isReadBy_41 rfl ?_ | refine j_aload_nN G dX12_isReadBy_41 rfl ?_
      refine j_iload_n G dX12_isReadBy_42 rfl ?_
      refine j_iload_n G dX12_isReadBy_43 rfl ?_
      refine j_callV G mv_X12_142 dX12_isReadBy_44 (m_wideOf c k h_c h_k) (by first | assumption | rfl) (by decide) (by rfl) rfl rfl (by exact Nat.le_of_ble_eq_true rfl) (by decide) (kI ?_)
      rw [h_z1]
      refine j_icmp_ge G dX12_isReadBy_47 (tgt := 83) (by decide) (by omega) (by omega) (fun c_47 => ?_) (fun c_47 => ?_)
      · refine j_iload G dX12_isReadBy_83 rfl ?_
        refine j_if_eq G dX12_isReadBy_85 (tgt := 108) (by decide) (by omega) (fun c_85 => ?_) (fun c_85 => ?_)
        · omega
        · obtain rfl : i = z := by omega
          rw [eqB_iff.2 h_al, Bool.true_and]
          first | refine j_aload_n G dX12_isReadBy_88 rfl ?_ | refine j_aload_nN G dX12_isReadBy_88 rfl ?_
          refine j_getr G fl_X12_43 dX12_isReadBy_89 (by first | assumption | rfl) (by rfl) ?_
          refine j_iload_n G dX12_isReadBy_92 rfl ?_
          first | refine j_aload_n G dX12_isReadBy_93 rfl ?_ | refine j_aload_nN G dX12_isReadBy_93 rfl ?_
          refine j_iload_n G dX12_isReadBy_94 rfl ?_
          refine j_iload_n G dX12_isReadBy_95 rfl ?_
          refine j_callV G mv_X12_142 dX12_isReadBy_96 (m_wideOf c k h_c h_k) (by first | assumption | rfl) (by decide) (by rfl) rfl rfl (by exact Nat.le_of_ble_eq_true rfl) (by decide) (kI ?_)
          rw [h_z1]
          refine j_iadd G dX12_isReadBy_99 ?_
          rw [show (p : Int) + (i : Int) = ((p + i : Nat) : Int) by omega]
          refine j_iaload G dX12_isReadBy_100 (by first | assumption | rfl) (by omega) (fun r_100 => ?_)
          try simp (disch := omega) only [up_same, up_cell, up_idx, cpm_at, fil_at] at r_100 ⊢
          rw [h_wz.1]
          refine j_if_le G dX12_isReadBy_101 (tgt := 108) (by decide) (by omega) (fun c_101 => ?_) (fun c_101 => ?_)
          · refine j_iconst G dX12_isReadBy_108 ?_
            refine j_zreturn G dX12_isReadBy_109 (by first | exact b2_01 _ | omega) ?_
            first
            | (rw [decide_eq_true (by omega)]; exact ⟨rfl, rfl⟩)
            | (rw [decide_eq_false (by omega)]; exact ⟨rfl, rfl⟩)
          · refine j_iconst G dX12_isReadBy_104 ?_
            refine j_goto G dX12_isReadBy_105 (tgt := 109) (by decide) ?_
            refine j_zreturn G dX12_isReadBy_109 (by first | exact b2_01 _ | omega) ?_
            first
            | (rw [decide_eq_true (by omega)]; exact ⟨rfl, rfl⟩)
            | (rw [decide_eq_false (by omega)]; exact ⟨rfl, rfl⟩)
      · first | refine j_aload_n G dX12_isReadBy_50 rfl ?_ | refine j_aload_nN G dX12_isReadBy_50 rfl ?_
        refine j_iload_n G dX12_isReadBy_51 rfl ?_
        refine j_iload_n G dX12_isReadBy_52 rfl ?_
        refine j_iload G dX12_isReadBy_53 rfl ?_
        refine j_callV G mv_X12_146 dX12_isReadBy_55 (m_cellAt c k i h_c h_k (by omega)) (by first | assumption | rfl) (by decide) (by rfl) rfl rfl (by exact Nat.le_of_ble_eq_true rfl) (by decide) (kI ?_)
        rw [(h_z3 i (by omega)).1]
        have h_ri := (h_z3 i (by omega)).2
        have h_ti : μ 8 ((p : Int) + i) = d (p + i) := h_d.2 (p + i) (by omega)
        have h_di := h_dr (p + i) (by omega)
        first | refine j_aload_n G dX12_isReadBy_58 rfl ?_ | refine j_aload_nN G dX12_isReadBy_58 rfl ?_
        refine j_getr G fl_X12_31 dX12_isReadBy_59 (by first | assumption | rfl) (by rfl) ?_
        refine j_iload_n G dX12_isReadBy_62 rfl ?_
        refine j_iload G dX12_isReadBy_63 rfl ?_
        refine j_iadd G dX12_isReadBy_65 ?_
        refine j_iaload G dX12_isReadBy_66 (by first | assumption | rfl) (by omega) (fun r_66 => ?_)
        try simp (disch := omega) only [up_same, up_cell, up_idx, cpm_at, fil_at] at r_66 ⊢
        refine j_pc (p2 := 67) rfl ?_
        rw [h_ti]
        refine j_icmp_ne G dX12_isReadBy_67 (tgt := 74) (by decide) (by omega) (by omega) (fun c_67 => ?_) (fun c_67 => ?_)
        · refine j_iconst G dX12_isReadBy_74 ?_
          refine j_istore4 G dX12_isReadBy_75 (by decide) rfl ?_
          refine j_iinc5 G dX12_isReadBy_77 (by decide) rfl rfl ?_
          refine j_goto G dX12_isReadBy_80 (tgt := 34) (by decide) ?_
          refine j_pc (p2 := 34) rfl ?_
          first
          | (refine ih (by omega) (fun j h_j => ?_); by_cases h_e2 : j = i; (rw [h_e2]; exact c_67); exact h_al j (by omega))
          | (rw [show eqB cf (fun i => d (p + i)) z = false from Bool.eq_false_iff.2 (fun y => c_67 (eqB_iff.1 y i (by omega))), Bool.false_and]; exact h_ex _)
        · refine j_iconst G dX12_isReadBy_70 ?_
          refine j_goto G dX12_isReadBy_71 (tgt := 75) (by decide) ?_
          refine j_istore4 G dX12_isReadBy_75 (by decide) rfl ?_
          refine j_iinc5 G dX12_isReadBy_77 (by decide) rfl rfl ?_
          refine j_goto G dX12_isReadBy_80 (tgt := 34) (by decide) ?_
          refine j_pc (p2 := 34) rfl ?_
          first
          | (refine ih (by omega) (fun j h_j => ?_); by_cases h_e2 : j = i; (rw [h_e2]; exact c_67); exact h_al j (by omega))
          | (rw [show eqB cf (fun i => d (p + i)) z = false from Bool.eq_false_iff.2 (fun y => c_67 (eqB_iff.1 y i (by omega))), Bool.false_and]; exact h_ex _)
  first | refine j_aload_n G dX12_isReadBy_0 rfl ?_ | refine j_aload_nN G dX12_isReadBy_0 rfl ?_
  refine j_iload_n G dX12_isReadBy_1 rfl ?_
  refine j_iload_n G dX12_isReadBy_2 rfl ?_
  refine j_callV G mv_X12_154 dX12_isReadBy_3 (m_isItem c k h_c h_k) (by first | assumption | rfl) (by decide) (by rfl) rfl rfl (by exact Nat.le_of_ble_eq_true rfl) (by decide) (kI ?_)
  refine j_if_eqB G dX12_isReadBy_6 (tgt := 28) (by decide)  (fun c_6 => ?_) (fun c_6 => ?_)
  · refine j_iconst G dX12_isReadBy_28 ?_
    refine j_istore4 G dX12_isReadBy_29 (by decide) rfl ?_
    refine j_iconst G dX12_isReadBy_31 ?_
    refine j_istore5 G dX12_isReadBy_32 (by decide) rfl ?_
    refine j_pc (p2 := 34) rfl ?_
    first
    | (rw [Bool.eq_false_iff.2 c_6, Bool.false_and, Bool.false_and]; exact h_ex 0)
    | (rw [decide_eq_false (show ¬ (p : Int) + z ≤ n by omega), Bool.false_and, Bool.and_false, Bool.false_and]; exact h_ex 0)
    | (rw [c_6, Bool.true_and, decide_eq_true (show (p : Int) + z ≤ n by omega), Bool.true_and]; exact h_lp h_z1 h_z2 h_z3 (by omega) (h_wy c_6 (by omega)))
  · obtain ⟨h_z1, h_z2, h_z3⟩ := h_z c_6
    refine j_iload_n G dX12_isReadBy_9 rfl ?_
    first | refine j_aload_n G dX12_isReadBy_10 rfl ?_ | refine j_aload_nN G dX12_isReadBy_10 rfl ?_
    refine j_iload_n G dX12_isReadBy_11 rfl ?_
    refine j_iload_n G dX12_isReadBy_12 rfl ?_
    refine j_callV G mv_X12_142 dX12_isReadBy_13 (m_wideOf c k h_c h_k) (by first | assumption | rfl) (by decide) (by rfl) rfl rfl (by exact Nat.le_of_ble_eq_true rfl) (by decide) (kI ?_)
    rw [h_z1]
    refine j_iadd G dX12_isReadBy_16 ?_
    first | refine j_aload_n G dX12_isReadBy_17 rfl ?_ | refine j_aload_nN G dX12_isReadBy_17 rfl ?_
    refine j_geti G fl_X12_134 dX12_isReadBy_18 9 rfl (by first | assumption | rfl) (by rfl) (fun r_18 => ?_)
    try simp (disch := omega) only [up_same, up_cell, up_idx, cpm_at, fil_at] at r_18 ⊢
    rw [h_d.1]
    refine j_icmp_gt G dX12_isReadBy_21 (tgt := 28) (by decide) (by omega) (by omega) (fun c_21 => ?_) (fun c_21 => ?_)
    · refine j_iconst G dX12_isReadBy_28 ?_
      refine j_istore4 G dX12_isReadBy_29 (by decide) rfl ?_
      refine j_iconst G dX12_isReadBy_31 ?_
      refine j_istore5 G dX12_isReadBy_32 (by decide) rfl ?_
      refine j_pc (p2 := 34) rfl ?_
      first
      | (rw [Bool.eq_false_iff.2 c_6, Bool.false_and, Bool.false_and]; exact h_ex 0)
      | (rw [decide_eq_false (show ¬ (p : Int) + z ≤ n by omega), Bool.false_and, Bool.and_false, Bool.false_and]; exact h_ex 0)
      | (rw [c_6, Bool.true_and, decide_eq_true (show (p : Int) + z ≤ n by omega), Bool.true_and]; exact h_lp h_z1 h_z2 h_z3 (by omega) (h_wy c_6 (by omega)))
    · refine j_iconst G dX12_isReadBy_24 ?_
      refine j_goto G dX12_isReadBy_25 (tgt := 29) (by decide) ?_
      refine j_istore4 G dX12_isReadBy_29 (by decide) rfl ?_
      refine j_iconst G dX12_isReadBy_31 ?_
      refine j_istore5 G dX12_isReadBy_32 (by decide) rfl ?_
      refine j_pc (p2 := 34) rfl ?_
      first
      | (rw [Bool.eq_false_iff.2 c_6, Bool.false_and, Bool.false_and]; exact h_ex 0)
      | (rw [decide_eq_false (show ¬ (p : Int) + z ≤ n by omega), Bool.false_and, Bool.and_false, Bool.false_and]; exact h_ex 0)
      | (rw [c_6, Bool.true_and, decide_eq_true (show (p : Int) + z ≤ n by omega), Bool.true_and]; exact h_lp h_z1 h_z2 h_z3 (by omega) (h_wy c_6 (by omega)))
theorem m_isReadBy (c k p n : Nat) (d : Nat → Int) (h_c : c < 5) (h_k : k < 38) (h_p : p < n) (h_n : n ≤ 12) (h_d : DX μ n d) (h_dr : ∀ i, i < n → 1 ≤ d i ∧ d i ≤ 63) (h_w : WfCode σ c) (h_r : ReCode σ μ c) (h_v : ∀ q : Nat, p < q → q ≤ n → μ 12 q = cA σ c d n q) : CT (EM x) 1 yX12_isReadBy [rf (EM x) 0, iv c, iv k, iv p] μ (rI (b2 (qR σ c d n p k = true)) μ) := by
  obtain ⟨r1, r2, r3⟩ := id h_r
  have h_dr0 : ∀ i, i < n → 0 ≤ d i ∧ d i ≤ 63 := fun i h_i => by have := h_dr i h_i; omega
  by_cases h_12 : k < 12
  · have h_z := m_readI (x := x) (μ := μ) c k p n (wdN σ c k) d (fun i => if i = 0 then σ (7 + 7 * c) k else σ (8 + 7 * c) k) (cA σ c d n) h_c h_k h_p h_n h_d (fun h_is => by
      unfold isI at h_is
      rw [if_pos h_12] at h_is
      have h_1 := of_decide_eq_true h_is
      rw [r2] at h_1
      obtain ⟨h_z1, h_z2, h_z3, h_z4⟩ := h_w.2.2.2 k (by omega) h_1
      obtain ⟨h_r1, h_r2, h_r3, h_r4, h_r5⟩ := r3 k (by omega) h_1
      have h_wd : wdN σ c k = if σ (8 + 7 * c) k = 0 then 1 else 2 := by unfold wdN; rw [if_pos h_12]
      refine ⟨?_, wdN_12 σ c k, fun i h_i => ⟨?_, by split <;> omega⟩⟩
      · unfold wdI
        rw [if_pos h_12, h_wd]
        by_cases h_0 : σ (8 + 7 * c) k = 0
        · rw [if_pos h_0, h_r4 h_0]; rfl
        · rw [if_neg h_0, (h_r5 h_0).1]; rfl
      · unfold clI
        rw [if_pos h_12]
        by_cases h_i0 : i = 0
        · rw [if_pos h_i0, h_i0, show ((0 : Nat) : Int) = 0 from rfl, Int.add_zero, h_r3]
        · rw [if_neg h_i0]
          by_cases h_0 : σ (8 + 7 * c) k = 0
          · rw [h_wd, if_pos h_0] at h_i
            omega
          · rw [h_wd, if_neg h_0] at h_i
            obtain rfl : i = 1 := by omega
            exact (h_r5 h_0).2) h_dr0 (fun _ h_1 => ⟨h_v _ (by have := wdN_12 σ c k; omega) h_1, cA_rg σ c d n _ h_1⟩)
    refine h_z.mono (fun r m q => ⟨q.1.trans (congrArg (fun z => some (iv (b2 (z = true)))) ?_), q.2⟩)
    unfold qR rdF isI
    rw [if_pos h_12, if_pos h_12, r2]
    congr 1
    by_cases h_1 : (k : Int) < σ (4 + 7 * c) 3
    · rw [decide_eq_true h_1, Bool.true_and, Bool.true_and, Bool.eq_iff_iff, Bool.and_eq_true, eqB_iff, Bool.and_eq_true, Bool.or_eq_true, Bool.and_eq_true, decide_eq_true_eq, decide_eq_true_eq, decide_eq_true_eq, decide_eq_true_eq, decide_eq_true_eq]
      unfold wdN
      rw [if_pos h_12]
      by_cases h_0 : σ (8 + 7 * c) k = 0
      · rw [if_pos h_0]
        exact ⟨fun z => ⟨z.2 0 (by decide), Or.inl h_0⟩, fun z => ⟨by omega, fun i h_i => by
          obtain rfl : i = 0 := by omega
          exact z.1⟩⟩
      · rw [if_neg h_0]
        exact ⟨fun z => ⟨z.2 0 (by decide), Or.inr ⟨by omega, z.2 1 (by decide)⟩⟩, fun z => by
          rcases z.2 with h_2 | ⟨h_2, h_3⟩
          · exact absurd h_2 h_0
          · refine ⟨by omega, fun i h_i => ?_⟩
            by_cases h_i0 : i = 0
            · subst h_i0
              exact z.1
            · obtain rfl : i = 1 := by omega
              exact h_3⟩
    · rw [decide_eq_false h_1, Bool.false_and, Bool.false_and]
  · have h_wd : wdN σ c k = 1 := by unfold wdN; rw [if_neg h_12]
    have h_z := m_readI (x := x) (μ := μ) c k p n 1 d (fun _ => σ (3 + 7 * c) ((k : Int) - 12)) (cA σ c d n) h_c h_k h_p h_n h_d (fun h_is => by
      refine ⟨?_, by omega, fun i h_i => ⟨?_, h_w.1 _ (by omega) (by omega)⟩⟩
      · unfold wdI
        rw [if_neg h_12]
        rfl
      · unfold clI
        rw [if_neg h_12, show 26 * (c : Int) + k - 12 = 26 * c + ((k : Int) - 12) by omega, r1 ((k : Int) - 12) (by omega) (by omega)]) h_dr0 (fun _ h_1 => ⟨h_v _ (by omega) h_1, cA_rg σ c d n _ h_1⟩)
    refine h_z.mono (fun r m q => ⟨q.1.trans (congrArg (fun z => some (iv (b2 (z = true)))) ?_), q.2⟩)
    unfold qR rdF isI
    rw [if_neg h_12, if_neg h_12, h_wd, show 26 * (c : Int) + k - 12 = 26 * c + ((k : Int) - 12) by omega, r1 ((k : Int) - 12) (by omega) (by omega), decide_eq_true (show (p : Int) + ((1 : Nat) : Int) ≤ n by omega), Bool.true_and]
    congr 1
    have h_dp := h_dr p h_p
    rw [Bool.eq_iff_iff, Bool.and_eq_true, eqB_iff, decide_eq_true_eq, decide_eq_true_eq]
    exact ⟨fun z => z.2 0 (by decide), fun z => ⟨by omega, fun i h_i => by
      obtain rfl : i = 0 := by omega
      exact z⟩⟩
theorem wdI_N {c k p n : Nat} {d : Nat → Int} (h_c : c < 5) (h_k : k < 38) (h_w : WfCode σ c) (h_r : ReCode σ μ c) (h : rdF σ c d n p k = true) : wdI μ c k = wdN σ c k := by
  obtain ⟨r1, r2, r3⟩ := id h_r
  unfold wdI wdN
  by_cases h_12 : k < 12
  · unfold rdF at h
    rw [if_pos h_12, Bool.and_eq_true] at h
    obtain ⟨h_r1, h_r2, h_r3, h_r4, h_r5⟩ := r3 k (by omega) (of_decide_eq_true h.1)
    rw [if_pos h_12, if_pos h_12]
    by_cases h_0 : σ (8 + 7 * c) k = 0
    · rw [if_pos h_0, h_r4 h_0]; rfl
    · rw [if_neg h_0, (h_r5 h_0).1]; rfl
  · rw [if_neg h_12, if_neg h_12]
    rfl
theorem qR_rd {c k p n : Nat} {d : Nat → Int} (h : qR σ c d n p k = true) : rdF σ c d n p k = true ∧ 0 < cA σ c d n (p + wdN σ c k) := by
  unfold qR at h
  rw [Bool.and_eq_true] at h
  exact ⟨h.1, of_decide_eq_true h.2⟩
theorem m_findWays (c n : Nat) (d : Nat → Int) (h_c : c < 5) (h_n : n ≤ 12) (h_d : DX μ n d) (h_dr : ∀ i, i < n → 1 ≤ d i ∧ d i ≤ 63) (h_w : WfCode σ c) (h_r : ReCode σ μ c) : CT (EM x) 2 yX12_findWays [rf (EM x) 0, iv c] μ (fun r ν => r = none ∧ Ons (· = 12) μ ν ∧ ∀ q : Nat, q ≤ n → ν 12 q = cA σ c d n q) := by
  have h_cr := cA_rg σ c d n
  refine CT.ofJ (own := RX12) (cc := cX12_findWays) (n := 5) (ret := none) (by decide) rfl cw_X12_findWays (by decide) (Nat.le_of_ble_eq_true rfl) (ls := [some (rf (EM x) 0), some (iv c), none, none, none]) rfl ?_
  intro X G
  have h_lp : ∀ i : Nat, i ≤ n → ∀ ν : MemT, Ons (· = 12) μ ν → (∀ q : Nat, i ≤ q → q ≤ n → ν 12 q = cA σ c d n q) → JJ (EM x) X 2 (fun r ν => r = none ∧ Ons (· = 12) μ ν ∧ ∀ q : Nat, q ≤ n → ν 12 q = cA σ c d n q) 5 17 [some (rf (EM x) 0), some (iv c), some (iv ((i : Int) - 1)), none, none] [] ν := by
    intro i
    induction i with
    | zero =>
      intro h_i ν h_o h_v
      · refine j_iload_n G dX12_findWays_17 rfl ?_
        refine j_if_lt G dX12_findWays_18 (tgt := 97) (by decide) (by omega) (fun c_18 => ?_) (fun c_18 => ?_)
        · refine j_return G dX12_findWays_97 ?_
          exact ⟨rfl, h_o, fun q h_q => h_v q (by omega) h_q⟩
        · omega
    | succ i ih =>
      intro h_i ν h_o h_v
      rw [show ((i + 1 : Nat) : Int) - 1 = i by omega]
      have h_xr := rdX_rg (σ := σ) (c := c) (d := d) (n := n) (p := i) (by omega)
      have h_sr := fun k => sm_rg (g := rdX σ c d n i) (a := 0) (b := 1000000) k (fun j _ => h_xr j)
      have h_rc : ReCode σ ν c := h_r.on (fun j h_1 h_2 => h_o j (by omega))
      have h_dx : DX ν n d := ⟨by rw [h_o 0 (by decide)]; exact h_d.1, fun j h_j => by rw [h_o 8 (by decide)]; exact h_d.2 j h_j⟩
      · refine j_iload_n G dX12_findWays_17 rfl ?_
        refine j_if_lt G dX12_findWays_18 (tgt := 97) (by decide) (by omega) (fun c_18 => ?_) (fun c_18 => ?_)
        · omega
        · refine j_iconst G dX12_findWays_21 ?_
          refine j_istore3 G dX12_findWays_22 (by decide) rfl ?_
          refine j_iconst G dX12_findWays_23 ?_
          refine j_istore4 G dX12_findWays_24 (by decide) rfl ?_
          refine j_pc (p2 := 26) rfl ?_
          refine j_weak (ls' := [some (rf (EM x) 0), some (iv c), some (iv i), some (iv (min (sm (rdX σ c d n i) 0) 1000000)), some (iv ((0 : Nat) : Int))]) ?_ ⟨rfl, rfl, rfl, rfl, rfl, trivial⟩
          refine down (Pr := fun k => JJ (EM x) X 2 (fun r ν => r = none ∧ Ons (· = 12) μ ν ∧ ∀ q : Nat, q ≤ n → ν 12 q = cA σ c d n q) 5 26 [some (rf (EM x) 0), some (iv c), some (iv i), some (iv (min (sm (rdX σ c d n i) k) 1000000)), some (iv k)] [] ν) 38 ?_ 0 (Nat.zero_le _)
          intro k h_k ih2
          have h_srk := h_sr k
          have h_xk := h_xr k
          have h_63 : k < 38 → JJ (EM x) X 2 (fun r ν => r = none ∧ Ons (· = 12) μ ν ∧ ∀ q : Nat, q ≤ n → ν 12 q = cA σ c d n q) 5 63 [some (rf (EM x) 0), some (iv c), some (iv i), some (iv (min (sm (rdX σ c d n i) k) 1000000)), some (iv k)] [iv (rdX σ c d n i k), iv (min (sm (rdX σ c d n i) k) 1000000)] ν := by
            intro h_k38
            have h_ss : sm (rdX σ c d n i) (k + 1) = sm (rdX σ c d n i) k + rdX σ c d n i k := rfl
            have h_z := ih2 h_k38
            rw [h_ss] at h_z
            · refine j_iadd G dX12_findWays_63 ?_
              refine j_istore3 G dX12_findWays_64 (by decide) rfl ?_
              refine j_iload_n G dX12_findWays_65 rfl ?_
              refine j_ldc G kc_X12_197 dX12_findWays_66 (z := 1000000) (by decide) ?_
              refine j_icmp_le G dX12_findWays_68 (tgt := 76) (by decide) (by omega) (by omega) (fun c_68 => ?_) (fun c_68 => ?_)
              · refine j_iload_n G dX12_findWays_76 rfl ?_
                refine j_istore3 G dX12_findWays_77 (by decide) rfl ?_
                refine j_iinc4 G dX12_findWays_78 (by decide) rfl rfl ?_
                refine j_goto G dX12_findWays_81 (tgt := 26) (by decide) ?_
                refine j_pc (p2 := 26) rfl ?_
                first
                | (rw [show min (sm (rdX σ c d n i) k + rdX σ c d n i k) 1000000 = 1000000 by omega] at h_z; exact h_z)
                | (rw [show min (sm (rdX σ c d n i) k + rdX σ c d n i k) 1000000 = min (sm (rdX σ c d n i) k) 1000000 + rdX σ c d n i k by omega] at h_z; exact h_z)
              · refine j_ldc G kc_X12_197 dX12_findWays_71 (z := 1000000) (by decide) ?_
                refine j_goto G dX12_findWays_73 (tgt := 77) (by decide) ?_
                refine j_istore3 G dX12_findWays_77 (by decide) rfl ?_
                refine j_iinc4 G dX12_findWays_78 (by decide) rfl rfl ?_
                refine j_goto G dX12_findWays_81 (tgt := 26) (by decide) ?_
                refine j_pc (p2 := 26) rfl ?_
                first
                | (rw [show min (sm (rdX σ c d n i) k + rdX σ c d n i k) 1000000 = 1000000 by omega] at h_z; exact h_z)
                | (rw [show min (sm (rdX σ c d n i) k + rdX σ c d n i k) 1000000 = min (sm (rdX σ c d n i) k) 1000000 + rdX σ c d n i k by omega] at h_z; exact h_z)
          refine j_iload G dX12_findWays_26 rfl ?_
          refine j_bipush G dX12_findWays_28 (by decide) ?_
          refine j_icmp_ge G dX12_findWays_30 (tgt := 84) (by decide) (by omega) (by omega) (fun c_30 => ?_) (fun c_30 => ?_)
          · obtain rfl : k = 38 := by omega
            have h_ci : min (sm (rdX σ c d n i) 38) 1000000 = cA σ c d n i := (cA_s (by omega)).symm
            have h_cii := h_cr i (by omega)
            rw [h_ci]
            first | refine j_aload_n G dX12_findWays_84 rfl ?_ | refine j_aload_nN G dX12_findWays_84 rfl ?_
            refine j_getr G fl_X12_43 dX12_findWays_85 (by first | assumption | rfl) (by rfl) ?_
            refine j_iload_n G dX12_findWays_88 rfl ?_
            refine j_iload_n G dX12_findWays_89 rfl ?_
            refine j_iastore G dX12_findWays_90 (by first | assumption | rfl) (by omega) (by omega) ?_
            refine j_iinc2 G dX12_findWays_91 (by decide) rfl rfl ?_
            refine j_goto G dX12_findWays_94 (tgt := 17) (by decide) ?_
            refine j_pc (p2 := 17) rfl ?_
            refine j_weak (ih (by omega) _ (h_o.up rfl) (fun q h_1 h_2 => ?_)) ⟨rfl, rfl, rfl, trivial⟩
            by_cases h_e : q = i
            · subst h_e
              exact up_same _ _ _ _
            · rw [up_idx (by omega)]
              exact h_v q (by omega) h_2
          · refine j_iload_n G dX12_findWays_33 rfl ?_
            first | refine j_aload_n G dX12_findWays_34 rfl ?_ | refine j_aload_nN G dX12_findWays_34 rfl ?_
            refine j_iload_n G dX12_findWays_35 rfl ?_
            refine j_iload G dX12_findWays_36 rfl ?_
            refine j_iload_n G dX12_findWays_38 rfl ?_
            refine j_callV G mv_X12_194 dX12_findWays_39 (m_isReadBy (σ := σ) c k i n d h_c (by omega) (by omega) h_n h_dx h_dr h_w h_rc (fun q h_1 h_2 => h_v q (by omega) h_2)) (by first | assumption | rfl) (by decide) (by rfl) rfl rfl (by exact Nat.le_of_ble_eq_true rfl) (by decide) (kI ?_)
            refine j_if_eqB G dX12_findWays_42 (tgt := 62) (by decide)  (fun c_42 => ?_) (fun c_42 => ?_)
            · refine j_iconst G dX12_findWays_62 ?_
              refine j_pc (p2 := 63) rfl ?_
              first
              | (have h_e := h_63 (by omega)
                 rw [h_xk2] at h_e
                 exact h_e)
              | (have h_x0 : rdX σ c d n i k = 0 := by
                   unfold rdX
                   by_cases h_f : rdF σ c d n i k = true
                   · rw [if_pos h_f]
                     have h_c0 := h_cr _ (rdF_len (show i < n by omega) h_f)
                     have : ¬ 0 < cA σ c d n (i + wdN σ c k) := fun z => c_42 (by unfold qR; rw [h_f, decide_eq_true z]; rfl)
                     omega
                   · rw [if_neg h_f]
                 have h_e := h_63 (by omega)
                 rw [h_x0] at h_e
                 exact h_e)
            · obtain ⟨h_q1, h_q2⟩ := qR_rd c_42
              have h_l := rdF_len (show i < n by omega) h_q1
              have h_w12 := wdN_12 σ c k
              have h_vk := h_v (i + wdN σ c k) (by omega) h_l
              have h_xk2 : rdX σ c d n i k = cA σ c d n (i + wdN σ c k) := if_pos h_q1
              first | refine j_aload_n G dX12_findWays_45 rfl ?_ | refine j_aload_nN G dX12_findWays_45 rfl ?_
              refine j_getr G fl_X12_43 dX12_findWays_46 (by first | assumption | rfl) (by rfl) ?_
              refine j_iload_n G dX12_findWays_49 rfl ?_
              first | refine j_aload_n G dX12_findWays_50 rfl ?_ | refine j_aload_nN G dX12_findWays_50 rfl ?_
              refine j_iload_n G dX12_findWays_51 rfl ?_
              refine j_iload G dX12_findWays_52 rfl ?_
              refine j_callV G mv_X12_142 dX12_findWays_54 (m_wideOf c k h_c (by omega)) (by first | assumption | rfl) (by decide) (by rfl) rfl rfl (by exact Nat.le_of_ble_eq_true rfl) (by decide) (kI ?_)
              rw [wdI_N h_c (by omega) h_w h_rc h_q1]
              refine j_iadd G dX12_findWays_57 ?_
              rw [show (i : Int) + (wdN σ c k : Int) = ((i + wdN σ c k : Nat) : Int) by omega]
              refine j_iaload G dX12_findWays_58 (by first | assumption | rfl) (by omega) (fun r_58 => ?_)
              try simp (disch := omega) only [up_same, up_cell, up_idx, cpm_at, fil_at] at r_58 ⊢
              rw [h_vk]
              refine j_goto G dX12_findWays_59 (tgt := 63) (by decide) ?_
              refine j_pc (p2 := 63) rfl ?_
              first
              | (have h_e := h_63 (by omega)
                 rw [h_xk2] at h_e
                 exact h_e)
              | (have h_x0 : rdX σ c d n i k = 0 := by
                   unfold rdX
                   by_cases h_f : rdF σ c d n i k = true
                   · rw [if_pos h_f]
                     have h_c0 := h_cr _ (rdF_len (show i < n by omega) h_f)
                     have : ¬ 0 < cA σ c d n (i + wdN σ c k) := fun z => c_42 (by unfold qR; rw [h_f, decide_eq_true z]; rfl)
                     omega
                   · rw [if_neg h_f]
                 have h_e := h_63 (by omega)
                 rw [h_x0] at h_e
                 exact h_e)
  have h_d1 := h_d.1
  first | refine j_aload_n G dX12_findWays_0 rfl ?_ | refine j_aload_nN G dX12_findWays_0 rfl ?_
  refine j_getr G fl_X12_43 dX12_findWays_1 (by first | assumption | rfl) (by rfl) ?_
  first | refine j_aload_n G dX12_findWays_4 rfl ?_ | refine j_aload_nN G dX12_findWays_4 rfl ?_
  refine j_geti G fl_X12_134 dX12_findWays_5 9 rfl (by first | assumption | rfl) (by rfl) (fun r_5 => ?_)
  try simp (disch := omega) only [up_same, up_cell, up_idx, cpm_at, fil_at] at r_5 ⊢
  rw [h_d1]
  refine j_iconst G dX12_findWays_8 ?_
  refine j_iastore G dX12_findWays_9 (by first | assumption | rfl) (by omega) (by omega) ?_
  first | refine j_aload_n G dX12_findWays_10 rfl ?_ | refine j_aload_nN G dX12_findWays_10 rfl ?_
  refine j_geti G fl_X12_134 dX12_findWays_11 9 rfl (by first | assumption | rfl) (by rfl) (fun r_11 => ?_)
  try simp (disch := omega) only [up_same, up_cell, up_idx, cpm_at, fil_at] at r_11 ⊢
  rw [h_d1]
  refine j_iconst G dX12_findWays_14 ?_
  refine j_isub G dX12_findWays_15 ?_
  refine j_istore2 G dX12_findWays_16 (by decide) rfl ?_
  refine j_pc (p2 := 17) rfl ?_
  refine j_weak (h_lp n (by omega) _ ((Ons.rf _ _).up rfl) (fun q h_1 h_2 => ?_)) ⟨rfl, rfl, rfl, trivial⟩
  obtain rfl : q = n := by omega
  rw [up_same, cA_e]
theorem ltI_L {c k p n : Nat} {d : Nat → Int} (h_c : c < 5) (h_k : k < 38) (h_w : WfCode σ c) (h_r : ReCode σ μ c) (h : rdF σ c d n p k = true) : lnI μ c k = (ltL σ c k).length ∧ ∀ i : Nat, i < (ltL σ c k).length → ltI μ c k i = (ltL σ c k).getD i 0 := by
  obtain ⟨r1, r2, r3⟩ := id h_r
  unfold lnI ltI ltL
  by_cases h_12 : k < 12
  · unfold rdF at h
    rw [if_pos h_12, Bool.and_eq_true] at h
    have h_1 := of_decide_eq_true h.1
    obtain ⟨h_z1, h_z2, h_z3, h_z4⟩ := h_w.2.2.2 k (by omega) h_1
    obtain ⟨h_r1, h_r2, h_r3, h_r4, h_r5⟩ := r3 k (by omega) h_1
    rw [if_pos h_12, if_pos h_12, lsF_len, h_r1]
    refine ⟨by omega, fun i h_i => ?_⟩
    rw [if_pos h_12, lsF_gd _ _ _ h_i]
    exact h_r2 i (by omega) (by omega)
  · rw [if_neg h_12, if_neg h_12]
    refine ⟨rfl, fun i h_i => ?_⟩
    obtain rfl : i = 0 := by
      have : i < 1 := h_i
      omega
    rw [if_neg h_12]
    rfl
theorem m_read (c n : Nat) (i : Int) (h_i : (-2147483648 ≤ i ∧ i < 2147483648)) (h_c : c < 5) (h_w : WfCode σ c) (h_r : ReCode σ μ c) (h_p : WfPad σ) (h_rp : RePad σ μ) (h_n : σ 39 1 = n) : CT (EM x) 3 yX12_read [rf (EM x) 0, iv c, iv i] μ (rP (fun z ν => z = reaS σ c n i ∧ KM μ ν)) := by
  obtain ⟨-, -, h_p3, h_p4, -⟩ := id h_p
  obtain ⟨-, -, h_q3, h_q4, -⟩ := id h_rp
  have h_cr := cA_rg σ c (dtx σ) n
  have h_c0 := h_cr 0 (by omega)
  have h_d : ∀ i : Nat, i < n → 1 ≤ dtx σ i ∧ dtx σ i ≤ 63 := fun i h_i => h_p4 i (by omega) (by omega)
  unfold reaS
  refine CT.ofJ (own := RX12) (cc := cX12_read) (n := 7) (ret := (some .int)) (by decide) rfl cw_X12_read (by decide) (Nat.le_of_ble_eq_true rfl) (ls := [some (rf (EM x) 0), some (iv c), some (iv i), none, none, none, none]) rfl ?_
  intro X G
  refine j_iload_n G dX12_read_0 rfl ?_
  refine j_callS G ms_X12_121 dX12_read_1 (m_isCode c (by omega)) rfl rfl (by exact Nat.le_of_ble_eq_true rfl) (by decide) (kI ?_)
  refine j_if_neB G dX12_read_4 (tgt := 9) (by decide)  (fun c_4 => ?_) (fun c_4 => ?_)
  · first | refine j_aload_n G dX12_read_9 rfl ?_ | refine j_aload_nN G dX12_read_9 rfl ?_
    refine j_iload_n G dX12_read_10 rfl ?_
    refine j_callV G mv_X12_198 dX12_read_11 (m_findWays (σ := σ) c n (dtx σ) h_c (by omega) ⟨by rw [h_q3, h_n], fun j h_j => h_q4 j (by omega) (by omega)⟩ h_d h_w h_r) (by first | assumption | rfl) (by decide) (by rfl) rfl rfl (by exact Nat.le_of_ble_eq_true rfl) (by decide) (kM (fun ν h_1 => ?_))
    obtain ⟨h_o, h_v⟩ := h_1
    have h_km : KM μ ν := ⟨fun k h_1 h_2 => h_o k (fun h => h_1 (by unfold scM; omega)), fun j h_1 => by rw [h_o 0 (by decide)]⟩
    have h_v0 : ν 12 0 = cA σ c (dtx σ) n 0 := h_v 0 (by omega)
    have h_dx : DX ν n (dtx σ) := ⟨by rw [h_o 0 (by decide), h_q3, h_n], fun j h_j => by rw [h_o 8 (by decide)]; exact h_q4 j (by omega) (by omega)⟩
    have h_dx1 := h_dx.1
    have h_rc : ReCode σ ν c := h_r.on (fun j h_1 h_2 => h_o j (by omega))
    refine j_iload_n G dX12_read_14 rfl ?_
    refine j_iconst G dX12_read_15 ?_
    refine j_icmp_ne G dX12_read_16 (tgt := 26) (by decide) (by omega) (by omega) (fun c_16 => ?_) (fun c_16 => ?_)
    · rw [if_neg (by omega)]
      refine j_iconst G dX12_read_26 ?_
      refine j_istore3 G dX12_read_27 (by decide) rfl ?_
      refine j_iconst G dX12_read_28 ?_
      refine j_istore4 G dX12_read_29 (by decide) rfl ?_
      refine j_pc (p2 := 31) rfl ?_
      by_cases h_00 : 0 < cA σ c (dtx σ) n 0
      · have h_W : rdW σ c n = rdL σ c (dtx σ) n 12 0 := if_pos h_00
        rw [h_W]
        have h_lp : ∀ f : Nat, f ≤ 12 → ∀ (p : Nat) (D : List Int), p ≤ n → n ≤ p + f → 0 < cA σ c (dtx σ) n p → ¬ (0 ≤ i ∧ i < D.length) → D.length ≤ 4 * p → D ++ rdL σ c (dtx σ) n f p = rdL σ c (dtx σ) n 12 0 → JJ (EM x) X 3 (rP (fun z ν => z = (if i = -2 then ((rdL σ c (dtx σ) n 12 0).length : Int) else rowAt (rdL σ c (dtx σ) n 12 0) i) ∧ KM μ ν)) 7 31 [some (rf (EM x) 0), some (iv c), some (iv i), some (iv p), some (iv D.length), none, none] [] ν := by
          intro f
          induction f with
          | zero =>
            intro h_f p D h_pn h_nf h_cp h_iD h_Dl h_D
            have h_DD : D = rdL σ c (dtx σ) n 12 0 := by rw [← h_D]; exact (List.append_nil D).symm
            rw [← h_DD]
            · refine j_iload_n G dX12_read_31 rfl ?_
              first | refine j_aload_n G dX12_read_32 rfl ?_ | refine j_aload_nN G dX12_read_32 rfl ?_
              refine j_geti G fl_X12_134 dX12_read_33 9 rfl (by first | assumption | rfl) (by rfl) (fun r_33 => ?_)
              try simp (disch := omega) only [up_same, up_cell, up_idx, cpm_at, fil_at] at r_33 ⊢
              rw [h_dx1]
              refine j_icmp_ge G dX12_read_36 (tgt := 121) (by decide) (by omega) (by omega) (fun c_36 => ?_) (fun c_36 => ?_)
              · refine j_iload_n G dX12_read_121 rfl ?_
                refine j_bipush G dX12_read_122 (by decide) ?_
                refine j_icmp_ne G dX12_read_124 (tgt := 132) (by decide) (by omega) (by omega) (fun c_124 => ?_) (fun c_124 => ?_)
                · refine j_bipush G dX12_read_132 (by decide) ?_
                  refine j_ireturn G dX12_read_134 ?_
                  first
                  | exact ⟨_, rfl, by rw [if_pos (by omega)], h_km⟩
                  | exact ⟨_, rfl, by rw [if_neg (by omega)]; unfold rowAt; rw [if_neg h_iD], h_km⟩
                · refine j_iload G dX12_read_127 rfl ?_
                  refine j_goto G dX12_read_129 (tgt := 134) (by decide) ?_
                  refine j_ireturn G dX12_read_134 ?_
                  first
                  | exact ⟨_, rfl, by rw [if_pos (by omega)], h_km⟩
                  | exact ⟨_, rfl, by rw [if_neg (by omega)]; unfold rowAt; rw [if_neg h_iD], h_km⟩
              · omega
          | succ f ih =>
            intro h_f p D h_pn h_nf h_cp h_iD h_Dl h_D
            · refine j_iload_n G dX12_read_31 rfl ?_
              first | refine j_aload_n G dX12_read_32 rfl ?_ | refine j_aload_nN G dX12_read_32 rfl ?_
              refine j_geti G fl_X12_134 dX12_read_33 9 rfl (by first | assumption | rfl) (by rfl) (fun r_33 => ?_)
              try simp (disch := omega) only [up_same, up_cell, up_idx, cpm_at, fil_at] at r_33 ⊢
              rw [h_dx1]
              refine j_icmp_ge G dX12_read_36 (tgt := 121) (by decide) (by omega) (by omega) (fun c_36 => ?_) (fun c_36 => ?_)
              · refine j_iload_n G dX12_read_121 rfl ?_
                refine j_bipush G dX12_read_122 (by decide) ?_
                refine j_icmp_ne G dX12_read_124 (tgt := 132) (by decide) (by omega) (by omega) (fun c_124 => ?_) (fun c_124 => ?_)
                · refine j_bipush G dX12_read_132 (by decide) ?_
                  refine j_ireturn G dX12_read_134 ?_
                  rw [rdL_e (by omega), List.append_nil] at h_D
                  rw [← h_D]
                  first
                  | exact ⟨_, rfl, by rw [if_pos (by omega)], h_km⟩
                  | exact ⟨_, rfl, by rw [if_neg (by omega)]; unfold rowAt; rw [if_neg h_iD], h_km⟩
                · refine j_iload G dX12_read_127 rfl ?_
                  refine j_goto G dX12_read_129 (tgt := 134) (by decide) ?_
                  refine j_ireturn G dX12_read_134 ?_
                  rw [rdL_e (by omega), List.append_nil] at h_D
                  rw [← h_D]
                  first
                  | exact ⟨_, rfl, by rw [if_pos (by omega)], h_km⟩
                  | exact ⟨_, rfl, by rw [if_neg (by omega)]; unfold rowAt; rw [if_neg h_iD], h_km⟩
              · first | refine j_aload_n G dX12_read_39 rfl ?_ | refine j_aload_nN G dX12_read_39 rfl ?_
                refine j_getr G fl_X12_43 dX12_read_40 (by first | assumption | rfl) (by rfl) ?_
                refine j_iconst G dX12_read_43 ?_
                refine j_iaload G dX12_read_44 (by first | assumption | rfl) (by omega) (fun r_44 => ?_)
                try simp (disch := omega) only [up_same, up_cell, up_idx, cpm_at, fil_at] at r_44 ⊢
                rw [h_v0]
                refine j_if_le G dX12_read_45 (tgt := 121) (by decide) (by omega) (fun c_45 => ?_) (fun c_45 => ?_)
                · omega
                · obtain ⟨h_k1, h_k2, h_k3, h_k4, h_k5⟩ := kR_is (show p < n by omega) h_cp
                  generalize h_K : kR σ c (dtx σ) n p = K at h_k1 h_k2 h_k3 h_k4 h_k5
                  rw [rdL_s (by omega) h_K] at h_D
                  have h_Ll := ltL_len h_w h_k2
                  have h_w12 := wdN_12 σ c K
                  obtain ⟨h_ln, h_lt⟩ := ltI_L h_c h_k1 h_w h_rc h_k2
                  have h_wdK := wdI_N h_c h_k1 h_w h_rc h_k2
                  have h_qK : qR σ c (dtx σ) n p K = true := by unfold qR; rw [h_k2, decide_eq_true h_k3]; rfl
                  refine j_iconst G dX12_read_48 ?_
                  refine j_istore5 G dX12_read_49 (by decide) rfl ?_
                  refine j_pc (p2 := 51) rfl ?_
                  refine j_weak (ls' := [some (rf (EM x) 0), some (iv c), some (iv i), some (iv p), some (iv D.length), some (iv ((0 : Nat) : Int)), none]) ?_ ⟨rfl, rfl, rfl, rfl, rfl, rfl, trivial⟩
                  refine down (Pr := fun k => JJ (EM x) X 3 (rP (fun z ν => z = (if i = -2 then ((rdL σ c (dtx σ) n 12 0).length : Int) else rowAt (rdL σ c (dtx σ) n 12 0) i) ∧ KM μ ν)) 7 51 [some (rf (EM x) 0), some (iv c), some (iv i), some (iv p), some (iv D.length), some (iv k), none] [] ν) K ?_ 0 (Nat.zero_le _)
                  intro k h_k ih2
                  have h_k5k := h_k5 k
                  first | refine j_aload_n G dX12_read_51 rfl ?_ | refine j_aload_nN G dX12_read_51 rfl ?_
                  refine j_iload_n G dX12_read_52 rfl ?_
                  refine j_iload G dX12_read_53 rfl ?_
                  refine j_iload_n G dX12_read_55 rfl ?_
                  refine j_callV G mv_X12_194 dX12_read_56 (m_isReadBy (σ := σ) c k p n (dtx σ) h_c (by omega) (by omega) (by omega) h_dx h_d h_w h_rc (fun q h_1 h_2 => h_v q h_2)) (by first | assumption | rfl) (by decide) (by rfl) rfl rfl (by exact Nat.le_of_ble_eq_true rfl) (by decide) (kI ?_)
                  refine j_if_neB G dX12_read_59 (tgt := 68) (by decide)  (fun c_59 => ?_) (fun c_59 => ?_)
                  · obtain rfl : k = K := Nat.le_antisymm h_k (Nat.le_of_not_lt (fun h_e => by rw [h_k5k h_e] at c_59; exact absurd c_59 (by decide)))
                    refine j_iconst G dX12_read_68 ?_
                    refine j_istore6 G dX12_read_69 (by decide) rfl ?_
                    refine j_pc (p2 := 71) rfl ?_
                    refine j_weak (ls' := [some (rf (EM x) 0), some (iv c), some (iv i), some (iv p), some (iv ((D.length + 0 : Nat) : Int)), some (iv k), some (iv ((0 : Nat) : Int))]) ?_ ⟨rfl, rfl, rfl, rfl, rfl, rfl, rfl, trivial⟩
                    refine down (Pr := fun j => ¬ (0 ≤ i ∧ i < ((D.length + j : Nat) : Int)) → JJ (EM x) X 3 (rP (fun z ν => z = (if i = -2 then ((rdL σ c (dtx σ) n 12 0).length : Int) else rowAt (rdL σ c (dtx σ) n 12 0) i) ∧ KM μ ν)) 7 71 [some (rf (EM x) 0), some (iv c), some (iv i), some (iv p), some (iv ((D.length + j : Nat) : Int)), some (iv k), some (iv j)] [] ν) (ltL σ c k).length ?_ 0 (Nat.zero_le _) h_iD
                    intro j h_j ih3 h_ij
                    refine j_iload G dX12_read_71 rfl ?_
                    first | refine j_aload_n G dX12_read_73 rfl ?_ | refine j_aload_nN G dX12_read_73 rfl ?_
                    refine j_iload_n G dX12_read_74 rfl ?_
                    refine j_iload G dX12_read_75 rfl ?_
                    refine j_callV G mv_X12_158 dX12_read_77 (m_longOf c k h_c h_k1) (by first | assumption | rfl) (by decide) (by rfl) rfl rfl (by exact Nat.le_of_ble_eq_true rfl) (by decide) (kI ?_)
                    rw [h_ln]
                    refine j_icmp_ge G dX12_read_80 (tgt := 108) (by decide) (by omega) (by omega) (fun c_80 => ?_) (fun c_80 => ?_)
                    · refine j_iload_n G dX12_read_108 rfl ?_
                      first | refine j_aload_n G dX12_read_109 rfl ?_ | refine j_aload_nN G dX12_read_109 rfl ?_
                      refine j_iload_n G dX12_read_110 rfl ?_
                      refine j_iload G dX12_read_111 rfl ?_
                      refine j_callV G mv_X12_142 dX12_read_113 (m_wideOf c k h_c h_k1) (by first | assumption | rfl) (by decide) (by rfl) rfl rfl (by exact Nat.le_of_ble_eq_true rfl) (by decide) (kI ?_)
                      rw [h_wdK]
                      refine j_iadd G dX12_read_116 ?_
                      refine j_istore3 G dX12_read_117 (by decide) rfl ?_
                      refine j_goto G dX12_read_118 (tgt := 31) (by decide) ?_
                      refine j_pc (p2 := 31) rfl ?_
                      obtain rfl : j = (ltL σ c k).length := by omega
                      have h_z := ih (by omega) (p + wdN σ c k) (D ++ ltL σ c k) h_k4 (by omega) h_k3 (by rw [List.length_append]; exact h_ij) (by rw [List.length_append]; omega) (by rw [List.append_assoc]; exact h_D)
                      rw [List.length_append] at h_z
                      exact j_weak h_z ⟨rfl, rfl, rfl, rfl, rfl, trivial⟩
                    · refine j_iload G dX12_read_83 rfl ?_
                      refine j_iload_n G dX12_read_85 rfl ?_
                      refine j_icmp_ne G dX12_read_86 (tgt := 99) (by decide) (by omega) (by omega) (fun c_86 => ?_) (fun c_86 => ?_)
                      · refine j_iinc4 G dX12_read_99 (by decide) rfl rfl ?_
                        refine j_iinc6 G dX12_read_102 (by decide) rfl rfl ?_
                        refine j_goto G dX12_read_105 (tgt := 71) (by decide) ?_
                        refine j_pc (p2 := 71) rfl ?_
                        exact ih3 (by omega) (by omega)
                      · first | refine j_aload_n G dX12_read_89 rfl ?_ | refine j_aload_nN G dX12_read_89 rfl ?_
                        refine j_iload_n G dX12_read_90 rfl ?_
                        refine j_iload G dX12_read_91 rfl ?_
                        refine j_iload G dX12_read_93 rfl ?_
                        refine j_callV G mv_X12_164 dX12_read_95 (m_letterAt c k j h_c h_k1 (by omega)) (by first | assumption | rfl) (by decide) (by rfl) rfl rfl (by exact Nat.le_of_ble_eq_true rfl) (by decide) (kI ?_)
                        rw [h_lt j (by omega)]
                        refine j_ireturn G dX12_read_98 ?_
                        refine ⟨_, rfl, ?_, h_km⟩
                        rw [if_neg (by omega)]
                        unfold rowAt
                        rw [← h_D, if_pos (by rw [List.length_append, List.length_append]; omega), ← c_86, Int.toNat_natCast, gd_r, gd_l2 _ _ _ (by omega)]
                  · refine j_iinc5 G dX12_read_62 (by decide) rfl rfl ?_
                    refine j_goto G dX12_read_65 (tgt := 51) (by decide) ?_
                    refine j_pc (p2 := 51) rfl ?_
                    refine ih2 (Nat.lt_of_le_of_ne h_k (fun h_e => ?_))
                    subst h_e
                    exact c_59 h_qK
        exact j_weak (h_lp 12 (by omega) 0 [] (by omega) (by omega) h_00 (fun z => by have : i < 0 := z.2; omega) (by decide) rfl) ⟨rfl, rfl, rfl, rfl, rfl, trivial⟩
      · have h_W : rdW σ c n = [] := if_neg h_00
        rw [h_W]
        · refine j_iload_n G dX12_read_31 rfl ?_
          first | refine j_aload_n G dX12_read_32 rfl ?_ | refine j_aload_nN G dX12_read_32 rfl ?_
          refine j_geti G fl_X12_134 dX12_read_33 9 rfl (by first | assumption | rfl) (by rfl) (fun r_33 => ?_)
          try simp (disch := omega) only [up_same, up_cell, up_idx, cpm_at, fil_at] at r_33 ⊢
          rw [h_dx1]
          refine j_icmp_ge G dX12_read_36 (tgt := 121) (by decide) (by omega) (by omega) (fun c_36 => ?_) (fun c_36 => ?_)
          · refine j_iload_n G dX12_read_121 rfl ?_
            refine j_bipush G dX12_read_122 (by decide) ?_
            refine j_icmp_ne G dX12_read_124 (tgt := 132) (by decide) (by omega) (by omega) (fun c_124 => ?_) (fun c_124 => ?_)
            · refine j_bipush G dX12_read_132 (by decide) ?_
              refine j_ireturn G dX12_read_134 ?_
              first
              | exact ⟨0, rfl, by rw [if_pos (by omega)]; rfl, h_km⟩
              | exact ⟨-6, rfl, by rw [if_neg (by omega)]; unfold rowAt; rw [if_neg (fun z => by have : i < 0 := z.2; omega)], h_km⟩
            · refine j_iload G dX12_read_127 rfl ?_
              refine j_goto G dX12_read_129 (tgt := 134) (by decide) ?_
              refine j_ireturn G dX12_read_134 ?_
              first
              | exact ⟨0, rfl, by rw [if_pos (by omega)]; rfl, h_km⟩
              | exact ⟨-6, rfl, by rw [if_neg (by omega)]; unfold rowAt; rw [if_neg (fun z => by have : i < 0 := z.2; omega)], h_km⟩
          · first | refine j_aload_n G dX12_read_39 rfl ?_ | refine j_aload_nN G dX12_read_39 rfl ?_
            refine j_getr G fl_X12_43 dX12_read_40 (by first | assumption | rfl) (by rfl) ?_
            refine j_iconst G dX12_read_43 ?_
            refine j_iaload G dX12_read_44 (by first | assumption | rfl) (by omega) (fun r_44 => ?_)
            try simp (disch := omega) only [up_same, up_cell, up_idx, cpm_at, fil_at] at r_44 ⊢
            rw [h_v0]
            refine j_if_le G dX12_read_45 (tgt := 121) (by decide) (by omega) (fun c_45 => ?_) (fun c_45 => ?_)
            · refine j_iload_n G dX12_read_121 rfl ?_
              refine j_bipush G dX12_read_122 (by decide) ?_
              refine j_icmp_ne G dX12_read_124 (tgt := 132) (by decide) (by omega) (by omega) (fun c_124 => ?_) (fun c_124 => ?_)
              · refine j_bipush G dX12_read_132 (by decide) ?_
                refine j_ireturn G dX12_read_134 ?_
                first
                | exact ⟨0, rfl, by rw [if_pos (by omega)]; rfl, h_km⟩
                | exact ⟨-6, rfl, by rw [if_neg (by omega)]; unfold rowAt; rw [if_neg (fun z => by have : i < 0 := z.2; omega)], h_km⟩
              · refine j_iload G dX12_read_127 rfl ?_
                refine j_goto G dX12_read_129 (tgt := 134) (by decide) ?_
                refine j_ireturn G dX12_read_134 ?_
                first
                | exact ⟨0, rfl, by rw [if_pos (by omega)]; rfl, h_km⟩
                | exact ⟨-6, rfl, by rw [if_neg (by omega)]; unfold rowAt; rw [if_neg (fun z => by have : i < 0 := z.2; omega)], h_km⟩
            · omega
    · first | refine j_aload_n G dX12_read_19 rfl ?_ | refine j_aload_nN G dX12_read_19 rfl ?_
      refine j_getr G fl_X12_43 dX12_read_20 (by first | assumption | rfl) (by rfl) ?_
      refine j_iconst G dX12_read_23 ?_
      refine j_iaload G dX12_read_24 (by first | assumption | rfl) (by omega) (fun r_24 => ?_)
      try simp (disch := omega) only [up_same, up_cell, up_idx, cpm_at, fil_at] at r_24 ⊢
      rw [h_v0]
      refine j_ireturn G dX12_read_25 ?_
      exact ⟨_, rfl, by rw [if_pos (by omega)], h_km⟩
  · refine j_iconst G dX12_read_7 ?_
    refine j_ireturn G dX12_read_8 ?_
    omega
theorem m_readN (c i : Int) (h_1 : (-2147483648 ≤ c ∧ c < 2147483648)) (h_c : ¬ (0 ≤ c ∧ c ≤ 4)) : CT (EM x) 3 yX12_read [rf (EM x) 0, iv c, iv i] μ (rI (-1) μ) := by
  refine CT.ofJ (own := RX12) (cc := cX12_read) (n := 7) (ret := (some .int)) (by decide) rfl cw_X12_read (by decide) (Nat.le_of_ble_eq_true rfl) (ls := [some (rf (EM x) 0), some (iv c), some (iv i), none, none, none, none]) rfl ?_
  intro X G
  refine j_iload_n G dX12_read_0 rfl ?_
  refine j_callS G ms_X12_121 dX12_read_1 (m_isCode c h_1) rfl rfl (by exact Nat.le_of_ble_eq_true rfl) (by decide) (kI ?_)
  refine j_if_neB G dX12_read_4 (tgt := 9) (by decide)  (fun c_4 => ?_) (fun c_4 => ?_)
  · omega
  · refine j_iconst G dX12_read_7 ?_
    refine j_ireturn G dX12_read_8 ?_
    exact ⟨rfl, rfl⟩
theorem op_read (c i : Int) (h_1 : (-2147483648 ≤ c ∧ c < 2147483648)) (h_2 : (-2147483648 ≤ i ∧ i < 2147483648)) : OP x1 x2 yX11_read yX12_read [iv c, iv i] := by
  refine OP.same (fun σ μ hw hr => ?_)
  obtain ⟨w1, w2, w3, w4, w5, w6, w7, w8⟩ := id hw
  obtain ⟨r1, r2, r3, r4, r5, r6, r7, r8⟩ := id hr
  by_cases h_c : 0 ≤ c ∧ c ≤ 4
  · obtain ⟨cc, h_c4, rfl⟩ := nat_of (n := 4) h_c
    obtain ⟨n, h_n10, h_n⟩ := nat_of (n := 12) w2.2.2.1
    exact ⟨_, _, _, by decide, by decide, c_read cc n i h_2 (by omega) (w1 cc (by omega)) w2 h_n, m_read cc n i h_2 (by omega) (w1 cc (by omega)) (r1 cc (by omega)) w2 r2 h_n⟩
  · exact ⟨_, _, _, by decide, by decide, rI_P (c_readN c i h_1 h_c) ⟨rfl, KC.rf _⟩, rI_P (m_readN c i h_1 h_c) ⟨rfl, KM.rf _⟩⟩
end RM4
