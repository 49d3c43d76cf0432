def wsz (σ : MemT) (w : Nat) : Nat := (σ 59 w).toNat
def inP (σ : MemT) (m w r : Nat) : Prop := r < m ∧ faB σ r = true ∧ ∃ p, p < wsz σ w ∧ roF σ (wtx σ w) (wsz σ w) r p = true
section RA
variable {E : EE} {x x1 x2 : CX} {μ σ τ : MemT}
/-- the books' scratch -/
def scB (j : Nat) : Prop := 73 ≤ j ∧ j ≤ 76
theorem WdO {w n : Nat} (h : WfWord σ) (h_n : σ 57 3 = n) (h_w : w < n) : n ≤ 30 ∧ σ 59 w = (wsz σ w : Nat) ∧ (1 ≤ wsz σ w ∧ wsz σ w ≤ 10) ∧ ∀ i : Nat, i < wsz σ w → 0 ≤ wtx σ w i ∧ wtx σ w i ≤ 25 := by
  obtain ⟨h_1, h_2, h_3, h_4⟩ := h
  obtain ⟨h_5, h_6⟩ := h_3 w (by omega) (by omega)
  unfold wsz
  exact ⟨by omega, by omega, by omega, fun i h_i => h_6 i (by omega) (by omega)⟩
set_option maxRecDepth 4000 in
theorem c_placeRows (w n m : Nat) (h_o : Ons scB σ τ) (h_w : w < n) (h_n : σ 57 3 = n) (h_ww : WfWord σ) (h_wr : WfRow σ) (h_m : RoO σ m) : CT (EC x) 1 yX0_placeRows [rf (EC x) 56, iv w] τ (rP (fun y τ2 => ∃ I : Nat, y = I ∧ I < 2 ^ m ∧ (∀ r, I.testBit r = true ↔ inP σ m w r) ∧ Ons (· = 73) τ τ2 ∧ ∀ p len : Nat, p < wsz σ w → len < 5 → τ2 73 (5 * (p : Int) + len) = (raN σ (wtx σ w) (wsz σ w) p len m : Nat))) := by
  obtain ⟨h_30, h_59, h_z, h_t⟩ := WdO h_ww h_n h_w
  obtain ⟨h_m1, h_m2, h_m3⟩ := id h_m
  have h_70 : σ 70 0 = 4 := h_wr.1
  generalize h_zz : wsz σ w = z at h_59 h_z h_t ⊢
  have h_zz2 : ∀ r, inP σ m w r ↔ (r < m ∧ faB σ r = true ∧ ∃ p, p < z ∧ roF σ (wtx σ w) z r p = true) := fun r => by unfold inP; rw [h_zz]
  refine CT.ofJ (own := RX0) (cc := cX0_placeRows) (n := 7) (ret := (some .int)) (by decide) rfl cw_X0_placeRows (by decide) (Nat.le_of_ble_eq_true rfl) (ls := [some (rf (EC x) 56), some (iv w), none, none, none, none, none]) rfl ?_
  intro X G
  first | refine j_aload_n G dX0_placeRows_0 rfl ?_ | refine j_aload_nN G dX0_placeRows_0 rfl ?_
  refine j_getr G fl_X0_32 dX0_placeRows_1 (by first | exact rfl | assumption) (by rfl) ?_
  refine j_iconst G dX0_placeRows_4 ?_
  refine j_callS G ms_X0_92 dX0_placeRows_5 (x_fill 73 50 0 (by decide) rfl (by decide)) rfl rfl (by exact Nat.le_of_ble_eq_true rfl) (by first | decide | omega) (kN ?_)
  refine j_iconst G dX0_placeRows_8 ?_
  refine j_istore2 G dX0_placeRows_9 (by decide) rfl ?_
  refine j_iload_n G dX0_placeRows_10 rfl ?_
  refine j_bipush G dX0_placeRows_11 (by decide) ?_
  refine j_imul G dX0_placeRows_13 ?_
  rw [Int.mul_comm (w : Int) 10]
  refine j_istore3 G dX0_placeRows_14 (by decide) rfl ?_
  refine j_iconst G dX0_placeRows_15 ?_
  refine j_pc (p2 := 16) rfl ?_
  refine j_istore4 G dX0_placeRows_16 (by decide) rfl ?_
  refine j_pc (p2 := 18) rfl ?_
  refine j_weak (ls' := [some (rf (EC x) 56), some (iv w), some (iv ((0 : Nat) : Int)), some (iv (10 * (w : Int))), some (iv ((0 : Nat) : Int)), none, none]) ?_ ⟨rfl, rfl, rfl, rfl, rfl, trivial⟩
  refine down (Pr := fun p => ∀ (τ2 : MemT) (I : Nat), Ons (· = 73) τ τ2 → I < 2 ^ m → (∀ r, I.testBit r = true ↔ (r < m ∧ faB σ r = true ∧ ∃ q, q < p ∧ roF σ (wtx σ w) z r q = true)) → (∀ q len : Nat, q < 10 → len < 5 → τ2 73 (5 * (q : Int) + len) = (if q < p then (raN σ (wtx σ w) z q len m : Int) else 0)) → JJ (EC x) X 1 (rP (fun y τ2 => ∃ I : Nat, y = I ∧ I < 2 ^ m ∧ (∀ r, I.testBit r = true ↔ inP σ m w r) ∧ Ons (· = 73) τ τ2 ∧ ∀ p len : Nat, p < z → len < 5 → τ2 73 (5 * (p : Int) + len) = (raN σ (wtx σ w) z p len m : Nat))) 7 18 [some (rf (EC x) 56), some (iv w), some (iv I), some (iv (10 * (w : Int))), some (iv p), none, none] [] τ2) z ?_ 0 (Nat.zero_le _) _ 0 (fun j h_j => fil_cell h_j) (Nat.two_pow_pos _) (fun r => ⟨fun h => by rw [Nat.zero_testBit] at h; exact absurd h (by decide), fun ⟨_, _, q, h_q, _⟩ => absurd h_q (Nat.not_lt_zero _)⟩) (fun q len h_q h_l => by rw [if_neg (Nat.not_lt_zero _)]; exact fil_in (by omega))
  intro p h_p ih τ2 I h_o2 h_I h_Ib h_73
  have h_oo : Ons scB σ τ2 := h_o.tr (h_o2.wk (fun j h => by unfold scB; omega))
  refine j_iload G dX0_placeRows_18 rfl ?_
  first | refine j_aload_n G dX0_placeRows_20 rfl ?_ | refine j_aload_nN G dX0_placeRows_20 rfl ?_
  refine j_getr G fl_X0_14 dX0_placeRows_21 (by first | exact rfl | assumption) (by rfl) ?_
  refine j_getr G fl_X0_55 dX0_placeRows_24 (by first | exact rfl | assumption) (by rfl) ?_
  refine j_iload_n G dX0_placeRows_27 rfl ?_
  refine j_iaload G dX0_placeRows_28 (by first | exact rfl | assumption) (by omega) (fun r_28 => ?_)
  try simp (disch := omega) only [up_same, up_cell, up_idx, cpm_at, fil_at] at r_28 ⊢
  rw [h_oo 59 (by unfold scB; omega), h_59]
  refine j_icmp_ge G dX0_placeRows_29 (tgt := 138) (by decide) (by omega) (by omega) (fun c_29 => ?_) (fun c_29 => ?_)
  · refine j_iload_n G dX0_placeRows_138 rfl ?_
    refine j_ireturn G dX0_placeRows_139 ?_
    obtain rfl : p = z := by omega
    refine ⟨_, rfl, I, rfl, h_I, fun r => (h_Ib r).trans (h_zz2 r).symm, h_o2, fun q len h_q h_l => ?_⟩
    rw [h_73 q len (by omega) h_l, if_pos h_q]
  · refine j_iconst G dX0_placeRows_32 ?_
    refine j_istore5 G dX0_placeRows_33 (by decide) rfl ?_
    refine j_pc (p2 := 35) rfl ?_
    refine j_weak (ls' := [some (rf (EC x) 56), some (iv w), some (iv I), some (iv (10 * (w : Int))), some (iv p), some (iv ((0 : Nat) : Int)), none]) ?_ ⟨rfl, rfl, rfl, rfl, rfl, rfl, trivial⟩
    refine down (Pr := fun k => ∀ (τ2 : MemT) (I : Nat), Ons (· = 73) τ τ2 → I < 2 ^ m → (∀ r, I.testBit r = true ↔ (r < m ∧ faB σ r = true ∧ ((∃ q, q < p ∧ roF σ (wtx σ w) z r q = true) ∨ (r < k ∧ roF σ (wtx σ w) z r p = true)))) → (∀ q len : Nat, q < 10 → len < 5 → τ2 73 (5 * (q : Int) + len) = (if q < p then (raN σ (wtx σ w) z q len m : Int) else if q = p then (raN σ (wtx σ w) z p len k : Int) else 0)) → JJ (EC x) X 1 (rP (fun y τ2 => ∃ I : Nat, y = I ∧ I < 2 ^ m ∧ (∀ r, I.testBit r = true ↔ inP σ m w r) ∧ Ons (· = 73) τ τ2 ∧ ∀ p len : Nat, p < z → len < 5 → τ2 73 (5 * (p : Int) + len) = (raN σ (wtx σ w) z p len m : Nat))) 7 35 [some (rf (EC x) 56), some (iv w), some (iv I), some (iv (10 * (w : Int))), some (iv p), some (iv k), none] [] τ2) m ?_ 0 (Nat.zero_le _) τ2 I h_o2 h_I (fun r => ?_) (fun q len h_q h_l => ?_)
    · intro k h_k ih2 τ2 I h_o2 h_I h_Ib h_73
      have h_oo : Ons scB σ τ2 := h_o.tr (h_o2.wk (fun j h => by unfold scB; omega))
      have h_m3k := h_m3 k
      have h_ras : ∀ len, raN σ (wtx σ w) z p len (k + 1) = if roL σ k = len ∧ prF σ (wtx σ w) z k p = true then 2 ^ k else raN σ (wtx σ w) z p len k := fun len => rfl
      have h_no : k < m → ¬ prF σ (wtx σ w) z k p = true → JJ (EC x) X 1 (rP (fun y τ2 => ∃ I : Nat, y = I ∧ I < 2 ^ m ∧ (∀ r, I.testBit r = true ↔ inP σ m w r) ∧ Ons (· = 73) τ τ2 ∧ ∀ p len : Nat, p < z → len < 5 → τ2 73 (5 * (p : Int) + len) = (raN σ (wtx σ w) z p len m : Nat))) 7 35 [some (rf (EC x) 56), some (iv w), some (iv I), some (iv (10 * (w : Int))), some (iv p), some (iv ((k + 1 : Nat) : Int)), none] [] τ2 := fun h_km h_np => ih2 h_km τ2 I h_o2 h_I (fun r => by
        rw [h_Ib]
        constructor
        · rintro ⟨h_1, h_2, h_3⟩
          exact ⟨h_1, h_2, h_3.imp_right (fun y => ⟨by omega, y.2⟩)⟩
        · rintro ⟨h_1, h_2, h_3⟩
          refine ⟨h_1, h_2, h_3.imp_right (fun y => ⟨?_, y.2⟩)⟩
          by_cases h_e : r = k
          · rw [h_e] at h_2 y
            exact absurd (show prF σ (wtx σ w) z k p = true by unfold prF; rw [y.2, h_2]; rfl) h_np
          · omega) (fun q len h_q h_l => by
        have h_rr : raN σ (wtx σ w) z p len (k + 1) = raN σ (wtx σ w) z p len k := by rw [h_ras len, if_neg (fun y => h_np y.2)]
        rw [h_73 q len h_q h_l, h_rr])
      · refine j_iload G dX0_placeRows_35 rfl ?_
        first | refine j_aload_n G dX0_placeRows_37 rfl ?_ | refine j_aload_nN G dX0_placeRows_37 rfl ?_
        refine j_getr G fl_X0_29 dX0_placeRows_38 (by first | exact rfl | assumption) (by rfl) ?_
        refine j_geti G fl_X0_48 dX0_placeRows_41 3 rfl (by first | exact rfl | assumption) (by rfl) (fun r_41 => ?_)
        try simp (disch := omega) only [up_same, up_cell, up_idx, cpm_at, fil_at] at r_41 ⊢
        rw [h_oo 70 (by unfold scB; omega), h_m1]
        refine j_icmp_ge G dX0_placeRows_44 (tgt := 132) (by decide) (by omega) (by omega) (fun c_44 => ?_) (fun c_44 => ?_)
        · refine j_iinc4 G dX0_placeRows_132 (by decide) rfl rfl ?_
          refine j_goto G dX0_placeRows_135 (tgt := 18) (by decide) ?_
          refine j_pc (p2 := 18) rfl ?_
          obtain rfl : k = m := by omega
          refine j_weak (ih (by omega) τ2 I h_o2 h_I (fun r => ?_) (fun q len h_q h_l => ?_)) ⟨rfl, rfl, rfl, rfl, rfl, trivial⟩
          · rw [h_Ib]
            constructor
            · rintro ⟨h_1, h_2, h_3⟩
              refine ⟨h_1, h_2, ?_⟩
              rcases h_3 with ⟨q, h_4, h_5⟩ | ⟨h_4, h_5⟩
              · exact ⟨q, by omega, h_5⟩
              · exact ⟨p, by omega, h_5⟩
            · rintro ⟨h_1, h_2, q, h_4, h_5⟩
              refine ⟨h_1, h_2, ?_⟩
              by_cases h_e : q = p
              · rw [h_e] at h_5
                exact Or.inr ⟨h_1, h_5⟩
              · exact Or.inl ⟨q, by omega, h_5⟩
          · rw [h_73 q len h_q h_l]
            by_cases h_q2 : q < p
            · rw [if_pos h_q2, if_pos (by omega)]
            · rw [if_neg h_q2]
              by_cases h_qp : q = p
              · rw [if_pos h_qp, if_pos (by omega), h_qp]
              · rw [if_neg h_qp, if_neg (by omega)]
        · obtain ⟨h_l1, h_l2, h_l3⟩ := h_m3k (by omega)
          have h_pk := h_73 p (roL σ k) (by omega) (by omega)
          rw [if_neg (Nat.lt_irrefl _), if_pos rfl] at h_pk
          have h_fit : (decide (10 * (w : Int) + p + (roL σ k : Nat) ≤ 10 * (w : Int) + z) && eqB (fun i => τ2 71 (4 * (k : Int) + i)) (fun i => τ2 58 (10 * (w : Int) + p + i)) (roL σ k)) = roF σ (wtx σ w) z k p := by
            unfold roF
            by_cases h_d : (p : Int) + roL σ k ≤ z
            · rw [decide_eq_true (show 10 * (w : Int) + p + roL σ k ≤ 10 * (w : Int) + z by omega), decide_eq_true h_d, Bool.true_and, Bool.true_and]
              refine eqB_cg (fun j h_j => ⟨congrFun (h_oo 71 (by unfold scB; omega)) _, ?_⟩)
              show τ2 58 (10 * (w : Int) + p + (j : Int)) = wtx σ w (p + j)
              unfold wtx
              rw [h_oo 58 (by unfold scB; omega), show 10 * (w : Int) + p + (j : Int) = 10 * (w : Int) + ((p + j : Nat) : Int) by omega]
            · rw [decide_eq_false (show ¬ 10 * (w : Int) + p + roL σ k ≤ 10 * (w : Int) + z by omega), decide_eq_false h_d, Bool.false_and, Bool.false_and]
          have h_rt := ra_test (σ := σ) (t := wtx σ w) (z := z) (p := p) (k := k)
          have h_rl : raN σ (wtx σ w) z p (roL σ k) k < 4096 := by
            by_cases h_0 : raN σ (wtx σ w) z p (roL σ k) k = 0
            · omega
            · obtain ⟨r, h_1, h_2, -⟩ := raN_is k h_0
              have : 2 ^ r < 2 ^ 12 := Nat.pow_lt_pow_right (by decide) (by omega)
              omega
          have h_sl := shl32_one k (by omega)
          have h_2k : 2 ^ k < 2 ^ 12 := Nat.pow_lt_pow_right (by decide) (by omega)
          have h_2p : (0 : Int) ≤ ((2 ^ k : Nat) : Int) := Int.natCast_nonneg _
          have h_2m : 2 ^ m ≤ 2 ^ 12 := Nat.pow_le_pow_right (by decide) h_m2
          refine j_iload G dX0_placeRows_47 rfl ?_
          refine j_iconst G dX0_placeRows_49 ?_
          refine j_imul G dX0_placeRows_50 ?_
          rw [Int.mul_comm (p : Int) 5]
          first | refine j_aload_n G dX0_placeRows_51 rfl ?_ | refine j_aload_nN G dX0_placeRows_51 rfl ?_
          refine j_getr G fl_X0_29 dX0_placeRows_52 (by first | exact rfl | assumption) (by rfl) ?_
          refine j_getr G fl_X0_55 dX0_placeRows_55 (by first | exact rfl | assumption) (by rfl) ?_
          refine j_iload G dX0_placeRows_58 rfl ?_
          refine j_iaload G dX0_placeRows_60 (by first | exact rfl | assumption) (by omega) (fun r_60 => ?_)
          try simp (disch := omega) only [up_same, up_cell, up_idx, cpm_at, fil_at] at r_60 ⊢
          rw [h_oo 72 (by unfold scB; omega), h_l1]
          refine j_iadd G dX0_placeRows_61 ?_
          refine j_istore6 G dX0_placeRows_62 (by decide) rfl ?_
          first | refine j_aload_n G dX0_placeRows_64 rfl ?_ | refine j_aload_nN G dX0_placeRows_64 rfl ?_
          refine j_pc (p2 := 65) rfl ?_
          refine j_getr G fl_X0_32 dX0_placeRows_65 (by first | exact rfl | assumption) (by rfl) ?_
          refine j_iload G dX0_placeRows_68 rfl ?_
          refine j_iaload G dX0_placeRows_70 (by first | exact rfl | assumption) (by omega) (fun r_70 => ?_)
          try simp (disch := omega) only [up_same, up_cell, up_idx, cpm_at, fil_at] at r_70 ⊢
          rw [h_pk]
          refine j_if_ne G dX0_placeRows_71 (tgt := 126) (by decide) (by omega) (fun c_71 => ?_) (fun c_71 => ?_)
          · have h_np : ¬ prF σ (wtx σ w) z k p = true := fun y => by
              unfold prF at y
              rw [Bool.and_eq_true] at y
              exact c_71 (by rw [(h_rt y.1).2 y.2]; rfl)
            refine j_iinc5 G dX0_placeRows_126 (by decide) rfl rfl ?_
            refine j_goto G dX0_placeRows_129 (tgt := 35) (by decide) ?_
            refine j_pc (p2 := 35) rfl ?_
            exact j_weak (h_no (by omega) h_np) ⟨rfl, rfl, rfl, rfl, rfl, rfl, trivial⟩
          · first | refine j_aload_n G dX0_placeRows_74 rfl ?_ | refine j_aload_nN G dX0_placeRows_74 rfl ?_
            refine j_getr G fl_X0_29 dX0_placeRows_75 (by first | exact rfl | assumption) (by rfl) ?_
            refine j_iload G dX0_placeRows_78 rfl ?_
            first | refine j_aload_n G dX0_placeRows_80 rfl ?_ | refine j_aload_nN G dX0_placeRows_80 rfl ?_
            refine j_getr G fl_X0_14 dX0_placeRows_81 (by first | exact rfl | assumption) (by rfl) ?_
            refine j_getr G fl_X0_52 dX0_placeRows_84 (by first | exact rfl | assumption) (by rfl) ?_
            refine j_iload_n G dX0_placeRows_87 rfl ?_
            refine j_iload G dX0_placeRows_88 rfl ?_
            refine j_iadd G dX0_placeRows_90 ?_
            refine j_iload_n G dX0_placeRows_91 rfl ?_
            first | refine j_aload_n G dX0_placeRows_92 rfl ?_ | refine j_aload_nN G dX0_placeRows_92 rfl ?_
            refine j_pc (p2 := 93) rfl ?_
            refine j_getr G fl_X0_14 dX0_placeRows_93 (by first | exact rfl | assumption) (by rfl) ?_
            refine j_getr G fl_X0_55 dX0_placeRows_96 (by first | exact rfl | assumption) (by rfl) ?_
            refine j_iload_n G dX0_placeRows_99 rfl ?_
            refine j_iaload G dX0_placeRows_100 (by first | exact rfl | assumption) (by omega) (fun r_100 => ?_)
            try simp (disch := omega) only [up_same, up_cell, up_idx, cpm_at, fil_at] at r_100 ⊢
            rw [h_oo 59 (by unfold scB; omega), h_59]
            refine j_iadd G dX0_placeRows_101 ?_
            refine j_callV G mv_X0_109 dX0_placeRows_102 (k_stands 70 71 72 58 300 12 k (roL σ k) (10 * (w : Int) + p) (10 * (w : Int) + z) rfl rfl rfl rfl (by rw [h_oo 70 (by unfold scB; omega)]; exact h_70) (by omega) (by decide) (by decide) (by rw [h_oo 72 (by unfold scB; omega)]; exact h_l1) h_l3 (by omega) (by omega)) (by first | exact rfl | assumption) (by decide) (by rfl) rfl rfl (by exact Nat.le_of_ble_eq_true rfl) (by first | decide | omega) (kI ?_)
            rw [h_fit]
            refine j_if_eqB G dX0_placeRows_105 (tgt := 126) (by decide)  (fun c_105 => ?_) (fun c_105 => ?_)
            · have h_np : ¬ prF σ (wtx σ w) z k p = true := fun y => by
                unfold prF at y
                rw [Bool.and_eq_true] at y
                exact c_105 y.1
              refine j_iinc5 G dX0_placeRows_126 (by decide) rfl rfl ?_
              refine j_goto G dX0_placeRows_129 (tgt := 35) (by decide) ?_
              refine j_pc (p2 := 35) rfl ?_
              exact j_weak (h_no (by omega) h_np) ⟨rfl, rfl, rfl, rfl, rfl, rfl, trivial⟩
            · have h_fa : faB σ k = true := (h_rt c_105).1 (by omega)
              have h_yp : prF σ (wtx σ w) z k p = true := by unfold prF; rw [c_105, h_fa]; rfl
              first | refine j_aload_n G dX0_placeRows_108 rfl ?_ | refine j_aload_nN G dX0_placeRows_108 rfl ?_
              refine j_getr G fl_X0_32 dX0_placeRows_109 (by first | exact rfl | assumption) (by rfl) ?_
              refine j_iload G dX0_placeRows_112 rfl ?_
              refine j_iconst G dX0_placeRows_114 ?_
              refine j_iload G dX0_placeRows_115 rfl ?_
              refine j_ishl G dX0_placeRows_117 ?_
              rw [h_sl]
              refine j_iastore G dX0_placeRows_118 (by first | exact rfl | assumption) (by omega) (by omega) ?_
              refine j_iload_n G dX0_placeRows_119 rfl ?_
              refine j_iconst G dX0_placeRows_120 ?_
              refine j_iload G dX0_placeRows_121 rfl ?_
              refine j_ishl G dX0_placeRows_123 ?_
              refine j_pc (p2 := 124) rfl ?_
              rw [h_sl]
              refine j_ior G dX0_placeRows_124 ?_
              rw [or32_nat (by omega) (by omega)]
              refine j_istore2 G dX0_placeRows_125 (by decide) rfl ?_
              refine j_iinc5 G dX0_placeRows_126 (by decide) rfl rfl ?_
              refine j_goto G dX0_placeRows_129 (tgt := 35) (by decide) ?_
              refine j_pc (p2 := 35) rfl ?_
              refine j_weak (ih2 (by omega) _ (I ||| 2 ^ k) (h_o2.up rfl) (Nat.or_lt_two_pow h_I (Nat.pow_lt_pow_right (by decide) (by omega))) (fun r => ?_) (fun q len h_q h_l => ?_)) ⟨rfl, rfl, rfl, rfl, rfl, rfl, trivial⟩
              · rw [Nat.testBit_or, Bool.or_eq_true, h_Ib, Nat.testBit_two_pow, decide_eq_true_eq]
                constructor
                · rintro (⟨h_1, h_2, h_3⟩ | h_1)
                  · exact ⟨h_1, h_2, h_3.imp_right (fun y => ⟨by omega, y.2⟩)⟩
                  · rw [← h_1]
                    exact ⟨by omega, h_fa, Or.inr ⟨by omega, c_105⟩⟩
                · rintro ⟨h_1, h_2, h_3⟩
                  by_cases h_e : k = r
                  · exact Or.inr h_e
                  · exact Or.inl ⟨h_1, h_2, h_3.imp_right (fun y => ⟨by omega, y.2⟩)⟩
              · by_cases h_e : q = p ∧ len = roL σ k
                · rw [h_e.1, h_e.2, up_same, if_neg (Nat.lt_irrefl _), if_pos rfl, h_ras, if_pos ⟨rfl, h_yp⟩]
                · rw [up_idx (by omega), h_73 q len h_q h_l]
                  by_cases h_q2 : q < p
                  · rw [if_pos h_q2, if_pos h_q2]
                  · rw [if_neg h_q2, if_neg h_q2]
                    by_cases h_qp : q = p
                    · rw [if_pos h_qp, if_pos h_qp, h_ras, if_neg (fun y => h_e ⟨h_qp, y.1.symm⟩)]
                    · rw [if_neg h_qp, if_neg h_qp]
    · rw [h_Ib]
      exact ⟨fun ⟨h_1, h_2, h_3⟩ => ⟨h_1, h_2, Or.inl h_3⟩, fun ⟨h_1, h_2, h_3⟩ => ⟨h_1, h_2, h_3.resolve_right (fun y => absurd y.1 (Nat.not_lt_zero _))⟩⟩
    · rw [h_73 q len h_q h_l]
      by_cases h_q2 : q < p
      · rw [if_pos h_q2, if_pos h_q2]
      · rw [if_neg h_q2, if_neg h_q2, show raN σ (wtx σ w) z p len 0 = 0 from rfl]
        split <;> rfl
end RA
