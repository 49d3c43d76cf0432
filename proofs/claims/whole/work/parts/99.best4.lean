theorem fdC_sk {g : Nat → MB → MB} {B : MB} {k : Nat} : ∀ m, k ≤ m → (∀ i, k ≤ i → i < m → ∀ B, g i B = B) → fdC g m B = fdC g k B
  | 0, h, _ => by rw [show k = 0 by omega]
  | m + 1, h, h_g => by
    by_cases h_e : k = m + 1
    · rw [h_e]
    · show g m (fdC g m B) = fdC g k B
      rw [h_g m (by omega) (by omega)]
      exact fdC_sk m (by omega) (fun i h_1 h_2 => h_g i h_1 (by omega))
section BU
variable {E : EE} {x x1 x2 : CX} {μ σ : MemT}
theorem c_search (q : MX) (h_q : QR q) (h_bw : BW σ q) (h_lf : ∀ r : Nat, r ≤ 7 → σ 200 (7 - (r : Int)) = LF q r) : ∀ r : Nat, r ≤ 7 → ∀ (τ : MemT) (U : Nat) (cost dig : Int) (B : MB), Ons (· = 194) σ τ → τ 194 7 = B.1 → τ 194 8 = B.2 → U < 2 ^ 64 → (0 ≤ cost ∧ cost ≤ 2600 * (7 - (r : Int))) → (0 ≤ dig ∧ dig < (10 ^ (7 - r) : Nat)) → (r = 0 → cost < B.1) → CT (EC x) r yX4_search [rf (EC x) 194, iv (7 - (r : Int)), .long (lgN U), iv cost, iv dig] τ (fun o τ2 => o = none ∧ Ons (· = 194) σ τ2 ∧ τ2 194 7 = (FR q r U cost dig B).1 ∧ τ2 194 8 = (FR q r U cost dig B).2) := by
  have h_lr := LF_rg q h_q
  intro r
  induction r with
  | zero =>
    intro h_r τ U cost dig B h_o h_7 h_8 h_U h_cost h_dig h_g
    have h_FR : FR q 0 U cost dig B = (cost, dig) := if_pos (h_g rfl)
    rw [h_FR]
    have h_d7 : dig < 10000000 := h_dig.2
    refine CT.ofJ (own := RX4) (cc := cX4_search) (n := 10) (ret := none) (by decide) rfl cw_X4_search (by decide) (Nat.le_of_ble_eq_true rfl) (ls := [some (rf (EC x) 194), some (iv (7 - ((0 : Nat) : Int))), some (.long (lgN U)), none, some (iv cost), some (iv dig), none, none, none, none]) rfl ?_
    intro X G
    refine j_iload_n G dX4_search_0 rfl ?_
    refine j_bipush G dX4_search_1 (by decide) ?_
    refine j_icmp_lt G dX4_search_3 (tgt := 19) (by decide) (by omega) (by omega) (fun c_3 => ?_) (fun c_3 => ?_)
    · omega
    · first | refine j_aload_n G dX4_search_6 rfl ?_ | refine j_aload_nN G dX4_search_6 rfl ?_
      refine j_iload G dX4_search_7 rfl ?_
      refine j_puti G fp_X4_62 dX4_search_9 7 rfl (by first | exact rfl | assumption) (by rfl) (by omega) ?_
      first | refine j_aload_n G dX4_search_12 rfl ?_ | refine j_aload_nN G dX4_search_12 rfl ?_
      refine j_iload G dX4_search_13 rfl ?_
      refine j_puti G fp_X4_66 dX4_search_15 8 rfl (by first | exact rfl | assumption) (by rfl) (by omega) ?_
      refine j_return G dX4_search_18 ?_
      exact ⟨rfl, (h_o.up rfl).up rfl, by rw [up_idx (by decide)]; exact up_same _ _ _ _, up_same _ _ _ _⟩
  | succ r ihr =>
    intro h_r τ U cost dig B h_o h_7 h_8 h_U h_cost h_dig h_g
    obtain ⟨p, h_p⟩ : ∃ p : Nat, p + r = 6 := ⟨6 - r, by omega⟩
    have h_6r : 6 - r = p := by omega
    have h_FR : FR q (r + 1) U cost dig B = fdC (fun c B => if (c = 0 ∨ q.2.2 p = true) ∧ fitX (q.2.1 p c) U = true then FR q r (U ||| q.2.1 p c) (cost + q.1 p c) (10 * dig + c) B else B) 5 B := by
      show fdC (fun c B => if (c = 0 ∨ q.2.2 (6 - r) = true) ∧ fitX (q.2.1 (6 - r) c) U = true then FR q r (U ||| q.2.1 (6 - r) c) (cost + q.1 (6 - r) c) (10 * dig + c) B else B) 5 B = _
      rw [h_6r]
    rw [h_FR]
    generalize h_gg : (fun (c : Nat) (B : MB) => if (c = 0 ∨ q.2.2 p = true) ∧ fitX (q.2.1 p c) U = true then FR q r (U ||| q.2.1 p c) (cost + q.1 p c) (10 * dig + c) B else B) = gg
    have h_ga : ∀ c B, gg c B = if (c = 0 ∨ q.2.2 p = true) ∧ fitX (q.2.1 p c) U = true then FR q r (U ||| q.2.1 p c) (cost + q.1 p c) (10 * dig + c) B else B := fun c B => by rw [← h_gg]
    rw [show (7 : Int) - ((r + 1 : Nat) : Int) = p by omega]
    have h_10 : (10 ^ (7 - r) : Nat) = 10 * 10 ^ (7 - (r + 1)) := by rw [show 7 - r = (7 - (r + 1)) + 1 by omega, Nat.pow_succ, Nat.mul_comm]
    have h_10b : 10 ^ (7 - (r + 1)) ≤ 10 ^ 6 := Nat.pow_le_pow_right (by decide) (by omega)
    have h_10c : (10 ^ 6 : Nat) = 1000000 := rfl
    rw [h_10c] at h_10b
    refine CT.ofJ (own := RX4) (cc := cX4_search) (n := 10) (ret := none) (by decide) rfl cw_X4_search (by decide) (Nat.le_of_ble_eq_true rfl) (ls := [some (rf (EC x) 194), some (iv p), some (.long (lgN U)), none, some (iv cost), some (iv dig), none, none, none, none]) rfl ?_
    intro X G
    refine j_iload_n G dX4_search_0 rfl ?_
    refine j_bipush G dX4_search_1 (by decide) ?_
    refine j_icmp_lt G dX4_search_3 (tgt := 19) (by decide) (by omega) (by omega) (fun c_3 => ?_) (fun c_3 => ?_)
    · refine j_iconst G dX4_search_19 ?_
      refine j_istore6 G dX4_search_20 (by decide) rfl ?_
      refine j_pc (p2 := 22) rfl ?_
      refine j_weak (ls' := [some (rf (EC x) 194), some (iv p), some (.long (lgN U)), none, some (iv cost), some (iv dig), some (iv ((0 : Nat) : Int)), none, none, none]) ?_ ⟨rfl, rfl, rfl, rfl, rfl, rfl, trivial⟩
      refine down (Pr := fun c => ∀ τ : MemT, Ons (· = 194) σ τ → (c = 0 ∨ q.2.2 p = true) → τ 194 7 = (fdC gg c B).1 → τ 194 8 = (fdC gg c B).2 → JJ (EC x) X (r + 1) (fun o τ2 => o = none ∧ Ons (· = 194) σ τ2 ∧ τ2 194 7 = (fdC gg 5 B).1 ∧ τ2 194 8 = (fdC gg 5 B).2) 10 22 [some (rf (EC x) 194), some (iv p), some (.long (lgN U)), none, some (iv cost), some (iv dig), some (iv c), none, none, none] [] τ) 5 ?_ 0 (Nat.zero_le _) τ h_o (Or.inl rfl) h_7 h_8
      intro c h_c ih τ h_o h_E h_7 h_8
      have h_gs : fdC gg (c + 1) B = gg c (fdC gg c B) := rfl
      have h_107 : c < 5 → ∀ τ2 : MemT, Ons (· = 194) σ τ2 → τ2 194 7 = (gg c (fdC gg c B)).1 → τ2 194 8 = (gg c (fdC gg c B)).2 → ∀ l9 : Option Value, JJ (EC x) X (r + 1) (fun o τ2 => o = none ∧ Ons (· = 194) σ τ2 ∧ τ2 194 7 = (fdC gg 5 B).1 ∧ τ2 194 8 = (fdC gg 5 B).2) 10 107 [some (rf (EC x) 194), some (iv p), some (.long (lgN U)), none, some (iv cost), some (iv dig), some (iv c), some (.long (lgN (q.2.1 p c))), none, l9] [] τ2 := by
        intro h_c5 τ2 h_o2 h_72 h_82 l9
        obtain ⟨h_q1, h_q2, h_q3⟩ := h_q p c (by omega) h_c5
        have h_cz := lgc_z (a := q.2.1 p c) (b := 0) h_q1 (by decide)
        · refine j_lload G dX4_search_107 rfl ?_
          refine j_lconstI G 0 dX4_search_109 (by decide) ?_
          rw [lgI_0]
          refine j_lcmp G dX4_search_110 ?_
          refine j_if_ne G dX4_search_111 (tgt := 115) (by decide) (lg_rg _ _) (fun c_111 => ?_) (fun c_111 => ?_)
          · refine j_iinc6 G dX4_search_115 (by decide) rfl rfl ?_
            refine j_goto G dX4_search_118 (tgt := 22) (by decide) ?_
            refine j_pc (p2 := 22) rfl ?_
            refine j_weak (ih h_c5 τ2 h_o2 (Or.inr (Decidable.byContradiction (fun z => c_111 (h_cz.2 (h_q3.2 z))))) h_72 h_82) ⟨rfl, rfl, rfl, rfl, rfl, rfl, trivial⟩
          · refine j_return G dX4_search_114 ?_
            have h_n := h_q3.1 (h_cz.1 c_111)
            rw [fdC_sk (k := c + 1) 5 (by omega) (fun i h_1 h_2 B => by rw [h_ga, if_neg (fun z => z.1.elim (by omega) h_n)]), h_gs]
            exact ⟨rfl, h_o2, h_72, h_82⟩
      refine j_iload G dX4_search_22 rfl ?_
      refine j_iconst G dX4_search_24 ?_
      refine j_icmp_ge G dX4_search_25 (tgt := 121) (by decide) (by omega) (by omega) (fun c_25 => ?_) (fun c_25 => ?_)
      · refine j_return G dX4_search_121 ?_
        obtain rfl : c = 5 := by omega
        exact ⟨rfl, h_o, h_7, h_8⟩
      · obtain ⟨h_b1, h_b2⟩ := h_bw p c (by omega) (by omega)
        obtain ⟨h_q1, h_q2, h_q3⟩ := h_q p c (by omega) (by omega)
        have h_lrr := h_lr r (by omega)
        have h_lp := h_lf r (by omega)
        rw [show (7 : Int) - (r : Int) = (p : Int) + 1 by omega] at h_lp
        have h_al : q.2.1 p c &&& (U ||| 1) ≤ q.2.1 p c := Nat.and_le_left
        have h_cz := lgc_z (a := q.2.1 p c &&& (U ||| 1)) (b := 0) (Nat.lt_of_le_of_lt h_al h_q1) (by decide)
        have h_gc := h_ga c (fdC gg c B)
        first | refine j_aload_n G dX4_search_28 rfl ?_ | refine j_aload_nN G dX4_search_28 rfl ?_
        refine j_getr G fl_X4_21 dX4_search_29 (by first | exact rfl | assumption) (by rfl) ?_
        refine j_iload_n G dX4_search_32 rfl ?_
        refine j_iconst G dX4_search_33 ?_
        refine j_imul G dX4_search_34 ?_
        rw [Int.mul_comm (p : Int) 5]
        refine j_iload G dX4_search_35 rfl ?_
        refine j_iadd G dX4_search_37 ?_
        refine j_laload G dX4_search_38 (by first | exact rfl | assumption) (by omega) ?_
        rw [h_o 198 (by decide), h_b1, lN_ti]
        refine j_lstore7 G dX4_search_39 (by decide) rfl ?_
        refine j_iload G dX4_search_41 rfl ?_
        first | refine j_aload_n G dX4_search_43 rfl ?_ | refine j_aload_nN G dX4_search_43 rfl ?_
        refine j_pc (p2 := 44) rfl ?_
        refine j_getr G fl_X4_25 dX4_search_44 (by first | exact rfl | assumption) (by rfl) ?_
        refine j_iload_n G dX4_search_47 rfl ?_
        refine j_iconst G dX4_search_48 ?_
        refine j_imul G dX4_search_49 ?_
        rw [Int.mul_comm (p : Int) 5]
        refine j_iload G dX4_search_50 rfl ?_
        refine j_iadd G dX4_search_52 ?_
        refine j_iaload G dX4_search_53 (by first | exact rfl | assumption) (by omega) (fun r_53 => ?_)
        try simp (disch := omega) only [up_same, up_cell, up_idx, cpm_at, fil_at] at r_53 ⊢
        rw [h_o 199 (by decide), h_b2] at *
        refine j_iadd G dX4_search_54 ?_
        refine j_istore9 G dX4_search_55 (by decide) rfl ?_
        refine j_lload G dX4_search_57 rfl ?_
        refine j_lload_n G dX4_search_59 rfl ?_
        refine j_lconstI G 1 dX4_search_60 (by decide) ?_
        refine j_pc (p2 := 61) rfl ?_
        refine j_lor G dX4_search_61 ?_
        refine j_land G dX4_search_62 ?_
        refine j_lconstI G 0 dX4_search_63 (by decide) ?_
        rw [lgI_1, lN_or, lN_and, lgI_0]
        refine j_lcmp G dX4_search_64 ?_
        refine j_if_ne G dX4_search_65 (tgt := 107) (by decide) (lg_rg _ _) (fun c_65 => ?_) (fun c_65 => ?_)
        · rw [if_neg (fun z => c_65 (h_cz.2 (of_decide_eq_true z.2)))] at h_gc
          exact h_107 (by omega) τ h_o (by rw [h_gc]; exact h_7) (by rw [h_gc]; exact h_8) _
        · have h_ft : fitX (q.2.1 p c) U = true := decide_eq_true (h_cz.1 c_65)
          rw [if_pos ⟨h_E, h_ft⟩] at h_gc
          refine j_iload G dX4_search_68 rfl ?_
          first | refine j_aload_n G dX4_search_70 rfl ?_ | refine j_aload_nN G dX4_search_70 rfl ?_
          refine j_getr G fl_X4_28 dX4_search_71 (by first | exact rfl | assumption) (by rfl) ?_
          refine j_iload_n G dX4_search_74 rfl ?_
          refine j_iconst G dX4_search_75 ?_
          refine j_iadd G dX4_search_76 ?_
          refine j_iaload G dX4_search_77 (by first | exact rfl | assumption) (by omega) (fun r_77 => ?_)
          try simp (disch := omega) only [up_same, up_cell, up_idx, cpm_at, fil_at] at r_77 ⊢
          rw [h_o 200 (by decide), h_lp] at *
          refine j_iadd G dX4_search_78 ?_
          first | refine j_aload_n G dX4_search_79 rfl ?_ | refine j_aload_nN G dX4_search_79 rfl ?_
          refine j_geti G fl_X4_62 dX4_search_80 7 rfl (by first | exact rfl | assumption) (by rfl) (fun r_80 => ?_)
          try simp (disch := omega) only [up_same, up_cell, up_idx, cpm_at, fil_at] at r_80 ⊢
          rw [h_7]
          refine j_icmp_ge G dX4_search_83 (tgt := 107) (by decide) (by omega) (by omega) (fun c_83 => ?_) (fun c_83 => ?_)
          · rw [FR_cut q r _ _ _ _ c_83] at h_gc
            exact h_107 (by omega) τ h_o (by rw [h_gc]; exact h_7) (by rw [h_gc]; exact h_8) _
          · first | refine j_aload_n G dX4_search_86 rfl ?_ | refine j_aload_nN G dX4_search_86 rfl ?_
            refine j_iload_n G dX4_search_87 rfl ?_
            refine j_iconst G dX4_search_88 ?_
            refine j_iadd G dX4_search_89 ?_
            refine j_lload_n G dX4_search_90 rfl ?_
            refine j_lload G dX4_search_91 rfl ?_
            refine j_lor G dX4_search_93 ?_
            have h_gd : r = 0 → cost + q.1 p c < (fdC gg c B).1 := fun h_0 => by
              have h_L0 : LF q r = 0 := by rw [h_0]; rfl
              omega
            rw [lN_or]
            rw [show (p : Int) + 1 = 7 - (r : Int) by omega]
            refine j_iload G dX4_search_94 rfl ?_
            refine j_iload G dX4_search_96 rfl ?_
            refine j_bipush G dX4_search_98 (by decide) ?_
            refine j_imul G dX4_search_100 ?_
            refine j_pc (p2 := 101) rfl ?_
            refine j_iload G dX4_search_101 rfl ?_
            refine j_iadd G dX4_search_103 ?_
            rw [show dig * 10 + (c : Int) = 10 * dig + c by omega]
            refine j_callV G mv_X4_69 dX4_search_104 (ihr (by omega) τ (U ||| q.2.1 p c) (cost + q.1 p c) (10 * dig + c) (fdC gg c B) h_o h_7 h_8 (Nat.or_lt_two_pow h_U h_q1) (by omega) (by rw [h_10]; omega) h_gd) (by first | exact rfl | assumption) (by decide) (by rfl) rfl rfl (by exact Nat.le_of_ble_eq_true rfl) (by first | decide | omega) (kM (fun τ2 h_2 => ?_))
            refine j_pc (p2 := 107) rfl ?_
            rw [← h_gc] at h_2
            exact h_107 (by omega) τ2 h_2.1 h_2.2.1 h_2.2.2 _
    · omega
end BU
