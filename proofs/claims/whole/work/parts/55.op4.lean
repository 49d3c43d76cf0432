theorem ite_pst_t {c : Prop} [Decidable c] {a b : Pst} {r : Option Value} {m : MemT} (h : c) (k : a r m) : (if c then a else b) r m := by rw [if_pos h]; exact k
theorem ite_pst_f {c : Prop} [Decidable c] {a b : Pst} {r : Option Value} {m : MemT} (h : ¬ c) (k : b r m) : (if c then a else b) r m := by rw [if_neg h]; exact k
section OP4
variable {x x1 x2 : CX} {μ σ : MemT}
def unM (μ : MemT) (c own : Int) (l : Nat) : Int := if 0 < μ 1 (26 * c + l) ∧ (own < 0 ∨ μ 1 (26 * own + l) ≠ μ 1 (26 * c + l)) then 1 else 0
theorem unM_rg (μ : MemT) (c own : Int) (n : Nat) : 0 ≤ sm (unM μ c own) n ∧ sm (unM μ c own) n ≤ n := by
  have := sm_rg (g := unM μ c own) (a := 0) (b := 1) n (fun i _ => by unfold unM; split <;> omega)
  omega
theorem m_learn (r c : Int) (h_1 : (-2147483648 ≤ r ∧ r < 2147483648)) (h_2 : (-2147483648 ≤ c ∧ c < 2147483648)) (h_n : 0 ≤ μ 0 33 ∧ μ 0 33 ≤ 20) (h_ag : 0 ≤ r → r < 20 → 0 ≤ μ 22 r ∧ μ 22 r ≤ 90) (h_sh : 0 ≤ c → c < 5 → 0 ≤ μ 6 c ∧ μ 6 c ≤ 12) : CT (EM x) 2 yX12_learn [rf (EM x) 0, iv r, iv c] μ
    (if ¬ ((0 ≤ r ∧ r ≤ μ 0 33 - 1) ∧ 0 ≤ c ∧ c ≤ 4) then rI (-1) μ else rI (if 0 < μ 25 (5 * r + c) then 0 else if 70 < μ 22 r ∧ 14 ≤ sm (unM μ c (ownS (fun e => μ 25 (5 * r + e)))) 26 then -6 else (2 * sm (unM μ c (ownS (fun e => μ 25 (5 * r + e)))) 26 + 3 * μ 6 c) * (100 + μ 22 r) / 100) μ) := by
  refine CT.ofJ (own := RX12) (cc := cX12_learn) (n := 7) (ret := (some .int)) (by decide) rfl cw_X12_learn (by decide) (Nat.le_of_ble_eq_true rfl) (ls := [some (rf (EM x) 0), some (iv r), some (iv c), none, none, none, none]) rfl ?_
  intro X G
  first | refine j_aload_n G dX12_learn_0 rfl ?_ | refine j_aload_nN G dX12_learn_0 rfl ?_
  refine j_iload_n G dX12_learn_1 rfl ?_
  refine j_callV G mv_X12_259 dX12_learn_2 (m_isReader r h_1 h_n) (by first | assumption | rfl) (by decide) (by rfl) rfl rfl (by exact Nat.le_of_ble_eq_true rfl) (by decide) (kI ?_)
  refine j_if_eqB G dX12_learn_5 (tgt := 15) (by decide)  (fun c_5 => ?_) (fun c_5 => ?_)
  · refine j_iconst G dX12_learn_15 ?_
    refine j_ireturn G dX12_learn_16 ?_
    exact ite_pst_t (by omega) ⟨rfl, rfl⟩
  · refine j_iload_n G dX12_learn_8 rfl ?_
    refine j_callS G ms_X12_121 dX12_learn_9 (m_isCode c h_2) rfl rfl (by exact Nat.le_of_ble_eq_true rfl) (by decide) (kI ?_)
    refine j_if_neB G dX12_learn_12 (tgt := 17) (by decide)  (fun c_12 => ?_) (fun c_12 => ?_)
    · first | refine j_aload_n G dX12_learn_17 rfl ?_ | refine j_aload_nN G dX12_learn_17 rfl ?_
      refine j_iload_n G dX12_learn_18 rfl ?_
      refine j_iload_n G dX12_learn_19 rfl ?_
      refine j_callV G mv_X12_264 dX12_learn_20 (m_knows r c (by omega) (by omega)) (by first | assumption | rfl) (by decide) (by rfl) rfl rfl (by exact Nat.le_of_ble_eq_true rfl) (by decide) (kI ?_)
      refine j_if_eqB G dX12_learn_23 (tgt := 28) (by decide)  (fun c_23 => ?_) (fun c_23 => ?_)
      · first | refine j_aload_n G dX12_learn_28 rfl ?_ | refine j_aload_nN G dX12_learn_28 rfl ?_
        refine j_iload_n G dX12_learn_29 rfl ?_
        refine j_callV G mv_X12_267 dX12_learn_30 (m_ownCode r (by omega)) (by first | assumption | rfl) (by decide) (by rfl) rfl rfl (by exact Nat.le_of_ble_eq_true rfl) (by decide) (kI ?_)
        refine j_istore3 G dX12_learn_33 (by decide) rfl ?_
        refine j_iconst G dX12_learn_34 ?_
        refine j_istore4 G dX12_learn_35 (by decide) rfl ?_
        refine j_iconst G dX12_learn_37 ?_
        refine j_istore5 G dX12_learn_38 (by decide) rfl ?_
        refine j_pc (p2 := 40) rfl ?_
        rw [if_neg (by omega), if_neg (by omega)]
        have h_o := ownS_rg (fun e => μ 25 (5 * r + e))
        generalize ownS (fun e => μ 25 (5 * r + e)) = own at h_o ⊢
        have h_ag2 := h_ag (by omega) (by omega)
        have h_sh2 := h_sh (by omega) (by omega)
        generalize h_pst : rI (if 70 < μ 22 r ∧ 14 ≤ sm (unM μ c own) 26 then -6 else (2 * sm (unM μ c own) 26 + 3 * μ 6 c) * (100 + μ 22 r) / 100) μ = pst
        refine j_weak (ls' := [some (rf (EM x) 0), some (iv r), some (iv c), some (iv own), some (iv (sm (unM μ c own) 0)), some (iv ((0 : Nat) : Int)), none]) ?_ ⟨rfl, rfl, rfl, rfl, rfl, rfl, trivial⟩
        refine down (Pr := fun l => JJ (EM x) X 2 pst 7 40 [some (rf (EM x) 0), some (iv r), some (iv c), some (iv own), some (iv (sm (unM μ c own) l)), some (iv l), none] [] μ) 26 ?_ 0 (by decide)
        intro l h_l ih
        have h_u := unM_rg μ c own l
        refine j_iload G dX12_learn_40 rfl ?_
        refine j_bipush G dX12_learn_42 (by decide) ?_
        refine j_icmp_ge G dX12_learn_44 (tgt := 103) (by decide) (by omega) (by omega) (fun c_44 => ?_) (fun c_44 => ?_)
        · refine j_pc (p2 := 103) rfl ?_
          rw [show l = 26 by omega] at h_u ⊢
          generalize sm (unM μ c own) 26 = u at h_u h_pst ⊢
          have h_b1 : 0 ≤ (2 * u + 3 * μ 6 c) * (100 + μ 22 r) := Int.mul_nonneg (by omega) (by omega)
          have h_b2 : (2 * u + 3 * μ 6 c) * (100 + μ 22 r) ≤ 88 * 190 := Int.mul_le_mul (by omega) (by omega) (by omega) (by omega)
          first | refine j_aload_n G dX12_learn_103 rfl ?_ | refine j_aload_nN G dX12_learn_103 rfl ?_
          refine j_getr G fl_X12_74 dX12_learn_104 (by first | assumption | rfl) (by rfl) ?_
          refine j_iload_n G dX12_learn_107 rfl ?_
          refine j_iaload G dX12_learn_108 (by first | assumption | rfl) (by omega) (fun r_108 => ?_)
          try simp (disch := omega) only [up_same, up_cell, up_idx, cpm_at, fil_at] at r_108 ⊢
          refine j_bipush G dX12_learn_109 (by decide) ?_
          refine j_icmp_le G dX12_learn_111 (tgt := 124) (by decide) (by omega) (by omega) (fun c_111 => ?_) (fun c_111 => ?_)
          · refine j_iconst G dX12_learn_124 ?_
            refine j_iload G dX12_learn_125 rfl ?_
            refine j_imul G dX12_learn_127 ?_
            refine j_iconst G dX12_learn_128 ?_
            first | refine j_aload_n G dX12_learn_129 rfl ?_ | refine j_aload_nN G dX12_learn_129 rfl ?_
            refine j_getr G fl_X12_25 dX12_learn_130 (by first | assumption | rfl) (by rfl) ?_
            refine j_iload_n G dX12_learn_133 rfl ?_
            refine j_iaload G dX12_learn_134 (by first | assumption | rfl) (by omega) (fun r_134 => ?_)
            try simp (disch := omega) only [up_same, up_cell, up_idx, cpm_at, fil_at] at r_134 ⊢
            refine j_imul G dX12_learn_135 ?_
            refine j_iadd G dX12_learn_136 ?_
            refine j_bipush G dX12_learn_137 (by decide) ?_
            refine j_pc (p2 := 139) rfl ?_
            first | refine j_aload_n G dX12_learn_139 rfl ?_ | refine j_aload_nN G dX12_learn_139 rfl ?_
            refine j_getr G fl_X12_74 dX12_learn_140 (by first | assumption | rfl) (by rfl) ?_
            refine j_iload_n G dX12_learn_143 rfl ?_
            refine j_iaload G dX12_learn_144 (by first | assumption | rfl) (by omega) (fun r_144 => ?_)
            try simp (disch := omega) only [up_same, up_cell, up_idx, cpm_at, fil_at] at r_144 ⊢
            refine j_iadd G dX12_learn_145 ?_
            refine j_imul G dX12_learn_146 ?_
            refine j_bipush G dX12_learn_147 (by decide) ?_
            refine j_idiv G dX12_learn_149 (by omega) (by omega) ?_
            refine j_ireturn G dX12_learn_150 ?_
            rw [← h_pst]
            exact ⟨by split <;> first | rfl | omega, rfl⟩
          · refine j_iload G dX12_learn_114 rfl ?_
            refine j_bipush G dX12_learn_116 (by decide) ?_
            refine j_icmp_lt G dX12_learn_118 (tgt := 124) (by decide) (by omega) (by omega) (fun c_118 => ?_) (fun c_118 => ?_)
            · refine j_iconst G dX12_learn_124 ?_
              refine j_iload G dX12_learn_125 rfl ?_
              refine j_imul G dX12_learn_127 ?_
              refine j_iconst G dX12_learn_128 ?_
              first | refine j_aload_n G dX12_learn_129 rfl ?_ | refine j_aload_nN G dX12_learn_129 rfl ?_
              refine j_getr G fl_X12_25 dX12_learn_130 (by first | assumption | rfl) (by rfl) ?_
              refine j_iload_n G dX12_learn_133 rfl ?_
              refine j_iaload G dX12_learn_134 (by first | assumption | rfl) (by omega) (fun r_134 => ?_)
              try simp (disch := omega) only [up_same, up_cell, up_idx, cpm_at, fil_at] at r_134 ⊢
              refine j_imul G dX12_learn_135 ?_
              refine j_iadd G dX12_learn_136 ?_
              refine j_bipush G dX12_learn_137 (by decide) ?_
              refine j_pc (p2 := 139) rfl ?_
              first | refine j_aload_n G dX12_learn_139 rfl ?_ | refine j_aload_nN G dX12_learn_139 rfl ?_
              refine j_getr G fl_X12_74 dX12_learn_140 (by first | assumption | rfl) (by rfl) ?_
              refine j_iload_n G dX12_learn_143 rfl ?_
              refine j_iaload G dX12_learn_144 (by first | assumption | rfl) (by omega) (fun r_144 => ?_)
              try simp (disch := omega) only [up_same, up_cell, up_idx, cpm_at, fil_at] at r_144 ⊢
              refine j_iadd G dX12_learn_145 ?_
              refine j_imul G dX12_learn_146 ?_
              refine j_bipush G dX12_learn_147 (by decide) ?_
              refine j_idiv G dX12_learn_149 (by omega) (by omega) ?_
              refine j_ireturn G dX12_learn_150 ?_
              rw [← h_pst]
              exact ⟨by split <;> first | rfl | omega, rfl⟩
            · refine j_bipush G dX12_learn_121 (by decide) ?_
              refine j_ireturn G dX12_learn_123 ?_
              rw [← h_pst]
              exact ⟨by split <;> first | rfl | omega, rfl⟩
        · first | refine j_aload_n G dX12_learn_47 rfl ?_ | refine j_aload_nN G dX12_learn_47 rfl ?_
          refine j_getr G fl_X12_7 dX12_learn_48 (by first | assumption | rfl) (by rfl) ?_
          refine j_bipush G dX12_learn_51 (by decide) ?_
          refine j_iload_n G dX12_learn_53 rfl ?_
          refine j_imul G dX12_learn_54 ?_
          refine j_iload G dX12_learn_55 rfl ?_
          refine j_iadd G dX12_learn_57 ?_
          refine j_iaload G dX12_learn_58 (by first | assumption | rfl) (by omega) (fun r_58 => ?_)
          try simp (disch := omega) only [up_same, up_cell, up_idx, cpm_at, fil_at] at r_58 ⊢
          refine j_istore6 G dX12_learn_59 (by decide) rfl ?_
          refine j_iload G dX12_learn_61 rfl ?_
          refine j_iload G dX12_learn_63 rfl ?_
          refine j_pc (p2 := 65) rfl ?_
          refine j_if_le G dX12_learn_65 (tgt := 93) (by decide) (by omega) (fun c_65 => ?_) (fun c_65 => ?_)
          · refine j_iconst G dX12_learn_93 ?_
            refine j_iadd G dX12_learn_94 ?_
            refine j_istore4 G dX12_learn_95 (by decide) rfl ?_
            refine j_iinc5 G dX12_learn_97 (by decide) rfl rfl ?_
            refine j_goto G dX12_learn_100 (tgt := 40) (by decide) ?_
            refine j_pc (p2 := 40) rfl ?_
            have h_z := ih (by omega)
            rw [sm_s] at h_z
            unfold unM at h_z ⊢
            first | (rw [if_pos (by omega)] at h_z; exact j_weak h_z ⟨rfl, rfl, rfl, rfl, rfl, rfl, trivial⟩) | (rw [if_neg (by omega)] at h_z; exact j_weak h_z ⟨rfl, rfl, rfl, rfl, rfl, rfl, trivial⟩)
          · refine j_iload_n G dX12_learn_68 rfl ?_
            refine j_if_lt G dX12_learn_69 (tgt := 89) (by decide) (by omega) (fun c_69 => ?_) (fun c_69 => ?_)
            · refine j_iconst G dX12_learn_89 ?_
              refine j_goto G dX12_learn_90 (tgt := 94) (by decide) ?_
              refine j_iadd G dX12_learn_94 ?_
              refine j_istore4 G dX12_learn_95 (by decide) rfl ?_
              refine j_iinc5 G dX12_learn_97 (by decide) rfl rfl ?_
              refine j_goto G dX12_learn_100 (tgt := 40) (by decide) ?_
              refine j_pc (p2 := 40) rfl ?_
              have h_z := ih (by omega)
              rw [sm_s] at h_z
              unfold unM at h_z ⊢
              first | (rw [if_pos (by omega)] at h_z; exact j_weak h_z ⟨rfl, rfl, rfl, rfl, rfl, rfl, trivial⟩) | (rw [if_neg (by omega)] at h_z; exact j_weak h_z ⟨rfl, rfl, rfl, rfl, rfl, rfl, trivial⟩)
            · first | refine j_aload_n G dX12_learn_72 rfl ?_ | refine j_aload_nN G dX12_learn_72 rfl ?_
              refine j_getr G fl_X12_7 dX12_learn_73 (by first | assumption | rfl) (by rfl) ?_
              refine j_bipush G dX12_learn_76 (by decide) ?_
              refine j_iload_n G dX12_learn_78 rfl ?_
              refine j_imul G dX12_learn_79 ?_
              refine j_iload G dX12_learn_80 rfl ?_
              refine j_iadd G dX12_learn_82 ?_
              refine j_iaload G dX12_learn_83 (by first | assumption | rfl) (by omega) (fun r_83 => ?_)
              try simp (disch := omega) only [up_same, up_cell, up_idx, cpm_at, fil_at] at r_83 ⊢
              refine j_iload G dX12_learn_84 rfl ?_
              refine j_icmp_eq G dX12_learn_86 (tgt := 93) (by decide) (by omega) (by omega) (fun c_86 => ?_) (fun c_86 => ?_)
              · refine j_iconst G dX12_learn_93 ?_
                refine j_iadd G dX12_learn_94 ?_
                refine j_istore4 G dX12_learn_95 (by decide) rfl ?_
                refine j_iinc5 G dX12_learn_97 (by decide) rfl rfl ?_
                refine j_goto G dX12_learn_100 (tgt := 40) (by decide) ?_
                refine j_pc (p2 := 40) rfl ?_
                have h_z := ih (by omega)
                rw [sm_s] at h_z
                unfold unM at h_z ⊢
                first | (rw [if_pos (by omega)] at h_z; exact j_weak h_z ⟨rfl, rfl, rfl, rfl, rfl, rfl, trivial⟩) | (rw [if_neg (by omega)] at h_z; exact j_weak h_z ⟨rfl, rfl, rfl, rfl, rfl, rfl, trivial⟩)
              · refine j_iconst G dX12_learn_89 ?_
                refine j_goto G dX12_learn_90 (tgt := 94) (by decide) ?_
                refine j_iadd G dX12_learn_94 ?_
                refine j_istore4 G dX12_learn_95 (by decide) rfl ?_
                refine j_iinc5 G dX12_learn_97 (by decide) rfl rfl ?_
                refine j_goto G dX12_learn_100 (tgt := 40) (by decide) ?_
                refine j_pc (p2 := 40) rfl ?_
                have h_z := ih (by omega)
                rw [sm_s] at h_z
                unfold unM at h_z ⊢
                first | (rw [if_pos (by omega)] at h_z; exact j_weak h_z ⟨rfl, rfl, rfl, rfl, rfl, rfl, trivial⟩) | (rw [if_neg (by omega)] at h_z; exact j_weak h_z ⟨rfl, rfl, rfl, rfl, rfl, rfl, trivial⟩)
      · refine j_iconst G dX12_learn_26 ?_
        refine j_ireturn G dX12_learn_27 ?_
        exact ite_pst_f (by omega) ⟨by rw [if_pos (by omega)], rfl⟩
    · refine j_iconst G dX12_learn_15 ?_
      refine j_ireturn G dX12_learn_16 ?_
      exact ite_pst_t (by omega) ⟨rfl, rfl⟩
theorem op_learn (r c : Int) (h_1 : (-2147483648 ≤ r ∧ r < 2147483648)) (h_2 : (-2147483648 ≤ c ∧ c < 2147483648)) : OP x1 x2 yX11_learn yX12_learn [iv r, iv c] := by
  apply OP.same
  intro σ μ hw hr
  obtain ⟨w1, w2, w3, w4, w5, w6, w7, w8⟩ := id hw
  obtain ⟨r1, r2, r3, r4, r5, r6, r7, r8⟩ := id hr
  have h_20 := w5.1
  have h_m := m_learn (x := x2) (μ := μ) r c h_1 h_2 (by rw [r5.1]; exact w5.1) (fun h_a h_b => by
    obtain ⟨rr, h_rr, rfl⟩ := nat_of (n := 19) (z := r) (by omega)
    rw [(r5.2 rr (by omega)).1]
    exact (w5.2 rr (by omega)).1) (fun h_a h_b => by
    obtain ⟨cc, h_cc, rfl⟩ := nat_of (n := 4) (z := c) (by omega)
    rw [(r1 cc (by omega)).2.1]
    exact (w1 cc (by omega)).2.2.1)
  rw [r5.1] at h_m
  by_cases h_r : 0 ≤ r ∧ r < σ 0 8
  · obtain ⟨rr, h_rr, rfl⟩ := nat_of (n := 20) (z := r) (by omega)
    by_cases h_c : 0 ≤ c ∧ c ≤ 4
    · obtain ⟨cc, h_cc, rfl⟩ := nat_of (n := 4) h_c
      obtain ⟨g1, g2, g3, g4⟩ := r5.2 rr (by omega)
      obtain ⟨f1, f2, f3⟩ := r1 cc (by omega)
      have h_own : ownS (fun e => μ 25 (5 * rr + e)) = ownS (σ (79 + 2 * rr)) := by
        unfold ownS
        rw [ownA_cg (g := σ (79 + 2 * rr)) 5 (fun i hi => g4 i (by omega) (by omega))]
      rw [if_neg (by omega), h_own, g1, f2, g4 cc (by omega) (by omega)] at h_m
      have h_k := c_learn (x := x1) (σ := σ) rr cc (by omega) (by omega) (by omega) (w5.2 rr (by omega)).1 (w1 cc (by omega)).2.2.1 (sm (unM μ cc (ownS (σ (79 + 2 * rr)))) 26) (unM_rg _ _ _ _) (fun h_o => sm_cg 26 (fun l h_l => by
        have h_w := (w1 cc (by omega)).1 l (by omega) (by omega)
        unfold unM
        rw [h_o, f1 l (by omega) (by omega)]
        by_cases h_q : σ (3 + 7 * cc) l = 0
        · rw [if_neg (by omega), if_neg (by omega)]
        · rw [if_pos (by omega), if_pos (by omega)])) (fun o h_o h_oe => sm_cg 26 (fun l h_l => by
        have h_w := (w1 cc (by omega)).1 l (by omega) (by omega)
        unfold unM
        rw [h_oe, f1 l (by omega) (by omega), (r1 o h_o).1 l (by omega) (by omega)]
        by_cases h_q : σ (3 + 7 * cc) l ≠ 0 ∧ σ (3 + 7 * o) l ≠ σ (3 + 7 * cc) l
        · rw [if_pos (by omega), if_pos h_q]
        · rw [if_neg (by omega), if_neg h_q]))
      exact ⟨_, _, _, (by decide), (by decide), rI_P h_k ⟨rfl, KC.rf _⟩, rI_P h_m ⟨rfl, KM.rf _⟩⟩
    · have h_k := c_learnN2 (x := x1) (σ := σ) rr c (by omega) (by omega) h_2 h_c
      rw [if_pos (by omega)] at h_m
      exact ⟨_, _, _, (by decide), (by decide), rI_P h_k ⟨rfl, KC.rf _⟩, rI_P h_m ⟨rfl, KM.rf _⟩⟩
  · have h_k := c_learnN (x := x1) (σ := σ) r c h_1 h_2 h_r h_20
    rw [if_pos (by omega)] at h_m
    exact ⟨_, _, _, (by decide), (by decide), rI_P h_k ⟨rfl, KC.rf _⟩, rI_P h_m ⟨rfl, KM.rf _⟩⟩
/-- a reader's card -/
def abS (σ : MemT) (r : Nat) (w : Int) : Int := if w = 0 then σ (78 + 2 * r) 0 else if w = 1 then σ (78 + 2 * r) 1 else if w = 2 then σ (78 + 2 * r) 2 else if w = 3 then ownS (σ (79 + 2 * r)) else if w = 4 then knA (σ (79 + 2 * r)) 5 else if 10 ≤ w ∧ w ≤ 14 then σ (79 + 2 * r) (w - 10) else -2
theorem c_about (r : Nat) (w : Int) (h_r : r < σ 0 8) (h_n : σ 0 8 ≤ 20) (h_2 : (-2147483648 ≤ w ∧ w < 2147483648)) : CT (EC x) 2 yX11_about [rf (EC x) 0, iv r, iv w] σ (rI (abS σ r w) σ) := by
  obtain ⟨h_y1, h_y2, h_y3⟩ := ly_reader (x := x) (r := r) (by omega)
  unfold abS
  refine CT.ofJ (own := RX11) (cc := cX11_about) (n := 4) (ret := (some .int)) (by decide) rfl cw_X11_about (by decide) (Nat.le_of_ble_eq_true rfl) (ls := [some (rf (EC x) 0), some (iv r), some (iv w), none]) rfl ?_
  intro X G
  first | refine j_aload_n G dX11_about_0 rfl ?_ | refine j_aload_nN G dX11_about_0 rfl ?_
  refine j_iload_n G dX11_about_1 rfl ?_
  refine j_callV G mv_X11_210 dX11_about_2 (c_readerAt r h_r h_n) (by first | assumption | rfl) (by decide) (by rfl) rfl rfl (by exact Nat.le_of_ble_eq_true rfl) (by decide) (kV ?_)
  first | refine j_astore3 G dX11_about_5 (by decide) rfl ?_ | refine j_astoreN3 G dX11_about_5 (by decide) rfl ?_
  first | refine j_aload_n G dX11_about_6 rfl ?_ | refine j_aload_nN G dX11_about_6 rfl ?_
  refine j_ifnonnull G dX11_about_7 (tgt := 12) (by decide) ?_
  refine j_iload_n G dX11_about_12 rfl ?_
  by_cases s_13_0 : w = 0
  · refine j_tableIn G dX11_about_13 (tgt := 48) (by omega) (by omega) (by rw [s_13_0]; rfl) (by decide) ?_
    first | refine j_aload_n G dX11_about_48 rfl ?_ | refine j_aload_nN G dX11_about_48 rfl ?_
    refine j_geti G fl_X11_201 dX11_about_49 0 rfl (by first | assumption | rfl) (by rfl) (fun r_49 => ?_)
    try simp (disch := omega) only [up_same, up_cell, up_idx, cpm_at, fil_at] at r_49 ⊢
    refine j_ireturn G dX11_about_52 ?_
    exact ⟨by repeat' split <;> first | rfl | omega, rfl⟩
  by_cases s_13_1 : w = 1
  · refine j_tableIn G dX11_about_13 (tgt := 53) (by omega) (by omega) (by rw [s_13_1]; rfl) (by decide) ?_
    first | refine j_aload_n G dX11_about_53 rfl ?_ | refine j_aload_nN G dX11_about_53 rfl ?_
    refine j_geti G fl_X11_204 dX11_about_54 1 rfl (by first | assumption | rfl) (by rfl) (fun r_54 => ?_)
    try simp (disch := omega) only [up_same, up_cell, up_idx, cpm_at, fil_at] at r_54 ⊢
    refine j_ireturn G dX11_about_57 ?_
    exact ⟨by repeat' split <;> first | rfl | omega, rfl⟩
  by_cases s_13_2 : w = 2
  · refine j_tableIn G dX11_about_13 (tgt := 58) (by omega) (by omega) (by rw [s_13_2]; rfl) (by decide) ?_
    first | refine j_aload_n G dX11_about_58 rfl ?_ | refine j_aload_nN G dX11_about_58 rfl ?_
    refine j_geti G fl_X11_207 dX11_about_59 2 rfl (by first | assumption | rfl) (by rfl) (fun r_59 => ?_)
    try simp (disch := omega) only [up_same, up_cell, up_idx, cpm_at, fil_at] at r_59 ⊢
    refine j_ireturn G dX11_about_62 ?_
    exact ⟨by repeat' split <;> first | rfl | omega, rfl⟩
  by_cases s_13_3 : w = 3
  · refine j_tableIn G dX11_about_13 (tgt := 63) (by omega) (by omega) (by rw [s_13_3]; rfl) (by decide) ?_
    first | refine j_aload_n G dX11_about_63 rfl ?_ | refine j_aload_nN G dX11_about_63 rfl ?_
    refine j_callV G mv_X11_217 dX11_about_64 (r_ownCode (78 + 2 * r) (79 + 2 * r) h_y2 h_y3) (by first | assumption | rfl) (by decide) (by rfl) rfl rfl (by exact Nat.le_of_ble_eq_true rfl) (by decide) (kI ?_)
    refine j_ireturn G dX11_about_67 ?_
    exact ⟨by repeat' split <;> first | rfl | omega, rfl⟩
  by_cases s_13_4 : w = 4
  · refine j_tableIn G dX11_about_13 (tgt := 68) (by omega) (by omega) (by rw [s_13_4]; rfl) (by decide) ?_
    first | refine j_aload_n G dX11_about_68 rfl ?_ | refine j_aload_nN G dX11_about_68 rfl ?_
    refine j_callV G mv_X11_220 dX11_about_69 (r_known (78 + 2 * r) (79 + 2 * r) h_y2 h_y3) (by first | assumption | rfl) (by decide) (by rfl) rfl rfl (by exact Nat.le_of_ble_eq_true rfl) (by decide) (kI ?_)
    refine j_ireturn G dX11_about_72 ?_
    exact ⟨by repeat' split <;> first | rfl | omega, rfl⟩
  refine j_tableOut G dX11_about_13 (tgt := 73) (by omega) (by omega) (by decide) ?_
  refine j_iload_n G dX11_about_73 rfl ?_
  refine j_bipush G dX11_about_74 (by decide) ?_
  refine j_bipush G dX11_about_76 (by decide) ?_
  refine j_pc (p2 := 78) rfl ?_
  refine j_callS G ms_X11_92 dX11_about_78 (x_within _ _ _ (by omega) (by omega) (by omega)) rfl rfl (by exact Nat.le_of_ble_eq_true rfl) (by decide) (kI ?_)
  refine j_if_eqB G dX11_about_81 (tgt := 96) (by decide)  (fun c_81 => ?_) (fun c_81 => ?_)
  · refine j_bipush G dX11_about_96 (by decide) ?_
    refine j_ireturn G dX11_about_98 ?_
    exact ⟨by repeat' split <;> first | rfl | omega, rfl⟩
  · first | refine j_aload_n G dX11_about_84 rfl ?_ | refine j_aload_nN G dX11_about_84 rfl ?_
    refine j_getr G fl_X11_214 dX11_about_85 (by first | assumption | rfl) (by rfl) ?_
    refine j_iload_n G dX11_about_88 rfl ?_
    refine j_bipush G dX11_about_89 (by decide) ?_
    refine j_isub G dX11_about_91 ?_
    refine j_iaload G dX11_about_92 (by first | assumption | rfl) (by omega) (fun r_92 => ?_)
    try simp (disch := omega) only [up_same, up_cell, up_idx, cpm_at, fil_at] at r_92 ⊢
    refine j_goto G dX11_about_93 (tgt := 98) (by decide) ?_
    refine j_ireturn G dX11_about_98 ?_
    exact ⟨by repeat' split <;> first | rfl | omega, rfl⟩
theorem c_aboutN (r w : Int) (h_1 : (-2147483648 ≤ r ∧ r < 2147483648)) (h_r : ¬ (0 ≤ r ∧ r < σ 0 8)) (h_n : 0 ≤ σ 0 8 ∧ σ 0 8 ≤ 20) : CT (EC x) 2 yX11_about [rf (EC x) 0, iv r, iv w] σ (rI (-1) σ) := by
  refine CT.ofJ (own := RX11) (cc := cX11_about) (n := 4) (ret := (some .int)) (by decide) rfl cw_X11_about (by decide) (Nat.le_of_ble_eq_true rfl) (ls := [some (rf (EC x) 0), some (iv r), some (iv w), none]) rfl ?_
  intro X G
  first | refine j_aload_n G dX11_about_0 rfl ?_ | refine j_aload_nN G dX11_about_0 rfl ?_
  refine j_iload_n G dX11_about_1 rfl ?_
  refine j_callV G mv_X11_210 dX11_about_2 (c_readerAtN r h_1 h_r h_n) (by first | assumption | rfl) (by decide) (by rfl) rfl rfl (by exact Nat.le_of_ble_eq_true rfl) (by decide) (kV ?_)
  first | refine j_astore3 G dX11_about_5 (by decide) rfl ?_ | refine j_astoreN3 G dX11_about_5 (by decide) rfl ?_
  first | refine j_aload_n G dX11_about_6 rfl ?_ | refine j_aload_nN G dX11_about_6 rfl ?_
  refine j_ifnonnullN G dX11_about_7 ?_
  refine j_iconst G dX11_about_10 ?_
  refine j_ireturn G dX11_about_11 ?_
  exact ⟨rfl, rfl⟩
theorem m_about (r w : Int) (h_1 : (-2147483648 ≤ r ∧ r < 2147483648)) (h_2 : (-2147483648 ≤ w ∧ w < 2147483648)) (h_n : 0 ≤ μ 0 33 ∧ μ 0 33 ≤ 20) (h_si : 0 ≤ r → r < 20 → μ 24 r = 0 ∨ μ 24 r = 1) : CT (EM x) 2 yX12_about [rf (EM x) 0, iv r, iv w] μ
    (if ¬ (0 ≤ r ∧ r ≤ μ 0 33 - 1) then rI (-1) μ else rI (if w = 0 then μ 22 r else if w = 1 then μ 23 r else if w = 2 then μ 24 r else if w = 3 then ownS (fun e => μ 25 (5 * r + e)) else if w = 4 then knA (fun e => μ 25 (5 * r + e)) 5 else if 10 ≤ w ∧ w ≤ 14 then μ 25 (5 * r + (w - 10)) else -2) μ) := by
  refine CT.ofJ (own := RX12) (cc := cX12_about) (n := 3) (ret := (some .int)) (by decide) rfl cw_X12_about (by decide) (Nat.le_of_ble_eq_true rfl) (ls := [some (rf (EM x) 0), some (iv r), some (iv w)]) rfl ?_
  intro X G
  first | refine j_aload_n G dX12_about_0 rfl ?_ | refine j_aload_nN G dX12_about_0 rfl ?_
  refine j_iload_n G dX12_about_1 rfl ?_
  refine j_callV G mv_X12_259 dX12_about_2 (m_isReader r h_1 h_n) (by first | assumption | rfl) (by decide) (by rfl) rfl rfl (by exact Nat.le_of_ble_eq_true rfl) (by decide) (kI ?_)
  refine j_if_neB G dX12_about_5 (tgt := 10) (by decide)  (fun c_5 => ?_) (fun c_5 => ?_)
  · refine j_iload_n G dX12_about_10 rfl ?_
    by_cases s_11_0 : w = 0
    · refine j_tableIn G dX12_about_11 (tgt := 44) (by omega) (by omega) (by rw [s_11_0]; rfl) (by decide) ?_
      first | refine j_aload_n G dX12_about_44 rfl ?_ | refine j_aload_nN G dX12_about_44 rfl ?_
      refine j_getr G fl_X12_74 dX12_about_45 (by first | assumption | rfl) (by rfl) ?_
      refine j_iload_n G dX12_about_48 rfl ?_
      refine j_iaload G dX12_about_49 (by first | assumption | rfl) (by omega) (fun r_49 => ?_)
      try simp (disch := omega) only [up_same, up_cell, up_idx, cpm_at, fil_at] at r_49 ⊢
      refine j_ireturn G dX12_about_50 ?_
      exact ite_pst_f (by omega) ⟨congrArg (fun z => some (iv z)) (by repeat' split <;> first | rfl | omega), rfl⟩
    by_cases s_11_1 : w = 1
    · refine j_tableIn G dX12_about_11 (tgt := 51) (by omega) (by omega) (by rw [s_11_1]; rfl) (by decide) ?_
      first | refine j_aload_n G dX12_about_51 rfl ?_ | refine j_aload_nN G dX12_about_51 rfl ?_
      refine j_getr G fl_X12_77 dX12_about_52 (by first | assumption | rfl) (by rfl) ?_
      refine j_iload_n G dX12_about_55 rfl ?_
      refine j_iaload G dX12_about_56 (by first | assumption | rfl) (by omega) (fun r_56 => ?_)
      try simp (disch := omega) only [up_same, up_cell, up_idx, cpm_at, fil_at] at r_56 ⊢
      refine j_ireturn G dX12_about_57 ?_
      exact ite_pst_f (by omega) ⟨congrArg (fun z => some (iv z)) (by repeat' split <;> first | rfl | omega), rfl⟩
    by_cases s_11_2 : w = 2
    · refine j_tableIn G dX12_about_11 (tgt := 58) (by omega) (by omega) (by rw [s_11_2]; rfl) (by decide) ?_
      first | refine j_aload_n G dX12_about_58 rfl ?_ | refine j_aload_nN G dX12_about_58 rfl ?_
      refine j_getr G fl_X12_80 dX12_about_59 (by first | assumption | rfl) (by rfl) ?_
      refine j_iload_n G dX12_about_62 rfl ?_
      have h_si2 := h_si (by omega) (by omega)
      refine j_baload G dX12_about_63 (by first | assumption | rfl) (by omega) (fun r_63 => ?_)
      try simp (disch := omega) only [up_same, up_cell, up_idx, cpm_at, fil_at] at r_63 ⊢
      refine j_if_eq G dX12_about_64 (tgt := 71) (by decide) (by omega) (fun c_64 => ?_) (fun c_64 => ?_)
      · refine j_iconst G dX12_about_71 ?_
        refine j_ireturn G dX12_about_72 ?_
        exact ite_pst_f (by omega) ⟨congrArg (fun z => some (iv z)) (by repeat' split <;> first | rfl | omega), rfl⟩
      · refine j_iconst G dX12_about_67 ?_
        refine j_goto G dX12_about_68 (tgt := 72) (by decide) ?_
        refine j_ireturn G dX12_about_72 ?_
        exact ite_pst_f (by omega) ⟨congrArg (fun z => some (iv z)) (by repeat' split <;> first | rfl | omega), rfl⟩
    by_cases s_11_3 : w = 3
    · refine j_tableIn G dX12_about_11 (tgt := 73) (by omega) (by omega) (by rw [s_11_3]; rfl) (by decide) ?_
      first | refine j_aload_n G dX12_about_73 rfl ?_ | refine j_aload_nN G dX12_about_73 rfl ?_
      refine j_iload_n G dX12_about_74 rfl ?_
      refine j_callV G mv_X12_267 dX12_about_75 (m_ownCode r (by omega)) (by first | assumption | rfl) (by decide) (by rfl) rfl rfl (by exact Nat.le_of_ble_eq_true rfl) (by decide) (kI ?_)
      refine j_ireturn G dX12_about_78 ?_
      exact ite_pst_f (by omega) ⟨congrArg (fun z => some (iv z)) (by repeat' split <;> first | rfl | omega), rfl⟩
    by_cases s_11_4 : w = 4
    · refine j_tableIn G dX12_about_11 (tgt := 79) (by omega) (by omega) (by rw [s_11_4]; rfl) (by decide) ?_
      first | refine j_aload_n G dX12_about_79 rfl ?_ | refine j_aload_nN G dX12_about_79 rfl ?_
      refine j_iload_n G dX12_about_80 rfl ?_
      refine j_callV G mv_X12_270 dX12_about_81 (m_known r (by omega)) (by first | assumption | rfl) (by decide) (by rfl) rfl rfl (by exact Nat.le_of_ble_eq_true rfl) (by decide) (kI ?_)
      refine j_ireturn G dX12_about_84 ?_
      exact ite_pst_f (by omega) ⟨congrArg (fun z => some (iv z)) (by repeat' split <;> first | rfl | omega), rfl⟩
    refine j_tableOut G dX12_about_11 (tgt := 85) (by omega) (by omega) (by decide) ?_
    refine j_iload_n G dX12_about_85 rfl ?_
    refine j_i2l G (by omega) dX12_about_86 ?_
    refine j_ldc2I G (10) kl_X12_273 dX12_about_87 (by decide) ?_
    refine j_ldc2I G (14) kl_X12_275 dX12_about_90 (by decide) ?_
    refine j_callS G ms_X12_115 dX12_about_93 (m_in _ _ _ (by omega) (by omega) (by omega)) rfl rfl (by exact Nat.le_of_ble_eq_true rfl) (by decide) (kI ?_)
    refine j_if_eqB G dX12_about_96 (tgt := 115) (by decide)  (fun c_96 => ?_) (fun c_96 => ?_)
    · refine j_bipush G dX12_about_115 (by decide) ?_
      refine j_ireturn G dX12_about_117 ?_
      exact ite_pst_f (by omega) ⟨congrArg (fun z => some (iv z)) (by repeat' split <;> first | rfl | omega), rfl⟩
    · first | refine j_aload_n G dX12_about_99 rfl ?_ | refine j_aload_nN G dX12_about_99 rfl ?_
      refine j_getr G fl_X12_83 dX12_about_100 (by first | assumption | rfl) (by rfl) ?_
      refine j_iconst G dX12_about_103 ?_
      refine j_iload_n G dX12_about_104 rfl ?_
      refine j_imul G dX12_about_105 ?_
      refine j_iload_n G dX12_about_106 rfl ?_
      refine j_iadd G dX12_about_107 ?_
      refine j_bipush G dX12_about_108 (by decide) ?_
      refine j_isub G dX12_about_110 ?_
      rw [show 5 * r + w - 10 = 5 * r + (w - 10) by omega]
      refine j_iaload G dX12_about_111 (by first | assumption | rfl) (by omega) (fun r_111 => ?_)
      try simp (disch := omega) only [up_same, up_cell, up_idx, cpm_at, fil_at] at r_111 ⊢
      refine j_goto G dX12_about_112 (tgt := 117) (by decide) ?_
      refine j_pc (p2 := 117) rfl ?_
      refine j_ireturn G dX12_about_117 ?_
      exact ite_pst_f (by omega) ⟨congrArg (fun z => some (iv z)) (by repeat' split <;> first | rfl | omega), rfl⟩
  · refine j_iconst G dX12_about_8 ?_
    refine j_ireturn G dX12_about_9 ?_
    exact ite_pst_t (by omega) ⟨rfl, rfl⟩
theorem op_about (r w : Int) (h_1 : (-2147483648 ≤ r ∧ r < 2147483648)) (h_2 : (-2147483648 ≤ w ∧ w < 2147483648)) : OP x1 x2 yX11_about yX12_about [iv r, iv w] := by
  apply OP.same
  intro σ μ hw hr
  obtain ⟨w1, w2, w3, w4, w5, w6, w7, w8⟩ := id hw
  obtain ⟨r1, r2, r3, r4, r5, r6, r7, r8⟩ := id hr
  have h_20 := w5.1
  have h_m := m_about (x := x2) (μ := μ) r w h_1 h_2 (by rw [r5.1]; exact w5.1) (fun h_a h_b => by
    obtain ⟨rr, h_rr, rfl⟩ := nat_of (n := 19) (z := r) (by omega)
    rw [(r5.2 rr (by omega)).2.2.1]
    exact (w5.2 rr (by omega)).2.2.1)
  rw [r5.1] at h_m
  by_cases h_r : 0 ≤ r ∧ r < σ 0 8
  · obtain ⟨rr, h_rr, rfl⟩ := nat_of (n := 20) (z := r) (by omega)
    obtain ⟨g1, g2, g3, g4⟩ := r5.2 rr (by omega)
    have h_k := c_about (x := x1) (σ := σ) rr w (by omega) (by omega) h_2
    have h_own : ownS (fun e => μ 25 (5 * rr + e)) = ownS (σ (79 + 2 * rr)) := by
      unfold ownS
      rw [ownA_cg (g := σ (79 + 2 * rr)) 5 (fun i hi => g4 i (by omega) (by omega))]
    have h_kn : knA (fun e => μ 25 (5 * rr + e)) 5 = knA (σ (79 + 2 * rr)) 5 := knA_cg 5 (fun i hi => g4 i (by omega) (by omega))
    rw [if_neg (by omega), h_own, h_kn, g1, g2, g3] at h_m
    refine ⟨_, _, _, (by decide), (by decide), rI_P h_k ⟨rfl, KC.rf _⟩, rI_P h_m ⟨?_, KM.rf _⟩⟩
    unfold abS
    by_cases h_w : 10 ≤ w ∧ w ≤ 14
    · rw [g4 (w - 10) (by omega) (by omega)]
    · simp only [if_neg h_w]
  · have h_k := c_aboutN (x := x1) (σ := σ) r w h_1 h_r h_20
    rw [if_pos (by omega)] at h_m
    exact ⟨_, _, _, (by decide), (by decide), rI_P h_k ⟨rfl, KC.rf _⟩, rI_P h_m ⟨rfl, KM.rf _⟩⟩
end OP4
