theorem prZ_rg (w : TW) : 0 ≤ prZ w ∧ prZ w ≤ 4096 ∧ (prZ w < 4096 ↔ anyB (prP w) 4096 = true) ∧ (anyB (prP w) 4096 = true → prZ w = (fsB (prP w) 4096 : Nat)) := by
  unfold prZ
  by_cases h : anyB (prP w) 4096 = true
  · have := (fsB_is 4096 h).1
    rw [if_pos h]
    exact ⟨by omega, by omega, ⟨fun _ => h, fun _ => by omega⟩, fun _ => rfl⟩
  · rw [if_neg h]
    exact ⟨by omega, by omega, ⟨fun z => by omega, fun z => absurd z h⟩, fun z => absurd z h⟩
section TB
variable {E : EE} {x x1 x2 : CX} {μ σ : MemT} {w : TW}
theorem twS_1 {v : Nat} (h_v : v < 64) (h_1 : 1 < sg w v) (h_2 : ∀ u, u < v → ¬ 1 < sg w u) : twS w = [(v : Int)] := by
  have h_3 : fsB (fun v => decide (1 < sg w v)) 64 = v := fsB_eq h_v (decide_eq_true h_1) (fun j h_j h_4 => h_2 j h_j (of_decide_eq_true h_4))
  unfold twS
  rw [if_pos (anyB_iff.2 ⟨v, h_v, decide_eq_true h_1⟩), h_3]
theorem twS_2 (h_n : ∀ u, u < 64 → ¬ 1 < sg w u) : twS w = if anyB (fun n => stB w (n + 1)) 14 = true ∧ (anyB (prP w) 4096 = true → fsB (fun n => stB w (n + 1)) 14 = 0 ∧ ¬ fsB (prP w) 4096 < 64 * c0T w 1 + nxT w 0 (c0T w 1)) then chL w (fsB (fun n => stB w (n + 1)) 14 + 1) (c0T w (fsB (fun n => stB w (n + 1)) 14 + 1)) else if anyB (prP w) 4096 = true then [((fsB (prP w) 4096 / 64 : Nat) : Int), ((fsB (prP w) 4096 % 64 : Nat) : Int)] else [] := by
  unfold twS
  rw [if_neg (fun z => by
    obtain ⟨v, h_1, h_2⟩ := anyB_iff.1 z
    exact h_n v h_1 (of_decide_eq_true h_2))]
set_option maxRecDepth 4000 in
theorem c_findTwoWays (c : Nat) (h_c : c < 5) (h_w : TWok w) (h_t : TC σ c w) : CT (EC x) 3 yX2_findTwoWays [rf (EC x) 48, rf (EC x) (2 + 7 * c)] σ (fun r τ => r = none ∧ Ons (fun j => 52 ≤ j ∧ j ≤ 55) σ τ ∧ RwI (τ 54 1) (τ 55) (twS w) ∧ (twS w).length ≤ 14) := by
  refine CT.ofJ (own := RX2) (cc := cX2_findTwoWays) (n := 4) (ret := none) (by decide) rfl cw_X2_findTwoWays (by decide) (Nat.le_of_ble_eq_true rfl) (ls := [some (rf (EC x) 48), some (rf (EC x) (2 + 7 * c)), none, none]) rfl ?_
  intro X G
  have h_o1 : Ons (fun j => 52 ≤ j ∧ j ≤ 55) σ (up σ 54 1 0) := (Ons.rf _ _).up (by omega)
  first | refine j_aload_n G dX2_findTwoWays_0 rfl ?_ | refine j_aload_nN G dX2_findTwoWays_0 rfl ?_
  refine j_getr G fl_X2_30 dX2_findTwoWays_1 (by first | exact rfl | assumption) (by rfl) ?_
  refine j_callV G mv_X2_66 dX2_findTwoWays_4 (p_empty 54 55 14 rfl) (by first | exact rfl | assumption) (by decide) (by rfl) rfl rfl (by exact Nat.le_of_ble_eq_true rfl) (by decide) (kI ?_)
  refine j_pop G dX2_findTwoWays_7 rfl ?_
  first | refine j_aload_n G dX2_findTwoWays_8 rfl ?_ | refine j_aload_nN G dX2_findTwoWays_8 rfl ?_
  first | refine j_aload_n G dX2_findTwoWays_9 rfl ?_ | refine j_aload_nN G dX2_findTwoWays_9 rfl ?_
  refine j_callV G mv_X2_90 dX2_findTwoWays_10 (c_countSingles c h_c h_w (h_t.on (fun j h_1 h_2 => up_other j (by omega)))) (by first | exact rfl | assumption) (by decide) (by rfl) rfl rfl (by exact Nat.le_of_ble_eq_true rfl) (by decide) (kM (fun τ1 h_1 => ?_))
  obtain ⟨h_o2, h_s⟩ := h_1
  have h_o3 : Ons (fun j => 52 ≤ j ∧ j ≤ 55) σ τ1 := h_o1.tr (h_o2.wk (fun j h => by omega))
  have h_R0 : RwI (τ1 54 1) (τ1 55) [] := ⟨by rw [h_o2 54 (by decide), up_same]; rfl, fun i h_i => absurd h_i (Nat.not_lt_zero _)⟩
  refine j_iconst G dX2_findTwoWays_13 ?_
  refine j_istore2 G dX2_findTwoWays_14 (by decide) rfl ?_
  refine j_pc (p2 := 15) rfl ?_
  refine j_weak (ls' := [some (rf (EC x) 48), some (rf (EC x) (2 + 7 * c)), some (iv (((0 : Nat) : Int) + 1)), none]) ?_ ⟨rfl, rfl, rfl, trivial⟩
  refine down (Pr := fun v => (∀ u, u < v + 1 → ¬ 1 < sg w u) → JJ (EC x) X 3 (fun r τ => r = none ∧ Ons (fun j => 52 ≤ j ∧ j ≤ 55) σ τ ∧ RwI (τ 54 1) (τ 55) (twS w) ∧ (twS w).length ≤ 14) 4 15 [some (rf (EC x) 48), some (rf (EC x) (2 + 7 * c)), some (iv ((v : Int) + 1)), none] [] τ1) 63 ?_ 0 (Nat.zero_le _) (fun u h_u => by
    obtain rfl : u = 0 := by omega
    rw [sg_0 h_w]
    omega)
  intro v h_v ih h_no
  have h_sv : v < 63 → τ1 52 ((v : Int) + 1) = sg w (v + 1) := fun h => h_s (v + 1) (by omega)
  have h_sgr := sg_rg h_w (v + 1)
  refine j_iload_n G dX2_findTwoWays_15 rfl ?_
  refine j_bipush G dX2_findTwoWays_16 (by decide) ?_
  refine j_icmp_ge G dX2_findTwoWays_18 (tgt := 47) (by decide) (by omega) (by omega) (fun c_18 => ?_) (fun c_18 => ?_)
  · obtain rfl : v = 63 := by omega
    have h_t1 : TC τ1 c w := h_t.on (fun j h_1 h_2 => h_o3 j (by omega))
    first | refine j_aload_n G dX2_findTwoWays_47 rfl ?_ | refine j_aload_nN G dX2_findTwoWays_47 rfl ?_
    first | refine j_aload_n G dX2_findTwoWays_48 rfl ?_ | refine j_aload_nN G dX2_findTwoWays_48 rfl ?_
    refine j_callV G mv_X2_94 dX2_findTwoWays_49 (c_measureFar c h_c h_w h_t1 h_s) (by first | exact rfl | assumption) (by decide) (by rfl) rfl rfl (by exact Nat.le_of_ble_eq_true rfl) (by decide) (kM (fun τ2 h_2 => ?_))
    obtain ⟨h_o4, h_F⟩ := h_2
    have h_o5 : Ons (fun j => 52 ≤ j ∧ j ≤ 55) σ τ2 := h_o3.tr (h_o4.wk (fun j h => by omega))
    have h_t2 : TC τ2 c w := h_t.on (fun j h_1 h_2 => h_o5 j (by omega))
    first | refine j_aload_n G dX2_findTwoWays_52 rfl ?_ | refine j_aload_nN G dX2_findTwoWays_52 rfl ?_
    first | refine j_aload_n G dX2_findTwoWays_53 rfl ?_ | refine j_aload_nN G dX2_findTwoWays_53 rfl ?_
    refine j_callV G mv_X2_97 dX2_findTwoWays_54 (c_layChain c (fun v => τ2 53 v) h_c h_w h_t2 (fun v h_v => by rw [h_o4 52 (by decide)]; exact h_s v h_v) (fun v h_v => rfl) h_F (by rw [h_o4 54 (by decide), h_o4 55 (by decide)]; exact h_R0)) (by first | exact rfl | assumption) (by decide) (by rfl) rfl rfl (by exact Nat.le_of_ble_eq_true rfl) (by decide) (kM (fun τ3 h_3 => ?_))
    obtain ⟨h_o6, h_R⟩ := h_3
    have h_o7 : Ons (fun j => 52 ≤ j ∧ j ≤ 55) σ τ3 := h_o5.tr (h_o6.wk (fun j h => by omega))
    have h_t3 : TC τ3 c w := h_t.on (fun j h_1 h_2 => h_o7 j (by omega))
    first | refine j_aload_n G dX2_findTwoWays_57 rfl ?_ | refine j_aload_nN G dX2_findTwoWays_57 rfl ?_
    refine j_callS G ms_X2_100 dX2_findTwoWays_58 (c_leastShared c h_c h_w h_t3) rfl rfl (by exact Nat.le_of_ble_eq_true rfl) (by decide) (kI ?_)
    refine j_pc (p2 := 61) rfl ?_
    rw [twS_2 (w := w) (fun u h_u => h_no u (by omega))]
    have h_R1 := h_R.1
    obtain ⟨h_z1, h_z2, h_z3, h_z4⟩ := prZ_rg w
    have h_end : prZ w < 4096 → ∀ q : Option Value, JJ (EC x) X 3 (fun r τ => r = none ∧ Ons (fun j => 52 ≤ j ∧ j ≤ 55) σ τ ∧ RwI (τ 54 1) (τ 55) [((fsB (prP w) 4096 / 64 : Nat) : Int), ((fsB (prP w) 4096 % 64 : Nat) : Int)] ∧ [((fsB (prP w) 4096 / 64 : Nat) : Int), ((fsB (prP w) 4096 % 64 : Nat) : Int)].length ≤ 14) 4 114 [some (rf (EC x) 48), some (rf (EC x) (2 + 7 * c)), some (iv (prZ w)), q] [] τ3 := by
      intro h_p q
      have h_z5 := h_z4 (h_z3.1 h_p)
      have h_up : RwI ((up τ3 54 1 0) 54 1) ((up τ3 54 1 0) 55) [] := ⟨up_same _ _ _ _, fun i h_i => absurd h_i (Nat.not_lt_zero _)⟩
      rw [h_z5]
      · first | refine j_aload_n G dX2_findTwoWays_114 rfl ?_ | refine j_aload_nN G dX2_findTwoWays_114 rfl ?_
        refine j_getr G fl_X2_30 dX2_findTwoWays_115 (by first | exact rfl | assumption) (by rfl) ?_
        refine j_callV G mv_X2_66 dX2_findTwoWays_118 (p_empty 54 55 14 rfl) (by first | exact rfl | assumption) (by decide) (by rfl) rfl rfl (by exact Nat.le_of_ble_eq_true rfl) (by decide) (kI ?_)
        refine j_pop G dX2_findTwoWays_121 rfl ?_
        first | refine j_aload_n G dX2_findTwoWays_122 rfl ?_ | refine j_aload_nN G dX2_findTwoWays_122 rfl ?_
        refine j_getr G fl_X2_30 dX2_findTwoWays_123 (by first | exact rfl | assumption) (by rfl) ?_
        refine j_iload_n G dX2_findTwoWays_126 rfl ?_
        refine j_bipush G dX2_findTwoWays_127 (by decide) ?_
        refine j_idiv G dX2_findTwoWays_129 (by omega) (by omega) ?_
        rw [show ((fsB (prP w) 4096 : Nat) : Int) / 64 = ((fsB (prP w) 4096 / 64 : Nat) : Int) by omega]
        refine j_callV G mv_X2_78 dX2_findTwoWays_130 (p_addR 54 55 14 ((fsB (prP w) 4096 / 64 : Nat) : Int) [] (by omega) rfl rfl (by decide) h_up (by decide)) (by first | exact rfl | assumption) (by decide) (by rfl) rfl rfl (by exact Nat.le_of_ble_eq_true rfl) (by decide) (kP (fun y τ4 h_4 => ?_))
        refine j_pop G dX2_findTwoWays_133 rfl ?_
        refine j_pc (p2 := 134) rfl ?_
        first | refine j_aload_n G dX2_findTwoWays_134 rfl ?_ | refine j_aload_nN G dX2_findTwoWays_134 rfl ?_
        refine j_getr G fl_X2_30 dX2_findTwoWays_135 (by first | exact rfl | assumption) (by rfl) ?_
        refine j_iload_n G dX2_findTwoWays_138 rfl ?_
        refine j_bipush G dX2_findTwoWays_139 (by decide) ?_
        refine j_irem G dX2_findTwoWays_141 (by omega) (by omega) ?_
        rw [show ((fsB (prP w) 4096 : Nat) : Int) % 64 = ((fsB (prP w) 4096 % 64 : Nat) : Int) by omega]
        refine j_callV G mv_X2_78 dX2_findTwoWays_142 (p_addR 54 55 14 ((fsB (prP w) 4096 % 64 : Nat) : Int) _ (by omega) rfl rfl (by decide) h_4.2 (by show 1 < 14; decide)) (by first | exact rfl | assumption) (by decide) (by rfl) rfl rfl (by exact Nat.le_of_ble_eq_true rfl) (by decide) (kP (fun y2 τ5 h_5 => ?_))
        refine j_pop G dX2_findTwoWays_145 rfl ?_
        refine j_return G dX2_findTwoWays_146 ?_
        exact ⟨rfl, (h_o7.up (by omega)).tr ((h_4.1.tr h_5.1).wk (fun j h => by omega)), h_5.2, by show 2 ≤ 14; decide⟩
    by_cases h_C : anyB (fun n => stB w (n + 1)) 14 = true
    · have h_L : chnS w = chL w (fsB (fun n => stB w (n + 1)) 14 + 1) (c0T w (fsB (fun n => stB w (n + 1)) 14 + 1)) := if_pos h_C
      have h_n14 := (fsB_is 14 h_C).1
      have h_len := chL_len w (fsB (fun n => stB w (n + 1)) 14 + 1) (c0T w (fsB (fun n => stB w (n + 1)) 14 + 1))
      rw [h_L, h_len] at h_R1
      have h_n12 : fsB (fun n => stB w (n + 1)) 14 + 1 ≤ 12 := mnS_12 h_w ⟨(fsB_is 14 h_C).2.1, fun j h_j h_6 => by
        have := (fsB_is 14 h_C).2.2 j h_j
        rw [this] at h_6
        exact absurd h_6 (by decide)⟩
      have h_stay : (anyB (prP w) 4096 = true → fsB (fun n => stB w (n + 1)) 14 = 0 ∧ ¬ fsB (prP w) 4096 < 64 * c0T w 1 + nxT w 0 (c0T w 1)) → (none : Option Value) = none ∧ Ons (fun j => 52 ≤ j ∧ j ≤ 55) σ τ3 ∧ RwI (τ3 54 1) (τ3 55) (if anyB (fun n => stB w (n + 1)) 14 = true ∧ (anyB (prP w) 4096 = true → fsB (fun n => stB w (n + 1)) 14 = 0 ∧ ¬ fsB (prP w) 4096 < 64 * c0T w 1 + nxT w 0 (c0T w 1)) then chL w (fsB (fun n => stB w (n + 1)) 14 + 1) (c0T w (fsB (fun n => stB w (n + 1)) 14 + 1)) else if anyB (prP w) 4096 = true then [((fsB (prP w) 4096 / 64 : Nat) : Int), ((fsB (prP w) 4096 % 64 : Nat) : Int)] else []) ∧ (if anyB (fun n => stB w (n + 1)) 14 = true ∧ (anyB (prP w) 4096 = true → fsB (fun n => stB w (n + 1)) 14 = 0 ∧ ¬ fsB (prP w) 4096 < 64 * c0T w 1 + nxT w 0 (c0T w 1)) then chL w (fsB (fun n => stB w (n + 1)) 14 + 1) (c0T w (fsB (fun n => stB w (n + 1)) 14 + 1)) else if anyB (prP w) 4096 = true then [((fsB (prP w) 4096 / 64 : Nat) : Int), ((fsB (prP w) 4096 % 64 : Nat) : Int)] else []).length ≤ 14 := fun h_q => by
        rw [if_pos ⟨h_C, h_q⟩, ← h_L]
        exact ⟨rfl, h_o7, h_R, by rw [h_L, h_len]; omega⟩
      by_cases h_0 : fsB (fun n => stB w (n + 1)) 14 = 0
      · have h_L2 : chnS w = [((c0T w 1 : Nat) : Int), ((nxT w 0 (c0T w 1) : Nat) : Int)] := by rw [h_L, h_0]; rfl
        have h_mn : mnS w 0 := ⟨by have := (fsB_is 14 h_C).2.1; rw [h_0] at this; exact this, fun j h_j => absurd h_j (Nat.not_lt_zero _)⟩
        obtain ⟨-, h_inv⟩ := Inv.st h_w h_mn
        have h_b0 : c0T w 1 < 64 := h_inv.1
        have h_b1 : nxT w 0 (c0T w 1) < 64 := (h_inv.nx h_w).1
        have h_a0 := h_R.at 0
        have h_a1 := h_R.at 1
        rw [h_L2] at h_a0 h_a1
        have h_a2 : rowAt [((c0T w 1 : Nat) : Int), ((nxT w 0 (c0T w 1) : Nat) : Int)] 0 = (c0T w 1 : Nat) := rfl
        have h_a3 : rowAt [((c0T w 1 : Nat) : Int), ((nxT w 0 (c0T w 1) : Nat) : Int)] 1 = (nxT w 0 (c0T w 1) : Nat) := rfl
        rw [h_a2] at h_a0
        rw [h_a3] at h_a1
        · refine j_istore2 G dX2_findTwoWays_61 (by decide) rfl ?_
          first | refine j_aload_n G dX2_findTwoWays_62 rfl ?_ | refine j_aload_nN G dX2_findTwoWays_62 rfl ?_
          refine j_getr G fl_X2_30 dX2_findTwoWays_63 (by first | exact rfl | assumption) (by rfl) ?_
          refine j_geti G fl_X2_33 dX2_findTwoWays_66 1 rfl (by first | exact rfl | assumption) (by rfl) (fun r_66 => ?_)
          try simp (disch := omega) only [up_same, up_cell, up_idx, cpm_at, fil_at] at r_66 ⊢
          refine j_iconst G dX2_findTwoWays_69 ?_
          refine j_icmp_ne G dX2_findTwoWays_70 (tgt := 97) (by decide) (by omega) (by omega) (fun c_70 => ?_) (fun c_70 => ?_)
          · omega
          · refine j_iload_n G dX2_findTwoWays_73 rfl ?_
            first | refine j_aload_n G dX2_findTwoWays_74 rfl ?_ | refine j_aload_nN G dX2_findTwoWays_74 rfl ?_
            refine j_getr G fl_X2_30 dX2_findTwoWays_75 (by first | exact rfl | assumption) (by rfl) ?_
            refine j_iconst G dX2_findTwoWays_78 ?_
            refine j_callV G mv_X2_58 dX2_findTwoWays_79 (p_at 54 55 14 0 (by decide) rfl rfl (by decide) (by omega)) (by first | exact rfl | assumption) (by decide) (by rfl) rfl rfl (by exact Nat.le_of_ble_eq_true rfl) (by decide) (kI ?_)
            rw [h_a0]
            refine j_bipush G dX2_findTwoWays_82 (by decide) ?_
            refine j_imul G dX2_findTwoWays_84 ?_
            first | refine j_aload_n G dX2_findTwoWays_85 rfl ?_ | refine j_aload_nN G dX2_findTwoWays_85 rfl ?_
            refine j_getr G fl_X2_30 dX2_findTwoWays_86 (by first | exact rfl | assumption) (by rfl) ?_
            refine j_iconst G dX2_findTwoWays_89 ?_
            refine j_callV G mv_X2_58 dX2_findTwoWays_90 (p_at 54 55 14 1 (by decide) rfl rfl (by decide) (by omega)) (by first | exact rfl | assumption) (by decide) (by rfl) rfl rfl (by exact Nat.le_of_ble_eq_true rfl) (by decide) (kI ?_)
            refine j_pc (p2 := 93) rfl ?_
            rw [h_a1]
            refine j_iadd G dX2_findTwoWays_93 ?_
            refine j_icmp_ge G dX2_findTwoWays_94 (tgt := 101) (by decide) (by omega) (by omega) (fun c_94 => ?_) (fun c_94 => ?_)
            · refine j_iconst G dX2_findTwoWays_101 ?_
              refine j_istore3 G dX2_findTwoWays_102 (by decide) rfl ?_
              refine j_iload_n G dX2_findTwoWays_103 rfl ?_
              refine j_sipush G dX2_findTwoWays_104 (by decide) ?_
              refine j_icmp_ge G dX2_findTwoWays_107 (tgt := 146) (by decide) (by omega) (by omega) (fun c_107 => ?_) (fun c_107 => ?_)
              · refine j_return G dX2_findTwoWays_146 ?_
                first
                | exact h_stay (fun h => ⟨h_0, by have h_zz := h_z4 h; omega⟩)
                | exact h_stay (fun h => absurd (h_z3.2 h) (by omega))
              · refine j_iload_n G dX2_findTwoWays_110 rfl ?_
                refine j_if_eq G dX2_findTwoWays_111 (tgt := 146) (by decide) (by omega) (fun c_111 => ?_) (fun c_111 => ?_)
                · refine j_return G dX2_findTwoWays_146 ?_
                  first
                  | exact h_stay (fun h => ⟨h_0, by have h_zz := h_z4 h; omega⟩)
                  | exact h_stay (fun h => absurd (h_z3.2 h) (by omega))
                · refine j_pc (p2 := 114) rfl ?_
                  have h_zz := h_z4 (h_z3.1 c_107)
                  rw [if_neg (fun z => (z.2 (h_z3.1 c_107)).2 (by omega)), if_pos (h_z3.1 c_107)]
                  exact h_end c_107 _
            · refine j_iconst G dX2_findTwoWays_97 ?_
              refine j_goto G dX2_findTwoWays_98 (tgt := 102) (by decide) ?_
              refine j_istore3 G dX2_findTwoWays_102 (by decide) rfl ?_
              refine j_iload_n G dX2_findTwoWays_103 rfl ?_
              refine j_sipush G dX2_findTwoWays_104 (by decide) ?_
              refine j_icmp_ge G dX2_findTwoWays_107 (tgt := 146) (by decide) (by omega) (by omega) (fun c_107 => ?_) (fun c_107 => ?_)
              · refine j_return G dX2_findTwoWays_146 ?_
                first
                | exact h_stay (fun h => ⟨h_0, by have h_zz := h_z4 h; omega⟩)
                | exact h_stay (fun h => absurd (h_z3.2 h) (by omega))
              · refine j_iload_n G dX2_findTwoWays_110 rfl ?_
                refine j_if_eq G dX2_findTwoWays_111 (tgt := 146) (by decide) (by omega) (fun c_111 => ?_) (fun c_111 => ?_)
                · refine j_return G dX2_findTwoWays_146 ?_
                  first
                  | exact h_stay (fun h => ⟨h_0, by have h_zz := h_z4 h; omega⟩)
                  | exact h_stay (fun h => absurd (h_z3.2 h) (by omega))
                · refine j_pc (p2 := 114) rfl ?_
                  have h_zz := h_z4 (h_z3.1 c_107)
                  rw [if_neg (fun z => (z.2 (h_z3.1 c_107)).2 (by omega)), if_pos (h_z3.1 c_107)]
                  exact h_end c_107 _
      · refine j_istore2 G dX2_findTwoWays_61 (by decide) rfl ?_
        first | refine j_aload_n G dX2_findTwoWays_62 rfl ?_ | refine j_aload_nN G dX2_findTwoWays_62 rfl ?_
        refine j_getr G fl_X2_30 dX2_findTwoWays_63 (by first | exact rfl | assumption) (by rfl) ?_
        refine j_geti G fl_X2_33 dX2_findTwoWays_66 1 rfl (by first | exact rfl | assumption) (by rfl) (fun r_66 => ?_)
        try simp (disch := omega) only [up_same, up_cell, up_idx, cpm_at, fil_at] at r_66 ⊢
        refine j_iconst G dX2_findTwoWays_69 ?_
        refine j_icmp_ne G dX2_findTwoWays_70 (tgt := 97) (by decide) (by omega) (by omega) (fun c_70 => ?_) (fun c_70 => ?_)
        · refine j_iconst G dX2_findTwoWays_97 ?_
          refine j_goto G dX2_findTwoWays_98 (tgt := 102) (by decide) ?_
          refine j_istore3 G dX2_findTwoWays_102 (by decide) rfl ?_
          refine j_iload_n G dX2_findTwoWays_103 rfl ?_
          refine j_sipush G dX2_findTwoWays_104 (by decide) ?_
          refine j_icmp_ge G dX2_findTwoWays_107 (tgt := 146) (by decide) (by omega) (by omega) (fun c_107 => ?_) (fun c_107 => ?_)
          · refine j_return G dX2_findTwoWays_146 ?_
            first
            | exact h_stay (fun h => absurd (h_z3.2 h) (by omega))
            | omega
          · refine j_iload_n G dX2_findTwoWays_110 rfl ?_
            refine j_if_eq G dX2_findTwoWays_111 (tgt := 146) (by decide) (by omega) (fun c_111 => ?_) (fun c_111 => ?_)
            · refine j_return G dX2_findTwoWays_146 ?_
              first
              | exact h_stay (fun h => absurd (h_z3.2 h) (by omega))
              | omega
            · refine j_pc (p2 := 114) rfl ?_
              rw [if_neg (fun z => h_0 (z.2 (h_z3.1 c_107)).1), if_pos (h_z3.1 c_107)]
              exact h_end c_107 _
        · omega
    · have h_L : chnS w = [] := if_neg h_C
      rw [h_L] at h_R h_R1
      have h_R2 : τ3 54 1 = 0 := h_R1
      rw [if_neg (fun z => h_C z.1)]
      · refine j_istore2 G dX2_findTwoWays_61 (by decide) rfl ?_
        first | refine j_aload_n G dX2_findTwoWays_62 rfl ?_ | refine j_aload_nN G dX2_findTwoWays_62 rfl ?_
        refine j_getr G fl_X2_30 dX2_findTwoWays_63 (by first | exact rfl | assumption) (by rfl) ?_
        refine j_geti G fl_X2_33 dX2_findTwoWays_66 1 rfl (by first | exact rfl | assumption) (by rfl) (fun r_66 => ?_)
        try simp (disch := omega) only [up_same, up_cell, up_idx, cpm_at, fil_at] at r_66 ⊢
        rw [h_R2]
        refine j_iconst G dX2_findTwoWays_69 ?_
        refine j_icmp_ne G dX2_findTwoWays_70 (tgt := 97) (by decide) (by omega) (by omega) (fun c_70 => ?_) (fun c_70 => ?_)
        · refine j_iconst G dX2_findTwoWays_97 ?_
          refine j_goto G dX2_findTwoWays_98 (tgt := 102) (by decide) ?_
          refine j_istore3 G dX2_findTwoWays_102 (by decide) rfl ?_
          refine j_iload_n G dX2_findTwoWays_103 rfl ?_
          refine j_sipush G dX2_findTwoWays_104 (by decide) ?_
          refine j_icmp_ge G dX2_findTwoWays_107 (tgt := 146) (by decide) (by omega) (by omega) (fun c_107 => ?_) (fun c_107 => ?_)
          · refine j_return G dX2_findTwoWays_146 ?_
            first
            | (rw [if_neg (fun h => absurd (h_z3.2 h) (by omega))]; exact ⟨rfl, h_o7, h_R, by decide⟩)
            | omega
          · refine j_iload_n G dX2_findTwoWays_110 rfl ?_
            refine j_if_eq G dX2_findTwoWays_111 (tgt := 146) (by decide) (by omega) (fun c_111 => ?_) (fun c_111 => ?_)
            · refine j_return G dX2_findTwoWays_146 ?_
              first
              | (rw [if_neg (fun h => absurd (h_z3.2 h) (by omega))]; exact ⟨rfl, h_o7, h_R, by decide⟩)
              | omega
            · refine j_pc (p2 := 114) rfl ?_
              rw [if_pos (h_z3.1 c_107)]
              exact h_end c_107 _
        · omega
  · first | refine j_aload_n G dX2_findTwoWays_21 rfl ?_ | refine j_aload_nN G dX2_findTwoWays_21 rfl ?_
    refine j_getr G fl_X2_24 dX2_findTwoWays_22 (by first | exact rfl | assumption) (by rfl) ?_
    refine j_iload_n G dX2_findTwoWays_25 rfl ?_
    refine j_iaload G dX2_findTwoWays_26 (by first | exact rfl | assumption) (by omega) (fun r_26 => ?_)
    try simp (disch := omega) only [up_same, up_cell, up_idx, cpm_at, fil_at] at r_26 ⊢
    rw [h_sv (by omega)]
    refine j_iconst G dX2_findTwoWays_27 ?_
    refine j_icmp_le G dX2_findTwoWays_28 (tgt := 41) (by decide) (by omega) (by omega) (fun c_28 => ?_) (fun c_28 => ?_)
    · refine j_iinc2 G dX2_findTwoWays_41 (by decide) rfl rfl ?_
      refine j_goto G dX2_findTwoWays_44 (tgt := 15) (by decide) ?_
      refine j_pc (p2 := 15) rfl ?_
      refine ih (by omega) (fun u h_u => ?_)
      by_cases h_e : u = v + 1
      · rw [h_e]
        omega
      · exact h_no u (by omega)
    · first | refine j_aload_n G dX2_findTwoWays_31 rfl ?_ | refine j_aload_nN G dX2_findTwoWays_31 rfl ?_
      refine j_getr G fl_X2_30 dX2_findTwoWays_32 (by first | exact rfl | assumption) (by rfl) ?_
      refine j_iload_n G dX2_findTwoWays_35 rfl ?_
      refine j_callV G mv_X2_78 dX2_findTwoWays_36 (p_addR 54 55 14 ((v : Int) + 1) [] (by omega) rfl rfl (by decide) h_R0 (by decide)) (by first | exact rfl | assumption) (by decide) (by rfl) rfl rfl (by exact Nat.le_of_ble_eq_true rfl) (by decide) (kP (fun y τ2 h_y => ?_))
      refine j_pop G dX2_findTwoWays_39 rfl ?_
      refine j_return G dX2_findTwoWays_40 ?_
      have h_tw := twS_1 (v := v + 1) (by omega) c_28 h_no
      rw [h_tw]
      exact ⟨rfl, h_o3.tr (h_y.1.wk (fun j h => by omega)), h_y.2, by show 1 ≤ 14; decide⟩
def wyS (w : TW) (i : Int) : Int := if i = -1 then (twS w).length else rowAt (twS w) i
theorem c_ways (c : Nat) (i : Int) (h_i : (-2147483648 ≤ i ∧ i < 2147483648)) (h_c : c < 5) (h_w : TWok w) (h_t : TC σ c w) : CT (EC x) 4 yX11_ways [rf (EC x) 0, iv c, iv i] σ (rP (fun z τ => z = wyS w i ∧ KC σ τ)) := by
  unfold wyS
  refine CT.ofJ (own := RX11) (cc := cX11_ways) (n := 4) (ret := (some .int)) (by decide) rfl cw_X11_ways (by decide) (Nat.le_of_ble_eq_true rfl) (ls := [some (rf (EC x) 0), some (iv c), some (iv i), none]) rfl ?_
  intro X G
  first | refine j_aload_n G dX11_ways_0 rfl ?_ | refine j_aload_nN G dX11_ways_0 rfl ?_
  refine j_iload_n G dX11_ways_1 rfl ?_
  refine j_callV G mv_X11_88 dX11_ways_2 (c_codeAt c h_c) (by first | exact rfl | assumption) (by decide) (by rfl) rfl rfl (by exact Nat.le_of_ble_eq_true rfl) (by decide) (kV ?_)
  first | refine j_astore3 G dX11_ways_5 (by decide) rfl ?_ | refine j_astoreN3 G dX11_ways_5 (by decide) rfl ?_
  first | refine j_aload_n G dX11_ways_6 rfl ?_ | refine j_aload_nN G dX11_ways_6 rfl ?_
  refine j_ifnonnull G dX11_ways_7 (tgt := 12) (by decide) ?_
  first | refine j_aload_n G dX11_ways_12 rfl ?_ | refine j_aload_nN G dX11_ways_12 rfl ?_
  refine j_getr G fl_X11_41 dX11_ways_13 (by first | exact rfl | assumption) (by rfl) ?_
  first | refine j_aload_n G dX11_ways_16 rfl ?_ | refine j_aload_nN G dX11_ways_16 rfl ?_
  refine j_callV G mv_X11_150 dX11_ways_17 (c_findTwoWays c h_c h_w h_t) (by first | exact rfl | assumption) (by decide) (by rfl) rfl rfl (by exact Nat.le_of_ble_eq_true rfl) (by decide) (kM (fun τ h_1 => ?_))
  obtain ⟨h_o, h_R, h_l⟩ := h_1
  have h_kc : KC σ τ := h_o.wk (fun j h => by unfold scC; omega)
  have h_R1 := h_R.1
  refine j_iload_n G dX11_ways_20 rfl ?_
  refine j_pc (p2 := 21) rfl ?_
  refine j_iconst G dX11_ways_21 ?_
  refine j_icmp_ne G dX11_ways_22 (tgt := 38) (by decide) (by omega) (by omega) (fun c_22 => ?_) (fun c_22 => ?_)
  · first | refine j_aload_n G dX11_ways_38 rfl ?_ | refine j_aload_nN G dX11_ways_38 rfl ?_
    refine j_getr G fl_X11_41 dX11_ways_39 (by first | exact rfl | assumption) (by rfl) ?_
    refine j_getr G fl_X11_154 dX11_ways_42 (by first | exact rfl | assumption) (by rfl) ?_
    refine j_iload_n G dX11_ways_45 rfl ?_
    refine j_callV G mv_X11_136 dX11_ways_46 (p_at 54 55 14 i h_i rfl rfl (by decide) (by omega)) (by first | exact rfl | assumption) (by decide) (by rfl) rfl rfl (by exact Nat.le_of_ble_eq_true rfl) (by decide) (kI ?_)
    refine j_ireturn G dX11_ways_49 ?_
    first
    | exact ⟨_, rfl, by rw [if_pos (by omega)]; exact h_R1, h_kc⟩
    | exact ⟨_, rfl, by rw [h_R.at, if_neg (by omega)], h_kc⟩
  · first | refine j_aload_n G dX11_ways_25 rfl ?_ | refine j_aload_nN G dX11_ways_25 rfl ?_
    refine j_getr G fl_X11_41 dX11_ways_26 (by first | exact rfl | assumption) (by rfl) ?_
    refine j_getr G fl_X11_154 dX11_ways_29 (by first | exact rfl | assumption) (by rfl) ?_
    refine j_geti G fl_X11_119 dX11_ways_32 1 rfl (by first | exact rfl | assumption) (by rfl) (fun r_32 => ?_)
    try simp (disch := omega) only [up_same, up_cell, up_idx, cpm_at, fil_at] at r_32 ⊢
    refine j_goto G dX11_ways_35 (tgt := 49) (by decide) ?_
    refine j_ireturn G dX11_ways_49 ?_
    first
    | exact ⟨_, rfl, by rw [if_pos (by omega)]; exact h_R1, h_kc⟩
    | exact ⟨_, rfl, by rw [h_R.at, if_neg (by omega)], h_kc⟩
theorem c_waysN (c i : Int) (h_1 : (-2147483648 ≤ c ∧ c < 2147483648)) (h_c : ¬ (0 ≤ c ∧ c ≤ 4)) : CT (EC x) 4 yX11_ways [rf (EC x) 0, iv c, iv i] σ (rI (-1) σ) := by
  refine CT.ofJ (own := RX11) (cc := cX11_ways) (n := 4) (ret := (some .int)) (by decide) rfl cw_X11_ways (by decide) (Nat.le_of_ble_eq_true rfl) (ls := [some (rf (EC x) 0), some (iv c), some (iv i), none]) rfl ?_
  intro X G
  first | refine j_aload_n G dX11_ways_0 rfl ?_ | refine j_aload_nN G dX11_ways_0 rfl ?_
  refine j_iload_n G dX11_ways_1 rfl ?_
  refine j_callV G mv_X11_88 dX11_ways_2 (c_codeAtN c h_1 h_c) (by first | exact rfl | assumption) (by decide) (by rfl) rfl rfl (by exact Nat.le_of_ble_eq_true rfl) (by decide) (kV ?_)
  first | refine j_astore3 G dX11_ways_5 (by decide) rfl ?_ | refine j_astoreN3 G dX11_ways_5 (by decide) rfl ?_
  first | refine j_aload_n G dX11_ways_6 rfl ?_ | refine j_aload_nN G dX11_ways_6 rfl ?_
  refine j_ifnonnullN G dX11_ways_7 ?_
  refine j_iconst G dX11_ways_10 ?_
  refine j_ireturn G dX11_ways_11 ?_
  exact ⟨rfl, rfl⟩
end TB
