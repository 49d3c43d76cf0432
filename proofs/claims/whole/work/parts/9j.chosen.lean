section CH
variable {E : EE} {x x1 x2 : CX} {μ σ τ : MemT}
theorem c_chooseRows (b n m c k : Nat) (h_b : b < 8) (h_n : σ 57 3 = n) (h_c : c < 5) (h_wc : WfCode σ c) (h_ww : WfWord σ) (h_wr : WfRow σ) (h_m : RoO σ m) (h_k : k ≤ 12) : CT (EC x) 4 yX0_chooseRows [rf (EC x) 56, iv b, rf (EC x) (2 + 7 * c), iv k] σ (rP (fun y τ2 => Ons scB σ τ2 ∧ ∃ U : Nat, U < 2 ^ m ∧ (∀ r, U.testBit r = true ↔ usP σ b m n r) ∧ ((y = -6 ∧ ∀ R, sub R U → ¬ gdO (fun S => twN σ b c m S n) k R) ∨ ∃ S : Nat, y = S ∧ τ2 76 S = twN σ b c m S n ∧ opO (fun S => twN σ b c m S n) k (fun R => sub R U) S))) := by
  have h_2m : 2 ^ m ≤ 2 ^ 12 := Nat.pow_le_pow_right (by decide) h_m.2.1
  have h_tr := fun S => twN_rg (c := c) h_b h_ww h_n h_m S n (Nat.le_refl _)
  generalize h_TT : (fun S => twN σ b c m S n) = T
  have h_T1 : ∀ S, twN σ b c m S n = T S := fun S => congrFun h_TT S
  have h_Tr : ∀ S, 0 ≤ T S ∧ T S ≤ 268435456 := fun S => by rw [← h_T1]; have := h_tr S; omega
  refine CT.ofJ (own := RX0) (cc := cX0_chooseRows) (n := 13) (ret := (some .int)) (by decide) rfl cw_X0_chooseRows (by decide) (Nat.le_of_ble_eq_true rfl) (ls := [some (rf (EC x) 56), some (iv b), some (rf (EC x) (2 + 7 * c)), some (iv k), none, none, none, none, none, none, none, none, none]) rfl ?_
  intro X G
  first | refine j_aload_n G dX0_chooseRows_0 rfl ?_ | refine j_aload_nN G dX0_chooseRows_0 rfl ?_
  refine j_iload_n G dX0_chooseRows_1 rfl ?_
  refine j_callV G mv_X0_73 dX0_chooseRows_2 (c_usefulRows (σ := σ) b n m h_b h_n h_ww h_wr h_m) (by first | exact rfl | assumption) (by decide) (by rfl) rfl rfl (by exact Nat.le_of_ble_eq_true rfl) (by first | decide | omega) (kP (fun y τ1 h_y => ?_))
  obtain ⟨U, rfl, h_U, h_Ub, h_o1⟩ := h_y
  have h_gU : goS σ m U := fun r h_r => by obtain ⟨w, -, -, h_1, h_2, -⟩ := (h_Ub r).1 h_r; exact ⟨h_1, h_2⟩
  have h_U4 : U < 4096 := by omega
  have h_pU := popN_le U 12
  have h_sl := shl32_one (popN U 12) (by omega)
  have h_2p : 2 ^ popN U 12 ≤ 2 ^ 12 := Nat.pow_le_pow_right (by decide) h_pU
  have h_lt4 : ∀ i, pd 12 U i ≤ U := fun i => sub_le 12 _ _ h_U4 (pd_sub 12 U i)
  refine j_istore4 G dX0_chooseRows_5 (by decide) rfl ?_
  refine j_iconst G dX0_chooseRows_7 ?_
  refine j_iload G dX0_chooseRows_8 rfl ?_
  refine j_callS G ms_X0_76 dX0_chooseRows_10 (x_bitCount (U : Int)) rfl rfl (by exact Nat.le_of_ble_eq_true rfl) (by first | decide | omega) (kI ?_)
  rw [bcF_pop U (by omega), show ((pop U : Nat) : Int) = (popN U 12 : Nat) from rfl]
  refine j_ishl G dX0_chooseRows_13 ?_
  rw [h_sl]
  refine j_istore5 G dX0_chooseRows_14 (by decide) rfl ?_
  first | refine j_aload_n G dX0_chooseRows_16 rfl ?_ | refine j_aload_nN G dX0_chooseRows_16 rfl ?_
  refine j_iload_n G dX0_chooseRows_17 rfl ?_
  refine j_pc (p2 := 18) rfl ?_
  first | refine j_aload_n G dX0_chooseRows_18 rfl ?_ | refine j_aload_nN G dX0_chooseRows_18 rfl ?_
  refine j_iload G dX0_chooseRows_19 rfl ?_
  refine j_iload_n G dX0_chooseRows_21 rfl ?_
  refine j_callV G mv_X0_81 dX0_chooseRows_22 (c_sumSets (σ := σ) b n m c U k τ1 h_o1 h_b h_n h_c h_wc h_ww h_wr h_m h_gU h_k) (by first | exact rfl | assumption) (by decide) (by rfl) rfl rfl (by exact Nat.le_of_ble_eq_true rfl) (by first | decide | omega) (kM (fun τ2 h_2 => ?_))
  obtain ⟨h_o2, h_76⟩ := h_2
  have h_all : ∀ R, sub R U ↔ ∃ a, a < 2 ^ popN U 12 ∧ R = pd 12 U a := fun R => ⟨fun h => by obtain ⟨a, h_1, h_2⟩ := pd_all 12 U R h_U4 h; exact ⟨a, h_1, h_2.symm⟩, fun ⟨a, _, h_2⟩ => by rw [h_2]; exact pd_sub 12 U a⟩
  have h_inc : ∀ a i, a < i → i < 2 ^ popN U 12 → pd 12 U a < pd 12 U i := fun a i h_1 h_2 => pd_lt 12 U a i h_1 h_2
  generalize h_N : (2 ^ popN U 12 : Nat) = N at h_2p h_all h_inc ⊢
  refine j_bipush G dX0_chooseRows_25 (by decide) ?_
  refine j_istore6 G dX0_chooseRows_27 (by decide) rfl ?_
  refine j_ldc G kc_X0_64 dX0_chooseRows_29 (z := 268435456) (by decide) ?_
  refine j_istore7 G dX0_chooseRows_31 (by decide) rfl ?_
  refine j_iconst G dX0_chooseRows_33 ?_
  refine j_istore8 G dX0_chooseRows_34 (by decide) rfl ?_
  refine j_iconst G dX0_chooseRows_36 ?_
  refine j_istore9 G dX0_chooseRows_37 (by decide) rfl ?_
  refine j_pc (p2 := 39) rfl ?_
  refine j_iconst G dX0_chooseRows_39 ?_
  refine j_istore10 G dX0_chooseRows_40 (by decide) rfl ?_
  refine j_pc (p2 := 42) rfl ?_
  refine j_weak (ls' := [some (rf (EC x) 56), some (iv b), some (rf (EC x) (2 + 7 * c)), some (iv k), some (iv U), some (iv (N : Int)), some (iv (-6)), some (iv 268435456), some (iv 0), some (iv ((0 : Nat) : Int)), some (iv ((0 : Nat) : Int)), none, none]) ?_ ⟨rfl, rfl, rfl, rfl, rfl, rfl, rfl, rfl, rfl, rfl, rfl, trivial⟩
  refine down (Pr := fun i => ∀ best tot size sv : Int, (i < N → sv = (pd 12 U i : Nat)) → CSt T k (fun R => ∃ a, a < i ∧ R = pd 12 U a) best tot size → JJ (EC x) X 4 (rP (fun y τ2 => Ons scB σ τ2 ∧ ∃ U : Nat, U < 2 ^ m ∧ (∀ r, U.testBit r = true ↔ usP σ b m n r) ∧ ((y = -6 ∧ ∀ R, sub R U → ¬ gdO T k R) ∨ ∃ S : Nat, y = S ∧ τ2 76 S = twN σ b c m S n ∧ opO T k (fun R => sub R U) S))) 13 42 [some (rf (EC x) 56), some (iv b), some (rf (EC x) (2 + 7 * c)), some (iv k), some (iv U), some (iv (N : Int)), some (iv best), some (iv tot), some (iv size), some (iv sv), some (iv i), none, none] [] τ2) N ?_ 0 (Nat.zero_le _) (-6) 268435456 0 0 (fun _ => by rw [pd_0]; rfl) (Or.inl ⟨rfl, rfl, rfl, fun R ⟨a, h_a, _⟩ => absurd h_a (Nat.not_lt_zero _)⟩)
  intro i h_i ih best tot size sv h_sv h_st
  have h_rng : (-6 ≤ best ∧ best < 4096) ∧ (0 ≤ tot ∧ tot ≤ 268435456) ∧ 0 ≤ size ∧ size ≤ 12 := by
    rcases h_st with ⟨h_1, h_2, h_3, -⟩ | ⟨S, h_1, h_2, h_3, ⟨a, -, h_4⟩, -⟩
    · omega
    · have h_5 := h_Tr S
      have h_6 := popN_le S 12
      have h_7 := h_lt4 a
      rw [← h_4] at h_7
      omega
  refine j_iload G dX0_chooseRows_42 rfl ?_
  refine j_iload G dX0_chooseRows_44 rfl ?_
  refine j_icmp_ge G dX0_chooseRows_46 (tgt := 137) (by decide) (by omega) (by omega) (fun c_46 => ?_) (fun c_46 => ?_)
  · refine j_iload G dX0_chooseRows_137 rfl ?_
    refine j_ireturn G dX0_chooseRows_139 ?_
    obtain rfl : i = N := by omega
    refine ⟨best, rfl, h_o2, U, h_U, h_Ub, ?_⟩
    rcases h_st with ⟨h_1, h_2, h_3, h_4⟩ | ⟨S, h_1, h_2, h_3, h_4⟩
    · exact Or.inl ⟨h_1, fun R h_R => h_4 R ((h_all R).1 h_R)⟩
    · have h_5 := opO_cg T k (fun R => (h_all R).symm) h_4
      exact Or.inr ⟨S, h_1, h_76 S h_5.1 h_5.2.1.1, h_5⟩
  · have h_iN : i < N := by omega
    rw [h_sv h_iN]
    have h_sb := pd_sub 12 U i
    have h_le := h_lt4 i
    have h_ps := popN_le (pd 12 U i) 12
    have h_D : ∀ R, (∃ a, a < i + 1 ∧ R = pd 12 U a) ↔ ((∃ a, a < i ∧ R = pd 12 U a) ∨ R = pd 12 U i) := fun R => by
      constructor
      · rintro ⟨a, h_1, h_2⟩
        by_cases h_e : a = i
        · rw [h_e] at h_2
          exact Or.inr h_2
        · exact Or.inl ⟨a, by omega, h_2⟩
      · rintro (⟨a, h_1, h_2⟩ | h_1)
        · exact ⟨a, by omega, h_2⟩
        · exact ⟨i, by omega, h_1⟩
    have h_Nlt : ∀ R, (∃ a, a < i ∧ R = pd 12 U a) → R < pd 12 U i := fun R ⟨a, h_1, h_2⟩ => by rw [h_2]; exact h_inc a i h_1 h_iN
    have h_76i : popN (pd 12 U i) 12 ≤ k → τ2 76 (pd 12 U i : Nat) = T (pd 12 U i) := fun h => (h_76 _ h_sb h).trans (h_T1 _)
    have h_Ti := h_Tr (pd 12 U i)
    have h_122 : ∀ (best2 tot2 size2 : Int), CSt T k (fun R => (∃ a, a < i ∧ R = pd 12 U a) ∨ R = pd 12 U i) best2 tot2 size2 → ∀ l11 l12 : Int, JJ (EC x) X 4 (rP (fun y τ2 => Ons scB σ τ2 ∧ ∃ U : Nat, U < 2 ^ m ∧ (∀ r, U.testBit r = true ↔ usP σ b m n r) ∧ ((y = -6 ∧ ∀ R, sub R U → ¬ gdO T k R) ∨ ∃ S : Nat, y = S ∧ τ2 76 S = twN σ b c m S n ∧ opO T k (fun R => sub R U) S))) 13 122 [some (rf (EC x) 56), some (iv b), some (rf (EC x) (2 + 7 * c)), some (iv k), some (iv U), some (iv (N : Int)), some (iv best2), some (iv tot2), some (iv size2), some (iv (pd 12 U i : Nat)), some (iv i), some (iv l11), some (iv l12)] [] τ2 := by
      intro best2 tot2 size2 h_s2 l11 l12
      · refine j_iload G dX0_chooseRows_122 rfl ?_
        refine j_iload G dX0_chooseRows_124 rfl ?_
        refine j_callS G ms_X0_85 dX0_chooseRows_126 (c_nextSet (pd 12 U i : Nat) (U : Int)) rfl rfl (by exact Nat.le_of_ble_eq_true rfl) (by first | decide | omega) (kI ?_)
        refine j_istore9 G dX0_chooseRows_129 (by decide) rfl ?_
        refine j_iinc10 G dX0_chooseRows_131 (by decide) rfl rfl ?_
        refine j_goto G dX0_chooseRows_134 (tgt := 42) (by decide) ?_
        refine j_pc (p2 := 42) rfl ?_
        exact j_weak (ih h_iN best2 tot2 size2 _ (fun h_l => nxN_up h_U4 h_sb i rfl (by rw [h_N]; exact h_l)) (h_s2.cg T k h_D)) ⟨rfl, rfl, rfl, rfl, rfl, rfl, rfl, rfl, rfl, rfl, rfl, trivial⟩
    refine j_iload G dX0_chooseRows_49 rfl ?_
    refine j_callS G ms_X0_76 dX0_chooseRows_51 (x_bitCount ((pd 12 U i : Nat) : Int)) rfl rfl (by exact Nat.le_of_ble_eq_true rfl) (by first | decide | omega) (kI ?_)
    rw [bcF_pop (pd 12 U i) (by omega), show ((pop (pd 12 U i) : Nat) : Int) = (popN (pd 12 U i) 12 : Nat) from rfl]
    refine j_istore11 G dX0_chooseRows_54 (by decide) rfl ?_
    first | refine j_aload_n G dX0_chooseRows_56 rfl ?_ | refine j_aload_nN G dX0_chooseRows_56 rfl ?_
    refine j_getr G fl_X0_41 dX0_chooseRows_57 (by first | exact rfl | assumption) (by rfl) ?_
    refine j_iload G dX0_chooseRows_60 rfl ?_
    refine j_iaload G dX0_chooseRows_62 (by first | exact rfl | assumption) (by omega) (fun r_62 => ?_)
    try simp (disch := omega) only [up_same, up_cell, up_idx, cpm_at, fil_at] at r_62 ⊢
    refine j_iload G dX0_chooseRows_63 rfl ?_
    refine j_icmp_lt G dX0_chooseRows_65 (tgt := 87) (by decide) (by omega) (by omega) (fun c_65 => ?_) (fun c_65 => ?_)
    · refine j_pc (p2 := 87) rfl ?_
      by_cases h_pk : popN (pd 12 U i) 12 ≤ k
      · have h_v := h_76i h_pk
        have h_yes : T (pd 12 U i) < tot ∨ (T (pd 12 U i) = tot ∧ (popN (pd 12 U i) 12 : Int) < size) := by omega
        have h_s2 := h_st.y T k h_pk h_yes
        · refine j_iconst G dX0_chooseRows_87 ?_
          refine j_goto G dX0_chooseRows_88 (tgt := 92) (by decide) ?_
          refine j_istore12 G dX0_chooseRows_92 (by decide) rfl ?_
          refine j_iload G dX0_chooseRows_94 rfl ?_
          refine j_iload_n G dX0_chooseRows_96 rfl ?_
          refine j_icmp_gt G dX0_chooseRows_97 (tgt := 122) (by decide) (by omega) (by omega) (fun c_97 => ?_) (fun c_97 => ?_)
          · omega
          · refine j_iload G dX0_chooseRows_100 rfl ?_
            refine j_if_eq G dX0_chooseRows_102 (tgt := 122) (by decide) (by omega) (fun c_102 => ?_) (fun c_102 => ?_)
            · omega
            · refine j_iload G dX0_chooseRows_105 rfl ?_
              refine j_istore6 G dX0_chooseRows_107 (by decide) rfl ?_
              first | refine j_aload_n G dX0_chooseRows_109 rfl ?_ | refine j_aload_nN G dX0_chooseRows_109 rfl ?_
              refine j_getr G fl_X0_41 dX0_chooseRows_110 (by first | exact rfl | assumption) (by rfl) ?_
              refine j_iload G dX0_chooseRows_113 rfl ?_
              refine j_iaload G dX0_chooseRows_115 (by first | exact rfl | assumption) (by omega) (fun r_115 => ?_)
              try simp (disch := omega) only [up_same, up_cell, up_idx, cpm_at, fil_at] at r_115 ⊢
              rw [h_v]
              refine j_istore7 G dX0_chooseRows_116 (by decide) rfl ?_
              refine j_iload G dX0_chooseRows_118 rfl ?_
              refine j_istore8 G dX0_chooseRows_120 (by decide) rfl ?_
              refine j_pc (p2 := 122) rfl ?_
              exact h_122 _ _ _ h_s2 _ _
      · have h_s2 := h_st.n T k h_Nlt (fun z => absurd z h_pk) (fun z => absurd z h_pk)
        · refine j_iconst G dX0_chooseRows_87 ?_
          refine j_goto G dX0_chooseRows_88 (tgt := 92) (by decide) ?_
          refine j_istore12 G dX0_chooseRows_92 (by decide) rfl ?_
          refine j_iload G dX0_chooseRows_94 rfl ?_
          refine j_iload_n G dX0_chooseRows_96 rfl ?_
          refine j_icmp_gt G dX0_chooseRows_97 (tgt := 122) (by decide) (by omega) (by omega) (fun c_97 => ?_) (fun c_97 => ?_)
          · refine j_pc (p2 := 122) rfl ?_
            exact h_122 _ _ _ h_s2 _ _
          · omega
    · first | refine j_aload_n G dX0_chooseRows_68 rfl ?_ | refine j_aload_nN G dX0_chooseRows_68 rfl ?_
      refine j_getr G fl_X0_41 dX0_chooseRows_69 (by first | exact rfl | assumption) (by rfl) ?_
      refine j_iload G dX0_chooseRows_72 rfl ?_
      refine j_iaload G dX0_chooseRows_74 (by first | exact rfl | assumption) (by omega) (fun r_74 => ?_)
      try simp (disch := omega) only [up_same, up_cell, up_idx, cpm_at, fil_at] at r_74 ⊢
      refine j_iload G dX0_chooseRows_75 rfl ?_
      refine j_icmp_ne G dX0_chooseRows_77 (tgt := 91) (by decide) (by omega) (by omega) (fun c_77 => ?_) (fun c_77 => ?_)
      · refine j_pc (p2 := 91) rfl ?_
        have h_s2 := h_st.n T k h_Nlt (fun _ => h_Ti.2) (fun h_pk => by
          have h_v := h_76i h_pk
          omega)
        · refine j_iconst G dX0_chooseRows_91 ?_
          refine j_istore12 G dX0_chooseRows_92 (by decide) rfl ?_
          refine j_iload G dX0_chooseRows_94 rfl ?_
          refine j_iload_n G dX0_chooseRows_96 rfl ?_
          refine j_icmp_gt G dX0_chooseRows_97 (tgt := 122) (by decide) (by omega) (by omega) (fun c_97 => ?_) (fun c_97 => ?_)
          · refine j_pc (p2 := 122) rfl ?_
            exact h_122 _ _ _ h_s2 _ _
          · refine j_iload G dX0_chooseRows_100 rfl ?_
            refine j_if_eq G dX0_chooseRows_102 (tgt := 122) (by decide) (by omega) (fun c_102 => ?_) (fun c_102 => ?_)
            · refine j_pc (p2 := 122) rfl ?_
              exact h_122 _ _ _ h_s2 _ _
            · omega
      · refine j_iload G dX0_chooseRows_80 rfl ?_
        refine j_iload G dX0_chooseRows_82 rfl ?_
        refine j_icmp_ge G dX0_chooseRows_84 (tgt := 91) (by decide) (by omega) (by omega) (fun c_84 => ?_) (fun c_84 => ?_)
        · refine j_pc (p2 := 91) rfl ?_
          have h_s2 := h_st.n T k h_Nlt (fun _ => h_Ti.2) (fun h_pk => by
            have h_v := h_76i h_pk
            omega)
          · refine j_iconst G dX0_chooseRows_91 ?_
            refine j_istore12 G dX0_chooseRows_92 (by decide) rfl ?_
            refine j_iload G dX0_chooseRows_94 rfl ?_
            refine j_iload_n G dX0_chooseRows_96 rfl ?_
            refine j_icmp_gt G dX0_chooseRows_97 (tgt := 122) (by decide) (by omega) (by omega) (fun c_97 => ?_) (fun c_97 => ?_)
            · refine j_pc (p2 := 122) rfl ?_
              exact h_122 _ _ _ h_s2 _ _
            · refine j_iload G dX0_chooseRows_100 rfl ?_
              refine j_if_eq G dX0_chooseRows_102 (tgt := 122) (by decide) (by omega) (fun c_102 => ?_) (fun c_102 => ?_)
              · refine j_pc (p2 := 122) rfl ?_
                exact h_122 _ _ _ h_s2 _ _
              · omega
        · refine j_pc (p2 := 87) rfl ?_
          by_cases h_pk : popN (pd 12 U i) 12 ≤ k
          · have h_v := h_76i h_pk
            have h_yes : T (pd 12 U i) < tot ∨ (T (pd 12 U i) = tot ∧ (popN (pd 12 U i) 12 : Int) < size) := by omega
            have h_s2 := h_st.y T k h_pk h_yes
            · refine j_iconst G dX0_chooseRows_87 ?_
              refine j_goto G dX0_chooseRows_88 (tgt := 92) (by decide) ?_
              refine j_istore12 G dX0_chooseRows_92 (by decide) rfl ?_
              refine j_iload G dX0_chooseRows_94 rfl ?_
              refine j_iload_n G dX0_chooseRows_96 rfl ?_
              refine j_icmp_gt G dX0_chooseRows_97 (tgt := 122) (by decide) (by omega) (by omega) (fun c_97 => ?_) (fun c_97 => ?_)
              · omega
              · refine j_iload G dX0_chooseRows_100 rfl ?_
                refine j_if_eq G dX0_chooseRows_102 (tgt := 122) (by decide) (by omega) (fun c_102 => ?_) (fun c_102 => ?_)
                · omega
                · refine j_iload G dX0_chooseRows_105 rfl ?_
                  refine j_istore6 G dX0_chooseRows_107 (by decide) rfl ?_
                  first | refine j_aload_n G dX0_chooseRows_109 rfl ?_ | refine j_aload_nN G dX0_chooseRows_109 rfl ?_
                  refine j_getr G fl_X0_41 dX0_chooseRows_110 (by first | exact rfl | assumption) (by rfl) ?_
                  refine j_iload G dX0_chooseRows_113 rfl ?_
                  refine j_iaload G dX0_chooseRows_115 (by first | exact rfl | assumption) (by omega) (fun r_115 => ?_)
                  try simp (disch := omega) only [up_same, up_cell, up_idx, cpm_at, fil_at] at r_115 ⊢
                  rw [h_v]
                  refine j_istore7 G dX0_chooseRows_116 (by decide) rfl ?_
                  refine j_iload G dX0_chooseRows_118 rfl ?_
                  refine j_istore8 G dX0_chooseRows_120 (by decide) rfl ?_
                  refine j_pc (p2 := 122) rfl ?_
                  exact h_122 _ _ _ h_s2 _ _
          · have h_s2 := h_st.n T k h_Nlt (fun z => absurd z h_pk) (fun z => absurd z h_pk)
            · refine j_iconst G dX0_chooseRows_87 ?_
              refine j_goto G dX0_chooseRows_88 (tgt := 92) (by decide) ?_
              refine j_istore12 G dX0_chooseRows_92 (by decide) rfl ?_
              refine j_iload G dX0_chooseRows_94 rfl ?_
              refine j_iload_n G dX0_chooseRows_96 rfl ?_
              refine j_icmp_gt G dX0_chooseRows_97 (tgt := 122) (by decide) (by omega) (by omega) (fun c_97 => ?_) (fun c_97 => ?_)
              · refine j_pc (p2 := 122) rfl ?_
                exact h_122 _ _ _ h_s2 _ _
              · omega
theorem c_chosen (b n m c k : Nat) (what : Int) (h_wh : 0 ≤ what ∧ what ≤ 1) (h_b : b < 8) (h_n : σ 57 3 = n) (h_c : c < 5) (h_wc : WfCode σ c) (h_ww : WfWord σ) (h_wr : WfRow σ) (h_m : RoO σ m) (h_k : k ≤ 12) : CT (EC x) 5 yX11_chosen [rf (EC x) 0, iv b, iv c, iv k, iv what] σ (rP (fun y τ2 => KC σ τ2 ∧ ((y = -5 ∧ ¬ ∃ S, opO (fun S => twN σ b c m S n) k (fun R => R < 2 ^ m) S) ∨ ∃ S : Nat, (y = if what = 0 then (S : Int) else twN σ b c m S n) ∧ ((∃ R, opO (fun S => twN σ b c m S n) k (fun R => R < 2 ^ m) R) → opO (fun S => twN σ b c m S n) k (fun R => R < 2 ^ m) S) ∧ gdO (fun S => twN σ b c m S n) k S ∧ S < 2 ^ m))) := by
  have h_2m : 2 ^ m ≤ 2 ^ 12 := Nat.pow_le_pow_right (by decide) h_m.2.1
  refine CT.ofJ (own := RX11) (cc := cX11_chosen) (n := 7) (ret := (some .int)) (by decide) rfl cw_X11_chosen (by decide) (Nat.le_of_ble_eq_true rfl) (ls := [some (rf (EC x) 0), some (iv b), some (iv c), some (iv k), some (iv what), none, none]) rfl ?_
  intro X G
  first | refine j_aload_n G dX11_chosen_0 rfl ?_ | refine j_aload_nN G dX11_chosen_0 rfl ?_
  refine j_iload_n G dX11_chosen_1 rfl ?_
  refine j_callV G mv_X11_88 dX11_chosen_2 (c_codeAt c h_c) (by first | exact rfl | assumption) (by decide) (by rfl) rfl rfl (by exact Nat.le_of_ble_eq_true rfl) (by first | decide | omega) (kV ?_)
  first | refine j_astore5 G dX11_chosen_5 (by decide) rfl ?_ | refine j_astoreN5 G dX11_chosen_5 (by decide) rfl ?_
  first | refine j_aload G dX11_chosen_7 rfl ?_ | refine j_aloadN G dX11_chosen_7 rfl ?_
  refine j_ifnull G dX11_chosen_9 ?_
  refine j_iload_n G dX11_chosen_12 rfl ?_
  refine j_iconst G dX11_chosen_13 ?_
  refine j_bipush G dX11_chosen_14 (by decide) ?_
  refine j_callS G ms_X11_92 dX11_chosen_16 (x_within _ _ _ (by omega) (by omega) (by omega)) rfl rfl (by exact Nat.le_of_ble_eq_true rfl) (by first | decide | omega) (kI ?_)
  refine j_if_neB G dX11_chosen_19 (tgt := 24) (by decide)  (fun c_19 => ?_) (fun c_19 => ?_)
  · refine j_iload_n G dX11_chosen_24 rfl ?_
    refine j_iconst G dX11_chosen_25 ?_
    refine j_bipush G dX11_chosen_26 (by decide) ?_
    refine j_callS G ms_X11_92 dX11_chosen_28 (x_within _ _ _ (by omega) (by omega) (by omega)) rfl rfl (by exact Nat.le_of_ble_eq_true rfl) (by first | decide | omega) (kI ?_)
    refine j_if_eqB G dX11_chosen_31 (tgt := 44) (by decide)  (fun c_31 => ?_) (fun c_31 => ?_)
    · refine j_bipush G dX11_chosen_44 (by decide) ?_
      refine j_ireturn G dX11_chosen_46 ?_
      omega
    · refine j_iload G dX11_chosen_34 rfl ?_
      refine j_iconst G dX11_chosen_36 ?_
      refine j_iconst G dX11_chosen_37 ?_
      refine j_callS G ms_X11_92 dX11_chosen_38 (x_within _ _ _ (by omega) (by omega) (by omega)) rfl rfl (by exact Nat.le_of_ble_eq_true rfl) (by first | decide | omega) (kI ?_)
      refine j_if_neB G dX11_chosen_41 (tgt := 47) (by decide)  (fun c_41 => ?_) (fun c_41 => ?_)
      · first | refine j_aload_n G dX11_chosen_47 rfl ?_ | refine j_aload_nN G dX11_chosen_47 rfl ?_
        refine j_getr G fl_X11_50 dX11_chosen_48 (by first | exact rfl | assumption) (by rfl) ?_
        refine j_iload_n G dX11_chosen_51 rfl ?_
        first | refine j_aload G dX11_chosen_52 rfl ?_ | refine j_aloadN G dX11_chosen_52 rfl ?_
        refine j_iload_n G dX11_chosen_54 rfl ?_
        refine j_callV G mv_X11_190 dX11_chosen_55 (c_chooseRows b n m c k h_b h_n h_c h_wc h_ww h_wr h_m h_k) (by first | exact rfl | assumption) (by decide) (by rfl) rfl rfl (by exact Nat.le_of_ble_eq_true rfl) (by first | decide | omega) (kP (fun y τ h_y => ?_))
        obtain ⟨h_o, U, h_U, h_Ub, h_res⟩ := h_y
        have h_kc : KC σ τ := h_o.wk (fun j h => by unfold scB at h; unfold scC; omega)
        have h_subm : ∀ R, sub R U → R < 2 ^ m := fun R h => Nat.lt_of_le_of_lt (sub_le m R U h_U h) h_U
        refine j_istore6 G dX11_chosen_58 (by decide) rfl ?_
        refine j_pc (p2 := 60) rfl ?_
        rcases h_res with ⟨h_1, h_2⟩ | ⟨S, h_1, h_2, h_3⟩
        · rw [h_1]
          · refine j_iload G dX11_chosen_60 rfl ?_
            refine j_if_ge G dX11_chosen_62 (tgt := 68) (by decide) (by omega) (fun c_62 => ?_) (fun c_62 => ?_)
            · omega
            · refine j_bipush G dX11_chosen_65 (by decide) ?_
              refine j_ireturn G dX11_chosen_67 ?_
              exact ⟨-5, rfl, h_kc, Or.inl ⟨rfl, fun ⟨S, h_S⟩ => h_2 S (opO_sub h_m h_Ub h_S) h_S.2.1⟩⟩
        · rw [h_1]
          have h_S4 := h_subm S h_3.1
          have h_up : (∃ R, opO (fun S => twN σ b c m S n) k (fun R => R < 2 ^ m) R) → opO (fun S => twN σ b c m S n) k (fun R => R < 2 ^ m) S := fun ⟨R, h_R⟩ => by
            have h_4 : opO (fun S => twN σ b c m S n) k (fun R => sub R U) R := ⟨opO_sub h_m h_Ub h_R, h_R.2.1, fun Q h_Q h_g => h_R.2.2 Q (h_subm Q h_Q) h_g⟩
            rw [opO_u _ k h_3 h_4]
            exact h_R
          · refine j_iload G dX11_chosen_60 rfl ?_
            refine j_if_ge G dX11_chosen_62 (tgt := 68) (by decide) (by omega) (fun c_62 => ?_) (fun c_62 => ?_)
            · refine j_iload G dX11_chosen_68 rfl ?_
              refine j_if_ne G dX11_chosen_70 (tgt := 78) (by decide) (by omega) (fun c_70 => ?_) (fun c_70 => ?_)
              · first | refine j_aload_n G dX11_chosen_78 rfl ?_ | refine j_aload_nN G dX11_chosen_78 rfl ?_
                refine j_getr G fl_X11_50 dX11_chosen_79 (by first | exact rfl | assumption) (by rfl) ?_
                refine j_getr G fl_X11_194 dX11_chosen_82 (by first | exact rfl | assumption) (by rfl) ?_
                refine j_iload G dX11_chosen_85 rfl ?_
                refine j_iaload G dX11_chosen_87 (by first | exact rfl | assumption) (by omega) (fun r_87 => ?_)
                try simp (disch := omega) only [up_same, up_cell, up_idx, cpm_at, fil_at] at r_87 ⊢
                refine j_ireturn G dX11_chosen_88 ?_
                first
                | exact ⟨_, rfl, h_kc, Or.inr ⟨S, by rw [if_pos (by omega)], h_up, h_3.2.1, h_S4⟩⟩
                | exact ⟨_, rfl, h_kc, Or.inr ⟨S, by rw [if_neg (by omega)]; exact h_2, h_up, h_3.2.1, h_S4⟩⟩
              · refine j_iload G dX11_chosen_73 rfl ?_
                refine j_goto G dX11_chosen_75 (tgt := 88) (by decide) ?_
                refine j_ireturn G dX11_chosen_88 ?_
                first
                | exact ⟨_, rfl, h_kc, Or.inr ⟨S, by rw [if_pos (by omega)], h_up, h_3.2.1, h_S4⟩⟩
                | exact ⟨_, rfl, h_kc, Or.inr ⟨S, by rw [if_neg (by omega)]; exact h_2, h_up, h_3.2.1, h_S4⟩⟩
            · omega
      · refine j_bipush G dX11_chosen_44 (by decide) ?_
        refine j_ireturn G dX11_chosen_46 ?_
        omega
  · refine j_iconst G dX11_chosen_22 ?_
    refine j_ireturn G dX11_chosen_23 ?_
    omega
theorem c_chosenN1 (b k what : Int) (c : Nat) (h_c : c < 5) (h_1 : (-2147483648 ≤ b ∧ b < 2147483648)) (h_N : ¬ (0 ≤ b ∧ b ≤ 7)) : CT (EC x) 5 yX11_chosen [rf (EC x) 0, iv b, iv c, iv k, iv what] σ (rI (-1) σ) := by
  refine CT.ofJ (own := RX11) (cc := cX11_chosen) (n := 7) (ret := (some .int)) (by decide) rfl cw_X11_chosen (by decide) (Nat.le_of_ble_eq_true rfl) (ls := [some (rf (EC x) 0), some (iv b), some (iv c), some (iv k), some (iv what), none, none]) rfl ?_
  intro X G
  first | refine j_aload_n G dX11_chosen_0 rfl ?_ | refine j_aload_nN G dX11_chosen_0 rfl ?_
  refine j_iload_n G dX11_chosen_1 rfl ?_
  refine j_callV G mv_X11_88 dX11_chosen_2 (c_codeAt c h_c) (by first | exact rfl | assumption) (by decide) (by rfl) rfl rfl (by exact Nat.le_of_ble_eq_true rfl) (by first | decide | omega) (kV ?_)
  first | refine j_astore5 G dX11_chosen_5 (by decide) rfl ?_ | refine j_astoreN5 G dX11_chosen_5 (by decide) rfl ?_
  first | refine j_aload G dX11_chosen_7 rfl ?_ | refine j_aloadN G dX11_chosen_7 rfl ?_
  refine j_ifnull G dX11_chosen_9 ?_
  refine j_iload_n G dX11_chosen_12 rfl ?_
  refine j_iconst G dX11_chosen_13 ?_
  refine j_bipush G dX11_chosen_14 (by decide) ?_
  refine j_callS G ms_X11_92 dX11_chosen_16 (x_within _ _ _ (by omega) (by omega) (by omega)) rfl rfl (by exact Nat.le_of_ble_eq_true rfl) (by first | decide | omega) (kI ?_)
  refine j_if_neB G dX11_chosen_19 (tgt := 24) (by decide)  (fun c_19 => ?_) (fun c_19 => ?_)
  · omega
  · refine j_iconst G dX11_chosen_22 ?_
    refine j_ireturn G dX11_chosen_23 ?_
    exact ⟨rfl, rfl⟩
theorem c_chosenN2 (b c k what : Int) (h_2 : (-2147483648 ≤ c ∧ c < 2147483648)) (h_c : ¬ (0 ≤ c ∧ c ≤ 4)) : CT (EC x) 5 yX11_chosen [rf (EC x) 0, iv b, iv c, iv k, iv what] σ (rI (-1) σ) := by
  refine CT.ofJ (own := RX11) (cc := cX11_chosen) (n := 7) (ret := (some .int)) (by decide) rfl cw_X11_chosen (by decide) (Nat.le_of_ble_eq_true rfl) (ls := [some (rf (EC x) 0), some (iv b), some (iv c), some (iv k), some (iv what), none, none]) rfl ?_
  intro X G
  first | refine j_aload_n G dX11_chosen_0 rfl ?_ | refine j_aload_nN G dX11_chosen_0 rfl ?_
  refine j_iload_n G dX11_chosen_1 rfl ?_
  refine j_callV G mv_X11_88 dX11_chosen_2 (c_codeAtN c h_2 h_c) (by first | exact rfl | assumption) (by decide) (by rfl) rfl rfl (by exact Nat.le_of_ble_eq_true rfl) (by first | decide | omega) (kV ?_)
  first | refine j_astore5 G dX11_chosen_5 (by decide) rfl ?_ | refine j_astoreN5 G dX11_chosen_5 (by decide) rfl ?_
  first | refine j_aload G dX11_chosen_7 rfl ?_ | refine j_aloadN G dX11_chosen_7 rfl ?_
  refine j_ifnullN G dX11_chosen_9 (tgt := 22) (by decide) ?_
  refine j_iconst G dX11_chosen_22 ?_
  refine j_ireturn G dX11_chosen_23 ?_
  exact ⟨rfl, rfl⟩
theorem c_chosenO (b c : Nat) (k what : Int) (h_b : b < 8) (h_c : c < 5) (h_1 : (-2147483648 ≤ k ∧ k < 2147483648)) (h_2 : (-2147483648 ≤ what ∧ what < 2147483648)) (h_N : ¬ ((0 ≤ k ∧ k ≤ 12) ∧ 0 ≤ what ∧ what ≤ 1)) : CT (EC x) 5 yX11_chosen [rf (EC x) 0, iv b, iv c, iv k, iv what] σ (rI (-2) σ) := by
  refine CT.ofJ (own := RX11) (cc := cX11_chosen) (n := 7) (ret := (some .int)) (by decide) rfl cw_X11_chosen (by decide) (Nat.le_of_ble_eq_true rfl) (ls := [some (rf (EC x) 0), some (iv b), some (iv c), some (iv k), some (iv what), none, none]) rfl ?_
  intro X G
  first | refine j_aload_n G dX11_chosen_0 rfl ?_ | refine j_aload_nN G dX11_chosen_0 rfl ?_
  refine j_iload_n G dX11_chosen_1 rfl ?_
  refine j_callV G mv_X11_88 dX11_chosen_2 (c_codeAt c h_c) (by first | exact rfl | assumption) (by decide) (by rfl) rfl rfl (by exact Nat.le_of_ble_eq_true rfl) (by first | decide | omega) (kV ?_)
  first | refine j_astore5 G dX11_chosen_5 (by decide) rfl ?_ | refine j_astoreN5 G dX11_chosen_5 (by decide) rfl ?_
  first | refine j_aload G dX11_chosen_7 rfl ?_ | refine j_aloadN G dX11_chosen_7 rfl ?_
  refine j_ifnull G dX11_chosen_9 ?_
  refine j_iload_n G dX11_chosen_12 rfl ?_
  refine j_iconst G dX11_chosen_13 ?_
  refine j_bipush G dX11_chosen_14 (by decide) ?_
  refine j_callS G ms_X11_92 dX11_chosen_16 (x_within _ _ _ (by omega) (by omega) (by omega)) rfl rfl (by exact Nat.le_of_ble_eq_true rfl) (by first | decide | omega) (kI ?_)
  refine j_if_neB G dX11_chosen_19 (tgt := 24) (by decide)  (fun c_19 => ?_) (fun c_19 => ?_)
  · refine j_iload_n G dX11_chosen_24 rfl ?_
    refine j_iconst G dX11_chosen_25 ?_
    refine j_bipush G dX11_chosen_26 (by decide) ?_
    refine j_callS G ms_X11_92 dX11_chosen_28 (x_within _ _ _ (by omega) (by omega) (by omega)) rfl rfl (by exact Nat.le_of_ble_eq_true rfl) (by first | decide | omega) (kI ?_)
    refine j_if_eqB G dX11_chosen_31 (tgt := 44) (by decide)  (fun c_31 => ?_) (fun c_31 => ?_)
    · refine j_bipush G dX11_chosen_44 (by decide) ?_
      refine j_ireturn G dX11_chosen_46 ?_
      exact ⟨rfl, rfl⟩
    · refine j_iload G dX11_chosen_34 rfl ?_
      refine j_iconst G dX11_chosen_36 ?_
      refine j_iconst G dX11_chosen_37 ?_
      refine j_callS G ms_X11_92 dX11_chosen_38 (x_within _ _ _ (by omega) (by omega) (by omega)) rfl rfl (by exact Nat.le_of_ble_eq_true rfl) (by first | decide | omega) (kI ?_)
      refine j_if_neB G dX11_chosen_41 (tgt := 47) (by decide)  (fun c_41 => ?_) (fun c_41 => ?_)
      · omega
      · refine j_bipush G dX11_chosen_44 (by decide) ?_
        refine j_ireturn G dX11_chosen_46 ?_
        exact ⟨rfl, rfl⟩
  · omega
end CH
