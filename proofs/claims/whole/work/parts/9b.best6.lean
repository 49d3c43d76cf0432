theorem bo_0 {p : Nat → Bool} {m : Nat} : bo p m = 0 ↔ ¬ anyB p m = true := by
  rw [anyB_iff]
  constructor
  · rintro h ⟨i, h_1, h_2⟩
    have h_3 := bo_bit p i m
    rw [h, Nat.zero_testBit, decide_eq_true h_1, h_2] at h_3
    exact absurd h_3 (by decide)
  · intro h
    apply Nat.eq_of_testBit_eq
    intro i
    rw [bo_bit, Nat.zero_testBit]
    by_cases h_1 : i < m
    · rw [Bool.eq_false_iff.2 (fun z => h ⟨i, h_1, z⟩), Bool.and_false]
    · rw [decide_eq_false h_1, Bool.false_and]
section BX
variable {E : EE} {x x1 x2 : CX} {μ σ : MemT}
theorem m_lettersOf (p : Nat) (h_p : p < 7) (h_wp : WfPart σ) (h_rp : RePart σ μ) : CT (EM x) 0 yX12_lettersOf [rf (EM x) 0, iv p] μ (rI (bo (fun l => decide (σ 195 l = (p : Int))) 26) μ) := by
  refine CT.ofJ (own := RX12) (cc := cX12_lettersOf) (n := 4) (ret := (some .int)) (by decide) rfl cw_X12_lettersOf (by decide) (Nat.le_of_ble_eq_true rfl) (ls := [some (rf (EM x) 0), some (iv p), none, none]) rfl ?_
  intro X G
  refine j_iconst G dX12_lettersOf_0 ?_
  refine j_istore2 G dX12_lettersOf_1 (by decide) rfl ?_
  refine j_iconst G dX12_lettersOf_2 ?_
  refine j_istore3 G dX12_lettersOf_3 (by decide) rfl ?_
  refine j_pc (p2 := 4) rfl ?_
  refine down (Pr := fun i => JJ (EM x) X 0 (rI (bo (fun l => decide (σ 195 l = (p : Int))) 26) μ) 4 4 [some (rf (EM x) 0), some (iv p), some (iv (bo (fun l => decide (σ 195 l = (p : Int))) i)), some (iv i)] [] μ) 26 ?_ 0 (Nat.zero_le _)
  intro i h_i ih
  have h_bl := bo_lt (fun l => decide (σ 195 l = (p : Int))) i
  have h_2i : 2 ^ i ≤ 2 ^ 26 := Nat.pow_le_pow_right (by decide) h_i
  have h_sl := shl32_one i (by omega)
  have h_pi := h_rp i (by omega)
  have h_wi := h_wp i (by omega)
  have h_bs : bo (fun l => decide (σ 195 l = (p : Int))) (i + 1) = bo (fun l => decide (σ 195 l = (p : Int))) i ||| (if decide (σ 195 i = (p : Int)) = true then 2 ^ i else 0) := rfl
  generalize h_A : bo (fun l => decide (σ 195 l = (p : Int))) i = A at h_bl h_bs ⊢
  refine j_iload_n G dX12_lettersOf_4 rfl ?_
  refine j_bipush G dX12_lettersOf_5 (by decide) ?_
  refine j_icmp_ge G dX12_lettersOf_7 (tgt := 36) (by decide) (by omega) (by omega) (fun c_7 => ?_) (fun c_7 => ?_)
  · refine j_iload_n G dX12_lettersOf_36 rfl ?_
    refine j_ireturn G dX12_lettersOf_37 ?_
    obtain rfl : i = 26 := by omega
    exact ⟨by rw [h_A], rfl⟩
  · have h_pj := h_pi (by omega)
    have h_wj := h_wi (by omega)
    refine j_iload_n G dX12_lettersOf_10 rfl ?_
    first | refine j_aload_n G dX12_lettersOf_11 rfl ?_ | refine j_aload_nN G dX12_lettersOf_11 rfl ?_
    refine j_getr G fl_X12_104 dX12_lettersOf_12 (by first | exact rfl | assumption) (by rfl) ?_
    refine j_iload_n G dX12_lettersOf_15 rfl ?_
    refine j_iaload G dX12_lettersOf_16 (by first | exact rfl | assumption) (by omega) (fun r_16 => ?_)
    try simp (disch := omega) only [up_same, up_cell, up_idx, cpm_at, fil_at] at r_16 ⊢
    rw [h_pj] at *
    refine j_iload_n G dX12_lettersOf_17 rfl ?_
    refine j_icmp_ne G dX12_lettersOf_18 (tgt := 27) (by decide) (by split <;> omega) (by omega) (fun c_18 => ?_) (fun c_18 => ?_)
    · have h_ne : ¬ σ 195 i = (p : Int) := fun z => by rw [if_neg (by omega)] at c_18; omega
      rw [decide_eq_false h_ne, if_neg (by decide), Nat.or_zero] at h_bs
      have h_z := ih (by omega)
      rw [h_bs] at h_z
      refine j_iconst G dX12_lettersOf_27 ?_
      refine j_ior G dX12_lettersOf_28 ?_
      rw [or32_z (by omega)]
      refine j_istore2 G dX12_lettersOf_29 (by decide) rfl ?_
      refine j_iinc3 G dX12_lettersOf_30 (by decide) rfl rfl ?_
      refine j_goto G dX12_lettersOf_33 (tgt := 4) (by decide) ?_
      refine j_pc (p2 := 4) rfl ?_
      exact h_z
    · have h_eq : σ 195 i = (p : Int) := by
        by_cases h_1 : σ 195 i < 0
        · rw [if_pos h_1] at c_18
          omega
        · rw [if_neg h_1] at c_18
          exact c_18
      rw [decide_eq_true h_eq, if_pos rfl] at h_bs
      have h_z := ih (by omega)
      rw [h_bs] at h_z
      refine j_iconst G dX12_lettersOf_21 ?_
      refine j_iload_n G dX12_lettersOf_22 rfl ?_
      refine j_ishl G dX12_lettersOf_23 ?_
      rw [h_sl]
      refine j_goto G dX12_lettersOf_24 (tgt := 28) (by decide) ?_
      refine j_ior G dX12_lettersOf_28 ?_
      first
      | rw [or32_nat (by omega) (by omega)]
      | rw [or32_z (by omega)]
      refine j_istore2 G dX12_lettersOf_29 (by decide) rfl ?_
      refine j_iinc3 G dX12_lettersOf_30 (by decide) rfl rfl ?_
      refine j_goto G dX12_lettersOf_33 (tgt := 4) (by decide) ?_
      refine j_pc (p2 := 4) rfl ?_
      exact h_z
theorem m_layAnew (n : Nat) (h_n : σ 0 8 = n) (h_20 : n ≤ 20) (h_wp : WfPart σ) (h_wc : ∀ c, c < 5 → WfCode σ c) (h_rp : RePart σ μ) (h_rc : ∀ c, c < 5 → ReCode σ μ c) (h_rd : ReRd σ μ) : CT (EM x) 1 yX12_layAnew [rf (EM x) 0] μ (fun r ν => r = none ∧ Ons (· = 34) μ ν ∧ ∀ p c : Nat, p < 7 → c < 5 → ν 34 (5 * (p : Int) + c) = (mxD σ n).1 p c) := by
  refine CT.ofJ (own := RX12) (cc := cX12_layAnew) (n := 7) (ret := none) (by decide) rfl cw_X12_layAnew (by decide) (Nat.le_of_ble_eq_true rfl) (ls := [some (rf (EM x) 0), none, none, none, none, none, none]) rfl ?_
  intro X G
  generalize h_post : (fun (r : Option Value) (ν : MemT) => r = none ∧ Ons (· = 34) μ ν ∧ ∀ p c : Nat, p < 7 → c < 5 → ν 34 (5 * (p : Int) + c) = (mxD σ n).1 p c) = post
  refine j_iconst G dX12_layAnew_0 ?_
  refine j_istore1 G dX12_layAnew_1 (by decide) rfl ?_
  refine j_pc (p2 := 2) rfl ?_
  refine j_weak (ls' := [some (rf (EM x) 0), some (iv ((0 : Nat) : Int)), none, none, none, none, none]) ?_ ⟨rfl, rfl, trivial⟩
  refine down (Pr := fun p => ∀ ν : MemT, Ons (· = 34) μ ν → (∀ a c : Nat, a < p → c < 5 → ν 34 (5 * (a : Int) + c) = (mxD σ n).1 a c) → JJ (EM x) X 1 post 7 2 [some (rf (EM x) 0), some (iv p), none, none, none, none, none] [] ν) 7 ?_ 0 (Nat.zero_le _) μ (Ons.rf _ _) (fun a c h_a => by omega)
  intro p h_p ih ν h_o h_b
  refine j_iload_n G dX12_layAnew_2 rfl ?_
  refine j_bipush G dX12_layAnew_3 (by decide) ?_
  refine j_icmp_ge G dX12_layAnew_5 (tgt := 134) (by decide) (by omega) (by omega) (fun c_5 => ?_) (fun c_5 => ?_)
  · refine j_return G dX12_layAnew_134 ?_
    obtain rfl : p = 7 := by omega
    rw [← h_post]
    exact ⟨rfl, h_o, h_b⟩
  · refine j_iconst G dX12_layAnew_8 ?_
    refine j_istore2 G dX12_layAnew_9 (by decide) rfl ?_
    refine j_pc (p2 := 10) rfl ?_
    refine j_weak (ls' := [some (rf (EM x) 0), some (iv p), some (iv ((0 : Nat) : Int)), none, none, none, none]) ?_ ⟨rfl, rfl, rfl, trivial⟩
    refine down (Pr := fun c => ∀ ν : MemT, Ons (· = 34) μ ν → (∀ a d : Nat, (a < p ∧ d < 5) ∨ (a = p ∧ d < c) → ν 34 (5 * (a : Int) + d) = (mxD σ n).1 a d) → JJ (EM x) X 1 post 7 10 [some (rf (EM x) 0), some (iv p), some (iv c), none, none, none, none] [] ν) 5 ?_ 0 (Nat.zero_le _) ν h_o (fun a c h_a => h_b a c (by omega) (by omega))
    intro c h_c ih2 ν h_o h_b
    refine j_iload_n G dX12_layAnew_10 rfl ?_
    refine j_iconst G dX12_layAnew_11 ?_
    refine j_icmp_ge G dX12_layAnew_12 (tgt := 128) (by decide) (by omega) (by omega) (fun c_12 => ?_) (fun c_12 => ?_)
    · refine j_iinc1 G dX12_layAnew_128 (by decide) rfl rfl ?_
      refine j_goto G dX12_layAnew_131 (tgt := 2) (by decide) ?_
      refine j_pc (p2 := 2) rfl ?_
      obtain rfl : c = 5 := by omega
      exact j_weak (ih (by omega) ν h_o (fun a d h_a h_d => h_b a d (by omega))) ⟨rfl, rfl, trivial⟩
    · refine j_iconst G dX12_layAnew_15 ?_
      refine j_istore3 G dX12_layAnew_16 (by decide) rfl ?_
      refine j_iconst G dX12_layAnew_17 ?_
      refine j_istore4 G dX12_layAnew_18 (by decide) rfl ?_
      refine j_pc (p2 := 20) rfl ?_
      generalize h_sel : (fun l : Nat => decide (σ 195 l = (p : Int))) = sel
      generalize h_tt : (fun l : Nat => σ (3 + 7 * c) l) = t
      have h_K : (mxD σ n).1 p c = anS σ n sel t := by rw [← h_sel, ← h_tt]; rfl
      have h_s1 : ∀ l : Nat, sel l = decide (σ 195 l = (p : Int)) := fun l => by rw [← h_sel]
      have h_t1 : ∀ l : Nat, t l = σ (3 + 7 * c) l := fun l => by rw [← h_tt]
      have h_Kr : 0 ≤ anS σ n sel t ∧ anS σ n sel t ≤ 2600 := anS_rg σ h_20 sel t
      refine j_weak (ls' := [some (rf (EM x) 0), some (iv p), some (iv c), some (iv (anS σ 0 sel t)), some (iv ((0 : Nat) : Int)), none, none]) ?_ ⟨rfl, rfl, rfl, rfl, rfl, trivial⟩
      refine down (Pr := fun i => JJ (EM x) X 1 post 7 20 [some (rf (EM x) 0), some (iv p), some (iv c), some (iv (anS σ i sel t)), some (iv i), none, none] [] ν) n ?_ 0 (Nat.zero_le _)
      intro i h_i ih3
      refine j_iload G dX12_layAnew_20 rfl ?_
      first | refine j_aload_n G dX12_layAnew_22 rfl ?_ | refine j_aload_nN G dX12_layAnew_22 rfl ?_
      refine j_geti G fl_X12_249 dX12_layAnew_23 33 rfl (by first | exact rfl | assumption) (by rfl) (fun r_23 => ?_)
      try simp (disch := omega) only [up_same, up_cell, up_idx, cpm_at, fil_at] at r_23 ⊢
      rw [h_o 0 (by decide), h_rd.1, h_n]
      refine j_icmp_ge G dX12_layAnew_26 (tgt := 111) (by decide) (by omega) (by omega) (fun c_26 => ?_) (fun c_26 => ?_)
      · obtain rfl : i = n := by omega
        first | refine j_aload_n G dX12_layAnew_111 rfl ?_ | refine j_aload_nN G dX12_layAnew_111 rfl ?_
        refine j_getr G fl_X12_110 dX12_layAnew_112 (by first | exact rfl | assumption) (by rfl) ?_
        refine j_iconst G dX12_layAnew_115 ?_
        refine j_iload_n G dX12_layAnew_116 rfl ?_
        refine j_imul G dX12_layAnew_117 ?_
        refine j_iload_n G dX12_layAnew_118 rfl ?_
        refine j_iadd G dX12_layAnew_119 ?_
        refine j_iload_n G dX12_layAnew_120 rfl ?_
        refine j_iastore G dX12_layAnew_121 (by first | exact rfl | assumption) (by omega) (by omega) ?_
        refine j_iinc2 G dX12_layAnew_122 (by decide) rfl rfl ?_
        refine j_goto G dX12_layAnew_125 (tgt := 10) (by decide) ?_
        refine j_pc (p2 := 10) rfl ?_
        refine j_weak (ih2 (by omega) _ (h_o.up rfl) (fun a d h_a => ?_)) ⟨rfl, rfl, rfl, trivial⟩
        by_cases h_e : a = p ∧ d = c
        · rw [h_e.1, h_e.2, up_same, h_K]
        · rw [up_idx (by omega)]
          exact h_b a d (by omega)
      · have h_i20 : i < 20 := by omega
        have h_oe : ownS (fun e => ν 25 (5 * (i : Int) + e)) = ownS (σ (79 + 2 * i)) := congrArg Prod.fst (ownA_cg 5 (fun e he => by rw [h_o 25 (by decide)]; exact (h_rd.2 i h_i20).2.2.2 e (by omega) (by omega)))
        have h_o1 := ownA_1 (σ (79 + 2 * i)) 5
        rw [show (ownA (σ (79 + 2 * i)) 5).1 = ownS (σ (79 + 2 * i)) from rfl] at h_o1
        have h_as : anS σ (i + 1) sel t = anS σ i sel t + (if ownS (σ (79 + 2 * i)) < 0 then 0 else sm (fun l => dfS σ sel t (ownS (σ (79 + 2 * i))).toNat l) 26) := rfl
        first | refine j_aload_n G dX12_layAnew_29 rfl ?_ | refine j_aload_nN G dX12_layAnew_29 rfl ?_
        refine j_iload G dX12_layAnew_30 rfl ?_
        refine j_callV G mv_X12_267 dX12_layAnew_32 (m_ownCode i (by omega)) (by first | exact rfl | assumption) (by decide) (by rfl) rfl rfl (by exact Nat.le_of_ble_eq_true rfl) (by first | decide | omega) (kI ?_)
        rw [h_oe]
        refine j_istore5 G dX12_layAnew_35 (by decide) rfl ?_
        refine j_iconst G dX12_layAnew_37 ?_
        refine j_istore6 G dX12_layAnew_38 (by decide) rfl ?_
        refine j_pc (p2 := 40) rfl ?_
        generalize ownS (σ (79 + 2 * i)) = own at h_o1 h_as h_oe ⊢
        by_cases h_ow : own < 0
        · refine j_iload G dX12_layAnew_40 rfl ?_
          refine j_bipush G dX12_layAnew_42 (by decide) ?_
          refine j_icmp_ge G dX12_layAnew_44 (tgt := 105) (by decide) (by omega) (by omega) (fun c_44 => ?_) (fun c_44 => ?_)
          · refine j_iinc4 G dX12_layAnew_105 (by decide) rfl rfl ?_
            refine j_goto G dX12_layAnew_108 (tgt := 20) (by decide) ?_
            refine j_pc (p2 := 20) rfl ?_
            have h_z := ih3 (by omega)
            rw [h_as, if_pos h_ow, Int.add_zero] at h_z
            exact j_weak h_z ⟨rfl, rfl, rfl, rfl, rfl, trivial⟩
          · refine j_iload G dX12_layAnew_47 rfl ?_
            refine j_if_lt G dX12_layAnew_49 (tgt := 105) (by decide) (by omega) (fun c_49 => ?_) (fun c_49 => ?_)
            · refine j_iinc4 G dX12_layAnew_105 (by decide) rfl rfl ?_
              refine j_goto G dX12_layAnew_108 (tgt := 20) (by decide) ?_
              refine j_pc (p2 := 20) rfl ?_
              have h_z := ih3 (by omega)
              rw [h_as, if_pos h_ow, Int.add_zero] at h_z
              exact j_weak h_z ⟨rfl, rfl, rfl, rfl, rfl, trivial⟩
            · omega
        · obtain ⟨o, h_o4, h_oo⟩ := nat_of (n := 4) (z := own) (by omega)
          rw [if_neg h_ow, h_oo, Int.toNat_natCast] at h_as
          rw [h_oo]
          refine j_weak (ls' := [some (rf (EM x) 0), some (iv p), some (iv c), some (iv (anS σ i sel t + sm (fun l => dfS σ sel t o l) 0)), some (iv i), some (iv o), some (iv ((0 : Nat) : Int))]) ?_ ⟨rfl, rfl, rfl, congrArg (fun z => some (iv z)) (Int.add_zero _).symm, rfl, rfl, rfl, trivial⟩
          refine down (Pr := fun j => JJ (EM x) X 1 post 7 40 [some (rf (EM x) 0), some (iv p), some (iv c), some (iv (anS σ i sel t + sm (fun l => dfS σ sel t o l) j)), some (iv i), some (iv o), some (iv j)] [] ν) 26 ?_ 0 (by decide)
          intro j h_j ih4
          have h_nx : j < 26 → ∀ z : Int, z = anS σ i sel t + sm (fun l => dfS σ sel t o l) j + dfS σ sel t o j → JJ (EM x) X 1 post 7 40 [some (rf (EM x) 0), some (iv p), some (iv c), some (iv z), some (iv i), some (iv o), some (iv ((j + 1 : Nat) : Int))] [] ν := fun h_1 z h_2 => by
            rw [h_2, Int.add_assoc]
            exact ih4 h_1
          · refine j_iload G dX12_layAnew_40 rfl ?_
            refine j_bipush G dX12_layAnew_42 (by decide) ?_
            refine j_icmp_ge G dX12_layAnew_44 (tgt := 105) (by decide) (by omega) (by omega) (fun c_44 => ?_) (fun c_44 => ?_)
            · refine j_iinc4 G dX12_layAnew_105 (by decide) rfl rfl ?_
              refine j_goto G dX12_layAnew_108 (tgt := 20) (by decide) ?_
              refine j_pc (p2 := 20) rfl ?_
              obtain rfl : j = 26 := by omega
              have h_z := ih3 (by omega)
              rw [h_as] at h_z
              exact j_weak h_z ⟨rfl, rfl, rfl, rfl, rfl, trivial⟩
            · refine j_iload G dX12_layAnew_47 rfl ?_
              refine j_if_lt G dX12_layAnew_49 (tgt := 105) (by decide) (by omega) (fun c_49 => ?_) (fun c_49 => ?_)
              · omega
              · have h_32 : ν 32 j = if σ 195 j < 0 then -6 else σ 195 j := by rw [h_o 32 (by decide)]; exact h_rp j (by omega) (by omega)
                have h_wj := h_wp j (by omega) (by omega)
                have h_co : ν 1 (26 * (o : Int) + j) = σ (3 + 7 * o) j := by rw [h_o 1 (by decide)]; exact (h_rc o (by omega)).1 j (by omega) (by omega)
                have h_cc : ν 1 (26 * (c : Int) + j) = σ (3 + 7 * c) j := by rw [h_o 1 (by decide)]; exact (h_rc c (by omega)).1 j (by omega) (by omega)
                have h_wo := (h_wc o (by omega)).1 j (by omega) (by omega)
                have h_wd := (h_wc c (by omega)).1 j (by omega) (by omega)
                refine j_iload_n G dX12_layAnew_52 rfl ?_
                first | refine j_aload_n G dX12_layAnew_53 rfl ?_ | refine j_aload_nN G dX12_layAnew_53 rfl ?_
                refine j_getr G fl_X12_104 dX12_layAnew_54 (by first | exact rfl | assumption) (by rfl) ?_
                refine j_iload G dX12_layAnew_57 rfl ?_
                refine j_iaload G dX12_layAnew_59 (by first | exact rfl | assumption) (by omega) (fun r_59 => ?_)
                try simp (disch := omega) only [up_same, up_cell, up_idx, cpm_at, fil_at] at r_59 ⊢
                rw [h_32] at *
                refine j_iload_n G dX12_layAnew_60 rfl ?_
                refine j_icmp_ne G dX12_layAnew_61 (tgt := 96) (by decide) (by split <;> omega) (by omega) (fun c_61 => ?_) (fun c_61 => ?_)
                · have h_ne : ¬ σ 195 j = (p : Int) := fun z => by rw [if_neg (by omega)] at c_61; omega
                  refine j_iconst G dX12_layAnew_96 ?_
                  refine j_iadd G dX12_layAnew_97 ?_
                  refine j_istore3 G dX12_layAnew_98 (by decide) rfl ?_
                  refine j_iinc6 G dX12_layAnew_99 (by decide) rfl rfl ?_
                  refine j_goto G dX12_layAnew_102 (tgt := 40) (by decide) ?_
                  refine j_pc (p2 := 40) rfl ?_
                  exact h_nx (by omega) _ (by unfold dfS; rw [if_neg (fun z => h_ne (of_decide_eq_true ((h_s1 j).symm.trans z.1)))])
                · have h_eq : σ 195 j = (p : Int) := by
                    by_cases h_1 : σ 195 j < 0
                    · rw [if_pos h_1] at c_61
                      omega
                    · rw [if_neg h_1] at c_61
                      exact c_61
                  first | refine j_aload_n G dX12_layAnew_64 rfl ?_ | refine j_aload_nN G dX12_layAnew_64 rfl ?_
                  refine j_getr G fl_X12_7 dX12_layAnew_65 (by first | exact rfl | assumption) (by rfl) ?_
                  refine j_bipush G dX12_layAnew_68 (by decide) ?_
                  refine j_iload G dX12_layAnew_70 rfl ?_
                  refine j_imul G dX12_layAnew_72 ?_
                  refine j_iload G dX12_layAnew_73 rfl ?_
                  refine j_iadd G dX12_layAnew_75 ?_
                  refine j_iaload G dX12_layAnew_76 (by first | exact rfl | assumption) (by omega) (fun r_76 => ?_)
                  try simp (disch := omega) only [up_same, up_cell, up_idx, cpm_at, fil_at] at r_76 ⊢
                  rw [h_co]
                  first | refine j_aload_n G dX12_layAnew_77 rfl ?_ | refine j_aload_nN G dX12_layAnew_77 rfl ?_
                  refine j_getr G fl_X12_7 dX12_layAnew_78 (by first | exact rfl | assumption) (by rfl) ?_
                  refine j_bipush G dX12_layAnew_81 (by decide) ?_
                  refine j_pc (p2 := 83) rfl ?_
                  refine j_iload_n G dX12_layAnew_83 rfl ?_
                  refine j_imul G dX12_layAnew_84 ?_
                  refine j_iload G dX12_layAnew_85 rfl ?_
                  refine j_iadd G dX12_layAnew_87 ?_
                  refine j_iaload G dX12_layAnew_88 (by first | exact rfl | assumption) (by omega) (fun r_88 => ?_)
                  try simp (disch := omega) only [up_same, up_cell, up_idx, cpm_at, fil_at] at r_88 ⊢
                  rw [h_cc]
                  refine j_icmp_eq G dX12_layAnew_89 (tgt := 96) (by decide) (by omega) (by omega) (fun c_89 => ?_) (fun c_89 => ?_)
                  · refine j_iconst G dX12_layAnew_96 ?_
                    refine j_iadd G dX12_layAnew_97 ?_
                    refine j_istore3 G dX12_layAnew_98 (by decide) rfl ?_
                    refine j_iinc6 G dX12_layAnew_99 (by decide) rfl rfl ?_
                    refine j_goto G dX12_layAnew_102 (tgt := 40) (by decide) ?_
                    refine j_pc (p2 := 40) rfl ?_
                    exact h_nx (by omega) _ (by unfold dfS; rw [if_neg (fun z => z.2 (by rw [h_t1 j]; exact c_89))])
                  · refine j_iconst G dX12_layAnew_92 ?_
                    refine j_goto G dX12_layAnew_93 (tgt := 97) (by decide) ?_
                    refine j_iadd G dX12_layAnew_97 ?_
                    refine j_istore3 G dX12_layAnew_98 (by decide) rfl ?_
                    refine j_iinc6 G dX12_layAnew_99 (by decide) rfl rfl ?_
                    refine j_goto G dX12_layAnew_102 (tgt := 40) (by decide) ?_
                    refine j_pc (p2 := 40) rfl ?_
                    exact h_nx (by omega) _ (by unfold dfS; rw [if_pos ⟨by rw [h_s1 j]; exact decide_eq_true h_eq, by rw [h_t1 j]; exact c_89⟩])
end BX
