def cwW (σ : MemT) (c m w S : Nat) : Int := cwA σ c (wtx σ w) (wsz σ w) m (fun r => S.testBit r) 0
def goS (σ : MemT) (m S : Nat) : Prop := ∀ r, S.testBit r = true → r < m ∧ faB σ r = true
theorem goS_lt {σ : MemT} {m S : Nat} (h : goS σ m S) (h_m : m ≤ 12) : S < 4096 := by
  refine Nat.lt_of_not_le (fun h_1 => ?_)
  obtain ⟨i, h_2, h_3⟩ := Nat.exists_ge_and_testBit_of_ge_two_pow (n := 12) (x := S) h_1
  have := (h i h_3).1
  omega
theorem goS_sub {σ : MemT} {m S U : Nat} (h : goS σ m U) (h_s : sub S U) : goS σ m S := fun r h_r => h r (h_s r h_r)
section RB
variable {E : EE} {x x1 x2 : CX} {μ σ τ : MemT}
theorem c_nextSet (s U : Int) : CT (EC x) 0 yX0_nextSet [iv s, iv U] σ (rI (and32 (s - U) U) σ) := by
  refine CT.ofJ (own := RX0) (cc := cX0_nextSet) (n := 2) (ret := (some .int)) (by decide) rfl cw_X0_nextSet (by decide) (Nat.le_of_ble_eq_true rfl) (ls := [some (iv s), some (iv U)]) rfl ?_
  intro X G
  refine j_iload_n G dX0_nextSet_0 rfl ?_
  refine j_iload_n G dX0_nextSet_1 rfl ?_
  refine j_isub G dX0_nextSet_2 ?_
  refine j_iload_n G dX0_nextSet_3 rfl ?_
  refine j_iand G dX0_nextSet_4 ?_
  refine j_ireturn G dX0_nextSet_5 ?_
  exact ⟨rfl, rfl⟩
theorem c_times (a b : Int) (h_b : 0 ≤ b ∧ b ≤ 268435456) : CT (EC x) 0 yX0_times [iv a, iv b] σ (rI (if b = 268435456 then 268435456 else a * b) σ) := by
  refine CT.ofJ (own := RX0) (cc := cX0_times) (n := 2) (ret := (some .int)) (by decide) rfl cw_X0_times (by decide) (Nat.le_of_ble_eq_true rfl) (ls := [some (iv a), some (iv b)]) rfl ?_
  intro X G
  refine j_iload_n G dX0_times_0 rfl ?_
  refine j_ldc G kc_X0_64 dX0_times_1 (z := 268435456) (by decide) ?_
  refine j_icmp_lt G dX0_times_3 (tgt := 11) (by decide) (by omega) (by omega) (fun c_3 => ?_) (fun c_3 => ?_)
  · refine j_iload_n G dX0_times_11 rfl ?_
    refine j_iload_n G dX0_times_12 rfl ?_
    refine j_imul G dX0_times_13 ?_
    refine j_ireturn G dX0_times_14 ?_
    first | (rw [if_pos (by omega)]; exact ⟨rfl, rfl⟩) | (rw [if_neg (by omega)]; exact ⟨rfl, rfl⟩)
  · refine j_ldc G kc_X0_64 dX0_times_6 (z := 268435456) (by decide) ?_
    refine j_goto G dX0_times_8 (tgt := 14) (by decide) ?_
    refine j_ireturn G dX0_times_14 ?_
    first | (rw [if_pos (by omega)]; exact ⟨rfl, rfl⟩) | (rw [if_neg (by omega)]; exact ⟨rfl, rfl⟩)
set_option maxRecDepth 4000 in
theorem c_cellsWithC (w n m c S : Nat) (h_o : Ons scB σ τ) (h_w : w < n) (h_n : σ 57 3 = n) (h_c : c < 5) (h_wc : WfCode σ c) (h_ww : WfWord σ) (h_m : RoO σ m) (h_S : goS σ m S) (h_73 : ∀ p len : Nat, p < wsz σ w → len < 5 → τ 73 (5 * (p : Int) + len) = (raN σ (wtx σ w) (wsz σ w) p len m : Nat)) : CT (EC x) 1 yX0_cellsWith [rf (EC x) 56, iv w, rf (EC x) (2 + 7 * c), iv S] τ (rP (fun y τ2 => y = cwW σ c m w S ∧ Ons (· = 74) τ τ2)) := by
  obtain ⟨h_y1, h_y2, h_y3, h_y4, h_y5, h_y6, h_y7⟩ := ly_code (x := x) h_c
  obtain ⟨h_30, h_59, h_z, h_t⟩ := WdO h_ww h_n h_w
  have h_S4 := goS_lt h_S h_m.2.1
  unfold cwW
  generalize h_zz : wsz σ w = z at h_59 h_z h_t h_73 ⊢
  have h_cv := cwA_v (c := c) (t := wtx σ w) (z := z) h_m (fun r => S.testBit r)
  have h_cs := fun p (h_p : p < z) => cwA_s (c := c) (t := wtx σ w) (z := z) h_m (rs := fun r => S.testBit r) h_p
  have h_ce := cwA_e σ c (wtx σ w) z m (fun r => S.testBit r)
  generalize h_AA : cwA σ c (wtx σ w) z m (fun r => S.testBit r) = A at h_cv h_cs h_ce ⊢
  have h_cr : ∀ p, p ≤ z → 0 ≤ A p ∧ A p ≤ 268435456 := fun p h_p => by rcases h_cv p h_p with h | h <;> omega
  refine CT.ofJ (own := RX0) (cc := cX0_cellsWith) (n := 9) (ret := (some .int)) (by decide) rfl cw_X0_cellsWith (by decide) (Nat.le_of_ble_eq_true rfl) (ls := [some (rf (EC x) 56), some (iv w), some (rf (EC x) (2 + 7 * c)), some (iv S), none, none, none, none, none]) rfl ?_
  intro X G
  have h_lp : ∀ i : Nat, i ≤ z → ∀ τ2 : MemT, Ons (· = 74) τ τ2 → (∀ q : Nat, i ≤ q → q ≤ z → τ2 74 q = A q) → JJ (EC x) X 1 (rP (fun y τ2 => y = A 0 ∧ Ons (· = 74) τ τ2)) 9 25 [some (rf (EC x) 56), some (iv w), some (rf (EC x) (2 + 7 * c)), some (iv S), some (iv z), some (iv ((i : Int) - 1)), none, none, none] [] τ2 := by
    intro i
    induction i with
    | zero =>
      intro h_i τ2 h_o2 h_v
      have h_0 := h_v 0 (by omega) (by omega)
      · refine j_iload G dX0_cellsWith_25 rfl ?_
        refine j_if_lt G dX0_cellsWith_27 (tgt := 152) (by decide) (by omega) (fun c_27 => ?_) (fun c_27 => ?_)
        · first | refine j_aload_n G dX0_cellsWith_152 rfl ?_ | refine j_aload_nN G dX0_cellsWith_152 rfl ?_
          refine j_getr G fl_X0_35 dX0_cellsWith_153 (by first | exact rfl | assumption) (by rfl) ?_
          refine j_iconst G dX0_cellsWith_156 ?_
          refine j_iaload G dX0_cellsWith_157 (by first | exact rfl | assumption) (by omega) (fun r_157 => ?_)
          try simp (disch := omega) only [up_same, up_cell, up_idx, cpm_at, fil_at] at r_157 ⊢
          refine j_ireturn G dX0_cellsWith_158 ?_
          exact ⟨_, rfl, h_0, h_o2⟩
        · omega
    | succ i ih =>
      intro h_i τ2 h_o2 h_v
      rw [show ((i + 1 : Nat) : Int) - 1 = i by omega]
      have h_oo : Ons scB σ τ2 := h_o.tr (h_o2.wk (fun j h => by unfold scB; omega))
      have h_ti := h_t i (by omega)
      have h_wi : τ2 58 (10 * (w : Int) + i) = wtx σ w i := by rw [h_oo 58 (by unfold scB; omega)]; rfl
      have h_ci := h_wc.1 (wtx σ w i) h_ti.1 (by omega)
      have h_vi : τ2 74 ((i : Int) + 1) = A (i + 1) := h_v (i + 1) (by omega) (by omega)
      have h_cr1 := h_cr (i + 1) (by omega)
      have h_st := h_cs i (by omega)
      unfold stC at h_st
      rw [← lsM_len h_m h_S A] at h_st
      have h_79 : ∀ (i0 : Int), (0 ≤ i0 ∧ i0 ≤ 268435456) → i0 = (if σ (3 + 7 * c) (wtx σ w i) = 0 then 268435456 else A (i + 1)) → JJ (EC x) X 1 (rP (fun y τ2 => y = A 0 ∧ Ons (· = 74) τ τ2)) 9 79 [some (rf (EC x) 56), some (iv w), some (rf (EC x) (2 + 7 * c)), some (iv S), some (iv z), some (iv i), none, none, none] [iv i0] τ2 := by
        intro i0 h_i0 h_i0e
        rw [← h_i0e] at h_st
        · refine j_istore7 G dX0_cellsWith_79 (by decide) rfl ?_
          refine j_iconst G dX0_cellsWith_81 ?_
          refine j_istore8 G dX0_cellsWith_82 (by decide) rfl ?_
          refine j_pc (p2 := 84) rfl ?_
          refine j_weak (ls' := [some (rf (EC x) 56), some (iv w), some (rf (EC x) (2 + 7 * c)), some (iv S), some (iv z), some (iv i), none, some (iv (lsM (fun j => decide (raN σ (wtx σ w) z i (j + 2) m &&& S ≠ 0)) (fun j => A (i + (j + 2))) i0 0)), some (iv (((0 : Nat) : Int) + 2))]) ?_ ⟨rfl, rfl, rfl, rfl, rfl, rfl, rfl, rfl, trivial⟩
          refine down (Pr := fun j => JJ (EC x) X 1 (rP (fun y τ2 => y = A 0 ∧ Ons (· = 74) τ τ2)) 9 84 [some (rf (EC x) 56), some (iv w), some (rf (EC x) (2 + 7 * c)), some (iv S), some (iv z), some (iv i), none, some (iv (lsM (fun j => decide (raN σ (wtx σ w) z i (j + 2) m &&& S ≠ 0)) (fun j => A (i + (j + 2))) i0 j)), some (iv ((j : Int) + 2))] [] τ2) 3 ?_ 0 (Nat.zero_le _)
          intro j h_j ih2
          have h_le := (lsM_le (P := fun j => decide (raN σ (wtx σ w) z i (j + 2) m &&& S ≠ 0)) (g := fun j => A (i + (j + 2))) (i0 := i0) j).1
          have h_in : ∀ q, raN σ (wtx σ w) z i q m &&& S ≠ 0 → i + q ≤ z := fun q h_q => by
            obtain ⟨r, h_1, h_2, h_3, h_4⟩ := raN_is m (fun y => h_q (by rw [y, Nat.zero_and]))
            unfold prF at h_4
            rw [Bool.and_eq_true, roF_iff] at h_4
            omega
          have h_ge : 0 ≤ lsM (fun j => decide (raN σ (wtx σ w) z i (j + 2) m &&& S ≠ 0)) (fun j => A (i + (j + 2))) i0 j := by
            rcases lsM_is (P := fun j => decide (raN σ (wtx σ w) z i (j + 2) m &&& S ≠ 0)) (g := fun j => A (i + (j + 2))) (i0 := i0) j with h_3 | ⟨s, h_3, h_5, h_4⟩
            · omega
            · have := h_cr _ (h_in _ (of_decide_eq_true h_5))
              omega
          have h_ss : lsM (fun j => decide (raN σ (wtx σ w) z i (j + 2) m &&& S ≠ 0)) (fun j => A (i + (j + 2))) i0 (j + 1) = if decide (raN σ (wtx σ w) z i (j + 2) m &&& S ≠ 0) = true then min (lsM (fun j => decide (raN σ (wtx σ w) z i (j + 2) m &&& S ≠ 0)) (fun j => A (i + (j + 2))) i0 j) (A (i + (j + 2))) else lsM (fun j => decide (raN σ (wtx σ w) z i (j + 2) m &&& S ≠ 0)) (fun j => A (i + (j + 2))) i0 j := rfl
          generalize h_LS : lsM (fun j => decide (raN σ (wtx σ w) z i (j + 2) m &&& S ≠ 0)) (fun j => A (i + (j + 2))) i0 = ls at h_le h_ge h_ss h_st ih2 ⊢
          refine j_iload G dX0_cellsWith_84 rfl ?_
          refine j_iconst G dX0_cellsWith_86 ?_
          refine j_icmp_gt G dX0_cellsWith_87 (tgt := 130) (by decide) (by omega) (by omega) (fun c_87 => ?_) (fun c_87 => ?_)
          · obtain rfl : j = 3 := by omega
            have h_cri := h_cr i (by omega)
            first | refine j_aload_n G dX0_cellsWith_130 rfl ?_ | refine j_aload_nN G dX0_cellsWith_130 rfl ?_
            refine j_getr G fl_X0_35 dX0_cellsWith_131 (by first | exact rfl | assumption) (by rfl) ?_
            refine j_iload G dX0_cellsWith_134 rfl ?_
            refine j_ldc G kc_X0_64 dX0_cellsWith_136 (z := 268435456) (by decide) ?_
            refine j_iload G dX0_cellsWith_138 rfl ?_
            refine j_iconst G dX0_cellsWith_140 ?_
            refine j_iadd G dX0_cellsWith_141 ?_
            refine j_min G ms_X0_104 dX0_cellsWith_142 (by omega) (by omega) (by decide) (by exact Nat.le_of_ble_eq_true rfl) ?_
            rw [← h_st]
            refine j_iastore G dX0_cellsWith_145 (by first | exact rfl | assumption) (by omega) (by omega) ?_
            refine j_iinc5 G dX0_cellsWith_146 (by decide) rfl rfl ?_
            refine j_goto G dX0_cellsWith_149 (tgt := 25) (by decide) ?_
            refine j_pc (p2 := 25) rfl ?_
            refine j_weak (ih (by omega) _ (h_o2.up rfl) (fun q h_1 h_2 => ?_)) ⟨rfl, rfl, rfl, rfl, rfl, rfl, trivial⟩
            by_cases h_e : q = i
            · subst h_e
              exact up_same _ _ _ _
            · rw [up_idx (by omega)]
              exact h_v q (by omega) h_2
          · have h_ra : τ2 73 (5 * (i : Int) + ((j : Int) + 2)) = (raN σ (wtx σ w) z i (j + 2) m : Nat) := by rw [h_o2 73 (by decide)]; exact h_73 i (j + 2) (by omega) (by omega)
            have h_rl : raN σ (wtx σ w) z i (j + 2) m < 4096 := by
              by_cases h_0 : raN σ (wtx σ w) z i (j + 2) m = 0
              · omega
              · obtain ⟨r, h_1, h_2, -⟩ := raN_is m h_0
                have : 2 ^ r < 2 ^ 12 := Nat.pow_lt_pow_right (by decide) (by have := h_m.2.1; omega)
                omega
            have h_al : raN σ (wtx σ w) z i (j + 2) m &&& S ≤ S := Nat.and_le_right
            first | refine j_aload_n G dX0_cellsWith_90 rfl ?_ | refine j_aload_nN G dX0_cellsWith_90 rfl ?_
            refine j_getr G fl_X0_32 dX0_cellsWith_91 (by first | exact rfl | assumption) (by rfl) ?_
            refine j_iload G dX0_cellsWith_94 rfl ?_
            refine j_iconst G dX0_cellsWith_96 ?_
            refine j_imul G dX0_cellsWith_97 ?_
            rw [Int.mul_comm (i : Int) 5]
            refine j_iload G dX0_cellsWith_98 rfl ?_
            refine j_iadd G dX0_cellsWith_100 ?_
            refine j_iaload G dX0_cellsWith_101 (by first | exact rfl | assumption) (by omega) (fun r_101 => ?_)
            try simp (disch := omega) only [up_same, up_cell, up_idx, cpm_at, fil_at] at r_101 ⊢
            rw [h_ra]
            refine j_iload_n G dX0_cellsWith_102 rfl ?_
            refine j_iand G dX0_cellsWith_103 ?_
            rw [and32_nat (by omega)]
            refine j_if_eq G dX0_cellsWith_104 (tgt := 124) (by decide) (by omega) (fun c_104 => ?_) (fun c_104 => ?_)
            · rw [decide_eq_false (fun y => y (by omega)), if_neg (by decide)] at h_ss
              rw [← h_ss]
              refine j_iinc8 G dX0_cellsWith_124 (by decide) rfl rfl ?_
              refine j_goto G dX0_cellsWith_127 (tgt := 84) (by decide) ?_
              refine j_pc (p2 := 84) rfl ?_
              exact j_weak (ih2 (by omega)) ⟨rfl, rfl, rfl, rfl, rfl, rfl, rfl, by show some (iv _) = some (iv _); rw [show ((j + 1 : Nat) : Int) + 2 = (j : Int) + 2 + 1 by omega], trivial⟩
            · have h_ne : raN σ (wtx σ w) z i (j + 2) m &&& S ≠ 0 := fun y => c_104 (by rw [y]; rfl)
              rw [decide_eq_true h_ne, if_pos rfl] at h_ss
              have h_iz := h_in _ h_ne
              have h_vj : τ2 74 ((i : Int) + ((j : Int) + 2)) = A (i + (j + 2)) := h_v (i + (j + 2)) (by omega) h_iz
              have h_crj := h_cr _ h_iz
              refine j_iload G dX0_cellsWith_107 rfl ?_
              first | refine j_aload_n G dX0_cellsWith_109 rfl ?_ | refine j_aload_nN G dX0_cellsWith_109 rfl ?_
              refine j_getr G fl_X0_35 dX0_cellsWith_110 (by first | exact rfl | assumption) (by rfl) ?_
              refine j_iload G dX0_cellsWith_113 rfl ?_
              refine j_iload G dX0_cellsWith_115 rfl ?_
              refine j_iadd G dX0_cellsWith_117 ?_
              refine j_iaload G dX0_cellsWith_118 (by first | exact rfl | assumption) (by omega) (fun r_118 => ?_)
              try simp (disch := omega) only [up_same, up_cell, up_idx, cpm_at, fil_at] at r_118 ⊢
              rw [h_vj]
              refine j_min G ms_X0_104 dX0_cellsWith_119 (by omega) (by omega) (by decide) (by exact Nat.le_of_ble_eq_true rfl) ?_
              rw [← h_ss]
              refine j_istore7 G dX0_cellsWith_122 (by decide) rfl ?_
              refine j_iinc8 G dX0_cellsWith_124 (by decide) rfl rfl ?_
              refine j_goto G dX0_cellsWith_127 (tgt := 84) (by decide) ?_
              refine j_pc (p2 := 84) rfl ?_
              exact j_weak (ih2 (by omega)) ⟨rfl, rfl, rfl, rfl, rfl, rfl, rfl, by show some (iv _) = some (iv _); rw [show ((j + 1 : Nat) : Int) + 2 = (j : Int) + 2 + 1 by omega], trivial⟩
      · refine j_iload G dX0_cellsWith_25 rfl ?_
        refine j_if_lt G dX0_cellsWith_27 (tgt := 152) (by decide) (by omega) (fun c_27 => ?_) (fun c_27 => ?_)
        · omega
        · first | refine j_aload_n G dX0_cellsWith_30 rfl ?_ | refine j_aload_nN G dX0_cellsWith_30 rfl ?_
          refine j_getr G fl_X0_117 dX0_cellsWith_31 (by first | exact rfl | assumption) (by rfl) ?_
          first | refine j_aload_n G dX0_cellsWith_34 rfl ?_ | refine j_aload_nN G dX0_cellsWith_34 rfl ?_
          refine j_getr G fl_X0_14 dX0_cellsWith_35 (by first | exact rfl | assumption) (by rfl) ?_
          refine j_getr G fl_X0_52 dX0_cellsWith_38 (by first | exact rfl | assumption) (by rfl) ?_
          refine j_iload_n G dX0_cellsWith_41 rfl ?_
          refine j_bipush G dX0_cellsWith_42 (by decide) ?_
          refine j_imul G dX0_cellsWith_44 ?_
          rw [Int.mul_comm (w : Int) 10]
          refine j_iload G dX0_cellsWith_45 rfl ?_
          refine j_iadd G dX0_cellsWith_47 ?_
          refine j_iaload G dX0_cellsWith_48 (by first | exact rfl | assumption) (by omega) (fun r_48 => ?_)
          try simp (disch := omega) only [up_same, up_cell, up_idx, cpm_at, fil_at] at r_48 ⊢
          refine j_pc (p2 := 49) rfl ?_
          rw [h_wi]
          refine j_iaload G dX0_cellsWith_49 (by first | exact rfl | assumption) (by omega) (fun r_49 => ?_)
          try simp (disch := omega) only [up_same, up_cell, up_idx, cpm_at, fil_at] at r_49 ⊢
          rw [h_oo (3 + 7 * c) (by unfold scB; omega)] at *
          refine j_if_eq G dX0_cellsWith_50 (tgt := 57) (by decide) (by omega) (fun c_50 => ?_) (fun c_50 => ?_)
          · refine j_iconst G dX0_cellsWith_57 ?_
            refine j_istore6 G dX0_cellsWith_58 (by decide) rfl ?_
            refine j_iload G dX0_cellsWith_60 rfl ?_
            refine j_if_eq G dX0_cellsWith_62 (tgt := 77) (by decide) (by omega) (fun c_62 => ?_) (fun c_62 => ?_)
            · refine j_ldc G kc_X0_64 dX0_cellsWith_77 (z := 268435456) (by decide) ?_
              refine j_pc (p2 := 79) rfl ?_
              first
              | omega
              | exact j_weak (h_79 _ (by omega) (by rw [if_neg (by omega)])) ⟨rfl, rfl, rfl, rfl, rfl, rfl, trivial⟩
              | exact j_weak (h_79 _ (by omega) (by rw [if_pos (by omega)])) ⟨rfl, rfl, rfl, rfl, rfl, rfl, trivial⟩
            · first | refine j_aload_n G dX0_cellsWith_65 rfl ?_ | refine j_aload_nN G dX0_cellsWith_65 rfl ?_
              refine j_getr G fl_X0_35 dX0_cellsWith_66 (by first | exact rfl | assumption) (by rfl) ?_
              refine j_iload G dX0_cellsWith_69 rfl ?_
              refine j_iconst G dX0_cellsWith_71 ?_
              refine j_iadd G dX0_cellsWith_72 ?_
              refine j_iaload G dX0_cellsWith_73 (by first | exact rfl | assumption) (by omega) (fun r_73 => ?_)
              try simp (disch := omega) only [up_same, up_cell, up_idx, cpm_at, fil_at] at r_73 ⊢
              rw [h_vi]
              refine j_goto G dX0_cellsWith_74 (tgt := 79) (by decide) ?_
              refine j_pc (p2 := 79) rfl ?_
              first
              | omega
              | exact j_weak (h_79 _ (by omega) (by rw [if_neg (by omega)])) ⟨rfl, rfl, rfl, rfl, rfl, rfl, trivial⟩
              | exact j_weak (h_79 _ (by omega) (by rw [if_pos (by omega)])) ⟨rfl, rfl, rfl, rfl, rfl, rfl, trivial⟩
          · refine j_iconst G dX0_cellsWith_53 ?_
            refine j_goto G dX0_cellsWith_54 (tgt := 58) (by decide) ?_
            refine j_istore6 G dX0_cellsWith_58 (by decide) rfl ?_
            refine j_iload G dX0_cellsWith_60 rfl ?_
            refine j_if_eq G dX0_cellsWith_62 (tgt := 77) (by decide) (by omega) (fun c_62 => ?_) (fun c_62 => ?_)
            · refine j_ldc G kc_X0_64 dX0_cellsWith_77 (z := 268435456) (by decide) ?_
              refine j_pc (p2 := 79) rfl ?_
              first
              | omega
              | exact j_weak (h_79 _ (by omega) (by rw [if_neg (by omega)])) ⟨rfl, rfl, rfl, rfl, rfl, rfl, trivial⟩
              | exact j_weak (h_79 _ (by omega) (by rw [if_pos (by omega)])) ⟨rfl, rfl, rfl, rfl, rfl, rfl, trivial⟩
            · first | refine j_aload_n G dX0_cellsWith_65 rfl ?_ | refine j_aload_nN G dX0_cellsWith_65 rfl ?_
              refine j_getr G fl_X0_35 dX0_cellsWith_66 (by first | exact rfl | assumption) (by rfl) ?_
              refine j_iload G dX0_cellsWith_69 rfl ?_
              refine j_iconst G dX0_cellsWith_71 ?_
              refine j_iadd G dX0_cellsWith_72 ?_
              refine j_iaload G dX0_cellsWith_73 (by first | exact rfl | assumption) (by omega) (fun r_73 => ?_)
              try simp (disch := omega) only [up_same, up_cell, up_idx, cpm_at, fil_at] at r_73 ⊢
              rw [h_vi]
              refine j_goto G dX0_cellsWith_74 (tgt := 79) (by decide) ?_
              refine j_pc (p2 := 79) rfl ?_
              first
              | omega
              | exact j_weak (h_79 _ (by omega) (by rw [if_neg (by omega)])) ⟨rfl, rfl, rfl, rfl, rfl, rfl, trivial⟩
              | exact j_weak (h_79 _ (by omega) (by rw [if_pos (by omega)])) ⟨rfl, rfl, rfl, rfl, rfl, rfl, trivial⟩
  have h_t59 : τ 59 w = (z : Int) := by rw [h_o 59 (by unfold scB; omega)]; exact h_59
  first | refine j_aload_n G dX0_cellsWith_0 rfl ?_ | refine j_aload_nN G dX0_cellsWith_0 rfl ?_
  refine j_getr G fl_X0_14 dX0_cellsWith_1 (by first | exact rfl | assumption) (by rfl) ?_
  refine j_getr G fl_X0_55 dX0_cellsWith_4 (by first | exact rfl | assumption) (by rfl) ?_
  refine j_iload_n G dX0_cellsWith_7 rfl ?_
  refine j_iaload G dX0_cellsWith_8 (by first | exact rfl | assumption) (by omega) (fun r_8 => ?_)
  try simp (disch := omega) only [up_same, up_cell, up_idx, cpm_at, fil_at] at r_8 ⊢
  rw [h_t59]
  refine j_istore4 G dX0_cellsWith_9 (by decide) rfl ?_
  first | refine j_aload_n G dX0_cellsWith_11 rfl ?_ | refine j_aload_nN G dX0_cellsWith_11 rfl ?_
  refine j_getr G fl_X0_35 dX0_cellsWith_12 (by first | exact rfl | assumption) (by rfl) ?_
  refine j_iload G dX0_cellsWith_15 rfl ?_
  refine j_iconst G dX0_cellsWith_17 ?_
  refine j_iastore G dX0_cellsWith_18 (by first | exact rfl | assumption) (by omega) (by omega) ?_
  refine j_pc (p2 := 19) rfl ?_
  refine j_iload G dX0_cellsWith_19 rfl ?_
  refine j_iconst G dX0_cellsWith_21 ?_
  refine j_isub G dX0_cellsWith_22 ?_
  refine j_istore5 G dX0_cellsWith_23 (by decide) rfl ?_
  refine j_pc (p2 := 25) rfl ?_
  refine j_weak (h_lp z (by omega) _ ((Ons.rf _ _).up rfl) (fun q h_1 h_2 => ?_)) ⟨rfl, rfl, rfl, rfl, rfl, rfl, trivial⟩
  obtain rfl : q = z := by omega
  rw [up_same, h_ce]
theorem c_measureSets (w n m c I k : Nat) (h_o : Ons scB σ τ) (h_w : w < n) (h_n : σ 57 3 = n) (h_c : c < 5) (h_wc : WfCode σ c) (h_ww : WfWord σ) (h_m : RoO σ m) (h_I : goS σ m I) (h_k : k ≤ 12) (h_73 : ∀ p len : Nat, p < wsz σ w → len < 5 → τ 73 (5 * (p : Int) + len) = (raN σ (wtx σ w) (wsz σ w) p len m : Nat)) : CT (EC x) 2 yX0_measureSets [rf (EC x) 56, iv w, rf (EC x) (2 + 7 * c), iv I, iv k] τ (fun r τ2 => r = none ∧ Ons (fun j => j = 74 ∨ j = 75) τ τ2 ∧ ∀ s : Nat, sub s I → popN s 12 ≤ k → τ2 75 s = cwW σ c m w s) := by
  have h_I4 := goS_lt h_I h_m.2.1
  have h_pI := popN_le I 12
  have h_sl := shl32_one (popN I 12) (by omega)
  have h_2p : 2 ^ popN I 12 ≤ 2 ^ 12 := Nat.pow_le_pow_right (by decide) h_pI
  refine CT.ofJ (own := RX0) (cc := cX0_measureSets) (n := 8) (ret := none) (by decide) rfl cw_X0_measureSets (by decide) (Nat.le_of_ble_eq_true rfl) (ls := [some (rf (EC x) 56), some (iv w), some (rf (EC x) (2 + 7 * c)), some (iv I), some (iv k), none, none, none]) rfl ?_
  intro X G
  refine j_iconst G dX0_measureSets_0 ?_
  refine j_iload_n G dX0_measureSets_1 rfl ?_
  refine j_callS G ms_X0_76 dX0_measureSets_2 (x_bitCount (I : Int)) rfl rfl (by exact Nat.le_of_ble_eq_true rfl) (by first | decide | omega) (kI ?_)
  rw [bcF_pop I (by omega), show ((pop I : Nat) : Int) = (popN I 12 : Nat) from rfl]
  refine j_ishl G dX0_measureSets_5 ?_
  rw [h_sl]
  refine j_istore5 G dX0_measureSets_6 (by decide) rfl ?_
  refine j_iconst G dX0_measureSets_8 ?_
  refine j_istore6 G dX0_measureSets_9 (by decide) rfl ?_
  refine j_iconst G dX0_measureSets_11 ?_
  refine j_istore7 G dX0_measureSets_12 (by decide) rfl ?_
  refine j_pc (p2 := 14) rfl ?_
  refine j_weak (ls' := [some (rf (EC x) 56), some (iv w), some (rf (EC x) (2 + 7 * c)), some (iv I), some (iv k), some (iv ((2 ^ popN I 12 : Nat) : Int)), some (iv ((0 : Nat) : Int)), some (iv ((0 : Nat) : Int))]) ?_ ⟨rfl, rfl, rfl, rfl, rfl, rfl, rfl, rfl, trivial⟩
  refine down (Pr := fun i => ∀ (τ2 : MemT) (sv : Int), Ons (fun j => j = 74 ∨ j = 75) τ τ2 → (i < 2 ^ popN I 12 → sv = (pd 12 I i : Nat)) → (∀ a : Nat, a < i → popN (pd 12 I a) 12 ≤ k → τ2 75 (pd 12 I a : Nat) = cwW σ c m w (pd 12 I a)) → JJ (EC x) X 2 (fun r τ2 => r = none ∧ Ons (fun j => j = 74 ∨ j = 75) τ τ2 ∧ ∀ s : Nat, sub s I → popN s 12 ≤ k → τ2 75 s = cwW σ c m w s) 8 14 [some (rf (EC x) 56), some (iv w), some (rf (EC x) (2 + 7 * c)), some (iv I), some (iv k), some (iv ((2 ^ popN I 12 : Nat) : Int)), some (iv sv), some (iv i)] [] τ2) (2 ^ popN I 12) ?_ 0 (Nat.zero_le _) τ 0 (Ons.rf _ _) (fun _ => by rw [pd_0]; rfl) (fun a h_a => by omega)
  intro i h_i ih τ2 sv h_o2 h_sv h_v
  have h_oo : Ons scB σ τ2 := h_o.tr (h_o2.wk (fun j h => by unfold scB; omega))
  generalize h_T : (2 ^ popN I 12 : Nat) = T at h_2p h_i h_sv ih ⊢
  refine j_iload G dX0_measureSets_14 rfl ?_
  refine j_iload G dX0_measureSets_16 rfl ?_
  refine j_icmp_ge G dX0_measureSets_18 (tgt := 60) (by decide) (by omega) (by omega) (fun c_18 => ?_) (fun c_18 => ?_)
  · refine j_return G dX0_measureSets_60 ?_
    obtain rfl : i = T := by omega
    refine ⟨rfl, h_o2, fun s h_s h_p => ?_⟩
    obtain ⟨a, h_1, h_2⟩ := pd_all 12 I s h_I4 h_s
    have h_3 := h_v a (by omega) (by rw [h_2]; exact h_p)
    rw [h_2] at h_3
    exact h_3
  · have h_iT : i < T := by omega
    rw [h_sv h_iT]
    have h_sb := pd_sub 12 I i
    have h_le := sub_le 12 _ _ h_I4 h_sb
    have h_46 : ∀ τ3 : MemT, Ons (fun j => j = 74 ∨ j = 75) τ τ3 → (∀ a : Nat, a < i + 1 → popN (pd 12 I a) 12 ≤ k → τ3 75 (pd 12 I a : Nat) = cwW σ c m w (pd 12 I a)) → JJ (EC x) X 2 (fun r τ2 => r = none ∧ Ons (fun j => j = 74 ∨ j = 75) τ τ2 ∧ ∀ s : Nat, sub s I → popN s 12 ≤ k → τ2 75 s = cwW σ c m w s) 8 46 [some (rf (EC x) 56), some (iv w), some (rf (EC x) (2 + 7 * c)), some (iv I), some (iv k), some (iv (T : Int)), some (iv (pd 12 I i : Nat)), some (iv i)] [] τ3 := by
      intro τ3 h_o3 h_v3
      · refine j_iload G dX0_measureSets_46 rfl ?_
        refine j_iload_n G dX0_measureSets_48 rfl ?_
        refine j_callS G ms_X0_85 dX0_measureSets_49 (c_nextSet (pd 12 I i : Nat) (I : Int)) rfl rfl (by exact Nat.le_of_ble_eq_true rfl) (by first | decide | omega) (kI ?_)
        refine j_istore6 G dX0_measureSets_52 (by decide) rfl ?_
        refine j_iinc7 G dX0_measureSets_54 (by decide) rfl rfl ?_
        refine j_goto G dX0_measureSets_57 (tgt := 14) (by decide) ?_
        refine j_pc (p2 := 14) rfl ?_
        exact ih h_iT τ3 _ h_o3 (fun h_l => nxN_up h_I4 h_sb i rfl (by rw [h_T]; exact h_l)) h_v3
    refine j_iload G dX0_measureSets_21 rfl ?_
    refine j_callS G ms_X0_76 dX0_measureSets_23 (x_bitCount ((pd 12 I i : Nat) : Int)) rfl rfl (by exact Nat.le_of_ble_eq_true rfl) (by first | decide | omega) (kI ?_)
    rw [bcF_pop (pd 12 I i) (by omega), show ((pop (pd 12 I i) : Nat) : Int) = (popN (pd 12 I i) 12 : Nat) from rfl]
    have h_pp := popN_le (pd 12 I i) 12
    refine j_iload G dX0_measureSets_26 rfl ?_
    refine j_icmp_gt G dX0_measureSets_28 (tgt := 46) (by decide) (by omega) (by omega) (fun c_28 => ?_) (fun c_28 => ?_)
    · refine j_pc (p2 := 46) rfl ?_
      first
      | (refine h_46 _ ((h_o2.tr (h_o3.wk (fun j h => by omega))).up (by omega)) (fun a h_a h_pa => ?_)
         by_cases h_e : a = i
         · rw [h_e, up_same]
         · have h_lt := pd_lt 12 I a i (by omega) (by omega)
           rw [up_idx (by omega), h_o3 75 (by decide)]
           exact h_v a (by omega) h_pa)
      | (refine h_46 τ2 h_o2 (fun a h_a h_pa => ?_)
         by_cases h_e : a = i
         · rw [h_e] at h_pa
           omega
         · exact h_v a (by omega) h_pa)
    · first | refine j_aload_n G dX0_measureSets_31 rfl ?_ | refine j_aload_nN G dX0_measureSets_31 rfl ?_
      refine j_getr G fl_X0_38 dX0_measureSets_32 (by first | exact rfl | assumption) (by rfl) ?_
      refine j_iload G dX0_measureSets_35 rfl ?_
      first | refine j_aload_n G dX0_measureSets_37 rfl ?_ | refine j_aload_nN G dX0_measureSets_37 rfl ?_
      refine j_iload_n G dX0_measureSets_38 rfl ?_
      first | refine j_aload_n G dX0_measureSets_39 rfl ?_ | refine j_aload_nN G dX0_measureSets_39 rfl ?_
      refine j_iload G dX0_measureSets_40 rfl ?_
      refine j_callV G mv_X0_113 dX0_measureSets_42 (c_cellsWithC (σ := σ) w n m c (pd 12 I i) h_oo h_w h_n h_c h_wc h_ww h_m (goS_sub h_I h_sb) (fun p len h_1 h_2 => by rw [h_o2 73 (by omega)]; exact h_73 p len h_1 h_2)) (by first | exact rfl | assumption) (by decide) (by rfl) rfl rfl (by exact Nat.le_of_ble_eq_true rfl) (by first | decide | omega) (kP (fun y τ3 h_y => ?_))
      obtain ⟨rfl, h_o3⟩ := h_y
      have h_cw : 0 ≤ cwW σ c m w (pd 12 I i) ∧ cwW σ c m w (pd 12 I i) ≤ 268435456 := by
        have h_wz := (WdO h_ww h_n h_w).2.2.1
        rcases cwA_v (c := c) (t := wtx σ w) (z := wsz σ w) h_m (fun r => (pd 12 I i).testBit r) 0 (by omega) with h | h
        · unfold cwW
          omega
        · unfold cwW
          omega
      refine j_iastore G dX0_measureSets_45 (by first | exact rfl | assumption) (by omega) (by omega) ?_
      refine j_pc (p2 := 46) rfl ?_
      first
      | (refine h_46 _ ((h_o2.tr (h_o3.wk (fun j h => by omega))).up (by omega)) (fun a h_a h_pa => ?_)
         by_cases h_e : a = i
         · rw [h_e, up_same]
         · have h_lt := pd_lt 12 I a i (by omega) (by omega)
           rw [up_idx (by omega), h_o3 75 (by decide)]
           exact h_v a (by omega) h_pa)
      | (refine h_46 τ2 h_o2 (fun a h_a h_pa => ?_)
         by_cases h_e : a = i
         · rw [h_e] at h_pa
           omega
         · exact h_v a (by omega) h_pa)
end RB
