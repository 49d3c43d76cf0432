def orA (g : Nat → Nat) : Nat → Nat
  | 0 => 0
  | n + 1 => orA g n ||| g n
theorem orA_s (g : Nat → Nat) (n : Nat) : orA g (n + 1) = orA g n ||| g n := rfl
theorem orA_lt {g : Nat → Nat} {m : Nat} : ∀ n, (∀ i, i < n → g i < 2 ^ m) → orA g n < 2 ^ m
  | 0, _ => Nat.two_pow_pos _
  | n + 1, h => Nat.or_lt_two_pow (orA_lt n (fun i hi => h i (by omega))) (h n (by omega))
theorem orA_cg {g g2 : Nat → Nat} : ∀ n, (∀ i, i < n → g i = g2 i) → orA g n = orA g2 n
  | 0, _ => rfl
  | n + 1, h => by rw [orA_s, orA_s, orA_cg n (fun i hi => h i (by omega)), h n (by omega)]
theorem orA_bit (g : Nat → Nat) (j : Nat) : ∀ n, (orA g n).testBit j = anyB (fun i => (g i).testBit j) n
  | 0 => by simp [orA, anyB]
  | n + 1 => by rw [orA_s, Nat.testBit_or, orA_bit g j n]; rfl
theorem or_n {a b : Nat} (ha : a < 2147483648) (hb : b < 2147483648) : or32 a b = ((a ||| b : Nat) : Int) := or32_nat ha hb
def heS (σ : MemT) (s : Nat) (r : Nat) : Int := if σ (78 + 2 * r) 1 = s then 1 else 0
def noS (σ : MemT) (s : Nat) (r : Nat) : Int := if σ (78 + 2 * r) 1 = s ∧ rdS σ r s = 0 then 1 else 0
def knS (σ : MemT) (s : Nat) (r : Nat) : Nat := if σ (78 + 2 * r) 1 = s then knA (σ (79 + 2 * r)) 5 else 0
def reS (σ : MemT) (s : Nat) (r : Nat) : Nat := if σ (78 + 2 * r) 1 = s then rdS σ r s else 0
theorem knS_lt (σ : MemT) (s n : Nat) : orA (knS σ s) n < 2 ^ 5 := orA_lt n (fun i _ => by unfold knS; split; exact knA_lt _ 5; decide)
theorem reS_lt (σ : MemT) (s n : Nat) : orA (reS σ s) n < 2 ^ 8 := orA_lt n (fun i _ => by unfold reS rdS; split; exact bo_lt _ 8; decide)
theorem heS_rg (σ : MemT) (s n : Nat) : 0 ≤ sm (heS σ s) n ∧ sm (heS σ s) n ≤ n := by
  have := sm_rg (g := heS σ s) (a := 0) (b := 1) n (fun i _ => by unfold heS; split <;> omega)
  omega
theorem noS_rg (σ : MemT) (s n : Nat) : 0 ≤ sm (noS σ s) n ∧ sm (noS σ s) n ≤ n := by
  have := sm_rg (g := noS σ s) (a := 0) (b := 1) n (fun i _ => by unfold noS; split <;> omega)
  omega
/-- books of which a copy stands there -/
def stS (σ : MemT) (s : Nat) : Nat := bo (fun b => anyB (fun e => decide (0 < σ (121 + 12 * s + b) e)) 5) 8
def waS (σ : MemT) (s m : Nat) : Int := sm (fun b => sm (fun e => if m.testBit e = true then 0 else σ (121 + 12 * s + b) e) 5) 8
theorem st31 (σ : MemT) (s : Nat) : bo (fun b => anyB (fun e => (31 : Nat).testBit e && decide (0 < σ (121 + 12 * s + b) e)) 5) 8 = stS σ s := bo_cg 8 (fun b _ => anyB_cg 5 (fun e h_e => by rcases (show e = 0 ∨ e = 1 ∨ e = 2 ∨ e = 3 ∨ e = 4 by omega) with rfl | rfl | rfl | rfl | rfl <;> simp (decide := true)))
/-- what those there read is what their codes give -/
theorem re_kn (σ : MemT) (s n : Nat) : bo (fun b => anyB (fun e => (orA (knS σ s) n).testBit e && decide (0 < σ (121 + 12 * s + b) e)) 5) 8 = orA (reS σ s) n := by
  apply Nat.eq_of_testBit_eq
  intro b
  rw [bo_bit, orA_bit, Bool.eq_iff_iff, Bool.and_eq_true, decide_eq_true_eq, anyB_iff, anyB_iff]
  constructor
  · rintro ⟨h_b, e, h_e, h_1⟩
    rw [Bool.and_eq_true, orA_bit, anyB_iff, decide_eq_true_eq] at h_1
    obtain ⟨⟨r, h_r, h_2⟩, h_3⟩ := h_1
    refine ⟨r, h_r, ?_⟩
    unfold knS at h_2
    unfold reS
    by_cases h_s : σ (78 + 2 * r) 1 = s
    · rw [if_pos h_s] at h_2 ⊢
      rw [knA_bit _ e 5 h_e, decide_eq_true_eq] at h_2
      unfold rdS
      rw [bo_bit, Bool.and_eq_true, decide_eq_true_eq, anyB_iff]
      exact ⟨h_b, e, h_e, by simp [h_2, h_3]⟩
    · rw [if_neg h_s] at h_2
      simp at h_2
  · rintro ⟨r, h_r, h_2⟩
    unfold reS at h_2
    by_cases h_s : σ (78 + 2 * r) 1 = s
    · rw [if_pos h_s] at h_2
      unfold rdS at h_2
      rw [bo_bit, Bool.and_eq_true, decide_eq_true_eq, anyB_iff] at h_2
      obtain ⟨h_b, e, h_e, h_3⟩ := h_2
      rw [Bool.and_eq_true, decide_eq_true_eq, decide_eq_true_eq] at h_3
      refine ⟨h_b, e, h_e, ?_⟩
      rw [Bool.and_eq_true, orA_bit, anyB_iff, decide_eq_true_eq]
      refine ⟨⟨r, h_r, ?_⟩, h_3.2⟩
      unfold knS
      rw [if_pos h_s, knA_bit _ e 5 h_e, decide_eq_true_eq]
      exact h_3.1
    · rw [if_neg h_s] at h_2
      simp at h_2
def scS (σ : MemT) (s n : Nat) (w : Int) : Int := if w = 0 then sm (noS σ s) n else if w = 1 then waS σ s (orA (knS σ s) n) else if w = 2 then sm (heS σ s) n else if w = 3 then and32 (stS σ s) (xor32 (orA (reS σ s) n) (-1)) else -2
section SC
variable {x x1 x2 : CX} {μ σ : MemT}
theorem c_school (s n : Nat) (h_s : s < 6) (w : Int) (h_1 : (-2147483648 ≤ w ∧ w < 2147483648)) (h_n : σ 0 8 = n) (h_20 : n ≤ 20) (h_rd : WfRd σ) (h_sh : WfSh σ) : CT (EC x) 3 yX11_school [rf (EC x) 0, iv s, iv w] σ (rI (scS σ s n w) σ) := by
  obtain ⟨h_y1, h_y2, h_y3, -⟩ := ly_school (x := x) h_s
  refine CT.ofJ (own := RX11) (cc := cX11_school) (n := 9) (ret := (some .int)) (by decide) rfl cw_X11_school (by decide) (Nat.le_of_ble_eq_true rfl) (ls := [some (rf (EC x) 0), some (iv s), some (iv w), none, none, none, none, none, none]) rfl ?_
  intro X G
  first | refine j_aload_n G dX11_school_0 rfl ?_ | refine j_aload_nN G dX11_school_0 rfl ?_
  refine j_iload_n G dX11_school_1 rfl ?_
  refine j_callV G mv_X11_197 dX11_school_2 (c_schoolAt s h_s) (by first | assumption | rfl) (by decide) (by rfl) rfl rfl (by exact Nat.le_of_ble_eq_true rfl) (by decide) (kV ?_)
  first | refine j_astore3 G dX11_school_5 (by decide) rfl ?_ | refine j_astoreN3 G dX11_school_5 (by decide) rfl ?_
  first | refine j_aload_n G dX11_school_6 rfl ?_ | refine j_aload_nN G dX11_school_6 rfl ?_
  refine j_ifnonnull G dX11_school_7 (tgt := 12) (by decide) ?_
  refine j_iconst G dX11_school_12 ?_
  refine j_istore4 G dX11_school_13 (by decide) rfl ?_
  refine j_iconst G dX11_school_15 ?_
  refine j_istore5 G dX11_school_16 (by decide) rfl ?_
  refine j_iconst G dX11_school_18 ?_
  refine j_pc (p2 := 19) rfl ?_
  refine j_istore6 G dX11_school_19 (by decide) rfl ?_
  refine j_iconst G dX11_school_21 ?_
  refine j_istore7 G dX11_school_22 (by decide) rfl ?_
  refine j_pc (p2 := 24) rfl ?_
  refine j_weak (ls' := [some (rf (EC x) 0), some (iv s), some (iv w), some (rf (EC x) (119 + 12 * s)), some (iv (sm (heS σ s) 0)), some (iv (sm (noS σ s) 0)), some (iv ((orA (knS σ s) 0 : Nat) : Int)), some (iv ((0 : Nat) : Int)), none]) ?_ ⟨rfl, rfl, rfl, rfl, rfl, rfl, rfl, rfl, trivial⟩
  refine down (Pr := fun i => JJ (EC x) X 3 (rI (scS σ s n w) σ) 9 24 [some (rf (EC x) 0), some (iv s), some (iv w), some (rf (EC x) (119 + 12 * s)), some (iv (sm (heS σ s) i)), some (iv (sm (noS σ s) i)), some (iv ((orA (knS σ s) i : Nat) : Int)), some (iv i), none] [] σ) n ?_ 0 (Nat.zero_le _)
  intro i h_i ih
  have h_he := heS_rg σ s i
  have h_no := noS_rg σ s i
  have h_kn := pow31 (knS_lt σ s i) (by decide)
  refine j_iload G dX11_school_24 rfl ?_
  first | refine j_aload_n G dX11_school_26 rfl ?_ | refine j_aload_nN G dX11_school_26 rfl ?_
  refine j_geti G fl_X11_61 dX11_school_27 8 rfl (by first | assumption | rfl) (by rfl) (fun r_27 => ?_)
  try simp (disch := omega) only [up_same, up_cell, up_idx, cpm_at, fil_at] at r_27 ⊢
  refine j_icmp_ge G dX11_school_30 (tgt := 89) (by decide) (by omega) (by omega) (fun c_30 => ?_) (fun c_30 => ?_)
  · refine j_pc (p2 := 89) rfl ?_
    obtain rfl : i = n := by omega
    unfold scS
    refine j_iload_n G dX11_school_89 rfl ?_
    by_cases s_90_0 : w = 0
    · refine j_tableIn G dX11_school_90 (tgt := 120) (by omega) (by omega) (by rw [s_90_0]; rfl) (by decide) ?_
      refine j_iload G dX11_school_120 rfl ?_
      refine j_ireturn G dX11_school_122 ?_
      exact ⟨by repeat' split <;> first | rfl | omega, rfl⟩
    by_cases s_90_1 : w = 1
    · refine j_tableIn G dX11_school_90 (tgt := 123) (by omega) (by omega) (by rw [s_90_1]; rfl) (by decide) ?_
      first | refine j_aload_n G dX11_school_123 rfl ?_ | refine j_aload_nN G dX11_school_123 rfl ?_
      refine j_iload G dX11_school_124 rfl ?_
      refine j_callV G mv_X11_248 dX11_school_126 (s_beyond s h_s (orA (knS σ s) i) h_kn h_sh) (by first | assumption | rfl) (by decide) (by rfl) rfl rfl (by exact Nat.le_of_ble_eq_true rfl) (by decide) (kI ?_)
      refine j_ireturn G dX11_school_129 ?_
      exact ⟨by repeat' split <;> first | rfl | omega, rfl⟩
    by_cases s_90_2 : w = 2
    · refine j_tableIn G dX11_school_90 (tgt := 130) (by omega) (by omega) (by rw [s_90_2]; rfl) (by decide) ?_
      refine j_iload G dX11_school_130 rfl ?_
      refine j_ireturn G dX11_school_132 ?_
      exact ⟨by repeat' split <;> first | rfl | omega, rfl⟩
    by_cases s_90_3 : w = 3
    · refine j_tableIn G dX11_school_90 (tgt := 133) (by omega) (by omega) (by rw [s_90_3]; rfl) (by decide) ?_
      first | refine j_aload_n G dX11_school_133 rfl ?_ | refine j_aload_nN G dX11_school_133 rfl ?_
      refine j_bipush G dX11_school_134 (by decide) ?_
      refine j_callV G mv_X11_251 dX11_school_136 (s_booksIn s h_s 31 (by decide)) (by first | assumption | rfl) (by decide) (by rfl) rfl rfl (by exact Nat.le_of_ble_eq_true rfl) (by decide) (kI ?_)
      first | refine j_aload_n G dX11_school_139 rfl ?_ | refine j_aload_nN G dX11_school_139 rfl ?_
      refine j_iload G dX11_school_140 rfl ?_
      refine j_callV G mv_X11_251 dX11_school_142 (s_booksIn s h_s (orA (knS σ s) i) h_kn) (by first | assumption | rfl) (by decide) (by rfl) rfl rfl (by exact Nat.le_of_ble_eq_true rfl) (by decide) (kI ?_)
      refine j_iconst G dX11_school_145 ?_
      refine j_ixor G dX11_school_146 ?_
      refine j_iand G dX11_school_147 ?_
      refine j_ireturn G dX11_school_148 ?_
      rw [st31, re_kn]
      exact ⟨by repeat' split <;> first | rfl | omega, rfl⟩
    refine j_tableOut G dX11_school_90 (tgt := 149) (by omega) (by omega) (by decide) ?_
    refine j_bipush G dX11_school_149 (by decide) ?_
    refine j_ireturn G dX11_school_151 ?_
    exact ⟨by repeat' split <;> first | rfl | omega, rfl⟩
  · first | refine j_aload_n G dX11_school_33 rfl ?_ | refine j_aload_nN G dX11_school_33 rfl ?_
    have h_i20 : i < 20 := by omega
    obtain ⟨h_z1, h_z2, h_z3⟩ := ly_reader (x := x) h_i20
    refine j_getr G fl_X11_56 dX11_school_34 (by first | assumption | rfl) (by rfl) ?_
    refine j_iload G dX11_school_37 rfl ?_
    refine j_aaload G dX11_school_39 (by first | assumption | rfl) (by decide) (by omega) h_z1 ?_
    first | refine j_astore8 G dX11_school_40 (by decide) rfl ?_ | refine j_astoreN8 G dX11_school_40 (by decide) rfl ?_
    first | refine j_aload G dX11_school_42 rfl ?_ | refine j_aloadN G dX11_school_42 rfl ?_
    refine j_geti G fl_X11_204 dX11_school_44 1 rfl (by first | assumption | rfl) (by rfl) (fun r_44 => ?_)
    try simp (disch := omega) only [up_same, up_cell, up_idx, cpm_at, fil_at] at r_44 ⊢
    refine j_iload_n G dX11_school_47 rfl ?_
    refine j_icmp_ne G dX11_school_48 (tgt := 83) (by decide) (by omega) (by omega) (fun c_48 => ?_) (fun c_48 => ?_)
    · refine j_iinc7 G dX11_school_83 (by decide) rfl rfl ?_
      refine j_goto G dX11_school_86 (tgt := 24) (by decide) ?_
      refine j_pc (p2 := 24) rfl ?_
      have h_z := ih (by omega)
      rw [sm_s, sm_s, orA_s] at h_z
      unfold heS noS knS at h_z ⊢
      first
      | (rw [if_neg (by omega), if_neg (by omega), if_neg (by omega), Int.add_zero, Int.add_zero, Nat.or_zero] at h_z; exact j_weak h_z ⟨rfl, rfl, rfl, rfl, rfl, rfl, rfl, rfl, trivial⟩)
      | (rw [if_pos (by omega), if_pos (by omega), if_pos (by omega)] at h_z; exact j_weak h_z ⟨rfl, rfl, rfl, rfl, rfl, rfl, rfl, rfl, trivial⟩)
      | (rw [if_pos (by omega), if_neg (by omega), if_pos (by omega)] at h_z; exact j_weak h_z ⟨rfl, rfl, rfl, rfl, rfl, rfl, rfl, rfl, trivial⟩)
    · refine j_iinc4 G dX11_school_51 (by decide) rfl rfl ?_
      refine j_iload G dX11_school_54 rfl ?_
      first | refine j_aload G dX11_school_56 rfl ?_ | refine j_aloadN G dX11_school_56 rfl ?_
      refine j_callV G mv_X11_220 dX11_school_58 (r_known (78 + 2 * i) (79 + 2 * i) h_z2 h_z3) (by first | assumption | rfl) (by decide) (by rfl) rfl rfl (by exact Nat.le_of_ble_eq_true rfl) (by decide) (kI ?_)
      refine j_ior G dX11_school_61 ?_
      rw [or_n h_kn (pow31 (knA_lt _ 5) (by decide))]
      refine j_istore6 G dX11_school_62 (by decide) rfl ?_
      refine j_iload G dX11_school_64 rfl ?_
      first | refine j_aload_n G dX11_school_66 rfl ?_ | refine j_aload_nN G dX11_school_66 rfl ?_
      first | refine j_aload G dX11_school_67 rfl ?_ | refine j_aloadN G dX11_school_67 rfl ?_
      refine j_callV G mv_X11_244 dX11_school_69 (c_readable i s h_i20 h_s (by omega)) (by first | assumption | rfl) (by decide) (by rfl) rfl rfl (by exact Nat.le_of_ble_eq_true rfl) (by decide) (kI ?_)
      refine j_if_ne G dX11_school_72 (tgt := 79) (by decide) (by have := bo_lt (fun b => anyB (fun e => decide (0 < σ (79 + 2 * i) e) && decide (0 < σ (121 + 12 * s + b) e)) 5) 8; unfold rdS; omega) (fun c_72 => ?_) (fun c_72 => ?_)
      · refine j_iconst G dX11_school_79 ?_
        refine j_iadd G dX11_school_80 ?_
        refine j_istore5 G dX11_school_81 (by decide) rfl ?_
        refine j_iinc7 G dX11_school_83 (by decide) rfl rfl ?_
        refine j_goto G dX11_school_86 (tgt := 24) (by decide) ?_
        refine j_pc (p2 := 24) rfl ?_
        have h_z := ih (by omega)
        rw [sm_s, sm_s, orA_s] at h_z
        unfold heS noS knS at h_z ⊢
        first
        | (rw [if_neg (by omega), if_neg (by omega), if_neg (by omega), Int.add_zero, Int.add_zero, Nat.or_zero] at h_z; exact j_weak h_z ⟨rfl, rfl, rfl, rfl, rfl, rfl, rfl, rfl, trivial⟩)
        | (rw [if_pos (by omega), if_pos (by omega), if_pos (by omega)] at h_z; exact j_weak h_z ⟨rfl, rfl, rfl, rfl, rfl, rfl, rfl, rfl, trivial⟩)
        | (rw [if_pos (by omega), if_neg (by omega), if_pos (by omega)] at h_z; exact j_weak h_z ⟨rfl, rfl, rfl, rfl, rfl, rfl, rfl, rfl, trivial⟩)
      · refine j_iconst G dX11_school_75 ?_
        refine j_goto G dX11_school_76 (tgt := 80) (by decide) ?_
        refine j_iadd G dX11_school_80 ?_
        refine j_istore5 G dX11_school_81 (by decide) rfl ?_
        refine j_iinc7 G dX11_school_83 (by decide) rfl rfl ?_
        refine j_goto G dX11_school_86 (tgt := 24) (by decide) ?_
        refine j_pc (p2 := 24) rfl ?_
        have h_z := ih (by omega)
        rw [sm_s, sm_s, orA_s] at h_z
        unfold heS noS knS at h_z ⊢
        first
        | (rw [if_neg (by omega), if_neg (by omega), if_neg (by omega), Int.add_zero, Int.add_zero, Nat.or_zero] at h_z; exact j_weak h_z ⟨rfl, rfl, rfl, rfl, rfl, rfl, rfl, rfl, trivial⟩)
        | (rw [if_pos (by omega), if_pos (by omega), if_pos (by omega)] at h_z; exact j_weak h_z ⟨rfl, rfl, rfl, rfl, rfl, rfl, rfl, rfl, trivial⟩)
        | (rw [if_pos (by omega), if_neg (by omega), if_pos (by omega)] at h_z; exact j_weak h_z ⟨rfl, rfl, rfl, rfl, rfl, rfl, rfl, rfl, trivial⟩)
theorem c_schoolN (s w : Int) (h_1 : (-2147483648 ≤ s ∧ s < 2147483648)) (h_s : ¬ (0 ≤ s ∧ s ≤ 5)) : CT (EC x) 3 yX11_school [rf (EC x) 0, iv s, iv w] σ (rI (-1) σ) := by
  refine CT.ofJ (own := RX11) (cc := cX11_school) (n := 9) (ret := (some .int)) (by decide) rfl cw_X11_school (by decide) (Nat.le_of_ble_eq_true rfl) (ls := [some (rf (EC x) 0), some (iv s), some (iv w), none, none, none, none, none, none]) rfl ?_
  intro X G
  first | refine j_aload_n G dX11_school_0 rfl ?_ | refine j_aload_nN G dX11_school_0 rfl ?_
  refine j_iload_n G dX11_school_1 rfl ?_
  refine j_callV G mv_X11_197 dX11_school_2 (c_schoolAtN s h_1 h_s) (by first | assumption | rfl) (by decide) (by rfl) rfl rfl (by exact Nat.le_of_ble_eq_true rfl) (by decide) (kV ?_)
  first | refine j_astore3 G dX11_school_5 (by decide) rfl ?_ | refine j_astoreN3 G dX11_school_5 (by decide) rfl ?_
  first | refine j_aload_n G dX11_school_6 rfl ?_ | refine j_aload_nN G dX11_school_6 rfl ?_
  refine j_ifnonnullN G dX11_school_7 ?_
  refine j_iconst G dX11_school_10 ?_
  refine j_ireturn G dX11_school_11 ?_
  exact ⟨rfl, rfl⟩
end SC
