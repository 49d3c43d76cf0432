theorem sm_add (g : Nat → Int) (m : Nat) : ∀ n, sm g (m + n) = sm g m + sm (fun j => g (m + j)) n
  | 0 => by simp [sm]
  | n + 1 => by rw [← Nat.add_assoc, sm_s, sm_add g m n, sm_s]; omega
theorem sm_flat (g : Nat → Int) (m : Nat) : ∀ n, sm g (m * n) = sm (fun i => sm (fun j => g (m * i + j)) m) n
  | 0 => rfl
  | n + 1 => by rw [Nat.mul_succ, sm_add, sm_flat g m n, sm_s]
section SH2
variable {x : CX} {μ σ : MemT}
theorem s_beyond (s : Nat) (h_s : s < 6) (m : Nat) (h_m : m < 2147483648) (h_w : WfSh σ) : CT (EC x) 0 yX8_copiesBeyond [rf (EC x) (119 + 12 * s), iv m] σ (rI (sm (fun b => sm (fun e => if m.testBit e = true then 0 else σ (121 + 12 * s + b) e) 5) 8) σ) := by
  obtain ⟨h_y1, h_y2, h_y3, -⟩ := ly_school (x := x) h_s
  have h_in : ∀ b, b < 8 → ∀ e, e < 5 → 0 ≤ (if m.testBit e = true then 0 else σ (121 + 12 * s + b) e) ∧ (if m.testBit e = true then 0 else σ (121 + 12 * s + b) e) ≤ 100 := by
    intro b h_b e h_e
    have := h_w s h_s b h_b e (by omega) (by omega)
    split <;> omega
  have h_ro : ∀ b, b < 8 → ∀ e : Nat, e ≤ 5 → 0 ≤ sm (fun e => if m.testBit e = true then 0 else σ (121 + 12 * s + b) e) e ∧ sm (fun e => if m.testBit e = true then 0 else σ (121 + 12 * s + b) e) e ≤ 500 := by
    intro b h_b e h_e
    have := sm_rg (g := fun e => if m.testBit e = true then 0 else σ (121 + 12 * s + b) e) (a := 0) (b := 100) e (fun i hi => h_in b h_b i (by omega))
    omega
  have h_ou : ∀ b : Nat, b ≤ 8 → 0 ≤ sm (fun b => sm (fun e => if m.testBit e = true then 0 else σ (121 + 12 * s + b) e) 5) b ∧ sm (fun b => sm (fun e => if m.testBit e = true then 0 else σ (121 + 12 * s + b) e) 5) b ≤ 4000 := by
    intro b h_b
    have := sm_rg (g := fun b => sm (fun e => if m.testBit e = true then 0 else σ (121 + 12 * s + b) e) 5) (a := 0) (b := 500) b (fun i hi => h_ro i (by omega) 5 (by omega))
    omega
  refine CT.ofJ (own := RX8) (cc := cX8_copiesBeyond) (n := 5) (ret := (some .int)) (by decide) rfl cw_X8_copiesBeyond (by decide) (Nat.le_of_ble_eq_true rfl) (ls := [some (rf (EC x) (119 + 12 * s)), some (iv m), none, none, none]) rfl ?_
  intro X G
  refine j_iconst G dX8_copiesBeyond_0 ?_
  refine j_istore2 G dX8_copiesBeyond_1 (by decide) rfl ?_
  refine j_iconst G dX8_copiesBeyond_2 ?_
  refine j_istore3 G dX8_copiesBeyond_3 (by decide) rfl ?_
  refine j_pc (p2 := 4) rfl ?_
  refine down (Pr := fun b => JJ (EC x) X 0 (rI (sm (fun b => sm (fun e => if m.testBit e = true then 0 else σ (121 + 12 * s + b) e) 5) 8) σ) 5 4 [some (rf (EC x) (119 + 12 * s)), some (iv m), some (iv (sm (fun b => sm (fun e => if m.testBit e = true then 0 else σ (121 + 12 * s + b) e) 5) b)), some (iv b), none] [] σ) 8 ?_ 0 (by decide)
  intro b h_b ihb
  generalize h_pst : rI (sm (fun b => sm (fun e => if m.testBit e = true then 0 else σ (121 + 12 * s + b) e) 5) 8) σ = pst at ihb ⊢
  have h_B := h_ou b h_b
  refine j_iload_n G dX8_copiesBeyond_4 rfl ?_
  refine j_bipush G dX8_copiesBeyond_5 (by decide) ?_
  refine j_icmp_ge G dX8_copiesBeyond_7 (tgt := 57) (by decide) (by omega) (by omega) (fun c_7 => ?_) (fun c_7 => ?_)
  · refine j_iload_n G dX8_copiesBeyond_57 rfl ?_
    refine j_ireturn G dX8_copiesBeyond_58 ?_
    rw [← h_pst, show b = 8 by omega]
    exact ⟨rfl, rfl⟩
  · refine j_iconst G dX8_copiesBeyond_10 ?_
    refine j_istore4 G dX8_copiesBeyond_11 (by decide) rfl ?_
    refine j_pc (p2 := 13) rfl ?_
    have h_b8 : b < 8 := by omega
    have h_ihb := ihb h_b8
    have h_y4 := ly_copies (s := s) h_s h_b8
    have h_y5 := ly_shelf (x := x) h_s h_b8
    rw [sm_s] at h_ihb
    generalize sm (fun b => sm (fun e => if m.testBit e = true then 0 else σ (121 + 12 * s + b) e) 5) b = B at h_ihb h_B ⊢
    rw [show B = B + sm (fun e => if m.testBit e = true then 0 else σ (121 + 12 * s + b) e) 0 by simp [sm]]
    refine down (Pr := fun e => JJ (EC x) X 0 pst 5 13 [some (rf (EC x) (119 + 12 * s)), some (iv m), some (iv (B + sm (fun e => if m.testBit e = true then 0 else σ (121 + 12 * s + b) e) e)), some (iv b), some (iv e)] [] σ) 5 ?_ 0 (by decide)
    intro e h_e ihe
    have h_C := h_ro b h_b8 e h_e
    refine j_iload G dX8_copiesBeyond_13 rfl ?_
    refine j_iconst G dX8_copiesBeyond_15 ?_
    refine j_icmp_ge G dX8_copiesBeyond_16 (tgt := 51) (by decide) (by omega) (by omega) (fun c_16 => ?_) (fun c_16 => ?_)
    · refine j_iinc3 G dX8_copiesBeyond_51 (by decide) rfl rfl ?_
      refine j_goto G dX8_copiesBeyond_54 (tgt := 4) (by decide) ?_
      refine j_pc (p2 := 4) rfl ?_
      rw [show e = 5 by omega]
      exact j_weak h_ihb ⟨rfl, rfl, rfl, rfl, trivial⟩
    · refine j_iload_n G dX8_copiesBeyond_19 rfl ?_
      refine j_iload_n G dX8_copiesBeyond_20 rfl ?_
      refine j_iload G dX8_copiesBeyond_21 rfl ?_
      refine j_ishr G dX8_copiesBeyond_23 ?_
      refine j_iconst G dX8_copiesBeyond_24 ?_
      refine j_iand G dX8_copiesBeyond_25 ?_
      rw [bit32 h_m (by omega)]
      refine j_iconst G dX8_copiesBeyond_26 ?_
      refine j_icmp_ne G dX8_copiesBeyond_27 (tgt := 34) (by decide) (by have := b2_01 (m.testBit e = true); omega) (by omega) (fun c_27 => ?_) (fun c_27 => ?_)
      · first | refine j_aload_n G dX8_copiesBeyond_34 rfl ?_ | refine j_aload_nN G dX8_copiesBeyond_34 rfl ?_
        refine j_getr G fl_X8_11 dX8_copiesBeyond_35 (by first | assumption | rfl) (by rfl) ?_
        refine j_iload_n G dX8_copiesBeyond_38 rfl ?_
        refine j_aaload G dX8_copiesBeyond_39 (by first | assumption | rfl) (by decide) (by omega) h_y4 ?_
        refine j_iload G dX8_copiesBeyond_40 rfl ?_
        refine j_iaload G dX8_copiesBeyond_42 (by first | assumption | rfl) (by omega) (fun r_42 => ?_)
        try simp (disch := omega) only [up_same, up_cell, up_idx, cpm_at, fil_at] at r_42 ⊢
        refine j_iadd G dX8_copiesBeyond_43 ?_
        refine j_istore2 G dX8_copiesBeyond_44 (by decide) rfl ?_
        refine j_iinc4 G dX8_copiesBeyond_45 (by decide) rfl rfl ?_
        refine j_goto G dX8_copiesBeyond_48 (tgt := 13) (by decide) ?_
        refine j_pc (p2 := 13) rfl ?_
        have h_z := ihe (by omega)
        rw [sm_s, ← Int.add_assoc] at h_z
        unfold b2 at c_27
        by_cases h_t : m.testBit e = true
        · rw [if_pos h_t] at h_z
          first | exact h_z | (exfalso; rw [if_pos h_t] at c_27; omega)
        · rw [if_neg h_t] at h_z
          first | exact h_z | (exfalso; rw [if_neg h_t] at c_27; omega)
      · refine j_iconst G dX8_copiesBeyond_30 ?_
        refine j_goto G dX8_copiesBeyond_31 (tgt := 43) (by decide) ?_
        refine j_iadd G dX8_copiesBeyond_43 ?_
        refine j_istore2 G dX8_copiesBeyond_44 (by decide) rfl ?_
        refine j_iinc4 G dX8_copiesBeyond_45 (by decide) rfl rfl ?_
        refine j_goto G dX8_copiesBeyond_48 (tgt := 13) (by decide) ?_
        refine j_pc (p2 := 13) rfl ?_
        have h_z := ihe (by omega)
        rw [sm_s, ← Int.add_assoc] at h_z
        unfold b2 at c_27
        by_cases h_t : m.testBit e = true
        · rw [if_pos h_t] at h_z
          first | exact h_z | (exfalso; rw [if_pos h_t] at c_27; omega)
        · rw [if_neg h_t] at h_z
          first | exact h_z | (exfalso; rw [if_neg h_t] at c_27; omega)
/-- what a reader's school has for her -/
def rdS (σ : MemT) (r s : Nat) : Nat := bo (fun b => anyB (fun e => decide (0 < σ (79 + 2 * r) e) && decide (0 < σ (121 + 12 * s + b) e)) 5) 8
theorem rdS_of (σ : MemT) (r s : Nat) : bo (fun b => anyB (fun e => (knA (σ (79 + 2 * r)) 5).testBit e && decide (0 < σ (121 + 12 * s + b) e)) 5) 8 = rdS σ r s := bo_cg 8 (fun b _ => anyB_cg 5 (fun e h_e => by rw [knA_bit _ e 5 h_e]))
theorem c_readable (r s : Nat) (h_r : r < 20) (h_s : s < 6) (h_sc : σ (78 + 2 * r) 1 = s) : CT (EC x) 2 yX11_readable [rf (EC x) 0, rf (EC x) (78 + 2 * r)] σ (rI (rdS σ r s) σ) := by
  obtain ⟨h_y1, h_y2, h_y3⟩ := ly_reader (x := x) h_r
  obtain ⟨h_z1, h_z2, -⟩ := ly_school (x := x) h_s
  refine CT.ofJ (own := RX11) (cc := cX11_readable) (n := 3) (ret := (some .int)) (by decide) rfl cw_X11_readable (by decide) (Nat.le_of_ble_eq_true rfl) (ls := [some (rf (EC x) 0), some (rf (EC x) (78 + 2 * r)), none]) rfl ?_
  intro X G
  first | refine j_aload_n G dX11_readable_0 rfl ?_ | refine j_aload_nN G dX11_readable_0 rfl ?_
  first | refine j_aload_n G dX11_readable_1 rfl ?_ | refine j_aload_nN G dX11_readable_1 rfl ?_
  refine j_geti G fl_X11_204 dX11_readable_2 1 rfl (by first | assumption | rfl) (by rfl) (fun r_2 => ?_)
  try simp (disch := omega) only [up_same, up_cell, up_idx, cpm_at, fil_at] at r_2 ⊢
  rw [h_sc]
  refine j_callV G mv_X11_197 dX11_readable_5 (c_schoolAt s h_s) (by first | assumption | rfl) (by decide) (by rfl) rfl rfl (by exact Nat.le_of_ble_eq_true rfl) (by decide) (kV ?_)
  first | refine j_astore2 G dX11_readable_8 (by decide) rfl ?_ | refine j_astoreN2 G dX11_readable_8 (by decide) rfl ?_
  first | refine j_aload_n G dX11_readable_9 rfl ?_ | refine j_aload_nN G dX11_readable_9 rfl ?_
  refine j_ifnonnull G dX11_readable_10 (tgt := 17) (by decide) ?_
  first | refine j_aload_n G dX11_readable_17 rfl ?_ | refine j_aload_nN G dX11_readable_17 rfl ?_
  first | refine j_aload_n G dX11_readable_18 rfl ?_ | refine j_aload_nN G dX11_readable_18 rfl ?_
  refine j_callV G mv_X11_220 dX11_readable_19 (r_known (78 + 2 * r) (79 + 2 * r) h_y2 h_y3) (by first | assumption | rfl) (by decide) (by rfl) rfl rfl (by exact Nat.le_of_ble_eq_true rfl) (by decide) (kI ?_)
  refine j_callV G mv_X11_251 dX11_readable_22 (s_booksIn s h_s (knA (σ (79 + 2 * r)) 5) (pow31 (knA_lt _ 5) (by decide))) (by first | assumption | rfl) (by decide) (by rfl) rfl rfl (by exact Nat.le_of_ble_eq_true rfl) (by decide) (kI ?_)
  refine j_pc (p2 := 25) rfl ?_
  refine j_ireturn G dX11_readable_25 ?_
  exact ⟨by rw [rdS_of], rfl⟩
theorem c_reads (r : Nat) (h_r : r < σ 0 8) (h_n : σ 0 8 ≤ 20) (s : Nat) (h_s : s < 6) (h_sc : σ (78 + 2 * r) 1 = s) : CT (EC x) 3 yX11_reads [rf (EC x) 0, iv r] σ (rI (rdS σ r s) σ) := by
  refine CT.ofJ (own := RX11) (cc := cX11_reads) (n := 3) (ret := (some .int)) (by decide) rfl cw_X11_reads (by decide) (Nat.le_of_ble_eq_true rfl) (ls := [some (rf (EC x) 0), some (iv r), none]) rfl ?_
  intro X G
  first | refine j_aload_n G dX11_reads_0 rfl ?_ | refine j_aload_nN G dX11_reads_0 rfl ?_
  refine j_iload_n G dX11_reads_1 rfl ?_
  refine j_callV G mv_X11_210 dX11_reads_2 (c_readerAt r h_r h_n) (by first | assumption | rfl) (by decide) (by rfl) rfl rfl (by exact Nat.le_of_ble_eq_true rfl) (by decide) (kV ?_)
  first | refine j_astore2 G dX11_reads_5 (by decide) rfl ?_ | refine j_astoreN2 G dX11_reads_5 (by decide) rfl ?_
  first | refine j_aload_n G dX11_reads_6 rfl ?_ | refine j_aload_nN G dX11_reads_6 rfl ?_
  refine j_ifnonnull G dX11_reads_7 (tgt := 14) (by decide) ?_
  first | refine j_aload_n G dX11_reads_14 rfl ?_ | refine j_aload_nN G dX11_reads_14 rfl ?_
  first | refine j_aload_n G dX11_reads_15 rfl ?_ | refine j_aload_nN G dX11_reads_15 rfl ?_
  refine j_callV G mv_X11_244 dX11_reads_16 (c_readable r s (by omega) h_s h_sc) (by first | assumption | rfl) (by decide) (by rfl) rfl rfl (by exact Nat.le_of_ble_eq_true rfl) (by decide) (kI ?_)
  refine j_ireturn G dX11_reads_19 ?_
  exact ⟨rfl, rfl⟩
theorem c_readsN (r : Int) (h_1 : (-2147483648 ≤ r ∧ r < 2147483648)) (h_r : ¬ (0 ≤ r ∧ r < σ 0 8)) (h_n : 0 ≤ σ 0 8 ∧ σ 0 8 ≤ 20) : CT (EC x) 3 yX11_reads [rf (EC x) 0, iv r] σ (rI (-1) σ) := by
  refine CT.ofJ (own := RX11) (cc := cX11_reads) (n := 3) (ret := (some .int)) (by decide) rfl cw_X11_reads (by decide) (Nat.le_of_ble_eq_true rfl) (ls := [some (rf (EC x) 0), some (iv r), none]) rfl ?_
  intro X G
  first | refine j_aload_n G dX11_reads_0 rfl ?_ | refine j_aload_nN G dX11_reads_0 rfl ?_
  refine j_iload_n G dX11_reads_1 rfl ?_
  refine j_callV G mv_X11_210 dX11_reads_2 (c_readerAtN r h_1 h_r h_n) (by first | assumption | rfl) (by decide) (by rfl) rfl rfl (by exact Nat.le_of_ble_eq_true rfl) (by decide) (kV ?_)
  first | refine j_astore2 G dX11_reads_5 (by decide) rfl ?_ | refine j_astoreN2 G dX11_reads_5 (by decide) rfl ?_
  first | refine j_aload_n G dX11_reads_6 rfl ?_ | refine j_aload_nN G dX11_reads_6 rfl ?_
  refine j_ifnonnullN G dX11_reads_7 ?_
  refine j_iconst G dX11_reads_10 ?_
  refine j_goto G dX11_reads_11 (tgt := 19) (by decide) ?_
  refine j_ireturn G dX11_reads_19 ?_
  exact ⟨rfl, rfl⟩
theorem m_canRead (r s b : Nat) (h_r : r < 20) (h_s : s < 6) (h_b : b < 8) (h_sc : μ 23 r = s) : CT (EM x) 1 yX12_canRead [rf (EM x) 0, iv r, iv b] μ (rI (b2 (anyB (fun e => decide (0 < μ 25 (5 * r + e)) && decide (0 < μ 26 (40 * s + 5 * b + e))) 5 = true)) μ) := by
  refine CT.ofJ (own := RX12) (cc := cX12_canRead) (n := 5) (ret := (some .boolean)) (by decide) rfl cw_X12_canRead (by decide) (Nat.le_of_ble_eq_true rfl) (ls := [some (rf (EM x) 0), some (iv r), some (iv b), none, none]) rfl ?_
  intro X G
  refine j_iconst G dX12_canRead_0 ?_
  refine j_istore3 G dX12_canRead_1 (by decide) rfl ?_
  refine j_iconst G dX12_canRead_2 ?_
  refine j_istore4 G dX12_canRead_3 (by decide) rfl ?_
  refine j_pc (p2 := 5) rfl ?_
  refine down (Pr := fun e => JJ (EM x) X 1 (rI (b2 (anyB (fun e => decide (0 < μ 25 (5 * r + e)) && decide (0 < μ 26 (40 * s + 5 * b + e))) 5 = true)) μ) 5 5 [some (rf (EM x) 0), some (iv r), some (iv b), some (iv (b2 (anyB (fun e => decide (0 < μ 25 (5 * r + e)) && decide (0 < μ 26 (40 * s + 5 * b + e))) e = true))), some (iv e)] [] μ) 5 ?_ 0 (by decide)
  intro e h_e ih
  generalize h_pst : rI (b2 (anyB (fun e => decide (0 < μ 25 (5 * r + e)) && decide (0 < μ 26 (40 * s + 5 * b + e))) 5 = true)) μ = pst at ih ⊢
  have h_01 := b2_01 (anyB (fun e => decide (0 < μ 25 (5 * r + e)) && decide (0 < μ 26 (40 * s + 5 * b + e))) e = true)
  refine j_iload G dX12_canRead_5 rfl ?_
  refine j_iconst G dX12_canRead_7 ?_
  refine j_icmp_ge G dX12_canRead_8 (tgt := 61) (by decide) (by omega) (by omega) (fun c_8 => ?_) (fun c_8 => ?_)
  · refine j_iload_n G dX12_canRead_61 rfl ?_
    refine j_zreturn G dX12_canRead_62 (by first | exact b2_01 _ | omega) ?_
    rw [← h_pst, show e = 5 by omega]
    exact ⟨rfl, rfl⟩
  · refine j_iload_n G dX12_canRead_11 rfl ?_
    refine j_if_ne G dX12_canRead_12 (tgt := 49) (by decide) (by omega) (fun c_12 => ?_) (fun c_12 => ?_)
    · refine j_iconst G dX12_canRead_49 ?_
      refine j_goto G dX12_canRead_50 (tgt := 54) (by decide) ?_
      refine j_istore3 G dX12_canRead_54 (by decide) rfl ?_
      refine j_iinc4 G dX12_canRead_55 (by decide) rfl rfl ?_
      refine j_goto G dX12_canRead_58 (tgt := 5) (by decide) ?_
      refine j_pc (p2 := 5) rfl ?_
      have h_z := ih (by omega)
      rw [show anyB (fun e => decide (0 < μ 25 (5 * r + e)) && decide (0 < μ 26 (40 * s + 5 * b + e))) (e + 1) = (anyB (fun e => decide (0 < μ 25 (5 * r + e)) && decide (0 < μ 26 (40 * s + 5 * b + e))) e || (decide (0 < μ 25 (5 * r + e)) && decide (0 < μ 26 (40 * s + 5 * b + e)))) from rfl] at h_z
      generalize anyB (fun e => decide (0 < μ 25 (5 * r + e)) && decide (0 < μ 26 (40 * s + 5 * b + e))) e = B at h_z h_01 c_12
      unfold b2 at *
      first
      | (rw [if_pos (by cases B <;> simp_all)] at h_z; exact h_z)
      | (rw [if_neg (by cases B <;> simp_all <;> omega)] at h_z; exact h_z)
    · first | refine j_aload_n G dX12_canRead_15 rfl ?_ | refine j_aload_nN G dX12_canRead_15 rfl ?_
      refine j_iload_n G dX12_canRead_16 rfl ?_
      refine j_iload G dX12_canRead_17 rfl ?_
      refine j_callV G mv_X12_264 dX12_canRead_19 (m_knows r e (by omega) (by omega)) (by first | assumption | rfl) (by decide) (by rfl) rfl rfl (by exact Nat.le_of_ble_eq_true rfl) (by decide) (kI ?_)
      refine j_if_eqB G dX12_canRead_22 (tgt := 53) (by decide)  (fun c_22 => ?_) (fun c_22 => ?_)
      · refine j_iconst G dX12_canRead_53 ?_
        refine j_istore3 G dX12_canRead_54 (by decide) rfl ?_
        refine j_iinc4 G dX12_canRead_55 (by decide) rfl rfl ?_
        refine j_goto G dX12_canRead_58 (tgt := 5) (by decide) ?_
        refine j_pc (p2 := 5) rfl ?_
        have h_z := ih (by omega)
        rw [show anyB (fun e => decide (0 < μ 25 (5 * r + e)) && decide (0 < μ 26 (40 * s + 5 * b + e))) (e + 1) = (anyB (fun e => decide (0 < μ 25 (5 * r + e)) && decide (0 < μ 26 (40 * s + 5 * b + e))) e || (decide (0 < μ 25 (5 * r + e)) && decide (0 < μ 26 (40 * s + 5 * b + e)))) from rfl] at h_z
        generalize anyB (fun e => decide (0 < μ 25 (5 * r + e)) && decide (0 < μ 26 (40 * s + 5 * b + e))) e = B at h_z h_01 c_12
        unfold b2 at *
        first
        | (rw [if_pos (by cases B <;> simp_all)] at h_z; exact h_z)
        | (rw [if_neg (by cases B <;> simp_all <;> omega)] at h_z; exact h_z)
      · first | refine j_aload_n G dX12_canRead_25 rfl ?_ | refine j_aload_nN G dX12_canRead_25 rfl ?_
        refine j_getr G fl_X12_86 dX12_canRead_26 (by first | assumption | rfl) (by rfl) ?_
        refine j_bipush G dX12_canRead_29 (by decide) ?_
        first | refine j_aload_n G dX12_canRead_31 rfl ?_ | refine j_aload_nN G dX12_canRead_31 rfl ?_
        refine j_getr G fl_X12_77 dX12_canRead_32 (by first | assumption | rfl) (by rfl) ?_
        refine j_iload_n G dX12_canRead_35 rfl ?_
        refine j_iaload G dX12_canRead_36 (by first | assumption | rfl) (by omega) (fun r_36 => ?_)
        try simp (disch := omega) only [up_same, up_cell, up_idx, cpm_at, fil_at] at r_36 ⊢
        rw [h_sc]
        refine j_imul G dX12_canRead_37 ?_
        refine j_iconst G dX12_canRead_38 ?_
        refine j_iload_n G dX12_canRead_39 rfl ?_
        refine j_imul G dX12_canRead_40 ?_
        refine j_pc (p2 := 41) rfl ?_
        refine j_iadd G dX12_canRead_41 ?_
        refine j_iload G dX12_canRead_42 rfl ?_
        refine j_iadd G dX12_canRead_44 ?_
        refine j_iaload G dX12_canRead_45 (by first | assumption | rfl) (by omega) (fun r_45 => ?_)
        try simp (disch := omega) only [up_same, up_cell, up_idx, cpm_at, fil_at] at r_45 ⊢
        refine j_if_le G dX12_canRead_46 (tgt := 53) (by decide) (by omega) (fun c_46 => ?_) (fun c_46 => ?_)
        · refine j_iconst G dX12_canRead_53 ?_
          refine j_istore3 G dX12_canRead_54 (by decide) rfl ?_
          refine j_iinc4 G dX12_canRead_55 (by decide) rfl rfl ?_
          refine j_goto G dX12_canRead_58 (tgt := 5) (by decide) ?_
          refine j_pc (p2 := 5) rfl ?_
          have h_z := ih (by omega)
          rw [show anyB (fun e => decide (0 < μ 25 (5 * r + e)) && decide (0 < μ 26 (40 * s + 5 * b + e))) (e + 1) = (anyB (fun e => decide (0 < μ 25 (5 * r + e)) && decide (0 < μ 26 (40 * s + 5 * b + e))) e || (decide (0 < μ 25 (5 * r + e)) && decide (0 < μ 26 (40 * s + 5 * b + e)))) from rfl] at h_z
          generalize anyB (fun e => decide (0 < μ 25 (5 * r + e)) && decide (0 < μ 26 (40 * s + 5 * b + e))) e = B at h_z h_01 c_12
          unfold b2 at *
          first
          | (rw [if_pos (by cases B <;> simp_all)] at h_z; exact h_z)
          | (rw [if_neg (by cases B <;> simp_all <;> omega)] at h_z; exact h_z)
        · refine j_iconst G dX12_canRead_49 ?_
          refine j_goto G dX12_canRead_50 (tgt := 54) (by decide) ?_
          refine j_istore3 G dX12_canRead_54 (by decide) rfl ?_
          refine j_iinc4 G dX12_canRead_55 (by decide) rfl rfl ?_
          refine j_goto G dX12_canRead_58 (tgt := 5) (by decide) ?_
          refine j_pc (p2 := 5) rfl ?_
          have h_z := ih (by omega)
          rw [show anyB (fun e => decide (0 < μ 25 (5 * r + e)) && decide (0 < μ 26 (40 * s + 5 * b + e))) (e + 1) = (anyB (fun e => decide (0 < μ 25 (5 * r + e)) && decide (0 < μ 26 (40 * s + 5 * b + e))) e || (decide (0 < μ 25 (5 * r + e)) && decide (0 < μ 26 (40 * s + 5 * b + e)))) from rfl] at h_z
          generalize anyB (fun e => decide (0 < μ 25 (5 * r + e)) && decide (0 < μ 26 (40 * s + 5 * b + e))) e = B at h_z h_01 c_12
          unfold b2 at *
          first
          | (rw [if_pos (by cases B <;> simp_all)] at h_z; exact h_z)
          | (rw [if_neg (by cases B <;> simp_all <;> omega)] at h_z; exact h_z)
end SH2
