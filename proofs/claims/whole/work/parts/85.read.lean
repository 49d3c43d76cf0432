/-! cells read back -/
def wdN (σ : MemT) (c k : Nat) : Nat := if k < 12 then (if σ (8 + 7 * c) k = 0 then 1 else 2) else 1
def rdF (σ : MemT) (c : Nat) (d : Nat → Int) (n p k : Nat) : Bool := if k < 12 then decide ((k : Int) < σ (4 + 7 * c) 3) && (decide (σ (7 + 7 * c) k = d p) && (decide (σ (8 + 7 * c) k = 0) || (decide (p + 1 < n) && decide (σ (8 + 7 * c) k = d (p + 1))))) else decide (σ (3 + 7 * c) ((k : Int) - 12) = d p)
def stR (σ : MemT) (c : Nat) (d : Nat → Int) (n : Nat) (a : Nat → Int) (p : Nat) : Int := min (sm (fun k => if rdF σ c d n p k then a (p + wdN σ c k) + 1 else 0) 38) 1000000 - 1
def cA (σ : MemT) (c : Nat) (d : Nat → Int) (n p : Nat) : Int := dpA n (stR σ c d n) p + 1
def rdX (σ : MemT) (c : Nat) (d : Nat → Int) (n p k : Nat) : Int := if rdF σ c d n p k then cA σ c d n (p + wdN σ c k) else 0
theorem wdN_12 (σ : MemT) (c k : Nat) : 1 ≤ wdN σ c k ∧ wdN σ c k ≤ 2 := by
  unfold wdN
  repeat' split
  all_goals omega
theorem rdF_len {σ : MemT} {c : Nat} {d : Nat → Int} {n p k : Nat} (h_p : p < n) (h : rdF σ c d n p k = true) : p + wdN σ c k ≤ n := by
  unfold rdF at h
  unfold wdN
  by_cases h_k : k < 12
  · rw [if_pos h_k] at h ⊢
    rw [Bool.and_eq_true, Bool.and_eq_true, Bool.or_eq_true, Bool.and_eq_true] at h
    by_cases h_0 : σ (8 + 7 * c) k = 0
    · rw [if_pos h_0]
      omega
    · rw [if_neg h_0]
      rcases h.2.2 with h_1 | h_1
      · exact absurd (of_decide_eq_true h_1) h_0
      · have := of_decide_eq_true h_1.1
        omega
  · rw [if_neg h_k]
    omega
theorem cA_e (σ : MemT) (c : Nat) (d : Nat → Int) (n : Nat) : cA σ c d n n = 1 := by
  unfold cA
  rw [dpA_end]
  rfl
theorem cA_s {σ : MemT} {c : Nat} {d : Nat → Int} {n p : Nat} (h_p : p < n) : cA σ c d n p = min (sm (rdX σ c d n p) 38) 1000000 := by
  have h_1 := dpA_s (n := n) (stp := stR σ c d n) (fun a b p h_p h => by
    unfold stR
    rw [sm_cg 38 (fun k h_k => ?_)]
    by_cases h_f : rdF σ c d n p k = true
    · rw [if_pos h_f, if_pos h_f, h _ (by have := wdN_12 σ c k; omega) (rdF_len h_p h_f)]
    · rw [if_neg h_f, if_neg h_f]) h_p
  unfold cA
  rw [h_1]
  unfold stR
  rw [Int.sub_add_cancel]
  rfl
theorem sm_nn {g : Nat → Int} : ∀ m, (∀ j, j < m → 0 ≤ g j) → 0 ≤ sm g m
  | 0, _ => Int.le_refl _
  | m + 1, h => by
    have := sm_nn m (fun j h_j => h j (by omega))
    have := h m (by omega)
    rw [sm_s]
    omega
theorem cA_rg (σ : MemT) (c : Nat) (d : Nat → Int) (n : Nat) : ∀ p, p ≤ n → 0 ≤ cA σ c d n p ∧ cA σ c d n p ≤ 1000000 := by
  refine downS n (fun p h_p ih => ?_)
  by_cases h_e : p = n
  · rw [h_e, cA_e]
    omega
  · rw [cA_s (by omega)]
    have := sm_nn (g := rdX σ c d n p) 38 (fun k _ => by
      unfold rdX
      by_cases h_f : rdF σ c d n p k = true
      · rw [if_pos h_f]
        exact (ih _ (by have := wdN_12 σ c k; omega) (rdF_len (by omega) h_f)).1
      · rw [if_neg h_f]
        exact Int.le_refl _)
    omega
theorem rdX_rg {σ : MemT} {c : Nat} {d : Nat → Int} {n p : Nat} (h_p : p < n) (k : Nat) : 0 ≤ rdX σ c d n p k ∧ rdX σ c d n p k ≤ 1000000 := by
  unfold rdX
  by_cases h_f : rdF σ c d n p k = true
  · rw [if_pos h_f]
    exact cA_rg σ c d n _ (rdF_len h_p h_f)
  · rw [if_neg h_f]
    omega
theorem sm_sk {g : Nat → Int} {k : Nat} : ∀ m, k ≤ m → (∀ j, k ≤ j → j < m → g j = 0) → sm g m = sm g k
  | 0, h, _ => by rw [show k = 0 by omega]
  | m + 1, h, h_g => by
    by_cases h_1 : k = m + 1
    · rw [h_1]
    · rw [sm_s, h_g m (by omega) (by omega), Int.add_zero]
      exact sm_sk m (by omega) (fun j h_2 h_3 => h_g j h_2 (by omega))
theorem rdF_l (σ : MemT) (c : Nat) (d : Nat → Int) (n p l : Nat) : rdF σ c d n p (12 + l) = decide (σ (3 + 7 * c) l = d p) := by
  unfold rdF
  rw [if_neg (by omega), show ((12 + l : Nat) : Int) - 12 = l by omega]
theorem wdN_l (σ : MemT) (c l : Nat) : wdN σ c (12 + l) = 1 := by
  unfold wdN
  rw [if_neg (by omega)]
def dtx (σ : MemT) (i : Nat) : Int := σ 40 i
section RE
variable {E : EE} {x x1 x2 : CX} {μ σ τ : MemT}
theorem k_behind (c s p n : Nat) (h_o : ∀ j, (3 + 7 * c ≤ j ∧ j ≤ 8 + 7 * c) ∨ j = 39 ∨ j = 40 → τ j = σ j) (h_c : c < 5) (h_w : WfCode σ c) (h_pd : WfPad σ) (h_n : σ 39 1 = n) (h_s : (s : Int) < σ (4 + 7 * c) 3) (h_p : p < n) : CT (EC x) 1 yX1_behindShort [rf (EC x) (2 + 7 * c), iv s, rf (EC x) 39, iv p] τ (rI (if rdF σ c (dtx σ) n p s = true then ((p + wdN σ c s : Nat) : Int) else -6) τ) := by
  obtain ⟨h_y1, h_y2, h_y3, h_y4, h_y5, h_y6, h_y7⟩ := ly_code (x := x) h_c
  obtain ⟨-, -, h_p3, h_p4, -⟩ := id h_pd
  obtain ⟨h_w1, h_w2, h_w3, h_w4⟩ := id h_w
  obtain ⟨-, -, h_z3, h_z4⟩ := h_w4 s (by omega) h_s
  have h_39 : τ 39 1 = n := by rw [h_o 39 (by omega)]; exact h_n
  have h_e7 : τ (7 + 7 * c) s = σ (7 + 7 * c) s := by rw [h_o (7 + 7 * c) (by omega)]
  have h_e8 : τ (8 + 7 * c) s = σ (8 + 7 * c) s := by rw [h_o (8 + 7 * c) (by omega)]
  have h_d : ∀ i : Nat, i < n → 1 ≤ dtx σ i ∧ dtx σ i ≤ 63 := fun i h_i => h_p4 i (by omega) (by omega)
  have h_40 : ∀ i : Nat, τ 40 i = dtx σ i := fun i => by rw [h_o 40 (by omega)]; rfl
  have h_dp := h_d p h_p
  have h_f : rdF σ c (dtx σ) n p s = (decide (σ (7 + 7 * c) s = dtx σ p) && (decide (σ (8 + 7 * c) s = 0) || (decide (p + 1 < n) && decide (σ (8 + 7 * c) s = dtx σ (p + 1))))) := by
    unfold rdF
    rw [if_pos (by omega), decide_eq_true h_s, Bool.true_and]
  have h_wd : wdN σ c s = if σ (8 + 7 * c) s = 0 then 1 else 2 := by unfold wdN; rw [if_pos (by omega)]
  rw [h_f, h_wd]
  refine CT.ofJ (own := RX1) (cc := cX1_behindShort) (n := 4) (ret := (some .int)) (by decide) rfl cw_X1_behindShort (by decide) (Nat.le_of_ble_eq_true rfl) (ls := [some (rf (EC x) (2 + 7 * c)), some (iv s), some (rf (EC x) 39), some (iv p)]) rfl ?_
  intro X G
  first | refine j_aload_n G dX1_behindShort_0 rfl ?_ | refine j_aload_nN G dX1_behindShort_0 rfl ?_
  refine j_iload_n G dX1_behindShort_1 rfl ?_
  refine j_callV G mv_X1_34 dX1_behindShort_2 (p_at 39 40 12 p (by omega) rfl rfl (by decide) (by omega)) (by first | assumption | rfl) (by decide) (by rfl) rfl rfl (by exact Nat.le_of_ble_eq_true rfl) (by decide) (kI ?_)
  rw [show (if 0 ≤ (p : Int) ∧ (p : Int) < τ 39 1 then τ 40 (p : Int) else -6) = dtx σ p from by rw [if_pos (by omega)]; exact h_40 p]
  first | refine j_aload_n G dX1_behindShort_5 rfl ?_ | refine j_aload_nN G dX1_behindShort_5 rfl ?_
  refine j_getr G fl_X1_24 dX1_behindShort_6 (by first | assumption | rfl) (by rfl) ?_
  refine j_iload_n G dX1_behindShort_9 rfl ?_
  refine j_iaload G dX1_behindShort_10 (by first | assumption | rfl) (by omega) (fun r_10 => ?_)
  try simp (disch := omega) only [up_same, up_cell, up_idx, cpm_at, fil_at] at r_10 ⊢
  rw [h_e7]
  refine j_icmp_eq G dX1_behindShort_11 (tgt := 17) (by decide) (by omega) (by omega) (fun c_11 => ?_) (fun c_11 => ?_)
  · rw [decide_eq_true (show σ (7 + 7 * c) s = dtx σ p by omega), Bool.true_and]
    first | refine j_aload_n G dX1_behindShort_17 rfl ?_ | refine j_aload_nN G dX1_behindShort_17 rfl ?_
    refine j_getr G fl_X1_27 dX1_behindShort_18 (by first | assumption | rfl) (by rfl) ?_
    refine j_iload_n G dX1_behindShort_21 rfl ?_
    refine j_iaload G dX1_behindShort_22 (by first | assumption | rfl) (by omega) (fun r_22 => ?_)
    try simp (disch := omega) only [up_same, up_cell, up_idx, cpm_at, fil_at] at r_22 ⊢
    rw [h_e8]
    refine j_if_ne G dX1_behindShort_23 (tgt := 30) (by decide) (by omega) (fun c_23 => ?_) (fun c_23 => ?_)
    · rw [decide_eq_false (show ¬ σ (8 + 7 * c) s = 0 by omega), Bool.false_or, if_neg (show ¬ σ (8 + 7 * c) s = 0 by omega)]
      first | refine j_aload_n G dX1_behindShort_30 rfl ?_ | refine j_aload_nN G dX1_behindShort_30 rfl ?_
      refine j_iload_n G dX1_behindShort_31 rfl ?_
      refine j_iconst G dX1_behindShort_32 ?_
      refine j_iadd G dX1_behindShort_33 ?_
      refine j_callV G mv_X1_34 dX1_behindShort_34 (p_at 39 40 12 ((p : Int) + 1) (by omega) rfl rfl (by decide) (by omega)) (by first | assumption | rfl) (by decide) (by rfl) rfl rfl (by exact Nat.le_of_ble_eq_true rfl) (by decide) (kI ?_)
      have h_p1 : (if 0 ≤ (p : Int) + 1 ∧ (p : Int) + 1 < τ 39 1 then τ 40 ((p : Int) + 1) else -6) = if p + 1 < n then dtx σ (p + 1) else -6 := by
        by_cases h_1 : p + 1 < n
        · rw [if_pos h_1, if_pos (by omega)]
          exact h_40 (p + 1)
        · rw [if_neg h_1, if_neg (by omega)]
      have h_d1 := h_d (p + 1)
      rw [h_p1]
      first | refine j_aload_n G dX1_behindShort_37 rfl ?_ | refine j_aload_nN G dX1_behindShort_37 rfl ?_
      refine j_getr G fl_X1_27 dX1_behindShort_38 (by first | assumption | rfl) (by rfl) ?_
      refine j_iload_n G dX1_behindShort_41 rfl ?_
      refine j_iaload G dX1_behindShort_42 (by first | assumption | rfl) (by omega) (fun r_42 => ?_)
      try simp (disch := omega) only [up_same, up_cell, up_idx, cpm_at, fil_at] at r_42 ⊢
      rw [h_e8]
      refine j_icmp_ne G dX1_behindShort_43 (tgt := 52) (by decide) (by split <;> omega) (by omega) (fun c_43 => ?_) (fun c_43 => ?_)
      · refine j_bipush G dX1_behindShort_52 (by decide) ?_
        refine j_ireturn G dX1_behindShort_54 ?_
        first
        | (by_cases h_1 : p + 1 < n
           · rw [if_pos h_1] at c_43
             rw [decide_eq_true h_1, Bool.true_and, decide_eq_true (show σ (8 + 7 * c) s = dtx σ (p + 1) by omega), if_pos rfl]
             exact ⟨rfl, rfl⟩
           · rw [if_neg h_1] at c_43
             omega)
        | (by_cases h_1 : p + 1 < n
           · rw [if_pos h_1] at c_43
             rw [decide_eq_false (show ¬ σ (8 + 7 * c) s = dtx σ (p + 1) by omega), Bool.and_false, if_neg (by decide)]
             exact ⟨rfl, rfl⟩
           · rw [decide_eq_false h_1, Bool.false_and, if_neg (by decide)]
             exact ⟨rfl, rfl⟩)
      · refine j_iload_n G dX1_behindShort_46 rfl ?_
        refine j_iconst G dX1_behindShort_47 ?_
        refine j_iadd G dX1_behindShort_48 ?_
        refine j_goto G dX1_behindShort_49 (tgt := 54) (by decide) ?_
        refine j_ireturn G dX1_behindShort_54 ?_
        first
        | (by_cases h_1 : p + 1 < n
           · rw [if_pos h_1] at c_43
             rw [decide_eq_true h_1, Bool.true_and, decide_eq_true (show σ (8 + 7 * c) s = dtx σ (p + 1) by omega), if_pos rfl]
             exact ⟨rfl, rfl⟩
           · rw [if_neg h_1] at c_43
             omega)
        | (by_cases h_1 : p + 1 < n
           · rw [if_pos h_1] at c_43
             rw [decide_eq_false (show ¬ σ (8 + 7 * c) s = dtx σ (p + 1) by omega), Bool.and_false, if_neg (by decide)]
             exact ⟨rfl, rfl⟩
           · rw [decide_eq_false h_1, Bool.false_and, if_neg (by decide)]
             exact ⟨rfl, rfl⟩)
    · refine j_iload_n G dX1_behindShort_26 rfl ?_
      refine j_iconst G dX1_behindShort_27 ?_
      refine j_iadd G dX1_behindShort_28 ?_
      refine j_ireturn G dX1_behindShort_29 ?_
      rw [decide_eq_true (show σ (8 + 7 * c) s = 0 by omega), Bool.true_or, if_pos rfl, if_pos (by omega)]
      exact ⟨rfl, rfl⟩
  · refine j_bipush G dX1_behindShort_14 (by decide) ?_
    refine j_ireturn G dX1_behindShort_16 ?_
    rw [decide_eq_false (show ¬ σ (7 + 7 * c) s = dtx σ p by omega), Bool.false_and, if_neg (by decide)]
    exact ⟨rfl, rfl⟩
theorem c_countWays (c n : Nat) (h_c : c < 5) (h_w : WfCode σ c) (h_pd : WfPad σ) (h_n : σ 39 1 = n) : CT (EC x) 2 yX2_countWays [rf (EC x) 48, rf (EC x) (2 + 7 * c), rf (EC x) 39] σ (rP (fun z τ => z = cA σ c (dtx σ) n 0 ∧ Ons (· = 49) σ τ ∧ ∀ q : Nat, q ≤ n → τ 49 q = cA σ c (dtx σ) n q)) := by
  obtain ⟨h_y1, h_y2, h_y3, h_y4, h_y5, h_y6, h_y7⟩ := ly_code (x := x) h_c
  obtain ⟨-, -, h_p3, h_p4, -⟩ := id h_pd
  obtain ⟨h_w1, h_w2, h_w3, h_w4⟩ := id h_w
  have h_cr := cA_rg σ c (dtx σ) n
  refine CT.ofJ (own := RX2) (cc := cX2_countWays) (n := 8) (ret := (some .int)) (by decide) rfl cw_X2_countWays (by decide) (Nat.le_of_ble_eq_true rfl) (ls := [some (rf (EC x) 48), some (rf (EC x) (2 + 7 * c)), some (rf (EC x) 39), none, none, none, none, none]) rfl ?_
  intro X G
  have h_lp : ∀ i : Nat, i ≤ n → ∀ τ : MemT, Ons (· = 49) σ τ → (∀ q : Nat, i ≤ q → q ≤ n → τ 49 q = cA σ c (dtx σ) n q) → JJ (EC x) X 2 (rP (fun z τ => z = cA σ c (dtx σ) n 0 ∧ Ons (· = 49) σ τ ∧ ∀ q : Nat, q ≤ n → τ 49 q = cA σ c (dtx σ) n q)) 8 22 [some (rf (EC x) 48), some (rf (EC x) (2 + 7 * c)), some (rf (EC x) 39), some (iv n), some (iv ((i : Int) - 1)), none, none, none] [] τ := by
    intro i
    induction i with
    | zero =>
      intro h_i τ h_o h_v
      have h_0 := h_v 0 (by omega) (by omega)
      · refine j_iload G dX2_countWays_22 rfl ?_
        refine j_if_lt G dX2_countWays_24 (tgt := 157) (by decide) (by omega) (fun c_24 => ?_) (fun c_24 => ?_)
        · first | refine j_aload_n G dX2_countWays_157 rfl ?_ | refine j_aload_nN G dX2_countWays_157 rfl ?_
          refine j_getr G fl_X2_9 dX2_countWays_158 (by first | assumption | rfl) (by rfl) ?_
          refine j_iconst G dX2_countWays_161 ?_
          refine j_iaload G dX2_countWays_162 (by first | assumption | rfl) (by omega) (fun r_162 => ?_)
          try simp (disch := omega) only [up_same, up_cell, up_idx, cpm_at, fil_at] at r_162 ⊢
          refine j_ireturn G dX2_countWays_163 ?_
          exact ⟨_, rfl, h_0, h_o, fun q h_q => h_v q (by omega) h_q⟩
        · omega
    | succ i ih =>
      intro h_i τ h_o h_v
      rw [show ((i + 1 : Nat) : Int) - 1 = i by omega]
      have h_xr := rdX_rg (σ := σ) (c := c) (d := dtx σ) (n := n) (p := i) (by omega)
      have h_sr := fun k => sm_rg (g := rdX σ c (dtx σ) n i) (a := 0) (b := 1000000) k (fun j _ => h_xr j)
      have h_on : ∀ j, (3 + 7 * c ≤ j ∧ j ≤ 8 + 7 * c) ∨ j = 39 ∨ j = 40 → τ j = σ j := fun j h_j => h_o j (by omega)
      have h_di : 1 ≤ dtx σ i ∧ dtx σ i ≤ 63 := h_p4 i (by omega) (by omega)
      have h_vi : τ 49 ((i : Int) + 1) = cA σ c (dtx σ) n (i + 1) := h_v (i + 1) (by omega) (by omega)
      · refine j_iload G dX2_countWays_22 rfl ?_
        refine j_if_lt G dX2_countWays_24 (tgt := 157) (by decide) (by omega) (fun c_24 => ?_) (fun c_24 => ?_)
        · omega
        · refine j_iconst G dX2_countWays_27 ?_
          refine j_istore5 G dX2_countWays_28 (by decide) rfl ?_
          refine j_iconst G dX2_countWays_30 ?_
          refine j_istore6 G dX2_countWays_31 (by decide) rfl ?_
          refine j_pc (p2 := 33) rfl ?_
          refine j_weak (ls' := [some (rf (EC x) 48), some (rf (EC x) (2 + 7 * c)), some (rf (EC x) 39), some (iv n), some (iv i), some (iv (sm (rdX σ c (dtx σ) n i) 0)), some (iv ((0 : Nat) : Int)), none]) ?_ ⟨rfl, rfl, rfl, rfl, rfl, rfl, rfl, trivial⟩
          refine down (Pr := fun s => (s : Int) ≤ σ (4 + 7 * c) 3 → JJ (EC x) X 2 (rP (fun z τ => z = cA σ c (dtx σ) n 0 ∧ Ons (· = 49) σ τ ∧ ∀ q : Nat, q ≤ n → τ 49 q = cA σ c (dtx σ) n q)) 8 33 [some (rf (EC x) 48), some (rf (EC x) (2 + 7 * c)), some (rf (EC x) 39), some (iv n), some (iv i), some (iv (sm (rdX σ c (dtx σ) n i) s)), some (iv s), none] [] τ) 12 ?_ 0 (Nat.zero_le _) (by omega)
          intro s h_s ih2 h_sc
          have h_srs := h_sr s
          have h_nx : s < 12 → (s : Int) < σ (4 + 7 * c) 3 → ∀ z : Int, z = sm (rdX σ c (dtx σ) n i) s + rdX σ c (dtx σ) n i s → JJ (EC x) X 2 (rP (fun z τ => z = cA σ c (dtx σ) n 0 ∧ Ons (· = 49) σ τ ∧ ∀ q : Nat, q ≤ n → τ 49 q = cA σ c (dtx σ) n q)) 8 33 [some (rf (EC x) 48), some (rf (EC x) (2 + 7 * c)), some (rf (EC x) 39), some (iv n), some (iv i), some (iv z), some (iv ((s + 1 : Nat) : Int)), none] [] τ := fun h_1 h_2 z h_z => by
            rw [h_z]
            exact ih2 h_1 (by omega)
          refine j_iload G dX2_countWays_33 rfl ?_
          first | refine j_aload_n G dX2_countWays_35 rfl ?_ | refine j_aload_nN G dX2_countWays_35 rfl ?_
          refine j_getr G fl_X2_43 dX2_countWays_36 (by first | assumption | rfl) (by rfl) ?_
          refine j_geti G fl_X2_49 dX2_countWays_39 3 rfl (by first | assumption | rfl) (by rfl) (fun r_39 => ?_)
          try simp (disch := omega) only [up_same, up_cell, up_idx, cpm_at, fil_at] at r_39 ⊢
          rw [h_o (4 + 7 * c) (by omega)] at *
          refine j_icmp_ge G dX2_countWays_42 (tgt := 83) (by decide) (by omega) (by omega) (fun c_42 => ?_) (fun c_42 => ?_)
          · have h_12 : sm (rdX σ c (dtx σ) n i) s = sm (rdX σ c (dtx σ) n i) 12 := by
              refine (sm_sk 12 h_s (fun j h_1 h_2 => ?_)).symm
              unfold rdX rdF
              rw [if_pos h_2, decide_eq_false (by omega), Bool.false_and, if_neg (by decide)]
            rw [h_12]
            first | refine j_aload_n G dX2_countWays_83 rfl ?_ | refine j_aload_nN G dX2_countWays_83 rfl ?_
            refine j_iload G dX2_countWays_84 rfl ?_
            refine j_callV G mv_X2_58 dX2_countWays_86 (p_at 39 40 12 i (by omega) rfl rfl (by decide) (by rw [h_o 39 (by decide)]; omega)) (by first | assumption | rfl) (by decide) (by rfl) rfl rfl (by exact Nat.le_of_ble_eq_true rfl) (by decide) (kI ?_)
            rw [if_pos (by rw [h_o 39 (by decide)]; omega), h_o 40 (by decide), show σ 40 i = dtx σ i from rfl]
            refine j_istore6 G dX2_countWays_89 (by decide) rfl ?_
            refine j_iconst G dX2_countWays_91 ?_
            refine j_istore7 G dX2_countWays_92 (by decide) rfl ?_
            refine j_pc (p2 := 94) rfl ?_
            refine j_weak (ls' := [some (rf (EC x) 48), some (rf (EC x) (2 + 7 * c)), some (rf (EC x) 39), some (iv n), some (iv i), some (iv (sm (rdX σ c (dtx σ) n i) (12 + 0))), some (iv (dtx σ i)), some (iv ((0 : Nat) : Int))]) ?_ ⟨rfl, rfl, rfl, rfl, rfl, rfl, rfl, rfl, trivial⟩
            refine down (Pr := fun l => JJ (EC x) X 2 (rP (fun z τ => z = cA σ c (dtx σ) n 0 ∧ Ons (· = 49) σ τ ∧ ∀ q : Nat, q ≤ n → τ 49 q = cA σ c (dtx σ) n q)) 8 94 [some (rf (EC x) 48), some (rf (EC x) (2 + 7 * c)), some (rf (EC x) 39), some (iv n), some (iv i), some (iv (sm (rdX σ c (dtx σ) n i) (12 + l))), some (iv (dtx σ i)), some (iv l)] [] τ) 26 ?_ 0 (Nat.zero_le _)
            intro l h_l ih3
            have h_srl := h_sr (12 + l)
            have h_cl := h_cr (i + 1) (by omega)
            have h_xl : rdX σ c (dtx σ) n i (12 + l) = if σ (3 + 7 * c) l = dtx σ i then cA σ c (dtx σ) n (i + 1) else 0 := by
              unfold rdX
              rw [rdF_l, wdN_l]
              by_cases h_1 : σ (3 + 7 * c) l = dtx σ i
              · rw [decide_eq_true h_1, if_pos rfl, if_pos h_1]
              · rw [decide_eq_false h_1, if_neg (by decide), if_neg h_1]
            have h_nx3 : l < 26 → ∀ z : Int, z = sm (rdX σ c (dtx σ) n i) (12 + l) + rdX σ c (dtx σ) n i (12 + l) → JJ (EC x) X 2 (rP (fun z τ => z = cA σ c (dtx σ) n 0 ∧ Ons (· = 49) σ τ ∧ ∀ q : Nat, q ≤ n → τ 49 q = cA σ c (dtx σ) n q)) 8 94 [some (rf (EC x) 48), some (rf (EC x) (2 + 7 * c)), some (rf (EC x) 39), some (iv n), some (iv i), some (iv z), some (iv (dtx σ i)), some (iv ((l + 1 : Nat) : Int))] [] τ := fun h_1 z h_z => by
              rw [h_z]
              exact ih3 h_1
            refine j_iload G dX2_countWays_94 rfl ?_
            refine j_bipush G dX2_countWays_96 (by decide) ?_
            refine j_icmp_ge G dX2_countWays_98 (tgt := 137) (by decide) (by omega) (by omega) (fun c_98 => ?_) (fun c_98 => ?_)
            · obtain rfl : l = 26 := by omega
              have h_ci : min (sm (rdX σ c (dtx σ) n i) 38) 1000000 = cA σ c (dtx σ) n i := (cA_s (by omega)).symm
              have h_cii := h_cr i (by omega)
              first | refine j_aload_n G dX2_countWays_137 rfl ?_ | refine j_aload_nN G dX2_countWays_137 rfl ?_
              refine j_getr G fl_X2_9 dX2_countWays_138 (by first | assumption | rfl) (by rfl) ?_
              refine j_iload G dX2_countWays_141 rfl ?_
              refine j_iload G dX2_countWays_143 rfl ?_
              refine j_ldc G kc_X2_65 dX2_countWays_145 (z := 1000000) (by decide) ?_
              refine j_min G ms_X2_37 dX2_countWays_147 (by omega) (by omega) (by decide) (by exact Nat.le_of_ble_eq_true rfl) ?_
              rw [h_ci]
              refine j_iastore G dX2_countWays_150 (by first | assumption | rfl) (by omega) (by omega) ?_
              refine j_iinc4 G dX2_countWays_151 (by decide) rfl rfl ?_
              refine j_goto G dX2_countWays_154 (tgt := 22) (by decide) ?_
              refine j_pc (p2 := 22) rfl ?_
              refine j_weak (ih (by omega) _ (h_o.up rfl) (fun q h_1 h_2 => ?_)) ⟨rfl, rfl, rfl, rfl, rfl, trivial⟩
              by_cases h_e : q = i
              · subst h_e
                exact up_same _ _ _ _
              · rw [up_idx (by omega)]
                exact h_v q (by omega) h_2
            · refine j_iload G dX2_countWays_101 rfl ?_
              first | refine j_aload_n G dX2_countWays_103 rfl ?_ | refine j_aload_nN G dX2_countWays_103 rfl ?_
              refine j_getr G fl_X2_62 dX2_countWays_104 (by first | assumption | rfl) (by rfl) ?_
              refine j_iload G dX2_countWays_107 rfl ?_
              refine j_iaload G dX2_countWays_109 (by first | assumption | rfl) (by omega) (fun r_109 => ?_)
              try simp (disch := omega) only [up_same, up_cell, up_idx, cpm_at, fil_at] at r_109 ⊢
              rw [h_o (3 + 7 * c) (by omega)] at *
              refine j_iload G dX2_countWays_110 rfl ?_
              refine j_icmp_ne G dX2_countWays_112 (tgt := 127) (by decide) (by omega) (by omega) (fun c_112 => ?_) (fun c_112 => ?_)
              · refine j_iconst G dX2_countWays_127 ?_
                refine j_iadd G dX2_countWays_128 ?_
                refine j_istore5 G dX2_countWays_129 (by decide) rfl ?_
                refine j_iinc7 G dX2_countWays_131 (by decide) rfl rfl ?_
                refine j_goto G dX2_countWays_134 (tgt := 94) (by decide) ?_
                refine j_pc (p2 := 94) rfl ?_
                first
                | exact h_nx3 (by omega) _ (by rw [h_xl, if_pos (by omega)])
                | exact h_nx3 (by omega) _ (by rw [h_xl, if_neg (by omega)])
              · first | refine j_aload_n G dX2_countWays_115 rfl ?_ | refine j_aload_nN G dX2_countWays_115 rfl ?_
                refine j_getr G fl_X2_9 dX2_countWays_116 (by first | assumption | rfl) (by rfl) ?_
                refine j_iload G dX2_countWays_119 rfl ?_
                refine j_iconst G dX2_countWays_121 ?_
                refine j_iadd G dX2_countWays_122 ?_
                refine j_iaload G dX2_countWays_123 (by first | assumption | rfl) (by omega) (fun r_123 => ?_)
                try simp (disch := omega) only [up_same, up_cell, up_idx, cpm_at, fil_at] at r_123 ⊢
                rw [h_vi]
                refine j_goto G dX2_countWays_124 (tgt := 128) (by decide) ?_
                refine j_iadd G dX2_countWays_128 ?_
                refine j_istore5 G dX2_countWays_129 (by decide) rfl ?_
                refine j_iinc7 G dX2_countWays_131 (by decide) rfl rfl ?_
                refine j_goto G dX2_countWays_134 (tgt := 94) (by decide) ?_
                refine j_pc (p2 := 94) rfl ?_
                first
                | exact h_nx3 (by omega) _ (by rw [h_xl, if_pos (by omega)])
                | exact h_nx3 (by omega) _ (by rw [h_xl, if_neg (by omega)])
          · first | refine j_aload_n G dX2_countWays_45 rfl ?_ | refine j_aload_nN G dX2_countWays_45 rfl ?_
            refine j_iload G dX2_countWays_46 rfl ?_
            first | refine j_aload_n G dX2_countWays_48 rfl ?_ | refine j_aload_nN G dX2_countWays_48 rfl ?_
            refine j_iload G dX2_countWays_49 rfl ?_
            refine j_callV G mv_X2_54 dX2_countWays_51 (k_behind c s i n h_on h_c h_w h_pd h_n (by omega) (by omega)) (by first | assumption | rfl) (by decide) (by rfl) rfl rfl (by exact Nat.le_of_ble_eq_true rfl) (by decide) (kI ?_)
            by_cases h_f : rdF σ c (dtx σ) n i s = true
            · rw [if_pos h_f]
              have h_l := rdF_len (show i < n by omega) h_f
              have h_w12 := wdN_12 σ c s
              have h_vs := h_v (i + wdN σ c s) (by omega) h_l
              have h_xs : rdX σ c (dtx σ) n i s = cA σ c (dtx σ) n (i + wdN σ c s) := if_pos h_f
              have h_cs := h_cr _ h_l
              refine j_istore7 G dX2_countWays_54 (by decide) rfl ?_
              refine j_iload G dX2_countWays_56 rfl ?_
              refine j_iload G dX2_countWays_58 rfl ?_
              refine j_if_ge G dX2_countWays_60 (tgt := 67) (by decide) (by omega) (fun c_60 => ?_) (fun c_60 => ?_)
              · first | refine j_aload_n G dX2_countWays_67 rfl ?_ | refine j_aload_nN G dX2_countWays_67 rfl ?_
                refine j_getr G fl_X2_9 dX2_countWays_68 (by first | assumption | rfl) (by rfl) ?_
                refine j_iload G dX2_countWays_71 rfl ?_
                refine j_iaload G dX2_countWays_73 (by first | assumption | rfl) (by omega) (fun r_73 => ?_)
                try simp (disch := omega) only [up_same, up_cell, up_idx, cpm_at, fil_at] at r_73 ⊢
                rw [h_vs]
                refine j_iadd G dX2_countWays_74 ?_
                refine j_istore5 G dX2_countWays_75 (by decide) rfl ?_
                refine j_iinc6 G dX2_countWays_77 (by decide) rfl rfl ?_
                refine j_goto G dX2_countWays_80 (tgt := 33) (by decide) ?_
                refine j_pc (p2 := 33) rfl ?_
                exact j_weak (h_nx (by omega) (by omega) _ (by rw [h_xs])) ⟨rfl, rfl, rfl, rfl, rfl, rfl, rfl, trivial⟩
              · omega
            rw [if_neg h_f]
            have h_xs : rdX σ c (dtx σ) n i s = 0 := if_neg h_f
            refine j_istore7 G dX2_countWays_54 (by decide) rfl ?_
            refine j_iload G dX2_countWays_56 rfl ?_
            refine j_iload G dX2_countWays_58 rfl ?_
            refine j_if_ge G dX2_countWays_60 (tgt := 67) (by decide) (by omega) (fun c_60 => ?_) (fun c_60 => ?_)
            · omega
            · refine j_iconst G dX2_countWays_63 ?_
              refine j_goto G dX2_countWays_64 (tgt := 74) (by decide) ?_
              refine j_iadd G dX2_countWays_74 ?_
              refine j_istore5 G dX2_countWays_75 (by decide) rfl ?_
              refine j_iinc6 G dX2_countWays_77 (by decide) rfl rfl ?_
              refine j_goto G dX2_countWays_80 (tgt := 33) (by decide) ?_
              refine j_pc (p2 := 33) rfl ?_
              exact j_weak (h_nx (by omega) (by omega) _ (by rw [h_xs])) ⟨rfl, rfl, rfl, rfl, rfl, rfl, rfl, trivial⟩
  first | refine j_aload_n G dX2_countWays_0 rfl ?_ | refine j_aload_nN G dX2_countWays_0 rfl ?_
  refine j_geti G fl_X2_33 dX2_countWays_1 1 rfl (by first | assumption | rfl) (by rfl) (fun r_1 => ?_)
  try simp (disch := omega) only [up_same, up_cell, up_idx, cpm_at, fil_at] at r_1 ⊢
  refine j_bipush G dX2_countWays_4 (by decide) ?_
  refine j_min G ms_X2_37 dX2_countWays_6 (by omega) (by omega) (by decide) (by exact Nat.le_of_ble_eq_true rfl) ?_
  rw [h_n, show min ((n : Nat) : Int) 12 = n by omega]
  refine j_istore3 G dX2_countWays_9 (by decide) rfl ?_
  first | refine j_aload_n G dX2_countWays_10 rfl ?_ | refine j_aload_nN G dX2_countWays_10 rfl ?_
  refine j_getr G fl_X2_9 dX2_countWays_11 (by first | assumption | rfl) (by rfl) ?_
  refine j_iload_n G dX2_countWays_14 rfl ?_
  refine j_iconst G dX2_countWays_15 ?_
  refine j_iastore G dX2_countWays_16 (by first | assumption | rfl) (by omega) (by omega) ?_
  refine j_iload_n G dX2_countWays_17 rfl ?_
  refine j_pc (p2 := 18) rfl ?_
  refine j_iconst G dX2_countWays_18 ?_
  refine j_isub G dX2_countWays_19 ?_
  refine j_istore4 G dX2_countWays_20 (by decide) rfl ?_
  refine j_pc (p2 := 22) rfl ?_
  refine j_weak (h_lp n (by omega) _ ((Ons.rf _ _).up rfl) (fun q h_1 h_2 => ?_)) ⟨rfl, rfl, rfl, rfl, rfl, trivial⟩
  obtain rfl : q = n := by omega
  rw [up_same, cA_e]
end RE
