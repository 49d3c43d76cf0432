/-! the least weight of a text -/
/-- of some items that may begin, the first of the least -/
def fwK (fit : Nat → Bool) (own rest : Nat → Int) : Nat → Int × Int
  | 0 => (268435456, 0)
  | k + 1 => if fit k = true ∧ rest k < 268435456 ∧ own k + rest k < (fwK fit own rest k).1 then (own k + rest k, (k : Int)) else fwK fit own rest k
theorem fwK_s (fit : Nat → Bool) (own rest : Nat → Int) (k : Nat) : fwK fit own rest (k + 1) = if fit k = true ∧ rest k < 268435456 ∧ own k + rest k < (fwK fit own rest k).1 then (own k + rest k, (k : Int)) else fwK fit own rest k := rfl
theorem fwK_t {fit : Nat → Bool} {own rest : Nat → Int} {k : Nat} (h : fit k = true ∧ rest k < 268435456 ∧ own k + rest k < (fwK fit own rest k).1) : fwK fit own rest (k + 1) = (own k + rest k, (k : Int)) := if_pos h
theorem fwK_f {fit : Nat → Bool} {own rest : Nat → Int} {k : Nat} (h : ¬ (fit k = true ∧ rest k < 268435456 ∧ own k + rest k < (fwK fit own rest k).1)) : fwK fit own rest (k + 1) = fwK fit own rest k := if_neg h
theorem fwK_cg {f1 f2 : Nat → Bool} {o1 o2 r1 r2 : Nat → Int} : ∀ k, (∀ j, j < k → f1 j = f2 j ∧ (f1 j = true → o1 j = o2 j ∧ r1 j = r2 j)) → fwK f1 o1 r1 k = fwK f2 o2 r2 k
  | 0, _ => rfl
  | k + 1, h => by
    rw [fwK_s, fwK_s, fwK_cg k (fun j hj => h j (by omega))]
    obtain ⟨h_1, h_2⟩ := h k (by omega)
    rw [← h_1]
    by_cases h_3 : f1 k = true
    · obtain ⟨h_4, h_5⟩ := h_2 h_3
      rw [h_4, h_5]
    · rw [if_neg (fun z => h_3 z.1), if_neg (fun z => h_3 z.1)]
theorem fwK_le (fit : Nat → Bool) (own rest : Nat → Int) : ∀ k, (fwK fit own rest k).1 ≤ 268435456
  | 0 => Int.le_refl _
  | k + 1 => by
    have := fwK_le fit own rest k
    rw [fwK_s]
    split
    · dsimp only; omega
    · exact this
theorem fwK_mono (fit : Nat → Bool) (own rest : Nat → Int) (k : Nat) : ∀ m, k ≤ m → (fwK fit own rest m).1 ≤ (fwK fit own rest k).1
  | 0, h => by rw [show k = 0 by omega]; exact Int.le_refl _
  | m + 1, h => by
    by_cases h_1 : k = m + 1
    · rw [h_1]; exact Int.le_refl _
    · have := fwK_mono fit own rest k m (by omega)
      rw [fwK_s]
      split
      · dsimp only; omega
      · exact this
/-- the item that is taken: it begins, it gives the least, and none before it does -/
theorem fwK_is {fit : Nat → Bool} {own rest : Nat → Int} : ∀ {m : Nat}, (fwK fit own rest m).1 < 268435456 → ∃ k : Nat, k < m ∧ (fwK fit own rest m).2 = k ∧ fit k = true ∧ rest k < 268435456 ∧ own k + rest k = (fwK fit own rest m).1 ∧ ∀ j, j < k → fit j = true → rest j < 268435456 → own j + rest j ≠ (fwK fit own rest m).1
  | 0, h => absurd h (Int.lt_irrefl _)
  | m + 1, h => by
    by_cases h_1 : fit m = true ∧ rest m < 268435456 ∧ own m + rest m < (fwK fit own rest m).1
    · rw [fwK_t h_1]
      refine ⟨m, by omega, rfl, h_1.1, h_1.2.1, rfl, fun j h_j h_f h_r h_e => ?_⟩
      have h_2 := fwK_mono fit own rest (j + 1) m (by omega)
      have h_3 : (fwK fit own rest (j + 1)).1 ≤ own j + rest j := by
        rw [fwK_s]
        split
        · exact Int.le_refl _
        · rename_i h_4
          have : ¬ own j + rest j < (fwK fit own rest j).1 := fun z => h_4 ⟨h_f, h_r, z⟩
          omega
      dsimp only at h_e
      omega
    · rw [fwK_f h_1] at h ⊢
      obtain ⟨k, h_2, h_3⟩ := fwK_is h
      exact ⟨k, by omega, h_3⟩
/-- an array filled from its end -/
def dpW (n : Nat) (stp : (Nat → Int) → Nat → Int) : Nat → Nat → Int
  | 0 => fun _ => 0
  | j + 1 => fun p => if p + (j + 1) = n then stp (dpW n stp j) p else dpW n stp j p
theorem dpW_old {n : Nat} {stp : (Nat → Int) → Nat → Int} (j : Nat) {p : Nat} : ∀ m, n ≤ p + j → j ≤ m → dpW n stp m p = dpW n stp j p
  | 0, h_1, h_2 => by rw [show j = 0 by omega]
  | m + 1, h_1, h_2 => by
    by_cases h_3 : j = m + 1
    · rw [h_3]
    · have := dpW_old (stp := stp) j m h_1 (by omega)
      rw [← this]
      show (if p + (m + 1) = n then _ else _) = _
      rw [if_neg (by omega)]
/-- what the whole array is -/
def dpA (n : Nat) (stp : (Nat → Int) → Nat → Int) (p : Nat) : Int := dpW n stp n p
theorem dpA_end (n : Nat) (stp : (Nat → Int) → Nat → Int) : dpA n stp n = 0 := by
  unfold dpA
  rw [dpW_old 0 n (by omega) (by omega)]
  rfl
theorem dpA_s {n : Nat} {stp : (Nat → Int) → Nat → Int} (h_cg : ∀ a b : Nat → Int, ∀ p, p < n → (∀ q, p < q → q ≤ n → a q = b q) → stp a p = stp b p) {p : Nat} (h_p : p < n) : dpA n stp p = stp (dpA n stp) p := by
  unfold dpA
  rw [dpW_old (n - p) n (by omega) (by omega)]
  obtain ⟨j, h_j⟩ : ∃ j, n - p = j + 1 := ⟨n - p - 1, by omega⟩
  rw [h_j]
  show (if p + (j + 1) = n then stp (dpW n stp j) p else _) = _
  rw [if_pos (by omega)]
  exact h_cg _ _ p h_p (fun q h_1 h_2 => (dpW_old j n (by omega) (by omega)).symm)
/-- lay: two rows are alike -/
def eqB (f g : Nat → Int) (n : Nat) : Bool := !anyB (fun i => decide (f i ≠ g i)) n
theorem eqB_iff {f g : Nat → Int} {n : Nat} : eqB f g n = true ↔ ∀ i, i < n → f i = g i := by
  unfold eqB
  rw [Bool.not_eq_true', Bool.eq_false_iff, Ne, anyB_iff]
  constructor
  · intro h i h_i
    exact Decidable.byContradiction (fun z => h ⟨i, h_i, decide_eq_true z⟩)
  · rintro h ⟨i, h_i, h_z⟩
    exact of_decide_eq_true h_z (h i h_i)
section WG
variable {E : EE} {x x1 x2 : CX} {μ σ : MemT}
theorem k_stands (k q1 q2 q N M s : Nat) (n : Nat) (from_ end_ : Int) (h_k : (eY E)[k]? = some (8, 4, [none, some q1, some q2, none])) (h_q1 : (eY E)[q1]? = some (20, 4 * M, [])) (h_q2 : (eY E)[q2]? = some (20, M, [])) (h_q : (eY E)[q]? = some (20, N, [])) (h_w : μ k 0 = 4) (h_s : s < M) (h_M : M ≤ 100) (h_N : N ≤ 1000) (h_z : μ q2 s = n) (h_n : n ≤ 4) (h_f : 0 ≤ from_) (h_e : end_ ≤ N ∧ from_ ≤ end_) : CT E 0 yX9_standsAt [rf E k, iv s, rf E q, iv from_, iv end_] μ (rI (b2 ((decide (from_ + n ≤ end_) && eqB (fun i => μ q1 (4 * s + i)) (fun i => μ q (from_ + i)) n) = true)) μ) := by
  refine CT.ofJ (own := RX9) (cc := cX9_standsAt) (n := 8) (ret := (some .boolean)) (by decide) rfl cw_X9_standsAt (by decide) (Nat.le_of_ble_eq_true rfl) (ls := [some (rf E k), some (iv s), some (rf E q), some (iv from_), some (iv end_), none, none, none]) rfl ?_
  intro X G
  first | refine j_aload_n G dX9_standsAt_0 rfl ?_ | refine j_aload_nN G dX9_standsAt_0 rfl ?_
  refine j_getr G fl_X9_25 dX9_standsAt_1 (by first | assumption | rfl) (by rfl) ?_
  refine j_iload_n G dX9_standsAt_4 rfl ?_
  refine j_iaload G dX9_standsAt_5 (by first | assumption | rfl) (by omega) (fun r_5 => ?_)
  try simp (disch := omega) only [up_same, up_cell, up_idx, cpm_at, fil_at] at r_5 ⊢
  rw [h_z] at *
  refine j_istore5 G dX9_standsAt_6 (by decide) rfl ?_
  refine j_iload G dX9_standsAt_8 rfl ?_
  refine j_iload G dX9_standsAt_10 rfl ?_
  refine j_iload_n G dX9_standsAt_12 rfl ?_
  refine j_isub G dX9_standsAt_13 ?_
  refine j_icmp_le G dX9_standsAt_14 (tgt := 19) (by decide) (by omega) (by omega) (fun c_14 => ?_) (fun c_14 => ?_)
  · refine j_iload_n G dX9_standsAt_19 rfl ?_
    first | refine j_aload_n G dX9_standsAt_20 rfl ?_ | refine j_aload_nN G dX9_standsAt_20 rfl ?_
    refine j_geti G fl_X9_15 dX9_standsAt_21 0 rfl (by first | assumption | rfl) (by rfl) (fun r_21 => ?_)
    try simp (disch := omega) only [up_same, up_cell, up_idx, cpm_at, fil_at] at r_21 ⊢
    rw [h_w] at *
    refine j_imul G dX9_standsAt_24 ?_
    rw [Int.mul_comm (s : Int) 4]
    refine j_istore6 G dX9_standsAt_25 (by decide) rfl ?_
    refine j_iconst G dX9_standsAt_27 ?_
    refine j_istore7 G dX9_standsAt_28 (by decide) rfl ?_
    refine j_pc (p2 := 30) rfl ?_
    refine down (Pr := fun i => (∀ j, j < i → μ q1 (4 * s + (j : Nat)) = μ q (from_ + (j : Nat))) → JJ E X 0 (rI (b2 ((decide (from_ + n ≤ end_) && eqB (fun i => μ q1 (4 * s + i)) (fun i => μ q (from_ + i)) n) = true)) μ) 8 30 [some (rf E k), some (iv s), some (rf E q), some (iv from_), some (iv end_), some (iv n), some (iv (4 * (s : Int))), some (iv i)] [] μ) n ?_ 0 (Nat.zero_le _) (fun j h_j => by omega)
    intro i h_i ih h_al
    refine j_iload G dX9_standsAt_30 rfl ?_
    refine j_iload G dX9_standsAt_32 rfl ?_
    refine j_icmp_ge G dX9_standsAt_34 (tgt := 64) (by decide) (by omega) (by omega) (fun c_34 => ?_) (fun c_34 => ?_)
    · refine j_iconst G dX9_standsAt_64 ?_
      refine j_zreturn G dX9_standsAt_65 (by first | exact b2_01 _ | omega) ?_
      obtain rfl : i = n := by omega
      rw [decide_eq_true (by omega), eqB_iff.2 h_al]
      exact ⟨rfl, rfl⟩
    · first | refine j_aload_n G dX9_standsAt_37 rfl ?_ | refine j_aload_nN G dX9_standsAt_37 rfl ?_
      refine j_getr G fl_X9_21 dX9_standsAt_38 (by first | assumption | rfl) (by rfl) ?_
      refine j_iload G dX9_standsAt_41 rfl ?_
      refine j_iload G dX9_standsAt_43 rfl ?_
      refine j_iadd G dX9_standsAt_45 ?_
      refine j_iaload G dX9_standsAt_46 (by first | assumption | rfl) (by omega) (fun r_46 => ?_)
      try simp (disch := omega) only [up_same, up_cell, up_idx, cpm_at, fil_at] at r_46 ⊢
      first | refine j_aload_n G dX9_standsAt_47 rfl ?_ | refine j_aload_nN G dX9_standsAt_47 rfl ?_
      refine j_iload_n G dX9_standsAt_48 rfl ?_
      refine j_iload G dX9_standsAt_49 rfl ?_
      refine j_iadd G dX9_standsAt_51 ?_
      refine j_iaload G dX9_standsAt_52 (by first | assumption | rfl) (by omega) (fun r_52 => ?_)
      try simp (disch := omega) only [up_same, up_cell, up_idx, cpm_at, fil_at] at r_52 ⊢
      refine j_pc (p2 := 53) rfl ?_
      refine j_icmp_eq G dX9_standsAt_53 (tgt := 58) (by decide) (by omega) (by omega) (fun c_53 => ?_) (fun c_53 => ?_)
      · refine j_iinc7 G dX9_standsAt_58 (by decide) rfl rfl ?_
        refine j_goto G dX9_standsAt_61 (tgt := 30) (by decide) ?_
        refine j_pc (p2 := 30) rfl ?_
        refine ih (by omega) (fun j h_j => ?_)
        by_cases h_e2 : j = i
        · rw [h_e2]; exact c_53
        · exact h_al j (by omega)
      · refine j_iconst G dX9_standsAt_56 ?_
        refine j_zreturn G dX9_standsAt_57 (by first | exact b2_01 _ | omega) ?_
        rw [show eqB (fun i => μ q1 (4 * s + i)) (fun i => μ q (from_ + i)) n = false from Bool.eq_false_iff.2 (fun z => c_53 (eqB_iff.1 z i (by omega))), Bool.and_false]
        exact ⟨rfl, rfl⟩
  · refine j_iconst G dX9_standsAt_17 ?_
    refine j_zreturn G dX9_standsAt_18 (by first | exact b2_01 _ | omega) ?_
    rw [decide_eq_false (by omega), Bool.false_and]
    exact ⟨rfl, rfl⟩
theorem c_cellsOf (c s : Nat) (h_c : c < 5) (h_s : s < 12) : CT (EC x) 0 yX1_cellsOfShort [rf (EC x) (2 + 7 * c), iv s] σ (rI (if σ (8 + 7 * c) s = 0 then 1 else 2) σ) := by
  obtain ⟨h_y1, h_y2, h_y3, h_y4, h_y5, h_y6, h_y7⟩ := ly_code (x := x) h_c
  refine CT.ofJ (own := RX1) (cc := cX1_cellsOfShort) (n := 2) (ret := (some .int)) (by decide) rfl cw_X1_cellsOfShort (by decide) (Nat.le_of_ble_eq_true rfl) (ls := [some (rf (EC x) (2 + 7 * c)), some (iv s)]) rfl ?_
  intro X G
  first | refine j_aload_n G dX1_cellsOfShort_0 rfl ?_ | refine j_aload_nN G dX1_cellsOfShort_0 rfl ?_
  refine j_getr G fl_X1_27 dX1_cellsOfShort_1 (by first | assumption | rfl) (by rfl) ?_
  refine j_iload_n G dX1_cellsOfShort_4 rfl ?_
  refine j_iaload G dX1_cellsOfShort_5 (by first | assumption | rfl) (by omega) (fun r_5 => ?_)
  try simp (disch := omega) only [up_same, up_cell, up_idx, cpm_at, fil_at] at r_5 ⊢
  refine j_if_ne G dX1_cellsOfShort_6 (tgt := 13) (by decide) (by omega) (fun c_6 => ?_) (fun c_6 => ?_)
  · refine j_iconst G dX1_cellsOfShort_13 ?_
    refine j_ireturn G dX1_cellsOfShort_14 ?_
    first | (rw [if_pos (by assumption)]; exact ⟨rfl, rfl⟩) | (rw [if_neg (by assumption)]; exact ⟨rfl, rfl⟩)
  · refine j_iconst G dX1_cellsOfShort_9 ?_
    refine j_goto G dX1_cellsOfShort_10 (tgt := 14) (by decide) ?_
    refine j_ireturn G dX1_cellsOfShort_14 ?_
    first | (rw [if_pos (by assumption)]; exact ⟨rfl, rfl⟩) | (rw [if_neg (by assumption)]; exact ⟨rfl, rfl⟩)
theorem c_pointsOf (c s : Nat) (h_c : c < 5) (h_s : s < 12) (a b : Nat) (h_a : σ (7 + 7 * c) s = a) (h_b : σ (8 + 7 * c) s = b) (h_a6 : a < 64) (h_b6 : b < 64) : CT (EC x) 1 yX1_pointsOfShort [rf (EC x) (2 + 7 * c), iv s] σ (rI (pop a + pop b) σ) := by
  obtain ⟨h_y1, h_y2, h_y3, h_y4, h_y5, h_y6, h_y7⟩ := ly_code (x := x) h_c
  refine CT.ofJ (own := RX1) (cc := cX1_pointsOfShort) (n := 2) (ret := (some .int)) (by decide) rfl cw_X1_pointsOfShort (by decide) (Nat.le_of_ble_eq_true rfl) (ls := [some (rf (EC x) (2 + 7 * c)), some (iv s)]) rfl ?_
  intro X G
  first | refine j_aload_n G dX1_pointsOfShort_0 rfl ?_ | refine j_aload_nN G dX1_pointsOfShort_0 rfl ?_
  refine j_getr G fl_X1_24 dX1_pointsOfShort_1 (by first | assumption | rfl) (by rfl) ?_
  refine j_iload_n G dX1_pointsOfShort_4 rfl ?_
  refine j_iaload G dX1_pointsOfShort_5 (by first | assumption | rfl) (by omega) (fun r_5 => ?_)
  try simp (disch := omega) only [up_same, up_cell, up_idx, cpm_at, fil_at] at r_5 ⊢
  rw [h_a] at *
  refine j_callS G ms_X1_48 dX1_pointsOfShort_6 (x_bitCount (a : Int)) rfl rfl (by exact Nat.le_of_ble_eq_true rfl) (by decide) (kI ?_)
  first | refine j_aload_n G dX1_pointsOfShort_9 rfl ?_ | refine j_aload_nN G dX1_pointsOfShort_9 rfl ?_
  refine j_getr G fl_X1_27 dX1_pointsOfShort_10 (by first | assumption | rfl) (by rfl) ?_
  refine j_iload_n G dX1_pointsOfShort_13 rfl ?_
  refine j_iaload G dX1_pointsOfShort_14 (by first | assumption | rfl) (by omega) (fun r_14 => ?_)
  try simp (disch := omega) only [up_same, up_cell, up_idx, cpm_at, fil_at] at r_14 ⊢
  rw [h_b] at *
  refine j_callS G ms_X1_48 dX1_pointsOfShort_15 (x_bitCount (b : Int)) rfl rfl (by exact Nat.le_of_ble_eq_true rfl) (by decide) (kI ?_)
  rw [bcF_pop a (by omega), bcF_pop b (by omega)]
  refine j_iadd G dX1_pointsOfShort_18 ?_
  refine j_pc (p2 := 19) rfl ?_
  refine j_ireturn G dX1_pointsOfShort_19 ?_
  exact ⟨rfl, rfl⟩
end WG
