section CLay2
variable {x : CX}
theorem ly_reader0 : ∀ r : Nat, r < 20 → ([some 78, some 80, some 82, some 84, some 86, some 88, some 90, some 92, some 94, some 96, some 98, some 100, some 102, some 104, some 106, some 108, some 110, some 112, some 114, some 116] : List (Option Nat))[r]? = some (some (78 + 2 * r)) ∧ LC[78 + 2 * r]? = some (6, 4, [none, none, none, some (79 + 2 * r)]) ∧ LC[79 + 2 * r]? = some (20, 5, []) := by
  intro r h_r
  rcases (show r = 0 ∨ r = 1 ∨ r = 2 ∨ r = 3 ∨ r = 4 ∨ r = 5 ∨ r = 6 ∨ r = 7 ∨ r = 8 ∨ r = 9 ∨ r = 10 ∨ r = 11 ∨ r = 12 ∨ r = 13 ∨ r = 14 ∨ r = 15 ∨ r = 16 ∨ r = 17 ∨ r = 18 ∨ r = 19 by omega) with rfl | rfl | rfl | rfl | rfl | rfl | rfl | rfl | rfl | rfl | rfl | rfl | rfl | rfl | rfl | rfl | rfl | rfl | rfl | rfl <;> exact ⟨rfl, rfl, rfl⟩
theorem ly_reader {r : Nat} (h : r < 20) : ([some 78, some 80, some 82, some 84, some 86, some 88, some 90, some 92, some 94, some 96, some 98, some 100, some 102, some 104, some 106, some 108, some 110, some 112, some 114, some 116] : List (Option Nat))[((r : Nat) : Int).toNat]? = some (some (78 + 2 * r)) ∧ (eY (EC x))[78 + 2 * r]? = some (6, 4, [none, none, none, some (79 + 2 * r)]) ∧ (eY (EC x))[79 + 2 * r]? = some (20, 5, []) := ly_reader0 r h
/-- a school's cells -/
theorem ly_school0 : ∀ s : Nat, s < 6 → ([some 119, some 131, some 143, some 155, some 167, some 179] : List (Option Nat))[s]? = some (some (119 + 12 * s)) ∧ LC[119 + 12 * s]? = some (7, 2, [some (120 + 12 * s), some (129 + 12 * s)]) ∧ LC[120 + 12 * s]? = some (27, 8, [some (121 + 12 * s), some (122 + 12 * s), some (123 + 12 * s), some (124 + 12 * s), some (125 + 12 * s), some (126 + 12 * s), some (127 + 12 * s), some (128 + 12 * s)]) ∧ LC[129 + 12 * s]? = some (5, 2, [some (130 + 12 * s), none]) ∧ LC[130 + 12 * s]? = some (20, 40, []) := by
  intro s h_s
  rcases (show s = 0 ∨ s = 1 ∨ s = 2 ∨ s = 3 ∨ s = 4 ∨ s = 5 by omega) with rfl | rfl | rfl | rfl | rfl | rfl <;> exact ⟨rfl, rfl, rfl, rfl, rfl⟩
theorem ly_school {s : Nat} (h : s < 6) : ([some 119, some 131, some 143, some 155, some 167, some 179] : List (Option Nat))[((s : Nat) : Int).toNat]? = some (some (119 + 12 * s)) ∧ (eY (EC x))[119 + 12 * s]? = some (7, 2, [some (120 + 12 * s), some (129 + 12 * s)]) ∧ (eY (EC x))[120 + 12 * s]? = some (27, 8, [some (121 + 12 * s), some (122 + 12 * s), some (123 + 12 * s), some (124 + 12 * s), some (125 + 12 * s), some (126 + 12 * s), some (127 + 12 * s), some (128 + 12 * s)]) ∧ (eY (EC x))[129 + 12 * s]? = some (5, 2, [some (130 + 12 * s), none]) ∧ (eY (EC x))[130 + 12 * s]? = some (20, 40, []) := ly_school0 s h
theorem ly_copies0 : ∀ s : Nat, s < 6 → ∀ b : Nat, b < 8 → ([some (121 + 12 * s), some (122 + 12 * s), some (123 + 12 * s), some (124 + 12 * s), some (125 + 12 * s), some (126 + 12 * s), some (127 + 12 * s), some (128 + 12 * s)] : List (Option Nat))[b]? = some (some (121 + 12 * s + b)) ∧ LC[121 + 12 * s + b]? = some (20, 5, []) := by
  intro s h_s b h_b
  rcases (show s = 0 ∨ s = 1 ∨ s = 2 ∨ s = 3 ∨ s = 4 ∨ s = 5 by omega) with rfl | rfl | rfl | rfl | rfl | rfl <;> rcases (show b = 0 ∨ b = 1 ∨ b = 2 ∨ b = 3 ∨ b = 4 ∨ b = 5 ∨ b = 6 ∨ b = 7 by omega) with rfl | rfl | rfl | rfl | rfl | rfl | rfl | rfl <;> exact ⟨rfl, rfl⟩
theorem ly_copies {s b : Nat} (hs : s < 6) (h : b < 8) : ([some (121 + 12 * s), some (122 + 12 * s), some (123 + 12 * s), some (124 + 12 * s), some (125 + 12 * s), some (126 + 12 * s), some (127 + 12 * s), some (128 + 12 * s)] : List (Option Nat))[((b : Nat) : Int).toNat]? = some (some (121 + 12 * s + b)) := (ly_copies0 s hs b h).1
theorem ly_shelf {s b : Nat} (hs : s < 6) (h : b < 8) : (eY (EC x))[121 + 12 * s + b]? = some (20, 5, []) := (ly_copies0 s hs b h).2
end CLay2
section CO2
variable {x : CX} {σ : MemT}
theorem c_word (h_w0 : σ 57 0 = 10) (h_w : 0 ≤ σ 57 3 ∧ σ 57 3 ≤ 30) (h_p : 0 ≤ σ 37 1 ∧ σ 37 1 ≤ 10) : CT (EC x) 2 yX11_word [rf (EC x) 0] σ
    (if 30 ≤ σ 57 3 then rI (-4) σ else if σ 37 1 = 0 then rI (-5) σ else rI (σ 57 3) (up (up (up (cpm σ 38 0 58 (10 * σ 57 3) (σ 37 1)) 59 (σ 57 3) (σ 37 1)) 37 1 0) 57 3 (σ 57 3 + 1))) := by
  refine CT.ofJ (own := RX11) (cc := cX11_word) (n := 1) (ret := (some .int)) (by decide) rfl cw_X11_word (by decide) (Nat.le_of_ble_eq_true rfl) (ls := [some (rf (EC x) 0)]) rfl ?_
  intro X G
  first | refine j_aload_n G dX11_word_0 rfl ?_ | refine j_aload_nN G dX11_word_0 rfl ?_
  refine j_getr G fl_X11_50 dX11_word_1 (by first | assumption | rfl) (by rfl) ?_
  refine j_getr G fl_X11_157 dX11_word_4 (by first | assumption | rfl) (by rfl) ?_
  refine j_callV G mv_X11_116 dX11_word_7 (t_isFull 57 58 59 30 rfl rfl (by decide)) (by first | assumption | rfl) (by decide) (by rfl) rfl rfl (by exact Nat.le_of_ble_eq_true rfl) (by decide) (kI ?_)
  refine j_if_eqB G dX11_word_10 (tgt := 16) (by decide)  (fun c_10 => ?_) (fun c_10 => ?_)
  · first | refine j_aload_n G dX11_word_16 rfl ?_ | refine j_aload_nN G dX11_word_16 rfl ?_
    refine j_getr G fl_X11_21 dX11_word_17 (by first | assumption | rfl) (by rfl) ?_
    refine j_geti G fl_X11_119 dX11_word_20 1 rfl (by first | assumption | rfl) (by rfl) (fun r_20 => ?_)
    try simp (disch := omega) only [up_same, up_cell, up_idx, cpm_at, fil_at] at r_20 ⊢
    refine j_if_ne G dX11_word_23 (tgt := 31) (by decide) (by omega) (fun c_23 => ?_) (fun c_23 => ?_)
    · first | refine j_aload_n G dX11_word_31 rfl ?_ | refine j_aload_nN G dX11_word_31 rfl ?_
      refine j_getr G fl_X11_50 dX11_word_32 (by first | assumption | rfl) (by rfl) ?_
      refine j_getr G fl_X11_157 dX11_word_35 (by first | assumption | rfl) (by rfl) ?_
      first | refine j_aload_n G dX11_word_38 rfl ?_ | refine j_aload_nN G dX11_word_38 rfl ?_
      refine j_getr G fl_X11_21 dX11_word_39 (by first | assumption | rfl) (by rfl) ?_
      refine j_callV G mv_X11_160 dX11_word_42 (t_take 57 58 59 300 30 37 38 10 rfl rfl rfl rfl rfl (by decide) (by omega) (by omega) (by omega) (by omega) (by rw [h_w0]; omega) (by decide)) (by first | assumption | rfl) (by decide) (by rfl) rfl rfl (by exact Nat.le_of_ble_eq_true rfl) (by decide) (kI ?_)
      refine j_ireturn G dX11_word_45 ?_
      repeat' split
      all_goals first | exact ⟨rfl, rfl⟩ | exact ⟨rfl, by rw [h_w0, Int.mul_comm]⟩ | omega
    · refine j_bipush G dX11_word_26 (by decide) ?_
      refine j_goto G dX11_word_28 (tgt := 45) (by decide) ?_
      refine j_ireturn G dX11_word_45 ?_
      repeat' split
      all_goals first | exact ⟨rfl, rfl⟩ | exact ⟨rfl, by rw [h_w0, Int.mul_comm]⟩ | omega
  · refine j_bipush G dX11_word_13 (by decide) ?_
    refine j_ireturn G dX11_word_15 ?_
    repeat' split
    all_goals first | exact ⟨rfl, rfl⟩ | exact ⟨rfl, by rw [h_w0, Int.mul_comm]⟩ | omega
theorem c_row (h_w0 : σ 70 0 = 4) (h_w : 0 ≤ σ 70 3 ∧ σ 70 3 ≤ 12) (h_p : 0 ≤ σ 37 1 ∧ σ 37 1 ≤ 10) : CT (EC x) 2 yX11_row [rf (EC x) 0] σ
    (if 12 ≤ σ 70 3 then rI (-4) σ else if ¬ (2 ≤ σ 37 1 ∧ σ 37 1 ≤ 4) then rI (-5) σ else rI (σ 70 3) (up (up (up (cpm σ 38 0 71 (4 * σ 70 3) (σ 37 1)) 72 (σ 70 3) (σ 37 1)) 37 1 0) 70 3 (σ 70 3 + 1))) := by
  refine CT.ofJ (own := RX11) (cc := cX11_row) (n := 1) (ret := (some .int)) (by decide) rfl cw_X11_row (by decide) (Nat.le_of_ble_eq_true rfl) (ls := [some (rf (EC x) 0)]) rfl ?_
  intro X G
  first | refine j_aload_n G dX11_row_0 rfl ?_ | refine j_aload_nN G dX11_row_0 rfl ?_
  refine j_getr G fl_X11_50 dX11_row_1 (by first | assumption | rfl) (by rfl) ?_
  refine j_getr G fl_X11_187 dX11_row_4 (by first | assumption | rfl) (by rfl) ?_
  refine j_callV G mv_X11_116 dX11_row_7 (t_isFull 70 71 72 12 rfl rfl (by decide)) (by first | assumption | rfl) (by decide) (by rfl) rfl rfl (by exact Nat.le_of_ble_eq_true rfl) (by decide) (kI ?_)
  refine j_if_eqB G dX11_row_10 (tgt := 16) (by decide)  (fun c_10 => ?_) (fun c_10 => ?_)
  · first | refine j_aload_n G dX11_row_16 rfl ?_ | refine j_aload_nN G dX11_row_16 rfl ?_
    refine j_getr G fl_X11_21 dX11_row_17 (by first | assumption | rfl) (by rfl) ?_
    refine j_geti G fl_X11_119 dX11_row_20 1 rfl (by first | assumption | rfl) (by rfl) (fun r_20 => ?_)
    try simp (disch := omega) only [up_same, up_cell, up_idx, cpm_at, fil_at] at r_20 ⊢
    refine j_iconst G dX11_row_23 ?_
    refine j_iconst G dX11_row_24 ?_
    refine j_callS G ms_X11_92 dX11_row_25 (x_within _ _ _ (by omega) (by omega) (by omega)) rfl rfl (by exact Nat.le_of_ble_eq_true rfl) (by decide) (kI ?_)
    refine j_if_eqB G dX11_row_28 (tgt := 48) (by decide)  (fun c_28 => ?_) (fun c_28 => ?_)
    · refine j_bipush G dX11_row_48 (by decide) ?_
      refine j_ireturn G dX11_row_50 ?_
      repeat' split
      all_goals first | exact ⟨rfl, rfl⟩ | exact ⟨rfl, by rw [h_w0, Int.mul_comm]⟩ | omega
    · first | refine j_aload_n G dX11_row_31 rfl ?_ | refine j_aload_nN G dX11_row_31 rfl ?_
      refine j_getr G fl_X11_50 dX11_row_32 (by first | assumption | rfl) (by rfl) ?_
      refine j_getr G fl_X11_187 dX11_row_35 (by first | assumption | rfl) (by rfl) ?_
      first | refine j_aload_n G dX11_row_38 rfl ?_ | refine j_aload_nN G dX11_row_38 rfl ?_
      refine j_getr G fl_X11_21 dX11_row_39 (by first | assumption | rfl) (by rfl) ?_
      refine j_callV G mv_X11_160 dX11_row_42 (t_take 70 71 72 48 12 37 38 10 rfl rfl rfl rfl rfl (by decide) (by omega) (by omega) (by omega) (by omega) (by rw [h_w0]; omega) (by decide)) (by first | assumption | rfl) (by decide) (by rfl) rfl rfl (by exact Nat.le_of_ble_eq_true rfl) (by decide) (kI ?_)
      refine j_goto G dX11_row_45 (tgt := 50) (by decide) ?_
      refine j_ireturn G dX11_row_50 ?_
      repeat' split
      all_goals first | exact ⟨rfl, rfl⟩ | exact ⟨rfl, by rw [h_w0, Int.mul_comm]⟩ | omega
  · refine j_bipush G dX11_row_13 (by decide) ?_
    refine j_ireturn G dX11_row_15 ?_
    repeat' split
    all_goals first | exact ⟨rfl, rfl⟩ | exact ⟨rfl, by rw [h_w0, Int.mul_comm]⟩ | omega
theorem c_addShort (c : Nat) (h_c : c < 5) (h_w0 : σ (4 + 7 * c) 0 = 4) (h_w : 0 ≤ σ (4 + 7 * c) 3 ∧ σ (4 + 7 * c) 3 < 12) (h_p : 2 ≤ σ 37 1 ∧ σ 37 1 ≤ 4) (h_d : 1 ≤ σ 39 1 ∧ σ 39 1 ≤ 2) : CT (EC x) 3 yX1_addShort [rf (EC x) (2 + 7 * c), rf (EC x) 37, rf (EC x) 39] σ
    (rI (σ (4 + 7 * c) 3) (up (up (up (up (up (up (cpm σ 38 0 (5 + 7 * c) (4 * σ (4 + 7 * c) 3) (σ 37 1)) (6 + 7 * c) (σ (4 + 7 * c) 3) (σ 37 1)) 37 1 0) (4 + 7 * c) 3 (σ (4 + 7 * c) 3 + 1)) (7 + 7 * c) (σ (4 + 7 * c) 3) (σ 40 0)) (8 + 7 * c) (σ (4 + 7 * c) 3) (if σ 39 1 ≤ 1 then 0 else σ 40 1)) 39 1 0)) := by
  obtain ⟨h_y1, h_y2, h_y3, h_y4, h_y5, h_y6, h_y7⟩ := ly_code (x := x) h_c
  refine CT.ofJ (own := RX1) (cc := cX1_addShort) (n := 4) (ret := (some .int)) (by decide) rfl cw_X1_addShort (by decide) (Nat.le_of_ble_eq_true rfl) (ls := [some (rf (EC x) (2 + 7 * c)), some (rf (EC x) 37), some (rf (EC x) 39), none]) rfl ?_
  intro X G
  first | refine j_aload_n G dX1_addShort_0 rfl ?_ | refine j_aload_nN G dX1_addShort_0 rfl ?_
  refine j_getr G fl_X1_20 dX1_addShort_1 (by first | assumption | rfl) (by rfl) ?_
  first | refine j_aload_n G dX1_addShort_4 rfl ?_ | refine j_aload_nN G dX1_addShort_4 rfl ?_
  refine j_callV G mv_X1_30 dX1_addShort_5 (t_take (4 + 7 * c) (5 + 7 * c) (6 + 7 * c) 48 12 37 38 10 h_y3 h_y4 h_y5 rfl rfl (by decide) (by omega) (by omega) (by omega) (by omega) (by rw [h_w0]; omega) (by omega)) (by first | assumption | rfl) (by decide) (by rfl) rfl rfl (by exact Nat.le_of_ble_eq_true rfl) (by decide) (kI ?_)
  refine j_istore3 G dX1_addShort_8 (by decide) rfl ?_
  refine j_iload_n G dX1_addShort_9 rfl ?_
  refine j_if_lt G dX1_addShort_10 (tgt := 52) (by decide) (by omega) (fun c_10 => ?_) (fun c_10 => ?_)
  · omega
  · first | refine j_aload_n G dX1_addShort_13 rfl ?_ | refine j_aload_nN G dX1_addShort_13 rfl ?_
    refine j_getr G fl_X1_24 dX1_addShort_14 (by first | assumption | rfl) (by rfl) ?_
    refine j_iload_n G dX1_addShort_17 rfl ?_
    first | refine j_aload_n G dX1_addShort_18 rfl ?_ | refine j_aload_nN G dX1_addShort_18 rfl ?_
    refine j_iconst G dX1_addShort_19 ?_
    refine j_callV G mv_X1_34 dX1_addShort_20 (p_at 39 40 12 0 (by omega) rfl rfl (by decide) (by simp (disch := omega) only [up_same, up_cell, up_idx, cpm_at, fil_at]; omega)) (by first | assumption | rfl) (by decide) (by rfl) rfl rfl (by exact Nat.le_of_ble_eq_true rfl) (by decide) (kI ?_)
    simp (disch := omega) only [up_same, up_cell, up_idx, cpm_at, fil_at]
    rw [if_pos (show (0 : Int) ≤ 0 ∧ 0 < σ 39 1 by omega)]
    refine j_ok (fun h_ok => ?_)
    have h_40 := h_ok 40 0 (fun _ _ q => by cases q)
    simp (disch := omega) only [up_same, up_cell, up_idx, cpm_at] at h_40
    refine j_iastore G dX1_addShort_23 (by first | assumption | rfl) (by omega) (by omega) ?_
    first | refine j_aload_n G dX1_addShort_24 rfl ?_ | refine j_aload_nN G dX1_addShort_24 rfl ?_
    refine j_getr G fl_X1_27 dX1_addShort_25 (by first | assumption | rfl) (by rfl) ?_
    refine j_iload_n G dX1_addShort_28 rfl ?_
    first | refine j_aload_n G dX1_addShort_29 rfl ?_ | refine j_aload_nN G dX1_addShort_29 rfl ?_
    refine j_pc (p2 := 30) rfl ?_
    refine j_geti G fl_X1_40 dX1_addShort_30 1 rfl (by first | assumption | rfl) (by rfl) (fun r_30 => ?_)
    try simp (disch := omega) only [up_same, up_cell, up_idx, cpm_at, fil_at] at r_30 ⊢
    refine j_iconst G dX1_addShort_33 ?_
    refine j_icmp_le G dX1_addShort_34 (tgt := 45) (by decide) (by omega) (by omega) (fun c_34 => ?_) (fun c_34 => ?_)
    · refine j_iconst G dX1_addShort_45 ?_
      refine j_iastore G dX1_addShort_46 (by first | assumption | rfl) (by omega) (by omega) ?_
      first | refine j_aload_n G dX1_addShort_47 rfl ?_ | refine j_aload_nN G dX1_addShort_47 rfl ?_
      refine j_callV G mv_X1_44 dX1_addShort_48 (p_empty 39 40 12 rfl) (by first | assumption | rfl) (by decide) (by rfl) rfl rfl (by exact Nat.le_of_ble_eq_true rfl) (by decide) (kI ?_)
      refine j_pop G dX1_addShort_51 rfl ?_
      refine j_iload_n G dX1_addShort_52 rfl ?_
      refine j_ireturn G dX1_addShort_53 ?_
      refine ⟨rfl, ?_⟩
      rw [h_w0, Int.mul_comm]
      first | rw [if_pos (show σ 39 1 ≤ 1 by omega)] | rw [if_neg (show ¬ σ 39 1 ≤ 1 by omega)]
    · first | refine j_aload_n G dX1_addShort_37 rfl ?_ | refine j_aload_nN G dX1_addShort_37 rfl ?_
      refine j_iconst G dX1_addShort_38 ?_
      refine j_callV G mv_X1_34 dX1_addShort_39 (p_at 39 40 12 1 (by omega) rfl rfl (by decide) (by simp (disch := omega) only [up_same, up_cell, up_idx, cpm_at, fil_at]; omega)) (by first | assumption | rfl) (by decide) (by rfl) rfl rfl (by exact Nat.le_of_ble_eq_true rfl) (by decide) (kI ?_)
      simp (disch := omega) only [up_same, up_cell, up_idx, cpm_at, fil_at]
      rw [if_pos (show (0 : Int) ≤ 1 ∧ 1 < σ 39 1 by omega)]
      refine j_ok (fun h_ok => ?_)
      have h_41 := h_ok 40 1 (fun _ _ q => by cases q)
      simp (disch := omega) only [up_same, up_cell, up_idx, cpm_at] at h_41
      refine j_goto G dX1_addShort_42 (tgt := 46) (by decide) ?_
      refine j_iastore G dX1_addShort_46 (by first | assumption | rfl) (by omega) (by omega) ?_
      first | refine j_aload_n G dX1_addShort_47 rfl ?_ | refine j_aload_nN G dX1_addShort_47 rfl ?_
      refine j_callV G mv_X1_44 dX1_addShort_48 (p_empty 39 40 12 rfl) (by first | assumption | rfl) (by decide) (by rfl) rfl rfl (by exact Nat.le_of_ble_eq_true rfl) (by decide) (kI ?_)
      refine j_pop G dX1_addShort_51 rfl ?_
      refine j_iload_n G dX1_addShort_52 rfl ?_
      refine j_ireturn G dX1_addShort_53 ?_
      refine ⟨rfl, ?_⟩
      rw [h_w0, Int.mul_comm]
      first | rw [if_pos (show σ 39 1 ≤ 1 by omega)] | rw [if_neg (show ¬ σ 39 1 ≤ 1 by omega)]
theorem c_abbreviate (c : Nat) (h_c : c < 5) (h_w0 : σ (4 + 7 * c) 0 = 4) (h_w : 0 ≤ σ (4 + 7 * c) 3 ∧ σ (4 + 7 * c) 3 ≤ 12) (h_p : 0 ≤ σ 37 1 ∧ σ 37 1 ≤ 10) (h_d : 0 ≤ σ 39 1 ∧ σ 39 1 ≤ 12) : CT (EC x) 4 yX11_abbreviate [rf (EC x) 0, iv c] σ
    (if 12 ≤ σ (4 + 7 * c) 3 then rI (-4) σ else if ¬ ((2 ≤ σ 37 1 ∧ σ 37 1 ≤ 4) ∧ 1 ≤ σ 39 1 ∧ σ 39 1 ≤ 2) then rI (-5) σ else
    rI (σ (4 + 7 * c) 3) (up (up (up (up (up (up (cpm σ 38 0 (5 + 7 * c) (4 * σ (4 + 7 * c) 3) (σ 37 1)) (6 + 7 * c) (σ (4 + 7 * c) 3) (σ 37 1)) 37 1 0) (4 + 7 * c) 3 (σ (4 + 7 * c) 3 + 1)) (7 + 7 * c) (σ (4 + 7 * c) 3) (σ 40 0)) (8 + 7 * c) (σ (4 + 7 * c) 3) (if σ 39 1 ≤ 1 then 0 else σ 40 1)) 39 1 0)) := by
  obtain ⟨h_y1, h_y2, h_y3, h_y4, h_y5, h_y6, h_y7⟩ := ly_code (x := x) h_c
  refine CT.ofJ (own := RX11) (cc := cX11_abbreviate) (n := 3) (ret := (some .int)) (by decide) rfl cw_X11_abbreviate (by decide) (Nat.le_of_ble_eq_true rfl) (ls := [some (rf (EC x) 0), some (iv c), none]) rfl ?_
  intro X G
  first | refine j_aload_n G dX11_abbreviate_0 rfl ?_ | refine j_aload_nN G dX11_abbreviate_0 rfl ?_
  refine j_iload_n G dX11_abbreviate_1 rfl ?_
  refine j_callV G mv_X11_88 dX11_abbreviate_2 (c_codeAt c h_c) (by first | assumption | rfl) (by decide) (by rfl) rfl rfl (by exact Nat.le_of_ble_eq_true rfl) (by decide) (kV ?_)
  first | refine j_astore2 G dX11_abbreviate_5 (by decide) rfl ?_ | refine j_astoreN2 G dX11_abbreviate_5 (by decide) rfl ?_
  first | refine j_aload_n G dX11_abbreviate_6 rfl ?_ | refine j_aload_nN G dX11_abbreviate_6 rfl ?_
  refine j_ifnonnull G dX11_abbreviate_7 (tgt := 12) (by decide) ?_
  first | refine j_aload_n G dX11_abbreviate_12 rfl ?_ | refine j_aload_nN G dX11_abbreviate_12 rfl ?_
  refine j_getr G fl_X11_112 dX11_abbreviate_13 (by first | assumption | rfl) (by rfl) ?_
  refine j_callV G mv_X11_116 dX11_abbreviate_16 (t_isFull (4 + 7 * c) (5 + 7 * c) (6 + 7 * c) 12 h_y3 h_y5 (by decide)) (by first | assumption | rfl) (by decide) (by rfl) rfl rfl (by exact Nat.le_of_ble_eq_true rfl) (by decide) (kI ?_)
  refine j_if_eqB G dX11_abbreviate_19 (tgt := 25) (by decide)  (fun c_19 => ?_) (fun c_19 => ?_)
  · first | refine j_aload_n G dX11_abbreviate_25 rfl ?_ | refine j_aload_nN G dX11_abbreviate_25 rfl ?_
    refine j_getr G fl_X11_21 dX11_abbreviate_26 (by first | assumption | rfl) (by rfl) ?_
    refine j_geti G fl_X11_119 dX11_abbreviate_29 1 rfl (by first | assumption | rfl) (by rfl) (fun r_29 => ?_)
    try simp (disch := omega) only [up_same, up_cell, up_idx, cpm_at, fil_at] at r_29 ⊢
    refine j_iconst G dX11_abbreviate_32 ?_
    refine j_iconst G dX11_abbreviate_33 ?_
    refine j_callS G ms_X11_92 dX11_abbreviate_34 (x_within _ _ _ (by omega) (by omega) (by omega)) rfl rfl (by exact Nat.le_of_ble_eq_true rfl) (by decide) (kI ?_)
    refine j_if_eqB G dX11_abbreviate_37 (tgt := 55) (by decide)  (fun c_37 => ?_) (fun c_37 => ?_)
    · refine j_bipush G dX11_abbreviate_55 (by decide) ?_
      refine j_ireturn G dX11_abbreviate_57 ?_
      repeat' split
      all_goals first | exact ⟨rfl, rfl⟩ | omega
    · first | refine j_aload_n G dX11_abbreviate_40 rfl ?_ | refine j_aload_nN G dX11_abbreviate_40 rfl ?_
      refine j_getr G fl_X11_25 dX11_abbreviate_41 (by first | assumption | rfl) (by rfl) ?_
      refine j_geti G fl_X11_119 dX11_abbreviate_44 1 rfl (by first | assumption | rfl) (by rfl) (fun r_44 => ?_)
      try simp (disch := omega) only [up_same, up_cell, up_idx, cpm_at, fil_at] at r_44 ⊢
      refine j_iconst G dX11_abbreviate_47 ?_
      refine j_iconst G dX11_abbreviate_48 ?_
      refine j_callS G ms_X11_92 dX11_abbreviate_49 (x_within _ _ _ (by omega) (by omega) (by omega)) rfl rfl (by exact Nat.le_of_ble_eq_true rfl) (by decide) (kI ?_)
      refine j_if_neB G dX11_abbreviate_52 (tgt := 58) (by decide)  (fun c_52 => ?_) (fun c_52 => ?_)
      · first | refine j_aload_n G dX11_abbreviate_58 rfl ?_ | refine j_aload_nN G dX11_abbreviate_58 rfl ?_
        first | refine j_aload_n G dX11_abbreviate_59 rfl ?_ | refine j_aload_nN G dX11_abbreviate_59 rfl ?_
        refine j_getr G fl_X11_21 dX11_abbreviate_60 (by first | assumption | rfl) (by rfl) ?_
        first | refine j_aload_n G dX11_abbreviate_63 rfl ?_ | refine j_aload_nN G dX11_abbreviate_63 rfl ?_
        refine j_getr G fl_X11_25 dX11_abbreviate_64 (by first | assumption | rfl) (by rfl) ?_
        refine j_callV G mv_X11_122 dX11_abbreviate_67 (c_addShort c h_c h_w0 (by omega) (by omega) (by omega)) (by first | assumption | rfl) (by decide) (by rfl) rfl rfl (by exact Nat.le_of_ble_eq_true rfl) (by decide) (kI ?_)
        refine j_ireturn G dX11_abbreviate_70 ?_
        repeat' split
        all_goals first | exact ⟨rfl, rfl⟩ | omega
      · refine j_bipush G dX11_abbreviate_55 (by decide) ?_
        refine j_ireturn G dX11_abbreviate_57 ?_
        repeat' split
        all_goals first | exact ⟨rfl, rfl⟩ | omega
  · refine j_bipush G dX11_abbreviate_22 (by decide) ?_
    refine j_ireturn G dX11_abbreviate_24 ?_
    repeat' split
    all_goals first | exact ⟨rfl, rfl⟩ | omega
theorem c_abbreviateN (code : Int) (h_1 : (-2147483648 ≤ code ∧ code < 2147483648)) (h_c : ¬ (0 ≤ code ∧ code ≤ 4)) : CT (EC x) 4 yX11_abbreviate [rf (EC x) 0, iv code] σ (rI (-1) σ) := by
  refine CT.ofJ (own := RX11) (cc := cX11_abbreviate) (n := 3) (ret := (some .int)) (by decide) rfl cw_X11_abbreviate (by decide) (Nat.le_of_ble_eq_true rfl) (ls := [some (rf (EC x) 0), some (iv code), none]) rfl ?_
  intro X G
  first | refine j_aload_n G dX11_abbreviate_0 rfl ?_ | refine j_aload_nN G dX11_abbreviate_0 rfl ?_
  refine j_iload_n G dX11_abbreviate_1 rfl ?_
  refine j_callV G mv_X11_88 dX11_abbreviate_2 (c_codeAtN code h_1 h_c) (by first | assumption | rfl) (by decide) (by rfl) rfl rfl (by exact Nat.le_of_ble_eq_true rfl) (by decide) (kV ?_)
  first | refine j_astore2 G dX11_abbreviate_5 (by decide) rfl ?_ | refine j_astoreN2 G dX11_abbreviate_5 (by decide) rfl ?_
  first | refine j_aload_n G dX11_abbreviate_6 rfl ?_ | refine j_aload_nN G dX11_abbreviate_6 rfl ?_
  refine j_ifnonnullN G dX11_abbreviate_7 ?_
  refine j_iconst G dX11_abbreviate_10 ?_
  refine j_ireturn G dX11_abbreviate_11 ?_
  exact ⟨rfl, rfl⟩
theorem c_count (b : Nat) (h_b : b < 8) (w n : Int) (h_1 : (-2147483648 ≤ w ∧ w < 2147483648)) (h_2 : (-2147483648 ≤ n ∧ n < 2147483648)) (h_w : 0 ≤ σ 57 3 ∧ σ 57 3 ≤ 30) : CT (EC x) 2 yX11_count [rf (EC x) 0, iv b, iv w, iv n] σ
    (if ¬ (0 ≤ w ∧ w ≤ σ 57 3 - 1) then rI (-1) σ else if ¬ (0 ≤ n ∧ n ≤ 1000) then rI (-2) σ else rI (σ (61 + b) w) (up σ (61 + b) w n)) := by
  obtain ⟨h_y1, h_y2⟩ := ly_books (x := x) h_b
  refine CT.ofJ (own := RX11) (cc := cX11_count) (n := 5) (ret := (some .int)) (by decide) rfl cw_X11_count (by decide) (Nat.le_of_ble_eq_true rfl) (ls := [some (rf (EC x) 0), some (iv b), some (iv w), some (iv n), none]) rfl ?_
  intro X G
  refine j_iload_n G dX11_count_0 rfl ?_
  refine j_iconst G dX11_count_1 ?_
  refine j_bipush G dX11_count_2 (by decide) ?_
  refine j_callS G ms_X11_92 dX11_count_4 (x_within _ _ _ (by omega) (by omega) (by omega)) rfl rfl (by exact Nat.le_of_ble_eq_true rfl) (by decide) (kI ?_)
  refine j_if_eqB G dX11_count_7 (tgt := 30) (by decide)  (fun c_7 => ?_) (fun c_7 => ?_)
  · refine j_iconst G dX11_count_30 ?_
    refine j_ireturn G dX11_count_31 ?_
    repeat' split
    all_goals first | exact ⟨rfl, rfl⟩ | omega
  · refine j_iload_n G dX11_count_10 rfl ?_
    refine j_iconst G dX11_count_11 ?_
    first | refine j_aload_n G dX11_count_12 rfl ?_ | refine j_aload_nN G dX11_count_12 rfl ?_
    refine j_getr G fl_X11_50 dX11_count_13 (by first | assumption | rfl) (by rfl) ?_
    refine j_getr G fl_X11_157 dX11_count_16 (by first | assumption | rfl) (by rfl) ?_
    refine j_geti G fl_X11_164 dX11_count_19 3 rfl (by first | assumption | rfl) (by rfl) (fun r_19 => ?_)
    try simp (disch := omega) only [up_same, up_cell, up_idx, cpm_at, fil_at] at r_19 ⊢
    refine j_iconst G dX11_count_22 ?_
    refine j_isub G dX11_count_23 ?_
    refine j_callS G ms_X11_92 dX11_count_24 (x_within _ _ _ (by omega) (by omega) (by omega)) rfl rfl (by exact Nat.le_of_ble_eq_true rfl) (by decide) (kI ?_)
    refine j_if_neB G dX11_count_27 (tgt := 32) (by decide)  (fun c_27 => ?_) (fun c_27 => ?_)
    · refine j_iload_n G dX11_count_32 rfl ?_
      refine j_iconst G dX11_count_33 ?_
      refine j_sipush G dX11_count_34 (by decide) ?_
      refine j_callS G ms_X11_92 dX11_count_37 (x_within _ _ _ (by omega) (by omega) (by omega)) rfl rfl (by exact Nat.le_of_ble_eq_true rfl) (by decide) (kI ?_)
      refine j_if_neB G dX11_count_40 (tgt := 46) (by decide)  (fun c_40 => ?_) (fun c_40 => ?_)
      · first | refine j_aload_n G dX11_count_46 rfl ?_ | refine j_aload_nN G dX11_count_46 rfl ?_
        refine j_getr G fl_X11_50 dX11_count_47 (by first | assumption | rfl) (by rfl) ?_
        refine j_getr G fl_X11_167 dX11_count_50 (by first | assumption | rfl) (by rfl) ?_
        refine j_iload_n G dX11_count_53 rfl ?_
        refine j_aaload G dX11_count_54 (by first | assumption | rfl) (by decide) (by omega) h_y1 ?_
        refine j_iload_n G dX11_count_55 rfl ?_
        refine j_iaload G dX11_count_56 (by first | assumption | rfl) (by omega) (fun r_56 => ?_)
        try simp (disch := omega) only [up_same, up_cell, up_idx, cpm_at, fil_at] at r_56 ⊢
        refine j_istore4 G dX11_count_57 (by decide) rfl ?_
        first | refine j_aload_n G dX11_count_59 rfl ?_ | refine j_aload_nN G dX11_count_59 rfl ?_
        refine j_getr G fl_X11_50 dX11_count_60 (by first | assumption | rfl) (by rfl) ?_
        refine j_getr G fl_X11_167 dX11_count_63 (by first | assumption | rfl) (by rfl) ?_
        refine j_pc (p2 := 66) rfl ?_
        refine j_iload_n G dX11_count_66 rfl ?_
        refine j_aaload G dX11_count_67 (by first | assumption | rfl) (by decide) (by omega) h_y1 ?_
        refine j_iload_n G dX11_count_68 rfl ?_
        refine j_iload_n G dX11_count_69 rfl ?_
        refine j_iastore G dX11_count_70 (by first | assumption | rfl) (by omega) (by omega) ?_
        refine j_iload G dX11_count_71 rfl ?_
        refine j_ireturn G dX11_count_73 ?_
        repeat' split
        all_goals first | exact ⟨rfl, rfl⟩ | omega
      · refine j_bipush G dX11_count_43 (by decide) ?_
        refine j_ireturn G dX11_count_45 ?_
        repeat' split
        all_goals first | exact ⟨rfl, rfl⟩ | omega
    · refine j_iconst G dX11_count_30 ?_
      refine j_ireturn G dX11_count_31 ?_
      repeat' split
      all_goals first | exact ⟨rfl, rfl⟩ | omega
theorem c_countN (b w n : Int) (h_1 : (-2147483648 ≤ b ∧ b < 2147483648)) (h_b : ¬ (0 ≤ b ∧ b ≤ 7)) : CT (EC x) 2 yX11_count [rf (EC x) 0, iv b, iv w, iv n] σ (rI (-1) σ) := by
  refine CT.ofJ (own := RX11) (cc := cX11_count) (n := 5) (ret := (some .int)) (by decide) rfl cw_X11_count (by decide) (Nat.le_of_ble_eq_true rfl) (ls := [some (rf (EC x) 0), some (iv b), some (iv w), some (iv n), none]) rfl ?_
  intro X G
  refine j_iload_n G dX11_count_0 rfl ?_
  refine j_iconst G dX11_count_1 ?_
  refine j_bipush G dX11_count_2 (by decide) ?_
  refine j_callS G ms_X11_92 dX11_count_4 (x_within _ _ _ (by omega) (by omega) (by omega)) rfl rfl (by exact Nat.le_of_ble_eq_true rfl) (by decide) (kI ?_)
  refine j_if_eqB G dX11_count_7 (tgt := 30) (by decide)  (fun c_7 => ?_) (fun c_7 => ?_)
  · refine j_iconst G dX11_count_30 ?_
    refine j_ireturn G dX11_count_31 ?_
    exact ⟨rfl, rfl⟩
  · omega
theorem c_readerAt (r : Nat) (h_r : r < σ 0 8) (h_n : σ 0 8 ≤ 20) : CT (EC x) 1 yX11_readerAt [rf (EC x) 0, iv r] σ (rV (rf (EC x) (78 + 2 * r)) σ) := by
  obtain ⟨h_y1, h_y2, h_y3⟩ := ly_reader (x := x) (r := r) (by omega)
  refine CT.ofJ (own := RX11) (cc := cX11_readerAt) (n := 2) (ret := (some (.object "DotWar$Reader"))) (by decide) rfl cw_X11_readerAt (by decide) (Nat.le_of_ble_eq_true rfl) (ls := [some (rf (EC x) 0), some (iv r)]) rfl ?_
  intro X G
  refine j_iload_n G dX11_readerAt_0 rfl ?_
  refine j_iconst G dX11_readerAt_1 ?_
  first | refine j_aload_n G dX11_readerAt_2 rfl ?_ | refine j_aload_nN G dX11_readerAt_2 rfl ?_
  refine j_geti G fl_X11_61 dX11_readerAt_3 8 rfl (by first | assumption | rfl) (by rfl) (fun r_3 => ?_)
  try simp (disch := omega) only [up_same, up_cell, up_idx, cpm_at, fil_at] at r_3 ⊢
  refine j_iconst G dX11_readerAt_6 ?_
  refine j_isub G dX11_readerAt_7 ?_
  refine j_callS G ms_X11_92 dX11_readerAt_8 (x_within _ _ _ (by omega) (by omega) (by omega)) rfl rfl (by exact Nat.le_of_ble_eq_true rfl) (by decide) (kI ?_)
  refine j_if_eqB G dX11_readerAt_11 (tgt := 23) (by decide)  (fun c_11 => ?_) (fun c_11 => ?_)
  · omega
  · first | refine j_aload_n G dX11_readerAt_14 rfl ?_ | refine j_aload_nN G dX11_readerAt_14 rfl ?_
    refine j_getr G fl_X11_56 dX11_readerAt_15 (by first | assumption | rfl) (by rfl) ?_
    refine j_iload_n G dX11_readerAt_18 rfl ?_
    refine j_aaload G dX11_readerAt_19 (by first | assumption | rfl) (by decide) (by omega) h_y1 ?_
    refine j_goto G dX11_readerAt_20 (tgt := 24) (by decide) ?_
    first | refine j_areturn G dX11_readerAt_24 ?_ | refine j_areturnN G dX11_readerAt_24 ?_
    exact ⟨rfl, rfl⟩
theorem c_readerAtN (r : Int) (h_1 : (-2147483648 ≤ r ∧ r < 2147483648)) (h_r : ¬ (0 ≤ r ∧ r < σ 0 8)) (h_n : 0 ≤ σ 0 8 ∧ σ 0 8 ≤ 20) : CT (EC x) 1 yX11_readerAt [rf (EC x) 0, iv r] σ (rV .null σ) := by
  refine CT.ofJ (own := RX11) (cc := cX11_readerAt) (n := 2) (ret := (some (.object "DotWar$Reader"))) (by decide) rfl cw_X11_readerAt (by decide) (Nat.le_of_ble_eq_true rfl) (ls := [some (rf (EC x) 0), some (iv r)]) rfl ?_
  intro X G
  refine j_iload_n G dX11_readerAt_0 rfl ?_
  refine j_iconst G dX11_readerAt_1 ?_
  first | refine j_aload_n G dX11_readerAt_2 rfl ?_ | refine j_aload_nN G dX11_readerAt_2 rfl ?_
  refine j_geti G fl_X11_61 dX11_readerAt_3 8 rfl (by first | assumption | rfl) (by rfl) (fun r_3 => ?_)
  try simp (disch := omega) only [up_same, up_cell, up_idx, cpm_at, fil_at] at r_3 ⊢
  refine j_iconst G dX11_readerAt_6 ?_
  refine j_isub G dX11_readerAt_7 ?_
  refine j_callS G ms_X11_92 dX11_readerAt_8 (x_within _ _ _ (by omega) (by omega) (by omega)) rfl rfl (by exact Nat.le_of_ble_eq_true rfl) (by decide) (kI ?_)
  refine j_if_eqB G dX11_readerAt_11 (tgt := 23) (by decide)  (fun c_11 => ?_) (fun c_11 => ?_)
  · refine j_null G dX11_readerAt_23 ?_
    first | refine j_areturn G dX11_readerAt_24 ?_ | refine j_areturnN G dX11_readerAt_24 ?_
    exact ⟨rfl, rfl⟩
  · omega
theorem c_schoolAt (s : Nat) (h_s : s < 6) : CT (EC x) 1 yX11_schoolAt [rf (EC x) 0, iv s] σ (rV (rf (EC x) (119 + 12 * s)) σ) := by
  obtain ⟨h_y1, h_y2, h_y3⟩ := ly_school (x := x) h_s
  refine CT.ofJ (own := RX11) (cc := cX11_schoolAt) (n := 2) (ret := (some (.object "DotWar$School"))) (by decide) rfl cw_X11_schoolAt (by decide) (Nat.le_of_ble_eq_true rfl) (ls := [some (rf (EC x) 0), some (iv s)]) rfl ?_
  intro X G
  refine j_iload_n G dX11_schoolAt_0 rfl ?_
  refine j_iconst G dX11_schoolAt_1 ?_
  refine j_iconst G dX11_schoolAt_2 ?_
  refine j_callS G ms_X11_92 dX11_schoolAt_3 (x_within _ _ _ (by omega) (by omega) (by omega)) rfl rfl (by exact Nat.le_of_ble_eq_true rfl) (by decide) (kI ?_)
  refine j_if_eqB G dX11_schoolAt_6 (tgt := 18) (by decide)  (fun c_6 => ?_) (fun c_6 => ?_)
  · omega
  · first | refine j_aload_n G dX11_schoolAt_9 rfl ?_ | refine j_aload_nN G dX11_schoolAt_9 rfl ?_
    refine j_getr G fl_X11_67 dX11_schoolAt_10 (by first | assumption | rfl) (by rfl) ?_
    refine j_iload_n G dX11_schoolAt_13 rfl ?_
    refine j_aaload G dX11_schoolAt_14 (by first | assumption | rfl) (by decide) (by omega) h_y1 ?_
    refine j_goto G dX11_schoolAt_15 (tgt := 19) (by decide) ?_
    first | refine j_areturn G dX11_schoolAt_19 ?_ | refine j_areturnN G dX11_schoolAt_19 ?_
    exact ⟨rfl, rfl⟩
theorem c_schoolAtN (s : Int) (h_1 : (-2147483648 ≤ s ∧ s < 2147483648)) (h_s : ¬ (0 ≤ s ∧ s ≤ 5)) : CT (EC x) 1 yX11_schoolAt [rf (EC x) 0, iv s] σ (rV .null σ) := by
  refine CT.ofJ (own := RX11) (cc := cX11_schoolAt) (n := 2) (ret := (some (.object "DotWar$School"))) (by decide) rfl cw_X11_schoolAt (by decide) (Nat.le_of_ble_eq_true rfl) (ls := [some (rf (EC x) 0), some (iv s)]) rfl ?_
  intro X G
  refine j_iload_n G dX11_schoolAt_0 rfl ?_
  refine j_iconst G dX11_schoolAt_1 ?_
  refine j_iconst G dX11_schoolAt_2 ?_
  refine j_callS G ms_X11_92 dX11_schoolAt_3 (x_within _ _ _ (by omega) (by omega) (by omega)) rfl rfl (by exact Nat.le_of_ble_eq_true rfl) (by decide) (kI ?_)
  refine j_if_eqB G dX11_schoolAt_6 (tgt := 18) (by decide)  (fun c_6 => ?_) (fun c_6 => ?_)
  · refine j_null G dX11_schoolAt_18 ?_
    first | refine j_areturn G dX11_schoolAt_19 ?_ | refine j_areturnN G dX11_schoolAt_19 ?_
    exact ⟨rfl, rfl⟩
  · omega
theorem c_reader (age : Int) (s : Nat) (h_s : s < 6) (q : Int) (h_1 : (-2147483648 ≤ age ∧ age < 2147483648)) (h_q : q = 0 ∨ q = 1) (r : Nat) (h_r : σ 0 8 = r) (h_r2 : r ≤ 20) : CT (EC x) 2 yX11_reader [rf (EC x) 0, iv age, iv s, iv q] σ
    (if ¬ (5 ≤ age ∧ age ≤ 90) then rI (-2) σ else if 20 ≤ r then rI (-4) σ else rI r (up (up (up (up σ (78 + 2 * r) 0 age) (78 + 2 * r) 1 s) (78 + 2 * r) 2 q) 0 8 (r + 1))) := by
  refine CT.ofJ (own := RX11) (cc := cX11_reader) (n := 5) (ret := (some .int)) (by decide) rfl cw_X11_reader (by decide) (Nat.le_of_ble_eq_true rfl) (ls := [some (rf (EC x) 0), some (iv age), some (iv s), some (iv q), none]) rfl ?_
  intro X G
  first | refine j_aload_n G dX11_reader_0 rfl ?_ | refine j_aload_nN G dX11_reader_0 rfl ?_
  refine j_iload_n G dX11_reader_1 rfl ?_
  refine j_callV G mv_X11_197 dX11_reader_2 (c_schoolAt s h_s) (by first | assumption | rfl) (by decide) (by rfl) rfl rfl (by exact Nat.le_of_ble_eq_true rfl) (by decide) (kV ?_)
  refine j_ifnonnull G dX11_reader_5 (tgt := 10) (by decide) ?_
  refine j_iload_n G dX11_reader_10 rfl ?_
  refine j_iconst G dX11_reader_11 ?_
  refine j_bipush G dX11_reader_12 (by decide) ?_
  refine j_callS G ms_X11_92 dX11_reader_14 (x_within _ _ _ (by omega) (by omega) (by omega)) rfl rfl (by exact Nat.le_of_ble_eq_true rfl) (by decide) (kI ?_)
  refine j_if_neB G dX11_reader_17 (tgt := 23) (by decide)  (fun c_17 => ?_) (fun c_17 => ?_)
  · first | refine j_aload_n G dX11_reader_23 rfl ?_ | refine j_aload_nN G dX11_reader_23 rfl ?_
    have h_0 := h_r
    refine j_geti G fl_X11_61 dX11_reader_24 8 rfl (by first | assumption | rfl) (by rfl) (fun r_24 => ?_)
    try simp (disch := omega) only [up_same, up_cell, up_idx, cpm_at, fil_at] at r_24 ⊢
    refine j_bipush G dX11_reader_27 (by decide) ?_
    refine j_icmp_lt G dX11_reader_29 (tgt := 35) (by decide) (by omega) (by omega) (fun c_29 => ?_) (fun c_29 => ?_)
    · first | refine j_aload_n G dX11_reader_35 rfl ?_ | refine j_aload_nN G dX11_reader_35 rfl ?_
      have h_r20 : r < 20 := by omega
      obtain ⟨h_y1, h_y2, h_y3⟩ := ly_reader (x := x) h_r20
      refine j_getr G fl_X11_56 dX11_reader_36 (by first | assumption | rfl) (by rfl) ?_
      first | refine j_aload_n G dX11_reader_39 rfl ?_ | refine j_aload_nN G dX11_reader_39 rfl ?_
      refine j_geti G fl_X11_61 dX11_reader_40 8 rfl (by first | assumption | rfl) (by rfl) (fun r_40 => ?_)
      try simp (disch := omega) only [up_same, up_cell, up_idx, cpm_at, fil_at] at r_40 ⊢
      rw [h_r]
      refine j_aaload G dX11_reader_43 (by first | assumption | rfl) (by decide) (by omega) h_y1 ?_
      first | refine j_astore4 G dX11_reader_44 (by decide) rfl ?_ | refine j_astoreN4 G dX11_reader_44 (by decide) rfl ?_
      first | refine j_aload G dX11_reader_46 rfl ?_ | refine j_aloadN G dX11_reader_46 rfl ?_
      refine j_iload_n G dX11_reader_48 rfl ?_
      refine j_puti G fp_X11_201 dX11_reader_49 0 rfl (by first | assumption | rfl) (by rfl) (by omega) ?_
      first | refine j_aload G dX11_reader_52 rfl ?_ | refine j_aloadN G dX11_reader_52 rfl ?_
      refine j_iload_n G dX11_reader_54 rfl ?_
      refine j_pc (p2 := 55) rfl ?_
      refine j_puti G fp_X11_204 dX11_reader_55 1 rfl (by first | assumption | rfl) (by rfl) (by omega) ?_
      first | refine j_aload G dX11_reader_58 rfl ?_ | refine j_aloadN G dX11_reader_58 rfl ?_
      refine j_iload_n G dX11_reader_60 rfl ?_
      refine j_if_eq G dX11_reader_61 (tgt := 68) (by decide) (by omega) (fun c_61 => ?_) (fun c_61 => ?_)
      · refine j_iconst G dX11_reader_68 ?_
        refine j_puti G fp_X11_207 dX11_reader_69 2 rfl (by first | assumption | rfl) (by rfl) (by omega) ?_
        first | refine j_aload_n G dX11_reader_72 rfl ?_ | refine j_aload_nN G dX11_reader_72 rfl ?_
        refine j_dup G dX11_reader_73 rfl ?_
        refine j_geti G fl_X11_61 dX11_reader_74 8 rfl (by first | assumption | rfl) (by rfl) (fun r_74 => ?_)
        try simp (disch := omega) only [up_same, up_cell, up_idx, cpm_at, fil_at] at r_74 ⊢
        refine j_iconst G dX11_reader_77 ?_
        refine j_iadd G dX11_reader_78 ?_
        refine j_puti G fp_X11_61 dX11_reader_79 8 rfl (by first | assumption | rfl) (by rfl) (by omega) ?_
        first | refine j_aload_n G dX11_reader_82 rfl ?_ | refine j_aload_nN G dX11_reader_82 rfl ?_
        refine j_geti G fl_X11_61 dX11_reader_83 8 rfl (by first | assumption | rfl) (by rfl) (fun r_83 => ?_)
        try simp (disch := omega) only [up_same, up_cell, up_idx, cpm_at, fil_at] at r_83 ⊢
        refine j_iconst G dX11_reader_86 ?_
        refine j_pc (p2 := 87) rfl ?_
        refine j_isub G dX11_reader_87 ?_
        refine j_ireturn G dX11_reader_88 ?_
        repeat' split
        all_goals first | exact ⟨rfl, rfl⟩ | omega | skip
        all_goals refine ⟨congrArg (fun z => some (iv z)) (by omega), ?_⟩
        all_goals rw [h_r]
        all_goals first | rw [show q = 0 from c_61] | rw [show q = 1 by omega]
      · refine j_iconst G dX11_reader_64 ?_
        refine j_goto G dX11_reader_65 (tgt := 69) (by decide) ?_
        refine j_puti G fp_X11_207 dX11_reader_69 2 rfl (by first | assumption | rfl) (by rfl) (by omega) ?_
        first | refine j_aload_n G dX11_reader_72 rfl ?_ | refine j_aload_nN G dX11_reader_72 rfl ?_
        refine j_dup G dX11_reader_73 rfl ?_
        refine j_geti G fl_X11_61 dX11_reader_74 8 rfl (by first | assumption | rfl) (by rfl) (fun r_74 => ?_)
        try simp (disch := omega) only [up_same, up_cell, up_idx, cpm_at, fil_at] at r_74 ⊢
        refine j_iconst G dX11_reader_77 ?_
        refine j_iadd G dX11_reader_78 ?_
        refine j_puti G fp_X11_61 dX11_reader_79 8 rfl (by first | assumption | rfl) (by rfl) (by omega) ?_
        first | refine j_aload_n G dX11_reader_82 rfl ?_ | refine j_aload_nN G dX11_reader_82 rfl ?_
        refine j_geti G fl_X11_61 dX11_reader_83 8 rfl (by first | assumption | rfl) (by rfl) (fun r_83 => ?_)
        try simp (disch := omega) only [up_same, up_cell, up_idx, cpm_at, fil_at] at r_83 ⊢
        refine j_pc (p2 := 86) rfl ?_
        refine j_iconst G dX11_reader_86 ?_
        refine j_isub G dX11_reader_87 ?_
        refine j_ireturn G dX11_reader_88 ?_
        repeat' split
        all_goals first | exact ⟨rfl, rfl⟩ | omega | skip
        all_goals refine ⟨congrArg (fun z => some (iv z)) (by omega), ?_⟩
        all_goals rw [h_r]
        all_goals first | rw [show q = 0 from c_61] | rw [show q = 1 by omega]
    · refine j_bipush G dX11_reader_32 (by decide) ?_
      refine j_ireturn G dX11_reader_34 ?_
      repeat' split
      all_goals first | exact ⟨rfl, rfl⟩ | omega | skip
      all_goals refine ⟨congrArg (fun z => some (iv z)) (by omega), ?_⟩
      all_goals rw [h_r]
      all_goals first | rw [show q = 0 from c_61] | rw [show q = 1 by omega]
  · refine j_bipush G dX11_reader_20 (by decide) ?_
    refine j_ireturn G dX11_reader_22 ?_
    repeat' split
    all_goals first | exact ⟨rfl, rfl⟩ | omega | skip
    all_goals refine ⟨congrArg (fun z => some (iv z)) (by omega), ?_⟩
    all_goals rw [h_r]
    all_goals first | rw [show q = 0 from c_61] | rw [show q = 1 by omega]
theorem c_readerN (age s q : Int) (h_1 : (-2147483648 ≤ s ∧ s < 2147483648)) (h_s : ¬ (0 ≤ s ∧ s ≤ 5)) : CT (EC x) 2 yX11_reader [rf (EC x) 0, iv age, iv s, iv q] σ (rI (-1) σ) := by
  refine CT.ofJ (own := RX11) (cc := cX11_reader) (n := 5) (ret := (some .int)) (by decide) rfl cw_X11_reader (by decide) (Nat.le_of_ble_eq_true rfl) (ls := [some (rf (EC x) 0), some (iv age), some (iv s), some (iv q), none]) rfl ?_
  intro X G
  first | refine j_aload_n G dX11_reader_0 rfl ?_ | refine j_aload_nN G dX11_reader_0 rfl ?_
  refine j_iload_n G dX11_reader_1 rfl ?_
  refine j_callV G mv_X11_197 dX11_reader_2 (c_schoolAtN s h_1 h_s) (by first | assumption | rfl) (by decide) (by rfl) rfl rfl (by exact Nat.le_of_ble_eq_true rfl) (by decide) (kV ?_)
  refine j_ifnonnullN G dX11_reader_5 ?_
  refine j_iconst G dX11_reader_8 ?_
  refine j_ireturn G dX11_reader_9 ?_
  exact ⟨rfl, rfl⟩
theorem c_know (r c : Nat) (y : Int) (h_r : r < σ 0 8) (h_n : σ 0 8 ≤ 20) (h_c : c < 5) (h_1 : (-2147483648 ≤ y ∧ y < 2147483648)) : CT (EC x) 2 yX11_know [rf (EC x) 0, iv r, iv c, iv y] σ
    (if ¬ (0 ≤ y ∧ y ≤ 50) then rI (-2) σ else rI (σ (79 + 2 * r) c) (up σ (79 + 2 * r) c y)) := by
  obtain ⟨h_y1, h_y2, h_y3⟩ := ly_reader (x := x) (r := r) (by omega)
  refine CT.ofJ (own := RX11) (cc := cX11_know) (n := 6) (ret := (some .int)) (by decide) rfl cw_X11_know (by decide) (Nat.le_of_ble_eq_true rfl) (ls := [some (rf (EC x) 0), some (iv r), some (iv c), some (iv y), none, none]) rfl ?_
  intro X G
  first | refine j_aload_n G dX11_know_0 rfl ?_ | refine j_aload_nN G dX11_know_0 rfl ?_
  refine j_iload_n G dX11_know_1 rfl ?_
  refine j_callV G mv_X11_210 dX11_know_2 (c_readerAt r h_r h_n) (by first | assumption | rfl) (by decide) (by rfl) rfl rfl (by exact Nat.le_of_ble_eq_true rfl) (by decide) (kV ?_)
  first | refine j_astore4 G dX11_know_5 (by decide) rfl ?_ | refine j_astoreN4 G dX11_know_5 (by decide) rfl ?_
  first | refine j_aload G dX11_know_7 rfl ?_ | refine j_aloadN G dX11_know_7 rfl ?_
  refine j_ifnull G dX11_know_9 ?_
  first | refine j_aload_n G dX11_know_12 rfl ?_ | refine j_aload_nN G dX11_know_12 rfl ?_
  refine j_iload_n G dX11_know_13 rfl ?_
  refine j_callV G mv_X11_88 dX11_know_14 (c_codeAt c h_c) (by first | assumption | rfl) (by decide) (by rfl) rfl rfl (by exact Nat.le_of_ble_eq_true rfl) (by decide) (kV ?_)
  refine j_ifnonnull G dX11_know_17 (tgt := 22) (by decide) ?_
  refine j_iload_n G dX11_know_22 rfl ?_
  refine j_pc (p2 := 23) rfl ?_
  refine j_iconst G dX11_know_23 ?_
  refine j_bipush G dX11_know_24 (by decide) ?_
  refine j_callS G ms_X11_92 dX11_know_26 (x_within _ _ _ (by omega) (by omega) (by omega)) rfl rfl (by exact Nat.le_of_ble_eq_true rfl) (by decide) (kI ?_)
  refine j_if_neB G dX11_know_29 (tgt := 35) (by decide)  (fun c_29 => ?_) (fun c_29 => ?_)
  · first | refine j_aload G dX11_know_35 rfl ?_ | refine j_aloadN G dX11_know_35 rfl ?_
    refine j_getr G fl_X11_214 dX11_know_37 (by first | assumption | rfl) (by rfl) ?_
    refine j_iload_n G dX11_know_40 rfl ?_
    refine j_iaload G dX11_know_41 (by first | assumption | rfl) (by omega) (fun r_41 => ?_)
    try simp (disch := omega) only [up_same, up_cell, up_idx, cpm_at, fil_at] at r_41 ⊢
    refine j_istore5 G dX11_know_42 (by decide) rfl ?_
    first | refine j_aload G dX11_know_44 rfl ?_ | refine j_aloadN G dX11_know_44 rfl ?_
    refine j_getr G fl_X11_214 dX11_know_46 (by first | assumption | rfl) (by rfl) ?_
    refine j_iload_n G dX11_know_49 rfl ?_
    refine j_iload_n G dX11_know_50 rfl ?_
    refine j_iastore G dX11_know_51 (by first | assumption | rfl) (by omega) (by omega) ?_
    refine j_iload G dX11_know_52 rfl ?_
    refine j_pc (p2 := 54) rfl ?_
    refine j_ireturn G dX11_know_54 ?_
    repeat' split
    all_goals first | exact ⟨rfl, rfl⟩ | omega
  · refine j_bipush G dX11_know_32 (by decide) ?_
    refine j_ireturn G dX11_know_34 ?_
    repeat' split
    all_goals first | exact ⟨rfl, rfl⟩ | omega
theorem c_knowN (r c y : Int) (h_1 : (-2147483648 ≤ r ∧ r < 2147483648)) (h_r : ¬ (0 ≤ r ∧ r < σ 0 8)) (h_n : 0 ≤ σ 0 8 ∧ σ 0 8 ≤ 20) : CT (EC x) 2 yX11_know [rf (EC x) 0, iv r, iv c, iv y] σ (rI (-1) σ) := by
  refine CT.ofJ (own := RX11) (cc := cX11_know) (n := 6) (ret := (some .int)) (by decide) rfl cw_X11_know (by decide) (Nat.le_of_ble_eq_true rfl) (ls := [some (rf (EC x) 0), some (iv r), some (iv c), some (iv y), none, none]) rfl ?_
  intro X G
  first | refine j_aload_n G dX11_know_0 rfl ?_ | refine j_aload_nN G dX11_know_0 rfl ?_
  refine j_iload_n G dX11_know_1 rfl ?_
  refine j_callV G mv_X11_210 dX11_know_2 (c_readerAtN r h_1 h_r h_n) (by first | assumption | rfl) (by decide) (by rfl) rfl rfl (by exact Nat.le_of_ble_eq_true rfl) (by decide) (kV ?_)
  first | refine j_astore4 G dX11_know_5 (by decide) rfl ?_ | refine j_astoreN4 G dX11_know_5 (by decide) rfl ?_
  first | refine j_aload G dX11_know_7 rfl ?_ | refine j_aloadN G dX11_know_7 rfl ?_
  refine j_ifnullN G dX11_know_9 (tgt := 20) (by decide) ?_
  refine j_iconst G dX11_know_20 ?_
  refine j_ireturn G dX11_know_21 ?_
  exact ⟨rfl, rfl⟩
theorem c_knowN2 (r : Nat) (c y : Int) (h_r : r < σ 0 8) (h_n : σ 0 8 ≤ 20) (h_1 : (-2147483648 ≤ c ∧ c < 2147483648)) (h_c : ¬ (0 ≤ c ∧ c ≤ 4)) : CT (EC x) 2 yX11_know [rf (EC x) 0, iv r, iv c, iv y] σ (rI (-1) σ) := by
  refine CT.ofJ (own := RX11) (cc := cX11_know) (n := 6) (ret := (some .int)) (by decide) rfl cw_X11_know (by decide) (Nat.le_of_ble_eq_true rfl) (ls := [some (rf (EC x) 0), some (iv r), some (iv c), some (iv y), none, none]) rfl ?_
  intro X G
  first | refine j_aload_n G dX11_know_0 rfl ?_ | refine j_aload_nN G dX11_know_0 rfl ?_
  refine j_iload_n G dX11_know_1 rfl ?_
  refine j_callV G mv_X11_210 dX11_know_2 (c_readerAt r h_r h_n) (by first | assumption | rfl) (by decide) (by rfl) rfl rfl (by exact Nat.le_of_ble_eq_true rfl) (by decide) (kV ?_)
  first | refine j_astore4 G dX11_know_5 (by decide) rfl ?_ | refine j_astoreN4 G dX11_know_5 (by decide) rfl ?_
  first | refine j_aload G dX11_know_7 rfl ?_ | refine j_aloadN G dX11_know_7 rfl ?_
  refine j_ifnull G dX11_know_9 ?_
  first | refine j_aload_n G dX11_know_12 rfl ?_ | refine j_aload_nN G dX11_know_12 rfl ?_
  refine j_iload_n G dX11_know_13 rfl ?_
  refine j_callV G mv_X11_88 dX11_know_14 (c_codeAtN c h_1 h_c) (by first | assumption | rfl) (by decide) (by rfl) rfl rfl (by exact Nat.le_of_ble_eq_true rfl) (by decide) (kV ?_)
  refine j_ifnonnullN G dX11_know_17 ?_
  refine j_iconst G dX11_know_20 ?_
  refine j_pc (p2 := 21) rfl ?_
  refine j_ireturn G dX11_know_21 ?_
  exact ⟨rfl, rfl⟩
theorem c_move (r s : Nat) (h_r : r < σ 0 8) (h_n : σ 0 8 ≤ 20) (h_s : s < 6) : CT (EC x) 2 yX11_move [rf (EC x) 0, iv r, iv s] σ (rI (σ (78 + 2 * r) 1) (up σ (78 + 2 * r) 1 s)) := by
  obtain ⟨h_y1, h_y2, h_y3⟩ := ly_reader (x := x) (r := r) (by omega)
  refine CT.ofJ (own := RX11) (cc := cX11_move) (n := 5) (ret := (some .int)) (by decide) rfl cw_X11_move (by decide) (Nat.le_of_ble_eq_true rfl) (ls := [some (rf (EC x) 0), some (iv r), some (iv s), none, none]) rfl ?_
  intro X G
  first | refine j_aload_n G dX11_move_0 rfl ?_ | refine j_aload_nN G dX11_move_0 rfl ?_
  refine j_iload_n G dX11_move_1 rfl ?_
  refine j_callV G mv_X11_210 dX11_move_2 (c_readerAt r h_r h_n) (by first | assumption | rfl) (by decide) (by rfl) rfl rfl (by exact Nat.le_of_ble_eq_true rfl) (by decide) (kV ?_)
  first | refine j_astore3 G dX11_move_5 (by decide) rfl ?_ | refine j_astoreN3 G dX11_move_5 (by decide) rfl ?_
  first | refine j_aload_n G dX11_move_6 rfl ?_ | refine j_aload_nN G dX11_move_6 rfl ?_
  refine j_ifnull G dX11_move_7 ?_
  first | refine j_aload_n G dX11_move_10 rfl ?_ | refine j_aload_nN G dX11_move_10 rfl ?_
  refine j_iload_n G dX11_move_11 rfl ?_
  refine j_callV G mv_X11_197 dX11_move_12 (c_schoolAt s h_s) (by first | assumption | rfl) (by decide) (by rfl) rfl rfl (by exact Nat.le_of_ble_eq_true rfl) (by decide) (kV ?_)
  refine j_ifnonnull G dX11_move_15 (tgt := 20) (by decide) ?_
  first | refine j_aload_n G dX11_move_20 rfl ?_ | refine j_aload_nN G dX11_move_20 rfl ?_
  refine j_pc (p2 := 21) rfl ?_
  refine j_geti G fl_X11_204 dX11_move_21 1 rfl (by first | assumption | rfl) (by rfl) (fun r_21 => ?_)
  try simp (disch := omega) only [up_same, up_cell, up_idx, cpm_at, fil_at] at r_21 ⊢
  refine j_istore4 G dX11_move_24 (by decide) rfl ?_
  first | refine j_aload_n G dX11_move_26 rfl ?_ | refine j_aload_nN G dX11_move_26 rfl ?_
  refine j_iload_n G dX11_move_27 rfl ?_
  refine j_puti G fp_X11_204 dX11_move_28 1 rfl (by first | assumption | rfl) (by rfl) (by omega) ?_
  refine j_iload G dX11_move_31 rfl ?_
  refine j_ireturn G dX11_move_33 ?_
  exact ⟨rfl, rfl⟩
theorem c_moveN (r s : Int) (h_1 : (-2147483648 ≤ r ∧ r < 2147483648)) (h_r : ¬ (0 ≤ r ∧ r < σ 0 8)) (h_n : 0 ≤ σ 0 8 ∧ σ 0 8 ≤ 20) : CT (EC x) 2 yX11_move [rf (EC x) 0, iv r, iv s] σ (rI (-1) σ) := by
  refine CT.ofJ (own := RX11) (cc := cX11_move) (n := 5) (ret := (some .int)) (by decide) rfl cw_X11_move (by decide) (Nat.le_of_ble_eq_true rfl) (ls := [some (rf (EC x) 0), some (iv r), some (iv s), none, none]) rfl ?_
  intro X G
  first | refine j_aload_n G dX11_move_0 rfl ?_ | refine j_aload_nN G dX11_move_0 rfl ?_
  refine j_iload_n G dX11_move_1 rfl ?_
  refine j_callV G mv_X11_210 dX11_move_2 (c_readerAtN r h_1 h_r h_n) (by first | assumption | rfl) (by decide) (by rfl) rfl rfl (by exact Nat.le_of_ble_eq_true rfl) (by decide) (kV ?_)
  first | refine j_astore3 G dX11_move_5 (by decide) rfl ?_ | refine j_astoreN3 G dX11_move_5 (by decide) rfl ?_
  first | refine j_aload_n G dX11_move_6 rfl ?_ | refine j_aload_nN G dX11_move_6 rfl ?_
  refine j_ifnullN G dX11_move_7 (tgt := 18) (by decide) ?_
  refine j_iconst G dX11_move_18 ?_
  refine j_ireturn G dX11_move_19 ?_
  exact ⟨rfl, rfl⟩
theorem c_moveN2 (r : Nat) (s : Int) (h_r : r < σ 0 8) (h_n : σ 0 8 ≤ 20) (h_1 : (-2147483648 ≤ s ∧ s < 2147483648)) (h_s : ¬ (0 ≤ s ∧ s ≤ 5)) : CT (EC x) 2 yX11_move [rf (EC x) 0, iv r, iv s] σ (rI (-1) σ) := by
  refine CT.ofJ (own := RX11) (cc := cX11_move) (n := 5) (ret := (some .int)) (by decide) rfl cw_X11_move (by decide) (Nat.le_of_ble_eq_true rfl) (ls := [some (rf (EC x) 0), some (iv r), some (iv s), none, none]) rfl ?_
  intro X G
  first | refine j_aload_n G dX11_move_0 rfl ?_ | refine j_aload_nN G dX11_move_0 rfl ?_
  refine j_iload_n G dX11_move_1 rfl ?_
  refine j_callV G mv_X11_210 dX11_move_2 (c_readerAt r h_r h_n) (by first | assumption | rfl) (by decide) (by rfl) rfl rfl (by exact Nat.le_of_ble_eq_true rfl) (by decide) (kV ?_)
  first | refine j_astore3 G dX11_move_5 (by decide) rfl ?_ | refine j_astoreN3 G dX11_move_5 (by decide) rfl ?_
  first | refine j_aload_n G dX11_move_6 rfl ?_ | refine j_aload_nN G dX11_move_6 rfl ?_
  refine j_ifnull G dX11_move_7 ?_
  first | refine j_aload_n G dX11_move_10 rfl ?_ | refine j_aload_nN G dX11_move_10 rfl ?_
  refine j_iload_n G dX11_move_11 rfl ?_
  refine j_callV G mv_X11_197 dX11_move_12 (c_schoolAtN s h_1 h_s) (by first | assumption | rfl) (by decide) (by rfl) rfl rfl (by exact Nat.le_of_ble_eq_true rfl) (by decide) (kV ?_)
  refine j_ifnonnullN G dX11_move_15 ?_
  refine j_iconst G dX11_move_18 ?_
  refine j_pc (p2 := 19) rfl ?_
  refine j_ireturn G dX11_move_19 ?_
  exact ⟨rfl, rfl⟩
theorem c_part (l p : Int) (h_1 : (-2147483648 ≤ l ∧ l < 2147483648)) (h_2 : (-2147483648 ≤ p ∧ p < 2147483648)) : CT (EC x) 1 yX11_part [rf (EC x) 0, iv l, iv p] σ
    (if ¬ (0 ≤ l ∧ l ≤ 25) then rI (-1) σ else if ¬ (-1 ≤ p ∧ p ≤ 6) then rI (-2) σ else rI (if σ 195 l < 0 then -6 else σ 195 l) (up σ 195 l p)) := by
  refine CT.ofJ (own := RX11) (cc := cX11_part) (n := 4) (ret := (some .int)) (by decide) rfl cw_X11_part (by decide) (Nat.le_of_ble_eq_true rfl) (ls := [some (rf (EC x) 0), some (iv l), some (iv p), none]) rfl ?_
  intro X G
  refine j_iload_n G dX11_part_0 rfl ?_
  refine j_iconst G dX11_part_1 ?_
  refine j_bipush G dX11_part_2 (by decide) ?_
  refine j_callS G ms_X11_92 dX11_part_4 (x_within _ _ _ (by omega) (by omega) (by omega)) rfl rfl (by exact Nat.le_of_ble_eq_true rfl) (by decide) (kI ?_)
  refine j_if_neB G dX11_part_7 (tgt := 12) (by decide)  (fun c_7 => ?_) (fun c_7 => ?_)
  · refine j_iload_n G dX11_part_12 rfl ?_
    refine j_iconst G dX11_part_13 ?_
    refine j_bipush G dX11_part_14 (by decide) ?_
    refine j_callS G ms_X11_92 dX11_part_16 (x_within _ _ _ (by omega) (by omega) (by omega)) rfl rfl (by exact Nat.le_of_ble_eq_true rfl) (by decide) (kI ?_)
    refine j_if_neB G dX11_part_19 (tgt := 25) (by decide)  (fun c_19 => ?_) (fun c_19 => ?_)
    · first | refine j_aload_n G dX11_part_25 rfl ?_ | refine j_aload_nN G dX11_part_25 rfl ?_
      refine j_getr G fl_X11_84 dX11_part_26 (by first | assumption | rfl) (by rfl) ?_
      refine j_getr G fl_X11_296 dX11_part_29 (by first | assumption | rfl) (by rfl) ?_
      refine j_iload_n G dX11_part_32 rfl ?_
      refine j_iaload G dX11_part_33 (by first | assumption | rfl) (by omega) (fun r_33 => ?_)
      try simp (disch := omega) only [up_same, up_cell, up_idx, cpm_at, fil_at] at r_33 ⊢
      refine j_istore3 G dX11_part_34 (by decide) rfl ?_
      first | refine j_aload_n G dX11_part_35 rfl ?_ | refine j_aload_nN G dX11_part_35 rfl ?_
      refine j_getr G fl_X11_84 dX11_part_36 (by first | assumption | rfl) (by rfl) ?_
      refine j_getr G fl_X11_296 dX11_part_39 (by first | assumption | rfl) (by rfl) ?_
      refine j_iload_n G dX11_part_42 rfl ?_
      refine j_iload_n G dX11_part_43 rfl ?_
      refine j_pc (p2 := 44) rfl ?_
      refine j_iastore G dX11_part_44 (by first | assumption | rfl) (by omega) (by omega) ?_
      refine j_iload_n G dX11_part_45 rfl ?_
      refine j_if_ge G dX11_part_46 (tgt := 54) (by decide) (by omega) (fun c_46 => ?_) (fun c_46 => ?_)
      · refine j_iload_n G dX11_part_54 rfl ?_
        refine j_ireturn G dX11_part_55 ?_
        repeat' split
        all_goals first | exact ⟨rfl, rfl⟩ | omega
      · refine j_bipush G dX11_part_49 (by decide) ?_
        refine j_goto G dX11_part_51 (tgt := 55) (by decide) ?_
        refine j_ireturn G dX11_part_55 ?_
        repeat' split
        all_goals first | exact ⟨rfl, rfl⟩ | omega
    · refine j_bipush G dX11_part_22 (by decide) ?_
      refine j_ireturn G dX11_part_24 ?_
      repeat' split
      all_goals first | exact ⟨rfl, rfl⟩ | omega
  · refine j_iconst G dX11_part_10 ?_
    refine j_ireturn G dX11_part_11 ?_
    repeat' split
    all_goals first | exact ⟨rfl, rfl⟩ | omega
theorem c_shelf (s b c : Nat) (n : Int) (h_s : s < 6) (h_b : b < 8) (h_c : c < 5) (h_1 : (-2147483648 ≤ n ∧ n < 2147483648)) : CT (EC x) 2 yX11_shelf [rf (EC x) 0, iv s, iv b, iv c, iv n] σ
    (if ¬ (0 ≤ n ∧ n ≤ 100) then rI (-2) σ else rI (σ (121 + 12 * s + b) c) (up σ (121 + 12 * s + b) c n)) := by
  obtain ⟨h_y1, h_y2, h_y3, -⟩ := ly_school (x := x) h_s
  have h_y4 := ly_copies (s := s) h_s h_b
  have h_y5 := ly_shelf (x := x) h_s h_b
  refine CT.ofJ (own := RX11) (cc := cX11_shelf) (n := 7) (ret := (some .int)) (by decide) rfl cw_X11_shelf (by decide) (Nat.le_of_ble_eq_true rfl) (ls := [some (rf (EC x) 0), some (iv s), some (iv b), some (iv c), some (iv n), none, none]) rfl ?_
  intro X G
  first | refine j_aload_n G dX11_shelf_0 rfl ?_ | refine j_aload_nN G dX11_shelf_0 rfl ?_
  refine j_iload_n G dX11_shelf_1 rfl ?_
  refine j_callV G mv_X11_197 dX11_shelf_2 (c_schoolAt s h_s) (by first | assumption | rfl) (by decide) (by rfl) rfl rfl (by exact Nat.le_of_ble_eq_true rfl) (by decide) (kV ?_)
  first | refine j_astore5 G dX11_shelf_5 (by decide) rfl ?_ | refine j_astoreN5 G dX11_shelf_5 (by decide) rfl ?_
  first | refine j_aload G dX11_shelf_7 rfl ?_ | refine j_aloadN G dX11_shelf_7 rfl ?_
  refine j_ifnull G dX11_shelf_9 ?_
  refine j_iload_n G dX11_shelf_12 rfl ?_
  refine j_iconst G dX11_shelf_13 ?_
  refine j_bipush G dX11_shelf_14 (by decide) ?_
  refine j_callS G ms_X11_92 dX11_shelf_16 (x_within _ _ _ (by omega) (by omega) (by omega)) rfl rfl (by exact Nat.le_of_ble_eq_true rfl) (by decide) (kI ?_)
  refine j_if_eqB G dX11_shelf_19 (tgt := 30) (by decide)  (fun c_19 => ?_) (fun c_19 => ?_)
  · omega
  · first | refine j_aload_n G dX11_shelf_22 rfl ?_ | refine j_aload_nN G dX11_shelf_22 rfl ?_
    refine j_iload_n G dX11_shelf_23 rfl ?_
    refine j_callV G mv_X11_88 dX11_shelf_24 (c_codeAt c h_c) (by first | assumption | rfl) (by decide) (by rfl) rfl rfl (by exact Nat.le_of_ble_eq_true rfl) (by decide) (kV ?_)
    refine j_ifnonnull G dX11_shelf_27 (tgt := 32) (by decide) ?_
    refine j_iload G dX11_shelf_32 rfl ?_
    refine j_iconst G dX11_shelf_34 ?_
    refine j_bipush G dX11_shelf_35 (by decide) ?_
    refine j_callS G ms_X11_92 dX11_shelf_37 (x_within _ _ _ (by omega) (by omega) (by omega)) rfl rfl (by exact Nat.le_of_ble_eq_true rfl) (by decide) (kI ?_)
    refine j_if_neB G dX11_shelf_40 (tgt := 46) (by decide)  (fun c_40 => ?_) (fun c_40 => ?_)
    · first | refine j_aload G dX11_shelf_46 rfl ?_ | refine j_aloadN G dX11_shelf_46 rfl ?_
      refine j_getr G fl_X11_241 dX11_shelf_48 (by first | assumption | rfl) (by rfl) ?_
      refine j_iload_n G dX11_shelf_51 rfl ?_
      refine j_aaload G dX11_shelf_52 (by first | assumption | rfl) (by decide) (by omega) h_y4 ?_
      refine j_iload_n G dX11_shelf_53 rfl ?_
      refine j_iaload G dX11_shelf_54 (by first | assumption | rfl) (by omega) (fun r_54 => ?_)
      try simp (disch := omega) only [up_same, up_cell, up_idx, cpm_at, fil_at] at r_54 ⊢
      refine j_istore6 G dX11_shelf_55 (by decide) rfl ?_
      first | refine j_aload G dX11_shelf_57 rfl ?_ | refine j_aloadN G dX11_shelf_57 rfl ?_
      refine j_getr G fl_X11_241 dX11_shelf_59 (by first | assumption | rfl) (by rfl) ?_
      refine j_iload_n G dX11_shelf_62 rfl ?_
      refine j_aaload G dX11_shelf_63 (by first | assumption | rfl) (by decide) (by omega) h_y4 ?_
      refine j_pc (p2 := 64) rfl ?_
      refine j_iload_n G dX11_shelf_64 rfl ?_
      refine j_iload G dX11_shelf_65 rfl ?_
      refine j_iastore G dX11_shelf_67 (by first | assumption | rfl) (by omega) (by omega) ?_
      refine j_iload G dX11_shelf_68 rfl ?_
      refine j_ireturn G dX11_shelf_70 ?_
      repeat' split
      all_goals first | exact ⟨rfl, rfl⟩ | omega
    · refine j_bipush G dX11_shelf_43 (by decide) ?_
      refine j_ireturn G dX11_shelf_45 ?_
      repeat' split
      all_goals first | exact ⟨rfl, rfl⟩ | omega
theorem c_shelfN (s b c n : Int) (h_1 : (-2147483648 ≤ s ∧ s < 2147483648)) (h_s : ¬ (0 ≤ s ∧ s ≤ 5)) : CT (EC x) 2 yX11_shelf [rf (EC x) 0, iv s, iv b, iv c, iv n] σ (rI (-1) σ) := by
  refine CT.ofJ (own := RX11) (cc := cX11_shelf) (n := 7) (ret := (some .int)) (by decide) rfl cw_X11_shelf (by decide) (Nat.le_of_ble_eq_true rfl) (ls := [some (rf (EC x) 0), some (iv s), some (iv b), some (iv c), some (iv n), none, none]) rfl ?_
  intro X G
  first | refine j_aload_n G dX11_shelf_0 rfl ?_ | refine j_aload_nN G dX11_shelf_0 rfl ?_
  refine j_iload_n G dX11_shelf_1 rfl ?_
  refine j_callV G mv_X11_197 dX11_shelf_2 (c_schoolAtN s h_1 h_s) (by first | assumption | rfl) (by decide) (by rfl) rfl rfl (by exact Nat.le_of_ble_eq_true rfl) (by decide) (kV ?_)
  first | refine j_astore5 G dX11_shelf_5 (by decide) rfl ?_ | refine j_astoreN5 G dX11_shelf_5 (by decide) rfl ?_
  first | refine j_aload G dX11_shelf_7 rfl ?_ | refine j_aloadN G dX11_shelf_7 rfl ?_
  refine j_ifnullN G dX11_shelf_9 (tgt := 30) (by decide) ?_
  refine j_iconst G dX11_shelf_30 ?_
  refine j_ireturn G dX11_shelf_31 ?_
  exact ⟨rfl, rfl⟩
theorem c_shelfN2 (s : Nat) (b c n : Int) (h_s : s < 6) (h_1 : (-2147483648 ≤ b ∧ b < 2147483648)) (h_b : ¬ (0 ≤ b ∧ b ≤ 7)) : CT (EC x) 2 yX11_shelf [rf (EC x) 0, iv s, iv b, iv c, iv n] σ (rI (-1) σ) := by
  refine CT.ofJ (own := RX11) (cc := cX11_shelf) (n := 7) (ret := (some .int)) (by decide) rfl cw_X11_shelf (by decide) (Nat.le_of_ble_eq_true rfl) (ls := [some (rf (EC x) 0), some (iv s), some (iv b), some (iv c), some (iv n), none, none]) rfl ?_
  intro X G
  first | refine j_aload_n G dX11_shelf_0 rfl ?_ | refine j_aload_nN G dX11_shelf_0 rfl ?_
  refine j_iload_n G dX11_shelf_1 rfl ?_
  refine j_callV G mv_X11_197 dX11_shelf_2 (c_schoolAt s h_s) (by first | assumption | rfl) (by decide) (by rfl) rfl rfl (by exact Nat.le_of_ble_eq_true rfl) (by decide) (kV ?_)
  first | refine j_astore5 G dX11_shelf_5 (by decide) rfl ?_ | refine j_astoreN5 G dX11_shelf_5 (by decide) rfl ?_
  first | refine j_aload G dX11_shelf_7 rfl ?_ | refine j_aloadN G dX11_shelf_7 rfl ?_
  refine j_ifnull G dX11_shelf_9 ?_
  refine j_iload_n G dX11_shelf_12 rfl ?_
  refine j_iconst G dX11_shelf_13 ?_
  refine j_bipush G dX11_shelf_14 (by decide) ?_
  refine j_callS G ms_X11_92 dX11_shelf_16 (x_within _ _ _ (by omega) (by omega) (by omega)) rfl rfl (by exact Nat.le_of_ble_eq_true rfl) (by decide) (kI ?_)
  refine j_if_eqB G dX11_shelf_19 (tgt := 30) (by decide)  (fun c_19 => ?_) (fun c_19 => ?_)
  · refine j_iconst G dX11_shelf_30 ?_
    refine j_ireturn G dX11_shelf_31 ?_
    exact ⟨rfl, rfl⟩
  · omega
theorem c_shelfN3 (s : Nat) (b c n : Int) (h_s : s < 6) (h_1 : (-2147483648 ≤ b ∧ b < 2147483648)) (h_b : 0 ≤ b ∧ b ≤ 7) (h_2 : (-2147483648 ≤ c ∧ c < 2147483648)) (h_c : ¬ (0 ≤ c ∧ c ≤ 4)) : CT (EC x) 2 yX11_shelf [rf (EC x) 0, iv s, iv b, iv c, iv n] σ (rI (-1) σ) := by
  refine CT.ofJ (own := RX11) (cc := cX11_shelf) (n := 7) (ret := (some .int)) (by decide) rfl cw_X11_shelf (by decide) (Nat.le_of_ble_eq_true rfl) (ls := [some (rf (EC x) 0), some (iv s), some (iv b), some (iv c), some (iv n), none, none]) rfl ?_
  intro X G
  first | refine j_aload_n G dX11_shelf_0 rfl ?_ | refine j_aload_nN G dX11_shelf_0 rfl ?_
  refine j_iload_n G dX11_shelf_1 rfl ?_
  refine j_callV G mv_X11_197 dX11_shelf_2 (c_schoolAt s h_s) (by first | assumption | rfl) (by decide) (by rfl) rfl rfl (by exact Nat.le_of_ble_eq_true rfl) (by decide) (kV ?_)
  first | refine j_astore5 G dX11_shelf_5 (by decide) rfl ?_ | refine j_astoreN5 G dX11_shelf_5 (by decide) rfl ?_
  first | refine j_aload G dX11_shelf_7 rfl ?_ | refine j_aloadN G dX11_shelf_7 rfl ?_
  refine j_ifnull G dX11_shelf_9 ?_
  refine j_iload_n G dX11_shelf_12 rfl ?_
  refine j_iconst G dX11_shelf_13 ?_
  refine j_bipush G dX11_shelf_14 (by decide) ?_
  refine j_callS G ms_X11_92 dX11_shelf_16 (x_within _ _ _ (by omega) (by omega) (by omega)) rfl rfl (by exact Nat.le_of_ble_eq_true rfl) (by decide) (kI ?_)
  refine j_if_eqB G dX11_shelf_19 (tgt := 30) (by decide)  (fun c_19 => ?_) (fun c_19 => ?_)
  · omega
  · first | refine j_aload_n G dX11_shelf_22 rfl ?_ | refine j_aload_nN G dX11_shelf_22 rfl ?_
    refine j_iload_n G dX11_shelf_23 rfl ?_
    refine j_callV G mv_X11_88 dX11_shelf_24 (c_codeAtN c h_2 h_c) (by first | assumption | rfl) (by decide) (by rfl) rfl rfl (by exact Nat.le_of_ble_eq_true rfl) (by decide) (kV ?_)
    refine j_ifnonnullN G dX11_shelf_27 ?_
    refine j_iconst G dX11_shelf_30 ?_
    refine j_ireturn G dX11_shelf_31 ?_
    exact ⟨rfl, rfl⟩
end CO2
