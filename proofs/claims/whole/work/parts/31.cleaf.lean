section CL1
variable {E : EE} {μ : MemT}
theorem x_fill (k nn : Nat) (z : Int) (hz : -2147483648 ≤ z ∧ z < 2147483648) (h_k : (eY E)[k]? = some (20, nn, [])) (h_n : nn < 5000) : CT E 0 yJ7_fill_53178 [rf E k, iv z] μ (rN (fil μ k nn z)) := by
  refine CT.ofJ (own := RJ7) (cc := cJ7_fill_53178) (n := 4) (ret := none) (by decide) rfl cw_J7_fill_53178 (by decide) (Nat.le_of_ble_eq_true rfl) (ls := [some (rf E k), some (iv z), none, none]) rfl ?_
  intro X G
  refine j_iconst G dJ7_fill_53178_0 ?_
  refine j_istore2 G dJ7_fill_53178_1 (by decide) rfl ?_
  first | refine j_aload_n G dJ7_fill_53178_2 rfl ?_ | refine j_aload_nN G dJ7_fill_53178_2 rfl ?_
  refine j_alen G dJ7_fill_53178_3 (by first | assumption | rfl) ?_
  refine j_istore3 G dJ7_fill_53178_4 (by decide) rfl ?_
  refine j_pc (p2 := 5) rfl ?_
  refine j_mem (fil_0 (k := k) (z := z)).symm ?_
  refine down (Pr := fun i => JJ E X 0 (rN (fil μ k nn z)) 4 5 [some (rf E k), some (iv z), some (iv i), some (iv nn)] [] (fil μ k i z)) nn ?_ 0 (Nat.zero_le _)
  intro i h_i ih
  refine j_iload_n G dJ7_fill_53178_5 rfl ?_
  refine j_iload_n G dJ7_fill_53178_6 rfl ?_
  refine j_icmp_ge G dJ7_fill_53178_7 (tgt := 20) (by decide) (by omega) (by omega) (fun c_7 => ?_) (fun c_7 => ?_)
  · refine j_return G dJ7_fill_53178_20 ?_
    exact ⟨rfl, by rw [show (i : Int) = nn by omega]⟩
  · first | refine j_aload_n G dJ7_fill_53178_10 rfl ?_ | refine j_aload_nN G dJ7_fill_53178_10 rfl ?_
    refine j_iload_n G dJ7_fill_53178_11 rfl ?_
    refine j_iload_n G dJ7_fill_53178_12 rfl ?_
    refine j_iastore G dJ7_fill_53178_13 (by first | assumption | rfl) (by omega) (by omega) ?_
    refine j_iinc2 G dJ7_fill_53178_14 (by decide) rfl rfl ?_
    refine j_goto G dJ7_fill_53178_17 (tgt := 5) (by decide) ?_
    refine j_pc (p2 := 5) rfl ?_
    exact j_mem (fil_s (by omega)) (ih (by omega))
theorem p_isFull (k q nn : Nat) (h_p : (eY E)[k]? = some (5, 2, [some q, none])) (h_q : (eY E)[q]? = some (20, nn, [])) (h_n : nn < 5000) : CT E 0 yX5_isFull [rf E k] μ (rI (b2 ((nn : Int) ≤ μ k 1)) μ) := by
  refine CT.ofJ (own := RX5) (cc := cX5_isFull) (n := 1) (ret := (some .boolean)) (by decide) rfl cw_X5_isFull (by decide) (Nat.le_of_ble_eq_true rfl) (ls := [some (rf E k)]) rfl ?_
  intro X G
  first | refine j_aload_n G dX5_isFull_0 rfl ?_ | refine j_aload_nN G dX5_isFull_0 rfl ?_
  refine j_geti G fl_X5_21 dX5_isFull_1 1 rfl (by first | assumption | rfl) (by rfl) (fun r_1 => ?_)
  try simp (disch := omega) only [up_same, up_cell, up_idx, cpm_at, fil_at] at r_1 ⊢
  first | refine j_aload_n G dX5_isFull_4 rfl ?_ | refine j_aload_nN G dX5_isFull_4 rfl ?_
  refine j_getr G fl_X5_15 dX5_isFull_5 (by first | assumption | rfl) (by rfl) ?_
  refine j_alen G dX5_isFull_8 (by first | assumption | rfl) ?_
  refine j_icmp_lt G dX5_isFull_9 (tgt := 16) (by decide) (by omega) (by omega) (fun c_9 => ?_) (fun c_9 => ?_)
  · refine j_iconst G dX5_isFull_16 ?_
    refine j_zreturn G dX5_isFull_17 (by first | exact b2_01 _ | omega) ?_
    exact ⟨by unfold b2; split <;> first | rfl | omega, rfl⟩
  · refine j_iconst G dX5_isFull_12 ?_
    refine j_goto G dX5_isFull_13 (tgt := 17) (by decide) ?_
    refine j_zreturn G dX5_isFull_17 (by first | exact b2_01 _ | omega) ?_
    exact ⟨by unfold b2; split <;> first | rfl | omega, rfl⟩
theorem p_ne {k q a b nn : Nat} {rs rs2 : List (Option Nat)} (h_p : (eY E)[k]? = some (5, a, rs)) (h_q : (eY E)[q]? = some (20, nn, rs2)) : k ≠ q := by
  intro h_e
  subst h_e
  rw [h_p] at h_q
  cases h_q
theorem p_add (k q nn : Nat) (z : Int) (hz : -2147483648 ≤ z ∧ z < 2147483648) (h_p : (eY E)[k]? = some (5, 2, [some q, none])) (h_q : (eY E)[q]? = some (20, nn, [])) (h_n : nn < 5000) (h_s : 0 ≤ μ k 1 ∧ μ k 1 < nn) : CT E 0 yX5_add [rf E k, iv z] μ (rI (μ k 1 + 1) (up (up μ q (μ k 1) z) k 1 (μ k 1 + 1))) := by
  have h_ne := p_ne (b := 0) h_p h_q
  refine CT.ofJ (own := RX5) (cc := cX5_add) (n := 2) (ret := (some .int)) (by decide) rfl cw_X5_add (by decide) (Nat.le_of_ble_eq_true rfl) (ls := [some (rf E k), some (iv z)]) rfl ?_
  intro X G
  first | refine j_aload_n G dX5_add_0 rfl ?_ | refine j_aload_nN G dX5_add_0 rfl ?_
  refine j_geti G fl_X5_21 dX5_add_1 1 rfl (by first | assumption | rfl) (by rfl) (fun r_1 => ?_)
  try simp (disch := omega) only [up_same, up_cell, up_idx, cpm_at, fil_at] at r_1 ⊢
  first | refine j_aload_n G dX5_add_4 rfl ?_ | refine j_aload_nN G dX5_add_4 rfl ?_
  refine j_getr G fl_X5_15 dX5_add_5 (by first | assumption | rfl) (by rfl) ?_
  refine j_alen G dX5_add_8 (by first | assumption | rfl) ?_
  refine j_icmp_ge G dX5_add_9 (tgt := 32) (by decide) (by omega) (by omega) (fun c_9 => ?_) (fun c_9 => ?_)
  · omega
  · first | refine j_aload_n G dX5_add_12 rfl ?_ | refine j_aload_nN G dX5_add_12 rfl ?_
    refine j_getr G fl_X5_15 dX5_add_13 (by first | assumption | rfl) (by rfl) ?_
    first | refine j_aload_n G dX5_add_16 rfl ?_ | refine j_aload_nN G dX5_add_16 rfl ?_
    refine j_geti G fl_X5_21 dX5_add_17 1 rfl (by first | assumption | rfl) (by rfl) (fun r_17 => ?_)
    try simp (disch := omega) only [up_same, up_cell, up_idx, cpm_at, fil_at] at r_17 ⊢
    refine j_iload_n G dX5_add_20 rfl ?_
    refine j_iastore G dX5_add_21 (by first | assumption | rfl) (by omega) (by omega) ?_
    first | refine j_aload_n G dX5_add_22 rfl ?_ | refine j_aload_nN G dX5_add_22 rfl ?_
    refine j_dup G dX5_add_23 rfl ?_
    refine j_geti G fl_X5_21 dX5_add_24 1 rfl (by first | assumption | rfl) (by rfl) (fun r_24 => ?_)
    try simp (disch := omega) only [up_same, up_cell, up_idx, cpm_at, fil_at] at r_24 ⊢
    refine j_iconst G dX5_add_27 ?_
    refine j_iadd G dX5_add_28 ?_
    refine j_pc (p2 := 29) rfl ?_
    refine j_puti G fp_X5_21 dX5_add_29 1 rfl (by first | assumption | rfl) (by rfl) (by omega) ?_
    first | refine j_aload_n G dX5_add_32 rfl ?_ | refine j_aload_nN G dX5_add_32 rfl ?_
    refine j_geti G fl_X5_21 dX5_add_33 1 rfl (by first | assumption | rfl) (by rfl) (fun r_33 => ?_)
    try simp (disch := omega) only [up_same, up_cell, up_idx, cpm_at, fil_at] at r_33 ⊢
    refine j_ireturn G dX5_add_36 ?_
    exact ⟨rfl, rfl⟩
theorem p_empty (k q nn : Nat) (h_p : (eY E)[k]? = some (5, 2, [some q, none])) : CT E 0 yX5_empty [rf E k] μ (rI (μ k 1) (up μ k 1 0)) := by
  refine CT.ofJ (own := RX5) (cc := cX5_empty) (n := 2) (ret := (some .int)) (by decide) rfl cw_X5_empty (by decide) (Nat.le_of_ble_eq_true rfl) (ls := [some (rf E k), none]) rfl ?_
  intro X G
  first | refine j_aload_n G dX5_empty_0 rfl ?_ | refine j_aload_nN G dX5_empty_0 rfl ?_
  refine j_geti G fl_X5_21 dX5_empty_1 1 rfl (by first | assumption | rfl) (by rfl) (fun r_1 => ?_)
  try simp (disch := omega) only [up_same, up_cell, up_idx, cpm_at, fil_at] at r_1 ⊢
  refine j_istore1 G dX5_empty_4 (by decide) rfl ?_
  first | refine j_aload_n G dX5_empty_5 rfl ?_ | refine j_aload_nN G dX5_empty_5 rfl ?_
  refine j_iconst G dX5_empty_6 ?_
  refine j_puti G fp_X5_21 dX5_empty_7 1 rfl (by first | assumption | rfl) (by rfl) (by omega) ?_
  refine j_iload_n G dX5_empty_10 rfl ?_
  refine j_ireturn G dX5_empty_11 ?_
  exact ⟨rfl, rfl⟩
theorem p_at (k q nn : Nat) (i : Int) (hi : -2147483648 ≤ i ∧ i < 2147483648) (h_p : (eY E)[k]? = some (5, 2, [some q, none])) (h_q : (eY E)[q]? = some (20, nn, [])) (h_n : nn < 5000) (h_s : μ k 1 ≤ nn) : CT E 0 yX5_at [rf E k, iv i] μ (rI (if 0 ≤ i ∧ i < μ k 1 then μ q i else -6) μ) := by
  refine CT.ofJ (own := RX5) (cc := cX5_at) (n := 2) (ret := (some .int)) (by decide) rfl cw_X5_at (by decide) (Nat.le_of_ble_eq_true rfl) (ls := [some (rf E k), some (iv i)]) rfl ?_
  intro X G
  refine j_iload_n G dX5_at_0 rfl ?_
  refine j_if_lt G dX5_at_1 (tgt := 21) (by decide) (by omega) (fun c_1 => ?_) (fun c_1 => ?_)
  · refine j_bipush G dX5_at_21 (by decide) ?_
    refine j_ireturn G dX5_at_23 ?_
    exact ⟨by split <;> first | rfl | omega, rfl⟩
  · refine j_iload_n G dX5_at_4 rfl ?_
    first | refine j_aload_n G dX5_at_5 rfl ?_ | refine j_aload_nN G dX5_at_5 rfl ?_
    refine j_geti G fl_X5_21 dX5_at_6 1 rfl (by first | assumption | rfl) (by rfl) (fun r_6 => ?_)
    try simp (disch := omega) only [up_same, up_cell, up_idx, cpm_at, fil_at] at r_6 ⊢
    refine j_icmp_ge G dX5_at_9 (tgt := 21) (by decide) (by omega) (by omega) (fun c_9 => ?_) (fun c_9 => ?_)
    · refine j_bipush G dX5_at_21 (by decide) ?_
      refine j_ireturn G dX5_at_23 ?_
      exact ⟨by split <;> first | rfl | omega, rfl⟩
    · first | refine j_aload_n G dX5_at_12 rfl ?_ | refine j_aload_nN G dX5_at_12 rfl ?_
      refine j_getr G fl_X5_15 dX5_at_13 (by first | assumption | rfl) (by rfl) ?_
      refine j_iload_n G dX5_at_16 rfl ?_
      refine j_iaload G dX5_at_17 (by first | assumption | rfl) (by omega) (fun r_17 => ?_)
      try simp (disch := omega) only [up_same, up_cell, up_idx, cpm_at, fil_at] at r_17 ⊢
      refine j_goto G dX5_at_18 (tgt := 23) (by decide) ?_
      refine j_ireturn G dX5_at_23 ?_
      exact ⟨by split <;> first | rfl | omega, rfl⟩
theorem x_within (a b e : Int) (ha : -2147483648 ≤ a ∧ a < 2147483648) (hb : -2147483648 ≤ b ∧ b < 2147483648) (he : -2147483648 ≤ e ∧ e < 2147483648) : CT E 0 yX11_within [iv a, iv b, iv e] μ (rI (b2 (b ≤ a ∧ a ≤ e)) μ) := by
  refine CT.ofJ (own := RX11) (cc := cX11_within) (n := 3) (ret := (some .boolean)) (by decide) rfl cw_X11_within (by decide) (Nat.le_of_ble_eq_true rfl) (ls := [some (iv a), some (iv b), some (iv e)]) rfl ?_
  intro X G
  refine j_iload_n G dX11_within_0 rfl ?_
  refine j_iload_n G dX11_within_1 rfl ?_
  refine j_icmp_lt G dX11_within_2 (tgt := 14) (by decide) (by omega) (by omega) (fun c_2 => ?_) (fun c_2 => ?_)
  · refine j_iconst G dX11_within_14 ?_
    refine j_zreturn G dX11_within_15 (by first | exact b2_01 _ | omega) ?_
    exact ⟨by unfold b2; split <;> first | rfl | omega, rfl⟩
  · refine j_iload_n G dX11_within_5 rfl ?_
    refine j_iload_n G dX11_within_6 rfl ?_
    refine j_icmp_gt G dX11_within_7 (tgt := 14) (by decide) (by omega) (by omega) (fun c_7 => ?_) (fun c_7 => ?_)
    · refine j_iconst G dX11_within_14 ?_
      refine j_zreturn G dX11_within_15 (by first | exact b2_01 _ | omega) ?_
      exact ⟨by unfold b2; split <;> first | rfl | omega, rfl⟩
    · refine j_iconst G dX11_within_10 ?_
      refine j_goto G dX11_within_11 (tgt := 15) (by decide) ?_
      refine j_zreturn G dX11_within_15 (by first | exact b2_01 _ | omega) ?_
      exact ⟨by unfold b2; split <;> first | rfl | omega, rfl⟩
theorem t_isFull (k a b nn : Nat) (h_t : (eY E)[k]? = some (8, 4, [none, some a, some b, none])) (h_b : (eY E)[b]? = some (20, nn, [])) (h_n : nn < 5000) : CT E 0 yX9_isFull [rf E k] μ (rI (b2 ((nn : Int) ≤ μ k 3)) μ) := by
  refine CT.ofJ (own := RX9) (cc := cX9_isFull) (n := 1) (ret := (some .boolean)) (by decide) rfl cw_X9_isFull (by decide) (Nat.le_of_ble_eq_true rfl) (ls := [some (rf E k)]) rfl ?_
  intro X G
  first | refine j_aload_n G dX9_isFull_0 rfl ?_ | refine j_aload_nN G dX9_isFull_0 rfl ?_
  refine j_geti G fl_X9_28 dX9_isFull_1 3 rfl (by first | assumption | rfl) (by rfl) (fun r_1 => ?_)
  try simp (disch := omega) only [up_same, up_cell, up_idx, cpm_at, fil_at] at r_1 ⊢
  first | refine j_aload_n G dX9_isFull_4 rfl ?_ | refine j_aload_nN G dX9_isFull_4 rfl ?_
  refine j_getr G fl_X9_25 dX9_isFull_5 (by first | assumption | rfl) (by rfl) ?_
  refine j_alen G dX9_isFull_8 (by first | assumption | rfl) ?_
  refine j_icmp_lt G dX9_isFull_9 (tgt := 16) (by decide) (by omega) (by omega) (fun c_9 => ?_) (fun c_9 => ?_)
  · refine j_iconst G dX9_isFull_16 ?_
    refine j_zreturn G dX9_isFull_17 (by first | exact b2_01 _ | omega) ?_
    exact ⟨by unfold b2; split <;> first | rfl | omega, rfl⟩
  · refine j_iconst G dX9_isFull_12 ?_
    refine j_goto G dX9_isFull_13 (tgt := 17) (by decide) ?_
    refine j_zreturn G dX9_isFull_17 (by first | exact b2_01 _ | omega) ?_
    exact ⟨by unfold b2; split <;> first | rfl | omega, rfl⟩
end CL1
section CL2
variable {E : EE} {μ : MemT}
theorem t_take (k a b na nb kp qp np : Nat) (h_t : (eY E)[k]? = some (8, 4, [none, some a, some b, none])) (h_a : (eY E)[a]? = some (20, na, [])) (h_b : (eY E)[b]? = some (20, nb, [])) (h_p : (eY E)[kp]? = some (5, 2, [some qp, none])) (h_q : (eY E)[qp]? = some (20, np, [])) (h_1 : np < 5000 ∧ na < 5000 ∧ nb < 5000) (h_2 : 0 ≤ μ k 3 ∧ μ k 3 < nb) (h_3 : 0 ≤ μ kp 1 ∧ μ kp 1 ≤ μ k 0) (h_5 : μ kp 1 ≤ np) (h_w : 0 ≤ μ k 0 ∧ μ k 0 ≤ 100) (h_4 : μ k 3 * μ k 0 + μ k 0 ≤ na ∧ 0 ≤ μ k 3 * μ k 0) (h_n : k ≠ a ∧ k ≠ b ∧ kp ≠ a ∧ kp ≠ b ∧ k ≠ kp ∧ a ≠ b) : CT E 1 yX9_take [rf E k, rf E kp] μ (rI (μ k 3) (up (up (up (cpm μ qp 0 a (μ k 3 * μ k 0) (μ kp 1)) b (μ k 3) (μ kp 1)) kp 1 0) k 3 (μ k 3 + 1))) := by
  refine CT.ofJ (own := RX9) (cc := cX9_take) (n := 2) (ret := (some .int)) (by decide) rfl cw_X9_take (by decide) (Nat.le_of_ble_eq_true rfl) (ls := [some (rf E k), some (rf E kp)]) rfl ?_
  intro X G
  first | refine j_aload_n G dX9_take_0 rfl ?_ | refine j_aload_nN G dX9_take_0 rfl ?_
  refine j_callV G mv_X9_31 dX9_take_1 (t_isFull k a b nb h_t h_b (by omega)) (by first | assumption | rfl) (by decide) (by rfl) rfl rfl (by exact Nat.le_of_ble_eq_true rfl) (by decide) (kI ?_)
  refine j_if_neB G dX9_take_4 (tgt := 18) (by decide)  (fun c_4 => ?_) (fun c_4 => ?_)
  · omega
  · first | refine j_aload_n G dX9_take_7 rfl ?_ | refine j_aload_nN G dX9_take_7 rfl ?_
    refine j_geti G fl_X9_35 dX9_take_8 1 rfl (by first | assumption | rfl) (by rfl) (fun r_8 => ?_)
    try simp (disch := omega) only [up_same, up_cell, up_idx, cpm_at, fil_at] at r_8 ⊢
    first | refine j_aload_n G dX9_take_11 rfl ?_ | refine j_aload_nN G dX9_take_11 rfl ?_
    refine j_geti G fl_X9_15 dX9_take_12 0 rfl (by first | assumption | rfl) (by rfl) (fun r_12 => ?_)
    try simp (disch := omega) only [up_same, up_cell, up_idx, cpm_at, fil_at] at r_12 ⊢
    refine j_icmp_le G dX9_take_15 (tgt := 21) (by decide) (by omega) (by omega) (fun c_15 => ?_) (fun c_15 => ?_)
    · first | refine j_aload_n G dX9_take_21 rfl ?_ | refine j_aload_nN G dX9_take_21 rfl ?_
      refine j_getr G fl_X9_40 dX9_take_22 (by first | assumption | rfl) (by rfl) ?_
      refine j_iconst G dX9_take_25 ?_
      first | refine j_aload_n G dX9_take_26 rfl ?_ | refine j_aload_nN G dX9_take_26 rfl ?_
      refine j_getr G fl_X9_21 dX9_take_27 (by first | assumption | rfl) (by rfl) ?_
      first | refine j_aload_n G dX9_take_30 rfl ?_ | refine j_aload_nN G dX9_take_30 rfl ?_
      refine j_geti G fl_X9_28 dX9_take_31 3 rfl (by first | assumption | rfl) (by rfl) (fun r_31 => ?_)
      try simp (disch := omega) only [up_same, up_cell, up_idx, cpm_at, fil_at] at r_31 ⊢
      first | refine j_aload_n G dX9_take_34 rfl ?_ | refine j_aload_nN G dX9_take_34 rfl ?_
      refine j_geti G fl_X9_15 dX9_take_35 0 rfl (by first | assumption | rfl) (by rfl) (fun r_35 => ?_)
      try simp (disch := omega) only [up_same, up_cell, up_idx, cpm_at, fil_at] at r_35 ⊢
      refine j_imul G dX9_take_38 ?_
      first | refine j_aload_n G dX9_take_39 rfl ?_ | refine j_aload_nN G dX9_take_39 rfl ?_
      refine j_pc (p2 := 40) rfl ?_
      refine j_geti G fl_X9_35 dX9_take_40 1 rfl (by first | assumption | rfl) (by rfl) (fun r_40 => ?_)
      try simp (disch := omega) only [up_same, up_cell, up_idx, cpm_at, fil_at] at r_40 ⊢
      refine j_copy G cwc_X9_43 dX9_take_43 h_q h_a (by omega) (by decide) (by exact Nat.le_of_ble_eq_true rfl) ?_
      first | refine j_aload_n G dX9_take_46 rfl ?_ | refine j_aload_nN G dX9_take_46 rfl ?_
      refine j_getr G fl_X9_25 dX9_take_47 (by first | assumption | rfl) (by rfl) ?_
      first | refine j_aload_n G dX9_take_50 rfl ?_ | refine j_aload_nN G dX9_take_50 rfl ?_
      refine j_geti G fl_X9_28 dX9_take_51 3 rfl (by first | assumption | rfl) (by rfl) (fun r_51 => ?_)
      try simp (disch := omega) only [up_same, up_cell, up_idx, cpm_at, fil_at] at r_51 ⊢
      first | refine j_aload_n G dX9_take_54 rfl ?_ | refine j_aload_nN G dX9_take_54 rfl ?_
      refine j_geti G fl_X9_35 dX9_take_55 1 rfl (by first | assumption | rfl) (by rfl) (fun r_55 => ?_)
      try simp (disch := omega) only [up_same, up_cell, up_idx, cpm_at, fil_at] at r_55 ⊢
      refine j_iastore G dX9_take_58 (by first | assumption | rfl) (by omega) (by omega) ?_
      first | refine j_aload_n G dX9_take_59 rfl ?_ | refine j_aload_nN G dX9_take_59 rfl ?_
      refine j_callV G mv_X9_49 dX9_take_60 (p_empty kp qp np h_p) (by first | assumption | rfl) (by decide) (by rfl) rfl rfl (by exact Nat.le_of_ble_eq_true rfl) (by decide) (kI ?_)
      refine j_pop G dX9_take_63 rfl ?_
      refine j_pc (p2 := 64) rfl ?_
      first | refine j_aload_n G dX9_take_64 rfl ?_ | refine j_aload_nN G dX9_take_64 rfl ?_
      refine j_dup G dX9_take_65 rfl ?_
      refine j_geti G fl_X9_28 dX9_take_66 3 rfl (by first | assumption | rfl) (by rfl) (fun r_66 => ?_)
      try simp (disch := omega) only [up_same, up_cell, up_idx, cpm_at, fil_at] at r_66 ⊢
      refine j_iconst G dX9_take_69 ?_
      refine j_iadd G dX9_take_70 ?_
      refine j_puti G fp_X9_28 dX9_take_71 3 rfl (by first | assumption | rfl) (by rfl) (by omega) ?_
      first | refine j_aload_n G dX9_take_74 rfl ?_ | refine j_aload_nN G dX9_take_74 rfl ?_
      refine j_geti G fl_X9_28 dX9_take_75 3 rfl (by first | assumption | rfl) (by rfl) (fun r_75 => ?_)
      try simp (disch := omega) only [up_same, up_cell, up_idx, cpm_at, fil_at] at r_75 ⊢
      refine j_iconst G dX9_take_78 ?_
      refine j_isub G dX9_take_79 ?_
      refine j_ireturn G dX9_take_80 ?_
      refine ⟨congrArg (fun z => some (iv z)) (by omega), ?_⟩
      simp (disch := omega) only [up_same, up_cell, up_idx, cpm_at]
    · omega
end CL2
