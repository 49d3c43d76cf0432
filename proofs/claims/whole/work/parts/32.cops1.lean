section CLay
variable {x : CX}
theorem ly_codes {c : Nat} (h : c < 5) : ([some 2, some 9, some 16, some 23, some 30] : List (Option Nat))[((c : Nat) : Int).toNat]? = some (some (2 + 7 * c)) := by
  match c, h with
  | 0, _ => rfl
  | 1, _ => rfl
  | 2, _ => rfl
  | 3, _ => rfl
  | 4, _ => rfl
theorem ly_code {c : Nat} (h : c < 5) : (eY (EC x))[2 + 7 * c]? = some (1, 4, [some (3 + 7 * c), some (4 + 7 * c), some (7 + 7 * c), some (8 + 7 * c)]) ∧ (eY (EC x))[3 + 7 * c]? = some (20, 26, []) ∧ (eY (EC x))[4 + 7 * c]? = some (8, 4, [none, some (5 + 7 * c), some (6 + 7 * c), none]) ∧ (eY (EC x))[5 + 7 * c]? = some (20, 48, []) ∧ (eY (EC x))[6 + 7 * c]? = some (20, 12, []) ∧ (eY (EC x))[7 + 7 * c]? = some (20, 12, []) ∧ (eY (EC x))[8 + 7 * c]? = some (20, 12, []) := by
  match c, h with
  | 0, _ => exact ⟨rfl, rfl, rfl, rfl, rfl, rfl, rfl⟩
  | 1, _ => exact ⟨rfl, rfl, rfl, rfl, rfl, rfl, rfl⟩
  | 2, _ => exact ⟨rfl, rfl, rfl, rfl, rfl, rfl, rfl⟩
  | 3, _ => exact ⟨rfl, rfl, rfl, rfl, rfl, rfl, rfl⟩
  | 4, _ => exact ⟨rfl, rfl, rfl, rfl, rfl, rfl, rfl⟩
theorem ly_books {b : Nat} (h : b < 8) : ([some 61, some 62, some 63, some 64, some 65, some 66, some 67, some 68] : List (Option Nat))[((b : Nat) : Int).toNat]? = some (some (61 + b)) ∧ (eY (EC x))[61 + b]? = some (20, 30, []) := by
  match b, h with
  | 0, _ => exact ⟨rfl, rfl⟩
  | 1, _ => exact ⟨rfl, rfl⟩
  | 2, _ => exact ⟨rfl, rfl⟩
  | 3, _ => exact ⟨rfl, rfl⟩
  | 4, _ => exact ⟨rfl, rfl⟩
  | 5, _ => exact ⟨rfl, rfl⟩
  | 6, _ => exact ⟨rfl, rfl⟩
  | 7, _ => exact ⟨rfl, rfl⟩
end CLay
section CO1
variable {x : CX} {σ : MemT}
theorem c_codeAt (c : Nat) (h_c : c < 5) : CT (EC x) 1 yX11_codeAt [rf (EC x) 0, iv c] σ (rV (rf (EC x) (2 + 7 * c)) σ) := by
  refine CT.ofJ (own := RX11) (cc := cX11_codeAt) (n := 2) (ret := (some (.object "DotWar$Code"))) (by decide) rfl cw_X11_codeAt (by decide) (Nat.le_of_ble_eq_true rfl) (ls := [some (rf (EC x) 0), some (iv c)]) rfl ?_
  intro X G
  refine j_iload_n G dX11_codeAt_0 rfl ?_
  refine j_iconst G dX11_codeAt_1 ?_
  refine j_iconst G dX11_codeAt_2 ?_
  refine j_callS G ms_X11_92 dX11_codeAt_3 (x_within _ _ _ (by omega) (by omega) (by omega)) rfl rfl (by exact Nat.le_of_ble_eq_true rfl) (by decide) (kI ?_)
  refine j_if_eqB G dX11_codeAt_6 (tgt := 18) (by decide)  (fun c_6 => ?_) (fun c_6 => ?_)
  · omega
  · first | refine j_aload_n G dX11_codeAt_9 rfl ?_ | refine j_aload_nN G dX11_codeAt_9 rfl ?_
    refine j_getr G fl_X11_11 dX11_codeAt_10 (by first | assumption | rfl) (by rfl) ?_
    refine j_iload_n G dX11_codeAt_13 rfl ?_
    refine j_aaload G dX11_codeAt_14 (by first | assumption | rfl) (by decide) (by omega) (ly_codes h_c) ?_
    refine j_goto G dX11_codeAt_15 (tgt := 19) (by decide) ?_
    first | refine j_areturn G dX11_codeAt_19 ?_ | refine j_areturnN G dX11_codeAt_19 ?_
    exact ⟨rfl, rfl⟩
theorem c_codeAtN (code : Int) (h_r : -2147483648 ≤ code ∧ code < 2147483648) (h_c : ¬ (0 ≤ code ∧ code ≤ 4)) : CT (EC x) 1 yX11_codeAt [rf (EC x) 0, iv code] σ (rV .null σ) := by
  refine CT.ofJ (own := RX11) (cc := cX11_codeAt) (n := 2) (ret := (some (.object "DotWar$Code"))) (by decide) rfl cw_X11_codeAt (by decide) (Nat.le_of_ble_eq_true rfl) (ls := [some (rf (EC x) 0), some (iv code)]) rfl ?_
  intro X G
  refine j_iload_n G dX11_codeAt_0 rfl ?_
  refine j_iconst G dX11_codeAt_1 ?_
  refine j_iconst G dX11_codeAt_2 ?_
  refine j_callS G ms_X11_92 dX11_codeAt_3 (x_within _ _ _ (by omega) (by omega) (by omega)) rfl rfl (by exact Nat.le_of_ble_eq_true rfl) (by decide) (kI ?_)
  refine j_if_eqB G dX11_codeAt_6 (tgt := 18) (by decide)  (fun c_6 => ?_) (fun c_6 => ?_)
  · refine j_null G dX11_codeAt_18 ?_
    first | refine j_areturn G dX11_codeAt_19 ?_ | refine j_areturnN G dX11_codeAt_19 ?_
    exact ⟨rfl, rfl⟩
  · omega
theorem c_letter (c : Nat) (h_c : c < 5) (l cell : Int) (h_2 : -2147483648 ≤ l ∧ l < 2147483648) (h_3 : -2147483648 ≤ cell ∧ cell < 2147483648) : CT (EC x) 2 yX11_letter [rf (EC x) 0, iv c, iv l, iv cell] σ
    (if ¬ (0 ≤ l ∧ l ≤ 25) then rI (-1) σ else if ¬ (0 ≤ cell ∧ cell ≤ 63) then rI (-2) σ else rI (σ (3 + 7 * c) l) (up σ (3 + 7 * c) l cell)) := by
  obtain ⟨h_y1, h_y2, -⟩ := ly_code (x := x) h_c
  refine CT.ofJ (own := RX11) (cc := cX11_letter) (n := 6) (ret := (some .int)) (by decide) rfl cw_X11_letter (by decide) (Nat.le_of_ble_eq_true rfl) (ls := [some (rf (EC x) 0), some (iv c), some (iv l), some (iv cell), none, none]) rfl ?_
  intro X G
  first | refine j_aload_n G dX11_letter_0 rfl ?_ | refine j_aload_nN G dX11_letter_0 rfl ?_
  refine j_iload_n G dX11_letter_1 rfl ?_
  refine j_callV G mv_X11_88 dX11_letter_2 (c_codeAt c h_c) (by first | assumption | rfl) (by decide) (by rfl) rfl rfl (by exact Nat.le_of_ble_eq_true rfl) (by decide) (kV ?_)
  first | refine j_astore4 G dX11_letter_5 (by decide) rfl ?_ | refine j_astoreN4 G dX11_letter_5 (by decide) rfl ?_
  first | refine j_aload G dX11_letter_7 rfl ?_ | refine j_aloadN G dX11_letter_7 rfl ?_
  refine j_ifnull G dX11_letter_9 ?_
  refine j_iload_n G dX11_letter_12 rfl ?_
  refine j_iconst G dX11_letter_13 ?_
  refine j_bipush G dX11_letter_14 (by decide) ?_
  refine j_callS G ms_X11_92 dX11_letter_16 (x_within _ _ _ (by omega) (by omega) (by omega)) rfl rfl (by exact Nat.le_of_ble_eq_true rfl) (by decide) (kI ?_)
  refine j_if_neB G dX11_letter_19 (tgt := 24) (by decide)  (fun c_19 => ?_) (fun c_19 => ?_)
  · refine j_iload_n G dX11_letter_24 rfl ?_
    refine j_iconst G dX11_letter_25 ?_
    refine j_bipush G dX11_letter_26 (by decide) ?_
    refine j_callS G ms_X11_92 dX11_letter_28 (x_within _ _ _ (by omega) (by omega) (by omega)) rfl rfl (by exact Nat.le_of_ble_eq_true rfl) (by decide) (kI ?_)
    refine j_if_neB G dX11_letter_31 (tgt := 37) (by decide)  (fun c_31 => ?_) (fun c_31 => ?_)
    · first | refine j_aload G dX11_letter_37 rfl ?_ | refine j_aloadN G dX11_letter_37 rfl ?_
      refine j_getr G fl_X11_96 dX11_letter_39 (by first | assumption | rfl) (by rfl) ?_
      refine j_iload_n G dX11_letter_42 rfl ?_
      refine j_iaload G dX11_letter_43 (by first | assumption | rfl) (by omega) (fun r_43 => ?_)
      try simp (disch := omega) only [up_same, up_cell, up_idx, cpm_at, fil_at] at r_43 ⊢
      refine j_istore5 G dX11_letter_44 (by decide) rfl ?_
      first | refine j_aload G dX11_letter_46 rfl ?_ | refine j_aloadN G dX11_letter_46 rfl ?_
      refine j_getr G fl_X11_96 dX11_letter_48 (by first | assumption | rfl) (by rfl) ?_
      refine j_iload_n G dX11_letter_51 rfl ?_
      refine j_iload_n G dX11_letter_52 rfl ?_
      refine j_iastore G dX11_letter_53 (by first | assumption | rfl) (by omega) (by omega) ?_
      refine j_iload G dX11_letter_54 rfl ?_
      refine j_pc (p2 := 56) rfl ?_
      refine j_ireturn G dX11_letter_56 ?_
      repeat' split
      all_goals first | exact ⟨rfl, rfl⟩ | omega
    · refine j_bipush G dX11_letter_34 (by decide) ?_
      refine j_ireturn G dX11_letter_36 ?_
      repeat' split
      all_goals first | exact ⟨rfl, rfl⟩ | omega
  · refine j_iconst G dX11_letter_22 ?_
    refine j_ireturn G dX11_letter_23 ?_
    repeat' split
    all_goals first | exact ⟨rfl, rfl⟩ | omega
theorem c_letterN (code l cell : Int) (h_1 : -2147483648 ≤ code ∧ code < 2147483648) (h_c : ¬ (0 ≤ code ∧ code ≤ 4)) : CT (EC x) 2 yX11_letter [rf (EC x) 0, iv code, iv l, iv cell] σ (rI (-1) σ) := by
  refine CT.ofJ (own := RX11) (cc := cX11_letter) (n := 6) (ret := (some .int)) (by decide) rfl cw_X11_letter (by decide) (Nat.le_of_ble_eq_true rfl) (ls := [some (rf (EC x) 0), some (iv code), some (iv l), some (iv cell), none, none]) rfl ?_
  intro X G
  first | refine j_aload_n G dX11_letter_0 rfl ?_ | refine j_aload_nN G dX11_letter_0 rfl ?_
  refine j_iload_n G dX11_letter_1 rfl ?_
  refine j_callV G mv_X11_88 dX11_letter_2 (c_codeAtN code h_1 h_c) (by first | assumption | rfl) (by decide) (by rfl) rfl rfl (by exact Nat.le_of_ble_eq_true rfl) (by decide) (kV ?_)
  first | refine j_astore4 G dX11_letter_5 (by decide) rfl ?_ | refine j_astoreN4 G dX11_letter_5 (by decide) rfl ?_
  first | refine j_aload G dX11_letter_7 rfl ?_ | refine j_aloadN G dX11_letter_7 rfl ?_
  refine j_ifnullN G dX11_letter_9 (tgt := 22) (by decide) ?_
  refine j_iconst G dX11_letter_22 ?_
  refine j_ireturn G dX11_letter_23 ?_
  exact ⟨rfl, rfl⟩
theorem c_say (l : Int) (h_1 : -2147483648 ≤ l ∧ l < 2147483648) (h_p : 0 ≤ σ 37 1 ∧ σ 37 1 ≤ 10) : CT (EC x) 1 yX11_say [rf (EC x) 0, iv l] σ
    (if ¬ (0 ≤ l ∧ l ≤ 25) then rI (-1) σ else if 10 ≤ σ 37 1 then rI (-4) σ else rI (σ 37 1 + 1) (up (up σ 38 (σ 37 1) l) 37 1 (σ 37 1 + 1))) := by
  refine CT.ofJ (own := RX11) (cc := cX11_say) (n := 2) (ret := (some .int)) (by decide) rfl cw_X11_say (by decide) (Nat.le_of_ble_eq_true rfl) (ls := [some (rf (EC x) 0), some (iv l)]) rfl ?_
  intro X G
  refine j_iload_n G dX11_say_0 rfl ?_
  refine j_iconst G dX11_say_1 ?_
  refine j_bipush G dX11_say_2 (by decide) ?_
  refine j_callS G ms_X11_92 dX11_say_4 (x_within _ _ _ (by omega) (by omega) (by omega)) rfl rfl (by exact Nat.le_of_ble_eq_true rfl) (by decide) (kI ?_)
  refine j_if_neB G dX11_say_7 (tgt := 12) (by decide)  (fun c_7 => ?_) (fun c_7 => ?_)
  · first | refine j_aload_n G dX11_say_12 rfl ?_ | refine j_aload_nN G dX11_say_12 rfl ?_
    refine j_getr G fl_X11_21 dX11_say_13 (by first | assumption | rfl) (by rfl) ?_
    refine j_callV G mv_X11_100 dX11_say_16 (p_isFull 37 38 10 rfl rfl (by decide)) (by first | assumption | rfl) (by decide) (by rfl) rfl rfl (by exact Nat.le_of_ble_eq_true rfl) (by decide) (kI ?_)
    refine j_if_eqB G dX11_say_19 (tgt := 27) (by decide)  (fun c_19 => ?_) (fun c_19 => ?_)
    · first | refine j_aload_n G dX11_say_27 rfl ?_ | refine j_aload_nN G dX11_say_27 rfl ?_
      refine j_getr G fl_X11_21 dX11_say_28 (by first | assumption | rfl) (by rfl) ?_
      refine j_iload_n G dX11_say_31 rfl ?_
      refine j_callV G mv_X11_104 dX11_say_32 (p_add 37 38 10 l h_1 rfl rfl (by decide) (by omega)) (by first | assumption | rfl) (by decide) (by rfl) rfl rfl (by exact Nat.le_of_ble_eq_true rfl) (by decide) (kI ?_)
      refine j_ireturn G dX11_say_35 ?_
      repeat' split
      all_goals first | exact ⟨rfl, rfl⟩ | omega
    · refine j_bipush G dX11_say_22 (by decide) ?_
      refine j_goto G dX11_say_24 (tgt := 35) (by decide) ?_
      refine j_ireturn G dX11_say_35 ?_
      repeat' split
      all_goals first | exact ⟨rfl, rfl⟩ | omega
  · refine j_iconst G dX11_say_10 ?_
    refine j_ireturn G dX11_say_11 ?_
    repeat' split
    all_goals first | exact ⟨rfl, rfl⟩ | omega
theorem c_dot (l : Int) (h_1 : -2147483648 ≤ l ∧ l < 2147483648) (h_p : 0 ≤ σ 39 1 ∧ σ 39 1 ≤ 12) : CT (EC x) 1 yX11_dot [rf (EC x) 0, iv l] σ
    (if ¬ (1 ≤ l ∧ l ≤ 63) then rI (-2) σ else if 12 ≤ σ 39 1 then rI (-4) σ else rI (σ 39 1 + 1) (up (up σ 40 (σ 39 1) l) 39 1 (σ 39 1 + 1))) := by
  refine CT.ofJ (own := RX11) (cc := cX11_dot) (n := 2) (ret := (some .int)) (by decide) rfl cw_X11_dot (by decide) (Nat.le_of_ble_eq_true rfl) (ls := [some (rf (EC x) 0), some (iv l)]) rfl ?_
  intro X G
  refine j_iload_n G dX11_dot_0 rfl ?_
  refine j_iconst G dX11_dot_1 ?_
  refine j_bipush G dX11_dot_2 (by decide) ?_
  refine j_callS G ms_X11_92 dX11_dot_4 (x_within _ _ _ (by omega) (by omega) (by omega)) rfl rfl (by exact Nat.le_of_ble_eq_true rfl) (by decide) (kI ?_)
  refine j_if_neB G dX11_dot_7 (tgt := 13) (by decide)  (fun c_7 => ?_) (fun c_7 => ?_)
  · first | refine j_aload_n G dX11_dot_13 rfl ?_ | refine j_aload_nN G dX11_dot_13 rfl ?_
    refine j_getr G fl_X11_25 dX11_dot_14 (by first | assumption | rfl) (by rfl) ?_
    refine j_callV G mv_X11_100 dX11_dot_17 (p_isFull 39 40 12 rfl rfl (by decide)) (by first | assumption | rfl) (by decide) (by rfl) rfl rfl (by exact Nat.le_of_ble_eq_true rfl) (by decide) (kI ?_)
    refine j_if_eqB G dX11_dot_20 (tgt := 28) (by decide)  (fun c_20 => ?_) (fun c_20 => ?_)
    · first | refine j_aload_n G dX11_dot_28 rfl ?_ | refine j_aload_nN G dX11_dot_28 rfl ?_
      refine j_getr G fl_X11_25 dX11_dot_29 (by first | assumption | rfl) (by rfl) ?_
      refine j_iload_n G dX11_dot_32 rfl ?_
      refine j_callV G mv_X11_104 dX11_dot_33 (p_add 39 40 12 l h_1 rfl rfl (by decide) (by omega)) (by first | assumption | rfl) (by decide) (by rfl) rfl rfl (by exact Nat.le_of_ble_eq_true rfl) (by decide) (kI ?_)
      refine j_ireturn G dX11_dot_36 ?_
      repeat' split
      all_goals first | exact ⟨rfl, rfl⟩ | omega
    · refine j_bipush G dX11_dot_23 (by decide) ?_
      refine j_goto G dX11_dot_25 (tgt := 36) (by decide) ?_
      refine j_ireturn G dX11_dot_36 ?_
      repeat' split
      all_goals first | exact ⟨rfl, rfl⟩ | omega
  · refine j_bipush G dX11_dot_10 (by decide) ?_
    refine j_ireturn G dX11_dot_12 ?_
    repeat' split
    all_goals first | exact ⟨rfl, rfl⟩ | omega
theorem c_sign (l : Int) (h_1 : -2147483648 ≤ l ∧ l < 2147483648) (h_p : 0 ≤ σ 41 1 ∧ σ 41 1 ≤ 40) : CT (EC x) 1 yX11_sign [rf (EC x) 0, iv l] σ
    (if ¬ (33 ≤ l ∧ l ≤ 126) then rI (-2) σ else if 40 ≤ σ 41 1 then rI (-4) σ else rI (σ 41 1 + 1) (up (up σ 42 (σ 41 1) l) 41 1 (σ 41 1 + 1))) := by
  refine CT.ofJ (own := RX11) (cc := cX11_sign) (n := 2) (ret := (some .int)) (by decide) rfl cw_X11_sign (by decide) (Nat.le_of_ble_eq_true rfl) (ls := [some (rf (EC x) 0), some (iv l)]) rfl ?_
  intro X G
  refine j_iload_n G dX11_sign_0 rfl ?_
  refine j_bipush G dX11_sign_1 (by decide) ?_
  refine j_bipush G dX11_sign_3 (by decide) ?_
  refine j_callS G ms_X11_92 dX11_sign_5 (x_within _ _ _ (by omega) (by omega) (by omega)) rfl rfl (by exact Nat.le_of_ble_eq_true rfl) (by decide) (kI ?_)
  refine j_if_neB G dX11_sign_8 (tgt := 14) (by decide)  (fun c_8 => ?_) (fun c_8 => ?_)
  · first | refine j_aload_n G dX11_sign_14 rfl ?_ | refine j_aload_nN G dX11_sign_14 rfl ?_
    refine j_getr G fl_X11_28 dX11_sign_15 (by first | assumption | rfl) (by rfl) ?_
    refine j_callV G mv_X11_100 dX11_sign_18 (p_isFull 41 42 40 rfl rfl (by decide)) (by first | assumption | rfl) (by decide) (by rfl) rfl rfl (by exact Nat.le_of_ble_eq_true rfl) (by decide) (kI ?_)
    refine j_if_eqB G dX11_sign_21 (tgt := 29) (by decide)  (fun c_21 => ?_) (fun c_21 => ?_)
    · first | refine j_aload_n G dX11_sign_29 rfl ?_ | refine j_aload_nN G dX11_sign_29 rfl ?_
      refine j_getr G fl_X11_28 dX11_sign_30 (by first | assumption | rfl) (by rfl) ?_
      refine j_iload_n G dX11_sign_33 rfl ?_
      refine j_callV G mv_X11_104 dX11_sign_34 (p_add 41 42 40 l h_1 rfl rfl (by decide) (by omega)) (by first | assumption | rfl) (by decide) (by rfl) rfl rfl (by exact Nat.le_of_ble_eq_true rfl) (by decide) (kI ?_)
      refine j_ireturn G dX11_sign_37 ?_
      repeat' split
      all_goals first | exact ⟨rfl, rfl⟩ | omega
    · refine j_bipush G dX11_sign_24 (by decide) ?_
      refine j_goto G dX11_sign_26 (tgt := 37) (by decide) ?_
      refine j_ireturn G dX11_sign_37 ?_
      repeat' split
      all_goals first | exact ⟨rfl, rfl⟩ | omega
  · refine j_bipush G dX11_sign_11 (by decide) ?_
    refine j_ireturn G dX11_sign_13 ?_
    repeat' split
    all_goals first | exact ⟨rfl, rfl⟩ | omega
theorem c_wipe (z : Int) (h_1 : -2147483648 ≤ z ∧ z < 2147483648) : CT (EC x) 1 yX11_wipe [rf (EC x) 0, iv z] σ
    (if z = 0 then rI (σ 37 1) (up σ 37 1 0) else if z = 1 then rI (σ 39 1) (up σ 39 1 0) else if z = 2 then rI (σ 41 1) (up σ 41 1 0) else rI (-2) σ) := by
  refine CT.ofJ (own := RX11) (cc := cX11_wipe) (n := 2) (ret := (some .int)) (by decide) rfl cw_X11_wipe (by decide) (Nat.le_of_ble_eq_true rfl) (ls := [some (rf (EC x) 0), some (iv z)]) rfl ?_
  intro X G
  refine j_iload_n G dX11_wipe_0 rfl ?_
  by_cases s_1_0 : z = 0
  · refine j_tableIn G dX11_wipe_1 (tgt := 28) (by omega) (by omega) (by rw [s_1_0]; rfl) (by decide) ?_
    first | refine j_aload_n G dX11_wipe_28 rfl ?_ | refine j_aload_nN G dX11_wipe_28 rfl ?_
    refine j_getr G fl_X11_21 dX11_wipe_29 (by first | assumption | rfl) (by rfl) ?_
    refine j_callV G mv_X11_108 dX11_wipe_32 (p_empty 37 38 10 rfl) (by first | assumption | rfl) (by decide) (by rfl) rfl rfl (by exact Nat.le_of_ble_eq_true rfl) (by decide) (kI ?_)
    refine j_ireturn G dX11_wipe_35 ?_
    repeat' split
    all_goals first | exact ⟨rfl, rfl⟩ | omega
  by_cases s_1_1 : z = 1
  · refine j_tableIn G dX11_wipe_1 (tgt := 36) (by omega) (by omega) (by rw [s_1_1]; rfl) (by decide) ?_
    first | refine j_aload_n G dX11_wipe_36 rfl ?_ | refine j_aload_nN G dX11_wipe_36 rfl ?_
    refine j_getr G fl_X11_25 dX11_wipe_37 (by first | assumption | rfl) (by rfl) ?_
    refine j_callV G mv_X11_108 dX11_wipe_40 (p_empty 39 40 12 rfl) (by first | assumption | rfl) (by decide) (by rfl) rfl rfl (by exact Nat.le_of_ble_eq_true rfl) (by decide) (kI ?_)
    refine j_ireturn G dX11_wipe_43 ?_
    repeat' split
    all_goals first | exact ⟨rfl, rfl⟩ | omega
  by_cases s_1_2 : z = 2
  · refine j_tableIn G dX11_wipe_1 (tgt := 44) (by omega) (by omega) (by rw [s_1_2]; rfl) (by decide) ?_
    first | refine j_aload_n G dX11_wipe_44 rfl ?_ | refine j_aload_nN G dX11_wipe_44 rfl ?_
    refine j_getr G fl_X11_28 dX11_wipe_45 (by first | assumption | rfl) (by rfl) ?_
    refine j_callV G mv_X11_108 dX11_wipe_48 (p_empty 41 42 40 rfl) (by first | assumption | rfl) (by decide) (by rfl) rfl rfl (by exact Nat.le_of_ble_eq_true rfl) (by decide) (kI ?_)
    refine j_ireturn G dX11_wipe_51 ?_
    repeat' split
    all_goals first | exact ⟨rfl, rfl⟩ | omega
  refine j_tableOut G dX11_wipe_1 (tgt := 52) (by omega) (by omega) (by decide) ?_
  refine j_bipush G dX11_wipe_52 (by decide) ?_
  refine j_ireturn G dX11_wipe_54 ?_
  repeat' split
  all_goals first | exact ⟨rfl, rfl⟩ | omega
end CO1
