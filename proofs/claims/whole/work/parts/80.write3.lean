def wtS (σ : MemT) (c n : Nat) (i : Int) : Int := if wA σ c (ptx σ) n 0 = 268435456 then -5 else if i = -1 then wA σ c (ptx σ) n 0 / 1024 else if i = -2 then wA σ c (ptx σ) n 0 % 1024 else rowAt (wrL σ c (ptx σ) n 10 0) i
section WO
variable {E : EE} {x x1 x2 : CX} {μ σ : MemT}
theorem c_pointsOfLine (z : Int) (h_z : σ 44 0 = z) (h_r : 0 ≤ z ∧ z ≤ 268435456) : CT (EC x) 1 yX10_pointsOfLine [rf (EC x) 43] σ (rI (z % 1024) σ) := by
  refine CT.ofJ (own := RX10) (cc := cX10_pointsOfLine) (n := 1) (ret := (some .int)) (by decide) rfl cw_X10_pointsOfLine (by decide) (Nat.le_of_ble_eq_true rfl) (ls := [some (rf (EC x) 43)]) rfl ?_
  intro X G
  first | refine j_aload_n G dX10_pointsOfLine_0 rfl ?_ | refine j_aload_nN G dX10_pointsOfLine_0 rfl ?_
  refine j_getr G fl_X10_9 dX10_pointsOfLine_1 (by first | assumption | rfl) (by rfl) ?_
  refine j_iconst G dX10_pointsOfLine_4 ?_
  refine j_iaload G dX10_pointsOfLine_5 (by first | assumption | rfl) (by omega) (fun r_5 => ?_)
  try simp (disch := omega) only [up_same, up_cell, up_idx, cpm_at, fil_at] at r_5 ⊢
  rw [h_z] at *
  refine j_callS G ms_X10_89 dX10_pointsOfLine_6 (w_pointsOf z h_r) rfl rfl (by exact Nat.le_of_ble_eq_true rfl) (by decide) (kI ?_)
  refine j_ireturn G dX10_pointsOfLine_9 ?_
  exact ⟨rfl, rfl⟩
theorem c_write (c n : Nat) (i : Int) (h_i : (-2147483648 ≤ i ∧ i < 2147483648)) (h_c : c < 5) (h_w : WfCode σ c) (h_p : WfPad σ) (h_n : σ 37 1 = n) : CT (EC x) 4 yX11_write [rf (EC x) 0, iv c, iv i] σ (rP (fun z τ => z = wtS σ c n i ∧ KC σ τ)) := by
  obtain ⟨h_p1, h_p2, -⟩ := id h_p
  have h_t : ∀ i : Nat, i < n → 0 ≤ ptx σ i ∧ ptx σ i ≤ 25 := fun i h_i => h_p2 i (by omega) (by omega)
  have h_wv := wA_v h_w h_t
  have h_v0 := wv_rg (h_wv 0 (by omega)) (by omega)
  have h_ln := wrL_len h_w h_t 10 0 (by omega) (by omega)
  have h_lo := c_layOut (x := x) c n h_c h_w h_p h_n
  unfold wtS
  generalize wrL σ c (ptx σ) n 10 0 = L at h_ln h_lo ⊢
  generalize wA σ c (ptx σ) n 0 = w at h_v0 h_ln h_lo ⊢
  refine CT.ofJ (own := RX11) (cc := cX11_write) (n := 4) (ret := (some .int)) (by decide) rfl cw_X11_write (by decide) (Nat.le_of_ble_eq_true rfl) (ls := [some (rf (EC x) 0), some (iv c), some (iv i), none]) rfl ?_
  intro X G
  first | refine j_aload_n G dX11_write_0 rfl ?_ | refine j_aload_nN G dX11_write_0 rfl ?_
  refine j_iload_n G dX11_write_1 rfl ?_
  refine j_callV G mv_X11_88 dX11_write_2 (c_codeAt c h_c) (by first | assumption | rfl) (by decide) (by rfl) rfl rfl (by exact Nat.le_of_ble_eq_true rfl) (by decide) (kV ?_)
  first | refine j_astore3 G dX11_write_5 (by decide) rfl ?_ | refine j_astoreN3 G dX11_write_5 (by decide) rfl ?_
  first | refine j_aload_n G dX11_write_6 rfl ?_ | refine j_aload_nN G dX11_write_6 rfl ?_
  refine j_ifnonnull G dX11_write_7 (tgt := 12) (by decide) ?_
  first | refine j_aload_n G dX11_write_12 rfl ?_ | refine j_aload_nN G dX11_write_12 rfl ?_
  refine j_getr G fl_X11_34 dX11_write_13 (by first | assumption | rfl) (by rfl) ?_
  first | refine j_aload_n G dX11_write_16 rfl ?_ | refine j_aload_nN G dX11_write_16 rfl ?_
  first | refine j_aload_n G dX11_write_17 rfl ?_ | refine j_aload_nN G dX11_write_17 rfl ?_
  refine j_getr G fl_X11_21 dX11_write_18 (by first | assumption | rfl) (by rfl) ?_
  refine j_pc (p2 := 21) rfl ?_
  refine j_callV G mv_X11_126 dX11_write_21 (h_lo) (by first | assumption | rfl) (by decide) (by rfl) rfl rfl (by exact Nat.le_of_ble_eq_true rfl) (by decide) (kP (fun y τ h_y => ?_))
  obtain ⟨rfl, h_o, h_s⟩ := h_y
  have h_kc : KC σ τ := h_o.wk (fun j h => by unfold scC; omega)
  refine j_if_neB G dX11_write_24 (tgt := 30) (by decide)  (fun c_24 => ?_) (fun c_24 => ?_)
  · rw [if_neg c_24]
    obtain ⟨h_R, h_44⟩ := h_s c_24
    obtain ⟨b, h_b, h_wb⟩ := h_ln (by omega)
    clear h_ln
    have h_R1 := h_R.1
    refine j_iload_n G dX11_write_30 rfl ?_
    refine j_iconst G dX11_write_31 ?_
    refine j_icmp_ne G dX11_write_32 (tgt := 46) (by decide) (by omega) (by omega) (fun c_32 => ?_) (fun c_32 => ?_)
    · refine j_iload_n G dX11_write_46 rfl ?_
      refine j_bipush G dX11_write_47 (by decide) ?_
      refine j_icmp_ne G dX11_write_49 (tgt := 62) (by decide) (by omega) (by omega) (fun c_49 => ?_) (fun c_49 => ?_)
      · first | refine j_aload_n G dX11_write_62 rfl ?_ | refine j_aload_nN G dX11_write_62 rfl ?_
        refine j_getr G fl_X11_34 dX11_write_63 (by first | assumption | rfl) (by rfl) ?_
        refine j_getr G fl_X11_130 dX11_write_66 (by first | assumption | rfl) (by rfl) ?_
        refine j_iload_n G dX11_write_69 rfl ?_
        refine j_callV G mv_X11_136 dX11_write_70 (p_at 46 47 20 i h_i rfl rfl (by decide) (by omega)) (by first | assumption | rfl) (by decide) (by rfl) rfl rfl (by exact Nat.le_of_ble_eq_true rfl) (by decide) (kI ?_)
        refine j_ireturn G dX11_write_73 ?_
        first
        | exact ⟨_, rfl, by rw [if_pos (by omega)]; omega, h_kc⟩
        | exact ⟨_, rfl, by rw [if_neg (by omega), if_pos (by omega)], h_kc⟩
        | exact ⟨_, rfl, by rw [h_R.at, if_neg (by omega), if_neg (by omega)], h_kc⟩
      · first | refine j_aload_n G dX11_write_52 rfl ?_ | refine j_aload_nN G dX11_write_52 rfl ?_
        refine j_getr G fl_X11_34 dX11_write_53 (by first | assumption | rfl) (by rfl) ?_
        refine j_callV G mv_X11_133 dX11_write_56 (c_pointsOfLine w h_44 (by omega)) (by first | assumption | rfl) (by decide) (by rfl) rfl rfl (by exact Nat.le_of_ble_eq_true rfl) (by decide) (kI ?_)
        refine j_goto G dX11_write_59 (tgt := 73) (by decide) ?_
        refine j_ireturn G dX11_write_73 ?_
        first
        | exact ⟨_, rfl, by rw [if_pos (by omega)]; omega, h_kc⟩
        | exact ⟨_, rfl, by rw [if_neg (by omega), if_pos (by omega)], h_kc⟩
        | exact ⟨_, rfl, by rw [h_R.at, if_neg (by omega), if_neg (by omega)], h_kc⟩
    · first | refine j_aload_n G dX11_write_35 rfl ?_ | refine j_aload_nN G dX11_write_35 rfl ?_
      refine j_getr G fl_X11_34 dX11_write_36 (by first | assumption | rfl) (by rfl) ?_
      refine j_getr G fl_X11_130 dX11_write_39 (by first | assumption | rfl) (by rfl) ?_
      refine j_geti G fl_X11_119 dX11_write_42 1 rfl (by first | assumption | rfl) (by rfl) (fun r_42 => ?_)
      try simp (disch := omega) only [up_same, up_cell, up_idx, cpm_at, fil_at] at r_42 ⊢
      refine j_ireturn G dX11_write_45 ?_
      first
      | exact ⟨_, rfl, by rw [if_pos (by omega)]; omega, h_kc⟩
      | exact ⟨_, rfl, by rw [if_neg (by omega), if_pos (by omega)], h_kc⟩
      | exact ⟨_, rfl, by rw [h_R.at, if_neg (by omega), if_neg (by omega)], h_kc⟩
  · refine j_bipush G dX11_write_27 (by decide) ?_
    refine j_ireturn G dX11_write_29 ?_
    exact ⟨-5, rfl, by rw [if_pos (Decidable.byContradiction c_24)], h_kc⟩
theorem c_writeN (c i : Int) (h_1 : (-2147483648 ≤ c ∧ c < 2147483648)) (h_c : ¬ (0 ≤ c ∧ c ≤ 4)) : CT (EC x) 4 yX11_write [rf (EC x) 0, iv c, iv i] σ (rI (-1) σ) := by
  refine CT.ofJ (own := RX11) (cc := cX11_write) (n := 4) (ret := (some .int)) (by decide) rfl cw_X11_write (by decide) (Nat.le_of_ble_eq_true rfl) (ls := [some (rf (EC x) 0), some (iv c), some (iv i), none]) rfl ?_
  intro X G
  first | refine j_aload_n G dX11_write_0 rfl ?_ | refine j_aload_nN G dX11_write_0 rfl ?_
  refine j_iload_n G dX11_write_1 rfl ?_
  refine j_callV G mv_X11_88 dX11_write_2 (c_codeAtN c h_1 h_c) (by first | assumption | rfl) (by decide) (by rfl) rfl rfl (by exact Nat.le_of_ble_eq_true rfl) (by decide) (kV ?_)
  first | refine j_astore3 G dX11_write_5 (by decide) rfl ?_ | refine j_astoreN3 G dX11_write_5 (by decide) rfl ?_
  first | refine j_aload_n G dX11_write_6 rfl ?_ | refine j_aload_nN G dX11_write_6 rfl ?_
  refine j_ifnonnullN G dX11_write_7 ?_
  refine j_iconst G dX11_write_10 ?_
  refine j_ireturn G dX11_write_11 ?_
  exact ⟨rfl, rfl⟩
theorem m_write (c n : Nat) (i : Int) (h_i : (-2147483648 ≤ i ∧ i < 2147483648)) (h_c : c < 5) (h_w : WfCode σ c) (h_r : ReCode σ μ c) (h_p : WfPad σ) (h_rp : RePad σ μ) (h_n : σ 37 1 = n) : CT (EM x) 5 yX12_write [rf (EM x) 0, iv c, iv i] μ (rP (fun z ν => z = wtS σ c n i ∧ KM μ ν)) := by
  obtain ⟨h_p1, h_p2, -⟩ := id h_p
  obtain ⟨h_q1, h_q2, -⟩ := id h_rp
  have h_t : ∀ i : Nat, i < n → 0 ≤ ptx σ i ∧ ptx σ i ≤ 25 := fun i h_i => h_p2 i (by omega) (by omega)
  have h_wv := wA_v h_w h_t 0 (by omega)
  have h_v0 := wv_rg h_wv (by omega)
  have h_cr := cv_rg h_wv (by omega)
  have h_cd := cv_dm h_wv (by omega)
  have h_ln := wrL_len h_w h_t 10 0 (by omega) (by omega)
  unfold wtS
  refine CT.ofJ (own := RX12) (cc := cX12_write) (n := 3) (ret := (some .int)) (by decide) rfl cw_X12_write (by decide) (Nat.le_of_ble_eq_true rfl) (ls := [some (rf (EM x) 0), some (iv c), some (iv i)]) rfl ?_
  intro X G
  refine j_iload_n G dX12_write_0 rfl ?_
  refine j_callS G ms_X12_121 dX12_write_1 (m_isCode c (by omega)) rfl rfl (by exact Nat.le_of_ble_eq_true rfl) (by decide) (kI ?_)
  refine j_if_neB G dX12_write_4 (tgt := 9) (by decide)  (fun c_4 => ?_) (fun c_4 => ?_)
  · first | refine j_aload_n G dX12_write_9 rfl ?_ | refine j_aload_nN G dX12_write_9 rfl ?_
    refine j_callV G mv_X12_184 dX12_write_10 (m_layPad n (by rw [h_q1, h_n]) (by omega)) (by first | assumption | rfl) (by decide) (by rfl) rfl rfl (by exact Nat.le_of_ble_eq_true rfl) (by decide) (kM (fun ν h_l => ?_))
    obtain ⟨h_l1, h_l2, h_l3⟩ := h_l
    have h_tx : TX ν n (ptx σ) := ⟨h_l2, fun j h_j => (h_l3 j h_j).trans (h_q2 j (by omega) (by omega))⟩
    have h_rc : ReCode σ ν c := h_r.on (fun j h_1 h_2 => h_l1.1 j (by omega) (by omega))
    first | refine j_aload_n G dX12_write_13 rfl ?_ | refine j_aload_nN G dX12_write_13 rfl ?_
    refine j_iload_n G dX12_write_14 rfl ?_
    refine j_callV G mv_X12_187 dX12_write_15 (m_findWritten (σ := σ) c n (ptx σ) h_c (by omega) h_tx h_t h_w h_rc) (by first | assumption | rfl) (by decide) (by rfl) rfl rfl (by exact Nat.le_of_ble_eq_true rfl) (by decide) (kP (fun y ν2 h_y => ?_))
    obtain ⟨rfl, h_y2, h_y3⟩ := h_y
    have h_k1 : KM μ ν := ⟨fun k h_1 h_2 => h_l1.1 k (fun h => h_1 (by unfold scM; omega)) h_2, fun j h_1 => h_l1.2 j (fun h => h_1 (by unfold scF; omega))⟩
    have h_k2 : KM μ ν2 := ⟨fun k h_1 h_2 => (h_y2 k (fun h => h_1 (by unfold scM; omega))).trans (h_k1.1 k h_1 h_2), fun j h_1 => by rw [h_y2 0 (by decide)]; exact h_k1.2 j h_1⟩
    have h_00 : ν2 10 0 = cv (wA σ c (ptx σ) n 0) := h_y3 0 (by omega)
    refine j_if_neB G dX12_write_18 (tgt := 24) (by decide)  (fun c_18 => ?_) (fun c_18 => ?_)
    · rw [if_neg c_18]
      refine j_iload_n G dX12_write_24 rfl ?_
      refine j_iconst G dX12_write_25 ?_
      refine j_icmp_ne G dX12_write_26 (tgt := 40) (by decide) (by omega) (by omega) (fun c_26 => ?_) (fun c_26 => ?_)
      · refine j_iload_n G dX12_write_40 rfl ?_
        refine j_bipush G dX12_write_41 (by decide) ?_
        refine j_icmp_ne G dX12_write_43 (tgt := 57) (by decide) (by omega) (by omega) (fun c_43 => ?_) (fun c_43 => ?_)
        · rw [if_neg (by omega), if_neg (by omega)]
          first | refine j_aload_n G dX12_write_57 rfl ?_ | refine j_aload_nN G dX12_write_57 rfl ?_
          refine j_iload_n G dX12_write_58 rfl ?_
          refine j_callV G mv_X12_190 dX12_write_59 (m_layWritten (σ := σ) c n (ptx σ) h_c (by omega) ⟨by rw [h_y2 0 (by decide)]; exact h_tx.1, fun j h_j => by rw [h_y2 9 (by decide)]; exact h_tx.2 j h_j⟩ h_t h_w (h_rc.on (fun j h_1 h_2 => h_y2 j (by omega))) h_y3 (by omega)) (by first | assumption | rfl) (by decide) (by rfl) rfl rfl (by exact Nat.le_of_ble_eq_true rfl) (by decide) (kM (fun ν3 h_3 => ?_))
          obtain ⟨h_k3, h_R⟩ := h_3
          obtain ⟨b, h_b, h_wb⟩ := h_ln (by omega)
          clear h_ln
          have h_R1 := h_R.1
          have h_at := h_R.at i
          have h_k4 : KM μ ν3 := ⟨fun k h_1 h_2 => (h_k3.1 k (fun h => h_1 (by unfold scM; omega)) h_2).trans (h_k2.1 k h_1 h_2), fun j h_1 => (h_k3.2 j (fun h => h_1 (by unfold scF; omega))).trans (h_k2.2 j h_1)⟩
          refine j_iload_n G dX12_write_62 rfl ?_
          refine j_i2l G (by omega) dX12_write_63 ?_
          refine j_lconstI G 0 dX12_write_64 (by decide) ?_
          first | refine j_aload_n G dX12_write_65 rfl ?_ | refine j_aload_nN G dX12_write_65 rfl ?_
          refine j_geti G fl_X12_178 dX12_write_66 14 rfl (by first | assumption | rfl) (by rfl) (fun r_66 => ?_)
          try simp (disch := omega) only [up_same, up_cell, up_idx, cpm_at, fil_at] at r_66 ⊢
          refine j_iconst G dX12_write_69 ?_
          refine j_isub G dX12_write_70 ?_
          refine j_i2l G (by omega) dX12_write_71 ?_
          refine j_pc (p2 := 72) rfl ?_
          refine j_callS G ms_X12_115 dX12_write_72 (m_in _ _ _ (by omega) (by omega) (by omega)) rfl rfl (by exact Nat.le_of_ble_eq_true rfl) (by decide) (kI ?_)
          refine j_if_eqB G dX12_write_75 (tgt := 87) (by decide)  (fun c_75 => ?_) (fun c_75 => ?_)
          · refine j_bipush G dX12_write_87 (by decide) ?_
            refine j_ireturn G dX12_write_89 ?_
            first
            | exact ⟨_, rfl, by rw [← h_at, if_pos (by omega)], h_k4⟩
            | exact ⟨_, rfl, by rw [← h_at, if_neg (by omega)], h_k4⟩
          · first | refine j_aload_n G dX12_write_78 rfl ?_ | refine j_aload_nN G dX12_write_78 rfl ?_
            refine j_getr G fl_X12_40 dX12_write_79 (by first | assumption | rfl) (by rfl) ?_
            refine j_iload_n G dX12_write_82 rfl ?_
            refine j_iaload G dX12_write_83 (by first | assumption | rfl) (by omega) (fun r_83 => ?_)
            try simp (disch := omega) only [up_same, up_cell, up_idx, cpm_at, fil_at] at r_83 ⊢
            refine j_goto G dX12_write_84 (tgt := 89) (by decide) ?_
            refine j_ireturn G dX12_write_89 ?_
            first
            | exact ⟨_, rfl, by rw [← h_at, if_pos (by omega)], h_k4⟩
            | exact ⟨_, rfl, by rw [← h_at, if_neg (by omega)], h_k4⟩
        · first | refine j_aload_n G dX12_write_46 rfl ?_ | refine j_aload_nN G dX12_write_46 rfl ?_
          refine j_getr G fl_X12_37 dX12_write_47 (by first | assumption | rfl) (by rfl) ?_
          refine j_iconst G dX12_write_50 ?_
          refine j_iaload G dX12_write_51 (by first | assumption | rfl) (by omega) (fun r_51 => ?_)
          try simp (disch := omega) only [up_same, up_cell, up_idx, cpm_at, fil_at] at r_51 ⊢
          rw [h_00]
          refine j_sipush G dX12_write_52 (by decide) ?_
          refine j_irem G dX12_write_55 (by omega) (by omega) ?_
          refine j_ireturn G dX12_write_56 ?_
          exact ⟨_, rfl, by rw [if_neg (by omega), if_pos (by omega), (h_cd c_18).2], h_k2⟩
      · first | refine j_aload_n G dX12_write_29 rfl ?_ | refine j_aload_nN G dX12_write_29 rfl ?_
        refine j_getr G fl_X12_37 dX12_write_30 (by first | assumption | rfl) (by rfl) ?_
        refine j_iconst G dX12_write_33 ?_
        refine j_iaload G dX12_write_34 (by first | assumption | rfl) (by omega) (fun r_34 => ?_)
        try simp (disch := omega) only [up_same, up_cell, up_idx, cpm_at, fil_at] at r_34 ⊢
        rw [h_00]
        refine j_sipush G dX12_write_35 (by decide) ?_
        refine j_idiv G dX12_write_38 (by omega) (by omega) ?_
        refine j_ireturn G dX12_write_39 ?_
        exact ⟨_, rfl, by rw [if_pos (by omega), (h_cd c_18).1], h_k2⟩
    · refine j_bipush G dX12_write_21 (by decide) ?_
      refine j_ireturn G dX12_write_23 ?_
      exact ⟨-5, rfl, by rw [if_pos (Decidable.byContradiction c_18)], h_k2⟩
  · refine j_iconst G dX12_write_7 ?_
    refine j_ireturn G dX12_write_8 ?_
    omega
theorem m_writeN (c i : Int) (h_1 : (-2147483648 ≤ c ∧ c < 2147483648)) (h_c : ¬ (0 ≤ c ∧ c ≤ 4)) : CT (EM x) 5 yX12_write [rf (EM x) 0, iv c, iv i] μ (rI (-1) μ) := by
  refine CT.ofJ (own := RX12) (cc := cX12_write) (n := 3) (ret := (some .int)) (by decide) rfl cw_X12_write (by decide) (Nat.le_of_ble_eq_true rfl) (ls := [some (rf (EM x) 0), some (iv c), some (iv i)]) rfl ?_
  intro X G
  refine j_iload_n G dX12_write_0 rfl ?_
  refine j_callS G ms_X12_121 dX12_write_1 (m_isCode c h_1) rfl rfl (by exact Nat.le_of_ble_eq_true rfl) (by decide) (kI ?_)
  refine j_if_neB G dX12_write_4 (tgt := 9) (by decide)  (fun c_4 => ?_) (fun c_4 => ?_)
  · omega
  · refine j_iconst G dX12_write_7 ?_
    refine j_ireturn G dX12_write_8 ?_
    exact ⟨rfl, rfl⟩
theorem op_write (c i : Int) (h_1 : (-2147483648 ≤ c ∧ c < 2147483648)) (h_2 : (-2147483648 ≤ i ∧ i < 2147483648)) : OP x1 x2 yX11_write yX12_write [iv c, iv i] := by
  refine OP.same (fun σ μ hw hr => ?_)
  obtain ⟨w1, w2, w3, w4, w5, w6, w7, w8⟩ := id hw
  obtain ⟨r1, r2, r3, r4, r5, r6, r7, r8⟩ := id hr
  by_cases h_c : 0 ≤ c ∧ c ≤ 4
  · obtain ⟨cc, h_c4, rfl⟩ := nat_of (n := 4) h_c
    obtain ⟨n, h_n10, h_n⟩ := nat_of (n := 10) w2.1
    exact ⟨_, _, _, by decide, by decide, c_write cc n i h_2 (by omega) (w1 cc (by omega)) w2 h_n, m_write cc n i h_2 (by omega) (w1 cc (by omega)) (r1 cc (by omega)) w2 r2 h_n⟩
  · exact ⟨_, _, _, by decide, by decide, rI_P (c_writeN c i h_1 h_c) ⟨rfl, KC.rf _⟩, rI_P (m_writeN c i h_1 h_c) ⟨rfl, KM.rf _⟩⟩
end WO
def paG (f : Int → Int) (v : Int) : Int := 10 + 2 * pop v.toNat + 3 * nrS f v.toNat
def paS (f : Int → Int) (L : List Int) (m : Nat) : Int := sm (fun i => paG f (L.getD i 0)) m
theorem paG_rg (f : Int → Int) {v : Int} (h : 0 ≤ v ∧ v ≤ 63) : 10 ≤ paG f v ∧ paG f v ≤ 40 := by
  have h_1 := nrS_rg f v.toNat
  have h_2 := pop_6 v.toNat (by omega)
  unfold paG
  omega
theorem paS_rg (f : Int → Int) {L : List Int} (h_L : ∀ v ∈ L, 0 ≤ v ∧ v ≤ 63) (m : Nat) (h_m : m ≤ L.length) : 0 ≤ paS f L m ∧ paS f L m ≤ 40 * m := by
  have := sm_rg (g := fun i => paG f (L.getD i 0)) (a := 10) (b := 40) m (fun i h_i => paG_rg f (h_L _ (gd_mem L i (by omega))))
  unfold paS
  omega
def pcS (σ : MemT) (r c n : Nat) : Int := if σ (79 + 2 * r) c = 0 then -3 else if wA σ c (ptx σ) n 0 = 268435456 then -5 else paS (σ (3 + 7 * c)) (wrL σ c (ptx σ) n 10 0) (wrL σ c (ptx σ) n 10 0).length * (100 + 300 / (σ (79 + 2 * r) c + 1) + max 0 (σ (78 + 2 * r) 0 - 60)) / 100
section PC
variable {E : EE} {x x1 x2 : CX} {μ σ : MemT}
theorem c_pace (r c n : Nat) (h_r : r < σ 0 8) (h_20 : σ 0 8 ≤ 20) (h_c : c < 5) (h_w : WfCode σ c) (h_p : WfPad σ) (h_rd : WfRd σ) (h_n : σ 37 1 = n) : CT (EC x) 4 yX11_pace [rf (EC x) 0, iv r, iv c] σ (rP (fun z τ => z = pcS σ r c n ∧ KC σ τ)) := by
  obtain ⟨h_y1, h_y2, h_y3⟩ := ly_reader (x := x) (r := r) (by omega)
  obtain ⟨h_z1, h_z2, h_z3, h_z4, h_z5, h_z6, h_z7⟩ := ly_code (x := x) h_c
  obtain ⟨h_p1, h_p2, -⟩ := id h_p
  obtain ⟨h_a1, h_a2, h_a3, h_a4⟩ := h_rd.2 r (by omega)
  have h_a5 := h_a4 c (by omega) (by omega)
  have h_t : ∀ i : Nat, i < n → 0 ≤ ptx σ i ∧ ptx σ i ≤ 25 := fun i h_i => h_p2 i (by omega) (by omega)
  have h_v0 := wv_rg (wA_v h_w h_t 0 (by omega)) (by omega)
  have h_ln := wrL_len h_w h_t 10 0 (by omega) (by omega)
  have h_rg := wrL_rg h_w h_t 10 0
  have h_lo := c_layOut (x := x) c n h_c h_w h_p h_n
  unfold pcS
  generalize wrL σ c (ptx σ) n 10 0 = L at h_ln h_lo h_rg ⊢
  generalize wA σ c (ptx σ) n 0 = w at h_v0 h_ln h_lo h_rg ⊢
  refine CT.ofJ (own := RX11) (cc := cX11_pace) (n := 8) (ret := (some .int)) (by decide) rfl cw_X11_pace (by decide) (Nat.le_of_ble_eq_true rfl) (ls := [some (rf (EC x) 0), some (iv r), some (iv c), none, none, none, none, none]) rfl ?_
  intro X G
  first | refine j_aload_n G dX11_pace_0 rfl ?_ | refine j_aload_nN G dX11_pace_0 rfl ?_
  refine j_iload_n G dX11_pace_1 rfl ?_
  refine j_callV G mv_X11_210 dX11_pace_2 (c_readerAt r h_r h_20) (by first | assumption | rfl) (by decide) (by rfl) rfl rfl (by exact Nat.le_of_ble_eq_true rfl) (by decide) (kV ?_)
  first | refine j_astore3 G dX11_pace_5 (by decide) rfl ?_ | refine j_astoreN3 G dX11_pace_5 (by decide) rfl ?_
  first | refine j_aload_n G dX11_pace_6 rfl ?_ | refine j_aload_nN G dX11_pace_6 rfl ?_
  refine j_iload_n G dX11_pace_7 rfl ?_
  refine j_callV G mv_X11_88 dX11_pace_8 (c_codeAt c h_c) (by first | assumption | rfl) (by decide) (by rfl) rfl rfl (by exact Nat.le_of_ble_eq_true rfl) (by decide) (kV ?_)
  first | refine j_astore4 G dX11_pace_11 (by decide) rfl ?_ | refine j_astoreN4 G dX11_pace_11 (by decide) rfl ?_
  first | refine j_aload_n G dX11_pace_13 rfl ?_ | refine j_aload_nN G dX11_pace_13 rfl ?_
  refine j_ifnull G dX11_pace_14 ?_
  first | refine j_aload G dX11_pace_17 rfl ?_ | refine j_aloadN G dX11_pace_17 rfl ?_
  refine j_pc (p2 := 19) rfl ?_
  refine j_ifnonnull G dX11_pace_19 (tgt := 24) (by decide) ?_
  first | refine j_aload_n G dX11_pace_24 rfl ?_ | refine j_aload_nN G dX11_pace_24 rfl ?_
  refine j_getr G fl_X11_214 dX11_pace_25 (by first | assumption | rfl) (by rfl) ?_
  refine j_iload_n G dX11_pace_28 rfl ?_
  refine j_iaload G dX11_pace_29 (by first | assumption | rfl) (by omega) (fun r_29 => ?_)
  try simp (disch := omega) only [up_same, up_cell, up_idx, cpm_at, fil_at] at r_29 ⊢
  refine j_if_ne G dX11_pace_30 (tgt := 36) (by decide) (by omega) (fun c_30 => ?_) (fun c_30 => ?_)
  · rw [if_neg (by omega)]
    first | refine j_aload_n G dX11_pace_36 rfl ?_ | refine j_aload_nN G dX11_pace_36 rfl ?_
    refine j_getr G fl_X11_34 dX11_pace_37 (by first | assumption | rfl) (by rfl) ?_
    first | refine j_aload G dX11_pace_40 rfl ?_ | refine j_aloadN G dX11_pace_40 rfl ?_
    first | refine j_aload_n G dX11_pace_42 rfl ?_ | refine j_aload_nN G dX11_pace_42 rfl ?_
    refine j_getr G fl_X11_21 dX11_pace_43 (by first | assumption | rfl) (by rfl) ?_
    refine j_callV G mv_X11_126 dX11_pace_46 (h_lo) (by first | assumption | rfl) (by decide) (by rfl) rfl rfl (by exact Nat.le_of_ble_eq_true rfl) (by decide) (kP (fun y τ h_y => ?_))
    obtain ⟨rfl, h_o, h_s⟩ := h_y
    have h_kc : KC σ τ := h_o.wk (fun j h => by unfold scC; omega)
    refine j_if_neB G dX11_pace_49 (tgt := 55) (by decide)  (fun c_49 => ?_) (fun c_49 => ?_)
    · rw [if_neg c_49]
      obtain ⟨h_R, h_44⟩ := h_s c_49
      obtain ⟨b, h_b, h_wb⟩ := h_ln (by omega)
      clear h_ln
      have h_L := h_rg (by omega)
      have h_R1 := h_R.1
      have h_cl := h_o (3 + 7 * c) (by omega)
      refine j_iconst G dX11_pace_55 ?_
      refine j_istore5 G dX11_pace_56 (by decide) rfl ?_
      refine j_iconst G dX11_pace_58 ?_
      refine j_istore6 G dX11_pace_59 (by decide) rfl ?_
      refine j_pc (p2 := 61) rfl ?_
      refine j_weak (ls' := [some (rf (EC x) 0), some (iv r), some (iv c), some (rf (EC x) (78 + 2 * r)), some (rf (EC x) (2 + 7 * c)), some (iv (paS (σ (3 + 7 * c)) L 0)), some (iv ((0 : Nat) : Int)), none]) ?_ ⟨rfl, rfl, rfl, rfl, rfl, rfl, rfl, trivial⟩
      refine down (Pr := fun i => JJ (EC x) X 4 (rP (fun z τ => z = paS (σ (3 + 7 * c)) L L.length * (100 + 300 / (σ (79 + 2 * r) c + 1) + max 0 (σ (78 + 2 * r) 0 - 60)) / 100 ∧ KC σ τ)) 8 61 [some (rf (EC x) 0), some (iv r), some (iv c), some (rf (EC x) (78 + 2 * r)), some (rf (EC x) (2 + 7 * c)), some (iv (paS (σ (3 + 7 * c)) L i)), some (iv i), none] [] τ) L.length ?_ 0 (Nat.zero_le _)
      intro i h_i ih
      have h_ps := paS_rg (σ (3 + 7 * c)) h_L i h_i
      refine j_iload G dX11_pace_61 rfl ?_
      first | refine j_aload_n G dX11_pace_63 rfl ?_ | refine j_aload_nN G dX11_pace_63 rfl ?_
      refine j_getr G fl_X11_34 dX11_pace_64 (by first | assumption | rfl) (by rfl) ?_
      refine j_getr G fl_X11_130 dX11_pace_67 (by first | assumption | rfl) (by rfl) ?_
      refine j_geti G fl_X11_119 dX11_pace_70 1 rfl (by first | assumption | rfl) (by rfl) (fun r_70 => ?_)
      try simp (disch := omega) only [up_same, up_cell, up_idx, cpm_at, fil_at] at r_70 ⊢
      refine j_icmp_ge G dX11_pace_73 (tgt := 121) (by decide) (by omega) (by omega) (fun c_73 => ?_) (fun c_73 => ?_)
      · obtain rfl : i = L.length := by omega
        refine j_bipush G dX11_pace_121 (by decide) ?_
        refine j_sipush G dX11_pace_123 (by decide) ?_
        first | refine j_aload_n G dX11_pace_126 rfl ?_ | refine j_aload_nN G dX11_pace_126 rfl ?_
        refine j_getr G fl_X11_214 dX11_pace_127 (by first | assumption | rfl) (by rfl) ?_
        refine j_iload_n G dX11_pace_130 rfl ?_
        refine j_iaload G dX11_pace_131 (by first | assumption | rfl) (by omega) (fun r_131 => ?_)
        try simp (disch := omega) only [up_same, up_cell, up_idx, cpm_at, fil_at] at r_131 ⊢
        rw [h_o (79 + 2 * r) (by omega)] at *
        refine j_iconst G dX11_pace_132 ?_
        refine j_iadd G dX11_pace_133 ?_
        refine j_idiv G dX11_pace_134 (by omega) (by omega) ?_
        refine j_iadd G dX11_pace_135 ?_
        refine j_iconst G dX11_pace_136 ?_
        refine j_pc (p2 := 137) rfl ?_
        first | refine j_aload_n G dX11_pace_137 rfl ?_ | refine j_aload_nN G dX11_pace_137 rfl ?_
        refine j_geti G fl_X11_201 dX11_pace_138 0 rfl (by first | assumption | rfl) (by rfl) (fun r_138 => ?_)
        try simp (disch := omega) only [up_same, up_cell, up_idx, cpm_at, fil_at] at r_138 ⊢
        rw [h_o (78 + 2 * r) (by omega)] at *
        refine j_bipush G dX11_pace_141 (by decide) ?_
        refine j_isub G dX11_pace_143 ?_
        refine j_max G ms_X11_231 dX11_pace_144 (by omega) (by omega) (by decide) (by exact Nat.le_of_ble_eq_true rfl) ?_
        refine j_iadd G dX11_pace_147 ?_
        refine j_istore6 G dX11_pace_148 (by decide) rfl ?_
        refine j_iload G dX11_pace_150 rfl ?_
        refine j_iload G dX11_pace_152 rfl ?_
        refine j_imul G dX11_pace_154 ?_
        have h_q1 : 0 ≤ 300 / (σ (79 + 2 * r) c + 1) ∧ 300 / (σ (79 + 2 * r) c + 1) ≤ 300 := ⟨Int.ediv_nonneg (by omega) (by omega), Int.ediv_le_self _ (by omega)⟩
        have h_q2 := mul_rg (a := paS (σ (3 + 7 * c)) L L.length) (b := 100 + 300 / (σ (79 + 2 * r) c + 1) + max 0 (σ (78 + 2 * r) 0 - 60)) (by omega) (fun _ => by omega)
        refine j_bipush G dX11_pace_155 (by decide) ?_
        refine j_idiv G dX11_pace_157 (by omega) (by omega) ?_
        refine j_pc (p2 := 158) rfl ?_
        refine j_ireturn G dX11_pace_158 ?_
        exact ⟨_, rfl, rfl, h_kc⟩
      · have h_Li := h_L _ (gd_mem L i (by omega))
        have h_47 : τ 47 i = L.getD i 0 := h_R.2 i (by omega)
        obtain ⟨v, h_v63, h_ve⟩ := nat_of (n := 63) h_Li
        first | refine j_aload_n G dX11_pace_76 rfl ?_ | refine j_aload_nN G dX11_pace_76 rfl ?_
        refine j_getr G fl_X11_34 dX11_pace_77 (by first | assumption | rfl) (by rfl) ?_
        refine j_getr G fl_X11_130 dX11_pace_80 (by first | assumption | rfl) (by rfl) ?_
        refine j_iload G dX11_pace_83 rfl ?_
        refine j_callV G mv_X11_136 dX11_pace_85 (p_at 46 47 20 i (by omega) rfl rfl (by decide) (by omega)) (by first | assumption | rfl) (by decide) (by rfl) rfl rfl (by exact Nat.le_of_ble_eq_true rfl) (by decide) (kI ?_)
        rw [if_pos (by omega), h_47, h_ve]
        refine j_istore7 G dX11_pace_88 (by decide) rfl ?_
        refine j_iload G dX11_pace_90 rfl ?_
        refine j_bipush G dX11_pace_92 (by decide) ?_
        refine j_iconst G dX11_pace_94 ?_
        refine j_iload G dX11_pace_95 rfl ?_
        refine j_callS G ms_X11_226 dX11_pace_97 (x_bitCount (v : Int)) rfl rfl (by exact Nat.le_of_ble_eq_true rfl) (by decide) (kI ?_)
        refine j_pc (p2 := 100) rfl ?_
        rw [bcF_pop v (by omega)]
        refine j_imul G dX11_pace_100 ?_
        refine j_iadd G dX11_pace_101 ?_
        refine j_iconst G dX11_pace_102 ?_
        first | refine j_aload G dX11_pace_103 rfl ?_ | refine j_aloadN G dX11_pace_103 rfl ?_
        refine j_iload G dX11_pace_105 rfl ?_
        refine j_callV G mv_X11_223 dX11_pace_107 (k_likeOf (2 + 7 * c) (3 + 7 * c) (4 + 7 * c) (7 + 7 * c) (8 + 7 * c) h_z1 h_z2 v (by omega) (fun l h_l => by rw [h_cl]; exact h_w.1 l (by omega) (by omega))) (by first | assumption | rfl) (by decide) (by rfl) rfl rfl (by exact Nat.le_of_ble_eq_true rfl) (by decide) (kI ?_)
        rw [h_cl]
        refine j_imul G dX11_pace_110 ?_
        refine j_iadd G dX11_pace_111 ?_
        refine j_iadd G dX11_pace_112 ?_
        refine j_istore5 G dX11_pace_113 (by decide) rfl ?_
        refine j_iinc6 G dX11_pace_115 (by decide) rfl rfl ?_
        refine j_goto G dX11_pace_118 (tgt := 61) (by decide) ?_
        refine j_pc (p2 := 61) rfl ?_
        have h_ss : paS (σ (3 + 7 * c)) L (i + 1) = paS (σ (3 + 7 * c)) L i + (10 + 2 * pop v + 3 * nrS (σ (3 + 7 * c)) v) := by
          show paS (σ (3 + 7 * c)) L i + paG (σ (3 + 7 * c)) (L.getD i 0) = _
          rw [h_ve]
          rfl
        have h_z := ih (by omega)
        rw [h_ss] at h_z
        exact j_weak h_z ⟨rfl, rfl, rfl, rfl, rfl, rfl, rfl, trivial⟩
    · refine j_bipush G dX11_pace_52 (by decide) ?_
      refine j_ireturn G dX11_pace_54 ?_
      exact ⟨-5, rfl, by rw [if_pos (Decidable.byContradiction c_49)], h_kc⟩
  · refine j_bipush G dX11_pace_33 (by decide) ?_
    refine j_ireturn G dX11_pace_35 ?_
    exact ⟨-3, rfl, by rw [if_pos (by omega)], KC.rf _⟩
theorem c_paceN (r c : Int) (h_1 : (-2147483648 ≤ r ∧ r < 2147483648)) (h_2 : (-2147483648 ≤ c ∧ c < 2147483648)) (h_r : ¬ (0 ≤ r ∧ r < σ 0 8)) (h_n : 0 ≤ σ 0 8 ∧ σ 0 8 ≤ 20) : CT (EC x) 4 yX11_pace [rf (EC x) 0, iv r, iv c] σ (rI (-1) σ) := by
  refine CT.ofJ (own := RX11) (cc := cX11_pace) (n := 8) (ret := (some .int)) (by decide) rfl cw_X11_pace (by decide) (Nat.le_of_ble_eq_true rfl) (ls := [some (rf (EC x) 0), some (iv r), some (iv c), none, none, none, none, none]) rfl ?_
  intro X G
  by_cases h_c : 0 ≤ c ∧ c ≤ 4
  · obtain ⟨e, h_e4, rfl⟩ := nat_of (n := 4) h_c
    first | refine j_aload_n G dX11_pace_0 rfl ?_ | refine j_aload_nN G dX11_pace_0 rfl ?_
    refine j_iload_n G dX11_pace_1 rfl ?_
    refine j_callV G mv_X11_210 dX11_pace_2 (c_readerAtN r h_1 h_r h_n) (by first | assumption | rfl) (by decide) (by rfl) rfl rfl (by exact Nat.le_of_ble_eq_true rfl) (by decide) (kV ?_)
    first | refine j_astore3 G dX11_pace_5 (by decide) rfl ?_ | refine j_astoreN3 G dX11_pace_5 (by decide) rfl ?_
    first | refine j_aload_n G dX11_pace_6 rfl ?_ | refine j_aload_nN G dX11_pace_6 rfl ?_
    refine j_iload_n G dX11_pace_7 rfl ?_
    refine j_callV G mv_X11_88 dX11_pace_8 (c_codeAt e (by omega)) (by first | assumption | rfl) (by decide) (by rfl) rfl rfl (by exact Nat.le_of_ble_eq_true rfl) (by decide) (kV ?_)
    first | refine j_astore4 G dX11_pace_11 (by decide) rfl ?_ | refine j_astoreN4 G dX11_pace_11 (by decide) rfl ?_
    first | refine j_aload_n G dX11_pace_13 rfl ?_ | refine j_aload_nN G dX11_pace_13 rfl ?_
    refine j_ifnullN G dX11_pace_14 (tgt := 22) (by decide) ?_
    refine j_iconst G dX11_pace_22 ?_
    refine j_pc (p2 := 23) rfl ?_
    refine j_ireturn G dX11_pace_23 ?_
    exact ⟨rfl, rfl⟩
  · first | refine j_aload_n G dX11_pace_0 rfl ?_ | refine j_aload_nN G dX11_pace_0 rfl ?_
    refine j_iload_n G dX11_pace_1 rfl ?_
    refine j_callV G mv_X11_210 dX11_pace_2 (c_readerAtN r h_1 h_r h_n) (by first | assumption | rfl) (by decide) (by rfl) rfl rfl (by exact Nat.le_of_ble_eq_true rfl) (by decide) (kV ?_)
    first | refine j_astore3 G dX11_pace_5 (by decide) rfl ?_ | refine j_astoreN3 G dX11_pace_5 (by decide) rfl ?_
    first | refine j_aload_n G dX11_pace_6 rfl ?_ | refine j_aload_nN G dX11_pace_6 rfl ?_
    refine j_iload_n G dX11_pace_7 rfl ?_
    refine j_callV G mv_X11_88 dX11_pace_8 (c_codeAtN c h_2 h_c) (by first | assumption | rfl) (by decide) (by rfl) rfl rfl (by exact Nat.le_of_ble_eq_true rfl) (by decide) (kV ?_)
    first | refine j_astore4 G dX11_pace_11 (by decide) rfl ?_ | refine j_astoreN4 G dX11_pace_11 (by decide) rfl ?_
    first | refine j_aload_n G dX11_pace_13 rfl ?_ | refine j_aload_nN G dX11_pace_13 rfl ?_
    refine j_ifnullN G dX11_pace_14 (tgt := 22) (by decide) ?_
    refine j_iconst G dX11_pace_22 ?_
    refine j_pc (p2 := 23) rfl ?_
    refine j_ireturn G dX11_pace_23 ?_
    exact ⟨rfl, rfl⟩
theorem c_paceN2 (r : Nat) (c : Int) (h_r : r < σ 0 8) (h_n : σ 0 8 ≤ 20) (h_2 : (-2147483648 ≤ c ∧ c < 2147483648)) (h_c : ¬ (0 ≤ c ∧ c ≤ 4)) : CT (EC x) 4 yX11_pace [rf (EC x) 0, iv r, iv c] σ (rI (-1) σ) := by
  refine CT.ofJ (own := RX11) (cc := cX11_pace) (n := 8) (ret := (some .int)) (by decide) rfl cw_X11_pace (by decide) (Nat.le_of_ble_eq_true rfl) (ls := [some (rf (EC x) 0), some (iv r), some (iv c), none, none, none, none, none]) rfl ?_
  intro X G
  first | refine j_aload_n G dX11_pace_0 rfl ?_ | refine j_aload_nN G dX11_pace_0 rfl ?_
  refine j_iload_n G dX11_pace_1 rfl ?_
  refine j_callV G mv_X11_210 dX11_pace_2 (c_readerAt r h_r h_n) (by first | assumption | rfl) (by decide) (by rfl) rfl rfl (by exact Nat.le_of_ble_eq_true rfl) (by decide) (kV ?_)
  first | refine j_astore3 G dX11_pace_5 (by decide) rfl ?_ | refine j_astoreN3 G dX11_pace_5 (by decide) rfl ?_
  first | refine j_aload_n G dX11_pace_6 rfl ?_ | refine j_aload_nN G dX11_pace_6 rfl ?_
  refine j_iload_n G dX11_pace_7 rfl ?_
  refine j_callV G mv_X11_88 dX11_pace_8 (c_codeAtN c h_2 h_c) (by first | assumption | rfl) (by decide) (by rfl) rfl rfl (by exact Nat.le_of_ble_eq_true rfl) (by decide) (kV ?_)
  first | refine j_astore4 G dX11_pace_11 (by decide) rfl ?_ | refine j_astoreN4 G dX11_pace_11 (by decide) rfl ?_
  first | refine j_aload_n G dX11_pace_13 rfl ?_ | refine j_aload_nN G dX11_pace_13 rfl ?_
  refine j_ifnull G dX11_pace_14 ?_
  first | refine j_aload G dX11_pace_17 rfl ?_ | refine j_aloadN G dX11_pace_17 rfl ?_
  refine j_pc (p2 := 19) rfl ?_
  refine j_ifnonnullN G dX11_pace_19 ?_
  refine j_iconst G dX11_pace_22 ?_
  refine j_ireturn G dX11_pace_23 ?_
  exact ⟨rfl, rfl⟩
theorem m_pace (r c n : Nat) (h_r8 : r < σ 0 8) (h_20 : σ 0 8 ≤ 20) (h_c : c < 5) (h_w : WfCode σ c) (h_r : ReCode σ μ c) (h_p : WfPad σ) (h_rp : RePad σ μ) (h_rd : WfRd σ) (h_rr : ReRd σ μ) (h_n : σ 37 1 = n) : CT (EM x) 5 yX12_pace [rf (EM x) 0, iv r, iv c] μ (rP (fun z ν => z = pcS σ r c n ∧ KM μ ν)) := by
  obtain ⟨h_p1, h_p2, -⟩ := id h_p
  obtain ⟨h_q1, h_q2, -⟩ := id h_rp
  obtain ⟨h_a1, h_a2, h_a3, h_a4⟩ := h_rd.2 r (by omega)
  have h_a5 := h_a4 c (by omega) (by omega)
  obtain ⟨h_b1, h_b2, h_b3, h_b4⟩ := h_rr.2 r (by omega)
  have h_b5 := h_b4 c (by omega) (by omega)
  have h_t : ∀ i : Nat, i < n → 0 ≤ ptx σ i ∧ ptx σ i ≤ 25 := fun i h_i => h_p2 i (by omega) (by omega)
  have h_wv := wA_v h_w h_t 0 (by omega)
  have h_v0 := wv_rg h_wv (by omega)
  have h_ln := wrL_len h_w h_t 10 0 (by omega) (by omega)
  have h_rg := wrL_rg h_w h_t 10 0
  unfold pcS
  refine CT.ofJ (own := RX12) (cc := cX12_pace) (n := 5) (ret := (some .int)) (by decide) rfl cw_X12_pace (by decide) (Nat.le_of_ble_eq_true rfl) (ls := [some (rf (EM x) 0), some (iv r), some (iv c), none, none]) rfl ?_
  intro X G
  first | refine j_aload_n G dX12_pace_0 rfl ?_ | refine j_aload_nN G dX12_pace_0 rfl ?_
  refine j_iload_n G dX12_pace_1 rfl ?_
  refine j_callV G mv_X12_259 dX12_pace_2 (m_isReader r (by omega) (by have := h_rr.1; have := h_rd.1; omega)) (by first | assumption | rfl) (by decide) (by rfl) rfl rfl (by exact Nat.le_of_ble_eq_true rfl) (by decide) (kI ?_)
  refine j_if_eqB G dX12_pace_5 (tgt := 15) (by decide)  (fun c_5 => ?_) (fun c_5 => ?_)
  · refine j_iconst G dX12_pace_15 ?_
    refine j_ireturn G dX12_pace_16 ?_
    have := h_rr.1
    omega
  · refine j_iload_n G dX12_pace_8 rfl ?_
    refine j_callS G ms_X12_121 dX12_pace_9 (m_isCode c (by omega)) rfl rfl (by exact Nat.le_of_ble_eq_true rfl) (by decide) (kI ?_)
    refine j_if_neB G dX12_pace_12 (tgt := 17) (by decide)  (fun c_12 => ?_) (fun c_12 => ?_)
    · first | refine j_aload_n G dX12_pace_17 rfl ?_ | refine j_aload_nN G dX12_pace_17 rfl ?_
      refine j_iload_n G dX12_pace_18 rfl ?_
      refine j_iload_n G dX12_pace_19 rfl ?_
      refine j_callV G mv_X12_264 dX12_pace_20 (m_knows r c (by omega) (by omega)) (by first | assumption | rfl) (by decide) (by rfl) rfl rfl (by exact Nat.le_of_ble_eq_true rfl) (by decide) (kI ?_)
      refine j_if_neB G dX12_pace_23 (tgt := 29) (by decide)  (fun c_23 => ?_) (fun c_23 => ?_)
      · rw [if_neg (by omega)]
        first | refine j_aload_n G dX12_pace_29 rfl ?_ | refine j_aload_nN G dX12_pace_29 rfl ?_
        refine j_callV G mv_X12_184 dX12_pace_30 (m_layPad n (by rw [h_q1, h_n]) (by omega)) (by first | assumption | rfl) (by decide) (by rfl) rfl rfl (by exact Nat.le_of_ble_eq_true rfl) (by decide) (kM (fun ν h_l => ?_))
        obtain ⟨h_l1, h_l2, h_l3⟩ := h_l
        have h_tx : TX ν n (ptx σ) := ⟨h_l2, fun j h_j => (h_l3 j h_j).trans (h_q2 j (by omega) (by omega))⟩
        have h_rc : ReCode σ ν c := h_r.on (fun j h_1 h_2 => h_l1.1 j (by omega) (by omega))
        first | refine j_aload_n G dX12_pace_33 rfl ?_ | refine j_aload_nN G dX12_pace_33 rfl ?_
        refine j_iload_n G dX12_pace_34 rfl ?_
        refine j_callV G mv_X12_187 dX12_pace_35 (m_findWritten (σ := σ) c n (ptx σ) h_c (by omega) h_tx h_t h_w h_rc) (by first | assumption | rfl) (by decide) (by rfl) rfl rfl (by exact Nat.le_of_ble_eq_true rfl) (by decide) (kP (fun y ν2 h_y => ?_))
        obtain ⟨rfl, h_y2, h_y3⟩ := h_y
        have h_k1 : KM μ ν := ⟨fun k h_1 h_2 => h_l1.1 k (fun h => h_1 (by unfold scM; omega)) h_2, fun j h_1 => h_l1.2 j (fun h => h_1 (by unfold scF; omega))⟩
        have h_k2 : KM μ ν2 := ⟨fun k h_1 h_2 => (h_y2 k (fun h => h_1 (by unfold scM; omega))).trans (h_k1.1 k h_1 h_2), fun j h_1 => by rw [h_y2 0 (by decide)]; exact h_k1.2 j h_1⟩
        refine j_if_neB G dX12_pace_38 (tgt := 44) (by decide)  (fun c_38 => ?_) (fun c_38 => ?_)
        · rw [if_neg c_38]
          first | refine j_aload_n G dX12_pace_44 rfl ?_ | refine j_aload_nN G dX12_pace_44 rfl ?_
          refine j_iload_n G dX12_pace_45 rfl ?_
          refine j_callV G mv_X12_190 dX12_pace_46 (m_layWritten (σ := σ) c n (ptx σ) h_c (by omega) ⟨by rw [h_y2 0 (by decide)]; exact h_tx.1, fun j h_j => by rw [h_y2 9 (by decide)]; exact h_tx.2 j h_j⟩ h_t h_w (h_rc.on (fun j h_1 h_2 => h_y2 j (by omega))) h_y3 (by omega)) (by first | assumption | rfl) (by decide) (by rfl) rfl rfl (by exact Nat.le_of_ble_eq_true rfl) (by decide) (kM (fun ν3 h_3 => ?_))
          obtain ⟨h_k3, h_R⟩ := h_3
          obtain ⟨b, h_b, h_wb⟩ := h_ln (by omega)
          clear h_ln
          have h_L := h_rg (by omega)
          have h_R1 := h_R.1
          have h_k4 : KM μ ν3 := ⟨fun k h_1 h_2 => (h_k3.1 k (fun h => h_1 (by unfold scM; omega)) h_2).trans (h_k2.1 k h_1 h_2), fun j h_1 => (h_k3.2 j (fun h => h_1 (by unfold scF; omega))).trans (h_k2.2 j h_1)⟩
          have h_31 : ∀ l, 0 ≤ l → l < 26 → ν3 1 (26 * c + l) = σ (3 + 7 * c) l := fun l h_1 h_2 => by rw [h_k4.1 1 (by unfold scM; omega) (by decide)]; exact h_r.1 l h_1 h_2
          have h_322 : ν3 22 r = σ (78 + 2 * r) 0 := by rw [h_k4.1 22 (by unfold scM; omega) (by decide)]; exact h_b1
          have h_325 : ν3 25 (5 * (r : Int) + c) = σ (79 + 2 * r) c := by rw [h_k4.1 25 (by unfold scM; omega) (by decide)]; exact h_b5
          generalize wrL σ c (ptx σ) n 10 0 = L at h_wb h_L h_R h_R1 ⊢
          refine j_iconst G dX12_pace_49 ?_
          refine j_istore3 G dX12_pace_50 (by decide) rfl ?_
          refine j_iconst G dX12_pace_51 ?_
          refine j_istore4 G dX12_pace_52 (by decide) rfl ?_
          refine j_pc (p2 := 54) rfl ?_
          refine j_weak (ls' := [some (rf (EM x) 0), some (iv r), some (iv c), some (iv (paS (σ (3 + 7 * c)) L 0)), some (iv ((0 : Nat) : Int))]) ?_ ⟨rfl, rfl, rfl, rfl, rfl, trivial⟩
          refine down (Pr := fun i => JJ (EM x) X 5 (rP (fun z ν => z = paS (σ (3 + 7 * c)) L L.length * (100 + 300 / (σ (79 + 2 * r) c + 1) + max 0 (σ (78 + 2 * r) 0 - 60)) / 100 ∧ KM μ ν)) 5 54 [some (rf (EM x) 0), some (iv r), some (iv c), some (iv (paS (σ (3 + 7 * c)) L i)), some (iv i)] [] ν3) L.length ?_ 0 (Nat.zero_le _)
          intro i h_i ih
          have h_ps := paS_rg (σ (3 + 7 * c)) h_L i h_i
          have h_q1 : 0 ≤ 300 / (σ (79 + 2 * r) c + 1) ∧ 300 / (σ (79 + 2 * r) c + 1) ≤ 300 := ⟨Int.ediv_nonneg (by omega) (by omega), Int.ediv_le_self _ (by omega)⟩
          refine j_iload G dX12_pace_54 rfl ?_
          first | refine j_aload_n G dX12_pace_56 rfl ?_ | refine j_aload_nN G dX12_pace_56 rfl ?_
          refine j_geti G fl_X12_178 dX12_pace_57 14 rfl (by first | assumption | rfl) (by rfl) (fun r_57 => ?_)
          try simp (disch := omega) only [up_same, up_cell, up_idx, cpm_at, fil_at] at r_57 ⊢
          refine j_icmp_ge G dX12_pace_60 (tgt := 102) (by decide) (by omega) (by omega) (fun c_60 => ?_) (fun c_60 => ?_)
          · obtain rfl : i = L.length := by omega
            first | refine j_aload_n G dX12_pace_102 rfl ?_ | refine j_aload_nN G dX12_pace_102 rfl ?_
            refine j_getr G fl_X12_74 dX12_pace_103 (by first | assumption | rfl) (by rfl) ?_
            refine j_iload_n G dX12_pace_106 rfl ?_
            refine j_iaload G dX12_pace_107 (by first | assumption | rfl) (by omega) (fun r_107 => ?_)
            try simp (disch := omega) only [up_same, up_cell, up_idx, cpm_at, fil_at] at r_107 ⊢
            rw [h_322]
            refine j_bipush G dX12_pace_108 (by decide) ?_
            refine j_icmp_le G dX12_pace_110 (tgt := 125) (by decide) (by omega) (by omega) (fun c_110 => ?_) (fun c_110 => ?_)
            · refine j_iconst G dX12_pace_125 ?_
              refine j_istore4 G dX12_pace_126 (by decide) rfl ?_
              refine j_iload_n G dX12_pace_128 rfl ?_
              refine j_bipush G dX12_pace_129 (by decide) ?_
              refine j_sipush G dX12_pace_131 (by decide) ?_
              first | refine j_aload_n G dX12_pace_134 rfl ?_ | refine j_aload_nN G dX12_pace_134 rfl ?_
              refine j_getr G fl_X12_83 dX12_pace_135 (by first | assumption | rfl) (by rfl) ?_
              refine j_iconst G dX12_pace_138 ?_
              refine j_iload_n G dX12_pace_139 rfl ?_
              refine j_imul G dX12_pace_140 ?_
              refine j_iload_n G dX12_pace_141 rfl ?_
              refine j_pc (p2 := 142) rfl ?_
              refine j_iadd G dX12_pace_142 ?_
              refine j_iaload G dX12_pace_143 (by first | assumption | rfl) (by omega) (fun r_143 => ?_)
              try simp (disch := omega) only [up_same, up_cell, up_idx, cpm_at, fil_at] at r_143 ⊢
              rw [h_325]
              refine j_iconst G dX12_pace_144 ?_
              refine j_iadd G dX12_pace_145 ?_
              refine j_idiv G dX12_pace_146 (by omega) (by omega) ?_
              refine j_iadd G dX12_pace_147 ?_
              refine j_iload G dX12_pace_148 rfl ?_
              refine j_iadd G dX12_pace_150 ?_
              refine j_imul G dX12_pace_151 ?_
              first
              | (have h_q2 := mul_rg (a := paS (σ (3 + 7 * c)) L L.length) (b := 100 + 300 / (σ (79 + 2 * r) c + 1) + (σ (78 + 2 * r) 0 - 60)) (by omega) (fun _ => by omega)
                 have h_mx : max 0 (σ (78 + 2 * r) 0 - 60) = σ (78 + 2 * r) 0 - 60 := by omega)
              | (have h_q2 := mul_rg (a := paS (σ (3 + 7 * c)) L L.length) (b := 100 + 300 / (σ (79 + 2 * r) c + 1) + 0) (by omega) (fun _ => by omega)
                 have h_mx : max 0 (σ (78 + 2 * r) 0 - 60) = 0 := by omega)
              refine j_bipush G dX12_pace_152 (by decide) ?_
              refine j_idiv G dX12_pace_154 (by omega) (by omega) ?_
              refine j_ireturn G dX12_pace_155 ?_
              exact ⟨_, rfl, by rw [h_mx], h_k4⟩
            · first | refine j_aload_n G dX12_pace_113 rfl ?_ | refine j_aload_nN G dX12_pace_113 rfl ?_
              refine j_getr G fl_X12_74 dX12_pace_114 (by first | assumption | rfl) (by rfl) ?_
              refine j_iload_n G dX12_pace_117 rfl ?_
              refine j_iaload G dX12_pace_118 (by first | assumption | rfl) (by omega) (fun r_118 => ?_)
              try simp (disch := omega) only [up_same, up_cell, up_idx, cpm_at, fil_at] at r_118 ⊢
              rw [h_322]
              refine j_bipush G dX12_pace_119 (by decide) ?_
              refine j_isub G dX12_pace_121 ?_
              refine j_goto G dX12_pace_122 (tgt := 126) (by decide) ?_
              refine j_istore4 G dX12_pace_126 (by decide) rfl ?_
              refine j_iload_n G dX12_pace_128 rfl ?_
              refine j_bipush G dX12_pace_129 (by decide) ?_
              refine j_sipush G dX12_pace_131 (by decide) ?_
              refine j_pc (p2 := 134) rfl ?_
              first | refine j_aload_n G dX12_pace_134 rfl ?_ | refine j_aload_nN G dX12_pace_134 rfl ?_
              refine j_getr G fl_X12_83 dX12_pace_135 (by first | assumption | rfl) (by rfl) ?_
              refine j_iconst G dX12_pace_138 ?_
              refine j_iload_n G dX12_pace_139 rfl ?_
              refine j_imul G dX12_pace_140 ?_
              refine j_iload_n G dX12_pace_141 rfl ?_
              refine j_iadd G dX12_pace_142 ?_
              refine j_iaload G dX12_pace_143 (by first | assumption | rfl) (by omega) (fun r_143 => ?_)
              try simp (disch := omega) only [up_same, up_cell, up_idx, cpm_at, fil_at] at r_143 ⊢
              rw [h_325]
              refine j_iconst G dX12_pace_144 ?_
              refine j_iadd G dX12_pace_145 ?_
              refine j_idiv G dX12_pace_146 (by omega) (by omega) ?_
              refine j_iadd G dX12_pace_147 ?_
              refine j_pc (p2 := 148) rfl ?_
              refine j_iload G dX12_pace_148 rfl ?_
              refine j_iadd G dX12_pace_150 ?_
              refine j_imul G dX12_pace_151 ?_
              first
              | (have h_q2 := mul_rg (a := paS (σ (3 + 7 * c)) L L.length) (b := 100 + 300 / (σ (79 + 2 * r) c + 1) + (σ (78 + 2 * r) 0 - 60)) (by omega) (fun _ => by omega)
                 have h_mx : max 0 (σ (78 + 2 * r) 0 - 60) = σ (78 + 2 * r) 0 - 60 := by omega)
              | (have h_q2 := mul_rg (a := paS (σ (3 + 7 * c)) L L.length) (b := 100 + 300 / (σ (79 + 2 * r) c + 1) + 0) (by omega) (fun _ => by omega)
                 have h_mx : max 0 (σ (78 + 2 * r) 0 - 60) = 0 := by omega)
              refine j_bipush G dX12_pace_152 (by decide) ?_
              refine j_idiv G dX12_pace_154 (by omega) (by omega) ?_
              refine j_ireturn G dX12_pace_155 ?_
              exact ⟨_, rfl, by rw [h_mx], h_k4⟩
          · have h_Li := h_L _ (gd_mem L i (by omega))
            obtain ⟨v, h_v63, h_ve⟩ := nat_of (n := 63) h_Li
            have h_311 : ν3 11 i = v := (h_R.2 i (by omega)).trans h_ve
            refine j_iload_n G dX12_pace_63 rfl ?_
            refine j_bipush G dX12_pace_64 (by decide) ?_
            refine j_iconst G dX12_pace_66 ?_
            first | refine j_aload_n G dX12_pace_67 rfl ?_ | refine j_aload_nN G dX12_pace_67 rfl ?_
            refine j_getr G fl_X12_40 dX12_pace_68 (by first | assumption | rfl) (by rfl) ?_
            refine j_iload G dX12_pace_71 rfl ?_
            refine j_iaload G dX12_pace_73 (by first | assumption | rfl) (by omega) (fun r_73 => ?_)
            try simp (disch := omega) only [up_same, up_cell, up_idx, cpm_at, fil_at] at r_73 ⊢
            rw [h_311]
            refine j_callS G ms_X12_150 dX12_pace_74 (m_ones v (by omega)) rfl rfl (by exact Nat.le_of_ble_eq_true rfl) (by decide) (kI ?_)
            rw [popN_26 (by omega)]
            refine j_imul G dX12_pace_77 ?_
            refine j_iadd G dX12_pace_78 ?_
            refine j_iconst G dX12_pace_79 ?_
            refine j_pc (p2 := 80) rfl ?_
            first | refine j_aload_n G dX12_pace_80 rfl ?_ | refine j_aload_nN G dX12_pace_80 rfl ?_
            refine j_iload_n G dX12_pace_81 rfl ?_
            first | refine j_aload_n G dX12_pace_82 rfl ?_ | refine j_aload_nN G dX12_pace_82 rfl ?_
            refine j_getr G fl_X12_40 dX12_pace_83 (by first | assumption | rfl) (by rfl) ?_
            refine j_iload G dX12_pace_86 rfl ?_
            refine j_iaload G dX12_pace_88 (by first | assumption | rfl) (by omega) (fun r_88 => ?_)
            try simp (disch := omega) only [up_same, up_cell, up_idx, cpm_at, fil_at] at r_88 ⊢
            rw [h_311]
            refine j_callV G mv_X12_277 dX12_pace_89 (m_nearOf (σ (3 + 7 * c)) c v h_c (by omega) (fun l h_l => h_w.1 l (by omega) (by omega)) h_31) (by first | assumption | rfl) (by decide) (by rfl) rfl rfl (by exact Nat.le_of_ble_eq_true rfl) (by decide) (kI ?_)
            refine j_imul G dX12_pace_92 ?_
            refine j_iadd G dX12_pace_93 ?_
            refine j_iadd G dX12_pace_94 ?_
            refine j_istore3 G dX12_pace_95 (by decide) rfl ?_
            refine j_iinc4 G dX12_pace_96 (by decide) rfl rfl ?_
            refine j_pc (p2 := 99) rfl ?_
            refine j_goto G dX12_pace_99 (tgt := 54) (by decide) ?_
            refine j_pc (p2 := 54) rfl ?_
            have h_ss : paS (σ (3 + 7 * c)) L (i + 1) = paS (σ (3 + 7 * c)) L i + (10 + 2 * pop v + 3 * nrS (σ (3 + 7 * c)) v) := by
              show paS (σ (3 + 7 * c)) L i + paG (σ (3 + 7 * c)) (L.getD i 0) = _
              rw [h_ve]
              rfl
            have h_z := ih (by omega)
            rw [h_ss] at h_z
            exact j_weak h_z ⟨rfl, rfl, rfl, rfl, rfl, trivial⟩
        · refine j_bipush G dX12_pace_41 (by decide) ?_
          refine j_ireturn G dX12_pace_43 ?_
          exact ⟨-5, rfl, by rw [if_pos (Decidable.byContradiction c_38)], h_k2⟩
      · refine j_bipush G dX12_pace_26 (by decide) ?_
        refine j_ireturn G dX12_pace_28 ?_
        exact ⟨-3, rfl, by rw [if_pos (by omega)], KM.rf _⟩
    · refine j_iconst G dX12_pace_15 ?_
      refine j_ireturn G dX12_pace_16 ?_
      have := h_rr.1
      omega
theorem m_paceN (r c : Int) (h_1 : (-2147483648 ≤ r ∧ r < 2147483648)) (h_2 : (-2147483648 ≤ c ∧ c < 2147483648)) (h_n : 0 ≤ μ 0 33 ∧ μ 0 33 ≤ 20) (h_N : ¬ ((0 ≤ r ∧ r < μ 0 33) ∧ 0 ≤ c ∧ c ≤ 4)) : CT (EM x) 5 yX12_pace [rf (EM x) 0, iv r, iv c] μ (rI (-1) μ) := by
  refine CT.ofJ (own := RX12) (cc := cX12_pace) (n := 5) (ret := (some .int)) (by decide) rfl cw_X12_pace (by decide) (Nat.le_of_ble_eq_true rfl) (ls := [some (rf (EM x) 0), some (iv r), some (iv c), none, none]) rfl ?_
  intro X G
  first | refine j_aload_n G dX12_pace_0 rfl ?_ | refine j_aload_nN G dX12_pace_0 rfl ?_
  refine j_iload_n G dX12_pace_1 rfl ?_
  refine j_callV G mv_X12_259 dX12_pace_2 (m_isReader r h_1 h_n) (by first | assumption | rfl) (by decide) (by rfl) rfl rfl (by exact Nat.le_of_ble_eq_true rfl) (by decide) (kI ?_)
  refine j_if_eqB G dX12_pace_5 (tgt := 15) (by decide)  (fun c_5 => ?_) (fun c_5 => ?_)
  · refine j_iconst G dX12_pace_15 ?_
    refine j_ireturn G dX12_pace_16 ?_
    exact ⟨rfl, rfl⟩
  · refine j_iload_n G dX12_pace_8 rfl ?_
    refine j_callS G ms_X12_121 dX12_pace_9 (m_isCode c h_2) rfl rfl (by exact Nat.le_of_ble_eq_true rfl) (by decide) (kI ?_)
    refine j_if_neB G dX12_pace_12 (tgt := 17) (by decide)  (fun c_12 => ?_) (fun c_12 => ?_)
    · omega
    · refine j_iconst G dX12_pace_15 ?_
      refine j_ireturn G dX12_pace_16 ?_
      exact ⟨rfl, rfl⟩
theorem op_pace (r c : Int) (h_1 : (-2147483648 ≤ r ∧ r < 2147483648)) (h_2 : (-2147483648 ≤ c ∧ c < 2147483648)) : OP x1 x2 yX11_pace yX12_pace [iv r, iv c] := by
  refine OP.same (fun σ μ hw hr => ?_)
  obtain ⟨w1, w2, w3, w4, w5, w6, w7, w8⟩ := id hw
  obtain ⟨r1, r2, r3, r4, r5, r6, r7, r8⟩ := id hr
  have h_20 := w5.1
  have h_33 := r5.1
  by_cases h_r : 0 ≤ r ∧ r < σ 0 8
  · obtain ⟨rr, h_r20, rfl⟩ := nat_of (z := r) (n := 20) (by omega)
    by_cases h_c : 0 ≤ c ∧ c ≤ 4
    · obtain ⟨cc, h_c4, rfl⟩ := nat_of (n := 4) h_c
      obtain ⟨n, h_n10, h_n⟩ := nat_of (n := 10) w2.1
      exact ⟨_, _, _, by decide, by decide, c_pace rr cc n h_r.2 h_20.2 (by omega) (w1 cc (by omega)) w2 w5 h_n, m_pace rr cc n h_r.2 h_20.2 (by omega) (w1 cc (by omega)) (r1 cc (by omega)) w2 r2 w5 r5 h_n⟩
    · exact ⟨_, _, _, by decide, by decide, rI_P (c_paceN2 rr c h_r.2 h_20.2 h_2 h_c) ⟨rfl, KC.rf _⟩, rI_P (m_paceN rr c h_1 h_2 (by omega) (by omega)) ⟨rfl, KM.rf _⟩⟩
  · exact ⟨_, _, _, by decide, by decide, rI_P (c_paceN r c h_1 h_2 h_r h_20) ⟨rfl, KC.rf _⟩, rI_P (m_paceN r c h_1 h_2 (by omega) (by omega)) ⟨rfl, KM.rf _⟩⟩
end PC
