section RM3
variable {E : EE} {x x1 x2 : CX} {μ σ : MemT}
def rmS (σ : MemT) (b c n : Nat) (what : Int) : Int := if prB (fun w => σ (61 + b) w) (wgW σ c) n then (if what = 0 then ceB (fun w => σ (61 + b) w) (wgW σ c) n else if what = 1 then poB (fun w => σ (61 + b) w) (wgW σ c) n else (ceB (fun w => σ (61 + b) w) (wgW σ c) n + 199) / 200) else -5
theorem c_room (b c n : Nat) (what : Int) (h_b : b < 8) (h_c : c < 5) (h_wh : 0 ≤ what ∧ what ≤ 2) (h_n : σ 57 3 = n) (h_w : WfCode σ c) (h_ww : WfWord σ) : CT (EC x) 4 yX11_room [rf (EC x) 0, iv b, iv c, iv what] σ (rP (fun z τ => z = rmS σ b c n what ∧ KC σ τ)) := by
  obtain ⟨h_w1, h_w2, h_w3, h_w4⟩ := id h_ww
  unfold rmS
  refine CT.ofJ (own := RX11) (cc := cX11_room) (n := 5) (ret := (some .int)) (by decide) rfl cw_X11_room (by decide) (Nat.le_of_ble_eq_true rfl) (ls := [some (rf (EC x) 0), some (iv b), some (iv c), some (iv what), none]) rfl ?_
  intro X G
  first | refine j_aload_n G dX11_room_0 rfl ?_ | refine j_aload_nN G dX11_room_0 rfl ?_
  refine j_iload_n G dX11_room_1 rfl ?_
  refine j_callV G mv_X11_88 dX11_room_2 (c_codeAt c h_c) (by first | assumption | rfl) (by decide) (by rfl) rfl rfl (by exact Nat.le_of_ble_eq_true rfl) (by decide) (kV ?_)
  first | refine j_astore4 G dX11_room_5 (by decide) rfl ?_ | refine j_astoreN4 G dX11_room_5 (by decide) rfl ?_
  first | refine j_aload G dX11_room_7 rfl ?_ | refine j_aloadN G dX11_room_7 rfl ?_
  refine j_ifnull G dX11_room_9 ?_
  refine j_iload_n G dX11_room_12 rfl ?_
  refine j_iconst G dX11_room_13 ?_
  refine j_bipush G dX11_room_14 (by decide) ?_
  refine j_callS G ms_X11_92 dX11_room_16 (x_within _ _ _ (by omega) (by omega) (by omega)) rfl rfl (by exact Nat.le_of_ble_eq_true rfl) (by decide) (kI ?_)
  refine j_if_neB G dX11_room_19 (tgt := 24) (by decide)  (fun c_19 => ?_) (fun c_19 => ?_)
  · refine j_iload_n G dX11_room_24 rfl ?_
    refine j_iconst G dX11_room_25 ?_
    refine j_iconst G dX11_room_26 ?_
    refine j_callS G ms_X11_92 dX11_room_27 (x_within _ _ _ (by omega) (by omega) (by omega)) rfl rfl (by exact Nat.le_of_ble_eq_true rfl) (by decide) (kI ?_)
    refine j_if_neB G dX11_room_30 (tgt := 36) (by decide)  (fun c_30 => ?_) (fun c_30 => ?_)
    · first | refine j_aload_n G dX11_room_36 rfl ?_ | refine j_aload_nN G dX11_room_36 rfl ?_
      refine j_getr G fl_X11_50 dX11_room_37 (by first | assumption | rfl) (by rfl) ?_
      first | refine j_aload G dX11_room_40 rfl ?_ | refine j_aloadN G dX11_room_40 rfl ?_
      refine j_callV G mv_X11_171 dX11_room_42 (c_weighWords c n h_c h_w h_ww h_n) (by first | assumption | rfl) (by decide) (by rfl) rfl rfl (by exact Nat.le_of_ble_eq_true rfl) (by decide) (kM (fun τ h_t => ?_))
      obtain ⟨h_t1, h_t2⟩ := h_t
      have h_kc : KC σ τ := h_t1.wk (fun j h => by unfold scC; omega)
      have h_tn : τ 57 3 = n := by rw [h_t1 57 (by omega)]; exact h_n
      have h_cn : ∀ w : Nat, w < n → τ (61 + b) w = (fun w : Nat => σ (61 + b) w) w := fun w h => by rw [h_t1 (61 + b) (by omega)]
      have h_gv : ∀ w, w < n → ∃ m, m ≤ 10 ∧ wv m (wgW σ c w) := fun w h => ⟨_, (wg_v h_w h_ww w (by omega)).2, (wg_v h_w h_ww w (by omega)).1⟩
      have h_ca : ∀ w : Nat, w < n → 0 ≤ (fun w : Nat => σ (61 + b) w) w ∧ (fun w : Nat => σ (61 + b) w) w ≤ 1000 := fun w h => h_w4 b h_b w (by omega) (by omega)
      have h_gg : ∀ w : Nat, w < n → τ 69 w = wgW σ c w ∧ wgW σ c w ≤ 268435456 := fun w h => by
        obtain ⟨m, h_1, h_2⟩ := h_gv w h
        have := wv_rg h_2 h_1
        exact ⟨h_t2 w h, by omega⟩
      generalize (fun w : Nat => σ (61 + b) w) = cn at h_cn h_ca ⊢
      generalize wgW σ c = g at h_gv h_gg ⊢
      first | refine j_aload_n G dX11_room_45 rfl ?_ | refine j_aload_nN G dX11_room_45 rfl ?_
      refine j_getr G fl_X11_50 dX11_room_46 (by first | assumption | rfl) (by rfl) ?_
      refine j_iload_n G dX11_room_49 rfl ?_
      refine j_callV G mv_X11_174 dX11_room_50 (c_canPrint b n cn g h_b h_tn (by omega) h_cn h_gg) (by first | assumption | rfl) (by decide) (by rfl) rfl rfl (by exact Nat.le_of_ble_eq_true rfl) (by decide) (kI ?_)
      refine j_if_neB G dX11_room_53 (tgt := 59) (by decide)  (fun c_53 => ?_) (fun c_53 => ?_)
      · rw [if_pos c_53]
        have h_bk := bko_of (Nat.le_refl n) h_ca h_gv (prB_iff.1 c_53)
        refine j_iload_n G dX11_room_59 rfl ?_
        refine j_if_ne G dX11_room_60 (tgt := 72) (by decide) (by omega) (fun c_60 => ?_) (fun c_60 => ?_)
        · refine j_iload_n G dX11_room_72 rfl ?_
          refine j_iconst G dX11_room_73 ?_
          refine j_icmp_ne G dX11_room_74 (tgt := 88) (by decide) (by omega) (by omega) (fun c_74 => ?_) (fun c_74 => ?_)
          · first | refine j_aload_n G dX11_room_88 rfl ?_ | refine j_aload_nN G dX11_room_88 rfl ?_
            refine j_getr G fl_X11_50 dX11_room_89 (by first | assumption | rfl) (by rfl) ?_
            refine j_iload_n G dX11_room_92 rfl ?_
            refine j_callV G mv_X11_184 dX11_room_93 (c_pagesOf b n cn g h_b h_tn (by omega) h_cn (fun w h => (h_gg w h).1) h_bk) (by first | assumption | rfl) (by decide) (by rfl) rfl rfl (by exact Nat.le_of_ble_eq_true rfl) (by decide) (kI ?_)
            refine j_ireturn G dX11_room_96 ?_
            first
            | exact ⟨_, rfl, by rw [if_pos (by omega)], h_kc⟩
            | exact ⟨_, rfl, by rw [if_neg (by omega), if_pos (by omega)], h_kc⟩
            | exact ⟨_, rfl, by rw [if_neg (by omega), if_neg (by omega)], h_kc⟩
          · first | refine j_aload_n G dX11_room_77 rfl ?_ | refine j_aload_nN G dX11_room_77 rfl ?_
            refine j_getr G fl_X11_50 dX11_room_78 (by first | assumption | rfl) (by rfl) ?_
            refine j_iload_n G dX11_room_81 rfl ?_
            refine j_callV G mv_X11_181 dX11_room_82 (c_pointsOfB b n cn g h_b h_tn (by omega) h_cn (fun w h => (h_gg w h).1) h_bk) (by first | assumption | rfl) (by decide) (by rfl) rfl rfl (by exact Nat.le_of_ble_eq_true rfl) (by decide) (kI ?_)
            refine j_goto G dX11_room_85 (tgt := 96) (by decide) ?_
            refine j_ireturn G dX11_room_96 ?_
            first
            | exact ⟨_, rfl, by rw [if_pos (by omega)], h_kc⟩
            | exact ⟨_, rfl, by rw [if_neg (by omega), if_pos (by omega)], h_kc⟩
            | exact ⟨_, rfl, by rw [if_neg (by omega), if_neg (by omega)], h_kc⟩
        · first | refine j_aload_n G dX11_room_63 rfl ?_ | refine j_aload_nN G dX11_room_63 rfl ?_
          refine j_getr G fl_X11_50 dX11_room_64 (by first | assumption | rfl) (by rfl) ?_
          refine j_iload_n G dX11_room_67 rfl ?_
          refine j_callV G mv_X11_178 dX11_room_68 (c_cellsOfB b n cn g h_b h_tn (by omega) h_cn (fun w h => (h_gg w h).1) h_bk) (by first | assumption | rfl) (by decide) (by rfl) rfl rfl (by exact Nat.le_of_ble_eq_true rfl) (by decide) (kI ?_)
          refine j_ireturn G dX11_room_71 ?_
          first
          | exact ⟨_, rfl, by rw [if_pos (by omega)], h_kc⟩
          | exact ⟨_, rfl, by rw [if_neg (by omega), if_pos (by omega)], h_kc⟩
          | exact ⟨_, rfl, by rw [if_neg (by omega), if_neg (by omega)], h_kc⟩
      · refine j_bipush G dX11_room_56 (by decide) ?_
        refine j_ireturn G dX11_room_58 ?_
        exact ⟨-5, rfl, by rw [if_neg c_53], h_kc⟩
    · refine j_bipush G dX11_room_33 (by decide) ?_
      refine j_ireturn G dX11_room_35 ?_
      omega
  · refine j_iconst G dX11_room_22 ?_
    refine j_ireturn G dX11_room_23 ?_
    omega
theorem c_roomN1 (b what : Int) (c : Nat) (h_c : c < 5) (h_1 : (-2147483648 ≤ b ∧ b < 2147483648)) (h_3 : (-2147483648 ≤ what ∧ what < 2147483648)) (h_N : ¬ (0 ≤ b ∧ b ≤ 7)) : CT (EC x) 4 yX11_room [rf (EC x) 0, iv b, iv c, iv what] σ (rI (-1) σ) := by
  refine CT.ofJ (own := RX11) (cc := cX11_room) (n := 5) (ret := (some .int)) (by decide) rfl cw_X11_room (by decide) (Nat.le_of_ble_eq_true rfl) (ls := [some (rf (EC x) 0), some (iv b), some (iv c), some (iv what), none]) rfl ?_
  intro X G
  first | refine j_aload_n G dX11_room_0 rfl ?_ | refine j_aload_nN G dX11_room_0 rfl ?_
  refine j_iload_n G dX11_room_1 rfl ?_
  refine j_callV G mv_X11_88 dX11_room_2 (c_codeAt c h_c) (by first | assumption | rfl) (by decide) (by rfl) rfl rfl (by exact Nat.le_of_ble_eq_true rfl) (by decide) (kV ?_)
  first | refine j_astore4 G dX11_room_5 (by decide) rfl ?_ | refine j_astoreN4 G dX11_room_5 (by decide) rfl ?_
  first | refine j_aload G dX11_room_7 rfl ?_ | refine j_aloadN G dX11_room_7 rfl ?_
  refine j_ifnull G dX11_room_9 ?_
  refine j_iload_n G dX11_room_12 rfl ?_
  refine j_iconst G dX11_room_13 ?_
  refine j_bipush G dX11_room_14 (by decide) ?_
  refine j_callS G ms_X11_92 dX11_room_16 (x_within _ _ _ (by omega) (by omega) (by omega)) rfl rfl (by exact Nat.le_of_ble_eq_true rfl) (by decide) (kI ?_)
  refine j_if_neB G dX11_room_19 (tgt := 24) (by decide)  (fun c_19 => ?_) (fun c_19 => ?_)
  · omega
  · refine j_iconst G dX11_room_22 ?_
    refine j_ireturn G dX11_room_23 ?_
    exact ⟨rfl, rfl⟩
theorem c_roomN2 (b c what : Int) (h_2 : (-2147483648 ≤ c ∧ c < 2147483648)) (h_c : ¬ (0 ≤ c ∧ c ≤ 4)) : CT (EC x) 4 yX11_room [rf (EC x) 0, iv b, iv c, iv what] σ (rI (-1) σ) := by
  refine CT.ofJ (own := RX11) (cc := cX11_room) (n := 5) (ret := (some .int)) (by decide) rfl cw_X11_room (by decide) (Nat.le_of_ble_eq_true rfl) (ls := [some (rf (EC x) 0), some (iv b), some (iv c), some (iv what), none]) rfl ?_
  intro X G
  first | refine j_aload_n G dX11_room_0 rfl ?_ | refine j_aload_nN G dX11_room_0 rfl ?_
  refine j_iload_n G dX11_room_1 rfl ?_
  refine j_callV G mv_X11_88 dX11_room_2 (c_codeAtN c h_2 h_c) (by first | assumption | rfl) (by decide) (by rfl) rfl rfl (by exact Nat.le_of_ble_eq_true rfl) (by decide) (kV ?_)
  first | refine j_astore4 G dX11_room_5 (by decide) rfl ?_ | refine j_astoreN4 G dX11_room_5 (by decide) rfl ?_
  first | refine j_aload G dX11_room_7 rfl ?_ | refine j_aloadN G dX11_room_7 rfl ?_
  refine j_ifnullN G dX11_room_9 (tgt := 22) (by decide) ?_
  refine j_iconst G dX11_room_22 ?_
  refine j_ireturn G dX11_room_23 ?_
  exact ⟨rfl, rfl⟩
theorem c_roomN (b c what : Int) (h_1 : (-2147483648 ≤ b ∧ b < 2147483648)) (h_2 : (-2147483648 ≤ c ∧ c < 2147483648)) (h_3 : (-2147483648 ≤ what ∧ what < 2147483648)) (h_N : ¬ ((0 ≤ c ∧ c ≤ 4) ∧ 0 ≤ b ∧ b ≤ 7)) : CT (EC x) 4 yX11_room [rf (EC x) 0, iv b, iv c, iv what] σ (rI (-1) σ) := by
  by_cases h_c : 0 ≤ c ∧ c ≤ 4
  · obtain ⟨cc, h_c4, rfl⟩ := nat_of (n := 4) h_c
    exact c_roomN1 b what cc (by omega) h_1 h_3 (by omega)
  · exact c_roomN2 b c what h_2 h_c
theorem c_roomO (b c : Nat) (what : Int) (h_b : b < 8) (h_c : c < 5) (h_3 : (-2147483648 ≤ what ∧ what < 2147483648)) (h_N : ¬ (0 ≤ what ∧ what ≤ 2)) : CT (EC x) 4 yX11_room [rf (EC x) 0, iv b, iv c, iv what] σ (rI (-2) σ) := by
  refine CT.ofJ (own := RX11) (cc := cX11_room) (n := 5) (ret := (some .int)) (by decide) rfl cw_X11_room (by decide) (Nat.le_of_ble_eq_true rfl) (ls := [some (rf (EC x) 0), some (iv b), some (iv c), some (iv what), none]) rfl ?_
  intro X G
  first | refine j_aload_n G dX11_room_0 rfl ?_ | refine j_aload_nN G dX11_room_0 rfl ?_
  refine j_iload_n G dX11_room_1 rfl ?_
  refine j_callV G mv_X11_88 dX11_room_2 (c_codeAt c h_c) (by first | assumption | rfl) (by decide) (by rfl) rfl rfl (by exact Nat.le_of_ble_eq_true rfl) (by decide) (kV ?_)
  first | refine j_astore4 G dX11_room_5 (by decide) rfl ?_ | refine j_astoreN4 G dX11_room_5 (by decide) rfl ?_
  first | refine j_aload G dX11_room_7 rfl ?_ | refine j_aloadN G dX11_room_7 rfl ?_
  refine j_ifnull G dX11_room_9 ?_
  refine j_iload_n G dX11_room_12 rfl ?_
  refine j_iconst G dX11_room_13 ?_
  refine j_bipush G dX11_room_14 (by decide) ?_
  refine j_callS G ms_X11_92 dX11_room_16 (x_within _ _ _ (by omega) (by omega) (by omega)) rfl rfl (by exact Nat.le_of_ble_eq_true rfl) (by decide) (kI ?_)
  refine j_if_neB G dX11_room_19 (tgt := 24) (by decide)  (fun c_19 => ?_) (fun c_19 => ?_)
  · refine j_iload_n G dX11_room_24 rfl ?_
    refine j_iconst G dX11_room_25 ?_
    refine j_iconst G dX11_room_26 ?_
    refine j_callS G ms_X11_92 dX11_room_27 (x_within _ _ _ (by omega) (by omega) (by omega)) rfl rfl (by exact Nat.le_of_ble_eq_true rfl) (by decide) (kI ?_)
    refine j_if_neB G dX11_room_30 (tgt := 36) (by decide)  (fun c_30 => ?_) (fun c_30 => ?_)
    · omega
    · refine j_bipush G dX11_room_33 (by decide) ?_
      refine j_ireturn G dX11_room_35 ?_
      exact ⟨rfl, rfl⟩
  · omega
theorem m_room (b c n : Nat) (what : Int) (h_b : b < 8) (h_c : c < 5) (h_wh : 0 ≤ what ∧ what ≤ 2) (h_n : σ 57 3 = n) (h_w : WfCode σ c) (h_r : ReCode σ μ c) (h_ww : WfWord σ) (h_rw : ReWord σ μ) : CT (EM x) 5 yX12_room [rf (EM x) 0, iv b, iv c, iv what] μ (rP (fun z ν => z = rmS σ b c n what ∧ KM μ ν)) := by
  obtain ⟨h_w1, h_w2, h_w3, h_w4⟩ := id h_ww
  have h_gv : ∀ w, w < n → ∃ m, m ≤ 10 ∧ wv m (wgW σ c w) := fun w h => ⟨_, (wg_v h_w h_ww w (by omega)).2, (wg_v h_w h_ww w (by omega)).1⟩
  have h_ca : ∀ w : Nat, w < n → 0 ≤ (fun w : Nat => σ (61 + b) w) w ∧ (fun w : Nat => σ (61 + b) w) w ≤ 1000 := fun w h => h_w4 b h_b w (by omega) (by omega)
  have h_fr := m_findRoom (x := x) b c n h_b h_c h_n h_w h_r h_ww h_rw
  unfold rmS
  generalize (fun w : Nat => σ (61 + b) w) = cn at h_ca h_fr ⊢
  generalize wgW σ c = g at h_gv h_fr ⊢
  refine CT.ofJ (own := RX12) (cc := cX12_room) (n := 4) (ret := (some .int)) (by decide) rfl cw_X12_room (by decide) (Nat.le_of_ble_eq_true rfl) (ls := [some (rf (EM x) 0), some (iv b), some (iv c), some (iv what)]) rfl ?_
  intro X G
  refine j_iload_n G dX12_room_0 rfl ?_
  refine j_callS G ms_X12_218 dX12_room_1 (m_isBook b (by omega)) rfl rfl (by exact Nat.le_of_ble_eq_true rfl) (by decide) (kI ?_)
  refine j_if_eqB G dX12_room_4 (tgt := 14) (by decide)  (fun c_4 => ?_) (fun c_4 => ?_)
  · refine j_iconst G dX12_room_14 ?_
    refine j_ireturn G dX12_room_15 ?_
    omega
  · refine j_iload_n G dX12_room_7 rfl ?_
    refine j_callS G ms_X12_121 dX12_room_8 (m_isCode c (by omega)) rfl rfl (by exact Nat.le_of_ble_eq_true rfl) (by decide) (kI ?_)
    refine j_if_neB G dX12_room_11 (tgt := 16) (by decide)  (fun c_11 => ?_) (fun c_11 => ?_)
    · refine j_iload_n G dX12_room_16 rfl ?_
      refine j_i2l G (by omega) dX12_room_17 ?_
      refine j_lconstI G 0 dX12_room_18 (by decide) ?_
      refine j_ldc2I G (2) kl_X12_140 dX12_room_19 (by decide) ?_
      refine j_callS G ms_X12_115 dX12_room_22 (m_in _ _ _ (by omega) (by omega) (by omega)) rfl rfl (by exact Nat.le_of_ble_eq_true rfl) (by decide) (kI ?_)
      refine j_if_neB G dX12_room_25 (tgt := 31) (by decide)  (fun c_25 => ?_) (fun c_25 => ?_)
      · first | refine j_aload_n G dX12_room_31 rfl ?_ | refine j_aload_nN G dX12_room_31 rfl ?_
        refine j_iload_n G dX12_room_32 rfl ?_
        refine j_iload_n G dX12_room_33 rfl ?_
        refine j_callV G mv_X12_232 dX12_room_34 (h_fr) (by first | assumption | rfl) (by decide) (by rfl) rfl rfl (by exact Nat.le_of_ble_eq_true rfl) (by decide) (kP (fun y ν h_y => ?_))
        obtain ⟨rfl, h_k, h_s⟩ := h_y
        refine j_if_neB G dX12_room_37 (tgt := 43) (by decide)  (fun c_37 => ?_) (fun c_37 => ?_)
        · rw [if_pos c_37]
          obtain ⟨h_s1, h_s2⟩ := h_s c_37
          have h_bk := bko_of (Nat.le_refl n) h_ca h_gv (prB_iff.1 c_37)
          have h_cr := ceB_rg h_bk (by omega) n (Nat.le_refl _)
          refine j_iload_n G dX12_room_43 rfl ?_
          refine j_if_ne G dX12_room_44 (tgt := 54) (by decide) (by omega) (fun c_44 => ?_) (fun c_44 => ?_)
          · refine j_iload_n G dX12_room_54 rfl ?_
            refine j_iconst G dX12_room_55 ?_
            refine j_icmp_ne G dX12_room_56 (tgt := 66) (by decide) (by omega) (by omega) (fun c_56 => ?_) (fun c_56 => ?_)
            · first | refine j_aload_n G dX12_room_66 rfl ?_ | refine j_aload_nN G dX12_room_66 rfl ?_
              refine j_geti G fl_X12_223 dX12_room_67 24 rfl (by first | assumption | rfl) (by rfl) (fun r_67 => ?_)
              try simp (disch := omega) only [up_same, up_cell, up_idx, cpm_at, fil_at] at r_67 ⊢
              rw [h_s1]
              refine j_sipush G dX12_room_70 (by decide) ?_
              refine j_iadd G dX12_room_73 ?_
              refine j_sipush G dX12_room_74 (by decide) ?_
              refine j_idiv G dX12_room_77 (by omega) (by omega) ?_
              refine j_ireturn G dX12_room_78 ?_
              first
              | exact ⟨_, rfl, by rw [if_pos (by omega)], h_k⟩
              | exact ⟨_, rfl, by rw [if_neg (by omega), if_pos (by omega)], h_k⟩
              | exact ⟨_, rfl, by rw [if_neg (by omega), if_neg (by omega)], h_k⟩
            · first | refine j_aload_n G dX12_room_59 rfl ?_ | refine j_aload_nN G dX12_room_59 rfl ?_
              refine j_geti G fl_X12_226 dX12_room_60 25 rfl (by first | assumption | rfl) (by rfl) (fun r_60 => ?_)
              try simp (disch := omega) only [up_same, up_cell, up_idx, cpm_at, fil_at] at r_60 ⊢
              rw [h_s2]
              refine j_goto G dX12_room_63 (tgt := 78) (by decide) ?_
              refine j_ireturn G dX12_room_78 ?_
              first
              | exact ⟨_, rfl, by rw [if_pos (by omega)], h_k⟩
              | exact ⟨_, rfl, by rw [if_neg (by omega), if_pos (by omega)], h_k⟩
              | exact ⟨_, rfl, by rw [if_neg (by omega), if_neg (by omega)], h_k⟩
          · first | refine j_aload_n G dX12_room_47 rfl ?_ | refine j_aload_nN G dX12_room_47 rfl ?_
            refine j_geti G fl_X12_223 dX12_room_48 24 rfl (by first | assumption | rfl) (by rfl) (fun r_48 => ?_)
            try simp (disch := omega) only [up_same, up_cell, up_idx, cpm_at, fil_at] at r_48 ⊢
            rw [h_s1]
            refine j_goto G dX12_room_51 (tgt := 78) (by decide) ?_
            refine j_ireturn G dX12_room_78 ?_
            first
            | exact ⟨_, rfl, by rw [if_pos (by omega)], h_k⟩
            | exact ⟨_, rfl, by rw [if_neg (by omega), if_pos (by omega)], h_k⟩
            | exact ⟨_, rfl, by rw [if_neg (by omega), if_neg (by omega)], h_k⟩
        · refine j_bipush G dX12_room_40 (by decide) ?_
          refine j_ireturn G dX12_room_42 ?_
          exact ⟨-5, rfl, by rw [if_neg c_37], h_k⟩
      · refine j_bipush G dX12_room_28 (by decide) ?_
        refine j_ireturn G dX12_room_30 ?_
        omega
    · refine j_iconst G dX12_room_14 ?_
      refine j_ireturn G dX12_room_15 ?_
      omega
theorem m_roomN (b c what : Int) (h_1 : (-2147483648 ≤ b ∧ b < 2147483648)) (h_2 : (-2147483648 ≤ c ∧ c < 2147483648)) (h_3 : (-2147483648 ≤ what ∧ what < 2147483648)) (h_N : ¬ ((0 ≤ c ∧ c ≤ 4) ∧ 0 ≤ b ∧ b ≤ 7)) : CT (EM x) 5 yX12_room [rf (EM x) 0, iv b, iv c, iv what] μ (rI (-1) μ) := by
  refine CT.ofJ (own := RX12) (cc := cX12_room) (n := 4) (ret := (some .int)) (by decide) rfl cw_X12_room (by decide) (Nat.le_of_ble_eq_true rfl) (ls := [some (rf (EM x) 0), some (iv b), some (iv c), some (iv what)]) rfl ?_
  intro X G
  refine j_iload_n G dX12_room_0 rfl ?_
  refine j_callS G ms_X12_218 dX12_room_1 (m_isBook b h_1) rfl rfl (by exact Nat.le_of_ble_eq_true rfl) (by decide) (kI ?_)
  refine j_if_eqB G dX12_room_4 (tgt := 14) (by decide)  (fun c_4 => ?_) (fun c_4 => ?_)
  · refine j_iconst G dX12_room_14 ?_
    refine j_ireturn G dX12_room_15 ?_
    exact ⟨rfl, rfl⟩
  · refine j_iload_n G dX12_room_7 rfl ?_
    refine j_callS G ms_X12_121 dX12_room_8 (m_isCode c h_2) rfl rfl (by exact Nat.le_of_ble_eq_true rfl) (by decide) (kI ?_)
    refine j_if_neB G dX12_room_11 (tgt := 16) (by decide)  (fun c_11 => ?_) (fun c_11 => ?_)
    · omega
    · refine j_iconst G dX12_room_14 ?_
      refine j_ireturn G dX12_room_15 ?_
      exact ⟨rfl, rfl⟩
theorem m_roomO (b c : Nat) (what : Int) (h_b : b < 8) (h_c : c < 5) (h_3 : (-2147483648 ≤ what ∧ what < 2147483648)) (h_N : ¬ (0 ≤ what ∧ what ≤ 2)) : CT (EM x) 5 yX12_room [rf (EM x) 0, iv b, iv c, iv what] μ (rI (-2) μ) := by
  refine CT.ofJ (own := RX12) (cc := cX12_room) (n := 4) (ret := (some .int)) (by decide) rfl cw_X12_room (by decide) (Nat.le_of_ble_eq_true rfl) (ls := [some (rf (EM x) 0), some (iv b), some (iv c), some (iv what)]) rfl ?_
  intro X G
  refine j_iload_n G dX12_room_0 rfl ?_
  refine j_callS G ms_X12_218 dX12_room_1 (m_isBook b (by omega)) rfl rfl (by exact Nat.le_of_ble_eq_true rfl) (by decide) (kI ?_)
  refine j_if_eqB G dX12_room_4 (tgt := 14) (by decide)  (fun c_4 => ?_) (fun c_4 => ?_)
  · refine j_iconst G dX12_room_14 ?_
    refine j_ireturn G dX12_room_15 ?_
    omega
  · refine j_iload_n G dX12_room_7 rfl ?_
    refine j_callS G ms_X12_121 dX12_room_8 (m_isCode c (by omega)) rfl rfl (by exact Nat.le_of_ble_eq_true rfl) (by decide) (kI ?_)
    refine j_if_neB G dX12_room_11 (tgt := 16) (by decide)  (fun c_11 => ?_) (fun c_11 => ?_)
    · refine j_iload_n G dX12_room_16 rfl ?_
      refine j_i2l G (by omega) dX12_room_17 ?_
      refine j_lconstI G 0 dX12_room_18 (by decide) ?_
      refine j_ldc2I G (2) kl_X12_140 dX12_room_19 (by decide) ?_
      refine j_callS G ms_X12_115 dX12_room_22 (m_in _ _ _ (by omega) (by omega) (by omega)) rfl rfl (by exact Nat.le_of_ble_eq_true rfl) (by decide) (kI ?_)
      refine j_if_neB G dX12_room_25 (tgt := 31) (by decide)  (fun c_25 => ?_) (fun c_25 => ?_)
      · omega
      · refine j_bipush G dX12_room_28 (by decide) ?_
        refine j_ireturn G dX12_room_30 ?_
        exact ⟨rfl, rfl⟩
    · refine j_iconst G dX12_room_14 ?_
      refine j_ireturn G dX12_room_15 ?_
      omega
theorem op_room (b c what : Int) (h_1 : (-2147483648 ≤ b ∧ b < 2147483648)) (h_2 : (-2147483648 ≤ c ∧ c < 2147483648)) (h_3 : (-2147483648 ≤ what ∧ what < 2147483648)) : OP x1 x2 yX11_room yX12_room [iv b, iv c, iv what] := by
  refine OP.same (fun σ μ hw hr => ?_)
  obtain ⟨w1, w2, w3, w4, w5, w6, w7, w8⟩ := id hw
  obtain ⟨r1, r2, r3, r4, r5, r6, r7, r8⟩ := id hr
  by_cases h_N : (0 ≤ c ∧ c ≤ 4) ∧ 0 ≤ b ∧ b ≤ 7
  · obtain ⟨cc, h_c4, rfl⟩ := nat_of (n := 4) h_N.1
    obtain ⟨bb, h_b7, rfl⟩ := nat_of (n := 7) h_N.2
    by_cases h_wh : 0 ≤ what ∧ what ≤ 2
    · obtain ⟨n, h_n30, h_n⟩ := nat_of (n := 30) w3.2.1
      exact ⟨_, _, _, by decide, by decide, c_room bb cc n what (by omega) (by omega) h_wh h_n (w1 cc (by omega)) w3, m_room bb cc n what (by omega) (by omega) h_wh h_n (w1 cc (by omega)) (r1 cc (by omega)) w3 r3⟩
    · exact ⟨_, _, _, by decide, by decide, rI_P (c_roomO bb cc what (by omega) (by omega) h_3 h_wh) ⟨rfl, KC.rf _⟩, rI_P (m_roomO bb cc what (by omega) (by omega) h_3 h_wh) ⟨rfl, KM.rf _⟩⟩
  · exact ⟨_, _, _, by decide, by decide, rI_P (c_roomN b c what h_1 h_2 h_3 h_N) ⟨rfl, KC.rf _⟩, rI_P (m_roomN b c what h_1 h_2 h_3 h_N) ⟨rfl, KM.rf _⟩⟩
end RM3
