theorem mxD_qr {σ : MemT} {n : Nat} (h_20 : n ≤ 20) (h_wc : ∀ c, c < 5 → WfCode σ c) : QR (mxD σ n) := fun p c h_p h_c => ⟨bN_lt (P := fun l : Nat => σ 195 l) (C := fun l : Nat => σ (3 + 7 * c) l) (p := (p : Int)) (fun l h_l => ((h_wc c h_c).1 l (by omega) (by omega)).2) 26 (Nat.le_refl _), anS_rg σ h_20 _ _, eP_bN (P := fun l : Nat => σ 195 l) (C := fun l : Nat => σ (3 + 7 * c) l) (p := (p : Int))⟩
def beS (σ : MemT) (n : Nat) : Int := (FR (mxD σ n) 7 0 0 0 (268435456, -5)).2
section BV
variable {E : EE} {x x1 x2 : CX} {μ σ : MemT}
theorem c_findBest (τ : MemT) (n : Nat) (h_20 : n ≤ 20) (h_o : Ons (fun j => j = 196 ∨ j = 198 ∨ j = 199) σ τ) (h_ow : ∀ c : Nat, c < 5 → τ 196 c = onS σ n c) (h_wc : ∀ c, c < 5 → WfCode σ c) (h_wp : WfPart σ) : CT (EC x) 8 yX4_findBest [rf (EC x) 194] τ (rP (fun z τ2 => z = beS σ n ∧ KC σ τ2)) := by
  have h_qr := mxD_qr (n := n) h_20 h_wc
  refine CT.ofJ (own := RX4) (cc := cX4_findBest) (n := 3) (ret := (some .int)) (by decide) rfl cw_X4_findBest (by decide) (Nat.le_of_ble_eq_true rfl) (ls := [some (rf (EC x) 194), none, none]) rfl ?_
  intro X G
  refine j_iconst G dX4_findBest_0 ?_
  refine j_istore1 G dX4_findBest_1 (by decide) rfl ?_
  refine j_pc (p2 := 2) rfl ?_
  refine j_weak (ls' := [some (rf (EC x) 194), some (iv ((0 : Nat) : Int)), none]) ?_ ⟨rfl, rfl, trivial⟩
  refine down (Pr := fun p => ∀ τ : MemT, Ons (fun j => j = 196 ∨ j = 198 ∨ j = 199) σ τ → (∀ c : Nat, c < 5 → τ 196 c = onS σ n c) → (∀ a c : Nat, a < p → c < 5 → τ 198 (5 * (a : Int) + c) = (lgN ((mxD σ n).2.1 a c)).toInt ∧ τ 199 (5 * (a : Int) + c) = (mxD σ n).1 a c) → JJ (EC x) X 8 (rP (fun z τ2 => z = beS σ n ∧ KC σ τ2)) 3 2 [some (rf (EC x) 194), some (iv p), none] [] τ) 7 ?_ 0 (Nat.zero_le _) τ h_o h_ow (fun a c h_a => by omega)
  intro p h_p ih τ h_o h_ow h_b
  refine j_iload_n G dX4_findBest_2 rfl ?_
  refine j_bipush G dX4_findBest_3 (by decide) ?_
  refine j_icmp_ge G dX4_findBest_5 (tgt := 33) (by decide) (by omega) (by omega) (fun c_5 => ?_) (fun c_5 => ?_)
  · obtain rfl : p = 7 := by omega
    first | refine j_aload_n G dX4_findBest_33 rfl ?_ | refine j_aload_nN G dX4_findBest_33 rfl ?_
    refine j_callV G mv_X4_58 dX4_findBest_34 (c_sumLeast (mxD σ n) h_qr h_b) (by first | exact rfl | assumption) (by decide) (by rfl) rfl rfl (by exact Nat.le_of_ble_eq_true rfl) (by first | decide | omega) (kM (fun τ2 h_2 => ?_))
    obtain ⟨h_o2, h_l2⟩ := h_2
    have h_Ob : Ons (· = 194) τ2 (up (up τ2 194 7 268435456) 194 8 (-5)) := ((Ons.rf (· = 194) τ2).up rfl).up rfl
    first | refine j_aload_n G dX4_findBest_37 rfl ?_ | refine j_aload_nN G dX4_findBest_37 rfl ?_
    refine j_ldc G kc_X4_61 dX4_findBest_38 (z := 268435456) (by decide) ?_
    refine j_puti G fp_X4_62 dX4_findBest_40 7 rfl (by first | exact rfl | assumption) (by rfl) (by omega) ?_
    first | refine j_aload_n G dX4_findBest_43 rfl ?_ | refine j_aload_nN G dX4_findBest_43 rfl ?_
    refine j_bipush G dX4_findBest_44 (by decide) ?_
    refine j_puti G fp_X4_66 dX4_findBest_46 8 rfl (by first | exact rfl | assumption) (by rfl) (by omega) ?_
    first | refine j_aload_n G dX4_findBest_49 rfl ?_ | refine j_aload_nN G dX4_findBest_49 rfl ?_
    refine j_iconst G dX4_findBest_50 ?_
    refine j_lconstI G 0 dX4_findBest_51 (by decide) ?_
    refine j_pc (p2 := 52) rfl ?_
    refine j_iconst G dX4_findBest_52 ?_
    refine j_iconst G dX4_findBest_53 ?_
    refine j_callV G mv_X4_69 dX4_findBest_54 (c_search (σ := τ2) (mxD σ n) h_qr (fun p c h_p h_c => by rw [h_o2 198 (by decide), h_o2 199 (by decide)]; exact h_b p c h_p h_c) h_l2 7 (Nat.le_refl _) (up (up τ2 194 7 268435456) 194 8 (-5)) 0 0 0 (268435456, -5) h_Ob (by rw [up_idx (by decide)]; exact up_same _ _ _ _) (up_same _ _ _ _) (by decide) (by decide) (by decide) (fun h => absurd h (by decide))) (by first | exact rfl | assumption) (by decide) (by rfl) rfl rfl (by exact Nat.le_of_ble_eq_true rfl) (by first | decide | omega) (kM (fun τ4 h_4 => ?_))
    obtain ⟨h_o4, h_r7, h_r8⟩ := h_4
    first | refine j_aload_n G dX4_findBest_57 rfl ?_ | refine j_aload_nN G dX4_findBest_57 rfl ?_
    refine j_geti G fl_X4_66 dX4_findBest_58 8 rfl (by first | exact rfl | assumption) (by rfl) (fun r_58 => ?_)
    try simp (disch := omega) only [up_same, up_cell, up_idx, cpm_at, fil_at] at r_58 ⊢
    refine j_ireturn G dX4_findBest_61 ?_
    refine ⟨_, rfl, h_r8, fun j h_j => ?_⟩
    rw [h_o4 j (fun z => h_j (by unfold scC; omega)), h_o2 j (fun z => h_j (by unfold scC; omega)), h_o j (fun z => h_j (by unfold scC; omega))]
  · refine j_iconst G dX4_findBest_8 ?_
    refine j_istore2 G dX4_findBest_9 (by decide) rfl ?_
    refine j_pc (p2 := 10) rfl ?_
    refine j_weak (ls' := [some (rf (EC x) 194), some (iv p), some (iv ((0 : Nat) : Int))]) ?_ ⟨rfl, rfl, rfl, trivial⟩
    refine down (Pr := fun d => ∀ τ : MemT, Ons (fun j => j = 196 ∨ j = 198 ∨ j = 199) σ τ → (∀ c : Nat, c < 5 → τ 196 c = onS σ n c) → (∀ a c : Nat, (a < p ∧ c < 5) ∨ (a = p ∧ c < d) → τ 198 (5 * (a : Int) + c) = (lgN ((mxD σ n).2.1 a c)).toInt ∧ τ 199 (5 * (a : Int) + c) = (mxD σ n).1 a c) → JJ (EC x) X 8 (rP (fun z τ2 => z = beS σ n ∧ KC σ τ2)) 3 10 [some (rf (EC x) 194), some (iv p), some (iv d)] [] τ) 5 ?_ 0 (Nat.zero_le _) τ h_o h_ow (fun a c h_a => h_b a c (by omega) (by omega))
    intro d h_d ih2 τ h_o h_ow h_b
    refine j_iload_n G dX4_findBest_10 rfl ?_
    refine j_iconst G dX4_findBest_11 ?_
    refine j_icmp_ge G dX4_findBest_12 (tgt := 27) (by decide) (by omega) (by omega) (fun c_12 => ?_) (fun c_12 => ?_)
    · refine j_iinc1 G dX4_findBest_27 (by decide) rfl rfl ?_
      refine j_goto G dX4_findBest_30 (tgt := 2) (by decide) ?_
      refine j_pc (p2 := 2) rfl ?_
      obtain rfl : d = 5 := by omega
      exact j_weak (ih (by omega) τ h_o h_ow (fun a c h_a h_c => h_b a c (by omega))) ⟨rfl, rfl, trivial⟩
    · first | refine j_aload_n G dX4_findBest_15 rfl ?_ | refine j_aload_nN G dX4_findBest_15 rfl ?_
      refine j_iload_n G dX4_findBest_16 rfl ?_
      refine j_iload_n G dX4_findBest_17 rfl ?_
      refine j_callV G mv_X4_54 dX4_findBest_18 (c_weighPart (σ := σ) τ p d n (by omega) (by omega) h_20 h_o h_ow h_wc h_wp) (by first | exact rfl | assumption) (by decide) (by rfl) rfl rfl (by exact Nat.le_of_ble_eq_true rfl) (by first | decide | omega) (kN ?_)
      refine j_iinc2 G dX4_findBest_21 (by decide) rfl rfl ?_
      refine j_goto G dX4_findBest_24 (tgt := 10) (by decide) ?_
      refine j_pc (p2 := 10) rfl ?_
      refine ih2 (by omega) _ ((h_o.up (by omega)).up (by omega)) (fun c h_c => by rw [up_cell (by decide), up_cell (by decide)]; exact h_ow c h_c) (fun a c h_a => ?_)
      by_cases h_e : a = p ∧ c = d
      · rw [h_e.1, h_e.2, up_same, up_cell (by decide), up_same]
        exact ⟨rfl, rfl⟩
      · rw [up_cell (by decide), up_idx (by omega), up_idx (by omega), up_cell (by decide)]
        exact h_b a c (by omega)
theorem c_best (n : Nat) (h_n : σ 0 8 = n) (h_20 : n ≤ 20) (h_wc : ∀ c, c < 5 → WfCode σ c) (h_wp : WfPart σ) : CT (EC x) 9 yX11_best [rf (EC x) 0] σ (rP (fun z τ2 => z = beS σ n ∧ KC σ τ2)) := by
  refine CT.ofJ (own := RX11) (cc := cX11_best) (n := 1) (ret := (some .int)) (by decide) rfl cw_X11_best (by decide) (Nat.le_of_ble_eq_true rfl) (ls := [some (rf (EC x) 0)]) rfl ?_
  intro X G
  first | refine j_aload_n G dX11_best_0 rfl ?_ | refine j_aload_nN G dX11_best_0 rfl ?_
  refine j_callV G mv_X11_305 dX11_best_1 (c_countAll n h_n h_20) (by first | exact rfl | assumption) (by decide) (by rfl) rfl rfl (by exact Nat.le_of_ble_eq_true rfl) (by first | decide | omega) (kM (fun τ h_1 => ?_))
  obtain ⟨h_o, h_ow⟩ := h_1
  first | refine j_aload_n G dX11_best_4 rfl ?_ | refine j_aload_nN G dX11_best_4 rfl ?_
  refine j_getr G fl_X11_84 dX11_best_5 (by first | exact rfl | assumption) (by rfl) ?_
  refine j_callV G mv_X11_311 dX11_best_8 (c_findBest (σ := σ) τ n h_20 (h_o.wk (fun j h => by omega)) h_ow h_wc h_wp) (by first | exact rfl | assumption) (by decide) (by rfl) rfl rfl (by exact Nat.le_of_ble_eq_true rfl) (by first | decide | omega) (kP (fun y τ2 h_y => ?_))
  refine j_ireturn G dX11_best_11 ?_
  exact ⟨y, rfl, h_y⟩
end BV
