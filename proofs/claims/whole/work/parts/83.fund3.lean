/-- of the reference only some cells and some fields have changed -/
def KX (p : Nat → Prop) (q : Int → Prop) (μ ν : MemT) : Prop := (∀ k, ¬ p k → k ≠ 0 → ν k = μ k) ∧ ∀ i, ¬ q i → ν 0 i = μ 0 i
theorem KX.rf (p : Nat → Prop) (q : Int → Prop) (μ : MemT) : KX p q μ μ := ⟨fun _ _ _ => rfl, fun _ _ => rfl⟩
theorem KX.tr {p : Nat → Prop} {q : Int → Prop} {a b e : MemT} (h1 : KX p q a b) (h2 : KX p q b e) : KX p q a e := ⟨fun k hk h0 => (h2.1 k hk h0).trans (h1.1 k hk h0), fun i hi => (h2.2 i hi).trans (h1.2 i hi)⟩
theorem KX.wk {p p2 : Nat → Prop} {q q2 : Int → Prop} {a b : MemT} (h1 : KX p q a b) (h2 : ∀ k, p k → p2 k) (h3 : ∀ i, q i → q2 i) : KX p2 q2 a b := ⟨fun k hk h0 => h1.1 k (fun z => hk (h2 k z)) h0, fun i hi => h1.2 i (fun z => hi (h3 i z))⟩
theorem KX.ux {p : Nat → Prop} {q : Int → Prop} {a b : MemT} (h1 : KX p q a b) {k : Nat} {i z : Int} (hk : p k) (h0 : k ≠ 0) : KX p q a (up b k i z) := ⟨fun j hj j0 => by rw [up_fn (fun e : j = k => hj (e ▸ hk))]; exact h1.1 j hj j0, fun j hj => by rw [up_cell (fun q => h0 q.symm)]; exact h1.2 j hj⟩
theorem KX.u0 {p : Nat → Prop} {q : Int → Prop} {a b : MemT} (h1 : KX p q a b) {i z : Int} (hi : q i) : KX p q a (up b 0 i z) := ⟨fun j hj j0 => by rw [up_fn j0]; exact h1.1 j hj j0, fun j hj => by rw [up_idx (fun e : j = i => hj (e.symm ▸ hi))]; exact h1.2 j hj⟩
def pgS (σ : MemT) (c n b : Nat) : Int := if prB (fun w => σ (61 + b) w) (wgW σ c) n then (ceB (fun w => σ (61 + b) w) (wgW σ c) n + 199) / 200 else -6
def FS (σ : MemT) (coin : Int) (n m : Nat) : Nat → FB
  | 0 => (0, -6, 0, 0)
  | c + 1 => foF c coin (pgS σ c n) (gnS σ c m) (FS σ coin n m c) 255
theorem FS_s (σ : MemT) (coin : Int) (n m c : Nat) : FS σ coin n m (c + 1) = foF c coin (pgS σ c n) (gnS σ c m) (FS σ coin n m c) 255 := rfl
theorem FS_in (σ : MemT) (coin : Int) (n m : Nat) : ∀ c, 0 ≤ (FS σ coin n m c).1 ∧ (FS σ coin n m c).2.1 < c
  | 0 => ⟨Int.le_refl _, by show (-6 : Int) < ((0 : Nat) : Int); omega⟩
  | c + 1 => by
    have h_1 := FS_in σ coin n m c
    have h_2 := foF_in (c := c) (coin := coin) (pg := pgS σ c n) (gn := gnS σ c m) (B := FS σ coin n m c) h_1.1 255
    rw [FS_s]
    omega
def fuS (B : FB) (what : Int) : Int := if what = 0 then B.1 else if what = 1 then B.2.1 else if what = 2 then B.2.2.1 else B.2.2.2
theorem gnS_on {σ τ : MemT} (h_w : WfRd σ) (h : ∀ j, 78 ≤ j → j ≤ 190 → τ j = σ j) (c b : Nat) (m : Nat) (h_m : m ≤ 20) : gnS τ c m b = gnS σ c m b := sm_cg m (fun i h_i => by
  obtain ⟨h_a1, h_a2, h_a3, h_a4⟩ := h_w.2 i (by omega)
  unfold gnI
  rw [h (79 + 2 * i) (by omega) (by omega), h (78 + 2 * i) (by omega) (by omega), rdS_on (σ := σ) (h (79 + 2 * i) (by omega) (by omega)) (fun b h_b => h _ (by omega) (by omega))])
theorem gnS_0 {σ : MemT} {c m b : Nat} (h : ¬ anyB (fun i => decide (0 < σ (79 + 2 * i) c)) m = true) : gnS σ c m b = 0 := by
  unfold gnS
  rw [sm_cg (g2 := fun _ => 0) m (fun i h_i => by
    unfold gnI
    rw [if_neg (fun z => h (anyB_iff.2 ⟨i, h_i, decide_eq_true z.1⟩))]), sm_zero]
theorem wgW_on {σ τ : MemT} {c : Nat} (h_1 : ∀ j, 3 + 7 * c ≤ j → j ≤ 8 + 7 * c → τ j = σ j) (h_2 : τ 58 = σ 58) (h_3 : τ 59 = σ 59) : wgW τ c = wgW σ c := by
  funext w
  unfold wgW
  rw [wA_on h_1, h_3]
  congr 1
  funext i
  unfold wtx
  rw [h_2]
section FD
variable {E : EE} {x x1 x2 : CX} {μ σ : MemT}
theorem c_clear : CT (EC x) 0 yX3_clear [rf (EC x) 191] σ (rN (up (up (up (up σ 191 2 0) 191 3 (-6)) 191 4 0) 191 5 0)) := by
  refine CT.ofJ (own := RX3) (cc := cX3_clear) (n := 1) (ret := none) (by decide) rfl cw_X3_clear (by decide) (Nat.le_of_ble_eq_true rfl) (ls := [some (rf (EC x) 191)]) rfl ?_
  intro X G
  first | refine j_aload_n G dX3_clear_0 rfl ?_ | refine j_aload_nN G dX3_clear_0 rfl ?_
  refine j_iconst G dX3_clear_1 ?_
  refine j_puti G fp_X3_18 dX3_clear_2 2 rfl (by first | assumption | rfl) (by rfl) (by omega) ?_
  first | refine j_aload_n G dX3_clear_5 rfl ?_ | refine j_aload_nN G dX3_clear_5 rfl ?_
  refine j_bipush G dX3_clear_6 (by decide) ?_
  refine j_puti G fp_X3_22 dX3_clear_8 3 rfl (by first | assumption | rfl) (by rfl) (by omega) ?_
  first | refine j_aload_n G dX3_clear_11 rfl ?_ | refine j_aload_nN G dX3_clear_11 rfl ?_
  refine j_iconst G dX3_clear_12 ?_
  refine j_puti G fp_X3_25 dX3_clear_13 4 rfl (by first | assumption | rfl) (by rfl) (by omega) ?_
  first | refine j_aload_n G dX3_clear_16 rfl ?_ | refine j_aload_nN G dX3_clear_16 rfl ?_
  refine j_iconst G dX3_clear_17 ?_
  refine j_pc (p2 := 18) rfl ?_
  refine j_puti G fp_X3_28 dX3_clear_18 5 rfl (by first | assumption | rfl) (by rfl) (by omega) ?_
  refine j_return G dX3_clear_21 ?_
  exact ⟨rfl, rfl⟩
def scFu (j : Nat) : Prop := j = 44 ∨ j = 45 ∨ j = 69 ∨ j = 191 ∨ j = 192 ∨ j = 193
theorem pgS_rg {c n b : Nat} (h_b : b < 8) (h_w : WfCode σ c) (h_ww : WfWord σ) (h_n : σ 57 3 = n) : (0 ≤ pgS σ c n b ∨ pgS σ c n b = -6) ∧ pgS σ c n b ≤ 200000 := by
  unfold pgS
  by_cases h_p : prB (fun w => σ (61 + b) w) (wgW σ c) n = true
  · rw [if_pos h_p]
    obtain ⟨h_w1, h_w2, h_w3, h_w4⟩ := id h_ww
    have h_bk := bko_of (cn := fun w => σ (61 + b) w) (g := wgW σ c) (Nat.le_refl n) (fun w h => h_w4 b h_b w (by omega) (by omega)) (fun w h => ⟨_, (wg_v h_w h_ww w (by omega)).2, (wg_v h_w h_ww w (by omega)).1⟩) (prB_iff.1 h_p)
    have h_cr := ceB_rg h_bk (by omega) n (Nat.le_refl _)
    omega
  · rw [if_neg h_p]
    omega
theorem c_fund (coin what : Int) (n m : Nat) (h_k : 0 ≤ coin ∧ coin ≤ 1000) (h_wh : 0 ≤ what ∧ what ≤ 3) (h_w : Wf σ) (h_n : σ 57 3 = n) (h_m : σ 0 8 = m) : CT (EC x) 4 yX11_fund [rf (EC x) 0, iv coin, iv what] σ (rP (fun z τ => z = fuS (FS σ coin n m 5) what ∧ KC σ τ)) := by
  obtain ⟨w1, w2, w3, w4, w5, w6, w7, w8⟩ := id h_w
  have h_20 : m ≤ 20 := by have := w5.1; omega
  obtain ⟨h_w1, h_w2, h_w3, h_w4⟩ := id w3
  refine CT.ofJ (own := RX11) (cc := cX11_fund) (n := 4) (ret := (some .int)) (by decide) rfl cw_X11_fund (by decide) (Nat.le_of_ble_eq_true rfl) (ls := [some (rf (EC x) 0), some (iv coin), some (iv what), none]) rfl ?_
  intro X G
  refine j_iload_n G dX11_fund_0 rfl ?_
  refine j_iconst G dX11_fund_1 ?_
  refine j_sipush G dX11_fund_2 (by decide) ?_
  refine j_callS G ms_X11_92 dX11_fund_5 (x_within _ _ _ (by omega) (by omega) (by omega)) rfl rfl (by exact Nat.le_of_ble_eq_true rfl) (by decide) (kI ?_)
  refine j_if_eqB G dX11_fund_8 (tgt := 20) (by decide)  (fun c_8 => ?_) (fun c_8 => ?_)
  · refine j_bipush G dX11_fund_20 (by decide) ?_
    refine j_ireturn G dX11_fund_22 ?_
    omega
  · refine j_iload_n G dX11_fund_11 rfl ?_
    refine j_iconst G dX11_fund_12 ?_
    refine j_iconst G dX11_fund_13 ?_
    refine j_callS G ms_X11_92 dX11_fund_14 (x_within _ _ _ (by omega) (by omega) (by omega)) rfl rfl (by exact Nat.le_of_ble_eq_true rfl) (by decide) (kI ?_)
    refine j_if_neB G dX11_fund_17 (tgt := 23) (by decide)  (fun c_17 => ?_) (fun c_17 => ?_)
    · first | refine j_aload_n G dX11_fund_23 rfl ?_ | refine j_aload_nN G dX11_fund_23 rfl ?_
      refine j_getr G fl_X11_75 dX11_fund_24 (by first | assumption | rfl) (by rfl) ?_
      refine j_callV G mv_X11_254 dX11_fund_27 (c_clear) (by first | assumption | rfl) (by decide) (by rfl) rfl rfl (by exact Nat.le_of_ble_eq_true rfl) (by decide) (kN ?_)
      refine j_iconst G dX11_fund_30 ?_
      refine j_istore3 G dX11_fund_31 (by decide) rfl ?_
      refine j_pc (p2 := 32) rfl ?_
      refine j_weak (ls' := [some (rf (EC x) 0), some (iv coin), some (iv what), some (iv ((0 : Nat) : Int))]) ?_ ⟨rfl, rfl, rfl, rfl, trivial⟩
      refine down (Pr := fun c => ∀ τ : MemT, Ons scFu σ τ → FdC τ (FS σ coin n m c) → JJ (EC x) X 4 (rP (fun z τ => z = fuS (FS σ coin n m 5) what ∧ KC σ τ)) 4 32 [some (rf (EC x) 0), some (iv coin), some (iv what), some (iv c)] [] τ) 5 ?_ 0 (Nat.zero_le _) _ (((((Ons.rf scFu σ).up (by unfold scFu; omega)).up (by unfold scFu; omega)).up (by unfold scFu; omega)).up (by unfold scFu; omega)) FdC.up
      intro c h_c ih τ h_o h_F
      have h_kc : KC σ τ := h_o.wk (fun j h => by unfold scFu at h; unfold scC; omega)
      refine j_iload_n G dX11_fund_32 rfl ?_
      refine j_iconst G dX11_fund_33 ?_
      refine j_icmp_ge G dX11_fund_34 (tgt := 77) (by decide) (by omega) (by omega) (fun c_34 => ?_) (fun c_34 => ?_)
      · obtain rfl : c = 5 := by omega
        obtain ⟨h_F1, h_F2, h_F3, h_F4⟩ := h_F
        unfold fuS
        refine j_iload_n G dX11_fund_77 rfl ?_
        by_cases s_78_0 : what = 0
        · refine j_tableIn G dX11_fund_78 (tgt := 104) (by omega) (by omega) (by rw [s_78_0]; rfl) (by decide) ?_
          first | refine j_aload_n G dX11_fund_104 rfl ?_ | refine j_aload_nN G dX11_fund_104 rfl ?_
          refine j_getr G fl_X11_75 dX11_fund_105 (by first | assumption | rfl) (by rfl) ?_
          refine j_geti G fl_X11_267 dX11_fund_108 2 rfl (by first | assumption | rfl) (by rfl) (fun r_108 => ?_)
          try simp (disch := omega) only [up_same, up_cell, up_idx, cpm_at, fil_at] at r_108 ⊢
          refine j_ireturn G dX11_fund_111 ?_
          first
          | exact ⟨_, rfl, by rw [if_pos (by omega)]; exact h_F1, h_kc⟩
          | exact ⟨_, rfl, by rw [if_neg (by omega), if_pos (by omega)]; exact h_F2, h_kc⟩
          | exact ⟨_, rfl, by rw [if_neg (by omega), if_neg (by omega), if_pos (by omega)]; exact h_F3, h_kc⟩
          | exact ⟨_, rfl, by rw [if_neg (by omega), if_neg (by omega), if_neg (by omega)]; exact h_F4, h_kc⟩
        by_cases s_78_1 : what = 1
        · refine j_tableIn G dX11_fund_78 (tgt := 112) (by omega) (by omega) (by rw [s_78_1]; rfl) (by decide) ?_
          first | refine j_aload_n G dX11_fund_112 rfl ?_ | refine j_aload_nN G dX11_fund_112 rfl ?_
          refine j_getr G fl_X11_75 dX11_fund_113 (by first | assumption | rfl) (by rfl) ?_
          refine j_geti G fl_X11_270 dX11_fund_116 3 rfl (by first | assumption | rfl) (by rfl) (fun r_116 => ?_)
          try simp (disch := omega) only [up_same, up_cell, up_idx, cpm_at, fil_at] at r_116 ⊢
          refine j_ireturn G dX11_fund_119 ?_
          first
          | exact ⟨_, rfl, by rw [if_pos (by omega)]; exact h_F1, h_kc⟩
          | exact ⟨_, rfl, by rw [if_neg (by omega), if_pos (by omega)]; exact h_F2, h_kc⟩
          | exact ⟨_, rfl, by rw [if_neg (by omega), if_neg (by omega), if_pos (by omega)]; exact h_F3, h_kc⟩
          | exact ⟨_, rfl, by rw [if_neg (by omega), if_neg (by omega), if_neg (by omega)]; exact h_F4, h_kc⟩
        by_cases s_78_2 : what = 2
        · refine j_tableIn G dX11_fund_78 (tgt := 120) (by omega) (by omega) (by rw [s_78_2]; rfl) (by decide) ?_
          first | refine j_aload_n G dX11_fund_120 rfl ?_ | refine j_aload_nN G dX11_fund_120 rfl ?_
          refine j_getr G fl_X11_75 dX11_fund_121 (by first | assumption | rfl) (by rfl) ?_
          refine j_geti G fl_X11_273 dX11_fund_124 4 rfl (by first | assumption | rfl) (by rfl) (fun r_124 => ?_)
          try simp (disch := omega) only [up_same, up_cell, up_idx, cpm_at, fil_at] at r_124 ⊢
          refine j_ireturn G dX11_fund_127 ?_
          first
          | exact ⟨_, rfl, by rw [if_pos (by omega)]; exact h_F1, h_kc⟩
          | exact ⟨_, rfl, by rw [if_neg (by omega), if_pos (by omega)]; exact h_F2, h_kc⟩
          | exact ⟨_, rfl, by rw [if_neg (by omega), if_neg (by omega), if_pos (by omega)]; exact h_F3, h_kc⟩
          | exact ⟨_, rfl, by rw [if_neg (by omega), if_neg (by omega), if_neg (by omega)]; exact h_F4, h_kc⟩
        refine j_tableOut G dX11_fund_78 (tgt := 128) (by omega) (by omega) (by decide) ?_
        first | refine j_aload_n G dX11_fund_128 rfl ?_ | refine j_aload_nN G dX11_fund_128 rfl ?_
        refine j_getr G fl_X11_75 dX11_fund_129 (by first | assumption | rfl) (by rfl) ?_
        refine j_geti G fl_X11_276 dX11_fund_132 5 rfl (by first | assumption | rfl) (by rfl) (fun r_132 => ?_)
        try simp (disch := omega) only [up_same, up_cell, up_idx, cpm_at, fil_at] at r_132 ⊢
        refine j_ireturn G dX11_fund_135 ?_
        first
        | exact ⟨_, rfl, by rw [if_pos (by omega)]; exact h_F1, h_kc⟩
        | exact ⟨_, rfl, by rw [if_neg (by omega), if_pos (by omega)]; exact h_F2, h_kc⟩
        | exact ⟨_, rfl, by rw [if_neg (by omega), if_neg (by omega), if_pos (by omega)]; exact h_F3, h_kc⟩
        | exact ⟨_, rfl, by rw [if_neg (by omega), if_neg (by omega), if_neg (by omega)]; exact h_F4, h_kc⟩
      · obtain ⟨h_F1, h_F2⟩ := FS_in σ coin n m c
        have h_wr : WfRd τ := w5.fr (by rw [h_o 0 (by unfold scFu; omega)]) (fun j h_1 h_2 => h_o j (by unfold scFu; omega))
        have h_wc : WfCode σ c := w1 c (by omega)
        first | refine j_aload_n G dX11_fund_37 rfl ?_ | refine j_aload_nN G dX11_fund_37 rfl ?_
        refine j_iload_n G dX11_fund_38 rfl ?_
        refine j_callV G mv_X11_257 dX11_fund_39 (c_hopeFrom c m (by omega) (by rw [h_o 0 (by unfold scFu; omega)]; exact h_m) h_20 h_wr) (by first | assumption | rfl) (by decide) (by rfl) rfl rfl (by exact Nat.le_of_ble_eq_true rfl) (by decide) (kP (fun y τ1 h_y => ?_))
        obtain ⟨h_o1, rfl, h_g1⟩ := h_y
        rw [show anyB (fun i => decide (0 < τ (79 + 2 * i) c)) m = anyB (fun i => decide (0 < σ (79 + 2 * i) c)) m from anyB_cg m (fun i h_i => by rw [h_o (79 + 2 * i) (by unfold scFu; omega)])]
        have h_o2 : Ons scFu σ τ1 := h_o.tr (h_o1.wk (fun j h => by unfold scFu; omega))
        have h_g2 : ∀ b : Nat, b < 8 → τ1 192 b = gnS σ c m b := fun b h_b => (h_g1 b h_b).trans (gnS_on w5 (fun j h_1 h_2 => h_o j (by unfold scFu; omega)) c b m h_20)
        have h_Fb : FdC τ1 (FS σ coin n m c) := by unfold FdC; rw [h_o1 191 (by decide)]; exact h_F
        refine j_if_eqB G dX11_fund_42 (tgt := 71) (by decide)  (fun c_42 => ?_) (fun c_42 => ?_)
        · refine j_iinc3 G dX11_fund_71 (by decide) rfl rfl ?_
          refine j_goto G dX11_fund_74 (tgt := 32) (by decide) ?_
          refine j_pc (p2 := 32) rfl ?_
          first
          | exact ih (by omega) τ4 (h_o6.tr (h_4.1.wk (fun j h => by unfold scFu; omega))) h_4.2
          | (refine ih (by omega) τ1 h_o2 ?_
             rw [FS_s, foF_0 (fun b _ => gnS_0 c_42) h_F1 (by omega)]
             exact h_Fb)
        · first | refine j_aload_n G dX11_fund_45 rfl ?_ | refine j_aload_nN G dX11_fund_45 rfl ?_
          refine j_getr G fl_X11_50 dX11_fund_46 (by first | assumption | rfl) (by rfl) ?_
          first | refine j_aload_n G dX11_fund_49 rfl ?_ | refine j_aload_nN G dX11_fund_49 rfl ?_
          refine j_getr G fl_X11_11 dX11_fund_50 (by first | assumption | rfl) (by rfl) ?_
          refine j_iload_n G dX11_fund_53 rfl ?_
          refine j_aaload G dX11_fund_54 (by first | assumption | rfl) (by decide) (by omega) (ly_codes (by omega)) ?_
          refine j_callV G mv_X11_171 dX11_fund_55 (c_weighWords c n (by omega) (h_wc.on (fun j h_1 h_2 => h_o2 j (by unfold scFu; omega))) (w3.fr (fun j h_1 h_2 => h_o2 j (by unfold scFu; omega))) (by rw [h_o2 57 (by unfold scFu; omega)]; exact h_n)) (by first | assumption | rfl) (by decide) (by rfl) rfl rfl (by exact Nat.le_of_ble_eq_true rfl) (by decide) (kM (fun τ2 h_2 => ?_))
          obtain ⟨h_o3, h_g3⟩ := h_2
          rw [wgW_on (σ := σ) (fun j h_1 h_2 => h_o2 j (by unfold scFu; omega)) (h_o2 58 (by unfold scFu; omega)) (h_o2 59 (by unfold scFu; omega))] at h_g3
          have h_o4 : Ons scFu σ τ2 := h_o2.tr (h_o3.wk (fun j h => by unfold scFu; omega))
          have h_gv : ∀ w, w < n → ∃ m, m ≤ 10 ∧ wv m (wgW σ c w) := fun w h => ⟨_, (wg_v h_wc w3 w (by omega)).2, (wg_v h_wc w3 w (by omega)).1⟩
          first | refine j_aload_n G dX11_fund_58 rfl ?_ | refine j_aload_nN G dX11_fund_58 rfl ?_
          refine j_callV G mv_X11_260 dX11_fund_59 (c_priceBooks n (fun b w => σ (61 + b) w) (wgW σ c) (by rw [h_o4 57 (by unfold scFu; omega)]; exact h_n) (by omega) (fun b h_b w h => by rw [h_o4 (61 + b) (by unfold scFu; omega)]) (fun b h_b w h => h_w4 b h_b w (by omega) (by omega)) (fun w h => ⟨h_g3 w h, by
obtain ⟨q, h_1, h_2⟩ := h_gv w h
have := wv_rg h_2 h_1
omega⟩) h_gv) (by first | assumption | rfl) (by decide) (by rfl) rfl rfl (by exact Nat.le_of_ble_eq_true rfl) (by decide) (kM (fun τ3 h_3 => ?_))
          obtain ⟨h_o5, h_p5⟩ := h_3
          have h_o6 : Ons scFu σ τ3 := h_o4.tr (h_o5.wk (fun j h => by unfold scFu; omega))
          first | refine j_aload_n G dX11_fund_62 rfl ?_ | refine j_aload_nN G dX11_fund_62 rfl ?_
          refine j_getr G fl_X11_75 dX11_fund_63 (by first | assumption | rfl) (by rfl) ?_
          refine j_pc (p2 := 66) rfl ?_
          refine j_iload_n G dX11_fund_66 rfl ?_
          refine j_iload_n G dX11_fund_67 rfl ?_
          refine j_callV G mv_X11_263 dX11_fund_68 (c_fweigh c coin (pgS σ c n) (gnS σ c m) (FS σ coin n m c) (by omega) h_k (by unfold FdC; rw [h_o5 191 (by decide), h_o3 191 (by decide)]; exact h_Fb) (fun b h_b => by
have h_pr := pgS_rg h_b h_wc w3 h_n
refine ⟨?_, h_pr.2⟩
rw [h_p5 b h_b]
by_cases h_p : prB (fun w => σ (61 + b) w) (wgW σ c) n = true
· rw [if_pos h_p]
  have h_e : pgS σ c n b = (ceB (fun w => σ (61 + b) w) (wgW σ c) n + 199) / 200 := if_pos h_p
  rw [h_e] at h_pr ⊢
  have h_bk := bko_of (cn := fun w => σ (61 + b) w) (g := wgW σ c) (Nat.le_refl n) (fun w h => h_w4 b h_b w (by omega) (by omega)) h_gv (prB_iff.1 h_p)
  have h_cr := ceB_rg h_bk (by omega) n (Nat.le_refl _)
  rw [if_neg (by omega)]
· rw [if_neg h_p]
  have h_e : pgS σ c n b = -6 := if_neg h_p
  rw [h_e]
  rfl) (fun b h_b => by
rw [h_o5 192 (by decide), h_o3 192 (by decide)]
have := gnS_rg σ c m b
exact ⟨h_g2 b h_b, by omega, by omega⟩)) (by first | assumption | rfl) (by decide) (by rfl) rfl rfl (by exact Nat.le_of_ble_eq_true rfl) (by decide) (kM (fun τ4 h_4 => ?_))
          refine j_iinc3 G dX11_fund_71 (by decide) rfl rfl ?_
          refine j_goto G dX11_fund_74 (tgt := 32) (by decide) ?_
          refine j_pc (p2 := 32) rfl ?_
          first
          | exact ih (by omega) τ4 (h_o6.tr (h_4.1.wk (fun j h => by unfold scFu; omega))) h_4.2
          | (refine ih (by omega) τ1 h_o2 ?_
             rw [FS_s, foF_0 (fun b _ => gnS_0 c_42) h_F1 (by omega)]
             exact h_Fb)
    · refine j_bipush G dX11_fund_20 (by decide) ?_
      refine j_ireturn G dX11_fund_22 ?_
      omega
theorem c_fundO (coin what : Int) (h_1 : (-2147483648 ≤ coin ∧ coin < 2147483648)) (h_2 : (-2147483648 ≤ what ∧ what < 2147483648)) (h_N : ¬ ((0 ≤ coin ∧ coin ≤ 1000) ∧ 0 ≤ what ∧ what ≤ 3)) : CT (EC x) 4 yX11_fund [rf (EC x) 0, iv coin, iv what] σ (rI (-2) σ) := by
  refine CT.ofJ (own := RX11) (cc := cX11_fund) (n := 4) (ret := (some .int)) (by decide) rfl cw_X11_fund (by decide) (Nat.le_of_ble_eq_true rfl) (ls := [some (rf (EC x) 0), some (iv coin), some (iv what), none]) rfl ?_
  intro X G
  refine j_iload_n G dX11_fund_0 rfl ?_
  refine j_iconst G dX11_fund_1 ?_
  refine j_sipush G dX11_fund_2 (by decide) ?_
  refine j_callS G ms_X11_92 dX11_fund_5 (x_within _ _ _ (by omega) (by omega) (by omega)) rfl rfl (by exact Nat.le_of_ble_eq_true rfl) (by decide) (kI ?_)
  refine j_if_eqB G dX11_fund_8 (tgt := 20) (by decide)  (fun c_8 => ?_) (fun c_8 => ?_)
  · refine j_bipush G dX11_fund_20 (by decide) ?_
    refine j_ireturn G dX11_fund_22 ?_
    exact ⟨rfl, rfl⟩
  · refine j_iload_n G dX11_fund_11 rfl ?_
    refine j_iconst G dX11_fund_12 ?_
    refine j_iconst G dX11_fund_13 ?_
    refine j_callS G ms_X11_92 dX11_fund_14 (x_within _ _ _ (by omega) (by omega) (by omega)) rfl rfl (by exact Nat.le_of_ble_eq_true rfl) (by decide) (kI ?_)
    refine j_if_neB G dX11_fund_17 (tgt := 23) (by decide)  (fun c_17 => ?_) (fun c_17 => ?_)
    · omega
    · refine j_bipush G dX11_fund_20 (by decide) ?_
      refine j_ireturn G dX11_fund_22 ?_
      exact ⟨rfl, rfl⟩
end FD
