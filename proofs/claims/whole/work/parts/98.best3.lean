theorem lN_ti (b : Nat) : Int64.ofInt (lgN b).toInt = lgN b := Int64.ofInt_toInt _
theorem lgI_0 : Int64.ofInt 0 = lgN 0 := rfl
theorem lgI_1 : Int64.ofInt 1 = lgN 1 := rfl
theorem lg_rg (a b : Int64) : -2147483648 ≤ (lg_cmp a b).toInt ∧ (lg_cmp a b).toInt < 2147483648 := ofI_rng _
theorem anS_rg (σ : MemT) {n : Nat} (h_n : n ≤ 20) (sel : Nat → Bool) (t : Nat → Int) : 0 ≤ anS σ n sel t ∧ anS σ n sel t ≤ 2600 := by
  rw [← anS_eq σ h_n]
  exact df_rg σ sel t (onS σ n) (fun c _ => by have := onS_rg σ n c; omega) 26 (Nat.le_refl _)
section BT
variable {E : EE} {x x1 x2 : CX} {μ σ : MemT}
theorem c_weighPart (τ : MemT) (p c n : Nat) (h_p : p < 7) (h_c : c < 5) (h_20 : n ≤ 20) (h_o : Ons (fun j => j = 196 ∨ j = 198 ∨ j = 199) σ τ) (h_ow : ∀ c : Nat, c < 5 → τ 196 c = onS σ n c) (h_wc : ∀ c, c < 5 → WfCode σ c) (h_wp : WfPart σ) : CT (EC x) 1 yX4_weighPart [rf (EC x) 194, iv p, iv c] τ (rN (up (up τ 198 (5 * (p : Int) + c) (lgN ((mxD σ n).2.1 p c)).toInt) 199 (5 * (p : Int) + c) ((mxD σ n).1 p c))) := by
  obtain ⟨h_y1, h_y2, h_y3, h_y4, h_y5, h_y6, h_y7⟩ := ly_code (x := x) h_c
  have h_or : ∀ c, c < 5 → 0 ≤ onS σ n c ∧ onS σ n c ≤ 20 := fun c _ => by have := onS_rg σ n c; omega
  have h_cl := (h_wc c h_c).1
  have h_bl := bN_lt (P := fun l => σ 195 l) (C := fun l => σ (3 + 7 * c) l) (p := p) (fun l h_l => (h_cl l (by omega) (by omega)).2)
  have h_dr := df_rg σ (fun l => decide (σ 195 l = (p : Int))) (fun l => σ (3 + 7 * c) l) (onS σ n) h_or
  have h_K : (mxD σ n).1 p c = sm (fun l => sm (fun d => dfS σ (fun l => decide (σ 195 l = (p : Int))) (fun l => σ (3 + 7 * c) l) d l * onS σ n d) 5) 26 := (anS_eq σ h_20 _ _).symm
  have h_B : (mxD σ n).2.1 p c = bN (fun l => σ 195 l) (fun l => σ (3 + 7 * c) l) p 26 := rfl
  rw [h_K, h_B]
  refine CT.ofJ (own := RX4) (cc := cX4_weighPart) (n := 8) (ret := none) (by decide) rfl cw_X4_weighPart (by decide) (Nat.le_of_ble_eq_true rfl) (ls := [some (rf (EC x) 194), some (iv p), some (iv c), none, none, none, none, none]) rfl ?_
  intro X G
  refine j_lconstI G 0 dX4_weighPart_0 (by decide) ?_
  refine j_lstore3 G dX4_weighPart_1 (by decide) rfl ?_
  refine j_iconst G dX4_weighPart_2 ?_
  refine j_istore5 G dX4_weighPart_3 (by decide) rfl ?_
  refine j_iconst G dX4_weighPart_5 ?_
  refine j_istore6 G dX4_weighPart_6 (by decide) rfl ?_
  refine j_pc (p2 := 8) rfl ?_
  refine j_weak (ls' := [some (rf (EC x) 194), some (iv p), some (iv c), some (.long (lgN (bN (fun l => σ 195 l) (fun l => σ (3 + 7 * c) l) p 0))), none, some (iv (sm (fun l => sm (fun d => dfS σ (fun l => decide (σ 195 l = (p : Int))) (fun l => σ (3 + 7 * c) l) d l * onS σ n d) 5) 0)), some (iv ((0 : Nat) : Int)), none]) ?_ ⟨rfl, rfl, rfl, rfl, rfl, rfl, trivial⟩
  generalize h_bb : (fun m : Nat => bN (fun l => σ 195 l) (fun l => σ (3 + 7 * c) l) p m) = bb
  generalize h_kk : (fun m : Nat => sm (fun l => sm (fun d => dfS σ (fun l => decide (σ 195 l = (p : Int))) (fun l => σ (3 + 7 * c) l) d l * onS σ n d) 5) m) = kk
  have h_b1 : ∀ m, bN (fun l => σ 195 l) (fun l => σ (3 + 7 * c) l) p m = bb m := fun m => congrFun h_bb m
  have h_k1 : ∀ m, sm (fun l => sm (fun d => dfS σ (fun l => decide (σ 195 l = (p : Int))) (fun l => σ (3 + 7 * c) l) d l * onS σ n d) 5) m = kk m := fun m => congrFun h_kk m
  rw [h_b1, h_b1, h_k1, h_k1]
  refine down (Pr := fun l => JJ (EC x) X 1 (rN (up (up τ 198 (5 * (p : Int) + c) (lgN (bb 26)).toInt) 199 (5 * (p : Int) + c) (kk 26))) 8 8 [some (rf (EC x) 194), some (iv p), some (iv c), some (.long (lgN (bb l))), none, some (iv (kk l)), some (iv l), none] [] τ) 26 ?_ 0 (Nat.zero_le _)
  intro l h_l ih
  have h_bs : bb (l + 1) = if σ 195 l = (p : Int) then bb l ||| (if (σ (3 + 7 * c) l).toNat = 0 ∨ (bb l).testBit (σ (3 + 7 * c) l).toNat = true then 1 else 2 ^ (σ (3 + 7 * c) l).toNat) else bb l := by rw [← h_b1 (l + 1), ← h_b1 l]; rfl
  have h_ks : kk (l + 1) = kk l + sm (fun d => dfS σ (fun l => decide (σ 195 l = (p : Int))) (fun l => σ (3 + 7 * c) l) d l * onS σ n d) 5 := by rw [← h_k1 (l + 1), ← h_k1 l]; rfl
  have h_kr := h_dr l h_l
  rw [h_k1] at h_kr
  have h_br := h_bl l h_l
  rw [h_b1] at h_br
  have h_pl := h_wp l (by omega)
  refine j_iload G dX4_weighPart_8 rfl ?_
  refine j_bipush G dX4_weighPart_10 (by decide) ?_
  refine j_icmp_ge G dX4_weighPart_12 (tgt := 68) (by decide) (by omega) (by omega) (fun c_12 => ?_) (fun c_12 => ?_)
  · obtain rfl : l = 26 := by omega
    first | refine j_aload_n G dX4_weighPart_68 rfl ?_ | refine j_aload_nN G dX4_weighPart_68 rfl ?_
    refine j_getr G fl_X4_21 dX4_weighPart_69 (by first | exact rfl | assumption) (by rfl) ?_
    refine j_iload_n G dX4_weighPart_72 rfl ?_
    refine j_iconst G dX4_weighPart_73 ?_
    refine j_imul G dX4_weighPart_74 ?_
    rw [Int.mul_comm (p : Int) 5]
    refine j_iload_n G dX4_weighPart_75 rfl ?_
    refine j_iadd G dX4_weighPart_76 ?_
    refine j_lload_n G dX4_weighPart_77 rfl ?_
    refine j_lastore G dX4_weighPart_78 (by first | exact rfl | assumption) (by omega) ?_
    first | refine j_aload_n G dX4_weighPart_79 rfl ?_ | refine j_aload_nN G dX4_weighPart_79 rfl ?_
    refine j_getr G fl_X4_25 dX4_weighPart_80 (by first | exact rfl | assumption) (by rfl) ?_
    refine j_pc (p2 := 83) rfl ?_
    refine j_iload_n G dX4_weighPart_83 rfl ?_
    refine j_iconst G dX4_weighPart_84 ?_
    refine j_imul G dX4_weighPart_85 ?_
    rw [Int.mul_comm (p : Int) 5]
    refine j_iload_n G dX4_weighPart_86 rfl ?_
    refine j_iadd G dX4_weighPart_87 ?_
    refine j_iload G dX4_weighPart_88 rfl ?_
    refine j_iastore G dX4_weighPart_90 (by first | exact rfl | assumption) (by omega) (by omega) ?_
    refine j_return G dX4_weighPart_91 ?_
    exact ⟨rfl, rfl⟩
  · first | refine j_aload_n G dX4_weighPart_15 rfl ?_ | refine j_aload_nN G dX4_weighPart_15 rfl ?_
    refine j_getr G fl_X4_9 dX4_weighPart_16 (by first | exact rfl | assumption) (by rfl) ?_
    refine j_iload G dX4_weighPart_19 rfl ?_
    refine j_iaload G dX4_weighPart_21 (by first | exact rfl | assumption) (by omega) (fun r_21 => ?_)
    try simp (disch := omega) only [up_same, up_cell, up_idx, cpm_at, fil_at] at r_21 ⊢
    rw [h_o 195 (by omega)] at *
    refine j_iload_n G dX4_weighPart_22 rfl ?_
    refine j_icmp_ne G dX4_weighPart_23 (tgt := 62) (by decide) (by omega) (by omega) (fun c_23 => ?_) (fun c_23 => ?_)
    · rw [if_neg (by omega)] at h_bs
      have h_sl : ¬ decide (σ 195 l = (p : Int)) = true := by rw [decide_eq_false (by omega)]; decide
      rw [df_no σ (fun l => decide (σ 195 l = (p : Int))) (fun l => σ (3 + 7 * c) l) (onS σ n) l h_sl, Int.add_zero] at h_ks
      rw [← h_bs, ← h_ks]
      refine j_iinc6 G dX4_weighPart_62 (by decide) rfl rfl ?_
      refine j_goto G dX4_weighPart_65 (tgt := 8) (by decide) ?_
      refine j_pc (p2 := 8) rfl ?_
      exact ih (by omega)
    · rw [if_pos (by omega)] at h_bs
      have h_cv := h_cl l (by omega) (by omega)
      obtain ⟨v, h_v63, h_ve⟩ := nat_of (n := 63) h_cv
      rw [h_ve, Int.toNat_natCast] at h_bs
      have h_sl : decide (σ 195 l = (p : Int)) = true := decide_eq_true (by omega)
      have h_df := df_ow σ (fun l => decide (σ 195 l = (p : Int))) (fun l => σ (3 + 7 * c) l) (onS σ n) l h_sl
      first | refine j_aload_n G dX4_weighPart_26 rfl ?_ | refine j_aload_nN G dX4_weighPart_26 rfl ?_
      refine j_getr G fl_X4_31 dX4_weighPart_27 (by first | exact rfl | assumption) (by rfl) ?_
      refine j_iload_n G dX4_weighPart_30 rfl ?_
      refine j_aaload G dX4_weighPart_31 (by first | exact rfl | assumption) (by decide) (by omega) (ly_codes (by omega)) ?_
      refine j_getr G fl_X4_41 dX4_weighPart_32 (by first | exact rfl | assumption) (by rfl) ?_
      refine j_iload G dX4_weighPart_35 rfl ?_
      refine j_iaload G dX4_weighPart_37 (by first | exact rfl | assumption) (by omega) (fun r_37 => ?_)
      try simp (disch := omega) only [up_same, up_cell, up_idx, cpm_at, fil_at] at r_37 ⊢
      rw [h_o (3 + 7 * c) (by omega), h_ve] at *
      refine j_istore7 G dX4_weighPart_38 (by decide) rfl ?_
      refine j_lload_n G dX4_weighPart_40 rfl ?_
      refine j_iload G dX4_weighPart_41 rfl ?_
      refine j_lload_n G dX4_weighPart_43 rfl ?_
      refine j_pc (p2 := 44) rfl ?_
      refine j_callS G ms_X4_46 dX4_weighPart_44 (c_cellBit v (bb l) (by omega) h_br) rfl rfl (by exact Nat.le_of_ble_eq_true rfl) (by decide) (kV ?_)
      refine j_lor G dX4_weighPart_47 ?_
      rw [lN_or, ← h_bs]
      refine j_lstore3 G dX4_weighPart_48 (by decide) rfl ?_
      refine j_iload G dX4_weighPart_49 rfl ?_
      first | refine j_aload_n G dX4_weighPart_51 rfl ?_ | refine j_aload_nN G dX4_weighPart_51 rfl ?_
      refine j_iload G dX4_weighPart_52 rfl ?_
      refine j_iload G dX4_weighPart_54 rfl ?_
      refine j_callV G mv_X4_50 dX4_weighPart_56 (c_strangers l v (by omega) (by omega) (onS σ n) h_ow h_or) (by first | exact rfl | assumption) (by decide) (by rfl) rfl rfl (by exact Nat.le_of_ble_eq_true rfl) (by decide) (kI ?_)
      rw [sm_cg (g2 := fun d => if σ (3 + 7 * d) l = (v : Int) then 0 else onS σ n d) 5 (fun d h_d => by rw [h_o (3 + 7 * d) (by omega)]), h_df]
      refine j_iadd G dX4_weighPart_59 ?_
      rw [← h_ks]
      refine j_istore5 G dX4_weighPart_60 (by decide) rfl ?_
      refine j_iinc6 G dX4_weighPart_62 (by decide) rfl rfl ?_
      refine j_goto G dX4_weighPart_65 (tgt := 8) (by decide) ?_
      refine j_pc (p2 := 8) rfl ?_
      exact j_weak (ih (by omega)) ⟨rfl, rfl, rfl, rfl, rfl, rfl, trivial⟩
def BW (τ : MemT) (q : MX) : Prop := (∀ p c : Nat, p < 7 → c < 5 → τ 198 (5 * (p : Int) + c) = (lgN (q.2.1 p c)).toInt ∧ τ 199 (5 * (p : Int) + c) = q.1 p c)
def QR (q : MX) : Prop := ∀ p c : Nat, p < 7 → c < 5 → q.2.1 p c < 2 ^ 64 ∧ (0 ≤ q.1 p c ∧ q.1 p c ≤ 2600) ∧ (q.2.1 p c = 0 ↔ ¬ q.2.2 p = true)
theorem LF_rg (q : MX) (h : QR q) : ∀ r, r ≤ 7 → 0 ≤ LF q r ∧ LF q r ≤ 268435456
  | 0, _ => by show (0 : Int) ≤ 0 ∧ (0 : Int) ≤ 268435456; omega
  | r + 1, h_r => by
    have h_1 := LF_rg q h r (by omega)
    have h_2 : 0 ≤ lsC q (6 - r) := by
      unfold lsC
      rcases lsM_is (P := fun c => decide ((q.2.1 (6 - r) c) &&& 1 = 0)) (g := fun c => q.1 (6 - r) c) (i0 := 268435456) 5 with h_3 | ⟨s, h_3, -, h_4⟩
      · omega
      · have := (h (6 - r) s (by omega) h_3).2.1
        omega
    show 0 ≤ min 268435456 (LF q r + lsC q (6 - r)) ∧ min 268435456 (LF q r + lsC q (6 - r)) ≤ 268435456
    omega
theorem c_sumLeast (q : MX) (h_q : QR q) (h_b : BW σ q) : CT (EC x) 1 yX4_sumLeast [rf (EC x) 194] σ (fun r τ => r = none ∧ Ons (· = 200) σ τ ∧ ∀ r : Nat, r ≤ 7 → τ 200 (7 - (r : Int)) = LF q r) := by
  have h_lf := LF_rg q h_q
  refine CT.ofJ (own := RX4) (cc := cX4_sumLeast) (n := 4) (ret := none) (by decide) rfl cw_X4_sumLeast (by decide) (Nat.le_of_ble_eq_true rfl) (ls := [some (rf (EC x) 194), none, none, none]) rfl ?_
  intro X G
  have h_lp : ∀ i : Nat, i ≤ 7 → ∀ τ : MemT, Ons (· = 200) σ τ → (∀ r : Nat, r + i ≤ 7 → τ 200 (7 - (r : Int)) = LF q r) → JJ (EC x) X 1 (fun r τ => r = none ∧ Ons (· = 200) σ τ ∧ ∀ r : Nat, r ≤ 7 → τ 200 (7 - (r : Int)) = LF q r) 4 11 [some (rf (EC x) 194), some (iv ((i : Int) - 1)), none, none] [] τ := by
    intro i
    induction i with
    | zero =>
      intro h_i τ h_o h_v
      · refine j_iload_n G dX4_sumLeast_11 rfl ?_
        refine j_if_lt G dX4_sumLeast_12 (tgt := 90) (by decide) (by omega) (fun c_12 => ?_) (fun c_12 => ?_)
        · refine j_return G dX4_sumLeast_90 ?_
          exact ⟨rfl, h_o, fun r h_r => h_v r (by omega)⟩
        · omega
    | succ i ih =>
      intro h_i τ h_o h_v
      rw [show ((i + 1 : Nat) : Int) - 1 = i by omega]
      · refine j_iload_n G dX4_sumLeast_11 rfl ?_
        refine j_if_lt G dX4_sumLeast_12 (tgt := 90) (by decide) (by omega) (fun c_12 => ?_) (fun c_12 => ?_)
        · omega
        · refine j_ldc G kc_X4_61 dX4_sumLeast_15 (z := 268435456) (by decide) ?_
          refine j_istore2 G dX4_sumLeast_17 (by decide) rfl ?_
          refine j_iconst G dX4_sumLeast_18 ?_
          refine j_istore3 G dX4_sumLeast_19 (by decide) rfl ?_
          refine j_pc (p2 := 20) rfl ?_
          refine j_weak (ls' := [some (rf (EC x) 194), some (iv i), some (iv (lsM (fun c => decide ((q.2.1 i c) &&& 1 = 0)) (fun c => q.1 i c) 268435456 0)), some (iv ((0 : Nat) : Int))]) ?_ ⟨rfl, rfl, rfl, rfl, trivial⟩
          refine down (Pr := fun c => JJ (EC x) X 1 (fun r τ => r = none ∧ Ons (· = 200) σ τ ∧ ∀ r : Nat, r ≤ 7 → τ 200 (7 - (r : Int)) = LF q r) 4 20 [some (rf (EC x) 194), some (iv i), some (iv (lsM (fun c => decide ((q.2.1 i c) &&& 1 = 0)) (fun c => q.1 i c) 268435456 c)), some (iv c)] [] τ) 5 ?_ 0 (Nat.zero_le _)
          intro c h_c ih2
          have h_le := (lsM_le (P := fun c => decide ((q.2.1 i c) &&& 1 = 0)) (g := fun c => q.1 i c) (i0 := 268435456) c).1
          have h_ge : 0 ≤ lsM (fun c => decide ((q.2.1 i c) &&& 1 = 0)) (fun c => q.1 i c) 268435456 c := by
            rcases lsM_is (P := fun c => decide ((q.2.1 i c) &&& 1 = 0)) (g := fun c => q.1 i c) (i0 := 268435456) c with h_3 | ⟨s, h_3, -, h_4⟩
            · omega
            · have := (h_q i s (by omega) (by omega)).2.1
              omega
          have h_ss : lsM (fun c => decide ((q.2.1 i c) &&& 1 = 0)) (fun c => q.1 i c) 268435456 (c + 1) = if decide ((q.2.1 i c) &&& 1 = 0) = true then min (lsM (fun c => decide ((q.2.1 i c) &&& 1 = 0)) (fun c => q.1 i c) 268435456 c) (q.1 i c) else lsM (fun c => decide ((q.2.1 i c) &&& 1 = 0)) (fun c => q.1 i c) 268435456 c := rfl
          have h_lsc : lsC q i = lsM (fun c => decide ((q.2.1 i c) &&& 1 = 0)) (fun c => q.1 i c) 268435456 5 := rfl
          generalize h_LS : lsM (fun c => decide ((q.2.1 i c) &&& 1 = 0)) (fun c => q.1 i c) 268435456 = ls at h_le h_ge h_ss h_lsc ih2 ⊢
          have h_bw : c < 5 → τ 198 (5 * (i : Int) + c) = (lgN (q.2.1 i c)).toInt ∧ τ 199 (5 * (i : Int) + c) = q.1 i c := fun h => by rw [h_o 198 (by decide), h_o 199 (by decide)]; exact h_b i c (by omega) h
          refine j_iload_n G dX4_sumLeast_20 rfl ?_
          refine j_iconst G dX4_sumLeast_21 ?_
          refine j_icmp_ge G dX4_sumLeast_22 (tgt := 63) (by decide) (by omega) (by omega) (fun c_22 => ?_) (fun c_22 => ?_)
          · obtain rfl : c = 5 := by omega
            obtain ⟨r, h_r⟩ : ∃ r : Nat, r + i = 6 := ⟨6 - i, by omega⟩
            have h_vr : τ 200 ((i : Int) + 1) = LF q r := by
              have := h_v r (by omega)
              rw [show (7 : Int) - (r : Int) = (i : Int) + 1 by omega] at this
              exact this
            have h_lr := h_lf r (by omega)
            have h_ls : LF q (r + 1) = min 268435456 (LF q r + ls 5) := by
              show min 268435456 (LF q r + lsC q (6 - r)) = _
              rw [show 6 - r = i by omega, h_lsc]
            first | refine j_aload_n G dX4_sumLeast_63 rfl ?_ | refine j_aload_nN G dX4_sumLeast_63 rfl ?_
            refine j_getr G fl_X4_28 dX4_sumLeast_64 (by first | exact rfl | assumption) (by rfl) ?_
            refine j_iload_n G dX4_sumLeast_67 rfl ?_
            refine j_ldc G kc_X4_61 dX4_sumLeast_68 (z := 268435456) (by decide) ?_
            first | refine j_aload_n G dX4_sumLeast_70 rfl ?_ | refine j_aload_nN G dX4_sumLeast_70 rfl ?_
            refine j_getr G fl_X4_28 dX4_sumLeast_71 (by first | exact rfl | assumption) (by rfl) ?_
            refine j_iload_n G dX4_sumLeast_74 rfl ?_
            refine j_iconst G dX4_sumLeast_75 ?_
            refine j_iadd G dX4_sumLeast_76 ?_
            refine j_iaload G dX4_sumLeast_77 (by first | exact rfl | assumption) (by omega) (fun r_77 => ?_)
            try simp (disch := omega) only [up_same, up_cell, up_idx, cpm_at, fil_at] at r_77 ⊢
            rw [h_vr]
            refine j_iload_n G dX4_sumLeast_78 rfl ?_
            refine j_pc (p2 := 79) rfl ?_
            refine j_iadd G dX4_sumLeast_79 ?_
            refine j_min G ms_X4_73 dX4_sumLeast_80 (by omega) (by omega) (by decide) (by exact Nat.le_of_ble_eq_true rfl) ?_
            refine j_iastore G dX4_sumLeast_83 (by first | exact rfl | assumption) (by omega) (by omega) ?_
            refine j_iinc1 G dX4_sumLeast_84 (by decide) rfl rfl ?_
            refine j_goto G dX4_sumLeast_87 (tgt := 11) (by decide) ?_
            refine j_pc (p2 := 11) rfl ?_
            refine j_weak (ih (by omega) _ (h_o.up rfl) (fun s h_s => ?_)) ⟨rfl, rfl, trivial⟩
            by_cases h_e : s = r + 1
            · rw [h_e, show (7 : Int) - ((r + 1 : Nat) : Int) = (i : Int) by omega, up_same, h_ls]
            · rw [up_idx (by omega)]
              exact h_v s (by omega)
          · first | refine j_aload_n G dX4_sumLeast_25 rfl ?_ | refine j_aload_nN G dX4_sumLeast_25 rfl ?_
            refine j_getr G fl_X4_21 dX4_sumLeast_26 (by first | exact rfl | assumption) (by rfl) ?_
            refine j_iload_n G dX4_sumLeast_29 rfl ?_
            refine j_iconst G dX4_sumLeast_30 ?_
            refine j_imul G dX4_sumLeast_31 ?_
            rw [Int.mul_comm (i : Int) 5]
            refine j_iload_n G dX4_sumLeast_32 rfl ?_
            refine j_iadd G dX4_sumLeast_33 ?_
            refine j_laload G dX4_sumLeast_34 (by first | exact rfl | assumption) (by omega) ?_
            obtain ⟨h_b1, h_b2⟩ := h_bw (by omega)
            obtain ⟨h_q1, h_q2, -⟩ := h_q i c (by omega) (by omega)
            rw [h_b1, lN_ti]
            have h_al : q.2.1 i c &&& 1 ≤ q.2.1 i c := Nat.and_le_left
            have h_cz := lgc_z (a := q.2.1 i c &&& 1) (b := 0) (Nat.lt_of_le_of_lt h_al h_q1) (by decide)
            refine j_lconstI G 1 dX4_sumLeast_35 (by decide) ?_
            refine j_land G dX4_sumLeast_36 ?_
            refine j_lconstI G 0 dX4_sumLeast_37 (by decide) ?_
            refine j_pc (p2 := 38) rfl ?_
            rw [lgI_1, lN_and, lgI_0]
            refine j_lcmp G dX4_sumLeast_38 ?_
            refine j_if_ne G dX4_sumLeast_39 (tgt := 57) (by decide) (lg_rg _ _) (fun c_39 => ?_) (fun c_39 => ?_)
            · rw [decide_eq_false (fun z => c_39 (h_cz.2 z)), if_neg (by decide)] at h_ss
              rw [← h_ss]
              refine j_iinc3 G dX4_sumLeast_57 (by decide) rfl rfl ?_
              refine j_goto G dX4_sumLeast_60 (tgt := 20) (by decide) ?_
              refine j_pc (p2 := 20) rfl ?_
              exact ih2 (by omega)
            · refine j_iload_n G dX4_sumLeast_42 rfl ?_
              first | refine j_aload_n G dX4_sumLeast_43 rfl ?_ | refine j_aload_nN G dX4_sumLeast_43 rfl ?_
              refine j_getr G fl_X4_25 dX4_sumLeast_44 (by first | exact rfl | assumption) (by rfl) ?_
              refine j_iload_n G dX4_sumLeast_47 rfl ?_
              refine j_iconst G dX4_sumLeast_48 ?_
              refine j_imul G dX4_sumLeast_49 ?_
              rw [Int.mul_comm (i : Int) 5]
              refine j_iload_n G dX4_sumLeast_50 rfl ?_
              refine j_iadd G dX4_sumLeast_51 ?_
              refine j_iaload G dX4_sumLeast_52 (by first | exact rfl | assumption) (by omega) (fun r_52 => ?_)
              try simp (disch := omega) only [up_same, up_cell, up_idx, cpm_at, fil_at] at r_52 ⊢
              rw [h_b2]
              refine j_min G ms_X4_73 dX4_sumLeast_53 (by omega) (by omega) (by decide) (by exact Nat.le_of_ble_eq_true rfl) ?_
              rw [decide_eq_true (h_cz.1 c_39), if_pos rfl] at h_ss
              refine j_istore2 G dX4_sumLeast_56 (by decide) rfl ?_
              refine j_pc (p2 := 57) rfl ?_
              refine j_iinc3 G dX4_sumLeast_57 (by decide) rfl rfl ?_
              refine j_goto G dX4_sumLeast_60 (tgt := 20) (by decide) ?_
              refine j_pc (p2 := 20) rfl ?_
              rw [← h_ss]
              exact ih2 (by omega)
  first | refine j_aload_n G dX4_sumLeast_0 rfl ?_ | refine j_aload_nN G dX4_sumLeast_0 rfl ?_
  refine j_getr G fl_X4_28 dX4_sumLeast_1 (by first | exact rfl | assumption) (by rfl) ?_
  refine j_bipush G dX4_sumLeast_4 (by decide) ?_
  refine j_iconst G dX4_sumLeast_6 ?_
  refine j_iastore G dX4_sumLeast_7 (by first | exact rfl | assumption) (by omega) (by omega) ?_
  refine j_bipush G dX4_sumLeast_8 (by decide) ?_
  refine j_istore1 G dX4_sumLeast_10 (by decide) rfl ?_
  refine j_pc (p2 := 11) rfl ?_
  refine j_weak (h_lp 7 (by omega) _ ((Ons.rf _ _).up rfl) (fun r h_r => ?_)) ⟨rfl, rfl, trivial⟩
  obtain rfl : r = 0 := by omega
  exact up_same _ _ _ _
end BT
