def twN (σ : MemT) (b c m S : Nat) : Nat → Int
  | 0 => 0
  | w + 1 => if 0 < σ (61 + b) w then min 268435456 (twN σ b c m S w + (if cwW σ c m w S = 268435456 then 268435456 else σ (61 + b) w * cwW σ c m w S)) else twN σ b c m S w
theorem twN_s (σ : MemT) (b c m S w : Nat) : twN σ b c m S (w + 1) = if 0 < σ (61 + b) w then min 268435456 (twN σ b c m S w + (if cwW σ c m w S = 268435456 then 268435456 else σ (61 + b) w * cwW σ c m w S)) else twN σ b c m S w := rfl
def usP (σ : MemT) (b m n r : Nat) : Prop := ∃ w : Nat, w < n ∧ 0 < σ (61 + b) w ∧ inP σ m w r
theorem cwW_rg {σ : MemT} {c m n w : Nat} (h_ww : WfWord σ) (h_n : σ 57 3 = n) (h_w : w < n) (h_m : RoO σ m) (S : Nat) : cwv 10 (cwW σ c m w S) := by
  have h_z := (WdO h_ww h_n h_w).2.2.1
  rcases cwA_v (c := c) (t := wtx σ w) (z := wsz σ w) h_m (fun r => S.testBit r) 0 (by omega) with h | h
  · exact Or.inl h
  · refine Or.inr ?_
    unfold cwW
    omega
theorem twN_rg {σ : MemT} {b c m n : Nat} (h_b : b < 8) (h_ww : WfWord σ) (h_n : σ 57 3 = n) (h_m : RoO σ m) (S : Nat) : ∀ w, w ≤ n → 0 ≤ twN σ b c m S w ∧ twN σ b c m S w ≤ 268435456 ∧ (twN σ b c m S w < 268435456 → twN σ b c m S w ≤ 10000 * w)
  | 0, _ => by show (0 : Int) ≤ 0 ∧ (0 : Int) ≤ _ ∧ ((0 : Int) < _ → (0 : Int) ≤ _); omega
  | w + 1, h_w => by
    have h_1 := twN_rg (c := c) h_b h_ww h_n h_m S w (by omega)
    have h_30 : n ≤ 30 := (WdO h_ww h_n (show w < n by omega)).1
    have h_2 := h_ww.2.2.2 b h_b w (by omega) (by omega)
    rw [twN_s]
    split
    · rename_i h_0
      rcases cwW_rg (c := c) h_ww h_n (show w < n by omega) h_m S with h_3 | h_3
      · rw [if_pos h_3]
        omega
      · rw [if_neg (by omega)]
        have h_4 := Int.mul_nonneg h_2.1 h_3.1
        have h_5 : σ (61 + b) w * cwW σ c m w S ≤ 1000 * 10 := Int.mul_le_mul h_2.2 h_3.2 h_3.1 (by omega)
        omega
    · omega
theorem twN_cg {σ : MemT} {b c m S T : Nat} : ∀ n, (∀ w, w < n → 0 < σ (61 + b) (w : Nat) → cwW σ c m w S = cwW σ c m w T) → twN σ b c m S n = twN σ b c m T n
  | 0, _ => rfl
  | n + 1, h => by
    rw [twN_s, twN_s, twN_cg n (fun w h_w => h w (by omega))]
    by_cases h_0 : 0 < σ (61 + b) n
    · rw [if_pos h_0, if_pos h_0, h n (by omega) h_0]
    · rw [if_neg h_0, if_neg h_0]
theorem popN_mono {a b : Nat} : ∀ n, (∀ v, a.testBit v = true → b.testBit v = true) → popN a n ≤ popN b n
  | 0, _ => Nat.le_refl _
  | n + 1, h => by
    have ih := popN_mono n h
    show popN a n + (if a.testBit n = true then 1 else 0) ≤ popN b n + (if b.testBit n = true then 1 else 0)
    by_cases h_1 : a.testBit n = true
    · rw [if_pos h_1, if_pos (h n h_1)]
      omega
    · rw [if_neg h_1]
      omega
section RC
variable {E : EE} {x x1 x2 : CX} {μ σ τ : MemT}
theorem c_usefulRows (b n m : Nat) (h_b : b < 8) (h_n : σ 57 3 = n) (h_ww : WfWord σ) (h_wr : WfRow σ) (h_m : RoO σ m) : CT (EC x) 2 yX0_usefulRows [rf (EC x) 56, iv b] σ (rP (fun y τ2 => ∃ U : Nat, y = U ∧ U < 2 ^ m ∧ (∀ r, U.testBit r = true ↔ usP σ b m n r) ∧ Ons scB σ τ2)) := by
  obtain ⟨h_y1, h_y2⟩ := ly_books (x := x) h_b
  have h_30 : n ≤ 30 := by have := h_ww.2.1; omega
  have h_2m : 2 ^ m ≤ 2 ^ 12 := Nat.pow_le_pow_right (by decide) h_m.2.1
  refine CT.ofJ (own := RX0) (cc := cX0_usefulRows) (n := 4) (ret := (some .int)) (by decide) rfl cw_X0_usefulRows (by decide) (Nat.le_of_ble_eq_true rfl) (ls := [some (rf (EC x) 56), some (iv b), none, none]) rfl ?_
  intro X G
  refine j_iconst G dX0_usefulRows_0 ?_
  refine j_istore2 G dX0_usefulRows_1 (by decide) rfl ?_
  refine j_iconst G dX0_usefulRows_2 ?_
  refine j_istore3 G dX0_usefulRows_3 (by decide) rfl ?_
  refine j_pc (p2 := 4) rfl ?_
  refine j_weak (ls' := [some (rf (EC x) 56), some (iv b), some (iv ((0 : Nat) : Int)), some (iv ((0 : Nat) : Int))]) ?_ ⟨rfl, rfl, rfl, rfl, trivial⟩
  refine down (Pr := fun w => ∀ (τ : MemT) (U : Nat), Ons scB σ τ → U < 2 ^ m → (∀ r, U.testBit r = true ↔ usP σ b m w r) → JJ (EC x) X 2 (rP (fun y τ2 => ∃ U : Nat, y = U ∧ U < 2 ^ m ∧ (∀ r, U.testBit r = true ↔ usP σ b m n r) ∧ Ons scB σ τ2)) 4 4 [some (rf (EC x) 56), some (iv b), some (iv U), some (iv w)] [] τ) n ?_ 0 (Nat.zero_le _) σ 0 (Ons.rf _ _) (Nat.two_pow_pos _) (fun r => ⟨fun h => by rw [Nat.zero_testBit] at h; exact absurd h (by decide), fun ⟨w, h_w, _⟩ => absurd h_w (Nat.not_lt_zero _)⟩)
  intro w h_w ih τ U h_o h_U h_Ub
  refine j_iload_n G dX0_usefulRows_4 rfl ?_
  first | refine j_aload_n G dX0_usefulRows_5 rfl ?_ | refine j_aload_nN G dX0_usefulRows_5 rfl ?_
  refine j_getr G fl_X0_14 dX0_usefulRows_6 (by first | exact rfl | assumption) (by rfl) ?_
  refine j_geti G fl_X0_48 dX0_usefulRows_9 3 rfl (by first | exact rfl | assumption) (by rfl) (fun r_9 => ?_)
  try simp (disch := omega) only [up_same, up_cell, up_idx, cpm_at, fil_at] at r_9 ⊢
  rw [h_o 57 (by unfold scB; omega), h_n]
  refine j_icmp_ge G dX0_usefulRows_12 (tgt := 44) (by decide) (by omega) (by omega) (fun c_12 => ?_) (fun c_12 => ?_)
  · refine j_iload_n G dX0_usefulRows_44 rfl ?_
    refine j_ireturn G dX0_usefulRows_45 ?_
    obtain rfl : w = n := by omega
    exact ⟨_, rfl, U, rfl, h_U, h_Ub, h_o⟩
  · have h_cr := h_ww.2.2.2 b h_b w (by omega) (by omega)
    refine j_iload_n G dX0_usefulRows_15 rfl ?_
    first | refine j_aload_n G dX0_usefulRows_16 rfl ?_ | refine j_aload_nN G dX0_usefulRows_16 rfl ?_
    refine j_getr G fl_X0_22 dX0_usefulRows_17 (by first | exact rfl | assumption) (by rfl) ?_
    refine j_iload_n G dX0_usefulRows_20 rfl ?_
    refine j_aaload G dX0_usefulRows_21 (by first | exact rfl | assumption) (by decide) (by omega) h_y1 ?_
    refine j_iload_n G dX0_usefulRows_22 rfl ?_
    refine j_iaload G dX0_usefulRows_23 (by first | exact rfl | assumption) (by omega) (fun r_23 => ?_)
    try simp (disch := omega) only [up_same, up_cell, up_idx, cpm_at, fil_at] at r_23 ⊢
    rw [h_o (61 + b) (by unfold scB; omega)] at *
    refine j_if_le G dX0_usefulRows_24 (tgt := 35) (by decide) (by omega) (fun c_24 => ?_) (fun c_24 => ?_)
    · refine j_iconst G dX0_usefulRows_35 ?_
      refine j_ior G dX0_usefulRows_36 ?_
      rw [or32_z (by omega)]
      refine j_istore2 G dX0_usefulRows_37 (by decide) rfl ?_
      refine j_iinc3 G dX0_usefulRows_38 (by decide) rfl rfl ?_
      refine j_goto G dX0_usefulRows_41 (tgt := 4) (by decide) ?_
      refine j_pc (p2 := 4) rfl ?_
      refine ih (by omega) τ U h_o h_U (fun r => ?_)
      rw [h_Ub]
      unfold usP
      constructor
      · rintro ⟨v, h_1, h_2⟩
        exact ⟨v, by omega, h_2⟩
      · rintro ⟨v, h_1, h_2, h_3⟩
        exact ⟨v, Nat.lt_of_le_of_ne (by omega) (fun z => by rw [z] at h_2; omega), h_2, h_3⟩
    · first | refine j_aload_n G dX0_usefulRows_27 rfl ?_ | refine j_aload_nN G dX0_usefulRows_27 rfl ?_
      refine j_iload_n G dX0_usefulRows_28 rfl ?_
      refine j_callV G mv_X0_89 dX0_usefulRows_29 (c_placeRows (σ := σ) w n m h_o (by omega) h_n h_ww h_wr h_m) (by first | exact rfl | assumption) (by decide) (by rfl) rfl rfl (by exact Nat.le_of_ble_eq_true rfl) (by first | decide | omega) (kP (fun y τ2 h_y => ?_))
      obtain ⟨I, rfl, h_I, h_Ib, h_o2, -⟩ := h_y
      refine j_goto G dX0_usefulRows_32 (tgt := 36) (by decide) ?_
      refine j_ior G dX0_usefulRows_36 ?_
      rw [or32_nat (by omega) (by omega)]
      refine j_istore2 G dX0_usefulRows_37 (by decide) rfl ?_
      refine j_iinc3 G dX0_usefulRows_38 (by decide) rfl rfl ?_
      refine j_goto G dX0_usefulRows_41 (tgt := 4) (by decide) ?_
      refine j_pc (p2 := 4) rfl ?_
      refine ih (by omega) τ2 (U ||| I) (h_o.tr (h_o2.wk (fun j h => by unfold scB; omega))) (Nat.or_lt_two_pow h_U h_I) (fun r => ?_)
      rw [Nat.testBit_or, Bool.or_eq_true, h_Ub, h_Ib]
      unfold usP
      constructor
      · rintro (⟨v, h_1, h_2⟩ | h_1)
        · exact ⟨v, by omega, h_2⟩
        · exact ⟨w, by omega, c_24, h_1⟩
      · rintro ⟨v, h_1, h_2, h_3⟩
        by_cases h_e : v = w
        · rw [h_e] at h_3
          exact Or.inr h_3
        · exact Or.inl ⟨v, by omega, h_2, h_3⟩
theorem cw_in {c m n w S U I : Nat} (h_m : RoO σ m) (h_U : goS σ m U) (h_S : sub S U) (h_I : ∀ r, I.testBit r = true ↔ inP σ m w r) : cwW σ c m w (S &&& I) = cwW σ c m w S := by
  refine cwA_eq h_m (fun p r h_p h_r h_1 h_2 => ?_) (fun p r h_p h_r h_1 h_2 => ?_) 0 (Nat.zero_le _)
  · rw [Nat.testBit_and, Bool.and_eq_true] at h_1
    exact ⟨r, h_r, h_1.1, h_2, rfl⟩
  · refine ⟨r, h_r, ?_, h_2, rfl⟩
    rw [Nat.testBit_and, h_1, Bool.true_and, h_I]
    exact ⟨h_r, (h_U r (h_S r h_1)).2, p, h_p, h_2⟩
theorem c_sumSets (b n m c U k : Nat) (τ : MemT) (h_o : Ons scB σ τ) (h_b : b < 8) (h_n : σ 57 3 = n) (h_c : c < 5) (h_wc : WfCode σ c) (h_ww : WfWord σ) (h_wr : WfRow σ) (h_m : RoO σ m) (h_U : goS σ m U) (h_k : k ≤ 12) : CT (EC x) 3 yX0_sumSets [rf (EC x) 56, iv b, rf (EC x) (2 + 7 * c), iv U, iv k] τ (fun r τ2 => r = none ∧ Ons scB σ τ2 ∧ ∀ s : Nat, sub s U → popN s 12 ≤ k → τ2 76 s = twN σ b c m s n) := by
  obtain ⟨h_y1, h_y2⟩ := ly_books (x := x) h_b
  have h_30 : n ≤ 30 := by have := h_ww.2.1; omega
  have h_U4 := goS_lt h_U h_m.2.1
  have h_pU := popN_le U 12
  have h_sl := shl32_one (popN U 12) (by omega)
  have h_2p : 2 ^ popN U 12 ≤ 2 ^ 12 := Nat.pow_le_pow_right (by decide) h_pU
  have h_2m : 2 ^ m ≤ 2 ^ 12 := Nat.pow_le_pow_right (by decide) h_m.2.1
  have h_tr := fun S => twN_rg (c := c) h_b h_ww h_n h_m S
  have h_inj : ∀ a i, a < 2 ^ popN U 12 → i < 2 ^ popN U 12 → a ≠ i → pd 12 U a ≠ pd 12 U i := fun a i h_a h_i h_ne h_e => by
    rcases Nat.lt_or_ge a i with h | h
    · have := pd_lt 12 U a i h h_i
      omega
    · have := pd_lt 12 U i a (by omega) h_a
      omega
  have h_lt4 : ∀ i, pd 12 U i ≤ U := fun i => sub_le 12 _ _ h_U4 (pd_sub 12 U i)
  refine CT.ofJ (own := RX0) (cc := cX0_sumSets) (n := 11) (ret := none) (by decide) rfl cw_X0_sumSets (by decide) (Nat.le_of_ble_eq_true rfl) (ls := [some (rf (EC x) 56), some (iv b), some (rf (EC x) (2 + 7 * c)), some (iv U), some (iv k), none, none, none, none, none, none]) rfl ?_
  intro X G
  generalize h_post : (fun (r : Option Value) (τ2 : MemT) => r = none ∧ Ons scB σ τ2 ∧ ∀ s : Nat, sub s U → popN s 12 ≤ k → τ2 76 s = twN σ b c m s n) = post
  generalize h_T : (2 ^ popN U 12 : Nat) = T at h_2p h_inj
  refine j_iconst G dX0_sumSets_0 ?_
  refine j_iload_n G dX0_sumSets_1 rfl ?_
  refine j_callS G ms_X0_76 dX0_sumSets_2 (x_bitCount (U : Int)) rfl rfl (by exact Nat.le_of_ble_eq_true rfl) (by first | decide | omega) (kI ?_)
  rw [bcF_pop U (by omega), show ((pop U : Nat) : Int) = (popN U 12 : Nat) from rfl]
  refine j_ishl G dX0_sumSets_5 ?_
  rw [h_sl, h_T]
  refine j_istore5 G dX0_sumSets_6 (by decide) rfl ?_
  first | refine j_aload_n G dX0_sumSets_8 rfl ?_ | refine j_aload_nN G dX0_sumSets_8 rfl ?_
  refine j_getr G fl_X0_41 dX0_sumSets_9 (by first | exact rfl | assumption) (by rfl) ?_
  refine j_iconst G dX0_sumSets_12 ?_
  refine j_callS G ms_X0_92 dX0_sumSets_13 (x_fill 76 4096 0 (by decide) rfl (by decide)) rfl rfl (by exact Nat.le_of_ble_eq_true rfl) (by first | decide | omega) (kN ?_)
  refine j_iconst G dX0_sumSets_16 ?_
  refine j_istore6 G dX0_sumSets_17 (by decide) rfl ?_
  refine j_pc (p2 := 19) rfl ?_
  refine j_weak (ls' := [some (rf (EC x) 56), some (iv b), some (rf (EC x) (2 + 7 * c)), some (iv U), some (iv k), some (iv (T : Int)), some (iv ((0 : Nat) : Int)), none, none, none, none]) ?_ ⟨rfl, rfl, rfl, rfl, rfl, rfl, rfl, trivial⟩
  refine down (Pr := fun w => ∀ τ2 : MemT, Ons scB σ τ2 → (∀ a : Nat, a < T → popN (pd 12 U a) 12 ≤ k → τ2 76 (pd 12 U a : Nat) = twN σ b c m (pd 12 U a) w) → JJ (EC x) X 3 post 11 19 [some (rf (EC x) 56), some (iv b), some (rf (EC x) (2 + 7 * c)), some (iv U), some (iv k), some (iv (T : Int)), some (iv w), none, none, none, none] [] τ2) n ?_ 0 (Nat.zero_le _) _ (h_o.tr (fun j h_j => fil_cell (fun z => h_j (by unfold scB; omega)))) (fun a h_a _ => fil_in (by have := h_lt4 a; omega))
  intro w h_w ih τ2 h_o2 h_v
  refine j_iload G dX0_sumSets_19 rfl ?_
  first | refine j_aload_n G dX0_sumSets_21 rfl ?_ | refine j_aload_nN G dX0_sumSets_21 rfl ?_
  refine j_getr G fl_X0_14 dX0_sumSets_22 (by first | exact rfl | assumption) (by rfl) ?_
  refine j_geti G fl_X0_48 dX0_sumSets_25 3 rfl (by first | exact rfl | assumption) (by rfl) (fun r_25 => ?_)
  try simp (disch := omega) only [up_same, up_cell, up_idx, cpm_at, fil_at] at r_25 ⊢
  rw [h_o2 57 (by unfold scB; omega), h_n]
  refine j_icmp_ge G dX0_sumSets_28 (tgt := 144) (by decide) (by omega) (by omega) (fun c_28 => ?_) (fun c_28 => ?_)
  · refine j_return G dX0_sumSets_144 ?_
    obtain rfl : w = n := by omega
    rw [← h_post]
    refine ⟨rfl, h_o2, fun s h_s h_p => ?_⟩
    obtain ⟨a, h_1, h_2⟩ := pd_all 12 U s h_U4 h_s
    have h_3 := h_v a (by omega) (by rw [h_2]; exact h_p)
    rw [h_2] at h_3
    exact h_3
  · have h_cr := h_ww.2.2.2 b h_b w (by omega) (by omega)
    have h_cwr := fun S => cwW_rg (c := c) h_ww h_n (show w < n by omega) h_m S
    have h_tws := fun S => twN_s σ b c m S w
    first | refine j_aload_n G dX0_sumSets_31 rfl ?_ | refine j_aload_nN G dX0_sumSets_31 rfl ?_
    refine j_getr G fl_X0_22 dX0_sumSets_32 (by first | exact rfl | assumption) (by rfl) ?_
    refine j_iload_n G dX0_sumSets_35 rfl ?_
    refine j_aaload G dX0_sumSets_36 (by first | exact rfl | assumption) (by decide) (by omega) h_y1 ?_
    refine j_iload G dX0_sumSets_37 rfl ?_
    refine j_iaload G dX0_sumSets_39 (by first | exact rfl | assumption) (by omega) (fun r_39 => ?_)
    try simp (disch := omega) only [up_same, up_cell, up_idx, cpm_at, fil_at] at r_39 ⊢
    rw [h_o2 (61 + b) (by unfold scB; omega)] at *
    refine j_istore7 G dX0_sumSets_40 (by decide) rfl ?_
    refine j_iload G dX0_sumSets_42 rfl ?_
    refine j_if_le G dX0_sumSets_44 (tgt := 138) (by decide) (by omega) (fun c_44 => ?_) (fun c_44 => ?_)
    · refine j_iinc6 G dX0_sumSets_138 (by decide) rfl rfl ?_
      refine j_goto G dX0_sumSets_141 (tgt := 19) (by decide) ?_
      refine j_pc (p2 := 19) rfl ?_
      exact j_weak (ih (by omega) τ2 h_o2 (fun a h_a h_p => by rw [h_tws, if_neg (by omega)]; exact h_v a h_a h_p)) ⟨rfl, rfl, rfl, rfl, rfl, rfl, rfl, trivial⟩
    · first | refine j_aload_n G dX0_sumSets_47 rfl ?_ | refine j_aload_nN G dX0_sumSets_47 rfl ?_
      refine j_iload G dX0_sumSets_48 rfl ?_
      refine j_callV G mv_X0_89 dX0_sumSets_50 (c_placeRows (σ := σ) w n m h_o2 (by omega) h_n h_ww h_wr h_m) (by first | exact rfl | assumption) (by decide) (by rfl) rfl rfl (by exact Nat.le_of_ble_eq_true rfl) (by first | decide | omega) (kP (fun y τ3 h_y => ?_))
      obtain ⟨I, rfl, h_I, h_Ib, h_o3, h_73⟩ := h_y
      have h_o4 : Ons scB σ τ3 := h_o2.tr (h_o3.wk (fun j h => by unfold scB; omega))
      have h_gI : goS σ m I := fun r h_r => by obtain ⟨h_1, h_2, -⟩ := (h_Ib r).1 h_r; exact ⟨h_1, h_2⟩
      refine j_istore8 G dX0_sumSets_53 (by decide) rfl ?_
      first | refine j_aload_n G dX0_sumSets_55 rfl ?_ | refine j_aload_nN G dX0_sumSets_55 rfl ?_
      refine j_iload G dX0_sumSets_56 rfl ?_
      first | refine j_aload_n G dX0_sumSets_58 rfl ?_ | refine j_aload_nN G dX0_sumSets_58 rfl ?_
      refine j_iload G dX0_sumSets_59 rfl ?_
      refine j_iload G dX0_sumSets_61 rfl ?_
      refine j_callV G mv_X0_98 dX0_sumSets_63 (c_measureSets (σ := σ) w n m c I k h_o4 (by omega) h_n h_c h_wc h_ww h_m h_gI h_k h_73) (by first | exact rfl | assumption) (by decide) (by rfl) rfl rfl (by exact Nat.le_of_ble_eq_true rfl) (by first | decide | omega) (kM (fun τ4 h_4 => ?_))
      obtain ⟨h_o5, h_75⟩ := h_4
      have h_o6 : Ons scB σ τ4 := h_o4.tr (h_o5.wk (fun j h => by unfold scB; omega))
      have h_v4 : ∀ a : Nat, a < T → popN (pd 12 U a) 12 ≤ k → τ4 76 (pd 12 U a : Nat) = twN σ b c m (pd 12 U a) w := fun a h_a h_p => by rw [h_o5 76 (by omega), h_o3 76 (by decide)]; exact h_v a h_a h_p
      refine j_iconst G dX0_sumSets_66 ?_
      refine j_pc (p2 := 67) rfl ?_
      refine j_istore9 G dX0_sumSets_67 (by decide) rfl ?_
      refine j_iconst G dX0_sumSets_69 ?_
      refine j_istore10 G dX0_sumSets_70 (by decide) rfl ?_
      refine j_pc (p2 := 72) rfl ?_
      refine j_weak (ls' := [some (rf (EC x) 56), some (iv b), some (rf (EC x) (2 + 7 * c)), some (iv U), some (iv k), some (iv (T : Int)), some (iv w), some (iv (σ (61 + b) w)), some (iv I), some (iv ((0 : Nat) : Int)), some (iv ((0 : Nat) : Int))]) ?_ ⟨rfl, rfl, rfl, rfl, rfl, rfl, rfl, rfl, rfl, rfl, rfl, trivial⟩
      refine down (Pr := fun i => ∀ (τ5 : MemT) (sv : Int), Ons (· = 76) τ4 τ5 → (i < T → sv = (pd 12 U i : Nat)) → (∀ a : Nat, a < T → popN (pd 12 U a) 12 ≤ k → τ5 76 (pd 12 U a : Nat) = if a < i then twN σ b c m (pd 12 U a) (w + 1) else twN σ b c m (pd 12 U a) w) → JJ (EC x) X 3 post 11 72 [some (rf (EC x) 56), some (iv b), some (rf (EC x) (2 + 7 * c)), some (iv U), some (iv k), some (iv (T : Int)), some (iv w), some (iv (σ (61 + b) w)), some (iv I), some (iv sv), some (iv i)] [] τ5) T ?_ 0 (Nat.zero_le _) τ4 0 (Ons.rf _ _) (fun _ => by rw [pd_0]; rfl) (fun a h_a h_p => by rw [if_neg (Nat.not_lt_zero _)]; exact h_v4 a h_a h_p)
      intro i h_i ih2 τ5 sv h_o7 h_sv h_v5
      have h_o8 : Ons scB σ τ5 := h_o6.tr (h_o7.wk (fun j h => by unfold scB; omega))
      refine j_iload G dX0_sumSets_72 rfl ?_
      refine j_iload G dX0_sumSets_74 rfl ?_
      refine j_icmp_ge G dX0_sumSets_76 (tgt := 138) (by decide) (by omega) (by omega) (fun c_76 => ?_) (fun c_76 => ?_)
      · refine j_iinc6 G dX0_sumSets_138 (by decide) rfl rfl ?_
        refine j_goto G dX0_sumSets_141 (tgt := 19) (by decide) ?_
        refine j_pc (p2 := 19) rfl ?_
        obtain rfl : i = T := by omega
        exact j_weak (ih (by omega) τ5 h_o8 (fun a h_a h_p => by rw [h_v5 a h_a h_p, if_pos h_a])) ⟨rfl, rfl, rfl, rfl, rfl, rfl, rfl, trivial⟩
      · have h_iT : i < T := by omega
        rw [h_sv h_iT]
        have h_sb := pd_sub 12 U i
        have h_le := h_lt4 i
        have h_124 : ∀ τ6 : MemT, Ons (· = 76) τ4 τ6 → (∀ a : Nat, a < T → popN (pd 12 U a) 12 ≤ k → τ6 76 (pd 12 U a : Nat) = if a < i + 1 then twN σ b c m (pd 12 U a) (w + 1) else twN σ b c m (pd 12 U a) w) → JJ (EC x) X 3 post 11 124 [some (rf (EC x) 56), some (iv b), some (rf (EC x) (2 + 7 * c)), some (iv U), some (iv k), some (iv (T : Int)), some (iv w), some (iv (σ (61 + b) w)), some (iv I), some (iv (pd 12 U i : Nat)), some (iv i)] [] τ6 := by
          intro τ6 h_o9 h_v6
          · refine j_iload G dX0_sumSets_124 rfl ?_
            refine j_iload_n G dX0_sumSets_126 rfl ?_
            refine j_callS G ms_X0_85 dX0_sumSets_127 (c_nextSet (pd 12 U i : Nat) (U : Int)) rfl rfl (by exact Nat.le_of_ble_eq_true rfl) (by first | decide | omega) (kI ?_)
            refine j_istore9 G dX0_sumSets_130 (by decide) rfl ?_
            refine j_iinc10 G dX0_sumSets_132 (by decide) rfl rfl ?_
            refine j_goto G dX0_sumSets_135 (tgt := 72) (by decide) ?_
            refine j_pc (p2 := 72) rfl ?_
            exact ih2 h_iT τ6 _ h_o9 (fun h_l => nxN_up h_U4 h_sb i rfl (by rw [h_T]; exact h_l)) h_v6
        refine j_iload G dX0_sumSets_79 rfl ?_
        refine j_callS G ms_X0_76 dX0_sumSets_81 (x_bitCount ((pd 12 U i : Nat) : Int)) rfl rfl (by exact Nat.le_of_ble_eq_true rfl) (by first | decide | omega) (kI ?_)
        rw [bcF_pop (pd 12 U i) (by omega), show ((pop (pd 12 U i) : Nat) : Int) = (popN (pd 12 U i) 12 : Nat) from rfl]
        have h_pp := popN_le (pd 12 U i) 12
        refine j_iload G dX0_sumSets_84 rfl ?_
        refine j_icmp_gt G dX0_sumSets_86 (tgt := 124) (by decide) (by omega) (by omega) (fun c_86 => ?_) (fun c_86 => ?_)
        · refine h_124 τ5 h_o7 (fun a h_a h_p => ?_)
          by_cases h_e : a = i
          · rw [h_e] at h_p
            omega
          · rw [h_v5 a h_a h_p]
            by_cases h_l : a < i
            · rw [if_pos h_l, if_pos (by omega)]
            · rw [if_neg h_l, if_neg (by omega)]
        · have h_76 := h_v5 i h_iT (by omega)
          rw [if_neg (Nat.lt_irrefl _)] at h_76
          have h_tri := h_tr (pd 12 U i) w (by omega)
          have h_al : pd 12 U i &&& I ≤ pd 12 U i := Nat.and_le_left
          have h_sI : sub (pd 12 U i &&& I) I := fun v h => by rw [Nat.testBit_and, Bool.and_eq_true] at h; exact h.2
          have h_pI : popN (pd 12 U i &&& I) 12 ≤ k := Nat.le_trans (popN_mono 12 (fun v h => by rw [Nat.testBit_and, Bool.and_eq_true] at h; exact h.1)) (by omega)
          have h_75i : τ5 75 ((pd 12 U i &&& I : Nat) : Int) = cwW σ c m w (pd 12 U i) := by rw [h_o7 75 (by decide), h_75 _ h_sI h_pI, cw_in (n := n) h_m h_U h_sb h_Ib]
          have h_cwi := h_cwr (pd 12 U i)
          have h_cwb : 0 ≤ cwW σ c m w (pd 12 U i) ∧ cwW σ c m w (pd 12 U i) ≤ 268435456 := by rcases h_cwi with h | h <;> omega
          have h_tm : 0 ≤ (if cwW σ c m w (pd 12 U i) = 268435456 then 268435456 else σ (61 + b) w * cwW σ c m w (pd 12 U i)) ∧ (if cwW σ c m w (pd 12 U i) = 268435456 then 268435456 else σ (61 + b) w * cwW σ c m w (pd 12 U i)) ≤ 268435456 := by
            rcases h_cwi with h | h
            · rw [if_pos h]
              omega
            · rw [if_neg (by omega)]
              have h_4 := Int.mul_nonneg h_cr.1 h.1
              have h_5 : σ (61 + b) w * cwW σ c m w (pd 12 U i) ≤ 1000 * 10 := Int.mul_le_mul h_cr.2 h.2 h.1 (by omega)
              omega
          have h_tw1 := h_tws (pd 12 U i)
          rw [if_pos (show 0 < σ (61 + b) w by omega)] at h_tw1
          first | refine j_aload_n G dX0_sumSets_89 rfl ?_ | refine j_aload_nN G dX0_sumSets_89 rfl ?_
          refine j_getr G fl_X0_41 dX0_sumSets_90 (by first | exact rfl | assumption) (by rfl) ?_
          refine j_iload G dX0_sumSets_93 rfl ?_
          refine j_ldc G kc_X0_64 dX0_sumSets_95 (z := 268435456) (by decide) ?_
          first | refine j_aload_n G dX0_sumSets_97 rfl ?_ | refine j_aload_nN G dX0_sumSets_97 rfl ?_
          refine j_getr G fl_X0_41 dX0_sumSets_98 (by first | exact rfl | assumption) (by rfl) ?_
          refine j_iload G dX0_sumSets_101 rfl ?_
          refine j_iaload G dX0_sumSets_103 (by first | exact rfl | assumption) (by omega) (fun r_103 => ?_)
          try simp (disch := omega) only [up_same, up_cell, up_idx, cpm_at, fil_at] at r_103 ⊢
          rw [h_76]
          refine j_iload G dX0_sumSets_104 rfl ?_
          first | refine j_aload_n G dX0_sumSets_106 rfl ?_ | refine j_aload_nN G dX0_sumSets_106 rfl ?_
          refine j_getr G fl_X0_38 dX0_sumSets_107 (by first | exact rfl | assumption) (by rfl) ?_
          refine j_pc (p2 := 110) rfl ?_
          refine j_iload G dX0_sumSets_110 rfl ?_
          refine j_iload G dX0_sumSets_112 rfl ?_
          refine j_iand G dX0_sumSets_114 ?_
          rw [and32_nat (by omega)]
          refine j_iaload G dX0_sumSets_115 (by first | exact rfl | assumption) (by omega) (fun r_115 => ?_)
          try simp (disch := omega) only [up_same, up_cell, up_idx, cpm_at, fil_at] at r_115 ⊢
          rw [h_75i]
          refine j_callS G ms_X0_101 dX0_sumSets_116 (c_times (σ (61 + b) w) (cwW σ c m w (pd 12 U i)) h_cwb) rfl rfl (by exact Nat.le_of_ble_eq_true rfl) (by first | decide | omega) (kI ?_)
          refine j_iadd G dX0_sumSets_119 ?_
          refine j_min G ms_X0_104 dX0_sumSets_120 (by omega) (by omega) (by decide) (by exact Nat.le_of_ble_eq_true rfl) ?_
          rw [← h_tw1]
          refine j_iastore G dX0_sumSets_123 (by first | exact rfl | assumption) (by omega) (by omega) ?_
          refine j_pc (p2 := 124) rfl ?_
          refine h_124 _ (h_o7.up rfl) (fun a h_a h_p => ?_)
          by_cases h_e : a = i
          · rw [h_e, up_same, if_pos (by omega)]
          · have h_ne := h_inj a i h_a h_iT h_e
            rw [up_idx (by omega), h_v5 a h_a h_p]
            by_cases h_l : a < i
            · rw [if_pos h_l, if_pos (by omega)]
            · rw [if_neg h_l, if_neg (by omega)]
end RC
