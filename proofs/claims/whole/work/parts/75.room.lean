/-! room -/
def wtx (σ : MemT) (w : Nat) (i : Nat) : Int := σ 58 (10 * (w : Int) + i)
def wgW (σ : MemT) (c w : Nat) : Int := wA σ c (wtx σ w) (σ 59 w).toNat 0
def prB (cn g : Nat → Int) (n : Nat) : Bool := !anyB (fun w => decide (0 < cn w ∧ g w = 268435456)) n
def ceB (cn g : Nat → Int) (n : Nat) : Int := sm (fun w => cn w * (g w / 1024)) n
def poB (cn g : Nat → Int) (n : Nat) : Int := sm (fun w => cn w * (g w % 1024)) n
theorem prB_iff {cn g : Nat → Int} {n : Nat} : prB cn g n = true ↔ ∀ w, w < n → 0 < cn w → g w ≠ 268435456 := by
  unfold prB
  rw [Bool.not_eq_true', Bool.eq_false_iff, Ne, anyB_iff]
  constructor
  · intro h w h_w h_1 h_2
    exact h ⟨w, h_w, decide_eq_true ⟨h_1, h_2⟩⟩
  · rintro h ⟨w, h_w, h_z⟩
    exact h w h_w (of_decide_eq_true h_z).1 (of_decide_eq_true h_z).2
theorem wA_on {σ τ : MemT} {c : Nat} (h : ∀ j, 3 + 7 * c ≤ j → j ≤ 8 + 7 * c → τ j = σ j) {t : Nat → Int} {n p : Nat} : wA τ c t n p = wA σ c t n p := by
  have h_1 : ∀ p, fitK τ c t n p = fitK σ c t n p := fun p => by
    funext k
    unfold fitK
    rw [h (3 + 7 * c) (by omega) (by omega), h (4 + 7 * c) (by omega) (by omega), h (5 + 7 * c) (by omega) (by omega), h (6 + 7 * c) (by omega) (by omega)]
  have h_2 : ∀ p, ownK τ c t p = ownK σ c t p := fun p => by
    funext k
    unfold ownK
    rw [h (3 + 7 * c) (by omega) (by omega), h (7 + 7 * c) (by omega) (by omega), h (8 + 7 * c) (by omega) (by omega)]
  have h_3 : ∀ k, lenK τ c k = lenK σ c k := fun k => by
    unfold lenK
    rw [h (6 + 7 * c) (by omega) (by omega)]
  have h_4 : stW τ c t n = stW σ c t n := by
    funext a p
    unfold stW fwA
    rw [h_1, h_2, show (fun k => a (p + lenK τ c k)) = (fun k => a (p + lenK σ c k)) from funext (fun k => by rw [h_3])]
  unfold wA
  rw [h_4]
theorem mul_rg {a b : Int} (h_a : 0 ≤ a ∧ a ≤ 1000) (h_b : 0 < a → 0 ≤ b ∧ b ≤ 1200) : 0 ≤ a * b ∧ a * b ≤ 1200000 := by
  by_cases h_1 : 0 < a
  · have h_2 := h_b h_1
    have h_3 := Int.mul_nonneg h_a.1 h_2.1
    have h_4 : a * b ≤ 1000 * b := Int.mul_le_mul_of_nonneg_right h_a.2 h_2.1
    omega
  · rw [show a = 0 by omega, Int.zero_mul]
    omega
/-- what a book may be asked of -/
def BkO (cn g : Nat → Int) (n : Nat) : Prop := ∀ w, w < n → (0 ≤ cn w ∧ cn w ≤ 1000) ∧ 0 ≤ g w ∧ g w ≤ 268435456 ∧ (0 < cn w → g w ≤ 21000)
theorem ceB_rg {cn g : Nat → Int} {n : Nat} (h : BkO cn g n) (h_30 : n ≤ 30) : ∀ m, m ≤ n → 0 ≤ ceB cn g m ∧ ceB cn g m ≤ 36000000 := fun m h_m => by
  have := sm_rg (g := fun w => cn w * (g w / 1024)) (a := 0) (b := 1200000) m (fun w h_w => by
    obtain ⟨h_1, h_2, h_3, h_4⟩ := h w (by omega)
    exact mul_rg h_1 (fun h_5 => by have := h_4 h_5; omega))
  unfold ceB
  omega
theorem poB_rg {cn g : Nat → Int} {n : Nat} (h : BkO cn g n) (h_30 : n ≤ 30) : ∀ m, m ≤ n → 0 ≤ poB cn g m ∧ poB cn g m ≤ 36000000 := fun m h_m => by
  have := sm_rg (g := fun w => cn w * (g w % 1024)) (a := 0) (b := 1200000) m (fun w h_w => by
    obtain ⟨h_1, h_2, h_3, h_4⟩ := h w (by omega)
    exact mul_rg h_1 (fun h_5 => by have := h_4 h_5; omega))
  unfold poB
  omega
section RM
variable {E : EE} {x x1 x2 : CX} {μ σ : MemT}
theorem wg_v {c : Nat} (h_w : WfCode σ c) (h_ww : WfWord σ) (w : Nat) (h_n : (w : Int) < σ 57 3) : wv (σ 59 w).toNat (wgW σ c w) ∧ (σ 59 w).toNat ≤ 10 := by
  obtain ⟨h_1, h_2, h_3, h_4⟩ := h_ww
  obtain ⟨h_5, h_6⟩ := h_3 w (by omega) h_n
  obtain ⟨z, h_z, h_e⟩ := nat_of (n := 10) (z := σ 59 w) (by omega)
  unfold wgW
  rw [h_e, Int.toNat_natCast]
  exact ⟨wA_v h_w (fun i h_i => h_6 i (by omega) (by omega)) 0 (by omega), h_z⟩
theorem c_weighWords (c n : Nat) (h_c : c < 5) (h_w : WfCode σ c) (h_ww : WfWord σ) (h_n : σ 57 3 = n) : CT (EC x) 3 yX0_weighWords [rf (EC x) 56, rf (EC x) (2 + 7 * c)] σ (fun r τ => r = none ∧ Ons (fun j => j = 44 ∨ j = 45 ∨ j = 69) σ τ ∧ ∀ w : Nat, w < n → τ 69 w = wgW σ c w) := by
  obtain ⟨h_1, h_2, h_3, h_4⟩ := id h_ww
  refine CT.ofJ (own := RX0) (cc := cX0_weighWords) (n := 3) (ret := none) (by decide) rfl cw_X0_weighWords (by decide) (Nat.le_of_ble_eq_true rfl) (ls := [some (rf (EC x) 56), some (rf (EC x) (2 + 7 * c)), none]) rfl ?_
  intro X G
  refine j_iconst G dX0_weighWords_0 ?_
  refine j_istore2 G dX0_weighWords_1 (by decide) rfl ?_
  refine j_pc (p2 := 2) rfl ?_
  refine down (Pr := fun i => ∀ τ : MemT, Ons (fun j => j = 44 ∨ j = 45 ∨ j = 69) σ τ → (∀ w : Nat, w < i → τ 69 w = wgW σ c w) → JJ (EC x) X 3 (fun r τ => r = none ∧ Ons (fun j => j = 44 ∨ j = 45 ∨ j = 69) σ τ ∧ ∀ w : Nat, w < n → τ 69 w = wgW σ c w) 3 2 [some (rf (EC x) 56), some (rf (EC x) (2 + 7 * c)), some (iv i)] [] τ) n ?_ 0 (Nat.zero_le _) σ (Ons.rf _ _) (fun c h_c => by omega)
  intro i h_i ih τ h_o h_v
  refine j_iload_n G dX0_weighWords_2 rfl ?_
  first | refine j_aload_n G dX0_weighWords_3 rfl ?_ | refine j_aload_nN G dX0_weighWords_3 rfl ?_
  refine j_getr G fl_X0_14 dX0_weighWords_4 (by first | assumption | rfl) (by rfl) ?_
  refine j_geti G fl_X0_48 dX0_weighWords_7 3 rfl (by first | assumption | rfl) (by rfl) (fun r_7 => ?_)
  try simp (disch := omega) only [up_same, up_cell, up_idx, cpm_at, fil_at] at r_7 ⊢
  rw [h_o 57 (by omega), h_n]
  refine j_icmp_ge G dX0_weighWords_10 (tgt := 53) (by decide) (by omega) (by omega) (fun c_10 => ?_) (fun c_10 => ?_)
  · refine j_return G dX0_weighWords_53 ?_
    obtain rfl : i = n := by omega
    exact ⟨rfl, h_o, h_v⟩
  · obtain ⟨h_5, h_6⟩ := h_3 i (by omega) (by omega)
    obtain ⟨z, h_z10, h_ze⟩ := nat_of (n := 10) (z := σ 59 i) (by omega)
    have h_wc : WfCode τ c := h_w.on (fun j h_1 h_2 => h_o j (by omega))
    have h_eq : wA τ c (wtx σ i) z 0 = wgW σ c i := by
      unfold wgW
      rw [h_ze, Int.toNat_natCast]
      rw [wA_on (fun j h_1 h_2 => h_o j (by omega))]
    have h_vr := wv_rg (wg_v h_w h_ww i (by omega)).1 (wg_v h_w h_ww i (by omega)).2
    first | refine j_aload_n G dX0_weighWords_13 rfl ?_ | refine j_aload_nN G dX0_weighWords_13 rfl ?_
    refine j_getr G fl_X0_25 dX0_weighWords_14 (by first | assumption | rfl) (by rfl) ?_
    refine j_iload_n G dX0_weighWords_17 rfl ?_
    first | refine j_aload_n G dX0_weighWords_18 rfl ?_ | refine j_aload_nN G dX0_weighWords_18 rfl ?_
    refine j_getr G fl_X0_44 dX0_weighWords_19 (by first | assumption | rfl) (by rfl) ?_
    first | refine j_aload_n G dX0_weighWords_22 rfl ?_ | refine j_aload_nN G dX0_weighWords_22 rfl ?_
    first | refine j_aload_n G dX0_weighWords_23 rfl ?_ | refine j_aload_nN G dX0_weighWords_23 rfl ?_
    refine j_getr G fl_X0_14 dX0_weighWords_24 (by first | assumption | rfl) (by rfl) ?_
    refine j_getr G fl_X0_52 dX0_weighWords_27 (by first | assumption | rfl) (by rfl) ?_
    refine j_iload_n G dX0_weighWords_30 rfl ?_
    refine j_bipush G dX0_weighWords_31 (by decide) ?_
    refine j_pc (p2 := 33) rfl ?_
    refine j_imul G dX0_weighWords_33 ?_
    rw [Int.mul_comm (i : Int) 10]
    first | refine j_aload_n G dX0_weighWords_34 rfl ?_ | refine j_aload_nN G dX0_weighWords_34 rfl ?_
    refine j_getr G fl_X0_14 dX0_weighWords_35 (by first | assumption | rfl) (by rfl) ?_
    refine j_getr G fl_X0_55 dX0_weighWords_38 (by first | assumption | rfl) (by rfl) ?_
    refine j_iload_n G dX0_weighWords_41 rfl ?_
    refine j_iaload G dX0_weighWords_42 (by first | assumption | rfl) (by omega) (fun r_42 => ?_)
    try simp (disch := omega) only [up_same, up_cell, up_idx, cpm_at, fil_at] at r_42 ⊢
    rw [h_o 59 (by omega), h_ze]
    refine j_callV G mv_X0_58 dX0_weighWords_43 (c_weigh c 58 300 z (10 * (i : Int)) (wtx σ i) h_c h_wc rfl (by decide) (by decide) h_z10 (by omega) (fun j h_j => congrFun (h_o 58 (by omega)) _) (fun j h_j => h_6 j (by omega) (by omega))) (by first | assumption | rfl) (by decide) (by rfl) rfl rfl (by exact Nat.le_of_ble_eq_true rfl) (by decide) (kP (fun y τ2 h_y => ?_))
    obtain ⟨rfl, h_y2, h_y3, h_y4⟩ := h_y
    rw [h_eq]
    refine j_iastore G dX0_weighWords_46 (by first | assumption | rfl) (by omega) (by omega) ?_
    refine j_iinc2 G dX0_weighWords_47 (by decide) rfl rfl ?_
    refine j_goto G dX0_weighWords_50 (tgt := 2) (by decide) ?_
    refine j_pc (p2 := 2) rfl ?_
    have h_o2 : Ons (fun j => j = 44 ∨ j = 45 ∨ j = 69) σ τ2 := h_o.tr (h_y2.wk (fun j h => by omega))
    refine ih (by omega) _ (h_o2.up (by omega)) (fun w h_1 => ?_)
    by_cases h_e : w = i
    · subst h_e
      exact up_same _ _ _ _
    · rw [up_idx (by omega), h_y2 69 (by omega)]
      exact h_v w (by omega)
theorem c_canPrint (b n : Nat) (cn g : Nat → Int) (h_b : b < 8) (h_n : σ 57 3 = n) (h_30 : n ≤ 30) (h_cn : ∀ w : Nat, w < n → σ (61 + b) w = cn w) (h_g : ∀ w : Nat, w < n → σ 69 w = g w ∧ g w ≤ 268435456) : CT (EC x) 0 yX0_canPrint [rf (EC x) 56, iv b] σ (rI (b2 (prB cn g n = true)) σ) := by
  obtain ⟨h_y1, h_y2⟩ := ly_books (x := x) h_b
  refine CT.ofJ (own := RX0) (cc := cX0_canPrint) (n := 3) (ret := (some .boolean)) (by decide) rfl cw_X0_canPrint (by decide) (Nat.le_of_ble_eq_true rfl) (ls := [some (rf (EC x) 56), some (iv b), none]) rfl ?_
  intro X G
  refine j_iconst G dX0_canPrint_0 ?_
  refine j_istore2 G dX0_canPrint_1 (by decide) rfl ?_
  refine j_pc (p2 := 2) rfl ?_
  refine down (Pr := fun i => (∀ w, w < i → 0 < cn w → g w ≠ 268435456) → JJ (EC x) X 0 (rI (b2 (prB cn g n = true)) σ) 3 2 [some (rf (EC x) 56), some (iv b), some (iv i)] [] σ) n ?_ 0 (Nat.zero_le _) (fun w h_w => by omega)
  intro i h_i ih h_al
  refine j_iload_n G dX0_canPrint_2 rfl ?_
  first | refine j_aload_n G dX0_canPrint_3 rfl ?_ | refine j_aload_nN G dX0_canPrint_3 rfl ?_
  refine j_getr G fl_X0_14 dX0_canPrint_4 (by first | assumption | rfl) (by rfl) ?_
  refine j_geti G fl_X0_48 dX0_canPrint_7 3 rfl (by first | assumption | rfl) (by rfl) (fun r_7 => ?_)
  try simp (disch := omega) only [up_same, up_cell, up_idx, cpm_at, fil_at] at r_7 ⊢
  rw [h_n]
  refine j_icmp_ge G dX0_canPrint_10 (tgt := 43) (by decide) (by omega) (by omega) (fun c_10 => ?_) (fun c_10 => ?_)
  · refine j_iconst G dX0_canPrint_43 ?_
    refine j_zreturn G dX0_canPrint_44 (by first | exact b2_01 _ | omega) ?_
    obtain rfl : i = n := by omega
    rw [prB_iff.2 h_al]
    exact ⟨rfl, rfl⟩
  · have h_ci := h_cn i (by omega)
    obtain ⟨h_g1, h_g2⟩ := h_g i (by omega)
    first | refine j_aload_n G dX0_canPrint_13 rfl ?_ | refine j_aload_nN G dX0_canPrint_13 rfl ?_
    refine j_getr G fl_X0_22 dX0_canPrint_14 (by first | assumption | rfl) (by rfl) ?_
    refine j_iload_n G dX0_canPrint_17 rfl ?_
    refine j_aaload G dX0_canPrint_18 (by first | assumption | rfl) (by decide) (by omega) h_y1 ?_
    refine j_iload_n G dX0_canPrint_19 rfl ?_
    refine j_iaload G dX0_canPrint_20 (by first | assumption | rfl) (by omega) (fun r_20 => ?_)
    try simp (disch := omega) only [up_same, up_cell, up_idx, cpm_at, fil_at] at r_20 ⊢
    refine j_if_le G dX0_canPrint_21 (tgt := 37) (by decide) (by omega) (fun c_21 => ?_) (fun c_21 => ?_)
    · refine j_iinc2 G dX0_canPrint_37 (by decide) rfl rfl ?_
      refine j_goto G dX0_canPrint_40 (tgt := 2) (by decide) ?_
      refine j_pc (p2 := 2) rfl ?_
      refine ih (by omega) (fun w h_w h_1 => ?_)
      by_cases h_e : w = i
      · subst h_e
        omega
      · exact h_al w (by omega) h_1
    · first | refine j_aload_n G dX0_canPrint_24 rfl ?_ | refine j_aload_nN G dX0_canPrint_24 rfl ?_
      refine j_getr G fl_X0_25 dX0_canPrint_25 (by first | assumption | rfl) (by rfl) ?_
      refine j_iload_n G dX0_canPrint_28 rfl ?_
      refine j_iaload G dX0_canPrint_29 (by first | assumption | rfl) (by omega) (fun r_29 => ?_)
      try simp (disch := omega) only [up_same, up_cell, up_idx, cpm_at, fil_at] at r_29 ⊢
      refine j_ldc G kc_X0_64 dX0_canPrint_30 (z := 268435456) (by decide) ?_
      refine j_icmp_lt G dX0_canPrint_32 (tgt := 37) (by decide) (by omega) (by omega) (fun c_32 => ?_) (fun c_32 => ?_)
      · refine j_iinc2 G dX0_canPrint_37 (by decide) rfl rfl ?_
        refine j_goto G dX0_canPrint_40 (tgt := 2) (by decide) ?_
        refine j_pc (p2 := 2) rfl ?_
        refine ih (by omega) (fun w h_w h_1 => ?_)
        by_cases h_e : w = i
        · subst h_e
          omega
        · exact h_al w (by omega) h_1
      · refine j_iconst G dX0_canPrint_35 ?_
        refine j_zreturn G dX0_canPrint_36 (by first | exact b2_01 _ | omega) ?_
        rw [show prB cn g n = false from Bool.eq_false_iff.2 (fun z => prB_iff.1 z i (by omega) (by omega) (by omega))]
        exact ⟨rfl, rfl⟩
theorem w_cellsOf (z : Int) (h_z : 0 ≤ z ∧ z ≤ 268435456) : CT (EC x) 0 yX10_cellsOf [iv z] σ (rI (z / 1024) σ) := by
  refine CT.ofJ (own := RX10) (cc := cX10_cellsOf) (n := 1) (ret := (some .int)) (by decide) rfl cw_X10_cellsOf (by decide) (Nat.le_of_ble_eq_true rfl) (ls := [some (iv z)]) rfl ?_
  intro X G
  refine j_iload_n G dX10_cellsOf_0 rfl ?_
  refine j_sipush G dX10_cellsOf_1 (by decide) ?_
  refine j_idiv G dX10_cellsOf_4 (by omega) (by omega) ?_
  refine j_ireturn G dX10_cellsOf_5 ?_
  exact ⟨rfl, rfl⟩
theorem w_pointsOf (z : Int) (h_z : 0 ≤ z ∧ z ≤ 268435456) : CT (EC x) 0 yX10_pointsOf [iv z] σ (rI (z % 1024) σ) := by
  refine CT.ofJ (own := RX10) (cc := cX10_pointsOf) (n := 1) (ret := (some .int)) (by decide) rfl cw_X10_pointsOf (by decide) (Nat.le_of_ble_eq_true rfl) (ls := [some (iv z)]) rfl ?_
  intro X G
  refine j_iload_n G dX10_pointsOf_0 rfl ?_
  refine j_sipush G dX10_pointsOf_1 (by decide) ?_
  refine j_irem G dX10_pointsOf_4 (by omega) (by omega) ?_
  refine j_ireturn G dX10_pointsOf_5 ?_
  exact ⟨rfl, rfl⟩
theorem c_cellsOfB (b n : Nat) (cn g : Nat → Int) (h_b : b < 8) (h_n : σ 57 3 = n) (h_30 : n ≤ 30) (h_cn : ∀ w : Nat, w < n → σ (61 + b) w = cn w) (h_g : ∀ w : Nat, w < n → σ 69 w = g w) (h_bk : BkO cn g n) : CT (EC x) 1 yX0_cellsOf [rf (EC x) 56, iv b] σ (rI (ceB cn g n) σ) := by
  obtain ⟨h_y1, h_y2⟩ := ly_books (x := x) h_b
  refine CT.ofJ (own := RX0) (cc := cX0_cellsOf) (n := 4) (ret := (some .int)) (by decide) rfl cw_X0_cellsOf (by decide) (Nat.le_of_ble_eq_true rfl) (ls := [some (rf (EC x) 56), some (iv b), none, none]) rfl ?_
  intro X G
  refine j_iconst G dX0_cellsOf_0 ?_
  refine j_istore2 G dX0_cellsOf_1 (by decide) rfl ?_
  refine j_iconst G dX0_cellsOf_2 ?_
  refine j_istore3 G dX0_cellsOf_3 (by decide) rfl ?_
  refine j_pc (p2 := 4) rfl ?_
  refine down (Pr := fun i => JJ (EC x) X 1 (rI (ceB cn g n) σ) 4 4 [some (rf (EC x) 56), some (iv b), some (iv (ceB cn g i)), some (iv i)] [] σ) n ?_ 0 (Nat.zero_le _)
  intro i h_i ih
  refine j_iload_n G dX0_cellsOf_4 rfl ?_
  first | refine j_aload_n G dX0_cellsOf_5 rfl ?_ | refine j_aload_nN G dX0_cellsOf_5 rfl ?_
  refine j_getr G fl_X0_14 dX0_cellsOf_6 (by first | assumption | rfl) (by rfl) ?_
  refine j_geti G fl_X0_48 dX0_cellsOf_9 3 rfl (by first | assumption | rfl) (by rfl) (fun r_9 => ?_)
  try simp (disch := omega) only [up_same, up_cell, up_idx, cpm_at, fil_at] at r_9 ⊢
  rw [h_n]
  refine j_icmp_ge G dX0_cellsOf_12 (tgt := 42) (by decide) (by omega) (by omega) (fun c_12 => ?_) (fun c_12 => ?_)
  · refine j_iload_n G dX0_cellsOf_42 rfl ?_
    refine j_ireturn G dX0_cellsOf_43 ?_
    obtain rfl : i = n := by omega
    exact ⟨rfl, rfl⟩
  · have h_ci := h_cn i (by omega)
    have h_gi := h_g i (by omega)
    obtain ⟨h_1, h_2, h_3, h_4⟩ := h_bk i (by omega)
    refine j_iload_n G dX0_cellsOf_15 rfl ?_
    first | refine j_aload_n G dX0_cellsOf_16 rfl ?_ | refine j_aload_nN G dX0_cellsOf_16 rfl ?_
    refine j_getr G fl_X0_22 dX0_cellsOf_17 (by first | assumption | rfl) (by rfl) ?_
    refine j_iload_n G dX0_cellsOf_20 rfl ?_
    refine j_aaload G dX0_cellsOf_21 (by first | assumption | rfl) (by decide) (by omega) h_y1 ?_
    refine j_iload_n G dX0_cellsOf_22 rfl ?_
    refine j_iaload G dX0_cellsOf_23 (by first | assumption | rfl) (by omega) (fun r_23 => ?_)
    try simp (disch := omega) only [up_same, up_cell, up_idx, cpm_at, fil_at] at r_23 ⊢
    rw [h_ci]
    first | refine j_aload_n G dX0_cellsOf_24 rfl ?_ | refine j_aload_nN G dX0_cellsOf_24 rfl ?_
    refine j_getr G fl_X0_25 dX0_cellsOf_25 (by first | assumption | rfl) (by rfl) ?_
    refine j_iload_n G dX0_cellsOf_28 rfl ?_
    refine j_iaload G dX0_cellsOf_29 (by first | assumption | rfl) (by omega) (fun r_29 => ?_)
    try simp (disch := omega) only [up_same, up_cell, up_idx, cpm_at, fil_at] at r_29 ⊢
    refine j_pc (p2 := 30) rfl ?_
    rw [h_gi]
    refine j_callS G ms_X0_65 dX0_cellsOf_30 (w_cellsOf (g i) (by omega)) rfl rfl (by exact Nat.le_of_ble_eq_true rfl) (by decide) (kI ?_)
    refine j_imul G dX0_cellsOf_33 ?_
    refine j_iadd G dX0_cellsOf_34 ?_
    refine j_istore2 G dX0_cellsOf_35 (by decide) rfl ?_
    refine j_iinc3 G dX0_cellsOf_36 (by decide) rfl rfl ?_
    refine j_goto G dX0_cellsOf_39 (tgt := 4) (by decide) ?_
    refine j_pc (p2 := 4) rfl ?_
    exact ih (by omega)
theorem c_pointsOfB (b n : Nat) (cn g : Nat → Int) (h_b : b < 8) (h_n : σ 57 3 = n) (h_30 : n ≤ 30) (h_cn : ∀ w : Nat, w < n → σ (61 + b) w = cn w) (h_g : ∀ w : Nat, w < n → σ 69 w = g w) (h_bk : BkO cn g n) : CT (EC x) 1 yX0_pointsOf [rf (EC x) 56, iv b] σ (rI (poB cn g n) σ) := by
  obtain ⟨h_y1, h_y2⟩ := ly_books (x := x) h_b
  refine CT.ofJ (own := RX0) (cc := cX0_pointsOf) (n := 4) (ret := (some .int)) (by decide) rfl cw_X0_pointsOf (by decide) (Nat.le_of_ble_eq_true rfl) (ls := [some (rf (EC x) 56), some (iv b), none, none]) rfl ?_
  intro X G
  refine j_iconst G dX0_pointsOf_0 ?_
  refine j_istore2 G dX0_pointsOf_1 (by decide) rfl ?_
  refine j_iconst G dX0_pointsOf_2 ?_
  refine j_istore3 G dX0_pointsOf_3 (by decide) rfl ?_
  refine j_pc (p2 := 4) rfl ?_
  refine down (Pr := fun i => JJ (EC x) X 1 (rI (poB cn g n) σ) 4 4 [some (rf (EC x) 56), some (iv b), some (iv (poB cn g i)), some (iv i)] [] σ) n ?_ 0 (Nat.zero_le _)
  intro i h_i ih
  refine j_iload_n G dX0_pointsOf_4 rfl ?_
  first | refine j_aload_n G dX0_pointsOf_5 rfl ?_ | refine j_aload_nN G dX0_pointsOf_5 rfl ?_
  refine j_getr G fl_X0_14 dX0_pointsOf_6 (by first | assumption | rfl) (by rfl) ?_
  refine j_geti G fl_X0_48 dX0_pointsOf_9 3 rfl (by first | assumption | rfl) (by rfl) (fun r_9 => ?_)
  try simp (disch := omega) only [up_same, up_cell, up_idx, cpm_at, fil_at] at r_9 ⊢
  rw [h_n]
  refine j_icmp_ge G dX0_pointsOf_12 (tgt := 42) (by decide) (by omega) (by omega) (fun c_12 => ?_) (fun c_12 => ?_)
  · refine j_iload_n G dX0_pointsOf_42 rfl ?_
    refine j_ireturn G dX0_pointsOf_43 ?_
    obtain rfl : i = n := by omega
    exact ⟨rfl, rfl⟩
  · have h_ci := h_cn i (by omega)
    have h_gi := h_g i (by omega)
    obtain ⟨h_1, h_2, h_3, h_4⟩ := h_bk i (by omega)
    refine j_iload_n G dX0_pointsOf_15 rfl ?_
    first | refine j_aload_n G dX0_pointsOf_16 rfl ?_ | refine j_aload_nN G dX0_pointsOf_16 rfl ?_
    refine j_getr G fl_X0_22 dX0_pointsOf_17 (by first | assumption | rfl) (by rfl) ?_
    refine j_iload_n G dX0_pointsOf_20 rfl ?_
    refine j_aaload G dX0_pointsOf_21 (by first | assumption | rfl) (by decide) (by omega) h_y1 ?_
    refine j_iload_n G dX0_pointsOf_22 rfl ?_
    refine j_iaload G dX0_pointsOf_23 (by first | assumption | rfl) (by omega) (fun r_23 => ?_)
    try simp (disch := omega) only [up_same, up_cell, up_idx, cpm_at, fil_at] at r_23 ⊢
    rw [h_ci]
    first | refine j_aload_n G dX0_pointsOf_24 rfl ?_ | refine j_aload_nN G dX0_pointsOf_24 rfl ?_
    refine j_getr G fl_X0_25 dX0_pointsOf_25 (by first | assumption | rfl) (by rfl) ?_
    refine j_iload_n G dX0_pointsOf_28 rfl ?_
    refine j_iaload G dX0_pointsOf_29 (by first | assumption | rfl) (by omega) (fun r_29 => ?_)
    try simp (disch := omega) only [up_same, up_cell, up_idx, cpm_at, fil_at] at r_29 ⊢
    refine j_pc (p2 := 30) rfl ?_
    rw [h_gi]
    refine j_callS G ms_X0_69 dX0_pointsOf_30 (w_pointsOf (g i) (by omega)) rfl rfl (by exact Nat.le_of_ble_eq_true rfl) (by decide) (kI ?_)
    refine j_imul G dX0_pointsOf_33 ?_
    refine j_iadd G dX0_pointsOf_34 ?_
    refine j_istore2 G dX0_pointsOf_35 (by decide) rfl ?_
    refine j_iinc3 G dX0_pointsOf_36 (by decide) rfl rfl ?_
    refine j_goto G dX0_pointsOf_39 (tgt := 4) (by decide) ?_
    refine j_pc (p2 := 4) rfl ?_
    exact ih (by omega)
theorem c_pagesOf (b n : Nat) (cn g : Nat → Int) (h_b : b < 8) (h_n : σ 57 3 = n) (h_30 : n ≤ 30) (h_cn : ∀ w : Nat, w < n → σ (61 + b) w = cn w) (h_g : ∀ w : Nat, w < n → σ 69 w = g w) (h_bk : BkO cn g n) : CT (EC x) 2 yX0_pagesOf [rf (EC x) 56, iv b] σ (rI ((ceB cn g n + 199) / 200) σ) := by
  have h_rg := ceB_rg h_bk h_30 n (Nat.le_refl _)
  refine CT.ofJ (own := RX0) (cc := cX0_pagesOf) (n := 2) (ret := (some .int)) (by decide) rfl cw_X0_pagesOf (by decide) (Nat.le_of_ble_eq_true rfl) (ls := [some (rf (EC x) 56), some (iv b)]) rfl ?_
  intro X G
  first | refine j_aload_n G dX0_pagesOf_0 rfl ?_ | refine j_aload_nN G dX0_pagesOf_0 rfl ?_
  refine j_iload_n G dX0_pagesOf_1 rfl ?_
  refine j_callV G mv_X0_72 dX0_pagesOf_2 (c_cellsOfB b n cn g h_b h_n h_30 h_cn h_g h_bk) (by first | assumption | rfl) (by decide) (by rfl) rfl rfl (by exact Nat.le_of_ble_eq_true rfl) (by decide) (kI ?_)
  refine j_sipush G dX0_pagesOf_5 (by decide) ?_
  refine j_iadd G dX0_pagesOf_8 ?_
  refine j_iconst G dX0_pagesOf_9 ?_
  refine j_isub G dX0_pagesOf_10 ?_
  refine j_sipush G dX0_pagesOf_11 (by decide) ?_
  refine j_idiv G dX0_pagesOf_14 (by omega) (by omega) ?_
  refine j_ireturn G dX0_pagesOf_15 ?_
  exact ⟨by rw [show ceB cn g n + 200 - 1 = ceB cn g n + 199 by omega], rfl⟩
end RM
