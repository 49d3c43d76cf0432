/-! room -/
def wtx (σ : MemT) (w : Nat) (i : Nat) : Int := σ 58 (10 * (w : Int) + i)
def wgW (σ : MemT) (c w : Nat) : Int := wA σ c (wtx σ w) (σ 59 w).toNat 0
def prB (cn g : Nat → Int) (n : Nat) : Bool := !anyB (fun w => decide (0 < cn w ∧ g w = 268435456)) n
def ceB (cn g : Nat → Int) (n : Nat) : Int := sm (fun w => cn w * (g w / 1024)) n
def poB (cn g : Nat → Int) (n : Nat) : Int := sm (fun w => cn w * (g w % 1024)) n
theorem prB_iff {cn g : Nat → Int} {n : Nat} : prB cn g n = true ↔ ∀ w, w < n → 0 < cn w → g w ≠ 268435456 := by
  unfold prB
  rw [Bool.not_eq_true', Bool.eq_false_iff, Ne, anyB_iff]
  constructor
  · intro h w h_w h_1 h_2
    exact h ⟨w, h_w, decide_eq_true ⟨h_1, h_2⟩⟩
  · rintro h ⟨w, h_w, h_z⟩
    exact h w h_w (of_decide_eq_true h_z).1 (of_decide_eq_true h_z).2
theorem wA_on {σ τ : MemT} {c : Nat} (h : ∀ j, 3 + 7 * c ≤ j → j ≤ 8 + 7 * c → τ j = σ j) {t : Nat → Int} {n p : Nat} : wA τ c t n p = wA σ c t n p := by
  have h_1 : ∀ p, fitK τ c t n p = fitK σ c t n p := fun p => by
    funext k
    unfold fitK
    rw [h (3 + 7 * c) (by omega) (by omega), h (4 + 7 * c) (by omega) (by omega), h (5 + 7 * c) (by omega) (by omega), h (6 + 7 * c) (by omega) (by omega)]
  have h_2 : ∀ p, ownK τ c t p = ownK σ c t p := fun p => by
    funext k
    unfold ownK
    rw [h (3 + 7 * c) (by omega) (by omega), h (7 + 7 * c) (by omega) (by omega), h (8 + 7 * c) (by omega) (by omega)]
  have h_3 : ∀ k, lenK τ c k = lenK σ c k := fun k => by
    unfold lenK
    rw [h (6 + 7 * c) (by omega) (by omega)]
  have h_4 : stW τ c t n = stW σ c t n := by
    funext a p
    unfold stW fwA
    rw [h_1, h_2, show (fun k => a (p + lenK τ c k)) = (fun k => a (p + lenK σ c k)) from funext (fun k => by rw [h_3])]
  unfold wA
  rw [h_4]
section RM
variable {E : EE} {x x1 x2 : CX} {μ σ : MemT}
theorem wg_v {c : Nat} (h_w : WfCode σ c) (h_ww : WfWord σ) (w : Nat) (h_n : (w : Int) < σ 57 3) : wv (σ 59 w).toNat (wgW σ c w) ∧ (σ 59 w).toNat ≤ 10 := by
  obtain ⟨h_1, h_2, h_3, h_4⟩ := h_ww
  obtain ⟨h_5, h_6⟩ := h_3 w (by omega) h_n
  obtain ⟨z, h_z, h_e⟩ := nat_of (n := 10) (z := σ 59 w) (by omega)
  unfold wgW
  rw [h_e, Int.toNat_natCast]
  exact ⟨wA_v h_w (fun i h_i => h_6 i (by omega) (by omega)) 0 (by omega), h_z⟩
theorem c_weighWords (c n : Nat) (h_c : c < 5) (h_w : WfCode σ c) (h_ww : WfWord σ) (h_n : σ 57 3 = n) : CT (EC x) 3 yX0_weighWords [rf (EC x) 56, rf (EC x) (2 + 7 * c)] σ (fun r τ => r = none ∧ Ons (fun j => j = 44 ∨ j = 45 ∨ j = 69) σ τ ∧ ∀ w : Nat, w < n → τ 69 w = wgW σ c w) := by
  obtain ⟨h_1, h_2, h_3, h_4⟩ := id h_ww
  refine CT.ofJ (own := RX0) (cc := cX0_weighWords) (n := 3) (ret := none) (by decide) rfl cw_X0_weighWords (by decide) (Nat.le_of_ble_eq_true rfl) (ls := [some (rf (EC x) 56), some (rf (EC x) (2 + 7 * c)), none]) rfl ?_
  intro X G
  refine j_iconst G dX0_weighWords_0 ?_
  refine j_istore2 G dX0_weighWords_1 (by decide) rfl ?_
  refine j_pc (p2 := 2) rfl ?_
  refine down (Pr := fun i => ∀ τ : MemT, Ons (fun j => j = 44 ∨ j = 45 ∨ j = 69) σ τ → (∀ w : Nat, w < i → τ 69 w = wgW σ c w) → JJ (EC x) X 3 (fun r τ => r = none ∧ Ons (fun j => j = 44 ∨ j = 45 ∨ j = 69) σ τ ∧ ∀ w : Nat, w < n → τ 69 w = wgW σ c w) 3 2 [some (rf (EC x) 56), some (rf (EC x) (2 + 7 * c)), some (iv i)] [] τ) n ?_ 0 (Nat.zero_le _) σ (Ons.rf _ _) (fun c h_c => by omega)
  intro i h_i ih τ h_o h_v
  refine j_iload_n G dX0_weighWords_2 rfl ?_
  first | refine j_aload_n G dX0_weighWords_3 rfl ?_ | refine j_aload_nN G dX0_weighWords_3 rfl ?_
  refine j_getr G fl_X0_14 dX0_weighWords_4 (by first | assumption | rfl) (by rfl) ?_
  refine j_geti G fl_X0_48 dX0_weighWords_7 3 rfl (by first | assumption | rfl) (by rfl) (fun r_7 => ?_)
  try simp (disch := omega) only [up_same, up_cell, up_idx, cpm_at, fil_at] at r_7 ⊢
  rw [h_o 57 (by omega), h_n]
  refine j_icmp_ge G dX0_weighWords_10 (tgt := 53) (by decide) (by omega) (by omega) (fun c_10 => ?_) (fun c_10 => ?_)
  · refine j_return G dX0_weighWords_53 ?_
    obtain rfl : i = n := by omega
    exact ⟨rfl, h_o, h_v⟩
  · obtain ⟨h_5, h_6⟩ := h_3 i (by omega) (by omega)
    obtain ⟨z, h_z10, h_ze⟩ := nat_of (n := 10) (z := σ 59 i) (by omega)
    have h_wc : WfCode τ c := h_w.on (fun j h_1 h_2 => h_o j (by omega))
    have h_eq : wA τ c (wtx σ i) z 0 = wgW σ c i := by
      unfold wgW
      rw [h_ze, Int.toNat_natCast]
      rw [wA_on (fun j h_1 h_2 => h_o j (by omega))]
    have h_vr := wv_rg (wg_v h_w h_ww i (by omega)).1 (wg_v h_w h_ww i (by omega)).2
    first | refine j_aload_n G dX0_weighWords_13 rfl ?_ | refine j_aload_nN G dX0_weighWords_13 rfl ?_
    refine j_getr G fl_X0_25 dX0_weighWords_14 (by first | assumption | rfl) (by rfl) ?_
    refine j_iload_n G dX0_weighWords_17 rfl ?_
    first | refine j_aload_n G dX0_weighWords_18 rfl ?_ | refine j_aload_nN G dX0_weighWords_18 rfl ?_
    refine j_getr G fl_X0_44 dX0_weighWords_19 (by first | assumption | rfl) (by rfl) ?_
    first | refine j_aload_n G dX0_weighWords_22 rfl ?_ | refine j_aload_nN G dX0_weighWords_22 rfl ?_
    first | refine j_aload_n G dX0_weighWords_23 rfl ?_ | refine j_aload_nN G dX0_weighWords_23 rfl ?_
    refine j_getr G fl_X0_14 dX0_weighWords_24 (by first | assumption | rfl) (by rfl) ?_
    refine j_getr G fl_X0_52 dX0_weighWords_27 (by first | assumption | rfl) (by rfl) ?_
    refine j_iload_n G dX0_weighWords_30 rfl ?_
    refine j_bipush G dX0_weighWords_31 (by decide) ?_
    refine j_pc (p2 := 33) rfl ?_
    refine j_imul G dX0_weighWords_33 ?_
    rw [Int.mul_comm (i : Int) 10]
    first | refine j_aload_n G dX0_weighWords_34 rfl ?_ | refine j_aload_nN G dX0_weighWords_34 rfl ?_
    refine j_getr G fl_X0_14 dX0_weighWords_35 (by first | assumption | rfl) (by rfl) ?_
    refine j_getr G fl_X0_55 dX0_weighWords_38 (by first | assumption | rfl) (by rfl) ?_
    refine j_iload_n G dX0_weighWords_41 rfl ?_
    refine j_iaload G dX0_weighWords_42 (by first | assumption | rfl) (by omega) (fun r_42 => ?_)
    try simp (disch := omega) only [up_same, up_cell, up_idx, cpm_at, fil_at] at r_42 ⊢
    rw [h_o 59 (by omega), h_ze]
    refine j_callV G mv_X0_58 dX0_weighWords_43 (c_weigh c 58 300 z (10 * (i : Int)) (wtx σ i) h_c h_wc rfl (by decide) (by decide) h_z10 (by omega) (fun j h_j => congrFun (h_o 58 (by omega)) _) (fun j h_j => h_6 j (by omega) (by omega))) (by first | assumption | rfl) (by decide) (by rfl) rfl rfl (by exact Nat.le_of_ble_eq_true rfl) (by decide) (kP (fun y τ2 h_y => ?_))
    obtain ⟨rfl, h_y2, h_y3, h_y4⟩ := h_y
    rw [h_eq]
    refine j_iastore G dX0_weighWords_46 (by first | assumption | rfl) (by omega) (by omega) ?_
    refine j_iinc2 G dX0_weighWords_47 (by decide) rfl rfl ?_
    refine j_goto G dX0_weighWords_50 (tgt := 2) (by decide) ?_
    refine j_pc (p2 := 2) rfl ?_
    have h_o2 : Ons (fun j => j = 44 ∨ j = 45 ∨ j = 69) σ τ2 := h_o.tr (h_y2.wk (fun j h => by omega))
    refine ih (by omega) _ (h_o2.up (by omega)) (fun w h_1 => ?_)
    by_cases h_e : w = i
    · subst h_e
      exact up_same _ _ _ _
    · rw [up_idx (by omega), h_y2 69 (by omega)]
      exact h_v w (by omega)
theorem c_canPrint (b n : Nat) (cn g : Nat → Int) (h_b : b < 8) (h_n : σ 57 3 = n) (h_30 : n ≤ 30) (h_cn : ∀ w : Nat, w < n → σ (61 + b) w = cn w) (h_g : ∀ w : Nat, w < n → σ 69 w = g w ∧ g w ≤ 268435456) : CT (EC x) 0 yX0_canPrint [rf (EC x) 56, iv b] σ (rI (b2 (prB cn g n = true)) σ) := by
  obtain ⟨h_y1, h_y2⟩ := ly_books (x := x) h_b
  refine CT.ofJ (own := RX0) (cc := cX0_canPrint) (n := 3) (ret := (some .boolean)) (by decide) rfl cw_X0_canPrint (by decide) (Nat.le_of_ble_eq_true rfl) (ls := [some (rf (EC x) 56), some (iv b), none]) rfl ?_
  intro X G
  refine j_iconst G dX0_canPrint_0 ?_
  refine j_istore2 G dX0_canPrint_1 (by decide) rfl ?_
  refine j_pc (p2 := 2) rfl ?_
  refine down (Pr := fun i => (∀ w, w < i → 0 < cn w → g w ≠ 268435456) → JJ (EC x) X 0 (rI (b2 (prB cn g n = true)) σ) 3 2 [some (rf (EC x) 56), some (iv b), some (iv i)] [] σ) n ?_ 0 (Nat.zero_le _) (fun w h_w => by omega)
  intro i h_i ih h_al
  refine j_iload_n G dX0_canPrint_2 rfl ?_
  first | refine j_aload_n G dX0_canPrint_3 rfl ?_ | refine j_aload_nN G dX0_canPrint_3 rfl ?_
  refine j_getr G fl_X0_14 dX0_canPrint_4 (by first | assumption | rfl) (by rfl) ?_
  refine j_geti G fl_X0_48 dX0_canPrint_7 3 rfl (by first | assumption | rfl) (by rfl) (fun r_7 => ?_)
  try simp (disch := omega) only [up_same, up_cell, up_idx, cpm_at, fil_at] at r_7 ⊢
  rw [h_n]
  refine j_icmp_ge G dX0_canPrint_10 (tgt := 43) (by decide) (by omega) (by omega) (fun c_10 => ?_) (fun c_10 => ?_)
  · refine j_iconst G dX0_canPrint_43 ?_
    refine j_zreturn G dX0_canPrint_44 (by first | exact b2_01 _ | omega) ?_
    obtain rfl : i = n := by omega
    rw [prB_iff.2 h_al]
    exact ⟨rfl, rfl⟩
  · have h_ci := h_cn i (by omega)
    obtain ⟨h_g1, h_g2⟩ := h_g i (by omega)
    first | refine j_aload_n G dX0_canPrint_13 rfl ?_ | refine j_aload_nN G dX0_canPrint_13 rfl ?_
    refine j_getr G fl_X0_22 dX0_canPrint_14 (by first | assumption | rfl) (by rfl) ?_
    refine j_iload_n G dX0_canPrint_17 rfl ?_
    refine j_aaload G dX0_canPrint_18 (by first | assumption | rfl) (by decide) (by omega) h_y1 ?_
    refine j_iload_n G dX0_canPrint_19 rfl ?_
    refine j_iaload G dX0_canPrint_20 (by first | assumption | rfl) (by omega) (fun r_20 => ?_)
    try simp (disch := omega) only [up_same, up_cell, up_idx, cpm_at, fil_at] at r_20 ⊢
    refine j_if_le G dX0_canPrint_21 (tgt := 37) (by decide) (by omega) (fun c_21 => ?_) (fun c_21 => ?_)
    · refine j_iinc2 G dX0_canPrint_37 (by decide) rfl rfl ?_
      refine j_goto G dX0_canPrint_40 (tgt := 2) (by decide) ?_
      refine j_pc (p2 := 2) rfl ?_
      refine ih (by omega) (fun w h_w h_1 => ?_)
      by_cases h_e : w = i
      · subst h_e
        omega
      · exact h_al w (by omega) h_1
    · first | refine j_aload_n G dX0_canPrint_24 rfl ?_ | refine j_aload_nN G dX0_canPrint_24 rfl ?_
      refine j_getr G fl_X0_25 dX0_canPrint_25 (by first | assumption | rfl) (by rfl) ?_
      refine j_iload_n G dX0_canPrint_28 rfl ?_
      refine j_iaload G dX0_canPrint_29 (by first | assumption | rfl) (by omega) (fun r_29 => ?_)
      try simp (disch := omega) only [up_same, up_cell, up_idx, cpm_at, fil_at] at r_29 ⊢
      refine j_ldc G kc_X0_64 dX0_canPrint_30 (z := 268435456) (by decide) ?_
      refine j_icmp_lt G dX0_canPrint_32 (tgt := 37) (by decide) (by omega) (by omega) (fun c_32 => ?_) (fun c_32 => ?_)
      · refine j_iinc2 G dX0_canPrint_37 (by decide) rfl rfl ?_
        refine j_goto G dX0_canPrint_40 (tgt := 2) (by decide) ?_
        refine j_pc (p2 := 2) rfl ?_
        refine ih (by omega) (fun w h_w h_1 => ?_)
        by_cases h_e : w = i
        · subst h_e
          omega
        · exact h_al w (by omega) h_1
      · refine j_iconst G dX0_canPrint_35 ?_
        refine j_zreturn G dX0_canPrint_36 (by first | exact b2_01 _ | omega) ?_
        rw [show prB cn g n = false from Bool.eq_false_iff.2 (fun z => prB_iff.1 z i (by omega) (by omega) (by omega))]
        exact ⟨rfl, rfl⟩
end RM
