/-! what is anew -/
/-- those whose own code has another cell of a letter -/
def dfS (σ : MemT) (sel : Nat → Bool) (t : Nat → Int) (c l : Nat) : Int := if sel l = true ∧ σ (3 + 7 * c) l ≠ t l then 1 else 0
def onS (σ : MemT) (n c : Nat) : Int := sm (owS σ 1048575 c) n
theorem bit_20 : ∀ r : Nat, r < 20 → (1048575 : Nat).testBit r = true := by decide +kernel
theorem onS_eq (σ : MemT) {n : Nat} (h_n : n ≤ 20) (c : Nat) : onS σ n c = sm (fun r => if ownS (σ (79 + 2 * r)) = c then 1 else 0) n := sm_cg n (fun r h_r => by
  unfold owS
  rw [bit_20 r (by omega)]
  by_cases h : ownS (σ (79 + 2 * r)) = c
  · rw [if_pos h, if_pos ⟨rfl, h⟩]
  · rw [if_neg h, if_neg (fun z => h z.2)])
theorem sm_mul (a : Int) (g : Nat → Int) : ∀ n, sm (fun i => a * g i) n = a * sm g n
  | 0 => by simp [sm]
  | n + 1 => by rw [sm_s, sm_s, sm_mul a g n, Int.mul_add]
theorem anw_eq (n : Nat) (own : Nat → Int) (h_own : ∀ r, r < n → own r = -6 ∨ (0 ≤ own r ∧ own r < 5)) (D : Nat → Nat → Int) (m : Nat) : sm (fun l => sm (fun c => D c l * sm (fun r => if own r = c then 1 else 0) n) 5) m = sm (fun r => if own r < 0 then 0 else sm (fun l => D (own r).toNat l) m) n := by
  have h_1 : ∀ l, sm (fun c => D c l * sm (fun r => if own r = c then 1 else 0) n) 5 = sm (fun r => if own r < 0 then 0 else D (own r).toNat l) n := fun l => by
    rw [sm_cg (g2 := fun c => sm (fun r => D c l * (if own r = c then 1 else 0)) n) 5 (fun c _ => (sm_mul (D c l) (fun r => if own r = c then 1 else 0) n).symm), sm_swap]
    refine sm_cg n (fun r h_r => ?_)
    rcases h_own r h_r with h_2 | h_2
    · rw [if_pos (by omega), sm_cg (g2 := fun _ => 0) 5 (fun c _ => ?_), sm_zero]
      rw [if_neg (by omega), Int.mul_zero]
    · rw [if_neg (by omega), sm_cg (g2 := fun c => if c = (own r).toNat then D c l else 0) 5 (fun c _ => ?_), sm_one (fun c => D c l) (own r).toNat 5, if_pos (by omega)]
      by_cases h_3 : own r = c
      · rw [if_pos h_3, if_pos (by omega), Int.mul_one]
      · rw [if_neg h_3, if_neg (by omega), Int.mul_zero]
  rw [sm_cg m (fun l _ => h_1 l), sm_swap]
  refine sm_cg n (fun r _ => ?_)
  by_cases h_2 : own r < 0
  · rw [if_pos h_2, sm_cg (g2 := fun _ => 0) m (fun l _ => if_pos h_2), sm_zero]
  · rw [if_neg h_2]
    exact sm_cg m (fun l _ => if_neg h_2)
/-- the same, by readers -/
def anS (σ : MemT) (n : Nat) (sel : Nat → Bool) (t : Nat → Int) : Int := sm (fun r => if ownS (σ (79 + 2 * r)) < 0 then 0 else sm (fun l => dfS σ sel t (ownS (σ (79 + 2 * r))).toNat l) 26) n
theorem anS_eq (σ : MemT) {n : Nat} (h_n : n ≤ 20) (sel : Nat → Bool) (t : Nat → Int) : sm (fun l => sm (fun c => dfS σ sel t c l * onS σ n c) 5) 26 = anS σ n sel t := by
  rw [sm_cg (g2 := fun l => sm (fun c => dfS σ sel t c l * sm (fun r => if ownS (σ (79 + 2 * r)) = c then 1 else 0) n) 5) 26 (fun l _ => sm_cg 5 (fun c _ => by rw [onS_eq σ h_n]))]
  exact anw_eq n (fun r => ownS (σ (79 + 2 * r))) (fun r _ => by have := ownA_1 (σ (79 + 2 * r)) 5; exact this) (fun c l => dfS σ sel t c l) 26
theorem dfS_01 (σ : MemT) (sel : Nat → Bool) (t : Nat → Int) (c l : Nat) : 0 ≤ dfS σ sel t c l ∧ dfS σ sel t c l ≤ 1 := by
  unfold dfS
  split <;> omega
theorem onS_rg (σ : MemT) (n c : Nat) : 0 ≤ onS σ n c ∧ onS σ n c ≤ n := owS_rg σ 1048575 c n
section AN
variable {E : EE} {x x1 x2 : CX} {μ σ : MemT}
theorem c_countAll (n : Nat) (h_n : σ 0 8 = n) (h_20 : n ≤ 20) : CT (EC x) 2 yX11_countAllOwners [rf (EC x) 0] σ (fun r τ => r = none ∧ Ons (· = 196) σ τ ∧ ∀ c : Nat, c < 5 → τ 196 c = onS σ n c) := by
  have h_ow : ∀ τ : MemT, Ons (· = 196) σ τ → ∀ c : Nat, sm (owS τ 1048575 c) n = onS σ n c := fun τ h c => sm_cg n (fun r h_r => by unfold owS; rw [h (79 + 2 * r) (by omega)])
  refine CT.ofJ (own := RX11) (cc := cX11_countAllOwners) (n := 2) (ret := none) (by decide) rfl cw_X11_countAllOwners (by decide) (Nat.le_of_ble_eq_true rfl) (ls := [some (rf (EC x) 0), none]) rfl ?_
  intro X G
  refine j_iconst G dX11_countAllOwners_0 ?_
  refine j_istore1 G dX11_countAllOwners_1 (by decide) rfl ?_
  refine j_pc (p2 := 2) rfl ?_
  refine down (Pr := fun i => ∀ τ : MemT, Ons (· = 196) σ τ → (∀ c : Nat, c < i → τ 196 c = onS σ n c) → JJ (EC x) X 2 (fun r τ => r = none ∧ Ons (· = 196) σ τ ∧ ∀ c : Nat, c < 5 → τ 196 c = onS σ n c) 2 2 [some (rf (EC x) 0), some (iv i)] [] τ) 5 ?_ 0 (by decide) σ (Ons.rf _ _) (fun c h_c => by omega)
  intro i h_i ih τ h_o h_c
  have h_or := onS_rg σ n i
  refine j_iload_n G dX11_countAllOwners_2 rfl ?_
  refine j_iconst G dX11_countAllOwners_3 ?_
  refine j_icmp_ge G dX11_countAllOwners_4 (tgt := 30) (by decide) (by omega) (by omega) (fun c_4 => ?_) (fun c_4 => ?_)
  · refine j_return G dX11_countAllOwners_30 ?_
    obtain rfl : i = 5 := by omega
    exact ⟨rfl, h_o, h_c⟩
  · first | refine j_aload_n G dX11_countAllOwners_7 rfl ?_ | refine j_aload_nN G dX11_countAllOwners_7 rfl ?_
    refine j_getr G fl_X11_84 dX11_countAllOwners_8 (by first | assumption | rfl) (by rfl) ?_
    refine j_getr G fl_X11_324 dX11_countAllOwners_11 (by first | assumption | rfl) (by rfl) ?_
    refine j_iload_n G dX11_countAllOwners_14 rfl ?_
    first | refine j_aload_n G dX11_countAllOwners_15 rfl ?_ | refine j_aload_nN G dX11_countAllOwners_15 rfl ?_
    refine j_iload_n G dX11_countAllOwners_16 rfl ?_
    refine j_ldcw G kc_X11_327 dX11_countAllOwners_17 (z := 1048575) (by decide) ?_
    refine j_callV G mv_X11_293 dX11_countAllOwners_20 (c_countOwners i (by omega) 1048575 n (by decide) ((congrFun (h_o 0 (by omega)) 8).trans h_n) h_20) (by first | assumption | rfl) (by decide) (by rfl) rfl rfl (by exact Nat.le_of_ble_eq_true rfl) (by decide) (kI ?_)
    rw [h_ow τ h_o]
    refine j_iastore G dX11_countAllOwners_23 (by first | assumption | rfl) (by omega) (by omega) ?_
    refine j_iinc1 G dX11_countAllOwners_24 (by decide) rfl rfl ?_
    refine j_goto G dX11_countAllOwners_27 (tgt := 2) (by decide) ?_
    refine j_pc (p2 := 2) rfl ?_
    refine ih (by omega) _ (h_o.up rfl) (fun c h_1 => ?_)
    by_cases h_e : c = i
    · subst h_e
      exact up_same _ _ _ _
    · rw [up_idx (by omega)]
      exact h_c c (by omega)
theorem c_strangers (l : Nat) (z : Int) (h_z : (-2147483648 ≤ z ∧ z < 2147483648)) (h_l : l < 26) (ow : Nat → Int) (h_ow : ∀ c : Nat, c < 5 → σ 196 c = ow c) (h_or : ∀ c, c < 5 → 0 ≤ ow c ∧ ow c ≤ 20) : CT (EC x) 0 yX4_strangersTo [rf (EC x) 194, iv l, iv z] σ (rI (sm (fun c => if σ (3 + 7 * c) l = z then 0 else ow c) 5) σ) := by
  refine CT.ofJ (own := RX4) (cc := cX4_strangersTo) (n := 5) (ret := (some .int)) (by decide) rfl cw_X4_strangersTo (by decide) (Nat.le_of_ble_eq_true rfl) (ls := [some (rf (EC x) 194), some (iv l), some (iv z), none, none]) rfl ?_
  intro X G
  refine j_iconst G dX4_strangersTo_0 ?_
  refine j_istore3 G dX4_strangersTo_1 (by decide) rfl ?_
  refine j_iconst G dX4_strangersTo_2 ?_
  refine j_istore4 G dX4_strangersTo_3 (by decide) rfl ?_
  refine j_pc (p2 := 5) rfl ?_
  refine down (Pr := fun i => JJ (EC x) X 0 (rI (sm (fun c => if σ (3 + 7 * c) l = z then 0 else ow c) 5) σ) 5 5 [some (rf (EC x) 194), some (iv l), some (iv z), some (iv (sm (fun c => if σ (3 + 7 * c) l = z then 0 else ow c) i)), some (iv i)] [] σ) 5 ?_ 0 (by decide)
  intro i h_i ih
  refine j_iload G dX4_strangersTo_5 rfl ?_
  refine j_iconst G dX4_strangersTo_7 ?_
  refine j_icmp_ge G dX4_strangersTo_8 (tgt := 47) (by decide) (by omega) (by omega) (fun c_8 => ?_) (fun c_8 => ?_)
  · refine j_iload_n G dX4_strangersTo_47 rfl ?_
    refine j_ireturn G dX4_strangersTo_48 ?_
    obtain rfl : i = 5 := by omega
    exact ⟨rfl, rfl⟩
  · obtain ⟨h_y1, h_y2, h_y3, h_y4, h_y5, h_y6, h_y7⟩ := ly_code (x := x) (c := i) (by omega)
    refine j_iload_n G dX4_strangersTo_11 rfl ?_
    first | refine j_aload_n G dX4_strangersTo_12 rfl ?_ | refine j_aload_nN G dX4_strangersTo_12 rfl ?_
    refine j_getr G fl_X4_31 dX4_strangersTo_13 (by first | assumption | rfl) (by rfl) ?_
    refine j_iload G dX4_strangersTo_16 rfl ?_
    refine j_aaload G dX4_strangersTo_18 (by first | assumption | rfl) (by decide) (by omega) (ly_codes (by omega)) ?_
    refine j_getr G fl_X4_41 dX4_strangersTo_19 (by first | assumption | rfl) (by rfl) ?_
    refine j_iload_n G dX4_strangersTo_22 rfl ?_
    refine j_iaload G dX4_strangersTo_23 (by first | assumption | rfl) (by omega) (fun r_23 => ?_)
    try simp (disch := omega) only [up_same, up_cell, up_idx, cpm_at, fil_at] at r_23 ⊢
    refine j_iload_n G dX4_strangersTo_24 rfl ?_
    refine j_icmp_ne G dX4_strangersTo_25 (tgt := 32) (by decide) (by omega) (by omega) (fun c_25 => ?_) (fun c_25 => ?_)
    · first | refine j_aload_n G dX4_strangersTo_32 rfl ?_ | refine j_aload_nN G dX4_strangersTo_32 rfl ?_
      refine j_getr G fl_X4_15 dX4_strangersTo_33 (by first | assumption | rfl) (by rfl) ?_
      refine j_iload G dX4_strangersTo_36 rfl ?_
      refine j_iaload G dX4_strangersTo_38 (by first | assumption | rfl) (by omega) (fun r_38 => ?_)
      try simp (disch := omega) only [up_same, up_cell, up_idx, cpm_at, fil_at] at r_38 ⊢
      try rw [h_ow i (by omega)]
      refine j_iadd G dX4_strangersTo_39 ?_
      refine j_istore3 G dX4_strangersTo_40 (by decide) rfl ?_
      refine j_iinc4 G dX4_strangersTo_41 (by decide) rfl rfl ?_
      refine j_goto G dX4_strangersTo_44 (tgt := 5) (by decide) ?_
      refine j_pc (p2 := 5) rfl ?_
      have h_w := ih (by omega)
      rw [sm_s (n := i)] at h_w
      first | (rw [if_pos c_25] at h_w; exact h_w) | (rw [if_neg c_25] at h_w; exact h_w)
    · refine j_iconst G dX4_strangersTo_28 ?_
      refine j_goto G dX4_strangersTo_29 (tgt := 39) (by decide) ?_
      try rw [h_ow i (by omega)]
      refine j_iadd G dX4_strangersTo_39 ?_
      refine j_istore3 G dX4_strangersTo_40 (by decide) rfl ?_
      refine j_iinc4 G dX4_strangersTo_41 (by decide) rfl rfl ?_
      refine j_goto G dX4_strangersTo_44 (tgt := 5) (by decide) ?_
      refine j_pc (p2 := 5) rfl ?_
      have h_w := ih (by omega)
      rw [sm_s (n := i)] at h_w
      first | (rw [if_pos c_25] at h_w; exact h_w) | (rw [if_neg c_25] at h_w; exact h_w)
end AN
