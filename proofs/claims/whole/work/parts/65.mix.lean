/-- the digit of a part -/
def dgt (d : Int) (p : Nat) : Int := d / (10 ^ (6 - p) : Nat) % 10
def dgO (d : Int) : Bool := decide (0 ≤ d) && (decide (d < 10000000) && !anyB (fun p => decide (5 ≤ dgt d p)) 7)
theorem dgt_rg (d : Int) (p : Nat) : 0 ≤ dgt d p ∧ dgt d p < 10 := by
  unfold dgt
  omega
theorem div_10 (d : Int) (k : Nat) : d / (10 ^ k : Nat) / 10 = d / (10 ^ (k + 1) : Nat) := by
  rw [Int.ediv_ediv_of_nonneg (by exact Int.natCast_nonneg _), Nat.pow_succ, Int.natCast_mul]
  rfl
theorem dgO_no {d : Int} {p : Nat} (h_p : p < 7) (h : 5 ≤ dgt d p) : dgO d = false := by
  unfold dgO
  rw [show anyB (fun p => decide (5 ≤ dgt d p)) 7 = true from anyB_iff.2 ⟨p, h_p, decide_eq_true h⟩]
  simp
theorem dgO_is {d : Int} (h_0 : 0 ≤ d) (h_1 : d < 10000000) (h : ∀ p, p < 7 → dgt d p < 5) : dgO d = true := by
  unfold dgO
  rw [decide_eq_true h_0, decide_eq_true h_1, show anyB (fun p => decide (5 ≤ dgt d p)) 7 = false from Bool.eq_false_iff.2 (fun z => by
    obtain ⟨i, h_i, h_2⟩ := anyB_iff.1 z
    have := h i h_i
    have h_3 := of_decide_eq_true h_2
    omega)]
  rfl
theorem dgO_big {d : Int} (h_1 : 10000000 ≤ d) : dgO d = false := by
  unfold dgO
  rw [decide_eq_false (show ¬ d < 10000000 by omega)]
  simp
theorem dgO_neg {d : Int} (h_1 : d < 0) : dgO d = false := by
  unfold dgO
  rw [decide_eq_false (show ¬ 0 ≤ d by omega)]
  simp
theorem dgO_dg {d : Int} (h : dgO d = true) : (0 ≤ d ∧ d < 10000000) ∧ ∀ p, p < 7 → 0 ≤ dgt d p ∧ dgt d p < 5 := by
  refine ⟨?_, fun p h_p => ?_⟩
  · refine Decidable.byContradiction (fun h_n => ?_)
    by_cases h_1 : 0 ≤ d
    · rw [dgO_big (by omega)] at h
      exact absurd h (by decide)
    · rw [dgO_neg (by omega)] at h
      exact absurd h (by decide)
  · have := dgt_rg d p
    refine ⟨this.1, Decidable.byContradiction (fun h_n => ?_)⟩
    rw [dgO_no h_p (by omega)] at h
    exact absurd h (by decide)
/-- cells other than some are as they were -/
def Ons (p : Nat → Prop) (σ τ : MemT) : Prop := ∀ j, ¬ p j → τ j = σ j
theorem Ons.rf (p : Nat → Prop) (σ : MemT) : Ons p σ σ := fun _ _ => rfl
theorem Ons.up {p : Nat → Prop} {σ τ : MemT} (h : Ons p σ τ) {k : Nat} {i z : Int} (h_k : p k) : Ons p σ (up τ k i z) := fun j h_j => by
  rw [show CDotWarLaw_law_r7791_c06d4a.up τ k i z j = τ j from up_other j (fun q => h_j (q ▸ h_k))]
  exact h j h_j
theorem Ons.tr {p : Nat → Prop} {a b e : MemT} (h1 : Ons p a b) (h2 : Ons p b e) : Ons p a e := fun j hj => (h2 j hj).trans (h1 j hj)
theorem Ons.wk {p q : Nat → Prop} {a b : MemT} (h1 : Ons p a b) (h2 : ∀ j, p j → q j) : Ons q a b := fun j hj => h1 j (fun z => hj (h2 j z))
section MX
variable {E : EE} {x x1 x2 : CX} {μ σ : MemT}
theorem c_takeDigits (d : Int) (h_d : (-2147483648 ≤ d ∧ d < 2147483648)) : CT (EC x) 0 yX4_takeDigits [rf (EC x) 194, iv d] σ (rP (fun z τ => Ons (· = 197) σ τ ∧ z = b2 (dgO d = true) ∧ (dgO d = true → ∀ p : Nat, p < 7 → τ 197 p = dgt d p))) := by
  refine CT.ofJ (own := RX4) (cc := cX4_takeDigits) (n := 4) (ret := (some .boolean)) (by decide) rfl cw_X4_takeDigits (by decide) (Nat.le_of_ble_eq_true rfl) (ls := [some (rf (EC x) 194), some (iv d), none, none]) rfl ?_
  intro X G
  refine j_iload_n G dX4_takeDigits_0 rfl ?_
  refine j_if_ge G dX4_takeDigits_1 (tgt := 6) (by decide) (by omega) (fun c_1 => ?_) (fun c_1 => ?_)
  · refine j_iload_n G dX4_takeDigits_6 rfl ?_
    refine j_istore2 G dX4_takeDigits_7 (by decide) rfl ?_
    refine j_bipush G dX4_takeDigits_8 (by decide) ?_
    refine j_istore3 G dX4_takeDigits_10 (by decide) rfl ?_
    refine j_pc (p2 := 11) rfl ?_
    have h_lp : ∀ i : Nat, i ≤ 7 → ∀ τ : MemT, Ons (· = 197) σ τ → (∀ p : Nat, i ≤ p → p < 7 → τ 197 p = dgt d p ∧ dgt d p < 5) → JJ (EC x) X 0 (rP (fun z τ => Ons (· = 197) σ τ ∧ z = b2 (dgO d = true) ∧ (dgO d = true → ∀ p : Nat, p < 7 → τ 197 p = dgt d p))) 4 11 [some (rf (EC x) 194), some (iv d), some (iv (d / (10 ^ (7 - i) : Nat))), some (iv ((i : Int) - 1))] [] τ := by
      intro i
      induction i with
      | zero =>
        intro h_i τ h_o h_p
        have h_q : d / (10 ^ (7 - 0) : Nat) = d / 10000000 := rfl
        rw [h_q]
        · refine j_iload_n G dX4_takeDigits_11 rfl ?_
          refine j_if_lt G dX4_takeDigits_12 (tgt := 48) (by decide) (by omega) (fun c_12 => ?_) (fun c_12 => ?_)
          · refine j_iload_n G dX4_takeDigits_48 rfl ?_
            refine j_if_ne G dX4_takeDigits_49 (tgt := 56) (by decide) (by omega) (fun c_49 => ?_) (fun c_49 => ?_)
            · refine j_iconst G dX4_takeDigits_56 ?_
              refine j_zreturn G dX4_takeDigits_57 (by first | exact b2_01 _ | omega) ?_
              first
              | exact ⟨1, rfl, h_o, by rw [dgO_is (by omega) (by omega) (fun p h => (h_p p (by omega) h).2)]; rfl, fun _ p h => (h_p p (by omega) h).1⟩
              | exact ⟨0, rfl, h_o, by rw [dgO_big (by omega)]; rfl, fun h => by rw [dgO_big (by omega)] at h; exact absurd h (by decide)⟩
            · refine j_iconst G dX4_takeDigits_52 ?_
              refine j_goto G dX4_takeDigits_53 (tgt := 57) (by decide) ?_
              refine j_zreturn G dX4_takeDigits_57 (by first | exact b2_01 _ | omega) ?_
              first
              | exact ⟨1, rfl, h_o, by rw [dgO_is (by omega) (by omega) (fun p h => (h_p p (by omega) h).2)]; rfl, fun _ p h => (h_p p (by omega) h).1⟩
              | exact ⟨0, rfl, h_o, by rw [dgO_big (by omega)]; rfl, fun h => by rw [dgO_big (by omega)] at h; exact absurd h (by decide)⟩
          · omega
      | succ i ih =>
        intro h_i τ h_o h_p
        rw [show ((i + 1 : Nat) : Int) - 1 = i by omega]
        have h_dg : d / (10 ^ (7 - (i + 1)) : Nat) % 10 = dgt d i := by
          unfold dgt
          rw [show 7 - (i + 1) = 6 - i by omega]
        have h_dv : d / (10 ^ (7 - (i + 1)) : Nat) / 10 = d / (10 ^ (7 - i) : Nat) := by
          rw [div_10, show 7 - (i + 1) + 1 = 7 - i by omega]
        have h_g0 := dgt_rg d i
        have h_rr : 0 ≤ d / (10 ^ (7 - (i + 1)) : Nat) ∧ d / (10 ^ (7 - (i + 1)) : Nat) ≤ d := ⟨Int.ediv_nonneg (by omega) (Int.natCast_nonneg _), Int.ediv_le_self _ (by omega)⟩
        generalize d / (10 ^ (7 - (i + 1)) : Nat) = rest at h_dg h_dv h_rr ⊢
        · refine j_iload_n G dX4_takeDigits_11 rfl ?_
          refine j_if_lt G dX4_takeDigits_12 (tgt := 48) (by decide) (by omega) (fun c_12 => ?_) (fun c_12 => ?_)
          · omega
          · first | refine j_aload_n G dX4_takeDigits_15 rfl ?_ | refine j_aload_nN G dX4_takeDigits_15 rfl ?_
            refine j_getr G fl_X4_18 dX4_takeDigits_16 (by first | assumption | rfl) (by rfl) ?_
            refine j_iload_n G dX4_takeDigits_19 rfl ?_
            refine j_iload_n G dX4_takeDigits_20 rfl ?_
            refine j_bipush G dX4_takeDigits_21 (by decide) ?_
            refine j_irem G dX4_takeDigits_23 (by omega) (by omega) ?_
            rw [h_dg]
            refine j_iastore G dX4_takeDigits_24 (by first | assumption | rfl) (by omega) (by omega) ?_
            first | refine j_aload_n G dX4_takeDigits_25 rfl ?_ | refine j_aload_nN G dX4_takeDigits_25 rfl ?_
            refine j_getr G fl_X4_18 dX4_takeDigits_26 (by first | assumption | rfl) (by rfl) ?_
            refine j_iload_n G dX4_takeDigits_29 rfl ?_
            refine j_iaload G dX4_takeDigits_30 (by first | assumption | rfl) (by omega) (fun r_30 => ?_)
            try simp (disch := omega) only [up_same, up_cell, up_idx, cpm_at, fil_at] at r_30 ⊢
            refine j_pc (p2 := 31) rfl ?_
            refine j_iconst G dX4_takeDigits_31 ?_
            refine j_icmp_lt G dX4_takeDigits_32 (tgt := 37) (by decide) (by omega) (by omega) (fun c_32 => ?_) (fun c_32 => ?_)
            · refine j_iload_n G dX4_takeDigits_37 rfl ?_
              refine j_bipush G dX4_takeDigits_38 (by decide) ?_
              refine j_idiv G dX4_takeDigits_40 (by omega) (by omega) ?_
              rw [h_dv]
              refine j_istore2 G dX4_takeDigits_41 (by decide) rfl ?_
              refine j_iinc3 G dX4_takeDigits_42 (by decide) rfl rfl ?_
              refine j_goto G dX4_takeDigits_45 (tgt := 11) (by decide) ?_
              refine j_pc (p2 := 11) rfl ?_
              refine ih (by omega) _ (h_o.up rfl) (fun p h_1 h_2 => ?_)
              by_cases h_e : p = i
              · subst h_e
                exact ⟨up_same _ _ _ _, c_32⟩
              · rw [up_idx (by omega)]
                exact h_p p (by omega) h_2
            · refine j_iconst G dX4_takeDigits_35 ?_
              refine j_zreturn G dX4_takeDigits_36 (by first | exact b2_01 _ | omega) ?_
              exact ⟨0, rfl, h_o.up rfl, by rw [dgO_no (by omega) c_32]; rfl, fun h => by rw [dgO_no (by omega) c_32] at h; exact absurd h (by decide)⟩
    have h_z := h_lp 7 (by decide) σ (Ons.rf _ _) (fun p h_1 h_2 => by omega)
    rw [show d / (10 ^ (7 - 7) : Nat) = d by simp] at h_z
    exact h_z
  · refine j_iconst G dX4_takeDigits_4 ?_
    refine j_zreturn G dX4_takeDigits_5 (by first | exact b2_01 _ | omega) ?_
    exact ⟨0, rfl, Ons.rf _ _, by rw [dgO_neg (by omega)]; rfl, fun h => by rw [dgO_neg (by omega)] at h; exact absurd h (by decide)⟩
theorem m_layMix (d : Int) (h_d : (-2147483648 ≤ d ∧ d < 2147483648)) : CT (EM x) 0 yX12_layMix [rf (EM x) 0, iv d] μ (rP (fun z ν => Ons (· = 33) μ ν ∧ z = b2 (dgO d = true) ∧ (dgO d = true → ∀ p : Nat, p < 7 → ν 33 p = dgt d p))) := by
  refine CT.ofJ (own := RX12) (cc := cX12_layMix) (n := 5) (ret := (some .boolean)) (by decide) rfl cw_X12_layMix (by decide) (Nat.le_of_ble_eq_true rfl) (ls := [some (rf (EM x) 0), some (iv d), none, none, none]) rfl ?_
  intro X G
  have h_lp : ∀ e : Int, 0 ≤ e → e < 2147483648 → (dgO d = true → e = d) → (dgO e = true → dgO d = true) → ∀ i : Nat, i ≤ 7 → ∀ (ν : MemT) (g : Int), Ons (· = 33) μ ν → (∀ p : Nat, i ≤ p → p < 7 → ν 33 p = dgt e p) → (g = 0 ∨ g = 1) → (g = 1 ↔ ∀ p : Nat, i ≤ p → p < 7 → dgt e p < 5) → JJ (EM x) X 0 (rP (fun z ν => Ons (· = 33) μ ν ∧ z = b2 (dgO d = true) ∧ (dgO d = true → ∀ p : Nat, p < 7 → ν 33 p = dgt d p))) 5 18 [some (rf (EM x) 0), some (iv d), some (iv (e / (10 ^ (7 - i) : Nat))), some (iv g), some (iv ((i : Int) - 1))] [] ν := by
    intro e h_e0 h_e1 h_e2 h_e3 i
    induction i with
    | zero =>
      intro h_i ν g h_o h_p h_g01 h_g
      have h_q : e / (10 ^ (7 - 0) : Nat) = e / 10000000 := rfl
      rw [h_q]
      have h_y : g = 1 → e / 10000000 = 0 → dgO d = true := fun h_1 h_2 => h_e3 (dgO_is (by omega) (by omega) (fun p h => h_g.1 h_1 p (by omega) h))
      have h_n : ¬ (g = 1 ∧ e / 10000000 = 0) → dgO d = false := fun h_1 => by
        refine Bool.eq_false_iff.2 (fun h_2 => h_1 ?_)
        obtain rfl := h_e2 h_2
        obtain ⟨h_3, h_4⟩ := dgO_dg h_2
        exact ⟨h_g.2 (fun p _ h => (h_4 p h).2), by omega⟩
      have h_pd : dgO d = true → ∀ p : Nat, p < 7 → ν 33 p = dgt d p := fun h_1 p h_2 => by
        obtain rfl := h_e2 h_1
        exact h_p p (by omega) h_2
      · refine j_iload G dX12_layMix_18 rfl ?_
        refine j_if_lt G dX12_layMix_20 (tgt := 66) (by decide) (by omega) (fun c_20 => ?_) (fun c_20 => ?_)
        · refine j_iload_n G dX12_layMix_66 rfl ?_
          refine j_if_eq G dX12_layMix_67 (tgt := 78) (by decide) (by omega) (fun c_67 => ?_) (fun c_67 => ?_)
          · refine j_iconst G dX12_layMix_78 ?_
            refine j_zreturn G dX12_layMix_79 (by first | exact b2_01 _ | omega) ?_
            first
            | exact ⟨1, rfl, h_o, by rw [h_y (by omega) (by omega)]; rfl, h_pd⟩
            | exact ⟨0, rfl, h_o, by rw [h_n (by omega)]; rfl, h_pd⟩
          · refine j_iload_n G dX12_layMix_70 rfl ?_
            refine j_if_ne G dX12_layMix_71 (tgt := 78) (by decide) (by omega) (fun c_71 => ?_) (fun c_71 => ?_)
            · refine j_iconst G dX12_layMix_78 ?_
              refine j_zreturn G dX12_layMix_79 (by first | exact b2_01 _ | omega) ?_
              first
              | exact ⟨1, rfl, h_o, by rw [h_y (by omega) (by omega)]; rfl, h_pd⟩
              | exact ⟨0, rfl, h_o, by rw [h_n (by omega)]; rfl, h_pd⟩
            · refine j_iconst G dX12_layMix_74 ?_
              refine j_goto G dX12_layMix_75 (tgt := 79) (by decide) ?_
              refine j_zreturn G dX12_layMix_79 (by first | exact b2_01 _ | omega) ?_
              first
              | exact ⟨1, rfl, h_o, by rw [h_y (by omega) (by omega)]; rfl, h_pd⟩
              | exact ⟨0, rfl, h_o, by rw [h_n (by omega)]; rfl, h_pd⟩
        · omega
    | succ i ih =>
      intro h_i ν g h_o h_p h_g01 h_g
      rw [show ((i + 1 : Nat) : Int) - 1 = i by omega]
      have h_dg : e / (10 ^ (7 - (i + 1)) : Nat) % 10 = dgt e i := by
        unfold dgt
        rw [show 7 - (i + 1) = 6 - i by omega]
      have h_dv : e / (10 ^ (7 - (i + 1)) : Nat) / 10 = e / (10 ^ (7 - i) : Nat) := by
        rw [div_10, show 7 - (i + 1) + 1 = 7 - i by omega]
      have h_g0 := dgt_rg e i
      have h_rr : 0 ≤ e / (10 ^ (7 - (i + 1)) : Nat) ∧ e / (10 ^ (7 - (i + 1)) : Nat) ≤ e := ⟨Int.ediv_nonneg (by omega) (Int.natCast_nonneg _), Int.ediv_le_self _ (by omega)⟩
      generalize e / (10 ^ (7 - (i + 1)) : Nat) = rest at h_dg h_dv h_rr ⊢
      have h_in : ∀ p : Nat, i ≤ p → p < 7 → up ν 33 i (dgt e i) 33 p = dgt e p := fun p h_1 h_2 => by
        by_cases h_e : p = i
        · subst h_e
          exact up_same _ _ _ _
        · rw [up_idx (by omega)]
          exact h_p p (by omega) h_2
      · refine j_iload G dX12_layMix_18 rfl ?_
        refine j_if_lt G dX12_layMix_20 (tgt := 66) (by decide) (by omega) (fun c_20 => ?_) (fun c_20 => ?_)
        · omega
        · first | refine j_aload_n G dX12_layMix_23 rfl ?_ | refine j_aload_nN G dX12_layMix_23 rfl ?_
          refine j_getr G fl_X12_107 dX12_layMix_24 (by first | assumption | rfl) (by rfl) ?_
          refine j_iload G dX12_layMix_27 rfl ?_
          refine j_iload_n G dX12_layMix_29 rfl ?_
          refine j_bipush G dX12_layMix_30 (by decide) ?_
          refine j_irem G dX12_layMix_32 (by omega) (by omega) ?_
          rw [h_dg]
          refine j_iastore G dX12_layMix_33 (by first | assumption | rfl) (by omega) (by omega) ?_
          refine j_iload_n G dX12_layMix_34 rfl ?_
          refine j_if_eq G dX12_layMix_35 (tgt := 53) (by decide) (by omega) (fun c_35 => ?_) (fun c_35 => ?_)
          · refine j_iconst G dX12_layMix_53 ?_
            refine j_istore3 G dX12_layMix_54 (by decide) rfl ?_
            refine j_iload_n G dX12_layMix_55 rfl ?_
            refine j_bipush G dX12_layMix_56 (by decide) ?_
            refine j_idiv G dX12_layMix_58 (by omega) (by omega) ?_
            rw [h_dv]
            refine j_istore2 G dX12_layMix_59 (by decide) rfl ?_
            refine j_iinc4 G dX12_layMix_60 (by decide) rfl rfl ?_
            refine j_goto G dX12_layMix_63 (tgt := 18) (by decide) ?_
            refine j_pc (p2 := 18) rfl ?_
            first
            | exact ih (by omega) _ 1 (h_o.up rfl) h_in (by omega) ⟨fun _ p h_1 h_2 => by by_cases h_e : p = i; subst h_e; omega; exact h_g.1 (by omega) p (by omega) h_2, fun _ => rfl⟩
            | exact ih (by omega) _ 0 (h_o.up rfl) h_in (by omega) ⟨fun h => absurd h (by decide), fun h => by have := h i (by omega) (by omega); omega⟩
            | exact ih (by omega) _ 0 (h_o.up rfl) h_in (by omega) ⟨fun h => absurd h (by decide), fun h => by have := h_g.2 (fun p h_1 h_2 => h p (by omega) h_2); omega⟩
          · first | refine j_aload_n G dX12_layMix_38 rfl ?_ | refine j_aload_nN G dX12_layMix_38 rfl ?_
            refine j_getr G fl_X12_107 dX12_layMix_39 (by first | assumption | rfl) (by rfl) ?_
            refine j_iload G dX12_layMix_42 rfl ?_
            refine j_iaload G dX12_layMix_44 (by first | assumption | rfl) (by omega) (fun r_44 => ?_)
            try simp (disch := omega) only [up_same, up_cell, up_idx, cpm_at, fil_at] at r_44 ⊢
            refine j_iconst G dX12_layMix_45 ?_
            refine j_icmp_ge G dX12_layMix_46 (tgt := 53) (by decide) (by omega) (by omega) (fun c_46 => ?_) (fun c_46 => ?_)
            · refine j_iconst G dX12_layMix_53 ?_
              refine j_istore3 G dX12_layMix_54 (by decide) rfl ?_
              refine j_iload_n G dX12_layMix_55 rfl ?_
              refine j_bipush G dX12_layMix_56 (by decide) ?_
              refine j_idiv G dX12_layMix_58 (by omega) (by omega) ?_
              rw [h_dv]
              refine j_istore2 G dX12_layMix_59 (by decide) rfl ?_
              refine j_iinc4 G dX12_layMix_60 (by decide) rfl rfl ?_
              refine j_goto G dX12_layMix_63 (tgt := 18) (by decide) ?_
              refine j_pc (p2 := 18) rfl ?_
              first
              | exact ih (by omega) _ 1 (h_o.up rfl) h_in (by omega) ⟨fun _ p h_1 h_2 => by by_cases h_e : p = i; subst h_e; omega; exact h_g.1 (by omega) p (by omega) h_2, fun _ => rfl⟩
              | exact ih (by omega) _ 0 (h_o.up rfl) h_in (by omega) ⟨fun h => absurd h (by decide), fun h => by have := h i (by omega) (by omega); omega⟩
              | exact ih (by omega) _ 0 (h_o.up rfl) h_in (by omega) ⟨fun h => absurd h (by decide), fun h => by have := h_g.2 (fun p h_1 h_2 => h p (by omega) h_2); omega⟩
            · refine j_iconst G dX12_layMix_49 ?_
              refine j_goto G dX12_layMix_50 (tgt := 54) (by decide) ?_
              refine j_istore3 G dX12_layMix_54 (by decide) rfl ?_
              refine j_iload_n G dX12_layMix_55 rfl ?_
              refine j_bipush G dX12_layMix_56 (by decide) ?_
              refine j_idiv G dX12_layMix_58 (by omega) (by omega) ?_
              rw [h_dv]
              refine j_istore2 G dX12_layMix_59 (by decide) rfl ?_
              refine j_iinc4 G dX12_layMix_60 (by decide) rfl rfl ?_
              refine j_goto G dX12_layMix_63 (tgt := 18) (by decide) ?_
              refine j_pc (p2 := 18) rfl ?_
              first
              | exact ih (by omega) _ 1 (h_o.up rfl) h_in (by omega) ⟨fun _ p h_1 h_2 => by by_cases h_e : p = i; subst h_e; omega; exact h_g.1 (by omega) p (by omega) h_2, fun _ => rfl⟩
              | exact ih (by omega) _ 0 (h_o.up rfl) h_in (by omega) ⟨fun h => absurd h (by decide), fun h => by have := h i (by omega) (by omega); omega⟩
              | exact ih (by omega) _ 0 (h_o.up rfl) h_in (by omega) ⟨fun h => absurd h (by decide), fun h => by have := h_g.2 (fun p h_1 h_2 => h p (by omega) h_2); omega⟩
  refine j_iload_n G dX12_layMix_0 rfl ?_
  refine j_if_ge G dX12_layMix_1 (tgt := 10) (by decide) (by omega) (fun c_1 => ?_) (fun c_1 => ?_)
  · refine j_iload_n G dX12_layMix_10 rfl ?_
    refine j_istore2 G dX12_layMix_11 (by decide) rfl ?_
    refine j_iconst G dX12_layMix_12 ?_
    refine j_istore3 G dX12_layMix_13 (by decide) rfl ?_
    refine j_bipush G dX12_layMix_14 (by decide) ?_
    refine j_istore4 G dX12_layMix_16 (by decide) rfl ?_
    refine j_pc (p2 := 18) rfl ?_
    have h_z1 : ∀ e : Int, e / (10 ^ (7 - 7) : Nat) = e := fun e => by simp
    first
    | (have h_z := h_lp d (by omega) (by omega) (fun _ => rfl) id 7 (by decide) μ 1 (Ons.rf _ _) (fun p h_1 h_2 => by omega) (by omega) ⟨fun _ p h_1 h_2 => by omega, fun _ => rfl⟩
       rw [h_z1] at h_z
       exact h_z)
    | (have h_z := h_lp 99999999 (by omega) (by omega) (fun h => by rw [dgO_neg (by omega)] at h; exact absurd h (by decide)) (fun h => by rw [dgO_big (by omega)] at h; exact absurd h (by decide)) 7 (by decide) μ 1 (Ons.rf _ _) (fun p h_1 h_2 => by omega) (by omega) ⟨fun _ p h_1 h_2 => by omega, fun _ => rfl⟩
       rw [h_z1] at h_z
       exact h_z)
  · refine j_ldcw G kc_X12_344 dX12_layMix_4 (z := 99999999) (by decide) ?_
    refine j_goto G dX12_layMix_7 (tgt := 11) (by decide) ?_
    refine j_istore2 G dX12_layMix_11 (by decide) rfl ?_
    refine j_iconst G dX12_layMix_12 ?_
    refine j_istore3 G dX12_layMix_13 (by decide) rfl ?_
    refine j_bipush G dX12_layMix_14 (by decide) ?_
    refine j_istore4 G dX12_layMix_16 (by decide) rfl ?_
    refine j_pc (p2 := 18) rfl ?_
    have h_z1 : ∀ e : Int, e / (10 ^ (7 - 7) : Nat) = e := fun e => by simp
    first
    | (have h_z := h_lp d (by omega) (by omega) (fun _ => rfl) id 7 (by decide) μ 1 (Ons.rf _ _) (fun p h_1 h_2 => by omega) (by omega) ⟨fun _ p h_1 h_2 => by omega, fun _ => rfl⟩
       rw [h_z1] at h_z
       exact h_z)
    | (have h_z := h_lp 99999999 (by omega) (by omega) (fun h => by rw [dgO_neg (by omega)] at h; exact absurd h (by decide)) (fun h => by rw [dgO_big (by omega)] at h; exact absurd h (by decide)) 7 (by decide) μ 1 (Ons.rf _ _) (fun p h_1 h_2 => by omega) (by omega) ⟨fun _ p h_1 h_2 => by omega, fun _ => rfl⟩
       rw [h_z1] at h_z
       exact h_z)
end MX
