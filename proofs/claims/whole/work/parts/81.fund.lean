/-! a fund -/
theorem or32_z {a : Nat} (h : a < 2147483648) : or32 a 0 = a := (or32_nat (b := 0) h (by decide)).trans (by rw [Nat.or_zero])
theorem and_rg (x y : Int) : -2147483648 ≤ and32 x y ∧ and32 x y < 2147483648 := ofI_rng _
theorem andn0 {s a : Nat} (h_s : s < 256) (h_a : a < 256) : and32 s (xor32 a (-1)) = 0 ↔ ∀ b, b < 8 → s.testBit b = true → a.testBit b = true := by
  have h_1 : nI s &&& (nI a ^^^ Int32.ofInt (-1)) = nI (s &&& (255 ^^^ a)) := by
    apply Int32.toBitVec_inj.1
    show BitVec.ofNat 32 s &&& (BitVec.ofNat 32 a ^^^ (Int32.ofInt (-1)).toBitVec) = BitVec.ofNat 32 (s &&& (255 ^^^ a))
    rw [show (Int32.ofInt (-1)).toBitVec = BitVec.allOnes 32 from by decide]
    apply BitVec.eq_of_getLsbD_eq
    intro i h_i
    rw [BitVec.getLsbD_and, BitVec.getLsbD_xor, BitVec.getLsbD_ofNat, BitVec.getLsbD_ofNat, BitVec.getLsbD_ofNat, BitVec.getLsbD_allOnes, Nat.testBit_and, Nat.testBit_xor, show 255 = 2 ^ 8 - 1 from rfl, Nat.testBit_two_pow_sub_one]
    by_cases h_8 : i < 8
    · rw [decide_eq_true h_i, decide_eq_true h_8]
      cases s.testBit i <;> cases a.testBit i <;> rfl
    · rw [testBit_big (m := 8) h_s i (by omega), decide_eq_true h_i]
      rfl
  have h_2 : s &&& (255 ^^^ a) ≤ s := Nat.and_le_left
  have h_3 : and32 s (xor32 a (-1)) = ((s &&& (255 ^^^ a) : Nat) : Int) := by
    unfold and32 xor32
    rw [ofI_nat, ofI_nat, Int32.ofInt_toInt, h_1, nI_toInt2 (by omega)]
  rw [h_3]
  constructor
  · intro h b h_b h_sb
    have h_4 : s &&& (255 ^^^ a) = 0 := by omega
    have h_5 : (s &&& (255 ^^^ a)).testBit b = false := by rw [h_4]; exact Nat.zero_testBit b
    rw [Nat.testBit_and, Nat.testBit_xor, show 255 = 2 ^ 8 - 1 from rfl, Nat.testBit_two_pow_sub_one, decide_eq_true h_b, h_sb] at h_5
    cases h_6 : a.testBit b
    · rw [h_6] at h_5
      exact absurd h_5 (by decide)
    · rfl
  · intro h
    have h_4 : s &&& (255 ^^^ a) = 0 := by
      apply Nat.eq_of_testBit_eq
      intro i
      rw [Nat.zero_testBit, Nat.testBit_and, Nat.testBit_xor, show 255 = 2 ^ 8 - 1 from rfl, Nat.testBit_two_pow_sub_one]
      by_cases h_8 : i < 8
      · cases h_5 : s.testBit i
        · rfl
        · rw [h i h_8 h_5, decide_eq_true h_8]
          rfl
      · rw [testBit_big (m := 8) h_s i (by omega)]
        rfl
    rw [h_4]
    rfl
abbrev FB : Type := Int × Int × Int × Int
def fsum (f : Nat → Int) (set m : Nat) : Int := sm (fun b => if set.testBit b then f b else 0) m
def okF (pg : Nat → Int) (set m : Nat) : Bool := !anyB (fun b => set.testBit b && decide (pg b < 0)) m
theorem okF_iff {pg : Nat → Int} {set m : Nat} : okF pg set m = true ↔ ∀ b, b < m → set.testBit b = true → 0 ≤ pg b := by
  unfold okF
  rw [Bool.not_eq_true', Bool.eq_false_iff, Ne, anyB_iff]
  constructor
  · intro h b h_b h_s
    refine Decidable.byContradiction (fun h_n => h ⟨b, h_b, ?_⟩)
    rw [h_s, decide_eq_true (by omega)]
    rfl
  · rintro h ⟨b, h_b, h_z⟩
    rw [Bool.and_eq_true] at h_z
    have := h b h_b h_z.1
    have := of_decide_eq_true h_z.2
    omega
def stF (c coin : Int) (pg gn : Nat → Int) (set : Nat) (B : FB) : FB := if okF pg set 8 = true ∧ fsum pg set 8 ≤ coin ∧ (B.1 < fsum gn set 8 ∨ fsum gn set 8 = B.1 ∧ c = B.2.1 ∧ fsum pg set 8 < B.2.2.2) then (fsum gn set 8, c, (set : Int), fsum pg set 8) else B
def foF (c coin : Int) (pg gn : Nat → Int) (B : FB) : Nat → FB
  | 0 => B
  | m + 1 => stF c coin pg gn (m + 1) (foF c coin pg gn B m)
theorem fsum_rg {f : Nat → Int} {set : Nat} {a : Int} (h_a : 0 ≤ a) : ∀ m, (∀ b, b < m → set.testBit b = true → 0 ≤ f b ∧ f b ≤ a) → 0 ≤ fsum f set m ∧ fsum f set m ≤ m * a := fun m h => by
  have := sm_rg (g := fun b => if set.testBit b then f b else 0) (a := 0) (b := a) m (fun b h_b => by
    by_cases h_s : set.testBit b = true
    · rw [if_pos h_s]; exact h b h_b h_s
    · rw [if_neg h_s]; omega)
  unfold fsum
  omega
theorem fsum_ge {f : Nat → Int} {set b : Nat} (h_b : set.testBit b = true) : ∀ m, b < m → (∀ b, b < m → set.testBit b = true → 0 ≤ f b) → f b ≤ fsum f set m
  | 0, h, _ => absurd h (Nat.not_lt_zero _)
  | m + 1, h, h_p => by
    have h_s : fsum f set (m + 1) = fsum f set m + (if set.testBit m then f m else 0) := rfl
    have h_0 : ∀ k, k ≤ m → 0 ≤ fsum f set k := fun k => by
      induction k with
      | zero => intro _; exact Int.le_refl _
      | succ k ih =>
        intro h_k
        have h_1 := ih (by omega)
        have h_2 : fsum f set (k + 1) = fsum f set k + (if set.testBit k then f k else 0) := rfl
        have h_3 := h_p k (by omega)
        rw [h_2]
        split
        · rename_i h_4
          have := h_3 h_4
          omega
        · omega
    by_cases h_e : b = m
    · subst h_e
      rw [h_s, if_pos h_b]
      have := h_0 b (Nat.le_refl _)
      omega
    · have h_1 := fsum_ge h_b m (by omega) (fun b h_1 h_2 => h_p b (by omega) h_2)
      rw [h_s]
      split
      · rename_i h_4
        have := h_p m (by omega) h_4
        omega
      · omega
theorem fsum_cg {f g : Nat → Int} {set : Nat} (m : Nat) (h : ∀ b, b < m → set.testBit b = true → f b = g b) : fsum f set m = fsum g set m := sm_cg m (fun b h_b => by
  by_cases h_s : set.testBit b = true
  · rw [if_pos h_s, if_pos h_s]; exact h b h_b h_s
  · rw [if_neg h_s, if_neg h_s])
/-- what no one gains from changes nothing -/
theorem foF_0 {c coin : Int} {pg gn : Nat → Int} {B : FB} (h_g : ∀ b, b < 8 → gn b = 0) (h_0 : 0 ≤ B.1) (h_c : B.2.1 ≠ c) : ∀ m, foF c coin pg gn B m = B
  | 0 => rfl
  | m + 1 => by
    show stF c coin pg gn (m + 1) (foF c coin pg gn B m) = B
    rw [foF_0 h_g h_0 h_c m]
    unfold stF
    have h_1 : fsum gn (m + 1) 8 = 0 := by
      rw [fsum_cg (g := fun _ => 0) 8 (fun b h_b _ => h_g b h_b)]
      have := fsum_rg (f := fun _ => 0) (set := m + 1) (a := 0) (by omega) 8 (fun b _ _ => by omega)
      omega
    rw [h_1, if_neg (fun z => by omega)]
theorem foF_in {c coin : Int} {pg gn : Nat → Int} {B : FB} (h_0 : 0 ≤ B.1) : ∀ m, 0 ≤ (foF c coin pg gn B m).1 ∧ ((foF c coin pg gn B m).2.1 = B.2.1 ∨ (foF c coin pg gn B m).2.1 = c)
  | 0 => ⟨h_0, Or.inl rfl⟩
  | m + 1 => by
    have h_1 := foF_in (c := c) (coin := coin) (pg := pg) (gn := gn) h_0 m
    show 0 ≤ (stF c coin pg gn (m + 1) (foF c coin pg gn B m)).1 ∧ _
    rw [show foF c coin pg gn B (m + 1) = stF c coin pg gn (m + 1) (foF c coin pg gn B m) from rfl]
    unfold stF
    split
    · rename_i h_2
      refine ⟨?_, Or.inr rfl⟩
      show 0 ≤ fsum gn (m + 1) 8
      omega
    · exact h_1
def FdC (τ : MemT) (B : FB) : Prop := τ 191 2 = B.1 ∧ τ 191 3 = B.2.1 ∧ τ 191 4 = B.2.2.1 ∧ τ 191 5 = B.2.2.2
section FU
variable {E : EE} {x x1 x2 : CX} {μ σ : MemT}
theorem c_affordable (coin : Int) (pr : Nat → Int) (h_k : 0 ≤ coin ∧ coin ≤ 1000) (h_p : ∀ b : Nat, b < 8 → σ 193 b = pr b) : CT (EC x) 0 yX3_affordableBooks [rf (EC x) 191, iv coin] σ (rI (bo (fun b => decide (pr b ≤ coin)) 8) σ) := by
  refine CT.ofJ (own := RX3) (cc := cX3_affordableBooks) (n := 4) (ret := (some .int)) (by decide) rfl cw_X3_affordableBooks (by decide) (Nat.le_of_ble_eq_true rfl) (ls := [some (rf (EC x) 191), some (iv coin), none, none]) rfl ?_
  intro X G
  refine j_iconst G dX3_affordableBooks_0 ?_
  refine j_istore2 G dX3_affordableBooks_1 (by decide) rfl ?_
  refine j_iconst G dX3_affordableBooks_2 ?_
  refine j_istore3 G dX3_affordableBooks_3 (by decide) rfl ?_
  refine j_pc (p2 := 4) rfl ?_
  refine down (Pr := fun i => JJ (EC x) X 0 (rI (bo (fun b => decide (pr b ≤ coin)) 8) σ) 4 4 [some (rf (EC x) 191), some (iv coin), some (iv (bo (fun b => decide (pr b ≤ coin)) i)), some (iv i)] [] σ) 8 ?_ 0 (Nat.zero_le _)
  intro i h_i ih
  have h_bl := bo_lt (fun b => decide (pr b ≤ coin)) i
  have h_2i : 2 ^ i ≤ 2 ^ 8 := Nat.pow_le_pow_right (by decide) h_i
  have h_sl := shl32_one i (by omega)
  have h_pi := h_p i
  refine j_iload_n G dX3_affordableBooks_4 rfl ?_
  refine j_bipush G dX3_affordableBooks_5 (by decide) ?_
  refine j_icmp_ge G dX3_affordableBooks_7 (tgt := 36) (by decide) (by omega) (by omega) (fun c_7 => ?_) (fun c_7 => ?_)
  · refine j_iload_n G dX3_affordableBooks_36 rfl ?_
    refine j_ireturn G dX3_affordableBooks_37 ?_
    obtain rfl : i = 8 := by omega
    exact ⟨rfl, rfl⟩
  · refine j_iload_n G dX3_affordableBooks_10 rfl ?_
    first | refine j_aload_n G dX3_affordableBooks_11 rfl ?_ | refine j_aload_nN G dX3_affordableBooks_11 rfl ?_
    refine j_getr G fl_X3_15 dX3_affordableBooks_12 (by first | assumption | rfl) (by rfl) ?_
    refine j_iload_n G dX3_affordableBooks_15 rfl ?_
    refine j_iaload G dX3_affordableBooks_16 (by first | assumption | rfl) (by omega) (fun r_16 => ?_)
    try simp (disch := omega) only [up_same, up_cell, up_idx, cpm_at, fil_at] at r_16 ⊢
    rw [h_pi (by omega)] at *
    refine j_iload_n G dX3_affordableBooks_17 rfl ?_
    refine j_icmp_gt G dX3_affordableBooks_18 (tgt := 27) (by decide) (by omega) (by omega) (fun c_18 => ?_) (fun c_18 => ?_)
    · refine j_iconst G dX3_affordableBooks_27 ?_
      refine j_ior G dX3_affordableBooks_28 ?_
      first
      | rw [or32_nat (by omega) (by omega)]
      | rw [or32_z (by omega)]
      refine j_istore2 G dX3_affordableBooks_29 (by decide) rfl ?_
      refine j_iinc3 G dX3_affordableBooks_30 (by decide) rfl rfl ?_
      refine j_goto G dX3_affordableBooks_33 (tgt := 4) (by decide) ?_
      refine j_pc (p2 := 4) rfl ?_
      have h_z := ih (by omega)
      rw [show bo (fun b => decide (pr b ≤ coin)) (i + 1) = bo (fun b => decide (pr b ≤ coin)) i ||| (if decide (pr i ≤ coin) = true then 2 ^ i else 0) from rfl] at h_z
      first
      | (rw [decide_eq_true (by omega), if_pos rfl] at h_z; exact h_z)
      | (rw [decide_eq_false (by omega), if_neg (by decide), Nat.or_zero] at h_z; exact h_z)
    · refine j_iconst G dX3_affordableBooks_21 ?_
      refine j_iload_n G dX3_affordableBooks_22 rfl ?_
      refine j_ishl G dX3_affordableBooks_23 ?_
      rw [h_sl]
      refine j_goto G dX3_affordableBooks_24 (tgt := 28) (by decide) ?_
      refine j_ior G dX3_affordableBooks_28 ?_
      first
      | rw [or32_nat (by omega) (by omega)]
      | rw [or32_z (by omega)]
      refine j_istore2 G dX3_affordableBooks_29 (by decide) rfl ?_
      refine j_iinc3 G dX3_affordableBooks_30 (by decide) rfl rfl ?_
      refine j_goto G dX3_affordableBooks_33 (tgt := 4) (by decide) ?_
      refine j_pc (p2 := 4) rfl ?_
      have h_z := ih (by omega)
      rw [show bo (fun b => decide (pr b ≤ coin)) (i + 1) = bo (fun b => decide (pr b ≤ coin)) i ||| (if decide (pr i ≤ coin) = true then 2 ^ i else 0) from rfl] at h_z
      first
      | (rw [decide_eq_true (by omega), if_pos rfl] at h_z; exact h_z)
      | (rw [decide_eq_false (by omega), if_neg (by decide), Nat.or_zero] at h_z; exact h_z)
end FU
