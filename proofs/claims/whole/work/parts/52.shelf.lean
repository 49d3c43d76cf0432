def anyB (p : Nat → Bool) : Nat → Bool
  | 0 => false
  | n + 1 => anyB p n || p n
theorem anyB_cg {p q : Nat → Bool} : ∀ n, (∀ i, i < n → p i = q i) → anyB p n = anyB q n
  | 0, _ => rfl
  | n + 1, h => by
    unfold anyB
    rw [anyB_cg n (fun i hi => h i (by omega)), h n (by omega)]
theorem anyB_iff {p : Nat → Bool} : ∀ {n : Nat}, anyB p n = true ↔ ∃ i, i < n ∧ p i = true
  | 0 => by simp [anyB]
  | n + 1 => by
    unfold anyB
    rw [Bool.or_eq_true, anyB_iff (n := n)]
    constructor
    · rintro (⟨i, h1, h2⟩ | h2)
      · exact ⟨i, by omega, h2⟩
      · exact ⟨n, by omega, h2⟩
    · rintro ⟨i, h1, h2⟩
      by_cases h_e : i = n
      · exact Or.inr (h_e ▸ h2)
      · exact Or.inl ⟨i, by omega, h2⟩
/-- the numbers below n of which p holds, as bits -/
def bo (p : Nat → Bool) : Nat → Nat
  | 0 => 0
  | n + 1 => bo p n ||| (if p n then 2 ^ n else 0)
theorem bo_lt (p : Nat → Bool) : ∀ n, bo p n < 2 ^ n
  | 0 => by simp [bo]
  | n + 1 => by
    have h_1 := bo_lt p n
    unfold bo
    apply Nat.or_lt_two_pow
    · exact Nat.lt_of_lt_of_le h_1 (Nat.pow_le_pow_right (by decide) (by omega))
    · split
      · exact Nat.pow_lt_pow_right (by decide) (by omega)
      · exact Nat.two_pow_pos _
theorem bo_cg {p q : Nat → Bool} : ∀ n, (∀ i, i < n → p i = q i) → bo p n = bo q n
  | 0, _ => rfl
  | n + 1, h => by
    unfold bo
    rw [bo_cg n (fun i hi => h i (by omega)), h n (by omega)]
theorem bo_bit (p : Nat → Bool) (j : Nat) : ∀ n, (bo p n).testBit j = (decide (j < n) && p j)
  | 0 => by simp [bo]
  | n + 1 => by
    unfold bo
    rw [or_bit, bo_bit p j n]
    by_cases h_j : j = n
    · subst h_j
      simp
    · by_cases h_k : j < n
      · simp [h_k, show ¬ n = j by omega, show j < n + 1 by omega]
      · simp [h_k, show ¬ n = j by omega, show ¬ j < n + 1 by omega]
theorem or_idem {a k : Nat} (p q : Bool) : (a ||| (if p then 2 ^ k else 0)) ||| (if q then 2 ^ k else 0) = a ||| (if p || q then 2 ^ k else 0) := by
  cases p <;> cases q <;> simp [Nat.or_assoc]
section SH
variable {x : CX} {μ σ : MemT}
theorem s_booksIn (s : Nat) (h_s : s < 6) (m : Nat) (h_m : m < 2147483648) : CT (EC x) 0 yX8_booksIn [rf (EC x) (119 + 12 * s), iv m] σ (rI (bo (fun b => anyB (fun e => m.testBit e && decide (0 < σ (121 + 12 * s + b) e)) 5) 8) σ) := by
  obtain ⟨h_y1, h_y2, h_y3, -⟩ := ly_school (x := x) h_s
  refine CT.ofJ (own := RX8) (cc := cX8_booksIn) (n := 5) (ret := (some .int)) (by decide) rfl cw_X8_booksIn (by decide) (Nat.le_of_ble_eq_true rfl) (ls := [some (rf (EC x) (119 + 12 * s)), some (iv m), none, none, none]) rfl ?_
  intro X G
  refine j_iconst G dX8_booksIn_0 ?_
  refine j_istore2 G dX8_booksIn_1 (by decide) rfl ?_
  refine j_iconst G dX8_booksIn_2 ?_
  refine j_istore3 G dX8_booksIn_3 (by decide) rfl ?_
  refine j_pc (p2 := 4) rfl ?_
  refine down (Pr := fun b => JJ (EC x) X 0 (rI (bo (fun b => anyB (fun e => m.testBit e && decide (0 < σ (121 + 12 * s + b) e)) 5) 8) σ) 5 4 [some (rf (EC x) (119 + 12 * s)), some (iv m), some (iv (bo (fun b => anyB (fun e => m.testBit e && decide (0 < σ (121 + 12 * s + b) e)) 5) b)), some (iv b), none] [] σ) 8 ?_ 0 (by decide)
  intro b h_b ihb
  generalize h_pst : rI (bo (fun b => anyB (fun e => m.testBit e && decide (0 < σ (121 + 12 * s + b) e)) 5) 8) σ = pst at ihb ⊢
  have h_B := pow31 (bo_lt (fun b => anyB (fun e => m.testBit e && decide (0 < σ (121 + 12 * s + b) e)) 5) b) (by omega)
  refine j_iload_n G dX8_booksIn_4 rfl ?_
  refine j_bipush G dX8_booksIn_5 (by decide) ?_
  refine j_icmp_ge G dX8_booksIn_7 (tgt := 59) (by decide) (by omega) (by omega) (fun c_7 => ?_) (fun c_7 => ?_)
  · refine j_iload_n G dX8_booksIn_59 rfl ?_
    refine j_ireturn G dX8_booksIn_60 ?_
    rw [← h_pst, show b = 8 by omega]
    exact ⟨rfl, rfl⟩
  · refine j_iconst G dX8_booksIn_10 ?_
    refine j_istore4 G dX8_booksIn_11 (by decide) rfl ?_
    refine j_pc (p2 := 13) rfl ?_
    have h_b8 : b < 8 := by omega
    have h_ihb := ihb h_b8
    have h_y4 := ly_copies (s := s) h_s h_b8
    have h_y5 := ly_shelf (x := x) h_s h_b8
    rw [show bo (fun b => anyB (fun e => m.testBit e && decide (0 < σ (121 + 12 * s + b) e)) 5) (b + 1) = bo (fun b => anyB (fun e => m.testBit e && decide (0 < σ (121 + 12 * s + b) e)) 5) b ||| (if anyB (fun e => m.testBit e && decide (0 < σ (121 + 12 * s + b) e)) 5 then 2 ^ b else 0) from rfl] at h_ihb
    generalize bo (fun b => anyB (fun e => m.testBit e && decide (0 < σ (121 + 12 * s + b) e)) 5) b = B at h_ihb h_B ⊢
    refine j_weak (ls' := [some (rf (EC x) (119 + 12 * s)), some (iv m), some (iv ((B ||| (if anyB (fun e => m.testBit e && decide (0 < σ (121 + 12 * s + b) e)) 0 then 2 ^ b else 0) : Nat) : Int)), some (iv b), some (iv ((0 : Nat) : Int))]) ?_ ⟨rfl, rfl, by simp [anyB], rfl, rfl, trivial⟩
    refine down (Pr := fun e => JJ (EC x) X 0 pst 5 13 [some (rf (EC x) (119 + 12 * s)), some (iv m), some (iv ((B ||| (if anyB (fun e => m.testBit e && decide (0 < σ (121 + 12 * s + b) e)) e then 2 ^ b else 0) : Nat) : Int)), some (iv b), some (iv e)] [] σ) 5 ?_ 0 (by decide)
    intro e h_e ihe
    have h_pw : 2 ^ b < 2 ^ 31 := Nat.pow_lt_pow_right (by decide) (by omega)
    have h_C : (B ||| (if anyB (fun e => m.testBit e && decide (0 < σ (121 + 12 * s + b) e)) e then 2 ^ b else 0)) < 2147483648 := by
      have : (B ||| (if anyB (fun e => m.testBit e && decide (0 < σ (121 + 12 * s + b) e)) e then 2 ^ b else 0)) < 2 ^ 31 := Nat.or_lt_two_pow (by omega) (by split <;> omega)
      omega
    refine j_iload G dX8_booksIn_13 rfl ?_
    refine j_iconst G dX8_booksIn_15 ?_
    refine j_icmp_ge G dX8_booksIn_16 (tgt := 53) (by decide) (by omega) (by omega) (fun c_16 => ?_) (fun c_16 => ?_)
    · refine j_iinc3 G dX8_booksIn_53 (by decide) rfl rfl ?_
      refine j_goto G dX8_booksIn_56 (tgt := 4) (by decide) ?_
      refine j_pc (p2 := 4) rfl ?_
      rw [show e = 5 by omega]
      exact j_weak h_ihb ⟨rfl, rfl, rfl, rfl, trivial⟩
    · refine j_iload_n G dX8_booksIn_19 rfl ?_
      refine j_iload G dX8_booksIn_20 rfl ?_
      refine j_ishr G dX8_booksIn_22 ?_
      refine j_iconst G dX8_booksIn_23 ?_
      refine j_iand G dX8_booksIn_24 ?_
      rw [bit32 h_m (by omega)]
      refine j_iconst G dX8_booksIn_25 ?_
      refine j_icmp_ne G dX8_booksIn_26 (tgt := 47) (by decide) (by have := b2_01 (m.testBit e = true); omega) (by omega) (fun c_26 => ?_) (fun c_26 => ?_)
      · refine j_iinc4 G dX8_booksIn_47 (by decide) rfl rfl ?_
        refine j_goto G dX8_booksIn_50 (tgt := 13) (by decide) ?_
        refine j_pc (p2 := 13) rfl ?_
        have h_z := ihe (by omega)
        rw [show anyB (fun e => m.testBit e && decide (0 < σ (121 + 12 * s + b) e)) (e + 1) = (anyB (fun e => m.testBit e && decide (0 < σ (121 + 12 * s + b) e)) e || (m.testBit e && decide (0 < σ (121 + 12 * s + b) e))) from rfl, ← or_idem] at h_z
        unfold b2 at c_26
        by_cases h_t : m.testBit e = true
        · by_cases h_p : 0 < σ (121 + 12 * s + b) e
          · rw [show (m.testBit e && decide (0 < σ (121 + 12 * s + b) e)) = true by simp [h_t, h_p]] at h_z
            have h_k := kn_s (a := B ||| (if anyB (fun e => m.testBit e && decide (0 < σ (121 + 12 * s + b) e)) e then 2 ^ b else 0)) (k := b) h_C (by omega) True
            rw [if_pos trivial, if_pos trivial] at h_k
            rw [if_pos rfl, ← h_k] at h_z
            first | exact h_z | (exfalso; first | omega | (rw [if_pos h_t] at c_26; omega))
          · rw [show (m.testBit e && decide (0 < σ (121 + 12 * s + b) e)) = false by simp [h_p]] at h_z
            simp only [Bool.false_eq_true, if_false, Nat.or_zero] at h_z
            first | exact h_z | (exfalso; omega)
        · rw [show (m.testBit e && decide (0 < σ (121 + 12 * s + b) e)) = false by simp [h_t]] at h_z
          simp only [Bool.false_eq_true, if_false, Nat.or_zero] at h_z
          first | exact h_z | (exfalso; rw [if_neg h_t] at c_26; omega)
      · first | refine j_aload_n G dX8_booksIn_29 rfl ?_ | refine j_aload_nN G dX8_booksIn_29 rfl ?_
        refine j_getr G fl_X8_11 dX8_booksIn_30 (by first | assumption | rfl) (by rfl) ?_
        refine j_iload_n G dX8_booksIn_33 rfl ?_
        refine j_aaload G dX8_booksIn_34 (by first | assumption | rfl) (by decide) (by omega) h_y4 ?_
        refine j_iload G dX8_booksIn_35 rfl ?_
        refine j_iaload G dX8_booksIn_37 (by first | assumption | rfl) (by omega) (fun r_37 => ?_)
        try simp (disch := omega) only [up_same, up_cell, up_idx, cpm_at, fil_at] at r_37 ⊢
        refine j_if_le G dX8_booksIn_38 (tgt := 47) (by decide) (by omega) (fun c_38 => ?_) (fun c_38 => ?_)
        · refine j_iinc4 G dX8_booksIn_47 (by decide) rfl rfl ?_
          refine j_goto G dX8_booksIn_50 (tgt := 13) (by decide) ?_
          refine j_pc (p2 := 13) rfl ?_
          have h_z := ihe (by omega)
          rw [show anyB (fun e => m.testBit e && decide (0 < σ (121 + 12 * s + b) e)) (e + 1) = (anyB (fun e => m.testBit e && decide (0 < σ (121 + 12 * s + b) e)) e || (m.testBit e && decide (0 < σ (121 + 12 * s + b) e))) from rfl, ← or_idem] at h_z
          unfold b2 at c_26
          by_cases h_t : m.testBit e = true
          · by_cases h_p : 0 < σ (121 + 12 * s + b) e
            · rw [show (m.testBit e && decide (0 < σ (121 + 12 * s + b) e)) = true by simp [h_t, h_p]] at h_z
              have h_k := kn_s (a := B ||| (if anyB (fun e => m.testBit e && decide (0 < σ (121 + 12 * s + b) e)) e then 2 ^ b else 0)) (k := b) h_C (by omega) True
              rw [if_pos trivial, if_pos trivial] at h_k
              rw [if_pos rfl, ← h_k] at h_z
              first | exact h_z | (exfalso; first | omega | (rw [if_pos h_t] at c_26; omega))
            · rw [show (m.testBit e && decide (0 < σ (121 + 12 * s + b) e)) = false by simp [h_p]] at h_z
              simp only [Bool.false_eq_true, if_false, Nat.or_zero] at h_z
              first | exact h_z | (exfalso; omega)
          · rw [show (m.testBit e && decide (0 < σ (121 + 12 * s + b) e)) = false by simp [h_t]] at h_z
            simp only [Bool.false_eq_true, if_false, Nat.or_zero] at h_z
            first | exact h_z | (exfalso; rw [if_neg h_t] at c_26; omega)
        · refine j_iload_n G dX8_booksIn_41 rfl ?_
          refine j_iconst G dX8_booksIn_42 ?_
          refine j_iload_n G dX8_booksIn_43 rfl ?_
          refine j_ishl G dX8_booksIn_44 ?_
          refine j_ior G dX8_booksIn_45 ?_
          refine j_istore2 G dX8_booksIn_46 (by decide) rfl ?_
          refine j_iinc4 G dX8_booksIn_47 (by decide) rfl rfl ?_
          refine j_goto G dX8_booksIn_50 (tgt := 13) (by decide) ?_
          refine j_pc (p2 := 13) rfl ?_
          have h_z := ihe (by omega)
          rw [show anyB (fun e => m.testBit e && decide (0 < σ (121 + 12 * s + b) e)) (e + 1) = (anyB (fun e => m.testBit e && decide (0 < σ (121 + 12 * s + b) e)) e || (m.testBit e && decide (0 < σ (121 + 12 * s + b) e))) from rfl, ← or_idem] at h_z
          unfold b2 at c_26
          by_cases h_t : m.testBit e = true
          · by_cases h_p : 0 < σ (121 + 12 * s + b) e
            · rw [show (m.testBit e && decide (0 < σ (121 + 12 * s + b) e)) = true by simp [h_t, h_p]] at h_z
              have h_k := kn_s (a := B ||| (if anyB (fun e => m.testBit e && decide (0 < σ (121 + 12 * s + b) e)) e then 2 ^ b else 0)) (k := b) h_C (by omega) True
              rw [if_pos trivial, if_pos trivial] at h_k
              rw [if_pos rfl, ← h_k] at h_z
              first | exact h_z | (exfalso; first | omega | (rw [if_pos h_t] at c_26; omega))
            · rw [show (m.testBit e && decide (0 < σ (121 + 12 * s + b) e)) = false by simp [h_p]] at h_z
              simp only [Bool.false_eq_true, if_false, Nat.or_zero] at h_z
              first | exact h_z | (exfalso; omega)
          · rw [show (m.testBit e && decide (0 < σ (121 + 12 * s + b) e)) = false by simp [h_t]] at h_z
            simp only [Bool.false_eq_true, if_false, Nat.or_zero] at h_z
            first | exact h_z | (exfalso; rw [if_neg h_t] at c_26; omega)
end SH
