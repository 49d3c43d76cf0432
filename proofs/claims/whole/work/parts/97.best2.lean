theorem usN_bit {w : Nat → Int} (v : Nat) : ∀ n, (usN w n).testBit v = true ↔ ∃ l, l < n ∧ 0 < w l ∧ (w l).toNat = v
  | 0 => by
    show (0 : Nat).testBit v = true ↔ _
    rw [Nat.zero_testBit]
    exact ⟨fun h => absurd h (by decide), fun ⟨l, h, _⟩ => absurd h (Nat.not_lt_zero _)⟩
  | n + 1 => by
    rw [usN_s]
    have ih := usN_bit (w := w) v n
    by_cases h_0 : w n ≤ 0
    · rw [if_pos h_0, ih]
      constructor
      · rintro ⟨l, h_1, h_2⟩
        exact ⟨l, by omega, h_2⟩
      · rintro ⟨l, h_1, h_2, h_3⟩
        have h_e : l ≠ n := fun z => by rw [z] at h_2; omega
        exact ⟨l, by omega, h_2, h_3⟩
    · rw [if_neg h_0, Nat.testBit_or, Bool.or_eq_true, ih, Nat.testBit_two_pow, decide_eq_true_eq]
      constructor
      · rintro (⟨l, h_1, h_2⟩ | h_1)
        · exact ⟨l, by omega, h_2⟩
        · exact ⟨n, by omega, by omega, h_1⟩
      · rintro ⟨l, h_1, h_2, h_3⟩
        by_cases h_e : l = n
        · rw [h_e] at h_3
          exact Or.inr h_3
        · exact Or.inl ⟨l, by omega, h_2, h_3⟩
theorem mxB_iff {w : Nat → Int} : ∀ n, mxB w n = true ↔ ∀ l, l < n → 0 ≤ w l → 0 < w l ∧ ∀ k, k < l → w k ≠ w l
  | 0 => ⟨fun _ l h => absurd h (Nat.not_lt_zero _), fun _ => rfl⟩
  | n + 1 => by
    rw [mxB_s, Bool.and_eq_true, mxB_iff n, Bool.or_eq_true, Bool.and_eq_true, decide_eq_true_eq, decide_eq_true_eq, Bool.not_eq_true']
    constructor
    · rintro ⟨h_1, h_2⟩ l h_l h_w
      by_cases h_e : l = n
      · subst h_e
        rcases h_2 with h_2 | ⟨h_2, h_3⟩
        · omega
        · refine ⟨h_2, fun k h_k h_4 => ?_⟩
          rw [Bool.eq_false_iff, Ne, usN_bit] at h_3
          exact h_3 ⟨k, h_k, by omega, by rw [h_4]⟩
      · exact h_1 l (by omega) h_w
    · intro h
      refine ⟨fun l h_l h_w => h l (by omega) h_w, ?_⟩
      by_cases h_0 : w n < 0
      · exact Or.inl h_0
      · obtain ⟨h_1, h_2⟩ := h n (by omega) (by omega)
        refine Or.inr ⟨h_1, ?_⟩
        rw [Bool.eq_false_iff, Ne, usN_bit]
        rintro ⟨l, h_3, h_4, h_5⟩
        exact h_2 l h_3 (by omega)
/-- the cells of a part by a code, as bits; bit 0: they can't be -/
def bN (P C : Nat → Int) (p : Int) : Nat → Nat
  | 0 => 0
  | l + 1 => if P l = p then bN P C p l ||| (if (C l).toNat = 0 ∨ (bN P C p l).testBit (C l).toNat = true then 1 else 2 ^ (C l).toNat) else bN P C p l
theorem bN_s (P C : Nat → Int) (p : Int) (l : Nat) : bN P C p (l + 1) = if P l = p then bN P C p l ||| (if (C l).toNat = 0 ∨ (bN P C p l).testBit (C l).toNat = true then 1 else 2 ^ (C l).toNat) else bN P C p l := rfl
theorem bit_1 (v : Nat) : (1 : Nat).testBit v = decide (v = 0) := by
  rw [show 1 = 2 ^ 0 from rfl, Nat.testBit_two_pow]
  exact decide_eq_decide.2 ⟨fun h => h.symm, fun h => h.symm⟩
theorem bN_bit {P C : Nat → Int} {p : Int} (v : Nat) (h_v : v ≠ 0) : ∀ n, (bN P C p n).testBit v = true ↔ ∃ l, l < n ∧ P l = p ∧ (C l).toNat = v
  | 0 => by
    show (0 : Nat).testBit v = true ↔ _
    rw [Nat.zero_testBit]
    exact ⟨fun h => absurd h (by decide), fun ⟨l, h, _⟩ => absurd h (Nat.not_lt_zero _)⟩
  | n + 1 => by
    have ih := bN_bit (P := P) (C := C) (p := p) v h_v n
    rw [bN_s]
    by_cases h_p : P n = p
    · rw [if_pos h_p, Nat.testBit_or, Bool.or_eq_true, ih]
      constructor
      · rintro (⟨l, h_1, h_2⟩ | h_1)
        · exact ⟨l, by omega, h_2⟩
        · refine ⟨n, by omega, h_p, ?_⟩
          split at h_1
          · rw [bit_1, decide_eq_true_eq] at h_1
            exact absurd h_1 h_v
          · rw [Nat.testBit_two_pow, decide_eq_true_eq] at h_1
            exact h_1
      · rintro ⟨l, h_1, h_2, h_3⟩
        by_cases h_e : l = n
        · subst h_e
          by_cases h_4 : (C l).toNat = 0 ∨ (bN P C p l).testBit (C l).toNat = true
          · rw [h_3] at h_4
            exact Or.inl (ih.1 (h_4.resolve_left h_v))
          · rw [if_neg h_4, Nat.testBit_two_pow, decide_eq_true_eq]
            exact Or.inr h_3
        · exact Or.inl ⟨l, by omega, h_2, h_3⟩
    · rw [if_neg h_p, ih]
      constructor
      · rintro ⟨l, h_1, h_2⟩
        exact ⟨l, by omega, h_2⟩
      · rintro ⟨l, h_1, h_2⟩
        exact ⟨l, Nat.lt_of_le_of_ne (by omega) (fun z => by rw [z] at h_2; exact h_p h_2.1), h_2⟩
theorem bN_0 {P C : Nat → Int} {p : Int} : ∀ n, (bN P C p n).testBit 0 = true ↔ ∃ l, l < n ∧ P l = p ∧ ((C l).toNat = 0 ∨ ∃ k, k < l ∧ P k = p ∧ (C k).toNat = (C l).toNat)
  | 0 => by
    show (0 : Nat).testBit 0 = true ↔ _
    rw [Nat.zero_testBit]
    exact ⟨fun h => absurd h (by decide), fun ⟨l, h, _⟩ => absurd h (Nat.not_lt_zero _)⟩
  | n + 1 => by
    have ih := bN_0 (P := P) (C := C) (p := p) n
    rw [bN_s]
    by_cases h_p : P n = p
    · rw [if_pos h_p, Nat.testBit_or, Bool.or_eq_true, ih]
      have h_q : ((if (C n).toNat = 0 ∨ (bN P C p n).testBit (C n).toNat = true then 1 else 2 ^ (C n).toNat).testBit 0 = true) ↔ ((C n).toNat = 0 ∨ ∃ k, k < n ∧ P k = p ∧ (C k).toNat = (C n).toNat) := by
        by_cases h_0 : (C n).toNat = 0
        · rw [if_pos (Or.inl h_0)]
          exact ⟨fun _ => Or.inl h_0, fun _ => rfl⟩
        · have h_b := bN_bit (P := P) (C := C) (p := p) (C n).toNat h_0 n
          by_cases h_1 : (bN P C p n).testBit (C n).toNat = true
          · rw [if_pos (Or.inr h_1)]
            exact ⟨fun _ => Or.inr (h_b.1 h_1), fun _ => rfl⟩
          · rw [if_neg (fun z => z.elim h_0 h_1), Nat.testBit_two_pow, decide_eq_true_eq]
            exact ⟨fun z => absurd z h_0, fun z => z.elim (fun y => absurd y h_0) (fun y => absurd (h_b.2 y) h_1)⟩
      rw [h_q]
      constructor
      · rintro (⟨l, h_1, h_2⟩ | h_1)
        · exact ⟨l, by omega, h_2⟩
        · exact ⟨n, by omega, h_p, h_1⟩
      · rintro ⟨l, h_1, h_2, h_3⟩
        by_cases h_e : l = n
        · subst h_e
          exact Or.inr h_3
        · exact Or.inl ⟨l, by omega, h_2, h_3⟩
    · rw [if_neg h_p, ih]
      constructor
      · rintro ⟨l, h_1, h_2⟩
        exact ⟨l, by omega, h_2⟩
      · rintro ⟨l, h_1, h_2⟩
        exact ⟨l, Nat.lt_of_le_of_ne (by omega) (fun z => by rw [z] at h_2; exact h_p h_2.1), h_2⟩
theorem bN_lt {P C : Nat → Int} {p : Int} (h_C : ∀ l, l < 26 → C l ≤ 63) : ∀ n, n ≤ 26 → bN P C p n < 2 ^ 64
  | 0, _ => Nat.two_pow_pos _
  | n + 1, h => by
    have ih := bN_lt (P := P) (p := p) h_C n (by omega)
    have h_1 := h_C n (by omega)
    rw [bN_s]
    split
    · refine Nat.or_lt_two_pow ih ?_
      split
      · decide
      · exact Nat.pow_lt_pow_right (by decide) (by omega)
    · exact ih
/-- whether a part has letters -/
def eP (P : Nat → Int) (p : Int) : Bool := anyB (fun l => decide (P l = p)) 26
theorem eP_bN {P C : Nat → Int} {p : Int} : bN P C p 26 = 0 ↔ ¬ eP P p = true := by
  unfold eP
  rw [anyB_iff]
  constructor
  · rintro h ⟨l, h_1, h_2⟩
    have h_3 := of_decide_eq_true h_2
    by_cases h_0 : (C l).toNat = 0
    · have := (bN_0 (P := P) (C := C) (p := p) 26).2 ⟨l, h_1, h_3, Or.inl h_0⟩
      rw [h, Nat.zero_testBit] at this
      exact absurd this (by decide)
    · have := (bN_bit (P := P) (C := C) (p := p) (C l).toNat h_0 26).2 ⟨l, h_1, h_3, rfl⟩
      rw [h, Nat.zero_testBit] at this
      exact absurd this (by decide)
  · intro h
    have h_n : ∀ n, n ≤ 26 → bN P C p n = 0 := fun n => by
      induction n with
      | zero => exact fun _ => rfl
      | succ n ih =>
        intro h_n
        rw [bN_s, if_neg (fun z => h ⟨n, by omega, decide_eq_true z⟩)]
        exact ih (by omega)
    exact h_n 26 (Nat.le_refl _)
theorem fitX_iff {b U : Nat} : fitX b U = true ↔ ∀ v, b.testBit v = true → v ≠ 0 ∧ ¬ U.testBit v = true := by
  unfold fitX
  rw [decide_eq_true_eq]
  constructor
  · intro h v h_v
    have h_1 : (b &&& (U ||| 1)).testBit v = false := by rw [h]; exact Nat.zero_testBit v
    rw [Nat.testBit_and, Nat.testBit_or, bit_1, h_v, Bool.true_and, Bool.or_eq_false_iff, decide_eq_false_iff_not] at h_1
    exact ⟨h_1.2, by rw [h_1.1]; decide⟩
  · intro h
    apply Nat.eq_of_testBit_eq
    intro v
    rw [Nat.zero_testBit, Nat.testBit_and, Nat.testBit_or, bit_1]
    cases h_b : b.testBit v
    · rfl
    · obtain ⟨h_1, h_2⟩ := h v h_b
      rw [Bool.eq_false_iff.2 h_2, decide_eq_false h_1]
      rfl
theorem Uf_bit (q : MX) (f : Nat → Nat) (v : Nat) : ∀ p, (Uf q f p).testBit v = true ↔ ∃ i, i < p ∧ (q.2.1 i (f i)).testBit v = true
  | 0 => by
    show (0 : Nat).testBit v = true ↔ _
    rw [Nat.zero_testBit]
    exact ⟨fun h => absurd h (by decide), fun ⟨l, h, _⟩ => absurd h (Nat.not_lt_zero _)⟩
  | p + 1 => by
    show (Uf q f p ||| q.2.1 p (f p)).testBit v = true ↔ _
    rw [Nat.testBit_or, Bool.or_eq_true, Uf_bit q f v p]
    constructor
    · rintro (⟨l, h_1, h_2⟩ | h_1)
      · exact ⟨l, by omega, h_2⟩
      · exact ⟨p, by omega, h_1⟩
    · rintro ⟨l, h_1, h_2⟩
      by_cases h_e : l = p
      · subst h_e
        exact Or.inr h_2
      · exact Or.inl ⟨l, by omega, h_2⟩
theorem okm_iff (q : MX) (f : Nat → Nat) : ∀ p, okm q f p = true ↔ ∀ i, i < p → (f i = 0 ∨ q.2.2 i = true) ∧ fitX (q.2.1 i (f i)) (Uf q f i) = true
  | 0 => ⟨fun _ i h => absurd h (Nat.not_lt_zero _), fun _ => rfl⟩
  | p + 1 => by
    show (okm q f p && (decide (f p = 0 ∨ q.2.2 p = true) && fitX (q.2.1 p (f p)) (Uf q f p))) = true ↔ _
    rw [Bool.and_eq_true, Bool.and_eq_true, okm_iff q f p, decide_eq_true_eq]
    constructor
    · rintro ⟨h_1, h_2⟩ i h_i
      by_cases h_e : i = p
      · subst h_e
        exact h_2
      · exact h_1 i (by omega)
    · intro h
      exact ⟨fun i h_i => h i (by omega), h p (by omega)⟩
/-- the mix's data -/
def mxD (σ : MemT) (n : Nat) : MX := (fun p c => anS σ n (fun l => decide (σ 195 l = p)) (fun l => σ (3 + 7 * c) l), fun p c => bN (fun l => σ 195 l) (fun l => σ (3 + 7 * c) l) p 26, fun p => eP (fun l => σ 195 l) p)
/-- what fits part by part is a mix -/
theorem okm_mx {σ : MemT} (n : Nat) (h_wp : WfPart σ) (h_wc : ∀ c, c < 5 → WfCode σ c) {f : Nat → Nat} (h_f : ∀ p, p < 7 → f p < 5) : okm (mxD σ n) f 7 = true ↔ (∀ p, p < 7 → f p = 0 ∨ eP (fun l => σ 195 l) p = true) ∧ mxB (wS σ (fun p => f p)) 26 = true := by
  have h_w : ∀ l : Nat, ∀ p : Nat, σ 195 l = p → wS σ (fun p => f p) l = σ (3 + 7 * f p) l := fun l p h => by
    unfold wS
    rw [if_neg (by omega), h, Int.toNat_natCast, Int.toNat_natCast]
  have h_n : ∀ l : Nat, σ 195 l < 0 → wS σ (fun p => f p) l = -1 := fun l h => by unfold wS; rw [if_pos h]
  have h_cr : ∀ c : Nat, c < 5 → ∀ l : Nat, l < 26 → 0 ≤ σ (3 + 7 * c) l ∧ σ (3 + 7 * c) l ≤ 63 := fun c h_c l h_l => (h_wc c h_c).1 l (by omega) (by omega)
  have h_pt : ∀ l : Nat, l < 26 → 0 ≤ wS σ (fun p => f p) l → ∃ p : Nat, p < 7 ∧ σ 195 l = p ∧ wS σ (fun p => f p) l = σ (3 + 7 * f p) l := fun l h_l h_0 => by
    have h_1 := h_wp l (by omega) (by omega)
    by_cases h_2 : σ 195 l < 0
    · rw [h_n l h_2] at h_0
      omega
    · obtain ⟨p, h_3, h_4⟩ := nat_of (n := 6) (z := σ 195 l) (by omega)
      exact ⟨p, by omega, h_4, h_w l p h_4⟩
  rw [okm_iff, mxB_iff]
  constructor
  · intro h
    refine ⟨fun p h_p => (h p h_p).1, fun l h_l h_0 => ?_⟩
    obtain ⟨p, h_p, h_1, h_2⟩ := h_pt l h_l h_0
    have h_fit := fitX_iff.1 (h p h_p).2
    have h_cl := h_cr (f p) (h_f p h_p) l h_l
    have h_b0 := fun (z : ∃ l, l < 26 ∧ σ 195 (l : Nat) = (p : Int) ∧ ((σ (3 + 7 * f p) (l : Nat)).toNat = 0 ∨ ∃ k, k < l ∧ σ 195 (k : Nat) = (p : Int) ∧ (σ (3 + 7 * f p) (k : Nat)).toNat = (σ (3 + 7 * f p) (l : Nat)).toNat)) => (h_fit 0 ((bN_0 (P := fun l : Nat => σ 195 l) (C := fun l : Nat => σ (3 + 7 * f p) l) (p := (p : Int)) 26).2 z)).1 rfl
    have h_pos : 0 < σ (3 + 7 * f p) l := Decidable.byContradiction (fun z => h_b0 ⟨l, h_l, h_1, Or.inl (by omega)⟩)
    refine ⟨by rw [h_2]; exact h_pos, fun k h_k h_e => ?_⟩
    obtain ⟨p2, h_p2, h_3, h_4⟩ := h_pt k (by omega) (by rw [h_e]; exact h_0)
    rw [h_2, h_4] at h_e
    by_cases h_pp : p2 = p
    · subst h_pp
      exact h_b0 ⟨l, h_l, h_1, Or.inr ⟨k, h_k, h_3, by rw [h_e]⟩⟩
    · have h_v0 : (σ (3 + 7 * f p) l).toNat ≠ 0 := by omega
      have h_bl : ((mxD σ n).2.1 p (f p)).testBit (σ (3 + 7 * f p) l).toNat = true := (bN_bit (P := fun l : Nat => σ 195 l) (C := fun l : Nat => σ (3 + 7 * f p) l) (p := (p : Int)) _ h_v0 26).2 ⟨l, h_l, h_1, rfl⟩
      have h_bk : ((mxD σ n).2.1 p2 (f p2)).testBit (σ (3 + 7 * f p) l).toNat = true := (bN_bit (P := fun l : Nat => σ 195 l) (C := fun l : Nat => σ (3 + 7 * f p2) l) (p := (p2 : Int)) _ h_v0 26).2 ⟨k, by omega, h_3, by rw [h_e]⟩
      by_cases h_lt : p2 < p
      · exact (h_fit _ h_bl).2 ((Uf_bit _ f _ p).2 ⟨p2, h_lt, h_bk⟩)
      · exact (fitX_iff.1 (h p2 h_p2).2 _ h_bk).2 ((Uf_bit _ f _ p2).2 ⟨p, by omega, h_bl⟩)
  · rintro ⟨h_m, h⟩ p h_p
    refine ⟨h_m p h_p, fitX_iff.2 (fun v h_v => ?_)⟩
    have h_mx : ∀ l : Nat, l < 26 → σ 195 l = p → 0 < σ (3 + 7 * f p) l ∧ ∀ k, k < l → wS σ (fun p => f p) k ≠ σ (3 + 7 * f p) l := fun l h_l h_1 => by
      have h_2 := h_w l p h_1
      have h_3 := h_cr (f p) (h_f p h_p) l h_l
      have h_4 := h l h_l (by rw [h_2]; omega)
      rw [h_2] at h_4
      exact h_4
    have h_v0 : v ≠ 0 := fun z => by
      subst z
      obtain ⟨l, h_1, h_2, h_3⟩ := (bN_0 (P := fun l : Nat => σ 195 l) (C := fun l : Nat => σ (3 + 7 * f p) l) (p := (p : Int)) 26).1 h_v
      obtain ⟨h_4, h_5⟩ := h_mx l h_1 h_2
      rcases h_3 with h_3 | ⟨k, h_6, h_7, h_8⟩
      · have h_3b : (σ (3 + 7 * f p) l).toNat = 0 := h_3
        omega
      · have h_8b : (σ (3 + 7 * f p) k).toNat = (σ (3 + 7 * f p) l).toNat := h_8
        have h_9 := h_cr (f p) (h_f p h_p) k (by omega)
        exact h_5 k h_6 (by rw [h_w k p h_7]; omega)
    refine ⟨h_v0, fun h_u => ?_⟩
    obtain ⟨i, h_i, h_iv⟩ := (Uf_bit _ f v p).1 h_u
    obtain ⟨l, h_1, h_2, h_3⟩ := (bN_bit (P := fun l : Nat => σ 195 l) (C := fun l : Nat => σ (3 + 7 * f p) l) (p := (p : Int)) v h_v0 26).1 h_v
    obtain ⟨k, h_4, h_5, h_6⟩ := (bN_bit (P := fun l : Nat => σ 195 l) (C := fun l : Nat => σ (3 + 7 * f i) l) (p := (i : Int)) v h_v0 26).1 h_iv
    have h_2b : σ 195 l = (p : Int) := h_2
    have h_5b : σ 195 k = (i : Int) := h_5
    have h_3b : (σ (3 + 7 * f p) l).toNat = v := h_3
    have h_6b : (σ (3 + 7 * f i) k).toNat = v := h_6
    have h_cl := h_cr (f p) (h_f p h_p) l h_1
    have h_ck := h_cr (f i) (h_f i (by omega)) k h_4
    have h_wl := h_w l p h_2b
    have h_wk := h_w k i h_5b
    have h_lk : l ≠ k := fun z => by rw [z] at h_2b; omega
    by_cases h_lt : k < l
    · exact (h_mx l h_1 h_2b).2 k h_lt (by rw [h_wk]; omega)
    · have h_7 := (h k h_4 (by rw [h_wk]; omega)).2 l (by omega)
      rw [h_wk, h_wl] at h_7
      omega
