/-! the best set of rows -/
section OO
variable (T : Nat → Int) (k : Nat)
def gdO (S : Nat) : Prop := popN S 12 ≤ k ∧ T S < 268435456
def ltO (S R : Nat) : Prop := T S < T R ∨ (T S = T R ∧ (popN S 12 < popN R 12 ∨ (popN S 12 = popN R 12 ∧ S < R)))
def opO (D : Nat → Prop) (S : Nat) : Prop := D S ∧ gdO T k S ∧ ∀ R, D R → gdO T k R → R = S ∨ ltO T S R
theorem opO_u {D : Nat → Prop} {S R : Nat} (h_1 : opO T k D S) (h_2 : opO T k D R) : S = R := by
  rcases h_1.2.2 R h_2.1 h_2.2.1 with h | h
  · exact h.symm
  · rcases h_2.2.2 S h_1.1 h_1.2.1 with h_3 | h_3
    · exact h_3
    · unfold ltO at h h_3
      omega
theorem opO_y {D : Nat → Prop} {S N : Nat} (h : opO T k D S) (h_g : gdO T k N) (h_b : T N < T S ∨ (T N = T S ∧ popN N 12 < popN S 12)) : opO T k (fun R => D R ∨ R = N) N := by
  refine ⟨Or.inr rfl, h_g, fun R h_R h_gR => ?_⟩
  rcases h_R with h_R | h_R
  · refine Or.inr ?_
    rcases h.2.2 R h_R h_gR with h_1 | h_1
    · rw [h_1]
      unfold ltO
      omega
    · unfold ltO at h_1 ⊢
      omega
  · exact Or.inl h_R
theorem opO_n {D : Nat → Prop} {S N : Nat} (h : opO T k D S) (h_N : ∀ R, D R → R < N) (h_b : gdO T k N → ¬ (T N < T S ∨ (T N = T S ∧ popN N 12 < popN S 12))) : opO T k (fun R => D R ∨ R = N) S := by
  refine ⟨Or.inl h.1, h.2.1, fun R h_R h_gR => ?_⟩
  rcases h_R with h_R | h_R
  · exact h.2.2 R h_R h_gR
  · subst h_R
    have h_1 := h_b h_gR
    have h_2 := h_N S h.1
    refine Or.inr ?_
    unfold ltO
    omega
theorem opO_f {D : Nat → Prop} {N : Nat} (h_D : ∀ R, D R → ¬ gdO T k R) (h_g : gdO T k N) : opO T k (fun R => D R ∨ R = N) N := ⟨Or.inr rfl, h_g, fun R h_R h_gR => h_R.elim (fun y => absurd h_gR (h_D R y)) Or.inl⟩
theorem opO_cg {D D2 : Nat → Prop} {S : Nat} (h : ∀ R, D R ↔ D2 R) (h_1 : opO T k D S) : opO T k D2 S := ⟨(h S).1 h_1.1, h_1.2.1, fun R h_R h_g => h_1.2.2 R ((h R).2 h_R) h_g⟩
def CSt (D : Nat → Prop) (best tot size : Int) : Prop := (best = -6 ∧ tot = 268435456 ∧ size = 0 ∧ ∀ R, D R → ¬ gdO T k R) ∨ ∃ S : Nat, best = S ∧ tot = T S ∧ size = popN S 12 ∧ opO T k D S
theorem CSt.y {D : Nat → Prop} {best tot size : Int} (h : CSt T k D best tot size) {N : Nat} (h_p : popN N 12 ≤ k) (h_b : T N < tot ∨ (T N = tot ∧ (popN N 12 : Int) < size)) : CSt T k (fun R => D R ∨ R = N) N (T N) (popN N 12) := by
  refine Or.inr ⟨N, rfl, rfl, rfl, ?_⟩
  rcases h with ⟨h_1, h_2, h_3, h_4⟩ | ⟨S, h_1, h_2, h_3, h_4⟩
  · exact opO_f T k h_4 ⟨h_p, by omega⟩
  · have h_5 := h_4.2.1.2
    exact opO_y T k h_4 ⟨h_p, by omega⟩ (by omega)
theorem CSt.n {D : Nat → Prop} {best tot size : Int} (h : CSt T k D best tot size) {N : Nat} (h_N : ∀ R, D R → R < N) (h_le : popN N 12 ≤ k → T N ≤ 268435456) (h_b : popN N 12 ≤ k → ¬ (T N < tot ∨ (T N = tot ∧ (popN N 12 : Int) < size))) : CSt T k (fun R => D R ∨ R = N) best tot size := by
  rcases h with ⟨h_1, h_2, h_3, h_4⟩ | ⟨S, h_1, h_2, h_3, h_4⟩
  · refine Or.inl ⟨h_1, h_2, h_3, fun R h_R h_g => ?_⟩
    rcases h_R with h_R | h_R
    · exact h_4 R h_R h_g
    · subst h_R
      have := h_b h_g.1
      have := h_g.2
      omega
  · exact Or.inr ⟨S, h_1, h_2, h_3, opO_n T k h_4 h_N (fun h_g h_5 => h_b h_g.1 (by omega))⟩
def rfv (v : Int) : Int := if v = 268435456 then 100000000 else v
def RSt (D : Nat → Prop) (best least : Int) : Prop := (best = 0 ∧ least = 100000000 ∧ ∀ R, D R → ¬ gdO T k R) ∨ ∃ S : Nat, best = S ∧ least = T S ∧ opO T k D S
theorem CSt.cg {D D2 : Nat → Prop} {best tot size : Int} (h : CSt T k D best tot size) (h_e : ∀ R, D2 R ↔ D R) : CSt T k D2 best tot size := by
  rcases h with ⟨h_1, h_2, h_3, h_4⟩ | ⟨S, h_1, h_2, h_3, h_4⟩
  · exact Or.inl ⟨h_1, h_2, h_3, fun R h_R => h_4 R ((h_e R).1 h_R)⟩
  · exact Or.inr ⟨S, h_1, h_2, h_3, opO_cg T k (fun R => (h_e R).symm) h_4⟩
theorem RSt.cg {D D2 : Nat → Prop} {best least : Int} (h : RSt T k D best least) (h_e : ∀ R, D2 R ↔ D R) : RSt T k D2 best least := by
  rcases h with ⟨h_1, h_2, h_4⟩ | ⟨S, h_1, h_2, h_4⟩
  · exact Or.inl ⟨h_1, h_2, fun R h_R => h_4 R ((h_e R).1 h_R)⟩
  · exact Or.inr ⟨S, h_1, h_2, opO_cg T k (fun R => (h_e R).symm) h_4⟩
end OO
/-- weights of a changed set -/
theorem bo_upd {S m q r : Nat} (W : Nat → Int) (h_q : q < m) (h_r : r < m) (h_qr : q ≠ r) (h_S : S.testBit r = true) : sm (fun i => if ((S.testBit i && decide (i ≠ r)) || decide (i = q)) = true then W i else 0) m = sm (fun i => if S.testBit i = true then W i else 0) m - W r + W q - (if S.testBit q = true then W q else 0) := by
  rw [sm_cg (g2 := fun i => if i = q then W q else (if i = r then 0 else (if S.testBit i = true then W i else 0))) m (fun i _ => ?_), sm_upd m, sm_upd m, if_pos h_q, if_pos h_r, if_pos h_S, if_neg h_qr]
  · omega
  · by_cases h_1 : i = q
    · rw [decide_eq_true h_1, Bool.or_true, if_pos rfl, if_pos h_1, h_1]
    · rw [decide_eq_false h_1, Bool.or_false, if_neg h_1]
      by_cases h_2 : i = r
      · rw [decide_eq_false (fun z => z h_2), Bool.and_false, if_pos h_2, if_neg (by decide)]
      · rw [decide_eq_true h_2, Bool.and_true, if_neg h_2]
theorem bo_rem {S m r : Nat} (W : Nat → Int) (h_r : r < m) (h_S : S.testBit r = true) : sm (fun i => if (S.testBit i && decide (i ≠ r)) = true then W i else 0) m = sm (fun i => if S.testBit i = true then W i else 0) m - W r := by
  rw [sm_cg (g2 := fun i => if i = r then 0 else (if S.testBit i = true then W i else 0)) m (fun i _ => ?_), sm_upd m, if_pos h_r, if_pos h_S]
  · omega
  · by_cases h_2 : i = r
    · rw [decide_eq_false (fun z => z h_2), Bool.and_false, if_pos h_2, if_neg (by decide)]
    · rw [decide_eq_true h_2, Bool.and_true, if_neg h_2]
theorem pop_bo {p : Nat → Bool} {m : Nat} (h_m : m ≤ 12) : ((popN (bo p m) 12 : Nat) : Int) = sm (fun i => if p i then 1 else 0) m := by
  rw [popN_more m 12 (fun v h_v => by rw [bo_bit, decide_eq_false (by omega), Bool.false_and]) h_m]
  exact bo_pop p m m (Nat.le_refl _)
theorem opO_sub {σ : MemT} {b c m n k U S : Nat} (h_m : RoO σ m) (h_U : ∀ r, U.testBit r = true ↔ usP σ b m n r) (h : opO (fun S => twN σ b c m S n) k (fun R => R < 2 ^ m) S) : sub S U := by
  refine Classical.byContradiction (fun h_n => ?_)
  have h_1 : ∃ r, S.testBit r = true ∧ ¬ U.testBit r = true := Classical.byContradiction (fun z => h_n (fun v h_v => Classical.byContradiction (fun y => z ⟨v, h_v, y⟩)))
  obtain ⟨r, h_2, h_3⟩ := h_1
  have h_S := h.1
  have h_r : r < m := Nat.lt_of_not_le (fun z => by rw [testBit_big h_S r z] at h_2; exact absurd h_2 (by decide))
  have h_bS := bo_self h_S
  have h_vS := bo_sm (fun i => S.testBit i) m
  have h_pS := pop_bo (p := fun i => S.testBit i) h_m.2.1
  rw [h_bS] at h_vS h_pS
  have h_fin : ∀ R, R < 2 ^ m → (∀ w : Nat, w < n → 0 < σ (61 + b) w → cwW σ c m w R = cwW σ c m w S) → ¬ ((popN R 12 : Int) < popN S 12 ∨ ((popN R 12 : Int) = popN S 12 ∧ (R : Int) < S)) := fun R h_R h_w h_l => by
    have h_T : twN σ b c m R n = twN σ b c m S n := twN_cg n h_w
    have h_g : gdO (fun S => twN σ b c m S n) k R := ⟨by have := h.2.1.1; omega, by have := h.2.1.2; dsimp only; rw [h_T]; exact this⟩
    rcases h.2.2 R h_R h_g with h_e | h_e
    · rw [h_e] at h_l
      omega
    · unfold ltO at h_e
      dsimp only at h_e
      rw [h_T] at h_e
      omega
  obtain ⟨q, h_q, h_al, h_fa⟩ := fa_ex (σ := σ) r
  obtain ⟨h_ll, -⟩ := alK_iff.1 h_al
  by_cases h_qr : q = r
  · subst h_qr
    refine h_fin (bo (fun i => S.testBit i && decide (i ≠ q)) m) (bo_lt _ _) (fun w h_w h_c => ?_) ?_
    · refine cwA_eq h_m (fun p s h_p h_s h_4 h_5 => ?_) (fun p s h_p h_s h_4 h_5 => ?_) 0 (Nat.zero_le _)
      · rw [bo_bit, decide_eq_true h_s, Bool.true_and, Bool.and_eq_true] at h_4
        exact ⟨s, h_s, h_4.1, h_5, rfl⟩
      · refine ⟨s, h_s, ?_, h_5, rfl⟩
        rw [bo_bit, decide_eq_true h_s, h_4, Bool.true_and, Bool.true_and]
        exact decide_eq_true (fun z => h_3 ((h_U q).2 ⟨w, h_w, h_c, h_r, h_fa, p, h_p, by rw [← z]; exact h_5⟩))
    · have h_6 := pop_bo (p := fun i => S.testBit i && decide (i ≠ q)) h_m.2.1
      rw [bo_rem (fun _ => 1) h_r h_2] at h_6
      omega
  · have h_q2 : q < r := by omega
    refine h_fin (bo (fun i => (S.testBit i && decide (i ≠ r)) || decide (i = q)) m) (bo_lt _ _) (fun w h_w h_c => ?_) ?_
    · refine cwA_eq h_m (fun p s h_p h_s h_4 h_5 => ?_) (fun p s h_p h_s h_4 h_5 => ?_) 0 (Nat.zero_le _)
      · rw [bo_bit, decide_eq_true h_s, Bool.true_and, Bool.or_eq_true, Bool.and_eq_true] at h_4
        rcases h_4 with h_4 | h_4
        · exact ⟨s, h_s, h_4.1, h_5, rfl⟩
        · rw [of_decide_eq_true h_4] at h_5 ⊢
          exact ⟨r, h_r, h_2, (roF_al h_al).1 h_5, h_ll.symm⟩
      · by_cases h_e : s = r
        · rw [h_e] at h_5 ⊢
          exact ⟨q, by omega, by rw [bo_bit, decide_eq_true (show q < m by omega), decide_eq_true (show q = q from rfl), Bool.or_true]; rfl, (roF_al h_al).2 h_5, h_ll⟩
        · exact ⟨s, h_s, by rw [bo_bit, decide_eq_true h_s, h_4, decide_eq_true h_e]; rfl, h_5, rfl⟩
    · have h_6 := pop_bo (p := fun i => (S.testBit i && decide (i ≠ r)) || decide (i = q)) h_m.2.1
      have h_7 := bo_sm (fun i => (S.testBit i && decide (i ≠ r)) || decide (i = q)) m
      rw [bo_upd (fun _ => 1) (by omega) h_r h_qr h_2] at h_6
      rw [bo_upd (fun i => ((2 ^ i : Nat) : Int)) (by omega) h_r h_qr h_2] at h_7
      have h_8 : 2 ^ q < 2 ^ r := Nat.pow_lt_pow_right (by decide) h_q2
      by_cases h_9 : S.testBit q = true
      · rw [if_pos h_9] at h_6
        omega
      · rw [if_neg h_9] at h_6 h_7
        omega
