/-! sets of some rows, in their order -/
def sub (s U : Nat) : Prop := ∀ v, s.testBit v = true → U.testBit v = true
theorem tb_s (a v : Nat) : a.testBit (v + 1) = (a / 2).testBit v := Nat.testBit_succ a v
theorem tb_0 (a : Nat) : a.testBit 0 = decide (a % 2 = 1) := Nat.testBit_zero a
theorem sub_iff {s U : Nat} : sub s U ↔ s % 2 ≤ U % 2 ∧ sub (s / 2) (U / 2) := by
  constructor
  · intro h
    refine ⟨?_, fun v h_v => ?_⟩
    · have h_1 := h 0
      rw [tb_0, tb_0, decide_eq_true_eq, decide_eq_true_eq] at h_1
      omega
    · rw [← tb_s] at h_v ⊢
      exact h (v + 1) h_v
  · rintro ⟨h_1, h_2⟩ v h_v
    cases v with
    | zero =>
      rw [tb_0, decide_eq_true_eq] at h_v ⊢
      omega
    | succ v =>
      rw [tb_s] at h_v ⊢
      exact h_2 v h_v
theorem sub_le : ∀ (K s U : Nat), U < 2 ^ K → sub s U → s ≤ U
  | 0, s, U, h, h_s => by
    have h_0 : U = 0 := by have : U < 1 := h; omega
    have : s = 0 := Nat.eq_of_testBit_eq (fun v => by
      rw [Nat.zero_testBit]
      refine Bool.eq_false_iff.2 (fun z => ?_)
      have := h_s v z
      rw [h_0, Nat.zero_testBit] at this
      exact absurd this (by decide))
    omega
  | K + 1, s, U, h, h_s => by
    obtain ⟨h_1, h_2⟩ := sub_iff.1 h_s
    have h_3 := sub_le K (s / 2) (U / 2) (by rw [Nat.pow_succ] at h; omega) h_2
    omega
theorem and_2 (a b : Nat) : a &&& b = 2 * (a / 2 &&& b / 2) + (if a % 2 = 1 ∧ b % 2 = 1 then 1 else 0) := by
  apply Nat.eq_of_testBit_eq
  intro v
  cases v with
  | zero =>
    rw [Nat.testBit_and, tb_0, tb_0, tb_0]
    by_cases h : a % 2 = 1 ∧ b % 2 = 1
    · rw [if_pos h, decide_eq_true h.1, decide_eq_true h.2, decide_eq_true (by omega)]
      rfl
    · rw [if_neg h, decide_eq_false (show ¬ (2 * (a / 2 &&& b / 2) + 0) % 2 = 1 by omega)]
      by_cases h_1 : a % 2 = 1
      · rw [decide_eq_false (fun z => h ⟨h_1, z⟩), Bool.and_false]
      · rw [decide_eq_false h_1, Bool.false_and]
  | succ v =>
    rw [Nat.testBit_and, tb_s, tb_s, tb_s, show (2 * (a / 2 &&& b / 2) + (if a % 2 = 1 ∧ b % 2 = 1 then 1 else 0)) / 2 = (a / 2 &&& b / 2) from by split <;> omega, Nat.testBit_and]
theorem and_cmp : ∀ (K s U : Nat), U < 2 ^ K → sub s U → (2 ^ K - 1 - (U - s)) &&& U = s
  | 0, s, U, h, h_s => by
    have h_1 := sub_le 0 s U h h_s
    have h_2 : U < 1 := h
    rw [show U = 0 by omega, Nat.and_zero]
    omega
  | K + 1, s, U, h, h_s => by
    obtain ⟨h_1, h_2⟩ := sub_iff.1 h_s
    have h_3 := sub_le (K + 1) s U h h_s
    have h_5 : U / 2 < 2 ^ K := by rw [Nat.pow_succ] at h; omega
    have h_4 := sub_le K _ _ h_5 h_2
    have h_6 := and_cmp K (s / 2) (U / 2) h_5 h_2
    have h_7 : 2 ^ (K + 1) = 2 * 2 ^ K := by rw [Nat.pow_succ, Nat.mul_comm]
    rw [and_2, show (2 ^ (K + 1) - 1 - (U - s)) / 2 = 2 ^ K - 1 - (U / 2 - s / 2) by omega, h_6]
    by_cases h_8 : (2 ^ (K + 1) - 1 - (U - s)) % 2 = 1 ∧ U % 2 = 1
    · rw [if_pos h_8]
      omega
    · rw [if_neg h_8]
      omega
def nxN (K U s : Nat) : Nat := (2 ^ K + s - U) &&& U
def pd : Nat → Nat → Nat → Nat
  | 0, _, _ => 0
  | K + 1, U, i => if U % 2 = 1 then 2 * pd K (U / 2) (i / 2) + i % 2 else 2 * pd K (U / 2) i
theorem popN_2 (a : Nat) : ∀ K, popN a (K + 1) = a % 2 + popN (a / 2) K
  | 0 => by
    show popN a 0 + (if a.testBit 0 = true then 1 else 0) = a % 2 + 0
    rw [tb_0]
    by_cases h : a % 2 = 1
    · rw [decide_eq_true h, if_pos rfl]
      show 0 + 1 = _
      omega
    · rw [decide_eq_false h, if_neg (by decide)]
      show 0 + 0 = _
      omega
  | K + 1 => by
    rw [show popN a (K + 1 + 1) = popN a (K + 1) + (if a.testBit (K + 1) = true then 1 else 0) from rfl, popN_2 a K, tb_s, show popN (a / 2) (K + 1) = popN (a / 2) K + (if (a / 2).testBit K = true then 1 else 0) from rfl, Nat.add_assoc]
theorem pd_0 : ∀ K U, pd K U 0 = 0
  | 0, _ => rfl
  | K + 1, U => by
    show (if U % 2 = 1 then 2 * pd K (U / 2) (0 / 2) + 0 % 2 else 2 * pd K (U / 2) 0) = 0
    rw [pd_0 K]
    split <;> rfl
theorem pd_sub : ∀ K U i, sub (pd K U i) U
  | 0, U, i => fun v h => by
    rw [show pd 0 U i = 0 from rfl, Nat.zero_testBit] at h
    exact absurd h (by decide)
  | K + 1, U, i => by
    rw [sub_iff]
    show (if U % 2 = 1 then 2 * pd K (U / 2) (i / 2) + i % 2 else 2 * pd K (U / 2) i) % 2 ≤ U % 2 ∧ sub ((if U % 2 = 1 then 2 * pd K (U / 2) (i / 2) + i % 2 else 2 * pd K (U / 2) i) / 2) (U / 2)
    by_cases h : U % 2 = 1
    · rw [if_pos h, show (2 * pd K (U / 2) (i / 2) + i % 2) / 2 = pd K (U / 2) (i / 2) by omega]
      exact ⟨by omega, pd_sub K _ _⟩
    · rw [if_neg h, show (2 * pd K (U / 2) i) / 2 = pd K (U / 2) i by omega]
      exact ⟨by omega, pd_sub K _ _⟩
theorem pd_lt : ∀ K U i j, i < j → j < 2 ^ popN U K → pd K U i < pd K U j
  | 0, U, i, j, h_1, h_2 => by
    have : j < 1 := h_2
    omega
  | K + 1, U, i, j, h_1, h_2 => by
    rw [popN_2] at h_2
    show (if U % 2 = 1 then 2 * pd K (U / 2) (i / 2) + i % 2 else 2 * pd K (U / 2) i) < (if U % 2 = 1 then 2 * pd K (U / 2) (j / 2) + j % 2 else 2 * pd K (U / 2) j)
    by_cases h : U % 2 = 1
    · rw [if_pos h, if_pos h]
      rw [h, Nat.add_comm, Nat.pow_succ] at h_2
      by_cases h_e : i / 2 = j / 2
      · rw [h_e]
        omega
      · have := pd_lt K (U / 2) (i / 2) (j / 2) (by omega) (by omega)
        omega
    · rw [if_neg h, if_neg h]
      rw [show U % 2 = 0 by omega, Nat.zero_add] at h_2
      have := pd_lt K (U / 2) i j h_1 h_2
      omega
theorem pd_all : ∀ K U s, U < 2 ^ K → sub s U → ∃ i, i < 2 ^ popN U K ∧ pd K U i = s
  | 0, U, s, h, h_s => ⟨0, Nat.one_pos, by
    have := sub_le 0 s U h h_s
    have h_2 : U < 1 := h
    show 0 = s
    omega⟩
  | K + 1, U, s, h, h_s => by
    obtain ⟨h_1, h_2⟩ := sub_iff.1 h_s
    obtain ⟨i, h_3, h_4⟩ := pd_all K (U / 2) (s / 2) (by rw [Nat.pow_succ] at h; omega) h_2
    rw [popN_2]
    by_cases h_o : U % 2 = 1
    · refine ⟨2 * i + s % 2, by rw [h_o, Nat.add_comm 1 (popN (U / 2) K), Nat.pow_succ]; omega, ?_⟩
      show (if U % 2 = 1 then 2 * pd K (U / 2) ((2 * i + s % 2) / 2) + (2 * i + s % 2) % 2 else _) = s
      rw [if_pos h_o, show (2 * i + s % 2) / 2 = i by omega, h_4]
      omega
    · refine ⟨i, by rw [show U % 2 = 0 by omega, Nat.zero_add]; exact h_3, ?_⟩
      show (if U % 2 = 1 then _ else 2 * pd K (U / 2) i) = s
      rw [if_neg h_o, h_4]
      omega
theorem pd_nx : ∀ K U i, U < 2 ^ K → i + 1 < 2 ^ popN U K → nxN K U (pd K U i) = pd K U (i + 1)
  | 0, U, i, _, h => by
    have : i + 1 < 1 := h
    omega
  | K + 1, U, i, h_U, h => by
    have h_5 : U / 2 < 2 ^ K := by rw [Nat.pow_succ] at h_U; omega
    have h_7 : 2 ^ (K + 1) = 2 * 2 ^ K := by rw [Nat.pow_succ, Nat.mul_comm]
    rw [popN_2] at h
    unfold nxN
    rw [and_2]
    by_cases h_o : U % 2 = 1
    · rw [h_o, Nat.add_comm 1 (popN (U / 2) K), Nat.pow_succ] at h
      rw [show pd (K + 1) U i = 2 * pd K (U / 2) (i / 2) + i % 2 from if_pos h_o, show pd (K + 1) U (i + 1) = 2 * pd K (U / 2) ((i + 1) / 2) + (i + 1) % 2 from if_pos h_o]
      have h_s := pd_sub K (U / 2) (i / 2)
      have h_le := sub_le K _ _ h_5 h_s
      by_cases h_i : i % 2 = 1
      · have ih := pd_nx K (U / 2) (i / 2) h_5 (by omega)
        unfold nxN at ih
        rw [show (2 ^ (K + 1) + (2 * pd K (U / 2) (i / 2) + i % 2) - U) / 2 = 2 ^ K + pd K (U / 2) (i / 2) - U / 2 by omega, ih, if_neg (by omega), show (i + 1) / 2 = i / 2 + 1 by omega]
        omega
      · have h_c := and_cmp K _ _ h_5 h_s
        rw [show (2 ^ (K + 1) + (2 * pd K (U / 2) (i / 2) + i % 2) - U) / 2 = 2 ^ K - 1 - (U / 2 - pd K (U / 2) (i / 2)) by omega, h_c, if_pos (by omega), show (i + 1) / 2 = i / 2 by omega]
        omega
    · rw [show U % 2 = 0 by omega, Nat.zero_add] at h
      rw [show pd (K + 1) U i = 2 * pd K (U / 2) i from if_neg h_o, show pd (K + 1) U (i + 1) = 2 * pd K (U / 2) (i + 1) from if_neg h_o]
      have h_s := pd_sub K (U / 2) i
      have h_le := sub_le K _ _ h_5 h_s
      have ih := pd_nx K (U / 2) i h_5 h
      unfold nxN at ih
      rw [show (2 ^ (K + 1) + 2 * pd K (U / 2) i - U) / 2 = 2 ^ K + pd K (U / 2) i - U / 2 by omega, ih, if_neg (by omega), Nat.add_zero]
theorem nx32 {U s : Nat} (h_U : U < 4096) (h_s : s ≤ U) : and32 ((s : Int) - U) U = (nxN 32 U s : Nat) := by
  have h_1 : Int32.ofInt ((s : Int) - U) = nI (2 ^ 32 + s - U) := by
    rw [← ofI_nat]
    apply Int32.toInt_inj.mp
    rw [Int32.toInt_ofInt, Int32.toInt_ofInt, show ((2 ^ 32 + s - U : Nat) : Int) = (s : Int) - U + 4294967296 by omega]
    exact (Int.add_bmod_right _ _).symm
  have h_2 : (2 ^ 32 + s - U) &&& U ≤ U := Nat.and_le_right
  unfold and32 nxN
  rw [h_1, ofI_nat, qb_and, nI_toInt2 (by omega)]
theorem nxN_up {U s : Nat} (h_U : U < 4096) (h_s : sub s U) : ∀ i, s = pd 12 U i → i + 1 < 2 ^ popN U 12 → and32 ((s : Int) - U) U = (pd 12 U (i + 1) : Nat) := fun i h_i h_l => by
  have h_le := sub_le 12 s U h_U h_s
  rw [nx32 h_U h_le, h_i, ← pd_nx 12 U i h_U h_l]
  rw [h_i] at h_le
  unfold nxN
  have h_big : ∀ v, (2 ^ 32 + pd 12 U i - U &&& U).testBit v = (2 ^ 12 + pd 12 U i - U &&& U).testBit v := fun v => by
    rw [Nat.testBit_and, Nat.testBit_and]
    by_cases h_v : v < 12
    · congr 1
      rw [show 2 ^ 32 + pd 12 U i - U = 2 ^ 12 * 1048575 + (2 ^ 12 + pd 12 U i - U) by omega, Nat.testBit_eq_decide_div_mod_eq, Nat.testBit_eq_decide_div_mod_eq, decide_eq_decide]
      have h_m : (2 ^ 12 * 1048575 + (2 ^ 12 + pd 12 U i - U)) / 2 ^ v = 2 ^ (12 - v) * 1048575 + (2 ^ 12 + pd 12 U i - U) / 2 ^ v := by
        rw [show (2 : Nat) ^ 12 * 1048575 = 2 ^ v * (2 ^ (12 - v) * 1048575) from by rw [← Nat.mul_assoc, ← Nat.pow_add, show v + (12 - v) = 12 by omega], Nat.mul_add_div (Nat.two_pow_pos v)]
      rw [h_m, show (2 : Nat) ^ (12 - v) = 2 * 2 ^ (11 - v) from by rw [show 12 - v = (11 - v) + 1 by omega, Nat.pow_succ, Nat.mul_comm]]
      omega
    · rw [testBit_big (m := 12) h_U v (by omega), Bool.and_false, Bool.and_false]
  exact congrArg (fun z : Nat => (z : Int)) (Nat.eq_of_testBit_eq h_big)
theorem bo_sm (p : Nat → Bool) : ∀ m, ((bo p m : Nat) : Int) = sm (fun i => if p i then ((2 ^ i : Nat) : Int) else 0) m
  | 0 => rfl
  | m + 1 => by
    rw [sm_s, ← bo_sm p m]
    show ((bo p m ||| (if p m = true then 2 ^ m else 0) : Nat) : Int) = _
    by_cases h : p m = true
    · have h_2 := Nat.two_pow_add_eq_or_of_lt (bo_lt p m) 1
      rw [Nat.mul_one] at h_2
      rw [if_pos h, if_pos h, Nat.or_comm, ← h_2]
      omega
    · rw [if_neg h, if_neg h, Nat.or_zero, Int.add_zero]
theorem bo_pop (p : Nat → Bool) (m : Nat) : ∀ k, k ≤ m → ((popN (bo p m) k : Nat) : Int) = sm (fun i => if p i then 1 else 0) k
  | 0, _ => rfl
  | k + 1, h => by
    rw [sm_s, ← bo_pop p m k (by omega)]
    show ((popN (bo p m) k + (if (bo p m).testBit k = true then 1 else 0) : Nat) : Int) = _
    rw [bo_bit, decide_eq_true (show k < m by omega), Bool.true_and]
    by_cases h_1 : p k = true
    · rw [if_pos h_1, if_pos h_1]
      omega
    · rw [if_neg h_1, if_neg h_1]
      omega
theorem bo_self {a m : Nat} (h : a < 2 ^ m) : bo (fun i => a.testBit i) m = a := Nat.eq_of_testBit_eq (fun v => by
  rw [bo_bit]
  by_cases h_v : v < m
  · rw [decide_eq_true h_v, Bool.true_and]
  · rw [decide_eq_false h_v, Bool.false_and, testBit_big h v (by omega)])
theorem sm_upd {g : Nat → Int} {r : Nat} {z : Int} : ∀ m, sm (fun i => if i = r then z else g i) m = sm g m + (if r < m then z - g r else 0)
  | 0 => rfl
  | m + 1 => by
    rw [sm_s, sm_s, sm_upd m]
    by_cases h_1 : m = r
    · subst h_1
      rw [if_pos rfl, if_neg (Nat.lt_irrefl _), if_pos (Nat.lt_succ_self _)]
      omega
    · rw [if_neg h_1]
      by_cases h_2 : r < m
      · rw [if_pos h_2, if_pos (by omega)]
        omega
      · rw [if_neg h_2, if_neg (by omega)]
        omega
