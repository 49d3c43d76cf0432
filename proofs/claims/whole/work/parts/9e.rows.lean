/-! rows in words -/
def roL (σ : MemT) (r : Nat) : Nat := (σ 72 r).toNat
def roF (σ : MemT) (t : Nat → Int) (z r p : Nat) : Bool := decide ((p : Int) + roL σ r ≤ z) && eqB (fun i => σ 71 (4 * (r : Int) + i)) (fun i => t (p + i)) (roL σ r)
def alK (σ : MemT) (s r : Nat) : Bool := decide (roL σ s = roL σ r) && eqB (fun i => σ 71 (4 * (s : Int) + i)) (fun i => σ 71 (4 * (r : Int) + i)) (roL σ r)
def faB (σ : MemT) (r : Nat) : Bool := !anyB (fun s => alK σ s r) r
theorem faB_iff {σ : MemT} {r : Nat} : faB σ r = true ↔ ∀ s, s < r → ¬ alK σ s r = true := by
  unfold faB
  rw [Bool.not_eq_true', Bool.eq_false_iff, Ne, anyB_iff]
  exact ⟨fun h s h_1 h_2 => h ⟨s, h_1, h_2⟩, fun h ⟨s, h_1, h_2⟩ => h s h_1 h_2⟩
theorem alK_iff {σ : MemT} {s r : Nat} : alK σ s r = true ↔ roL σ s = roL σ r ∧ ∀ i : Nat, i < roL σ r → σ 71 (4 * (s : Int) + i) = σ 71 (4 * (r : Int) + i) := by
  unfold alK
  rw [Bool.and_eq_true, decide_eq_true_eq, eqB_iff]
theorem roF_iff {σ : MemT} {t : Nat → Int} {z r p : Nat} : roF σ t z r p = true ↔ p + roL σ r ≤ z ∧ ∀ i : Nat, i < roL σ r → σ 71 (4 * (r : Int) + i) = t (p + i) := by
  unfold roF
  rw [Bool.and_eq_true, decide_eq_true_eq, eqB_iff]
  exact ⟨fun h => ⟨by omega, h.2⟩, fun h => ⟨by omega, h.2⟩⟩
/-- alike rows stand at the same places -/
theorem roF_al {σ : MemT} {t : Nat → Int} {z r s p : Nat} (h : alK σ s r = true) : roF σ t z s p = true ↔ roF σ t z r p = true := by
  obtain ⟨h_1, h_2⟩ := alK_iff.1 h
  rw [roF_iff, roF_iff, h_1]
  constructor
  · rintro ⟨h_3, h_4⟩
    exact ⟨h_3, fun i h_i => (h_2 i h_i).symm.trans (h_4 i h_i)⟩
  · rintro ⟨h_3, h_4⟩
    exact ⟨h_3, fun i h_i => (h_2 i h_i).trans (h_4 i h_i)⟩
/-- rows of one length at one place are alike -/
theorem al_roF {σ : MemT} {t : Nat → Int} {z r s p : Nat} (h_1 : roF σ t z s p = true) (h_2 : roF σ t z r p = true) (h_l : roL σ s = roL σ r) : alK σ s r = true := by
  rw [roF_iff] at h_1 h_2
  exact alK_iff.2 ⟨h_l, fun i h_i => (h_1.2 i (by omega)).trans (h_2.2 i h_i).symm⟩
/-- the first that is alike -/
theorem fa_ex {σ : MemT} : ∀ r, ∃ s, s ≤ r ∧ alK σ s r = true ∧ faB σ s = true := by
  intro r
  induction r using Nat.strongRecOn with
  | ind r ih =>
    by_cases h : faB σ r = true
    · exact ⟨r, Nat.le_refl _, alK_iff.2 ⟨rfl, fun _ _ => rfl⟩, h⟩
    · have h_1 : ∃ s, s < r ∧ alK σ s r = true := Classical.byContradiction (fun z => h (faB_iff.2 (fun s h_s h_a => z ⟨s, h_s, h_a⟩)))
      obtain ⟨s, h_2, h_3⟩ := h_1
      obtain ⟨q, h_4, h_5, h_6⟩ := ih s h_2
      obtain ⟨h_7, h_8⟩ := alK_iff.1 h_3
      obtain ⟨h_9, h_10⟩ := alK_iff.1 h_5
      exact ⟨q, by omega, alK_iff.2 ⟨by omega, fun i h_i => (h_10 i (by omega)).trans (h_8 i h_i)⟩, h_6⟩
def prF (σ : MemT) (t : Nat → Int) (z r p : Nat) : Bool := roF σ t z r p && faB σ r
def raN (σ : MemT) (t : Nat → Int) (z p len : Nat) : Nat → Nat
  | 0 => 0
  | k + 1 => if roL σ k = len ∧ prF σ t z k p = true then 2 ^ k else raN σ t z p len k
theorem raN_is {σ : MemT} {t : Nat → Int} {z p len : Nat} : ∀ k, raN σ t z p len k ≠ 0 → ∃ r, r < k ∧ raN σ t z p len k = 2 ^ r ∧ roL σ r = len ∧ prF σ t z r p = true
  | 0, h => absurd rfl h
  | k + 1, h => by
    rw [show raN σ t z p len (k + 1) = if roL σ k = len ∧ prF σ t z k p = true then 2 ^ k else raN σ t z p len k from rfl] at h ⊢
    by_cases h_1 : roL σ k = len ∧ prF σ t z k p = true
    · rw [if_pos h_1]
      exact ⟨k, by omega, rfl, h_1⟩
    · rw [if_neg h_1] at h ⊢
      obtain ⟨r, h_2, h_3⟩ := raN_is k h
      exact ⟨r, by omega, h_3⟩
theorem prF_u {σ : MemT} {t : Nat → Int} {z p r s : Nat} (h_1 : prF σ t z r p = true) (h_2 : prF σ t z s p = true) (h_l : roL σ r = roL σ s) : r = s := by
  unfold prF at h_1 h_2
  rw [Bool.and_eq_true] at h_1 h_2
  rcases Nat.lt_trichotomy r s with h | h | h
  · exact absurd (al_roF h_1.1 h_2.1 h_l) (faB_iff.1 h_2.2 r h)
  · exact h
  · exact absurd (al_roF h_2.1 h_1.1 h_l.symm) (faB_iff.1 h_1.2 s h)
theorem raN_of {σ : MemT} {t : Nat → Int} {z p len r : Nat} (h_l : roL σ r = len) (h_p : prF σ t z r p = true) : ∀ k, r < k → raN σ t z p len k = 2 ^ r
  | 0, h => absurd h (Nat.not_lt_zero _)
  | k + 1, h => by
    rw [show raN σ t z p len (k + 1) = if roL σ k = len ∧ prF σ t z k p = true then 2 ^ k else raN σ t z p len k from rfl]
    by_cases h_1 : roL σ k = len ∧ prF σ t z k p = true
    · rw [if_pos h_1, prF_u h_1.2 h_p (by omega)]
    · rw [if_neg h_1]
      exact raN_of h_l h_p k (Nat.lt_of_le_of_ne (by omega) (fun z => h_1 (by rw [← z]; exact ⟨h_l, h_p⟩)))
theorem ra_test {σ : MemT} {t : Nat → Int} {z p k : Nat} (h : roF σ t z k p = true) : raN σ t z p (roL σ k) k = 0 ↔ faB σ k = true := by
  constructor
  · intro h_0
    refine faB_iff.2 (fun s h_s h_a => ?_)
    obtain ⟨q, h_1, h_2, h_3⟩ := fa_ex (σ := σ) s
    have h_4 : roF σ t z q p = true := (roF_al h_2).2 ((roF_al h_a).2 h)
    have h_5 : roL σ q = roL σ k := (alK_iff.1 h_2).1.trans (alK_iff.1 h_a).1
    rw [raN_of h_5 (by unfold prF; rw [h_4, h_3]; rfl) k (by omega)] at h_0
    have := Nat.two_pow_pos q
    omega
  · intro h_f
    refine Classical.byContradiction (fun h_0 => ?_)
    obtain ⟨r, h_1, -, h_3, h_4⟩ := raN_is k h_0
    unfold prF at h_4
    rw [Bool.and_eq_true] at h_4
    exact faB_iff.1 h_f r h_1 (al_roF h_4.1 h h_3)
/-- cells of a word with some rows -/
def stC (σ : MemT) (c : Nat) (t : Nat → Int) (z m : Nat) (rs : Nat → Bool) (a : Nat → Int) (p : Nat) : Int := min 268435456 (lsM (fun r => rs r && roF σ t z r p) (fun r => a (p + roL σ r)) (if σ (3 + 7 * c) (t p) = 0 then 268435456 else a (p + 1)) m + 1)
def cwA (σ : MemT) (c : Nat) (t : Nat → Int) (z m : Nat) (rs : Nat → Bool) (p : Nat) : Int := dpA z (stC σ c t z m rs) p
def cwv (k : Nat) (v : Int) : Prop := v = 268435456 ∨ (0 ≤ v ∧ v ≤ k)
theorem lsM_eq {P P2 : Nat → Bool} {g g2 : Nat → Int} {i0 : Int} {m m2 : Nat} (h_1 : ∀ s, s < m → P s = true → ∃ s2, s2 < m2 ∧ P2 s2 = true ∧ g2 s2 ≤ g s) (h_2 : ∀ s, s < m2 → P2 s = true → ∃ s2, s2 < m ∧ P s2 = true ∧ g s2 ≤ g2 s) : lsM P g i0 m = lsM P2 g2 i0 m2 := by
  have h_a := lsM_le (P := P) (g := g) (i0 := i0) m
  have h_b := lsM_le (P := P2) (g := g2) (i0 := i0) m2
  have h_3 : lsM P2 g2 i0 m2 ≤ lsM P g i0 m := by
    rcases lsM_is (P := P) (g := g) (i0 := i0) m with h | ⟨s, h_4, h_5, h_6⟩
    · rw [h]; exact h_b.1
    · obtain ⟨s2, h_7, h_8, h_9⟩ := h_1 s h_4 h_5
      have := h_b.2 s2 h_7 h_8
      omega
  have h_4 : lsM P g i0 m ≤ lsM P2 g2 i0 m2 := by
    rcases lsM_is (P := P2) (g := g2) (i0 := i0) m2 with h | ⟨s, h_4, h_5, h_6⟩
    · rw [h]; exact h_a.1
    · obtain ⟨s2, h_7, h_8, h_9⟩ := h_2 s h_4 h_5
      have := h_a.2 s2 h_7 h_8
      omega
  omega
def RoO (σ : MemT) (m : Nat) : Prop := σ 70 3 = m ∧ m ≤ 12 ∧ ∀ r, r < m → σ 72 r = (roL σ r : Nat) ∧ 2 ≤ roL σ r ∧ roL σ r ≤ 4
theorem RoO.of {σ : MemT} (h : WfRow σ) : RoO σ (σ 70 3).toNat := by
  obtain ⟨h_1, h_2, h_3⟩ := h
  refine ⟨by omega, by omega, fun r h_r => ?_⟩
  have h_4 := (h_3 r (by omega) (by omega)).1
  unfold roL
  omega
theorem cwA_e (σ : MemT) (c : Nat) (t : Nat → Int) (z m : Nat) (rs : Nat → Bool) : cwA σ c t z m rs z = 0 := dpA_end z _
theorem cwA_s {σ : MemT} {c : Nat} {t : Nat → Int} {z m : Nat} (h_m : RoO σ m) {rs : Nat → Bool} {p : Nat} (h_p : p < z) : cwA σ c t z m rs p = stC σ c t z m rs (cwA σ c t z m rs) p := dpA_s (fun a b p h_p h => by
  unfold stC
  rw [h (p + 1) (by omega) (by omega), lsM_eq (P2 := fun r => rs r && roF σ t z r p) (g2 := fun r => b (p + roL σ r)) (m2 := m)]
  · intro s h_s h_1
    refine ⟨s, h_s, h_1, ?_⟩
    rw [Bool.and_eq_true, roF_iff] at h_1
    have := h_m.2.2 s h_s
    rw [h _ (by omega) h_1.2.1]
    exact Int.le_refl _
  · intro s h_s h_1
    refine ⟨s, h_s, h_1, ?_⟩
    rw [Bool.and_eq_true, roF_iff] at h_1
    have := h_m.2.2 s h_s
    rw [h _ (by omega) h_1.2.1]
    exact Int.le_refl _) h_p
theorem cwA_v {σ : MemT} {c : Nat} {t : Nat → Int} {z m : Nat} (h_m : RoO σ m) (rs : Nat → Bool) : ∀ p, p ≤ z → cwv (z - p) (cwA σ c t z m rs p) := by
  refine downS z (fun p h_p ih => ?_)
  by_cases h_e : p = z
  · rw [h_e, cwA_e]
    exact Or.inr (by omega)
  · rw [cwA_s h_m (by omega)]
    unfold stC
    have h_i : cwv (z - p - 1) (if σ (3 + 7 * c) (t p) = 0 then 268435456 else cwA σ c t z m rs (p + 1)) := by
      split
      · exact Or.inl rfl
      · have := ih (p + 1) (by omega) (by omega)
        rw [show z - (p + 1) = z - p - 1 by omega] at this
        exact this
    have h_l : cwv (z - p - 1) (lsM (fun r => rs r && roF σ t z r p) (fun r => cwA σ c t z m rs (p + roL σ r)) (if σ (3 + 7 * c) (t p) = 0 then 268435456 else cwA σ c t z m rs (p + 1)) m) := by
      rcases lsM_is (P := fun r => rs r && roF σ t z r p) (g := fun r => cwA σ c t z m rs (p + roL σ r)) (i0 := if σ (3 + 7 * c) (t p) = 0 then 268435456 else cwA σ c t z m rs (p + 1)) m with h_1 | ⟨r, h_1, h_2, h_3⟩
      · rw [h_1]
        exact h_i
      · rw [h_3]
        rw [Bool.and_eq_true, roF_iff] at h_2
        have h_4 := h_m.2.2 r h_1
        rcases ih (p + roL σ r) (by omega) h_2.2.1 with h_5 | h_5
        · exact Or.inl h_5
        · exact Or.inr (by omega)
    rcases h_l with h_1 | h_1
    · exact Or.inl (by omega)
    · exact Or.inr (by omega)
/-- two choices of rows that do the same -/
theorem cwA_eq {σ : MemT} {c : Nat} {t : Nat → Int} {z m : Nat} (h_m : RoO σ m) {rs rs2 : Nat → Bool} (h_1 : ∀ p r, p < z → r < m → rs r = true → roF σ t z r p = true → ∃ s, s < m ∧ rs2 s = true ∧ roF σ t z s p = true ∧ roL σ s = roL σ r) (h_2 : ∀ p r, p < z → r < m → rs2 r = true → roF σ t z r p = true → ∃ s, s < m ∧ rs s = true ∧ roF σ t z s p = true ∧ roL σ s = roL σ r) : ∀ p, p ≤ z → cwA σ c t z m rs p = cwA σ c t z m rs2 p := by
  refine downS z (fun p h_p ih => ?_)
  by_cases h_e : p = z
  · rw [h_e, cwA_e, cwA_e]
  · rw [cwA_s h_m (by omega), cwA_s h_m (by omega)]
    unfold stC
    rw [ih (p + 1) (by omega) (by omega), lsM_eq (P2 := fun r => rs2 r && roF σ t z r p) (g2 := fun r => cwA σ c t z m rs2 (p + roL σ r)) (m2 := m)]
    · intro r h_r h_3
      rw [Bool.and_eq_true] at h_3
      obtain ⟨s, h_4, h_5, h_6, h_7⟩ := h_1 p r (by omega) h_r h_3.1 h_3.2
      refine ⟨s, h_4, by rw [h_5, h_6]; rfl, ?_⟩
      have := h_m.2.2 r h_r
      have := (roF_iff.1 h_3.2).1
      rw [h_7, ih (p + roL σ r) (by omega) (by omega)]
      exact Int.le_refl _
    · intro r h_r h_3
      rw [Bool.and_eq_true] at h_3
      obtain ⟨s, h_4, h_5, h_6, h_7⟩ := h_2 p r (by omega) h_r h_3.1 h_3.2
      refine ⟨s, h_4, by rw [h_5, h_6]; rfl, ?_⟩
      have := h_m.2.2 r h_r
      have := (roF_iff.1 h_3.2).1
      rw [h_7, ih (p + roL σ r) (by omega) (by omega)]
      exact Int.le_refl _
/-- what the class does place by place -/
theorem lsM_len {σ : MemT} {t : Nat → Int} {z m p s : Nat} (h_m : RoO σ m) (h_s : ∀ r, s.testBit r = true → r < m ∧ faB σ r = true) (a : Nat → Int) (i0 : Int) : lsM (fun j => decide (raN σ t z p (j + 2) m &&& s ≠ 0)) (fun j => a (p + (j + 2))) i0 3 = lsM (fun r => s.testBit r && roF σ t z r p) (fun r => a (p + roL σ r)) i0 m := by
  have h_and : ∀ len, raN σ t z p len m &&& s ≠ 0 → ∃ r, r < m ∧ s.testBit r = true ∧ roL σ r = len ∧ roF σ t z r p = true := fun len h => by
    have h_0 : raN σ t z p len m ≠ 0 := fun z => h (by rw [z, Nat.zero_and])
    obtain ⟨r, h_1, h_2, h_3, h_4⟩ := raN_is m h_0
    unfold prF at h_4
    rw [Bool.and_eq_true] at h_4
    refine ⟨r, h_1, ?_, h_3, h_4.1⟩
    refine Classical.byContradiction (fun h_5 => h (Nat.eq_of_testBit_eq (fun v => ?_)))
    rw [Nat.testBit_and, h_2, Nat.testBit_two_pow, Nat.zero_testBit]
    by_cases h_v : r = v
    · subst h_v
      rw [Bool.eq_false_iff.2 h_5, Bool.and_false]
    · rw [decide_eq_false h_v, Bool.false_and]
  refine lsM_eq (fun j h_j h => ?_) (fun r h_r h => ?_)
  · obtain ⟨r, h_1, h_2, h_3, h_4⟩ := h_and _ (of_decide_eq_true h)
    exact ⟨r, h_1, by rw [h_2, h_4]; rfl, by rw [h_3]; exact Int.le_refl _⟩
  · rw [Bool.and_eq_true] at h
    obtain ⟨-, h_f⟩ := h_s r h.1
    obtain ⟨-, h_2, h_4⟩ := h_m.2.2 r h_r
    have h_1 : raN σ t z p (roL σ r) m = 2 ^ r := raN_of rfl (by unfold prF; rw [h.2, h_f]; rfl) m h_r
    refine ⟨roL σ r - 2, by omega, decide_eq_true (fun h_0 => ?_), by rw [show roL σ r - 2 + 2 = roL σ r by omega]; exact Int.le_refl _⟩
    rw [show roL σ r - 2 + 2 = roL σ r by omega, h_1] at h_0
    have h_5 : (2 ^ r &&& s).testBit r = false := by rw [h_0]; exact Nat.zero_testBit r
    rw [Nat.testBit_and, Nat.testBit_two_pow, h.1, decide_eq_true rfl] at h_5
    exact absurd h_5 (by decide)
