/-! rows that are read in two ways -/
abbrev TW : Type := Nat × (Nat → Nat) × (Nat → Nat) × (Nat → Nat)
abbrev tm (w : TW) : Nat := w.1
abbrev tA (w : TW) : Nat → Nat := w.2.1
abbrev tB (w : TW) : Nat → Nat := w.2.2.1
abbrev tL (w : TW) : Nat → Nat := w.2.2.2
def TWok (w : TW) : Prop := tm w ≤ 12 ∧ (∀ s, s < tm w → (1 ≤ tA w s ∧ tA w s < 64) ∧ tB w s < 64) ∧ ∀ l, l < 26 → tL w l < 64
def sgP (w : TW) (k v : Nat) : Bool := if k < 12 then decide (k < tm w ∧ tB w k = 0 ∧ tA w k = v) else decide (tL w (k - 12) = v ∧ v ≠ 0)
def sgN (w : TW) (v k : Nat) : Int := sm (fun k => if sgP w k v then 1 else 0) k
def sg (w : TW) (v : Nat) : Int := sgN w v 38
def edP (w : TW) (v e s : Nat) : Bool := decide (s < tm w ∧ tB w s ≠ 0 ∧ tA w s = v ∧ tB w s = e)
def dbN (w : TW) (v e k : Nat) : Int := sm (fun s => if edP w v e s then 1 else 0) k
def db (w : TW) (v e : Nat) : Int := dbN w v e 12
def comB (w : TW) : Nat → Nat → Bool
  | 0, v => decide (0 < sg w v)
  | n + 1, v => anyB (fun e => decide (0 < db w v e) && comB w n e) 64
theorem sm01_pos {p : Nat → Bool} : ∀ m, 0 < sm (fun s => if p s then 1 else 0) m ↔ ∃ s, s < m ∧ p s = true
  | 0 => ⟨fun h => absurd h (Int.lt_irrefl _), fun ⟨s, h, _⟩ => absurd h (Nat.not_lt_zero _)⟩
  | m + 1 => by
    have h_1 := sm_nn (g := fun s => if p s then 1 else 0) m (fun j _ => by split <;> omega)
    have h_2 := sm01_pos (p := p) m
    rw [sm_s]
    constructor
    · intro h
      by_cases h_3 : p m = true
      · exact ⟨m, by omega, h_3⟩
      · rw [if_neg h_3, Int.add_zero, h_2] at h
        obtain ⟨s, h_4, h_5⟩ := h
        exact ⟨s, by omega, h_5⟩
    · rintro ⟨s, h_4, h_5⟩
      by_cases h_e : s = m
      · subst h_e
        rw [if_pos h_5]
        omega
      · have := h_2.2 ⟨s, by omega, h_5⟩
        split <;> omega
theorem db_pos {w : TW} (h_w : TWok w) (v e : Nat) : 0 < db w v e ↔ ∃ s, s < tm w ∧ tB w s ≠ 0 ∧ tA w s = v ∧ tB w s = e := by
  unfold db dbN
  rw [sm01_pos]
  constructor
  · rintro ⟨s, -, h⟩
    exact ⟨s, of_decide_eq_true h⟩
  · rintro ⟨s, h⟩
    exact ⟨s, by have := h_w.1; omega, decide_eq_true h⟩
theorem com_s {w : TW} (h_w : TWok w) {n v : Nat} : comB w (n + 1) v = true ↔ ∃ s, s < tm w ∧ tB w s ≠ 0 ∧ tA w s = v ∧ comB w n (tB w s) = true := by
  show anyB (fun e => decide (0 < db w v e) && comB w n e) 64 = true ↔ _
  rw [anyB_iff]
  constructor
  · rintro ⟨e, h_e, h⟩
    rw [Bool.and_eq_true, decide_eq_true_eq, db_pos h_w] at h
    obtain ⟨⟨s, h_1, h_2, h_3, h_4⟩, h_5⟩ := h
    exact ⟨s, h_1, h_2, h_3, by rw [h_4]; exact h_5⟩
  · rintro ⟨s, h_1, h_2, h_3, h_4⟩
    refine ⟨tB w s, (h_w.2.1 s h_1).2, ?_⟩
    rw [Bool.and_eq_true, decide_eq_true_eq, db_pos h_w]
    exact ⟨⟨s, h_1, h_2, h_3, rfl⟩, h_4⟩
/-- the shortest chain -/
def mn (w : TW) (d v : Nat) : Prop := comB w d v = true ∧ ∀ j, j < d → ¬ comB w j v = true
theorem mn_u {w : TW} {d e v : Nat} (h_1 : mn w d v) (h_2 : mn w e v) : d = e := by
  rcases Nat.lt_trichotomy d e with h | h | h
  · exact absurd h_1.1 (h_2.2 d h)
  · exact h
  · exact absurd h_2.1 (h_1.2 e h)
theorem mn_ex {w : TW} {v : Nat} : ∀ d, comB w d v = true → ∃ e, e ≤ d ∧ mn w e v := by
  intro d
  induction d using Nat.strongRecOn with
  | ind d ih =>
    intro h
    by_cases h_1 : ∃ j, j < d ∧ comB w j v = true
    · obtain ⟨j, h_2, h_3⟩ := h_1
      obtain ⟨e, h_4, h_5⟩ := ih j h_2 h_3
      exact ⟨e, by omega, h_5⟩
    · exact ⟨d, Nat.le_refl _, h, fun j h_2 h_3 => h_1 ⟨j, h_2, h_3⟩⟩
theorem mn_s {w : TW} (h_w : TWok w) {d v : Nat} (h : mn w (d + 1) v) : ∃ s, s < tm w ∧ tB w s ≠ 0 ∧ tA w s = v ∧ mn w d (tB w s) := by
  obtain ⟨s, h_1, h_2, h_3, h_4⟩ := (com_s h_w).1 h.1
  exact ⟨s, h_1, h_2, h_3, h_4, fun j h_j h_5 => h.2 (j + 1) (by omega) ((com_s h_w).2 ⟨s, h_1, h_2, h_3, h_5⟩)⟩
theorem mn_all {w : TW} (h_w : TWok w) : ∀ d v, mn w d v → ∀ k, 1 ≤ k → k ≤ d → ∃ s, s < tm w ∧ tB w s ≠ 0 ∧ mn w k (tA w s)
  | 0, _, _, k, h_1, h_2 => by omega
  | d + 1, v, h, k, h_1, h_2 => by
    obtain ⟨s, h_3, h_4, h_5, h_6⟩ := mn_s h_w h
    by_cases h_k : k = d + 1
    · exact ⟨s, h_3, h_4, by rw [h_5, h_k]; exact h⟩
    · exact mn_all h_w d _ h_6 k h_1 (by omega)
theorem pigeon : ∀ (M D : Nat) (Q : Nat → Nat → Prop), (∀ k, k < D → ∃ s, s < M ∧ Q k s) → (∀ k j s, Q k s → Q j s → k = j) → D ≤ M
  | 0, D, Q, h, _ => by
    refine Nat.le_of_not_lt (fun h_1 => ?_)
    obtain ⟨s, h_2, -⟩ := h 0 h_1
    exact absurd h_2 (Nat.not_lt_zero _)
  | M + 1, D, Q, h, h_u => by
    by_cases h_1 : ∃ k, k < D ∧ Q k M
    · obtain ⟨k0, h_2, h_3⟩ := h_1
      have h_4 := pigeon M (D - 1) (fun k s => Q (if k < k0 then k else k + 1) s) (fun k h_k => by
        obtain ⟨s, h_5, h_6⟩ := h (if k < k0 then k else k + 1) (by split <;> omega)
        refine ⟨s, Nat.lt_of_le_of_ne (by omega) (fun h_e => ?_), h_6⟩
        rw [h_e] at h_6
        have := h_u _ _ _ h_6 h_3
        split at this <;> omega) (fun k j s h_a h_b => by
        have := h_u _ _ _ h_a h_b
        split at this <;> split at this <;> omega)
      omega
    · have := pigeon M D Q (fun k h_k => by
        obtain ⟨s, h_5, h_6⟩ := h k h_k
        exact ⟨s, Nat.lt_of_le_of_ne (by omega) (fun h_e => h_1 ⟨k, h_k, h_e ▸ h_6⟩), h_6⟩) h_u
      omega
theorem mn_12 {w : TW} (h_w : TWok w) {d v : Nat} (h : mn w d v) : d ≤ 12 :=
  Nat.le_trans (pigeon (tm w) d (fun k s => mn w (k + 1) (tA w s)) (fun k h_k => by
    obtain ⟨s, h_1, -, h_2⟩ := mn_all h_w d v h (k + 1) (by omega) (by omega)
    exact ⟨s, h_1, h_2⟩) (fun k j s h_1 h_2 => by
    have := mn_u h_1 h_2
    omega)) h_w.1
/-- a chain that begins with an item -/
def stB (w : TW) (n : Nat) : Bool := anyB (fun v => decide (0 < sg w v) && comB w n v) 64
theorem st_s {w : TW} (h_w : TWok w) {n : Nat} : stB w (n + 1) = true ↔ ∃ s, s < tm w ∧ tB w s ≠ 0 ∧ 0 < sg w (tA w s) ∧ comB w n (tB w s) = true := by
  unfold stB
  rw [anyB_iff]
  constructor
  · rintro ⟨v, h_v, h⟩
    rw [Bool.and_eq_true, decide_eq_true_eq, com_s h_w] at h
    obtain ⟨h_0, s, h_1, h_2, h_3, h_4⟩ := h
    exact ⟨s, h_1, h_2, by rw [h_3]; exact h_0, h_4⟩
  · rintro ⟨s, h_1, h_2, h_3, h_4⟩
    refine ⟨tA w s, (h_w.2.1 s h_1).1.2, ?_⟩
    rw [Bool.and_eq_true, decide_eq_true_eq, com_s h_w]
    exact ⟨h_3, s, h_1, h_2, rfl, h_4⟩
/-- n is the least chain's length -/
def mnS (w : TW) (n : Nat) : Prop := stB w (n + 1) = true ∧ ∀ j, j < n → ¬ stB w (j + 1) = true
theorem mnS_12 {w : TW} (h_w : TWok w) {n : Nat} (h : mnS w n) : n + 1 ≤ 12 := by
  obtain ⟨s, h_1, h_2, h_3, h_4⟩ := (st_s h_w).1 h.1
  have h_5 : mn w n (tB w s) := ⟨h_4, fun j h_j h_6 => h.2 j h_j ((st_s h_w).2 ⟨s, h_1, h_2, h_3, h_6⟩)⟩
  refine Nat.le_trans (pigeon (tm w) (n + 1) (fun k s => mn w k (tA w s)) (fun k h_k => ?_) (fun k j s h_1 h_2 => mn_u h_1 h_2)) h_w.1
  by_cases h_0 : k = 0
  · exact ⟨s, h_1, by rw [h_0]; exact ⟨decide_eq_true h_3, fun j h_j => absurd h_j (Nat.not_lt_zero _)⟩⟩
  · obtain ⟨s2, h_6, -, h_7⟩ := mn_all h_w n _ h_5 k (by omega) (by omega)
    exact ⟨s2, h_6, h_7⟩
/-- how far an item is -/
def FarOk (w : TW) (r : Nat) (g : Nat → Int) : Prop := ∀ v, v < 64 → (0 ≤ g v ∧ g v ≤ 1000) ∧ (g v < 1000 → comB w (g v).toNat v = true) ∧ ∀ d, d ≤ r → comB w d v = true → g v ≤ d
theorem far_d {w : TW} (h_w : TWok w) {g : Nat → Int} (h : FarOk w 12 g) {v d : Nat} (h_v : v < 64) (h_d : comB w d v = true) : g v ≤ d := by
  obtain ⟨e, h_1, h_2⟩ := mn_ex d h_d
  have h_3 := (h v h_v).2.2 e (mn_12 h_w h_2) h_2.1
  omega
theorem far_12 {w : TW} (h_w : TWok w) {g : Nat → Int} (h : FarOk w 12 g) {v : Nat} (h_v : v < 64) (h_g : g v < 1000) : g v ≤ 12 := by
  obtain ⟨h_1, h_2, h_3⟩ := h v h_v
  obtain ⟨e, h_4, h_5⟩ := mn_ex _ (h_2 h_g)
  have h_6 := mn_12 h_w h_5
  have h_7 := h_3 e h_6 h_5.1
  omega
/-- the least of some numbers -/
def lsM (P : Nat → Bool) (g : Nat → Int) (i0 : Int) : Nat → Int
  | 0 => i0
  | s + 1 => if P s then min (lsM P g i0 s) (g s) else lsM P g i0 s
theorem lsM_s (P : Nat → Bool) (g : Nat → Int) (i0 : Int) (s : Nat) : lsM P g i0 (s + 1) = if P s then min (lsM P g i0 s) (g s) else lsM P g i0 s := rfl
theorem lsM_le {P : Nat → Bool} {g : Nat → Int} {i0 : Int} : ∀ m, lsM P g i0 m ≤ i0 ∧ ∀ s, s < m → P s = true → lsM P g i0 m ≤ g s
  | 0 => ⟨Int.le_refl _, fun s h => absurd h (Nat.not_lt_zero _)⟩
  | m + 1 => by
    obtain ⟨h_1, h_2⟩ := lsM_le (P := P) (g := g) (i0 := i0) m
    rw [lsM_s]
    by_cases h_p : P m = true
    · rw [if_pos h_p]
      refine ⟨by omega, fun s h_s h_3 => ?_⟩
      by_cases h_e : s = m
      · subst h_e
        omega
      · have := h_2 s (by omega) h_3
        omega
    · rw [if_neg h_p]
      refine ⟨h_1, fun s h_s h_3 => ?_⟩
      by_cases h_e : s = m
      · subst h_e
        exact absurd h_3 h_p
      · exact h_2 s (by omega) h_3
theorem lsM_is {P : Nat → Bool} {g : Nat → Int} {i0 : Int} : ∀ m, lsM P g i0 m = i0 ∨ ∃ s, s < m ∧ P s = true ∧ lsM P g i0 m = g s
  | 0 => Or.inl rfl
  | m + 1 => by
    rw [lsM_s]
    have h_1 := lsM_is (P := P) (g := g) (i0 := i0) m
    by_cases h_p : P m = true
    · rw [if_pos h_p]
      by_cases h_2 : lsM P g i0 m ≤ g m
      · rw [Int.min_eq_left h_2]
        rcases h_1 with h_1 | ⟨s, h_3, h_4⟩
        · exact Or.inl h_1
        · exact Or.inr ⟨s, by omega, h_4⟩
      · rw [Int.min_eq_right (by omega)]
        exact Or.inr ⟨m, by omega, h_p, rfl⟩
    · rw [if_neg h_p]
      rcases h_1 with h_1 | ⟨s, h_3, h_4⟩
      · exact Or.inl h_1
      · exact Or.inr ⟨s, by omega, h_4⟩
/-- the least number found by a search is the least of a row -/
theorem lsM_fs {P : Nat → Bool} {g : Nat → Nat} {q : Nat → Bool} {M m : Nat} (h_q : ∀ v, v < M → (q v = true ↔ ∃ s, s < m ∧ P s = true ∧ g s = v)) (h_g : ∀ s, s < m → P s = true → g s < M) (h_a : anyB q M = true) : lsM P (fun s => (g s : Int)) M m = (fsB q M : Nat) := by
  obtain ⟨h_1, h_2, h_3⟩ := fsB_is M h_a
  obtain ⟨s, h_4, h_5, h_6⟩ := (h_q _ h_1).1 h_2
  have h_7 := (lsM_le (P := P) (g := fun s => (g s : Int)) (i0 := M) m).2 s h_4 h_5
  rcases lsM_is (P := P) (g := fun s => (g s : Int)) (i0 := M) m with h_8 | ⟨s2, h_9, h_10, h_11⟩
  · skip
    omega
  · have h_12 : q (g s2) = true := (h_q _ (h_g s2 h_9 h_10)).2 ⟨s2, h_9, h_10, rfl⟩
    by_cases h_13 : g s2 < fsB q M
    · rw [h_3 _ h_13] at h_12
      exact absurd h_12 (by decide)
    · skip
      omega
def nxT (w : TW) (j v : Nat) : Nat := fsB (fun e => decide (0 < db w v e) && comB w j e) 64
def chL (w : TW) : Nat → Nat → List Int
  | 0, v => [(v : Int)]
  | j + 1, v => (v : Int) :: chL w j (nxT w j v)
def c0T (w : TW) (n : Nat) : Nat := fsB (fun v => decide (0 < sg w v) && comB w n v) 64
def prP (w : TW) (c : Nat) : Bool := decide (1 < db w (c / 64) (c % 64))
def twS (w : TW) : List Int :=
  if anyB (fun v => decide (1 < sg w v)) 64 = true then [(fsB (fun v => decide (1 < sg w v)) 64 : Int)]
  else if anyB (fun n => stB w (n + 1)) 14 = true ∧ (anyB (prP w) 4096 = true → fsB (fun n => stB w (n + 1)) 14 = 0 ∧ ¬ fsB (prP w) 4096 < 64 * c0T w 1 + nxT w 0 (c0T w 1)) then chL w (fsB (fun n => stB w (n + 1)) 14 + 1) (c0T w (fsB (fun n => stB w (n + 1)) 14 + 1))
  else if anyB (prP w) 4096 = true then [((fsB (prP w) 4096 / 64 : Nat) : Int), ((fsB (prP w) 4096 % 64 : Nat) : Int)] else []
theorem chL_len (w : TW) : ∀ j v, (chL w j v).length = j + 1
  | 0, _ => rfl
  | j + 1, v => by
    show (chL w j (nxT w j v)).length + 1 = j + 1 + 1
    rw [chL_len w j]
/-- what holds of a cell of the chain from which j + 1 links lead on -/
def Inv (w : TW) (j v : Nat) : Prop := v < 64 ∧ (∃ s, s < tm w ∧ tB w s ≠ 0 ∧ tA w s = v ∧ comB w j (tB w s) = true) ∧ ∀ s, s < tm w → tB w s ≠ 0 → tA w s = v → ∀ d, d < j → ¬ comB w d (tB w s) = true
theorem Inv.com {w : TW} (h_w : TWok w) {j v : Nat} (h : Inv w j v) {g : Nat → Int} (h_g : FarOk w 12 g) {s : Nat} (h_s : s < tm w) (h_b : tB w s ≠ 0) (h_a : tA w s = v) (h_j : j ≤ 900) : g (tB w s) = j ↔ comB w j (tB w s) = true := by
  have h_64 := (h_w.2.1 s h_s).2
  obtain ⟨h_1, h_2, h_3⟩ := h_g _ h_64
  constructor
  · intro h_4
    have := h_2 (by omega)
    rw [h_4, Int.toNat_natCast] at this
    exact this
  · intro h_4
    have h_5 := far_d h_w h_g h_64 h_4
    by_cases h_6 : g (tB w s) < j
    · have h_7 := h_2 (by omega)
      exact absurd h_7 (h.2.2 s h_s h_b h_a _ (by omega))
    · omega
theorem Inv.any {w : TW} (h_w : TWok w) {j v : Nat} (h : Inv w j v) : anyB (fun e => decide (0 < db w v e) && comB w j e) 64 = true := by
  obtain ⟨s, h_1, h_2, h_3, h_4⟩ := h.2.1
  refine anyB_iff.2 ⟨tB w s, (h_w.2.1 s h_1).2, ?_⟩
  rw [Bool.and_eq_true, decide_eq_true_eq, db_pos h_w]
  exact ⟨⟨s, h_1, h_2, h_3, rfl⟩, h_4⟩
theorem Inv.nx {w : TW} (h_w : TWok w) {j v : Nat} (h : Inv w j v) : nxT w j v < 64 ∧ comB w j (nxT w j v) = true ∧ (∀ i, j = i + 1 → Inv w i (nxT w j v)) := by
  obtain ⟨h_1, h_2, -⟩ := fsB_is 64 (h.any h_w)
  have h_n : fsB (fun e => decide (0 < db w v e) && comB w j e) 64 = nxT w j v := rfl
  rw [h_n] at h_1 h_2
  rw [Bool.and_eq_true, decide_eq_true_eq, db_pos h_w] at h_2
  obtain ⟨⟨s, h_3, h_4, h_5, h_6⟩, h_7⟩ := h_2
  refine ⟨h_1, h_7, fun i h_i => ⟨h_1, ?_, fun s2 h_8 h_9 h_10 d h_11 h_12 => ?_⟩⟩
  · rw [h_i, com_s h_w] at h_7
    rw [h_i]
    exact h_7
  · have h_13 : comB w (d + 1) (nxT w j v) = true := (com_s h_w).2 ⟨s2, h_8, h_9, h_10, h_12⟩
    rw [← h_6] at h_13
    exact h.2.2 s h_3 h_4 h_5 (d + 1) (by omega) h_13
theorem Inv.st {w : TW} (h_w : TWok w) {n : Nat} (h : mnS w n) : 0 < sg w (c0T w (n + 1)) ∧ Inv w n (c0T w (n + 1)) := by
  obtain ⟨h_1, h_2, -⟩ := fsB_is 64 h.1
  have h_n : fsB (fun v => decide (0 < sg w v) && comB w (n + 1) v) 64 = c0T w (n + 1) := rfl
  rw [h_n] at h_1 h_2
  rw [Bool.and_eq_true, decide_eq_true_eq, com_s h_w] at h_2
  refine ⟨h_2.1, h_1, h_2.2, fun s h_3 h_4 h_5 d h_6 h_7 => h.2 d h_6 ((st_s h_w).2 ⟨s, h_3, h_4, by rw [h_5]; exact h_2.1, h_7⟩)⟩
