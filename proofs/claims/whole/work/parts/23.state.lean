/-- cells of the class that hold nothing from call to call -/
def scC (k : Nat) : Prop := (44 ≤ k ∧ k ≤ 47) ∨ (49 ≤ k ∧ k ≤ 55) ∨ k = 69 ∨ (73 ≤ k ∧ k ≤ 76) ∨ (191 ≤ k ∧ k ≤ 194) ∨ (196 ≤ k ∧ k ≤ 200)
def KC (σ τ : MemT) : Prop := ∀ k, ¬ scC k → τ k = σ k
theorem KC.rf (σ : MemT) : KC σ σ := fun _ _ => rfl
theorem KC.tr {a b e : MemT} (h1 : KC a b) (h2 : KC b e) : KC a e := fun k hk => (h2 k hk).trans (h1 k hk)
theorem KC.sy {a b : MemT} (h1 : KC a b) : KC b a := fun k hk => (h1 k hk).symm
theorem kc_up {a b : MemT} (h1 : KC a b) {k : Nat} {i z : Int} (hk : scC k) : KC a (up b k i z) := fun j hj => by
  rw [show up b k i z j = b j from up_other j (fun q => hj (q ▸ hk))]
  exact h1 j hj
/-- what a sign makes of the state of a rule's text; -1: it may not stand there -/
def stp (q g : Int) : Int :=
  if q = 0 then (if g = 97 ∨ g = 121 ∨ g = 107 ∨ g = 115 then 1 else -1)
  else if q = 1 then (if g = 60 ∨ g = 62 ∨ g = 61 then 2 else -1)
  else if 48 ≤ g ∧ g ≤ 57 then (if q < 5 then q + 1 else -1)
  else if 2 < q ∧ (g = 38 ∨ g = 124) then 0 else -1
def rst (f : Int → Int) : Nat → Int
  | 0 => 0
  | n + 1 => if rst f n < 0 then rst f n else stp (rst f n) (f n)
def WfCode (σ : MemT) (c : Nat) : Prop := (∀ l, 0 ≤ l → l < 26 → 0 ≤ σ (3 + 7 * c) l ∧ σ (3 + 7 * c) l ≤ 63) ∧ σ (4 + 7 * c) 0 = 4 ∧ (0 ≤ σ (4 + 7 * c) 3 ∧ σ (4 + 7 * c) 3 ≤ 12) ∧ ∀ s, 0 ≤ s → s < σ (4 + 7 * c) 3 → (2 ≤ σ (6 + 7 * c) s ∧ σ (6 + 7 * c) s ≤ 4) ∧ (∀ i, 0 ≤ i → i < σ (6 + 7 * c) s → 0 ≤ σ (5 + 7 * c) (4 * s + i) ∧ σ (5 + 7 * c) (4 * s + i) ≤ 25) ∧ (1 ≤ σ (7 + 7 * c) s ∧ σ (7 + 7 * c) s ≤ 63) ∧ (0 ≤ σ (8 + 7 * c) s ∧ σ (8 + 7 * c) s ≤ 63)
def WfPad (σ : MemT) : Prop := (0 ≤ σ 37 1 ∧ σ 37 1 ≤ 10) ∧ (∀ i, 0 ≤ i → i < σ 37 1 → 0 ≤ σ 38 i ∧ σ 38 i ≤ 25) ∧ (0 ≤ σ 39 1 ∧ σ 39 1 ≤ 12) ∧ (∀ i, 0 ≤ i → i < σ 39 1 → 1 ≤ σ 40 i ∧ σ 40 i ≤ 63) ∧ (0 ≤ σ 41 1 ∧ σ 41 1 ≤ 40) ∧ (∀ i, 0 ≤ i → i < σ 41 1 → 33 ≤ σ 42 i ∧ σ 42 i ≤ 126)
def WfWord (σ : MemT) : Prop := σ 57 0 = 10 ∧ (0 ≤ σ 57 3 ∧ σ 57 3 ≤ 30) ∧ (∀ w, 0 ≤ w → w < σ 57 3 → (1 ≤ σ 59 w ∧ σ 59 w ≤ 10) ∧ ∀ i, 0 ≤ i → i < σ 59 w → 0 ≤ σ 58 (10 * w + i) ∧ σ 58 (10 * w + i) ≤ 25) ∧ ∀ b : Nat, b < 8 → ∀ w, 0 ≤ w → w < 30 → 0 ≤ σ (61 + b) w ∧ σ (61 + b) w ≤ 1000
def WfRow (σ : MemT) : Prop := σ 70 0 = 4 ∧ (0 ≤ σ 70 3 ∧ σ 70 3 ≤ 12) ∧ ∀ r, 0 ≤ r → r < σ 70 3 → (2 ≤ σ 72 r ∧ σ 72 r ≤ 4) ∧ ∀ i, 0 ≤ i → i < σ 72 r → 0 ≤ σ 71 (4 * r + i) ∧ σ 71 (4 * r + i) ≤ 25
def WfRd (σ : MemT) : Prop := (0 ≤ σ 0 8 ∧ σ 0 8 ≤ 20) ∧ ∀ r : Nat, r < 20 → (0 ≤ σ (78 + 2 * r) 0 ∧ σ (78 + 2 * r) 0 ≤ 90) ∧ (0 ≤ σ (78 + 2 * r) 1 ∧ σ (78 + 2 * r) 1 ≤ 5) ∧ (σ (78 + 2 * r) 2 = 0 ∨ σ (78 + 2 * r) 2 = 1) ∧ ∀ e, 0 ≤ e → e < 5 → 0 ≤ σ (79 + 2 * r) e ∧ σ (79 + 2 * r) e ≤ 50
def WfSh (σ : MemT) : Prop := ∀ s : Nat, s < 6 → ∀ b : Nat, b < 8 → ∀ e, 0 ≤ e → e < 5 → 0 ≤ σ (121 + 12 * s + b) e ∧ σ (121 + 12 * s + b) e ≤ 100
def WfRule (σ : MemT) : Prop := ∀ s : Nat, s < 6 → ∃ n : Nat, n ≤ 40 ∧ σ (129 + 12 * s) 1 = n ∧ (n = 0 ∨ 2 < rst (σ (130 + 12 * s)) n)
def WfPart (σ : MemT) : Prop := ∀ l, 0 ≤ l → l < 26 → -1 ≤ σ 195 l ∧ σ 195 l ≤ 6
def Wf (σ : MemT) : Prop := (∀ c, c < 5 → WfCode σ c) ∧ WfPad σ ∧ WfWord σ ∧ WfRow σ ∧ WfRd σ ∧ WfSh σ ∧ WfRule σ ∧ WfPart σ
def ReCode (σ μ : MemT) (c : Nat) : Prop := (∀ l, 0 ≤ l → l < 26 → μ 1 (26 * c + l) = σ (3 + 7 * c) l) ∧ μ 6 c = σ (4 + 7 * c) 3 ∧ ∀ s, 0 ≤ s → s < σ (4 + 7 * c) 3 → μ 3 (12 * c + s) = σ (6 + 7 * c) s ∧ (∀ i, 0 ≤ i → i < σ (6 + 7 * c) s → μ 2 (4 * (12 * c + s) + i) = σ (5 + 7 * c) (4 * s + i)) ∧ μ 4 (2 * (12 * c + s)) = σ (7 + 7 * c) s ∧ (σ (8 + 7 * c) s = 0 → μ 5 (12 * c + s) = 1) ∧ (σ (8 + 7 * c) s ≠ 0 → μ 5 (12 * c + s) = 2 ∧ μ 4 (2 * (12 * c + s) + 1) = σ (8 + 7 * c) s)
def RePad (σ μ : MemT) : Prop := μ 0 7 = σ 37 1 ∧ (∀ i, 0 ≤ i → i < σ 37 1 → μ 7 i = σ 38 i) ∧ μ 0 9 = σ 39 1 ∧ (∀ i, 0 ≤ i → i < σ 39 1 → μ 8 i = σ 40 i) ∧ μ 0 42 = σ 41 1 ∧ (∀ i, 0 ≤ i → i < σ 41 1 → μ 29 i = σ 42 i)
def ReWord (σ μ : MemT) : Prop := μ 0 22 = σ 57 3 ∧ (∀ w, 0 ≤ w → w < σ 57 3 → μ 18 w = σ 59 w ∧ ∀ i, 0 ≤ i → i < σ 59 w → μ 17 (10 * w + i) = σ 58 (10 * w + i)) ∧ ∀ b : Nat, b < 8 → ∀ w, 0 ≤ w → w < 30 → μ 19 (30 * b + w) = σ (61 + b) w
def ReRow (σ μ : MemT) : Prop := μ 0 28 = σ 70 3 ∧ ∀ r, 0 ≤ r → r < σ 70 3 → μ 21 r = σ 72 r ∧ ∀ i, 0 ≤ i → i < σ 72 r → μ 20 (4 * r + i) = σ 71 (4 * r + i)
def ReRd (σ μ : MemT) : Prop := μ 0 33 = σ 0 8 ∧ ∀ r : Nat, r < 20 → μ 22 r = σ (78 + 2 * r) 0 ∧ μ 23 r = σ (78 + 2 * r) 1 ∧ μ 24 r = σ (78 + 2 * r) 2 ∧ ∀ e, 0 ≤ e → e < 5 → μ 25 (5 * r + e) = σ (79 + 2 * r) e
def ReSh (σ μ : MemT) : Prop := ∀ s : Nat, s < 6 → ∀ b : Nat, b < 8 → ∀ e, 0 ≤ e → e < 5 → μ 26 (40 * s + 5 * b + e) = σ (121 + 12 * s + b) e
def ReRule (σ μ : MemT) : Prop := ∀ s : Nat, s < 6 → (μ 31 s = -6 ∧ σ (129 + 12 * s) 1 = 0) ∨ (0 < σ (129 + 12 * s) 1 ∧ μ 31 s = σ (129 + 12 * s) 1 ∧ ∀ i, 0 ≤ i → i < σ (129 + 12 * s) 1 → μ 30 (40 * s + i) = σ (130 + 12 * s) i)
def RePart (σ μ : MemT) : Prop := ∀ l, 0 ≤ l → l < 26 → μ 32 l = if σ 195 l < 0 then -6 else σ 195 l
def Rel (σ μ : MemT) : Prop := (∀ c, c < 5 → ReCode σ μ c) ∧ RePad σ μ ∧ ReWord σ μ ∧ ReRow σ μ ∧ ReRd σ μ ∧ ReSh σ μ ∧ ReRule σ μ ∧ RePart σ μ
theorem Wf.kc {σ τ : MemT} (h : Wf σ) (k : KC σ τ) : Wf τ := by
  obtain ⟨h1, h2, h3, h4, h5, h6, h7, h8⟩ := h
  refine ⟨fun c hc => ?_, ?_, ?_, ?_, ?_, ?_, ?_, ?_⟩
  · have := h1 c hc
    unfold WfCode at this ⊢
    rw [k (3 + 7 * c) (by unfold scC; omega), k (4 + 7 * c) (by unfold scC; omega), k (5 + 7 * c) (by unfold scC; omega), k (6 + 7 * c) (by unfold scC; omega), k (7 + 7 * c) (by unfold scC; omega), k (8 + 7 * c) (by unfold scC; omega)]
    exact this
  · unfold WfPad at h2 ⊢
    rw [k 37 (by unfold scC; omega), k 38 (by unfold scC; omega), k 39 (by unfold scC; omega), k 40 (by unfold scC; omega), k 41 (by unfold scC; omega), k 42 (by unfold scC; omega)]
    exact h2
  · unfold WfWord at h3 ⊢
    rw [k 57 (by unfold scC; omega), k 58 (by unfold scC; omega), k 59 (by unfold scC; omega)]
    exact ⟨h3.1, h3.2.1, h3.2.2.1, fun b hb => by rw [k (61 + b) (by unfold scC; omega)]; exact h3.2.2.2 b hb⟩
  · unfold WfRow at h4 ⊢
    rw [k 70 (by unfold scC; omega), k 71 (by unfold scC; omega), k 72 (by unfold scC; omega)]
    exact h4
  · unfold WfRd at h5 ⊢
    rw [k 0 (by unfold scC; omega)]
    exact ⟨h5.1, fun r hr => by rw [k (78 + 2 * r) (by unfold scC; omega), k (79 + 2 * r) (by unfold scC; omega)]; exact h5.2 r hr⟩
  · unfold WfSh at h6 ⊢
    exact fun s hs b hb => by rw [k (121 + 12 * s + b) (by unfold scC; omega)]; exact h6 s hs b hb
  · unfold WfRule at h7 ⊢
    exact fun s hs => by rw [k (129 + 12 * s) (by unfold scC; omega), k (130 + 12 * s) (by unfold scC; omega)]; exact h7 s hs
  · unfold WfPart at h8 ⊢
    rw [k 195 (by unfold scC; omega)]
    exact h8
theorem Rel.kc {σ τ μ : MemT} (h : Rel σ μ) (k : KC σ τ) : Rel τ μ := by
  obtain ⟨h1, h2, h3, h4, h5, h6, h7, h8⟩ := h
  refine ⟨fun c hc => ?_, ?_, ?_, ?_, ?_, ?_, ?_, ?_⟩
  · have := h1 c hc
    unfold ReCode at this ⊢
    rw [k (3 + 7 * c) (by unfold scC; omega), k (4 + 7 * c) (by unfold scC; omega), k (5 + 7 * c) (by unfold scC; omega), k (6 + 7 * c) (by unfold scC; omega), k (7 + 7 * c) (by unfold scC; omega), k (8 + 7 * c) (by unfold scC; omega)]
    exact this
  · unfold RePad at h2 ⊢
    rw [k 37 (by unfold scC; omega), k 38 (by unfold scC; omega), k 39 (by unfold scC; omega), k 40 (by unfold scC; omega), k 41 (by unfold scC; omega), k 42 (by unfold scC; omega)]
    exact h2
  · unfold ReWord at h3 ⊢
    rw [k 57 (by unfold scC; omega), k 58 (by unfold scC; omega), k 59 (by unfold scC; omega)]
    exact ⟨h3.1, h3.2.1, fun b hb => by rw [k (61 + b) (by unfold scC; omega)]; exact h3.2.2 b hb⟩
  · unfold ReRow at h4 ⊢
    rw [k 70 (by unfold scC; omega), k 71 (by unfold scC; omega), k 72 (by unfold scC; omega)]
    exact h4
  · unfold ReRd at h5 ⊢
    rw [k 0 (by unfold scC; omega)]
    exact ⟨h5.1, fun r hr => by rw [k (78 + 2 * r) (by unfold scC; omega), k (79 + 2 * r) (by unfold scC; omega)]; exact h5.2 r hr⟩
  · unfold ReSh at h6 ⊢
    exact fun s hs b hb => by rw [k (121 + 12 * s + b) (by unfold scC; omega)]; exact h6 s hs b hb
  · unfold ReRule at h7 ⊢
    exact fun s hs => by rw [k (129 + 12 * s) (by unfold scC; omega), k (130 + 12 * s) (by unfold scC; omega)]; exact h7 s hs
  · unfold RePart at h8 ⊢
    rw [k 195 (by unfold scC; omega)]
    exact h8
/-- the reference's cells that hold nothing from call to call, its object's fields apart -/
def scM (k : Nat) : Prop := (9 ≤ k ∧ k ≤ 16) ∨ k = 27 ∨ k = 28 ∨ k = 33 ∨ k = 34
def scF (i : Int) : Prop := i = 11 ∨ i = 14 ∨ i = 24 ∨ i = 25 ∨ (35 ≤ i ∧ i ≤ 38)
def KM (μ ν : MemT) : Prop := (∀ k, ¬ scM k → k ≠ 0 → ν k = μ k) ∧ ∀ i, ¬ scF i → ν 0 i = μ 0 i
theorem KM.rf (μ : MemT) : KM μ μ := ⟨fun _ _ _ => rfl, fun _ _ => rfl⟩
theorem KM.tr {a b e : MemT} (h1 : KM a b) (h2 : KM b e) : KM a e := ⟨fun k hk h0 => (h2.1 k hk h0).trans (h1.1 k hk h0), fun i hi => (h2.2 i hi).trans (h1.2 i hi)⟩
theorem km_up {a b : MemT} (h1 : KM a b) {k : Nat} {i z : Int} (hk : scM k) : KM a (up b k i z) := by
  have h0 : k ≠ 0 := fun q => by subst q; unfold scM at hk; omega
  exact ⟨fun j hj j0 => by rw [show up b k i z j = b j from up_other j (fun q => hj (q ▸ hk))]; exact h1.1 j hj j0, fun j hj => by rw [up_cell (fun q => h0 q.symm)]; exact h1.2 j hj⟩
theorem km_upF {a b : MemT} (h1 : KM a b) {i z : Int} (hi : scF i) : KM a (up b 0 i z) := ⟨fun j hj j0 => by rw [show up b 0 i z j = b j from up_other j j0]; exact h1.1 j hj j0, fun j hj => by rw [up_idx (fun q : j = i => hj (q.symm ▸ hi))]; exact h1.2 j hj⟩
theorem Rel.km {σ μ ν : MemT} (h : Rel σ μ) (k : KM μ ν) : Rel σ ν := by
  obtain ⟨h1, h2, h3, h4, h5, h6, h7, h8⟩ := h
  obtain ⟨k1, k2⟩ := k
  refine ⟨fun c hc => ?_, ?_, ?_, ?_, ?_, ?_, ?_, ?_⟩
  · have := h1 c hc
    unfold ReCode at this ⊢
    rw [k1 1 (by unfold scM; omega) (by omega), k1 2 (by unfold scM; omega) (by omega), k1 3 (by unfold scM; omega) (by omega), k1 4 (by unfold scM; omega) (by omega), k1 5 (by unfold scM; omega) (by omega), k1 6 (by unfold scM; omega) (by omega)]
    exact this
  · unfold RePad at h2 ⊢
    rw [k1 7 (by unfold scM; omega) (by omega), k1 8 (by unfold scM; omega) (by omega), k1 29 (by unfold scM; omega) (by omega), k2 7 (by unfold scF; omega), k2 9 (by unfold scF; omega), k2 42 (by unfold scF; omega)]
    exact h2
  · unfold ReWord at h3 ⊢
    rw [k1 17 (by unfold scM; omega) (by omega), k1 18 (by unfold scM; omega) (by omega), k1 19 (by unfold scM; omega) (by omega), k2 22 (by unfold scF; omega)]
    exact h3
  · unfold ReRow at h4 ⊢
    rw [k1 20 (by unfold scM; omega) (by omega), k1 21 (by unfold scM; omega) (by omega), k2 28 (by unfold scF; omega)]
    exact h4
  · unfold ReRd at h5 ⊢
    rw [k1 22 (by unfold scM; omega) (by omega), k1 23 (by unfold scM; omega) (by omega), k1 24 (by unfold scM; omega) (by omega), k1 25 (by unfold scM; omega) (by omega), k2 33 (by unfold scF; omega)]
    exact h5
  · unfold ReSh at h6 ⊢
    rw [k1 26 (by unfold scM; omega) (by omega)]
    exact h6
  · unfold ReRule at h7 ⊢
    rw [k1 30 (by unfold scM; omega) (by omega), k1 31 (by unfold scM; omega) (by omega)]
    exact h7
  · unfold RePart at h8 ⊢
    rw [k1 32 (by unfold scM; omega) (by omega)]
    exact h8
abbrev CX : Type := Launch × va_G × (Nat → ClassId) × Nat
/-- a call of both -/
def OP (x1 x2 : CX) (y1 y2 : MethodName) (as : List Value) : Prop := ∀ σ μ : MemT, Wf σ → Rel σ μ → ∃ (z : Int) (τ : MemT) (d1 d2 : Nat), d1 ≤ 19 ∧ d2 ≤ 19 ∧ CT (EC x1) d1 y1 (rf (EC x1) 0 :: as) σ (rP (fun z2 σ2 => z2 = z ∧ KC τ σ2)) ∧ CT (EM x2) d2 y2 (rf (EM x2) 0 :: as) μ (rP (fun z2 μ2 => z2 = z ∧ Rel τ μ2)) ∧ Wf τ
theorem rI_P {E : EE} {d : Nat} {y : MethodName} {as : List Value} {μ μ0 : MemT} {z : Int} {Pr : Int → MemT → Prop} (k : CT E d y as μ (rI z μ0)) (h : Pr z μ0) : CT E d y as μ (rP Pr) := k.mono (fun r m q => ⟨z, q.1, by rw [q.2]; exact h⟩)
/-- nothing changes -/
theorem OP.same {x1 x2 : CX} {y1 y2 : MethodName} {as : List Value} (h : ∀ σ μ : MemT, Wf σ → Rel σ μ → ∃ (z : Int) (d1 d2 : Nat), d1 ≤ 19 ∧ d2 ≤ 19 ∧ CT (EC x1) d1 y1 (rf (EC x1) 0 :: as) σ (rP (fun z2 σ2 => z2 = z ∧ KC σ σ2)) ∧ CT (EM x2) d2 y2 (rf (EM x2) 0 :: as) μ (rP (fun z2 μ2 => z2 = z ∧ KM μ μ2))) : OP x1 x2 y1 y2 as := by
  intro σ μ hw hr
  obtain ⟨z, d1, d2, e1, e2, k1, k2⟩ := h σ μ hw hr
  exact ⟨z, σ, d1, d2, e1, e2, k1, k2.mono (fun r m q => by obtain ⟨z2, q1, q2, q3⟩ := q; exact ⟨z2, q1, q2, hr.km q3⟩), hw⟩
