theorem j_pc {E : EE} {X : XX} {d n pc : Nat} {post : Pst} {ls : List (Option Value)} {st : List Value} {μ : MemT} {p2 : Nat} (h : pc = p2) (k : JJ E X d post n p2 ls st μ) : JJ E X d post n pc ls st μ := h ▸ k
theorem down {Pr : Nat → Prop} (N : Nat) (hs : ∀ i, i ≤ N → (i < N → Pr (i + 1)) → Pr i) : ∀ i, i ≤ N → Pr i := by
  have key : ∀ k i, i ≤ N → N - i ≤ k → Pr i := by
    intro k
    induction k with
    | zero => intro i hi hk; exact hs i hi (fun h => absurd h (by omega))
    | succ k ih => intro i hi hk; exact hs i hi (fun h => ih (i + 1) (by omega) (by omega))
  exact fun i hi => key (N - i) i hi (Nat.le_refl _)
/-- downwards: from i to 0 -/
theorem downto {Pr : Nat → Prop} (hs : ∀ i, (∀ j, j + 1 = i → Pr j) → Pr i) : ∀ i, Pr i := by
  intro i
  induction i with
  | zero => exact hs 0 (fun j h => absurd h (by omega))
  | succ i ih => exact hs (i + 1) (fun j h => by cases h; exact ih)
def cmpI (a b : Int) : Int := if b < a then 1 else if a = b then 0 else -1
theorem ofL_toInt {z : Int} (h : -2147483648 ≤ z ∧ z < 2147483648) : (Int64.ofInt z).toInt = z := Int64.toInt_ofInt_of_le (by omega) (by omega)
theorem lg_cmpI {a b : Int} (ha : -2147483648 ≤ a ∧ a < 2147483648) (hb : -2147483648 ≤ b ∧ b < 2147483648) : (lg_cmp (Int64.ofInt a) (Int64.ofInt b)).toInt = cmpI a b := by
  unfold lg_cmp cmpI
  have h1 : Int64.ofInt a > Int64.ofInt b ↔ b < a := by rw [gt_iff_lt, Int64.lt_iff_toInt_lt, ofL_toInt ha, ofL_toInt hb]
  have h2 : Int64.ofInt a = Int64.ofInt b ↔ a = b := ⟨fun h => by rw [← ofL_toInt ha, h, ofL_toInt hb], fun h => by rw [h]⟩
  by_cases c1 : b < a
  · rw [if_pos (h1.mpr c1), if_pos c1]; rfl
  · rw [if_neg (fun q => c1 (h1.mp q)), if_neg c1]
    by_cases c2 : a = b
    · rw [if_pos (h2.mpr c2), if_pos c2]; rfl
    · rw [if_neg (fun q => c2 (h2.mp q)), if_neg c2]; rfl
theorem j_lcmpI {E : EE} {X : XX} {d n pc : Nat} {post : Pst} {ls : List (Option Value)} {st : List Value} {μ : MemT} {own : String} {cc : ByteArray} {ret : Option FieldType} (G : GO E X own cc n ret) {a b : Int} (hd : decode cc pc = .ok (.lcmp, 1)) (ha : -2147483648 ≤ a ∧ a < 2147483648) (hb : -2147483648 ≤ b ∧ b < 2147483648) (kk : JJ E X d post n (pc + 1) ls (iv (cmpI a b) :: st) μ) : JJ E X d post n pc ls (.long (Int64.ofInt b) :: .long (Int64.ofInt a) :: st) μ := j_lcmp G hd (by rw [lg_cmpI ha hb]; exact kk)
/-- 1 or 0 -/
def b2 (p : Prop) [Decidable p] : Int := if p then 1 else 0
theorem b2_t {p : Prop} [Decidable p] (h : p) : b2 p = 1 := if_pos h
theorem b2_f {p : Prop} [Decidable p] (h : ¬ p) : b2 p = 0 := if_neg h
theorem b2_01 (p : Prop) [Decidable p] : b2 p = 0 ∨ b2 p = 1 := by unfold b2; split <;> simp
theorem j_if_eqB {E : EE} {X : XX} {d n pc : Nat} {post : Pst} {ls : List (Option Value)} {st : List Value} {μ : MemT} {own : String} {cc : ByteArray} {ret : Option FieldType} (G : GO E X own cc n ret) {p : Prop} [Decidable p] {off : Int} {tgt : Nat} (hd : decode cc pc = .ok (.ifCond .eq off, 3)) (ht : (pc : Int) + off = (tgt : Int)) (kt : ¬ p → JJ E X d post n tgt ls st μ) (kf : p → JJ E X d post n (pc + 3) ls st μ) : JJ E X d post n pc ls (iv (b2 p) :: st) μ := by
  have h_1 := b2_01 p
  refine j_if_eq G hd ht (by omega) (fun c_ => kt (fun h_2 => ?_)) (fun c_ => kf (Decidable.byContradiction fun h_2 => ?_))
  · rw [b2_t h_2] at c_; omega
  · rw [b2_f h_2] at c_; omega
theorem j_if_neB {E : EE} {X : XX} {d n pc : Nat} {post : Pst} {ls : List (Option Value)} {st : List Value} {μ : MemT} {own : String} {cc : ByteArray} {ret : Option FieldType} (G : GO E X own cc n ret) {p : Prop} [Decidable p] {off : Int} {tgt : Nat} (hd : decode cc pc = .ok (.ifCond .ne off, 3)) (ht : (pc : Int) + off = (tgt : Int)) (kt : p → JJ E X d post n tgt ls st μ) (kf : ¬ p → JJ E X d post n (pc + 3) ls st μ) : JJ E X d post n pc ls (iv (b2 p) :: st) μ := by
  have h_1 := b2_01 p
  refine j_if_ne G hd ht (by omega) (fun c_ => kt (Decidable.byContradiction fun h_2 => ?_)) (fun c_ => kf (fun h_2 => ?_))
  · rw [b2_f h_2] at c_; omega
  · rw [b2_t h_2] at c_; omega
theorem j_lconstI {E : EE} {X : XX} {d n pc : Nat} {post : Pst} {ls : List (Option Value)} {st : List Value} {μ : MemT} {own : String} {cc : ByteArray} {ret : Option FieldType} (G : GO E X own cc n ret) {i : Fin 2} (z : Int) (hd : decode cc pc = .ok (.lconst i, 1)) (hz : Int64.ofNat i = Int64.ofInt z) (kk : JJ E X d post n (pc + 1) ls (.long (Int64.ofInt z) :: st) μ) : JJ E X d post n pc ls st μ := j_lconst G hd (by rw [hz]; exact kk)
theorem j_ldc2I {E : EE} {X : XX} {d n pc : Nat} {post : Pst} {ls : List (Option Value)} {st : List Value} {μ : MemT} {own : String} {cc : ByteArray} {ret : Option FieldType} (G : GO E X own cc n ret) {i : Nat} {v : Int64} (z : Int) (hw : Cond.constantLong own i v ∈ Tb) (hd : decode cc pc = .ok (.ldc2_w i, 3)) (hz : v = Int64.ofInt z) (kk : JJ E X d post n (pc + 3) ls (.long (Int64.ofInt z) :: st) μ) : JJ E X d post n pc ls st μ := j_ldc2 G hw hd (by rw [hz]; exact kk)
theorem CT.mono {E : EE} {d : Nat} {y : MethodName} {as : List Value} {μ : MemT} {p1 p2 : Pst} (k : CT E d y as μ p1) (h : ∀ r m, p1 r m → p2 r m) : CT E d y as μ p2 := by
  obtain ⟨cc, n, ret, h1, h2, h3⟩ := k
  refine ⟨cc, n, ret, h1, h2, ?_⟩
  intro p e ha hb hc s m args below hf hs hP hK
  obtain ⟨k, o, g1, g2, g3, g4, g5⟩ := h3 p e ha hb hc s m args below hf hs hP hK
  obtain ⟨⟨r, m2, e1, e2, e3⟩, e4⟩ := g4
  exact ⟨k, o, g1, g2, g3, ⟨⟨r, m2, e1, h r m2 e2, e3⟩, e4⟩, g5⟩
