/-! the best mix -/
abbrev MB : Type := Int × Int
abbrev MX : Type := (Nat → Nat → Int) × (Nat → Nat → Nat) × (Nat → Bool)
def fitX (b U : Nat) : Bool := decide (b &&& (U ||| 1) = 0)
def fdC (g : Nat → MB → MB) : Nat → MB → MB
  | 0, B => B
  | c + 1, B => g c (fdC g c B)
def FR (q : MX) : Nat → Nat → Int → Int → MB → MB
  | 0, _, cost, dig, B => if cost < B.1 then (cost, dig) else B
  | r + 1, U, cost, dig, B => fdC (fun c B => if (c = 0 ∨ q.2.2 (6 - r) = true) ∧ fitX (q.2.1 (6 - r) c) U = true then FR q r (U ||| q.2.1 (6 - r) c) (cost + q.1 (6 - r) c) (10 * dig + c) B else B) 5 B
def fu (f : Nat → Nat) (p c : Nat) : Nat → Nat := fun i => if i = p then c else f i
theorem fu_same (f : Nat → Nat) (p c : Nat) : fu f p c p = c := if_pos rfl
theorem fu_ne {f : Nat → Nat} {p c i : Nat} (h : i ≠ p) : fu f p c i = f i := if_neg h
def GR (lf : (Nat → Nat) → MB → MB) : Nat → (Nat → Nat) → MB → MB
  | 0, f, B => lf f B
  | r + 1, f, B => fdC (fun c B => GR lf r (fu f (6 - r) c) B) 5 B
def lpN (st : Nat → MB → MB) (a : Nat) : Nat → MB → MB
  | 0, B => B
  | k + 1, B => st (a + k) (lpN st a k B)
theorem lpN_add (st : Nat → MB → MB) (a k : Nat) (B : MB) : ∀ m, lpN st a (k + m) B = lpN st (a + k) m (lpN st a k B)
  | 0 => rfl
  | m + 1 => by
    show st (a + (k + m)) (lpN st a (k + m) B) = st (a + k + m) (lpN st (a + k) m (lpN st a k B))
    rw [lpN_add st a k B m, Nat.add_assoc]
def dg5 (n q : Nat) : Nat := n / 5 ^ (6 - q) % 5
theorem blk (lf : (Nat → Nat) → MB → MB) (h_cg : ∀ f g : Nat → Nat, (∀ q, q < 7 → f q = g q) → lf f = lf g) : ∀ r m (f : Nat → Nat) (B : MB), r ≤ 7 → (∀ q, q + r < 7 → f q = m / 5 ^ (6 - r - q) % 5) → lpN (fun n => lf (dg5 n)) (m * 5 ^ r) (5 ^ r) B = GR lf r f B
  | 0, m, f, B, h_r, h_f => by
    show lf (dg5 (m * 5 ^ 0 + 0)) B = lf f B
    rw [h_cg (dg5 (m * 5 ^ 0 + 0)) f (fun q h_q => by
      rw [h_f q (by omega), Nat.pow_zero, Nat.mul_one, Nat.add_zero]
      rfl)]
  | r + 1, m, f, B, h_r, h_f => by
    have key : ∀ c, c ≤ 5 → lpN (fun n => lf (dg5 n)) (m * 5 ^ (r + 1)) (c * 5 ^ r) B = fdC (fun c B => GR lf r (fu f (6 - r) c) B) c B := fun c => by
      induction c with
      | zero =>
        intro _
        rw [Nat.zero_mul]
        rfl
      | succ c ih =>
        intro h_c
        rw [Nat.succ_mul, lpN_add, ih (by omega)]
        rw [show m * 5 ^ (r + 1) + c * 5 ^ r = (5 * m + c) * 5 ^ r from by rw [Nat.pow_succ, Nat.add_mul, Nat.mul_comm (5 ^ r) 5, ← Nat.mul_assoc, Nat.mul_comm m 5]]
        rw [blk lf h_cg r (5 * m + c) (fu f (6 - r) c) _ (by omega) (fun q h_q => ?_)]
        · rfl
        · by_cases h_e : q = 6 - r
          · rw [h_e, fu_same, Nat.sub_self, Nat.pow_zero, Nat.div_one]
            omega
          · rw [fu_ne h_e, h_f q (by omega), show 6 - r - q = (6 - (r + 1) - q) + 1 by omega, Nat.pow_succ, Nat.mul_comm (5 ^ (6 - (r + 1) - q)) 5, ← Nat.div_div_eq_div_mul, show (5 * m + c) / 5 = m by omega]
    have h_5 := key 5 (Nat.le_refl _)
    rw [show 5 ^ (r + 1) = 5 * 5 ^ r from by rw [Nat.pow_succ, Nat.mul_comm]] at *
    exact h_5
section MQ
variable (q : MX)
def Uf (f : Nat → Nat) : Nat → Nat
  | 0 => 0
  | p + 1 => Uf f p ||| q.2.1 p (f p)
def Sf (f : Nat → Nat) : Nat → Int
  | 0 => 0
  | p + 1 => Sf f p + q.1 p (f p)
def Df (f : Nat → Nat) : Nat → Int
  | 0 => 0
  | p + 1 => 10 * Df f p + f p
def okm (f : Nat → Nat) : Nat → Bool
  | 0 => true
  | p + 1 => okm f p && (decide (f p = 0 ∨ q.2.2 p = true) && fitX (q.2.1 p (f p)) (Uf q f p))
theorem Uf_cg {f g : Nat → Nat} : ∀ p, (∀ i, i < p → f i = g i) → Uf q f p = Uf q g p
  | 0, _ => rfl
  | p + 1, h => by
    show Uf q f p ||| q.2.1 p (f p) = Uf q g p ||| q.2.1 p (g p)
    rw [Uf_cg p (fun i h_i => h i (by omega)), h p (by omega)]
theorem Sf_cg {f g : Nat → Nat} : ∀ p, (∀ i, i < p → f i = g i) → Sf q f p = Sf q g p
  | 0, _ => rfl
  | p + 1, h => by
    show Sf q f p + q.1 p (f p) = Sf q g p + q.1 p (g p)
    rw [Sf_cg p (fun i h_i => h i (by omega)), h p (by omega)]
theorem Df_cg {f g : Nat → Nat} : ∀ p, (∀ i, i < p → f i = g i) → Df f p = Df g p
  | 0, _ => rfl
  | p + 1, h => by
    show 10 * Df f p + f p = 10 * Df g p + g p
    rw [Df_cg p (fun i h_i => h i (by omega)), h p (by omega)]
theorem okm_cg {f g : Nat → Nat} : ∀ p, (∀ i, i < p → f i = g i) → okm q f p = okm q g p
  | 0, _ => rfl
  | p + 1, h => by
    show (okm q f p && (decide (f p = 0 ∨ q.2.2 p = true) && fitX (q.2.1 p (f p)) (Uf q f p))) = (okm q g p && (decide (g p = 0 ∨ q.2.2 p = true) && fitX (q.2.1 p (g p)) (Uf q g p)))
    rw [okm_cg p (fun i h_i => h i (by omega)), h p (by omega), Uf_cg q p (fun i h_i => h i (by omega))]
def lfQ2 (f : Nat → Nat) (B : MB) : MB := if okm q f 7 = true ∧ Sf q f 7 < B.1 then (Sf q f 7, Df f 7) else B
theorem fdC_cg {g g2 : Nat → MB → MB} {B : MB} : ∀ c, (∀ i, i < c → ∀ B, g i B = g2 i B) → fdC g c B = fdC g2 c B
  | 0, _ => rfl
  | c + 1, h => by
    show g c (fdC g c B) = g2 c (fdC g2 c B)
    rw [fdC_cg c (fun i h_i => h i (by omega)), h c (by omega)]
theorem fdC_id {g : Nat → MB → MB} {B : MB} : ∀ c, (∀ i, i < c → g i B = B) → fdC g c B = B
  | 0, _ => rfl
  | c + 1, h => by
    show g c (fdC g c B) = B
    rw [fdC_id c (fun i h_i => h i (by omega)), h c (by omega)]
theorem GR_FR : ∀ r (f : Nat → Nat) (B : MB), r ≤ 7 → GR (lfQ2 q) r f B = if okm q f (7 - r) = true then FR q r (Uf q f (7 - r)) (Sf q f (7 - r)) (Df f (7 - r)) B else B
  | 0, f, B, _ => by
    show lfQ2 q f B = if okm q f 7 = true then (if Sf q f 7 < B.1 then (Sf q f 7, Df f 7) else B) else B
    unfold lfQ2
    by_cases h_1 : okm q f 7 = true
    · rw [if_pos h_1]
      by_cases h_2 : Sf q f 7 < B.1
      · rw [if_pos ⟨h_1, h_2⟩, if_pos h_2]
      · rw [if_neg (fun z => h_2 z.2), if_neg h_2]
    · rw [if_neg h_1, if_neg (fun z => h_1 z.1)]
  | r + 1, f, B, h_r => by
    have h_p : 7 - r = (6 - r) + 1 := by omega
    rw [show 7 - (r + 1) = 6 - r by omega]
    have h_ch : ∀ c B, GR (lfQ2 q) r (fu f (6 - r) c) B = if (okm q f (6 - r) && (decide (c = 0 ∨ q.2.2 (6 - r) = true) && fitX (q.2.1 (6 - r) c) (Uf q f (6 - r)))) = true then FR q r (Uf q f (6 - r) ||| q.2.1 (6 - r) c) (Sf q f (6 - r) + q.1 (6 - r) c) (10 * Df f (6 - r) + c) B else B := fun c B => by
      rw [GR_FR r _ B (by omega), h_p]
      have h_a : ∀ i, i < 6 - r → fu f (6 - r) c i = f i := fun i h_i => fu_ne (by omega)
      rw [show okm q (fu f (6 - r) c) (6 - r + 1) = (okm q (fu f (6 - r) c) (6 - r) && (decide (fu f (6 - r) c (6 - r) = 0 ∨ q.2.2 (6 - r) = true) && fitX (q.2.1 (6 - r) (fu f (6 - r) c (6 - r))) (Uf q (fu f (6 - r) c) (6 - r)))) from rfl, show Uf q (fu f (6 - r) c) (6 - r + 1) = Uf q (fu f (6 - r) c) (6 - r) ||| q.2.1 (6 - r) (fu f (6 - r) c (6 - r)) from rfl, show Sf q (fu f (6 - r) c) (6 - r + 1) = Sf q (fu f (6 - r) c) (6 - r) + q.1 (6 - r) (fu f (6 - r) c (6 - r)) from rfl, show Df (fu f (6 - r) c) (6 - r + 1) = 10 * Df (fu f (6 - r) c) (6 - r) + (fu f (6 - r) c (6 - r) : Nat) from rfl, fu_same, okm_cg q _ h_a, Uf_cg q _ h_a, Sf_cg q _ h_a, Df_cg _ h_a]
    show fdC (fun c B => GR (lfQ2 q) r (fu f (6 - r) c) B) 5 B = _
    by_cases h_1 : okm q f (6 - r) = true
    · rw [if_pos h_1]
      show _ = fdC (fun c B => if (c = 0 ∨ q.2.2 (6 - r) = true) ∧ fitX (q.2.1 (6 - r) c) (Uf q f (6 - r)) = true then FR q r (Uf q f (6 - r) ||| q.2.1 (6 - r) c) (Sf q f (6 - r) + q.1 (6 - r) c) (10 * Df f (6 - r) + c) B else B) 5 B
      refine fdC_cg 5 (fun c _ B => ?_)
      rw [h_ch c B, h_1, Bool.true_and]
      by_cases h_2 : (c = 0 ∨ q.2.2 (6 - r) = true) ∧ fitX (q.2.1 (6 - r) c) (Uf q f (6 - r)) = true
      · rw [if_pos h_2, decide_eq_true h_2.1, h_2.2, if_pos (show (true && true) = true from rfl)]
      · rw [if_neg h_2, if_neg (fun z => h_2 (by rw [Bool.and_eq_true] at z; exact ⟨of_decide_eq_true z.1, z.2⟩))]
    · rw [if_neg h_1]
      refine fdC_id 5 (fun c _ => ?_)
      rw [h_ch c B, Bool.eq_false_iff.2 h_1, Bool.false_and, if_neg (by decide)]
/-- what is left costs at least so much -/
def lsC (p : Nat) : Int := lsM (fun c => decide ((q.2.1 p c) &&& 1 = 0)) (fun c => q.1 p c) 268435456 5
def LF : Nat → Int
  | 0 => 0
  | r + 1 => min 268435456 (LF r + lsC q (6 - r))
theorem FR_cut : ∀ r U (cost dig : Int) (B : MB), B.1 ≤ cost + LF q r → FR q r U cost dig B = B
  | 0, U, cost, dig, B, h => by
    show (if cost < B.1 then (cost, dig) else B) = B
    have h_1 : B.1 ≤ cost + 0 := h
    rw [if_neg (by omega)]
  | r + 1, U, cost, dig, B, h => by
    have h_1 : B.1 ≤ cost + min 268435456 (LF q r + lsC q (6 - r)) := h
    show fdC (fun c B => if (c = 0 ∨ q.2.2 (6 - r) = true) ∧ fitX (q.2.1 (6 - r) c) U = true then FR q r (U ||| q.2.1 (6 - r) c) (cost + q.1 (6 - r) c) (10 * dig + c) B else B) 5 B = B
    refine fdC_id 5 (fun c h_c => ?_)
    split
    · rename_i h_2
      have h_3 : q.2.1 (6 - r) c &&& 1 = 0 := by
        have h_4 := of_decide_eq_true h_2.2
        rw [Nat.and_or_distrib_left] at h_4
        exact (Nat.or_eq_zero_iff.1 h_4).2
      have h_5 : lsC q (6 - r) ≤ q.1 (6 - r) c := (lsM_le (P := fun c => decide ((q.2.1 (6 - r) c) &&& 1 = 0)) (g := fun c => q.1 (6 - r) c) (i0 := 268435456) 5).2 c h_c (decide_eq_true h_3)
      exact FR_cut r _ _ _ B (by omega)
    · rfl
end MQ
