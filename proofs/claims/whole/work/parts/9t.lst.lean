theorem cE {E : EE} {μ : MemT} {k k2 : Nat} {q : Nat × Nat × List (Option Nat)} {qs : LayT} {e : va_E} {es : List va_E} (hk : k + 1 = k2) (h1 : e = en E μ k q) (h2 : es = enL E μ k2 qs) : e :: es = enL E μ k (q :: qs) := by
  subst hk; subst h1; subst h2; rfl
theorem eI {E : EE} {μ : MemT} {k N : Nat} {qs : List (Option Nat)} (h : ∀ j : Int, μ k j = 0) : aI E N = en E μ k (20, N, qs) := by
  rw [en_int]
  unfold aI
  rw [show (fun j : Nat => Int32.ofInt (μ k j)) = fun _ => Int32.ofInt 0 from funext fun j => by rw [h]]
theorem eZ {E : EE} {μ : MemT} {k N : Nat} {qs : List (Option Nat)} (h : ∀ j : Int, μ k j = 0) : aZ E N = en E μ k (22, N, qs) := by
  rw [en_bool]
  unfold aZ
  rw [show (fun j : Nat => Int32.ofInt (μ k j)) = fun _ => Int32.ofInt 0 from funext fun j => by rw [h]]
theorem eL_ {E : EE} {μ : MemT} {k N : Nat} {qs : List (Option Nat)} (h : ∀ j : Int, μ k j = 0) : aL E N = en E μ k (21, N, qs) := by
  rw [en_long]
  unfold aL
  rw [show (fun j : Nat => Int64.ofInt (μ k j)) = fun _ => Int64.ofInt 0 from funext fun j => by rw [h]]
theorem eG {E : EE} {μ : MemT} {k N i : Nat} {z : Int} {qs : List (Option Nat)} (h : ∀ j : Int, μ k j = if 0 ≤ j ∧ j < (i : Nat) then z else 0) : gI E N i z = en E μ k (20, N, qs) := by
  rw [en_int]
  unfold gI
  rw [show (fun j : Nat => Int32.ofInt (μ k j)) = fun j : Nat => Int32.ofInt (if 0 ≤ (j : Int) ∧ (j : Int) < (i : Nat) then z else 0) from funext fun j => by rw [h]]
theorem eO {E : EE} {μ : MemT} {k ci N : Nat} {qs : List (Option Nat)} {fs : List Value} (hc : ci < 20) (h : fs = (qs.zipIdx 0).map (fv E μ k)) : (.inr (ci, fs) : va_E) = en E μ k (ci, N, qs) := by
  rw [en_obj hc, h]
theorem eQ {E : EE} {μ : MemT} {k t N a w : Nat} {qs : List (Option Nat)} (ht : 24 ≤ t) (h : qs = (List.range N).map (fun i => some (a + w * i))) : aQ E t N (lf (eB E + a) w N) = en E μ k (t, N, qs) := by
  unfold en aQ
  rw [if_neg (show ¬ (t, N, qs).1 < 20 by show ¬ t < 20; omega), if_neg (show ¬ (t, N, qs).1 = 21 by show ¬ t = 21; omega), if_neg (show ¬ (t, N, qs).1 < 24 by show ¬ t < 24; omega), q_lf, h]
theorem eM {E : EE} {μ : MemT} {k N B a : Nat} {qs : List (Option Nat)} (hB : B = eB E + a) (h : qs = (List.range N).map (fun i => some (a + 1 + i))) : aQ E 27 N (fun j => if j < N then some (B + 1 + j) else none) = en E μ k (27, N, qs) := by
  have h1 := mul_q E B (eB E) a N 0 hB
  unfold mulL at h1
  rw [(List.cons.inj h1).1]
  unfold en
  rw [if_neg (show ¬ (27, N, qs).1 < 20 by show ¬ 27 < 20; decide), if_neg (show ¬ (27, N, qs).1 = 21 by show ¬ 27 = 21; decide), if_neg (show ¬ (27, N, qs).1 < 24 by show ¬ 27 < 24; decide), h]
theorem vC {E : EE} {μ : MemT} {k i i2 : Nat} {r : Option Nat} {qs : List (Option Nat)} {v : Value} {vs : List Value} (hi : i + 1 = i2) (h1 : v = fv E μ k (r, i)) (h2 : vs = (qs.zipIdx i2).map (fv E μ k)) : v :: vs = ((r :: qs).zipIdx i).map (fv E μ k) := by
  subst hi; subst h1; subst h2; rfl
theorem vR {E : EE} {μ : MemT} {k i a r : Nat} (h : a = eB E + r) : Value.ref a = fv E μ k (some r, i) := by rw [h]; rfl
theorem vN {E : EE} {μ : MemT} {k i : Nat} {z : Int} (h : μ k i = z) : iv z = fv E μ k (none, i) := by rw [← h]; rfl
theorem rep8 (x : va_E) : List.replicate 8 x = [x, x, x, x, x, x, x, x] := rfl
theorem blk5 (f : Nat → List va_E) (w a : Nat) : blkL f w a 5 = f (a + w * 0) ++ (f (a + w * 1) ++ (f (a + w * 2) ++ (f (a + w * 3) ++ f (a + w * 4)))) := by
  show (((([] ++ f (a + w * 0)) ++ f (a + w * 1)) ++ f (a + w * 2)) ++ f (a + w * 3)) ++ f (a + w * 4) = _
  simp only [List.nil_append, List.append_assoc]
theorem blk20 (f : Nat → List va_E) (w a : Nat) : blkL f w a 20 = f (a + w * 0) ++ (f (a + w * 1) ++ (f (a + w * 2) ++ (f (a + w * 3) ++ (f (a + w * 4) ++ (f (a + w * 5) ++ (f (a + w * 6) ++ (f (a + w * 7) ++ (f (a + w * 8) ++ (f (a + w * 9) ++ (f (a + w * 10) ++ (f (a + w * 11) ++ (f (a + w * 12) ++ (f (a + w * 13) ++ (f (a + w * 14) ++ (f (a + w * 15) ++ (f (a + w * 16) ++ (f (a + w * 17) ++ (f (a + w * 18) ++ (f (a + w * 19)))))))))))))))))))) := by
  show (((((((((((((((((((([] ++ f (a + w * 0)) ++ f (a + w * 1)) ++ f (a + w * 2)) ++ f (a + w * 3)) ++ f (a + w * 4)) ++ f (a + w * 5)) ++ f (a + w * 6)) ++ f (a + w * 7)) ++ f (a + w * 8)) ++ f (a + w * 9)) ++ f (a + w * 10)) ++ f (a + w * 11)) ++ f (a + w * 12)) ++ f (a + w * 13)) ++ f (a + w * 14)) ++ f (a + w * 15)) ++ f (a + w * 16)) ++ f (a + w * 17)) ++ f (a + w * 18)) ++ f (a + w * 19)) = _
  simp only [List.nil_append, List.append_assoc]
set_option maxHeartbeats 40000000 in
set_option maxRecDepth 1000000 in
theorem lst_M (E : EE) : dmL E (eB E) = enL E s0M 0 LM := by
  unfold dmL LM
  refine cE (k2 := 1) rfl (eO (by decide) (vC (i2 := 1) rfl (vR (by omega)) (vC (i2 := 2) rfl (vR (by omega)) (vC (i2 := 3) rfl (vR (by omega)) (vC (i2 := 4) rfl (vR (by omega)) (vC (i2 := 5) rfl (vR (by omega)) (vC (i2 := 6) rfl (vR (by omega)) (vC (i2 := 7) rfl (vR (by omega)) (vC (i2 := 8) rfl (vN (m0_z _ (by decide))) (vC (i2 := 9) rfl (vR (by omega)) (vC (i2 := 10) rfl (vN (m0_z _ (by decide))) (vC (i2 := 11) rfl (vR (by omega)) (vC (i2 := 12) rfl (vN (m0_z _ (by decide))) (vC (i2 := 13) rfl (vR (by omega)) (vC (i2 := 14) rfl (vR (by omega)) (vC (i2 := 15) rfl (vN (m0_z _ (by decide))) (vC (i2 := 16) rfl (vR (by omega)) (vC (i2 := 17) rfl (vR (by omega)) (vC (i2 := 18) rfl (vR (by omega)) (vC (i2 := 19) rfl (vR (by omega)) (vC (i2 := 20) rfl (vR (by omega)) (vC (i2 := 21) rfl (vR (by omega)) (vC (i2 := 22) rfl (vR (by omega)) (vC (i2 := 23) rfl (vN (m0_z _ (by decide))) (vC (i2 := 24) rfl (vR (by omega)) (vC (i2 := 25) rfl (vN (m0_z _ (by decide))) (vC (i2 := 26) rfl (vN (m0_z _ (by decide))) (vC (i2 := 27) rfl (vR (by omega)) (vC (i2 := 28) rfl (vR (by omega)) (vC (i2 := 29) rfl (vN (m0_z _ (by decide))) (vC (i2 := 30) rfl (vR (by omega)) (vC (i2 := 31) rfl (vR (by omega)) (vC (i2 := 32) rfl (vR (by omega)) (vC (i2 := 33) rfl (vR (by omega)) (vC (i2 := 34) rfl (vN (m0_z _ (by decide))) (vC (i2 := 35) rfl (vR (by omega)) (vC (i2 := 36) rfl (vN (m0_z _ (by decide))) (vC (i2 := 37) rfl (vN (m0_z _ (by decide))) (vC (i2 := 38) rfl (vN (m0_z _ (by decide))) (vC (i2 := 39) rfl (vN (m0_z _ (by decide))) (vC (i2 := 40) rfl (vR (by omega)) (vC (i2 := 41) rfl (vR (by omega)) (vC (i2 := 42) rfl (vR (by omega)) (vC (i2 := 43) rfl (vN (m0_z _ (by decide))) (vC (i2 := 44) rfl (vR (by omega)) (vC (i2 := 45) rfl (vR (by omega)) (vC (i2 := 46) rfl (vR (by omega)) (vC (i2 := 47) rfl (vR (by omega)) (vC (i2 := 48) rfl (vR (by omega)) (rfl)))))))))))))))))))))))))))))))))))))))))))))))))) ?_
  refine cE (k2 := 2) rfl (eI (fun j => m0_z j (by decide))) ?_
  refine cE (k2 := 3) rfl (eI (fun j => m0_z j (by decide))) ?_
  refine cE (k2 := 4) rfl (eI (fun j => m0_z j (by decide))) ?_
  refine cE (k2 := 5) rfl (eI (fun j => m0_z j (by decide))) ?_
  refine cE (k2 := 6) rfl (eI (fun j => m0_z j (by decide))) ?_
  refine cE (k2 := 7) rfl (eI (fun j => m0_z j (by decide))) ?_
  refine cE (k2 := 8) rfl (eI (fun j => m0_z j (by decide))) ?_
  refine cE (k2 := 9) rfl (eI (fun j => m0_z j (by decide))) ?_
  refine cE (k2 := 10) rfl (eI (fun j => m0_z j (by decide))) ?_
  refine cE (k2 := 11) rfl (eI (fun j => m0_z j (by decide))) ?_
  refine cE (k2 := 12) rfl (eI (fun j => m0_z j (by decide))) ?_
  refine cE (k2 := 13) rfl (eI (fun j => m0_z j (by decide))) ?_
  refine cE (k2 := 14) rfl (eI (fun j => m0_z j (by decide))) ?_
  refine cE (k2 := 15) rfl (eI (fun j => m0_z j (by decide))) ?_
  refine cE (k2 := 16) rfl (eZ (fun j => m0_z j (by decide))) ?_
  refine cE (k2 := 17) rfl (eI (fun j => m0_z j (by decide))) ?_
  refine cE (k2 := 18) rfl (eI (fun j => m0_z j (by decide))) ?_
  refine cE (k2 := 19) rfl (eI (fun j => m0_z j (by decide))) ?_
  refine cE (k2 := 20) rfl (eI (fun j => m0_z j (by decide))) ?_
  refine cE (k2 := 21) rfl (eI (fun j => m0_z j (by decide))) ?_
  refine cE (k2 := 22) rfl (eI (fun j => m0_z j (by decide))) ?_
  refine cE (k2 := 23) rfl (eI (fun j => m0_z j (by decide))) ?_
  refine cE (k2 := 24) rfl (eI (fun j => m0_z j (by decide))) ?_
  refine cE (k2 := 25) rfl (eZ (fun j => m0_z j (by decide))) ?_
  refine cE (k2 := 26) rfl (eI (fun j => m0_z j (by decide))) ?_
  refine cE (k2 := 27) rfl (eI (fun j => m0_z j (by decide))) ?_
  refine cE (k2 := 28) rfl (eI (fun j => m0_z j (by decide))) ?_
  refine cE (k2 := 29) rfl (eI (fun j => m0_z j (by decide))) ?_
  refine cE (k2 := 30) rfl (eI (fun j => m0_z j (by decide))) ?_
  refine cE (k2 := 31) rfl (eI (fun j => m0_z j (by decide))) ?_
  refine cE (k2 := 32) rfl (eG (i := 6) (fun j => (if_neg (by decide)).trans (if_pos rfl))) ?_
  refine cE (k2 := 33) rfl (eG (i := 26) (fun j => if_pos rfl)) ?_
  refine cE (k2 := 34) rfl (eI (fun j => m0_z j (by decide))) ?_
  refine cE (k2 := 35) rfl (eI (fun j => m0_z j (by decide))) ?_
  rfl
