def blkL (f : Nat → List va_E) (w a : Nat) : Nat → List va_E
  | 0 => []
  | i + 1 => blkL f w a i ++ f (a + w * i)
theorem blk_len {f : Nat → List va_E} {w : Nat} (hf : ∀ x, (f x).length = w) (a : Nat) : ∀ i, (blkL f w a i).length = w * i
  | 0 => rfl
  | i + 1 => by
    unfold blkL
    rw [List.length_append, blk_len hf a i, hf, Nat.mul_succ]
def lf (a w i : Nat) : Nat → Option Nat := fun j => if j < i then some (a + w * j) else none
theorem lf_s (a w i : Nat) : va_up (lf a w i) i (some (a + w * i)) = lf a w (i + 1) := by
  funext j
  unfold va_up lf
  by_cases c1 : j = i
  · rw [if_pos c1, if_pos (by omega), c1]
  · rw [if_neg c1]
    by_cases c2 : j < i
    · rw [if_pos c2, if_pos (by omega)]
    · rw [if_neg c2, if_neg (by omega)]
theorem lf_0 (a w : Nat) : lf a w 0 = fun _ => none := by
  funext j
  unfold lf
  rw [if_neg (by omega)]
theorem ar_get {O A : va_E} {P S : List va_E} {m : Nat} (h : P.length = m) : (O :: (P ++ A :: S))[m + 1]? = some A := by
  rw [List.getElem?_cons_succ, List.getElem?_append_right (by omega), h, Nat.sub_self]
  rfl
theorem ar_set {O A B : va_E} {P S : List va_E} {m : Nat} (h : P.length = m) : (O :: (P ++ A :: S)).set (m + 1) B = O :: (P ++ B :: S) := by
  rw [List.set_cons_succ, List.set_append_right _ _ (by omega), h, Nat.sub_self]
  rfl
theorem ar_blk {O A : va_E} {P S Y : List va_E} {m q : Nat} (h : P.length = m) (h2 : S.length = q) : (O :: (P ++ A :: (S ++ Y)))[m + 2 + q]? = Y[0]? := by
  rw [show m + 2 + q = (m + 1 + q) + 1 by omega, List.getElem?_cons_succ, List.getElem?_append_right (by omega), h, show m + 1 + q - m = q + 1 by omega, List.getElem?_cons_succ, List.getElem?_append_right (by omega), h2, Nat.sub_self]
theorem n_xs {E : EE} {X : XX} {R : Room} {Q : State → Prop} {b n pc cells slots c2 s2 : Nat} {ls : List (Option Value)} {st : List Value} {xs xs' : List va_E} (h : xs = xs') (h1 : cells = c2) (h2 : slots = s2) (k : JN E X R Q b n pc ls st xs' c2 s2) : JN E X R Q b n pc ls st xs cells slots := by
  subst h; subst h1; subst h2; exact k
theorem n_ls {E : EE} {X : XX} {R : Room} {Q : State → Prop} {b n pc cells slots : Nat} {ls ls' : List (Option Value)} {st : List Value} {xs : List va_E} (h : ls = ls') (k : JN E X R Q b n pc ls' st xs cells slots) : JN E X R Q b n pc ls st xs cells slots := h ▸ k
set_option maxHeartbeats 4000000 in
/-- for (i = 0; i < N; i++) this.arr[i] = new C() -/
theorem n_loop {E : EE} {X : XX} {R : Room} {Q : State → Prop} {b : Nat} {own : String} {cc : ByteArray} (G : GN E X own cc 2) {pc0 pc2 tgt N w w1 m t t0 ci Nc ms2 K d2 c0 s0 ix1 ix2 ix3 af oc : Nat} {fs vs : List Value} {P : List va_E} {f : Nat → List va_E} {C : String} {T : u_T} {y : MethodName} {off1 off2 : Int}
    (hPm : P.length = m) (hw : w1 = w + 1) (hK : K = Nc + ms2) (hN : N ≤ 5000) (hf : ∀ x, (f x).length = w1) (hf0 : ∀ x, ∃ vs2, (f x)[0]? = some (.inr (ci, vs2))) (hfs : fs[af]? = some (.ref (b + (m + 1))))
    (hk : ∀ (ls : List (Option Value)) (st : List Value) (xs : List va_E) (cells slots : Nat), JN E X R Q b 2 pc2 ls (iv (N : Nat) :: st) xs cells slots → JN E X R Q b 2 (pc0 + 1) ls st xs cells slots)
    (d0 : decode cc pc0 = .ok (.iload_n 1, 1)) (dc : decode cc pc2 = .ok (.if_icmp .ge off1, 3)) (htc : (pc2 : Int) + off1 = (tgt : Int)) (d3 : decode cc (pc2 + 3) = .ok (.aload_n 0, 1)) (d4 : decode cc (pc2 + 4) = .ok (.getfield ix1, 3)) (d7 : decode cc (pc2 + 7) = .ok (.iload_n 1, 1)) (d8 : decode cc (pc2 + 8) = .ok (.new ix2, 3)) (d11 : decode cc (pc2 + 11) = .ok (.dup, 1)) (d12 : decode cc (pc2 + 12) = .ok (.invokespecial ix3, 3)) (d15 : decode cc (pc2 + 15) = .ok (.aastore, 1)) (d16 : decode cc (pc2 + 16) = .ok (.iinc 1 1, 3)) (d19 : decode cc (pc2 + 19) = .ok (.goto off2, 3)) (htg : ((pc2 + 19 : Nat) : Int) + off2 = (pc0 : Int))
    (hF : FL own ix1 oc af) (hO : NO own ix2 ci Nc vs) (hM : MI own ix3 y 0 ∨ MN own ix3 y 0) (hct : ∀ x, CN E d2 w ms2 y [.ref x] x [.inr (ci, vs)] (f x)) (ht : (tyl E)[t0]? = some (eA E t, .object C)) (hcl : vwCl[ci]? = some (C, T, Nc))
    (hdf : d2 + 1 ≤ R.frames) (hdl : 64 * d2 + 59 ≤ R.locals) (hr1 : c0 + w1 * N ≤ R.cells) (hr2 : s0 + K * N ≤ R.slots)
    (kend : JN E X R Q b 2 tgt [some (.ref b), some (iv (N : Nat))] [] (.inr (oc, fs) :: (P ++ (aQ E t N (lf (b + (m + 2)) w1 N) :: blkL f w1 (b + (m + 2)) N))) (c0 + w1 * N) (s0 + K * N)) :
    JN E X R Q b 2 pc0 [some (.ref b), some (iv 0)] [] (.inr (oc, fs) :: (P ++ [aQ E t N (fun _ => none)])) c0 s0 := by
  have key : ∀ i, i ≤ N → JN E X R Q b 2 pc0 [some (.ref b), some (iv (i : Nat))] [] (.inr (oc, fs) :: (P ++ (aQ E t N (lf (b + (m + 2)) w1 i) :: blkL f w1 (b + (m + 2)) i))) (c0 + w1 * i) (s0 + K * i) := by
    refine down N (fun i hi ih => ?_)
    refine n_iload_n G d0 rfl ?_
    refine hk _ _ _ _ _ ?_
    refine n_icmp_ge (tgt := tgt) G dc htc (by omega) (by omega) (fun h_1 => ?_) (fun h_1 => ?_)
    · have h_2 : i = N := by omega
      rw [h_2]
      exact kend
    · have hm1 : w1 * (i + 1) = w1 * i + w1 := Nat.mul_succ w1 i
      have hm2 : K * (i + 1) = K * i + K := Nat.mul_succ K i
      have hm3 : w1 * (i + 1) ≤ w1 * N := Nat.mul_le_mul_left _ (by omega)
      have hm4 : K * (i + 1) ≤ K * N := Nat.mul_le_mul_left _ (by omega)
      have hbl := blk_len hf (b + (m + 2)) i
      have hlen : (.inr (oc, fs) :: (P ++ (aQ E t N (lf (b + (m + 2)) w1 i) :: blkL f w1 (b + (m + 2)) i)) : List va_E).length = m + 2 + w1 * i := by
        rw [List.length_cons, List.length_append, List.length_cons, hbl, hPm]
        omega
      refine n_aload_n G d3 rfl ?_
      refine n_get (k := 0) G hF d4 rfl hfs ?_
      refine n_iload_n G d7 rfl ?_
      refine n_new (L := m + 2 + w1 * i) G hO d8 hlen rfl rfl rfl (by omega) (by omega) ?_
      refine n_dup G d11 rfl ?_
      refine n_callC (L := m + 2 + w1 * i) (As := []) (xs0 := .inr (oc, fs) :: (P ++ (aQ E t N (lf (b + (m + 2)) w1 i) :: blkL f w1 (b + (m + 2)) i))) G hM d12 (hct _) rfl hlen rfl rfl (Nat.le_of_ble_eq_true rfl) hdf hdl rfl rfl (by omega) (by omega) rfl ?_
      obtain ⟨vs2, hv2⟩ := hf0 (b + (m + 2 + w1 * i))
      have e1 : (.inr (oc, fs) :: (P ++ (aQ E t N (lf (b + (m + 2)) w1 i) :: blkL f w1 (b + (m + 2)) i)) : List va_E) ++ f (b + (m + 2 + w1 * i)) = .inr (oc, fs) :: (P ++ (aQ E t N (lf (b + (m + 2)) w1 i) :: (blkL f w1 (b + (m + 2)) i ++ f (b + (m + 2 + w1 * i))))) := by
        simp only [List.append_assoc, List.cons_append]
      refine n_xs e1 rfl rfl ?_
      refine n_aast (k := m + 1) (qk := m + 2 + w1 * i) (i := (i : Nat)) G d15 (ar_get hPm) ht hcl (by rw [ar_blk hPm hbl]; exact hv2) rfl (by omega) (ar_set hPm) ?_
      refine n_iinc (z := (i : Nat)) (ls' := [some (.ref b), some (iv ((i + 1 : Nat) : Int))]) G d16 (by decide) rfl rfl rfl ?_
      refine n_goto (tgt := pc0) G d19 htg ?_
      refine n_xs ?_ (by rw [hm1]; omega) (by rw [hm2]; omega) (ih (by omega))
      rw [show b + (m + 2 + w1 * i) = b + (m + 2) + w1 * i by omega, show ((i : Nat) : Int).toNat = i from Int.toNat_natCast i, lf_s]
      rfl
  have h0 := key 0 (Nat.zero_le _)
  rw [lf_0] at h0
  exact h0
