/-- the law's own frame: both worlds, the script -/
abbrev LX : Type := XX × CX × CX × Nat × Nat × (Nat → Int32) × Nat × Nat
def GL (Y : LX) : Prop :=
  Y.1.1.tables.exec = Jvm.exec ∧ Y.1.2.2.2.2.2.2.2.code = cL_law ∧ Y.1.2.2.2.2.2.2.2.maxLocals = 4 ∧ Y.1.2.2.1.vm.findClass RL = some Y.1.2.2.2.1.cls ∧ (∀ w ∈ Tb, w.before Y.1.2.2.2.2.1 Y.1.2.2.1 = true) ∧ va_K Y.2.1.2.1 vwCl (tyl (EC Y.2.1)) Y.1.2.2.1 ∧ va_X Y.2.2.2.1 Y.2.2.2.2.1 Y.2.2.2.2.2.1 Y.1.2.2.1 Y.1.2.2.1.heap ∧ Y.2.2.2.1 < Y.1.2.2.1.heap.size ∧ Y.2.2.2.2.1 ≤ 2560 ∧ (Y.2.2.1.1 = Y.2.1.1 ∧ Y.2.2.1.2.1 = Y.2.1.2.1 ∧ Y.2.2.1.2.2.1 = Y.2.1.2.2.1 ∧ Y.2.2.1.2.2.2 = Y.2.1.2.2.2 + 201 ∧ Y.2.1.2.2.2 = Y.1.2.2.1.heap.size) ∧ Y.2.2.2.2.2.2.1 ≤ 600000 ∧ Y.2.2.2.2.2.2.2 ≤ 7302250
def JL (Y : LX) (Q : State → Prop) (pc : Nat) (ls : List (Option Value)) (st : List Value) (σ μ : MemT) : Prop :=
  Ok (EC Y.2.1) σ → Ok (EM Y.2.2.1) μ → ∀ (H : Heap) (locs : List Loc) (la : Array Slot), va_P Y.2.1.2.1 vwCl (wd (EC Y.2.1) σ) H → va_P Y.2.1.2.1 vwCl (wd (EM Y.2.2.1) μ) H → va_S (fun q => Y.1.2.2.1.heap.size ≤ q) Y.1.2.2.1.heap H locs → lh la 4 ls →
    W Y.1.1 Y.2.1.1 Y.1.2.1 room_1 Y.1.2.2.1 Y.1.2.2.2.1 Y.1.2.2.2.2.1 Y.1.2.2.2.2.2.1 Y.1.2.2.2.2.2.2.1 Y.1.2.2.2.2.2.2.2 H locs Y.2.2.2.2.2.2.1 Y.2.2.2.2.2.2.2 Q (F0 Y.1.2.2.2.1 pc la st)
section JLS
variable {Y : LX} {Q : State → Prop} {pc : Nat} {ls : List (Option Value)} {st : List Value} {σ μ : MemT}
theorem l_go {pc' : Nat} {st' : List Value} (h : ∀ (H : Heap) (locs : List Loc) (la : Array Slot), lh la 4 ls → va_S (fun q => Y.1.2.2.1.heap.size ≤ q) Y.1.2.2.1.heap H locs → W Y.1.1 Y.2.1.1 Y.1.2.1 room_1 Y.1.2.2.1 Y.1.2.2.2.1 Y.1.2.2.2.2.1 Y.1.2.2.2.2.2.1 Y.1.2.2.2.2.2.2.1 Y.1.2.2.2.2.2.2.2 H locs Y.2.2.2.2.2.2.1 Y.2.2.2.2.2.2.2 Q (F0 Y.1.2.2.2.1 pc' la st') → W Y.1.1 Y.2.1.1 Y.1.2.1 room_1 Y.1.2.2.1 Y.1.2.2.2.1 Y.1.2.2.2.2.1 Y.1.2.2.2.2.2.1 Y.1.2.2.2.2.2.2.1 Y.1.2.2.2.2.2.2.2 H locs Y.2.2.2.2.2.2.1 Y.2.2.2.2.2.2.2 Q (F0 Y.1.2.2.2.1 pc la st))
    (k : JL Y Q pc' ls st' σ μ) : JL Y Q pc ls st σ μ := fun h1 h2 H locs la hP hP2 hS hl => h H locs la hl hS (k h1 h2 H locs la hP hP2 hS hl)
theorem l_aload (G : GL Y) {i : Fin 4} {a : Nat} (hd : decode cL_law pc = .ok (.aload_n i, 1)) (hv : ls[(i : Nat)]? = some (some (.ref a))) (k : JL Y Q (pc + 1) ls (.ref a :: st) σ μ) : JL Y Q pc ls st σ μ := l_go (fun _ _ _ hl _ w => lv_aload_n G.1 G.2.1 hd rfl (hl.2.2 _ _ hv) w) k
theorem l_iload (G : GL Y) {i : Fin 4} {z : Int} (hd : decode cL_law pc = .ok (.iload_n i, 1)) (hv : ls[(i : Nat)]? = some (some (iv z))) (k : JL Y Q (pc + 1) ls (iv z :: st) σ μ) : JL Y Q pc ls st σ μ := l_go (fun _ _ _ hl _ w => lv_iload_n G.1 G.2.1 hd rfl (hl.2.2 _ _ hv) w) k
theorem l_iconst (G : GL Y) {z : Int} (hd : decode cL_law pc = .ok (.iconst z, 1)) (k : JL Y Q (pc + 1) ls (iv z :: st) σ μ) : JL Y Q pc ls st σ μ := l_go (fun _ _ _ _ _ w => lv_iconst G.1 G.2.1 hd rfl w) k
theorem l_bipush (G : GL Y) {z : Int} (hd : decode cL_law pc = .ok (.bipush z, 2)) (hz : (Int8.ofInt z).toInt32 = Int32.ofInt z) (k : JL Y Q (pc + 2) ls (iv z :: st) σ μ) : JL Y Q pc ls st σ μ := l_go (fun _ _ _ _ _ w => lv_bipush G.1 G.2.1 hd hz w) k
theorem l_iadd (G : GL Y) {x y : Int} (hd : decode cL_law pc = .ok (.iadd, 1)) (k : JL Y Q (pc + 1) ls (iv (x + y) :: st) σ μ) : JL Y Q pc ls (iv y :: iv x :: st) σ μ := l_go (fun _ _ _ _ _ w => lv_iadd G.1 G.2.1 hd (by rw [← Int32.ofInt_add]; exact w)) k
theorem l_isub (G : GL Y) {x y : Int} (hd : decode cL_law pc = .ok (.isub, 1)) (k : JL Y Q (pc + 1) ls (iv (x - y) :: st) σ μ) : JL Y Q pc ls (iv y :: iv x :: st) σ μ := l_go (fun _ _ _ _ _ w => lv_isub G.1 G.2.1 hd (by rw [← Int32.ofInt_sub]; exact w)) k
theorem l_iand (G : GL Y) {x y : Int} (hd : decode cL_law pc = .ok (.iand, 1)) (k : JL Y Q (pc + 1) ls (iv (and32 x y) :: st) σ μ) : JL Y Q pc ls (iv y :: iv x :: st) σ μ := l_go (fun _ _ _ _ _ w => lv_iand G.1 G.2.1 hd (by rw [and32, iv_toInt] at w; exact w)) k
theorem l_goto (G : GL Y) {off : Int} {tgt : Nat} (hd : decode cL_law pc = .ok (.goto off, 3)) (ht : (pc : Int) + off = (tgt : Int)) (k : JL Y Q tgt ls st σ μ) : JL Y Q pc ls st σ μ := l_go (fun _ _ _ _ _ w => lv_goto G.1 G.2.1 hd ht w) k
theorem l_iinc (G : GL Y) {i : Nat} {z k : Int} (hd : decode cL_law pc = .ok (.iinc i k, 3)) (hn : i < 4) (hv : ls[i]? = some (some (iv z))) (ok : okS ls i = true) {ls' : List (Option Value)} (hls : ls.set i (some (iv (z + k))) = ls') (kk : JL Y Q (pc + 3) ls' st σ μ) : JL Y Q pc ls st σ μ := by
  subst hls
  intro h1 h2 H locs la hP hP2 hS hl
  obtain ⟨j, hj⟩ := List.getElem?_of_mem (mem_prs.mpr hv)
  exact lv_iinc (k := j) (x := Int32.ofInt z) G.1 G.2.1 hd (lh_has hl) hj (by rw [← Int32.ofInt_add]) hn rfl (fun la2 hl2 => kk h1 h2 H locs la2 hP hP2 hS (lh_store ok hl2))
theorem l_len (G : GL Y) (hd : decode cL_law pc = .ok (.arraylength, 1)) (k : JL Y Q (pc + 1) ls (iv (Y.2.2.2.2.1 : Nat) :: st) σ μ) : JL Y Q pc ls (.ref Y.2.2.2.1 :: st) σ μ := by
  obtain ⟨g1, g2, g3, g4, g5, g6, g7, g8, g9, -⟩ := G
  refine l_go (fun H locs la hl hS w => va_slen g1 g2 g7 g8 (A := fun q => Y.1.2.2.1.heap.size ≤ q) (by show ¬ _ ≤ _; omega) hS hd ?_) k
  exact w
theorem l_sld (G : GL Y) {i : Int} (hi : 0 ≤ i ∧ i < (Y.2.2.2.2.1 : Nat)) (hd : decode cL_law pc = .ok (.iaload, 1)) (k : JL Y Q (pc + 1) ls (iv (Y.2.2.2.2.2.1 i.toNat).toInt :: st) σ μ) : JL Y Q pc ls (iv i :: .ref Y.2.2.2.1 :: st) σ μ := by
  obtain ⟨g1, g2, g3, g4, g5, g6, g7, g8, g9, -⟩ := G
  obtain ⟨j1, j2⟩ := ix_in (nn := Y.2.2.2.2.1) (i := i) ⟨hi.1, hi.2, by omega⟩
  refine l_go (fun H locs la hl hS w => va_sld g1 g2 g7 g8 (A := fun q => Y.1.2.2.1.heap.size ≤ q) (by show ¬ _ ≤ _; omega) hS j1 hd ?_) k
  rw [iv_toInt] at w
  rw [show (Int32.ofInt i).toNatClampNeg = i.toNat by omega]
  exact w
/-- script[i + k] -/
theorem l_arg (G : GL Y) {i k : Int} (hls : ls[0]? = some (some (.ref Y.2.2.2.1)) ∧ ls[3]? = some (some (iv i))) (hi : 0 ≤ i + k ∧ i + k < (Y.2.2.2.2.1 : Nat)) (d0 : decode cL_law pc = .ok (.aload_n 0, 1)) (d1 : decode cL_law (pc + 1) = .ok (.iload_n 3, 1)) (d2 : decode cL_law (pc + 2) = .ok (.iconst k, 1)) (d3 : decode cL_law (pc + 3) = .ok (.iadd, 1)) (d4 : decode cL_law (pc + 4) = .ok (.iaload, 1)) (kk : JL Y Q (pc + 5) ls (iv (Y.2.2.2.2.2.1 (i + k).toNat).toInt :: st) σ μ) : JL Y Q pc ls st σ μ := by
  refine l_aload G d0 hls.1 ?_
  refine l_iload G d1 hls.2 ?_
  refine l_iconst G d2 ?_
  refine l_iadd G d3 ?_
  exact l_sld G hi d4 kk
theorem l_eq (G : GL Y) {z off : Int} {tgt : Nat} (hd : decode cL_law pc = .ok (.if_icmp .eq off, 3)) (ht : (pc : Int) + off = (tgt : Int)) (k : JL Y Q tgt ls st σ μ) : JL Y Q pc ls (iv z :: iv z :: st) σ μ := by
  intro h1 h2 H locs la hP hP2 hS hl
  exact lv_icmp_eq G.1 G.2.1 hd ht (fun _ => k h1 h2 H locs la hP hP2 hS hl) (fun q => absurd rfl q)
theorem l_gt (G : GL Y) {x y off : Int} {tgt : Nat} (hd : decode cL_law pc = .ok (.if_icmp .gt off, 3)) (ht : (pc : Int) + off = (tgt : Int)) (hx : -2147483648 ≤ x ∧ x < 2147483648) (hy : -2147483648 ≤ y ∧ y < 2147483648) (kt : y < x → JL Y Q tgt ls st σ μ) (kf : x ≤ y → JL Y Q (pc + 3) ls st σ μ) : JL Y Q pc ls (iv y :: iv x :: st) σ μ := by
  intro h1 h2 H locs la hP hP2 hS hl
  exact lv_icmp_gt G.1 G.2.1 hd ht (fun q => kt ((ofI_lt hy hx).mp q) h1 h2 H locs la hP hP2 hS hl) (fun q => kf (Int.not_lt.mp (fun e => q ((ofI_lt hy hx).mpr e))) h1 h2 H locs la hP hP2 hS hl)
theorem l_ifeq (G : GL Y) {x off : Int} {tgt : Nat} (hd : decode cL_law pc = .ok (.ifCond .eq off, 3)) (ht : (pc : Int) + off = (tgt : Int)) (hx : -2147483648 ≤ x ∧ x < 2147483648) (kt : x = 0 → JL Y Q tgt ls st σ μ) (kf : x ≠ 0 → JL Y Q (pc + 3) ls st σ μ) : JL Y Q pc ls (iv x :: st) σ μ := by
  intro h1 h2 H locs la hP hP2 hS hl
  exact lv_if_eq G.1 G.2.1 hd ht (fun q => kt ((ofI_inj hx (by omega)).mp q) h1 h2 H locs la hP hP2 hS hl) (fun q => kf (fun e => q ((ofI_inj hx (by omega)).mpr e)) h1 h2 H locs la hP hP2 hS hl)
end JLS
