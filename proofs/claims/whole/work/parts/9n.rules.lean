def RN (d mc ms : Nat) : Room := { frames := d, cells := mc, slots := ms, locals := 64 * d }
def QN (E : EE) (b : Nat) (ys : List va_E) : Array Value → State → Outcome → State → Prop := fun _ st oc t => (oc = .returned none ∧ va_P (eD E) vwCl (mw b ys) t.heap) ∧ va_F (fun q => b ≤ q) st t
def PN (E : EE) (b : Nat) (as : List Value) (xs : List va_E) : Array Value → State → Prop := va_Pc as (fun U => (va_P (eD E) vwCl (mw b xs) U.heap ∧ U.heap.size = b + xs.length) ∧ va_K (eD E) vwCl (tyl E) U ∧ NX U)
/-- a constructor: the cells xs from b on become the cells ys -/
def CN (E : EE) (d mc ms : Nat) (y : MethodName) (as : List Value) (b : Nat) (xs ys : List va_E) : Prop :=
  ∃ (cc : ByteArray) (n : Nat), Cond.code y cc n none ∈ Tb ∧ n ≤ 40 ∧ ys.length = xs.length + mc ∧ Met (eL E) y (Cond.code y cc n none :: Tb) (RN d mc ms) (PN E b as xs) (QN E b ys) mc ms (fun q => b ≤ q)
def JN (E : EE) (X : XX) (R : Room) (Q : State → Prop) (b n pc : Nat) (ls : List (Option Value)) (st : List Value) (xs : List va_E) (cells slots : Nat) : Prop :=
  b ≤ X.2.2.1.heap.size → b + xs.length = X.2.2.1.heap.size + cells → ∀ (H : Heap) (locs : List Loc) (la : Array Slot), va_P (eD E) vwCl (mw b xs) H → va_S (fun q => b ≤ q) X.2.2.1.heap H locs → lh la n ls →
    W X.1 (eL E) X.2.1 R X.2.2.1 X.2.2.2.1 X.2.2.2.2.1 X.2.2.2.2.2.1 X.2.2.2.2.2.2.1 X.2.2.2.2.2.2.2 H locs cells slots Q (F0 X.2.2.2.1 pc la st)
def GN (E : EE) (X : XX) (own : String) (cc : ByteArray) (n : Nat) : Prop :=
  X.1.tables.exec = Jvm.exec ∧ X.2.2.2.2.2.2.2.code = cc ∧ X.2.2.2.2.2.2.2.maxLocals = n ∧ X.2.2.1.vm.findClass own = some X.2.2.2.1.cls ∧ (∀ w ∈ Tb, w.before X.2.2.2.2.1 X.2.2.1 = true) ∧ va_K (eD E) vwCl (tyl E) X.2.2.1 ∧ NX X.2.2.1
section JG
variable {E : EE} {X : XX} {R : Room} {Q : State → Prop} {b n pc cells slots : Nat} {ls : List (Option Value)} {st : List Value} {xs : List va_E} {own : String} {cc : ByteArray}
/-- the heap's size is known -/
theorem n_size {g : JFrame} {H : Heap} {locs : List Loc} (h1 : b ≤ X.2.2.1.heap.size) (h2 : b + xs.length = X.2.2.1.heap.size + cells) (hP : va_P (eD E) vwCl (mw b xs) H) (hS : va_S (fun q => b ≤ q) X.2.2.1.heap H locs)
    (k : H.size = b + xs.length → W X.1 (eL E) X.2.1 R X.2.2.1 X.2.2.2.1 X.2.2.2.2.1 X.2.2.2.2.2.1 X.2.2.2.2.2.2.1 X.2.2.2.2.2.2.2 H locs cells slots Q g) : W X.1 (eL E) X.2.1 R X.2.2.1 X.2.2.2.1 X.2.2.2.2.1 X.2.2.2.2.2.1 X.2.2.2.2.2.2.1 X.2.2.2.2.2.2.2 H locs cells slots Q g := by
  intro T hT Xs
  refine k ?_ T hT Xs
  have hu := Xs.heapSize
  rw [hT] at hu
  by_cases c : xs.length = 0
  · have := hS.1
    omega
  · have hlt : xs.length - 1 < xs.length := by omega
    have hat := mw_of (b := b) (List.getElem?_eq_getElem hlt)
    have hl := (hP _ _ hat).lt
    have hl2 : b + (xs.length - 1) < H.size := hl
    omega
theorem n_go {pc' : Nat} {st' : List Value} (h : ∀ (H : Heap) (locs : List Loc) (la : Array Slot), lh la n ls → W X.1 (eL E) X.2.1 R X.2.2.1 X.2.2.2.1 X.2.2.2.2.1 X.2.2.2.2.2.1 X.2.2.2.2.2.2.1 X.2.2.2.2.2.2.2 H locs cells slots Q (F0 X.2.2.2.1 pc' la st') → W X.1 (eL E) X.2.1 R X.2.2.1 X.2.2.2.1 X.2.2.2.2.1 X.2.2.2.2.2.1 X.2.2.2.2.2.2.1 X.2.2.2.2.2.2.2 H locs cells slots Q (F0 X.2.2.2.1 pc la st))
    (k : JN E X R Q b n pc' ls st' xs cells slots) : JN E X R Q b n pc ls st xs cells slots := fun h1 h2 H locs la hP hS hl => h H locs la hl (k h1 h2 H locs la hP hS hl)
theorem n_iconst (G : GN E X own cc n) {z : Int} (hd : decode cc pc = .ok (.iconst z, 1)) (k : JN E X R Q b n (pc + 1) ls (iv z :: st) xs cells slots) : JN E X R Q b n pc ls st xs cells slots := n_go (fun _ _ _ _ w => lv_iconst G.1 G.2.1 hd rfl w) k
theorem n_bipush (G : GN E X own cc n) {z : Int} (hd : decode cc pc = .ok (.bipush z, 2)) (hz : (Int8.ofInt z).toInt32 = Int32.ofInt z) (k : JN E X R Q b n (pc + 2) ls (iv z :: st) xs cells slots) : JN E X R Q b n pc ls st xs cells slots := n_go (fun _ _ _ _ w => lv_bipush G.1 G.2.1 hd hz w) k
theorem n_sipush (G : GN E X own cc n) {z : Int} (hd : decode cc pc = .ok (.sipush z, 3)) (hz : (Int16.ofInt z).toInt32 = Int32.ofInt z) (k : JN E X R Q b n (pc + 3) ls (iv z :: st) xs cells slots) : JN E X R Q b n pc ls st xs cells slots := n_go (fun _ _ _ _ w => lv_sipush G.1 G.2.1 hd hz w) k
theorem n_aload_n (G : GN E X own cc n) {i : Fin 4} {a : Nat} (hd : decode cc pc = .ok (.aload_n i, 1)) (hv : ls[(i : Nat)]? = some (some (.ref a))) (k : JN E X R Q b n (pc + 1) ls (.ref a :: st) xs cells slots) : JN E X R Q b n pc ls st xs cells slots := n_go (fun _ _ _ hl w => lv_aload_n G.1 G.2.1 hd rfl (hl.2.2 _ _ hv) w) k
theorem n_iload_n (G : GN E X own cc n) {i : Fin 4} {z : Int} (hd : decode cc pc = .ok (.iload_n i, 1)) (hv : ls[(i : Nat)]? = some (some (iv z))) (k : JN E X R Q b n (pc + 1) ls (iv z :: st) xs cells slots) : JN E X R Q b n pc ls st xs cells slots := n_go (fun _ _ _ hl w => lv_iload_n G.1 G.2.1 hd rfl (hl.2.2 _ _ hv) w) k
theorem n_imul (G : GN E X own cc n) {x y : Int} (hd : decode cc pc = .ok (.imul, 1)) (k : JN E X R Q b n (pc + 1) ls (iv (x * y) :: st) xs cells slots) : JN E X R Q b n pc ls (iv y :: iv x :: st) xs cells slots := n_go (fun _ _ _ _ w => lv_imul G.1 G.2.1 hd (by rw [← Int32.ofInt_mul]; exact w)) k
theorem n_dup (G : GN E X own cc n) {v : Value} (hd : decode cc pc = .ok (.dup, 1)) (hc : v.category = 1) (k : JN E X R Q b n (pc + 1) ls (v :: v :: st) xs cells slots) : JN E X R Q b n pc ls (v :: st) xs cells slots := n_go (fun _ _ _ _ w => lv_dup G.1 G.2.1 hd hc w) k
theorem n_goto (G : GN E X own cc n) {off : Int} {tgt : Nat} (hd : decode cc pc = .ok (.goto off, 3)) (ht : (pc : Int) + off = (tgt : Int)) (k : JN E X R Q b n tgt ls st xs cells slots) : JN E X R Q b n pc ls st xs cells slots := n_go (fun _ _ _ _ w => lv_goto G.1 G.2.1 hd ht w) k
theorem n_icmp_ge (G : GN E X own cc n) {x y off : Int} {tgt : Nat} (hd : decode cc pc = .ok (.if_icmp .ge off, 3)) (ht : (pc : Int) + off = (tgt : Int)) (hx : -2147483648 ≤ x ∧ x < 2147483648) (hy : -2147483648 ≤ y ∧ y < 2147483648) (kt : y ≤ x → JN E X R Q b n tgt ls st xs cells slots) (kf : x < y → JN E X R Q b n (pc + 3) ls st xs cells slots) : JN E X R Q b n pc ls (iv y :: iv x :: st) xs cells slots := by
  intro h1 h2 H locs la hP hS hl
  exact lv_icmp_ge G.1 G.2.1 hd ht (fun q => kt ((ofI_le hy hx).mp q) h1 h2 H locs la hP hS hl) (fun q => kf (Int.not_le.mp (fun e => q ((ofI_le hy hx).mpr e))) h1 h2 H locs la hP hS hl)
theorem n_istore_n (G : GN E X own cc n) {i : Fin 4} {z : Int} (hd : decode cc pc = .ok (.istore_n i, 1)) (hn : (i : Nat) < n) (ok : okS ls i = true) {ls' : List (Option Value)} (hls : ls.set i (some (iv z)) = ls') (kk : JN E X R Q b n (pc + 1) ls' st xs cells slots) : JN E X R Q b n pc ls (iv z :: st) xs cells slots := by
  subst hls
  exact fun h1 h2 H locs la hP hS hl => lv_istore_n G.1 G.2.1 hd rfl (lh_has hl) hn rfl (fun la2 hl2 => kk h1 h2 H locs la2 hP hS (lh_store ok hl2))
theorem n_astore_n (G : GN E X own cc n) {i : Fin 4} {a : Nat} (hd : decode cc pc = .ok (.astore_n i, 1)) (hn : (i : Nat) < n) (ok : okS ls i = true) {ls' : List (Option Value)} (hls : ls.set i (some (.ref a)) = ls') (kk : JN E X R Q b n (pc + 1) ls' st xs cells slots) : JN E X R Q b n pc ls (.ref a :: st) xs cells slots := by
  subst hls
  exact fun h1 h2 H locs la hP hS hl => lv_astore_n G.1 G.2.1 hd rfl (lh_has hl) hn rfl (fun la2 hl2 => kk h1 h2 H locs la2 hP hS (lh_store ok hl2))
theorem n_iinc (G : GN E X own cc n) {i : Nat} {z k : Int} (hd : decode cc pc = .ok (.iinc i k, 3)) (hn : i < n) (hv : ls[i]? = some (some (iv z))) (ok : okS ls i = true) {ls' : List (Option Value)} (hls : ls.set i (some (iv (z + k))) = ls') (kk : JN E X R Q b n (pc + 3) ls' st xs cells slots) : JN E X R Q b n pc ls st xs cells slots := by
  subst hls
  intro h1 h2 H locs la hP hS hl
  obtain ⟨j, hj⟩ := List.getElem?_of_mem (mem_prs.mpr hv)
  exact lv_iinc (k := j) (x := Int32.ofInt z) G.1 G.2.1 hd (lh_has hl) hj (by rw [← Int32.ofInt_add]) hn rfl (fun la2 hl2 => kk h1 h2 H locs la2 hP hS (lh_store ok hl2))
theorem n_max (G : GN E X own cc n) {idx : Nat} {x y : Int} (hM : MS own idx yJ9_max_7cf53 2) (hd : decode cc pc = .ok (.invokestatic idx, 3)) (hx : -2147483648 ≤ x ∧ x < 2147483648) (hy : -2147483648 ≤ y ∧ y < 2147483648) (hf : 1 ≤ R.frames) (hlo : 21 ≤ R.locals) (hc1 : cells ≤ R.cells) (hc2 : slots ≤ R.slots) (hcat : (st.map fun v => v.category).sum ≤ 8) (kk : JN E X R Q b n (pc + 3) ls (iv (max x y) :: st) xs cells slots) : JN E X R Q b n pc ls (iv y :: iv x :: st) xs cells slots := by
  obtain ⟨w1, w2, w3, -, -⟩ := hM
  have hts := G.2.2.2.2.1
  refine n_go (fun H locs la hl w => va_mmax G.1 G.2.1 (by rw [hl.1]; exact G.2.2.1) G.2.2.2.1 (hts _ w1) (hts _ w2) (hts _ w3) (hts _ kw_max) hf (by omega) hc1 hc2 hd ?_) kk
  rw [ofI_max hx hy]
  exact w
theorem kw_obj : Cond.code Lib.objectInit ⟨#[0xb1]⟩ 1 none ∈ Tb := Tb_mem 96 (by decide +kernel) (by decide +kernel)
theorem kw_obi : Cond.instanceMethod Lib.objectInit ∈ Tb := Tb_mem 95 (by decide +kernel) (by decide +kernel)
theorem n_obj (G : GN E X own cc n) {idx a : Nat} (hw : Cond.methodLink own idx Lib.objectInit ∈ Tb) (hd : decode cc pc = .ok (.invokespecial idx, 3)) (hf : 1 ≤ R.frames) (hlo : 20 ≤ R.locals) (hcat : (st.map fun v => v.category).sum ≤ 8) (kk : JN E X R Q b n (pc + 3) ls st xs cells slots) : JN E X R Q b n pc ls (.ref a :: st) xs cells slots := by
  have hts := G.2.2.2.2.1
  refine n_go (fun H locs la hl w => W.objInit G.1 G.2.1 G.2.2.2.1 (hts _ hw) (hts _ kw_obi) (hts _ kw_obj) rfl (by rw [G.2.2.1]; exact hl.1) rfl hd hf ?_ w) kk
  show 2 * 0 + _ + 12 ≤ _
  omega
theorem nt_in {N : Nat} (h : N ≤ 5000) : ¬ Int32.ofInt (N : Int) < 0 ∧ (Int32.ofInt (N : Int)).toNatClampNeg = N := by
  have h1 : (Int32.ofInt (N : Int)).toNatClampNeg = (N : Int).toNat := Int32.toNatClampNeg_ofInt_of_le (by omega) (by omega)
  refine ⟨?_, by rw [h1]; omega⟩
  rw [Int32.lt_iff_toInt_lt, ofI_toInt (by omega)]
  show ¬ ((N : Int) < 0)
  omega
theorem n_push {H H1 : Heap} {locs : List Loc} {e : va_E} (hP : va_P (eD E) vwCl (mw b xs) H) (hs : H.size = b + xs.length) (o1 : ∀ q, q < b + xs.length → H1[q]? = H[q]?) (he : va_at (eD E) vwCl (b + xs.length, e) H1) : va_P (eD E) vwCl (mw b (xs ++ [e])) H1 := by
  rw [mw_sub]
  refine ⟨hP.kept (fun k x hx => o1 x.1 (by rw [← hs]; exact (hP k x hx).lt)), fun k x hx => ?_⟩
  have hz : k < 1 := (List.getElem?_eq_some_iff.mp hx).1
  rw [show k = 0 by omega] at hx
  cases hx
  exact he
theorem n_newa0 (G : GN E X own cc n) {at_ : ArrayType} {ty : FieldType} (hty : newarray.typeOf at_ = ty) (hw : Cond.arrayClass ty ∈ Tb) {A0 : ClassId} {t0 : Nat} (ht : (tyl E)[t0]? = some (A0, ty)) (hnm : ∀ U : State, va_RA U A0 ty → U.vm.findClass ("[" ++ ty.toString) = some A0) {z : Int} {N : Nat} {a0 : vp_A} (ha : ∀ cA, vp_cell cA a0 = arrV cA N (fun _ => defaultValue ty)) (hz : z = (N : Int)) (hN : N ≤ 5000) (hby : componentBytes ty ≤ 8) (hd : decode cc pc = .ok (.newarray at_, 2)) {L : Nat} (hL : xs.length = L) (hc1 : cells + 1 ≤ R.cells) (hc2 : slots + N ≤ R.slots) (kk : JN E X R Q b n (pc + 2) ls (.ref (b + L) :: st) (xs ++ [.inl (A0, a0)]) (cells + 1) (slots + N)) : JN E X R Q b n pc ls (iv z :: st) xs cells slots := by
  intro h1 h2 H locs la hP hS hl
  subst hty; subst hz; subst hL
  refine n_size h1 h2 hP hS (fun hs => ?_)
  have hb : N * componentBytes (newarray.typeOf at_) ≤ 536870912 := Nat.le_trans (Nat.mul_le_mul hN hby) (by decide)
  refine va_newaK G.1 G.2.1 (G.2.2.2.2.1 _ hw) rfl hd rfl (nt_in hN).1 (nt_in hN).2 hb hc1 hc2 hs fun H1 cA e1 z1 o1 hAr hNm => ?_
  have hc : cA = A0 := Option.some.inj (hNm.symm.trans (hnm _ (G.2.2.2.2.2.1.2 t0 _ ht).2))
  subst hc
  refine kk h1 (by rw [List.length_append, List.length_singleton]; omega) H1 locs la (n_push (locs := locs) hP hs o1 ?_) ⟨Nat.le_trans hS.1 (by omega), fun x g1 g2 => (o1 x (by have := hS.1; omega)).trans (hS.2.1 x g1 g2), hS.2.2⟩ hl
  show H1[b + xs.length]? = some (vp_cell _ _)
  rw [ha]
  exact e1
theorem aw_int : Cond.arrayClass .int ∈ Tb := Tb_mem 135 (by decide +kernel) (by decide +kernel)
theorem aw_long : Cond.arrayClass .long ∈ Tb := Tb_mem 382 (by decide +kernel) (by decide +kernel)
theorem aw_bool : Cond.arrayClass .boolean ∈ Tb := Tb_mem 1068 (by decide +kernel) (by decide +kernel)
/-- new arrays: int, long, boolean; of references -/
def aI (E : EE) (N : Nat) : va_E := .inl (eA E 20, N, .inl (fun _ => Int32.ofInt 0))
def aL (E : EE) (N : Nat) : va_E := .inl (eA E 21, N, .inr (.inl (fun _ => Int64.ofInt 0)))
def aZ (E : EE) (N : Nat) : va_E := .inl (eA E 22, N, .inl (fun _ => Int32.ofInt 0))
def aQ (E : EE) (t N : Nat) (f : Nat → Option Nat) : va_E := .inl (eA E t, N, .inr (.inr (.inr (.inr f))))
theorem n_newa (G : GN E X own cc n) {z : Int} {N : Nat} (hz : z = (N : Int)) (hN : N ≤ 5000) (hd : decode cc pc = .ok (.newarray .int, 2)) {L : Nat} (hL : xs.length = L) {xs' : List va_E} (hx : xs ++ [aI E N] = xs') {c2 s2 : Nat} (hc : cells + 1 = c2) (hs : slots + N = s2) (hc1 : c2 ≤ R.cells) (hc2 : s2 ≤ R.slots) (kk : JN E X R Q b n (pc + 2) ls (.ref (b + L) :: st) xs' c2 s2) : JN E X R Q b n pc ls (iv z :: st) xs cells slots := by
  subst hx; subst hc; subst hs
  exact n_newa0 (at_ := .int) (ty := .int) (A0 := eA E 20) G rfl aw_int (t0 := 0) rfl (fun _ h => h) (fun _ => rfl) hz hN (by decide) hd hL hc1 hc2 kk
theorem n_newaL (G : GN E X own cc n) {z : Int} {N : Nat} (hz : z = (N : Int)) (hN : N ≤ 5000) (hd : decode cc pc = .ok (.newarray .long, 2)) {L : Nat} (hL : xs.length = L) {xs' : List va_E} (hx : xs ++ [aL E N] = xs') {c2 s2 : Nat} (hc : cells + 1 = c2) (hs : slots + N = s2) (hc1 : c2 ≤ R.cells) (hc2 : s2 ≤ R.slots) (kk : JN E X R Q b n (pc + 2) ls (.ref (b + L) :: st) xs' c2 s2) : JN E X R Q b n pc ls (iv z :: st) xs cells slots := by
  subst hx; subst hc; subst hs
  exact n_newa0 (at_ := .long) (ty := .long) (A0 := eA E 21) G rfl aw_long (t0 := 1) rfl (fun _ h => h) (fun _ => rfl) hz hN (by decide) hd hL hc1 hc2 kk
theorem n_newaZ (G : GN E X own cc n) {z : Int} {N : Nat} (hz : z = (N : Int)) (hN : N ≤ 5000) (hd : decode cc pc = .ok (.newarray .boolean, 2)) {L : Nat} (hL : xs.length = L) {xs' : List va_E} (hx : xs ++ [aZ E N] = xs') {c2 s2 : Nat} (hc : cells + 1 = c2) (hs : slots + N = s2) (hc1 : c2 ≤ R.cells) (hc2 : s2 ≤ R.slots) (kk : JN E X R Q b n (pc + 2) ls (.ref (b + L) :: st) xs' c2 s2) : JN E X R Q b n pc ls (iv z :: st) xs cells slots := by
  subst hx; subst hc; subst hs
  exact n_newa0 (at_ := .boolean) (ty := .boolean) (A0 := eA E 22) G rfl aw_bool (t0 := 2) rfl (fun _ h => h) (fun _ => rfl) hz hN (by decide) hd hL hc1 hc2 kk
/-- new C: its fields' first values -/
def NO (own : String) (idx ci N : Nat) (fs : List Value) : Prop := ∃ (C : String) (T : u_T) (ty : Nat → FieldType), vwCl[ci]? = some (C, T, N) ∧ (∀ w ∈ u_ws C T N, w ∈ Tb) ∧ (∀ k, k < N → parseFieldDescriptor (T k).2.2.1 = some (ty k)) ∧ Cond.classLink own idx C ∈ Tb ∧ Cond.instantiable C N ∈ Tb ∧ Cond.initialized C ∈ Tb ∧ (∀ j, j < N → defaultValue (ty j) = vp_V fs j)
theorem n_new (G : GN E X own cc n) {idx ci N : Nat} {fs : List Value} (hO : NO own idx ci N fs) (hd : decode cc pc = .ok (.new idx, 3)) {L : Nat} (hL : xs.length = L) {xs' : List va_E} (hx : xs ++ [.inr (ci, fs)] = xs') {c2 s2 : Nat} (hc : cells + 1 = c2) (hs : slots + N = s2) (hc1 : c2 ≤ R.cells) (hc2 : s2 ≤ R.slots) (kk : JN E X R Q b n (pc + 3) ls (.ref (b + L) :: st) xs' c2 s2) : JN E X R Q b n pc ls st xs cells slots := by
  subst hx; subst hc; subst hs; subst hL
  intro h1 h2 H locs la hP hS hl
  refine n_size h1 h2 hP hS (fun hs => ?_)
  obtain ⟨C, T, ty, o1, o2, o3, o4, o5, o6, o7⟩ := hO
  have hts := G.2.2.2.2.1
  have hKn := G.2.2.2.2.2.1.1 ci _ o1
  refine W.newcK G.1 G.2.1 G.2.2.2.1 (hts _ o4) (hts _ o5) (hts _ o6) rfl hd hc1 hc2 hKn.2.1 hs fun H1 kC hkC e1 z1 q1 => ?_
  refine kk h1 (by rw [List.length_append, List.length_singleton]; omega) H1 locs la (n_push (locs := locs) hP hs q1 ?_) ⟨Nat.le_trans hS.1 (by omega), fun x g1 g2 => (q1 x (by have := hS.1; omega)).trans (hS.2.1 x g1 g2), hS.2.2⟩ hl
  exact ⟨_, o1, (u_born ty hts o2 hKn hkC e1 o3).to o7⟩
theorem n_newq (G : GN E X own cc n) {idx t t0 : Nat} {C : String} (hw : Cond.classLink own idx C ∈ Tb) (ho : Cond.arrayOver (.object C) ∈ NWL) (ht : (tyl E)[t0]? = some (eA E t, .object C)) {z : Int} {N : Nat} (hz : z = (N : Int)) (hN : N ≤ 5000) (hd : decode cc pc = .ok (.anewarray idx, 3)) {L : Nat} (hL : xs.length = L) {xs' : List va_E} (hx : xs ++ [aQ E t N (fun _ => none)] = xs') {c2 s2 : Nat} (hc : cells + 1 = c2) (hs : slots + N = s2) (hc1 : c2 ≤ R.cells) (hc2 : s2 ≤ R.slots) (kk : JN E X R Q b n (pc + 3) ls (.ref (b + L) :: st) xs' c2 s2) : JN E X R Q b n pc ls (iv z :: st) xs cells slots := by
  subst hx; subst hc; subst hs; subst hL; subst hz
  intro h1 h2 H locs la hP hS hl
  refine n_size h1 h2 hP hS (fun hs => ?_)
  refine W.anew G.1 G.2.1 G.2.2.2.1 (G.2.2.2.2.1 _ hw) (ao_vm rfl (G.2.2.2.2.2.2 _ ho)) rfl hd rfl (nt_in hN).1 (by rw [(nt_in hN).2]; omega) hc1 (by rw [(nt_in hN).2]; exact hc2) fun cA kA comp f1 f2 f3 f4 => ?_
  obtain ⟨kA2, comp2, r1, r2, r3, r4⟩ := (G.2.2.2.2.2.1.2 t0 _ ht).2
  have hcA : cA = eA E t := Option.some.inj (f1.symm.trans r4)
  rw [(nt_in hN).2]
  generalize hH1 : H.push ({ cls := cA, slots := Array.replicate N .null, vm := .none } : Cell) = H1
  have z1 : H1.size = H.size + 1 := by rw [← hH1, Array.size_push]
  have e1 : H1[H.size]? = some (arrV cA N (fun _ => .null)) := by rw [← hH1, Array.getElem?_push_size, ← arrV_new]
  have o1 : ∀ q : Nat, q < H.size → H1[q]? = H[q]? := fun q hq => by rw [← hH1, Array.getElem?_push, if_neg (Nat.ne_of_lt hq)]
  rw [hs] at e1 o1 z1
  rw [hcA] at e1
  have kk2 := kk h1 (by rw [List.length_append, List.length_singleton]; omega) H1 locs la (n_push (locs := locs) hP hs o1 e1) ⟨Nat.le_trans hS.1 (by omega), fun x g1 g2 => (o1 x (by have := hS.1; omega)).trans (hS.2.1 x g1 g2), hS.2.2⟩ hl
  rw [hs]
  exact kk2
/-- new int[N][M] -/
def mulL (E : EE) (b N M : Nat) : List va_E := aQ E 27 N (fun j => if j < N then some (b + 1 + j) else none) :: List.replicate N (aI E M)
theorem out_cell (cA : ClassId) (N h0 : Nat) : Jvm.Free.Multi.outerC cA N h0 N = vp_cell cA (N, .inr (.inr (.inr (.inr (fun j => if j < N then some (h0 + 1 + j) else none))))) := by
  obtain ⟨f1, f2, f3⟩ := Jvm.Free.Multi.outerC_facts cA N h0 N
  obtain ⟨f4, f5⟩ := Jvm.Free.Multi.outerC_plain cA N h0 N
  have f6 : (Jvm.Free.Multi.outerC cA N h0 N).slots = Array.ofFn (n := N) fun j => va_rf (if j.val < N then some (h0 + 1 + j.val) else none) := by
    apply Array.ext
    · rw [f3, Array.size_ofFn]
    · intro j g1 g2
      rw [f3] at g1
      have h1 := Jvm.Free.Multi.outerC_slot cA N h0 N j g1
      rw [if_pos g1] at h1
      have h2 := (Array.getElem?_eq_some_iff.mp h1).2
      rw [h2, Array.getElem_ofFn]
      simp [g1, va_rf]
  rw [vp_cell_q]
  unfold arrV
  cases hc : Jvm.Free.Multi.outerC cA N h0 N with
  | mk c1 c2 c3 c4 c5 =>
    rw [hc] at f1 f2 f4 f5 f6
    simp only at f1 f2 f4 f5 f6
    subst f1; subst f2; subst f4; subst f5; subst f6
    rfl
theorem n_multi (G : GN E X own cc n) {idx : Nat} (hw : Cond.classLink own idx "[[I" ∈ Tb) {y z : Int} {N M : Nat} (hy : y = (N : Int)) (hz : z = (M : Int)) (hN : N ≤ 5000) (hM : M ≤ 5000) (hd : decode cc pc = .ok (.multianewarray idx 2, 4)) {L : Nat} (hL : xs.length = L) {xs' : List va_E} (hx : xs ++ mulL E (b + L) N M = xs') {c2 s2 : Nat} (hc : cells + (1 + N) = c2) (hs : slots + (N + N * M) = s2) (hc1 : c2 ≤ R.cells) (hc2 : s2 ≤ R.slots) (kk : JN E X R Q b n (pc + 4) ls (.ref (b + L) :: st) xs' c2 s2) : JN E X R Q b n pc ls (iv z :: iv y :: st) xs cells slots := by
  subst hx; subst hc; subst hs; subst hL; subst hy; subst hz
  intro h1 h2 H locs la hP hS hl
  refine n_size h1 h2 hP hS (fun hs => ?_)
  intro T hT Xs
  have hts := G.2.2.2.2.1
  obtain ⟨vm1, cA, comp, hW, hfA, hfC, -, -, X1, step⟩ := Xs.multianewarray2F G.1 (ty := .int) G.2.2.2.1 (hts _ hw) (ao_vm rfl (G.2.2.2.2.2.2 (.arrayOver (.array .int)) (by simp [NWL]))) (hts _ aw_int) (g := F0 X.2.2.2.1 pc la (iv M :: iv N :: st)) rfl (by rw [G.2.1]; exact hd) (n := Int32.ofInt N) (k := Int32.ofInt M) rfl (nt_in hN).1 (nt_in hM).1 (by rw [(nt_in hN).2]; omega) (by rw [(nt_in hM).2]; show M * 4 ≤ _; omega) (by rw [(nt_in hM).2]; omega) (by decide) (by decide) (by rw [(nt_in hN).2]; exact hc1) (by rw [(nt_in hN).2, (nt_in hM).2]; exact hc2)
  rw [(nt_in hN).2, (nt_in hM).2] at X1 step
  have hcA : cA = eA E 27 := Option.some.inj (hfA.symm.trans (G.2.2.2.2.2.1.2 6 _ rfl).2)
  have hcI : comp = eA E 20 := Option.some.inj (hfC.symm.trans (G.2.2.2.2.2.1.2 0 _ rfl).2)
  have hTs : (T.setVm vm1).heap.size = b + xs.length := by show T.heap.size = _; rw [hT]; exact hs
  obtain ⟨g1, g2, -⟩ := Jvm.Free.Multi.fill_facts (T.setVm vm1) cA comp N M (defaultValue .int) N
  have g3 : ∀ q, q < b + xs.length → (Jvm.Free.Multi.fill (T.setVm vm1) cA comp N M (defaultValue .int) N).heap[q]? = H[q]? := fun q hq => by
    rw [Jvm.Free.Multi.fill_old (T.setVm vm1) cA comp N M (defaultValue .int) (a := q) (by rw [hTs]; exact hq) N, ← hT]
    rfl
  have g4 : ∀ j, j < N → (Jvm.Free.Multi.fill (T.setVm vm1) cA comp N M (defaultValue .int) N).heap[b + xs.length + 1 + j]? = some (Jvm.Free.Multi.innerC comp M (defaultValue .int)) := fun j hj => by
    have := Jvm.Free.Multi.fill_inner (T.setVm vm1) cA comp N M (defaultValue .int) N j hj
    rw [hTs] at this
    exact this
  rw [hTs] at g1 g2
  have hP1 : va_P (eD E) vwCl (mw b (xs ++ mulL E (b + xs.length) N M)) (Jvm.Free.Multi.fill (T.setVm vm1) cA comp N M (defaultValue .int) N).heap := by
    rw [mw_sub]
    refine ⟨hP.kept (fun k x hx => g3 x.1 (by rw [← hs]; exact (hP k x hx).lt)), fun k x hx => ?_⟩
    obtain ⟨a1, a2, a3⟩ := mw_in hx
    obtain ⟨x1, x2⟩ := x
    simp only at a1 a3
    subst a1
    match k, a3 with
    | 0, a3 =>
      cases a3
      show _ = some (vp_cell _ _)
      rw [← hcA, ← out_cell]
      exact g2
    | k + 1, a3 =>
      have hk : k < N := by
        have := a2
        unfold mulL at this
        rw [List.length_cons, List.length_replicate] at this
        omega
      have e3 : x2 = aI E M := by
        have a4 : (List.replicate N (aI E M))[k]? = some x2 := a3
        rw [List.getElem?_replicate, if_pos hk] at a4
        exact (Option.some.inj a4).symm
      subst e3
      show _ = some (vp_cell _ _)
      rw [← hcI, show b + xs.length + (k + 1) = b + xs.length + 1 + k by omega, g4 k hk]
      unfold Jvm.Free.Multi.innerC
      rw [arrV_new]
      rfl
  obtain ⟨t, w1, w2⟩ := kk h1 (by unfold mulL; rw [List.length_append, List.length_cons, List.length_replicate]; omega) _ locs la hP1 ⟨Nat.le_trans hS.1 (by omega), fun x q1 q2 => (g3 x (by have := hS.1; omega)).trans (hS.2.1 x q1 q2), hS.2.2⟩ hl _ rfl (by
    have e1 : cells + (1 + N) = cells + 1 + N := by omega
    have e2 : slots + (N + N * M) = slots + N + N * M := by omega
    rw [e1, e2]
    exact X1)
  refine ⟨t, step t ?_, w2⟩
  rw [hT, hs]
  exact w1
/-- fields: of references (final), final ints, other ints -/
def FF (own : String) (idx ci f : Nat) (r : Bool) : Prop := ∃ (C : String) (T : u_T) (N : Nat) (ty0 : Nat → FieldType), vwCl[ci]? = some (C, T, N) ∧ f < N ∧ Cond.fieldLink own idx (T f).1 (T f).2.1 (T f).2.2.1 ∈ Tb ∧ (∀ w ∈ u_ws C T N, w ∈ Tb) ∧ (∀ k, k < N → parseFieldDescriptor (T k).2.2.1 = some (ty0 k)) ∧ (∀ a, a < N → ∀ b, b < N → a ≠ b → (T a).2.1 ≠ (T b).2.1) ∧ (T f).2.2.2 = true ∧ (T f).1 = own ∧ (ty0 f).isReference = r ∧ (r = false → ty0 f = .int)
theorem fit_ref {ty : FieldType} (h : ty.isReference = true) (a : Nat) : narrow ty (.ref a) = .ref a ∧ fits ty (.ref a) = true := by
  cases ty <;> first | (cases h; done) | exact ⟨rfl, rfl⟩
theorem n_putF (G : GN E X own cc n) {idx ci f k a : Nat} {fs : List Value} (hF : FF own idx ci f true) (hin : X.2.2.2.2.2.2.1.name = "<init>") (hd : decode cc pc = .ok (.putfield idx, 3)) (hk : xs[k]? = some (.inr (ci, fs))) (hl : f < fs.length) {xs' : List va_E} (hx : xs.set k (.inr (ci, fs.set f (.ref a))) = xs') (kk : JN E X R Q b n (pc + 3) ls st xs' cells slots) : JN E X R Q b n pc ls (.ref a :: .ref (b + k) :: st) xs cells slots := by
  subst hx
  intro h1 h2 H locs la hP hS hla
  obtain ⟨C, T, N, ty0, g1, g2, g3, g4, g5, g6, g7, g8, g9, -⟩ := hF
  have hfit := fit_ref g9 a
  refine va_putF G.1 G.2.1 G.2.2.2.2.1 g4 ty0 g5 g6 G.2.2.2.1 G.2.2.2.2.2.1 hP (mw_D b xs) hS k (mw_of hk) g1 f g2 (G.2.2.2.2.1 _ g3) (fun _ z => z) g7 hin g8 (g5 f g2) hfit.1 hfit.2 hl hd (fun H1 locs1 hP1 hD1 hS1 => ?_)
  rw [mw_set] at hP1
  exact kk h1 (by rw [List.length_set]; exact h2) H1 locs1 la hP1 hS1 hla
theorem n_putFi (G : GN E X own cc n) {idx ci f k : Nat} {z : Int} {fs : List Value} (hF : FF own idx ci f false) (hin : X.2.2.2.2.2.2.1.name = "<init>") (hd : decode cc pc = .ok (.putfield idx, 3)) (hk : xs[k]? = some (.inr (ci, fs))) (hl : f < fs.length) {xs' : List va_E} (hx : xs.set k (.inr (ci, fs.set f (iv z))) = xs') (kk : JN E X R Q b n (pc + 3) ls st xs' cells slots) : JN E X R Q b n pc ls (iv z :: .ref (b + k) :: st) xs cells slots := by
  subst hx
  intro h1 h2 H locs la hP hS hla
  obtain ⟨C, T, N, ty0, g1, g2, g3, g4, g5, g6, g7, g8, -, g9⟩ := hF
  have h9 := g9 rfl
  refine va_putF (v := iv z) G.1 G.2.1 G.2.2.2.2.1 g4 ty0 g5 g6 G.2.2.2.1 G.2.2.2.2.2.1 hP (mw_D b xs) hS k (mw_of hk) g1 f g2 (G.2.2.2.2.1 _ g3) (fun _ z => z) g7 hin g8 (g5 f g2) (by rw [h9]; rfl) (by rw [h9]; rfl) hl hd (fun H1 locs1 hP1 hD1 hS1 => ?_)
  rw [mw_set] at hP1
  exact kk h1 (by rw [List.length_set]; exact h2) H1 locs1 la hP1 hS1 hla
theorem n_puti (G : GN E X own cc n) {idx ci f k : Nat} {fs : List Value} {z : Int} (hF : FP own idx ci f) (hd : decode cc pc = .ok (.putfield idx, 3)) (hk : xs[k]? = some (.inr (ci, fs))) (hl : f < fs.length) {xs' : List va_E} (hx : xs.set k (.inr (ci, fs.set f (iv z))) = xs') (kk : JN E X R Q b n (pc + 3) ls st xs' cells slots) : JN E X R Q b n pc ls (iv z :: .ref (b + k) :: st) xs cells slots := by
  subst hx
  intro h1 h2 H locs la hP hS hla
  obtain ⟨hci, C, T, N, ty0, g1, g2, g3, g4, g5, g6, g7, g8⟩ := hF
  refine va_put G.1 G.2.1 G.2.2.2.2.1 g4 ty0 g5 g6 G.2.2.2.1 G.2.2.2.2.2.1 hP (mw_D b xs) hS k (mw_of hk) g1 f g2 (G.2.2.2.2.1 _ g3) (fun _ z => z) g7 g8 rfl rfl hl hd (fun H1 locs1 hP1 hD1 hS1 => ?_)
  rw [mw_set] at hP1
  exact kk h1 (by rw [List.length_set]; exact h2) H1 locs1 la hP1 hS1 hla
theorem n_get (G : GN E X own cc n) {idx ci f k : Nat} {fs : List Value} {v : Value} (hF : FL own idx ci f) (hd : decode cc pc = .ok (.getfield idx, 3)) (hk : xs[k]? = some (.inr (ci, fs))) (hv : fs[f]? = some v) (kk : JN E X R Q b n (pc + 3) ls (v :: st) xs cells slots) : JN E X R Q b n pc ls (.ref (b + k) :: st) xs cells slots := by
  intro h1 h2 H locs la hP hS hla
  obtain ⟨hci, C, T, N, ty0, g1, g2, g3, g4, g5, g6⟩ := hF
  exact va_get G.1 G.2.1 G.2.2.2.2.1 g4 G.2.2.2.1 G.2.2.2.2.2.1 hP k (mw_of hk) g1 f g2 (G.2.2.2.2.1 _ g3) (fun _ z => z) hv hd (kk h1 h2 H locs la hP hS hla)
theorem n_iast (G : GN E X own cc n) {k N : Nat} {f : Nat → Int32} {i z : Int} (hd : decode cc pc = .ok (.iastore, 1)) (hk : xs[k]? = some (.inl (eA E 20, N, .inl f))) (hi : 0 ≤ i ∧ i < (N : Int) ∧ i < 2147483648) {xs' : List va_E} (hx : xs.set k (.inl (eA E 20, N, .inl (upd f i.toNat (Int32.ofInt z)))) = xs') (kk : JN E X R Q b n (pc + 1) ls st xs' cells slots) : JN E X R Q b n pc ls (iv z :: iv i :: .ref (b + k) :: st) xs cells slots := by
  subst hx
  intro h1 h2 H locs la hP hS hla
  obtain ⟨j1, j2⟩ := ix_in hi
  refine va_iast G.1 G.2.1 G.2.2.2.2.2.1 hP (mw_D b xs) hS k 0 (mw_of hk) rfl j1 hd (fun H1 locs1 hP1 hD1 hS1 => ?_)
  rw [mw_set, show (Int32.ofInt i).toNatClampNeg = i.toNat by omega] at hP1
  exact kk h1 (by rw [List.length_set]; exact h2) H1 locs1 la hP1 hS1 hla
theorem n_aast (G : GN E X own cc n) {k N qk t t0 ci v : Nat} {C : String} {T : u_T} {Nc : Nat} {vs : List Value} {f : Nat → Option Nat} {i : Int} (hd : decode cc pc = .ok (.aastore, 1)) (hk : xs[k]? = some (aQ E t N f)) (ht : (tyl E)[t0]? = some (eA E t, .object C)) (hc : vwCl[ci]? = some (C, T, Nc)) (hv : xs[qk]? = some (.inr (ci, vs))) (hvv : v = b + qk) (hi : 0 ≤ i ∧ i < (N : Int) ∧ i < 2147483648) {xs' : List va_E} (hx : xs.set k (aQ E t N (va_up f i.toNat (some v))) = xs') (kk : JN E X R Q b n (pc + 1) ls st xs' cells slots) : JN E X R Q b n pc ls (.ref v :: iv i :: .ref (b + k) :: st) xs cells slots := by
  subst hx; subst hvv
  intro h1 h2 H locs la hP hS hla
  obtain ⟨j1, j2⟩ := ix_in hi
  refine va_astq G.1 G.2.1 G.2.2.2.2.2.1 hP (mw_D b xs) hS k t0 qk ci (r := (C, T, Nc)) (mw_of hk) ht (mw_of hv) hc j1 hd (fun H1 locs1 hP1 hD1 hS1 => ?_)
  rw [mw_set, show (Int32.ofInt i).toNatClampNeg = i.toNat by omega] at hP1
  exact kk h1 (by rw [List.length_set]; exact h2) H1 locs1 la hP1 hS1 hla
theorem PN_blind (E : EE) (b : Nat) (as : List Value) (xs : List va_E) : FrameBlind (PN E b as xs) := by
  intro a U g mk h
  obtain ⟨h1, h2, h3, h4⟩ := h
  exact ⟨h1, h2, va_K.moved (u := U) (U := U.calling g mk a) (Vm.Alike.refl U.vm) h3, NX.same (u := U) (U := U.calling g mk a) rfl h4⟩
/-- a constructor's call -/
def MI (own : String) (idx : Nat) (y : MethodName) (na : Nat) : Prop := Cond.methodLink own idx y ∈ Tb ∧ Cond.instanceMethod y ∈ Tb ∧ Cond.initialized y.cls ∈ Tb ∧ y.name = "<init>" ∧ (y.cls ≠ "java/lang/invoke/MethodHandle" ∧ y.cls ≠ "java/lang/invoke/VarHandle") ∧ (parseMethodDescriptor y.desc).map (fun d => d.parameters.length) = some na
def MN (own : String) (idx : Nat) (y : MethodName) (na : Nat) : Prop := Cond.methodLinkNest own idx y "DotWar" ∈ NWL ∧ Cond.instanceMethod y ∈ Tb ∧ Cond.initialized y.cls ∈ Tb ∧ y.name = "<init>" ∧ (y.cls ≠ "java/lang/invoke/MethodHandle" ∧ y.cls ≠ "java/lang/invoke/VarHandle") ∧ (parseMethodDescriptor y.desc).map (fun d => d.parameters.length) = some na
theorem n_callC (G : GN E X own cc n) {idx L d2 mc2 ms2 na : Nat} {y : MethodName} {As stk : List Value} {e : va_E} {xs0 ys2 : List va_E} (hM : MI own idx y na ∨ MN own idx y na) (hd : decode cc pc = .ok (.invokespecial idx, 3)) (hc : CN E d2 mc2 ms2 y (.ref (b + L) :: As) (b + L) [e] ys2) (hx : xs = xs0 ++ [e]) (hL : xs0.length = L) (hn : As.length = na) (hst : stk = As.reverse ++ .ref (b + L) :: st) (hcat : (st.map fun v => v.category).sum ≤ 8) (hdf : d2 + 1 ≤ R.frames) (hdl : 64 * d2 + 59 ≤ R.locals) {c2 s2 : Nat} (hcc : cells + mc2 = c2) (hss : slots + ms2 = s2) (hc1 : c2 ≤ R.cells) (hc2 : s2 ≤ R.slots) {xs' : List va_E} (hx' : xs0 ++ ys2 = xs') (kk : JN E X R Q b n (pc + 3) ls st xs' c2 s2) : JN E X R Q b n pc ls stk xs cells slots := by
  subst hcc; subst hss; subst hx'; subst hx; subst hL
  intro h1 h2 H locs la hP hS hla
  refine n_size h1 h2 hP hS (fun hs => ?_)
  obtain ⟨cc2, n2, c1, c2, c3, c4⟩ := hc
  have hts := G.2.2.2.2.1
  obtain ⟨hPa, hPb⟩ := mw_sub.mp hP
  have hpre : PreS X.2.2.1 H (PN E (b + xs0.length) (.ref (b + xs0.length) :: As) [e]) (.ref (b + xs0.length) :: As) := ⟨PN_blind _ _ _ _, fun U hU hW => ⟨rfl, ⟨by rw [hU]; exact hPb, by rw [hU, hs, List.length_append, List.length_singleton]; omega⟩, va_K.moved hW.alike G.2.2.2.2.2.1, NX.warm hW G.2.2.2.2.2.2⟩⟩
  have hpay : ∀ w ∈ Cond.code y cc2 n2 none :: Tb, w ∈ Tb ∧ ((w.onTables && w.keeps) = true ∨ ∃ ty, w = .arrayClass ty) := fun w hw => by
    rcases List.mem_cons.mp hw with h | h
    · exact ⟨h ▸ c1, Tb_good (h ▸ c1)⟩
    · exact ⟨h, Tb_good h⟩
  have hlo : 8 + (n2 + 11) + 64 * d2 ≤ R.locals := by omega
  have hrun : va_Run X.1 (eL E) X.2.1 R X.2.2.1 X.2.2.2.1 X.2.2.2.2.1 X.2.2.2.2.2.1 X.2.2.2.2.2.2.1 X.2.2.2.2.2.2.2 H locs cells slots mc2 ms2 (F0 X.2.2.2.1 pc la stk) st (QN E (b + xs0.length) ys2 (Value.ref (b + xs0.length) :: As).toArray) (fun q => b + xs0.length ≤ q) := by
    rcases hM with ⟨m1, m2, m3, m4, m5, m6⟩ | ⟨m1, m2, m3, m4, m5, m6⟩
    · refine va_runI (As := As) (rest := st) (Ts := Tb) (n := na) ⟨G.1, G.2.1, G.2.2.1, G.2.2.2.1, hts⟩ c4 ⟨⟨rfl, rfl, hdf, hlo, pay_in hts hpay, List.mem_cons_self, hts _ c1, hts _ m3, m5, fun sig h => ?_, hts _ m1⟩, m4, hts _ m2⟩ hpre rfl hn hla.1 hst (lv_room hcat) hd ⟨hc1, hc2⟩
      rw [h] at m6
      exact (Option.some.inj m6).symm
    · refine va_runIN (As := As) (rest := st) (Ts := Tb) (n := na) ⟨G.1, G.2.1, G.2.2.1, G.2.2.2.1, hts⟩ c4 ⟨⟨⟨rfl, rfl, hdf, hlo, pay_in hts hpay, List.mem_cons_self⟩, hts _ c1, hts _ m3, m5, fun sig h => ?_, va_Nw.use rfl (G.2.2.2.2.2.2 _ m1)⟩, m4, hts _ m2⟩ hpre rfl hn hla.1 hst (lv_room hcat) hd ⟨hc1, hc2⟩
      rw [h] at m6
      exact (Option.some.inj m6).symm
  intro T hT Xs
  obtain ⟨v, st0, t, T', Lc, h0, X', hLc, e1, e2, ⟨⟨hv, hP1⟩, hz, hk⟩, sg⟩ := hrun T hT Xs
  cases hv
  rw [h0] at hz hk
  have hA : va_P (eD E) vwCl (mw b xs0) T'.heap := hPa.kept (fun k x hx => by
    obtain ⟨a1, a2, -⟩ := mw_in hx
    rw [e1]
    refine hk x.1 ?_ ?_
    · rw [hs, List.length_append]; omega
    · show ¬ b + xs0.length ≤ x.1
      omega)
  have hB : ∀ q : Nat, q < X.2.2.1.heap.size → ¬ b ≤ q → T'.heap[q]? = X.2.2.1.heap[q]? := fun q g1 g2 => by
    rw [e1, hk q (Nat.lt_of_lt_of_le g1 hS.1) (fun z => g2 (by have : b + xs0.length ≤ q := z; omega))]
    exact hS.2.1 q g1 g2
  have hC : ∀ q ∈ locs ++ Lc, b ≤ q.base := fun q hq => by
    rcases List.mem_append.mp hq with h | h
    · exact hS.2.2 q h
    · have : b + xs0.length ≤ q.base := hLc q h
      omega
  obtain ⟨t2, a1, b1⟩ := kk h1 (by rw [List.length_append, c3, List.length_singleton]; rw [List.length_append, List.length_singleton] at h2; omega) T'.heap (locs ++ Lc) la (mw_sub.mpr ⟨hA, by rw [e1]; exact hP1⟩) ⟨Nat.le_trans hS.1 (by rw [e1]; exact hz), hB, hC⟩ hla T' rfl X'
  exact ⟨t2, sg t2 a1, b1⟩
/-- Arrays.fill of an int[] -/
theorem n_fill (G : GN E X own cc n) {idx k N : Nat} {z : Int} (hM : MS own idx yJ7_fill_53178 2) (hd : decode cc pc = .ok (.invokestatic idx, 3)) (hk : xs[k]? = some (aI E N)) (hN : N < 5000) (hz : -2147483648 ≤ z ∧ z < 2147483648) (hcat : (st.map fun v => v.category).sum ≤ 8) (hf : 1 ≤ R.frames) (hlo : 59 ≤ R.locals) (hc1 : cells ≤ R.cells) (hc2 : slots ≤ R.slots) {xs' : List va_E} (hx : xs.set k (.inl (eA E 20, N, .inl (fun j => Int32.ofInt (if 0 ≤ (j : Int) ∧ (j : Int) < N then z else 0)))) = xs') (kk : JN E X R Q b n (pc + 3) ls st xs' cells slots) : JN E X R Q b n pc ls (iv z :: .ref (b + k) :: st) xs cells slots := by
  subst hx
  intro h1 h2 H locs la hP hS hla
  refine n_size h1 h2 hP hS (fun hs => ?_)
  have hts := G.2.2.2.2.1
  obtain ⟨m1, m2, m3, m6, m7⟩ := hM
  have hct := x_fill (E := (eL E, eD E, eA E, b + k, [(20, N, [])])) (μ := fun _ _ => 0) 0 N z hz rfl hN
  obtain ⟨cc2, n2, ret2, c1, c2, c3⟩ := hct
  have hwd : wd (eL E, eD E, eA E, b + k, [(20, N, [])]) (fun _ _ => 0) = [(b + k, aI E N)] := rfl
  have hK2 : va_K (eD E) vwCl (tyl (eL E, eD E, eA E, b + k, [(20, N, [])])) X.2.2.1 := G.2.2.2.2.2.1
  have hP0 : va_P (eD E) vwCl (wd (eL E, eD E, eA E, b + k, [(20, N, [])]) (fun _ _ => 0)) H := by
    rw [hwd]
    intro j q hq
    have hj : j < 1 := (List.getElem?_eq_some_iff.mp hq).1
    rw [show j = 0 by omega] at hq
    cases hq
    exact hP k _ (mw_of hk)
  have hrun : va_Run X.1 (eL E) X.2.1 R X.2.2.1 X.2.2.2.1 X.2.2.2.2.1 X.2.2.2.2.2.1 X.2.2.2.2.2.2.1 X.2.2.2.2.2.2.2 H locs cells slots 0 0 (F0 X.2.2.2.1 pc la (iv z :: .ref (b + k) :: st)) st (Qq (eL E, eD E, eA E, b + k, [(20, N, [])]) (rN (fil (fun _ _ => 0) 0 N z)) ([.ref (b + k), iv z] : List Value).toArray) (Reg (eL E, eD E, eA E, b + k, [(20, N, [])])) := by
    refine va_runS (As := [.ref (b + k), iv z]) (rest := st) (Ts := Tb) (n := 2) ⟨G.1, G.2.1, G.2.2.1, G.2.2.2.1, hts⟩ c3 ⟨⟨rfl, rfl, hf, ?_, pay_in hts (fun w hw => ?_), List.mem_cons_self, hts _ c1, hts _ m3, m6, fun sig h => ?_, hts _ m1⟩, hts _ m2⟩ ⟨Pp_blind _ _ _, fun U hU hW => ⟨rfl, fun a i _ => ⟨by show _ ≤ (0 : Int); omega, by show (0 : Int) < _; omega⟩, by rw [hU]; exact hP0, va_K.moved hW.alike hK2⟩⟩ rfl rfl hla.1 rfl (lv_room hcat) hd ⟨hc1, hc2⟩
    · show 8 + (n2 + 11) + 64 * 0 ≤ R.locals
      omega
    · rcases List.mem_cons.mp hw with h | h
      · exact ⟨h ▸ c1, Tb_good (h ▸ c1)⟩
      · exact ⟨h, Tb_good h⟩
    · rw [h] at m7
      exact (Option.some.inj m7).symm
  intro T hT Xs
  obtain ⟨v, st0, t, T', Lc, h0, X', hLc, e1, e2, ⟨⟨r, μ2, hv, ⟨hr, hm⟩, ho2, hP2, hK3⟩, hz2, hk2⟩, sg⟩ := hrun T hT Xs
  cases hv
  subst hr; subst hm
  rw [h0] at hz2 hk2
  have hsz : T'.heap.size = H.size := by
    have := X'.heapSize
    rw [hs]
    rw [← e1, hs] at hz2
    omega
  have hreg : ∀ q, Reg (eL E, eD E, eA E, b + k, [(20, N, [])]) q → q = b + k := fun q hq => by
    have h3 : b + k ≤ q := hq.1
    have h4 : q < b + k + 1 := hq.2
    omega
  have oq : ∀ q : Nat, q ≠ b + k → T'.heap[q]? = H[q]? := fun q hq => by
    by_cases c : q < H.size
    · rw [e1]
      exact hk2 q c (fun z => hq (hreg q z))
    · rw [Array.getElem?_eq_none (by omega), Array.getElem?_eq_none (by omega)]
  have he : va_at (eD E) vwCl (b + k, .inl (eA E 20, N, .inl (fun j => Int32.ofInt (if 0 ≤ (j : Int) ∧ (j : Int) < N then z else 0)))) T'.heap := by
    have h3 := hP2 0 _ rfl
    rw [← e1] at h3
    have h4 : ∀ j : Int, fil (fun _ _ => 0) 0 N z 0 j = if 0 ≤ j ∧ j < N then z else 0 := fun j => by
      unfold fil
      simp
    have h5 : (fun j : Nat => Int32.ofInt (fil (fun _ _ => 0) 0 N z 0 j)) = (fun j : Nat => Int32.ofInt (if 0 ≤ (j : Int) ∧ (j : Int) < N then z else 0)) := funext fun j => by rw [h4]
    have h6 : va_at (eD E) vwCl (b + k, .inl (eA E 20, N, .inl (fun j => Int32.ofInt (fil (fun _ _ => 0) 0 N z 0 j)))) T'.heap := h3
    rw [h5] at h6
    exact h6
  have hP3 := hP.set (mw_D b xs) (mw_of hk) he oq
  rw [mw_set] at hP3
  have hB : ∀ q : Nat, q < X.2.2.1.heap.size → ¬ b ≤ q → T'.heap[q]? = X.2.2.1.heap[q]? := fun q g1 g2 => by
    rw [oq q (fun z => g2 (by omega))]
    exact hS.2.1 q g1 g2
  have hC : ∀ q ∈ locs ++ Lc, b ≤ q.base := fun q hq => by
    rcases List.mem_append.mp hq with h | h
    · exact hS.2.2 q h
    · have := hreg _ (hLc q h)
      omega
  obtain ⟨t2, a1, b1⟩ := kk h1 (by rw [List.length_set]; exact h2) T'.heap (locs ++ Lc) la hP3 ⟨Nat.le_trans hS.1 (by omega), hB, hC⟩ hla T' rfl X'
  exact ⟨t2, sg t2 a1, b1⟩
end JG
/-- a constructor's body -/
theorem CN.ofJ {E : EE} {d mc ms : Nat} {y : MethodName} {as : List Value} {b : Nat} {xs ys : List va_E} {cc : ByteArray} {n : Nat} {own : String} (hy : plainName y.cls = true) (hown : y.cls = own) (hnm : y.name = "<init>") (hc : Cond.code y cc n none ∈ Tb) (hn : n ≤ 40) (hlen : ys.length = xs.length + mc) (hl : (lg_sl as).length ≤ n) (hx1 : 1 ≤ xs.length) {ls : List (Option Value)} (hls : eb as ++ List.replicate (n - (eb as).length) none = ls)
    (body : ∀ X : XX, GN E X own cc n → X.2.2.2.2.2.2.1.name = "<init>" → (∀ (pc : Nat) (ls2 : List (Option Value)), decode cc pc = .ok (.return_, 1) → JN E X (RN d mc ms) (MQ X.2.2.2.2.2.1 (QN E b ys) X.2.2.2.2.1 X.2.2.1 mc ms (fun q => b ≤ q)) b n pc ls2 [] ys mc ms) → JN E X (RN d mc ms) (MQ X.2.2.2.2.2.1 (QN E b ys) X.2.2.2.2.1 X.2.2.1 mc ms (fun q => b ≤ q)) b n 0 ls [] xs 0 0) : CN E d mc ms y as b xs ys := by
  refine ⟨cc, n, hc, hn, hlen, Met.ofW hy rfl ?_⟩
  intro p e s m args below meth c s₁ B hml hv
  obtain ⟨rfl, ⟨hP, hs⟩, hK, hX⟩ := hv
  have hts := atoms_spec (ws := Cond.code y cc n none :: Tb) B.pre
  have hr := B.returns
  have hlocks := B.notSynchronized
  have G : GN E (p, e, s, m, as.toArray, below, meth, c) own cc n := ⟨B.exec, B.bytes, hml, by rw [← hown]; exact findClass_of_methodNamed B.named, fun w h => hts w (List.mem_cons_of_mem _ h), hK, hX⟩
  have hin : meth.name = "<init>" := by rw [← hnm]; exact (name_of_methodNamed B.named B.method).1
  have h := body _ G hin (fun pc ls2 hd _ _ H locs la hP2 hS2 hl2 => W.vret G.1 G.2.1 hr (fun t ht hW => ⟨⟨rfl, by rw [ht]; exact hP2⟩, hS2.F ht⟩) hS2.2.2 hd hlocks) (by show b ≤ s.heap.size; omega) (by show b + xs.length = s.heap.size + 0; omega) s.heap [] _ hP va_S.rf (by rw [← hls]; exact lh_entry as hl)
  rw [lg_entry_eq]
  exact h
