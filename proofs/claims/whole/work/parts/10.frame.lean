/-! A world that never grows: cells at fixed places behind a base, all that changes in them are numbers. -/
def Tb : List Cond := lw_tbl.filter goodWord
theorem Tb_mem {w : Cond} (i : Nat) (h : lw_tbl[i]? = some w) (hg : goodWord w = true) : w ∈ Tb := List.mem_filter.mpr ⟨List.mem_of_getElem? h, hg⟩
theorem Tb_good {w : Cond} (h : w ∈ Tb) : (w.onTables && w.keeps) = true ∨ ∃ ty, w = .arrayClass ty := good_of_word (List.mem_filter.mp h).2
/-- a cell's kind (below 20: an object of that class; 20 int[], 21 long[], 22 boolean[], 24.. arrays of references), its size, its references -/
abbrev LayT : Type := List (Nat × Nat × List (Option Nat))
abbrev MemT : Type := Nat → Int → Int
abbrev EE : Type := Launch × va_G × (Nat → ClassId) × Nat × LayT
abbrev eL (E : EE) : Launch := E.1
abbrev eD (E : EE) : va_G := E.2.1
abbrev eA (E : EE) : Nat → ClassId := E.2.2.1
abbrev eB (E : EE) : Nat := E.2.2.2.1
abbrev eY (E : EE) : LayT := E.2.2.2.2
abbrev XX : Type := Program × Env × State × MethodId × Array Value × List Frame × Method × Code
def iv (z : Int) : Value := .int (Int32.ofInt z)
def rf (E : EE) (k : Nat) : Value := .ref (eB E + k)
def fv (E : EE) (μ : MemT) (k : Nat) (x : Option Nat × Nat) : Value := match x.1 with
  | some r => rf E r
  | none => iv (μ k x.2)
def en (E : EE) (μ : MemT) (k : Nat) (q : Nat × Nat × List (Option Nat)) : va_E :=
  if q.1 < 20 then .inr (q.1, q.2.2.zipIdx.map (fv E μ k))
  else if q.1 = 21 then .inl (eA E 21, q.2.1, .inr (.inl (fun j => Int64.ofInt (μ k j))))
  else if q.1 < 24 then .inl (eA E q.1, q.2.1, .inl (fun j => Int32.ofInt (μ k j)))
  else .inl (eA E q.1, q.2.1, .inr (.inr (.inr (.inr (fun j => (q.2.2[j]?).join.map (fun r => eB E + r))))))
def wd (E : EE) (μ : MemT) : va_W := (eY E).zipIdx.map (fun x => (eB E + x.2, en E μ x.2 x.1))
theorem wd_at (E : EE) (μ : MemT) (k : Nat) : (wd E μ)[k]? = ((eY E)[k]?).map (fun q => (eB E + k, en E μ k q)) := by
  unfold wd
  rw [List.getElem?_map, List.getElem?_zipIdx]
  cases (eY E)[k]? with
  | none => rfl
  | some q => simp
theorem wd_of {E : EE} (μ : MemT) {k : Nat} {q : Nat × Nat × List (Option Nat)} (h : (eY E)[k]? = some q) : (wd E μ)[k]? = some (eB E + k, en E μ k q) := by
  rw [wd_at, h]; rfl
def Reg (E : EE) : Nat → Prop := fun q => eB E ≤ q ∧ q < eB E + (eY E).length
theorem wd_D (E : EE) (μ : MemT) : va_D (Reg E) (wd E μ) := by
  have key : ∀ (k : Nat) (p : Nat × va_E), (wd E μ)[k]? = some p → p.1 = eB E + k ∧ k < (eY E).length := by
    intro k p h
    rw [wd_at] at h
    cases hq : (eY E)[k]? with
    | none => rw [hq] at h; cases h
    | some q => rw [hq] at h; cases h; exact ⟨rfl, (List.getElem?_eq_some_iff.mp hq).1⟩
  refine ⟨fun i j p q hi hj e => ?_, fun k q h => ?_⟩
  · have h1 := (key i p hi).1
    have h2 := (key j q hj).1
    omega
  · have h1 := key k q h
    exact ⟨by omega, by omega⟩
def tyl (E : EE) : List (ClassId × FieldType) := [(eA E 20, .int), (eA E 21, .long), (eA E 22, .boolean), (eA E 24, .object "DotWar$Code"), (eA E 25, .object "DotWar$Reader"), (eA E 26, .object "DotWar$School"), (eA E 27, .array .int)]
/-- all that isn't a long is an int -/
def Ok (E : EE) (μ : MemT) : Prop := ∀ (k : Nat) (i : Int), (∀ n rs, (eY E)[k]? ≠ some (21, n, rs)) → -2147483648 ≤ μ k i ∧ μ k i < 2147483648
def up (μ : MemT) (k : Nat) (i z : Int) : MemT := fun a j => if a = k ∧ j = i then z else μ a j
theorem up_same (μ : MemT) (k : Nat) (i z : Int) : up μ k i z k i = z := by simp [up]
theorem up_cell {μ : MemT} {k a : Nat} {i j z : Int} (h : a ≠ k) : up μ k i z a j = μ a j := by simp [up, h]
theorem up_idx {μ : MemT} {k a : Nat} {i j z : Int} (h : j ≠ i) : up μ k i z a j = μ a j := by simp [up, h]
theorem ok_up {E : EE} {μ : MemT} (h : Ok E μ) {k : Nat} {i z : Int} (hz : -2147483648 ≤ z ∧ z < 2147483648) : Ok E (up μ k i z) := by
  intro a j ha
  unfold up
  by_cases e : a = k ∧ j = i
  · rw [if_pos e]; exact hz
  · rw [if_neg e]; exact h a j ha
theorem ok_upL {E : EE} {μ : MemT} (h : Ok E μ) {k n : Nat} {rs : List (Option Nat)} {i z : Int} (hk : (eY E)[k]? = some (21, n, rs)) : Ok E (up μ k i z) := by
  intro a j ha
  unfold up
  by_cases e : a = k ∧ j = i
  · exact absurd (by rw [e.1]; exact hk) (ha n rs)
  · rw [if_neg e]; exact h a j ha
def rm (d : Nat) : Room := { frames := d, cells := 0, slots := 0, locals := 64 * d }
abbrev Pst : Type := Option Value → MemT → Prop
def Qq (E : EE) (post : Pst) : Array Value → State → Outcome → State → Prop := fun _ st oc t => (∃ (r : Option Value) (μ : MemT), oc = .returned r ∧ post r μ ∧ Ok E μ ∧ va_P (eD E) vwCl (wd E μ) t.heap ∧ va_K (eD E) vwCl (tyl E) t) ∧ va_F (Reg E) st t
def Pp (E : EE) (as : List Value) (μ : MemT) : Array Value → State → Prop := va_Pc as (fun U => Ok E μ ∧ va_P (eD E) vwCl (wd E μ) U.heap ∧ va_K (eD E) vwCl (tyl E) U)
def lh (la : Array Slot) (n : Nat) (ls : List (Option Value)) : Prop := la.size = n ∧ lv_wf la ∧ ∀ (i : Nat) (v : Value), ls[i]? = some (some v) → la[i]? = some (.val v)
def JJ (E : EE) (X : XX) (d : Nat) (post : Pst) (n pc : Nat) (ls : List (Option Value)) (st : List Value) (μ : MemT) : Prop :=
  Ok E μ → ∀ (H : Heap) (locs : List Loc) (la : Array Slot), va_P (eD E) vwCl (wd E μ) H → va_S (Reg E) X.2.2.1.heap H locs → lh la n ls →
    W X.1 (eL E) X.2.1 (rm d) X.2.2.1 X.2.2.2.1 X.2.2.2.2.1 X.2.2.2.2.2.1 X.2.2.2.2.2.2.1 X.2.2.2.2.2.2.2 H locs 0 0 (MQ X.2.2.2.2.2.1 (Qq E post) X.2.2.2.2.1 X.2.2.1 0 0 (Reg E)) (F0 X.2.2.2.1 pc la st)
def GO (E : EE) (X : XX) (own : String) (cc : ByteArray) (n : Nat) (ret : Option FieldType) : Prop :=
  X.1.tables.exec = Jvm.exec ∧ X.2.2.2.2.2.2.2.code = cc ∧ X.2.2.2.2.2.2.2.maxLocals = n ∧ X.2.2.2.2.2.2.1.sig.returnType = ret ∧ X.2.2.1.vm.findClass own = some X.2.2.2.1.cls ∧ (∀ w ∈ Tb, w.before X.2.2.2.2.1 X.2.2.1 = true) ∧ va_K (eD E) vwCl (tyl E) X.2.2.1 ∧ X.2.2.2.2.2.2.1.locks = false
def CT (E : EE) (d : Nat) (y : MethodName) (as : List Value) (μ : MemT) (post : Pst) : Prop :=
  ∃ (cc : ByteArray) (n : Nat) (ret : Option FieldType), Cond.code y cc n ret ∈ Tb ∧ n ≤ 40 ∧ Met (eL E) y (Cond.code y cc n ret :: Tb) (rm d) (Pp E as μ) (Qq E post) 0 0 (Reg E)
def eb : List Value → List (Option Value)
  | [] => []
  | v :: vs => if v.category = 2 then some v :: none :: eb vs else some v :: eb vs
theorem eb_args : ∀ (vs : List Value) (b i : Nat) (v : Value), (eb vs)[i]? = some (some v) → (b + i, v) ∈ lv_args b vs
  | [], b, i, v, h => by simp [eb] at h
  | w :: vs, b, i, v, h => by
    unfold eb at h
    unfold lv_args
    by_cases c : w.category = 2
    · rw [if_pos c] at h ⊢
      match i, h with
      | 0, h => cases h; exact List.mem_cons_self
      | 1, h => cases h
      | i + 2, h =>
        have h1 := eb_args vs (b + 2) i v h
        rw [show b + (i + 2) = b + 2 + i by omega]
        exact List.mem_cons_of_mem _ h1
    · rw [if_neg c] at h ⊢
      match i, h with
      | 0, h => cases h; exact List.mem_cons_self
      | i + 1, h =>
        have h1 := eb_args vs (b + 1) i v h
        rw [show b + (i + 1) = b + 1 + i by omega]
        exact List.mem_cons_of_mem _ h1
theorem lh_entry (vs : List Value) {n : Nat} (hn : (lg_sl vs).length ≤ n) : lh ((lg_sl vs ++ List.replicate (n - (lg_sl vs).length) Slot.unset).toArray) n (eb vs ++ List.replicate (n - (eb vs).length) none) := by
  obtain ⟨h1, h2, h3⟩ := lv_entry vs hn
  refine ⟨h1, h2, fun i v h => ?_⟩
  by_cases c : i < (eb vs).length
  · rw [List.getElem?_append_left c] at h
    have := eb_args vs 0 i v h
    rw [Nat.zero_add] at this
    exact h3 _ this
  · rw [List.getElem?_append_right (by omega)] at h
    have := List.mem_of_getElem? h
    cases List.eq_of_mem_replicate this
theorem Pp_blind (E : EE) (as : List Value) (μ : MemT) : FrameBlind (Pp E as μ) := by
  intro a U g mk h
  obtain ⟨h1, h2, h3, h4⟩ := h
  exact ⟨h1, h2, h3, va_K.moved (u := U) (U := U.calling g mk a) (Vm.Alike.refl U.vm) h4⟩
theorem CT.ofJ {E : EE} {d : Nat} {y : MethodName} {as : List Value} {μ : MemT} {post : Pst} {cc : ByteArray} {n : Nat} {ret : Option FieldType} {own : String} (hy : plainName y.cls = true) (hown : y.cls = own) (hc : Cond.code y cc n ret ∈ Tb) (hn : n ≤ 40) (hl : (lg_sl as).length ≤ n) {ls : List (Option Value)} (hls : eb as ++ List.replicate (n - (eb as).length) none = ls)
    (body : ∀ X : XX, GO E X own cc n ret → JJ E X d post n 0 ls [] μ) : CT E d y as μ post := by
  refine ⟨cc, n, ret, hc, hn, Met.ofW hy rfl ?_⟩
  intro p e s m args below meth c s₁ B hml hv
  obtain ⟨rfl, hok, hP, hK⟩ := hv
  have hts := atoms_spec (ws := Cond.code y cc n ret :: Tb) B.pre
  have G : GO E (p, e, s, m, as.toArray, below, meth, c) own cc n ret := ⟨B.exec, B.bytes, hml, B.returns, by rw [← hown]; exact findClass_of_methodNamed B.named, fun w h => hts w (List.mem_cons_of_mem _ h), hK, B.notSynchronized⟩
  have h := body _ G hok s.heap [] _ hP va_S.rf (by rw [← hls]; exact lh_entry as hl)
  rw [lg_entry_eq]
  exact h
section JR
variable {E : EE} {X : XX} {d n pc : Nat} {post : Pst} {ls : List (Option Value)} {st : List Value} {μ : MemT} {own : String} {cc : ByteArray} {ret : Option FieldType}
/-- fewer known locals -/
def le_ : List (Option Value) → List (Option Value) → Prop
  | [], _ => True
  | none :: xs, _ :: ys => le_ xs ys
  | some v :: xs, y :: ys => y = some v ∧ le_ xs ys
  | none :: xs, [] => le_ xs []
  | some _ :: _, [] => False
theorem le_at : ∀ {xs ys : List (Option Value)}, le_ xs ys → ∀ (i : Nat) (v : Value), xs[i]? = some (some v) → ys[i]? = some (some v)
  | [], _, _, i, v, h => by simp at h
  | none :: xs, y :: ys, hl, i, v, h => by
    match i, h with
    | 0, h => cases h
    | i + 1, h => exact le_at (xs := xs) (ys := ys) hl i v h
  | none :: xs, [], hl, i, v, h => by
    match i, h with
    | 0, h => cases h
    | i + 1, h => have := le_at (xs := xs) (ys := []) hl i v h; simp at this
  | some w :: xs, y :: ys, hl, i, v, h => by
    match i, h with
    | 0, h => cases h; exact congrArg some hl.1
    | i + 1, h => exact le_at (xs := xs) (ys := ys) hl.2 i v h
  | some _ :: _, [], hl, i, v, h => absurd hl id
theorem j_weak {ls' : List (Option Value)} (k : JJ E X d post n pc ls' st μ) (h : le_ ls' ls) : JJ E X d post n pc ls st μ := fun ho H locs la hP hS hl => k ho H locs la hP hS ⟨hl.1, hl.2.1, fun i v q => hl.2.2 i v (le_at h i v q)⟩
theorem j_mem {μ' : MemT} (h : μ = μ') (k : JJ E X d post n pc ls st μ') : JJ E X d post n pc ls st μ := h ▸ k
theorem j_ok (k : Ok E μ → JJ E X d post n pc ls st μ) : JJ E X d post n pc ls st μ := fun ho => k ho ho
theorem j_st {st' : List Value} (h : st = st') (k : JJ E X d post n pc ls st' μ) : JJ E X d post n pc ls st μ := h ▸ k
/-- a step that leaves the heap and the locals -/
theorem j_go {pc' : Nat} {st' : List Value} (h : ∀ (H : Heap) (locs : List Loc) (la : Array Slot) (Q : State → Prop), lh la n ls → W X.1 (eL E) X.2.1 (rm d) X.2.2.1 X.2.2.2.1 X.2.2.2.2.1 X.2.2.2.2.2.1 X.2.2.2.2.2.2.1 X.2.2.2.2.2.2.2 H locs 0 0 Q (F0 X.2.2.2.1 pc' la st') → W X.1 (eL E) X.2.1 (rm d) X.2.2.1 X.2.2.2.1 X.2.2.2.2.1 X.2.2.2.2.2.1 X.2.2.2.2.2.2.1 X.2.2.2.2.2.2.2 H locs 0 0 Q (F0 X.2.2.2.1 pc la st))
    (k : JJ E X d post n pc' ls st' μ) : JJ E X d post n pc ls st μ := fun ho H locs la hP hS hl => h H locs la _ hl (k ho H locs la hP hS hl)
theorem j_iconst (G : GO E X own cc n ret) {z : Int} (hd : decode cc pc = .ok (.iconst z, 1)) (k : JJ E X d post n (pc + 1) ls (iv z :: st) μ) : JJ E X d post n pc ls st μ := j_go (fun _ _ _ _ _ w => lv_iconst G.1 G.2.1 hd rfl w) k
theorem j_bipush (G : GO E X own cc n ret) {z : Int} (hd : decode cc pc = .ok (.bipush z, 2)) (hz : (Int8.ofInt z).toInt32 = Int32.ofInt z) (k : JJ E X d post n (pc + 2) ls (iv z :: st) μ) : JJ E X d post n pc ls st μ := j_go (fun _ _ _ _ _ w => lv_bipush G.1 G.2.1 hd hz w) k
theorem j_sipush (G : GO E X own cc n ret) {z : Int} (hd : decode cc pc = .ok (.sipush z, 3)) (hz : (Int16.ofInt z).toInt32 = Int32.ofInt z) (k : JJ E X d post n (pc + 3) ls (iv z :: st) μ) : JJ E X d post n pc ls st μ := j_go (fun _ _ _ _ _ w => lv_sipush G.1 G.2.1 hd hz w) k
theorem j_ldc (G : GO E X own cc n ret) {i : Nat} {z : Int} {v : Int32} (hw : Cond.constant own i v ∈ Tb) (hd : decode cc pc = .ok (.ldc i, 2)) (hz : Int32.ofInt z = v) (k : JJ E X d post n (pc + 2) ls (iv z :: st) μ) : JJ E X d post n pc ls st μ := by
  subst hz
  exact j_go (fun _ _ _ _ _ w => lv_ldc G.1 G.2.1 G.2.2.2.2.1 (G.2.2.2.2.2.1 _ hw) hd w) k
theorem j_ldcw (G : GO E X own cc n ret) {i : Nat} {z : Int} {v : Int32} (hw : Cond.constant own i v ∈ Tb) (hd : decode cc pc = .ok (.ldc_w i, 3)) (hz : Int32.ofInt z = v) (k : JJ E X d post n (pc + 3) ls (iv z :: st) μ) : JJ E X d post n pc ls st μ := by
  subst hz
  exact j_go (fun _ _ _ _ _ w => lv_ldcw G.1 G.2.1 G.2.2.2.2.1 (G.2.2.2.2.2.1 _ hw) hd w) k
theorem j_ldc2 (G : GO E X own cc n ret) {i : Nat} {v : Int64} (hw : Cond.constantLong own i v ∈ Tb) (hd : decode cc pc = .ok (.ldc2_w i, 3)) (k : JJ E X d post n (pc + 3) ls (.long v :: st) μ) : JJ E X d post n pc ls st μ := j_go (fun _ _ _ _ _ w => lv_ldc2 G.1 G.2.1 G.2.2.2.2.1 (G.2.2.2.2.2.1 _ hw) hd w) k
theorem j_lconst (G : GO E X own cc n ret) {z : Fin 2} (hd : decode cc pc = .ok (.lconst z, 1)) (k : JJ E X d post n (pc + 1) ls (.long (Int64.ofNat z) :: st) μ) : JJ E X d post n pc ls st μ := j_go (fun _ _ _ _ _ w => lv_lconst G.1 G.2.1 hd rfl w) k
theorem j_null (G : GO E X own cc n ret) (hd : decode cc pc = .ok (.aconst_null, 1)) (k : JJ E X d post n (pc + 1) ls (.null :: st) μ) : JJ E X d post n pc ls st μ := j_go (fun _ _ _ _ _ w => lv_null G.1 G.2.1 hd w) k
theorem j_iload_n (G : GO E X own cc n ret) {i : Fin 4} {z : Int} (hd : decode cc pc = .ok (.iload_n i, 1)) (hv : ls[(i : Nat)]? = some (some (iv z))) (k : JJ E X d post n (pc + 1) ls (iv z :: st) μ) : JJ E X d post n pc ls st μ := j_go (fun _ _ _ _ hl w => lv_iload_n G.1 G.2.1 hd rfl (hl.2.2 _ _ hv) w) k
theorem j_iload (G : GO E X own cc n ret) {i : Nat} {z : Int} (hd : decode cc pc = .ok (.iload i, 2)) (hv : ls[i]? = some (some (iv z))) (k : JJ E X d post n (pc + 2) ls (iv z :: st) μ) : JJ E X d post n pc ls st μ := j_go (fun _ _ _ _ hl w => lv_iload G.1 G.2.1 hd (hl.2.2 _ _ hv) w) k
theorem j_lload_n (G : GO E X own cc n ret) {i : Fin 4} {z : Int64} (hd : decode cc pc = .ok (.lload_n i, 1)) (hv : ls[(i : Nat)]? = some (some (.long z))) (k : JJ E X d post n (pc + 1) ls (.long z :: st) μ) : JJ E X d post n pc ls st μ := j_go (fun _ _ _ _ hl w => lv_lload_n G.1 G.2.1 hd rfl (hl.2.2 _ _ hv) w) k
theorem j_lload (G : GO E X own cc n ret) {i : Nat} {z : Int64} (hd : decode cc pc = .ok (.lload i, 2)) (hv : ls[i]? = some (some (.long z))) (k : JJ E X d post n (pc + 2) ls (.long z :: st) μ) : JJ E X d post n pc ls st μ := j_go (fun _ _ _ _ hl w => lv_lload G.1 G.2.1 hd (hl.2.2 _ _ hv) w) k
theorem j_aload_n (G : GO E X own cc n ret) {i : Fin 4} {z : Nat} (hd : decode cc pc = .ok (.aload_n i, 1)) (hv : ls[(i : Nat)]? = some (some (rf E z))) (k : JJ E X d post n (pc + 1) ls (rf E z :: st) μ) : JJ E X d post n pc ls st μ := j_go (fun _ _ _ _ hl w => lv_aload_n G.1 G.2.1 hd rfl (hl.2.2 _ _ hv) w) k
theorem j_aload (G : GO E X own cc n ret) {i : Nat} {z : Nat} (hd : decode cc pc = .ok (.aload i, 2)) (hv : ls[i]? = some (some (rf E z))) (k : JJ E X d post n (pc + 2) ls (rf E z :: st) μ) : JJ E X d post n pc ls st μ := j_go (fun _ _ _ _ hl w => lv_aload G.1 G.2.1 hd (hl.2.2 _ _ hv) w) k
theorem j_aload_nN (G : GO E X own cc n ret) {i : Fin 4} (hd : decode cc pc = .ok (.aload_n i, 1)) (hv : ls[(i : Nat)]? = some (some .null)) (k : JJ E X d post n (pc + 1) ls (.null :: st) μ) : JJ E X d post n pc ls st μ := j_go (fun _ _ _ _ hl w => lv_aload_nN G.1 G.2.1 hd rfl (hl.2.2 _ _ hv) w) k
theorem j_aloadN (G : GO E X own cc n ret) {i : Nat} (hd : decode cc pc = .ok (.aload i, 2)) (hv : ls[i]? = some (some .null)) (k : JJ E X d post n (pc + 2) ls (.null :: st) μ) : JJ E X d post n pc ls st μ := j_go (fun _ _ _ _ hl w => lv_aloadN G.1 G.2.1 hd (hl.2.2 _ _ hv) w) k
theorem j_iadd (G : GO E X own cc n ret) {x y : Int} (hd : decode cc pc = .ok (.iadd, 1)) (k : JJ E X d post n (pc + 1) ls (iv (x + y) :: st) μ) : JJ E X d post n pc ls (iv y :: iv x :: st) μ := j_go (fun _ _ _ _ _ w => lv_iadd G.1 G.2.1 hd (by rw [← Int32.ofInt_add]; exact w)) k
theorem j_isub (G : GO E X own cc n ret) {x y : Int} (hd : decode cc pc = .ok (.isub, 1)) (k : JJ E X d post n (pc + 1) ls (iv (x - y) :: st) μ) : JJ E X d post n pc ls (iv y :: iv x :: st) μ := j_go (fun _ _ _ _ _ w => lv_isub G.1 G.2.1 hd (by rw [← Int32.ofInt_sub]; exact w)) k
theorem j_imul (G : GO E X own cc n ret) {x y : Int} (hd : decode cc pc = .ok (.imul, 1)) (k : JJ E X d post n (pc + 1) ls (iv (x * y) :: st) μ) : JJ E X d post n pc ls (iv y :: iv x :: st) μ := j_go (fun _ _ _ _ _ w => lv_imul G.1 G.2.1 hd (by rw [← Int32.ofInt_mul]; exact w)) k
theorem ofI_toInt {z : Int} (h : -2147483648 ≤ z ∧ z < 2147483648) : (Int32.ofInt z).toInt = z := Int32.toInt_ofInt_of_le (by omega) (by omega)
theorem ofI_inj {x y : Int} (hx : -2147483648 ≤ x ∧ x < 2147483648) (hy : -2147483648 ≤ y ∧ y < 2147483648) : Int32.ofInt x = Int32.ofInt y ↔ x = y := ⟨fun h => by rw [← ofI_toInt hx, h, ofI_toInt hy], fun h => by rw [h]⟩
theorem ofI_lt {x y : Int} (hx : -2147483648 ≤ x ∧ x < 2147483648) (hy : -2147483648 ≤ y ∧ y < 2147483648) : Int32.ofInt x < Int32.ofInt y ↔ x < y := by rw [Int32.lt_iff_toInt_lt, ofI_toInt hx, ofI_toInt hy]
theorem ofI_le {x y : Int} (hx : -2147483648 ≤ x ∧ x < 2147483648) (hy : -2147483648 ≤ y ∧ y < 2147483648) : Int32.ofInt x ≤ Int32.ofInt y ↔ x ≤ y := by rw [Int32.le_iff_toInt_le, ofI_toInt hx, ofI_toInt hy]
theorem ofI_rng (x : Int32) : -2147483648 ≤ x.toInt ∧ x.toInt < 2147483648 := by
  have h1 := Int32.le_toInt x
  have h2 := Int32.toInt_lt x
  omega
theorem ofI_div {x y : Int} (hx : 0 ≤ x ∧ x < 2147483648) (hy : 0 < y ∧ y < 2147483648) : Int32.ofInt x / Int32.ofInt y = Int32.ofInt (x / y) := by
  apply Int32.toInt_inj.mp
  rw [Int32.toInt_div, ofI_toInt (by omega), ofI_toInt (by omega), Int.tdiv_eq_ediv_of_nonneg hx.1]
  have h1 : 0 ≤ x / y := Int.ediv_nonneg hx.1 (by omega)
  have h2 : x / y ≤ x := Int.ediv_le_self _ hx.1
  rw [ofI_toInt (by omega)]
  exact Int.bmod_eq_of_le (by omega) (by omega)
theorem j_idiv (G : GO E X own cc n ret) {x y : Int} (hd : decode cc pc = .ok (.idiv, 1)) (hx : 0 ≤ x ∧ x < 2147483648) (hy : 0 < y ∧ y < 2147483648) (k : JJ E X d post n (pc + 1) ls (iv (x / y) :: st) μ) : JJ E X d post n pc ls (iv y :: iv x :: st) μ := j_go (fun _ _ _ _ _ w => lv_idiv G.1 G.2.1 hd (fun h => by have := (ofI_inj (x := y) (y := 0) (by omega) (by omega)).mp h; omega) (by rw [ofI_div hx hy]; exact w)) k
theorem j_irem (G : GO E X own cc n ret) {x y : Int} (hd : decode cc pc = .ok (.irem, 1)) (hx : 0 ≤ x ∧ x < 2147483648) (hy : 0 < y ∧ y < 2147483648) (k : JJ E X d post n (pc + 1) ls (iv (x % y) :: st) μ) : JJ E X d post n pc ls (iv y :: iv x :: st) μ := j_go (fun _ _ _ _ _ w => lv_irem G.1 G.2.1 hd (fun h => by have := (ofI_inj (x := y) (y := 0) (by omega) (by omega)).mp h; omega) (by rw [ofI_div hx hy, ← Int32.ofInt_mul, ← Int32.ofInt_sub, show x - x / y * y = x % y by rw [Int.emod_def, Int.mul_comm]]; exact w)) k
def and32 (x y : Int) : Int := (Int32.ofInt x &&& Int32.ofInt y).toInt
def or32 (x y : Int) : Int := (Int32.ofInt x ||| Int32.ofInt y).toInt
def xor32 (x y : Int) : Int := (Int32.ofInt x ^^^ Int32.ofInt y).toInt
def shl32 (x y : Int) : Int := (Int32.ofInt x <<< (Int32.ofInt y &&& 31)).toInt
def shr32 (x y : Int) : Int := (Int32.ofInt x >>> (Int32.ofInt y &&& 31)).toInt
theorem iv_toInt (x : Int32) : iv x.toInt = .int x := by unfold iv; rw [Int32.ofInt_toInt]
theorem j_iand (G : GO E X own cc n ret) {x y : Int} (hd : decode cc pc = .ok (.iand, 1)) (k : JJ E X d post n (pc + 1) ls (iv (and32 x y) :: st) μ) : JJ E X d post n pc ls (iv y :: iv x :: st) μ := j_go (fun _ _ _ _ _ w => lv_iand G.1 G.2.1 hd (by rw [and32, iv_toInt] at w; exact w)) k
theorem j_ior (G : GO E X own cc n ret) {x y : Int} (hd : decode cc pc = .ok (.ior, 1)) (k : JJ E X d post n (pc + 1) ls (iv (or32 x y) :: st) μ) : JJ E X d post n pc ls (iv y :: iv x :: st) μ := j_go (fun _ _ _ _ _ w => lv_ior G.1 G.2.1 hd (by rw [or32, iv_toInt] at w; exact w)) k
theorem j_ixor (G : GO E X own cc n ret) {x y : Int} (hd : decode cc pc = .ok (.ixor, 1)) (k : JJ E X d post n (pc + 1) ls (iv (xor32 x y) :: st) μ) : JJ E X d post n pc ls (iv y :: iv x :: st) μ := j_go (fun _ _ _ _ _ w => lv_ixor G.1 G.2.1 hd (by rw [xor32, iv_toInt] at w; exact w)) k
theorem j_ishl (G : GO E X own cc n ret) {x y : Int} (hd : decode cc pc = .ok (.ishl, 1)) (k : JJ E X d post n (pc + 1) ls (iv (shl32 x y) :: st) μ) : JJ E X d post n pc ls (iv y :: iv x :: st) μ := j_go (fun _ _ _ _ _ w => lv_ishl G.1 G.2.1 hd (by rw [shl32, iv_toInt] at w; exact w)) k
theorem j_ishr (G : GO E X own cc n ret) {x y : Int} (hd : decode cc pc = .ok (.ishr, 1)) (k : JJ E X d post n (pc + 1) ls (iv (shr32 x y) :: st) μ) : JJ E X d post n pc ls (iv y :: iv x :: st) μ := j_go (fun _ _ _ _ _ w => lv_ishr G.1 G.2.1 hd (by rw [shr32, iv_toInt] at w; exact w)) k
theorem ofI_i2l {x : Int} (hx : -2147483648 ≤ x ∧ x < 2147483648) : (Int32.ofInt x).toInt64 = Int64.ofInt x := Int32.toInt64_ofInt (by rw [show Int32.minValue.toInt = -2147483648 from by decide]; exact hx.1) (by rw [show Int32.maxValue.toInt = 2147483647 from by decide]; omega)
theorem j_i2l (G : GO E X own cc n ret) {x : Int} (hx : -2147483648 ≤ x ∧ x < 2147483648) (hd : decode cc pc = .ok (.i2l, 1)) (k : JJ E X d post n (pc + 1) ls (.long (Int64.ofInt x) :: st) μ) : JJ E X d post n pc ls (iv x :: st) μ := j_go (fun _ _ _ _ _ w => lv_i2l G.1 G.2.1 hd (ofI_i2l hx) w) k
theorem j_dup (G : GO E X own cc n ret) {v : Value} (hd : decode cc pc = .ok (.dup, 1)) (hc : v.category = 1) (k : JJ E X d post n (pc + 1) ls (v :: v :: st) μ) : JJ E X d post n pc ls (v :: st) μ := j_go (fun _ _ _ _ _ w => lv_dup G.1 G.2.1 hd hc w) k
theorem j_pop (G : GO E X own cc n ret) {v : Value} (hd : decode cc pc = .ok (.pop, 1)) (hc : v.category = 1) (k : JJ E X d post n (pc + 1) ls st μ) : JJ E X d post n pc ls (v :: st) μ := j_go (fun _ _ _ _ _ w => lv_pop G.1 G.2.1 hd hc w) k
theorem j_dup2 (G : GO E X own cc n ret) {v w : Value} (hd : decode cc pc = .ok (.dup2, 1)) (hc : v.category = 1) (hc2 : w.category = 1) (k : JJ E X d post n (pc + 1) ls (v :: w :: v :: w :: st) μ) : JJ E X d post n pc ls (v :: w :: st) μ := j_go (fun _ _ _ _ _ q => lv_dup2_11 G.1 G.2.1 hd hc hc2 q) k
theorem j_goto (G : GO E X own cc n ret) {off : Int} {tgt : Nat} (hd : decode cc pc = .ok (.goto off, 3)) (ht : (pc : Int) + off = (tgt : Int)) (k : JJ E X d post n tgt ls st μ) : JJ E X d post n pc ls st μ := j_go (fun _ _ _ _ _ w => lv_goto G.1 G.2.1 hd ht w) k
end JR
