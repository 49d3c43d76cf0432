section JH
variable {E : EE} {X : XX} {d n pc : Nat} {post : Pst} {ls : List (Option Value)} {st : List Value} {μ : MemT} {own : String} {cc : ByteArray} {ret : Option FieldType}
theorem en_congr {E : EE} {μ μ2 : MemT} {k : Nat} (h : μ k = μ2 k) (q : Nat × Nat × List (Option Nat)) : en E μ k q = en E μ2 k q := by
  unfold en
  have h1 : fv E μ k = fv E μ2 k := by funext x; unfold fv; rw [h]
  rw [h1, h]
theorem wd_set {μ2 : MemT} {k : Nat} {q : Nat × Nat × List (Option Nat)} {en2 : va_E} (hk : (eY E)[k]? = some q) (he : en2 = en E μ2 k q) (hm : ∀ j, j ≠ k → μ2 j = μ j) : (wd E μ).set k (eB E + k, en2) = wd E μ2 := by
  apply List.ext_getElem?
  intro j
  by_cases c : j = k
  · subst c
    have hlt : j < (wd E μ).length := (List.getElem?_eq_some_iff.mp (wd_of μ hk)).1
    rw [List.getElem?_set_self hlt, wd_of μ2 hk, he]
  · rw [List.getElem?_set_ne (fun z => c z.symm), wd_at, wd_at]
    cases hq : (eY E)[j]? with
    | none => rfl
    | some q2 => rw [Option.map_some, Option.map_some, en_congr (hm j c)]
theorem up_other {k : Nat} {i z : Int} : ∀ j, j ≠ k → up μ k i z j = μ j := by
  intro j h
  funext i2
  exact up_cell h
def FL (own : String) (idx ci f : Nat) : Prop := ci < 20 ∧ ∃ (C : String) (T : u_T) (N : Nat) (ty0 : Nat → FieldType), vwCl[ci]? = some (C, T, N) ∧ f < N ∧ Cond.fieldLink own idx (T f).1 (T f).2.1 (T f).2.2.1 ∈ Tb ∧ (∀ w ∈ u_ws C T N, w ∈ Tb) ∧ (∀ k, k < N → parseFieldDescriptor (T k).2.2.1 = some (ty0 k)) ∧ (∀ a, a < N → ∀ b, b < N → a ≠ b → (T a).2.1 ≠ (T b).2.1)
def FP (own : String) (idx ci f : Nat) : Prop := ci < 20 ∧ ∃ (C : String) (T : u_T) (N : Nat) (ty0 : Nat → FieldType), vwCl[ci]? = some (C, T, N) ∧ f < N ∧ Cond.fieldLink own idx (T f).1 (T f).2.1 (T f).2.2.1 ∈ Tb ∧ (∀ w ∈ u_ws C T N, w ∈ Tb) ∧ (∀ k, k < N → parseFieldDescriptor (T k).2.2.1 = some (ty0 k)) ∧ (∀ a, a < N → ∀ b, b < N → a ≠ b → (T a).2.1 ≠ (T b).2.1) ∧ (T f).2.2.2 = false ∧ parseFieldDescriptor (T f).2.2.1 = some .int
theorem en_obj {k ci nn : Nat} {rs : List (Option Nat)} (hci : ci < 20) : en E μ k (ci, nn, rs) = .inr (ci, rs.zipIdx.map (fv E μ k)) := if_pos hci
theorem fs_at {k f : Nat} {rs : List (Option Nat)} {o : Option Nat} (hr : rs[f]? = some o) : (rs.zipIdx.map (fv E μ k))[f]? = some (fv E μ k (o, f)) := by
  rw [List.getElem?_map, List.getElem?_zipIdx, hr]
  simp
theorem j_getr (G : GO E X own cc n ret) {idx ci f k nn r : Nat} {rs : List (Option Nat)} (hF : FL own idx ci f) (hd : decode cc pc = .ok (.getfield idx, 3)) (hk : (eY E)[k]? = some (ci, nn, rs)) (hr : rs[f]? = some (some r)) (kk : JJ E X d post n (pc + 3) ls (rf E r :: st) μ) : JJ E X d post n pc ls (rf E k :: st) μ := by
  intro ho H locs la hP hS hl
  obtain ⟨hci, C, T, N, ty0, h1, h2, h3, h4, h5, h6⟩ := hF
  have hw := wd_of μ hk
  rw [en_obj hci] at hw
  exact va_get G.1 G.2.1 G.2.2.2.2.2.1 h4 G.2.2.2.2.1 G.2.2.2.2.2.2.1 hP k hw h1 f h2 (G.2.2.2.2.2.1 _ h3) (fun _ z => z) (fs_at hr) hd (kk ho H locs la hP hS hl)
theorem j_geti (G : GO E X own cc n ret) {idx ci f k nn : Nat} {rs : List (Option Nat)} (hF : FL own idx ci f) (hd : decode cc pc = .ok (.getfield idx, 3)) (fi : Int) (hfi : ((f : Nat) : Int) = fi) (hk : (eY E)[k]? = some (ci, nn, rs)) (hr : rs[f]? = some none) (kk : (-2147483648 ≤ μ k fi ∧ μ k fi < 2147483648) → JJ E X d post n (pc + 3) ls (iv (μ k fi) :: st) μ) : JJ E X d post n pc ls (rf E k :: st) μ := by
  intro ho H locs la hP hS hl
  obtain ⟨hci, C, T, N, ty0, h1, h2, h3, h4, h5, h6⟩ := hF
  subst hfi
  have hw := wd_of μ hk
  rw [en_obj hci] at hw
  have hrg := ho k f (fun a b z => by rw [hk] at z; cases z; omega)
  exact va_get G.1 G.2.1 G.2.2.2.2.2.1 h4 G.2.2.2.2.1 G.2.2.2.2.2.2.1 hP k hw h1 f h2 (G.2.2.2.2.2.1 _ h3) (fun _ z => z) (fs_at hr) hd (kk hrg ho H locs la hP hS hl)
theorem fs_set {k f : Nat} {rs : List (Option Nat)} {z : Int} (hr : rs[f]? = some none) : (rs.zipIdx.map (fv E μ k)).set f (iv z) = rs.zipIdx.map (fv E (up μ k f z) k) := by
  apply List.ext_getElem?
  intro j
  by_cases c : j = f
  · subst c
    have hlt : j < (rs.zipIdx.map (fv E μ k)).length := (List.getElem?_eq_some_iff.mp (fs_at (E := E) (μ := μ) (k := k) hr)).1
    rw [List.getElem?_set_self hlt, fs_at hr]
    unfold fv
    rw [up_same]
  · rw [List.getElem?_set_ne (fun z => c z.symm)]
    cases hq : rs[j]? with
    | none =>
      rw [List.getElem?_map, List.getElem?_zipIdx, hq, List.getElem?_map, List.getElem?_zipIdx, hq]
      rfl
    | some o =>
      rw [fs_at hq, fs_at hq]
      cases o with
      | some r => rfl
      | none =>
        unfold fv
        rw [up_idx (by omega)]
theorem j_puti (G : GO E X own cc n ret) {idx ci f k nn : Nat} {rs : List (Option Nat)} {z : Int} (hF : FP own idx ci f) (hd : decode cc pc = .ok (.putfield idx, 3)) (fi : Int) (hfi : ((f : Nat) : Int) = fi) (hk : (eY E)[k]? = some (ci, nn, rs)) (hr : rs[f]? = some none) (hz : -2147483648 ≤ z ∧ z < 2147483648) (kk : JJ E X d post n (pc + 3) ls st (up μ k fi z)) : JJ E X d post n pc ls (iv z :: rf E k :: st) μ := by
  intro ho H locs la hP hS hl
  obtain ⟨hci, C, T, N, ty0, h1, h2, h3, h4, h5, h6, h7, h8⟩ := hF
  subst hfi
  have hw := wd_of μ hk
  rw [en_obj hci] at hw
  have hlen : f < (rs.zipIdx.map (fv E μ k)).length := (List.getElem?_eq_some_iff.mp (fs_at (E := E) (μ := μ) (k := k) hr)).1
  refine va_put G.1 G.2.1 G.2.2.2.2.2.1 h4 ty0 h5 h6 G.2.2.2.2.1 G.2.2.2.2.2.2.1 hP (wd_D E μ) hS k hw h1 f h2 (G.2.2.2.2.2.1 _ h3) (fun _ z => z) h7 h8 (v := iv z) rfl rfl hlen hd (fun H1 locs1 hP1 hD1 hS1 => ?_)
  rw [fs_set hr, wd_set hk (en_obj hci).symm up_other] at hP1
  exact kk (ok_up ho hz) H1 locs1 la hP1 hS1 hl
theorem ix_in {i : Int} {nn : Nat} (hi : 0 ≤ i ∧ i < (nn : Int) ∧ i < 2147483648) : vp_in (Int32.ofInt i) nn ∧ (((Int32.ofInt i).toNatClampNeg : Nat) : Int) = i := by
  have h1 : (Int32.ofInt i).toNatClampNeg = i.toNat := Int32.toNatClampNeg_ofInt_of_le (by omega) (by omega)
  refine ⟨?_, by rw [h1]; omega⟩
  rw [vp_in_iff, ofI_toInt (by omega)]
  exact ⟨hi.1, hi.2.1⟩
theorem en_int {k nn : Nat} {rs : List (Option Nat)} : en E μ k (20, nn, rs) = .inl (eA E 20, nn, .inl (fun j => Int32.ofInt (μ k j))) := rfl
theorem en_long {k nn : Nat} {rs : List (Option Nat)} : en E μ k (21, nn, rs) = .inl (eA E 21, nn, .inr (.inl (fun j => Int64.ofInt (μ k j)))) := rfl
theorem en_bool {k nn : Nat} {rs : List (Option Nat)} : en E μ k (22, nn, rs) = .inl (eA E 22, nn, .inl (fun j => Int32.ofInt (μ k j))) := rfl
theorem j_iaload (G : GO E X own cc n ret) {k nn : Nat} {i : Int} {rs : List (Option Nat)} (hd : decode cc pc = .ok (.iaload, 1)) (hk : (eY E)[k]? = some (20, nn, rs)) (hi : 0 ≤ i ∧ i < (nn : Int) ∧ i < 2147483648) (kk : (-2147483648 ≤ μ k i ∧ μ k i < 2147483648) → JJ E X d post n (pc + 1) ls (iv (μ k i) :: st) μ) : JJ E X d post n pc ls (iv i :: rf E k :: st) μ := by
  intro ho H locs la hP hS hl
  obtain ⟨h1, h2⟩ := ix_in hi
  have hrg := ho k i (fun a b z => by rw [hk] at z; cases z)
  refine va_iald G.1 G.2.1 G.2.2.2.2.2.2.1 hP k 0 (wd_of μ hk) rfl h1 hd ?_
  rw [h2]
  exact kk hrg ho H locs la hP hS hl
theorem j_baload (G : GO E X own cc n ret) {k nn : Nat} {i : Int} {rs : List (Option Nat)} (hd : decode cc pc = .ok (.baload, 1)) (hk : (eY E)[k]? = some (22, nn, rs)) (hi : 0 ≤ i ∧ i < (nn : Int) ∧ i < 2147483648) (kk : (-2147483648 ≤ μ k i ∧ μ k i < 2147483648) → JJ E X d post n (pc + 1) ls (iv (μ k i) :: st) μ) : JJ E X d post n pc ls (iv i :: rf E k :: st) μ := by
  intro ho H locs la hP hS hl
  obtain ⟨h1, h2⟩ := ix_in hi
  have hrg := ho k i (fun a b z => by rw [hk] at z; cases z)
  refine va_zald G.1 G.2.1 G.2.2.2.2.2.2.1 hP k 2 (wd_of μ hk) rfl h1 hd ?_
  rw [h2]
  exact kk hrg ho H locs la hP hS hl
theorem j_laload (G : GO E X own cc n ret) {k nn : Nat} {i : Int} {rs : List (Option Nat)} (hd : decode cc pc = .ok (.laload, 1)) (hk : (eY E)[k]? = some (21, nn, rs)) (hi : 0 ≤ i ∧ i < (nn : Int) ∧ i < 2147483648) (kk : JJ E X d post n (pc + 1) ls (.long (Int64.ofInt (μ k i)) :: st) μ) : JJ E X d post n pc ls (iv i :: rf E k :: st) μ := by
  intro ho H locs la hP hS hl
  obtain ⟨h1, h2⟩ := ix_in hi
  refine va_lald G.1 G.2.1 G.2.2.2.2.2.2.1 hP k 1 (wd_of μ hk) rfl h1 hd ?_
  rw [h2]
  exact kk ho H locs la hP hS hl
def ao (t : Nat) : Option (Nat × FieldType) := match t with
  | 24 => some (3, .object "DotWar$Code")
  | 25 => some (4, .object "DotWar$Reader")
  | 26 => some (5, .object "DotWar$School")
  | 27 => some (6, .array .int)
  | _ => none
theorem j_aaload (G : GO E X own cc n ret) {k nn tg r : Nat} {i : Int} {rs : List (Option Nat)} (hd : decode cc pc = .ok (.aaload, 1)) (hk : (eY E)[k]? = some (tg, nn, rs)) (ht : tg = 24 ∨ tg = 25 ∨ tg = 26 ∨ tg = 27) (hi : 0 ≤ i ∧ i < (nn : Int) ∧ i < 2147483648) (hr : rs[i.toNat]? = some (some r)) (kk : JJ E X d post n (pc + 1) ls (rf E r :: st) μ) : JJ E X d post n pc ls (iv i :: rf E k :: st) μ := by
  intro ho H locs la hP hS hl
  obtain ⟨h1, h2⟩ := ix_in hi
  have h3 : (Int32.ofInt i).toNatClampNeg = i.toNat := Int32.toNatClampNeg_ofInt_of_le (by omega) (by omega)
  have hlt : (Int32.ofInt i).toNatClampNeg < nn := Nat.not_le.mp fun q => h1 (Or.inr q)
  have key : ∀ (tn : Nat) (ty : FieldType), (tyl E)[tn]? = some (eA E tg, ty) → ty.isReference = true → en E μ k (tg, nn, rs) = .inl (eA E tg, nn, .inr (.inr (.inr (.inr (fun j => (rs[j]?).join.map (fun r => eB E + r)))))) → W X.1 (eL E) X.2.1 (rm d) X.2.2.1 X.2.2.2.1 X.2.2.2.2.1 X.2.2.2.2.2.1 X.2.2.2.2.2.2.1 X.2.2.2.2.2.2.2 H locs 0 0 (MQ X.2.2.2.2.2.1 (Qq E post) X.2.2.2.2.1 X.2.2.1 0 0 (Reg E)) (F0 X.2.2.2.1 pc la (iv i :: rf E k :: st)) := by
    intro tn ty hty hrf he
    have hw := wd_of μ hk
    rw [he] at hw
    refine W.aald (v := rf E r) (ty := ty) G.1 G.2.1 (hP k _ hw) ((G.2.2.2.2.2.2.1.2 tn _ hty).1 nn (fun j => va_rf ((rs[j]?).join.map (fun r => eB E + r)))) hrf (fun q => by cases q) (by show ¬ (_ < 0 ∨ (arrV _ _ _).slots.size ≤ _); rw [arrV_size]; exact h1) (by show (arrV _ _ _).slots[_]? = _; rw [arrV_read _ _ hlt, h3]; show some (va_rf (Option.map (fun r => eB E + r) (rs[i.toNat]?).join)) = _; rw [hr]; rfl) rfl rfl hd ?_
    exact kk ho H locs la hP hS hl
  rcases ht with h | h | h | h <;> subst h
  · exact key 3 _ rfl rfl rfl
  · exact key 4 _ rfl rfl rfl
  · exact key 5 _ rfl rfl rfl
  · exact key 6 _ rfl rfl rfl
theorem j_alen (G : GO E X own cc n ret) {k nn : Nat} {rs : List (Option Nat)} (hd : decode cc pc = .ok (.arraylength, 1)) (hk : (eY E)[k]? = some (20, nn, rs)) (kk : JJ E X d post n (pc + 1) ls (iv nn :: st) μ) : JJ E X d post n pc ls (rf E k :: st) μ := by
  intro ho H locs la hP hS hl
  exact va_alen G.1 G.2.1 G.2.2.2.2.2.2.1 hP k 0 (wd_of μ hk) rfl (v := Int32.ofInt nn) (Int32.ofInt_eq_ofNat).symm hd (kk ho H locs la hP hS hl)
theorem j_iastore (G : GO E X own cc n ret) {k nn : Nat} {i z : Int} {rs : List (Option Nat)} (hd : decode cc pc = .ok (.iastore, 1)) (hk : (eY E)[k]? = some (20, nn, rs)) (hi : 0 ≤ i ∧ i < (nn : Int) ∧ i < 2147483648) (hz : -2147483648 ≤ z ∧ z < 2147483648) (kk : JJ E X d post n (pc + 1) ls st (up μ k i z)) : JJ E X d post n pc ls (iv z :: iv i :: rf E k :: st) μ := by
  intro ho H locs la hP hS hl
  obtain ⟨h1, h2⟩ := ix_in hi
  refine va_iast G.1 G.2.1 G.2.2.2.2.2.2.1 hP (wd_D E μ) hS k 0 (wd_of μ hk) rfl h1 hd (fun H1 locs1 hP1 hD1 hS1 => ?_)
  rw [wd_set (μ2 := up μ k i z) hk ?_ up_other] at hP1
  · exact kk (ok_up ho hz) H1 locs1 la hP1 hS1 hl
  · rw [en_int]
    refine congrArg (fun f => (Sum.inl (eA E 20, nn, Sum.inl f) : va_E)) (funext fun j => ?_)
    unfold upd
    by_cases c : j = (Int32.ofInt i).toNatClampNeg
    · rw [if_pos c, c, h2, up_same]
    · rw [if_neg c, up_idx (by omega)]
theorem j_bastore (G : GO E X own cc n ret) {k nn : Nat} {i z : Int} {rs : List (Option Nat)} (hd : decode cc pc = .ok (.bastore, 1)) (hk : (eY E)[k]? = some (22, nn, rs)) (hi : 0 ≤ i ∧ i < (nn : Int) ∧ i < 2147483648) (hz : z = 0 ∨ z = 1) (kk : JJ E X d post n (pc + 1) ls st (up μ k i z)) : JJ E X d post n pc ls (iv z :: iv i :: rf E k :: st) μ := by
  intro ho H locs la hP hS hl
  obtain ⟨h1, h2⟩ := ix_in hi
  have hnar : vp_nar .boolean (Int32.ofInt z) = Int32.ofInt z := by rcases hz with h | h <;> subst h <;> decide
  refine va_zast G.1 G.2.1 G.2.2.2.2.2.2.1 hP (wd_D E μ) hS k 2 (wd_of μ hk) rfl h1 hd (fun H1 locs1 hP1 hD1 hS1 => ?_)
  rw [wd_set (μ2 := up μ k i z) hk ?_ up_other] at hP1
  · exact kk (ok_up ho (by omega)) H1 locs1 la hP1 hS1 hl
  · rw [en_bool]
    refine congrArg (fun f => (Sum.inl (eA E 22, nn, Sum.inl f) : va_E)) (funext fun j => ?_)
    unfold upd
    by_cases c : j = (Int32.ofInt i).toNatClampNeg
    · rw [if_pos c, c, h2, up_same, hnar]
    · rw [if_neg c, up_idx (by omega)]
theorem j_lastore (G : GO E X own cc n ret) {k nn : Nat} {i : Int} {z : Int64} {rs : List (Option Nat)} (hd : decode cc pc = .ok (.lastore, 1)) (hk : (eY E)[k]? = some (21, nn, rs)) (hi : 0 ≤ i ∧ i < (nn : Int) ∧ i < 2147483648) (kk : JJ E X d post n (pc + 1) ls st (up μ k i z.toInt)) : JJ E X d post n pc ls (.long z :: iv i :: rf E k :: st) μ := by
  intro ho H locs la hP hS hl
  obtain ⟨h1, h2⟩ := ix_in hi
  refine va_last G.1 G.2.1 G.2.2.2.2.2.2.1 hP (wd_D E μ) hS k 1 (wd_of μ hk) rfl h1 hd (fun H1 locs1 hP1 hD1 hS1 => ?_)
  rw [wd_set (μ2 := up μ k i z.toInt) hk ?_ up_other] at hP1
  · exact kk (ok_upL ho hk) H1 locs1 la hP1 hS1 hl
  · rw [en_long]
    refine congrArg (fun f => (Sum.inl (eA E 21, nn, Sum.inr (Sum.inl f)) : va_E)) (funext fun j => ?_)
    unfold vp_updL
    by_cases c : j = (Int32.ofInt i).toNatClampNeg
    · rw [if_pos c, c, h2, up_same, Int64.ofInt_toInt]
    · rw [if_neg c, up_idx (by omega)]
/-- the ends of a method -/
theorem qq_of (G : GO E X own cc n ret) {r : Option Value} {H : Heap} {locs : List Loc} (hp : post r μ) (ho : Ok E μ) (hP : va_P (eD E) vwCl (wd E μ) H) (hS : va_S (Reg E) X.2.2.1.heap H locs) : ∀ t : State, t.heap = H → X.2.2.1.WarmedH t.vm → Qq E post X.2.2.2.2.1 X.2.2.1 (.returned r) t := fun t ht hW => ⟨⟨r, μ, rfl, hp, ho, by rw [ht]; exact hP, va_K.moved hW.alike G.2.2.2.2.2.2.1⟩, hS.F ht⟩
theorem j_ireturn (G : GO E X own cc n (some .int)) {z : Int} (hd : decode cc pc = .ok (.ireturn, 1)) (hp : post (some (iv z)) μ) : JJ E X d post n pc ls [iv z] μ := fun ho H locs la hP hS hl => W.iret G.1 G.2.1 G.2.2.2.1 (qq_of G hp ho hP hS) hS.2.2 hd G.2.2.2.2.2.2.2
theorem j_zreturn (G : GO E X own cc n (some .boolean)) {z : Int} (hd : decode cc pc = .ok (.ireturn, 1)) (hz : z = 0 ∨ z = 1) (hp : post (some (iv z)) μ) : JJ E X d post n pc ls [iv z] μ := fun ho H locs la hP hS hl => W.zret G.1 G.2.1 G.2.2.2.1 (by rcases hz with h | h <;> subst h <;> decide) (qq_of G hp ho hP hS) hS.2.2 hd G.2.2.2.2.2.2.2
theorem j_lreturn (G : GO E X own cc n (some .long)) {z : Int64} (hd : decode cc pc = .ok (.lreturn, 1)) (hp : post (some (.long z)) μ) : JJ E X d post n pc ls [.long z] μ := fun ho H locs la hP hS hl => W.lret G.1 G.2.1 G.2.2.2.1 (qq_of G hp ho hP hS) hS.2.2 hd G.2.2.2.2.2.2.2
theorem j_return (G : GO E X own cc n none) (hd : decode cc pc = .ok (.return_, 1)) (hp : post none μ) : JJ E X d post n pc ls [] μ := fun ho H locs la hP hS hl => W.vret G.1 G.2.1 G.2.2.2.1 (qq_of G hp ho hP hS) hS.2.2 hd G.2.2.2.2.2.2.2
theorem j_areturn {C : String} (G : GO E X own cc n (some (.object C))) {k : Nat} (hd : decode cc pc = .ok (.areturn, 1)) (hp : post (some (rf E k)) μ) : JJ E X d post n pc ls [rf E k] μ := fun ho H locs la hP hS hl => W.aret G.1 G.2.1 G.2.2.2.1 (Or.inl ⟨_, rfl⟩) (Or.inr ⟨_, rfl⟩) (qq_of G hp ho hP hS) hS.2.2 hd G.2.2.2.2.2.2.2
theorem j_areturnN {C : String} (G : GO E X own cc n (some (.object C))) (hd : decode cc pc = .ok (.areturn, 1)) (hp : post (some .null) μ) : JJ E X d post n pc ls [.null] μ := fun ho H locs la hP hS hl => W.aret G.1 G.2.1 G.2.2.2.1 (Or.inl ⟨_, rfl⟩) (Or.inl rfl) (qq_of G hp ho hP hS) hS.2.2 hd G.2.2.2.2.2.2.2
/-- calls -/
def MV (own : String) (idx : Nat) (C : String) (y : MethodName) (na : Nat) : Prop := Cond.methodLink own idx y ∈ Tb ∧ Cond.instanceMethod y ∈ Tb ∧ Cond.selects C y y ∈ Tb ∧ Cond.initialized C ∈ Tb ∧ y.cls = C ∧ (y.cls ≠ "java/lang/invoke/MethodHandle" ∧ y.cls ≠ "java/lang/invoke/VarHandle") ∧ (parseMethodDescriptor y.desc).map (fun d => d.parameters.length) = some na
def MS (own : String) (idx : Nat) (y : MethodName) (na : Nat) : Prop := Cond.methodLink own idx y ∈ Tb ∧ Cond.static y ∈ Tb ∧ Cond.initialized y.cls ∈ Tb ∧ (y.cls ≠ "java/lang/invoke/MethodHandle" ∧ y.cls ≠ "java/lang/invoke/VarHandle") ∧ (parseMethodDescriptor y.desc).map (fun d => d.parameters.length) = some na
theorem j_run {d2 : Nat} {As stk : List Value} {H : Heap} {locs : List Loc} {la : Array Slot} {Pq : Pst} {a : Array Value} {g : JFrame} (hg : g = F0 X.2.2.2.1 pc la stk) (hr : va_Run X.1 (eL E) X.2.1 (rm d) X.2.2.1 X.2.2.2.1 X.2.2.2.2.1 X.2.2.2.2.2.1 X.2.2.2.2.2.2.1 X.2.2.2.2.2.2.2 H locs 0 0 0 0 g st (Qq E Pq a) (Reg E)) (hS : va_S (Reg E) X.2.2.1.heap H locs) (hl : lh la n ls) (kk : ∀ r μ2, Pq r μ2 → JJ E X d post n (pc + 3) ls (r.toList ++ st) μ2) :
    W X.1 (eL E) X.2.1 (rm d) X.2.2.1 X.2.2.2.1 X.2.2.2.2.1 X.2.2.2.2.2.1 X.2.2.2.2.2.2.1 X.2.2.2.2.2.2.2 H locs 0 0 (MQ X.2.2.2.2.2.1 (Qq E post) X.2.2.2.2.1 X.2.2.1 0 0 (Reg E)) (F0 X.2.2.2.1 pc la stk) := by
  subst hg
  intro T hT Xs
  obtain ⟨v, st₀, t, T', L, h0, X', hL, e1, e2, ⟨⟨r, μ2, hv, hp, ho2, hP2, hK2⟩, hz, hk⟩, sg⟩ := hr T hT Xs
  cases hv
  rw [h0] at hz hk
  have hS2 : va_S (Reg E) X.2.2.1.heap T'.heap (locs ++ L) := ⟨Nat.le_trans hS.1 (by rw [e1]; exact hz), fun q h1 h2 => by rw [e1, hk q (Nat.lt_of_lt_of_le h1 hS.1) h2]; exact hS.2.1 q h1 h2, fun q hq => by
    rcases List.mem_append.mp hq with h | h
    · exact hS.2.2 q h
    · exact hL q h⟩
  obtain ⟨t2, a1, b1⟩ := kk v μ2 hp ho2 T'.heap (locs ++ L) la (by rw [e1]; exact hP2) hS2 hl T' rfl X'
  exact ⟨t2, sg t2 a1, b1⟩
theorem j_callV (G : GO E X own cc n ret) {idx k ci nn na d2 : Nat} {rs : List (Option Nat)} {C : String} {T : u_T} {N : Nat} {y : MethodName} {As stk : List Value} {Pq : Pst} (hM : MV own idx C y na) (hd : decode cc pc = .ok (.invokevirtual idx, 3)) (hc : CT E d2 y (rf E k :: As) μ Pq) (hk : (eY E)[k]? = some (ci, nn, rs)) (hci : ci < 20) (hv : vwCl[ci]? = some (C, T, N)) (hn : As.length = na) (hst : stk = As.reverse ++ rf E k :: st) (hcat : (st.map fun v => v.category).sum ≤ 8) (hdd : d2 < d) (kk : ∀ r μ2, Pq r μ2 → JJ E X d post n (pc + 3) ls (r.toList ++ st) μ2) : JJ E X d post n pc ls stk μ := by
  intro ho H locs la hP hS hl
  obtain ⟨m1, m2, m3, m4, m5, m6, m7⟩ := hM
  obtain ⟨cc2, n2, ret2, c1, c2, c3⟩ := hc
  have hw := wd_of μ hk
  rw [en_obj hci] at hw
  have hts := G.2.2.2.2.2.1
  refine j_run (d2 := d2) (As := As) rfl (va_runV (As := As) (rest := st) (Ts := Tb) (C := C) (b := eB E + k) (n := na) ⟨G.1, G.2.1, G.2.2.1, G.2.2.2.2.1, hts⟩ c3 ⟨⟨rfl, rfl, ?_, ?_, pay_in hts (fun w hw => ?_), List.mem_cons_self, hts _ c1, hts _ (by rw [m5]; exact m4), m6, fun sig h => ?_, hts _ m1⟩, hts _ m2, hts _ m3⟩ ⟨Pp_blind _ _ _, va_recv G.2.2.2.2.2.2.1 hP hv hw, fun U hU hW => ⟨rfl, ho, by rw [hU]; exact hP, va_K.moved hW.alike G.2.2.2.2.2.2.1⟩⟩ rfl hn hl.1 hst (lv_room hcat) hd ⟨Nat.zero_le _, Nat.zero_le _⟩) hS hl kk
  · show d2 + 1 ≤ d
    omega
  · show 8 + (n2 + 11) + 64 * d2 ≤ 64 * d
    omega
  · rcases List.mem_cons.mp hw with h | h
    · exact ⟨h ▸ c1, Tb_good (h ▸ c1)⟩
    · exact ⟨h, Tb_good h⟩
  · rw [h] at m7
    exact (Option.some.inj m7).symm
theorem j_callS (G : GO E X own cc n ret) {idx na d2 : Nat} {y : MethodName} {As stk : List Value} {Pq : Pst} (hM : MS own idx y na) (hd : decode cc pc = .ok (.invokestatic idx, 3)) (hc : CT E d2 y As μ Pq) (hn : As.length = na) (hst : stk = As.reverse ++ st) (hcat : (st.map fun v => v.category).sum ≤ 8) (hdd : d2 < d) (kk : ∀ r μ2, Pq r μ2 → JJ E X d post n (pc + 3) ls (r.toList ++ st) μ2) : JJ E X d post n pc ls stk μ := by
  intro ho H locs la hP hS hl
  obtain ⟨m1, m2, m3, m6, m7⟩ := hM
  obtain ⟨cc2, n2, ret2, c1, c2, c3⟩ := hc
  have hts := G.2.2.2.2.2.1
  refine j_run (d2 := d2) (As := As) rfl (va_runS (As := As) (rest := st) (Ts := Tb) (n := na) ⟨G.1, G.2.1, G.2.2.1, G.2.2.2.2.1, hts⟩ c3 ⟨⟨rfl, rfl, ?_, ?_, pay_in hts (fun w hw => ?_), List.mem_cons_self, hts _ c1, hts _ m3, m6, fun sig h => ?_, hts _ m1⟩, hts _ m2⟩ ⟨Pp_blind _ _ _, fun U hU hW => ⟨rfl, ho, by rw [hU]; exact hP, va_K.moved hW.alike G.2.2.2.2.2.2.1⟩⟩ rfl hn hl.1 hst (lv_room hcat) hd ⟨Nat.zero_le _, Nat.zero_le _⟩) hS hl kk
  · show d2 + 1 ≤ d
    omega
  · show 8 + (n2 + 11) + 64 * d2 ≤ 64 * d
    omega
  · rcases List.mem_cons.mp hw with h | h
    · exact ⟨h ▸ c1, Tb_good (h ▸ c1)⟩
    · exact ⟨h, Tb_good h⟩
  · rw [h] at m7
    exact (Option.some.inj m7).symm
/-- a contract's end: this value, that memory -/
def rI (z : Int) (μ0 : MemT) : Pst := fun r μ2 => r = some (iv z) ∧ μ2 = μ0
def rV (v : Value) (μ0 : MemT) : Pst := fun r μ2 => r = some v ∧ μ2 = μ0
def rN (μ0 : MemT) : Pst := fun r μ2 => r = none ∧ μ2 = μ0
/-- a number that the rest says something of -/
def rP (Pr : Int → MemT → Prop) : Pst := fun r μ2 => ∃ z, r = some (iv z) ∧ Pr z μ2
def rM (Pr : MemT → Prop) : Pst := fun r μ2 => r = none ∧ Pr μ2
theorem kI {z : Int} {μ0 : MemT} (kk : JJ E X d post n pc ls (iv z :: st) μ0) : ∀ r μ2, rI z μ0 r μ2 → JJ E X d post n pc ls (r.toList ++ st) μ2 := fun r μ2 h => by
  obtain ⟨h1, h2⟩ := h
  subst h1; subst h2
  exact kk
theorem kV {v : Value} {μ0 : MemT} (kk : JJ E X d post n pc ls (v :: st) μ0) : ∀ r μ2, rV v μ0 r μ2 → JJ E X d post n pc ls (r.toList ++ st) μ2 := fun r μ2 h => by
  obtain ⟨h1, h2⟩ := h
  subst h1; subst h2
  exact kk
theorem kN {μ0 : MemT} (kk : JJ E X d post n pc ls st μ0) : ∀ r μ2, rN μ0 r μ2 → JJ E X d post n pc ls (r.toList ++ st) μ2 := fun r μ2 h => by
  obtain ⟨h1, h2⟩ := h
  subst h1; subst h2
  exact kk
theorem kP {Pr : Int → MemT → Prop} (kk : ∀ z μ2, Pr z μ2 → JJ E X d post n pc ls (iv z :: st) μ2) : ∀ r μ2, rP Pr r μ2 → JJ E X d post n pc ls (r.toList ++ st) μ2 := fun r μ2 h => by
  obtain ⟨z, h1, h2⟩ := h
  subst h1
  exact kk z μ2 h2
theorem kM {Pr : MemT → Prop} (kk : ∀ μ2, Pr μ2 → JJ E X d post n pc ls st μ2) : ∀ r μ2, rM Pr r μ2 → JJ E X d post n pc ls (r.toList ++ st) μ2 := fun r μ2 h => by
  obtain ⟨h1, h2⟩ := h
  subst h1
  exact kk μ2 h2
end JH
