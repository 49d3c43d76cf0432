section JS
variable {E : EE} {X : XX} {d n pc : Nat} {post : Pst} {ls : List (Option Value)} {st : List Value} {μ : MemT} {own : String} {cc : ByteArray} {ret : Option FieldType}
theorem j_icmp_lt (G : GO E X own cc n ret) {x y off : Int} {tgt : Nat} (hd : decode cc pc = .ok (.if_icmp .lt off, 3)) (ht : (pc : Int) + off = (tgt : Int)) (hx : -2147483648 ≤ x ∧ x < 2147483648) (hy : -2147483648 ≤ y ∧ y < 2147483648) (kt : x < y → JJ E X d post n tgt ls st μ) (kf : y ≤ x → JJ E X d post n (pc + 3) ls st μ) : JJ E X d post n pc ls (iv y :: iv x :: st) μ := by
  intro ho H locs la hP hS hl
  have kt2 := fun q => kt q ho H locs la hP hS hl
  have kf2 := fun q => kf q ho H locs la hP hS hl
  clear kt kf
  generalize MQ X.2.2.2.2.2.1 (Qq E post) X.2.2.2.2.1 X.2.2.1 0 0 (Reg E) = Q at kt2 kf2 ⊢
  have kt := kt2
  have kf := kf2
  exact lv_icmp_lt G.1 G.2.1 hd ht (fun q => kt ((ofI_lt hx hy).mp q)) (fun q => kf (Int.not_lt.mp (fun e => q ((ofI_lt hx hy).mpr e))))
theorem j_if_lt (G : GO E X own cc n ret) {x off : Int} {tgt : Nat} (hd : decode cc pc = .ok (.ifCond .lt off, 3)) (ht : (pc : Int) + off = (tgt : Int)) (hx : -2147483648 ≤ x ∧ x < 2147483648) (kt : x < 0 → JJ E X d post n tgt ls st μ) (kf : 0 ≤ x → JJ E X d post n (pc + 3) ls st μ) : JJ E X d post n pc ls (iv x :: st) μ := by
  intro ho H locs la hP hS hl
  have hy : -2147483648 ≤ (0 : Int) ∧ (0 : Int) < 2147483648 := by decide
  have kt2 := fun q => kt q ho H locs la hP hS hl
  have kf2 := fun q => kf q ho H locs la hP hS hl
  clear kt kf
  generalize MQ X.2.2.2.2.2.1 (Qq E post) X.2.2.2.2.1 X.2.2.1 0 0 (Reg E) = Q at kt2 kf2 ⊢
  have kt := kt2
  have kf := kf2
  exact lv_if_lt G.1 G.2.1 hd ht (fun q => kt ((ofI_lt hx hy).mp q)) (fun q => kf (Int.not_lt.mp (fun e => q ((ofI_lt hx hy).mpr e))))
theorem j_icmp_ge (G : GO E X own cc n ret) {x y off : Int} {tgt : Nat} (hd : decode cc pc = .ok (.if_icmp .ge off, 3)) (ht : (pc : Int) + off = (tgt : Int)) (hx : -2147483648 ≤ x ∧ x < 2147483648) (hy : -2147483648 ≤ y ∧ y < 2147483648) (kt : y ≤ x → JJ E X d post n tgt ls st μ) (kf : x < y → JJ E X d post n (pc + 3) ls st μ) : JJ E X d post n pc ls (iv y :: iv x :: st) μ := by
  intro ho H locs la hP hS hl
  have kt2 := fun q => kt q ho H locs la hP hS hl
  have kf2 := fun q => kf q ho H locs la hP hS hl
  clear kt kf
  generalize MQ X.2.2.2.2.2.1 (Qq E post) X.2.2.2.2.1 X.2.2.1 0 0 (Reg E) = Q at kt2 kf2 ⊢
  have kt := kt2
  have kf := kf2
  exact lv_icmp_ge G.1 G.2.1 hd ht (fun q => kt ((ofI_le hy hx).mp q)) (fun q => kf (Int.not_le.mp (fun e => q ((ofI_le hy hx).mpr e))))
theorem j_if_ge (G : GO E X own cc n ret) {x off : Int} {tgt : Nat} (hd : decode cc pc = .ok (.ifCond .ge off, 3)) (ht : (pc : Int) + off = (tgt : Int)) (hx : -2147483648 ≤ x ∧ x < 2147483648) (kt : 0 ≤ x → JJ E X d post n tgt ls st μ) (kf : x < 0 → JJ E X d post n (pc + 3) ls st μ) : JJ E X d post n pc ls (iv x :: st) μ := by
  intro ho H locs la hP hS hl
  have hy : -2147483648 ≤ (0 : Int) ∧ (0 : Int) < 2147483648 := by decide
  have kt2 := fun q => kt q ho H locs la hP hS hl
  have kf2 := fun q => kf q ho H locs la hP hS hl
  clear kt kf
  generalize MQ X.2.2.2.2.2.1 (Qq E post) X.2.2.2.2.1 X.2.2.1 0 0 (Reg E) = Q at kt2 kf2 ⊢
  have kt := kt2
  have kf := kf2
  exact lv_if_ge G.1 G.2.1 hd ht (fun q => kt ((ofI_le hy hx).mp q)) (fun q => kf (Int.not_le.mp (fun e => q ((ofI_le hy hx).mpr e))))
theorem j_icmp_gt (G : GO E X own cc n ret) {x y off : Int} {tgt : Nat} (hd : decode cc pc = .ok (.if_icmp .gt off, 3)) (ht : (pc : Int) + off = (tgt : Int)) (hx : -2147483648 ≤ x ∧ x < 2147483648) (hy : -2147483648 ≤ y ∧ y < 2147483648) (kt : y < x → JJ E X d post n tgt ls st μ) (kf : x ≤ y → JJ E X d post n (pc + 3) ls st μ) : JJ E X d post n pc ls (iv y :: iv x :: st) μ := by
  intro ho H locs la hP hS hl
  have kt2 := fun q => kt q ho H locs la hP hS hl
  have kf2 := fun q => kf q ho H locs la hP hS hl
  clear kt kf
  generalize MQ X.2.2.2.2.2.1 (Qq E post) X.2.2.2.2.1 X.2.2.1 0 0 (Reg E) = Q at kt2 kf2 ⊢
  have kt := kt2
  have kf := kf2
  exact lv_icmp_gt G.1 G.2.1 hd ht (fun q => kt ((ofI_lt hy hx).mp q)) (fun q => kf (Int.not_lt.mp (fun e => q ((ofI_lt hy hx).mpr e))))
theorem j_if_gt (G : GO E X own cc n ret) {x off : Int} {tgt : Nat} (hd : decode cc pc = .ok (.ifCond .gt off, 3)) (ht : (pc : Int) + off = (tgt : Int)) (hx : -2147483648 ≤ x ∧ x < 2147483648) (kt : 0 < x → JJ E X d post n tgt ls st μ) (kf : x ≤ 0 → JJ E X d post n (pc + 3) ls st μ) : JJ E X d post n pc ls (iv x :: st) μ := by
  intro ho H locs la hP hS hl
  have hy : -2147483648 ≤ (0 : Int) ∧ (0 : Int) < 2147483648 := by decide
  have kt2 := fun q => kt q ho H locs la hP hS hl
  have kf2 := fun q => kf q ho H locs la hP hS hl
  clear kt kf
  generalize MQ X.2.2.2.2.2.1 (Qq E post) X.2.2.2.2.1 X.2.2.1 0 0 (Reg E) = Q at kt2 kf2 ⊢
  have kt := kt2
  have kf := kf2
  exact lv_if_gt G.1 G.2.1 hd ht (fun q => kt ((ofI_lt hy hx).mp q)) (fun q => kf (Int.not_lt.mp (fun e => q ((ofI_lt hy hx).mpr e))))
theorem j_icmp_le (G : GO E X own cc n ret) {x y off : Int} {tgt : Nat} (hd : decode cc pc = .ok (.if_icmp .le off, 3)) (ht : (pc : Int) + off = (tgt : Int)) (hx : -2147483648 ≤ x ∧ x < 2147483648) (hy : -2147483648 ≤ y ∧ y < 2147483648) (kt : x ≤ y → JJ E X d post n tgt ls st μ) (kf : y < x → JJ E X d post n (pc + 3) ls st μ) : JJ E X d post n pc ls (iv y :: iv x :: st) μ := by
  intro ho H locs la hP hS hl
  have kt2 := fun q => kt q ho H locs la hP hS hl
  have kf2 := fun q => kf q ho H locs la hP hS hl
  clear kt kf
  generalize MQ X.2.2.2.2.2.1 (Qq E post) X.2.2.2.2.1 X.2.2.1 0 0 (Reg E) = Q at kt2 kf2 ⊢
  have kt := kt2
  have kf := kf2
  exact lv_icmp_le G.1 G.2.1 hd ht (fun q => kt ((ofI_le hx hy).mp q)) (fun q => kf (Int.not_le.mp (fun e => q ((ofI_le hx hy).mpr e))))
theorem j_if_le (G : GO E X own cc n ret) {x off : Int} {tgt : Nat} (hd : decode cc pc = .ok (.ifCond .le off, 3)) (ht : (pc : Int) + off = (tgt : Int)) (hx : -2147483648 ≤ x ∧ x < 2147483648) (kt : x ≤ 0 → JJ E X d post n tgt ls st μ) (kf : 0 < x → JJ E X d post n (pc + 3) ls st μ) : JJ E X d post n pc ls (iv x :: st) μ := by
  intro ho H locs la hP hS hl
  have hy : -2147483648 ≤ (0 : Int) ∧ (0 : Int) < 2147483648 := by decide
  have kt2 := fun q => kt q ho H locs la hP hS hl
  have kf2 := fun q => kf q ho H locs la hP hS hl
  clear kt kf
  generalize MQ X.2.2.2.2.2.1 (Qq E post) X.2.2.2.2.1 X.2.2.1 0 0 (Reg E) = Q at kt2 kf2 ⊢
  have kt := kt2
  have kf := kf2
  exact lv_if_le G.1 G.2.1 hd ht (fun q => kt ((ofI_le hx hy).mp q)) (fun q => kf (Int.not_le.mp (fun e => q ((ofI_le hx hy).mpr e))))
theorem j_icmp_eq (G : GO E X own cc n ret) {x y off : Int} {tgt : Nat} (hd : decode cc pc = .ok (.if_icmp .eq off, 3)) (ht : (pc : Int) + off = (tgt : Int)) (hx : -2147483648 ≤ x ∧ x < 2147483648) (hy : -2147483648 ≤ y ∧ y < 2147483648) (kt : x = y → JJ E X d post n tgt ls st μ) (kf : x ≠ y → JJ E X d post n (pc + 3) ls st μ) : JJ E X d post n pc ls (iv y :: iv x :: st) μ := by
  intro ho H locs la hP hS hl
  have kt2 := fun q => kt q ho H locs la hP hS hl
  have kf2 := fun q => kf q ho H locs la hP hS hl
  clear kt kf
  generalize MQ X.2.2.2.2.2.1 (Qq E post) X.2.2.2.2.1 X.2.2.1 0 0 (Reg E) = Q at kt2 kf2 ⊢
  have kt := kt2
  have kf := kf2
  exact lv_icmp_eq G.1 G.2.1 hd ht (fun q => kt ((ofI_inj hx hy).mp q)) (fun q => kf (id (fun e => q ((ofI_inj hx hy).mpr e))))
theorem j_if_eq (G : GO E X own cc n ret) {x off : Int} {tgt : Nat} (hd : decode cc pc = .ok (.ifCond .eq off, 3)) (ht : (pc : Int) + off = (tgt : Int)) (hx : -2147483648 ≤ x ∧ x < 2147483648) (kt : x = 0 → JJ E X d post n tgt ls st μ) (kf : x ≠ 0 → JJ E X d post n (pc + 3) ls st μ) : JJ E X d post n pc ls (iv x :: st) μ := by
  intro ho H locs la hP hS hl
  have hy : -2147483648 ≤ (0 : Int) ∧ (0 : Int) < 2147483648 := by decide
  have kt2 := fun q => kt q ho H locs la hP hS hl
  have kf2 := fun q => kf q ho H locs la hP hS hl
  clear kt kf
  generalize MQ X.2.2.2.2.2.1 (Qq E post) X.2.2.2.2.1 X.2.2.1 0 0 (Reg E) = Q at kt2 kf2 ⊢
  have kt := kt2
  have kf := kf2
  exact lv_if_eq G.1 G.2.1 hd ht (fun q => kt ((ofI_inj hx hy).mp q)) (fun q => kf (id (fun e => q ((ofI_inj hx hy).mpr e))))
theorem j_icmp_ne (G : GO E X own cc n ret) {x y off : Int} {tgt : Nat} (hd : decode cc pc = .ok (.if_icmp .ne off, 3)) (ht : (pc : Int) + off = (tgt : Int)) (hx : -2147483648 ≤ x ∧ x < 2147483648) (hy : -2147483648 ≤ y ∧ y < 2147483648) (kt : x ≠ y → JJ E X d post n tgt ls st μ) (kf : x = y → JJ E X d post n (pc + 3) ls st μ) : JJ E X d post n pc ls (iv y :: iv x :: st) μ := by
  intro ho H locs la hP hS hl
  have kt2 := fun q => kt q ho H locs la hP hS hl
  have kf2 := fun q => kf q ho H locs la hP hS hl
  clear kt kf
  generalize MQ X.2.2.2.2.2.1 (Qq E post) X.2.2.2.2.1 X.2.2.1 0 0 (Reg E) = Q at kt2 kf2 ⊢
  have kt := kt2
  have kf := kf2
  exact lv_icmp_ne G.1 G.2.1 hd ht (fun q => kt (fun e => q ((ofI_inj hx hy).mpr e))) (fun q => kf ((ofI_inj hx hy).mp q))
theorem j_if_ne (G : GO E X own cc n ret) {x off : Int} {tgt : Nat} (hd : decode cc pc = .ok (.ifCond .ne off, 3)) (ht : (pc : Int) + off = (tgt : Int)) (hx : -2147483648 ≤ x ∧ x < 2147483648) (kt : x ≠ 0 → JJ E X d post n tgt ls st μ) (kf : x = 0 → JJ E X d post n (pc + 3) ls st μ) : JJ E X d post n pc ls (iv x :: st) μ := by
  intro ho H locs la hP hS hl
  have hy : -2147483648 ≤ (0 : Int) ∧ (0 : Int) < 2147483648 := by decide
  have kt2 := fun q => kt q ho H locs la hP hS hl
  have kf2 := fun q => kf q ho H locs la hP hS hl
  clear kt kf
  generalize MQ X.2.2.2.2.2.1 (Qq E post) X.2.2.2.2.1 X.2.2.1 0 0 (Reg E) = Q at kt2 kf2 ⊢
  have kt := kt2
  have kf := kf2
  exact lv_if_ne G.1 G.2.1 hd ht (fun q => kt (fun e => q ((ofI_inj hx hy).mpr e))) (fun q => kf ((ofI_inj hx hy).mp q))
theorem j_ifnull (G : GO E X own cc n ret) {k : Nat} {off : Int} (hd : decode cc pc = .ok (.ifnull off, 3)) (kk : JJ E X d post n (pc + 3) ls st μ) : JJ E X d post n pc ls (rf E k :: st) μ := j_go (fun _ _ _ _ _ w => lv_ifnull G.1 G.2.1 hd w) kk
theorem j_ifnullN (G : GO E X own cc n ret) {off : Int} {tgt : Nat} (hd : decode cc pc = .ok (.ifnull off, 3)) (ht : (pc : Int) + off = (tgt : Int)) (kk : JJ E X d post n tgt ls st μ) : JJ E X d post n pc ls (.null :: st) μ := j_go (fun _ _ _ _ _ w => lv_ifnullN G.1 G.2.1 hd ht w) kk
theorem j_ifnonnull (G : GO E X own cc n ret) {k : Nat} {off : Int} {tgt : Nat} (hd : decode cc pc = .ok (.ifnonnull off, 3)) (ht : (pc : Int) + off = (tgt : Int)) (kk : JJ E X d post n tgt ls st μ) : JJ E X d post n pc ls (rf E k :: st) μ := j_go (fun _ _ _ _ _ w => lv_ifnonnull G.1 G.2.1 hd ht w) kk
theorem j_ifnonnullN (G : GO E X own cc n ret) {off : Int} (hd : decode cc pc = .ok (.ifnonnull off, 3)) (kk : JJ E X d post n (pc + 3) ls st μ) : JJ E X d post n pc ls (.null :: st) μ := j_go (fun _ _ _ _ _ w => lv_ifnonnullN G.1 G.2.1 hd w) kk
theorem j_tableOut (G : GO E X own cc n ret) {dflt lo hi x : Int} {offs : Array Int} {len tgt : Nat} (hd : decode cc pc = .ok (.tableswitch dflt lo hi offs, len)) (hx : -2147483648 ≤ x ∧ x < 2147483648) (h : x < lo ∨ hi < x) (ht : (pc : Int) + dflt = (tgt : Int)) (kk : JJ E X d post n tgt ls st μ) : JJ E X d post n pc ls (iv x :: st) μ := j_go (fun _ _ _ _ _ w => lv_tableOut G.1 G.2.1 hd (by rw [ofI_toInt hx]; exact h) ht w) kk
theorem j_tableIn (G : GO E X own cc n ret) {dflt lo hi x off : Int} {offs : Array Int} {len tgt : Nat} (hd : decode cc pc = .ok (.tableswitch dflt lo hi offs, len)) (hx : -2147483648 ≤ x ∧ x < 2147483648) (h : lo ≤ x ∧ x ≤ hi) (ho : offs[(x - lo).toNat]? = some off) (ht : (pc : Int) + off = (tgt : Int)) (kk : JJ E X d post n tgt ls st μ) : JJ E X d post n pc ls (iv x :: st) μ := j_go (fun _ _ _ _ _ w => lv_tableIn G.1 G.2.1 hd (by rw [ofI_toInt hx]; omega) (by rw [ofI_toInt hx]; omega) (by rw [ofI_toInt hx]; exact ho) ht w) kk
theorem j_lookup (G : GO E X own cc n ret) {dflt x off : Int} {ps : Array (Int × Int)} {len tgt : Nat} (hd : decode cc pc = .ok (.lookupswitch dflt ps, len)) (hx : -2147483648 ≤ x ∧ x < 2147483648) (hp : (ps.toList.zip (ps.toList.drop 1)).all (fun (a, next) => a.1 < next.1) = true) (ho : Op.lookupswitch.offset ps.toList dflt x = off) (ht : (pc : Int) + off = (tgt : Int)) (kk : JJ E X d post n tgt ls st μ) : JJ E X d post n pc ls (iv x :: st) μ := j_go (fun _ _ _ _ _ w => lv_lookup G.1 G.2.1 hd hp (by rw [ofI_toInt hx]; exact ho) ht w) kk
theorem j_lcmp (G : GO E X own cc n ret) {x y : Int64} (hd : decode cc pc = .ok (.lcmp, 1)) (kk : JJ E X d post n (pc + 1) ls (iv (lg_cmp x y).toInt :: st) μ) : JJ E X d post n pc ls (.long y :: .long x :: st) μ := j_go (fun _ _ _ _ _ w => W.lcmp G.1 G.2.1 hd (by rw [iv_toInt] at w; exact w)) kk
theorem j_lor (G : GO E X own cc n ret) {x y : Int64} (hd : decode cc pc = .ok (.lor, 1)) (kk : JJ E X d post n (pc + 1) ls (.long (x ||| y) :: st) μ) : JJ E X d post n pc ls (.long y :: .long x :: st) μ := j_go (fun _ _ _ _ _ w => lv_lor G.1 G.2.1 hd w) kk
theorem j_land (G : GO E X own cc n ret) {x y : Int64} (hd : decode cc pc = .ok (.land, 1)) (kk : JJ E X d post n (pc + 1) ls (.long (x &&& y) :: st) μ) : JJ E X d post n pc ls (.long y :: .long x :: st) μ := j_go (fun _ _ _ _ _ w => lv_land G.1 G.2.1 hd w) kk
theorem j_lshl (G : GO E X own cc n ret) {x : Int64} {y : Int} (hd : decode cc pc = .ok (.lshl, 1)) (kk : JJ E X d post n (pc + 1) ls (.long (x <<< ((Int32.ofInt y).toInt64 &&& 63)) :: st) μ) : JJ E X d post n pc ls (iv y :: .long x :: st) μ := j_go (fun _ _ _ _ _ w => lv_lshl G.1 G.2.1 hd rfl w) kk
theorem j_lshr (G : GO E X own cc n ret) {x : Int64} {y : Int} (hd : decode cc pc = .ok (.lshr, 1)) (kk : JJ E X d post n (pc + 1) ls (.long (x >>> ((Int32.ofInt y).toInt64 &&& 63)) :: st) μ) : JJ E X d post n pc ls (iv y :: .long x :: st) μ := j_go (fun _ _ _ _ _ w => lv_lshr G.1 G.2.1 hd rfl w) kk
theorem j_lushr (G : GO E X own cc n ret) {x : Int64} {y : Int} (hd : decode cc pc = .ok (.lushr, 1)) (kk : JJ E X d post n (pc + 1) ls (.long ((x.toUInt64 >>> ((Int32.ofInt y).toInt64.toUInt64 &&& Int64.toUInt64 63)).toInt64) :: st) μ) : JJ E X d post n pc ls (iv y :: .long x :: st) μ := j_go (fun _ _ _ _ _ w => lv_lushr G.1 G.2.1 hd rfl w) kk
theorem j_l2i (G : GO E X own cc n ret) {x : Int64} (hd : decode cc pc = .ok (.l2i, 1)) (kk : JJ E X d post n (pc + 1) ls (iv x.toInt32.toInt :: st) μ) : JJ E X d post n pc ls (.long x :: st) μ := j_go (fun _ _ _ _ _ w => lv_l2i G.1 G.2.1 hd rfl (by rw [iv_toInt] at w; exact w)) kk
theorem j_iushr (G : GO E X own cc n ret) {x y : Int} (hd : decode cc pc = .ok (.iushr, 1)) (kk : JJ E X d post n (pc + 1) ls (iv (((Int32.ofInt x).toUInt32 >>> ((Int32.ofInt y).toUInt32 &&& Int32.toUInt32 31)).toInt32).toInt :: st) μ) : JJ E X d post n pc ls (iv y :: iv x :: st) μ := j_go (fun _ _ _ _ _ w => lv_iushr G.1 G.2.1 hd rfl (by rw [iv_toInt] at w; exact w)) kk
def prs (ls : List (Option Value)) : List (Nat × Value) := ls.zipIdx.filterMap (fun x => x.1.map (fun v => (x.2, v)))
theorem mem_prs {ls : List (Option Value)} {i : Nat} {v : Value} : (i, v) ∈ prs ls ↔ ls[i]? = some (some v) := by
  unfold prs
  rw [List.mem_filterMap]
  constructor
  · rintro ⟨⟨o, j⟩, h1, h2⟩
    have h3 := List.mem_zipIdx_iff_getElem?.mp h1
    cases o with
    | none => cases h2
    | some w => cases h2; exact h3
  · intro h
    exact ⟨(some v, i), List.mem_zipIdx_iff_getElem?.mpr h, rfl⟩
theorem lh_has {la : Array Slot} (h : lh la n ls) : lv_has la n (prs ls) := ⟨h.1, h.2.1, fun q hq => h.2.2 q.1 q.2 (mem_prs.mp hq)⟩
def okS (ls : List (Option Value)) (i : Nat) : Bool := match i with
  | 0 => true
  | i + 1 => match ls[i]? with
    | some (some w) => w.category == 1
    | _ => true
theorem lh_store {la : Array Slot} {i : Nat} {v : Value} (ok : okS ls i = true) (h : lv_has la n ((i, v) :: (prs ls).filter (fun q => !(q.1 == i) && !(q.1 + 1 == i && q.2.category == 2)))) : lh la n (ls.set i (some v)) := by
  refine ⟨h.1, h.2.1, fun j w hj => ?_⟩
  by_cases e : j = i
  · subst e
    have hlt : j < ls.length := by
      have := (List.getElem?_eq_some_iff.mp hj).1
      rwa [List.length_set] at this
    rw [List.getElem?_set_self hlt] at hj
    have hj := Option.some.inj (Option.some.inj hj)
    subst hj
    exact h.2.2 (j, v) List.mem_cons_self
  · rw [List.getElem?_set_ne (fun q => e q.symm)] at hj
    refine h.2.2 (j, w) (List.mem_cons_of_mem _ (List.mem_filter.mpr ⟨mem_prs.mpr hj, ?_⟩))
    by_cases e2 : j + 1 = i
    · subst e2
      have ok2 : (w.category == 1) = true := by
        unfold okS at ok
        simp only [hj] at ok
        exact ok
      have : w.category = 1 := by simpa using ok2
      simp [this]
    · simp [e, e2]
theorem lh_store2 {la : Array Slot} {i : Nat} {v : Value} (ok : okS ls i = true) (h : lv_has la n ((i, v) :: (prs ls).filter (fun q => !(q.1 == i) && (!(q.1 == i + 1) && !(q.1 + 1 == i && q.2.category == 2))))) : lh la n ((ls.set i (some v)).set (i + 1) none) := by
  refine ⟨h.1, h.2.1, fun j w hj => ?_⟩
  by_cases e1 : j = i + 1
  · subst e1
    by_cases hlt : i + 1 < (ls.set i (some v)).length
    · rw [List.getElem?_set_self hlt] at hj
      cases hj
    · rw [List.getElem?_eq_none (by rw [List.length_set]; omega)] at hj
      cases hj
  · rw [List.getElem?_set_ne (fun q => e1 q.symm)] at hj
    by_cases e : j = i
    · subst e
      have hlt : j < ls.length := by
        have := (List.getElem?_eq_some_iff.mp hj).1
        rwa [List.length_set] at this
      rw [List.getElem?_set_self hlt] at hj
      have hj := Option.some.inj (Option.some.inj hj)
      subst hj
      exact h.2.2 (j, v) List.mem_cons_self
    · rw [List.getElem?_set_ne (fun q => e q.symm)] at hj
      refine h.2.2 (j, w) (List.mem_cons_of_mem _ (List.mem_filter.mpr ⟨mem_prs.mpr hj, ?_⟩))
      by_cases e2 : j + 1 = i
      · subst e2
        have ok2 : (w.category == 1) = true := by
          unfold okS at ok
          simp only [hj] at ok
          exact ok
        have : w.category = 1 := by simpa using ok2
        simp [this]
        omega
      · simp [e, e2, e1]

theorem j_istore_nG (G : GO E X own cc n ret) {i : Fin 4} {z : Int} (hd : decode cc pc = .ok (.istore_n i, 1)) (hn : (i : Nat) < n) (ok : okS ls i = true) (kk : JJ E X d post n (pc + 1) (ls.set i (some (iv z))) st μ) : JJ E X d post n pc ls (iv z :: st) μ := fun ho H locs la hP hS hl => lv_istore_n G.1 G.2.1 hd rfl (lh_has hl) hn rfl (fun la2 h2 => kk ho H locs la2 hP hS (lh_store ok h2))
theorem j_istoreG (G : GO E X own cc n ret) {i : Nat} {z : Int} (hd : decode cc pc = .ok (.istore i, 2)) (hn : i < n) (ok : okS ls i = true) (kk : JJ E X d post n (pc + 2) (ls.set i (some (iv z))) st μ) : JJ E X d post n pc ls (iv z :: st) μ := fun ho H locs la hP hS hl => lv_istore G.1 G.2.1 hd (lh_has hl) hn rfl (fun la2 h2 => kk ho H locs la2 hP hS (lh_store ok h2))
theorem j_astore_nG (G : GO E X own cc n ret) {i : Fin 4} {z : Nat} (hd : decode cc pc = .ok (.astore_n i, 1)) (hn : (i : Nat) < n) (ok : okS ls i = true) (kk : JJ E X d post n (pc + 1) (ls.set i (some (rf E z))) st μ) : JJ E X d post n pc ls (rf E z :: st) μ := fun ho H locs la hP hS hl => lv_astore_n G.1 G.2.1 hd rfl (lh_has hl) hn rfl (fun la2 h2 => kk ho H locs la2 hP hS (lh_store ok h2))
theorem j_astoreG (G : GO E X own cc n ret) {i : Nat} {z : Nat} (hd : decode cc pc = .ok (.astore i, 2)) (hn : i < n) (ok : okS ls i = true) (kk : JJ E X d post n (pc + 2) (ls.set i (some (rf E z))) st μ) : JJ E X d post n pc ls (rf E z :: st) μ := fun ho H locs la hP hS hl => lv_astore G.1 G.2.1 hd (lh_has hl) hn rfl (fun la2 h2 => kk ho H locs la2 hP hS (lh_store ok h2))
theorem j_astore_nGN (G : GO E X own cc n ret) {i : Fin 4}  (hd : decode cc pc = .ok (.astore_n i, 1)) (hn : (i : Nat) < n) (ok : okS ls i = true) (kk : JJ E X d post n (pc + 1) (ls.set i (some (.null))) st μ) : JJ E X d post n pc ls (.null :: st) μ := fun ho H locs la hP hS hl => lv_astore_nN G.1 G.2.1 hd rfl (lh_has hl) hn rfl (fun la2 h2 => kk ho H locs la2 hP hS (lh_store ok h2))
theorem j_astoreGN (G : GO E X own cc n ret) {i : Nat}  (hd : decode cc pc = .ok (.astore i, 2)) (hn : i < n) (ok : okS ls i = true) (kk : JJ E X d post n (pc + 2) (ls.set i (some (.null))) st μ) : JJ E X d post n pc ls (.null :: st) μ := fun ho H locs la hP hS hl => lv_astoreN G.1 G.2.1 hd (lh_has hl) hn rfl (fun la2 h2 => kk ho H locs la2 hP hS (lh_store ok h2))
theorem j_lstore_nG (G : GO E X own cc n ret) {i : Fin 4} {z : Int64} (hd : decode cc pc = .ok (.lstore_n i, 1)) (hn : (i : Nat) + 1 < n) (ok : okS ls i = true) (kk : JJ E X d post n (pc + 1) ((ls.set i (some (.long z))).set (i + 1) none) st μ) : JJ E X d post n pc ls (.long z :: st) μ := fun ho H locs la hP hS hl => lv_lstore_n G.1 G.2.1 hd rfl (lh_has hl) hn rfl (fun la2 h2 => kk ho H locs la2 hP hS (lh_store2 ok h2))
theorem j_lstoreG (G : GO E X own cc n ret) {i : Nat} {z : Int64} (hd : decode cc pc = .ok (.lstore i, 2)) (hn : i + 1 < n) (ok : okS ls i = true) (kk : JJ E X d post n (pc + 2) ((ls.set i (some (.long z))).set (i + 1) none) st μ) : JJ E X d post n pc ls (.long z :: st) μ := fun ho H locs la hP hS hl => lv_lstore G.1 G.2.1 hd (lh_has hl) hn rfl (fun la2 h2 => kk ho H locs la2 hP hS (lh_store2 ok h2))
theorem j_iincG (G : GO E X own cc n ret) {i : Nat} {z c : Int} (hd : decode cc pc = .ok (.iinc i c, 3)) (hn : i < n) (hv : ls[i]? = some (some (iv z))) (ok : okS ls i = true) (kk : JJ E X d post n (pc + 3) (ls.set i (some (iv (z + c)))) st μ) : JJ E X d post n pc ls st μ := fun ho H locs la hP hS hl => by
  obtain ⟨k, hk⟩ := List.getElem?_of_mem (mem_prs.mpr hv)
  exact lv_iinc (k := k) (x := Int32.ofInt z) G.1 G.2.1 hd (lh_has hl) hk (by rw [← Int32.ofInt_add]) hn rfl (fun la2 h2 => kk ho H locs la2 hP hS (lh_store ok h2))

theorem j_istore0 (G : GO E X own cc n ret) {z : Int} {a0 : Option Value} {t : List (Option Value)} (hd : decode cc pc = .ok (.istore_n 0, 1)) (hn : 0 < n) (ok : okS (a0 :: t) 0 = true) (kk : JJ E X d post n (pc + 1) (some (iv z) :: t) st μ) : JJ E X d post n pc (a0 :: t) (iv z :: st) μ := j_istore_nG (i := 0) G hd hn ok kk
theorem j_astore0 (G : GO E X own cc n ret) {z : Nat} {a0 : Option Value} {t : List (Option Value)} (hd : decode cc pc = .ok (.astore_n 0, 1)) (hn : 0 < n) (ok : okS (a0 :: t) 0 = true) (kk : JJ E X d post n (pc + 1) (some (rf E z) :: t) st μ) : JJ E X d post n pc (a0 :: t) (rf E z :: st) μ := j_astore_nG (i := 0) G hd hn ok kk
theorem j_astoreN0 (G : GO E X own cc n ret)  {a0 : Option Value} {t : List (Option Value)} (hd : decode cc pc = .ok (.astore_n 0, 1)) (hn : 0 < n) (ok : okS (a0 :: t) 0 = true) (kk : JJ E X d post n (pc + 1) (some (.null) :: t) st μ) : JJ E X d post n pc (a0 :: t) (.null :: st) μ := j_astore_nGN (i := 0) G hd hn ok kk
theorem j_iinc0 (G : GO E X own cc n ret) {z c : Int} {a0 : Option Value} {t : List (Option Value)} (hd : decode cc pc = .ok (.iinc 0 c, 3)) (hn : 0 < n) (ha : a0 = some (iv z)) (ok : okS (a0 :: t) 0 = true) (kk : JJ E X d post n (pc + 3) (some (iv (z + c)) :: t) st μ) : JJ E X d post n pc (a0 :: t) st μ := j_iincG (i := 0) G hd hn (by rw [ha]; rfl) ok kk
theorem j_lstore0 (G : GO E X own cc n ret) {z : Int64} {a0 a1 : Option Value} {t : List (Option Value)} (hd : decode cc pc = .ok (.lstore_n 0, 1)) (hn : 1 < n) (ok : okS (a0 :: a1 :: t) 0 = true) (kk : JJ E X d post n (pc + 1) (some (.long z) :: none :: t) st μ) : JJ E X d post n pc (a0 :: a1 :: t) (.long z :: st) μ := j_lstore_nG (i := 0) G hd hn ok kk
theorem j_istore1 (G : GO E X own cc n ret) {z : Int} {a0 a1 : Option Value} {t : List (Option Value)} (hd : decode cc pc = .ok (.istore_n 1, 1)) (hn : 1 < n) (ok : okS (a0 :: a1 :: t) 1 = true) (kk : JJ E X d post n (pc + 1) (a0 :: some (iv z) :: t) st μ) : JJ E X d post n pc (a0 :: a1 :: t) (iv z :: st) μ := j_istore_nG (i := 1) G hd hn ok kk
theorem j_astore1 (G : GO E X own cc n ret) {z : Nat} {a0 a1 : Option Value} {t : List (Option Value)} (hd : decode cc pc = .ok (.astore_n 1, 1)) (hn : 1 < n) (ok : okS (a0 :: a1 :: t) 1 = true) (kk : JJ E X d post n (pc + 1) (a0 :: some (rf E z) :: t) st μ) : JJ E X d post n pc (a0 :: a1 :: t) (rf E z :: st) μ := j_astore_nG (i := 1) G hd hn ok kk
theorem j_astoreN1 (G : GO E X own cc n ret)  {a0 a1 : Option Value} {t : List (Option Value)} (hd : decode cc pc = .ok (.astore_n 1, 1)) (hn : 1 < n) (ok : okS (a0 :: a1 :: t) 1 = true) (kk : JJ E X d post n (pc + 1) (a0 :: some (.null) :: t) st μ) : JJ E X d post n pc (a0 :: a1 :: t) (.null :: st) μ := j_astore_nGN (i := 1) G hd hn ok kk
theorem j_iinc1 (G : GO E X own cc n ret) {z c : Int} {a0 a1 : Option Value} {t : List (Option Value)} (hd : decode cc pc = .ok (.iinc 1 c, 3)) (hn : 1 < n) (ha : a1 = some (iv z)) (ok : okS (a0 :: a1 :: t) 1 = true) (kk : JJ E X d post n (pc + 3) (a0 :: some (iv (z + c)) :: t) st μ) : JJ E X d post n pc (a0 :: a1 :: t) st μ := j_iincG (i := 1) G hd hn (by rw [ha]; rfl) ok kk
theorem j_lstore1 (G : GO E X own cc n ret) {z : Int64} {a0 a1 a2 : Option Value} {t : List (Option Value)} (hd : decode cc pc = .ok (.lstore_n 1, 1)) (hn : 2 < n) (ok : okS (a0 :: a1 :: a2 :: t) 1 = true) (kk : JJ E X d post n (pc + 1) (a0 :: some (.long z) :: none :: t) st μ) : JJ E X d post n pc (a0 :: a1 :: a2 :: t) (.long z :: st) μ := j_lstore_nG (i := 1) G hd hn ok kk
theorem j_istore2 (G : GO E X own cc n ret) {z : Int} {a0 a1 a2 : Option Value} {t : List (Option Value)} (hd : decode cc pc = .ok (.istore_n 2, 1)) (hn : 2 < n) (ok : okS (a0 :: a1 :: a2 :: t) 2 = true) (kk : JJ E X d post n (pc + 1) (a0 :: a1 :: some (iv z) :: t) st μ) : JJ E X d post n pc (a0 :: a1 :: a2 :: t) (iv z :: st) μ := j_istore_nG (i := 2) G hd hn ok kk
theorem j_astore2 (G : GO E X own cc n ret) {z : Nat} {a0 a1 a2 : Option Value} {t : List (Option Value)} (hd : decode cc pc = .ok (.astore_n 2, 1)) (hn : 2 < n) (ok : okS (a0 :: a1 :: a2 :: t) 2 = true) (kk : JJ E X d post n (pc + 1) (a0 :: a1 :: some (rf E z) :: t) st μ) : JJ E X d post n pc (a0 :: a1 :: a2 :: t) (rf E z :: st) μ := j_astore_nG (i := 2) G hd hn ok kk
theorem j_astoreN2 (G : GO E X own cc n ret)  {a0 a1 a2 : Option Value} {t : List (Option Value)} (hd : decode cc pc = .ok (.astore_n 2, 1)) (hn : 2 < n) (ok : okS (a0 :: a1 :: a2 :: t) 2 = true) (kk : JJ E X d post n (pc + 1) (a0 :: a1 :: some (.null) :: t) st μ) : JJ E X d post n pc (a0 :: a1 :: a2 :: t) (.null :: st) μ := j_astore_nGN (i := 2) G hd hn ok kk
theorem j_iinc2 (G : GO E X own cc n ret) {z c : Int} {a0 a1 a2 : Option Value} {t : List (Option Value)} (hd : decode cc pc = .ok (.iinc 2 c, 3)) (hn : 2 < n) (ha : a2 = some (iv z)) (ok : okS (a0 :: a1 :: a2 :: t) 2 = true) (kk : JJ E X d post n (pc + 3) (a0 :: a1 :: some (iv (z + c)) :: t) st μ) : JJ E X d post n pc (a0 :: a1 :: a2 :: t) st μ := j_iincG (i := 2) G hd hn (by rw [ha]; rfl) ok kk
theorem j_lstore2 (G : GO E X own cc n ret) {z : Int64} {a0 a1 a2 a3 : Option Value} {t : List (Option Value)} (hd : decode cc pc = .ok (.lstore_n 2, 1)) (hn : 3 < n) (ok : okS (a0 :: a1 :: a2 :: a3 :: t) 2 = true) (kk : JJ E X d post n (pc + 1) (a0 :: a1 :: some (.long z) :: none :: t) st μ) : JJ E X d post n pc (a0 :: a1 :: a2 :: a3 :: t) (.long z :: st) μ := j_lstore_nG (i := 2) G hd hn ok kk
theorem j_istore3 (G : GO E X own cc n ret) {z : Int} {a0 a1 a2 a3 : Option Value} {t : List (Option Value)} (hd : decode cc pc = .ok (.istore_n 3, 1)) (hn : 3 < n) (ok : okS (a0 :: a1 :: a2 :: a3 :: t) 3 = true) (kk : JJ E X d post n (pc + 1) (a0 :: a1 :: a2 :: some (iv z) :: t) st μ) : JJ E X d post n pc (a0 :: a1 :: a2 :: a3 :: t) (iv z :: st) μ := j_istore_nG (i := 3) G hd hn ok kk
theorem j_astore3 (G : GO E X own cc n ret) {z : Nat} {a0 a1 a2 a3 : Option Value} {t : List (Option Value)} (hd : decode cc pc = .ok (.astore_n 3, 1)) (hn : 3 < n) (ok : okS (a0 :: a1 :: a2 :: a3 :: t) 3 = true) (kk : JJ E X d post n (pc + 1) (a0 :: a1 :: a2 :: some (rf E z) :: t) st μ) : JJ E X d post n pc (a0 :: a1 :: a2 :: a3 :: t) (rf E z :: st) μ := j_astore_nG (i := 3) G hd hn ok kk
theorem j_astoreN3 (G : GO E X own cc n ret)  {a0 a1 a2 a3 : Option Value} {t : List (Option Value)} (hd : decode cc pc = .ok (.astore_n 3, 1)) (hn : 3 < n) (ok : okS (a0 :: a1 :: a2 :: a3 :: t) 3 = true) (kk : JJ E X d post n (pc + 1) (a0 :: a1 :: a2 :: some (.null) :: t) st μ) : JJ E X d post n pc (a0 :: a1 :: a2 :: a3 :: t) (.null :: st) μ := j_astore_nGN (i := 3) G hd hn ok kk
theorem j_iinc3 (G : GO E X own cc n ret) {z c : Int} {a0 a1 a2 a3 : Option Value} {t : List (Option Value)} (hd : decode cc pc = .ok (.iinc 3 c, 3)) (hn : 3 < n) (ha : a3 = some (iv z)) (ok : okS (a0 :: a1 :: a2 :: a3 :: t) 3 = true) (kk : JJ E X d post n (pc + 3) (a0 :: a1 :: a2 :: some (iv (z + c)) :: t) st μ) : JJ E X d post n pc (a0 :: a1 :: a2 :: a3 :: t) st μ := j_iincG (i := 3) G hd hn (by rw [ha]; rfl) ok kk
theorem j_lstore3 (G : GO E X own cc n ret) {z : Int64} {a0 a1 a2 a3 a4 : Option Value} {t : List (Option Value)} (hd : decode cc pc = .ok (.lstore_n 3, 1)) (hn : 4 < n) (ok : okS (a0 :: a1 :: a2 :: a3 :: a4 :: t) 3 = true) (kk : JJ E X d post n (pc + 1) (a0 :: a1 :: a2 :: some (.long z) :: none :: t) st μ) : JJ E X d post n pc (a0 :: a1 :: a2 :: a3 :: a4 :: t) (.long z :: st) μ := j_lstore_nG (i := 3) G hd hn ok kk
theorem j_istore4 (G : GO E X own cc n ret) {z : Int} {a0 a1 a2 a3 a4 : Option Value} {t : List (Option Value)} (hd : decode cc pc = .ok (.istore 4, 2)) (hn : 4 < n) (ok : okS (a0 :: a1 :: a2 :: a3 :: a4 :: t) 4 = true) (kk : JJ E X d post n (pc + 2) (a0 :: a1 :: a2 :: a3 :: some (iv z) :: t) st μ) : JJ E X d post n pc (a0 :: a1 :: a2 :: a3 :: a4 :: t) (iv z :: st) μ := j_istoreG (i := 4) G hd hn ok kk
theorem j_astore4 (G : GO E X own cc n ret) {z : Nat} {a0 a1 a2 a3 a4 : Option Value} {t : List (Option Value)} (hd : decode cc pc = .ok (.astore 4, 2)) (hn : 4 < n) (ok : okS (a0 :: a1 :: a2 :: a3 :: a4 :: t) 4 = true) (kk : JJ E X d post n (pc + 2) (a0 :: a1 :: a2 :: a3 :: some (rf E z) :: t) st μ) : JJ E X d post n pc (a0 :: a1 :: a2 :: a3 :: a4 :: t) (rf E z :: st) μ := j_astoreG (i := 4) G hd hn ok kk
theorem j_astoreN4 (G : GO E X own cc n ret)  {a0 a1 a2 a3 a4 : Option Value} {t : List (Option Value)} (hd : decode cc pc = .ok (.astore 4, 2)) (hn : 4 < n) (ok : okS (a0 :: a1 :: a2 :: a3 :: a4 :: t) 4 = true) (kk : JJ E X d post n (pc + 2) (a0 :: a1 :: a2 :: a3 :: some (.null) :: t) st μ) : JJ E X d post n pc (a0 :: a1 :: a2 :: a3 :: a4 :: t) (.null :: st) μ := j_astoreGN (i := 4) G hd hn ok kk
theorem j_iinc4 (G : GO E X own cc n ret) {z c : Int} {a0 a1 a2 a3 a4 : Option Value} {t : List (Option Value)} (hd : decode cc pc = .ok (.iinc 4 c, 3)) (hn : 4 < n) (ha : a4 = some (iv z)) (ok : okS (a0 :: a1 :: a2 :: a3 :: a4 :: t) 4 = true) (kk : JJ E X d post n (pc + 3) (a0 :: a1 :: a2 :: a3 :: some (iv (z + c)) :: t) st μ) : JJ E X d post n pc (a0 :: a1 :: a2 :: a3 :: a4 :: t) st μ := j_iincG (i := 4) G hd hn (by rw [ha]; rfl) ok kk
theorem j_lstore4 (G : GO E X own cc n ret) {z : Int64} {a0 a1 a2 a3 a4 a5 : Option Value} {t : List (Option Value)} (hd : decode cc pc = .ok (.lstore 4, 2)) (hn : 5 < n) (ok : okS (a0 :: a1 :: a2 :: a3 :: a4 :: a5 :: t) 4 = true) (kk : JJ E X d post n (pc + 2) (a0 :: a1 :: a2 :: a3 :: some (.long z) :: none :: t) st μ) : JJ E X d post n pc (a0 :: a1 :: a2 :: a3 :: a4 :: a5 :: t) (.long z :: st) μ := j_lstoreG (i := 4) G hd hn ok kk
theorem j_istore5 (G : GO E X own cc n ret) {z : Int} {a0 a1 a2 a3 a4 a5 : Option Value} {t : List (Option Value)} (hd : decode cc pc = .ok (.istore 5, 2)) (hn : 5 < n) (ok : okS (a0 :: a1 :: a2 :: a3 :: a4 :: a5 :: t) 5 = true) (kk : JJ E X d post n (pc + 2) (a0 :: a1 :: a2 :: a3 :: a4 :: some (iv z) :: t) st μ) : JJ E X d post n pc (a0 :: a1 :: a2 :: a3 :: a4 :: a5 :: t) (iv z :: st) μ := j_istoreG (i := 5) G hd hn ok kk
theorem j_astore5 (G : GO E X own cc n ret) {z : Nat} {a0 a1 a2 a3 a4 a5 : Option Value} {t : List (Option Value)} (hd : decode cc pc = .ok (.astore 5, 2)) (hn : 5 < n) (ok : okS (a0 :: a1 :: a2 :: a3 :: a4 :: a5 :: t) 5 = true) (kk : JJ E X d post n (pc + 2) (a0 :: a1 :: a2 :: a3 :: a4 :: some (rf E z) :: t) st μ) : JJ E X d post n pc (a0 :: a1 :: a2 :: a3 :: a4 :: a5 :: t) (rf E z :: st) μ := j_astoreG (i := 5) G hd hn ok kk
theorem j_astoreN5 (G : GO E X own cc n ret)  {a0 a1 a2 a3 a4 a5 : Option Value} {t : List (Option Value)} (hd : decode cc pc = .ok (.astore 5, 2)) (hn : 5 < n) (ok : okS (a0 :: a1 :: a2 :: a3 :: a4 :: a5 :: t) 5 = true) (kk : JJ E X d post n (pc + 2) (a0 :: a1 :: a2 :: a3 :: a4 :: some (.null) :: t) st μ) : JJ E X d post n pc (a0 :: a1 :: a2 :: a3 :: a4 :: a5 :: t) (.null :: st) μ := j_astoreGN (i := 5) G hd hn ok kk
theorem j_iinc5 (G : GO E X own cc n ret) {z c : Int} {a0 a1 a2 a3 a4 a5 : Option Value} {t : List (Option Value)} (hd : decode cc pc = .ok (.iinc 5 c, 3)) (hn : 5 < n) (ha : a5 = some (iv z)) (ok : okS (a0 :: a1 :: a2 :: a3 :: a4 :: a5 :: t) 5 = true) (kk : JJ E X d post n (pc + 3) (a0 :: a1 :: a2 :: a3 :: a4 :: some (iv (z + c)) :: t) st μ) : JJ E X d post n pc (a0 :: a1 :: a2 :: a3 :: a4 :: a5 :: t) st μ := j_iincG (i := 5) G hd hn (by rw [ha]; rfl) ok kk
theorem j_lstore5 (G : GO E X own cc n ret) {z : Int64} {a0 a1 a2 a3 a4 a5 a6 : Option Value} {t : List (Option Value)} (hd : decode cc pc = .ok (.lstore 5, 2)) (hn : 6 < n) (ok : okS (a0 :: a1 :: a2 :: a3 :: a4 :: a5 :: a6 :: t) 5 = true) (kk : JJ E X d post n (pc + 2) (a0 :: a1 :: a2 :: a3 :: a4 :: some (.long z) :: none :: t) st μ) : JJ E X d post n pc (a0 :: a1 :: a2 :: a3 :: a4 :: a5 :: a6 :: t) (.long z :: st) μ := j_lstoreG (i := 5) G hd hn ok kk
theorem j_istore6 (G : GO E X own cc n ret) {z : Int} {a0 a1 a2 a3 a4 a5 a6 : Option Value} {t : List (Option Value)} (hd : decode cc pc = .ok (.istore 6, 2)) (hn : 6 < n) (ok : okS (a0 :: a1 :: a2 :: a3 :: a4 :: a5 :: a6 :: t) 6 = true) (kk : JJ E X d post n (pc + 2) (a0 :: a1 :: a2 :: a3 :: a4 :: a5 :: some (iv z) :: t) st μ) : JJ E X d post n pc (a0 :: a1 :: a2 :: a3 :: a4 :: a5 :: a6 :: t) (iv z :: st) μ := j_istoreG (i := 6) G hd hn ok kk
theorem j_astore6 (G : GO E X own cc n ret) {z : Nat} {a0 a1 a2 a3 a4 a5 a6 : Option Value} {t : List (Option Value)} (hd : decode cc pc = .ok (.astore 6, 2)) (hn : 6 < n) (ok : okS (a0 :: a1 :: a2 :: a3 :: a4 :: a5 :: a6 :: t) 6 = true) (kk : JJ E X d post n (pc + 2) (a0 :: a1 :: a2 :: a3 :: a4 :: a5 :: some (rf E z) :: t) st μ) : JJ E X d post n pc (a0 :: a1 :: a2 :: a3 :: a4 :: a5 :: a6 :: t) (rf E z :: st) μ := j_astoreG (i := 6) G hd hn ok kk
theorem j_astoreN6 (G : GO E X own cc n ret)  {a0 a1 a2 a3 a4 a5 a6 : Option Value} {t : List (Option Value)} (hd : decode cc pc = .ok (.astore 6, 2)) (hn : 6 < n) (ok : okS (a0 :: a1 :: a2 :: a3 :: a4 :: a5 :: a6 :: t) 6 = true) (kk : JJ E X d post n (pc + 2) (a0 :: a1 :: a2 :: a3 :: a4 :: a5 :: some (.null) :: t) st μ) : JJ E X d post n pc (a0 :: a1 :: a2 :: a3 :: a4 :: a5 :: a6 :: t) (.null :: st) μ := j_astoreGN (i := 6) G hd hn ok kk
theorem j_iinc6 (G : GO E X own cc n ret) {z c : Int} {a0 a1 a2 a3 a4 a5 a6 : Option Value} {t : List (Option Value)} (hd : decode cc pc = .ok (.iinc 6 c, 3)) (hn : 6 < n) (ha : a6 = some (iv z)) (ok : okS (a0 :: a1 :: a2 :: a3 :: a4 :: a5 :: a6 :: t) 6 = true) (kk : JJ E X d post n (pc + 3) (a0 :: a1 :: a2 :: a3 :: a4 :: a5 :: some (iv (z + c)) :: t) st μ) : JJ E X d post n pc (a0 :: a1 :: a2 :: a3 :: a4 :: a5 :: a6 :: t) st μ := j_iincG (i := 6) G hd hn (by rw [ha]; rfl) ok kk
theorem j_lstore6 (G : GO E X own cc n ret) {z : Int64} {a0 a1 a2 a3 a4 a5 a6 a7 : Option Value} {t : List (Option Value)} (hd : decode cc pc = .ok (.lstore 6, 2)) (hn : 7 < n) (ok : okS (a0 :: a1 :: a2 :: a3 :: a4 :: a5 :: a6 :: a7 :: t) 6 = true) (kk : JJ E X d post n (pc + 2) (a0 :: a1 :: a2 :: a3 :: a4 :: a5 :: some (.long z) :: none :: t) st μ) : JJ E X d post n pc (a0 :: a1 :: a2 :: a3 :: a4 :: a5 :: a6 :: a7 :: t) (.long z :: st) μ := j_lstoreG (i := 6) G hd hn ok kk
theorem j_istore7 (G : GO E X own cc n ret) {z : Int} {a0 a1 a2 a3 a4 a5 a6 a7 : Option Value} {t : List (Option Value)} (hd : decode cc pc = .ok (.istore 7, 2)) (hn : 7 < n) (ok : okS (a0 :: a1 :: a2 :: a3 :: a4 :: a5 :: a6 :: a7 :: t) 7 = true) (kk : JJ E X d post n (pc + 2) (a0 :: a1 :: a2 :: a3 :: a4 :: a5 :: a6 :: some (iv z) :: t) st μ) : JJ E X d post n pc (a0 :: a1 :: a2 :: a3 :: a4 :: a5 :: a6 :: a7 :: t) (iv z :: st) μ := j_istoreG (i := 7) G hd hn ok kk
theorem j_astore7 (G : GO E X own cc n ret) {z : Nat} {a0 a1 a2 a3 a4 a5 a6 a7 : Option Value} {t : List (Option Value)} (hd : decode cc pc = .ok (.astore 7, 2)) (hn : 7 < n) (ok : okS (a0 :: a1 :: a2 :: a3 :: a4 :: a5 :: a6 :: a7 :: t) 7 = true) (kk : JJ E X d post n (pc + 2) (a0 :: a1 :: a2 :: a3 :: a4 :: a5 :: a6 :: some (rf E z) :: t) st μ) : JJ E X d post n pc (a0 :: a1 :: a2 :: a3 :: a4 :: a5 :: a6 :: a7 :: t) (rf E z :: st) μ := j_astoreG (i := 7) G hd hn ok kk
theorem j_astoreN7 (G : GO E X own cc n ret)  {a0 a1 a2 a3 a4 a5 a6 a7 : Option Value} {t : List (Option Value)} (hd : decode cc pc = .ok (.astore 7, 2)) (hn : 7 < n) (ok : okS (a0 :: a1 :: a2 :: a3 :: a4 :: a5 :: a6 :: a7 :: t) 7 = true) (kk : JJ E X d post n (pc + 2) (a0 :: a1 :: a2 :: a3 :: a4 :: a5 :: a6 :: some (.null) :: t) st μ) : JJ E X d post n pc (a0 :: a1 :: a2 :: a3 :: a4 :: a5 :: a6 :: a7 :: t) (.null :: st) μ := j_astoreGN (i := 7) G hd hn ok kk
theorem j_iinc7 (G : GO E X own cc n ret) {z c : Int} {a0 a1 a2 a3 a4 a5 a6 a7 : Option Value} {t : List (Option Value)} (hd : decode cc pc = .ok (.iinc 7 c, 3)) (hn : 7 < n) (ha : a7 = some (iv z)) (ok : okS (a0 :: a1 :: a2 :: a3 :: a4 :: a5 :: a6 :: a7 :: t) 7 = true) (kk : JJ E X d post n (pc + 3) (a0 :: a1 :: a2 :: a3 :: a4 :: a5 :: a6 :: some (iv (z + c)) :: t) st μ) : JJ E X d post n pc (a0 :: a1 :: a2 :: a3 :: a4 :: a5 :: a6 :: a7 :: t) st μ := j_iincG (i := 7) G hd hn (by rw [ha]; rfl) ok kk
theorem j_lstore7 (G : GO E X own cc n ret) {z : Int64} {a0 a1 a2 a3 a4 a5 a6 a7 a8 : Option Value} {t : List (Option Value)} (hd : decode cc pc = .ok (.lstore 7, 2)) (hn : 8 < n) (ok : okS (a0 :: a1 :: a2 :: a3 :: a4 :: a5 :: a6 :: a7 :: a8 :: t) 7 = true) (kk : JJ E X d post n (pc + 2) (a0 :: a1 :: a2 :: a3 :: a4 :: a5 :: a6 :: some (.long z) :: none :: t) st μ) : JJ E X d post n pc (a0 :: a1 :: a2 :: a3 :: a4 :: a5 :: a6 :: a7 :: a8 :: t) (.long z :: st) μ := j_lstoreG (i := 7) G hd hn ok kk
theorem j_istore8 (G : GO E X own cc n ret) {z : Int} {a0 a1 a2 a3 a4 a5 a6 a7 a8 : Option Value} {t : List (Option Value)} (hd : decode cc pc = .ok (.istore 8, 2)) (hn : 8 < n) (ok : okS (a0 :: a1 :: a2 :: a3 :: a4 :: a5 :: a6 :: a7 :: a8 :: t) 8 = true) (kk : JJ E X d post n (pc + 2) (a0 :: a1 :: a2 :: a3 :: a4 :: a5 :: a6 :: a7 :: some (iv z) :: t) st μ) : JJ E X d post n pc (a0 :: a1 :: a2 :: a3 :: a4 :: a5 :: a6 :: a7 :: a8 :: t) (iv z :: st) μ := j_istoreG (i := 8) G hd hn ok kk
theorem j_astore8 (G : GO E X own cc n ret) {z : Nat} {a0 a1 a2 a3 a4 a5 a6 a7 a8 : Option Value} {t : List (Option Value)} (hd : decode cc pc = .ok (.astore 8, 2)) (hn : 8 < n) (ok : okS (a0 :: a1 :: a2 :: a3 :: a4 :: a5 :: a6 :: a7 :: a8 :: t) 8 = true) (kk : JJ E X d post n (pc + 2) (a0 :: a1 :: a2 :: a3 :: a4 :: a5 :: a6 :: a7 :: some (rf E z) :: t) st μ) : JJ E X d post n pc (a0 :: a1 :: a2 :: a3 :: a4 :: a5 :: a6 :: a7 :: a8 :: t) (rf E z :: st) μ := j_astoreG (i := 8) G hd hn ok kk
theorem j_astoreN8 (G : GO E X own cc n ret)  {a0 a1 a2 a3 a4 a5 a6 a7 a8 : Option Value} {t : List (Option Value)} (hd : decode cc pc = .ok (.astore 8, 2)) (hn : 8 < n) (ok : okS (a0 :: a1 :: a2 :: a3 :: a4 :: a5 :: a6 :: a7 :: a8 :: t) 8 = true) (kk : JJ E X d post n (pc + 2) (a0 :: a1 :: a2 :: a3 :: a4 :: a5 :: a6 :: a7 :: some (.null) :: t) st μ) : JJ E X d post n pc (a0 :: a1 :: a2 :: a3 :: a4 :: a5 :: a6 :: a7 :: a8 :: t) (.null :: st) μ := j_astoreGN (i := 8) G hd hn ok kk
theorem j_iinc8 (G : GO E X own cc n ret) {z c : Int} {a0 a1 a2 a3 a4 a5 a6 a7 a8 : Option Value} {t : List (Option Value)} (hd : decode cc pc = .ok (.iinc 8 c, 3)) (hn : 8 < n) (ha : a8 = some (iv z)) (ok : okS (a0 :: a1 :: a2 :: a3 :: a4 :: a5 :: a6 :: a7 :: a8 :: t) 8 = true) (kk : JJ E X d post n (pc + 3) (a0 :: a1 :: a2 :: a3 :: a4 :: a5 :: a6 :: a7 :: some (iv (z + c)) :: t) st μ) : JJ E X d post n pc (a0 :: a1 :: a2 :: a3 :: a4 :: a5 :: a6 :: a7 :: a8 :: t) st μ := j_iincG (i := 8) G hd hn (by rw [ha]; rfl) ok kk
theorem j_istore9 (G : GO E X own cc n ret) {z : Int} {a0 a1 a2 a3 a4 a5 a6 a7 a8 a9 : Option Value} {t : List (Option Value)} (hd : decode cc pc = .ok (.istore 9, 2)) (hn : 9 < n) (ok : okS (a0 :: a1 :: a2 :: a3 :: a4 :: a5 :: a6 :: a7 :: a8 :: a9 :: t) 9 = true) (kk : JJ E X d post n (pc + 2) (a0 :: a1 :: a2 :: a3 :: a4 :: a5 :: a6 :: a7 :: a8 :: some (iv z) :: t) st μ) : JJ E X d post n pc (a0 :: a1 :: a2 :: a3 :: a4 :: a5 :: a6 :: a7 :: a8 :: a9 :: t) (iv z :: st) μ := j_istoreG (i := 9) G hd hn ok kk
theorem j_astore9 (G : GO E X own cc n ret) {z : Nat} {a0 a1 a2 a3 a4 a5 a6 a7 a8 a9 : Option Value} {t : List (Option Value)} (hd : decode cc pc = .ok (.astore 9, 2)) (hn : 9 < n) (ok : okS (a0 :: a1 :: a2 :: a3 :: a4 :: a5 :: a6 :: a7 :: a8 :: a9 :: t) 9 = true) (kk : JJ E X d post n (pc + 2) (a0 :: a1 :: a2 :: a3 :: a4 :: a5 :: a6 :: a7 :: a8 :: some (rf E z) :: t) st μ) : JJ E X d post n pc (a0 :: a1 :: a2 :: a3 :: a4 :: a5 :: a6 :: a7 :: a8 :: a9 :: t) (rf E z :: st) μ := j_astoreG (i := 9) G hd hn ok kk
theorem j_astoreN9 (G : GO E X own cc n ret)  {a0 a1 a2 a3 a4 a5 a6 a7 a8 a9 : Option Value} {t : List (Option Value)} (hd : decode cc pc = .ok (.astore 9, 2)) (hn : 9 < n) (ok : okS (a0 :: a1 :: a2 :: a3 :: a4 :: a5 :: a6 :: a7 :: a8 :: a9 :: t) 9 = true) (kk : JJ E X d post n (pc + 2) (a0 :: a1 :: a2 :: a3 :: a4 :: a5 :: a6 :: a7 :: a8 :: some (.null) :: t) st μ) : JJ E X d post n pc (a0 :: a1 :: a2 :: a3 :: a4 :: a5 :: a6 :: a7 :: a8 :: a9 :: t) (.null :: st) μ := j_astoreGN (i := 9) G hd hn ok kk
theorem j_iinc9 (G : GO E X own cc n ret) {z c : Int} {a0 a1 a2 a3 a4 a5 a6 a7 a8 a9 : Option Value} {t : List (Option Value)} (hd : decode cc pc = .ok (.iinc 9 c, 3)) (hn : 9 < n) (ha : a9 = some (iv z)) (ok : okS (a0 :: a1 :: a2 :: a3 :: a4 :: a5 :: a6 :: a7 :: a8 :: a9 :: t) 9 = true) (kk : JJ E X d post n (pc + 3) (a0 :: a1 :: a2 :: a3 :: a4 :: a5 :: a6 :: a7 :: a8 :: some (iv (z + c)) :: t) st μ) : JJ E X d post n pc (a0 :: a1 :: a2 :: a3 :: a4 :: a5 :: a6 :: a7 :: a8 :: a9 :: t) st μ := j_iincG (i := 9) G hd hn (by rw [ha]; rfl) ok kk
theorem j_istore10 (G : GO E X own cc n ret) {z : Int} {a0 a1 a2 a3 a4 a5 a6 a7 a8 a9 a10 : Option Value} {t : List (Option Value)} (hd : decode cc pc = .ok (.istore 10, 2)) (hn : 10 < n) (ok : okS (a0 :: a1 :: a2 :: a3 :: a4 :: a5 :: a6 :: a7 :: a8 :: a9 :: a10 :: t) 10 = true) (kk : JJ E X d post n (pc + 2) (a0 :: a1 :: a2 :: a3 :: a4 :: a5 :: a6 :: a7 :: a8 :: a9 :: some (iv z) :: t) st μ) : JJ E X d post n pc (a0 :: a1 :: a2 :: a3 :: a4 :: a5 :: a6 :: a7 :: a8 :: a9 :: a10 :: t) (iv z :: st) μ := j_istoreG (i := 10) G hd hn ok kk
theorem j_astore10 (G : GO E X own cc n ret) {z : Nat} {a0 a1 a2 a3 a4 a5 a6 a7 a8 a9 a10 : Option Value} {t : List (Option Value)} (hd : decode cc pc = .ok (.astore 10, 2)) (hn : 10 < n) (ok : okS (a0 :: a1 :: a2 :: a3 :: a4 :: a5 :: a6 :: a7 :: a8 :: a9 :: a10 :: t) 10 = true) (kk : JJ E X d post n (pc + 2) (a0 :: a1 :: a2 :: a3 :: a4 :: a5 :: a6 :: a7 :: a8 :: a9 :: some (rf E z) :: t) st μ) : JJ E X d post n pc (a0 :: a1 :: a2 :: a3 :: a4 :: a5 :: a6 :: a7 :: a8 :: a9 :: a10 :: t) (rf E z :: st) μ := j_astoreG (i := 10) G hd hn ok kk
theorem j_astoreN10 (G : GO E X own cc n ret)  {a0 a1 a2 a3 a4 a5 a6 a7 a8 a9 a10 : Option Value} {t : List (Option Value)} (hd : decode cc pc = .ok (.astore 10, 2)) (hn : 10 < n) (ok : okS (a0 :: a1 :: a2 :: a3 :: a4 :: a5 :: a6 :: a7 :: a8 :: a9 :: a10 :: t) 10 = true) (kk : JJ E X d post n (pc + 2) (a0 :: a1 :: a2 :: a3 :: a4 :: a5 :: a6 :: a7 :: a8 :: a9 :: some (.null) :: t) st μ) : JJ E X d post n pc (a0 :: a1 :: a2 :: a3 :: a4 :: a5 :: a6 :: a7 :: a8 :: a9 :: a10 :: t) (.null :: st) μ := j_astoreGN (i := 10) G hd hn ok kk
theorem j_iinc10 (G : GO E X own cc n ret) {z c : Int} {a0 a1 a2 a3 a4 a5 a6 a7 a8 a9 a10 : Option Value} {t : List (Option Value)} (hd : decode cc pc = .ok (.iinc 10 c, 3)) (hn : 10 < n) (ha : a10 = some (iv z)) (ok : okS (a0 :: a1 :: a2 :: a3 :: a4 :: a5 :: a6 :: a7 :: a8 :: a9 :: a10 :: t) 10 = true) (kk : JJ E X d post n (pc + 3) (a0 :: a1 :: a2 :: a3 :: a4 :: a5 :: a6 :: a7 :: a8 :: a9 :: some (iv (z + c)) :: t) st μ) : JJ E X d post n pc (a0 :: a1 :: a2 :: a3 :: a4 :: a5 :: a6 :: a7 :: a8 :: a9 :: a10 :: t) st μ := j_iincG (i := 10) G hd hn (by rw [ha]; rfl) ok kk
theorem j_istore11 (G : GO E X own cc n ret) {z : Int} {a0 a1 a2 a3 a4 a5 a6 a7 a8 a9 a10 a11 : Option Value} {t : List (Option Value)} (hd : decode cc pc = .ok (.istore 11, 2)) (hn : 11 < n) (ok : okS (a0 :: a1 :: a2 :: a3 :: a4 :: a5 :: a6 :: a7 :: a8 :: a9 :: a10 :: a11 :: t) 11 = true) (kk : JJ E X d post n (pc + 2) (a0 :: a1 :: a2 :: a3 :: a4 :: a5 :: a6 :: a7 :: a8 :: a9 :: a10 :: some (iv z) :: t) st μ) : JJ E X d post n pc (a0 :: a1 :: a2 :: a3 :: a4 :: a5 :: a6 :: a7 :: a8 :: a9 :: a10 :: a11 :: t) (iv z :: st) μ := j_istoreG (i := 11) G hd hn ok kk
theorem j_astore11 (G : GO E X own cc n ret) {z : Nat} {a0 a1 a2 a3 a4 a5 a6 a7 a8 a9 a10 a11 : Option Value} {t : List (Option Value)} (hd : decode cc pc = .ok (.astore 11, 2)) (hn : 11 < n) (ok : okS (a0 :: a1 :: a2 :: a3 :: a4 :: a5 :: a6 :: a7 :: a8 :: a9 :: a10 :: a11 :: t) 11 = true) (kk : JJ E X d post n (pc + 2) (a0 :: a1 :: a2 :: a3 :: a4 :: a5 :: a6 :: a7 :: a8 :: a9 :: a10 :: some (rf E z) :: t) st μ) : JJ E X d post n pc (a0 :: a1 :: a2 :: a3 :: a4 :: a5 :: a6 :: a7 :: a8 :: a9 :: a10 :: a11 :: t) (rf E z :: st) μ := j_astoreG (i := 11) G hd hn ok kk
theorem j_astoreN11 (G : GO E X own cc n ret)  {a0 a1 a2 a3 a4 a5 a6 a7 a8 a9 a10 a11 : Option Value} {t : List (Option Value)} (hd : decode cc pc = .ok (.astore 11, 2)) (hn : 11 < n) (ok : okS (a0 :: a1 :: a2 :: a3 :: a4 :: a5 :: a6 :: a7 :: a8 :: a9 :: a10 :: a11 :: t) 11 = true) (kk : JJ E X d post n (pc + 2) (a0 :: a1 :: a2 :: a3 :: a4 :: a5 :: a6 :: a7 :: a8 :: a9 :: a10 :: some (.null) :: t) st μ) : JJ E X d post n pc (a0 :: a1 :: a2 :: a3 :: a4 :: a5 :: a6 :: a7 :: a8 :: a9 :: a10 :: a11 :: t) (.null :: st) μ := j_astoreGN (i := 11) G hd hn ok kk
theorem j_iinc11 (G : GO E X own cc n ret) {z c : Int} {a0 a1 a2 a3 a4 a5 a6 a7 a8 a9 a10 a11 : Option Value} {t : List (Option Value)} (hd : decode cc pc = .ok (.iinc 11 c, 3)) (hn : 11 < n) (ha : a11 = some (iv z)) (ok : okS (a0 :: a1 :: a2 :: a3 :: a4 :: a5 :: a6 :: a7 :: a8 :: a9 :: a10 :: a11 :: t) 11 = true) (kk : JJ E X d post n (pc + 3) (a0 :: a1 :: a2 :: a3 :: a4 :: a5 :: a6 :: a7 :: a8 :: a9 :: a10 :: some (iv (z + c)) :: t) st μ) : JJ E X d post n pc (a0 :: a1 :: a2 :: a3 :: a4 :: a5 :: a6 :: a7 :: a8 :: a9 :: a10 :: a11 :: t) st μ := j_iincG (i := 11) G hd hn (by rw [ha]; rfl) ok kk
theorem j_istore12 (G : GO E X own cc n ret) {z : Int} {a0 a1 a2 a3 a4 a5 a6 a7 a8 a9 a10 a11 a12 : Option Value} {t : List (Option Value)} (hd : decode cc pc = .ok (.istore 12, 2)) (hn : 12 < n) (ok : okS (a0 :: a1 :: a2 :: a3 :: a4 :: a5 :: a6 :: a7 :: a8 :: a9 :: a10 :: a11 :: a12 :: t) 12 = true) (kk : JJ E X d post n (pc + 2) (a0 :: a1 :: a2 :: a3 :: a4 :: a5 :: a6 :: a7 :: a8 :: a9 :: a10 :: a11 :: some (iv z) :: t) st μ) : JJ E X d post n pc (a0 :: a1 :: a2 :: a3 :: a4 :: a5 :: a6 :: a7 :: a8 :: a9 :: a10 :: a11 :: a12 :: t) (iv z :: st) μ := j_istoreG (i := 12) G hd hn ok kk
theorem j_astore12 (G : GO E X own cc n ret) {z : Nat} {a0 a1 a2 a3 a4 a5 a6 a7 a8 a9 a10 a11 a12 : Option Value} {t : List (Option Value)} (hd : decode cc pc = .ok (.astore 12, 2)) (hn : 12 < n) (ok : okS (a0 :: a1 :: a2 :: a3 :: a4 :: a5 :: a6 :: a7 :: a8 :: a9 :: a10 :: a11 :: a12 :: t) 12 = true) (kk : JJ E X d post n (pc + 2) (a0 :: a1 :: a2 :: a3 :: a4 :: a5 :: a6 :: a7 :: a8 :: a9 :: a10 :: a11 :: some (rf E z) :: t) st μ) : JJ E X d post n pc (a0 :: a1 :: a2 :: a3 :: a4 :: a5 :: a6 :: a7 :: a8 :: a9 :: a10 :: a11 :: a12 :: t) (rf E z :: st) μ := j_astoreG (i := 12) G hd hn ok kk
theorem j_astoreN12 (G : GO E X own cc n ret)  {a0 a1 a2 a3 a4 a5 a6 a7 a8 a9 a10 a11 a12 : Option Value} {t : List (Option Value)} (hd : decode cc pc = .ok (.astore 12, 2)) (hn : 12 < n) (ok : okS (a0 :: a1 :: a2 :: a3 :: a4 :: a5 :: a6 :: a7 :: a8 :: a9 :: a10 :: a11 :: a12 :: t) 12 = true) (kk : JJ E X d post n (pc + 2) (a0 :: a1 :: a2 :: a3 :: a4 :: a5 :: a6 :: a7 :: a8 :: a9 :: a10 :: a11 :: some (.null) :: t) st μ) : JJ E X d post n pc (a0 :: a1 :: a2 :: a3 :: a4 :: a5 :: a6 :: a7 :: a8 :: a9 :: a10 :: a11 :: a12 :: t) (.null :: st) μ := j_astoreGN (i := 12) G hd hn ok kk
theorem j_iinc12 (G : GO E X own cc n ret) {z c : Int} {a0 a1 a2 a3 a4 a5 a6 a7 a8 a9 a10 a11 a12 : Option Value} {t : List (Option Value)} (hd : decode cc pc = .ok (.iinc 12 c, 3)) (hn : 12 < n) (ha : a12 = some (iv z)) (ok : okS (a0 :: a1 :: a2 :: a3 :: a4 :: a5 :: a6 :: a7 :: a8 :: a9 :: a10 :: a11 :: a12 :: t) 12 = true) (kk : JJ E X d post n (pc + 3) (a0 :: a1 :: a2 :: a3 :: a4 :: a5 :: a6 :: a7 :: a8 :: a9 :: a10 :: a11 :: some (iv (z + c)) :: t) st μ) : JJ E X d post n pc (a0 :: a1 :: a2 :: a3 :: a4 :: a5 :: a6 :: a7 :: a8 :: a9 :: a10 :: a11 :: a12 :: t) st μ := j_iincG (i := 12) G hd hn (by rw [ha]; rfl) ok kk
theorem j_istore13 (G : GO E X own cc n ret) {z : Int} {a0 a1 a2 a3 a4 a5 a6 a7 a8 a9 a10 a11 a12 a13 : Option Value} {t : List (Option Value)} (hd : decode cc pc = .ok (.istore 13, 2)) (hn : 13 < n) (ok : okS (a0 :: a1 :: a2 :: a3 :: a4 :: a5 :: a6 :: a7 :: a8 :: a9 :: a10 :: a11 :: a12 :: a13 :: t) 13 = true) (kk : JJ E X d post n (pc + 2) (a0 :: a1 :: a2 :: a3 :: a4 :: a5 :: a6 :: a7 :: a8 :: a9 :: a10 :: a11 :: a12 :: some (iv z) :: t) st μ) : JJ E X d post n pc (a0 :: a1 :: a2 :: a3 :: a4 :: a5 :: a6 :: a7 :: a8 :: a9 :: a10 :: a11 :: a12 :: a13 :: t) (iv z :: st) μ := j_istoreG (i := 13) G hd hn ok kk
theorem j_astore13 (G : GO E X own cc n ret) {z : Nat} {a0 a1 a2 a3 a4 a5 a6 a7 a8 a9 a10 a11 a12 a13 : Option Value} {t : List (Option Value)} (hd : decode cc pc = .ok (.astore 13, 2)) (hn : 13 < n) (ok : okS (a0 :: a1 :: a2 :: a3 :: a4 :: a5 :: a6 :: a7 :: a8 :: a9 :: a10 :: a11 :: a12 :: a13 :: t) 13 = true) (kk : JJ E X d post n (pc + 2) (a0 :: a1 :: a2 :: a3 :: a4 :: a5 :: a6 :: a7 :: a8 :: a9 :: a10 :: a11 :: a12 :: some (rf E z) :: t) st μ) : JJ E X d post n pc (a0 :: a1 :: a2 :: a3 :: a4 :: a5 :: a6 :: a7 :: a8 :: a9 :: a10 :: a11 :: a12 :: a13 :: t) (rf E z :: st) μ := j_astoreG (i := 13) G hd hn ok kk
theorem j_astoreN13 (G : GO E X own cc n ret)  {a0 a1 a2 a3 a4 a5 a6 a7 a8 a9 a10 a11 a12 a13 : Option Value} {t : List (Option Value)} (hd : decode cc pc = .ok (.astore 13, 2)) (hn : 13 < n) (ok : okS (a0 :: a1 :: a2 :: a3 :: a4 :: a5 :: a6 :: a7 :: a8 :: a9 :: a10 :: a11 :: a12 :: a13 :: t) 13 = true) (kk : JJ E X d post n (pc + 2) (a0 :: a1 :: a2 :: a3 :: a4 :: a5 :: a6 :: a7 :: a8 :: a9 :: a10 :: a11 :: a12 :: some (.null) :: t) st μ) : JJ E X d post n pc (a0 :: a1 :: a2 :: a3 :: a4 :: a5 :: a6 :: a7 :: a8 :: a9 :: a10 :: a11 :: a12 :: a13 :: t) (.null :: st) μ := j_astoreGN (i := 13) G hd hn ok kk
theorem j_iinc13 (G : GO E X own cc n ret) {z c : Int} {a0 a1 a2 a3 a4 a5 a6 a7 a8 a9 a10 a11 a12 a13 : Option Value} {t : List (Option Value)} (hd : decode cc pc = .ok (.iinc 13 c, 3)) (hn : 13 < n) (ha : a13 = some (iv z)) (ok : okS (a0 :: a1 :: a2 :: a3 :: a4 :: a5 :: a6 :: a7 :: a8 :: a9 :: a10 :: a11 :: a12 :: a13 :: t) 13 = true) (kk : JJ E X d post n (pc + 3) (a0 :: a1 :: a2 :: a3 :: a4 :: a5 :: a6 :: a7 :: a8 :: a9 :: a10 :: a11 :: a12 :: some (iv (z + c)) :: t) st μ) : JJ E X d post n pc (a0 :: a1 :: a2 :: a3 :: a4 :: a5 :: a6 :: a7 :: a8 :: a9 :: a10 :: a11 :: a12 :: a13 :: t) st μ := j_iincG (i := 13) G hd hn (by rw [ha]; rfl) ok kk
theorem j_istore14 (G : GO E X own cc n ret) {z : Int} {a0 a1 a2 a3 a4 a5 a6 a7 a8 a9 a10 a11 a12 a13 a14 : Option Value} {t : List (Option Value)} (hd : decode cc pc = .ok (.istore 14, 2)) (hn : 14 < n) (ok : okS (a0 :: a1 :: a2 :: a3 :: a4 :: a5 :: a6 :: a7 :: a8 :: a9 :: a10 :: a11 :: a12 :: a13 :: a14 :: t) 14 = true) (kk : JJ E X d post n (pc + 2) (a0 :: a1 :: a2 :: a3 :: a4 :: a5 :: a6 :: a7 :: a8 :: a9 :: a10 :: a11 :: a12 :: a13 :: some (iv z) :: t) st μ) : JJ E X d post n pc (a0 :: a1 :: a2 :: a3 :: a4 :: a5 :: a6 :: a7 :: a8 :: a9 :: a10 :: a11 :: a12 :: a13 :: a14 :: t) (iv z :: st) μ := j_istoreG (i := 14) G hd hn ok kk
theorem j_astore14 (G : GO E X own cc n ret) {z : Nat} {a0 a1 a2 a3 a4 a5 a6 a7 a8 a9 a10 a11 a12 a13 a14 : Option Value} {t : List (Option Value)} (hd : decode cc pc = .ok (.astore 14, 2)) (hn : 14 < n) (ok : okS (a0 :: a1 :: a2 :: a3 :: a4 :: a5 :: a6 :: a7 :: a8 :: a9 :: a10 :: a11 :: a12 :: a13 :: a14 :: t) 14 = true) (kk : JJ E X d post n (pc + 2) (a0 :: a1 :: a2 :: a3 :: a4 :: a5 :: a6 :: a7 :: a8 :: a9 :: a10 :: a11 :: a12 :: a13 :: some (rf E z) :: t) st μ) : JJ E X d post n pc (a0 :: a1 :: a2 :: a3 :: a4 :: a5 :: a6 :: a7 :: a8 :: a9 :: a10 :: a11 :: a12 :: a13 :: a14 :: t) (rf E z :: st) μ := j_astoreG (i := 14) G hd hn ok kk
theorem j_astoreN14 (G : GO E X own cc n ret)  {a0 a1 a2 a3 a4 a5 a6 a7 a8 a9 a10 a11 a12 a13 a14 : Option Value} {t : List (Option Value)} (hd : decode cc pc = .ok (.astore 14, 2)) (hn : 14 < n) (ok : okS (a0 :: a1 :: a2 :: a3 :: a4 :: a5 :: a6 :: a7 :: a8 :: a9 :: a10 :: a11 :: a12 :: a13 :: a14 :: t) 14 = true) (kk : JJ E X d post n (pc + 2) (a0 :: a1 :: a2 :: a3 :: a4 :: a5 :: a6 :: a7 :: a8 :: a9 :: a10 :: a11 :: a12 :: a13 :: some (.null) :: t) st μ) : JJ E X d post n pc (a0 :: a1 :: a2 :: a3 :: a4 :: a5 :: a6 :: a7 :: a8 :: a9 :: a10 :: a11 :: a12 :: a13 :: a14 :: t) (.null :: st) μ := j_astoreGN (i := 14) G hd hn ok kk
theorem j_iinc14 (G : GO E X own cc n ret) {z c : Int} {a0 a1 a2 a3 a4 a5 a6 a7 a8 a9 a10 a11 a12 a13 a14 : Option Value} {t : List (Option Value)} (hd : decode cc pc = .ok (.iinc 14 c, 3)) (hn : 14 < n) (ha : a14 = some (iv z)) (ok : okS (a0 :: a1 :: a2 :: a3 :: a4 :: a5 :: a6 :: a7 :: a8 :: a9 :: a10 :: a11 :: a12 :: a13 :: a14 :: t) 14 = true) (kk : JJ E X d post n (pc + 3) (a0 :: a1 :: a2 :: a3 :: a4 :: a5 :: a6 :: a7 :: a8 :: a9 :: a10 :: a11 :: a12 :: a13 :: some (iv (z + c)) :: t) st μ) : JJ E X d post n pc (a0 :: a1 :: a2 :: a3 :: a4 :: a5 :: a6 :: a7 :: a8 :: a9 :: a10 :: a11 :: a12 :: a13 :: a14 :: t) st μ := j_iincG (i := 14) G hd hn (by rw [ha]; rfl) ok kk
end JS
