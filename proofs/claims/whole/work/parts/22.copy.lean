/-- n numbers of the cell src from sp on into the cell dst from dp on -/
def cpm (μ : MemT) (src : Nat) (sp : Int) (dst : Nat) (dp : Int) (m : Int) : MemT := fun a j => if a = dst ∧ dp ≤ j ∧ j < dp + m then μ src (sp + (j - dp)) else μ a j
theorem cpm_in {μ : MemT} {src dst : Nat} {sp dp m j : Int} (h : dp ≤ j ∧ j < dp + m) : cpm μ src sp dst dp m dst j = μ src (sp + (j - dp)) := if_pos ⟨rfl, h⟩
theorem cpm_out {μ : MemT} {src dst : Nat} {sp dp m j : Int} (h : ¬ (dp ≤ j ∧ j < dp + m)) (a : Nat) : cpm μ src sp dst dp m a j = μ a j := if_neg (fun q => h q.2)
theorem cpm_cell {μ : MemT} {src dst a : Nat} {sp dp m : Int} (h : a ≠ dst) : cpm μ src sp dst dp m a = μ a := by
  funext j
  exact if_neg (fun q => h q.1)
def CW (own : String) (idx : Nat) : Prop := Cond.methodLink own idx arraycopyName ∈ Tb ∧ Cond.native arraycopyName ∈ Tb ∧ Cond.static arraycopyName ∈ Tb ∧ Cond.initialized "java/lang/System" ∈ Tb
theorem j_copy {E : EE} {X : XX} {d n pc : Nat} {post : Pst} {ls : List (Option Value)} {st : List Value} {μ : MemT} {own : String} {cc : ByteArray} {ret : Option FieldType} (G : GO E X own cc n ret) {idx src dst n0 n1 : Nat} {sp dp m : Int} {rs rs2 : List (Option Nat)} (hw : CW own idx) (hd : decode cc pc = .ok (.invokestatic idx, 3)) (h0 : (eY E)[src]? = some (20, n0, rs)) (h1 : (eY E)[dst]? = some (20, n1, rs2)) (hs : 0 ≤ sp ∧ 0 ≤ dp ∧ 0 ≤ m ∧ sp + m ≤ n0 ∧ dp + m ≤ n1 ∧ n0 < 2147483648 ∧ n1 < 2147483648) (hdd : 1 ≤ d) (hcat : (st.map fun v => v.category).sum ≤ 8) (kk : JJ E X d post n (pc + 3) ls st (cpm μ src sp dst dp m)) : JJ E X d post n pc ls (iv m :: iv dp :: rf E dst :: iv sp :: rf E src :: st) μ := by
  intro ho H locs la hP hS hl
  obtain ⟨w1, w2, w3, w4⟩ := hw
  have hts := G.2.2.2.2.2.1
  have e1 : ((Int32.ofInt sp).toNatClampNeg : Int) = sp := (ix_in (nn := 2147483648) (by omega)).2
  have e2 : ((Int32.ofInt dp).toNatClampNeg : Int) = dp := (ix_in (nn := 2147483648) (by omega)).2
  have e3 : ((Int32.ofInt m).toNatClampNeg : Int) = m := (ix_in (nn := 2147483648) (by omega)).2
  have nn : ∀ z : Int, 0 ≤ z ∧ z < 2147483648 → ¬ Int32.ofInt z < 0 := fun z hz q => by
    have := (ofI_lt (x := z) (y := 0) (by omega) (by omega)).mp q
    omega
  refine va_copyi G.1 G.2.1 (by rw [hl.1]; exact G.2.2.1) G.2.2.2.2.1 (hts _ w1) (hts _ w2) (hts _ w3) (hts _ w4) G.2.2.2.2.2.2.1 hP (wd_D E μ) hS src dst 0 0 (wd_of μ h0) (wd_of μ h1) rfl rfl rfl (nn _ (by omega)) (nn _ (by omega)) (nn _ (by omega)) (by show _ ≤ n0; omega) (by show _ ≤ n1; omega) (fun _ _ => rfl) hdd ?_ hd (fun H1 locs1 hP1 hD1 hS1 => ?_)
  · have h9 : nativeFrameWords "java/lang/System" "arraycopy" 5 + 11 ≤ 56 := by decide
    show (st.map fun v => v.category).sum + (nativeFrameWords "java/lang/System" "arraycopy" 5 + 11) ≤ 64 * d
    omega
  · rw [wd_set (μ2 := cpm μ src sp dst dp m) h1 ?_ (fun j hj => cpm_cell hj)] at hP1
    · refine kk (fun a j ha => ?_) H1 locs1 la hP1 hS1 hl
      unfold cpm
      split
      · exact ho src _ (fun x y q => by rw [h0] at q; cases q)
      · exact ho a j ha
    · rw [en_int]
      refine congrArg (fun f => (Sum.inl (eA E 20, n1, Sum.inl f) : va_E)) (funext fun j => ?_)
      unfold va_cpy cpm
      by_cases c1 : (Int32.ofInt dp).toNatClampNeg ≤ j ∧ j < (Int32.ofInt dp).toNatClampNeg + (Int32.ofInt m).toNatClampNeg
      · rw [if_pos c1, if_pos ⟨rfl, by omega, by omega⟩]
        refine congrArg (fun z => Int32.ofInt (μ src z)) ?_
        omega
      · rw [if_neg c1, if_neg (fun q => c1 ⟨by omega, by omega⟩)]
theorem cwc_X9_43 : CW RX9 43 := ⟨Tb_mem 472 (by decide +kernel) (by decide +kernel), Tb_mem 474 (by decide +kernel) (by decide +kernel), Tb_mem 473 (by decide +kernel) (by decide +kernel), Tb_mem 86 (by decide +kernel) (by decide +kernel)⟩
theorem kw_max : Cond.code Lib.Math.max.name Lib.Math.max.code 2 (some .int) ∈ Tb := Tb_mem 112 (by decide +kernel) (by decide +kernel)
theorem kw_min : Cond.code Lib.Math.min.name Lib.Math.min.code 2 (some .int) ∈ Tb := Tb_mem 537 (by decide +kernel) (by decide +kernel)
theorem ofI_max {x y : Int} (hx : -2147483648 ≤ x ∧ x < 2147483648) (hy : -2147483648 ≤ y ∧ y < 2147483648) : (if Int32.ofInt x < Int32.ofInt y then Int32.ofInt y else Int32.ofInt x) = Int32.ofInt (max x y) := by
  by_cases h_c : x < y
  · rw [if_pos ((ofI_lt hx hy).mpr h_c), Int.max_eq_right (by omega)]
  · rw [if_neg (fun q => h_c ((ofI_lt hx hy).mp q)), Int.max_eq_left (by omega)]
theorem ofI_min {x y : Int} (hx : -2147483648 ≤ x ∧ x < 2147483648) (hy : -2147483648 ≤ y ∧ y < 2147483648) : (if Int32.ofInt y < Int32.ofInt x then Int32.ofInt y else Int32.ofInt x) = Int32.ofInt (min x y) := by
  by_cases h_c : y < x
  · rw [if_pos ((ofI_lt hy hx).mpr h_c), Int.min_eq_right (by omega)]
  · rw [if_neg (fun q => h_c ((ofI_lt hy hx).mp q)), Int.min_eq_left (by omega)]
theorem j_max {E : EE} {X : XX} {d n pc : Nat} {post : Pst} {ls : List (Option Value)} {st : List Value} {μ : MemT} {own : String} {cc : ByteArray} {ret : Option FieldType} (G : GO E X own cc n ret) {idx : Nat} {x y : Int} (hM : MS own idx yJ9_max_7cf53 2) (hd : decode cc pc = .ok (.invokestatic idx, 3)) (hx : -2147483648 ≤ x ∧ x < 2147483648) (hy : -2147483648 ≤ y ∧ y < 2147483648) (hdd : 1 ≤ d) (hcat : (st.map fun v => v.category).sum ≤ 8) (kk : JJ E X d post n (pc + 3) ls (iv (max x y) :: st) μ) : JJ E X d post n pc ls (iv y :: iv x :: st) μ := by
  obtain ⟨w1, w2, w3, -, -⟩ := hM
  have hts := G.2.2.2.2.2.1
  refine j_go (fun H locs la Q hl w => va_mmax G.1 G.2.1 (by rw [hl.1]; exact G.2.2.1) G.2.2.2.2.1 (hts _ w1) (hts _ w2) (hts _ w3) (hts _ kw_max) hdd ?_ (Nat.zero_le _) (Nat.zero_le _) hd ?_) kk
  · show _ + 13 ≤ 64 * d
    omega
  · rw [ofI_max hx hy]
    exact w
theorem j_min {E : EE} {X : XX} {d n pc : Nat} {post : Pst} {ls : List (Option Value)} {st : List Value} {μ : MemT} {own : String} {cc : ByteArray} {ret : Option FieldType} (G : GO E X own cc n ret) {idx : Nat} {x y : Int} (hM : MS own idx yJ9_min_7cf53 2) (hd : decode cc pc = .ok (.invokestatic idx, 3)) (hx : -2147483648 ≤ x ∧ x < 2147483648) (hy : -2147483648 ≤ y ∧ y < 2147483648) (hdd : 1 ≤ d) (hcat : (st.map fun v => v.category).sum ≤ 8) (kk : JJ E X d post n (pc + 3) ls (iv (min x y) :: st) μ) : JJ E X d post n pc ls (iv y :: iv x :: st) μ := by
  obtain ⟨w1, w2, w3, -, -⟩ := hM
  have hts := G.2.2.2.2.2.1
  refine j_go (fun H locs la Q hl w => va_mmin G.1 G.2.1 (by rw [hl.1]; exact G.2.2.1) G.2.2.2.2.1 (hts _ w1) (hts _ w2) (hts _ w3) (hts _ kw_min) hdd ?_ (Nat.zero_le _) (Nat.zero_le _) hd ?_) kk
  · show _ + 13 ≤ 64 * d
    omega
  · first | (rw [ofI_min hx hy]; exact w) | (have h_m := ofI_min hx hy; split at h_m <;> split <;> simp_all)
theorem cpm_0 {μ : MemT} {src dst : Nat} {sp dp : Int} : cpm μ src sp dst dp 0 = μ := by
  funext a j
  exact if_neg (fun q => by omega)
theorem cpm_s {μ : MemT} {src dst : Nat} {sp dp m : Int} (hm : 0 ≤ m) : up (cpm μ src sp dst dp m) dst (dp + m) (μ src (sp + m)) = cpm μ src sp dst dp (m + 1) := by
  funext a j
  unfold up cpm
  by_cases h1 : a = dst
  · by_cases h2 : j = dp + m
    · rw [if_pos ⟨h1, h2⟩, if_pos ⟨h1, by omega⟩]
      congr 1
      omega
    · rw [if_neg (fun q => h2 q.2)]
      by_cases h3 : dp ≤ j ∧ j < dp + m
      · rw [if_pos ⟨h1, h3⟩, if_pos ⟨h1, by omega⟩]
      · rw [if_neg (fun q => h3 q.2), if_neg (fun q => h3 (by omega))]
  · rw [if_neg (fun q => h1 q.1), if_neg (fun q => h1 q.1), if_neg (fun q => h1 q.1)]
theorem cpm_at {μ : MemT} {src dst a : Nat} {sp dp m j : Int} (h : a ≠ dst) : cpm μ src sp dst dp m a j = μ a j := by rw [cpm_cell h]
/-- a cell filled with a number up to a place -/
def fil (μ : MemT) (k : Nat) (m z : Int) : MemT := fun a j => if a = k ∧ 0 ≤ j ∧ j < m then z else μ a j
theorem fil_cell {μ : MemT} {k a : Nat} {m z : Int} (h : a ≠ k) : fil μ k m z a = μ a := by
  funext j
  exact if_neg (fun q => h q.1)
theorem fil_in {μ : MemT} {k : Nat} {m z j : Int} (h : 0 ≤ j ∧ j < m) : fil μ k m z k j = z := if_pos ⟨rfl, h⟩
theorem fil_0 {μ : MemT} {k : Nat} {z : Int} : fil μ k 0 z = μ := by
  funext a j
  exact if_neg (fun q => by omega)
theorem fil_s {μ : MemT} {k : Nat} {m z : Int} (hm : 0 ≤ m) : up (fil μ k m z) k m z = fil μ k (m + 1) z := by
  funext a j
  unfold up fil
  by_cases h1 : a = k
  · by_cases h2 : j = m
    · rw [if_pos ⟨h1, h2⟩, if_pos ⟨h1, by omega⟩]
    · rw [if_neg (fun q => h2 q.2)]
      by_cases h3 : 0 ≤ j ∧ j < m
      · rw [if_pos ⟨h1, h3⟩, if_pos ⟨h1, by omega⟩]
      · rw [if_neg (fun q => h3 q.2), if_neg (fun q => h3 (by omega))]
  · rw [if_neg (fun q => h1 q.1), if_neg (fun q => h1 q.1), if_neg (fun q => h1 q.1)]
theorem fil_at {μ : MemT} {k a : Nat} {m z j : Int} (h : a ≠ k) : fil μ k m z a j = μ a j := by rw [fil_cell h]
