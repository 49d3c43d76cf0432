/-- a test -/
def hdB (v c m : Int) : Bool := if c = 60 then decide (v < m) else if c = 62 then decide (m < v) else decide (v = m)
/-- a rule's text read sign by sign: k signs left, from the i-th on -/
def clB (f fact : Int → Int) : Nat → Nat → Bool → Int → Int → Int → Bool
  | 0, _, z, s, c, m => z && hdB s c m
  | k + 1, i, z, s, c, m =>
    if 48 ≤ f i ∧ f i ≤ 57 then clB f fact k (i + 1) z s c (m * 10 + f i - 48)
    else if f i = 60 ∨ f i = 62 ∨ f i = 61 then clB f fact k (i + 1) z s (f i) m
    else if f i = 97 ∨ f i = 121 ∨ f i = 107 ∨ f i = 115 then clB f fact k (i + 1) z (fact (f i)) c m
    else if f i = 124 then (if (z && hdB s c m) = true then true else clB f fact k (i + 1) true s c 0)
    else clB f fact k (i + 1) (z && hdB s c m) s c 0
theorem clB_0 (f fact : Int → Int) (i : Nat) (z : Bool) (s c m : Int) : clB f fact 0 i z s c m = (z && hdB s c m) := rfl
theorem clB_s (f fact : Int → Int) (k i : Nat) (z : Bool) (s c m : Int) : clB f fact (k + 1) i z s c m = if 48 ≤ f i ∧ f i ≤ 57 then clB f fact k (i + 1) z s c (m * 10 + f i - 48)
    else if f i = 60 ∨ f i = 62 ∨ f i = 61 then clB f fact k (i + 1) z s (f i) m
    else if f i = 97 ∨ f i = 121 ∨ f i = 107 ∨ f i = 115 then clB f fact k (i + 1) z (fact (f i)) c m
    else if f i = 124 then (if (z && hdB s c m) = true then true else clB f fact k (i + 1) true s c 0)
    else clB f fact k (i + 1) (z && hdB s c m) s c 0 := rfl
/-- digits so far keep a number small -/
def nmO (q m : Int) : Prop := (q ≤ 2 → m = 0) ∧ (q = 3 → 0 ≤ m ∧ m < 10) ∧ (q = 4 → 0 ≤ m ∧ m < 100) ∧ (q = 5 → 0 ≤ m ∧ m < 1000)
theorem nmO_rg {q m : Int} (h : nmO q m) (hq : q ≤ 5) : 0 ≤ m ∧ m < 1000 := by
  obtain ⟨h1, h2, h3, h4⟩ := h
  omega
theorem rst_mono {f : Int → Int} {n : Nat} (h : 0 ≤ rst f n) : ∀ i, i ≤ n → 0 ≤ rst f i := by
  have key : ∀ m, 0 ≤ rst f m → ∀ k, k ≤ m → 0 ≤ rst f (m - k) := by
    intro m h_m k
    induction k with
    | zero => intro _; exact h_m
    | succ k ih =>
      intro h_k
      have h_1 := ih (by omega)
      have h_2 := rst_s f (m - (k + 1))
      rw [show m - (k + 1) + 1 = m - k by omega] at h_2
      by_cases h_c : rst f (m - (k + 1)) < 0
      · rw [if_pos h_c] at h_2
        omega
      · omega
  intro i h_i
  have := key n h (n - i) (by omega)
  rw [show n - (n - i) = i by omega] at this
  exact this
theorem rst_step {f : Int → Int} {i : Nat} (h : 0 ≤ rst f i) : rst f (i + 1) = stp (rst f i) (f i) := by rw [rst_s, if_neg (by omega)]
/-- where a sign of each kind may stand, and what follows -/
theorem stp_dig {q g : Int} (h : 0 ≤ stp q g) (hq : 0 ≤ q ∧ q ≤ 5) (hg : 48 ≤ g ∧ g ≤ 57) : stp q g = q + 1 ∧ 2 ≤ q ∧ q < 5 := by
  unfold stp at *
  repeat' split at *
  all_goals first | omega | exact ⟨rfl, by omega, by omega⟩
theorem stp_cmp {q g : Int} (h : 0 ≤ stp q g) (hq : 0 ≤ q ∧ q ≤ 5) (hg : g = 60 ∨ g = 62 ∨ g = 61) : stp q g = 2 ∧ q = 1 := by
  unfold stp at *
  repeat' split at *
  all_goals first | omega | exact ⟨rfl, by omega⟩
theorem stp_sub {q g : Int} (h : 0 ≤ stp q g) (hq : 0 ≤ q ∧ q ≤ 5) (hg : g = 97 ∨ g = 121 ∨ g = 107 ∨ g = 115) : stp q g = 1 ∧ q = 0 := by
  unfold stp at *
  repeat' split at *
  all_goals first | omega | exact ⟨rfl, by omega⟩
theorem stp_oth {q g : Int} (h : 0 ≤ stp q g) (hq : 0 ≤ q ∧ q ≤ 5) (h1 : ¬ (48 ≤ g ∧ g ≤ 57)) (h2 : ¬ (g = 60 ∨ g = 62 ∨ g = 61)) (h3 : ¬ (g = 97 ∨ g = 121 ∨ g = 107 ∨ g = 115)) : stp q g = 0 ∧ 2 < q ∧ (g = 38 ∨ g = 124) := by
  unfold stp at *
  repeat' split at *
  all_goals first | omega | exact ⟨rfl, by omega, by omega⟩
theorem stp_0 {g : Int} (h : 0 ≤ stp 0 g) : (g = 97 ∨ g = 121 ∨ g = 107 ∨ g = 115) ∧ stp 0 g = 1 := by
  unfold stp at *
  repeat' split at *
  all_goals first | omega | exact ⟨by omega, rfl⟩
theorem stp_1 {g : Int} (h : 0 ≤ stp 1 g) : (g = 60 ∨ g = 62 ∨ g = 61) ∧ stp 1 g = 2 := by
  unfold stp at *
  repeat' split at *
  all_goals first | omega | exact ⟨by omega, rfl⟩
/-- what a rule asks of a reader -/
def fcS (σ : MemT) (r : Nat) (g : Int) : Int := if g = 97 then σ (78 + 2 * r) 0 else if g = 121 then (ownA (σ (79 + 2 * r)) 5).2 else if g = 107 then (pop (knA (σ (79 + 2 * r)) 5) : Int) else σ (78 + 2 * r) 2
theorem pop_rg (a : Nat) : pop a ≤ 12 := popN_le a 12
section VO
variable {E : EE} {x x1 x2 : CX} {μ σ : MemT}
theorem x_holds (v c m : Int) (h_v : (-2147483648 ≤ v ∧ v < 2147483648)) (h_c : (-2147483648 ≤ c ∧ c < 2147483648)) (h_m : (-2147483648 ≤ m ∧ m < 2147483648)) : CT E 0 yX7_holds [iv v, iv c, iv m] μ (rI (b2 (hdB v c m = true)) μ) := by
  refine CT.ofJ (own := RX7) (cc := cX7_holds) (n := 3) (ret := (some .boolean)) (by decide) rfl cw_X7_holds (by decide) (Nat.le_of_ble_eq_true rfl) (ls := [some (iv v), some (iv c), some (iv m)]) rfl ?_
  intro X G
  refine j_iload_n G dX7_holds_0 rfl ?_
  refine j_bipush G dX7_holds_1 (by decide) ?_
  refine j_icmp_ne G dX7_holds_3 (tgt := 17) (by decide) (by omega) (by omega) (fun c_3 => ?_) (fun c_3 => ?_)
  · refine j_iload_n G dX7_holds_17 rfl ?_
    refine j_bipush G dX7_holds_18 (by decide) ?_
    refine j_icmp_ne G dX7_holds_20 (tgt := 36) (by decide) (by omega) (by omega) (fun c_20 => ?_) (fun c_20 => ?_)
    · refine j_iload_n G dX7_holds_36 rfl ?_
      refine j_iload_n G dX7_holds_37 rfl ?_
      refine j_icmp_ne G dX7_holds_38 (tgt := 45) (by decide) (by omega) (by omega) (fun c_38 => ?_) (fun c_38 => ?_)
      · refine j_iconst G dX7_holds_45 ?_
        refine j_zreturn G dX7_holds_46 (by first | exact b2_01 _ | omega) ?_
        exact ⟨congrArg (fun z => some (iv z)) (by unfold b2 hdB; repeat' split <;> first | rfl | omega | (simp_all; done) | (simp_all; omega)), rfl⟩
      · refine j_iconst G dX7_holds_41 ?_
        refine j_goto G dX7_holds_42 (tgt := 46) (by decide) ?_
        refine j_zreturn G dX7_holds_46 (by first | exact b2_01 _ | omega) ?_
        exact ⟨congrArg (fun z => some (iv z)) (by unfold b2 hdB; repeat' split <;> first | rfl | omega | (simp_all; done) | (simp_all; omega)), rfl⟩
    · refine j_iload_n G dX7_holds_23 rfl ?_
      refine j_iload_n G dX7_holds_24 rfl ?_
      refine j_icmp_le G dX7_holds_25 (tgt := 32) (by decide) (by omega) (by omega) (fun c_25 => ?_) (fun c_25 => ?_)
      · refine j_iconst G dX7_holds_32 ?_
        refine j_goto G dX7_holds_33 (tgt := 46) (by decide) ?_
        refine j_zreturn G dX7_holds_46 (by first | exact b2_01 _ | omega) ?_
        exact ⟨congrArg (fun z => some (iv z)) (by unfold b2 hdB; repeat' split <;> first | rfl | omega | (simp_all; done) | (simp_all; omega)), rfl⟩
      · refine j_iconst G dX7_holds_28 ?_
        refine j_goto G dX7_holds_29 (tgt := 46) (by decide) ?_
        refine j_zreturn G dX7_holds_46 (by first | exact b2_01 _ | omega) ?_
        exact ⟨congrArg (fun z => some (iv z)) (by unfold b2 hdB; repeat' split <;> first | rfl | omega | (simp_all; done) | (simp_all; omega)), rfl⟩
  · refine j_iload_n G dX7_holds_6 rfl ?_
    refine j_iload_n G dX7_holds_7 rfl ?_
    refine j_icmp_ge G dX7_holds_8 (tgt := 15) (by decide) (by omega) (by omega) (fun c_8 => ?_) (fun c_8 => ?_)
    · refine j_iconst G dX7_holds_15 ?_
      refine j_zreturn G dX7_holds_16 (by first | exact b2_01 _ | omega) ?_
      exact ⟨congrArg (fun z => some (iv z)) (by unfold b2 hdB; repeat' split <;> first | rfl | omega | (simp_all; done) | (simp_all; omega)), rfl⟩
    · refine j_iconst G dX7_holds_11 ?_
      refine j_goto G dX7_holds_12 (tgt := 16) (by decide) ?_
      refine j_zreturn G dX7_holds_16 (by first | exact b2_01 _ | omega) ?_
      exact ⟨congrArg (fun z => some (iv z)) (by unfold b2 hdB; repeat' split <;> first | rfl | omega | (simp_all; done) | (simp_all; omega)), rfl⟩
theorem c_valueOf (r : Nat) (h_r : r < 20) (g : Int) (h_g : (-2147483648 ≤ g ∧ g < 2147483648)) : CT (EC x) 2 yX7_valueOf [iv g, rf (EC x) (78 + 2 * r)] σ (rI (fcS σ r g) σ) := by
  obtain ⟨h_y1, h_y2, h_y3⟩ := ly_reader (x := x) h_r
  have h_kl := knA_lt (σ (79 + 2 * r)) 5
  unfold fcS
  refine CT.ofJ (own := RX7) (cc := cX7_valueOf) (n := 2) (ret := (some .int)) (by decide) rfl cw_X7_valueOf (by decide) (Nat.le_of_ble_eq_true rfl) (ls := [some (iv g), some (rf (EC x) (78 + 2 * r))]) rfl ?_
  intro X G
  refine j_iload_n G dX7_valueOf_0 rfl ?_
  by_cases s_1_97 : g = 97
  · refine j_lookup G dX7_valueOf_1 (tgt := 36) (by omega) (by decide) (by first | (rw [s_1_97]; rfl) | rw [s_1_97]) (by decide) ?_
    first | refine j_aload_n G dX7_valueOf_36 rfl ?_ | refine j_aload_nN G dX7_valueOf_36 rfl ?_
    refine j_geti G fl_X7_46 dX7_valueOf_37 0 rfl (by first | assumption | rfl) (by rfl) (fun r_37 => ?_)
    try simp (disch := omega) only [up_same, up_cell, up_idx, cpm_at, fil_at] at r_37 ⊢
    refine j_ireturn G dX7_valueOf_40 ?_
    exact ⟨congrArg (fun z => some (iv z)) (by repeat' split <;> first | rfl | omega), rfl⟩
  by_cases s_1_107 : g = 107
  · refine j_lookup G dX7_valueOf_1 (tgt := 46) (by omega) (by decide) (by first | (rw [s_1_107]; rfl) | rw [s_1_107]) (by decide) ?_
    first | refine j_aload_n G dX7_valueOf_46 rfl ?_ | refine j_aload_nN G dX7_valueOf_46 rfl ?_
    refine j_callV G mv_X7_55 dX7_valueOf_47 (r_known (78 + 2 * r) (79 + 2 * r) h_y2 h_y3) (by first | assumption | rfl) (by decide) (by rfl) rfl rfl (by exact Nat.le_of_ble_eq_true rfl) (by decide) (kI ?_)
    refine j_callS G ms_X7_58 dX7_valueOf_50 (x_bitCount _) rfl rfl (by exact Nat.le_of_ble_eq_true rfl) (by decide) (kI ?_)
    refine j_ireturn G dX7_valueOf_53 ?_
    rw [bcF_pop _ (by omega)]
    exact ⟨congrArg (fun z => some (iv z)) (by repeat' split <;> first | rfl | omega), rfl⟩
  by_cases s_1_121 : g = 121
  · refine j_lookup G dX7_valueOf_1 (tgt := 41) (by omega) (by decide) (by first | (rw [s_1_121]; rfl) | rw [s_1_121]) (by decide) ?_
    first | refine j_aload_n G dX7_valueOf_41 rfl ?_ | refine j_aload_nN G dX7_valueOf_41 rfl ?_
    refine j_callV G mv_X7_51 dX7_valueOf_42 (r_mostYears (78 + 2 * r) (79 + 2 * r) h_y2 h_y3) (by first | assumption | rfl) (by decide) (by rfl) rfl rfl (by exact Nat.le_of_ble_eq_true rfl) (by decide) (kI ?_)
    refine j_ireturn G dX7_valueOf_45 ?_
    exact ⟨congrArg (fun z => some (iv z)) (by repeat' split <;> first | rfl | omega), rfl⟩
  refine j_lookup G dX7_valueOf_1 (tgt := 54) (by omega) (by decide) (off := 53) (by show Op.lookupswitch.offset [(97, 35), (107, 45), (121, 40)] 53 (g) = 53; rw [Op.lookupswitch.offset_cons, if_neg (by omega), Op.lookupswitch.offset_cons, if_neg (by omega), Op.lookupswitch.offset_cons, if_neg (by omega)]; rfl) (by decide) ?_
  first | refine j_aload_n G dX7_valueOf_54 rfl ?_ | refine j_aload_nN G dX7_valueOf_54 rfl ?_
  refine j_geti G fl_X7_63 dX7_valueOf_55 2 rfl (by first | assumption | rfl) (by rfl) (fun r_55 => ?_)
  try simp (disch := omega) only [up_same, up_cell, up_idx, cpm_at, fil_at] at r_55 ⊢
  refine j_ireturn G dX7_valueOf_58 ?_
  exact ⟨congrArg (fun z => some (iv z)) (by repeat' split <;> first | rfl | omega), rfl⟩
theorem nmO_0 {q m : Int} (h : m = 0) (hq : q ≤ 2) : nmO q m := ⟨fun _ => h, fun h => by omega, fun h => by omega, fun h => by omega⟩
theorem nmO_d {q m g : Int} (h : nmO q m) (hq : 2 ≤ q ∧ q < 5) (hg : 48 ≤ g ∧ g ≤ 57) : nmO (q + 1) (m * 10 + g - 48) := by
  obtain ⟨h1, h2, h3, h4⟩ := h
  refine ⟨fun h => by omega, fun h => ?_, fun h => ?_, fun h => ?_⟩
  · have := h1 (by omega); omega
  · have := h2 (by omega); omega
  · have := h3 (by omega); omega
theorem c_allows (s r n : Nat) (h_s : s < 6) (h_r : r < 20) (h_n : σ (129 + 12 * s) 1 = n) (h_40 : n ≤ 40) (h_ok : n = 0 ∨ 2 < rst (σ (130 + 12 * s)) n) (h_fc : ∀ g, -2147483648 ≤ fcS σ r g ∧ fcS σ r g < 2147483648) : CT (EC x) 3 yX7_allows [rf (EC x) (129 + 12 * s), rf (EC x) (78 + 2 * r)] σ (rI (b2 (clB (σ (130 + 12 * s)) (fcS σ r) n 0 (decide (0 < n)) 0 0 0 = true)) σ) := by
  obtain ⟨h_y1, h_y2, h_y3, h_y4, h_y5⟩ := ly_school (x := x) h_s
  have h_mono : ∀ i, i ≤ n → 0 ≤ rst (σ (130 + 12 * s)) i := by
    rcases h_ok with h_0 | h_0
    · intro i h_i
      rw [show i = 0 by omega]
      simp [rst]
    · exact rst_mono (by omega)
  generalize h_f : σ (130 + 12 * s) = f at h_mono ⊢
  generalize h_V : clB f (fcS σ r) n 0 (decide (0 < n)) 0 0 0 = V
  refine CT.ofJ (own := RX7) (cc := cX7_allows) (n := 8) (ret := (some .boolean)) (by decide) rfl cw_X7_allows (by decide) (Nat.le_of_ble_eq_true rfl) (ls := [some (rf (EC x) (129 + 12 * s)), some (rf (EC x) (78 + 2 * r)), none, none, none, none, none, none]) rfl ?_
  intro X G
  refine j_ok (fun h_k => ?_)
  have h_fr : ∀ i, -2147483648 ≤ f i ∧ f i < 2147483648 := fun i => by rw [← h_f]; exact h_k _ i (fun _ _ z => by rw [h_y5] at z; cases z)
  have h_lp : ∀ i, i ≤ n → ∀ (z : Bool) (sv cv m : Int), (-2147483648 ≤ sv ∧ sv < 2147483648) → (-2147483648 ≤ cv ∧ cv < 2147483648) → nmO (rst f i) m → V = clB f (fcS σ r) (n - i) i z sv cv m → JJ (EC x) X 3 (rI (b2 (V = true)) σ) 8 24 [some (rf (EC x) (129 + 12 * s)), some (rf (EC x) (78 + 2 * r)), some (iv (b2 (z = true))), some (iv sv), some (iv cv), some (iv m), some (iv i), none] [] σ := by
    refine down (Pr := fun i => ∀ (z : Bool) (sv cv m : Int), (-2147483648 ≤ sv ∧ sv < 2147483648) → (-2147483648 ≤ cv ∧ cv < 2147483648) → nmO (rst f i) m → V = clB f (fcS σ r) (n - i) i z sv cv m → JJ (EC x) X 3 (rI (b2 (V = true)) σ) 8 24 [some (rf (EC x) (129 + 12 * s)), some (rf (EC x) (78 + 2 * r)), some (iv (b2 (z = true))), some (iv sv), some (iv cv), some (iv m), some (iv i), none] [] σ) n ?_
    intro i h_i ih z sv cv m h_sv h_cv h_m h_v
    have h_q0 := h_mono i h_i
    have h_q5 := rst_rg f i
    have h_mr := nmO_rg h_m (by omega)
    have h_fi := h_fr i
    refine j_iload G dX7_allows_24 rfl ?_
    first | refine j_aload_n G dX7_allows_26 rfl ?_ | refine j_aload_nN G dX7_allows_26 rfl ?_
    refine j_geti G fl_X7_11 dX7_allows_27 1 rfl (by first | assumption | rfl) (by rfl) (fun r_27 => ?_)
    try simp (disch := omega) only [up_same, up_cell, up_idx, cpm_at, fil_at] at r_27 ⊢
    refine j_icmp_ge G dX7_allows_30 (tgt := 143) (by decide) (by omega) (by omega) (fun c_30 => ?_) (fun c_30 => ?_)
    · refine j_iload_n G dX7_allows_143 rfl ?_
      refine j_if_eqB G dX7_allows_144 (tgt := 162) (by decide)  (fun c_144 => ?_) (fun c_144 => ?_)
      · refine j_iconst G dX7_allows_162 ?_
        refine j_zreturn G dX7_allows_163 (by first | exact b2_01 _ | omega) ?_
        obtain rfl : i = n := by omega
        rw [show i - i = 0 by omega, clB_0] at h_v
        refine ⟨congrArg (fun z => some (iv z)) ?_, rfl⟩
        rw [h_v]
        unfold b2
        clear h_v ih h_V
        cases z <;> cases h_hd : hdB sv cv m <;> first | rfl | (exfalso; simp_all; done)
      · refine j_iload_n G dX7_allows_147 rfl ?_
        refine j_iload G dX7_allows_148 rfl ?_
        refine j_iload G dX7_allows_150 rfl ?_
        refine j_callS G ms_X7_42 dX7_allows_152 (x_holds _ _ _ h_sv h_cv (by omega)) rfl rfl (by exact Nat.le_of_ble_eq_true rfl) (by decide) (kI ?_)
        refine j_if_eqB G dX7_allows_155 (tgt := 162) (by decide)  (fun c_155 => ?_) (fun c_155 => ?_)
        · refine j_iconst G dX7_allows_162 ?_
          refine j_zreturn G dX7_allows_163 (by first | exact b2_01 _ | omega) ?_
          obtain rfl : i = n := by omega
          rw [show i - i = 0 by omega, clB_0] at h_v
          refine ⟨congrArg (fun z => some (iv z)) ?_, rfl⟩
          rw [h_v]
          unfold b2
          clear h_v ih h_V
          cases z <;> cases h_hd : hdB sv cv m <;> first | rfl | (exfalso; simp_all; done)
        · refine j_iconst G dX7_allows_158 ?_
          refine j_goto G dX7_allows_159 (tgt := 163) (by decide) ?_
          refine j_zreturn G dX7_allows_163 (by first | exact b2_01 _ | omega) ?_
          obtain rfl : i = n := by omega
          rw [show i - i = 0 by omega, clB_0] at h_v
          refine ⟨congrArg (fun z => some (iv z)) ?_, rfl⟩
          rw [h_v]
          unfold b2
          clear h_v ih h_V
          cases z <;> cases h_hd : hdB sv cv m <;> first | rfl | (exfalso; simp_all; done)
    · first | refine j_aload_n G dX7_allows_33 rfl ?_ | refine j_aload_nN G dX7_allows_33 rfl ?_
      refine j_iload G dX7_allows_34 rfl ?_
      refine j_callV G mv_X7_17 dX7_allows_36 (p_at (129 + 12 * s) (130 + 12 * s) 40 i (by omega) h_y4 h_y5 (by decide) (by omega)) (by first | assumption | rfl) (by decide) (by rfl) rfl rfl (by exact Nat.le_of_ble_eq_true rfl) (by decide) (kI ?_)
      rw [if_pos (show (0 : Int) ≤ i ∧ (i : Int) < σ (129 + 12 * s) 1 by omega), h_f]
      have h_st := rst_step h_q0
      have h_q1 := h_mono (i + 1) (by omega)
      rw [h_st] at h_q1
      have ih := ih (by omega)
      rw [h_st] at ih
      rw [show n - i = (n - (i + 1)) + 1 by omega, clB_s] at h_v
      refine j_istore7 G dX7_allows_39 (by decide) rfl ?_
      refine j_iload G dX7_allows_41 rfl ?_
      refine j_callS G ms_X7_32 dX7_allows_43 (x_isDigit _ h_fi) rfl rfl (by exact Nat.le_of_ble_eq_true rfl) (by decide) (kI ?_)
      refine j_if_eqB G dX7_allows_46 (tgt := 65) (by decide)  (fun c_46 => ?_) (fun c_46 => ?_)
      · refine j_iload G dX7_allows_65 rfl ?_
        refine j_callS G ms_X7_29 dX7_allows_67 (x_isComparison _ h_fi) rfl rfl (by exact Nat.le_of_ble_eq_true rfl) (by decide) (kI ?_)
        refine j_if_eqB G dX7_allows_70 (tgt := 80) (by decide)  (fun c_70 => ?_) (fun c_70 => ?_)
        · refine j_iload G dX7_allows_80 rfl ?_
          refine j_callS G ms_X7_25 dX7_allows_82 (x_isSubject _ h_fi) rfl rfl (by exact Nat.le_of_ble_eq_true rfl) (by decide) (kI ?_)
          refine j_if_eqB G dX7_allows_85 (tgt := 98) (by decide)  (fun c_85 => ?_) (fun c_85 => ?_)
          · refine j_iload_n G dX7_allows_98 rfl ?_
            refine j_if_eqB G dX7_allows_99 (tgt := 117) (by decide)  (fun c_99 => ?_) (fun c_99 => ?_)
            · refine j_iconst G dX7_allows_117 ?_
              refine j_istore2 G dX7_allows_118 (by decide) rfl ?_
              refine j_iconst G dX7_allows_119 ?_
              refine j_istore5 G dX7_allows_120 (by decide) rfl ?_
              refine j_iload G dX7_allows_122 rfl ?_
              refine j_bipush G dX7_allows_124 (by decide) ?_
              refine j_icmp_ne G dX7_allows_126 (tgt := 137) (by decide) (by omega) (by omega) (fun c_126 => ?_) (fun c_126 => ?_)
              · refine j_iinc6 G dX7_allows_137 (by decide) rfl rfl ?_
                refine j_goto G dX7_allows_140 (tgt := 24) (by decide) ?_
                refine j_pc (p2 := 24) rfl ?_
                first
                | (rw [if_pos c_46] at h_v
                   obtain ⟨g1, g2, g3⟩ := stp_dig h_q1 (by omega) c_46
                   exact j_weak (ih z sv cv _ h_sv h_cv (by rw [g1]; exact nmO_d h_m ⟨g2, g3⟩ c_46) h_v) ⟨rfl, rfl, rfl, rfl, rfl, rfl, rfl, trivial⟩)
                | (rw [if_neg c_46, if_pos c_70] at h_v
                   obtain ⟨g1, g2⟩ := stp_cmp h_q1 (by omega) c_70
                   exact j_weak (ih z sv _ m h_sv h_fi (by rw [g1]; exact nmO_0 (h_m.1 (by omega)) (by omega)) h_v) ⟨rfl, rfl, rfl, rfl, rfl, rfl, rfl, trivial⟩)
                | (rw [if_neg c_46, if_neg c_70, if_pos c_85] at h_v
                   obtain ⟨g1, g2⟩ := stp_sub h_q1 (by omega) c_85
                   exact j_weak (ih z _ cv m (h_fc _) h_cv (by rw [g1]; exact nmO_0 (h_m.1 (by omega)) (by omega)) h_v) ⟨rfl, rfl, rfl, rfl, rfl, rfl, rfl, trivial⟩)
                | (obtain ⟨g1, g2, g3⟩ := stp_oth h_q1 (by omega) c_46 c_70 c_85
                   rw [if_neg c_46, if_neg c_70, if_neg c_85] at h_v
                   have h_n0 : nmO (stp (rst f i) (f i)) 0 := nmO_0 rfl (by omega)
                   by_cases h_z : (z && hdB sv cv m) = true
                   · first
                     | (rw [if_neg (by omega), h_z] at h_v
                        exact j_weak (ih true sv cv 0 h_sv h_cv h_n0 h_v) ⟨rfl, rfl, rfl, rfl, rfl, rfl, rfl, trivial⟩)
                     | (exfalso; simp_all; done)
                     | (exfalso; omega)
                   · first
                     | (rw [if_neg (by omega), show (z && hdB sv cv m) = false by simpa using h_z] at h_v
                        exact j_weak (ih false sv cv 0 h_sv h_cv h_n0 h_v) ⟨rfl, rfl, rfl, rfl, rfl, rfl, rfl, trivial⟩)
                     | (rw [if_pos (by omega), if_neg h_z] at h_v
                        exact j_weak (ih true sv cv 0 h_sv h_cv h_n0 h_v) ⟨rfl, rfl, rfl, rfl, rfl, rfl, rfl, trivial⟩)
                     | (exfalso; simp_all; done)
                     | (exfalso; omega))
              · refine j_iload_n G dX7_allows_129 rfl ?_
                refine j_if_eq G dX7_allows_130 (tgt := 135) (by decide) (by omega) (fun c_130 => ?_) (fun c_130 => ?_)
                · refine j_iconst G dX7_allows_135 ?_
                  refine j_istore2 G dX7_allows_136 (by decide) rfl ?_
                  refine j_iinc6 G dX7_allows_137 (by decide) rfl rfl ?_
                  refine j_goto G dX7_allows_140 (tgt := 24) (by decide) ?_
                  refine j_pc (p2 := 24) rfl ?_
                  first
                  | (rw [if_pos c_46] at h_v
                     obtain ⟨g1, g2, g3⟩ := stp_dig h_q1 (by omega) c_46
                     exact j_weak (ih z sv cv _ h_sv h_cv (by rw [g1]; exact nmO_d h_m ⟨g2, g3⟩ c_46) h_v) ⟨rfl, rfl, rfl, rfl, rfl, rfl, rfl, trivial⟩)
                  | (rw [if_neg c_46, if_pos c_70] at h_v
                     obtain ⟨g1, g2⟩ := stp_cmp h_q1 (by omega) c_70
                     exact j_weak (ih z sv _ m h_sv h_fi (by rw [g1]; exact nmO_0 (h_m.1 (by omega)) (by omega)) h_v) ⟨rfl, rfl, rfl, rfl, rfl, rfl, rfl, trivial⟩)
                  | (rw [if_neg c_46, if_neg c_70, if_pos c_85] at h_v
                     obtain ⟨g1, g2⟩ := stp_sub h_q1 (by omega) c_85
                     exact j_weak (ih z _ cv m (h_fc _) h_cv (by rw [g1]; exact nmO_0 (h_m.1 (by omega)) (by omega)) h_v) ⟨rfl, rfl, rfl, rfl, rfl, rfl, rfl, trivial⟩)
                  | (obtain ⟨g1, g2, g3⟩ := stp_oth h_q1 (by omega) c_46 c_70 c_85
                     rw [if_neg c_46, if_neg c_70, if_neg c_85] at h_v
                     have h_n0 : nmO (stp (rst f i) (f i)) 0 := nmO_0 rfl (by omega)
                     by_cases h_z : (z && hdB sv cv m) = true
                     · first
                       | (rw [if_neg (by omega), h_z] at h_v
                          exact j_weak (ih true sv cv 0 h_sv h_cv h_n0 h_v) ⟨rfl, rfl, rfl, rfl, rfl, rfl, rfl, trivial⟩)
                       | (exfalso; simp_all; done)
                       | (exfalso; omega)
                     · first
                       | (rw [if_neg (by omega), show (z && hdB sv cv m) = false by simpa using h_z] at h_v
                          exact j_weak (ih false sv cv 0 h_sv h_cv h_n0 h_v) ⟨rfl, rfl, rfl, rfl, rfl, rfl, rfl, trivial⟩)
                       | (rw [if_pos (by omega), if_neg h_z] at h_v
                          exact j_weak (ih true sv cv 0 h_sv h_cv h_n0 h_v) ⟨rfl, rfl, rfl, rfl, rfl, rfl, rfl, trivial⟩)
                       | (exfalso; simp_all; done)
                       | (exfalso; omega))
                · refine j_iconst G dX7_allows_133 ?_
                  refine j_zreturn G dX7_allows_134 (by first | exact b2_01 _ | omega) ?_
                  obtain ⟨g1, g2, g3⟩ := stp_oth h_q1 (by omega) c_46 c_70 c_85
                  rw [if_neg c_46, if_neg c_70, if_neg c_85] at h_v
                  first
                  | (exfalso; omega)
                  | (rw [if_pos (by omega), if_pos (by rw [c_99, c_110]; rfl)] at h_v
                     exact ⟨by rw [h_v]; rfl, rfl⟩)
            · refine j_iload_n G dX7_allows_102 rfl ?_
              refine j_iload G dX7_allows_103 rfl ?_
              refine j_iload G dX7_allows_105 rfl ?_
              refine j_callS G ms_X7_42 dX7_allows_107 (x_holds _ _ _ h_sv h_cv (by omega)) rfl rfl (by exact Nat.le_of_ble_eq_true rfl) (by decide) (kI ?_)
              refine j_if_eqB G dX7_allows_110 (tgt := 117) (by decide)  (fun c_110 => ?_) (fun c_110 => ?_)
              · refine j_iconst G dX7_allows_117 ?_
                refine j_istore2 G dX7_allows_118 (by decide) rfl ?_
                refine j_iconst G dX7_allows_119 ?_
                refine j_istore5 G dX7_allows_120 (by decide) rfl ?_
                refine j_iload G dX7_allows_122 rfl ?_
                refine j_bipush G dX7_allows_124 (by decide) ?_
                refine j_icmp_ne G dX7_allows_126 (tgt := 137) (by decide) (by omega) (by omega) (fun c_126 => ?_) (fun c_126 => ?_)
                · refine j_iinc6 G dX7_allows_137 (by decide) rfl rfl ?_
                  refine j_goto G dX7_allows_140 (tgt := 24) (by decide) ?_
                  refine j_pc (p2 := 24) rfl ?_
                  first
                  | (rw [if_pos c_46] at h_v
                     obtain ⟨g1, g2, g3⟩ := stp_dig h_q1 (by omega) c_46
                     exact j_weak (ih z sv cv _ h_sv h_cv (by rw [g1]; exact nmO_d h_m ⟨g2, g3⟩ c_46) h_v) ⟨rfl, rfl, rfl, rfl, rfl, rfl, rfl, trivial⟩)
                  | (rw [if_neg c_46, if_pos c_70] at h_v
                     obtain ⟨g1, g2⟩ := stp_cmp h_q1 (by omega) c_70
                     exact j_weak (ih z sv _ m h_sv h_fi (by rw [g1]; exact nmO_0 (h_m.1 (by omega)) (by omega)) h_v) ⟨rfl, rfl, rfl, rfl, rfl, rfl, rfl, trivial⟩)
                  | (rw [if_neg c_46, if_neg c_70, if_pos c_85] at h_v
                     obtain ⟨g1, g2⟩ := stp_sub h_q1 (by omega) c_85
                     exact j_weak (ih z _ cv m (h_fc _) h_cv (by rw [g1]; exact nmO_0 (h_m.1 (by omega)) (by omega)) h_v) ⟨rfl, rfl, rfl, rfl, rfl, rfl, rfl, trivial⟩)
                  | (obtain ⟨g1, g2, g3⟩ := stp_oth h_q1 (by omega) c_46 c_70 c_85
                     rw [if_neg c_46, if_neg c_70, if_neg c_85] at h_v
                     have h_n0 : nmO (stp (rst f i) (f i)) 0 := nmO_0 rfl (by omega)
                     by_cases h_z : (z && hdB sv cv m) = true
                     · first
                       | (rw [if_neg (by omega), h_z] at h_v
                          exact j_weak (ih true sv cv 0 h_sv h_cv h_n0 h_v) ⟨rfl, rfl, rfl, rfl, rfl, rfl, rfl, trivial⟩)
                       | (exfalso; simp_all; done)
                       | (exfalso; omega)
                     · first
                       | (rw [if_neg (by omega), show (z && hdB sv cv m) = false by simpa using h_z] at h_v
                          exact j_weak (ih false sv cv 0 h_sv h_cv h_n0 h_v) ⟨rfl, rfl, rfl, rfl, rfl, rfl, rfl, trivial⟩)
                       | (rw [if_pos (by omega), if_neg h_z] at h_v
                          exact j_weak (ih true sv cv 0 h_sv h_cv h_n0 h_v) ⟨rfl, rfl, rfl, rfl, rfl, rfl, rfl, trivial⟩)
                       | (exfalso; simp_all; done)
                       | (exfalso; omega))
                · refine j_iload_n G dX7_allows_129 rfl ?_
                  refine j_if_eq G dX7_allows_130 (tgt := 135) (by decide) (by omega) (fun c_130 => ?_) (fun c_130 => ?_)
                  · refine j_iconst G dX7_allows_135 ?_
                    refine j_istore2 G dX7_allows_136 (by decide) rfl ?_
                    refine j_iinc6 G dX7_allows_137 (by decide) rfl rfl ?_
                    refine j_goto G dX7_allows_140 (tgt := 24) (by decide) ?_
                    refine j_pc (p2 := 24) rfl ?_
                    first
                    | (rw [if_pos c_46] at h_v
                       obtain ⟨g1, g2, g3⟩ := stp_dig h_q1 (by omega) c_46
                       exact j_weak (ih z sv cv _ h_sv h_cv (by rw [g1]; exact nmO_d h_m ⟨g2, g3⟩ c_46) h_v) ⟨rfl, rfl, rfl, rfl, rfl, rfl, rfl, trivial⟩)
                    | (rw [if_neg c_46, if_pos c_70] at h_v
                       obtain ⟨g1, g2⟩ := stp_cmp h_q1 (by omega) c_70
                       exact j_weak (ih z sv _ m h_sv h_fi (by rw [g1]; exact nmO_0 (h_m.1 (by omega)) (by omega)) h_v) ⟨rfl, rfl, rfl, rfl, rfl, rfl, rfl, trivial⟩)
                    | (rw [if_neg c_46, if_neg c_70, if_pos c_85] at h_v
                       obtain ⟨g1, g2⟩ := stp_sub h_q1 (by omega) c_85
                       exact j_weak (ih z _ cv m (h_fc _) h_cv (by rw [g1]; exact nmO_0 (h_m.1 (by omega)) (by omega)) h_v) ⟨rfl, rfl, rfl, rfl, rfl, rfl, rfl, trivial⟩)
                    | (obtain ⟨g1, g2, g3⟩ := stp_oth h_q1 (by omega) c_46 c_70 c_85
                       rw [if_neg c_46, if_neg c_70, if_neg c_85] at h_v
                       have h_n0 : nmO (stp (rst f i) (f i)) 0 := nmO_0 rfl (by omega)
                       by_cases h_z : (z && hdB sv cv m) = true
                       · first
                         | (rw [if_neg (by omega), h_z] at h_v
                            exact j_weak (ih true sv cv 0 h_sv h_cv h_n0 h_v) ⟨rfl, rfl, rfl, rfl, rfl, rfl, rfl, trivial⟩)
                         | (exfalso; simp_all; done)
                         | (exfalso; omega)
                       · first
                         | (rw [if_neg (by omega), show (z && hdB sv cv m) = false by simpa using h_z] at h_v
                            exact j_weak (ih false sv cv 0 h_sv h_cv h_n0 h_v) ⟨rfl, rfl, rfl, rfl, rfl, rfl, rfl, trivial⟩)
                         | (rw [if_pos (by omega), if_neg h_z] at h_v
                            exact j_weak (ih true sv cv 0 h_sv h_cv h_n0 h_v) ⟨rfl, rfl, rfl, rfl, rfl, rfl, rfl, trivial⟩)
                         | (exfalso; simp_all; done)
                         | (exfalso; omega))
                  · refine j_iconst G dX7_allows_133 ?_
                    refine j_zreturn G dX7_allows_134 (by first | exact b2_01 _ | omega) ?_
                    obtain ⟨g1, g2, g3⟩ := stp_oth h_q1 (by omega) c_46 c_70 c_85
                    rw [if_neg c_46, if_neg c_70, if_neg c_85] at h_v
                    first
                    | (exfalso; omega)
                    | (rw [if_pos (by omega), if_pos (by rw [c_99, c_110]; rfl)] at h_v
                       exact ⟨by rw [h_v]; rfl, rfl⟩)
              · refine j_iconst G dX7_allows_113 ?_
                refine j_goto G dX7_allows_114 (tgt := 118) (by decide) ?_
                refine j_istore2 G dX7_allows_118 (by decide) rfl ?_
                refine j_iconst G dX7_allows_119 ?_
                refine j_istore5 G dX7_allows_120 (by decide) rfl ?_
                refine j_iload G dX7_allows_122 rfl ?_
                refine j_bipush G dX7_allows_124 (by decide) ?_
                refine j_icmp_ne G dX7_allows_126 (tgt := 137) (by decide) (by omega) (by omega) (fun c_126 => ?_) (fun c_126 => ?_)
                · refine j_iinc6 G dX7_allows_137 (by decide) rfl rfl ?_
                  refine j_goto G dX7_allows_140 (tgt := 24) (by decide) ?_
                  refine j_pc (p2 := 24) rfl ?_
                  first
                  | (rw [if_pos c_46] at h_v
                     obtain ⟨g1, g2, g3⟩ := stp_dig h_q1 (by omega) c_46
                     exact j_weak (ih z sv cv _ h_sv h_cv (by rw [g1]; exact nmO_d h_m ⟨g2, g3⟩ c_46) h_v) ⟨rfl, rfl, rfl, rfl, rfl, rfl, rfl, trivial⟩)
                  | (rw [if_neg c_46, if_pos c_70] at h_v
                     obtain ⟨g1, g2⟩ := stp_cmp h_q1 (by omega) c_70
                     exact j_weak (ih z sv _ m h_sv h_fi (by rw [g1]; exact nmO_0 (h_m.1 (by omega)) (by omega)) h_v) ⟨rfl, rfl, rfl, rfl, rfl, rfl, rfl, trivial⟩)
                  | (rw [if_neg c_46, if_neg c_70, if_pos c_85] at h_v
                     obtain ⟨g1, g2⟩ := stp_sub h_q1 (by omega) c_85
                     exact j_weak (ih z _ cv m (h_fc _) h_cv (by rw [g1]; exact nmO_0 (h_m.1 (by omega)) (by omega)) h_v) ⟨rfl, rfl, rfl, rfl, rfl, rfl, rfl, trivial⟩)
                  | (obtain ⟨g1, g2, g3⟩ := stp_oth h_q1 (by omega) c_46 c_70 c_85
                     rw [if_neg c_46, if_neg c_70, if_neg c_85] at h_v
                     have h_n0 : nmO (stp (rst f i) (f i)) 0 := nmO_0 rfl (by omega)
                     by_cases h_z : (z && hdB sv cv m) = true
                     · first
                       | (rw [if_neg (by omega), h_z] at h_v
                          exact j_weak (ih true sv cv 0 h_sv h_cv h_n0 h_v) ⟨rfl, rfl, rfl, rfl, rfl, rfl, rfl, trivial⟩)
                       | (exfalso; simp_all; done)
                       | (exfalso; omega)
                     · first
                       | (rw [if_neg (by omega), show (z && hdB sv cv m) = false by simpa using h_z] at h_v
                          exact j_weak (ih false sv cv 0 h_sv h_cv h_n0 h_v) ⟨rfl, rfl, rfl, rfl, rfl, rfl, rfl, trivial⟩)
                       | (rw [if_pos (by omega), if_neg h_z] at h_v
                          exact j_weak (ih true sv cv 0 h_sv h_cv h_n0 h_v) ⟨rfl, rfl, rfl, rfl, rfl, rfl, rfl, trivial⟩)
                       | (exfalso; simp_all; done)
                       | (exfalso; omega))
                · refine j_iload_n G dX7_allows_129 rfl ?_
                  refine j_if_eq G dX7_allows_130 (tgt := 135) (by decide) (by omega) (fun c_130 => ?_) (fun c_130 => ?_)
                  · refine j_iconst G dX7_allows_135 ?_
                    refine j_istore2 G dX7_allows_136 (by decide) rfl ?_
                    refine j_iinc6 G dX7_allows_137 (by decide) rfl rfl ?_
                    refine j_goto G dX7_allows_140 (tgt := 24) (by decide) ?_
                    refine j_pc (p2 := 24) rfl ?_
                    first
                    | (rw [if_pos c_46] at h_v
                       obtain ⟨g1, g2, g3⟩ := stp_dig h_q1 (by omega) c_46
                       exact j_weak (ih z sv cv _ h_sv h_cv (by rw [g1]; exact nmO_d h_m ⟨g2, g3⟩ c_46) h_v) ⟨rfl, rfl, rfl, rfl, rfl, rfl, rfl, trivial⟩)
                    | (rw [if_neg c_46, if_pos c_70] at h_v
                       obtain ⟨g1, g2⟩ := stp_cmp h_q1 (by omega) c_70
                       exact j_weak (ih z sv _ m h_sv h_fi (by rw [g1]; exact nmO_0 (h_m.1 (by omega)) (by omega)) h_v) ⟨rfl, rfl, rfl, rfl, rfl, rfl, rfl, trivial⟩)
                    | (rw [if_neg c_46, if_neg c_70, if_pos c_85] at h_v
                       obtain ⟨g1, g2⟩ := stp_sub h_q1 (by omega) c_85
                       exact j_weak (ih z _ cv m (h_fc _) h_cv (by rw [g1]; exact nmO_0 (h_m.1 (by omega)) (by omega)) h_v) ⟨rfl, rfl, rfl, rfl, rfl, rfl, rfl, trivial⟩)
                    | (obtain ⟨g1, g2, g3⟩ := stp_oth h_q1 (by omega) c_46 c_70 c_85
                       rw [if_neg c_46, if_neg c_70, if_neg c_85] at h_v
                       have h_n0 : nmO (stp (rst f i) (f i)) 0 := nmO_0 rfl (by omega)
                       by_cases h_z : (z && hdB sv cv m) = true
                       · first
                         | (rw [if_neg (by omega), h_z] at h_v
                            exact j_weak (ih true sv cv 0 h_sv h_cv h_n0 h_v) ⟨rfl, rfl, rfl, rfl, rfl, rfl, rfl, trivial⟩)
                         | (exfalso; simp_all; done)
                         | (exfalso; omega)
                       · first
                         | (rw [if_neg (by omega), show (z && hdB sv cv m) = false by simpa using h_z] at h_v
                            exact j_weak (ih false sv cv 0 h_sv h_cv h_n0 h_v) ⟨rfl, rfl, rfl, rfl, rfl, rfl, rfl, trivial⟩)
                         | (rw [if_pos (by omega), if_neg h_z] at h_v
                            exact j_weak (ih true sv cv 0 h_sv h_cv h_n0 h_v) ⟨rfl, rfl, rfl, rfl, rfl, rfl, rfl, trivial⟩)
                         | (exfalso; simp_all; done)
                         | (exfalso; omega))
                  · refine j_iconst G dX7_allows_133 ?_
                    refine j_zreturn G dX7_allows_134 (by first | exact b2_01 _ | omega) ?_
                    obtain ⟨g1, g2, g3⟩ := stp_oth h_q1 (by omega) c_46 c_70 c_85
                    rw [if_neg c_46, if_neg c_70, if_neg c_85] at h_v
                    first
                    | (exfalso; omega)
                    | (rw [if_pos (by omega), if_pos (by rw [c_99, c_110]; rfl)] at h_v
                       exact ⟨by rw [h_v]; rfl, rfl⟩)
          · refine j_iload G dX7_allows_88 rfl ?_
            first | refine j_aload_n G dX7_allows_90 rfl ?_ | refine j_aload_nN G dX7_allows_90 rfl ?_
            refine j_callS G ms_X7_38 dX7_allows_91 (c_valueOf r h_r _ h_fi) rfl rfl (by exact Nat.le_of_ble_eq_true rfl) (by decide) (kI ?_)
            refine j_istore3 G dX7_allows_94 (by decide) rfl ?_
            refine j_goto G dX7_allows_95 (tgt := 137) (by decide) ?_
            refine j_iinc6 G dX7_allows_137 (by decide) rfl rfl ?_
            refine j_goto G dX7_allows_140 (tgt := 24) (by decide) ?_
            refine j_pc (p2 := 24) rfl ?_
            first
            | (rw [if_pos c_46] at h_v
               obtain ⟨g1, g2, g3⟩ := stp_dig h_q1 (by omega) c_46
               exact j_weak (ih z sv cv _ h_sv h_cv (by rw [g1]; exact nmO_d h_m ⟨g2, g3⟩ c_46) h_v) ⟨rfl, rfl, rfl, rfl, rfl, rfl, rfl, trivial⟩)
            | (rw [if_neg c_46, if_pos c_70] at h_v
               obtain ⟨g1, g2⟩ := stp_cmp h_q1 (by omega) c_70
               exact j_weak (ih z sv _ m h_sv h_fi (by rw [g1]; exact nmO_0 (h_m.1 (by omega)) (by omega)) h_v) ⟨rfl, rfl, rfl, rfl, rfl, rfl, rfl, trivial⟩)
            | (rw [if_neg c_46, if_neg c_70, if_pos c_85] at h_v
               obtain ⟨g1, g2⟩ := stp_sub h_q1 (by omega) c_85
               exact j_weak (ih z _ cv m (h_fc _) h_cv (by rw [g1]; exact nmO_0 (h_m.1 (by omega)) (by omega)) h_v) ⟨rfl, rfl, rfl, rfl, rfl, rfl, rfl, trivial⟩)
            | (obtain ⟨g1, g2, g3⟩ := stp_oth h_q1 (by omega) c_46 c_70 c_85
               rw [if_neg c_46, if_neg c_70, if_neg c_85] at h_v
               have h_n0 : nmO (stp (rst f i) (f i)) 0 := nmO_0 rfl (by omega)
               by_cases h_z : (z && hdB sv cv m) = true
               · first
                 | (rw [if_neg (by omega), h_z] at h_v
                    exact j_weak (ih true sv cv 0 h_sv h_cv h_n0 h_v) ⟨rfl, rfl, rfl, rfl, rfl, rfl, rfl, trivial⟩)
                 | (exfalso; simp_all; done)
                 | (exfalso; omega)
               · first
                 | (rw [if_neg (by omega), show (z && hdB sv cv m) = false by simpa using h_z] at h_v
                    exact j_weak (ih false sv cv 0 h_sv h_cv h_n0 h_v) ⟨rfl, rfl, rfl, rfl, rfl, rfl, rfl, trivial⟩)
                 | (rw [if_pos (by omega), if_neg h_z] at h_v
                    exact j_weak (ih true sv cv 0 h_sv h_cv h_n0 h_v) ⟨rfl, rfl, rfl, rfl, rfl, rfl, rfl, trivial⟩)
                 | (exfalso; simp_all; done)
                 | (exfalso; omega))
        · refine j_iload G dX7_allows_73 rfl ?_
          refine j_istore4 G dX7_allows_75 (by decide) rfl ?_
          refine j_goto G dX7_allows_77 (tgt := 137) (by decide) ?_
          refine j_iinc6 G dX7_allows_137 (by decide) rfl rfl ?_
          refine j_goto G dX7_allows_140 (tgt := 24) (by decide) ?_
          refine j_pc (p2 := 24) rfl ?_
          first
          | (rw [if_pos c_46] at h_v
             obtain ⟨g1, g2, g3⟩ := stp_dig h_q1 (by omega) c_46
             exact j_weak (ih z sv cv _ h_sv h_cv (by rw [g1]; exact nmO_d h_m ⟨g2, g3⟩ c_46) h_v) ⟨rfl, rfl, rfl, rfl, rfl, rfl, rfl, trivial⟩)
          | (rw [if_neg c_46, if_pos c_70] at h_v
             obtain ⟨g1, g2⟩ := stp_cmp h_q1 (by omega) c_70
             exact j_weak (ih z sv _ m h_sv h_fi (by rw [g1]; exact nmO_0 (h_m.1 (by omega)) (by omega)) h_v) ⟨rfl, rfl, rfl, rfl, rfl, rfl, rfl, trivial⟩)
          | (rw [if_neg c_46, if_neg c_70, if_pos c_85] at h_v
             obtain ⟨g1, g2⟩ := stp_sub h_q1 (by omega) c_85
             exact j_weak (ih z _ cv m (h_fc _) h_cv (by rw [g1]; exact nmO_0 (h_m.1 (by omega)) (by omega)) h_v) ⟨rfl, rfl, rfl, rfl, rfl, rfl, rfl, trivial⟩)
          | (obtain ⟨g1, g2, g3⟩ := stp_oth h_q1 (by omega) c_46 c_70 c_85
             rw [if_neg c_46, if_neg c_70, if_neg c_85] at h_v
             have h_n0 : nmO (stp (rst f i) (f i)) 0 := nmO_0 rfl (by omega)
             by_cases h_z : (z && hdB sv cv m) = true
             · first
               | (rw [if_neg (by omega), h_z] at h_v
                  exact j_weak (ih true sv cv 0 h_sv h_cv h_n0 h_v) ⟨rfl, rfl, rfl, rfl, rfl, rfl, rfl, trivial⟩)
               | (exfalso; simp_all; done)
               | (exfalso; omega)
             · first
               | (rw [if_neg (by omega), show (z && hdB sv cv m) = false by simpa using h_z] at h_v
                  exact j_weak (ih false sv cv 0 h_sv h_cv h_n0 h_v) ⟨rfl, rfl, rfl, rfl, rfl, rfl, rfl, trivial⟩)
               | (rw [if_pos (by omega), if_neg h_z] at h_v
                  exact j_weak (ih true sv cv 0 h_sv h_cv h_n0 h_v) ⟨rfl, rfl, rfl, rfl, rfl, rfl, rfl, trivial⟩)
               | (exfalso; simp_all; done)
               | (exfalso; omega))
      · refine j_iload G dX7_allows_49 rfl ?_
        refine j_bipush G dX7_allows_51 (by decide) ?_
        refine j_imul G dX7_allows_53 ?_
        refine j_iload G dX7_allows_54 rfl ?_
        refine j_iadd G dX7_allows_56 ?_
        refine j_bipush G dX7_allows_57 (by decide) ?_
        refine j_isub G dX7_allows_59 ?_
        refine j_istore5 G dX7_allows_60 (by decide) rfl ?_
        refine j_goto G dX7_allows_62 (tgt := 137) (by decide) ?_
        refine j_iinc6 G dX7_allows_137 (by decide) rfl rfl ?_
        refine j_goto G dX7_allows_140 (tgt := 24) (by decide) ?_
        refine j_pc (p2 := 24) rfl ?_
        first
        | (rw [if_pos c_46] at h_v
           obtain ⟨g1, g2, g3⟩ := stp_dig h_q1 (by omega) c_46
           exact j_weak (ih z sv cv _ h_sv h_cv (by rw [g1]; exact nmO_d h_m ⟨g2, g3⟩ c_46) h_v) ⟨rfl, rfl, rfl, rfl, rfl, rfl, rfl, trivial⟩)
        | (rw [if_neg c_46, if_pos c_70] at h_v
           obtain ⟨g1, g2⟩ := stp_cmp h_q1 (by omega) c_70
           exact j_weak (ih z sv _ m h_sv h_fi (by rw [g1]; exact nmO_0 (h_m.1 (by omega)) (by omega)) h_v) ⟨rfl, rfl, rfl, rfl, rfl, rfl, rfl, trivial⟩)
        | (rw [if_neg c_46, if_neg c_70, if_pos c_85] at h_v
           obtain ⟨g1, g2⟩ := stp_sub h_q1 (by omega) c_85
           exact j_weak (ih z _ cv m (h_fc _) h_cv (by rw [g1]; exact nmO_0 (h_m.1 (by omega)) (by omega)) h_v) ⟨rfl, rfl, rfl, rfl, rfl, rfl, rfl, trivial⟩)
        | (obtain ⟨g1, g2, g3⟩ := stp_oth h_q1 (by omega) c_46 c_70 c_85
           rw [if_neg c_46, if_neg c_70, if_neg c_85] at h_v
           have h_n0 : nmO (stp (rst f i) (f i)) 0 := nmO_0 rfl (by omega)
           by_cases h_z : (z && hdB sv cv m) = true
           · first
             | (rw [if_neg (by omega), h_z] at h_v
                exact j_weak (ih true sv cv 0 h_sv h_cv h_n0 h_v) ⟨rfl, rfl, rfl, rfl, rfl, rfl, rfl, trivial⟩)
             | (exfalso; simp_all; done)
             | (exfalso; omega)
           · first
             | (rw [if_neg (by omega), show (z && hdB sv cv m) = false by simpa using h_z] at h_v
                exact j_weak (ih false sv cv 0 h_sv h_cv h_n0 h_v) ⟨rfl, rfl, rfl, rfl, rfl, rfl, rfl, trivial⟩)
             | (rw [if_pos (by omega), if_neg h_z] at h_v
                exact j_weak (ih true sv cv 0 h_sv h_cv h_n0 h_v) ⟨rfl, rfl, rfl, rfl, rfl, rfl, rfl, trivial⟩)
             | (exfalso; simp_all; done)
             | (exfalso; omega))
  have h_e := h_lp 0 (Nat.zero_le _) (decide (0 < n)) 0 0 0 (by decide) (by decide) (nmO_0 rfl (by simp [rst])) (by rw [← h_V]; rfl)
  first | refine j_aload_n G dX7_allows_0 rfl ?_ | refine j_aload_nN G dX7_allows_0 rfl ?_
  refine j_geti G fl_X7_11 dX7_allows_1 1 rfl (by first | assumption | rfl) (by rfl) (fun r_1 => ?_)
  try simp (disch := omega) only [up_same, up_cell, up_idx, cpm_at, fil_at] at r_1 ⊢
  refine j_if_le G dX7_allows_4 (tgt := 11) (by decide) (by omega) (fun c_4 => ?_) (fun c_4 => ?_)
  · refine j_iconst G dX7_allows_11 ?_
    refine j_istore2 G dX7_allows_12 (by decide) rfl ?_
    refine j_iconst G dX7_allows_13 ?_
    refine j_istore3 G dX7_allows_14 (by decide) rfl ?_
    refine j_iconst G dX7_allows_15 ?_
    refine j_istore4 G dX7_allows_16 (by decide) rfl ?_
    refine j_iconst G dX7_allows_18 ?_
    refine j_istore5 G dX7_allows_19 (by decide) rfl ?_
    refine j_iconst G dX7_allows_21 ?_
    refine j_istore6 G dX7_allows_22 (by decide) rfl ?_
    refine j_pc (p2 := 24) rfl ?_
    first
    | (rw [show decide (0 < n) = true by rw [decide_eq_true_eq]; omega] at h_e; exact h_e)
    | (rw [show decide (0 < n) = false by rw [decide_eq_false_iff_not]; omega] at h_e; exact h_e)
  · refine j_iconst G dX7_allows_7 ?_
    refine j_goto G dX7_allows_8 (tgt := 12) (by decide) ?_
    refine j_istore2 G dX7_allows_12 (by decide) rfl ?_
    refine j_iconst G dX7_allows_13 ?_
    refine j_istore3 G dX7_allows_14 (by decide) rfl ?_
    refine j_iconst G dX7_allows_15 ?_
    refine j_istore4 G dX7_allows_16 (by decide) rfl ?_
    refine j_iconst G dX7_allows_18 ?_
    refine j_istore5 G dX7_allows_19 (by decide) rfl ?_
    refine j_iconst G dX7_allows_21 ?_
    refine j_istore6 G dX7_allows_22 (by decide) rfl ?_
    refine j_pc (p2 := 24) rfl ?_
    first
    | (rw [show decide (0 < n) = true by rw [decide_eq_true_eq]; omega] at h_e; exact h_e)
    | (rw [show decide (0 < n) = false by rw [decide_eq_false_iff_not]; omega] at h_e; exact h_e)
end VO
