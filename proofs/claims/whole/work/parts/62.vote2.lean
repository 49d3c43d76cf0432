theorem downS {Pr : Nat → Prop} (N : Nat) (hs : ∀ i, i ≤ N → (∀ j, i < j → j ≤ N → Pr j) → Pr i) : ∀ i, i ≤ N → Pr i := by
  have key : ∀ k i, i ≤ N → N - i ≤ k → Pr i := by
    intro k
    induction k with
    | zero => intro i hi hk; exact hs i hi (fun j h1 h2 => absurd h2 (by omega))
    | succ k ih => intro i hi hk; exact hs i hi (fun j h1 h2 => ih j h2 (by omega))
  exact fun i hi => key (N - i) i hi (Nat.le_refl _)
theorem hdB_iff {v c m : Int} : hdB v c m = true ↔ (c = 60 ∧ v < m) ∨ (c = 62 ∧ m < v) ∨ (c ≠ 60 ∧ c ≠ 62 ∧ v = m) := by
  unfold hdB
  split
  · rw [decide_eq_true_eq]; omega
  · split
    · rw [decide_eq_true_eq]; omega
    · rw [decide_eq_true_eq]; omega
theorem own_most (f : Int → Int) : ∀ n : Nat, ((ownA f n).1 = -6 ∧ (ownA f n).2 = 0) ∨ (0 ≤ (ownA f n).1 ∧ f (ownA f n).1 = (ownA f n).2)
  | 0 => Or.inl ⟨rfl, rfl⟩
  | n + 1 => by
    have h_1 := own_most f n
    by_cases h_c : (ownA f n).2 < f n
    · rw [ownA_t h_c]
      exact Or.inr ⟨by dsimp only; omega, rfl⟩
    · rw [ownA_f (by omega)]
      exact h_1
section VO2
variable {E : EE} {x x1 x2 : CX} {μ σ : MemT}
theorem m_ones (a : Nat) (h_a : a < 2147483648) : CT (EM x) 0 yX12_ones [iv a] μ (rI (popN a 26) μ) := by
  refine CT.ofJ (own := RX12) (cc := cX12_ones) (n := 3) (ret := (some .int)) (by decide) rfl cw_X12_ones (by decide) (Nat.le_of_ble_eq_true rfl) (ls := [some (iv a), none, none]) rfl ?_
  intro X G
  refine j_iconst G dX12_ones_0 ?_
  refine j_istore1 G dX12_ones_1 (by decide) rfl ?_
  refine j_iconst G dX12_ones_2 ?_
  refine j_istore2 G dX12_ones_3 (by decide) rfl ?_
  refine j_pc (p2 := 4) rfl ?_
  refine down (Pr := fun i => JJ (EM x) X 0 (rI (popN a 26) μ) 3 4 [some (iv a), some (iv ((popN a i : Nat) : Int)), some (iv i)] [] μ) 26 ?_ 0 (by decide)
  intro i h_i ih
  have h_l := popN_le a i
  refine j_iload_n G dX12_ones_4 rfl ?_
  refine j_bipush G dX12_ones_5 (by decide) ?_
  refine j_icmp_ge G dX12_ones_7 (tgt := 24) (by decide) (by omega) (by omega) (fun c_7 => ?_) (fun c_7 => ?_)
  · refine j_iload_n G dX12_ones_24 rfl ?_
    refine j_ireturn G dX12_ones_25 ?_
    obtain rfl : i = 26 := by omega
    exact ⟨rfl, rfl⟩
  · refine j_iload_n G dX12_ones_10 rfl ?_
    refine j_iload_n G dX12_ones_11 rfl ?_
    refine j_iload_n G dX12_ones_12 rfl ?_
    refine j_ishr G dX12_ones_13 ?_
    refine j_iconst G dX12_ones_14 ?_
    refine j_iand G dX12_ones_15 ?_
    rw [bit32 h_a (by omega)]
    refine j_iadd G dX12_ones_16 ?_
    refine j_istore1 G dX12_ones_17 (by decide) rfl ?_
    refine j_iinc2 G dX12_ones_18 (by decide) rfl rfl ?_
    refine j_goto G dX12_ones_21 (tgt := 4) (by decide) ?_
    refine j_pc (p2 := 4) rfl ?_
    have h_z := ih (by omega)
    rw [show ((popN a (i + 1) : Nat) : Int) = popN a i + b2 (a.testBit i = true) by unfold b2; rw [show popN a (i + 1) = popN a i + (if a.testBit i then 1 else 0) from rfl]; split <;> simp] at h_z
    exact h_z
theorem popN_26 {a : Nat} (h : a < 4096) : popN a 26 = pop a := popN_more 12 26 (fun k hk => testBit_big (m := 12) (by omega) k hk) (by decide)
theorem m_factOf (r : Nat) (h_r : r < 20) (g : Int) (h_g : (-2147483648 ≤ g ∧ g < 2147483648)) (h_rd : ReRd σ μ) (h_wr : WfRd σ) : CT (EM x) 2 yX12_factOf [rf (EM x) 0, iv r, iv g] μ (rI (fcS σ r g) μ) := by
  obtain ⟨g1, g2, g3, g4⟩ := h_rd.2 r h_r
  obtain ⟨w1, w2, w3, w4⟩ := h_wr.2 r h_r
  have h_own : ownA (fun e => μ 25 (5 * r + e)) 5 = ownA (σ (79 + 2 * r)) 5 := ownA_cg 5 (fun i hi => g4 i (by omega) (by omega))
  have h_kn : knA (fun e => μ 25 (5 * r + e)) 5 = knA (σ (79 + 2 * r)) 5 := knA_cg 5 (fun i hi => g4 i (by omega) (by omega))
  have h_om := own_most (σ (79 + 2 * r)) 5
  have h_or := ownS_rg (σ (79 + 2 * r))
  have h_kl := knA_lt (σ (79 + 2 * r)) 5
  have h_ow : ownS (fun e => μ 25 (5 * r + e)) = ownS (σ (79 + 2 * r)) := by unfold ownS; rw [h_own]
  unfold fcS
  refine CT.ofJ (own := RX12) (cc := cX12_factOf) (n := 3) (ret := (some .int)) (by decide) rfl cw_X12_factOf (by decide) (Nat.le_of_ble_eq_true rfl) (ls := [some (rf (EM x) 0), some (iv r), some (iv g)]) rfl ?_
  intro X G
  refine j_iload_n G dX12_factOf_0 rfl ?_
  by_cases s_1_97 : g = 97
  · refine j_lookup G dX12_factOf_1 (tgt := 36) (by omega) (by decide) (by first | (rw [s_1_97]; rfl) | rw [s_1_97]) (by decide) ?_
    first | refine j_aload_n G dX12_factOf_36 rfl ?_ | refine j_aload_nN G dX12_factOf_36 rfl ?_
    refine j_getr G fl_X12_74 dX12_factOf_37 (by first | assumption | rfl) (by rfl) ?_
    refine j_iload_n G dX12_factOf_40 rfl ?_
    refine j_iaload G dX12_factOf_41 (by first | assumption | rfl) (by omega) (fun r_41 => ?_)
    try simp (disch := omega) only [up_same, up_cell, up_idx, cpm_at, fil_at] at r_41 ⊢
    refine j_ireturn G dX12_factOf_42 ?_
    exact ⟨congrArg (fun z => some (iv z)) (by repeat' split <;> first | rfl | omega), rfl⟩
  by_cases s_1_107 : g = 107
  · refine j_lookup G dX12_factOf_1 (tgt := 70) (by omega) (by decide) (by first | (rw [s_1_107]; rfl) | rw [s_1_107]) (by decide) ?_
    first | refine j_aload_n G dX12_factOf_70 rfl ?_ | refine j_aload_nN G dX12_factOf_70 rfl ?_
    refine j_iload_n G dX12_factOf_71 rfl ?_
    refine j_callV G mv_X12_270 dX12_factOf_72 (m_known r (by omega)) (by first | assumption | rfl) (by decide) (by rfl) rfl rfl (by exact Nat.le_of_ble_eq_true rfl) (by decide) (kI ?_)
    rw [h_kn]
    refine j_callS G ms_X12_150 dX12_factOf_75 (m_ones _ (pow31 h_kl (by decide))) rfl rfl (by exact Nat.le_of_ble_eq_true rfl) (by decide) (kI ?_)
    refine j_ireturn G dX12_factOf_78 ?_
    rw [popN_26 (by omega)]
    exact ⟨congrArg (fun z => some (iv z)) (by repeat' split <;> first | rfl | omega), rfl⟩
  by_cases s_1_121 : g = 121
  · refine j_lookup G dX12_factOf_1 (tgt := 43) (by omega) (by decide) (by first | (rw [s_1_121]; rfl) | rw [s_1_121]) (by decide) ?_
    first | refine j_aload_n G dX12_factOf_43 rfl ?_ | refine j_aload_nN G dX12_factOf_43 rfl ?_
    refine j_iload_n G dX12_factOf_44 rfl ?_
    refine j_callV G mv_X12_267 dX12_factOf_45 (m_ownCode r (by omega)) (by first | assumption | rfl) (by decide) (by rfl) rfl rfl (by exact Nat.le_of_ble_eq_true rfl) (by decide) (kI ?_)
    rw [h_ow]
    refine j_if_ge G dX12_factOf_48 (tgt := 55) (by decide) (by omega) (fun c_48 => ?_) (fun c_48 => ?_)
    · first | refine j_aload_n G dX12_factOf_55 rfl ?_ | refine j_aload_nN G dX12_factOf_55 rfl ?_
      refine j_getr G fl_X12_83 dX12_factOf_56 (by first | assumption | rfl) (by rfl) ?_
      refine j_iconst G dX12_factOf_59 ?_
      refine j_iload_n G dX12_factOf_60 rfl ?_
      refine j_imul G dX12_factOf_61 ?_
      first | refine j_aload_n G dX12_factOf_62 rfl ?_ | refine j_aload_nN G dX12_factOf_62 rfl ?_
      refine j_iload_n G dX12_factOf_63 rfl ?_
      refine j_callV G mv_X12_267 dX12_factOf_64 (m_ownCode r (by omega)) (by first | assumption | rfl) (by decide) (by rfl) rfl rfl (by exact Nat.le_of_ble_eq_true rfl) (by decide) (kI ?_)
      rw [h_ow]
      refine j_iadd G dX12_factOf_67 ?_
      refine j_iaload G dX12_factOf_68 (by first | assumption | rfl) (by omega) (fun r_68 => ?_)
      try simp (disch := omega) only [up_same, up_cell, up_idx, cpm_at, fil_at] at r_68 ⊢
      refine j_ireturn G dX12_factOf_69 ?_
      refine ⟨congrArg (fun z => some (iv z)) ?_, rfl⟩
      rw [if_neg (by omega), if_pos s_1_121]
      unfold ownS at *
      first
      | (rcases h_om with ⟨a1, a2⟩ | ⟨a1, a2⟩ <;> omega)
      | (rcases h_om with ⟨a1, a2⟩ | ⟨a1, a2⟩
         · omega
         · rw [g4 _ (by omega) (by omega)]; exact a2)
    · refine j_iconst G dX12_factOf_51 ?_
      refine j_goto G dX12_factOf_52 (tgt := 69) (by decide) ?_
      refine j_ireturn G dX12_factOf_69 ?_
      refine ⟨congrArg (fun z => some (iv z)) ?_, rfl⟩
      rw [if_neg (by omega), if_pos s_1_121]
      unfold ownS at *
      first
      | (rcases h_om with ⟨a1, a2⟩ | ⟨a1, a2⟩ <;> omega)
      | (rcases h_om with ⟨a1, a2⟩ | ⟨a1, a2⟩
         · omega
         · rw [g4 _ (by omega) (by omega)]; exact a2)
  refine j_lookup G dX12_factOf_1 (tgt := 79) (by omega) (by decide) (off := 78) (by show Op.lookupswitch.offset [(97, 35), (107, 69), (121, 42)] 78 (g) = 78; rw [Op.lookupswitch.offset_cons, if_neg (by omega), Op.lookupswitch.offset_cons, if_neg (by omega), Op.lookupswitch.offset_cons, if_neg (by omega)]; rfl) (by decide) ?_
  first | refine j_aload_n G dX12_factOf_79 rfl ?_ | refine j_aload_nN G dX12_factOf_79 rfl ?_
  refine j_getr G fl_X12_80 dX12_factOf_80 (by first | assumption | rfl) (by rfl) ?_
  refine j_iload_n G dX12_factOf_83 rfl ?_
  refine j_baload G dX12_factOf_84 (by first | assumption | rfl) (by omega) (fun r_84 => ?_)
  try simp (disch := omega) only [up_same, up_cell, up_idx, cpm_at, fil_at] at r_84 ⊢
  rw [g3] at *
  refine j_if_eq G dX12_factOf_85 (tgt := 92) (by decide) (by omega) (fun c_85 => ?_) (fun c_85 => ?_)
  · refine j_iconst G dX12_factOf_92 ?_
    refine j_ireturn G dX12_factOf_93 ?_
    exact ⟨congrArg (fun z => some (iv z)) (by repeat' split <;> first | rfl | omega), rfl⟩
  · refine j_iconst G dX12_factOf_88 ?_
    refine j_goto G dX12_factOf_89 (tgt := 93) (by decide) ?_
    refine j_ireturn G dX12_factOf_93 ?_
    exact ⟨congrArg (fun z => some (iv z)) (by repeat' split <;> first | rfl | omega), rfl⟩
theorem m_mayVote (s r n : Nat) (h_s : s < 6) (h_r : r < 20) (h_n : σ (129 + 12 * s) 1 = n) (h_40 : n ≤ 40) (h_0 : 0 < n) (h_ok : 2 < rst (σ (130 + 12 * s)) n) (h_rd : ReRd σ μ) (h_wr : WfRd σ) (h_fc : ∀ g, -2147483648 ≤ fcS σ r g ∧ fcS σ r g < 2147483648) (h_m1 : μ 31 s = n) (h_m2 : ∀ i, 0 ≤ i → i < n → μ 30 (40 * s + i) = σ (130 + 12 * s) i) : CT (EM x) 3 yX12_mayVote [rf (EM x) 0, iv s, iv r] μ (rI (b2 (clB (σ (130 + 12 * s)) (fcS σ r) n 0 true 0 0 0 = true)) μ) := by
  have h_mono : ∀ i, i ≤ n → 0 ≤ rst (σ (130 + 12 * s)) i := rst_mono (by omega)
  generalize h_f : σ (130 + 12 * s) = f at *
  generalize h_V : clB f (fcS σ r) n 0 true 0 0 0 = V
  refine CT.ofJ (own := RX12) (cc := cX12_mayVote) (n := 9) (ret := (some .boolean)) (by decide) rfl cw_X12_mayVote (by decide) (Nat.le_of_ble_eq_true rfl) (ls := [some (rf (EM x) 0), some (iv s), some (iv r), none, none, none, none, none, none]) rfl ?_
  intro X G
  refine j_ok (fun h_k => ?_)
  have h_fr : ∀ i : Nat, i < n → -2147483648 ≤ f i ∧ f i < 2147483648 := fun i hi => by rw [← h_m2 i (by omega) (by omega)]; exact h_k 30 _ (fun _ _ z => by cases z)
  have h_lp : ∀ i, i ≤ n → i < n → rst f i = 0 → ∀ (z : Bool) (sv cv : Int), V = clB f (fcS σ r) (n - i) i z sv cv 0 → JJ (EM x) X 3 (rI (b2 (V = true)) μ) 9 19 [some (rf (EM x) 0), some (iv s), some (iv r), some (iv (b2 (z = true))), some (iv (40 * s + i)), some (iv (40 * s + n)), none, none, none] [] μ := by
    refine downS (Pr := fun i => i < n → rst f i = 0 → ∀ (z : Bool) (sv cv : Int), V = clB f (fcS σ r) (n - i) i z sv cv 0 → JJ (EM x) X 3 (rI (b2 (V = true)) μ) 9 19 [some (rf (EM x) 0), some (iv s), some (iv r), some (iv (b2 (z = true))), some (iv (40 * s + i)), some (iv (40 * s + n)), none, none, none] [] μ) n ?_
    intro i h_i ih h_in h_ri z sv cv h_v
    have h_fi := h_fr i h_in
    have h_i1 : i + 1 < n := by
      rcases Nat.lt_or_ge (i + 1) n with h | h
      · exact h
      · exfalso
        have h_st := rst_step (f := f) (i := i) (by omega)
        rw [show i + 1 = n by omega, h_ri] at h_st
        have := stp_0 (g := f i) (by rw [← h_st]; omega)
        omega
    have h_st0 := rst_step (f := f) (i := i) (by omega)
    rw [h_ri] at h_st0
    obtain ⟨h_sub, h_s1⟩ := stp_0 (g := f i) (by rw [← h_st0]; exact h_mono (i + 1) (by omega))
    have h_st1 := rst_step (f := f) (i := i + 1) (h_mono _ (by omega))
    rw [h_st0, h_s1] at h_st1
    obtain ⟨h_cmp, h_s2⟩ := stp_1 (g := f ((i + 1 : Nat) : Int)) (by rw [← h_st1]; exact h_mono (i + 1 + 1) (by omega))
    have h_fi1 := h_fr (i + 1) h_i1
    have h_r2 : rst f (i + 2) = 2 := by rw [show i + 2 = i + 1 + 1 from rfl, h_st1]; exact h_s2
    rw [show n - i = (n - (i + 2)) + 1 + 1 by omega, clB_s, if_neg (by omega), if_neg (by omega), if_pos h_sub, clB_s, if_neg (by omega), if_pos h_cmp] at h_v
    generalize h_how : f ((i + 1 : Nat) : Int) = how at h_v h_cmp h_fi1
    have h_vr := h_fc (f i)
    generalize h_vl : fcS σ r (f i) = vl at h_v h_vr
    have h_in2 : ∀ j, j ≤ n → i + 2 ≤ j → ∀ m, nmO (rst f j) m → 2 ≤ rst f j → V = clB f (fcS σ r) (n - j) j z vl how m → JJ (EM x) X 3 (rI (b2 (V = true)) μ) 9 57 [some (rf (EM x) 0), some (iv s), some (iv r), some (iv (b2 (z = true))), some (iv (40 * s + j)), some (iv (40 * s + n)), some (iv vl), some (iv how), some (iv m)] [] μ := by
      refine down (Pr := fun j => i + 2 ≤ j → ∀ m, nmO (rst f j) m → 2 ≤ rst f j → V = clB f (fcS σ r) (n - j) j z vl how m → JJ (EM x) X 3 (rI (b2 (V = true)) μ) 9 57 [some (rf (EM x) 0), some (iv s), some (iv r), some (iv (b2 (z = true))), some (iv (40 * s + j)), some (iv (40 * s + n)), some (iv vl), some (iv how), some (iv m)] [] μ) n ?_
      intro j h_j ihj h_ij m h_m h_q2 h_vj
      have h_q5 := rst_rg f j
      have h_mr := nmO_rg h_m (by omega)
      have h_152 : (j < n → ¬ (48 ≤ f j ∧ f j ≤ 57)) → JJ (EM x) X 3 (rI (b2 (V = true)) μ) 9 152 [some (rf (EM x) 0), some (iv s), some (iv r), some (iv (b2 ((z && hdB vl how m) = true))), some (iv (40 * s + j)), some (iv (40 * s + n)), some (iv vl), some (iv how), some (iv m)] [] μ := by
        intro h_nd
        by_cases h_jn : j = n
        · subst h_jn
          rw [show j - j = 0 by omega, clB_0] at h_vj
          rw [h_vj]
          refine j_iload G dX12_mayVote_152 rfl ?_
          refine j_iload G dX12_mayVote_154 rfl ?_
          refine j_icmp_eq G dX12_mayVote_156 (tgt := 171) (by decide) (by omega) (by omega) (fun c_156 => ?_) (fun c_156 => ?_)
          · refine j_iload_n G dX12_mayVote_171 rfl ?_
            refine j_if_eqB G dX12_mayVote_172 (tgt := 177) (by decide)  (fun c_172 => ?_) (fun c_172 => ?_)
            · refine j_iconst G dX12_mayVote_177 ?_
              refine j_istore3 G dX12_mayVote_178 (by decide) rfl ?_
              refine j_iinc4 G dX12_mayVote_179 (by decide) rfl rfl ?_
              refine j_goto G dX12_mayVote_182 (tgt := 19) (by decide) ?_
              refine j_pc (p2 := 19) rfl ?_
              refine j_iload G dX12_mayVote_19 rfl ?_
              refine j_iload G dX12_mayVote_21 rfl ?_
              refine j_icmp_ge G dX12_mayVote_23 (tgt := 185) (by decide) (by omega) (by omega) (fun c_23 => ?_) (fun c_23 => ?_)
              · refine j_iconst G dX12_mayVote_185 ?_
                refine j_zreturn G dX12_mayVote_186 (by first | exact b2_01 _ | omega) ?_
                exact ⟨by rw [b2_f c_172], rfl⟩
              · omega
            · refine j_iconst G dX12_mayVote_175 ?_
              refine j_zreturn G dX12_mayVote_176 (by first | exact b2_01 _ | omega) ?_
              exact ⟨by rw [b2_t c_172], rfl⟩
          · omega
        · have h_jl : j < n := by omega
          have h_nd := h_nd h_jl
          have h_fj := h_fr j h_jl
          have h_stj := rst_step (f := f) (i := j) (by omega)
          have h_nz := h_mono (j + 1) (by omega)
          have h_nc : ¬ (f j = 60 ∨ f j = 62 ∨ f j = 61) := fun h => by
            have := stp_cmp (q := rst f j) (g := f j) (by rw [← h_stj]; exact h_nz) (by omega) h
            omega
          have h_ns : ¬ (f j = 97 ∨ f j = 121 ∨ f j = 107 ∨ f j = 115) := fun h => by
            have := stp_sub (q := rst f j) (g := f j) (by rw [← h_stj]; exact h_nz) (by omega) h
            omega
          obtain ⟨g1, g2, g3⟩ := stp_oth (q := rst f j) (g := f j) (by rw [← h_stj]; exact h_nz) (by omega) h_nd h_nc h_ns
          rw [g1] at h_stj
          have h_j1 : j + 1 < n := by
            rcases Nat.lt_or_ge (j + 1) n with h | h
            · exact h
            · exfalso
              rw [show j + 1 = n by omega] at h_stj
              omega
          rw [show n - j = (n - (j + 1)) + 1 by omega, clB_s, if_neg h_nd, if_neg h_nc, if_neg h_ns] at h_vj
          have ihn := ih (j + 1) (by omega) (by omega) h_j1 h_stj
          refine j_iload G dX12_mayVote_152 rfl ?_
          refine j_iload G dX12_mayVote_154 rfl ?_
          refine j_icmp_eq G dX12_mayVote_156 (tgt := 171) (by decide) (by omega) (by omega) (fun c_156 => ?_) (fun c_156 => ?_)
          · omega
          · first | refine j_aload_n G dX12_mayVote_159 rfl ?_ | refine j_aload_nN G dX12_mayVote_159 rfl ?_
            refine j_getr G fl_X12_98 dX12_mayVote_160 (by first | assumption | rfl) (by rfl) ?_
            refine j_iload G dX12_mayVote_163 rfl ?_
            refine j_iaload G dX12_mayVote_165 (by first | assumption | rfl) (by omega) (fun r_165 => ?_)
            try simp (disch := omega) only [up_same, up_cell, up_idx, cpm_at, fil_at] at r_165 ⊢
            rw [h_m2 j (by omega) (by omega)] at *
            refine j_bipush G dX12_mayVote_166 (by decide) ?_
            refine j_icmp_ne G dX12_mayVote_168 (tgt := 179) (by decide) (by omega) (by omega) (fun c_168 => ?_) (fun c_168 => ?_)
            · refine j_iinc4 G dX12_mayVote_179 (by decide) rfl rfl ?_
              refine j_goto G dX12_mayVote_182 (tgt := 19) (by decide) ?_
              refine j_pc (p2 := 19) rfl ?_
              first
              | (rw [if_pos (show f j = 124 by omega), if_neg c_172] at h_vj
                 rw [show 40 * (s : Int) + (j : Int) + 1 = 40 * s + ((j + 1 : Nat) : Int) by omega]
                 exact j_weak (ihn true vl how h_vj) ⟨rfl, rfl, rfl, rfl, rfl, rfl, trivial⟩)
              | (rw [if_neg (show ¬ f j = 124 by omega)] at h_vj
                 rw [show 40 * (s : Int) + (j : Int) + 1 = 40 * s + ((j + 1 : Nat) : Int) by omega]
                 exact j_weak (ihn _ vl how h_vj) ⟨rfl, rfl, rfl, rfl, rfl, rfl, trivial⟩)
            · refine j_iload_n G dX12_mayVote_171 rfl ?_
              refine j_if_eqB G dX12_mayVote_172 (tgt := 177) (by decide)  (fun c_172 => ?_) (fun c_172 => ?_)
              · refine j_iconst G dX12_mayVote_177 ?_
                refine j_istore3 G dX12_mayVote_178 (by decide) rfl ?_
                refine j_iinc4 G dX12_mayVote_179 (by decide) rfl rfl ?_
                refine j_goto G dX12_mayVote_182 (tgt := 19) (by decide) ?_
                refine j_pc (p2 := 19) rfl ?_
                first
                | (rw [if_pos (show f j = 124 by omega), if_neg c_172] at h_vj
                   rw [show 40 * (s : Int) + (j : Int) + 1 = 40 * s + ((j + 1 : Nat) : Int) by omega]
                   exact j_weak (ihn true vl how h_vj) ⟨rfl, rfl, rfl, rfl, rfl, rfl, trivial⟩)
                | (rw [if_neg (show ¬ f j = 124 by omega)] at h_vj
                   rw [show 40 * (s : Int) + (j : Int) + 1 = 40 * s + ((j + 1 : Nat) : Int) by omega]
                   exact j_weak (ihn _ vl how h_vj) ⟨rfl, rfl, rfl, rfl, rfl, rfl, trivial⟩)
              · refine j_iconst G dX12_mayVote_175 ?_
                refine j_zreturn G dX12_mayVote_176 (by first | exact b2_01 _ | omega) ?_
                rw [if_pos (by omega), if_pos c_172] at h_vj
                exact ⟨by rw [h_vj]; rfl, rfl⟩
      have h_tst : (j < n → ¬ (48 ≤ f j ∧ f j ≤ 57)) → JJ (EM x) X 3 (rI (b2 (V = true)) μ) 9 101 [some (rf (EM x) 0), some (iv s), some (iv r), some (iv (b2 (z = true))), some (iv (40 * s + j)), some (iv (40 * s + n)), some (iv vl), some (iv how), some (iv m)] [] μ := by
        intro h_nd
        have h_w := h_152 h_nd
        refine j_iload_n G dX12_mayVote_101 rfl ?_
        refine j_if_eqB G dX12_mayVote_102 (tgt := 150) (by decide)  (fun c_102 => ?_) (fun c_102 => ?_)
        · refine j_iconst G dX12_mayVote_150 ?_
          refine j_istore3 G dX12_mayVote_151 (by decide) rfl ?_
          refine j_pc (p2 := 152) rfl ?_
          by_cases h_t : (z && hdB vl how m) = true
          · rw [b2_t h_t] at h_w
            rw [Bool.and_eq_true, hdB_iff] at h_t
            first | exact h_w | exact absurd h_t.1 c_102 | (exfalso; omega)
          · rw [b2_f h_t] at h_w
            rw [Bool.and_eq_true, hdB_iff] at h_t
            first | exact h_w | exact absurd ⟨c_102, by omega⟩ h_t
        · refine j_iload G dX12_mayVote_105 rfl ?_
          refine j_bipush G dX12_mayVote_107 (by decide) ?_
          refine j_icmp_ne G dX12_mayVote_109 (tgt := 122) (by decide) (by omega) (by omega) (fun c_109 => ?_) (fun c_109 => ?_)
          · refine j_iload G dX12_mayVote_122 rfl ?_
            refine j_bipush G dX12_mayVote_124 (by decide) ?_
            refine j_icmp_ne G dX12_mayVote_126 (tgt := 139) (by decide) (by omega) (by omega) (fun c_126 => ?_) (fun c_126 => ?_)
            · refine j_iload G dX12_mayVote_139 rfl ?_
              refine j_iload G dX12_mayVote_141 rfl ?_
              refine j_icmp_ne G dX12_mayVote_143 (tgt := 150) (by decide) (by omega) (by omega) (fun c_143 => ?_) (fun c_143 => ?_)
              · refine j_iconst G dX12_mayVote_150 ?_
                refine j_istore3 G dX12_mayVote_151 (by decide) rfl ?_
                refine j_pc (p2 := 152) rfl ?_
                by_cases h_t : (z && hdB vl how m) = true
                · rw [b2_t h_t] at h_w
                  rw [Bool.and_eq_true, hdB_iff] at h_t
                  first | exact h_w | exact absurd h_t.1 c_102 | (exfalso; omega)
                · rw [b2_f h_t] at h_w
                  rw [Bool.and_eq_true, hdB_iff] at h_t
                  first | exact h_w | exact absurd ⟨c_102, by omega⟩ h_t
              · refine j_iconst G dX12_mayVote_146 ?_
                refine j_goto G dX12_mayVote_147 (tgt := 151) (by decide) ?_
                refine j_istore3 G dX12_mayVote_151 (by decide) rfl ?_
                refine j_pc (p2 := 152) rfl ?_
                by_cases h_t : (z && hdB vl how m) = true
                · rw [b2_t h_t] at h_w
                  rw [Bool.and_eq_true, hdB_iff] at h_t
                  first | exact h_w | exact absurd h_t.1 c_102 | (exfalso; omega)
                · rw [b2_f h_t] at h_w
                  rw [Bool.and_eq_true, hdB_iff] at h_t
                  first | exact h_w | exact absurd ⟨c_102, by omega⟩ h_t
            · refine j_iload G dX12_mayVote_129 rfl ?_
              refine j_iload G dX12_mayVote_131 rfl ?_
              refine j_icmp_le G dX12_mayVote_133 (tgt := 150) (by decide) (by omega) (by omega) (fun c_133 => ?_) (fun c_133 => ?_)
              · refine j_iconst G dX12_mayVote_150 ?_
                refine j_istore3 G dX12_mayVote_151 (by decide) rfl ?_
                refine j_pc (p2 := 152) rfl ?_
                by_cases h_t : (z && hdB vl how m) = true
                · rw [b2_t h_t] at h_w
                  rw [Bool.and_eq_true, hdB_iff] at h_t
                  first | exact h_w | exact absurd h_t.1 c_102 | (exfalso; omega)
                · rw [b2_f h_t] at h_w
                  rw [Bool.and_eq_true, hdB_iff] at h_t
                  first | exact h_w | exact absurd ⟨c_102, by omega⟩ h_t
              · refine j_goto G dX12_mayVote_136 (tgt := 146) (by decide) ?_
                refine j_iconst G dX12_mayVote_146 ?_
                refine j_goto G dX12_mayVote_147 (tgt := 151) (by decide) ?_
                refine j_istore3 G dX12_mayVote_151 (by decide) rfl ?_
                refine j_pc (p2 := 152) rfl ?_
                by_cases h_t : (z && hdB vl how m) = true
                · rw [b2_t h_t] at h_w
                  rw [Bool.and_eq_true, hdB_iff] at h_t
                  first | exact h_w | exact absurd h_t.1 c_102 | (exfalso; omega)
                · rw [b2_f h_t] at h_w
                  rw [Bool.and_eq_true, hdB_iff] at h_t
                  first | exact h_w | exact absurd ⟨c_102, by omega⟩ h_t
          · refine j_iload G dX12_mayVote_112 rfl ?_
            refine j_iload G dX12_mayVote_114 rfl ?_
            refine j_icmp_ge G dX12_mayVote_116 (tgt := 150) (by decide) (by omega) (by omega) (fun c_116 => ?_) (fun c_116 => ?_)
            · refine j_iconst G dX12_mayVote_150 ?_
              refine j_istore3 G dX12_mayVote_151 (by decide) rfl ?_
              refine j_pc (p2 := 152) rfl ?_
              by_cases h_t : (z && hdB vl how m) = true
              · rw [b2_t h_t] at h_w
                rw [Bool.and_eq_true, hdB_iff] at h_t
                first | exact h_w | exact absurd h_t.1 c_102 | (exfalso; omega)
              · rw [b2_f h_t] at h_w
                rw [Bool.and_eq_true, hdB_iff] at h_t
                first | exact h_w | exact absurd ⟨c_102, by omega⟩ h_t
            · refine j_goto G dX12_mayVote_119 (tgt := 146) (by decide) ?_
              refine j_iconst G dX12_mayVote_146 ?_
              refine j_goto G dX12_mayVote_147 (tgt := 151) (by decide) ?_
              refine j_istore3 G dX12_mayVote_151 (by decide) rfl ?_
              refine j_pc (p2 := 152) rfl ?_
              by_cases h_t : (z && hdB vl how m) = true
              · rw [b2_t h_t] at h_w
                rw [Bool.and_eq_true, hdB_iff] at h_t
                first | exact h_w | exact absurd h_t.1 c_102 | (exfalso; omega)
              · rw [b2_f h_t] at h_w
                rw [Bool.and_eq_true, hdB_iff] at h_t
                first | exact h_w | exact absurd ⟨c_102, by omega⟩ h_t
      clear h_152
      refine j_iload G dX12_mayVote_57 rfl ?_
      refine j_iload G dX12_mayVote_59 rfl ?_
      refine j_icmp_ge G dX12_mayVote_61 (tgt := 101) (by decide) (by omega) (by omega) (fun c_61 => ?_) (fun c_61 => ?_)
      · refine j_pc (p2 := 101) rfl ?_
        exact h_tst (fun h => by first | exact c_74 | omega)
      · first | refine j_aload_n G dX12_mayVote_64 rfl ?_ | refine j_aload_nN G dX12_mayVote_64 rfl ?_
        refine j_getr G fl_X12_98 dX12_mayVote_65 (by first | assumption | rfl) (by rfl) ?_
        refine j_iload G dX12_mayVote_68 rfl ?_
        have h_jl : j < n := by omega
        have h_fj := h_fr j h_jl
        refine j_iaload G dX12_mayVote_70 (by first | assumption | rfl) (by omega) (fun r_70 => ?_)
        try simp (disch := omega) only [up_same, up_cell, up_idx, cpm_at, fil_at] at r_70 ⊢
        rw [h_m2 j (by omega) (by omega)] at *
        refine j_callS G ms_X12_320 dX12_mayVote_71 (m_isDigit _ h_fj) rfl rfl (by exact Nat.le_of_ble_eq_true rfl) (by decide) (kI ?_)
        refine j_if_eqB G dX12_mayVote_74 (tgt := 101) (by decide)  (fun c_74 => ?_) (fun c_74 => ?_)
        · refine j_pc (p2 := 101) rfl ?_
          exact h_tst (fun h => by first | exact c_74 | omega)
        · refine j_bipush G dX12_mayVote_77 (by decide) ?_
          refine j_iload G dX12_mayVote_79 rfl ?_
          refine j_imul G dX12_mayVote_81 ?_
          first | refine j_aload_n G dX12_mayVote_82 rfl ?_ | refine j_aload_nN G dX12_mayVote_82 rfl ?_
          refine j_getr G fl_X12_98 dX12_mayVote_83 (by first | assumption | rfl) (by rfl) ?_
          refine j_iload G dX12_mayVote_86 rfl ?_
          refine j_iaload G dX12_mayVote_88 (by first | assumption | rfl) (by omega) (fun r_88 => ?_)
          try simp (disch := omega) only [up_same, up_cell, up_idx, cpm_at, fil_at] at r_88 ⊢
          rw [h_m2 j (by omega) (by omega)] at *
          refine j_iadd G dX12_mayVote_89 ?_
          refine j_bipush G dX12_mayVote_90 (by decide) ?_
          refine j_isub G dX12_mayVote_92 ?_
          refine j_istore8 G dX12_mayVote_93 (by decide) rfl ?_
          refine j_pc (p2 := 95) rfl ?_
          refine j_iinc4 G dX12_mayVote_95 (by decide) rfl rfl ?_
          refine j_goto G dX12_mayVote_98 (tgt := 57) (by decide) ?_
          refine j_pc (p2 := 57) rfl ?_
          have h_stj := rst_step (f := f) (i := j) (by omega)
          obtain ⟨g1, g2, g3⟩ := stp_dig (q := rst f j) (g := f j) (by rw [← h_stj]; exact h_mono (j + 1) (by omega)) (by omega) c_74
          rw [g1] at h_stj
          rw [show n - j = (n - (j + 1)) + 1 by omega, clB_s, if_pos c_74] at h_vj
          have h_w := ihj h_jl (by omega) _ (by rw [h_stj]; exact nmO_d h_m ⟨g2, g3⟩ c_74) (by omega) h_vj
          rw [show 40 * (s : Int) + (j : Int) + 1 = 40 * s + ((j + 1 : Nat) : Int) by omega, show 10 * m + f j - 48 = m * 10 + f j - 48 by omega]
          exact h_w
    have h_go := h_in2 (i + 2) (by omega) (by omega) 0 (nmO_0 rfl (by omega)) (by omega) h_v
    refine j_iload G dX12_mayVote_19 rfl ?_
    refine j_iload G dX12_mayVote_21 rfl ?_
    refine j_icmp_ge G dX12_mayVote_23 (tgt := 185) (by decide) (by omega) (by omega) (fun c_23 => ?_) (fun c_23 => ?_)
    · omega
    · first | refine j_aload_n G dX12_mayVote_26 rfl ?_ | refine j_aload_nN G dX12_mayVote_26 rfl ?_
      refine j_iload_n G dX12_mayVote_27 rfl ?_
      first | refine j_aload_n G dX12_mayVote_28 rfl ?_ | refine j_aload_nN G dX12_mayVote_28 rfl ?_
      refine j_getr G fl_X12_98 dX12_mayVote_29 (by first | assumption | rfl) (by rfl) ?_
      refine j_iload G dX12_mayVote_32 rfl ?_
      refine j_iaload G dX12_mayVote_34 (by first | assumption | rfl) (by omega) (fun r_34 => ?_)
      try simp (disch := omega) only [up_same, up_cell, up_idx, cpm_at, fil_at] at r_34 ⊢
      rw [h_m2 i (by omega) (by omega)] at *
      refine j_callV G mv_X12_330 dX12_mayVote_35 (m_factOf r h_r _ h_fi h_rd h_wr) (by first | assumption | rfl) (by decide) (by rfl) rfl rfl (by exact Nat.le_of_ble_eq_true rfl) (by decide) (kI ?_)
      refine j_istore6 G dX12_mayVote_38 (by decide) rfl ?_
      first | refine j_aload_n G dX12_mayVote_40 rfl ?_ | refine j_aload_nN G dX12_mayVote_40 rfl ?_
      refine j_getr G fl_X12_98 dX12_mayVote_41 (by first | assumption | rfl) (by rfl) ?_
      refine j_iload G dX12_mayVote_44 rfl ?_
      refine j_pc (p2 := 46) rfl ?_
      refine j_iconst G dX12_mayVote_46 ?_
      refine j_iadd G dX12_mayVote_47 ?_
      refine j_iaload G dX12_mayVote_48 (by first | assumption | rfl) (by omega) (fun r_48 => ?_)
      try simp (disch := omega) only [up_same, up_cell, up_idx, cpm_at, fil_at] at r_48 ⊢
      rw [show 40 * (s : Int) + (i : Int) + 1 = 40 * s + ((i + 1 : Nat) : Int) by omega, h_m2 (i + 1) (by omega) (by omega), h_how, h_vl]
      refine j_istore7 G dX12_mayVote_49 (by decide) rfl ?_
      refine j_iconst G dX12_mayVote_51 ?_
      refine j_istore8 G dX12_mayVote_52 (by decide) rfl ?_
      refine j_iinc4 G dX12_mayVote_54 (by decide) rfl rfl ?_
      refine j_pc (p2 := 57) rfl ?_
      rw [show 40 * (s : Int) + (i : Int) + 2 = 40 * s + ((i + 2 : Nat) : Int) by omega]
      exact h_go
  have h_e := h_lp 0 (Nat.zero_le _) h_0 rfl true 0 0 (by rw [← h_V]; rfl)
  refine j_iconst G dX12_mayVote_0 ?_
  refine j_istore3 G dX12_mayVote_1 (by decide) rfl ?_
  refine j_bipush G dX12_mayVote_2 (by decide) ?_
  refine j_iload_n G dX12_mayVote_4 rfl ?_
  refine j_imul G dX12_mayVote_5 ?_
  refine j_istore4 G dX12_mayVote_6 (by decide) rfl ?_
  refine j_iload G dX12_mayVote_8 rfl ?_
  first | refine j_aload_n G dX12_mayVote_10 rfl ?_ | refine j_aload_nN G dX12_mayVote_10 rfl ?_
  refine j_getr G fl_X12_101 dX12_mayVote_11 (by first | assumption | rfl) (by rfl) ?_
  refine j_iload_n G dX12_mayVote_14 rfl ?_
  refine j_iaload G dX12_mayVote_15 (by first | assumption | rfl) (by omega) (fun r_15 => ?_)
  try simp (disch := omega) only [up_same, up_cell, up_idx, cpm_at, fil_at] at r_15 ⊢
  refine j_pc (p2 := 16) rfl ?_
  rw [h_m1]
  refine j_iadd G dX12_mayVote_16 ?_
  refine j_istore5 G dX12_mayVote_17 (by decide) rfl ?_
  refine j_pc (p2 := 19) rfl ?_
  rw [show (40 : Int) * s = 40 * s + ((0 : Nat) : Int) by omega] at *
  rw [show (40 : Int) * s + ((0 : Nat) : Int) + (n : Int) = 40 * s + n by omega]
  exact h_e
end VO2
