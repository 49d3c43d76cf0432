def KW (μ ν : MemT) : Prop := (∀ k, k ≠ 9 → k ≠ 0 → ν k = μ k) ∧ ∀ i, i ≠ 11 → ν 0 i = μ 0 i
theorem cv_dm {m : Nat} {v : Int} (h : wv m v) (h_m : m ≤ 10) (h_f : v ≠ 268435456) : cv v / 1000 = v / 1024 ∧ cv v % 1000 = v % 1024 := by
  rcases h with h | ⟨a, b, h_1, h_2, h_3⟩
  · exact absurd h h_f
  · rw [cv_a h_3 (by omega) (by omega)]
    omega
theorem bko_of {cn g : Nat → Int} {i n : Nat} (h_i : i ≤ n) (h_1 : ∀ w, w < n → 0 ≤ cn w ∧ cn w ≤ 1000) (h_2 : ∀ w, w < n → ∃ m, m ≤ 10 ∧ wv m (g w)) (h_3 : ∀ w, w < i → 0 < cn w → g w ≠ 268435456) : BkO cn g i := fun w h_w => by
  obtain ⟨m, h_4, h_5⟩ := h_2 w (by omega)
  have h_6 := wv_rg h_5 h_4
  have h_7 := h_3 w h_w
  exact ⟨h_1 w (by omega), by omega, by omega, fun h => by have := h_7 h; omega⟩
/-- what a room's weighing may change -/
def KR (μ ν : MemT) : Prop := (∀ k, k ≠ 9 → k ≠ 10 → k ≠ 0 → ν k = μ k) ∧ ∀ i, i ≠ 11 → i ≠ 24 → i ≠ 25 → ν 0 i = μ 0 i
theorem KR.rf (μ : MemT) : KR μ μ := ⟨fun _ _ _ _ => rfl, fun _ _ _ _ => rfl⟩
theorem KR.up {a b : MemT} (h : KR a b) {i z : Int} (h_i : i = 24 ∨ i = 25) : KR a (up b 0 i z) := ⟨fun j h_1 h_2 h_3 => by rw [up_fn h_3]; exact h.1 j h_1 h_2 h_3, fun j h_1 h_2 h_3 => by rw [up_idx (by omega)]; exact h.2 j h_1 h_2 h_3⟩
theorem KR.km {μ ν : MemT} (h : KR μ ν) : KM μ ν := ⟨fun k h_1 h_2 => h.1 k (fun q => h_1 (by unfold scM; omega)) (fun q => h_1 (by unfold scM; omega)) h_2, fun i h_1 => h.2 i (fun q => h_1 (by unfold scF; omega)) (fun q => h_1 (by unfold scF; omega)) (fun q => h_1 (by unfold scF; omega))⟩
section RM2
variable {E : EE} {x x1 x2 : CX} {μ σ : MemT}
theorem m_layWord (w n : Nat) (h_w : w < 30) (h_n : μ 18 w = n) (h_10 : n ≤ 10) : CT (EM x) 0 yX12_layWord [rf (EM x) 0, iv w] μ (fun r ν => r = none ∧ KW μ ν ∧ TX ν n (fun i => μ 17 (10 * (w : Int) + i))) := by
  refine CT.ofJ (own := RX12) (cc := cX12_layWord) (n := 3) (ret := none) (by decide) rfl cw_X12_layWord (by decide) (Nat.le_of_ble_eq_true rfl) (ls := [some (rf (EM x) 0), some (iv w), none]) rfl ?_
  intro X G
  first | refine j_aload_n G dX12_layWord_0 rfl ?_ | refine j_aload_nN G dX12_layWord_0 rfl ?_
  first | refine j_aload_n G dX12_layWord_1 rfl ?_ | refine j_aload_nN G dX12_layWord_1 rfl ?_
  refine j_getr G fl_X12_62 dX12_layWord_2 (by first | assumption | rfl) (by rfl) ?_
  refine j_iload_n G dX12_layWord_5 rfl ?_
  refine j_iaload G dX12_layWord_6 (by first | assumption | rfl) (by omega) (fun r_6 => ?_)
  try simp (disch := omega) only [up_same, up_cell, up_idx, cpm_at, fil_at] at r_6 ⊢
  rw [h_n]
  refine j_puti G fp_X12_161 dX12_layWord_7 11 rfl (by first | assumption | rfl) (by rfl) (by omega) ?_
  refine j_iconst G dX12_layWord_10 ?_
  refine j_istore2 G dX12_layWord_11 (by decide) rfl ?_
  refine j_pc (p2 := 12) rfl ?_
  refine down (Pr := fun i => ∀ ν : MemT, KW μ ν → ν 0 11 = n → (∀ j : Nat, j < i → ν 9 j = μ 17 (10 * (w : Int) + j)) → JJ (EM x) X 0 (fun r ν => r = none ∧ KW μ ν ∧ TX ν n (fun i => μ 17 (10 * (w : Int) + i))) 3 12 [some (rf (EM x) 0), some (iv w), some (iv i)] [] ν) n ?_ 0 (Nat.zero_le _) _ ⟨fun k _ h_0 => up_other k h_0, fun i h_i => up_idx h_i⟩ (up_same _ _ _ _) (fun j h_j => by omega)
  intro i h_i ih ν h_k h_11 h_v
  refine j_iload_n G dX12_layWord_12 rfl ?_
  first | refine j_aload_n G dX12_layWord_13 rfl ?_ | refine j_aload_nN G dX12_layWord_13 rfl ?_
  refine j_geti G fl_X12_161 dX12_layWord_14 11 rfl (by first | assumption | rfl) (by rfl) (fun r_14 => ?_)
  try simp (disch := omega) only [up_same, up_cell, up_idx, cpm_at, fil_at] at r_14 ⊢
  rw [h_11]
  refine j_icmp_ge G dX12_layWord_17 (tgt := 43) (by decide) (by omega) (by omega) (fun c_17 => ?_) (fun c_17 => ?_)
  · refine j_return G dX12_layWord_43 ?_
    obtain rfl : i = n := by omega
    exact ⟨rfl, h_k, h_11, h_v⟩
  · first | refine j_aload_n G dX12_layWord_20 rfl ?_ | refine j_aload_nN G dX12_layWord_20 rfl ?_
    refine j_getr G fl_X12_34 dX12_layWord_21 (by first | assumption | rfl) (by rfl) ?_
    refine j_iload_n G dX12_layWord_24 rfl ?_
    first | refine j_aload_n G dX12_layWord_25 rfl ?_ | refine j_aload_nN G dX12_layWord_25 rfl ?_
    refine j_getr G fl_X12_59 dX12_layWord_26 (by first | assumption | rfl) (by rfl) ?_
    refine j_bipush G dX12_layWord_29 (by decide) ?_
    refine j_iload_n G dX12_layWord_31 rfl ?_
    refine j_imul G dX12_layWord_32 ?_
    refine j_iload_n G dX12_layWord_33 rfl ?_
    refine j_iadd G dX12_layWord_34 ?_
    refine j_iaload G dX12_layWord_35 (by first | assumption | rfl) (by omega) (fun r_35 => ?_)
    try simp (disch := omega) only [up_same, up_cell, up_idx, cpm_at, fil_at] at r_35 ⊢
    refine j_pc (p2 := 36) rfl ?_
    rw [h_k.1 17 (by decide) (by decide)] at *
    refine j_iastore G dX12_layWord_36 (by first | assumption | rfl) (by omega) (by omega) ?_
    refine j_iinc2 G dX12_layWord_37 (by decide) rfl rfl ?_
    refine j_goto G dX12_layWord_40 (tgt := 12) (by decide) ?_
    refine j_pc (p2 := 12) rfl ?_
    refine ih (by omega) _ ⟨fun k h_1 h_2 => ?_, fun j h_1 => ?_⟩ ?_ (fun j h_j => ?_)
    · rw [show up ν 9 i _ k = ν k from up_other k h_1]
      exact h_k.1 k h_1 h_2
    · rw [up_cell (by decide)]
      exact h_k.2 j h_1
    · rw [up_cell (by decide)]
      exact h_11
    · by_cases h_e : j = i
      · subst h_e
        exact up_same _ _ _ _
      · rw [up_idx (by omega)]
        exact h_v j (by omega)
theorem m_findRoomR (b c n : Nat) (h_b : b < 8) (h_c : c < 5) (h_n : σ 57 3 = n) (h_w : WfCode σ c) (h_r : ReCode σ μ c) (h_ww : WfWord σ) (h_rw : ReWord σ μ) : CT (EM x) 4 yX12_findRoom [rf (EM x) 0, iv b, iv c] μ (rP (fun z ν => z = b2 (prB (fun w => σ (61 + b) w) (wgW σ c) n = true) ∧ KR μ ν ∧ (prB (fun w => σ (61 + b) w) (wgW σ c) n = true → ν 0 24 = ceB (fun w => σ (61 + b) w) (wgW σ c) n ∧ ν 0 25 = poB (fun w => σ (61 + b) w) (wgW σ c) n))) := by
  obtain ⟨h_w1, h_w2, h_w3, h_w4⟩ := id h_ww
  obtain ⟨h_r1, h_r2, h_r3⟩ := id h_rw
  have h_cr : ∀ w : Nat, w < n → 0 ≤ σ (61 + b) w ∧ σ (61 + b) w ≤ 1000 := fun w h => h_w4 b h_b w (by omega) (by omega)
  have h_gv : ∀ w, w < n → ∃ m, m ≤ 10 ∧ wv m (wgW σ c w) := fun w h => ⟨_, (wg_v h_w h_ww w (by omega)).2, (wg_v h_w h_ww w (by omega)).1⟩
  generalize h_cn : (fun w : Nat => σ (61 + b) w) = cn
  have h_cw : ∀ w : Nat, w < n → σ (61 + b) w = cn w := fun w _ => by rw [← h_cn]
  have h_ca : ∀ w, w < n → 0 ≤ cn w ∧ cn w ≤ 1000 := fun w h => by rw [← h_cw w h]; exact h_cr w h
  generalize h_gn : wgW σ c = g at h_gv
  refine CT.ofJ (own := RX12) (cc := cX12_findRoom) (n := 5) (ret := (some .boolean)) (by decide) rfl cw_X12_findRoom (by decide) (Nat.le_of_ble_eq_true rfl) (ls := [some (rf (EM x) 0), some (iv b), some (iv c), none, none]) rfl ?_
  intro X G
  first | refine j_aload_n G dX12_findRoom_0 rfl ?_ | refine j_aload_nN G dX12_findRoom_0 rfl ?_
  refine j_iconst G dX12_findRoom_1 ?_
  refine j_puti G fp_X12_223 dX12_findRoom_2 24 rfl (by first | assumption | rfl) (by rfl) (by omega) ?_
  first | refine j_aload_n G dX12_findRoom_5 rfl ?_ | refine j_aload_nN G dX12_findRoom_5 rfl ?_
  refine j_iconst G dX12_findRoom_6 ?_
  refine j_puti G fp_X12_226 dX12_findRoom_7 25 rfl (by first | assumption | rfl) (by rfl) (by omega) ?_
  refine j_iconst G dX12_findRoom_10 ?_
  refine j_istore3 G dX12_findRoom_11 (by decide) rfl ?_
  refine j_pc (p2 := 12) rfl ?_
  refine down (Pr := fun i => ∀ ν : MemT, KR μ ν → (∀ w, w < i → 0 < cn w → g w ≠ 268435456) → ν 0 24 = ceB cn g i → ν 0 25 = poB cn g i → JJ (EM x) X 4 (rP (fun z ν => z = b2 (prB cn g n = true) ∧ KR μ ν ∧ (prB cn g n = true → ν 0 24 = ceB cn g n ∧ ν 0 25 = poB cn g n))) 5 12 [some (rf (EM x) 0), some (iv b), some (iv c), some (iv i), none] [] ν) n ?_ 0 (Nat.zero_le _) _ ?_ (fun w h => by omega) ?_ ?_
  · intro i h_i ih ν h_k h_al h_24 h_25
    have h_b1 := ceB_rg (bko_of h_i h_ca h_gv h_al) (by omega) i (Nat.le_refl _)
    have h_b2 := poB_rg (bko_of h_i h_ca h_gv h_al) (by omega) i (Nat.le_refl _)
    · refine j_iload_n G dX12_findRoom_12 rfl ?_
      first | refine j_aload_n G dX12_findRoom_13 rfl ?_ | refine j_aload_nN G dX12_findRoom_13 rfl ?_
      refine j_geti G fl_X12_213 dX12_findRoom_14 22 rfl (by first | assumption | rfl) (by rfl) (fun r_14 => ?_)
      try simp (disch := omega) only [up_same, up_cell, up_idx, cpm_at, fil_at] at r_14 ⊢
      rw [h_k.2 22 (by decide) (by decide) (by decide), h_r1, h_n]
      refine j_icmp_ge G dX12_findRoom_17 (tgt := 103) (by decide) (by omega) (by omega) (fun c_17 => ?_) (fun c_17 => ?_)
      · refine j_iconst G dX12_findRoom_103 ?_
        refine j_zreturn G dX12_findRoom_104 (by first | exact b2_01 _ | omega) ?_
        obtain rfl : i = n := by omega
        exact ⟨1, rfl, by rw [prB_iff.2 h_al]; rfl, h_k, fun _ => ⟨h_24, h_25⟩⟩
      · have h_19 : ν 19 (30 * (b : Int) + i) = cn i := by rw [h_k.1 19 (by decide) (by decide) (by decide), h_r3 b h_b i (by omega) (by omega)]; exact h_cw i (by omega)
        have h_ci := h_ca i (by omega)
        obtain ⟨m, h_m10, h_mv⟩ := h_gv i (by omega)
        have h_mr := wv_rg h_mv h_m10
        first | refine j_aload_n G dX12_findRoom_20 rfl ?_ | refine j_aload_nN G dX12_findRoom_20 rfl ?_
        refine j_getr G fl_X12_65 dX12_findRoom_21 (by first | assumption | rfl) (by rfl) ?_
        refine j_bipush G dX12_findRoom_24 (by decide) ?_
        refine j_iload_n G dX12_findRoom_26 rfl ?_
        refine j_imul G dX12_findRoom_27 ?_
        refine j_iload_n G dX12_findRoom_28 rfl ?_
        refine j_iadd G dX12_findRoom_29 ?_
        refine j_iaload G dX12_findRoom_30 (by first | assumption | rfl) (by omega) (fun r_30 => ?_)
        try simp (disch := omega) only [up_same, up_cell, up_idx, cpm_at, fil_at] at r_30 ⊢
        rw [h_19]
        refine j_istore4 G dX12_findRoom_31 (by decide) rfl ?_
        refine j_iload G dX12_findRoom_33 rfl ?_
        refine j_if_le G dX12_findRoom_35 (tgt := 97) (by decide) (by omega) (fun c_35 => ?_) (fun c_35 => ?_)
        · refine j_iinc3 G dX12_findRoom_97 (by decide) rfl rfl ?_
          refine j_goto G dX12_findRoom_100 (tgt := 12) (by decide) ?_
          refine j_pc (p2 := 12) rfl ?_
          first
          | (refine j_weak (ih (by omega) ν h_k (fun w h_1 h_2 => ?_) ?_ ?_) ⟨rfl, rfl, rfl, rfl, trivial⟩
             · by_cases h_e : w = i
               · subst h_e
                 omega
               · exact h_al w (by omega) h_2
             · show ν 0 24 = ceB cn g i + cn i * (g i / 1024)
               rw [show cn i = 0 by omega, Int.zero_mul, Int.add_zero]
               exact h_24
             · show ν 0 25 = poB cn g i + cn i * (g i % 1024)
               rw [show cn i = 0 by omega, Int.zero_mul, Int.add_zero]
               exact h_25)
          | (refine j_weak (ih (by omega) _ ((h_k3.up (by decide)).up (by decide)) (fun w h_1 h_2 => ?_) ?_ ?_) ⟨rfl, rfl, rfl, rfl, trivial⟩
             · by_cases h_e : w = i
               · subst h_e
                 exact c_48
               · exact h_al w (by omega) h_2
             · simp (disch := omega) only [up_same, up_cell, up_idx, cpm_at, fil_at]
               rfl
             · simp (disch := omega) only [up_same, up_cell, up_idx, cpm_at, fil_at]
               rfl)
        · obtain ⟨h_5, h_6⟩ := h_w3 i (by omega) (by omega)
          obtain ⟨z, h_z10, h_ze⟩ := nat_of (n := 10) (z := σ 59 i) (by omega)
          obtain ⟨h_7, h_8⟩ := h_r2 i (by omega) (by omega)
          have h_gi : g i = wA σ c (wtx σ i) z 0 := by rw [← h_gn]; unfold wgW; rw [h_ze, Int.toNat_natCast]
          first | refine j_aload_n G dX12_findRoom_38 rfl ?_ | refine j_aload_nN G dX12_findRoom_38 rfl ?_
          refine j_iload_n G dX12_findRoom_39 rfl ?_
          refine j_callV G mv_X12_229 dX12_findRoom_40 (m_layWord i z (by omega) (by rw [h_k.1 18 (by decide) (by decide) (by decide), h_7, h_ze]) h_z10) (by first | assumption | rfl) (by decide) (by rfl) rfl rfl (by exact Nat.le_of_ble_eq_true rfl) (by decide) (kM (fun ν2 h_l => ?_))
          obtain ⟨h_l1, h_l2, h_l3⟩ := h_l
          have h_tx : TX ν2 z (wtx σ i) := ⟨h_l2, fun j h_j => (h_l3 j h_j).trans (by rw [h_k.1 17 (by decide) (by decide) (by decide)]; exact h_8 j (by omega) (by omega))⟩
          have h_rc : ReCode σ ν2 c := h_r.on (fun j h_1 h_2 => (h_l1.1 j (by omega) (by omega)).trans (h_k.1 j (by omega) (by omega) (by omega)))
          first | refine j_aload_n G dX12_findRoom_43 rfl ?_ | refine j_aload_nN G dX12_findRoom_43 rfl ?_
          refine j_iload_n G dX12_findRoom_44 rfl ?_
          refine j_callV G mv_X12_187 dX12_findRoom_45 (m_findWritten (σ := σ) c z (wtx σ i) h_c h_z10 h_tx (fun j h_j => h_6 j (by omega) (by omega)) h_w h_rc) (by first | assumption | rfl) (by decide) (by rfl) rfl rfl (by exact Nat.le_of_ble_eq_true rfl) (by decide) (kP (fun y ν3 h_y => ?_))
          obtain ⟨rfl, h_y2, h_y3⟩ := h_y
          rw [← h_gi]
          have h_00 : ν3 10 0 = cv (g i) := by rw [h_gi]; exact h_y3 0 (by omega)
          have h_k2 : KR μ ν2 := ⟨fun k h_1 h_2 h_3 => (h_l1.1 k h_1 h_3).trans (h_k.1 k h_1 h_2 h_3), fun j h_1 h_2 h_3 => (h_l1.2 j h_1).trans (h_k.2 j h_1 h_2 h_3)⟩
          have h_k3 : KR μ ν3 := ⟨fun k h_1 h_2 h_3 => (h_y2 k h_2).trans (h_k2.1 k h_1 h_2 h_3), fun j h_1 h_2 h_3 => by rw [h_y2 0 (by decide)]; exact h_k2.2 j h_1 h_2 h_3⟩
          have h_324 : ν3 0 24 = ceB cn g i := by rw [h_y2 0 (by decide), h_l1.2 24 (by decide)]; exact h_24
          have h_325 : ν3 0 25 = poB cn g i := by rw [h_y2 0 (by decide), h_l1.2 25 (by decide)]; exact h_25
          refine j_if_neB G dX12_findRoom_48 (tgt := 53) (by decide)  (fun c_48 => ?_) (fun c_48 => ?_)
          · obtain ⟨h_d1, h_d2⟩ := cv_dm h_mv h_m10 c_48
            have h_cvr := cv_rg h_mv h_m10
            have h_m1 := mul_rg (a := cn i) (b := g i / 1024) h_ci (fun _ => by omega)
            have h_m2 := mul_rg (a := cn i) (b := g i % 1024) h_ci (fun _ => by omega)
            first | refine j_aload_n G dX12_findRoom_53 rfl ?_ | refine j_aload_nN G dX12_findRoom_53 rfl ?_
            refine j_dup G dX12_findRoom_54 rfl ?_
            refine j_geti G fl_X12_223 dX12_findRoom_55 24 rfl (by first | assumption | rfl) (by rfl) (fun r_55 => ?_)
            try simp (disch := omega) only [up_same, up_cell, up_idx, cpm_at, fil_at] at r_55 ⊢
            rw [h_324]
            refine j_iload G dX12_findRoom_58 rfl ?_
            first | refine j_aload_n G dX12_findRoom_60 rfl ?_ | refine j_aload_nN G dX12_findRoom_60 rfl ?_
            refine j_getr G fl_X12_37 dX12_findRoom_61 (by first | assumption | rfl) (by rfl) ?_
            refine j_iconst G dX12_findRoom_64 ?_
            refine j_iaload G dX12_findRoom_65 (by first | assumption | rfl) (by omega) (fun r_65 => ?_)
            try simp (disch := omega) only [up_same, up_cell, up_idx, cpm_at, fil_at] at r_65 ⊢
            rw [h_00]
            refine j_sipush G dX12_findRoom_66 (by decide) ?_
            refine j_idiv G dX12_findRoom_69 (by omega) (by omega) ?_
            rw [h_d1]
            refine j_imul G dX12_findRoom_70 ?_
            refine j_pc (p2 := 71) rfl ?_
            refine j_iadd G dX12_findRoom_71 ?_
            refine j_puti G fp_X12_223 dX12_findRoom_72 24 rfl (by first | assumption | rfl) (by rfl) (by omega) ?_
            first | refine j_aload_n G dX12_findRoom_75 rfl ?_ | refine j_aload_nN G dX12_findRoom_75 rfl ?_
            refine j_dup G dX12_findRoom_76 rfl ?_
            refine j_geti G fl_X12_226 dX12_findRoom_77 25 rfl (by first | assumption | rfl) (by rfl) (fun r_77 => ?_)
            try simp (disch := omega) only [up_same, up_cell, up_idx, cpm_at, fil_at] at r_77 ⊢
            rw [h_325]
            refine j_iload G dX12_findRoom_80 rfl ?_
            first | refine j_aload_n G dX12_findRoom_82 rfl ?_ | refine j_aload_nN G dX12_findRoom_82 rfl ?_
            refine j_getr G fl_X12_37 dX12_findRoom_83 (by first | assumption | rfl) (by rfl) ?_
            refine j_iconst G dX12_findRoom_86 ?_
            refine j_iaload G dX12_findRoom_87 (by first | assumption | rfl) (by omega) (fun r_87 => ?_)
            try simp (disch := omega) only [up_same, up_cell, up_idx, cpm_at, fil_at] at r_87 ⊢
            rw [h_00]
            refine j_sipush G dX12_findRoom_88 (by decide) ?_
            refine j_irem G dX12_findRoom_91 (by omega) (by omega) ?_
            refine j_pc (p2 := 92) rfl ?_
            rw [h_d2]
            refine j_imul G dX12_findRoom_92 ?_
            refine j_iadd G dX12_findRoom_93 ?_
            refine j_puti G fp_X12_226 dX12_findRoom_94 25 rfl (by first | assumption | rfl) (by rfl) (by omega) ?_
            refine j_iinc3 G dX12_findRoom_97 (by decide) rfl rfl ?_
            refine j_goto G dX12_findRoom_100 (tgt := 12) (by decide) ?_
            refine j_pc (p2 := 12) rfl ?_
            first
            | (refine j_weak (ih (by omega) ν h_k (fun w h_1 h_2 => ?_) ?_ ?_) ⟨rfl, rfl, rfl, rfl, trivial⟩
               · by_cases h_e : w = i
                 · subst h_e
                   omega
                 · exact h_al w (by omega) h_2
               · show ν 0 24 = ceB cn g i + cn i * (g i / 1024)
                 rw [show cn i = 0 by omega, Int.zero_mul, Int.add_zero]
                 exact h_24
               · show ν 0 25 = poB cn g i + cn i * (g i % 1024)
                 rw [show cn i = 0 by omega, Int.zero_mul, Int.add_zero]
                 exact h_25)
            | (refine j_weak (ih (by omega) _ ((h_k3.up (by decide)).up (by decide)) (fun w h_1 h_2 => ?_) ?_ ?_) ⟨rfl, rfl, rfl, rfl, trivial⟩
               · by_cases h_e : w = i
                 · subst h_e
                   exact c_48
                 · exact h_al w (by omega) h_2
               · simp (disch := omega) only [up_same, up_cell, up_idx, cpm_at, fil_at]
                 rfl
               · simp (disch := omega) only [up_same, up_cell, up_idx, cpm_at, fil_at]
                 rfl)
          · refine j_iconst G dX12_findRoom_51 ?_
            refine j_zreturn G dX12_findRoom_52 (by first | exact b2_01 _ | omega) ?_
            have h_no : prB cn g n = false := Bool.eq_false_iff.2 (fun z => prB_iff.1 z i (by omega) (by omega) (by omega))
            exact ⟨0, rfl, by rw [h_no]; rfl, h_k3, fun h => by rw [h_no] at h; exact absurd h (by decide)⟩
  · exact ((KR.rf _).up (by decide)).up (by decide)
  · simp (disch := omega) only [up_same, up_cell, up_idx, cpm_at, fil_at]
    rfl
  · simp (disch := omega) only [up_same, up_cell, up_idx, cpm_at, fil_at]
    rfl
theorem m_findRoom (b c n : Nat) (h_b : b < 8) (h_c : c < 5) (h_n : σ 57 3 = n) (h_w : WfCode σ c) (h_r : ReCode σ μ c) (h_ww : WfWord σ) (h_rw : ReWord σ μ) : CT (EM x) 4 yX12_findRoom [rf (EM x) 0, iv b, iv c] μ (rP (fun z ν => z = b2 (prB (fun w => σ (61 + b) w) (wgW σ c) n = true) ∧ KM μ ν ∧ (prB (fun w => σ (61 + b) w) (wgW σ c) n = true → ν 0 24 = ceB (fun w => σ (61 + b) w) (wgW σ c) n ∧ ν 0 25 = poB (fun w => σ (61 + b) w) (wgW σ c) n))) := (m_findRoomR b c n h_b h_c h_n h_w h_r h_ww h_rw).mono (fun r m q => by
  obtain ⟨z, q1, q2, q3, q4⟩ := q
  exact ⟨z, q1, q2, q3.km, q4⟩)
end RM2
