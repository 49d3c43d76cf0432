theorem laR_is {w : TW} {j : Nat} (h_j : j < 14) (h_n : ∀ u, u < 64 → ¬ 1 < sg w u) (h_b : ∀ i, i < j → ¬ stB w (i + 1) = true) (h_p : j ≠ 0 → ¬ anyB (prP w) 4096 = true) (h : stB w (j + 1) = true ∨ (j = 0 ∧ anyB (prP w) 4096 = true)) : twS w = laR w j ∧ (laR w j).length = j + 2 := by
  rw [twS_2 h_n]
  unfold laR
  by_cases h_S : stB w (j + 1) = true
  · have h_fs : fsB (fun n => stB w (n + 1)) 14 = j := fsB_eq h_j h_S h_b
    have h_any : anyB (fun n => stB w (n + 1)) 14 = true := anyB_iff.2 ⟨j, h_j, h_S⟩
    rw [h_fs]
    by_cases h_T : j = 0 ∧ anyB (prP w) 4096 = true ∧ fsB (prP w) 4096 < 64 * c0T w 1 + nxT w 0 (c0T w 1)
    · rw [if_neg (fun z => (z.2 h_T.2.1).2 h_T.2.2), if_pos h_T.2.1, if_neg (fun z => z.2 h_T)]
      exact ⟨rfl, by rw [h_T.1]; rfl⟩
    · rw [if_pos ⟨h_any, fun h_P => ⟨Decidable.byContradiction (fun z => h_p z h_P), fun z => h_T ⟨Decidable.byContradiction (fun y => h_p y h_P), h_P, z⟩⟩⟩, if_pos ⟨h_S, h_T⟩]
      exact ⟨rfl, chL_len w _ _⟩
  · obtain ⟨h_0, h_P⟩ := h.resolve_left h_S
    rw [if_neg (fun z => h_S (by
      have h_1 := (fsB_is 14 z.1).2.1
      rw [(z.2 h_P).1] at h_1
      rw [h_0]
      exact h_1)), if_pos h_P, if_neg (fun z => h_S z.1)]
    exact ⟨rfl, by rw [h_0]; rfl⟩
theorem twS_0 {w : TW} (h_n : ∀ u, u < 64 → ¬ 1 < sg w u) (h_b : ∀ i, i < 14 → ¬ stB w (i + 1) = true) (h_p : ¬ anyB (prP w) 4096 = true) : twS w = [] := by
  rw [twS_2 h_n, if_neg (fun z => by
    obtain ⟨i, h_1, h_2⟩ := anyB_iff.1 z.1
    exact h_b i h_1 h_2), if_neg h_p]
section TP
variable {E : EE} {x x1 x2 : CX} {μ σ : MemT} {w : TW}
theorem m_findTwoWays (c : Nat) (h_c : c < 5) (h_w : TWok w) (h_t : TM μ c w) : CT (EM x) 2 yX12_findTwoWays [rf (EM x) 0, iv c] μ (rP (fun z ν => z = (twS w).length ∧ Ons (fun j => 13 ≤ j ∧ j ≤ 16) μ ν ∧ RwO ν (twS w) ∧ (twS w).length ≤ 15)) := by
  have h_sr := sg_rg h_w
  refine CT.ofJ (own := RX12) (cc := cX12_findTwoWays) (n := 3) (ret := (some .int)) (by decide) rfl cw_X12_findTwoWays (by decide) (Nat.le_of_ble_eq_true rfl) (ls := [some (rf (EM x) 0), some (iv c), none]) rfl ?_
  intro X G
  first | refine j_aload_n G dX12_findTwoWays_0 rfl ?_ | refine j_aload_nN G dX12_findTwoWays_0 rfl ?_
  refine j_iload_n G dX12_findTwoWays_1 rfl ?_
  refine j_callV G mv_X12_201 dX12_findTwoWays_2 (m_countItems c h_c h_w h_t) (by first | exact rfl | assumption) (by decide) (by rfl) rfl rfl (by exact Nat.le_of_ble_eq_true rfl) (by decide) (kM (fun ν h_1 => ?_))
  obtain ⟨h_o, h_s, h_d⟩ := h_1
  have h_o1 : Ons (fun j => 13 ≤ j ∧ j ≤ 16) μ ν := h_o.wk (fun j h => by omega)
  refine j_iconst G dX12_findTwoWays_5 ?_
  refine j_istore2 G dX12_findTwoWays_6 (by decide) rfl ?_
  refine j_pc (p2 := 7) rfl ?_
  refine j_weak (ls' := [some (rf (EM x) 0), some (iv c), some (iv ((0 : Nat) : Int))]) ?_ ⟨rfl, rfl, rfl, trivial⟩
  refine down (Pr := fun v => (∀ u, u < v → ¬ 1 < sg w u) → JJ (EM x) X 2 (rP (fun z ν => z = (twS w).length ∧ Ons (fun j => 13 ≤ j ∧ j ≤ 16) μ ν ∧ RwO ν (twS w) ∧ (twS w).length ≤ 15)) 3 7 [some (rf (EM x) 0), some (iv c), some (iv v)] [] ν) 64 ?_ 0 (Nat.zero_le _) (fun u h_u => by omega)
  intro v h_v ih h_no
  have h_sv := h_s v
  have h_srv := h_sr v
  refine j_iload_n G dX12_findTwoWays_7 rfl ?_
  refine j_bipush G dX12_findTwoWays_8 (by decide) ?_
  refine j_icmp_ge G dX12_findTwoWays_10 (tgt := 38) (by decide) (by omega) (by omega) (fun c_10 => ?_) (fun c_10 => ?_)
  · obtain rfl : v = 64 := by omega
    first | refine j_aload_n G dX12_findTwoWays_38 rfl ?_ | refine j_aload_nN G dX12_findTwoWays_38 rfl ?_
    refine j_callV G mv_X12_204 dX12_findTwoWays_39 (m_findComes h_s h_d) (by first | exact rfl | assumption) (by decide) (by rfl) rfl rfl (by exact Nat.le_of_ble_eq_true rfl) (by decide) (kM (fun ν2 h_2 => ?_))
    obtain ⟨h_o2, h_cm⟩ := h_2
    have h_o3 : Ons (fun j => 13 ≤ j ∧ j ≤ 16) μ ν2 := h_o1.tr (h_o2.wk (fun j h => by omega))
    have h_LD : LD ν2 w := ⟨fun v h_v => by rw [h_o2 13 (by decide)]; exact h_s v h_v, fun v e h_v h_e => by rw [h_o2 14 (by decide)]; exact h_d v e h_v h_e, h_cm⟩
    refine j_iconst G dX12_findTwoWays_42 ?_
    refine j_istore2 G dX12_findTwoWays_43 (by decide) rfl ?_
    refine j_pc (p2 := 44) rfl ?_
    refine j_weak (ls' := [some (rf (EM x) 0), some (iv c), some (iv (((0 : Nat) : Int) + 1))]) ?_ ⟨rfl, rfl, rfl, trivial⟩
    refine down (Pr := fun j => ∀ ν3 : MemT, Ons (· = 16) ν2 ν3 → (∀ i, i < j → ¬ stB w (i + 1) = true) → (j ≠ 0 → ¬ anyB (prP w) 4096 = true) → JJ (EM x) X 2 (rP (fun z ν => z = (twS w).length ∧ Ons (fun j => 13 ≤ j ∧ j ≤ 16) μ ν ∧ RwO ν (twS w) ∧ (twS w).length ≤ 15)) 3 44 [some (rf (EM x) 0), some (iv c), some (iv ((j : Int) + 1))] [] ν3) 14 ?_ 0 (Nat.zero_le _) ν2 (Ons.rf _ _) (fun i h_i => by omega) (fun h => absurd rfl h)
    intro j h_j ih2 ν3 h_o4 h_b h_p
    have h_o5 : Ons (fun j => 13 ≤ j ∧ j ≤ 16) μ ν3 := h_o3.tr (h_o4.wk (fun j h => by omega))
    have h_LD3 : LD ν3 w := by
      obtain ⟨h_1, h_2, h_3⟩ := h_LD
      exact ⟨fun v h_v => by rw [h_o4 13 (by decide)]; exact h_1 v h_v, fun v e h_v h_e => by rw [h_o4 14 (by decide)]; exact h_2 v e h_v h_e, fun n v h_n h_v => by rw [h_o4 15 (by decide)]; exact h_3 n v h_n h_v⟩
    refine j_iload_n G dX12_findTwoWays_44 rfl ?_
    refine j_bipush G dX12_findTwoWays_45 (by decide) ?_
    refine j_icmp_ge G dX12_findTwoWays_47 (tgt := 68) (by decide) (by omega) (by omega) (fun c_47 => ?_) (fun c_47 => ?_)
    · refine j_iconst G dX12_findTwoWays_68 ?_
      refine j_ireturn G dX12_findTwoWays_69 ?_
      obtain rfl : j = 14 := by omega
      have h_tw := twS_0 (w := w) (fun u h_u => h_no u (by omega)) h_b (h_p (by decide))
      rw [h_tw]
      exact ⟨0, rfl, rfl, h_o5, fun i h_i => absurd h_i (Nat.not_lt_zero _), by show 0 ≤ 15; decide⟩
    · first | refine j_aload_n G dX12_findTwoWays_50 rfl ?_ | refine j_aload_nN G dX12_findTwoWays_50 rfl ?_
      refine j_iload_n G dX12_findTwoWays_51 rfl ?_
      refine j_callV G mv_X12_207 dX12_findTwoWays_52 (m_layTwoWays j (by omega) h_w h_LD3) (by first | exact rfl | assumption) (by decide) (by rfl) rfl rfl (by exact Nat.le_of_ble_eq_true rfl) (by decide) (kP (fun y ν4 h_y => ?_))
      obtain ⟨h_o6, h_yy, h_R⟩ := h_y
      rw [h_yy]
      refine j_if_eqB G dX12_findTwoWays_55 (tgt := 62) (by decide)  (fun c_55 => ?_) (fun c_55 => ?_)
      · refine j_iinc2 G dX12_findTwoWays_62 (by decide) rfl rfl ?_
        refine j_goto G dX12_findTwoWays_65 (tgt := 44) (by decide) ?_
        refine j_pc (p2 := 44) rfl ?_
        refine ih2 (by omega) ν4 (h_o4.tr h_o6) (fun i h_i => ?_) (fun _ => ?_)
        · by_cases h_e : i = j
          · rw [h_e]
            exact fun z => c_55 (Or.inl z)
          · exact h_b i (by omega)
        · by_cases h_0 : j = 0
          · exact fun z => c_55 (Or.inr ⟨h_0, z⟩)
          · exact h_p h_0
      · refine j_iload_n G dX12_findTwoWays_58 rfl ?_
        refine j_iconst G dX12_findTwoWays_59 ?_
        refine j_iadd G dX12_findTwoWays_60 ?_
        refine j_ireturn G dX12_findTwoWays_61 ?_
        obtain ⟨h_1, h_2⟩ := laR_is (by omega) (fun u h_u => h_no u (by omega)) h_b h_p c_55
        rw [h_1, h_2]
        exact ⟨_, rfl, by omega, h_o5.tr (h_o6.wk (fun j h => by omega)), h_R c_55, by omega⟩
  · first | refine j_aload_n G dX12_findTwoWays_13 rfl ?_ | refine j_aload_nN G dX12_findTwoWays_13 rfl ?_
    refine j_getr G fl_X12_46 dX12_findTwoWays_14 (by first | exact rfl | assumption) (by rfl) ?_
    refine j_iload_n G dX12_findTwoWays_17 rfl ?_
    refine j_iaload G dX12_findTwoWays_18 (by first | exact rfl | assumption) (by omega) (fun r_18 => ?_)
    try simp (disch := omega) only [up_same, up_cell, up_idx, cpm_at, fil_at] at r_18 ⊢
    rw [h_sv (by omega)]
    refine j_iconst G dX12_findTwoWays_19 ?_
    refine j_icmp_le G dX12_findTwoWays_20 (tgt := 32) (by decide) (by omega) (by omega) (fun c_20 => ?_) (fun c_20 => ?_)
    · refine j_iinc2 G dX12_findTwoWays_32 (by decide) rfl rfl ?_
      refine j_goto G dX12_findTwoWays_35 (tgt := 7) (by decide) ?_
      refine j_pc (p2 := 7) rfl ?_
      refine ih (by omega) (fun u h_u => ?_)
      by_cases h_e : u = v
      · rw [h_e]
        omega
      · exact h_no u (by omega)
    · first | refine j_aload_n G dX12_findTwoWays_23 rfl ?_ | refine j_aload_nN G dX12_findTwoWays_23 rfl ?_
      refine j_getr G fl_X12_56 dX12_findTwoWays_24 (by first | exact rfl | assumption) (by rfl) ?_
      refine j_iconst G dX12_findTwoWays_27 ?_
      refine j_iload_n G dX12_findTwoWays_28 rfl ?_
      refine j_iastore G dX12_findTwoWays_29 (by first | exact rfl | assumption) (by omega) (by omega) ?_
      refine j_iconst G dX12_findTwoWays_30 ?_
      refine j_ireturn G dX12_findTwoWays_31 ?_
      have h_tw := twS_1 (v := v) (by omega) c_20 h_no
      rw [h_tw]
      refine ⟨1, rfl, rfl, h_o1.up (by omega), fun i h_i => ?_, by show 1 ≤ 15; decide⟩
      obtain rfl : i = 0 := by
        have : i < 1 := h_i
        omega
      rw [show ((0 : Nat) : Int) = 0 from rfl, up_same]
      rfl
theorem m_ways (c : Nat) (i : Int) (h_i : (-2147483648 ≤ i ∧ i < 2147483648)) (h_c : c < 5) (h_w : TWok w) (h_t : TM μ c w) : CT (EM x) 3 yX12_ways [rf (EM x) 0, iv c, iv i] μ (rP (fun z ν => z = wyS w i ∧ KM μ ν)) := by
  unfold wyS
  refine CT.ofJ (own := RX12) (cc := cX12_ways) (n := 4) (ret := (some .int)) (by decide) rfl cw_X12_ways (by decide) (Nat.le_of_ble_eq_true rfl) (ls := [some (rf (EM x) 0), some (iv c), some (iv i), none]) rfl ?_
  intro X G
  refine j_iload_n G dX12_ways_0 rfl ?_
  refine j_callS G ms_X12_121 dX12_ways_1 (m_isCode c (by omega)) rfl rfl (by exact Nat.le_of_ble_eq_true rfl) (by decide) (kI ?_)
  refine j_if_neB G dX12_ways_4 (tgt := 9) (by decide)  (fun c_4 => ?_) (fun c_4 => ?_)
  · first | refine j_aload_n G dX12_ways_9 rfl ?_ | refine j_aload_nN G dX12_ways_9 rfl ?_
    refine j_iload_n G dX12_ways_10 rfl ?_
    refine j_callV G mv_X12_210 dX12_ways_11 (m_findTwoWays c h_c h_w h_t) (by first | exact rfl | assumption) (by decide) (by rfl) rfl rfl (by exact Nat.le_of_ble_eq_true rfl) (by decide) (kP (fun y ν h_y => ?_))
    obtain ⟨rfl, h_o, h_R, h_l⟩ := h_y
    have h_km : KM μ ν := ⟨fun k h_1 h_2 => h_o k (fun h => h_1 (by unfold scM; omega)), fun j h_1 => by rw [h_o 0 (by decide)]⟩
    have h_at : (0 ≤ i ∧ i < (twS w).length) → ν 16 i = rowAt (twS w) i := fun h => by
      unfold rowAt
      rw [if_pos h, ← h_R i.toNat (by omega), Int.toNat_of_nonneg h.1]
    refine j_istore3 G dX12_ways_14 (by decide) rfl ?_
    refine j_iload_n G dX12_ways_15 rfl ?_
    refine j_iconst G dX12_ways_16 ?_
    refine j_icmp_ne G dX12_ways_17 (tgt := 24) (by decide) (by omega) (by omega) (fun c_17 => ?_) (fun c_17 => ?_)
    · refine j_iload_n G dX12_ways_24 rfl ?_
      refine j_i2l G (by omega) dX12_ways_25 ?_
      refine j_lconstI G 0 dX12_ways_26 (by decide) ?_
      refine j_iload_n G dX12_ways_27 rfl ?_
      refine j_iconst G dX12_ways_28 ?_
      refine j_isub G dX12_ways_29 ?_
      refine j_i2l G (by omega) dX12_ways_30 ?_
      refine j_callS G ms_X12_115 dX12_ways_31 (m_in _ _ _ (by omega) (by omega) (by omega)) rfl rfl (by exact Nat.le_of_ble_eq_true rfl) (by decide) (kI ?_)
      refine j_if_eqB G dX12_ways_34 (tgt := 46) (by decide)  (fun c_34 => ?_) (fun c_34 => ?_)
      · refine j_bipush G dX12_ways_46 (by decide) ?_
        refine j_ireturn G dX12_ways_48 ?_
        first
        | exact ⟨_, rfl, by rw [if_pos (by omega)], h_km⟩
        | exact ⟨_, rfl, by rw [if_neg (by omega)]; exact h_at (by omega), h_km⟩
        | exact ⟨_, rfl, by rw [if_neg (by omega)]; unfold rowAt; rw [if_neg (by omega)], h_km⟩
      · first | refine j_aload_n G dX12_ways_37 rfl ?_ | refine j_aload_nN G dX12_ways_37 rfl ?_
        refine j_getr G fl_X12_56 dX12_ways_38 (by first | exact rfl | assumption) (by rfl) ?_
        refine j_iload_n G dX12_ways_41 rfl ?_
        refine j_iaload G dX12_ways_42 (by first | exact rfl | assumption) (by omega) (fun r_42 => ?_)
        try simp (disch := omega) only [up_same, up_cell, up_idx, cpm_at, fil_at] at r_42 ⊢
        refine j_goto G dX12_ways_43 (tgt := 48) (by decide) ?_
        refine j_ireturn G dX12_ways_48 ?_
        first
        | exact ⟨_, rfl, by rw [if_pos (by omega)], h_km⟩
        | exact ⟨_, rfl, by rw [if_neg (by omega)]; exact h_at (by omega), h_km⟩
        | exact ⟨_, rfl, by rw [if_neg (by omega)]; unfold rowAt; rw [if_neg (by omega)], h_km⟩
    · refine j_iload_n G dX12_ways_20 rfl ?_
      refine j_goto G dX12_ways_21 (tgt := 48) (by decide) ?_
      refine j_ireturn G dX12_ways_48 ?_
      first
      | exact ⟨_, rfl, by rw [if_pos (by omega)], h_km⟩
      | exact ⟨_, rfl, by rw [if_neg (by omega)]; exact h_at (by omega), h_km⟩
      | exact ⟨_, rfl, by rw [if_neg (by omega)]; unfold rowAt; rw [if_neg (by omega)], h_km⟩
  · refine j_iconst G dX12_ways_7 ?_
    refine j_ireturn G dX12_ways_8 ?_
    omega
theorem m_waysN (c i : Int) (h_1 : (-2147483648 ≤ c ∧ c < 2147483648)) (h_c : ¬ (0 ≤ c ∧ c ≤ 4)) : CT (EM x) 3 yX12_ways [rf (EM x) 0, iv c, iv i] μ (rI (-1) μ) := by
  refine CT.ofJ (own := RX12) (cc := cX12_ways) (n := 4) (ret := (some .int)) (by decide) rfl cw_X12_ways (by decide) (Nat.le_of_ble_eq_true rfl) (ls := [some (rf (EM x) 0), some (iv c), some (iv i), none]) rfl ?_
  intro X G
  refine j_iload_n G dX12_ways_0 rfl ?_
  refine j_callS G ms_X12_121 dX12_ways_1 (m_isCode c h_1) rfl rfl (by exact Nat.le_of_ble_eq_true rfl) (by decide) (kI ?_)
  refine j_if_neB G dX12_ways_4 (tgt := 9) (by decide)  (fun c_4 => ?_) (fun c_4 => ?_)
  · omega
  · refine j_iconst G dX12_ways_7 ?_
    refine j_ireturn G dX12_ways_8 ?_
    exact ⟨rfl, rfl⟩
theorem op_ways (c i : Int) (h_1 : (-2147483648 ≤ c ∧ c < 2147483648)) (h_2 : (-2147483648 ≤ i ∧ i < 2147483648)) : OP x1 x2 yX11_ways yX12_ways [iv c, iv i] := by
  refine OP.same (fun σ μ hw hr => ?_)
  obtain ⟨w1, w2, w3, w4, w5, w6, w7, w8⟩ := id hw
  obtain ⟨r1, r2, r3, r4, r5, r6, r7, r8⟩ := id hr
  by_cases h_c : 0 ≤ c ∧ c ≤ 4
  · obtain ⟨cc, h_c4, rfl⟩ := nat_of (n := 4) h_c
    obtain ⟨h_3, h_4⟩ := twOf_ok (w1 cc (by omega))
    exact ⟨_, _, _, by decide, by decide, c_ways cc i h_2 (by omega) h_3 h_4, m_ways cc i h_2 (by omega) h_3 (TM.of h_4 h_3 (r1 cc (by omega)))⟩
  · exact ⟨_, _, _, by decide, by decide, rI_P (c_waysN c i h_1 h_c) ⟨rfl, KC.rf _⟩, rI_P (m_waysN c i h_1 h_c) ⟨rfl, KM.rf _⟩⟩
end TP
