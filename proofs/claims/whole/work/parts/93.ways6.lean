def TM (ν : MemT) (c : Nat) (w : TW) : Prop := ν 6 c = tm w ∧ (∀ s : Nat, s < tm w → ν 4 (2 * (12 * (c : Int) + s)) = tA w s ∧ (tB w s = 0 → ν 5 (12 * (c : Int) + s) = 1) ∧ (tB w s ≠ 0 → ν 5 (12 * (c : Int) + s) = 2 ∧ ν 4 (2 * (12 * (c : Int) + s) + 1) = tB w s)) ∧ ∀ l : Nat, l < 26 → ν 1 (26 * (c : Int) + l) = tL w l
theorem TM.of {σ μ : MemT} {c : Nat} {w : TW} (h_t : TC σ c w) (h_w : TWok w) (h_r : ReCode σ μ c) : TM μ c w := by
  obtain ⟨r1, r2, r3⟩ := h_r
  obtain ⟨t1, t2, t3⟩ := h_t
  refine ⟨by rw [r2, t1], fun s h_s => ?_, fun l h_l => by rw [r1 l (by omega) (by omega), t3 l h_l]⟩
  obtain ⟨h_1, h_2, h_3, h_4, h_5⟩ := r3 s (by omega) (by omega)
  obtain ⟨h_6, h_7⟩ := t2 s h_s
  refine ⟨by rw [h_3, h_6], fun h_0 => h_4 (by rw [h_7, h_0]; rfl), fun h_0 => ?_⟩
  obtain ⟨h_8, h_9⟩ := h_5 (by omega)
  exact ⟨h_8, by rw [h_9, h_7]⟩
theorem TM.on {μ ν : MemT} {c : Nat} {w : TW} (h : TM μ c w) (h_o : ∀ j, 1 ≤ j → j ≤ 6 → ν j = μ j) : TM ν c w := by
  unfold TM at h ⊢
  rw [h_o 1 (by omega) (by omega), h_o 4 (by omega) (by omega), h_o 5 (by omega) (by omega), h_o 6 (by omega) (by omega)]
  exact h
/-- what kind of item it is -/
theorem itW {ν : MemT} {c : Nat} {w : TW} (h_w : TWok w) (h : TM ν c w) {k : Nat} (h_k : k < 38) : (isI ν c k = false ∧ (∀ v, sgP w k v = false) ∧ ∀ v e, edP w v e k = false) ∨ (isI ν c k = true ∧ wdI ν c k = 1 ∧ ∃ q : Nat, q < 64 ∧ clI ν c k 0 = q ∧ (∀ v, sgP w k v = decide (v = q)) ∧ ∀ v e, edP w v e k = false) ∨ (isI ν c k = true ∧ wdI ν c k = 2 ∧ ∃ a b : Nat, a < 64 ∧ b < 64 ∧ clI ν c k 0 = a ∧ clI ν c k 1 = b ∧ (∀ v, sgP w k v = false) ∧ ∀ v e, edP w v e k = decide (v = a ∧ e = b)) := by
  obtain ⟨t1, t2, t3⟩ := h
  have h_m := h_w.1
  by_cases h_12 : k < 12
  · have h_is : isI ν c k = decide ((k : Int) < ν 6 c) := by unfold isI; rw [if_pos h_12]
    have h_cl : ∀ i : Nat, clI ν c k i = ν 4 (2 * (12 * (c : Int) + k) + i) := fun i => by unfold clI; rw [if_pos h_12]
    have h_wd : wdI ν c k = ν 5 (12 * (c : Int) + k) := by unfold wdI; rw [if_pos h_12]
    have h_c0 := h_cl 0
    have h_c1 := h_cl 1
    rw [show ((0 : Nat) : Int) = 0 from rfl, Int.add_zero] at h_c0
    rw [show ((1 : Nat) : Int) = 1 from rfl] at h_c1
    rw [h_is, t1, h_wd]
    by_cases h_km : k < tm w
    · obtain ⟨h_1, h_2, h_3⟩ := t2 k h_km
      obtain ⟨h_4, h_5⟩ := h_w.2.1 k h_km
      rw [decide_eq_true (by omega)]
      by_cases h_0 : tB w k = 0
      · refine Or.inr (Or.inl ⟨rfl, h_2 h_0, tA w k, h_4.2, by rw [h_c0, h_1], fun v => ?_, fun v e => decide_eq_false (fun z => z.2.1 h_0)⟩)
        rw [sgP_s w v h_12, decide_eq_decide]
        exact ⟨fun z => z.2.2.symm, fun z => ⟨h_km, h_0, z.symm⟩⟩
      · obtain ⟨h_6, h_7⟩ := h_3 h_0
        refine Or.inr (Or.inr ⟨rfl, h_6, tA w k, tB w k, h_4.2, h_5, by rw [h_c0, h_1], by rw [h_c1, h_7], fun v => ?_, fun v e => ?_⟩)
        · rw [sgP_s w v h_12]
          exact decide_eq_false (fun z => h_0 z.2.1)
        · unfold edP
          rw [decide_eq_decide]
          exact ⟨fun z => ⟨z.2.2.1.symm, z.2.2.2.symm⟩, fun z => ⟨h_km, h_0, z.1.symm, z.2.symm⟩⟩
    · rw [decide_eq_false (by omega)]
      refine Or.inl ⟨rfl, fun v => ?_, fun v e => decide_eq_false (fun z => h_km z.1)⟩
      rw [sgP_s w v h_12]
      exact decide_eq_false (fun z => h_km z.1)
  · obtain ⟨l, rfl⟩ : ∃ l, k = 12 + l := ⟨k - 12, by omega⟩
    have h_is : isI ν c (12 + l) = decide (0 < ν 1 (26 * (c : Int) + l)) := by unfold isI; rw [if_neg h_12, show 26 * (c : Int) + ((12 + l : Nat) : Int) - 12 = 26 * (c : Int) + l by omega]
    have h_cl : clI ν c (12 + l) 0 = ν 1 (26 * (c : Int) + l) := by unfold clI; rw [if_neg h_12, show 26 * (c : Int) + ((12 + l : Nat) : Int) - 12 = 26 * (c : Int) + l by omega]
    have h_wd : wdI ν c (12 + l) = 1 := by unfold wdI; rw [if_neg h_12]
    have h_tl := t3 l (by omega)
    have h_64 := h_w.2.2 l (by omega)
    have h_ed : ∀ v e, edP w v e (12 + l) = false := fun v e => decide_eq_false (fun z => by omega)
    rw [h_is, h_tl]
    by_cases h_0 : tL w l = 0
    · refine Or.inl ⟨by rw [h_0]; rfl, fun v => ?_, h_ed⟩
      rw [sgP_l]
      exact decide_eq_false (fun z => by omega)
    · refine Or.inr (Or.inl ⟨decide_eq_true (by omega), h_wd, tL w l, h_64, by rw [h_cl, h_tl], fun v => ?_, h_ed⟩)
      rw [sgP_l, decide_eq_decide]
      exact ⟨fun z => z.1.symm, fun z => ⟨z.symm, by omega⟩⟩
theorem db_rg (w : TW) (v e : Nat) : ∀ k, 0 ≤ dbN w v e k ∧ dbN w v e k ≤ k := fun k => sm01_rg (fun s => edP w v e s = true) k
theorem dbN_38 {w : TW} (h_w : TWok w) (v e : Nat) : dbN w v e 38 = db w v e := by
  unfold dbN db
  rw [sm_sk (k := 12) 38 (by omega) (fun j h_1 h_2 => ?_)]
  · rfl
  · rw [show edP w v e j = false from decide_eq_false (fun z => by have := h_w.1; omega), if_neg (by decide)]
section TN
variable {E : EE} {x x1 x2 : CX} {μ σ : MemT} {w : TW}
theorem m_countItems (c : Nat) (h_c : c < 5) (h_w : TWok w) (h_t : TM μ c w) : CT (EM x) 1 yX12_countItems [rf (EM x) 0, iv c] μ (fun r ν => r = none ∧ Ons (fun j => j = 13 ∨ j = 14) μ ν ∧ (∀ v : Nat, v < 64 → ν 13 v = sg w v) ∧ ∀ v e : Nat, v < 64 → e < 64 → ν 14 (64 * (v : Int) + e) = db w v e) := by
  refine CT.ofJ (own := RX12) (cc := cX12_countItems) (n := 3) (ret := none) (by decide) rfl cw_X12_countItems (by decide) (Nat.le_of_ble_eq_true rfl) (ls := [some (rf (EM x) 0), some (iv c), none]) rfl ?_
  intro X G
  refine j_iconst G dX12_countItems_0 ?_
  refine j_istore2 G dX12_countItems_1 (by decide) rfl ?_
  refine j_pc (p2 := 2) rfl ?_
  refine j_weak (ls' := [some (rf (EM x) 0), some (iv c), some (iv ((0 : Nat) : Int))]) ?_ ⟨rfl, rfl, rfl, trivial⟩
  refine down (Pr := fun i => ∀ ν : MemT, Ons (fun j => j = 13 ∨ j = 14) μ ν → (∀ v : Nat, v < i → ν 13 v = 0) → JJ (EM x) X 1 (fun r ν => r = none ∧ Ons (fun j => j = 13 ∨ j = 14) μ ν ∧ (∀ v : Nat, v < 64 → ν 13 v = sg w v) ∧ ∀ v e : Nat, v < 64 → e < 64 → ν 14 (64 * (v : Int) + e) = db w v e) 3 2 [some (rf (EM x) 0), some (iv c), some (iv i)] [] ν) 64 ?_ 0 (Nat.zero_le _) μ (Ons.rf _ _) (fun v h_v => by omega)
  intro i h_i ih ν h_o h_z
  refine j_iload_n G dX12_countItems_2 rfl ?_
  refine j_bipush G dX12_countItems_3 (by decide) ?_
  refine j_icmp_ge G dX12_countItems_5 (tgt := 21) (by decide) (by omega) (by omega) (fun c_5 => ?_) (fun c_5 => ?_)
  · refine j_iconst G dX12_countItems_21 ?_
    refine j_istore2 G dX12_countItems_22 (by decide) rfl ?_
    refine j_pc (p2 := 23) rfl ?_
    obtain rfl : i = 64 := by omega
    refine j_weak (ls' := [some (rf (EM x) 0), some (iv c), some (iv ((0 : Nat) : Int))]) ?_ ⟨rfl, rfl, rfl, trivial⟩
    refine down (Pr := fun i => ∀ ν : MemT, Ons (fun j => j = 13 ∨ j = 14) μ ν → (∀ v : Nat, v < 64 → ν 13 v = 0) → (∀ v : Nat, v < i → ν 14 v = 0) → JJ (EM x) X 1 (fun r ν => r = none ∧ Ons (fun j => j = 13 ∨ j = 14) μ ν ∧ (∀ v : Nat, v < 64 → ν 13 v = sg w v) ∧ ∀ v e : Nat, v < 64 → e < 64 → ν 14 (64 * (v : Int) + e) = db w v e) 3 23 [some (rf (EM x) 0), some (iv c), some (iv i)] [] ν) 4096 ?_ 0 (Nat.zero_le _) ν h_o h_z (fun v h_v => by omega)
    intro i h_i ih ν h_o h_z h_z2
    refine j_iload_n G dX12_countItems_23 rfl ?_
    refine j_sipush G dX12_countItems_24 (by decide) ?_
    refine j_icmp_ge G dX12_countItems_27 (tgt := 43) (by decide) (by omega) (by omega) (fun c_27 => ?_) (fun c_27 => ?_)
    · refine j_iconst G dX12_countItems_43 ?_
      refine j_istore2 G dX12_countItems_44 (by decide) rfl ?_
      refine j_pc (p2 := 45) rfl ?_
      obtain rfl : i = 4096 := by omega
      refine j_weak (ls' := [some (rf (EM x) 0), some (iv c), some (iv ((0 : Nat) : Int))]) ?_ ⟨rfl, rfl, rfl, trivial⟩
      refine down (Pr := fun k => ∀ ν : MemT, Ons (fun j => j = 13 ∨ j = 14) μ ν → (∀ v : Nat, v < 64 → ν 13 v = sgN w v k) → (∀ v e : Nat, v < 64 → e < 64 → ν 14 (64 * (v : Int) + e) = dbN w v e k) → JJ (EM x) X 1 (fun r ν => r = none ∧ Ons (fun j => j = 13 ∨ j = 14) μ ν ∧ (∀ v : Nat, v < 64 → ν 13 v = sg w v) ∧ ∀ v e : Nat, v < 64 → e < 64 → ν 14 (64 * (v : Int) + e) = db w v e) 3 45 [some (rf (EM x) 0), some (iv c), some (iv k)] [] ν) 38 ?_ 0 (Nat.zero_le _) ν h_o h_z (fun v e h_v h_e => h_z2 (64 * v + e) (by omega))
      intro k h_k ih ν h_o h_s h_d
      have h_ss : ∀ v, sgN w v (k + 1) = sgN w v k + (if sgP w k v = true then 1 else 0) := fun v => rfl
      have h_ds : ∀ v e, dbN w v e (k + 1) = dbN w v e k + (if edP w v e k = true then 1 else 0) := fun v e => rfl
      by_cases h_38 : k = 38
      · subst h_38
        · refine j_iload_n G dX12_countItems_45 rfl ?_
          refine j_bipush G dX12_countItems_46 (by decide) ?_
          refine j_icmp_ge G dX12_countItems_48 (tgt := 131) (by decide) (by omega) (by omega) (fun c_48 => ?_) (fun c_48 => ?_)
          · refine j_return G dX12_countItems_131 ?_
            exact ⟨rfl, h_o, h_s, fun v e h_v h_e => by rw [h_d v e h_v h_e, dbN_38 h_w]⟩
          · omega
      have h_tn : TM ν c w := h_t.on (fun j h_1 h_2 => h_o j (by omega))
      have h_nk : (∀ v, sgP w k v = false) → (∀ v e, edP w v e k = false) → JJ (EM x) X 1 (fun r ν => r = none ∧ Ons (fun j => j = 13 ∨ j = 14) μ ν ∧ (∀ v : Nat, v < 64 → ν 13 v = sg w v) ∧ ∀ v e : Nat, v < 64 → e < 64 → ν 14 (64 * (v : Int) + e) = db w v e) 3 45 [some (rf (EM x) 0), some (iv c), some (iv ((k + 1 : Nat) : Int))] [] ν := fun h_1 h_2 => ih (by omega) ν h_o (fun v h_v => by rw [h_ss, h_1 v, if_neg (by decide), Int.add_zero]; exact h_s v h_v) (fun v e h_v h_e => by rw [h_ds, h_2 v e, if_neg (by decide), Int.add_zero]; exact h_d v e h_v h_e)
      rcases itW h_w h_tn (show k < 38 by omega) with ⟨h_1, h_2, h_3⟩ | ⟨h_1, h_2, q, h_3, h_4, h_5, h_6⟩ | ⟨h_1, h_2, a, b, h_3, h_4, h_5, h_6, h_7, h_8⟩
      · have h_1f : ¬ isI ν c k = true := by rw [h_1]; decide
        · refine j_iload_n G dX12_countItems_45 rfl ?_
          refine j_bipush G dX12_countItems_46 (by decide) ?_
          refine j_icmp_ge G dX12_countItems_48 (tgt := 131) (by decide) (by omega) (by omega) (fun c_48 => ?_) (fun c_48 => ?_)
          · omega
          · first | refine j_aload_n G dX12_countItems_51 rfl ?_ | refine j_aload_nN G dX12_countItems_51 rfl ?_
            refine j_iload_n G dX12_countItems_52 rfl ?_
            refine j_iload_n G dX12_countItems_53 rfl ?_
            refine j_callV G mv_X12_154 dX12_countItems_54 (m_isItem c k h_c (by omega)) (by first | exact rfl | assumption) (by decide) (by rfl) rfl rfl (by exact Nat.le_of_ble_eq_true rfl) (by decide) (kI ?_)
            refine j_if_eqB G dX12_countItems_57 (tgt := 89) (by decide)  (fun c_57 => ?_) (fun c_57 => ?_)
            · first | refine j_aload_n G dX12_countItems_89 rfl ?_ | refine j_aload_nN G dX12_countItems_89 rfl ?_
              refine j_iload_n G dX12_countItems_90 rfl ?_
              refine j_iload_n G dX12_countItems_91 rfl ?_
              refine j_callV G mv_X12_154 dX12_countItems_92 (m_isItem c k h_c (by omega)) (by first | exact rfl | assumption) (by decide) (by rfl) rfl rfl (by exact Nat.le_of_ble_eq_true rfl) (by decide) (kI ?_)
              refine j_if_eqB G dX12_countItems_95 (tgt := 125) (by decide)  (fun c_95 => ?_) (fun c_95 => ?_)
              · refine j_iinc2 G dX12_countItems_125 (by decide) rfl rfl ?_
                refine j_goto G dX12_countItems_128 (tgt := 45) (by decide) ?_
                refine j_pc (p2 := 45) rfl ?_
                exact h_nk h_2 h_3
              · exact absurd c_95 h_1f
            · exact absurd c_57 h_1f
      · have h_sq := h_s q h_3
        have h_sr := sm01_rg (fun k => sgP w k q = true) k
        have h_sr2 : sgN w q k = sm (fun k => if sgP w k q = true then 1 else 0) k := rfl
        · refine j_iload_n G dX12_countItems_45 rfl ?_
          refine j_bipush G dX12_countItems_46 (by decide) ?_
          refine j_icmp_ge G dX12_countItems_48 (tgt := 131) (by decide) (by omega) (by omega) (fun c_48 => ?_) (fun c_48 => ?_)
          · omega
          · first | refine j_aload_n G dX12_countItems_51 rfl ?_ | refine j_aload_nN G dX12_countItems_51 rfl ?_
            refine j_iload_n G dX12_countItems_52 rfl ?_
            refine j_iload_n G dX12_countItems_53 rfl ?_
            refine j_callV G mv_X12_154 dX12_countItems_54 (m_isItem c k h_c (by omega)) (by first | exact rfl | assumption) (by decide) (by rfl) rfl rfl (by exact Nat.le_of_ble_eq_true rfl) (by decide) (kI ?_)
            refine j_if_eqB G dX12_countItems_57 (tgt := 89) (by decide)  (fun c_57 => ?_) (fun c_57 => ?_)
            · exact absurd h_1 c_57
            · first | refine j_aload_n G dX12_countItems_60 rfl ?_ | refine j_aload_nN G dX12_countItems_60 rfl ?_
              refine j_iload_n G dX12_countItems_61 rfl ?_
              refine j_iload_n G dX12_countItems_62 rfl ?_
              refine j_callV G mv_X12_142 dX12_countItems_63 (m_wideOf c k h_c (by omega)) (by first | exact rfl | assumption) (by decide) (by rfl) rfl rfl (by exact Nat.le_of_ble_eq_true rfl) (by decide) (kI ?_)
              rw [h_2]
              refine j_iconst G dX12_countItems_66 ?_
              refine j_icmp_ne G dX12_countItems_67 (tgt := 89) (by decide) (by omega) (by omega) (fun c_67 => ?_) (fun c_67 => ?_)
              · omega
              · first | refine j_aload_n G dX12_countItems_70 rfl ?_ | refine j_aload_nN G dX12_countItems_70 rfl ?_
                refine j_getr G fl_X12_46 dX12_countItems_71 (by first | exact rfl | assumption) (by rfl) ?_
                first | refine j_aload_n G dX12_countItems_74 rfl ?_ | refine j_aload_nN G dX12_countItems_74 rfl ?_
                refine j_iload_n G dX12_countItems_75 rfl ?_
                refine j_iload_n G dX12_countItems_76 rfl ?_
                refine j_iconst G dX12_countItems_77 ?_
                refine j_callV G mv_X12_146 dX12_countItems_78 (m_cellAt c k 0 h_c (by omega) (by omega)) (by first | exact rfl | assumption) (by decide) (by rfl) rfl rfl (by exact Nat.le_of_ble_eq_true rfl) (by decide) (kI ?_)
                rw [h_4]
                refine j_dup2 G dX12_countItems_81 rfl rfl ?_
                refine j_iaload G dX12_countItems_82 (by first | exact rfl | assumption) (by omega) (fun r_82 => ?_)
                try simp (disch := omega) only [up_same, up_cell, up_idx, cpm_at, fil_at] at r_82 ⊢
                rw [h_sq]
                refine j_iconst G dX12_countItems_83 ?_
                refine j_iadd G dX12_countItems_84 ?_
                refine j_pc (p2 := 85) rfl ?_
                refine j_iastore G dX12_countItems_85 (by first | exact rfl | assumption) (by omega) (by omega) ?_
                refine j_goto G dX12_countItems_86 (tgt := 125) (by decide) ?_
                refine j_iinc2 G dX12_countItems_125 (by decide) rfl rfl ?_
                refine j_goto G dX12_countItems_128 (tgt := 45) (by decide) ?_
                refine j_pc (p2 := 45) rfl ?_
                refine ih (by omega) _ (h_o.up (Or.inl rfl)) (fun v h_v => ?_) (fun v e h_v h_e => ?_)
                · rw [h_ss, h_5 v]
                  by_cases h_e : v = q
                  · rw [h_e, up_same, decide_eq_true rfl, if_pos rfl]
                  · rw [up_idx (by omega), decide_eq_false h_e, if_neg (by decide), Int.add_zero]
                    exact h_s v h_v
                · rw [h_ds, h_6 v e, if_neg (by decide), Int.add_zero, up_cell (by decide)]
                  exact h_d v e h_v h_e
      · have h_dq := h_d a b h_3 h_4
        have h_sr := db_rg w a b k
        · refine j_iload_n G dX12_countItems_45 rfl ?_
          refine j_bipush G dX12_countItems_46 (by decide) ?_
          refine j_icmp_ge G dX12_countItems_48 (tgt := 131) (by decide) (by omega) (by omega) (fun c_48 => ?_) (fun c_48 => ?_)
          · omega
          · first | refine j_aload_n G dX12_countItems_51 rfl ?_ | refine j_aload_nN G dX12_countItems_51 rfl ?_
            refine j_iload_n G dX12_countItems_52 rfl ?_
            refine j_iload_n G dX12_countItems_53 rfl ?_
            refine j_callV G mv_X12_154 dX12_countItems_54 (m_isItem c k h_c (by omega)) (by first | exact rfl | assumption) (by decide) (by rfl) rfl rfl (by exact Nat.le_of_ble_eq_true rfl) (by decide) (kI ?_)
            refine j_if_eqB G dX12_countItems_57 (tgt := 89) (by decide)  (fun c_57 => ?_) (fun c_57 => ?_)
            · exact absurd h_1 c_57
            · first | refine j_aload_n G dX12_countItems_60 rfl ?_ | refine j_aload_nN G dX12_countItems_60 rfl ?_
              refine j_iload_n G dX12_countItems_61 rfl ?_
              refine j_iload_n G dX12_countItems_62 rfl ?_
              refine j_callV G mv_X12_142 dX12_countItems_63 (m_wideOf c k h_c (by omega)) (by first | exact rfl | assumption) (by decide) (by rfl) rfl rfl (by exact Nat.le_of_ble_eq_true rfl) (by decide) (kI ?_)
              rw [h_2]
              refine j_iconst G dX12_countItems_66 ?_
              refine j_icmp_ne G dX12_countItems_67 (tgt := 89) (by decide) (by omega) (by omega) (fun c_67 => ?_) (fun c_67 => ?_)
              · first | refine j_aload_n G dX12_countItems_89 rfl ?_ | refine j_aload_nN G dX12_countItems_89 rfl ?_
                refine j_iload_n G dX12_countItems_90 rfl ?_
                refine j_iload_n G dX12_countItems_91 rfl ?_
                refine j_callV G mv_X12_154 dX12_countItems_92 (m_isItem c k h_c (by omega)) (by first | exact rfl | assumption) (by decide) (by rfl) rfl rfl (by exact Nat.le_of_ble_eq_true rfl) (by decide) (kI ?_)
                refine j_if_eqB G dX12_countItems_95 (tgt := 125) (by decide)  (fun c_95 => ?_) (fun c_95 => ?_)
                · exact absurd h_1 c_95
                · first | refine j_aload_n G dX12_countItems_98 rfl ?_ | refine j_aload_nN G dX12_countItems_98 rfl ?_
                  refine j_getr G fl_X12_49 dX12_countItems_99 (by first | exact rfl | assumption) (by rfl) ?_
                  refine j_bipush G dX12_countItems_102 (by decide) ?_
                  first | refine j_aload_n G dX12_countItems_104 rfl ?_ | refine j_aload_nN G dX12_countItems_104 rfl ?_
                  refine j_iload_n G dX12_countItems_105 rfl ?_
                  refine j_iload_n G dX12_countItems_106 rfl ?_
                  refine j_iconst G dX12_countItems_107 ?_
                  refine j_callV G mv_X12_146 dX12_countItems_108 (m_cellAt c k 0 h_c (by omega) (by omega)) (by first | exact rfl | assumption) (by decide) (by rfl) rfl rfl (by exact Nat.le_of_ble_eq_true rfl) (by decide) (kI ?_)
                  rw [h_5]
                  refine j_imul G dX12_countItems_111 ?_
                  first | refine j_aload_n G dX12_countItems_112 rfl ?_ | refine j_aload_nN G dX12_countItems_112 rfl ?_
                  refine j_iload_n G dX12_countItems_113 rfl ?_
                  refine j_pc (p2 := 114) rfl ?_
                  refine j_iload_n G dX12_countItems_114 rfl ?_
                  refine j_iconst G dX12_countItems_115 ?_
                  refine j_callV G mv_X12_146 dX12_countItems_116 (m_cellAt c k 1 h_c (by omega) (by omega)) (by first | exact rfl | assumption) (by decide) (by rfl) rfl rfl (by exact Nat.le_of_ble_eq_true rfl) (by decide) (kI ?_)
                  rw [h_6]
                  refine j_iadd G dX12_countItems_119 ?_
                  refine j_dup2 G dX12_countItems_120 rfl rfl ?_
                  refine j_iaload G dX12_countItems_121 (by first | exact rfl | assumption) (by omega) (fun r_121 => ?_)
                  try simp (disch := omega) only [up_same, up_cell, up_idx, cpm_at, fil_at] at r_121 ⊢
                  rw [h_dq]
                  refine j_iconst G dX12_countItems_122 ?_
                  refine j_iadd G dX12_countItems_123 ?_
                  refine j_iastore G dX12_countItems_124 (by first | exact rfl | assumption) (by omega) (by omega) ?_
                  refine j_iinc2 G dX12_countItems_125 (by decide) rfl rfl ?_
                  refine j_goto G dX12_countItems_128 (tgt := 45) (by decide) ?_
                  refine j_pc (p2 := 45) rfl ?_
                  refine ih (by omega) _ (h_o.up (Or.inr rfl)) (fun v h_v => ?_) (fun v e h_v h_e => ?_)
                  · rw [h_ss, h_7 v, if_neg (by decide), Int.add_zero, up_cell (by decide)]
                    exact h_s v h_v
                  · rw [h_ds, h_8 v e]
                    by_cases h_ve : v = a ∧ e = b
                    · rw [h_ve.1, h_ve.2, up_same, decide_eq_true ⟨rfl, rfl⟩, if_pos rfl]
                    · rw [up_idx (by omega), decide_eq_false h_ve, if_neg (by decide), Int.add_zero]
                      exact h_d v e h_v h_e
              · omega
    · first | refine j_aload_n G dX12_countItems_30 rfl ?_ | refine j_aload_nN G dX12_countItems_30 rfl ?_
      refine j_getr G fl_X12_49 dX12_countItems_31 (by first | exact rfl | assumption) (by rfl) ?_
      refine j_iload_n G dX12_countItems_34 rfl ?_
      refine j_iconst G dX12_countItems_35 ?_
      refine j_iastore G dX12_countItems_36 (by first | exact rfl | assumption) (by omega) (by omega) ?_
      refine j_iinc2 G dX12_countItems_37 (by decide) rfl rfl ?_
      refine j_goto G dX12_countItems_40 (tgt := 23) (by decide) ?_
      refine j_pc (p2 := 23) rfl ?_
      refine ih (by omega) _ (h_o.up (Or.inr rfl)) (fun v h_v => ?_) (fun v h_v => ?_)
      · rw [up_cell (by decide)]
        exact h_z v h_v
      · by_cases h_e : v = i
        · rw [h_e, up_same]
        · rw [up_idx (by omega)]
          exact h_z2 v (by omega)
  · first | refine j_aload_n G dX12_countItems_8 rfl ?_ | refine j_aload_nN G dX12_countItems_8 rfl ?_
    refine j_getr G fl_X12_46 dX12_countItems_9 (by first | exact rfl | assumption) (by rfl) ?_
    refine j_iload_n G dX12_countItems_12 rfl ?_
    refine j_iconst G dX12_countItems_13 ?_
    refine j_iastore G dX12_countItems_14 (by first | exact rfl | assumption) (by omega) (by omega) ?_
    refine j_iinc2 G dX12_countItems_15 (by decide) rfl rfl ?_
    refine j_goto G dX12_countItems_18 (tgt := 2) (by decide) ?_
    refine j_pc (p2 := 2) rfl ?_
    refine ih (by omega) _ (h_o.up (Or.inl rfl)) (fun v h_v => ?_)
    by_cases h_e : v = i
    · rw [h_e, up_same]
    · rw [up_idx (by omega)]
      exact h_z v (by omega)
theorem m_findComes (h_s : ∀ v : Nat, v < 64 → μ 13 v = sg w v) (h_d : ∀ v e : Nat, v < 64 → e < 64 → μ 14 (64 * (v : Int) + e) = db w v e) : CT (EM x) 0 yX12_findComes [rf (EM x) 0] μ (fun r ν => r = none ∧ Ons (· = 15) μ ν ∧ ∀ n v : Nat, n < 15 → v < 64 → ν 15 (64 * (n : Int) + v) = b2 (comB w n v = true)) := by
  refine CT.ofJ (own := RX12) (cc := cX12_findComes) (n := 5) (ret := none) (by decide) rfl cw_X12_findComes (by decide) (Nat.le_of_ble_eq_true rfl) (ls := [some (rf (EM x) 0), none, none, none, none]) rfl ?_
  intro X G
  refine j_iconst G dX12_findComes_0 ?_
  refine j_istore1 G dX12_findComes_1 (by decide) rfl ?_
  refine j_pc (p2 := 2) rfl ?_
  refine j_weak (ls' := [some (rf (EM x) 0), some (iv ((0 : Nat) : Int)), none, none, none]) ?_ ⟨rfl, rfl, trivial⟩
  refine down (Pr := fun i => ∀ ν : MemT, Ons (· = 15) μ ν → (∀ v : Nat, v < i → ν 15 v = b2 (comB w 0 v = true)) → JJ (EM x) X 0 (fun r ν => r = none ∧ Ons (· = 15) μ ν ∧ ∀ n v : Nat, n < 15 → v < 64 → ν 15 (64 * (n : Int) + v) = b2 (comB w n v = true)) 5 2 [some (rf (EM x) 0), some (iv i), none, none, none] [] ν) 64 ?_ 0 (Nat.zero_le _) μ (Ons.rf _ _) (fun v h_v => by omega)
  intro i h_i ih ν h_o h_v
  have h_si := h_s i
  have h_nx : i < 64 → ∀ z : Int, z = b2 (comB w 0 i = true) → JJ (EM x) X 0 (fun r ν => r = none ∧ Ons (· = 15) μ ν ∧ ∀ n v : Nat, n < 15 → v < 64 → ν 15 (64 * (n : Int) + v) = b2 (comB w n v = true)) 5 2 [some (rf (EM x) 0), some (iv ((i + 1 : Nat) : Int)), none, none, none] [] (up ν 15 i z) := fun h_1 z h_z => ih h_1 _ (h_o.up rfl) (fun v h_2 => by
    by_cases h_e : v = i
    · rw [h_e, up_same, h_z]
    · rw [up_idx (by omega)]
      exact h_v v (by omega))
  refine j_iload_n G dX12_findComes_2 rfl ?_
  refine j_bipush G dX12_findComes_3 (by decide) ?_
  refine j_icmp_ge G dX12_findComes_5 (tgt := 34) (by decide) (by omega) (by omega) (fun c_5 => ?_) (fun c_5 => ?_)
  · refine j_iconst G dX12_findComes_34 ?_
    refine j_istore1 G dX12_findComes_35 (by decide) rfl ?_
    refine j_pc (p2 := 36) rfl ?_
    obtain rfl : i = 64 := by omega
    refine j_weak (ls' := [some (rf (EM x) 0), some (iv (((0 : Nat) : Int) + 1)), none, none, none]) ?_ ⟨rfl, rfl, trivial⟩
    refine down (Pr := fun n => ∀ ν : MemT, Ons (· = 15) μ ν → (∀ m v : Nat, m < n + 1 → v < 64 → ν 15 (64 * (m : Int) + v) = b2 (comB w m v = true)) → JJ (EM x) X 0 (fun r ν => r = none ∧ Ons (· = 15) μ ν ∧ ∀ n v : Nat, n < 15 → v < 64 → ν 15 (64 * (n : Int) + v) = b2 (comB w n v = true)) 5 36 [some (rf (EM x) 0), some (iv ((n : Int) + 1)), none, none, none] [] ν) 14 ?_ 0 (Nat.zero_le _) ν h_o (fun m v h_m h_v2 => by
      obtain rfl : m = 0 := by omega
      rw [show 64 * ((0 : Nat) : Int) + (v : Int) = v by omega]
      exact h_v v h_v2)
    intro n h_n ih ν h_o h_v
    refine j_iload_n G dX12_findComes_36 rfl ?_
    refine j_bipush G dX12_findComes_37 (by decide) ?_
    refine j_icmp_ge G dX12_findComes_39 (tgt := 134) (by decide) (by omega) (by omega) (fun c_39 => ?_) (fun c_39 => ?_)
    · refine j_return G dX12_findComes_134 ?_
      obtain rfl : n = 14 := by omega
      exact ⟨rfl, h_o, h_v⟩
    · refine j_iconst G dX12_findComes_42 ?_
      refine j_istore2 G dX12_findComes_43 (by decide) rfl ?_
      refine j_pc (p2 := 44) rfl ?_
      refine j_weak (ls' := [some (rf (EM x) 0), some (iv ((n : Int) + 1)), some (iv ((0 : Nat) : Int)), none, none]) ?_ ⟨rfl, rfl, rfl, trivial⟩
      refine down (Pr := fun i => ∀ ν : MemT, Ons (· = 15) μ ν → (∀ m v : Nat, m < n + 1 → v < 64 → ν 15 (64 * (m : Int) + v) = b2 (comB w m v = true)) → (∀ v : Nat, v < i → ν 15 (64 * ((n : Int) + 1) + v) = b2 (comB w (n + 1) v = true)) → JJ (EM x) X 0 (fun r ν => r = none ∧ Ons (· = 15) μ ν ∧ ∀ n v : Nat, n < 15 → v < 64 → ν 15 (64 * (n : Int) + v) = b2 (comB w n v = true)) 5 44 [some (rf (EM x) 0), some (iv ((n : Int) + 1)), some (iv i), none, none] [] ν) 64 ?_ 0 (Nat.zero_le _) ν h_o h_v (fun v h_v => by omega)
      intro i h_i ih2 ν h_o h_v h_w2
      refine j_iload_n G dX12_findComes_44 rfl ?_
      refine j_bipush G dX12_findComes_45 (by decide) ?_
      refine j_icmp_ge G dX12_findComes_47 (tgt := 128) (by decide) (by omega) (by omega) (fun c_47 => ?_) (fun c_47 => ?_)
      · refine j_iinc1 G dX12_findComes_128 (by decide) rfl rfl ?_
        refine j_goto G dX12_findComes_131 (tgt := 36) (by decide) ?_
        refine j_pc (p2 := 36) rfl ?_
        obtain rfl : i = 64 := by omega
        refine j_weak (ih (by omega) ν h_o (fun m v h_m h_vv => ?_)) ⟨rfl, rfl, trivial⟩
        by_cases h_e : m = n + 1
        · subst h_e
          exact h_w2 v h_vv
        · exact h_v m v (by omega) h_vv
      · refine j_iconst G dX12_findComes_50 ?_
        refine j_istore3 G dX12_findComes_51 (by decide) rfl ?_
        refine j_iconst G dX12_findComes_52 ?_
        refine j_istore4 G dX12_findComes_53 (by decide) rfl ?_
        refine j_pc (p2 := 55) rfl ?_
        refine j_weak (ls' := [some (rf (EM x) 0), some (iv ((n : Int) + 1)), some (iv i), some (iv (b2 (anyB (fun e => decide (0 < db w i e) && comB w n e) 0 = true))), some (iv ((0 : Nat) : Int))]) ?_ ⟨rfl, rfl, rfl, rfl, rfl, trivial⟩
        refine down (Pr := fun e => JJ (EM x) X 0 (fun r ν => r = none ∧ Ons (· = 15) μ ν ∧ ∀ n v : Nat, n < 15 → v < 64 → ν 15 (64 * (n : Int) + v) = b2 (comB w n v = true)) 5 55 [some (rf (EM x) 0), some (iv ((n : Int) + 1)), some (iv i), some (iv (b2 (anyB (fun e => decide (0 < db w i e) && comB w n e) e = true))), some (iv e)] [] ν) 64 ?_ 0 (Nat.zero_le _)
        intro e h_e ih3
        have h_de : e < 64 → μ 14 (64 * (i : Int) + e) = db w i e := fun h => h_d i e (by omega) h
        have h_ce : e < 64 → ν 15 (64 * ((n : Int) + 1 - 1) + e) = b2 (comB w n e = true) := fun h => by rw [show (n : Int) + 1 - 1 = n by omega]; exact h_v n e (by omega) h
        have h_as : anyB (fun e => decide (0 < db w i e) && comB w n e) (e + 1) = (anyB (fun e => decide (0 < db w i e) && comB w n e) e || (decide (0 < db w i e) && comB w n e)) := rfl
        have h_nx : e < 64 → ∀ z : Int, z = b2 ((anyB (fun e => decide (0 < db w i e) && comB w n e) e || (decide (0 < db w i e) && comB w n e)) = true) → JJ (EM x) X 0 (fun r ν => r = none ∧ Ons (· = 15) μ ν ∧ ∀ n v : Nat, n < 15 → v < 64 → ν 15 (64 * (n : Int) + v) = b2 (comB w n v = true)) 5 55 [some (rf (EM x) 0), some (iv ((n : Int) + 1)), some (iv i), some (iv z), some (iv ((e + 1 : Nat) : Int))] [] ν := fun h_1 z h_z => by
          rw [h_z, ← h_as]
          exact ih3 h_1
        refine j_iload G dX12_findComes_55 rfl ?_
        refine j_bipush G dX12_findComes_57 (by decide) ?_
        refine j_icmp_ge G dX12_findComes_59 (tgt := 110) (by decide) (by omega) (by omega) (fun c_59 => ?_) (fun c_59 => ?_)
        · obtain rfl : e = 64 := by omega
          rw [show anyB (fun e => decide (0 < db w i e) && comB w n e) 64 = comB w (n + 1) i from rfl]
          have h_01 := b2_01 (comB w (n + 1) i = true)
          first | refine j_aload_n G dX12_findComes_110 rfl ?_ | refine j_aload_nN G dX12_findComes_110 rfl ?_
          refine j_getr G fl_X12_52 dX12_findComes_111 (by first | exact rfl | assumption) (by rfl) ?_
          refine j_bipush G dX12_findComes_114 (by decide) ?_
          refine j_iload_n G dX12_findComes_116 rfl ?_
          refine j_imul G dX12_findComes_117 ?_
          refine j_iload_n G dX12_findComes_118 rfl ?_
          refine j_iadd G dX12_findComes_119 ?_
          refine j_iload_n G dX12_findComes_120 rfl ?_
          refine j_bastore G dX12_findComes_121 (by first | exact rfl | assumption) (by omega) (by omega) ?_
          refine j_iinc2 G dX12_findComes_122 (by decide) rfl rfl ?_
          refine j_goto G dX12_findComes_125 (tgt := 44) (by decide) ?_
          refine j_pc (p2 := 44) rfl ?_
          refine j_weak (ih2 (by omega) _ (h_o.up rfl) (fun m v h_m h_vv => ?_) (fun v h_vv => ?_)) ⟨rfl, rfl, rfl, trivial⟩
          · rw [up_idx (by omega)]
            exact h_v m v h_m h_vv
          · by_cases h_e : v = i
            · rw [h_e, up_same]
            · rw [up_idx (by omega)]
              exact h_w2 v (by omega)
        · refine j_iload_n G dX12_findComes_62 rfl ?_
          refine j_if_neB G dX12_findComes_63 (tgt := 98) (by decide)  (fun c_63 => ?_) (fun c_63 => ?_)
          · refine j_iconst G dX12_findComes_98 ?_
            refine j_goto G dX12_findComes_99 (tgt := 103) (by decide) ?_
            refine j_istore3 G dX12_findComes_103 (by decide) rfl ?_
            refine j_iinc4 G dX12_findComes_104 (by decide) rfl rfl ?_
            refine j_goto G dX12_findComes_107 (tgt := 55) (by decide) ?_
            refine j_pc (p2 := 55) rfl ?_
            first
            | exact h_nx (by omega) 1 (by rw [c_63, Bool.true_or]; rfl)
            | exact h_nx (by omega) 1 (by rw [c_95, decide_eq_true (show 0 < db w i e by omega), Bool.true_and, Bool.or_true]; rfl)
            | exact h_nx (by omega) 0 (by rw [Bool.eq_false_iff.2 c_63, decide_eq_false (show ¬ 0 < db w i e by omega), Bool.false_and, Bool.or_false]; rfl)
            | exact h_nx (by omega) 0 (by rw [Bool.eq_false_iff.2 c_63, Bool.eq_false_iff.2 c_95, Bool.and_false, Bool.or_false]; rfl)
          · first | refine j_aload_n G dX12_findComes_66 rfl ?_ | refine j_aload_nN G dX12_findComes_66 rfl ?_
            refine j_getr G fl_X12_49 dX12_findComes_67 (by first | exact rfl | assumption) (by rfl) ?_
            refine j_bipush G dX12_findComes_70 (by decide) ?_
            refine j_iload_n G dX12_findComes_72 rfl ?_
            refine j_imul G dX12_findComes_73 ?_
            refine j_iload G dX12_findComes_74 rfl ?_
            refine j_iadd G dX12_findComes_76 ?_
            refine j_iaload G dX12_findComes_77 (by first | exact rfl | assumption) (by omega) (fun r_77 => ?_)
            try simp (disch := omega) only [up_same, up_cell, up_idx, cpm_at, fil_at] at r_77 ⊢
            rw [h_o 14 (by decide), h_de (by omega)] at *
            refine j_if_le G dX12_findComes_78 (tgt := 102) (by decide) (by omega) (fun c_78 => ?_) (fun c_78 => ?_)
            · refine j_iconst G dX12_findComes_102 ?_
              refine j_istore3 G dX12_findComes_103 (by decide) rfl ?_
              refine j_iinc4 G dX12_findComes_104 (by decide) rfl rfl ?_
              refine j_goto G dX12_findComes_107 (tgt := 55) (by decide) ?_
              refine j_pc (p2 := 55) rfl ?_
              first
              | exact h_nx (by omega) 1 (by rw [c_63, Bool.true_or]; rfl)
              | exact h_nx (by omega) 1 (by rw [c_95, decide_eq_true (show 0 < db w i e by omega), Bool.true_and, Bool.or_true]; rfl)
              | exact h_nx (by omega) 0 (by rw [Bool.eq_false_iff.2 c_63, decide_eq_false (show ¬ 0 < db w i e by omega), Bool.false_and, Bool.or_false]; rfl)
              | exact h_nx (by omega) 0 (by rw [Bool.eq_false_iff.2 c_63, Bool.eq_false_iff.2 c_95, Bool.and_false, Bool.or_false]; rfl)
            · first | refine j_aload_n G dX12_findComes_81 rfl ?_ | refine j_aload_nN G dX12_findComes_81 rfl ?_
              refine j_getr G fl_X12_52 dX12_findComes_82 (by first | exact rfl | assumption) (by rfl) ?_
              refine j_bipush G dX12_findComes_85 (by decide) ?_
              refine j_iload_n G dX12_findComes_87 rfl ?_
              refine j_iconst G dX12_findComes_88 ?_
              refine j_isub G dX12_findComes_89 ?_
              refine j_imul G dX12_findComes_90 ?_
              refine j_iload G dX12_findComes_91 rfl ?_
              refine j_iadd G dX12_findComes_93 ?_
              refine j_baload G dX12_findComes_94 (by first | exact rfl | assumption) (by omega) (fun r_94 => ?_)
              try simp (disch := omega) only [up_same, up_cell, up_idx, cpm_at, fil_at] at r_94 ⊢
              rw [h_ce (by omega)]
              refine j_if_eqB G dX12_findComes_95 (tgt := 102) (by decide)  (fun c_95 => ?_) (fun c_95 => ?_)
              · refine j_iconst G dX12_findComes_102 ?_
                refine j_istore3 G dX12_findComes_103 (by decide) rfl ?_
                refine j_iinc4 G dX12_findComes_104 (by decide) rfl rfl ?_
                refine j_goto G dX12_findComes_107 (tgt := 55) (by decide) ?_
                refine j_pc (p2 := 55) rfl ?_
                first
                | exact h_nx (by omega) 1 (by rw [c_63, Bool.true_or]; rfl)
                | exact h_nx (by omega) 1 (by rw [c_95, decide_eq_true (show 0 < db w i e by omega), Bool.true_and, Bool.or_true]; rfl)
                | exact h_nx (by omega) 0 (by rw [Bool.eq_false_iff.2 c_63, decide_eq_false (show ¬ 0 < db w i e by omega), Bool.false_and, Bool.or_false]; rfl)
                | exact h_nx (by omega) 0 (by rw [Bool.eq_false_iff.2 c_63, Bool.eq_false_iff.2 c_95, Bool.and_false, Bool.or_false]; rfl)
              · refine j_iconst G dX12_findComes_98 ?_
                refine j_goto G dX12_findComes_99 (tgt := 103) (by decide) ?_
                refine j_istore3 G dX12_findComes_103 (by decide) rfl ?_
                refine j_iinc4 G dX12_findComes_104 (by decide) rfl rfl ?_
                refine j_goto G dX12_findComes_107 (tgt := 55) (by decide) ?_
                refine j_pc (p2 := 55) rfl ?_
                first
                | exact h_nx (by omega) 1 (by rw [c_63, Bool.true_or]; rfl)
                | exact h_nx (by omega) 1 (by rw [c_95, decide_eq_true (show 0 < db w i e by omega), Bool.true_and, Bool.or_true]; rfl)
                | exact h_nx (by omega) 0 (by rw [Bool.eq_false_iff.2 c_63, decide_eq_false (show ¬ 0 < db w i e by omega), Bool.false_and, Bool.or_false]; rfl)
                | exact h_nx (by omega) 0 (by rw [Bool.eq_false_iff.2 c_63, Bool.eq_false_iff.2 c_95, Bool.and_false, Bool.or_false]; rfl)
  · first | refine j_aload_n G dX12_findComes_8 rfl ?_ | refine j_aload_nN G dX12_findComes_8 rfl ?_
    refine j_getr G fl_X12_52 dX12_findComes_9 (by first | exact rfl | assumption) (by rfl) ?_
    refine j_iload_n G dX12_findComes_12 rfl ?_
    first | refine j_aload_n G dX12_findComes_13 rfl ?_ | refine j_aload_nN G dX12_findComes_13 rfl ?_
    refine j_getr G fl_X12_46 dX12_findComes_14 (by first | exact rfl | assumption) (by rfl) ?_
    refine j_iload_n G dX12_findComes_17 rfl ?_
    refine j_iaload G dX12_findComes_18 (by first | exact rfl | assumption) (by omega) (fun r_18 => ?_)
    try simp (disch := omega) only [up_same, up_cell, up_idx, cpm_at, fil_at] at r_18 ⊢
    rw [h_o 13 (by decide), h_si (by omega)] at *
    refine j_if_le G dX12_findComes_19 (tgt := 26) (by decide) (by omega) (fun c_19 => ?_) (fun c_19 => ?_)
    · refine j_iconst G dX12_findComes_26 ?_
      refine j_bastore G dX12_findComes_27 (by first | exact rfl | assumption) (by omega) (by omega) ?_
      refine j_iinc1 G dX12_findComes_28 (by decide) rfl rfl ?_
      refine j_goto G dX12_findComes_31 (tgt := 2) (by decide) ?_
      refine j_pc (p2 := 2) rfl ?_
      first
      | exact h_nx (by omega) 1 (by rw [show comB w 0 i = decide (0 < sg w i) from rfl, decide_eq_true (by omega)]; rfl)
      | exact h_nx (by omega) 0 (by rw [show comB w 0 i = decide (0 < sg w i) from rfl, decide_eq_false (by omega)]; rfl)
    · refine j_iconst G dX12_findComes_22 ?_
      refine j_goto G dX12_findComes_23 (tgt := 27) (by decide) ?_
      refine j_bastore G dX12_findComes_27 (by first | exact rfl | assumption) (by omega) (by omega) ?_
      refine j_iinc1 G dX12_findComes_28 (by decide) rfl rfl ?_
      refine j_goto G dX12_findComes_31 (tgt := 2) (by decide) ?_
      refine j_pc (p2 := 2) rfl ?_
      first
      | exact h_nx (by omega) 1 (by rw [show comB w 0 i = decide (0 < sg w i) from rfl, decide_eq_true (by omega)]; rfl)
      | exact h_nx (by omega) 0 (by rw [show comB w 0 i = decide (0 < sg w i) from rfl, decide_eq_false (by omega)]; rfl)
end TN
