/-- the reference's number of the item that is taken -/
def itN (σ : MemT) (c : Nat) (t : Nat → Int) (n p : Nat) : Nat := if iA σ c t n p < 12 then (iA σ c t n p).toNat else 12 + (t p).toNat
theorem xI_at {σ : MemT} {c : Nat} (h_w : WfCode σ c) {t : Nat → Int} {n p k : Nat} (h_n : n ≤ 10) (h_p : p < n) (h_t : ∀ i, i < n → 0 ≤ t i ∧ t i ≤ 25) (h_f : wA σ c t n p < 268435456) (h : ftI σ c t n p k = true) : (if cv (wA σ c t n (p + lenK σ c (slt k))) = 100000000 then 100000000 else cv (wA σ c t n (p + lenK σ c (slt k))) + 1000 * widK σ c (slt k) + ptsK σ c t p (slt k)) = cv (wA σ c t n p) ↔ (wA σ c t n (p + lenK σ c (slt k)) < 268435456 ∧ ownK σ c t p (slt k) + wA σ c t n (p + lenK σ c (slt k)) = wA σ c t n p) := by
  have h_1 := ftI_fit h
  have h_2 := fitK_len h_w h_p h_1
  have h_3 := wp_rg h_w (h_t p h_p) h_1
  have h_4 := wA_v h_w h_t p (by omega)
  have h_5 := wA_v h_w h_t _ h_2.2
  rw [ownK_wp]
  generalize wA σ c t n (p + lenK σ c (slt k)) = R at h_5 ⊢
  generalize wA σ c t n p = V at h_4 h_f ⊢
  rcases h_4 with h_4 | ⟨a, b, h_6, h_7, h_8⟩
  · omega
  · rw [cv_a h_8 (by omega) (by omega)]
    rcases h_5 with h_5 | ⟨a2, b2, h_9, h_10, h_11⟩
    · rw [h_5, cv_i, if_pos rfl]
      omega
    · rw [cv_a h_11 (by omega) (by omega), if_neg (by omega)]
      omega
/-- what the reference says of the item that is taken -/
theorem itm2 {σ μ : MemT} {c : Nat} (h_c : c < 5) (h_w : WfCode σ c) (h_r : ReCode σ μ c) {t : Nat → Int} {n p k : Nat} (h_k : k < 38) (h : ftI σ c t n p k = true) : wdI μ c k = (itL σ c t p (slt k)).length ∧ lnI μ c k = lenK σ c (slt k) ∧ ∀ i : Nat, i < (itL σ c t p (slt k)).length → clI μ c k i = (itL σ c t p (slt k)).getD i 0 := by
  obtain ⟨w, h_1, h_2, h_3, h_4, -⟩ := itm h_c h_w h_r h_k h
  refine ⟨by rw [h_1, h_3, itL_len], h_4, ?_⟩
  obtain ⟨r1, r2, r3⟩ := id h_r
  unfold ftI at h
  unfold slt itL clI
  by_cases h_12 : k < 12
  · rw [if_pos h_12] at h ⊢
    unfold fitK at h
    rw [if_pos h_12, Bool.and_eq_true] at h
    obtain ⟨h_r1, h_r2, h_r3, h_r4, h_r5⟩ := r3 k (by omega) (of_decide_eq_true h.1)
    by_cases h_0 : σ (8 + 7 * c) k = 0
    · rw [if_pos h_12, if_pos h_0]
      intro i h_i
      obtain rfl : i = 0 := by
        have : i < 1 := h_i
        omega
      rw [if_pos h_12, show ((0 : Nat) : Int) = 0 from rfl, Int.add_zero, h_r3]
      rfl
    · rw [if_pos h_12, if_neg h_0]
      intro i h_i
      rw [if_pos h_12]
      have h_i2 : i < 2 := h_i
      by_cases h_i0 : i = 0
      · subst h_i0
        rw [show ((0 : Nat) : Int) = 0 from rfl, Int.add_zero, h_r3]
        rfl
      · obtain rfl : i = 1 := by omega
        rw [show ((1 : Nat) : Int) = 1 from rfl, (h_r5 h_0).2]
        rfl
  · rw [if_neg h_12] at h ⊢
    rw [Bool.and_eq_true] at h
    have h_2 := of_decide_eq_true h.2
    rw [if_neg (by decide)]
    intro i h_i
    obtain rfl : i = 0 := by
      have : i < 1 := h_i
      omega
    rw [if_neg h_12, show 26 * (c : Int) + k - 12 = 26 * c + ((k : Int) - 12) by omega, r1 ((k : Int) - 12) (by omega) (by omega), h_2]
    rfl
theorem itN_is {σ : MemT} {c : Nat} (h_w : WfCode σ c) {t : Nat → Int} {n p : Nat} (h_n : n ≤ 10) (h_p : p < n) (h_t : ∀ i, i < n → 0 ≤ t i ∧ t i ≤ 25) (h_f : wA σ c t n p < 268435456) : itN σ c t n p < 38 ∧ ftI σ c t n p (itN σ c t n p) = true ∧ (slt (itN σ c t n p) : Int) = iA σ c t n p ∧ (if cv (wA σ c t n (p + lenK σ c (slt (itN σ c t n p)))) = 100000000 then 100000000 else cv (wA σ c t n (p + lenK σ c (slt (itN σ c t n p)))) + 1000 * widK σ c (slt (itN σ c t n p)) + ptsK σ c t p (slt (itN σ c t n p))) = cv (wA σ c t n p) ∧ ∀ j, j < itN σ c t n p → ftI σ c t n p j = true → (if cv (wA σ c t n (p + lenK σ c (slt j))) = 100000000 then 100000000 else cv (wA σ c t n (p + lenK σ c (slt j))) + 1000 * widK σ c (slt j) + ptsK σ c t p (slt j)) ≠ cv (wA σ c t n p) := by
  obtain ⟨k, h_1, h_2, h_3, h_4, h_5, h_6, h_7⟩ := itF h_w h_p h_f
  have h_tp := h_t p h_p
  have h_N : itN σ c t n p = if k < 12 then k else 12 + (t p).toNat := by
    unfold itN
    rw [h_2, Int.toNat_natCast]
    by_cases h_k : k < 12
    · rw [if_pos h_k, if_pos (by omega)]
    · rw [if_neg h_k, if_neg (by omega)]
  have h_sl : slt (itN σ c t n p) = k := by
    rw [h_N]
    unfold slt
    by_cases h_k : k < 12
    · rw [if_pos h_k, if_pos h_k]
    · rw [if_neg h_k, if_neg (by omega)]
      omega
  have h_ft : ftI σ c t n p (itN σ c t n p) = true := by
    rw [h_N]
    unfold ftI
    by_cases h_k : k < 12
    · rw [if_pos h_k, if_pos h_k]
      exact h_3
    · rw [if_neg h_k, if_neg (by omega)]
      unfold fitK at h_3
      rw [if_neg h_k] at h_3
      have h_8 := of_decide_eq_true h_3
      rw [show ((12 + (t p).toNat : Nat) : Int) - 12 = t p by omega, decide_eq_true h_8, decide_eq_true rfl]
      rfl
  refine ⟨?_, h_ft, by rw [h_sl, h_2], ?_, fun j h_j h_fj h_e => ?_⟩
  · rw [h_N]
    split <;> omega
  · rw [(xI_at h_w h_n h_p h_t h_f h_ft), h_sl]
    exact ⟨h_4, h_5⟩
  · rw [xI_at h_w h_n h_p h_t h_f h_fj] at h_e
    have h_8 := ftI_fit h_fj
    by_cases h_k : slt j < k
    · exact h_7 _ h_k h_8 h_e.1 h_e.2
    · rw [h_N] at h_j
      unfold slt at h_k
      by_cases h_k12 : k < 12
      · rw [if_pos h_k12] at h_j
        rw [if_pos (by omega)] at h_k
        omega
      · rw [if_neg h_k12] at h_j
        by_cases h_j12 : j < 12
        · rw [if_pos h_j12] at h_k
          omega
        · unfold ftI at h_fj
          rw [if_neg h_j12, Bool.and_eq_true] at h_fj
          have := of_decide_eq_true h_fj.2
          omega
section FI
variable {E : EE} {x x1 x2 : CX} {μ σ : MemT}
theorem m_firstItem (c p n : Nat) (t : Nat → Int) (h_c : c < 5) (h_p : p < n) (h_n : n ≤ 10) (h_tx : TX μ n t) (h_t : ∀ i, i < n → 0 ≤ t i ∧ t i ≤ 25) (h_w : WfCode σ c) (h_r : ReCode σ μ c) (h_v : ∀ q : Nat, q ≤ n → μ 10 q = cv (wA σ c t n q)) (h_f : wA σ c t n p < 268435456) : CT (EM x) 3 yX12_firstItem [rf (EM x) 0, iv c, iv p] μ (rI (itN σ c t n p) μ) := by
  obtain ⟨h_1, h_2, h_3, h_4, h_5⟩ := itN_is h_w h_n h_p h_t h_f
  have h_cr := cv_rg (wA_v h_w h_t p (by omega)) (by omega)
  generalize itN σ c t n p = N at h_1 h_2 h_3 h_4 h_5 ⊢
  have h_xr : ∀ k, ftI σ c t n p k = true → 0 ≤ (if cv (wA σ c t n (p + lenK σ c (slt k))) = 100000000 then 100000000 else cv (wA σ c t n (p + lenK σ c (slt k))) + 1000 * widK σ c (slt k) + ptsK σ c t p (slt k)) ∧ (if cv (wA σ c t n (p + lenK σ c (slt k))) = 100000000 then 100000000 else cv (wA σ c t n (p + lenK σ c (slt k))) + 1000 * widK σ c (slt k) + ptsK σ c t p (slt k)) ≤ 200000000 := fun k h_k => by
    have h_6 := wp_rg h_w (h_t p h_p) (ftI_fit h_k)
    have h_7 := cv_rg (wA_v h_w h_t _ (fitK_len h_w h_p (ftI_fit h_k)).2) (by omega)
    split <;> omega
  refine CT.ofJ (own := RX12) (cc := cX12_firstItem) (n := 4) (ret := (some .int)) (by decide) rfl cw_X12_firstItem (by decide) (Nat.le_of_ble_eq_true rfl) (ls := [some (rf (EM x) 0), some (iv c), some (iv p), none]) rfl ?_
  intro X G
  refine j_iconst G dX12_firstItem_0 ?_
  refine j_istore3 G dX12_firstItem_1 (by decide) rfl ?_
  refine j_pc (p2 := 2) rfl ?_
  refine down (Pr := fun i => JJ (EM x) X 3 (rI N μ) 4 2 [some (rf (EM x) 0), some (iv c), some (iv p), some (iv i)] [] μ) N ?_ 0 (Nat.zero_le _)
  intro i h_i ih
  have h_5i := h_5 i
  have h_xi := h_xr i
  first | refine j_aload_n G dX12_firstItem_2 rfl ?_ | refine j_aload_nN G dX12_firstItem_2 rfl ?_
  refine j_iload_n G dX12_firstItem_3 rfl ?_
  refine j_iload_n G dX12_firstItem_4 rfl ?_
  refine j_iload_n G dX12_firstItem_5 rfl ?_
  refine j_callV G mv_X12_171 dX12_firstItem_6 (m_fits (σ := σ) c i p n t h_c (by omega) h_p h_n h_tx h_w h_r) (by first | assumption | rfl) (by decide) (by rfl) rfl rfl (by exact Nat.le_of_ble_eq_true rfl) (by decide) (kI ?_)
  refine j_if_eqB G dX12_firstItem_9 (tgt := 28) (by decide)  (fun c_9 => ?_) (fun c_9 => ?_)
  · refine j_iinc3 G dX12_firstItem_28 (by decide) rfl rfl ?_
    refine j_goto G dX12_firstItem_31 (tgt := 2) (by decide) ?_
    refine j_pc (p2 := 2) rfl ?_
    refine ih (Nat.lt_of_le_of_ne h_i (fun h_e => ?_))
    subst h_e
    first
    | exact c_9 h_2
    | exact c_25 h_4
  · first | refine j_aload_n G dX12_firstItem_12 rfl ?_ | refine j_aload_nN G dX12_firstItem_12 rfl ?_
    refine j_iload_n G dX12_firstItem_13 rfl ?_
    refine j_iload_n G dX12_firstItem_14 rfl ?_
    refine j_iload_n G dX12_firstItem_15 rfl ?_
    refine j_callV G mv_X12_175 dX12_firstItem_16 (m_byItem (σ := σ) c i p n t h_c (by omega) h_p h_n h_w h_r c_9) (by first | assumption | rfl) (by decide) (by rfl) rfl rfl (by exact Nat.le_of_ble_eq_true rfl) (by decide) (kI ?_)
    rw [h_v _ (fitK_len h_w h_p (ftI_fit c_9)).2]
    have h_xj := h_xi c_9
    first | refine j_aload_n G dX12_firstItem_19 rfl ?_ | refine j_aload_nN G dX12_firstItem_19 rfl ?_
    refine j_getr G fl_X12_37 dX12_firstItem_20 (by first | assumption | rfl) (by rfl) ?_
    refine j_iload_n G dX12_firstItem_23 rfl ?_
    refine j_iaload G dX12_firstItem_24 (by first | assumption | rfl) (by omega) (fun r_24 => ?_)
    try simp (disch := omega) only [up_same, up_cell, up_idx, cpm_at, fil_at] at r_24 ⊢
    rw [h_v p (by omega)] at *
    refine j_icmp_eq G dX12_firstItem_25 (tgt := 34) (by decide) (by omega) (by omega) (fun c_25 => ?_) (fun c_25 => ?_)
    · refine j_iload_n G dX12_firstItem_34 rfl ?_
      refine j_ireturn G dX12_firstItem_35 ?_
      obtain rfl : i = N := Nat.le_antisymm h_i (Nat.le_of_not_lt (fun h_e => h_5i h_e c_9 c_25))
      exact ⟨rfl, rfl⟩
    · refine j_iinc3 G dX12_firstItem_28 (by decide) rfl rfl ?_
      refine j_goto G dX12_firstItem_31 (tgt := 2) (by decide) ?_
      refine j_pc (p2 := 2) rfl ?_
      refine ih (Nat.lt_of_le_of_ne h_i (fun h_e => ?_))
      subst h_e
      first
      | exact c_9 h_2
      | exact c_25 h_4
def KL (μ ν : MemT) : Prop := (∀ k, k ≠ 11 → k ≠ 0 → ν k = μ k) ∧ ∀ i, i ≠ 14 → ν 0 i = μ 0 i
theorem KL.rf (μ : MemT) : KL μ μ := ⟨fun _ _ _ => rfl, fun _ _ => rfl⟩
theorem KL.up1 {a b : MemT} (h1 : KL a b) {i z : Int} : KL a (up b 11 i z) := ⟨fun j hj j0 => by rw [show up b 11 i z j = b j from up_other j hj]; exact h1.1 j hj j0, fun j hj => by rw [up_cell (by decide)]; exact h1.2 j hj⟩
theorem KL.up0 {a b : MemT} (h1 : KL a b) {z : Int} : KL a (up b 0 14 z) := ⟨fun j hj j0 => by rw [show up b 0 14 z j = b j from up_other j j0]; exact h1.1 j hj j0, fun j hj => by rw [up_idx hj]; exact h1.2 j hj⟩
theorem m_layWritten (c n : Nat) (t : Nat → Int) (h_c : c < 5) (h_n : n ≤ 10) (h_tx : TX μ n t) (h_t : ∀ i, i < n → 0 ≤ t i ∧ t i ≤ 25) (h_w : WfCode σ c) (h_r : ReCode σ μ c) (h_v : ∀ q : Nat, q ≤ n → μ 10 q = cv (wA σ c t n q)) (h_f : wA σ c t n 0 < 268435456) : CT (EM x) 4 yX12_layWritten [rf (EM x) 0, iv c] μ (fun r ν => r = none ∧ KL μ ν ∧ RwI (ν 0 14) (ν 11) (wrL σ c t n 10 0)) := by
  refine CT.ofJ (own := RX12) (cc := cX12_layWritten) (n := 5) (ret := none) (by decide) rfl cw_X12_layWritten (by decide) (Nat.le_of_ble_eq_true rfl) (ls := [some (rf (EM x) 0), some (iv c), none, none, none]) rfl ?_
  intro X G
  have h_lp : ∀ f : Nat, f ≤ 10 → ∀ (p : Nat) (D : List Int) (ν : MemT), p ≤ n → n ≤ p + f → KL μ ν → wA σ c t n p < 268435456 → RwI (ν 0 14) (ν 11) D → D.length ≤ 2 * p → D ++ wrL σ c t n f p = wrL σ c t n 10 0 → JJ (EM x) X 4 (fun r ν => r = none ∧ KL μ ν ∧ RwI (ν 0 14) (ν 11) (wrL σ c t n 10 0)) 5 7 [some (rf (EM x) 0), some (iv c), some (iv p), none, none] [] ν := by
    intro f
    induction f with
    | zero =>
      intro h_f p D ν h_pn h_nf h_k h_wp h_R h_Dl h_D
      have h_DD : D = wrL σ c t n 10 0 := by rw [← h_D]; exact (List.append_nil D).symm
      rw [h_DD] at h_R
      · refine j_iload_n G dX12_layWritten_7 rfl ?_
        first | refine j_aload_n G dX12_layWritten_8 rfl ?_ | refine j_aload_nN G dX12_layWritten_8 rfl ?_
        refine j_geti G fl_X12_161 dX12_layWritten_9 11 rfl (by first | assumption | rfl) (by rfl) (fun r_9 => ?_)
        try simp (disch := omega) only [up_same, up_cell, up_idx, cpm_at, fil_at] at r_9 ⊢
        rw [h_k.2 11 (by decide), h_tx.1]
        refine j_icmp_ge G dX12_layWritten_12 (tgt := 81) (by decide) (by omega) (by omega) (fun c_12 => ?_) (fun c_12 => ?_)
        · refine j_return G dX12_layWritten_81 ?_
          exact ⟨rfl, h_k, h_R⟩
        · omega
    | succ f ih =>
      intro h_f p D ν h_pn h_nf h_k h_wp h_R h_Dl h_D
      · refine j_iload_n G dX12_layWritten_7 rfl ?_
        first | refine j_aload_n G dX12_layWritten_8 rfl ?_ | refine j_aload_nN G dX12_layWritten_8 rfl ?_
        refine j_geti G fl_X12_161 dX12_layWritten_9 11 rfl (by first | assumption | rfl) (by rfl) (fun r_9 => ?_)
        try simp (disch := omega) only [up_same, up_cell, up_idx, cpm_at, fil_at] at r_9 ⊢
        rw [h_k.2 11 (by decide), h_tx.1]
        refine j_icmp_ge G dX12_layWritten_12 (tgt := 81) (by decide) (by omega) (by omega) (fun c_12 => ?_) (fun c_12 => ?_)
        · refine j_return G dX12_layWritten_81 ?_
          rw [wrL_e (by omega), List.append_nil] at h_D
          rw [h_D] at h_R
          exact ⟨rfl, h_k, h_R⟩
        · obtain ⟨h_1, h_2, h_3, -, -⟩ := itN_is h_w h_n (show p < n by omega) h_t h_wp
          obtain ⟨k, h_k13, h_ki, h_fit, h_rest, h_eq, h_len, -⟩ := itF h_w (show p < n by omega) h_wp
          obtain h_sl : slt (itN σ c t n p) = k := by omega
          rw [wrL_s (by omega) h_ki, ← List.append_assoc] at h_D
          have h_Ll : (itL σ c t p k).length ≤ 2 := by
            have h_z1 := itL_len σ c t p k
            have h_z2 := (wp_rg h_w (h_t p (by omega)) h_fit).1
            omega
          have h_rc : ∀ ν2 : MemT, KL μ ν2 → ReCode σ ν2 c := fun ν2 h_k2 => h_r.on (fun j h_1 h_2 => h_k2.1 j (by omega) (by omega))
          have h_it := fun (ν2 : MemT) (h_k2 : KL μ ν2) => itm2 h_c h_w (h_rc ν2 h_k2) h_1 h_2
          rw [h_sl] at h_it
          first | refine j_aload_n G dX12_layWritten_15 rfl ?_ | refine j_aload_nN G dX12_layWritten_15 rfl ?_
          refine j_iload_n G dX12_layWritten_16 rfl ?_
          refine j_iload_n G dX12_layWritten_17 rfl ?_
          refine j_callV G mv_X12_181 dX12_layWritten_18 (m_firstItem (σ := σ) c p n t h_c (by omega) h_n ⟨(h_k.2 11 (by decide)).trans h_tx.1, fun i h_i => (congrFun (h_k.1 9 (by decide) (by decide)) i).trans (h_tx.2 i h_i)⟩ h_t h_w (h_rc ν h_k) (fun q h_q => (congrFun (h_k.1 10 (by decide) (by decide)) q).trans (h_v q h_q)) h_wp) (by first | assumption | rfl) (by decide) (by rfl) rfl rfl (by exact Nat.le_of_ble_eq_true rfl) (by decide) (kI ?_)
          generalize itN σ c t n p = N at h_1 h_2 h_3 h_sl h_it ⊢
          refine j_istore3 G dX12_layWritten_21 (by decide) rfl ?_
          refine j_iconst G dX12_layWritten_22 ?_
          refine j_istore4 G dX12_layWritten_23 (by decide) rfl ?_
          refine j_pc (p2 := 25) rfl ?_
          refine j_weak (ls' := [some (rf (EM x) 0), some (iv c), some (iv p), some (iv N), some (iv ((0 : Nat) : Int))]) ?_ ⟨rfl, rfl, rfl, rfl, rfl, trivial⟩
          refine down (Pr := fun i => ∀ ν2 : MemT, KL μ ν2 → RwI (ν2 0 14) (ν2 11) (D ++ (itL σ c t p k).take i) → JJ (EM x) X 4 (fun r ν => r = none ∧ KL μ ν ∧ RwI (ν 0 14) (ν 11) (wrL σ c t n 10 0)) 5 25 [some (rf (EM x) 0), some (iv c), some (iv p), some (iv N), some (iv i)] [] ν2) (itL σ c t p k).length ?_ 0 (Nat.zero_le _) ν h_k (by rw [List.take_zero, List.append_nil]; exact h_R)
          intro i h_i ih2 ν2 h_k2 h_R2
          obtain ⟨h_i1, h_i2, h_i3⟩ := h_it ν2 h_k2
          have h_R3 := h_R2.1
          rw [List.length_append] at h_R3
          have h_R4 := List.length_take_le i (itL σ c t p k)
          refine j_iload G dX12_layWritten_25 rfl ?_
          first | refine j_aload_n G dX12_layWritten_27 rfl ?_ | refine j_aload_nN G dX12_layWritten_27 rfl ?_
          refine j_iload_n G dX12_layWritten_28 rfl ?_
          refine j_iload_n G dX12_layWritten_29 rfl ?_
          refine j_callV G mv_X12_142 dX12_layWritten_30 (m_wideOf c N h_c h_1) (by first | assumption | rfl) (by decide) (by rfl) rfl rfl (by exact Nat.le_of_ble_eq_true rfl) (by decide) (kI ?_)
          rw [h_i1]
          refine j_icmp_ge G dX12_layWritten_33 (tgt := 69) (by decide) (by omega) (by omega) (fun c_33 => ?_) (fun c_33 => ?_)
          · refine j_iload_n G dX12_layWritten_69 rfl ?_
            first | refine j_aload_n G dX12_layWritten_70 rfl ?_ | refine j_aload_nN G dX12_layWritten_70 rfl ?_
            refine j_iload_n G dX12_layWritten_71 rfl ?_
            refine j_iload_n G dX12_layWritten_72 rfl ?_
            refine j_callV G mv_X12_158 dX12_layWritten_73 (m_longOf c N h_c h_1) (by first | assumption | rfl) (by decide) (by rfl) rfl rfl (by exact Nat.le_of_ble_eq_true rfl) (by decide) (kI ?_)
            rw [h_i2]
            refine j_iadd G dX12_layWritten_76 ?_
            refine j_istore2 G dX12_layWritten_77 (by decide) rfl ?_
            refine j_goto G dX12_layWritten_78 (tgt := 7) (by decide) ?_
            refine j_pc (p2 := 7) rfl ?_
            rw [List.take_of_length_le (by omega)] at h_R2
            exact j_weak (ih (by omega) (p + lenK σ c k) _ ν2 h_len.2 (by omega) h_k2 h_rest h_R2 (by rw [List.length_append]; omega) h_D) ⟨rfl, rfl, rfl, trivial⟩
          · first | refine j_aload_n G dX12_layWritten_36 rfl ?_ | refine j_aload_nN G dX12_layWritten_36 rfl ?_
            refine j_getr G fl_X12_40 dX12_layWritten_37 (by first | assumption | rfl) (by rfl) ?_
            first | refine j_aload_n G dX12_layWritten_40 rfl ?_ | refine j_aload_nN G dX12_layWritten_40 rfl ?_
            refine j_geti G fl_X12_178 dX12_layWritten_41 14 rfl (by first | assumption | rfl) (by rfl) (fun r_41 => ?_)
            try simp (disch := omega) only [up_same, up_cell, up_idx, cpm_at, fil_at] at r_41 ⊢
            first | refine j_aload_n G dX12_layWritten_44 rfl ?_ | refine j_aload_nN G dX12_layWritten_44 rfl ?_
            refine j_iload_n G dX12_layWritten_45 rfl ?_
            refine j_iload_n G dX12_layWritten_46 rfl ?_
            refine j_iload G dX12_layWritten_47 rfl ?_
            refine j_callV G mv_X12_146 dX12_layWritten_49 (m_cellAt c N i h_c h_1 (by omega)) (by first | assumption | rfl) (by decide) (by rfl) rfl rfl (by exact Nat.le_of_ble_eq_true rfl) (by decide) (kI ?_)
            rw [h_i3 i (by omega)]
            have h_vr := itL_rg h_w (h_t p (by omega)) h_fit _ (gd_mem (itL σ c t p k) i (by omega))
            refine j_iastore G dX12_layWritten_52 (by first | assumption | rfl) (by omega) (by omega) ?_
            first | refine j_aload_n G dX12_layWritten_53 rfl ?_ | refine j_aload_nN G dX12_layWritten_53 rfl ?_
            refine j_pc (p2 := 54) rfl ?_
            refine j_dup G dX12_layWritten_54 rfl ?_
            refine j_geti G fl_X12_178 dX12_layWritten_55 14 rfl (by first | assumption | rfl) (by rfl) (fun r_55 => ?_)
            try simp (disch := omega) only [up_same, up_cell, up_idx, cpm_at, fil_at] at r_55 ⊢
            refine j_iconst G dX12_layWritten_58 ?_
            refine j_iadd G dX12_layWritten_59 ?_
            refine j_puti G fp_X12_178 dX12_layWritten_60 14 rfl (by first | assumption | rfl) (by rfl) (by omega) ?_
            refine j_iinc4 G dX12_layWritten_63 (by decide) rfl rfl ?_
            refine j_goto G dX12_layWritten_66 (tgt := 25) (by decide) ?_
            refine j_pc (p2 := 25) rfl ?_
            refine ih2 (by omega) _ h_k2.up1.up0 ?_
            rw [tk_s _ i (by omega), ← List.append_assoc, up_same, up_fn (by decide)]
            exact h_R2.put
  first | refine j_aload_n G dX12_layWritten_0 rfl ?_ | refine j_aload_nN G dX12_layWritten_0 rfl ?_
  refine j_iconst G dX12_layWritten_1 ?_
  refine j_puti G fp_X12_178 dX12_layWritten_2 14 rfl (by first | assumption | rfl) (by rfl) (by omega) ?_
  refine j_iconst G dX12_layWritten_5 ?_
  refine j_istore2 G dX12_layWritten_6 (by decide) rfl ?_
  refine j_pc (p2 := 7) rfl ?_
  exact j_weak (h_lp 10 (by omega) 0 [] _ (by omega) (by omega) (KL.rf _).up0 h_f ⟨up_same _ _ _ _, fun i h_i => absurd h_i (Nat.not_lt_zero _)⟩ (by decide) rfl) ⟨rfl, rfl, rfl, trivial⟩
theorem m_layPad (n : Nat) (h_n : μ 0 7 = n) (h_10 : n ≤ 10) : CT (EM x) 0 yX12_layPad [rf (EM x) 0] μ (fun r ν => r = none ∧ KW μ ν ∧ TX ν n (fun i => μ 7 i)) := by
  refine CT.ofJ (own := RX12) (cc := cX12_layPad) (n := 2) (ret := none) (by decide) rfl cw_X12_layPad (by decide) (Nat.le_of_ble_eq_true rfl) (ls := [some (rf (EM x) 0), none]) rfl ?_
  intro X G
  first | refine j_aload_n G dX12_layPad_0 rfl ?_ | refine j_aload_nN G dX12_layPad_0 rfl ?_
  first | refine j_aload_n G dX12_layPad_1 rfl ?_ | refine j_aload_nN G dX12_layPad_1 rfl ?_
  refine j_geti G fl_X12_130 dX12_layPad_2 7 rfl (by first | assumption | rfl) (by rfl) (fun r_2 => ?_)
  try simp (disch := omega) only [up_same, up_cell, up_idx, cpm_at, fil_at] at r_2 ⊢
  rw [h_n]
  refine j_puti G fp_X12_161 dX12_layPad_5 11 rfl (by first | assumption | rfl) (by rfl) (by omega) ?_
  refine j_iconst G dX12_layPad_8 ?_
  refine j_istore1 G dX12_layPad_9 (by decide) rfl ?_
  refine j_pc (p2 := 10) rfl ?_
  refine down (Pr := fun i => ∀ ν : MemT, KW μ ν → ν 0 11 = n → (∀ j : Nat, j < i → ν 9 j = μ 7 j) → JJ (EM x) X 0 (fun r ν => r = none ∧ KW μ ν ∧ TX ν n (fun i => μ 7 i)) 2 10 [some (rf (EM x) 0), some (iv i)] [] ν) n ?_ 0 (Nat.zero_le _) _ ⟨fun k _ h_0 => up_other k h_0, fun i h_i => up_idx h_i⟩ (up_same _ _ _ _) (fun j h_j => by omega)
  intro i h_i ih ν h_k h_11 h_v
  refine j_iload_n G dX12_layPad_10 rfl ?_
  first | refine j_aload_n G dX12_layPad_11 rfl ?_ | refine j_aload_nN G dX12_layPad_11 rfl ?_
  refine j_geti G fl_X12_130 dX12_layPad_12 7 rfl (by first | assumption | rfl) (by rfl) (fun r_12 => ?_)
  try simp (disch := omega) only [up_same, up_cell, up_idx, cpm_at, fil_at] at r_12 ⊢
  rw [h_k.2 7 (by decide), h_n]
  refine j_icmp_ge G dX12_layPad_15 (tgt := 36) (by decide) (by omega) (by omega) (fun c_15 => ?_) (fun c_15 => ?_)
  · refine j_return G dX12_layPad_36 ?_
    obtain rfl : i = n := by omega
    exact ⟨rfl, h_k, h_11, h_v⟩
  · first | refine j_aload_n G dX12_layPad_18 rfl ?_ | refine j_aload_nN G dX12_layPad_18 rfl ?_
    refine j_getr G fl_X12_34 dX12_layPad_19 (by first | assumption | rfl) (by rfl) ?_
    refine j_iload_n G dX12_layPad_22 rfl ?_
    first | refine j_aload_n G dX12_layPad_23 rfl ?_ | refine j_aload_nN G dX12_layPad_23 rfl ?_
    refine j_getr G fl_X12_28 dX12_layPad_24 (by first | assumption | rfl) (by rfl) ?_
    refine j_iload_n G dX12_layPad_27 rfl ?_
    refine j_iaload G dX12_layPad_28 (by first | assumption | rfl) (by omega) (fun r_28 => ?_)
    try simp (disch := omega) only [up_same, up_cell, up_idx, cpm_at, fil_at] at r_28 ⊢
    rw [h_k.1 7 (by decide) (by decide)] at *
    refine j_iastore G dX12_layPad_29 (by first | assumption | rfl) (by omega) (by omega) ?_
    refine j_iinc1 G dX12_layPad_30 (by decide) rfl rfl ?_
    refine j_goto G dX12_layPad_33 (tgt := 10) (by decide) ?_
    refine j_pc (p2 := 10) rfl ?_
    refine ih (by omega) _ ⟨fun k h_1 h_2 => ?_, fun j h_1 => ?_⟩ ?_ (fun j h_j => ?_)
    · rw [show up ν 9 i _ k = ν k from up_other k h_1]
      exact h_k.1 k h_1 h_2
    · rw [up_cell (by decide)]
      exact h_k.2 j h_1
    · rw [up_cell (by decide)]
      exact h_11
    · by_cases h_e : j = i
      · subst h_e
        exact up_same _ _ _ _
      · rw [up_idx (by omega)]
        exact h_v j (by omega)
end FI
