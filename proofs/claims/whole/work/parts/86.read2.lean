def fsB (q : Nat → Bool) : Nat → Nat
  | 0 => 0
  | m + 1 => if anyB q m = true then fsB q m else m
theorem fsB_is {q : Nat → Bool} : ∀ m, anyB q m = true → fsB q m < m ∧ q (fsB q m) = true ∧ ∀ j, j < fsB q m → q j = false
  | 0, h => by
    obtain ⟨i, h_i, -⟩ := anyB_iff.1 h
    omega
  | m + 1, h => by
    show (if anyB q m = true then fsB q m else m) < m + 1 ∧ q (if anyB q m = true then fsB q m else m) = true ∧ ∀ j, j < (if anyB q m = true then fsB q m else m) → q j = false
    by_cases h_m : anyB q m = true
    · rw [if_pos h_m]
      obtain ⟨h_1, h_2, h_3⟩ := fsB_is m h_m
      exact ⟨by omega, h_2, h_3⟩
    · rw [if_neg h_m]
      have h_n : ∀ j, j < m → q j = false := fun j h_j => Bool.eq_false_iff.2 (fun z => h_m (anyB_iff.2 ⟨j, h_j, z⟩))
      obtain ⟨i, h_i, h_q⟩ := anyB_iff.1 h
      refine ⟨by omega, ?_, h_n⟩
      by_cases h_e : i = m
      · rw [← h_e]; exact h_q
      · rw [h_n i (by omega)] at h_q
        exact absurd h_q (by decide)
theorem sm_pos {g : Nat → Int} : ∀ m, 0 < sm g m → ∃ j, j < m ∧ 0 < g j
  | 0, h => absurd h (Int.lt_irrefl _)
  | m + 1, h => by
    rw [sm_s] at h
    by_cases h_1 : 0 < sm g m
    · obtain ⟨j, h_2, h_3⟩ := sm_pos m h_1
      exact ⟨j, by omega, h_3⟩
    · exact ⟨m, by omega, by omega⟩
def lsF (g : Nat → Int) : Nat → List Int
  | 0 => []
  | m + 1 => lsF g m ++ [g m]
theorem lsF_len (g : Nat → Int) : ∀ m, (lsF g m).length = m
  | 0 => rfl
  | m + 1 => by
    show (lsF g m ++ [g m]).length = m + 1
    rw [List.length_append, lsF_len g m]
    rfl
theorem gd_l2 : ∀ (A R : List Int) (i : Nat), i < A.length → (A ++ R).getD i 0 = A.getD i 0
  | [], _, _, h => absurd h (Nat.not_lt_zero _)
  | _ :: _, _, 0, _ => rfl
  | _ :: A, R, i + 1, h => gd_l2 A R i (Nat.lt_of_succ_lt_succ h)
theorem gd_r : ∀ (A R : List Int) (i : Nat), (A ++ R).getD (A.length + i) 0 = R.getD i 0
  | [], R, i => by rw [show ([] : List Int).length + i = i from Nat.zero_add i]; rfl
  | a :: A, R, i => by
    rw [show (a :: A).length + i = (A.length + i) + 1 from by rw [List.length_cons]; omega]
    exact gd_r A R i
theorem lsF_gd (g : Nat → Int) : ∀ m i, i < m → (lsF g m).getD i 0 = g i
  | 0, _, h => absurd h (Nat.not_lt_zero _)
  | m + 1, i, h => by
    show (lsF g m ++ [g m]).getD i 0 = g i
    by_cases h_e : i = m
    · have h_1 := gd_e (lsF g m) (g m)
      rw [lsF_len] at h_1
      rw [h_e]
      exact h_1
    · rw [gd_l2 _ _ _ (by rw [lsF_len]; omega)]
      exact lsF_gd g m i (by omega)
def qR (σ : MemT) (c : Nat) (d : Nat → Int) (n p k : Nat) : Bool := rdF σ c d n p k && decide (0 < cA σ c d n (p + wdN σ c k))
def kR (σ : MemT) (c : Nat) (d : Nat → Int) (n p : Nat) : Nat := fsB (qR σ c d n p) 38
def ltL (σ : MemT) (c k : Nat) : List Int := if k < 12 then lsF (fun i => σ (5 + 7 * c) (4 * (k : Int) + i)) (σ (6 + 7 * c) k).toNat else [(k : Int) - 12]
def rdL (σ : MemT) (c : Nat) (d : Nat → Int) (n : Nat) : Nat → Nat → List Int
  | 0, _ => []
  | f + 1, p => if p < n then ltL σ c (kR σ c d n p) ++ rdL σ c d n f (p + wdN σ c (kR σ c d n p)) else []
theorem rdL_s {σ : MemT} {c : Nat} {d : Nat → Int} {n f p k : Nat} (h_p : p < n) (h_k : kR σ c d n p = k) : rdL σ c d n (f + 1) p = ltL σ c k ++ rdL σ c d n f (p + wdN σ c k) := by
  show (if p < n then _ else _) = _
  rw [if_pos h_p, h_k]
theorem rdL_e {σ : MemT} {c : Nat} {d : Nat → Int} {n p : Nat} (h_p : ¬ p < n) : ∀ f, rdL σ c d n f p = []
  | 0 => rfl
  | f + 1 => if_neg h_p
theorem kR_is {σ : MemT} {c : Nat} {d : Nat → Int} {n p : Nat} (h_p : p < n) (h_c : 0 < cA σ c d n p) : kR σ c d n p < 38 ∧ rdF σ c d n p (kR σ c d n p) = true ∧ 0 < cA σ c d n (p + wdN σ c (kR σ c d n p)) ∧ p + wdN σ c (kR σ c d n p) ≤ n ∧ ∀ j, j < kR σ c d n p → qR σ c d n p j = false := by
  have h_1 : anyB (qR σ c d n p) 38 = true := by
    rw [cA_s h_p] at h_c
    obtain ⟨j, h_2, h_3⟩ := sm_pos (g := rdX σ c d n p) 38 (by omega)
    refine anyB_iff.2 ⟨j, h_2, ?_⟩
    unfold rdX at h_3
    by_cases h_f : rdF σ c d n p j = true
    · rw [if_pos h_f] at h_3
      unfold qR
      rw [h_f, decide_eq_true h_3]
      rfl
    · rw [if_neg h_f] at h_3
      omega
  obtain ⟨h_2, h_3, h_4⟩ := fsB_is 38 h_1
  have h_5 : qR σ c d n p (kR σ c d n p) = true := h_3
  unfold qR at h_5
  rw [Bool.and_eq_true] at h_5
  exact ⟨h_2, h_5.1, of_decide_eq_true h_5.2, rdF_len h_p h_5.1, h_4⟩
def rdW (σ : MemT) (c n : Nat) : List Int := if 0 < cA σ c (dtx σ) n 0 then rdL σ c (dtx σ) n 12 0 else []
theorem ltL_len {σ : MemT} {c : Nat} (h_w : WfCode σ c) {d : Nat → Int} {n p k : Nat} (h : rdF σ c d n p k = true) : (ltL σ c k).length ≤ 4 := by
  unfold ltL
  by_cases h_k : k < 12
  · unfold rdF at h
    rw [if_pos h_k, Bool.and_eq_true] at h
    have := (h_w.2.2.2 k (by omega) (of_decide_eq_true h.1)).1
    rw [if_pos h_k, lsF_len]
    omega
  · rw [if_neg h_k]
    exact (by decide : 1 ≤ 4)
section RF
variable {E : EE} {x x1 x2 : CX} {μ σ τ : MemT}
theorem c_firstShort (c p n : Nat) (h_o : ∀ j, (3 + 7 * c ≤ j ∧ j ≤ 8 + 7 * c) ∨ j = 39 ∨ j = 40 → τ j = σ j) (h_c : c < 5) (h_w : WfCode σ c) (h_pd : WfPad σ) (h_n : σ 39 1 = n) (h_p : p < n) (h_v : ∀ q : Nat, q ≤ n → τ 49 q = cA σ c (dtx σ) n q) (h_cp : 0 < cA σ c (dtx σ) n p) : CT (EC x) 2 yX2_firstShort [rf (EC x) 48, rf (EC x) (2 + 7 * c), rf (EC x) 39, iv p] τ (rI (if kR σ c (dtx σ) n p < 12 then (kR σ c (dtx σ) n p : Int) else -6) τ) := by
  obtain ⟨h_y1, h_y2, h_y3, h_y4, h_y5, h_y6, h_y7⟩ := ly_code (x := x) h_c
  obtain ⟨-, -, h_p3, h_p4, -⟩ := id h_pd
  obtain ⟨h_w1, h_w2, h_w3, h_w4⟩ := id h_w
  obtain ⟨h_k1, h_k2, h_k3, h_k4, h_k5⟩ := kR_is h_p h_cp
  have h_e4 : τ (4 + 7 * c) 3 = σ (4 + 7 * c) 3 := by rw [h_o (4 + 7 * c) (by omega)]
  generalize kR σ c (dtx σ) n p = K at h_k1 h_k2 h_k3 h_k4 h_k5 ⊢
  refine CT.ofJ (own := RX2) (cc := cX2_firstShort) (n := 6) (ret := (some .int)) (by decide) rfl cw_X2_firstShort (by decide) (Nat.le_of_ble_eq_true rfl) (ls := [some (rf (EC x) 48), some (rf (EC x) (2 + 7 * c)), some (rf (EC x) 39), some (iv p), none, none]) rfl ?_
  intro X G
  refine j_iconst G dX2_firstShort_0 ?_
  refine j_istore4 G dX2_firstShort_1 (by decide) rfl ?_
  refine j_pc (p2 := 3) rfl ?_
  refine j_weak (ls' := [some (rf (EC x) 48), some (rf (EC x) (2 + 7 * c)), some (rf (EC x) 39), some (iv p), some (iv ((0 : Nat) : Int)), none]) ?_ ⟨rfl, rfl, rfl, rfl, rfl, trivial⟩
  refine down (Pr := fun s => s ≤ K → (s : Int) ≤ σ (4 + 7 * c) 3 → JJ (EC x) X 2 (rI (if K < 12 then (K : Int) else -6) τ) 6 3 [some (rf (EC x) 48), some (rf (EC x) (2 + 7 * c)), some (rf (EC x) 39), some (iv p), some (iv s), none] [] τ) 12 ?_ 0 (Nat.zero_le _) (by omega) (by omega)
  intro s h_s ih h_sK h_sc
  have h_k5s := h_k5 s
  have h_nx : s < K → (s : Int) < σ (4 + 7 * c) 3 → JJ (EC x) X 2 (rI (if K < 12 then (K : Int) else -6) τ) 6 3 [some (rf (EC x) 48), some (rf (EC x) (2 + 7 * c)), some (rf (EC x) 39), some (iv p), some (iv ((s + 1 : Nat) : Int)), none] [] τ := fun h_1 h_2 => ih (by omega) (by omega) (by omega)
  refine j_iload G dX2_firstShort_3 rfl ?_
  first | refine j_aload_n G dX2_firstShort_5 rfl ?_ | refine j_aload_nN G dX2_firstShort_5 rfl ?_
  refine j_getr G fl_X2_43 dX2_firstShort_6 (by first | assumption | rfl) (by rfl) ?_
  refine j_geti G fl_X2_49 dX2_firstShort_9 3 rfl (by first | assumption | rfl) (by rfl) (fun r_9 => ?_)
  try simp (disch := omega) only [up_same, up_cell, up_idx, cpm_at, fil_at] at r_9 ⊢
  rw [h_e4]
  refine j_icmp_ge G dX2_firstShort_12 (tgt := 49) (by decide) (by omega) (by omega) (fun c_12 => ?_) (fun c_12 => ?_)
  · refine j_bipush G dX2_firstShort_49 (by decide) ?_
    refine j_ireturn G dX2_firstShort_51 ?_
    have h_12 : ¬ K < 12 := fun h_1 => by
      unfold rdF at h_k2
      rw [if_pos h_1, Bool.and_eq_true] at h_k2
      have := of_decide_eq_true h_k2.1
      omega
    rw [if_neg h_12]
    exact ⟨rfl, rfl⟩
  · first | refine j_aload_n G dX2_firstShort_15 rfl ?_ | refine j_aload_nN G dX2_firstShort_15 rfl ?_
    refine j_iload G dX2_firstShort_16 rfl ?_
    first | refine j_aload_n G dX2_firstShort_18 rfl ?_ | refine j_aload_nN G dX2_firstShort_18 rfl ?_
    refine j_iload_n G dX2_firstShort_19 rfl ?_
    refine j_callV G mv_X2_54 dX2_firstShort_20 (k_behind c s p n h_o h_c h_w h_pd h_n (by omega) h_p) (by first | assumption | rfl) (by decide) (by rfl) rfl rfl (by exact Nat.le_of_ble_eq_true rfl) (by decide) (kI ?_)
    by_cases h_f : rdF σ c (dtx σ) n p s = true
    · rw [if_pos h_f]
      have h_l := rdF_len h_p h_f
      have h_vs := h_v (p + wdN σ c s) h_l
      have h_cs := cA_rg σ c (dtx σ) n _ h_l
      have h_qs : qR σ c (dtx σ) n p s = decide (0 < cA σ c (dtx σ) n (p + wdN σ c s)) := by unfold qR; rw [h_f, Bool.true_and]
      refine j_istore5 G dX2_firstShort_23 (by decide) rfl ?_
      refine j_iload G dX2_firstShort_25 rfl ?_
      refine j_if_lt G dX2_firstShort_27 (tgt := 43) (by decide) (by omega) (fun c_27 => ?_) (fun c_27 => ?_)
      · omega
      · first | refine j_aload_n G dX2_firstShort_30 rfl ?_ | refine j_aload_nN G dX2_firstShort_30 rfl ?_
        refine j_getr G fl_X2_9 dX2_firstShort_31 (by first | assumption | rfl) (by rfl) ?_
        refine j_iload G dX2_firstShort_34 rfl ?_
        refine j_iaload G dX2_firstShort_36 (by first | assumption | rfl) (by omega) (fun r_36 => ?_)
        try simp (disch := omega) only [up_same, up_cell, up_idx, cpm_at, fil_at] at r_36 ⊢
        rw [h_vs]
        refine j_if_le G dX2_firstShort_37 (tgt := 43) (by decide) (by omega) (fun c_37 => ?_) (fun c_37 => ?_)
        · refine j_iinc4 G dX2_firstShort_43 (by decide) rfl rfl ?_
          refine j_goto G dX2_firstShort_46 (tgt := 3) (by decide) ?_
          refine j_pc (p2 := 3) rfl ?_
          refine j_weak (h_nx (Nat.lt_of_le_of_ne h_sK (fun h_e => ?_)) (by omega)) ⟨rfl, rfl, rfl, rfl, rfl, trivial⟩
          subst h_e
          omega
        · refine j_iload G dX2_firstShort_40 rfl ?_
          refine j_ireturn G dX2_firstShort_42 ?_
          obtain rfl : s = K := Nat.le_antisymm h_sK (Nat.le_of_not_lt (fun h_e => by
            rw [h_k5s h_e, decide_eq_true c_37] at h_qs
            exact absurd h_qs (by decide)))
          rw [if_pos (by omega)]
          exact ⟨rfl, rfl⟩
    rw [if_neg h_f]
    refine j_istore5 G dX2_firstShort_23 (by decide) rfl ?_
    refine j_iload G dX2_firstShort_25 rfl ?_
    refine j_if_lt G dX2_firstShort_27 (tgt := 43) (by decide) (by omega) (fun c_27 => ?_) (fun c_27 => ?_)
    · refine j_iinc4 G dX2_firstShort_43 (by decide) rfl rfl ?_
      refine j_goto G dX2_firstShort_46 (tgt := 3) (by decide) ?_
      refine j_pc (p2 := 3) rfl ?_
      refine j_weak (h_nx (Nat.lt_of_le_of_ne h_sK (fun h_e => ?_)) (by omega)) ⟨rfl, rfl, rfl, rfl, rfl, trivial⟩
      subst h_e
      exact h_f h_k2
    · omega
theorem k_firstLetter (c l : Nat) (v : Int) (h_c : c < 5) (h_vr : 0 ≤ v ∧ v ≤ 63) (h_l : l < 26) (h_1 : τ (3 + 7 * c) l = v) (h_2 : ∀ j : Nat, j < l → τ (3 + 7 * c) j ≠ v) : CT (EC x) 0 yX2_firstLetter [rf (EC x) (2 + 7 * c), iv v] τ (rI l τ) := by
  obtain ⟨h_y1, h_y2, h_y3, h_y4, h_y5, h_y6, h_y7⟩ := ly_code (x := x) h_c
  refine CT.ofJ (own := RX2) (cc := cX2_firstLetter) (n := 3) (ret := (some .int)) (by decide) rfl cw_X2_firstLetter (by decide) (Nat.le_of_ble_eq_true rfl) (ls := [some (rf (EC x) (2 + 7 * c)), some (iv v), none]) rfl ?_
  intro X G
  refine j_iconst G dX2_firstLetter_0 ?_
  refine j_istore2 G dX2_firstLetter_1 (by decide) rfl ?_
  refine j_pc (p2 := 2) rfl ?_
  refine down (Pr := fun i => JJ (EC x) X 0 (rI l τ) 3 2 [some (rf (EC x) (2 + 7 * c)), some (iv v), some (iv i)] [] τ) l ?_ 0 (Nat.zero_le _)
  intro i h_i ih
  have h_2i := h_2 i
  refine j_iload_n G dX2_firstLetter_2 rfl ?_
  refine j_bipush G dX2_firstLetter_3 (by decide) ?_
  refine j_icmp_ge G dX2_firstLetter_5 (tgt := 26) (by decide) (by omega) (by omega) (fun c_5 => ?_) (fun c_5 => ?_)
  · refine j_bipush G dX2_firstLetter_26 (by decide) ?_
    refine j_ireturn G dX2_firstLetter_28 ?_
    omega
  · first | refine j_aload_n G dX2_firstLetter_8 rfl ?_ | refine j_aload_nN G dX2_firstLetter_8 rfl ?_
    refine j_getr G fl_X2_62 dX2_firstLetter_9 (by first | assumption | rfl) (by rfl) ?_
    refine j_iload_n G dX2_firstLetter_12 rfl ?_
    refine j_iaload G dX2_firstLetter_13 (by first | assumption | rfl) (by omega) (fun r_13 => ?_)
    try simp (disch := omega) only [up_same, up_cell, up_idx, cpm_at, fil_at] at r_13 ⊢
    refine j_iload_n G dX2_firstLetter_14 rfl ?_
    refine j_icmp_ne G dX2_firstLetter_15 (tgt := 20) (by decide) (by omega) (by omega) (fun c_15 => ?_) (fun c_15 => ?_)
    · refine j_iinc2 G dX2_firstLetter_20 (by decide) rfl rfl ?_
      refine j_goto G dX2_firstLetter_23 (tgt := 2) (by decide) ?_
      refine j_pc (p2 := 2) rfl ?_
      refine ih (Nat.lt_of_le_of_ne h_i (fun h_e => ?_))
      subst h_e
      exact c_15 h_1
    · refine j_iload_n G dX2_firstLetter_18 rfl ?_
      refine j_ireturn G dX2_firstLetter_19 ?_
      obtain rfl : i = l := Nat.le_antisymm h_i (Nat.le_of_not_lt (fun h_e => h_2i h_e c_15))
      exact ⟨rfl, rfl⟩
theorem c_takeFirstWay (c n : Nat) (h_o : ∀ j, (3 + 7 * c ≤ j ∧ j ≤ 8 + 7 * c) ∨ j = 39 ∨ j = 40 → τ j = σ j) (h_c : c < 5) (h_w : WfCode σ c) (h_pd : WfPad σ) (h_n : σ 39 1 = n) (h_v : ∀ q : Nat, q ≤ n → τ 49 q = cA σ c (dtx σ) n q) : CT (EC x) 3 yX2_takeFirstWay [rf (EC x) 48, rf (EC x) (2 + 7 * c), rf (EC x) 39] τ (fun r τ2 => r = none ∧ Ons (fun j => j = 50 ∨ j = 51) τ τ2 ∧ RwI (τ2 50 1) (τ2 51) (rdW σ c n) ∧ (rdW σ c n).length ≤ 48) := by
  obtain ⟨h_y1, h_y2, h_y3, h_y4, h_y5, h_y6, h_y7⟩ := ly_code (x := x) h_c
  obtain ⟨-, -, h_p3, h_p4, -⟩ := id h_pd
  obtain ⟨h_w1, h_w2, h_w3, h_w4⟩ := id h_w
  have h_cr := cA_rg σ c (dtx σ) n
  refine CT.ofJ (own := RX2) (cc := cX2_takeFirstWay) (n := 8) (ret := none) (by decide) rfl cw_X2_takeFirstWay (by decide) (Nat.le_of_ble_eq_true rfl) (ls := [some (rf (EC x) 48), some (rf (EC x) (2 + 7 * c)), some (rf (EC x) 39), none, none, none, none, none]) rfl ?_
  intro X G
  have h_lp : 0 < cA σ c (dtx σ) n 0 → ∀ f : Nat, f ≤ 12 → ∀ (p : Nat) (D : List Int) (τ2 : MemT), p ≤ n → n ≤ p + f → Ons (fun j => j = 50 ∨ j = 51) τ τ2 → 0 < cA σ c (dtx σ) n p → RwI (τ2 50 1) (τ2 51) D → D.length ≤ 4 * p → D ++ rdL σ c (dtx σ) n f p = rdL σ c (dtx σ) n 12 0 → JJ (EC x) X 3 (fun r τ2 => r = none ∧ Ons (fun j => j = 50 ∨ j = 51) τ τ2 ∧ RwI (τ2 50 1) (τ2 51) (rdW σ c n) ∧ (rdW σ c n).length ≤ 48) 8 24 [some (rf (EC x) 48), some (rf (EC x) (2 + 7 * c)), some (rf (EC x) 39), some (iv n), some (iv p), some (iv (12 - (f : Int))), none, none] [] τ2 := by
    intro h_00 f
    have h_W : rdW σ c n = rdL σ c (dtx σ) n 12 0 := if_pos h_00
    rw [h_W]
    induction f with
    | zero =>
      intro h_f p D τ2 h_pn h_nf h_o2 h_cp h_R h_Dl h_D
      have h_DD : D = rdL σ c (dtx σ) n 12 0 := by rw [← h_D]; exact (List.append_nil D).symm
      rw [h_DD] at h_R h_Dl
      · refine j_iload G dX2_takeFirstWay_24 rfl ?_
        refine j_bipush G dX2_takeFirstWay_26 (by decide) ?_
        refine j_icmp_ge G dX2_takeFirstWay_28 (tgt := 150) (by decide) (by omega) (by omega) (fun c_28 => ?_) (fun c_28 => ?_)
        · refine j_return G dX2_takeFirstWay_150 ?_
          exact ⟨rfl, h_o2, h_R, by omega⟩
        · omega
    | succ f ih =>
      intro h_f p D τ2 h_pn h_nf h_o2 h_cp h_R h_Dl h_D
      have h_o3 : ∀ j, (3 + 7 * c ≤ j ∧ j ≤ 8 + 7 * c) ∨ j = 39 ∨ j = 40 → τ2 j = σ j := fun j h_j => (h_o2 j (by omega)).trans (h_o j h_j)
      have h_v2 : ∀ q : Nat, q ≤ n → τ2 49 q = cA σ c (dtx σ) n q := fun q h_q => by rw [h_o2 49 (by omega)]; exact h_v q h_q
      have h_v2p := h_v2 p h_pn
      have h_cp2 := h_cr p h_pn
      · refine j_iload G dX2_takeFirstWay_24 rfl ?_
        refine j_bipush G dX2_takeFirstWay_26 (by decide) ?_
        refine j_icmp_ge G dX2_takeFirstWay_28 (tgt := 150) (by decide) (by omega) (by omega) (fun c_28 => ?_) (fun c_28 => ?_)
        · omega
        · refine j_iload G dX2_takeFirstWay_31 rfl ?_
          refine j_iload_n G dX2_takeFirstWay_33 rfl ?_
          refine j_icmp_ge G dX2_takeFirstWay_34 (tgt := 150) (by decide) (by omega) (by omega) (fun c_34 => ?_) (fun c_34 => ?_)
          · refine j_return G dX2_takeFirstWay_150 ?_
            rw [rdL_e (by omega), List.append_nil] at h_D
            rw [h_D] at h_R h_Dl
            exact ⟨rfl, h_o2, h_R, by omega⟩
          · first | refine j_aload_n G dX2_takeFirstWay_37 rfl ?_ | refine j_aload_nN G dX2_takeFirstWay_37 rfl ?_
            refine j_getr G fl_X2_9 dX2_takeFirstWay_38 (by first | assumption | rfl) (by rfl) ?_
            refine j_iload G dX2_takeFirstWay_41 rfl ?_
            refine j_iaload G dX2_takeFirstWay_43 (by first | assumption | rfl) (by omega) (fun r_43 => ?_)
            try simp (disch := omega) only [up_same, up_cell, up_idx, cpm_at, fil_at] at r_43 ⊢
            rw [h_v2p]
            refine j_if_le G dX2_takeFirstWay_44 (tgt := 150) (by decide) (by omega) (fun c_44 => ?_) (fun c_44 => ?_)
            · omega
            · obtain ⟨h_k1, h_k2, h_k3, h_k4, h_k5⟩ := kR_is (show p < n by omega) h_cp
              have h_fs := c_firstShort (x := x) c p n h_o3 h_c h_w h_pd h_n (by omega) h_v2 h_cp
              generalize h_K : kR σ c (dtx σ) n p = K at h_k1 h_k2 h_k3 h_k4 h_k5 h_fs
              rw [rdL_s (by omega) h_K, ← List.append_assoc] at h_D
              have h_Ll := ltL_len h_w h_k2
              have h_w12 := wdN_12 σ c K
              have h_go : ∀ τ3 : MemT, Ons (fun j => j = 50 ∨ j = 51) τ2 τ3 → RwI (τ3 50 1) (τ3 51) (D ++ ltL σ c K) → JJ (EC x) X 3 (fun r τ2 => r = none ∧ Ons (fun j => j = 50 ∨ j = 51) τ τ2 ∧ RwI (τ2 50 1) (τ2 51) (rdL σ c (dtx σ) n 12 0) ∧ (rdL σ c (dtx σ) n 12 0).length ≤ 48) 8 24 [some (rf (EC x) 48), some (rf (EC x) (2 + 7 * c)), some (rf (EC x) 39), some (iv n), some (iv ((p + wdN σ c K : Nat) : Int)), some (iv (12 - (f : Int))), none, none] [] τ3 := fun τ3 h_o4 h_R4 => ih (by omega) _ _ τ3 h_k4 (by omega) (h_o2.tr h_o4) h_k3 h_R4 (by rw [List.length_append]; omega) h_D
              have h_st : (12 : Int) - ((f + 1 : Nat) : Int) + 1 = 12 - (f : Int) := by omega
              first | refine j_aload_n G dX2_takeFirstWay_47 rfl ?_ | refine j_aload_nN G dX2_takeFirstWay_47 rfl ?_
              first | refine j_aload_n G dX2_takeFirstWay_48 rfl ?_ | refine j_aload_nN G dX2_takeFirstWay_48 rfl ?_
              first | refine j_aload_n G dX2_takeFirstWay_49 rfl ?_ | refine j_aload_nN G dX2_takeFirstWay_49 rfl ?_
              refine j_iload G dX2_takeFirstWay_50 rfl ?_
              refine j_callV G mv_X2_70 dX2_takeFirstWay_52 (h_fs) (by first | assumption | rfl) (by decide) (by rfl) rfl rfl (by exact Nat.le_of_ble_eq_true rfl) (by decide) (kI ?_)
              by_cases h_12 : K < 12
              · rw [if_pos h_12]
                have h_k6 : (K : Int) < σ (4 + 7 * c) 3 := by
                  unfold rdF at h_k2
                  rw [if_pos h_12, Bool.and_eq_true] at h_k2
                  exact of_decide_eq_true h_k2.1
                obtain ⟨h_z1, h_z2, h_z3, h_z4⟩ := h_w4 K (by omega) h_k6
                have h_LL : ltL σ c K = lsF (fun i => σ (5 + 7 * c) (4 * (K : Int) + i)) (σ (6 + 7 * c) K).toNat := if_pos h_12
                obtain ⟨z, h_z5, h_z6⟩ := nat_of (n := 4) (z := σ (6 + 7 * c) K) (by omega)
                rw [h_z6, Int.toNat_natCast] at h_LL
                have h_wd : wdN σ c K = if σ (8 + 7 * c) K = 0 then 1 else 2 := by unfold wdN; rw [if_pos h_12]
                refine j_istore6 G dX2_takeFirstWay_55 (by decide) rfl ?_
                refine j_iload G dX2_takeFirstWay_57 rfl ?_
                refine j_if_ge G dX2_takeFirstWay_59 (tgt := 86) (by decide) (by omega) (fun c_59 => ?_) (fun c_59 => ?_)
                · refine j_iconst G dX2_takeFirstWay_86 ?_
                  refine j_istore7 G dX2_takeFirstWay_87 (by decide) rfl ?_
                  refine j_pc (p2 := 89) rfl ?_
                  refine j_weak (ls' := [some (rf (EC x) 48), some (rf (EC x) (2 + 7 * c)), some (rf (EC x) 39), some (iv n), some (iv p), some (iv (12 - ((f + 1 : Nat) : Int))), some (iv K), some (iv ((0 : Nat) : Int))]) ?_ ⟨rfl, rfl, rfl, rfl, rfl, rfl, rfl, rfl, trivial⟩
                  refine down (Pr := fun i => ∀ τ3 : MemT, Ons (fun j => j = 50 ∨ j = 51) τ2 τ3 → RwI (τ3 50 1) (τ3 51) (D ++ lsF (fun i => σ (5 + 7 * c) (4 * (K : Int) + i)) i) → JJ (EC x) X 3 (fun r τ2 => r = none ∧ Ons (fun j => j = 50 ∨ j = 51) τ τ2 ∧ RwI (τ2 50 1) (τ2 51) (rdL σ c (dtx σ) n 12 0) ∧ (rdL σ c (dtx σ) n 12 0).length ≤ 48) 8 89 [some (rf (EC x) 48), some (rf (EC x) (2 + 7 * c)), some (rf (EC x) 39), some (iv n), some (iv p), some (iv (12 - ((f + 1 : Nat) : Int))), some (iv K), some (iv i)] [] τ3) z ?_ 0 (Nat.zero_le _) τ2 (Ons.rf _ _) (by rw [show lsF (fun i => σ (5 + 7 * c) (4 * (K : Int) + i)) 0 = [] from rfl, List.append_nil]; exact h_R)
                  intro i h_i ih2 τ3 h_o4 h_R4
                  have h_z2i := h_z2 i (by omega)
                  have h_on3 : ∀ j, (3 + 7 * c ≤ j ∧ j ≤ 8 + 7 * c) → τ3 j = σ j := fun j h_j => (h_o4 j (by omega)).trans (h_o3 j (Or.inl h_j))
                  have h_len : (D ++ lsF (fun i => σ (5 + 7 * c) (4 * (K : Int) + i)) i).length ≤ 44 + i := by rw [List.length_append, lsF_len]; omega
                  refine j_iload G dX2_takeFirstWay_89 rfl ?_
                  first | refine j_aload_n G dX2_takeFirstWay_91 rfl ?_ | refine j_aload_nN G dX2_takeFirstWay_91 rfl ?_
                  refine j_getr G fl_X2_43 dX2_takeFirstWay_92 (by first | assumption | rfl) (by rfl) ?_
                  refine j_getr G fl_X2_81 dX2_takeFirstWay_95 (by first | assumption | rfl) (by rfl) ?_
                  refine j_iload G dX2_takeFirstWay_98 rfl ?_
                  refine j_iaload G dX2_takeFirstWay_100 (by first | assumption | rfl) (by omega) (fun r_100 => ?_)
                  try simp (disch := omega) only [up_same, up_cell, up_idx, cpm_at, fil_at] at r_100 ⊢
                  rw [h_on3 (6 + 7 * c) (by omega), h_z6]
                  refine j_icmp_ge G dX2_takeFirstWay_101 (tgt := 133) (by decide) (by omega) (by omega) (fun c_101 => ?_) (fun c_101 => ?_)
                  · obtain rfl : i = z := by omega
                    rw [← h_LL] at h_R4
                    refine j_iload G dX2_takeFirstWay_133 rfl ?_
                    first | refine j_aload_n G dX2_takeFirstWay_135 rfl ?_ | refine j_aload_nN G dX2_takeFirstWay_135 rfl ?_
                    refine j_iload G dX2_takeFirstWay_136 rfl ?_
                    refine j_callV G mv_X2_87 dX2_takeFirstWay_138 (c_cellsOf c K h_c h_12) (by first | assumption | rfl) (by decide) (by rfl) rfl rfl (by exact Nat.le_of_ble_eq_true rfl) (by decide) (kI ?_)
                    rw [h_on3 (8 + 7 * c) (by omega)]
                    refine j_iadd G dX2_takeFirstWay_141 ?_
                    rw [show (p : Int) + (if σ (8 + 7 * c) K = 0 then 1 else 2) = ((p + wdN σ c K : Nat) : Int) from by rw [h_wd]; split <;> omega]
                    refine j_istore4 G dX2_takeFirstWay_142 (by decide) rfl ?_
                    refine j_iinc5 G dX2_takeFirstWay_144 (by decide) rfl rfl ?_
                    refine j_goto G dX2_takeFirstWay_147 (tgt := 24) (by decide) ?_
                    refine j_pc (p2 := 24) rfl ?_
                    rw [h_st]
                    exact j_weak (h_go τ3 h_o4 h_R4) ⟨rfl, rfl, rfl, rfl, rfl, rfl, trivial⟩
                  · first | refine j_aload_n G dX2_takeFirstWay_104 rfl ?_ | refine j_aload_nN G dX2_takeFirstWay_104 rfl ?_
                    refine j_getr G fl_X2_20 dX2_takeFirstWay_105 (by first | assumption | rfl) (by rfl) ?_
                    first | refine j_aload_n G dX2_takeFirstWay_108 rfl ?_ | refine j_aload_nN G dX2_takeFirstWay_108 rfl ?_
                    refine j_getr G fl_X2_43 dX2_takeFirstWay_109 (by first | assumption | rfl) (by rfl) ?_
                    refine j_getr G fl_X2_84 dX2_takeFirstWay_112 (by first | assumption | rfl) (by rfl) ?_
                    refine j_iload G dX2_takeFirstWay_115 rfl ?_
                    refine j_iconst G dX2_takeFirstWay_117 ?_
                    refine j_imul G dX2_takeFirstWay_118 ?_
                    rw [Int.mul_comm (K : Int) 4]
                    refine j_iload G dX2_takeFirstWay_119 rfl ?_
                    refine j_iadd G dX2_takeFirstWay_121 ?_
                    refine j_iaload G dX2_takeFirstWay_122 (by first | assumption | rfl) (by omega) (fun r_122 => ?_)
                    try simp (disch := omega) only [up_same, up_cell, up_idx, cpm_at, fil_at] at r_122 ⊢
                    refine j_pc (p2 := 123) rfl ?_
                    rw [h_on3 (5 + 7 * c) (by omega)]
                    refine j_callV G mv_X2_78 dX2_takeFirstWay_123 (p_addR 50 51 48 (σ (5 + 7 * c) (4 * (K : Int) + i)) _ (by omega) rfl rfl (by decide) h_R4 (by omega)) (by first | assumption | rfl) (by decide) (by rfl) rfl rfl (by exact Nat.le_of_ble_eq_true rfl) (by decide) (kP (fun y1 τ4 h_y1 => ?_))
                    refine j_pop G dX2_takeFirstWay_126 rfl ?_
                    refine j_iinc7 G dX2_takeFirstWay_127 (by decide) rfl rfl ?_
                    refine j_goto G dX2_takeFirstWay_130 (tgt := 89) (by decide) ?_
                    refine j_pc (p2 := 89) rfl ?_
                    exact ih2 (by omega) τ4 (h_o4.tr h_y1.1) (by rw [show lsF (fun i => σ (5 + 7 * c) (4 * (K : Int) + i)) (i + 1) = lsF (fun i => σ (5 + 7 * c) (4 * (K : Int) + i)) i ++ [σ (5 + 7 * c) (4 * (K : Int) + (i : Nat))] from rfl, ← List.append_assoc]; exact h_y1.2)
                · omega
              obtain ⟨l, rfl⟩ : ∃ l, K = 12 + l := ⟨K - 12, by omega⟩
              rw [if_neg h_12]
              have h_wd := wdN_l σ c l
              have h_LL : ltL σ c (12 + l) = [(l : Int)] := by unfold ltL; rw [if_neg h_12, show ((12 + l : Nat) : Int) - 12 = l by omega]
              rw [rdF_l] at h_k2
              have h_k7 := of_decide_eq_true h_k2
              have h_dp : 1 ≤ dtx σ p ∧ dtx σ p ≤ 63 := h_p4 p (by omega) (by omega)
              have h_k8 : ∀ j : Nat, j < l → σ (3 + 7 * c) j ≠ dtx σ p := fun j h_j h_e => by
                have h_9 := h_k5 (12 + j) (by omega)
                unfold qR at h_9
                rw [rdF_l, wdN_l, decide_eq_true h_e, Bool.true_and, decide_eq_false_iff_not] at h_9
                rw [h_wd] at h_k3
                exact h_9 h_k3
              refine j_istore6 G dX2_takeFirstWay_55 (by decide) rfl ?_
              refine j_iload G dX2_takeFirstWay_57 rfl ?_
              refine j_if_ge G dX2_takeFirstWay_59 (tgt := 86) (by decide) (by omega) (fun c_59 => ?_) (fun c_59 => ?_)
              · omega
              · first | refine j_aload_n G dX2_takeFirstWay_62 rfl ?_ | refine j_aload_nN G dX2_takeFirstWay_62 rfl ?_
                refine j_getr G fl_X2_20 dX2_takeFirstWay_63 (by first | assumption | rfl) (by rfl) ?_
                first | refine j_aload_n G dX2_takeFirstWay_66 rfl ?_ | refine j_aload_nN G dX2_takeFirstWay_66 rfl ?_
                first | refine j_aload_n G dX2_takeFirstWay_67 rfl ?_ | refine j_aload_nN G dX2_takeFirstWay_67 rfl ?_
                refine j_iload G dX2_takeFirstWay_68 rfl ?_
                refine j_callV G mv_X2_58 dX2_takeFirstWay_70 (p_at 39 40 12 p (by omega) rfl rfl (by decide) (by rw [h_o3 39 (by omega)]; omega)) (by first | assumption | rfl) (by decide) (by rfl) rfl rfl (by exact Nat.le_of_ble_eq_true rfl) (by decide) (kI ?_)
                rw [show (if 0 ≤ (p : Int) ∧ (p : Int) < τ2 39 1 then τ2 40 (p : Int) else -6) = dtx σ p from by rw [if_pos (by rw [h_o3 39 (by omega)]; omega), h_o3 40 (by omega)]; rfl]
                refine j_callS G ms_X2_74 dX2_takeFirstWay_73 (k_firstLetter c l (dtx σ p) h_c (by omega) (by omega) (by rw [h_o3 (3 + 7 * c) (by omega)]; exact h_k7) (fun j h_j => by rw [h_o3 (3 + 7 * c) (by omega)]; exact h_k8 j h_j)) rfl rfl (by exact Nat.le_of_ble_eq_true rfl) (by decide) (kI ?_)
                refine j_callV G mv_X2_78 dX2_takeFirstWay_76 (p_addR 50 51 48 (l : Int) D (by omega) rfl rfl (by decide) h_R (by omega)) (by first | assumption | rfl) (by decide) (by rfl) rfl rfl (by exact Nat.le_of_ble_eq_true rfl) (by decide) (kP (fun y1 τ4 h_y1 => ?_))
                refine j_pop G dX2_takeFirstWay_79 rfl ?_
                refine j_iinc4 G dX2_takeFirstWay_80 (by decide) rfl rfl ?_
                refine j_goto G dX2_takeFirstWay_83 (tgt := 144) (by decide) ?_
                refine j_pc (p2 := 144) rfl ?_
                refine j_iinc5 G dX2_takeFirstWay_144 (by decide) rfl rfl ?_
                refine j_goto G dX2_takeFirstWay_147 (tgt := 24) (by decide) ?_
                refine j_pc (p2 := 24) rfl ?_
                rw [h_st]
                rw [h_LL, h_wd] at h_go
                exact j_weak (h_go τ4 h_y1.1 h_y1.2) ⟨rfl, rfl, rfl, rfl, rfl, rfl, trivial⟩
  have h_50 : Ons (fun j => j = 50 ∨ j = 51) τ (up τ 50 1 0) := (Ons.rf _ _).up (Or.inl rfl)
  have h_39 : τ 39 1 = n := by rw [h_o 39 (by omega)]; exact h_n
  first | refine j_aload_n G dX2_takeFirstWay_0 rfl ?_ | refine j_aload_nN G dX2_takeFirstWay_0 rfl ?_
  refine j_getr G fl_X2_20 dX2_takeFirstWay_1 (by first | assumption | rfl) (by rfl) ?_
  refine j_callV G mv_X2_66 dX2_takeFirstWay_4 (p_empty 50 51 48 rfl) (by first | assumption | rfl) (by decide) (by rfl) rfl rfl (by exact Nat.le_of_ble_eq_true rfl) (by decide) (kI ?_)
  refine j_pop G dX2_takeFirstWay_7 rfl ?_
  first | refine j_aload_n G dX2_takeFirstWay_8 rfl ?_ | refine j_aload_nN G dX2_takeFirstWay_8 rfl ?_
  refine j_geti G fl_X2_33 dX2_takeFirstWay_9 1 rfl (by first | assumption | rfl) (by rfl) (fun r_9 => ?_)
  try simp (disch := omega) only [up_same, up_cell, up_idx, cpm_at, fil_at] at r_9 ⊢
  refine j_bipush G dX2_takeFirstWay_12 (by decide) ?_
  refine j_min G ms_X2_37 dX2_takeFirstWay_14 (by omega) (by omega) (by decide) (by exact Nat.le_of_ble_eq_true rfl) ?_
  rw [h_39, show min ((n : Nat) : Int) 12 = n by omega]
  refine j_istore3 G dX2_takeFirstWay_17 (by decide) rfl ?_
  refine j_iconst G dX2_takeFirstWay_18 ?_
  refine j_istore4 G dX2_takeFirstWay_19 (by decide) rfl ?_
  refine j_pc (p2 := 21) rfl ?_
  refine j_iconst G dX2_takeFirstWay_21 ?_
  refine j_istore5 G dX2_takeFirstWay_22 (by decide) rfl ?_
  refine j_pc (p2 := 24) rfl ?_
  by_cases h_00 : 0 < cA σ c (dtx σ) n 0
  · exact j_weak (h_lp h_00 12 (by omega) 0 [] _ (by omega) (by omega) h_50 h_00 ⟨up_same _ _ _ _, fun i h_i => absurd h_i (Nat.not_lt_zero _)⟩ (by decide) rfl) ⟨rfl, rfl, rfl, rfl, rfl, rfl, trivial⟩
  · have h_W : rdW σ c n = [] := if_neg h_00
    rw [h_W]
    have h_c0 := h_cr 0 (by omega)
    have h_v0 : τ 49 0 = cA σ c (dtx σ) n 0 := h_v 0 (by omega)
    · refine j_iload G dX2_takeFirstWay_24 rfl ?_
      refine j_bipush G dX2_takeFirstWay_26 (by decide) ?_
      refine j_icmp_ge G dX2_takeFirstWay_28 (tgt := 150) (by decide) (by omega) (by omega) (fun c_28 => ?_) (fun c_28 => ?_)
      · refine j_return G dX2_takeFirstWay_150 ?_
        exact ⟨rfl, h_50, ⟨up_same _ _ _ _, fun i h_i => absurd h_i (Nat.not_lt_zero _)⟩, by decide⟩
      · refine j_iload G dX2_takeFirstWay_31 rfl ?_
        refine j_iload_n G dX2_takeFirstWay_33 rfl ?_
        refine j_icmp_ge G dX2_takeFirstWay_34 (tgt := 150) (by decide) (by omega) (by omega) (fun c_34 => ?_) (fun c_34 => ?_)
        · refine j_return G dX2_takeFirstWay_150 ?_
          exact ⟨rfl, h_50, ⟨up_same _ _ _ _, fun i h_i => absurd h_i (Nat.not_lt_zero _)⟩, by decide⟩
        · first | refine j_aload_n G dX2_takeFirstWay_37 rfl ?_ | refine j_aload_nN G dX2_takeFirstWay_37 rfl ?_
          refine j_getr G fl_X2_9 dX2_takeFirstWay_38 (by first | assumption | rfl) (by rfl) ?_
          refine j_iload G dX2_takeFirstWay_41 rfl ?_
          refine j_iaload G dX2_takeFirstWay_43 (by first | assumption | rfl) (by omega) (fun r_43 => ?_)
          try simp (disch := omega) only [up_same, up_cell, up_idx, cpm_at, fil_at] at r_43 ⊢
          rw [h_v0]
          refine j_if_le G dX2_takeFirstWay_44 (tgt := 150) (by decide) (by omega) (fun c_44 => ?_) (fun c_44 => ?_)
          · refine j_return G dX2_takeFirstWay_150 ?_
            exact ⟨rfl, h_50, ⟨up_same _ _ _ _, fun i h_i => absurd h_i (Nat.not_lt_zero _)⟩, by decide⟩
          · omega
def reaS (σ : MemT) (c n : Nat) (i : Int) : Int := if i = -1 then cA σ c (dtx σ) n 0 else if i = -2 then (rdW σ c n).length else rowAt (rdW σ c n) i
theorem c_read (c n : Nat) (i : Int) (h_i : (-2147483648 ≤ i ∧ i < 2147483648)) (h_c : c < 5) (h_w : WfCode σ c) (h_pd : WfPad σ) (h_n : σ 39 1 = n) : CT (EC x) 4 yX11_read [rf (EC x) 0, iv c, iv i] σ (rP (fun z τ => z = reaS σ c n i ∧ KC σ τ)) := by
  have h_cr := cA_rg σ c (dtx σ) n 0 (by omega)
  unfold reaS
  refine CT.ofJ (own := RX11) (cc := cX11_read) (n := 5) (ret := (some .int)) (by decide) rfl cw_X11_read (by decide) (Nat.le_of_ble_eq_true rfl) (ls := [some (rf (EC x) 0), some (iv c), some (iv i), none, none]) rfl ?_
  intro X G
  first | refine j_aload_n G dX11_read_0 rfl ?_ | refine j_aload_nN G dX11_read_0 rfl ?_
  refine j_iload_n G dX11_read_1 rfl ?_
  refine j_callV G mv_X11_88 dX11_read_2 (c_codeAt c h_c) (by first | assumption | rfl) (by decide) (by rfl) rfl rfl (by exact Nat.le_of_ble_eq_true rfl) (by decide) (kV ?_)
  first | refine j_astore3 G dX11_read_5 (by decide) rfl ?_ | refine j_astoreN3 G dX11_read_5 (by decide) rfl ?_
  first | refine j_aload_n G dX11_read_6 rfl ?_ | refine j_aload_nN G dX11_read_6 rfl ?_
  refine j_ifnonnull G dX11_read_7 (tgt := 12) (by decide) ?_
  first | refine j_aload_n G dX11_read_12 rfl ?_ | refine j_aload_nN G dX11_read_12 rfl ?_
  refine j_getr G fl_X11_41 dX11_read_13 (by first | assumption | rfl) (by rfl) ?_
  first | refine j_aload_n G dX11_read_16 rfl ?_ | refine j_aload_nN G dX11_read_16 rfl ?_
  first | refine j_aload_n G dX11_read_17 rfl ?_ | refine j_aload_nN G dX11_read_17 rfl ?_
  refine j_getr G fl_X11_25 dX11_read_18 (by first | assumption | rfl) (by rfl) ?_
  refine j_pc (p2 := 21) rfl ?_
  refine j_callV G mv_X11_139 dX11_read_21 (c_countWays c n h_c h_w h_pd h_n) (by first | assumption | rfl) (by decide) (by rfl) rfl rfl (by exact Nat.le_of_ble_eq_true rfl) (by decide) (kP (fun y τ h_y => ?_))
  obtain ⟨rfl, h_o, h_v⟩ := h_y
  have h_kc : KC σ τ := h_o.wk (fun j h => by unfold scC; omega)
  refine j_istore4 G dX11_read_24 (by decide) rfl ?_
  refine j_iload_n G dX11_read_26 rfl ?_
  refine j_iconst G dX11_read_27 ?_
  refine j_icmp_ne G dX11_read_28 (tgt := 34) (by decide) (by omega) (by omega) (fun c_28 => ?_) (fun c_28 => ?_)
  · first | refine j_aload_n G dX11_read_34 rfl ?_ | refine j_aload_nN G dX11_read_34 rfl ?_
    refine j_getr G fl_X11_41 dX11_read_35 (by first | assumption | rfl) (by rfl) ?_
    first | refine j_aload_n G dX11_read_38 rfl ?_ | refine j_aload_nN G dX11_read_38 rfl ?_
    first | refine j_aload_n G dX11_read_39 rfl ?_ | refine j_aload_nN G dX11_read_39 rfl ?_
    refine j_getr G fl_X11_25 dX11_read_40 (by first | assumption | rfl) (by rfl) ?_
    refine j_callV G mv_X11_143 dX11_read_43 (c_takeFirstWay c n (fun j h_j => h_o j (by omega)) h_c h_w h_pd h_n h_v) (by first | assumption | rfl) (by decide) (by rfl) rfl rfl (by exact Nat.le_of_ble_eq_true rfl) (by decide) (kM (fun τ2 h_2 => ?_))
    obtain ⟨h_o2, h_R, h_l⟩ := h_2
    have h_kc2 : KC σ τ2 := h_kc.tr (h_o2.wk (fun j h => by unfold scC; omega))
    have h_R1 := h_R.1
    refine j_iload_n G dX11_read_46 rfl ?_
    refine j_bipush G dX11_read_47 (by decide) ?_
    refine j_icmp_ne G dX11_read_49 (tgt := 65) (by decide) (by omega) (by omega) (fun c_49 => ?_) (fun c_49 => ?_)
    · first | refine j_aload_n G dX11_read_65 rfl ?_ | refine j_aload_nN G dX11_read_65 rfl ?_
      refine j_getr G fl_X11_41 dX11_read_66 (by first | assumption | rfl) (by rfl) ?_
      refine j_getr G fl_X11_147 dX11_read_69 (by first | assumption | rfl) (by rfl) ?_
      refine j_iload_n G dX11_read_72 rfl ?_
      refine j_callV G mv_X11_136 dX11_read_73 (p_at 50 51 48 i h_i rfl rfl (by decide) (by omega)) (by first | assumption | rfl) (by decide) (by rfl) rfl rfl (by exact Nat.le_of_ble_eq_true rfl) (by decide) (kI ?_)
      refine j_ireturn G dX11_read_76 ?_
      first
      | exact ⟨_, rfl, by rw [if_pos (by omega)], h_kc⟩
      | exact ⟨_, rfl, by rw [if_neg (by omega), if_pos (by omega)]; exact h_R1, h_kc2⟩
      | exact ⟨_, rfl, by rw [h_R.at, if_neg (by omega), if_neg (by omega)], h_kc2⟩
    · first | refine j_aload_n G dX11_read_52 rfl ?_ | refine j_aload_nN G dX11_read_52 rfl ?_
      refine j_getr G fl_X11_41 dX11_read_53 (by first | assumption | rfl) (by rfl) ?_
      refine j_getr G fl_X11_147 dX11_read_56 (by first | assumption | rfl) (by rfl) ?_
      refine j_geti G fl_X11_119 dX11_read_59 1 rfl (by first | assumption | rfl) (by rfl) (fun r_59 => ?_)
      try simp (disch := omega) only [up_same, up_cell, up_idx, cpm_at, fil_at] at r_59 ⊢
      refine j_goto G dX11_read_62 (tgt := 76) (by decide) ?_
      refine j_ireturn G dX11_read_76 ?_
      first
      | exact ⟨_, rfl, by rw [if_pos (by omega)], h_kc⟩
      | exact ⟨_, rfl, by rw [if_neg (by omega), if_pos (by omega)]; exact h_R1, h_kc2⟩
      | exact ⟨_, rfl, by rw [h_R.at, if_neg (by omega), if_neg (by omega)], h_kc2⟩
  · refine j_iload G dX11_read_31 rfl ?_
    refine j_ireturn G dX11_read_33 ?_
    first
    | exact ⟨_, rfl, by rw [if_pos (by omega)], h_kc⟩
    | exact ⟨_, rfl, by rw [if_neg (by omega), if_pos (by omega)]; exact h_R1, h_kc2⟩
    | exact ⟨_, rfl, by rw [h_R.at, if_neg (by omega), if_neg (by omega)], h_kc2⟩
theorem c_readN (c i : Int) (h_1 : (-2147483648 ≤ c ∧ c < 2147483648)) (h_c : ¬ (0 ≤ c ∧ c ≤ 4)) : CT (EC x) 4 yX11_read [rf (EC x) 0, iv c, iv i] σ (rI (-1) σ) := by
  refine CT.ofJ (own := RX11) (cc := cX11_read) (n := 5) (ret := (some .int)) (by decide) rfl cw_X11_read (by decide) (Nat.le_of_ble_eq_true rfl) (ls := [some (rf (EC x) 0), some (iv c), some (iv i), none, none]) rfl ?_
  intro X G
  first | refine j_aload_n G dX11_read_0 rfl ?_ | refine j_aload_nN G dX11_read_0 rfl ?_
  refine j_iload_n G dX11_read_1 rfl ?_
  refine j_callV G mv_X11_88 dX11_read_2 (c_codeAtN c h_1 h_c) (by first | assumption | rfl) (by decide) (by rfl) rfl rfl (by exact Nat.le_of_ble_eq_true rfl) (by decide) (kV ?_)
  first | refine j_astore3 G dX11_read_5 (by decide) rfl ?_ | refine j_astoreN3 G dX11_read_5 (by decide) rfl ?_
  first | refine j_aload_n G dX11_read_6 rfl ?_ | refine j_aload_nN G dX11_read_6 rfl ?_
  refine j_ifnonnullN G dX11_read_7 ?_
  refine j_iconst G dX11_read_10 ?_
  refine j_ireturn G dX11_read_11 ?_
  exact ⟨rfl, rfl⟩
end RF
