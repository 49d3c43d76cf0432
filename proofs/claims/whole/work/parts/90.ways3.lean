theorem lsM_cg {P P2 : Nat → Bool} {g g2 : Nat → Int} {i0 : Int} : ∀ m, (∀ s, s < m → P s = P2 s ∧ g s = g2 s) → lsM P g i0 m = lsM P2 g2 i0 m
  | 0, _ => rfl
  | m + 1, h => by
    rw [lsM_s, lsM_s, lsM_cg m (fun s h_s => h s (by omega)), (h m (by omega)).1, (h m (by omega)).2]
theorem fsB_eq {q : Nat → Bool} {m k : Nat} (h_k : k < m) (h_q : q k = true) (h_n : ∀ j, j < k → ¬ q j = true) : fsB q m = k := by
  obtain ⟨h_1, h_2, h_3⟩ := fsB_is m (anyB_iff.2 ⟨k, h_k, h_q⟩)
  rcases Nat.lt_trichotomy (fsB q m) k with h | h | h
  · exact absurd h_2 (h_n _ h)
  · exact h
  · rw [h_3 k h] at h_q
    exact absurd h_q (by decide)
theorem far_st {w : TW} (h_w : TWok w) {n : Nat} (h : mnS w n) {g : Nat → Int} (h_g : FarOk w 12 g) {s : Nat} (h_s : s < tm w) (h_b : tB w s ≠ 0) (h_a : 0 < sg w (tA w s)) : g (tB w s) = n ↔ comB w n (tB w s) = true := by
  have h_12 := mnS_12 h_w h
  have h_64 := (h_w.2.1 s h_s).2
  obtain ⟨h_1, h_2, h_3⟩ := h_g _ h_64
  constructor
  · intro h_4
    have := h_2 (by omega)
    rw [h_4, Int.toNat_natCast] at this
    exact this
  · intro h_4
    have h_5 := far_d h_w h_g h_64 h_4
    by_cases h_6 : g (tB w s) < n
    · exact absurd ((st_s h_w).2 ⟨s, h_s, h_b, h_a, h_2 (by omega)⟩) (h.2 _ (by omega))
    · omega
theorem ls_start {w : TW} (h_w : TWok w) {n : Nat} (h : mnS w n) {g : Nat → Int} (h_g : FarOk w 12 g) : lsM (fun s => decide (tB w s ≠ 0 ∧ 0 < sg w (tA w s) ∧ g (tB w s) + 1 = ((n + 1 : Nat) : Int))) (fun s => (tA w s : Int)) 64 (tm w) = (c0T w (n + 1) : Nat) := by
  refine lsM_fs (M := 64) (fun v h_v => ?_) (fun s h_s _ => (h_w.2.1 s h_s).1.2) h.1
  rw [Bool.and_eq_true, decide_eq_true_eq, com_s h_w]
  constructor
  · rintro ⟨h_0, s, h_1, h_2, h_3, h_4⟩
    refine ⟨s, h_1, decide_eq_true ⟨h_2, by rw [h_3]; exact h_0, ?_⟩, h_3⟩
    have := (far_st h_w h h_g h_1 h_2 (by rw [h_3]; exact h_0)).2 h_4
    omega
  · rintro ⟨s, h_1, h_2, h_3⟩
    obtain ⟨h_4, h_5, h_6⟩ := of_decide_eq_true h_2
    exact ⟨by rw [← h_3]; exact h_5, s, h_1, h_4, h_3, (far_st h_w h h_g h_1 h_4 h_5).1 (by omega)⟩
theorem ls_next {w : TW} (h_w : TWok w) {j v : Nat} (h : Inv w j v) (h_j : j ≤ 900) {g : Nat → Int} (h_g : FarOk w 12 g) : lsM (fun s => decide (tB w s ≠ 0 ∧ tA w s = v ∧ g (tB w s) = (j : Int))) (fun s => (tB w s : Int)) 64 (tm w) = (nxT w j v : Nat) := by
  refine lsM_fs (M := 64) (fun e h_e => ?_) (fun s h_s _ => (h_w.2.1 s h_s).2) (h.any h_w)
  rw [Bool.and_eq_true, decide_eq_true_eq, db_pos h_w]
  constructor
  · rintro ⟨⟨s, h_1, h_2, h_3, h_4⟩, h_5⟩
    exact ⟨s, h_1, decide_eq_true ⟨h_2, h_3, (h.com h_w h_g h_1 h_2 h_3 h_j).2 (by rw [h_4]; exact h_5)⟩, h_4⟩
  · rintro ⟨s, h_1, h_2, h_3⟩
    obtain ⟨h_4, h_5, h_6⟩ := of_decide_eq_true h_2
    exact ⟨⟨s, h_1, h_4, h_5, h_3⟩, by rw [← h_3]; exact (h.com h_w h_g h_1 h_4 h_5 h_j).1 h_6⟩
def lkM (w : TW) (g : Nat → Int) (m : Nat) : Int := lsM (fun s => decide (tB w s ≠ 0 ∧ 0 < sg w (tA w s))) (fun s => g (tB w s) + 1) 1000 m
/-- how long the least chain is -/
theorem lk_is {w : TW} (h_w : TWok w) {g : Nat → Int} (h_g : FarOk w 12 g) : (lkM w g (tm w) = 1000 ∧ ¬ anyB (fun n => stB w (n + 1)) 14 = true) ∨ ∃ n : Nat, n ≤ 11 ∧ lkM w g (tm w) = (n : Int) + 1 ∧ mnS w n ∧ anyB (fun n => stB w (n + 1)) 14 = true ∧ fsB (fun n => stB w (n + 1)) 14 = n := by
  have h_up : ∀ n : Nat, stB w (n + 1) = true → lkM w g (tm w) ≤ (n : Int) + 1 := fun n h_n => by
    obtain ⟨s, h_1, h_2, h_3, h_4⟩ := (st_s h_w).1 h_n
    have h_5 := far_d h_w h_g (h_w.2.1 s h_1).2 h_4
    have h_6 : lkM w g (tm w) ≤ g (tB w s) + 1 := (lsM_le (P := fun s => decide (tB w s ≠ 0 ∧ 0 < sg w (tA w s))) (g := fun s => g (tB w s) + 1) (i0 := 1000) (tm w)).2 s h_1 (decide_eq_true ⟨h_2, h_3⟩)
    omega
  by_cases h_0 : lkM w g (tm w) < 1000
  · rcases lsM_is (P := fun s => decide (tB w s ≠ 0 ∧ 0 < sg w (tA w s))) (g := fun s => g (tB w s) + 1) (i0 := 1000) (tm w) with h_1 | ⟨s, h_1, h_2, h_3⟩
    · have h_2 : lkM w g (tm w) = 1000 := h_1
      omega
    · have h_4 : lkM w g (tm w) = g (tB w s) + 1 := h_3
      obtain ⟨h_5, h_6⟩ := of_decide_eq_true h_2
      have h_64 := (h_w.2.1 s h_1).2
      obtain ⟨h_7, h_8, h_9⟩ := h_g _ h_64
      obtain ⟨n, h_n⟩ : ∃ n : Nat, g (tB w s) = n := ⟨(g (tB w s)).toNat, by omega⟩
      have h_10 := h_8 (by omega)
      rw [h_n, Int.toNat_natCast] at h_10
      have h_11 : stB w (n + 1) = true := (st_s h_w).2 ⟨s, h_1, h_5, h_6, h_10⟩
      have h_12 : mnS w n := ⟨h_11, fun j h_j h_13 => by
        have := h_up j h_13
        omega⟩
      have h_13 := mnS_12 h_w h_12
      exact Or.inr ⟨n, by omega, by omega, h_12, anyB_iff.2 ⟨n, by omega, h_11⟩, fsB_eq (by omega) h_11 h_12.2⟩
  · have h_1 := (lsM_le (P := fun s => decide (tB w s ≠ 0 ∧ 0 < sg w (tA w s))) (g := fun s => g (tB w s) + 1) (i0 := 1000) (tm w)).1
    have h_2 : lkM w g (tm w) ≤ 1000 := h_1
    refine Or.inl ⟨by omega, fun h_3 => ?_⟩
    obtain ⟨n, h_4, h_5⟩ := anyB_iff.1 h_3
    have := h_up n h_5
    omega
section TZ
variable {E : EE} {x x1 x2 : CX} {μ σ : MemT} {w : TW}
theorem c_leastStart (c n : Nat) (g : Nat → Int) (h_c : c < 5) (h_w : TWok w) (h_t : TC σ c w) (h_s : ∀ v : Nat, v < 64 → σ 52 v = sg w v) (h_f : ∀ v : Nat, v < 64 → σ 53 v = g v) (h_g : FarOk w 12 g) (h : mnS w n) : CT (EC x) 1 yX2_leastStart [rf (EC x) 48, rf (EC x) (2 + 7 * c), iv ((n + 1 : Nat) : Int)] σ (rI (c0T w (n + 1) : Nat) σ) := by
  obtain ⟨h_y1, h_y2, h_y3, h_y4, h_y5, h_y6, h_y7⟩ := ly_code (x := x) h_c
  obtain ⟨h_w1, h_w2, h_w3⟩ := id h_w
  have h_12 := mnS_12 h_w h
  rw [← ls_start h_w h h_g]
  refine CT.ofJ (own := RX2) (cc := cX2_leastStart) (n := 6) (ret := (some .int)) (by decide) rfl cw_X2_leastStart (by decide) (Nat.le_of_ble_eq_true rfl) (ls := [some (rf (EC x) 48), some (rf (EC x) (2 + 7 * c)), some (iv ((n + 1 : Nat) : Int)), none, none, none]) rfl ?_
  intro X G
  generalize h_PP : (fun s => decide (tB w s ≠ 0 ∧ 0 < sg w (tA w s) ∧ g (tB w s) + 1 = ((n + 1 : Nat) : Int))) = P
  refine j_bipush G dX2_leastStart_0 (by decide) ?_
  refine j_istore3 G dX2_leastStart_2 (by decide) rfl ?_
  refine j_iconst G dX2_leastStart_3 ?_
  refine j_istore4 G dX2_leastStart_4 (by decide) rfl ?_
  refine j_pc (p2 := 6) rfl ?_
  refine j_weak (ls' := [some (rf (EC x) 48), some (rf (EC x) (2 + 7 * c)), some (iv ((n + 1 : Nat) : Int)), some (iv (lsM P (fun s => (tA w s : Int)) 64 0)), some (iv ((0 : Nat) : Int)), none]) ?_ ⟨rfl, rfl, rfl, rfl, rfl, trivial⟩
  refine down (Pr := fun s => JJ (EC x) X 1 (rI (lsM P (fun s => (tA w s : Int)) 64 (tm w)) σ) 6 6 [some (rf (EC x) 48), some (rf (EC x) (2 + 7 * c)), some (iv ((n + 1 : Nat) : Int)), some (iv (lsM P (fun s => (tA w s : Int)) 64 s)), some (iv s), none] [] σ) (tm w) ?_ 0 (Nat.zero_le _)
  intro s h_ss ih
  have h_w2s := h_w2 s
  have h_ts := h_t.2.1 s
  have h_le := (lsM_le (P := P) (g := fun s => (tA w s : Int)) (i0 := 64) s).1
  have h_ge : 0 ≤ lsM P (fun s => (tA w s : Int)) 64 s := by
    rcases lsM_is (P := P) (g := fun s => (tA w s : Int)) (i0 := 64) s with h_1 | ⟨q, h_1, h_2, h_3⟩ <;> omega
  have h_Ps : P s = decide (tB w s ≠ 0 ∧ 0 < sg w (tA w s) ∧ g (tB w s) + 1 = ((n + 1 : Nat) : Int)) := by rw [← h_PP]
  have h_z : s < tm w → ∀ z : Int, z = (if P s = true then min (lsM P (fun s => (tA w s : Int)) 64 s) (tA w s) else lsM P (fun s => (tA w s : Int)) 64 s) → JJ (EC x) X 1 (rI (lsM P (fun s => (tA w s : Int)) 64 (tm w)) σ) 6 6 [some (rf (EC x) 48), some (rf (EC x) (2 + 7 * c)), some (iv ((n + 1 : Nat) : Int)), some (iv z), some (iv ((s + 1 : Nat) : Int)), none] [] σ := fun h_1 z h_2 => by
    rw [h_2]
    exact ih h_1
  refine j_iload G dX2_leastStart_6 rfl ?_
  first | refine j_aload_n G dX2_leastStart_8 rfl ?_ | refine j_aload_nN G dX2_leastStart_8 rfl ?_
  refine j_getr G fl_X2_43 dX2_leastStart_9 (by first | assumption | rfl) (by rfl) ?_
  refine j_geti G fl_X2_49 dX2_leastStart_12 3 rfl (by first | assumption | rfl) (by rfl) (fun r_12 => ?_)
  try simp (disch := omega) only [up_same, up_cell, up_idx, cpm_at, fil_at] at r_12 ⊢
  rw [h_t.1]
  refine j_icmp_ge G dX2_leastStart_15 (tgt := 78) (by decide) (by omega) (by omega) (fun c_15 => ?_) (fun c_15 => ?_)
  · refine j_iload_n G dX2_leastStart_78 rfl ?_
    refine j_ireturn G dX2_leastStart_79 ?_
    obtain rfl : s = tm w := by omega
    exact ⟨rfl, rfl⟩
  · obtain ⟨h_t1, h_t2⟩ := h_ts (by omega)
    obtain ⟨h_a, h_b⟩ := h_w2s (by omega)
    have h_fb := h_f (tB w s) h_b
    have h_sa := h_s (tA w s) h_a.2
    have h_gb := (h_g (tB w s) h_b).1
    first | refine j_aload_n G dX2_leastStart_18 rfl ?_ | refine j_aload_nN G dX2_leastStart_18 rfl ?_
    refine j_getr G fl_X2_113 dX2_leastStart_19 (by first | assumption | rfl) (by rfl) ?_
    refine j_iload G dX2_leastStart_22 rfl ?_
    refine j_iaload G dX2_leastStart_24 (by first | assumption | rfl) (by omega) (fun r_24 => ?_)
    try simp (disch := omega) only [up_same, up_cell, up_idx, cpm_at, fil_at] at r_24 ⊢
    rw [h_t1]
    refine j_istore5 G dX2_leastStart_25 (by decide) rfl ?_
    first | refine j_aload_n G dX2_leastStart_27 rfl ?_ | refine j_aload_nN G dX2_leastStart_27 rfl ?_
    refine j_getr G fl_X2_110 dX2_leastStart_28 (by first | assumption | rfl) (by rfl) ?_
    refine j_iload G dX2_leastStart_31 rfl ?_
    refine j_iaload G dX2_leastStart_33 (by first | assumption | rfl) (by omega) (fun r_33 => ?_)
    try simp (disch := omega) only [up_same, up_cell, up_idx, cpm_at, fil_at] at r_33 ⊢
    rw [h_t2]
    refine j_if_eq G dX2_leastStart_34 (tgt := 72) (by decide) (by omega) (fun c_34 => ?_) (fun c_34 => ?_)
    · refine j_iinc4 G dX2_leastStart_72 (by decide) rfl rfl ?_
      refine j_goto G dX2_leastStart_75 (tgt := 6) (by decide) ?_
      refine j_pc (p2 := 6) rfl ?_
      first
      | exact j_weak (h_z (by omega) _ (by rw [h_Ps, decide_eq_true ⟨by omega, by omega, by omega⟩, if_pos rfl])) ⟨rfl, rfl, rfl, rfl, rfl, trivial⟩
      | exact j_weak (h_z (by omega) _ (by rw [h_Ps, decide_eq_false (fun z => by omega), if_neg (by decide)])) ⟨rfl, rfl, rfl, rfl, rfl, trivial⟩
    · first | refine j_aload_n G dX2_leastStart_37 rfl ?_ | refine j_aload_nN G dX2_leastStart_37 rfl ?_
      refine j_getr G fl_X2_24 dX2_leastStart_38 (by first | assumption | rfl) (by rfl) ?_
      refine j_iload G dX2_leastStart_41 rfl ?_
      refine j_iaload G dX2_leastStart_43 (by first | assumption | rfl) (by omega) (fun r_43 => ?_)
      try simp (disch := omega) only [up_same, up_cell, up_idx, cpm_at, fil_at] at r_43 ⊢
      rw [h_sa] at *
      refine j_if_le G dX2_leastStart_44 (tgt := 72) (by decide) (by omega) (fun c_44 => ?_) (fun c_44 => ?_)
      · refine j_iinc4 G dX2_leastStart_72 (by decide) rfl rfl ?_
        refine j_goto G dX2_leastStart_75 (tgt := 6) (by decide) ?_
        refine j_pc (p2 := 6) rfl ?_
        first
        | exact j_weak (h_z (by omega) _ (by rw [h_Ps, decide_eq_true ⟨by omega, by omega, by omega⟩, if_pos rfl])) ⟨rfl, rfl, rfl, rfl, rfl, trivial⟩
        | exact j_weak (h_z (by omega) _ (by rw [h_Ps, decide_eq_false (fun z => by omega), if_neg (by decide)])) ⟨rfl, rfl, rfl, rfl, rfl, trivial⟩
      · first | refine j_aload_n G dX2_leastStart_47 rfl ?_ | refine j_aload_nN G dX2_leastStart_47 rfl ?_
        refine j_getr G fl_X2_27 dX2_leastStart_48 (by first | assumption | rfl) (by rfl) ?_
        first | refine j_aload_n G dX2_leastStart_51 rfl ?_ | refine j_aload_nN G dX2_leastStart_51 rfl ?_
        refine j_getr G fl_X2_110 dX2_leastStart_52 (by first | assumption | rfl) (by rfl) ?_
        refine j_iload G dX2_leastStart_55 rfl ?_
        refine j_iaload G dX2_leastStart_57 (by first | assumption | rfl) (by omega) (fun r_57 => ?_)
        try simp (disch := omega) only [up_same, up_cell, up_idx, cpm_at, fil_at] at r_57 ⊢
        rw [h_t2]
        refine j_iaload G dX2_leastStart_58 (by first | assumption | rfl) (by omega) (fun r_58 => ?_)
        try simp (disch := omega) only [up_same, up_cell, up_idx, cpm_at, fil_at] at r_58 ⊢
        rw [h_fb]
        refine j_iconst G dX2_leastStart_59 ?_
        refine j_iadd G dX2_leastStart_60 ?_
        refine j_iload_n G dX2_leastStart_61 rfl ?_
        refine j_icmp_ne G dX2_leastStart_62 (tgt := 72) (by decide) (by omega) (by omega) (fun c_62 => ?_) (fun c_62 => ?_)
        · refine j_iinc4 G dX2_leastStart_72 (by decide) rfl rfl ?_
          refine j_goto G dX2_leastStart_75 (tgt := 6) (by decide) ?_
          refine j_pc (p2 := 6) rfl ?_
          first
          | exact j_weak (h_z (by omega) _ (by rw [h_Ps, decide_eq_true ⟨by omega, by omega, by omega⟩, if_pos rfl])) ⟨rfl, rfl, rfl, rfl, rfl, trivial⟩
          | exact j_weak (h_z (by omega) _ (by rw [h_Ps, decide_eq_false (fun z => by omega), if_neg (by decide)])) ⟨rfl, rfl, rfl, rfl, rfl, trivial⟩
        · refine j_iload_n G dX2_leastStart_65 rfl ?_
          refine j_iload G dX2_leastStart_66 rfl ?_
          refine j_min G ms_X2_37 dX2_leastStart_68 (by omega) (by omega) (by decide) (by exact Nat.le_of_ble_eq_true rfl) ?_
          refine j_istore3 G dX2_leastStart_71 (by decide) rfl ?_
          refine j_iinc4 G dX2_leastStart_72 (by decide) rfl rfl ?_
          refine j_goto G dX2_leastStart_75 (tgt := 6) (by decide) ?_
          refine j_pc (p2 := 6) rfl ?_
          first
          | exact j_weak (h_z (by omega) _ (by rw [h_Ps, decide_eq_true ⟨by omega, by omega, by omega⟩, if_pos rfl])) ⟨rfl, rfl, rfl, rfl, rfl, trivial⟩
          | exact j_weak (h_z (by omega) _ (by rw [h_Ps, decide_eq_false (fun z => by omega), if_neg (by decide)])) ⟨rfl, rfl, rfl, rfl, rfl, trivial⟩
theorem c_leastNext (c j v : Nat) (g : Nat → Int) (h_c : c < 5) (h_w : TWok w) (h_t : TC σ c w) (h_f : ∀ v : Nat, v < 64 → σ 53 v = g v) (h_g : FarOk w 12 g) (h : Inv w j v) (h_j : j ≤ 900) : CT (EC x) 1 yX2_leastNext [rf (EC x) 48, rf (EC x) (2 + 7 * c), iv v, iv j] σ (rI (nxT w j v : Nat) σ) := by
  obtain ⟨h_y1, h_y2, h_y3, h_y4, h_y5, h_y6, h_y7⟩ := ly_code (x := x) h_c
  obtain ⟨h_w1, h_w2, h_w3⟩ := id h_w
  have h_v64 := h.1
  rw [← ls_next h_w h h_j h_g]
  refine CT.ofJ (own := RX2) (cc := cX2_leastNext) (n := 7) (ret := (some .int)) (by decide) rfl cw_X2_leastNext (by decide) (Nat.le_of_ble_eq_true rfl) (ls := [some (rf (EC x) 48), some (rf (EC x) (2 + 7 * c)), some (iv v), some (iv j), none, none, none]) rfl ?_
  intro X G
  generalize h_PP : (fun s => decide (tB w s ≠ 0 ∧ tA w s = v ∧ g (tB w s) = (j : Int))) = P
  refine j_bipush G dX2_leastNext_0 (by decide) ?_
  refine j_istore4 G dX2_leastNext_2 (by decide) rfl ?_
  refine j_iconst G dX2_leastNext_4 ?_
  refine j_istore5 G dX2_leastNext_5 (by decide) rfl ?_
  refine j_pc (p2 := 7) rfl ?_
  refine j_weak (ls' := [some (rf (EC x) 48), some (rf (EC x) (2 + 7 * c)), some (iv v), some (iv j), some (iv (lsM P (fun s => (tB w s : Int)) 64 0)), some (iv ((0 : Nat) : Int)), none]) ?_ ⟨rfl, rfl, rfl, rfl, rfl, rfl, trivial⟩
  refine down (Pr := fun s => JJ (EC x) X 1 (rI (lsM P (fun s => (tB w s : Int)) 64 (tm w)) σ) 7 7 [some (rf (EC x) 48), some (rf (EC x) (2 + 7 * c)), some (iv v), some (iv j), some (iv (lsM P (fun s => (tB w s : Int)) 64 s)), some (iv s), none] [] σ) (tm w) ?_ 0 (Nat.zero_le _)
  intro s h_ss ih
  have h_w2s := h_w2 s
  have h_ts := h_t.2.1 s
  have h_le := (lsM_le (P := P) (g := fun s => (tB w s : Int)) (i0 := 64) s).1
  have h_ge : 0 ≤ lsM P (fun s => (tB w s : Int)) 64 s := by
    rcases lsM_is (P := P) (g := fun s => (tB w s : Int)) (i0 := 64) s with h_1 | ⟨q, h_1, h_2, h_3⟩ <;> omega
  have h_Ps : P s = decide (tB w s ≠ 0 ∧ tA w s = v ∧ g (tB w s) = (j : Int)) := by rw [← h_PP]
  have h_z : s < tm w → ∀ z : Int, z = (if P s = true then min (lsM P (fun s => (tB w s : Int)) 64 s) (tB w s) else lsM P (fun s => (tB w s : Int)) 64 s) → JJ (EC x) X 1 (rI (lsM P (fun s => (tB w s : Int)) 64 (tm w)) σ) 7 7 [some (rf (EC x) 48), some (rf (EC x) (2 + 7 * c)), some (iv v), some (iv j), some (iv z), some (iv ((s + 1 : Nat) : Int)), none] [] σ := fun h_1 z h_2 => by
    rw [h_2]
    exact ih h_1
  refine j_iload G dX2_leastNext_7 rfl ?_
  first | refine j_aload_n G dX2_leastNext_9 rfl ?_ | refine j_aload_nN G dX2_leastNext_9 rfl ?_
  refine j_getr G fl_X2_43 dX2_leastNext_10 (by first | assumption | rfl) (by rfl) ?_
  refine j_geti G fl_X2_49 dX2_leastNext_13 3 rfl (by first | assumption | rfl) (by rfl) (fun r_13 => ?_)
  try simp (disch := omega) only [up_same, up_cell, up_idx, cpm_at, fil_at] at r_13 ⊢
  rw [h_t.1]
  refine j_icmp_ge G dX2_leastNext_16 (tgt := 70) (by decide) (by omega) (by omega) (fun c_16 => ?_) (fun c_16 => ?_)
  · refine j_iload G dX2_leastNext_70 rfl ?_
    refine j_ireturn G dX2_leastNext_72 ?_
    obtain rfl : s = tm w := by omega
    exact ⟨rfl, rfl⟩
  · obtain ⟨h_t1, h_t2⟩ := h_ts (by omega)
    obtain ⟨h_a, h_b⟩ := h_w2s (by omega)
    have h_fb := h_f (tB w s) h_b
    have h_gb := (h_g (tB w s) h_b).1
    first | refine j_aload_n G dX2_leastNext_19 rfl ?_ | refine j_aload_nN G dX2_leastNext_19 rfl ?_
    refine j_getr G fl_X2_110 dX2_leastNext_20 (by first | assumption | rfl) (by rfl) ?_
    refine j_iload G dX2_leastNext_23 rfl ?_
    refine j_iaload G dX2_leastNext_25 (by first | assumption | rfl) (by omega) (fun r_25 => ?_)
    try simp (disch := omega) only [up_same, up_cell, up_idx, cpm_at, fil_at] at r_25 ⊢
    rw [h_t2]
    refine j_istore6 G dX2_leastNext_26 (by decide) rfl ?_
    refine j_iload G dX2_leastNext_28 rfl ?_
    refine j_if_eq G dX2_leastNext_30 (tgt := 64) (by decide) (by omega) (fun c_30 => ?_) (fun c_30 => ?_)
    · refine j_iinc5 G dX2_leastNext_64 (by decide) rfl rfl ?_
      refine j_goto G dX2_leastNext_67 (tgt := 7) (by decide) ?_
      refine j_pc (p2 := 7) rfl ?_
      first
      | exact j_weak (h_z (by omega) _ (by rw [h_Ps, decide_eq_true ⟨by omega, by omega, by omega⟩, if_pos rfl])) ⟨rfl, rfl, rfl, rfl, rfl, rfl, trivial⟩
      | exact j_weak (h_z (by omega) _ (by rw [h_Ps, decide_eq_false (fun z => by omega), if_neg (by decide)])) ⟨rfl, rfl, rfl, rfl, rfl, rfl, trivial⟩
    · first | refine j_aload_n G dX2_leastNext_33 rfl ?_ | refine j_aload_nN G dX2_leastNext_33 rfl ?_
      refine j_getr G fl_X2_113 dX2_leastNext_34 (by first | assumption | rfl) (by rfl) ?_
      refine j_iload G dX2_leastNext_37 rfl ?_
      refine j_iaload G dX2_leastNext_39 (by first | assumption | rfl) (by omega) (fun r_39 => ?_)
      try simp (disch := omega) only [up_same, up_cell, up_idx, cpm_at, fil_at] at r_39 ⊢
      rw [h_t1]
      refine j_iload_n G dX2_leastNext_40 rfl ?_
      refine j_icmp_ne G dX2_leastNext_41 (tgt := 64) (by decide) (by omega) (by omega) (fun c_41 => ?_) (fun c_41 => ?_)
      · refine j_iinc5 G dX2_leastNext_64 (by decide) rfl rfl ?_
        refine j_goto G dX2_leastNext_67 (tgt := 7) (by decide) ?_
        refine j_pc (p2 := 7) rfl ?_
        first
        | exact j_weak (h_z (by omega) _ (by rw [h_Ps, decide_eq_true ⟨by omega, by omega, by omega⟩, if_pos rfl])) ⟨rfl, rfl, rfl, rfl, rfl, rfl, trivial⟩
        | exact j_weak (h_z (by omega) _ (by rw [h_Ps, decide_eq_false (fun z => by omega), if_neg (by decide)])) ⟨rfl, rfl, rfl, rfl, rfl, rfl, trivial⟩
      · first | refine j_aload_n G dX2_leastNext_44 rfl ?_ | refine j_aload_nN G dX2_leastNext_44 rfl ?_
        refine j_getr G fl_X2_27 dX2_leastNext_45 (by first | assumption | rfl) (by rfl) ?_
        refine j_iload G dX2_leastNext_48 rfl ?_
        refine j_iaload G dX2_leastNext_50 (by first | assumption | rfl) (by omega) (fun r_50 => ?_)
        try simp (disch := omega) only [up_same, up_cell, up_idx, cpm_at, fil_at] at r_50 ⊢
        rw [h_fb]
        refine j_iload_n G dX2_leastNext_51 rfl ?_
        refine j_icmp_ne G dX2_leastNext_52 (tgt := 64) (by decide) (by omega) (by omega) (fun c_52 => ?_) (fun c_52 => ?_)
        · refine j_iinc5 G dX2_leastNext_64 (by decide) rfl rfl ?_
          refine j_goto G dX2_leastNext_67 (tgt := 7) (by decide) ?_
          refine j_pc (p2 := 7) rfl ?_
          first
          | exact j_weak (h_z (by omega) _ (by rw [h_Ps, decide_eq_true ⟨by omega, by omega, by omega⟩, if_pos rfl])) ⟨rfl, rfl, rfl, rfl, rfl, rfl, trivial⟩
          | exact j_weak (h_z (by omega) _ (by rw [h_Ps, decide_eq_false (fun z => by omega), if_neg (by decide)])) ⟨rfl, rfl, rfl, rfl, rfl, rfl, trivial⟩
        · refine j_iload G dX2_leastNext_55 rfl ?_
          refine j_iload G dX2_leastNext_57 rfl ?_
          refine j_min G ms_X2_37 dX2_leastNext_59 (by omega) (by omega) (by decide) (by exact Nat.le_of_ble_eq_true rfl) ?_
          refine j_istore4 G dX2_leastNext_62 (by decide) rfl ?_
          refine j_iinc5 G dX2_leastNext_64 (by decide) rfl rfl ?_
          refine j_goto G dX2_leastNext_67 (tgt := 7) (by decide) ?_
          refine j_pc (p2 := 7) rfl ?_
          first
          | exact j_weak (h_z (by omega) _ (by rw [h_Ps, decide_eq_true ⟨by omega, by omega, by omega⟩, if_pos rfl])) ⟨rfl, rfl, rfl, rfl, rfl, rfl, trivial⟩
          | exact j_weak (h_z (by omega) _ (by rw [h_Ps, decide_eq_false (fun z => by omega), if_neg (by decide)])) ⟨rfl, rfl, rfl, rfl, rfl, rfl, trivial⟩
def chnS (w : TW) : List Int := if anyB (fun n => stB w (n + 1)) 14 = true then chL w (fsB (fun n => stB w (n + 1)) 14 + 1) (c0T w (fsB (fun n => stB w (n + 1)) 14 + 1)) else []
set_option maxRecDepth 4000 in
theorem c_layChain (c : Nat) (g : Nat → Int) (h_c : c < 5) (h_w : TWok w) (h_t : TC σ c w) (h_s : ∀ v : Nat, v < 64 → σ 52 v = sg w v) (h_f : ∀ v : Nat, v < 64 → σ 53 v = g v) (h_g : FarOk w 12 g) (h_R0 : RwI (σ 54 1) (σ 55) []) : CT (EC x) 2 yX2_layChain [rf (EC x) 48, rf (EC x) (2 + 7 * c)] σ (fun r τ => r = none ∧ Ons (fun j => j = 54 ∨ j = 55) σ τ ∧ RwI (τ 54 1) (τ 55) (chnS w)) := by
  obtain ⟨h_y1, h_y2, h_y3, h_y4, h_y5, h_y6, h_y7⟩ := ly_code (x := x) h_c
  obtain ⟨h_w1, h_w2, h_w3⟩ := id h_w
  refine CT.ofJ (own := RX2) (cc := cX2_layChain) (n := 5) (ret := none) (by decide) rfl cw_X2_layChain (by decide) (Nat.le_of_ble_eq_true rfl) (ls := [some (rf (EC x) 48), some (rf (EC x) (2 + 7 * c)), none, none, none]) rfl ?_
  intro X G
  refine j_sipush G dX2_layChain_0 (by decide) ?_
  refine j_istore2 G dX2_layChain_3 (by decide) rfl ?_
  refine j_iconst G dX2_layChain_4 ?_
  refine j_istore3 G dX2_layChain_5 (by decide) rfl ?_
  refine j_pc (p2 := 6) rfl ?_
  refine j_weak (ls' := [some (rf (EC x) 48), some (rf (EC x) (2 + 7 * c)), some (iv (lkM w g 0)), some (iv ((0 : Nat) : Int)), none]) ?_ ⟨rfl, rfl, rfl, rfl, trivial⟩
  refine down (Pr := fun s => JJ (EC x) X 2 (fun r τ => r = none ∧ Ons (fun j => j = 54 ∨ j = 55) σ τ ∧ RwI (τ 54 1) (τ 55) (chnS w)) 5 6 [some (rf (EC x) 48), some (rf (EC x) (2 + 7 * c)), some (iv (lkM w g s)), some (iv s), none] [] σ) (tm w) ?_ 0 (Nat.zero_le _)
  intro s h_ss ih
  have h_w2s := h_w2 s
  have h_ts := h_t.2.1 s
  have h_le : lkM w g s ≤ 1000 := (lsM_le (P := fun s => decide (tB w s ≠ 0 ∧ 0 < sg w (tA w s))) (g := fun s => g (tB w s) + 1) (i0 := 1000) s).1
  have h_ge : 0 ≤ lkM w g s := by
    rcases lsM_is (P := fun s => decide (tB w s ≠ 0 ∧ 0 < sg w (tA w s))) (g := fun s => g (tB w s) + 1) (i0 := 1000) s with h_1 | ⟨q, h_1, h_2, h_3⟩
    · unfold lkM
      omega
    · have := (h_g _ (h_w2 q (by omega)).2).1
      unfold lkM
      omega
  have h_z : s < tm w → ∀ z : Int, z = (if decide (tB w s ≠ 0 ∧ 0 < sg w (tA w s)) = true then min (lkM w g s) (g (tB w s) + 1) else lkM w g s) → JJ (EC x) X 2 (fun r τ => r = none ∧ Ons (fun j => j = 54 ∨ j = 55) σ τ ∧ RwI (τ 54 1) (τ 55) (chnS w)) 5 6 [some (rf (EC x) 48), some (rf (EC x) (2 + 7 * c)), some (iv z), some (iv ((s + 1 : Nat) : Int)), none] [] σ := fun h_1 z h_2 => by
    rw [h_2]
    exact ih h_1
  refine j_iload_n G dX2_layChain_6 rfl ?_
  first | refine j_aload_n G dX2_layChain_7 rfl ?_ | refine j_aload_nN G dX2_layChain_7 rfl ?_
  refine j_getr G fl_X2_43 dX2_layChain_8 (by first | assumption | rfl) (by rfl) ?_
  refine j_geti G fl_X2_49 dX2_layChain_11 3 rfl (by first | assumption | rfl) (by rfl) (fun r_11 => ?_)
  try simp (disch := omega) only [up_same, up_cell, up_idx, cpm_at, fil_at] at r_11 ⊢
  rw [h_t.1]
  refine j_icmp_ge G dX2_layChain_14 (tgt := 64) (by decide) (by omega) (by omega) (fun c_14 => ?_) (fun c_14 => ?_)
  · obtain rfl : s = tm w := by omega
    refine j_iload_n G dX2_layChain_64 rfl ?_
    refine j_sipush G dX2_layChain_65 (by decide) ?_
    refine j_icmp_lt G dX2_layChain_68 (tgt := 72) (by decide) (by omega) (by omega) (fun c_68 => ?_) (fun c_68 => ?_)
    · rcases lk_is h_w h_g with ⟨h_1, h_2⟩ | ⟨n, h_n11, h_lk, h_mn, h_any, h_fs⟩
      · omega
      rw [h_lk, show (n : Int) + 1 = ((n + 1 : Nat) : Int) by omega]
      obtain ⟨h_sg0, h_inv0⟩ := Inv.st h_w h_mn
      have h_ch : chnS w = chL w (n + 1) (c0T w (n + 1)) := by unfold chnS; rw [if_pos h_any, h_fs]
      rw [h_ch]
      first | refine j_aload_n G dX2_layChain_72 rfl ?_ | refine j_aload_nN G dX2_layChain_72 rfl ?_
      first | refine j_aload_n G dX2_layChain_73 rfl ?_ | refine j_aload_nN G dX2_layChain_73 rfl ?_
      refine j_iload_n G dX2_layChain_74 rfl ?_
      refine j_callV G mv_X2_116 dX2_layChain_75 (c_leastStart c n g h_c h_w h_t h_s h_f h_g h_mn) (by first | assumption | rfl) (by decide) (by rfl) rfl rfl (by exact Nat.le_of_ble_eq_true rfl) (by decide) (kI ?_)
      refine j_istore3 G dX2_layChain_78 (by decide) rfl ?_
      first | refine j_aload_n G dX2_layChain_79 rfl ?_ | refine j_aload_nN G dX2_layChain_79 rfl ?_
      refine j_getr G fl_X2_30 dX2_layChain_80 (by first | assumption | rfl) (by rfl) ?_
      refine j_iload_n G dX2_layChain_83 rfl ?_
      refine j_callV G mv_X2_78 dX2_layChain_84 (p_addR 54 55 14 (c0T w (n + 1) : Nat) [] (by have := h_inv0.1; omega) rfl rfl (by decide) h_R0 (by decide)) (by first | assumption | rfl) (by decide) (by rfl) rfl rfl (by exact Nat.le_of_ble_eq_true rfl) (by decide) (kP (fun y τ h_y => ?_))
      obtain ⟨h_o1, h_R1⟩ := h_y
      refine j_pop G dX2_layChain_87 rfl ?_
      refine j_iload_n G dX2_layChain_88 rfl ?_
      refine j_pc (p2 := 89) rfl ?_
      refine j_bipush G dX2_layChain_89 (by decide) ?_
      refine j_min G ms_X2_37 dX2_layChain_91 (by omega) (by omega) (by decide) (by exact Nat.le_of_ble_eq_true rfl) ?_
      rw [show min ((n + 1 : Nat) : Int) 12 = ((n + 1 : Nat) : Int) by omega]
      refine j_iconst G dX2_layChain_94 ?_
      refine j_isub G dX2_layChain_95 ?_
      refine j_istore4 G dX2_layChain_96 (by decide) rfl ?_
      refine j_pc (p2 := 98) rfl ?_
      have h_lp : ∀ i : Nat, i ≤ n + 1 → ∀ (v : Nat) (D : List Int) (τ : MemT), Ons (fun j => j = 54 ∨ j = 55) σ τ → (∀ j, i = j + 1 → Inv w j v) → RwI (τ 54 1) (τ 55) (D ++ [(v : Int)]) → D.length + i = n + 1 → D ++ chL w i v = chL w (n + 1) (c0T w (n + 1)) → v < 64 → JJ (EC x) X 2 (fun r τ => r = none ∧ Ons (fun j => j = 54 ∨ j = 55) σ τ ∧ RwI (τ 54 1) (τ 55) (chL w (n + 1) (c0T w (n + 1)))) 5 98 [some (rf (EC x) 48), some (rf (EC x) (2 + 7 * c)), none, some (iv v), some (iv ((i : Int) - 1))] [] τ := by
        intro i
        induction i with
        | zero =>
          intro h_i v D τ h_o h_in h_R h_l h_D h_v
          rw [← h_D]
          · refine j_iload G dX2_layChain_98 rfl ?_
            refine j_if_lt G dX2_layChain_100 (tgt := 127) (by decide) (by omega) (fun c_100 => ?_) (fun c_100 => ?_)
            · refine j_return G dX2_layChain_127 ?_
              exact ⟨rfl, h_o, h_R⟩
            · omega
        | succ i ih =>
          intro h_i v D τ h_o h_in h_R h_l h_D h_v
          rw [show ((i + 1 : Nat) : Int) - 1 = i by omega]
          have h_iv := h_in i rfl
          obtain ⟨h_n1, h_n2, h_n3⟩ := h_iv.nx h_w
          · refine j_iload G dX2_layChain_98 rfl ?_
            refine j_if_lt G dX2_layChain_100 (tgt := 127) (by decide) (by omega) (fun c_100 => ?_) (fun c_100 => ?_)
            · omega
            · first | refine j_aload_n G dX2_layChain_103 rfl ?_ | refine j_aload_nN G dX2_layChain_103 rfl ?_
              first | refine j_aload_n G dX2_layChain_104 rfl ?_ | refine j_aload_nN G dX2_layChain_104 rfl ?_
              refine j_iload_n G dX2_layChain_105 rfl ?_
              refine j_iload G dX2_layChain_106 rfl ?_
              refine j_callV G mv_X2_119 dX2_layChain_108 (c_leastNext c i v g h_c h_w (h_t.on (fun j h_1 h_2 => h_o j (by omega))) (fun u h_u => by rw [h_o 53 (by omega)]; exact h_f u h_u) h_g h_iv (by omega)) (by first | assumption | rfl) (by decide) (by rfl) rfl rfl (by exact Nat.le_of_ble_eq_true rfl) (by decide) (kI ?_)
              refine j_istore3 G dX2_layChain_111 (by decide) rfl ?_
              first | refine j_aload_n G dX2_layChain_112 rfl ?_ | refine j_aload_nN G dX2_layChain_112 rfl ?_
              refine j_getr G fl_X2_30 dX2_layChain_113 (by first | assumption | rfl) (by rfl) ?_
              refine j_iload_n G dX2_layChain_116 rfl ?_
              refine j_callV G mv_X2_78 dX2_layChain_117 (p_addR 54 55 14 (nxT w i v : Nat) (D ++ [(v : Int)]) (by omega) rfl rfl (by decide) h_R (by rw [List.length_append]; show D.length + 1 < 14; omega)) (by first | assumption | rfl) (by decide) (by rfl) rfl rfl (by exact Nat.le_of_ble_eq_true rfl) (by decide) (kP (fun y τ2 h_y => ?_))
              refine j_pop G dX2_layChain_120 rfl ?_
              refine j_pc (p2 := 121) rfl ?_
              refine j_iinc4 G dX2_layChain_121 (by decide) rfl rfl ?_
              refine j_goto G dX2_layChain_124 (tgt := 98) (by decide) ?_
              refine j_pc (p2 := 98) rfl ?_
              exact ih (by omega) (nxT w i v) (D ++ [(v : Int)]) τ2 (h_o.tr h_y.1) (fun j h_j => h_n3 j h_j) h_y.2 (by rw [List.length_append]; show D.length + 1 + i = n + 1; omega) (by rw [← h_D, List.append_assoc]; rfl) h_n1
      exact j_weak (h_lp (n + 1) (Nat.le_refl _) (c0T w (n + 1)) [] τ h_o1 (fun j h_j => by rw [← Nat.succ.inj h_j]; exact h_inv0) h_R1 (by show 0 + (n + 1) = n + 1; omega) rfl h_inv0.1) ⟨rfl, rfl, rfl, rfl, trivial⟩
    · refine j_return G dX2_layChain_71 ?_
      rcases lk_is h_w h_g with ⟨h_1, h_2⟩ | ⟨n, h_1, h_2, -⟩
      · exact ⟨rfl, Ons.rf _ _, by unfold chnS; rw [if_neg h_2]; exact h_R0⟩
      · omega
  · obtain ⟨h_t1, h_t2⟩ := h_ts (by omega)
    obtain ⟨h_a, h_b⟩ := h_w2s (by omega)
    have h_fb := h_f (tB w s) h_b
    have h_sa := h_s (tA w s) h_a.2
    have h_gb := (h_g (tB w s) h_b).1
    first | refine j_aload_n G dX2_layChain_17 rfl ?_ | refine j_aload_nN G dX2_layChain_17 rfl ?_
    refine j_getr G fl_X2_110 dX2_layChain_18 (by first | assumption | rfl) (by rfl) ?_
    refine j_iload_n G dX2_layChain_21 rfl ?_
    refine j_iaload G dX2_layChain_22 (by first | assumption | rfl) (by omega) (fun r_22 => ?_)
    try simp (disch := omega) only [up_same, up_cell, up_idx, cpm_at, fil_at] at r_22 ⊢
    rw [h_t2]
    refine j_if_eq G dX2_layChain_23 (tgt := 58) (by decide) (by omega) (fun c_23 => ?_) (fun c_23 => ?_)
    · refine j_iinc3 G dX2_layChain_58 (by decide) rfl rfl ?_
      refine j_goto G dX2_layChain_61 (tgt := 6) (by decide) ?_
      refine j_pc (p2 := 6) rfl ?_
      first
      | exact h_z (by omega) _ (by rw [decide_eq_true (show tB w s ≠ 0 ∧ 0 < sg w (tA w s) from ⟨by omega, by omega⟩), if_pos rfl])
      | exact h_z (by omega) _ (by rw [decide_eq_false (show ¬ (tB w s ≠ 0 ∧ 0 < sg w (tA w s)) from fun z => by omega), if_neg (by decide)])
    · first | refine j_aload_n G dX2_layChain_26 rfl ?_ | refine j_aload_nN G dX2_layChain_26 rfl ?_
      refine j_getr G fl_X2_24 dX2_layChain_27 (by first | assumption | rfl) (by rfl) ?_
      first | refine j_aload_n G dX2_layChain_30 rfl ?_ | refine j_aload_nN G dX2_layChain_30 rfl ?_
      refine j_getr G fl_X2_113 dX2_layChain_31 (by first | assumption | rfl) (by rfl) ?_
      refine j_iload_n G dX2_layChain_34 rfl ?_
      refine j_iaload G dX2_layChain_35 (by first | assumption | rfl) (by omega) (fun r_35 => ?_)
      try simp (disch := omega) only [up_same, up_cell, up_idx, cpm_at, fil_at] at r_35 ⊢
      rw [h_t1]
      refine j_iaload G dX2_layChain_36 (by first | assumption | rfl) (by omega) (fun r_36 => ?_)
      try simp (disch := omega) only [up_same, up_cell, up_idx, cpm_at, fil_at] at r_36 ⊢
      rw [h_sa] at *
      refine j_if_le G dX2_layChain_37 (tgt := 58) (by decide) (by omega) (fun c_37 => ?_) (fun c_37 => ?_)
      · refine j_iinc3 G dX2_layChain_58 (by decide) rfl rfl ?_
        refine j_goto G dX2_layChain_61 (tgt := 6) (by decide) ?_
        refine j_pc (p2 := 6) rfl ?_
        first
        | exact h_z (by omega) _ (by rw [decide_eq_true (show tB w s ≠ 0 ∧ 0 < sg w (tA w s) from ⟨by omega, by omega⟩), if_pos rfl])
        | exact h_z (by omega) _ (by rw [decide_eq_false (show ¬ (tB w s ≠ 0 ∧ 0 < sg w (tA w s)) from fun z => by omega), if_neg (by decide)])
      · refine j_iload_n G dX2_layChain_40 rfl ?_
        first | refine j_aload_n G dX2_layChain_41 rfl ?_ | refine j_aload_nN G dX2_layChain_41 rfl ?_
        refine j_getr G fl_X2_27 dX2_layChain_42 (by first | assumption | rfl) (by rfl) ?_
        first | refine j_aload_n G dX2_layChain_45 rfl ?_ | refine j_aload_nN G dX2_layChain_45 rfl ?_
        refine j_getr G fl_X2_110 dX2_layChain_46 (by first | assumption | rfl) (by rfl) ?_
        refine j_iload_n G dX2_layChain_49 rfl ?_
        refine j_iaload G dX2_layChain_50 (by first | assumption | rfl) (by omega) (fun r_50 => ?_)
        try simp (disch := omega) only [up_same, up_cell, up_idx, cpm_at, fil_at] at r_50 ⊢
        rw [h_t2]
        refine j_iaload G dX2_layChain_51 (by first | assumption | rfl) (by omega) (fun r_51 => ?_)
        try simp (disch := omega) only [up_same, up_cell, up_idx, cpm_at, fil_at] at r_51 ⊢
        rw [h_fb]
        refine j_iconst G dX2_layChain_52 ?_
        refine j_iadd G dX2_layChain_53 ?_
        refine j_min G ms_X2_37 dX2_layChain_54 (by omega) (by omega) (by decide) (by exact Nat.le_of_ble_eq_true rfl) ?_
        refine j_pc (p2 := 57) rfl ?_
        refine j_istore2 G dX2_layChain_57 (by decide) rfl ?_
        refine j_iinc3 G dX2_layChain_58 (by decide) rfl rfl ?_
        refine j_goto G dX2_layChain_61 (tgt := 6) (by decide) ?_
        refine j_pc (p2 := 6) rfl ?_
        first
        | exact h_z (by omega) _ (by rw [decide_eq_true (show tB w s ≠ 0 ∧ 0 < sg w (tA w s) from ⟨by omega, by omega⟩), if_pos rfl])
        | exact h_z (by omega) _ (by rw [decide_eq_false (show ¬ (tB w s ≠ 0 ∧ 0 < sg w (tA w s)) from fun z => by omega), if_neg (by decide)])
end TZ
