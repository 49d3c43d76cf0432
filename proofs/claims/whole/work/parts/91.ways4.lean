theorem sm01_two {p : Nat → Bool} : ∀ m, 1 < sm (fun s => if p s then 1 else 0) m ↔ ∃ a b, a < m ∧ b < a ∧ p a = true ∧ p b = true
  | 0 => ⟨fun h => absurd h (by show ¬ (1 : Int) < 0; omega), fun ⟨a, b, h, _⟩ => absurd h (Nat.not_lt_zero _)⟩
  | m + 1 => by
    have h_1 := sm01_pos (p := p) m
    have h_2 := sm01_two (p := p) m
    have h_0 := sm_nn (g := fun s => if p s then 1 else 0) m (fun j _ => by split <;> omega)
    rw [sm_s]
    constructor
    · intro h
      by_cases h_3 : p m = true
      · rw [if_pos h_3] at h
        obtain ⟨b, h_4, h_5⟩ := h_1.1 (by omega)
        exact ⟨m, b, by omega, h_4, h_3, h_5⟩
      · rw [if_neg h_3, Int.add_zero] at h
        obtain ⟨a, b, h_4, h_5, h_6⟩ := h_2.1 h
        exact ⟨a, b, by omega, h_5, h_6⟩
    · rintro ⟨a, b, h_4, h_5, h_6, h_7⟩
      by_cases h_e : a = m
      · subst h_e
        have := h_1.2 ⟨b, h_5, h_7⟩
        rw [if_pos h_6]
        omega
      · have := h_2.2 ⟨a, b, by omega, h_5, h_6, h_7⟩
        split <;> omega
def saP (w : TW) (a b : Nat) : Prop := tA w a = tA w b ∧ tB w a = tB w b ∧ tB w a ≠ 0
def vaP (w : TW) (a : Nat) : Nat := 64 * tA w a + tB w a
def PrI (w : TW) (s t : Nat) (z : Int) : Prop := z ≤ 4096 ∧ (∀ a b, (a < s ∧ b < a) ∨ (a = s ∧ b < t) → saP w a b → z ≤ vaP w a) ∧ (z = 4096 ∨ ∃ a b, ((a < s ∧ b < a) ∨ (a = s ∧ b < t)) ∧ saP w a b ∧ z = vaP w a)
theorem PrI.no {w : TW} {s t : Nat} {z : Int} (h : PrI w s t z) (h_n : ¬ saP w s t) : PrI w s (t + 1) z := by
  obtain ⟨h_1, h_2, h_3⟩ := h
  refine ⟨h_1, fun a b h_4 h_5 => ?_, ?_⟩
  · by_cases h_e : a = s ∧ b = t
    · rw [h_e.1, h_e.2] at h_5
      exact absurd h_5 h_n
    · exact h_2 a b (by omega) h_5
  · rcases h_3 with h_3 | ⟨a, b, h_4, h_5⟩
    · exact Or.inl h_3
    · exact Or.inr ⟨a, b, by omega, h_5⟩
theorem PrI.yes {w : TW} {s t : Nat} {z : Int} (h : PrI w s t z) (h_y : saP w s t) : PrI w s (t + 1) (min z (vaP w s)) := by
  obtain ⟨h_1, h_2, h_3⟩ := h
  refine ⟨by omega, fun a b h_4 h_5 => ?_, ?_⟩
  · by_cases h_e : a = s ∧ b = t
    · rw [h_e.1]
      omega
    · have := h_2 a b (by omega) h_5
      omega
  · by_cases h_6 : z ≤ vaP w s
    · rw [Int.min_eq_left h_6]
      rcases h_3 with h_3 | ⟨a, b, h_4, h_5⟩
      · exact Or.inl h_3
      · exact Or.inr ⟨a, b, by omega, h_5⟩
    · rw [Int.min_eq_right (by omega)]
      exact Or.inr ⟨s, t, by omega, h_y, rfl⟩
theorem PrI.row {w : TW} {s : Nat} {z : Int} (h : PrI w s s z) : PrI w (s + 1) 0 z := by
  obtain ⟨h_1, h_2, h_3⟩ := h
  refine ⟨h_1, fun a b h_4 h_5 => h_2 a b (by omega) h_5, ?_⟩
  rcases h_3 with h_3 | ⟨a, b, h_4, h_5⟩
  · exact Or.inl h_3
  · exact Or.inr ⟨a, b, by omega, h_5⟩
theorem prP_iff {w : TW} (h_w : TWok w) {c : Nat} (h_c : c < 4096) : prP w c = true ↔ ∃ a b, a < tm w ∧ b < a ∧ saP w a b ∧ vaP w a = c := by
  unfold prP db dbN
  rw [decide_eq_true_eq, sm01_two]
  constructor
  · rintro ⟨a, b, h_1, h_2, h_3, h_4⟩
    obtain ⟨h_5, h_6, h_7, h_8⟩ := of_decide_eq_true h_3
    obtain ⟨h_9, h_10, h_11, h_12⟩ := of_decide_eq_true h_4
    refine ⟨a, b, h_5, h_2, ⟨by omega, by omega, h_6⟩, ?_⟩
    unfold vaP
    omega
  · rintro ⟨a, b, h_1, h_2, h_3, h_4⟩
    obtain ⟨h_5, h_6⟩ := h_w.2.1 a h_1
    obtain ⟨h_7, h_8, h_9⟩ := h_3
    unfold vaP at h_4
    exact ⟨a, b, by have := h_w.1; omega, h_2, decide_eq_true ⟨h_1, h_9, by omega, by omega⟩, decide_eq_true ⟨by omega, by omega, by omega, by omega⟩⟩
def prZ (w : TW) : Int := if anyB (prP w) 4096 = true then (fsB (prP w) 4096 : Nat) else 4096
theorem PrI.fin {w : TW} (h_w : TWok w) {z : Int} (h : PrI w (tm w) 0 z) : z = prZ w := by
  obtain ⟨h_1, h_2, h_3⟩ := h
  have h_va : ∀ a, a < tm w → vaP w a < 4096 := fun a h_a => by
    have := h_w.2.1 a h_a
    unfold vaP
    omega
  unfold prZ
  by_cases h_a : anyB (prP w) 4096 = true
  · rw [if_pos h_a]
    obtain ⟨h_4, h_5, h_6⟩ := fsB_is 4096 h_a
    obtain ⟨a, b, h_7, h_8, h_9, h_10⟩ := (prP_iff h_w h_4).1 h_5
    have h_11 := h_2 a b (Or.inl ⟨h_7, h_8⟩) h_9
    rcases h_3 with h_3 | ⟨a2, b2, h_12, h_13, h_14⟩
    · omega
    · have h_15 := h_va a2 (by omega)
      have h_16 : prP w (vaP w a2) = true := (prP_iff h_w h_15).2 ⟨a2, b2, by omega, by omega, h_13, rfl⟩
      by_cases h_17 : vaP w a2 < fsB (prP w) 4096
      · rw [h_6 _ h_17] at h_16
        exact absurd h_16 (by decide)
      · omega
  · rw [if_neg h_a]
    rcases h_3 with h_3 | ⟨a2, b2, h_12, h_13, h_14⟩
    · exact h_3
    · have h_15 := h_va a2 (by omega)
      exact absurd (anyB_iff.2 ⟨_, h_15, (prP_iff h_w h_15).2 ⟨a2, b2, by omega, by omega, h_13, rfl⟩⟩) h_a
theorem sg_0 {w : TW} (h_w : TWok w) : sg w 0 = 0 := by
  rw [sg_of h_w, if_pos rfl, Int.zero_add]
  unfold smS
  rw [sm_cg (g2 := fun _ => 0) _ (fun s h_s => if_neg (fun z => by have := (h_w.2.1 s h_s).1; omega)), sm_zero]
section TA
variable {E : EE} {x x1 x2 : CX} {μ σ : MemT} {w : TW}
theorem c_leastShared (c : Nat) (h_c : c < 5) (h_w : TWok w) (h_t : TC σ c w) : CT (EC x) 1 yX2_leastSharedPair [rf (EC x) (2 + 7 * c)] σ (rI (prZ w) σ) := by
  obtain ⟨h_y1, h_y2, h_y3, h_y4, h_y5, h_y6, h_y7⟩ := ly_code (x := x) h_c
  obtain ⟨h_w1, h_w2, h_w3⟩ := id h_w
  refine CT.ofJ (own := RX2) (cc := cX2_leastSharedPair) (n := 5) (ret := (some .int)) (by decide) rfl cw_X2_leastSharedPair (by decide) (Nat.le_of_ble_eq_true rfl) (ls := [some (rf (EC x) (2 + 7 * c)), none, none, none, none]) rfl ?_
  intro X G
  refine j_sipush G dX2_leastSharedPair_0 (by decide) ?_
  refine j_istore1 G dX2_leastSharedPair_3 (by decide) rfl ?_
  refine j_iconst G dX2_leastSharedPair_4 ?_
  refine j_istore2 G dX2_leastSharedPair_5 (by decide) rfl ?_
  refine j_pc (p2 := 6) rfl ?_
  refine j_weak (ls' := [some (rf (EC x) (2 + 7 * c)), some (iv 4096), some (iv ((0 : Nat) : Int)), none, none]) ?_ ⟨rfl, rfl, rfl, trivial⟩
  refine down (Pr := fun s => ∀ z : Int, PrI w s 0 z → JJ (EC x) X 1 (rI (prZ w) σ) 5 6 [some (rf (EC x) (2 + 7 * c)), some (iv z), some (iv s), none, none] [] σ) (tm w) ?_ 0 (Nat.zero_le _) 4096 ⟨by omega, fun a b h_1 => by omega, Or.inl rfl⟩
  intro s h_ss ih z h_z
  have h_ts := h_t.2.1 s
  have h_w2s := h_w2 s
  refine j_iload_n G dX2_leastSharedPair_6 rfl ?_
  first | refine j_aload_n G dX2_leastSharedPair_7 rfl ?_ | refine j_aload_nN G dX2_leastSharedPair_7 rfl ?_
  refine j_getr G fl_X2_43 dX2_leastSharedPair_8 (by first | assumption | rfl) (by rfl) ?_
  refine j_geti G fl_X2_49 dX2_leastSharedPair_11 3 rfl (by first | assumption | rfl) (by rfl) (fun r_11 => ?_)
  try simp (disch := omega) only [up_same, up_cell, up_idx, cpm_at, fil_at] at r_11 ⊢
  rw [h_t.1]
  refine j_icmp_ge G dX2_leastSharedPair_14 (tgt := 108) (by decide) (by omega) (by omega) (fun c_14 => ?_) (fun c_14 => ?_)
  · refine j_iload_n G dX2_leastSharedPair_108 rfl ?_
    refine j_ireturn G dX2_leastSharedPair_109 ?_
    obtain rfl : s = tm w := by omega
    rw [← h_z.fin h_w]
    exact ⟨rfl, rfl⟩
  · obtain ⟨h_t1, h_t2⟩ := h_ts (by omega)
    obtain ⟨h_a, h_b⟩ := h_w2s (by omega)
    refine j_iconst G dX2_leastSharedPair_17 ?_
    refine j_istore3 G dX2_leastSharedPair_18 (by decide) rfl ?_
    refine j_pc (p2 := 19) rfl ?_
    refine j_weak (ls' := [some (rf (EC x) (2 + 7 * c)), some (iv z), some (iv s), some (iv ((0 : Nat) : Int)), none]) ?_ ⟨rfl, rfl, rfl, rfl, trivial⟩
    refine down (Pr := fun t => ∀ z : Int, PrI w s t z → JJ (EC x) X 1 (rI (prZ w) σ) 5 19 [some (rf (EC x) (2 + 7 * c)), some (iv z), some (iv s), some (iv t), none] [] σ) s ?_ 0 (Nat.zero_le _) z h_z
    intro t h_tt ih2 z h_z
    have h_tu := h_t.2.1 t
    have h_w2t := h_w2 t
    have h_zr : 0 ≤ z ∧ z ≤ 4096 := by
      refine ⟨?_, h_z.1⟩
      rcases h_z.2.2 with h_1 | ⟨a, b, -, -, h_1⟩ <;> omega
    have h_no : t < s → ¬ saP w s t → JJ (EC x) X 1 (rI (prZ w) σ) 5 19 [some (rf (EC x) (2 + 7 * c)), some (iv z), some (iv s), some (iv ((t + 1 : Nat) : Int)), none] [] σ := fun h_1 h_2 => ih2 h_1 z (h_z.no h_2)
    have h_ye : t < s → saP w s t → JJ (EC x) X 1 (rI (prZ w) σ) 5 19 [some (rf (EC x) (2 + 7 * c)), some (iv (min z (vaP w s))), some (iv s), some (iv ((t + 1 : Nat) : Int)), none] [] σ := fun h_1 h_2 => ih2 h_1 _ (h_z.yes h_2)
    refine j_iload_n G dX2_leastSharedPair_19 rfl ?_
    refine j_iload_n G dX2_leastSharedPair_20 rfl ?_
    refine j_icmp_ge G dX2_leastSharedPair_21 (tgt := 102) (by decide) (by omega) (by omega) (fun c_21 => ?_) (fun c_21 => ?_)
    · refine j_iinc2 G dX2_leastSharedPair_102 (by decide) rfl rfl ?_
      refine j_goto G dX2_leastSharedPair_105 (tgt := 6) (by decide) ?_
      refine j_pc (p2 := 6) rfl ?_
      obtain rfl : t = s := by omega
      exact j_weak (ih (by omega) z h_z.row) ⟨rfl, rfl, rfl, trivial⟩
    · obtain ⟨h_t3, h_t4⟩ := h_tu (by omega)
      obtain ⟨h_a2, h_b2⟩ := h_w2t (by omega)
      have h_va : (tA w s : Int) * 64 + tB w s = vaP w s := by unfold vaP; omega
      first | refine j_aload_n G dX2_leastSharedPair_24 rfl ?_ | refine j_aload_nN G dX2_leastSharedPair_24 rfl ?_
      refine j_getr G fl_X2_113 dX2_leastSharedPair_25 (by first | assumption | rfl) (by rfl) ?_
      refine j_iload_n G dX2_leastSharedPair_28 rfl ?_
      refine j_iaload G dX2_leastSharedPair_29 (by first | assumption | rfl) (by omega) (fun r_29 => ?_)
      try simp (disch := omega) only [up_same, up_cell, up_idx, cpm_at, fil_at] at r_29 ⊢
      rw [h_t1]
      first | refine j_aload_n G dX2_leastSharedPair_30 rfl ?_ | refine j_aload_nN G dX2_leastSharedPair_30 rfl ?_
      refine j_getr G fl_X2_113 dX2_leastSharedPair_31 (by first | assumption | rfl) (by rfl) ?_
      refine j_iload_n G dX2_leastSharedPair_34 rfl ?_
      refine j_iaload G dX2_leastSharedPair_35 (by first | assumption | rfl) (by omega) (fun r_35 => ?_)
      try simp (disch := omega) only [up_same, up_cell, up_idx, cpm_at, fil_at] at r_35 ⊢
      rw [h_t3]
      refine j_icmp_ne G dX2_leastSharedPair_36 (tgt := 58) (by decide) (by omega) (by omega) (fun c_36 => ?_) (fun c_36 => ?_)
      · refine j_iconst G dX2_leastSharedPair_58 ?_
        refine j_istore4 G dX2_leastSharedPair_59 (by decide) rfl ?_
        refine j_iload G dX2_leastSharedPair_61 rfl ?_
        refine j_if_eq G dX2_leastSharedPair_63 (tgt := 96) (by decide) (by omega) (fun c_63 => ?_) (fun c_63 => ?_)
        · refine j_iinc3 G dX2_leastSharedPair_96 (by decide) rfl rfl ?_
          refine j_goto G dX2_leastSharedPair_99 (tgt := 19) (by decide) ?_
          refine j_pc (p2 := 19) rfl ?_
          first
          | exact j_weak (h_ye (by omega) ⟨by omega, by omega, by omega⟩) ⟨rfl, rfl, rfl, rfl, trivial⟩
          | exact j_weak (h_no (by omega) (fun h => by obtain ⟨h_p, h_q, h_r⟩ := h; omega)) ⟨rfl, rfl, rfl, rfl, trivial⟩
        · first | refine j_aload_n G dX2_leastSharedPair_66 rfl ?_ | refine j_aload_nN G dX2_leastSharedPair_66 rfl ?_
          refine j_getr G fl_X2_110 dX2_leastSharedPair_67 (by first | assumption | rfl) (by rfl) ?_
          refine j_iload_n G dX2_leastSharedPair_70 rfl ?_
          refine j_iaload G dX2_leastSharedPair_71 (by first | assumption | rfl) (by omega) (fun r_71 => ?_)
          try simp (disch := omega) only [up_same, up_cell, up_idx, cpm_at, fil_at] at r_71 ⊢
          rw [h_t2]
          refine j_if_eq G dX2_leastSharedPair_72 (tgt := 96) (by decide) (by omega) (fun c_72 => ?_) (fun c_72 => ?_)
          · refine j_iinc3 G dX2_leastSharedPair_96 (by decide) rfl rfl ?_
            refine j_goto G dX2_leastSharedPair_99 (tgt := 19) (by decide) ?_
            refine j_pc (p2 := 19) rfl ?_
            first
            | exact j_weak (h_ye (by omega) ⟨by omega, by omega, by omega⟩) ⟨rfl, rfl, rfl, rfl, trivial⟩
            | exact j_weak (h_no (by omega) (fun h => by obtain ⟨h_p, h_q, h_r⟩ := h; omega)) ⟨rfl, rfl, rfl, rfl, trivial⟩
          · refine j_iload_n G dX2_leastSharedPair_75 rfl ?_
            first | refine j_aload_n G dX2_leastSharedPair_76 rfl ?_ | refine j_aload_nN G dX2_leastSharedPair_76 rfl ?_
            refine j_getr G fl_X2_113 dX2_leastSharedPair_77 (by first | assumption | rfl) (by rfl) ?_
            refine j_iload_n G dX2_leastSharedPair_80 rfl ?_
            refine j_iaload G dX2_leastSharedPair_81 (by first | assumption | rfl) (by omega) (fun r_81 => ?_)
            try simp (disch := omega) only [up_same, up_cell, up_idx, cpm_at, fil_at] at r_81 ⊢
            rw [h_t1]
            refine j_bipush G dX2_leastSharedPair_82 (by decide) ?_
            refine j_imul G dX2_leastSharedPair_84 ?_
            first | refine j_aload_n G dX2_leastSharedPair_85 rfl ?_ | refine j_aload_nN G dX2_leastSharedPair_85 rfl ?_
            refine j_getr G fl_X2_110 dX2_leastSharedPair_86 (by first | assumption | rfl) (by rfl) ?_
            refine j_iload_n G dX2_leastSharedPair_89 rfl ?_
            refine j_iaload G dX2_leastSharedPair_90 (by first | assumption | rfl) (by omega) (fun r_90 => ?_)
            try simp (disch := omega) only [up_same, up_cell, up_idx, cpm_at, fil_at] at r_90 ⊢
            refine j_pc (p2 := 91) rfl ?_
            rw [h_t2]
            refine j_iadd G dX2_leastSharedPair_91 ?_
            rw [h_va]
            refine j_min G ms_X2_37 dX2_leastSharedPair_92 (by omega) (by omega) (by decide) (by exact Nat.le_of_ble_eq_true rfl) ?_
            refine j_istore1 G dX2_leastSharedPair_95 (by decide) rfl ?_
            refine j_iinc3 G dX2_leastSharedPair_96 (by decide) rfl rfl ?_
            refine j_goto G dX2_leastSharedPair_99 (tgt := 19) (by decide) ?_
            refine j_pc (p2 := 19) rfl ?_
            first
            | exact j_weak (h_ye (by omega) ⟨by omega, by omega, by omega⟩) ⟨rfl, rfl, rfl, rfl, trivial⟩
            | exact j_weak (h_no (by omega) (fun h => by obtain ⟨h_p, h_q, h_r⟩ := h; omega)) ⟨rfl, rfl, rfl, rfl, trivial⟩
      · first | refine j_aload_n G dX2_leastSharedPair_39 rfl ?_ | refine j_aload_nN G dX2_leastSharedPair_39 rfl ?_
        refine j_getr G fl_X2_110 dX2_leastSharedPair_40 (by first | assumption | rfl) (by rfl) ?_
        refine j_iload_n G dX2_leastSharedPair_43 rfl ?_
        refine j_iaload G dX2_leastSharedPair_44 (by first | assumption | rfl) (by omega) (fun r_44 => ?_)
        try simp (disch := omega) only [up_same, up_cell, up_idx, cpm_at, fil_at] at r_44 ⊢
        rw [h_t2]
        first | refine j_aload_n G dX2_leastSharedPair_45 rfl ?_ | refine j_aload_nN G dX2_leastSharedPair_45 rfl ?_
        refine j_getr G fl_X2_110 dX2_leastSharedPair_46 (by first | assumption | rfl) (by rfl) ?_
        refine j_iload_n G dX2_leastSharedPair_49 rfl ?_
        refine j_iaload G dX2_leastSharedPair_50 (by first | assumption | rfl) (by omega) (fun r_50 => ?_)
        try simp (disch := omega) only [up_same, up_cell, up_idx, cpm_at, fil_at] at r_50 ⊢
        rw [h_t4]
        refine j_icmp_ne G dX2_leastSharedPair_51 (tgt := 58) (by decide) (by omega) (by omega) (fun c_51 => ?_) (fun c_51 => ?_)
        · refine j_iconst G dX2_leastSharedPair_58 ?_
          refine j_istore4 G dX2_leastSharedPair_59 (by decide) rfl ?_
          refine j_iload G dX2_leastSharedPair_61 rfl ?_
          refine j_if_eq G dX2_leastSharedPair_63 (tgt := 96) (by decide) (by omega) (fun c_63 => ?_) (fun c_63 => ?_)
          · refine j_iinc3 G dX2_leastSharedPair_96 (by decide) rfl rfl ?_
            refine j_goto G dX2_leastSharedPair_99 (tgt := 19) (by decide) ?_
            refine j_pc (p2 := 19) rfl ?_
            first
            | exact j_weak (h_ye (by omega) ⟨by omega, by omega, by omega⟩) ⟨rfl, rfl, rfl, rfl, trivial⟩
            | exact j_weak (h_no (by omega) (fun h => by obtain ⟨h_p, h_q, h_r⟩ := h; omega)) ⟨rfl, rfl, rfl, rfl, trivial⟩
          · first | refine j_aload_n G dX2_leastSharedPair_66 rfl ?_ | refine j_aload_nN G dX2_leastSharedPair_66 rfl ?_
            refine j_getr G fl_X2_110 dX2_leastSharedPair_67 (by first | assumption | rfl) (by rfl) ?_
            refine j_iload_n G dX2_leastSharedPair_70 rfl ?_
            refine j_iaload G dX2_leastSharedPair_71 (by first | assumption | rfl) (by omega) (fun r_71 => ?_)
            try simp (disch := omega) only [up_same, up_cell, up_idx, cpm_at, fil_at] at r_71 ⊢
            rw [h_t2]
            refine j_if_eq G dX2_leastSharedPair_72 (tgt := 96) (by decide) (by omega) (fun c_72 => ?_) (fun c_72 => ?_)
            · refine j_iinc3 G dX2_leastSharedPair_96 (by decide) rfl rfl ?_
              refine j_goto G dX2_leastSharedPair_99 (tgt := 19) (by decide) ?_
              refine j_pc (p2 := 19) rfl ?_
              first
              | exact j_weak (h_ye (by omega) ⟨by omega, by omega, by omega⟩) ⟨rfl, rfl, rfl, rfl, trivial⟩
              | exact j_weak (h_no (by omega) (fun h => by obtain ⟨h_p, h_q, h_r⟩ := h; omega)) ⟨rfl, rfl, rfl, rfl, trivial⟩
            · refine j_iload_n G dX2_leastSharedPair_75 rfl ?_
              first | refine j_aload_n G dX2_leastSharedPair_76 rfl ?_ | refine j_aload_nN G dX2_leastSharedPair_76 rfl ?_
              refine j_getr G fl_X2_113 dX2_leastSharedPair_77 (by first | assumption | rfl) (by rfl) ?_
              refine j_iload_n G dX2_leastSharedPair_80 rfl ?_
              refine j_iaload G dX2_leastSharedPair_81 (by first | assumption | rfl) (by omega) (fun r_81 => ?_)
              try simp (disch := omega) only [up_same, up_cell, up_idx, cpm_at, fil_at] at r_81 ⊢
              rw [h_t1]
              refine j_bipush G dX2_leastSharedPair_82 (by decide) ?_
              refine j_imul G dX2_leastSharedPair_84 ?_
              first | refine j_aload_n G dX2_leastSharedPair_85 rfl ?_ | refine j_aload_nN G dX2_leastSharedPair_85 rfl ?_
              refine j_getr G fl_X2_110 dX2_leastSharedPair_86 (by first | assumption | rfl) (by rfl) ?_
              refine j_iload_n G dX2_leastSharedPair_89 rfl ?_
              refine j_iaload G dX2_leastSharedPair_90 (by first | assumption | rfl) (by omega) (fun r_90 => ?_)
              try simp (disch := omega) only [up_same, up_cell, up_idx, cpm_at, fil_at] at r_90 ⊢
              refine j_pc (p2 := 91) rfl ?_
              rw [h_t2]
              refine j_iadd G dX2_leastSharedPair_91 ?_
              rw [h_va]
              refine j_min G ms_X2_37 dX2_leastSharedPair_92 (by omega) (by omega) (by decide) (by exact Nat.le_of_ble_eq_true rfl) ?_
              refine j_istore1 G dX2_leastSharedPair_95 (by decide) rfl ?_
              refine j_iinc3 G dX2_leastSharedPair_96 (by decide) rfl rfl ?_
              refine j_goto G dX2_leastSharedPair_99 (tgt := 19) (by decide) ?_
              refine j_pc (p2 := 19) rfl ?_
              first
              | exact j_weak (h_ye (by omega) ⟨by omega, by omega, by omega⟩) ⟨rfl, rfl, rfl, rfl, trivial⟩
              | exact j_weak (h_no (by omega) (fun h => by obtain ⟨h_p, h_q, h_r⟩ := h; omega)) ⟨rfl, rfl, rfl, rfl, trivial⟩
        · refine j_iconst G dX2_leastSharedPair_54 ?_
          refine j_goto G dX2_leastSharedPair_55 (tgt := 59) (by decide) ?_
          refine j_istore4 G dX2_leastSharedPair_59 (by decide) rfl ?_
          refine j_iload G dX2_leastSharedPair_61 rfl ?_
          refine j_if_eq G dX2_leastSharedPair_63 (tgt := 96) (by decide) (by omega) (fun c_63 => ?_) (fun c_63 => ?_)
          · refine j_iinc3 G dX2_leastSharedPair_96 (by decide) rfl rfl ?_
            refine j_goto G dX2_leastSharedPair_99 (tgt := 19) (by decide) ?_
            refine j_pc (p2 := 19) rfl ?_
            first
            | exact j_weak (h_ye (by omega) ⟨by omega, by omega, by omega⟩) ⟨rfl, rfl, rfl, rfl, trivial⟩
            | exact j_weak (h_no (by omega) (fun h => by obtain ⟨h_p, h_q, h_r⟩ := h; omega)) ⟨rfl, rfl, rfl, rfl, trivial⟩
          · first | refine j_aload_n G dX2_leastSharedPair_66 rfl ?_ | refine j_aload_nN G dX2_leastSharedPair_66 rfl ?_
            refine j_getr G fl_X2_110 dX2_leastSharedPair_67 (by first | assumption | rfl) (by rfl) ?_
            refine j_iload_n G dX2_leastSharedPair_70 rfl ?_
            refine j_iaload G dX2_leastSharedPair_71 (by first | assumption | rfl) (by omega) (fun r_71 => ?_)
            try simp (disch := omega) only [up_same, up_cell, up_idx, cpm_at, fil_at] at r_71 ⊢
            rw [h_t2]
            refine j_if_eq G dX2_leastSharedPair_72 (tgt := 96) (by decide) (by omega) (fun c_72 => ?_) (fun c_72 => ?_)
            · refine j_iinc3 G dX2_leastSharedPair_96 (by decide) rfl rfl ?_
              refine j_goto G dX2_leastSharedPair_99 (tgt := 19) (by decide) ?_
              refine j_pc (p2 := 19) rfl ?_
              first
              | exact j_weak (h_ye (by omega) ⟨by omega, by omega, by omega⟩) ⟨rfl, rfl, rfl, rfl, trivial⟩
              | exact j_weak (h_no (by omega) (fun h => by obtain ⟨h_p, h_q, h_r⟩ := h; omega)) ⟨rfl, rfl, rfl, rfl, trivial⟩
            · refine j_iload_n G dX2_leastSharedPair_75 rfl ?_
              first | refine j_aload_n G dX2_leastSharedPair_76 rfl ?_ | refine j_aload_nN G dX2_leastSharedPair_76 rfl ?_
              refine j_getr G fl_X2_113 dX2_leastSharedPair_77 (by first | assumption | rfl) (by rfl) ?_
              refine j_iload_n G dX2_leastSharedPair_80 rfl ?_
              refine j_iaload G dX2_leastSharedPair_81 (by first | assumption | rfl) (by omega) (fun r_81 => ?_)
              try simp (disch := omega) only [up_same, up_cell, up_idx, cpm_at, fil_at] at r_81 ⊢
              rw [h_t1]
              refine j_bipush G dX2_leastSharedPair_82 (by decide) ?_
              refine j_imul G dX2_leastSharedPair_84 ?_
              first | refine j_aload_n G dX2_leastSharedPair_85 rfl ?_ | refine j_aload_nN G dX2_leastSharedPair_85 rfl ?_
              refine j_getr G fl_X2_110 dX2_leastSharedPair_86 (by first | assumption | rfl) (by rfl) ?_
              refine j_iload_n G dX2_leastSharedPair_89 rfl ?_
              refine j_iaload G dX2_leastSharedPair_90 (by first | assumption | rfl) (by omega) (fun r_90 => ?_)
              try simp (disch := omega) only [up_same, up_cell, up_idx, cpm_at, fil_at] at r_90 ⊢
              refine j_pc (p2 := 91) rfl ?_
              rw [h_t2]
              refine j_iadd G dX2_leastSharedPair_91 ?_
              rw [h_va]
              refine j_min G ms_X2_37 dX2_leastSharedPair_92 (by omega) (by omega) (by decide) (by exact Nat.le_of_ble_eq_true rfl) ?_
              refine j_istore1 G dX2_leastSharedPair_95 (by decide) rfl ?_
              refine j_iinc3 G dX2_leastSharedPair_96 (by decide) rfl rfl ?_
              refine j_goto G dX2_leastSharedPair_99 (tgt := 19) (by decide) ?_
              refine j_pc (p2 := 19) rfl ?_
              first
              | exact j_weak (h_ye (by omega) ⟨by omega, by omega, by omega⟩) ⟨rfl, rfl, rfl, rfl, trivial⟩
              | exact j_weak (h_no (by omega) (fun h => by obtain ⟨h_p, h_q, h_r⟩ := h; omega)) ⟨rfl, rfl, rfl, rfl, trivial⟩
end TA
