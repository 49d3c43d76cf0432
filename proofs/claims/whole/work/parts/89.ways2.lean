def twOf (σ : MemT) (c : Nat) : TW := ((σ (4 + 7 * c) 3).toNat, fun s => (σ (7 + 7 * c) s).toNat, fun s => (σ (8 + 7 * c) s).toNat, fun l => (σ (3 + 7 * c) l).toNat)
def TC (τ : MemT) (c : Nat) (w : TW) : Prop := τ (4 + 7 * c) 3 = tm w ∧ (∀ s : Nat, s < tm w → τ (7 + 7 * c) s = tA w s ∧ τ (8 + 7 * c) s = tB w s) ∧ ∀ l : Nat, l < 26 → τ (3 + 7 * c) l = tL w l
theorem twOf_ok {σ : MemT} {c : Nat} (h : WfCode σ c) : TWok (twOf σ c) ∧ TC σ c (twOf σ c) := by
  obtain ⟨h_1, h_2, h_3, h_4⟩ := h
  refine ⟨⟨?_, fun s h_s => ?_, fun l h_l => ?_⟩, ?_, fun s h_s => ?_, fun l h_l => ?_⟩
  · show (σ (4 + 7 * c) 3).toNat ≤ 12
    omega
  · have h_5 : s < (σ (4 + 7 * c) 3).toNat := h_s
    obtain ⟨-, -, h_6, h_7⟩ := h_4 s (by omega) (by omega)
    show (1 ≤ (σ (7 + 7 * c) s).toNat ∧ (σ (7 + 7 * c) s).toNat < 64) ∧ (σ (8 + 7 * c) s).toNat < 64
    omega
  · have := h_1 l (by omega) (by omega)
    show (σ (3 + 7 * c) l).toNat < 64
    omega
  · show σ (4 + 7 * c) 3 = ((σ (4 + 7 * c) 3).toNat : Nat)
    omega
  · have h_5 : s < (σ (4 + 7 * c) 3).toNat := h_s
    obtain ⟨-, -, h_6, h_7⟩ := h_4 s (by omega) (by omega)
    show σ (7 + 7 * c) s = ((σ (7 + 7 * c) s).toNat : Nat) ∧ σ (8 + 7 * c) s = ((σ (8 + 7 * c) s).toNat : Nat)
    omega
  · have := h_1 l (by omega) (by omega)
    show σ (3 + 7 * c) l = ((σ (3 + 7 * c) l).toNat : Nat)
    omega
theorem TC.on {σ τ : MemT} {c : Nat} {w : TW} (h : TC σ c w) (h_o : ∀ j, 3 + 7 * c ≤ j → j ≤ 8 + 7 * c → τ j = σ j) : TC τ c w := by
  unfold TC at h ⊢
  rw [h_o (3 + 7 * c) (by omega) (by omega), h_o (4 + 7 * c) (by omega) (by omega), h_o (7 + 7 * c) (by omega) (by omega), h_o (8 + 7 * c) (by omega) (by omega)]
  exact h
def smL (w : TW) (v l : Nat) : Int := sm (fun l => if tL w l = v then 1 else 0) l
def smS (w : TW) (v s : Nat) : Int := sm (fun s => if tB w s = 0 ∧ tA w s = v then 1 else 0) s
theorem sm01_rg (p : Nat → Prop) [DecidablePred p] (m : Nat) : 0 ≤ sm (fun s => if p s then 1 else 0) m ∧ sm (fun s => if p s then 1 else 0) m ≤ m := by
  have := sm_rg (g := fun s => if p s then 1 else 0) (a := 0) (b := 1) m (fun i _ => by split <;> omega)
  omega
theorem sgP_l (w : TW) (j v : Nat) : sgP w (12 + j) v = decide (tL w j = v ∧ v ≠ 0) := by
  unfold sgP
  rw [if_neg (by omega), show 12 + j - 12 = j by omega]
theorem sgP_s (w : TW) {k : Nat} (v : Nat) (h : k < 12) : sgP w k v = decide (k < tm w ∧ tB w k = 0 ∧ tA w k = v) := by
  unfold sgP
  rw [if_pos h]
theorem sg_of {w : TW} (h_w : TWok w) (v : Nat) : sg w v = (if v = 0 then 0 else smL w v 26) + smS w v (tm w) := by
  unfold sg sgN
  rw [show 38 = 12 + 26 from rfl, sm_add, Int.add_comm]
  congr 1
  · by_cases h_v : v = 0
    · rw [if_pos h_v, sm_cg (g2 := fun _ => 0) 26 (fun j _ => ?_), sm_zero]
      rw [sgP_l, decide_eq_false (fun z => z.2 h_v), if_neg (by decide)]
    · rw [if_neg h_v]
      unfold smL
      refine sm_cg 26 (fun j _ => ?_)
      rw [sgP_l]
      by_cases h_1 : tL w j = v
      · rw [if_pos h_1, decide_eq_true ⟨h_1, h_v⟩, if_pos rfl]
      · rw [if_neg h_1, decide_eq_false (fun z => h_1 z.1), if_neg (by decide)]
  · rw [sm_sk 12 h_w.1 (fun j h_1 h_2 => ?_)]
    · unfold smS
      refine sm_cg _ (fun s h_s => ?_)
      rw [sgP_s w v (by have := h_w.1; omega)]
      by_cases h_1 : tB w s = 0 ∧ tA w s = v
      · rw [if_pos h_1, decide_eq_true ⟨h_s, h_1⟩, if_pos rfl]
      · rw [if_neg h_1, decide_eq_false (fun z => h_1 z.2), if_neg (by decide)]
    · rw [sgP_s w v h_2, decide_eq_false (fun z => by omega), if_neg (by decide)]
section TY
variable {E : EE} {x x1 x2 : CX} {μ σ : MemT} {w : TW}
theorem c_countSingles (c : Nat) (h_c : c < 5) (h_w : TWok w) (h_t : TC σ c w) : CT (EC x) 1 yX2_countSingles [rf (EC x) 48, rf (EC x) (2 + 7 * c)] σ (fun r τ => r = none ∧ Ons (· = 52) σ τ ∧ ∀ v : Nat, v < 64 → τ 52 v = sg w v) := by
  obtain ⟨h_y1, h_y2, h_y3, h_y4, h_y5, h_y6, h_y7⟩ := ly_code (x := x) h_c
  obtain ⟨h_w1, h_w2, h_w3⟩ := id h_w
  refine CT.ofJ (own := RX2) (cc := cX2_countSingles) (n := 3) (ret := none) (by decide) rfl cw_X2_countSingles (by decide) (Nat.le_of_ble_eq_true rfl) (ls := [some (rf (EC x) 48), some (rf (EC x) (2 + 7 * c)), none]) rfl ?_
  intro X G
  first | refine j_aload_n G dX2_countSingles_0 rfl ?_ | refine j_aload_nN G dX2_countSingles_0 rfl ?_
  refine j_getr G fl_X2_24 dX2_countSingles_1 (by first | assumption | rfl) (by rfl) ?_
  refine j_iconst G dX2_countSingles_4 ?_
  refine j_callS G ms_X2_104 dX2_countSingles_5 (x_fill 52 64 0 (by decide) rfl (by decide)) rfl rfl (by exact Nat.le_of_ble_eq_true rfl) (by decide) (kN ?_)
  refine j_iconst G dX2_countSingles_8 ?_
  refine j_istore2 G dX2_countSingles_9 (by decide) rfl ?_
  refine j_pc (p2 := 10) rfl ?_
  refine j_weak (ls' := [some (rf (EC x) 48), some (rf (EC x) (2 + 7 * c)), some (iv ((0 : Nat) : Int))]) ?_ ⟨rfl, rfl, rfl, trivial⟩
  refine down (Pr := fun l => ∀ τ : MemT, Ons (· = 52) σ τ → (∀ v : Nat, v < 64 → τ 52 v = smL w v l) → JJ (EC x) X 1 (fun r τ => r = none ∧ Ons (· = 52) σ τ ∧ ∀ v : Nat, v < 64 → τ 52 v = sg w v) 3 10 [some (rf (EC x) 48), some (rf (EC x) (2 + 7 * c)), some (iv l)] [] τ) 26 ?_ 0 (Nat.zero_le _) _ (fun j h_j => fil_cell h_j) (fun v h_v => fil_in (by omega))
  intro l h_l ih τ h_o h_v
  have h_w3l := h_w3 l
  have h_tl := h_t.2.2 l
  have h_rg := sm01_rg (fun l => tL w l = tL w l) l
  refine j_iload_n G dX2_countSingles_10 rfl ?_
  refine j_bipush G dX2_countSingles_11 (by decide) ?_
  refine j_icmp_ge G dX2_countSingles_13 (tgt := 37) (by decide) (by omega) (by omega) (fun c_13 => ?_) (fun c_13 => ?_)
  · first | refine j_aload_n G dX2_countSingles_37 rfl ?_ | refine j_aload_nN G dX2_countSingles_37 rfl ?_
    refine j_getr G fl_X2_24 dX2_countSingles_38 (by first | assumption | rfl) (by rfl) ?_
    refine j_iconst G dX2_countSingles_41 ?_
    refine j_iconst G dX2_countSingles_42 ?_
    refine j_iastore G dX2_countSingles_43 (by first | assumption | rfl) (by omega) (by omega) ?_
    refine j_iconst G dX2_countSingles_44 ?_
    refine j_istore2 G dX2_countSingles_45 (by decide) rfl ?_
    refine j_pc (p2 := 46) rfl ?_
    obtain rfl : l = 26 := by omega
    refine j_weak (ls' := [some (rf (EC x) 48), some (rf (EC x) (2 + 7 * c)), some (iv ((0 : Nat) : Int))]) ?_ ⟨rfl, rfl, rfl, trivial⟩
    refine down (Pr := fun s => ∀ τ : MemT, Ons (· = 52) σ τ → (∀ v : Nat, v < 64 → τ 52 v = (if v = 0 then 0 else smL w v 26) + smS w v s) → JJ (EC x) X 1 (fun r τ => r = none ∧ Ons (· = 52) σ τ ∧ ∀ v : Nat, v < 64 → τ 52 v = sg w v) 3 46 [some (rf (EC x) 48), some (rf (EC x) (2 + 7 * c)), some (iv s)] [] τ) (tm w) ?_ 0 (Nat.zero_le _) _ (h_o.up rfl) (fun v h_v64 => ?_)
    · intro s h_s ih2 τ h_o h_v
      have h_w2s := h_w2 s
      have h_ts := h_t.2.1 s
      · refine j_iload_n G dX2_countSingles_46 rfl ?_
        first | refine j_aload_n G dX2_countSingles_47 rfl ?_ | refine j_aload_nN G dX2_countSingles_47 rfl ?_
        refine j_getr G fl_X2_43 dX2_countSingles_48 (by first | assumption | rfl) (by rfl) ?_
        refine j_geti G fl_X2_49 dX2_countSingles_51 3 rfl (by first | assumption | rfl) (by rfl) (fun r_51 => ?_)
        try simp (disch := omega) only [up_same, up_cell, up_idx, cpm_at, fil_at] at r_51 ⊢
        rw [h_o (4 + 7 * c) (by omega), h_t.1]
        refine j_icmp_ge G dX2_countSingles_54 (tgt := 87) (by decide) (by omega) (by omega) (fun c_54 => ?_) (fun c_54 => ?_)
        · refine j_return G dX2_countSingles_87 ?_
          obtain rfl : s = tm w := by omega
          exact ⟨rfl, h_o, fun v h_v64 => (h_v v h_v64).trans (sg_of h_w v).symm⟩
        · obtain ⟨h_t1, h_t2⟩ := h_ts (by omega)
          obtain ⟨h_a, h_b⟩ := h_w2s (by omega)
          have h_va := h_v (tA w s) (by omega)
          rw [if_neg (by omega)] at h_va
          have h_r1 := sm01_rg (fun k => tL w k = tA w s) 26
          have h_r2 := sm01_rg (fun k => tB w k = 0 ∧ tA w k = tA w s) s
          have h_e1 : smL w (tA w s) 26 = sm (fun k => if tL w k = tA w s then 1 else 0) 26 := rfl
          have h_e2 : smS w (tA w s) s = sm (fun k => if tB w k = 0 ∧ tA w k = tA w s then 1 else 0) s := rfl
          first | refine j_aload_n G dX2_countSingles_57 rfl ?_ | refine j_aload_nN G dX2_countSingles_57 rfl ?_
          refine j_getr G fl_X2_110 dX2_countSingles_58 (by first | assumption | rfl) (by rfl) ?_
          refine j_iload_n G dX2_countSingles_61 rfl ?_
          refine j_iaload G dX2_countSingles_62 (by first | assumption | rfl) (by omega) (fun r_62 => ?_)
          try simp (disch := omega) only [up_same, up_cell, up_idx, cpm_at, fil_at] at r_62 ⊢
          rw [h_o (8 + 7 * c) (by omega), h_t2]
          refine j_if_ne G dX2_countSingles_63 (tgt := 81) (by decide) (by omega) (fun c_63 => ?_) (fun c_63 => ?_)
          · refine j_iinc2 G dX2_countSingles_81 (by decide) rfl rfl ?_
            refine j_goto G dX2_countSingles_84 (tgt := 46) (by decide) ?_
            refine j_pc (p2 := 46) rfl ?_
            first
            | (refine ih2 (by omega) _ (h_o.up rfl) (fun v h_v64 => ?_)
               rw [show smS w v (s + 1) = smS w v s + (if tB w s = 0 ∧ tA w s = v then 1 else 0) from rfl]
               by_cases h_e : v = tA w s
               · rw [h_e, up_same, if_neg (show ¬ tA w s = 0 by omega), if_pos (show tB w s = 0 ∧ tA w s = tA w s from ⟨by omega, rfl⟩)]
                 omega
               · rw [up_idx (by omega), show (if tB w s = 0 ∧ tA w s = v then (1 : Int) else 0) = 0 from if_neg (fun z => h_e z.2.symm), Int.add_zero]
                 exact h_v v h_v64)
            | (refine ih2 (by omega) τ h_o (fun v h_v64 => ?_)
               rw [show smS w v (s + 1) = smS w v s + (if tB w s = 0 ∧ tA w s = v then 1 else 0) from rfl, show (if tB w s = 0 ∧ tA w s = v then (1 : Int) else 0) = 0 from if_neg (fun z => by omega), Int.add_zero]
               exact h_v v h_v64)
          · first | refine j_aload_n G dX2_countSingles_66 rfl ?_ | refine j_aload_nN G dX2_countSingles_66 rfl ?_
            refine j_getr G fl_X2_24 dX2_countSingles_67 (by first | assumption | rfl) (by rfl) ?_
            first | refine j_aload_n G dX2_countSingles_70 rfl ?_ | refine j_aload_nN G dX2_countSingles_70 rfl ?_
            refine j_getr G fl_X2_113 dX2_countSingles_71 (by first | assumption | rfl) (by rfl) ?_
            refine j_iload_n G dX2_countSingles_74 rfl ?_
            refine j_iaload G dX2_countSingles_75 (by first | assumption | rfl) (by omega) (fun r_75 => ?_)
            try simp (disch := omega) only [up_same, up_cell, up_idx, cpm_at, fil_at] at r_75 ⊢
            rw [h_o (7 + 7 * c) (by omega), h_t1]
            refine j_dup2 G dX2_countSingles_76 rfl rfl ?_
            refine j_iaload G dX2_countSingles_77 (by first | assumption | rfl) (by omega) (fun r_77 => ?_)
            try simp (disch := omega) only [up_same, up_cell, up_idx, cpm_at, fil_at] at r_77 ⊢
            rw [h_va]
            refine j_iconst G dX2_countSingles_78 ?_
            refine j_iadd G dX2_countSingles_79 ?_
            refine j_iastore G dX2_countSingles_80 (by first | assumption | rfl) (by omega) (by omega) ?_
            refine j_pc (p2 := 81) rfl ?_
            refine j_iinc2 G dX2_countSingles_81 (by decide) rfl rfl ?_
            refine j_goto G dX2_countSingles_84 (tgt := 46) (by decide) ?_
            refine j_pc (p2 := 46) rfl ?_
            first
            | (refine ih2 (by omega) _ (h_o.up rfl) (fun v h_v64 => ?_)
               rw [show smS w v (s + 1) = smS w v s + (if tB w s = 0 ∧ tA w s = v then 1 else 0) from rfl]
               by_cases h_e : v = tA w s
               · rw [h_e, up_same, if_neg (show ¬ tA w s = 0 by omega), if_pos (show tB w s = 0 ∧ tA w s = tA w s from ⟨by omega, rfl⟩)]
                 omega
               · rw [up_idx (by omega), show (if tB w s = 0 ∧ tA w s = v then (1 : Int) else 0) = 0 from if_neg (fun z => h_e z.2.symm), Int.add_zero]
                 exact h_v v h_v64)
            | (refine ih2 (by omega) τ h_o (fun v h_v64 => ?_)
               rw [show smS w v (s + 1) = smS w v s + (if tB w s = 0 ∧ tA w s = v then 1 else 0) from rfl, show (if tB w s = 0 ∧ tA w s = v then (1 : Int) else 0) = 0 from if_neg (fun z => by omega), Int.add_zero]
               exact h_v v h_v64)
    · rw [show smS w v 0 = 0 from rfl, Int.add_zero]
      by_cases h_e : v = 0
      · rw [h_e, if_pos rfl]
        exact up_same _ _ _ _
      · rw [if_neg h_e, up_idx (by omega)]
        exact h_v v h_v64
  · first | refine j_aload_n G dX2_countSingles_16 rfl ?_ | refine j_aload_nN G dX2_countSingles_16 rfl ?_
    refine j_getr G fl_X2_24 dX2_countSingles_17 (by first | assumption | rfl) (by rfl) ?_
    first | refine j_aload_n G dX2_countSingles_20 rfl ?_ | refine j_aload_nN G dX2_countSingles_20 rfl ?_
    refine j_getr G fl_X2_62 dX2_countSingles_21 (by first | assumption | rfl) (by rfl) ?_
    refine j_iload_n G dX2_countSingles_24 rfl ?_
    refine j_iaload G dX2_countSingles_25 (by first | assumption | rfl) (by omega) (fun r_25 => ?_)
    try simp (disch := omega) only [up_same, up_cell, up_idx, cpm_at, fil_at] at r_25 ⊢
    rw [h_o (3 + 7 * c) (by omega), h_tl (by omega)]
    have h_vl := h_v (tL w l) (by omega)
    have h_64 := h_w3l (by omega)
    have h_sr := sm01_rg (fun k => tL w k = tL w l) l
    have h_se : smL w (tL w l) l = sm (fun k => if tL w k = tL w l then 1 else 0) l := rfl
    refine j_dup2 G dX2_countSingles_26 rfl rfl ?_
    refine j_iaload G dX2_countSingles_27 (by first | assumption | rfl) (by omega) (fun r_27 => ?_)
    try simp (disch := omega) only [up_same, up_cell, up_idx, cpm_at, fil_at] at r_27 ⊢
    rw [h_vl]
    refine j_iconst G dX2_countSingles_28 ?_
    refine j_iadd G dX2_countSingles_29 ?_
    refine j_iastore G dX2_countSingles_30 (by first | assumption | rfl) (by omega) (by omega) ?_
    refine j_pc (p2 := 31) rfl ?_
    refine j_iinc2 G dX2_countSingles_31 (by decide) rfl rfl ?_
    refine j_goto G dX2_countSingles_34 (tgt := 10) (by decide) ?_
    refine j_pc (p2 := 10) rfl ?_
    refine ih (by omega) _ (h_o.up rfl) (fun v h_v64 => ?_)
    rw [show smL w v (l + 1) = smL w v l + (if tL w l = v then 1 else 0) from rfl]
    by_cases h_e : v = tL w l
    · rw [h_e, up_same, if_pos rfl]
    · rw [up_idx (by omega), if_neg (fun z => h_e z.symm), Int.add_zero]
      exact h_v v h_v64
theorem sg_rg (h_w : TWok w) (v : Nat) : 0 ≤ sg w v ∧ sg w v ≤ 38 := by
  unfold sg sgN
  exact sm01_rg (fun k => sgP w k v = true) 38
theorem far_up {g : Nat → Int} {r s : Nat} (h_w : TWok w) (h : FarOk w r g) (h_s : s < tm w) (h_b : tB w s ≠ 0) : FarOk w r (fun v => if v = tA w s then min (g (tA w s)) (g (tB w s) + 1) else g v) := by
  intro v h_v
  obtain ⟨h_1, h_2, h_3⟩ := h v h_v
  dsimp only
  by_cases h_e : v = tA w s
  · subst h_e
    rw [if_pos rfl]
    obtain ⟨h_4, h_5, h_6⟩ := h _ (h_w.2.1 s h_s).2
    refine ⟨by omega, fun h_7 => ?_, fun d h_8 h_9 => ?_⟩
    · by_cases h_8 : g (tA w s) ≤ g (tB w s) + 1
      · rw [Int.min_eq_left h_8] at h_7 ⊢
        exact h_2 h_7
      · rw [Int.min_eq_right (by omega)] at h_7 ⊢
        rw [show (g (tB w s) + 1).toNat = (g (tB w s)).toNat + 1 by omega]
        exact (com_s h_w).2 ⟨s, h_s, h_b, rfl, h_5 (by omega)⟩
    · have := h_3 d h_8 h_9
      omega
  · rw [if_neg h_e]
    exact ⟨h_1, h_2, h_3⟩
theorem FarOk.cg {g g2 : Nat → Int} {r : Nat} (h : FarOk w r g) (h_e : ∀ v, v < 64 → g2 v = g v) : FarOk w r g2 := fun v h_v => by
  rw [h_e v h_v]
  exact h v h_v
theorem c_measureFar (c : Nat) (h_c : c < 5) (h_w : TWok w) (h_t : TC σ c w) (h_s : ∀ v : Nat, v < 64 → σ 52 v = sg w v) : CT (EC x) 1 yX2_measureFar [rf (EC x) 48, rf (EC x) (2 + 7 * c)] σ (fun r τ => r = none ∧ Ons (· = 53) σ τ ∧ FarOk w 12 (fun v => τ 53 v)) := by
  obtain ⟨h_y1, h_y2, h_y3, h_y4, h_y5, h_y6, h_y7⟩ := ly_code (x := x) h_c
  obtain ⟨h_w1, h_w2, h_w3⟩ := id h_w
  refine CT.ofJ (own := RX2) (cc := cX2_measureFar) (n := 4) (ret := none) (by decide) rfl cw_X2_measureFar (by decide) (Nat.le_of_ble_eq_true rfl) (ls := [some (rf (EC x) 48), some (rf (EC x) (2 + 7 * c)), none, none]) rfl ?_
  intro X G
  refine j_iconst G dX2_measureFar_0 ?_
  refine j_istore2 G dX2_measureFar_1 (by decide) rfl ?_
  refine j_pc (p2 := 2) rfl ?_
  refine j_weak (ls' := [some (rf (EC x) 48), some (rf (EC x) (2 + 7 * c)), some (iv ((0 : Nat) : Int)), none]) ?_ ⟨rfl, rfl, rfl, trivial⟩
  refine down (Pr := fun v => ∀ τ : MemT, Ons (· = 53) σ τ → (∀ u : Nat, u < v → τ 53 u = if 0 < sg w u then 0 else 1000) → JJ (EC x) X 1 (fun r τ => r = none ∧ Ons (· = 53) σ τ ∧ FarOk w 12 (fun v => τ 53 v)) 4 2 [some (rf (EC x) 48), some (rf (EC x) (2 + 7 * c)), some (iv v), none] [] τ) 64 ?_ 0 (Nat.zero_le _) σ (Ons.rf _ _) (fun u h_u => by omega)
  intro v h_v ih τ h_o h_f
  have h_sv := h_s v
  have h_nx : v < 64 → ∀ z : Int, z = (if 0 < sg w v then 0 else 1000) → JJ (EC x) X 1 (fun r τ => r = none ∧ Ons (· = 53) σ τ ∧ FarOk w 12 (fun v => τ 53 v)) 4 2 [some (rf (EC x) 48), some (rf (EC x) (2 + 7 * c)), some (iv ((v + 1 : Nat) : Int)), none] [] (up τ 53 v z) := fun h_1 z h_z => ih h_1 _ (h_o.up rfl) (fun u h_u => by
    by_cases h_e : u = v
    · rw [h_e, up_same, h_z]
    · rw [up_idx (by omega)]
      exact h_f u (by omega))
  refine j_iload_n G dX2_measureFar_2 rfl ?_
  refine j_bipush G dX2_measureFar_3 (by decide) ?_
  refine j_icmp_ge G dX2_measureFar_5 (tgt := 36) (by decide) (by omega) (by omega) (fun c_5 => ?_) (fun c_5 => ?_)
  · refine j_iconst G dX2_measureFar_36 ?_
    refine j_istore2 G dX2_measureFar_37 (by decide) rfl ?_
    refine j_pc (p2 := 38) rfl ?_
    obtain rfl : v = 64 := by omega
    refine j_weak (ls' := [some (rf (EC x) 48), some (rf (EC x) (2 + 7 * c)), some (iv ((0 : Nat) : Int)), none]) ?_ ⟨rfl, rfl, rfl, trivial⟩
    refine down (Pr := fun r => ∀ τ : MemT, Ons (· = 53) σ τ → FarOk w r (fun v => τ 53 v) → JJ (EC x) X 1 (fun r τ => r = none ∧ Ons (· = 53) σ τ ∧ FarOk w 12 (fun v => τ 53 v)) 4 38 [some (rf (EC x) 48), some (rf (EC x) (2 + 7 * c)), some (iv r), none] [] τ) 12 ?_ 0 (Nat.zero_le _) τ h_o (fun u h_u => ?_)
    · intro r h_r ih2 τ h_o h_F
      · refine j_iload_n G dX2_measureFar_38 rfl ?_
        refine j_bipush G dX2_measureFar_39 (by decide) ?_
        refine j_icmp_ge G dX2_measureFar_41 (tgt := 116) (by decide) (by omega) (by omega) (fun c_41 => ?_) (fun c_41 => ?_)
        · refine j_return G dX2_measureFar_116 ?_
          obtain rfl : r = 12 := by omega
          exact ⟨rfl, h_o, h_F⟩
        · refine j_iconst G dX2_measureFar_44 ?_
          refine j_istore3 G dX2_measureFar_45 (by decide) rfl ?_
          refine j_pc (p2 := 46) rfl ?_
          refine j_weak (ls' := [some (rf (EC x) 48), some (rf (EC x) (2 + 7 * c)), some (iv r), some (iv ((0 : Nat) : Int))]) ?_ ⟨rfl, rfl, rfl, rfl, trivial⟩
          refine down (Pr := fun s => ∀ τ : MemT, Ons (· = 53) σ τ → FarOk w r (fun v => τ 53 v) → (∀ q, q < s → tB w q ≠ 0 → ∀ d, d ≤ r → comB w d (tB w q) = true → τ 53 (tA w q) ≤ (d : Int) + 1) → JJ (EC x) X 1 (fun r τ => r = none ∧ Ons (· = 53) σ τ ∧ FarOk w 12 (fun v => τ 53 v)) 4 46 [some (rf (EC x) 48), some (rf (EC x) (2 + 7 * c)), some (iv r), some (iv s)] [] τ) (tm w) ?_ 0 (Nat.zero_le _) τ h_o h_F (fun q h_q => by omega)
          intro s h_ss ih3 τ h_o h_F h_Q
          have h_w2s := h_w2 s
          have h_ts := h_t.2.1 s
          refine j_iload_n G dX2_measureFar_46 rfl ?_
          first | refine j_aload_n G dX2_measureFar_47 rfl ?_ | refine j_aload_nN G dX2_measureFar_47 rfl ?_
          refine j_getr G fl_X2_43 dX2_measureFar_48 (by first | assumption | rfl) (by rfl) ?_
          refine j_geti G fl_X2_49 dX2_measureFar_51 3 rfl (by first | assumption | rfl) (by rfl) (fun r_51 => ?_)
          try simp (disch := omega) only [up_same, up_cell, up_idx, cpm_at, fil_at] at r_51 ⊢
          rw [h_o (4 + 7 * c) (by omega), h_t.1]
          refine j_icmp_ge G dX2_measureFar_54 (tgt := 110) (by decide) (by omega) (by omega) (fun c_54 => ?_) (fun c_54 => ?_)
          · refine j_iinc2 G dX2_measureFar_110 (by decide) rfl rfl ?_
            refine j_goto G dX2_measureFar_113 (tgt := 38) (by decide) ?_
            refine j_pc (p2 := 38) rfl ?_
            obtain rfl : s = tm w := by omega
            refine j_weak (ih2 (by omega) τ h_o (fun v h_v => ?_)) ⟨rfl, rfl, rfl, trivial⟩
            obtain ⟨h_1, h_2, h_3⟩ := h_F v h_v
            refine ⟨h_1, h_2, fun d h_d h_cd => ?_⟩
            by_cases h_dr : d ≤ r
            · exact h_3 d h_dr h_cd
            · obtain rfl : d = r + 1 := by omega
              obtain ⟨q, h_4, h_5, h_6, h_7⟩ := (com_s h_w).1 h_cd
              have h_8 := h_Q q h_4 h_5 r (Nat.le_refl _) h_7
              rw [h_6] at h_8
              exact h_8
          · obtain ⟨h_t1, h_t2⟩ := h_ts (by omega)
            obtain ⟨h_a, h_b⟩ := h_w2s (by omega)
            have h_Fa : 0 ≤ τ 53 (tA w s) ∧ τ 53 (tA w s) ≤ 1000 := (h_F (tA w s) (by omega)).1
            have h_Fb : 0 ≤ τ 53 (tB w s) ∧ τ 53 (tB w s) ≤ 1000 := (h_F (tB w s) (by omega)).1
            have h_Fb3 : ∀ d, d ≤ r → comB w d (tB w s) = true → τ 53 (tB w s) ≤ d := (h_F (tB w s) (by omega)).2.2
            first | refine j_aload_n G dX2_measureFar_57 rfl ?_ | refine j_aload_nN G dX2_measureFar_57 rfl ?_
            refine j_getr G fl_X2_110 dX2_measureFar_58 (by first | assumption | rfl) (by rfl) ?_
            refine j_iload_n G dX2_measureFar_61 rfl ?_
            refine j_iaload G dX2_measureFar_62 (by first | assumption | rfl) (by omega) (fun r_62 => ?_)
            try simp (disch := omega) only [up_same, up_cell, up_idx, cpm_at, fil_at] at r_62 ⊢
            rw [h_o (8 + 7 * c) (by omega), h_t2]
            refine j_if_eq G dX2_measureFar_63 (tgt := 104) (by decide) (by omega) (fun c_63 => ?_) (fun c_63 => ?_)
            · refine j_iinc3 G dX2_measureFar_104 (by decide) rfl rfl ?_
              refine j_goto G dX2_measureFar_107 (tgt := 46) (by decide) ?_
              refine j_pc (p2 := 46) rfl ?_
              first
              | (refine ih3 (by omega) _ (h_o.up rfl) ((far_up h_w h_F (s := s) (by omega) (by omega)).cg (fun v h_v => ?_)) (fun q h_q h_q0 d h_d h_cd => ?_)
                 · by_cases h_e : v = tA w s
                   · rw [if_pos h_e, h_e, up_same]
                   · rw [if_neg h_e, up_idx (by omega)]
                 · by_cases h_e : tA w q = tA w s
                   · rw [h_e, up_same]
                     by_cases h_qs : q = s
                     · subst h_qs
                       have := h_Fb3 d h_d h_cd
                       omega
                     · have := h_Q q (by omega) h_q0 d h_d h_cd
                       rw [h_e] at this
                       omega
                   · rw [up_idx (by omega)]
                     have h_qs : q ≠ s := fun z => h_e (by rw [z])
                     exact h_Q q (by omega) h_q0 d h_d h_cd)
              | (refine ih3 (by omega) τ h_o h_F (fun q h_q h_q0 d h_d h_cd => ?_)
                 have h_qs : q ≠ s := fun z => by subst z; omega
                 exact h_Q q (by omega) h_q0 d h_d h_cd)
            · first | refine j_aload_n G dX2_measureFar_66 rfl ?_ | refine j_aload_nN G dX2_measureFar_66 rfl ?_
              refine j_getr G fl_X2_27 dX2_measureFar_67 (by first | assumption | rfl) (by rfl) ?_
              first | refine j_aload_n G dX2_measureFar_70 rfl ?_ | refine j_aload_nN G dX2_measureFar_70 rfl ?_
              refine j_getr G fl_X2_113 dX2_measureFar_71 (by first | assumption | rfl) (by rfl) ?_
              refine j_iload_n G dX2_measureFar_74 rfl ?_
              refine j_iaload G dX2_measureFar_75 (by first | assumption | rfl) (by omega) (fun r_75 => ?_)
              try simp (disch := omega) only [up_same, up_cell, up_idx, cpm_at, fil_at] at r_75 ⊢
              rw [h_o (7 + 7 * c) (by omega), h_t1]
              first | refine j_aload_n G dX2_measureFar_76 rfl ?_ | refine j_aload_nN G dX2_measureFar_76 rfl ?_
              refine j_getr G fl_X2_27 dX2_measureFar_77 (by first | assumption | rfl) (by rfl) ?_
              first | refine j_aload_n G dX2_measureFar_80 rfl ?_ | refine j_aload_nN G dX2_measureFar_80 rfl ?_
              refine j_getr G fl_X2_113 dX2_measureFar_81 (by first | assumption | rfl) (by rfl) ?_
              refine j_iload_n G dX2_measureFar_84 rfl ?_
              refine j_pc (p2 := 85) rfl ?_
              refine j_iaload G dX2_measureFar_85 (by first | assumption | rfl) (by omega) (fun r_85 => ?_)
              try simp (disch := omega) only [up_same, up_cell, up_idx, cpm_at, fil_at] at r_85 ⊢
              rw [h_o (7 + 7 * c) (by omega), h_t1]
              refine j_iaload G dX2_measureFar_86 (by first | assumption | rfl) (by omega) (fun r_86 => ?_)
              try simp (disch := omega) only [up_same, up_cell, up_idx, cpm_at, fil_at] at r_86 ⊢
              first | refine j_aload_n G dX2_measureFar_87 rfl ?_ | refine j_aload_nN G dX2_measureFar_87 rfl ?_
              refine j_getr G fl_X2_27 dX2_measureFar_88 (by first | assumption | rfl) (by rfl) ?_
              first | refine j_aload_n G dX2_measureFar_91 rfl ?_ | refine j_aload_nN G dX2_measureFar_91 rfl ?_
              refine j_getr G fl_X2_110 dX2_measureFar_92 (by first | assumption | rfl) (by rfl) ?_
              refine j_iload_n G dX2_measureFar_95 rfl ?_
              refine j_iaload G dX2_measureFar_96 (by first | assumption | rfl) (by omega) (fun r_96 => ?_)
              try simp (disch := omega) only [up_same, up_cell, up_idx, cpm_at, fil_at] at r_96 ⊢
              rw [h_o (8 + 7 * c) (by omega), h_t2]
              refine j_iaload G dX2_measureFar_97 (by first | assumption | rfl) (by omega) (fun r_97 => ?_)
              try simp (disch := omega) only [up_same, up_cell, up_idx, cpm_at, fil_at] at r_97 ⊢
              refine j_iconst G dX2_measureFar_98 ?_
              refine j_iadd G dX2_measureFar_99 ?_
              refine j_min G ms_X2_37 dX2_measureFar_100 (by omega) (by omega) (by decide) (by exact Nat.le_of_ble_eq_true rfl) ?_
              refine j_pc (p2 := 103) rfl ?_
              refine j_iastore G dX2_measureFar_103 (by first | assumption | rfl) (by omega) (by omega) ?_
              refine j_iinc3 G dX2_measureFar_104 (by decide) rfl rfl ?_
              refine j_goto G dX2_measureFar_107 (tgt := 46) (by decide) ?_
              refine j_pc (p2 := 46) rfl ?_
              first
              | (refine ih3 (by omega) _ (h_o.up rfl) ((far_up h_w h_F (s := s) (by omega) (by omega)).cg (fun v h_v => ?_)) (fun q h_q h_q0 d h_d h_cd => ?_)
                 · by_cases h_e : v = tA w s
                   · rw [if_pos h_e, h_e, up_same]
                   · rw [if_neg h_e, up_idx (by omega)]
                 · by_cases h_e : tA w q = tA w s
                   · rw [h_e, up_same]
                     by_cases h_qs : q = s
                     · subst h_qs
                       have := h_Fb3 d h_d h_cd
                       omega
                     · have := h_Q q (by omega) h_q0 d h_d h_cd
                       rw [h_e] at this
                       omega
                   · rw [up_idx (by omega)]
                     have h_qs : q ≠ s := fun z => h_e (by rw [z])
                     exact h_Q q (by omega) h_q0 d h_d h_cd)
              | (refine ih3 (by omega) τ h_o h_F (fun q h_q h_q0 d h_d h_cd => ?_)
                 have h_qs : q ≠ s := fun z => by subst z; omega
                 exact h_Q q (by omega) h_q0 d h_d h_cd)
    · have h_fu := h_f u h_u
      dsimp only
      rw [h_fu]
      by_cases h_p : 0 < sg w u
      · rw [if_pos h_p]
        exact ⟨by omega, fun _ => decide_eq_true h_p, fun d _ _ => by omega⟩
      · rw [if_neg h_p]
        refine ⟨by omega, fun h => absurd h (by decide), fun d h_d h_cd => ?_⟩
        obtain rfl : d = 0 := by omega
        exact absurd (of_decide_eq_true h_cd) h_p
  · first | refine j_aload_n G dX2_measureFar_8 rfl ?_ | refine j_aload_nN G dX2_measureFar_8 rfl ?_
    refine j_getr G fl_X2_27 dX2_measureFar_9 (by first | assumption | rfl) (by rfl) ?_
    refine j_iload_n G dX2_measureFar_12 rfl ?_
    first | refine j_aload_n G dX2_measureFar_13 rfl ?_ | refine j_aload_nN G dX2_measureFar_13 rfl ?_
    refine j_getr G fl_X2_24 dX2_measureFar_14 (by first | assumption | rfl) (by rfl) ?_
    refine j_iload_n G dX2_measureFar_17 rfl ?_
    refine j_iaload G dX2_measureFar_18 (by first | assumption | rfl) (by omega) (fun r_18 => ?_)
    try simp (disch := omega) only [up_same, up_cell, up_idx, cpm_at, fil_at] at r_18 ⊢
    rw [h_o 52 (by decide), h_sv (by omega)] at *
    refine j_if_le G dX2_measureFar_19 (tgt := 26) (by decide) (by omega) (fun c_19 => ?_) (fun c_19 => ?_)
    · refine j_sipush G dX2_measureFar_26 (by decide) ?_
      refine j_iastore G dX2_measureFar_29 (by first | assumption | rfl) (by omega) (by omega) ?_
      refine j_iinc2 G dX2_measureFar_30 (by decide) rfl rfl ?_
      refine j_goto G dX2_measureFar_33 (tgt := 2) (by decide) ?_
      refine j_pc (p2 := 2) rfl ?_
      first
      | exact h_nx (by omega) _ (by rw [if_pos (by omega)])
      | exact h_nx (by omega) _ (by rw [if_neg (by omega)])
    · refine j_iconst G dX2_measureFar_22 ?_
      refine j_goto G dX2_measureFar_23 (tgt := 29) (by decide) ?_
      refine j_iastore G dX2_measureFar_29 (by first | assumption | rfl) (by omega) (by omega) ?_
      refine j_iinc2 G dX2_measureFar_30 (by decide) rfl rfl ?_
      refine j_goto G dX2_measureFar_33 (tgt := 2) (by decide) ?_
      refine j_pc (p2 := 2) rfl ?_
      first
      | exact h_nx (by omega) _ (by rw [if_pos (by omega)])
      | exact h_nx (by omega) _ (by rw [if_neg (by omega)])
end TY
