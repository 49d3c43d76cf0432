/-! weights of the class and of the reference -/
def cv (v : Int) : Int := if v = 268435456 then 100000000 else 1000 * (v / 1024) + v % 1024
theorem cv_i : cv 268435456 = 100000000 := if_pos rfl
theorem cv_a {v a b : Int} (h : v = 1024 * a + b) (h_a : 0 ≤ a ∧ a ≤ 30) (h_b : 0 ≤ b ∧ b ≤ 200) : cv v = 1000 * a + b := by
  unfold cv
  rw [if_neg (by omega)]
  omega
theorem cv_rg {m : Nat} {v : Int} (h : wv m v) (h_m : m ≤ 10) : 0 ≤ cv v ∧ cv v ≤ 100000000 ∧ (cv v = 100000000 ↔ v = 268435456) := by
  rcases h with h | ⟨a, b, h_1, h_2, h_3⟩
  · rw [h, cv_i]
    omega
  · rw [cv_a h_3 (by omega) (by omega)]
    omega
theorem cv_step {m m2 : Nat} {v R w pt : Int} (h_m : m ≤ 10) (h_m2 : m2 ≤ 10) (h_v : wv m v) (h_R : wv m2 R) (h_w : 1 ≤ w ∧ w ≤ 2) (h_p : 0 ≤ pt ∧ pt ≤ 12) : cv (if R < 268435456 ∧ 1024 * w + pt + R < v then 1024 * w + pt + R else v) = if (if cv R = 100000000 then 100000000 else cv R + 1000 * w + pt) < cv v then (if cv R = 100000000 then 100000000 else cv R + 1000 * w + pt) else cv v := by
  have h_vr := cv_rg h_v h_m
  rcases h_R with h | ⟨a, b, h_1, h_2, h_3⟩
  · rw [h, cv_i, if_neg (by omega), if_pos rfl, if_neg (by omega)]
  · rw [cv_a h_3 (by omega) (by omega), if_neg (show ¬ 1000 * a + b = 100000000 by omega)]
    rcases h_v with h | ⟨a2, b2, h_4, h_5, h_6⟩
    · rw [if_pos (by omega), h, cv_i, if_pos (by omega), cv_a (a := w + a) (b := pt + b) (by omega) (by omega) (by omega)]
      omega
    · rw [cv_a h_6 (by omega) (by omega)]
      by_cases h_7 : R < 268435456 ∧ 1024 * w + pt + R < v
      · rw [if_pos h_7, cv_a (a := w + a) (b := pt + b) (by omega) (by omega) (by omega), if_pos (by omega)]
        omega
      · rw [if_neg h_7, cv_a h_6 (by omega) (by omega), if_neg (by omega)]
def fI (σ : MemT) (c : Nat) (t : Nat → Int) (n p k : Nat) : Int := (fwA σ c t n (wA σ c t n) p (if k ≤ 12 then k else if t p < (k : Int) - 12 then 13 else 12)).1
/-- what the reference makes of an item -/
def xI (σ : MemT) (c : Nat) (t : Nat → Int) (n p k : Nat) : Int := if ftI σ c t n p k then (if cv (wA σ c t n (p + lenK σ c (slt k))) = 100000000 then 100000000 else cv (wA σ c t n (p + lenK σ c (slt k))) + 1000 * widK σ c (slt k) + ptsK σ c t p (slt k)) else 100000000
theorem wp_rg {σ : MemT} {c : Nat} (h_w : WfCode σ c) {t : Nat → Int} {n p k : Nat} (h_t : 0 ≤ t p ∧ t p ≤ 25) (h : fitK σ c t n p k = true) : (1 ≤ widK σ c k ∧ widK σ c k ≤ 2) ∧ 0 ≤ ptsK σ c t p k ∧ ptsK σ c t p k ≤ 12 := by
  have h_4 : 1 ≤ widK σ c k ∧ widK σ c k ≤ 2 := by unfold widK; repeat' split <;> omega
  refine ⟨h_4, ?_⟩
  unfold fitK at h
  unfold ptsK
  by_cases h_k : k < 12
  · rw [if_pos h_k] at h ⊢
    rw [Bool.and_eq_true, Bool.and_eq_true] at h
    have h_1 := of_decide_eq_true h.1
    obtain ⟨-, -, h_4, h_5⟩ := h_w.2.2.2 k (by omega) h_1
    have h_6 := pop_6 (σ (7 + 7 * c) k).toNat (by omega)
    have h_7 := pop_6 (σ (8 + 7 * c) k).toNat (by omega)
    omega
  · rw [if_neg h_k]
    have h_8 := h_w.1 (t p) h_t.1 (by omega)
    have h_6 := pop_6 (σ (3 + 7 * c) (t p)).toNat (by omega)
    omega
theorem fI_v {σ : MemT} {c : Nat} (h_w : WfCode σ c) {t : Nat → Int} {n p : Nat} (h_p : p < n) (h_t : ∀ i, i < n → 0 ≤ t i ∧ t i ≤ 25) (k : Nat) : wv (n - p) (fI σ c t n p k) := fwA_v h_w _ h_p (h_t p h_p) (fun q _ h_2 => wA_v h_w h_t q h_2) _
theorem fw_cv {σ : MemT} {c : Nat} (h_w : WfCode σ c) {t : Nat → Int} {n p : Nat} (h_p : p < n) (h_n : n ≤ 10) (h_t : ∀ i, i < n → 0 ≤ t i ∧ t i ≤ 25) (k : Nat) (X : Int) (h_X : X = if fitK σ c t n p k then (if cv (wA σ c t n (p + lenK σ c k)) = 100000000 then 100000000 else cv (wA σ c t n (p + lenK σ c k)) + 1000 * widK σ c k + ptsK σ c t p k) else 100000000) : cv (fwA σ c t n (wA σ c t n) p (k + 1)).1 = if X < cv (fwA σ c t n (wA σ c t n) p k).1 then X else cv (fwA σ c t n (wA σ c t n) p k).1 := by
  have h_v := fwA_v h_w (wA σ c t n) h_p (h_t p h_p) (fun q _ h_2 => wA_v h_w h_t q h_2) k
  have h_vr := cv_rg h_v (by omega)
  by_cases h_f : fitK σ c t n p k = true
  · rw [if_pos h_f] at h_X
    obtain ⟨h_1, h_2⟩ := wp_rg h_w (h_t p h_p) h_f
    have h_3 := fitK_len h_w h_p h_f
    rw [h_X, ← cv_step (by omega) (by omega) h_v (wA_v h_w h_t (p + lenK σ c k) h_3.2) h_1 h_2, ← ownK_wp]
    unfold fwA
    rw [fwK_s]
    congr 1
    by_cases h_4 : wA σ c t n (p + lenK σ c k) < 268435456 ∧ ownK σ c t p k + wA σ c t n (p + lenK σ c k) < (fwK (fitK σ c t n p) (ownK σ c t p) (fun k => wA σ c t n (p + lenK σ c k)) k).1
    · rw [if_pos ⟨h_f, h_4⟩, if_pos h_4]
    · rw [if_neg (fun z => h_4 z.2), if_neg h_4]
  · rw [if_neg h_f] at h_X
    rw [show fwA σ c t n (wA σ c t n) p (k + 1) = fwA σ c t n (wA σ c t n) p k from fwK_f (fun z => h_f z.1), if_neg (by omega)]
theorem fI_s {σ : MemT} {c : Nat} (h_w : WfCode σ c) {t : Nat → Int} {n p : Nat} (h_p : p < n) (h_n : n ≤ 10) (h_t : ∀ i, i < n → 0 ≤ t i ∧ t i ≤ 25) (k : Nat) (h_k : k < 38) : cv (fI σ c t n p (k + 1)) = if xI σ c t n p k < cv (fI σ c t n p k) then xI σ c t n p k else cv (fI σ c t n p k) := by
  have h_tp := h_t p h_p
  have h_vr := cv_rg (fI_v h_w h_p h_t k) (by omega)
  have h_e1 : ∀ m, (if k + 1 ≤ 12 then k + 1 else if t p < ((k + 1 : Nat) : Int) - 12 then 13 else 12) = m → fI σ c t n p (k + 1) = (fwA σ c t n (wA σ c t n) p m).1 := fun m h => by unfold fI; rw [h]
  have h_e2 : ∀ m, (if k ≤ 12 then k else if t p < (k : Int) - 12 then 13 else 12) = m → fI σ c t n p k = (fwA σ c t n (wA σ c t n) p m).1 := fun m h => by unfold fI; rw [h]
  by_cases h_12 : k < 12
  · rw [h_e1 (k + 1) (if_pos (by omega)), h_e2 k (if_pos (by omega))]
    refine fw_cv h_w h_p h_n h_t k _ ?_
    unfold xI ftI slt
    rw [if_pos h_12, if_pos h_12]
  · by_cases h_l : t p = (k : Int) - 12
    · rw [h_e1 13 (by rw [if_neg (by omega), if_pos (by omega)]), h_e2 12 (by split; omega; rw [if_neg (by omega)])]
      refine fw_cv h_w h_p h_n h_t 12 _ ?_
      unfold xI ftI slt
      rw [if_neg h_12, if_neg h_12, show fitK σ c t n p 12 = decide (σ (3 + 7 * c) (t p) ≠ 0) from by unfold fitK; rw [if_neg (by decide)], decide_eq_true h_l, Bool.and_true, h_l]
    · have h_x : xI σ c t n p k = 100000000 := by unfold xI ftI; rw [if_neg h_12, decide_eq_false h_l, Bool.and_false]; rfl
      rw [h_x, if_neg (by omega)]
      by_cases h_lt : t p < (k : Int) - 12
      · rw [h_e1 13 (by rw [if_neg (by omega), if_pos (by omega)]), h_e2 13 (by rw [if_neg (by omega), if_pos (by omega)])]
      · rw [h_e1 12 (by rw [if_neg (by omega), if_neg (by omega)]), h_e2 12 (by
          by_cases h : k ≤ 12
          · rw [if_pos h]; omega
          · rw [if_neg h, if_neg (by omega)])]
section WR3
variable {E : EE} {x x1 x2 : CX} {μ σ : MemT}
theorem m_findWritten (c n : Nat) (t : Nat → Int) (h_c : c < 5) (h_n : n ≤ 10) (h_tx : TX μ n t) (h_t : ∀ i, i < n → 0 ≤ t i ∧ t i ≤ 25) (h_w : WfCode σ c) (h_r : ReCode σ μ c) : CT (EM x) 3 yX12_findWritten [rf (EM x) 0, iv c] μ (rP (fun z ν => z = b2 (wA σ c t n 0 ≠ 268435456) ∧ Ons (· = 10) μ ν ∧ ∀ q : Nat, q ≤ n → ν 10 q = cv (wA σ c t n q))) := by
  have h_wv := wA_v h_w h_t
  refine CT.ofJ (own := RX12) (cc := cX12_findWritten) (n := 5) (ret := (some .boolean)) (by decide) rfl cw_X12_findWritten (by decide) (Nat.le_of_ble_eq_true rfl) (ls := [some (rf (EM x) 0), some (iv c), none, none, none]) rfl ?_
  intro X G
  first | refine j_aload_n G dX12_findWritten_0 rfl ?_ | refine j_aload_nN G dX12_findWritten_0 rfl ?_
  refine j_getr G fl_X12_37 dX12_findWritten_1 (by first | assumption | rfl) (by rfl) ?_
  first | refine j_aload_n G dX12_findWritten_4 rfl ?_ | refine j_aload_nN G dX12_findWritten_4 rfl ?_
  refine j_geti G fl_X12_161 dX12_findWritten_5 11 rfl (by first | assumption | rfl) (by rfl) (fun r_5 => ?_)
  try simp (disch := omega) only [up_same, up_cell, up_idx, cpm_at, fil_at] at r_5 ⊢
  rw [h_tx.1] at *
  refine j_iconst G dX12_findWritten_8 ?_
  refine j_iastore G dX12_findWritten_9 (by first | assumption | rfl) (by omega) (by omega) ?_
  first | refine j_aload_n G dX12_findWritten_10 rfl ?_ | refine j_aload_nN G dX12_findWritten_10 rfl ?_
  refine j_geti G fl_X12_161 dX12_findWritten_11 11 rfl (by first | assumption | rfl) (by rfl) (fun r_11 => ?_)
  try simp (disch := omega) only [up_same, up_cell, up_idx, cpm_at, fil_at] at r_11 ⊢
  rw [h_tx.1] at *
  refine j_iconst G dX12_findWritten_14 ?_
  refine j_isub G dX12_findWritten_15 ?_
  refine j_istore2 G dX12_findWritten_16 (by decide) rfl ?_
  refine j_pc (p2 := 17) rfl ?_
  have h_lp : ∀ i : Nat, i ≤ n → ∀ ν : MemT, Ons (· = 10) μ ν → (∀ q : Nat, i ≤ q → q ≤ n → ν 10 q = cv (wA σ c t n q)) → JJ (EM x) X 3 (rP (fun z ν => z = b2 (wA σ c t n 0 ≠ 268435456) ∧ Ons (· = 10) μ ν ∧ ∀ q : Nat, q ≤ n → ν 10 q = cv (wA σ c t n q))) 5 17 [some (rf (EM x) 0), some (iv c), some (iv ((i : Int) - 1)), none, none] [] ν := by
    intro i
    induction i with
    | zero =>
      intro h_i ν h_o h_v
      have h_0 : ν 10 0 = cv (wA σ c t n 0) := h_v 0 (by omega) (by omega)
      have h_cr := cv_rg (h_wv 0 (by omega)) (by omega)
      · refine j_iload_n G dX12_findWritten_17 rfl ?_
        refine j_if_lt G dX12_findWritten_18 (tgt := 101) (by decide) (by omega) (fun c_18 => ?_) (fun c_18 => ?_)
        · first | refine j_aload_n G dX12_findWritten_101 rfl ?_ | refine j_aload_nN G dX12_findWritten_101 rfl ?_
          refine j_getr G fl_X12_37 dX12_findWritten_102 (by first | assumption | rfl) (by rfl) ?_
          refine j_iconst G dX12_findWritten_105 ?_
          refine j_iaload G dX12_findWritten_106 (by first | assumption | rfl) (by omega) (fun r_106 => ?_)
          try simp (disch := omega) only [up_same, up_cell, up_idx, cpm_at, fil_at] at r_106 ⊢
          rw [h_0] at *
          refine j_ldc G kc_X12_167 dX12_findWritten_107 (z := 100000000) (by decide) ?_
          refine j_icmp_eq G dX12_findWritten_109 (tgt := 116) (by decide) (by omega) (by omega) (fun c_109 => ?_) (fun c_109 => ?_)
          · refine j_iconst G dX12_findWritten_116 ?_
            refine j_zreturn G dX12_findWritten_117 (by first | exact b2_01 _ | omega) ?_
            first
            | exact ⟨0, rfl, by rw [b2_f (by omega)], h_o, fun q h_q => h_v q (by omega) h_q⟩
            | exact ⟨1, rfl, by rw [b2_t (by omega)], h_o, fun q h_q => h_v q (by omega) h_q⟩
          · refine j_iconst G dX12_findWritten_112 ?_
            refine j_goto G dX12_findWritten_113 (tgt := 117) (by decide) ?_
            refine j_zreturn G dX12_findWritten_117 (by first | exact b2_01 _ | omega) ?_
            first
            | exact ⟨0, rfl, by rw [b2_f (by omega)], h_o, fun q h_q => h_v q (by omega) h_q⟩
            | exact ⟨1, rfl, by rw [b2_t (by omega)], h_o, fun q h_q => h_v q (by omega) h_q⟩
        · omega
    | succ i ih =>
      intro h_i ν h_o h_v
      rw [show ((i + 1 : Nat) : Int) - 1 = i by omega]
      have h_in : ∀ k : Nat, k ≤ 38 → ∀ ν : MemT, Ons (· = 10) μ ν → (∀ q : Nat, i < q → q ≤ n → ν 10 q = cv (wA σ c t n q)) → ν 10 i = cv (fI σ c t n i k) → JJ (EM x) X 3 (rP (fun z ν => z = b2 (wA σ c t n 0 ≠ 268435456) ∧ Ons (· = 10) μ ν ∧ ∀ q : Nat, q ≤ n → ν 10 q = cv (wA σ c t n q))) 5 31 [some (rf (EM x) 0), some (iv c), some (iv i), some (iv k), none] [] ν := by
        refine down (Pr := fun k => ∀ ν : MemT, Ons (· = 10) μ ν → (∀ q : Nat, i < q → q ≤ n → ν 10 q = cv (wA σ c t n q)) → ν 10 i = cv (fI σ c t n i k) → JJ (EM x) X 3 (rP (fun z ν => z = b2 (wA σ c t n 0 ≠ 268435456) ∧ Ons (· = 10) μ ν ∧ ∀ q : Nat, q ≤ n → ν 10 q = cv (wA σ c t n q))) 5 31 [some (rf (EM x) 0), some (iv c), some (iv i), some (iv k), none] [] ν) 38 ?_
        intro k h_k ih2 ν h_o h_v h_e
        have h_vr := cv_rg (fI_v h_w (show i < n by omega) h_t k) (by omega)
        have h_59 : k < 38 → JJ (EM x) X 3 (rP (fun z ν => z = b2 (wA σ c t n 0 ≠ 268435456) ∧ Ons (· = 10) μ ν ∧ ∀ q : Nat, q ≤ n → ν 10 q = cv (wA σ c t n q))) 5 59 [some (rf (EM x) 0), some (iv c), some (iv i), some (iv k), none] [iv (xI σ c t n i k)] ν := by
          intro h_k38
          have h_st := fI_s h_w (show i < n by omega) h_n h_t k h_k38
          have h_xr : 0 ≤ xI σ c t n i k ∧ xI σ c t n i k ≤ 100000000 := by
            unfold xI
            by_cases h_f : ftI σ c t n i k = true
            · rw [if_pos h_f]
              have h_f2 := ftI_fit h_f
              have h_1 := wp_rg h_w (h_t i (by omega)) h_f2
              have h_2 := fitK_len h_w (by omega) h_f2
              have h_3 := wv_rg (h_wv _ h_2.2) (by omega)
              have h_4 := cv_rg (h_wv _ h_2.2) (by omega)
              rcases h_wv _ h_2.2 with h_5 | ⟨a, b, h_5, h_6, h_7⟩
              · rw [h_5, cv_i, if_pos rfl]
                omega
              · rw [cv_a h_7 (by omega) (by omega)]
                split <;> omega
            · rw [if_neg h_f]
              omega
          generalize xI σ c t n i k = X0 at h_st h_xr ⊢
          have h_fin : ∀ y : Int, y = cv (fI σ c t n i (k + 1)) → JJ (EM x) X 3 (rP (fun z ν => z = b2 (wA σ c t n 0 ≠ 268435456) ∧ Ons (· = 10) μ ν ∧ ∀ q : Nat, q ≤ n → ν 10 q = cv (wA σ c t n q))) 5 31 [some (rf (EM x) 0), some (iv c), some (iv i), some (iv ((k + 1 : Nat) : Int)), none] [] (up ν 10 i y) := fun y h_y => ih2 h_k38 _ (h_o.up rfl) (fun q h_1 h_2 => by rw [up_idx (by omega)]; exact h_v q h_1 h_2) (by rw [up_same]; exact h_y)
          · refine j_istore4 G dX12_findWritten_59 (by decide) rfl ?_
            first | refine j_aload_n G dX12_findWritten_61 rfl ?_ | refine j_aload_nN G dX12_findWritten_61 rfl ?_
            refine j_getr G fl_X12_37 dX12_findWritten_62 (by first | assumption | rfl) (by rfl) ?_
            refine j_iload_n G dX12_findWritten_65 rfl ?_
            refine j_iload G dX12_findWritten_66 rfl ?_
            first | refine j_aload_n G dX12_findWritten_68 rfl ?_ | refine j_aload_nN G dX12_findWritten_68 rfl ?_
            refine j_getr G fl_X12_37 dX12_findWritten_69 (by first | assumption | rfl) (by rfl) ?_
            refine j_iload_n G dX12_findWritten_72 rfl ?_
            refine j_iaload G dX12_findWritten_73 (by first | assumption | rfl) (by omega) (fun r_73 => ?_)
            try simp (disch := omega) only [up_same, up_cell, up_idx, cpm_at, fil_at] at r_73 ⊢
            rw [h_e]
            refine j_icmp_ge G dX12_findWritten_74 (tgt := 82) (by decide) (by omega) (by omega) (fun c_74 => ?_) (fun c_74 => ?_)
            · first | refine j_aload_n G dX12_findWritten_82 rfl ?_ | refine j_aload_nN G dX12_findWritten_82 rfl ?_
              refine j_getr G fl_X12_37 dX12_findWritten_83 (by first | assumption | rfl) (by rfl) ?_
              refine j_iload_n G dX12_findWritten_86 rfl ?_
              refine j_iaload G dX12_findWritten_87 (by first | assumption | rfl) (by omega) (fun r_87 => ?_)
              try simp (disch := omega) only [up_same, up_cell, up_idx, cpm_at, fil_at] at r_87 ⊢
              try rw [h_e]
              refine j_iastore G dX12_findWritten_88 (by first | assumption | rfl) (by omega) (by omega) ?_
              refine j_iinc3 G dX12_findWritten_89 (by decide) rfl rfl ?_
              refine j_goto G dX12_findWritten_92 (tgt := 31) (by decide) ?_
              refine j_pc (p2 := 31) rfl ?_
              first
              | exact j_weak (h_fin _ (by rw [h_st, if_pos (by omega)])) ⟨rfl, rfl, rfl, rfl, trivial⟩
              | exact j_weak (h_fin _ (by rw [h_st, if_neg (by omega)])) ⟨rfl, rfl, rfl, rfl, trivial⟩
            · refine j_iload G dX12_findWritten_77 rfl ?_
              refine j_goto G dX12_findWritten_79 (tgt := 88) (by decide) ?_
              try rw [h_e]
              refine j_iastore G dX12_findWritten_88 (by first | assumption | rfl) (by omega) (by omega) ?_
              refine j_iinc3 G dX12_findWritten_89 (by decide) rfl rfl ?_
              refine j_goto G dX12_findWritten_92 (tgt := 31) (by decide) ?_
              refine j_pc (p2 := 31) rfl ?_
              first
              | exact j_weak (h_fin _ (by rw [h_st, if_pos (by omega)])) ⟨rfl, rfl, rfl, rfl, trivial⟩
              | exact j_weak (h_fin _ (by rw [h_st, if_neg (by omega)])) ⟨rfl, rfl, rfl, rfl, trivial⟩
        · refine j_iload_n G dX12_findWritten_31 rfl ?_
          refine j_bipush G dX12_findWritten_32 (by decide) ?_
          refine j_icmp_ge G dX12_findWritten_34 (tgt := 95) (by decide) (by omega) (by omega) (fun c_34 => ?_) (fun c_34 => ?_)
          · refine j_iinc2 G dX12_findWritten_95 (by decide) rfl rfl ?_
            refine j_goto G dX12_findWritten_98 (tgt := 17) (by decide) ?_
            refine j_pc (p2 := 17) rfl ?_
            obtain rfl : k = 38 := by omega
            have h_38 : fI σ c t n i 38 = wA σ c t n i := by
              have h_ti := h_t i (by omega)
              unfold fI
              rw [if_neg (by decide), if_pos (by omega), ← wA_s h_w (by omega)]
            refine j_weak (ih (by omega) ν h_o (fun q h_1 h_2 => ?_)) ⟨rfl, rfl, rfl, trivial⟩
            by_cases h_e2 : q = i
            · rw [h_e2, h_e, h_38]
            · exact h_v q (by omega) h_2
          · have h_rc : ReCode σ ν c := h_r.on (fun j h_1 h_2 => h_o j (by omega))
            have h_tx2 : TX ν n t := ⟨(congrFun (h_o 0 (by omega)) 11).trans h_tx.1, fun j h_j => (congrFun (h_o 9 (by omega)) j).trans (h_tx.2 j h_j)⟩
            first | refine j_aload_n G dX12_findWritten_37 rfl ?_ | refine j_aload_nN G dX12_findWritten_37 rfl ?_
            refine j_iload_n G dX12_findWritten_38 rfl ?_
            refine j_iload_n G dX12_findWritten_39 rfl ?_
            refine j_iload_n G dX12_findWritten_40 rfl ?_
            refine j_callV G mv_X12_171 dX12_findWritten_41 (m_fits (σ := σ) c k i n t h_c (by omega) (by omega) h_n h_tx2 h_w h_rc) (by first | assumption | rfl) (by decide) (by rfl) rfl rfl (by exact Nat.le_of_ble_eq_true rfl) (by decide) (kI ?_)
            refine j_if_eqB G dX12_findWritten_44 (tgt := 57) (by decide)  (fun c_44 => ?_) (fun c_44 => ?_)
            · refine j_ldc G kc_X12_167 dX12_findWritten_57 (z := 100000000) (by decide) ?_
              refine j_pc (p2 := 59) rfl ?_
              first
              | (have h_fl := fitK_len h_w (show i < n by omega) (ftI_fit c_44)
                 refine j_st ?_ (h_59 (by omega))
                 unfold xI
                 rw [if_pos c_44, h_v _ (by omega) h_fl.2]
                 done)
              | (refine j_st ?_ (h_59 (by omega))
                 unfold xI
                 rw [if_neg c_44]
                 done)
            · first | refine j_aload_n G dX12_findWritten_47 rfl ?_ | refine j_aload_nN G dX12_findWritten_47 rfl ?_
              refine j_iload_n G dX12_findWritten_48 rfl ?_
              refine j_iload_n G dX12_findWritten_49 rfl ?_
              refine j_iload_n G dX12_findWritten_50 rfl ?_
              refine j_callV G mv_X12_175 dX12_findWritten_51 (m_byItem (σ := σ) c k i n t h_c (by omega) (by omega) h_n h_w h_rc c_44) (by first | assumption | rfl) (by decide) (by rfl) rfl rfl (by exact Nat.le_of_ble_eq_true rfl) (by decide) (kI ?_)
              refine j_goto G dX12_findWritten_54 (tgt := 59) (by decide) ?_
              refine j_pc (p2 := 59) rfl ?_
              first
              | (have h_fl := fitK_len h_w (show i < n by omega) (ftI_fit c_44)
                 refine j_st ?_ (h_59 (by omega))
                 unfold xI
                 rw [if_pos c_44, h_v _ (by omega) h_fl.2]
                 done)
              | (refine j_st ?_ (h_59 (by omega))
                 unfold xI
                 rw [if_neg c_44]
                 done)
      · refine j_iload_n G dX12_findWritten_17 rfl ?_
        refine j_if_lt G dX12_findWritten_18 (tgt := 101) (by decide) (by omega) (fun c_18 => ?_) (fun c_18 => ?_)
        · omega
        · first | refine j_aload_n G dX12_findWritten_21 rfl ?_ | refine j_aload_nN G dX12_findWritten_21 rfl ?_
          refine j_getr G fl_X12_37 dX12_findWritten_22 (by first | assumption | rfl) (by rfl) ?_
          refine j_iload_n G dX12_findWritten_25 rfl ?_
          refine j_ldc G kc_X12_167 dX12_findWritten_26 (z := 100000000) (by decide) ?_
          refine j_iastore G dX12_findWritten_28 (by first | assumption | rfl) (by omega) (by omega) ?_
          refine j_iconst G dX12_findWritten_29 ?_
          refine j_istore3 G dX12_findWritten_30 (by decide) rfl ?_
          refine j_pc (p2 := 31) rfl ?_
          refine j_weak (h_in 0 (by omega) _ (h_o.up rfl) (fun q h_1 h_2 => ?_) ?_) ⟨rfl, rfl, rfl, rfl, trivial⟩
          · rw [up_idx (by omega)]
            exact h_v q (by omega) h_2
          · rw [up_same]
            exact cv_i.symm
  refine j_weak (h_lp n (by omega) _ ((Ons.rf _ _).up rfl) (fun q h_1 h_2 => ?_)) ⟨rfl, rfl, rfl, trivial⟩
  obtain rfl : q = n := by omega
  rw [up_same, wA_e]
  rfl
end WR3
