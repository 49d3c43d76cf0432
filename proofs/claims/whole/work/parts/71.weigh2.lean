def fitK (σ : MemT) (c : Nat) (t : Nat → Int) (n p k : Nat) : Bool := if k < 12 then decide ((k : Int) < σ (4 + 7 * c) 3) && (decide ((p : Int) + σ (6 + 7 * c) k ≤ n) && eqB (fun i => σ (5 + 7 * c) (4 * k + i)) (fun i => t (p + i)) (σ (6 + 7 * c) k).toNat) else decide (σ (3 + 7 * c) (t p) ≠ 0)
def lenK (σ : MemT) (c k : Nat) : Nat := if k < 12 then (σ (6 + 7 * c) k).toNat else 1
def ownK (σ : MemT) (c : Nat) (t : Nat → Int) (p k : Nat) : Int := if k < 12 then 1024 * (if σ (8 + 7 * c) k = 0 then 1 else 2) + (pop (σ (7 + 7 * c) k).toNat + pop (σ (8 + 7 * c) k).toNat) else 1024 + pop (σ (3 + 7 * c) (t p)).toNat
def fwA (σ : MemT) (c : Nat) (t : Nat → Int) (n : Nat) (a : Nat → Int) (p k : Nat) : Int × Int := fwK (fitK σ c t n p) (ownK σ c t p) (fun k => a (p + lenK σ c k)) k
def stW (σ : MemT) (c : Nat) (t : Nat → Int) (n : Nat) (a : Nat → Int) (p : Nat) : Int := (fwA σ c t n a p 13).1
def wA (σ : MemT) (c : Nat) (t : Nat → Int) (n p : Nat) : Int := dpA n (stW σ c t n) p
def iA (σ : MemT) (c : Nat) (t : Nat → Int) (n p : Nat) : Int := (fwA σ c t n (wA σ c t n) p 13).2
theorem fitK_len {σ : MemT} {c : Nat} (h_w : WfCode σ c) {t : Nat → Int} {n p k : Nat} (h_p : p < n) (h : fitK σ c t n p k = true) : 1 ≤ lenK σ c k ∧ p + lenK σ c k ≤ n := by
  unfold fitK at h
  unfold lenK
  by_cases h_k : k < 12
  · rw [if_pos h_k] at h ⊢
    rw [Bool.and_eq_true, Bool.and_eq_true] at h
    have h_1 := of_decide_eq_true h.1
    have h_2 := of_decide_eq_true h.2.1
    have h_3 := (h_w.2.2.2 k (by omega) h_1).1
    omega
  · rw [if_neg h_k]
    omega
theorem stW_cg {σ : MemT} {c : Nat} (h_w : WfCode σ c) {t : Nat → Int} {n : Nat} (a b : Nat → Int) (p : Nat) (h_p : p < n) (h : ∀ q, p < q → q ≤ n → a q = b q) (k : Nat) : fwA σ c t n a p k = fwA σ c t n b p k := fwK_cg k (fun j _ => ⟨rfl, fun h_f => ⟨rfl, by
  have := fitK_len h_w h_p h_f
  exact h _ (by omega) (by omega)⟩⟩)
theorem wA_s {σ : MemT} {c : Nat} (h_w : WfCode σ c) {t : Nat → Int} {n p : Nat} (h_p : p < n) : wA σ c t n p = (fwA σ c t n (wA σ c t n) p 13).1 := dpA_s (fun a b p h_p h => congrArg Prod.fst (stW_cg h_w a b p h_p h 13)) h_p
theorem wA_e (σ : MemT) (c : Nat) (t : Nat → Int) (n : Nat) : wA σ c t n n = 0 := dpA_end n _
/-- a weight of some places -/
def wv (m : Nat) (v : Int) : Prop := v = 268435456 ∨ ∃ a b : Int, (0 ≤ a ∧ a ≤ 2 * m) ∧ (0 ≤ b ∧ b ≤ 12 * m) ∧ v = 1024 * a + b
theorem pop_6 : ∀ a : Nat, a < 64 → pop a ≤ 6 := by decide +kernel
theorem ownK_v {σ : MemT} {c : Nat} (h_w : WfCode σ c) {t : Nat → Int} {n p k : Nat} (h_t : 0 ≤ t p ∧ t p ≤ 25) (h : fitK σ c t n p k = true) : ∃ a b : Int, (1 ≤ a ∧ a ≤ 2) ∧ (0 ≤ b ∧ b ≤ 12) ∧ ownK σ c t p k = 1024 * a + b := by
  unfold fitK at h
  unfold ownK
  by_cases h_k : k < 12
  · rw [if_pos h_k] at h ⊢
    rw [Bool.and_eq_true, Bool.and_eq_true] at h
    have h_1 := of_decide_eq_true h.1
    obtain ⟨-, -, h_4, h_5⟩ := h_w.2.2.2 k (by omega) h_1
    have h_6 := pop_6 (σ (7 + 7 * c) k).toNat (by omega)
    have h_7 := pop_6 (σ (8 + 7 * c) k).toNat (by omega)
    exact ⟨if σ (8 + 7 * c) k = 0 then 1 else 2, pop (σ (7 + 7 * c) k).toNat + pop (σ (8 + 7 * c) k).toNat, by split <;> omega, by omega, rfl⟩
  · rw [if_neg h_k]
    have h_8 := h_w.1 (t p) h_t.1 (by omega)
    have h_6 := pop_6 (σ (3 + 7 * c) (t p)).toNat (by omega)
    exact ⟨1, pop (σ (3 + 7 * c) (t p)).toNat, by omega, by omega, by omega⟩
theorem fwA_v {σ : MemT} {c : Nat} (h_w : WfCode σ c) {t : Nat → Int} {n : Nat} (a : Nat → Int) {p : Nat} (h_p : p < n) (h_t : 0 ≤ t p ∧ t p ≤ 25) (h_a : ∀ q, p < q → q ≤ n → wv (n - q) (a q)) : ∀ k, wv (n - p) (fwA σ c t n a p k).1
  | 0 => Or.inl rfl
  | k + 1 => by
    have h_1 := fwA_v h_w a h_p h_t h_a k
    unfold fwA at h_1 ⊢
    rw [fwK_s]
    split
    · rename_i h_2
      obtain ⟨h_3, h_4, h_5⟩ := h_2
      have h_6 := fitK_len h_w h_p h_3
      obtain ⟨u, v, h_7, h_8, h_9⟩ := ownK_v h_w h_t h_3
      rcases h_a (p + lenK σ c k) (by omega) (by omega) with h_b | ⟨u2, v2, h_c, h_d, h_e⟩
      · omega
      · exact Or.inr ⟨u + u2, v + v2, by omega, by omega, by dsimp only; rw [h_9, h_e]; omega⟩
    · exact h_1
theorem wA_v {σ : MemT} {c : Nat} (h_w : WfCode σ c) {t : Nat → Int} {n : Nat} (h_t : ∀ i, i < n → 0 ≤ t i ∧ t i ≤ 25) : ∀ p, p ≤ n → wv (n - p) (wA σ c t n p) := by
  refine downS n (fun p h_p ih => ?_)
  by_cases h_e : p = n
  · subst h_e
    rw [wA_e]
    exact Or.inr ⟨0, 0, by omega, by omega, by omega⟩
  · rw [wA_s h_w (by omega)]
    exact fwA_v h_w _ (by omega) (h_t p (by omega)) (fun q h_1 h_2 => ih q h_1 h_2) 13
theorem fwK_skip {fit : Nat → Bool} {own rest : Nat → Int} {k : Nat} : ∀ m, k ≤ m → (∀ j, k ≤ j → j < m → fit j = false) → fwK fit own rest m = fwK fit own rest k
  | 0, h, _ => by rw [show k = 0 by omega]
  | m + 1, h, h_f => by
    by_cases h_1 : k = m + 1
    · rw [h_1]
    · rw [fwK_f (fun z => by rw [h_f m (by omega) (by omega)] at z; exact absurd z.1 (by decide))]
      exact fwK_skip m (by omega) (fun j h_2 h_3 => h_f j h_2 (by omega))
theorem wv_rg {m : Nat} {v : Int} (h : wv m v) (h_m : m ≤ 10) : 0 ≤ v ∧ v ≤ 268435456 ∧ (v < 268435456 → v ≤ 21000) := by
  rcases h with h | ⟨a, b, h_1, h_2, h_3⟩ <;> omega
theorem eqB_cg {f g f2 g2 : Nat → Int} {n : Nat} (h : ∀ i, i < n → f i = f2 i ∧ g i = g2 i) : eqB f g n = eqB f2 g2 n := by
  rw [Bool.eq_iff_iff, eqB_iff, eqB_iff]
  exact ⟨fun z i h_i => by rw [← (h i h_i).1, ← (h i h_i).2]; exact z i h_i, fun z i h_i => by rw [(h i h_i).1, (h i h_i).2]; exact z i h_i⟩
section WG2
variable {E : EE} {x x1 x2 : CX} {μ σ : MemT}
theorem c_tryItem (k p : Nat) (own rest : Int) (h_p : p ≤ 10) (h_k : k ≤ 12) (h_o : 0 ≤ own ∧ own ≤ 3000) (h_r : 0 ≤ rest ∧ rest ≤ 268435456) : CT (EC x) 0 yX10_tryItem [rf (EC x) 43, iv k, iv p, iv own, iv rest] σ (rN (if rest < 268435456 ∧ own + rest < σ 44 p then up (up σ 44 p (own + rest)) 45 p k else σ)) := by
  refine CT.ofJ (own := RX10) (cc := cX10_tryItem) (n := 5) (ret := none) (by decide) rfl cw_X10_tryItem (by decide) (Nat.le_of_ble_eq_true rfl) (ls := [some (rf (EC x) 43), some (iv k), some (iv p), some (iv own), some (iv rest)]) rfl ?_
  intro X G
  refine j_iload G dX10_tryItem_0 rfl ?_
  refine j_ldc G kc_X10_27 dX10_tryItem_2 (z := 268435456) (by decide) ?_
  refine j_icmp_ge G dX10_tryItem_4 (tgt := 37) (by decide) (by omega) (by omega) (fun c_4 => ?_) (fun c_4 => ?_)
  · refine j_return G dX10_tryItem_37 ?_
    first
    | (rw [if_neg (by omega)]; exact ⟨rfl, rfl⟩)
    | (rw [if_pos ⟨c_4, c_17⟩]; exact ⟨rfl, rfl⟩)
  · refine j_iload_n G dX10_tryItem_7 rfl ?_
    refine j_iload G dX10_tryItem_8 rfl ?_
    refine j_iadd G dX10_tryItem_10 ?_
    first | refine j_aload_n G dX10_tryItem_11 rfl ?_ | refine j_aload_nN G dX10_tryItem_11 rfl ?_
    refine j_getr G fl_X10_9 dX10_tryItem_12 (by first | assumption | rfl) (by rfl) ?_
    refine j_iload_n G dX10_tryItem_15 rfl ?_
    refine j_iaload G dX10_tryItem_16 (by first | assumption | rfl) (by omega) (fun r_16 => ?_)
    try simp (disch := omega) only [up_same, up_cell, up_idx, cpm_at, fil_at] at r_16 ⊢
    refine j_icmp_ge G dX10_tryItem_17 (tgt := 37) (by decide) (by omega) (by omega) (fun c_17 => ?_) (fun c_17 => ?_)
    · refine j_return G dX10_tryItem_37 ?_
      first
      | (rw [if_neg (by omega)]; exact ⟨rfl, rfl⟩)
      | (rw [if_pos ⟨c_4, c_17⟩]; exact ⟨rfl, rfl⟩)
    · first | refine j_aload_n G dX10_tryItem_20 rfl ?_ | refine j_aload_nN G dX10_tryItem_20 rfl ?_
      refine j_getr G fl_X10_9 dX10_tryItem_21 (by first | assumption | rfl) (by rfl) ?_
      refine j_iload_n G dX10_tryItem_24 rfl ?_
      refine j_iload_n G dX10_tryItem_25 rfl ?_
      refine j_iload G dX10_tryItem_26 rfl ?_
      refine j_iadd G dX10_tryItem_28 ?_
      refine j_iastore G dX10_tryItem_29 (by first | assumption | rfl) (by omega) (by omega) ?_
      first | refine j_aload_n G dX10_tryItem_30 rfl ?_ | refine j_aload_nN G dX10_tryItem_30 rfl ?_
      refine j_getr G fl_X10_15 dX10_tryItem_31 (by first | assumption | rfl) (by rfl) ?_
      refine j_iload_n G dX10_tryItem_34 rfl ?_
      refine j_iload_n G dX10_tryItem_35 rfl ?_
      refine j_pc (p2 := 36) rfl ?_
      refine j_iastore G dX10_tryItem_36 (by first | assumption | rfl) (by omega) (by omega) ?_
      refine j_return G dX10_tryItem_37 ?_
      first
      | (rw [if_neg (by omega)]; exact ⟨rfl, rfl⟩)
      | (rw [if_pos ⟨c_4, c_17⟩]; exact ⟨rfl, rfl⟩)
/-- what stands in the writer's arrays from a place on -/
def WSt (σ : MemT) (c : Nat) (t : Nat → Int) (n : Nat) (τ : MemT) (i : Nat) : Prop := Ons (fun j => j = 44 ∨ j = 45) σ τ ∧ (∀ q : Nat, i ≤ q → q ≤ n → τ 44 q = wA σ c t n q) ∧ ∀ q : Nat, i ≤ q → q < n → wA σ c t n q < 268435456 → τ 45 q = iA σ c t n q
def ISt (σ : MemT) (c : Nat) (t : Nat → Int) (n i : Nat) (τ : MemT) (k : Nat) : Prop := Ons (fun j => j = 44 ∨ j = 45) σ τ ∧ (∀ q : Nat, i < q → q ≤ n → τ 44 q = wA σ c t n q) ∧ (∀ q : Nat, i < q → q < n → wA σ c t n q < 268435456 → τ 45 q = iA σ c t n q) ∧ τ 44 i = (fwA σ c t n (wA σ c t n) i k).1 ∧ ((fwA σ c t n (wA σ c t n) i k).1 < 268435456 → τ 45 i = (fwA σ c t n (wA σ c t n) i k).2)
theorem ISt.no {c : Nat} {t : Nat → Int} {n i : Nat} {τ : MemT} {k : Nat} (h : ISt σ c t n i τ k) (h_f : ¬ fitK σ c t n i k = true) : ISt σ c t n i τ (k + 1) := by
  unfold ISt at h ⊢
  rw [show fwA σ c t n (wA σ c t n) i (k + 1) = fwA σ c t n (wA σ c t n) i k from fwK_f (fun z => h_f z.1)]
  exact h
theorem ISt.try {c : Nat} {t : Nat → Int} {n i : Nat} {τ : MemT} {k : Nat} (h : ISt σ c t n i τ k) (h_f : fitK σ c t n i k = true) {own rest : Int} (h_o : own = ownK σ c t i k) (h_r : rest = wA σ c t n (i + lenK σ c k)) : ISt σ c t n i (if rest < 268435456 ∧ own + rest < τ 44 i then up (up τ 44 i (own + rest)) 45 i k else τ) (k + 1) := by
  obtain ⟨h_1, h_2, h_3, h_4, h_5⟩ := id h
  unfold ISt
  by_cases h_z : rest < 268435456 ∧ own + rest < τ 44 i
  · rw [if_pos h_z, show fwA σ c t n (wA σ c t n) i (k + 1) = (own + rest, (k : Int)) from by
      rw [h_o, h_r]
      refine fwK_t ⟨h_f, by rw [← h_r]; exact h_z.1, ?_⟩
      rw [← h_o, ← h_r]
      have := h_z.2
      rw [h_4] at this
      exact this]
    refine ⟨(h_1.up (Or.inl rfl)).up (Or.inr rfl), fun q h_6 h_7 => ?_, fun q h_6 h_7 h_8 => ?_, ?_, fun _ => up_same _ _ _ _⟩
    · rw [up_cell (by decide), up_idx (by omega)]
      exact h_2 q h_6 h_7
    · rw [up_idx (by omega), up_cell (by decide)]
      exact h_3 q h_6 h_7 h_8
    · rw [up_cell (by decide)]
      exact up_same _ _ _ _
  · rw [if_neg h_z, show fwA σ c t n (wA σ c t n) i (k + 1) = fwA σ c t n (wA σ c t n) i k from fwK_f (fun z => h_z ⟨by rw [h_r]; exact z.2.1, by rw [h_o, h_r, h_4]; exact z.2.2⟩)]
    exact ⟨h_1, h_2, h_3, h_4, h_5⟩
theorem ISt.skip {c : Nat} {t : Nat → Int} {n i : Nat} {τ : MemT} {k : Nat} (h : ISt σ c t n i τ k) (h_k : k ≤ 12) (h_c : σ (4 + 7 * c) 3 = k) : ISt σ c t n i τ 12 := by
  unfold ISt at h ⊢
  rw [show fwA σ c t n (wA σ c t n) i 12 = fwA σ c t n (wA σ c t n) i k from fwK_skip 12 h_k (fun j h_1 h_2 => by unfold fitK; rw [if_pos h_2, decide_eq_false (by omega), Bool.false_and])]
  exact h
theorem ISt.fin {c : Nat} {t : Nat → Int} {n i : Nat} {τ : MemT} (h_w : WfCode σ c) (h_i : i < n) (h : ISt σ c t n i τ 13) : WSt σ c t n τ i := by
  obtain ⟨h_1, h_2, h_3, h_4, h_5⟩ := id h
  refine ⟨h_1, fun q h_6 h_7 => ?_, fun q h_6 h_7 h_8 => ?_⟩
  · by_cases h_e : q = i
    · rw [h_e, wA_s h_w h_i]
      exact h_4
    · exact h_2 q (by omega) h_7
  · by_cases h_e : q = i
    · subst h_e
      refine h_5 ?_
      rw [← wA_s h_w h_i]
      exact h_8
    · exact h_3 q (by omega) h_7 h_8
theorem c_weigh (c q N n : Nat) (fr : Int) (t : Nat → Int) (h_c : c < 5) (h_w : WfCode σ c) (h_q : (eY (EC x))[q]? = some (20, N, [])) (h_qn : q ≠ 44 ∧ q ≠ 45) (h_N : N ≤ 300) (h_n : n ≤ 10) (h_fr : 0 ≤ fr ∧ fr + n ≤ N) (h_tq : ∀ i : Nat, i < n → σ q (fr + i) = t i) (h_t : ∀ i, i < n → 0 ≤ t i ∧ t i ≤ 25) : CT (EC x) 2 yX10_weigh [rf (EC x) 43, rf (EC x) (2 + 7 * c), rf (EC x) q, iv fr, iv n] σ (rP (fun z τ => z = wA σ c t n 0 ∧ WSt σ c t n τ 0)) := by
  obtain ⟨h_y1, h_y2, h_y3, h_y4, h_y5, h_y6, h_y7⟩ := ly_code (x := x) h_c
  obtain ⟨h_w1, h_w2, h_w3, h_w4⟩ := id h_w
  have h_wv := wA_v h_w h_t
  refine CT.ofJ (own := RX10) (cc := cX10_weigh) (n := 8) (ret := (some .int)) (by decide) rfl cw_X10_weigh (by decide) (Nat.le_of_ble_eq_true rfl) (ls := [some (rf (EC x) 43), some (rf (EC x) (2 + 7 * c)), some (rf (EC x) q), some (iv fr), some (iv n), none, none, none]) rfl ?_
  intro X G
  refine j_iload G dX10_weigh_0 rfl ?_
  refine j_if_lt G dX10_weigh_2 (tgt := 25) (by decide) (by omega) (fun c_2 => ?_) (fun c_2 => ?_)
  · refine j_ldc G kc_X10_27 dX10_weigh_25 (z := 268435456) (by decide) ?_
    refine j_ireturn G dX10_weigh_27 ?_
    omega
  · refine j_iload G dX10_weigh_5 rfl ?_
    refine j_bipush G dX10_weigh_7 (by decide) ?_
    refine j_icmp_gt G dX10_weigh_9 (tgt := 25) (by decide) (by omega) (by omega) (fun c_9 => ?_) (fun c_9 => ?_)
    · refine j_ldc G kc_X10_27 dX10_weigh_25 (z := 268435456) (by decide) ?_
      refine j_ireturn G dX10_weigh_27 ?_
      omega
    · refine j_iload_n G dX10_weigh_12 rfl ?_
      refine j_if_lt G dX10_weigh_13 (tgt := 25) (by decide) (by omega) (fun c_13 => ?_) (fun c_13 => ?_)
      · refine j_ldc G kc_X10_27 dX10_weigh_25 (z := 268435456) (by decide) ?_
        refine j_ireturn G dX10_weigh_27 ?_
        omega
      · refine j_iload_n G dX10_weigh_16 rfl ?_
        first | refine j_aload_n G dX10_weigh_17 rfl ?_ | refine j_aload_nN G dX10_weigh_17 rfl ?_
        refine j_alen G dX10_weigh_18 (by first | assumption | rfl) ?_
        refine j_iload G dX10_weigh_19 rfl ?_
        refine j_isub G dX10_weigh_21 ?_
        refine j_icmp_le G dX10_weigh_22 (tgt := 28) (by decide) (by omega) (by omega) (fun c_22 => ?_) (fun c_22 => ?_)
        · first | refine j_aload_n G dX10_weigh_28 rfl ?_ | refine j_aload_nN G dX10_weigh_28 rfl ?_
          refine j_getr G fl_X10_9 dX10_weigh_29 (by first | assumption | rfl) (by rfl) ?_
          refine j_iload G dX10_weigh_32 rfl ?_
          refine j_iconst G dX10_weigh_34 ?_
          refine j_iastore G dX10_weigh_35 (by first | assumption | rfl) (by omega) (by omega) ?_
          refine j_iload G dX10_weigh_36 rfl ?_
          refine j_iconst G dX10_weigh_38 ?_
          refine j_isub G dX10_weigh_39 ?_
          refine j_istore5 G dX10_weigh_40 (by decide) rfl ?_
          refine j_pc (p2 := 42) rfl ?_
          have h_lp : ∀ i : Nat, i ≤ n → ∀ τ : MemT, WSt σ c t n τ i → JJ (EC x) X 2 (rP (fun z τ => z = wA σ c t n 0 ∧ WSt σ c t n τ 0)) 8 42 [some (rf (EC x) 43), some (rf (EC x) (2 + 7 * c)), some (rf (EC x) q), some (iv fr), some (iv n), some (iv ((i : Int) - 1)), none, none] [] τ := by
            intro i
            induction i with
            | zero =>
              intro h_i τ h_s
              · refine j_iload G dX10_weigh_42 rfl ?_
                refine j_if_lt G dX10_weigh_44 (tgt := 195) (by decide) (by omega) (fun c_44 => ?_) (fun c_44 => ?_)
                · first | refine j_aload_n G dX10_weigh_195 rfl ?_ | refine j_aload_nN G dX10_weigh_195 rfl ?_
                  refine j_getr G fl_X10_9 dX10_weigh_196 (by first | assumption | rfl) (by rfl) ?_
                  refine j_iconst G dX10_weigh_199 ?_
                  refine j_iaload G dX10_weigh_200 (by first | assumption | rfl) (by omega) (fun r_200 => ?_)
                  try simp (disch := omega) only [up_same, up_cell, up_idx, cpm_at, fil_at] at r_200 ⊢
                  refine j_ireturn G dX10_weigh_201 ?_
                  exact ⟨_, rfl, h_s.2.1 0 (by omega) (by omega), h_s⟩
                · omega
            | succ i ih =>
              intro h_i τ h_s
              rw [show ((i + 1 : Nat) : Int) - 1 = i by omega]
              obtain ⟨h_s1, h_s2, h_s3⟩ := h_s
              have h_ti := h_t i (by omega)
              have h_in : ∀ k : Nat, k ≤ 12 → ∀ τ : MemT, (k : Int) ≤ σ (4 + 7 * c) 3 → ISt σ c t n i τ k → JJ (EC x) X 2 (rP (fun z τ => z = wA σ c t n 0 ∧ WSt σ c t n τ 0)) 8 59 [some (rf (EC x) 43), some (rf (EC x) (2 + 7 * c)), some (rf (EC x) q), some (iv fr), some (iv n), some (iv i), some (iv k), none] [] τ := by
                refine down (Pr := fun k => ∀ τ : MemT, (k : Int) ≤ σ (4 + 7 * c) 3 → ISt σ c t n i τ k → JJ (EC x) X 2 (rP (fun z τ => z = wA σ c t n 0 ∧ WSt σ c t n τ 0)) 8 59 [some (rf (EC x) 43), some (rf (EC x) (2 + 7 * c)), some (rf (EC x) q), some (iv fr), some (iv n), some (iv i), some (iv k), none] [] τ) 12 ?_
                intro k h_k ih2 τ h_kc h_is
                have h_o := h_is.1
                · refine j_iload G dX10_weigh_59 rfl ?_
                  first | refine j_aload_n G dX10_weigh_61 rfl ?_ | refine j_aload_nN G dX10_weigh_61 rfl ?_
                  refine j_getr G fl_X10_28 dX10_weigh_62 (by first | assumption | rfl) (by rfl) ?_
                  refine j_geti G fl_X10_34 dX10_weigh_65 3 rfl (by first | assumption | rfl) (by rfl) (fun r_65 => ?_)
                  try simp (disch := omega) only [up_same, up_cell, up_idx, cpm_at, fil_at] at r_65 ⊢
                  rw [h_o (4 + 7 * c) (by omega)] at *
                  refine j_icmp_ge G dX10_weigh_68 (tgt := 145) (by decide) (by omega) (by omega) (fun c_68 => ?_) (fun c_68 => ?_)
                  · have h_is2 := h_is.skip h_k (by omega)
                    have h_tt : τ q (fr + i) = t i := (congrFun (h_o q (by omega)) _).trans (h_tq i (by omega))
                    first | refine j_aload_n G dX10_weigh_145 rfl ?_ | refine j_aload_nN G dX10_weigh_145 rfl ?_
                    refine j_getr G fl_X10_58 dX10_weigh_146 (by first | assumption | rfl) (by rfl) ?_
                    first | refine j_aload_n G dX10_weigh_149 rfl ?_ | refine j_aload_nN G dX10_weigh_149 rfl ?_
                    refine j_iload_n G dX10_weigh_150 rfl ?_
                    refine j_iload G dX10_weigh_151 rfl ?_
                    refine j_iadd G dX10_weigh_153 ?_
                    refine j_iaload G dX10_weigh_154 (by first | assumption | rfl) (by omega) (fun r_154 => ?_)
                    try simp (disch := omega) only [up_same, up_cell, up_idx, cpm_at, fil_at] at r_154 ⊢
                    rw [h_tt] at *
                    refine j_iaload G dX10_weigh_155 (by first | assumption | rfl) (by omega) (fun r_155 => ?_)
                    try simp (disch := omega) only [up_same, up_cell, up_idx, cpm_at, fil_at] at r_155 ⊢
                    rw [h_o (3 + 7 * c) (by omega)] at *
                    obtain ⟨a, h_a5, h_a6⟩ := nat_of (n := 63) (z := σ (3 + 7 * c) (t i)) (h_w1 (t i) (by omega) (by omega))
                    have h_fa : fitK σ c t n i 12 = decide (σ (3 + 7 * c) (t i) ≠ 0) := by unfold fitK; rw [if_neg (by decide)]
                    have h_fo : ownK σ c t i 12 = 1024 + pop a := by unfold ownK; rw [if_neg (by decide), h_a6, Int.toNat_natCast]
                    have h_fl : lenK σ c 12 = 1 := by unfold lenK; rw [if_neg (by decide)]
                    have h_pa := pop_6 a (by omega)
                    have h_re : τ 44 ((i : Int) + 1) = wA σ c t n (i + 1) := h_is.2.1 (i + 1) (by omega) (by omega)
                    have h_rv := wv_rg (h_wv (i + 1) (by omega)) (by omega)
                    rw [h_a6] at *
                    refine j_istore6 G dX10_weigh_156 (by decide) rfl ?_
                    refine j_iload G dX10_weigh_158 rfl ?_
                    refine j_if_eq G dX10_weigh_160 (tgt := 189) (by decide) (by omega) (fun c_160 => ?_) (fun c_160 => ?_)
                    · refine j_iinc5 G dX10_weigh_189 (by decide) rfl rfl ?_
                      refine j_goto G dX10_weigh_192 (tgt := 42) (by decide) ?_
                      refine j_pc (p2 := 42) rfl ?_
                      first
                      | exact j_weak (ih (by omega) _ ((h_is2.try (by rw [h_fa]; exact decide_eq_true (by omega)) rfl (by rw [h_fl])).fin h_w (by omega))) ⟨rfl, rfl, rfl, rfl, rfl, rfl, trivial⟩
                      | exact j_weak (ih (by omega) _ ((h_is2.no (by rw [h_fa, decide_eq_true_eq]; omega)).fin h_w (by omega))) ⟨rfl, rfl, rfl, rfl, rfl, rfl, trivial⟩
                    · first | refine j_aload_n G dX10_weigh_163 rfl ?_ | refine j_aload_nN G dX10_weigh_163 rfl ?_
                      refine j_bipush G dX10_weigh_164 (by decide) ?_
                      refine j_iload G dX10_weigh_166 rfl ?_
                      refine j_sipush G dX10_weigh_168 (by decide) ?_
                      refine j_iload G dX10_weigh_171 rfl ?_
                      refine j_callS G ms_X10_61 dX10_weigh_173 (x_bitCount (a : Int)) rfl rfl (by exact Nat.le_of_ble_eq_true rfl) (by decide) (kI ?_)
                      rw [bcF_pop a (by omega)]
                      refine j_iadd G dX10_weigh_176 ?_
                      rw [← h_fo]
                      first | refine j_aload_n G dX10_weigh_177 rfl ?_ | refine j_aload_nN G dX10_weigh_177 rfl ?_
                      refine j_getr G fl_X10_9 dX10_weigh_178 (by first | assumption | rfl) (by rfl) ?_
                      refine j_iload G dX10_weigh_181 rfl ?_
                      refine j_iconst G dX10_weigh_183 ?_
                      refine j_pc (p2 := 184) rfl ?_
                      refine j_iadd G dX10_weigh_184 ?_
                      refine j_iaload G dX10_weigh_185 (by first | assumption | rfl) (by omega) (fun r_185 => ?_)
                      try simp (disch := omega) only [up_same, up_cell, up_idx, cpm_at, fil_at] at r_185 ⊢
                      rw [h_re] at *
                      refine j_callV G mv_X10_54 dX10_weigh_186 (c_tryItem 12 i (ownK σ c t i 12) (wA σ c t n (i + 1)) (by omega) (by omega) (by omega) (by omega)) (by first | assumption | rfl) (by decide) (by rfl) rfl rfl (by exact Nat.le_of_ble_eq_true rfl) (by decide) (kN ?_)
                      refine j_iinc5 G dX10_weigh_189 (by decide) rfl rfl ?_
                      refine j_goto G dX10_weigh_192 (tgt := 42) (by decide) ?_
                      refine j_pc (p2 := 42) rfl ?_
                      first
                      | exact j_weak (ih (by omega) _ ((h_is2.try (by rw [h_fa]; exact decide_eq_true (by omega)) rfl (by rw [h_fl])).fin h_w (by omega))) ⟨rfl, rfl, rfl, rfl, rfl, rfl, trivial⟩
                      | exact j_weak (ih (by omega) _ ((h_is2.no (by rw [h_fa, decide_eq_true_eq]; omega)).fin h_w (by omega))) ⟨rfl, rfl, rfl, rfl, rfl, rfl, trivial⟩
                  · obtain ⟨h_z1, h_z2, h_z3, h_z4⟩ := h_w4 k (by omega) (by omega)
                    obtain ⟨z, h_z5, h_z6⟩ := nat_of (n := 4) (z := σ (6 + 7 * c) k) (by omega)
                    obtain ⟨a, h_a5, h_a6⟩ := nat_of (n := 63) (z := σ (7 + 7 * c) k) (by omega)
                    obtain ⟨b, h_b5, h_b6⟩ := nat_of (n := 63) (z := σ (8 + 7 * c) k) (by omega)
                    have h_le : lenK σ c k = z := by unfold lenK; rw [if_pos (by omega), h_z6, Int.toNat_natCast]
                    have h_ok : ownK σ c t i k = (if σ (8 + 7 * c) k = 0 then 1 else 2) * 1024 + (pop a + pop b) := by
                      unfold ownK
                      rw [if_pos (by omega), h_a6, h_b6, Int.toNat_natCast, Int.toNat_natCast, Int.mul_comm]
                    have h_fit : (decide (fr + (i : Int) + (z : Nat) ≤ fr + n) && eqB (fun j => τ (5 + 7 * c) (4 * k + j)) (fun j => τ q (fr + (i : Int) + j)) z) = fitK σ c t n i k := by
                      unfold fitK
                      rw [if_pos (by omega), decide_eq_true (show (k : Int) < σ (4 + 7 * c) 3 by omega), Bool.true_and, h_z6, Int.toNat_natCast]
                      by_cases h_d : (i : Int) + z ≤ n
                      · rw [decide_eq_true (show fr + (i : Int) + z ≤ fr + n by omega), decide_eq_true h_d, Bool.true_and, Bool.true_and]
                        refine eqB_cg (fun j h_j => ⟨congrFun (h_o (5 + 7 * c) (by omega)) _, ?_⟩)
                        show τ q (fr + (i : Int) + (j : Int)) = t (i + j)
                        rw [h_o q (by omega), show fr + (i : Int) + (j : Int) = fr + ((i + j : Nat) : Int) by omega, h_tq (i + j) (by omega)]
                      · rw [decide_eq_false (show ¬ fr + (i : Int) + z ≤ fr + n by omega), decide_eq_false h_d, Bool.false_and, Bool.false_and]
                    first | refine j_aload_n G dX10_weigh_71 rfl ?_ | refine j_aload_nN G dX10_weigh_71 rfl ?_
                    refine j_getr G fl_X10_28 dX10_weigh_72 (by first | assumption | rfl) (by rfl) ?_
                    refine j_iload G dX10_weigh_75 rfl ?_
                    first | refine j_aload_n G dX10_weigh_77 rfl ?_ | refine j_aload_nN G dX10_weigh_77 rfl ?_
                    refine j_iload_n G dX10_weigh_78 rfl ?_
                    refine j_iload G dX10_weigh_79 rfl ?_
                    refine j_iadd G dX10_weigh_81 ?_
                    refine j_iload_n G dX10_weigh_82 rfl ?_
                    refine j_iload G dX10_weigh_83 rfl ?_
                    refine j_iadd G dX10_weigh_85 ?_
                    refine j_callV G mv_X10_40 dX10_weigh_86 (k_stands (4 + 7 * c) (5 + 7 * c) (6 + 7 * c) q N 12 k z (fr + i) (fr + n) h_y3 h_y4 h_y5 h_q (by rw [h_o (4 + 7 * c) (by omega)]; exact h_w2) (by omega) (by decide) (by omega) (by rw [h_o (6 + 7 * c) (by omega)]; exact h_z6) h_z5 (by omega) (by omega)) (by first | assumption | rfl) (by decide) (by rfl) rfl rfl (by exact Nat.le_of_ble_eq_true rfl) (by decide) (kI ?_)
                    refine j_pc (p2 := 89) rfl ?_
                    rw [h_fit]
                    refine j_if_eqB G dX10_weigh_89 (tgt := 139) (by decide)  (fun c_89 => ?_) (fun c_89 => ?_)
                    · refine j_iinc6 G dX10_weigh_139 (by decide) rfl rfl ?_
                      refine j_goto G dX10_weigh_142 (tgt := 59) (by decide) ?_
                      refine j_pc (p2 := 59) rfl ?_
                      first
                      | exact j_weak (ih2 (by omega) _ (by omega) (h_is.try c_89 rfl (by rw [h_le]))) ⟨rfl, rfl, rfl, rfl, rfl, rfl, rfl, trivial⟩
                      | exact ih2 (by omega) _ (by omega) (h_is.no c_89)
                    · first | refine j_aload_n G dX10_weigh_92 rfl ?_ | refine j_aload_nN G dX10_weigh_92 rfl ?_
                      refine j_iload G dX10_weigh_93 rfl ?_
                      refine j_callV G mv_X10_44 dX10_weigh_95 (c_cellsOf c k h_c (by omega)) (by first | assumption | rfl) (by decide) (by rfl) rfl rfl (by exact Nat.le_of_ble_eq_true rfl) (by decide) (kI ?_)
                      rw [h_o (8 + 7 * c) (by omega)] at *
                      refine j_sipush G dX10_weigh_98 (by decide) ?_
                      refine j_imul G dX10_weigh_101 ?_
                      first | refine j_aload_n G dX10_weigh_102 rfl ?_ | refine j_aload_nN G dX10_weigh_102 rfl ?_
                      refine j_iload G dX10_weigh_103 rfl ?_
                      refine j_callV G mv_X10_48 dX10_weigh_105 (c_pointsOf c k h_c (by omega) a b ((congrFun (h_o (7 + 7 * c) (by omega)) k).trans h_a6) ((congrFun (h_o (8 + 7 * c) (by omega)) k).trans h_b6) (by omega) (by omega)) (by first | assumption | rfl) (by decide) (by rfl) rfl rfl (by exact Nat.le_of_ble_eq_true rfl) (by decide) (kI ?_)
                      refine j_iadd G dX10_weigh_108 ?_
                      refine j_istore7 G dX10_weigh_109 (by decide) rfl ?_
                      rw [← h_ok]
                      obtain ⟨u, v, h_u1, h_u2, h_u3⟩ := ownK_v h_w h_ti c_89
                      have h_fl := fitK_len h_w (by omega) c_89
                      rw [h_le] at h_fl
                      have h_re : τ 44 ((i : Int) + z) = wA σ c t n (i + z) := h_is.2.1 (i + z) (by omega) (by omega)
                      have h_rv := wv_rg (h_wv (i + z) (by omega)) (by omega)
                      first | refine j_aload_n G dX10_weigh_111 rfl ?_ | refine j_aload_nN G dX10_weigh_111 rfl ?_
                      refine j_pc (p2 := 112) rfl ?_
                      refine j_iload G dX10_weigh_112 rfl ?_
                      refine j_iload G dX10_weigh_114 rfl ?_
                      refine j_iload G dX10_weigh_116 rfl ?_
                      first | refine j_aload_n G dX10_weigh_118 rfl ?_ | refine j_aload_nN G dX10_weigh_118 rfl ?_
                      refine j_getr G fl_X10_9 dX10_weigh_119 (by first | assumption | rfl) (by rfl) ?_
                      refine j_iload G dX10_weigh_122 rfl ?_
                      first | refine j_aload_n G dX10_weigh_124 rfl ?_ | refine j_aload_nN G dX10_weigh_124 rfl ?_
                      refine j_getr G fl_X10_28 dX10_weigh_125 (by first | assumption | rfl) (by rfl) ?_
                      refine j_getr G fl_X10_51 dX10_weigh_128 (by first | assumption | rfl) (by rfl) ?_
                      refine j_iload G dX10_weigh_131 rfl ?_
                      refine j_iaload G dX10_weigh_133 (by first | assumption | rfl) (by omega) (fun r_133 => ?_)
                      try simp (disch := omega) only [up_same, up_cell, up_idx, cpm_at, fil_at] at r_133 ⊢
                      rw [h_o (6 + 7 * c) (by omega), h_z6] at *
                      refine j_iadd G dX10_weigh_134 ?_
                      refine j_pc (p2 := 135) rfl ?_
                      refine j_iaload G dX10_weigh_135 (by first | assumption | rfl) (by omega) (fun r_135 => ?_)
                      try simp (disch := omega) only [up_same, up_cell, up_idx, cpm_at, fil_at] at r_135 ⊢
                      rw [h_re] at *
                      refine j_callV G mv_X10_54 dX10_weigh_136 (c_tryItem k i (ownK σ c t i k) (wA σ c t n (i + z)) (by omega) (by omega) (by omega) (by omega)) (by first | assumption | rfl) (by decide) (by rfl) rfl rfl (by exact Nat.le_of_ble_eq_true rfl) (by decide) (kN ?_)
                      refine j_iinc6 G dX10_weigh_139 (by decide) rfl rfl ?_
                      refine j_goto G dX10_weigh_142 (tgt := 59) (by decide) ?_
                      refine j_pc (p2 := 59) rfl ?_
                      first
                      | exact j_weak (ih2 (by omega) _ (by omega) (h_is.try c_89 rfl (by rw [h_le]))) ⟨rfl, rfl, rfl, rfl, rfl, rfl, rfl, trivial⟩
                      | exact ih2 (by omega) _ (by omega) (h_is.no c_89)
              · refine j_iload G dX10_weigh_42 rfl ?_
                refine j_if_lt G dX10_weigh_44 (tgt := 195) (by decide) (by omega) (fun c_44 => ?_) (fun c_44 => ?_)
                · omega
                · first | refine j_aload_n G dX10_weigh_47 rfl ?_ | refine j_aload_nN G dX10_weigh_47 rfl ?_
                  refine j_getr G fl_X10_9 dX10_weigh_48 (by first | assumption | rfl) (by rfl) ?_
                  refine j_iload G dX10_weigh_51 rfl ?_
                  refine j_ldc G kc_X10_27 dX10_weigh_53 (z := 268435456) (by decide) ?_
                  refine j_iastore G dX10_weigh_55 (by first | assumption | rfl) (by omega) (by omega) ?_
                  refine j_iconst G dX10_weigh_56 ?_
                  refine j_istore6 G dX10_weigh_57 (by decide) rfl ?_
                  refine j_pc (p2 := 59) rfl ?_
                  refine j_weak (h_in 0 (by omega) _ (by omega) ⟨h_s1.up (Or.inl rfl), fun p h_1 h_2 => ?_, fun p h_1 h_2 h_3 => ?_, up_same _ _ _ _, fun h => absurd h (Int.lt_irrefl _)⟩) ⟨rfl, rfl, rfl, rfl, rfl, rfl, rfl, trivial⟩
                  · rw [up_idx (by omega)]
                    exact h_s2 p (by omega) h_2
                  · rw [up_cell (by decide)]
                    exact h_s3 p (by omega) h_2 h_3
          refine j_weak (h_lp n (by omega) _ ⟨?_, ?_, ?_⟩) ⟨rfl, rfl, rfl, rfl, rfl, rfl, trivial⟩
          · exact (Ons.rf _ _).up (Or.inl rfl)
          · intro p h_1 h_2
            obtain rfl : p = n := by omega
            rw [wA_e]
            exact up_same _ _ _ _
          · intro p h_1 h_2
            omega
        · refine j_ldc G kc_X10_27 dX10_weigh_25 (z := 268435456) (by decide) ?_
          refine j_ireturn G dX10_weigh_27 ?_
          omega
end WG2
