/-- the same but for the first bound -/
def eqM (B B2 : MB) : Prop := B = B2 ∨ (B = (100000000, -5) ∧ B2 = (268435456, -5))
theorem eqM_s {q : MX} {f : Nat → Nat} (h : Sf q f 7 < 100000000) {B B2 : MB} (h_e : eqM B B2) : eqM (lfQ2 q f B) (lfQ2 q f B2) := by
  rcases h_e with h_e | ⟨h_1, h_2⟩
  · rw [h_e]
    exact Or.inl rfl
  · unfold lfQ2
    rw [h_1, h_2]
    by_cases h_3 : okm q f 7 = true
    · rw [if_pos ⟨h_3, h⟩, if_pos ⟨h_3, by show Sf q f 7 < 268435456; omega⟩]
      exact Or.inl rfl
    · rw [if_neg (fun z => h_3 z.1), if_neg (fun z => h_3 z.1)]
      exact Or.inr ⟨rfl, rfl⟩
theorem dg5_lt (n p : Nat) : dg5 n p < 5 := Nat.mod_lt _ (by decide)
theorem Sf_rg {q : MX} (h : QR q) {f : Nat → Nat} (h_f : ∀ p, p < 7 → f p < 5) : ∀ p, p ≤ 7 → 0 ≤ Sf q f p ∧ Sf q f p ≤ 2600 * p
  | 0, _ => by show (0 : Int) ≤ 0 ∧ (0 : Int) ≤ _; omega
  | p + 1, h_p => by
    have h_1 := Sf_rg h h_f p (by omega)
    have h_2 := (h p (f p) (by omega) (h_f p (by omega))).2.1
    show 0 ≤ Sf q f p + q.1 p (f p) ∧ Sf q f p + q.1 p (f p) ≤ _
    omega
theorem lp_eqM {q : MX} (h : QR q) : ∀ k, eqM (lpN (fun n => lfQ2 q (dg5 n)) 0 k (100000000, -5)) (lpN (fun n => lfQ2 q (dg5 n)) 0 k (268435456, -5))
  | 0 => Or.inr ⟨rfl, rfl⟩
  | k + 1 => eqM_s (by
    have := Sf_rg h (f := dg5 (0 + k)) (fun p _ => dg5_lt _ _) 7 (Nat.le_refl _)
    omega) (lp_eqM h k)
theorem lf_cg (q : MX) (f g : Nat → Nat) (h : ∀ i, i < 7 → f i = g i) : lfQ2 q f = lfQ2 q g := by
  funext B
  unfold lfQ2
  rw [okm_cg q 7 h, Sf_cg q 7 h, Df_cg 7 h]
theorem lp_be (σ : MemT) {n : Nat} (h : QR (mxD σ n)) : (lpN (fun k => lfQ2 (mxD σ n) (dg5 k)) 0 78125 (100000000, -5)).2 = beS σ n := by
  have h_1 := blk (lfQ2 (mxD σ n)) (lf_cg _) 7 0 (fun _ => 0) (268435456, -5) (Nat.le_refl _) (fun q h_q => by omega)
  rw [GR_FR (mxD σ n) 7 _ _ (Nat.le_refl _)] at h_1
  have h_2 : lpN (fun k => lfQ2 (mxD σ n) (dg5 k)) 0 78125 (268435456, -5) = FR (mxD σ n) 7 0 0 0 (268435456, -5) := h_1
  unfold beS
  rw [← h_2]
  rcases lp_eqM h 78125 with h_3 | ⟨h_3, h_4⟩
  · rw [h_3]
  · rw [h_3, h_4]
def myB (σ : MemT) (f : Nat → Nat) (i : Nat) : Bool := !anyB (fun p => decide (i ≤ p) && !decide (f p = 0 ∨ eP (fun l => σ 195 l) p = true)) 7
theorem myB_iff {σ : MemT} {f : Nat → Nat} {i : Nat} : myB σ f i = true ↔ ∀ p, i ≤ p → p < 7 → f p = 0 ∨ eP (fun l => σ 195 l) p = true := by
  unfold myB
  rw [Bool.not_eq_true', Bool.eq_false_iff, Ne, anyB_iff]
  constructor
  · intro h p h_1 h_2
    refine Decidable.byContradiction (fun z => h ⟨p, h_2, ?_⟩)
    rw [decide_eq_true h_1, decide_eq_false z]
    rfl
  · rintro h ⟨p, h_1, h_2⟩
    rw [Bool.and_eq_true, Bool.not_eq_true', decide_eq_false_iff_not] at h_2
    exact h_2.2 (h p (of_decide_eq_true h_2.1) h_1)
theorem myB_s {σ : MemT} {f : Nat → Nat} {i : Nat} (h : i < 7) : myB σ f i = (myB σ f (i + 1) && decide (f i = 0 ∨ eP (fun l => σ 195 l) i = true)) := by
  rw [Bool.eq_iff_iff, Bool.and_eq_true, myB_iff, myB_iff, decide_eq_true_eq]
  constructor
  · intro h_1
    exact ⟨fun p h_2 h_3 => h_1 p (by omega) h_3, h_1 i (Nat.le_refl _) h⟩
  · rintro ⟨h_1, h_2⟩ p h_3 h_4
    by_cases h_e : p = i
    · rw [h_e]
      exact h_2
    · exact h_1 p (by omega) h_4
section BY
variable {E : EE} {x x1 x2 : CX} {μ σ : MemT}
theorem m_best (n : Nat) (h_n : σ 0 8 = n) (h_20 : n ≤ 20) (h_wp : WfPart σ) (h_wc : ∀ c, c < 5 → WfCode σ c) (h_rp : RePart σ μ) (h_rc : ∀ c, c < 5 → ReCode σ μ c) (h_rd : ReRd σ μ) : CT (EM x) 2 yX12_best [rf (EM x) 0] μ (rP (fun z ν => z = beS σ n ∧ KM μ ν)) := by
  have h_qr := mxD_qr (n := n) h_20 h_wc
  have h_fin := lp_be σ h_qr
  generalize h_st : (fun k => lfQ2 (mxD σ n) (dg5 k)) = st at h_fin
  have h_sta : ∀ k B, st k B = lfQ2 (mxD σ n) (dg5 k) B := fun k B => by rw [← h_st]
  refine CT.ofJ (own := RX12) (cc := cX12_best) (n := 10) (ret := (some .int)) (by decide) rfl cw_X12_best (by decide) (Nat.le_of_ble_eq_true rfl) (ls := [some (rf (EM x) 0), none, none, none, none, none, none, none, none, none]) rfl ?_
  intro X G
  first | refine j_aload_n G dX12_best_0 rfl ?_ | refine j_aload_nN G dX12_best_0 rfl ?_
  refine j_callV G mv_X12_358 dX12_best_1 (m_layAnew (σ := σ) n h_n h_20 h_wp h_wc h_rp h_rc h_rd) (by first | exact rfl | assumption) (by decide) (by rfl) rfl rfl (by exact Nat.le_of_ble_eq_true rfl) (by first | decide | omega) (kM (fun ν h_1 => ?_))
  obtain ⟨h_o, h_an⟩ := h_1
  refine j_bipush G dX12_best_4 (by decide) ?_
  refine j_istore1 G dX12_best_6 (by decide) rfl ?_
  refine j_ldc G kc_X12_167 dX12_best_7 (z := 100000000) (by decide) ?_
  refine j_istore2 G dX12_best_9 (by decide) rfl ?_
  refine j_iconst G dX12_best_10 ?_
  refine j_istore3 G dX12_best_11 (by decide) rfl ?_
  refine j_pc (p2 := 12) rfl ?_
  refine j_weak (ls' := [some (rf (EM x) 0), some (iv (lpN st 0 0 (100000000, -5)).2), some (iv (lpN st 0 0 (100000000, -5)).1), some (iv ((0 : Nat) : Int)), none, none, none, none, none, none]) ?_ ⟨rfl, rfl, rfl, rfl, trivial⟩
  refine down (Pr := fun k => ∀ ν2 : MemT, Ons (· = 33) ν ν2 → (0 ≤ (lpN st 0 k (100000000, -5)).1 ∧ (lpN st 0 k (100000000, -5)).1 ≤ 100000000) → JJ (EM x) X 2 (rP (fun z ν => z = beS σ n ∧ KM μ ν)) 10 12 [some (rf (EM x) 0), some (iv (lpN st 0 k (100000000, -5)).2), some (iv (lpN st 0 k (100000000, -5)).1), some (iv k), none, none, none, none, none, none] [] ν2) 78125 ?_ 0 (Nat.zero_le _) ν (Ons.rf _ _) (by show (0 : Int) ≤ 100000000 ∧ (100000000 : Int) ≤ 100000000; omega)
  intro k h_k ih ν2 h_o2 h_Br
  have h_step : lpN st 0 (k + 1) (100000000, -5) = lfQ2 (mxD σ n) (dg5 k) (lpN st 0 k (100000000, -5)) := by
    show st (0 + k) (lpN st 0 k (100000000, -5)) = _
    rw [h_sta, Nat.zero_add]
  generalize h_Bk : lpN st 0 k (100000000, -5) = B at h_step h_Br ⊢
  have h_f5 : ∀ p, p < 7 → dg5 k p < 5 := fun p _ => dg5_lt _ _
  have h_Sr := Sf_rg h_qr h_f5
  have h_165 : k < 78125 → ∀ (ν3 : MemT) (B2 : MB) (l4 l5 l6 l7 l8 l9 : Option Value), Ons (· = 33) ν ν3 → B2 = lfQ2 (mxD σ n) (dg5 k) B → (0 ≤ B2.1 ∧ B2.1 ≤ 100000000) → JJ (EM x) X 2 (rP (fun z ν => z = beS σ n ∧ KM μ ν)) 10 165 [some (rf (EM x) 0), some (iv B2.2), some (iv B2.1), some (iv k), l4, l5, l6, l7, l8, l9] [] ν3 := by
    intro h_k5 ν3 B2 l4 l5 l6 l7 l8 l9 h_o3 h_B2 h_B2r
    rw [← h_step] at h_B2
    have h_z := ih h_k5 ν3 h_o3 (by rw [← h_B2]; exact h_B2r)
    rw [← h_B2] at h_z
    · refine j_iinc3 G dX12_best_165 (by decide) rfl rfl ?_
      refine j_goto G dX12_best_168 (tgt := 12) (by decide) ?_
      refine j_pc (p2 := 12) rfl ?_
      exact j_weak h_z ⟨rfl, rfl, rfl, rfl, trivial⟩
  refine j_iload_n G dX12_best_12 rfl ?_
  refine j_ldcw G kc_X12_361 dX12_best_13 (z := 78125) (by decide) ?_
  refine j_icmp_ge G dX12_best_16 (tgt := 171) (by decide) (by omega) (by omega) (fun c_16 => ?_) (fun c_16 => ?_)
  · refine j_iload_n G dX12_best_171 rfl ?_
    refine j_ireturn G dX12_best_172 ?_
    obtain rfl : k = 78125 := by omega
    rw [h_Bk] at h_fin
    exact ⟨_, rfl, h_fin, ⟨fun j h_1 h_2 => by rw [h_o2 j (fun z => h_1 (by unfold scM; omega)), h_o j (fun z => h_1 (by unfold scM; omega))], fun j _ => by rw [h_o2 0 (by decide), h_o 0 (by decide)]⟩⟩
  · refine j_iload_n G dX12_best_19 rfl ?_
    refine j_istore4 G dX12_best_20 (by decide) rfl ?_
    refine j_iconst G dX12_best_22 ?_
    refine j_istore5 G dX12_best_23 (by decide) rfl ?_
    refine j_iconst G dX12_best_25 ?_
    refine j_istore6 G dX12_best_26 (by decide) rfl ?_
    refine j_iconst G dX12_best_28 ?_
    refine j_istore7 G dX12_best_29 (by decide) rfl ?_
    refine j_iconst G dX12_best_31 ?_
    refine j_istore8 G dX12_best_32 (by decide) rfl ?_
    refine j_bipush G dX12_best_34 (by decide) ?_
    refine j_pc (p2 := 36) rfl ?_
    refine j_istore9 G dX12_best_36 (by decide) rfl ?_
    refine j_pc (p2 := 38) rfl ?_
    have h_dv : ∀ i : Nat, i < 7 → k / 5 ^ (6 - i) / 5 = k / 5 ^ (7 - i) := fun i h_i => by rw [Nat.div_div_eq_div_mul, show 7 - i = (6 - i) + 1 by omega, Nat.pow_succ]
    have h_lp : ∀ i : Nat, i ≤ 7 → ∀ ν3 : MemT, Ons (· = 33) ν ν3 → (∀ p : Nat, i ≤ p → p < 7 → ν3 33 p = (dg5 k p : Nat)) → JJ (EM x) X 2 (rP (fun z ν => z = beS σ n ∧ KM μ ν)) 10 38 [some (rf (EM x) 0), some (iv B.2), some (iv B.1), some (iv k), some (iv (k / 5 ^ (7 - i) : Nat)), some (iv (Df (dg5 k) 7 - (10 ^ (7 - i) : Nat) * Df (dg5 k) i)), some (iv (10 ^ (7 - i) : Nat)), some (iv (Sf (mxD σ n) (dg5 k) 7 - Sf (mxD σ n) (dg5 k) i)), some (iv (b2 (myB σ (dg5 k) i = true))), some (iv ((i : Int) - 1))] [] ν3 := by
      intro i
      induction i with
      | zero =>
        intro h_i ν3 h_o3 h_v
        rw [show Sf (mxD σ n) (dg5 k) 7 - Sf (mxD σ n) (dg5 k) 0 = Sf (mxD σ n) (dg5 k) 7 from Int.sub_zero _, show Df (dg5 k) 7 - (10 ^ (7 - 0) : Nat) * Df (dg5 k) 0 = Df (dg5 k) 7 from by rw [show Df (dg5 k) 0 = 0 from rfl, Int.mul_zero, Int.sub_zero]]
        have h_S7 := h_Sr 7 (Nat.le_refl _)
        have h_ok := okm_mx (σ := σ) n h_wp h_wc h_f5
        have h_my : myB σ (dg5 k) 0 = true ↔ ∀ p, p < 7 → dg5 k p = 0 ∨ eP (fun l => σ 195 l) p = true := by
          rw [myB_iff]
          exact ⟨fun h p h_p => h p (Nat.zero_le _) h_p, fun h p _ h_p => h p h_p⟩
        have h_no : ¬ (okm (mxD σ n) (dg5 k) 7 = true ∧ Sf (mxD σ n) (dg5 k) 7 < B.1) → B = lfQ2 (mxD σ n) (dg5 k) B := fun h => by unfold lfQ2; rw [if_neg h]
        have h_ye : (okm (mxD σ n) (dg5 k) 7 = true ∧ Sf (mxD σ n) (dg5 k) 7 < B.1) → (Sf (mxD σ n) (dg5 k) 7, Df (dg5 k) 7) = lfQ2 (mxD σ n) (dg5 k) B := fun h => by unfold lfQ2; rw [if_pos h]
        · refine j_iload G dX12_best_38 rfl ?_
          refine j_if_lt G dX12_best_40 (tgt := 141) (by decide) (by omega) (fun c_40 => ?_) (fun c_40 => ?_)
          · refine j_iload G dX12_best_141 rfl ?_
            refine j_if_eqB G dX12_best_143 (tgt := 165) (by decide)  (fun c_143 => ?_) (fun c_143 => ?_)
            · exact h_165 (by omega) ν3 B _ _ _ _ _ _ h_o3 (h_no (fun z => c_143 (h_my.2 (h_ok.1 z.1).1))) h_Br
            · refine j_iload G dX12_best_146 rfl ?_
              refine j_iload_n G dX12_best_148 rfl ?_
              refine j_icmp_ge G dX12_best_149 (tgt := 165) (by decide) (by omega) (by omega) (fun c_149 => ?_) (fun c_149 => ?_)
              · exact h_165 (by omega) ν3 B _ _ _ _ _ _ h_o3 (h_no (fun z => by omega)) h_Br
              · first | refine j_aload_n G dX12_best_152 rfl ?_ | refine j_aload_nN G dX12_best_152 rfl ?_
                refine j_callV G mv_X12_351 dX12_best_153 (m_mayMix (σ := σ) (fun p => (dg5 k p : Nat)) (fun p h_p => by have := h_f5 p h_p; omega) (fun p h_p => h_v p (by omega) h_p) h_wp h_wc (h_rp.on (by rw [h_o3 32 (by decide), h_o 32 (by decide)])) (fun c h_c => (h_rc c h_c).on (fun j h_1 h_2 => by rw [h_o3 j (by omega), h_o j (by omega)]))) (by first | exact rfl | assumption) (by decide) (by rfl) rfl rfl (by exact Nat.le_of_ble_eq_true rfl) (by first | decide | omega) (kI ?_)
                refine j_if_eqB G dX12_best_156 (tgt := 165) (by decide)  (fun c_156 => ?_) (fun c_156 => ?_)
                · exact h_165 (by omega) ν3 B _ _ _ _ _ _ h_o3 (h_no (fun z => c_156 (h_ok.1 z.1).2)) h_Br
                · refine j_iload G dX12_best_159 rfl ?_
                  refine j_istore2 G dX12_best_161 (by decide) rfl ?_
                  refine j_iload G dX12_best_162 rfl ?_
                  refine j_istore1 G dX12_best_164 (by decide) rfl ?_
                  refine j_pc (p2 := 165) rfl ?_
                  exact h_165 (by omega) ν3 (Sf (mxD σ n) (dg5 k) 7, Df (dg5 k) 7) _ _ _ _ _ _ h_o3 (h_ye ⟨h_ok.2 ⟨h_my.1 c_143, c_156⟩, c_149⟩) (by show 0 ≤ Sf (mxD σ n) (dg5 k) 7 ∧ Sf (mxD σ n) (dg5 k) 7 ≤ 100000000; omega)
          · omega
      | succ i ih5 =>
        intro h_i ν3 h_o3 h_v
        rw [show ((i + 1 : Nat) : Int) - 1 = i by omega, show 7 - (i + 1) = 6 - i by omega]
        have h_dg : ((k / 5 ^ (6 - i) : Nat) : Int) % 5 = (dg5 k i : Nat) := by unfold dg5; omega
        have h_d5 : ((k / 5 ^ (6 - i) : Nat) : Int) / 5 = (k / 5 ^ (7 - i) : Nat) := by rw [← h_dv i (by omega)]; omega
        have h_kle : k / 5 ^ (6 - i) ≤ k := Nat.div_le_self _ _
        have h_10 : (10 ^ (7 - i) : Nat) = 10 ^ (6 - i) * 10 := by rw [show 7 - i = (6 - i) + 1 by omega, Nat.pow_succ]
        have h_f5i := h_f5 i (by omega)
        have h_Ss : Sf (mxD σ n) (dg5 k) (i + 1) = Sf (mxD σ n) (dg5 k) i + (mxD σ n).1 i (dg5 k i) := rfl
        have h_Ds : Df (dg5 k) (i + 1) = 10 * Df (dg5 k) i + (dg5 k i : Nat) := rfl
        have h_ms := myB_s (σ := σ) (f := dg5 k) (i := i) (by omega)
        have h_ai : ν3 34 (5 * (i : Int) + (dg5 k i : Nat)) = (mxD σ n).1 i (dg5 k i) := by rw [h_o3 34 (by decide)]; exact h_an i (dg5 k i) (by omega) h_f5i
        have h_D2 : Df (dg5 k) 7 - (10 ^ (6 - i) : Nat) * Df (dg5 k) (i + 1) + (10 ^ (6 - i) : Nat) * (dg5 k i : Nat) = Df (dg5 k) 7 - (10 ^ (7 - i) : Nat) * Df (dg5 k) i := by
          rw [h_Ds, h_10, Int.mul_add, Int.natCast_mul, Int.mul_assoc, show ((10 : Nat) : Int) = 10 from rfl]
          omega
        have h_T2 : ((10 ^ (6 - i) : Nat) : Int) * 10 = (10 ^ (7 - i) : Nat) := by rw [h_10]; omega
        have h_S2 : Sf (mxD σ n) (dg5 k) 7 - Sf (mxD σ n) (dg5 k) (i + 1) + (mxD σ n).1 i (dg5 k i) = Sf (mxD σ n) (dg5 k) 7 - Sf (mxD σ n) (dg5 k) i := by omega
        generalize (k / 5 ^ (6 - i) : Nat) = lft at h_dg h_d5 h_kle h_dv ⊢
        have h_lo := bo_0 (p := fun l => decide (σ 195 l = (i : Int))) (m := 26)
        have h_lr := bo_lt (fun l => decide (σ 195 l = (i : Int))) 26
        have h_nx : ∀ z : Int, z = b2 ((myB σ (dg5 k) (i + 1) && decide (dg5 k i = 0 ∨ eP (fun l => σ 195 l) i = true)) = true) → JJ (EM x) X 2 (rP (fun z ν => z = beS σ n ∧ KM μ ν)) 10 83 [some (rf (EM x) 0), some (iv B.2), some (iv B.1), some (iv k), some (iv (lft : Nat)), some (iv (Df (dg5 k) 7 - (10 ^ (6 - i) : Nat) * Df (dg5 k) (i + 1))), some (iv (10 ^ (6 - i) : Nat)), some (iv (Sf (mxD σ n) (dg5 k) 7 - Sf (mxD σ n) (dg5 k) (i + 1))), some (iv (b2 (myB σ (dg5 k) (i + 1) = true))), some (iv i)] [iv z] (up ν3 33 i (dg5 k i : Nat)) := by
          intro z h_z
          rw [← h_ms] at h_z
          rw [h_z]
          · refine j_istore8 G dX12_best_83 (by decide) rfl ?_
            refine j_iload G dX12_best_85 rfl ?_
            first | refine j_aload_n G dX12_best_87 rfl ?_ | refine j_aload_nN G dX12_best_87 rfl ?_
            refine j_getr G fl_X12_110 dX12_best_88 (by first | exact rfl | assumption) (by rfl) ?_
            refine j_iconst G dX12_best_91 ?_
            refine j_iload G dX12_best_92 rfl ?_
            refine j_imul G dX12_best_94 ?_
            first | refine j_aload_n G dX12_best_95 rfl ?_ | refine j_aload_nN G dX12_best_95 rfl ?_
            refine j_getr G fl_X12_107 dX12_best_96 (by first | exact rfl | assumption) (by rfl) ?_
            refine j_iload G dX12_best_99 rfl ?_
            refine j_iaload G dX12_best_101 (by first | exact rfl | assumption) (by omega) (fun r_101 => ?_)
            try simp (disch := omega) only [up_same, up_cell, up_idx, cpm_at, fil_at] at r_101 ⊢
            refine j_pc (p2 := 102) rfl ?_
            refine j_iadd G dX12_best_102 ?_
            refine j_iaload G dX12_best_103 (by first | exact rfl | assumption) (by omega) (fun r_103 => ?_)
            try simp (disch := omega) only [up_same, up_cell, up_idx, cpm_at, fil_at] at r_103 ⊢
            rw [h_ai]
            refine j_iadd G dX12_best_104 ?_
            rw [h_S2]
            refine j_istore7 G dX12_best_105 (by decide) rfl ?_
            refine j_iload G dX12_best_107 rfl ?_
            refine j_iload G dX12_best_109 rfl ?_
            first | refine j_aload_n G dX12_best_111 rfl ?_ | refine j_aload_nN G dX12_best_111 rfl ?_
            refine j_getr G fl_X12_107 dX12_best_112 (by first | exact rfl | assumption) (by rfl) ?_
            refine j_iload G dX12_best_115 rfl ?_
            refine j_iaload G dX12_best_117 (by first | exact rfl | assumption) (by omega) (fun r_117 => ?_)
            try simp (disch := omega) only [up_same, up_cell, up_idx, cpm_at, fil_at] at r_117 ⊢
            refine j_imul G dX12_best_118 ?_
            refine j_iadd G dX12_best_119 ?_
            refine j_pc (p2 := 120) rfl ?_
            rw [h_D2]
            refine j_istore5 G dX12_best_120 (by decide) rfl ?_
            refine j_iload G dX12_best_122 rfl ?_
            refine j_bipush G dX12_best_124 (by decide) ?_
            refine j_imul G dX12_best_126 ?_
            rw [h_T2]
            refine j_istore6 G dX12_best_127 (by decide) rfl ?_
            refine j_iload G dX12_best_129 rfl ?_
            refine j_iconst G dX12_best_131 ?_
            refine j_idiv G dX12_best_132 (by omega) (by omega) ?_
            rw [h_d5]
            refine j_istore4 G dX12_best_133 (by decide) rfl ?_
            refine j_iinc9 G dX12_best_135 (by decide) rfl rfl ?_
            refine j_goto G dX12_best_138 (tgt := 38) (by decide) ?_
            refine j_pc (p2 := 38) rfl ?_
            refine ih5 (by omega) _ (h_o3.up rfl) (fun p h_1 h_2 => ?_)
            by_cases h_e : p = i
            · rw [h_e]
              exact up_same _ _ _ _
            · rw [up_idx (by omega)]
              exact h_v p (by omega) h_2
        have h_rp3 : RePart σ (up ν3 33 i (dg5 k i : Nat)) := h_rp.on (by rw [up_fn (by decide), h_o3 32 (by decide), h_o 32 (by decide)])
        · refine j_iload G dX12_best_38 rfl ?_
          refine j_if_lt G dX12_best_40 (tgt := 141) (by decide) (by omega) (fun c_40 => ?_) (fun c_40 => ?_)
          · omega
          · first | refine j_aload_n G dX12_best_43 rfl ?_ | refine j_aload_nN G dX12_best_43 rfl ?_
            refine j_getr G fl_X12_107 dX12_best_44 (by first | exact rfl | assumption) (by rfl) ?_
            refine j_iload G dX12_best_47 rfl ?_
            refine j_iload G dX12_best_49 rfl ?_
            refine j_iconst G dX12_best_51 ?_
            refine j_irem G dX12_best_52 (by omega) (by omega) ?_
            rw [h_dg]
            refine j_iastore G dX12_best_53 (by first | exact rfl | assumption) (by omega) (by omega) ?_
            refine j_iload G dX12_best_54 rfl ?_
            refine j_if_eqB G dX12_best_56 (tgt := 82) (by decide)  (fun c_56 => ?_) (fun c_56 => ?_)
            · refine j_iconst G dX12_best_82 ?_
              refine j_pc (p2 := 83) rfl ?_
              exact h_nx 0 (by rw [Bool.eq_false_iff.2 c_56, Bool.false_and]; rfl)
            · first | refine j_aload_n G dX12_best_59 rfl ?_ | refine j_aload_nN G dX12_best_59 rfl ?_
              refine j_getr G fl_X12_107 dX12_best_60 (by first | exact rfl | assumption) (by rfl) ?_
              refine j_iload G dX12_best_63 rfl ?_
              refine j_iaload G dX12_best_65 (by first | exact rfl | assumption) (by omega) (fun r_65 => ?_)
              try simp (disch := omega) only [up_same, up_cell, up_idx, cpm_at, fil_at] at r_65 ⊢
              refine j_if_eq G dX12_best_66 (tgt := 78) (by decide) (by omega) (fun c_66 => ?_) (fun c_66 => ?_)
              · refine j_iconst G dX12_best_78 ?_
                refine j_goto G dX12_best_79 (tgt := 83) (by decide) ?_
                refine j_pc (p2 := 83) rfl ?_
                exact h_nx 1 (by rw [c_56, decide_eq_true (Or.inl (by omega))]; rfl)
              · first | refine j_aload_n G dX12_best_69 rfl ?_ | refine j_aload_nN G dX12_best_69 rfl ?_
                refine j_iload G dX12_best_70 rfl ?_
                refine j_callV G mv_X12_362 dX12_best_72 (m_lettersOf (σ := σ) i (by omega) h_wp h_rp3) (by first | exact rfl | assumption) (by decide) (by rfl) rfl rfl (by exact Nat.le_of_ble_eq_true rfl) (by first | decide | omega) (kI ?_)
                refine j_if_eq G dX12_best_75 (tgt := 82) (by decide) (by omega) (fun c_75 => ?_) (fun c_75 => ?_)
                · refine j_iconst G dX12_best_82 ?_
                  refine j_pc (p2 := 83) rfl ?_
                  exact h_nx 0 (by rw [decide_eq_false (fun z => z.elim (fun y => by omega) (h_lo.1 (by omega))), Bool.and_false]; rfl)
                · refine j_iconst G dX12_best_78 ?_
                  refine j_goto G dX12_best_79 (tgt := 83) (by decide) ?_
                  refine j_pc (p2 := 83) rfl ?_
                  exact h_nx 1 (by rw [c_56, decide_eq_true (Or.inr (Decidable.byContradiction (fun z => c_75 (by rw [h_lo.2 z]; rfl))))]; rfl)
    have h_z := h_lp 7 (Nat.le_refl _) ν2 h_o2 (fun p h_1 h_2 => by omega)
    rw [show k / 5 ^ (7 - 7) = k from by rw [Nat.sub_self, Nat.pow_zero, Nat.div_one], show Df (dg5 k) 7 - (10 ^ (7 - 7) : Nat) * Df (dg5 k) 7 = 0 from by rw [Nat.sub_self, Nat.pow_zero]; omega, show Sf (mxD σ n) (dg5 k) 7 - Sf (mxD σ n) (dg5 k) 7 = 0 by omega, show b2 (myB σ (dg5 k) 7 = true) = 1 from b2_t (myB_iff.2 (fun p h_1 h_2 => by omega))] at h_z
    exact h_z
theorem op_best : OP x1 x2 yX11_best yX12_best [] := by
  refine OP.same (fun σ μ hw hr => ?_)
  obtain ⟨w1, w2, w3, w4, w5, w6, w7, w8⟩ := id hw
  obtain ⟨r1, r2, r3, r4, r5, r6, r7, r8⟩ := id hr
  obtain ⟨n, h_n20, h_n⟩ := nat_of (n := 20) w5.1
  exact ⟨_, _, _, by decide, by decide, c_best n h_n (by omega) w1 w8, m_best n h_n (by omega) w8 w1 r8 r1 r5⟩
end BY
