/-! a row that is written -/
def RwI (z : Int) (g : Int → Int) (D : List Int) : Prop := z = D.length ∧ ∀ i : Nat, i < D.length → g i = D.getD i 0
theorem gd_l : ∀ (D : List Int) (v : Int) (i : Nat), i < D.length → (D ++ [v]).getD i 0 = D.getD i 0
  | [], _, _, h => absurd h (Nat.not_lt_zero _)
  | _ :: _, _, 0, _ => rfl
  | _ :: D, v, i + 1, h => gd_l D v i (Nat.lt_of_succ_lt_succ h)
theorem gd_e : ∀ (D : List Int) (v : Int), (D ++ [v]).getD D.length 0 = v
  | [], _ => rfl
  | _ :: D, v => gd_e D v
theorem tk_s : ∀ (L : List Int) (i : Nat), i < L.length → L.take (i + 1) = L.take i ++ [L.getD i 0]
  | [], _, h => absurd h (Nat.not_lt_zero _)
  | _ :: _, 0, _ => rfl
  | a :: L, i + 1, h => congrArg (a :: ·) (tk_s L i (Nat.lt_of_succ_lt_succ h))
theorem RwI.put {τ : MemT} {q : Nat} {z v : Int} {D : List Int} (h : RwI z (τ q) D) : RwI (z + 1) (up τ q z v q) (D ++ [v]) := by
  obtain ⟨h_1, h_2⟩ := h
  refine ⟨by rw [List.length_append, h_1]; rfl, fun i h_i => ?_⟩
  rw [List.length_append] at h_i
  by_cases h_e : i = D.length
  · rw [h_e, gd_e, h_1]
    exact up_same _ _ _ _
  · have h_l : i < D.length := by
      have : i < D.length + 1 := h_i
      omega
    rw [gd_l D v i h_l, up_idx (by omega)]
    exact h_2 i h_l
def rowAt (L : List Int) (i : Int) : Int := if 0 ≤ i ∧ i < L.length then L.getD i.toNat 0 else -6
theorem RwI.at {z : Int} {g : Int → Int} {L : List Int} (h : RwI z g L) (i : Int) : (if 0 ≤ i ∧ i < z then g i else -6) = rowAt L i := by
  obtain ⟨h_1, h_2⟩ := h
  unfold rowAt
  rw [h_1]
  by_cases h_i : 0 ≤ i ∧ i < L.length
  · rw [if_pos h_i, if_pos h_i, ← h_2 i.toNat (by omega), Int.toNat_of_nonneg h_i.1]
  · rw [if_neg h_i, if_neg h_i]
section PA
variable {E : EE} {μ : MemT}
theorem p_addR (k q nn : Nat) (z : Int) (D : List Int) (hz : -2147483648 ≤ z ∧ z < 2147483648) (h_p : (eY E)[k]? = some (5, 2, [some q, none])) (h_q : (eY E)[q]? = some (20, nn, [])) (h_n : nn < 5000) (h_D : RwI (μ k 1) (μ q) D) (h_l : D.length < nn) : CT E 0 yX5_add [rf E k, iv z] μ (rP (fun _ τ => Ons (fun j => j = k ∨ j = q) μ τ ∧ RwI (τ k 1) (τ q) (D ++ [z]))) := by
  have h_ne : k ≠ q := fun h => by rw [h, h_q] at h_p; cases h_p
  refine rI_P (p_add k q nn z hz h_p h_q h_n (by have := h_D.1; omega)) ⟨((Ons.rf _ _).up (Or.inr rfl)).up (Or.inl rfl), ?_⟩
  rw [up_same, up_fn (fun h => h_ne h.symm)]
  exact h_D.put
end PA
/-- the cells of an item -/
def itL (σ : MemT) (c : Nat) (t : Nat → Int) (p k : Nat) : List Int := if k < 12 then (if σ (8 + 7 * c) k = 0 then [σ (7 + 7 * c) k] else [σ (7 + 7 * c) k, σ (8 + 7 * c) k]) else [σ (3 + 7 * c) (t p)]
/-- the row from a place on -/
def wrL (σ : MemT) (c : Nat) (t : Nat → Int) (n : Nat) : Nat → Nat → List Int
  | 0, _ => []
  | f + 1, p => if p < n then itL σ c t p (iA σ c t n p).toNat ++ wrL σ c t n f (p + lenK σ c (iA σ c t n p).toNat) else []
theorem wrL_s {σ : MemT} {c : Nat} {t : Nat → Int} {n f p k : Nat} (h_p : p < n) (h_k : iA σ c t n p = k) : wrL σ c t n (f + 1) p = itL σ c t p k ++ wrL σ c t n f (p + lenK σ c k) := by
  show (if p < n then _ else _) = _
  rw [if_pos h_p, h_k, Int.toNat_natCast]
theorem wrL_e {σ : MemT} {c : Nat} {t : Nat → Int} {n p : Nat} (h_p : ¬ p < n) : ∀ f, wrL σ c t n f p = []
  | 0 => rfl
  | f + 1 => if_neg h_p
theorem itL_len (σ : MemT) (c : Nat) (t : Nat → Int) (p k : Nat) : ((itL σ c t p k).length : Int) = widK σ c k := by
  unfold itL widK
  repeat' split
  all_goals rfl
/-- the item that is taken at a place -/
theorem itF {σ : MemT} {c : Nat} (h_w : WfCode σ c) {t : Nat → Int} {n p : Nat} (h_p : p < n) (h_f : wA σ c t n p < 268435456) : ∃ k : Nat, k < 13 ∧ iA σ c t n p = k ∧ fitK σ c t n p k = true ∧ wA σ c t n (p + lenK σ c k) < 268435456 ∧ ownK σ c t p k + wA σ c t n (p + lenK σ c k) = wA σ c t n p ∧ (1 ≤ lenK σ c k ∧ p + lenK σ c k ≤ n) ∧ ∀ j, j < k → fitK σ c t n p j = true → wA σ c t n (p + lenK σ c j) < 268435456 → ownK σ c t p j + wA σ c t n (p + lenK σ c j) ≠ wA σ c t n p := by
  have h_s := wA_s (t := t) h_w h_p
  rw [h_s] at h_f
  obtain ⟨k, h_1, h_2, h_3, h_4, h_5, h_6⟩ := fwK_is h_f
  exact ⟨k, h_1, h_2, h_3, h_4, h_5.trans h_s.symm, fitK_len h_w h_p h_3, fun j h_a h_b h_c h_d => h_6 j h_a h_b h_c (h_d.trans h_s)⟩
theorem wrL_len {σ : MemT} {c : Nat} (h_w : WfCode σ c) {t : Nat → Int} {n : Nat} (h_t : ∀ i, i < n → 0 ≤ t i ∧ t i ≤ 25) : ∀ f p, n ≤ p + f → p ≤ n → wA σ c t n p < 268435456 → ∃ b : Int, (0 ≤ b ∧ b ≤ 12 * ((n - p : Nat) : Int)) ∧ wA σ c t n p = 1024 * (wrL σ c t n f p).length + b
  | 0, p, h_1, h_2, h_3 => by
    obtain rfl : p = n := by omega
    exact ⟨0, by omega, by rw [wA_e]; rfl⟩
  | f + 1, p, h_1, h_2, h_3 => by
    by_cases h_p : p < n
    · obtain ⟨k, h_4, h_5, h_6, h_7, h_8, h_9, -⟩ := itF h_w h_p h_3
      obtain ⟨b, h_b, h_c⟩ := wrL_len h_w h_t f (p + lenK σ c k) (by omega) h_9.2 h_7
      have h_10 := wp_rg h_w (h_t p h_p) h_6
      rw [wrL_s h_p h_5, List.length_append, ← h_8, ownK_wp, ← itL_len σ c t p k]
      rw [← itL_len σ c t p k] at h_10
      exact ⟨ptsK σ c t p k + b, by omega, by rw [h_c]; omega⟩
    · obtain rfl : p = n := by omega
      rw [wrL_e h_p, wA_e]
      exact ⟨0, by omega, rfl⟩
theorem itL_rg {σ : MemT} {c : Nat} (h_w : WfCode σ c) {t : Nat → Int} {n p k : Nat} (h_t : 0 ≤ t p ∧ t p ≤ 25) (h : fitK σ c t n p k = true) : ∀ v ∈ itL σ c t p k, 0 ≤ v ∧ v ≤ 63 := by
  unfold fitK at h
  unfold itL
  by_cases h_k : k < 12
  · rw [if_pos h_k] at h ⊢
    rw [Bool.and_eq_true] at h
    obtain ⟨-, -, h_4, h_5⟩ := h_w.2.2.2 k (by omega) (of_decide_eq_true h.1)
    intro v h_v
    by_cases h_0 : σ (8 + 7 * c) k = 0
    · rw [if_pos h_0, List.mem_singleton] at h_v
      omega
    · rw [if_neg h_0, List.mem_cons, List.mem_singleton] at h_v
      omega
  · rw [if_neg h_k]
    intro v h_v
    rw [List.mem_singleton] at h_v
    have := h_w.1 (t p) (by omega) (by omega)
    omega
theorem wrL_rg {σ : MemT} {c : Nat} (h_w : WfCode σ c) {t : Nat → Int} {n : Nat} (h_t : ∀ i, i < n → 0 ≤ t i ∧ t i ≤ 25) : ∀ f p, wA σ c t n p < 268435456 → ∀ v ∈ wrL σ c t n f p, 0 ≤ v ∧ v ≤ 63
  | 0, p, _, v, h_v => absurd h_v (by show ¬ v ∈ []; exact List.not_mem_nil)
  | f + 1, p, h_3, v, h_v => by
    by_cases h_p : p < n
    · obtain ⟨k, h_4, h_5, h_6, h_7, h_8, h_9, -⟩ := itF h_w h_p h_3
      rw [wrL_s h_p h_5, List.mem_append] at h_v
      rcases h_v with h_v | h_v
      · exact itL_rg h_w (h_t p h_p) h_6 v h_v
      · exact wrL_rg h_w h_t f _ h_7 v h_v
    · rw [wrL_e h_p] at h_v
      exact absurd h_v List.not_mem_nil
theorem gd_mem : ∀ (L : List Int) (i : Nat), i < L.length → L.getD i 0 ∈ L
  | [], _, h => absurd h (Nat.not_lt_zero _)
  | _ :: _, 0, _ => List.mem_cons_self
  | _ :: L, i + 1, h => List.mem_cons_of_mem _ (gd_mem L i (Nat.lt_of_succ_lt_succ h))
section ON
variable {σ τ : MemT} {c : Nat} {t : Nat → Int} {n : Nat}
theorem lenK_on (h : ∀ j, 3 + 7 * c ≤ j → j ≤ 8 + 7 * c → τ j = σ j) (k : Nat) : lenK τ c k = lenK σ c k := by
  unfold lenK
  rw [h (6 + 7 * c) (by omega) (by omega)]
theorem fitK_on (h : ∀ j, 3 + 7 * c ≤ j → j ≤ 8 + 7 * c → τ j = σ j) (p k : Nat) : fitK τ c t n p k = fitK σ c t n p k := by
  unfold fitK
  rw [h (3 + 7 * c) (by omega) (by omega), h (4 + 7 * c) (by omega) (by omega), h (5 + 7 * c) (by omega) (by omega), h (6 + 7 * c) (by omega) (by omega)]
theorem ownK_on (h : ∀ j, 3 + 7 * c ≤ j → j ≤ 8 + 7 * c → τ j = σ j) (p k : Nat) : ownK τ c t p k = ownK σ c t p k := by
  unfold ownK
  rw [h (3 + 7 * c) (by omega) (by omega), h (7 + 7 * c) (by omega) (by omega), h (8 + 7 * c) (by omega) (by omega)]
theorem iA_on (h : ∀ j, 3 + 7 * c ≤ j → j ≤ 8 + 7 * c → τ j = σ j) (p : Nat) : iA τ c t n p = iA σ c t n p := by
  unfold iA fwA
  rw [show fitK τ c t n p = fitK σ c t n p from funext (fitK_on h p), show ownK τ c t p = ownK σ c t p from funext (ownK_on h p), show (fun k => wA τ c t n (p + lenK τ c k)) = (fun k => wA σ c t n (p + lenK σ c k)) from funext (fun k => by rw [lenK_on h, wA_on h])]
end ON
def ptx (σ : MemT) (i : Nat) : Int := σ 38 i
section WT
variable {E : EE} {x x1 x2 : CX} {μ σ : MemT}
theorem c_layOut (c n : Nat) (h_c : c < 5) (h_w : WfCode σ c) (h_p : WfPad σ) (h_n : σ 37 1 = n) : CT (EC x) 3 yX10_layOut [rf (EC x) 43, rf (EC x) (2 + 7 * c), rf (EC x) 37] σ (rP (fun z τ => z = b2 (wA σ c (ptx σ) n 0 ≠ 268435456) ∧ Ons (fun j => 44 ≤ j ∧ j ≤ 47) σ τ ∧ (wA σ c (ptx σ) n 0 ≠ 268435456 → RwI (τ 46 1) (τ 47) (wrL σ c (ptx σ) n 10 0) ∧ τ 44 0 = wA σ c (ptx σ) n 0))) := by
  obtain ⟨h_y1, h_y2, h_y3, h_y4, h_y5, h_y6, h_y7⟩ := ly_code (x := x) h_c
  obtain ⟨h_p1, h_p2, -⟩ := id h_p
  obtain ⟨h_w1, h_w2, h_w3, h_w4⟩ := id h_w
  have h_t : ∀ i : Nat, i < n → 0 ≤ ptx σ i ∧ ptx σ i ≤ 25 := fun i h_i => h_p2 i (by omega) (by omega)
  generalize h_tt : ptx σ = t at h_t ⊢
  have h_wv := wA_v h_w h_t
  refine CT.ofJ (own := RX10) (cc := cX10_layOut) (n := 6) (ret := (some .boolean)) (by decide) rfl cw_X10_layOut (by decide) (Nat.le_of_ble_eq_true rfl) (ls := [some (rf (EC x) 43), some (rf (EC x) (2 + 7 * c)), some (rf (EC x) 37), none, none, none]) rfl ?_
  intro X G
  have h_lp : wA σ c t n 0 ≠ 268435456 → ∀ f : Nat, f ≤ 10 → ∀ (p : Nat) (D : List Int) (τ : MemT), p ≤ n → n ≤ p + f → Ons (fun j => 44 ≤ j ∧ j ≤ 47) σ τ → (∀ q : Nat, q < n → wA σ c t n q < 268435456 → τ 45 q = iA σ c t n q) → wA σ c t n p < 268435456 → τ 44 0 = wA σ c t n 0 → RwI (τ 46 1) (τ 47) D → D.length ≤ 2 * p → D ++ wrL σ c t n f p = wrL σ c t n 10 0 → JJ (EC x) X 3 (rP (fun z τ => z = b2 (wA σ c t n 0 ≠ 268435456) ∧ Ons (fun j => 44 ≤ j ∧ j ≤ 47) σ τ ∧ (wA σ c t n 0 ≠ 268435456 → RwI (τ 46 1) (τ 47) (wrL σ c t n 10 0) ∧ τ 44 0 = wA σ c t n 0))) 6 34 [some (rf (EC x) 43), some (rf (EC x) (2 + 7 * c)), some (rf (EC x) 37), some (iv p), some (iv (10 - (f : Int))), none] [] τ := by
    intro h_00 f
    induction f with
    | zero =>
      intro h_f p D τ h_pn h_nf h_o h_it h_wp h_44 h_R h_Dl h_D
      have h_DD : D = wrL σ c t n 10 0 := by rw [← h_D]; exact (List.append_nil D).symm
      rw [h_DD] at h_R
      · refine j_iload G dX10_layOut_34 rfl ?_
        refine j_bipush G dX10_layOut_36 (by decide) ?_
        refine j_icmp_ge G dX10_layOut_38 (tgt := 148) (by decide) (by omega) (by omega) (fun c_38 => ?_) (fun c_38 => ?_)
        · refine j_iconst G dX10_layOut_148 ?_
          refine j_zreturn G dX10_layOut_149 (by first | exact b2_01 _ | omega) ?_
          exact ⟨1, rfl, by rw [b2_t h_00], h_o, fun _ => ⟨h_R, h_44⟩⟩
        · omega
    | succ f ih =>
      intro h_f p D τ h_pn h_nf h_o h_it h_wp h_44 h_R h_Dl h_D
      · refine j_iload G dX10_layOut_34 rfl ?_
        refine j_bipush G dX10_layOut_36 (by decide) ?_
        refine j_icmp_ge G dX10_layOut_38 (tgt := 148) (by decide) (by omega) (by omega) (fun c_38 => ?_) (fun c_38 => ?_)
        · omega
        · refine j_iload_n G dX10_layOut_41 rfl ?_
          first | refine j_aload_n G dX10_layOut_42 rfl ?_ | refine j_aload_nN G dX10_layOut_42 rfl ?_
          refine j_geti G fl_X10_73 dX10_layOut_43 1 rfl (by first | assumption | rfl) (by rfl) (fun r_43 => ?_)
          try simp (disch := omega) only [up_same, up_cell, up_idx, cpm_at, fil_at] at r_43 ⊢
          rw [h_o 37 (by omega), h_n]
          refine j_icmp_ge G dX10_layOut_46 (tgt := 148) (by decide) (by omega) (by omega) (fun c_46 => ?_) (fun c_46 => ?_)
          · refine j_iconst G dX10_layOut_148 ?_
            refine j_zreturn G dX10_layOut_149 (by first | exact b2_01 _ | omega) ?_
            rw [wrL_e (by omega), List.append_nil] at h_D
            rw [h_D] at h_R
            exact ⟨1, rfl, by rw [b2_t h_00], h_o, fun _ => ⟨h_R, h_44⟩⟩
          · obtain ⟨k, h_k13, h_ki, h_fit, h_rest, h_eq, h_len, -⟩ := itF h_w (show p < n by omega) h_wp
            have h_45 : τ 45 p = k := (h_it p (by omega) h_wp).trans h_ki
            rw [wrL_s (by omega) h_ki, ← List.append_assoc] at h_D
            have h_Ll : (itL σ c t p k).length ≤ 2 := by
              have h_z1 := itL_len σ c t p k
              have h_z2 := (wp_rg h_w (h_t p (by omega)) h_fit).1
              omega
            have h_go : ∀ τ2 : MemT, Ons (fun j => j = 46 ∨ j = 47) τ τ2 → RwI (τ2 46 1) (τ2 47) (D ++ itL σ c t p k) → JJ (EC x) X 3 (rP (fun z τ => z = b2 (wA σ c t n 0 ≠ 268435456) ∧ Ons (fun j => 44 ≤ j ∧ j ≤ 47) σ τ ∧ (wA σ c t n 0 ≠ 268435456 → RwI (τ 46 1) (τ 47) (wrL σ c t n 10 0) ∧ τ 44 0 = wA σ c t n 0))) 6 34 [some (rf (EC x) 43), some (rf (EC x) (2 + 7 * c)), some (rf (EC x) 37), some (iv ((p + lenK σ c k : Nat) : Int)), some (iv (10 - (f : Int))), none] [] τ2 := fun τ2 h_o2 h_R2 => ih (by omega) _ _ τ2 h_len.2 (by omega) (h_o.tr (h_o2.wk (fun j h => by omega))) (fun q h_1 h_2 => by rw [h_o2 45 (by omega)]; exact h_it q h_1 h_2) h_rest (by rw [h_o2 44 (by omega)]; exact h_44) h_R2 (by rw [List.length_append]; omega) h_D
            first | refine j_aload_n G dX10_layOut_49 rfl ?_ | refine j_aload_nN G dX10_layOut_49 rfl ?_
            refine j_getr G fl_X10_15 dX10_layOut_50 (by first | assumption | rfl) (by rfl) ?_
            refine j_iload_n G dX10_layOut_53 rfl ?_
            refine j_iaload G dX10_layOut_54 (by first | assumption | rfl) (by omega) (fun r_54 => ?_)
            try simp (disch := omega) only [up_same, up_cell, up_idx, cpm_at, fil_at] at r_54 ⊢
            rw [h_45]
            refine j_istore5 G dX10_layOut_55 (by decide) rfl ?_
            refine j_iload G dX10_layOut_57 rfl ?_
            refine j_bipush G dX10_layOut_59 (by decide) ?_
            refine j_icmp_ge G dX10_layOut_61 (tgt := 120) (by decide) (by omega) (by omega) (fun c_61 => ?_) (fun c_61 => ?_)
            · first | refine j_aload_n G dX10_layOut_120 rfl ?_ | refine j_aload_nN G dX10_layOut_120 rfl ?_
              refine j_getr G fl_X10_23 dX10_layOut_121 (by first | assumption | rfl) (by rfl) ?_
              first | refine j_aload_n G dX10_layOut_124 rfl ?_ | refine j_aload_nN G dX10_layOut_124 rfl ?_
              refine j_getr G fl_X10_58 dX10_layOut_125 (by first | assumption | rfl) (by rfl) ?_
              first | refine j_aload_n G dX10_layOut_128 rfl ?_ | refine j_aload_nN G dX10_layOut_128 rfl ?_
              refine j_getr G fl_X10_70 dX10_layOut_129 (by first | assumption | rfl) (by rfl) ?_
              refine j_iload_n G dX10_layOut_132 rfl ?_
              refine j_iaload G dX10_layOut_133 (by first | assumption | rfl) (by omega) (fun r_133 => ?_)
              try simp (disch := omega) only [up_same, up_cell, up_idx, cpm_at, fil_at] at r_133 ⊢
              rw [h_o 38 (by omega)] at *
              have h_38 : σ 38 p = t p := by rw [← h_tt]; rfl
              have h_tp := h_t p (by omega)
              rw [h_38] at *
              refine j_iaload G dX10_layOut_134 (by first | assumption | rfl) (by omega) (fun r_134 => ?_)
              try simp (disch := omega) only [up_same, up_cell, up_idx, cpm_at, fil_at] at r_134 ⊢
              rw [h_o (3 + 7 * c) (by omega)] at *
              have h_z3 := h_w1 (t p) (by omega) (by omega)
              refine j_callV G mv_X10_83 dX10_layOut_135 (p_addR 46 47 20 (σ (3 + 7 * c) (t p)) D (by omega) rfl rfl (by decide) h_R (by omega)) (by first | assumption | rfl) (by decide) (by rfl) rfl rfl (by exact Nat.le_of_ble_eq_true rfl) (by decide) (kP (fun y1 τ1 h_y1 => ?_))
              obtain ⟨h_o1, h_R1⟩ := h_y1
              refine j_pop G dX10_layOut_138 rfl ?_
              refine j_pc (p2 := 139) rfl ?_
              refine j_iinc3 G dX10_layOut_139 (by decide) rfl rfl ?_
              refine j_iinc4 G dX10_layOut_142 (by decide) rfl rfl ?_
              refine j_goto G dX10_layOut_145 (tgt := 34) (by decide) ?_
              refine j_pc (p2 := 34) rfl ?_
              rw [show (10 : Int) - ((f + 1 : Nat) : Int) + 1 = 10 - (f : Int) by omega]
              first
              | (have h_L : itL σ c t p k = [σ (7 + 7 * c) k, σ (8 + 7 * c) k] := by unfold itL; rw [if_pos (by omega), if_neg (by omega)]
                 rw [h_L] at h_go
                 exact j_weak (h_go τ2 (h_o1.tr h_o2) (by rw [List.append_assoc] at h_R2; exact h_R2)) ⟨rfl, rfl, rfl, rfl, rfl, trivial⟩)
              | (have h_L : itL σ c t p k = [σ (7 + 7 * c) k] := by unfold itL; rw [if_pos (by omega), if_pos (by omega)]
                 rw [h_L] at h_go
                 exact j_weak (h_go τ1 h_o1 h_R1) ⟨rfl, rfl, rfl, rfl, rfl, trivial⟩)
              | (have h_L : itL σ c t p k = [σ (3 + 7 * c) (t p)] := by unfold itL; rw [if_neg (by omega)]
                 have h_lk : lenK σ c k = 1 := by unfold lenK; rw [if_neg (by omega)]
                 rw [h_L, h_lk] at h_go
                 exact j_weak (h_go τ1 h_o1 h_R1) ⟨rfl, rfl, rfl, rfl, rfl, trivial⟩)
            · first | refine j_aload_n G dX10_layOut_64 rfl ?_ | refine j_aload_nN G dX10_layOut_64 rfl ?_
              refine j_getr G fl_X10_23 dX10_layOut_65 (by first | assumption | rfl) (by rfl) ?_
              first | refine j_aload_n G dX10_layOut_68 rfl ?_ | refine j_aload_nN G dX10_layOut_68 rfl ?_
              refine j_getr G fl_X10_80 dX10_layOut_69 (by first | assumption | rfl) (by rfl) ?_
              refine j_iload G dX10_layOut_72 rfl ?_
              refine j_iaload G dX10_layOut_74 (by first | assumption | rfl) (by omega) (fun r_74 => ?_)
              try simp (disch := omega) only [up_same, up_cell, up_idx, cpm_at, fil_at] at r_74 ⊢
              rw [h_o (7 + 7 * c) (by omega)] at *
              have h_k1 : (k : Int) < σ (4 + 7 * c) 3 := by
                unfold fitK at h_fit
                rw [if_pos (by omega), Bool.and_eq_true] at h_fit
                exact of_decide_eq_true h_fit.1
              obtain ⟨h_z1, h_z2, h_z3, h_z4⟩ := h_w4 k (by omega) h_k1
              refine j_callV G mv_X10_83 dX10_layOut_75 (p_addR 46 47 20 (σ (7 + 7 * c) k) D (by omega) rfl rfl (by decide) h_R (by omega)) (by first | assumption | rfl) (by decide) (by rfl) rfl rfl (by exact Nat.le_of_ble_eq_true rfl) (by decide) (kP (fun y1 τ1 h_y1 => ?_))
              obtain ⟨h_o1, h_R1⟩ := h_y1
              refine j_pop G dX10_layOut_78 rfl ?_
              first | refine j_aload_n G dX10_layOut_79 rfl ?_ | refine j_aload_nN G dX10_layOut_79 rfl ?_
              refine j_getr G fl_X10_86 dX10_layOut_80 (by first | assumption | rfl) (by rfl) ?_
              refine j_iload G dX10_layOut_83 rfl ?_
              refine j_pc (p2 := 85) rfl ?_
              refine j_iaload G dX10_layOut_85 (by first | assumption | rfl) (by omega) (fun r_85 => ?_)
              try simp (disch := omega) only [up_same, up_cell, up_idx, cpm_at, fil_at] at r_85 ⊢
              rw [h_o1 (8 + 7 * c) (by omega), h_o (8 + 7 * c) (by omega)] at *
              refine j_if_eq G dX10_layOut_86 (tgt := 104) (by decide) (by omega) (fun c_86 => ?_) (fun c_86 => ?_)
              · refine j_iload_n G dX10_layOut_104 rfl ?_
                first | refine j_aload_n G dX10_layOut_105 rfl ?_ | refine j_aload_nN G dX10_layOut_105 rfl ?_
                refine j_getr G fl_X10_28 dX10_layOut_106 (by first | assumption | rfl) (by rfl) ?_
                refine j_getr G fl_X10_51 dX10_layOut_109 (by first | assumption | rfl) (by rfl) ?_
                refine j_iload G dX10_layOut_112 rfl ?_
                refine j_iaload G dX10_layOut_114 (by first | assumption | rfl) (by omega) (fun r_114 => ?_)
                try simp (disch := omega) only [up_same, up_cell, up_idx, cpm_at, fil_at] at r_114 ⊢
                first
                | rw [h_o2 (6 + 7 * c) (by omega), h_o1 (6 + 7 * c) (by omega), h_o (6 + 7 * c) (by omega)]
                | rw [h_o1 (6 + 7 * c) (by omega), h_o (6 + 7 * c) (by omega)]
                have h_lk : (p : Int) + σ (6 + 7 * c) k = ((p + lenK σ c k : Nat) : Int) := by
                  unfold lenK
                  rw [if_pos (by omega)]
                  omega
                refine j_iadd G dX10_layOut_115 ?_
                rw [h_lk]
                refine j_istore3 G dX10_layOut_116 (by decide) rfl ?_
                refine j_goto G dX10_layOut_117 (tgt := 142) (by decide) ?_
                refine j_iinc4 G dX10_layOut_142 (by decide) rfl rfl ?_
                refine j_goto G dX10_layOut_145 (tgt := 34) (by decide) ?_
                refine j_pc (p2 := 34) rfl ?_
                rw [show (10 : Int) - ((f + 1 : Nat) : Int) + 1 = 10 - (f : Int) by omega]
                first
                | (have h_L : itL σ c t p k = [σ (7 + 7 * c) k, σ (8 + 7 * c) k] := by unfold itL; rw [if_pos (by omega), if_neg (by omega)]
                   rw [h_L] at h_go
                   exact j_weak (h_go τ2 (h_o1.tr h_o2) (by rw [List.append_assoc] at h_R2; exact h_R2)) ⟨rfl, rfl, rfl, rfl, rfl, trivial⟩)
                | (have h_L : itL σ c t p k = [σ (7 + 7 * c) k] := by unfold itL; rw [if_pos (by omega), if_pos (by omega)]
                   rw [h_L] at h_go
                   exact j_weak (h_go τ1 h_o1 h_R1) ⟨rfl, rfl, rfl, rfl, rfl, trivial⟩)
                | (have h_L : itL σ c t p k = [σ (3 + 7 * c) (t p)] := by unfold itL; rw [if_neg (by omega)]
                   have h_lk : lenK σ c k = 1 := by unfold lenK; rw [if_neg (by omega)]
                   rw [h_L, h_lk] at h_go
                   exact j_weak (h_go τ1 h_o1 h_R1) ⟨rfl, rfl, rfl, rfl, rfl, trivial⟩)
              · first | refine j_aload_n G dX10_layOut_89 rfl ?_ | refine j_aload_nN G dX10_layOut_89 rfl ?_
                refine j_getr G fl_X10_23 dX10_layOut_90 (by first | assumption | rfl) (by rfl) ?_
                first | refine j_aload_n G dX10_layOut_93 rfl ?_ | refine j_aload_nN G dX10_layOut_93 rfl ?_
                refine j_getr G fl_X10_86 dX10_layOut_94 (by first | assumption | rfl) (by rfl) ?_
                refine j_iload G dX10_layOut_97 rfl ?_
                refine j_iaload G dX10_layOut_99 (by first | assumption | rfl) (by omega) (fun r_99 => ?_)
                try simp (disch := omega) only [up_same, up_cell, up_idx, cpm_at, fil_at] at r_99 ⊢
                rw [h_o1 (8 + 7 * c) (by omega), h_o (8 + 7 * c) (by omega)] at *
                refine j_callV G mv_X10_83 dX10_layOut_100 (p_addR 46 47 20 (σ (8 + 7 * c) k) (D ++ [σ (7 + 7 * c) k]) (by omega) rfl rfl (by decide) h_R1 (by rw [List.length_append]; show _ + 1 < 20; omega)) (by first | assumption | rfl) (by decide) (by rfl) rfl rfl (by exact Nat.le_of_ble_eq_true rfl) (by decide) (kP (fun y2 τ2 h_y2 => ?_))
                obtain ⟨h_o2, h_R2⟩ := h_y2
                refine j_pop G dX10_layOut_103 rfl ?_
                refine j_iload_n G dX10_layOut_104 rfl ?_
                first | refine j_aload_n G dX10_layOut_105 rfl ?_ | refine j_aload_nN G dX10_layOut_105 rfl ?_
                refine j_getr G fl_X10_28 dX10_layOut_106 (by first | assumption | rfl) (by rfl) ?_
                refine j_pc (p2 := 109) rfl ?_
                refine j_getr G fl_X10_51 dX10_layOut_109 (by first | assumption | rfl) (by rfl) ?_
                refine j_iload G dX10_layOut_112 rfl ?_
                refine j_iaload G dX10_layOut_114 (by first | assumption | rfl) (by omega) (fun r_114 => ?_)
                try simp (disch := omega) only [up_same, up_cell, up_idx, cpm_at, fil_at] at r_114 ⊢
                first
                | rw [h_o2 (6 + 7 * c) (by omega), h_o1 (6 + 7 * c) (by omega), h_o (6 + 7 * c) (by omega)]
                | rw [h_o1 (6 + 7 * c) (by omega), h_o (6 + 7 * c) (by omega)]
                have h_lk : (p : Int) + σ (6 + 7 * c) k = ((p + lenK σ c k : Nat) : Int) := by
                  unfold lenK
                  rw [if_pos (by omega)]
                  omega
                refine j_iadd G dX10_layOut_115 ?_
                rw [h_lk]
                refine j_istore3 G dX10_layOut_116 (by decide) rfl ?_
                refine j_goto G dX10_layOut_117 (tgt := 142) (by decide) ?_
                refine j_iinc4 G dX10_layOut_142 (by decide) rfl rfl ?_
                refine j_goto G dX10_layOut_145 (tgt := 34) (by decide) ?_
                refine j_pc (p2 := 34) rfl ?_
                rw [show (10 : Int) - ((f + 1 : Nat) : Int) + 1 = 10 - (f : Int) by omega]
                first
                | (have h_L : itL σ c t p k = [σ (7 + 7 * c) k, σ (8 + 7 * c) k] := by unfold itL; rw [if_pos (by omega), if_neg (by omega)]
                   rw [h_L] at h_go
                   exact j_weak (h_go τ2 (h_o1.tr h_o2) (by rw [List.append_assoc] at h_R2; exact h_R2)) ⟨rfl, rfl, rfl, rfl, rfl, trivial⟩)
                | (have h_L : itL σ c t p k = [σ (7 + 7 * c) k] := by unfold itL; rw [if_pos (by omega), if_pos (by omega)]
                   rw [h_L] at h_go
                   exact j_weak (h_go τ1 h_o1 h_R1) ⟨rfl, rfl, rfl, rfl, rfl, trivial⟩)
                | (have h_L : itL σ c t p k = [σ (3 + 7 * c) (t p)] := by unfold itL; rw [if_neg (by omega)]
                   have h_lk : lenK σ c k = 1 := by unfold lenK; rw [if_neg (by omega)]
                   rw [h_L, h_lk] at h_go
                   exact j_weak (h_go τ1 h_o1 h_R1) ⟨rfl, rfl, rfl, rfl, rfl, trivial⟩)
  have h_on : ∀ j, 3 + 7 * c ≤ j → j ≤ 8 + 7 * c → up σ 46 1 0 j = σ j := fun j h_1 h_2 => up_other j (by omega)
  have h_w0 : WfCode (up σ 46 1 0) c := h_w.on h_on
  first | refine j_aload_n G dX10_layOut_0 rfl ?_ | refine j_aload_nN G dX10_layOut_0 rfl ?_
  refine j_getr G fl_X10_23 dX10_layOut_1 (by first | assumption | rfl) (by rfl) ?_
  refine j_callV G mv_X10_66 dX10_layOut_4 (p_empty 46 47 20 rfl) (by first | assumption | rfl) (by decide) (by rfl) rfl rfl (by exact Nat.le_of_ble_eq_true rfl) (by decide) (kI ?_)
  refine j_pop G dX10_layOut_7 rfl ?_
  first | refine j_aload_n G dX10_layOut_8 rfl ?_ | refine j_aload_nN G dX10_layOut_8 rfl ?_
  first | refine j_aload_n G dX10_layOut_9 rfl ?_ | refine j_aload_nN G dX10_layOut_9 rfl ?_
  first | refine j_aload_n G dX10_layOut_10 rfl ?_ | refine j_aload_nN G dX10_layOut_10 rfl ?_
  refine j_getr G fl_X10_70 dX10_layOut_11 (by first | assumption | rfl) (by rfl) ?_
  refine j_iconst G dX10_layOut_14 ?_
  first | refine j_aload_n G dX10_layOut_15 rfl ?_ | refine j_aload_nN G dX10_layOut_15 rfl ?_
  refine j_geti G fl_X10_73 dX10_layOut_16 1 rfl (by first | assumption | rfl) (by rfl) (fun r_16 => ?_)
  try simp (disch := omega) only [up_same, up_cell, up_idx, cpm_at, fil_at] at r_16 ⊢
  refine j_pc (p2 := 19) rfl ?_
  rw [h_n]
  refine j_callV G mv_X10_76 dX10_layOut_19 (c_weigh c 38 10 n 0 t h_c h_w0 rfl (by decide) (by decide) (by omega) (by omega) (fun i h_i => by rw [up_cell (by decide), ← h_tt, Int.zero_add]; rfl) h_t) (by first | assumption | rfl) (by decide) (by rfl) rfl rfl (by exact Nat.le_of_ble_eq_true rfl) (by decide) (kP (fun y τ h_y => ?_))
  obtain ⟨rfl, h_s1, h_s2, h_s3⟩ := h_y
  rw [wA_on h_on]
  have h_v0 := wv_rg (h_wv 0 (by omega)) (by omega)
  have h_o0 : Ons (fun j => 44 ≤ j ∧ j ≤ 47) σ τ := ((Ons.rf _ σ).up (k := 46) (by omega)).tr (h_s1.wk (fun j h => by omega))
  refine j_ldc G kc_X10_27 dX10_layOut_22 (z := 268435456) (by decide) ?_
  refine j_icmp_lt G dX10_layOut_24 (tgt := 29) (by decide) (by omega) (by omega) (fun c_24 => ?_) (fun c_24 => ?_)
  · refine j_iconst G dX10_layOut_29 ?_
    refine j_istore3 G dX10_layOut_30 (by decide) rfl ?_
    refine j_iconst G dX10_layOut_31 ?_
    refine j_istore4 G dX10_layOut_32 (by decide) rfl ?_
    refine j_pc (p2 := 34) rfl ?_
    refine j_weak (h_lp (by omega) 10 (by omega) 0 [] τ (by omega) (by omega) h_o0 (fun q h_1 h_2 => ?_) (by omega) ?_ ⟨?_, fun i h_i => absurd h_i (Nat.not_lt_zero _)⟩ (by decide) rfl) ⟨rfl, rfl, rfl, rfl, rfl, trivial⟩
    · rw [h_s3 q (by omega) h_1 (by rw [wA_on h_on]; exact h_2), iA_on h_on]
    · have h_z := h_s2 0 (by omega) (by omega)
      rw [wA_on h_on] at h_z
      exact h_z
    · rw [h_s1 46 (by omega), up_same]
      rfl
  · refine j_iconst G dX10_layOut_27 ?_
    refine j_zreturn G dX10_layOut_28 (by first | exact b2_01 _ | omega) ?_
    exact ⟨0, rfl, by rw [b2_f (by omega)], h_o0, fun h => absurd h (by omega)⟩
end WT
