def RwO (ν : MemT) (L : List Int) : Prop := ∀ i : Nat, i < L.length → ν 16 i = L.getD i 0
def laT (w : TW) (j : Nat) : Prop := j = 0 ∧ anyB (prP w) 4096 = true
def laR (w : TW) (j : Nat) : List Int := if stB w (j + 1) = true ∧ ¬ (j = 0 ∧ anyB (prP w) 4096 = true ∧ fsB (prP w) 4096 < 64 * c0T w 1 + nxT w 0 (c0T w 1)) then chL w (j + 1) (c0T w (j + 1)) else [((fsB (prP w) 4096 / 64 : Nat) : Int), ((fsB (prP w) 4096 % 64 : Nat) : Int)]
def LD (μ : MemT) (w : TW) : Prop := (∀ v : Nat, v < 64 → μ 13 v = sg w v) ∧ (∀ v e : Nat, v < 64 → e < 64 → μ 14 (64 * (v : Int) + e) = db w v e) ∧ ∀ n v : Nat, n < 15 → v < 64 → μ 15 (64 * (n : Int) + v) = b2 (comB w n v = true)
theorem com_nx {w : TW} {i v : Nat} (h : comB w (i + 1) v = true) : nxT w i v < 64 ∧ (decide (0 < db w v (nxT w i v)) && comB w i (nxT w i v)) = true ∧ ∀ e, e < nxT w i v → (decide (0 < db w v e) && comB w i e) = false := fsB_is 64 h
section TO
variable {E : EE} {x x1 x2 : CX} {μ σ : MemT} {w : TW}
theorem m_layTwoWays (j : Nat) (h_j : j ≤ 13) (h_w : TWok w) (h_L : LD μ w) : CT (EM x) 0 yX12_layTwoWays [rf (EM x) 0, iv ((j : Int) + 1)] μ (rP (fun z ν => Ons (· = 16) μ ν ∧ z = b2 (stB w (j + 1) = true ∨ (j = 0 ∧ anyB (prP w) 4096 = true)) ∧ ((stB w (j + 1) = true ∨ (j = 0 ∧ anyB (prP w) 4096 = true)) → RwO ν (laR w j)))) := by
  obtain ⟨h_s, h_d, h_c⟩ := h_L
  have h_d2 : ∀ c : Nat, c < 4096 → μ 14 c = db w (c / 64) (c % 64) := fun c h_1 => by
    have := h_d (c / 64) (c % 64) (by omega) (by omega)
    rw [show 64 * ((c / 64 : Nat) : Int) + ((c % 64 : Nat) : Int) = c by omega] at this
    exact this
  have h_dr : ∀ v e, 0 ≤ db w v e ∧ db w v e ≤ 12 := fun v e => db_rg w v e 12
  have h_sr := sg_rg h_w
  generalize h_post : (rP (fun z ν => Ons (· = 16) μ ν ∧ z = b2 (stB w (j + 1) = true ∨ (j = 0 ∧ anyB (prP w) 4096 = true)) ∧ ((stB w (j + 1) = true ∨ (j = 0 ∧ anyB (prP w) 4096 = true)) → RwO ν (laR w j)))) = post
  refine CT.ofJ (own := RX12) (cc := cX12_layTwoWays) (n := 7) (ret := (some .boolean)) (by decide) rfl cw_X12_layTwoWays (by decide) (Nat.le_of_ble_eq_true rfl) (ls := [some (rf (EM x) 0), some (iv ((j : Int) + 1)), none, none, none, none, none]) rfl ?_
  intro X G
  have h_yes : ∀ ν : MemT, Ons (· = 16) μ ν → (stB w (j + 1) = true ∨ (j = 0 ∧ anyB (prP w) 4096 = true)) → RwO ν (laR w j) → post (some (iv 1)) ν := fun ν h_1 h_2 h_3 => by
    rw [← h_post]
    exact ⟨1, rfl, h_1, by rw [b2_t h_2], fun _ => h_3⟩
  /- the end -/
  have h_set : anyB (prP w) 4096 = true → (stB w (j + 1) = true ∨ (j = 0 ∧ anyB (prP w) 4096 = true)) → laR w j = [((fsB (prP w) 4096 / 64 : Nat) : Int), ((fsB (prP w) 4096 % 64 : Nat) : Int)] → ∀ (ν : MemT) (l2 l4 l5 l6 : Option Value), Ons (· = 16) μ ν → JJ (EM x) X 0 post 7 247 [some (rf (EM x) 0), some (iv ((j : Int) + 1)), l2, some (iv (fsB (prP w) 4096 : Nat)), l4, l5, l6] [] ν := by
    intro h_P h_2 h_R ν l2 l4 l5 l6 h_o
    have h_P1 := (fsB_is 4096 h_P).1
    · first | refine j_aload_n G dX12_layTwoWays_247 rfl ?_ | refine j_aload_nN G dX12_layTwoWays_247 rfl ?_
      refine j_getr G fl_X12_56 dX12_layTwoWays_248 (by first | exact rfl | assumption) (by rfl) ?_
      refine j_iconst G dX12_layTwoWays_251 ?_
      refine j_iload_n G dX12_layTwoWays_252 rfl ?_
      refine j_bipush G dX12_layTwoWays_253 (by decide) ?_
      refine j_idiv G dX12_layTwoWays_255 (by omega) (by omega) ?_
      refine j_iastore G dX12_layTwoWays_256 (by first | exact rfl | assumption) (by omega) (by omega) ?_
      first | refine j_aload_n G dX12_layTwoWays_257 rfl ?_ | refine j_aload_nN G dX12_layTwoWays_257 rfl ?_
      refine j_getr G fl_X12_56 dX12_layTwoWays_258 (by first | exact rfl | assumption) (by rfl) ?_
      refine j_iconst G dX12_layTwoWays_261 ?_
      refine j_iload_n G dX12_layTwoWays_262 rfl ?_
      refine j_pc (p2 := 263) rfl ?_
      refine j_bipush G dX12_layTwoWays_263 (by decide) ?_
      refine j_irem G dX12_layTwoWays_265 (by omega) (by omega) ?_
      refine j_iastore G dX12_layTwoWays_266 (by first | exact rfl | assumption) (by omega) (by omega) ?_
      refine j_iconst G dX12_layTwoWays_267 ?_
      refine j_zreturn G dX12_layTwoWays_268 (by first | exact b2_01 _ | omega) ?_
      refine h_yes _ ((h_o.up rfl).up rfl) h_2 ?_
      rw [h_R]
      intro i h_i
      have h_i2 : i < 2 := h_i
      by_cases h_0 : i = 0
      · subst h_0
        rw [up_idx (by decide), show ((0 : Nat) : Int) = 0 from rfl, up_same]
        show _ = ((fsB (prP w) 4096 / 64 : Nat) : Int)
        omega
      · obtain rfl : i = 1 := by omega
        rw [show ((1 : Nat) : Int) = 1 from rfl, up_same]
        show _ = ((fsB (prP w) 4096 % 64 : Nat) : Int)
        omega
  have h_fin : stB w (j + 1) = true → ∀ (ν : MemT) (v : Nat) (tw : Int) (l4 l5 l6 : Option Value), v < 64 → Ons (· = 16) μ ν → RwO ν (chL w (j + 1) (c0T w (j + 1))) → ((tw = -1 ∧ ¬ (j = 0 ∧ anyB (prP w) 4096 = true)) ∨ (tw = (fsB (prP w) 4096 : Nat) ∧ j = 0 ∧ anyB (prP w) 4096 = true)) → JJ (EM x) X 0 post 7 219 [some (rf (EM x) 0), some (iv ((j : Int) + 1)), some (iv v), some (iv tw), l4, l5, l6] [] ν := by
    intro h_S ν v tw l4 l5 l6 h_v h_o h_R h_tw
    rcases h_tw with ⟨h_t1, h_t2⟩ | ⟨h_t1, h_t2, h_t3⟩
    · rw [h_t1]
      · refine j_iload_n G dX12_layTwoWays_219 rfl ?_
        refine j_if_lt G dX12_layTwoWays_220 (tgt := 267) (by decide) (by omega) (fun c_220 => ?_) (fun c_220 => ?_)
        · refine j_iconst G dX12_layTwoWays_267 ?_
          refine j_zreturn G dX12_layTwoWays_268 (by first | exact b2_01 _ | omega) ?_
          refine h_yes _ h_o (Or.inl h_S) ?_
          unfold laR
          rw [if_pos ⟨h_S, fun z => h_t2 ⟨z.1, z.2.1⟩⟩]
          exact h_R
        · omega
    · rw [h_t1]
      have h_P1 := (fsB_is 4096 h_t3).1
      subst h_t2
      have h_mn : mnS w 0 := ⟨h_S, fun j h_j => absurd h_j (Nat.not_lt_zero _)⟩
      obtain ⟨-, h_inv⟩ := Inv.st h_w h_mn
      have h_b0 : c0T w 1 < 64 := h_inv.1
      have h_b1 : nxT w 0 (c0T w 1) < 64 := (h_inv.nx h_w).1
      have h_0 : ν 16 0 = (c0T w 1 : Nat) := h_R 0 (by rw [chL_len]; omega)
      have h_1 : ν 16 1 = (nxT w 0 (c0T w 1) : Nat) := h_R 1 (by rw [chL_len]; omega)
      · refine j_iload_n G dX12_layTwoWays_219 rfl ?_
        refine j_if_lt G dX12_layTwoWays_220 (tgt := 267) (by decide) (by omega) (fun c_220 => ?_) (fun c_220 => ?_)
        · omega
        · refine j_iload_n G dX12_layTwoWays_223 rfl ?_
          refine j_if_lt G dX12_layTwoWays_224 (tgt := 247) (by decide) (by omega) (fun c_224 => ?_) (fun c_224 => ?_)
          · omega
          · refine j_iload_n G dX12_layTwoWays_227 rfl ?_
            refine j_bipush G dX12_layTwoWays_228 (by decide) ?_
            first | refine j_aload_n G dX12_layTwoWays_230 rfl ?_ | refine j_aload_nN G dX12_layTwoWays_230 rfl ?_
            refine j_getr G fl_X12_56 dX12_layTwoWays_231 (by first | exact rfl | assumption) (by rfl) ?_
            refine j_iconst G dX12_layTwoWays_234 ?_
            refine j_iaload G dX12_layTwoWays_235 (by first | exact rfl | assumption) (by omega) (fun r_235 => ?_)
            try simp (disch := omega) only [up_same, up_cell, up_idx, cpm_at, fil_at] at r_235 ⊢
            rw [h_0]
            refine j_imul G dX12_layTwoWays_236 ?_
            first | refine j_aload_n G dX12_layTwoWays_237 rfl ?_ | refine j_aload_nN G dX12_layTwoWays_237 rfl ?_
            refine j_getr G fl_X12_56 dX12_layTwoWays_238 (by first | exact rfl | assumption) (by rfl) ?_
            refine j_iconst G dX12_layTwoWays_241 ?_
            refine j_iaload G dX12_layTwoWays_242 (by first | exact rfl | assumption) (by omega) (fun r_242 => ?_)
            try simp (disch := omega) only [up_same, up_cell, up_idx, cpm_at, fil_at] at r_242 ⊢
            refine j_pc (p2 := 243) rfl ?_
            rw [h_1]
            refine j_iadd G dX12_layTwoWays_243 ?_
            refine j_icmp_ge G dX12_layTwoWays_244 (tgt := 267) (by decide) (by omega) (by omega) (fun c_244 => ?_) (fun c_244 => ?_)
            · refine j_iconst G dX12_layTwoWays_267 ?_
              refine j_zreturn G dX12_layTwoWays_268 (by first | exact b2_01 _ | omega) ?_
              refine h_yes _ h_o (Or.inl h_S) ?_
              unfold laR
              rw [if_pos ⟨h_S, fun z => by omega⟩]
              exact h_R
            · refine j_pc (p2 := 247) rfl ?_
              refine h_set h_t3 (Or.inl h_S) ?_ ν _ _ _ _ h_o
              unfold laR
              rw [if_neg (fun z => z.2 ⟨rfl, h_t3, by omega⟩)]
  /- the chain -/
  have h_ch : stB w (j + 1) = true → ∀ (tw : Int), ((tw = -1 ∧ ¬ (j = 0 ∧ anyB (prP w) 4096 = true)) ∨ (tw = (fsB (prP w) 4096 : Nat) ∧ j = 0 ∧ anyB (prP w) 4096 = true)) → ∀ i : Nat, i ≤ j + 1 → ∀ (v : Nat) (D : List Int) (ν : MemT), v < 64 → comB w i v = true → Ons (· = 16) μ ν → (∀ q : Nat, q < D.length → ν 16 q = D.getD q 0) → D.length + i = j + 1 → D ++ chL w i v = chL w (j + 1) (c0T w (j + 1)) → JJ (EM x) X 0 post 7 108 [some (rf (EM x) 0), some (iv ((j : Int) + 1)), some (iv v), some (iv tw), some (iv D.length), none, none] [] ν := by
    intro h_S tw h_tw i
    induction i with
    | zero =>
      intro h_i v D ν h_v h_cv h_o h_D h_l h_ch
      have h_ch2 : D ++ [(v : Int)] = chL w (j + 1) (c0T w (j + 1)) := h_ch
      · refine j_iload G dX12_layTwoWays_108 rfl ?_
        refine j_iload_n G dX12_layTwoWays_110 rfl ?_
        refine j_icmp_gt G dX12_layTwoWays_111 (tgt := 219) (by decide) (by omega) (by omega) (fun c_111 => ?_) (fun c_111 => ?_)
        · omega
        · refine j_iload_n G dX12_layTwoWays_114 rfl ?_
          refine j_if_lt G dX12_layTwoWays_115 (tgt := 219) (by decide) (by omega) (fun c_115 => ?_) (fun c_115 => ?_)
          · omega
          · first | refine j_aload_n G dX12_layTwoWays_118 rfl ?_ | refine j_aload_nN G dX12_layTwoWays_118 rfl ?_
            refine j_getr G fl_X12_56 dX12_layTwoWays_119 (by first | exact rfl | assumption) (by rfl) ?_
            refine j_iload G dX12_layTwoWays_122 rfl ?_
            refine j_iload_n G dX12_layTwoWays_124 rfl ?_
            refine j_iastore G dX12_layTwoWays_125 (by first | exact rfl | assumption) (by omega) (by omega) ?_
            refine j_iconst G dX12_layTwoWays_126 ?_
            refine j_istore5 G dX12_layTwoWays_127 (by decide) rfl ?_
            refine j_iconst G dX12_layTwoWays_129 ?_
            refine j_istore6 G dX12_layTwoWays_130 (by decide) rfl ?_
            refine j_iload G dX12_layTwoWays_132 rfl ?_
            refine j_bipush G dX12_layTwoWays_134 (by decide) ?_
            refine j_pc (p2 := 136) rfl ?_
            refine j_icmp_ge G dX12_layTwoWays_136 (tgt := 200) (by decide) (by omega) (by omega) (fun c_136 => ?_) (fun c_136 => ?_)
            · refine j_iload G dX12_layTwoWays_200 rfl ?_
              refine j_iload_n G dX12_layTwoWays_202 rfl ?_
              refine j_icmp_ge G dX12_layTwoWays_203 (tgt := 211) (by decide) (by omega) (by omega) (fun c_203 => ?_) (fun c_203 => ?_)
              · refine j_iload_n G dX12_layTwoWays_211 rfl ?_
                refine j_istore2 G dX12_layTwoWays_212 (by decide) rfl ?_
                refine j_iinc4 G dX12_layTwoWays_213 (by decide) rfl rfl ?_
                refine j_goto G dX12_layTwoWays_216 (tgt := 108) (by decide) ?_
                refine j_pc (p2 := 108) rfl ?_
                refine j_iload G dX12_layTwoWays_108 rfl ?_
                refine j_iload_n G dX12_layTwoWays_110 rfl ?_
                refine j_icmp_gt G dX12_layTwoWays_111 (tgt := 219) (by decide) (by omega) (by omega) (fun c_111 => ?_) (fun c_111 => ?_)
                · refine j_pc (p2 := 219) rfl ?_
                  refine j_weak (h_fin h_S _ v tw none none none h_v (h_o.up rfl) (fun q h_q => ?_) h_tw) ⟨rfl, rfl, rfl, rfl, trivial⟩
                  rw [← h_ch2, List.length_append] at h_q
                  rw [← h_ch2]
                  by_cases h_e : q = D.length
                  · rw [h_e, up_same, gd_e]
                  · have h_q2 : q < D.length + 1 := h_q
                    rw [up_idx (by omega), gd_l D v q (by omega)]
                    exact h_D q (by omega)
                · omega
              · omega
            · refine j_iload G dX12_layTwoWays_139 rfl ?_
              refine j_iload_n G dX12_layTwoWays_141 rfl ?_
              refine j_icmp_ge G dX12_layTwoWays_142 (tgt := 200) (by decide) (by omega) (by omega) (fun c_142 => ?_) (fun c_142 => ?_)
              · refine j_iload G dX12_layTwoWays_200 rfl ?_
                refine j_iload_n G dX12_layTwoWays_202 rfl ?_
                refine j_icmp_ge G dX12_layTwoWays_203 (tgt := 211) (by decide) (by omega) (by omega) (fun c_203 => ?_) (fun c_203 => ?_)
                · refine j_iload_n G dX12_layTwoWays_211 rfl ?_
                  refine j_istore2 G dX12_layTwoWays_212 (by decide) rfl ?_
                  refine j_iinc4 G dX12_layTwoWays_213 (by decide) rfl rfl ?_
                  refine j_goto G dX12_layTwoWays_216 (tgt := 108) (by decide) ?_
                  refine j_pc (p2 := 108) rfl ?_
                  refine j_iload G dX12_layTwoWays_108 rfl ?_
                  refine j_iload_n G dX12_layTwoWays_110 rfl ?_
                  refine j_icmp_gt G dX12_layTwoWays_111 (tgt := 219) (by decide) (by omega) (by omega) (fun c_111 => ?_) (fun c_111 => ?_)
                  · refine j_pc (p2 := 219) rfl ?_
                    refine j_weak (h_fin h_S _ v tw none none none h_v (h_o.up rfl) (fun q h_q => ?_) h_tw) ⟨rfl, rfl, rfl, rfl, trivial⟩
                    rw [← h_ch2, List.length_append] at h_q
                    rw [← h_ch2]
                    by_cases h_e : q = D.length
                    · rw [h_e, up_same, gd_e]
                    · have h_q2 : q < D.length + 1 := h_q
                      rw [up_idx (by omega), gd_l D v q (by omega)]
                      exact h_D q (by omega)
                  · omega
                · omega
              · omega
    | succ i ih =>
      intro h_i v D ν h_v h_cv h_o h_D h_l h_ch
      have h_ch2 : (D ++ [(v : Int)]) ++ chL w i (nxT w i v) = chL w (j + 1) (c0T w (j + 1)) := by rw [← h_ch, List.append_assoc]; rfl
      obtain ⟨h_n1, h_n2, h_n3⟩ := com_nx h_cv
      have h_n4 := h_n2
      rw [Bool.and_eq_true] at h_n4
      have h_200 : ∀ (ν2 : MemT) (l6 : Option Value), ν2 = up ν 16 (D.length : Nat) v → JJ (EM x) X 0 post 7 200 [some (rf (EM x) 0), some (iv ((j : Int) + 1)), some (iv v), some (iv tw), some (iv D.length), some (iv (nxT w i v : Nat)), l6] [] ν2 := by
        intro ν2 l6 h_ν2
        rw [h_ν2]
        · refine j_iload G dX12_layTwoWays_200 rfl ?_
          refine j_iload_n G dX12_layTwoWays_202 rfl ?_
          refine j_icmp_ge G dX12_layTwoWays_203 (tgt := 211) (by decide) (by omega) (by omega) (fun c_203 => ?_) (fun c_203 => ?_)
          · omega
          · refine j_iload G dX12_layTwoWays_206 rfl ?_
            refine j_goto G dX12_layTwoWays_208 (tgt := 212) (by decide) ?_
            refine j_istore2 G dX12_layTwoWays_212 (by decide) rfl ?_
            refine j_iinc4 G dX12_layTwoWays_213 (by decide) rfl rfl ?_
            refine j_goto G dX12_layTwoWays_216 (tgt := 108) (by decide) ?_
            refine j_pc (p2 := 108) rfl ?_
            have h_z := ih (by omega) (nxT w i v) (D ++ [(v : Int)]) (up ν 16 (D.length : Nat) v) h_n1 h_n4.2 (h_o.up rfl) (fun q h_q => by
              rw [List.length_append] at h_q
              by_cases h_e : q = D.length
              · rw [h_e, up_same, gd_e]
              · have h_q2 : q < D.length + 1 := h_q
                rw [up_idx (by omega), gd_l D v q (by omega)]
                exact h_D q (by omega)) (by rw [List.length_append]; show D.length + 1 + i = j + 1; omega) h_ch2
            rw [List.length_append] at h_z
            exact j_weak h_z ⟨rfl, rfl, rfl, rfl, rfl, trivial⟩
      · refine j_iload G dX12_layTwoWays_108 rfl ?_
        refine j_iload_n G dX12_layTwoWays_110 rfl ?_
        refine j_icmp_gt G dX12_layTwoWays_111 (tgt := 219) (by decide) (by omega) (by omega) (fun c_111 => ?_) (fun c_111 => ?_)
        · omega
        · refine j_iload_n G dX12_layTwoWays_114 rfl ?_
          refine j_if_lt G dX12_layTwoWays_115 (tgt := 219) (by decide) (by omega) (fun c_115 => ?_) (fun c_115 => ?_)
          · omega
          · first | refine j_aload_n G dX12_layTwoWays_118 rfl ?_ | refine j_aload_nN G dX12_layTwoWays_118 rfl ?_
            refine j_getr G fl_X12_56 dX12_layTwoWays_119 (by first | exact rfl | assumption) (by rfl) ?_
            refine j_iload G dX12_layTwoWays_122 rfl ?_
            refine j_iload_n G dX12_layTwoWays_124 rfl ?_
            refine j_iastore G dX12_layTwoWays_125 (by first | exact rfl | assumption) (by omega) (by omega) ?_
            refine j_iconst G dX12_layTwoWays_126 ?_
            refine j_istore5 G dX12_layTwoWays_127 (by decide) rfl ?_
            refine j_iconst G dX12_layTwoWays_129 ?_
            refine j_istore6 G dX12_layTwoWays_130 (by decide) rfl ?_
            refine j_pc (p2 := 132) rfl ?_
            refine j_weak (ls' := [some (rf (EM x) 0), some (iv ((j : Int) + 1)), some (iv v), some (iv tw), some (iv D.length), some (iv (-1)), some (iv ((0 : Nat) : Int))]) ?_ ⟨rfl, rfl, rfl, rfl, rfl, rfl, rfl, trivial⟩
            refine down (Pr := fun e => JJ (EM x) X 0 post 7 132 [some (rf (EM x) 0), some (iv ((j : Int) + 1)), some (iv v), some (iv tw), some (iv D.length), some (iv (-1)), some (iv e)] [] (up ν 16 (D.length : Nat) v)) (nxT w i v) ?_ 0 (Nat.zero_le _)
            intro e h_e ih2
            have h_n3e := h_n3 e
            have h_de : ν 14 (64 * (v : Int) + e) = db w v e := by rw [h_o 14 (by decide)]; exact h_d v e h_v (by omega)
            have h_ce : ν 15 (64 * ((j : Int) + 1 - D.length - 1) + e) = b2 (comB w i e = true) := by rw [h_o 15 (by decide), show (j : Int) + 1 - D.length - 1 = i by omega]; exact h_c i e (by omega) (by omega)
            have h_dre := h_dr v e
            refine j_iload G dX12_layTwoWays_132 rfl ?_
            refine j_bipush G dX12_layTwoWays_134 (by decide) ?_
            refine j_icmp_ge G dX12_layTwoWays_136 (tgt := 200) (by decide) (by omega) (by omega) (fun c_136 => ?_) (fun c_136 => ?_)
            · omega
            · refine j_iload G dX12_layTwoWays_139 rfl ?_
              refine j_iload_n G dX12_layTwoWays_141 rfl ?_
              refine j_icmp_ge G dX12_layTwoWays_142 (tgt := 200) (by decide) (by omega) (by omega) (fun c_142 => ?_) (fun c_142 => ?_)
              · omega
              · refine j_iload G dX12_layTwoWays_145 rfl ?_
                refine j_if_ge G dX12_layTwoWays_147 (tgt := 200) (by decide) (by omega) (fun c_147 => ?_) (fun c_147 => ?_)
                · omega
                · first | refine j_aload_n G dX12_layTwoWays_150 rfl ?_ | refine j_aload_nN G dX12_layTwoWays_150 rfl ?_
                  refine j_getr G fl_X12_49 dX12_layTwoWays_151 (by first | exact rfl | assumption) (by rfl) ?_
                  refine j_bipush G dX12_layTwoWays_154 (by decide) ?_
                  refine j_iload_n G dX12_layTwoWays_156 rfl ?_
                  refine j_imul G dX12_layTwoWays_157 ?_
                  refine j_iload G dX12_layTwoWays_158 rfl ?_
                  refine j_iadd G dX12_layTwoWays_160 ?_
                  refine j_iaload G dX12_layTwoWays_161 (by first | exact rfl | assumption) (by omega) (fun r_161 => ?_)
                  try simp (disch := omega) only [up_same, up_cell, up_idx, cpm_at, fil_at] at r_161 ⊢
                  rw [h_de]
                  refine j_if_le G dX12_layTwoWays_162 (tgt := 190) (by decide) (by omega) (fun c_162 => ?_) (fun c_162 => ?_)
                  · refine j_iload G dX12_layTwoWays_190 rfl ?_
                    refine j_istore5 G dX12_layTwoWays_192 (by decide) rfl ?_
                    refine j_iinc6 G dX12_layTwoWays_194 (by decide) rfl rfl ?_
                    refine j_goto G dX12_layTwoWays_197 (tgt := 132) (by decide) ?_
                    refine j_pc (p2 := 132) rfl ?_
                    refine ih2 (Nat.lt_of_le_of_ne h_e (fun h_eq => ?_))
                    rw [h_eq] at c_162
                    have := of_decide_eq_true h_n4.1
                    omega
                  · first | refine j_aload_n G dX12_layTwoWays_165 rfl ?_ | refine j_aload_nN G dX12_layTwoWays_165 rfl ?_
                    refine j_getr G fl_X12_52 dX12_layTwoWays_166 (by first | exact rfl | assumption) (by rfl) ?_
                    refine j_bipush G dX12_layTwoWays_169 (by decide) ?_
                    refine j_iload_n G dX12_layTwoWays_171 rfl ?_
                    refine j_iload G dX12_layTwoWays_172 rfl ?_
                    refine j_isub G dX12_layTwoWays_174 ?_
                    refine j_iconst G dX12_layTwoWays_175 ?_
                    refine j_isub G dX12_layTwoWays_176 ?_
                    refine j_imul G dX12_layTwoWays_177 ?_
                    refine j_iload G dX12_layTwoWays_178 rfl ?_
                    refine j_iadd G dX12_layTwoWays_180 ?_
                    refine j_pc (p2 := 181) rfl ?_
                    refine j_baload G dX12_layTwoWays_181 (by first | exact rfl | assumption) (by omega) (fun r_181 => ?_)
                    try simp (disch := omega) only [up_same, up_cell, up_idx, cpm_at, fil_at] at r_181 ⊢
                    rw [h_ce]
                    refine j_if_eqB G dX12_layTwoWays_182 (tgt := 190) (by decide)  (fun c_182 => ?_) (fun c_182 => ?_)
                    · refine j_iload G dX12_layTwoWays_190 rfl ?_
                      refine j_istore5 G dX12_layTwoWays_192 (by decide) rfl ?_
                      refine j_iinc6 G dX12_layTwoWays_194 (by decide) rfl rfl ?_
                      refine j_goto G dX12_layTwoWays_197 (tgt := 132) (by decide) ?_
                      refine j_pc (p2 := 132) rfl ?_
                      refine ih2 (Nat.lt_of_le_of_ne h_e (fun h_eq => ?_))
                      rw [h_eq] at c_182
                      exact c_182 h_n4.2
                    · obtain rfl : e = nxT w i v := Nat.le_antisymm h_e (Nat.le_of_not_lt (fun h_lt => by
                        have h_f := h_n3e h_lt
                        rw [c_182, decide_eq_true c_162] at h_f
                        exact absurd h_f (by decide)))
                      refine j_iload G dX12_layTwoWays_185 rfl ?_
                      refine j_goto G dX12_layTwoWays_187 (tgt := 192) (by decide) ?_
                      refine j_istore5 G dX12_layTwoWays_192 (by decide) rfl ?_
                      refine j_iinc6 G dX12_layTwoWays_194 (by decide) rfl rfl ?_
                      refine j_goto G dX12_layTwoWays_197 (tgt := 132) (by decide) ?_
                      refine j_pc (p2 := 132) rfl ?_
                      refine j_iload G dX12_layTwoWays_132 rfl ?_
                      refine j_bipush G dX12_layTwoWays_134 (by decide) ?_
                      refine j_icmp_ge G dX12_layTwoWays_136 (tgt := 200) (by decide) (by omega) (by omega) (fun c_136 => ?_) (fun c_136 => ?_)
                      · refine j_pc (p2 := 200) rfl ?_
                        exact h_200 _ _ rfl
                      · refine j_iload G dX12_layTwoWays_139 rfl ?_
                        refine j_iload_n G dX12_layTwoWays_141 rfl ?_
                        refine j_icmp_ge G dX12_layTwoWays_142 (tgt := 200) (by decide) (by omega) (by omega) (fun c_142 => ?_) (fun c_142 => ?_)
                        · omega
                        · refine j_iload G dX12_layTwoWays_145 rfl ?_
                          refine j_if_ge G dX12_layTwoWays_147 (tgt := 200) (by decide) (by omega) (fun c_147 => ?_) (fun c_147 => ?_)
                          · refine j_pc (p2 := 200) rfl ?_
                            exact h_200 _ _ rfl
                          · omega
  have h_95 : ∀ (tw : Int) (l4 : Option Value), ((tw = -1 ∧ ¬ (j = 0 ∧ anyB (prP w) 4096 = true)) ∨ (tw = (fsB (prP w) 4096 : Nat) ∧ j = 0 ∧ anyB (prP w) 4096 = true)) → ∀ at_ : Int, ((at_ = -1 ∧ ¬ stB w (j + 1) = true) ∨ (at_ = (c0T w (j + 1) : Nat) ∧ stB w (j + 1) = true)) → JJ (EM x) X 0 post 7 95 [some (rf (EM x) 0), some (iv ((j : Int) + 1)), some (iv at_), some (iv tw), l4, none, none] [] μ := by
    intro tw l4 h_tw at_ h_at
    have h_P1 : anyB (prP w) 4096 = true → fsB (prP w) 4096 < 4096 := fun h => (fsB_is 4096 h).1
    rcases h_at with ⟨h_a1, h_a2⟩ | ⟨h_a1, h_a2⟩
    · rw [h_a1]
      rcases h_tw with ⟨h_t1, h_t2⟩ | ⟨h_t1, h_t2, h_t3⟩
      · rw [h_t1]
        have h_no : ¬ (stB w (j + 1) = true ∨ (j = 0 ∧ anyB (prP w) 4096 = true)) := fun z => z.elim h_a2 h_t2
        · refine j_iload_n G dX12_layTwoWays_95 rfl ?_
          refine j_if_ge G dX12_layTwoWays_96 (tgt := 105) (by decide) (by omega) (fun c_96 => ?_) (fun c_96 => ?_)
          · omega
          · refine j_iload_n G dX12_layTwoWays_99 rfl ?_
            refine j_if_ge G dX12_layTwoWays_100 (tgt := 105) (by decide) (by omega) (fun c_100 => ?_) (fun c_100 => ?_)
            · omega
            · refine j_iconst G dX12_layTwoWays_103 ?_
              refine j_zreturn G dX12_layTwoWays_104 (by first | exact b2_01 _ | omega) ?_
              rw [← h_post]
              exact ⟨0, rfl, Ons.rf _ _, by rw [b2_f h_no], fun h => absurd h h_no⟩
      · rw [h_t1]
        have h_P2 := h_P1 h_t3
        · refine j_iload_n G dX12_layTwoWays_95 rfl ?_
          refine j_if_ge G dX12_layTwoWays_96 (tgt := 105) (by decide) (by omega) (fun c_96 => ?_) (fun c_96 => ?_)
          · omega
          · refine j_iload_n G dX12_layTwoWays_99 rfl ?_
            refine j_if_ge G dX12_layTwoWays_100 (tgt := 105) (by decide) (by omega) (fun c_100 => ?_) (fun c_100 => ?_)
            · refine j_iconst G dX12_layTwoWays_105 ?_
              refine j_istore4 G dX12_layTwoWays_106 (by decide) rfl ?_
              refine j_iload G dX12_layTwoWays_108 rfl ?_
              refine j_iload_n G dX12_layTwoWays_110 rfl ?_
              refine j_icmp_gt G dX12_layTwoWays_111 (tgt := 219) (by decide) (by omega) (by omega) (fun c_111 => ?_) (fun c_111 => ?_)
              · omega
              · refine j_iload_n G dX12_layTwoWays_114 rfl ?_
                refine j_if_lt G dX12_layTwoWays_115 (tgt := 219) (by decide) (by omega) (fun c_115 => ?_) (fun c_115 => ?_)
                · refine j_iload_n G dX12_layTwoWays_219 rfl ?_
                  refine j_if_lt G dX12_layTwoWays_220 (tgt := 267) (by decide) (by omega) (fun c_220 => ?_) (fun c_220 => ?_)
                  · omega
                  · refine j_iload_n G dX12_layTwoWays_223 rfl ?_
                    refine j_if_lt G dX12_layTwoWays_224 (tgt := 247) (by decide) (by omega) (fun c_224 => ?_) (fun c_224 => ?_)
                    · refine j_pc (p2 := 247) rfl ?_
                      refine h_set h_t3 (Or.inr ⟨h_t2, h_t3⟩) ?_ μ _ _ _ _ (Ons.rf _ _)
                      unfold laR
                      rw [if_neg (fun z => h_a2 z.1)]
                    · omega
                · omega
            · omega
    · rw [h_a1]
      obtain ⟨h_q1, h_q2, -⟩ := fsB_is 64 h_a2
      have h_q3 : c0T w (j + 1) < 64 := h_q1
      rw [Bool.and_eq_true] at h_q2
      · refine j_iload_n G dX12_layTwoWays_95 rfl ?_
        refine j_if_ge G dX12_layTwoWays_96 (tgt := 105) (by decide) (by omega) (fun c_96 => ?_) (fun c_96 => ?_)
        · refine j_iconst G dX12_layTwoWays_105 ?_
          refine j_istore4 G dX12_layTwoWays_106 (by decide) rfl ?_
          refine j_pc (p2 := 108) rfl ?_
          exact j_weak (h_ch h_a2 tw h_tw (j + 1) (Nat.le_refl _) (c0T w (j + 1)) [] μ h_q3 h_q2.2 (Ons.rf _ _) (fun q h_q => absurd h_q (Nat.not_lt_zero _)) (by show 0 + (j + 1) = j + 1; omega) rfl) ⟨rfl, rfl, rfl, rfl, rfl, trivial⟩
        · omega
  have h_49 : ∀ (at_ : Int) (l3 : Option Value), ((at_ = -1 ∧ ¬ stB w (j + 1) = true) ∨ (at_ = (c0T w (j + 1) : Nat) ∧ stB w (j + 1) = true)) → JJ (EM x) X 0 post 7 49 [some (rf (EM x) 0), some (iv ((j : Int) + 1)), some (iv at_), l3, none, none, none] [] μ := by
    intro at_ l3 h_at
    by_cases h_0 : j = 0
    · refine j_iconst G dX12_layTwoWays_49 ?_
      refine j_istore3 G dX12_layTwoWays_50 (by decide) rfl ?_
      refine j_iconst G dX12_layTwoWays_51 ?_
      refine j_istore4 G dX12_layTwoWays_52 (by decide) rfl ?_
      refine j_pc (p2 := 54) rfl ?_
      refine j_weak (ls' := [some (rf (EM x) 0), some (iv ((j : Int) + 1)), some (iv at_), some (iv (-1)), some (iv ((0 : Nat) : Int)), none, none]) ?_ ⟨rfl, rfl, rfl, rfl, rfl, trivial⟩
      refine down (Pr := fun c => (∀ u, u < c → ¬ prP w u = true) → JJ (EM x) X 0 post 7 54 [some (rf (EM x) 0), some (iv ((j : Int) + 1)), some (iv at_), some (iv (-1)), some (iv c), none, none] [] μ) 4096 ?_ 0 (Nat.zero_le _) (fun u h_u => by omega)
      intro c h_c ih h_no
      have h_dc := h_d2 c
      have h_drc := h_dr (c / 64) (c % 64)
      refine j_iload G dX12_layTwoWays_54 rfl ?_
      refine j_sipush G dX12_layTwoWays_56 (by decide) ?_
      refine j_icmp_ge G dX12_layTwoWays_59 (tgt := 95) (by decide) (by omega) (by omega) (fun c_59 => ?_) (fun c_59 => ?_)
      · refine j_pc (p2 := 95) rfl ?_
        refine h_95 _ _ (Or.inl ⟨rfl, fun z => ?_⟩) at_ h_at
        obtain ⟨u, h_1, h_2⟩ := anyB_iff.1 z.2
        exact h_no u (by omega) h_2
      · refine j_iload_n G dX12_layTwoWays_62 rfl ?_
        refine j_iconst G dX12_layTwoWays_63 ?_
        refine j_icmp_ne G dX12_layTwoWays_64 (tgt := 95) (by decide) (by omega) (by omega) (fun c_64 => ?_) (fun c_64 => ?_)
        · omega
        · refine j_iload_n G dX12_layTwoWays_67 rfl ?_
          refine j_if_ge G dX12_layTwoWays_68 (tgt := 95) (by decide) (by omega) (fun c_68 => ?_) (fun c_68 => ?_)
          · omega
          · first | refine j_aload_n G dX12_layTwoWays_71 rfl ?_ | refine j_aload_nN G dX12_layTwoWays_71 rfl ?_
            refine j_getr G fl_X12_49 dX12_layTwoWays_72 (by first | exact rfl | assumption) (by rfl) ?_
            refine j_iload G dX12_layTwoWays_75 rfl ?_
            refine j_iaload G dX12_layTwoWays_77 (by first | exact rfl | assumption) (by omega) (fun r_77 => ?_)
            try simp (disch := omega) only [up_same, up_cell, up_idx, cpm_at, fil_at] at r_77 ⊢
            rw [h_dc (by omega)]
            refine j_iconst G dX12_layTwoWays_78 ?_
            refine j_icmp_le G dX12_layTwoWays_79 (tgt := 87) (by decide) (by omega) (by omega) (fun c_79 => ?_) (fun c_79 => ?_)
            · refine j_iload_n G dX12_layTwoWays_87 rfl ?_
              refine j_istore3 G dX12_layTwoWays_88 (by decide) rfl ?_
              refine j_iinc4 G dX12_layTwoWays_89 (by decide) rfl rfl ?_
              refine j_goto G dX12_layTwoWays_92 (tgt := 54) (by decide) ?_
              refine j_pc (p2 := 54) rfl ?_
              refine ih (by omega) (fun u h_u => ?_)
              by_cases h_e : u = c
              · rw [h_e]
                unfold prP
                rw [decide_eq_true_eq]
                omega
              · exact h_no u (by omega)
            · have h_p : prP w c = true := decide_eq_true (show 1 < db w (c / 64) (c % 64) from c_79)
              have h_fs : fsB (prP w) 4096 = c := fsB_eq (by omega) h_p h_no
              refine j_iload G dX12_layTwoWays_82 rfl ?_
              refine j_goto G dX12_layTwoWays_84 (tgt := 88) (by decide) ?_
              refine j_istore3 G dX12_layTwoWays_88 (by decide) rfl ?_
              refine j_iinc4 G dX12_layTwoWays_89 (by decide) rfl rfl ?_
              refine j_goto G dX12_layTwoWays_92 (tgt := 54) (by decide) ?_
              refine j_pc (p2 := 54) rfl ?_
              refine j_iload G dX12_layTwoWays_54 rfl ?_
              refine j_sipush G dX12_layTwoWays_56 (by decide) ?_
              refine j_icmp_ge G dX12_layTwoWays_59 (tgt := 95) (by decide) (by omega) (by omega) (fun c_59 => ?_) (fun c_59 => ?_)
              · refine j_pc (p2 := 95) rfl ?_
                exact h_95 _ _ (Or.inr ⟨by rw [h_fs], h_0, anyB_iff.2 ⟨c, by omega, h_p⟩⟩) at_ h_at
              · refine j_iload_n G dX12_layTwoWays_62 rfl ?_
                refine j_iconst G dX12_layTwoWays_63 ?_
                refine j_icmp_ne G dX12_layTwoWays_64 (tgt := 95) (by decide) (by omega) (by omega) (fun c_64 => ?_) (fun c_64 => ?_)
                · omega
                · refine j_iload_n G dX12_layTwoWays_67 rfl ?_
                  refine j_if_ge G dX12_layTwoWays_68 (tgt := 95) (by decide) (by omega) (fun c_68 => ?_) (fun c_68 => ?_)
                  · refine j_pc (p2 := 95) rfl ?_
                    exact h_95 _ _ (Or.inr ⟨by rw [h_fs], h_0, anyB_iff.2 ⟨c, by omega, h_p⟩⟩) at_ h_at
                  · omega
    · refine j_iconst G dX12_layTwoWays_49 ?_
      refine j_istore3 G dX12_layTwoWays_50 (by decide) rfl ?_
      refine j_iconst G dX12_layTwoWays_51 ?_
      refine j_istore4 G dX12_layTwoWays_52 (by decide) rfl ?_
      refine j_iload G dX12_layTwoWays_54 rfl ?_
      refine j_sipush G dX12_layTwoWays_56 (by decide) ?_
      refine j_icmp_ge G dX12_layTwoWays_59 (tgt := 95) (by decide) (by omega) (by omega) (fun c_59 => ?_) (fun c_59 => ?_)
      · omega
      · refine j_iload_n G dX12_layTwoWays_62 rfl ?_
        refine j_iconst G dX12_layTwoWays_63 ?_
        refine j_icmp_ne G dX12_layTwoWays_64 (tgt := 95) (by decide) (by omega) (by omega) (fun c_64 => ?_) (fun c_64 => ?_)
        · refine j_pc (p2 := 95) rfl ?_
          exact h_95 _ _ (Or.inl ⟨rfl, fun z => h_0 z.1⟩) at_ h_at
        · omega
  refine j_iconst G dX12_layTwoWays_0 ?_
  refine j_istore2 G dX12_layTwoWays_1 (by decide) rfl ?_
  refine j_iconst G dX12_layTwoWays_2 ?_
  refine j_istore3 G dX12_layTwoWays_3 (by decide) rfl ?_
  refine j_pc (p2 := 4) rfl ?_
  refine j_weak (ls' := [some (rf (EM x) 0), some (iv ((j : Int) + 1)), some (iv (-1)), some (iv ((0 : Nat) : Int)), none, none, none]) ?_ ⟨rfl, rfl, rfl, rfl, trivial⟩
  refine down (Pr := fun v => (∀ u, u < v → ¬ (decide (0 < sg w u) && comB w (j + 1) u) = true) → JJ (EM x) X 0 post 7 4 [some (rf (EM x) 0), some (iv ((j : Int) + 1)), some (iv (-1)), some (iv v), none, none, none] [] μ) 64 ?_ 0 (Nat.zero_le _) (fun u h_u => by omega)
  intro v h_v ih h_no
  have h_sv := h_s v
  have h_cv : v < 64 → μ 15 (64 * ((j : Int) + 1) + v) = b2 (comB w (j + 1) v = true) := fun h => h_c (j + 1) v (by omega) h
  have h_srv := h_sr v
  have h_nx : v < 64 → ¬ (decide (0 < sg w v) && comB w (j + 1) v) = true → JJ (EM x) X 0 post 7 4 [some (rf (EM x) 0), some (iv ((j : Int) + 1)), some (iv (-1)), some (iv ((v + 1 : Nat) : Int)), none, none, none] [] μ := fun h_1 h_2 => ih h_1 (fun u h_u => by
    by_cases h_e : u = v
    · rw [h_e]
      exact h_2
    · exact h_no u (by omega))
  refine j_iload_n G dX12_layTwoWays_4 rfl ?_
  refine j_bipush G dX12_layTwoWays_5 (by decide) ?_
  refine j_icmp_ge G dX12_layTwoWays_7 (tgt := 49) (by decide) (by omega) (by omega) (fun c_7 => ?_) (fun c_7 => ?_)
  · refine j_pc (p2 := 49) rfl ?_
    refine h_49 _ _ (Or.inl ⟨rfl, fun z => ?_⟩)
    obtain ⟨u, h_1, h_2⟩ := anyB_iff.1 z
    exact h_no u (by omega) h_2
  · refine j_iload_n G dX12_layTwoWays_10 rfl ?_
    refine j_if_ge G dX12_layTwoWays_11 (tgt := 49) (by decide) (by omega) (fun c_11 => ?_) (fun c_11 => ?_)
    · omega
    · first | refine j_aload_n G dX12_layTwoWays_14 rfl ?_ | refine j_aload_nN G dX12_layTwoWays_14 rfl ?_
      refine j_getr G fl_X12_46 dX12_layTwoWays_15 (by first | exact rfl | assumption) (by rfl) ?_
      refine j_iload_n G dX12_layTwoWays_18 rfl ?_
      refine j_iaload G dX12_layTwoWays_19 (by first | exact rfl | assumption) (by omega) (fun r_19 => ?_)
      try simp (disch := omega) only [up_same, up_cell, up_idx, cpm_at, fil_at] at r_19 ⊢
      rw [h_sv (by omega)]
      refine j_if_le G dX12_layTwoWays_20 (tgt := 41) (by decide) (by omega) (fun c_20 => ?_) (fun c_20 => ?_)
      · refine j_iload_n G dX12_layTwoWays_41 rfl ?_
        refine j_istore2 G dX12_layTwoWays_42 (by decide) rfl ?_
        refine j_iinc3 G dX12_layTwoWays_43 (by decide) rfl rfl ?_
        refine j_goto G dX12_layTwoWays_46 (tgt := 4) (by decide) ?_
        refine j_pc (p2 := 4) rfl ?_
        exact h_nx (by omega) (fun z => by rw [decide_eq_false (show ¬ 0 < sg w v by omega), Bool.false_and] at z; exact absurd z (by decide))
      · first | refine j_aload_n G dX12_layTwoWays_23 rfl ?_ | refine j_aload_nN G dX12_layTwoWays_23 rfl ?_
        refine j_getr G fl_X12_52 dX12_layTwoWays_24 (by first | exact rfl | assumption) (by rfl) ?_
        refine j_bipush G dX12_layTwoWays_27 (by decide) ?_
        refine j_iload_n G dX12_layTwoWays_29 rfl ?_
        refine j_imul G dX12_layTwoWays_30 ?_
        refine j_iload_n G dX12_layTwoWays_31 rfl ?_
        refine j_iadd G dX12_layTwoWays_32 ?_
        refine j_baload G dX12_layTwoWays_33 (by first | exact rfl | assumption) (by omega) (fun r_33 => ?_)
        try simp (disch := omega) only [up_same, up_cell, up_idx, cpm_at, fil_at] at r_33 ⊢
        rw [h_cv (by omega)]
        refine j_if_eqB G dX12_layTwoWays_34 (tgt := 41) (by decide)  (fun c_34 => ?_) (fun c_34 => ?_)
        · refine j_iload_n G dX12_layTwoWays_41 rfl ?_
          refine j_istore2 G dX12_layTwoWays_42 (by decide) rfl ?_
          refine j_iinc3 G dX12_layTwoWays_43 (by decide) rfl rfl ?_
          refine j_goto G dX12_layTwoWays_46 (tgt := 4) (by decide) ?_
          refine j_pc (p2 := 4) rfl ?_
          exact h_nx (by omega) (fun z => by rw [Bool.and_eq_true] at z; exact c_34 z.2)
        · have h_p : (decide (0 < sg w v) && comB w (j + 1) v) = true := by rw [decide_eq_true (show 0 < sg w v from c_20), Bool.true_and]; exact c_34
          have h_fs : c0T w (j + 1) = v := fsB_eq (by omega) h_p h_no
          refine j_iload_n G dX12_layTwoWays_37 rfl ?_
          refine j_goto G dX12_layTwoWays_38 (tgt := 42) (by decide) ?_
          refine j_istore2 G dX12_layTwoWays_42 (by decide) rfl ?_
          refine j_iinc3 G dX12_layTwoWays_43 (by decide) rfl rfl ?_
          refine j_goto G dX12_layTwoWays_46 (tgt := 4) (by decide) ?_
          refine j_pc (p2 := 4) rfl ?_
          refine j_iload_n G dX12_layTwoWays_4 rfl ?_
          refine j_bipush G dX12_layTwoWays_5 (by decide) ?_
          refine j_icmp_ge G dX12_layTwoWays_7 (tgt := 49) (by decide) (by omega) (by omega) (fun c_7 => ?_) (fun c_7 => ?_)
          · refine j_pc (p2 := 49) rfl ?_
            exact h_49 _ _ (Or.inr ⟨by rw [h_fs], anyB_iff.2 ⟨v, by omega, h_p⟩⟩)
          · refine j_iload_n G dX12_layTwoWays_10 rfl ?_
            refine j_if_ge G dX12_layTwoWays_11 (tgt := 49) (by decide) (by omega) (fun c_11 => ?_) (fun c_11 => ?_)
            · refine j_pc (p2 := 49) rfl ?_
              exact h_49 _ _ (Or.inr ⟨by rw [h_fs], anyB_iff.2 ⟨v, by omega, h_p⟩⟩)
            · omega
end TO
