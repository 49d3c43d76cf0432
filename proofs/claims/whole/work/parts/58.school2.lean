section SC2
variable {x x1 x2 : CX} {μ σ : MemT}
def waM (μ : MemT) (s m : Nat) (k : Nat) : Int := if m.testBit (k % 5) = true then 0 else μ 26 (40 * s + k)
def stM (μ : MemT) (s : Nat) (k : Nat) : Nat := if 0 < μ 26 (40 * s + k) then 2 ^ (k / 5) else 0
theorem stM_lt (μ : MemT) (s n : Nat) (h : n ≤ 40) : orA (stM μ s) n < 2 ^ 8 := orA_lt n (fun i hi => by
  unfold stM
  split
  · exact Nat.pow_lt_pow_right (by decide) (by omega)
  · decide)
theorem stM_st (s : Nat) (h_s : s < 6) (h_sh : ReSh σ μ) : orA (stM μ s) 40 = stS σ s := by
  apply Nat.eq_of_testBit_eq
  intro b
  unfold stS
  rw [bo_bit, orA_bit, Bool.eq_iff_iff, Bool.and_eq_true, decide_eq_true_eq, anyB_iff, anyB_iff]
  constructor
  · rintro ⟨k, h_k, h_1⟩
    unfold stM at h_1
    by_cases h_p : 0 < μ 26 (40 * s + k)
    · rw [if_pos h_p, Nat.testBit_two_pow, decide_eq_true_eq] at h_1
      refine ⟨by omega, k % 5, by omega, ?_⟩
      have := h_sh s h_s b (by omega) ((k % 5 : Nat) : Int) (by omega) (by omega)
      rw [show (40 : Int) * s + 5 * b + ((k % 5 : Nat) : Int) = 40 * s + k by omega] at this
      rw [decide_eq_true_eq, ← this]
      exact h_p
    · rw [if_neg h_p] at h_1
      simp at h_1
  · rintro ⟨h_b, e, h_e, h_1⟩
    refine ⟨5 * b + e, by omega, ?_⟩
    have := h_sh s h_s b h_b e (by omega) (by omega)
    rw [decide_eq_true_eq, ← this] at h_1
    unfold stM
    rw [if_pos (by rw [show (40 : Int) * s + ((5 * b + e : Nat) : Int) = 40 * s + 5 * b + e by omega]; exact h_1), Nat.testBit_two_pow, decide_eq_true_eq]
    omega
theorem waM_wa (s m : Nat) (h_s : s < 6) (h_sh : ReSh σ μ) : sm (waM μ s m) 40 = waS σ s m := by
  rw [show (40 : Nat) = 5 * 8 from rfl, sm_flat]
  unfold waS
  refine sm_cg 8 (fun b h_b => sm_cg 5 (fun e h_e => ?_))
  have := h_sh s h_s b h_b e (by omega) (by omega)
  unfold waM
  rw [show (5 * b + e) % 5 = e by omega, show (40 : Int) * s + ((5 * b + e : Nat) : Int) = 40 * s + 5 * b + e by omega, this]
theorem m_school (s n : Nat) (h_s : s < 6) (w : Int) (h_1 : (-2147483648 ≤ w ∧ w < 2147483648)) (h_n : σ 0 8 = n) (h_20 : n ≤ 20) (h_rd : ReRd σ μ) (h_sh : ReSh σ μ) (h_ws : WfSh σ) (h_wr : WfRd σ) : CT (EM x) 3 yX12_school [rf (EM x) 0, iv s, iv w] μ (rI (scS σ s n w) μ) := by
  have h_wa : ∀ (m k : Nat), k ≤ 40 → 0 ≤ sm (waM μ s m) k ∧ sm (waM μ s m) k ≤ 4000 := by
    intro m k h_k
    have := sm_rg (g := waM μ s m) (a := 0) (b := 100) k (fun i hi => by
      have h_2 := h_sh s h_s (i / 5) (by omega) ((i % 5 : Nat) : Int) (by omega) (by omega)
      have h_3 := h_ws s h_s (i / 5) (by omega) ((i % 5 : Nat) : Int) (by omega) (by omega)
      rw [show (40 : Int) * s + 5 * ((i / 5 : Nat) : Int) + ((i % 5 : Nat) : Int) = 40 * s + i by omega] at h_2
      unfold waM
      split <;> omega)
    omega
  refine CT.ofJ (own := RX12) (cc := cX12_school) (n := 10) (ret := (some .int)) (by decide) rfl cw_X12_school (by decide) (Nat.le_of_ble_eq_true rfl) (ls := [some (rf (EM x) 0), some (iv s), some (iv w), none, none, none, none, none, none, none]) rfl ?_
  intro X G
  refine j_iload_n G dX12_school_0 rfl ?_
  refine j_callS G ms_X12_254 dX12_school_1 (m_isSchool s (by omega)) rfl rfl (by exact Nat.le_of_ble_eq_true rfl) (by decide) (kI ?_)
  refine j_if_neB G dX12_school_4 (tgt := 9) (by decide)  (fun c_4 => ?_) (fun c_4 => ?_)
  · refine j_iload_n G dX12_school_9 rfl ?_
    refine j_i2l G (by omega) dX12_school_10 ?_
    refine j_lconstI G 0 dX12_school_11 (by decide) ?_
    refine j_ldc2I G (3) kl_X12_288 dX12_school_12 (by decide) ?_
    refine j_callS G ms_X12_115 dX12_school_15 (m_in _ _ _ (by omega) (by omega) (by omega)) rfl rfl (by exact Nat.le_of_ble_eq_true rfl) (by decide) (kI ?_)
    refine j_if_neB G dX12_school_18 (tgt := 24) (by decide)  (fun c_18 => ?_) (fun c_18 => ?_)
    · refine j_iconst G dX12_school_24 ?_
      refine j_istore3 G dX12_school_25 (by decide) rfl ?_
      refine j_iconst G dX12_school_26 ?_
      refine j_istore4 G dX12_school_27 (by decide) rfl ?_
      refine j_iconst G dX12_school_29 ?_
      refine j_istore5 G dX12_school_30 (by decide) rfl ?_
      refine j_iconst G dX12_school_32 ?_
      refine j_istore6 G dX12_school_33 (by decide) rfl ?_
      refine j_iconst G dX12_school_35 ?_
      refine j_istore7 G dX12_school_36 (by decide) rfl ?_
      refine j_pc (p2 := 38) rfl ?_
      refine j_weak (ls' := [some (rf (EM x) 0), some (iv s), some (iv w), some (iv (sm (heS σ s) 0)), some (iv (sm (noS σ s) 0)), some (iv ((orA (knS σ s) 0 : Nat) : Int)), some (iv ((orA (reS σ s) 0 : Nat) : Int)), some (iv ((0 : Nat) : Int)), none, none]) ?_ ⟨rfl, rfl, rfl, rfl, rfl, rfl, rfl, rfl, trivial⟩
      refine down (Pr := fun i => JJ (EM x) X 3 (rI (scS σ s n w) μ) 10 38 [some (rf (EM x) 0), some (iv s), some (iv w), some (iv (sm (heS σ s) i)), some (iv (sm (noS σ s) i)), some (iv ((orA (knS σ s) i : Nat) : Int)), some (iv ((orA (reS σ s) i : Nat) : Int)), some (iv i), none, none] [] μ) n ?_ 0 (Nat.zero_le _)
      intro i h_i ih
      have h_he := heS_rg σ s i
      have h_no := noS_rg σ s i
      have h_kn := pow31 (knS_lt σ s i) (by decide)
      have h_re := pow31 (reS_lt σ s i) (by decide)
      refine j_iload G dX12_school_38 rfl ?_
      first | refine j_aload_n G dX12_school_40 rfl ?_ | refine j_aload_nN G dX12_school_40 rfl ?_
      refine j_geti G fl_X12_249 dX12_school_41 33 rfl (by first | assumption | rfl) (by rfl) (fun r_41 => ?_)
      try simp (disch := omega) only [up_same, up_cell, up_idx, cpm_at, fil_at] at r_41 ⊢
      rw [h_rd.1, h_n]
      refine j_icmp_ge G dX12_school_44 (tgt := 108) (by decide) (by omega) (by omega) (fun c_44 => ?_) (fun c_44 => ?_)
      · refine j_iconst G dX12_school_108 ?_
        refine j_istore7 G dX12_school_109 (by decide) rfl ?_
        refine j_iconst G dX12_school_111 ?_
        refine j_istore8 G dX12_school_112 (by decide) rfl ?_
        refine j_iconst G dX12_school_114 ?_
        refine j_istore9 G dX12_school_115 (by decide) rfl ?_
        refine j_pc (p2 := 117) rfl ?_
        obtain rfl : i = n := by rw [h_rd.1] at *; omega
        have h_sp : scS σ s i w = if w = 0 then sm (noS σ s) i else if w = 1 then sm (waM μ s (orA (knS σ s) i)) 40 else if w = 2 then sm (heS σ s) i else and32 ((orA (stM μ s) 40 : Nat) : Int) (xor32 (orA (reS σ s) i) (-1)) := by
          unfold scS
          rw [waM_wa s _ h_s h_sh, stM_st s h_s h_sh]
          repeat' split <;> first | rfl | omega
        rw [h_sp]
        clear h_sp ih
        generalize sm (noS σ s) i = zn at h_no ⊢
        generalize sm (heS σ s) i = zh at h_he ⊢
        generalize orA (knS σ s) i = zk at h_kn ⊢
        generalize orA (reS σ s) i = zr at h_re ⊢
        generalize h_pst : rI (if w = 0 then zn else if w = 1 then sm (waM μ s zk) 40 else if w = 2 then zh else and32 ((orA (stM μ s) 40 : Nat) : Int) (xor32 zr (-1))) μ = pst
        refine j_weak (ls' := [some (rf (EM x) 0), some (iv s), some (iv w), some (iv zh), some (iv zn), some (iv zk), some (iv zr), some (iv (sm (waM μ s zk) 0)), some (iv ((orA (stM μ s) 0 : Nat) : Int)), some (iv ((0 : Nat) : Int))]) ?_ ⟨rfl, rfl, rfl, rfl, rfl, rfl, rfl, rfl, rfl, rfl, trivial⟩
        refine down (Pr := fun k => JJ (EM x) X 3 pst 10 117 [some (rf (EM x) 0), some (iv s), some (iv w), some (iv zh), some (iv zn), some (iv zk), some (iv zr), some (iv (sm (waM μ s zk) k)), some (iv ((orA (stM μ s) k : Nat) : Int)), some (iv k)] [] μ) 40 ?_ 0 (by decide)
        intro k h_k ihk
        have h_w2 := h_wa zk k h_k
        have h_st := pow31 (stM_lt μ s k h_k) (by decide)
        have h_sw : k < 40 → JJ (EM x) X 3 pst 10 187 [some (rf (EM x) 0), some (iv s), some (iv w), some (iv zh), some (iv zn), some (iv zk), some (iv zr), some (iv (sm (waM μ s zk) (k + 1))), some (iv ((orA (stM μ s) (k + 1) : Nat) : Int)), some (iv k)] [] μ := by
          intro h_k4
          have h_z := ihk h_k4
          refine j_iinc9 G dX12_school_187 (by decide) rfl rfl ?_
          refine j_goto G dX12_school_190 (tgt := 117) (by decide) ?_
          refine j_pc (p2 := 117) rfl ?_
          exact h_z
        refine j_iload G dX12_school_117 rfl ?_
        refine j_bipush G dX12_school_119 (by decide) ?_
        refine j_icmp_ge G dX12_school_121 (tgt := 193) (by decide) (by omega) (by omega) (fun c_121 => ?_) (fun c_121 => ?_)
        · refine j_pc (p2 := 193) rfl ?_
          obtain rfl : k = 40 := by omega
          refine j_iload_n G dX12_school_193 rfl ?_
          refine j_if_ne G dX12_school_194 (tgt := 202) (by decide) (by omega) (fun c_194 => ?_) (fun c_194 => ?_)
          · refine j_iload_n G dX12_school_202 rfl ?_
            refine j_iconst G dX12_school_203 ?_
            refine j_icmp_ne G dX12_school_204 (tgt := 212) (by decide) (by omega) (by omega) (fun c_204 => ?_) (fun c_204 => ?_)
            · refine j_iload_n G dX12_school_212 rfl ?_
              refine j_iconst G dX12_school_213 ?_
              refine j_icmp_ne G dX12_school_214 (tgt := 221) (by decide) (by omega) (by omega) (fun c_214 => ?_) (fun c_214 => ?_)
              · refine j_iload G dX12_school_221 rfl ?_
                refine j_iload G dX12_school_223 rfl ?_
                refine j_iconst G dX12_school_225 ?_
                refine j_ixor G dX12_school_226 ?_
                refine j_iand G dX12_school_227 ?_
                refine j_ireturn G dX12_school_228 ?_
                rw [← h_pst]
                exact ⟨congrArg (fun z => some (iv z)) (by repeat' split <;> first | rfl | omega), rfl⟩
              · refine j_iload_n G dX12_school_217 rfl ?_
                refine j_goto G dX12_school_218 (tgt := 228) (by decide) ?_
                refine j_ireturn G dX12_school_228 ?_
                rw [← h_pst]
                exact ⟨congrArg (fun z => some (iv z)) (by repeat' split <;> first | rfl | omega), rfl⟩
            · refine j_iload G dX12_school_207 rfl ?_
              refine j_goto G dX12_school_209 (tgt := 228) (by decide) ?_
              refine j_ireturn G dX12_school_228 ?_
              rw [← h_pst]
              exact ⟨congrArg (fun z => some (iv z)) (by repeat' split <;> first | rfl | omega), rfl⟩
          · refine j_iload G dX12_school_197 rfl ?_
            refine j_goto G dX12_school_199 (tgt := 228) (by decide) ?_
            refine j_ireturn G dX12_school_228 ?_
            rw [← h_pst]
            exact ⟨congrArg (fun z => some (iv z)) (by repeat' split <;> first | rfl | omega), rfl⟩
        · refine j_iload G dX12_school_124 rfl ?_
          refine j_iload G dX12_school_126 rfl ?_
          refine j_iload G dX12_school_128 rfl ?_
          refine j_iconst G dX12_school_130 ?_
          refine j_irem G dX12_school_131 (by omega) (by omega) ?_
          rw [show (k : Int) % 5 = ((k % 5 : Nat) : Int) by omega]
          refine j_ishr G dX12_school_132 ?_
          refine j_iconst G dX12_school_133 ?_
          refine j_iand G dX12_school_134 ?_
          rw [bit32 h_kn (by omega)]
          refine j_if_ne G dX12_school_135 (tgt := 153) (by decide) (by have := b2_01 (zk.testBit (k % 5) = true); omega) (fun c_135 => ?_) (fun c_135 => ?_)
          · refine j_iconst G dX12_school_153 ?_
            refine j_iadd G dX12_school_154 ?_
            refine j_istore7 G dX12_school_155 (by decide) rfl ?_
            refine j_iload G dX12_school_157 rfl ?_
            first | refine j_aload_n G dX12_school_159 rfl ?_ | refine j_aload_nN G dX12_school_159 rfl ?_
            refine j_getr G fl_X12_86 dX12_school_160 (by first | assumption | rfl) (by rfl) ?_
            refine j_bipush G dX12_school_163 (by decide) ?_
            refine j_iload_n G dX12_school_165 rfl ?_
            refine j_imul G dX12_school_166 ?_
            refine j_iload G dX12_school_167 rfl ?_
            refine j_iadd G dX12_school_169 ?_
            refine j_pc (p2 := 170) rfl ?_
            refine j_iaload G dX12_school_170 (by first | assumption | rfl) (by omega) (fun r_170 => ?_)
            try simp (disch := omega) only [up_same, up_cell, up_idx, cpm_at, fil_at] at r_170 ⊢
            refine j_if_le G dX12_school_171 (tgt := 183) (by decide) (by omega) (fun c_171 => ?_) (fun c_171 => ?_)
            · refine j_iconst G dX12_school_183 ?_
              refine j_ior G dX12_school_184 ?_
              refine j_istore8 G dX12_school_185 (by decide) rfl ?_
              refine j_pc (p2 := 187) rfl ?_
              have h_z := h_sw (by omega)
              rw [sm_s, orA_s] at h_z
              unfold waM stM at h_z ⊢
              rw [← kn_s (by unfold stM at h_st; exact h_st) (by omega)] at h_z
              unfold b2 at c_135
              by_cases h_t : zk.testBit (k % 5) = true
              · rw [if_pos h_t] at h_z c_135
                first
                | (exfalso; omega)
                | (rw [if_pos (by omega)] at h_z; exact h_z)
                | (rw [if_neg (by omega)] at h_z; exact h_z)
              · rw [if_neg h_t] at h_z c_135
                first
                | (exfalso; omega)
                | (rw [if_pos (by omega)] at h_z; exact h_z)
                | (rw [if_neg (by omega)] at h_z; exact h_z)
            · refine j_iconst G dX12_school_174 ?_
              refine j_iload G dX12_school_175 rfl ?_
              refine j_iconst G dX12_school_177 ?_
              refine j_idiv G dX12_school_178 (by omega) (by omega) ?_
              rw [show (k : Int) / 5 = ((k / 5 : Nat) : Int) by omega]
              refine j_ishl G dX12_school_179 ?_
              refine j_goto G dX12_school_180 (tgt := 184) (by decide) ?_
              refine j_ior G dX12_school_184 ?_
              refine j_istore8 G dX12_school_185 (by decide) rfl ?_
              refine j_pc (p2 := 187) rfl ?_
              have h_z := h_sw (by omega)
              rw [sm_s, orA_s] at h_z
              unfold waM stM at h_z ⊢
              rw [← kn_s (by unfold stM at h_st; exact h_st) (by omega)] at h_z
              unfold b2 at c_135
              by_cases h_t : zk.testBit (k % 5) = true
              · rw [if_pos h_t] at h_z c_135
                first
                | (exfalso; omega)
                | (rw [if_pos (by omega)] at h_z; exact h_z)
                | (rw [if_neg (by omega)] at h_z; exact h_z)
              · rw [if_neg h_t] at h_z c_135
                first
                | (exfalso; omega)
                | (rw [if_pos (by omega)] at h_z; exact h_z)
                | (rw [if_neg (by omega)] at h_z; exact h_z)
          · first | refine j_aload_n G dX12_school_138 rfl ?_ | refine j_aload_nN G dX12_school_138 rfl ?_
            refine j_getr G fl_X12_86 dX12_school_139 (by first | assumption | rfl) (by rfl) ?_
            refine j_bipush G dX12_school_142 (by decide) ?_
            refine j_iload_n G dX12_school_144 rfl ?_
            refine j_imul G dX12_school_145 ?_
            refine j_iload G dX12_school_146 rfl ?_
            refine j_iadd G dX12_school_148 ?_
            refine j_iaload G dX12_school_149 (by first | assumption | rfl) (by omega) (fun r_149 => ?_)
            try simp (disch := omega) only [up_same, up_cell, up_idx, cpm_at, fil_at] at r_149 ⊢
            refine j_goto G dX12_school_150 (tgt := 154) (by decide) ?_
            refine j_iadd G dX12_school_154 ?_
            refine j_istore7 G dX12_school_155 (by decide) rfl ?_
            refine j_pc (p2 := 157) rfl ?_
            refine j_iload G dX12_school_157 rfl ?_
            first | refine j_aload_n G dX12_school_159 rfl ?_ | refine j_aload_nN G dX12_school_159 rfl ?_
            refine j_getr G fl_X12_86 dX12_school_160 (by first | assumption | rfl) (by rfl) ?_
            refine j_bipush G dX12_school_163 (by decide) ?_
            refine j_iload_n G dX12_school_165 rfl ?_
            refine j_imul G dX12_school_166 ?_
            refine j_iload G dX12_school_167 rfl ?_
            refine j_iadd G dX12_school_169 ?_
            refine j_iaload G dX12_school_170 (by first | assumption | rfl) (by omega) (fun r_170 => ?_)
            try simp (disch := omega) only [up_same, up_cell, up_idx, cpm_at, fil_at] at r_170 ⊢
            refine j_if_le G dX12_school_171 (tgt := 183) (by decide) (by omega) (fun c_171 => ?_) (fun c_171 => ?_)
            · refine j_iconst G dX12_school_183 ?_
              refine j_ior G dX12_school_184 ?_
              refine j_istore8 G dX12_school_185 (by decide) rfl ?_
              refine j_pc (p2 := 187) rfl ?_
              have h_z := h_sw (by omega)
              rw [sm_s, orA_s] at h_z
              unfold waM stM at h_z ⊢
              rw [← kn_s (by unfold stM at h_st; exact h_st) (by omega)] at h_z
              unfold b2 at c_135
              by_cases h_t : zk.testBit (k % 5) = true
              · rw [if_pos h_t] at h_z c_135
                first
                | (exfalso; omega)
                | (rw [if_pos (by omega)] at h_z; exact h_z)
                | (rw [if_neg (by omega)] at h_z; exact h_z)
              · rw [if_neg h_t] at h_z c_135
                first
                | (exfalso; omega)
                | (rw [if_pos (by omega)] at h_z; exact h_z)
                | (rw [if_neg (by omega)] at h_z; exact h_z)
            · refine j_iconst G dX12_school_174 ?_
              refine j_iload G dX12_school_175 rfl ?_
              refine j_iconst G dX12_school_177 ?_
              refine j_idiv G dX12_school_178 (by omega) (by omega) ?_
              rw [show (k : Int) / 5 = ((k / 5 : Nat) : Int) by omega]
              refine j_ishl G dX12_school_179 ?_
              refine j_goto G dX12_school_180 (tgt := 184) (by decide) ?_
              refine j_ior G dX12_school_184 ?_
              refine j_istore8 G dX12_school_185 (by decide) rfl ?_
              refine j_pc (p2 := 187) rfl ?_
              have h_z := h_sw (by omega)
              rw [sm_s, orA_s] at h_z
              unfold waM stM at h_z ⊢
              rw [← kn_s (by unfold stM at h_st; exact h_st) (by omega)] at h_z
              unfold b2 at c_135
              by_cases h_t : zk.testBit (k % 5) = true
              · rw [if_pos h_t] at h_z c_135
                first
                | (exfalso; omega)
                | (rw [if_pos (by omega)] at h_z; exact h_z)
                | (rw [if_neg (by omega)] at h_z; exact h_z)
              · rw [if_neg h_t] at h_z c_135
                first
                | (exfalso; omega)
                | (rw [if_pos (by omega)] at h_z; exact h_z)
                | (rw [if_neg (by omega)] at h_z; exact h_z)
      · first | refine j_aload_n G dX12_school_47 rfl ?_ | refine j_aload_nN G dX12_school_47 rfl ?_
        refine j_getr G fl_X12_77 dX12_school_48 (by first | assumption | rfl) (by rfl) ?_
        refine j_iload G dX12_school_51 rfl ?_
        have h_i20 : i < 20 := by omega
        obtain ⟨g1, g2, g3, g4⟩ := h_rd.2 i h_i20
        have h_rl : rdS σ i s < 2147483648 := pow31 (bo_lt _ 8) (by decide)
        have h_ke : knA (fun e => μ 25 (5 * i + e)) 5 = knA (σ (79 + 2 * i)) 5 := knA_cg 5 (fun j hj => g4 j (by omega) (by omega))
        refine j_iaload G dX12_school_53 (by first | assumption | rfl) (by omega) (fun r_53 => ?_)
        try simp (disch := omega) only [up_same, up_cell, up_idx, cpm_at, fil_at] at r_53 ⊢
        refine j_iload_n G dX12_school_54 rfl ?_
        refine j_icmp_ne G dX12_school_55 (tgt := 102) (by decide) (by omega) (by omega) (fun c_55 => ?_) (fun c_55 => ?_)
        · refine j_iinc7 G dX12_school_102 (by decide) rfl rfl ?_
          refine j_goto G dX12_school_105 (tgt := 38) (by decide) ?_
          refine j_pc (p2 := 38) rfl ?_
          have h_z := ih (by omega)
          rw [sm_s, sm_s, orA_s, orA_s] at h_z
          unfold heS noS knS reS at h_z ⊢
          first
          | (rw [if_neg (by omega), if_neg (by omega), if_neg (by omega), if_neg (by omega), Int.add_zero, Int.add_zero, Nat.or_zero, Nat.or_zero] at h_z; exact j_weak h_z ⟨rfl, rfl, rfl, rfl, rfl, rfl, rfl, rfl, trivial⟩)
          | (rw [if_pos (by omega), if_pos (by omega), if_pos (by omega), if_pos (by omega)] at h_z; exact j_weak h_z ⟨rfl, rfl, rfl, rfl, rfl, rfl, rfl, rfl, trivial⟩)
          | (rw [if_pos (by omega), if_neg (by omega), if_pos (by omega), if_pos (by omega)] at h_z; exact j_weak h_z ⟨rfl, rfl, rfl, rfl, rfl, rfl, rfl, rfl, trivial⟩)
        · refine j_iinc3 G dX12_school_58 (by decide) rfl rfl ?_
          refine j_iload G dX12_school_61 rfl ?_
          first | refine j_aload_n G dX12_school_63 rfl ?_ | refine j_aload_nN G dX12_school_63 rfl ?_
          refine j_iload G dX12_school_64 rfl ?_
          refine j_callV G mv_X12_285 dX12_school_66 (m_readS i s h_i20 h_s h_rd h_sh (by omega)) (by first | assumption | rfl) (by decide) (by rfl) rfl rfl (by exact Nat.le_of_ble_eq_true rfl) (by decide) (kI ?_)
          refine j_if_ne G dX12_school_69 (tgt := 76) (by decide) (by omega) (fun c_69 => ?_) (fun c_69 => ?_)
          · refine j_iconst G dX12_school_76 ?_
            refine j_iadd G dX12_school_77 ?_
            refine j_istore4 G dX12_school_78 (by decide) rfl ?_
            refine j_iload G dX12_school_80 rfl ?_
            first | refine j_aload_n G dX12_school_82 rfl ?_ | refine j_aload_nN G dX12_school_82 rfl ?_
            refine j_iload G dX12_school_83 rfl ?_
            refine j_callV G mv_X12_270 dX12_school_85 (m_known i (by omega)) (by first | assumption | rfl) (by decide) (by rfl) rfl rfl (by exact Nat.le_of_ble_eq_true rfl) (by decide) (kI ?_)
            rw [h_ke]
            refine j_ior G dX12_school_88 ?_
            rw [or_n h_kn (pow31 (knA_lt _ 5) (by decide))]
            refine j_istore5 G dX12_school_89 (by decide) rfl ?_
            refine j_iload G dX12_school_91 rfl ?_
            first | refine j_aload_n G dX12_school_93 rfl ?_ | refine j_aload_nN G dX12_school_93 rfl ?_
            refine j_pc (p2 := 94) rfl ?_
            refine j_iload G dX12_school_94 rfl ?_
            refine j_callV G mv_X12_285 dX12_school_96 (m_readS i s h_i20 h_s h_rd h_sh (by omega)) (by first | assumption | rfl) (by decide) (by rfl) rfl rfl (by exact Nat.le_of_ble_eq_true rfl) (by decide) (kI ?_)
            refine j_ior G dX12_school_99 ?_
            rw [or_n h_re h_rl]
            refine j_istore6 G dX12_school_100 (by decide) rfl ?_
            refine j_iinc7 G dX12_school_102 (by decide) rfl rfl ?_
            refine j_goto G dX12_school_105 (tgt := 38) (by decide) ?_
            refine j_pc (p2 := 38) rfl ?_
            have h_z := ih (by omega)
            rw [sm_s, sm_s, orA_s, orA_s] at h_z
            unfold heS noS knS reS at h_z ⊢
            first
            | (rw [if_neg (by omega), if_neg (by omega), if_neg (by omega), if_neg (by omega), Int.add_zero, Int.add_zero, Nat.or_zero, Nat.or_zero] at h_z; exact j_weak h_z ⟨rfl, rfl, rfl, rfl, rfl, rfl, rfl, rfl, trivial⟩)
            | (rw [if_pos (by omega), if_pos (by omega), if_pos (by omega), if_pos (by omega)] at h_z; exact j_weak h_z ⟨rfl, rfl, rfl, rfl, rfl, rfl, rfl, rfl, trivial⟩)
            | (rw [if_pos (by omega), if_neg (by omega), if_pos (by omega), if_pos (by omega)] at h_z; exact j_weak h_z ⟨rfl, rfl, rfl, rfl, rfl, rfl, rfl, rfl, trivial⟩)
          · refine j_iconst G dX12_school_72 ?_
            refine j_goto G dX12_school_73 (tgt := 77) (by decide) ?_
            refine j_iadd G dX12_school_77 ?_
            refine j_istore4 G dX12_school_78 (by decide) rfl ?_
            refine j_iload G dX12_school_80 rfl ?_
            first | refine j_aload_n G dX12_school_82 rfl ?_ | refine j_aload_nN G dX12_school_82 rfl ?_
            refine j_iload G dX12_school_83 rfl ?_
            refine j_callV G mv_X12_270 dX12_school_85 (m_known i (by omega)) (by first | assumption | rfl) (by decide) (by rfl) rfl rfl (by exact Nat.le_of_ble_eq_true rfl) (by decide) (kI ?_)
            rw [h_ke]
            refine j_ior G dX12_school_88 ?_
            rw [or_n h_kn (pow31 (knA_lt _ 5) (by decide))]
            refine j_istore5 G dX12_school_89 (by decide) rfl ?_
            refine j_iload G dX12_school_91 rfl ?_
            refine j_pc (p2 := 93) rfl ?_
            first | refine j_aload_n G dX12_school_93 rfl ?_ | refine j_aload_nN G dX12_school_93 rfl ?_
            refine j_iload G dX12_school_94 rfl ?_
            refine j_callV G mv_X12_285 dX12_school_96 (m_readS i s h_i20 h_s h_rd h_sh (by omega)) (by first | assumption | rfl) (by decide) (by rfl) rfl rfl (by exact Nat.le_of_ble_eq_true rfl) (by decide) (kI ?_)
            refine j_ior G dX12_school_99 ?_
            rw [or_n h_re h_rl]
            refine j_istore6 G dX12_school_100 (by decide) rfl ?_
            refine j_iinc7 G dX12_school_102 (by decide) rfl rfl ?_
            refine j_goto G dX12_school_105 (tgt := 38) (by decide) ?_
            refine j_pc (p2 := 38) rfl ?_
            have h_z := ih (by omega)
            rw [sm_s, sm_s, orA_s, orA_s] at h_z
            unfold heS noS knS reS at h_z ⊢
            first
            | (rw [if_neg (by omega), if_neg (by omega), if_neg (by omega), if_neg (by omega), Int.add_zero, Int.add_zero, Nat.or_zero, Nat.or_zero] at h_z; exact j_weak h_z ⟨rfl, rfl, rfl, rfl, rfl, rfl, rfl, rfl, trivial⟩)
            | (rw [if_pos (by omega), if_pos (by omega), if_pos (by omega), if_pos (by omega)] at h_z; exact j_weak h_z ⟨rfl, rfl, rfl, rfl, rfl, rfl, rfl, rfl, trivial⟩)
            | (rw [if_pos (by omega), if_neg (by omega), if_pos (by omega), if_pos (by omega)] at h_z; exact j_weak h_z ⟨rfl, rfl, rfl, rfl, rfl, rfl, rfl, rfl, trivial⟩)
    · refine j_bipush G dX12_school_21 (by decide) ?_
      refine j_ireturn G dX12_school_23 ?_
      exact ⟨congrArg (fun z => some (iv z)) (by unfold scS; rw [if_neg (by omega), if_neg (by omega), if_neg (by omega), if_neg (by omega)]), rfl⟩
  · omega
theorem m_schoolN (s w : Int) (h_1 : (-2147483648 ≤ s ∧ s < 2147483648)) (h_s : ¬ (0 ≤ s ∧ s ≤ 5)) : CT (EM x) 3 yX12_school [rf (EM x) 0, iv s, iv w] μ (rI (-1) μ) := by
  refine CT.ofJ (own := RX12) (cc := cX12_school) (n := 10) (ret := (some .int)) (by decide) rfl cw_X12_school (by decide) (Nat.le_of_ble_eq_true rfl) (ls := [some (rf (EM x) 0), some (iv s), some (iv w), none, none, none, none, none, none, none]) rfl ?_
  intro X G
  refine j_iload_n G dX12_school_0 rfl ?_
  refine j_callS G ms_X12_254 dX12_school_1 (m_isSchool s h_1) rfl rfl (by exact Nat.le_of_ble_eq_true rfl) (by decide) (kI ?_)
  refine j_if_neB G dX12_school_4 (tgt := 9) (by decide)  (fun c_4 => ?_) (fun c_4 => ?_)
  · omega
  · refine j_iconst G dX12_school_7 ?_
    refine j_ireturn G dX12_school_8 ?_
    exact ⟨rfl, rfl⟩
theorem op_school (s w : Int) (h_1 : (-2147483648 ≤ s ∧ s < 2147483648)) (h_2 : (-2147483648 ≤ w ∧ w < 2147483648)) : OP x1 x2 yX11_school yX12_school [iv s, iv w] := by
  apply OP.same
  intro σ μ hw hr
  obtain ⟨w1, w2, w3, w4, w5, w6, w7, w8⟩ := id hw
  obtain ⟨r1, r2, r3, r4, r5, r6, r7, r8⟩ := id hr
  obtain ⟨n, h_n20, h_n⟩ := nat_of (n := 20) w5.1
  by_cases h_s : 0 ≤ s ∧ s ≤ 5
  · obtain ⟨ss, h_s5, rfl⟩ := nat_of (n := 5) h_s
    exact ⟨_, _, _, (by decide), (by decide), rI_P (c_school (x := x1) (σ := σ) ss n (by omega) w h_2 h_n h_n20 w5 w6) ⟨rfl, KC.rf _⟩, rI_P (m_school (x := x2) (μ := μ) ss n (by omega) w h_2 h_n h_n20 r5 r6 w6 w5) ⟨rfl, KM.rf _⟩⟩
  · exact ⟨_, _, _, (by decide), (by decide), rI_P (c_schoolN (x := x1) (σ := σ) s w h_1 h_s) ⟨rfl, KC.rf _⟩, rI_P (m_schoolN (x := x2) (μ := μ) s w h_1 h_s) ⟨rfl, KM.rf _⟩⟩
end SC2
