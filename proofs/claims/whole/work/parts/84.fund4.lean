def FdM (ν : MemT) (B : FB) : Prop := ν 0 35 = B.1 ∧ ν 0 36 = B.2.1 ∧ ν 0 37 = B.2.2.1 ∧ ν 0 38 = B.2.2.2
theorem FdM.up {τ : MemT} {g c s p : Int} : FdM (up (up (up (up τ 0 35 g) 0 36 c) 0 37 s) 0 38 p) (g, c, s, p) := ⟨by rw [up_idx (by decide), up_idx (by decide), up_idx (by decide), up_same], by rw [up_idx (by decide), up_idx (by decide), up_same], by rw [up_idx (by decide), up_same], up_same _ _ _ _⟩
def noK : Nat → Prop := fun _ => False
def fdQ : Int → Prop := fun i => 35 ≤ i ∧ i ≤ 38
def lfK : Nat → Prop := fun k => k = 9 ∨ k = 10 ∨ k = 27 ∨ k = 28
def lfQ : Int → Prop := fun i => i = 11 ∨ i = 24 ∨ i = 25
theorem KR.kx {μ ν : MemT} (h : KR μ ν) : KX lfK lfQ μ ν := ⟨fun k h_1 h_0 => h.1 k (fun z => h_1 (by unfold lfK; omega)) (fun z => h_1 (by unfold lfK; omega)) h_0, fun i h_1 => h.2 i (fun z => h_1 (by unfold lfQ; omega)) (fun z => h_1 (by unfold lfQ; omega)) (fun z => h_1 (by unfold lfQ; omega))⟩
section FM
variable {E : EE} {x x1 x2 : CX} {μ σ : MemT}
theorem m_trySet (c set : Nat) (coin : Int) (pg gn : Nat → Int) (B : FB) (h_c : c < 5) (h_s : set < 256) (h_k : 0 ≤ coin ∧ coin ≤ 1000) (h_B : FdM μ B) (h_p : ∀ b : Nat, b < 8 → μ 27 b = pg b ∧ pg b ≤ 200000) (h_g : ∀ b : Nat, b < 8 → μ 28 b = gn b ∧ 0 ≤ gn b ∧ gn b ≤ 20) : CT (EM x) 0 yX12_trySet [rf (EM x) 0, iv c, iv set, iv coin] μ (fun r ν => r = none ∧ KX noK fdQ μ ν ∧ FdM ν (stF c coin pg gn set B)) := by
  have h_gr := fun m (h_m : m ≤ 8) => fsum_rg (f := gn) (set := set) (a := 20) (by omega) m (fun b h_b h_t => (h_g b (by omega)).2)
  obtain ⟨h_B1, h_B2, h_B3, h_B4⟩ := id h_B
  unfold stF
  refine CT.ofJ (own := RX12) (cc := cX12_trySet) (n := 7) (ret := none) (by decide) rfl cw_X12_trySet (by decide) (Nat.le_of_ble_eq_true rfl) (ls := [some (rf (EM x) 0), some (iv c), some (iv set), some (iv coin), none, none, none]) rfl ?_
  intro X G
  refine j_iconst G dX12_trySet_0 ?_
  refine j_istore4 G dX12_trySet_1 (by decide) rfl ?_
  refine j_iconst G dX12_trySet_3 ?_
  refine j_istore5 G dX12_trySet_4 (by decide) rfl ?_
  refine j_iconst G dX12_trySet_6 ?_
  refine j_istore6 G dX12_trySet_7 (by decide) rfl ?_
  refine j_pc (p2 := 9) rfl ?_
  refine down (Pr := fun i => (∀ b, b < i → set.testBit b = true → 0 ≤ pg b) → JJ (EM x) X 0 (fun r ν => r = none ∧ KX noK fdQ μ ν ∧ FdM ν (if okF pg set 8 = true ∧ fsum pg set 8 ≤ coin ∧ (B.1 < fsum gn set 8 ∨ fsum gn set 8 = B.1 ∧ (c : Int) = B.2.1 ∧ fsum pg set 8 < B.2.2.2) then (fsum gn set 8, (c : Int), (set : Int), fsum pg set 8) else B)) 7 9 [some (rf (EM x) 0), some (iv c), some (iv set), some (iv coin), some (iv (fsum pg set i)), some (iv (fsum gn set i)), some (iv i)] [] μ) 8 ?_ 0 (Nat.zero_le _) (fun b h_b => by omega)
  intro i h_i ih h_al
  have h_b32 := bit32 (a := set) (k := i) (by omega) (by omega)
  have h_01 := b2_01 (set.testBit i = true)
  have h_pi := h_p i
  have h_gi := h_g i
  have h_pr8 := fsum_rg (f := pg) (set := set) (a := 200000) (by omega) i (fun b h_b h_t => ⟨h_al b h_b h_t, (h_p b (by omega)).2⟩)
  have h_gr8 := h_gr i h_i
  refine j_iload G dX12_trySet_9 rfl ?_
  refine j_bipush G dX12_trySet_11 (by decide) ?_
  refine j_icmp_ge G dX12_trySet_13 (tgt := 67) (by decide) (by omega) (by omega) (fun c_13 => ?_) (fun c_13 => ?_)
  · obtain rfl : i = 8 := by omega
    have h_ok : okF pg set 8 = true := okF_iff.2 h_al
    refine j_iload G dX12_trySet_67 rfl ?_
    first | refine j_aload_n G dX12_trySet_69 rfl ?_ | refine j_aload_nN G dX12_trySet_69 rfl ?_
    refine j_geti G fl_X12_290 dX12_trySet_70 35 rfl (by first | assumption | rfl) (by rfl) (fun r_70 => ?_)
    try simp (disch := omega) only [up_same, up_cell, up_idx, cpm_at, fil_at] at r_70 ⊢
    rw [h_B1]
    refine j_icmp_gt G dX12_trySet_73 (tgt := 102) (by decide) (by omega) (by omega) (fun c_73 => ?_) (fun c_73 => ?_)
    · refine j_iconst G dX12_trySet_102 ?_
      refine j_goto G dX12_trySet_103 (tgt := 107) (by decide) ?_
      refine j_istore6 G dX12_trySet_107 (by decide) rfl ?_
      refine j_iload G dX12_trySet_109 rfl ?_
      refine j_iload_n G dX12_trySet_111 rfl ?_
      refine j_icmp_gt G dX12_trySet_112 (tgt := 142) (by decide) (by omega) (by omega) (fun c_112 => ?_) (fun c_112 => ?_)
      · refine j_return G dX12_trySet_142 ?_
        first
        | exact ⟨rfl, KX.rf _ _ _, by rw [if_neg (fun z => by omega)]; exact h_B⟩
        | exact ⟨rfl, ((((KX.rf noK fdQ _).u0 (by unfold fdQ; omega)).u0 (by unfold fdQ; omega)).u0 (by unfold fdQ; omega)).u0 (by unfold fdQ; omega), by rw [if_pos ⟨h_ok, by omega, by omega⟩]; exact FdM.up⟩
      · refine j_iload G dX12_trySet_115 rfl ?_
        refine j_if_eq G dX12_trySet_117 (tgt := 142) (by decide) (by omega) (fun c_117 => ?_) (fun c_117 => ?_)
        · refine j_return G dX12_trySet_142 ?_
          first
          | exact ⟨rfl, KX.rf _ _ _, by rw [if_neg (fun z => by omega)]; exact h_B⟩
          | exact ⟨rfl, ((((KX.rf noK fdQ _).u0 (by unfold fdQ; omega)).u0 (by unfold fdQ; omega)).u0 (by unfold fdQ; omega)).u0 (by unfold fdQ; omega), by rw [if_pos ⟨h_ok, by omega, by omega⟩]; exact FdM.up⟩
        · first | refine j_aload_n G dX12_trySet_120 rfl ?_ | refine j_aload_nN G dX12_trySet_120 rfl ?_
          refine j_iload G dX12_trySet_121 rfl ?_
          refine j_puti G fp_X12_290 dX12_trySet_123 35 rfl (by first | assumption | rfl) (by rfl) (by omega) ?_
          first | refine j_aload_n G dX12_trySet_126 rfl ?_ | refine j_aload_nN G dX12_trySet_126 rfl ?_
          refine j_iload_n G dX12_trySet_127 rfl ?_
          refine j_puti G fp_X12_293 dX12_trySet_128 36 rfl (by first | assumption | rfl) (by rfl) (by omega) ?_
          first | refine j_aload_n G dX12_trySet_131 rfl ?_ | refine j_aload_nN G dX12_trySet_131 rfl ?_
          refine j_iload_n G dX12_trySet_132 rfl ?_
          refine j_puti G fp_X12_296 dX12_trySet_133 37 rfl (by first | assumption | rfl) (by rfl) (by omega) ?_
          first | refine j_aload_n G dX12_trySet_136 rfl ?_ | refine j_aload_nN G dX12_trySet_136 rfl ?_
          refine j_iload G dX12_trySet_137 rfl ?_
          refine j_pc (p2 := 139) rfl ?_
          refine j_puti G fp_X12_299 dX12_trySet_139 38 rfl (by first | assumption | rfl) (by rfl) (by omega) ?_
          refine j_return G dX12_trySet_142 ?_
          first
          | exact ⟨rfl, KX.rf _ _ _, by rw [if_neg (fun z => by omega)]; exact h_B⟩
          | exact ⟨rfl, ((((KX.rf noK fdQ _).u0 (by unfold fdQ; omega)).u0 (by unfold fdQ; omega)).u0 (by unfold fdQ; omega)).u0 (by unfold fdQ; omega), by rw [if_pos ⟨h_ok, by omega, by omega⟩]; exact FdM.up⟩
    · refine j_iload G dX12_trySet_76 rfl ?_
      first | refine j_aload_n G dX12_trySet_78 rfl ?_ | refine j_aload_nN G dX12_trySet_78 rfl ?_
      refine j_geti G fl_X12_290 dX12_trySet_79 35 rfl (by first | assumption | rfl) (by rfl) (fun r_79 => ?_)
      try simp (disch := omega) only [up_same, up_cell, up_idx, cpm_at, fil_at] at r_79 ⊢
      rw [h_B1]
      refine j_icmp_ne G dX12_trySet_82 (tgt := 106) (by decide) (by omega) (by omega) (fun c_82 => ?_) (fun c_82 => ?_)
      · refine j_iconst G dX12_trySet_106 ?_
        refine j_istore6 G dX12_trySet_107 (by decide) rfl ?_
        refine j_iload G dX12_trySet_109 rfl ?_
        refine j_iload_n G dX12_trySet_111 rfl ?_
        refine j_icmp_gt G dX12_trySet_112 (tgt := 142) (by decide) (by omega) (by omega) (fun c_112 => ?_) (fun c_112 => ?_)
        · refine j_return G dX12_trySet_142 ?_
          first
          | exact ⟨rfl, KX.rf _ _ _, by rw [if_neg (fun z => by omega)]; exact h_B⟩
          | exact ⟨rfl, ((((KX.rf noK fdQ _).u0 (by unfold fdQ; omega)).u0 (by unfold fdQ; omega)).u0 (by unfold fdQ; omega)).u0 (by unfold fdQ; omega), by rw [if_pos ⟨h_ok, by omega, by omega⟩]; exact FdM.up⟩
        · refine j_iload G dX12_trySet_115 rfl ?_
          refine j_if_eq G dX12_trySet_117 (tgt := 142) (by decide) (by omega) (fun c_117 => ?_) (fun c_117 => ?_)
          · refine j_return G dX12_trySet_142 ?_
            first
            | exact ⟨rfl, KX.rf _ _ _, by rw [if_neg (fun z => by omega)]; exact h_B⟩
            | exact ⟨rfl, ((((KX.rf noK fdQ _).u0 (by unfold fdQ; omega)).u0 (by unfold fdQ; omega)).u0 (by unfold fdQ; omega)).u0 (by unfold fdQ; omega), by rw [if_pos ⟨h_ok, by omega, by omega⟩]; exact FdM.up⟩
          · first | refine j_aload_n G dX12_trySet_120 rfl ?_ | refine j_aload_nN G dX12_trySet_120 rfl ?_
            refine j_iload G dX12_trySet_121 rfl ?_
            refine j_puti G fp_X12_290 dX12_trySet_123 35 rfl (by first | assumption | rfl) (by rfl) (by omega) ?_
            first | refine j_aload_n G dX12_trySet_126 rfl ?_ | refine j_aload_nN G dX12_trySet_126 rfl ?_
            refine j_iload_n G dX12_trySet_127 rfl ?_
            refine j_puti G fp_X12_293 dX12_trySet_128 36 rfl (by first | assumption | rfl) (by rfl) (by omega) ?_
            first | refine j_aload_n G dX12_trySet_131 rfl ?_ | refine j_aload_nN G dX12_trySet_131 rfl ?_
            refine j_iload_n G dX12_trySet_132 rfl ?_
            refine j_puti G fp_X12_296 dX12_trySet_133 37 rfl (by first | assumption | rfl) (by rfl) (by omega) ?_
            first | refine j_aload_n G dX12_trySet_136 rfl ?_ | refine j_aload_nN G dX12_trySet_136 rfl ?_
            refine j_iload G dX12_trySet_137 rfl ?_
            refine j_pc (p2 := 139) rfl ?_
            refine j_puti G fp_X12_299 dX12_trySet_139 38 rfl (by first | assumption | rfl) (by rfl) (by omega) ?_
            refine j_return G dX12_trySet_142 ?_
            first
            | exact ⟨rfl, KX.rf _ _ _, by rw [if_neg (fun z => by omega)]; exact h_B⟩
            | exact ⟨rfl, ((((KX.rf noK fdQ _).u0 (by unfold fdQ; omega)).u0 (by unfold fdQ; omega)).u0 (by unfold fdQ; omega)).u0 (by unfold fdQ; omega), by rw [if_pos ⟨h_ok, by omega, by omega⟩]; exact FdM.up⟩
      · refine j_iload_n G dX12_trySet_85 rfl ?_
        first | refine j_aload_n G dX12_trySet_86 rfl ?_ | refine j_aload_nN G dX12_trySet_86 rfl ?_
        refine j_geti G fl_X12_293 dX12_trySet_87 36 rfl (by first | assumption | rfl) (by rfl) (fun r_87 => ?_)
        try simp (disch := omega) only [up_same, up_cell, up_idx, cpm_at, fil_at] at r_87 ⊢
        rw [h_B2]
        refine j_icmp_ne G dX12_trySet_90 (tgt := 106) (by decide) (by omega) (by omega) (fun c_90 => ?_) (fun c_90 => ?_)
        · refine j_iconst G dX12_trySet_106 ?_
          refine j_istore6 G dX12_trySet_107 (by decide) rfl ?_
          refine j_iload G dX12_trySet_109 rfl ?_
          refine j_iload_n G dX12_trySet_111 rfl ?_
          refine j_icmp_gt G dX12_trySet_112 (tgt := 142) (by decide) (by omega) (by omega) (fun c_112 => ?_) (fun c_112 => ?_)
          · refine j_return G dX12_trySet_142 ?_
            first
            | exact ⟨rfl, KX.rf _ _ _, by rw [if_neg (fun z => by omega)]; exact h_B⟩
            | exact ⟨rfl, ((((KX.rf noK fdQ _).u0 (by unfold fdQ; omega)).u0 (by unfold fdQ; omega)).u0 (by unfold fdQ; omega)).u0 (by unfold fdQ; omega), by rw [if_pos ⟨h_ok, by omega, by omega⟩]; exact FdM.up⟩
          · refine j_iload G dX12_trySet_115 rfl ?_
            refine j_if_eq G dX12_trySet_117 (tgt := 142) (by decide) (by omega) (fun c_117 => ?_) (fun c_117 => ?_)
            · refine j_return G dX12_trySet_142 ?_
              first
              | exact ⟨rfl, KX.rf _ _ _, by rw [if_neg (fun z => by omega)]; exact h_B⟩
              | exact ⟨rfl, ((((KX.rf noK fdQ _).u0 (by unfold fdQ; omega)).u0 (by unfold fdQ; omega)).u0 (by unfold fdQ; omega)).u0 (by unfold fdQ; omega), by rw [if_pos ⟨h_ok, by omega, by omega⟩]; exact FdM.up⟩
            · first | refine j_aload_n G dX12_trySet_120 rfl ?_ | refine j_aload_nN G dX12_trySet_120 rfl ?_
              refine j_iload G dX12_trySet_121 rfl ?_
              refine j_puti G fp_X12_290 dX12_trySet_123 35 rfl (by first | assumption | rfl) (by rfl) (by omega) ?_
              first | refine j_aload_n G dX12_trySet_126 rfl ?_ | refine j_aload_nN G dX12_trySet_126 rfl ?_
              refine j_iload_n G dX12_trySet_127 rfl ?_
              refine j_puti G fp_X12_293 dX12_trySet_128 36 rfl (by first | assumption | rfl) (by rfl) (by omega) ?_
              first | refine j_aload_n G dX12_trySet_131 rfl ?_ | refine j_aload_nN G dX12_trySet_131 rfl ?_
              refine j_iload_n G dX12_trySet_132 rfl ?_
              refine j_puti G fp_X12_296 dX12_trySet_133 37 rfl (by first | assumption | rfl) (by rfl) (by omega) ?_
              first | refine j_aload_n G dX12_trySet_136 rfl ?_ | refine j_aload_nN G dX12_trySet_136 rfl ?_
              refine j_iload G dX12_trySet_137 rfl ?_
              refine j_pc (p2 := 139) rfl ?_
              refine j_puti G fp_X12_299 dX12_trySet_139 38 rfl (by first | assumption | rfl) (by rfl) (by omega) ?_
              refine j_return G dX12_trySet_142 ?_
              first
              | exact ⟨rfl, KX.rf _ _ _, by rw [if_neg (fun z => by omega)]; exact h_B⟩
              | exact ⟨rfl, ((((KX.rf noK fdQ _).u0 (by unfold fdQ; omega)).u0 (by unfold fdQ; omega)).u0 (by unfold fdQ; omega)).u0 (by unfold fdQ; omega), by rw [if_pos ⟨h_ok, by omega, by omega⟩]; exact FdM.up⟩
        · refine j_iload G dX12_trySet_93 rfl ?_
          first | refine j_aload_n G dX12_trySet_95 rfl ?_ | refine j_aload_nN G dX12_trySet_95 rfl ?_
          refine j_geti G fl_X12_299 dX12_trySet_96 38 rfl (by first | assumption | rfl) (by rfl) (fun r_96 => ?_)
          try simp (disch := omega) only [up_same, up_cell, up_idx, cpm_at, fil_at] at r_96 ⊢
          rw [h_B4]
          refine j_icmp_ge G dX12_trySet_99 (tgt := 106) (by decide) (by omega) (by omega) (fun c_99 => ?_) (fun c_99 => ?_)
          · refine j_iconst G dX12_trySet_106 ?_
            refine j_istore6 G dX12_trySet_107 (by decide) rfl ?_
            refine j_iload G dX12_trySet_109 rfl ?_
            refine j_iload_n G dX12_trySet_111 rfl ?_
            refine j_icmp_gt G dX12_trySet_112 (tgt := 142) (by decide) (by omega) (by omega) (fun c_112 => ?_) (fun c_112 => ?_)
            · refine j_return G dX12_trySet_142 ?_
              first
              | exact ⟨rfl, KX.rf _ _ _, by rw [if_neg (fun z => by omega)]; exact h_B⟩
              | exact ⟨rfl, ((((KX.rf noK fdQ _).u0 (by unfold fdQ; omega)).u0 (by unfold fdQ; omega)).u0 (by unfold fdQ; omega)).u0 (by unfold fdQ; omega), by rw [if_pos ⟨h_ok, by omega, by omega⟩]; exact FdM.up⟩
            · refine j_iload G dX12_trySet_115 rfl ?_
              refine j_if_eq G dX12_trySet_117 (tgt := 142) (by decide) (by omega) (fun c_117 => ?_) (fun c_117 => ?_)
              · refine j_return G dX12_trySet_142 ?_
                first
                | exact ⟨rfl, KX.rf _ _ _, by rw [if_neg (fun z => by omega)]; exact h_B⟩
                | exact ⟨rfl, ((((KX.rf noK fdQ _).u0 (by unfold fdQ; omega)).u0 (by unfold fdQ; omega)).u0 (by unfold fdQ; omega)).u0 (by unfold fdQ; omega), by rw [if_pos ⟨h_ok, by omega, by omega⟩]; exact FdM.up⟩
              · first | refine j_aload_n G dX12_trySet_120 rfl ?_ | refine j_aload_nN G dX12_trySet_120 rfl ?_
                refine j_iload G dX12_trySet_121 rfl ?_
                refine j_puti G fp_X12_290 dX12_trySet_123 35 rfl (by first | assumption | rfl) (by rfl) (by omega) ?_
                first | refine j_aload_n G dX12_trySet_126 rfl ?_ | refine j_aload_nN G dX12_trySet_126 rfl ?_
                refine j_iload_n G dX12_trySet_127 rfl ?_
                refine j_puti G fp_X12_293 dX12_trySet_128 36 rfl (by first | assumption | rfl) (by rfl) (by omega) ?_
                first | refine j_aload_n G dX12_trySet_131 rfl ?_ | refine j_aload_nN G dX12_trySet_131 rfl ?_
                refine j_iload_n G dX12_trySet_132 rfl ?_
                refine j_puti G fp_X12_296 dX12_trySet_133 37 rfl (by first | assumption | rfl) (by rfl) (by omega) ?_
                first | refine j_aload_n G dX12_trySet_136 rfl ?_ | refine j_aload_nN G dX12_trySet_136 rfl ?_
                refine j_iload G dX12_trySet_137 rfl ?_
                refine j_pc (p2 := 139) rfl ?_
                refine j_puti G fp_X12_299 dX12_trySet_139 38 rfl (by first | assumption | rfl) (by rfl) (by omega) ?_
                refine j_return G dX12_trySet_142 ?_
                first
                | exact ⟨rfl, KX.rf _ _ _, by rw [if_neg (fun z => by omega)]; exact h_B⟩
                | exact ⟨rfl, ((((KX.rf noK fdQ _).u0 (by unfold fdQ; omega)).u0 (by unfold fdQ; omega)).u0 (by unfold fdQ; omega)).u0 (by unfold fdQ; omega), by rw [if_pos ⟨h_ok, by omega, by omega⟩]; exact FdM.up⟩
          · refine j_iconst G dX12_trySet_102 ?_
            refine j_goto G dX12_trySet_103 (tgt := 107) (by decide) ?_
            refine j_istore6 G dX12_trySet_107 (by decide) rfl ?_
            refine j_iload G dX12_trySet_109 rfl ?_
            refine j_iload_n G dX12_trySet_111 rfl ?_
            refine j_icmp_gt G dX12_trySet_112 (tgt := 142) (by decide) (by omega) (by omega) (fun c_112 => ?_) (fun c_112 => ?_)
            · refine j_return G dX12_trySet_142 ?_
              first
              | exact ⟨rfl, KX.rf _ _ _, by rw [if_neg (fun z => by omega)]; exact h_B⟩
              | exact ⟨rfl, ((((KX.rf noK fdQ _).u0 (by unfold fdQ; omega)).u0 (by unfold fdQ; omega)).u0 (by unfold fdQ; omega)).u0 (by unfold fdQ; omega), by rw [if_pos ⟨h_ok, by omega, by omega⟩]; exact FdM.up⟩
            · refine j_iload G dX12_trySet_115 rfl ?_
              refine j_if_eq G dX12_trySet_117 (tgt := 142) (by decide) (by omega) (fun c_117 => ?_) (fun c_117 => ?_)
              · refine j_return G dX12_trySet_142 ?_
                first
                | exact ⟨rfl, KX.rf _ _ _, by rw [if_neg (fun z => by omega)]; exact h_B⟩
                | exact ⟨rfl, ((((KX.rf noK fdQ _).u0 (by unfold fdQ; omega)).u0 (by unfold fdQ; omega)).u0 (by unfold fdQ; omega)).u0 (by unfold fdQ; omega), by rw [if_pos ⟨h_ok, by omega, by omega⟩]; exact FdM.up⟩
              · first | refine j_aload_n G dX12_trySet_120 rfl ?_ | refine j_aload_nN G dX12_trySet_120 rfl ?_
                refine j_iload G dX12_trySet_121 rfl ?_
                refine j_puti G fp_X12_290 dX12_trySet_123 35 rfl (by first | assumption | rfl) (by rfl) (by omega) ?_
                first | refine j_aload_n G dX12_trySet_126 rfl ?_ | refine j_aload_nN G dX12_trySet_126 rfl ?_
                refine j_iload_n G dX12_trySet_127 rfl ?_
                refine j_puti G fp_X12_293 dX12_trySet_128 36 rfl (by first | assumption | rfl) (by rfl) (by omega) ?_
                first | refine j_aload_n G dX12_trySet_131 rfl ?_ | refine j_aload_nN G dX12_trySet_131 rfl ?_
                refine j_iload_n G dX12_trySet_132 rfl ?_
                refine j_puti G fp_X12_296 dX12_trySet_133 37 rfl (by first | assumption | rfl) (by rfl) (by omega) ?_
                first | refine j_aload_n G dX12_trySet_136 rfl ?_ | refine j_aload_nN G dX12_trySet_136 rfl ?_
                refine j_iload G dX12_trySet_137 rfl ?_
                refine j_pc (p2 := 139) rfl ?_
                refine j_puti G fp_X12_299 dX12_trySet_139 38 rfl (by first | assumption | rfl) (by rfl) (by omega) ?_
                refine j_return G dX12_trySet_142 ?_
                first
                | exact ⟨rfl, KX.rf _ _ _, by rw [if_neg (fun z => by omega)]; exact h_B⟩
                | exact ⟨rfl, ((((KX.rf noK fdQ _).u0 (by unfold fdQ; omega)).u0 (by unfold fdQ; omega)).u0 (by unfold fdQ; omega)).u0 (by unfold fdQ; omega), by rw [if_pos ⟨h_ok, by omega, by omega⟩]; exact FdM.up⟩
  · refine j_iload_n G dX12_trySet_16 rfl ?_
    refine j_iload G dX12_trySet_17 rfl ?_
    refine j_ishr G dX12_trySet_19 ?_
    refine j_iconst G dX12_trySet_20 ?_
    refine j_iand G dX12_trySet_21 ?_
    rw [h_b32]
    refine j_iconst G dX12_trySet_22 ?_
    refine j_icmp_ne G dX12_trySet_23 (tgt := 61) (by decide) (by omega) (by omega) (fun c_23 => ?_) (fun c_23 => ?_)
    · refine j_iinc6 G dX12_trySet_61 (by decide) rfl rfl ?_
      refine j_goto G dX12_trySet_64 (tgt := 9) (by decide) ?_
      refine j_pc (p2 := 9) rfl ?_
      first
      | (have h_z := ih (by omega) (fun b h_1 h_2 => by
           by_cases h_e : b = i
           · subst h_e
             exact c_33
           · exact h_al b (by omega) h_2)
         rw [show fsum gn set (i + 1) = fsum gn set i + (if set.testBit i = true then gn i else 0) from rfl, show fsum pg set (i + 1) = fsum pg set i + (if set.testBit i = true then pg i else 0) from rfl, if_pos h_t, if_pos h_t] at h_z
         exact h_z)
      | (have h_t : ¬ set.testBit i = true := fun z => by rw [b2_t z] at c_23; omega
         have h_z := ih (by omega) (fun b h_1 h_2 => by
           by_cases h_e : b = i
           · subst h_e
             exact absurd h_2 h_t
           · exact h_al b (by omega) h_2)
         rw [show fsum gn set (i + 1) = fsum gn set i + (if set.testBit i = true then gn i else 0) from rfl, show fsum pg set (i + 1) = fsum pg set i + (if set.testBit i = true then pg i else 0) from rfl, if_neg h_t, if_neg h_t, Int.add_zero, Int.add_zero] at h_z
         exact h_z)
    · have h_t : set.testBit i = true := Decidable.byContradiction (fun z => by rw [b2_f z] at c_23; omega)
      have h_pj := h_pi (by omega)
      have h_gj := h_gi (by omega)
      first | refine j_aload_n G dX12_trySet_26 rfl ?_ | refine j_aload_nN G dX12_trySet_26 rfl ?_
      refine j_getr G fl_X12_89 dX12_trySet_27 (by first | assumption | rfl) (by rfl) ?_
      refine j_iload G dX12_trySet_30 rfl ?_
      refine j_iaload G dX12_trySet_32 (by first | assumption | rfl) (by omega) (fun r_32 => ?_)
      try simp (disch := omega) only [up_same, up_cell, up_idx, cpm_at, fil_at] at r_32 ⊢
      rw [h_pj.1]
      refine j_if_ge G dX12_trySet_33 (tgt := 37) (by decide) (by omega) (fun c_33 => ?_) (fun c_33 => ?_)
      · refine j_iload G dX12_trySet_37 rfl ?_
        first | refine j_aload_n G dX12_trySet_39 rfl ?_ | refine j_aload_nN G dX12_trySet_39 rfl ?_
        refine j_getr G fl_X12_89 dX12_trySet_40 (by first | assumption | rfl) (by rfl) ?_
        refine j_iload G dX12_trySet_43 rfl ?_
        refine j_iaload G dX12_trySet_45 (by first | assumption | rfl) (by omega) (fun r_45 => ?_)
        try simp (disch := omega) only [up_same, up_cell, up_idx, cpm_at, fil_at] at r_45 ⊢
        rw [h_pj.1]
        refine j_iadd G dX12_trySet_46 ?_
        refine j_istore4 G dX12_trySet_47 (by decide) rfl ?_
        refine j_iload G dX12_trySet_49 rfl ?_
        first | refine j_aload_n G dX12_trySet_51 rfl ?_ | refine j_aload_nN G dX12_trySet_51 rfl ?_
        refine j_getr G fl_X12_92 dX12_trySet_52 (by first | assumption | rfl) (by rfl) ?_
        refine j_iload G dX12_trySet_55 rfl ?_
        refine j_pc (p2 := 57) rfl ?_
        refine j_iaload G dX12_trySet_57 (by first | assumption | rfl) (by omega) (fun r_57 => ?_)
        try simp (disch := omega) only [up_same, up_cell, up_idx, cpm_at, fil_at] at r_57 ⊢
        rw [h_gj.1]
        refine j_iadd G dX12_trySet_58 ?_
        refine j_istore5 G dX12_trySet_59 (by decide) rfl ?_
        refine j_iinc6 G dX12_trySet_61 (by decide) rfl rfl ?_
        refine j_goto G dX12_trySet_64 (tgt := 9) (by decide) ?_
        refine j_pc (p2 := 9) rfl ?_
        first
        | (have h_z := ih (by omega) (fun b h_1 h_2 => by
             by_cases h_e : b = i
             · subst h_e
               exact c_33
             · exact h_al b (by omega) h_2)
           rw [show fsum gn set (i + 1) = fsum gn set i + (if set.testBit i = true then gn i else 0) from rfl, show fsum pg set (i + 1) = fsum pg set i + (if set.testBit i = true then pg i else 0) from rfl, if_pos h_t, if_pos h_t] at h_z
           exact h_z)
        | (have h_t : ¬ set.testBit i = true := fun z => by rw [b2_t z] at c_23; omega
           have h_z := ih (by omega) (fun b h_1 h_2 => by
             by_cases h_e : b = i
             · subst h_e
               exact absurd h_2 h_t
             · exact h_al b (by omega) h_2)
           rw [show fsum gn set (i + 1) = fsum gn set i + (if set.testBit i = true then gn i else 0) from rfl, show fsum pg set (i + 1) = fsum pg set i + (if set.testBit i = true then pg i else 0) from rfl, if_neg h_t, if_neg h_t, Int.add_zero, Int.add_zero] at h_z
           exact h_z)
      · refine j_return G dX12_trySet_36 ?_
        exact ⟨rfl, KX.rf _ _ _, by rw [if_neg (fun z => by have := okF_iff.1 z.1 i (by omega) h_t; omega)]; exact h_B⟩
theorem ReWord.kx {ν : MemT} (h : ReWord σ μ) (h_k : KX lfK lfQ μ ν) : ReWord σ ν := h.fr (fun _ _ _ => rfl) (fun j h_1 h_2 => h_k.1 j (by unfold lfK; omega) (by omega)) (h_k.2 22 (by unfold lfQ; omega))
theorem m_layFund (c n m : Nat) (h_c : c < 5) (h_w : Wf σ) (h_r : Rel σ μ) (h_n : σ 57 3 = n) (h_m : σ 0 8 = m) : CT (EM x) 5 yX12_layFund [rf (EM x) 0, iv c] μ (fun r ν => r = none ∧ KX lfK lfQ μ ν ∧ ∀ b : Nat, b < 8 → ν 27 b = pgS σ c n b ∧ ν 28 b = gnS σ c m b) := by
  obtain ⟨w1, w2, w3, w4, w5, w6, w7, w8⟩ := id h_w
  obtain ⟨r1, r2, r3, r4, r5, r6, r7, r8⟩ := id h_r
  have h_20 : m ≤ 20 := by have := w5.1; omega
  obtain ⟨h_w1, h_w2, h_w3, h_w4⟩ := id w3
  have h_wc := w1 c h_c
  refine CT.ofJ (own := RX12) (cc := cX12_layFund) (n := 4) (ret := none) (by decide) rfl cw_X12_layFund (by decide) (Nat.le_of_ble_eq_true rfl) (ls := [some (rf (EM x) 0), some (iv c), none, none]) rfl ?_
  intro X G
  refine j_iconst G dX12_layFund_0 ?_
  refine j_istore2 G dX12_layFund_1 (by decide) rfl ?_
  refine j_pc (p2 := 2) rfl ?_
  refine j_weak (ls' := [some (rf (EM x) 0), some (iv c), some (iv ((0 : Nat) : Int)), none]) ?_ ⟨rfl, rfl, rfl, trivial⟩
  refine down (Pr := fun b => ∀ ν : MemT, KX lfK lfQ μ ν → (∀ d : Nat, d < b → ν 27 d = pgS σ c n d ∧ ν 28 d = gnS σ c m d) → JJ (EM x) X 5 (fun r ν => r = none ∧ KX lfK lfQ μ ν ∧ ∀ b : Nat, b < 8 → ν 27 b = pgS σ c n b ∧ ν 28 b = gnS σ c m b) 4 2 [some (rf (EM x) 0), some (iv c), some (iv b), none] [] ν) 8 ?_ 0 (Nat.zero_le _) μ (KX.rf _ _ _) (fun d h_d => by omega)
  intro b h_b ih ν h_k h_v
  have h_40 : b < 8 → ∀ ν1 : MemT, KX lfK lfQ μ ν1 → ν1 27 = up ν 27 b (pgS σ c n b) 27 → ν1 28 = ν 28 → JJ (EM x) X 5 (fun r ν => r = none ∧ KX lfK lfQ μ ν ∧ ∀ b : Nat, b < 8 → ν 27 b = pgS σ c n b ∧ ν 28 b = gnS σ c m b) 4 40 [some (rf (EM x) 0), some (iv c), some (iv b), none] [] ν1 := by
    intro h_b8 ν1 h_k1 h_27 h_28
    · first | refine j_aload_n G dX12_layFund_40 rfl ?_ | refine j_aload_nN G dX12_layFund_40 rfl ?_
      refine j_getr G fl_X12_92 dX12_layFund_41 (by first | assumption | rfl) (by rfl) ?_
      refine j_iload_n G dX12_layFund_44 rfl ?_
      refine j_iconst G dX12_layFund_45 ?_
      refine j_iastore G dX12_layFund_46 (by first | assumption | rfl) (by omega) (by omega) ?_
      refine j_iconst G dX12_layFund_47 ?_
      refine j_istore3 G dX12_layFund_48 (by decide) rfl ?_
      refine j_pc (p2 := 49) rfl ?_
      refine j_weak (ls' := [some (rf (EM x) 0), some (iv c), some (iv b), some (iv ((0 : Nat) : Int))]) ?_ ⟨rfl, rfl, rfl, rfl, trivial⟩
      refine down (Pr := fun i => ∀ ν2 : MemT, KX lfK lfQ μ ν2 → (∀ d : Nat, d < b → ν2 27 d = pgS σ c n d ∧ ν2 28 d = gnS σ c m d) → ν2 27 b = pgS σ c n b → ν2 28 b = gnS σ c i b → JJ (EM x) X 5 (fun r ν => r = none ∧ KX lfK lfQ μ ν ∧ ∀ b : Nat, b < 8 → ν 27 b = pgS σ c n b ∧ ν 28 b = gnS σ c m b) 4 49 [some (rf (EM x) 0), some (iv c), some (iv b), some (iv i)] [] ν2) m ?_ 0 (Nat.zero_le _) _ (h_k1.ux (by unfold lfK; omega) (by decide)) (fun d h_d => ⟨by rw [up_cell (by decide), h_27, up_idx (by omega)]; exact (h_v d h_d).1, by rw [up_idx (by omega), h_28]; exact (h_v d h_d).2⟩) (by rw [up_cell (by decide), h_27, up_same]) (up_same _ _ _ _)
      intro i h_i ih2 ν2 h_k2 h_v2 h_p2 h_g2
      have h_gr := gnS_rg σ c i b
      have h_nx : i < m → ∀ z : Int, z = gnS σ c (i + 1) b → JJ (EM x) X 5 (fun r ν => r = none ∧ KX lfK lfQ μ ν ∧ ∀ b : Nat, b < 8 → ν 27 b = pgS σ c n b ∧ ν 28 b = gnS σ c m b) 4 49 [some (rf (EM x) 0), some (iv c), some (iv b), some (iv ((i + 1 : Nat) : Int))] [] (up ν2 28 b z) := fun h_im z h_z => ih2 h_im _ (h_k2.ux (by unfold lfK; omega) (by decide)) (fun d h_d => ⟨by rw [up_cell (by decide)]; exact (h_v2 d h_d).1, by rw [up_idx (by omega)]; exact (h_v2 d h_d).2⟩) (by rw [up_cell (by decide)]; exact h_p2) (by rw [up_same]; exact h_z)
      refine j_iload_n G dX12_layFund_49 rfl ?_
      first | refine j_aload_n G dX12_layFund_50 rfl ?_ | refine j_aload_nN G dX12_layFund_50 rfl ?_
      refine j_geti G fl_X12_249 dX12_layFund_51 33 rfl (by first | assumption | rfl) (by rfl) (fun r_51 => ?_)
      try simp (disch := omega) only [up_same, up_cell, up_idx, cpm_at, fil_at] at r_51 ⊢
      rw [h_k2.2 33 (by unfold lfQ; omega), r5.1, h_m]
      refine j_icmp_ge G dX12_layFund_54 (tgt := 95) (by decide) (by omega) (by omega) (fun c_54 => ?_) (fun c_54 => ?_)
      · refine j_iinc2 G dX12_layFund_95 (by decide) rfl rfl ?_
        refine j_goto G dX12_layFund_98 (tgt := 2) (by decide) ?_
        refine j_pc (p2 := 2) rfl ?_
        obtain rfl : i = m := by omega
        exact j_weak (ih h_b8 ν2 h_k2 (fun d h_d => by
          by_cases h_e : d = b
          · subst h_e
            exact ⟨h_p2, h_g2⟩
          · exact h_v2 d (by omega))) ⟨rfl, rfl, rfl, trivial⟩
      · obtain ⟨h_a1, h_a2, h_a3, h_a4⟩ := w5.2 i (by omega)
        obtain ⟨h_b1, h_b2, h_b3, h_b4⟩ := r5.2 i (by omega)
        obtain ⟨s, h_s5, h_se⟩ := nat_of (n := 5) h_a2
        have h_25 : ∀ e : Int, 0 ≤ e → e < 5 → ν2 25 (5 * (i : Int) + e) = σ (79 + 2 * i) e := fun e h_1 h_2 => by rw [h_k2.1 25 (by unfold lfK; omega) (by decide)]; exact h_b4 e h_1 h_2
        have h_26 : ∀ e : Int, 0 ≤ e → e < 5 → ν2 26 (40 * (s : Int) + 5 * b + e) = σ (121 + 12 * s + b) e := fun e h_1 h_2 => by rw [h_k2.1 26 (by unfold lfK; omega) (by decide)]; exact r6 s (by omega) b (by omega) e h_1 h_2
        have h_cr : anyB (fun e => decide (0 < ν2 25 (5 * i + e)) && decide (0 < ν2 26 (40 * s + 5 * b + e))) 5 = (rdS σ i s).testBit b := by
          unfold rdS
          rw [bo_bit, decide_eq_true (show b < 8 by omega), Bool.true_and]
          exact anyB_cg 5 (fun e h_e => by rw [h_25 e (by omega) (by omega), h_26 e (by omega) (by omega)])
        have h_gi : gnS σ c (i + 1) b = gnS σ c i b + (if 0 < σ (79 + 2 * i) c ∧ ¬ (rdS σ i s).testBit b = true then 1 else 0) := by
          show gnS σ c i b + gnI σ c b i = _
          unfold gnI
          rw [h_se, Int.toNat_natCast]
        first | refine j_aload_n G dX12_layFund_57 rfl ?_ | refine j_aload_nN G dX12_layFund_57 rfl ?_
        refine j_getr G fl_X12_92 dX12_layFund_58 (by first | assumption | rfl) (by rfl) ?_
        refine j_iload_n G dX12_layFund_61 rfl ?_
        refine j_dup2 G dX12_layFund_62 rfl rfl ?_
        refine j_iaload G dX12_layFund_63 (by first | assumption | rfl) (by omega) (fun r_63 => ?_)
        try simp (disch := omega) only [up_same, up_cell, up_idx, cpm_at, fil_at] at r_63 ⊢
        rw [h_g2]
        first | refine j_aload_n G dX12_layFund_64 rfl ?_ | refine j_aload_nN G dX12_layFund_64 rfl ?_
        refine j_iload_n G dX12_layFund_65 rfl ?_
        refine j_iload_n G dX12_layFund_66 rfl ?_
        refine j_callV G mv_X12_264 dX12_layFund_67 (m_knows i c (by omega) (by omega)) (by first | assumption | rfl) (by decide) (by rfl) rfl rfl (by exact Nat.le_of_ble_eq_true rfl) (by decide) (kI ?_)
        refine j_if_eqB G dX12_layFund_70 (tgt := 86) (by decide)  (fun c_70 => ?_) (fun c_70 => ?_)
        · refine j_iconst G dX12_layFund_86 ?_
          refine j_iadd G dX12_layFund_87 ?_
          refine j_iastore G dX12_layFund_88 (by first | assumption | rfl) (by omega) (by omega) ?_
          refine j_iinc3 G dX12_layFund_89 (by decide) rfl rfl ?_
          refine j_goto G dX12_layFund_92 (tgt := 49) (by decide) ?_
          refine j_pc (p2 := 49) rfl ?_
          rw [h_25 c (by omega) (by omega)] at c_70
          first
          | (rw [h_cr] at c_79
             have h_q : ¬ (rdS σ i s).testBit b = true := c_79
             exact h_nx (by omega) _ (by rw [h_gi, if_pos ⟨c_70, h_q⟩]))
          | (rw [h_cr] at c_79
             have h_q : (rdS σ i s).testBit b = true := c_79
             exact h_nx (by omega) _ (by rw [h_gi, if_neg (fun z => z.2 h_q)]))
          | exact h_nx (by omega) _ (by rw [h_gi, if_neg (fun z => c_70 z.1)])
        · first | refine j_aload_n G dX12_layFund_73 rfl ?_ | refine j_aload_nN G dX12_layFund_73 rfl ?_
          refine j_iload_n G dX12_layFund_74 rfl ?_
          refine j_iload_n G dX12_layFund_75 rfl ?_
          refine j_callV G mv_X12_282 dX12_layFund_76 (m_canRead i s b (by omega) (by omega) (by omega) (by rw [h_k2.1 23 (by unfold lfK; omega) (by decide), h_b2, h_se])) (by first | assumption | rfl) (by decide) (by rfl) rfl rfl (by exact Nat.le_of_ble_eq_true rfl) (by decide) (kI ?_)
          refine j_if_neB G dX12_layFund_79 (tgt := 86) (by decide)  (fun c_79 => ?_) (fun c_79 => ?_)
          · refine j_iconst G dX12_layFund_86 ?_
            refine j_iadd G dX12_layFund_87 ?_
            refine j_iastore G dX12_layFund_88 (by first | assumption | rfl) (by omega) (by omega) ?_
            refine j_iinc3 G dX12_layFund_89 (by decide) rfl rfl ?_
            refine j_goto G dX12_layFund_92 (tgt := 49) (by decide) ?_
            refine j_pc (p2 := 49) rfl ?_
            rw [h_25 c (by omega) (by omega)] at c_70
            first
            | (rw [h_cr] at c_79
               have h_q : ¬ (rdS σ i s).testBit b = true := c_79
               exact h_nx (by omega) _ (by rw [h_gi, if_pos ⟨c_70, h_q⟩]))
            | (rw [h_cr] at c_79
               have h_q : (rdS σ i s).testBit b = true := c_79
               exact h_nx (by omega) _ (by rw [h_gi, if_neg (fun z => z.2 h_q)]))
            | exact h_nx (by omega) _ (by rw [h_gi, if_neg (fun z => c_70 z.1)])
          · refine j_iconst G dX12_layFund_82 ?_
            refine j_goto G dX12_layFund_83 (tgt := 87) (by decide) ?_
            refine j_iadd G dX12_layFund_87 ?_
            refine j_iastore G dX12_layFund_88 (by first | assumption | rfl) (by omega) (by omega) ?_
            refine j_iinc3 G dX12_layFund_89 (by decide) rfl rfl ?_
            refine j_goto G dX12_layFund_92 (tgt := 49) (by decide) ?_
            refine j_pc (p2 := 49) rfl ?_
            rw [h_25 c (by omega) (by omega)] at c_70
            first
            | (rw [h_cr] at c_79
               have h_q : ¬ (rdS σ i s).testBit b = true := c_79
               exact h_nx (by omega) _ (by rw [h_gi, if_pos ⟨c_70, h_q⟩]))
            | (rw [h_cr] at c_79
               have h_q : (rdS σ i s).testBit b = true := c_79
               exact h_nx (by omega) _ (by rw [h_gi, if_neg (fun z => z.2 h_q)]))
            | exact h_nx (by omega) _ (by rw [h_gi, if_neg (fun z => c_70 z.1)])
  refine j_iload_n G dX12_layFund_2 rfl ?_
  refine j_bipush G dX12_layFund_3 (by decide) ?_
  refine j_icmp_ge G dX12_layFund_5 (tgt := 101) (by decide) (by omega) (by omega) (fun c_5 => ?_) (fun c_5 => ?_)
  · refine j_return G dX12_layFund_101 ?_
    obtain rfl : b = 8 := by omega
    exact ⟨rfl, h_k, h_v⟩
  · have h_rc : ReCode σ ν c := (r1 c h_c).on (fun j h_1 h_2 => h_k.1 j (by unfold lfK; omega) (by omega))
    have h_pr := pgS_rg (b := b) (by omega) h_wc w3 h_n
    first | refine j_aload_n G dX12_layFund_8 rfl ?_ | refine j_aload_nN G dX12_layFund_8 rfl ?_
    refine j_getr G fl_X12_89 dX12_layFund_9 (by first | assumption | rfl) (by rfl) ?_
    refine j_iload_n G dX12_layFund_12 rfl ?_
    first | refine j_aload_n G dX12_layFund_13 rfl ?_ | refine j_aload_nN G dX12_layFund_13 rfl ?_
    refine j_iload_n G dX12_layFund_14 rfl ?_
    refine j_iload_n G dX12_layFund_15 rfl ?_
    refine j_callV G mv_X12_232 dX12_layFund_16 (m_findRoomR (σ := σ) b c n (by omega) h_c h_n h_wc h_rc w3 (r3.kx h_k)) (by first | assumption | rfl) (by decide) (by rfl) rfl rfl (by exact Nat.le_of_ble_eq_true rfl) (by decide) (kP (fun y ν1 h_y => ?_))
    obtain ⟨rfl, h_y1, h_y2⟩ := h_y
    have h_k1 : KX lfK lfQ μ ν1 := h_k.tr h_y1.kx
    refine j_if_eqB G dX12_layFund_19 (tgt := 37) (by decide)  (fun c_19 => ?_) (fun c_19 => ?_)
    · refine j_bipush G dX12_layFund_37 (by decide) ?_
      refine j_iastore G dX12_layFund_39 (by first | assumption | rfl) (by omega) (by omega) ?_
      refine j_pc (p2 := 40) rfl ?_
      first
      | (rw [← h_e]
         exact h_40 (by omega) _ (h_k1.ux (by unfold lfK; omega) (by decide)) (by funext j; unfold up; rw [h_y1.1 27 (by decide) (by decide) (by decide)]) (by rw [up_fn (by decide)]; exact h_y1.1 28 (by decide) (by decide) (by decide)))
      | (have h_e : pgS σ c n b = -6 := if_neg c_19
         rw [← h_e]
         exact h_40 (by omega) _ (h_k1.ux (by unfold lfK; omega) (by decide)) (by funext j; unfold up; rw [h_y1.1 27 (by decide) (by decide) (by decide)]) (by rw [up_fn (by decide)]; exact h_y1.1 28 (by decide) (by decide) (by decide)))
    · first | refine j_aload_n G dX12_layFund_22 rfl ?_ | refine j_aload_nN G dX12_layFund_22 rfl ?_
      refine j_geti G fl_X12_223 dX12_layFund_23 24 rfl (by first | assumption | rfl) (by rfl) (fun r_23 => ?_)
      try simp (disch := omega) only [up_same, up_cell, up_idx, cpm_at, fil_at] at r_23 ⊢
      have h_24 := (h_y2 c_19).1
      rw [h_24]
      have h_e : pgS σ c n b = (ceB (fun w => σ (61 + b) w) (wgW σ c) n + 199) / 200 := if_pos c_19
      have h_bk := bko_of (cn := fun w => σ (61 + b) w) (g := wgW σ c) (Nat.le_refl n) (fun w h => h_w4 b (by omega) w (by omega) (by omega)) (fun w h => ⟨_, (wg_v h_wc w3 w (by omega)).2, (wg_v h_wc w3 w (by omega)).1⟩) (prB_iff.1 c_19)
      have h_cr := ceB_rg h_bk (by omega) n (Nat.le_refl _)
      refine j_sipush G dX12_layFund_26 (by decide) ?_
      refine j_iadd G dX12_layFund_29 ?_
      refine j_sipush G dX12_layFund_30 (by decide) ?_
      refine j_idiv G dX12_layFund_33 (by omega) (by omega) ?_
      refine j_goto G dX12_layFund_34 (tgt := 39) (by decide) ?_
      refine j_iastore G dX12_layFund_39 (by first | assumption | rfl) (by omega) (by omega) ?_
      refine j_pc (p2 := 40) rfl ?_
      first
      | (rw [← h_e]
         exact h_40 (by omega) _ (h_k1.ux (by unfold lfK; omega) (by decide)) (by funext j; unfold up; rw [h_y1.1 27 (by decide) (by decide) (by decide)]) (by rw [up_fn (by decide)]; exact h_y1.1 28 (by decide) (by decide) (by decide)))
      | (have h_e : pgS σ c n b = -6 := if_neg c_19
         rw [← h_e]
         exact h_40 (by omega) _ (h_k1.ux (by unfold lfK; omega) (by decide)) (by funext j; unfold up; rw [h_y1.1 27 (by decide) (by decide) (by decide)]) (by rw [up_fn (by decide)]; exact h_y1.1 28 (by decide) (by decide) (by decide)))
def ffK : Nat → Prop := fun k => k = 9 ∨ k = 10 ∨ k = 27 ∨ k = 28
def ffQ : Int → Prop := fun i => i = 11 ∨ i = 24 ∨ i = 25 ∨ (35 ≤ i ∧ i ≤ 38)
theorem m_findFund (coin : Int) (n m : Nat) (h_k : 0 ≤ coin ∧ coin ≤ 1000) (h_w : Wf σ) (h_r : Rel σ μ) (h_n : σ 57 3 = n) (h_m : σ 0 8 = m) : CT (EM x) 6 yX12_findFund [rf (EM x) 0, iv coin] μ (fun r ν => r = none ∧ KX ffK ffQ μ ν ∧ FdM ν (FS σ coin n m 5)) := by
  obtain ⟨w1, w2, w3, w4, w5, w6, w7, w8⟩ := id h_w
  have h_20 : m ≤ 20 := by have := w5.1; omega
  refine CT.ofJ (own := RX12) (cc := cX12_findFund) (n := 4) (ret := none) (by decide) rfl cw_X12_findFund (by decide) (Nat.le_of_ble_eq_true rfl) (ls := [some (rf (EM x) 0), some (iv coin), none, none]) rfl ?_
  intro X G
  first | refine j_aload_n G dX12_findFund_0 rfl ?_ | refine j_aload_nN G dX12_findFund_0 rfl ?_
  refine j_iconst G dX12_findFund_1 ?_
  refine j_puti G fp_X12_290 dX12_findFund_2 35 rfl (by first | assumption | rfl) (by rfl) (by omega) ?_
  first | refine j_aload_n G dX12_findFund_5 rfl ?_ | refine j_aload_nN G dX12_findFund_5 rfl ?_
  refine j_bipush G dX12_findFund_6 (by decide) ?_
  refine j_puti G fp_X12_293 dX12_findFund_8 36 rfl (by first | assumption | rfl) (by rfl) (by omega) ?_
  first | refine j_aload_n G dX12_findFund_11 rfl ?_ | refine j_aload_nN G dX12_findFund_11 rfl ?_
  refine j_iconst G dX12_findFund_12 ?_
  refine j_puti G fp_X12_296 dX12_findFund_13 37 rfl (by first | assumption | rfl) (by rfl) (by omega) ?_
  first | refine j_aload_n G dX12_findFund_16 rfl ?_ | refine j_aload_nN G dX12_findFund_16 rfl ?_
  refine j_iconst G dX12_findFund_17 ?_
  refine j_pc (p2 := 18) rfl ?_
  refine j_puti G fp_X12_299 dX12_findFund_18 38 rfl (by first | assumption | rfl) (by rfl) (by omega) ?_
  refine j_iconst G dX12_findFund_21 ?_
  refine j_istore2 G dX12_findFund_22 (by decide) rfl ?_
  refine j_pc (p2 := 23) rfl ?_
  refine j_weak (ls' := [some (rf (EM x) 0), some (iv coin), some (iv ((0 : Nat) : Int)), none]) ?_ ⟨rfl, rfl, rfl, trivial⟩
  refine down (Pr := fun c => ∀ ν : MemT, KX ffK ffQ μ ν → FdM ν (FS σ coin n m c) → JJ (EM x) X 6 (fun r ν => r = none ∧ KX ffK ffQ μ ν ∧ FdM ν (FS σ coin n m 5)) 4 23 [some (rf (EM x) 0), some (iv coin), some (iv c), none] [] ν) 5 ?_ 0 (Nat.zero_le _) _ (((((KX.rf ffK ffQ _).u0 (by unfold ffQ; omega)).u0 (by unfold ffQ; omega)).u0 (by unfold ffQ; omega)).u0 (by unfold ffQ; omega)) FdM.up
  intro c h_c ih ν h_x h_F
  refine j_iload_n G dX12_findFund_23 rfl ?_
  refine j_iconst G dX12_findFund_24 ?_
  refine j_icmp_ge G dX12_findFund_25 (tgt := 61) (by decide) (by omega) (by omega) (fun c_25 => ?_) (fun c_25 => ?_)
  · refine j_return G dX12_findFund_61 ?_
    obtain rfl : c = 5 := by omega
    exact ⟨rfl, h_x, h_F⟩
  · have h_km : KM μ ν := h_x.wk (fun k h => by unfold ffK at h; unfold scM; omega) (fun i h => by unfold ffQ at h; unfold scF; omega)
    have h_rn : Rel σ ν := h_r.km h_km
    first | refine j_aload_n G dX12_findFund_28 rfl ?_ | refine j_aload_nN G dX12_findFund_28 rfl ?_
    refine j_iload_n G dX12_findFund_29 rfl ?_
    refine j_callV G mv_X12_302 dX12_findFund_30 (m_layFund c n m (by omega) h_w h_rn h_n h_m) (by first | assumption | rfl) (by decide) (by rfl) rfl rfl (by exact Nat.le_of_ble_eq_true rfl) (by decide) (kM (fun ν1 h_1 => ?_))
    obtain ⟨h_x1, h_v1⟩ := h_1
    have h_F1 : FdM ν1 (FS σ coin n m c) := by
      unfold FdM
      rw [h_x1.2 35 (by unfold lfQ; omega), h_x1.2 36 (by unfold lfQ; omega), h_x1.2 37 (by unfold lfQ; omega), h_x1.2 38 (by unfold lfQ; omega)]
      exact h_F
    have h_x2 : KX ffK ffQ μ ν1 := h_x.tr (h_x1.wk (fun k h => h) (fun i h => by unfold lfQ at h; unfold ffQ; omega))
    refine j_iconst G dX12_findFund_33 ?_
    refine j_istore3 G dX12_findFund_34 (by decide) rfl ?_
    refine j_pc (p2 := 35) rfl ?_
    refine j_weak (ls' := [some (rf (EM x) 0), some (iv coin), some (iv c), some (iv (((0 : Nat) : Int) + 1))]) ?_ ⟨rfl, rfl, rfl, rfl, trivial⟩
    refine down (Pr := fun s => ∀ ν2 : MemT, KX noK fdQ ν1 ν2 → FdM ν2 (foF c coin (pgS σ c n) (gnS σ c m) (FS σ coin n m c) s) → JJ (EM x) X 6 (fun r ν => r = none ∧ KX ffK ffQ μ ν ∧ FdM ν (FS σ coin n m 5)) 4 35 [some (rf (EM x) 0), some (iv coin), some (iv c), some (iv ((s : Int) + 1))] [] ν2) 255 ?_ 0 (Nat.zero_le _) ν1 (KX.rf _ _ _) h_F1
    intro s h_s ih2 ν2 h_y2 h_F2
    refine j_iload_n G dX12_findFund_35 rfl ?_
    refine j_sipush G dX12_findFund_36 (by decide) ?_
    refine j_icmp_ge G dX12_findFund_39 (tgt := 55) (by decide) (by omega) (by omega) (fun c_39 => ?_) (fun c_39 => ?_)
    · refine j_iinc2 G dX12_findFund_55 (by decide) rfl rfl ?_
      refine j_goto G dX12_findFund_58 (tgt := 23) (by decide) ?_
      refine j_pc (p2 := 23) rfl ?_
      obtain rfl : s = 255 := by omega
      exact j_weak (ih (by omega) ν2 (h_x2.tr (h_y2.wk (fun k h => absurd h id) (fun i h => by unfold fdQ at h; unfold ffQ; omega))) h_F2) ⟨rfl, rfl, rfl, trivial⟩
    · first | refine j_aload_n G dX12_findFund_42 rfl ?_ | refine j_aload_nN G dX12_findFund_42 rfl ?_
      refine j_iload_n G dX12_findFund_43 rfl ?_
      refine j_iload_n G dX12_findFund_44 rfl ?_
      refine j_iload_n G dX12_findFund_45 rfl ?_
      refine j_callV G mv_X12_305 dX12_findFund_46 (m_trySet c (s + 1) coin (pgS σ c n) (gnS σ c m) _ (by omega) (by omega) h_k h_F2 (fun b h_b => ⟨by rw [h_y2.1 27 id (by decide)]; exact (h_v1 b h_b).1, (pgS_rg h_b (w1 c (by omega)) w3 h_n).2⟩) (fun b h_b => by
have := gnS_rg σ c m b
exact ⟨by rw [h_y2.1 28 id (by decide)]; exact (h_v1 b h_b).2, by omega, by omega⟩)) (by first | assumption | rfl) (by decide) (by rfl) rfl rfl (by exact Nat.le_of_ble_eq_true rfl) (by decide) (kM (fun ν3 h_3 => ?_))
      refine j_iinc3 G dX12_findFund_49 (by decide) rfl rfl ?_
      refine j_goto G dX12_findFund_52 (tgt := 35) (by decide) ?_
      refine j_pc (p2 := 35) rfl ?_
      exact ih2 (by omega) ν3 (h_y2.tr h_3.1) h_3.2
theorem m_fund (coin what : Int) (n m : Nat) (h_k : 0 ≤ coin ∧ coin ≤ 1000) (h_wh : 0 ≤ what ∧ what ≤ 3) (h_w : Wf σ) (h_r : Rel σ μ) (h_n : σ 57 3 = n) (h_m : σ 0 8 = m) : CT (EM x) 7 yX12_fund [rf (EM x) 0, iv coin, iv what] μ (rP (fun z ν => z = fuS (FS σ coin n m 5) what ∧ KM μ ν)) := by
  refine CT.ofJ (own := RX12) (cc := cX12_fund) (n := 3) (ret := (some .int)) (by decide) rfl cw_X12_fund (by decide) (Nat.le_of_ble_eq_true rfl) (ls := [some (rf (EM x) 0), some (iv coin), some (iv what)]) rfl ?_
  intro X G
  refine j_iload_n G dX12_fund_0 rfl ?_
  refine j_i2l G (by omega) dX12_fund_1 ?_
  refine j_lconstI G 0 dX12_fund_2 (by decide) ?_
  refine j_ldc2I G (1000) kl_X12_221 dX12_fund_3 (by decide) ?_
  refine j_callS G ms_X12_115 dX12_fund_6 (m_in _ _ _ (by omega) (by omega) (by omega)) rfl rfl (by exact Nat.le_of_ble_eq_true rfl) (by decide) (kI ?_)
  refine j_if_eqB G dX12_fund_9 (tgt := 24) (by decide)  (fun c_9 => ?_) (fun c_9 => ?_)
  · refine j_bipush G dX12_fund_24 (by decide) ?_
    refine j_ireturn G dX12_fund_26 ?_
    omega
  · refine j_iload_n G dX12_fund_12 rfl ?_
    refine j_i2l G (by omega) dX12_fund_13 ?_
    refine j_lconstI G 0 dX12_fund_14 (by decide) ?_
    refine j_ldc2I G (3) kl_X12_288 dX12_fund_15 (by decide) ?_
    refine j_callS G ms_X12_115 dX12_fund_18 (m_in _ _ _ (by omega) (by omega) (by omega)) rfl rfl (by exact Nat.le_of_ble_eq_true rfl) (by decide) (kI ?_)
    refine j_if_neB G dX12_fund_21 (tgt := 27) (by decide)  (fun c_21 => ?_) (fun c_21 => ?_)
    · first | refine j_aload_n G dX12_fund_27 rfl ?_ | refine j_aload_nN G dX12_fund_27 rfl ?_
      refine j_iload_n G dX12_fund_28 rfl ?_
      refine j_callV G mv_X12_309 dX12_fund_29 (m_findFund coin n m h_k h_w h_r h_n h_m) (by first | assumption | rfl) (by decide) (by rfl) rfl rfl (by exact Nat.le_of_ble_eq_true rfl) (by decide) (kM (fun ν h_1 => ?_))
      obtain ⟨h_x, h_F1, h_F2, h_F3, h_F4⟩ := h_1
      have h_km : KM μ ν := h_x.wk (fun k h => by unfold ffK at h; unfold scM; omega) (fun i h => by unfold ffQ at h; unfold scF; omega)
      unfold fuS
      refine j_iload_n G dX12_fund_32 rfl ?_
      refine j_if_ne G dX12_fund_33 (tgt := 43) (by decide) (by omega) (fun c_33 => ?_) (fun c_33 => ?_)
      · refine j_iload_n G dX12_fund_43 rfl ?_
        refine j_iconst G dX12_fund_44 ?_
        refine j_icmp_ne G dX12_fund_45 (tgt := 55) (by decide) (by omega) (by omega) (fun c_45 => ?_) (fun c_45 => ?_)
        · refine j_iload_n G dX12_fund_55 rfl ?_
          refine j_iconst G dX12_fund_56 ?_
          refine j_icmp_ne G dX12_fund_57 (tgt := 67) (by decide) (by omega) (by omega) (fun c_57 => ?_) (fun c_57 => ?_)
          · first | refine j_aload_n G dX12_fund_67 rfl ?_ | refine j_aload_nN G dX12_fund_67 rfl ?_
            refine j_geti G fl_X12_299 dX12_fund_68 38 rfl (by first | assumption | rfl) (by rfl) (fun r_68 => ?_)
            try simp (disch := omega) only [up_same, up_cell, up_idx, cpm_at, fil_at] at r_68 ⊢
            refine j_ireturn G dX12_fund_71 ?_
            first
            | exact ⟨_, rfl, by rw [if_pos (by omega)]; exact h_F1, h_km⟩
            | exact ⟨_, rfl, by rw [if_neg (by omega), if_pos (by omega)]; exact h_F2, h_km⟩
            | exact ⟨_, rfl, by rw [if_neg (by omega), if_neg (by omega), if_pos (by omega)]; exact h_F3, h_km⟩
            | exact ⟨_, rfl, by rw [if_neg (by omega), if_neg (by omega), if_neg (by omega)]; exact h_F4, h_km⟩
          · first | refine j_aload_n G dX12_fund_60 rfl ?_ | refine j_aload_nN G dX12_fund_60 rfl ?_
            refine j_geti G fl_X12_296 dX12_fund_61 37 rfl (by first | assumption | rfl) (by rfl) (fun r_61 => ?_)
            try simp (disch := omega) only [up_same, up_cell, up_idx, cpm_at, fil_at] at r_61 ⊢
            refine j_goto G dX12_fund_64 (tgt := 71) (by decide) ?_
            refine j_ireturn G dX12_fund_71 ?_
            first
            | exact ⟨_, rfl, by rw [if_pos (by omega)]; exact h_F1, h_km⟩
            | exact ⟨_, rfl, by rw [if_neg (by omega), if_pos (by omega)]; exact h_F2, h_km⟩
            | exact ⟨_, rfl, by rw [if_neg (by omega), if_neg (by omega), if_pos (by omega)]; exact h_F3, h_km⟩
            | exact ⟨_, rfl, by rw [if_neg (by omega), if_neg (by omega), if_neg (by omega)]; exact h_F4, h_km⟩
        · first | refine j_aload_n G dX12_fund_48 rfl ?_ | refine j_aload_nN G dX12_fund_48 rfl ?_
          refine j_geti G fl_X12_293 dX12_fund_49 36 rfl (by first | assumption | rfl) (by rfl) (fun r_49 => ?_)
          try simp (disch := omega) only [up_same, up_cell, up_idx, cpm_at, fil_at] at r_49 ⊢
          refine j_goto G dX12_fund_52 (tgt := 71) (by decide) ?_
          refine j_ireturn G dX12_fund_71 ?_
          first
          | exact ⟨_, rfl, by rw [if_pos (by omega)]; exact h_F1, h_km⟩
          | exact ⟨_, rfl, by rw [if_neg (by omega), if_pos (by omega)]; exact h_F2, h_km⟩
          | exact ⟨_, rfl, by rw [if_neg (by omega), if_neg (by omega), if_pos (by omega)]; exact h_F3, h_km⟩
          | exact ⟨_, rfl, by rw [if_neg (by omega), if_neg (by omega), if_neg (by omega)]; exact h_F4, h_km⟩
      · first | refine j_aload_n G dX12_fund_36 rfl ?_ | refine j_aload_nN G dX12_fund_36 rfl ?_
        refine j_geti G fl_X12_290 dX12_fund_37 35 rfl (by first | assumption | rfl) (by rfl) (fun r_37 => ?_)
        try simp (disch := omega) only [up_same, up_cell, up_idx, cpm_at, fil_at] at r_37 ⊢
        refine j_goto G dX12_fund_40 (tgt := 71) (by decide) ?_
        refine j_ireturn G dX12_fund_71 ?_
        first
        | exact ⟨_, rfl, by rw [if_pos (by omega)]; exact h_F1, h_km⟩
        | exact ⟨_, rfl, by rw [if_neg (by omega), if_pos (by omega)]; exact h_F2, h_km⟩
        | exact ⟨_, rfl, by rw [if_neg (by omega), if_neg (by omega), if_pos (by omega)]; exact h_F3, h_km⟩
        | exact ⟨_, rfl, by rw [if_neg (by omega), if_neg (by omega), if_neg (by omega)]; exact h_F4, h_km⟩
    · refine j_bipush G dX12_fund_24 (by decide) ?_
      refine j_ireturn G dX12_fund_26 ?_
      omega
theorem m_fundO (coin what : Int) (h_1 : (-2147483648 ≤ coin ∧ coin < 2147483648)) (h_2 : (-2147483648 ≤ what ∧ what < 2147483648)) (h_N : ¬ ((0 ≤ coin ∧ coin ≤ 1000) ∧ 0 ≤ what ∧ what ≤ 3)) : CT (EM x) 7 yX12_fund [rf (EM x) 0, iv coin, iv what] μ (rI (-2) μ) := by
  refine CT.ofJ (own := RX12) (cc := cX12_fund) (n := 3) (ret := (some .int)) (by decide) rfl cw_X12_fund (by decide) (Nat.le_of_ble_eq_true rfl) (ls := [some (rf (EM x) 0), some (iv coin), some (iv what)]) rfl ?_
  intro X G
  refine j_iload_n G dX12_fund_0 rfl ?_
  refine j_i2l G (by omega) dX12_fund_1 ?_
  refine j_lconstI G 0 dX12_fund_2 (by decide) ?_
  refine j_ldc2I G (1000) kl_X12_221 dX12_fund_3 (by decide) ?_
  refine j_callS G ms_X12_115 dX12_fund_6 (m_in _ _ _ (by omega) (by omega) (by omega)) rfl rfl (by exact Nat.le_of_ble_eq_true rfl) (by decide) (kI ?_)
  refine j_if_eqB G dX12_fund_9 (tgt := 24) (by decide)  (fun c_9 => ?_) (fun c_9 => ?_)
  · refine j_bipush G dX12_fund_24 (by decide) ?_
    refine j_ireturn G dX12_fund_26 ?_
    exact ⟨rfl, rfl⟩
  · refine j_iload_n G dX12_fund_12 rfl ?_
    refine j_i2l G (by omega) dX12_fund_13 ?_
    refine j_lconstI G 0 dX12_fund_14 (by decide) ?_
    refine j_ldc2I G (3) kl_X12_288 dX12_fund_15 (by decide) ?_
    refine j_callS G ms_X12_115 dX12_fund_18 (m_in _ _ _ (by omega) (by omega) (by omega)) rfl rfl (by exact Nat.le_of_ble_eq_true rfl) (by decide) (kI ?_)
    refine j_if_neB G dX12_fund_21 (tgt := 27) (by decide)  (fun c_21 => ?_) (fun c_21 => ?_)
    · omega
    · refine j_bipush G dX12_fund_24 (by decide) ?_
      refine j_ireturn G dX12_fund_26 ?_
      exact ⟨rfl, rfl⟩
theorem op_fund (coin what : Int) (h_1 : (-2147483648 ≤ coin ∧ coin < 2147483648)) (h_2 : (-2147483648 ≤ what ∧ what < 2147483648)) : OP x1 x2 yX11_fund yX12_fund [iv coin, iv what] := by
  refine OP.same (fun σ μ hw hr => ?_)
  obtain ⟨w1, w2, w3, w4, w5, w6, w7, w8⟩ := id hw
  by_cases h_N : (0 ≤ coin ∧ coin ≤ 1000) ∧ 0 ≤ what ∧ what ≤ 3
  · obtain ⟨n, h_n30, h_n⟩ := nat_of (n := 30) w3.2.1
    obtain ⟨m, h_m20, h_m⟩ := nat_of (n := 20) w5.1
    exact ⟨_, _, _, by decide, by decide, c_fund coin what n m h_N.1 h_N.2 hw h_n h_m, m_fund coin what n m h_N.1 h_N.2 hw hr h_n h_m⟩
  · exact ⟨_, _, _, by decide, by decide, rI_P (c_fundO coin what h_1 h_2 h_N) ⟨rfl, KC.rf _⟩, rI_P (m_fundO coin what h_1 h_2 h_N) ⟨rfl, KM.rf _⟩⟩
end FM
