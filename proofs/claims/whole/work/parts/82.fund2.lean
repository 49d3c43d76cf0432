theorem FdC.up {τ : MemT} {g c s p : Int} : FdC (up (up (up (up τ 191 2 g) 191 3 c) 191 4 s) 191 5 p) (g, c, s, p) := ⟨by rw [up_idx (by decide), up_idx (by decide), up_idx (by decide), up_same], by rw [up_idx (by decide), up_idx (by decide), up_same], by rw [up_idx (by decide), up_same], up_same _ _ _ _⟩
section FU2
variable {E : EE} {x x1 x2 : CX} {μ σ : MemT}
theorem c_weighSet (c set : Nat) (coin : Int) (pg gn : Nat → Int) (B : FB) (h_c : c < 5) (h_s : set < 256) (h_k : 0 ≤ coin ∧ coin ≤ 1000) (h_B : FdC σ B) (h_p : ∀ b : Nat, b < 8 → set.testBit b = true → σ 193 b = pg b ∧ 0 ≤ pg b ∧ pg b ≤ 1000) (h_g : ∀ b : Nat, b < 8 → σ 192 b = gn b ∧ 0 ≤ gn b ∧ gn b ≤ 20) : CT (EC x) 0 yX3_weighSet [rf (EC x) 191, iv c, iv coin, iv set] σ (fun r τ => r = none ∧ Ons (· = 191) σ τ ∧ FdC τ (stF c coin pg gn set B)) := by
  have h_ok : okF pg set 8 = true := okF_iff.2 (fun b h_b h_t => (h_p b h_b h_t).2.1)
  have h_pr := fun m (h_m : m ≤ 8) => fsum_rg (f := pg) (set := set) (a := 1000) (by omega) m (fun b h_b h_t => (h_p b (by omega) h_t).2)
  have h_gr := fun m (h_m : m ≤ 8) => fsum_rg (f := gn) (set := set) (a := 20) (by omega) m (fun b h_b h_t => (h_g b (by omega)).2)
  obtain ⟨h_B1, h_B2, h_B3, h_B4⟩ := id h_B
  unfold stF
  refine CT.ofJ (own := RX3) (cc := cX3_weighSet) (n := 7) (ret := none) (by decide) rfl cw_X3_weighSet (by decide) (Nat.le_of_ble_eq_true rfl) (ls := [some (rf (EC x) 191), some (iv c), some (iv coin), some (iv set), none, none, none]) rfl ?_
  intro X G
  refine j_iconst G dX3_weighSet_0 ?_
  refine j_istore4 G dX3_weighSet_1 (by decide) rfl ?_
  refine j_iconst G dX3_weighSet_3 ?_
  refine j_istore5 G dX3_weighSet_4 (by decide) rfl ?_
  refine j_iconst G dX3_weighSet_6 ?_
  refine j_istore6 G dX3_weighSet_7 (by decide) rfl ?_
  refine j_pc (p2 := 9) rfl ?_
  refine down (Pr := fun i => JJ (EC x) X 0 (fun r τ => r = none ∧ Ons (· = 191) σ τ ∧ FdC τ (if okF pg set 8 = true ∧ fsum pg set 8 ≤ coin ∧ (B.1 < fsum gn set 8 ∨ fsum gn set 8 = B.1 ∧ (c : Int) = B.2.1 ∧ fsum pg set 8 < B.2.2.2) then (fsum gn set 8, (c : Int), (set : Int), fsum pg set 8) else B)) 7 9 [some (rf (EC x) 191), some (iv c), some (iv coin), some (iv set), some (iv (fsum gn set i)), some (iv (fsum pg set i)), some (iv i)] [] σ) 8 ?_ 0 (Nat.zero_le _)
  intro i h_i ih
  have h_b32 := bit32 (a := set) (k := i) (by omega) (by omega)
  have h_01 := b2_01 (set.testBit i = true)
  have h_pi := h_p i
  have h_gi := h_g i
  have h_pr8 := h_pr i h_i
  have h_gr8 := h_gr i h_i
  refine j_iload G dX3_weighSet_9 rfl ?_
  refine j_bipush G dX3_weighSet_11 (by decide) ?_
  refine j_icmp_ge G dX3_weighSet_13 (tgt := 56) (by decide) (by omega) (by omega) (fun c_13 => ?_) (fun c_13 => ?_)
  · obtain rfl : i = 8 := by omega
    refine j_iload G dX3_weighSet_56 rfl ?_
    first | refine j_aload_n G dX3_weighSet_58 rfl ?_ | refine j_aload_nN G dX3_weighSet_58 rfl ?_
    refine j_geti G fl_X3_18 dX3_weighSet_59 2 rfl (by first | assumption | rfl) (by rfl) (fun r_59 => ?_)
    try simp (disch := omega) only [up_same, up_cell, up_idx, cpm_at, fil_at] at r_59 ⊢
    rw [h_B1]
    refine j_icmp_gt G dX3_weighSet_62 (tgt := 91) (by decide) (by omega) (by omega) (fun c_62 => ?_) (fun c_62 => ?_)
    · refine j_iconst G dX3_weighSet_91 ?_
      refine j_goto G dX3_weighSet_92 (tgt := 96) (by decide) ?_
      refine j_istore6 G dX3_weighSet_96 (by decide) rfl ?_
      refine j_iload G dX3_weighSet_98 rfl ?_
      refine j_iload_n G dX3_weighSet_100 rfl ?_
      refine j_icmp_gt G dX3_weighSet_101 (tgt := 131) (by decide) (by omega) (by omega) (fun c_101 => ?_) (fun c_101 => ?_)
      · refine j_return G dX3_weighSet_131 ?_
        first
        | exact ⟨rfl, Ons.rf _ _, by rw [if_neg (fun z => by omega)]; exact h_B⟩
        | exact ⟨rfl, ((((Ons.rf (· = 191) _).up rfl).up rfl).up rfl).up rfl, by rw [if_pos ⟨h_ok, by omega, by omega⟩]; exact FdC.up⟩
      · refine j_iload G dX3_weighSet_104 rfl ?_
        refine j_if_eq G dX3_weighSet_106 (tgt := 131) (by decide) (by omega) (fun c_106 => ?_) (fun c_106 => ?_)
        · refine j_return G dX3_weighSet_131 ?_
          first
          | exact ⟨rfl, Ons.rf _ _, by rw [if_neg (fun z => by omega)]; exact h_B⟩
          | exact ⟨rfl, ((((Ons.rf (· = 191) _).up rfl).up rfl).up rfl).up rfl, by rw [if_pos ⟨h_ok, by omega, by omega⟩]; exact FdC.up⟩
        · first | refine j_aload_n G dX3_weighSet_109 rfl ?_ | refine j_aload_nN G dX3_weighSet_109 rfl ?_
          refine j_iload G dX3_weighSet_110 rfl ?_
          refine j_puti G fp_X3_18 dX3_weighSet_112 2 rfl (by first | assumption | rfl) (by rfl) (by omega) ?_
          first | refine j_aload_n G dX3_weighSet_115 rfl ?_ | refine j_aload_nN G dX3_weighSet_115 rfl ?_
          refine j_iload_n G dX3_weighSet_116 rfl ?_
          refine j_puti G fp_X3_22 dX3_weighSet_117 3 rfl (by first | assumption | rfl) (by rfl) (by omega) ?_
          first | refine j_aload_n G dX3_weighSet_120 rfl ?_ | refine j_aload_nN G dX3_weighSet_120 rfl ?_
          refine j_iload_n G dX3_weighSet_121 rfl ?_
          refine j_puti G fp_X3_25 dX3_weighSet_122 4 rfl (by first | assumption | rfl) (by rfl) (by omega) ?_
          first | refine j_aload_n G dX3_weighSet_125 rfl ?_ | refine j_aload_nN G dX3_weighSet_125 rfl ?_
          refine j_iload G dX3_weighSet_126 rfl ?_
          refine j_pc (p2 := 128) rfl ?_
          refine j_puti G fp_X3_28 dX3_weighSet_128 5 rfl (by first | assumption | rfl) (by rfl) (by omega) ?_
          refine j_return G dX3_weighSet_131 ?_
          first
          | exact ⟨rfl, Ons.rf _ _, by rw [if_neg (fun z => by omega)]; exact h_B⟩
          | exact ⟨rfl, ((((Ons.rf (· = 191) _).up rfl).up rfl).up rfl).up rfl, by rw [if_pos ⟨h_ok, by omega, by omega⟩]; exact FdC.up⟩
    · refine j_iload G dX3_weighSet_65 rfl ?_
      first | refine j_aload_n G dX3_weighSet_67 rfl ?_ | refine j_aload_nN G dX3_weighSet_67 rfl ?_
      refine j_geti G fl_X3_18 dX3_weighSet_68 2 rfl (by first | assumption | rfl) (by rfl) (fun r_68 => ?_)
      try simp (disch := omega) only [up_same, up_cell, up_idx, cpm_at, fil_at] at r_68 ⊢
      rw [h_B1]
      refine j_icmp_ne G dX3_weighSet_71 (tgt := 95) (by decide) (by omega) (by omega) (fun c_71 => ?_) (fun c_71 => ?_)
      · refine j_iconst G dX3_weighSet_95 ?_
        refine j_istore6 G dX3_weighSet_96 (by decide) rfl ?_
        refine j_iload G dX3_weighSet_98 rfl ?_
        refine j_iload_n G dX3_weighSet_100 rfl ?_
        refine j_icmp_gt G dX3_weighSet_101 (tgt := 131) (by decide) (by omega) (by omega) (fun c_101 => ?_) (fun c_101 => ?_)
        · refine j_return G dX3_weighSet_131 ?_
          first
          | exact ⟨rfl, Ons.rf _ _, by rw [if_neg (fun z => by omega)]; exact h_B⟩
          | exact ⟨rfl, ((((Ons.rf (· = 191) _).up rfl).up rfl).up rfl).up rfl, by rw [if_pos ⟨h_ok, by omega, by omega⟩]; exact FdC.up⟩
        · refine j_iload G dX3_weighSet_104 rfl ?_
          refine j_if_eq G dX3_weighSet_106 (tgt := 131) (by decide) (by omega) (fun c_106 => ?_) (fun c_106 => ?_)
          · refine j_return G dX3_weighSet_131 ?_
            first
            | exact ⟨rfl, Ons.rf _ _, by rw [if_neg (fun z => by omega)]; exact h_B⟩
            | exact ⟨rfl, ((((Ons.rf (· = 191) _).up rfl).up rfl).up rfl).up rfl, by rw [if_pos ⟨h_ok, by omega, by omega⟩]; exact FdC.up⟩
          · first | refine j_aload_n G dX3_weighSet_109 rfl ?_ | refine j_aload_nN G dX3_weighSet_109 rfl ?_
            refine j_iload G dX3_weighSet_110 rfl ?_
            refine j_puti G fp_X3_18 dX3_weighSet_112 2 rfl (by first | assumption | rfl) (by rfl) (by omega) ?_
            first | refine j_aload_n G dX3_weighSet_115 rfl ?_ | refine j_aload_nN G dX3_weighSet_115 rfl ?_
            refine j_iload_n G dX3_weighSet_116 rfl ?_
            refine j_puti G fp_X3_22 dX3_weighSet_117 3 rfl (by first | assumption | rfl) (by rfl) (by omega) ?_
            first | refine j_aload_n G dX3_weighSet_120 rfl ?_ | refine j_aload_nN G dX3_weighSet_120 rfl ?_
            refine j_iload_n G dX3_weighSet_121 rfl ?_
            refine j_puti G fp_X3_25 dX3_weighSet_122 4 rfl (by first | assumption | rfl) (by rfl) (by omega) ?_
            first | refine j_aload_n G dX3_weighSet_125 rfl ?_ | refine j_aload_nN G dX3_weighSet_125 rfl ?_
            refine j_iload G dX3_weighSet_126 rfl ?_
            refine j_pc (p2 := 128) rfl ?_
            refine j_puti G fp_X3_28 dX3_weighSet_128 5 rfl (by first | assumption | rfl) (by rfl) (by omega) ?_
            refine j_return G dX3_weighSet_131 ?_
            first
            | exact ⟨rfl, Ons.rf _ _, by rw [if_neg (fun z => by omega)]; exact h_B⟩
            | exact ⟨rfl, ((((Ons.rf (· = 191) _).up rfl).up rfl).up rfl).up rfl, by rw [if_pos ⟨h_ok, by omega, by omega⟩]; exact FdC.up⟩
      · refine j_iload_n G dX3_weighSet_74 rfl ?_
        first | refine j_aload_n G dX3_weighSet_75 rfl ?_ | refine j_aload_nN G dX3_weighSet_75 rfl ?_
        refine j_geti G fl_X3_22 dX3_weighSet_76 3 rfl (by first | assumption | rfl) (by rfl) (fun r_76 => ?_)
        try simp (disch := omega) only [up_same, up_cell, up_idx, cpm_at, fil_at] at r_76 ⊢
        rw [h_B2]
        refine j_icmp_ne G dX3_weighSet_79 (tgt := 95) (by decide) (by omega) (by omega) (fun c_79 => ?_) (fun c_79 => ?_)
        · refine j_iconst G dX3_weighSet_95 ?_
          refine j_istore6 G dX3_weighSet_96 (by decide) rfl ?_
          refine j_iload G dX3_weighSet_98 rfl ?_
          refine j_iload_n G dX3_weighSet_100 rfl ?_
          refine j_icmp_gt G dX3_weighSet_101 (tgt := 131) (by decide) (by omega) (by omega) (fun c_101 => ?_) (fun c_101 => ?_)
          · refine j_return G dX3_weighSet_131 ?_
            first
            | exact ⟨rfl, Ons.rf _ _, by rw [if_neg (fun z => by omega)]; exact h_B⟩
            | exact ⟨rfl, ((((Ons.rf (· = 191) _).up rfl).up rfl).up rfl).up rfl, by rw [if_pos ⟨h_ok, by omega, by omega⟩]; exact FdC.up⟩
          · refine j_iload G dX3_weighSet_104 rfl ?_
            refine j_if_eq G dX3_weighSet_106 (tgt := 131) (by decide) (by omega) (fun c_106 => ?_) (fun c_106 => ?_)
            · refine j_return G dX3_weighSet_131 ?_
              first
              | exact ⟨rfl, Ons.rf _ _, by rw [if_neg (fun z => by omega)]; exact h_B⟩
              | exact ⟨rfl, ((((Ons.rf (· = 191) _).up rfl).up rfl).up rfl).up rfl, by rw [if_pos ⟨h_ok, by omega, by omega⟩]; exact FdC.up⟩
            · first | refine j_aload_n G dX3_weighSet_109 rfl ?_ | refine j_aload_nN G dX3_weighSet_109 rfl ?_
              refine j_iload G dX3_weighSet_110 rfl ?_
              refine j_puti G fp_X3_18 dX3_weighSet_112 2 rfl (by first | assumption | rfl) (by rfl) (by omega) ?_
              first | refine j_aload_n G dX3_weighSet_115 rfl ?_ | refine j_aload_nN G dX3_weighSet_115 rfl ?_
              refine j_iload_n G dX3_weighSet_116 rfl ?_
              refine j_puti G fp_X3_22 dX3_weighSet_117 3 rfl (by first | assumption | rfl) (by rfl) (by omega) ?_
              first | refine j_aload_n G dX3_weighSet_120 rfl ?_ | refine j_aload_nN G dX3_weighSet_120 rfl ?_
              refine j_iload_n G dX3_weighSet_121 rfl ?_
              refine j_puti G fp_X3_25 dX3_weighSet_122 4 rfl (by first | assumption | rfl) (by rfl) (by omega) ?_
              first | refine j_aload_n G dX3_weighSet_125 rfl ?_ | refine j_aload_nN G dX3_weighSet_125 rfl ?_
              refine j_iload G dX3_weighSet_126 rfl ?_
              refine j_pc (p2 := 128) rfl ?_
              refine j_puti G fp_X3_28 dX3_weighSet_128 5 rfl (by first | assumption | rfl) (by rfl) (by omega) ?_
              refine j_return G dX3_weighSet_131 ?_
              first
              | exact ⟨rfl, Ons.rf _ _, by rw [if_neg (fun z => by omega)]; exact h_B⟩
              | exact ⟨rfl, ((((Ons.rf (· = 191) _).up rfl).up rfl).up rfl).up rfl, by rw [if_pos ⟨h_ok, by omega, by omega⟩]; exact FdC.up⟩
        · refine j_iload G dX3_weighSet_82 rfl ?_
          first | refine j_aload_n G dX3_weighSet_84 rfl ?_ | refine j_aload_nN G dX3_weighSet_84 rfl ?_
          refine j_geti G fl_X3_28 dX3_weighSet_85 5 rfl (by first | assumption | rfl) (by rfl) (fun r_85 => ?_)
          try simp (disch := omega) only [up_same, up_cell, up_idx, cpm_at, fil_at] at r_85 ⊢
          rw [h_B4]
          refine j_icmp_ge G dX3_weighSet_88 (tgt := 95) (by decide) (by omega) (by omega) (fun c_88 => ?_) (fun c_88 => ?_)
          · refine j_iconst G dX3_weighSet_95 ?_
            refine j_istore6 G dX3_weighSet_96 (by decide) rfl ?_
            refine j_iload G dX3_weighSet_98 rfl ?_
            refine j_iload_n G dX3_weighSet_100 rfl ?_
            refine j_icmp_gt G dX3_weighSet_101 (tgt := 131) (by decide) (by omega) (by omega) (fun c_101 => ?_) (fun c_101 => ?_)
            · refine j_return G dX3_weighSet_131 ?_
              first
              | exact ⟨rfl, Ons.rf _ _, by rw [if_neg (fun z => by omega)]; exact h_B⟩
              | exact ⟨rfl, ((((Ons.rf (· = 191) _).up rfl).up rfl).up rfl).up rfl, by rw [if_pos ⟨h_ok, by omega, by omega⟩]; exact FdC.up⟩
            · refine j_iload G dX3_weighSet_104 rfl ?_
              refine j_if_eq G dX3_weighSet_106 (tgt := 131) (by decide) (by omega) (fun c_106 => ?_) (fun c_106 => ?_)
              · refine j_return G dX3_weighSet_131 ?_
                first
                | exact ⟨rfl, Ons.rf _ _, by rw [if_neg (fun z => by omega)]; exact h_B⟩
                | exact ⟨rfl, ((((Ons.rf (· = 191) _).up rfl).up rfl).up rfl).up rfl, by rw [if_pos ⟨h_ok, by omega, by omega⟩]; exact FdC.up⟩
              · first | refine j_aload_n G dX3_weighSet_109 rfl ?_ | refine j_aload_nN G dX3_weighSet_109 rfl ?_
                refine j_iload G dX3_weighSet_110 rfl ?_
                refine j_puti G fp_X3_18 dX3_weighSet_112 2 rfl (by first | assumption | rfl) (by rfl) (by omega) ?_
                first | refine j_aload_n G dX3_weighSet_115 rfl ?_ | refine j_aload_nN G dX3_weighSet_115 rfl ?_
                refine j_iload_n G dX3_weighSet_116 rfl ?_
                refine j_puti G fp_X3_22 dX3_weighSet_117 3 rfl (by first | assumption | rfl) (by rfl) (by omega) ?_
                first | refine j_aload_n G dX3_weighSet_120 rfl ?_ | refine j_aload_nN G dX3_weighSet_120 rfl ?_
                refine j_iload_n G dX3_weighSet_121 rfl ?_
                refine j_puti G fp_X3_25 dX3_weighSet_122 4 rfl (by first | assumption | rfl) (by rfl) (by omega) ?_
                first | refine j_aload_n G dX3_weighSet_125 rfl ?_ | refine j_aload_nN G dX3_weighSet_125 rfl ?_
                refine j_iload G dX3_weighSet_126 rfl ?_
                refine j_pc (p2 := 128) rfl ?_
                refine j_puti G fp_X3_28 dX3_weighSet_128 5 rfl (by first | assumption | rfl) (by rfl) (by omega) ?_
                refine j_return G dX3_weighSet_131 ?_
                first
                | exact ⟨rfl, Ons.rf _ _, by rw [if_neg (fun z => by omega)]; exact h_B⟩
                | exact ⟨rfl, ((((Ons.rf (· = 191) _).up rfl).up rfl).up rfl).up rfl, by rw [if_pos ⟨h_ok, by omega, by omega⟩]; exact FdC.up⟩
          · refine j_iconst G dX3_weighSet_91 ?_
            refine j_goto G dX3_weighSet_92 (tgt := 96) (by decide) ?_
            refine j_istore6 G dX3_weighSet_96 (by decide) rfl ?_
            refine j_iload G dX3_weighSet_98 rfl ?_
            refine j_iload_n G dX3_weighSet_100 rfl ?_
            refine j_icmp_gt G dX3_weighSet_101 (tgt := 131) (by decide) (by omega) (by omega) (fun c_101 => ?_) (fun c_101 => ?_)
            · refine j_return G dX3_weighSet_131 ?_
              first
              | exact ⟨rfl, Ons.rf _ _, by rw [if_neg (fun z => by omega)]; exact h_B⟩
              | exact ⟨rfl, ((((Ons.rf (· = 191) _).up rfl).up rfl).up rfl).up rfl, by rw [if_pos ⟨h_ok, by omega, by omega⟩]; exact FdC.up⟩
            · refine j_iload G dX3_weighSet_104 rfl ?_
              refine j_if_eq G dX3_weighSet_106 (tgt := 131) (by decide) (by omega) (fun c_106 => ?_) (fun c_106 => ?_)
              · refine j_return G dX3_weighSet_131 ?_
                first
                | exact ⟨rfl, Ons.rf _ _, by rw [if_neg (fun z => by omega)]; exact h_B⟩
                | exact ⟨rfl, ((((Ons.rf (· = 191) _).up rfl).up rfl).up rfl).up rfl, by rw [if_pos ⟨h_ok, by omega, by omega⟩]; exact FdC.up⟩
              · first | refine j_aload_n G dX3_weighSet_109 rfl ?_ | refine j_aload_nN G dX3_weighSet_109 rfl ?_
                refine j_iload G dX3_weighSet_110 rfl ?_
                refine j_puti G fp_X3_18 dX3_weighSet_112 2 rfl (by first | assumption | rfl) (by rfl) (by omega) ?_
                first | refine j_aload_n G dX3_weighSet_115 rfl ?_ | refine j_aload_nN G dX3_weighSet_115 rfl ?_
                refine j_iload_n G dX3_weighSet_116 rfl ?_
                refine j_puti G fp_X3_22 dX3_weighSet_117 3 rfl (by first | assumption | rfl) (by rfl) (by omega) ?_
                first | refine j_aload_n G dX3_weighSet_120 rfl ?_ | refine j_aload_nN G dX3_weighSet_120 rfl ?_
                refine j_iload_n G dX3_weighSet_121 rfl ?_
                refine j_puti G fp_X3_25 dX3_weighSet_122 4 rfl (by first | assumption | rfl) (by rfl) (by omega) ?_
                first | refine j_aload_n G dX3_weighSet_125 rfl ?_ | refine j_aload_nN G dX3_weighSet_125 rfl ?_
                refine j_iload G dX3_weighSet_126 rfl ?_
                refine j_pc (p2 := 128) rfl ?_
                refine j_puti G fp_X3_28 dX3_weighSet_128 5 rfl (by first | assumption | rfl) (by rfl) (by omega) ?_
                refine j_return G dX3_weighSet_131 ?_
                first
                | exact ⟨rfl, Ons.rf _ _, by rw [if_neg (fun z => by omega)]; exact h_B⟩
                | exact ⟨rfl, ((((Ons.rf (· = 191) _).up rfl).up rfl).up rfl).up rfl, by rw [if_pos ⟨h_ok, by omega, by omega⟩]; exact FdC.up⟩
  · refine j_iload_n G dX3_weighSet_16 rfl ?_
    refine j_iload G dX3_weighSet_17 rfl ?_
    refine j_ishr G dX3_weighSet_19 ?_
    refine j_iconst G dX3_weighSet_20 ?_
    refine j_iand G dX3_weighSet_21 ?_
    rw [h_b32]
    refine j_iconst G dX3_weighSet_22 ?_
    refine j_icmp_ne G dX3_weighSet_23 (tgt := 50) (by decide) (by omega) (by omega) (fun c_23 => ?_) (fun c_23 => ?_)
    · refine j_iinc6 G dX3_weighSet_50 (by decide) rfl rfl ?_
      refine j_goto G dX3_weighSet_53 (tgt := 9) (by decide) ?_
      refine j_pc (p2 := 9) rfl ?_
      have h_z := ih (by omega)
      rw [show fsum gn set (i + 1) = fsum gn set i + (if set.testBit i = true then gn i else 0) from rfl, show fsum pg set (i + 1) = fsum pg set i + (if set.testBit i = true then pg i else 0) from rfl] at h_z
      first
      | (rw [if_pos h_t, if_pos h_t] at h_z; exact h_z)
      | (have h_t : ¬ set.testBit i = true := fun z => by rw [b2_t z] at c_23; omega
         rw [if_neg h_t, if_neg h_t, Int.add_zero, Int.add_zero] at h_z
         exact h_z)
    · have h_t : set.testBit i = true := Decidable.byContradiction (fun z => by rw [b2_f z] at c_23; omega)
      have h_pj := h_pi (by omega) h_t
      have h_gj := h_gi (by omega)
      refine j_iload G dX3_weighSet_26 rfl ?_
      first | refine j_aload_n G dX3_weighSet_28 rfl ?_ | refine j_aload_nN G dX3_weighSet_28 rfl ?_
      refine j_getr G fl_X3_9 dX3_weighSet_29 (by first | assumption | rfl) (by rfl) ?_
      refine j_iload G dX3_weighSet_32 rfl ?_
      refine j_iaload G dX3_weighSet_34 (by first | assumption | rfl) (by omega) (fun r_34 => ?_)
      try simp (disch := omega) only [up_same, up_cell, up_idx, cpm_at, fil_at] at r_34 ⊢
      rw [h_gj.1]
      refine j_iadd G dX3_weighSet_35 ?_
      refine j_istore4 G dX3_weighSet_36 (by decide) rfl ?_
      refine j_iload G dX3_weighSet_38 rfl ?_
      first | refine j_aload_n G dX3_weighSet_40 rfl ?_ | refine j_aload_nN G dX3_weighSet_40 rfl ?_
      refine j_getr G fl_X3_15 dX3_weighSet_41 (by first | assumption | rfl) (by rfl) ?_
      refine j_iload G dX3_weighSet_44 rfl ?_
      refine j_pc (p2 := 46) rfl ?_
      refine j_iaload G dX3_weighSet_46 (by first | assumption | rfl) (by omega) (fun r_46 => ?_)
      try simp (disch := omega) only [up_same, up_cell, up_idx, cpm_at, fil_at] at r_46 ⊢
      rw [h_pj.1]
      refine j_iadd G dX3_weighSet_47 ?_
      refine j_istore5 G dX3_weighSet_48 (by decide) rfl ?_
      refine j_iinc6 G dX3_weighSet_50 (by decide) rfl rfl ?_
      refine j_goto G dX3_weighSet_53 (tgt := 9) (by decide) ?_
      refine j_pc (p2 := 9) rfl ?_
      have h_z := ih (by omega)
      rw [show fsum gn set (i + 1) = fsum gn set i + (if set.testBit i = true then gn i else 0) from rfl, show fsum pg set (i + 1) = fsum pg set i + (if set.testBit i = true then pg i else 0) from rfl] at h_z
      first
      | (rw [if_pos h_t, if_pos h_t] at h_z; exact h_z)
      | (have h_t : ¬ set.testBit i = true := fun z => by rw [b2_t z] at c_23; omega
         rw [if_neg h_t, if_neg h_t, Int.add_zero, Int.add_zero] at h_z
         exact h_z)
theorem c_fweigh (c : Nat) (coin : Int) (pg gn : Nat → Int) (B : FB) (h_c : c < 5) (h_k : 0 ≤ coin ∧ coin ≤ 1000) (h_B : FdC σ B) (h_p : ∀ b : Nat, b < 8 → σ 193 b = (if pg b < 0 then 268435456 else pg b) ∧ pg b ≤ 200000) (h_g : ∀ b : Nat, b < 8 → σ 192 b = gn b ∧ 0 ≤ gn b ∧ gn b ≤ 20) : CT (EC x) 1 yX3_weigh [rf (EC x) 191, iv c, iv coin] σ (fun r τ => r = none ∧ Ons (· = 191) σ τ ∧ FdC τ (foF c coin pg gn B 255)) := by
  have h_af := bo_lt (fun b => decide ((if pg b < 0 then 268435456 else pg b) ≤ coin)) 8
  have h_ab := fun j => bo_bit (fun b => decide ((if pg b < 0 then 268435456 else pg b) ≤ coin)) j 8
  have h_ac := c_affordable (x := x) (σ := σ) coin (fun b => if pg b < 0 then 268435456 else pg b) h_k (fun b h_b => (h_p b h_b).1)
  generalize bo (fun b => decide ((if pg b < 0 then 268435456 else pg b) ≤ coin)) 8 = A at h_af h_ab h_ac
  refine CT.ofJ (own := RX3) (cc := cX3_weigh) (n := 5) (ret := none) (by decide) rfl cw_X3_weigh (by decide) (Nat.le_of_ble_eq_true rfl) (ls := [some (rf (EC x) 191), some (iv c), some (iv coin), none, none]) rfl ?_
  intro X G
  first | refine j_aload_n G dX3_weigh_0 rfl ?_ | refine j_aload_nN G dX3_weigh_0 rfl ?_
  refine j_iload_n G dX3_weigh_1 rfl ?_
  refine j_callV G mv_X3_31 dX3_weigh_2 (h_ac) (by first | assumption | rfl) (by decide) (by rfl) rfl rfl (by exact Nat.le_of_ble_eq_true rfl) (by decide) (kI ?_)
  refine j_istore3 G dX3_weigh_5 (by decide) rfl ?_
  refine j_iconst G dX3_weigh_6 ?_
  refine j_istore4 G dX3_weigh_7 (by decide) rfl ?_
  refine j_pc (p2 := 9) rfl ?_
  refine j_weak (ls' := [some (rf (EC x) 191), some (iv c), some (iv coin), some (iv A), some (iv (((0 : Nat) : Int) + 1))]) ?_ ⟨rfl, rfl, rfl, rfl, rfl, trivial⟩
  refine down (Pr := fun m => ∀ τ : MemT, Ons (· = 191) σ τ → FdC τ (foF c coin pg gn B m) → JJ (EC x) X 1 (fun r τ => r = none ∧ Ons (· = 191) σ τ ∧ FdC τ (foF c coin pg gn B 255)) 5 9 [some (rf (EC x) 191), some (iv c), some (iv coin), some (iv A), some (iv ((m : Int) + 1))] [] τ) 255 ?_ 0 (Nat.zero_le _) σ (Ons.rf _ _) h_B
  intro m h_m ih τ h_o h_F
  have h_and : m < 255 → (and32 ((m : Int) + 1) (xor32 A (-1)) = 0 ↔ ∀ b, b < 8 → (m + 1).testBit b = true → A.testBit b = true) := fun h_1 => andn0 (s := m + 1) (by omega) h_af
  have h_rg := and_rg ((m : Int) + 1) (xor32 A (-1))
  refine j_iload G dX3_weigh_9 rfl ?_
  refine j_sipush G dX3_weigh_11 (by decide) ?_
  refine j_icmp_ge G dX3_weigh_14 (tgt := 40) (by decide) (by omega) (by omega) (fun c_14 => ?_) (fun c_14 => ?_)
  · refine j_return G dX3_weigh_40 ?_
    obtain rfl : m = 255 := by omega
    exact ⟨rfl, h_o, h_F⟩
  · have h_an := h_and (by omega)
    refine j_iload G dX3_weigh_17 rfl ?_
    refine j_iload_n G dX3_weigh_19 rfl ?_
    refine j_iconst G dX3_weigh_20 ?_
    refine j_ixor G dX3_weigh_21 ?_
    refine j_iand G dX3_weigh_22 ?_
    refine j_if_ne G dX3_weigh_23 (tgt := 34) (by decide) (by omega) (fun c_23 => ?_) (fun c_23 => ?_)
    · refine j_iinc4 G dX3_weigh_34 (by decide) rfl rfl ?_
      refine j_goto G dX3_weigh_37 (tgt := 9) (by decide) ?_
      refine j_pc (p2 := 9) rfl ?_
      first
      | exact ih (by omega) τ2 (h_o.tr h_t.1) h_t.2
      | (refine ih (by omega) τ h_o ?_
         rw [show foF c coin pg gn B (m + 1) = stF c coin pg gn (m + 1) (foF c coin pg gn B m) from rfl]
         unfold stF
         rw [if_neg (fun z => c_23 (h_an.2 (fun b h_1 h_2 => ?_)))]
         · exact h_F
         · have h_3 := okF_iff.1 z.1
           have h_4 := fsum_ge h_2 8 h_1 h_3
           have h_5 := h_3 b h_1 h_2
           have h_6 := z.2.1
           rw [h_ab b, decide_eq_true h_1, Bool.true_and]
           refine decide_eq_true ?_
           rw [if_neg (by omega)]
           omega)
    · have h_in : ∀ b : Nat, b < 8 → (m + 1).testBit b = true → 0 ≤ pg b ∧ pg b ≤ coin := fun b h_1 h_2 => by
        have h_3 := h_an.1 c_23 b h_1 h_2
        rw [h_ab b, Bool.and_eq_true] at h_3
        have h_4 := of_decide_eq_true h_3.2
        split at h_4 <;> omega
      first | refine j_aload_n G dX3_weigh_26 rfl ?_ | refine j_aload_nN G dX3_weigh_26 rfl ?_
      refine j_iload_n G dX3_weigh_27 rfl ?_
      refine j_iload_n G dX3_weigh_28 rfl ?_
      refine j_iload G dX3_weigh_29 rfl ?_
      refine j_callV G mv_X3_35 dX3_weigh_31 (c_weighSet c (m + 1) coin pg gn _ h_c (by omega) h_k h_F (fun b h_1 h_2 => by
have h_3 := h_in b h_1 h_2
rw [h_o 193 (by decide), (h_p b h_1).1, if_neg (by omega)]
exact ⟨rfl, by omega, by omega⟩) (fun b h_1 => by rw [h_o 192 (by decide)]; exact h_g b h_1)) (by first | assumption | rfl) (by decide) (by rfl) rfl rfl (by exact Nat.le_of_ble_eq_true rfl) (by decide) (kM (fun τ2 h_t => ?_))
      refine j_iinc4 G dX3_weigh_34 (by decide) rfl rfl ?_
      refine j_goto G dX3_weigh_37 (tgt := 9) (by decide) ?_
      refine j_pc (p2 := 9) rfl ?_
      first
      | exact ih (by omega) τ2 (h_o.tr h_t.1) h_t.2
      | (refine ih (by omega) τ h_o ?_
         rw [show foF c coin pg gn B (m + 1) = stF c coin pg gn (m + 1) (foF c coin pg gn B m) from rfl]
         unfold stF
         rw [if_neg (fun z => c_23 (h_an.2 (fun b h_1 h_2 => ?_)))]
         · exact h_F
         · have h_3 := okF_iff.1 z.1
           have h_4 := fsum_ge h_2 8 h_1 h_3
           have h_5 := h_3 b h_1 h_2
           have h_6 := z.2.1
           rw [h_ab b, decide_eq_true h_1, Bool.true_and]
           refine decide_eq_true ?_
           rw [if_neg (by omega)]
           omega)
end FU2
def gnI (σ : MemT) (c b i : Nat) : Int := if 0 < σ (79 + 2 * i) c ∧ ¬ (rdS σ i (σ (78 + 2 * i) 1).toNat).testBit b = true then 1 else 0
def gnS (σ : MemT) (c m b : Nat) : Int := sm (gnI σ c b) m
theorem gnS_rg (σ : MemT) (c m b : Nat) : 0 ≤ gnS σ c m b ∧ gnS σ c m b ≤ m := by
  have := sm_rg (g := gnI σ c b) (a := 0) (b := 1) m (fun i _ => by unfold gnI; split <;> omega)
  unfold gnS
  omega
theorem rdS_on {σ τ : MemT} {r s : Nat} (h_1 : τ (79 + 2 * r) = σ (79 + 2 * r)) (h_2 : ∀ b, b < 8 → τ (121 + 12 * s + b) = σ (121 + 12 * s + b)) : rdS τ r s = rdS σ r s := bo_cg 8 (fun b h_b => by rw [h_1, h_2 b h_b])
section FU3
variable {E : EE} {x x1 x2 : CX} {μ σ : MemT}
theorem c_hopeFrom (c m : Nat) (h_c : c < 5) (h_m : σ 0 8 = m) (h_20 : m ≤ 20) (h_w : WfRd σ) : CT (EC x) 3 yX11_hopeFrom [rf (EC x) 0, iv c] σ (rP (fun z τ => Ons (· = 192) σ τ ∧ z = b2 (anyB (fun i => decide (0 < σ (79 + 2 * i) c)) m = true) ∧ ∀ b : Nat, b < 8 → τ 192 b = gnS σ c m b)) := by
  refine CT.ofJ (own := RX11) (cc := cX11_hopeFrom) (n := 7) (ret := (some .boolean)) (by decide) rfl cw_X11_hopeFrom (by decide) (Nat.le_of_ble_eq_true rfl) (ls := [some (rf (EC x) 0), some (iv c), none, none, none, none, none]) rfl ?_
  intro X G
  first | refine j_aload_n G dX11_hopeFrom_0 rfl ?_ | refine j_aload_nN G dX11_hopeFrom_0 rfl ?_
  refine j_getr G fl_X11_75 dX11_hopeFrom_1 (by first | assumption | rfl) (by rfl) ?_
  refine j_getr G fl_X11_328 dX11_hopeFrom_4 (by first | assumption | rfl) (by rfl) ?_
  refine j_iconst G dX11_hopeFrom_7 ?_
  refine j_callS G ms_X11_331 dX11_hopeFrom_8 (x_fill 192 8 0 (by decide) rfl (by decide)) rfl rfl (by exact Nat.le_of_ble_eq_true rfl) (by decide) (kN ?_)
  refine j_iconst G dX11_hopeFrom_11 ?_
  refine j_istore2 G dX11_hopeFrom_12 (by decide) rfl ?_
  refine j_iconst G dX11_hopeFrom_13 ?_
  refine j_istore3 G dX11_hopeFrom_14 (by decide) rfl ?_
  refine j_pc (p2 := 15) rfl ?_
  refine j_weak (ls' := [some (rf (EC x) 0), some (iv c), some (iv (b2 (anyB (fun i => decide (0 < σ (79 + 2 * i) c)) 0 = true))), some (iv ((0 : Nat) : Int)), none, none, none]) ?_ ⟨rfl, rfl, rfl, rfl, trivial⟩
  refine down (Pr := fun i => ∀ τ : MemT, Ons (· = 192) σ τ → (∀ b : Nat, b < 8 → τ 192 b = gnS σ c i b) → JJ (EC x) X 3 (rP (fun z τ => Ons (· = 192) σ τ ∧ z = b2 (anyB (fun i => decide (0 < σ (79 + 2 * i) c)) m = true) ∧ ∀ b : Nat, b < 8 → τ 192 b = gnS σ c m b)) 7 15 [some (rf (EC x) 0), some (iv c), some (iv (b2 (anyB (fun i => decide (0 < σ (79 + 2 * i) c)) i = true))), some (iv i), none, none, none] [] τ) m ?_ 0 (Nat.zero_le _) _ (fun j h_j => fil_cell h_j) (fun b h_b => fil_in (by omega))
  intro i h_i ih τ h_o h_v
  refine j_iload_n G dX11_hopeFrom_15 rfl ?_
  first | refine j_aload_n G dX11_hopeFrom_16 rfl ?_ | refine j_aload_nN G dX11_hopeFrom_16 rfl ?_
  refine j_geti G fl_X11_61 dX11_hopeFrom_17 8 rfl (by first | assumption | rfl) (by rfl) (fun r_17 => ?_)
  try simp (disch := omega) only [up_same, up_cell, up_idx, cpm_at, fil_at] at r_17 ⊢
  rw [h_o 0 (by decide), h_m]
  refine j_icmp_ge G dX11_hopeFrom_20 (tgt := 95) (by decide) (by omega) (by omega) (fun c_20 => ?_) (fun c_20 => ?_)
  · refine j_iload_n G dX11_hopeFrom_95 rfl ?_
    refine j_zreturn G dX11_hopeFrom_96 (by first | exact b2_01 _ | omega) ?_
    obtain rfl : i = m := by omega
    exact ⟨_, rfl, h_o, rfl, h_v⟩
  · obtain ⟨h_y1, h_y2, h_y3⟩ := ly_reader (x := x) (r := i) (by omega)
    obtain ⟨h_a1, h_a2, h_a3, h_a4⟩ := h_w.2 i (by omega)
    obtain ⟨s, h_s5, h_se⟩ := nat_of (n := 5) h_a2
    first | refine j_aload_n G dX11_hopeFrom_23 rfl ?_ | refine j_aload_nN G dX11_hopeFrom_23 rfl ?_
    refine j_getr G fl_X11_56 dX11_hopeFrom_24 (by first | assumption | rfl) (by rfl) ?_
    refine j_iload_n G dX11_hopeFrom_27 rfl ?_
    refine j_aaload G dX11_hopeFrom_28 (by first | assumption | rfl) (by decide) (by omega) h_y1 ?_
    first | refine j_astore4 G dX11_hopeFrom_29 (by decide) rfl ?_ | refine j_astoreN4 G dX11_hopeFrom_29 (by decide) rfl ?_
    first | refine j_aload G dX11_hopeFrom_31 rfl ?_ | refine j_aloadN G dX11_hopeFrom_31 rfl ?_
    refine j_getr G fl_X11_214 dX11_hopeFrom_33 (by first | assumption | rfl) (by rfl) ?_
    refine j_iload_n G dX11_hopeFrom_36 rfl ?_
    refine j_iaload G dX11_hopeFrom_37 (by first | assumption | rfl) (by omega) (fun r_37 => ?_)
    try simp (disch := omega) only [up_same, up_cell, up_idx, cpm_at, fil_at] at r_37 ⊢
    rw [h_o (79 + 2 * i) (by omega)] at *
    refine j_if_le G dX11_hopeFrom_38 (tgt := 89) (by decide) (by omega) (fun c_38 => ?_) (fun c_38 => ?_)
    · refine j_iinc3 G dX11_hopeFrom_89 (by decide) rfl rfl ?_
      refine j_goto G dX11_hopeFrom_92 (tgt := 15) (by decide) ?_
      refine j_pc (p2 := 15) rfl ?_
      refine j_weak (ls' := [some (rf (EC x) 0), some (iv c), some (iv (b2 (anyB (fun i => decide (0 < σ (79 + 2 * i) c)) (i + 1) = true))), some (iv ((i + 1 : Nat) : Int)), none, none, none]) (ih (by omega) _ h_o (fun d h_d => ?_)) ⟨rfl, rfl, ?_, rfl, trivial⟩
      · rw [h_v d h_d]
        show _ = gnS σ c i d + gnI σ c d i
        unfold gnI
        rw [if_neg (fun z => by omega), Int.add_zero]
      · rw [show anyB (fun i => decide (0 < σ (79 + 2 * i) c)) (i + 1) = anyB (fun i => decide (0 < σ (79 + 2 * i) c)) i from by
          rw [Bool.eq_iff_iff, anyB_iff, anyB_iff]
          refine ⟨fun ⟨j, h_1, h_2⟩ => ⟨j, ?_, h_2⟩, fun ⟨j, h_1, h_2⟩ => ⟨j, by omega, h_2⟩⟩
          have h_3 := of_decide_eq_true h_2
          by_cases h_e : j = i
          · subst h_e
            omega
          · omega]
    · first | refine j_aload_n G dX11_hopeFrom_41 rfl ?_ | refine j_aload_nN G dX11_hopeFrom_41 rfl ?_
      first | refine j_aload G dX11_hopeFrom_42 rfl ?_ | refine j_aloadN G dX11_hopeFrom_42 rfl ?_
      refine j_callV G mv_X11_244 dX11_hopeFrom_44 (c_readable i s (by omega) (by omega) (by rw [h_o (78 + 2 * i) (by omega)]; exact h_se)) (by first | assumption | rfl) (by decide) (by rfl) rfl rfl (by exact Nat.le_of_ble_eq_true rfl) (by decide) (kI ?_)
      rw [rdS_on (σ := σ) (h_o (79 + 2 * i) (by omega)) (fun b h_b => h_o (121 + 12 * s + b) (by omega))]
      have h_rl : rdS σ i s < 256 := bo_lt _ 8
      have h_gi : ∀ b, gnI σ c b i = 1 - b2 ((rdS σ i s).testBit b = true) := fun b => by
        unfold gnI
        rw [h_se, Int.toNat_natCast]
        by_cases h_1 : (rdS σ i s).testBit b = true
        · rw [if_neg (fun z => z.2 h_1), b2_t h_1]
          rfl
        · rw [if_pos ⟨c_38, h_1⟩, b2_f h_1]
          rfl
      refine j_istore5 G dX11_hopeFrom_47 (by decide) rfl ?_
      refine j_iconst G dX11_hopeFrom_49 ?_
      refine j_istore6 G dX11_hopeFrom_50 (by decide) rfl ?_
      refine j_pc (p2 := 52) rfl ?_
      refine j_weak (ls' := [some (rf (EC x) 0), some (iv c), none, some (iv i), none, some (iv (rdS σ i s)), some (iv ((0 : Nat) : Int))]) ?_ ⟨rfl, rfl, rfl, rfl, rfl, trivial⟩
      refine down (Pr := fun b => ∀ τ : MemT, Ons (· = 192) σ τ → (∀ d : Nat, d < 8 → τ 192 d = if d < b then gnS σ c (i + 1) d else gnS σ c i d) → JJ (EC x) X 3 (rP (fun z τ => Ons (· = 192) σ τ ∧ z = b2 (anyB (fun i => decide (0 < σ (79 + 2 * i) c)) m = true) ∧ ∀ b : Nat, b < 8 → τ 192 b = gnS σ c m b)) 7 52 [some (rf (EC x) 0), some (iv c), none, some (iv i), none, some (iv (rdS σ i s)), some (iv b)] [] τ) 8 ?_ 0 (Nat.zero_le _) τ h_o (fun d h_d => by rw [if_neg (by omega)]; exact h_v d h_d)
      intro b h_b ih2 τ h_o h_v
      have h_b32 := bit32 (a := rdS σ i s) (k := b) (by omega) (by omega)
      have h_01 := b2_01 ((rdS σ i s).testBit b = true)
      have h_gr := gnS_rg σ c i b
      have h_vb := h_v b
      refine j_iload G dX11_hopeFrom_52 rfl ?_
      refine j_bipush G dX11_hopeFrom_54 (by decide) ?_
      refine j_icmp_ge G dX11_hopeFrom_56 (tgt := 87) (by decide) (by omega) (by omega) (fun c_56 => ?_) (fun c_56 => ?_)
      · refine j_iconst G dX11_hopeFrom_87 ?_
        refine j_istore2 G dX11_hopeFrom_88 (by decide) rfl ?_
        refine j_iinc3 G dX11_hopeFrom_89 (by decide) rfl rfl ?_
        refine j_goto G dX11_hopeFrom_92 (tgt := 15) (by decide) ?_
        refine j_pc (p2 := 15) rfl ?_
        obtain rfl : b = 8 := by omega
        refine j_weak (ls' := [some (rf (EC x) 0), some (iv c), some (iv (b2 (anyB (fun i => decide (0 < σ (79 + 2 * i) c)) (i + 1) = true))), some (iv ((i + 1 : Nat) : Int)), none, none, none]) (ih (by omega) _ h_o (fun d h_d => ?_)) ⟨rfl, rfl, ?_, rfl, trivial⟩
        · rw [h_v d h_d, if_pos h_d]
        · rw [show anyB (fun i => decide (0 < σ (79 + 2 * i) c)) (i + 1) = true from anyB_iff.2 ⟨i, by omega, decide_eq_true c_38⟩]
          rfl
      · first | refine j_aload_n G dX11_hopeFrom_59 rfl ?_ | refine j_aload_nN G dX11_hopeFrom_59 rfl ?_
        refine j_getr G fl_X11_75 dX11_hopeFrom_60 (by first | assumption | rfl) (by rfl) ?_
        refine j_getr G fl_X11_328 dX11_hopeFrom_63 (by first | assumption | rfl) (by rfl) ?_
        refine j_iload G dX11_hopeFrom_66 rfl ?_
        refine j_dup2 G dX11_hopeFrom_68 rfl rfl ?_
        refine j_iaload G dX11_hopeFrom_69 (by first | assumption | rfl) (by omega) (fun r_69 => ?_)
        try simp (disch := omega) only [up_same, up_cell, up_idx, cpm_at, fil_at] at r_69 ⊢
        rw [h_vb (by omega), if_neg (by omega)] at *
        refine j_iconst G dX11_hopeFrom_70 ?_
        refine j_iload G dX11_hopeFrom_71 rfl ?_
        refine j_iload G dX11_hopeFrom_73 rfl ?_
        refine j_ishr G dX11_hopeFrom_75 ?_
        refine j_iconst G dX11_hopeFrom_76 ?_
        refine j_pc (p2 := 77) rfl ?_
        refine j_iand G dX11_hopeFrom_77 ?_
        rw [h_b32]
        refine j_isub G dX11_hopeFrom_78 ?_
        refine j_iadd G dX11_hopeFrom_79 ?_
        refine j_iastore G dX11_hopeFrom_80 (by first | assumption | rfl) (by omega) (by omega) ?_
        refine j_iinc6 G dX11_hopeFrom_81 (by decide) rfl rfl ?_
        refine j_goto G dX11_hopeFrom_84 (tgt := 52) (by decide) ?_
        refine j_pc (p2 := 52) rfl ?_
        refine ih2 (by omega) _ (h_o.up rfl) (fun d h_d => ?_)
        by_cases h_e : d = b
        · subst h_e
          rw [up_same, if_pos (by omega)]
          show _ = gnS σ c i d + gnI σ c d i
          rw [h_gi]
        · rw [up_idx (by omega), h_v d h_d]
          by_cases h_lt : d < b
          · rw [if_pos h_lt, if_pos (by omega)]
          · rw [if_neg h_lt, if_neg (by omega)]
theorem c_priceBooks (n : Nat) (cn : Nat → Nat → Int) (g : Nat → Int) (h_n : σ 57 3 = n) (h_30 : n ≤ 30) (h_cn : ∀ b, b < 8 → ∀ w : Nat, w < n → σ (61 + b) w = cn b w) (h_ca : ∀ b, b < 8 → ∀ w, w < n → 0 ≤ cn b w ∧ cn b w ≤ 1000) (h_g : ∀ w : Nat, w < n → σ 69 w = g w ∧ g w ≤ 268435456) (h_gv : ∀ w, w < n → ∃ m, m ≤ 10 ∧ wv m (g w)) : CT (EC x) 3 yX11_priceBooks [rf (EC x) 0] σ (fun r τ => r = none ∧ Ons (· = 193) σ τ ∧ ∀ b : Nat, b < 8 → τ 193 b = if prB (cn b) g n then (ceB (cn b) g n + 199) / 200 else 268435456) := by
  refine CT.ofJ (own := RX11) (cc := cX11_priceBooks) (n := 2) (ret := none) (by decide) rfl cw_X11_priceBooks (by decide) (Nat.le_of_ble_eq_true rfl) (ls := [some (rf (EC x) 0), none]) rfl ?_
  intro X G
  refine j_iconst G dX11_priceBooks_0 ?_
  refine j_istore1 G dX11_priceBooks_1 (by decide) rfl ?_
  refine j_pc (p2 := 2) rfl ?_
  refine down (Pr := fun i => ∀ τ : MemT, Ons (· = 193) σ τ → (∀ b : Nat, b < i → τ 193 b = if prB (cn b) g n then (ceB (cn b) g n + 199) / 200 else 268435456) → JJ (EC x) X 3 (fun r τ => r = none ∧ Ons (· = 193) σ τ ∧ ∀ b : Nat, b < 8 → τ 193 b = if prB (cn b) g n then (ceB (cn b) g n + 199) / 200 else 268435456) 2 2 [some (rf (EC x) 0), some (iv i)] [] τ) 8 ?_ 0 (Nat.zero_le _) σ (Ons.rf _ _) (fun b h_b => by omega)
  intro i h_i ih τ h_o h_v
  have h_go : i < 8 → ∀ z : Int, z = (if prB (cn i) g n then (ceB (cn i) g n + 199) / 200 else 268435456) → JJ (EC x) X 3 (fun r τ => r = none ∧ Ons (· = 193) σ τ ∧ ∀ b : Nat, b < 8 → τ 193 b = if prB (cn b) g n then (ceB (cn b) g n + 199) / 200 else 268435456) 2 2 [some (rf (EC x) 0), some (iv ((i + 1 : Nat) : Int))] [] (up τ 193 i z) := fun h_i8 z h_z => ih h_i8 _ (h_o.up rfl) (fun b h_b => by
    by_cases h_e : b = i
    · subst h_e
      rw [up_same]
      exact h_z
    · rw [up_idx (by omega)]
      exact h_v b (by omega))
  refine j_iload_n G dX11_priceBooks_2 rfl ?_
  refine j_bipush G dX11_priceBooks_3 (by decide) ?_
  refine j_icmp_ge G dX11_priceBooks_5 (tgt := 48) (by decide) (by omega) (by omega) (fun c_5 => ?_) (fun c_5 => ?_)
  · refine j_return G dX11_priceBooks_48 ?_
    obtain rfl : i = 8 := by omega
    exact ⟨rfl, h_o, h_v⟩
  · have h_tn : τ 57 3 = n := by rw [h_o 57 (by decide)]; exact h_n
    have h_tc : ∀ w : Nat, w < n → τ (61 + i) w = cn i w := fun w h => by rw [h_o (61 + i) (by omega)]; exact h_cn i (by omega) w h
    have h_tg : ∀ w : Nat, w < n → τ 69 w = g w ∧ g w ≤ 268435456 := fun w h => by rw [h_o 69 (by decide)]; exact h_g w h
    first | refine j_aload_n G dX11_priceBooks_8 rfl ?_ | refine j_aload_nN G dX11_priceBooks_8 rfl ?_
    refine j_getr G fl_X11_75 dX11_priceBooks_9 (by first | assumption | rfl) (by rfl) ?_
    refine j_getr G fl_X11_337 dX11_priceBooks_12 (by first | assumption | rfl) (by rfl) ?_
    refine j_iload_n G dX11_priceBooks_15 rfl ?_
    first | refine j_aload_n G dX11_priceBooks_16 rfl ?_ | refine j_aload_nN G dX11_priceBooks_16 rfl ?_
    refine j_getr G fl_X11_50 dX11_priceBooks_17 (by first | assumption | rfl) (by rfl) ?_
    refine j_iload_n G dX11_priceBooks_20 rfl ?_
    refine j_callV G mv_X11_174 dX11_priceBooks_21 (c_canPrint i n (cn i) g (by omega) h_tn h_30 h_tc h_tg) (by first | assumption | rfl) (by decide) (by rfl) rfl rfl (by exact Nat.le_of_ble_eq_true rfl) (by decide) (kI ?_)
    refine j_if_eqB G dX11_priceBooks_24 (tgt := 38) (by decide)  (fun c_24 => ?_) (fun c_24 => ?_)
    · refine j_ldcw G kc_X11_340 dX11_priceBooks_38 (z := 268435456) (by decide) ?_
      refine j_iastore G dX11_priceBooks_41 (by first | assumption | rfl) (by omega) (by omega) ?_
      refine j_iinc1 G dX11_priceBooks_42 (by decide) rfl rfl ?_
      refine j_goto G dX11_priceBooks_45 (tgt := 2) (by decide) ?_
      refine j_pc (p2 := 2) rfl ?_
      first
      | exact h_go (by omega) _ (by rw [if_pos c_24])
      | exact h_go (by omega) _ (by rw [if_neg c_24])
    · have h_bk := bko_of (Nat.le_refl n) (h_ca i (by omega)) h_gv (prB_iff.1 c_24)
      have h_cr := ceB_rg h_bk h_30 n (Nat.le_refl _)
      first | refine j_aload_n G dX11_priceBooks_27 rfl ?_ | refine j_aload_nN G dX11_priceBooks_27 rfl ?_
      refine j_getr G fl_X11_50 dX11_priceBooks_28 (by first | assumption | rfl) (by rfl) ?_
      refine j_iload_n G dX11_priceBooks_31 rfl ?_
      refine j_callV G mv_X11_184 dX11_priceBooks_32 (c_pagesOf i n (cn i) g (by omega) h_tn h_30 h_tc (fun w h => (h_tg w h).1) h_bk) (by first | assumption | rfl) (by decide) (by rfl) rfl rfl (by exact Nat.le_of_ble_eq_true rfl) (by decide) (kI ?_)
      refine j_goto G dX11_priceBooks_35 (tgt := 41) (by decide) ?_
      refine j_iastore G dX11_priceBooks_41 (by first | assumption | rfl) (by omega) (by omega) ?_
      refine j_iinc1 G dX11_priceBooks_42 (by decide) rfl rfl ?_
      refine j_goto G dX11_priceBooks_45 (tgt := 2) (by decide) ?_
      refine j_pc (p2 := 2) rfl ?_
      first
      | exact h_go (by omega) _ (by rw [if_pos c_24])
      | exact h_go (by omega) _ (by rw [if_neg c_24])
end FU3
