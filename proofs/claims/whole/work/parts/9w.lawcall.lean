section JLT
variable {Y : LX} {Q : State → Prop} {pc : Nat} {ls : List (Option Value)} {st : List Value} {σ μ : MemT}
theorem rmF : room_1.frames = 2048 ∧ room_1.locals = 84000 ∧ room_1.cells = 600000 ∧ room_1.slots = 7302250 := ⟨rfl, rfl, rfl, rfl⟩
theorem regC {x : CX} {q : Nat} (h : Reg (EC x) q) : x.2.2.2 ≤ q ∧ q < x.2.2.2 + 201 := h
theorem regM {x : CX} {q : Nat} (h : Reg (EM x) q) : x.2.2.2 ≤ q ∧ q < x.2.2.2 + 35 := h
theorem l_callC (G : GL Y) {idx na d2 : Nat} {y : MethodName} {As stk : List Value} {Pq : Pst} (hM : MV RL idx RX11 y na) (hd : decode cL_law pc = .ok (.invokevirtual idx, 3)) (hc : CT (EC Y.2.1) d2 y (rf (EC Y.2.1) 0 :: As) σ Pq) (hn : As.length = na) (hst : stk = As.reverse ++ rf (EC Y.2.1) 0 :: st) (hcat : (st.map fun v => v.category).sum ≤ 8) (hdd : d2 ≤ 19) (kk : ∀ r σ2, Pq r σ2 → JL Y Q (pc + 3) ls (r.toList ++ st) σ2 μ) : JL Y Q pc ls stk σ μ := by
  intro ho1 ho2 H locs la hP hP2 hS hl
  obtain ⟨g1, g2, g3, g4, hts, hK, g7, g8, g9, ⟨b1, b2, b3, b4, b5⟩, g11, g12⟩ := G
  obtain ⟨m1, m2, m3, m4, m5, m6, m7⟩ := hM
  obtain ⟨cc2, n2, ret2, c1, c2, c3⟩ := hc
  have hw := wd_of (E := EC Y.2.1) σ (k := 0) (q := (10, 12, [some 1, some 37, some 39, some 41, some 43, some 48, some 56, some 77, none, some 118, some 191, some 194])) rfl
  rw [en_obj (by decide)] at hw
  obtain ⟨r1, r2, r3, r4⟩ := rmF
  have hrun : va_Run Y.1.1 Y.2.1.1 Y.1.2.1 room_1 Y.1.2.2.1 Y.1.2.2.2.1 Y.1.2.2.2.2.1 Y.1.2.2.2.2.2.1 Y.1.2.2.2.2.2.2.1 Y.1.2.2.2.2.2.2.2 H locs Y.2.2.2.2.2.2.1 Y.2.2.2.2.2.2.2 0 0 (F0 Y.1.2.2.2.1 pc la stk) st (Qq (EC Y.2.1) Pq (Value.ref (eB (EC Y.2.1) + 0) :: As).toArray) (Reg (EC Y.2.1)) := by
    refine va_runV (As := As) (rest := st) (Ts := Tb) (C := RX11) (b := eB (EC Y.2.1) + 0) (n := na) ⟨g1, g2, g3, g4, hts⟩ c3 ⟨⟨rfl, rfl, ?_, ?_, pay_in hts (fun w hw => ?_), List.mem_cons_self, hts _ c1, hts _ (by rw [m5]; exact m4), m6, fun sig h => ?_, hts _ m1⟩, hts _ m2, hts _ m3⟩ ⟨Pp_blind _ _ _, va_recv hK hP (q := (RX11, TX11, 12)) rfl hw, fun U hU hW => ⟨rfl, ho1, by rw [hU]; exact hP, va_K.moved hW.alike hK⟩⟩ rfl hn hl.1 hst (lv_room hcat) hd ⟨by rw [r3]; omega, by rw [r4]; omega⟩
    · show d2 + 1 ≤ _
      rw [r1]; omega
    · show 8 + (n2 + 11) + 64 * d2 ≤ _
      rw [r2]; omega
    · rcases List.mem_cons.mp hw with h | h
      · exact ⟨h ▸ c1, Tb_good (h ▸ c1)⟩
      · exact ⟨h, Tb_good h⟩
    · rw [h] at m7
      exact (Option.some.inj m7).symm
  intro T hT Xs
  obtain ⟨v, st0, t, T', Lc, h0, X', hLc, e1, e2, ⟨⟨r, σ2, hv, hp, ho3, hP3, hK3⟩, hz, hk⟩, sg⟩ := hrun T hT Xs
  cases hv
  rw [h0] at hz hk
  have hA : va_P Y.2.1.2.1 vwCl (wd (EM Y.2.2.1) μ) T'.heap := hP2.kept (fun k x hx => by
    rw [e1]
    refine hk x.1 (hP2 k x hx).lt (fun z => ?_)
    have h1 := (wd_D (EM Y.2.2.1) μ).2 k x hx
    have h2 := regM h1
    have h3 := regC z
    omega)
  have hB : ∀ q : Nat, q < Y.1.2.2.1.heap.size → ¬ Y.1.2.2.1.heap.size ≤ q → T'.heap[q]? = Y.1.2.2.1.heap[q]? := fun q q1 q2 => by
    rw [e1, hk q (Nat.lt_of_lt_of_le q1 hS.1) (fun z => by have := regC z; omega)]
    exact hS.2.1 q q1 q2
  have hC : ∀ q ∈ locs ++ Lc, Y.1.2.2.1.heap.size ≤ q.base := fun q hq => by
    rcases List.mem_append.mp hq with h | h
    · exact hS.2.2 q h
    · have := regC (hLc q h)
      omega
  obtain ⟨t2, a1, a2⟩ := kk v σ2 hp ho3 ho2 T'.heap (locs ++ Lc) la (by rw [e1]; exact hP3) hA ⟨Nat.le_trans hS.1 (by rw [e1]; exact hz), hB, hC⟩ hl T' rfl X'
  exact ⟨t2, sg t2 a1, a2⟩
theorem l_callM (G : GL Y) {idx na d2 : Nat} {y : MethodName} {As stk : List Value} {Pq : Pst} (hM : MV RL idx RX12 y na) (hd : decode cL_law pc = .ok (.invokevirtual idx, 3)) (hc : CT (EM Y.2.2.1) d2 y (rf (EM Y.2.2.1) 0 :: As) μ Pq) (hn : As.length = na) (hst : stk = As.reverse ++ rf (EM Y.2.2.1) 0 :: st) (hcat : (st.map fun v => v.category).sum ≤ 8) (hdd : d2 ≤ 19) (kk : ∀ r μ2, Pq r μ2 → JL Y Q (pc + 3) ls (r.toList ++ st) σ μ2) : JL Y Q pc ls stk σ μ := by
  intro ho1 ho2 H locs la hP hP2 hS hl
  obtain ⟨g1, g2, g3, g4, hts, hK0, g7, g8, g9, ⟨b1, b2, b3, b4, b5⟩, g11, g12⟩ := G
  obtain ⟨m1, m2, m3, m4, m5, m6, m7⟩ := hM
  obtain ⟨cc2, n2, ret2, c1, c2, c3⟩ := hc
  have hK : va_K (eD (EM Y.2.2.1)) vwCl (tyl (EM Y.2.2.1)) Y.1.2.2.1 := by
    show va_K Y.2.2.1.2.1 vwCl (tyl (EM Y.2.2.1)) Y.1.2.2.1
    rw [b2, show tyl (EM Y.2.2.1) = tyl (EC Y.2.1) by unfold tyl eA EM EC; simp only [b3]]
    exact hK0
  have hP4 : va_P (eD (EM Y.2.2.1)) vwCl (wd (EM Y.2.2.1) μ) H := by
    show va_P Y.2.2.1.2.1 vwCl (wd (EM Y.2.2.1) μ) H
    rw [b2]
    exact hP2
  have hw := wd_of (E := EM Y.2.2.1) μ (k := 0) (q := LM[0]) rfl
  rw [show LM[0] = (11, 48, LM[0].2.2) from rfl, en_obj (by decide)] at hw
  obtain ⟨r1, r2, r3, r4⟩ := rmF
  have c3' : Met Y.2.1.1 y (Cond.code y cc2 n2 ret2 :: Tb) (rm d2) (Pp (EM Y.2.2.1) (rf (EM Y.2.2.1) 0 :: As) μ) (Qq (EM Y.2.2.1) Pq) 0 0 (Reg (EM Y.2.2.1)) := by
    rw [← b1]
    exact c3
  have hrun : va_Run Y.1.1 Y.2.1.1 Y.1.2.1 room_1 Y.1.2.2.1 Y.1.2.2.2.1 Y.1.2.2.2.2.1 Y.1.2.2.2.2.2.1 Y.1.2.2.2.2.2.2.1 Y.1.2.2.2.2.2.2.2 H locs Y.2.2.2.2.2.2.1 Y.2.2.2.2.2.2.2 0 0 (F0 Y.1.2.2.2.1 pc la stk) st (Qq (EM Y.2.2.1) Pq (Value.ref (eB (EM Y.2.2.1) + 0) :: As).toArray) (Reg (EM Y.2.2.1)) := by
    refine va_runV (As := As) (rest := st) (Ts := Tb) (C := RX12) (b := eB (EM Y.2.2.1) + 0) (n := na) ⟨g1, g2, g3, g4, hts⟩ c3' ⟨⟨rfl, rfl, ?_, ?_, pay_in hts (fun w hw => ?_), List.mem_cons_self, hts _ c1, hts _ (by rw [m5]; exact m4), m6, fun sig h => ?_, hts _ m1⟩, hts _ m2, hts _ m3⟩ ⟨Pp_blind _ _ _, va_recv hK hP4 (q := (RX12, TX12, 48)) rfl hw, fun U hU hW => ⟨rfl, ho2, by rw [hU]; exact hP4, va_K.moved hW.alike hK⟩⟩ rfl hn hl.1 hst (lv_room hcat) hd ⟨by rw [r3]; omega, by rw [r4]; omega⟩
    · show d2 + 1 ≤ _
      rw [r1]; omega
    · show 8 + (n2 + 11) + 64 * d2 ≤ _
      rw [r2]; omega
    · rcases List.mem_cons.mp hw with h | h
      · exact ⟨h ▸ c1, Tb_good (h ▸ c1)⟩
      · exact ⟨h, Tb_good h⟩
    · rw [h] at m7
      exact (Option.some.inj m7).symm
  intro T hT Xs
  obtain ⟨v, st0, t, T', Lc, h0, X', hLc, e1, e2, ⟨⟨r, μ2, hv, hp, ho3, hP3, hK3⟩, hz, hk⟩, sg⟩ := hrun T hT Xs
  cases hv
  rw [h0] at hz hk
  have hP5 : va_P Y.2.1.2.1 vwCl (wd (EM Y.2.2.1) μ2) T'.heap := by
    rw [e1, ← b2]
    exact hP3
  have hA : va_P Y.2.1.2.1 vwCl (wd (EC Y.2.1) σ) T'.heap := hP.kept (fun k x hx => by
    rw [e1]
    refine hk x.1 (hP k x hx).lt (fun z => ?_)
    have h1 := (wd_D (EC Y.2.1) σ).2 k x hx
    have h2 := regC h1
    have h3 := regM z
    omega)
  have hB : ∀ q : Nat, q < Y.1.2.2.1.heap.size → ¬ Y.1.2.2.1.heap.size ≤ q → T'.heap[q]? = Y.1.2.2.1.heap[q]? := fun q q1 q2 => by
    rw [e1, hk q (Nat.lt_of_lt_of_le q1 hS.1) (fun z => by have := regM z; omega)]
    exact hS.2.1 q q1 q2
  have hC : ∀ q ∈ locs ++ Lc, Y.1.2.2.1.heap.size ≤ q.base := fun q hq => by
    rcases List.mem_append.mp hq with h | h
    · exact hS.2.2 q h
    · have := regM (hLc q h)
      omega
  obtain ⟨t2, a1, a2⟩ := kk v μ2 hp ho1 ho3 T'.heap (locs ++ Lc) la hA hP5 ⟨Nat.le_trans hS.1 (by rw [e1]; exact hz), hB, hC⟩ hl T' rfl X'
  exact ⟨t2, sg t2 a1, a2⟩
/-- the switch -/
theorem l_swOut (G : GL Y) {x dflt lo hi : Int} {offs : Array Int} {len tgt : Nat} (hd : decode cL_law pc = .ok (.tableswitch dflt lo hi offs, len)) (hx : -2147483648 ≤ x ∧ x < 2147483648) (h : x < lo ∨ hi < x) (ht : (pc : Int) + dflt = (tgt : Int)) (k : JL Y Q tgt ls st σ μ) : JL Y Q pc ls (iv x :: st) σ μ :=
  l_go (fun _ _ _ _ _ w => lv_tableOut G.1 G.2.1 hd (by rw [ofI_toInt hx]; exact h) ht w) k
theorem l_swIn (G : GL Y) {x dflt lo hi off : Int} {offs : Array Int} {len tgt : Nat} (hd : decode cL_law pc = .ok (.tableswitch dflt lo hi offs, len)) (hx : -2147483648 ≤ x ∧ x < 2147483648) (h1 : lo ≤ x) (h2 : x ≤ hi) (ho : offs[(x - lo).toNat]? = some off) (ht : (pc : Int) + off = (tgt : Int)) (k : JL Y Q tgt ls st σ μ) : JL Y Q pc ls (iv x :: st) σ μ :=
  l_go (fun _ _ _ _ _ w => lv_tableIn G.1 G.2.1 hd (by rw [ofI_toInt hx]; omega) (by rw [ofI_toInt hx]; omega) (by rw [ofI_toInt hx]; exact ho) ht w) k
end JLT
