theorem lw_loop {Y : LX} {Q : State → Prop} (G : GL Y) (hend : ∀ (ls : List (Option Value)) (σ μ : MemT), JL Y Q 1244 ls [] σ μ) : ∀ (n i : Nat), Y.2.2.2.2.1 + 5 ≤ i + n → i ≤ 2600 → ∀ σ μ : MemT, Wf σ → Rel σ μ → JL Y Q 18 (lsL Y ((i : Nat) : Int)) [] σ μ := by
  intro n
  induction n with
  | zero =>
    intro i hn hi σ μ hW hR
    have hL := G.2.2.2.2.2.2.2.2.1
    refine l_iload G dL_law_18 rfl ?_
    refine l_aload G dL_law_19 rfl ?_
    refine l_len G dL_law_20 ?_
    refine l_iconst G dL_law_21 ?_
    refine l_isub G dL_law_22 ?_
    exact l_gt (tgt := 1244) G dL_law_23 (by decide) (by omega) (by omega) (fun _ => hend _ _ _) (fun h_1 => absurd h_1 (by omega))
  | succ n ih =>
    intro i hn hi σ μ hW hR
    have hL := G.2.2.2.2.2.2.2.2.1
    have kk : ((i : Nat) : Int) + 5 ≤ (Y.2.2.2.2.1 : Nat) → ∀ σ2 μ2, Wf σ2 → Rel σ2 μ2 → JL Y Q 1238 (lsL Y ((i : Nat) : Int)) [] σ2 μ2 := fun h_0 σ2 μ2 hW2 hR2 => by
      refine l_iinc (z := ((i : Nat) : Int)) (k := 5) (ls' := lsL Y (((i + 5 : Nat)) : Int)) G dL_law_1238 (by decide) rfl rfl rfl ?_
      refine l_goto (tgt := 18) G dL_law_1241 (by decide) ?_
      exact ih (i + 5) (by omega) (by omega) σ2 μ2 hW2 hR2
    refine l_iload G dL_law_18 rfl ?_
    refine l_aload G dL_law_19 rfl ?_
    refine l_len G dL_law_20 ?_
    refine l_iconst G dL_law_21 ?_
    refine l_isub G dL_law_22 ?_
    refine l_gt (tgt := 1244) G dL_law_23 (by decide) (by omega) (by omega) (fun _ => hend _ _ _) (fun h_1 => ?_)
    have hi2 : 0 ≤ ((i : Nat) : Int) ∧ ((i : Nat) : Int) + 5 ≤ (Y.2.2.2.2.1 : Nat) := ⟨by omega, by omega⟩
    have kk := kk hi2.2
    refine l_aload G dL_law_26 rfl ?_
    refine l_iload G dL_law_27 rfl ?_
    refine l_sld G (by omega) dL_law_28 ?_
    refine l_bipush G dL_law_29 (by decide) ?_
    refine l_iand G dL_law_31 ?_
    have hv : -2147483648 ≤ and32 (Y.2.2.2.2.2.1 ((i : Nat) : Int).toNat).toInt 63 ∧ and32 (Y.2.2.2.2.2.1 ((i : Nat) : Int).toNat).toInt 63 < 2147483648 := ofI_rng _
    generalize and32 (Y.2.2.2.2.2.1 ((i : Nat) : Int).toNat).toInt 63 = v at hv ⊢
    by_cases h_2 : v < 0 ∨ 33 < v
    · exact l_swOut (tgt := 1238) G dL_law_32 hv h_2 (by decide) (kk σ μ hW hR)
    · rcases (show v = 0 ∨ v = 1 ∨ v = 2 ∨ v = 3 ∨ v = 4 ∨ v = 5 ∨ v = 6 ∨ v = 7 ∨ v = 8 ∨ v = 9 ∨ v = 10 ∨ v = 11 ∨ v = 12 ∨ v = 13 ∨ v = 14 ∨ v = 15 ∨ v = 16 ∨ v = 17 ∨ v = 18 ∨ v = 19 ∨ v = 20 ∨ v = 21 ∨ v = 22 ∨ v = 23 ∨ v = 24 ∨ v = 25 ∨ v = 26 ∨ v = 27 ∨ v = 28 ∨ v = 29 ∨ v = 30 ∨ v = 31 ∨ v = 32 ∨ v = 33 by omega) with rfl | rfl | rfl | rfl | rfl | rfl | rfl | rfl | rfl | rfl | rfl | rfl | rfl | rfl | rfl | rfl | rfl | rfl | rfl | rfl | rfl | rfl | rfl | rfl | rfl | rfl | rfl | rfl | rfl | rfl | rfl | rfl | rfl | rfl
      · exact l_swIn (tgt := 184) (off := 152) G dL_law_32 hv (by decide) (by decide) rfl (by decide) (lc_letter G hi2 hW hR kk)
      · exact l_swIn (tgt := 227) (off := 195) G dL_law_32 hv (by decide) (by decide) rfl (by decide) (lc_say G hi2 hW hR kk)
      · exact l_swIn (tgt := 250) (off := 218) G dL_law_32 hv (by decide) (by decide) rfl (by decide) (lc_dot G hi2 hW hR kk)
      · exact l_swIn (tgt := 273) (off := 241) G dL_law_32 hv (by decide) (by decide) rfl (by decide) (lc_wipe G hi2 hW hR kk)
      · exact l_swIn (tgt := 296) (off := 264) G dL_law_32 hv (by decide) (by decide) rfl (by decide) (lc_abbreviate G hi2 hW hR kk)
      · exact l_swIn (tgt := 319) (off := 287) G dL_law_32 hv (by decide) (by decide) rfl (by decide) (lc_write G hi2 hW hR kk)
      · exact l_swIn (tgt := 352) (off := 320) G dL_law_32 hv (by decide) (by decide) rfl (by decide) (lc_read G hi2 hW hR kk)
      · exact l_swIn (tgt := 385) (off := 353) G dL_law_32 hv (by decide) (by decide) rfl (by decide) (lc_ways G hi2 hW hR kk)
      · exact l_swIn (tgt := 418) (off := 386) G dL_law_32 hv (by decide) (by decide) rfl (by decide) (lc_word G hi2 hW hR kk)
      · exact l_swIn (tgt := 431) (off := 399) G dL_law_32 hv (by decide) (by decide) rfl (by decide) (lc_count G hi2 hW hR kk)
      · exact l_swIn (tgt := 474) (off := 442) G dL_law_32 hv (by decide) (by decide) rfl (by decide) (lc_room G hi2 hW hR kk)
      · exact l_swIn (tgt := 517) (off := 485) G dL_law_32 hv (by decide) (by decide) rfl (by decide) (lc_row G hi2 hW hR kk)
      · exact l_swIn (tgt := 530) (off := 498) G dL_law_32 hv (by decide) (by decide) rfl (by decide) (lc_chosen G hi2 hW hR kk)
      · exact l_swIn (tgt := 583) (off := 551) G dL_law_32 hv (by decide) (by decide) rfl (by decide) (lc_reader G hi2 hW hR kk)
      · exact l_swIn (tgt := 642) (off := 610) G dL_law_32 hv (by decide) (by decide) rfl (by decide) (lc_know G hi2 hW hR kk)
      · exact l_swIn (tgt := 685) (off := 653) G dL_law_32 hv (by decide) (by decide) rfl (by decide) (lc_move G hi2 hW hR kk)
      · exact l_swIn (tgt := 718) (off := 686) G dL_law_32 hv (by decide) (by decide) rfl (by decide) (lc_about G hi2 hW hR kk)
      · exact l_swIn (tgt := 751) (off := 719) G dL_law_32 hv (by decide) (by decide) rfl (by decide) (lc_near G hi2 hW hR kk)
      · exact l_swIn (tgt := 784) (off := 752) G dL_law_32 hv (by decide) (by decide) rfl (by decide) (lc_pace G hi2 hW hR kk)
      · exact l_swIn (tgt := 817) (off := 785) G dL_law_32 hv (by decide) (by decide) rfl (by decide) (lc_learn G hi2 hW hR kk)
      · exact l_swIn (tgt := 850) (off := 818) G dL_law_32 hv (by decide) (by decide) rfl (by decide) (lc_shelf G hi2 hW hR kk)
      · exact l_swIn (tgt := 903) (off := 871) G dL_law_32 hv (by decide) (by decide) rfl (by decide) (lc_reads G hi2 hW hR kk)
      · exact l_swIn (tgt := 926) (off := 894) G dL_law_32 hv (by decide) (by decide) rfl (by decide) (lc_school G hi2 hW hR kk)
      · exact l_swIn (tgt := 959) (off := 927) G dL_law_32 hv (by decide) (by decide) rfl (by decide) (lc_fund G hi2 hW hR kk)
      · exact l_swIn (tgt := 992) (off := 960) G dL_law_32 hv (by decide) (by decide) rfl (by decide) (lc_sign G hi2 hW hR kk)
      · exact l_swIn (tgt := 1015) (off := 983) G dL_law_32 hv (by decide) (by decide) rfl (by decide) (lc_fault G hi2 hW hR kk)
      · exact l_swIn (tgt := 1028) (off := 996) G dL_law_32 hv (by decide) (by decide) rfl (by decide) (lc_board G hi2 hW hR kk)
      · exact l_swIn (tgt := 1051) (off := 1019) G dL_law_32 hv (by decide) (by decide) rfl (by decide) (lc_voters G hi2 hW hR kk)
      · exact l_swIn (tgt := 1074) (off := 1042) G dL_law_32 hv (by decide) (by decide) rfl (by decide) (lc_choice G hi2 hW hR kk)
      · exact l_swIn (tgt := 1123) (off := 1091) G dL_law_32 hv (by decide) (by decide) rfl (by decide) (lc_part G hi2 hW hR kk)
      · exact l_swIn (tgt := 1156) (off := 1124) G dL_law_32 hv (by decide) (by decide) rfl (by decide) (lc_mix G hi2 hW hR kk)
      · exact l_swIn (tgt := 1179) (off := 1147) G dL_law_32 hv (by decide) (by decide) rfl (by decide) (lc_anew G hi2 hW hR kk)
      · exact l_swIn (tgt := 1202) (off := 1170) G dL_law_32 hv (by decide) (by decide) rfl (by decide) (lc_best G hi2 hW hR kk)
      · exact l_swIn (tgt := 1215) (off := 1183) G dL_law_32 hv (by decide) (by decide) rfl (by decide) (lc_told G hi2 hW hR kk)
theorem it_X0 : Cond.instantiable RX0 9 ∈ Tb := Tb_mem 229 (by decide +kernel) (by decide +kernel)
theorem it_X1 : Cond.instantiable RX1 4 ∈ Tb := Tb_mem 99 (by decide +kernel) (by decide +kernel)
theorem it_X2 : Cond.instantiable RX2 5 ∈ Tb := Tb_mem 203 (by decide +kernel) (by decide +kernel)
theorem it_X3 : Cond.instantiable RX3 6 ∈ Tb := Tb_mem 313 (by decide +kernel) (by decide +kernel)
theorem it_X4 : Cond.instantiable RX4 9 ∈ Tb := Tb_mem 344 (by decide +kernel) (by decide +kernel)
theorem it_X5 : Cond.instantiable RX5 2 ∈ Tb := Tb_mem 162 (by decide +kernel) (by decide +kernel)
theorem it_X6 : Cond.instantiable RX6 4 ∈ Tb := Tb_mem 272 (by decide +kernel) (by decide +kernel)
theorem it_X8 : Cond.instantiable RX8 2 ∈ Tb := Tb_mem 295 (by decide +kernel) (by decide +kernel)
theorem it_X9 : Cond.instantiable RX9 4 ∈ Tb := Tb_mem 105 (by decide +kernel) (by decide +kernel)
theorem it_X10 : Cond.instantiable RX10 3 ∈ Tb := Tb_mem 184 (by decide +kernel) (by decide +kernel)
theorem it_X11 : Cond.instantiable RX11 12 ∈ Tb := Tb_mem 90 (by decide +kernel) (by decide +kernel)
theorem it_X12 : Cond.instantiable RX12 48 ∈ Tb := Tb_mem 918 (by decide +kernel) (by decide +kernel)
theorem ar_P {args : Array Value} {s : State} {ty : FieldType} (h : (Cond.arrayClass ty).before args s = true) : ∃ cA : ClassId, ArrOfT s cA ty ∧ s.vm.findClass ("[" ++ ty.toString) = some cA := by
  obtain ⟨cA, kA, comp, f1, f2, f3⟩ := Cond.arrayClass_spec h
  exact ⟨cA, fun N z => ⟨fun k h => (by cases h), kA, f2, comp, f3⟩, f1⟩
theorem ar_O {args : Array Value} {s : State} {C : String} (h : (Cond.arrayOver (.object C)).before args s = true) : ∃ cA : ClassId, ArrOfT s cA (.object C) ∧ va_RA s cA (.object C) := by
  obtain ⟨comp, cA, kA, f1, f2, f3, f4, f5⟩ := Cond.arrayOver_spec h
  exact ⟨cA, fun N z => ⟨fun k h => (by cases h), kA, f3, comp, f4⟩, kA, comp, f3, f4, f1, f5⟩
theorem ar_A {args : Array Value} {s : State} (h : (Cond.arrayOver (.array .int)).before args s = true) : ∃ cA : ClassId, ArrOfT s cA (.array .int) ∧ va_RA s cA (.array .int) := by
  obtain ⟨comp, cA, kA, f1, f2, f3, f4⟩ := Cond.arrayOver_specA h
  exact ⟨cA, fun N z => ⟨fun k h => (by cases h), kA, f2, comp, f3⟩, f4⟩
theorem nw_in : ∀ w ∈ NWL, w ∈ lw_tbl := by
  intro w hw
  have h : some w ∈ NWL.map some := List.mem_map.mpr ⟨w, hw, rfl⟩
  rw [show NWL.map some = [98, 271, 294, 237, 100, 185, 204, 273, 296, 314].map (fun i => lw_tbl[i]?) by decide +kernel] at h
  obtain ⟨i, -, hi⟩ := List.mem_map.mp h
  exact List.mem_of_getElem? hi
theorem nx_of {args : Array Value} {s : State} (hts : ∀ w ∈ lw_tbl, w.before args s = true) : NX s := by
  intro w hw
  have h0 := hts w (nw_in w hw)
  simp only [NWL, List.mem_cons, List.not_mem_nil, or_false] at hw
  rcases hw with e | e | e | e | e | e | e | e | e | e <;> subst e <;> first | exact ao_vm rfl h0 | exact va_Nw.of rfl h0
set_option maxHeartbeats 4000000 in
set_option maxRecDepth 100000 in
theorem kn_of {args : Array Value} {s : State} (hts : ∀ w ∈ lw_tbl, w.before args s = true) : ∃ (D : va_G) (A : Nat → ClassId), ∀ (l : Launch) (b : Nat), va_K D vwCl (tyl (EC (l, D, A, b))) s := by
  have hTb : ∀ w ∈ Tb, w.before args s = true := fun w h => hts w (List.mem_filter.mp h).1
  have hNX := nx_of hts
  obtain ⟨c0, i0, hK0⟩ := u_known (C := RX0) (T := TX0) (N := 9) (n := 9) hTb in_X0 (hTb _ it_X0)
  obtain ⟨c1, i1, hK1⟩ := u_known (C := RX1) (T := TX1) (N := 4) (n := 4) hTb in_X1 (hTb _ it_X1)
  obtain ⟨c2, i2, hK2⟩ := u_known (C := RX2) (T := TX2) (N := 5) (n := 5) hTb in_X2 (hTb _ it_X2)
  obtain ⟨c3, i3, hK3⟩ := u_known (C := RX3) (T := TX3) (N := 6) (n := 6) hTb in_X3 (hTb _ it_X3)
  obtain ⟨c4, i4, hK4⟩ := u_known (C := RX4) (T := TX4) (N := 9) (n := 9) hTb in_X4 (hTb _ it_X4)
  obtain ⟨c5, i5, hK5⟩ := u_known (C := RX5) (T := TX5) (N := 2) (n := 2) hTb in_X5 (hTb _ it_X5)
  obtain ⟨c6, i6, hK6⟩ := u_known (C := RX6) (T := TX6) (N := 4) (n := 4) hTb in_X6 (hTb _ it_X6)
  obtain ⟨c7, i7, hK7⟩ := u_known (C := RX8) (T := TX8) (N := 2) (n := 2) hTb in_X8 (hTb _ it_X8)
  obtain ⟨c8, i8, hK8⟩ := u_known (C := RX9) (T := TX9) (N := 4) (n := 4) hTb in_X9 (hTb _ it_X9)
  obtain ⟨c9, i9, hK9⟩ := u_known (C := RX10) (T := TX10) (N := 3) (n := 3) hTb in_X10 (hTb _ it_X10)
  obtain ⟨c10, i10, hK10⟩ := u_known (C := RX11) (T := TX11) (N := 12) (n := 12) hTb in_X11 (hTb _ it_X11)
  obtain ⟨c11, i11, hK11⟩ := u_known (C := RX12) (T := TX12) (N := 48) (n := 48) hTb in_X12 (hTb _ it_X12)
  obtain ⟨a20, p20, q20⟩ := ar_P (hTb _ aw_int)
  obtain ⟨a21, p21, q21⟩ := ar_P (hTb _ aw_long)
  obtain ⟨a22, p22, q22⟩ := ar_P (hTb _ aw_bool)
  obtain ⟨a24, p24, q24⟩ := ar_O (C := "DotWar$Code") (hNX _ (by simp [NWL]))
  obtain ⟨a25, p25, q25⟩ := ar_O (C := "DotWar$Reader") (hNX _ (by simp [NWL]))
  obtain ⟨a26, p26, q26⟩ := ar_O (C := "DotWar$School") (hNX _ (by simp [NWL]))
  obtain ⟨a27, p27, q27⟩ := ar_A (hNX _ (by simp [NWL]))
  refine ⟨(fun k => if k = 0 then c0 else if k = 1 then c1 else if k = 2 then c2 else if k = 3 then c3 else if k = 4 then c4 else if k = 5 then c5 else if k = 6 then c6 else if k = 7 then c7 else if k = 8 then c8 else if k = 9 then c9 else if k = 10 then c10 else c11, fun k => if k = 0 then i0 else if k = 1 then i1 else if k = 2 then i2 else if k = 3 then i3 else if k = 4 then i4 else if k = 5 then i5 else if k = 6 then i6 else if k = 7 then i7 else if k = 8 then i8 else if k = 9 then i9 else if k = 10 then i10 else i11), fun k => if k = 20 then a20 else if k = 21 then a21 else if k = 22 then a22 else if k = 24 then a24 else if k = 25 then a25 else if k = 26 then a26 else a27, fun l b => ⟨?_, ?_⟩⟩
  · intro k q hq
    match k, hq with
    | 0, hq => cases hq; exact hK0
    | 1, hq => cases hq; exact hK1
    | 2, hq => cases hq; exact hK2
    | 3, hq => cases hq; exact hK3
    | 4, hq => cases hq; exact hK4
    | 5, hq => cases hq; exact hK5
    | 6, hq => cases hq; exact hK6
    | 7, hq => cases hq; exact hK7
    | 8, hq => cases hq; exact hK8
    | 9, hq => cases hq; exact hK9
    | 10, hq => cases hq; exact hK10
    | 11, hq => cases hq; exact hK11
    | k + 12, hq => simp [vwCl] at hq
  · intro k q hq
    match k, hq with
    | 0, hq => cases hq; exact ⟨p20, q20⟩
    | 1, hq => cases hq; exact ⟨p21, q21⟩
    | 2, hq => cases hq; exact ⟨p22, q22⟩
    | 3, hq => cases hq; exact ⟨p24, q24⟩
    | 4, hq => cases hq; exact ⟨p25, q25⟩
    | 5, hq => cases hq; exact ⟨p26, q26⟩
    | 6, hq => cases hq; exact ⟨p27, q27⟩
    | k + 7, hq => simp [tyl] at hq
set_option maxHeartbeats 4000000 in
set_option maxRecDepth 100000 in
theorem whole_start {p : Program} {e : Env} {s : State} {m : MethodId} {below : List Frame} {meth : Method} {c : Code} (l : Launch) {b L : Nat} {xs : Nat → Int32} (hL : L ≤ 2560) (C0 : lw_At p s m meth c b L xs) : W p l e room_1 s m #[Value.ref b] below meth c s.heap [] 0 0 (lw_Z below #[Value.ref b] s) (entryFrame m ([Value.ref b] : List Value).toArray 4) := by
  obtain ⟨hx, hb, hr, hml, hown, hts, hX, hbl, hlocks, hgv⟩ := id C0
  have hTb : ∀ w ∈ Tb, w.before #[Value.ref b] s = true := fun w h => hts w (List.mem_filter.mp h).1
  have hNX := nx_of hts
  obtain ⟨D, A, hKK⟩ := kn_of hts
  have hK := hKK l s.heap.size
  have G : GN (EC (l, D, A, s.heap.size)) (p, e, s, m, #[Value.ref b], below, meth, c) R_law cL_law 4 := ⟨hx, hb, hml, hown, hTb, hK, hNX⟩
  have GY : GL ((p, e, s, m, #[Value.ref b], below, meth, c), (l, D, A, s.heap.size), (l, D, A, s.heap.size + 201), b, L, xs, 236, 18116) := ⟨hx, hb, hml, hown, hTb, hK, hX, hbl, hL, ⟨rfl, rfl, rfl, rfl, rfl⟩, by show 236 ≤ 600000; decide, by show 18116 ≤ 7302250; decide⟩
  have hend : ∀ (ls : List (Option Value)) (σ μ : MemT), JL ((p, e, s, m, #[Value.ref b], below, meth, c), (l, D, A, s.heap.size), (l, D, A, s.heap.size + 201), b, L, xs, 236, 18116) (lw_Z below #[Value.ref b] s) 1244 ls [] σ μ := fun ls σ μ => by
    refine l_iconst GY dL_law_1244 ?_
    intro _ _ H locs la hP hP2 hS hl
    refine va_forget (fun q hq => hS.2.2 q hq) ?_
    refine W.widen (k := 600000) (n := 7302250) (by show 236 ≤ 600000; decide) (by show 18116 ≤ 7302250; decide) ?_
    exact lw_ret hx hb hr hlocks dL_law_1245
  obtain ⟨XL, hXL⟩ : ∃ z, z = dwL (EC (l, D, A, s.heap.size)) s.heap.size := ⟨_, rfl⟩
  obtain ⟨ML, hML⟩ : ∃ z, z = dmL (EC (l, D, A, s.heap.size)) (s.heap.size + 201) := ⟨_, rfl⟩
  have hXn : XL.length = 201 := by rw [hXL, dwL_len]
  have hC1 := nX11_init (EC (l, D, A, s.heap.size)) s.heap.size
  have hC2 := nX12_init (EC (l, D, A, s.heap.size)) (s.heap.size + 201)
  rw [← hXL] at hC1
  rw [← hML] at hC2
  have key : JN (EC (l, D, A, s.heap.size)) (p, e, s, m, #[Value.ref b], below, meth, c) room_1 (lw_Z below #[Value.ref b] s) s.heap.size 4 0 [some (.ref b), none, none, none] [] [] 0 0 := by
    refine n_new (L := 0) (xs' := [.inr (10, [.null, .null, .null, .null, .null, .null, .null, .null, iv 0, .null, .null, .null])]) (c2 := 1) (s2 := 12) G no_L_7 dL_law_0 rfl rfl rfl rfl (by show 1 ≤ 600000; decide) (by show 12 ≤ 7302250; decide) ?_
    refine n_dup G dL_law_3 rfl ?_
    refine n_callC (L := 0) (xs0 := []) (As := []) (xs' := XL) (c2 := 201) (s2 := 10777) G (Or.inl mi_L_9) dL_law_4 hC1 rfl rfl rfl rfl (Nat.le_of_ble_eq_true rfl) (by show 4 ≤ 2048; decide) (by show 64 * 3 + 59 ≤ 84000; decide) rfl rfl (by show 201 ≤ 600000; decide) (by show 10777 ≤ 7302250; decide) rfl ?_
    refine n_astore_n (a := s.heap.size) (ls' := [some (.ref b), some (.ref s.heap.size), none, none]) G dL_law_7 (by decide) rfl rfl ?_
    refine n_new (L := 201) (xs' := XL ++ [.inr (11, [.null, .null, .null, .null, .null, .null, .null, iv 0, .null, iv 0, .null, iv 0, .null, .null, iv 0, .null, .null, .null, .null, .null, .null, .null, iv 0, .null, iv 0, iv 0, .null, .null, iv 0, .null, .null, .null, .null, iv 0, .null, iv 0, iv 0, iv 0, iv 0, .null, .null, .null, iv 0, .null, .null, .null, .null, .null])]) (c2 := 202) (s2 := 10825) G no_L_10 dL_law_8 hXn rfl rfl rfl (by show 202 ≤ 600000; decide) (by show 10825 ≤ 7302250; decide) ?_
    refine n_dup G dL_law_11 rfl ?_
    refine n_callC (L := 201) (xs0 := XL) (As := []) (xs' := XL ++ ML) (c2 := 236) (s2 := 18116) G (Or.inl mi_L_12) dL_law_12 hC2 rfl hXn rfl rfl (Nat.le_of_ble_eq_true rfl) (by show 2 ≤ 2048; decide) (by show 64 * 1 + 59 ≤ 84000; decide) rfl rfl (by show 236 ≤ 600000; decide) (by show 18116 ≤ 7302250; decide) rfl ?_
    refine n_astore_n (a := s.heap.size + 201) (ls' := [some (.ref b), some (.ref s.heap.size), some (.ref (s.heap.size + 201)), none]) G dL_law_15 (by decide) rfl rfl ?_
    refine n_iconst G dL_law_16 ?_
    refine n_istore_n (ls' := [some (.ref b), some (.ref s.heap.size), some (.ref (s.heap.size + 201)), some (iv 0)]) G dL_law_17 (by decide) rfl rfl ?_
    intro h1 h2 H locs la hP hS hl
    obtain ⟨hP1, hP2⟩ := mw_sub.mp hP
    rw [hXn] at hP2
    have hW1 : wd (EC (l, D, A, s.heap.size)) s0C = mw s.heap.size XL := by rw [wd_mw, hXL]; exact congrArg (mw s.heap.size) (lst_C (EC (l, D, A, s.heap.size))).symm
    have hW2 : wd (EM (l, D, A, s.heap.size + 201)) s0M = mw (s.heap.size + 201) ML := by rw [wd_mw, hML]; exact congrArg (mw (s.heap.size + 201)) (lst_M (EM (l, D, A, s.heap.size + 201))).symm
    refine lw_loop GY hend (L + 5) 0 (by show L + 5 ≤ 0 + (L + 5); omega) (by omega) s0C s0M wf_0 rel_0 (ok_C _) (ok_M _) H locs la ?_ ?_ hS hl
    · show va_P D vwCl (wd (EC (l, D, A, s.heap.size)) s0C) H
      rw [hW1]
      exact hP1
    · show va_P D vwCl (wd (EM (l, D, A, s.heap.size + 201)) s0M) H
      rw [hW2]
      exact hP2
  have hl := lh_entry ([.ref b]) (n := 4) (Nat.le_of_ble_eq_true rfl)
  rw [lg_entry_eq]
  exact key (Nat.le_refl _) rfl s.heap [] _ (fun k q h => by simp [mw] at h) va_S.rf hl
