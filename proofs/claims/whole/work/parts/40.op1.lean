section OP1
variable {x1 x2 : CX}
theorem nat_of {z : Int} {n : Nat} (h : 0 ≤ z ∧ z ≤ n) : ∃ c : Nat, c ≤ n ∧ z = c := ⟨z.toNat, by omega, by omega⟩
theorem op_letter (code l cell : Int) (h_1 : -2147483648 ≤ code ∧ code < 2147483648) (h_2 : -2147483648 ≤ l ∧ l < 2147483648) (h_3 : -2147483648 ≤ cell ∧ cell < 2147483648) : OP x1 x2 yX11_letter yX12_letter [iv code, iv l, iv cell] := by
  intro σ μ hw hr
  have h_m := m_letter (c := x2) (μ := μ) code l cell h_1 h_2 h_3
  by_cases h_c : 0 ≤ code ∧ code ≤ 4
  · obtain ⟨c, h_c5, rfl⟩ := nat_of (n := 4) h_c
    have h_k := c_letter (x := x1) (σ := σ) c (by omega) l cell h_2 h_3
    by_cases h_l : 0 ≤ l ∧ l ≤ 25
    · by_cases h_e : 0 ≤ cell ∧ cell ≤ 63
      · rw [if_neg (by omega), if_neg (by omega)] at h_k h_m
        obtain ⟨w1, w2, w3, w4, w5, w6, w7, w8⟩ := id hw
        obtain ⟨r1, r2, r3, r4, r5, r6, r7, r8⟩ := id hr
        refine ⟨_, up σ (3 + 7 * c) l cell, _, _, (by omega : 2 ≤ 19), (by omega : 2 ≤ 19), rI_P h_k ⟨rfl, KC.rf _⟩, rI_P h_m ⟨(r1 c (by omega)).1 l (by omega) (by omega), ?_⟩, ?_⟩
        · refine ⟨fun e h_e5 => ?_, r2.fr (fun j _ _ => up_fn (by omega)) ⟨up_fn (by omega), up_fn (by omega), up_fn (by omega)⟩ ⟨up_cell (by omega), up_cell (by omega), up_cell (by omega)⟩, r3.fr (fun j _ _ => up_fn (by omega)) (fun j _ _ => up_fn (by omega)) (up_cell (by omega)), r4.fr (fun j _ _ => up_fn (by omega)) (fun j _ _ => up_fn (by omega)) (up_cell (by omega)), r5.fr (up_cell (by omega)) (fun j _ _ => up_fn (by omega)) (fun j _ _ => up_fn (by omega)) (up_cell (by omega)), r6.fr (fun s b _ _ => up_fn (by omega)) (up_fn (by omega)), r7.fr (fun s _ => ⟨up_fn (by omega), up_fn (by omega)⟩) ⟨up_fn (by omega), up_fn (by omega)⟩, r8.fr (up_fn (by omega)) (up_fn (by omega))⟩
          obtain ⟨g1, g2, g3⟩ := r1 e h_e5
          unfold ReCode
          simp (disch := omega) only [up_fn]
          refine ⟨fun l2 h_l0 h_l1 => ?_, g2, g3⟩
          by_cases h_q : e = c ∧ l2 = l
          · obtain ⟨rfl, rfl⟩ := h_q
            rw [up_same, up_same]
          · rw [up_idx (by omega), g1 l2 h_l0 h_l1]
            by_cases h_ec : e = c
            · subst h_ec
              rw [up_idx (by omega)]
            · rw [up_cell (by omega)]
        · refine ⟨fun e h_e5 => ?_, w2.fr (fun j _ _ => up_fn (by omega)), w3.fr (fun j _ _ => up_fn (by omega)), w4.fr (fun j _ _ => up_fn (by omega)), w5.fr (up_cell (by omega)) (fun j _ _ => up_fn (by omega)), w6.fr (fun s b _ _ => up_fn (by omega)), w7.fr (fun s _ => ⟨up_fn (by omega), up_fn (by omega)⟩), w8.fr (up_fn (by omega))⟩
          obtain ⟨g1, g2⟩ := w1 e h_e5
          unfold WfCode
          simp (disch := omega) only [up_fn]
          refine ⟨fun l2 h_l0 h_l1 => ?_, g2⟩
          unfold up
          split
          · omega
          · exact g1 l2 h_l0 h_l1
      · rw [if_neg (by omega), if_pos (by omega)] at h_k h_m
        exact ⟨_, σ, _, _, (by omega : 2 ≤ 19), (by omega : 2 ≤ 19), rI_P h_k ⟨rfl, KC.rf _⟩, rI_P h_m ⟨rfl, hr⟩, hw⟩
    · rw [if_pos (by omega)] at h_k h_m
      exact ⟨_, σ, _, _, (by omega : 2 ≤ 19), (by omega : 2 ≤ 19), rI_P h_k ⟨rfl, KC.rf _⟩, rI_P h_m ⟨rfl, hr⟩, hw⟩
  · have h_k := c_letterN (x := x1) (σ := σ) code l cell h_1 h_c
    rw [if_pos (by omega)] at h_m
    exact ⟨_, σ, _, _, (by omega : 2 ≤ 19), (by omega : 2 ≤ 19), rI_P h_k ⟨rfl, KC.rf _⟩, rI_P h_m ⟨rfl, hr⟩, hw⟩
theorem op_say (l : Int) (h_1 : (-2147483648 ≤ l ∧ l < 2147483648)) : OP x1 x2 yX11_say yX12_say [iv l] := by
  intro σ μ hw hr
  obtain ⟨w1, w2, w3, w4, w5, w6, w7, w8⟩ := id hw
  obtain ⟨r1, r2, r3, r4, r5, r6, r7, r8⟩ := id hr
  obtain ⟨p1, p2, p3, p4, p5, p6⟩ := id w2
  obtain ⟨q1, q2, q3, q4, q5, q6⟩ := id r2
  have h_k := c_say (x := x1) (σ := σ) l h_1 p1
  have h_m := m_say (x := x2) (μ := μ) l h_1 (by omega)
  rw [q1] at h_m
  by_cases h_l : 0 ≤ l ∧ l ≤ 25
  · by_cases h_f : 10 ≤ σ 37 1
    · rw [if_neg (by omega), if_pos (by omega)] at h_k h_m
      exact ⟨_, σ, _, _, (by decide), (by decide), rI_P h_k ⟨rfl, KC.rf _⟩, rI_P h_m ⟨rfl, hr⟩, hw⟩
    · rw [if_neg (by omega), if_neg (by omega)] at h_k h_m
      refine ⟨_, _, _, _, (by decide), (by decide), rI_P h_k ⟨rfl, KC.rf _⟩, rI_P h_m ⟨rfl, ?_⟩, ?_⟩
      · refine ⟨(fun e h_e5 => (r1 e h_e5).fr h_e5 (fun j _ _ => by simp (disch := omega) only [up_fn, cpm_cell, fil_cell]) (fun j _ _ => by simp (disch := omega) only [up_fn, cpm_cell, fil_cell])), ?_, r3.fr (fun j _ _ => by simp (disch := omega) only [up_fn, cpm_cell, fil_cell]) (fun j _ _ => by simp (disch := omega) only [up_fn, cpm_cell, fil_cell]) (by simp (disch := omega) only [up_cell, up_idx, up_same, cpm_at, fil_at]), r4.fr (fun j _ _ => by simp (disch := omega) only [up_fn, cpm_cell, fil_cell]) (fun j _ _ => by simp (disch := omega) only [up_fn, cpm_cell, fil_cell]) (by simp (disch := omega) only [up_cell, up_idx, up_same, cpm_at, fil_at]), r5.fr (by simp (disch := omega) only [up_cell, up_idx, up_same, cpm_at, fil_at]) (fun j _ _ => by simp (disch := omega) only [up_fn, cpm_cell, fil_cell]) (fun j _ _ => by simp (disch := omega) only [up_fn, cpm_cell, fil_cell]) (by simp (disch := omega) only [up_cell, up_idx, up_same, cpm_at, fil_at]), r6.fr (fun s b _ _ => by simp (disch := omega) only [up_fn, cpm_cell, fil_cell]) (by simp (disch := omega) only [up_fn, cpm_cell, fil_cell]), r7.fr (fun s _ => ⟨by simp (disch := omega) only [up_fn, cpm_cell, fil_cell], by simp (disch := omega) only [up_fn, cpm_cell, fil_cell]⟩) ⟨by simp (disch := omega) only [up_fn, cpm_cell, fil_cell], by simp (disch := omega) only [up_fn, cpm_cell, fil_cell]⟩, r8.fr (by simp (disch := omega) only [up_fn, cpm_cell, fil_cell]) (by simp (disch := omega) only [up_fn, cpm_cell, fil_cell])⟩
        unfold RePad
        simp (disch := omega) only [up_fn, up_cell, up_idx, up_same]
        refine ⟨trivial, fun i h_i0 h_i1 => ?_, q3, q4, q5, q6⟩
        by_cases h_e : i = σ 37 1
        · subst h_e
          rw [up_same, up_same]
        · rw [up_idx h_e, up_idx h_e]
          exact q2 i h_i0 (by omega)
      · refine ⟨(fun e h_e5 => (w1 e h_e5).fr h_e5 (fun j _ _ => by simp (disch := omega) only [up_fn, cpm_cell, fil_cell])), ?_, w3.fr (fun j _ _ => by simp (disch := omega) only [up_fn, cpm_cell, fil_cell]), w4.fr (fun j _ _ => by simp (disch := omega) only [up_fn, cpm_cell, fil_cell]), w5.fr (by simp (disch := omega) only [up_cell, up_idx, up_same, cpm_at, fil_at]) (fun j _ _ => by simp (disch := omega) only [up_fn, cpm_cell, fil_cell]), w6.fr (fun s b _ _ => by simp (disch := omega) only [up_fn, cpm_cell, fil_cell]), w7.fr (fun s _ => ⟨by simp (disch := omega) only [up_fn, cpm_cell, fil_cell], by simp (disch := omega) only [up_fn, cpm_cell, fil_cell]⟩), w8.fr (by simp (disch := omega) only [up_fn, cpm_cell, fil_cell])⟩
        unfold WfPad
        simp (disch := omega) only [up_fn, up_cell, up_idx, up_same]
        refine ⟨by omega, fun i h_i0 h_i1 => ?_, p3, p4, p5, p6⟩
        by_cases h_e : i = σ 37 1
        · subst h_e
          rw [up_same]
          omega
        · rw [up_idx h_e]
          exact p2 i h_i0 (by omega)
  · rw [if_pos (by omega)] at h_k h_m
    exact ⟨_, σ, _, _, (by decide), (by decide), rI_P h_k ⟨rfl, KC.rf _⟩, rI_P h_m ⟨rfl, hr⟩, hw⟩
theorem op_dot (l : Int) (h_1 : (-2147483648 ≤ l ∧ l < 2147483648)) : OP x1 x2 yX11_dot yX12_dot [iv l] := by
  intro σ μ hw hr
  obtain ⟨w1, w2, w3, w4, w5, w6, w7, w8⟩ := id hw
  obtain ⟨r1, r2, r3, r4, r5, r6, r7, r8⟩ := id hr
  obtain ⟨p1, p2, p3, p4, p5, p6⟩ := id w2
  obtain ⟨q1, q2, q3, q4, q5, q6⟩ := id r2
  have h_k := c_dot (x := x1) (σ := σ) l h_1 p3
  have h_m := m_dot (x := x2) (μ := μ) l h_1 (by omega)
  rw [q3] at h_m
  by_cases h_l : 1 ≤ l ∧ l ≤ 63
  · by_cases h_f : 12 ≤ σ 39 1
    · rw [if_neg (by omega), if_pos (by omega)] at h_k h_m
      exact ⟨_, σ, _, _, (by decide), (by decide), rI_P h_k ⟨rfl, KC.rf _⟩, rI_P h_m ⟨rfl, hr⟩, hw⟩
    · rw [if_neg (by omega), if_neg (by omega)] at h_k h_m
      refine ⟨_, _, _, _, (by decide), (by decide), rI_P h_k ⟨rfl, KC.rf _⟩, rI_P h_m ⟨rfl, ?_⟩, ?_⟩
      · refine ⟨(fun e h_e5 => (r1 e h_e5).fr h_e5 (fun j _ _ => by simp (disch := omega) only [up_fn, cpm_cell, fil_cell]) (fun j _ _ => by simp (disch := omega) only [up_fn, cpm_cell, fil_cell])), ?_, r3.fr (fun j _ _ => by simp (disch := omega) only [up_fn, cpm_cell, fil_cell]) (fun j _ _ => by simp (disch := omega) only [up_fn, cpm_cell, fil_cell]) (by simp (disch := omega) only [up_cell, up_idx, up_same, cpm_at, fil_at]), r4.fr (fun j _ _ => by simp (disch := omega) only [up_fn, cpm_cell, fil_cell]) (fun j _ _ => by simp (disch := omega) only [up_fn, cpm_cell, fil_cell]) (by simp (disch := omega) only [up_cell, up_idx, up_same, cpm_at, fil_at]), r5.fr (by simp (disch := omega) only [up_cell, up_idx, up_same, cpm_at, fil_at]) (fun j _ _ => by simp (disch := omega) only [up_fn, cpm_cell, fil_cell]) (fun j _ _ => by simp (disch := omega) only [up_fn, cpm_cell, fil_cell]) (by simp (disch := omega) only [up_cell, up_idx, up_same, cpm_at, fil_at]), r6.fr (fun s b _ _ => by simp (disch := omega) only [up_fn, cpm_cell, fil_cell]) (by simp (disch := omega) only [up_fn, cpm_cell, fil_cell]), r7.fr (fun s _ => ⟨by simp (disch := omega) only [up_fn, cpm_cell, fil_cell], by simp (disch := omega) only [up_fn, cpm_cell, fil_cell]⟩) ⟨by simp (disch := omega) only [up_fn, cpm_cell, fil_cell], by simp (disch := omega) only [up_fn, cpm_cell, fil_cell]⟩, r8.fr (by simp (disch := omega) only [up_fn, cpm_cell, fil_cell]) (by simp (disch := omega) only [up_fn, cpm_cell, fil_cell])⟩
        unfold RePad
        simp (disch := omega) only [up_fn, up_cell, up_idx, up_same]
        refine ⟨q1, q2, trivial, fun i h_i0 h_i1 => ?_, q5, q6⟩
        by_cases h_e : i = σ 39 1
        · subst h_e
          rw [up_same, up_same]
        · rw [up_idx h_e, up_idx h_e]
          exact q4 i h_i0 (by omega)
      · refine ⟨(fun e h_e5 => (w1 e h_e5).fr h_e5 (fun j _ _ => by simp (disch := omega) only [up_fn, cpm_cell, fil_cell])), ?_, w3.fr (fun j _ _ => by simp (disch := omega) only [up_fn, cpm_cell, fil_cell]), w4.fr (fun j _ _ => by simp (disch := omega) only [up_fn, cpm_cell, fil_cell]), w5.fr (by simp (disch := omega) only [up_cell, up_idx, up_same, cpm_at, fil_at]) (fun j _ _ => by simp (disch := omega) only [up_fn, cpm_cell, fil_cell]), w6.fr (fun s b _ _ => by simp (disch := omega) only [up_fn, cpm_cell, fil_cell]), w7.fr (fun s _ => ⟨by simp (disch := omega) only [up_fn, cpm_cell, fil_cell], by simp (disch := omega) only [up_fn, cpm_cell, fil_cell]⟩), w8.fr (by simp (disch := omega) only [up_fn, cpm_cell, fil_cell])⟩
        unfold WfPad
        simp (disch := omega) only [up_fn, up_cell, up_idx, up_same]
        refine ⟨p1, p2, by omega, fun i h_i0 h_i1 => ?_, p5, p6⟩
        by_cases h_e : i = σ 39 1
        · subst h_e
          rw [up_same]
          omega
        · rw [up_idx h_e]
          exact p4 i h_i0 (by omega)
  · rw [if_pos (by omega)] at h_k h_m
    exact ⟨_, σ, _, _, (by decide), (by decide), rI_P h_k ⟨rfl, KC.rf _⟩, rI_P h_m ⟨rfl, hr⟩, hw⟩
theorem op_sign (l : Int) (h_1 : (-2147483648 ≤ l ∧ l < 2147483648)) : OP x1 x2 yX11_sign yX12_sign [iv l] := by
  intro σ μ hw hr
  obtain ⟨w1, w2, w3, w4, w5, w6, w7, w8⟩ := id hw
  obtain ⟨r1, r2, r3, r4, r5, r6, r7, r8⟩ := id hr
  obtain ⟨p1, p2, p3, p4, p5, p6⟩ := id w2
  obtain ⟨q1, q2, q3, q4, q5, q6⟩ := id r2
  have h_k := c_sign (x := x1) (σ := σ) l h_1 p5
  have h_m := m_sign (x := x2) (μ := μ) l h_1 (by omega)
  rw [q5] at h_m
  by_cases h_l : 33 ≤ l ∧ l ≤ 126
  · by_cases h_f : 40 ≤ σ 41 1
    · rw [if_neg (by omega), if_pos (by omega)] at h_k h_m
      exact ⟨_, σ, _, _, (by decide), (by decide), rI_P h_k ⟨rfl, KC.rf _⟩, rI_P h_m ⟨rfl, hr⟩, hw⟩
    · rw [if_neg (by omega), if_neg (by omega)] at h_k h_m
      refine ⟨_, _, _, _, (by decide), (by decide), rI_P h_k ⟨rfl, KC.rf _⟩, rI_P h_m ⟨rfl, ?_⟩, ?_⟩
      · refine ⟨(fun e h_e5 => (r1 e h_e5).fr h_e5 (fun j _ _ => by simp (disch := omega) only [up_fn, cpm_cell, fil_cell]) (fun j _ _ => by simp (disch := omega) only [up_fn, cpm_cell, fil_cell])), ?_, r3.fr (fun j _ _ => by simp (disch := omega) only [up_fn, cpm_cell, fil_cell]) (fun j _ _ => by simp (disch := omega) only [up_fn, cpm_cell, fil_cell]) (by simp (disch := omega) only [up_cell, up_idx, up_same, cpm_at, fil_at]), r4.fr (fun j _ _ => by simp (disch := omega) only [up_fn, cpm_cell, fil_cell]) (fun j _ _ => by simp (disch := omega) only [up_fn, cpm_cell, fil_cell]) (by simp (disch := omega) only [up_cell, up_idx, up_same, cpm_at, fil_at]), r5.fr (by simp (disch := omega) only [up_cell, up_idx, up_same, cpm_at, fil_at]) (fun j _ _ => by simp (disch := omega) only [up_fn, cpm_cell, fil_cell]) (fun j _ _ => by simp (disch := omega) only [up_fn, cpm_cell, fil_cell]) (by simp (disch := omega) only [up_cell, up_idx, up_same, cpm_at, fil_at]), r6.fr (fun s b _ _ => by simp (disch := omega) only [up_fn, cpm_cell, fil_cell]) (by simp (disch := omega) only [up_fn, cpm_cell, fil_cell]), r7.fr (fun s _ => ⟨by simp (disch := omega) only [up_fn, cpm_cell, fil_cell], by simp (disch := omega) only [up_fn, cpm_cell, fil_cell]⟩) ⟨by simp (disch := omega) only [up_fn, cpm_cell, fil_cell], by simp (disch := omega) only [up_fn, cpm_cell, fil_cell]⟩, r8.fr (by simp (disch := omega) only [up_fn, cpm_cell, fil_cell]) (by simp (disch := omega) only [up_fn, cpm_cell, fil_cell])⟩
        unfold RePad
        simp (disch := omega) only [up_fn, up_cell, up_idx, up_same]
        refine ⟨q1, q2, q3, q4, trivial, fun i h_i0 h_i1 => ?_⟩
        by_cases h_e : i = σ 41 1
        · subst h_e
          rw [up_same, up_same]
        · rw [up_idx h_e, up_idx h_e]
          exact q6 i h_i0 (by omega)
      · refine ⟨(fun e h_e5 => (w1 e h_e5).fr h_e5 (fun j _ _ => by simp (disch := omega) only [up_fn, cpm_cell, fil_cell])), ?_, w3.fr (fun j _ _ => by simp (disch := omega) only [up_fn, cpm_cell, fil_cell]), w4.fr (fun j _ _ => by simp (disch := omega) only [up_fn, cpm_cell, fil_cell]), w5.fr (by simp (disch := omega) only [up_cell, up_idx, up_same, cpm_at, fil_at]) (fun j _ _ => by simp (disch := omega) only [up_fn, cpm_cell, fil_cell]), w6.fr (fun s b _ _ => by simp (disch := omega) only [up_fn, cpm_cell, fil_cell]), w7.fr (fun s _ => ⟨by simp (disch := omega) only [up_fn, cpm_cell, fil_cell], by simp (disch := omega) only [up_fn, cpm_cell, fil_cell]⟩), w8.fr (by simp (disch := omega) only [up_fn, cpm_cell, fil_cell])⟩
        unfold WfPad
        simp (disch := omega) only [up_fn, up_cell, up_idx, up_same]
        refine ⟨p1, p2, p3, p4, by omega, fun i h_i0 h_i1 => ?_⟩
        by_cases h_e : i = σ 41 1
        · subst h_e
          rw [up_same]
          omega
        · rw [up_idx h_e]
          exact p6 i h_i0 (by omega)
  · rw [if_pos (by omega)] at h_k h_m
    exact ⟨_, σ, _, _, (by decide), (by decide), rI_P h_k ⟨rfl, KC.rf _⟩, rI_P h_m ⟨rfl, hr⟩, hw⟩
theorem op_wipe (z : Int) (h_1 : (-2147483648 ≤ z ∧ z < 2147483648)) : OP x1 x2 yX11_wipe yX12_wipe [iv z] := by
  intro σ μ hw hr
  obtain ⟨w1, w2, w3, w4, w5, w6, w7, w8⟩ := id hw
  obtain ⟨r1, r2, r3, r4, r5, r6, r7, r8⟩ := id hr
  obtain ⟨p1, p2, p3, p4, p5, p6⟩ := id w2
  obtain ⟨q1, q2, q3, q4, q5, q6⟩ := id r2
  have h_k := c_wipe (x := x1) (σ := σ) z h_1
  have h_m := m_wipe (x := x2) (μ := μ) z h_1
  by_cases h_0 : z = 0
  · rw [if_pos h_0] at h_k h_m
    rw [q1] at h_m
    refine ⟨_, _, _, _, (by decide), (by decide), rI_P h_k ⟨rfl, KC.rf _⟩, rI_P h_m ⟨rfl, ?_⟩, ?_⟩
    · refine ⟨(fun e h_e5 => (r1 e h_e5).fr h_e5 (fun j _ _ => by simp (disch := omega) only [up_fn, cpm_cell, fil_cell]) (fun j _ _ => by simp (disch := omega) only [up_fn, cpm_cell, fil_cell])), ?_, r3.fr (fun j _ _ => by simp (disch := omega) only [up_fn, cpm_cell, fil_cell]) (fun j _ _ => by simp (disch := omega) only [up_fn, cpm_cell, fil_cell]) (by simp (disch := omega) only [up_cell, up_idx, up_same, cpm_at, fil_at]), r4.fr (fun j _ _ => by simp (disch := omega) only [up_fn, cpm_cell, fil_cell]) (fun j _ _ => by simp (disch := omega) only [up_fn, cpm_cell, fil_cell]) (by simp (disch := omega) only [up_cell, up_idx, up_same, cpm_at, fil_at]), r5.fr (by simp (disch := omega) only [up_cell, up_idx, up_same, cpm_at, fil_at]) (fun j _ _ => by simp (disch := omega) only [up_fn, cpm_cell, fil_cell]) (fun j _ _ => by simp (disch := omega) only [up_fn, cpm_cell, fil_cell]) (by simp (disch := omega) only [up_cell, up_idx, up_same, cpm_at, fil_at]), r6.fr (fun s b _ _ => by simp (disch := omega) only [up_fn, cpm_cell, fil_cell]) (by simp (disch := omega) only [up_fn, cpm_cell, fil_cell]), r7.fr (fun s _ => ⟨by simp (disch := omega) only [up_fn, cpm_cell, fil_cell], by simp (disch := omega) only [up_fn, cpm_cell, fil_cell]⟩) ⟨by simp (disch := omega) only [up_fn, cpm_cell, fil_cell], by simp (disch := omega) only [up_fn, cpm_cell, fil_cell]⟩, r8.fr (by simp (disch := omega) only [up_fn, cpm_cell, fil_cell]) (by simp (disch := omega) only [up_fn, cpm_cell, fil_cell])⟩
      unfold RePad
      simp (disch := omega) only [up_fn, up_cell, up_idx, up_same]
      exact ⟨trivial, fun i h_i0 h_i1 => absurd h_i1 (by omega), q3, q4, q5, q6⟩
    · refine ⟨(fun e h_e5 => (w1 e h_e5).fr h_e5 (fun j _ _ => by simp (disch := omega) only [up_fn, cpm_cell, fil_cell])), ?_, w3.fr (fun j _ _ => by simp (disch := omega) only [up_fn, cpm_cell, fil_cell]), w4.fr (fun j _ _ => by simp (disch := omega) only [up_fn, cpm_cell, fil_cell]), w5.fr (by simp (disch := omega) only [up_cell, up_idx, up_same, cpm_at, fil_at]) (fun j _ _ => by simp (disch := omega) only [up_fn, cpm_cell, fil_cell]), w6.fr (fun s b _ _ => by simp (disch := omega) only [up_fn, cpm_cell, fil_cell]), w7.fr (fun s _ => ⟨by simp (disch := omega) only [up_fn, cpm_cell, fil_cell], by simp (disch := omega) only [up_fn, cpm_cell, fil_cell]⟩), w8.fr (by simp (disch := omega) only [up_fn, cpm_cell, fil_cell])⟩
      unfold WfPad
      simp (disch := omega) only [up_fn, up_cell, up_idx, up_same]
      exact ⟨by omega, fun i h_i0 h_i1 => absurd h_i1 (by omega), p3, p4, p5, p6⟩
  · rw [if_neg h_0] at h_k h_m
    by_cases h_2 : z = 1
    · rw [if_pos h_2] at h_k h_m
      rw [q3] at h_m
      refine ⟨_, _, _, _, (by decide), (by decide), rI_P h_k ⟨rfl, KC.rf _⟩, rI_P h_m ⟨rfl, ?_⟩, ?_⟩
      · refine ⟨(fun e h_e5 => (r1 e h_e5).fr h_e5 (fun j _ _ => by simp (disch := omega) only [up_fn, cpm_cell, fil_cell]) (fun j _ _ => by simp (disch := omega) only [up_fn, cpm_cell, fil_cell])), ?_, r3.fr (fun j _ _ => by simp (disch := omega) only [up_fn, cpm_cell, fil_cell]) (fun j _ _ => by simp (disch := omega) only [up_fn, cpm_cell, fil_cell]) (by simp (disch := omega) only [up_cell, up_idx, up_same, cpm_at, fil_at]), r4.fr (fun j _ _ => by simp (disch := omega) only [up_fn, cpm_cell, fil_cell]) (fun j _ _ => by simp (disch := omega) only [up_fn, cpm_cell, fil_cell]) (by simp (disch := omega) only [up_cell, up_idx, up_same, cpm_at, fil_at]), r5.fr (by simp (disch := omega) only [up_cell, up_idx, up_same, cpm_at, fil_at]) (fun j _ _ => by simp (disch := omega) only [up_fn, cpm_cell, fil_cell]) (fun j _ _ => by simp (disch := omega) only [up_fn, cpm_cell, fil_cell]) (by simp (disch := omega) only [up_cell, up_idx, up_same, cpm_at, fil_at]), r6.fr (fun s b _ _ => by simp (disch := omega) only [up_fn, cpm_cell, fil_cell]) (by simp (disch := omega) only [up_fn, cpm_cell, fil_cell]), r7.fr (fun s _ => ⟨by simp (disch := omega) only [up_fn, cpm_cell, fil_cell], by simp (disch := omega) only [up_fn, cpm_cell, fil_cell]⟩) ⟨by simp (disch := omega) only [up_fn, cpm_cell, fil_cell], by simp (disch := omega) only [up_fn, cpm_cell, fil_cell]⟩, r8.fr (by simp (disch := omega) only [up_fn, cpm_cell, fil_cell]) (by simp (disch := omega) only [up_fn, cpm_cell, fil_cell])⟩
        unfold RePad
        simp (disch := omega) only [up_fn, up_cell, up_idx, up_same]
        exact ⟨q1, q2, trivial, fun i h_i0 h_i1 => absurd h_i1 (by omega), q5, q6⟩
      · refine ⟨(fun e h_e5 => (w1 e h_e5).fr h_e5 (fun j _ _ => by simp (disch := omega) only [up_fn, cpm_cell, fil_cell])), ?_, w3.fr (fun j _ _ => by simp (disch := omega) only [up_fn, cpm_cell, fil_cell]), w4.fr (fun j _ _ => by simp (disch := omega) only [up_fn, cpm_cell, fil_cell]), w5.fr (by simp (disch := omega) only [up_cell, up_idx, up_same, cpm_at, fil_at]) (fun j _ _ => by simp (disch := omega) only [up_fn, cpm_cell, fil_cell]), w6.fr (fun s b _ _ => by simp (disch := omega) only [up_fn, cpm_cell, fil_cell]), w7.fr (fun s _ => ⟨by simp (disch := omega) only [up_fn, cpm_cell, fil_cell], by simp (disch := omega) only [up_fn, cpm_cell, fil_cell]⟩), w8.fr (by simp (disch := omega) only [up_fn, cpm_cell, fil_cell])⟩
        unfold WfPad
        simp (disch := omega) only [up_fn, up_cell, up_idx, up_same]
        exact ⟨p1, p2, by omega, fun i h_i0 h_i1 => absurd h_i1 (by omega), p5, p6⟩
    · rw [if_neg h_2] at h_k h_m
      by_cases h_3 : z = 2
      · rw [if_pos h_3] at h_k h_m
        rw [q5] at h_m
        refine ⟨_, _, _, _, (by decide), (by decide), rI_P h_k ⟨rfl, KC.rf _⟩, rI_P h_m ⟨rfl, ?_⟩, ?_⟩
        · refine ⟨(fun e h_e5 => (r1 e h_e5).fr h_e5 (fun j _ _ => by simp (disch := omega) only [up_fn, cpm_cell, fil_cell]) (fun j _ _ => by simp (disch := omega) only [up_fn, cpm_cell, fil_cell])), ?_, r3.fr (fun j _ _ => by simp (disch := omega) only [up_fn, cpm_cell, fil_cell]) (fun j _ _ => by simp (disch := omega) only [up_fn, cpm_cell, fil_cell]) (by simp (disch := omega) only [up_cell, up_idx, up_same, cpm_at, fil_at]), r4.fr (fun j _ _ => by simp (disch := omega) only [up_fn, cpm_cell, fil_cell]) (fun j _ _ => by simp (disch := omega) only [up_fn, cpm_cell, fil_cell]) (by simp (disch := omega) only [up_cell, up_idx, up_same, cpm_at, fil_at]), r5.fr (by simp (disch := omega) only [up_cell, up_idx, up_same, cpm_at, fil_at]) (fun j _ _ => by simp (disch := omega) only [up_fn, cpm_cell, fil_cell]) (fun j _ _ => by simp (disch := omega) only [up_fn, cpm_cell, fil_cell]) (by simp (disch := omega) only [up_cell, up_idx, up_same, cpm_at, fil_at]), r6.fr (fun s b _ _ => by simp (disch := omega) only [up_fn, cpm_cell, fil_cell]) (by simp (disch := omega) only [up_fn, cpm_cell, fil_cell]), r7.fr (fun s _ => ⟨by simp (disch := omega) only [up_fn, cpm_cell, fil_cell], by simp (disch := omega) only [up_fn, cpm_cell, fil_cell]⟩) ⟨by simp (disch := omega) only [up_fn, cpm_cell, fil_cell], by simp (disch := omega) only [up_fn, cpm_cell, fil_cell]⟩, r8.fr (by simp (disch := omega) only [up_fn, cpm_cell, fil_cell]) (by simp (disch := omega) only [up_fn, cpm_cell, fil_cell])⟩
          unfold RePad
          simp (disch := omega) only [up_fn, up_cell, up_idx, up_same]
          exact ⟨q1, q2, q3, q4, trivial, fun i h_i0 h_i1 => absurd h_i1 (by omega)⟩
        · refine ⟨(fun e h_e5 => (w1 e h_e5).fr h_e5 (fun j _ _ => by simp (disch := omega) only [up_fn, cpm_cell, fil_cell])), ?_, w3.fr (fun j _ _ => by simp (disch := omega) only [up_fn, cpm_cell, fil_cell]), w4.fr (fun j _ _ => by simp (disch := omega) only [up_fn, cpm_cell, fil_cell]), w5.fr (by simp (disch := omega) only [up_cell, up_idx, up_same, cpm_at, fil_at]) (fun j _ _ => by simp (disch := omega) only [up_fn, cpm_cell, fil_cell]), w6.fr (fun s b _ _ => by simp (disch := omega) only [up_fn, cpm_cell, fil_cell]), w7.fr (fun s _ => ⟨by simp (disch := omega) only [up_fn, cpm_cell, fil_cell], by simp (disch := omega) only [up_fn, cpm_cell, fil_cell]⟩), w8.fr (by simp (disch := omega) only [up_fn, cpm_cell, fil_cell])⟩
          unfold WfPad
          simp (disch := omega) only [up_fn, up_cell, up_idx, up_same]
          exact ⟨p1, p2, p3, p4, by omega, fun i h_i0 h_i1 => absurd h_i1 (by omega)⟩
      · rw [if_neg h_3] at h_k h_m
        exact ⟨_, σ, _, _, (by decide), (by decide), rI_P h_k ⟨rfl, KC.rf _⟩, rI_P h_m ⟨rfl, hr⟩, hw⟩
end OP1
