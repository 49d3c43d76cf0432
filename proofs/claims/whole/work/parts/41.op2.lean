section OP2
variable {x1 x2 : CX}
theorem op_word : OP x1 x2 yX11_word yX12_word [] := by
  intro σ μ hw hr
  obtain ⟨w1, w2, w3, w4, w5, w6, w7, w8⟩ := id hw
  obtain ⟨r1, r2, r3, r4, r5, r6, r7, r8⟩ := id hr
  obtain ⟨p1, p2, p3, p4, p5, p6⟩ := id w2
  obtain ⟨q1, q2, q3, q4, q5, q6⟩ := id r2
  obtain ⟨a1, a2, a3, a4⟩ := id w3
  obtain ⟨b1, b2, b3⟩ := id r3
  have h_k := c_word (x := x1) (σ := σ) a1 a2 p1
  have h_m := m_word (x := x2) (μ := μ) (by omega) (by omega)
  rw [q1, b1] at h_m
  by_cases h_f : 30 ≤ σ 57 3
  · rw [if_pos h_f] at h_k h_m
    exact ⟨_, σ, _, _, (by decide), (by decide), rI_P h_k ⟨rfl, KC.rf _⟩, rI_P h_m ⟨rfl, hr⟩, hw⟩
  · rw [if_neg h_f] at h_k h_m
    by_cases h_z : σ 37 1 = 0
    · rw [if_pos h_z] at h_k h_m
      exact ⟨_, σ, _, _, (by decide), (by decide), rI_P h_k ⟨rfl, KC.rf _⟩, rI_P h_m ⟨rfl, hr⟩, hw⟩
    · rw [if_neg h_z] at h_k h_m
      refine ⟨_, _, _, _, (by decide), (by decide), rI_P h_k ⟨rfl, KC.rf _⟩, rI_P h_m ⟨rfl, ?_⟩, ?_⟩
      · refine ⟨(fun e h_e5 => (r1 e h_e5).fr h_e5 (fun j _ _ => by simp (disch := omega) only [up_fn, cpm_cell, fil_cell]) (fun j _ _ => by simp (disch := omega) only [up_fn, cpm_cell, fil_cell])), ?_, ?_, r4.fr (fun j _ _ => by simp (disch := omega) only [up_fn, cpm_cell, fil_cell]) (fun j _ _ => by simp (disch := omega) only [up_fn, cpm_cell, fil_cell]) (by simp (disch := omega) only [up_cell, up_idx, up_same, cpm_at, fil_at]), r5.fr (by simp (disch := omega) only [up_cell, up_idx, up_same, cpm_at, fil_at]) (fun j _ _ => by simp (disch := omega) only [up_fn, cpm_cell, fil_cell]) (fun j _ _ => by simp (disch := omega) only [up_fn, cpm_cell, fil_cell]) (by simp (disch := omega) only [up_cell, up_idx, up_same, cpm_at, fil_at]), r6.fr (fun s b _ _ => by simp (disch := omega) only [up_fn, cpm_cell, fil_cell]) (by simp (disch := omega) only [up_fn, cpm_cell, fil_cell]), r7.fr (fun s _ => ⟨by simp (disch := omega) only [up_fn, cpm_cell, fil_cell], by simp (disch := omega) only [up_fn, cpm_cell, fil_cell]⟩) ⟨by simp (disch := omega) only [up_fn, cpm_cell, fil_cell], by simp (disch := omega) only [up_fn, cpm_cell, fil_cell]⟩, r8.fr (by simp (disch := omega) only [up_fn, cpm_cell, fil_cell]) (by simp (disch := omega) only [up_fn, cpm_cell, fil_cell])⟩
        · unfold RePad
          simp (disch := omega) only [up_fn, cpm_cell, up_cell, up_idx, up_same, cpm_at]
          exact ⟨trivial, fun i h_i0 h_i1 => absurd h_i1 (by omega), q3, q4, q5, q6⟩
        · unfold ReWord
          simp (disch := omega) only [up_fn, cpm_cell, up_cell, up_idx, up_same, cpm_at]
          refine ⟨trivial, fun w h_w0 h_w1 => ?_, b3⟩
          by_cases h_e : w = σ 57 3
          · subst h_e
            simp only [up_same]
            refine ⟨trivial, fun i h_i0 h_i1 => ?_⟩
            rw [cpm_in (by omega), cpm_in (by omega)]
            exact q2 _ (by omega) (by omega)
          · simp (disch := omega) only [up_idx, up_cell, cpm_at]
            obtain ⟨g1, g2⟩ := b2 w h_w0 (by omega)
            obtain ⟨f1, f2⟩ := a3 w h_w0 (by omega)
            refine ⟨g1, fun i h_i0 h_i1 => ?_⟩
            rw [cpm_out (by omega), cpm_out (by omega)]
            exact g2 i h_i0 h_i1
      · refine ⟨(fun e h_e5 => (w1 e h_e5).fr h_e5 (fun j _ _ => by simp (disch := omega) only [up_fn, cpm_cell, fil_cell])), ?_, ?_, w4.fr (fun j _ _ => by simp (disch := omega) only [up_fn, cpm_cell, fil_cell]), w5.fr (by simp (disch := omega) only [up_cell, up_idx, up_same, cpm_at, fil_at]) (fun j _ _ => by simp (disch := omega) only [up_fn, cpm_cell, fil_cell]), w6.fr (fun s b _ _ => by simp (disch := omega) only [up_fn, cpm_cell, fil_cell]), w7.fr (fun s _ => ⟨by simp (disch := omega) only [up_fn, cpm_cell, fil_cell], by simp (disch := omega) only [up_fn, cpm_cell, fil_cell]⟩), w8.fr (by simp (disch := omega) only [up_fn, cpm_cell, fil_cell])⟩
        · unfold WfPad
          simp (disch := omega) only [up_fn, cpm_cell, up_cell, up_idx, up_same, cpm_at]
          exact ⟨by omega, fun i h_i0 h_i1 => absurd h_i1 (by omega), p3, p4, p5, p6⟩
        · unfold WfWord
          simp (disch := omega) only [up_fn, cpm_cell, up_cell, up_idx, up_same, cpm_at]
          refine ⟨a1, by omega, fun w h_w0 h_w1 => ?_, a4⟩
          by_cases h_e : w = σ 57 3
          · subst h_e
            simp only [up_same]
            refine ⟨by omega, fun i h_i0 h_i1 => ?_⟩
            rw [cpm_in (by omega)]
            exact p2 _ (by omega) (by omega)
          · simp (disch := omega) only [up_idx, up_cell, cpm_at]
            obtain ⟨f1, f2⟩ := a3 w h_w0 (by omega)
            refine ⟨f1, fun i h_i0 h_i1 => ?_⟩
            rw [cpm_out (by omega)]
            exact f2 i h_i0 h_i1
theorem op_row : OP x1 x2 yX11_row yX12_row [] := by
  intro σ μ hw hr
  obtain ⟨w1, w2, w3, w4, w5, w6, w7, w8⟩ := id hw
  obtain ⟨r1, r2, r3, r4, r5, r6, r7, r8⟩ := id hr
  obtain ⟨p1, p2, p3, p4, p5, p6⟩ := id w2
  obtain ⟨q1, q2, q3, q4, q5, q6⟩ := id r2
  obtain ⟨a1, a2, a3⟩ := id w4
  obtain ⟨b1, b2⟩ := id r4
  have h_k := c_row (x := x1) (σ := σ) a1 a2 p1
  have h_m := m_row (x := x2) (μ := μ) (by omega) (by omega)
  rw [q1, b1] at h_m
  by_cases h_f : 12 ≤ σ 70 3
  · rw [if_pos h_f] at h_k h_m
    exact ⟨_, σ, _, _, (by decide), (by decide), rI_P h_k ⟨rfl, KC.rf _⟩, rI_P h_m ⟨rfl, hr⟩, hw⟩
  · rw [if_neg h_f] at h_k h_m
    by_cases h_z : ¬ (2 ≤ σ 37 1 ∧ σ 37 1 ≤ 4)
    · rw [if_pos h_z] at h_k h_m
      exact ⟨_, σ, _, _, (by decide), (by decide), rI_P h_k ⟨rfl, KC.rf _⟩, rI_P h_m ⟨rfl, hr⟩, hw⟩
    · rw [if_neg h_z] at h_k h_m
      refine ⟨_, _, _, _, (by decide), (by decide), rI_P h_k ⟨rfl, KC.rf _⟩, rI_P h_m ⟨rfl, ?_⟩, ?_⟩
      · refine ⟨(fun e h_e5 => (r1 e h_e5).fr h_e5 (fun j _ _ => by simp (disch := omega) only [up_fn, cpm_cell, fil_cell]) (fun j _ _ => by simp (disch := omega) only [up_fn, cpm_cell, fil_cell])), ?_, r3.fr (fun j _ _ => by simp (disch := omega) only [up_fn, cpm_cell, fil_cell]) (fun j _ _ => by simp (disch := omega) only [up_fn, cpm_cell, fil_cell]) (by simp (disch := omega) only [up_cell, up_idx, up_same, cpm_at, fil_at]), ?_, r5.fr (by simp (disch := omega) only [up_cell, up_idx, up_same, cpm_at, fil_at]) (fun j _ _ => by simp (disch := omega) only [up_fn, cpm_cell, fil_cell]) (fun j _ _ => by simp (disch := omega) only [up_fn, cpm_cell, fil_cell]) (by simp (disch := omega) only [up_cell, up_idx, up_same, cpm_at, fil_at]), r6.fr (fun s b _ _ => by simp (disch := omega) only [up_fn, cpm_cell, fil_cell]) (by simp (disch := omega) only [up_fn, cpm_cell, fil_cell]), r7.fr (fun s _ => ⟨by simp (disch := omega) only [up_fn, cpm_cell, fil_cell], by simp (disch := omega) only [up_fn, cpm_cell, fil_cell]⟩) ⟨by simp (disch := omega) only [up_fn, cpm_cell, fil_cell], by simp (disch := omega) only [up_fn, cpm_cell, fil_cell]⟩, r8.fr (by simp (disch := omega) only [up_fn, cpm_cell, fil_cell]) (by simp (disch := omega) only [up_fn, cpm_cell, fil_cell])⟩
        · unfold RePad
          simp (disch := omega) only [up_fn, cpm_cell, up_cell, up_idx, up_same, cpm_at]
          exact ⟨trivial, fun i h_i0 h_i1 => absurd h_i1 (by omega), q3, q4, q5, q6⟩
        · unfold ReRow
          simp (disch := omega) only [up_fn, cpm_cell, up_cell, up_idx, up_same, cpm_at]
          refine ⟨trivial, fun w h_w0 h_w1 => ?_⟩
          by_cases h_e : w = σ 70 3
          · subst h_e
            simp only [up_same]
            refine ⟨trivial, fun i h_i0 h_i1 => ?_⟩
            rw [cpm_in (by omega), cpm_in (by omega)]
            exact q2 _ (by omega) (by omega)
          · simp (disch := omega) only [up_idx, up_cell, cpm_at]
            obtain ⟨g1, g2⟩ := b2 w h_w0 (by omega)
            obtain ⟨f1, f2⟩ := a3 w h_w0 (by omega)
            refine ⟨g1, fun i h_i0 h_i1 => ?_⟩
            rw [cpm_out (by omega), cpm_out (by omega)]
            exact g2 i h_i0 h_i1
      · refine ⟨(fun e h_e5 => (w1 e h_e5).fr h_e5 (fun j _ _ => by simp (disch := omega) only [up_fn, cpm_cell, fil_cell])), ?_, w3.fr (fun j _ _ => by simp (disch := omega) only [up_fn, cpm_cell, fil_cell]), ?_, w5.fr (by simp (disch := omega) only [up_cell, up_idx, up_same, cpm_at, fil_at]) (fun j _ _ => by simp (disch := omega) only [up_fn, cpm_cell, fil_cell]), w6.fr (fun s b _ _ => by simp (disch := omega) only [up_fn, cpm_cell, fil_cell]), w7.fr (fun s _ => ⟨by simp (disch := omega) only [up_fn, cpm_cell, fil_cell], by simp (disch := omega) only [up_fn, cpm_cell, fil_cell]⟩), w8.fr (by simp (disch := omega) only [up_fn, cpm_cell, fil_cell])⟩
        · unfold WfPad
          simp (disch := omega) only [up_fn, cpm_cell, up_cell, up_idx, up_same, cpm_at]
          exact ⟨by omega, fun i h_i0 h_i1 => absurd h_i1 (by omega), p3, p4, p5, p6⟩
        · unfold WfRow
          simp (disch := omega) only [up_fn, cpm_cell, up_cell, up_idx, up_same, cpm_at]
          refine ⟨a1, by omega, fun w h_w0 h_w1 => ?_⟩
          by_cases h_e : w = σ 70 3
          · subst h_e
            simp only [up_same]
            refine ⟨by omega, fun i h_i0 h_i1 => ?_⟩
            rw [cpm_in (by omega)]
            exact p2 _ (by omega) (by omega)
          · simp (disch := omega) only [up_idx, up_cell, cpm_at]
            obtain ⟨f1, f2⟩ := a3 w h_w0 (by omega)
            refine ⟨f1, fun i h_i0 h_i1 => ?_⟩
            rw [cpm_out (by omega)]
            exact f2 i h_i0 h_i1
theorem op_count (b w n : Int) (h_1 : (-2147483648 ≤ b ∧ b < 2147483648)) (h_2 : (-2147483648 ≤ w ∧ w < 2147483648)) (h_3 : (-2147483648 ≤ n ∧ n < 2147483648)) : OP x1 x2 yX11_count yX12_count [iv b, iv w, iv n] := by
  intro σ μ hw hr
  obtain ⟨w1, w2, w3, w4, w5, w6, w7, w8⟩ := id hw
  obtain ⟨r1, r2, r3, r4, r5, r6, r7, r8⟩ := id hr
  obtain ⟨a1, a2, a3, a4⟩ := id w3
  obtain ⟨b1, b2, b3⟩ := id r3
  have h_m := m_count (x := x2) (μ := μ) b w n h_1 h_2 h_3 (by omega)
  rw [b1] at h_m
  by_cases h_b : 0 ≤ b ∧ b ≤ 7
  · obtain ⟨bb, h_b7, rfl⟩ := nat_of (n := 7) h_b
    have h_k := c_count (x := x1) (σ := σ) bb (by omega) w n h_2 h_3 a2
    by_cases h_v : 0 ≤ w ∧ w ≤ σ 57 3 - 1
    · by_cases h_n : 0 ≤ n ∧ n ≤ 1000
      · rw [if_neg (by omega), if_neg (by omega)] at h_k h_m
        refine ⟨_, _, _, _, (by decide), (by decide), rI_P h_k ⟨rfl, KC.rf _⟩, rI_P h_m ⟨b3 bb (by omega) w (by omega) (by omega), ?_⟩, ?_⟩
        · refine ⟨(fun e h_e5 => (r1 e h_e5).fr h_e5 (fun j _ _ => by simp (disch := omega) only [up_fn, cpm_cell, fil_cell]) (fun j _ _ => by simp (disch := omega) only [up_fn, cpm_cell, fil_cell])), r2.fr (fun j _ _ => by simp (disch := omega) only [up_fn, cpm_cell, fil_cell]) ⟨by simp (disch := omega) only [up_fn, cpm_cell, fil_cell], by simp (disch := omega) only [up_fn, cpm_cell, fil_cell], by simp (disch := omega) only [up_fn, cpm_cell, fil_cell]⟩ ⟨by simp (disch := omega) only [up_cell, up_idx, up_same, cpm_at, fil_at], by simp (disch := omega) only [up_cell, up_idx, up_same, cpm_at, fil_at], by simp (disch := omega) only [up_cell, up_idx, up_same, cpm_at, fil_at]⟩, ?_, r4.fr (fun j _ _ => by simp (disch := omega) only [up_fn, cpm_cell, fil_cell]) (fun j _ _ => by simp (disch := omega) only [up_fn, cpm_cell, fil_cell]) (by simp (disch := omega) only [up_cell, up_idx, up_same, cpm_at, fil_at]), r5.fr (by simp (disch := omega) only [up_cell, up_idx, up_same, cpm_at, fil_at]) (fun j _ _ => by simp (disch := omega) only [up_fn, cpm_cell, fil_cell]) (fun j _ _ => by simp (disch := omega) only [up_fn, cpm_cell, fil_cell]) (by simp (disch := omega) only [up_cell, up_idx, up_same, cpm_at, fil_at]), r6.fr (fun s b _ _ => by simp (disch := omega) only [up_fn, cpm_cell, fil_cell]) (by simp (disch := omega) only [up_fn, cpm_cell, fil_cell]), r7.fr (fun s _ => ⟨by simp (disch := omega) only [up_fn, cpm_cell, fil_cell], by simp (disch := omega) only [up_fn, cpm_cell, fil_cell]⟩) ⟨by simp (disch := omega) only [up_fn, cpm_cell, fil_cell], by simp (disch := omega) only [up_fn, cpm_cell, fil_cell]⟩, r8.fr (by simp (disch := omega) only [up_fn, cpm_cell, fil_cell]) (by simp (disch := omega) only [up_fn, cpm_cell, fil_cell])⟩
          unfold ReWord
          simp (disch := omega) only [up_fn, up_cell]
          refine ⟨b1, b2, fun e h_e v h_v0 h_v1 => ?_⟩
          by_cases h_q : e = bb ∧ v = w
          · obtain ⟨rfl, rfl⟩ := h_q
            rw [up_same, up_same]
          · rw [up_idx (by omega), b3 e h_e v h_v0 h_v1]
            by_cases h_q2 : e = bb
            · subst h_q2
              rw [up_idx (by omega)]
            · rw [up_cell (by omega)]
        · refine ⟨(fun e h_e5 => (w1 e h_e5).fr h_e5 (fun j _ _ => by simp (disch := omega) only [up_fn, cpm_cell, fil_cell])), w2.fr (fun j _ _ => by simp (disch := omega) only [up_fn, cpm_cell, fil_cell]), ?_, w4.fr (fun j _ _ => by simp (disch := omega) only [up_fn, cpm_cell, fil_cell]), w5.fr (by simp (disch := omega) only [up_cell, up_idx, up_same, cpm_at, fil_at]) (fun j _ _ => by simp (disch := omega) only [up_fn, cpm_cell, fil_cell]), w6.fr (fun s b _ _ => by simp (disch := omega) only [up_fn, cpm_cell, fil_cell]), w7.fr (fun s _ => ⟨by simp (disch := omega) only [up_fn, cpm_cell, fil_cell], by simp (disch := omega) only [up_fn, cpm_cell, fil_cell]⟩), w8.fr (by simp (disch := omega) only [up_fn, cpm_cell, fil_cell])⟩
          unfold WfWord
          simp (disch := omega) only [up_fn, up_cell]
          refine ⟨a1, a2, a3, fun e h_e v h_v0 h_v1 => ?_⟩
          unfold up
          split
          · omega
          · exact a4 e h_e v h_v0 h_v1
      · rw [if_neg (by omega), if_pos (by omega)] at h_k h_m
        exact ⟨_, σ, _, _, (by decide), (by decide), rI_P h_k ⟨rfl, KC.rf _⟩, rI_P h_m ⟨rfl, hr⟩, hw⟩
    · rw [if_pos (by omega)] at h_k h_m
      exact ⟨_, σ, _, _, (by decide), (by decide), rI_P h_k ⟨rfl, KC.rf _⟩, rI_P h_m ⟨rfl, hr⟩, hw⟩
  · have h_k := c_countN (x := x1) (σ := σ) b w n h_1 h_b
    rw [if_pos (by omega)] at h_m
    exact ⟨_, σ, _, _, (by decide), (by decide), rI_P h_k ⟨rfl, KC.rf _⟩, rI_P h_m ⟨rfl, hr⟩, hw⟩
theorem op_reader (age s q : Int) (h_1 : (-2147483648 ≤ age ∧ age < 2147483648)) (h_2 : (-2147483648 ≤ s ∧ s < 2147483648)) (h_q : q = 0 ∨ q = 1) : OP x1 x2 yX11_reader yX12_reader [iv age, iv s, iv q] := by
  intro σ μ hw hr
  obtain ⟨w1, w2, w3, w4, w5, w6, w7, w8⟩ := id hw
  obtain ⟨r1, r2, r3, r4, r5, r6, r7, r8⟩ := id hr
  obtain ⟨a1, a2⟩ := id w5
  obtain ⟨b1, b2⟩ := id r5
  have h_m := m_reader (x := x2) (μ := μ) age s q h_1 h_2 h_q (by omega)
  obtain ⟨r, h_r20, h_r⟩ := nat_of (n := 20) a1
  rw [b1, h_r] at h_m
  by_cases h_s : 0 ≤ s ∧ s ≤ 5
  · obtain ⟨ss, h_s5, rfl⟩ := nat_of (n := 5) h_s
    have h_k := c_reader (x := x1) (σ := σ) age ss (by omega) q h_1 h_q r h_r h_r20
    rw [if_neg (by omega)] at h_m
    by_cases h_a : 5 ≤ age ∧ age ≤ 90
    · rw [if_neg (by omega)] at h_k h_m
      by_cases h_f : 20 ≤ r
      · rw [if_pos (by omega)] at h_k h_m
        exact ⟨_, σ, _, _, (by decide), (by decide), rI_P h_k ⟨rfl, KC.rf _⟩, rI_P h_m ⟨rfl, hr⟩, hw⟩
      · rw [if_neg (by omega)] at h_k h_m
        refine ⟨_, _, _, _, (by decide), (by decide), rI_P h_k ⟨rfl, KC.rf _⟩, rI_P h_m ⟨rfl, ?_⟩, ?_⟩
        · refine ⟨(fun e h_e5 => (r1 e h_e5).fr h_e5 (fun j _ _ => by simp (disch := omega) only [up_fn, cpm_cell, fil_cell]) (fun j _ _ => by simp (disch := omega) only [up_fn, cpm_cell, fil_cell])), r2.fr (fun j _ _ => by simp (disch := omega) only [up_fn, cpm_cell, fil_cell]) ⟨by simp (disch := omega) only [up_fn, cpm_cell, fil_cell], by simp (disch := omega) only [up_fn, cpm_cell, fil_cell], by simp (disch := omega) only [up_fn, cpm_cell, fil_cell]⟩ ⟨by simp (disch := omega) only [up_cell, up_idx, up_same, cpm_at, fil_at], by simp (disch := omega) only [up_cell, up_idx, up_same, cpm_at, fil_at], by simp (disch := omega) only [up_cell, up_idx, up_same, cpm_at, fil_at]⟩, r3.fr (fun j _ _ => by simp (disch := omega) only [up_fn, cpm_cell, fil_cell]) (fun j _ _ => by simp (disch := omega) only [up_fn, cpm_cell, fil_cell]) (by simp (disch := omega) only [up_cell, up_idx, up_same, cpm_at, fil_at]), r4.fr (fun j _ _ => by simp (disch := omega) only [up_fn, cpm_cell, fil_cell]) (fun j _ _ => by simp (disch := omega) only [up_fn, cpm_cell, fil_cell]) (by simp (disch := omega) only [up_cell, up_idx, up_same, cpm_at, fil_at]), ?_, r6.fr (fun s b _ _ => by simp (disch := omega) only [up_fn, cpm_cell, fil_cell]) (by simp (disch := omega) only [up_fn, cpm_cell, fil_cell]), r7.fr (fun s _ => ⟨by simp (disch := omega) only [up_fn, cpm_cell, fil_cell], by simp (disch := omega) only [up_fn, cpm_cell, fil_cell]⟩) ⟨by simp (disch := omega) only [up_fn, cpm_cell, fil_cell], by simp (disch := omega) only [up_fn, cpm_cell, fil_cell]⟩, r8.fr (by simp (disch := omega) only [up_fn, cpm_cell, fil_cell]) (by simp (disch := omega) only [up_fn, cpm_cell, fil_cell])⟩
          unfold ReRd
          simp (disch := omega) only [up_fn, up_cell, up_same]
          refine ⟨trivial, fun e h_e => ?_⟩
          by_cases h_er : e = r
          · subst h_er
            simp (disch := omega) only [up_fn, up_cell, up_same, up_idx]
            exact ⟨trivial, trivial, trivial, (b2 e h_e).2.2.2⟩
          · simp (disch := omega) only [up_fn, up_cell, up_same, up_idx]
            exact b2 e h_e
        · refine ⟨(fun e h_e5 => (w1 e h_e5).fr h_e5 (fun j _ _ => by simp (disch := omega) only [up_fn, cpm_cell, fil_cell])), w2.fr (fun j _ _ => by simp (disch := omega) only [up_fn, cpm_cell, fil_cell]), w3.fr (fun j _ _ => by simp (disch := omega) only [up_fn, cpm_cell, fil_cell]), w4.fr (fun j _ _ => by simp (disch := omega) only [up_fn, cpm_cell, fil_cell]), ?_, w6.fr (fun s b _ _ => by simp (disch := omega) only [up_fn, cpm_cell, fil_cell]), w7.fr (fun s _ => ⟨by simp (disch := omega) only [up_fn, cpm_cell, fil_cell], by simp (disch := omega) only [up_fn, cpm_cell, fil_cell]⟩), w8.fr (by simp (disch := omega) only [up_fn, cpm_cell, fil_cell])⟩
          unfold WfRd
          simp (disch := omega) only [up_fn, up_cell, up_same]
          refine ⟨by omega, fun e h_e => ?_⟩
          by_cases h_er : e = r
          · subst h_er
            simp (disch := omega) only [up_fn, up_cell, up_same, up_idx]
            exact ⟨by omega, by omega, h_q, (a2 e h_e).2.2.2⟩
          · simp (disch := omega) only [up_fn, up_cell, up_same, up_idx]
            exact a2 e h_e
    · rw [if_pos (by omega)] at h_k h_m
      exact ⟨_, σ, _, _, (by decide), (by decide), rI_P h_k ⟨rfl, KC.rf _⟩, rI_P h_m ⟨rfl, hr⟩, hw⟩
  · have h_k := c_readerN (x := x1) (σ := σ) age s q h_2 h_s
    rw [if_pos (by omega)] at h_m
    exact ⟨_, σ, _, _, (by decide), (by decide), rI_P h_k ⟨rfl, KC.rf _⟩, rI_P h_m ⟨rfl, hr⟩, hw⟩
theorem op_know (r c y : Int) (h_1 : (-2147483648 ≤ r ∧ r < 2147483648)) (h_2 : (-2147483648 ≤ c ∧ c < 2147483648)) (h_3 : (-2147483648 ≤ y ∧ y < 2147483648)) : OP x1 x2 yX11_know yX12_know [iv r, iv c, iv y] := by
  intro σ μ hw hr
  obtain ⟨w1, w2, w3, w4, w5, w6, w7, w8⟩ := id hw
  obtain ⟨r1, r2, r3, r4, r5, r6, r7, r8⟩ := id hr
  obtain ⟨a1, a2⟩ := id w5
  obtain ⟨b1, b2⟩ := id r5
  have h_m := m_know (x := x2) (μ := μ) r c y h_1 h_2 h_3 (by omega)
  rw [b1] at h_m
  by_cases h_r : 0 ≤ r ∧ r < σ 0 8
  · obtain ⟨rr, h_rr, rfl⟩ := nat_of (n := 20) (z := r) (by omega)
    by_cases h_c : 0 ≤ c ∧ c ≤ 4
    · obtain ⟨e, h_e4, rfl⟩ := nat_of (n := 4) h_c
      have h_k := c_know (x := x1) (σ := σ) rr e y (by omega) (by omega) (by omega) h_3
      rw [if_neg (by omega)] at h_m
      by_cases h_y : 0 ≤ y ∧ y ≤ 50
      · rw [if_neg (by omega)] at h_k h_m
        refine ⟨_, _, _, _, (by decide), (by decide), rI_P h_k ⟨rfl, KC.rf _⟩, rI_P h_m ⟨(b2 rr (by omega)).2.2.2 e (by omega) (by omega), ?_⟩, ?_⟩
        · refine ⟨(fun e h_e5 => (r1 e h_e5).fr h_e5 (fun j _ _ => by simp (disch := omega) only [up_fn, cpm_cell, fil_cell]) (fun j _ _ => by simp (disch := omega) only [up_fn, cpm_cell, fil_cell])), r2.fr (fun j _ _ => by simp (disch := omega) only [up_fn, cpm_cell, fil_cell]) ⟨by simp (disch := omega) only [up_fn, cpm_cell, fil_cell], by simp (disch := omega) only [up_fn, cpm_cell, fil_cell], by simp (disch := omega) only [up_fn, cpm_cell, fil_cell]⟩ ⟨by simp (disch := omega) only [up_cell, up_idx, up_same, cpm_at, fil_at], by simp (disch := omega) only [up_cell, up_idx, up_same, cpm_at, fil_at], by simp (disch := omega) only [up_cell, up_idx, up_same, cpm_at, fil_at]⟩, r3.fr (fun j _ _ => by simp (disch := omega) only [up_fn, cpm_cell, fil_cell]) (fun j _ _ => by simp (disch := omega) only [up_fn, cpm_cell, fil_cell]) (by simp (disch := omega) only [up_cell, up_idx, up_same, cpm_at, fil_at]), r4.fr (fun j _ _ => by simp (disch := omega) only [up_fn, cpm_cell, fil_cell]) (fun j _ _ => by simp (disch := omega) only [up_fn, cpm_cell, fil_cell]) (by simp (disch := omega) only [up_cell, up_idx, up_same, cpm_at, fil_at]), ?_, r6.fr (fun s b _ _ => by simp (disch := omega) only [up_fn, cpm_cell, fil_cell]) (by simp (disch := omega) only [up_fn, cpm_cell, fil_cell]), r7.fr (fun s _ => ⟨by simp (disch := omega) only [up_fn, cpm_cell, fil_cell], by simp (disch := omega) only [up_fn, cpm_cell, fil_cell]⟩) ⟨by simp (disch := omega) only [up_fn, cpm_cell, fil_cell], by simp (disch := omega) only [up_fn, cpm_cell, fil_cell]⟩, r8.fr (by simp (disch := omega) only [up_fn, cpm_cell, fil_cell]) (by simp (disch := omega) only [up_fn, cpm_cell, fil_cell])⟩
          unfold ReRd
          simp (disch := omega) only [up_fn, up_cell]
          refine ⟨b1, fun g h_g => ?_⟩
          obtain ⟨g1, g2, g3, g4⟩ := b2 g h_g
          refine ⟨g1, g2, g3, fun v h_v0 h_v1 => ?_⟩
          by_cases h_q : g = rr ∧ v = e
          · obtain ⟨rfl, rfl⟩ := h_q
            rw [up_same, up_same]
          · rw [up_idx (by omega), g4 v h_v0 h_v1]
            by_cases h_q2 : g = rr
            · subst h_q2
              rw [up_idx (by omega)]
            · rw [up_cell (by omega)]
        · refine ⟨(fun e h_e5 => (w1 e h_e5).fr h_e5 (fun j _ _ => by simp (disch := omega) only [up_fn, cpm_cell, fil_cell])), w2.fr (fun j _ _ => by simp (disch := omega) only [up_fn, cpm_cell, fil_cell]), w3.fr (fun j _ _ => by simp (disch := omega) only [up_fn, cpm_cell, fil_cell]), w4.fr (fun j _ _ => by simp (disch := omega) only [up_fn, cpm_cell, fil_cell]), ?_, w6.fr (fun s b _ _ => by simp (disch := omega) only [up_fn, cpm_cell, fil_cell]), w7.fr (fun s _ => ⟨by simp (disch := omega) only [up_fn, cpm_cell, fil_cell], by simp (disch := omega) only [up_fn, cpm_cell, fil_cell]⟩), w8.fr (by simp (disch := omega) only [up_fn, cpm_cell, fil_cell])⟩
          unfold WfRd
          simp (disch := omega) only [up_fn, up_cell]
          refine ⟨a1, fun g h_g => ?_⟩
          obtain ⟨g1, g2, g3, g4⟩ := a2 g h_g
          refine ⟨g1, g2, g3, fun v h_v0 h_v1 => ?_⟩
          unfold up
          split
          · omega
          · exact g4 v h_v0 h_v1
      · rw [if_pos (by omega)] at h_k h_m
        exact ⟨_, σ, _, _, (by decide), (by decide), rI_P h_k ⟨rfl, KC.rf _⟩, rI_P h_m ⟨rfl, hr⟩, hw⟩
    · have h_k := c_knowN2 (x := x1) (σ := σ) rr c y (by omega) (by omega) h_2 h_c
      rw [if_pos (by omega)] at h_m
      exact ⟨_, σ, _, _, (by decide), (by decide), rI_P h_k ⟨rfl, KC.rf _⟩, rI_P h_m ⟨rfl, hr⟩, hw⟩
  · have h_k := c_knowN (x := x1) (σ := σ) r c y h_1 h_r a1
    rw [if_pos (by omega)] at h_m
    exact ⟨_, σ, _, _, (by decide), (by decide), rI_P h_k ⟨rfl, KC.rf _⟩, rI_P h_m ⟨rfl, hr⟩, hw⟩
theorem op_move (r s : Int) (h_1 : (-2147483648 ≤ r ∧ r < 2147483648)) (h_2 : (-2147483648 ≤ s ∧ s < 2147483648)) : OP x1 x2 yX11_move yX12_move [iv r, iv s] := by
  intro σ μ hw hr
  obtain ⟨w1, w2, w3, w4, w5, w6, w7, w8⟩ := id hw
  obtain ⟨r1, r2, r3, r4, r5, r6, r7, r8⟩ := id hr
  obtain ⟨a1, a2⟩ := id w5
  obtain ⟨b1, b2⟩ := id r5
  have h_m := m_move (x := x2) (μ := μ) r s h_1 h_2 (by omega)
  rw [b1] at h_m
  by_cases h_r : 0 ≤ r ∧ r < σ 0 8
  · obtain ⟨rr, h_rr, rfl⟩ := nat_of (n := 20) (z := r) (by omega)
    by_cases h_c : 0 ≤ s ∧ s ≤ 5
    · obtain ⟨e, h_e4, rfl⟩ := nat_of (n := 5) h_c
      have h_k := c_move (x := x1) (σ := σ) rr e (by omega) (by omega) (by omega)
      rw [if_neg (by omega)] at h_m
      refine ⟨_, _, _, _, (by decide), (by decide), rI_P h_k ⟨rfl, KC.rf _⟩, rI_P h_m ⟨(b2 rr (by omega)).2.1, ?_⟩, ?_⟩
      · refine ⟨(fun e h_e5 => (r1 e h_e5).fr h_e5 (fun j _ _ => by simp (disch := omega) only [up_fn, cpm_cell, fil_cell]) (fun j _ _ => by simp (disch := omega) only [up_fn, cpm_cell, fil_cell])), r2.fr (fun j _ _ => by simp (disch := omega) only [up_fn, cpm_cell, fil_cell]) ⟨by simp (disch := omega) only [up_fn, cpm_cell, fil_cell], by simp (disch := omega) only [up_fn, cpm_cell, fil_cell], by simp (disch := omega) only [up_fn, cpm_cell, fil_cell]⟩ ⟨by simp (disch := omega) only [up_cell, up_idx, up_same, cpm_at, fil_at], by simp (disch := omega) only [up_cell, up_idx, up_same, cpm_at, fil_at], by simp (disch := omega) only [up_cell, up_idx, up_same, cpm_at, fil_at]⟩, r3.fr (fun j _ _ => by simp (disch := omega) only [up_fn, cpm_cell, fil_cell]) (fun j _ _ => by simp (disch := omega) only [up_fn, cpm_cell, fil_cell]) (by simp (disch := omega) only [up_cell, up_idx, up_same, cpm_at, fil_at]), r4.fr (fun j _ _ => by simp (disch := omega) only [up_fn, cpm_cell, fil_cell]) (fun j _ _ => by simp (disch := omega) only [up_fn, cpm_cell, fil_cell]) (by simp (disch := omega) only [up_cell, up_idx, up_same, cpm_at, fil_at]), ?_, r6.fr (fun s b _ _ => by simp (disch := omega) only [up_fn, cpm_cell, fil_cell]) (by simp (disch := omega) only [up_fn, cpm_cell, fil_cell]), r7.fr (fun s _ => ⟨by simp (disch := omega) only [up_fn, cpm_cell, fil_cell], by simp (disch := omega) only [up_fn, cpm_cell, fil_cell]⟩) ⟨by simp (disch := omega) only [up_fn, cpm_cell, fil_cell], by simp (disch := omega) only [up_fn, cpm_cell, fil_cell]⟩, r8.fr (by simp (disch := omega) only [up_fn, cpm_cell, fil_cell]) (by simp (disch := omega) only [up_fn, cpm_cell, fil_cell])⟩
        unfold ReRd
        simp (disch := omega) only [up_fn, up_cell]
        refine ⟨b1, fun g h_g => ?_⟩
        obtain ⟨g1, g2, g3, g4⟩ := b2 g h_g
        by_cases h_q : g = rr
        · subst h_q
          simp (disch := omega) only [up_same, up_idx]
          exact ⟨g1, trivial, g3, g4⟩
        · simp (disch := omega) only [up_cell, up_idx]
          exact ⟨g1, g2, g3, g4⟩
      · refine ⟨(fun e h_e5 => (w1 e h_e5).fr h_e5 (fun j _ _ => by simp (disch := omega) only [up_fn, cpm_cell, fil_cell])), w2.fr (fun j _ _ => by simp (disch := omega) only [up_fn, cpm_cell, fil_cell]), w3.fr (fun j _ _ => by simp (disch := omega) only [up_fn, cpm_cell, fil_cell]), w4.fr (fun j _ _ => by simp (disch := omega) only [up_fn, cpm_cell, fil_cell]), ?_, w6.fr (fun s b _ _ => by simp (disch := omega) only [up_fn, cpm_cell, fil_cell]), w7.fr (fun s _ => ⟨by simp (disch := omega) only [up_fn, cpm_cell, fil_cell], by simp (disch := omega) only [up_fn, cpm_cell, fil_cell]⟩), w8.fr (by simp (disch := omega) only [up_fn, cpm_cell, fil_cell])⟩
        unfold WfRd
        simp (disch := omega) only [up_fn, up_cell]
        refine ⟨a1, fun g h_g => ?_⟩
        obtain ⟨g1, g2, g3, g4⟩ := a2 g h_g
        by_cases h_q : g = rr
        · subst h_q
          simp (disch := omega) only [up_same, up_idx]
          exact ⟨g1, by omega, g3, g4⟩
        · simp (disch := omega) only [up_cell, up_idx]
          exact ⟨g1, g2, g3, g4⟩
    · have h_k := c_moveN2 (x := x1) (σ := σ) rr s (by omega) (by omega) h_2 h_c
      rw [if_pos (by omega)] at h_m
      exact ⟨_, σ, _, _, (by decide), (by decide), rI_P h_k ⟨rfl, KC.rf _⟩, rI_P h_m ⟨rfl, hr⟩, hw⟩
  · have h_k := c_moveN (x := x1) (σ := σ) r s h_1 h_r a1
    rw [if_pos (by omega)] at h_m
    exact ⟨_, σ, _, _, (by decide), (by decide), rI_P h_k ⟨rfl, KC.rf _⟩, rI_P h_m ⟨rfl, hr⟩, hw⟩
theorem op_part (l p : Int) (h_1 : (-2147483648 ≤ l ∧ l < 2147483648)) (h_2 : (-2147483648 ≤ p ∧ p < 2147483648)) : OP x1 x2 yX11_part yX12_part [iv l, iv p] := by
  intro σ μ hw hr
  obtain ⟨w1, w2, w3, w4, w5, w6, w7, w8⟩ := id hw
  obtain ⟨r1, r2, r3, r4, r5, r6, r7, r8⟩ := id hr
  have h_k := c_part (x := x1) (σ := σ) l p h_1 h_2
  have h_m := m_part (x := x2) (μ := μ) l p h_1 h_2
  by_cases h_l : 0 ≤ l ∧ l ≤ 25
  · rw [if_neg (by omega)] at h_k h_m
    by_cases h_p : -1 ≤ p ∧ p ≤ 6
    · rw [if_neg (by omega)] at h_k h_m
      refine ⟨_, _, _, _, (by decide), (by decide), rI_P h_k ⟨rfl, KC.rf _⟩, rI_P h_m ⟨r8 l (by omega) (by omega), ?_⟩, ?_⟩
      · refine ⟨(fun e h_e5 => (r1 e h_e5).fr h_e5 (fun j _ _ => by simp (disch := omega) only [up_fn, cpm_cell, fil_cell]) (fun j _ _ => by simp (disch := omega) only [up_fn, cpm_cell, fil_cell])), r2.fr (fun j _ _ => by simp (disch := omega) only [up_fn, cpm_cell, fil_cell]) ⟨by simp (disch := omega) only [up_fn, cpm_cell, fil_cell], by simp (disch := omega) only [up_fn, cpm_cell, fil_cell], by simp (disch := omega) only [up_fn, cpm_cell, fil_cell]⟩ ⟨by simp (disch := omega) only [up_cell, up_idx, up_same, cpm_at, fil_at], by simp (disch := omega) only [up_cell, up_idx, up_same, cpm_at, fil_at], by simp (disch := omega) only [up_cell, up_idx, up_same, cpm_at, fil_at]⟩, r3.fr (fun j _ _ => by simp (disch := omega) only [up_fn, cpm_cell, fil_cell]) (fun j _ _ => by simp (disch := omega) only [up_fn, cpm_cell, fil_cell]) (by simp (disch := omega) only [up_cell, up_idx, up_same, cpm_at, fil_at]), r4.fr (fun j _ _ => by simp (disch := omega) only [up_fn, cpm_cell, fil_cell]) (fun j _ _ => by simp (disch := omega) only [up_fn, cpm_cell, fil_cell]) (by simp (disch := omega) only [up_cell, up_idx, up_same, cpm_at, fil_at]), r5.fr (by simp (disch := omega) only [up_cell, up_idx, up_same, cpm_at, fil_at]) (fun j _ _ => by simp (disch := omega) only [up_fn, cpm_cell, fil_cell]) (fun j _ _ => by simp (disch := omega) only [up_fn, cpm_cell, fil_cell]) (by simp (disch := omega) only [up_cell, up_idx, up_same, cpm_at, fil_at]), r6.fr (fun s b _ _ => by simp (disch := omega) only [up_fn, cpm_cell, fil_cell]) (by simp (disch := omega) only [up_fn, cpm_cell, fil_cell]), r7.fr (fun s _ => ⟨by simp (disch := omega) only [up_fn, cpm_cell, fil_cell], by simp (disch := omega) only [up_fn, cpm_cell, fil_cell]⟩) ⟨by simp (disch := omega) only [up_fn, cpm_cell, fil_cell], by simp (disch := omega) only [up_fn, cpm_cell, fil_cell]⟩, ?_⟩
        intro g h_g0 h_g1
        by_cases h_q : g = l
        · subst h_q
          rw [up_same, up_same]
        · rw [up_idx h_q, up_idx h_q]
          exact r8 g h_g0 h_g1
      · refine ⟨(fun e h_e5 => (w1 e h_e5).fr h_e5 (fun j _ _ => by simp (disch := omega) only [up_fn, cpm_cell, fil_cell])), w2.fr (fun j _ _ => by simp (disch := omega) only [up_fn, cpm_cell, fil_cell]), w3.fr (fun j _ _ => by simp (disch := omega) only [up_fn, cpm_cell, fil_cell]), w4.fr (fun j _ _ => by simp (disch := omega) only [up_fn, cpm_cell, fil_cell]), w5.fr (by simp (disch := omega) only [up_cell, up_idx, up_same, cpm_at, fil_at]) (fun j _ _ => by simp (disch := omega) only [up_fn, cpm_cell, fil_cell]), w6.fr (fun s b _ _ => by simp (disch := omega) only [up_fn, cpm_cell, fil_cell]), w7.fr (fun s _ => ⟨by simp (disch := omega) only [up_fn, cpm_cell, fil_cell], by simp (disch := omega) only [up_fn, cpm_cell, fil_cell]⟩), ?_⟩
        intro g h_g0 h_g1
        unfold up
        split
        · omega
        · exact w8 g h_g0 h_g1
    · rw [if_pos (by omega)] at h_k h_m
      exact ⟨_, σ, _, _, (by decide), (by decide), rI_P h_k ⟨rfl, KC.rf _⟩, rI_P h_m ⟨rfl, hr⟩, hw⟩
  · rw [if_pos (by omega)] at h_k h_m
    exact ⟨_, σ, _, _, (by decide), (by decide), rI_P h_k ⟨rfl, KC.rf _⟩, rI_P h_m ⟨rfl, hr⟩, hw⟩
theorem op_shelf (s b c n : Int) (h_1 : (-2147483648 ≤ s ∧ s < 2147483648)) (h_2 : (-2147483648 ≤ b ∧ b < 2147483648)) (h_3 : (-2147483648 ≤ c ∧ c < 2147483648)) (h_4 : (-2147483648 ≤ n ∧ n < 2147483648)) : OP x1 x2 yX11_shelf yX12_shelf [iv s, iv b, iv c, iv n] := by
  intro σ μ hw hr
  obtain ⟨w1, w2, w3, w4, w5, w6, w7, w8⟩ := id hw
  obtain ⟨r1, r2, r3, r4, r5, r6, r7, r8⟩ := id hr
  have h_m := m_shelf (x := x2) (μ := μ) s b c n h_1 h_2 h_3 h_4
  by_cases h_s : 0 ≤ s ∧ s ≤ 5
  · obtain ⟨ss, h_s5, rfl⟩ := nat_of (n := 5) h_s
    by_cases h_b : 0 ≤ b ∧ b ≤ 7
    · obtain ⟨bb, h_b7, rfl⟩ := nat_of (n := 7) h_b
      by_cases h_c : 0 ≤ c ∧ c ≤ 4
      · obtain ⟨cc, h_c4, rfl⟩ := nat_of (n := 4) h_c
        have h_k := c_shelf (x := x1) (σ := σ) ss bb cc n (by omega) (by omega) (by omega) h_4
        rw [if_neg (by omega)] at h_m
        by_cases h_n : 0 ≤ n ∧ n ≤ 100
        · rw [if_neg (by omega)] at h_k h_m
          refine ⟨_, _, _, _, (by decide), (by decide), rI_P h_k ⟨rfl, KC.rf _⟩, rI_P h_m ⟨r6 ss (by omega) bb (by omega) cc (by omega) (by omega), ?_⟩, ?_⟩
          · refine ⟨(fun e h_e5 => (r1 e h_e5).fr h_e5 (fun j _ _ => by simp (disch := omega) only [up_fn, cpm_cell, fil_cell]) (fun j _ _ => by simp (disch := omega) only [up_fn, cpm_cell, fil_cell])), r2.fr (fun j _ _ => by simp (disch := omega) only [up_fn, cpm_cell, fil_cell]) ⟨by simp (disch := omega) only [up_fn, cpm_cell, fil_cell], by simp (disch := omega) only [up_fn, cpm_cell, fil_cell], by simp (disch := omega) only [up_fn, cpm_cell, fil_cell]⟩ ⟨by simp (disch := omega) only [up_cell, up_idx, up_same, cpm_at, fil_at], by simp (disch := omega) only [up_cell, up_idx, up_same, cpm_at, fil_at], by simp (disch := omega) only [up_cell, up_idx, up_same, cpm_at, fil_at]⟩, r3.fr (fun j _ _ => by simp (disch := omega) only [up_fn, cpm_cell, fil_cell]) (fun j _ _ => by simp (disch := omega) only [up_fn, cpm_cell, fil_cell]) (by simp (disch := omega) only [up_cell, up_idx, up_same, cpm_at, fil_at]), r4.fr (fun j _ _ => by simp (disch := omega) only [up_fn, cpm_cell, fil_cell]) (fun j _ _ => by simp (disch := omega) only [up_fn, cpm_cell, fil_cell]) (by simp (disch := omega) only [up_cell, up_idx, up_same, cpm_at, fil_at]), r5.fr (by simp (disch := omega) only [up_cell, up_idx, up_same, cpm_at, fil_at]) (fun j _ _ => by simp (disch := omega) only [up_fn, cpm_cell, fil_cell]) (fun j _ _ => by simp (disch := omega) only [up_fn, cpm_cell, fil_cell]) (by simp (disch := omega) only [up_cell, up_idx, up_same, cpm_at, fil_at]), ?_, r7.fr (fun s _ => ⟨by simp (disch := omega) only [up_fn, cpm_cell, fil_cell], by simp (disch := omega) only [up_fn, cpm_cell, fil_cell]⟩) ⟨by simp (disch := omega) only [up_fn, cpm_cell, fil_cell], by simp (disch := omega) only [up_fn, cpm_cell, fil_cell]⟩, r8.fr (by simp (disch := omega) only [up_fn, cpm_cell, fil_cell]) (by simp (disch := omega) only [up_fn, cpm_cell, fil_cell])⟩
            intro s2 h_s2 b2 h_b2 v h_v0 h_v1
            by_cases h_q : s2 = ss ∧ b2 = bb ∧ v = cc
            · obtain ⟨rfl, rfl, rfl⟩ := h_q
              rw [up_same, up_same]
            · rw [up_idx (by omega), r6 s2 h_s2 b2 h_b2 v h_v0 h_v1]
              by_cases h_q2 : s2 = ss ∧ b2 = bb
              · obtain ⟨rfl, rfl⟩ := h_q2
                rw [up_idx (by omega)]
              · rw [up_cell (by omega)]
          · refine ⟨(fun e h_e5 => (w1 e h_e5).fr h_e5 (fun j _ _ => by simp (disch := omega) only [up_fn, cpm_cell, fil_cell])), w2.fr (fun j _ _ => by simp (disch := omega) only [up_fn, cpm_cell, fil_cell]), w3.fr (fun j _ _ => by simp (disch := omega) only [up_fn, cpm_cell, fil_cell]), w4.fr (fun j _ _ => by simp (disch := omega) only [up_fn, cpm_cell, fil_cell]), w5.fr (by simp (disch := omega) only [up_cell, up_idx, up_same, cpm_at, fil_at]) (fun j _ _ => by simp (disch := omega) only [up_fn, cpm_cell, fil_cell]), ?_, w7.fr (fun s _ => ⟨by simp (disch := omega) only [up_fn, cpm_cell, fil_cell], by simp (disch := omega) only [up_fn, cpm_cell, fil_cell]⟩), w8.fr (by simp (disch := omega) only [up_fn, cpm_cell, fil_cell])⟩
            intro s2 h_s2 b2 h_b2 v h_v0 h_v1
            unfold up
            split
            · omega
            · exact w6 s2 h_s2 b2 h_b2 v h_v0 h_v1
        · rw [if_pos (by omega)] at h_k h_m
          exact ⟨_, σ, _, _, (by decide), (by decide), rI_P h_k ⟨rfl, KC.rf _⟩, rI_P h_m ⟨rfl, hr⟩, hw⟩
      · have h_k := c_shelfN3 (x := x1) (σ := σ) ss bb c n (by omega) h_2 (by omega) h_3 h_c
        rw [if_pos (by omega)] at h_m
        exact ⟨_, σ, _, _, (by decide), (by decide), rI_P h_k ⟨rfl, KC.rf _⟩, rI_P h_m ⟨rfl, hr⟩, hw⟩
    · have h_k := c_shelfN2 (x := x1) (σ := σ) ss b c n (by omega) h_2 h_b
      rw [if_pos (by omega)] at h_m
      exact ⟨_, σ, _, _, (by decide), (by decide), rI_P h_k ⟨rfl, KC.rf _⟩, rI_P h_m ⟨rfl, hr⟩, hw⟩
  · have h_k := c_shelfN (x := x1) (σ := σ) s b c n h_1 h_s
    rw [if_pos (by omega)] at h_m
    exact ⟨_, σ, _, _, (by decide), (by decide), rI_P h_k ⟨rfl, KC.rf _⟩, rI_P h_m ⟨rfl, hr⟩, hw⟩
theorem op_abbreviate (code : Int) (h_1 : (-2147483648 ≤ code ∧ code < 2147483648)) : OP x1 x2 yX11_abbreviate yX12_abbreviate [iv code] := by
  intro σ μ hw hr
  obtain ⟨w1, w2, w3, w4, w5, w6, w7, w8⟩ := id hw
  obtain ⟨r1, r2, r3, r4, r5, r6, r7, r8⟩ := id hr
  obtain ⟨p1, p2, p3, p4, p5, p6⟩ := id w2
  obtain ⟨q1, q2, q3, q4, q5, q6⟩ := id r2
  by_cases h_c : 0 ≤ code ∧ code ≤ 4
  · obtain ⟨c, h_c4, rfl⟩ := nat_of (n := 4) h_c
    obtain ⟨a1, a2, a3, a4⟩ := id (w1 c (by omega))
    obtain ⟨b1, b2, b3⟩ := id (r1 c (by omega))
    have h_m := m_abbreviate (x := x2) (μ := μ) c h_1 (fun _ _ => by omega) (by omega) (by omega)
    have h_k := c_abbreviate (x := x1) (σ := σ) c (by omega) a2 a3 p1 p3
    rw [q1, q3, b2, if_neg (by omega)] at h_m
    by_cases h_f : 12 ≤ σ (4 + 7 * c) 3
    · rw [if_pos h_f] at h_k h_m
      exact ⟨_, σ, _, _, (by decide), (by decide), rI_P h_k ⟨rfl, KC.rf _⟩, rI_P h_m ⟨rfl, hr⟩, hw⟩
    · rw [if_neg h_f] at h_k h_m
      by_cases h_z : ¬ ((2 ≤ σ 37 1 ∧ σ 37 1 ≤ 4) ∧ 1 ≤ σ 39 1 ∧ σ 39 1 ≤ 2)
      · rw [if_pos h_z] at h_k h_m
        exact ⟨_, σ, _, _, (by decide), (by decide), rI_P h_k ⟨rfl, KC.rf _⟩, rI_P h_m ⟨rfl, hr⟩, hw⟩
      · rw [if_neg h_z] at h_k h_m
        refine ⟨_, _, _, _, (by decide), (by decide), rI_P h_k ⟨rfl, KC.rf _⟩, rI_P h_m ⟨rfl, ?_⟩, ?_⟩
        · refine ⟨fun e h_e => ?_, ?_, r3.fr (fun j _ _ => by simp (disch := omega) only [up_fn, cpm_cell, fil_cell]) (fun j _ _ => by simp (disch := omega) only [up_fn, cpm_cell, fil_cell]) (by simp (disch := omega) only [up_cell, up_idx, up_same, cpm_at, fil_at]), r4.fr (fun j _ _ => by simp (disch := omega) only [up_fn, cpm_cell, fil_cell]) (fun j _ _ => by simp (disch := omega) only [up_fn, cpm_cell, fil_cell]) (by simp (disch := omega) only [up_cell, up_idx, up_same, cpm_at, fil_at]), r5.fr (by simp (disch := omega) only [up_cell, up_idx, up_same, cpm_at, fil_at]) (fun j _ _ => by simp (disch := omega) only [up_fn, cpm_cell, fil_cell]) (fun j _ _ => by simp (disch := omega) only [up_fn, cpm_cell, fil_cell]) (by simp (disch := omega) only [up_cell, up_idx, up_same, cpm_at, fil_at]), r6.fr (fun s b _ _ => by simp (disch := omega) only [up_fn, cpm_cell, fil_cell]) (by simp (disch := omega) only [up_fn, cpm_cell, fil_cell]), r7.fr (fun s _ => ⟨by simp (disch := omega) only [up_fn, cpm_cell, fil_cell], by simp (disch := omega) only [up_fn, cpm_cell, fil_cell]⟩) ⟨by simp (disch := omega) only [up_fn, cpm_cell, fil_cell], by simp (disch := omega) only [up_fn, cpm_cell, fil_cell]⟩, r8.fr (by simp (disch := omega) only [up_fn, cpm_cell, fil_cell]) (by simp (disch := omega) only [up_fn, cpm_cell, fil_cell])⟩
          · obtain ⟨f1, f2, f3⟩ := r1 e h_e
            obtain ⟨g1, g2, g3, g4⟩ := w1 e h_e
            by_cases h_ec : e = c
            · subst h_ec
              unfold ReCode
              simp (disch := omega) only [up_fn, cpm_cell, up_cell, up_same]
              refine ⟨f1, trivial, fun s h_s0 h_s1 => ?_⟩
              by_cases h_s : s = σ (4 + 7 * e) 3
              · subst h_s
                simp only [up_same]
                refine ⟨trivial, fun i h_i0 h_i1 => ?_, ?_, fun h_0 => ?_, fun h_0 => ?_⟩
                · rw [cpm_in (by omega), cpm_in (by omega)]
                  rw [show (0 : Int) + (4 * (12 * (e : Int) + σ (4 + 7 * e) 3) + i - 4 * (12 * (e : Int) + σ (4 + 7 * e) 3)) = i by omega, show (0 : Int) + (4 * σ (4 + 7 * e) 3 + i - 4 * σ (4 + 7 * e) 3) = i by omega]
                  exact q2 i h_i0 h_i1
                · rw [cpm_in (by omega), cpm_at (by decide), show (0 : Int) + (2 * (12 * (e : Int) + σ (4 + 7 * e) 3) - 2 * (12 * (e : Int) + σ (4 + 7 * e) 3)) = 0 by omega]
                  exact q4 0 (by omega) (by omega)
                · by_cases h_9 : σ 39 1 ≤ 1
                  · omega
                  · rw [if_neg h_9] at h_0
                    have := p4 1 (by omega) (by omega)
                    omega
                · by_cases h_9 : σ 39 1 ≤ 1
                  · rw [if_pos h_9] at h_0
                    exact absurd rfl h_0
                  · rw [if_neg h_9]
                    refine ⟨by omega, ?_⟩
                    rw [cpm_in (by omega), cpm_at (by decide), show (0 : Int) + (2 * (12 * (e : Int) + σ (4 + 7 * e) 3) + 1 - 2 * (12 * (e : Int) + σ (4 + 7 * e) 3)) = 1 by omega]
                    exact q4 1 (by omega) (by omega)
              · simp (disch := omega) only [up_idx, up_cell, cpm_at]
                obtain ⟨k1, k2, k3, k4, k5⟩ := f3 s h_s0 (by omega)
                obtain ⟨k6, k7⟩ := g4 s h_s0 (by omega)
                refine ⟨k1, fun i h_i0 h_i1 => ?_, ?_, k4, fun h_0 => ⟨(k5 h_0).1, ?_⟩⟩
                · rw [cpm_out (by omega), cpm_out (by omega)]
                  exact k2 i h_i0 h_i1
                · rw [cpm_out (by omega), cpm_at (by decide)]
                  exact k3
                · rw [cpm_out (by omega), cpm_at (by decide)]
                  exact (k5 h_0).2
            · unfold ReCode
              simp (disch := omega) only [up_fn, cpm_cell, up_cell, up_idx]
              refine ⟨f1, f2, fun s h_s0 h_s1 => ?_⟩
              obtain ⟨k1, k2, k3, k4, k5⟩ := f3 s h_s0 h_s1
              obtain ⟨k6, k7⟩ := g4 s h_s0 h_s1
              simp (disch := omega) only [up_idx, up_cell, cpm_at]
              refine ⟨k1, fun i h_i0 h_i1 => ?_, ?_, k4, fun h_0 => ⟨(k5 h_0).1, ?_⟩⟩
              · rw [cpm_out (by omega)]
                exact k2 i h_i0 h_i1
              · rw [cpm_out (by omega)]
                exact k3
              · rw [cpm_out (by omega)]
                exact (k5 h_0).2
          · unfold RePad
            simp (disch := omega) only [up_fn, cpm_cell, up_cell, up_idx, up_same, cpm_at]
            exact ⟨trivial, fun i h_i0 h_i1 => absurd h_i1 (by omega), trivial, fun i h_i0 h_i1 => absurd h_i1 (by omega), q5, q6⟩
        · refine ⟨fun e h_e => ?_, ?_, w3.fr (fun j _ _ => by simp (disch := omega) only [up_fn, cpm_cell, fil_cell]), w4.fr (fun j _ _ => by simp (disch := omega) only [up_fn, cpm_cell, fil_cell]), w5.fr (by simp (disch := omega) only [up_cell, up_idx, up_same, cpm_at, fil_at]) (fun j _ _ => by simp (disch := omega) only [up_fn, cpm_cell, fil_cell]), w6.fr (fun s b _ _ => by simp (disch := omega) only [up_fn, cpm_cell, fil_cell]), w7.fr (fun s _ => ⟨by simp (disch := omega) only [up_fn, cpm_cell, fil_cell], by simp (disch := omega) only [up_fn, cpm_cell, fil_cell]⟩), w8.fr (by simp (disch := omega) only [up_fn, cpm_cell, fil_cell])⟩
          · obtain ⟨g1, g2, g3, g4⟩ := w1 e h_e
            by_cases h_ec : e = c
            · subst h_ec
              unfold WfCode
              simp (disch := omega) only [up_fn, cpm_cell, up_cell, up_same, up_idx]
              refine ⟨g1, g2, by omega, fun s h_s0 h_s1 => ?_⟩
              by_cases h_s : s = σ (4 + 7 * e) 3
              · subst h_s
                simp only [up_same]
                refine ⟨by omega, fun i h_i0 h_i1 => ?_, p4 0 (by omega) (by omega), ?_⟩
                · rw [cpm_in (by omega), show (0 : Int) + (4 * σ (4 + 7 * e) 3 + i - 4 * σ (4 + 7 * e) 3) = i by omega]
                  exact p2 i h_i0 h_i1
                · by_cases h_9 : σ 39 1 ≤ 1
                  · rw [if_pos h_9]
                    omega
                  · rw [if_neg h_9]
                    have := p4 1 (by omega) (by omega)
                    omega
              · simp (disch := omega) only [up_idx, up_cell, cpm_at]
                obtain ⟨k6, k7, k8, k9⟩ := g4 s h_s0 (by omega)
                refine ⟨k6, fun i h_i0 h_i1 => ?_, k8, k9⟩
                rw [cpm_out (by omega)]
                exact k7 i h_i0 h_i1
            · unfold WfCode
              simp (disch := omega) only [up_fn, cpm_cell]
              exact ⟨g1, g2, g3, g4⟩
          · unfold WfPad
            simp (disch := omega) only [up_fn, cpm_cell, up_cell, up_idx, up_same, cpm_at]
            exact ⟨by omega, fun i h_i0 h_i1 => absurd h_i1 (by omega), by omega, fun i h_i0 h_i1 => absurd h_i1 (by omega), p5, p6⟩
  · have h_k := c_abbreviateN (x := x1) (σ := σ) code h_1 h_c
    have h_m := m_abbreviate (x := x2) (μ := μ) code h_1 (fun h_a h_b => absurd ⟨h_a, h_b⟩ h_c) (by omega) (by omega)
    rw [if_pos (by omega)] at h_m
    exact ⟨_, σ, _, _, (by decide), (by decide), rI_P h_k ⟨rfl, KC.rf _⟩, rI_P h_m ⟨rfl, hr⟩, hw⟩
end OP2
