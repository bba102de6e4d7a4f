/-! the calls that read, and poke, clear -/
theorem sim_state : sx_state RR := by
  intro k u v hk hR
  have hR0 := hR
  obtain ⟨n, h1, h2, h3, h4, h5, h6, h7, h8, h9, h10⟩ := hR
  unfold p_state p_m_state
  by_cases c : u.1 6 = 3
  · rw [if_pos c, if_pos (h6 ▸ c), h10.1 c]
    exact ⟨rfl, RR_thr 0 (RR_up k u v hR0)⟩
  · rw [if_neg c, if_neg (h6 ▸ c)]
    exact ⟨h6, RR_thr 0 (RR_up k u v hR0)⟩
theorem sim_at : sx_at RR := by
  intro k u v hk hR
  have hR0 := hR
  obtain ⟨n, h1, h2, h3, h4, h5, h6, h7, h8, h9, h10⟩ := hR
  unfold p_at_ p_m_at
  by_cases c : u.1 6 = 0
  · rw [if_pos c, if_pos (h6 ▸ c)]
    exact ⟨rfl, RR_thr 0 (RR_up k u v hR0)⟩
  · rw [if_neg c, if_neg (h6 ▸ c)]
    exact ⟨(h9 c).2.1, RR_thr 0 (RR_up k u v hR0)⟩
theorem sim_outputs : sx_outputs RR := by
  intro k u v hk hR
  have hR0 := hR
  obtain ⟨n, h1, h2, h3, h4, h5, h6, h7, h8, h9, h10⟩ := hR
  unfold p_outputs p_m_outputs
  by_cases c : u.1 6 = 0
  · rw [if_pos (h6 ▸ c)]
    exact ⟨h8 c, RR_thr 0 (RR_up k u v hR0)⟩
  · rw [if_neg (h6 ▸ c)]
    obtain ⟨-, -, -, -, ⟨q, -, e1, e2⟩, -⟩ := h9 c
    exact ⟨e1.trans e2.symm, RR_thr 0 (RR_up k u v hR0)⟩
theorem nv_iff (x : Int32) : (p_needVariable x = 0 ∧ ¬ p_m_isVariable x = 0 ∧ p_m_isVariable x = 1 ∧ v7 x) ∨ (p_needVariable x = 1 ∧ p_m_isVariable x = 0) := by
  unfold p_needVariable p_m_isVariable
  by_cases c : x < 0
  · rw [if_pos c, if_pos c]; exact Or.inr ⟨rfl, rfl⟩
  · rw [if_neg c, if_neg c]
    by_cases d : x < 8
    · rw [if_pos d, if_neg (Int32.not_le.mpr d)]
      exact Or.inl ⟨rfl, by decide, rfl, i_rg (by omega) rfl c d⟩
    · rw [if_neg d, if_pos (i_nlt d)]; exact Or.inr ⟨rfl, rfl⟩
theorem n20 : ¬ (2 : Nat) = 0 := by decide
theorem n10 : ¬ (1 : Nat) = 0 := by decide
theorem n30 : ¬ (3 : Nat) = 0 := by decide
theorem sim_variable : sx_variable RR := by
  intro k u v x1 hk hR
  have hR0 := hR
  obtain ⟨n, h1, h2, h3, h4, h5, h6, h7, h8, h9, h10⟩ := hR
  refine ⟨⟨fun a => ⟨fun _ => trivial, fun _ => ⟨?_, trivial⟩⟩, fun _ => trivial⟩, ⟨fun _ => trivial, fun a => ⟨fun _ => trivial, fun _ => ⟨?_, trivial⟩⟩⟩, ?_⟩
  · rcases nv_iff x1 with ⟨-, -, -, j, hj, rfl⟩ | ⟨b, -⟩
    · exact vp_in_nI hj (by omega)
    · exact absurd (b.symm.trans a) n10
  · rcases nv_iff x1 with ⟨-, -, -, j, hj, rfl⟩ | ⟨-, b⟩
    · exact vp_in_nI hj (by omega)
    · exact absurd b a
  unfold p_variable p_m_variable
  rcases nv_iff x1 with ⟨a, b, b1, j, hj, rfl⟩ | ⟨a, b⟩
  · rw [if_pos a, if_neg b]
    by_cases c : u.1 6 = 0
    · rw [if_pos c, if_pos (h6 ▸ c)]
      exact ⟨Nat.le_refl 2, rfl, fun h => absurd h n20, RR_thr 2 (RR_up k u v hR0)⟩
    · rw [if_neg c, if_neg (h6 ▸ c)]
      refine ⟨Nat.zero_le 2, rfl, fun _ => ?_, RR_thr 0 (RR_up k u v hR0)⟩
      show u.2 11 (nI j).toNatClampNeg = v.2 10 (nI j).toNatClampNeg
      rw [nI_cl (by omega)]
      exact (h9 c).2.2.2.1 j hj
  · rw [if_neg (by rw [a]; decide), if_pos b, a]
    exact ⟨Nat.le_succ 1, rfl, fun h => absurd h n10, RR_thr 1 (RR_up k u v hR0)⟩
theorem nw_iff (x : Int32) : (p_needWord x = 0 ∧ ¬ x < 0 ∧ ¬ 8 ≤ x ∧ v7 x) ∨ (p_needWord x = 1 ∧ (x < 0 ∨ (¬ x < 0 ∧ 8 ≤ x))) := by
  unfold p_needWord
  by_cases c : x < 0
  · rw [if_pos c]; exact Or.inr ⟨rfl, Or.inl c⟩
  · rw [if_neg c]
    by_cases d : x < 8
    · rw [if_pos d]; exact Or.inl ⟨rfl, c, Int32.not_le.mpr d, i_rg (by omega) rfl c d⟩
    · rw [if_neg d]; exact Or.inr ⟨rfl, Or.inr ⟨c, i_nlt d⟩⟩
theorem w_in {x : Int32} (h0 : ¬ x < 0) (h1 : ¬ 8 ≤ x) : vp_in x 8 := by
  obtain ⟨j, hj, rfl⟩ := i_rg (N := 8) (by omega) rfl h0 (i_nle h1)
  exact vp_in_nI hj (by omega)
theorem nw_in {x : Int32} (a : p_needWord x = 0) : vp_in x 8 := by
  rcases nw_iff x with ⟨-, b, c, -⟩ | ⟨b, -⟩
  · exact w_in b c
  · exact absurd (b.symm.trans a) n10
theorem sim_memory : sx_memory RR := by
  intro k u v x1 hk hR
  have hR0 := hR
  obtain ⟨n, h1, h2, h3, h4, h5, h6, h7, h8, h9, h10⟩ := hR
  refine ⟨⟨fun a => ⟨nw_in a, trivial⟩, fun _ => trivial⟩, ⟨fun _ => trivial, fun a => ⟨fun _ => trivial, fun b => ⟨w_in a b, trivial⟩⟩⟩, ?_⟩
  unfold p_memory p_m_memory
  rcases nw_iff x1 with ⟨a, b, c, j, hj, rfl⟩ | ⟨a, b⟩
  · rw [if_pos a, if_neg b, if_neg c]
    refine ⟨Or.inl rfl, rfl, fun _ => ?_, RR_thr 0 (RR_up k u v hR0)⟩
    show u.2 10 (nI j).toNatClampNeg = v.2 5 (nI j).toNatClampNeg
    rw [nI_cl (by omega)]
    exact h2 j hj
  · rw [if_neg (by rw [a]; decide), a]
    have e : (if x1 < 0 then ((0 : Int32), sS v 0 1) else (if 8 ≤ x1 then (0, sS v 0 1) else (v.2 5 x1.toNatClampNeg, sS v 0 0))) = (0, sS v 0 1) := by
      rcases b with b | ⟨b, c⟩
      · rw [if_pos b]
      · rw [if_neg b, if_pos c]
    rw [e]
    exact ⟨Or.inr rfl, rfl, fun h => absurd h n10, RR_thr 1 (RR_up k u v hR0)⟩
/-- a word set on both sides -/
theorem RN_word {k n : Nat} {u v : St} (j : Nat) (x : Int32) (hj : j < 8) (h : RN k n u v) : RN k n (sA u 10 (nI j) x) (sA v 5 (nI j) x) := by
  obtain ⟨h1, h2, h3, h4, h5, h6, h7, h8, h9, h10⟩ := h
  refine ⟨h1, fun i hi => ?_, h3, h4, h5, h6, h7, h8, h9, h10⟩
  show upd (u.2 10) (nI j).toNatClampNeg x i = upd (v.2 5) (nI j).toNatClampNeg x i
  rw [nI_cl (by omega)]
  by_cases c : i = j
  · subst c; rw [pk_us, pk_us]
  · rw [pk_un c, pk_un c]; exact h2 i hi
theorem sim_poke : sx_poke RR := by
  intro k u v x1 x2 hk hR
  have hR0 := hR
  obtain ⟨n, hn⟩ := hR
  refine ⟨⟨fun a => ⟨nw_in a, trivial⟩, fun _ => trivial⟩, ⟨fun _ => trivial, fun a => ⟨fun _ => trivial, fun b => ⟨w_in a b, trivial⟩⟩⟩, ?_⟩
  unfold p_poke p_m_poke
  rcases nw_iff x1 with ⟨a, b, c, j, hj, rfl⟩ | ⟨a, b⟩
  · rw [if_pos a, if_neg b, if_neg c]
    obtain ⟨n2, hn2⟩ := RR_up k u v hR0
    exact ⟨Or.inl rfl, rfl, n2, RN_word j x2 hj (RN_thr 0 hn2)⟩
  · rw [if_neg (by rw [a]; decide), a]
    have e : (if x1 < 0 then sS v 0 1 else (if 8 ≤ x1 then sS v 0 1 else sA (sS v 0 0) 5 x1 x2)) = sS v 0 1 := by
      rcases b with b | ⟨b, c⟩
      · rw [if_pos b]
      · rw [if_neg b, if_pos c]
    rw [e]
    exact ⟨Or.inr rfl, rfl, RR_thr 1 (RR_up k u v hR0)⟩
theorem isb_1 {x : Int32} (h : isb x) (c : ¬ x = 0) : x = 1 := h.resolve_left c
theorem sim_halfword : sx_halfword RR := by
  intro k u v x1 hk hR
  have hR0 := hR
  obtain ⟨n, h1, h2, h3, h4, h5, h6, h7, h8, h9, h10⟩ := hR
  refine ⟨⟨fun _ => trivial, fun a => ⟨fun _ => trivial, fun b => ⟨fun c => ⟨?_, trivial⟩, fun _ => trivial⟩⟩⟩, ⟨fun _ => trivial, fun a => ⟨fun _ => trivial, fun b => ⟨fun _ => trivial, fun c => ⟨?_, trivial⟩⟩⟩⟩, ?_⟩
  · obtain ⟨-, Ln, hL, e1, -⟩ := h5 (isb_1 h3 a)
    obtain ⟨j, hj, rfl⟩ := i_rg (N := Ln) (by omega) e1 b c
    exact vp_in_nI (by omega) (by omega)
  · obtain ⟨-, Ln, hL, e1, e2, -⟩ := h5 (isb_1 h3 (h4 ▸ a))
    obtain ⟨j, hj, rfl⟩ := i_rg (N := Ln) (by omega) e2 b (i_nle c)
    exact vp_in_nI (by omega) (by omega)
  unfold p_halfword p_m_halfword
  by_cases a : u.1 4 = 0
  · have a' : v.1 2 = 0 := h4 ▸ a
    rw [if_pos a, if_pos a']
    exact ⟨Or.inr rfl, rfl, fun h => absurd h n30, RR_thr 1 (RR_up k u v hR0)⟩
  · have a' : ¬ v.1 2 = 0 := h4 ▸ a
    rw [if_neg a, if_neg a']
    by_cases b : x1 < 0
    · rw [if_pos b, if_pos b]
      exact ⟨Or.inr rfl, rfl, fun h => absurd h n30, RR_thr 1 (RR_up k u v hR0)⟩
    · rw [if_neg b, if_neg b]
      obtain ⟨-, Ln, hL, e1, e2, e3, -⟩ := h5 (isb_1 h3 a)
      by_cases c : x1 < u.1 3
      · rw [if_pos c, if_neg (by rw [e2, ← e1]; exact Int32.not_le.mpr c)]
        refine ⟨Or.inl rfl, rfl, fun _ => ?_, RR_thr 0 (RR_up k u v hR0)⟩
        obtain ⟨j, hj, rfl⟩ := i_rg (N := Ln) (by omega) e1 b c
        show u.2 6 (nI j).toNatClampNeg = v.2 6 (nI j).toNatClampNeg
        rw [nI_cl (by omega)]
        exact e3 j hj
      · rw [if_neg c, if_pos (by rw [e2, ← e1]; exact i_nlt c)]
        exact ⟨Or.inr rfl, rfl, fun h => absurd h n30, RR_thr 1 (RR_up k u v hR0)⟩
theorem sim_place : sx_place RR := by
  intro k u v x1 hk hR
  have hR0 := hR
  obtain ⟨n, h1, h2, h3, h4, h5, h6, h7, h8, h9, h10⟩ := hR
  obtain ⟨hn, e1, e2, e3⟩ := h1
  refine ⟨⟨fun _ => trivial, fun a => ⟨fun _ => trivial, fun b => ⟨fun c => ⟨?_, trivial⟩, fun _ => trivial⟩⟩⟩, ⟨fun _ => trivial, fun a => ⟨fun _ => trivial, fun b => ⟨fun _ => trivial, fun c => ⟨?_, trivial⟩⟩⟩⟩, ?_⟩
  · obtain ⟨j, hj, rfl⟩ := i_rg (N := n) (by omega) e1 b c
    exact vp_in_nI (by omega) (by omega)
  · obtain ⟨j, hj, rfl⟩ := i_rg (N := n) (by omega) e2 b (i_nle c)
    exact vp_in_nI (by omega) (by omega)
  unfold p_place p_m_place
  by_cases a : u.1 4 = 0
  · have a' : v.1 2 = 0 := h4 ▸ a
    rw [if_pos a, if_pos a']
    exact ⟨Or.inr rfl, rfl, fun h => absurd h n30, RR_thr 1 (RR_up k u v hR0)⟩
  · have a' : ¬ v.1 2 = 0 := h4 ▸ a
    rw [if_neg a, if_neg a']
    by_cases b : x1 < 0
    · rw [if_pos b, if_pos b]
      exact ⟨Or.inr rfl, rfl, fun h => absurd h n30, RR_thr 1 (RR_up k u v hR0)⟩
    · rw [if_neg b, if_neg b]
      obtain ⟨-, Ln, -, -, -, -, e5, -⟩ := h5 (isb_1 h3 a)
      by_cases c : x1 < u.1 0
      · rw [if_pos c, if_neg (by rw [e2, ← e1]; exact Int32.not_le.mpr c)]
        refine ⟨Or.inl rfl, rfl, fun _ => ?_, RR_thr 0 (RR_up k u v hR0)⟩
        obtain ⟨j, hj, rfl⟩ := i_rg (N := n) (by omega) e1 b c
        show u.2 7 (nI j).toNatClampNeg = v.2 7 (nI j).toNatClampNeg
        rw [nI_cl (by omega)]
        exact e5 j (by omega)
      · rw [if_neg c, if_pos (by rw [e2, ← e1]; exact i_nlt c)]
        exact ⟨Or.inr rfl, rfl, fun h => absurd h n30, RR_thr 1 (RR_up k u v hR0)⟩
theorem sim_clear : sx_clear RR := by
  intro k u v hk hR
  obtain ⟨n, h1, h2, h3, h4, h5, h6, h7, h8, h9, h10⟩ := hR
  refine ⟨0, ⟨by omega, nI_0.symm, nI_0.symm, fun i h => absurd h (by omega)⟩, h2, Or.inl rfl, rfl, fun h => absurd h (show ¬ (0 : Int32) = 1 by decide), rfl, ⟨0, by omega, nI_0.symm⟩, fun _ => rfl, fun h => absurd rfl h, fun h => absurd h (show ¬ (0 : Int32) = 3 by decide), h10.2⟩
