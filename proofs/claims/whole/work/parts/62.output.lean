/-! output -/
theorem kp_and (x : Int32) : ∃ j : Nat, j < 16 ∧ x &&& 15 = nI j := pk_andE x 4 (by decide)
theorem kp_mod {q : Nat} (h : q < 2 ^ 31) : nI q &&& 15 = nI (q % 16) := pk_andN (by omega) 4 (by decide)
theorem kp_rem {q : Nat} (h : q < 2 ^ 31) : nI q - nI q / 16 * 16 = nI (q % 16) := pk_rem (d := 16) h (by omega) (by omega)
theorem sim_output : sx_output RR := by
  intro k u v x1 hk hR
  have hR0 := hR
  obtain ⟨n, h1, h2, h3, h4, h5, h6, h7, h8, h9, h10⟩ := hR
  refine ⟨⟨fun _ => trivial, fun a => ⟨⟨?_, trivial⟩, trivial⟩⟩, ⟨fun _ => trivial, fun a => ⟨fun _ => trivial, fun b => ⟨fun _ => trivial, fun c => ⟨fun _ => trivial, fun d => ⟨?_, trivial⟩⟩⟩⟩⟩, ?_⟩
  · obtain ⟨j, hj, e⟩ := kp_and x1
    rw [e]
    exact vp_in_nI hj (by omega)
  · obtain ⟨j, hj, rfl⟩ := nI_of b
    rw [kp_rem hj]
    exact vp_in_nI (by omega) (by omega)
  unfold p_output p_m_output p_keeps p_keptOutput
  by_cases a : u.1 6 = 0
  · have a' : v.1 6 = 0 := h6 ▸ a
    have e : (if x1 < 0 then (0 : Int32) else if u.1 5 ≤ x1 then 0 else if x1 < u.1 5 - 16 then 0 else 1) = 0 := by
      by_cases b : x1 < 0
      · rw [if_pos b]
      · rw [if_neg b, if_pos (by rw [h8 a]; exact i_nlt b)]
    rw [if_pos a', if_pos e]
    exact ⟨Or.inr rfl, rfl, fun h => absurd h n30, RR_thr 1 (RR_up k u v hR0)⟩
  · have a' : ¬ v.1 6 = 0 := h6 ▸ a
    obtain ⟨-, -, -, -, ⟨q, hq, e1, e2⟩, e3⟩ := h9 a
    rw [if_neg a', ← e1.trans e2.symm]
    by_cases b : x1 < 0
    · rw [if_pos b, if_pos rfl, if_pos b]
      exact ⟨Or.inr rfl, rfl, fun h => absurd h n30, RR_thr 1 (RR_up k u v hR0)⟩
    · rw [if_neg b, if_neg b]
      by_cases c : u.1 5 ≤ x1
      · rw [if_pos c, if_pos rfl, if_pos c]
        exact ⟨Or.inr rfl, rfl, fun h => absurd h n30, RR_thr 1 (RR_up k u v hR0)⟩
      · rw [if_neg c, if_neg c]
        by_cases d : x1 < u.1 5 - 16
        · rw [if_pos d, if_pos rfl, if_pos d]
          exact ⟨Or.inr rfl, rfl, fun h => absurd h n30, RR_thr 1 (RR_up k u v hR0)⟩
        · rw [if_neg d, if_neg (show ¬ (1 : Int32) = 0 by decide), if_neg d]
          refine ⟨Or.inl rfl, rfl, fun _ => ?_, RR_thr 0 (RR_up k u v hR0)⟩
          obtain ⟨j, hj, rfl⟩ := nI_of b
          show u.2 12 (nI j &&& 15).toNatClampNeg = v.2 11 (nI j - nI j / 16 * 16).toNatClampNeg
          rw [kp_rem hj, kp_mod hj, nI_cl (by omega)]
          exact e3 _ (by omega)
