/-! what stays when other cells change; start -/
theorem PR_c {n : Nat} {u v u' v' : St} (h : PR n u v) (a0 : u'.1 0 = u.1 0) (a1 : v'.1 1 = v.1 1) (b : ∀ k, k < 6 → u'.2 k = u.2 k) (c : ∀ k, k < 5 → v'.2 k = v.2 k) : PR n u' v' := by
  obtain ⟨h1, h2, h3, h4⟩ := h
  refine ⟨h1, a0.trans h2, a1.trans h3, fun i hi => ?_⟩
  show IR (u'.2 0 i) (u'.2 1 i) (u'.2 2 i) (u'.2 3 i) (u'.2 4 i) (u'.2 5 i) (v'.2 0 i) (v'.2 1 i) (v'.2 2 i) (v'.2 3 i) (v'.2 4 i)
  rw [b 0 (by omega), b 1 (by omega), b 2 (by omega), b 3 (by omega), b 4 (by omega), b 5 (by omega), c 0 (by omega), c 1 (by omega), c 2 (by omega), c 3 (by omega), c 4 (by omega)]
  exact h4 i hi
theorem len_c {v v' : St} (c : ∀ k, k < 5 → v'.2 k = v.2 k) (c8 : v'.2 8 = v.2 8) (x : Int32) : p_m_lengthOf v' x = p_m_lengthOf v x := by
  unfold p_m_lengthOf
  rw [c 0 (by omega), c 1 (by omega), c 2 (by omega), c 3 (by omega), c 4 (by omega), c8]
theorem WH_c {n : Nat} {u u' : St} (h : WH n u) (b : ∀ k, k < 6 → u'.2 k = u.2 k) : WH n u' := by
  obtain ⟨h1, h2, h3⟩ := h
  refine ⟨h1, ?_, fun i hi hk => ?_⟩
  · rw [b 0 (by omega)]; exact h2
  · rw [b 0 (by omega)] at hk
    rw [b 5 (by omega)]
    exact h3 i hi hk
theorem IM_c {n : Nat} {u v u' v' : St} (h : IM n u v) (a3 : u'.1 3 = u.1 3) (a4 : v'.1 3 = v.1 3) (b : ∀ k, k < 9 → u'.2 k = u.2 k) (c : ∀ k, k < 5 → v'.2 k = v.2 k) (c6 : v'.2 6 = v.2 6) (c7 : v'.2 7 = v.2 7) (c8 : v'.2 8 = v.2 8) : IM n u' v' := by
  obtain ⟨h1, Ln, h2, h3, h4, h5, h6, h7, h8⟩ := h
  refine ⟨WH_c h1 (fun k hk => b k (by omega)), Ln, h2, a3.trans h3, a4.trans h4, fun j hj => ?_, fun j hj => ?_, fun j hj => ?_, fun j hj => ?_⟩
  · rw [b 6 (by omega), c6]; exact h5 j hj
  · rw [b 7 (by omega), c7]; exact h6 j hj
  · rw [b 8 (by omega), c8]; exact h7 j hj
  · rw [c7, len_c c c8]; exact h8 j hj
theorem x8 : (8 : Int32) = nI 8 := rfl
theorem tOn : ∀ (d j m : Nat) (u : St), j + d = 8 → d < m → ok_turnOn_2 m u (nI j) ∧ (p_turnOn_2 m u (nI j)).1 = (sS (sS (sS u 6 1) 5 0) 8 0).1 ∧ (∀ k, k ≠ 11 → (p_turnOn_2 m u (nI j)).2 k = u.2 k) ∧ (∀ i, i < j → (p_turnOn_2 m u (nI j)).2 11 i = u.2 11 i) ∧ ∀ i, j ≤ i → i < 8 → (p_turnOn_2 m u (nI j)).2 11 i = 0 := by
  intro d
  induction d with
  | zero =>
    intro j m u hj hm
    obtain ⟨m, rfl⟩ : ∃ q, m = q + 1 := ⟨m - 1, by omega⟩
    have e : (8 : Int32) ≤ nI j := by rw [x8]; exact nI_le (by omega) (by omega)
    rw [p_turnOn_2, ok_turnOn_2, if_pos e]
    exact ⟨⟨fun _ => trivial, fun h => absurd e h⟩, rfl, fun _ _ => rfl, fun _ _ => rfl, fun i h1 h2 => absurd h1 (by omega)⟩
  | succ d ih =>
    intro j m u hj hm
    obtain ⟨m, rfl⟩ : ∃ q, m = q + 1 := ⟨m - 1, by omega⟩
    have e : ¬ (8 : Int32) ≤ nI j := by rw [x8, nI_leI (by omega) (by omega)]; omega
    rw [p_turnOn_2, ok_turnOn_2, if_neg e, nI_1]
    obtain ⟨i1, i2, i3, i4, i5⟩ := ih (j + 1) m (sA u 11 (nI j) 0) (by omega) (by omega)
    refine ⟨⟨fun h => absurd h e, fun _ => ⟨vp_in_nI (by omega) (by omega), i1⟩⟩, i2, fun k hk => ?_, fun i hi => ?_, fun i h1 h2 => ?_⟩
    · rw [i3 k hk]
      show va_up u.2 11 _ k = u.2 k
      exact va_up_ne _ _ hk
    · rw [i4 i (by omega)]
      show upd (u.2 11) (nI j).toNatClampNeg 0 i = u.2 11 i
      rw [nI_cl (by omega), pk_un (by omega)]
    · rcases Nat.lt_or_ge j i with q | q
      · exact i5 i (by omega) h2
      · have e2 : i = j := by omega
        subst e2
        rw [i4 i (by omega)]
        show upd (u.2 11) (nI i).toNatClampNeg 0 i = 0
        rw [nI_cl (by omega), pk_us]
theorem tOnM : ∀ (d j m : Nat) (u : St), j + d = 8 → d < m → ok_m_start_41 m u (nI j) ∧ (p_m_start_41 m u (nI j)).1 = u.1 ∧ (∀ k, k ≠ 10 → (p_m_start_41 m u (nI j)).2 k = u.2 k) ∧ (∀ i, i < j → (p_m_start_41 m u (nI j)).2 10 i = u.2 10 i) ∧ ∀ i, j ≤ i → i < 8 → (p_m_start_41 m u (nI j)).2 10 i = 0 := by
  intro d
  induction d with
  | zero =>
    intro j m u hj hm
    obtain ⟨m, rfl⟩ : ∃ q, m = q + 1 := ⟨m - 1, by omega⟩
    have e : (8 : Int32) ≤ nI j := by rw [x8]; exact nI_le (by omega) (by omega)
    rw [p_m_start_41, ok_m_start_41, if_pos e]
    exact ⟨⟨fun _ => trivial, fun h => absurd e h⟩, rfl, fun _ _ => rfl, fun _ _ => rfl, fun i h1 h2 => absurd h1 (by omega)⟩
  | succ d ih =>
    intro j m u hj hm
    obtain ⟨m, rfl⟩ : ∃ q, m = q + 1 := ⟨m - 1, by omega⟩
    have e : ¬ (8 : Int32) ≤ nI j := by rw [x8, nI_leI (by omega) (by omega)]; omega
    rw [p_m_start_41, ok_m_start_41, if_neg e, nI_1]
    obtain ⟨i1, i2, i3, i4, i5⟩ := ih (j + 1) m (sA u 10 (nI j) 0) (by omega) (by omega)
    refine ⟨⟨fun h => absurd h e, fun _ => ⟨vp_in_nI (by omega) (by omega), i1⟩⟩, i2, fun k hk => ?_, fun i hi => ?_, fun i h1 h2 => ?_⟩
    · rw [i3 k hk]
      show va_up u.2 10 _ k = u.2 k
      exact va_up_ne _ _ hk
    · rw [i4 i (by omega)]
      show upd (u.2 10) (nI j).toNatClampNeg 0 i = u.2 10 i
      rw [nI_cl (by omega), pk_un (by omega)]
    · rcases Nat.lt_or_ge j i with q | q
      · exact i5 i (by omega) h2
      · have e2 : i = j := by omega
        subst e2
        rw [i4 i (by omega)]
        show upd (u.2 10) (nI i).toNatClampNeg 0 i = 0
        rw [nI_cl (by omega), pk_us]
theorem sim_start : sx_start RR := by
  intro k u v hk hR
  have hR0 := hR
  obtain ⟨n, h1, h2, h3, h4, h5, h6, h7, h8, h9, h10⟩ := hR
  obtain ⟨t1, t2, t3, t4, t5⟩ := tOn 8 0 64 u (by omega) (by omega)
  obtain ⟨m1, m2, m3, m4, m5⟩ := tOnM 8 0 64 (sS (sS (sS (sS v 0 0) 6 1) 8 0) 9 0) (by omega) (by omega)
  refine ⟨⟨fun _ => trivial, fun _ => ⟨t1, trivial⟩⟩, ⟨fun _ => trivial, fun _ => m1⟩, ?_⟩
  unfold p_start p_m_start
  by_cases a : u.1 4 = 0
  · have a' : v.1 2 = 0 := h4 ▸ a
    rw [if_pos a, if_pos a']
    exact ⟨Or.inr rfl, rfl, RR_thr 1 (RR_up k u v hR0)⟩
  · have a' : ¬ v.1 2 = 0 := h4 ▸ a
    have hm := isb_1 h3 a
    rw [if_neg a, if_neg a']
    have eu : p_turnOn u = p_turnOn_2 64 u (nI 0) := rfl
    rw [eu]
    show ((0 : Nat) = 0 ∨ (0 : Nat) = 2) ∧ (p_m_start_41 64 (sS (sS (sS (sS v 0 0) 6 1) 8 0) 9 0) (nI 0)).1 0 = la1 0 ∧ RR (k + 1) (p_turnOn_2 64 u (nI 0)) (p_m_start_41 64 (sS (sS (sS (sS v 0 0) 6 1) 8 0) 9 0) (nI 0))
    generalize p_turnOn_2 64 u (nI 0) = u1 at t2 t3 t4 t5 ⊢
    generalize p_m_start_41 64 (sS (sS (sS (sS v 0 0) 6 1) 8 0) 9 0) (nI 0) = v1 at m2 m3 m4 m5 ⊢
    have hIM := h5 hm
    refine ⟨Or.inl rfl, by rw [m2]; rfl, n, ?_, fun i hi => ?_, ?_, ?_, fun _ => ?_, ?_, ?_, ?_, fun _ => ⟨?_, ?_⟩, ?_, fun i hi => ?_⟩
    · exact PR_c h1 (by rw [t2]; rfl) (by rw [m2]; rfl) (fun k hk => t3 k (by omega)) (fun k hk => m3 k (by omega))
    · rw [t3 10 (by omega), m3 5 (by omega)]; exact h2 i hi
    · rw [t2]; exact h3
    · rw [t2, m2]; exact h4
    · exact IM_c hIM (by rw [t2]; rfl) (by rw [m2]; rfl) (fun k hk => t3 k (by omega)) (fun k hk => m3 k (by omega)) (m3 6 (by omega)) (m3 7 (by omega)) (m3 8 (by omega))
    · rw [t2, m2]; rfl
    · exact ⟨1, by omega, by rw [t2]; rfl⟩
    · intro q
      rw [t2] at q
      exact absurd q (show ¬ (1 : Int32) = 0 by decide)
    · rw [t2]; exact hm
    · refine ⟨by rw [t2, m2]; rfl, ⟨0, hIM.1.1, by rw [t2]; rfl⟩, fun i hi => ?_, ⟨0, by omega, by rw [t2]; rfl, by rw [m2]; rfl⟩, fun i hi => ?_⟩
      · rw [t5 i (by omega) hi, m5 i (by omega) hi]
      · rw [t3 12 (by omega), m3 11 (by omega)]; exact h10.2 i hi
    · intro q
      rw [t2] at q
      exact absurd q (show ¬ (1 : Int32) = 3 by decide)
    · rw [t3 12 (by omega), m3 11 (by omega)]; exact h10.2 i hi
