/-! the reference's note stays while it runs -/
theorem act_thr (v : St) (x : Int32) : (p_m_act v x).2.1 0 = v.1 0 := by
  unfold p_m_act
  repeat' split
  all_goals rfl
theorem run_thr : ∀ (m : Nat) (v : St) (x y : Int32), v.1 0 = 0 → (p_m_run_43 m v x y).2.1 0 = 0 := by
  intro m
  induction m with
  | zero => intro v x y h; exact h
  | succ m ih =>
    intro v x y h
    rw [p_m_run_43]
    by_cases a : v.1 6 = 1
    · rw [if_pos a]
      by_cases b : x ≤ y
      · rw [if_pos b]; exact h
      · rw [if_neg b]
        exact ih _ _ _ (by rw [act_thr]; exact h)
    · rw [if_neg a]; exact h
/-! run -/
theorem RM_up {n o o' : Nat} {u v : St} (h : o ≤ o') (hR : RM n o u v) : RM n o' u v := by
  obtain ⟨h1, h2, h3, h4, h5, h6, h7, h8, h9⟩ := hR
  exact ⟨h1, h2, h3, h4, h5, h6, h7, MA_up h h8, h9⟩
theorem RM_thr {n o : Nat} {u v : St} (x : Int32) (h : RM n o u v) : RM n o u (sS v 0 x) := h
theorem RM_RN {k n o : Nat} {u v : St} (ho : o ≤ 2000 * k) (h : RM n o u v) : RN k n u v := by
  obtain ⟨h1, h2, h3, h4, h5, h6, ⟨q, hq1, hq2, eq⟩, h8, h9⟩ := h
  refine ⟨h1, h2, Or.inr h3, h3.trans h4.symm, fun _ => h5, h6, ⟨q, hq2, eq⟩, fun z => ?_, fun _ => ⟨h3, MA_up ho h8⟩, h9, h8.2.2.2.2⟩
  rw [eq] at z
  exact absurd z (nI_ne0 (by omega) (by omega))
theorem RN_RM {k n : Nat} {u v : St} (h : RN k n u v) (hr : u.1 6 = 1) : RM n (2000 * k) u v := by
  obtain ⟨h1, h2, h3, h4, h5, h6, ⟨q, hq, eq⟩, h8, h9, h10⟩ := h
  obtain ⟨hm, hM⟩ := h9 (by rw [hr]; decide)
  exact ⟨h1, h2, hm, h4.symm.trans hm, h5 hm, h6, ⟨1, by omega, by omega, hr⟩, hM, h10.1⟩
theorem run_rel {n N : Nat} (hN : N ≤ 2000) : ∀ (r m m' dn i o : Nat) (u v : St), RM n o u v → o + r < 2 ^ 29 → N ≤ dn + r → dn ≤ N + 6 → i ≤ dn → r < m → r < m' →
    ok_goOn_4 m u (nI N) (nI dn) (nI i) ∧ ok_m_run_43 m' v (nI N) (nI dn) ∧ (p_goOn_4 m u (nI N) (nI dn) (nI i)).1 = (p_m_run_43 m' v (nI N) (nI dn)).1 ∧ RM n (o + r) (p_goOn_4 m u (nI N) (nI dn) (nI i)).2 (p_m_run_43 m' v (nI N) (nI dn)).2 := by
  intro r
  induction r with
  | zero =>
    intro m m' dn i o u v hR ho h1 h2 h3 hm hm'
    obtain ⟨m, rfl⟩ : ∃ q, m = q + 1 := ⟨m - 1, by omega⟩
    obtain ⟨m', rfl⟩ : ∃ q, m' = q + 1 := ⟨m' - 1, by omega⟩
    have e : nI N ≤ nI dn := nI_le (by omega) (by omega)
    rw [ok_goOn_4, ok_m_run_43, p_goOn_4, p_m_run_43]
    refine ⟨⟨fun _ => trivial, fun _ => ⟨fun _ => trivial, fun q => absurd e q⟩⟩, ⟨fun _ => ⟨fun _ => trivial, fun q => absurd e q⟩, fun _ => trivial⟩, ?_⟩
    rw [if_pos e, if_pos e, ite_self, ite_self]
    exact ⟨rfl, hR⟩
  | succ r ih =>
    intro m m' dn i o u v hR ho h1 h2 h3 hm hm'
    obtain ⟨m, rfl⟩ : ∃ q, m = q + 1 := ⟨m - 1, by omega⟩
    obtain ⟨m', rfl⟩ : ∃ q, m' = q + 1 := ⟨m' - 1, by omega⟩
    rw [ok_goOn_4, ok_m_run_43, p_goOn_4, p_m_run_43]
    by_cases c : N ≤ dn
    · have e : nI N ≤ nI dn := nI_le c (by omega)
      refine ⟨⟨fun _ => trivial, fun _ => ⟨fun _ => trivial, fun q => absurd e q⟩⟩, ⟨fun _ => ⟨fun _ => trivial, fun q => absurd e q⟩, fun _ => trivial⟩, ?_⟩
      rw [if_pos e, if_pos e, ite_self, ite_self]
      exact ⟨rfl, RM_up (by omega) hR⟩
    · have e : ¬ nI N ≤ nI dn := by rw [nI_leI (by omega) (by omega)]; exact c
      have e2 : ¬ nI N ≤ nI i := by rw [nI_leI (by omega) (by omega)]; omega
      have h6 : u.1 6 = v.1 6 := hR.2.2.2.2.2.1
      by_cases d : u.1 6 = 1
      · have d' : v.1 6 = 1 := h6 ▸ d
        obtain ⟨s1, s2, s3, w, hw1, hw2, s4, s5⟩ := step_rel hR d (by omega)
        rw [if_neg e2, if_neg e, if_pos d, if_pos d', if_neg e, s4, s5, nI_add, nI_1]
        obtain ⟨i1, i2, i3, i4⟩ := ih m m' (dn + w) (i + 1) (o + 1) _ _ s3 (by omega) (by omega) (by omega) (by omega) (by omega) (by omega)
        exact ⟨⟨fun q => absurd q e2, fun _ => ⟨fun q => absurd q e, fun _ => ⟨fun _ => ⟨s1, i1⟩, fun q => absurd d q⟩⟩⟩, ⟨fun _ => ⟨fun q => absurd q e, fun _ => ⟨s2, i2⟩⟩, fun q => absurd d' q⟩, i3, RM_up (by omega) i4⟩
      · have d' : ¬ v.1 6 = 1 := h6 ▸ d
        rw [if_neg e2, if_neg e, if_neg d, if_neg d']
        exact ⟨⟨fun q => absurd q e2, fun _ => ⟨fun q => absurd q e, fun _ => ⟨fun q => absurd q d, fun _ => trivial⟩⟩⟩, ⟨fun q => absurd q d', fun _ => trivial⟩, rfl, RM_up (by omega) hR⟩
theorem sim_run : sx_run RR := by
  intro k u v x1 hk hR
  have hR0 := hR
  obtain ⟨n, hN⟩ := hR
  have h6 : u.1 6 = v.1 6 := hN.2.2.2.2.2.1
  have key : ¬ x1 < 0 → x1 ≤ 2000 → u.1 6 = 1 → ok_goOn_4 2002 u x1 0 0 ∧ ok_m_run_43 2002 (sS v 0 0) x1 0 ∧ (p_goOn_4 2002 u x1 0 0).1 = (p_m_run_43 2002 (sS v 0 0) x1 0).1 ∧ RR (k + 1) (p_goOn_4 2002 u x1 0 0).2 (p_m_run_43 2002 (sS v 0 0) x1 0).2 := by
    intro a b c
    obtain ⟨N, hN1, rfl⟩ := nI_of a
    rw [show (2000 : Int32) = nI 2000 from rfl, nI_leI hN1 (by omega)] at b
    obtain ⟨i1, i2, i3, i4⟩ := run_rel b N 2002 2002 0 0 (2000 * k) u (sS v 0 0) (RM_thr 0 (RN_RM hN c)) (by omega) (by omega) (by omega) (by omega) (by omega) (by omega)
    exact ⟨i1, i2, i3, n, RM_RN (by omega) i4⟩
  refine ⟨⟨fun _ => trivial, fun a => ⟨fun b => ⟨fun c => ⟨(key a b c).1, trivial⟩, fun _ => trivial⟩, fun _ => trivial⟩⟩, ⟨fun _ => trivial, fun a => ⟨fun b => ⟨fun c => (key a b (h6.trans c)).2.1, fun _ => trivial⟩, fun _ => trivial⟩⟩, ?_⟩
  unfold p_run p_m_run
  by_cases a : x1 < 0
  · rw [if_pos a, if_pos a]
    exact AP_bad hR0
  · rw [if_neg a, if_neg a]
    by_cases b : x1 ≤ 2000
    · rw [if_pos b, if_pos b]
      by_cases c : u.1 6 = 1
      · have c' : v.1 6 = 1 := h6 ▸ c
        rw [if_pos c, if_pos c']
        obtain ⟨-, -, i3, i4⟩ := key a b c
        refine ⟨Nat.zero_le 2, ?_, fun _ => i3, i4⟩
        exact run_thr 2002 (sS v 0 0) x1 0 rfl
      · have c' : ¬ v.1 6 = 1 := h6 ▸ c
        rw [if_neg c, if_neg c']
        exact ⟨Nat.le_refl 2, rfl, fun h => absurd h n20, RR_thr 2 (RR_up k u v hR0)⟩
    · rw [if_neg b, if_neg b]
      exact AP_bad hR0
