theorem nt_iff (x : Int32) : (p_needTarget x = 0 ∧ ¬ x < 0 ∧ ¬ 47 < x ∧ ∃ t : Nat, t < 48 ∧ x = nI t) ∨ (p_needTarget x = 1 ∧ (x < 0 ∨ (¬ x < 0 ∧ 47 < x))) := by
  unfold p_needTarget
  by_cases c : x < 0
  · rw [if_pos c]; exact Or.inr ⟨rfl, Or.inl c⟩
  · rw [if_neg c]
    by_cases d : x < 48
    · rw [if_pos d]
      obtain ⟨j, hj, rfl⟩ := i_rg (N := 48) (by omega) rfl c d
      exact Or.inl ⟨rfl, c, by rw [show (47 : Int32) = nI 47 from rfl, nI_ltI (by omega) (by omega)]; omega, j, hj, rfl⟩
    · rw [if_neg d]
      obtain ⟨j, hj, rfl⟩ := nI_of c
      refine Or.inr ⟨rfl, Or.inr ⟨c, ?_⟩⟩
      rw [x48, nI_ltI hj (by omega)] at d
      rw [show (47 : Int32) = nI 47 from rfl, nI_ltI (by omega) hj]
      omega
theorem AP_e {k : Nat} {u v : St} {P : Nat × Int32 × St} {M : Int32 × St} (h : AP k P M) : P.1 ≤ 2 ∧ M.2.1 0 = nI P.1 ∧ (P.1 = 0 → P.2.1 = M.1) ∧ RR (k + 1) P.2.2 M.2 := h
theorem sim_constant : sx_constant RR := by
  intro k u v x1 x2 hk hR
  refine ⟨⟨fun _ => ⟨app_ok hR _ _ _ _ _ _, trivial⟩, fun _ => trivial⟩, ⟨mapp_ok hR _ _ _ _, trivial⟩, ?_⟩
  rcases nv_iff x1 with ⟨a, -, b, hv⟩ | ⟨a, b⟩
  · have e1 : p_constant u x1 x2 = wrp (p_append u 0 0 x1 0 0 x2) := if_pos a
    have e2 : p_m_constant v x1 x2 = p_m_append v 1 0 x2 x1 := by unfold p_m_constant; rw [b]
    rw [e1, e2]
    exact AP_w (app_good hR 0 0 x1 0 0 x2 x2 x1 (fun _ _ => ⟨rfl, hv, z7, z7, Or.inl ⟨rfl, rfl, rfl⟩⟩))
  · have e1 : p_constant u x1 x2 = (1, 0, u) := by unfold p_constant; rw [if_neg (by rw [a]; decide), a]
    have e2 : p_m_constant v x1 x2 = (0, sS v 0 1) := by unfold p_m_constant; rw [b, ma_bad]
    rw [e1, e2]
    exact AP_bad hR
theorem sim_out : sx_out RR := by
  intro k u v x1 hk hR
  refine ⟨⟨fun _ => ⟨app_ok hR _ _ _ _ _ _, trivial⟩, fun _ => trivial⟩, ⟨mapp_ok hR _ _ _ _, trivial⟩, ?_⟩
  rcases nv_iff x1 with ⟨a, -, b, hv⟩ | ⟨a, b⟩
  · have e1 : p_out u x1 = wrp (p_append u 6 0 0 x1 0 0) := if_pos a
    have e2 : p_m_out v x1 = p_m_append v 1 6 x1 0 := by unfold p_m_out; rw [b]
    rw [e1, e2]
    exact AP_w (app_good hR 6 0 0 x1 0 0 x1 0 (fun _ _ => ⟨rfl, z7, hv, z7, Or.inr (Or.inr (Or.inr (Or.inr (Or.inr (Or.inr (Or.inl ⟨rfl, rfl⟩))))))⟩))
  · have e1 : p_out u x1 = (1, 0, u) := by unfold p_out; rw [if_neg (by rw [a]; decide), a]
    have e2 : p_m_out v x1 = (0, sS v 0 1) := by unfold p_m_out; rw [b, ma_bad]
    rw [e1, e2]
    exact AP_bad hR
theorem sim_load : sx_load RR := by
  intro k u v x1 x2 hk hR
  refine ⟨⟨fun _ => ⟨fun _ => ⟨app_ok hR _ _ _ _ _ _, trivial⟩, fun _ => trivial⟩, fun _ => trivial⟩, ⟨fun _ => ⟨mapp_ok hR _ _ _ _, trivial⟩, fun _ => ⟨fun _ => ⟨mapp_ok hR _ _ _ _, trivial⟩, fun _ => ⟨mapp_ok hR _ _ _ _, trivial⟩⟩⟩, ?_⟩
  unfold p_load p_m_load
  rcases nv_iff x1 with ⟨a, b, b1, hv⟩ | ⟨a, b⟩
  · rw [if_pos a, if_neg b]
    rcases nv_iff x2 with ⟨c, d, d1, hw⟩ | ⟨c, d⟩
    · rw [if_pos c, if_neg d]
      exact AP_w (app_good hR 2 0 x1 x2 0 0 x1 x2 (fun _ _ => ⟨rfl, hv, hw, z7, Or.inr (Or.inr (Or.inl ⟨rfl, rfl, rfl⟩))⟩))
    · rw [if_neg (by rw [c]; decide), if_pos d, c, ma_bad]
      exact AP_bad hR
  · rw [if_neg (by rw [a]; decide), if_pos b, a, ma_bad]
    exact AP_bad hR
theorem sim_store : sx_store RR := by
  intro k u v x1 x2 hk hR
  refine ⟨⟨fun _ => ⟨fun _ => ⟨app_ok hR _ _ _ _ _ _, trivial⟩, fun _ => trivial⟩, fun _ => trivial⟩, ⟨fun _ => ⟨mapp_ok hR _ _ _ _, trivial⟩, fun _ => ⟨fun _ => ⟨mapp_ok hR _ _ _ _, trivial⟩, fun _ => ⟨mapp_ok hR _ _ _ _, trivial⟩⟩⟩, ?_⟩
  unfold p_store p_m_store
  rcases nv_iff x1 with ⟨a, b, b1, hv⟩ | ⟨a, b⟩
  · rw [if_pos a, if_neg b]
    rcases nv_iff x2 with ⟨c, d, d1, hw⟩ | ⟨c, d⟩
    · rw [if_pos c, if_neg d]
      exact AP_w (app_good hR 3 0 0 x1 x2 0 x1 x2 (fun _ _ => ⟨rfl, z7, hv, hw, Or.inr (Or.inr (Or.inr (Or.inl ⟨rfl, rfl, rfl⟩)))⟩))
    · rw [if_neg (by rw [c]; decide), if_pos d, c, ma_bad]
      exact AP_bad hR
  · rw [if_neg (by rw [a]; decide), if_pos b, a, ma_bad]
    exact AP_bad hR
theorem sim_jump : sx_jump RR := by
  intro k u v x1 hk hR
  refine ⟨⟨fun _ => ⟨app_ok hR _ _ _ _ _ _, trivial⟩, fun _ => trivial⟩, ⟨fun _ => ⟨mapp_ok hR _ _ _ _, trivial⟩, fun _ => ⟨fun _ => ⟨mapp_ok hR _ _ _ _, trivial⟩, fun _ => ⟨mapp_ok hR _ _ _ _, trivial⟩⟩⟩, ?_⟩
  unfold p_jump p_m_jump
  rcases nt_iff x1 with ⟨a, b, c, ht⟩ | ⟨a, b | ⟨b, c⟩⟩
  · rw [if_pos a, if_neg b, if_neg c]
    exact AP_w (app_good hR 4 0 0 0 0 x1 x1 0 (fun _ _ => ⟨rfl, z7, z7, z7, Or.inr (Or.inr (Or.inr (Or.inr (Or.inl ⟨rfl, rfl, ht⟩))))⟩))
  · rw [if_neg (by rw [a]; decide), if_pos b, a, ma_bad]
    exact AP_bad hR
  · rw [if_neg (by rw [a]; decide), if_neg b, if_pos c, a, ma_bad]
    exact AP_bad hR
theorem sim_stop : sx_stop RR := by
  intro k u v x1 hk hR
  have m := fun g K => mapp_ok hR g K x1 0
  refine ⟨⟨fun _ => trivial, fun _ => ⟨fun _ => ⟨fun _ => ⟨app_ok hR _ _ _ _ _ _, trivial⟩, fun _ => ⟨app_ok hR _ _ _ _ _ _, trivial⟩⟩, fun _ => trivial⟩⟩, ⟨fun _ => ⟨fun _ => ⟨m _ _, trivial⟩, fun _ => ⟨m _ _, trivial⟩⟩, fun _ => ⟨fun _ => ⟨fun _ => ⟨m _ _, trivial⟩, fun _ => ⟨m _ _, trivial⟩⟩, fun _ => ⟨fun _ => ⟨m _ _, trivial⟩, fun _ => ⟨m _ _, trivial⟩⟩⟩⟩, ?_⟩
  unfold p_stop p_m_stop
  by_cases a : x1 < (-1)
  · rw [if_pos a, if_pos a]
    by_cases b : 0 ≤ x1
    · rw [if_pos b, ma_bad]; exact AP_bad hR
    · rw [if_neg b, ma_bad]; exact AP_bad hR
  · rw [if_neg a, if_neg a]
    by_cases b : x1 ≤ 255
    · rw [if_pos b, if_neg (Int32.not_lt.mpr b)]
      by_cases c : x1 = (-1)
      · have c' : ¬ 0 ≤ x1 := by rw [c]; decide
        rw [if_pos c, if_neg c']
        exact AP_w (app_good hR 7 0 0 0 0 0 x1 0 (fun _ _ => ⟨rfl, z7, z7, z7, Or.inr (Or.inr (Or.inr (Or.inr (Or.inr (Or.inr (Or.inr (Or.inl rfl)))))))⟩))
      · have d : 0 ≤ x1 := by
          rw [Int32.le_iff_toInt_le]
          rw [Int32.lt_iff_toInt_lt] at a
          have e : ¬ x1.toInt = -1 := fun q => c (Int32.toInt_inj.mp q)
          have e1 : (-1 : Int32).toInt = -1 := by decide
          have e0 : (0 : Int32).toInt = 0 := by decide
          omega
        rw [if_neg c, if_pos d]
        exact AP_w (app_good hR 8 0 0 0 0 x1 x1 0 (fun _ _ => ⟨rfl, z7, z7, z7, Or.inr (Or.inr (Or.inr (Or.inr (Or.inr (Or.inr (Or.inr (Or.inr ⟨rfl, rfl⟩)))))))⟩))
    · rw [if_neg b, if_pos (i_nle b)]
      by_cases c : 0 ≤ x1
      · rw [if_pos c, ma_bad]; exact AP_bad hR
      · rw [if_neg c, ma_bad]; exact AP_bad hR
theorem sim_compute : sx_compute RR := by
  intro k u v x1 x2 x3 x4 hk hR
  have m := fun g => mapp_ok hR g 1 x1 x2
  have mb := mokb v 1 x1 x2
  have mg := mok2 hR 1 x1 x2
  refine ⟨⟨fun _ => trivial, fun _ => ⟨fun _ => ⟨fun _ => ⟨fun _ => ⟨fun _ => ⟨app_ok hR _ _ _ _ _ _, trivial⟩, fun _ => trivial⟩, fun _ => trivial⟩, fun _ => trivial⟩, fun _ => trivial⟩⟩, ⟨fun _ => ⟨m _, mb⟩, fun _ => ⟨fun _ => ⟨m _, mb⟩, fun _ => ⟨fun _ => ⟨m _, mb⟩, fun _ => ⟨fun _ => ⟨m _, mb⟩, fun _ => ⟨fun _ => ⟨m _, mb⟩, fun _ => ⟨m _, mg⟩⟩⟩⟩⟩⟩, ?_⟩
  have bad : (if (p_m_append v 0 1 x1 x2).2.1 0 = 0 then ((p_m_append v 0 1 x1 x2).1, sA (sA (p_m_append v 0 1 x1 x2).2 3 (p_m_append v 0 1 x1 x2).1 x3) 4 (p_m_append v 0 1 x1 x2).1 x4) else ((p_m_append v 0 1 x1 x2).1, (p_m_append v 0 1 x1 x2).2)) = (0, sS v 0 1) := by
    have e := mwr_bad v x3 x4
    rw [← ma_bad v 1 x1 x2] at e
    exact e
  unfold p_compute p_m_compute
  rw [bad]
  by_cases a : x1 < 0
  · rw [if_pos a, if_pos a]; exact AP_bad hR
  · rw [if_neg a, if_neg a]
    by_cases b : x1 ≤ 7
    · rw [if_pos b, if_neg (Int32.not_lt.mpr b)]
      rcases nv_iff x2 with ⟨c, d, d1, h2⟩ | ⟨c, d⟩
      · rw [if_pos c, if_neg d]
        rcases nv_iff x3 with ⟨c, d, d1, h3⟩ | ⟨c, d⟩
        · rw [if_pos c, if_neg d]
          rcases nv_iff x4 with ⟨c, d, d1, h4⟩ | ⟨c, d⟩
          · rw [if_pos c, if_neg d]
            have h1 : v7 x1 := by
              obtain ⟨j, hj, rfl⟩ := nI_of a
              rw [show (7 : Int32) = nI 7 from rfl, nI_leI hj (by omega)] at b
              exact ⟨j, by omega, rfl⟩
            exact AP_w (app_good2 hR 1 x1 x2 x3 x4 0 x1 x2 x3 x4 ⟨rfl, h2, h3, h4, Or.inr (Or.inl ⟨rfl, rfl, rfl, rfl, rfl, h1⟩)⟩)
          · rw [if_neg (by rw [c]; decide), if_pos d, c]; exact AP_bad hR
        · rw [if_neg (by rw [c]; decide), if_pos d, c]; exact AP_bad hR
      · rw [if_neg (by rw [c]; decide), if_pos d, c]; exact AP_bad hR
    · rw [if_neg b, if_pos (i_nle b)]; exact AP_bad hR
theorem rel_eq (x : Int32) : p_isRelation x = p_m_isRelation x := rfl
theorem sim_branch : sx_branch RR := by
  intro k u v x1 x2 x3 x4 hk hR
  have m := fun g => mapp_ok hR g 5 x1 x2
  have mb := mokb v 5 x1 x2
  have mg := mok2 hR 5 x1 x2
  refine ⟨⟨fun _ => trivial, fun _ => ⟨fun _ => ⟨fun _ => ⟨fun _ => ⟨app_ok hR _ _ _ _ _ _, trivial⟩, fun _ => trivial⟩, fun _ => trivial⟩, fun _ => trivial⟩⟩, ⟨fun _ => ⟨m _, mb⟩, fun _ => ⟨fun _ => ⟨m _, mb⟩, fun _ => ⟨fun _ => ⟨m _, mb⟩, fun _ => ⟨fun _ => ⟨m _, mb⟩, fun _ => ⟨fun _ => ⟨m _, mb⟩, fun _ => ⟨m _, mg⟩⟩⟩⟩⟩⟩, ?_⟩
  have bad : (if (p_m_append v 0 5 x1 x2).2.1 0 = 0 then ((p_m_append v 0 5 x1 x2).1, sA (sA (p_m_append v 0 5 x1 x2).2 3 (p_m_append v 0 5 x1 x2).1 x3) 4 (p_m_append v 0 5 x1 x2).1 x4) else ((p_m_append v 0 5 x1 x2).1, (p_m_append v 0 5 x1 x2).2)) = (0, sS v 0 1) := by
    have e := mwr_bad v x3 x4
    rw [← ma_bad v 5 x1 x2] at e
    exact e
  unfold p_branch p_m_branch
  rw [bad]
  by_cases a : p_isRelation x1 = 0
  · have a' : p_m_isRelation x1 = 0 := a
    rw [if_pos a, if_pos a']; exact AP_bad hR
  · have a' : ¬ p_m_isRelation x1 = 0 := a
    rw [if_neg a, if_neg a']
    rcases nv_iff x2 with ⟨c, d, d1, h2⟩ | ⟨c, d⟩
    · rw [if_pos c, if_neg d]
      rcases nv_iff x3 with ⟨c, d, d1, h3⟩ | ⟨c, d⟩
      · rw [if_pos c, if_neg d]
        rcases nt_iff x4 with ⟨c, d, e, h4⟩ | ⟨c, d | ⟨d, e⟩⟩
        · rw [if_pos c, if_neg d, if_neg e]
          exact AP_w (app_good2 hR 5 x1 0 x2 x3 x4 x1 x2 x3 x4 ⟨rfl, z7, h2, h3, Or.inr (Or.inr (Or.inr (Or.inr (Or.inr (Or.inl ⟨rfl, rfl, rfl, rfl, rfl, h4⟩)))))⟩)
        · rw [if_neg (by rw [c]; decide), if_pos d, c]; exact AP_bad hR
        · rw [if_neg (by rw [c]; decide), if_neg d, if_pos e, c]; exact AP_bad hR
      · rw [if_neg (by rw [c]; decide), if_pos d, c]; exact AP_bad hR
    · rw [if_neg (by rw [c]; decide), if_pos d, c]; exact AP_bad hR
