/-! one instruction of the machine -/
def RM (n o : Nat) (u v : St) : Prop := PR n u v ∧ (∀ i, i < 8 → u.2 10 i = v.2 5 i) ∧ u.1 4 = 1 ∧ v.1 2 = 1 ∧ IM n u v ∧ u.1 6 = v.1 6 ∧ (∃ q : Nat, 1 ≤ q ∧ q ≤ 3 ∧ u.1 6 = nI q) ∧ MA n o u v ∧ (u.1 6 = 3 → u.1 7 = v.1 7)
theorem RM_c {n o o' : Nat} {u v u' v' : St} (h : RM n o u v) (a0 : u'.1 0 = u.1 0) (a3 : u'.1 3 = u.1 3) (a4 : u'.1 4 = u.1 4) (b1 : v'.1 1 = v.1 1) (b2 : v'.1 2 = v.1 2) (b3 : v'.1 3 = v.1 3) (ru : ∀ k, k < 9 → u'.2 k = u.2 k) (rv : ∀ k, k < 9 → k ≠ 5 → v'.2 k = v.2 k)
    (hw : ∀ i, i < 8 → u'.2 10 i = v'.2 5 i) (hm : u'.1 6 = v'.1 6) (hq : ∃ q : Nat, 1 ≤ q ∧ q ≤ 3 ∧ u'.1 6 = nI q) (hM : MA n o' u' v') (ht : u'.1 6 = 3 → u'.1 7 = v'.1 7) : RM n o' u' v' := by
  obtain ⟨h1, h2, h3, h4, h5, -, -, -, -⟩ := h
  exact ⟨PR_c h1 a0 b1 (fun k hk => ru k (by omega)) (fun k hk => rv k (by omega) (by omega)), hw, a4.trans h3, b2.trans h4, IM_c h5 a3 b3 ru (fun k hk => rv k (by omega) (by omega)) (rv 6 (by omega) (by omega)) (rv 7 (by omega) (by omega)) (rv 8 (by omega) (by omega)), hm, hq, hM, ht⟩
theorem k9 {P : Nat → Prop} (h0 : P 0) (h1 : P 1) (h2 : P 2) (h3 : P 3) (h4 : P 4) (h5 : P 5) (h6 : P 6) (h7 : P 7) (h8 : P 8) : ∀ k, k < 9 → P k := by
  intro k hk
  rcases (show k = 0 ∨ k = 1 ∨ k = 2 ∨ k = 3 ∨ k = 4 ∨ k = 5 ∨ k = 6 ∨ k = 7 ∨ k = 8 by omega) with rfl | rfl | rfl | rfl | rfl | rfl | rfl | rfl | rfl <;> assumption
theorem a7 (x : Int32) : ∃ q : Nat, q < 8 ∧ x &&& 7 = nI q := pk_andE x 3 (by decide)
/-- a row of eight set on both sides -/
theorem up_eq {f g : Nat → Int32} {N d : Nat} {x y : Int32} (h : ∀ i, i < N → f i = g i) (hd : d < 2 ^ 31) (e : x = y) : ∀ i, i < N → upd f (nI d).toNatClampNeg x i = upd g (nI d).toNatClampNeg y i := by
  intro i hi
  rw [nI_cl hd, e]
  by_cases c : i = d
  · subst c; rw [pk_us, pk_us]
  · rw [pk_un c, pk_un c]; exact h i hi

set_option maxHeartbeats 4000000 in
theorem step_rel {n o : Nat} {u v : St} (hRM : RM n o u v) (hrun : u.1 6 = 1) (ho : o < 2 ^ 30) : ok_step u ∧ ok_m_act v (v.1 8) ∧ RM n (o + 1) (p_step u).2 (p_m_act v (v.1 8)).2 ∧ ∃ d : Nat, 1 ≤ d ∧ d ≤ 6 ∧ (p_step u).1 = nI d ∧ (p_m_act v (v.1 8)).1 = nI d := by
  obtain ⟨hPR, h2, h3, h4, hIM, h6, h7, hMA, h10⟩ := id hRM
  obtain ⟨m1, ⟨j, hj, e8⟩, m3, ⟨q, hq, m4, m5⟩, m6⟩ := id hMA
  have v8 : v.1 8 = nI j := m1.symm.trans e8
  have hn := hPR.1
  have cl : (nI j).toNatClampNeg = j := nI_cl (by omega)
  have hj48 : vp_in (nI j) 48 := vp_in_nI (by omega) (by omega)
  obtain ⟨hWH, Ln, -, -, -, -, hpl, hfar, hlen⟩ := id hIM
  have hL : p_lengthOf u (nI j) = p_m_lengthOf v (nI j) := by
    unfold p_lengthOf
    rw [nI_1, nI_cl (by omega), cl, hpl (j + 1) (by omega), hpl j (by omega)]
    exact hlen j hj
  obtain ⟨d, hd1, hd2, hd3, hd5⟩ := len_n v (nI j)
  rw [cl] at hd5
  obtain ⟨hK, ⟨dd, hdd, eD⟩, ⟨da, hda, eA⟩, ⟨db, hdb, eB⟩, hcase⟩ := hPR.2.2.2 j hj
  have nx : ¬ (u.2 0 j = 4 ∨ u.2 0 j = 7 ∨ u.2 0 j = 8) → j + 1 < n := by
    intro q
    rcases Nat.lt_or_ge (j + 1) n with z | z
    · exact z
    · have e : n - 1 = j := by omega
      have w := hWH.2.1
      rw [e] at w
      exact absurd w q
  have vA : u.2 11 (u.2 3 j).toNatClampNeg = v.2 10 (u.2 3 j).toNatClampNeg := by rw [eA, nI_cl (by omega)]; exact m3 da hda
  have vB : u.2 11 (u.2 4 j).toNatClampNeg = v.2 10 (u.2 4 j).toNatClampNeg := by rw [eB, nI_cl (by omega)]; exact m3 db hdb
  have iA : vp_in (u.2 3 j) 8 := by rw [eA]; exact vp_in_nI hda (by omega)
  have iB : vp_in (u.2 4 j) 8 := by rw [eB]; exact vp_in_nI hdb (by omega)
  have iD : vp_in (u.2 2 j) 8 := by rw [eD]; exact vp_in_nI hdd (by omega)
  have i7 : ∀ x : Int32, vp_in (x &&& 7) 8 := fun x => by
    obtain ⟨q, hq, e⟩ := a7 x
    rw [e]; exact vp_in_nI hq (by omega)
  have i15 : vp_in (nI q &&& 15) 16 := by rw [kp_mod (by omega)]; exact vp_in_nI (by omega) (by omega)
  have ir : vp_in (nI q - nI q / 16 * 16) 16 := by rw [kp_rem (by omega)]; exact vp_in_nI (by omega) (by omega)
  have okl : ok_m_lengthOf v (nI j) := by
    have a := hj48
    exact ⟨a, fun _ => ⟨a, ok_mk _, a, trivial⟩, fun _ => ⟨fun _ => ⟨a, fun _ => ⟨a, trivial⟩, fun _ => ⟨a, a, a, trivial⟩⟩, fun _ => ⟨fun _ => ⟨a, a, trivial⟩, fun _ => ⟨fun _ => ⟨a, a, trivial⟩, fun _ => ⟨fun _ => ⟨a, a, a, trivial⟩, fun _ => trivial⟩⟩⟩⟩⟩
  have ok1 : ok_step u := by
    unfold ok_step
    rw [e8, cl]
    have a := hj48
    refine ⟨a, iA, a, iB, a, ⟨by rw [nI_1]; exact vp_in_nI (by omega) (by omega), vp_in_nI (by omega) (by omega), trivial⟩, a, fun _ => ⟨a, iD, trivial⟩, fun _ => ⟨fun _ => ⟨a, a, iD, trivial⟩, fun _ => ⟨fun _ => ⟨a, i7 _, iD, trivial⟩, fun _ => ⟨fun _ => ⟨i7 _, trivial⟩, fun _ => ⟨fun _ => trivial, fun _ => ⟨fun _ => ⟨a, fun _ => ⟨a, trivial⟩, fun _ => trivial⟩, fun _ => ⟨fun _ => ⟨⟨?_, trivial⟩, trivial⟩, fun _ => trivial⟩⟩⟩⟩⟩⟩⟩
    show vp_in (u.1 5 &&& 15) 16
    rw [m4]; exact i15
  refine ⟨ok1, ?_⟩

  rcases hcase with ⟨hk, n0, n1⟩ | ⟨hk, n0, n1, n2, n3, -⟩ | ⟨hk, n0, n1⟩ | ⟨hk, n0, n1⟩ | ⟨hk, n0, -⟩ | ⟨hk, n0, n1, n2, n3, -⟩ | ⟨hk, n0⟩ | hk | ⟨hk, n0⟩
  · have hk2 : v.2 0 j = 0 := hK.symm.trans hk
    have ok2 : ok_m_act v (v.1 8) := by
      unfold ok_m_act
      rw [v8, cl]
      have a := hj48
      exact ⟨okl, a, ⟨fun _ => ⟨a, a, by rw [n1]; exact iD, trivial⟩, fun h => absurd hk2 h⟩⟩
    have e1 : p_step u = (p_lengthOf u (nI j), sA (sS u 8 (nI j + 1)) 11 (u.2 2 j) (u.2 5 j)) := by
      unfold p_step
      rw [e8, cl, if_pos hk]
    have e2 : p_m_act v (v.1 8) = (p_m_lengthOf v (nI j), sA (sS v 8 (nI j + 1)) 10 (v.2 2 j) (v.2 1 j)) := by
      unfold p_m_act
      rw [v8, cl, if_pos hk2]
    rw [e1, e2]
    refine ⟨ok2, ?_, d, hd1, hd2, hL.trans hd3, hd3⟩
    rw [n0, n1, eD]
    refine RM_c hRM rfl rfl rfl rfl rfl rfl (k9 rfl rfl rfl rfl rfl rfl rfl rfl rfl) (k9 (fun _ => rfl) (fun _ => rfl) (fun _ => rfl) (fun _ => rfl) (fun _ => rfl) (fun h => absurd rfl h) (fun _ => rfl) (fun _ => rfl) (fun _ => rfl)) h2 h6 h7 ⟨rfl, ⟨j + 1, nx (by rw [hk]; decide), (nI_1 j)⟩, up_eq m3 (by omega) rfl, ⟨q, by omega, m4, m5⟩, m6⟩ h10
  · have hk2 : v.2 0 j = 1 := hK.symm.trans hk
    have z0 : ¬ u.2 0 j = 0 := by rw [hk]; decide
    have y0 : ¬ v.2 0 j = 0 := by rw [hk2]; decide
    have ok2 : ok_m_act v (v.1 8) := by
      unfold ok_m_act
      rw [v8, cl]
      have a := hj48
      exact ⟨okl, a, ⟨fun h => absurd (hk2.symm.trans h) (by decide), fun _ => ⟨fun _ => ⟨a, a, a, by rw [n2]; exact iA, a, by rw [n3]; exact iB, by rw [n1]; exact iD, trivial⟩, fun h => absurd hk2 h⟩⟩⟩
    have e1 : p_step u = (p_lengthOf u (nI j), sA (sS u 8 (nI j + 1)) 11 (u.2 2 j) (p_result (u.2 1 j) (u.2 11 (u.2 3 j).toNatClampNeg) (u.2 11 (u.2 4 j).toNatClampNeg))) := by
      unfold p_step
      rw [e8, cl, if_neg z0, if_pos hk]
    have e2 : p_m_act v (v.1 8) = (p_m_lengthOf v (nI j), sA (sS v 8 (nI j + 1)) 10 (v.2 2 j) (p_m_computed (v.2 1 j) (v.2 10 (v.2 3 j).toNatClampNeg) (v.2 10 (v.2 4 j).toNatClampNeg))) := by
      unfold p_m_act
      rw [v8, cl, if_neg y0, if_pos hk2]
    rw [e1, e2]
    refine ⟨ok2, ?_, d, hd1, hd2, hL.trans hd3, hd3⟩
    rw [n0, n1, n2, n3, eD, result_eq, vA, vB]
    refine RM_c hRM rfl rfl rfl rfl rfl rfl (k9 rfl rfl rfl rfl rfl rfl rfl rfl rfl) (k9 (fun _ => rfl) (fun _ => rfl) (fun _ => rfl) (fun _ => rfl) (fun _ => rfl) (fun h => absurd rfl h) (fun _ => rfl) (fun _ => rfl) (fun _ => rfl)) h2 h6 h7 ⟨rfl, ⟨j + 1, nx (by rw [hk]; decide), (nI_1 j)⟩, up_eq m3 (by omega) rfl, ⟨q, by omega, m4, m5⟩, m6⟩ h10
  · have hk2 : v.2 0 j = 2 := hK.symm.trans hk
    have z0 : ¬ u.2 0 j = 0 := by rw [hk]; decide
    have y0 : ¬ v.2 0 j = 0 := by rw [hk2]; decide
    have z1 : ¬ u.2 0 j = 1 := by rw [hk]; decide
    have y1 : ¬ v.2 0 j = 1 := by rw [hk2]; decide
    have ok2 : ok_m_act v (v.1 8) := by
      unfold ok_m_act
      rw [v8, cl]
      have a := hj48
      exact ⟨okl, a, ⟨fun h => absurd (hk2.symm.trans h) (by decide), fun _ => ⟨fun h => absurd (hk2.symm.trans h) (by decide), fun _ => ⟨fun _ => ⟨a, a, by rw [n1]; exact iA, i7 _, by rw [n0]; exact iD, trivial⟩, fun h => absurd hk2 h⟩⟩⟩⟩
    have e1 : p_step u = (p_lengthOf u (nI j), sA (sS u 8 (nI j + 1)) 11 (u.2 2 j) (u.2 10 ((u.2 11 (u.2 3 j).toNatClampNeg) &&& 7).toNatClampNeg)) := by
      unfold p_step
      rw [e8, cl, if_neg z0, if_neg z1, if_pos hk]
    have e2 : p_m_act v (v.1 8) = (p_m_lengthOf v (nI j), sA (sS v 8 (nI j + 1)) 10 (v.2 1 j) (v.2 5 ((v.2 10 (v.2 2 j).toNatClampNeg) &&& 7).toNatClampNeg)) := by
      unfold p_m_act
      rw [v8, cl, if_neg y0, if_neg y1, if_pos hk2]
    rw [e1, e2]
    refine ⟨ok2, ?_, d, hd1, hd2, hL.trans hd3, hd3⟩
    rw [n0, n1, eD, vA]
    obtain ⟨w, hw, ew⟩ := a7 (v.2 10 (u.2 3 j).toNatClampNeg)
    rw [ew, nI_cl (n := w) (by omega), h2 w hw]
    refine RM_c hRM rfl rfl rfl rfl rfl rfl (k9 rfl rfl rfl rfl rfl rfl rfl rfl rfl) (k9 (fun _ => rfl) (fun _ => rfl) (fun _ => rfl) (fun _ => rfl) (fun _ => rfl) (fun h => absurd rfl h) (fun _ => rfl) (fun _ => rfl) (fun _ => rfl)) h2 h6 h7 ⟨rfl, ⟨j + 1, nx (by rw [hk]; decide), (nI_1 j)⟩, up_eq m3 (by omega) rfl, ⟨q, by omega, m4, m5⟩, m6⟩ h10
  · have hk2 : v.2 0 j = 3 := hK.symm.trans hk
    have z0 : ¬ u.2 0 j = 0 := by rw [hk]; decide
    have y0 : ¬ v.2 0 j = 0 := by rw [hk2]; decide
    have z1 : ¬ u.2 0 j = 1 := by rw [hk]; decide
    have y1 : ¬ v.2 0 j = 1 := by rw [hk2]; decide
    have z2 : ¬ u.2 0 j = 2 := by rw [hk]; decide
    have y2 : ¬ v.2 0 j = 2 := by rw [hk2]; decide
    have ok2 : ok_m_act v (v.1 8) := by
      unfold ok_m_act
      rw [v8, cl]
      have a := hj48
      exact ⟨okl, a, ⟨fun h => absurd (hk2.symm.trans h) (by decide), fun _ => ⟨fun h => absurd (hk2.symm.trans h) (by decide), fun _ => ⟨fun h => absurd (hk2.symm.trans h) (by decide), fun _ => ⟨fun _ => ⟨a, by rw [n0]; exact iA, a, by rw [n1]; exact iB, i7 _, trivial⟩, fun h => absurd hk2 h⟩⟩⟩⟩⟩
    have e1 : p_step u = (p_lengthOf u (nI j), sA (sS u 8 (nI j + 1)) 10 ((u.2 11 (u.2 3 j).toNatClampNeg) &&& 7) (u.2 11 (u.2 4 j).toNatClampNeg)) := by
      unfold p_step
      rw [e8, cl, if_neg z0, if_neg z1, if_neg z2, if_pos hk]
    have e2 : p_m_act v (v.1 8) = (p_m_lengthOf v (nI j), sA (sS v 8 (nI j + 1)) 5 ((v.2 10 (v.2 1 j).toNatClampNeg) &&& 7) (v.2 10 (v.2 2 j).toNatClampNeg)) := by
      unfold p_m_act
      rw [v8, cl, if_neg y0, if_neg y1, if_neg y2, if_pos hk2]
    rw [e1, e2]
    refine ⟨ok2, ?_, d, hd1, hd2, hL.trans hd3, hd3⟩
    rw [n0, n1, vA, vB]
    obtain ⟨w, hw, ew⟩ := a7 (v.2 10 (u.2 3 j).toNatClampNeg)
    rw [ew]
    refine RM_c hRM rfl rfl rfl rfl rfl rfl (k9 rfl rfl rfl rfl rfl rfl rfl rfl rfl) (k9 (fun _ => rfl) (fun _ => rfl) (fun _ => rfl) (fun _ => rfl) (fun _ => rfl) (fun h => absurd rfl h) (fun _ => rfl) (fun _ => rfl) (fun _ => rfl)) (up_eq h2 (by omega) rfl) h6 h7 ⟨rfl, ⟨j + 1, nx (by rw [hk]; decide), (nI_1 j)⟩, m3, ⟨q, by omega, m4, m5⟩, m6⟩ h10
  · have hk2 : v.2 0 j = 4 := hK.symm.trans hk
    have z0 : ¬ u.2 0 j = 0 := by rw [hk]; decide
    have y0 : ¬ v.2 0 j = 0 := by rw [hk2]; decide
    have z1 : ¬ u.2 0 j = 1 := by rw [hk]; decide
    have y1 : ¬ v.2 0 j = 1 := by rw [hk2]; decide
    have z2 : ¬ u.2 0 j = 2 := by rw [hk]; decide
    have y2 : ¬ v.2 0 j = 2 := by rw [hk2]; decide
    have z3 : ¬ u.2 0 j = 3 := by rw [hk]; decide
    have y3 : ¬ v.2 0 j = 3 := by rw [hk2]; decide
    have ok2 : ok_m_act v (v.1 8) := by
      unfold ok_m_act
      rw [v8, cl]
      have a := hj48
      exact ⟨okl, a, ⟨fun h => absurd (hk2.symm.trans h) (by decide), fun _ => ⟨fun h => absurd (hk2.symm.trans h) (by decide), fun _ => ⟨fun h => absurd (hk2.symm.trans h) (by decide), fun _ => ⟨fun h => absurd (hk2.symm.trans h) (by decide), fun _ => ⟨fun _ => ⟨a, trivial⟩, fun h => absurd hk2 h⟩⟩⟩⟩⟩⟩
    have e1 : p_step u = (p_lengthOf u (nI j), sS (sS u 8 (nI j + 1)) 8 (u.2 5 j)) := by
      unfold p_step
      rw [e8, cl, if_neg z0, if_neg z1, if_neg z2, if_neg z3, if_pos hk]
    have e2 : p_m_act v (v.1 8) = (p_m_lengthOf v (nI j), sS (sS v 8 (nI j + 1)) 8 (v.2 1 j)) := by
      unfold p_m_act
      rw [v8, cl, if_neg y0, if_neg y1, if_neg y2, if_neg y3, if_pos hk2]
    rw [e1, e2]
    refine ⟨ok2, ?_, d, hd1, hd2, hL.trans hd3, hd3⟩
    obtain ⟨t, ht, et⟩ := hWH.2.2 j hj (Or.inl hk)
    rw [n0]
    refine RM_c hRM rfl rfl rfl rfl rfl rfl (k9 rfl rfl rfl rfl rfl rfl rfl rfl rfl) (k9 (fun _ => rfl) (fun _ => rfl) (fun _ => rfl) (fun _ => rfl) (fun _ => rfl) (fun h => absurd rfl h) (fun _ => rfl) (fun _ => rfl) (fun _ => rfl)) h2 h6 h7 ⟨rfl, ⟨t, ht, et⟩, m3, ⟨q, by omega, m4, m5⟩, m6⟩ h10
  · have hk2 : v.2 0 j = 5 := hK.symm.trans hk
    have z0 : ¬ u.2 0 j = 0 := by rw [hk]; decide
    have y0 : ¬ v.2 0 j = 0 := by rw [hk2]; decide
    have z1 : ¬ u.2 0 j = 1 := by rw [hk]; decide
    have y1 : ¬ v.2 0 j = 1 := by rw [hk2]; decide
    have z2 : ¬ u.2 0 j = 2 := by rw [hk]; decide
    have y2 : ¬ v.2 0 j = 2 := by rw [hk2]; decide
    have z3 : ¬ u.2 0 j = 3 := by rw [hk]; decide
    have y3 : ¬ v.2 0 j = 3 := by rw [hk2]; decide
    have z4 : ¬ u.2 0 j = 4 := by rw [hk]; decide
    have y4 : ¬ v.2 0 j = 4 := by rw [hk2]; decide
    have ok2 : ok_m_act v (v.1 8) := by
      unfold ok_m_act
      rw [v8, cl]
      have a := hj48
      exact ⟨okl, a, ⟨fun h => absurd (hk2.symm.trans h) (by decide), fun _ => ⟨fun h => absurd (hk2.symm.trans h) (by decide), fun _ => ⟨fun h => absurd (hk2.symm.trans h) (by decide), fun _ => ⟨fun h => absurd (hk2.symm.trans h) (by decide), fun _ => ⟨fun h => absurd (hk2.symm.trans h) (by decide), fun _ => ⟨fun _ => ⟨a, a, by rw [n1]; exact iA, a, by rw [n2]; exact iB, fun _ => ⟨a, trivial⟩, fun _ => ⟨a, trivial⟩⟩, fun h => absurd hk2 h⟩⟩⟩⟩⟩⟩⟩
    obtain ⟨t, ht, et⟩ := hWH.2.2 j hj (Or.inr hk)
    have hh : p_holds (u.2 1 j) (u.2 11 (u.2 3 j).toNatClampNeg) (u.2 11 (u.2 4 j).toNatClampNeg) = p_m_holds (v.2 1 j) (v.2 10 (v.2 2 j).toNatClampNeg) (v.2 10 (v.2 3 j).toNatClampNeg) := by rw [holds_eq, n0, n1, n2, vA, vB]
    have hf := hfar j hj
    refine ⟨ok2, ?_⟩
    unfold p_step p_m_act
    rw [e8, v8, cl, if_neg z0, if_neg z1, if_neg z2, if_neg z3, if_neg z4, if_pos hk, if_neg y0, if_neg y1, if_neg y2, if_neg y3, if_neg y4, if_pos hk2, hh]
    by_cases c1 : p_m_holds (v.2 1 j) (v.2 10 (v.2 2 j).toNatClampNeg) (v.2 10 (v.2 3 j).toNatClampNeg) = 0
    · rw [if_pos c1, if_pos c1]
      by_cases c2 : v.2 8 j = 0
      · have c3 : u.2 8 j = 0 := by rw [hf]; exact c2
        rw [if_pos c2, if_pos c3]
        refine ⟨?_, d, hd1, hd2, hL.trans hd3, hd3⟩
        exact RM_c hRM rfl rfl rfl rfl rfl rfl (k9 rfl rfl rfl rfl rfl rfl rfl rfl rfl) (k9 (fun _ => rfl) (fun _ => rfl) (fun _ => rfl) (fun _ => rfl) (fun _ => rfl) (fun h => absurd rfl h) (fun _ => rfl) (fun _ => rfl) (fun _ => rfl)) h2 h6 h7 ⟨rfl, ⟨j + 1, nx (by rw [hk]; decide), (nI_1 j)⟩, m3, ⟨q, by omega, m4, m5⟩, m6⟩ h10
      · have c3 : ¬ u.2 8 j = 0 := by rw [hf]; exact c2
        rw [if_neg c2, if_neg c3]
        have h2d := hd5 hk2
        refine ⟨?_, d - 1, by omega, by omega, ?_, ?_⟩
        · exact RM_c hRM rfl rfl rfl rfl rfl rfl (k9 rfl rfl rfl rfl rfl rfl rfl rfl rfl) (k9 (fun _ => rfl) (fun _ => rfl) (fun _ => rfl) (fun _ => rfl) (fun _ => rfl) (fun h => absurd rfl h) (fun _ => rfl) (fun _ => rfl) (fun _ => rfl)) h2 h6 h7 ⟨rfl, ⟨j + 1, nx (by rw [hk]; decide), (nI_1 j)⟩, m3, ⟨q, by omega, m4, m5⟩, m6⟩ h10
        · show p_lengthOf u (nI j) + (-1) = nI (d - 1)
          rw [hL, hd3, sb_m1 (by omega)]
        · show p_m_lengthOf v (nI j) - 1 = nI (d - 1)
          rw [hd3, show d = (d - 1) + 1 by omega, nI_pred]
          rfl
    · rw [if_neg c1, if_neg c1]
      refine ⟨?_, d, hd1, hd2, hL.trans hd3, hd3⟩
      rw [n3]
      exact RM_c hRM rfl rfl rfl rfl rfl rfl (k9 rfl rfl rfl rfl rfl rfl rfl rfl rfl) (k9 (fun _ => rfl) (fun _ => rfl) (fun _ => rfl) (fun _ => rfl) (fun _ => rfl) (fun h => absurd rfl h) (fun _ => rfl) (fun _ => rfl) (fun _ => rfl)) h2 h6 h7 ⟨rfl, ⟨t, ht, et⟩, m3, ⟨q, by omega, m4, m5⟩, m6⟩ h10
  · have hk2 : v.2 0 j = 6 := hK.symm.trans hk
    have z0 : ¬ u.2 0 j = 0 := by rw [hk]; decide
    have y0 : ¬ v.2 0 j = 0 := by rw [hk2]; decide
    have z1 : ¬ u.2 0 j = 1 := by rw [hk]; decide
    have y1 : ¬ v.2 0 j = 1 := by rw [hk2]; decide
    have z2 : ¬ u.2 0 j = 2 := by rw [hk]; decide
    have y2 : ¬ v.2 0 j = 2 := by rw [hk2]; decide
    have z3 : ¬ u.2 0 j = 3 := by rw [hk]; decide
    have y3 : ¬ v.2 0 j = 3 := by rw [hk2]; decide
    have z4 : ¬ u.2 0 j = 4 := by rw [hk]; decide
    have y4 : ¬ v.2 0 j = 4 := by rw [hk2]; decide
    have z5 : ¬ u.2 0 j = 5 := by rw [hk]; decide
    have y5 : ¬ v.2 0 j = 5 := by rw [hk2]; decide
    have ok2 : ok_m_act v (v.1 8) := by
      unfold ok_m_act
      rw [v8, cl]
      have a := hj48
      exact ⟨okl, a, ⟨fun h => absurd (hk2.symm.trans h) (by decide), fun _ => ⟨fun h => absurd (hk2.symm.trans h) (by decide), fun _ => ⟨fun h => absurd (hk2.symm.trans h) (by decide), fun _ => ⟨fun h => absurd (hk2.symm.trans h) (by decide), fun _ => ⟨fun h => absurd (hk2.symm.trans h) (by decide), fun _ => ⟨fun h => absurd (hk2.symm.trans h) (by decide), fun _ => ⟨fun _ => ⟨a, by rw [n0]; exact iA, by rw [m5]; exact ir, trivial⟩, fun h => absurd hk2 h⟩⟩⟩⟩⟩⟩⟩⟩
    have e1 : p_step u = (p_lengthOf u (nI j), p_putOut (sS u 8 (nI j + 1)) (u.2 11 (u.2 3 j).toNatClampNeg)) := by
      unfold p_step
      rw [e8, cl, if_neg z0, if_neg z1, if_neg z2, if_neg z3, if_neg z4, if_neg z5, if_pos hk]
    have e2 : p_m_act v (v.1 8) = (p_m_lengthOf v (nI j), sS (sA (sS v 8 (nI j + 1)) 11 (v.1 9 - v.1 9 / 16 * 16) (v.2 10 (v.2 1 j).toNatClampNeg)) 9 (v.1 9 + 1)) := by
      unfold p_m_act
      rw [v8, cl, if_neg y0, if_neg y1, if_neg y2, if_neg y3, if_neg y4, if_neg y5, if_pos hk2]
    rw [e1, e2]
    refine ⟨ok2, ?_, d, hd1, hd2, hL.trans hd3, hd3⟩
    unfold p_putOut
    rw [show (sS u 8 (nI j + 1)).1 5 = nI q from m4, n0, vA, m5, kp_mod (by omega), kp_rem (by omega), nI_1 q]
    refine RM_c hRM rfl rfl rfl rfl rfl rfl (k9 rfl rfl rfl rfl rfl rfl rfl rfl rfl) (k9 (fun _ => rfl) (fun _ => rfl) (fun _ => rfl) (fun _ => rfl) (fun _ => rfl) (fun h => absurd rfl h) (fun _ => rfl) (fun _ => rfl) (fun _ => rfl)) h2 h6 h7 ⟨rfl, ⟨j + 1, nx (by rw [hk]; decide), (nI_1 j)⟩, m3, ⟨q + 1, by omega, rfl, rfl⟩, up_eq m6 (by omega) rfl⟩ h10
  · have hk2 : v.2 0 j = 7 := hK.symm.trans hk
    have z0 : ¬ u.2 0 j = 0 := by rw [hk]; decide
    have y0 : ¬ v.2 0 j = 0 := by rw [hk2]; decide
    have z1 : ¬ u.2 0 j = 1 := by rw [hk]; decide
    have y1 : ¬ v.2 0 j = 1 := by rw [hk2]; decide
    have z2 : ¬ u.2 0 j = 2 := by rw [hk]; decide
    have y2 : ¬ v.2 0 j = 2 := by rw [hk2]; decide
    have z3 : ¬ u.2 0 j = 3 := by rw [hk]; decide
    have y3 : ¬ v.2 0 j = 3 := by rw [hk2]; decide
    have z4 : ¬ u.2 0 j = 4 := by rw [hk]; decide
    have y4 : ¬ v.2 0 j = 4 := by rw [hk2]; decide
    have z5 : ¬ u.2 0 j = 5 := by rw [hk]; decide
    have y5 : ¬ v.2 0 j = 5 := by rw [hk2]; decide
    have z6 : ¬ u.2 0 j = 6 := by rw [hk]; decide
    have y6 : ¬ v.2 0 j = 6 := by rw [hk2]; decide
    have ok2 : ok_m_act v (v.1 8) := by
      unfold ok_m_act
      rw [v8, cl]
      have a := hj48
      exact ⟨okl, a, ⟨fun h => absurd (hk2.symm.trans h) (by decide), fun _ => ⟨fun h => absurd (hk2.symm.trans h) (by decide), fun _ => ⟨fun h => absurd (hk2.symm.trans h) (by decide), fun _ => ⟨fun h => absurd (hk2.symm.trans h) (by decide), fun _ => ⟨fun h => absurd (hk2.symm.trans h) (by decide), fun _ => ⟨fun h => absurd (hk2.symm.trans h) (by decide), fun _ => ⟨fun h => absurd (hk2.symm.trans h) (by decide), fun _ => ⟨a, ⟨fun _ => ⟨a, trivial⟩, fun _ => ⟨a, trivial⟩⟩⟩⟩⟩⟩⟩⟩⟩⟩⟩
    have e1 : p_step u = (p_lengthOf u (nI j), sS (sS (sS u 8 (nI j + 1)) 8 (nI j)) 6 2) := by
      unfold p_step
      rw [e8, cl, if_neg z0, if_neg z1, if_neg z2, if_neg z3, if_neg z4, if_neg z5, if_neg z6, if_pos hk]
    have e2 : p_m_act v (v.1 8) = (p_m_lengthOf v (nI j), sS (sS (sS (sS v 8 (nI j + 1)) 8 (nI j)) 6 2) 7 (v.2 1 j)) := by
      unfold p_m_act
      rw [v8, cl, if_neg y0, if_neg y1, if_neg y2, if_neg y3, if_neg y4, if_neg y5, if_neg y6, if_pos hk2]
    rw [e1, e2]
    refine ⟨ok2, ?_, d, hd1, hd2, hL.trans hd3, hd3⟩
    refine RM_c hRM rfl rfl rfl rfl rfl rfl (k9 rfl rfl rfl rfl rfl rfl rfl rfl rfl) (k9 (fun _ => rfl) (fun _ => rfl) (fun _ => rfl) (fun _ => rfl) (fun _ => rfl) (fun h => absurd rfl h) (fun _ => rfl) (fun _ => rfl) (fun _ => rfl)) h2 rfl ⟨2, by omega, by omega, rfl⟩ ⟨rfl, ⟨j, hj, rfl⟩, m3, ⟨q, by omega, m4, m5⟩, m6⟩ (fun z => absurd z (show ¬ (2 : Int32) = 3 by decide))
  · have hk2 : v.2 0 j = 8 := hK.symm.trans hk
    have z0 : ¬ u.2 0 j = 0 := by rw [hk]; decide
    have y0 : ¬ v.2 0 j = 0 := by rw [hk2]; decide
    have z1 : ¬ u.2 0 j = 1 := by rw [hk]; decide
    have y1 : ¬ v.2 0 j = 1 := by rw [hk2]; decide
    have z2 : ¬ u.2 0 j = 2 := by rw [hk]; decide
    have y2 : ¬ v.2 0 j = 2 := by rw [hk2]; decide
    have z3 : ¬ u.2 0 j = 3 := by rw [hk]; decide
    have y3 : ¬ v.2 0 j = 3 := by rw [hk2]; decide
    have z4 : ¬ u.2 0 j = 4 := by rw [hk]; decide
    have y4 : ¬ v.2 0 j = 4 := by rw [hk2]; decide
    have z5 : ¬ u.2 0 j = 5 := by rw [hk]; decide
    have y5 : ¬ v.2 0 j = 5 := by rw [hk2]; decide
    have z6 : ¬ u.2 0 j = 6 := by rw [hk]; decide
    have y6 : ¬ v.2 0 j = 6 := by rw [hk2]; decide
    have z7 : ¬ u.2 0 j = 7 := by rw [hk]; decide
    have y7 : ¬ v.2 0 j = 7 := by rw [hk2]; decide
    have ok2 : ok_m_act v (v.1 8) := by
      unfold ok_m_act
      rw [v8, cl]
      have a := hj48
      exact ⟨okl, a, ⟨fun h => absurd (hk2.symm.trans h) (by decide), fun _ => ⟨fun h => absurd (hk2.symm.trans h) (by decide), fun _ => ⟨fun h => absurd (hk2.symm.trans h) (by decide), fun _ => ⟨fun h => absurd (hk2.symm.trans h) (by decide), fun _ => ⟨fun h => absurd (hk2.symm.trans h) (by decide), fun _ => ⟨fun h => absurd (hk2.symm.trans h) (by decide), fun _ => ⟨fun h => absurd (hk2.symm.trans h) (by decide), fun _ => ⟨a, ⟨fun _ => ⟨a, trivial⟩, fun _ => ⟨a, trivial⟩⟩⟩⟩⟩⟩⟩⟩⟩⟩⟩
    have e1 : p_step u = (p_lengthOf u (nI j), sS (sS (sS (sS u 8 (nI j + 1)) 8 (nI j)) 6 3) 7 (u.2 5 j)) := by
      unfold p_step
      rw [e8, cl, if_neg z0, if_neg z1, if_neg z2, if_neg z3, if_neg z4, if_neg z5, if_neg z6, if_neg z7]
    have e2 : p_m_act v (v.1 8) = (p_m_lengthOf v (nI j), sS (sS (sS (sS v 8 (nI j + 1)) 8 (nI j)) 6 3) 7 (v.2 1 j)) := by
      unfold p_m_act
      rw [v8, cl, if_neg y0, if_neg y1, if_neg y2, if_neg y3, if_neg y4, if_neg y5, if_neg y6, if_neg y7]
    rw [e1, e2]
    refine ⟨ok2, ?_, d, hd1, hd2, hL.trans hd3, hd3⟩
    rw [n0]
    refine RM_c hRM rfl rfl rfl rfl rfl rfl (k9 rfl rfl rfl rfl rfl rfl rfl rfl rfl) (k9 (fun _ => rfl) (fun _ => rfl) (fun _ => rfl) (fun _ => rfl) (fun _ => rfl) (fun h => absurd rfl h) (fun _ => rfl) (fun _ => rfl) (fun _ => rfl)) h2 rfl ⟨3, by omega, by omega, rfl⟩ ⟨rfl, ⟨j, hj, rfl⟩, m3, ⟨q, by omega, m4, m5⟩, m6⟩ (fun _ => rfl)
