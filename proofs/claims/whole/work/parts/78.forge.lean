/-! forge -/
theorem forge_rel {n : Nat} {u v : St} (hP : PR n u v) (hw : WH n u) : ok_make u ∧ ok_m_lengthen v ∧ (∀ V0 : St, V0 = sS (sS (sS (p_m_lengthen v) 3 0) 4 0) 5 (((p_m_lengthen v).2 7 ((p_m_lengthen v).1 1).toNatClampNeg) + (((p_m_lengthen v).2 7 ((p_m_lengthen v).1 1).toNatClampNeg) - ((p_m_lengthen v).2 7 ((p_m_lengthen v).1 1).toNatClampNeg) / 2 * 2)) →
    vp_in ((p_m_lengthen v).1 1) 49 ∧ ok_m_literal V0 3 536870912 ∧ ok_m_forge_73 64 (p_m_literal V0 3 536870912) 0 ∧ ∃ V : St, p_m_forge_73 64 (p_m_literal V0 3 536870912) 0 = (V.1 3, sS (sS V 2 1) 6 0) ∧ IM n (p_make u) V ∧ PR n (p_make u) V ∧ (p_make u).1 4 = 1 ∧
    (∀ k, 5 ≤ k → (p_make u).1 k = u.1 k) ∧ (∀ k, 10 ≤ k → (p_make u).2 k = u.2 k) ∧ (∀ k, k ≠ 3 → k ≠ 4 → k ≠ 5 → V.1 k = v.1 k) ∧ (∀ k, k ≠ 6 → k ≠ 7 → k ≠ 8 → k ≠ 9 → V.2 k = v.2 k)) := by
  have hn := hP.1
  obtain ⟨u1, a1, a2, -, a4, a5, a6⟩ := mk_0 48 0 64 u (by omega) (by omega)
  obtain ⟨v1, b1, b2, -, b4, b5, b6⟩ := ml_0 hn n 0 64 v (by omega) (by omega) hP.2.2.1
  have P1 : PR n u1 v1 := PR_c hP (by rw [a1]) (by rw [b1]) (fun k hk => a2 k (by omega)) (fun k hk => b2 k (by omega))
  have W1 : WH n u1 := WH_c hw (fun k hk => a2 k (by omega))
  obtain ⟨c1, U, V, c2, c3, c4, c5, c6, c7, c8, c9, c10⟩ := mk_s 48 0 64 64 u1 v1 1 (Nat.le_trans (ns_le _ n) hn) (by omega) (by omega) (by omega) P1 W1 (fun i hi => (a4 i (by omega) (by omega)).trans (b4 i (by omega) hi).symm) (by decide)
  have eM : p_make u = sS (p_writePool (p_writeCode U)) 4 1 := a5.trans c9
  have eL : p_m_lengthen v = V := b5.trans c2.symm
  have PU : PR n U V := PR_H P1 c4 c3
  have WU : WH n U := WH_H W1 c4
  have V1n : V.1 1 = nI n := PU.2.2.1
  have hpl := pl_le V n
  have main : ∀ V0 : St, V0 = sS (sS (sS V 3 0) 4 0) 5 (nI (pl V n + pl V n % 2)) → ok_writeCode U ∧ ok_writePool (p_writeCode U) ∧ ok_m_literal V0 3 536870912 ∧ ok_m_forge_73 64 (p_m_literal V0 3 536870912) 0 ∧ ∃ (X : St) (N c : Nat), N ≤ 388 ∧ p_m_forge_73 64 (p_m_literal V0 3 536870912) 0 = (X.1 3, sS (sS X 2 1) 6 0) ∧ SM n N c (p_writePool (p_writeCode U)) X ∧ GC U (p_writePool (p_writeCode U)) ∧ FM V0 X := by
    intro V0 e0
    have g0 : GC U (sS (sS U 3 0) 1 0) := GC_tr (GC_s U 3 0 (by omega)) (GC_s _ 1 0 (by omega))
    have r0 : V0.2 = V.2 := by rw [e0]; rfl
    have S0 : SM n 0 0 (sS (sS U 3 0) 1 0) V0 := by
      subst e0
      exact ⟨PR_c PU rfl rfl (fun _ _ => rfl) (fun _ _ => rfl), rfl, rfl, fun j hj => absurd hj (by omega), rfl, rfl, fun j hj => absurd hj (by omega), c8, fun j hj => (c6 j hj).trans (c7 j hj).symm, c5⟩
    have e5 : V0.1 5 = nI (pl V n + pl V n % 2) := by rw [e0]; rfl
    obtain ⟨l1, l2, c', l3, l4, l5⟩ := lit_rel 536870912 3 S0 (by omega) (by omega)
    have f1 := l5.2.2
    have epl : ∀ i, pl (p_m_literal V0 3 536870912) i = pl V i := pl_c (fun k hk => by rw [f1.2 k (by omega) (by omega), r0]) (by rw [f1.2 8 (by decide) (by decide), r0])
    have g1 := GC_tr g0 (GC_FC l5.2.1)
    obtain ⟨i1, c2', W, i2, i3, i4, i5, i6, i7⟩ := fin_s n 0 64 64 c' _ _ (by omega) (by omega) (by omega) l5.1 (WH_G WU g1) (fun i hi => by rw [epl, f1.2 7 (by decide) (by decide), r0]; exact c7 i hi) (by rw [epl, f1.1 5 (by decide) (by decide)]; exact e5) (by omega)
    rw [epl] at i5
    have e2 : (p_writeCode_19 64 (p_writeLiteral (sS (sS U 3 0) 1 0) 536870912 3) (nI 0)).1 2 = nI (pl V n + pl V n % 2) := by
      rw [i5.2.2.2.2.2.2.2.1, i7.1 5 (by decide) (by decide), f1.1 5 (by decide) (by decide)]; exact e5
    obtain ⟨p1, p2, X, N, p3, p4, p5⟩ := pool_r i5 (by omega) (by omega) e2
    exact ⟨⟨l1, i1⟩, p1, l2, i4 p2, X, N, c2', p3, i3.trans p4, p5.1, GC_tr (GC_tr g1 i6) (GC_FC p5.2.1), FM_tr f1 (FM_tr i7 p5.2.2)⟩
  have okc := main _ rfl
  refine ⟨a6 (c10 okc.1 okc.2.1), b6 c1, ?_⟩
  rw [eL, V1n, nI_cl (by omega), c7 n (Nat.le_refl _), show (2 : Int32) = nI 2 from rfl, nI_mod (by omega) (by omega), nI_add]
  intro V0 e0
  obtain ⟨m1, m2, m3, m4, X, N, c, m5, m6, m7, m8, m9⟩ := main V0 e0
  have r0 : V0.2 = V.2 := by rw [e0]; rfl
  have r1 : ∀ k, k ≠ 3 → k ≠ 4 → k ≠ 5 → V0.1 k = V.1 k := by
    intro k x y z
    rw [e0]
    show va_up (va_up (va_up V.1 3 0) 4 0) 5 _ k = V.1 k
    rw [va_ups z, va_ups y, va_ups x]
  refine ⟨vp_in_nI (by omega) (by omega), m3, m4, X, m6, ?_⟩
  rw [eM]
  obtain ⟨s1, s2, s3, s4, s5, s6, s7, s8, s9, s10⟩ := m7
  have rX : ∀ k, k ≠ 6 → k ≠ 9 → X.2 k = V.2 k := fun k x y => by rw [m9.2 k x y, r0]
  have W2 : WH n (p_writePool (p_writeCode U)) := WH_G WU m8
  generalize p_writePool (p_writeCode U) = Y at *
  refine ⟨⟨W2, N, m5, s2, s3, s4, s9, s10, fun j hj => ?_⟩, PR_c s1 rfl rfl (fun _ _ => rfl) (fun _ _ => rfl), rfl, fun k hk => ?_, fun k hk => ?_, fun k x y z => ?_, fun k x y z w => ?_⟩
  · obtain ⟨d, d1, d2, d3, -⟩ := len_n V (nI j)
    rw [rX 7 (by decide) (by decide), c7 (j + 1) (by omega), c7 j (by omega), pl_s d3 d2, nI_sub (by omega), len_c (fun k hk => rX k (by omega) (by omega)) (rX 8 (by decide) (by decide)), d3, Nat.add_sub_cancel_left]
  · show va_up Y.1 4 1 k = u.1 k
    rw [va_ups (by omega), m8.1 k (by omega) (by omega) (by omega), c4.1 k (by omega) (by omega) (by omega), a1]
  · show Y.2 k = u.2 k
    rw [m8.2 k (by omega) (by omega) (by omega), c4.2 k (by omega) (by omega) (by omega) (by omega), a2 k (by omega)]
  · rw [m9.1 k x y, r1 k x y z, c3.1, b1]
  · rw [rX k x w, c3.2 k y z, b2 k z]
theorem sim_forge : sx_forge RR := by
  intro k u v hk hR
  obtain ⟨n, hN⟩ := hR
  have hP := hN.1
  obtain ⟨w1, w2, w3⟩ := whole_rel hP
  rcases w3 with ⟨z1, z2⟩ | ⟨z1, z2, hw⟩
  · unfold ok_forge ok_m_forge p_forge p_m_forge
    rw [if_pos z1, if_pos z2]
    exact ⟨⟨w1, fun _ => trivial, fun q => absurd z1 q⟩, ⟨w2, fun _ => trivial, fun q => absurd z2 q⟩, Or.inr rfl, rfl, fun q => absurd q n20, RR_thr 1 (RR_up k u v ⟨n, hN⟩)⟩
  · have P0 : PR n (p_turnOff u) (sS v 0 0) := PR_c hP rfl rfl (fun _ _ => rfl) (fun _ _ => rfl)
    have W0 : WH n (p_turnOff u) := hw
    obtain ⟨f1, f2, f3⟩ := forge_rel P0 W0
    obtain ⟨g1, g2, g3, V, g4, g5, g6, g7, g8, g9, g10, g11⟩ := f3 _ rfl
    obtain ⟨h1, h2, h3, h4, h5, h6, h7, h8, h9, h10, h11⟩ := hN
    unfold ok_forge ok_m_forge p_forge p_m_forge
    rw [if_neg z1, if_neg z2, g4]
    have t6 : (p_make (p_turnOff u)).1 6 = 0 := g8 6 (by omega)
    have t5 : (p_make (p_turnOff u)).1 5 = 0 := g8 5 (by omega)
    have t10 : (p_make (p_turnOff u)).2 10 = u.2 10 := g9 10 (by omega)
    have t12 : (p_make (p_turnOff u)).2 12 = u.2 12 := g9 12 (by omega)
    have h5' : ∀ i, i < 8 → (p_make (p_turnOff u)).2 10 i = V.2 5 i := fun i hi => by
      rw [t10, g11 5 (by decide) (by decide) (by decide) (by decide)]
      exact h2 i hi
    have h11' : ∀ i, i < 16 → (p_make (p_turnOff u)).2 12 i = V.2 11 i := fun i hi => by
      rw [t12, g11 11 (by decide) (by decide) (by decide) (by decide)]
      exact h11 i hi
    have v0 : V.1 0 = 0 := g10 0 (by decide) (by decide) (by decide)
    clear f3 g4 g8 g9 g10 g11 t10 t12
    generalize p_make (p_turnOff u) = Y at *
    have fin5 : RN (k + 1) n Y (sS (sS V 2 1) 6 0) := ⟨PR_c g6 rfl rfl (fun _ _ => rfl) (fun _ _ => rfl), h5', Or.inr g7, g7, fun _ => IM_c g5 rfl rfl (fun _ _ => rfl) (fun _ _ => rfl) rfl rfl rfl, t6, ⟨0, by omega, t6⟩, fun _ => t5, fun q => absurd t6 q, fun q => absurd (t6.symm.trans q) (by decide), h11'⟩
    have len5 : Y.1 3 = V.1 3 := by
      obtain ⟨-, N, -, q1, q2, -⟩ := g5
      exact q1.trans q2.symm
    exact ⟨⟨w1, fun q => absurd q z1, fun _ => ⟨f1, trivial⟩⟩, ⟨w2, fun q => absurd q z2, fun _ => ⟨f2, g1, g1, g2, g3⟩⟩, Or.inl rfl, v0, fun _ => len5, n, fin5⟩
theorem sim_all : Sim RR := ⟨RR_0, RR_up, sim_constant, sim_compute, sim_load, sim_store, sim_jump, sim_branch, sim_out, sim_stop, sim_clear, sim_forge, sim_halfword, sim_place, sim_poke, sim_memory, sim_start, sim_run, sim_state, sim_at, sim_variable, sim_outputs, sim_output⟩
