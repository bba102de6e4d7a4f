/-! the last pass, halfword by halfword, and the pool -/
def fin (v : St) : Int32 × St := (if ((v.1 3) - (v.1 3) / 2 * 2) = 1 then p_m_forge_109 64 (p_m_emit v 0) 0 else p_m_forge_109 64 v 0)
def okfin (v : St) : Prop := ((((v.1 3) - (v.1 3) / 2 * 2) = 1 → (ok_m_emit v 0 ∧ ok_m_forge_109 64 (p_m_emit v 0) 0)) ∧ (¬ ((v.1 3) - (v.1 3) / 2 * 2) = 1 → ok_m_forge_109 64 v 0))
theorem SM_7 {n L c j : Nat} {u v : St} {x : Int32} (h : SM n L c u v) (hj : j ≤ n) (e : v.2 7 j = x) : SM n L c (sA u 7 (nI j) x) v := by
  have hn := h.1.1
  obtain ⟨h1, h2, h3, h4, h5, h6, h7, h8, h9, h10⟩ := h
  refine ⟨PR_G h1 (GC_7 u _ _), h2, h3, h4, h5, h6, h7, h8, fun i hi => ?_, h10⟩
  show upd (u.2 7) (nI j).toNatClampNeg x i = v.2 7 i
  rw [nI_cl (by omega)]
  by_cases q : i = j
  · subst q; rw [pk_us]; exact e.symm
  · rw [pk_un q]; exact h9 i hi
theorem fin_s {n : Nat} : ∀ (d j m m' c : Nat) (u v : St), j + d = n → d < m → d < m' → SM n (pl v j) c u v → WH n u → (∀ i, i ≤ n → v.2 7 i = nI (pl v i)) → v.1 5 = nI (pl v n + pl v n % 2) → c ≤ j + 1 →
    ok_writeCode_19 m u (nI j) ∧ ∃ (c' : Nat) (V : St), c' ≤ n + 1 ∧ p_m_forge_73 m' v (nI j) = fin V ∧ (okfin V → ok_m_forge_73 m' v (nI j)) ∧ SM n (pl v n) c' (p_writeCode_19 m u (nI j)) V ∧ GC u (p_writeCode_19 m u (nI j)) ∧ FM v V := by
  intro d
  induction d with
  | zero =>
    intro j m m' c u v hj hm hm' h hw h7 h5 hc
    obtain ⟨m, rfl⟩ : ∃ q, m = q + 1 := ⟨m - 1, by omega⟩
    obtain ⟨m', rfl⟩ : ∃ q, m' = q + 1 := ⟨m' - 1, by omega⟩
    have ej : j = n := by omega
    subst ej
    have hn := h.1.1
    have hpl := pl_le v j
    have e0 : u.1 0 = nI j := h.1.2.1
    have e01 : v.1 1 = nI j := h.1.2.2.1
    have e3 : u.1 3 = nI (pl v j) := h.2.1
    have e : u.1 0 ≤ nI j := by rw [e0]; exact Int32.le_refl _
    have e' : v.1 1 ≤ nI j := by rw [e01]; exact Int32.le_refl _
    have S1 := SM_7 h (Nat.le_refl _) (h7 j (Nat.le_refl _))
    rw [p_writeCode_19, ok_writeCode_19, p_m_forge_73, ok_m_forge_73, if_pos e, if_pos e', e0, e3]
    refine ⟨⟨fun _ => ⟨vp_in_nI (by omega) (by omega), trivial⟩, fun q => absurd (Int32.le_refl _) q⟩, c, v, by omega, rfl, fun q => ⟨fun _ => q, fun w => absurd e' w⟩, ?_, GC_tr (GC_7 u _ _) (GC_s _ 2 _ (by omega)), FM_rf v⟩
    obtain ⟨s1, s2, s3, s4, s5, s6, s7, s8, s9, s10⟩ := S1
    refine ⟨PR_G s1 (GC_s _ 2 _ (by omega)), s2, s3, s4, s5, s6, s7, ?_, s9, s10⟩
    show nI (pl v j) + (nI (pl v j) - nI (pl v j) / 2 * 2) = v.1 5
    rw [show (2 : Int32) = nI 2 from rfl, nI_mod (by omega) (by omega), nI_add, h5]
  | succ d ih =>
    intro j m m' c u v hj hm hm' h hw h7 h5 hc
    obtain ⟨m, rfl⟩ : ∃ q, m = q + 1 := ⟨m - 1, by omega⟩
    obtain ⟨m', rfl⟩ : ∃ q, m' = q + 1 := ⟨m' - 1, by omega⟩
    have hn := h.1.1
    have hpl := pl_le v j
    have e : ¬ u.1 0 ≤ nI j := by rw [h.1.2.1, nI_leI (by omega) (by omega)]; omega
    have e' : ¬ v.1 1 ≤ nI j := by rw [h.1.2.2.1, nI_leI (by omega) (by omega)]; omega
    have e3 : u.1 3 = nI (pl v j) := h.2.1
    have S1 := SM_7 h (show j ≤ n by omega) (h7 j (by omega))
    have g1 := GC_7 u (nI j) (nI (pl v j))
    obtain ⟨o1, o2, d', c', o3, o4, o5, o6, o7, o8⟩ := ins_rel S1 (WH_G hw g1) (show j < n by omega) (by omega) (by omega)
    rw [p_writeCode_19, ok_writeCode_19, p_m_forge_73, ok_m_forge_73, if_neg e, if_neg e', e3, nI_1]
    have g2 := GC_tr g1 (GC_FC o8.2.1)
    have f2 := o8.2.2
    have epl : ∀ i, pl (p_m_emitInstruction v (nI j)) i = pl v i := pl_c (fun k hk => f2.2 k (by omega) (by omega)) (f2.2 8 (by decide) (by decide))
    have S2 := o8.1
    rw [← pl_s o3 o5, ← epl (j + 1)] at S2
    obtain ⟨i1, c2, V, i2, i3, i4, i5, i6, i7⟩ := ih (j + 1) m m' c' _ _ (by omega) (by omega) (by omega) S2 (WH_G hw g2) (fun i hi => by rw [epl, f2.2 7 (by decide) (by decide)]; exact h7 i hi) (by rw [epl, f2.1 5 (by decide) (by decide)]; exact h5) (by omega)
    rw [epl] at i5
    exact ⟨⟨fun q => absurd q e, fun _ => ⟨vp_in_nI (by omega) (by omega), o1, i1⟩⟩, c2, V, i2, i3, fun q => ⟨fun w => absurd w e', fun _ => ⟨o2, i4 q⟩⟩, i5, GC_tr g2 i6, FM_tr f2 i7⟩
theorem pool_s {n c : Nat} (hc : c ≤ 49) : ∀ (d j m m' L : Nat) (u v : St), j + d = c → d < m → d < m' → SM n L c u v → L + 2 * d ≤ 388 →
    ok_writePool_18 m u (nI j) ∧ ok_m_forge_109 m' v (nI j) ∧ ∃ V : St, p_m_forge_109 m' v (nI j) = (V.1 3, sS (sS V 2 1) 6 0) ∧ ST n (L + 2 * d) c u v (p_writePool_18 m u (nI j)) V := by
  intro d
  induction d with
  | zero =>
    intro j m m' L u v hj hm hm' h hL
    obtain ⟨m, rfl⟩ : ∃ q, m = q + 1 := ⟨m - 1, by omega⟩
    obtain ⟨m', rfl⟩ : ∃ q, m' = q + 1 := ⟨m' - 1, by omega⟩
    have e : u.1 1 ≤ nI j := by rw [h.2.2.2.2.1]; exact nI_le (by omega) (by omega)
    have e' : v.1 4 ≤ nI j := by rw [h.2.2.2.2.2.1]; exact nI_le (by omega) (by omega)
    rw [p_writePool_18, ok_writePool_18, p_m_forge_109, ok_m_forge_109, if_pos e, if_pos e']
    exact ⟨⟨fun _ => trivial, fun q => absurd e q⟩, ⟨fun _ => trivial, fun q => absurd e' q⟩, v, rfl, ST_rf h⟩
  | succ d ih =>
    intro j m m' L u v hj hm hm' h hL
    obtain ⟨m, rfl⟩ : ∃ q, m = q + 1 := ⟨m - 1, by omega⟩
    obtain ⟨m', rfl⟩ : ∃ q, m' = q + 1 := ⟨m' - 1, by omega⟩
    have e : ¬ u.1 1 ≤ nI j := by rw [h.2.2.2.2.1, nI_leI (by omega) (by omega)]; omega
    have e' : ¬ v.1 4 ≤ nI j := by rw [h.2.2.2.2.2.1, nI_leI (by omega) (by omega)]; omega
    have iv : vp_in (nI j) 49 := vp_in_nI (by omega) (by omega)
    have cl : (nI j).toNatClampNeg = j := nI_cl (by omega)
    obtain ⟨a1, a2, a3⟩ := put_rel (x := (u.2 9 j) &&& 65535) (y := (v.2 9 j) &&& 65535) h (by omega) (by rw [h.2.2.2.2.2.2.1 j (by omega)])
    obtain ⟨b1, b2, b3⟩ := put_rel (x := ush ((p_put u ((u.2 9 j) &&& 65535)).2 9 j) 16) (y := ush ((p_m_emit v ((v.2 9 j) &&& 65535)).2 9 j) 16) a3.1 (by omega) (by rw [a3.1.2.2.2.2.2.2.1 j (by omega)])
    obtain ⟨i1, i2, V, i3, i4⟩ := ih (j + 1) m m' (L + 1 + 1) _ _ (by omega) (by omega) (by omega) b3.1 (by omega)
    rw [p_writePool_18, ok_writePool_18, p_m_forge_109, ok_m_forge_109, if_neg e, if_neg e', cl, nI_1]
    refine ⟨⟨fun q => absurd q e, fun _ => ⟨iv, a1, iv, b1, i1⟩⟩, ⟨fun q => absurd q e', fun _ => ⟨iv, a2, iv, b2, i2⟩⟩, V, i3, ?_⟩
    rw [show L + 2 * (d + 1) = L + 1 + 1 + 2 * d by omega]
    exact ST_tr (ST_tr a3 b3) i4
theorem pool_r {n L c : Nat} {u v : St} (h : SM n L c u v) (hL : L ≤ 289) (hc : c ≤ 49) (e2 : u.1 2 = nI (L + L % 2)) : ok_writePool u ∧ okfin v ∧ ∃ (V : St) (N : Nat), N ≤ 388 ∧ fin v = (V.1 3, sS (sS V 2 1) 6 0) ∧ ST n N c u v (p_writePool u) V := by
  have q3 : (v.1 3) - (v.1 3) / 2 * 2 = nI (L % 2) := by rw [h.2.2.1, show (2 : Int32) = nI 2 from rfl, nI_mod (by omega) (by omega)]
  unfold ok_writePool okfin p_writePool fin
  rw [q3, e2, h.2.1]
  rcases (by omega : L % 2 = 0 ∨ L % 2 = 1) with z | z
  · have l1 : nI (L + L % 2) ≤ nI L := by rw [z]; exact nI_le (by omega) (by omega)
    have l2 : ¬ nI (L % 2) = 1 := by rw [z]; decide
    obtain ⟨i1, i2, V, i3, i4⟩ := pool_s hc c 0 64 64 L u v (by omega) (by omega) (by omega) h (by omega)
    rw [if_pos l1, if_neg l2]
    exact ⟨⟨fun _ => i1, fun q => absurd l1 q⟩, ⟨fun q => absurd q l2, fun _ => i2⟩, V, L + 2 * c, by omega, i3, i4⟩
  · have l1 : ¬ nI (L + L % 2) ≤ nI L := by rw [z, nI_leI (by omega) (by omega)]; omega
    have l2 : nI (L % 2) = 1 := by rw [z]; rfl
    obtain ⟨a1, a2, a3⟩ := put_rel (x := 0) (y := 0) h (by omega) rfl
    obtain ⟨i1, i2, V, i3, i4⟩ := pool_s hc c 0 64 64 (L + 1) _ _ (by omega) (by omega) (by omega) a3.1 (by omega)
    rw [if_neg l1, if_pos l2]
    exact ⟨⟨fun q => absurd q l1, fun _ => ⟨a1, i1⟩⟩, ⟨fun _ => ⟨a2, i2⟩, fun q => absurd l2 q⟩, V, L + 1 + 2 * c, by omega, i3, ST_tr a3 i4⟩
