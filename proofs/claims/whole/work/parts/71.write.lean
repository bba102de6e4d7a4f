/-! pieces of instructions, side by side -/
theorem wc_rel {n L c a : Nat} {u v : St} (h : SM n L c u v) (hL : L + 4 ≤ 388) (ha : a < 8) : ok_writeWordChoice u (nI a) ∧ ok_m_fetch v (nI a) 0 ∧ ok_m_emitPlace (p_m_fetch v (nI a) 0).2 (p_m_fetch v (nI a) 0).1 ∧ ST n (L + sl a + 3) c u v (p_writeWordChoice u (nI a)) (p_m_emitPlace (p_m_fetch v (nI a) 0).2 (p_m_fetch v (nI a) 0).1) := by
  have hs := sl_le a
  obtain ⟨f1, f2, f3, f4⟩ := fetch_rel 0 h (by omega) ha
  obtain ⟨a1, a2, a3⟩ := put_rel (x := 8455) (y := 8455) f4.1 (by omega) rfl
  obtain ⟨b1, b2, b3⟩ := put_rel (x := 16385 + (8 * ((p_fetch u (nI a) 0).1))) (y := 16385 + (8 * ((p_m_fetch v (nI a) 0).1))) a3.1 (by omega) (by rw [f3])
  obtain ⟨c1, c2, c3⟩ := put_rel (x := 137) (y := 137) b3.1 (by omega) rfl
  exact ⟨⟨f1, a1, b1, c1, trivial⟩, f2, ⟨a2, b2, c2, trivial⟩, ST_tr (ST_tr (ST_tr f4 a3) b3) c3⟩
theorem way_eq {n L c t : Nat} {u v : St} (h : SM n L c u v) (hn : n ≤ 48) (ht : t ≤ n) : p_distance u (u.1 3) (nI t) = p_m_way v (v.1 3) (nI t) := by
  obtain ⟨-, h2, h3, -, -, -, -, -, h9, -⟩ := h
  unfold p_distance p_m_way
  rw [nI_cl (by omega), h9 t ht, h2, h3]
theorem jump_rel {n L c t : Nat} {u v : St} (h : SM n L c u v) (hL : L < 388) (ht : t ≤ n) : ok_writeJump u (nI t) ∧ ok_m_emitJump v (nI t) ∧ ST n (L + 1) c u v (p_writeJump u (nI t)) (p_m_emitJump v (nI t)) := by
  have hn : n ≤ 48 := h.1.1
  obtain ⟨a1, a2, a3⟩ := put_rel (x := 57344 + ((p_distance u (u.1 3) (nI t)) &&& 2047)) (y := 57344 + ((p_m_way v (v.1 3) (nI t)) &&& 2047)) h hL (by rw [way_eq h hn ht])
  exact ⟨⟨⟨vp_in_nI (by omega) (by omega), trivial⟩, a1, trivial⟩, ⟨⟨vp_in_nI (by omega) (by omega), trivial⟩, a2, trivial⟩, a3⟩
/-! the reference's branch, by its parts -/
theorem fr2 (v : St) (x s : Int32) (k : Nat) (hk : k ≠ 6) : (p_m_fetch v x s).2.2 k = v.2 k := by
  unfold p_m_fetch
  split
  · show va_up v.2 6 _ k = v.2 k
    exact va_ups hk
  · rfl
theorem er2 (v : St) (x : Int32) (k : Nat) (hk : k ≠ 6) : (p_m_emit v x).2 k = v.2 k := by
  show va_up v.2 6 _ k = v.2 k
  exact va_ups hk
def pB (v : St) (C A B T F : Int32) : St := if F = 0 then p_m_emit (p_m_emit ((p_m_fetch ((p_m_fetch v A 0).2) B 1).2) ((17024 + (8 * ((p_m_fetch ((p_m_fetch v A 0).2) B 1).1))) + ((p_m_fetch v A 0).1))) ((53248 + (256 * C)) + ((p_m_way (p_m_emit ((p_m_fetch ((p_m_fetch v A 0).2) B 1).2) ((17024 + (8 * ((p_m_fetch ((p_m_fetch v A 0).2) B 1).1))) + ((p_m_fetch v A 0).1))) ((p_m_emit ((p_m_fetch ((p_m_fetch v A 0).2) B 1).2) ((17024 + (8 * ((p_m_fetch ((p_m_fetch v A 0).2) B 1).1))) + ((p_m_fetch v A 0).1))).1 3) T) &&& 255)) else p_m_emitJump (p_m_emit (p_m_emit ((p_m_fetch ((p_m_fetch v A 0).2) B 1).2) ((17024 + (8 * ((p_m_fetch ((p_m_fetch v A 0).2) B 1).1))) + ((p_m_fetch v A 0).1))) (53248 + (256 * (C ^^^ 1)))) T
theorem pB_eq (v : St) (i : Int32) : p_m_emitBranch v i = pB v (v.2 1 i.toNatClampNeg) (v.2 2 i.toNatClampNeg) (v.2 3 i.toNatClampNeg) (v.2 4 i.toNatClampNeg) (v.2 8 i.toNatClampNeg) := by
  unfold p_m_emitBranch pB
  rw [fr2 v _ _ 3 (by decide)]
  generalize (p_m_fetch v (v.2 2 i.toNatClampNeg) 0).1 = q
  have e1 : ∀ k, k ≠ 6 → (p_m_fetch v (v.2 2 i.toNatClampNeg) 0).2.2 k = v.2 k := fun k hk => fr2 v _ _ k hk
  generalize (p_m_fetch v (v.2 2 i.toNatClampNeg) 0).2 = w at e1 ⊢
  have e2 : ∀ k, k ≠ 6 → (p_m_fetch w (v.2 3 i.toNatClampNeg) 1).2.2 k = v.2 k := fun k hk => (fr2 w _ _ k hk).trans (e1 k hk)
  generalize (p_m_fetch w (v.2 3 i.toNatClampNeg) 1).1 = r
  generalize (p_m_fetch w (v.2 3 i.toNatClampNeg) 1).2 = z at e2 ⊢
  have e3 : ∀ k, k ≠ 6 → (p_m_emit z ((17024 + (8 * r)) + q)).2 k = v.2 k := fun k hk => (er2 z _ k hk).trans (e2 k hk)
  generalize (p_m_emit z ((17024 + (8 * r)) + q)) = y at e3 ⊢
  rw [er2 _ _ 4 (by decide), e3 8 (by decide), e3 1 (by decide), e3 4 (by decide)]
theorem okB {v : St} {i C A B T F : Int32} (hi : vp_in i 48) (h1 : v.2 1 i.toNatClampNeg = C) (h2 : v.2 2 i.toNatClampNeg = A) (h3 : v.2 3 i.toNatClampNeg = B) (h4 : v.2 4 i.toNatClampNeg = T) (h8 : v.2 8 i.toNatClampNeg = F)
    (o1 : ok_m_fetch v A 0) (o2 : ok_m_fetch ((p_m_fetch v A 0).2) B 1) (o3 : ok_m_emit ((p_m_fetch ((p_m_fetch v A 0).2) B 1).2) ((17024 + (8 * ((p_m_fetch ((p_m_fetch v A 0).2) B 1).1))) + ((p_m_fetch v A 0).1)))
    (o4 : F = 0 → vp_in T 49 ∧ ok_m_emit (p_m_emit ((p_m_fetch ((p_m_fetch v A 0).2) B 1).2) ((17024 + (8 * ((p_m_fetch ((p_m_fetch v A 0).2) B 1).1))) + ((p_m_fetch v A 0).1))) ((53248 + (256 * C)) + ((p_m_way (p_m_emit ((p_m_fetch ((p_m_fetch v A 0).2) B 1).2) ((17024 + (8 * ((p_m_fetch ((p_m_fetch v A 0).2) B 1).1))) + ((p_m_fetch v A 0).1))) ((p_m_emit ((p_m_fetch ((p_m_fetch v A 0).2) B 1).2) ((17024 + (8 * ((p_m_fetch ((p_m_fetch v A 0).2) B 1).1))) + ((p_m_fetch v A 0).1))).1 3) T) &&& 255)))
    (o5 : ¬ F = 0 → ok_m_emit (p_m_emit ((p_m_fetch ((p_m_fetch v A 0).2) B 1).2) ((17024 + (8 * ((p_m_fetch ((p_m_fetch v A 0).2) B 1).1))) + ((p_m_fetch v A 0).1))) (53248 + (256 * (C ^^^ 1))) ∧ ok_m_emitJump (p_m_emit (p_m_emit ((p_m_fetch ((p_m_fetch v A 0).2) B 1).2) ((17024 + (8 * ((p_m_fetch ((p_m_fetch v A 0).2) B 1).1))) + ((p_m_fetch v A 0).1))) (53248 + (256 * (C ^^^ 1)))) T) : ok_m_emitBranch v i := by
  subst h2
  subst h3
  unfold ok_m_emitBranch
  rw [fr2 v _ _ 3 (by decide)]
  refine ⟨hi, o1, hi, o2, ?_⟩
  revert o3 o4 o5
  generalize (p_m_fetch v (v.2 2 i.toNatClampNeg) 0).1 = q
  have e1 : ∀ k, k ≠ 6 → (p_m_fetch v (v.2 2 i.toNatClampNeg) 0).2.2 k = v.2 k := fun k hk => fr2 v _ _ k hk
  generalize (p_m_fetch v (v.2 2 i.toNatClampNeg) 0).2 = w at e1 ⊢
  have e2 : ∀ k, k ≠ 6 → (p_m_fetch w (v.2 3 i.toNatClampNeg) 1).2.2 k = v.2 k := fun k hk => (fr2 w _ _ k hk).trans (e1 k hk)
  generalize (p_m_fetch w (v.2 3 i.toNatClampNeg) 1).1 = r
  generalize (p_m_fetch w (v.2 3 i.toNatClampNeg) 1).2 = z at e2 ⊢
  intro o3
  refine fun o4 o5 => ⟨o3, hi, ?_⟩
  clear o3
  revert o4 o5
  have e3 : ∀ k, k ≠ 6 → (p_m_emit z ((17024 + (8 * r)) + q)).2 k = v.2 k := fun k hk => (er2 z _ k hk).trans (e2 k hk)
  generalize (p_m_emit z ((17024 + (8 * r)) + q)) = y at e3 ⊢
  intro o4 o5
  rw [er2 _ _ 4 (by decide), e3 8 (by decide), e3 1 (by decide), e3 4 (by decide), h1, h4, h8]
  exact ⟨fun f => ⟨hi, hi, ⟨(o4 f).1, trivial⟩, (o4 f).2, trivial⟩, fun f => ⟨hi, (o5 f).1, hi, (o5 f).2, trivial⟩⟩
theorem branch_rel {n L c a b t i : Nat} {C : Int32} {u v : St} (h : SM n L c u v) (hL : L + 5 ≤ 388) (ha : a < 8) (hb : b < 8) (ht : t ≤ n) (hi : i < n) (h1 : v.2 1 i = C) (h2 : v.2 2 i = nI a) (h3 : v.2 3 i = nI b) (h4 : v.2 4 i = nI t) :
    ok_writeBranch u C (nI a) (nI b) (nI t) (u.2 8 i) ∧ ok_m_emitBranch v (nI i) ∧ ST n (L + (sl a + sl b + if v.2 8 i = 0 then 2 else 3)) c u v (p_writeBranch u C (nI a) (nI b) (nI t) (u.2 8 i)) (p_m_emitBranch v (nI i)) := by
  have hn : n ≤ 48 := h.1.1
  have hs := sl_le a
  have hs2 := sl_le b
  have e8 : u.2 8 i = v.2 8 i := h.2.2.2.2.2.2.2.2.2 i hi
  have cl : (nI i).toNatClampNeg = i := nI_cl (by omega)
  have hv : vp_in (nI i) 48 := vp_in_nI (by omega) (by omega)
  obtain ⟨f1, f2, f3, f4⟩ := fetch_rel 0 h (by omega) ha
  obtain ⟨g1, g2, g3, g4⟩ := fetch_rel 1 f4.1 (by omega) hb
  obtain ⟨a1, a2, a3⟩ := put_rel (x := (17024 + (8 * ((p_fetch ((p_fetch u (nI a) 0).2) (nI b) 1).1))) + ((p_fetch u (nI a) 0).1)) (y := (17024 + (8 * ((p_m_fetch ((p_m_fetch v (nI a) 0).2) (nI b) 1).1))) + ((p_m_fetch v (nI a) 0).1)) g4.1 (by omega) (by rw [f3, g3])
  have ST3 := ST_tr (ST_tr f4 g4) a3
  obtain ⟨b1, b2, b3⟩ := put_rel (x := (53248 + (256 * C)) + ((p_distance (p_put ((p_fetch ((p_fetch u (nI a) 0).2) (nI b) 1).2) ((17024 + (8 * ((p_fetch ((p_fetch u (nI a) 0).2) (nI b) 1).1))) + ((p_fetch u (nI a) 0).1))) ((p_put ((p_fetch ((p_fetch u (nI a) 0).2) (nI b) 1).2) ((17024 + (8 * ((p_fetch ((p_fetch u (nI a) 0).2) (nI b) 1).1))) + ((p_fetch u (nI a) 0).1))).1 3) (nI t)) &&& 255)) a3.1 (by omega) (by rw [way_eq a3.1 hn ht])
  obtain ⟨c1, c2, c3⟩ := put_rel (x := 53248 + (256 * (C ^^^ 1))) (y := 53248 + (256 * (C ^^^ 1))) a3.1 (by omega) rfl
  obtain ⟨j1, j2, j3⟩ := jump_rel c3.1 (by omega) ht
  have vt : vp_in (nI t) 49 := vp_in_nI (by omega) (by omega)
  refine ⟨⟨f1, g1, a1, fun _ => ⟨⟨vt, trivial⟩, b1, trivial⟩, fun _ => ⟨c1, j1, trivial⟩⟩, okB hv (by rw [cl]; exact h1) (by rw [cl]; exact h2) (by rw [cl]; exact h3) (by rw [cl]; exact h4) rfl f2 g2 a2 (fun _ => ⟨vt, b2⟩) (fun _ => ⟨c2, j2⟩), ?_⟩
  rw [pB_eq, cl, h1, h2, h3, h4, e8]
  unfold p_writeBranch pB
  by_cases q : v.2 8 i = 0
  · rw [if_pos q, if_pos q, if_pos q]
    have := ST_tr ST3 b3
    rw [show L + (sl a + sl b + 2) = L + sl a + sl b + 1 + 1 by omega]
    exact this
  · rw [if_neg q, if_neg q, if_neg q]
    have := ST_tr (ST_tr ST3 c3) j3
    rw [show L + (sl a + sl b + 3) = L + sl a + sl b + 1 + 1 + 1 by omega]
    exact this
theorem chg_eq {o : Nat} (h1 : 2 ≤ o) (h2 : o < 8) : chg (nI o - 2).toNatClampNeg = p_m_codeOf (nI o) ∧ vp_in (nI o - 2) 6 := by
  have e : nI o - 2 = nI (o - 2) := by
    obtain ⟨q, rfl⟩ : ∃ q, o = q + 2 := ⟨o - 2, by omega⟩
    rw [← nI_add]
    show nI q + 2 - 2 = nI q
    exact Int32.add_sub_cancel _ _
  rw [e]
  refine ⟨?_, vp_in_nI (by omega) (by omega)⟩
  rw [nI_cl (by omega)]
  rcases (by omega : o = 2 ∨ o = 3 ∨ o = 4 ∨ o = 5 ∨ o = 6 ∨ o = 7) with q | q | q | q | q | q <;> subst q <;> decide
theorem x2 : (2 : Int32) = nI 2 := rfl
theorem compute_rel {n L c o d a b : Nat} {u v : St} (h : SM n L c u v) (hL : L + 4 ≤ 388) (ho : o < 8) (hd : d < 8) (ha : a < 8) (hb : b < 8) :
    ok_writeCompute u (nI o) (nI d) (nI a) (nI b) ∧ ok_m_emitCompute v (nI o) (nI d) (nI a) (nI b) ∧ ST n (L + if 2 ≤ nI o then 3 + sl b else sl a + sl b + 1 + sl d) c u v (p_writeCompute u (nI o) (nI d) (nI a) (nI b)) (p_m_emitCompute v (nI o) (nI d) (nI a) (nI b)) := by
  have hs := sl_le a
  have hs2 := sl_le b
  have hs3 := sl_le d
  unfold ok_writeCompute ok_m_emitCompute p_writeCompute p_m_emitCompute
  by_cases q : 2 ≤ o
  · have q' : 2 ≤ nI o := by rw [x2]; exact nI_le q (by omega)
    obtain ⟨e1, e2⟩ := chg_eq q ho
    obtain ⟨f1, f2, f3⟩ := copy_rel h (by omega) ha
    obtain ⟨g1, g2, g3, g4⟩ := fetch_rel 1 f3.1 (by omega) hb
    obtain ⟨a1, a2, a3⟩ := put_rel (x := (chg (nI o - 2).toNatClampNeg) + (8 * ((p_fetch (p_copyTo0 u (nI a)) (nI b) 1).1))) (y := (p_m_codeOf (nI o)) + (8 * ((p_m_fetch (p_m_copy v (nI a)) (nI b) 1).1))) g4.1 (by omega) (by rw [e1, g3])
    obtain ⟨k1, k2, k3⟩ := keep_rel a3.1 (by omega) hd
    obtain ⟨r1, r2, r3⟩ := put_rel (x := p_registerOf (nI d)) (y := 4 + nI d) a3.1 (by omega) rfl
    refine ⟨⟨fun _ => ⟨f1, g1, e2, a1, fun _ => ⟨k1, trivial⟩, fun _ => ⟨r1, trivial⟩⟩, fun w => absurd q' w⟩, ⟨fun _ => ⟨f2, g2, a2, fun _ => ⟨k2, trivial⟩, fun _ => ⟨r2, trivial⟩⟩, fun w => absurd q' w⟩, ?_⟩
    rw [if_pos q', if_pos q', if_pos q', show L + (3 + sl b) = L + 1 + sl b + 1 + 1 by omega]
    rcases hasr hd with ⟨-, d1, d2, d3⟩ | ⟨-, d1, d2, d3⟩
    · rw [if_pos d1, if_pos d2]
      rw [d3] at k3
      exact ST_tr (ST_tr (ST_tr f3 g4) a3) k3
    · rw [if_neg d1, if_neg d2]
      exact ST_tr (ST_tr (ST_tr f3 g4) a3) r3
  · have q' : ¬ 2 ≤ nI o := by rw [x2, nI_leI (by omega) (by omega)]; exact q
    obtain ⟨f1, f2, f3, f4⟩ := fetch_rel 0 h (by omega) ha
    obtain ⟨g1, g2, g3, g4⟩ := fetch_rel 1 f4.1 (by omega) hb
    obtain ⟨a1, a2, a3⟩ := put_rel (x := ((6144 + (64 * ((p_fetch ((p_fetch u (nI a) 0).2) (nI b) 1).1))) + (8 * ((p_fetch u (nI a) 0).1))) + (p_targetOf (nI d))) (y := ((6144 + (64 * ((p_m_fetch ((p_m_fetch v (nI a) 0).2) (nI b) 1).1))) + (8 * ((p_m_fetch v (nI a) 0).1))) + (p_m_target (nI d))) g4.1 (by omega) (by rw [f3, g3, tgt_eq hd])
    obtain ⟨b1, b2, b3⟩ := put_rel (x := ((6656 + (64 * ((p_fetch ((p_fetch u (nI a) 0).2) (nI b) 1).1))) + (8 * ((p_fetch u (nI a) 0).1))) + (p_targetOf (nI d))) (y := ((6656 + (64 * ((p_m_fetch ((p_m_fetch v (nI a) 0).2) (nI b) 1).1))) + (8 * ((p_m_fetch v (nI a) 0).1))) + (p_m_target (nI d))) g4.1 (by omega) (by rw [f3, g3, tgt_eq hd])
    obtain ⟨k1, k2, k3⟩ := keep_rel a3.1 (by omega) hd
    obtain ⟨r1, r2, r3⟩ := keep_rel b3.1 (by omega) hd
    refine ⟨⟨fun w => absurd w q', fun _ => ⟨f1, g1, fun _ => ⟨a1, k1, trivial⟩, fun _ => ⟨b1, r1, trivial⟩⟩⟩, ⟨fun w => absurd w q', fun _ => ⟨f2, g2, fun _ => ⟨a2, k2, trivial⟩, fun _ => ⟨b2, r2, trivial⟩⟩⟩, ?_⟩
    rw [if_neg q', if_neg q', if_neg q', show L + (sl a + sl b + 1 + sl d) = L + sl a + sl b + 1 + sl d by omega]
    by_cases z : nI o = 0
    · rw [if_pos z, if_pos z]; exact ST_tr (ST_tr (ST_tr f4 g4) a3) k3
    · rw [if_neg z, if_neg z]; exact ST_tr (ST_tr (ST_tr f4 g4) b3) r3
