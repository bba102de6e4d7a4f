/-! the passes, both sides in step, to their end -/
def HC (u u' : St) : Prop := (∀ k, k ≠ 1 → k ≠ 2 → k ≠ 3 → u'.1 k = u.1 k) ∧ ∀ k, k ≠ 6 → k ≠ 7 → k ≠ 8 → k ≠ 9 → u'.2 k = u.2 k
def HM (v v' : St) : Prop := v'.1 = v.1 ∧ ∀ k, k ≠ 7 → k ≠ 8 → v'.2 k = v.2 k
theorem HC_tr {a b c : St} (h : HC a b) (g : HC b c) : HC a c := ⟨fun k p q r => (g.1 k p q r).trans (h.1 k p q r), fun k p q r s => (g.2 k p q r s).trans (h.2 k p q r s)⟩
theorem HM_tr {a b c : St} (h : HM a b) (g : HM b c) : HM a c := ⟨g.1.trans h.1, fun k p q => (g.2 k p q).trans (h.2 k p q)⟩
theorem PR_H {n : Nat} {u u' v v' : St} (h : PR n u v) (g : HC u u') (f : HM v v') : PR n u' v' := PR_c h (g.1 0 (by decide) (by decide) (by decide)) (congrFun f.1 1) (fun k hk => g.2 k (by omega) (by omega) (by omega) (by omega)) (fun k hk => f.2 k (by omega) (by omega))
theorem WH_H {n : Nat} {u u' : St} (h : WH n u) (g : HC u u') : WH n u' := WH_c h (fun k hk => g.2 k (by omega) (by omega) (by omega) (by omega))
theorem len_5 {v : St} {i : Nat} (hi : i < 48) (k5 : v.2 0 i = 5) (f0 : v.2 8 i = 0) : ∃ a b : Nat, a ≤ 1 ∧ b ≤ 1 ∧ p_m_slot (v.2 2 i) = nI a ∧ p_m_slot (v.2 3 i) = nI b ∧ p_m_lengthOf v (nI i) = nI (a + b + 2) := by
  obtain ⟨a, a1, a2⟩ := sl_n (v.2 2 i)
  obtain ⟨b, b1, b2⟩ := sl_n (v.2 3 i)
  refine ⟨a, b, a1, b1, a2, b2, ?_⟩
  unfold p_m_lengthOf
  rw [nI_cl (by omega), k5, f0, a2, b2, if_neg (show ¬ (5 : Int32) = 0 by decide), if_neg (show ¬ (5 : Int32) = 1 by decide), if_neg (show ¬ (5 : Int32) = 2 by decide), if_neg (show ¬ (5 : Int32) = 3 by decide), if_pos rfl, if_pos rfl, nI_add, show (2 : Int32) = nI 2 from rfl, nI_add]
theorem stp {n : Nat} {u v : St} (hP : PR n u v) (hw : WH n u) (h8 : ∀ i, i < n → u.2 8 i = v.2 8 i) :
    ok_writeCode u ∧ ok_m_layOut v ∧ ok_lengthenBranches (p_writeCode u) ∧ ok_m_lengthen_37 64 (p_m_layOut v) 0 0 ∧ ∃ (y : Int32) (U V : St), (p_lengthenBranches (p_writeCode u)).1 = y ∧ (p_lengthenBranches (p_writeCode u)).2 = U ∧ (p_m_lengthen_37 64 (p_m_layOut v) 0 0).1 = y ∧ (p_m_lengthen_37 64 (p_m_layOut v) 0 0).2.2 = V ∧ HC u U ∧ HM v V ∧ (∀ i, i < n → U.2 8 i = V.2 8 i) ∧
    ((y = 0 ∧ (∀ i, i ≤ n → U.2 7 i = nI (pl V i)) ∧ (∀ i, i ≤ n → V.2 7 i = nI (pl V i)) ∧ U.1 2 = nI (pl V n + pl V n % 2)) ∨ (y = 1 ∧ ns (V.2 8) n < ns (v.2 8) n)) := by
  have hn := hP.1
  obtain ⟨c1, c2, c3, c4⟩ := pass_c hP hw h8
  obtain ⟨m1, m2, m3, m4⟩ := lay_m hn hP.2.2.1
  have epl : ∀ j, pl (p_m_layOut v) j = pl v j := pl_c (fun k hk => m3 k (by omega)) (m3 8 (by decide))
  unfold ok_lengthenBranches p_lengthenBranches
  generalize p_writeCode u = U0 at *
  generalize p_m_layOut v = V0 at *
  have P0 : PR n U0 V0 := PR_c hP (c2.1 0 (by decide) (by decide) (by decide)) (congrFun m2 1) (fun k hk => c2.2 k (by omega) (by omega) (by omega)) (fun k hk => m3 k (by omega))
  obtain ⟨i1, i2, i3, i4, i5, i6, i7, i8, i9⟩ := len_s n 0 64 U0 V0 0 (by omega) (by omega) P0 (WH_G hw c2) (fun i hi => (c3 i hi).trans (m4 i hi).symm) (fun i hi => by rw [c2.2 8 (by decide) (by decide) (by decide), m3 8 (by decide)]; exact h8 i hi)
    (fun i _ hi k5 f0 => by
      rw [m3 0 (by decide)] at k5
      rw [m3 8 (by decide)] at f0
      obtain ⟨a, b, a1, b1, a2, b2, a3⟩ := len_5 (by omega) k5 f0
      rw [c3 (i + 1) (by omega), m4 i (by omega), m3 2 (by decide), m3 3 (by decide), a2, b2, pl_s a3 (by omega), nI_add, nI_add, nI_1, show pl v i + (a + b + 2) = (pl v i + a + b + 1) + 1 by omega, nI_pred]) (Or.inl rfl)
  have q : nI 0 = (0 : Int32) := nI_0
  rw [q] at i1 i2 i3 i4 i5 i6 i7 i8 i9
  refine ⟨c1, m1, i1, i2, _, _, _, rfl, rfl, i3.symm, rfl, ?_, ?_, i8, ?_⟩
  · refine ⟨fun k p q r => ?_, fun k p q r s => ?_⟩
    · rw [i4]; exact c2.1 k p q r
    · rw [i5 k r]; exact c2.2 k p q s
  · exact ⟨i6.trans m2, fun k p q => (i7 k q).trans (m3 k p)⟩
  · rcases i9 with ⟨q1, q2, q3⟩ | ⟨q1, q2⟩
    · refine Or.inl ⟨q1, ?_, ?_, ?_⟩
      · rw [q2, q3]; intro i hi; rw [epl]; exact c3 i hi
      · rw [q3]; intro i hi; rw [epl]; exact m4 i hi
      · rw [q2, q3, epl]; exact c4
    · refine Or.inr ⟨q1, ?_⟩
      rw [m3 8 (by decide)] at q2
      exact q2
theorem mk_s {n : Nat} : ∀ (s p m m' : Nat) (u v : St) (x : Int32), ns (v.2 8) n ≤ s → p + s ≤ 48 → s < m → s + 1 < m' → PR n u v → WH n u → (∀ i, i < n → u.2 8 i = v.2 8 i) → ¬ x = 0 →
    ok_m_lengthen_25 m' v x ∧ ∃ U V : St, V = p_m_lengthen_25 m' v x ∧ HM v V ∧ HC u U ∧ (∀ i, i < n → U.2 8 i = V.2 8 i) ∧ (∀ i, i ≤ n → U.2 7 i = nI (pl V i)) ∧ (∀ i, i ≤ n → V.2 7 i = nI (pl V i)) ∧ U.1 2 = nI (pl V n + pl V n % 2) ∧ p_make_23 m u (nI p) = sS (p_writePool (p_writeCode U)) 4 1 ∧ (ok_writeCode U → ok_writePool (p_writeCode U) → ok_make_23 m u (nI p)) := by
  intro s
  induction s with
  | zero =>
    intro p m m' u v x hs hp hm hm' hP hw h8 hx
    obtain ⟨m, rfl⟩ : ∃ q, m = q + 1 := ⟨m - 1, by omega⟩
    obtain ⟨m', rfl⟩ : ∃ q, m' = q + 1 + 1 := ⟨m' - 2, by omega⟩
    obtain ⟨c1, c2, c3, c4, y, U, V, e1, e2, e3, e4, g1, g2, g3, g4⟩ := stp hP hw h8
    have ep : ¬ (48 : Int32) < nI p := by rw [x48]; exact nI_nlt (by omega) (by omega)
    rcases g4 with ⟨y0, g5, g6, g7⟩ | ⟨y1, g5⟩
    · rw [p_make_23, ok_make_23, p_m_lengthen_25, ok_m_lengthen_25, if_neg ep, if_neg hx, e1, e2, e3, e4, y0, p_m_lengthen_25, ok_m_lengthen_25, if_pos rfl, if_pos rfl]
      exact ⟨⟨fun q => absurd q hx, fun _ => ⟨c2, c4, fun _ => trivial, fun q => absurd rfl q⟩⟩, U, V, rfl, g2, g1, g3, g5, g6, g7, rfl, fun w1 w2 => ⟨fun q => absurd q ep, fun _ => ⟨c1, c3, fun _ => ⟨w1, w2, trivial⟩, fun q => absurd rfl q⟩⟩⟩
    · exact absurd g5 (by omega)
  | succ s ih =>
    intro p m m' u v x hs hp hm hm' hP hw h8 hx
    obtain ⟨m, rfl⟩ : ∃ q, m = q + 1 := ⟨m - 1, by omega⟩
    obtain ⟨m', rfl⟩ : ∃ q, m' = q + 1 + 1 := ⟨m' - 2, by omega⟩
    obtain ⟨c1, c2, c3, c4, y, U, V, e1, e2, e3, e4, g1, g2, g3, g4⟩ := stp hP hw h8
    have ep : ¬ (48 : Int32) < nI p := by rw [x48]; exact nI_nlt (by omega) (by omega)
    rcases g4 with ⟨y0, g5, g6, g7⟩ | ⟨y1, g5⟩
    · rw [p_make_23, ok_make_23, p_m_lengthen_25, ok_m_lengthen_25, if_neg ep, if_neg hx, e1, e2, e3, e4, y0, p_m_lengthen_25, ok_m_lengthen_25, if_pos rfl, if_pos rfl]
      exact ⟨⟨fun q => absurd q hx, fun _ => ⟨c2, c4, fun _ => trivial, fun q => absurd rfl q⟩⟩, U, V, rfl, g2, g1, g3, g5, g6, g7, rfl, fun w1 w2 => ⟨fun q => absurd q ep, fun _ => ⟨c1, c3, fun _ => ⟨w1, w2, trivial⟩, fun q => absurd rfl q⟩⟩⟩
    · have n1 : ¬ (1 : Int32) = 0 := by decide
      obtain ⟨i1, U', V', i2, i3, i4, i5, i6, i7, i8, i9, i10⟩ := ih (p + 1) m (m' + 1) U V 1 (by omega) (by omega) (by omega) (by omega) (PR_H hP g1 g2) (WH_H hw g1) g3 n1
      rw [p_make_23, ok_make_23, p_m_lengthen_25.eq_def (m' + 1 + 1), ok_m_lengthen_25.eq_def (m' + 1 + 1)]
      show ((x = 0 → True) ∧ (¬ x = 0 → (ok_m_layOut v ∧ (ok_m_lengthen_37 64 (p_m_layOut v) 0 0 ∧ ok_m_lengthen_25 (m' + 1) ((p_m_lengthen_37 64 (p_m_layOut v) 0 0).2.2) ((p_m_lengthen_37 64 (p_m_layOut v) 0 0).1))))) ∧ ∃ U V : St, V = (if x = 0 then v else p_m_lengthen_25 (m' + 1) ((p_m_lengthen_37 64 (p_m_layOut v) 0 0).2.2) ((p_m_lengthen_37 64 (p_m_layOut v) 0 0).1)) ∧ _
      rw [if_neg ep, if_neg hx, e1, e2, e3, e4, y1, nI_1, if_neg n1]
      exact ⟨⟨fun q => absurd q hx, fun _ => ⟨c2, c4, i1⟩⟩, U', V', i2, HM_tr g2 i3, HC_tr g1 i4, i5, i6, i7, i8, i9, fun w1 w2 => ⟨fun q => absurd q ep, fun _ => ⟨c1, c3, fun q => absurd q n1, fun _ => i10 w1 w2⟩⟩⟩
/-! the first loops: no branch is long -/
theorem mk_0 : ∀ (d j m : Nat) (u : St), j + d = 48 → d < m → ∃ u' : St, u'.1 = u.1 ∧ (∀ k, k ≠ 8 → u'.2 k = u.2 k) ∧ (∀ i, i < j → u'.2 8 i = u.2 8 i) ∧ (∀ i, j ≤ i → i < 48 → u'.2 8 i = 0) ∧ p_make_2 m u (nI j) = p_make_23 64 u' 0 ∧ (ok_make_23 64 u' 0 → ok_make_2 m u (nI j)) := by
  intro d
  induction d with
  | zero =>
    intro j m u hj hm
    obtain ⟨m, rfl⟩ : ∃ q, m = q + 1 := ⟨m - 1, by omega⟩
    have e : (48 : Int32) ≤ nI j := by rw [x48]; exact nI_le (by omega) (by omega)
    rw [p_make_2, ok_make_2, if_pos e]
    exact ⟨u, rfl, fun _ _ => rfl, fun _ _ => rfl, fun i a b => absurd b (by omega), rfl, fun q => ⟨fun _ => q, fun w => absurd e w⟩⟩
  | succ d ih =>
    intro j m u hj hm
    obtain ⟨m, rfl⟩ : ∃ q, m = q + 1 := ⟨m - 1, by omega⟩
    have e : ¬ (48 : Int32) ≤ nI j := by rw [x48, nI_leI (by omega) (by omega)]; omega
    have up1 : ∀ i, (sA u 8 (nI j) 0).2 8 i = upd (u.2 8) j 0 i := by
      intro i
      show upd (u.2 8) (nI j).toNatClampNeg 0 i = _
      rw [nI_cl (by omega)]
    obtain ⟨s1, s2⟩ := r8 u (nI j) 0
    obtain ⟨u', i1, i2, i3, i4, i5, i6⟩ := ih (j + 1) m (sA u 8 (nI j) 0) (by omega) (by omega)
    rw [p_make_2, ok_make_2, if_neg e, nar0, nI_1]
    refine ⟨u', i1.trans s1, fun k hk => (i2 k hk).trans (s2 k hk), fun i hi => ?_, fun i a b => ?_, i5, fun q => ⟨fun w => absurd w e, fun _ => ⟨vp_in_nI (by omega) (by omega), i6 q⟩⟩⟩
    · rw [i3 i (by omega), up1, pk_un (by omega)]
    · rcases Nat.lt_or_ge j i with q | q
      · exact i4 i (by omega) b
      · have ei : i = j := by omega
        subst ei
        rw [i3 i (by omega), up1, pk_us]
theorem ml_0 {n : Nat} (hn : n ≤ 48) : ∀ (d j m : Nat) (u : St), j + d = n → d < m → u.1 1 = nI n → ∃ u' : St, u'.1 = u.1 ∧ (∀ k, k ≠ 8 → u'.2 k = u.2 k) ∧ (∀ i, i < j → u'.2 8 i = u.2 8 i) ∧ (∀ i, j ≤ i → i < n → u'.2 8 i = 0) ∧ p_m_lengthen_2 m u (nI j) = p_m_lengthen_25 64 u' 1 ∧ (ok_m_lengthen_25 64 u' 1 → ok_m_lengthen_2 m u (nI j)) := by
  intro d
  induction d with
  | zero =>
    intro j m u hj hm h1
    obtain ⟨m, rfl⟩ : ∃ q, m = q + 1 := ⟨m - 1, by omega⟩
    have e : u.1 1 ≤ nI j := by rw [h1]; exact nI_le (by omega) (by omega)
    rw [p_m_lengthen_2, ok_m_lengthen_2, if_pos e]
    exact ⟨u, rfl, fun _ _ => rfl, fun _ _ => rfl, fun i a b => absurd b (by omega), rfl, fun q => ⟨fun _ => q, fun w => absurd e w⟩⟩
  | succ d ih =>
    intro j m u hj hm h1
    obtain ⟨m, rfl⟩ : ∃ q, m = q + 1 := ⟨m - 1, by omega⟩
    have e : ¬ u.1 1 ≤ nI j := by rw [h1, nI_leI (by omega) (by omega)]; omega
    have up1 : ∀ i, (sA u 8 (nI j) 0).2 8 i = upd (u.2 8) j 0 i := by
      intro i
      show upd (u.2 8) (nI j).toNatClampNeg 0 i = _
      rw [nI_cl (by omega)]
    obtain ⟨s1, s2⟩ := r8 u (nI j) 0
    obtain ⟨u', i1, i2, i3, i4, i5, i6⟩ := ih (j + 1) m (sA u 8 (nI j) 0) (by omega) (by omega) h1
    rw [p_m_lengthen_2, ok_m_lengthen_2, if_neg e, nar0, nI_1]
    refine ⟨u', i1.trans s1, fun k hk => (i2 k hk).trans (s2 k hk), fun i hi => ?_, fun i a b => ?_, i5, fun q => ⟨fun w => absurd w e, fun _ => ⟨vp_in_nI (by omega) (by omega), i6 q⟩⟩⟩
    · rw [i3 i (by omega), up1, pk_un (by omega)]
    · rcases Nat.lt_or_ge j i with q | q
      · exact i4 i (by omega) b
      · have ei : i = j := by omega
        subst ei
        rw [i3 i (by omega), up1, pk_us]
