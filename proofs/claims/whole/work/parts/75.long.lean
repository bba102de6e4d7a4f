/-! short branches that do not reach become long, on both sides in step -/
def ns (f : Nat → Int32) : Nat → Nat
  | 0 => 0
  | i + 1 => ns f i + if f i = 0 then 1 else 0
theorem ns_le (f : Nat → Int32) : ∀ n, ns f n ≤ n := by
  intro n
  induction n with
  | zero => exact Nat.le_refl _
  | succ n ih =>
    unfold ns
    split <;> omega
theorem ns_lo (f : Nat → Int32) (j : Nat) (x : Int32) : ∀ n, n ≤ j → ns (upd f j x) n = ns f n := by
  intro n
  induction n with
  | zero => intro _; rfl
  | succ n ih =>
    intro h
    unfold ns
    rw [ih (by omega), pk_un (by omega)]
theorem ns_up (f : Nat → Int32) (j : Nat) (x : Int32) (hf : f j = 0) (hx : ¬ x = 0) : ∀ n, j < n → ns (upd f j x) n + 1 = ns f n := by
  intro n
  induction n with
  | zero => intro h; exact absurd h (by omega)
  | succ n ih =>
    intro h
    unfold ns
    by_cases q : n = j
    · subst q
      rw [ns_lo f n x n (Nat.le_refl _), pk_us, if_neg hx, if_pos hf]
    · have := ih (by omega)
      rw [pk_un q]
      omega
theorem nar1 : vp_nar .boolean 1 = 1 := rfl
theorem nar0 : vp_nar .boolean 0 = 0 := rfl
def sh8 (n j : Nat) (u v : St) : Prop := ∀ i, j ≤ i → i < n → v.2 0 i = 5 → v.2 8 i = 0 → u.2 7 (i + 1) - 1 = (((v.2 7 i) + (p_m_slot (v.2 2 i))) + (p_m_slot (v.2 3 i))) + 1
theorem r8 (u : St) (j x : Int32) : (sA u 8 j x).1 = u.1 ∧ ∀ k, k ≠ 8 → (sA u 8 j x).2 k = u.2 k := by
  refine ⟨rfl, fun k hk => ?_⟩
  show va_up u.2 8 _ k = u.2 k
  exact va_ups hk
theorem len_s {n : Nat} : ∀ (d j m : Nat) (u v : St) (x : Int32), j + d = n → d < m → PR n u v → WH n u → (∀ i, i ≤ n → u.2 7 i = v.2 7 i) → (∀ i, i < n → u.2 8 i = v.2 8 i) → sh8 n j u v → isb x →
    ok_lengthenBranches_4 m u x (nI j) ∧ ok_m_lengthen_37 m v x (nI j) ∧ (p_lengthenBranches_4 m u x (nI j)).1 = (p_m_lengthen_37 m v x (nI j)).1 ∧
    (p_lengthenBranches_4 m u x (nI j)).2.1 = u.1 ∧ (∀ k, k ≠ 8 → (p_lengthenBranches_4 m u x (nI j)).2.2 k = u.2 k) ∧ (p_m_lengthen_37 m v x (nI j)).2.2.1 = v.1 ∧ (∀ k, k ≠ 8 → (p_m_lengthen_37 m v x (nI j)).2.2.2 k = v.2 k) ∧
    (∀ i, i < n → (p_lengthenBranches_4 m u x (nI j)).2.2 8 i = (p_m_lengthen_37 m v x (nI j)).2.2.2 8 i) ∧
    (((p_lengthenBranches_4 m u x (nI j)).1 = x ∧ (p_lengthenBranches_4 m u x (nI j)).2 = u ∧ (p_m_lengthen_37 m v x (nI j)).2.2 = v) ∨ ((p_lengthenBranches_4 m u x (nI j)).1 = 1 ∧ ns ((p_m_lengthen_37 m v x (nI j)).2.2.2 8) n < ns (v.2 8) n)) := by
  intro d
  induction d with
  | zero =>
    intro j m u v x hj hm hP hw h7 h8 hs hx
    obtain ⟨m, rfl⟩ : ∃ q, m = q + 1 := ⟨m - 1, by omega⟩
    have hn := hP.1
    have e1 : u.1 0 ≤ nI j := by rw [hP.2.1]; exact nI_le (by omega) (by omega)
    have e2 : v.1 1 ≤ nI j := by rw [hP.2.2.1]; exact nI_le (by omega) (by omega)
    rw [p_lengthenBranches_4, ok_lengthenBranches_4, p_m_lengthen_37, ok_m_lengthen_37, if_pos e1, if_pos e2]
    exact ⟨⟨fun _ => ⟨hx, trivial⟩, fun q => absurd e1 q⟩, ⟨fun _ => trivial, fun q => absurd e2 q⟩, rfl, rfl, fun _ _ => rfl, rfl, fun _ _ => rfl, h8, Or.inl ⟨rfl, rfl, rfl⟩⟩
  | succ d ih =>
    intro j m u v x hj hm hP hw h7 h8 hs hx
    obtain ⟨m, rfl⟩ : ∃ q, m = q + 1 := ⟨m - 1, by omega⟩
    have hn := hP.1
    have e1 : ¬ u.1 0 ≤ nI j := by rw [hP.2.1, nI_leI (by omega) (by omega)]; omega
    have e2 : ¬ v.1 1 ≤ nI j := by rw [hP.2.2.1, nI_leI (by omega) (by omega)]; omega
    have cl : (nI j).toNatClampNeg = j := nI_cl (by omega)
    have cl1 : (nI (j + 1)).toNatClampNeg = j + 1 := nI_cl (by omega)
    have v48 : vp_in (nI j) 48 := vp_in_nI (by omega) (by omega)
    have v49 : vp_in (nI j) 49 := vp_in_nI (by omega) (by omega)
    have v49' : vp_in (nI (j + 1)) 49 := vp_in_nI (by omega) (by omega)
    have hK : u.2 0 j = v.2 0 j := (hP.2.2.2 j (by omega)).1
    have e8 : u.2 8 j = v.2 8 j := h8 j (by omega)
    have same := ih (j + 1) m u v x (by omega) (by omega) hP hw h7 h8 (fun i a b => hs i (by omega) b) hx
    rw [p_lengthenBranches_4, ok_lengthenBranches_4, p_m_lengthen_37, ok_m_lengthen_37, if_neg e1, if_neg e2, cl, nI_1, nar1, hK, e8]
    by_cases k5 : v.2 0 j = 5
    · rw [if_pos k5, if_pos k5]
      by_cases f0 : v.2 8 j = 0
      · rw [if_pos f0, if_pos f0]
        obtain ⟨t, t1, t2⟩ := hw.2.2 j (by omega) (Or.inr (hK.trans k5))
        have t3 : v.2 4 j = nI t := by
          obtain ⟨-, -, -, -, h9⟩ := hP.2.2.2 j (by omega)
          have k5' := hK.trans k5
          rcases h9 with ⟨q, -⟩ | ⟨q, -⟩ | ⟨q, -⟩ | ⟨q, -⟩ | ⟨q, -⟩ | ⟨-, -, -, -, e, -⟩ | ⟨q, -⟩ | q | ⟨q, -⟩
          all_goals first | exact e.trans t2 | exact absurd (q.symm.trans k5') (by decide)
        have vt : vp_in (nI t) 49 := vp_in_nI (by omega) (by omega)
        have eD : p_distance u (u.2 7 (j + 1) - 1) (nI t) = p_m_way v ((((v.2 7 j) + (p_m_slot (v.2 2 j))) + (p_m_slot (v.2 3 j))) + 1) (nI t) := by
          unfold p_distance p_m_way
          rw [hs j (Nat.le_refl _) (by omega) k5 f0, nI_cl (by omega), h7 t (by omega)]
        have okR : ok_reaches u (nI j) := by
          unfold ok_reaches
          rw [cl, nI_1, t2]
          exact ⟨v49', v48, ⟨vt, trivial⟩, trivial⟩
        have eR : p_reaches u (nI j) = (if p_m_way v ((((v.2 7 j) + (p_m_slot (v.2 2 j))) + (p_m_slot (v.2 3 j))) + 1) (nI t) < -128 then 0 else (if 127 < p_m_way v ((((v.2 7 j) + (p_m_slot (v.2 2 j))) + (p_m_slot (v.2 3 j))) + 1) (nI t) then 0 else 1)) := by
          unfold p_reaches
          rw [nI_1, cl1, cl, t2, eD]
        have okW : ok_m_way v ((((v.2 7 j) + (p_m_slot (v.2 2 j))) + (p_m_slot (v.2 3 j))) + 1) (nI t) := ⟨vt, trivial⟩
        rw [eR, t3]
        generalize p_m_way v ((((v.2 7 j) + (p_m_slot (v.2 2 j))) + (p_m_slot (v.2 3 j))) + 1) (nI t) = D
        obtain ⟨s1, s2⟩ := r8 u (nI j) 1
        obtain ⟨z1, z2⟩ := r8 v (nI j) 1
        have up1 : ∀ i, (sA u 8 (nI j) 1).2 8 i = upd (u.2 8) j 1 i := by
          intro i
          show upd (u.2 8) (nI j).toNatClampNeg 1 i = _
          rw [cl]
        have up2 : (sA v 8 (nI j) 1).2 8 = upd (v.2 8) j 1 := by
          show upd (v.2 8) (nI j).toNatClampNeg 1 = _
          rw [cl]
        have nsd : ns ((sA v 8 (nI j) 1).2 8) n + 1 = ns (v.2 8) n := by
          rw [up2]
          exact ns_up (v.2 8) j 1 f0 (by decide) n (by omega)
        generalize sA u 8 (nI j) 1 = u1 at *
        generalize sA v 8 (nI j) 1 = v1 at *
        have P1 : PR n u1 v1 := PR_c hP (by rw [s1]) (by rw [z1]) (fun k hk => s2 k (by omega)) (fun k hk => z2 k (by omega))
        have W1 : WH n u1 := WH_c hw (fun k hk => s2 k (by omega))
        obtain ⟨i1, i2, i3, i4, i5, i6, i7, i8, i9⟩ := ih (j + 1) m u1 v1 1 (by omega) (by omega) P1 W1 (fun i hi => by rw [s2 7 (by decide), z2 7 (by decide)]; exact h7 i hi) (fun i hi => by
            rw [up1, up2]
            by_cases q : i = j
            · subst q; rw [pk_us, pk_us]
            · rw [pk_un q, pk_un q]; exact h8 i hi) (fun i a b c f => by
            rw [z2 0 (by decide)] at c
            rw [up2, pk_un (by omega)] at f
            rw [s2 7 (by decide), z2 7 (by decide), z2 2 (by decide), z2 3 (by decide)]
            exact hs i (by omega) b c f) (Or.inr rfl)
        have res : (p_lengthenBranches_4 m u1 1 (nI (j + 1))).1 = (p_m_lengthen_37 m v1 1 (nI (j + 1))).1 ∧
    (p_lengthenBranches_4 m u1 1 (nI (j + 1))).2.1 = u.1 ∧ (∀ k, k ≠ 8 → (p_lengthenBranches_4 m u1 1 (nI (j + 1))).2.2 k = u.2 k) ∧ (p_m_lengthen_37 m v1 1 (nI (j + 1))).2.2.1 = v.1 ∧ (∀ k, k ≠ 8 → (p_m_lengthen_37 m v1 1 (nI (j + 1))).2.2.2 k = v.2 k) ∧
    (∀ i, i < n → (p_lengthenBranches_4 m u1 1 (nI (j + 1))).2.2 8 i = (p_m_lengthen_37 m v1 1 (nI (j + 1))).2.2.2 8 i) ∧
    (((p_lengthenBranches_4 m u1 1 (nI (j + 1))).1 = x ∧ (p_lengthenBranches_4 m u1 1 (nI (j + 1))).2 = u ∧ (p_m_lengthen_37 m v1 1 (nI (j + 1))).2.2 = v) ∨ ((p_lengthenBranches_4 m u1 1 (nI (j + 1))).1 = 1 ∧ ns ((p_m_lengthen_37 m v1 1 (nI (j + 1))).2.2.2 8) n < ns (v.2 8) n)) := by
          refine ⟨i3, i4.trans s1, fun k hk => (i5 k hk).trans (s2 k hk), i6.trans z1, fun k hk => (i7 k hk).trans (z2 k hk), i8, Or.inr ?_⟩
          rcases i9 with ⟨q1, q2, q3⟩ | ⟨q1, q2⟩
          · refine ⟨q1, ?_⟩
            rw [q3]
            omega
          · exact ⟨q1, by omega⟩
        by_cases lo : D < -128
        · rw [if_pos lo, if_pos lo, if_pos rfl]
          exact ⟨⟨fun q => absurd q e1, fun _ => ⟨v48, fun _ => ⟨v48, fun _ => ⟨okR, fun _ => ⟨v48, i1⟩, fun q => absurd rfl q⟩, fun q => absurd f0 q⟩, fun q => absurd k5 q⟩⟩,
            ⟨fun q => absurd q e2, fun _ => ⟨v48, fun _ => ⟨v48, fun _ => ⟨v49, v48, v48, v48, okW, fun _ => ⟨v48, i2⟩, fun q => absurd lo q⟩, fun q => absurd f0 q⟩, fun q => absurd k5 q⟩⟩, res⟩
        · rw [if_neg lo, if_neg lo]
          by_cases hi' : 127 < D
          · have hi2 : ¬ D ≤ 127 := Int32.not_le.mpr hi'
            rw [if_pos hi', if_pos rfl, if_neg hi2]
            exact ⟨⟨fun q => absurd q e1, fun _ => ⟨v48, fun _ => ⟨v48, fun _ => ⟨okR, fun _ => ⟨v48, i1⟩, fun q => absurd rfl q⟩, fun q => absurd f0 q⟩, fun q => absurd k5 q⟩⟩,
              ⟨fun q => absurd q e2, fun _ => ⟨v48, fun _ => ⟨v48, fun _ => ⟨v49, v48, v48, v48, okW, fun q => absurd q lo, fun _ => ⟨fun q => absurd q hi2, fun _ => ⟨v48, i2⟩⟩⟩, fun q => absurd f0 q⟩, fun q => absurd k5 q⟩⟩, res⟩
          · have hi2 : D ≤ 127 := Int32.not_lt.mp hi'
            rw [if_neg hi', if_neg (show ¬ (1 : Int32) = 0 by decide), if_pos hi2]
            exact ⟨⟨fun q => absurd q e1, fun _ => ⟨v48, fun _ => ⟨v48, fun _ => ⟨okR, fun q => absurd q (by decide), fun _ => same.1⟩, fun q => absurd f0 q⟩, fun q => absurd k5 q⟩⟩,
              ⟨fun q => absurd q e2, fun _ => ⟨v48, fun _ => ⟨v48, fun _ => ⟨v49, v48, v48, v48, okW, fun q => absurd q lo, fun _ => ⟨fun _ => same.2.1, fun q => absurd hi2 q⟩⟩, fun q => absurd f0 q⟩, fun q => absurd k5 q⟩⟩, same.2.2⟩
      · rw [if_neg f0, if_neg f0]
        exact ⟨⟨fun q => absurd q e1, fun _ => ⟨v48, fun _ => ⟨v48, fun q => absurd q f0, fun _ => same.1⟩, fun q => absurd k5 q⟩⟩, ⟨fun q => absurd q e2, fun _ => ⟨v48, fun _ => ⟨v48, fun q => absurd q f0, fun _ => same.2.1⟩, fun q => absurd k5 q⟩⟩, same.2.2⟩
    · rw [if_neg k5, if_neg k5]
      exact ⟨⟨fun q => absurd q e1, fun _ => ⟨v48, fun q => absurd q k5, fun _ => same.1⟩⟩, ⟨fun q => absurd q e2, fun _ => ⟨v48, fun q => absurd q k5, fun _ => same.2.1⟩⟩, same.2.2⟩
