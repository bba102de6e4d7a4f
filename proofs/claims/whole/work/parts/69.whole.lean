/-! forge: the program is whole on both sides alike -/
def gd (u : St) (n i : Nat) : Prop := u.2 0 i = 4 ∨ u.2 0 i = 5 → u.2 5 i < nI n
theorem gd_m {n i : Nat} {u v : St} (h : IRi u v i) (h4 : u.2 0 i = 4) : v.2 1 i = u.2 5 i := by
  obtain ⟨-, -, -, -, h⟩ := h
  rcases h with ⟨q, -⟩ | ⟨q, -⟩ | ⟨q, -⟩ | ⟨q, -⟩ | ⟨-, e, -⟩ | ⟨q, -⟩ | ⟨q, -⟩ | q | ⟨q, -⟩
  all_goals first | exact e | exact absurd (q.symm.trans h4) (by decide)
theorem gd_m5 {n i : Nat} {u v : St} (h : IRi u v i) (h5 : u.2 0 i = 5) : v.2 4 i = u.2 5 i := by
  obtain ⟨-, -, -, -, h⟩ := h
  rcases h with ⟨q, -⟩ | ⟨q, -⟩ | ⟨q, -⟩ | ⟨q, -⟩ | ⟨q, -⟩ | ⟨-, -, -, -, e, -⟩ | ⟨q, -⟩ | q | ⟨q, -⟩
  all_goals first | exact e | exact absurd (q.symm.trans h5) (by decide)
theorem all_s {P : Nat → Prop} {i n : Nat} (hi : P i) : (∀ j, i ≤ j → j < n → P j) ↔ ∀ j, i + 1 ≤ j → j < n → P j := by
  constructor
  · exact fun h j a b => h j (by omega) b
  · intro h j a b
    rcases Nat.lt_or_ge i j with q | q
    · exact h j q b
    · have e : j = i := by omega
      subst e; exact hi
theorem cbf {n : Nat} {u v : St} (hP : PR n u v) : ∀ (d i m : Nat), i + d = n → d < m → ok_canBeForged_28 m u (nI i) ∧ isb (p_canBeForged_28 m u (nI i)) ∧ (p_canBeForged_28 m u (nI i) = 1 ↔ ∀ j, i ≤ j → j < n → gd u n j) := by
  obtain ⟨hn, hu, hv, hi⟩ := hP
  intro d
  induction d with
  | zero =>
    intro i m hid hm
    obtain ⟨m, rfl⟩ : ∃ q, m = q + 1 := ⟨m - 1, by omega⟩
    have e : u.1 0 ≤ nI i := by rw [hu]; exact nI_le (by omega) (by omega)
    rw [ok_canBeForged_28, p_canBeForged_28, if_pos e]
    exact ⟨⟨fun _ => trivial, fun q => absurd e q⟩, Or.inr rfl, fun _ j a b => absurd a (by omega), fun _ => rfl⟩
  | succ d ih =>
    intro i m hid hm
    obtain ⟨m, rfl⟩ : ∃ q, m = q + 1 := ⟨m - 1, by omega⟩
    have e : ¬ u.1 0 ≤ nI i := by rw [hu, nI_leI (by omega) (by omega)]; omega
    have cl : (nI i).toNatClampNeg = i := nI_cl (by omega)
    have hv48 : vp_in (nI i) 48 := vp_in_nI (by omega) (by omega)
    obtain ⟨o1, o2, o3⟩ := ih (i + 1) m (by omega) (by omega)
    rw [ok_canBeForged_28, p_canBeForged_28, if_neg e, nI_1, cl]
    refine ⟨⟨fun q => absurd q e, fun _ => ⟨hv48, fun _ => ⟨hv48, fun _ => o1, fun _ => trivial⟩, fun _ => ⟨hv48, fun _ => ⟨hv48, fun _ => o1, fun _ => trivial⟩, fun _ => o1⟩⟩⟩, ?_⟩
    have good : gd u n i → isb (p_canBeForged_28 m u (nI (i + 1))) ∧ (p_canBeForged_28 m u (nI (i + 1)) = 1 ↔ ∀ j, i ≤ j → j < n → gd u n j) := fun g => ⟨o2, by rw [all_s g]; exact o3⟩
    have bad : ¬ gd u n i → isb 0 ∧ ((0 : Int32) = 1 ↔ ∀ j, i ≤ j → j < n → gd u n j) := fun g => ⟨Or.inl rfl, fun q => absurd q (by decide), fun q => absurd (q i (by omega) (by omega)) g⟩
    by_cases a : u.2 0 i = 4
    · rw [if_pos a]
      by_cases b : u.2 5 i < u.1 0
      · rw [if_pos b]; exact good (fun _ => by rw [← hu]; exact b)
      · rw [if_neg b]; exact bad (fun q => b (by rw [hu]; exact q (Or.inl a)))
    · rw [if_neg a]
      by_cases c : u.2 0 i = 5
      · rw [if_pos c]
        by_cases b : u.2 5 i < u.1 0
        · rw [if_pos b]; exact good (fun _ => by rw [← hu]; exact b)
        · rw [if_neg b]; exact bad (fun q => b (by rw [hu]; exact q (Or.inr c)))
      · rw [if_neg c]; exact good (fun q => q.elim (fun z => absurd z a) (fun z => absurd z c))
theorem iss {n : Nat} {u v : St} (hP : PR n u v) : ∀ (d i m : Nat) (g : Int32), isb g → i + d = n → d < m → ok_m_isSound_62 m v g (nI i) ∧ isb (p_m_isSound_62 m v g (nI i)) ∧ (p_m_isSound_62 m v g (nI i) = 1 ↔ g = 1 ∧ ∀ j, i ≤ j → j < n → gd u n j) := by
  obtain ⟨hn, hu, hv, hi⟩ := hP
  intro d
  induction d with
  | zero =>
    intro i m g hg hid hm
    obtain ⟨m, rfl⟩ : ∃ q, m = q + 1 := ⟨m - 1, by omega⟩
    have e : v.1 1 ≤ nI i := by rw [hv]; exact nI_le (by omega) (by omega)
    rw [ok_m_isSound_62, p_m_isSound_62, if_pos e]
    exact ⟨⟨fun _ => ⟨hg, trivial⟩, fun q => absurd e q⟩, hg, fun q => ⟨q, fun j a b => absurd a (by omega)⟩, fun q => q.1⟩
  | succ d ih =>
    intro i m g hg hid hm
    obtain ⟨m, rfl⟩ : ∃ q, m = q + 1 := ⟨m - 1, by omega⟩
    have e : ¬ v.1 1 ≤ nI i := by rw [hv, nI_leI (by omega) (by omega)]; omega
    have cl : (nI i).toNatClampNeg = i := nI_cl (by omega)
    have a : vp_in (nI i) 48 := vp_in_nI (by omega) (by omega)
    obtain ⟨o1, o2, o3⟩ := ih (i + 1) m 0 (Or.inl rfl) (by omega) (by omega)
    obtain ⟨q1, q2, q3⟩ := ih (i + 1) m 1 (Or.inr rfl) (by omega) (by omega)
    have hI := hi i (by omega)
    have hK : u.2 0 i = v.2 0 i := hI.1
    rw [ok_m_isSound_62, p_m_isSound_62, if_neg e, nI_1, cl]
    refine ⟨⟨fun q => absurd q e, fun _ => ⟨fun _ => o1, fun _ => ⟨a, fun _ => ⟨a, fun _ => o1, fun _ => ⟨a, fun _ => ⟨a, fun _ => o1, fun _ => q1⟩, fun _ => q1⟩⟩, fun _ => ⟨a, fun _ => ⟨a, fun _ => o1, fun _ => q1⟩, fun _ => q1⟩⟩⟩⟩, ?_⟩
    by_cases g0 : g = 0
    · rw [if_pos g0, g0]
      exact ⟨o2, fun q => absurd (o3.mp q).1 (by decide), fun q => absurd q.1 (by decide)⟩
    · rw [if_neg g0]
      have g1 : g = 1 := hg.resolve_left g0
      have good : gd u n i → isb (p_m_isSound_62 m v 1 (nI (i + 1))) ∧ (p_m_isSound_62 m v 1 (nI (i + 1)) = 1 ↔ g = 1 ∧ ∀ j, i ≤ j → j < n → gd u n j) := fun z => ⟨q2, by rw [all_s z, g1]; exact q3⟩
      have bad : ¬ gd u n i → isb (p_m_isSound_62 m v 0 (nI (i + 1))) ∧ (p_m_isSound_62 m v 0 (nI (i + 1)) = 1 ↔ g = 1 ∧ ∀ j, i ≤ j → j < n → gd u n j) := fun z => ⟨o2, fun q => absurd (o3.mp q).1 (by decide), fun q => absurd (q.2 i (by omega) (by omega)) z⟩
      by_cases c : v.2 0 i = 4
      · have c' : u.2 0 i = 4 := hK.trans c
        have c5 : ¬ v.2 0 i = 5 := by rw [c]; decide
        rw [if_pos c]
        have e1 := gd_m (n := n) hI c'
        by_cases b : v.1 1 ≤ v.2 1 i
        · rw [if_pos b]
          refine bad (fun q => ?_)
          rw [hv, e1] at b
          exact absurd (q (Or.inl c')) (Int32.not_lt.mpr b)
        · rw [if_neg b, if_neg c5]
          refine good (fun _ => ?_)
          rw [hv, e1] at b
          exact i_nle b
      · rw [if_neg c]
        by_cases c5 : v.2 0 i = 5
        · have c' : u.2 0 i = 5 := hK.trans c5
          rw [if_pos c5]
          have e1 := gd_m5 (n := n) hI c'
          by_cases b : v.1 1 ≤ v.2 4 i
          · rw [if_pos b]
            refine bad (fun q => ?_)
            rw [hv, e1] at b
            exact absurd (q (Or.inr c')) (Int32.not_lt.mpr b)
          · rw [if_neg b]
            refine good (fun _ => ?_)
            rw [hv, e1] at b
            exact i_nle b
        · rw [if_neg c5]
          exact good (fun q => q.elim (fun z => absurd (hK.symm.trans z) c) (fun z => absurd (hK.symm.trans z) c5))
theorem gd_t {n i : Nat} {u v : St} (hn : n ≤ 48) (h : IRi u v i) (g : gd u n i) (hk : u.2 0 i = 4 ∨ u.2 0 i = 5) : ∃ t : Nat, t < n ∧ u.2 5 i = nI t := by
  have hlt := g hk
  have ht : ∃ t : Nat, t < 48 ∧ u.2 5 i = nI t := by
    obtain ⟨-, -, -, -, h⟩ := h
    rcases hk with hk | hk <;> rcases h with ⟨q, -⟩ | ⟨q, -⟩ | ⟨q, -⟩ | ⟨q, -⟩ | ⟨q, -, e⟩ | ⟨q, -, -, -, -, e⟩ | ⟨q, -⟩ | q | ⟨q, -⟩
    all_goals first | exact e | exact absurd (q.symm.trans hk) (by decide)
  obtain ⟨t, ht48, et⟩ := ht
  rw [et, nI_ltI (by omega) (by omega)] at hlt
  exact ⟨t, hlt, et⟩
/-- both sides answer alike whether the program is whole -/
theorem whole_rel {n : Nat} {u v : St} (hP : PR n u v) : ok_canBeForged u ∧ ok_m_isSound v ∧ ((p_canBeForged u = 0 ∧ p_m_isSound v = 0) ∨ (¬ p_canBeForged u = 0 ∧ ¬ p_m_isSound v = 0 ∧ WH n u)) := by
  have hP0 := hP
  obtain ⟨hn, hu, hv, hi⟩ := hP
  obtain ⟨c1, c2, c3⟩ := cbf hP0 n 0 64 (by omega) (by omega)
  obtain ⟨m1, m2, m3⟩ := iss hP0 n 0 64 0 (Or.inl rfl) (by omega) (by omega)
  obtain ⟨s1, s2, s3⟩ := iss hP0 n 0 64 1 (Or.inr rfl) (by omega) (by omega)
  have m0 : p_m_isSound_62 64 v 0 (nI 0) = 0 := m2.resolve_right (fun q => absurd (m3.mp q).1 (by decide))
  rcases Nat.eq_zero_or_pos n with z | z
  · subst z
    have e1 : u.1 0 = 0 := hu
    have e2 : v.1 1 ≤ 0 := by rw [hv]; exact Int32.le_refl _
    refine ⟨⟨fun _ => trivial, fun q => absurd e1 q⟩, ⟨fun _ => m1, fun q => absurd e2 q⟩, Or.inl ⟨?_, ?_⟩⟩
    · unfold p_canBeForged; rw [if_pos e1]
    · unfold p_m_isSound; rw [if_pos e2]; exact m0
  · have e1 : ¬ u.1 0 = 0 := by rw [hu]; exact nI_ne0 z (by omega)
    have e2 : ¬ v.1 1 ≤ 0 := by rw [hv]; exact nI_nle z (by omega)
    have l1 : u.1 0 - 1 = nI (n - 1) := by rw [hu, show n = (n - 1) + 1 by omega, nI_pred]; rfl
    have l2 : v.1 1 - 1 = nI (n - 1) := by rw [hv, show n = (n - 1) + 1 by omega, nI_pred]; rfl
    have iv : vp_in (nI (n - 1)) 48 := vp_in_nI (by omega) (by omega)
    have cl : (nI (n - 1)).toNatClampNeg = n - 1 := nI_cl (by omega)
    have hK : u.2 0 (n - 1) = v.2 0 (n - 1) := (hi (n - 1) (by omega)).1
    have ok1 : ok_canBeForged u := by
      unfold ok_canBeForged
      rw [l1]
      exact ⟨fun _ => trivial, fun _ => ⟨iv, fun _ => trivial, fun _ => c1⟩⟩
    have ok2 : ok_m_isSound v := by
      unfold ok_m_isSound
      rw [l2]
      exact ⟨fun q => absurd q e2, fun _ => ⟨iv, fun _ => s1, fun _ => ⟨iv, fun _ => s1, fun _ => ⟨iv, fun _ => s1, fun _ => m1⟩⟩⟩⟩
    refine ⟨ok1, ok2, ?_⟩
    unfold p_canBeForged p_m_isSound p_neverGoesOnBehind
    rw [if_neg e1, if_neg e2, l1, l2, cl, hK]
    have fin : (u.2 0 (n - 1) = 4 ∨ u.2 0 (n - 1) = 7 ∨ u.2 0 (n - 1) = 8) → (p_canBeForged_28 64 u (nI 0) = 0 ∧ p_m_isSound_62 64 v 1 (nI 0) = 0) ∨ (¬ p_canBeForged_28 64 u (nI 0) = 0 ∧ ¬ p_m_isSound_62 64 v 1 (nI 0) = 0 ∧ WH n u) := by
      intro hl
      rcases c2 with q | q
      · refine Or.inl ⟨q, s2.resolve_right (fun w => ?_)⟩
        rw [c3.mpr (s3.mp w).2] at q
        exact absurd q (by decide)
      · have ha := c3.mp q
        refine Or.inr ⟨by rw [q]; decide, by rw [s3.mpr ⟨rfl, ha⟩]; decide, z, hl, fun i hin hk => gd_t hn (hi i hin) (ha i (by omega) hin) hk⟩
    by_cases k4 : v.2 0 (n - 1) = 4
    · rw [if_pos k4, if_pos k4, if_neg (show ¬ (1 : Int32) = 0 by decide)]; exact fin (Or.inl (hK.trans k4))
    · rw [if_neg k4, if_neg k4]
      by_cases k7 : v.2 0 (n - 1) = 7
      · rw [if_pos k7, if_pos k7, if_neg (show ¬ (1 : Int32) = 0 by decide)]; exact fin (Or.inr (Or.inl (hK.trans k7)))
      · rw [if_neg k7, if_neg k7]
        by_cases k8 : v.2 0 (n - 1) = 8
        · rw [if_pos k8, if_pos k8, if_neg (show ¬ (1 : Int32) = 0 by decide)]; exact fin (Or.inr (Or.inr (hK.trans k8)))
        · rw [if_neg k8, if_neg k8, if_pos rfl]
          exact Or.inl ⟨rfl, m0⟩
