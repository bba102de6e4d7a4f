/-! a pass over the code: the class alone, its lengths by the reference's -/
def vw (u v : St) : St := (fun k => if k = 1 then v.1 1 else if k = 3 then u.1 3 else if k = 4 then u.1 1 else u.1 2, fun k => if k < 5 then v.2 k else u.2 k)
theorem vw_SM {n L c : Nat} {u v : St} (h : PR n u v) (h3 : u.1 3 = nI L) (h1 : u.1 1 = nI c) : SM n L c u (vw u v) :=
  ⟨PR_c h rfl rfl (fun _ _ => rfl) (fun _ hk => if_pos hk), h3, h3, fun _ _ => rfl, h1, h1, fun _ _ => rfl, rfl, fun _ _ => rfl, fun _ _ => rfl⟩
theorem len_v {u v : St} {i : Nat} (hi : i < 48) (e : u.2 8 i = v.2 8 i) : p_m_lengthOf (vw u v) (nI i) = p_m_lengthOf v (nI i) := by
  have cl : (nI i).toNatClampNeg = i := nI_cl (by omega)
  unfold p_m_lengthOf
  rw [cl, show (vw u v).2 0 = v.2 0 from rfl, show (vw u v).2 1 = v.2 1 from rfl, show (vw u v).2 2 = v.2 2 from rfl, show (vw u v).2 3 = v.2 3 from rfl, show (vw u v).2 4 = v.2 4 from rfl, show (vw u v).2 8 = u.2 8 from rfl, e]
theorem ins_c {n L c i : Nat} {u v : St} (h : PR n u v) (hw : WH n u) (hi : i < n) (h3 : u.1 3 = nI L) (h1 : u.1 1 = nI c) (hL : L + 6 ≤ 388) (hc : c ≤ 48) (e8 : u.2 8 i = v.2 8 i) :
    ok_writeInstruction u (nI i) ∧ FC u (p_writeInstruction u (nI i)) ∧ ∃ d c' : Nat, p_m_lengthOf v (nI i) = nI d ∧ 1 ≤ d ∧ d ≤ 6 ∧ c ≤ c' ∧ c' ≤ c + 1 ∧ (p_writeInstruction u (nI i)).1 3 = nI (L + d) ∧ (p_writeInstruction u (nI i)).1 1 = nI c' := by
  have hn := h.1
  obtain ⟨o1, -, d, c', o3, o4, o5, o6, o7, o8⟩ := ins_rel (vw_SM h h3 h1) hw hi hL hc
  rw [len_v (by omega) e8] at o3
  exact ⟨o1, o8.2.1, d, c', o3, o4, o5, o6, o7, o8.1.2.1, o8.1.2.2.2.2.1⟩
/-- the places that the lengths give -/
def pl (v : St) : Nat → Nat
  | 0 => 1
  | j + 1 => pl v j + (p_m_lengthOf v (nI j)).toNatClampNeg
theorem pl_s {v : St} {j d : Nat} (h : p_m_lengthOf v (nI j) = nI d) (hd : d ≤ 6) : pl v (j + 1) = pl v j + d := by
  rw [pl, h, nI_cl (by omega)]
theorem pl_le (v : St) : ∀ j, pl v j ≤ 1 + 6 * j := by
  intro j
  induction j with
  | zero => exact Nat.le_refl _
  | succ j ih =>
    obtain ⟨d, d1, d2, d3, -⟩ := len_n v (nI j)
    rw [pl_s d3 d2]
    omega
theorem pl_c {v v' : St} (c : ∀ k, k < 5 → v'.2 k = v.2 k) (c8 : v'.2 8 = v.2 8) : ∀ j, pl v' j = pl v j := by
  intro j
  induction j with
  | zero => rfl
  | succ j ih => rw [pl, pl, ih, len_c c c8]
/-- what a pass keeps of the class's cells -/
def GC (u u' : St) : Prop := (∀ k, k ≠ 1 → k ≠ 2 → k ≠ 3 → u'.1 k = u.1 k) ∧ ∀ k, k ≠ 6 → k ≠ 7 → k ≠ 9 → u'.2 k = u.2 k
theorem GC_tr {a b c : St} (h : GC a b) (g : GC b c) : GC a c := ⟨fun k p q r => (g.1 k p q r).trans (h.1 k p q r), fun k p q r => (g.2 k p q r).trans (h.2 k p q r)⟩
theorem GC_FC {u u' : St} (h : FC u u') : GC u u' := ⟨fun k p _ r => h.1 k p r, fun k p _ r => h.2 k p r⟩
theorem GC_7 (u : St) (i x : Int32) : GC u (sA u 7 i x) := by
  refine ⟨fun _ _ _ _ => rfl, fun k _ q _ => ?_⟩
  show va_up u.2 7 _ k = u.2 k
  exact va_ups q
theorem GC_s (u : St) (f : Nat) (x : Int32) (hf : f = 1 ∨ f = 2 ∨ f = 3) : GC u (sS u f x) := by
  refine ⟨fun k p q r => ?_, fun _ _ _ _ => rfl⟩
  show va_up u.1 f x k = u.1 k
  exact va_ups (by omega)
theorem PR_G {n : Nat} {u u' v : St} (h : PR n u v) (g : GC u u') : PR n u' v := PR_c h (g.1 0 (by decide) (by decide) (by decide)) rfl (fun k hk => g.2 k (by omega) (by omega) (by omega)) (fun _ _ => rfl)
theorem WH_G {n : Nat} {u u' : St} (h : WH n u) (g : GC u u') : WH n u' := WH_c h (fun k hk => g.2 k (by omega) (by omega) (by omega))
theorem wcode {n : Nat} {v : St} : ∀ (d j m c : Nat) (u : St), j + d = n → d < m → PR n u v → WH n u → (∀ i, i < n → u.2 8 i = v.2 8 i) → u.1 3 = nI (pl v j) → u.1 1 = nI c → c ≤ j + 1 → (∀ i, i < j → u.2 7 i = nI (pl v i)) →
    ok_writeCode_19 m u (nI j) ∧ GC u (p_writeCode_19 m u (nI j)) ∧ (∀ i, i ≤ n → (p_writeCode_19 m u (nI j)).2 7 i = nI (pl v i)) ∧ (p_writeCode_19 m u (nI j)).1 2 = nI (pl v n + pl v n % 2) := by
  intro d
  induction d with
  | zero =>
    intro j m c u hj hm hP hw h8 h3 h1 hc h7
    obtain ⟨m, rfl⟩ : ∃ q, m = q + 1 := ⟨m - 1, by omega⟩
    have ej : j = n := by omega
    subst ej
    have hn := hP.1
    have hpl := pl_le v j
    have e0 : u.1 0 = nI j := hP.2.1
    have e : u.1 0 ≤ nI j := by rw [e0]; exact Int32.le_refl _
    rw [p_writeCode_19, ok_writeCode_19, if_pos e, e0, h3]
    refine ⟨⟨fun _ => ⟨vp_in_nI (by omega) (by omega), trivial⟩, fun q => absurd (Int32.le_refl _) q⟩, GC_tr (GC_7 u _ _) (GC_s _ 2 _ (by omega)), fun i hi => ?_, ?_⟩
    · show upd (u.2 7) (nI j).toNatClampNeg (nI (pl v j)) i = nI (pl v i)
      rw [nI_cl (by omega)]
      by_cases q : i = j
      · subst q; rw [pk_us]
      · rw [pk_un q]; exact h7 i (by omega)
    · show nI (pl v j) + (nI (pl v j) - nI (pl v j) / 2 * 2) = nI (pl v j + pl v j % 2)
      rw [show (2 : Int32) = nI 2 from rfl, nI_mod (by omega) (by omega), nI_add]
  | succ d ih =>
    intro j m c u hj hm hP hw h8 h3 h1 hc h7
    obtain ⟨m, rfl⟩ : ∃ q, m = q + 1 := ⟨m - 1, by omega⟩
    have hn := hP.1
    have hpl := pl_le v j
    have e0 : u.1 0 = nI n := hP.2.1
    have e : ¬ u.1 0 ≤ nI j := by rw [e0, nI_leI (by omega) (by omega)]; omega
    have g1 := GC_7 u (nI j) (u.1 3)
    have r7 : ∀ i, i < j + 1 → (sA u 7 (nI j) (u.1 3)).2 7 i = nI (pl v i) := by
      intro i hi
      show upd (u.2 7) (nI j).toNatClampNeg (u.1 3) i = nI (pl v i)
      rw [nI_cl (by omega)]
      by_cases q : i = j
      · subst q; rw [pk_us]; exact h3
      · rw [pk_un q]; exact h7 i (by omega)
    obtain ⟨o1, o2, d', c', o3, o4, o5, o6, o7, o8, o9⟩ := ins_c (PR_G hP g1) (WH_G hw g1) (show j < n by omega) (show (sA u 7 (nI j) (u.1 3)).1 3 = nI (pl v j) from h3) (show (sA u 7 (nI j) (u.1 3)).1 1 = nI c from h1) (by omega) (by omega) (show (sA u 7 (nI j) (u.1 3)).2 8 j = v.2 8 j from h8 j (by omega))
    rw [p_writeCode_19, ok_writeCode_19, if_neg e, nI_1]
    generalize sA u 7 (nI j) (u.1 3) = u1 at *
    generalize p_writeInstruction u1 (nI j) = u2 at *
    have g2 := GC_tr g1 (GC_FC o2)
    obtain ⟨i1, i2, i3, i4⟩ := ih (j + 1) m c' u2 (by omega) (by omega) (PR_G hP g2) (WH_G hw g2) (fun i hi => by rw [g2.2 8 (by decide) (by decide) (by decide)]; exact h8 i hi) (by rw [pl_s o3 o5]; exact o8) o9 (by omega) (fun i hi => by rw [o2.2 7 (by decide) (by decide)]; exact r7 i hi)
    exact ⟨⟨fun q => absurd q e, fun _ => ⟨vp_in_nI (by omega) (by omega), o1, i1⟩⟩, GC_tr g2 i2, i3, i4⟩
theorem pass_c {n : Nat} {u v : St} (hP : PR n u v) (hw : WH n u) (h8 : ∀ i, i < n → u.2 8 i = v.2 8 i) :
    ok_writeCode u ∧ GC u (p_writeCode u) ∧ (∀ i, i ≤ n → (p_writeCode u).2 7 i = nI (pl v i)) ∧ (p_writeCode u).1 2 = nI (pl v n + pl v n % 2) := by
  have g0 : GC u (sS (sS u 3 0) 1 0) := GC_tr (GC_s u 3 0 (by omega)) (GC_s _ 1 0 (by omega))
  obtain ⟨l1, -, c', l2, l3, l4⟩ := lit_rel 536870912 3 (vw_SM (L := 0) (c := 0) (PR_G hP g0) rfl rfl) (by omega) (by omega)
  have g1 := GC_tr g0 (GC_FC l4.2.1)
  unfold ok_writeCode p_writeCode
  have s3 := l4.1.2.1
  have s1 := l4.1.2.2.2.2.1
  generalize p_writeLiteral (sS (sS u 3 0) 1 0) 536870912 3 = u1 at *
  obtain ⟨i1, i2, i3, i4⟩ := wcode (v := v) n 0 64 c' u1 (by omega) (by have := hP.1; omega) (PR_G hP g1) (WH_G hw g1) (fun i hi => by rw [g1.2 8 (by decide) (by decide) (by decide)]; exact h8 i hi) s3 s1 (by omega) (fun i hi => absurd hi (by omega))
  exact ⟨⟨l1, i1⟩, GC_tr g1 i2, i3, i4⟩
/-! the reference's places -/
theorem ok_len {v : St} {j : Nat} (hj : j < 48) : ok_m_lengthOf v (nI j) := by
  have iv : vp_in (nI j) 48 := vp_in_nI (by omega) (by omega)
  exact ⟨iv, fun _ => ⟨iv, ok_mk _, iv, trivial⟩, fun _ => ⟨fun _ => ⟨iv, fun _ => ⟨iv, trivial⟩, fun _ => ⟨iv, iv, iv, trivial⟩⟩, fun _ => ⟨fun _ => ⟨iv, iv, trivial⟩, fun _ => ⟨fun _ => ⟨iv, iv, trivial⟩, fun _ => ⟨fun _ => ⟨iv, iv, iv, trivial⟩, fun _ => trivial⟩⟩⟩⟩⟩
theorem lay_s {n : Nat} {v : St} (hn : n ≤ 48) : ∀ (d j m : Nat) (w : St), j + d = n → d < m → w.1 1 = nI n → (∀ k, k ≠ 7 → w.2 k = v.2 k) → (∀ i, i ≤ j → w.2 7 i = nI (pl v i)) →
    ok_m_layOut_9 m w (nI j) ∧ (p_m_layOut_9 m w (nI j)).1 = w.1 ∧ (∀ k, k ≠ 7 → (p_m_layOut_9 m w (nI j)).2 k = v.2 k) ∧ ∀ i, i ≤ n → (p_m_layOut_9 m w (nI j)).2 7 i = nI (pl v i) := by
  intro d
  induction d with
  | zero =>
    intro j m w hj hm h1 hk h7
    obtain ⟨m, rfl⟩ : ∃ q, m = q + 1 := ⟨m - 1, by omega⟩
    have e : w.1 1 ≤ nI j := by rw [h1]; exact nI_le (by omega) (by omega)
    rw [p_m_layOut_9, ok_m_layOut_9, if_pos e]
    exact ⟨⟨fun _ => trivial, fun q => absurd e q⟩, rfl, hk, fun i hi => h7 i (by omega)⟩
  | succ d ih =>
    intro j m w hj hm h1 hk h7
    obtain ⟨m, rfl⟩ : ∃ q, m = q + 1 := ⟨m - 1, by omega⟩
    have e : ¬ w.1 1 ≤ nI j := by rw [h1, nI_leI (by omega) (by omega)]; omega
    obtain ⟨d', d1, d2, d3, -⟩ := len_n v (nI j)
    have el : p_m_lengthOf w (nI j) = nI d' := (len_c (fun k q => hk k (by omega)) (hk 8 (by decide)) _).trans d3
    rw [p_m_layOut_9, ok_m_layOut_9, if_neg e, nI_1, el, nI_cl (by omega), h7 j (by omega), nI_add, ← pl_s d3 d2]
    obtain ⟨i1, i2, i3, i4⟩ := ih (j + 1) m (sA w 7 (nI (j + 1)) (nI (pl v (j + 1)))) (by omega) (by omega) h1 (fun k q => by
      rw [← hk k q]
      show va_up w.2 7 _ k = w.2 k
      exact va_ups q) (fun i hi => by
      show upd (w.2 7) (nI (j + 1)).toNatClampNeg (nI (pl v (j + 1))) i = nI (pl v i)
      rw [nI_cl (by omega)]
      by_cases q : i = j + 1
      · subst q; rw [pk_us]
      · rw [pk_un q]; exact h7 i (by omega))
    exact ⟨⟨fun q => absurd q e, fun _ => ⟨vp_in_nI (by omega) (by omega), ok_len (by omega), vp_in_nI (by omega) (by omega), i1⟩⟩, i2, i3, i4⟩
theorem lay_m {n : Nat} {v : St} (hn : n ≤ 48) (h1 : v.1 1 = nI n) : ok_m_layOut v ∧ (p_m_layOut v).1 = v.1 ∧ (∀ k, k ≠ 7 → (p_m_layOut v).2 k = v.2 k) ∧ ∀ i, i ≤ n → (p_m_layOut v).2 7 i = nI (pl v i) := by
  obtain ⟨i1, i2, i3, i4⟩ := lay_s (v := v) hn n 0 64 (sA v 7 0 1) (by omega) (by omega) h1 (fun k q => by
      show va_up v.2 7 _ k = v.2 k
      exact va_ups q) (fun i hi => by
      have q : i = 0 := by omega
      subst q
      rfl)
  exact ⟨⟨(vp_in_nI (by omega) (by omega) : vp_in (nI 0) 49), i1⟩, i2, i3, i4⟩
