/-! writing halfwords: class and reference side by side. L halfwords stand, c literals -/
def FC (u u' : St) : Prop := (∀ k, k ≠ 1 → k ≠ 3 → u'.1 k = u.1 k) ∧ ∀ k, k ≠ 6 → k ≠ 9 → u'.2 k = u.2 k
def FM (v v' : St) : Prop := (∀ k, k ≠ 3 → k ≠ 4 → v'.1 k = v.1 k) ∧ ∀ k, k ≠ 6 → k ≠ 9 → v'.2 k = v.2 k
def SM (n L c : Nat) (u v : St) : Prop := PR n u v ∧ u.1 3 = nI L ∧ v.1 3 = nI L ∧ (∀ j, j < L → u.2 6 j = v.2 6 j) ∧ u.1 1 = nI c ∧ v.1 4 = nI c ∧ (∀ j, j < c → u.2 9 j = v.2 9 j) ∧ u.1 2 = v.1 5 ∧ (∀ j, j ≤ n → u.2 7 j = v.2 7 j) ∧ ∀ j, j < n → u.2 8 j = v.2 8 j
/-- a piece of writing: from u, v to u', v' -/
def ST (n L c : Nat) (u v u' v' : St) : Prop := SM n L c u' v' ∧ FC u u' ∧ FM v v'
theorem FC_rf (u : St) : FC u u := ⟨fun _ _ _ => rfl, fun _ _ _ => rfl⟩
theorem FM_rf (u : St) : FM u u := ⟨fun _ _ _ => rfl, fun _ _ _ => rfl⟩
theorem FC_tr {a b c : St} (h : FC a b) (g : FC b c) : FC a c := ⟨fun k p q => (g.1 k p q).trans (h.1 k p q), fun k p q => (g.2 k p q).trans (h.2 k p q)⟩
theorem FM_tr {a b c : St} (h : FM a b) (g : FM b c) : FM a c := ⟨fun k p q => (g.1 k p q).trans (h.1 k p q), fun k p q => (g.2 k p q).trans (h.2 k p q)⟩
theorem ST_rf {n L c : Nat} {u v : St} (h : SM n L c u v) : ST n L c u v u v := ⟨h, FC_rf u, FM_rf v⟩
theorem ST_tr {n L c L' c' : Nat} {u v u1 v1 u2 v2 : St} (h : ST n L c u v u1 v1) (g : ST n L' c' u1 v1 u2 v2) : ST n L' c' u v u2 v2 := ⟨g.1, FC_tr h.2.1 g.2.1, FM_tr h.2.2 g.2.2⟩
theorem va_ups {α : Type} {f : Nat → α} {k j : Nat} {x : α} (h : j ≠ k) : va_up f k x j = f j := va_up_ne f x h
theorem x388 : (388 : Int32) = nI 388 := rfl
theorem put_eq {u : St} {L : Nat} (h : u.1 3 = nI L) (hL : L < 388) (x : Int32) : p_put u x = sS (sA u 6 (nI L) x) 3 (nI (L + 1)) := by
  unfold p_put
  rw [if_neg (by rw [h, x388, nI_leI (by omega) (by omega)]; omega), h, nI_1]
theorem emit_eq {v : St} {L : Nat} (h : v.1 3 = nI L) (x : Int32) : p_m_emit v x = sS (sA v 6 (nI L) x) 3 (nI (L + 1)) := by
  unfold p_m_emit
  rw [h, nI_1]
theorem fc_put (u : St) (L : Nat) (x y : Int32) : FC u (sS (sA u 6 (nI L) x) 3 y) := by
  refine ⟨fun k p q => ?_, fun k p q => ?_⟩
  · show va_up u.1 3 y k = u.1 k
    exact va_ups q
  · show va_up u.2 6 _ k = u.2 k
    exact va_ups p
theorem fm_put (u : St) (L : Nat) (x y : Int32) : FM u (sS (sA u 6 (nI L) x) 3 y) := by
  refine ⟨fun k p q => ?_, fun k p q => ?_⟩
  · show va_up u.1 3 y k = u.1 k
    exact va_ups p
  · show va_up u.2 6 _ k = u.2 k
    exact va_ups p
theorem put_rel {n L c : Nat} {u v : St} {x y : Int32} (h : SM n L c u v) (hL : L < 388) (e : x = y) : ok_put u x ∧ ok_m_emit v y ∧ ST n (L + 1) c u v (p_put u x) (p_m_emit v y) := by
  obtain ⟨h1, h2, h3, h4, h5, h6, h7, h8, h9, h10⟩ := h
  refine ⟨⟨fun _ => trivial, fun _ => ⟨by rw [h2]; exact vp_in_nI hL (by omega), trivial⟩⟩, ⟨by rw [h3]; exact vp_in_nI (by omega) (by omega), trivial⟩, ?_⟩
  rw [put_eq h2 hL, emit_eq h3]
  refine ⟨⟨PR_c h1 rfl rfl (fun k hk => ?_) (fun k hk => ?_), rfl, rfl, fun j hj => ?_, h5, h6, h7, h8, h9, h10⟩, fc_put u L x _, fm_put v L y _⟩
  · exact (fc_put u L x (nI (L + 1))).2 k (by omega) (by omega)
  · exact (fm_put v L y (nI (L + 1))).2 k (by omega) (by omega)
  · show upd (u.2 6) (nI L).toNatClampNeg x j = upd (v.2 6) (nI L).toNatClampNeg y j
    rw [nI_cl (by omega), e]
    by_cases c : j = L
    · subst c; rw [pk_us, pk_us]
    · rw [pk_un c, pk_un c]; exact h4 j (by omega)
/-- a variable's slot -/
def sl (a : Nat) : Nat := if 4 ≤ a then 1 else 0
theorem sl_le (a : Nat) : sl a ≤ 1 := by unfold sl; split <;> omega
theorem x4 : (4 : Int32) = nI 4 := rfl
theorem sl_m {a : Nat} (ha : a < 8) : p_m_slot (nI a) = nI (sl a) := by
  unfold p_m_slot sl
  by_cases c : 4 ≤ a
  · rw [if_pos (by rw [x4]; exact nI_le c (by omega)), if_pos c]; rfl
  · rw [if_neg (by rw [x4, nI_leI (by omega) (by omega)]; exact c), if_neg c]; rfl
theorem hasr {a : Nat} (ha : a < 8) : (4 ≤ a ∧ (4 : Int32) ≤ nI a ∧ p_hasRegister (nI a) = 0 ∧ sl a = 1) ∨ (a < 4 ∧ ¬ (4 : Int32) ≤ nI a ∧ ¬ p_hasRegister (nI a) = 0 ∧ sl a = 0) := by
  unfold p_hasRegister sl
  by_cases c : 4 ≤ a
  · have e : (4 : Int32) ≤ nI a := by rw [x4]; exact nI_le c (by omega)
    rw [if_pos e, if_pos c]; exact Or.inl ⟨c, e, rfl, rfl⟩
  · have e : ¬ (4 : Int32) ≤ nI a := by rw [x4, nI_leI (by omega) (by omega)]; exact c
    rw [if_neg e, if_neg c]; exact Or.inr ⟨by omega, e, by decide, rfl⟩
theorem i_as (x a : Int32) : x + (a - 4) = (x + a) - 4 := by rw [Int32.sub_eq_add_neg, Int32.sub_eq_add_neg, Int32.add_assoc]
theorem fetch_rel {n L c a : Nat} {u v : St} (s : Int32) (h : SM n L c u v) (hL : L < 388) (ha : a < 8) : ok_fetch u (nI a) s ∧ ok_m_fetch v (nI a) s ∧ (p_fetch u (nI a) s).1 = (p_m_fetch v (nI a) s).1 ∧ ST n (L + sl a) c u v (p_fetch u (nI a) s).2 (p_m_fetch v (nI a) s).2 := by
  obtain ⟨o1, o2, o3⟩ := put_rel (x := (38912 + (256 * s)) + p_slotOf (nI a)) (y := ((38912 + (256 * s)) + nI a) - 4) h hL (by unfold p_slotOf; exact i_as _ _)
  refine ⟨⟨fun _ => ⟨o1, trivial⟩, fun _ => trivial⟩, ⟨fun _ => ⟨o2, trivial⟩, fun _ => trivial⟩, ?_⟩
  unfold p_fetch p_m_fetch
  rcases hasr ha with ⟨-, e1, e2, e3⟩ | ⟨-, e1, e2, e3⟩
  · rw [if_pos e2, if_pos e1, e3]; exact ⟨rfl, o3⟩
  · rw [if_neg e2, if_neg e1, e3]; exact ⟨rfl, ST_rf h⟩
theorem le3 {a : Nat} (ha : a < 8) : nI a ≤ 3 ↔ ¬ (4 : Int32) ≤ nI a := by
  rw [x4, show (3 : Int32) = nI 3 from rfl, nI_leI (by omega) (by omega), nI_leI (by omega) (by omega)]; omega
theorem keep_rel {n L c a : Nat} {u v : St} (h : SM n L c u v) (hL : L < 388) (ha : a < 8) : ok_keep u (nI a) ∧ ok_m_keep v (nI a) ∧ ST n (L + sl a) c u v (p_keep u (nI a)) (p_m_keep v (nI a)) := by
  obtain ⟨o1, o2, o3⟩ := put_rel (x := 36864 + p_slotOf (nI a)) (y := (36864 + nI a) - 4) h hL (by unfold p_slotOf; exact i_as _ _)
  refine ⟨⟨fun _ => ⟨o1, trivial⟩, fun _ => trivial⟩, ⟨fun _ => trivial, fun _ => ⟨o2, trivial⟩⟩, ?_⟩
  unfold p_keep p_m_keep
  rcases hasr ha with ⟨-, e1, e2, e3⟩ | ⟨-, e1, e2, e3⟩
  · rw [if_pos e2, if_neg (fun q => (le3 ha).mp q e1), e3]; exact o3
  · rw [if_neg e2, if_pos ((le3 ha).mpr e1), e3]; exact ST_rf h
theorem tgt_eq {a : Nat} (ha : a < 8) : p_targetOf (nI a) = p_m_target (nI a) := by
  unfold p_targetOf p_m_target p_registerOf
  rcases hasr ha with ⟨-, e1, e2, -⟩ | ⟨-, e1, e2, -⟩
  · rw [if_pos e2, if_pos e1]
  · rw [if_neg e2, if_neg e1]
theorem copy_rel {n L c a : Nat} {u v : St} (h : SM n L c u v) (hL : L < 388) (ha : a < 8) : ok_copyTo0 u (nI a) ∧ ok_m_copy v (nI a) ∧ ST n (L + 1) c u v (p_copyTo0 u (nI a)) (p_m_copy v (nI a)) := by
  obtain ⟨o1, o2, o3⟩ := put_rel (x := 38912 + p_slotOf (nI a)) (y := ((38912 + (256 * 0)) + nI a) - 4) h hL (by unfold p_slotOf; exact i_as _ _)
  obtain ⟨r1, r2, r3⟩ := put_rel (x := 8 * p_registerOf (nI a)) (y := 8 * (4 + nI a)) h hL rfl
  refine ⟨⟨fun _ => ⟨o1, trivial⟩, fun _ => ⟨r1, trivial⟩⟩, ⟨fun _ => ⟨⟨fun _ => ⟨o2, trivial⟩, fun _ => trivial⟩, trivial⟩, fun _ => ⟨r2, trivial⟩⟩, ?_⟩
  unfold p_copyTo0 p_m_copy p_m_fetch
  rcases hasr ha with ⟨-, e1, e2, -⟩ | ⟨-, e1, e2, -⟩
  · rw [if_pos e2, if_pos e1, if_pos e1]; exact o3
  · rw [if_neg e2, if_neg e1]; exact r3
