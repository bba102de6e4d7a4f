/-! worlds in any order, and calls whose callee knows a part of the world only -/
theorem k_P_iff {D : va_G} {cl : List vw_C} {ws : va_W} {H : Heap} : va_P D cl ws H ↔ ∀ q ∈ ws, va_at D cl q H := by
  constructor
  · intro h q hq
    obtain ⟨k, hk⟩ := List.mem_iff_getElem?.mp hq
    exact h k q hk
  · intro h k q hk
    exact h q (List.mem_of_getElem? hk)
theorem k_D_iff {A : Nat → Prop} {ws : va_W} : va_D A ws ↔ ws.Pairwise (fun p q => p.1 ≠ q.1) ∧ ∀ q ∈ ws, A q.1 := by
  constructor
  · rintro ⟨h1, h2⟩
    refine ⟨List.pairwise_iff_getElem.mpr (fun i j hi hj hij h => ?_), fun q hq => ?_⟩
    · have h3 := h1 i j _ _ (List.getElem?_eq_getElem hi) (List.getElem?_eq_getElem hj) h
      omega
    · obtain ⟨k, hk⟩ := List.mem_iff_getElem?.mp hq
      exact h2 k q hk
  · rintro ⟨h1, h2⟩
    have h3 := List.pairwise_iff_getElem.mp h1
    refine ⟨fun i j p q hi hj h => ?_, fun k q hk => h2 q (List.mem_of_getElem? hk)⟩
    obtain ⟨ai, rfl⟩ := List.getElem?_eq_some_iff.mp hi
    obtain ⟨aj, rfl⟩ := List.getElem?_eq_some_iff.mp hj
    rcases Nat.lt_trichotomy i j with c | c | c
    · exact absurd h (h3 i j ai aj c)
    · exact c
    · exact absurd h.symm (h3 j i aj ai c)
theorem k_P_perm {D : va_G} {cl : List vw_C} {ws ws' : va_W} {H : Heap} (hp : ws.Perm ws') (h : va_P D cl ws H) : va_P D cl ws' H := k_P_iff.mpr (fun q hq => k_P_iff.mp h q (hp.mem_iff.mpr hq))
theorem k_D_perm {A : Nat → Prop} {ws ws' : va_W} (hp : ws.Perm ws') (h : va_D A ws) : va_D A ws' := by
  obtain ⟨h1, h2⟩ := k_D_iff.mp h
  exact k_D_iff.mpr ⟨(hp.pairwise_iff (fun h => Ne.symm h)).mp h1, fun q hq => h2 q (hp.mem_iff.mpr hq)⟩
