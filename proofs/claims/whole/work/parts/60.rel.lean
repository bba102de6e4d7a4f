/-! THE PURE PART: the relation between the class's state u and the reference's state v -/
def v7 (x : Int32) : Prop := ∃ a : Nat, a < 8 ∧ x = nI a
/-- one instruction: the class's parts and the reference's -/
def IR (K C D A B T k n0 n1 n2 n3 : Int32) : Prop := K = k ∧ v7 D ∧ v7 A ∧ v7 B ∧
  ((K = 0 ∧ n0 = T ∧ n1 = D) ∨ (K = 1 ∧ n0 = C ∧ n1 = D ∧ n2 = A ∧ n3 = B ∧ v7 C) ∨ (K = 2 ∧ n0 = D ∧ n1 = A) ∨ (K = 3 ∧ n0 = A ∧ n1 = B) ∨
   (K = 4 ∧ n0 = T ∧ ∃ t : Nat, t < 48 ∧ T = nI t) ∨ (K = 5 ∧ n0 = C ∧ n1 = A ∧ n2 = B ∧ n3 = T ∧ ∃ t : Nat, t < 48 ∧ T = nI t) ∨ (K = 6 ∧ n0 = A) ∨ K = 7 ∨ (K = 8 ∧ n0 = T))
abbrev IRi (u v : St) (i : Nat) : Prop := IR (u.2 0 i) (u.2 1 i) (u.2 2 i) (u.2 3 i) (u.2 4 i) (u.2 5 i) (v.2 0 i) (v.2 1 i) (v.2 2 i) (v.2 3 i) (v.2 4 i)
/-- the program, n instructions long; what does not change while it is forged or run -/
def PR (n : Nat) (u v : St) : Prop := n ≤ 48 ∧ u.1 0 = nI n ∧ v.1 1 = nI n ∧ ∀ i, i < n → IRi u v i
/-- the program can be forged -/
def WH (n : Nat) (u : St) : Prop := 0 < n ∧ (u.2 0 (n - 1) = 4 ∨ u.2 0 (n - 1) = 7 ∨ u.2 0 (n - 1) = 8) ∧ ∀ i, i < n → u.2 0 i = 4 ∨ u.2 0 i = 5 → ∃ t : Nat, t < n ∧ u.2 5 i = nI t
/-- the images agree -/
def IM (n : Nat) (u v : St) : Prop := WH n u ∧ ∃ Ln : Nat, Ln ≤ 388 ∧ u.1 3 = nI Ln ∧ v.1 3 = nI Ln ∧ (∀ j, j < Ln → u.2 6 j = v.2 6 j) ∧ (∀ j, j ≤ n → u.2 7 j = v.2 7 j) ∧ (∀ j, j < n → u.2 8 j = v.2 8 j) ∧
  ∀ j, j < n → v.2 7 (j + 1) - v.2 7 j = p_m_lengthOf v (nI j)
/-- the machines agree; o outputs at most -/
def MA (n o : Nat) (u v : St) : Prop := u.1 8 = v.1 8 ∧ (∃ j : Nat, j < n ∧ u.1 8 = nI j) ∧ (∀ i, i < 8 → u.2 11 i = v.2 10 i) ∧ (∃ q : Nat, q ≤ o ∧ u.1 5 = nI q ∧ v.1 9 = nI q) ∧ ∀ i, i < 16 → u.2 12 i = v.2 11 i
def RN (k n : Nat) (u v : St) : Prop := PR n u v ∧ (∀ i, i < 8 → u.2 10 i = v.2 5 i) ∧ isb (u.1 4) ∧ u.1 4 = v.1 2 ∧ (u.1 4 = 1 → IM n u v) ∧ u.1 6 = v.1 6 ∧ (∃ q : Nat, q ≤ 3 ∧ u.1 6 = nI q) ∧ (u.1 6 = 0 → u.1 5 = 0) ∧ (¬ u.1 6 = 0 → u.1 4 = 1 ∧ MA n (2000 * k) u v) ∧ (u.1 6 = 3 → u.1 7 = v.1 7) ∧ ∀ i, i < 16 → u.2 12 i = v.2 11 i
def RR (k : Nat) (u v : St) : Prop := ∃ n : Nat, RN k n u v
/-- the reference's own note of a refusal changes nothing else -/
theorem RN_thr {k n : Nat} {u v : St} (x : Int32) (h : RN k n u v) : RN k n u (sS v 0 x) := h
theorem RR_thr {k : Nat} {u v : St} (x : Int32) (h : RR k u v) : RR k u (sS v 0 x) := h
theorem MA_up {n o o' : Nat} {u v : St} (ho : o ≤ o') (h : MA n o u v) : MA n o' u v := by
  obtain ⟨h1, h2, h3, ⟨q, hq, h4⟩, h5⟩ := h
  exact ⟨h1, h2, h3, ⟨q, by omega, h4⟩, h5⟩
theorem RR_up (k : Nat) (u v : St) (h : RR k u v) : RR (k + 1) u v := by
  obtain ⟨n, h1, h2, h3, h4, h5, h6, h7, h8, h9, h10⟩ := h
  exact ⟨n, h1, h2, h3, h4, h5, h6, h7, h8, fun q => ⟨(h9 q).1, MA_up (by omega) (h9 q).2⟩, h10⟩
theorem RR_0 : RR 0 u0 u0 := by
  refine ⟨0, ⟨by omega, nI_0.symm, nI_0.symm, fun i h => absurd h (by omega)⟩, fun _ _ => rfl, Or.inl rfl, rfl, fun h => absurd h (by decide), rfl, ⟨0, by omega, nI_0.symm⟩, fun _ => rfl, fun h => absurd rfl h, fun h => absurd h (by decide), fun _ _ => rfl⟩
/-- an int in a range, by its tests -/
theorem i_rg {x : Int32} {N : Nat} {B : Int32} (hN : N < 2 ^ 31) (hB : B = nI N) (h0 : ¬ x < 0) (h1 : x < B) : ∃ j : Nat, j < N ∧ x = nI j := by
  obtain ⟨j, hj, rfl⟩ := nI_of h0
  rw [hB] at h1
  exact ⟨j, (nI_ltI hj hN).mp h1, rfl⟩
theorem i_nlt {x y : Int32} (h : ¬ x < y) : y ≤ x := Int32.not_lt.mp h
theorem i_nle {x y : Int32} (h : ¬ x ≤ y) : y < x := Int32.not_le.mp h
theorem nI_cl {n : Nat} (h : n < 2 ^ 31) : (nI n).toNatClampNeg = n := nI_clamp h
