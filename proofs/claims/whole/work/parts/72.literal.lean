/-! numbers: shifts, literals -/
theorem nI_mul (a b : Nat) : nI a * nI b = nI (a * b) := (Int32.ofNat_mul a b).symm
theorem nI_sub {a b : Nat} (h : b ≤ a) : nI a - nI b = nI (a - b) := by
  obtain ⟨q, rfl⟩ : ∃ q, a = q + b := ⟨a - b, by omega⟩
  rw [← nI_add, Int32.add_sub_cancel, Nat.add_sub_cancel]
theorem nI_div {a b : Nat} (ha : a < 2 ^ 31) (hb : b < 2 ^ 31) : nI a / nI b = nI (a / b) := by
  refine Int32.toInt_inj.mp ?_
  have hq : a / b < 2 ^ 31 := Nat.lt_of_le_of_lt (Nat.div_le_self a b) ha
  rw [Int32.toInt_div_of_ne_left _ _ (fun e => ?_), nI_toInt ha, nI_toInt hb, nI_toInt hq, Int.ofNat_tdiv]
  have := congrArg Int32.toInt e
  rw [nI_toInt ha, Int32.toInt_minValue] at this
  omega
theorem nI_mod {a b : Nat} (ha : a < 2 ^ 31) (hb : b < 2 ^ 31) : nI a - nI a / nI b * nI b = nI (a % b) := by
  rw [nI_div ha hb, nI_mul, nI_sub (Nat.div_mul_le_self a b)]
  congr 1
  have := Nat.div_add_mod a b
  rw [Nat.mul_comm] at this
  omega
/-- a shift that makes x of a byte -/
abbrev gsh (x s : Int32) : Prop := ¬ ush x s < 1 ∧ ¬ 255 < ush x s ∧ ush x s <<< (s &&& 31) = x
def fnd (x : Int32) : Nat → Nat → Int32
  | _, 0 => 0
  | j, d + 1 => if gsh x (nI j) then nI j else fnd x (j + 1) d
theorem fnd_n (x : Int32) : ∀ d j, fnd x j d = 0 ∨ ∃ s : Nat, j ≤ s ∧ s < j + d ∧ fnd x j d = nI s := by
  intro d
  induction d with
  | zero => intro j; exact Or.inl rfl
  | succ d ih =>
    intro j
    unfold fnd
    by_cases g : gsh x (nI j)
    · rw [if_pos g]; exact Or.inr ⟨j, by omega, by omega, rfl⟩
    · rw [if_neg g]
      rcases ih (j + 1) with q | ⟨s, q1, q2, q3⟩
      · exact Or.inl q
      · exact Or.inr ⟨s, by omega, by omega, q3⟩
theorem x24 : (24 : Int32) = nI 24 := rfl
theorem fnd_up (x : Int32) : ∀ d j m, j + d = 25 → d < m → ok_leastShift_2 m x (nI j) ∧ p_leastShift_2 m x (nI j) = fnd x j d := by
  intro d
  induction d with
  | zero =>
    intro j m hj hm
    obtain ⟨m, rfl⟩ : ∃ q, m = q + 1 := ⟨m - 1, by omega⟩
    have e : (24 : Int32) < nI j := by rw [x24]; exact nI_lt (by omega) (by omega)
    rw [p_leastShift_2, ok_leastShift_2, if_pos e]
    exact ⟨⟨fun _ => trivial, fun h => absurd e h⟩, rfl⟩
  | succ d ih =>
    intro j m hj hm
    obtain ⟨m, rfl⟩ : ∃ q, m = q + 1 := ⟨m - 1, by omega⟩
    have e : ¬ (24 : Int32) < nI j := by rw [x24]; exact nI_nlt (by omega) (by omega)
    obtain ⟨i1, i2⟩ := ih (j + 1) m (by omega) (by omega)
    rw [p_leastShift_2, ok_leastShift_2, if_neg e, nI_1, i2, fnd]
    refine ⟨⟨fun h => absurd h e, fun _ => ⟨fun _ => i1, fun _ => ⟨fun _ => i1, fun _ => ⟨fun _ => trivial, fun _ => i1⟩⟩⟩⟩, ?_⟩
    by_cases a : ush x (nI j) < 1
    · rw [if_pos a, if_neg (fun g => g.1 a)]
    · rw [if_neg a]
      by_cases b : 255 < ush x (nI j)
      · rw [if_pos b, if_neg (fun g => g.2.1 b)]
      · rw [if_neg b]
        by_cases c : ush x (nI j) <<< (nI j &&& 31) = x
        · rw [if_pos c, if_pos ⟨a, b, c⟩]
        · rw [if_neg c, if_neg (fun g => c g.2.2)]
theorem fnd_dn (x : Int32) : ∀ s m, s ≤ 24 → s < m → p_m_shiftOf_5 m x (fnd x (s + 1) (24 - s)) (nI s) = fnd x 1 24 := by
  intro s
  induction s with
  | zero =>
    intro m hs hm
    obtain ⟨m, rfl⟩ : ∃ q, m = q + 1 := ⟨m - 1, by omega⟩
    rw [p_m_shiftOf_5, if_pos (by rw [nI_0]; decide)]
  | succ s ih =>
    intro m hs hm
    obtain ⟨m, rfl⟩ : ∃ q, m = q + 1 := ⟨m - 1, by omega⟩
    have i := ih m (by omega) (by omega)
    rw [show 24 - s = (24 - (s + 1)) + 1 by omega, fnd] at i
    rw [p_m_shiftOf_5, if_neg (nI_nle (by omega) (by omega)), pk_m1]
    by_cases a : ush x (nI (s + 1)) < 1
    · rw [if_neg (fun g => g.1 a)] at i
      rw [if_pos a]; exact i
    · rw [if_neg a]
      by_cases b : 255 < ush x (nI (s + 1))
      · rw [if_neg (fun g => g.2.1 b)] at i
        rw [if_pos b]; exact i
      · rw [if_neg b]
        by_cases c : ush x (nI (s + 1)) <<< (nI (s + 1) &&& 31) = x
        · rw [if_pos ⟨a, b, c⟩] at i
          rw [if_pos c]; exact i
        · rw [if_neg (fun g => c g.2.2)] at i
          rw [if_neg c]; exact i
theorem ok_ls (x : Int32) : ok_leastShift x := (fnd_up x 24 1 64 (by omega) (by omega)).1
theorem ls_eq (x : Int32) : p_leastShift x = p_m_shiftOf x := by
  have h1 : p_leastShift x = fnd x 1 24 := (fnd_up x 24 1 64 (by omega) (by omega)).2
  have h2 : p_m_shiftOf x = fnd x 1 24 := fnd_dn x 24 64 (by omega) (by omega)
  rw [h1, h2]
theorem sh_pos (x : Int32) : p_m_shiftOf x ≤ 0 ↔ p_m_shiftOf x = 0 := by
  have h2 : p_m_shiftOf x = fnd x 1 24 := fnd_dn x 24 64 (by omega) (by omega)
  rw [h2]
  rcases fnd_n x 24 1 with q | ⟨s, q1, q2, q3⟩
  · rw [q]; decide
  · rw [q3]
    exact ⟨fun h => absurd h (nI_nle (by omega) (by omega)), fun h => absurd h (nI_ne0 (by omega) (by omega))⟩
/-! literals -/
def uL (u : St) (c : Nat) (k : Int32) (p : Nat) : St := if p = c then sS (sA u 9 (nI c) k) 1 (nI (c + 1)) else u
def vL (v : St) (c : Nat) (k : Int32) (p : Nat) : St := sS (sA v 9 (nI p) k) 4 (nI (if p = c then c + 1 else c))
def bsM (v : St) : Int32 := if ((2 * (v.1 3)) + 4) - ((2 * (v.1 3)) + 4) / 4 * 4 = 0 then (2 * (v.1 3)) + 4 else ((2 * (v.1 3)) + 4) - 2
theorem x49 : (49 : Int32) = nI 49 := rfl
theorem lit_s {n L c : Nat} {u v : St} (k z : Int32) (h : SM n L c u v) (hL : L < 388) (hc : c ≤ 48) : ∀ d j m, j + d = c → d < m → ∃ p : Nat, p ≤ c ∧ (p < c → u.2 9 p = k) ∧ ok_literalIndex_2 m u k (nI j) ∧ ok_m_literal_2 m v z k (nI j) ∧ p_literalIndex_2 m u k (nI j) = (nI p, uL u c k p) ∧ p_m_literal_2 m v z k (nI j) = p_m_emit (vL v c k p) ((18432 + (256 * z)) + (((2 * (v.1 5)) + (4 * nI p)) - bsM v) / 4) := by
  obtain ⟨h1, h2, h3, h4, h5, h6, h7, h8, h9, h10⟩ := h
  have oe : ∀ (w : St) (y : Int32), w.1 3 = nI L → ok_m_emit w y := fun w y hw => ⟨by rw [hw]; exact vp_in_nI (by omega) (by omega), trivial⟩
  intro d
  induction d with
  | zero =>
    intro j m hj hm
    obtain ⟨m, rfl⟩ : ∃ q, m = q + 1 := ⟨m - 1, by omega⟩
    have ej : j = c := by omega
    subst ej
    have e1 : u.1 1 ≤ nI j := by rw [h5]; exact Int32.le_refl _
    have e2 : v.1 4 ≤ nI j := by rw [h6]; exact Int32.le_refl _
    have e3 : ¬ 49 ≤ u.1 1 := by rw [h5, x49, nI_leI (by omega) (by omega)]; omega
    have e4 : nI j = v.1 4 := h6.symm
    have vj : vp_in (nI j) 49 := vp_in_nI (by omega) (by omega)
    refine ⟨j, by omega, fun q => absurd q (by omega), ?_, ?_, ?_, ?_⟩
    · rw [ok_literalIndex_2]
      exact ⟨fun _ => ⟨fun _ => trivial, fun _ => ⟨by rw [h5]; exact vj, trivial⟩⟩, fun q => absurd e1 q⟩
    · rw [ok_m_literal_2]
      exact ⟨fun _ => ⟨vj, fun _ => ⟨fun _ => ⟨oe _ _ h3, trivial⟩, fun _ => ⟨oe _ _ h3, trivial⟩⟩, fun q => absurd e4 q⟩, fun q => absurd e2 q⟩
    · rw [p_literalIndex_2, if_pos e1, if_neg e3, h5, nI_1, nI_pred]
      unfold uL
      rw [if_pos rfl]
    · rw [p_m_literal_2, if_pos e2, if_pos e4]
      unfold vL bsM
      rw [if_pos rfl, ← nI_1, e4]
      by_cases r : (((2 * (v.1 3)) + 4) - ((2 * (v.1 3)) + 4) / 4 * 4) = 0
      · rw [if_pos r, if_pos r]
      · rw [if_neg r, if_neg r]
  | succ d ih =>
    intro j m hj hm
    obtain ⟨m, rfl⟩ : ∃ q, m = q + 1 := ⟨m - 1, by omega⟩
    have e1 : ¬ u.1 1 ≤ nI j := by rw [h5, nI_leI (by omega) (by omega)]; omega
    have e2 : ¬ v.1 4 ≤ nI j := by rw [h6, nI_leI (by omega) (by omega)]; omega
    have e4 : ¬ nI j = v.1 4 := by rw [h6, nI_eq (by omega) (by omega)]; omega
    have vj : vp_in (nI j) 49 := vp_in_nI (by omega) (by omega)
    have cl : (nI j).toNatClampNeg = j := nI_cl (by omega)
    have e9 : u.2 9 j = v.2 9 j := h7 j (by omega)
    obtain ⟨p, i1, i2, i3, i4, i5, i6⟩ := ih (j + 1) m (by omega) (by omega)
    by_cases g : v.2 9 j = k
    · refine ⟨j, by omega, fun _ => e9.trans g, ?_, ?_, ?_, ?_⟩
      · rw [ok_literalIndex_2, cl]
        exact ⟨fun q => absurd q e1, fun _ => ⟨vj, fun _ => trivial, fun q => absurd (e9.trans g) q⟩⟩
      · rw [ok_m_literal_2, cl]
        exact ⟨fun q => absurd q e2, fun _ => ⟨vj, fun _ => ⟨vj, fun q => absurd q e4, fun _ => ⟨fun _ => ⟨oe _ _ h3, trivial⟩, fun _ => ⟨oe _ _ h3, trivial⟩⟩⟩, fun q => absurd g q⟩⟩
      · rw [p_literalIndex_2, if_neg e1, cl, if_pos (e9.trans g)]
        unfold uL
        rw [if_neg (by omega)]
      · rw [p_m_literal_2, if_neg e2, cl, if_pos g, if_neg e4]
        unfold vL bsM
        rw [if_neg (show ¬ j = c by omega), ← h6]
        by_cases r : (((2 * (v.1 3)) + 4) - ((2 * (v.1 3)) + 4) / 4 * 4) = 0
        · rw [if_pos r, if_pos r]
        · rw [if_neg r, if_neg r]
    · have g' : ¬ u.2 9 j = k := fun q => g (e9.symm.trans q)
      refine ⟨p, i1, i2, ?_, ?_, ?_, ?_⟩
      · rw [ok_literalIndex_2, cl, nI_1]
        exact ⟨fun q => absurd q e1, fun _ => ⟨vj, fun q => absurd q g', fun _ => i3⟩⟩
      · rw [ok_m_literal_2, cl, nI_1]
        exact ⟨fun q => absurd q e2, fun _ => ⟨vj, fun q => absurd q g, fun _ => i4⟩⟩
      · rw [p_literalIndex_2, if_neg e1, cl, if_neg g', nI_1]; exact i5
      · rw [p_m_literal_2, if_neg e2, cl, if_neg g, nI_1]; exact i6
theorem uL_f (u : St) (c : Nat) (k : Int32) (p : Nat) : FC u (uL u c k p) ∧ (uL u c k p).1 3 = u.1 3 ∧ (uL u c k p).1 2 = u.1 2 ∧ (uL u c k p).2 6 = u.2 6 := by
  unfold uL
  by_cases q : p = c
  · rw [if_pos q]
    refine ⟨⟨fun j a b => ?_, fun j a b => ?_⟩, rfl, rfl, rfl⟩
    · show va_up u.1 1 _ j = u.1 j
      exact va_ups a
    · show va_up u.2 9 _ j = u.2 j
      exact va_ups b
  · rw [if_neg q]; exact ⟨FC_rf u, rfl, rfl, rfl⟩
theorem vL_f (v : St) (c : Nat) (k : Int32) (p : Nat) : FM v (vL v c k p) ∧ (vL v c k p).1 3 = v.1 3 ∧ (vL v c k p).1 5 = v.1 5 ∧ (vL v c k p).2 6 = v.2 6 := by
  unfold vL
  refine ⟨⟨fun j a b => ?_, fun j a b => ?_⟩, rfl, rfl, rfl⟩
  · show va_up v.1 4 _ j = v.1 j
    exact va_ups b
  · show va_up v.2 9 _ j = v.2 j
    exact va_ups b
theorem lit_st {n L c p : Nat} {u v : St} (k : Int32) (h : SM n L c u v) (hc : c ≤ 48) (hp : p ≤ c) (hk : p < c → u.2 9 p = k) : ST n L (if p = c then c + 1 else c) u v (uL u c k p) (vL v c k p) := by
  obtain ⟨f1, f2, f3, f4⟩ := uL_f u c k p
  obtain ⟨g1, g2, g3, g4⟩ := vL_f v c k p
  obtain ⟨h1, h2, h3, h4, h5, h6, h7, h8, h9, h10⟩ := h
  refine ⟨⟨PR_c h1 (f1.1 0 (by decide) (by decide)) (g1.1 1 (by decide) (by decide)) (fun k hk => f1.2 k (by omega) (by omega)) (fun k hk => g1.2 k (by omega) (by omega)), f2.trans h2, g2.trans h3, fun j hj => ?_, ?_, rfl, fun j hj => ?_, ?_, fun j hj => ?_, fun j hj => ?_⟩, f1, g1⟩
  · rw [f4, g4]; exact h4 j hj
  · unfold uL
    by_cases q : p = c
    · rw [if_pos q, if_pos q]; rfl
    · rw [if_neg q, if_neg q]; exact h5
  · have e2 : (vL v c k p).2 9 j = upd (v.2 9) p k j := by
      show upd (v.2 9) (nI p).toNatClampNeg k j = _
      rw [nI_cl (by omega)]
    rw [e2]
    unfold uL
    by_cases q : p = c
    · rw [if_pos q] at hj ⊢
      show upd (u.2 9) (nI c).toNatClampNeg k j = _
      rw [nI_cl (by omega), q]
      by_cases r : j = c
      · subst r; rw [pk_us, pk_us]
      · rw [pk_un r, pk_un r]; exact h7 j (by omega)
    · rw [if_neg q] at hj ⊢
      by_cases r : j = p
      · subst r; rw [pk_us]; exact hk (by omega)
      · rw [pk_un r]; exact h7 j hj
  · rw [f3, g3]; exact h8
  · rw [f1.2 7 (by decide) (by decide), g1.2 7 (by decide) (by decide)]; exact h9 j hj
  · rw [f1.2 8 (by decide) (by decide), g1.2 8 (by decide) (by decide)]; exact h10 j hj
theorem base_eq {x y : Int32} {L : Nat} (hx : x = nI L) (hy : y = nI L) (hL : L < 388) : (((2 * x) + 4) - (((2 * x) + 4) - ((2 * x) + 4) / 4 * 4)) = (if ((2 * y) + 4) - ((2 * y) + 4) / 4 * 4 = 0 then (2 * y) + 4 else ((2 * y) + 4) - 2) := by
  subst hx
  rw [hy, show (2 : Int32) * nI L + 4 = nI (2 * L + 4) by rw [show (2 : Int32) = nI 2 from rfl, show (4 : Int32) = nI 4 from rfl, nI_mul, nI_add], show (4 : Int32) = nI 4 from rfl, nI_mod (by omega) (by omega), show (2 : Int32) = nI 2 from rfl]
  rcases (by omega : (2 * L + 4) % 4 = 0 ∨ (2 * L + 4) % 4 = 2) with q | q
  · rw [q, nI_0, if_pos rfl, Int32.sub_zero]
  · rw [q, if_neg (by decide)]
theorem lit_rel {n L c : Nat} {u v : St} (k z : Int32) (h : SM n L c u v) (hL : L < 388) (hc : c ≤ 48) : ok_writeLiteral u k z ∧ ok_m_literal v z k ∧ ∃ c' : Nat, c ≤ c' ∧ c' ≤ c + 1 ∧ ST n (L + 1) c' u v (p_writeLiteral u k z) (p_m_literal v z k) := by
  obtain ⟨p, s1, s2, s3, s4, s5, s6⟩ := lit_s k z h hL hc c 0 64 (by omega) (by omega)
  have st := lit_st k h hc s1 s2
  have e1 : p_literalIndex u k = (nI p, uL u c k p) := s5
  have e2 := base_eq st.1.2.1 h.2.2.1 hL
  have e3 : u.1 2 = v.1 5 := h.2.2.2.2.2.2.2.1
  obtain ⟨a1, a2, a3⟩ := put_rel (x := (18432 + (256 * z)) + ((((2 * (u.1 2)) + (4 * nI p)) - (((2 * ((uL u c k p).1 3)) + 4) - (((2 * ((uL u c k p).1 3)) + 4) - ((2 * ((uL u c k p).1 3)) + 4) / 4 * 4))) / 4)) (y := (18432 + (256 * z)) + (((2 * (v.1 5)) + (4 * nI p)) - bsM v) / 4) st.1 hL (by rw [e2, e3]; rfl)
  refine ⟨⟨s3, ?_, trivial⟩, s4, (if p = c then c + 1 else c), ?_, ?_, ?_⟩
  · rw [e1]; exact a1
  · split <;> omega
  · split <;> omega
  · unfold p_writeLiteral p_m_literal
    rw [e1]
    show ST _ _ _ _ _ _ (p_m_literal_2 64 v z k (nI 0))
    rw [s6]
    exact ST_tr st a3
