/-! the operations and the relations of class and reference are the same -/
def un (x : Int32) : Nat := x.toUInt32.toNat
theorem un_lt (x : Int32) : un x < 4294967296 := x.toUInt32.toNat_lt
theorem un_int (x : Int32) : x.toInt = if 2 * un x < 4294967296 then (un x : Int) else (un x : Int) - 4294967296 := BitVec.toInt_eq_toNat_cond _
theorem nat_x31 {a : Nat} (h : a < 4294967296) : a ^^^ 2 ^ 31 = (a + 2147483648) % 4294967296 := by
  have h1 : (a ^^^ 2 ^ 31) % 2 ^ 31 = a % 2 ^ 31 := by rw [Nat.xor_mod_two_pow, Nat.mod_self, Nat.xor_zero]
  have h2 : (a ^^^ 2 ^ 31) / 2 ^ 31 = (a / 2 ^ 31) ^^^ 1 := by rw [Nat.xor_div_two_pow, Nat.div_self (Nat.two_pow_pos 31)]
  have h3 : a / 2 ^ 31 = 0 ∨ a / 2 ^ 31 = 1 := by omega
  generalize a ^^^ 2 ^ 31 = t at h1 h2
  rcases h3 with h3 | h3
  · rw [h3] at h2
    have h2 : t / 2 ^ 31 = 1 := h2
    omega
  · rw [h3] at h2
    have h2 : t / 2 ^ 31 = 0 := h2
    omega
theorem un_xor (x : Int32) : un (x ^^^ (-2147483648)) = (un x + 2147483648) % 4294967296 := by
  rw [← nat_x31 (un_lt x)]
  exact UInt32.toNat_xor _ _
theorem us_int (x : Int32) : (x ^^^ (-2147483648)).toInt = (un x : Int) - 2147483648 := by
  have h := un_lt x
  rw [un_int, un_xor]
  by_cases c : un x < 2147483648
  · rw [show (un x + 2147483648) % 4294967296 = un x + 2147483648 by omega, if_neg (by omega)]; omega
  · rw [show (un x + 2147483648) % 4294967296 = un x - 2147483648 by omega, if_pos (by omega)]; omega
theorem us_lt (x y : Int32) : (x ^^^ (-2147483648)) < (y ^^^ (-2147483648)) ↔ un x < un y := by
  rw [Int32.lt_iff_toInt_lt, us_int, us_int]; omega
theorem us_le (x y : Int32) : (x ^^^ (-2147483648)) ≤ (y ^^^ (-2147483648)) ↔ un x ≤ un y := by
  rw [Int32.le_iff_toInt_le, us_int, us_int]; omega
def un8 (x : Int64) : Nat := x.toUInt64.toNat
theorem un8_lt (x : Int64) : un8 x < 18446744073709551616 := x.toUInt64.toNat_lt
theorem un8_int (x : Int64) : x.toInt = if 2 * un8 x < 18446744073709551616 then (un8 x : Int) else (un8 x : Int) - 18446744073709551616 := BitVec.toInt_eq_toNat_cond _
theorem un8_lo (x : Int64) : un8 (x &&& 4294967295) = un8 x % 4294967296 := by
  show (x.toUInt64 &&& Int64.toUInt64 4294967295).toNat = _
  rw [UInt64.toNat_and]
  exact Nat.and_two_pow_sub_one_eq_mod _ 32
theorem lo_int (x : Int32) : (Int32.toInt64 x &&& (4294967295 : Int64)).toInt = (un x : Int) := by
  have h := un_lt x
  have h8 := un8_lt (Int32.toInt64 x)
  have e : (Int32.toInt64 x).toInt = x.toInt := Int32.toInt_toInt64 x
  rw [un8_int, un_int] at e
  rw [un8_int, un8_lo]
  have e2 : un8 (Int32.toInt64 x) % 4294967296 = un x := by
    by_cases c : 2 * un x < 4294967296
    · rw [if_pos c] at e
      by_cases d : 2 * un8 (Int32.toInt64 x) < 18446744073709551616
      · rw [if_pos d] at e; omega
      · rw [if_neg d] at e; omega
    · rw [if_neg c] at e
      by_cases d : 2 * un8 (Int32.toInt64 x) < 18446744073709551616
      · rw [if_pos d] at e; omega
      · rw [if_neg d] at e; omega
  rw [e2, if_pos (by omega)]
theorem lc_lt (a b : Int64) : lg_cmp a b < 0 ↔ a.toInt < b.toInt := by
  unfold lg_cmp
  simp only [gt_iff_lt, Int64.lt_iff_toInt_lt, ← Int64.toInt_inj]
  by_cases c : b.toInt < a.toInt
  · rw [if_pos c]; exact ⟨fun h => absurd h (by decide), fun h => absurd h (by omega)⟩
  · rw [if_neg c]
    by_cases d : a.toInt = b.toInt
    · rw [if_pos d]; exact ⟨fun h => absurd h (by decide), fun h => absurd h (by omega)⟩
    · rw [if_neg d]; exact ⟨fun _ => by omega, fun _ => by decide⟩
theorem lc_ge (a b : Int64) : 0 ≤ lg_cmp a b ↔ b.toInt ≤ a.toInt := by
  rw [← Int32.not_lt, lc_lt]; omega
theorem lc_le (a b : Int64) : lg_cmp a b ≤ 0 ↔ a.toInt ≤ b.toInt := by
  unfold lg_cmp
  simp only [gt_iff_lt, Int64.lt_iff_toInt_lt, ← Int64.toInt_inj]
  by_cases c : b.toInt < a.toInt
  · rw [if_pos c]; exact ⟨fun h => absurd h (by decide), fun h => absurd h (by omega)⟩
  · rw [if_neg c]
    by_cases d : a.toInt = b.toInt
    · rw [if_pos d]; exact ⟨fun _ => by omega, fun _ => by decide⟩
    · rw [if_neg d]; exact ⟨fun _ => by omega, fun _ => by decide⟩
theorem lc_gt (a b : Int64) : 0 < lg_cmp a b ↔ b.toInt < a.toInt := by
  rw [← Int32.not_le, lc_le]; omega
theorem if_iff {α : Sort _} {c d : Prop} [Decidable c] [Decidable d] (h : c ↔ d) (a b : α) : (if c then a else b) = (if d then a else b) := by
  by_cases q : c
  · rw [if_pos q, if_pos (h.mp q)]
  · rw [if_neg q, if_neg (fun z => q (h.mpr z))]
theorem holds_eq (r x y : Int32) : p_holds r x y = p_m_holds r x y := by
  unfold p_holds p_m_holds
  rw [if_iff ((us_lt x y).trans (by rw [lc_lt, lo_int, lo_int]; omega : un x < un y ↔ lg_cmp ((Int32.toInt64 x) &&& ((4294967295 : Int64))) ((Int32.toInt64 y) &&& ((4294967295 : Int64))) < 0)) 0 1,
    if_iff ((us_le y x).trans (by rw [lc_ge, lo_int, lo_int]; omega : un y ≤ un x ↔ 0 ≤ lg_cmp ((Int32.toInt64 x) &&& ((4294967295 : Int64))) ((Int32.toInt64 y) &&& ((4294967295 : Int64))))) 0 1,
    if_iff ((us_le x y).trans (by rw [lc_le, lo_int, lo_int]; omega : un x ≤ un y ↔ lg_cmp ((Int32.toInt64 x) &&& ((4294967295 : Int64))) ((Int32.toInt64 y) &&& ((4294967295 : Int64))) ≤ 0)) 0 1,
    if_iff ((us_lt y x).trans (by rw [lc_gt, lo_int, lo_int]; omega : un y < un x ↔ 0 < lg_cmp ((Int32.toInt64 x) &&& ((4294967295 : Int64))) ((Int32.toInt64 y) &&& ((4294967295 : Int64))))) 0 1]
theorem not_if {α : Sort _} {c d : Prop} [Decidable c] [Decidable d] (h : c ↔ ¬ d) (a b : α) : (if c then a else b) = (if d then b else a) := by
  by_cases q : c
  · rw [if_pos q, if_neg (h.mp q)]
  · rw [if_neg q, if_pos (Classical.byContradiction fun z => q (h.mpr z))]
theorem sh32 (s : Int32) : 32 ≤ s ↔ ¬ s ≤ 31 := by
  rw [Int32.le_iff_toInt_le, Int32.le_iff_toInt_le]
  have e1 : (32 : Int32).toInt = 32 := by decide
  have e2 : (31 : Int32).toInt = 31 := by decide
  omega
theorem result_eq (o x y : Int32) : p_result o x y = p_m_computed o x y := by
  unfold p_result p_m_computed
  rw [not_if (sh32 (y &&& 255)) 0 (x <<< ((y &&& 255) &&& 31)), not_if (sh32 (y &&& 255)) 0 (ush x (y &&& 255))]
/-! the reference's lengths -/
theorem shOk : ∀ (s m : Nat) (x f : Int32), s < m → s < 1000 → ok_m_shiftOf_5 m x f (nI s) := by
  intro s
  induction s with
  | zero =>
    intro m x f hm _
    obtain ⟨m, rfl⟩ : ∃ q, m = q + 1 := ⟨m - 1, by omega⟩
    rw [ok_m_shiftOf_5]
    exact ⟨fun _ => trivial, fun h => absurd (by rw [nI_0]; decide) h⟩
  | succ s ih =>
    intro m x f hm hs
    obtain ⟨m, rfl⟩ : ∃ q, m = q + 1 := ⟨m - 1, by omega⟩
    rw [ok_m_shiftOf_5, pk_m1]
    have i := fun g => ih m x g (by omega) (by omega)
    exact ⟨fun _ => trivial, fun _ => ⟨fun _ => i _, fun _ => ⟨fun _ => i _, fun _ => ⟨fun _ => i _, fun _ => i _⟩⟩⟩⟩
theorem ok_sh (x : Int32) : ok_m_shiftOf x := shOk 24 64 x 0 (by omega) (by omega)
theorem ok_li (x : Int32) : ok_m_isLiteral x := ⟨fun _ => ⟨ok_sh x, trivial⟩, fun _ => ⟨fun _ => trivial, fun _ => ⟨ok_sh x, trivial⟩⟩⟩
theorem ok_mk (x : Int32) : ok_m_makeLength x := ⟨fun _ => ⟨ok_li x, trivial⟩, fun _ => ⟨fun _ => trivial, fun _ => ⟨ok_li x, trivial⟩⟩⟩
theorem sl_n (x : Int32) : ∃ s : Nat, s ≤ 1 ∧ p_m_slot x = nI s := by
  unfold p_m_slot
  by_cases c : 4 ≤ x
  · rw [if_pos c]; exact ⟨1, by omega, rfl⟩
  · rw [if_neg c]; exact ⟨0, by omega, rfl⟩
theorem mk_n (x : Int32) : ∃ s : Nat, 1 ≤ s ∧ s ≤ 2 ∧ p_m_makeLength x = nI s := by
  unfold p_m_makeLength
  by_cases a : x < 0
  · rw [if_pos a]
    by_cases b : p_m_isLiteral x = 0
    · rw [if_pos b]; exact ⟨2, by omega, by omega, rfl⟩
    · rw [if_neg b]; exact ⟨1, by omega, by omega, rfl⟩
  · rw [if_neg a]
    by_cases c : x ≤ 255
    · rw [if_pos c]; exact ⟨1, by omega, by omega, rfl⟩
    · rw [if_neg c]
      by_cases b : p_m_isLiteral x = 0
      · rw [if_pos b]; exact ⟨2, by omega, by omega, rfl⟩
      · rw [if_neg b]; exact ⟨1, by omega, by omega, rfl⟩
theorem len_n (v : St) (x : Int32) : ∃ d : Nat, 1 ≤ d ∧ d ≤ 6 ∧ p_m_lengthOf v x = nI d ∧ (v.2 0 x.toNatClampNeg = 5 → 2 ≤ d) := by
  unfold p_m_lengthOf
  obtain ⟨a, ha, ea⟩ := sl_n (v.2 1 x.toNatClampNeg)
  obtain ⟨b, hb, eb⟩ := sl_n (v.2 2 x.toNatClampNeg)
  obtain ⟨c, hc, ec⟩ := sl_n (v.2 3 x.toNatClampNeg)
  obtain ⟨d, hd, ed⟩ := sl_n (v.2 4 x.toNatClampNeg)
  obtain ⟨m, hm1, hm2, em⟩ := mk_n (v.2 1 x.toNatClampNeg)
  rw [ea, eb, ec, ed, em, show (1 : Int32) = nI 1 from rfl, show (2 : Int32) = nI 2 from rfl, show (3 : Int32) = nI 3 from rfl, show (4 : Int32) = nI 4 from rfl]
  simp only [nI_add]
  by_cases q0 : v.2 0 x.toNatClampNeg = 0
  · rw [if_pos q0]; exact ⟨_, by omega, by omega, rfl, fun h => absurd (q0.symm.trans h) (by decide)⟩
  · rw [if_neg q0]
    by_cases q1 : v.2 0 x.toNatClampNeg = nI 1
    · rw [if_pos q1]
      by_cases r : nI 2 ≤ v.2 1 x.toNatClampNeg
      · rw [if_pos r]; exact ⟨_, by omega, by omega, rfl, fun h => absurd (q1.symm.trans h) (by decide)⟩
      · rw [if_neg r]; exact ⟨_, by omega, by omega, rfl, fun h => absurd (q1.symm.trans h) (by decide)⟩
    · rw [if_neg q1]
      by_cases q2 : v.2 0 x.toNatClampNeg = nI 2
      · rw [if_pos q2]; exact ⟨_, by omega, by omega, rfl, fun h => absurd (q2.symm.trans h) (by decide)⟩
      · rw [if_neg q2]
        by_cases q3 : v.2 0 x.toNatClampNeg = nI 3
        · rw [if_pos q3]; exact ⟨_, by omega, by omega, rfl, fun h => absurd (q3.symm.trans h) (by decide)⟩
        · rw [if_neg q3]
          by_cases q5 : v.2 0 x.toNatClampNeg = 5
          · rw [if_pos q5]
            by_cases r : v.2 8 x.toNatClampNeg = 0
            · rw [if_pos r]; exact ⟨_, by omega, by omega, rfl, fun _ => by omega⟩
            · rw [if_neg r]; exact ⟨_, by omega, by omega, rfl, fun _ => by omega⟩
          · rw [if_neg q5]
            by_cases q6 : v.2 0 x.toNatClampNeg = 6
            · rw [if_pos q6]; exact ⟨2, by omega, by omega, rfl, fun h => absurd h q5⟩
            · rw [if_neg q6]; exact ⟨1, by omega, by omega, rfl, fun h => absurd h q5⟩
