/-! the calls that append -/
theorem app_rel {k n : Nat} {u v v' : St} (hn : n < 48) (h : RN k n u v) (K C D A B T : Int32) (e1 : v'.1 1 = nI (n + 1)) (e2 : v'.1 2 = 0) (e6 : v'.1 6 = 0) (er : ∀ j, j < 5 → ∀ i, i ≠ n → v'.2 j i = v.2 j i) (e5 : v'.2 5 = v.2 5) (e11 : v'.2 11 = v.2 11) (hI : IR K C D A B T (v'.2 0 n) (v'.2 1 n) (v'.2 2 n) (v'.2 3 n) (v'.2 4 n)) :
    RN k (n + 1) (p_add (p_discardImage u) K C D A B T).2 v' := by
  obtain ⟨⟨hn0, hu, hv, hi⟩, h2, h3, h4, h5, h6, h7, h8, h9, h10⟩ := h
  have hc : ((p_discardImage u).1 0).toNatClampNeg = n := by
    show (u.1 0).toNatClampNeg = n
    rw [hu, nI_cl (by omega)]
  refine ⟨⟨by omega, ?_, e1, fun i hin => ?_⟩, fun i hi8 => ?_, Or.inl rfl, e2.symm, fun q => absurd q (show ¬ (0 : Int32) = 1 by decide), e6.symm, ⟨0, by omega, nI_0.symm⟩, fun _ => rfl, fun q => absurd rfl q, fun q => absurd q (show ¬ (0 : Int32) = 3 by decide), fun i hi16 => ?_⟩
  · show u.1 0 + 1 = nI (n + 1)
    rw [hu, nI_1]
  · show IR (upd (u.2 0) ((p_discardImage u).1 0).toNatClampNeg K i) (upd (u.2 1) ((p_discardImage u).1 0).toNatClampNeg C i) (upd (u.2 2) ((p_discardImage u).1 0).toNatClampNeg D i) (upd (u.2 3) ((p_discardImage u).1 0).toNatClampNeg A i) (upd (u.2 4) ((p_discardImage u).1 0).toNatClampNeg B i) (upd (u.2 5) ((p_discardImage u).1 0).toNatClampNeg T i) (v'.2 0 i) (v'.2 1 i) (v'.2 2 i) (v'.2 3 i) (v'.2 4 i)
    rw [hc]
    by_cases c : i = n
    · subst c
      simp only [pk_us]
      exact hI
    · rw [pk_un c, pk_un c, pk_un c, pk_un c, pk_un c, pk_un c, er 0 (by omega) i c, er 1 (by omega) i c, er 2 (by omega) i c, er 3 (by omega) i c, er 4 (by omega) i c]
      exact hi i (by omega)
  · show u.2 10 i = v'.2 5 i
    rw [e5]
    exact h2 i hi8
  · show u.2 12 i = v'.2 11 i
    rw [e11]
    exact h10.2 i hi16
/-- what append's callers make of its answer -/
def wrp (P : Nat × Int32 × St) : Nat × Int32 × St := if P.1 = 0 then (0, P.2.1, P.2.2) else (P.1, 0, P.2.2)
theorem wrp_1 (P : Nat × Int32 × St) : (wrp P).1 = P.1 := by
  unfold wrp
  by_cases c : P.1 = 0
  · rw [if_pos c]; exact c.symm
  · rw [if_neg c]
theorem wrp_2 (P : Nat × Int32 × St) (h : (wrp P).1 = 0) : (wrp P).2.1 = P.2.1 := by
  rw [wrp_1] at h
  unfold wrp
  rw [if_pos h]
theorem wrp_3 (P : Nat × Int32 × St) : (wrp P).2.2 = P.2.2 := by
  unfold wrp
  by_cases c : P.1 = 0
  · rw [if_pos c]
  · rw [if_neg c]
def mwr (M : Int32 × St) (x y : Int32) : Int32 × St := if M.2.1 0 = 0 then (M.1, sA (sA M.2 3 M.1 x) 4 M.1 y) else (M.1, M.2)
theorem mwr_pos {M : Int32 × St} (x y : Int32) (h : M.2.1 0 = 0) : mwr M x y = (M.1, sA (sA M.2 3 M.1 x) 4 M.1 y) := if_pos h
theorem mwr_neg {M : Int32 × St} (x y : Int32) (h : ¬ M.2.1 0 = 0) : mwr M x y = (M.1, M.2) := if_neg h
/-- the facts that a call of append's kind owes -/
def AP (k : Nat) (P : Nat × Int32 × St) (M : Int32 × St) : Prop := P.1 ≤ 2 ∧ M.2.1 0 = nI P.1 ∧ (P.1 = 0 → P.2.1 = M.1) ∧ RR (k + 1) P.2.2 M.2
theorem AP_w {k : Nat} {P : Nat × Int32 × St} {M : Int32 × St} (h : AP k P M) : AP k (wrp P) M := by
  obtain ⟨h1, h2, h3, h4⟩ := h
  exact ⟨by rw [wrp_1]; exact h1, by rw [wrp_1]; exact h2, fun c => by rw [wrp_2 P c]; exact h3 (by rw [← wrp_1]; exact c), by rw [wrp_3]; exact h4⟩
theorem AP_bad {k : Nat} {u v : St} (hR : RR k u v) : AP k (1, 0, u) (0, sS v 0 1) := ⟨Nat.le_succ 1, rfl, fun h => absurd h n10, RR_thr 1 (RR_up k u v hR)⟩
theorem ma_bad (v : St) (K a b : Int32) : p_m_append v 0 K a b = (0, sS v 0 1) := by
  unfold p_m_append
  rw [if_pos rfl]
theorem mwr_bad (v : St) (x y : Int32) : mwr (0, sS v 0 1) x y = (0, sS v 0 1) :=
  mwr_neg x y (show ¬ (1 : Int32) = 0 by decide)
theorem ok_ma_bad (v : St) (K a b : Int32) : ok_m_append v 0 K a b := ⟨fun _ => trivial, fun h => absurd rfl h⟩
theorem x48 : (48 : Int32) = nI 48 := rfl
theorem app_ok {k : Nat} {u v : St} (hR : RR k u v) (K C D A B T : Int32) : ok_append u K C D A B T := by
  obtain ⟨n, ⟨hn0, hu, -, -⟩, -⟩ := hR
  refine ⟨fun c => ?_, fun _ => trivial⟩
  have hv : vp_in (u.1 0) 48 := by
    rw [hu, x48, nI_ltI (by omega) (by omega)] at c
    rw [hu]
    exact vp_in_nI c (by omega)
  exact ⟨⟨hv, hv, hv, hv, hv, hv, trivial⟩, trivial⟩
theorem mapp_ok {k : Nat} {u v : St} (hR : RR k u v) (g K a b : Int32) : ok_m_append v g K a b := by
  obtain ⟨n, ⟨hn0, -, hu, -⟩, -⟩ := hR
  refine ⟨fun _ => trivial, fun _ => ⟨fun _ => trivial, fun c => ?_⟩⟩
  have hv : vp_in (v.1 1) 48 := by
    rw [hu, x48, nI_eq (by omega) (by omega)] at c
    rw [hu]
    exact vp_in_nI (by omega) (by omega)
  exact ⟨hv, hv, hv, trivial⟩
theorem app_full {u v : St} (hu : u.1 0 = nI 48) (hv : v.1 1 = nI 48) (K C D A B T a b : Int32) : p_append u K C D A B T = (2, 0, u) ∧ p_m_append v 1 K a b = (0, sS v 0 2) := by
  unfold p_append p_m_append
  rw [if_neg (by rw [hu, x48]; exact Int32.lt_irrefl), if_neg (show ¬ (1 : Int32) = 0 by decide), if_pos (by rw [hv]; rfl)]
  exact ⟨rfl, rfl⟩
theorem app_room {u v : St} {n : Nat} (hn : n < 48) (hu : u.1 0 = nI n) (hv : v.1 1 = nI n) (K C D A B T a b : Int32) : p_append u K C D A B T = (0, nI n, (p_add (p_discardImage u) K C D A B T).2) ∧
    p_m_append v 1 K a b = (nI n, sS (sS (sS (sA (sA (sA (sS v 0 0) 0 (nI n) K) 1 (nI n) a) 2 (nI n) b) 1 (nI (n + 1))) 2 0) 6 0) := by
  unfold p_append p_m_append
  rw [if_pos (by rw [hu, x48, nI_ltI (by omega) (by omega)]; exact hn), if_neg (show ¬ (1 : Int32) = 0 by decide), if_neg (by rw [hv, x48, nI_eq (by omega) (by omega)]; omega), hv, nI_1, nI_pred]
  refine ⟨?_, rfl⟩
  show (0, u.1 0, _) = _
  rw [hu]
theorem app_good {k : Nat} {u v : St} (hR : RR k u v) (K C D A B T a b : Int32) (hI : ∀ n2 n3, IR K C D A B T K a b n2 n3) : AP k (p_append u K C D A B T) (p_m_append v 1 K a b) := by
  have hR1 := RR_up k u v hR
  obtain ⟨n, hN⟩ := id hR1
  obtain ⟨hn0, hu, hv, hi⟩ := hN.1
  rcases Nat.lt_or_ge n 48 with hn | hn
  · obtain ⟨e1, e2⟩ := app_room hn hu hv K C D A B T a b
    rw [e1, e2]
    refine ⟨Nat.zero_le 2, rfl, fun _ => rfl, n + 1, ?_⟩
    refine app_rel hn hN K C D A B T rfl rfl rfl (fun j hj i hin => ?_) rfl rfl ?_
    · rcases (show j = 0 ∨ j = 1 ∨ j = 2 ∨ j = 3 ∨ j = 4 by omega) with rfl | rfl | rfl | rfl | rfl
      · show upd (v.2 0) (nI n).toNatClampNeg K i = v.2 0 i
        rw [nI_cl (by omega), pk_un hin]
      · show upd (v.2 1) (nI n).toNatClampNeg a i = v.2 1 i
        rw [nI_cl (by omega), pk_un hin]
      · show upd (v.2 2) (nI n).toNatClampNeg b i = v.2 2 i
        rw [nI_cl (by omega), pk_un hin]
      · rfl
      · rfl
    · show IR K C D A B T (upd (v.2 0) (nI n).toNatClampNeg K n) (upd (v.2 1) (nI n).toNatClampNeg a n) (upd (v.2 2) (nI n).toNatClampNeg b n) (v.2 3 n) (v.2 4 n)
      rw [nI_cl (by omega), pk_us, pk_us, pk_us]
      exact hI _ _
  · have e : n = 48 := by omega
    subst e
    obtain ⟨e1, e2⟩ := app_full hu hv K C D A B T a b
    rw [e1, e2]
    exact ⟨Nat.le_refl 2, rfl, fun h => absurd h n20, RR_thr 2 hR1⟩
theorem app_good2 {k : Nat} {u v : St} (hR : RR k u v) (K C D A B T a b x y : Int32) (hI : IR K C D A B T K a b x y) : AP k (p_append u K C D A B T) (mwr (p_m_append v 1 K a b) x y) := by
  have hR1 := RR_up k u v hR
  obtain ⟨n, hN⟩ := id hR1
  obtain ⟨hn0, hu, hv, hi⟩ := hN.1
  rcases Nat.lt_or_ge n 48 with hn | hn
  · obtain ⟨e1, e2⟩ := app_room hn hu hv K C D A B T a b
    rw [e1, e2, mwr_pos x y (show (0 : Int32) = 0 from rfl)]
    refine ⟨Nat.zero_le 2, rfl, fun _ => rfl, n + 1, ?_⟩
    refine app_rel hn hN K C D A B T rfl rfl rfl (fun j hj i hin => ?_) rfl rfl ?_
    · rcases (show j = 0 ∨ j = 1 ∨ j = 2 ∨ j = 3 ∨ j = 4 by omega) with rfl | rfl | rfl | rfl | rfl
      · show upd (v.2 0) (nI n).toNatClampNeg K i = v.2 0 i
        rw [nI_cl (by omega), pk_un hin]
      · show upd (v.2 1) (nI n).toNatClampNeg a i = v.2 1 i
        rw [nI_cl (by omega), pk_un hin]
      · show upd (v.2 2) (nI n).toNatClampNeg b i = v.2 2 i
        rw [nI_cl (by omega), pk_un hin]
      · show upd (v.2 3) (nI n).toNatClampNeg x i = v.2 3 i
        rw [nI_cl (by omega), pk_un hin]
      · show upd (v.2 4) (nI n).toNatClampNeg y i = v.2 4 i
        rw [nI_cl (by omega), pk_un hin]
    · show IR K C D A B T (upd (v.2 0) (nI n).toNatClampNeg K n) (upd (v.2 1) (nI n).toNatClampNeg a n) (upd (v.2 2) (nI n).toNatClampNeg b n) (upd (v.2 3) (nI n).toNatClampNeg x n) (upd (v.2 4) (nI n).toNatClampNeg y n)
      rw [nI_cl (by omega), pk_us, pk_us, pk_us, pk_us, pk_us]
      exact hI
  · have e : n = 48 := by omega
    subst e
    obtain ⟨e1, e2⟩ := app_full hu hv K C D A B T a b
    rw [e1, e2, mwr_neg x y (show ¬ (2 : Int32) = 0 by decide)]
    exact ⟨Nat.le_refl 2, rfl, fun h => absurd h n20, RR_thr 2 hR1⟩
theorem z7 : v7 0 := ⟨0, by omega, rfl⟩
theorem mok2 {k : Nat} {u v : St} (hR : RR k u v) (K a b : Int32) : ((p_m_append v 1 K a b).2.1 0 = 0 → (vp_in ((p_m_append v 1 K a b).1) 48 ∧ (vp_in ((p_m_append v 1 K a b).1) 48 ∧ True))) ∧ (¬ (p_m_append v 1 K a b).2.1 0 = 0 → True) := by
  obtain ⟨n, ⟨hn0, hu, hv, hi⟩, -⟩ := hR
  refine ⟨fun c => ?_, fun _ => trivial⟩
  rcases Nat.lt_or_ge n 48 with hn | hn
  · have e2 := (app_room (u := u) hn hu hv 0 0 0 0 0 0 a b).2
    have e3 : (p_m_append v 1 K a b).1 = nI n := by rw [(app_room (u := u) hn hu hv K 0 0 0 0 0 a b).2]
    rw [e3]
    exact ⟨vp_in_nI hn (by omega), vp_in_nI hn (by omega), trivial⟩
  · have e : n = 48 := by omega
    subst e
    rw [(app_full (u := u) hu hv K 0 0 0 0 0 a b).2] at c
    exact absurd c (show ¬ (2 : Int32) = 0 by decide)
theorem mokb (v : St) (K a b : Int32) : ((p_m_append v 0 K a b).2.1 0 = 0 → (vp_in ((p_m_append v 0 K a b).1) 48 ∧ (vp_in ((p_m_append v 0 K a b).1) 48 ∧ True))) ∧ (¬ (p_m_append v 0 K a b).2.1 0 = 0 → True) := by
  refine ⟨fun c => ?_, fun _ => trivial⟩
  rw [ma_bad] at c
  exact absurd c (show ¬ (1 : Int32) = 0 by decide)
