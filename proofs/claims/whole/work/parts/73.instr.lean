/-! a number, and one instruction, side by side -/
theorem i_ge0 {x : Int32} (h : ¬ x < 0) : 0 ≤ x := Int32.not_lt.mp h
theorem i_lt {x y : Int32} : x < y ↔ x.toInt < y.toInt := Int32.lt_iff_toInt_lt
theorem i_le {x y : Int32} : x ≤ y ↔ x.toInt ≤ y.toInt := Int32.le_iff_toInt_le
theorem t0 : (0 : Int32).toInt = 0 := rfl
theorem tm1 : (-1 : Int32).toInt = -1 := by decide
theorem tm256 : (-256 : Int32).toInt = -256 := by decide
theorem t255 : (255 : Int32).toInt = 255 := by decide
theorem neg_e (z k : Int32) : (8192 + (256 * z)) + ((-1) - k) = ((8192 + (256 * z)) - 1) - k := by
  generalize (8192 + (256 * z)) = w
  rw [Int32.sub_eq_add_neg (-1) k, Int32.sub_eq_add_neg (w - 1) k, Int32.sub_eq_add_neg w 1, Int32.add_assoc]
theorem num_rel {n L c : Nat} {u v : St} (k z : Int32) (h : SM n L c u v) (hL : L + 2 ≤ 388) (hc : c ≤ 48) : ok_writeNumber u k z ∧ ok_m_make v z k ∧ ∃ ml c' : Nat, p_m_makeLength k = nI ml ∧ 1 ≤ ml ∧ ml ≤ 2 ∧ c ≤ c' ∧ c' ≤ c + 1 ∧ ST n (L + ml) c' u v (p_writeNumber u k z) (p_m_make v z k) := by
  obtain ⟨p1, p2, p3⟩ := put_rel (x := (8192 + (256 * z)) + k) (y := (8192 + (256 * z)) + k) h (by omega) rfl
  obtain ⟨n1, n2, n3⟩ := put_rel (x := (8192 + (256 * z)) + (((-1)) - k)) (y := ((8192 + (256 * z)) - 1) - k) h (by omega) (neg_e z k)
  obtain ⟨r1, r2, r3⟩ := put_rel (x := 17344 + (9 * z)) (y := 17344 + (9 * z)) n3.1 (by omega) rfl
  obtain ⟨s1, s2, s3⟩ := put_rel (x := (8192 + (256 * z)) + (ush k (p_leastShift k))) (y := (8192 + (256 * z)) + (ush k (p_m_shiftOf k))) h (by omega) (by rw [ls_eq])
  obtain ⟨t1, t2, t3⟩ := put_rel (x := (64 * (p_leastShift k)) + (9 * z)) (y := (64 * (p_m_shiftOf k)) + (9 * z)) s3.1 (by omega) (by rw [ls_eq])
  obtain ⟨l1, l2, c', l3, l4, l5⟩ := lit_rel k z h (by omega) hc
  have okS : (ok_leastShift k ∧ (((p_leastShift k) = 0 → (ok_writeLiteral u k z ∧ True)) ∧ (¬ (p_leastShift k) = 0 → (ok_put u ((8192 + (256 * z)) + (ush k (p_leastShift k))) ∧ (ok_put (p_put u ((8192 + (256 * z)) + (ush k (p_leastShift k)))) ((64 * (p_leastShift k)) + (9 * z)) ∧ True))))) := ⟨ok_ls k, fun _ => ⟨l1, trivial⟩, fun _ => ⟨s1, t1, trivial⟩⟩
  have okT : (((p_m_shiftOf k) ≤ 0 → (ok_m_literal v z k ∧ True)) ∧ (¬ (p_m_shiftOf k) ≤ 0 → (ok_m_emit v ((8192 + (256 * z)) + (ush k (p_m_shiftOf k))) ∧ (ok_m_emit (p_m_emit v ((8192 + (256 * z)) + (ush k (p_m_shiftOf k)))) ((64 * (p_m_shiftOf k)) + (9 * z)) ∧ True)))) := ⟨fun _ => ⟨l2, trivial⟩, fun _ => ⟨s2, t2, trivial⟩⟩
  refine ⟨⟨fun _ => ⟨fun _ => okS, fun _ => ⟨fun _ => okS, fun _ => ⟨n1, r1, trivial⟩⟩⟩, fun _ => ⟨fun _ => ⟨fun _ => okS, fun _ => ⟨fun _ => okS, fun _ => ⟨n1, r1, trivial⟩⟩⟩, fun _ => ⟨p1, trivial⟩⟩⟩, ⟨ok_sh k, fun _ => ⟨fun _ => okT, fun _ => ⟨fun _ => okT, fun _ => ⟨n2, r2, trivial⟩⟩⟩, fun _ => ⟨fun _ => ⟨fun _ => okT, fun _ => ⟨fun _ => okT, fun _ => ⟨n2, r2, trivial⟩⟩⟩, fun _ => ⟨p2, trivial⟩⟩⟩, ?_⟩
  have sh : ∃ ml c1 : Nat, (if (if (p_m_shiftOf k) = 0 then 1 else 0) = (0 : Int32) then 2 else 1) = nI ml ∧ 1 ≤ ml ∧ ml ≤ 2 ∧ c ≤ c1 ∧ c1 ≤ c + 1 ∧ ST n (L + ml) c1 u v (if (p_leastShift k) = 0 then (p_writeLiteral u k z) else (p_put (p_put u ((8192 + (256 * z)) + (ush k (p_leastShift k)))) ((64 * (p_leastShift k)) + (9 * z)))) (if (p_m_shiftOf k) ≤ 0 then (p_m_literal v z k) else (p_m_emit (p_m_emit v ((8192 + (256 * z)) + (ush k (p_m_shiftOf k)))) ((64 * (p_m_shiftOf k)) + (9 * z)))) := by
    by_cases q : p_m_shiftOf k = 0
    · refine ⟨1, c', ?_, by omega, by omega, l3, l4, ?_⟩
      · rw [if_pos q]; rfl
      · rw [if_pos ((ls_eq k).trans q), if_pos ((sh_pos k).mpr q)]; exact l5
    · refine ⟨2, c, ?_, by omega, by omega, by omega, by omega, ?_⟩
      · rw [if_neg q]; rfl
      · rw [if_neg (fun w => q ((ls_eq k).symm.trans w)), if_neg (fun w => q ((sh_pos k).mp w))]; exact ST_tr s3 t3
  unfold p_m_makeLength p_m_isLiteral p_writeNumber p_m_make
  by_cases a : k < 0
  · have a0 : ¬ 0 ≤ k := Int32.not_le.mpr a
    have a1 : ¬ -1 < k := by rw [i_lt, tm1]; rw [i_lt, t0] at a; omega
    have a2 : k ≤ 255 := by rw [i_le, t255]; rw [i_lt, t0] at a; omega
    rw [if_pos a, if_pos a, if_pos a, if_neg a0, if_neg a1, if_pos a2]
    by_cases b : k < -256
    · rw [if_pos b, if_pos b, if_pos b]; exact sh
    · rw [if_neg b, if_neg b, if_neg b]
      exact ⟨2, c, rfl, by omega, by omega, by omega, by omega, ST_tr n3 r3⟩
  · have a0 : 0 ≤ k := i_ge0 a
    have a1 : -1 < k := by rw [i_lt, tm1]; rw [i_le, t0] at a0; omega
    have a3 : ¬ k < -256 := by rw [i_lt, tm256]; rw [i_le, t0] at a0; omega
    rw [if_neg a, if_neg a, if_neg a]
    by_cases b : 255 < k
    · have b1 : ¬ k ≤ 255 := Int32.not_le.mpr b
      rw [if_neg b1, if_neg a3, if_neg b1, if_pos b, if_neg a3, if_pos a1, if_pos b, if_pos a0]; exact sh
    · have b1 : k ≤ 255 := Int32.not_lt.mp b
      rw [if_pos b1, if_neg b, if_neg b]
      exact ⟨1, c, rfl, by omega, by omega, by omega, by omega, p3⟩
theorem ins_0 {n L c i : Nat} {u v : St} (h : SM n L c u v) (hw : WH n u) (hi : i < n) (hL : L + 6 ≤ 388) (hc : c ≤ 48) (kU : u.2 0 i = 0) (kV : v.2 0 i = 0) {d : Nat} (hd : d < 8) (eD : u.2 2 i = nI d) (e1 : v.2 1 i = u.2 5 i) (e2 : v.2 2 i = nI d) : ok_writeInstruction u (nI i) ∧ ok_m_emitInstruction v (nI i) ∧ ∃ d c' : Nat, p_m_lengthOf v (nI i) = nI d ∧ 1 ≤ d ∧ d ≤ 6 ∧ c ≤ c' ∧ c' ≤ c + 1 ∧ ST n (L + d) c' u v (p_writeInstruction u (nI i)) (p_m_emitInstruction v (nI i)) := by
  have hn : n ≤ 48 := h.1.1
  have cl : (nI i).toNatClampNeg = i := nI_cl (by omega)
  have hv : vp_in (nI i) 48 := vp_in_nI (by omega) (by omega)
  have hs := sl_le d
  obtain ⟨o1, o2, ml, c', m1, m2, m3, m4, m5, m6⟩ := num_rel (u.2 5 i) (p_m_target (nI d)) h (by omega) hc
  obtain ⟨k1, k2, k3⟩ := keep_rel m6.1 (by omega) hd
  have r2 : (p_m_make v (p_m_target (nI d)) (u.2 5 i)).2 2 i = nI d := (congrFun (m6.2.2.2 2 (by decide) (by decide)) i).trans e2
  refine ⟨?_, ?_, ml + sl d, c', ?_, by omega, by omega, by omega, by omega, ?_⟩
  · unfold ok_writeInstruction
    rw [cl, kU, eD, tgt_eq hd]
    exact ⟨hv, hv, hv, hv, hv, ⟨fun _ => ⟨o1, k1, trivial⟩, fun q => absurd rfl q⟩⟩
  · unfold ok_m_emitInstruction
    rw [cl, kV, e1, e2, r2]
    exact ⟨hv, ⟨fun _ => ⟨hv, hv, o2, hv, k2, trivial⟩, fun q => absurd rfl q⟩⟩
  · unfold p_m_lengthOf
    rw [cl, kV, if_pos rfl, e1, e2, m1, sl_m hd, nI_add]
  · unfold p_writeInstruction p_m_emitInstruction
    rw [cl, kU, kV, if_pos rfl, if_pos rfl, eD, tgt_eq hd, e1, e2, r2]
    exact (show L + (ml + sl d) = L + ml + sl d by omega) ▸ ST_tr m6 k3
theorem ins_1 {n L c i : Nat} {u v : St} (h : SM n L c u v) (hw : WH n u) (hi : i < n) (hL : L + 6 ≤ 388) (hc : c ≤ 48) (kU : u.2 0 i = 1) (kV : v.2 0 i = 1) {o d a b : Nat} (ho : o < 8) (hd : d < 8) (ha : a < 8) (hb : b < 8) (eC : u.2 1 i = nI o) (eD : u.2 2 i = nI d) (eA : u.2 3 i = nI a) (eB : u.2 4 i = nI b) (e1 : v.2 1 i = nI o) (e2 : v.2 2 i = nI d) (e3 : v.2 3 i = nI a) (e4 : v.2 4 i = nI b) : ok_writeInstruction u (nI i) ∧ ok_m_emitInstruction v (nI i) ∧ ∃ d c' : Nat, p_m_lengthOf v (nI i) = nI d ∧ 1 ≤ d ∧ d ≤ 6 ∧ c ≤ c' ∧ c' ≤ c + 1 ∧ ST n (L + d) c' u v (p_writeInstruction u (nI i)) (p_m_emitInstruction v (nI i)) := by
  have hn : n ≤ 48 := h.1.1
  have cl : (nI i).toNatClampNeg = i := nI_cl (by omega)
  have hv : vp_in (nI i) 48 := vp_in_nI (by omega) (by omega)
  have hs := sl_le a
  have hs2 := sl_le b
  have hs3 := sl_le d
  obtain ⟨o1, o2, o3⟩ := compute_rel h (by omega) ho hd ha hb
  obtain ⟨g, hg1, hg2, hg, hg3⟩ : ∃ g : Nat, 1 ≤ g ∧ g ≤ 4 ∧ (if 2 ≤ nI o then 3 + sl b else sl a + sl b + 1 + sl d) = g ∧ (if 2 ≤ nI o then 3 + nI (sl b) else ((nI (sl a) + nI (sl b)) + 1) + nI (sl d)) = nI g := by
    by_cases q : 2 ≤ nI o
    · rw [if_pos q, if_pos q]; exact ⟨_, by omega, by omega, rfl, nI_add 3 (sl b)⟩
    · rw [if_neg q, if_neg q]; exact ⟨_, by omega, by omega, rfl, by rw [nI_add, nI_1, nI_add]⟩
  rw [hg] at o3
  refine ⟨?_, ?_, g, c, ?_, by omega, by omega, by omega, by omega, ?_⟩
  · unfold ok_writeInstruction
    rw [cl, kU, eC, eD, eA, eB]
    exact ⟨hv, hv, hv, hv, hv, ⟨fun q => absurd q (by decide), fun _ => ⟨fun _ => ⟨hv, o1, trivial⟩, fun q => absurd rfl q⟩⟩⟩
  · unfold ok_m_emitInstruction
    rw [cl, kV, e1, e2, e3, e4]
    exact ⟨hv, ⟨fun q => absurd q (by decide), fun _ => ⟨fun _ => ⟨hv, hv, hv, hv, o2, trivial⟩, fun q => absurd rfl q⟩⟩⟩
  · unfold p_m_lengthOf
    rw [cl, kV, if_neg (show ¬ (1 : Int32) = 0 by decide), if_pos rfl, e1, e2, e3, e4, sl_m ha, sl_m hb, sl_m hd, hg3]
  · unfold p_writeInstruction p_m_emitInstruction
    rw [cl, kU, kV, if_neg (show ¬ (1 : Int32) = 0 by decide), if_pos rfl, if_neg (show ¬ (1 : Int32) = 0 by decide), if_pos rfl, eC, eD, eA, eB, e1, e2, e3, e4]
    exact o3
theorem ins_2 {n L c i : Nat} {u v : St} (h : SM n L c u v) (hw : WH n u) (hi : i < n) (hL : L + 6 ≤ 388) (hc : c ≤ 48) (kU : u.2 0 i = 2) (kV : v.2 0 i = 2) {d a : Nat} (hd : d < 8) (ha : a < 8) (eD : u.2 2 i = nI d) (eA : u.2 3 i = nI a) (e1 : v.2 1 i = nI d) (e2 : v.2 2 i = nI a) : ok_writeInstruction u (nI i) ∧ ok_m_emitInstruction v (nI i) ∧ ∃ d c' : Nat, p_m_lengthOf v (nI i) = nI d ∧ 1 ≤ d ∧ d ≤ 6 ∧ c ≤ c' ∧ c' ≤ c + 1 ∧ ST n (L + d) c' u v (p_writeInstruction u (nI i)) (p_m_emitInstruction v (nI i)) := by
  have hn : n ≤ 48 := h.1.1
  have cl : (nI i).toNatClampNeg = i := nI_cl (by omega)
  have hv : vp_in (nI i) 48 := vp_in_nI (by omega) (by omega)
  have hs := sl_le a
  have hs3 := sl_le d
  obtain ⟨w1, w2, w3, w4⟩ := wc_rel h (by omega) ha
  obtain ⟨a1, a2, a3⟩ := put_rel (x := 22616 + (p_m_target (nI d))) (y := 22616 + (p_m_target (nI d))) w4.1 (by omega) rfl
  obtain ⟨k1, k2, k3⟩ := keep_rel a3.1 (by omega) hd
  have r1 : (p_m_emitPlace ((p_m_fetch v (nI a) 0).2) ((p_m_fetch v (nI a) 0).1)).2 1 i = nI d := (congrFun (w4.2.2.2 1 (by decide) (by decide)) i).trans e1
  have r3 : (p_m_emit (p_m_emitPlace ((p_m_fetch v (nI a) 0).2) ((p_m_fetch v (nI a) 0).1)) (22616 + (p_m_target (nI d)))).2 1 i = nI d := (congrFun (a3.2.2.2 1 (by decide) (by decide)) i).trans r1
  refine ⟨?_, ?_, sl a + 4 + sl d, c, ?_, by omega, by omega, by omega, by omega, ?_⟩
  · unfold ok_writeInstruction
    rw [cl, kU, eD, eA, tgt_eq hd]
    exact ⟨hv, hv, hv, hv, hv, ⟨fun q => absurd q (by decide), fun _ => ⟨fun q => absurd q (by decide), fun _ => ⟨fun _ => ⟨w1, a1, k1, trivial⟩, fun q => absurd rfl q⟩⟩⟩⟩
  · unfold ok_m_emitInstruction
    rw [cl, kV, e2, r1, r3]
    exact ⟨hv, ⟨fun q => absurd q (by decide), fun _ => ⟨fun q => absurd q (by decide), fun _ => ⟨fun _ => ⟨hv, w2, w3, hv, a2, hv, k2, trivial⟩, fun q => absurd rfl q⟩⟩⟩⟩
  · unfold p_m_lengthOf
    rw [cl, kV, if_neg (show ¬ (2 : Int32) = 0 by decide), if_neg (show ¬ (2 : Int32) = 1 by decide), if_pos rfl, e1, e2, sl_m ha, sl_m hd, x4, nI_add, nI_add]
  · unfold p_writeInstruction p_m_emitInstruction
    rw [cl, kU, kV, if_neg (show ¬ (2 : Int32) = 0 by decide), if_neg (show ¬ (2 : Int32) = 1 by decide), if_pos rfl, if_neg (show ¬ (2 : Int32) = 0 by decide), if_neg (show ¬ (2 : Int32) = 1 by decide), if_pos rfl, eD, eA, tgt_eq hd, e2, r1, r3]
    exact (show L + (sl a + 4 + sl d) = L + sl a + 3 + 1 + sl d by omega) ▸ ST_tr (ST_tr w4 a3) k3
theorem ins_3 {n L c i : Nat} {u v : St} (h : SM n L c u v) (hw : WH n u) (hi : i < n) (hL : L + 6 ≤ 388) (hc : c ≤ 48) (kU : u.2 0 i = 3) (kV : v.2 0 i = 3) {a b : Nat} (ha : a < 8) (hb : b < 8) (eA : u.2 3 i = nI a) (eB : u.2 4 i = nI b) (e1 : v.2 1 i = nI a) (e2 : v.2 2 i = nI b) : ok_writeInstruction u (nI i) ∧ ok_m_emitInstruction v (nI i) ∧ ∃ d c' : Nat, p_m_lengthOf v (nI i) = nI d ∧ 1 ≤ d ∧ d ≤ 6 ∧ c ≤ c' ∧ c' ≤ c + 1 ∧ ST n (L + d) c' u v (p_writeInstruction u (nI i)) (p_m_emitInstruction v (nI i)) := by
  have hn : n ≤ 48 := h.1.1
  have cl : (nI i).toNatClampNeg = i := nI_cl (by omega)
  have hv : vp_in (nI i) 48 := vp_in_nI (by omega) (by omega)
  have hs := sl_le a
  have hs3 := sl_le b
  obtain ⟨w1, w2, w3, w4⟩ := wc_rel h (by omega) ha
  obtain ⟨f1, f2, f3, f4⟩ := fetch_rel 0 w4.1 (by omega) hb
  obtain ⟨a1, a2, a3⟩ := put_rel (x := 20568 + ((p_fetch (p_writeWordChoice u (nI a)) (nI b) 0).1)) (y := 20568 + ((p_m_fetch (p_m_emitPlace ((p_m_fetch v (nI a) 0).2) ((p_m_fetch v (nI a) 0).1)) (nI b) 0).1)) f4.1 (by omega) (by rw [f3])
  have r1 : (p_m_emitPlace ((p_m_fetch v (nI a) 0).2) ((p_m_fetch v (nI a) 0).1)).2 2 i = nI b := (congrFun (w4.2.2.2 2 (by decide) (by decide)) i).trans e2
  refine ⟨?_, ?_, sl a + 4 + sl b, c, ?_, by omega, by omega, by omega, by omega, ?_⟩
  · unfold ok_writeInstruction
    rw [cl, kU, eA, eB]
    exact ⟨hv, hv, hv, hv, hv, ⟨fun q => absurd q (by decide), fun _ => ⟨fun q => absurd q (by decide), fun _ => ⟨fun q => absurd q (by decide), fun _ => ⟨fun _ => ⟨w1, f1, a1, trivial⟩, fun q => absurd rfl q⟩⟩⟩⟩⟩
  · unfold ok_m_emitInstruction
    rw [cl, kV, e1, r1]
    exact ⟨hv, ⟨fun q => absurd q (by decide), fun _ => ⟨fun q => absurd q (by decide), fun _ => ⟨fun q => absurd q (by decide), fun _ => ⟨fun _ => ⟨hv, w2, w3, hv, f2, a2, trivial⟩, fun q => absurd rfl q⟩⟩⟩⟩⟩
  · unfold p_m_lengthOf
    rw [cl, kV, if_neg (show ¬ (3 : Int32) = 0 by decide), if_neg (show ¬ (3 : Int32) = 1 by decide), if_neg (show ¬ (3 : Int32) = 2 by decide), if_pos rfl, e1, e2, sl_m ha, sl_m hb, x4, nI_add, nI_add]
  · unfold p_writeInstruction p_m_emitInstruction
    rw [cl, kU, kV, if_neg (show ¬ (3 : Int32) = 0 by decide), if_neg (show ¬ (3 : Int32) = 1 by decide), if_neg (show ¬ (3 : Int32) = 2 by decide), if_pos rfl, if_neg (show ¬ (3 : Int32) = 0 by decide), if_neg (show ¬ (3 : Int32) = 1 by decide), if_neg (show ¬ (3 : Int32) = 2 by decide), if_pos rfl, eA, eB, e1, r1]
    exact (show L + (sl a + 4 + sl b) = L + sl a + 3 + sl b + 1 by omega) ▸ ST_tr (ST_tr w4 f4) a3
theorem ins_4 {n L c i : Nat} {u v : St} (h : SM n L c u v) (hw : WH n u) (hi : i < n) (hL : L + 6 ≤ 388) (hc : c ≤ 48) (kU : u.2 0 i = 4) (kV : v.2 0 i = 4) {t : Nat} (ht : t < n) (eT : u.2 5 i = nI t) (e1 : v.2 1 i = nI t) : ok_writeInstruction u (nI i) ∧ ok_m_emitInstruction v (nI i) ∧ ∃ d c' : Nat, p_m_lengthOf v (nI i) = nI d ∧ 1 ≤ d ∧ d ≤ 6 ∧ c ≤ c' ∧ c' ≤ c + 1 ∧ ST n (L + d) c' u v (p_writeInstruction u (nI i)) (p_m_emitInstruction v (nI i)) := by
  have hn : n ≤ 48 := h.1.1
  have cl : (nI i).toNatClampNeg = i := nI_cl (by omega)
  have hv : vp_in (nI i) 48 := vp_in_nI (by omega) (by omega)
  obtain ⟨j1, j2, j3⟩ := jump_rel h (by omega) (Nat.le_of_lt ht)
  refine ⟨?_, ?_, 1, c, ?_, by omega, by omega, by omega, by omega, ?_⟩
  · unfold ok_writeInstruction
    rw [cl, kU, eT]
    exact ⟨hv, hv, hv, hv, hv, ⟨fun q => absurd q (by decide), fun _ => ⟨fun q => absurd q (by decide), fun _ => ⟨fun q => absurd q (by decide), fun _ => ⟨fun q => absurd q (by decide), fun _ => ⟨fun _ => ⟨j1, trivial⟩, fun q => absurd rfl q⟩⟩⟩⟩⟩⟩
  · unfold ok_m_emitInstruction
    rw [cl, kV, e1]
    exact ⟨hv, ⟨fun q => absurd q (by decide), fun _ => ⟨fun q => absurd q (by decide), fun _ => ⟨fun q => absurd q (by decide), fun _ => ⟨fun q => absurd q (by decide), fun _ => ⟨fun _ => ⟨hv, j2, trivial⟩, fun q => absurd rfl q⟩⟩⟩⟩⟩⟩
  · unfold p_m_lengthOf
    rw [cl, kV, if_neg (show ¬ (4 : Int32) = 0 by decide), if_neg (show ¬ (4 : Int32) = 1 by decide), if_neg (show ¬ (4 : Int32) = 2 by decide), if_neg (show ¬ (4 : Int32) = 3 by decide), if_neg (show ¬ (4 : Int32) = 5 by decide), if_neg (show ¬ (4 : Int32) = 6 by decide)]
    rfl
  · unfold p_writeInstruction p_m_emitInstruction
    rw [cl, kU, kV, if_neg (show ¬ (4 : Int32) = 0 by decide), if_neg (show ¬ (4 : Int32) = 1 by decide), if_neg (show ¬ (4 : Int32) = 2 by decide), if_neg (show ¬ (4 : Int32) = 3 by decide), if_pos rfl, if_neg (show ¬ (4 : Int32) = 0 by decide), if_neg (show ¬ (4 : Int32) = 1 by decide), if_neg (show ¬ (4 : Int32) = 2 by decide), if_neg (show ¬ (4 : Int32) = 3 by decide), if_pos rfl, eT, e1]
    exact j3
theorem ins_5 {n L c i : Nat} {u v : St} (h : SM n L c u v) (hw : WH n u) (hi : i < n) (hL : L + 6 ≤ 388) (hc : c ≤ 48) (kU : u.2 0 i = 5) (kV : v.2 0 i = 5) {a b t : Nat} (ha : a < 8) (hb : b < 8) (ht : t < n) (eA : u.2 3 i = nI a) (eB : u.2 4 i = nI b) (eT : u.2 5 i = nI t) (e1 : v.2 1 i = u.2 1 i) (e2 : v.2 2 i = nI a) (e3 : v.2 3 i = nI b) (e4 : v.2 4 i = nI t) : ok_writeInstruction u (nI i) ∧ ok_m_emitInstruction v (nI i) ∧ ∃ d c' : Nat, p_m_lengthOf v (nI i) = nI d ∧ 1 ≤ d ∧ d ≤ 6 ∧ c ≤ c' ∧ c' ≤ c + 1 ∧ ST n (L + d) c' u v (p_writeInstruction u (nI i)) (p_m_emitInstruction v (nI i)) := by
  have hn : n ≤ 48 := h.1.1
  have cl : (nI i).toNatClampNeg = i := nI_cl (by omega)
  have hv : vp_in (nI i) 48 := vp_in_nI (by omega) (by omega)
  have hs := sl_le a
  have hs2 := sl_le b
  obtain ⟨o1, o2, o3⟩ := branch_rel h (by omega) ha hb (Nat.le_of_lt ht) hi e1 e2 e3 e4
  obtain ⟨g, hg1, hg2, hg, hg3⟩ : ∃ g : Nat, 1 ≤ g ∧ g ≤ 5 ∧ (sl a + sl b + if v.2 8 i = 0 then 2 else 3) = g ∧ (if v.2 8 i = 0 then (nI (sl a) + nI (sl b)) + 2 else (nI (sl a) + nI (sl b)) + 3) = nI g := by
    by_cases q : v.2 8 i = 0
    · rw [if_pos q, if_pos q]; exact ⟨_, by omega, by omega, rfl, by rw [nI_add]; exact nI_add _ 2⟩
    · rw [if_neg q, if_neg q]; exact ⟨_, by omega, by omega, rfl, by rw [nI_add]; exact nI_add _ 3⟩
  rw [hg] at o3
  refine ⟨?_, ?_, g, c, ?_, by omega, by omega, by omega, by omega, ?_⟩
  · unfold ok_writeInstruction
    rw [cl, kU, eA, eB, eT]
    exact ⟨hv, hv, hv, hv, hv, ⟨fun q => absurd q (by decide), fun _ => ⟨fun q => absurd q (by decide), fun _ => ⟨fun q => absurd q (by decide), fun _ => ⟨fun q => absurd q (by decide), fun _ => ⟨fun q => absurd q (by decide), fun _ => ⟨fun _ => ⟨hv, hv, o1, trivial⟩, fun q => absurd rfl q⟩⟩⟩⟩⟩⟩⟩
  · unfold ok_m_emitInstruction
    rw [cl, kV]
    exact ⟨hv, ⟨fun q => absurd q (by decide), fun _ => ⟨fun q => absurd q (by decide), fun _ => ⟨fun q => absurd q (by decide), fun _ => ⟨fun q => absurd q (by decide), fun _ => ⟨fun q => absurd q (by decide), fun _ => ⟨fun _ => ⟨o2, trivial⟩, fun q => absurd rfl q⟩⟩⟩⟩⟩⟩⟩
  · unfold p_m_lengthOf
    rw [cl, kV, if_neg (show ¬ (5 : Int32) = 0 by decide), if_neg (show ¬ (5 : Int32) = 1 by decide), if_neg (show ¬ (5 : Int32) = 2 by decide), if_neg (show ¬ (5 : Int32) = 3 by decide), if_pos rfl, e2, e3, sl_m ha, sl_m hb, hg3]
  · unfold p_writeInstruction p_m_emitInstruction
    rw [cl, kU, kV, if_neg (show ¬ (5 : Int32) = 0 by decide), if_neg (show ¬ (5 : Int32) = 1 by decide), if_neg (show ¬ (5 : Int32) = 2 by decide), if_neg (show ¬ (5 : Int32) = 3 by decide), if_neg (show ¬ (5 : Int32) = 4 by decide), if_pos rfl, if_neg (show ¬ (5 : Int32) = 0 by decide), if_neg (show ¬ (5 : Int32) = 1 by decide), if_neg (show ¬ (5 : Int32) = 2 by decide), if_neg (show ¬ (5 : Int32) = 3 by decide), if_neg (show ¬ (5 : Int32) = 4 by decide), if_pos rfl, eA, eB, eT]
    exact o3
theorem ins_6 {n L c i : Nat} {u v : St} (h : SM n L c u v) (hw : WH n u) (hi : i < n) (hL : L + 6 ≤ 388) (hc : c ≤ 48) (kU : u.2 0 i = 6) (kV : v.2 0 i = 6) {a : Nat} (ha : a < 8) (eA : u.2 3 i = nI a) (e1 : v.2 1 i = nI a) : ok_writeInstruction u (nI i) ∧ ok_m_emitInstruction v (nI i) ∧ ∃ d c' : Nat, p_m_lengthOf v (nI i) = nI d ∧ 1 ≤ d ∧ d ≤ 6 ∧ c ≤ c' ∧ c' ≤ c + 1 ∧ ST n (L + d) c' u v (p_writeInstruction u (nI i)) (p_m_emitInstruction v (nI i)) := by
  have hn : n ≤ 48 := h.1.1
  have cl : (nI i).toNatClampNeg = i := nI_cl (by omega)
  have hv : vp_in (nI i) 48 := vp_in_nI (by omega) (by omega)
  obtain ⟨f1, f2, f3⟩ := copy_rel h (by omega) ha
  obtain ⟨a1, a2, a3⟩ := put_rel (x := 57088) (y := 57088) f3.1 (by omega) rfl
  refine ⟨?_, ?_, 2, c, ?_, by omega, by omega, by omega, by omega, ?_⟩
  · unfold ok_writeInstruction
    rw [cl, kU, eA]
    exact ⟨hv, hv, hv, hv, hv, ⟨fun q => absurd q (by decide), fun _ => ⟨fun q => absurd q (by decide), fun _ => ⟨fun q => absurd q (by decide), fun _ => ⟨fun q => absurd q (by decide), fun _ => ⟨fun q => absurd q (by decide), fun _ => ⟨fun q => absurd q (by decide), fun _ => ⟨fun _ => ⟨f1, a1, trivial⟩, fun q => absurd rfl q⟩⟩⟩⟩⟩⟩⟩⟩
  · unfold ok_m_emitInstruction
    rw [cl, kV, e1]
    exact ⟨hv, ⟨fun q => absurd q (by decide), fun _ => ⟨fun q => absurd q (by decide), fun _ => ⟨fun q => absurd q (by decide), fun _ => ⟨fun q => absurd q (by decide), fun _ => ⟨fun q => absurd q (by decide), fun _ => ⟨fun q => absurd q (by decide), fun _ => ⟨fun _ => ⟨hv, f2, a2, trivial⟩, fun q => absurd rfl q⟩⟩⟩⟩⟩⟩⟩⟩
  · unfold p_m_lengthOf
    rw [cl, kV, if_neg (show ¬ (6 : Int32) = 0 by decide), if_neg (show ¬ (6 : Int32) = 1 by decide), if_neg (show ¬ (6 : Int32) = 2 by decide), if_neg (show ¬ (6 : Int32) = 3 by decide), if_neg (show ¬ (6 : Int32) = 5 by decide), if_pos rfl]
    rfl
  · unfold p_writeInstruction p_m_emitInstruction
    rw [cl, kU, kV, if_neg (show ¬ (6 : Int32) = 0 by decide), if_neg (show ¬ (6 : Int32) = 1 by decide), if_neg (show ¬ (6 : Int32) = 2 by decide), if_neg (show ¬ (6 : Int32) = 3 by decide), if_neg (show ¬ (6 : Int32) = 4 by decide), if_neg (show ¬ (6 : Int32) = 5 by decide), if_pos rfl, if_neg (show ¬ (6 : Int32) = 0 by decide), if_neg (show ¬ (6 : Int32) = 1 by decide), if_neg (show ¬ (6 : Int32) = 2 by decide), if_neg (show ¬ (6 : Int32) = 3 by decide), if_neg (show ¬ (6 : Int32) = 4 by decide), if_neg (show ¬ (6 : Int32) = 5 by decide), if_pos rfl, eA, e1]
    exact ST_tr f3 a3
theorem ins_7 {n L c i : Nat} {u v : St} (h : SM n L c u v) (hw : WH n u) (hi : i < n) (hL : L + 6 ≤ 388) (hc : c ≤ 48) (kU : u.2 0 i = 7) (kV : v.2 0 i = 7)  : ok_writeInstruction u (nI i) ∧ ok_m_emitInstruction v (nI i) ∧ ∃ d c' : Nat, p_m_lengthOf v (nI i) = nI d ∧ 1 ≤ d ∧ d ≤ 6 ∧ c ≤ c' ∧ c' ≤ c + 1 ∧ ST n (L + d) c' u v (p_writeInstruction u (nI i)) (p_m_emitInstruction v (nI i)) := by
  have hn : n ≤ 48 := h.1.1
  have cl : (nI i).toNatClampNeg = i := nI_cl (by omega)
  have hv : vp_in (nI i) 48 := vp_in_nI (by omega) (by omega)
  obtain ⟨a1, a2, a3⟩ := put_rel (x := 57089) (y := 57089) h (by omega) rfl
  refine ⟨?_, ?_, 1, c, ?_, by omega, by omega, by omega, by omega, ?_⟩
  · unfold ok_writeInstruction
    rw [cl, kU]
    exact ⟨hv, hv, hv, hv, hv, ⟨fun q => absurd q (by decide), fun _ => ⟨fun q => absurd q (by decide), fun _ => ⟨fun q => absurd q (by decide), fun _ => ⟨fun q => absurd q (by decide), fun _ => ⟨fun q => absurd q (by decide), fun _ => ⟨fun q => absurd q (by decide), fun _ => ⟨fun q => absurd q (by decide), fun _ => ⟨fun _ => ⟨a1, trivial⟩, fun q => absurd rfl q⟩⟩⟩⟩⟩⟩⟩⟩⟩
  · unfold ok_m_emitInstruction
    rw [cl, kV]
    exact ⟨hv, ⟨fun q => absurd q (by decide), fun _ => ⟨fun q => absurd q (by decide), fun _ => ⟨fun q => absurd q (by decide), fun _ => ⟨fun q => absurd q (by decide), fun _ => ⟨fun q => absurd q (by decide), fun _ => ⟨fun q => absurd q (by decide), fun _ => ⟨fun q => absurd q (by decide), fun _ => ⟨hv, fun _ => ⟨a2, trivial⟩, fun q => absurd rfl q⟩⟩⟩⟩⟩⟩⟩⟩⟩
  · unfold p_m_lengthOf
    rw [cl, kV, if_neg (show ¬ (7 : Int32) = 0 by decide), if_neg (show ¬ (7 : Int32) = 1 by decide), if_neg (show ¬ (7 : Int32) = 2 by decide), if_neg (show ¬ (7 : Int32) = 3 by decide), if_neg (show ¬ (7 : Int32) = 5 by decide), if_neg (show ¬ (7 : Int32) = 6 by decide)]
    rfl
  · unfold p_writeInstruction p_m_emitInstruction
    rw [cl, kU, kV, if_neg (show ¬ (7 : Int32) = 0 by decide), if_neg (show ¬ (7 : Int32) = 1 by decide), if_neg (show ¬ (7 : Int32) = 2 by decide), if_neg (show ¬ (7 : Int32) = 3 by decide), if_neg (show ¬ (7 : Int32) = 4 by decide), if_neg (show ¬ (7 : Int32) = 5 by decide), if_neg (show ¬ (7 : Int32) = 6 by decide), if_pos rfl, if_neg (show ¬ (7 : Int32) = 0 by decide), if_neg (show ¬ (7 : Int32) = 1 by decide), if_neg (show ¬ (7 : Int32) = 2 by decide), if_neg (show ¬ (7 : Int32) = 3 by decide), if_neg (show ¬ (7 : Int32) = 4 by decide), if_neg (show ¬ (7 : Int32) = 5 by decide), if_neg (show ¬ (7 : Int32) = 6 by decide), if_pos rfl]
    exact a3
theorem ins_8 {n L c i : Nat} {u v : St} (h : SM n L c u v) (hw : WH n u) (hi : i < n) (hL : L + 6 ≤ 388) (hc : c ≤ 48) (kU : u.2 0 i = 8) (kV : v.2 0 i = 8) (e1 : v.2 1 i = u.2 5 i) : ok_writeInstruction u (nI i) ∧ ok_m_emitInstruction v (nI i) ∧ ∃ d c' : Nat, p_m_lengthOf v (nI i) = nI d ∧ 1 ≤ d ∧ d ≤ 6 ∧ c ≤ c' ∧ c' ≤ c + 1 ∧ ST n (L + d) c' u v (p_writeInstruction u (nI i)) (p_m_emitInstruction v (nI i)) := by
  have hn : n ≤ 48 := h.1.1
  have cl : (nI i).toNatClampNeg = i := nI_cl (by omega)
  have hv : vp_in (nI i) 48 := vp_in_nI (by omega) (by omega)
  obtain ⟨a1, a2, a3⟩ := put_rel (x := 56832 + u.2 5 i) (y := 56832 + u.2 5 i) h (by omega) rfl
  refine ⟨?_, ?_, 1, c, ?_, by omega, by omega, by omega, by omega, ?_⟩
  · unfold ok_writeInstruction
    rw [cl, kU]
    exact ⟨hv, hv, hv, hv, hv, ⟨fun q => absurd q (by decide), fun _ => ⟨fun q => absurd q (by decide), fun _ => ⟨fun q => absurd q (by decide), fun _ => ⟨fun q => absurd q (by decide), fun _ => ⟨fun q => absurd q (by decide), fun _ => ⟨fun q => absurd q (by decide), fun _ => ⟨fun q => absurd q (by decide), fun _ => ⟨fun q => absurd q (by decide), fun _ => ⟨a1, trivial⟩⟩⟩⟩⟩⟩⟩⟩⟩⟩
  · unfold ok_m_emitInstruction
    rw [cl, kV, e1]
    exact ⟨hv, ⟨fun q => absurd q (by decide), fun _ => ⟨fun q => absurd q (by decide), fun _ => ⟨fun q => absurd q (by decide), fun _ => ⟨fun q => absurd q (by decide), fun _ => ⟨fun q => absurd q (by decide), fun _ => ⟨fun q => absurd q (by decide), fun _ => ⟨fun q => absurd q (by decide), fun _ => ⟨hv, fun q => absurd q (by decide), fun _ => ⟨hv, a2, trivial⟩⟩⟩⟩⟩⟩⟩⟩⟩⟩
  · unfold p_m_lengthOf
    rw [cl, kV, if_neg (show ¬ (8 : Int32) = 0 by decide), if_neg (show ¬ (8 : Int32) = 1 by decide), if_neg (show ¬ (8 : Int32) = 2 by decide), if_neg (show ¬ (8 : Int32) = 3 by decide), if_neg (show ¬ (8 : Int32) = 5 by decide), if_neg (show ¬ (8 : Int32) = 6 by decide)]
    rfl
  · unfold p_writeInstruction p_m_emitInstruction
    rw [cl, kU, kV, if_neg (show ¬ (8 : Int32) = 0 by decide), if_neg (show ¬ (8 : Int32) = 1 by decide), if_neg (show ¬ (8 : Int32) = 2 by decide), if_neg (show ¬ (8 : Int32) = 3 by decide), if_neg (show ¬ (8 : Int32) = 4 by decide), if_neg (show ¬ (8 : Int32) = 5 by decide), if_neg (show ¬ (8 : Int32) = 6 by decide), if_neg (show ¬ (8 : Int32) = 7 by decide), if_neg (show ¬ (8 : Int32) = 0 by decide), if_neg (show ¬ (8 : Int32) = 1 by decide), if_neg (show ¬ (8 : Int32) = 2 by decide), if_neg (show ¬ (8 : Int32) = 3 by decide), if_neg (show ¬ (8 : Int32) = 4 by decide), if_neg (show ¬ (8 : Int32) = 5 by decide), if_neg (show ¬ (8 : Int32) = 6 by decide), if_neg (show ¬ (8 : Int32) = 7 by decide), e1]
    exact a3
theorem ins_rel {n L c i : Nat} {u v : St} (h : SM n L c u v) (hw : WH n u) (hi : i < n) (hL : L + 6 ≤ 388) (hc : c ≤ 48) : ok_writeInstruction u (nI i) ∧ ok_m_emitInstruction v (nI i) ∧ ∃ d c' : Nat, p_m_lengthOf v (nI i) = nI d ∧ 1 ≤ d ∧ d ≤ 6 ∧ c ≤ c' ∧ c' ≤ c + 1 ∧ ST n (L + d) c' u v (p_writeInstruction u (nI i)) (p_m_emitInstruction v (nI i)) := by
  obtain ⟨hK, ⟨d, hd, eD⟩, ⟨a, ha, eA⟩, ⟨b, hb, eB⟩, hc9⟩ := h.1.2.2.2 i hi
  have ht := hw.2.2 i hi
  rcases hc9 with ⟨k, e1, e2⟩ | ⟨k, e1, e2, e3, e4, o, ho, eC⟩ | ⟨k, e1, e2⟩ | ⟨k, e1, e2⟩ | ⟨k, e1, -⟩ | ⟨k, e1, e2, e3, e4, -⟩ | ⟨k, e1⟩ | k | ⟨k, e1⟩
  · exact ins_0 h hw hi hL hc k (hK.symm.trans k) hd eD e1 (e2.trans eD)
  · exact ins_1 h hw hi hL hc k (hK.symm.trans k) ho hd ha hb eC eD eA eB (e1.trans eC) (e2.trans eD) (e3.trans eA) (e4.trans eB)
  · exact ins_2 h hw hi hL hc k (hK.symm.trans k) hd ha eD eA (e1.trans eD) (e2.trans eA)
  · exact ins_3 h hw hi hL hc k (hK.symm.trans k) ha hb eA eB (e1.trans eA) (e2.trans eB)
  · obtain ⟨t, t1, t2⟩ := ht (Or.inl k)
    exact ins_4 h hw hi hL hc k (hK.symm.trans k) t1 t2 (e1.trans t2)
  · obtain ⟨t, t1, t2⟩ := ht (Or.inr k)
    exact ins_5 h hw hi hL hc k (hK.symm.trans k) ha hb t1 eA eB t2 e1 (e2.trans eA) (e3.trans eB) (e4.trans t2)
  · exact ins_6 h hw hi hL hc k (hK.symm.trans k) ha eA (e1.trans eA)
  · exact ins_7 h hw hi hL hc k (hK.symm.trans k)
  · exact ins_8 h hw hi hL hc k (hK.symm.trans k) e1
