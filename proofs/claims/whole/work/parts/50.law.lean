theorem tb_SW {a b : Cond} {own : String} {i : Nat} {y : MethodName} (h1 : Cond.methodLink own i y ∈ tbG) (h2 : Cond.static y ∈ tbG) (h4 : Cond.initialized y.cls ∈ tbG) (h : b ∈ tbG) : GoodIn (a :: tbG) (va_wsS own i y (b :: tbG)) :=
  tb_cn (tb_c h1) (tb_gd h1) (tb_cn (tb_c h2) (tb_gd h2) (tb_cn (tb_c h4) (tb_gd h4) (tb_ok h)))
theorem l_ix {i L : Nat} (j : Int32) (jn : Nat) (hj : j = nI jn) (h : i + jn < L) (hL : L ≤ 2560) : vp_in (nI i + j) L := by
  rw [hj, nI_add]
  exact vp_in_nI h (by omega)
theorem l_cmp (x : Int64) : lg_cmp x x = 0 := by
  simp [lg_cmp]
theorem l_pT (a : va_W) (o : Nat × va_E) (t : va_W) : (a ++ (o :: t)).Perm ((a ++ [o]) ++ t) := List.Perm.of_eq (by simp)
theorem l_pT' (a : va_W) (o : Nat × va_E) (t : va_W) : ((a ++ [o]) ++ t).Perm (a ++ (o :: t)) := List.Perm.of_eq (by simp)
theorem l_n0 {c : Nat} (h : c ≤ 2) (h0 : nI c = 0) : c = 0 := (nI_eq (a := c) (b := 0) (by omega) (by omega)).mp h0
theorem l_a0 {c : Nat} (h0 : la1 c = 0) : c = 0 := by
  unfold la1 at h0
  rcases Nat.eq_zero_or_pos c with h | h
  · exact h
  · rw [if_neg (by omega)] at h0
    exact absurd h0 (by decide)
/-- what holds all along the law -/
def lcx (p : Program) (l : Launch) (s : State) (m : MethodId) (c : Code) (b L : Nat) (xs : Nat → Int32) (D : va_G) (cI cZ cJ : ClassId) (zz : (Nat → Prop) → State → Heap → Prop) (tS : Nat) : Prop :=
  p.tables.exec = Jvm.exec ∧ c.code = cL_law ∧ c.maxLocals = 7 ∧ s.vm.findClass RL = some m.cls ∧ (∀ w ∈ Cond.initialized "ThumbForge" :: tbG, w.before #[Value.ref b] s = true) ∧ va_X b L xs s s.heap ∧ b < s.heap.size ∧ va_K D vwCl (tyL cI cZ cJ) s ∧ zz (fun q : Nat => s.heap.size ≤ q) s s.heap ∧ l.stackTraces = false ∧ Zok zz ∧ Zst zz tS ∧ Zxs zz ∧ Znc zz
abbrev wL (ad am : Nat → Nat) (cI cZ cJ : ClassId) (ao : Nat) (f : Nat → Int64) (u v : St) : va_W := wM am cI cZ v ++ wO ad cI cZ cJ ao f u
abbrev lll (b ao : Nat) (ad am : Nat → Nat) (i : Nat) : List (Nat × Value) := [(0, .ref b), (1, .ref (ad 0)), (2, .ref (am 0)), (3, .ref ao), (4, .int (nI i))]
def sx_constant (RR : Nat → St → St → Prop) : Prop := ∀ (k : Nat) (u v : St) (x1 x2 : Int32), k < 512 → RR k u v → ok_constant u x1 x2 ∧ ok_m_constant v x1 x2 ∧ (p_constant u x1 x2).1 ≤ 2 ∧ (p_m_constant v x1 x2).2.1 0 = nI (p_constant u x1 x2).1 ∧ ((p_constant u x1 x2).1 = 0 → (p_constant u x1 x2).2.1 = (p_m_constant v x1 x2).1) ∧ RR (k + 1) (p_constant u x1 x2).2.2 (p_m_constant v x1 x2).2
def sx_compute (RR : Nat → St → St → Prop) : Prop := ∀ (k : Nat) (u v : St) (x1 x2 x3 x4 : Int32), k < 512 → RR k u v → ok_compute u x1 x2 x3 x4 ∧ ok_m_compute v x1 x2 x3 x4 ∧ (p_compute u x1 x2 x3 x4).1 ≤ 2 ∧ (p_m_compute v x1 x2 x3 x4).2.1 0 = nI (p_compute u x1 x2 x3 x4).1 ∧ ((p_compute u x1 x2 x3 x4).1 = 0 → (p_compute u x1 x2 x3 x4).2.1 = (p_m_compute v x1 x2 x3 x4).1) ∧ RR (k + 1) (p_compute u x1 x2 x3 x4).2.2 (p_m_compute v x1 x2 x3 x4).2
def sx_load (RR : Nat → St → St → Prop) : Prop := ∀ (k : Nat) (u v : St) (x1 x2 : Int32), k < 512 → RR k u v → ok_load u x1 x2 ∧ ok_m_load v x1 x2 ∧ (p_load u x1 x2).1 ≤ 2 ∧ (p_m_load v x1 x2).2.1 0 = nI (p_load u x1 x2).1 ∧ ((p_load u x1 x2).1 = 0 → (p_load u x1 x2).2.1 = (p_m_load v x1 x2).1) ∧ RR (k + 1) (p_load u x1 x2).2.2 (p_m_load v x1 x2).2
def sx_store (RR : Nat → St → St → Prop) : Prop := ∀ (k : Nat) (u v : St) (x1 x2 : Int32), k < 512 → RR k u v → ok_store u x1 x2 ∧ ok_m_store v x1 x2 ∧ (p_store u x1 x2).1 ≤ 2 ∧ (p_m_store v x1 x2).2.1 0 = nI (p_store u x1 x2).1 ∧ ((p_store u x1 x2).1 = 0 → (p_store u x1 x2).2.1 = (p_m_store v x1 x2).1) ∧ RR (k + 1) (p_store u x1 x2).2.2 (p_m_store v x1 x2).2
def sx_jump (RR : Nat → St → St → Prop) : Prop := ∀ (k : Nat) (u v : St) (x1 : Int32), k < 512 → RR k u v → ok_jump u x1 ∧ ok_m_jump v x1 ∧ (p_jump u x1).1 ≤ 2 ∧ (p_m_jump v x1).2.1 0 = nI (p_jump u x1).1 ∧ ((p_jump u x1).1 = 0 → (p_jump u x1).2.1 = (p_m_jump v x1).1) ∧ RR (k + 1) (p_jump u x1).2.2 (p_m_jump v x1).2
def sx_branch (RR : Nat → St → St → Prop) : Prop := ∀ (k : Nat) (u v : St) (x1 x2 x3 x4 : Int32), k < 512 → RR k u v → ok_branch u x1 x2 x3 x4 ∧ ok_m_branch v x1 x2 x3 x4 ∧ (p_branch u x1 x2 x3 x4).1 ≤ 2 ∧ (p_m_branch v x1 x2 x3 x4).2.1 0 = nI (p_branch u x1 x2 x3 x4).1 ∧ ((p_branch u x1 x2 x3 x4).1 = 0 → (p_branch u x1 x2 x3 x4).2.1 = (p_m_branch v x1 x2 x3 x4).1) ∧ RR (k + 1) (p_branch u x1 x2 x3 x4).2.2 (p_m_branch v x1 x2 x3 x4).2
def sx_out (RR : Nat → St → St → Prop) : Prop := ∀ (k : Nat) (u v : St) (x1 : Int32), k < 512 → RR k u v → ok_out u x1 ∧ ok_m_out v x1 ∧ (p_out u x1).1 ≤ 2 ∧ (p_m_out v x1).2.1 0 = nI (p_out u x1).1 ∧ ((p_out u x1).1 = 0 → (p_out u x1).2.1 = (p_m_out v x1).1) ∧ RR (k + 1) (p_out u x1).2.2 (p_m_out v x1).2
def sx_stop (RR : Nat → St → St → Prop) : Prop := ∀ (k : Nat) (u v : St) (x1 : Int32), k < 512 → RR k u v → ok_stop u x1 ∧ ok_m_stop v x1 ∧ (p_stop u x1).1 ≤ 2 ∧ (p_m_stop v x1).2.1 0 = nI (p_stop u x1).1 ∧ ((p_stop u x1).1 = 0 → (p_stop u x1).2.1 = (p_m_stop v x1).1) ∧ RR (k + 1) (p_stop u x1).2.2 (p_m_stop v x1).2
def sx_clear (RR : Nat → St → St → Prop) : Prop := ∀ (k : Nat) (u v : St), k < 512 → RR k u v → RR (k + 1) (p_clear u) (p_m_clear v)
def sx_forge (RR : Nat → St → St → Prop) : Prop := ∀ (k : Nat) (u v : St), k < 512 → RR k u v → ok_forge u ∧ ok_m_forge v ∧ ((p_forge u).1 = 0 ∨ (p_forge u).1 = 2) ∧ (p_m_forge v).2.1 0 = la1 (p_forge u).1 ∧ ((p_forge u).1 = 0 → (p_forge u).2.1 = (p_m_forge v).1) ∧ RR (k + 1) (p_forge u).2.2 (p_m_forge v).2
def sx_halfword (RR : Nat → St → St → Prop) : Prop := ∀ (k : Nat) (u v : St) (x1 : Int32), k < 512 → RR k u v → ok_halfword u x1 ∧ ok_m_halfword v x1 ∧ ((p_halfword u x1).1 = 0 ∨ (p_halfword u x1).1 = 3) ∧ (p_m_halfword v x1).2.1 0 = la1 (p_halfword u x1).1 ∧ ((p_halfword u x1).1 = 0 → (p_halfword u x1).2.1 = (p_m_halfword v x1).1) ∧ RR (k + 1) (p_halfword u x1).2.2 (p_m_halfword v x1).2
def sx_place (RR : Nat → St → St → Prop) : Prop := ∀ (k : Nat) (u v : St) (x1 : Int32), k < 512 → RR k u v → ok_place u x1 ∧ ok_m_place v x1 ∧ ((p_place u x1).1 = 0 ∨ (p_place u x1).1 = 3) ∧ (p_m_place v x1).2.1 0 = la1 (p_place u x1).1 ∧ ((p_place u x1).1 = 0 → (p_place u x1).2.1 = (p_m_place v x1).1) ∧ RR (k + 1) (p_place u x1).2.2 (p_m_place v x1).2
def sx_poke (RR : Nat → St → St → Prop) : Prop := ∀ (k : Nat) (u v : St) (x1 x2 : Int32), k < 512 → RR k u v → ok_poke u x1 x2 ∧ ok_m_poke v x1 x2 ∧ ((p_poke u x1 x2).1 = 0 ∨ (p_poke u x1 x2).1 = 1) ∧ (p_m_poke v x1 x2).1 0 = la1 (p_poke u x1 x2).1 ∧ RR (k + 1) (p_poke u x1 x2).2.2 (p_m_poke v x1 x2)
def sx_memory (RR : Nat → St → St → Prop) : Prop := ∀ (k : Nat) (u v : St) (x1 : Int32), k < 512 → RR k u v → ok_memory u x1 ∧ ok_m_memory v x1 ∧ ((p_memory u x1).1 = 0 ∨ (p_memory u x1).1 = 1) ∧ (p_m_memory v x1).2.1 0 = la1 (p_memory u x1).1 ∧ ((p_memory u x1).1 = 0 → (p_memory u x1).2.1 = (p_m_memory v x1).1) ∧ RR (k + 1) (p_memory u x1).2.2 (p_m_memory v x1).2
def sx_start (RR : Nat → St → St → Prop) : Prop := ∀ (k : Nat) (u v : St), k < 512 → RR k u v → ok_start u ∧ ok_m_start v ∧ ((p_start u).1 = 0 ∨ (p_start u).1 = 2) ∧ (p_m_start v).1 0 = la1 (p_start u).1 ∧ RR (k + 1) (p_start u).2.2 (p_m_start v)
def sx_run (RR : Nat → St → St → Prop) : Prop := ∀ (k : Nat) (u v : St) (x1 : Int32), k < 512 → RR k u v → ok_run u x1 ∧ ok_m_run v x1 ∧ (p_run u x1).1 ≤ 2 ∧ (p_m_run v x1).2.1 0 = nI (p_run u x1).1 ∧ ((p_run u x1).1 = 0 → (p_run u x1).2.1 = (p_m_run v x1).1) ∧ RR (k + 1) (p_run u x1).2.2 (p_m_run v x1).2
def sx_state (RR : Nat → St → St → Prop) : Prop := ∀ (k : Nat) (u v : St), k < 512 → RR k u v → p_state u = (p_m_state v).1 ∧ RR (k + 1) u (p_m_state v).2
def sx_at (RR : Nat → St → St → Prop) : Prop := ∀ (k : Nat) (u v : St), k < 512 → RR k u v → p_at_ u = (p_m_at v).1 ∧ RR (k + 1) u (p_m_at v).2
def sx_variable (RR : Nat → St → St → Prop) : Prop := ∀ (k : Nat) (u v : St) (x1 : Int32), k < 512 → RR k u v → ok_variable u x1 ∧ ok_m_variable v x1 ∧ (p_variable u x1).1 ≤ 2 ∧ (p_m_variable v x1).2.1 0 = nI (p_variable u x1).1 ∧ ((p_variable u x1).1 = 0 → (p_variable u x1).2.1 = (p_m_variable v x1).1) ∧ RR (k + 1) (p_variable u x1).2.2 (p_m_variable v x1).2
def sx_outputs (RR : Nat → St → St → Prop) : Prop := ∀ (k : Nat) (u v : St), k < 512 → RR k u v → p_outputs u = (p_m_outputs v).1 ∧ RR (k + 1) u (p_m_outputs v).2
def sx_output (RR : Nat → St → St → Prop) : Prop := ∀ (k : Nat) (u v : St) (x1 : Int32), k < 512 → RR k u v → ok_output u x1 ∧ ok_m_output v x1 ∧ ((p_output u x1).1 = 0 ∨ (p_output u x1).1 = 3) ∧ (p_m_output v x1).2.1 0 = la1 (p_output u x1).1 ∧ ((p_output u x1).1 = 0 → (p_output u x1).2.1 = (p_m_output v x1).1) ∧ RR (k + 1) (p_output u x1).2.2 (p_m_output v x1).2
set_option maxHeartbeats 4000000 in
set_option maxRecDepth 100000 in
theorem lc_constant {p : Program} {l : Launch} {e : Env} {s : State} {m : MethodId} {below : List Frame} {meth : Method} {c : Code} {b L : Nat} {xs : Nat → Int32} {D : va_G} {cI cZ cJ : ClassId} {zz : (Nat → Prop) → State → Heap → Prop} {tS : Nat} {RR : Nat → St → St → Prop} {Q : State → Prop} (hsim : sx_constant RR) (Cx : lcx p l s m c b L xs D cI cZ cJ zz tS) (hL : L ≤ 2560) (ad am : Nat → Nat) (ao k : Nat) (hk : 5 * k + 5 ≤ L) (f : Nat → Int64) (u v : St) (H : Heap) (locs : List Loc) (ls : Array Slot) (hR : RR k u v) (hP : va_P D vwCl (wL ad am cI cZ cJ ao f u v) H) (hD : va_D (fun q : Nat => s.heap.size ≤ q) (wL ad am cI cZ cJ ao f u v)) (hS : va_S (fun q : Nat => s.heap.size ≤ q) s.heap H locs) (hl : lv_has ls 7 (lll b ao ad am (5 * k))) (K : ∀ (f : Nat → Int64) (u v : St) (H : Heap) (locs : List Loc) (ls : Array Slot), RR (k + 1) u v → va_P D vwCl (wL ad am cI cZ cJ ao f u v) H → va_D (fun q : Nat => s.heap.size ≤ q) (wL ad am cI cZ cJ ao f u v) → va_S (fun q : Nat => s.heap.size ≤ q) s.heap H locs → lv_has ls 7 (lll b ao ad am (5 * k)) → W p l e room_1 s m #[Value.ref b] below meth c H locs (31 + (k + 1)) (1723 + 6 * (k + 1)) Q (F0 m 1194 ls [])) : W p l e room_1 s m #[Value.ref b] below meth c H locs (31 + k) (1723 + 6 * k) Q (F0 m 136 ls []) := by
  obtain ⟨hx, hb, hml, hown, htsG, hXs, hbl, hK, hZ, hlt, hzz, hst, hxs, hnc⟩ := Cx
  have hA : ∀ q : Nat, s.heap.size ≤ q → (fun q : Nat => s.heap.size ≤ q) q := fun _ h => h
  have hbA : ¬ (fun q : Nat => s.heap.size ≤ q) b := Nat.not_le.mpr hbl
  have hKT := hK.sub (tys' := tyT cI cZ) [0, 1] rfl
  have hi1 : vp_in (nI (5 * k) + 1) L := l_ix 1 1 rfl (by omega) hL
  have hi2 : vp_in (nI (5 * k) + 2) L := l_ix 2 2 rfl (by omega) hL
  obtain ⟨ok1, ok2, hcd, hth, hrs, hR1⟩ := hsim k u v (xs (nI (5 * k) + 1).toNatClampNeg) (xs (nI (5 * k) + 2).toNatClampNeg) (by omega) hR
  refine lv_aload_n hx hb dL_law_136 rfl (lv_at hl 1 rfl) ?_
  refine lv_aload_n hx hb dL_law_137 rfl (lv_at hl 0 rfl) ?_
  refine lv_iload hx hb dL_law_138 (lv_at hl 4 rfl) ?_
  refine lv_iconst (v := 1) hx hb dL_law_140 (by decide) ?_
  refine lv_iadd hx hb dL_law_141 ?_
  refine va_sld hx hb hXs hbl hbA hS hi1 dL_law_142 ?_
  refine lv_aload_n hx hb dL_law_143 rfl (lv_at hl 0 rfl) ?_
  refine lv_iload hx hb dL_law_144 (lv_at hl 4 rfl) ?_
  refine lv_iconst (v := 2) hx hb dL_law_146 (by decide) ?_
  refine lv_iadd hx hb dL_law_147 ?_
  refine va_sld hx hb hXs hbl hbA hS hi2 dL_law_148 ?_
  refine lv_aload_n hx hb dL_law_149 rfl (lv_at hl 3 rfl) ?_
  refine g_callSW (As := [.ref (ad 0), .int (xs (nI (5 * k) + 1).toNatClampNeg), .int (xs (nI (5 * k) + 2).toNatClampNeg), .ref ao]) (rest := []) (wr := wM am cI cZ v) (w := wO ad cI cZ cJ ao f u) (wb := (wL ad am cI cZ cJ ao (lf f (p_constant u (xs (nI (5 * k) + 1).toNatClampNeg) (xs (nI (5 * k) + 2).toNatClampNeg)).1 (p_constant u (xs (nI (5 * k) + 1).toNatClampNeg) (xs (nI (5 * k) + 2).toNatClampNeg)).2.1) (p_constant u (xs (nI (5 * k) + 1).toNatClampNeg) (xs (nI (5 * k) + 2).toNatClampNeg)).2.2 v)) hzz ⟨hx, hb, hml, hown, htsG⟩ (ct_constant l hlt D ad cI cZ zz hzz tS hst hxs hnc cJ ao f u (xs (nI (5 * k) + 1).toNatClampNeg) (xs (nI (5 * k) + 2).toNatClampNeg) ok1 hcd) (vx_cwSW 4 htsG (tb_SW tw_1_181 tw_1_182 tw_1_0 tw_1_183) rfl rfl rfl (by decide +kernel) ⟨Nat.le_of_ble_eq_true rfl, Nat.le_of_ble_eq_true rfl⟩) rfl hl.1 rfl (lv_room (Nat.le_of_ble_eq_true rfl)) dL_law_150 ⟨by show 31 + k + 1 ≤ 1070; omega, by show 1723 + 6 * k + 6 ≤ 10005; omega⟩ (List.Perm.refl _) (List.Perm.refl _) hP hK hD hS hA hZ (fun H locs hP hD hS => ?_)
  refine W.widen (k := 31 + (k + 1)) (n := 1723 + 6 * (k + 1)) (by omega) (by omega) ?_
  generalize eu1 : (p_constant u (xs (nI (5 * k) + 1).toNatClampNeg) (xs (nI (5 * k) + 2).toNatClampNeg)).2.2 = u1 at hP hD hR1
  generalize ef1 : (lf f (p_constant u (xs (nI (5 * k) + 1).toNatClampNeg) (xs (nI (5 * k) + 2).toNatClampNeg)).1 (p_constant u (xs (nI (5 * k) + 1).toNatClampNeg) (xs (nI (5 * k) + 2).toNatClampNeg)).2.1) = f1 at hP hD
  refine lv_istore (lv' := [(5, .int (nI (p_constant u (xs (nI (5 * k) + 1).toNatClampNeg) (xs (nI (5 * k) + 2).toNatClampNeg)).1)), (0, .ref b), (1, .ref (ad 0)), (2, .ref (am 0)), (3, .ref ao), (4, .int (nI (5 * k)))]) hx hb dL_law_153 hl (by decide) rfl (fun ls hl => ?_)
  refine lv_aload_n hx hb dL_law_155 rfl (lv_at hl 3 rfl) ?_
  refine lv_aload_n hx hb dL_law_156 rfl (lv_at hl 1 rfl) ?_
  refine lv_iload hx hb dL_law_157 (lv_at hl 5 rfl) ?_
  refine lv_iconst (v := 1) hx hb dL_law_159 (by decide) ?_
  refine lv_iadd hx hb dL_law_160 ?_
  refine va_sld hx hb hXs hbl hbA hS hi1 dL_law_161 ?_
  refine lv_aload_n hx hb dL_law_162 rfl (lv_at hl 1 rfl) ?_
  refine lv_iload hx hb dL_law_163 (lv_at hl 5 rfl) ?_
  refine lv_iconst (v := 2) hx hb dL_law_165 (by decide) ?_
  refine lv_iadd hx hb dL_law_166 ?_
  refine va_sld hx hb hXs hbl hbA hS hi2 dL_law_167 ?_
  refine g_callVi (As := [.int (xs (nI (5 * k) + 1).toNatClampNeg), .int (xs (nI (5 * k) + 2).toNatClampNeg)]) (rest := []) (wr := wO ad cI cZ cJ ao f1 u1) (w := wM am cI cZ v) (wb := (wL ad am cI cZ cJ ao f1 u1 (p_m_constant v ((xs (nI (5 * k) + 1).toNatClampNeg)) ((xs (nI (5 * k) + 2).toNatClampNeg))).2)) hzz ⟨hx, hb, hml, hown, htsG⟩ (c_m_constant l D am cI cZ zz hzz v ((xs (nI (5 * k) + 1).toNatClampNeg)) ((xs (nI (5 * k) + 2).toNatClampNeg)) ok2) (cwV 2 htsG (tb_V tw_3_172 tw_3_173 tw_3_174 tw_1_5 tw_3_175) rfl rfl rfl (by decide +kernel) ⟨Nat.le_of_ble_eq_true rfl, Nat.le_of_ble_eq_true rfl⟩) (va_recv hK hP (ci := 4) (q0 := 0) rfl rfl) rfl hl.1 rfl (lv_room (Nat.le_of_ble_eq_true rfl)) dL_law_168 ⟨by show 31 + (k + 1) + 0 ≤ 1070; omega, by show 1723 + 6 * (k + 1) + 0 ≤ 10005; omega⟩ List.perm_append_comm List.perm_append_comm hP hKT hD hS hA hZ (fun H locs hP hD hS => ?_)
  generalize ev1 : (p_m_constant v ((xs (nI (5 * k) + 1).toNatClampNeg)) ((xs (nI (5 * k) + 2).toNatClampNeg))).2 = v1 at hP hD hR1 hth
  refine lv_istore (lv' := [(6, .int (p_m_constant v ((xs (nI (5 * k) + 1).toNatClampNeg)) ((xs (nI (5 * k) + 2).toNatClampNeg))).1), (5, .int (nI (p_constant u (xs (nI (5 * k) + 1).toNatClampNeg) (xs (nI (5 * k) + 2).toNatClampNeg)).1)), (0, .ref b), (1, .ref (ad 0)), (2, .ref (am 0)), (3, .ref ao), (4, .int (nI (5 * k)))]) hx hb dL_law_171 hl (by decide) rfl (fun ls hl => ?_)
  refine lv_aload_n hx hb dL_law_173 rfl (lv_at hl 4 rfl) ?_
  refine g_callVi (As := []) (rest := []) (wr := wO ad cI cZ cJ ao f1 u1) (w := wM am cI cZ v1) (wb := (wL ad am cI cZ cJ ao f1 u1 v1)) hzz ⟨hx, hb, hml, hown, htsG⟩ (c_m_thrown l D am cI cZ zz hzz v1) (cwV 0 htsG (tb_V tw_3_168 tw_3_169 tw_3_170 tw_1_5 tw_3_171) rfl rfl rfl (by decide +kernel) ⟨Nat.le_of_ble_eq_true rfl, Nat.le_of_ble_eq_true rfl⟩) (va_recv hK hP (ci := 4) (q0 := 0) rfl rfl) rfl hl.1 rfl (lv_room (Nat.le_of_ble_eq_true rfl)) dL_law_174 ⟨by show 31 + (k + 1) + 0 ≤ 1070; omega, by show 1723 + 6 * (k + 1) + 0 ≤ 10005; omega⟩ List.perm_append_comm List.perm_append_comm hP hKT hD hS hA hZ (fun H locs hP hD hS => ?_)
  refine lv_iload hx hb dL_law_177 (lv_at hl 1 rfl) ?_
  refine lv_icmp_eq (tgt := 184) hx hb dL_law_179 (by decide) (fun c_1 => ?_) (fun c_1 => absurd hth c_1)
  refine lv_iload hx hb dL_law_184 (lv_at hl 1 rfl) ?_
  refine lv_if_ne (tgt := 201) hx hb dL_law_186 (by decide) (fun c_2 => ?_) (fun c_2 => ?_)
  · skip
    refine lv_goto (tgt := 1194) hx hb dL_law_201 (by decide) ?_
    exact K _ _ _ _ _ _ hR1 hP hD hS (lv_sub hl [2, 3, 4, 5, 6] rfl)
  · skip
    have hc0 : (p_constant u (xs (nI (5 * k) + 1).toNatClampNeg) (xs (nI (5 * k) + 2).toNatClampNeg)).1 = 0 := l_n0 hcd c_2
    refine lv_aload_n hx hb dL_law_189 rfl (lv_at hl 5 rfl) ?_
    refine lv_iconst (v := 0) hx hb dL_law_190 (by decide) ?_
    refine va_lald (f := f1) hx hb hK hP 13 2 rfl rfl l_in0 dL_law_191 ?_
    refine lv_iload hx hb dL_law_192 (lv_at hl 0 rfl) ?_
    refine lv_i2l (v := Int32.toInt64 (p_m_constant v ((xs (nI (5 * k) + 1).toNatClampNeg)) ((xs (nI (5 * k) + 2).toNatClampNeg))).1) hx hb dL_law_194 rfl ?_
    refine W.lcmp hx hb dL_law_195 ?_
    refine lv_if_eq (tgt := 201) hx hb dL_law_196 (by decide) (fun c_3 => ?_) (fun c_3 => absurd (by rw [← ef1, show (lf f (p_constant u (xs (nI (5 * k) + 1).toNatClampNeg) (xs (nI (5 * k) + 2).toNatClampNeg)).1 (p_constant u (xs (nI (5 * k) + 1).toNatClampNeg) (xs (nI (5 * k) + 2).toNatClampNeg)).2.1) = vp_updL f (0 : Int32).toNatClampNeg (Int32.toInt64 (p_constant u (xs (nI (5 * k) + 1).toNatClampNeg) (xs (nI (5 * k) + 2).toNatClampNeg)).2.1) from if_pos hc0, pk_uLs, hrs hc0]; exact l_cmp _) c_3)
    refine lv_goto (tgt := 1194) hx hb dL_law_201 (by decide) ?_
    exact K _ _ _ _ _ _ hR1 hP hD hS (lv_sub hl [2, 3, 4, 5, 6] rfl)
set_option maxHeartbeats 4000000 in
set_option maxRecDepth 100000 in
theorem lc_compute {p : Program} {l : Launch} {e : Env} {s : State} {m : MethodId} {below : List Frame} {meth : Method} {c : Code} {b L : Nat} {xs : Nat → Int32} {D : va_G} {cI cZ cJ : ClassId} {zz : (Nat → Prop) → State → Heap → Prop} {tS : Nat} {RR : Nat → St → St → Prop} {Q : State → Prop} (hsim : sx_compute RR) (Cx : lcx p l s m c b L xs D cI cZ cJ zz tS) (hL : L ≤ 2560) (ad am : Nat → Nat) (ao k : Nat) (hk : 5 * k + 5 ≤ L) (f : Nat → Int64) (u v : St) (H : Heap) (locs : List Loc) (ls : Array Slot) (hR : RR k u v) (hP : va_P D vwCl (wL ad am cI cZ cJ ao f u v) H) (hD : va_D (fun q : Nat => s.heap.size ≤ q) (wL ad am cI cZ cJ ao f u v)) (hS : va_S (fun q : Nat => s.heap.size ≤ q) s.heap H locs) (hl : lv_has ls 7 (lll b ao ad am (5 * k))) (K : ∀ (f : Nat → Int64) (u v : St) (H : Heap) (locs : List Loc) (ls : Array Slot), RR (k + 1) u v → va_P D vwCl (wL ad am cI cZ cJ ao f u v) H → va_D (fun q : Nat => s.heap.size ≤ q) (wL ad am cI cZ cJ ao f u v) → va_S (fun q : Nat => s.heap.size ≤ q) s.heap H locs → lv_has ls 7 (lll b ao ad am (5 * k)) → W p l e room_1 s m #[Value.ref b] below meth c H locs (31 + (k + 1)) (1723 + 6 * (k + 1)) Q (F0 m 1194 ls [])) : W p l e room_1 s m #[Value.ref b] below meth c H locs (31 + k) (1723 + 6 * k) Q (F0 m 204 ls []) := by
  obtain ⟨hx, hb, hml, hown, htsG, hXs, hbl, hK, hZ, hlt, hzz, hst, hxs, hnc⟩ := Cx
  have hA : ∀ q : Nat, s.heap.size ≤ q → (fun q : Nat => s.heap.size ≤ q) q := fun _ h => h
  have hbA : ¬ (fun q : Nat => s.heap.size ≤ q) b := Nat.not_le.mpr hbl
  have hKT := hK.sub (tys' := tyT cI cZ) [0, 1] rfl
  have hi1 : vp_in (nI (5 * k) + 1) L := l_ix 1 1 rfl (by omega) hL
  have hi2 : vp_in (nI (5 * k) + 2) L := l_ix 2 2 rfl (by omega) hL
  have hi3 : vp_in (nI (5 * k) + 3) L := l_ix 3 3 rfl (by omega) hL
  have hi4 : vp_in (nI (5 * k) + 4) L := l_ix 4 4 rfl (by omega) hL
  obtain ⟨ok1, ok2, hcd, hth, hrs, hR1⟩ := hsim k u v (xs (nI (5 * k) + 1).toNatClampNeg) (xs (nI (5 * k) + 2).toNatClampNeg) (xs (nI (5 * k) + 3).toNatClampNeg) (xs (nI (5 * k) + 4).toNatClampNeg) (by omega) hR
  refine lv_aload_n hx hb dL_law_204 rfl (lv_at hl 1 rfl) ?_
  refine lv_aload_n hx hb dL_law_205 rfl (lv_at hl 0 rfl) ?_
  refine lv_iload hx hb dL_law_206 (lv_at hl 4 rfl) ?_
  refine lv_iconst (v := 1) hx hb dL_law_208 (by decide) ?_
  refine lv_iadd hx hb dL_law_209 ?_
  refine va_sld hx hb hXs hbl hbA hS hi1 dL_law_210 ?_
  refine lv_aload_n hx hb dL_law_211 rfl (lv_at hl 0 rfl) ?_
  refine lv_iload hx hb dL_law_212 (lv_at hl 4 rfl) ?_
  refine lv_iconst (v := 2) hx hb dL_law_214 (by decide) ?_
  refine lv_iadd hx hb dL_law_215 ?_
  refine va_sld hx hb hXs hbl hbA hS hi2 dL_law_216 ?_
  refine lv_aload_n hx hb dL_law_217 rfl (lv_at hl 0 rfl) ?_
  refine lv_iload hx hb dL_law_218 (lv_at hl 4 rfl) ?_
  refine lv_iconst (v := 3) hx hb dL_law_220 (by decide) ?_
  refine lv_iadd hx hb dL_law_221 ?_
  refine va_sld hx hb hXs hbl hbA hS hi3 dL_law_222 ?_
  refine lv_aload_n hx hb dL_law_223 rfl (lv_at hl 0 rfl) ?_
  refine lv_iload hx hb dL_law_224 (lv_at hl 4 rfl) ?_
  refine lv_iconst (v := 4) hx hb dL_law_226 (by decide) ?_
  refine lv_iadd hx hb dL_law_227 ?_
  refine va_sld hx hb hXs hbl hbA hS hi4 dL_law_228 ?_
  refine lv_aload_n hx hb dL_law_229 rfl (lv_at hl 3 rfl) ?_
  refine g_callSW (As := [.ref (ad 0), .int (xs (nI (5 * k) + 1).toNatClampNeg), .int (xs (nI (5 * k) + 2).toNatClampNeg), .int (xs (nI (5 * k) + 3).toNatClampNeg), .int (xs (nI (5 * k) + 4).toNatClampNeg), .ref ao]) (rest := []) (wr := wM am cI cZ v) (w := wO ad cI cZ cJ ao f u) (wb := (wL ad am cI cZ cJ ao (lf f (p_compute u (xs (nI (5 * k) + 1).toNatClampNeg) (xs (nI (5 * k) + 2).toNatClampNeg) (xs (nI (5 * k) + 3).toNatClampNeg) (xs (nI (5 * k) + 4).toNatClampNeg)).1 (p_compute u (xs (nI (5 * k) + 1).toNatClampNeg) (xs (nI (5 * k) + 2).toNatClampNeg) (xs (nI (5 * k) + 3).toNatClampNeg) (xs (nI (5 * k) + 4).toNatClampNeg)).2.1) (p_compute u (xs (nI (5 * k) + 1).toNatClampNeg) (xs (nI (5 * k) + 2).toNatClampNeg) (xs (nI (5 * k) + 3).toNatClampNeg) (xs (nI (5 * k) + 4).toNatClampNeg)).2.2 v)) hzz ⟨hx, hb, hml, hown, htsG⟩ (ct_compute l hlt D ad cI cZ zz hzz tS hst hxs hnc cJ ao f u (xs (nI (5 * k) + 1).toNatClampNeg) (xs (nI (5 * k) + 2).toNatClampNeg) (xs (nI (5 * k) + 3).toNatClampNeg) (xs (nI (5 * k) + 4).toNatClampNeg) ok1 hcd) (vx_cwSW 6 htsG (tb_SW tw_2_45 tw_2_46 tw_1_0 tw_2_47) rfl rfl rfl (by decide +kernel) ⟨Nat.le_of_ble_eq_true rfl, Nat.le_of_ble_eq_true rfl⟩) rfl hl.1 rfl (lv_room (Nat.le_of_ble_eq_true rfl)) dL_law_230 ⟨by show 31 + k + 1 ≤ 1070; omega, by show 1723 + 6 * k + 6 ≤ 10005; omega⟩ (List.Perm.refl _) (List.Perm.refl _) hP hK hD hS hA hZ (fun H locs hP hD hS => ?_)
  refine W.widen (k := 31 + (k + 1)) (n := 1723 + 6 * (k + 1)) (by omega) (by omega) ?_
  generalize eu1 : (p_compute u (xs (nI (5 * k) + 1).toNatClampNeg) (xs (nI (5 * k) + 2).toNatClampNeg) (xs (nI (5 * k) + 3).toNatClampNeg) (xs (nI (5 * k) + 4).toNatClampNeg)).2.2 = u1 at hP hD hR1
  generalize ef1 : (lf f (p_compute u (xs (nI (5 * k) + 1).toNatClampNeg) (xs (nI (5 * k) + 2).toNatClampNeg) (xs (nI (5 * k) + 3).toNatClampNeg) (xs (nI (5 * k) + 4).toNatClampNeg)).1 (p_compute u (xs (nI (5 * k) + 1).toNatClampNeg) (xs (nI (5 * k) + 2).toNatClampNeg) (xs (nI (5 * k) + 3).toNatClampNeg) (xs (nI (5 * k) + 4).toNatClampNeg)).2.1) = f1 at hP hD
  refine lv_istore (lv' := [(5, .int (nI (p_compute u (xs (nI (5 * k) + 1).toNatClampNeg) (xs (nI (5 * k) + 2).toNatClampNeg) (xs (nI (5 * k) + 3).toNatClampNeg) (xs (nI (5 * k) + 4).toNatClampNeg)).1)), (0, .ref b), (1, .ref (ad 0)), (2, .ref (am 0)), (3, .ref ao), (4, .int (nI (5 * k)))]) hx hb dL_law_233 hl (by decide) rfl (fun ls hl => ?_)
  refine lv_aload_n hx hb dL_law_235 rfl (lv_at hl 3 rfl) ?_
  refine lv_aload_n hx hb dL_law_236 rfl (lv_at hl 1 rfl) ?_
  refine lv_iload hx hb dL_law_237 (lv_at hl 5 rfl) ?_
  refine lv_iconst (v := 1) hx hb dL_law_239 (by decide) ?_
  refine lv_iadd hx hb dL_law_240 ?_
  refine va_sld hx hb hXs hbl hbA hS hi1 dL_law_241 ?_
  refine lv_aload_n hx hb dL_law_242 rfl (lv_at hl 1 rfl) ?_
  refine lv_iload hx hb dL_law_243 (lv_at hl 5 rfl) ?_
  refine lv_iconst (v := 2) hx hb dL_law_245 (by decide) ?_
  refine lv_iadd hx hb dL_law_246 ?_
  refine va_sld hx hb hXs hbl hbA hS hi2 dL_law_247 ?_
  refine lv_aload_n hx hb dL_law_248 rfl (lv_at hl 1 rfl) ?_
  refine lv_iload hx hb dL_law_249 (lv_at hl 5 rfl) ?_
  refine lv_iconst (v := 3) hx hb dL_law_251 (by decide) ?_
  refine lv_iadd hx hb dL_law_252 ?_
  refine va_sld hx hb hXs hbl hbA hS hi3 dL_law_253 ?_
  refine lv_aload_n hx hb dL_law_254 rfl (lv_at hl 1 rfl) ?_
  refine lv_iload hx hb dL_law_255 (lv_at hl 5 rfl) ?_
  refine lv_iconst (v := 4) hx hb dL_law_257 (by decide) ?_
  refine lv_iadd hx hb dL_law_258 ?_
  refine va_sld hx hb hXs hbl hbA hS hi4 dL_law_259 ?_
  refine g_callVi (As := [.int (xs (nI (5 * k) + 1).toNatClampNeg), .int (xs (nI (5 * k) + 2).toNatClampNeg), .int (xs (nI (5 * k) + 3).toNatClampNeg), .int (xs (nI (5 * k) + 4).toNatClampNeg)]) (rest := []) (wr := wO ad cI cZ cJ ao f1 u1) (w := wM am cI cZ v) (wb := (wL ad am cI cZ cJ ao f1 u1 (p_m_compute v ((xs (nI (5 * k) + 1).toNatClampNeg)) ((xs (nI (5 * k) + 2).toNatClampNeg)) ((xs (nI (5 * k) + 3).toNatClampNeg)) ((xs (nI (5 * k) + 4).toNatClampNeg))).2)) hzz ⟨hx, hb, hml, hown, htsG⟩ (c_m_compute l D am cI cZ zz hzz v ((xs (nI (5 * k) + 1).toNatClampNeg)) ((xs (nI (5 * k) + 2).toNatClampNeg)) ((xs (nI (5 * k) + 3).toNatClampNeg)) ((xs (nI (5 * k) + 4).toNatClampNeg)) ok2) (cwV 4 htsG (tb_V tw_3_183 tw_3_184 tw_3_185 tw_1_5 tw_3_186) rfl rfl rfl (by decide +kernel) ⟨Nat.le_of_ble_eq_true rfl, Nat.le_of_ble_eq_true rfl⟩) (va_recv hK hP (ci := 4) (q0 := 0) rfl rfl) rfl hl.1 rfl (lv_room (Nat.le_of_ble_eq_true rfl)) dL_law_260 ⟨by show 31 + (k + 1) + 0 ≤ 1070; omega, by show 1723 + 6 * (k + 1) + 0 ≤ 10005; omega⟩ List.perm_append_comm List.perm_append_comm hP hKT hD hS hA hZ (fun H locs hP hD hS => ?_)
  generalize ev1 : (p_m_compute v ((xs (nI (5 * k) + 1).toNatClampNeg)) ((xs (nI (5 * k) + 2).toNatClampNeg)) ((xs (nI (5 * k) + 3).toNatClampNeg)) ((xs (nI (5 * k) + 4).toNatClampNeg))).2 = v1 at hP hD hR1 hth
  refine lv_istore (lv' := [(6, .int (p_m_compute v ((xs (nI (5 * k) + 1).toNatClampNeg)) ((xs (nI (5 * k) + 2).toNatClampNeg)) ((xs (nI (5 * k) + 3).toNatClampNeg)) ((xs (nI (5 * k) + 4).toNatClampNeg))).1), (5, .int (nI (p_compute u (xs (nI (5 * k) + 1).toNatClampNeg) (xs (nI (5 * k) + 2).toNatClampNeg) (xs (nI (5 * k) + 3).toNatClampNeg) (xs (nI (5 * k) + 4).toNatClampNeg)).1)), (0, .ref b), (1, .ref (ad 0)), (2, .ref (am 0)), (3, .ref ao), (4, .int (nI (5 * k)))]) hx hb dL_law_263 hl (by decide) rfl (fun ls hl => ?_)
  refine lv_aload_n hx hb dL_law_265 rfl (lv_at hl 4 rfl) ?_
  refine g_callVi (As := []) (rest := []) (wr := wO ad cI cZ cJ ao f1 u1) (w := wM am cI cZ v1) (wb := (wL ad am cI cZ cJ ao f1 u1 v1)) hzz ⟨hx, hb, hml, hown, htsG⟩ (c_m_thrown l D am cI cZ zz hzz v1) (cwV 0 htsG (tb_V tw_3_168 tw_3_169 tw_3_170 tw_1_5 tw_3_171) rfl rfl rfl (by decide +kernel) ⟨Nat.le_of_ble_eq_true rfl, Nat.le_of_ble_eq_true rfl⟩) (va_recv hK hP (ci := 4) (q0 := 0) rfl rfl) rfl hl.1 rfl (lv_room (Nat.le_of_ble_eq_true rfl)) dL_law_266 ⟨by show 31 + (k + 1) + 0 ≤ 1070; omega, by show 1723 + 6 * (k + 1) + 0 ≤ 10005; omega⟩ List.perm_append_comm List.perm_append_comm hP hKT hD hS hA hZ (fun H locs hP hD hS => ?_)
  refine lv_iload hx hb dL_law_269 (lv_at hl 1 rfl) ?_
  refine lv_icmp_eq (tgt := 276) hx hb dL_law_271 (by decide) (fun c_1 => ?_) (fun c_1 => absurd hth c_1)
  refine lv_iload hx hb dL_law_276 (lv_at hl 1 rfl) ?_
  refine lv_if_ne (tgt := 293) hx hb dL_law_278 (by decide) (fun c_2 => ?_) (fun c_2 => ?_)
  · skip
    refine lv_goto (tgt := 1194) hx hb dL_law_293 (by decide) ?_
    exact K _ _ _ _ _ _ hR1 hP hD hS (lv_sub hl [2, 3, 4, 5, 6] rfl)
  · skip
    have hc0 : (p_compute u (xs (nI (5 * k) + 1).toNatClampNeg) (xs (nI (5 * k) + 2).toNatClampNeg) (xs (nI (5 * k) + 3).toNatClampNeg) (xs (nI (5 * k) + 4).toNatClampNeg)).1 = 0 := l_n0 hcd c_2
    refine lv_aload_n hx hb dL_law_281 rfl (lv_at hl 5 rfl) ?_
    refine lv_iconst (v := 0) hx hb dL_law_282 (by decide) ?_
    refine va_lald (f := f1) hx hb hK hP 13 2 rfl rfl l_in0 dL_law_283 ?_
    refine lv_iload hx hb dL_law_284 (lv_at hl 0 rfl) ?_
    refine lv_i2l (v := Int32.toInt64 (p_m_compute v ((xs (nI (5 * k) + 1).toNatClampNeg)) ((xs (nI (5 * k) + 2).toNatClampNeg)) ((xs (nI (5 * k) + 3).toNatClampNeg)) ((xs (nI (5 * k) + 4).toNatClampNeg))).1) hx hb dL_law_286 rfl ?_
    refine W.lcmp hx hb dL_law_287 ?_
    refine lv_if_eq (tgt := 293) hx hb dL_law_288 (by decide) (fun c_3 => ?_) (fun c_3 => absurd (by rw [← ef1, show (lf f (p_compute u (xs (nI (5 * k) + 1).toNatClampNeg) (xs (nI (5 * k) + 2).toNatClampNeg) (xs (nI (5 * k) + 3).toNatClampNeg) (xs (nI (5 * k) + 4).toNatClampNeg)).1 (p_compute u (xs (nI (5 * k) + 1).toNatClampNeg) (xs (nI (5 * k) + 2).toNatClampNeg) (xs (nI (5 * k) + 3).toNatClampNeg) (xs (nI (5 * k) + 4).toNatClampNeg)).2.1) = vp_updL f (0 : Int32).toNatClampNeg (Int32.toInt64 (p_compute u (xs (nI (5 * k) + 1).toNatClampNeg) (xs (nI (5 * k) + 2).toNatClampNeg) (xs (nI (5 * k) + 3).toNatClampNeg) (xs (nI (5 * k) + 4).toNatClampNeg)).2.1) from if_pos hc0, pk_uLs, hrs hc0]; exact l_cmp _) c_3)
    refine lv_goto (tgt := 1194) hx hb dL_law_293 (by decide) ?_
    exact K _ _ _ _ _ _ hR1 hP hD hS (lv_sub hl [2, 3, 4, 5, 6] rfl)
set_option maxHeartbeats 4000000 in
set_option maxRecDepth 100000 in
theorem lc_load {p : Program} {l : Launch} {e : Env} {s : State} {m : MethodId} {below : List Frame} {meth : Method} {c : Code} {b L : Nat} {xs : Nat → Int32} {D : va_G} {cI cZ cJ : ClassId} {zz : (Nat → Prop) → State → Heap → Prop} {tS : Nat} {RR : Nat → St → St → Prop} {Q : State → Prop} (hsim : sx_load RR) (Cx : lcx p l s m c b L xs D cI cZ cJ zz tS) (hL : L ≤ 2560) (ad am : Nat → Nat) (ao k : Nat) (hk : 5 * k + 5 ≤ L) (f : Nat → Int64) (u v : St) (H : Heap) (locs : List Loc) (ls : Array Slot) (hR : RR k u v) (hP : va_P D vwCl (wL ad am cI cZ cJ ao f u v) H) (hD : va_D (fun q : Nat => s.heap.size ≤ q) (wL ad am cI cZ cJ ao f u v)) (hS : va_S (fun q : Nat => s.heap.size ≤ q) s.heap H locs) (hl : lv_has ls 7 (lll b ao ad am (5 * k))) (K : ∀ (f : Nat → Int64) (u v : St) (H : Heap) (locs : List Loc) (ls : Array Slot), RR (k + 1) u v → va_P D vwCl (wL ad am cI cZ cJ ao f u v) H → va_D (fun q : Nat => s.heap.size ≤ q) (wL ad am cI cZ cJ ao f u v) → va_S (fun q : Nat => s.heap.size ≤ q) s.heap H locs → lv_has ls 7 (lll b ao ad am (5 * k)) → W p l e room_1 s m #[Value.ref b] below meth c H locs (31 + (k + 1)) (1723 + 6 * (k + 1)) Q (F0 m 1194 ls [])) : W p l e room_1 s m #[Value.ref b] below meth c H locs (31 + k) (1723 + 6 * k) Q (F0 m 296 ls []) := by
  obtain ⟨hx, hb, hml, hown, htsG, hXs, hbl, hK, hZ, hlt, hzz, hst, hxs, hnc⟩ := Cx
  have hA : ∀ q : Nat, s.heap.size ≤ q → (fun q : Nat => s.heap.size ≤ q) q := fun _ h => h
  have hbA : ¬ (fun q : Nat => s.heap.size ≤ q) b := Nat.not_le.mpr hbl
  have hKT := hK.sub (tys' := tyT cI cZ) [0, 1] rfl
  have hi1 : vp_in (nI (5 * k) + 1) L := l_ix 1 1 rfl (by omega) hL
  have hi2 : vp_in (nI (5 * k) + 2) L := l_ix 2 2 rfl (by omega) hL
  obtain ⟨ok1, ok2, hcd, hth, hrs, hR1⟩ := hsim k u v (xs (nI (5 * k) + 1).toNatClampNeg) (xs (nI (5 * k) + 2).toNatClampNeg) (by omega) hR
  refine lv_aload_n hx hb dL_law_296 rfl (lv_at hl 1 rfl) ?_
  refine lv_aload_n hx hb dL_law_297 rfl (lv_at hl 0 rfl) ?_
  refine lv_iload hx hb dL_law_298 (lv_at hl 4 rfl) ?_
  refine lv_iconst (v := 1) hx hb dL_law_300 (by decide) ?_
  refine lv_iadd hx hb dL_law_301 ?_
  refine va_sld hx hb hXs hbl hbA hS hi1 dL_law_302 ?_
  refine lv_aload_n hx hb dL_law_303 rfl (lv_at hl 0 rfl) ?_
  refine lv_iload hx hb dL_law_304 (lv_at hl 4 rfl) ?_
  refine lv_iconst (v := 2) hx hb dL_law_306 (by decide) ?_
  refine lv_iadd hx hb dL_law_307 ?_
  refine va_sld hx hb hXs hbl hbA hS hi2 dL_law_308 ?_
  refine lv_aload_n hx hb dL_law_309 rfl (lv_at hl 3 rfl) ?_
  refine g_callSW (As := [.ref (ad 0), .int (xs (nI (5 * k) + 1).toNatClampNeg), .int (xs (nI (5 * k) + 2).toNatClampNeg), .ref ao]) (rest := []) (wr := wM am cI cZ v) (w := wO ad cI cZ cJ ao f u) (wb := (wL ad am cI cZ cJ ao (lf f (p_load u (xs (nI (5 * k) + 1).toNatClampNeg) (xs (nI (5 * k) + 2).toNatClampNeg)).1 (p_load u (xs (nI (5 * k) + 1).toNatClampNeg) (xs (nI (5 * k) + 2).toNatClampNeg)).2.1) (p_load u (xs (nI (5 * k) + 1).toNatClampNeg) (xs (nI (5 * k) + 2).toNatClampNeg)).2.2 v)) hzz ⟨hx, hb, hml, hown, htsG⟩ (ct_load l hlt D ad cI cZ zz hzz tS hst hxs hnc cJ ao f u (xs (nI (5 * k) + 1).toNatClampNeg) (xs (nI (5 * k) + 2).toNatClampNeg) ok1 hcd) (vx_cwSW 4 htsG (tb_SW tw_2_53 tw_2_54 tw_1_0 tw_2_55) rfl rfl rfl (by decide +kernel) ⟨Nat.le_of_ble_eq_true rfl, Nat.le_of_ble_eq_true rfl⟩) rfl hl.1 rfl (lv_room (Nat.le_of_ble_eq_true rfl)) dL_law_310 ⟨by show 31 + k + 1 ≤ 1070; omega, by show 1723 + 6 * k + 6 ≤ 10005; omega⟩ (List.Perm.refl _) (List.Perm.refl _) hP hK hD hS hA hZ (fun H locs hP hD hS => ?_)
  refine W.widen (k := 31 + (k + 1)) (n := 1723 + 6 * (k + 1)) (by omega) (by omega) ?_
  generalize eu1 : (p_load u (xs (nI (5 * k) + 1).toNatClampNeg) (xs (nI (5 * k) + 2).toNatClampNeg)).2.2 = u1 at hP hD hR1
  generalize ef1 : (lf f (p_load u (xs (nI (5 * k) + 1).toNatClampNeg) (xs (nI (5 * k) + 2).toNatClampNeg)).1 (p_load u (xs (nI (5 * k) + 1).toNatClampNeg) (xs (nI (5 * k) + 2).toNatClampNeg)).2.1) = f1 at hP hD
  refine lv_istore (lv' := [(5, .int (nI (p_load u (xs (nI (5 * k) + 1).toNatClampNeg) (xs (nI (5 * k) + 2).toNatClampNeg)).1)), (0, .ref b), (1, .ref (ad 0)), (2, .ref (am 0)), (3, .ref ao), (4, .int (nI (5 * k)))]) hx hb dL_law_313 hl (by decide) rfl (fun ls hl => ?_)
  refine lv_aload_n hx hb dL_law_315 rfl (lv_at hl 3 rfl) ?_
  refine lv_aload_n hx hb dL_law_316 rfl (lv_at hl 1 rfl) ?_
  refine lv_iload hx hb dL_law_317 (lv_at hl 5 rfl) ?_
  refine lv_iconst (v := 1) hx hb dL_law_319 (by decide) ?_
  refine lv_iadd hx hb dL_law_320 ?_
  refine va_sld hx hb hXs hbl hbA hS hi1 dL_law_321 ?_
  refine lv_aload_n hx hb dL_law_322 rfl (lv_at hl 1 rfl) ?_
  refine lv_iload hx hb dL_law_323 (lv_at hl 5 rfl) ?_
  refine lv_iconst (v := 2) hx hb dL_law_325 (by decide) ?_
  refine lv_iadd hx hb dL_law_326 ?_
  refine va_sld hx hb hXs hbl hbA hS hi2 dL_law_327 ?_
  refine g_callVi (As := [.int (xs (nI (5 * k) + 1).toNatClampNeg), .int (xs (nI (5 * k) + 2).toNatClampNeg)]) (rest := []) (wr := wO ad cI cZ cJ ao f1 u1) (w := wM am cI cZ v) (wb := (wL ad am cI cZ cJ ao f1 u1 (p_m_load v ((xs (nI (5 * k) + 1).toNatClampNeg)) ((xs (nI (5 * k) + 2).toNatClampNeg))).2)) hzz ⟨hx, hb, hml, hown, htsG⟩ (c_m_load l D am cI cZ zz hzz v ((xs (nI (5 * k) + 1).toNatClampNeg)) ((xs (nI (5 * k) + 2).toNatClampNeg)) ok2) (cwV 2 htsG (tb_V tw_3_187 tw_3_188 tw_3_189 tw_1_5 tw_3_190) rfl rfl rfl (by decide +kernel) ⟨Nat.le_of_ble_eq_true rfl, Nat.le_of_ble_eq_true rfl⟩) (va_recv hK hP (ci := 4) (q0 := 0) rfl rfl) rfl hl.1 rfl (lv_room (Nat.le_of_ble_eq_true rfl)) dL_law_328 ⟨by show 31 + (k + 1) + 0 ≤ 1070; omega, by show 1723 + 6 * (k + 1) + 0 ≤ 10005; omega⟩ List.perm_append_comm List.perm_append_comm hP hKT hD hS hA hZ (fun H locs hP hD hS => ?_)
  generalize ev1 : (p_m_load v ((xs (nI (5 * k) + 1).toNatClampNeg)) ((xs (nI (5 * k) + 2).toNatClampNeg))).2 = v1 at hP hD hR1 hth
  refine lv_istore (lv' := [(6, .int (p_m_load v ((xs (nI (5 * k) + 1).toNatClampNeg)) ((xs (nI (5 * k) + 2).toNatClampNeg))).1), (5, .int (nI (p_load u (xs (nI (5 * k) + 1).toNatClampNeg) (xs (nI (5 * k) + 2).toNatClampNeg)).1)), (0, .ref b), (1, .ref (ad 0)), (2, .ref (am 0)), (3, .ref ao), (4, .int (nI (5 * k)))]) hx hb dL_law_331 hl (by decide) rfl (fun ls hl => ?_)
  refine lv_aload_n hx hb dL_law_333 rfl (lv_at hl 4 rfl) ?_
  refine g_callVi (As := []) (rest := []) (wr := wO ad cI cZ cJ ao f1 u1) (w := wM am cI cZ v1) (wb := (wL ad am cI cZ cJ ao f1 u1 v1)) hzz ⟨hx, hb, hml, hown, htsG⟩ (c_m_thrown l D am cI cZ zz hzz v1) (cwV 0 htsG (tb_V tw_3_168 tw_3_169 tw_3_170 tw_1_5 tw_3_171) rfl rfl rfl (by decide +kernel) ⟨Nat.le_of_ble_eq_true rfl, Nat.le_of_ble_eq_true rfl⟩) (va_recv hK hP (ci := 4) (q0 := 0) rfl rfl) rfl hl.1 rfl (lv_room (Nat.le_of_ble_eq_true rfl)) dL_law_334 ⟨by show 31 + (k + 1) + 0 ≤ 1070; omega, by show 1723 + 6 * (k + 1) + 0 ≤ 10005; omega⟩ List.perm_append_comm List.perm_append_comm hP hKT hD hS hA hZ (fun H locs hP hD hS => ?_)
  refine lv_iload hx hb dL_law_337 (lv_at hl 1 rfl) ?_
  refine lv_icmp_eq (tgt := 344) hx hb dL_law_339 (by decide) (fun c_1 => ?_) (fun c_1 => absurd hth c_1)
  refine lv_iload hx hb dL_law_344 (lv_at hl 1 rfl) ?_
  refine lv_if_ne (tgt := 361) hx hb dL_law_346 (by decide) (fun c_2 => ?_) (fun c_2 => ?_)
  · skip
    refine lv_goto (tgt := 1194) hx hb dL_law_361 (by decide) ?_
    exact K _ _ _ _ _ _ hR1 hP hD hS (lv_sub hl [2, 3, 4, 5, 6] rfl)
  · skip
    have hc0 : (p_load u (xs (nI (5 * k) + 1).toNatClampNeg) (xs (nI (5 * k) + 2).toNatClampNeg)).1 = 0 := l_n0 hcd c_2
    refine lv_aload_n hx hb dL_law_349 rfl (lv_at hl 5 rfl) ?_
    refine lv_iconst (v := 0) hx hb dL_law_350 (by decide) ?_
    refine va_lald (f := f1) hx hb hK hP 13 2 rfl rfl l_in0 dL_law_351 ?_
    refine lv_iload hx hb dL_law_352 (lv_at hl 0 rfl) ?_
    refine lv_i2l (v := Int32.toInt64 (p_m_load v ((xs (nI (5 * k) + 1).toNatClampNeg)) ((xs (nI (5 * k) + 2).toNatClampNeg))).1) hx hb dL_law_354 rfl ?_
    refine W.lcmp hx hb dL_law_355 ?_
    refine lv_if_eq (tgt := 361) hx hb dL_law_356 (by decide) (fun c_3 => ?_) (fun c_3 => absurd (by rw [← ef1, show (lf f (p_load u (xs (nI (5 * k) + 1).toNatClampNeg) (xs (nI (5 * k) + 2).toNatClampNeg)).1 (p_load u (xs (nI (5 * k) + 1).toNatClampNeg) (xs (nI (5 * k) + 2).toNatClampNeg)).2.1) = vp_updL f (0 : Int32).toNatClampNeg (Int32.toInt64 (p_load u (xs (nI (5 * k) + 1).toNatClampNeg) (xs (nI (5 * k) + 2).toNatClampNeg)).2.1) from if_pos hc0, pk_uLs, hrs hc0]; exact l_cmp _) c_3)
    refine lv_goto (tgt := 1194) hx hb dL_law_361 (by decide) ?_
    exact K _ _ _ _ _ _ hR1 hP hD hS (lv_sub hl [2, 3, 4, 5, 6] rfl)
set_option maxHeartbeats 4000000 in
set_option maxRecDepth 100000 in
theorem lc_store {p : Program} {l : Launch} {e : Env} {s : State} {m : MethodId} {below : List Frame} {meth : Method} {c : Code} {b L : Nat} {xs : Nat → Int32} {D : va_G} {cI cZ cJ : ClassId} {zz : (Nat → Prop) → State → Heap → Prop} {tS : Nat} {RR : Nat → St → St → Prop} {Q : State → Prop} (hsim : sx_store RR) (Cx : lcx p l s m c b L xs D cI cZ cJ zz tS) (hL : L ≤ 2560) (ad am : Nat → Nat) (ao k : Nat) (hk : 5 * k + 5 ≤ L) (f : Nat → Int64) (u v : St) (H : Heap) (locs : List Loc) (ls : Array Slot) (hR : RR k u v) (hP : va_P D vwCl (wL ad am cI cZ cJ ao f u v) H) (hD : va_D (fun q : Nat => s.heap.size ≤ q) (wL ad am cI cZ cJ ao f u v)) (hS : va_S (fun q : Nat => s.heap.size ≤ q) s.heap H locs) (hl : lv_has ls 7 (lll b ao ad am (5 * k))) (K : ∀ (f : Nat → Int64) (u v : St) (H : Heap) (locs : List Loc) (ls : Array Slot), RR (k + 1) u v → va_P D vwCl (wL ad am cI cZ cJ ao f u v) H → va_D (fun q : Nat => s.heap.size ≤ q) (wL ad am cI cZ cJ ao f u v) → va_S (fun q : Nat => s.heap.size ≤ q) s.heap H locs → lv_has ls 7 (lll b ao ad am (5 * k)) → W p l e room_1 s m #[Value.ref b] below meth c H locs (31 + (k + 1)) (1723 + 6 * (k + 1)) Q (F0 m 1194 ls [])) : W p l e room_1 s m #[Value.ref b] below meth c H locs (31 + k) (1723 + 6 * k) Q (F0 m 364 ls []) := by
  obtain ⟨hx, hb, hml, hown, htsG, hXs, hbl, hK, hZ, hlt, hzz, hst, hxs, hnc⟩ := Cx
  have hA : ∀ q : Nat, s.heap.size ≤ q → (fun q : Nat => s.heap.size ≤ q) q := fun _ h => h
  have hbA : ¬ (fun q : Nat => s.heap.size ≤ q) b := Nat.not_le.mpr hbl
  have hKT := hK.sub (tys' := tyT cI cZ) [0, 1] rfl
  have hi1 : vp_in (nI (5 * k) + 1) L := l_ix 1 1 rfl (by omega) hL
  have hi2 : vp_in (nI (5 * k) + 2) L := l_ix 2 2 rfl (by omega) hL
  obtain ⟨ok1, ok2, hcd, hth, hrs, hR1⟩ := hsim k u v (xs (nI (5 * k) + 1).toNatClampNeg) (xs (nI (5 * k) + 2).toNatClampNeg) (by omega) hR
  refine lv_aload_n hx hb dL_law_364 rfl (lv_at hl 1 rfl) ?_
  refine lv_aload_n hx hb dL_law_365 rfl (lv_at hl 0 rfl) ?_
  refine lv_iload hx hb dL_law_366 (lv_at hl 4 rfl) ?_
  refine lv_iconst (v := 1) hx hb dL_law_368 (by decide) ?_
  refine lv_iadd hx hb dL_law_369 ?_
  refine va_sld hx hb hXs hbl hbA hS hi1 dL_law_370 ?_
  refine lv_aload_n hx hb dL_law_371 rfl (lv_at hl 0 rfl) ?_
  refine lv_iload hx hb dL_law_372 (lv_at hl 4 rfl) ?_
  refine lv_iconst (v := 2) hx hb dL_law_374 (by decide) ?_
  refine lv_iadd hx hb dL_law_375 ?_
  refine va_sld hx hb hXs hbl hbA hS hi2 dL_law_376 ?_
  refine lv_aload_n hx hb dL_law_377 rfl (lv_at hl 3 rfl) ?_
  refine g_callSW (As := [.ref (ad 0), .int (xs (nI (5 * k) + 1).toNatClampNeg), .int (xs (nI (5 * k) + 2).toNatClampNeg), .ref ao]) (rest := []) (wr := wM am cI cZ v) (w := wO ad cI cZ cJ ao f u) (wb := (wL ad am cI cZ cJ ao (lf f (p_store u (xs (nI (5 * k) + 1).toNatClampNeg) (xs (nI (5 * k) + 2).toNatClampNeg)).1 (p_store u (xs (nI (5 * k) + 1).toNatClampNeg) (xs (nI (5 * k) + 2).toNatClampNeg)).2.1) (p_store u (xs (nI (5 * k) + 1).toNatClampNeg) (xs (nI (5 * k) + 2).toNatClampNeg)).2.2 v)) hzz ⟨hx, hb, hml, hown, htsG⟩ (ct_store l hlt D ad cI cZ zz hzz tS hst hxs hnc cJ ao f u (xs (nI (5 * k) + 1).toNatClampNeg) (xs (nI (5 * k) + 2).toNatClampNeg) ok1 hcd) (vx_cwSW 4 htsG (tb_SW tw_2_60 tw_2_61 tw_1_0 tw_2_62) rfl rfl rfl (by decide +kernel) ⟨Nat.le_of_ble_eq_true rfl, Nat.le_of_ble_eq_true rfl⟩) rfl hl.1 rfl (lv_room (Nat.le_of_ble_eq_true rfl)) dL_law_378 ⟨by show 31 + k + 1 ≤ 1070; omega, by show 1723 + 6 * k + 6 ≤ 10005; omega⟩ (List.Perm.refl _) (List.Perm.refl _) hP hK hD hS hA hZ (fun H locs hP hD hS => ?_)
  refine W.widen (k := 31 + (k + 1)) (n := 1723 + 6 * (k + 1)) (by omega) (by omega) ?_
  generalize eu1 : (p_store u (xs (nI (5 * k) + 1).toNatClampNeg) (xs (nI (5 * k) + 2).toNatClampNeg)).2.2 = u1 at hP hD hR1
  generalize ef1 : (lf f (p_store u (xs (nI (5 * k) + 1).toNatClampNeg) (xs (nI (5 * k) + 2).toNatClampNeg)).1 (p_store u (xs (nI (5 * k) + 1).toNatClampNeg) (xs (nI (5 * k) + 2).toNatClampNeg)).2.1) = f1 at hP hD
  refine lv_istore (lv' := [(5, .int (nI (p_store u (xs (nI (5 * k) + 1).toNatClampNeg) (xs (nI (5 * k) + 2).toNatClampNeg)).1)), (0, .ref b), (1, .ref (ad 0)), (2, .ref (am 0)), (3, .ref ao), (4, .int (nI (5 * k)))]) hx hb dL_law_381 hl (by decide) rfl (fun ls hl => ?_)
  refine lv_aload_n hx hb dL_law_383 rfl (lv_at hl 3 rfl) ?_
  refine lv_aload_n hx hb dL_law_384 rfl (lv_at hl 1 rfl) ?_
  refine lv_iload hx hb dL_law_385 (lv_at hl 5 rfl) ?_
  refine lv_iconst (v := 1) hx hb dL_law_387 (by decide) ?_
  refine lv_iadd hx hb dL_law_388 ?_
  refine va_sld hx hb hXs hbl hbA hS hi1 dL_law_389 ?_
  refine lv_aload_n hx hb dL_law_390 rfl (lv_at hl 1 rfl) ?_
  refine lv_iload hx hb dL_law_391 (lv_at hl 5 rfl) ?_
  refine lv_iconst (v := 2) hx hb dL_law_393 (by decide) ?_
  refine lv_iadd hx hb dL_law_394 ?_
  refine va_sld hx hb hXs hbl hbA hS hi2 dL_law_395 ?_
  refine g_callVi (As := [.int (xs (nI (5 * k) + 1).toNatClampNeg), .int (xs (nI (5 * k) + 2).toNatClampNeg)]) (rest := []) (wr := wO ad cI cZ cJ ao f1 u1) (w := wM am cI cZ v) (wb := (wL ad am cI cZ cJ ao f1 u1 (p_m_store v ((xs (nI (5 * k) + 1).toNatClampNeg)) ((xs (nI (5 * k) + 2).toNatClampNeg))).2)) hzz ⟨hx, hb, hml, hown, htsG⟩ (c_m_store l D am cI cZ zz hzz v ((xs (nI (5 * k) + 1).toNatClampNeg)) ((xs (nI (5 * k) + 2).toNatClampNeg)) ok2) (cwV 2 htsG (tb_V tw_3_191 tw_3_192 tw_3_193 tw_1_5 tw_3_194) rfl rfl rfl (by decide +kernel) ⟨Nat.le_of_ble_eq_true rfl, Nat.le_of_ble_eq_true rfl⟩) (va_recv hK hP (ci := 4) (q0 := 0) rfl rfl) rfl hl.1 rfl (lv_room (Nat.le_of_ble_eq_true rfl)) dL_law_396 ⟨by show 31 + (k + 1) + 0 ≤ 1070; omega, by show 1723 + 6 * (k + 1) + 0 ≤ 10005; omega⟩ List.perm_append_comm List.perm_append_comm hP hKT hD hS hA hZ (fun H locs hP hD hS => ?_)
  generalize ev1 : (p_m_store v ((xs (nI (5 * k) + 1).toNatClampNeg)) ((xs (nI (5 * k) + 2).toNatClampNeg))).2 = v1 at hP hD hR1 hth
  refine lv_istore (lv' := [(6, .int (p_m_store v ((xs (nI (5 * k) + 1).toNatClampNeg)) ((xs (nI (5 * k) + 2).toNatClampNeg))).1), (5, .int (nI (p_store u (xs (nI (5 * k) + 1).toNatClampNeg) (xs (nI (5 * k) + 2).toNatClampNeg)).1)), (0, .ref b), (1, .ref (ad 0)), (2, .ref (am 0)), (3, .ref ao), (4, .int (nI (5 * k)))]) hx hb dL_law_399 hl (by decide) rfl (fun ls hl => ?_)
  refine lv_aload_n hx hb dL_law_401 rfl (lv_at hl 4 rfl) ?_
  refine g_callVi (As := []) (rest := []) (wr := wO ad cI cZ cJ ao f1 u1) (w := wM am cI cZ v1) (wb := (wL ad am cI cZ cJ ao f1 u1 v1)) hzz ⟨hx, hb, hml, hown, htsG⟩ (c_m_thrown l D am cI cZ zz hzz v1) (cwV 0 htsG (tb_V tw_3_168 tw_3_169 tw_3_170 tw_1_5 tw_3_171) rfl rfl rfl (by decide +kernel) ⟨Nat.le_of_ble_eq_true rfl, Nat.le_of_ble_eq_true rfl⟩) (va_recv hK hP (ci := 4) (q0 := 0) rfl rfl) rfl hl.1 rfl (lv_room (Nat.le_of_ble_eq_true rfl)) dL_law_402 ⟨by show 31 + (k + 1) + 0 ≤ 1070; omega, by show 1723 + 6 * (k + 1) + 0 ≤ 10005; omega⟩ List.perm_append_comm List.perm_append_comm hP hKT hD hS hA hZ (fun H locs hP hD hS => ?_)
  refine lv_iload hx hb dL_law_405 (lv_at hl 1 rfl) ?_
  refine lv_icmp_eq (tgt := 412) hx hb dL_law_407 (by decide) (fun c_1 => ?_) (fun c_1 => absurd hth c_1)
  refine lv_iload hx hb dL_law_412 (lv_at hl 1 rfl) ?_
  refine lv_if_ne (tgt := 429) hx hb dL_law_414 (by decide) (fun c_2 => ?_) (fun c_2 => ?_)
  · skip
    refine lv_goto (tgt := 1194) hx hb dL_law_429 (by decide) ?_
    exact K _ _ _ _ _ _ hR1 hP hD hS (lv_sub hl [2, 3, 4, 5, 6] rfl)
  · skip
    have hc0 : (p_store u (xs (nI (5 * k) + 1).toNatClampNeg) (xs (nI (5 * k) + 2).toNatClampNeg)).1 = 0 := l_n0 hcd c_2
    refine lv_aload_n hx hb dL_law_417 rfl (lv_at hl 5 rfl) ?_
    refine lv_iconst (v := 0) hx hb dL_law_418 (by decide) ?_
    refine va_lald (f := f1) hx hb hK hP 13 2 rfl rfl l_in0 dL_law_419 ?_
    refine lv_iload hx hb dL_law_420 (lv_at hl 0 rfl) ?_
    refine lv_i2l (v := Int32.toInt64 (p_m_store v ((xs (nI (5 * k) + 1).toNatClampNeg)) ((xs (nI (5 * k) + 2).toNatClampNeg))).1) hx hb dL_law_422 rfl ?_
    refine W.lcmp hx hb dL_law_423 ?_
    refine lv_if_eq (tgt := 429) hx hb dL_law_424 (by decide) (fun c_3 => ?_) (fun c_3 => absurd (by rw [← ef1, show (lf f (p_store u (xs (nI (5 * k) + 1).toNatClampNeg) (xs (nI (5 * k) + 2).toNatClampNeg)).1 (p_store u (xs (nI (5 * k) + 1).toNatClampNeg) (xs (nI (5 * k) + 2).toNatClampNeg)).2.1) = vp_updL f (0 : Int32).toNatClampNeg (Int32.toInt64 (p_store u (xs (nI (5 * k) + 1).toNatClampNeg) (xs (nI (5 * k) + 2).toNatClampNeg)).2.1) from if_pos hc0, pk_uLs, hrs hc0]; exact l_cmp _) c_3)
    refine lv_goto (tgt := 1194) hx hb dL_law_429 (by decide) ?_
    exact K _ _ _ _ _ _ hR1 hP hD hS (lv_sub hl [2, 3, 4, 5, 6] rfl)
set_option maxHeartbeats 4000000 in
set_option maxRecDepth 100000 in
theorem lc_jump {p : Program} {l : Launch} {e : Env} {s : State} {m : MethodId} {below : List Frame} {meth : Method} {c : Code} {b L : Nat} {xs : Nat → Int32} {D : va_G} {cI cZ cJ : ClassId} {zz : (Nat → Prop) → State → Heap → Prop} {tS : Nat} {RR : Nat → St → St → Prop} {Q : State → Prop} (hsim : sx_jump RR) (Cx : lcx p l s m c b L xs D cI cZ cJ zz tS) (hL : L ≤ 2560) (ad am : Nat → Nat) (ao k : Nat) (hk : 5 * k + 5 ≤ L) (f : Nat → Int64) (u v : St) (H : Heap) (locs : List Loc) (ls : Array Slot) (hR : RR k u v) (hP : va_P D vwCl (wL ad am cI cZ cJ ao f u v) H) (hD : va_D (fun q : Nat => s.heap.size ≤ q) (wL ad am cI cZ cJ ao f u v)) (hS : va_S (fun q : Nat => s.heap.size ≤ q) s.heap H locs) (hl : lv_has ls 7 (lll b ao ad am (5 * k))) (K : ∀ (f : Nat → Int64) (u v : St) (H : Heap) (locs : List Loc) (ls : Array Slot), RR (k + 1) u v → va_P D vwCl (wL ad am cI cZ cJ ao f u v) H → va_D (fun q : Nat => s.heap.size ≤ q) (wL ad am cI cZ cJ ao f u v) → va_S (fun q : Nat => s.heap.size ≤ q) s.heap H locs → lv_has ls 7 (lll b ao ad am (5 * k)) → W p l e room_1 s m #[Value.ref b] below meth c H locs (31 + (k + 1)) (1723 + 6 * (k + 1)) Q (F0 m 1194 ls [])) : W p l e room_1 s m #[Value.ref b] below meth c H locs (31 + k) (1723 + 6 * k) Q (F0 m 432 ls []) := by
  obtain ⟨hx, hb, hml, hown, htsG, hXs, hbl, hK, hZ, hlt, hzz, hst, hxs, hnc⟩ := Cx
  have hA : ∀ q : Nat, s.heap.size ≤ q → (fun q : Nat => s.heap.size ≤ q) q := fun _ h => h
  have hbA : ¬ (fun q : Nat => s.heap.size ≤ q) b := Nat.not_le.mpr hbl
  have hKT := hK.sub (tys' := tyT cI cZ) [0, 1] rfl
  have hi1 : vp_in (nI (5 * k) + 1) L := l_ix 1 1 rfl (by omega) hL
  obtain ⟨ok1, ok2, hcd, hth, hrs, hR1⟩ := hsim k u v (xs (nI (5 * k) + 1).toNatClampNeg) (by omega) hR
  refine lv_aload_n hx hb dL_law_432 rfl (lv_at hl 1 rfl) ?_
  refine lv_aload_n hx hb dL_law_433 rfl (lv_at hl 0 rfl) ?_
  refine lv_iload hx hb dL_law_434 (lv_at hl 4 rfl) ?_
  refine lv_iconst (v := 1) hx hb dL_law_436 (by decide) ?_
  refine lv_iadd hx hb dL_law_437 ?_
  refine va_sld hx hb hXs hbl hbA hS hi1 dL_law_438 ?_
  refine lv_aload_n hx hb dL_law_439 rfl (lv_at hl 3 rfl) ?_
  refine g_callSW (As := [.ref (ad 0), .int (xs (nI (5 * k) + 1).toNatClampNeg), .ref ao]) (rest := []) (wr := wM am cI cZ v) (w := wO ad cI cZ cJ ao f u) (wb := (wL ad am cI cZ cJ ao (lf f (p_jump u (xs (nI (5 * k) + 1).toNatClampNeg)).1 (p_jump u (xs (nI (5 * k) + 1).toNatClampNeg)).2.1) (p_jump u (xs (nI (5 * k) + 1).toNatClampNeg)).2.2 v)) hzz ⟨hx, hb, hml, hown, htsG⟩ (ct_jump l hlt D ad cI cZ zz hzz tS hst hxs hnc cJ ao f u (xs (nI (5 * k) + 1).toNatClampNeg) ok1 hcd) (vx_cwSW 3 htsG (tb_SW tw_2_67 tw_2_68 tw_1_0 tw_2_69) rfl rfl rfl (by decide +kernel) ⟨Nat.le_of_ble_eq_true rfl, Nat.le_of_ble_eq_true rfl⟩) rfl hl.1 rfl (lv_room (Nat.le_of_ble_eq_true rfl)) dL_law_440 ⟨by show 31 + k + 1 ≤ 1070; omega, by show 1723 + 6 * k + 6 ≤ 10005; omega⟩ (List.Perm.refl _) (List.Perm.refl _) hP hK hD hS hA hZ (fun H locs hP hD hS => ?_)
  refine W.widen (k := 31 + (k + 1)) (n := 1723 + 6 * (k + 1)) (by omega) (by omega) ?_
  generalize eu1 : (p_jump u (xs (nI (5 * k) + 1).toNatClampNeg)).2.2 = u1 at hP hD hR1
  generalize ef1 : (lf f (p_jump u (xs (nI (5 * k) + 1).toNatClampNeg)).1 (p_jump u (xs (nI (5 * k) + 1).toNatClampNeg)).2.1) = f1 at hP hD
  refine lv_istore (lv' := [(5, .int (nI (p_jump u (xs (nI (5 * k) + 1).toNatClampNeg)).1)), (0, .ref b), (1, .ref (ad 0)), (2, .ref (am 0)), (3, .ref ao), (4, .int (nI (5 * k)))]) hx hb dL_law_443 hl (by decide) rfl (fun ls hl => ?_)
  refine lv_aload_n hx hb dL_law_445 rfl (lv_at hl 3 rfl) ?_
  refine lv_aload_n hx hb dL_law_446 rfl (lv_at hl 1 rfl) ?_
  refine lv_iload hx hb dL_law_447 (lv_at hl 5 rfl) ?_
  refine lv_iconst (v := 1) hx hb dL_law_449 (by decide) ?_
  refine lv_iadd hx hb dL_law_450 ?_
  refine va_sld hx hb hXs hbl hbA hS hi1 dL_law_451 ?_
  refine g_callVi (As := [.int (xs (nI (5 * k) + 1).toNatClampNeg)]) (rest := []) (wr := wO ad cI cZ cJ ao f1 u1) (w := wM am cI cZ v) (wb := (wL ad am cI cZ cJ ao f1 u1 (p_m_jump v ((xs (nI (5 * k) + 1).toNatClampNeg))).2)) hzz ⟨hx, hb, hml, hown, htsG⟩ (c_m_jump l D am cI cZ zz hzz v ((xs (nI (5 * k) + 1).toNatClampNeg)) ok2) (cwV 1 htsG (tb_V tw_3_195 tw_3_196 tw_3_197 tw_1_5 tw_3_198) rfl rfl rfl (by decide +kernel) ⟨Nat.le_of_ble_eq_true rfl, Nat.le_of_ble_eq_true rfl⟩) (va_recv hK hP (ci := 4) (q0 := 0) rfl rfl) rfl hl.1 rfl (lv_room (Nat.le_of_ble_eq_true rfl)) dL_law_452 ⟨by show 31 + (k + 1) + 0 ≤ 1070; omega, by show 1723 + 6 * (k + 1) + 0 ≤ 10005; omega⟩ List.perm_append_comm List.perm_append_comm hP hKT hD hS hA hZ (fun H locs hP hD hS => ?_)
  generalize ev1 : (p_m_jump v ((xs (nI (5 * k) + 1).toNatClampNeg))).2 = v1 at hP hD hR1 hth
  refine lv_istore (lv' := [(6, .int (p_m_jump v ((xs (nI (5 * k) + 1).toNatClampNeg))).1), (5, .int (nI (p_jump u (xs (nI (5 * k) + 1).toNatClampNeg)).1)), (0, .ref b), (1, .ref (ad 0)), (2, .ref (am 0)), (3, .ref ao), (4, .int (nI (5 * k)))]) hx hb dL_law_455 hl (by decide) rfl (fun ls hl => ?_)
  refine lv_aload_n hx hb dL_law_457 rfl (lv_at hl 4 rfl) ?_
  refine g_callVi (As := []) (rest := []) (wr := wO ad cI cZ cJ ao f1 u1) (w := wM am cI cZ v1) (wb := (wL ad am cI cZ cJ ao f1 u1 v1)) hzz ⟨hx, hb, hml, hown, htsG⟩ (c_m_thrown l D am cI cZ zz hzz v1) (cwV 0 htsG (tb_V tw_3_168 tw_3_169 tw_3_170 tw_1_5 tw_3_171) rfl rfl rfl (by decide +kernel) ⟨Nat.le_of_ble_eq_true rfl, Nat.le_of_ble_eq_true rfl⟩) (va_recv hK hP (ci := 4) (q0 := 0) rfl rfl) rfl hl.1 rfl (lv_room (Nat.le_of_ble_eq_true rfl)) dL_law_458 ⟨by show 31 + (k + 1) + 0 ≤ 1070; omega, by show 1723 + 6 * (k + 1) + 0 ≤ 10005; omega⟩ List.perm_append_comm List.perm_append_comm hP hKT hD hS hA hZ (fun H locs hP hD hS => ?_)
  refine lv_iload hx hb dL_law_461 (lv_at hl 1 rfl) ?_
  refine lv_icmp_eq (tgt := 468) hx hb dL_law_463 (by decide) (fun c_1 => ?_) (fun c_1 => absurd hth c_1)
  refine lv_iload hx hb dL_law_468 (lv_at hl 1 rfl) ?_
  refine lv_if_ne (tgt := 485) hx hb dL_law_470 (by decide) (fun c_2 => ?_) (fun c_2 => ?_)
  · skip
    refine lv_goto (tgt := 1194) hx hb dL_law_485 (by decide) ?_
    exact K _ _ _ _ _ _ hR1 hP hD hS (lv_sub hl [2, 3, 4, 5, 6] rfl)
  · skip
    have hc0 : (p_jump u (xs (nI (5 * k) + 1).toNatClampNeg)).1 = 0 := l_n0 hcd c_2
    refine lv_aload_n hx hb dL_law_473 rfl (lv_at hl 5 rfl) ?_
    refine lv_iconst (v := 0) hx hb dL_law_474 (by decide) ?_
    refine va_lald (f := f1) hx hb hK hP 13 2 rfl rfl l_in0 dL_law_475 ?_
    refine lv_iload hx hb dL_law_476 (lv_at hl 0 rfl) ?_
    refine lv_i2l (v := Int32.toInt64 (p_m_jump v ((xs (nI (5 * k) + 1).toNatClampNeg))).1) hx hb dL_law_478 rfl ?_
    refine W.lcmp hx hb dL_law_479 ?_
    refine lv_if_eq (tgt := 485) hx hb dL_law_480 (by decide) (fun c_3 => ?_) (fun c_3 => absurd (by rw [← ef1, show (lf f (p_jump u (xs (nI (5 * k) + 1).toNatClampNeg)).1 (p_jump u (xs (nI (5 * k) + 1).toNatClampNeg)).2.1) = vp_updL f (0 : Int32).toNatClampNeg (Int32.toInt64 (p_jump u (xs (nI (5 * k) + 1).toNatClampNeg)).2.1) from if_pos hc0, pk_uLs, hrs hc0]; exact l_cmp _) c_3)
    refine lv_goto (tgt := 1194) hx hb dL_law_485 (by decide) ?_
    exact K _ _ _ _ _ _ hR1 hP hD hS (lv_sub hl [2, 3, 4, 5, 6] rfl)
set_option maxHeartbeats 4000000 in
set_option maxRecDepth 100000 in
theorem lc_branch {p : Program} {l : Launch} {e : Env} {s : State} {m : MethodId} {below : List Frame} {meth : Method} {c : Code} {b L : Nat} {xs : Nat → Int32} {D : va_G} {cI cZ cJ : ClassId} {zz : (Nat → Prop) → State → Heap → Prop} {tS : Nat} {RR : Nat → St → St → Prop} {Q : State → Prop} (hsim : sx_branch RR) (Cx : lcx p l s m c b L xs D cI cZ cJ zz tS) (hL : L ≤ 2560) (ad am : Nat → Nat) (ao k : Nat) (hk : 5 * k + 5 ≤ L) (f : Nat → Int64) (u v : St) (H : Heap) (locs : List Loc) (ls : Array Slot) (hR : RR k u v) (hP : va_P D vwCl (wL ad am cI cZ cJ ao f u v) H) (hD : va_D (fun q : Nat => s.heap.size ≤ q) (wL ad am cI cZ cJ ao f u v)) (hS : va_S (fun q : Nat => s.heap.size ≤ q) s.heap H locs) (hl : lv_has ls 7 (lll b ao ad am (5 * k))) (K : ∀ (f : Nat → Int64) (u v : St) (H : Heap) (locs : List Loc) (ls : Array Slot), RR (k + 1) u v → va_P D vwCl (wL ad am cI cZ cJ ao f u v) H → va_D (fun q : Nat => s.heap.size ≤ q) (wL ad am cI cZ cJ ao f u v) → va_S (fun q : Nat => s.heap.size ≤ q) s.heap H locs → lv_has ls 7 (lll b ao ad am (5 * k)) → W p l e room_1 s m #[Value.ref b] below meth c H locs (31 + (k + 1)) (1723 + 6 * (k + 1)) Q (F0 m 1194 ls [])) : W p l e room_1 s m #[Value.ref b] below meth c H locs (31 + k) (1723 + 6 * k) Q (F0 m 488 ls []) := by
  obtain ⟨hx, hb, hml, hown, htsG, hXs, hbl, hK, hZ, hlt, hzz, hst, hxs, hnc⟩ := Cx
  have hA : ∀ q : Nat, s.heap.size ≤ q → (fun q : Nat => s.heap.size ≤ q) q := fun _ h => h
  have hbA : ¬ (fun q : Nat => s.heap.size ≤ q) b := Nat.not_le.mpr hbl
  have hKT := hK.sub (tys' := tyT cI cZ) [0, 1] rfl
  have hi1 : vp_in (nI (5 * k) + 1) L := l_ix 1 1 rfl (by omega) hL
  have hi2 : vp_in (nI (5 * k) + 2) L := l_ix 2 2 rfl (by omega) hL
  have hi3 : vp_in (nI (5 * k) + 3) L := l_ix 3 3 rfl (by omega) hL
  have hi4 : vp_in (nI (5 * k) + 4) L := l_ix 4 4 rfl (by omega) hL
  obtain ⟨ok1, ok2, hcd, hth, hrs, hR1⟩ := hsim k u v (xs (nI (5 * k) + 1).toNatClampNeg) (xs (nI (5 * k) + 2).toNatClampNeg) (xs (nI (5 * k) + 3).toNatClampNeg) (xs (nI (5 * k) + 4).toNatClampNeg) (by omega) hR
  refine lv_aload_n hx hb dL_law_488 rfl (lv_at hl 1 rfl) ?_
  refine lv_aload_n hx hb dL_law_489 rfl (lv_at hl 0 rfl) ?_
  refine lv_iload hx hb dL_law_490 (lv_at hl 4 rfl) ?_
  refine lv_iconst (v := 1) hx hb dL_law_492 (by decide) ?_
  refine lv_iadd hx hb dL_law_493 ?_
  refine va_sld hx hb hXs hbl hbA hS hi1 dL_law_494 ?_
  refine lv_aload_n hx hb dL_law_495 rfl (lv_at hl 0 rfl) ?_
  refine lv_iload hx hb dL_law_496 (lv_at hl 4 rfl) ?_
  refine lv_iconst (v := 2) hx hb dL_law_498 (by decide) ?_
  refine lv_iadd hx hb dL_law_499 ?_
  refine va_sld hx hb hXs hbl hbA hS hi2 dL_law_500 ?_
  refine lv_aload_n hx hb dL_law_501 rfl (lv_at hl 0 rfl) ?_
  refine lv_iload hx hb dL_law_502 (lv_at hl 4 rfl) ?_
  refine lv_iconst (v := 3) hx hb dL_law_504 (by decide) ?_
  refine lv_iadd hx hb dL_law_505 ?_
  refine va_sld hx hb hXs hbl hbA hS hi3 dL_law_506 ?_
  refine lv_aload_n hx hb dL_law_507 rfl (lv_at hl 0 rfl) ?_
  refine lv_iload hx hb dL_law_508 (lv_at hl 4 rfl) ?_
  refine lv_iconst (v := 4) hx hb dL_law_510 (by decide) ?_
  refine lv_iadd hx hb dL_law_511 ?_
  refine va_sld hx hb hXs hbl hbA hS hi4 dL_law_512 ?_
  refine lv_aload_n hx hb dL_law_513 rfl (lv_at hl 3 rfl) ?_
  refine g_callSW (As := [.ref (ad 0), .int (xs (nI (5 * k) + 1).toNatClampNeg), .int (xs (nI (5 * k) + 2).toNatClampNeg), .int (xs (nI (5 * k) + 3).toNatClampNeg), .int (xs (nI (5 * k) + 4).toNatClampNeg), .ref ao]) (rest := []) (wr := wM am cI cZ v) (w := wO ad cI cZ cJ ao f u) (wb := (wL ad am cI cZ cJ ao (lf f (p_branch u (xs (nI (5 * k) + 1).toNatClampNeg) (xs (nI (5 * k) + 2).toNatClampNeg) (xs (nI (5 * k) + 3).toNatClampNeg) (xs (nI (5 * k) + 4).toNatClampNeg)).1 (p_branch u (xs (nI (5 * k) + 1).toNatClampNeg) (xs (nI (5 * k) + 2).toNatClampNeg) (xs (nI (5 * k) + 3).toNatClampNeg) (xs (nI (5 * k) + 4).toNatClampNeg)).2.1) (p_branch u (xs (nI (5 * k) + 1).toNatClampNeg) (xs (nI (5 * k) + 2).toNatClampNeg) (xs (nI (5 * k) + 3).toNatClampNeg) (xs (nI (5 * k) + 4).toNatClampNeg)).2.2 v)) hzz ⟨hx, hb, hml, hown, htsG⟩ (ct_branch l hlt D ad cI cZ zz hzz tS hst hxs hnc cJ ao f u (xs (nI (5 * k) + 1).toNatClampNeg) (xs (nI (5 * k) + 2).toNatClampNeg) (xs (nI (5 * k) + 3).toNatClampNeg) (xs (nI (5 * k) + 4).toNatClampNeg) ok1 hcd) (vx_cwSW 6 htsG (tb_SW tw_2_78 tw_2_79 tw_1_0 tw_2_80) rfl rfl rfl (by decide +kernel) ⟨Nat.le_of_ble_eq_true rfl, Nat.le_of_ble_eq_true rfl⟩) rfl hl.1 rfl (lv_room (Nat.le_of_ble_eq_true rfl)) dL_law_514 ⟨by show 31 + k + 1 ≤ 1070; omega, by show 1723 + 6 * k + 6 ≤ 10005; omega⟩ (List.Perm.refl _) (List.Perm.refl _) hP hK hD hS hA hZ (fun H locs hP hD hS => ?_)
  refine W.widen (k := 31 + (k + 1)) (n := 1723 + 6 * (k + 1)) (by omega) (by omega) ?_
  generalize eu1 : (p_branch u (xs (nI (5 * k) + 1).toNatClampNeg) (xs (nI (5 * k) + 2).toNatClampNeg) (xs (nI (5 * k) + 3).toNatClampNeg) (xs (nI (5 * k) + 4).toNatClampNeg)).2.2 = u1 at hP hD hR1
  generalize ef1 : (lf f (p_branch u (xs (nI (5 * k) + 1).toNatClampNeg) (xs (nI (5 * k) + 2).toNatClampNeg) (xs (nI (5 * k) + 3).toNatClampNeg) (xs (nI (5 * k) + 4).toNatClampNeg)).1 (p_branch u (xs (nI (5 * k) + 1).toNatClampNeg) (xs (nI (5 * k) + 2).toNatClampNeg) (xs (nI (5 * k) + 3).toNatClampNeg) (xs (nI (5 * k) + 4).toNatClampNeg)).2.1) = f1 at hP hD
  refine lv_istore (lv' := [(5, .int (nI (p_branch u (xs (nI (5 * k) + 1).toNatClampNeg) (xs (nI (5 * k) + 2).toNatClampNeg) (xs (nI (5 * k) + 3).toNatClampNeg) (xs (nI (5 * k) + 4).toNatClampNeg)).1)), (0, .ref b), (1, .ref (ad 0)), (2, .ref (am 0)), (3, .ref ao), (4, .int (nI (5 * k)))]) hx hb dL_law_517 hl (by decide) rfl (fun ls hl => ?_)
  refine lv_aload_n hx hb dL_law_519 rfl (lv_at hl 3 rfl) ?_
  refine lv_aload_n hx hb dL_law_520 rfl (lv_at hl 1 rfl) ?_
  refine lv_iload hx hb dL_law_521 (lv_at hl 5 rfl) ?_
  refine lv_iconst (v := 1) hx hb dL_law_523 (by decide) ?_
  refine lv_iadd hx hb dL_law_524 ?_
  refine va_sld hx hb hXs hbl hbA hS hi1 dL_law_525 ?_
  refine lv_aload_n hx hb dL_law_526 rfl (lv_at hl 1 rfl) ?_
  refine lv_iload hx hb dL_law_527 (lv_at hl 5 rfl) ?_
  refine lv_iconst (v := 2) hx hb dL_law_529 (by decide) ?_
  refine lv_iadd hx hb dL_law_530 ?_
  refine va_sld hx hb hXs hbl hbA hS hi2 dL_law_531 ?_
  refine lv_aload_n hx hb dL_law_532 rfl (lv_at hl 1 rfl) ?_
  refine lv_iload hx hb dL_law_533 (lv_at hl 5 rfl) ?_
  refine lv_iconst (v := 3) hx hb dL_law_535 (by decide) ?_
  refine lv_iadd hx hb dL_law_536 ?_
  refine va_sld hx hb hXs hbl hbA hS hi3 dL_law_537 ?_
  refine lv_aload_n hx hb dL_law_538 rfl (lv_at hl 1 rfl) ?_
  refine lv_iload hx hb dL_law_539 (lv_at hl 5 rfl) ?_
  refine lv_iconst (v := 4) hx hb dL_law_541 (by decide) ?_
  refine lv_iadd hx hb dL_law_542 ?_
  refine va_sld hx hb hXs hbl hbA hS hi4 dL_law_543 ?_
  refine g_callVi (As := [.int (xs (nI (5 * k) + 1).toNatClampNeg), .int (xs (nI (5 * k) + 2).toNatClampNeg), .int (xs (nI (5 * k) + 3).toNatClampNeg), .int (xs (nI (5 * k) + 4).toNatClampNeg)]) (rest := []) (wr := wO ad cI cZ cJ ao f1 u1) (w := wM am cI cZ v) (wb := (wL ad am cI cZ cJ ao f1 u1 (p_m_branch v ((xs (nI (5 * k) + 1).toNatClampNeg)) ((xs (nI (5 * k) + 2).toNatClampNeg)) ((xs (nI (5 * k) + 3).toNatClampNeg)) ((xs (nI (5 * k) + 4).toNatClampNeg))).2)) hzz ⟨hx, hb, hml, hown, htsG⟩ (c_m_branch l D am cI cZ zz hzz v ((xs (nI (5 * k) + 1).toNatClampNeg)) ((xs (nI (5 * k) + 2).toNatClampNeg)) ((xs (nI (5 * k) + 3).toNatClampNeg)) ((xs (nI (5 * k) + 4).toNatClampNeg)) ok2) (cwV 4 htsG (tb_V tw_3_199 tw_3_200 tw_3_201 tw_1_5 tw_3_202) rfl rfl rfl (by decide +kernel) ⟨Nat.le_of_ble_eq_true rfl, Nat.le_of_ble_eq_true rfl⟩) (va_recv hK hP (ci := 4) (q0 := 0) rfl rfl) rfl hl.1 rfl (lv_room (Nat.le_of_ble_eq_true rfl)) dL_law_544 ⟨by show 31 + (k + 1) + 0 ≤ 1070; omega, by show 1723 + 6 * (k + 1) + 0 ≤ 10005; omega⟩ List.perm_append_comm List.perm_append_comm hP hKT hD hS hA hZ (fun H locs hP hD hS => ?_)
  generalize ev1 : (p_m_branch v ((xs (nI (5 * k) + 1).toNatClampNeg)) ((xs (nI (5 * k) + 2).toNatClampNeg)) ((xs (nI (5 * k) + 3).toNatClampNeg)) ((xs (nI (5 * k) + 4).toNatClampNeg))).2 = v1 at hP hD hR1 hth
  refine lv_istore (lv' := [(6, .int (p_m_branch v ((xs (nI (5 * k) + 1).toNatClampNeg)) ((xs (nI (5 * k) + 2).toNatClampNeg)) ((xs (nI (5 * k) + 3).toNatClampNeg)) ((xs (nI (5 * k) + 4).toNatClampNeg))).1), (5, .int (nI (p_branch u (xs (nI (5 * k) + 1).toNatClampNeg) (xs (nI (5 * k) + 2).toNatClampNeg) (xs (nI (5 * k) + 3).toNatClampNeg) (xs (nI (5 * k) + 4).toNatClampNeg)).1)), (0, .ref b), (1, .ref (ad 0)), (2, .ref (am 0)), (3, .ref ao), (4, .int (nI (5 * k)))]) hx hb dL_law_547 hl (by decide) rfl (fun ls hl => ?_)
  refine lv_aload_n hx hb dL_law_549 rfl (lv_at hl 4 rfl) ?_
  refine g_callVi (As := []) (rest := []) (wr := wO ad cI cZ cJ ao f1 u1) (w := wM am cI cZ v1) (wb := (wL ad am cI cZ cJ ao f1 u1 v1)) hzz ⟨hx, hb, hml, hown, htsG⟩ (c_m_thrown l D am cI cZ zz hzz v1) (cwV 0 htsG (tb_V tw_3_168 tw_3_169 tw_3_170 tw_1_5 tw_3_171) rfl rfl rfl (by decide +kernel) ⟨Nat.le_of_ble_eq_true rfl, Nat.le_of_ble_eq_true rfl⟩) (va_recv hK hP (ci := 4) (q0 := 0) rfl rfl) rfl hl.1 rfl (lv_room (Nat.le_of_ble_eq_true rfl)) dL_law_550 ⟨by show 31 + (k + 1) + 0 ≤ 1070; omega, by show 1723 + 6 * (k + 1) + 0 ≤ 10005; omega⟩ List.perm_append_comm List.perm_append_comm hP hKT hD hS hA hZ (fun H locs hP hD hS => ?_)
  refine lv_iload hx hb dL_law_553 (lv_at hl 1 rfl) ?_
  refine lv_icmp_eq (tgt := 560) hx hb dL_law_555 (by decide) (fun c_1 => ?_) (fun c_1 => absurd hth c_1)
  refine lv_iload hx hb dL_law_560 (lv_at hl 1 rfl) ?_
  refine lv_if_ne (tgt := 577) hx hb dL_law_562 (by decide) (fun c_2 => ?_) (fun c_2 => ?_)
  · skip
    refine lv_goto (tgt := 1194) hx hb dL_law_577 (by decide) ?_
    exact K _ _ _ _ _ _ hR1 hP hD hS (lv_sub hl [2, 3, 4, 5, 6] rfl)
  · skip
    have hc0 : (p_branch u (xs (nI (5 * k) + 1).toNatClampNeg) (xs (nI (5 * k) + 2).toNatClampNeg) (xs (nI (5 * k) + 3).toNatClampNeg) (xs (nI (5 * k) + 4).toNatClampNeg)).1 = 0 := l_n0 hcd c_2
    refine lv_aload_n hx hb dL_law_565 rfl (lv_at hl 5 rfl) ?_
    refine lv_iconst (v := 0) hx hb dL_law_566 (by decide) ?_
    refine va_lald (f := f1) hx hb hK hP 13 2 rfl rfl l_in0 dL_law_567 ?_
    refine lv_iload hx hb dL_law_568 (lv_at hl 0 rfl) ?_
    refine lv_i2l (v := Int32.toInt64 (p_m_branch v ((xs (nI (5 * k) + 1).toNatClampNeg)) ((xs (nI (5 * k) + 2).toNatClampNeg)) ((xs (nI (5 * k) + 3).toNatClampNeg)) ((xs (nI (5 * k) + 4).toNatClampNeg))).1) hx hb dL_law_570 rfl ?_
    refine W.lcmp hx hb dL_law_571 ?_
    refine lv_if_eq (tgt := 577) hx hb dL_law_572 (by decide) (fun c_3 => ?_) (fun c_3 => absurd (by rw [← ef1, show (lf f (p_branch u (xs (nI (5 * k) + 1).toNatClampNeg) (xs (nI (5 * k) + 2).toNatClampNeg) (xs (nI (5 * k) + 3).toNatClampNeg) (xs (nI (5 * k) + 4).toNatClampNeg)).1 (p_branch u (xs (nI (5 * k) + 1).toNatClampNeg) (xs (nI (5 * k) + 2).toNatClampNeg) (xs (nI (5 * k) + 3).toNatClampNeg) (xs (nI (5 * k) + 4).toNatClampNeg)).2.1) = vp_updL f (0 : Int32).toNatClampNeg (Int32.toInt64 (p_branch u (xs (nI (5 * k) + 1).toNatClampNeg) (xs (nI (5 * k) + 2).toNatClampNeg) (xs (nI (5 * k) + 3).toNatClampNeg) (xs (nI (5 * k) + 4).toNatClampNeg)).2.1) from if_pos hc0, pk_uLs, hrs hc0]; exact l_cmp _) c_3)
    refine lv_goto (tgt := 1194) hx hb dL_law_577 (by decide) ?_
    exact K _ _ _ _ _ _ hR1 hP hD hS (lv_sub hl [2, 3, 4, 5, 6] rfl)
set_option maxHeartbeats 4000000 in
set_option maxRecDepth 100000 in
theorem lc_out {p : Program} {l : Launch} {e : Env} {s : State} {m : MethodId} {below : List Frame} {meth : Method} {c : Code} {b L : Nat} {xs : Nat → Int32} {D : va_G} {cI cZ cJ : ClassId} {zz : (Nat → Prop) → State → Heap → Prop} {tS : Nat} {RR : Nat → St → St → Prop} {Q : State → Prop} (hsim : sx_out RR) (Cx : lcx p l s m c b L xs D cI cZ cJ zz tS) (hL : L ≤ 2560) (ad am : Nat → Nat) (ao k : Nat) (hk : 5 * k + 5 ≤ L) (f : Nat → Int64) (u v : St) (H : Heap) (locs : List Loc) (ls : Array Slot) (hR : RR k u v) (hP : va_P D vwCl (wL ad am cI cZ cJ ao f u v) H) (hD : va_D (fun q : Nat => s.heap.size ≤ q) (wL ad am cI cZ cJ ao f u v)) (hS : va_S (fun q : Nat => s.heap.size ≤ q) s.heap H locs) (hl : lv_has ls 7 (lll b ao ad am (5 * k))) (K : ∀ (f : Nat → Int64) (u v : St) (H : Heap) (locs : List Loc) (ls : Array Slot), RR (k + 1) u v → va_P D vwCl (wL ad am cI cZ cJ ao f u v) H → va_D (fun q : Nat => s.heap.size ≤ q) (wL ad am cI cZ cJ ao f u v) → va_S (fun q : Nat => s.heap.size ≤ q) s.heap H locs → lv_has ls 7 (lll b ao ad am (5 * k)) → W p l e room_1 s m #[Value.ref b] below meth c H locs (31 + (k + 1)) (1723 + 6 * (k + 1)) Q (F0 m 1194 ls [])) : W p l e room_1 s m #[Value.ref b] below meth c H locs (31 + k) (1723 + 6 * k) Q (F0 m 580 ls []) := by
  obtain ⟨hx, hb, hml, hown, htsG, hXs, hbl, hK, hZ, hlt, hzz, hst, hxs, hnc⟩ := Cx
  have hA : ∀ q : Nat, s.heap.size ≤ q → (fun q : Nat => s.heap.size ≤ q) q := fun _ h => h
  have hbA : ¬ (fun q : Nat => s.heap.size ≤ q) b := Nat.not_le.mpr hbl
  have hKT := hK.sub (tys' := tyT cI cZ) [0, 1] rfl
  have hi1 : vp_in (nI (5 * k) + 1) L := l_ix 1 1 rfl (by omega) hL
  obtain ⟨ok1, ok2, hcd, hth, hrs, hR1⟩ := hsim k u v (xs (nI (5 * k) + 1).toNatClampNeg) (by omega) hR
  refine lv_aload_n hx hb dL_law_580 rfl (lv_at hl 1 rfl) ?_
  refine lv_aload_n hx hb dL_law_581 rfl (lv_at hl 0 rfl) ?_
  refine lv_iload hx hb dL_law_582 (lv_at hl 4 rfl) ?_
  refine lv_iconst (v := 1) hx hb dL_law_584 (by decide) ?_
  refine lv_iadd hx hb dL_law_585 ?_
  refine va_sld hx hb hXs hbl hbA hS hi1 dL_law_586 ?_
  refine lv_aload_n hx hb dL_law_587 rfl (lv_at hl 3 rfl) ?_
  refine g_callSW (As := [.ref (ad 0), .int (xs (nI (5 * k) + 1).toNatClampNeg), .ref ao]) (rest := []) (wr := wM am cI cZ v) (w := wO ad cI cZ cJ ao f u) (wb := (wL ad am cI cZ cJ ao (lf f (p_out u (xs (nI (5 * k) + 1).toNatClampNeg)).1 (p_out u (xs (nI (5 * k) + 1).toNatClampNeg)).2.1) (p_out u (xs (nI (5 * k) + 1).toNatClampNeg)).2.2 v)) hzz ⟨hx, hb, hml, hown, htsG⟩ (ct_out l hlt D ad cI cZ zz hzz tS hst hxs hnc cJ ao f u (xs (nI (5 * k) + 1).toNatClampNeg) ok1 hcd) (vx_cwSW 3 htsG (tb_SW tw_2_89 tw_2_90 tw_1_0 tw_2_91) rfl rfl rfl (by decide +kernel) ⟨Nat.le_of_ble_eq_true rfl, Nat.le_of_ble_eq_true rfl⟩) rfl hl.1 rfl (lv_room (Nat.le_of_ble_eq_true rfl)) dL_law_588 ⟨by show 31 + k + 1 ≤ 1070; omega, by show 1723 + 6 * k + 6 ≤ 10005; omega⟩ (List.Perm.refl _) (List.Perm.refl _) hP hK hD hS hA hZ (fun H locs hP hD hS => ?_)
  refine W.widen (k := 31 + (k + 1)) (n := 1723 + 6 * (k + 1)) (by omega) (by omega) ?_
  generalize eu1 : (p_out u (xs (nI (5 * k) + 1).toNatClampNeg)).2.2 = u1 at hP hD hR1
  generalize ef1 : (lf f (p_out u (xs (nI (5 * k) + 1).toNatClampNeg)).1 (p_out u (xs (nI (5 * k) + 1).toNatClampNeg)).2.1) = f1 at hP hD
  refine lv_istore (lv' := [(5, .int (nI (p_out u (xs (nI (5 * k) + 1).toNatClampNeg)).1)), (0, .ref b), (1, .ref (ad 0)), (2, .ref (am 0)), (3, .ref ao), (4, .int (nI (5 * k)))]) hx hb dL_law_591 hl (by decide) rfl (fun ls hl => ?_)
  refine lv_aload_n hx hb dL_law_593 rfl (lv_at hl 3 rfl) ?_
  refine lv_aload_n hx hb dL_law_594 rfl (lv_at hl 1 rfl) ?_
  refine lv_iload hx hb dL_law_595 (lv_at hl 5 rfl) ?_
  refine lv_iconst (v := 1) hx hb dL_law_597 (by decide) ?_
  refine lv_iadd hx hb dL_law_598 ?_
  refine va_sld hx hb hXs hbl hbA hS hi1 dL_law_599 ?_
  refine g_callVi (As := [.int (xs (nI (5 * k) + 1).toNatClampNeg)]) (rest := []) (wr := wO ad cI cZ cJ ao f1 u1) (w := wM am cI cZ v) (wb := (wL ad am cI cZ cJ ao f1 u1 (p_m_out v ((xs (nI (5 * k) + 1).toNatClampNeg))).2)) hzz ⟨hx, hb, hml, hown, htsG⟩ (c_m_out l D am cI cZ zz hzz v ((xs (nI (5 * k) + 1).toNatClampNeg)) ok2) (cwV 1 htsG (tb_V tw_3_206 tw_3_207 tw_3_208 tw_1_5 tw_3_209) rfl rfl rfl (by decide +kernel) ⟨Nat.le_of_ble_eq_true rfl, Nat.le_of_ble_eq_true rfl⟩) (va_recv hK hP (ci := 4) (q0 := 0) rfl rfl) rfl hl.1 rfl (lv_room (Nat.le_of_ble_eq_true rfl)) dL_law_600 ⟨by show 31 + (k + 1) + 0 ≤ 1070; omega, by show 1723 + 6 * (k + 1) + 0 ≤ 10005; omega⟩ List.perm_append_comm List.perm_append_comm hP hKT hD hS hA hZ (fun H locs hP hD hS => ?_)
  generalize ev1 : (p_m_out v ((xs (nI (5 * k) + 1).toNatClampNeg))).2 = v1 at hP hD hR1 hth
  refine lv_istore (lv' := [(6, .int (p_m_out v ((xs (nI (5 * k) + 1).toNatClampNeg))).1), (5, .int (nI (p_out u (xs (nI (5 * k) + 1).toNatClampNeg)).1)), (0, .ref b), (1, .ref (ad 0)), (2, .ref (am 0)), (3, .ref ao), (4, .int (nI (5 * k)))]) hx hb dL_law_603 hl (by decide) rfl (fun ls hl => ?_)
  refine lv_aload_n hx hb dL_law_605 rfl (lv_at hl 4 rfl) ?_
  refine g_callVi (As := []) (rest := []) (wr := wO ad cI cZ cJ ao f1 u1) (w := wM am cI cZ v1) (wb := (wL ad am cI cZ cJ ao f1 u1 v1)) hzz ⟨hx, hb, hml, hown, htsG⟩ (c_m_thrown l D am cI cZ zz hzz v1) (cwV 0 htsG (tb_V tw_3_168 tw_3_169 tw_3_170 tw_1_5 tw_3_171) rfl rfl rfl (by decide +kernel) ⟨Nat.le_of_ble_eq_true rfl, Nat.le_of_ble_eq_true rfl⟩) (va_recv hK hP (ci := 4) (q0 := 0) rfl rfl) rfl hl.1 rfl (lv_room (Nat.le_of_ble_eq_true rfl)) dL_law_606 ⟨by show 31 + (k + 1) + 0 ≤ 1070; omega, by show 1723 + 6 * (k + 1) + 0 ≤ 10005; omega⟩ List.perm_append_comm List.perm_append_comm hP hKT hD hS hA hZ (fun H locs hP hD hS => ?_)
  refine lv_iload hx hb dL_law_609 (lv_at hl 1 rfl) ?_
  refine lv_icmp_eq (tgt := 616) hx hb dL_law_611 (by decide) (fun c_1 => ?_) (fun c_1 => absurd hth c_1)
  refine lv_iload hx hb dL_law_616 (lv_at hl 1 rfl) ?_
  refine lv_if_ne (tgt := 633) hx hb dL_law_618 (by decide) (fun c_2 => ?_) (fun c_2 => ?_)
  · skip
    refine lv_goto (tgt := 1194) hx hb dL_law_633 (by decide) ?_
    exact K _ _ _ _ _ _ hR1 hP hD hS (lv_sub hl [2, 3, 4, 5, 6] rfl)
  · skip
    have hc0 : (p_out u (xs (nI (5 * k) + 1).toNatClampNeg)).1 = 0 := l_n0 hcd c_2
    refine lv_aload_n hx hb dL_law_621 rfl (lv_at hl 5 rfl) ?_
    refine lv_iconst (v := 0) hx hb dL_law_622 (by decide) ?_
    refine va_lald (f := f1) hx hb hK hP 13 2 rfl rfl l_in0 dL_law_623 ?_
    refine lv_iload hx hb dL_law_624 (lv_at hl 0 rfl) ?_
    refine lv_i2l (v := Int32.toInt64 (p_m_out v ((xs (nI (5 * k) + 1).toNatClampNeg))).1) hx hb dL_law_626 rfl ?_
    refine W.lcmp hx hb dL_law_627 ?_
    refine lv_if_eq (tgt := 633) hx hb dL_law_628 (by decide) (fun c_3 => ?_) (fun c_3 => absurd (by rw [← ef1, show (lf f (p_out u (xs (nI (5 * k) + 1).toNatClampNeg)).1 (p_out u (xs (nI (5 * k) + 1).toNatClampNeg)).2.1) = vp_updL f (0 : Int32).toNatClampNeg (Int32.toInt64 (p_out u (xs (nI (5 * k) + 1).toNatClampNeg)).2.1) from if_pos hc0, pk_uLs, hrs hc0]; exact l_cmp _) c_3)
    refine lv_goto (tgt := 1194) hx hb dL_law_633 (by decide) ?_
    exact K _ _ _ _ _ _ hR1 hP hD hS (lv_sub hl [2, 3, 4, 5, 6] rfl)
set_option maxHeartbeats 4000000 in
set_option maxRecDepth 100000 in
theorem lc_stop {p : Program} {l : Launch} {e : Env} {s : State} {m : MethodId} {below : List Frame} {meth : Method} {c : Code} {b L : Nat} {xs : Nat → Int32} {D : va_G} {cI cZ cJ : ClassId} {zz : (Nat → Prop) → State → Heap → Prop} {tS : Nat} {RR : Nat → St → St → Prop} {Q : State → Prop} (hsim : sx_stop RR) (Cx : lcx p l s m c b L xs D cI cZ cJ zz tS) (hL : L ≤ 2560) (ad am : Nat → Nat) (ao k : Nat) (hk : 5 * k + 5 ≤ L) (f : Nat → Int64) (u v : St) (H : Heap) (locs : List Loc) (ls : Array Slot) (hR : RR k u v) (hP : va_P D vwCl (wL ad am cI cZ cJ ao f u v) H) (hD : va_D (fun q : Nat => s.heap.size ≤ q) (wL ad am cI cZ cJ ao f u v)) (hS : va_S (fun q : Nat => s.heap.size ≤ q) s.heap H locs) (hl : lv_has ls 7 (lll b ao ad am (5 * k))) (K : ∀ (f : Nat → Int64) (u v : St) (H : Heap) (locs : List Loc) (ls : Array Slot), RR (k + 1) u v → va_P D vwCl (wL ad am cI cZ cJ ao f u v) H → va_D (fun q : Nat => s.heap.size ≤ q) (wL ad am cI cZ cJ ao f u v) → va_S (fun q : Nat => s.heap.size ≤ q) s.heap H locs → lv_has ls 7 (lll b ao ad am (5 * k)) → W p l e room_1 s m #[Value.ref b] below meth c H locs (31 + (k + 1)) (1723 + 6 * (k + 1)) Q (F0 m 1194 ls [])) : W p l e room_1 s m #[Value.ref b] below meth c H locs (31 + k) (1723 + 6 * k) Q (F0 m 636 ls []) := by
  obtain ⟨hx, hb, hml, hown, htsG, hXs, hbl, hK, hZ, hlt, hzz, hst, hxs, hnc⟩ := Cx
  have hA : ∀ q : Nat, s.heap.size ≤ q → (fun q : Nat => s.heap.size ≤ q) q := fun _ h => h
  have hbA : ¬ (fun q : Nat => s.heap.size ≤ q) b := Nat.not_le.mpr hbl
  have hKT := hK.sub (tys' := tyT cI cZ) [0, 1] rfl
  have hi1 : vp_in (nI (5 * k) + 1) L := l_ix 1 1 rfl (by omega) hL
  obtain ⟨ok1, ok2, hcd, hth, hrs, hR1⟩ := hsim k u v (xs (nI (5 * k) + 1).toNatClampNeg) (by omega) hR
  refine lv_aload_n hx hb dL_law_636 rfl (lv_at hl 1 rfl) ?_
  refine lv_aload_n hx hb dL_law_637 rfl (lv_at hl 0 rfl) ?_
  refine lv_iload hx hb dL_law_638 (lv_at hl 4 rfl) ?_
  refine lv_iconst (v := 1) hx hb dL_law_640 (by decide) ?_
  refine lv_iadd hx hb dL_law_641 ?_
  refine va_sld hx hb hXs hbl hbA hS hi1 dL_law_642 ?_
  refine lv_aload_n hx hb dL_law_643 rfl (lv_at hl 3 rfl) ?_
  refine g_callSW (As := [.ref (ad 0), .int (xs (nI (5 * k) + 1).toNatClampNeg), .ref ao]) (rest := []) (wr := wM am cI cZ v) (w := wO ad cI cZ cJ ao f u) (wb := (wL ad am cI cZ cJ ao (lf f (p_stop u (xs (nI (5 * k) + 1).toNatClampNeg)).1 (p_stop u (xs (nI (5 * k) + 1).toNatClampNeg)).2.1) (p_stop u (xs (nI (5 * k) + 1).toNatClampNeg)).2.2 v)) hzz ⟨hx, hb, hml, hown, htsG⟩ (ct_stop l hlt D ad cI cZ zz hzz tS hst hxs hnc cJ ao f u (xs (nI (5 * k) + 1).toNatClampNeg) ok1 hcd) (vx_cwSW 3 htsG (tb_SW tw_2_96 tw_2_97 tw_1_0 tw_2_98) rfl rfl rfl (by decide +kernel) ⟨Nat.le_of_ble_eq_true rfl, Nat.le_of_ble_eq_true rfl⟩) rfl hl.1 rfl (lv_room (Nat.le_of_ble_eq_true rfl)) dL_law_644 ⟨by show 31 + k + 1 ≤ 1070; omega, by show 1723 + 6 * k + 6 ≤ 10005; omega⟩ (List.Perm.refl _) (List.Perm.refl _) hP hK hD hS hA hZ (fun H locs hP hD hS => ?_)
  refine W.widen (k := 31 + (k + 1)) (n := 1723 + 6 * (k + 1)) (by omega) (by omega) ?_
  generalize eu1 : (p_stop u (xs (nI (5 * k) + 1).toNatClampNeg)).2.2 = u1 at hP hD hR1
  generalize ef1 : (lf f (p_stop u (xs (nI (5 * k) + 1).toNatClampNeg)).1 (p_stop u (xs (nI (5 * k) + 1).toNatClampNeg)).2.1) = f1 at hP hD
  refine lv_istore (lv' := [(5, .int (nI (p_stop u (xs (nI (5 * k) + 1).toNatClampNeg)).1)), (0, .ref b), (1, .ref (ad 0)), (2, .ref (am 0)), (3, .ref ao), (4, .int (nI (5 * k)))]) hx hb dL_law_647 hl (by decide) rfl (fun ls hl => ?_)
  refine lv_aload_n hx hb dL_law_649 rfl (lv_at hl 3 rfl) ?_
  refine lv_aload_n hx hb dL_law_650 rfl (lv_at hl 1 rfl) ?_
  refine lv_iload hx hb dL_law_651 (lv_at hl 5 rfl) ?_
  refine lv_iconst (v := 1) hx hb dL_law_653 (by decide) ?_
  refine lv_iadd hx hb dL_law_654 ?_
  refine va_sld hx hb hXs hbl hbA hS hi1 dL_law_655 ?_
  refine g_callVi (As := [.int (xs (nI (5 * k) + 1).toNatClampNeg)]) (rest := []) (wr := wO ad cI cZ cJ ao f1 u1) (w := wM am cI cZ v) (wb := (wL ad am cI cZ cJ ao f1 u1 (p_m_stop v ((xs (nI (5 * k) + 1).toNatClampNeg))).2)) hzz ⟨hx, hb, hml, hown, htsG⟩ (c_m_stop l D am cI cZ zz hzz v ((xs (nI (5 * k) + 1).toNatClampNeg)) ok2) (cwV 1 htsG (tb_V tw_3_210 tw_3_211 tw_3_212 tw_1_5 tw_3_213) rfl rfl rfl (by decide +kernel) ⟨Nat.le_of_ble_eq_true rfl, Nat.le_of_ble_eq_true rfl⟩) (va_recv hK hP (ci := 4) (q0 := 0) rfl rfl) rfl hl.1 rfl (lv_room (Nat.le_of_ble_eq_true rfl)) dL_law_656 ⟨by show 31 + (k + 1) + 0 ≤ 1070; omega, by show 1723 + 6 * (k + 1) + 0 ≤ 10005; omega⟩ List.perm_append_comm List.perm_append_comm hP hKT hD hS hA hZ (fun H locs hP hD hS => ?_)
  generalize ev1 : (p_m_stop v ((xs (nI (5 * k) + 1).toNatClampNeg))).2 = v1 at hP hD hR1 hth
  refine lv_istore (lv' := [(6, .int (p_m_stop v ((xs (nI (5 * k) + 1).toNatClampNeg))).1), (5, .int (nI (p_stop u (xs (nI (5 * k) + 1).toNatClampNeg)).1)), (0, .ref b), (1, .ref (ad 0)), (2, .ref (am 0)), (3, .ref ao), (4, .int (nI (5 * k)))]) hx hb dL_law_659 hl (by decide) rfl (fun ls hl => ?_)
  refine lv_aload_n hx hb dL_law_661 rfl (lv_at hl 4 rfl) ?_
  refine g_callVi (As := []) (rest := []) (wr := wO ad cI cZ cJ ao f1 u1) (w := wM am cI cZ v1) (wb := (wL ad am cI cZ cJ ao f1 u1 v1)) hzz ⟨hx, hb, hml, hown, htsG⟩ (c_m_thrown l D am cI cZ zz hzz v1) (cwV 0 htsG (tb_V tw_3_168 tw_3_169 tw_3_170 tw_1_5 tw_3_171) rfl rfl rfl (by decide +kernel) ⟨Nat.le_of_ble_eq_true rfl, Nat.le_of_ble_eq_true rfl⟩) (va_recv hK hP (ci := 4) (q0 := 0) rfl rfl) rfl hl.1 rfl (lv_room (Nat.le_of_ble_eq_true rfl)) dL_law_662 ⟨by show 31 + (k + 1) + 0 ≤ 1070; omega, by show 1723 + 6 * (k + 1) + 0 ≤ 10005; omega⟩ List.perm_append_comm List.perm_append_comm hP hKT hD hS hA hZ (fun H locs hP hD hS => ?_)
  refine lv_iload hx hb dL_law_665 (lv_at hl 1 rfl) ?_
  refine lv_icmp_eq (tgt := 672) hx hb dL_law_667 (by decide) (fun c_1 => ?_) (fun c_1 => absurd hth c_1)
  refine lv_iload hx hb dL_law_672 (lv_at hl 1 rfl) ?_
  refine lv_if_ne (tgt := 689) hx hb dL_law_674 (by decide) (fun c_2 => ?_) (fun c_2 => ?_)
  · skip
    refine lv_goto (tgt := 1194) hx hb dL_law_689 (by decide) ?_
    exact K _ _ _ _ _ _ hR1 hP hD hS (lv_sub hl [2, 3, 4, 5, 6] rfl)
  · skip
    have hc0 : (p_stop u (xs (nI (5 * k) + 1).toNatClampNeg)).1 = 0 := l_n0 hcd c_2
    refine lv_aload_n hx hb dL_law_677 rfl (lv_at hl 5 rfl) ?_
    refine lv_iconst (v := 0) hx hb dL_law_678 (by decide) ?_
    refine va_lald (f := f1) hx hb hK hP 13 2 rfl rfl l_in0 dL_law_679 ?_
    refine lv_iload hx hb dL_law_680 (lv_at hl 0 rfl) ?_
    refine lv_i2l (v := Int32.toInt64 (p_m_stop v ((xs (nI (5 * k) + 1).toNatClampNeg))).1) hx hb dL_law_682 rfl ?_
    refine W.lcmp hx hb dL_law_683 ?_
    refine lv_if_eq (tgt := 689) hx hb dL_law_684 (by decide) (fun c_3 => ?_) (fun c_3 => absurd (by rw [← ef1, show (lf f (p_stop u (xs (nI (5 * k) + 1).toNatClampNeg)).1 (p_stop u (xs (nI (5 * k) + 1).toNatClampNeg)).2.1) = vp_updL f (0 : Int32).toNatClampNeg (Int32.toInt64 (p_stop u (xs (nI (5 * k) + 1).toNatClampNeg)).2.1) from if_pos hc0, pk_uLs, hrs hc0]; exact l_cmp _) c_3)
    refine lv_goto (tgt := 1194) hx hb dL_law_689 (by decide) ?_
    exact K _ _ _ _ _ _ hR1 hP hD hS (lv_sub hl [2, 3, 4, 5, 6] rfl)
set_option maxHeartbeats 4000000 in
set_option maxRecDepth 100000 in
theorem lc_clear {p : Program} {l : Launch} {e : Env} {s : State} {m : MethodId} {below : List Frame} {meth : Method} {c : Code} {b L : Nat} {xs : Nat → Int32} {D : va_G} {cI cZ cJ : ClassId} {zz : (Nat → Prop) → State → Heap → Prop} {tS : Nat} {RR : Nat → St → St → Prop} {Q : State → Prop} (hsim : sx_clear RR) (Cx : lcx p l s m c b L xs D cI cZ cJ zz tS) (hL : L ≤ 2560) (ad am : Nat → Nat) (ao k : Nat) (hk : 5 * k + 5 ≤ L) (f : Nat → Int64) (u v : St) (H : Heap) (locs : List Loc) (ls : Array Slot) (hR : RR k u v) (hP : va_P D vwCl (wL ad am cI cZ cJ ao f u v) H) (hD : va_D (fun q : Nat => s.heap.size ≤ q) (wL ad am cI cZ cJ ao f u v)) (hS : va_S (fun q : Nat => s.heap.size ≤ q) s.heap H locs) (hl : lv_has ls 7 (lll b ao ad am (5 * k))) (K : ∀ (f : Nat → Int64) (u v : St) (H : Heap) (locs : List Loc) (ls : Array Slot), RR (k + 1) u v → va_P D vwCl (wL ad am cI cZ cJ ao f u v) H → va_D (fun q : Nat => s.heap.size ≤ q) (wL ad am cI cZ cJ ao f u v) → va_S (fun q : Nat => s.heap.size ≤ q) s.heap H locs → lv_has ls 7 (lll b ao ad am (5 * k)) → W p l e room_1 s m #[Value.ref b] below meth c H locs (31 + (k + 1)) (1723 + 6 * (k + 1)) Q (F0 m 1194 ls [])) : W p l e room_1 s m #[Value.ref b] below meth c H locs (31 + k) (1723 + 6 * k) Q (F0 m 692 ls []) := by
  obtain ⟨hx, hb, hml, hown, htsG, hXs, hbl, hK, hZ, hlt, hzz, hst, hxs, hnc⟩ := Cx
  have hA : ∀ q : Nat, s.heap.size ≤ q → (fun q : Nat => s.heap.size ≤ q) q := fun _ h => h
  have hbA : ¬ (fun q : Nat => s.heap.size ≤ q) b := Nat.not_le.mpr hbl
  have hKT := hK.sub (tys' := tyT cI cZ) [0, 1] rfl
  have hR1 := hsim k u v (by omega) hR
  refine lv_aload_n hx hb dL_law_692 rfl (lv_at hl 1 rfl) ?_
  refine g_callVv (As := []) (rest := []) (wr := wM am cI cZ v ++ ([(ao, .inl (cJ, 1, .inr (.inl f)))] : va_W)) (w := wT ad cI cZ u) (wb := (wL ad am cI cZ cJ ao f (p_clear u) v)) hzz ⟨hx, hb, hml, hown, htsG⟩ (c_clear l D ad cI cZ zz hzz tS hst u) (cwV 0 htsG (tb_V tw_1_153 tw_1_154 tw_1_155 tw_1_1 tw_1_156) rfl rfl rfl (by decide +kernel) ⟨Nat.le_of_ble_eq_true rfl, Nat.le_of_ble_eq_true rfl⟩) (va_recv hK hP (ci := 3) (q0 := 14) rfl rfl) rfl hl.1 rfl (lv_room (Nat.le_of_ble_eq_true rfl)) dL_law_693 ⟨by show 31 + k + 0 ≤ 1070; omega, by show 1723 + 6 * k + 0 ≤ 10005; omega⟩ (l_pT _ _ _) (l_pT' _ _ _) hP hKT hD hS hA hZ (fun H locs hP hD hS => ?_)
  generalize eu1 : p_clear u = u1 at hP hD hR1
  refine lv_aload_n hx hb dL_law_696 rfl (lv_at hl 2 rfl) ?_
  refine g_callVv (As := []) (rest := []) (wr := wO ad cI cZ cJ ao f u1) (w := wM am cI cZ v) (wb := (wL ad am cI cZ cJ ao f u1 (p_m_clear v))) hzz ⟨hx, hb, hml, hown, htsG⟩ (c_m_clear l D am cI cZ zz hzz v) (cwV 0 htsG (tb_V tw_3_214 tw_3_215 tw_3_216 tw_1_5 tw_3_217) rfl rfl rfl (by decide +kernel) ⟨Nat.le_of_ble_eq_true rfl, Nat.le_of_ble_eq_true rfl⟩) (va_recv hK hP (ci := 4) (q0 := 0) rfl rfl) rfl hl.1 rfl (lv_room (Nat.le_of_ble_eq_true rfl)) dL_law_697 ⟨by show 31 + k + 0 ≤ 1070; omega, by show 1723 + 6 * k + 0 ≤ 10005; omega⟩ List.perm_append_comm List.perm_append_comm hP hKT hD hS hA hZ (fun H locs hP hD hS => ?_)
  generalize ev1 : (p_m_clear v) = v1 at hP hD hR1
  refine W.widen (k := 31 + (k + 1)) (n := 1723 + 6 * (k + 1)) (by omega) (by omega) ?_
  refine lv_goto (tgt := 1194) hx hb dL_law_700 (by decide) ?_
  exact K _ _ _ _ _ _ hR1 hP hD hS (lv_sub hl [0, 1, 2, 3, 4] rfl)
set_option maxHeartbeats 4000000 in
set_option maxRecDepth 100000 in
theorem lc_forge {p : Program} {l : Launch} {e : Env} {s : State} {m : MethodId} {below : List Frame} {meth : Method} {c : Code} {b L : Nat} {xs : Nat → Int32} {D : va_G} {cI cZ cJ : ClassId} {zz : (Nat → Prop) → State → Heap → Prop} {tS : Nat} {RR : Nat → St → St → Prop} {Q : State → Prop} (hsim : sx_forge RR) (Cx : lcx p l s m c b L xs D cI cZ cJ zz tS) (hL : L ≤ 2560) (ad am : Nat → Nat) (ao k : Nat) (hk : 5 * k + 5 ≤ L) (f : Nat → Int64) (u v : St) (H : Heap) (locs : List Loc) (ls : Array Slot) (hR : RR k u v) (hP : va_P D vwCl (wL ad am cI cZ cJ ao f u v) H) (hD : va_D (fun q : Nat => s.heap.size ≤ q) (wL ad am cI cZ cJ ao f u v)) (hS : va_S (fun q : Nat => s.heap.size ≤ q) s.heap H locs) (hl : lv_has ls 7 (lll b ao ad am (5 * k))) (K : ∀ (f : Nat → Int64) (u v : St) (H : Heap) (locs : List Loc) (ls : Array Slot), RR (k + 1) u v → va_P D vwCl (wL ad am cI cZ cJ ao f u v) H → va_D (fun q : Nat => s.heap.size ≤ q) (wL ad am cI cZ cJ ao f u v) → va_S (fun q : Nat => s.heap.size ≤ q) s.heap H locs → lv_has ls 7 (lll b ao ad am (5 * k)) → W p l e room_1 s m #[Value.ref b] below meth c H locs (31 + (k + 1)) (1723 + 6 * (k + 1)) Q (F0 m 1194 ls [])) : W p l e room_1 s m #[Value.ref b] below meth c H locs (31 + k) (1723 + 6 * k) Q (F0 m 703 ls []) := by
  obtain ⟨hx, hb, hml, hown, htsG, hXs, hbl, hK, hZ, hlt, hzz, hst, hxs, hnc⟩ := Cx
  have hA : ∀ q : Nat, s.heap.size ≤ q → (fun q : Nat => s.heap.size ≤ q) q := fun _ h => h
  have hbA : ¬ (fun q : Nat => s.heap.size ≤ q) b := Nat.not_le.mpr hbl
  have hKT := hK.sub (tys' := tyT cI cZ) [0, 1] rfl
  obtain ⟨ok1, ok2, hcd, hth, hrs, hR1⟩ := hsim k u v (by omega) hR
  refine lv_aload_n hx hb dL_law_703 rfl (lv_at hl 1 rfl) ?_
  refine lv_aload_n hx hb dL_law_704 rfl (lv_at hl 3 rfl) ?_
  refine g_callSW (As := [.ref (ad 0), .ref ao]) (rest := []) (wr := wM am cI cZ v) (w := wO ad cI cZ cJ ao f u) (wb := (wL ad am cI cZ cJ ao (lf f (p_forge u).1 (p_forge u).2.1) (p_forge u).2.2 v)) hzz ⟨hx, hb, hml, hown, htsG⟩ (ct_forge l hlt D ad cI cZ zz hzz tS hst hxs hnc cJ ao f u ok1 hcd) (vx_cwSW 2 htsG (tb_SW tw_2_104 tw_2_105 tw_1_0 tw_2_106) rfl rfl rfl (by decide +kernel) ⟨Nat.le_of_ble_eq_true rfl, Nat.le_of_ble_eq_true rfl⟩) rfl hl.1 rfl (lv_room (Nat.le_of_ble_eq_true rfl)) dL_law_705 ⟨by show 31 + k + 1 ≤ 1070; omega, by show 1723 + 6 * k + 6 ≤ 10005; omega⟩ (List.Perm.refl _) (List.Perm.refl _) hP hK hD hS hA hZ (fun H locs hP hD hS => ?_)
  refine W.widen (k := 31 + (k + 1)) (n := 1723 + 6 * (k + 1)) (by omega) (by omega) ?_
  generalize eu1 : (p_forge u).2.2 = u1 at hP hD hR1
  generalize ef1 : (lf f (p_forge u).1 (p_forge u).2.1) = f1 at hP hD
  refine lv_istore (lv' := [(5, .int (la1 (p_forge u).1)), (0, .ref b), (1, .ref (ad 0)), (2, .ref (am 0)), (3, .ref ao), (4, .int (nI (5 * k)))]) hx hb dL_law_708 hl (by decide) rfl (fun ls hl => ?_)
  refine lv_aload_n hx hb dL_law_710 rfl (lv_at hl 3 rfl) ?_
  refine g_callVi (As := []) (rest := []) (wr := wO ad cI cZ cJ ao f1 u1) (w := wM am cI cZ v) (wb := (wL ad am cI cZ cJ ao f1 u1 (p_m_forge v).2)) hzz ⟨hx, hb, hml, hown, htsG⟩ (c_m_forge l D am cI cZ zz hzz v ok2) (cwV 0 htsG (tb_V tw_3_218 tw_3_219 tw_3_220 tw_1_5 tw_3_221) rfl rfl rfl (by decide +kernel) ⟨Nat.le_of_ble_eq_true rfl, Nat.le_of_ble_eq_true rfl⟩) (va_recv hK hP (ci := 4) (q0 := 0) rfl rfl) rfl hl.1 rfl (lv_room (Nat.le_of_ble_eq_true rfl)) dL_law_711 ⟨by show 31 + (k + 1) + 0 ≤ 1070; omega, by show 1723 + 6 * (k + 1) + 0 ≤ 10005; omega⟩ List.perm_append_comm List.perm_append_comm hP hKT hD hS hA hZ (fun H locs hP hD hS => ?_)
  generalize ev1 : (p_m_forge v).2 = v1 at hP hD hR1 hth
  refine lv_istore (lv' := [(6, .int (p_m_forge v).1), (5, .int (la1 (p_forge u).1)), (0, .ref b), (1, .ref (ad 0)), (2, .ref (am 0)), (3, .ref ao), (4, .int (nI (5 * k)))]) hx hb dL_law_714 hl (by decide) rfl (fun ls hl => ?_)
  refine lv_aload_n hx hb dL_law_716 rfl (lv_at hl 4 rfl) ?_
  refine g_callVi (As := []) (rest := []) (wr := wO ad cI cZ cJ ao f1 u1) (w := wM am cI cZ v1) (wb := (wL ad am cI cZ cJ ao f1 u1 v1)) hzz ⟨hx, hb, hml, hown, htsG⟩ (c_m_thrown l D am cI cZ zz hzz v1) (cwV 0 htsG (tb_V tw_3_168 tw_3_169 tw_3_170 tw_1_5 tw_3_171) rfl rfl rfl (by decide +kernel) ⟨Nat.le_of_ble_eq_true rfl, Nat.le_of_ble_eq_true rfl⟩) (va_recv hK hP (ci := 4) (q0 := 0) rfl rfl) rfl hl.1 rfl (lv_room (Nat.le_of_ble_eq_true rfl)) dL_law_717 ⟨by show 31 + (k + 1) + 0 ≤ 1070; omega, by show 1723 + 6 * (k + 1) + 0 ≤ 10005; omega⟩ List.perm_append_comm List.perm_append_comm hP hKT hD hS hA hZ (fun H locs hP hD hS => ?_)
  refine lv_iload hx hb dL_law_720 (lv_at hl 1 rfl) ?_
  refine lv_icmp_eq (tgt := 727) hx hb dL_law_722 (by decide) (fun c_1 => ?_) (fun c_1 => absurd hth c_1)
  refine lv_iload hx hb dL_law_727 (lv_at hl 1 rfl) ?_
  refine lv_if_ne (tgt := 744) hx hb dL_law_729 (by decide) (fun c_2 => ?_) (fun c_2 => ?_)
  · skip
    refine lv_goto (tgt := 1194) hx hb dL_law_744 (by decide) ?_
    exact K _ _ _ _ _ _ hR1 hP hD hS (lv_sub hl [2, 3, 4, 5, 6] rfl)
  · skip
    have hc0 : (p_forge u).1 = 0 := l_a0 c_2
    refine lv_aload_n hx hb dL_law_732 rfl (lv_at hl 5 rfl) ?_
    refine lv_iconst (v := 0) hx hb dL_law_733 (by decide) ?_
    refine va_lald (f := f1) hx hb hK hP 13 2 rfl rfl l_in0 dL_law_734 ?_
    refine lv_iload hx hb dL_law_735 (lv_at hl 0 rfl) ?_
    refine lv_i2l (v := Int32.toInt64 (p_m_forge v).1) hx hb dL_law_737 rfl ?_
    refine W.lcmp hx hb dL_law_738 ?_
    refine lv_if_eq (tgt := 744) hx hb dL_law_739 (by decide) (fun c_3 => ?_) (fun c_3 => absurd (by rw [← ef1, show (lf f (p_forge u).1 (p_forge u).2.1) = vp_updL f (0 : Int32).toNatClampNeg (Int32.toInt64 (p_forge u).2.1) from if_pos hc0, pk_uLs, hrs hc0]; exact l_cmp _) c_3)
    refine lv_goto (tgt := 1194) hx hb dL_law_744 (by decide) ?_
    exact K _ _ _ _ _ _ hR1 hP hD hS (lv_sub hl [2, 3, 4, 5, 6] rfl)
set_option maxHeartbeats 4000000 in
set_option maxRecDepth 100000 in
theorem lc_halfword {p : Program} {l : Launch} {e : Env} {s : State} {m : MethodId} {below : List Frame} {meth : Method} {c : Code} {b L : Nat} {xs : Nat → Int32} {D : va_G} {cI cZ cJ : ClassId} {zz : (Nat → Prop) → State → Heap → Prop} {tS : Nat} {RR : Nat → St → St → Prop} {Q : State → Prop} (hsim : sx_halfword RR) (Cx : lcx p l s m c b L xs D cI cZ cJ zz tS) (hL : L ≤ 2560) (ad am : Nat → Nat) (ao k : Nat) (hk : 5 * k + 5 ≤ L) (f : Nat → Int64) (u v : St) (H : Heap) (locs : List Loc) (ls : Array Slot) (hR : RR k u v) (hP : va_P D vwCl (wL ad am cI cZ cJ ao f u v) H) (hD : va_D (fun q : Nat => s.heap.size ≤ q) (wL ad am cI cZ cJ ao f u v)) (hS : va_S (fun q : Nat => s.heap.size ≤ q) s.heap H locs) (hl : lv_has ls 7 (lll b ao ad am (5 * k))) (K : ∀ (f : Nat → Int64) (u v : St) (H : Heap) (locs : List Loc) (ls : Array Slot), RR (k + 1) u v → va_P D vwCl (wL ad am cI cZ cJ ao f u v) H → va_D (fun q : Nat => s.heap.size ≤ q) (wL ad am cI cZ cJ ao f u v) → va_S (fun q : Nat => s.heap.size ≤ q) s.heap H locs → lv_has ls 7 (lll b ao ad am (5 * k)) → W p l e room_1 s m #[Value.ref b] below meth c H locs (31 + (k + 1)) (1723 + 6 * (k + 1)) Q (F0 m 1194 ls [])) : W p l e room_1 s m #[Value.ref b] below meth c H locs (31 + k) (1723 + 6 * k) Q (F0 m 747 ls []) := by
  obtain ⟨hx, hb, hml, hown, htsG, hXs, hbl, hK, hZ, hlt, hzz, hst, hxs, hnc⟩ := Cx
  have hA : ∀ q : Nat, s.heap.size ≤ q → (fun q : Nat => s.heap.size ≤ q) q := fun _ h => h
  have hbA : ¬ (fun q : Nat => s.heap.size ≤ q) b := Nat.not_le.mpr hbl
  have hKT := hK.sub (tys' := tyT cI cZ) [0, 1] rfl
  have hi1 : vp_in (nI (5 * k) + 1) L := l_ix 1 1 rfl (by omega) hL
  obtain ⟨ok1, ok2, hcd, hth, hrs, hR1⟩ := hsim k u v (xs (nI (5 * k) + 1).toNatClampNeg) (by omega) hR
  refine lv_aload_n hx hb dL_law_747 rfl (lv_at hl 1 rfl) ?_
  refine lv_aload_n hx hb dL_law_748 rfl (lv_at hl 0 rfl) ?_
  refine lv_iload hx hb dL_law_749 (lv_at hl 4 rfl) ?_
  refine lv_iconst (v := 1) hx hb dL_law_751 (by decide) ?_
  refine lv_iadd hx hb dL_law_752 ?_
  refine va_sld hx hb hXs hbl hbA hS hi1 dL_law_753 ?_
  refine lv_aload_n hx hb dL_law_754 rfl (lv_at hl 3 rfl) ?_
  refine g_callSW (As := [.ref (ad 0), .int (xs (nI (5 * k) + 1).toNatClampNeg), .ref ao]) (rest := []) (wr := wM am cI cZ v) (w := wO ad cI cZ cJ ao f u) (wb := (wL ad am cI cZ cJ ao (lf f (p_halfword u (xs (nI (5 * k) + 1).toNatClampNeg)).1 (p_halfword u (xs (nI (5 * k) + 1).toNatClampNeg)).2.1) (p_halfword u (xs (nI (5 * k) + 1).toNatClampNeg)).2.2 v)) hzz ⟨hx, hb, hml, hown, htsG⟩ (ct_halfword l hlt D ad cI cZ zz hzz tS hst hxs hnc cJ ao f u (xs (nI (5 * k) + 1).toNatClampNeg) ok1 hcd) (vx_cwSW 3 htsG (tb_SW tw_2_217 tw_2_218 tw_1_0 tw_2_219) rfl rfl rfl (by decide +kernel) ⟨Nat.le_of_ble_eq_true rfl, Nat.le_of_ble_eq_true rfl⟩) rfl hl.1 rfl (lv_room (Nat.le_of_ble_eq_true rfl)) dL_law_755 ⟨by show 31 + k + 1 ≤ 1070; omega, by show 1723 + 6 * k + 6 ≤ 10005; omega⟩ (List.Perm.refl _) (List.Perm.refl _) hP hK hD hS hA hZ (fun H locs hP hD hS => ?_)
  refine W.widen (k := 31 + (k + 1)) (n := 1723 + 6 * (k + 1)) (by omega) (by omega) ?_
  generalize eu1 : (p_halfword u (xs (nI (5 * k) + 1).toNatClampNeg)).2.2 = u1 at hP hD hR1
  generalize ef1 : (lf f (p_halfword u (xs (nI (5 * k) + 1).toNatClampNeg)).1 (p_halfword u (xs (nI (5 * k) + 1).toNatClampNeg)).2.1) = f1 at hP hD
  refine lv_istore (lv' := [(5, .int (la1 (p_halfword u (xs (nI (5 * k) + 1).toNatClampNeg)).1)), (0, .ref b), (1, .ref (ad 0)), (2, .ref (am 0)), (3, .ref ao), (4, .int (nI (5 * k)))]) hx hb dL_law_758 hl (by decide) rfl (fun ls hl => ?_)
  refine lv_aload_n hx hb dL_law_760 rfl (lv_at hl 3 rfl) ?_
  refine lv_aload_n hx hb dL_law_761 rfl (lv_at hl 1 rfl) ?_
  refine lv_iload hx hb dL_law_762 (lv_at hl 5 rfl) ?_
  refine lv_iconst (v := 1) hx hb dL_law_764 (by decide) ?_
  refine lv_iadd hx hb dL_law_765 ?_
  refine va_sld hx hb hXs hbl hbA hS hi1 dL_law_766 ?_
  refine g_callVi (As := [.int (xs (nI (5 * k) + 1).toNatClampNeg)]) (rest := []) (wr := wO ad cI cZ cJ ao f1 u1) (w := wM am cI cZ v) (wb := (wL ad am cI cZ cJ ao f1 u1 (p_m_halfword v ((xs (nI (5 * k) + 1).toNatClampNeg))).2)) hzz ⟨hx, hb, hml, hown, htsG⟩ (c_m_halfword l D am cI cZ zz hzz v ((xs (nI (5 * k) + 1).toNatClampNeg)) ok2) (cwV 1 htsG (tb_V tw_4_73 tw_4_74 tw_4_75 tw_1_5 tw_4_76) rfl rfl rfl (by decide +kernel) ⟨Nat.le_of_ble_eq_true rfl, Nat.le_of_ble_eq_true rfl⟩) (va_recv hK hP (ci := 4) (q0 := 0) rfl rfl) rfl hl.1 rfl (lv_room (Nat.le_of_ble_eq_true rfl)) dL_law_767 ⟨by show 31 + (k + 1) + 0 ≤ 1070; omega, by show 1723 + 6 * (k + 1) + 0 ≤ 10005; omega⟩ List.perm_append_comm List.perm_append_comm hP hKT hD hS hA hZ (fun H locs hP hD hS => ?_)
  generalize ev1 : (p_m_halfword v ((xs (nI (5 * k) + 1).toNatClampNeg))).2 = v1 at hP hD hR1 hth
  refine lv_istore (lv' := [(6, .int (p_m_halfword v ((xs (nI (5 * k) + 1).toNatClampNeg))).1), (5, .int (la1 (p_halfword u (xs (nI (5 * k) + 1).toNatClampNeg)).1)), (0, .ref b), (1, .ref (ad 0)), (2, .ref (am 0)), (3, .ref ao), (4, .int (nI (5 * k)))]) hx hb dL_law_770 hl (by decide) rfl (fun ls hl => ?_)
  refine lv_aload_n hx hb dL_law_772 rfl (lv_at hl 4 rfl) ?_
  refine g_callVi (As := []) (rest := []) (wr := wO ad cI cZ cJ ao f1 u1) (w := wM am cI cZ v1) (wb := (wL ad am cI cZ cJ ao f1 u1 v1)) hzz ⟨hx, hb, hml, hown, htsG⟩ (c_m_thrown l D am cI cZ zz hzz v1) (cwV 0 htsG (tb_V tw_3_168 tw_3_169 tw_3_170 tw_1_5 tw_3_171) rfl rfl rfl (by decide +kernel) ⟨Nat.le_of_ble_eq_true rfl, Nat.le_of_ble_eq_true rfl⟩) (va_recv hK hP (ci := 4) (q0 := 0) rfl rfl) rfl hl.1 rfl (lv_room (Nat.le_of_ble_eq_true rfl)) dL_law_773 ⟨by show 31 + (k + 1) + 0 ≤ 1070; omega, by show 1723 + 6 * (k + 1) + 0 ≤ 10005; omega⟩ List.perm_append_comm List.perm_append_comm hP hKT hD hS hA hZ (fun H locs hP hD hS => ?_)
  refine lv_iload hx hb dL_law_776 (lv_at hl 1 rfl) ?_
  refine lv_icmp_eq (tgt := 783) hx hb dL_law_778 (by decide) (fun c_1 => ?_) (fun c_1 => absurd hth c_1)
  refine lv_iload hx hb dL_law_783 (lv_at hl 1 rfl) ?_
  refine lv_if_ne (tgt := 800) hx hb dL_law_785 (by decide) (fun c_2 => ?_) (fun c_2 => ?_)
  · skip
    refine lv_goto (tgt := 1194) hx hb dL_law_800 (by decide) ?_
    exact K _ _ _ _ _ _ hR1 hP hD hS (lv_sub hl [2, 3, 4, 5, 6] rfl)
  · skip
    have hc0 : (p_halfword u (xs (nI (5 * k) + 1).toNatClampNeg)).1 = 0 := l_a0 c_2
    refine lv_aload_n hx hb dL_law_788 rfl (lv_at hl 5 rfl) ?_
    refine lv_iconst (v := 0) hx hb dL_law_789 (by decide) ?_
    refine va_lald (f := f1) hx hb hK hP 13 2 rfl rfl l_in0 dL_law_790 ?_
    refine lv_iload hx hb dL_law_791 (lv_at hl 0 rfl) ?_
    refine lv_i2l (v := Int32.toInt64 (p_m_halfword v ((xs (nI (5 * k) + 1).toNatClampNeg))).1) hx hb dL_law_793 rfl ?_
    refine W.lcmp hx hb dL_law_794 ?_
    refine lv_if_eq (tgt := 800) hx hb dL_law_795 (by decide) (fun c_3 => ?_) (fun c_3 => absurd (by rw [← ef1, show (lf f (p_halfword u (xs (nI (5 * k) + 1).toNatClampNeg)).1 (p_halfword u (xs (nI (5 * k) + 1).toNatClampNeg)).2.1) = vp_updL f (0 : Int32).toNatClampNeg (Int32.toInt64 (p_halfword u (xs (nI (5 * k) + 1).toNatClampNeg)).2.1) from if_pos hc0, pk_uLs, hrs hc0]; exact l_cmp _) c_3)
    refine lv_goto (tgt := 1194) hx hb dL_law_800 (by decide) ?_
    exact K _ _ _ _ _ _ hR1 hP hD hS (lv_sub hl [2, 3, 4, 5, 6] rfl)
set_option maxHeartbeats 4000000 in
set_option maxRecDepth 100000 in
theorem lc_place {p : Program} {l : Launch} {e : Env} {s : State} {m : MethodId} {below : List Frame} {meth : Method} {c : Code} {b L : Nat} {xs : Nat → Int32} {D : va_G} {cI cZ cJ : ClassId} {zz : (Nat → Prop) → State → Heap → Prop} {tS : Nat} {RR : Nat → St → St → Prop} {Q : State → Prop} (hsim : sx_place RR) (Cx : lcx p l s m c b L xs D cI cZ cJ zz tS) (hL : L ≤ 2560) (ad am : Nat → Nat) (ao k : Nat) (hk : 5 * k + 5 ≤ L) (f : Nat → Int64) (u v : St) (H : Heap) (locs : List Loc) (ls : Array Slot) (hR : RR k u v) (hP : va_P D vwCl (wL ad am cI cZ cJ ao f u v) H) (hD : va_D (fun q : Nat => s.heap.size ≤ q) (wL ad am cI cZ cJ ao f u v)) (hS : va_S (fun q : Nat => s.heap.size ≤ q) s.heap H locs) (hl : lv_has ls 7 (lll b ao ad am (5 * k))) (K : ∀ (f : Nat → Int64) (u v : St) (H : Heap) (locs : List Loc) (ls : Array Slot), RR (k + 1) u v → va_P D vwCl (wL ad am cI cZ cJ ao f u v) H → va_D (fun q : Nat => s.heap.size ≤ q) (wL ad am cI cZ cJ ao f u v) → va_S (fun q : Nat => s.heap.size ≤ q) s.heap H locs → lv_has ls 7 (lll b ao ad am (5 * k)) → W p l e room_1 s m #[Value.ref b] below meth c H locs (31 + (k + 1)) (1723 + 6 * (k + 1)) Q (F0 m 1194 ls [])) : W p l e room_1 s m #[Value.ref b] below meth c H locs (31 + k) (1723 + 6 * k) Q (F0 m 803 ls []) := by
  obtain ⟨hx, hb, hml, hown, htsG, hXs, hbl, hK, hZ, hlt, hzz, hst, hxs, hnc⟩ := Cx
  have hA : ∀ q : Nat, s.heap.size ≤ q → (fun q : Nat => s.heap.size ≤ q) q := fun _ h => h
  have hbA : ¬ (fun q : Nat => s.heap.size ≤ q) b := Nat.not_le.mpr hbl
  have hKT := hK.sub (tys' := tyT cI cZ) [0, 1] rfl
  have hi1 : vp_in (nI (5 * k) + 1) L := l_ix 1 1 rfl (by omega) hL
  obtain ⟨ok1, ok2, hcd, hth, hrs, hR1⟩ := hsim k u v (xs (nI (5 * k) + 1).toNatClampNeg) (by omega) hR
  refine lv_aload_n hx hb dL_law_803 rfl (lv_at hl 1 rfl) ?_
  refine lv_aload_n hx hb dL_law_804 rfl (lv_at hl 0 rfl) ?_
  refine lv_iload hx hb dL_law_805 (lv_at hl 4 rfl) ?_
  refine lv_iconst (v := 1) hx hb dL_law_807 (by decide) ?_
  refine lv_iadd hx hb dL_law_808 ?_
  refine va_sld hx hb hXs hbl hbA hS hi1 dL_law_809 ?_
  refine lv_aload_n hx hb dL_law_810 rfl (lv_at hl 3 rfl) ?_
  refine g_callSW (As := [.ref (ad 0), .int (xs (nI (5 * k) + 1).toNatClampNeg), .ref ao]) (rest := []) (wr := wM am cI cZ v) (w := wO ad cI cZ cJ ao f u) (wb := (wL ad am cI cZ cJ ao (lf f (p_place u (xs (nI (5 * k) + 1).toNatClampNeg)).1 (p_place u (xs (nI (5 * k) + 1).toNatClampNeg)).2.1) (p_place u (xs (nI (5 * k) + 1).toNatClampNeg)).2.2 v)) hzz ⟨hx, hb, hml, hown, htsG⟩ (ct_place l hlt D ad cI cZ zz hzz tS hst hxs hnc cJ ao f u (xs (nI (5 * k) + 1).toNatClampNeg) ok1 hcd) (vx_cwSW 3 htsG (tb_SW tw_3_1 tw_3_2 tw_1_0 tw_3_3) rfl rfl rfl (by decide +kernel) ⟨Nat.le_of_ble_eq_true rfl, Nat.le_of_ble_eq_true rfl⟩) rfl hl.1 rfl (lv_room (Nat.le_of_ble_eq_true rfl)) dL_law_811 ⟨by show 31 + k + 1 ≤ 1070; omega, by show 1723 + 6 * k + 6 ≤ 10005; omega⟩ (List.Perm.refl _) (List.Perm.refl _) hP hK hD hS hA hZ (fun H locs hP hD hS => ?_)
  refine W.widen (k := 31 + (k + 1)) (n := 1723 + 6 * (k + 1)) (by omega) (by omega) ?_
  generalize eu1 : (p_place u (xs (nI (5 * k) + 1).toNatClampNeg)).2.2 = u1 at hP hD hR1
  generalize ef1 : (lf f (p_place u (xs (nI (5 * k) + 1).toNatClampNeg)).1 (p_place u (xs (nI (5 * k) + 1).toNatClampNeg)).2.1) = f1 at hP hD
  refine lv_istore (lv' := [(5, .int (la1 (p_place u (xs (nI (5 * k) + 1).toNatClampNeg)).1)), (0, .ref b), (1, .ref (ad 0)), (2, .ref (am 0)), (3, .ref ao), (4, .int (nI (5 * k)))]) hx hb dL_law_814 hl (by decide) rfl (fun ls hl => ?_)
  refine lv_aload_n hx hb dL_law_816 rfl (lv_at hl 3 rfl) ?_
  refine lv_aload_n hx hb dL_law_817 rfl (lv_at hl 1 rfl) ?_
  refine lv_iload hx hb dL_law_818 (lv_at hl 5 rfl) ?_
  refine lv_iconst (v := 1) hx hb dL_law_820 (by decide) ?_
  refine lv_iadd hx hb dL_law_821 ?_
  refine va_sld hx hb hXs hbl hbA hS hi1 dL_law_822 ?_
  refine g_callVi (As := [.int (xs (nI (5 * k) + 1).toNatClampNeg)]) (rest := []) (wr := wO ad cI cZ cJ ao f1 u1) (w := wM am cI cZ v) (wb := (wL ad am cI cZ cJ ao f1 u1 (p_m_place v ((xs (nI (5 * k) + 1).toNatClampNeg))).2)) hzz ⟨hx, hb, hml, hown, htsG⟩ (c_m_place l D am cI cZ zz hzz v ((xs (nI (5 * k) + 1).toNatClampNeg)) ok2) (cwV 1 htsG (tb_V tw_4_77 tw_4_78 tw_4_79 tw_1_5 tw_4_80) rfl rfl rfl (by decide +kernel) ⟨Nat.le_of_ble_eq_true rfl, Nat.le_of_ble_eq_true rfl⟩) (va_recv hK hP (ci := 4) (q0 := 0) rfl rfl) rfl hl.1 rfl (lv_room (Nat.le_of_ble_eq_true rfl)) dL_law_823 ⟨by show 31 + (k + 1) + 0 ≤ 1070; omega, by show 1723 + 6 * (k + 1) + 0 ≤ 10005; omega⟩ List.perm_append_comm List.perm_append_comm hP hKT hD hS hA hZ (fun H locs hP hD hS => ?_)
  generalize ev1 : (p_m_place v ((xs (nI (5 * k) + 1).toNatClampNeg))).2 = v1 at hP hD hR1 hth
  refine lv_istore (lv' := [(6, .int (p_m_place v ((xs (nI (5 * k) + 1).toNatClampNeg))).1), (5, .int (la1 (p_place u (xs (nI (5 * k) + 1).toNatClampNeg)).1)), (0, .ref b), (1, .ref (ad 0)), (2, .ref (am 0)), (3, .ref ao), (4, .int (nI (5 * k)))]) hx hb dL_law_826 hl (by decide) rfl (fun ls hl => ?_)
  refine lv_aload_n hx hb dL_law_828 rfl (lv_at hl 4 rfl) ?_
  refine g_callVi (As := []) (rest := []) (wr := wO ad cI cZ cJ ao f1 u1) (w := wM am cI cZ v1) (wb := (wL ad am cI cZ cJ ao f1 u1 v1)) hzz ⟨hx, hb, hml, hown, htsG⟩ (c_m_thrown l D am cI cZ zz hzz v1) (cwV 0 htsG (tb_V tw_3_168 tw_3_169 tw_3_170 tw_1_5 tw_3_171) rfl rfl rfl (by decide +kernel) ⟨Nat.le_of_ble_eq_true rfl, Nat.le_of_ble_eq_true rfl⟩) (va_recv hK hP (ci := 4) (q0 := 0) rfl rfl) rfl hl.1 rfl (lv_room (Nat.le_of_ble_eq_true rfl)) dL_law_829 ⟨by show 31 + (k + 1) + 0 ≤ 1070; omega, by show 1723 + 6 * (k + 1) + 0 ≤ 10005; omega⟩ List.perm_append_comm List.perm_append_comm hP hKT hD hS hA hZ (fun H locs hP hD hS => ?_)
  refine lv_iload hx hb dL_law_832 (lv_at hl 1 rfl) ?_
  refine lv_icmp_eq (tgt := 839) hx hb dL_law_834 (by decide) (fun c_1 => ?_) (fun c_1 => absurd hth c_1)
  refine lv_iload hx hb dL_law_839 (lv_at hl 1 rfl) ?_
  refine lv_if_ne (tgt := 856) hx hb dL_law_841 (by decide) (fun c_2 => ?_) (fun c_2 => ?_)
  · skip
    refine lv_goto (tgt := 1194) hx hb dL_law_856 (by decide) ?_
    exact K _ _ _ _ _ _ hR1 hP hD hS (lv_sub hl [2, 3, 4, 5, 6] rfl)
  · skip
    have hc0 : (p_place u (xs (nI (5 * k) + 1).toNatClampNeg)).1 = 0 := l_a0 c_2
    refine lv_aload_n hx hb dL_law_844 rfl (lv_at hl 5 rfl) ?_
    refine lv_iconst (v := 0) hx hb dL_law_845 (by decide) ?_
    refine va_lald (f := f1) hx hb hK hP 13 2 rfl rfl l_in0 dL_law_846 ?_
    refine lv_iload hx hb dL_law_847 (lv_at hl 0 rfl) ?_
    refine lv_i2l (v := Int32.toInt64 (p_m_place v ((xs (nI (5 * k) + 1).toNatClampNeg))).1) hx hb dL_law_849 rfl ?_
    refine W.lcmp hx hb dL_law_850 ?_
    refine lv_if_eq (tgt := 856) hx hb dL_law_851 (by decide) (fun c_3 => ?_) (fun c_3 => absurd (by rw [← ef1, show (lf f (p_place u (xs (nI (5 * k) + 1).toNatClampNeg)).1 (p_place u (xs (nI (5 * k) + 1).toNatClampNeg)).2.1) = vp_updL f (0 : Int32).toNatClampNeg (Int32.toInt64 (p_place u (xs (nI (5 * k) + 1).toNatClampNeg)).2.1) from if_pos hc0, pk_uLs, hrs hc0]; exact l_cmp _) c_3)
    refine lv_goto (tgt := 1194) hx hb dL_law_856 (by decide) ?_
    exact K _ _ _ _ _ _ hR1 hP hD hS (lv_sub hl [2, 3, 4, 5, 6] rfl)
set_option maxHeartbeats 4000000 in
set_option maxRecDepth 100000 in
theorem lc_poke {p : Program} {l : Launch} {e : Env} {s : State} {m : MethodId} {below : List Frame} {meth : Method} {c : Code} {b L : Nat} {xs : Nat → Int32} {D : va_G} {cI cZ cJ : ClassId} {zz : (Nat → Prop) → State → Heap → Prop} {tS : Nat} {RR : Nat → St → St → Prop} {Q : State → Prop} (hsim : sx_poke RR) (Cx : lcx p l s m c b L xs D cI cZ cJ zz tS) (hL : L ≤ 2560) (ad am : Nat → Nat) (ao k : Nat) (hk : 5 * k + 5 ≤ L) (f : Nat → Int64) (u v : St) (H : Heap) (locs : List Loc) (ls : Array Slot) (hR : RR k u v) (hP : va_P D vwCl (wL ad am cI cZ cJ ao f u v) H) (hD : va_D (fun q : Nat => s.heap.size ≤ q) (wL ad am cI cZ cJ ao f u v)) (hS : va_S (fun q : Nat => s.heap.size ≤ q) s.heap H locs) (hl : lv_has ls 7 (lll b ao ad am (5 * k))) (K : ∀ (f : Nat → Int64) (u v : St) (H : Heap) (locs : List Loc) (ls : Array Slot), RR (k + 1) u v → va_P D vwCl (wL ad am cI cZ cJ ao f u v) H → va_D (fun q : Nat => s.heap.size ≤ q) (wL ad am cI cZ cJ ao f u v) → va_S (fun q : Nat => s.heap.size ≤ q) s.heap H locs → lv_has ls 7 (lll b ao ad am (5 * k)) → W p l e room_1 s m #[Value.ref b] below meth c H locs (31 + (k + 1)) (1723 + 6 * (k + 1)) Q (F0 m 1194 ls [])) : W p l e room_1 s m #[Value.ref b] below meth c H locs (31 + k) (1723 + 6 * k) Q (F0 m 859 ls []) := by
  obtain ⟨hx, hb, hml, hown, htsG, hXs, hbl, hK, hZ, hlt, hzz, hst, hxs, hnc⟩ := Cx
  have hA : ∀ q : Nat, s.heap.size ≤ q → (fun q : Nat => s.heap.size ≤ q) q := fun _ h => h
  have hbA : ¬ (fun q : Nat => s.heap.size ≤ q) b := Nat.not_le.mpr hbl
  have hKT := hK.sub (tys' := tyT cI cZ) [0, 1] rfl
  have hi1 : vp_in (nI (5 * k) + 1) L := l_ix 1 1 rfl (by omega) hL
  have hi2 : vp_in (nI (5 * k) + 2) L := l_ix 2 2 rfl (by omega) hL
  obtain ⟨ok1, ok2, hcd, hth, hR1⟩ := hsim k u v (xs (nI (5 * k) + 1).toNatClampNeg) (xs (nI (5 * k) + 2).toNatClampNeg) (by omega) hR
  refine lv_aload_n hx hb dL_law_859 rfl (lv_at hl 1 rfl) ?_
  refine lv_aload_n hx hb dL_law_860 rfl (lv_at hl 0 rfl) ?_
  refine lv_iload hx hb dL_law_861 (lv_at hl 4 rfl) ?_
  refine lv_iconst (v := 1) hx hb dL_law_863 (by decide) ?_
  refine lv_iadd hx hb dL_law_864 ?_
  refine va_sld hx hb hXs hbl hbA hS hi1 dL_law_865 ?_
  refine lv_aload_n hx hb dL_law_866 rfl (lv_at hl 0 rfl) ?_
  refine lv_iload hx hb dL_law_867 (lv_at hl 4 rfl) ?_
  refine lv_iconst (v := 2) hx hb dL_law_869 (by decide) ?_
  refine lv_iadd hx hb dL_law_870 ?_
  refine va_sld hx hb hXs hbl hbA hS hi2 dL_law_871 ?_
  refine g_callSW (As := [.ref (ad 0), .int (xs (nI (5 * k) + 1).toNatClampNeg), .int (xs (nI (5 * k) + 2).toNatClampNeg)]) (rest := []) (wr := wM am cI cZ v) (w := wO ad cI cZ cJ ao f u) (wb := (wL ad am cI cZ cJ ao f (p_poke u (xs (nI (5 * k) + 1).toNatClampNeg) (xs (nI (5 * k) + 2).toNatClampNeg)).2.2 v)) hzz ⟨hx, hb, hml, hown, htsG⟩ (ct_poke l hlt D ad cI cZ zz hzz tS hst hxs hnc cJ ao f u (xs (nI (5 * k) + 1).toNatClampNeg) (xs (nI (5 * k) + 2).toNatClampNeg) ok1 hcd) (vx_cwSW 3 htsG (tb_SW tw_3_9 tw_3_10 tw_1_0 tw_3_11) rfl rfl rfl (by decide +kernel) ⟨Nat.le_of_ble_eq_true rfl, Nat.le_of_ble_eq_true rfl⟩) rfl hl.1 rfl (lv_room (Nat.le_of_ble_eq_true rfl)) dL_law_872 ⟨by show 31 + k + 1 ≤ 1070; omega, by show 1723 + 6 * k + 6 ≤ 10005; omega⟩ (List.Perm.refl _) (List.Perm.refl _) hP hK hD hS hA hZ (fun H locs hP hD hS => ?_)
  refine W.widen (k := 31 + (k + 1)) (n := 1723 + 6 * (k + 1)) (by omega) (by omega) ?_
  generalize eu1 : (p_poke u (xs (nI (5 * k) + 1).toNatClampNeg) (xs (nI (5 * k) + 2).toNatClampNeg)).2.2 = u1 at hP hD hR1
  refine lv_istore (lv' := [(5, .int (la1 (p_poke u (xs (nI (5 * k) + 1).toNatClampNeg) (xs (nI (5 * k) + 2).toNatClampNeg)).1)), (0, .ref b), (1, .ref (ad 0)), (2, .ref (am 0)), (3, .ref ao), (4, .int (nI (5 * k)))]) hx hb dL_law_875 hl (by decide) rfl (fun ls hl => ?_)
  refine lv_aload_n hx hb dL_law_877 rfl (lv_at hl 3 rfl) ?_
  refine lv_aload_n hx hb dL_law_878 rfl (lv_at hl 1 rfl) ?_
  refine lv_iload hx hb dL_law_879 (lv_at hl 5 rfl) ?_
  refine lv_iconst (v := 1) hx hb dL_law_881 (by decide) ?_
  refine lv_iadd hx hb dL_law_882 ?_
  refine va_sld hx hb hXs hbl hbA hS hi1 dL_law_883 ?_
  refine lv_aload_n hx hb dL_law_884 rfl (lv_at hl 1 rfl) ?_
  refine lv_iload hx hb dL_law_885 (lv_at hl 5 rfl) ?_
  refine lv_iconst (v := 2) hx hb dL_law_887 (by decide) ?_
  refine lv_iadd hx hb dL_law_888 ?_
  refine va_sld hx hb hXs hbl hbA hS hi2 dL_law_889 ?_
  refine g_callVv (As := [.int (xs (nI (5 * k) + 1).toNatClampNeg), .int (xs (nI (5 * k) + 2).toNatClampNeg)]) (rest := []) (wr := wO ad cI cZ cJ ao f u1) (w := wM am cI cZ v) (wb := (wL ad am cI cZ cJ ao f u1 (p_m_poke v ((xs (nI (5 * k) + 1).toNatClampNeg)) ((xs (nI (5 * k) + 2).toNatClampNeg))))) hzz ⟨hx, hb, hml, hown, htsG⟩ (c_m_poke l D am cI cZ zz hzz v ((xs (nI (5 * k) + 1).toNatClampNeg)) ((xs (nI (5 * k) + 2).toNatClampNeg)) ok2) (cwV 2 htsG (tb_V tw_4_81 tw_4_82 tw_4_83 tw_1_5 tw_4_84) rfl rfl rfl (by decide +kernel) ⟨Nat.le_of_ble_eq_true rfl, Nat.le_of_ble_eq_true rfl⟩) (va_recv hK hP (ci := 4) (q0 := 0) rfl rfl) rfl hl.1 rfl (lv_room (Nat.le_of_ble_eq_true rfl)) dL_law_890 ⟨by show 31 + (k + 1) + 0 ≤ 1070; omega, by show 1723 + 6 * (k + 1) + 0 ≤ 10005; omega⟩ List.perm_append_comm List.perm_append_comm hP hKT hD hS hA hZ (fun H locs hP hD hS => ?_)
  generalize ev1 : (p_m_poke v ((xs (nI (5 * k) + 1).toNatClampNeg)) ((xs (nI (5 * k) + 2).toNatClampNeg))) = v1 at hP hD hR1 hth
  refine lv_aload_n hx hb dL_law_893 rfl (lv_at hl 3 rfl) ?_
  refine g_callVi (As := []) (rest := []) (wr := wO ad cI cZ cJ ao f u1) (w := wM am cI cZ v1) (wb := (wL ad am cI cZ cJ ao f u1 v1)) hzz ⟨hx, hb, hml, hown, htsG⟩ (c_m_thrown l D am cI cZ zz hzz v1) (cwV 0 htsG (tb_V tw_3_168 tw_3_169 tw_3_170 tw_1_5 tw_3_171) rfl rfl rfl (by decide +kernel) ⟨Nat.le_of_ble_eq_true rfl, Nat.le_of_ble_eq_true rfl⟩) (va_recv hK hP (ci := 4) (q0 := 0) rfl rfl) rfl hl.1 rfl (lv_room (Nat.le_of_ble_eq_true rfl)) dL_law_894 ⟨by show 31 + (k + 1) + 0 ≤ 1070; omega, by show 1723 + 6 * (k + 1) + 0 ≤ 10005; omega⟩ List.perm_append_comm List.perm_append_comm hP hKT hD hS hA hZ (fun H locs hP hD hS => ?_)
  refine lv_iload hx hb dL_law_897 (lv_at hl 0 rfl) ?_
  refine lv_icmp_eq (tgt := 904) hx hb dL_law_899 (by decide) (fun c_1 => ?_) (fun c_1 => absurd hth c_1)
  refine lv_goto (tgt := 1194) hx hb dL_law_904 (by decide) ?_
  exact K _ _ _ _ _ _ hR1 hP hD hS (lv_sub hl [1, 2, 3, 4, 5] rfl)
set_option maxHeartbeats 4000000 in
set_option maxRecDepth 100000 in
theorem lc_memory {p : Program} {l : Launch} {e : Env} {s : State} {m : MethodId} {below : List Frame} {meth : Method} {c : Code} {b L : Nat} {xs : Nat → Int32} {D : va_G} {cI cZ cJ : ClassId} {zz : (Nat → Prop) → State → Heap → Prop} {tS : Nat} {RR : Nat → St → St → Prop} {Q : State → Prop} (hsim : sx_memory RR) (Cx : lcx p l s m c b L xs D cI cZ cJ zz tS) (hL : L ≤ 2560) (ad am : Nat → Nat) (ao k : Nat) (hk : 5 * k + 5 ≤ L) (f : Nat → Int64) (u v : St) (H : Heap) (locs : List Loc) (ls : Array Slot) (hR : RR k u v) (hP : va_P D vwCl (wL ad am cI cZ cJ ao f u v) H) (hD : va_D (fun q : Nat => s.heap.size ≤ q) (wL ad am cI cZ cJ ao f u v)) (hS : va_S (fun q : Nat => s.heap.size ≤ q) s.heap H locs) (hl : lv_has ls 7 (lll b ao ad am (5 * k))) (K : ∀ (f : Nat → Int64) (u v : St) (H : Heap) (locs : List Loc) (ls : Array Slot), RR (k + 1) u v → va_P D vwCl (wL ad am cI cZ cJ ao f u v) H → va_D (fun q : Nat => s.heap.size ≤ q) (wL ad am cI cZ cJ ao f u v) → va_S (fun q : Nat => s.heap.size ≤ q) s.heap H locs → lv_has ls 7 (lll b ao ad am (5 * k)) → W p l e room_1 s m #[Value.ref b] below meth c H locs (31 + (k + 1)) (1723 + 6 * (k + 1)) Q (F0 m 1194 ls [])) : W p l e room_1 s m #[Value.ref b] below meth c H locs (31 + k) (1723 + 6 * k) Q (F0 m 907 ls []) := by
  obtain ⟨hx, hb, hml, hown, htsG, hXs, hbl, hK, hZ, hlt, hzz, hst, hxs, hnc⟩ := Cx
  have hA : ∀ q : Nat, s.heap.size ≤ q → (fun q : Nat => s.heap.size ≤ q) q := fun _ h => h
  have hbA : ¬ (fun q : Nat => s.heap.size ≤ q) b := Nat.not_le.mpr hbl
  have hKT := hK.sub (tys' := tyT cI cZ) [0, 1] rfl
  have hi1 : vp_in (nI (5 * k) + 1) L := l_ix 1 1 rfl (by omega) hL
  obtain ⟨ok1, ok2, hcd, hth, hrs, hR1⟩ := hsim k u v (xs (nI (5 * k) + 1).toNatClampNeg) (by omega) hR
  refine lv_aload_n hx hb dL_law_907 rfl (lv_at hl 1 rfl) ?_
  refine lv_aload_n hx hb dL_law_908 rfl (lv_at hl 0 rfl) ?_
  refine lv_iload hx hb dL_law_909 (lv_at hl 4 rfl) ?_
  refine lv_iconst (v := 1) hx hb dL_law_911 (by decide) ?_
  refine lv_iadd hx hb dL_law_912 ?_
  refine va_sld hx hb hXs hbl hbA hS hi1 dL_law_913 ?_
  refine lv_aload_n hx hb dL_law_914 rfl (lv_at hl 3 rfl) ?_
  refine g_callSW (As := [.ref (ad 0), .int (xs (nI (5 * k) + 1).toNatClampNeg), .ref ao]) (rest := []) (wr := wM am cI cZ v) (w := wO ad cI cZ cJ ao f u) (wb := (wL ad am cI cZ cJ ao (lf f (p_memory u (xs (nI (5 * k) + 1).toNatClampNeg)).1 (p_memory u (xs (nI (5 * k) + 1).toNatClampNeg)).2.1) (p_memory u (xs (nI (5 * k) + 1).toNatClampNeg)).2.2 v)) hzz ⟨hx, hb, hml, hown, htsG⟩ (ct_memory l hlt D ad cI cZ zz hzz tS hst hxs hnc cJ ao f u (xs (nI (5 * k) + 1).toNatClampNeg) ok1 hcd) (vx_cwSW 3 htsG (tb_SW tw_3_20 tw_3_21 tw_1_0 tw_3_22) rfl rfl rfl (by decide +kernel) ⟨Nat.le_of_ble_eq_true rfl, Nat.le_of_ble_eq_true rfl⟩) rfl hl.1 rfl (lv_room (Nat.le_of_ble_eq_true rfl)) dL_law_915 ⟨by show 31 + k + 1 ≤ 1070; omega, by show 1723 + 6 * k + 6 ≤ 10005; omega⟩ (List.Perm.refl _) (List.Perm.refl _) hP hK hD hS hA hZ (fun H locs hP hD hS => ?_)
  refine W.widen (k := 31 + (k + 1)) (n := 1723 + 6 * (k + 1)) (by omega) (by omega) ?_
  generalize eu1 : (p_memory u (xs (nI (5 * k) + 1).toNatClampNeg)).2.2 = u1 at hP hD hR1
  generalize ef1 : (lf f (p_memory u (xs (nI (5 * k) + 1).toNatClampNeg)).1 (p_memory u (xs (nI (5 * k) + 1).toNatClampNeg)).2.1) = f1 at hP hD
  refine lv_istore (lv' := [(5, .int (la1 (p_memory u (xs (nI (5 * k) + 1).toNatClampNeg)).1)), (0, .ref b), (1, .ref (ad 0)), (2, .ref (am 0)), (3, .ref ao), (4, .int (nI (5 * k)))]) hx hb dL_law_918 hl (by decide) rfl (fun ls hl => ?_)
  refine lv_aload_n hx hb dL_law_920 rfl (lv_at hl 3 rfl) ?_
  refine lv_aload_n hx hb dL_law_921 rfl (lv_at hl 1 rfl) ?_
  refine lv_iload hx hb dL_law_922 (lv_at hl 5 rfl) ?_
  refine lv_iconst (v := 1) hx hb dL_law_924 (by decide) ?_
  refine lv_iadd hx hb dL_law_925 ?_
  refine va_sld hx hb hXs hbl hbA hS hi1 dL_law_926 ?_
  refine g_callVi (As := [.int (xs (nI (5 * k) + 1).toNatClampNeg)]) (rest := []) (wr := wO ad cI cZ cJ ao f1 u1) (w := wM am cI cZ v) (wb := (wL ad am cI cZ cJ ao f1 u1 (p_m_memory v ((xs (nI (5 * k) + 1).toNatClampNeg))).2)) hzz ⟨hx, hb, hml, hown, htsG⟩ (c_m_memory l D am cI cZ zz hzz v ((xs (nI (5 * k) + 1).toNatClampNeg)) ok2) (cwV 1 htsG (tb_V tw_4_85 tw_4_86 tw_4_87 tw_1_5 tw_4_88) rfl rfl rfl (by decide +kernel) ⟨Nat.le_of_ble_eq_true rfl, Nat.le_of_ble_eq_true rfl⟩) (va_recv hK hP (ci := 4) (q0 := 0) rfl rfl) rfl hl.1 rfl (lv_room (Nat.le_of_ble_eq_true rfl)) dL_law_927 ⟨by show 31 + (k + 1) + 0 ≤ 1070; omega, by show 1723 + 6 * (k + 1) + 0 ≤ 10005; omega⟩ List.perm_append_comm List.perm_append_comm hP hKT hD hS hA hZ (fun H locs hP hD hS => ?_)
  generalize ev1 : (p_m_memory v ((xs (nI (5 * k) + 1).toNatClampNeg))).2 = v1 at hP hD hR1 hth
  refine lv_istore (lv' := [(6, .int (p_m_memory v ((xs (nI (5 * k) + 1).toNatClampNeg))).1), (5, .int (la1 (p_memory u (xs (nI (5 * k) + 1).toNatClampNeg)).1)), (0, .ref b), (1, .ref (ad 0)), (2, .ref (am 0)), (3, .ref ao), (4, .int (nI (5 * k)))]) hx hb dL_law_930 hl (by decide) rfl (fun ls hl => ?_)
  refine lv_aload_n hx hb dL_law_932 rfl (lv_at hl 4 rfl) ?_
  refine g_callVi (As := []) (rest := []) (wr := wO ad cI cZ cJ ao f1 u1) (w := wM am cI cZ v1) (wb := (wL ad am cI cZ cJ ao f1 u1 v1)) hzz ⟨hx, hb, hml, hown, htsG⟩ (c_m_thrown l D am cI cZ zz hzz v1) (cwV 0 htsG (tb_V tw_3_168 tw_3_169 tw_3_170 tw_1_5 tw_3_171) rfl rfl rfl (by decide +kernel) ⟨Nat.le_of_ble_eq_true rfl, Nat.le_of_ble_eq_true rfl⟩) (va_recv hK hP (ci := 4) (q0 := 0) rfl rfl) rfl hl.1 rfl (lv_room (Nat.le_of_ble_eq_true rfl)) dL_law_933 ⟨by show 31 + (k + 1) + 0 ≤ 1070; omega, by show 1723 + 6 * (k + 1) + 0 ≤ 10005; omega⟩ List.perm_append_comm List.perm_append_comm hP hKT hD hS hA hZ (fun H locs hP hD hS => ?_)
  refine lv_iload hx hb dL_law_936 (lv_at hl 1 rfl) ?_
  refine lv_icmp_eq (tgt := 943) hx hb dL_law_938 (by decide) (fun c_1 => ?_) (fun c_1 => absurd hth c_1)
  refine lv_iload hx hb dL_law_943 (lv_at hl 1 rfl) ?_
  refine lv_if_ne (tgt := 960) hx hb dL_law_945 (by decide) (fun c_2 => ?_) (fun c_2 => ?_)
  · skip
    refine lv_goto (tgt := 1194) hx hb dL_law_960 (by decide) ?_
    exact K _ _ _ _ _ _ hR1 hP hD hS (lv_sub hl [2, 3, 4, 5, 6] rfl)
  · skip
    have hc0 : (p_memory u (xs (nI (5 * k) + 1).toNatClampNeg)).1 = 0 := l_a0 c_2
    refine lv_aload_n hx hb dL_law_948 rfl (lv_at hl 5 rfl) ?_
    refine lv_iconst (v := 0) hx hb dL_law_949 (by decide) ?_
    refine va_lald (f := f1) hx hb hK hP 13 2 rfl rfl l_in0 dL_law_950 ?_
    refine lv_iload hx hb dL_law_951 (lv_at hl 0 rfl) ?_
    refine lv_i2l (v := Int32.toInt64 (p_m_memory v ((xs (nI (5 * k) + 1).toNatClampNeg))).1) hx hb dL_law_953 rfl ?_
    refine W.lcmp hx hb dL_law_954 ?_
    refine lv_if_eq (tgt := 960) hx hb dL_law_955 (by decide) (fun c_3 => ?_) (fun c_3 => absurd (by rw [← ef1, show (lf f (p_memory u (xs (nI (5 * k) + 1).toNatClampNeg)).1 (p_memory u (xs (nI (5 * k) + 1).toNatClampNeg)).2.1) = vp_updL f (0 : Int32).toNatClampNeg (Int32.toInt64 (p_memory u (xs (nI (5 * k) + 1).toNatClampNeg)).2.1) from if_pos hc0, pk_uLs, hrs hc0]; exact l_cmp _) c_3)
    refine lv_goto (tgt := 1194) hx hb dL_law_960 (by decide) ?_
    exact K _ _ _ _ _ _ hR1 hP hD hS (lv_sub hl [2, 3, 4, 5, 6] rfl)
set_option maxHeartbeats 4000000 in
set_option maxRecDepth 100000 in
theorem lc_start {p : Program} {l : Launch} {e : Env} {s : State} {m : MethodId} {below : List Frame} {meth : Method} {c : Code} {b L : Nat} {xs : Nat → Int32} {D : va_G} {cI cZ cJ : ClassId} {zz : (Nat → Prop) → State → Heap → Prop} {tS : Nat} {RR : Nat → St → St → Prop} {Q : State → Prop} (hsim : sx_start RR) (Cx : lcx p l s m c b L xs D cI cZ cJ zz tS) (hL : L ≤ 2560) (ad am : Nat → Nat) (ao k : Nat) (hk : 5 * k + 5 ≤ L) (f : Nat → Int64) (u v : St) (H : Heap) (locs : List Loc) (ls : Array Slot) (hR : RR k u v) (hP : va_P D vwCl (wL ad am cI cZ cJ ao f u v) H) (hD : va_D (fun q : Nat => s.heap.size ≤ q) (wL ad am cI cZ cJ ao f u v)) (hS : va_S (fun q : Nat => s.heap.size ≤ q) s.heap H locs) (hl : lv_has ls 7 (lll b ao ad am (5 * k))) (K : ∀ (f : Nat → Int64) (u v : St) (H : Heap) (locs : List Loc) (ls : Array Slot), RR (k + 1) u v → va_P D vwCl (wL ad am cI cZ cJ ao f u v) H → va_D (fun q : Nat => s.heap.size ≤ q) (wL ad am cI cZ cJ ao f u v) → va_S (fun q : Nat => s.heap.size ≤ q) s.heap H locs → lv_has ls 7 (lll b ao ad am (5 * k)) → W p l e room_1 s m #[Value.ref b] below meth c H locs (31 + (k + 1)) (1723 + 6 * (k + 1)) Q (F0 m 1194 ls [])) : W p l e room_1 s m #[Value.ref b] below meth c H locs (31 + k) (1723 + 6 * k) Q (F0 m 963 ls []) := by
  obtain ⟨hx, hb, hml, hown, htsG, hXs, hbl, hK, hZ, hlt, hzz, hst, hxs, hnc⟩ := Cx
  have hA : ∀ q : Nat, s.heap.size ≤ q → (fun q : Nat => s.heap.size ≤ q) q := fun _ h => h
  have hbA : ¬ (fun q : Nat => s.heap.size ≤ q) b := Nat.not_le.mpr hbl
  have hKT := hK.sub (tys' := tyT cI cZ) [0, 1] rfl
  obtain ⟨ok1, ok2, hcd, hth, hR1⟩ := hsim k u v (by omega) hR
  refine lv_aload_n hx hb dL_law_963 rfl (lv_at hl 1 rfl) ?_
  refine g_callSW (As := [.ref (ad 0)]) (rest := []) (wr := wM am cI cZ v) (w := wO ad cI cZ cJ ao f u) (wb := (wL ad am cI cZ cJ ao f (p_start u).2.2 v)) hzz ⟨hx, hb, hml, hown, htsG⟩ (ct_start l hlt D ad cI cZ zz hzz tS hst hxs hnc cJ ao f u ok1 hcd) (vx_cwSW 1 htsG (tb_SW tw_3_27 tw_3_28 tw_1_0 tw_3_29) rfl rfl rfl (by decide +kernel) ⟨Nat.le_of_ble_eq_true rfl, Nat.le_of_ble_eq_true rfl⟩) rfl hl.1 rfl (lv_room (Nat.le_of_ble_eq_true rfl)) dL_law_964 ⟨by show 31 + k + 1 ≤ 1070; omega, by show 1723 + 6 * k + 6 ≤ 10005; omega⟩ (List.Perm.refl _) (List.Perm.refl _) hP hK hD hS hA hZ (fun H locs hP hD hS => ?_)
  refine W.widen (k := 31 + (k + 1)) (n := 1723 + 6 * (k + 1)) (by omega) (by omega) ?_
  generalize eu1 : (p_start u).2.2 = u1 at hP hD hR1
  refine lv_istore (lv' := [(5, .int (la1 (p_start u).1)), (0, .ref b), (1, .ref (ad 0)), (2, .ref (am 0)), (3, .ref ao), (4, .int (nI (5 * k)))]) hx hb dL_law_967 hl (by decide) rfl (fun ls hl => ?_)
  refine lv_aload_n hx hb dL_law_969 rfl (lv_at hl 3 rfl) ?_
  refine g_callVv (As := []) (rest := []) (wr := wO ad cI cZ cJ ao f u1) (w := wM am cI cZ v) (wb := (wL ad am cI cZ cJ ao f u1 (p_m_start v))) hzz ⟨hx, hb, hml, hown, htsG⟩ (c_m_start l D am cI cZ zz hzz v ok2) (cwV 0 htsG (tb_V tw_4_89 tw_4_90 tw_4_91 tw_1_5 tw_4_92) rfl rfl rfl (by decide +kernel) ⟨Nat.le_of_ble_eq_true rfl, Nat.le_of_ble_eq_true rfl⟩) (va_recv hK hP (ci := 4) (q0 := 0) rfl rfl) rfl hl.1 rfl (lv_room (Nat.le_of_ble_eq_true rfl)) dL_law_970 ⟨by show 31 + (k + 1) + 0 ≤ 1070; omega, by show 1723 + 6 * (k + 1) + 0 ≤ 10005; omega⟩ List.perm_append_comm List.perm_append_comm hP hKT hD hS hA hZ (fun H locs hP hD hS => ?_)
  generalize ev1 : (p_m_start v) = v1 at hP hD hR1 hth
  refine lv_aload_n hx hb dL_law_973 rfl (lv_at hl 3 rfl) ?_
  refine g_callVi (As := []) (rest := []) (wr := wO ad cI cZ cJ ao f u1) (w := wM am cI cZ v1) (wb := (wL ad am cI cZ cJ ao f u1 v1)) hzz ⟨hx, hb, hml, hown, htsG⟩ (c_m_thrown l D am cI cZ zz hzz v1) (cwV 0 htsG (tb_V tw_3_168 tw_3_169 tw_3_170 tw_1_5 tw_3_171) rfl rfl rfl (by decide +kernel) ⟨Nat.le_of_ble_eq_true rfl, Nat.le_of_ble_eq_true rfl⟩) (va_recv hK hP (ci := 4) (q0 := 0) rfl rfl) rfl hl.1 rfl (lv_room (Nat.le_of_ble_eq_true rfl)) dL_law_974 ⟨by show 31 + (k + 1) + 0 ≤ 1070; omega, by show 1723 + 6 * (k + 1) + 0 ≤ 10005; omega⟩ List.perm_append_comm List.perm_append_comm hP hKT hD hS hA hZ (fun H locs hP hD hS => ?_)
  refine lv_iload hx hb dL_law_977 (lv_at hl 0 rfl) ?_
  refine lv_icmp_eq (tgt := 984) hx hb dL_law_979 (by decide) (fun c_1 => ?_) (fun c_1 => absurd hth c_1)
  refine lv_goto (tgt := 1194) hx hb dL_law_984 (by decide) ?_
  exact K _ _ _ _ _ _ hR1 hP hD hS (lv_sub hl [1, 2, 3, 4, 5] rfl)
set_option maxHeartbeats 4000000 in
set_option maxRecDepth 100000 in
theorem lc_run {p : Program} {l : Launch} {e : Env} {s : State} {m : MethodId} {below : List Frame} {meth : Method} {c : Code} {b L : Nat} {xs : Nat → Int32} {D : va_G} {cI cZ cJ : ClassId} {zz : (Nat → Prop) → State → Heap → Prop} {tS : Nat} {RR : Nat → St → St → Prop} {Q : State → Prop} (hsim : sx_run RR) (Cx : lcx p l s m c b L xs D cI cZ cJ zz tS) (hL : L ≤ 2560) (ad am : Nat → Nat) (ao k : Nat) (hk : 5 * k + 5 ≤ L) (f : Nat → Int64) (u v : St) (H : Heap) (locs : List Loc) (ls : Array Slot) (hR : RR k u v) (hP : va_P D vwCl (wL ad am cI cZ cJ ao f u v) H) (hD : va_D (fun q : Nat => s.heap.size ≤ q) (wL ad am cI cZ cJ ao f u v)) (hS : va_S (fun q : Nat => s.heap.size ≤ q) s.heap H locs) (hl : lv_has ls 7 (lll b ao ad am (5 * k))) (K : ∀ (f : Nat → Int64) (u v : St) (H : Heap) (locs : List Loc) (ls : Array Slot), RR (k + 1) u v → va_P D vwCl (wL ad am cI cZ cJ ao f u v) H → va_D (fun q : Nat => s.heap.size ≤ q) (wL ad am cI cZ cJ ao f u v) → va_S (fun q : Nat => s.heap.size ≤ q) s.heap H locs → lv_has ls 7 (lll b ao ad am (5 * k)) → W p l e room_1 s m #[Value.ref b] below meth c H locs (31 + (k + 1)) (1723 + 6 * (k + 1)) Q (F0 m 1194 ls [])) : W p l e room_1 s m #[Value.ref b] below meth c H locs (31 + k) (1723 + 6 * k) Q (F0 m 987 ls []) := by
  obtain ⟨hx, hb, hml, hown, htsG, hXs, hbl, hK, hZ, hlt, hzz, hst, hxs, hnc⟩ := Cx
  have hA : ∀ q : Nat, s.heap.size ≤ q → (fun q : Nat => s.heap.size ≤ q) q := fun _ h => h
  have hbA : ¬ (fun q : Nat => s.heap.size ≤ q) b := Nat.not_le.mpr hbl
  have hKT := hK.sub (tys' := tyT cI cZ) [0, 1] rfl
  have hi1 : vp_in (nI (5 * k) + 1) L := l_ix 1 1 rfl (by omega) hL
  obtain ⟨ok1, ok2, hcd, hth, hrs, hR1⟩ := hsim k u v (xs (nI (5 * k) + 1).toNatClampNeg) (by omega) hR
  refine lv_aload_n hx hb dL_law_987 rfl (lv_at hl 1 rfl) ?_
  refine lv_aload_n hx hb dL_law_988 rfl (lv_at hl 0 rfl) ?_
  refine lv_iload hx hb dL_law_989 (lv_at hl 4 rfl) ?_
  refine lv_iconst (v := 1) hx hb dL_law_991 (by decide) ?_
  refine lv_iadd hx hb dL_law_992 ?_
  refine va_sld hx hb hXs hbl hbA hS hi1 dL_law_993 ?_
  refine lv_aload_n hx hb dL_law_994 rfl (lv_at hl 3 rfl) ?_
  refine g_callSW (As := [.ref (ad 0), .int (xs (nI (5 * k) + 1).toNatClampNeg), .ref ao]) (rest := []) (wr := wM am cI cZ v) (w := wO ad cI cZ cJ ao f u) (wb := (wL ad am cI cZ cJ ao (lf f (p_run u (xs (nI (5 * k) + 1).toNatClampNeg)).1 (p_run u (xs (nI (5 * k) + 1).toNatClampNeg)).2.1) (p_run u (xs (nI (5 * k) + 1).toNatClampNeg)).2.2 v)) hzz ⟨hx, hb, hml, hown, htsG⟩ (ct_run l hlt D ad cI cZ zz hzz tS hst hxs hnc cJ ao f u (xs (nI (5 * k) + 1).toNatClampNeg) ok1 hcd) (vx_cwSW 3 htsG (tb_SW tw_3_39 tw_3_40 tw_1_0 tw_3_41) rfl rfl rfl (by decide +kernel) ⟨Nat.le_of_ble_eq_true rfl, Nat.le_of_ble_eq_true rfl⟩) rfl hl.1 rfl (lv_room (Nat.le_of_ble_eq_true rfl)) dL_law_995 ⟨by show 31 + k + 1 ≤ 1070; omega, by show 1723 + 6 * k + 6 ≤ 10005; omega⟩ (List.Perm.refl _) (List.Perm.refl _) hP hK hD hS hA hZ (fun H locs hP hD hS => ?_)
  refine W.widen (k := 31 + (k + 1)) (n := 1723 + 6 * (k + 1)) (by omega) (by omega) ?_
  generalize eu1 : (p_run u (xs (nI (5 * k) + 1).toNatClampNeg)).2.2 = u1 at hP hD hR1
  generalize ef1 : (lf f (p_run u (xs (nI (5 * k) + 1).toNatClampNeg)).1 (p_run u (xs (nI (5 * k) + 1).toNatClampNeg)).2.1) = f1 at hP hD
  refine lv_istore (lv' := [(5, .int (nI (p_run u (xs (nI (5 * k) + 1).toNatClampNeg)).1)), (0, .ref b), (1, .ref (ad 0)), (2, .ref (am 0)), (3, .ref ao), (4, .int (nI (5 * k)))]) hx hb dL_law_998 hl (by decide) rfl (fun ls hl => ?_)
  refine lv_aload_n hx hb dL_law_1000 rfl (lv_at hl 3 rfl) ?_
  refine lv_aload_n hx hb dL_law_1001 rfl (lv_at hl 1 rfl) ?_
  refine lv_iload hx hb dL_law_1002 (lv_at hl 5 rfl) ?_
  refine lv_iconst (v := 1) hx hb dL_law_1004 (by decide) ?_
  refine lv_iadd hx hb dL_law_1005 ?_
  refine va_sld hx hb hXs hbl hbA hS hi1 dL_law_1006 ?_
  refine g_callVi (As := [.int (xs (nI (5 * k) + 1).toNatClampNeg)]) (rest := []) (wr := wO ad cI cZ cJ ao f1 u1) (w := wM am cI cZ v) (wb := (wL ad am cI cZ cJ ao f1 u1 (p_m_run v ((xs (nI (5 * k) + 1).toNatClampNeg))).2)) hzz ⟨hx, hb, hml, hown, htsG⟩ (c_m_run l D am cI cZ zz hzz v ((xs (nI (5 * k) + 1).toNatClampNeg)) ok2) (cwV 1 htsG (tb_V tw_4_93 tw_4_94 tw_4_95 tw_1_5 tw_4_96) rfl rfl rfl (by decide +kernel) ⟨Nat.le_of_ble_eq_true rfl, Nat.le_of_ble_eq_true rfl⟩) (va_recv hK hP (ci := 4) (q0 := 0) rfl rfl) rfl hl.1 rfl (lv_room (Nat.le_of_ble_eq_true rfl)) dL_law_1007 ⟨by show 31 + (k + 1) + 0 ≤ 1070; omega, by show 1723 + 6 * (k + 1) + 0 ≤ 10005; omega⟩ List.perm_append_comm List.perm_append_comm hP hKT hD hS hA hZ (fun H locs hP hD hS => ?_)
  generalize ev1 : (p_m_run v ((xs (nI (5 * k) + 1).toNatClampNeg))).2 = v1 at hP hD hR1 hth
  refine lv_istore (lv' := [(6, .int (p_m_run v ((xs (nI (5 * k) + 1).toNatClampNeg))).1), (5, .int (nI (p_run u (xs (nI (5 * k) + 1).toNatClampNeg)).1)), (0, .ref b), (1, .ref (ad 0)), (2, .ref (am 0)), (3, .ref ao), (4, .int (nI (5 * k)))]) hx hb dL_law_1010 hl (by decide) rfl (fun ls hl => ?_)
  refine lv_aload_n hx hb dL_law_1012 rfl (lv_at hl 4 rfl) ?_
  refine g_callVi (As := []) (rest := []) (wr := wO ad cI cZ cJ ao f1 u1) (w := wM am cI cZ v1) (wb := (wL ad am cI cZ cJ ao f1 u1 v1)) hzz ⟨hx, hb, hml, hown, htsG⟩ (c_m_thrown l D am cI cZ zz hzz v1) (cwV 0 htsG (tb_V tw_3_168 tw_3_169 tw_3_170 tw_1_5 tw_3_171) rfl rfl rfl (by decide +kernel) ⟨Nat.le_of_ble_eq_true rfl, Nat.le_of_ble_eq_true rfl⟩) (va_recv hK hP (ci := 4) (q0 := 0) rfl rfl) rfl hl.1 rfl (lv_room (Nat.le_of_ble_eq_true rfl)) dL_law_1013 ⟨by show 31 + (k + 1) + 0 ≤ 1070; omega, by show 1723 + 6 * (k + 1) + 0 ≤ 10005; omega⟩ List.perm_append_comm List.perm_append_comm hP hKT hD hS hA hZ (fun H locs hP hD hS => ?_)
  refine lv_iload hx hb dL_law_1016 (lv_at hl 1 rfl) ?_
  refine lv_icmp_eq (tgt := 1023) hx hb dL_law_1018 (by decide) (fun c_1 => ?_) (fun c_1 => absurd hth c_1)
  refine lv_iload hx hb dL_law_1023 (lv_at hl 1 rfl) ?_
  refine lv_if_ne (tgt := 1040) hx hb dL_law_1025 (by decide) (fun c_2 => ?_) (fun c_2 => ?_)
  · skip
    refine lv_goto (tgt := 1194) hx hb dL_law_1040 (by decide) ?_
    exact K _ _ _ _ _ _ hR1 hP hD hS (lv_sub hl [2, 3, 4, 5, 6] rfl)
  · skip
    have hc0 : (p_run u (xs (nI (5 * k) + 1).toNatClampNeg)).1 = 0 := l_n0 hcd c_2
    refine lv_aload_n hx hb dL_law_1028 rfl (lv_at hl 5 rfl) ?_
    refine lv_iconst (v := 0) hx hb dL_law_1029 (by decide) ?_
    refine va_lald (f := f1) hx hb hK hP 13 2 rfl rfl l_in0 dL_law_1030 ?_
    refine lv_iload hx hb dL_law_1031 (lv_at hl 0 rfl) ?_
    refine lv_i2l (v := Int32.toInt64 (p_m_run v ((xs (nI (5 * k) + 1).toNatClampNeg))).1) hx hb dL_law_1033 rfl ?_
    refine W.lcmp hx hb dL_law_1034 ?_
    refine lv_if_eq (tgt := 1040) hx hb dL_law_1035 (by decide) (fun c_3 => ?_) (fun c_3 => absurd (by rw [← ef1, show (lf f (p_run u (xs (nI (5 * k) + 1).toNatClampNeg)).1 (p_run u (xs (nI (5 * k) + 1).toNatClampNeg)).2.1) = vp_updL f (0 : Int32).toNatClampNeg (Int32.toInt64 (p_run u (xs (nI (5 * k) + 1).toNatClampNeg)).2.1) from if_pos hc0, pk_uLs, hrs hc0]; exact l_cmp _) c_3)
    refine lv_goto (tgt := 1194) hx hb dL_law_1040 (by decide) ?_
    exact K _ _ _ _ _ _ hR1 hP hD hS (lv_sub hl [2, 3, 4, 5, 6] rfl)
set_option maxHeartbeats 4000000 in
set_option maxRecDepth 100000 in
theorem lc_state {p : Program} {l : Launch} {e : Env} {s : State} {m : MethodId} {below : List Frame} {meth : Method} {c : Code} {b L : Nat} {xs : Nat → Int32} {D : va_G} {cI cZ cJ : ClassId} {zz : (Nat → Prop) → State → Heap → Prop} {tS : Nat} {RR : Nat → St → St → Prop} {Q : State → Prop} (hsim : sx_state RR) (Cx : lcx p l s m c b L xs D cI cZ cJ zz tS) (hL : L ≤ 2560) (ad am : Nat → Nat) (ao k : Nat) (hk : 5 * k + 5 ≤ L) (f : Nat → Int64) (u v : St) (H : Heap) (locs : List Loc) (ls : Array Slot) (hR : RR k u v) (hP : va_P D vwCl (wL ad am cI cZ cJ ao f u v) H) (hD : va_D (fun q : Nat => s.heap.size ≤ q) (wL ad am cI cZ cJ ao f u v)) (hS : va_S (fun q : Nat => s.heap.size ≤ q) s.heap H locs) (hl : lv_has ls 7 (lll b ao ad am (5 * k))) (K : ∀ (f : Nat → Int64) (u v : St) (H : Heap) (locs : List Loc) (ls : Array Slot), RR (k + 1) u v → va_P D vwCl (wL ad am cI cZ cJ ao f u v) H → va_D (fun q : Nat => s.heap.size ≤ q) (wL ad am cI cZ cJ ao f u v) → va_S (fun q : Nat => s.heap.size ≤ q) s.heap H locs → lv_has ls 7 (lll b ao ad am (5 * k)) → W p l e room_1 s m #[Value.ref b] below meth c H locs (31 + (k + 1)) (1723 + 6 * (k + 1)) Q (F0 m 1194 ls [])) : W p l e room_1 s m #[Value.ref b] below meth c H locs (31 + k) (1723 + 6 * k) Q (F0 m 1043 ls []) := by
  obtain ⟨hx, hb, hml, hown, htsG, hXs, hbl, hK, hZ, hlt, hzz, hst, hxs, hnc⟩ := Cx
  have hA : ∀ q : Nat, s.heap.size ≤ q → (fun q : Nat => s.heap.size ≤ q) q := fun _ h => h
  have hbA : ¬ (fun q : Nat => s.heap.size ≤ q) b := Nat.not_le.mpr hbl
  have hKT := hK.sub (tys' := tyT cI cZ) [0, 1] rfl
  obtain ⟨hrs, hR1⟩ := hsim k u v (by omega) hR
  refine lv_aload_n hx hb dL_law_1043 rfl (lv_at hl 1 rfl) ?_
  refine g_callVi (As := []) (rest := []) (wr := wM am cI cZ v ++ ([(ao, .inl (cJ, 1, .inr (.inl f)))] : va_W)) (w := wT ad cI cZ u) (wb := (wL ad am cI cZ cJ ao f u v)) hzz ⟨hx, hb, hml, hown, htsG⟩ (c_state l D ad cI cZ zz hzz tS hst u) (cwV 0 htsG (tb_V tw_1_169 tw_1_170 tw_1_171 tw_1_1 tw_1_172) rfl rfl rfl (by decide +kernel) ⟨Nat.le_of_ble_eq_true rfl, Nat.le_of_ble_eq_true rfl⟩) (va_recv hK hP (ci := 3) (q0 := 14) rfl rfl) rfl hl.1 rfl (lv_room (Nat.le_of_ble_eq_true rfl)) dL_law_1044 ⟨by show 31 + k + 0 ≤ 1070; omega, by show 1723 + 6 * k + 0 ≤ 10005; omega⟩ (l_pT _ _ _) (l_pT' _ _ _) hP hKT hD hS hA hZ (fun H locs hP hD hS => ?_)
  refine lv_aload_n hx hb dL_law_1047 rfl (lv_at hl 2 rfl) ?_
  refine g_callVi (As := []) (rest := [.int (p_state u)]) (wr := wO ad cI cZ cJ ao f u) (w := wM am cI cZ v) (wb := (wL ad am cI cZ cJ ao f u (p_m_state v).2)) hzz ⟨hx, hb, hml, hown, htsG⟩ (c_m_state l D am cI cZ zz hzz v) (cwV 0 htsG (tb_V tw_4_108 tw_4_109 tw_4_110 tw_1_5 tw_4_111) rfl rfl rfl (by decide +kernel) ⟨Nat.le_of_ble_eq_true rfl, Nat.le_of_ble_eq_true rfl⟩) (va_recv hK hP (ci := 4) (q0 := 0) rfl rfl) rfl hl.1 rfl (lv_room (Nat.le_of_ble_eq_true rfl)) dL_law_1048 ⟨by show 31 + k + 0 ≤ 1070; omega, by show 1723 + 6 * k + 0 ≤ 10005; omega⟩ List.perm_append_comm List.perm_append_comm hP hKT hD hS hA hZ (fun H locs hP hD hS => ?_)
  generalize ev1 : (p_m_state v).2 = v1 at hP hD hR1
  refine lv_icmp_eq (tgt := 1194) hx hb dL_law_1051 (by decide) (fun c_1 => ?_) (fun c_1 => absurd hrs c_1)
  refine W.widen (k := 31 + (k + 1)) (n := 1723 + 6 * (k + 1)) (by omega) (by omega) ?_
  exact K _ _ _ _ _ _ hR1 hP hD hS (lv_sub hl [0, 1, 2, 3, 4] rfl)
set_option maxHeartbeats 4000000 in
set_option maxRecDepth 100000 in
theorem lc_at {p : Program} {l : Launch} {e : Env} {s : State} {m : MethodId} {below : List Frame} {meth : Method} {c : Code} {b L : Nat} {xs : Nat → Int32} {D : va_G} {cI cZ cJ : ClassId} {zz : (Nat → Prop) → State → Heap → Prop} {tS : Nat} {RR : Nat → St → St → Prop} {Q : State → Prop} (hsim : sx_at RR) (Cx : lcx p l s m c b L xs D cI cZ cJ zz tS) (hL : L ≤ 2560) (ad am : Nat → Nat) (ao k : Nat) (hk : 5 * k + 5 ≤ L) (f : Nat → Int64) (u v : St) (H : Heap) (locs : List Loc) (ls : Array Slot) (hR : RR k u v) (hP : va_P D vwCl (wL ad am cI cZ cJ ao f u v) H) (hD : va_D (fun q : Nat => s.heap.size ≤ q) (wL ad am cI cZ cJ ao f u v)) (hS : va_S (fun q : Nat => s.heap.size ≤ q) s.heap H locs) (hl : lv_has ls 7 (lll b ao ad am (5 * k))) (K : ∀ (f : Nat → Int64) (u v : St) (H : Heap) (locs : List Loc) (ls : Array Slot), RR (k + 1) u v → va_P D vwCl (wL ad am cI cZ cJ ao f u v) H → va_D (fun q : Nat => s.heap.size ≤ q) (wL ad am cI cZ cJ ao f u v) → va_S (fun q : Nat => s.heap.size ≤ q) s.heap H locs → lv_has ls 7 (lll b ao ad am (5 * k)) → W p l e room_1 s m #[Value.ref b] below meth c H locs (31 + (k + 1)) (1723 + 6 * (k + 1)) Q (F0 m 1194 ls [])) : W p l e room_1 s m #[Value.ref b] below meth c H locs (31 + k) (1723 + 6 * k) Q (F0 m 1056 ls []) := by
  obtain ⟨hx, hb, hml, hown, htsG, hXs, hbl, hK, hZ, hlt, hzz, hst, hxs, hnc⟩ := Cx
  have hA : ∀ q : Nat, s.heap.size ≤ q → (fun q : Nat => s.heap.size ≤ q) q := fun _ h => h
  have hbA : ¬ (fun q : Nat => s.heap.size ≤ q) b := Nat.not_le.mpr hbl
  have hKT := hK.sub (tys' := tyT cI cZ) [0, 1] rfl
  obtain ⟨hrs, hR1⟩ := hsim k u v (by omega) hR
  refine lv_aload_n hx hb dL_law_1056 rfl (lv_at hl 1 rfl) ?_
  refine g_callVi (As := []) (rest := []) (wr := wM am cI cZ v ++ ([(ao, .inl (cJ, 1, .inr (.inl f)))] : va_W)) (w := wT ad cI cZ u) (wb := (wL ad am cI cZ cJ ao f u v)) hzz ⟨hx, hb, hml, hown, htsG⟩ (c_at_ l D ad cI cZ zz hzz tS hst u) (cwV 0 htsG (tb_V tw_1_173 tw_1_174 tw_1_175 tw_1_1 tw_1_176) rfl rfl rfl (by decide +kernel) ⟨Nat.le_of_ble_eq_true rfl, Nat.le_of_ble_eq_true rfl⟩) (va_recv hK hP (ci := 3) (q0 := 14) rfl rfl) rfl hl.1 rfl (lv_room (Nat.le_of_ble_eq_true rfl)) dL_law_1057 ⟨by show 31 + k + 0 ≤ 1070; omega, by show 1723 + 6 * k + 0 ≤ 10005; omega⟩ (l_pT _ _ _) (l_pT' _ _ _) hP hKT hD hS hA hZ (fun H locs hP hD hS => ?_)
  refine lv_aload_n hx hb dL_law_1060 rfl (lv_at hl 2 rfl) ?_
  refine g_callVi (As := []) (rest := [.int (p_at_ u)]) (wr := wO ad cI cZ cJ ao f u) (w := wM am cI cZ v) (wb := (wL ad am cI cZ cJ ao f u (p_m_at v).2)) hzz ⟨hx, hb, hml, hown, htsG⟩ (c_m_at l D am cI cZ zz hzz v) (cwV 0 htsG (tb_V tw_4_112 tw_4_113 tw_4_114 tw_1_5 tw_4_115) rfl rfl rfl (by decide +kernel) ⟨Nat.le_of_ble_eq_true rfl, Nat.le_of_ble_eq_true rfl⟩) (va_recv hK hP (ci := 4) (q0 := 0) rfl rfl) rfl hl.1 rfl (lv_room (Nat.le_of_ble_eq_true rfl)) dL_law_1061 ⟨by show 31 + k + 0 ≤ 1070; omega, by show 1723 + 6 * k + 0 ≤ 10005; omega⟩ List.perm_append_comm List.perm_append_comm hP hKT hD hS hA hZ (fun H locs hP hD hS => ?_)
  generalize ev1 : (p_m_at v).2 = v1 at hP hD hR1
  refine lv_icmp_eq (tgt := 1194) hx hb dL_law_1064 (by decide) (fun c_1 => ?_) (fun c_1 => absurd hrs c_1)
  refine W.widen (k := 31 + (k + 1)) (n := 1723 + 6 * (k + 1)) (by omega) (by omega) ?_
  exact K _ _ _ _ _ _ hR1 hP hD hS (lv_sub hl [0, 1, 2, 3, 4] rfl)
set_option maxHeartbeats 4000000 in
set_option maxRecDepth 100000 in
theorem lc_variable {p : Program} {l : Launch} {e : Env} {s : State} {m : MethodId} {below : List Frame} {meth : Method} {c : Code} {b L : Nat} {xs : Nat → Int32} {D : va_G} {cI cZ cJ : ClassId} {zz : (Nat → Prop) → State → Heap → Prop} {tS : Nat} {RR : Nat → St → St → Prop} {Q : State → Prop} (hsim : sx_variable RR) (Cx : lcx p l s m c b L xs D cI cZ cJ zz tS) (hL : L ≤ 2560) (ad am : Nat → Nat) (ao k : Nat) (hk : 5 * k + 5 ≤ L) (f : Nat → Int64) (u v : St) (H : Heap) (locs : List Loc) (ls : Array Slot) (hR : RR k u v) (hP : va_P D vwCl (wL ad am cI cZ cJ ao f u v) H) (hD : va_D (fun q : Nat => s.heap.size ≤ q) (wL ad am cI cZ cJ ao f u v)) (hS : va_S (fun q : Nat => s.heap.size ≤ q) s.heap H locs) (hl : lv_has ls 7 (lll b ao ad am (5 * k))) (K : ∀ (f : Nat → Int64) (u v : St) (H : Heap) (locs : List Loc) (ls : Array Slot), RR (k + 1) u v → va_P D vwCl (wL ad am cI cZ cJ ao f u v) H → va_D (fun q : Nat => s.heap.size ≤ q) (wL ad am cI cZ cJ ao f u v) → va_S (fun q : Nat => s.heap.size ≤ q) s.heap H locs → lv_has ls 7 (lll b ao ad am (5 * k)) → W p l e room_1 s m #[Value.ref b] below meth c H locs (31 + (k + 1)) (1723 + 6 * (k + 1)) Q (F0 m 1194 ls [])) : W p l e room_1 s m #[Value.ref b] below meth c H locs (31 + k) (1723 + 6 * k) Q (F0 m 1069 ls []) := by
  obtain ⟨hx, hb, hml, hown, htsG, hXs, hbl, hK, hZ, hlt, hzz, hst, hxs, hnc⟩ := Cx
  have hA : ∀ q : Nat, s.heap.size ≤ q → (fun q : Nat => s.heap.size ≤ q) q := fun _ h => h
  have hbA : ¬ (fun q : Nat => s.heap.size ≤ q) b := Nat.not_le.mpr hbl
  have hKT := hK.sub (tys' := tyT cI cZ) [0, 1] rfl
  have hi1 : vp_in (nI (5 * k) + 1) L := l_ix 1 1 rfl (by omega) hL
  obtain ⟨ok1, ok2, hcd, hth, hrs, hR1⟩ := hsim k u v (xs (nI (5 * k) + 1).toNatClampNeg) (by omega) hR
  refine lv_aload_n hx hb dL_law_1069 rfl (lv_at hl 1 rfl) ?_
  refine lv_aload_n hx hb dL_law_1070 rfl (lv_at hl 0 rfl) ?_
  refine lv_iload hx hb dL_law_1071 (lv_at hl 4 rfl) ?_
  refine lv_iconst (v := 1) hx hb dL_law_1073 (by decide) ?_
  refine lv_iadd hx hb dL_law_1074 ?_
  refine va_sld hx hb hXs hbl hbA hS hi1 dL_law_1075 ?_
  refine lv_aload_n hx hb dL_law_1076 rfl (lv_at hl 3 rfl) ?_
  refine g_callSW (As := [.ref (ad 0), .int (xs (nI (5 * k) + 1).toNatClampNeg), .ref ao]) (rest := []) (wr := wM am cI cZ v) (w := wO ad cI cZ cJ ao f u) (wb := (wL ad am cI cZ cJ ao (lf f (p_variable u (xs (nI (5 * k) + 1).toNatClampNeg)).1 (p_variable u (xs (nI (5 * k) + 1).toNatClampNeg)).2.1) (p_variable u (xs (nI (5 * k) + 1).toNatClampNeg)).2.2 v)) hzz ⟨hx, hb, hml, hown, htsG⟩ (ct_variable l hlt D ad cI cZ zz hzz tS hst hxs hnc cJ ao f u (xs (nI (5 * k) + 1).toNatClampNeg) ok1 hcd) (vx_cwSW 3 htsG (tb_SW tw_3_71 tw_3_72 tw_1_0 tw_3_73) rfl rfl rfl (by decide +kernel) ⟨Nat.le_of_ble_eq_true rfl, Nat.le_of_ble_eq_true rfl⟩) rfl hl.1 rfl (lv_room (Nat.le_of_ble_eq_true rfl)) dL_law_1077 ⟨by show 31 + k + 1 ≤ 1070; omega, by show 1723 + 6 * k + 6 ≤ 10005; omega⟩ (List.Perm.refl _) (List.Perm.refl _) hP hK hD hS hA hZ (fun H locs hP hD hS => ?_)
  refine W.widen (k := 31 + (k + 1)) (n := 1723 + 6 * (k + 1)) (by omega) (by omega) ?_
  generalize eu1 : (p_variable u (xs (nI (5 * k) + 1).toNatClampNeg)).2.2 = u1 at hP hD hR1
  generalize ef1 : (lf f (p_variable u (xs (nI (5 * k) + 1).toNatClampNeg)).1 (p_variable u (xs (nI (5 * k) + 1).toNatClampNeg)).2.1) = f1 at hP hD
  refine lv_istore (lv' := [(5, .int (nI (p_variable u (xs (nI (5 * k) + 1).toNatClampNeg)).1)), (0, .ref b), (1, .ref (ad 0)), (2, .ref (am 0)), (3, .ref ao), (4, .int (nI (5 * k)))]) hx hb dL_law_1080 hl (by decide) rfl (fun ls hl => ?_)
  refine lv_aload_n hx hb dL_law_1082 rfl (lv_at hl 3 rfl) ?_
  refine lv_aload_n hx hb dL_law_1083 rfl (lv_at hl 1 rfl) ?_
  refine lv_iload hx hb dL_law_1084 (lv_at hl 5 rfl) ?_
  refine lv_iconst (v := 1) hx hb dL_law_1086 (by decide) ?_
  refine lv_iadd hx hb dL_law_1087 ?_
  refine va_sld hx hb hXs hbl hbA hS hi1 dL_law_1088 ?_
  refine g_callVi (As := [.int (xs (nI (5 * k) + 1).toNatClampNeg)]) (rest := []) (wr := wO ad cI cZ cJ ao f1 u1) (w := wM am cI cZ v) (wb := (wL ad am cI cZ cJ ao f1 u1 (p_m_variable v ((xs (nI (5 * k) + 1).toNatClampNeg))).2)) hzz ⟨hx, hb, hml, hown, htsG⟩ (c_m_variable l D am cI cZ zz hzz v ((xs (nI (5 * k) + 1).toNatClampNeg)) ok2) (cwV 1 htsG (tb_V tw_4_116 tw_4_117 tw_4_118 tw_1_5 tw_4_119) rfl rfl rfl (by decide +kernel) ⟨Nat.le_of_ble_eq_true rfl, Nat.le_of_ble_eq_true rfl⟩) (va_recv hK hP (ci := 4) (q0 := 0) rfl rfl) rfl hl.1 rfl (lv_room (Nat.le_of_ble_eq_true rfl)) dL_law_1089 ⟨by show 31 + (k + 1) + 0 ≤ 1070; omega, by show 1723 + 6 * (k + 1) + 0 ≤ 10005; omega⟩ List.perm_append_comm List.perm_append_comm hP hKT hD hS hA hZ (fun H locs hP hD hS => ?_)
  generalize ev1 : (p_m_variable v ((xs (nI (5 * k) + 1).toNatClampNeg))).2 = v1 at hP hD hR1 hth
  refine lv_istore (lv' := [(6, .int (p_m_variable v ((xs (nI (5 * k) + 1).toNatClampNeg))).1), (5, .int (nI (p_variable u (xs (nI (5 * k) + 1).toNatClampNeg)).1)), (0, .ref b), (1, .ref (ad 0)), (2, .ref (am 0)), (3, .ref ao), (4, .int (nI (5 * k)))]) hx hb dL_law_1092 hl (by decide) rfl (fun ls hl => ?_)
  refine lv_aload_n hx hb dL_law_1094 rfl (lv_at hl 4 rfl) ?_
  refine g_callVi (As := []) (rest := []) (wr := wO ad cI cZ cJ ao f1 u1) (w := wM am cI cZ v1) (wb := (wL ad am cI cZ cJ ao f1 u1 v1)) hzz ⟨hx, hb, hml, hown, htsG⟩ (c_m_thrown l D am cI cZ zz hzz v1) (cwV 0 htsG (tb_V tw_3_168 tw_3_169 tw_3_170 tw_1_5 tw_3_171) rfl rfl rfl (by decide +kernel) ⟨Nat.le_of_ble_eq_true rfl, Nat.le_of_ble_eq_true rfl⟩) (va_recv hK hP (ci := 4) (q0 := 0) rfl rfl) rfl hl.1 rfl (lv_room (Nat.le_of_ble_eq_true rfl)) dL_law_1095 ⟨by show 31 + (k + 1) + 0 ≤ 1070; omega, by show 1723 + 6 * (k + 1) + 0 ≤ 10005; omega⟩ List.perm_append_comm List.perm_append_comm hP hKT hD hS hA hZ (fun H locs hP hD hS => ?_)
  refine lv_iload hx hb dL_law_1098 (lv_at hl 1 rfl) ?_
  refine lv_icmp_eq (tgt := 1105) hx hb dL_law_1100 (by decide) (fun c_1 => ?_) (fun c_1 => absurd hth c_1)
  refine lv_iload hx hb dL_law_1105 (lv_at hl 1 rfl) ?_
  refine lv_if_ne (tgt := 1122) hx hb dL_law_1107 (by decide) (fun c_2 => ?_) (fun c_2 => ?_)
  · skip
    refine lv_goto (tgt := 1194) hx hb dL_law_1122 (by decide) ?_
    exact K _ _ _ _ _ _ hR1 hP hD hS (lv_sub hl [2, 3, 4, 5, 6] rfl)
  · skip
    have hc0 : (p_variable u (xs (nI (5 * k) + 1).toNatClampNeg)).1 = 0 := l_n0 hcd c_2
    refine lv_aload_n hx hb dL_law_1110 rfl (lv_at hl 5 rfl) ?_
    refine lv_iconst (v := 0) hx hb dL_law_1111 (by decide) ?_
    refine va_lald (f := f1) hx hb hK hP 13 2 rfl rfl l_in0 dL_law_1112 ?_
    refine lv_iload hx hb dL_law_1113 (lv_at hl 0 rfl) ?_
    refine lv_i2l (v := Int32.toInt64 (p_m_variable v ((xs (nI (5 * k) + 1).toNatClampNeg))).1) hx hb dL_law_1115 rfl ?_
    refine W.lcmp hx hb dL_law_1116 ?_
    refine lv_if_eq (tgt := 1122) hx hb dL_law_1117 (by decide) (fun c_3 => ?_) (fun c_3 => absurd (by rw [← ef1, show (lf f (p_variable u (xs (nI (5 * k) + 1).toNatClampNeg)).1 (p_variable u (xs (nI (5 * k) + 1).toNatClampNeg)).2.1) = vp_updL f (0 : Int32).toNatClampNeg (Int32.toInt64 (p_variable u (xs (nI (5 * k) + 1).toNatClampNeg)).2.1) from if_pos hc0, pk_uLs, hrs hc0]; exact l_cmp _) c_3)
    refine lv_goto (tgt := 1194) hx hb dL_law_1122 (by decide) ?_
    exact K _ _ _ _ _ _ hR1 hP hD hS (lv_sub hl [2, 3, 4, 5, 6] rfl)
set_option maxHeartbeats 4000000 in
set_option maxRecDepth 100000 in
theorem lc_outputs {p : Program} {l : Launch} {e : Env} {s : State} {m : MethodId} {below : List Frame} {meth : Method} {c : Code} {b L : Nat} {xs : Nat → Int32} {D : va_G} {cI cZ cJ : ClassId} {zz : (Nat → Prop) → State → Heap → Prop} {tS : Nat} {RR : Nat → St → St → Prop} {Q : State → Prop} (hsim : sx_outputs RR) (Cx : lcx p l s m c b L xs D cI cZ cJ zz tS) (hL : L ≤ 2560) (ad am : Nat → Nat) (ao k : Nat) (hk : 5 * k + 5 ≤ L) (f : Nat → Int64) (u v : St) (H : Heap) (locs : List Loc) (ls : Array Slot) (hR : RR k u v) (hP : va_P D vwCl (wL ad am cI cZ cJ ao f u v) H) (hD : va_D (fun q : Nat => s.heap.size ≤ q) (wL ad am cI cZ cJ ao f u v)) (hS : va_S (fun q : Nat => s.heap.size ≤ q) s.heap H locs) (hl : lv_has ls 7 (lll b ao ad am (5 * k))) (K : ∀ (f : Nat → Int64) (u v : St) (H : Heap) (locs : List Loc) (ls : Array Slot), RR (k + 1) u v → va_P D vwCl (wL ad am cI cZ cJ ao f u v) H → va_D (fun q : Nat => s.heap.size ≤ q) (wL ad am cI cZ cJ ao f u v) → va_S (fun q : Nat => s.heap.size ≤ q) s.heap H locs → lv_has ls 7 (lll b ao ad am (5 * k)) → W p l e room_1 s m #[Value.ref b] below meth c H locs (31 + (k + 1)) (1723 + 6 * (k + 1)) Q (F0 m 1194 ls [])) : W p l e room_1 s m #[Value.ref b] below meth c H locs (31 + k) (1723 + 6 * k) Q (F0 m 1125 ls []) := by
  obtain ⟨hx, hb, hml, hown, htsG, hXs, hbl, hK, hZ, hlt, hzz, hst, hxs, hnc⟩ := Cx
  have hA : ∀ q : Nat, s.heap.size ≤ q → (fun q : Nat => s.heap.size ≤ q) q := fun _ h => h
  have hbA : ¬ (fun q : Nat => s.heap.size ≤ q) b := Nat.not_le.mpr hbl
  have hKT := hK.sub (tys' := tyT cI cZ) [0, 1] rfl
  obtain ⟨hrs, hR1⟩ := hsim k u v (by omega) hR
  refine lv_aload_n hx hb dL_law_1125 rfl (lv_at hl 1 rfl) ?_
  refine g_callVi (As := []) (rest := []) (wr := wM am cI cZ v ++ ([(ao, .inl (cJ, 1, .inr (.inl f)))] : va_W)) (w := wT ad cI cZ u) (wb := (wL ad am cI cZ cJ ao f u v)) hzz ⟨hx, hb, hml, hown, htsG⟩ (c_outputs l D ad cI cZ zz hzz tS hst u) (cwV 0 htsG (tb_V tw_1_177 tw_1_178 tw_1_179 tw_1_1 tw_1_180) rfl rfl rfl (by decide +kernel) ⟨Nat.le_of_ble_eq_true rfl, Nat.le_of_ble_eq_true rfl⟩) (va_recv hK hP (ci := 3) (q0 := 14) rfl rfl) rfl hl.1 rfl (lv_room (Nat.le_of_ble_eq_true rfl)) dL_law_1126 ⟨by show 31 + k + 0 ≤ 1070; omega, by show 1723 + 6 * k + 0 ≤ 10005; omega⟩ (l_pT _ _ _) (l_pT' _ _ _) hP hKT hD hS hA hZ (fun H locs hP hD hS => ?_)
  refine lv_aload_n hx hb dL_law_1129 rfl (lv_at hl 2 rfl) ?_
  refine g_callVi (As := []) (rest := [.int (p_outputs u)]) (wr := wO ad cI cZ cJ ao f u) (w := wM am cI cZ v) (wb := (wL ad am cI cZ cJ ao f u (p_m_outputs v).2)) hzz ⟨hx, hb, hml, hown, htsG⟩ (c_m_outputs l D am cI cZ zz hzz v) (cwV 0 htsG (tb_V tw_4_120 tw_4_121 tw_4_122 tw_1_5 tw_4_123) rfl rfl rfl (by decide +kernel) ⟨Nat.le_of_ble_eq_true rfl, Nat.le_of_ble_eq_true rfl⟩) (va_recv hK hP (ci := 4) (q0 := 0) rfl rfl) rfl hl.1 rfl (lv_room (Nat.le_of_ble_eq_true rfl)) dL_law_1130 ⟨by show 31 + k + 0 ≤ 1070; omega, by show 1723 + 6 * k + 0 ≤ 10005; omega⟩ List.perm_append_comm List.perm_append_comm hP hKT hD hS hA hZ (fun H locs hP hD hS => ?_)
  generalize ev1 : (p_m_outputs v).2 = v1 at hP hD hR1
  refine lv_icmp_eq (tgt := 1194) hx hb dL_law_1133 (by decide) (fun c_1 => ?_) (fun c_1 => absurd hrs c_1)
  refine W.widen (k := 31 + (k + 1)) (n := 1723 + 6 * (k + 1)) (by omega) (by omega) ?_
  exact K _ _ _ _ _ _ hR1 hP hD hS (lv_sub hl [0, 1, 2, 3, 4] rfl)
set_option maxHeartbeats 4000000 in
set_option maxRecDepth 100000 in
theorem lc_output {p : Program} {l : Launch} {e : Env} {s : State} {m : MethodId} {below : List Frame} {meth : Method} {c : Code} {b L : Nat} {xs : Nat → Int32} {D : va_G} {cI cZ cJ : ClassId} {zz : (Nat → Prop) → State → Heap → Prop} {tS : Nat} {RR : Nat → St → St → Prop} {Q : State → Prop} (hsim : sx_output RR) (Cx : lcx p l s m c b L xs D cI cZ cJ zz tS) (hL : L ≤ 2560) (ad am : Nat → Nat) (ao k : Nat) (hk : 5 * k + 5 ≤ L) (f : Nat → Int64) (u v : St) (H : Heap) (locs : List Loc) (ls : Array Slot) (hR : RR k u v) (hP : va_P D vwCl (wL ad am cI cZ cJ ao f u v) H) (hD : va_D (fun q : Nat => s.heap.size ≤ q) (wL ad am cI cZ cJ ao f u v)) (hS : va_S (fun q : Nat => s.heap.size ≤ q) s.heap H locs) (hl : lv_has ls 7 (lll b ao ad am (5 * k))) (K : ∀ (f : Nat → Int64) (u v : St) (H : Heap) (locs : List Loc) (ls : Array Slot), RR (k + 1) u v → va_P D vwCl (wL ad am cI cZ cJ ao f u v) H → va_D (fun q : Nat => s.heap.size ≤ q) (wL ad am cI cZ cJ ao f u v) → va_S (fun q : Nat => s.heap.size ≤ q) s.heap H locs → lv_has ls 7 (lll b ao ad am (5 * k)) → W p l e room_1 s m #[Value.ref b] below meth c H locs (31 + (k + 1)) (1723 + 6 * (k + 1)) Q (F0 m 1194 ls [])) : W p l e room_1 s m #[Value.ref b] below meth c H locs (31 + k) (1723 + 6 * k) Q (F0 m 1138 ls []) := by
  obtain ⟨hx, hb, hml, hown, htsG, hXs, hbl, hK, hZ, hlt, hzz, hst, hxs, hnc⟩ := Cx
  have hA : ∀ q : Nat, s.heap.size ≤ q → (fun q : Nat => s.heap.size ≤ q) q := fun _ h => h
  have hbA : ¬ (fun q : Nat => s.heap.size ≤ q) b := Nat.not_le.mpr hbl
  have hKT := hK.sub (tys' := tyT cI cZ) [0, 1] rfl
  have hi1 : vp_in (nI (5 * k) + 1) L := l_ix 1 1 rfl (by omega) hL
  obtain ⟨ok1, ok2, hcd, hth, hrs, hR1⟩ := hsim k u v (xs (nI (5 * k) + 1).toNatClampNeg) (by omega) hR
  refine lv_aload_n hx hb dL_law_1138 rfl (lv_at hl 1 rfl) ?_
  refine lv_aload_n hx hb dL_law_1139 rfl (lv_at hl 0 rfl) ?_
  refine lv_iload hx hb dL_law_1140 (lv_at hl 4 rfl) ?_
  refine lv_iconst (v := 1) hx hb dL_law_1142 (by decide) ?_
  refine lv_iadd hx hb dL_law_1143 ?_
  refine va_sld hx hb hXs hbl hbA hS hi1 dL_law_1144 ?_
  refine lv_aload_n hx hb dL_law_1145 rfl (lv_at hl 3 rfl) ?_
  refine g_callSW (As := [.ref (ad 0), .int (xs (nI (5 * k) + 1).toNatClampNeg), .ref ao]) (rest := []) (wr := wM am cI cZ v) (w := wO ad cI cZ cJ ao f u) (wb := (wL ad am cI cZ cJ ao (lf f (p_output u (xs (nI (5 * k) + 1).toNatClampNeg)).1 (p_output u (xs (nI (5 * k) + 1).toNatClampNeg)).2.1) (p_output u (xs (nI (5 * k) + 1).toNatClampNeg)).2.2 v)) hzz ⟨hx, hb, hml, hown, htsG⟩ (ct_output l hlt D ad cI cZ zz hzz tS hst hxs hnc cJ ao f u (xs (nI (5 * k) + 1).toNatClampNeg) ok1 hcd) (vx_cwSW 3 htsG (tb_SW tw_3_79 tw_3_80 tw_1_0 tw_3_81) rfl rfl rfl (by decide +kernel) ⟨Nat.le_of_ble_eq_true rfl, Nat.le_of_ble_eq_true rfl⟩) rfl hl.1 rfl (lv_room (Nat.le_of_ble_eq_true rfl)) dL_law_1146 ⟨by show 31 + k + 1 ≤ 1070; omega, by show 1723 + 6 * k + 6 ≤ 10005; omega⟩ (List.Perm.refl _) (List.Perm.refl _) hP hK hD hS hA hZ (fun H locs hP hD hS => ?_)
  refine W.widen (k := 31 + (k + 1)) (n := 1723 + 6 * (k + 1)) (by omega) (by omega) ?_
  generalize eu1 : (p_output u (xs (nI (5 * k) + 1).toNatClampNeg)).2.2 = u1 at hP hD hR1
  generalize ef1 : (lf f (p_output u (xs (nI (5 * k) + 1).toNatClampNeg)).1 (p_output u (xs (nI (5 * k) + 1).toNatClampNeg)).2.1) = f1 at hP hD
  refine lv_istore (lv' := [(5, .int (la1 (p_output u (xs (nI (5 * k) + 1).toNatClampNeg)).1)), (0, .ref b), (1, .ref (ad 0)), (2, .ref (am 0)), (3, .ref ao), (4, .int (nI (5 * k)))]) hx hb dL_law_1149 hl (by decide) rfl (fun ls hl => ?_)
  refine lv_aload_n hx hb dL_law_1151 rfl (lv_at hl 3 rfl) ?_
  refine lv_aload_n hx hb dL_law_1152 rfl (lv_at hl 1 rfl) ?_
  refine lv_iload hx hb dL_law_1153 (lv_at hl 5 rfl) ?_
  refine lv_iconst (v := 1) hx hb dL_law_1155 (by decide) ?_
  refine lv_iadd hx hb dL_law_1156 ?_
  refine va_sld hx hb hXs hbl hbA hS hi1 dL_law_1157 ?_
  refine g_callVi (As := [.int (xs (nI (5 * k) + 1).toNatClampNeg)]) (rest := []) (wr := wO ad cI cZ cJ ao f1 u1) (w := wM am cI cZ v) (wb := (wL ad am cI cZ cJ ao f1 u1 (p_m_output v ((xs (nI (5 * k) + 1).toNatClampNeg))).2)) hzz ⟨hx, hb, hml, hown, htsG⟩ (c_m_output l D am cI cZ zz hzz v ((xs (nI (5 * k) + 1).toNatClampNeg)) ok2) (cwV 1 htsG (tb_V tw_4_124 tw_4_125 tw_4_126 tw_1_5 tw_4_127) rfl rfl rfl (by decide +kernel) ⟨Nat.le_of_ble_eq_true rfl, Nat.le_of_ble_eq_true rfl⟩) (va_recv hK hP (ci := 4) (q0 := 0) rfl rfl) rfl hl.1 rfl (lv_room (Nat.le_of_ble_eq_true rfl)) dL_law_1158 ⟨by show 31 + (k + 1) + 0 ≤ 1070; omega, by show 1723 + 6 * (k + 1) + 0 ≤ 10005; omega⟩ List.perm_append_comm List.perm_append_comm hP hKT hD hS hA hZ (fun H locs hP hD hS => ?_)
  generalize ev1 : (p_m_output v ((xs (nI (5 * k) + 1).toNatClampNeg))).2 = v1 at hP hD hR1 hth
  refine lv_istore (lv' := [(6, .int (p_m_output v ((xs (nI (5 * k) + 1).toNatClampNeg))).1), (5, .int (la1 (p_output u (xs (nI (5 * k) + 1).toNatClampNeg)).1)), (0, .ref b), (1, .ref (ad 0)), (2, .ref (am 0)), (3, .ref ao), (4, .int (nI (5 * k)))]) hx hb dL_law_1161 hl (by decide) rfl (fun ls hl => ?_)
  refine lv_aload_n hx hb dL_law_1163 rfl (lv_at hl 4 rfl) ?_
  refine g_callVi (As := []) (rest := []) (wr := wO ad cI cZ cJ ao f1 u1) (w := wM am cI cZ v1) (wb := (wL ad am cI cZ cJ ao f1 u1 v1)) hzz ⟨hx, hb, hml, hown, htsG⟩ (c_m_thrown l D am cI cZ zz hzz v1) (cwV 0 htsG (tb_V tw_3_168 tw_3_169 tw_3_170 tw_1_5 tw_3_171) rfl rfl rfl (by decide +kernel) ⟨Nat.le_of_ble_eq_true rfl, Nat.le_of_ble_eq_true rfl⟩) (va_recv hK hP (ci := 4) (q0 := 0) rfl rfl) rfl hl.1 rfl (lv_room (Nat.le_of_ble_eq_true rfl)) dL_law_1164 ⟨by show 31 + (k + 1) + 0 ≤ 1070; omega, by show 1723 + 6 * (k + 1) + 0 ≤ 10005; omega⟩ List.perm_append_comm List.perm_append_comm hP hKT hD hS hA hZ (fun H locs hP hD hS => ?_)
  refine lv_iload hx hb dL_law_1167 (lv_at hl 1 rfl) ?_
  refine lv_icmp_eq (tgt := 1174) hx hb dL_law_1169 (by decide) (fun c_1 => ?_) (fun c_1 => absurd hth c_1)
  refine lv_iload hx hb dL_law_1174 (lv_at hl 1 rfl) ?_
  refine lv_if_ne (tgt := 1191) hx hb dL_law_1176 (by decide) (fun c_2 => ?_) (fun c_2 => ?_)
  · skip
    refine lv_goto (tgt := 1194) hx hb dL_law_1191 (by decide) ?_
    exact K _ _ _ _ _ _ hR1 hP hD hS (lv_sub hl [2, 3, 4, 5, 6] rfl)
  · skip
    have hc0 : (p_output u (xs (nI (5 * k) + 1).toNatClampNeg)).1 = 0 := l_a0 c_2
    refine lv_aload_n hx hb dL_law_1179 rfl (lv_at hl 5 rfl) ?_
    refine lv_iconst (v := 0) hx hb dL_law_1180 (by decide) ?_
    refine va_lald (f := f1) hx hb hK hP 13 2 rfl rfl l_in0 dL_law_1181 ?_
    refine lv_iload hx hb dL_law_1182 (lv_at hl 0 rfl) ?_
    refine lv_i2l (v := Int32.toInt64 (p_m_output v ((xs (nI (5 * k) + 1).toNatClampNeg))).1) hx hb dL_law_1184 rfl ?_
    refine W.lcmp hx hb dL_law_1185 ?_
    refine lv_if_eq (tgt := 1191) hx hb dL_law_1186 (by decide) (fun c_3 => ?_) (fun c_3 => absurd (by rw [← ef1, show (lf f (p_output u (xs (nI (5 * k) + 1).toNatClampNeg)).1 (p_output u (xs (nI (5 * k) + 1).toNatClampNeg)).2.1) = vp_updL f (0 : Int32).toNatClampNeg (Int32.toInt64 (p_output u (xs (nI (5 * k) + 1).toNatClampNeg)).2.1) from if_pos hc0, pk_uLs, hrs hc0]; exact l_cmp _) c_3)
    refine lv_goto (tgt := 1194) hx hb dL_law_1191 (by decide) ?_
    exact K _ _ _ _ _ _ hR1 hP hD hS (lv_sub hl [2, 3, 4, 5, 6] rfl)
