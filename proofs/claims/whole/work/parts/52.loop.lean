def u0 : St := (fun _ => 0, fun _ _ => 0)
/-- class and reference answer alike: a relation that holds at the start and that every call keeps, the answers being one -/
def Sim (RR : Nat → St → St → Prop) : Prop := RR 0 u0 u0 ∧ (∀ (k : Nat) (u v : St), RR k u v → RR (k + 1) u v) ∧ sx_constant RR ∧ sx_compute RR ∧ sx_load RR ∧ sx_store RR ∧ sx_jump RR ∧ sx_branch RR ∧ sx_out RR ∧ sx_stop RR ∧ sx_clear RR ∧ sx_forge RR ∧ sx_halfword RR ∧ sx_place RR ∧ sx_poke RR ∧ sx_memory RR ∧ sx_start RR ∧ sx_run RR ∧ sx_state RR ∧ sx_at RR ∧ sx_variable RR ∧ sx_outputs RR ∧ sx_output RR
theorem l_go {i L : Nat} (hi : i ≤ 3000) (hL : L ≤ 2560) (h : ¬ (Int32.ofNat L - 5 < nI i)) : i + 5 ≤ L := by
  rcases Nat.lt_or_ge L (i + 5) with q | q
  · refine absurd ?_ h
    rw [Int32.lt_iff_toInt_lt, show (Int32.ofNat L - 5) = nI L - nI 5 from rfl, pk_sub_toInt (by omega) (by omega), nI_toInt (by omega)]
    omega
  · exact q
theorem l_inc (k : Nat) : nI (5 * k) + Int32.ofInt 5 = nI (5 * (k + 1)) := by
  rw [show Int32.ofInt 5 = nI 5 from rfl, nI_add, show 5 * k + 5 = 5 * (k + 1) by omega]
set_option maxHeartbeats 4000000 in
set_option maxRecDepth 100000 in
/-- one turn of the law's loop -/
theorem law_step {p : Program} {l : Launch} {e : Env} {s : State} {m : MethodId} {below : List Frame} {meth : Method} {c : Code} {b L : Nat} {xs : Nat → Int32} {D : va_G} {cI cZ cJ : ClassId} {zz : (Nat → Prop) → State → Heap → Prop} {tS : Nat} {RR : Nat → St → St → Prop} (hsim : Sim RR) (Cx : lcx p l s m c b L xs D cI cZ cJ zz tS) (hr : meth.sig.returnType = ret) (hlocks : meth.locks = false) (hL : L ≤ 2560) (ad am : Nat → Nat) (ao k : Nat) (hk0 : k ≤ 520) (Kn : 5 * k + 5 ≤ L → ∀ (f : Nat → Int64) (u v : St) (H : Heap) (locs : List Loc) (ls : Array Slot), RR (k + 1) u v → va_P D vwCl (wL ad am cI cZ cJ ao f u v) H → va_D (fun q : Nat => s.heap.size ≤ q) (wL ad am cI cZ cJ ao f u v) → va_S (fun q : Nat => s.heap.size ≤ q) s.heap H locs → lv_has ls 7 (lll b ao ad am (5 * (k + 1))) → W p l e room_1 s m #[Value.ref b] below meth c H locs (31 + (k + 1)) (1723 + 6 * (k + 1)) (lw_Z below #[Value.ref b] s) (F0 m 23 ls [])) : ∀ (f : Nat → Int64) (u v : St) (H : Heap) (locs : List Loc) (ls : Array Slot), RR (k) u v → va_P D vwCl (wL ad am cI cZ cJ ao f u v) H → va_D (fun q : Nat => s.heap.size ≤ q) (wL ad am cI cZ cJ ao f u v) → va_S (fun q : Nat => s.heap.size ≤ q) s.heap H locs → lv_has ls 7 (lll b ao ad am (5 * (k))) → W p l e room_1 s m #[Value.ref b] below meth c H locs (31 + (k)) (1723 + 6 * (k)) (lw_Z below #[Value.ref b] s) (F0 m 23 ls []) := by
  intro f u v H locs ls hR hP hD hS hl
  have Cx0 := Cx
  obtain ⟨hx, hb, hml, hown, htsG, hXs, hbl, hK, hZ, hlt, hzz, hst, hxs, hnc⟩ := Cx
  have hbA : ¬ (fun q : Nat => s.heap.size ≤ q) b := Nat.not_le.mpr hbl
  refine lv_iload hx hb dL_law_23 (lv_at hl 4 rfl) ?_
  refine lv_aload_n hx hb dL_law_25 rfl (lv_at hl 0 rfl) ?_
  refine va_slen hx hb hXs hbl hbA hS dL_law_26 ?_
  refine lv_iconst (v := 5) hx hb dL_law_27 (by decide) ?_
  refine lv_isub hx hb dL_law_28 ?_
  refine lv_icmp_gt (tgt := 1200) hx hb dL_law_29 (by decide) (fun c_1 => ?_) (fun c_1 => ?_)
  · refine lv_iconst (v := 1) hx hb dL_law_1200 (by decide) ?_
    refine va_forget (fun q hq => hS.2.2 q hq) ?_
    refine W.widen (k := 1070) (n := 10005) (by omega) (by omega) ?_
    exact lw_ret hx hb hr hlocks dL_law_1201
  · have hk : 5 * k + 5 ≤ L := l_go (by omega) hL c_1
    have K : ∀ (f : Nat → Int64) (u v : St) (H : Heap) (locs : List Loc) (ls : Array Slot), RR (k + 1) u v → va_P D vwCl (wL ad am cI cZ cJ ao f u v) H → va_D (fun q : Nat => s.heap.size ≤ q) (wL ad am cI cZ cJ ao f u v) → va_S (fun q : Nat => s.heap.size ≤ q) s.heap H locs → lv_has ls 7 (lll b ao ad am (5 * k)) → W p l e room_1 s m #[Value.ref b] below meth c H locs (31 + (k + 1)) (1723 + 6 * (k + 1)) (lw_Z below #[Value.ref b] s) (F0 m 1194 ls []) := by
      intro f u v H locs ls hR hP hD hS hl
      refine lv_iinc (v := nI (5 * (k + 1))) (lv' := [(4, .int (nI (5 * (k + 1)))), (0, .ref b), (1, .ref (ad 0)), (2, .ref (am 0)), (3, .ref ao)]) hx hb dL_law_1194 hl (k := 4) rfl (l_inc k) (by decide) rfl (fun ls hl => ?_)
      refine lv_goto (tgt := 23) hx hb dL_law_1197 (by decide) ?_
      exact Kn hk f u v H locs ls hR hP hD hS (lv_sub hl [1, 2, 3, 4, 0] rfl)
    refine lv_aload_n hx hb dL_law_32 rfl (lv_at hl 0 rfl) ?_
    refine lv_iload hx hb dL_law_33 (lv_at hl 4 rfl) ?_
    refine va_sld hx hb hXs hbl hbA hS (vp_in_nI (by omega) (by omega)) dL_law_35 ?_
    refine lv_bipush (v := 31) hx hb dL_law_36 (by decide) ?_
    refine lv_iand hx hb dL_law_38 ?_
    generalize (xs (nI (5 * k)).toNatClampNeg) &&& 31 = y
    obtain ⟨hR0, hskip, s_constant, s_compute, s_load, s_store, s_jump, s_branch, s_out, s_stop, s_clear, s_forge, s_halfword, s_place, s_poke, s_memory, s_start, s_run, s_state, s_at, s_variable, s_outputs, s_output⟩ := hsim
    rcases Classical.em (y = 0) with c_2 | c_2
    · refine lv_tableIn (tgt := 136) hx hb dL_law_39 (by rw [c_2]; decide) (by rw [c_2]; decide) (by rw [c_2]; rfl) (by decide) ?_
      exact lc_constant s_constant Cx0 hL ad am ao k hk f u v H locs ls hR hP hD hS hl K
    rcases Classical.em (y = 1) with c_3 | c_3
    · refine lv_tableIn (tgt := 204) hx hb dL_law_39 (by rw [c_3]; decide) (by rw [c_3]; decide) (by rw [c_3]; rfl) (by decide) ?_
      exact lc_compute s_compute Cx0 hL ad am ao k hk f u v H locs ls hR hP hD hS hl K
    rcases Classical.em (y = 2) with c_4 | c_4
    · refine lv_tableIn (tgt := 296) hx hb dL_law_39 (by rw [c_4]; decide) (by rw [c_4]; decide) (by rw [c_4]; rfl) (by decide) ?_
      exact lc_load s_load Cx0 hL ad am ao k hk f u v H locs ls hR hP hD hS hl K
    rcases Classical.em (y = 3) with c_5 | c_5
    · refine lv_tableIn (tgt := 364) hx hb dL_law_39 (by rw [c_5]; decide) (by rw [c_5]; decide) (by rw [c_5]; rfl) (by decide) ?_
      exact lc_store s_store Cx0 hL ad am ao k hk f u v H locs ls hR hP hD hS hl K
    rcases Classical.em (y = 4) with c_6 | c_6
    · refine lv_tableIn (tgt := 432) hx hb dL_law_39 (by rw [c_6]; decide) (by rw [c_6]; decide) (by rw [c_6]; rfl) (by decide) ?_
      exact lc_jump s_jump Cx0 hL ad am ao k hk f u v H locs ls hR hP hD hS hl K
    rcases Classical.em (y = 5) with c_7 | c_7
    · refine lv_tableIn (tgt := 488) hx hb dL_law_39 (by rw [c_7]; decide) (by rw [c_7]; decide) (by rw [c_7]; rfl) (by decide) ?_
      exact lc_branch s_branch Cx0 hL ad am ao k hk f u v H locs ls hR hP hD hS hl K
    rcases Classical.em (y = 6) with c_8 | c_8
    · refine lv_tableIn (tgt := 580) hx hb dL_law_39 (by rw [c_8]; decide) (by rw [c_8]; decide) (by rw [c_8]; rfl) (by decide) ?_
      exact lc_out s_out Cx0 hL ad am ao k hk f u v H locs ls hR hP hD hS hl K
    rcases Classical.em (y = 7) with c_9 | c_9
    · refine lv_tableIn (tgt := 636) hx hb dL_law_39 (by rw [c_9]; decide) (by rw [c_9]; decide) (by rw [c_9]; rfl) (by decide) ?_
      exact lc_stop s_stop Cx0 hL ad am ao k hk f u v H locs ls hR hP hD hS hl K
    rcases Classical.em (y = 8) with c_10 | c_10
    · refine lv_tableIn (tgt := 692) hx hb dL_law_39 (by rw [c_10]; decide) (by rw [c_10]; decide) (by rw [c_10]; rfl) (by decide) ?_
      exact lc_clear s_clear Cx0 hL ad am ao k hk f u v H locs ls hR hP hD hS hl K
    rcases Classical.em (y = 9) with c_11 | c_11
    · refine lv_tableIn (tgt := 703) hx hb dL_law_39 (by rw [c_11]; decide) (by rw [c_11]; decide) (by rw [c_11]; rfl) (by decide) ?_
      exact lc_forge s_forge Cx0 hL ad am ao k hk f u v H locs ls hR hP hD hS hl K
    rcases Classical.em (y = 10) with c_12 | c_12
    · refine lv_tableIn (tgt := 747) hx hb dL_law_39 (by rw [c_12]; decide) (by rw [c_12]; decide) (by rw [c_12]; rfl) (by decide) ?_
      exact lc_halfword s_halfword Cx0 hL ad am ao k hk f u v H locs ls hR hP hD hS hl K
    rcases Classical.em (y = 11) with c_13 | c_13
    · refine lv_tableIn (tgt := 803) hx hb dL_law_39 (by rw [c_13]; decide) (by rw [c_13]; decide) (by rw [c_13]; rfl) (by decide) ?_
      exact lc_place s_place Cx0 hL ad am ao k hk f u v H locs ls hR hP hD hS hl K
    rcases Classical.em (y = 12) with c_14 | c_14
    · refine lv_tableIn (tgt := 859) hx hb dL_law_39 (by rw [c_14]; decide) (by rw [c_14]; decide) (by rw [c_14]; rfl) (by decide) ?_
      exact lc_poke s_poke Cx0 hL ad am ao k hk f u v H locs ls hR hP hD hS hl K
    rcases Classical.em (y = 13) with c_15 | c_15
    · refine lv_tableIn (tgt := 907) hx hb dL_law_39 (by rw [c_15]; decide) (by rw [c_15]; decide) (by rw [c_15]; rfl) (by decide) ?_
      exact lc_memory s_memory Cx0 hL ad am ao k hk f u v H locs ls hR hP hD hS hl K
    rcases Classical.em (y = 14) with c_16 | c_16
    · refine lv_tableIn (tgt := 963) hx hb dL_law_39 (by rw [c_16]; decide) (by rw [c_16]; decide) (by rw [c_16]; rfl) (by decide) ?_
      exact lc_start s_start Cx0 hL ad am ao k hk f u v H locs ls hR hP hD hS hl K
    rcases Classical.em (y = 15) with c_17 | c_17
    · refine lv_tableIn (tgt := 987) hx hb dL_law_39 (by rw [c_17]; decide) (by rw [c_17]; decide) (by rw [c_17]; rfl) (by decide) ?_
      exact lc_run s_run Cx0 hL ad am ao k hk f u v H locs ls hR hP hD hS hl K
    rcases Classical.em (y = 16) with c_18 | c_18
    · refine lv_tableIn (tgt := 1043) hx hb dL_law_39 (by rw [c_18]; decide) (by rw [c_18]; decide) (by rw [c_18]; rfl) (by decide) ?_
      exact lc_state s_state Cx0 hL ad am ao k hk f u v H locs ls hR hP hD hS hl K
    rcases Classical.em (y = 17) with c_19 | c_19
    · refine lv_tableIn (tgt := 1056) hx hb dL_law_39 (by rw [c_19]; decide) (by rw [c_19]; decide) (by rw [c_19]; rfl) (by decide) ?_
      exact lc_at s_at Cx0 hL ad am ao k hk f u v H locs ls hR hP hD hS hl K
    rcases Classical.em (y = 18) with c_20 | c_20
    · refine lv_tableIn (tgt := 1069) hx hb dL_law_39 (by rw [c_20]; decide) (by rw [c_20]; decide) (by rw [c_20]; rfl) (by decide) ?_
      exact lc_variable s_variable Cx0 hL ad am ao k hk f u v H locs ls hR hP hD hS hl K
    rcases Classical.em (y = 19) with c_21 | c_21
    · refine lv_tableIn (tgt := 1125) hx hb dL_law_39 (by rw [c_21]; decide) (by rw [c_21]; decide) (by rw [c_21]; rfl) (by decide) ?_
      exact lc_outputs s_outputs Cx0 hL ad am ao k hk f u v H locs ls hR hP hD hS hl K
    rcases Classical.em (y = 20) with c_22 | c_22
    · refine lv_tableIn (tgt := 1138) hx hb dL_law_39 (by rw [c_22]; decide) (by rw [c_22]; decide) (by rw [c_22]; rfl) (by decide) ?_
      exact lc_output s_output Cx0 hL ad am ao k hk f u v H locs ls hR hP hD hS hl K
    have n_0 := lv_neT (k := 0) (a := 0) c_2 rfl
    have n_1 := lv_neT (k := 1) (a := 1) c_3 rfl
    have n_2 := lv_neT (k := 2) (a := 2) c_4 rfl
    have n_3 := lv_neT (k := 3) (a := 3) c_5 rfl
    have n_4 := lv_neT (k := 4) (a := 4) c_6 rfl
    have n_5 := lv_neT (k := 5) (a := 5) c_7 rfl
    have n_6 := lv_neT (k := 6) (a := 6) c_8 rfl
    have n_7 := lv_neT (k := 7) (a := 7) c_9 rfl
    have n_8 := lv_neT (k := 8) (a := 8) c_10 rfl
    have n_9 := lv_neT (k := 9) (a := 9) c_11 rfl
    have n_10 := lv_neT (k := 10) (a := 10) c_12 rfl
    have n_11 := lv_neT (k := 11) (a := 11) c_13 rfl
    have n_12 := lv_neT (k := 12) (a := 12) c_14 rfl
    have n_13 := lv_neT (k := 13) (a := 13) c_15 rfl
    have n_14 := lv_neT (k := 14) (a := 14) c_16 rfl
    have n_15 := lv_neT (k := 15) (a := 15) c_17 rfl
    have n_16 := lv_neT (k := 16) (a := 16) c_18 rfl
    have n_17 := lv_neT (k := 17) (a := 17) c_19 rfl
    have n_18 := lv_neT (k := 18) (a := 18) c_20 rfl
    have n_19 := lv_neT (k := 19) (a := 19) c_21 rfl
    have n_20 := lv_neT (k := 20) (a := 20) c_22 rfl
    refine lv_tableOut (tgt := 1194) hx hb dL_law_39 (by omega) (by decide) ?_
    refine W.widen (k := 31 + (k + 1)) (n := 1723 + 6 * (k + 1)) (by omega) (by omega) ?_
    exact K f u v H locs ls (hskip k u v hR) hP hD hS hl
theorem law_loop {p : Program} {l : Launch} {e : Env} {s : State} {m : MethodId} {below : List Frame} {meth : Method} {c : Code} {b L : Nat} {xs : Nat → Int32} {D : va_G} {cI cZ cJ : ClassId} {zz : (Nat → Prop) → State → Heap → Prop} {tS : Nat} {RR : Nat → St → St → Prop} (hsim : Sim RR) (Cx : lcx p l s m c b L xs D cI cZ cJ zz tS) (hr : meth.sig.returnType = ret) (hlocks : meth.locks = false) (hL : L ≤ 2560) (ad am : Nat → Nat) (ao : Nat) : ∀ (n k : Nat), k + n = 513 → ∀ (f : Nat → Int64) (u v : St) (H : Heap) (locs : List Loc) (ls : Array Slot), RR (k) u v → va_P D vwCl (wL ad am cI cZ cJ ao f u v) H → va_D (fun q : Nat => s.heap.size ≤ q) (wL ad am cI cZ cJ ao f u v) → va_S (fun q : Nat => s.heap.size ≤ q) s.heap H locs → lv_has ls 7 (lll b ao ad am (5 * (k))) → W p l e room_1 s m #[Value.ref b] below meth c H locs (31 + (k)) (1723 + 6 * (k)) (lw_Z below #[Value.ref b] s) (F0 m 23 ls []) := by
  intro n
  induction n with
  | zero =>
    intro k hkn
    exact law_step hsim Cx hr hlocks hL ad am ao k (by omega) (fun h => absurd h (by omega))
  | succ n ih =>
    intro k hkn
    exact law_step hsim Cx hr hlocks hL ad am ao k (by omega) (fun _ => ih (k + 1) (by omega))
