abbrev tyL (cI cZ cJ : ClassId) : List (ClassId × FieldType) := [(cI, .int), (cZ, .boolean), (cJ, .long)]
/-- the class's cells and the law's own row of one long -/
abbrev wO (ad : Nat → Nat) (cI cZ cJ : ClassId) (ao : Nat) (f : Nat → Int64) (u : St) : va_W := (ao, .inl (cJ, 1, .inr (.inl f))) :: wT ad cI cZ u
/-- one exception isn't caught as the other -/
def Znc (zz : (Nat → Prop) → State → Heap → Prop) : Prop := ∀ (A : Nat → Prop) (U : State) (H : Heap), zz A U H → va_Nc "java/lang/IllegalStateException" "java/lang/IllegalArgumentException" U
theorem xc1 : Cond.castable "java/lang/IllegalArgumentException" "java/lang/IllegalArgumentException" ∈ xnw := List.mem_of_getElem? (i := 0) rfl
theorem xc2 : Cond.castable "java/lang/IllegalStateException" "java/lang/IllegalStateException" ∈ xnw := List.mem_of_getElem? (i := 4) rfl
theorem xc3 : Cond.castable "java/util/NoSuchElementException" "java/util/NoSuchElementException" ∈ xnw := List.mem_of_getElem? (i := 8) rfl
theorem l_in0 : vp_in (0 : Int32) 1 := by unfold vp_in; decide
/-- what the law's small method answers of a code, and what then stands in the row -/
def la1 (k : Nat) : Int32 := if k = 0 then 0 else 1
def lf (f : Nat → Int64) (k : Nat) (r : Int32) : Nat → Int64 := if k = 0 then vp_updL f (0 : Int32).toNatClampNeg r.toInt64 else f
set_option maxHeartbeats 4000000 in
set_option maxRecDepth 100000 in
theorem ct_constant (l : Launch) (hlt : l.stackTraces = false) (D : va_G) (ad : Nat → Nat) (cI cZ : ClassId) (zz : (Nat → Prop) → State → Heap → Prop) (hzz : Zok zz) (tS : Nat) (hst : Zst zz tS) (hxs : Zxs zz) (hnc : Znc zz) (cJ : ClassId) (ao : Nat) (f : Nat → Int64) (u : St) (x1 x2 : Int32) (hok : ok_constant u x1 x2) (hcd : (p_constant u x1 x2).1 ≤ 2) : tlI l D vwCl (tyL cI cZ cJ) zz yL_constant wsL_constant ({ frames := 8, cells := 1, slots := 6, locals := 138 } : Room) [.ref (ad 0), .int x1, .int x2, .ref ao] (wO ad cI cZ cJ ao f u) (nI (p_constant u x1 x2).1) (wO ad cI cZ cJ ao (lf f (p_constant u x1 x2).1 (p_constant u x1 x2).2.1) (p_constant u x1 x2).2.2) := by
  intro sz
  refine va_MetW (cc := cL_constant) (maxL := 5) (ret := (some .int)) (by decide) rfl ?_
  intro p e s m args below meth c s₁ B hml hv
  obtain ⟨rfl, hsz, hP, hK, hD0, hZ⟩ := hv
  have hx := B.exec
  have hb := B.bytes
  have hr := B.returns
  have hts := atoms_spec (ws := wsL_constant) B.pre
  have hown : s.vm.findClass RL = some m.cls := findClass_of_methodNamed B.named
  have hlocks := B.notSynchronized
  have hTab : c.exceptionTable.toList = tableOf hL_constant := vx_table (x := yL_constant) B (hts _ List.mem_cons_self)
  have hX := hxs _ _ _ hZ
  have hKT := hK.sub (tys' := tyT cI cZ) [0, 1] rfl
  subst hsz
  have hD := hD0.self (sz := s.heap.size)
  generalize hAe : va_A (wO ad cI cZ cJ ao f u) s.heap.size = A at hD hZ hX ⊢
  have hA : ∀ q : Nat, s.heap.size ≤ q → A q := fun q h => by rw [← hAe]; exact Or.inr h
  have hS : va_S A s.heap s.heap [] := va_S.rf
  have hl := lv_entry ([.ref (ad 0), .int x1, .int x2, .ref ao]) (n := 5) (Nat.le_of_ble_eq_true rfl)
  rw [lg_entry_eq]
  generalize (lg_sl ([.ref (ad 0), .int x1, .int x2, .ref ao]) ++ List.replicate (5 - (lg_sl ([.ref (ad 0), .int x1, .int x2, .ref ao])).length) Slot.unset).toArray = ls at hl ⊢
  have hl : lv_has ls 5 [(0, .ref (ad 0)), (1, .int x1), (2, .int x2), (3, .ref ao)] := hl
  rcases Classical.em ((p_constant u x1 x2).1 = 0) with hc | hc
  · skip
    refine lv_aload_n hx hb dL_constant_0 rfl (lv_at hl 3 rfl) ?_
    refine lv_iconst (v := 0) hx hb dL_constant_1 (by decide) ?_
    refine lv_aload_n hx hb dL_constant_2 rfl (lv_at hl 0 rfl) ?_
    refine lv_iload_n hx hb dL_constant_3 rfl (lv_at hl 1 rfl) ?_
    refine lv_iload_n hx hb dL_constant_4 rfl (lv_at hl 2 rfl) ?_
    refine g_callVi (As := [.int x1, .int x2]) (rest := [.int 0, .ref ao]) (wr := [(ao, .inl (cJ, 1, .inr (.inl f)))]) (w := wT ad cI cZ u) (wb := wO ad cI cZ cJ ao f (p_constant u x1 x2).2.2) hzz ⟨hx, hb, hml, hown, hts⟩ (cr_constant l D ad cI cZ zz hzz tS hst u x1 x2 hok hc) (cwV 2 hts (tb_V tw_1_186 tw_1_187 tw_1_188 tw_1_1 tw_1_189) rfl rfl rfl (by decide +kernel) ⟨Nat.le_of_ble_eq_true rfl, Nat.le_of_ble_eq_true rfl⟩) (va_recv hK hP (ci := 3) (q0 := 1) rfl rfl) rfl hl.1 rfl (lv_room (Nat.le_of_ble_eq_true rfl)) dL_constant_5 ⟨Nat.le_of_ble_eq_true rfl, Nat.le_of_ble_eq_true rfl⟩ (List.Perm.refl _) (List.Perm.refl _) hP hKT hD hS hA hZ (fun H locs hP hD hS => ?_)
    refine lv_i2l (v := Int32.toInt64 (p_constant u x1 x2).2.1) hx hb dL_constant_8 rfl ?_
    refine va_last hx hb hK hP hD hS 0 2 rfl rfl l_in0 dL_constant_9 (fun H locs hP hD hS => ?_)
    have hP : va_P D vwCl (wO ad cI cZ cJ ao (vp_updL f (0 : Int32).toNatClampNeg (Int32.toInt64 (p_constant u x1 x2).2.1)) (p_constant u x1 x2).2.2) H := hP
    have hD : va_D A (wO ad cI cZ cJ ao (vp_updL f (0 : Int32).toNatClampNeg (Int32.toInt64 (p_constant u x1 x2).2.1)) (p_constant u x1 x2).2.2) := hD
    refine lv_goto (tgt := 21) hx hb dL_constant_10 (by decide) ?_
    refine lv_iconst (v := 0) hx hb dL_constant_21 (by decide) ?_
    rw [show (lf f (p_constant u x1 x2).1 (p_constant u x1 x2).2.1) = vp_updL f (0 : Int32).toNatClampNeg (Int32.toInt64 (p_constant u x1 x2).2.1) from if_pos hc]
    rw [show (nI (p_constant u x1 x2).1) = 0 from by rw [hc]; rfl]
    refine W.widen (k := 1) (n := 6) (by decide) (by decide) ?_
    exact W.iret hx hb hr (fun t ht hW => ⟨⟨_, (), rfl, rfl, by rw [ht]; exact hP, va_K.moved hW.alike hK, hD⟩, hS.F ht⟩) hS.2.2 dL_constant_22
  · skip
    rw [show (lf f (p_constant u x1 x2).1 (p_constant u x1 x2).2.1) = f from if_neg hc]
    refine lv_aload_n hx hb dL_constant_0 rfl (lv_at hl 3 rfl) ?_
    refine lv_iconst (v := 0) hx hb dL_constant_1 (by decide) ?_
    refine lv_aload_n hx hb dL_constant_2 rfl (lv_at hl 0 rfl) ?_
    refine lv_iload_n hx hb dL_constant_3 rfl (lv_at hl 1 rfl) ?_
    refine lv_iload_n hx hb dL_constant_4 rfl (lv_at hl 2 rfl) ?_
    refine gx_callVi (As := [.int x1, .int x2]) (rest := [.int 0, .ref ao]) (wr := [(ao, .inl (cJ, 1, .inr (.inl f)))]) (w := wT ad cI cZ u) (wb := wO ad cI cZ cJ ao f (p_constant u x1 x2).2.2) hzz ⟨hx, hb, hml, hown, hts⟩ (cx_constant l hlt D ad cI cZ zz hzz tS hst hxs u x1 x2 hok hc) (cwV 2 hts (tb_V tw_1_186 tw_1_187 tw_1_188 tw_1_1 tw_1_189) rfl rfl rfl (by decide +kernel) ⟨Nat.le_of_ble_eq_true rfl, Nat.le_of_ble_eq_true rfl⟩) (va_recv hK hP (ci := 3) (q0 := 1) rfl rfl) rfl hl.1 rfl (lv_room (Nat.le_of_ble_eq_true rfl)) dL_constant_5 ⟨Nat.le_of_ble_eq_true rfl, Nat.le_of_ble_eq_true rfl⟩ (List.Perm.refl _) (List.Perm.refl _) hP hKT hD hS hA hZ hc (fun ce q9 H locs hP hD hS hce hcv hcl => ?_)
    rcases (show (p_constant u x1 x2).1 = 1 ∨ (p_constant u x1 x2).1 = 2 by omega) with e1 | e1
    · skip
      rw [e1] at hcl
      have hcl : s.vm.findClass "java/lang/IllegalArgumentException" = some ce.cls := hcl
      refine vx_catch hown [] ⟨0, 10, 13, 13⟩ [⟨0, 10, 17, 15⟩] (hTab.trans rfl) (fun z hz => absurd hz List.not_mem_nil) rfl (by decide) (hts _ (tb_c tw_1_184)) (va_Nw.use rfl (hX.2.2.2 _ xc1)) hce hcv hcl ?_
      refine lv_astore (lv' := [(4, .ref q9), (0, .ref (ad 0)), (1, .int x1), (2, .int x2), (3, .ref ao)]) hx hb dL_constant_13 hl (by decide) rfl (fun ls hl => ?_)
      refine lv_iconst (v := 1) hx hb dL_constant_15 (by decide) ?_
      rw [show (nI (p_constant u x1 x2).1) = 1 from by rw [e1]; rfl]
      refine W.widen (k := 1) (n := 6) (by decide) (by decide) ?_
      exact W.iret hx hb hr (fun t ht hW => ⟨⟨_, (), rfl, rfl, by rw [ht]; exact hP, va_K.moved hW.alike hK, hD⟩, hS.F ht⟩) hS.2.2 dL_constant_16
    · skip
      rw [e1] at hcl
      have hcl : s.vm.findClass "java/lang/IllegalStateException" = some ce.cls := hcl
      refine vx_catch hown [⟨0, 10, 13, 13⟩] ⟨0, 10, 17, 15⟩ [] (hTab.trans rfl) (fun z hz => by rw [List.mem_singleton.mp hz]; exact Or.inr ⟨by decide, "java/lang/IllegalArgumentException", hts _ (tb_c tw_1_184), hnc _ _ _ hZ⟩) rfl (by decide) (hts _ (tb_c tw_1_185)) (va_Nw.use rfl (hX.2.2.2 _ xc2)) hce hcv hcl ?_
      refine lv_astore (lv' := [(4, .ref q9), (0, .ref (ad 0)), (1, .int x1), (2, .int x2), (3, .ref ao)]) hx hb dL_constant_17 hl (by decide) rfl (fun ls hl => ?_)
      refine lv_iconst (v := 2) hx hb dL_constant_19 (by decide) ?_
      rw [show (nI (p_constant u x1 x2).1) = 2 from by rw [e1]; rfl]
      refine W.widen (k := 1) (n := 6) (by decide) (by decide) ?_
      exact W.iret hx hb hr (fun t ht hW => ⟨⟨_, (), rfl, rfl, by rw [ht]; exact hP, va_K.moved hW.alike hK, hD⟩, hS.F ht⟩) hS.2.2 dL_constant_20
set_option maxHeartbeats 4000000 in
set_option maxRecDepth 100000 in
theorem ct_compute (l : Launch) (hlt : l.stackTraces = false) (D : va_G) (ad : Nat → Nat) (cI cZ : ClassId) (zz : (Nat → Prop) → State → Heap → Prop) (hzz : Zok zz) (tS : Nat) (hst : Zst zz tS) (hxs : Zxs zz) (hnc : Znc zz) (cJ : ClassId) (ao : Nat) (f : Nat → Int64) (u : St) (x1 x2 x3 x4 : Int32) (hok : ok_compute u x1 x2 x3 x4) (hcd : (p_compute u x1 x2 x3 x4).1 ≤ 2) : tlI l D vwCl (tyL cI cZ cJ) zz yL_compute wsL_compute ({ frames := 8, cells := 1, slots := 6, locals := 140 } : Room) [.ref (ad 0), .int x1, .int x2, .int x3, .int x4, .ref ao] (wO ad cI cZ cJ ao f u) (nI (p_compute u x1 x2 x3 x4).1) (wO ad cI cZ cJ ao (lf f (p_compute u x1 x2 x3 x4).1 (p_compute u x1 x2 x3 x4).2.1) (p_compute u x1 x2 x3 x4).2.2) := by
  intro sz
  refine va_MetW (cc := cL_compute) (maxL := 7) (ret := (some .int)) (by decide) rfl ?_
  intro p e s m args below meth c s₁ B hml hv
  obtain ⟨rfl, hsz, hP, hK, hD0, hZ⟩ := hv
  have hx := B.exec
  have hb := B.bytes
  have hr := B.returns
  have hts := atoms_spec (ws := wsL_compute) B.pre
  have hown : s.vm.findClass RL = some m.cls := findClass_of_methodNamed B.named
  have hlocks := B.notSynchronized
  have hTab : c.exceptionTable.toList = tableOf hL_compute := vx_table (x := yL_compute) B (hts _ List.mem_cons_self)
  have hX := hxs _ _ _ hZ
  have hKT := hK.sub (tys' := tyT cI cZ) [0, 1] rfl
  subst hsz
  have hD := hD0.self (sz := s.heap.size)
  generalize hAe : va_A (wO ad cI cZ cJ ao f u) s.heap.size = A at hD hZ hX ⊢
  have hA : ∀ q : Nat, s.heap.size ≤ q → A q := fun q h => by rw [← hAe]; exact Or.inr h
  have hS : va_S A s.heap s.heap [] := va_S.rf
  have hl := lv_entry ([.ref (ad 0), .int x1, .int x2, .int x3, .int x4, .ref ao]) (n := 7) (Nat.le_of_ble_eq_true rfl)
  rw [lg_entry_eq]
  generalize (lg_sl ([.ref (ad 0), .int x1, .int x2, .int x3, .int x4, .ref ao]) ++ List.replicate (7 - (lg_sl ([.ref (ad 0), .int x1, .int x2, .int x3, .int x4, .ref ao])).length) Slot.unset).toArray = ls at hl ⊢
  have hl : lv_has ls 7 [(0, .ref (ad 0)), (1, .int x1), (2, .int x2), (3, .int x3), (4, .int x4), (5, .ref ao)] := hl
  rcases Classical.em ((p_compute u x1 x2 x3 x4).1 = 0) with hc | hc
  · skip
    refine lv_aload hx hb dL_compute_0 (lv_at hl 5 rfl) ?_
    refine lv_iconst (v := 0) hx hb dL_compute_2 (by decide) ?_
    refine lv_aload_n hx hb dL_compute_3 rfl (lv_at hl 0 rfl) ?_
    refine lv_iload_n hx hb dL_compute_4 rfl (lv_at hl 1 rfl) ?_
    refine lv_iload_n hx hb dL_compute_5 rfl (lv_at hl 2 rfl) ?_
    refine lv_iload_n hx hb dL_compute_6 rfl (lv_at hl 3 rfl) ?_
    refine lv_iload hx hb dL_compute_7 (lv_at hl 4 rfl) ?_
    refine g_callVi (As := [.int x1, .int x2, .int x3, .int x4]) (rest := [.int 0, .ref ao]) (wr := [(ao, .inl (cJ, 1, .inr (.inl f)))]) (w := wT ad cI cZ u) (wb := wO ad cI cZ cJ ao f (p_compute u x1 x2 x3 x4).2.2) hzz ⟨hx, hb, hml, hown, hts⟩ (cr_compute l D ad cI cZ zz hzz tS hst u x1 x2 x3 x4 hok hc) (cwV 4 hts (tb_V tw_2_48 tw_2_49 tw_2_50 tw_1_1 tw_2_51) rfl rfl rfl (by decide +kernel) ⟨Nat.le_of_ble_eq_true rfl, Nat.le_of_ble_eq_true rfl⟩) (va_recv hK hP (ci := 3) (q0 := 1) rfl rfl) rfl hl.1 rfl (lv_room (Nat.le_of_ble_eq_true rfl)) dL_compute_9 ⟨Nat.le_of_ble_eq_true rfl, Nat.le_of_ble_eq_true rfl⟩ (List.Perm.refl _) (List.Perm.refl _) hP hKT hD hS hA hZ (fun H locs hP hD hS => ?_)
    refine lv_i2l (v := Int32.toInt64 (p_compute u x1 x2 x3 x4).2.1) hx hb dL_compute_12 rfl ?_
    refine va_last hx hb hK hP hD hS 0 2 rfl rfl l_in0 dL_compute_13 (fun H locs hP hD hS => ?_)
    have hP : va_P D vwCl (wO ad cI cZ cJ ao (vp_updL f (0 : Int32).toNatClampNeg (Int32.toInt64 (p_compute u x1 x2 x3 x4).2.1)) (p_compute u x1 x2 x3 x4).2.2) H := hP
    have hD : va_D A (wO ad cI cZ cJ ao (vp_updL f (0 : Int32).toNatClampNeg (Int32.toInt64 (p_compute u x1 x2 x3 x4).2.1)) (p_compute u x1 x2 x3 x4).2.2) := hD
    refine lv_goto (tgt := 25) hx hb dL_compute_14 (by decide) ?_
    refine lv_iconst (v := 0) hx hb dL_compute_25 (by decide) ?_
    rw [show (lf f (p_compute u x1 x2 x3 x4).1 (p_compute u x1 x2 x3 x4).2.1) = vp_updL f (0 : Int32).toNatClampNeg (Int32.toInt64 (p_compute u x1 x2 x3 x4).2.1) from if_pos hc]
    rw [show (nI (p_compute u x1 x2 x3 x4).1) = 0 from by rw [hc]; rfl]
    refine W.widen (k := 1) (n := 6) (by decide) (by decide) ?_
    exact W.iret hx hb hr (fun t ht hW => ⟨⟨_, (), rfl, rfl, by rw [ht]; exact hP, va_K.moved hW.alike hK, hD⟩, hS.F ht⟩) hS.2.2 dL_compute_26
  · skip
    rw [show (lf f (p_compute u x1 x2 x3 x4).1 (p_compute u x1 x2 x3 x4).2.1) = f from if_neg hc]
    refine lv_aload hx hb dL_compute_0 (lv_at hl 5 rfl) ?_
    refine lv_iconst (v := 0) hx hb dL_compute_2 (by decide) ?_
    refine lv_aload_n hx hb dL_compute_3 rfl (lv_at hl 0 rfl) ?_
    refine lv_iload_n hx hb dL_compute_4 rfl (lv_at hl 1 rfl) ?_
    refine lv_iload_n hx hb dL_compute_5 rfl (lv_at hl 2 rfl) ?_
    refine lv_iload_n hx hb dL_compute_6 rfl (lv_at hl 3 rfl) ?_
    refine lv_iload hx hb dL_compute_7 (lv_at hl 4 rfl) ?_
    refine gx_callVi (As := [.int x1, .int x2, .int x3, .int x4]) (rest := [.int 0, .ref ao]) (wr := [(ao, .inl (cJ, 1, .inr (.inl f)))]) (w := wT ad cI cZ u) (wb := wO ad cI cZ cJ ao f (p_compute u x1 x2 x3 x4).2.2) hzz ⟨hx, hb, hml, hown, hts⟩ (cx_compute l hlt D ad cI cZ zz hzz tS hst hxs u x1 x2 x3 x4 hok hc) (cwV 4 hts (tb_V tw_2_48 tw_2_49 tw_2_50 tw_1_1 tw_2_51) rfl rfl rfl (by decide +kernel) ⟨Nat.le_of_ble_eq_true rfl, Nat.le_of_ble_eq_true rfl⟩) (va_recv hK hP (ci := 3) (q0 := 1) rfl rfl) rfl hl.1 rfl (lv_room (Nat.le_of_ble_eq_true rfl)) dL_compute_9 ⟨Nat.le_of_ble_eq_true rfl, Nat.le_of_ble_eq_true rfl⟩ (List.Perm.refl _) (List.Perm.refl _) hP hKT hD hS hA hZ hc (fun ce q9 H locs hP hD hS hce hcv hcl => ?_)
    rcases (show (p_compute u x1 x2 x3 x4).1 = 1 ∨ (p_compute u x1 x2 x3 x4).1 = 2 by omega) with e1 | e1
    · skip
      rw [e1] at hcl
      have hcl : s.vm.findClass "java/lang/IllegalArgumentException" = some ce.cls := hcl
      refine vx_catch hown [] ⟨0, 14, 17, 13⟩ [⟨0, 14, 21, 15⟩] (hTab.trans rfl) (fun z hz => absurd hz List.not_mem_nil) rfl (by decide) (hts _ (tb_c tw_1_184)) (va_Nw.use rfl (hX.2.2.2 _ xc1)) hce hcv hcl ?_
      refine lv_astore (lv' := [(6, .ref q9), (0, .ref (ad 0)), (1, .int x1), (2, .int x2), (3, .int x3), (4, .int x4), (5, .ref ao)]) hx hb dL_compute_17 hl (by decide) rfl (fun ls hl => ?_)
      refine lv_iconst (v := 1) hx hb dL_compute_19 (by decide) ?_
      rw [show (nI (p_compute u x1 x2 x3 x4).1) = 1 from by rw [e1]; rfl]
      refine W.widen (k := 1) (n := 6) (by decide) (by decide) ?_
      exact W.iret hx hb hr (fun t ht hW => ⟨⟨_, (), rfl, rfl, by rw [ht]; exact hP, va_K.moved hW.alike hK, hD⟩, hS.F ht⟩) hS.2.2 dL_compute_20
    · skip
      rw [e1] at hcl
      have hcl : s.vm.findClass "java/lang/IllegalStateException" = some ce.cls := hcl
      refine vx_catch hown [⟨0, 14, 17, 13⟩] ⟨0, 14, 21, 15⟩ [] (hTab.trans rfl) (fun z hz => by rw [List.mem_singleton.mp hz]; exact Or.inr ⟨by decide, "java/lang/IllegalArgumentException", hts _ (tb_c tw_1_184), hnc _ _ _ hZ⟩) rfl (by decide) (hts _ (tb_c tw_1_185)) (va_Nw.use rfl (hX.2.2.2 _ xc2)) hce hcv hcl ?_
      refine lv_astore (lv' := [(6, .ref q9), (0, .ref (ad 0)), (1, .int x1), (2, .int x2), (3, .int x3), (4, .int x4), (5, .ref ao)]) hx hb dL_compute_21 hl (by decide) rfl (fun ls hl => ?_)
      refine lv_iconst (v := 2) hx hb dL_compute_23 (by decide) ?_
      rw [show (nI (p_compute u x1 x2 x3 x4).1) = 2 from by rw [e1]; rfl]
      refine W.widen (k := 1) (n := 6) (by decide) (by decide) ?_
      exact W.iret hx hb hr (fun t ht hW => ⟨⟨_, (), rfl, rfl, by rw [ht]; exact hP, va_K.moved hW.alike hK, hD⟩, hS.F ht⟩) hS.2.2 dL_compute_24
set_option maxHeartbeats 4000000 in
set_option maxRecDepth 100000 in
theorem ct_load (l : Launch) (hlt : l.stackTraces = false) (D : va_G) (ad : Nat → Nat) (cI cZ : ClassId) (zz : (Nat → Prop) → State → Heap → Prop) (hzz : Zok zz) (tS : Nat) (hst : Zst zz tS) (hxs : Zxs zz) (hnc : Znc zz) (cJ : ClassId) (ao : Nat) (f : Nat → Int64) (u : St) (x1 x2 : Int32) (hok : ok_load u x1 x2) (hcd : (p_load u x1 x2).1 ≤ 2) : tlI l D vwCl (tyL cI cZ cJ) zz yL_load wsL_load ({ frames := 8, cells := 1, slots := 6, locals := 138 } : Room) [.ref (ad 0), .int x1, .int x2, .ref ao] (wO ad cI cZ cJ ao f u) (nI (p_load u x1 x2).1) (wO ad cI cZ cJ ao (lf f (p_load u x1 x2).1 (p_load u x1 x2).2.1) (p_load u x1 x2).2.2) := by
  intro sz
  refine va_MetW (cc := cL_load) (maxL := 5) (ret := (some .int)) (by decide) rfl ?_
  intro p e s m args below meth c s₁ B hml hv
  obtain ⟨rfl, hsz, hP, hK, hD0, hZ⟩ := hv
  have hx := B.exec
  have hb := B.bytes
  have hr := B.returns
  have hts := atoms_spec (ws := wsL_load) B.pre
  have hown : s.vm.findClass RL = some m.cls := findClass_of_methodNamed B.named
  have hlocks := B.notSynchronized
  have hTab : c.exceptionTable.toList = tableOf hL_load := vx_table (x := yL_load) B (hts _ List.mem_cons_self)
  have hX := hxs _ _ _ hZ
  have hKT := hK.sub (tys' := tyT cI cZ) [0, 1] rfl
  subst hsz
  have hD := hD0.self (sz := s.heap.size)
  generalize hAe : va_A (wO ad cI cZ cJ ao f u) s.heap.size = A at hD hZ hX ⊢
  have hA : ∀ q : Nat, s.heap.size ≤ q → A q := fun q h => by rw [← hAe]; exact Or.inr h
  have hS : va_S A s.heap s.heap [] := va_S.rf
  have hl := lv_entry ([.ref (ad 0), .int x1, .int x2, .ref ao]) (n := 5) (Nat.le_of_ble_eq_true rfl)
  rw [lg_entry_eq]
  generalize (lg_sl ([.ref (ad 0), .int x1, .int x2, .ref ao]) ++ List.replicate (5 - (lg_sl ([.ref (ad 0), .int x1, .int x2, .ref ao])).length) Slot.unset).toArray = ls at hl ⊢
  have hl : lv_has ls 5 [(0, .ref (ad 0)), (1, .int x1), (2, .int x2), (3, .ref ao)] := hl
  rcases Classical.em ((p_load u x1 x2).1 = 0) with hc | hc
  · skip
    refine lv_aload_n hx hb dL_load_0 rfl (lv_at hl 3 rfl) ?_
    refine lv_iconst (v := 0) hx hb dL_load_1 (by decide) ?_
    refine lv_aload_n hx hb dL_load_2 rfl (lv_at hl 0 rfl) ?_
    refine lv_iload_n hx hb dL_load_3 rfl (lv_at hl 1 rfl) ?_
    refine lv_iload_n hx hb dL_load_4 rfl (lv_at hl 2 rfl) ?_
    refine g_callVi (As := [.int x1, .int x2]) (rest := [.int 0, .ref ao]) (wr := [(ao, .inl (cJ, 1, .inr (.inl f)))]) (w := wT ad cI cZ u) (wb := wO ad cI cZ cJ ao f (p_load u x1 x2).2.2) hzz ⟨hx, hb, hml, hown, hts⟩ (cr_load l D ad cI cZ zz hzz tS hst u x1 x2 hok hc) (cwV 2 hts (tb_V tw_2_56 tw_2_57 tw_2_58 tw_1_1 tw_2_59) rfl rfl rfl (by decide +kernel) ⟨Nat.le_of_ble_eq_true rfl, Nat.le_of_ble_eq_true rfl⟩) (va_recv hK hP (ci := 3) (q0 := 1) rfl rfl) rfl hl.1 rfl (lv_room (Nat.le_of_ble_eq_true rfl)) dL_load_5 ⟨Nat.le_of_ble_eq_true rfl, Nat.le_of_ble_eq_true rfl⟩ (List.Perm.refl _) (List.Perm.refl _) hP hKT hD hS hA hZ (fun H locs hP hD hS => ?_)
    refine lv_i2l (v := Int32.toInt64 (p_load u x1 x2).2.1) hx hb dL_load_8 rfl ?_
    refine va_last hx hb hK hP hD hS 0 2 rfl rfl l_in0 dL_load_9 (fun H locs hP hD hS => ?_)
    have hP : va_P D vwCl (wO ad cI cZ cJ ao (vp_updL f (0 : Int32).toNatClampNeg (Int32.toInt64 (p_load u x1 x2).2.1)) (p_load u x1 x2).2.2) H := hP
    have hD : va_D A (wO ad cI cZ cJ ao (vp_updL f (0 : Int32).toNatClampNeg (Int32.toInt64 (p_load u x1 x2).2.1)) (p_load u x1 x2).2.2) := hD
    refine lv_goto (tgt := 21) hx hb dL_load_10 (by decide) ?_
    refine lv_iconst (v := 0) hx hb dL_load_21 (by decide) ?_
    rw [show (lf f (p_load u x1 x2).1 (p_load u x1 x2).2.1) = vp_updL f (0 : Int32).toNatClampNeg (Int32.toInt64 (p_load u x1 x2).2.1) from if_pos hc]
    rw [show (nI (p_load u x1 x2).1) = 0 from by rw [hc]; rfl]
    refine W.widen (k := 1) (n := 6) (by decide) (by decide) ?_
    exact W.iret hx hb hr (fun t ht hW => ⟨⟨_, (), rfl, rfl, by rw [ht]; exact hP, va_K.moved hW.alike hK, hD⟩, hS.F ht⟩) hS.2.2 dL_load_22
  · skip
    rw [show (lf f (p_load u x1 x2).1 (p_load u x1 x2).2.1) = f from if_neg hc]
    refine lv_aload_n hx hb dL_load_0 rfl (lv_at hl 3 rfl) ?_
    refine lv_iconst (v := 0) hx hb dL_load_1 (by decide) ?_
    refine lv_aload_n hx hb dL_load_2 rfl (lv_at hl 0 rfl) ?_
    refine lv_iload_n hx hb dL_load_3 rfl (lv_at hl 1 rfl) ?_
    refine lv_iload_n hx hb dL_load_4 rfl (lv_at hl 2 rfl) ?_
    refine gx_callVi (As := [.int x1, .int x2]) (rest := [.int 0, .ref ao]) (wr := [(ao, .inl (cJ, 1, .inr (.inl f)))]) (w := wT ad cI cZ u) (wb := wO ad cI cZ cJ ao f (p_load u x1 x2).2.2) hzz ⟨hx, hb, hml, hown, hts⟩ (cx_load l hlt D ad cI cZ zz hzz tS hst hxs u x1 x2 hok hc) (cwV 2 hts (tb_V tw_2_56 tw_2_57 tw_2_58 tw_1_1 tw_2_59) rfl rfl rfl (by decide +kernel) ⟨Nat.le_of_ble_eq_true rfl, Nat.le_of_ble_eq_true rfl⟩) (va_recv hK hP (ci := 3) (q0 := 1) rfl rfl) rfl hl.1 rfl (lv_room (Nat.le_of_ble_eq_true rfl)) dL_load_5 ⟨Nat.le_of_ble_eq_true rfl, Nat.le_of_ble_eq_true rfl⟩ (List.Perm.refl _) (List.Perm.refl _) hP hKT hD hS hA hZ hc (fun ce q9 H locs hP hD hS hce hcv hcl => ?_)
    rcases (show (p_load u x1 x2).1 = 1 ∨ (p_load u x1 x2).1 = 2 by omega) with e1 | e1
    · skip
      rw [e1] at hcl
      have hcl : s.vm.findClass "java/lang/IllegalArgumentException" = some ce.cls := hcl
      refine vx_catch hown [] ⟨0, 10, 13, 13⟩ [⟨0, 10, 17, 15⟩] (hTab.trans rfl) (fun z hz => absurd hz List.not_mem_nil) rfl (by decide) (hts _ (tb_c tw_1_184)) (va_Nw.use rfl (hX.2.2.2 _ xc1)) hce hcv hcl ?_
      refine lv_astore (lv' := [(4, .ref q9), (0, .ref (ad 0)), (1, .int x1), (2, .int x2), (3, .ref ao)]) hx hb dL_load_13 hl (by decide) rfl (fun ls hl => ?_)
      refine lv_iconst (v := 1) hx hb dL_load_15 (by decide) ?_
      rw [show (nI (p_load u x1 x2).1) = 1 from by rw [e1]; rfl]
      refine W.widen (k := 1) (n := 6) (by decide) (by decide) ?_
      exact W.iret hx hb hr (fun t ht hW => ⟨⟨_, (), rfl, rfl, by rw [ht]; exact hP, va_K.moved hW.alike hK, hD⟩, hS.F ht⟩) hS.2.2 dL_load_16
    · skip
      rw [e1] at hcl
      have hcl : s.vm.findClass "java/lang/IllegalStateException" = some ce.cls := hcl
      refine vx_catch hown [⟨0, 10, 13, 13⟩] ⟨0, 10, 17, 15⟩ [] (hTab.trans rfl) (fun z hz => by rw [List.mem_singleton.mp hz]; exact Or.inr ⟨by decide, "java/lang/IllegalArgumentException", hts _ (tb_c tw_1_184), hnc _ _ _ hZ⟩) rfl (by decide) (hts _ (tb_c tw_1_185)) (va_Nw.use rfl (hX.2.2.2 _ xc2)) hce hcv hcl ?_
      refine lv_astore (lv' := [(4, .ref q9), (0, .ref (ad 0)), (1, .int x1), (2, .int x2), (3, .ref ao)]) hx hb dL_load_17 hl (by decide) rfl (fun ls hl => ?_)
      refine lv_iconst (v := 2) hx hb dL_load_19 (by decide) ?_
      rw [show (nI (p_load u x1 x2).1) = 2 from by rw [e1]; rfl]
      refine W.widen (k := 1) (n := 6) (by decide) (by decide) ?_
      exact W.iret hx hb hr (fun t ht hW => ⟨⟨_, (), rfl, rfl, by rw [ht]; exact hP, va_K.moved hW.alike hK, hD⟩, hS.F ht⟩) hS.2.2 dL_load_20
set_option maxHeartbeats 4000000 in
set_option maxRecDepth 100000 in
theorem ct_store (l : Launch) (hlt : l.stackTraces = false) (D : va_G) (ad : Nat → Nat) (cI cZ : ClassId) (zz : (Nat → Prop) → State → Heap → Prop) (hzz : Zok zz) (tS : Nat) (hst : Zst zz tS) (hxs : Zxs zz) (hnc : Znc zz) (cJ : ClassId) (ao : Nat) (f : Nat → Int64) (u : St) (x1 x2 : Int32) (hok : ok_store u x1 x2) (hcd : (p_store u x1 x2).1 ≤ 2) : tlI l D vwCl (tyL cI cZ cJ) zz yL_store wsL_store ({ frames := 8, cells := 1, slots := 6, locals := 138 } : Room) [.ref (ad 0), .int x1, .int x2, .ref ao] (wO ad cI cZ cJ ao f u) (nI (p_store u x1 x2).1) (wO ad cI cZ cJ ao (lf f (p_store u x1 x2).1 (p_store u x1 x2).2.1) (p_store u x1 x2).2.2) := by
  intro sz
  refine va_MetW (cc := cL_store) (maxL := 5) (ret := (some .int)) (by decide) rfl ?_
  intro p e s m args below meth c s₁ B hml hv
  obtain ⟨rfl, hsz, hP, hK, hD0, hZ⟩ := hv
  have hx := B.exec
  have hb := B.bytes
  have hr := B.returns
  have hts := atoms_spec (ws := wsL_store) B.pre
  have hown : s.vm.findClass RL = some m.cls := findClass_of_methodNamed B.named
  have hlocks := B.notSynchronized
  have hTab : c.exceptionTable.toList = tableOf hL_store := vx_table (x := yL_store) B (hts _ List.mem_cons_self)
  have hX := hxs _ _ _ hZ
  have hKT := hK.sub (tys' := tyT cI cZ) [0, 1] rfl
  subst hsz
  have hD := hD0.self (sz := s.heap.size)
  generalize hAe : va_A (wO ad cI cZ cJ ao f u) s.heap.size = A at hD hZ hX ⊢
  have hA : ∀ q : Nat, s.heap.size ≤ q → A q := fun q h => by rw [← hAe]; exact Or.inr h
  have hS : va_S A s.heap s.heap [] := va_S.rf
  have hl := lv_entry ([.ref (ad 0), .int x1, .int x2, .ref ao]) (n := 5) (Nat.le_of_ble_eq_true rfl)
  rw [lg_entry_eq]
  generalize (lg_sl ([.ref (ad 0), .int x1, .int x2, .ref ao]) ++ List.replicate (5 - (lg_sl ([.ref (ad 0), .int x1, .int x2, .ref ao])).length) Slot.unset).toArray = ls at hl ⊢
  have hl : lv_has ls 5 [(0, .ref (ad 0)), (1, .int x1), (2, .int x2), (3, .ref ao)] := hl
  rcases Classical.em ((p_store u x1 x2).1 = 0) with hc | hc
  · skip
    refine lv_aload_n hx hb dL_store_0 rfl (lv_at hl 3 rfl) ?_
    refine lv_iconst (v := 0) hx hb dL_store_1 (by decide) ?_
    refine lv_aload_n hx hb dL_store_2 rfl (lv_at hl 0 rfl) ?_
    refine lv_iload_n hx hb dL_store_3 rfl (lv_at hl 1 rfl) ?_
    refine lv_iload_n hx hb dL_store_4 rfl (lv_at hl 2 rfl) ?_
    refine g_callVi (As := [.int x1, .int x2]) (rest := [.int 0, .ref ao]) (wr := [(ao, .inl (cJ, 1, .inr (.inl f)))]) (w := wT ad cI cZ u) (wb := wO ad cI cZ cJ ao f (p_store u x1 x2).2.2) hzz ⟨hx, hb, hml, hown, hts⟩ (cr_store l D ad cI cZ zz hzz tS hst u x1 x2 hok hc) (cwV 2 hts (tb_V tw_2_63 tw_2_64 tw_2_65 tw_1_1 tw_2_66) rfl rfl rfl (by decide +kernel) ⟨Nat.le_of_ble_eq_true rfl, Nat.le_of_ble_eq_true rfl⟩) (va_recv hK hP (ci := 3) (q0 := 1) rfl rfl) rfl hl.1 rfl (lv_room (Nat.le_of_ble_eq_true rfl)) dL_store_5 ⟨Nat.le_of_ble_eq_true rfl, Nat.le_of_ble_eq_true rfl⟩ (List.Perm.refl _) (List.Perm.refl _) hP hKT hD hS hA hZ (fun H locs hP hD hS => ?_)
    refine lv_i2l (v := Int32.toInt64 (p_store u x1 x2).2.1) hx hb dL_store_8 rfl ?_
    refine va_last hx hb hK hP hD hS 0 2 rfl rfl l_in0 dL_store_9 (fun H locs hP hD hS => ?_)
    have hP : va_P D vwCl (wO ad cI cZ cJ ao (vp_updL f (0 : Int32).toNatClampNeg (Int32.toInt64 (p_store u x1 x2).2.1)) (p_store u x1 x2).2.2) H := hP
    have hD : va_D A (wO ad cI cZ cJ ao (vp_updL f (0 : Int32).toNatClampNeg (Int32.toInt64 (p_store u x1 x2).2.1)) (p_store u x1 x2).2.2) := hD
    refine lv_goto (tgt := 21) hx hb dL_store_10 (by decide) ?_
    refine lv_iconst (v := 0) hx hb dL_store_21 (by decide) ?_
    rw [show (lf f (p_store u x1 x2).1 (p_store u x1 x2).2.1) = vp_updL f (0 : Int32).toNatClampNeg (Int32.toInt64 (p_store u x1 x2).2.1) from if_pos hc]
    rw [show (nI (p_store u x1 x2).1) = 0 from by rw [hc]; rfl]
    refine W.widen (k := 1) (n := 6) (by decide) (by decide) ?_
    exact W.iret hx hb hr (fun t ht hW => ⟨⟨_, (), rfl, rfl, by rw [ht]; exact hP, va_K.moved hW.alike hK, hD⟩, hS.F ht⟩) hS.2.2 dL_store_22
  · skip
    rw [show (lf f (p_store u x1 x2).1 (p_store u x1 x2).2.1) = f from if_neg hc]
    refine lv_aload_n hx hb dL_store_0 rfl (lv_at hl 3 rfl) ?_
    refine lv_iconst (v := 0) hx hb dL_store_1 (by decide) ?_
    refine lv_aload_n hx hb dL_store_2 rfl (lv_at hl 0 rfl) ?_
    refine lv_iload_n hx hb dL_store_3 rfl (lv_at hl 1 rfl) ?_
    refine lv_iload_n hx hb dL_store_4 rfl (lv_at hl 2 rfl) ?_
    refine gx_callVi (As := [.int x1, .int x2]) (rest := [.int 0, .ref ao]) (wr := [(ao, .inl (cJ, 1, .inr (.inl f)))]) (w := wT ad cI cZ u) (wb := wO ad cI cZ cJ ao f (p_store u x1 x2).2.2) hzz ⟨hx, hb, hml, hown, hts⟩ (cx_store l hlt D ad cI cZ zz hzz tS hst hxs u x1 x2 hok hc) (cwV 2 hts (tb_V tw_2_63 tw_2_64 tw_2_65 tw_1_1 tw_2_66) rfl rfl rfl (by decide +kernel) ⟨Nat.le_of_ble_eq_true rfl, Nat.le_of_ble_eq_true rfl⟩) (va_recv hK hP (ci := 3) (q0 := 1) rfl rfl) rfl hl.1 rfl (lv_room (Nat.le_of_ble_eq_true rfl)) dL_store_5 ⟨Nat.le_of_ble_eq_true rfl, Nat.le_of_ble_eq_true rfl⟩ (List.Perm.refl _) (List.Perm.refl _) hP hKT hD hS hA hZ hc (fun ce q9 H locs hP hD hS hce hcv hcl => ?_)
    rcases (show (p_store u x1 x2).1 = 1 ∨ (p_store u x1 x2).1 = 2 by omega) with e1 | e1
    · skip
      rw [e1] at hcl
      have hcl : s.vm.findClass "java/lang/IllegalArgumentException" = some ce.cls := hcl
      refine vx_catch hown [] ⟨0, 10, 13, 13⟩ [⟨0, 10, 17, 15⟩] (hTab.trans rfl) (fun z hz => absurd hz List.not_mem_nil) rfl (by decide) (hts _ (tb_c tw_1_184)) (va_Nw.use rfl (hX.2.2.2 _ xc1)) hce hcv hcl ?_
      refine lv_astore (lv' := [(4, .ref q9), (0, .ref (ad 0)), (1, .int x1), (2, .int x2), (3, .ref ao)]) hx hb dL_store_13 hl (by decide) rfl (fun ls hl => ?_)
      refine lv_iconst (v := 1) hx hb dL_store_15 (by decide) ?_
      rw [show (nI (p_store u x1 x2).1) = 1 from by rw [e1]; rfl]
      refine W.widen (k := 1) (n := 6) (by decide) (by decide) ?_
      exact W.iret hx hb hr (fun t ht hW => ⟨⟨_, (), rfl, rfl, by rw [ht]; exact hP, va_K.moved hW.alike hK, hD⟩, hS.F ht⟩) hS.2.2 dL_store_16
    · skip
      rw [e1] at hcl
      have hcl : s.vm.findClass "java/lang/IllegalStateException" = some ce.cls := hcl
      refine vx_catch hown [⟨0, 10, 13, 13⟩] ⟨0, 10, 17, 15⟩ [] (hTab.trans rfl) (fun z hz => by rw [List.mem_singleton.mp hz]; exact Or.inr ⟨by decide, "java/lang/IllegalArgumentException", hts _ (tb_c tw_1_184), hnc _ _ _ hZ⟩) rfl (by decide) (hts _ (tb_c tw_1_185)) (va_Nw.use rfl (hX.2.2.2 _ xc2)) hce hcv hcl ?_
      refine lv_astore (lv' := [(4, .ref q9), (0, .ref (ad 0)), (1, .int x1), (2, .int x2), (3, .ref ao)]) hx hb dL_store_17 hl (by decide) rfl (fun ls hl => ?_)
      refine lv_iconst (v := 2) hx hb dL_store_19 (by decide) ?_
      rw [show (nI (p_store u x1 x2).1) = 2 from by rw [e1]; rfl]
      refine W.widen (k := 1) (n := 6) (by decide) (by decide) ?_
      exact W.iret hx hb hr (fun t ht hW => ⟨⟨_, (), rfl, rfl, by rw [ht]; exact hP, va_K.moved hW.alike hK, hD⟩, hS.F ht⟩) hS.2.2 dL_store_20
set_option maxHeartbeats 4000000 in
set_option maxRecDepth 100000 in
theorem ct_jump (l : Launch) (hlt : l.stackTraces = false) (D : va_G) (ad : Nat → Nat) (cI cZ : ClassId) (zz : (Nat → Prop) → State → Heap → Prop) (hzz : Zok zz) (tS : Nat) (hst : Zst zz tS) (hxs : Zxs zz) (hnc : Znc zz) (cJ : ClassId) (ao : Nat) (f : Nat → Int64) (u : St) (x1 : Int32) (hok : ok_jump u x1) (hcd : (p_jump u x1).1 ≤ 2) : tlI l D vwCl (tyL cI cZ cJ) zz yL_jump wsL_jump ({ frames := 8, cells := 1, slots := 6, locals := 137 } : Room) [.ref (ad 0), .int x1, .ref ao] (wO ad cI cZ cJ ao f u) (nI (p_jump u x1).1) (wO ad cI cZ cJ ao (lf f (p_jump u x1).1 (p_jump u x1).2.1) (p_jump u x1).2.2) := by
  intro sz
  refine va_MetW (cc := cL_jump) (maxL := 4) (ret := (some .int)) (by decide) rfl ?_
  intro p e s m args below meth c s₁ B hml hv
  obtain ⟨rfl, hsz, hP, hK, hD0, hZ⟩ := hv
  have hx := B.exec
  have hb := B.bytes
  have hr := B.returns
  have hts := atoms_spec (ws := wsL_jump) B.pre
  have hown : s.vm.findClass RL = some m.cls := findClass_of_methodNamed B.named
  have hlocks := B.notSynchronized
  have hTab : c.exceptionTable.toList = tableOf hL_jump := vx_table (x := yL_jump) B (hts _ List.mem_cons_self)
  have hX := hxs _ _ _ hZ
  have hKT := hK.sub (tys' := tyT cI cZ) [0, 1] rfl
  subst hsz
  have hD := hD0.self (sz := s.heap.size)
  generalize hAe : va_A (wO ad cI cZ cJ ao f u) s.heap.size = A at hD hZ hX ⊢
  have hA : ∀ q : Nat, s.heap.size ≤ q → A q := fun q h => by rw [← hAe]; exact Or.inr h
  have hS : va_S A s.heap s.heap [] := va_S.rf
  have hl := lv_entry ([.ref (ad 0), .int x1, .ref ao]) (n := 4) (Nat.le_of_ble_eq_true rfl)
  rw [lg_entry_eq]
  generalize (lg_sl ([.ref (ad 0), .int x1, .ref ao]) ++ List.replicate (4 - (lg_sl ([.ref (ad 0), .int x1, .ref ao])).length) Slot.unset).toArray = ls at hl ⊢
  have hl : lv_has ls 4 [(0, .ref (ad 0)), (1, .int x1), (2, .ref ao)] := hl
  rcases Classical.em ((p_jump u x1).1 = 0) with hc | hc
  · skip
    refine lv_aload_n hx hb dL_jump_0 rfl (lv_at hl 2 rfl) ?_
    refine lv_iconst (v := 0) hx hb dL_jump_1 (by decide) ?_
    refine lv_aload_n hx hb dL_jump_2 rfl (lv_at hl 0 rfl) ?_
    refine lv_iload_n hx hb dL_jump_3 rfl (lv_at hl 1 rfl) ?_
    refine g_callVi (As := [.int x1]) (rest := [.int 0, .ref ao]) (wr := [(ao, .inl (cJ, 1, .inr (.inl f)))]) (w := wT ad cI cZ u) (wb := wO ad cI cZ cJ ao f (p_jump u x1).2.2) hzz ⟨hx, hb, hml, hown, hts⟩ (cr_jump l D ad cI cZ zz hzz tS hst u x1 hok hc) (cwV 1 hts (tb_V tw_2_70 tw_2_71 tw_2_72 tw_1_1 tw_2_73) rfl rfl rfl (by decide +kernel) ⟨Nat.le_of_ble_eq_true rfl, Nat.le_of_ble_eq_true rfl⟩) (va_recv hK hP (ci := 3) (q0 := 1) rfl rfl) rfl hl.1 rfl (lv_room (Nat.le_of_ble_eq_true rfl)) dL_jump_4 ⟨Nat.le_of_ble_eq_true rfl, Nat.le_of_ble_eq_true rfl⟩ (List.Perm.refl _) (List.Perm.refl _) hP hKT hD hS hA hZ (fun H locs hP hD hS => ?_)
    refine lv_i2l (v := Int32.toInt64 (p_jump u x1).2.1) hx hb dL_jump_7 rfl ?_
    refine va_last hx hb hK hP hD hS 0 2 rfl rfl l_in0 dL_jump_8 (fun H locs hP hD hS => ?_)
    have hP : va_P D vwCl (wO ad cI cZ cJ ao (vp_updL f (0 : Int32).toNatClampNeg (Int32.toInt64 (p_jump u x1).2.1)) (p_jump u x1).2.2) H := hP
    have hD : va_D A (wO ad cI cZ cJ ao (vp_updL f (0 : Int32).toNatClampNeg (Int32.toInt64 (p_jump u x1).2.1)) (p_jump u x1).2.2) := hD
    refine lv_goto (tgt := 18) hx hb dL_jump_9 (by decide) ?_
    refine lv_iconst (v := 0) hx hb dL_jump_18 (by decide) ?_
    rw [show (lf f (p_jump u x1).1 (p_jump u x1).2.1) = vp_updL f (0 : Int32).toNatClampNeg (Int32.toInt64 (p_jump u x1).2.1) from if_pos hc]
    rw [show (nI (p_jump u x1).1) = 0 from by rw [hc]; rfl]
    refine W.widen (k := 1) (n := 6) (by decide) (by decide) ?_
    exact W.iret hx hb hr (fun t ht hW => ⟨⟨_, (), rfl, rfl, by rw [ht]; exact hP, va_K.moved hW.alike hK, hD⟩, hS.F ht⟩) hS.2.2 dL_jump_19
  · skip
    rw [show (lf f (p_jump u x1).1 (p_jump u x1).2.1) = f from if_neg hc]
    refine lv_aload_n hx hb dL_jump_0 rfl (lv_at hl 2 rfl) ?_
    refine lv_iconst (v := 0) hx hb dL_jump_1 (by decide) ?_
    refine lv_aload_n hx hb dL_jump_2 rfl (lv_at hl 0 rfl) ?_
    refine lv_iload_n hx hb dL_jump_3 rfl (lv_at hl 1 rfl) ?_
    refine gx_callVi (As := [.int x1]) (rest := [.int 0, .ref ao]) (wr := [(ao, .inl (cJ, 1, .inr (.inl f)))]) (w := wT ad cI cZ u) (wb := wO ad cI cZ cJ ao f (p_jump u x1).2.2) hzz ⟨hx, hb, hml, hown, hts⟩ (cx_jump l hlt D ad cI cZ zz hzz tS hst hxs u x1 hok hc) (cwV 1 hts (tb_V tw_2_70 tw_2_71 tw_2_72 tw_1_1 tw_2_73) rfl rfl rfl (by decide +kernel) ⟨Nat.le_of_ble_eq_true rfl, Nat.le_of_ble_eq_true rfl⟩) (va_recv hK hP (ci := 3) (q0 := 1) rfl rfl) rfl hl.1 rfl (lv_room (Nat.le_of_ble_eq_true rfl)) dL_jump_4 ⟨Nat.le_of_ble_eq_true rfl, Nat.le_of_ble_eq_true rfl⟩ (List.Perm.refl _) (List.Perm.refl _) hP hKT hD hS hA hZ hc (fun ce q9 H locs hP hD hS hce hcv hcl => ?_)
    rcases (show (p_jump u x1).1 = 1 ∨ (p_jump u x1).1 = 2 by omega) with e1 | e1
    · skip
      rw [e1] at hcl
      have hcl : s.vm.findClass "java/lang/IllegalArgumentException" = some ce.cls := hcl
      refine vx_catch hown [] ⟨0, 9, 12, 13⟩ [⟨0, 9, 15, 15⟩] (hTab.trans rfl) (fun z hz => absurd hz List.not_mem_nil) rfl (by decide) (hts _ (tb_c tw_1_184)) (va_Nw.use rfl (hX.2.2.2 _ xc1)) hce hcv hcl ?_
      refine lv_astore_n (lv' := [(3, .ref q9), (0, .ref (ad 0)), (1, .int x1), (2, .ref ao)]) hx hb dL_jump_12 rfl hl (by decide) rfl (fun ls hl => ?_)
      refine lv_iconst (v := 1) hx hb dL_jump_13 (by decide) ?_
      rw [show (nI (p_jump u x1).1) = 1 from by rw [e1]; rfl]
      refine W.widen (k := 1) (n := 6) (by decide) (by decide) ?_
      exact W.iret hx hb hr (fun t ht hW => ⟨⟨_, (), rfl, rfl, by rw [ht]; exact hP, va_K.moved hW.alike hK, hD⟩, hS.F ht⟩) hS.2.2 dL_jump_14
    · skip
      rw [e1] at hcl
      have hcl : s.vm.findClass "java/lang/IllegalStateException" = some ce.cls := hcl
      refine vx_catch hown [⟨0, 9, 12, 13⟩] ⟨0, 9, 15, 15⟩ [] (hTab.trans rfl) (fun z hz => by rw [List.mem_singleton.mp hz]; exact Or.inr ⟨by decide, "java/lang/IllegalArgumentException", hts _ (tb_c tw_1_184), hnc _ _ _ hZ⟩) rfl (by decide) (hts _ (tb_c tw_1_185)) (va_Nw.use rfl (hX.2.2.2 _ xc2)) hce hcv hcl ?_
      refine lv_astore_n (lv' := [(3, .ref q9), (0, .ref (ad 0)), (1, .int x1), (2, .ref ao)]) hx hb dL_jump_15 rfl hl (by decide) rfl (fun ls hl => ?_)
      refine lv_iconst (v := 2) hx hb dL_jump_16 (by decide) ?_
      rw [show (nI (p_jump u x1).1) = 2 from by rw [e1]; rfl]
      refine W.widen (k := 1) (n := 6) (by decide) (by decide) ?_
      exact W.iret hx hb hr (fun t ht hW => ⟨⟨_, (), rfl, rfl, by rw [ht]; exact hP, va_K.moved hW.alike hK, hD⟩, hS.F ht⟩) hS.2.2 dL_jump_17
set_option maxHeartbeats 4000000 in
set_option maxRecDepth 100000 in
theorem ct_branch (l : Launch) (hlt : l.stackTraces = false) (D : va_G) (ad : Nat → Nat) (cI cZ : ClassId) (zz : (Nat → Prop) → State → Heap → Prop) (hzz : Zok zz) (tS : Nat) (hst : Zst zz tS) (hxs : Zxs zz) (hnc : Znc zz) (cJ : ClassId) (ao : Nat) (f : Nat → Int64) (u : St) (x1 x2 x3 x4 : Int32) (hok : ok_branch u x1 x2 x3 x4) (hcd : (p_branch u x1 x2 x3 x4).1 ≤ 2) : tlI l D vwCl (tyL cI cZ cJ) zz yL_branch wsL_branch ({ frames := 8, cells := 1, slots := 6, locals := 140 } : Room) [.ref (ad 0), .int x1, .int x2, .int x3, .int x4, .ref ao] (wO ad cI cZ cJ ao f u) (nI (p_branch u x1 x2 x3 x4).1) (wO ad cI cZ cJ ao (lf f (p_branch u x1 x2 x3 x4).1 (p_branch u x1 x2 x3 x4).2.1) (p_branch u x1 x2 x3 x4).2.2) := by
  intro sz
  refine va_MetW (cc := cL_branch) (maxL := 7) (ret := (some .int)) (by decide) rfl ?_
  intro p e s m args below meth c s₁ B hml hv
  obtain ⟨rfl, hsz, hP, hK, hD0, hZ⟩ := hv
  have hx := B.exec
  have hb := B.bytes
  have hr := B.returns
  have hts := atoms_spec (ws := wsL_branch) B.pre
  have hown : s.vm.findClass RL = some m.cls := findClass_of_methodNamed B.named
  have hlocks := B.notSynchronized
  have hTab : c.exceptionTable.toList = tableOf hL_branch := vx_table (x := yL_branch) B (hts _ List.mem_cons_self)
  have hX := hxs _ _ _ hZ
  have hKT := hK.sub (tys' := tyT cI cZ) [0, 1] rfl
  subst hsz
  have hD := hD0.self (sz := s.heap.size)
  generalize hAe : va_A (wO ad cI cZ cJ ao f u) s.heap.size = A at hD hZ hX ⊢
  have hA : ∀ q : Nat, s.heap.size ≤ q → A q := fun q h => by rw [← hAe]; exact Or.inr h
  have hS : va_S A s.heap s.heap [] := va_S.rf
  have hl := lv_entry ([.ref (ad 0), .int x1, .int x2, .int x3, .int x4, .ref ao]) (n := 7) (Nat.le_of_ble_eq_true rfl)
  rw [lg_entry_eq]
  generalize (lg_sl ([.ref (ad 0), .int x1, .int x2, .int x3, .int x4, .ref ao]) ++ List.replicate (7 - (lg_sl ([.ref (ad 0), .int x1, .int x2, .int x3, .int x4, .ref ao])).length) Slot.unset).toArray = ls at hl ⊢
  have hl : lv_has ls 7 [(0, .ref (ad 0)), (1, .int x1), (2, .int x2), (3, .int x3), (4, .int x4), (5, .ref ao)] := hl
  rcases Classical.em ((p_branch u x1 x2 x3 x4).1 = 0) with hc | hc
  · skip
    refine lv_aload hx hb dL_branch_0 (lv_at hl 5 rfl) ?_
    refine lv_iconst (v := 0) hx hb dL_branch_2 (by decide) ?_
    refine lv_aload_n hx hb dL_branch_3 rfl (lv_at hl 0 rfl) ?_
    refine lv_iload_n hx hb dL_branch_4 rfl (lv_at hl 1 rfl) ?_
    refine lv_iload_n hx hb dL_branch_5 rfl (lv_at hl 2 rfl) ?_
    refine lv_iload_n hx hb dL_branch_6 rfl (lv_at hl 3 rfl) ?_
    refine lv_iload hx hb dL_branch_7 (lv_at hl 4 rfl) ?_
    refine g_callVi (As := [.int x1, .int x2, .int x3, .int x4]) (rest := [.int 0, .ref ao]) (wr := [(ao, .inl (cJ, 1, .inr (.inl f)))]) (w := wT ad cI cZ u) (wb := wO ad cI cZ cJ ao f (p_branch u x1 x2 x3 x4).2.2) hzz ⟨hx, hb, hml, hown, hts⟩ (cr_branch l D ad cI cZ zz hzz tS hst u x1 x2 x3 x4 hok hc) (cwV 4 hts (tb_V tw_2_81 tw_2_82 tw_2_83 tw_1_1 tw_2_84) rfl rfl rfl (by decide +kernel) ⟨Nat.le_of_ble_eq_true rfl, Nat.le_of_ble_eq_true rfl⟩) (va_recv hK hP (ci := 3) (q0 := 1) rfl rfl) rfl hl.1 rfl (lv_room (Nat.le_of_ble_eq_true rfl)) dL_branch_9 ⟨Nat.le_of_ble_eq_true rfl, Nat.le_of_ble_eq_true rfl⟩ (List.Perm.refl _) (List.Perm.refl _) hP hKT hD hS hA hZ (fun H locs hP hD hS => ?_)
    refine lv_i2l (v := Int32.toInt64 (p_branch u x1 x2 x3 x4).2.1) hx hb dL_branch_12 rfl ?_
    refine va_last hx hb hK hP hD hS 0 2 rfl rfl l_in0 dL_branch_13 (fun H locs hP hD hS => ?_)
    have hP : va_P D vwCl (wO ad cI cZ cJ ao (vp_updL f (0 : Int32).toNatClampNeg (Int32.toInt64 (p_branch u x1 x2 x3 x4).2.1)) (p_branch u x1 x2 x3 x4).2.2) H := hP
    have hD : va_D A (wO ad cI cZ cJ ao (vp_updL f (0 : Int32).toNatClampNeg (Int32.toInt64 (p_branch u x1 x2 x3 x4).2.1)) (p_branch u x1 x2 x3 x4).2.2) := hD
    refine lv_goto (tgt := 25) hx hb dL_branch_14 (by decide) ?_
    refine lv_iconst (v := 0) hx hb dL_branch_25 (by decide) ?_
    rw [show (lf f (p_branch u x1 x2 x3 x4).1 (p_branch u x1 x2 x3 x4).2.1) = vp_updL f (0 : Int32).toNatClampNeg (Int32.toInt64 (p_branch u x1 x2 x3 x4).2.1) from if_pos hc]
    rw [show (nI (p_branch u x1 x2 x3 x4).1) = 0 from by rw [hc]; rfl]
    refine W.widen (k := 1) (n := 6) (by decide) (by decide) ?_
    exact W.iret hx hb hr (fun t ht hW => ⟨⟨_, (), rfl, rfl, by rw [ht]; exact hP, va_K.moved hW.alike hK, hD⟩, hS.F ht⟩) hS.2.2 dL_branch_26
  · skip
    rw [show (lf f (p_branch u x1 x2 x3 x4).1 (p_branch u x1 x2 x3 x4).2.1) = f from if_neg hc]
    refine lv_aload hx hb dL_branch_0 (lv_at hl 5 rfl) ?_
    refine lv_iconst (v := 0) hx hb dL_branch_2 (by decide) ?_
    refine lv_aload_n hx hb dL_branch_3 rfl (lv_at hl 0 rfl) ?_
    refine lv_iload_n hx hb dL_branch_4 rfl (lv_at hl 1 rfl) ?_
    refine lv_iload_n hx hb dL_branch_5 rfl (lv_at hl 2 rfl) ?_
    refine lv_iload_n hx hb dL_branch_6 rfl (lv_at hl 3 rfl) ?_
    refine lv_iload hx hb dL_branch_7 (lv_at hl 4 rfl) ?_
    refine gx_callVi (As := [.int x1, .int x2, .int x3, .int x4]) (rest := [.int 0, .ref ao]) (wr := [(ao, .inl (cJ, 1, .inr (.inl f)))]) (w := wT ad cI cZ u) (wb := wO ad cI cZ cJ ao f (p_branch u x1 x2 x3 x4).2.2) hzz ⟨hx, hb, hml, hown, hts⟩ (cx_branch l hlt D ad cI cZ zz hzz tS hst hxs u x1 x2 x3 x4 hok hc) (cwV 4 hts (tb_V tw_2_81 tw_2_82 tw_2_83 tw_1_1 tw_2_84) rfl rfl rfl (by decide +kernel) ⟨Nat.le_of_ble_eq_true rfl, Nat.le_of_ble_eq_true rfl⟩) (va_recv hK hP (ci := 3) (q0 := 1) rfl rfl) rfl hl.1 rfl (lv_room (Nat.le_of_ble_eq_true rfl)) dL_branch_9 ⟨Nat.le_of_ble_eq_true rfl, Nat.le_of_ble_eq_true rfl⟩ (List.Perm.refl _) (List.Perm.refl _) hP hKT hD hS hA hZ hc (fun ce q9 H locs hP hD hS hce hcv hcl => ?_)
    rcases (show (p_branch u x1 x2 x3 x4).1 = 1 ∨ (p_branch u x1 x2 x3 x4).1 = 2 by omega) with e1 | e1
    · skip
      rw [e1] at hcl
      have hcl : s.vm.findClass "java/lang/IllegalArgumentException" = some ce.cls := hcl
      refine vx_catch hown [] ⟨0, 14, 17, 13⟩ [⟨0, 14, 21, 15⟩] (hTab.trans rfl) (fun z hz => absurd hz List.not_mem_nil) rfl (by decide) (hts _ (tb_c tw_1_184)) (va_Nw.use rfl (hX.2.2.2 _ xc1)) hce hcv hcl ?_
      refine lv_astore (lv' := [(6, .ref q9), (0, .ref (ad 0)), (1, .int x1), (2, .int x2), (3, .int x3), (4, .int x4), (5, .ref ao)]) hx hb dL_branch_17 hl (by decide) rfl (fun ls hl => ?_)
      refine lv_iconst (v := 1) hx hb dL_branch_19 (by decide) ?_
      rw [show (nI (p_branch u x1 x2 x3 x4).1) = 1 from by rw [e1]; rfl]
      refine W.widen (k := 1) (n := 6) (by decide) (by decide) ?_
      exact W.iret hx hb hr (fun t ht hW => ⟨⟨_, (), rfl, rfl, by rw [ht]; exact hP, va_K.moved hW.alike hK, hD⟩, hS.F ht⟩) hS.2.2 dL_branch_20
    · skip
      rw [e1] at hcl
      have hcl : s.vm.findClass "java/lang/IllegalStateException" = some ce.cls := hcl
      refine vx_catch hown [⟨0, 14, 17, 13⟩] ⟨0, 14, 21, 15⟩ [] (hTab.trans rfl) (fun z hz => by rw [List.mem_singleton.mp hz]; exact Or.inr ⟨by decide, "java/lang/IllegalArgumentException", hts _ (tb_c tw_1_184), hnc _ _ _ hZ⟩) rfl (by decide) (hts _ (tb_c tw_1_185)) (va_Nw.use rfl (hX.2.2.2 _ xc2)) hce hcv hcl ?_
      refine lv_astore (lv' := [(6, .ref q9), (0, .ref (ad 0)), (1, .int x1), (2, .int x2), (3, .int x3), (4, .int x4), (5, .ref ao)]) hx hb dL_branch_21 hl (by decide) rfl (fun ls hl => ?_)
      refine lv_iconst (v := 2) hx hb dL_branch_23 (by decide) ?_
      rw [show (nI (p_branch u x1 x2 x3 x4).1) = 2 from by rw [e1]; rfl]
      refine W.widen (k := 1) (n := 6) (by decide) (by decide) ?_
      exact W.iret hx hb hr (fun t ht hW => ⟨⟨_, (), rfl, rfl, by rw [ht]; exact hP, va_K.moved hW.alike hK, hD⟩, hS.F ht⟩) hS.2.2 dL_branch_24
set_option maxHeartbeats 4000000 in
set_option maxRecDepth 100000 in
theorem ct_out (l : Launch) (hlt : l.stackTraces = false) (D : va_G) (ad : Nat → Nat) (cI cZ : ClassId) (zz : (Nat → Prop) → State → Heap → Prop) (hzz : Zok zz) (tS : Nat) (hst : Zst zz tS) (hxs : Zxs zz) (hnc : Znc zz) (cJ : ClassId) (ao : Nat) (f : Nat → Int64) (u : St) (x1 : Int32) (hok : ok_out u x1) (hcd : (p_out u x1).1 ≤ 2) : tlI l D vwCl (tyL cI cZ cJ) zz yL_out wsL_out ({ frames := 8, cells := 1, slots := 6, locals := 137 } : Room) [.ref (ad 0), .int x1, .ref ao] (wO ad cI cZ cJ ao f u) (nI (p_out u x1).1) (wO ad cI cZ cJ ao (lf f (p_out u x1).1 (p_out u x1).2.1) (p_out u x1).2.2) := by
  intro sz
  refine va_MetW (cc := cL_out) (maxL := 4) (ret := (some .int)) (by decide) rfl ?_
  intro p e s m args below meth c s₁ B hml hv
  obtain ⟨rfl, hsz, hP, hK, hD0, hZ⟩ := hv
  have hx := B.exec
  have hb := B.bytes
  have hr := B.returns
  have hts := atoms_spec (ws := wsL_out) B.pre
  have hown : s.vm.findClass RL = some m.cls := findClass_of_methodNamed B.named
  have hlocks := B.notSynchronized
  have hTab : c.exceptionTable.toList = tableOf hL_out := vx_table (x := yL_out) B (hts _ List.mem_cons_self)
  have hX := hxs _ _ _ hZ
  have hKT := hK.sub (tys' := tyT cI cZ) [0, 1] rfl
  subst hsz
  have hD := hD0.self (sz := s.heap.size)
  generalize hAe : va_A (wO ad cI cZ cJ ao f u) s.heap.size = A at hD hZ hX ⊢
  have hA : ∀ q : Nat, s.heap.size ≤ q → A q := fun q h => by rw [← hAe]; exact Or.inr h
  have hS : va_S A s.heap s.heap [] := va_S.rf
  have hl := lv_entry ([.ref (ad 0), .int x1, .ref ao]) (n := 4) (Nat.le_of_ble_eq_true rfl)
  rw [lg_entry_eq]
  generalize (lg_sl ([.ref (ad 0), .int x1, .ref ao]) ++ List.replicate (4 - (lg_sl ([.ref (ad 0), .int x1, .ref ao])).length) Slot.unset).toArray = ls at hl ⊢
  have hl : lv_has ls 4 [(0, .ref (ad 0)), (1, .int x1), (2, .ref ao)] := hl
  rcases Classical.em ((p_out u x1).1 = 0) with hc | hc
  · skip
    refine lv_aload_n hx hb dL_out_0 rfl (lv_at hl 2 rfl) ?_
    refine lv_iconst (v := 0) hx hb dL_out_1 (by decide) ?_
    refine lv_aload_n hx hb dL_out_2 rfl (lv_at hl 0 rfl) ?_
    refine lv_iload_n hx hb dL_out_3 rfl (lv_at hl 1 rfl) ?_
    refine g_callVi (As := [.int x1]) (rest := [.int 0, .ref ao]) (wr := [(ao, .inl (cJ, 1, .inr (.inl f)))]) (w := wT ad cI cZ u) (wb := wO ad cI cZ cJ ao f (p_out u x1).2.2) hzz ⟨hx, hb, hml, hown, hts⟩ (cr_out l D ad cI cZ zz hzz tS hst u x1 hok hc) (cwV 1 hts (tb_V tw_2_92 tw_2_93 tw_2_94 tw_1_1 tw_2_95) rfl rfl rfl (by decide +kernel) ⟨Nat.le_of_ble_eq_true rfl, Nat.le_of_ble_eq_true rfl⟩) (va_recv hK hP (ci := 3) (q0 := 1) rfl rfl) rfl hl.1 rfl (lv_room (Nat.le_of_ble_eq_true rfl)) dL_out_4 ⟨Nat.le_of_ble_eq_true rfl, Nat.le_of_ble_eq_true rfl⟩ (List.Perm.refl _) (List.Perm.refl _) hP hKT hD hS hA hZ (fun H locs hP hD hS => ?_)
    refine lv_i2l (v := Int32.toInt64 (p_out u x1).2.1) hx hb dL_out_7 rfl ?_
    refine va_last hx hb hK hP hD hS 0 2 rfl rfl l_in0 dL_out_8 (fun H locs hP hD hS => ?_)
    have hP : va_P D vwCl (wO ad cI cZ cJ ao (vp_updL f (0 : Int32).toNatClampNeg (Int32.toInt64 (p_out u x1).2.1)) (p_out u x1).2.2) H := hP
    have hD : va_D A (wO ad cI cZ cJ ao (vp_updL f (0 : Int32).toNatClampNeg (Int32.toInt64 (p_out u x1).2.1)) (p_out u x1).2.2) := hD
    refine lv_goto (tgt := 18) hx hb dL_out_9 (by decide) ?_
    refine lv_iconst (v := 0) hx hb dL_out_18 (by decide) ?_
    rw [show (lf f (p_out u x1).1 (p_out u x1).2.1) = vp_updL f (0 : Int32).toNatClampNeg (Int32.toInt64 (p_out u x1).2.1) from if_pos hc]
    rw [show (nI (p_out u x1).1) = 0 from by rw [hc]; rfl]
    refine W.widen (k := 1) (n := 6) (by decide) (by decide) ?_
    exact W.iret hx hb hr (fun t ht hW => ⟨⟨_, (), rfl, rfl, by rw [ht]; exact hP, va_K.moved hW.alike hK, hD⟩, hS.F ht⟩) hS.2.2 dL_out_19
  · skip
    rw [show (lf f (p_out u x1).1 (p_out u x1).2.1) = f from if_neg hc]
    refine lv_aload_n hx hb dL_out_0 rfl (lv_at hl 2 rfl) ?_
    refine lv_iconst (v := 0) hx hb dL_out_1 (by decide) ?_
    refine lv_aload_n hx hb dL_out_2 rfl (lv_at hl 0 rfl) ?_
    refine lv_iload_n hx hb dL_out_3 rfl (lv_at hl 1 rfl) ?_
    refine gx_callVi (As := [.int x1]) (rest := [.int 0, .ref ao]) (wr := [(ao, .inl (cJ, 1, .inr (.inl f)))]) (w := wT ad cI cZ u) (wb := wO ad cI cZ cJ ao f (p_out u x1).2.2) hzz ⟨hx, hb, hml, hown, hts⟩ (cx_out l hlt D ad cI cZ zz hzz tS hst hxs u x1 hok hc) (cwV 1 hts (tb_V tw_2_92 tw_2_93 tw_2_94 tw_1_1 tw_2_95) rfl rfl rfl (by decide +kernel) ⟨Nat.le_of_ble_eq_true rfl, Nat.le_of_ble_eq_true rfl⟩) (va_recv hK hP (ci := 3) (q0 := 1) rfl rfl) rfl hl.1 rfl (lv_room (Nat.le_of_ble_eq_true rfl)) dL_out_4 ⟨Nat.le_of_ble_eq_true rfl, Nat.le_of_ble_eq_true rfl⟩ (List.Perm.refl _) (List.Perm.refl _) hP hKT hD hS hA hZ hc (fun ce q9 H locs hP hD hS hce hcv hcl => ?_)
    rcases (show (p_out u x1).1 = 1 ∨ (p_out u x1).1 = 2 by omega) with e1 | e1
    · skip
      rw [e1] at hcl
      have hcl : s.vm.findClass "java/lang/IllegalArgumentException" = some ce.cls := hcl
      refine vx_catch hown [] ⟨0, 9, 12, 13⟩ [⟨0, 9, 15, 15⟩] (hTab.trans rfl) (fun z hz => absurd hz List.not_mem_nil) rfl (by decide) (hts _ (tb_c tw_1_184)) (va_Nw.use rfl (hX.2.2.2 _ xc1)) hce hcv hcl ?_
      refine lv_astore_n (lv' := [(3, .ref q9), (0, .ref (ad 0)), (1, .int x1), (2, .ref ao)]) hx hb dL_out_12 rfl hl (by decide) rfl (fun ls hl => ?_)
      refine lv_iconst (v := 1) hx hb dL_out_13 (by decide) ?_
      rw [show (nI (p_out u x1).1) = 1 from by rw [e1]; rfl]
      refine W.widen (k := 1) (n := 6) (by decide) (by decide) ?_
      exact W.iret hx hb hr (fun t ht hW => ⟨⟨_, (), rfl, rfl, by rw [ht]; exact hP, va_K.moved hW.alike hK, hD⟩, hS.F ht⟩) hS.2.2 dL_out_14
    · skip
      rw [e1] at hcl
      have hcl : s.vm.findClass "java/lang/IllegalStateException" = some ce.cls := hcl
      refine vx_catch hown [⟨0, 9, 12, 13⟩] ⟨0, 9, 15, 15⟩ [] (hTab.trans rfl) (fun z hz => by rw [List.mem_singleton.mp hz]; exact Or.inr ⟨by decide, "java/lang/IllegalArgumentException", hts _ (tb_c tw_1_184), hnc _ _ _ hZ⟩) rfl (by decide) (hts _ (tb_c tw_1_185)) (va_Nw.use rfl (hX.2.2.2 _ xc2)) hce hcv hcl ?_
      refine lv_astore_n (lv' := [(3, .ref q9), (0, .ref (ad 0)), (1, .int x1), (2, .ref ao)]) hx hb dL_out_15 rfl hl (by decide) rfl (fun ls hl => ?_)
      refine lv_iconst (v := 2) hx hb dL_out_16 (by decide) ?_
      rw [show (nI (p_out u x1).1) = 2 from by rw [e1]; rfl]
      refine W.widen (k := 1) (n := 6) (by decide) (by decide) ?_
      exact W.iret hx hb hr (fun t ht hW => ⟨⟨_, (), rfl, rfl, by rw [ht]; exact hP, va_K.moved hW.alike hK, hD⟩, hS.F ht⟩) hS.2.2 dL_out_17
set_option maxHeartbeats 4000000 in
set_option maxRecDepth 100000 in
theorem ct_stop (l : Launch) (hlt : l.stackTraces = false) (D : va_G) (ad : Nat → Nat) (cI cZ : ClassId) (zz : (Nat → Prop) → State → Heap → Prop) (hzz : Zok zz) (tS : Nat) (hst : Zst zz tS) (hxs : Zxs zz) (hnc : Znc zz) (cJ : ClassId) (ao : Nat) (f : Nat → Int64) (u : St) (x1 : Int32) (hok : ok_stop u x1) (hcd : (p_stop u x1).1 ≤ 2) : tlI l D vwCl (tyL cI cZ cJ) zz yL_stop wsL_stop ({ frames := 8, cells := 1, slots := 6, locals := 137 } : Room) [.ref (ad 0), .int x1, .ref ao] (wO ad cI cZ cJ ao f u) (nI (p_stop u x1).1) (wO ad cI cZ cJ ao (lf f (p_stop u x1).1 (p_stop u x1).2.1) (p_stop u x1).2.2) := by
  intro sz
  refine va_MetW (cc := cL_stop) (maxL := 4) (ret := (some .int)) (by decide) rfl ?_
  intro p e s m args below meth c s₁ B hml hv
  obtain ⟨rfl, hsz, hP, hK, hD0, hZ⟩ := hv
  have hx := B.exec
  have hb := B.bytes
  have hr := B.returns
  have hts := atoms_spec (ws := wsL_stop) B.pre
  have hown : s.vm.findClass RL = some m.cls := findClass_of_methodNamed B.named
  have hlocks := B.notSynchronized
  have hTab : c.exceptionTable.toList = tableOf hL_stop := vx_table (x := yL_stop) B (hts _ List.mem_cons_self)
  have hX := hxs _ _ _ hZ
  have hKT := hK.sub (tys' := tyT cI cZ) [0, 1] rfl
  subst hsz
  have hD := hD0.self (sz := s.heap.size)
  generalize hAe : va_A (wO ad cI cZ cJ ao f u) s.heap.size = A at hD hZ hX ⊢
  have hA : ∀ q : Nat, s.heap.size ≤ q → A q := fun q h => by rw [← hAe]; exact Or.inr h
  have hS : va_S A s.heap s.heap [] := va_S.rf
  have hl := lv_entry ([.ref (ad 0), .int x1, .ref ao]) (n := 4) (Nat.le_of_ble_eq_true rfl)
  rw [lg_entry_eq]
  generalize (lg_sl ([.ref (ad 0), .int x1, .ref ao]) ++ List.replicate (4 - (lg_sl ([.ref (ad 0), .int x1, .ref ao])).length) Slot.unset).toArray = ls at hl ⊢
  have hl : lv_has ls 4 [(0, .ref (ad 0)), (1, .int x1), (2, .ref ao)] := hl
  rcases Classical.em ((p_stop u x1).1 = 0) with hc | hc
  · skip
    refine lv_aload_n hx hb dL_stop_0 rfl (lv_at hl 2 rfl) ?_
    refine lv_iconst (v := 0) hx hb dL_stop_1 (by decide) ?_
    refine lv_aload_n hx hb dL_stop_2 rfl (lv_at hl 0 rfl) ?_
    refine lv_iload_n hx hb dL_stop_3 rfl (lv_at hl 1 rfl) ?_
    refine g_callVi (As := [.int x1]) (rest := [.int 0, .ref ao]) (wr := [(ao, .inl (cJ, 1, .inr (.inl f)))]) (w := wT ad cI cZ u) (wb := wO ad cI cZ cJ ao f (p_stop u x1).2.2) hzz ⟨hx, hb, hml, hown, hts⟩ (cr_stop l D ad cI cZ zz hzz tS hst u x1 hok hc) (cwV 1 hts (tb_V tw_2_99 tw_2_100 tw_2_101 tw_1_1 tw_2_102) rfl rfl rfl (by decide +kernel) ⟨Nat.le_of_ble_eq_true rfl, Nat.le_of_ble_eq_true rfl⟩) (va_recv hK hP (ci := 3) (q0 := 1) rfl rfl) rfl hl.1 rfl (lv_room (Nat.le_of_ble_eq_true rfl)) dL_stop_4 ⟨Nat.le_of_ble_eq_true rfl, Nat.le_of_ble_eq_true rfl⟩ (List.Perm.refl _) (List.Perm.refl _) hP hKT hD hS hA hZ (fun H locs hP hD hS => ?_)
    refine lv_i2l (v := Int32.toInt64 (p_stop u x1).2.1) hx hb dL_stop_7 rfl ?_
    refine va_last hx hb hK hP hD hS 0 2 rfl rfl l_in0 dL_stop_8 (fun H locs hP hD hS => ?_)
    have hP : va_P D vwCl (wO ad cI cZ cJ ao (vp_updL f (0 : Int32).toNatClampNeg (Int32.toInt64 (p_stop u x1).2.1)) (p_stop u x1).2.2) H := hP
    have hD : va_D A (wO ad cI cZ cJ ao (vp_updL f (0 : Int32).toNatClampNeg (Int32.toInt64 (p_stop u x1).2.1)) (p_stop u x1).2.2) := hD
    refine lv_goto (tgt := 18) hx hb dL_stop_9 (by decide) ?_
    refine lv_iconst (v := 0) hx hb dL_stop_18 (by decide) ?_
    rw [show (lf f (p_stop u x1).1 (p_stop u x1).2.1) = vp_updL f (0 : Int32).toNatClampNeg (Int32.toInt64 (p_stop u x1).2.1) from if_pos hc]
    rw [show (nI (p_stop u x1).1) = 0 from by rw [hc]; rfl]
    refine W.widen (k := 1) (n := 6) (by decide) (by decide) ?_
    exact W.iret hx hb hr (fun t ht hW => ⟨⟨_, (), rfl, rfl, by rw [ht]; exact hP, va_K.moved hW.alike hK, hD⟩, hS.F ht⟩) hS.2.2 dL_stop_19
  · skip
    rw [show (lf f (p_stop u x1).1 (p_stop u x1).2.1) = f from if_neg hc]
    refine lv_aload_n hx hb dL_stop_0 rfl (lv_at hl 2 rfl) ?_
    refine lv_iconst (v := 0) hx hb dL_stop_1 (by decide) ?_
    refine lv_aload_n hx hb dL_stop_2 rfl (lv_at hl 0 rfl) ?_
    refine lv_iload_n hx hb dL_stop_3 rfl (lv_at hl 1 rfl) ?_
    refine gx_callVi (As := [.int x1]) (rest := [.int 0, .ref ao]) (wr := [(ao, .inl (cJ, 1, .inr (.inl f)))]) (w := wT ad cI cZ u) (wb := wO ad cI cZ cJ ao f (p_stop u x1).2.2) hzz ⟨hx, hb, hml, hown, hts⟩ (cx_stop l hlt D ad cI cZ zz hzz tS hst hxs u x1 hok hc) (cwV 1 hts (tb_V tw_2_99 tw_2_100 tw_2_101 tw_1_1 tw_2_102) rfl rfl rfl (by decide +kernel) ⟨Nat.le_of_ble_eq_true rfl, Nat.le_of_ble_eq_true rfl⟩) (va_recv hK hP (ci := 3) (q0 := 1) rfl rfl) rfl hl.1 rfl (lv_room (Nat.le_of_ble_eq_true rfl)) dL_stop_4 ⟨Nat.le_of_ble_eq_true rfl, Nat.le_of_ble_eq_true rfl⟩ (List.Perm.refl _) (List.Perm.refl _) hP hKT hD hS hA hZ hc (fun ce q9 H locs hP hD hS hce hcv hcl => ?_)
    rcases (show (p_stop u x1).1 = 1 ∨ (p_stop u x1).1 = 2 by omega) with e1 | e1
    · skip
      rw [e1] at hcl
      have hcl : s.vm.findClass "java/lang/IllegalArgumentException" = some ce.cls := hcl
      refine vx_catch hown [] ⟨0, 9, 12, 13⟩ [⟨0, 9, 15, 15⟩] (hTab.trans rfl) (fun z hz => absurd hz List.not_mem_nil) rfl (by decide) (hts _ (tb_c tw_1_184)) (va_Nw.use rfl (hX.2.2.2 _ xc1)) hce hcv hcl ?_
      refine lv_astore_n (lv' := [(3, .ref q9), (0, .ref (ad 0)), (1, .int x1), (2, .ref ao)]) hx hb dL_stop_12 rfl hl (by decide) rfl (fun ls hl => ?_)
      refine lv_iconst (v := 1) hx hb dL_stop_13 (by decide) ?_
      rw [show (nI (p_stop u x1).1) = 1 from by rw [e1]; rfl]
      refine W.widen (k := 1) (n := 6) (by decide) (by decide) ?_
      exact W.iret hx hb hr (fun t ht hW => ⟨⟨_, (), rfl, rfl, by rw [ht]; exact hP, va_K.moved hW.alike hK, hD⟩, hS.F ht⟩) hS.2.2 dL_stop_14
    · skip
      rw [e1] at hcl
      have hcl : s.vm.findClass "java/lang/IllegalStateException" = some ce.cls := hcl
      refine vx_catch hown [⟨0, 9, 12, 13⟩] ⟨0, 9, 15, 15⟩ [] (hTab.trans rfl) (fun z hz => by rw [List.mem_singleton.mp hz]; exact Or.inr ⟨by decide, "java/lang/IllegalArgumentException", hts _ (tb_c tw_1_184), hnc _ _ _ hZ⟩) rfl (by decide) (hts _ (tb_c tw_1_185)) (va_Nw.use rfl (hX.2.2.2 _ xc2)) hce hcv hcl ?_
      refine lv_astore_n (lv' := [(3, .ref q9), (0, .ref (ad 0)), (1, .int x1), (2, .ref ao)]) hx hb dL_stop_15 rfl hl (by decide) rfl (fun ls hl => ?_)
      refine lv_iconst (v := 2) hx hb dL_stop_16 (by decide) ?_
      rw [show (nI (p_stop u x1).1) = 2 from by rw [e1]; rfl]
      refine W.widen (k := 1) (n := 6) (by decide) (by decide) ?_
      exact W.iret hx hb hr (fun t ht hW => ⟨⟨_, (), rfl, rfl, by rw [ht]; exact hP, va_K.moved hW.alike hK, hD⟩, hS.F ht⟩) hS.2.2 dL_stop_17
set_option maxHeartbeats 4000000 in
set_option maxRecDepth 100000 in
theorem ct_forge (l : Launch) (hlt : l.stackTraces = false) (D : va_G) (ad : Nat → Nat) (cI cZ : ClassId) (zz : (Nat → Prop) → State → Heap → Prop) (hzz : Zok zz) (tS : Nat) (hst : Zst zz tS) (hxs : Zxs zz) (hnc : Znc zz) (cJ : ClassId) (ao : Nat) (f : Nat → Int64) (u : St) (hok : ok_forge u) (hcd : (p_forge u).1 = 0 ∨ (p_forge u).1 = 2) : tlI l D vwCl (tyL cI cZ cJ) zz yL_forge wsL_forge ({ frames := 7, cells := 1, slots := 6, locals := 157 } : Room) [.ref (ad 0), .ref ao] (wO ad cI cZ cJ ao f u) (la1 (p_forge u).1) (wO ad cI cZ cJ ao (lf f (p_forge u).1 (p_forge u).2.1) (p_forge u).2.2) := by
  intro sz
  refine va_MetW (cc := cL_forge) (maxL := 3) (ret := (some .int)) (by decide) rfl ?_
  intro p e s m args below meth c s₁ B hml hv
  obtain ⟨rfl, hsz, hP, hK, hD0, hZ⟩ := hv
  have hx := B.exec
  have hb := B.bytes
  have hr := B.returns
  have hts := atoms_spec (ws := wsL_forge) B.pre
  have hown : s.vm.findClass RL = some m.cls := findClass_of_methodNamed B.named
  have hlocks := B.notSynchronized
  have hTab : c.exceptionTable.toList = tableOf hL_forge := vx_table (x := yL_forge) B (hts _ List.mem_cons_self)
  have hX := hxs _ _ _ hZ
  have hKT := hK.sub (tys' := tyT cI cZ) [0, 1] rfl
  subst hsz
  have hD := hD0.self (sz := s.heap.size)
  generalize hAe : va_A (wO ad cI cZ cJ ao f u) s.heap.size = A at hD hZ hX ⊢
  have hA : ∀ q : Nat, s.heap.size ≤ q → A q := fun q h => by rw [← hAe]; exact Or.inr h
  have hS : va_S A s.heap s.heap [] := va_S.rf
  have hl := lv_entry ([.ref (ad 0), .ref ao]) (n := 3) (Nat.le_of_ble_eq_true rfl)
  rw [lg_entry_eq]
  generalize (lg_sl ([.ref (ad 0), .ref ao]) ++ List.replicate (3 - (lg_sl ([.ref (ad 0), .ref ao])).length) Slot.unset).toArray = ls at hl ⊢
  have hl : lv_has ls 3 [(0, .ref (ad 0)), (1, .ref ao)] := hl
  rcases Classical.em ((p_forge u).1 = 0) with hc | hc
  · skip
    refine lv_aload_n hx hb dL_forge_0 rfl (lv_at hl 1 rfl) ?_
    refine lv_iconst (v := 0) hx hb dL_forge_1 (by decide) ?_
    refine lv_aload_n hx hb dL_forge_2 rfl (lv_at hl 0 rfl) ?_
    refine g_callVi (As := []) (rest := [.int 0, .ref ao]) (wr := [(ao, .inl (cJ, 1, .inr (.inl f)))]) (w := wT ad cI cZ u) (wb := wO ad cI cZ cJ ao f (p_forge u).2.2) hzz ⟨hx, hb, hml, hown, hts⟩ (cr_forge l D ad cI cZ zz hzz tS hst u hok hc) (cwV 0 hts (tb_V tw_2_107 tw_2_108 tw_2_109 tw_1_1 tw_2_110) rfl rfl rfl (by decide +kernel) ⟨Nat.le_of_ble_eq_true rfl, Nat.le_of_ble_eq_true rfl⟩) (va_recv hK hP (ci := 3) (q0 := 1) rfl rfl) rfl hl.1 rfl (lv_room (Nat.le_of_ble_eq_true rfl)) dL_forge_3 ⟨Nat.le_of_ble_eq_true rfl, Nat.le_of_ble_eq_true rfl⟩ (List.Perm.refl _) (List.Perm.refl _) hP hKT hD hS hA hZ (fun H locs hP hD hS => ?_)
    refine lv_i2l (v := Int32.toInt64 (p_forge u).2.1) hx hb dL_forge_6 rfl ?_
    refine va_last hx hb hK hP hD hS 0 2 rfl rfl l_in0 dL_forge_7 (fun H locs hP hD hS => ?_)
    have hP : va_P D vwCl (wO ad cI cZ cJ ao (vp_updL f (0 : Int32).toNatClampNeg (Int32.toInt64 (p_forge u).2.1)) (p_forge u).2.2) H := hP
    have hD : va_D A (wO ad cI cZ cJ ao (vp_updL f (0 : Int32).toNatClampNeg (Int32.toInt64 (p_forge u).2.1)) (p_forge u).2.2) := hD
    refine lv_goto (tgt := 14) hx hb dL_forge_8 (by decide) ?_
    refine lv_iconst (v := 0) hx hb dL_forge_14 (by decide) ?_
    rw [show (lf f (p_forge u).1 (p_forge u).2.1) = vp_updL f (0 : Int32).toNatClampNeg (Int32.toInt64 (p_forge u).2.1) from if_pos hc]
    rw [show (la1 (p_forge u).1) = 0 from if_pos hc]
    refine W.widen (k := 1) (n := 6) (by decide) (by decide) ?_
    exact W.iret hx hb hr (fun t ht hW => ⟨⟨_, (), rfl, rfl, by rw [ht]; exact hP, va_K.moved hW.alike hK, hD⟩, hS.F ht⟩) hS.2.2 dL_forge_15
  · skip
    rw [show (lf f (p_forge u).1 (p_forge u).2.1) = f from if_neg hc]
    refine lv_aload_n hx hb dL_forge_0 rfl (lv_at hl 1 rfl) ?_
    refine lv_iconst (v := 0) hx hb dL_forge_1 (by decide) ?_
    refine lv_aload_n hx hb dL_forge_2 rfl (lv_at hl 0 rfl) ?_
    refine gx_callVi (As := []) (rest := [.int 0, .ref ao]) (wr := [(ao, .inl (cJ, 1, .inr (.inl f)))]) (w := wT ad cI cZ u) (wb := wO ad cI cZ cJ ao f (p_forge u).2.2) hzz ⟨hx, hb, hml, hown, hts⟩ (cx_forge l hlt D ad cI cZ zz hzz tS hst hxs u hok hc) (cwV 0 hts (tb_V tw_2_107 tw_2_108 tw_2_109 tw_1_1 tw_2_110) rfl rfl rfl (by decide +kernel) ⟨Nat.le_of_ble_eq_true rfl, Nat.le_of_ble_eq_true rfl⟩) (va_recv hK hP (ci := 3) (q0 := 1) rfl rfl) rfl hl.1 rfl (lv_room (Nat.le_of_ble_eq_true rfl)) dL_forge_3 ⟨Nat.le_of_ble_eq_true rfl, Nat.le_of_ble_eq_true rfl⟩ (List.Perm.refl _) (List.Perm.refl _) hP hKT hD hS hA hZ hc (fun ce q9 H locs hP hD hS hce hcv hcl => ?_)
    have e1 : (p_forge u).1 = 2 := hcd.resolve_left hc
    rw [e1] at hcl
    have hcl : s.vm.findClass "java/lang/IllegalStateException" = some ce.cls := hcl
    refine vx_catch hown [] ⟨0, 8, 11, 15⟩ [] (hTab.trans rfl) (fun z hz => absurd hz List.not_mem_nil) rfl (by decide) (hts _ (tb_c tw_1_185)) (va_Nw.use rfl (hX.2.2.2 _ xc2)) hce hcv hcl ?_
    refine lv_astore_n (lv' := [(2, .ref q9), (0, .ref (ad 0)), (1, .ref ao)]) hx hb dL_forge_11 rfl hl (by decide) rfl (fun ls hl => ?_)
    refine lv_iconst (v := 1) hx hb dL_forge_12 (by decide) ?_
    rw [show (la1 (p_forge u).1) = 1 from if_neg hc]
    refine W.widen (k := 1) (n := 6) (by decide) (by decide) ?_
    exact W.iret hx hb hr (fun t ht hW => ⟨⟨_, (), rfl, rfl, by rw [ht]; exact hP, va_K.moved hW.alike hK, hD⟩, hS.F ht⟩) hS.2.2 dL_forge_13
set_option maxHeartbeats 4000000 in
set_option maxRecDepth 100000 in
theorem ct_poke (l : Launch) (hlt : l.stackTraces = false) (D : va_G) (ad : Nat → Nat) (cI cZ : ClassId) (zz : (Nat → Prop) → State → Heap → Prop) (hzz : Zok zz) (tS : Nat) (hst : Zst zz tS) (hxs : Zxs zz) (hnc : Znc zz) (cJ : ClassId) (ao : Nat) (f : Nat → Int64) (u : St) (x1 x2 : Int32) (hok : ok_poke u x1 x2) (hcd : (p_poke u x1 x2).1 = 0 ∨ (p_poke u x1 x2).1 = 1) : tlI l D vwCl (tyL cI cZ cJ) zz yL_poke wsL_poke ({ frames := 8, cells := 1, slots := 6, locals := 132 } : Room) [.ref (ad 0), .int x1, .int x2] (wO ad cI cZ cJ ao f u) (la1 (p_poke u x1 x2).1) (wO ad cI cZ cJ ao f (p_poke u x1 x2).2.2) := by
  intro sz
  refine va_MetW (cc := cL_poke) (maxL := 4) (ret := (some .int)) (by decide) rfl ?_
  intro p e s m args below meth c s₁ B hml hv
  obtain ⟨rfl, hsz, hP, hK, hD0, hZ⟩ := hv
  have hx := B.exec
  have hb := B.bytes
  have hr := B.returns
  have hts := atoms_spec (ws := wsL_poke) B.pre
  have hown : s.vm.findClass RL = some m.cls := findClass_of_methodNamed B.named
  have hlocks := B.notSynchronized
  have hTab : c.exceptionTable.toList = tableOf hL_poke := vx_table (x := yL_poke) B (hts _ List.mem_cons_self)
  have hX := hxs _ _ _ hZ
  have hKT := hK.sub (tys' := tyT cI cZ) [0, 1] rfl
  subst hsz
  have hD := hD0.self (sz := s.heap.size)
  generalize hAe : va_A (wO ad cI cZ cJ ao f u) s.heap.size = A at hD hZ hX ⊢
  have hA : ∀ q : Nat, s.heap.size ≤ q → A q := fun q h => by rw [← hAe]; exact Or.inr h
  have hS : va_S A s.heap s.heap [] := va_S.rf
  have hl := lv_entry ([.ref (ad 0), .int x1, .int x2]) (n := 4) (Nat.le_of_ble_eq_true rfl)
  rw [lg_entry_eq]
  generalize (lg_sl ([.ref (ad 0), .int x1, .int x2]) ++ List.replicate (4 - (lg_sl ([.ref (ad 0), .int x1, .int x2])).length) Slot.unset).toArray = ls at hl ⊢
  have hl : lv_has ls 4 [(0, .ref (ad 0)), (1, .int x1), (2, .int x2)] := hl
  rcases Classical.em ((p_poke u x1 x2).1 = 0) with hc | hc
  · skip
    refine lv_aload_n hx hb dL_poke_0 rfl (lv_at hl 0 rfl) ?_
    refine lv_iload_n hx hb dL_poke_1 rfl (lv_at hl 1 rfl) ?_
    refine lv_iload_n hx hb dL_poke_2 rfl (lv_at hl 2 rfl) ?_
    refine g_callVv (As := [.int x1, .int x2]) (rest := []) (wr := [(ao, .inl (cJ, 1, .inr (.inl f)))]) (w := wT ad cI cZ u) (wb := wO ad cI cZ cJ ao f (p_poke u x1 x2).2.2) hzz ⟨hx, hb, hml, hown, hts⟩ (cr_poke l D ad cI cZ zz hzz tS hst u x1 x2 hok hc) (cwV 2 hts (tb_V tw_3_12 tw_3_13 tw_3_14 tw_1_1 tw_3_15) rfl rfl rfl (by decide +kernel) ⟨Nat.le_of_ble_eq_true rfl, Nat.le_of_ble_eq_true rfl⟩) (va_recv hK hP (ci := 3) (q0 := 1) rfl rfl) rfl hl.1 rfl (lv_room (Nat.le_of_ble_eq_true rfl)) dL_poke_3 ⟨Nat.le_of_ble_eq_true rfl, Nat.le_of_ble_eq_true rfl⟩ (List.Perm.refl _) (List.Perm.refl _) hP hKT hD hS hA hZ (fun H locs hP hD hS => ?_)
    refine lv_goto (tgt := 12) hx hb dL_poke_6 (by decide) ?_
    refine lv_iconst (v := 0) hx hb dL_poke_12 (by decide) ?_
    rw [show (la1 (p_poke u x1 x2).1) = 0 from if_pos hc]
    refine W.widen (k := 1) (n := 6) (by decide) (by decide) ?_
    exact W.iret hx hb hr (fun t ht hW => ⟨⟨_, (), rfl, rfl, by rw [ht]; exact hP, va_K.moved hW.alike hK, hD⟩, hS.F ht⟩) hS.2.2 dL_poke_13
  · skip
    refine lv_aload_n hx hb dL_poke_0 rfl (lv_at hl 0 rfl) ?_
    refine lv_iload_n hx hb dL_poke_1 rfl (lv_at hl 1 rfl) ?_
    refine lv_iload_n hx hb dL_poke_2 rfl (lv_at hl 2 rfl) ?_
    refine gx_callVv (As := [.int x1, .int x2]) (rest := []) (wr := [(ao, .inl (cJ, 1, .inr (.inl f)))]) (w := wT ad cI cZ u) (wb := wO ad cI cZ cJ ao f (p_poke u x1 x2).2.2) hzz ⟨hx, hb, hml, hown, hts⟩ (cx_poke l hlt D ad cI cZ zz hzz tS hst hxs u x1 x2 hok hc) (cwV 2 hts (tb_V tw_3_12 tw_3_13 tw_3_14 tw_1_1 tw_3_15) rfl rfl rfl (by decide +kernel) ⟨Nat.le_of_ble_eq_true rfl, Nat.le_of_ble_eq_true rfl⟩) (va_recv hK hP (ci := 3) (q0 := 1) rfl rfl) rfl hl.1 rfl (lv_room (Nat.le_of_ble_eq_true rfl)) dL_poke_3 ⟨Nat.le_of_ble_eq_true rfl, Nat.le_of_ble_eq_true rfl⟩ (List.Perm.refl _) (List.Perm.refl _) hP hKT hD hS hA hZ hc (fun ce q9 H locs hP hD hS hce hcv hcl => ?_)
    have e1 : (p_poke u x1 x2).1 = 1 := hcd.resolve_left hc
    rw [e1] at hcl
    have hcl : s.vm.findClass "java/lang/IllegalArgumentException" = some ce.cls := hcl
    refine vx_catch hown [] ⟨0, 6, 9, 13⟩ [] (hTab.trans rfl) (fun z hz => absurd hz List.not_mem_nil) rfl (by decide) (hts _ (tb_c tw_1_184)) (va_Nw.use rfl (hX.2.2.2 _ xc1)) hce hcv hcl ?_
    refine lv_astore_n (lv' := [(3, .ref q9), (0, .ref (ad 0)), (1, .int x1), (2, .int x2)]) hx hb dL_poke_9 rfl hl (by decide) rfl (fun ls hl => ?_)
    refine lv_iconst (v := 1) hx hb dL_poke_10 (by decide) ?_
    rw [show (la1 (p_poke u x1 x2).1) = 1 from if_neg hc]
    refine W.widen (k := 1) (n := 6) (by decide) (by decide) ?_
    exact W.iret hx hb hr (fun t ht hW => ⟨⟨_, (), rfl, rfl, by rw [ht]; exact hP, va_K.moved hW.alike hK, hD⟩, hS.F ht⟩) hS.2.2 dL_poke_11
set_option maxHeartbeats 4000000 in
set_option maxRecDepth 100000 in
theorem ct_memory (l : Launch) (hlt : l.stackTraces = false) (D : va_G) (ad : Nat → Nat) (cI cZ : ClassId) (zz : (Nat → Prop) → State → Heap → Prop) (hzz : Zok zz) (tS : Nat) (hst : Zst zz tS) (hxs : Zxs zz) (hnc : Znc zz) (cJ : ClassId) (ao : Nat) (f : Nat → Int64) (u : St) (x1 : Int32) (hok : ok_memory u x1) (hcd : (p_memory u x1).1 = 0 ∨ (p_memory u x1).1 = 1) : tlI l D vwCl (tyL cI cZ cJ) zz yL_memory wsL_memory ({ frames := 8, cells := 1, slots := 6, locals := 131 } : Room) [.ref (ad 0), .int x1, .ref ao] (wO ad cI cZ cJ ao f u) (la1 (p_memory u x1).1) (wO ad cI cZ cJ ao (lf f (p_memory u x1).1 (p_memory u x1).2.1) (p_memory u x1).2.2) := by
  intro sz
  refine va_MetW (cc := cL_memory) (maxL := 4) (ret := (some .int)) (by decide) rfl ?_
  intro p e s m args below meth c s₁ B hml hv
  obtain ⟨rfl, hsz, hP, hK, hD0, hZ⟩ := hv
  have hx := B.exec
  have hb := B.bytes
  have hr := B.returns
  have hts := atoms_spec (ws := wsL_memory) B.pre
  have hown : s.vm.findClass RL = some m.cls := findClass_of_methodNamed B.named
  have hlocks := B.notSynchronized
  have hTab : c.exceptionTable.toList = tableOf hL_memory := vx_table (x := yL_memory) B (hts _ List.mem_cons_self)
  have hX := hxs _ _ _ hZ
  have hKT := hK.sub (tys' := tyT cI cZ) [0, 1] rfl
  subst hsz
  have hD := hD0.self (sz := s.heap.size)
  generalize hAe : va_A (wO ad cI cZ cJ ao f u) s.heap.size = A at hD hZ hX ⊢
  have hA : ∀ q : Nat, s.heap.size ≤ q → A q := fun q h => by rw [← hAe]; exact Or.inr h
  have hS : va_S A s.heap s.heap [] := va_S.rf
  have hl := lv_entry ([.ref (ad 0), .int x1, .ref ao]) (n := 4) (Nat.le_of_ble_eq_true rfl)
  rw [lg_entry_eq]
  generalize (lg_sl ([.ref (ad 0), .int x1, .ref ao]) ++ List.replicate (4 - (lg_sl ([.ref (ad 0), .int x1, .ref ao])).length) Slot.unset).toArray = ls at hl ⊢
  have hl : lv_has ls 4 [(0, .ref (ad 0)), (1, .int x1), (2, .ref ao)] := hl
  rcases Classical.em ((p_memory u x1).1 = 0) with hc | hc
  · skip
    refine lv_aload_n hx hb dL_memory_0 rfl (lv_at hl 2 rfl) ?_
    refine lv_iconst (v := 0) hx hb dL_memory_1 (by decide) ?_
    refine lv_aload_n hx hb dL_memory_2 rfl (lv_at hl 0 rfl) ?_
    refine lv_iload_n hx hb dL_memory_3 rfl (lv_at hl 1 rfl) ?_
    refine g_callVi (As := [.int x1]) (rest := [.int 0, .ref ao]) (wr := [(ao, .inl (cJ, 1, .inr (.inl f)))]) (w := wT ad cI cZ u) (wb := wO ad cI cZ cJ ao f (p_memory u x1).2.2) hzz ⟨hx, hb, hml, hown, hts⟩ (cr_memory l D ad cI cZ zz hzz tS hst u x1 hok hc) (cwV 1 hts (tb_V tw_3_23 tw_3_24 tw_3_25 tw_1_1 tw_3_26) rfl rfl rfl (by decide +kernel) ⟨Nat.le_of_ble_eq_true rfl, Nat.le_of_ble_eq_true rfl⟩) (va_recv hK hP (ci := 3) (q0 := 1) rfl rfl) rfl hl.1 rfl (lv_room (Nat.le_of_ble_eq_true rfl)) dL_memory_4 ⟨Nat.le_of_ble_eq_true rfl, Nat.le_of_ble_eq_true rfl⟩ (List.Perm.refl _) (List.Perm.refl _) hP hKT hD hS hA hZ (fun H locs hP hD hS => ?_)
    refine lv_i2l (v := Int32.toInt64 (p_memory u x1).2.1) hx hb dL_memory_7 rfl ?_
    refine va_last hx hb hK hP hD hS 0 2 rfl rfl l_in0 dL_memory_8 (fun H locs hP hD hS => ?_)
    have hP : va_P D vwCl (wO ad cI cZ cJ ao (vp_updL f (0 : Int32).toNatClampNeg (Int32.toInt64 (p_memory u x1).2.1)) (p_memory u x1).2.2) H := hP
    have hD : va_D A (wO ad cI cZ cJ ao (vp_updL f (0 : Int32).toNatClampNeg (Int32.toInt64 (p_memory u x1).2.1)) (p_memory u x1).2.2) := hD
    refine lv_goto (tgt := 15) hx hb dL_memory_9 (by decide) ?_
    refine lv_iconst (v := 0) hx hb dL_memory_15 (by decide) ?_
    rw [show (lf f (p_memory u x1).1 (p_memory u x1).2.1) = vp_updL f (0 : Int32).toNatClampNeg (Int32.toInt64 (p_memory u x1).2.1) from if_pos hc]
    rw [show (la1 (p_memory u x1).1) = 0 from if_pos hc]
    refine W.widen (k := 1) (n := 6) (by decide) (by decide) ?_
    exact W.iret hx hb hr (fun t ht hW => ⟨⟨_, (), rfl, rfl, by rw [ht]; exact hP, va_K.moved hW.alike hK, hD⟩, hS.F ht⟩) hS.2.2 dL_memory_16
  · skip
    rw [show (lf f (p_memory u x1).1 (p_memory u x1).2.1) = f from if_neg hc]
    refine lv_aload_n hx hb dL_memory_0 rfl (lv_at hl 2 rfl) ?_
    refine lv_iconst (v := 0) hx hb dL_memory_1 (by decide) ?_
    refine lv_aload_n hx hb dL_memory_2 rfl (lv_at hl 0 rfl) ?_
    refine lv_iload_n hx hb dL_memory_3 rfl (lv_at hl 1 rfl) ?_
    refine gx_callVi (As := [.int x1]) (rest := [.int 0, .ref ao]) (wr := [(ao, .inl (cJ, 1, .inr (.inl f)))]) (w := wT ad cI cZ u) (wb := wO ad cI cZ cJ ao f (p_memory u x1).2.2) hzz ⟨hx, hb, hml, hown, hts⟩ (cx_memory l hlt D ad cI cZ zz hzz tS hst hxs u x1 hok hc) (cwV 1 hts (tb_V tw_3_23 tw_3_24 tw_3_25 tw_1_1 tw_3_26) rfl rfl rfl (by decide +kernel) ⟨Nat.le_of_ble_eq_true rfl, Nat.le_of_ble_eq_true rfl⟩) (va_recv hK hP (ci := 3) (q0 := 1) rfl rfl) rfl hl.1 rfl (lv_room (Nat.le_of_ble_eq_true rfl)) dL_memory_4 ⟨Nat.le_of_ble_eq_true rfl, Nat.le_of_ble_eq_true rfl⟩ (List.Perm.refl _) (List.Perm.refl _) hP hKT hD hS hA hZ hc (fun ce q9 H locs hP hD hS hce hcv hcl => ?_)
    have e1 : (p_memory u x1).1 = 1 := hcd.resolve_left hc
    rw [e1] at hcl
    have hcl : s.vm.findClass "java/lang/IllegalArgumentException" = some ce.cls := hcl
    refine vx_catch hown [] ⟨0, 9, 12, 13⟩ [] (hTab.trans rfl) (fun z hz => absurd hz List.not_mem_nil) rfl (by decide) (hts _ (tb_c tw_1_184)) (va_Nw.use rfl (hX.2.2.2 _ xc1)) hce hcv hcl ?_
    refine lv_astore_n (lv' := [(3, .ref q9), (0, .ref (ad 0)), (1, .int x1), (2, .ref ao)]) hx hb dL_memory_12 rfl hl (by decide) rfl (fun ls hl => ?_)
    refine lv_iconst (v := 1) hx hb dL_memory_13 (by decide) ?_
    rw [show (la1 (p_memory u x1).1) = 1 from if_neg hc]
    refine W.widen (k := 1) (n := 6) (by decide) (by decide) ?_
    exact W.iret hx hb hr (fun t ht hW => ⟨⟨_, (), rfl, rfl, by rw [ht]; exact hP, va_K.moved hW.alike hK, hD⟩, hS.F ht⟩) hS.2.2 dL_memory_14
set_option maxHeartbeats 4000000 in
set_option maxRecDepth 100000 in
theorem ct_start (l : Launch) (hlt : l.stackTraces = false) (D : va_G) (ad : Nat → Nat) (cI cZ : ClassId) (zz : (Nat → Prop) → State → Heap → Prop) (hzz : Zok zz) (tS : Nat) (hst : Zst zz tS) (hxs : Zxs zz) (hnc : Znc zz) (cJ : ClassId) (ao : Nat) (f : Nat → Int64) (u : St) (hok : ok_start u) (hcd : (p_start u).1 = 0 ∨ (p_start u).1 = 2) : tlI l D vwCl (tyL cI cZ cJ) zz yL_start wsL_start ({ frames := 7, cells := 1, slots := 6, locals := 110 } : Room) [.ref (ad 0)] (wO ad cI cZ cJ ao f u) (la1 (p_start u).1) (wO ad cI cZ cJ ao f (p_start u).2.2) := by
  intro sz
  refine va_MetW (cc := cL_start) (maxL := 2) (ret := (some .int)) (by decide) rfl ?_
  intro p e s m args below meth c s₁ B hml hv
  obtain ⟨rfl, hsz, hP, hK, hD0, hZ⟩ := hv
  have hx := B.exec
  have hb := B.bytes
  have hr := B.returns
  have hts := atoms_spec (ws := wsL_start) B.pre
  have hown : s.vm.findClass RL = some m.cls := findClass_of_methodNamed B.named
  have hlocks := B.notSynchronized
  have hTab : c.exceptionTable.toList = tableOf hL_start := vx_table (x := yL_start) B (hts _ List.mem_cons_self)
  have hX := hxs _ _ _ hZ
  have hKT := hK.sub (tys' := tyT cI cZ) [0, 1] rfl
  subst hsz
  have hD := hD0.self (sz := s.heap.size)
  generalize hAe : va_A (wO ad cI cZ cJ ao f u) s.heap.size = A at hD hZ hX ⊢
  have hA : ∀ q : Nat, s.heap.size ≤ q → A q := fun q h => by rw [← hAe]; exact Or.inr h
  have hS : va_S A s.heap s.heap [] := va_S.rf
  have hl := lv_entry ([.ref (ad 0)]) (n := 2) (Nat.le_of_ble_eq_true rfl)
  rw [lg_entry_eq]
  generalize (lg_sl ([.ref (ad 0)]) ++ List.replicate (2 - (lg_sl ([.ref (ad 0)])).length) Slot.unset).toArray = ls at hl ⊢
  have hl : lv_has ls 2 [(0, .ref (ad 0))] := hl
  rcases Classical.em ((p_start u).1 = 0) with hc | hc
  · skip
    refine lv_aload_n hx hb dL_start_0 rfl (lv_at hl 0 rfl) ?_
    refine g_callVv (As := []) (rest := []) (wr := [(ao, .inl (cJ, 1, .inr (.inl f)))]) (w := wT ad cI cZ u) (wb := wO ad cI cZ cJ ao f (p_start u).2.2) hzz ⟨hx, hb, hml, hown, hts⟩ (cr_start l D ad cI cZ zz hzz tS hst u hok hc) (cwV 0 hts (tb_V tw_3_30 tw_3_31 tw_3_32 tw_1_1 tw_3_33) rfl rfl rfl (by decide +kernel) ⟨Nat.le_of_ble_eq_true rfl, Nat.le_of_ble_eq_true rfl⟩) (va_recv hK hP (ci := 3) (q0 := 1) rfl rfl) rfl hl.1 rfl (lv_room (Nat.le_of_ble_eq_true rfl)) dL_start_1 ⟨Nat.le_of_ble_eq_true rfl, Nat.le_of_ble_eq_true rfl⟩ (List.Perm.refl _) (List.Perm.refl _) hP hKT hD hS hA hZ (fun H locs hP hD hS => ?_)
    refine lv_goto (tgt := 10) hx hb dL_start_4 (by decide) ?_
    refine lv_iconst (v := 0) hx hb dL_start_10 (by decide) ?_
    rw [show (la1 (p_start u).1) = 0 from if_pos hc]
    refine W.widen (k := 1) (n := 6) (by decide) (by decide) ?_
    exact W.iret hx hb hr (fun t ht hW => ⟨⟨_, (), rfl, rfl, by rw [ht]; exact hP, va_K.moved hW.alike hK, hD⟩, hS.F ht⟩) hS.2.2 dL_start_11
  · skip
    refine lv_aload_n hx hb dL_start_0 rfl (lv_at hl 0 rfl) ?_
    refine gx_callVv (As := []) (rest := []) (wr := [(ao, .inl (cJ, 1, .inr (.inl f)))]) (w := wT ad cI cZ u) (wb := wO ad cI cZ cJ ao f (p_start u).2.2) hzz ⟨hx, hb, hml, hown, hts⟩ (cx_start l hlt D ad cI cZ zz hzz tS hst hxs u hok hc) (cwV 0 hts (tb_V tw_3_30 tw_3_31 tw_3_32 tw_1_1 tw_3_33) rfl rfl rfl (by decide +kernel) ⟨Nat.le_of_ble_eq_true rfl, Nat.le_of_ble_eq_true rfl⟩) (va_recv hK hP (ci := 3) (q0 := 1) rfl rfl) rfl hl.1 rfl (lv_room (Nat.le_of_ble_eq_true rfl)) dL_start_1 ⟨Nat.le_of_ble_eq_true rfl, Nat.le_of_ble_eq_true rfl⟩ (List.Perm.refl _) (List.Perm.refl _) hP hKT hD hS hA hZ hc (fun ce q9 H locs hP hD hS hce hcv hcl => ?_)
    have e1 : (p_start u).1 = 2 := hcd.resolve_left hc
    rw [e1] at hcl
    have hcl : s.vm.findClass "java/lang/IllegalStateException" = some ce.cls := hcl
    refine vx_catch hown [] ⟨0, 4, 7, 15⟩ [] (hTab.trans rfl) (fun z hz => absurd hz List.not_mem_nil) rfl (by decide) (hts _ (tb_c tw_1_185)) (va_Nw.use rfl (hX.2.2.2 _ xc2)) hce hcv hcl ?_
    refine lv_astore_n (lv' := [(1, .ref q9), (0, .ref (ad 0))]) hx hb dL_start_7 rfl hl (by decide) rfl (fun ls hl => ?_)
    refine lv_iconst (v := 1) hx hb dL_start_8 (by decide) ?_
    rw [show (la1 (p_start u).1) = 1 from if_neg hc]
    refine W.widen (k := 1) (n := 6) (by decide) (by decide) ?_
    exact W.iret hx hb hr (fun t ht hW => ⟨⟨_, (), rfl, rfl, by rw [ht]; exact hP, va_K.moved hW.alike hK, hD⟩, hS.F ht⟩) hS.2.2 dL_start_9
set_option maxHeartbeats 4000000 in
set_option maxRecDepth 100000 in
theorem ct_run (l : Launch) (hlt : l.stackTraces = false) (D : va_G) (ad : Nat → Nat) (cI cZ : ClassId) (zz : (Nat → Prop) → State → Heap → Prop) (hzz : Zok zz) (tS : Nat) (hst : Zst zz tS) (hxs : Zxs zz) (hnc : Znc zz) (cJ : ClassId) (ao : Nat) (f : Nat → Int64) (u : St) (x1 : Int32) (hok : ok_run u x1) (hcd : (p_run u x1).1 ≤ 2) : tlI l D vwCl (tyL cI cZ cJ) zz yL_run wsL_run ({ frames := 7, cells := 1, slots := 6, locals := 111 } : Room) [.ref (ad 0), .int x1, .ref ao] (wO ad cI cZ cJ ao f u) (nI (p_run u x1).1) (wO ad cI cZ cJ ao (lf f (p_run u x1).1 (p_run u x1).2.1) (p_run u x1).2.2) := by
  intro sz
  refine va_MetW (cc := cL_run) (maxL := 4) (ret := (some .int)) (by decide) rfl ?_
  intro p e s m args below meth c s₁ B hml hv
  obtain ⟨rfl, hsz, hP, hK, hD0, hZ⟩ := hv
  have hx := B.exec
  have hb := B.bytes
  have hr := B.returns
  have hts := atoms_spec (ws := wsL_run) B.pre
  have hown : s.vm.findClass RL = some m.cls := findClass_of_methodNamed B.named
  have hlocks := B.notSynchronized
  have hTab : c.exceptionTable.toList = tableOf hL_run := vx_table (x := yL_run) B (hts _ List.mem_cons_self)
  have hX := hxs _ _ _ hZ
  have hKT := hK.sub (tys' := tyT cI cZ) [0, 1] rfl
  subst hsz
  have hD := hD0.self (sz := s.heap.size)
  generalize hAe : va_A (wO ad cI cZ cJ ao f u) s.heap.size = A at hD hZ hX ⊢
  have hA : ∀ q : Nat, s.heap.size ≤ q → A q := fun q h => by rw [← hAe]; exact Or.inr h
  have hS : va_S A s.heap s.heap [] := va_S.rf
  have hl := lv_entry ([.ref (ad 0), .int x1, .ref ao]) (n := 4) (Nat.le_of_ble_eq_true rfl)
  rw [lg_entry_eq]
  generalize (lg_sl ([.ref (ad 0), .int x1, .ref ao]) ++ List.replicate (4 - (lg_sl ([.ref (ad 0), .int x1, .ref ao])).length) Slot.unset).toArray = ls at hl ⊢
  have hl : lv_has ls 4 [(0, .ref (ad 0)), (1, .int x1), (2, .ref ao)] := hl
  rcases Classical.em ((p_run u x1).1 = 0) with hc | hc
  · skip
    refine lv_aload_n hx hb dL_run_0 rfl (lv_at hl 2 rfl) ?_
    refine lv_iconst (v := 0) hx hb dL_run_1 (by decide) ?_
    refine lv_aload_n hx hb dL_run_2 rfl (lv_at hl 0 rfl) ?_
    refine lv_iload_n hx hb dL_run_3 rfl (lv_at hl 1 rfl) ?_
    refine g_callVi (As := [.int x1]) (rest := [.int 0, .ref ao]) (wr := [(ao, .inl (cJ, 1, .inr (.inl f)))]) (w := wT ad cI cZ u) (wb := wO ad cI cZ cJ ao f (p_run u x1).2.2) hzz ⟨hx, hb, hml, hown, hts⟩ (cr_run l D ad cI cZ zz hzz tS hst u x1 hok hc) (cwV 1 hts (tb_V tw_3_42 tw_3_43 tw_3_44 tw_1_1 tw_3_45) rfl rfl rfl (by decide +kernel) ⟨Nat.le_of_ble_eq_true rfl, Nat.le_of_ble_eq_true rfl⟩) (va_recv hK hP (ci := 3) (q0 := 1) rfl rfl) rfl hl.1 rfl (lv_room (Nat.le_of_ble_eq_true rfl)) dL_run_4 ⟨Nat.le_of_ble_eq_true rfl, Nat.le_of_ble_eq_true rfl⟩ (List.Perm.refl _) (List.Perm.refl _) hP hKT hD hS hA hZ (fun H locs hP hD hS => ?_)
    refine lv_i2l (v := Int32.toInt64 (p_run u x1).2.1) hx hb dL_run_7 rfl ?_
    refine va_last hx hb hK hP hD hS 0 2 rfl rfl l_in0 dL_run_8 (fun H locs hP hD hS => ?_)
    have hP : va_P D vwCl (wO ad cI cZ cJ ao (vp_updL f (0 : Int32).toNatClampNeg (Int32.toInt64 (p_run u x1).2.1)) (p_run u x1).2.2) H := hP
    have hD : va_D A (wO ad cI cZ cJ ao (vp_updL f (0 : Int32).toNatClampNeg (Int32.toInt64 (p_run u x1).2.1)) (p_run u x1).2.2) := hD
    refine lv_goto (tgt := 18) hx hb dL_run_9 (by decide) ?_
    refine lv_iconst (v := 0) hx hb dL_run_18 (by decide) ?_
    rw [show (lf f (p_run u x1).1 (p_run u x1).2.1) = vp_updL f (0 : Int32).toNatClampNeg (Int32.toInt64 (p_run u x1).2.1) from if_pos hc]
    rw [show (nI (p_run u x1).1) = 0 from by rw [hc]; rfl]
    refine W.widen (k := 1) (n := 6) (by decide) (by decide) ?_
    exact W.iret hx hb hr (fun t ht hW => ⟨⟨_, (), rfl, rfl, by rw [ht]; exact hP, va_K.moved hW.alike hK, hD⟩, hS.F ht⟩) hS.2.2 dL_run_19
  · skip
    rw [show (lf f (p_run u x1).1 (p_run u x1).2.1) = f from if_neg hc]
    refine lv_aload_n hx hb dL_run_0 rfl (lv_at hl 2 rfl) ?_
    refine lv_iconst (v := 0) hx hb dL_run_1 (by decide) ?_
    refine lv_aload_n hx hb dL_run_2 rfl (lv_at hl 0 rfl) ?_
    refine lv_iload_n hx hb dL_run_3 rfl (lv_at hl 1 rfl) ?_
    refine gx_callVi (As := [.int x1]) (rest := [.int 0, .ref ao]) (wr := [(ao, .inl (cJ, 1, .inr (.inl f)))]) (w := wT ad cI cZ u) (wb := wO ad cI cZ cJ ao f (p_run u x1).2.2) hzz ⟨hx, hb, hml, hown, hts⟩ (cx_run l hlt D ad cI cZ zz hzz tS hst hxs u x1 hok hc) (cwV 1 hts (tb_V tw_3_42 tw_3_43 tw_3_44 tw_1_1 tw_3_45) rfl rfl rfl (by decide +kernel) ⟨Nat.le_of_ble_eq_true rfl, Nat.le_of_ble_eq_true rfl⟩) (va_recv hK hP (ci := 3) (q0 := 1) rfl rfl) rfl hl.1 rfl (lv_room (Nat.le_of_ble_eq_true rfl)) dL_run_4 ⟨Nat.le_of_ble_eq_true rfl, Nat.le_of_ble_eq_true rfl⟩ (List.Perm.refl _) (List.Perm.refl _) hP hKT hD hS hA hZ hc (fun ce q9 H locs hP hD hS hce hcv hcl => ?_)
    rcases (show (p_run u x1).1 = 1 ∨ (p_run u x1).1 = 2 by omega) with e1 | e1
    · skip
      rw [e1] at hcl
      have hcl : s.vm.findClass "java/lang/IllegalArgumentException" = some ce.cls := hcl
      refine vx_catch hown [] ⟨0, 9, 12, 13⟩ [⟨0, 9, 15, 15⟩] (hTab.trans rfl) (fun z hz => absurd hz List.not_mem_nil) rfl (by decide) (hts _ (tb_c tw_1_184)) (va_Nw.use rfl (hX.2.2.2 _ xc1)) hce hcv hcl ?_
      refine lv_astore_n (lv' := [(3, .ref q9), (0, .ref (ad 0)), (1, .int x1), (2, .ref ao)]) hx hb dL_run_12 rfl hl (by decide) rfl (fun ls hl => ?_)
      refine lv_iconst (v := 1) hx hb dL_run_13 (by decide) ?_
      rw [show (nI (p_run u x1).1) = 1 from by rw [e1]; rfl]
      refine W.widen (k := 1) (n := 6) (by decide) (by decide) ?_
      exact W.iret hx hb hr (fun t ht hW => ⟨⟨_, (), rfl, rfl, by rw [ht]; exact hP, va_K.moved hW.alike hK, hD⟩, hS.F ht⟩) hS.2.2 dL_run_14
    · skip
      rw [e1] at hcl
      have hcl : s.vm.findClass "java/lang/IllegalStateException" = some ce.cls := hcl
      refine vx_catch hown [⟨0, 9, 12, 13⟩] ⟨0, 9, 15, 15⟩ [] (hTab.trans rfl) (fun z hz => by rw [List.mem_singleton.mp hz]; exact Or.inr ⟨by decide, "java/lang/IllegalArgumentException", hts _ (tb_c tw_1_184), hnc _ _ _ hZ⟩) rfl (by decide) (hts _ (tb_c tw_1_185)) (va_Nw.use rfl (hX.2.2.2 _ xc2)) hce hcv hcl ?_
      refine lv_astore_n (lv' := [(3, .ref q9), (0, .ref (ad 0)), (1, .int x1), (2, .ref ao)]) hx hb dL_run_15 rfl hl (by decide) rfl (fun ls hl => ?_)
      refine lv_iconst (v := 2) hx hb dL_run_16 (by decide) ?_
      rw [show (nI (p_run u x1).1) = 2 from by rw [e1]; rfl]
      refine W.widen (k := 1) (n := 6) (by decide) (by decide) ?_
      exact W.iret hx hb hr (fun t ht hW => ⟨⟨_, (), rfl, rfl, by rw [ht]; exact hP, va_K.moved hW.alike hK, hD⟩, hS.F ht⟩) hS.2.2 dL_run_17
set_option maxHeartbeats 4000000 in
set_option maxRecDepth 100000 in
theorem ct_variable (l : Launch) (hlt : l.stackTraces = false) (D : va_G) (ad : Nat → Nat) (cI cZ : ClassId) (zz : (Nat → Prop) → State → Heap → Prop) (hzz : Zok zz) (tS : Nat) (hst : Zst zz tS) (hxs : Zxs zz) (hnc : Znc zz) (cJ : ClassId) (ao : Nat) (f : Nat → Int64) (u : St) (x1 : Int32) (hok : ok_variable u x1) (hcd : (p_variable u x1).1 ≤ 2) : tlI l D vwCl (tyL cI cZ cJ) zz yL_variable wsL_variable ({ frames := 8, cells := 1, slots := 6, locals := 131 } : Room) [.ref (ad 0), .int x1, .ref ao] (wO ad cI cZ cJ ao f u) (nI (p_variable u x1).1) (wO ad cI cZ cJ ao (lf f (p_variable u x1).1 (p_variable u x1).2.1) (p_variable u x1).2.2) := by
  intro sz
  refine va_MetW (cc := cL_variable) (maxL := 4) (ret := (some .int)) (by decide) rfl ?_
  intro p e s m args below meth c s₁ B hml hv
  obtain ⟨rfl, hsz, hP, hK, hD0, hZ⟩ := hv
  have hx := B.exec
  have hb := B.bytes
  have hr := B.returns
  have hts := atoms_spec (ws := wsL_variable) B.pre
  have hown : s.vm.findClass RL = some m.cls := findClass_of_methodNamed B.named
  have hlocks := B.notSynchronized
  have hTab : c.exceptionTable.toList = tableOf hL_variable := vx_table (x := yL_variable) B (hts _ List.mem_cons_self)
  have hX := hxs _ _ _ hZ
  have hKT := hK.sub (tys' := tyT cI cZ) [0, 1] rfl
  subst hsz
  have hD := hD0.self (sz := s.heap.size)
  generalize hAe : va_A (wO ad cI cZ cJ ao f u) s.heap.size = A at hD hZ hX ⊢
  have hA : ∀ q : Nat, s.heap.size ≤ q → A q := fun q h => by rw [← hAe]; exact Or.inr h
  have hS : va_S A s.heap s.heap [] := va_S.rf
  have hl := lv_entry ([.ref (ad 0), .int x1, .ref ao]) (n := 4) (Nat.le_of_ble_eq_true rfl)
  rw [lg_entry_eq]
  generalize (lg_sl ([.ref (ad 0), .int x1, .ref ao]) ++ List.replicate (4 - (lg_sl ([.ref (ad 0), .int x1, .ref ao])).length) Slot.unset).toArray = ls at hl ⊢
  have hl : lv_has ls 4 [(0, .ref (ad 0)), (1, .int x1), (2, .ref ao)] := hl
  rcases Classical.em ((p_variable u x1).1 = 0) with hc | hc
  · skip
    refine lv_aload_n hx hb dL_variable_0 rfl (lv_at hl 2 rfl) ?_
    refine lv_iconst (v := 0) hx hb dL_variable_1 (by decide) ?_
    refine lv_aload_n hx hb dL_variable_2 rfl (lv_at hl 0 rfl) ?_
    refine lv_iload_n hx hb dL_variable_3 rfl (lv_at hl 1 rfl) ?_
    refine g_callVi (As := [.int x1]) (rest := [.int 0, .ref ao]) (wr := [(ao, .inl (cJ, 1, .inr (.inl f)))]) (w := wT ad cI cZ u) (wb := wO ad cI cZ cJ ao f (p_variable u x1).2.2) hzz ⟨hx, hb, hml, hown, hts⟩ (cr_variable l D ad cI cZ zz hzz tS hst u x1 hok hc) (cwV 1 hts (tb_V tw_3_74 tw_3_75 tw_3_76 tw_1_1 tw_3_77) rfl rfl rfl (by decide +kernel) ⟨Nat.le_of_ble_eq_true rfl, Nat.le_of_ble_eq_true rfl⟩) (va_recv hK hP (ci := 3) (q0 := 1) rfl rfl) rfl hl.1 rfl (lv_room (Nat.le_of_ble_eq_true rfl)) dL_variable_4 ⟨Nat.le_of_ble_eq_true rfl, Nat.le_of_ble_eq_true rfl⟩ (List.Perm.refl _) (List.Perm.refl _) hP hKT hD hS hA hZ (fun H locs hP hD hS => ?_)
    refine lv_i2l (v := Int32.toInt64 (p_variable u x1).2.1) hx hb dL_variable_7 rfl ?_
    refine va_last hx hb hK hP hD hS 0 2 rfl rfl l_in0 dL_variable_8 (fun H locs hP hD hS => ?_)
    have hP : va_P D vwCl (wO ad cI cZ cJ ao (vp_updL f (0 : Int32).toNatClampNeg (Int32.toInt64 (p_variable u x1).2.1)) (p_variable u x1).2.2) H := hP
    have hD : va_D A (wO ad cI cZ cJ ao (vp_updL f (0 : Int32).toNatClampNeg (Int32.toInt64 (p_variable u x1).2.1)) (p_variable u x1).2.2) := hD
    refine lv_goto (tgt := 18) hx hb dL_variable_9 (by decide) ?_
    refine lv_iconst (v := 0) hx hb dL_variable_18 (by decide) ?_
    rw [show (lf f (p_variable u x1).1 (p_variable u x1).2.1) = vp_updL f (0 : Int32).toNatClampNeg (Int32.toInt64 (p_variable u x1).2.1) from if_pos hc]
    rw [show (nI (p_variable u x1).1) = 0 from by rw [hc]; rfl]
    refine W.widen (k := 1) (n := 6) (by decide) (by decide) ?_
    exact W.iret hx hb hr (fun t ht hW => ⟨⟨_, (), rfl, rfl, by rw [ht]; exact hP, va_K.moved hW.alike hK, hD⟩, hS.F ht⟩) hS.2.2 dL_variable_19
  · skip
    rw [show (lf f (p_variable u x1).1 (p_variable u x1).2.1) = f from if_neg hc]
    refine lv_aload_n hx hb dL_variable_0 rfl (lv_at hl 2 rfl) ?_
    refine lv_iconst (v := 0) hx hb dL_variable_1 (by decide) ?_
    refine lv_aload_n hx hb dL_variable_2 rfl (lv_at hl 0 rfl) ?_
    refine lv_iload_n hx hb dL_variable_3 rfl (lv_at hl 1 rfl) ?_
    refine gx_callVi (As := [.int x1]) (rest := [.int 0, .ref ao]) (wr := [(ao, .inl (cJ, 1, .inr (.inl f)))]) (w := wT ad cI cZ u) (wb := wO ad cI cZ cJ ao f (p_variable u x1).2.2) hzz ⟨hx, hb, hml, hown, hts⟩ (cx_variable l hlt D ad cI cZ zz hzz tS hst hxs u x1 hok hc) (cwV 1 hts (tb_V tw_3_74 tw_3_75 tw_3_76 tw_1_1 tw_3_77) rfl rfl rfl (by decide +kernel) ⟨Nat.le_of_ble_eq_true rfl, Nat.le_of_ble_eq_true rfl⟩) (va_recv hK hP (ci := 3) (q0 := 1) rfl rfl) rfl hl.1 rfl (lv_room (Nat.le_of_ble_eq_true rfl)) dL_variable_4 ⟨Nat.le_of_ble_eq_true rfl, Nat.le_of_ble_eq_true rfl⟩ (List.Perm.refl _) (List.Perm.refl _) hP hKT hD hS hA hZ hc (fun ce q9 H locs hP hD hS hce hcv hcl => ?_)
    rcases (show (p_variable u x1).1 = 1 ∨ (p_variable u x1).1 = 2 by omega) with e1 | e1
    · skip
      rw [e1] at hcl
      have hcl : s.vm.findClass "java/lang/IllegalArgumentException" = some ce.cls := hcl
      refine vx_catch hown [] ⟨0, 9, 12, 13⟩ [⟨0, 9, 15, 15⟩] (hTab.trans rfl) (fun z hz => absurd hz List.not_mem_nil) rfl (by decide) (hts _ (tb_c tw_1_184)) (va_Nw.use rfl (hX.2.2.2 _ xc1)) hce hcv hcl ?_
      refine lv_astore_n (lv' := [(3, .ref q9), (0, .ref (ad 0)), (1, .int x1), (2, .ref ao)]) hx hb dL_variable_12 rfl hl (by decide) rfl (fun ls hl => ?_)
      refine lv_iconst (v := 1) hx hb dL_variable_13 (by decide) ?_
      rw [show (nI (p_variable u x1).1) = 1 from by rw [e1]; rfl]
      refine W.widen (k := 1) (n := 6) (by decide) (by decide) ?_
      exact W.iret hx hb hr (fun t ht hW => ⟨⟨_, (), rfl, rfl, by rw [ht]; exact hP, va_K.moved hW.alike hK, hD⟩, hS.F ht⟩) hS.2.2 dL_variable_14
    · skip
      rw [e1] at hcl
      have hcl : s.vm.findClass "java/lang/IllegalStateException" = some ce.cls := hcl
      refine vx_catch hown [⟨0, 9, 12, 13⟩] ⟨0, 9, 15, 15⟩ [] (hTab.trans rfl) (fun z hz => by rw [List.mem_singleton.mp hz]; exact Or.inr ⟨by decide, "java/lang/IllegalArgumentException", hts _ (tb_c tw_1_184), hnc _ _ _ hZ⟩) rfl (by decide) (hts _ (tb_c tw_1_185)) (va_Nw.use rfl (hX.2.2.2 _ xc2)) hce hcv hcl ?_
      refine lv_astore_n (lv' := [(3, .ref q9), (0, .ref (ad 0)), (1, .int x1), (2, .ref ao)]) hx hb dL_variable_15 rfl hl (by decide) rfl (fun ls hl => ?_)
      refine lv_iconst (v := 2) hx hb dL_variable_16 (by decide) ?_
      rw [show (nI (p_variable u x1).1) = 2 from by rw [e1]; rfl]
      refine W.widen (k := 1) (n := 6) (by decide) (by decide) ?_
      exact W.iret hx hb hr (fun t ht hW => ⟨⟨_, (), rfl, rfl, by rw [ht]; exact hP, va_K.moved hW.alike hK, hD⟩, hS.F ht⟩) hS.2.2 dL_variable_17
