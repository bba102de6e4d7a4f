set_option maxHeartbeats 4000000 in
set_option maxRecDepth 100000 in
theorem ct_halfword (l : Launch) (hlt : l.stackTraces = false) (D : va_G) (ad : Nat → Nat) (cI cZ : ClassId) (zz : (Nat → Prop) → State → Heap → Prop) (hzz : Zok zz) (tS : Nat) (hst : Zst zz tS) (hxs : Zxs zz) (hnc : Znc zz) (cJ : ClassId) (ao : Nat) (f : Nat → Int64) (u : St) (x1 : Int32) (hok : ok_halfword u x1) (hcd : (p_halfword u x1).1 = 0 ∨ (p_halfword u x1).1 = 3) : tlI l D vwCl (tyL cI cZ cJ) zz yL_halfword wsL_halfword ({ frames := 7, cells := 1, slots := 6, locals := 111 } : Room) [.ref (ad 0), .int x1, .ref ao] (wO ad cI cZ cJ ao f u) (la1 (p_halfword u x1).1) (wO ad cI cZ cJ ao (lf f (p_halfword u x1).1 (p_halfword u x1).2.1) (p_halfword u x1).2.2) := by
  intro sz
  refine va_MetW (cc := cL_halfword) (maxL := 4) (ret := (some .int)) (by decide) rfl ?_
  intro p e s m args below meth c s₁ B hml hv
  obtain ⟨rfl, hsz, hP, hK, hD0, hZ⟩ := hv
  have hx := B.exec
  have hb := B.bytes
  have hr := B.returns
  have hts := atoms_spec (ws := wsL_halfword) B.pre
  have hown : s.vm.findClass RL = some m.cls := findClass_of_methodNamed B.named
  have hlocks := B.notSynchronized
  have hTab : c.exceptionTable.toList = tableOf hL_halfword := vx_table (x := yL_halfword) B (hts _ List.mem_cons_self)
  have hX := hxs _ _ _ hZ
  have hKT := hK.sub (tys' := tyT cI cZ) [0, 1] rfl
  subst hsz
  have hD := hD0.self (sz := s.heap.size)
  generalize hAe : va_A (wO ad cI cZ cJ ao f u) s.heap.size = A at hD hZ hX ⊢
  have hA : ∀ q : Nat, s.heap.size ≤ q → A q := fun q h => by rw [← hAe]; exact Or.inr h
  have hS : va_S A s.heap s.heap [] := va_S.rf
  have hl := lv_entry ([.ref (ad 0), .int x1, .ref ao]) (n := 4) (Nat.le_of_ble_eq_true rfl)
  rw [lg_entry_eq]
  generalize (lg_sl ([.ref (ad 0), .int x1, .ref ao]) ++ List.replicate (4 - (lg_sl ([.ref (ad 0), .int x1, .ref ao])).length) Slot.unset).toArray = ls at hl ⊢
  have hl : lv_has ls 4 [(0, .ref (ad 0)), (1, .int x1), (2, .ref ao)] := hl
  rcases Classical.em ((p_halfword u x1).1 = 0) with hc | hc
  · skip
    refine lv_aload_n hx hb dL_halfword_0 rfl (lv_at hl 2 rfl) ?_
    refine lv_iconst (v := 0) hx hb dL_halfword_1 (by decide) ?_
    refine lv_aload_n hx hb dL_halfword_2 rfl (lv_at hl 0 rfl) ?_
    refine lv_iload_n hx hb dL_halfword_3 rfl (lv_at hl 1 rfl) ?_
    refine g_callVi (As := [.int x1]) (rest := [.int 0, .ref ao]) (wr := [(ao, .inl (cJ, 1, .inr (.inl f)))]) (w := wT ad cI cZ u) (wb := wO ad cI cZ cJ ao f (p_halfword u x1).2.2) hzz ⟨hx, hb, hml, hown, hts⟩ (cr_halfword l D ad cI cZ zz hzz tS hst u x1 hok hc) (cwV 1 hts (tb_V tw_2_221 tw_2_222 tw_2_223 tw_1_1 tw_2_224) rfl rfl rfl (by decide +kernel) ⟨Nat.le_of_ble_eq_true rfl, Nat.le_of_ble_eq_true rfl⟩) (va_recv hK hP (ci := 3) (q0 := 1) rfl rfl) rfl hl.1 rfl (lv_room (Nat.le_of_ble_eq_true rfl)) dL_halfword_4 ⟨Nat.le_of_ble_eq_true rfl, Nat.le_of_ble_eq_true rfl⟩ (List.Perm.refl _) (List.Perm.refl _) hP hKT hD hS hA hZ (fun H locs hP hD hS => ?_)
    refine lv_i2l (v := Int32.toInt64 (p_halfword u x1).2.1) hx hb dL_halfword_7 rfl ?_
    refine va_last hx hb hK hP hD hS 0 2 rfl rfl l_in0 dL_halfword_8 (fun H locs hP hD hS => ?_)
    have hP : va_P D vwCl (wO ad cI cZ cJ ao (vp_updL f (0 : Int32).toNatClampNeg (Int32.toInt64 (p_halfword u x1).2.1)) (p_halfword u x1).2.2) H := hP
    have hD : va_D A (wO ad cI cZ cJ ao (vp_updL f (0 : Int32).toNatClampNeg (Int32.toInt64 (p_halfword u x1).2.1)) (p_halfword u x1).2.2) := hD
    refine lv_goto (tgt := 15) hx hb dL_halfword_9 (by decide) ?_
    refine lv_iconst (v := 0) hx hb dL_halfword_15 (by decide) ?_
    rw [show (lf f (p_halfword u x1).1 (p_halfword u x1).2.1) = vp_updL f (0 : Int32).toNatClampNeg (Int32.toInt64 (p_halfword u x1).2.1) from if_pos hc]
    rw [show (la1 (p_halfword u x1).1) = 0 from if_pos hc]
    refine W.widen (k := 1) (n := 6) (by decide) (by decide) ?_
    exact W.iret hx hb hr (fun t ht hW => ⟨⟨_, (), rfl, rfl, by rw [ht]; exact hP, va_K.moved hW.alike hK, hD⟩, hS.F ht⟩) hS.2.2 dL_halfword_16
  · skip
    rw [show (lf f (p_halfword u x1).1 (p_halfword u x1).2.1) = f from if_neg hc]
    refine lv_aload_n hx hb dL_halfword_0 rfl (lv_at hl 2 rfl) ?_
    refine lv_iconst (v := 0) hx hb dL_halfword_1 (by decide) ?_
    refine lv_aload_n hx hb dL_halfword_2 rfl (lv_at hl 0 rfl) ?_
    refine lv_iload_n hx hb dL_halfword_3 rfl (lv_at hl 1 rfl) ?_
    refine gx_callVi (As := [.int x1]) (rest := [.int 0, .ref ao]) (wr := [(ao, .inl (cJ, 1, .inr (.inl f)))]) (w := wT ad cI cZ u) (wb := wO ad cI cZ cJ ao f (p_halfword u x1).2.2) hzz ⟨hx, hb, hml, hown, hts⟩ (cx_halfword l hlt D ad cI cZ zz hzz tS hst hxs u x1 hok hc) (cwV 1 hts (tb_V tw_2_221 tw_2_222 tw_2_223 tw_1_1 tw_2_224) rfl rfl rfl (by decide +kernel) ⟨Nat.le_of_ble_eq_true rfl, Nat.le_of_ble_eq_true rfl⟩) (va_recv hK hP (ci := 3) (q0 := 1) rfl rfl) rfl hl.1 rfl (lv_room (Nat.le_of_ble_eq_true rfl)) dL_halfword_4 ⟨Nat.le_of_ble_eq_true rfl, Nat.le_of_ble_eq_true rfl⟩ (List.Perm.refl _) (List.Perm.refl _) hP hKT hD hS hA hZ hc (fun ce q9 H locs hP hD hS hce hcv hcl => ?_)
    have e1 : (p_halfword u x1).1 = 3 := hcd.resolve_left hc
    rw [e1] at hcl
    have hcl : s.vm.findClass "java/util/NoSuchElementException" = some ce.cls := hcl
    refine vx_catch hown [] ⟨0, 9, 12, 47⟩ [] (hTab.trans rfl) (fun z hz => absurd hz List.not_mem_nil) rfl (by decide) (hts _ (tb_c tw_2_220)) (va_Nw.use rfl (hX.2.2.2 _ xc3)) hce hcv hcl ?_
    refine lv_astore_n (lv' := [(3, .ref q9), (0, .ref (ad 0)), (1, .int x1), (2, .ref ao)]) hx hb dL_halfword_12 rfl hl (by decide) rfl (fun ls hl => ?_)
    refine lv_iconst (v := 1) hx hb dL_halfword_13 (by decide) ?_
    rw [show (la1 (p_halfword u x1).1) = 1 from if_neg hc]
    refine W.widen (k := 1) (n := 6) (by decide) (by decide) ?_
    exact W.iret hx hb hr (fun t ht hW => ⟨⟨_, (), rfl, rfl, by rw [ht]; exact hP, va_K.moved hW.alike hK, hD⟩, hS.F ht⟩) hS.2.2 dL_halfword_14
set_option maxHeartbeats 4000000 in
set_option maxRecDepth 100000 in
theorem ct_place (l : Launch) (hlt : l.stackTraces = false) (D : va_G) (ad : Nat → Nat) (cI cZ : ClassId) (zz : (Nat → Prop) → State → Heap → Prop) (hzz : Zok zz) (tS : Nat) (hst : Zst zz tS) (hxs : Zxs zz) (hnc : Znc zz) (cJ : ClassId) (ao : Nat) (f : Nat → Int64) (u : St) (x1 : Int32) (hok : ok_place u x1) (hcd : (p_place u x1).1 = 0 ∨ (p_place u x1).1 = 3) : tlI l D vwCl (tyL cI cZ cJ) zz yL_place wsL_place ({ frames := 7, cells := 1, slots := 6, locals := 111 } : Room) [.ref (ad 0), .int x1, .ref ao] (wO ad cI cZ cJ ao f u) (la1 (p_place u x1).1) (wO ad cI cZ cJ ao (lf f (p_place u x1).1 (p_place u x1).2.1) (p_place u x1).2.2) := by
  intro sz
  refine va_MetW (cc := cL_place) (maxL := 4) (ret := (some .int)) (by decide) rfl ?_
  intro p e s m args below meth c s₁ B hml hv
  obtain ⟨rfl, hsz, hP, hK, hD0, hZ⟩ := hv
  have hx := B.exec
  have hb := B.bytes
  have hr := B.returns
  have hts := atoms_spec (ws := wsL_place) B.pre
  have hown : s.vm.findClass RL = some m.cls := findClass_of_methodNamed B.named
  have hlocks := B.notSynchronized
  have hTab : c.exceptionTable.toList = tableOf hL_place := vx_table (x := yL_place) B (hts _ List.mem_cons_self)
  have hX := hxs _ _ _ hZ
  have hKT := hK.sub (tys' := tyT cI cZ) [0, 1] rfl
  subst hsz
  have hD := hD0.self (sz := s.heap.size)
  generalize hAe : va_A (wO ad cI cZ cJ ao f u) s.heap.size = A at hD hZ hX ⊢
  have hA : ∀ q : Nat, s.heap.size ≤ q → A q := fun q h => by rw [← hAe]; exact Or.inr h
  have hS : va_S A s.heap s.heap [] := va_S.rf
  have hl := lv_entry ([.ref (ad 0), .int x1, .ref ao]) (n := 4) (Nat.le_of_ble_eq_true rfl)
  rw [lg_entry_eq]
  generalize (lg_sl ([.ref (ad 0), .int x1, .ref ao]) ++ List.replicate (4 - (lg_sl ([.ref (ad 0), .int x1, .ref ao])).length) Slot.unset).toArray = ls at hl ⊢
  have hl : lv_has ls 4 [(0, .ref (ad 0)), (1, .int x1), (2, .ref ao)] := hl
  rcases Classical.em ((p_place u x1).1 = 0) with hc | hc
  · skip
    refine lv_aload_n hx hb dL_place_0 rfl (lv_at hl 2 rfl) ?_
    refine lv_iconst (v := 0) hx hb dL_place_1 (by decide) ?_
    refine lv_aload_n hx hb dL_place_2 rfl (lv_at hl 0 rfl) ?_
    refine lv_iload_n hx hb dL_place_3 rfl (lv_at hl 1 rfl) ?_
    refine g_callVi (As := [.int x1]) (rest := [.int 0, .ref ao]) (wr := [(ao, .inl (cJ, 1, .inr (.inl f)))]) (w := wT ad cI cZ u) (wb := wO ad cI cZ cJ ao f (p_place u x1).2.2) hzz ⟨hx, hb, hml, hown, hts⟩ (cr_place l D ad cI cZ zz hzz tS hst u x1 hok hc) (cwV 1 hts (tb_V tw_3_4 tw_3_5 tw_3_6 tw_1_1 tw_3_7) rfl rfl rfl (by decide +kernel) ⟨Nat.le_of_ble_eq_true rfl, Nat.le_of_ble_eq_true rfl⟩) (va_recv hK hP (ci := 3) (q0 := 1) rfl rfl) rfl hl.1 rfl (lv_room (Nat.le_of_ble_eq_true rfl)) dL_place_4 ⟨Nat.le_of_ble_eq_true rfl, Nat.le_of_ble_eq_true rfl⟩ (List.Perm.refl _) (List.Perm.refl _) hP hKT hD hS hA hZ (fun H locs hP hD hS => ?_)
    refine lv_i2l (v := Int32.toInt64 (p_place u x1).2.1) hx hb dL_place_7 rfl ?_
    refine va_last hx hb hK hP hD hS 0 2 rfl rfl l_in0 dL_place_8 (fun H locs hP hD hS => ?_)
    have hP : va_P D vwCl (wO ad cI cZ cJ ao (vp_updL f (0 : Int32).toNatClampNeg (Int32.toInt64 (p_place u x1).2.1)) (p_place u x1).2.2) H := hP
    have hD : va_D A (wO ad cI cZ cJ ao (vp_updL f (0 : Int32).toNatClampNeg (Int32.toInt64 (p_place u x1).2.1)) (p_place u x1).2.2) := hD
    refine lv_goto (tgt := 15) hx hb dL_place_9 (by decide) ?_
    refine lv_iconst (v := 0) hx hb dL_place_15 (by decide) ?_
    rw [show (lf f (p_place u x1).1 (p_place u x1).2.1) = vp_updL f (0 : Int32).toNatClampNeg (Int32.toInt64 (p_place u x1).2.1) from if_pos hc]
    rw [show (la1 (p_place u x1).1) = 0 from if_pos hc]
    refine W.widen (k := 1) (n := 6) (by decide) (by decide) ?_
    exact W.iret hx hb hr (fun t ht hW => ⟨⟨_, (), rfl, rfl, by rw [ht]; exact hP, va_K.moved hW.alike hK, hD⟩, hS.F ht⟩) hS.2.2 dL_place_16
  · skip
    rw [show (lf f (p_place u x1).1 (p_place u x1).2.1) = f from if_neg hc]
    refine lv_aload_n hx hb dL_place_0 rfl (lv_at hl 2 rfl) ?_
    refine lv_iconst (v := 0) hx hb dL_place_1 (by decide) ?_
    refine lv_aload_n hx hb dL_place_2 rfl (lv_at hl 0 rfl) ?_
    refine lv_iload_n hx hb dL_place_3 rfl (lv_at hl 1 rfl) ?_
    refine gx_callVi (As := [.int x1]) (rest := [.int 0, .ref ao]) (wr := [(ao, .inl (cJ, 1, .inr (.inl f)))]) (w := wT ad cI cZ u) (wb := wO ad cI cZ cJ ao f (p_place u x1).2.2) hzz ⟨hx, hb, hml, hown, hts⟩ (cx_place l hlt D ad cI cZ zz hzz tS hst hxs u x1 hok hc) (cwV 1 hts (tb_V tw_3_4 tw_3_5 tw_3_6 tw_1_1 tw_3_7) rfl rfl rfl (by decide +kernel) ⟨Nat.le_of_ble_eq_true rfl, Nat.le_of_ble_eq_true rfl⟩) (va_recv hK hP (ci := 3) (q0 := 1) rfl rfl) rfl hl.1 rfl (lv_room (Nat.le_of_ble_eq_true rfl)) dL_place_4 ⟨Nat.le_of_ble_eq_true rfl, Nat.le_of_ble_eq_true rfl⟩ (List.Perm.refl _) (List.Perm.refl _) hP hKT hD hS hA hZ hc (fun ce q9 H locs hP hD hS hce hcv hcl => ?_)
    have e1 : (p_place u x1).1 = 3 := hcd.resolve_left hc
    rw [e1] at hcl
    have hcl : s.vm.findClass "java/util/NoSuchElementException" = some ce.cls := hcl
    refine vx_catch hown [] ⟨0, 9, 12, 47⟩ [] (hTab.trans rfl) (fun z hz => absurd hz List.not_mem_nil) rfl (by decide) (hts _ (tb_c tw_2_220)) (va_Nw.use rfl (hX.2.2.2 _ xc3)) hce hcv hcl ?_
    refine lv_astore_n (lv' := [(3, .ref q9), (0, .ref (ad 0)), (1, .int x1), (2, .ref ao)]) hx hb dL_place_12 rfl hl (by decide) rfl (fun ls hl => ?_)
    refine lv_iconst (v := 1) hx hb dL_place_13 (by decide) ?_
    rw [show (la1 (p_place u x1).1) = 1 from if_neg hc]
    refine W.widen (k := 1) (n := 6) (by decide) (by decide) ?_
    exact W.iret hx hb hr (fun t ht hW => ⟨⟨_, (), rfl, rfl, by rw [ht]; exact hP, va_K.moved hW.alike hK, hD⟩, hS.F ht⟩) hS.2.2 dL_place_14
set_option maxHeartbeats 4000000 in
set_option maxRecDepth 100000 in
theorem ct_output (l : Launch) (hlt : l.stackTraces = false) (D : va_G) (ad : Nat → Nat) (cI cZ : ClassId) (zz : (Nat → Prop) → State → Heap → Prop) (hzz : Zok zz) (tS : Nat) (hst : Zst zz tS) (hxs : Zxs zz) (hnc : Znc zz) (cJ : ClassId) (ao : Nat) (f : Nat → Int64) (u : St) (x1 : Int32) (hok : ok_output u x1) (hcd : (p_output u x1).1 = 0 ∨ (p_output u x1).1 = 3) : tlI l D vwCl (tyL cI cZ cJ) zz yL_output wsL_output ({ frames := 7, cells := 1, slots := 6, locals := 111 } : Room) [.ref (ad 0), .int x1, .ref ao] (wO ad cI cZ cJ ao f u) (la1 (p_output u x1).1) (wO ad cI cZ cJ ao (lf f (p_output u x1).1 (p_output u x1).2.1) (p_output u x1).2.2) := by
  intro sz
  refine va_MetW (cc := cL_output) (maxL := 4) (ret := (some .int)) (by decide) rfl ?_
  intro p e s m args below meth c s₁ B hml hv
  obtain ⟨rfl, hsz, hP, hK, hD0, hZ⟩ := hv
  have hx := B.exec
  have hb := B.bytes
  have hr := B.returns
  have hts := atoms_spec (ws := wsL_output) B.pre
  have hown : s.vm.findClass RL = some m.cls := findClass_of_methodNamed B.named
  have hlocks := B.notSynchronized
  have hTab : c.exceptionTable.toList = tableOf hL_output := vx_table (x := yL_output) B (hts _ List.mem_cons_self)
  have hX := hxs _ _ _ hZ
  have hKT := hK.sub (tys' := tyT cI cZ) [0, 1] rfl
  subst hsz
  have hD := hD0.self (sz := s.heap.size)
  generalize hAe : va_A (wO ad cI cZ cJ ao f u) s.heap.size = A at hD hZ hX ⊢
  have hA : ∀ q : Nat, s.heap.size ≤ q → A q := fun q h => by rw [← hAe]; exact Or.inr h
  have hS : va_S A s.heap s.heap [] := va_S.rf
  have hl := lv_entry ([.ref (ad 0), .int x1, .ref ao]) (n := 4) (Nat.le_of_ble_eq_true rfl)
  rw [lg_entry_eq]
  generalize (lg_sl ([.ref (ad 0), .int x1, .ref ao]) ++ List.replicate (4 - (lg_sl ([.ref (ad 0), .int x1, .ref ao])).length) Slot.unset).toArray = ls at hl ⊢
  have hl : lv_has ls 4 [(0, .ref (ad 0)), (1, .int x1), (2, .ref ao)] := hl
  rcases Classical.em ((p_output u x1).1 = 0) with hc | hc
  · skip
    refine lv_aload_n hx hb dL_output_0 rfl (lv_at hl 2 rfl) ?_
    refine lv_iconst (v := 0) hx hb dL_output_1 (by decide) ?_
    refine lv_aload_n hx hb dL_output_2 rfl (lv_at hl 0 rfl) ?_
    refine lv_iload_n hx hb dL_output_3 rfl (lv_at hl 1 rfl) ?_
    refine g_callVi (As := [.int x1]) (rest := [.int 0, .ref ao]) (wr := [(ao, .inl (cJ, 1, .inr (.inl f)))]) (w := wT ad cI cZ u) (wb := wO ad cI cZ cJ ao f (p_output u x1).2.2) hzz ⟨hx, hb, hml, hown, hts⟩ (cr_output l D ad cI cZ zz hzz tS hst u x1 hok hc) (cwV 1 hts (tb_V tw_3_82 tw_3_83 tw_3_84 tw_1_1 tw_3_85) rfl rfl rfl (by decide +kernel) ⟨Nat.le_of_ble_eq_true rfl, Nat.le_of_ble_eq_true rfl⟩) (va_recv hK hP (ci := 3) (q0 := 1) rfl rfl) rfl hl.1 rfl (lv_room (Nat.le_of_ble_eq_true rfl)) dL_output_4 ⟨Nat.le_of_ble_eq_true rfl, Nat.le_of_ble_eq_true rfl⟩ (List.Perm.refl _) (List.Perm.refl _) hP hKT hD hS hA hZ (fun H locs hP hD hS => ?_)
    refine lv_i2l (v := Int32.toInt64 (p_output u x1).2.1) hx hb dL_output_7 rfl ?_
    refine va_last hx hb hK hP hD hS 0 2 rfl rfl l_in0 dL_output_8 (fun H locs hP hD hS => ?_)
    have hP : va_P D vwCl (wO ad cI cZ cJ ao (vp_updL f (0 : Int32).toNatClampNeg (Int32.toInt64 (p_output u x1).2.1)) (p_output u x1).2.2) H := hP
    have hD : va_D A (wO ad cI cZ cJ ao (vp_updL f (0 : Int32).toNatClampNeg (Int32.toInt64 (p_output u x1).2.1)) (p_output u x1).2.2) := hD
    refine lv_goto (tgt := 15) hx hb dL_output_9 (by decide) ?_
    refine lv_iconst (v := 0) hx hb dL_output_15 (by decide) ?_
    rw [show (lf f (p_output u x1).1 (p_output u x1).2.1) = vp_updL f (0 : Int32).toNatClampNeg (Int32.toInt64 (p_output u x1).2.1) from if_pos hc]
    rw [show (la1 (p_output u x1).1) = 0 from if_pos hc]
    refine W.widen (k := 1) (n := 6) (by decide) (by decide) ?_
    exact W.iret hx hb hr (fun t ht hW => ⟨⟨_, (), rfl, rfl, by rw [ht]; exact hP, va_K.moved hW.alike hK, hD⟩, hS.F ht⟩) hS.2.2 dL_output_16
  · skip
    rw [show (lf f (p_output u x1).1 (p_output u x1).2.1) = f from if_neg hc]
    refine lv_aload_n hx hb dL_output_0 rfl (lv_at hl 2 rfl) ?_
    refine lv_iconst (v := 0) hx hb dL_output_1 (by decide) ?_
    refine lv_aload_n hx hb dL_output_2 rfl (lv_at hl 0 rfl) ?_
    refine lv_iload_n hx hb dL_output_3 rfl (lv_at hl 1 rfl) ?_
    refine gx_callVi (As := [.int x1]) (rest := [.int 0, .ref ao]) (wr := [(ao, .inl (cJ, 1, .inr (.inl f)))]) (w := wT ad cI cZ u) (wb := wO ad cI cZ cJ ao f (p_output u x1).2.2) hzz ⟨hx, hb, hml, hown, hts⟩ (cx_output l hlt D ad cI cZ zz hzz tS hst hxs u x1 hok hc) (cwV 1 hts (tb_V tw_3_82 tw_3_83 tw_3_84 tw_1_1 tw_3_85) rfl rfl rfl (by decide +kernel) ⟨Nat.le_of_ble_eq_true rfl, Nat.le_of_ble_eq_true rfl⟩) (va_recv hK hP (ci := 3) (q0 := 1) rfl rfl) rfl hl.1 rfl (lv_room (Nat.le_of_ble_eq_true rfl)) dL_output_4 ⟨Nat.le_of_ble_eq_true rfl, Nat.le_of_ble_eq_true rfl⟩ (List.Perm.refl _) (List.Perm.refl _) hP hKT hD hS hA hZ hc (fun ce q9 H locs hP hD hS hce hcv hcl => ?_)
    have e1 : (p_output u x1).1 = 3 := hcd.resolve_left hc
    rw [e1] at hcl
    have hcl : s.vm.findClass "java/util/NoSuchElementException" = some ce.cls := hcl
    refine vx_catch hown [] ⟨0, 9, 12, 47⟩ [] (hTab.trans rfl) (fun z hz => absurd hz List.not_mem_nil) rfl (by decide) (hts _ (tb_c tw_2_220)) (va_Nw.use rfl (hX.2.2.2 _ xc3)) hce hcv hcl ?_
    refine lv_astore_n (lv' := [(3, .ref q9), (0, .ref (ad 0)), (1, .int x1), (2, .ref ao)]) hx hb dL_output_12 rfl hl (by decide) rfl (fun ls hl => ?_)
    refine lv_iconst (v := 1) hx hb dL_output_13 (by decide) ?_
    rw [show (la1 (p_output u x1).1) = 1 from if_neg hc]
    refine W.widen (k := 1) (n := 6) (by decide) (by decide) ?_
    exact W.iret hx hb hr (fun t ht hW => ⟨⟨_, (), rfl, rfl, by rw [ht]; exact hP, va_K.moved hW.alike hK, hD⟩, hS.F ht⟩) hS.2.2 dL_output_14
