def p_discardImage (u : St) : St := (p_turnOff (sS u 4 0))
set_option maxHeartbeats 4000000 in
set_option maxRecDepth 100000 in
theorem c_discardImage (l : Launch) (D : va_G) (ad : Nat → Nat) (cI cZ : ClassId) (zz : (Nat → Prop) → State → Heap → Prop) (hzz : Zok zz) (tS : Nat) (hst : Zst zz tS) (u : St) : tfV l D vwCl (tyT cI cZ) zz yX3_discardImage wsX3_discardImage ({ frames := 1, cells := 0, slots := 0, locals := 20 } : Room) [.ref (ad 0)] (wT ad cI cZ u) (wT ad cI cZ (p_discardImage u)) := by
  intro sz
  refine Met.ofW (cc := cX3_discardImage) (maxL := 1) (ret := none) (by decide) rfl ?_
  intro p e s m args below meth c s₁ B hml hv
  obtain ⟨rfl, hsz, hP, hK, hD0, hZ⟩ := hv
  have hx := B.exec
  have hb := B.bytes
  have hr := B.returns
  have hts := atoms_spec (ws := wsX3_discardImage) B.pre
  have hown : s.vm.findClass RX3 = some m.cls := findClass_of_methodNamed B.named
  have hlocks := B.notSynchronized
  subst hsz
  have hD := hD0.self (sz := s.heap.size)
  generalize hAe : va_A (wT ad cI cZ u) s.heap.size = A at hD hZ ⊢
  have hA : ∀ q : Nat, s.heap.size ≤ q → A q := fun q h => by rw [← hAe]; exact Or.inr h
  have hS : va_S A s.heap s.heap [] := va_S.rf
  have Cx : cxt p s m ([.ref (ad 0)] : List Value).toArray meth c cX3_discardImage 1 none wsX3_discardImage RX3 D vwCl (tyT cI cZ) zz A := ⟨hx, hb, hr, hts, hown, hlocks, hml, hK, hA, hZ⟩
  have hl := lv_entry ([.ref (ad 0)]) (n := 1) (Nat.le_of_ble_eq_true rfl)
  rw [lg_entry_eq]
  generalize (lg_sl ([.ref (ad 0)]) ++ List.replicate (1 - (lg_sl ([.ref (ad 0)])).length) Slot.unset).toArray = ls at hl ⊢
  have hl : lv_has ls 1 [(0, .ref (ad 0))] := hl
  refine lv_aload_n hx hb dX3_discardImage_0 rfl (lv_at hl 0 rfl) ?_
  refine va_get (ci := 3) (v := .ref (ad 2)) (C := RX3) (T := TX3) (N := 3) hx hb hts (ivX3 _) hown hK hP 0 rfl rfl 1 (by decide) (hts _ (tb_c tw_1_144)) (fun _ h9 => h9) rfl dX3_discardImage_1 ?_
  refine lv_iconst (v := 0) hx hb dX3_discardImage_4 (by decide) ?_
  refine va_put (ci := 0) (v := .int 0) (ty := .boolean) (C := RX0) (T := TX0) (N := 9) hx hb hts (ivX0 _) tyX0 tyX0_ok nmX0 hown hK hP hD hS 2 rfl rfl 8 (by decide) (hts _ (tb_c tw_1_82)) (fun _ h9 => h9) rfl (by decide +kernel) rfl rfl (Nat.le_of_ble_eq_true rfl) dX3_discardImage_5 (fun H locs hP hD hS => ?_)
  have hP : va_P D vwCl (wT ad cI cZ (sS u 4 0)) H := hP
  have hD : va_D A (wT ad cI cZ (sS u 4 0)) := hD
  refine lv_aload_n hx hb dX3_discardImage_8 rfl (lv_at hl 0 rfl) ?_
  refine va_get (ci := 3) (v := .ref (ad 3)) (C := RX3) (T := TX3) (N := 3) hx hb hts (ivX3 _) hown hK hP 0 rfl rfl 2 (by decide) (hts _ (tb_c tw_1_145)) (fun _ h9 => h9) rfl dX3_discardImage_9 ?_
  refine k_callVv (As := []) (rest := []) hzz ⟨hx, hb, hml, hown, hts⟩ (c_turnOff l D ad cI cZ zz hzz tS hst (sS u 4 0)) (cwV 0 hts (tb_V tw_1_165 tw_1_166 tw_1_167 tw_1_4 tw_1_168) rfl rfl rfl (by decide +kernel) ⟨Nat.le_of_ble_eq_true rfl, Nat.le_of_ble_eq_true rfl⟩) (va_recv hK hP (ci := 1) (q0 := 3) rfl rfl) rfl hl.1 rfl (lv_room (Nat.le_of_ble_eq_true rfl)) dX3_discardImage_12 ⟨Nat.le_of_ble_eq_true rfl, Nat.le_of_ble_eq_true rfl⟩ hP hK hD hS hA hZ (fun H locs hP hD hS => ?_)
  generalize eu_2 : p_turnOff (sS u 4 0) = u_2 at hP hD ⊢
  try rw [eu_2] at hok
  have e9 : p_discardImage u = u_2 := by
    subst eu_2
    rw [p_discardImage]
  rw [e9]
  exact W.vret hx hb hr (fun t ht hW => ⟨⟨(), rfl, trivial, by rw [ht]; exact hP, va_K.moved hW.alike hK, hD⟩, hS.F ht⟩) hS.2.2 dX3_discardImage_15

def p_state (u : St) : Int32 := (if (u.1 6) = 3 then 3 + (4 * (u.1 7)) else u.1 6)
set_option maxHeartbeats 4000000 in
set_option maxRecDepth 100000 in
theorem c_state (l : Launch) (D : va_G) (ad : Nat → Nat) (cI cZ : ClassId) (zz : (Nat → Prop) → State → Heap → Prop) (hzz : Zok zz) (tS : Nat) (hst : Zst zz tS) (u : St) : tfI l D vwCl (tyT cI cZ) zz yX3_state wsX3_state ({ frames := 0, cells := 0, slots := 0, locals := 0 } : Room) [.ref (ad 0)] (wT ad cI cZ u) (p_state u) (wT ad cI cZ u) := by
  intro sz
  refine Met.ofW (cc := cX3_state) (maxL := 1) (ret := (some .int)) (by decide) rfl ?_
  intro p e s m args below meth c s₁ B hml hv
  obtain ⟨rfl, hsz, hP, hK, hD0, hZ⟩ := hv
  have hx := B.exec
  have hb := B.bytes
  have hr := B.returns
  have hts := atoms_spec (ws := wsX3_state) B.pre
  have hown : s.vm.findClass RX3 = some m.cls := findClass_of_methodNamed B.named
  have hlocks := B.notSynchronized
  subst hsz
  have hD := hD0.self (sz := s.heap.size)
  generalize hAe : va_A (wT ad cI cZ u) s.heap.size = A at hD hZ ⊢
  have hA : ∀ q : Nat, s.heap.size ≤ q → A q := fun q h => by rw [← hAe]; exact Or.inr h
  have hS : va_S A s.heap s.heap [] := va_S.rf
  have Cx : cxt p s m ([.ref (ad 0)] : List Value).toArray meth c cX3_state 1 (some .int) wsX3_state RX3 D vwCl (tyT cI cZ) zz A := ⟨hx, hb, hr, hts, hown, hlocks, hml, hK, hA, hZ⟩
  have hl := lv_entry ([.ref (ad 0)]) (n := 1) (Nat.le_of_ble_eq_true rfl)
  rw [lg_entry_eq]
  generalize (lg_sl ([.ref (ad 0)]) ++ List.replicate (1 - (lg_sl ([.ref (ad 0)])).length) Slot.unset).toArray = ls at hl ⊢
  have hl : lv_has ls 1 [(0, .ref (ad 0))] := hl
  refine lv_aload_n hx hb dX3_state_0 rfl (lv_at hl 0 rfl) ?_
  refine va_get (ci := 3) (v := .ref (ad 3)) (C := RX3) (T := TX3) (N := 3) hx hb hts (ivX3 _) hown hK hP 0 rfl rfl 2 (by decide) (hts _ (tb_c tw_1_145)) (fun _ h9 => h9) rfl dX3_state_1 ?_
  refine va_get (ci := 1) (v := .int (u.1 6)) (C := RX1) (T := TX1) (N := 9) hx hb hts (ivX1 _) hown hK hP 3 rfl rfl 6 (by decide) (hts _ (tb_c tw_1_119)) (fun _ h9 => h9) rfl dX3_state_4 ?_
  refine lv_iconst (v := 3) hx hb dX3_state_7 (by decide) ?_
  refine lv_icmp_ne (tgt := 25) hx hb dX3_state_8 (by decide) (fun c_1 => ?_) (fun c_1 => ?_)
  · skip
    refine lv_aload_n hx hb dX3_state_25 rfl (lv_at hl 0 rfl) ?_
    refine va_get (ci := 3) (v := .ref (ad 3)) (C := RX3) (T := TX3) (N := 3) hx hb hts (ivX3 _) hown hK hP 0 rfl rfl 2 (by decide) (hts _ (tb_c tw_1_145)) (fun _ h9 => h9) rfl dX3_state_26 ?_
    refine va_get (ci := 1) (v := .int (u.1 6)) (C := RX1) (T := TX1) (N := 9) hx hb hts (ivX1 _) hown hK hP 3 rfl rfl 6 (by decide) (hts _ (tb_c tw_1_119)) (fun _ h9 => h9) rfl dX3_state_29 ?_
    have e9 : p_state u = u.1 6 := by rw [p_state, if_neg c_1]
    rw [e9]
    exact W.iret hx hb hr (fun t ht hW => ⟨⟨_, (), rfl, rfl, by rw [ht]; exact hP, va_K.moved hW.alike hK, hD⟩, hS.F ht⟩) hS.2.2 dX3_state_32
  · skip
    refine lv_iconst (v := 3) hx hb dX3_state_11 (by decide) ?_
    refine lv_iconst (v := 4) hx hb dX3_state_12 (by decide) ?_
    refine lv_aload_n hx hb dX3_state_13 rfl (lv_at hl 0 rfl) ?_
    refine va_get (ci := 3) (v := .ref (ad 3)) (C := RX3) (T := TX3) (N := 3) hx hb hts (ivX3 _) hown hK hP 0 rfl rfl 2 (by decide) (hts _ (tb_c tw_1_145)) (fun _ h9 => h9) rfl dX3_state_14 ?_
    refine va_get (ci := 1) (v := .int (u.1 7)) (C := RX1) (T := TX1) (N := 9) hx hb hts (ivX1 _) hown hK hP 3 rfl rfl 7 (by decide) (hts _ (tb_c tw_1_121)) (fun _ h9 => h9) rfl dX3_state_17 ?_
    refine lv_imul hx hb dX3_state_20 ?_
    refine lv_iadd hx hb dX3_state_21 ?_
    refine lv_goto (tgt := 32) hx hb dX3_state_22 (by decide) ?_
    have e9 : p_state u = 3 + (4 * (u.1 7)) := by rw [p_state, if_pos c_1]
    rw [e9]
    exact W.iret hx hb hr (fun t ht hW => ⟨⟨_, (), rfl, rfl, by rw [ht]; exact hP, va_K.moved hW.alike hK, hD⟩, hS.F ht⟩) hS.2.2 dX3_state_32

def p_at_ (u : St) : Int32 := (if (u.1 6) = 0 then (-1) else u.1 8)
set_option maxHeartbeats 4000000 in
set_option maxRecDepth 100000 in
theorem c_at_ (l : Launch) (D : va_G) (ad : Nat → Nat) (cI cZ : ClassId) (zz : (Nat → Prop) → State → Heap → Prop) (hzz : Zok zz) (tS : Nat) (hst : Zst zz tS) (u : St) : tfI l D vwCl (tyT cI cZ) zz yX3_at wsX3_at ({ frames := 0, cells := 0, slots := 0, locals := 0 } : Room) [.ref (ad 0)] (wT ad cI cZ u) (p_at_ u) (wT ad cI cZ u) := by
  intro sz
  refine Met.ofW (cc := cX3_at) (maxL := 1) (ret := (some .int)) (by decide) rfl ?_
  intro p e s m args below meth c s₁ B hml hv
  obtain ⟨rfl, hsz, hP, hK, hD0, hZ⟩ := hv
  have hx := B.exec
  have hb := B.bytes
  have hr := B.returns
  have hts := atoms_spec (ws := wsX3_at) B.pre
  have hown : s.vm.findClass RX3 = some m.cls := findClass_of_methodNamed B.named
  have hlocks := B.notSynchronized
  subst hsz
  have hD := hD0.self (sz := s.heap.size)
  generalize hAe : va_A (wT ad cI cZ u) s.heap.size = A at hD hZ ⊢
  have hA : ∀ q : Nat, s.heap.size ≤ q → A q := fun q h => by rw [← hAe]; exact Or.inr h
  have hS : va_S A s.heap s.heap [] := va_S.rf
  have Cx : cxt p s m ([.ref (ad 0)] : List Value).toArray meth c cX3_at 1 (some .int) wsX3_at RX3 D vwCl (tyT cI cZ) zz A := ⟨hx, hb, hr, hts, hown, hlocks, hml, hK, hA, hZ⟩
  have hl := lv_entry ([.ref (ad 0)]) (n := 1) (Nat.le_of_ble_eq_true rfl)
  rw [lg_entry_eq]
  generalize (lg_sl ([.ref (ad 0)]) ++ List.replicate (1 - (lg_sl ([.ref (ad 0)])).length) Slot.unset).toArray = ls at hl ⊢
  have hl : lv_has ls 1 [(0, .ref (ad 0))] := hl
  refine lv_aload_n hx hb dX3_at_0 rfl (lv_at hl 0 rfl) ?_
  refine va_get (ci := 3) (v := .ref (ad 3)) (C := RX3) (T := TX3) (N := 3) hx hb hts (ivX3 _) hown hK hP 0 rfl rfl 2 (by decide) (hts _ (tb_c tw_1_145)) (fun _ h9 => h9) rfl dX3_at_1 ?_
  refine va_get (ci := 1) (v := .int (u.1 6)) (C := RX1) (T := TX1) (N := 9) hx hb hts (ivX1 _) hown hK hP 3 rfl rfl 6 (by decide) (hts _ (tb_c tw_1_119)) (fun _ h9 => h9) rfl dX3_at_4 ?_
  refine lv_if_ne (tgt := 14) hx hb dX3_at_7 (by decide) (fun c_1 => ?_) (fun c_1 => ?_)
  · skip
    refine lv_aload_n hx hb dX3_at_14 rfl (lv_at hl 0 rfl) ?_
    refine va_get (ci := 3) (v := .ref (ad 3)) (C := RX3) (T := TX3) (N := 3) hx hb hts (ivX3 _) hown hK hP 0 rfl rfl 2 (by decide) (hts _ (tb_c tw_1_145)) (fun _ h9 => h9) rfl dX3_at_15 ?_
    refine va_get (ci := 1) (v := .int (u.1 8)) (C := RX1) (T := TX1) (N := 9) hx hb hts (ivX1 _) hown hK hP 3 rfl rfl 8 (by decide) (hts _ (tb_c tw_1_123)) (fun _ h9 => h9) rfl dX3_at_18 ?_
    have e9 : p_at_ u = u.1 8 := by rw [p_at_, if_neg c_1]
    rw [e9]
    exact W.iret hx hb hr (fun t ht hW => ⟨⟨_, (), rfl, rfl, by rw [ht]; exact hP, va_K.moved hW.alike hK, hD⟩, hS.F ht⟩) hS.2.2 dX3_at_21
  · skip
    refine lv_iconst (v := (-1)) hx hb dX3_at_10 (by decide) ?_
    refine lv_goto (tgt := 21) hx hb dX3_at_11 (by decide) ?_
    have e9 : p_at_ u = (-1) := by rw [p_at_, if_pos c_1]
    rw [e9]
    exact W.iret hx hb hr (fun t ht hW => ⟨⟨_, (), rfl, rfl, by rw [ht]; exact hP, va_K.moved hW.alike hK, hD⟩, hS.F ht⟩) hS.2.2 dX3_at_21

def p_outputs (u : St) : Int32 := u.1 5
set_option maxHeartbeats 4000000 in
set_option maxRecDepth 100000 in
theorem c_outputs (l : Launch) (D : va_G) (ad : Nat → Nat) (cI cZ : ClassId) (zz : (Nat → Prop) → State → Heap → Prop) (hzz : Zok zz) (tS : Nat) (hst : Zst zz tS) (u : St) : tfI l D vwCl (tyT cI cZ) zz yX3_outputs wsX3_outputs ({ frames := 0, cells := 0, slots := 0, locals := 0 } : Room) [.ref (ad 0)] (wT ad cI cZ u) (p_outputs u) (wT ad cI cZ u) := by
  intro sz
  refine Met.ofW (cc := cX3_outputs) (maxL := 1) (ret := (some .int)) (by decide) rfl ?_
  intro p e s m args below meth c s₁ B hml hv
  obtain ⟨rfl, hsz, hP, hK, hD0, hZ⟩ := hv
  have hx := B.exec
  have hb := B.bytes
  have hr := B.returns
  have hts := atoms_spec (ws := wsX3_outputs) B.pre
  have hown : s.vm.findClass RX3 = some m.cls := findClass_of_methodNamed B.named
  have hlocks := B.notSynchronized
  subst hsz
  have hD := hD0.self (sz := s.heap.size)
  generalize hAe : va_A (wT ad cI cZ u) s.heap.size = A at hD hZ ⊢
  have hA : ∀ q : Nat, s.heap.size ≤ q → A q := fun q h => by rw [← hAe]; exact Or.inr h
  have hS : va_S A s.heap s.heap [] := va_S.rf
  have Cx : cxt p s m ([.ref (ad 0)] : List Value).toArray meth c cX3_outputs 1 (some .int) wsX3_outputs RX3 D vwCl (tyT cI cZ) zz A := ⟨hx, hb, hr, hts, hown, hlocks, hml, hK, hA, hZ⟩
  have hl := lv_entry ([.ref (ad 0)]) (n := 1) (Nat.le_of_ble_eq_true rfl)
  rw [lg_entry_eq]
  generalize (lg_sl ([.ref (ad 0)]) ++ List.replicate (1 - (lg_sl ([.ref (ad 0)])).length) Slot.unset).toArray = ls at hl ⊢
  have hl : lv_has ls 1 [(0, .ref (ad 0))] := hl
  refine lv_aload_n hx hb dX3_outputs_0 rfl (lv_at hl 0 rfl) ?_
  refine va_get (ci := 3) (v := .ref (ad 3)) (C := RX3) (T := TX3) (N := 3) hx hb hts (ivX3 _) hown hK hP 0 rfl rfl 2 (by decide) (hts _ (tb_c tw_1_145)) (fun _ h9 => h9) rfl dX3_outputs_1 ?_
  refine va_get (ci := 1) (v := .int (u.1 5)) (C := RX1) (T := TX1) (N := 9) hx hb hts (ivX1 _) hown hK hP 3 rfl rfl 5 (by decide) (hts _ (tb_c tw_1_117)) (fun _ h9 => h9) rfl dX3_outputs_4 ?_
  have e9 : p_outputs u = u.1 5 := by rw [p_outputs]
  rw [e9]
  exact W.iret hx hb hr (fun t ht hW => ⟨⟨_, (), rfl, rfl, by rw [ht]; exact hP, va_K.moved hW.alike hK, hD⟩, hS.F ht⟩) hS.2.2 dX3_outputs_7

def p_clear (u : St) : St := (p_discardImage (p_empty u))
set_option maxHeartbeats 4000000 in
set_option maxRecDepth 100000 in
theorem c_clear (l : Launch) (D : va_G) (ad : Nat → Nat) (cI cZ : ClassId) (zz : (Nat → Prop) → State → Heap → Prop) (hzz : Zok zz) (tS : Nat) (hst : Zst zz tS) (u : St) : tfV l D vwCl (tyT cI cZ) zz yX3_clear wsX3_clear ({ frames := 2, cells := 0, slots := 0, locals := 40 } : Room) [.ref (ad 0)] (wT ad cI cZ u) (wT ad cI cZ (p_clear u)) := by
  intro sz
  refine Met.ofW (cc := cX3_clear) (maxL := 1) (ret := none) (by decide) rfl ?_
  intro p e s m args below meth c s₁ B hml hv
  obtain ⟨rfl, hsz, hP, hK, hD0, hZ⟩ := hv
  have hx := B.exec
  have hb := B.bytes
  have hr := B.returns
  have hts := atoms_spec (ws := wsX3_clear) B.pre
  have hown : s.vm.findClass RX3 = some m.cls := findClass_of_methodNamed B.named
  have hlocks := B.notSynchronized
  subst hsz
  have hD := hD0.self (sz := s.heap.size)
  generalize hAe : va_A (wT ad cI cZ u) s.heap.size = A at hD hZ ⊢
  have hA : ∀ q : Nat, s.heap.size ≤ q → A q := fun q h => by rw [← hAe]; exact Or.inr h
  have hS : va_S A s.heap s.heap [] := va_S.rf
  have Cx : cxt p s m ([.ref (ad 0)] : List Value).toArray meth c cX3_clear 1 none wsX3_clear RX3 D vwCl (tyT cI cZ) zz A := ⟨hx, hb, hr, hts, hown, hlocks, hml, hK, hA, hZ⟩
  have hl := lv_entry ([.ref (ad 0)]) (n := 1) (Nat.le_of_ble_eq_true rfl)
  rw [lg_entry_eq]
  generalize (lg_sl ([.ref (ad 0)]) ++ List.replicate (1 - (lg_sl ([.ref (ad 0)])).length) Slot.unset).toArray = ls at hl ⊢
  have hl : lv_has ls 1 [(0, .ref (ad 0))] := hl
  refine lv_aload_n hx hb dX3_clear_0 rfl (lv_at hl 0 rfl) ?_
  refine va_get (ci := 3) (v := .ref (ad 1)) (C := RX3) (T := TX3) (N := 3) hx hb hts (ivX3 _) hown hK hP 0 rfl rfl 0 (by decide) (hts _ (tb_c tw_1_143)) (fun _ h9 => h9) rfl dX3_clear_1 ?_
  refine k_callVv (As := []) (rest := []) hzz ⟨hx, hb, hml, hown, hts⟩ (c_empty l D ad cI cZ zz hzz tS hst u) (cwV 0 hts (tb_V tw_1_157 tw_1_158 tw_1_159 tw_1_2 tw_1_160) rfl rfl rfl (by decide +kernel) ⟨Nat.le_of_ble_eq_true rfl, Nat.le_of_ble_eq_true rfl⟩) (va_recv hK hP (ci := 2) (q0 := 1) rfl rfl) rfl hl.1 rfl (lv_room (Nat.le_of_ble_eq_true rfl)) dX3_clear_4 ⟨Nat.le_of_ble_eq_true rfl, Nat.le_of_ble_eq_true rfl⟩ hP hK hD hS hA hZ (fun H locs hP hD hS => ?_)
  generalize eu_2 : p_empty u = u_2 at hP hD ⊢
  try rw [eu_2] at hok
  refine lv_aload_n hx hb dX3_clear_7 rfl (lv_at hl 0 rfl) ?_
  refine k_callVv (As := []) (rest := []) hzz ⟨hx, hb, hml, hown, hts⟩ (c_discardImage l D ad cI cZ zz hzz tS hst u_2) (cwV 0 hts (tb_V tw_1_161 tw_1_163 slX3_discardImage tw_1_1 tw_1_164) rfl rfl rfl (by decide +kernel) ⟨Nat.le_of_ble_eq_true rfl, Nat.le_of_ble_eq_true rfl⟩) (va_recv hK hP (ci := 3) (q0 := 0) rfl rfl) rfl hl.1 rfl (lv_room (Nat.le_of_ble_eq_true rfl)) dX3_clear_8 ⟨Nat.le_of_ble_eq_true rfl, Nat.le_of_ble_eq_true rfl⟩ hP hK hD hS hA hZ (fun H locs hP hD hS => ?_)
  generalize eu_4 : p_discardImage u_2 = u_4 at hP hD ⊢
  try rw [eu_4] at hok
  have e9 : p_clear u = u_4 := by
    subst eu_4
    subst eu_2
    rw [p_clear]
  rw [e9]
  exact W.vret hx hb hr (fun t ht hW => ⟨⟨(), rfl, trivial, by rw [ht]; exact hP, va_K.moved hW.alike hK, hD⟩, hS.F ht⟩) hS.2.2 dX3_clear_11

def p_isRelation (x0 : Int32) : Int32 := (if x0 < 0 then (if x0 < 8 then 0 else (if 13 < x0 then 0 else 1)) else (if x0 ≤ 3 then 1 else (if x0 < 8 then 0 else (if 13 < x0 then 0 else 1))))
set_option maxHeartbeats 4000000 in
set_option maxRecDepth 100000 in
theorem c_isRelation (l : Launch) (D : va_G) (ad : Nat → Nat) (cI cZ : ClassId) (zz : (Nat → Prop) → State → Heap → Prop) (hzz : Zok zz) (tS : Nat) (hst : Zst zz tS) (w : va_W) (x0 : Int32) : tfI l D vwCl (tyT cI cZ) zz yX3_isRelation wsX3_isRelation ({ frames := 0, cells := 0, slots := 0, locals := 0 } : Room) [.int x0] w (p_isRelation x0) w := by
  intro sz
  refine Met.ofW (cc := cX3_isRelation) (maxL := 1) (ret := (some .boolean)) (by decide) rfl ?_
  intro p e s m args below meth c s₁ B hml hv
  obtain ⟨rfl, hsz, hP, hK, hD0, hZ⟩ := hv
  have hx := B.exec
  have hb := B.bytes
  have hr := B.returns
  have hts := atoms_spec (ws := wsX3_isRelation) B.pre
  have hown : s.vm.findClass RX3 = some m.cls := findClass_of_methodNamed B.named
  have hlocks := B.notSynchronized
  subst hsz
  have hD := hD0.self (sz := s.heap.size)
  generalize hAe : va_A w s.heap.size = A at hD hZ ⊢
  have hA : ∀ q : Nat, s.heap.size ≤ q → A q := fun q h => by rw [← hAe]; exact Or.inr h
  have hS : va_S A s.heap s.heap [] := va_S.rf
  have Cx : cxt p s m ([.int x0] : List Value).toArray meth c cX3_isRelation 1 (some .boolean) wsX3_isRelation RX3 D vwCl (tyT cI cZ) zz A := ⟨hx, hb, hr, hts, hown, hlocks, hml, hK, hA, hZ⟩
  have hl := lv_entry ([.int x0]) (n := 1) (Nat.le_of_ble_eq_true rfl)
  rw [lg_entry_eq]
  generalize (lg_sl ([.int x0]) ++ List.replicate (1 - (lg_sl ([.int x0])).length) Slot.unset).toArray = ls at hl ⊢
  have hl : lv_has ls 1 [(0, .int x0)] := hl
  refine lv_iload_n hx hb dX3_isRelation_0 rfl (lv_at hl 0 rfl) ?_
  refine lv_if_lt (tgt := 9) hx hb dX3_isRelation_1 (by decide) (fun c_1 => ?_) (fun c_1 => ?_)
  · skip
    refine lv_iload_n hx hb dX3_isRelation_9 rfl (lv_at hl 0 rfl) ?_
    refine lv_bipush (v := 8) hx hb dX3_isRelation_10 (by decide) ?_
    refine lv_icmp_lt (tgt := 25) hx hb dX3_isRelation_12 (by decide) (fun c_2 => ?_) (fun c_2 => ?_)
    · skip
      refine lv_iconst (v := 0) hx hb dX3_isRelation_25 (by decide) ?_
      have e9 : p_isRelation x0 = 0 := by rw [p_isRelation, if_pos c_1, if_pos c_2]
      rw [e9]
      exact W.zret hx hb hr rfl (fun t ht hW => ⟨⟨_, (), rfl, rfl, by rw [ht]; exact hP, va_K.moved hW.alike hK, hD⟩, hS.F ht⟩) hS.2.2 dX3_isRelation_26
    · skip
      refine lv_iload_n hx hb dX3_isRelation_15 rfl (lv_at hl 0 rfl) ?_
      refine lv_bipush (v := 13) hx hb dX3_isRelation_16 (by decide) ?_
      refine lv_icmp_gt (tgt := 25) hx hb dX3_isRelation_18 (by decide) (fun c_3 => ?_) (fun c_3 => ?_)
      · skip
        refine lv_iconst (v := 0) hx hb dX3_isRelation_25 (by decide) ?_
        have e9 : p_isRelation x0 = 0 := by rw [p_isRelation, if_pos c_1, if_neg c_2, if_pos c_3]
        rw [e9]
        exact W.zret hx hb hr rfl (fun t ht hW => ⟨⟨_, (), rfl, rfl, by rw [ht]; exact hP, va_K.moved hW.alike hK, hD⟩, hS.F ht⟩) hS.2.2 dX3_isRelation_26
      · skip
        refine lv_iconst (v := 1) hx hb dX3_isRelation_21 (by decide) ?_
        refine lv_goto (tgt := 26) hx hb dX3_isRelation_22 (by decide) ?_
        have e9 : p_isRelation x0 = 1 := by rw [p_isRelation, if_pos c_1, if_neg c_2, if_neg c_3]
        rw [e9]
        exact W.zret hx hb hr rfl (fun t ht hW => ⟨⟨_, (), rfl, rfl, by rw [ht]; exact hP, va_K.moved hW.alike hK, hD⟩, hS.F ht⟩) hS.2.2 dX3_isRelation_26
  · skip
    refine lv_iload_n hx hb dX3_isRelation_4 rfl (lv_at hl 0 rfl) ?_
    refine lv_iconst (v := 3) hx hb dX3_isRelation_5 (by decide) ?_
    refine lv_icmp_le (tgt := 21) hx hb dX3_isRelation_6 (by decide) (fun c_4 => ?_) (fun c_4 => ?_)
    · skip
      refine lv_iconst (v := 1) hx hb dX3_isRelation_21 (by decide) ?_
      refine lv_goto (tgt := 26) hx hb dX3_isRelation_22 (by decide) ?_
      have e9 : p_isRelation x0 = 1 := by rw [p_isRelation, if_neg c_1, if_pos c_4]
      rw [e9]
      exact W.zret hx hb hr rfl (fun t ht hW => ⟨⟨_, (), rfl, rfl, by rw [ht]; exact hP, va_K.moved hW.alike hK, hD⟩, hS.F ht⟩) hS.2.2 dX3_isRelation_26
    · skip
      refine lv_iload_n hx hb dX3_isRelation_9 rfl (lv_at hl 0 rfl) ?_
      refine lv_bipush (v := 8) hx hb dX3_isRelation_10 (by decide) ?_
      refine lv_icmp_lt (tgt := 25) hx hb dX3_isRelation_12 (by decide) (fun c_5 => ?_) (fun c_5 => ?_)
      · skip
        refine lv_iconst (v := 0) hx hb dX3_isRelation_25 (by decide) ?_
        have e9 : p_isRelation x0 = 0 := by rw [p_isRelation, if_neg c_1, if_neg c_4, if_pos c_5]
        rw [e9]
        exact W.zret hx hb hr rfl (fun t ht hW => ⟨⟨_, (), rfl, rfl, by rw [ht]; exact hP, va_K.moved hW.alike hK, hD⟩, hS.F ht⟩) hS.2.2 dX3_isRelation_26
      · skip
        refine lv_iload_n hx hb dX3_isRelation_15 rfl (lv_at hl 0 rfl) ?_
        refine lv_bipush (v := 13) hx hb dX3_isRelation_16 (by decide) ?_
        refine lv_icmp_gt (tgt := 25) hx hb dX3_isRelation_18 (by decide) (fun c_6 => ?_) (fun c_6 => ?_)
        · skip
          refine lv_iconst (v := 0) hx hb dX3_isRelation_25 (by decide) ?_
          have e9 : p_isRelation x0 = 0 := by rw [p_isRelation, if_neg c_1, if_neg c_4, if_neg c_5, if_pos c_6]
          rw [e9]
          exact W.zret hx hb hr rfl (fun t ht hW => ⟨⟨_, (), rfl, rfl, by rw [ht]; exact hP, va_K.moved hW.alike hK, hD⟩, hS.F ht⟩) hS.2.2 dX3_isRelation_26
        · skip
          refine lv_iconst (v := 1) hx hb dX3_isRelation_21 (by decide) ?_
          refine lv_goto (tgt := 26) hx hb dX3_isRelation_22 (by decide) ?_
          have e9 : p_isRelation x0 = 1 := by rw [p_isRelation, if_neg c_1, if_neg c_4, if_neg c_5, if_neg c_6]
          rw [e9]
          exact W.zret hx hb hr rfl (fun t ht hW => ⟨⟨_, (), rfl, rfl, by rw [ht]; exact hP, va_K.moved hW.alike hK, hD⟩, hS.F ht⟩) hS.2.2 dX3_isRelation_26
