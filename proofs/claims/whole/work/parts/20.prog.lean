def p_neverGoesOnBehind (x0 : Int32) : Int32 := (if x0 = 4 then 1 else (if x0 = 7 then 1 else (if x0 = 8 then 1 else 0)))
set_option maxHeartbeats 4000000 in
set_option maxRecDepth 100000 in
theorem c_neverGoesOnBehind (l : Launch) (D : va_G) (ad : Nat → Nat) (cI cZ : ClassId) (zz : (Nat → Prop) → State → Heap → Prop) (hzz : Zok zz) (tS : Nat) (hst : Zst zz tS) (w : va_W) (x0 : Int32) : tfI l D vwCl (tyT cI cZ) zz yX2_neverGoesOnBehind wsX2_neverGoesOnBehind ({ frames := 0, cells := 0, slots := 0, locals := 0 } : Room) [.int x0] w (p_neverGoesOnBehind x0) w := by
  intro sz
  refine Met.ofW (cc := cX2_neverGoesOnBehind) (maxL := 1) (ret := (some .boolean)) (by decide) rfl ?_
  intro p e s m args below meth c s₁ B hml hv
  obtain ⟨rfl, hsz, hP, hK, hD0, hZ⟩ := hv
  have hx := B.exec
  have hb := B.bytes
  have hr := B.returns
  have hts := atoms_spec (ws := wsX2_neverGoesOnBehind) B.pre
  have hown : s.vm.findClass RX2 = some m.cls := findClass_of_methodNamed B.named
  have hlocks := B.notSynchronized
  subst hsz
  have hD := hD0.self (sz := s.heap.size)
  generalize hAe : va_A w s.heap.size = A at hD hZ ⊢
  have hA : ∀ q : Nat, s.heap.size ≤ q → A q := fun q h => by rw [← hAe]; exact Or.inr h
  have hS : va_S A s.heap s.heap [] := va_S.rf
  have Cx : cxt p s m ([.int x0] : List Value).toArray meth c cX2_neverGoesOnBehind 1 (some .boolean) wsX2_neverGoesOnBehind RX2 D vwCl (tyT cI cZ) zz A := ⟨hx, hb, hr, hts, hown, hlocks, hml, hK, hA, hZ⟩
  have hl := lv_entry ([.int x0]) (n := 1) (Nat.le_of_ble_eq_true rfl)
  rw [lg_entry_eq]
  generalize (lg_sl ([.int x0]) ++ List.replicate (1 - (lg_sl ([.int x0])).length) Slot.unset).toArray = ls at hl ⊢
  have hl : lv_has ls 1 [(0, .int x0)] := hl
  refine lv_iload_n hx hb dX2_neverGoesOnBehind_0 rfl (lv_at hl 0 rfl) ?_
  refine lv_iconst (v := 4) hx hb dX2_neverGoesOnBehind_1 (by decide) ?_
  refine lv_icmp_eq (tgt := 17) hx hb dX2_neverGoesOnBehind_2 (by decide) (fun c_1 => ?_) (fun c_1 => ?_)
  · skip
    refine lv_iconst (v := 1) hx hb dX2_neverGoesOnBehind_17 (by decide) ?_
    refine lv_goto (tgt := 22) hx hb dX2_neverGoesOnBehind_18 (by decide) ?_
    have e9 : p_neverGoesOnBehind x0 = 1 := by rw [p_neverGoesOnBehind, if_pos c_1]
    rw [e9]
    exact W.zret hx hb hr rfl (fun t ht hW => ⟨⟨_, (), rfl, rfl, by rw [ht]; exact hP, va_K.moved hW.alike hK, hD⟩, hS.F ht⟩) hS.2.2 dX2_neverGoesOnBehind_22
  · skip
    refine lv_iload_n hx hb dX2_neverGoesOnBehind_5 rfl (lv_at hl 0 rfl) ?_
    refine lv_bipush (v := 7) hx hb dX2_neverGoesOnBehind_6 (by decide) ?_
    refine lv_icmp_eq (tgt := 17) hx hb dX2_neverGoesOnBehind_8 (by decide) (fun c_2 => ?_) (fun c_2 => ?_)
    · skip
      refine lv_iconst (v := 1) hx hb dX2_neverGoesOnBehind_17 (by decide) ?_
      refine lv_goto (tgt := 22) hx hb dX2_neverGoesOnBehind_18 (by decide) ?_
      have e9 : p_neverGoesOnBehind x0 = 1 := by rw [p_neverGoesOnBehind, if_neg c_1, if_pos c_2]
      rw [e9]
      exact W.zret hx hb hr rfl (fun t ht hW => ⟨⟨_, (), rfl, rfl, by rw [ht]; exact hP, va_K.moved hW.alike hK, hD⟩, hS.F ht⟩) hS.2.2 dX2_neverGoesOnBehind_22
    · skip
      refine lv_iload_n hx hb dX2_neverGoesOnBehind_11 rfl (lv_at hl 0 rfl) ?_
      refine lv_bipush (v := 8) hx hb dX2_neverGoesOnBehind_12 (by decide) ?_
      refine lv_icmp_ne (tgt := 21) hx hb dX2_neverGoesOnBehind_14 (by decide) (fun c_3 => ?_) (fun c_3 => ?_)
      · skip
        refine lv_iconst (v := 0) hx hb dX2_neverGoesOnBehind_21 (by decide) ?_
        have e9 : p_neverGoesOnBehind x0 = 0 := by rw [p_neverGoesOnBehind, if_neg c_1, if_neg c_2, if_neg c_3]
        rw [e9]
        exact W.zret hx hb hr rfl (fun t ht hW => ⟨⟨_, (), rfl, rfl, by rw [ht]; exact hP, va_K.moved hW.alike hK, hD⟩, hS.F ht⟩) hS.2.2 dX2_neverGoesOnBehind_22
      · skip
        refine lv_iconst (v := 1) hx hb dX2_neverGoesOnBehind_17 (by decide) ?_
        refine lv_goto (tgt := 22) hx hb dX2_neverGoesOnBehind_18 (by decide) ?_
        have e9 : p_neverGoesOnBehind x0 = 1 := by rw [p_neverGoesOnBehind, if_neg c_1, if_neg c_2, if_pos c_3]
        rw [e9]
        exact W.zret hx hb hr rfl (fun t ht hW => ⟨⟨_, (), rfl, rfl, by rw [ht]; exact hP, va_K.moved hW.alike hK, hD⟩, hS.F ht⟩) hS.2.2 dX2_neverGoesOnBehind_22

def p_empty (u : St) : St := sS u 0 0
set_option maxHeartbeats 4000000 in
set_option maxRecDepth 100000 in
theorem c_empty (l : Launch) (D : va_G) (ad : Nat → Nat) (cI cZ : ClassId) (zz : (Nat → Prop) → State → Heap → Prop) (hzz : Zok zz) (tS : Nat) (hst : Zst zz tS) (u : St) : tfV l D vwCl (tyT cI cZ) zz yX2_empty wsX2_empty ({ frames := 0, cells := 0, slots := 0, locals := 0 } : Room) [.ref (ad 1)] (wT ad cI cZ u) (wT ad cI cZ (p_empty u)) := by
  intro sz
  refine Met.ofW (cc := cX2_empty) (maxL := 1) (ret := none) (by decide) rfl ?_
  intro p e s m args below meth c s₁ B hml hv
  obtain ⟨rfl, hsz, hP, hK, hD0, hZ⟩ := hv
  have hx := B.exec
  have hb := B.bytes
  have hr := B.returns
  have hts := atoms_spec (ws := wsX2_empty) B.pre
  have hown : s.vm.findClass RX2 = some m.cls := findClass_of_methodNamed B.named
  have hlocks := B.notSynchronized
  subst hsz
  have hD := hD0.self (sz := s.heap.size)
  generalize hAe : va_A (wT ad cI cZ u) s.heap.size = A at hD hZ ⊢
  have hA : ∀ q : Nat, s.heap.size ≤ q → A q := fun q h => by rw [← hAe]; exact Or.inr h
  have hS : va_S A s.heap s.heap [] := va_S.rf
  have Cx : cxt p s m ([.ref (ad 1)] : List Value).toArray meth c cX2_empty 1 none wsX2_empty RX2 D vwCl (tyT cI cZ) zz A := ⟨hx, hb, hr, hts, hown, hlocks, hml, hK, hA, hZ⟩
  have hl := lv_entry ([.ref (ad 1)]) (n := 1) (Nat.le_of_ble_eq_true rfl)
  rw [lg_entry_eq]
  generalize (lg_sl ([.ref (ad 1)]) ++ List.replicate (1 - (lg_sl ([.ref (ad 1)])).length) Slot.unset).toArray = ls at hl ⊢
  have hl : lv_has ls 1 [(0, .ref (ad 1))] := hl
  refine lv_aload_n hx hb dX2_empty_0 rfl (lv_at hl 0 rfl) ?_
  refine lv_iconst (v := 0) hx hb dX2_empty_1 (by decide) ?_
  refine va_put (ci := 2) (v := .int 0) (ty := .int) (C := RX2) (T := TX2) (N := 7) hx hb hts (ivX2 _) tyX2 tyX2_ok nmX2 hown hK hP hD hS 1 rfl rfl 6 (by decide) (hts _ (tb_c tw_1_44)) (fun _ h9 => h9) rfl (by decide +kernel) rfl rfl (Nat.le_of_ble_eq_true rfl) dX2_empty_2 (fun H locs hP hD hS => ?_)
  have hP : va_P D vwCl (wT ad cI cZ (sS u 0 0)) H := hP
  have hD : va_D A (wT ad cI cZ (sS u 0 0)) := hD
  have e9 : p_empty u = sS u 0 0 := by rw [p_empty]
  rw [e9]
  exact W.vret hx hb hr (fun t ht hW => ⟨⟨(), rfl, trivial, by rw [ht]; exact hP, va_K.moved hW.alike hK, hD⟩, hS.F ht⟩) hS.2.2 dX2_empty_5

def p_add (u : St) (x1 x2 x3 x4 x5 x6 : Int32) : Int32 × St := (u.1 0, sS (sA (sA (sA (sA (sA (sA u 0 (u.1 0) x1) 1 (u.1 0) x2) 2 (u.1 0) x3) 3 (u.1 0) x4) 4 (u.1 0) x5) 5 (u.1 0) x6) 0 ((u.1 0) + 1))
def ok_add (u : St) (x1 x2 x3 x4 x5 x6 : Int32) : Prop := (vp_in (u.1 0) 48 ∧ (vp_in (u.1 0) 48 ∧ (vp_in (u.1 0) 48 ∧ (vp_in (u.1 0) 48 ∧ (vp_in (u.1 0) 48 ∧ (vp_in (u.1 0) 48 ∧ True))))))
set_option maxHeartbeats 4000000 in
set_option maxRecDepth 100000 in
theorem c_add (l : Launch) (D : va_G) (ad : Nat → Nat) (cI cZ : ClassId) (zz : (Nat → Prop) → State → Heap → Prop) (hzz : Zok zz) (tS : Nat) (hst : Zst zz tS) (u : St) (x1 x2 x3 x4 x5 x6 : Int32) (hok : ok_add u x1 x2 x3 x4 x5 x6) : tfI l D vwCl (tyT cI cZ) zz yX2_add wsX2_add ({ frames := 0, cells := 0, slots := 0, locals := 0 } : Room) [.ref (ad 1), .int x1, .int x2, .int x3, .int x4, .int x5, .int x6] (wT ad cI cZ u) (p_add u x1 x2 x3 x4 x5 x6).1 (wT ad cI cZ ((p_add u x1 x2 x3 x4 x5 x6).2)) := by
  intro sz
  unfold ok_add at hok
  refine Met.ofW (cc := cX2_add) (maxL := 8) (ret := (some .int)) (by decide) rfl ?_
  intro p e s m args below meth c s₁ B hml hv
  obtain ⟨rfl, hsz, hP, hK, hD0, hZ⟩ := hv
  have hx := B.exec
  have hb := B.bytes
  have hr := B.returns
  have hts := atoms_spec (ws := wsX2_add) B.pre
  have hown : s.vm.findClass RX2 = some m.cls := findClass_of_methodNamed B.named
  have hlocks := B.notSynchronized
  subst hsz
  have hD := hD0.self (sz := s.heap.size)
  generalize hAe : va_A (wT ad cI cZ u) s.heap.size = A at hD hZ ⊢
  have hA : ∀ q : Nat, s.heap.size ≤ q → A q := fun q h => by rw [← hAe]; exact Or.inr h
  have hS : va_S A s.heap s.heap [] := va_S.rf
  have Cx : cxt p s m ([.ref (ad 1), .int x1, .int x2, .int x3, .int x4, .int x5, .int x6] : List Value).toArray meth c cX2_add 8 (some .int) wsX2_add RX2 D vwCl (tyT cI cZ) zz A := ⟨hx, hb, hr, hts, hown, hlocks, hml, hK, hA, hZ⟩
  have hl := lv_entry ([.ref (ad 1), .int x1, .int x2, .int x3, .int x4, .int x5, .int x6]) (n := 8) (Nat.le_of_ble_eq_true rfl)
  rw [lg_entry_eq]
  generalize (lg_sl ([.ref (ad 1), .int x1, .int x2, .int x3, .int x4, .int x5, .int x6]) ++ List.replicate (8 - (lg_sl ([.ref (ad 1), .int x1, .int x2, .int x3, .int x4, .int x5, .int x6])).length) Slot.unset).toArray = ls at hl ⊢
  have hl : lv_has ls 8 [(0, .ref (ad 1)), (1, .int x1), (2, .int x2), (3, .int x3), (4, .int x4), (5, .int x5), (6, .int x6)] := hl
  refine lv_aload_n hx hb dX2_add_0 rfl (lv_at hl 0 rfl) ?_
  refine va_get (ci := 2) (v := .int (u.1 0)) (C := RX2) (T := TX2) (N := 7) hx hb hts (ivX2 _) hown hK hP 1 rfl rfl 6 (by decide) (hts _ (tb_c tw_1_44)) (fun _ h9 => h9) rfl dX2_add_1 ?_
  refine lv_istore (lv' := [(7, .int (u.1 0)), (0, .ref (ad 1)), (1, .int x1), (2, .int x2), (3, .int x3), (4, .int x4), (5, .int x5), (6, .int x6)]) hx hb dX2_add_4 hl (by decide) rfl (fun ls hl => ?_)
  refine lv_aload_n hx hb dX2_add_6 rfl (lv_at hl 1 rfl) ?_
  refine va_get (ci := 2) (v := .ref (ad 4)) (C := RX2) (T := TX2) (N := 7) hx hb hts (ivX2 _) hown hK hP 1 rfl rfl 0 (by decide) (hts _ (tb_c tw_1_26)) (fun _ h9 => h9) rfl dX2_add_7 ?_
  refine lv_iload hx hb dX2_add_10 (lv_at hl 0 rfl) ?_
  refine lv_iload_n hx hb dX2_add_12 rfl (lv_at hl 2 rfl) ?_
  obtain ⟨h_1, hok⟩ := hok
  refine va_iast hx hb hK hP hD hS 4 0 rfl rfl h_1 dX2_add_13 (fun H locs hP hD hS => ?_)
  have hP : va_P D vwCl (wT ad cI cZ (sA u 0 (u.1 0) x1)) H := hP
  have hD : va_D A (wT ad cI cZ (sA u 0 (u.1 0) x1)) := hD
  refine lv_aload_n hx hb dX2_add_14 rfl (lv_at hl 1 rfl) ?_
  refine va_get (ci := 2) (v := .ref (ad 5)) (C := RX2) (T := TX2) (N := 7) hx hb hts (ivX2 _) hown hK hP 1 rfl rfl 1 (by decide) (hts _ (tb_c tw_1_29)) (fun _ h9 => h9) rfl dX2_add_15 ?_
  refine lv_iload hx hb dX2_add_18 (lv_at hl 0 rfl) ?_
  refine lv_iload_n hx hb dX2_add_20 rfl (lv_at hl 3 rfl) ?_
  obtain ⟨h_2, hok⟩ := hok
  refine va_iast hx hb hK hP hD hS 5 0 rfl rfl h_2 dX2_add_21 (fun H locs hP hD hS => ?_)
  have hP : va_P D vwCl (wT ad cI cZ (sA (sA u 0 (u.1 0) x1) 1 (u.1 0) x2)) H := hP
  have hD : va_D A (wT ad cI cZ (sA (sA u 0 (u.1 0) x1) 1 (u.1 0) x2)) := hD
  refine lv_aload_n hx hb dX2_add_22 rfl (lv_at hl 1 rfl) ?_
  refine va_get (ci := 2) (v := .ref (ad 6)) (C := RX2) (T := TX2) (N := 7) hx hb hts (ivX2 _) hown hK hP 1 rfl rfl 2 (by decide) (hts _ (tb_c tw_1_32)) (fun _ h9 => h9) rfl dX2_add_23 ?_
  refine lv_iload hx hb dX2_add_26 (lv_at hl 0 rfl) ?_
  refine lv_iload_n hx hb dX2_add_28 rfl (lv_at hl 4 rfl) ?_
  obtain ⟨h_3, hok⟩ := hok
  refine va_iast hx hb hK hP hD hS 6 0 rfl rfl h_3 dX2_add_29 (fun H locs hP hD hS => ?_)
  have hP : va_P D vwCl (wT ad cI cZ (sA (sA (sA u 0 (u.1 0) x1) 1 (u.1 0) x2) 2 (u.1 0) x3)) H := hP
  have hD : va_D A (wT ad cI cZ (sA (sA (sA u 0 (u.1 0) x1) 1 (u.1 0) x2) 2 (u.1 0) x3)) := hD
  refine lv_aload_n hx hb dX2_add_30 rfl (lv_at hl 1 rfl) ?_
  refine va_get (ci := 2) (v := .ref (ad 7)) (C := RX2) (T := TX2) (N := 7) hx hb hts (ivX2 _) hown hK hP 1 rfl rfl 3 (by decide) (hts _ (tb_c tw_1_35)) (fun _ h9 => h9) rfl dX2_add_31 ?_
  refine lv_iload hx hb dX2_add_34 (lv_at hl 0 rfl) ?_
  refine lv_iload hx hb dX2_add_36 (lv_at hl 5 rfl) ?_
  obtain ⟨h_4, hok⟩ := hok
  refine va_iast hx hb hK hP hD hS 7 0 rfl rfl h_4 dX2_add_38 (fun H locs hP hD hS => ?_)
  have hP : va_P D vwCl (wT ad cI cZ (sA (sA (sA (sA u 0 (u.1 0) x1) 1 (u.1 0) x2) 2 (u.1 0) x3) 3 (u.1 0) x4)) H := hP
  have hD : va_D A (wT ad cI cZ (sA (sA (sA (sA u 0 (u.1 0) x1) 1 (u.1 0) x2) 2 (u.1 0) x3) 3 (u.1 0) x4)) := hD
  refine lv_aload_n hx hb dX2_add_39 rfl (lv_at hl 1 rfl) ?_
  refine va_get (ci := 2) (v := .ref (ad 8)) (C := RX2) (T := TX2) (N := 7) hx hb hts (ivX2 _) hown hK hP 1 rfl rfl 4 (by decide) (hts _ (tb_c tw_1_38)) (fun _ h9 => h9) rfl dX2_add_40 ?_
  refine lv_iload hx hb dX2_add_43 (lv_at hl 0 rfl) ?_
  refine lv_iload hx hb dX2_add_45 (lv_at hl 6 rfl) ?_
  obtain ⟨h_5, hok⟩ := hok
  refine va_iast hx hb hK hP hD hS 8 0 rfl rfl h_5 dX2_add_47 (fun H locs hP hD hS => ?_)
  have hP : va_P D vwCl (wT ad cI cZ (sA (sA (sA (sA (sA u 0 (u.1 0) x1) 1 (u.1 0) x2) 2 (u.1 0) x3) 3 (u.1 0) x4) 4 (u.1 0) x5)) H := hP
  have hD : va_D A (wT ad cI cZ (sA (sA (sA (sA (sA u 0 (u.1 0) x1) 1 (u.1 0) x2) 2 (u.1 0) x3) 3 (u.1 0) x4) 4 (u.1 0) x5)) := hD
  refine lv_aload_n hx hb dX2_add_48 rfl (lv_at hl 1 rfl) ?_
  refine va_get (ci := 2) (v := .ref (ad 9)) (C := RX2) (T := TX2) (N := 7) hx hb hts (ivX2 _) hown hK hP 1 rfl rfl 5 (by decide) (hts _ (tb_c tw_1_41)) (fun _ h9 => h9) rfl dX2_add_49 ?_
  refine lv_iload hx hb dX2_add_52 (lv_at hl 0 rfl) ?_
  refine lv_iload hx hb dX2_add_54 (lv_at hl 7 rfl) ?_
  obtain ⟨h_6, hok⟩ := hok
  refine va_iast hx hb hK hP hD hS 9 0 rfl rfl h_6 dX2_add_56 (fun H locs hP hD hS => ?_)
  have hP : va_P D vwCl (wT ad cI cZ (sA (sA (sA (sA (sA (sA u 0 (u.1 0) x1) 1 (u.1 0) x2) 2 (u.1 0) x3) 3 (u.1 0) x4) 4 (u.1 0) x5) 5 (u.1 0) x6)) H := hP
  have hD : va_D A (wT ad cI cZ (sA (sA (sA (sA (sA (sA u 0 (u.1 0) x1) 1 (u.1 0) x2) 2 (u.1 0) x3) 3 (u.1 0) x4) 4 (u.1 0) x5) 5 (u.1 0) x6)) := hD
  refine lv_aload_n hx hb dX2_add_57 rfl (lv_at hl 1 rfl) ?_
  refine lv_iload hx hb dX2_add_58 (lv_at hl 0 rfl) ?_
  refine lv_iconst (v := 1) hx hb dX2_add_60 (by decide) ?_
  refine lv_iadd hx hb dX2_add_61 ?_
  refine va_put (ci := 2) (v := .int ((u.1 0) + 1)) (ty := .int) (C := RX2) (T := TX2) (N := 7) hx hb hts (ivX2 _) tyX2 tyX2_ok nmX2 hown hK hP hD hS 1 rfl rfl 6 (by decide) (hts _ (tb_c tw_1_44)) (fun _ h9 => h9) rfl (by decide +kernel) rfl rfl (Nat.le_of_ble_eq_true rfl) dX2_add_62 (fun H locs hP hD hS => ?_)
  have hP : va_P D vwCl (wT ad cI cZ (sS (sA (sA (sA (sA (sA (sA u 0 (u.1 0) x1) 1 (u.1 0) x2) 2 (u.1 0) x3) 3 (u.1 0) x4) 4 (u.1 0) x5) 5 (u.1 0) x6) 0 ((u.1 0) + 1))) H := hP
  have hD : va_D A (wT ad cI cZ (sS (sA (sA (sA (sA (sA (sA u 0 (u.1 0) x1) 1 (u.1 0) x2) 2 (u.1 0) x3) 3 (u.1 0) x4) 4 (u.1 0) x5) 5 (u.1 0) x6) 0 ((u.1 0) + 1))) := hD
  refine lv_iload hx hb dX2_add_65 (lv_at hl 0 rfl) ?_
  have e9 : p_add u x1 x2 x3 x4 x5 x6 = (u.1 0, sS (sA (sA (sA (sA (sA (sA u 0 (u.1 0) x1) 1 (u.1 0) x2) 2 (u.1 0) x3) 3 (u.1 0) x4) 4 (u.1 0) x5) 5 (u.1 0) x6) 0 ((u.1 0) + 1)) := by rw [p_add]
  rw [e9]
  exact W.iret hx hb hr (fun t ht hW => ⟨⟨_, (), rfl, rfl, by rw [ht]; exact hP, va_K.moved hW.alike hK, hD⟩, hS.F ht⟩) hS.2.2 dX2_add_67

def p_canBeForged_28 : Nat → St → Int32 → Int32
  | 0, _, _ => 0
  | n + 1, u, x1 => (if (u.1 0) ≤ x1 then 1 else (if (u.2 0 x1.toNatClampNeg) = 4 then (if (u.2 5 x1.toNatClampNeg) < (u.1 0) then p_canBeForged_28 n u (x1 + 1) else 0) else (if (u.2 0 x1.toNatClampNeg) = 5 then (if (u.2 5 x1.toNatClampNeg) < (u.1 0) then p_canBeForged_28 n u (x1 + 1) else 0) else p_canBeForged_28 n u (x1 + 1))))
def ok_canBeForged_28 : Nat → St → Int32 → Prop
  | 0, _, _ => False
  | n + 1, u, x1 => (((u.1 0) ≤ x1 → True) ∧ (¬ (u.1 0) ≤ x1 → (vp_in x1 48 ∧ (((u.2 0 x1.toNatClampNeg) = 4 → (vp_in x1 48 ∧ (((u.2 5 x1.toNatClampNeg) < (u.1 0) → ok_canBeForged_28 n u (x1 + 1)) ∧ (¬ (u.2 5 x1.toNatClampNeg) < (u.1 0) → True)))) ∧ (¬ (u.2 0 x1.toNatClampNeg) = 4 → (vp_in x1 48 ∧ (((u.2 0 x1.toNatClampNeg) = 5 → (vp_in x1 48 ∧ (((u.2 5 x1.toNatClampNeg) < (u.1 0) → ok_canBeForged_28 n u (x1 + 1)) ∧ (¬ (u.2 5 x1.toNatClampNeg) < (u.1 0) → True)))) ∧ (¬ (u.2 0 x1.toNatClampNeg) = 5 → ok_canBeForged_28 n u (x1 + 1)))))))))
set_option maxHeartbeats 4000000 in
set_option maxRecDepth 100000 in
theorem w_canBeForged_28 {p : Program} {l : Launch} {e : Env} {s : State} {m : MethodId} {args : Array Value} {below : List Frame} {meth : Method} {c : Code} {D : va_G} {A : Nat → Prop} (ad : Nat → Nat) (cI cZ : ClassId) (zz : (Nat → Prop) → State → Heap → Prop) (hzz : Zok zz) (tS : Nat) (hst : Zst zz tS) (Cx : cxt p s m args meth c cX2_canBeForged 2 (some .boolean) wsX2_canBeForged RX2 D vwCl (tyT cI cZ) zz A) : ∀ (n : Nat) (u : St) (x1 : Int32) (H : Heap) (locs : List Loc) (ls : Array Slot), ok_canBeForged_28 n u x1 → va_P D vwCl (wT ad cI cZ u) H → va_D A (wT ad cI cZ u) → va_S A s.heap H locs → lv_has ls 2 [(0, .ref (ad 1)), (1, .int x1)] → W p l e ({ frames := 1, cells := 0, slots := 0, locals := 20 } : Room) s m args below meth c H locs 0 0 (MQ below (qqI D vwCl (tyT cI cZ) (wT ad cI cZ u) (p_canBeForged_28 n u x1) A) args s 0 0 A) (F0 m 28 ls []) := by
  obtain ⟨hx, hb, hr, hts, hown, hlocks, hml, hK, hA, hZ⟩ := id Cx
  intro n
  induction n with
  | zero =>
    intro u x1 H locs ls hok
    exact False.elim hok
  | succ n ih =>
    intro u x1 H locs ls hok hP hD hS hl
    unfold ok_canBeForged_28 at hok
    refine lv_iload_n hx hb dX2_canBeForged_28 rfl (lv_at hl 1 rfl) ?_
    refine lv_aload_n hx hb dX2_canBeForged_29 rfl (lv_at hl 0 rfl) ?_
    refine va_get (ci := 2) (v := .int (u.1 0)) (C := RX2) (T := TX2) (N := 7) hx hb hts (ivX2 _) hown hK hP 1 rfl rfl 6 (by decide) (hts _ (tb_c tw_1_44)) (fun _ h9 => h9) rfl dX2_canBeForged_30 ?_
    refine lv_icmp_ge (tgt := 77) hx hb dX2_canBeForged_33 (by decide) (fun c_1 => ?_) (fun c_1 => ?_)
    · have hok := hok.1 c_1
      refine lv_iconst (v := 1) hx hb dX2_canBeForged_77 (by decide) ?_
      have e9 : p_canBeForged_28 (n + 1) u x1 = 1 := by rw [p_canBeForged_28, if_pos c_1]
      rw [e9]
      exact W.zret hx hb hr rfl (fun t ht hW => ⟨⟨_, (), rfl, rfl, by rw [ht]; exact hP, va_K.moved hW.alike hK, hD⟩, hS.F ht⟩) hS.2.2 dX2_canBeForged_78
    · have hok := hok.2 c_1
      refine lv_aload_n hx hb dX2_canBeForged_36 rfl (lv_at hl 0 rfl) ?_
      refine va_get (ci := 2) (v := .ref (ad 4)) (C := RX2) (T := TX2) (N := 7) hx hb hts (ivX2 _) hown hK hP 1 rfl rfl 0 (by decide) (hts _ (tb_c tw_1_26)) (fun _ h9 => h9) rfl dX2_canBeForged_37 ?_
      refine lv_iload_n hx hb dX2_canBeForged_40 rfl (lv_at hl 1 rfl) ?_
      obtain ⟨h_2, hok⟩ := hok
      refine va_iald (f := u.2 0) hx hb hK hP 4 0 rfl rfl h_2 dX2_canBeForged_41 ?_
      refine lv_iconst (v := 4) hx hb dX2_canBeForged_42 (by decide) ?_
      refine lv_icmp_eq (tgt := 56) hx hb dX2_canBeForged_43 (by decide) (fun c_3 => ?_) (fun c_3 => ?_)
      · have hok := hok.1 c_3
        refine lv_aload_n hx hb dX2_canBeForged_56 rfl (lv_at hl 0 rfl) ?_
        refine va_get (ci := 2) (v := .ref (ad 9)) (C := RX2) (T := TX2) (N := 7) hx hb hts (ivX2 _) hown hK hP 1 rfl rfl 5 (by decide) (hts _ (tb_c tw_1_41)) (fun _ h9 => h9) rfl dX2_canBeForged_57 ?_
        refine lv_iload_n hx hb dX2_canBeForged_60 rfl (lv_at hl 1 rfl) ?_
        obtain ⟨h_4, hok⟩ := hok
        refine va_iald (f := u.2 5) hx hb hK hP 9 0 rfl rfl h_4 dX2_canBeForged_61 ?_
        refine lv_aload_n hx hb dX2_canBeForged_62 rfl (lv_at hl 0 rfl) ?_
        refine va_get (ci := 2) (v := .int (u.1 0)) (C := RX2) (T := TX2) (N := 7) hx hb hts (ivX2 _) hown hK hP 1 rfl rfl 6 (by decide) (hts _ (tb_c tw_1_44)) (fun _ h9 => h9) rfl dX2_canBeForged_63 ?_
        refine lv_icmp_lt (tgt := 71) hx hb dX2_canBeForged_66 (by decide) (fun c_5 => ?_) (fun c_5 => ?_)
        · have hok := hok.1 c_5
          refine lv_iinc (v := x1 + 1) (lv' := [(1, .int (x1 + 1)), (0, .ref (ad 1))]) hx hb dX2_canBeForged_71 hl (k := 1) rfl rfl (by decide) rfl (fun ls hl => ?_)
          refine lv_goto (tgt := 28) hx hb dX2_canBeForged_74 (by decide) ?_
          have e9 : p_canBeForged_28 (n + 1) u x1 = p_canBeForged_28 n u (x1 + 1) := by rw [p_canBeForged_28, if_neg c_1, if_pos c_3, if_pos c_5]
          rw [e9]
          exact ih u (x1 + 1) _ _ _ hok hP hD hS (lv_sub hl [1, 0] rfl)
        · have hok := hok.2 c_5
          refine lv_iconst (v := 0) hx hb dX2_canBeForged_69 (by decide) ?_
          have e9 : p_canBeForged_28 (n + 1) u x1 = 0 := by rw [p_canBeForged_28, if_neg c_1, if_pos c_3, if_neg c_5]
          rw [e9]
          exact W.zret hx hb hr rfl (fun t ht hW => ⟨⟨_, (), rfl, rfl, by rw [ht]; exact hP, va_K.moved hW.alike hK, hD⟩, hS.F ht⟩) hS.2.2 dX2_canBeForged_70
      · have hok := hok.2 c_3
        refine lv_aload_n hx hb dX2_canBeForged_46 rfl (lv_at hl 0 rfl) ?_
        refine va_get (ci := 2) (v := .ref (ad 4)) (C := RX2) (T := TX2) (N := 7) hx hb hts (ivX2 _) hown hK hP 1 rfl rfl 0 (by decide) (hts _ (tb_c tw_1_26)) (fun _ h9 => h9) rfl dX2_canBeForged_47 ?_
        refine lv_iload_n hx hb dX2_canBeForged_50 rfl (lv_at hl 1 rfl) ?_
        obtain ⟨h_6, hok⟩ := hok
        refine va_iald (f := u.2 0) hx hb hK hP 4 0 rfl rfl h_6 dX2_canBeForged_51 ?_
        refine lv_iconst (v := 5) hx hb dX2_canBeForged_52 (by decide) ?_
        refine lv_icmp_ne (tgt := 71) hx hb dX2_canBeForged_53 (by decide) (fun c_7 => ?_) (fun c_7 => ?_)
        · have hok := hok.2 c_7
          refine lv_iinc (v := x1 + 1) (lv' := [(1, .int (x1 + 1)), (0, .ref (ad 1))]) hx hb dX2_canBeForged_71 hl (k := 1) rfl rfl (by decide) rfl (fun ls hl => ?_)
          refine lv_goto (tgt := 28) hx hb dX2_canBeForged_74 (by decide) ?_
          have e9 : p_canBeForged_28 (n + 1) u x1 = p_canBeForged_28 n u (x1 + 1) := by rw [p_canBeForged_28, if_neg c_1, if_neg c_3, if_neg c_7]
          rw [e9]
          exact ih u (x1 + 1) _ _ _ hok hP hD hS (lv_sub hl [1, 0] rfl)
        · have hok := hok.1 c_7
          refine lv_aload_n hx hb dX2_canBeForged_56 rfl (lv_at hl 0 rfl) ?_
          refine va_get (ci := 2) (v := .ref (ad 9)) (C := RX2) (T := TX2) (N := 7) hx hb hts (ivX2 _) hown hK hP 1 rfl rfl 5 (by decide) (hts _ (tb_c tw_1_41)) (fun _ h9 => h9) rfl dX2_canBeForged_57 ?_
          refine lv_iload_n hx hb dX2_canBeForged_60 rfl (lv_at hl 1 rfl) ?_
          obtain ⟨h_8, hok⟩ := hok
          refine va_iald (f := u.2 5) hx hb hK hP 9 0 rfl rfl h_8 dX2_canBeForged_61 ?_
          refine lv_aload_n hx hb dX2_canBeForged_62 rfl (lv_at hl 0 rfl) ?_
          refine va_get (ci := 2) (v := .int (u.1 0)) (C := RX2) (T := TX2) (N := 7) hx hb hts (ivX2 _) hown hK hP 1 rfl rfl 6 (by decide) (hts _ (tb_c tw_1_44)) (fun _ h9 => h9) rfl dX2_canBeForged_63 ?_
          refine lv_icmp_lt (tgt := 71) hx hb dX2_canBeForged_66 (by decide) (fun c_9 => ?_) (fun c_9 => ?_)
          · have hok := hok.1 c_9
            refine lv_iinc (v := x1 + 1) (lv' := [(1, .int (x1 + 1)), (0, .ref (ad 1))]) hx hb dX2_canBeForged_71 hl (k := 1) rfl rfl (by decide) rfl (fun ls hl => ?_)
            refine lv_goto (tgt := 28) hx hb dX2_canBeForged_74 (by decide) ?_
            have e9 : p_canBeForged_28 (n + 1) u x1 = p_canBeForged_28 n u (x1 + 1) := by rw [p_canBeForged_28, if_neg c_1, if_neg c_3, if_pos c_7, if_pos c_9]
            rw [e9]
            exact ih u (x1 + 1) _ _ _ hok hP hD hS (lv_sub hl [1, 0] rfl)
          · have hok := hok.2 c_9
            refine lv_iconst (v := 0) hx hb dX2_canBeForged_69 (by decide) ?_
            have e9 : p_canBeForged_28 (n + 1) u x1 = 0 := by rw [p_canBeForged_28, if_neg c_1, if_neg c_3, if_pos c_7, if_neg c_9]
            rw [e9]
            exact W.zret hx hb hr rfl (fun t ht hW => ⟨⟨_, (), rfl, rfl, by rw [ht]; exact hP, va_K.moved hW.alike hK, hD⟩, hS.F ht⟩) hS.2.2 dX2_canBeForged_70
def p_canBeForged (u : St) : Int32 := (if (u.1 0) = 0 then 0 else (if (p_neverGoesOnBehind (u.2 0 ((u.1 0) - 1).toNatClampNeg)) = 0 then 0 else p_canBeForged_28 64 u 0))
def ok_canBeForged (u : St) : Prop := (((u.1 0) = 0 → True) ∧ (¬ (u.1 0) = 0 → (vp_in ((u.1 0) - 1) 48 ∧ (((p_neverGoesOnBehind (u.2 0 ((u.1 0) - 1).toNatClampNeg)) = 0 → True) ∧ (¬ (p_neverGoesOnBehind (u.2 0 ((u.1 0) - 1).toNatClampNeg)) = 0 → ok_canBeForged_28 64 u 0)))))
set_option maxHeartbeats 4000000 in
set_option maxRecDepth 100000 in
theorem c_canBeForged (l : Launch) (D : va_G) (ad : Nat → Nat) (cI cZ : ClassId) (zz : (Nat → Prop) → State → Heap → Prop) (hzz : Zok zz) (tS : Nat) (hst : Zst zz tS) (u : St) (hok : ok_canBeForged u) : tfI l D vwCl (tyT cI cZ) zz yX2_canBeForged wsX2_canBeForged ({ frames := 1, cells := 0, slots := 0, locals := 20 } : Room) [.ref (ad 1)] (wT ad cI cZ u) (p_canBeForged u) (wT ad cI cZ u) := by
  intro sz
  unfold ok_canBeForged at hok
  refine Met.ofW (cc := cX2_canBeForged) (maxL := 2) (ret := (some .boolean)) (by decide) rfl ?_
  intro p e s m args below meth c s₁ B hml hv
  obtain ⟨rfl, hsz, hP, hK, hD0, hZ⟩ := hv
  have hx := B.exec
  have hb := B.bytes
  have hr := B.returns
  have hts := atoms_spec (ws := wsX2_canBeForged) B.pre
  have hown : s.vm.findClass RX2 = some m.cls := findClass_of_methodNamed B.named
  have hlocks := B.notSynchronized
  subst hsz
  have hD := hD0.self (sz := s.heap.size)
  generalize hAe : va_A (wT ad cI cZ u) s.heap.size = A at hD hZ ⊢
  have hA : ∀ q : Nat, s.heap.size ≤ q → A q := fun q h => by rw [← hAe]; exact Or.inr h
  have hS : va_S A s.heap s.heap [] := va_S.rf
  have Cx : cxt p s m ([.ref (ad 1)] : List Value).toArray meth c cX2_canBeForged 2 (some .boolean) wsX2_canBeForged RX2 D vwCl (tyT cI cZ) zz A := ⟨hx, hb, hr, hts, hown, hlocks, hml, hK, hA, hZ⟩
  have hl := lv_entry ([.ref (ad 1)]) (n := 2) (Nat.le_of_ble_eq_true rfl)
  rw [lg_entry_eq]
  generalize (lg_sl ([.ref (ad 1)]) ++ List.replicate (2 - (lg_sl ([.ref (ad 1)])).length) Slot.unset).toArray = ls at hl ⊢
  have hl : lv_has ls 2 [(0, .ref (ad 1))] := hl
  refine lv_aload_n hx hb dX2_canBeForged_0 rfl (lv_at hl 0 rfl) ?_
  refine va_get (ci := 2) (v := .int (u.1 0)) (C := RX2) (T := TX2) (N := 7) hx hb hts (ivX2 _) hown hK hP 1 rfl rfl 6 (by decide) (hts _ (tb_c tw_1_44)) (fun _ h9 => h9) rfl dX2_canBeForged_1 ?_
  refine lv_if_eq (tgt := 24) hx hb dX2_canBeForged_4 (by decide) (fun c_1 => ?_) (fun c_1 => ?_)
  · have hok := hok.1 c_1
    refine lv_iconst (v := 0) hx hb dX2_canBeForged_24 (by decide) ?_
    have e9 : p_canBeForged u = 0 := by rw [p_canBeForged, if_pos c_1]
    rw [e9]
    exact W.zret hx hb hr rfl (fun t ht hW => ⟨⟨_, (), rfl, rfl, by rw [ht]; exact hP, va_K.moved hW.alike hK, hD⟩, hS.F ht⟩) hS.2.2 dX2_canBeForged_25
  · have hok := hok.2 c_1
    refine lv_aload_n hx hb dX2_canBeForged_7 rfl (lv_at hl 0 rfl) ?_
    refine va_get (ci := 2) (v := .ref (ad 4)) (C := RX2) (T := TX2) (N := 7) hx hb hts (ivX2 _) hown hK hP 1 rfl rfl 0 (by decide) (hts _ (tb_c tw_1_26)) (fun _ h9 => h9) rfl dX2_canBeForged_8 ?_
    refine lv_aload_n hx hb dX2_canBeForged_11 rfl (lv_at hl 0 rfl) ?_
    refine va_get (ci := 2) (v := .int (u.1 0)) (C := RX2) (T := TX2) (N := 7) hx hb hts (ivX2 _) hown hK hP 1 rfl rfl 6 (by decide) (hts _ (tb_c tw_1_44)) (fun _ h9 => h9) rfl dX2_canBeForged_12 ?_
    refine lv_iconst (v := 1) hx hb dX2_canBeForged_15 (by decide) ?_
    refine lv_isub hx hb dX2_canBeForged_16 ?_
    obtain ⟨h_2, hok⟩ := hok
    refine va_iald (f := u.2 0) hx hb hK hP 4 0 rfl rfl h_2 dX2_canBeForged_17 ?_
    refine k_callSi (As := [.int (u.2 0 ((u.1 0) - 1).toNatClampNeg)]) (rest := []) hzz ⟨hx, hb, hml, hown, hts⟩ (c_neverGoesOnBehind l D ad cI cZ zz hzz tS hst (wT ad cI cZ u) (u.2 0 ((u.1 0) - 1).toNatClampNeg)) (cwS 1 hts (tb_S tw_2_115 tw_2_116 tw_1_2 tw_2_117) rfl rfl rfl (by decide +kernel) ⟨Nat.le_of_ble_eq_true rfl, Nat.le_of_ble_eq_true rfl⟩) rfl hl.1 rfl (lv_room (Nat.le_of_ble_eq_true rfl)) dX2_canBeForged_18 ⟨Nat.le_of_ble_eq_true rfl, Nat.le_of_ble_eq_true rfl⟩ hP hK hD hS hA hZ (fun H locs hP hD hS => ?_)
    refine lv_if_ne (tgt := 26) hx hb dX2_canBeForged_21 (by decide) (fun c_4 => ?_) (fun c_4 => ?_)
    · have hok := hok.2 c_4
      refine lv_iconst (v := 0) hx hb dX2_canBeForged_26 (by decide) ?_
      refine lv_istore_n (lv' := [(1, .int 0), (0, .ref (ad 1))]) hx hb dX2_canBeForged_27 rfl hl (by decide) rfl (fun ls hl => ?_)
      have e9 : p_canBeForged u = p_canBeForged_28 64 u 0 := by rw [p_canBeForged, if_neg c_1, if_neg c_4]
      rw [e9]
      exact w_canBeForged_28 ad cI cZ zz hzz tS hst Cx 64 u 0 _ _ _ hok hP hD hS (lv_sub hl [1, 0] rfl)
    · have hok := hok.1 c_4
      refine lv_iconst (v := 0) hx hb dX2_canBeForged_24 (by decide) ?_
      have e9 : p_canBeForged u = 0 := by rw [p_canBeForged, if_neg c_1, if_pos c_4]
      rw [e9]
      exact W.zret hx hb hr rfl (fun t ht hW => ⟨⟨_, (), rfl, rfl, by rw [ht]; exact hP, va_K.moved hW.alike hK, hD⟩, hS.F ht⟩) hS.2.2 dX2_canBeForged_25
