set_option maxHeartbeats 4000000 in
set_option maxRecDepth 100000 in
theorem cx_halfword (l : Launch) (hlt : l.stackTraces = false) (D : va_G) (ad : Nat → Nat) (cI cZ : ClassId) (zz : (Nat → Prop) → State → Heap → Prop) (hzz : Zok zz) (tS : Nat) (hst : Zst zz tS) (hxs : Zxs zz) (u : St) (x1 : Int32) (hok : ok_halfword u x1) (hc : ¬ (p_halfword u x1).1 = 0) : txI l D vwCl (tyT cI cZ) zz yX3_halfword wsX3_halfword ({ frames := 6, cells := 1, slots := 6, locals := 90 } : Room) [.ref (ad 0), .int x1] (wT ad cI cZ u) (p_halfword u x1).1 (p_halfword u x1).2.1 (wT ad cI cZ ((p_halfword u x1).2.2)) 1 6 := by
  intro sz
  unfold ok_halfword at hok
  refine vx_ofW (cc := cX3_halfword) (maxL := 2) (ret := (some .int)) (by decide) rfl ?_
  intro p e s m args below meth c s₁ B hml hNo hv
  obtain ⟨rfl, hsz, hP, hK, hD0, hZ⟩ := hv
  have hx := B.exec
  have hb := B.bytes
  have hr := B.returns
  have hts := atoms_spec (ws := wsX3_halfword) B.pre
  have hown : s.vm.findClass RX3 = some m.cls := findClass_of_methodNamed B.named
  have hlocks := B.notSynchronized
  subst hsz
  have hD := hD0.self (sz := s.heap.size)
  generalize hAe : va_A (wT ad cI cZ u) s.heap.size = A at hD hZ ⊢
  have hA : ∀ q : Nat, s.heap.size ≤ q → A q := fun q h => by rw [← hAe]; exact Or.inr h
  have hS : va_S A s.heap s.heap [] := va_S.rf
  have hl := lv_entry ([.ref (ad 0), .int x1]) (n := 2) (Nat.le_of_ble_eq_true rfl)
  rw [lg_entry_eq]
  generalize (lg_sl ([.ref (ad 0), .int x1]) ++ List.replicate (2 - (lg_sl ([.ref (ad 0), .int x1])).length) Slot.unset).toArray = ls at hl ⊢
  have hl : lv_has ls 2 [(0, .ref (ad 0)), (1, .int x1)] := hl
  refine lv_aload_n hx hb dX3_halfword_0 rfl (lv_at hl 0 rfl) ?_
  refine va_get (ci := 3) (v := .ref (ad 2)) (C := RX3) (T := TX3) (N := 3) hx hb hts (ivX3 _) hown hK hP 0 rfl rfl 1 (by decide) (hts _ (tb_c tw_1_144)) (fun _ h9 => h9) rfl dX3_halfword_1 ?_
  refine va_get (ci := 0) (v := .int (u.1 4)) (C := RX0) (T := TX0) (N := 9) hx hb hts (ivX0 _) hown hK hP 2 rfl rfl 8 (by decide) (hts _ (tb_c tw_1_82)) (fun _ h9 => h9) rfl dX3_halfword_4 ?_
  refine lv_if_eq (tgt := 25) hx hb dX3_halfword_7 (by decide) (fun c_1 => ?_) (fun c_1 => ?_)
  · have hok := hok.1 c_1
    have e9 : p_halfword u x1 = (3, 0, u) := by rw [p_halfword, if_pos c_1]
    rw [e9]
    have hX := hxs _ _ _ hZ
    obtain ⟨sa, hsa⟩ := hX.2.2.1 (91, "no such halfword") (by decide)
    exact vx_throwN (own := RX3) (cls := "java/util/NoSuchElementException") (names := xEN) hx hb hlt hown xfit3 xfit (hts _ (tb_c tw_2_225)) (hts _ (tb_c tw_1_11)) hsa (xhat3 hts hX.2.2.2) xgood3 hX.1 hX.2.1 hS (hl.1.trans hml.symm) dX3_halfword_25 dX3_halfword_28 dX3_halfword_29 dX3_halfword_31 dX3_halfword_34 (fun x h => (hNo x h).elim) (Nat.le_of_ble_eq_true rfl) (Nat.le_of_ble_eq_true rfl) (Nat.le_of_ble_eq_true rfl) (Nat.le_of_ble_eq_true rfl) hlocks (fun t ha hsz hk => ⟨(), (show ¬ (3 : Nat) = 0 by decide), ⟨rfl, hP.kept (fun k q hq => hk q.1 (hP k q hq).lt), va_K.moved ha hK, hD⟩, Nat.le_trans hS.1 hsz, fun q h1 h2 => (hk q (Nat.lt_of_lt_of_le h1 hS.1)).trans (hS.2.1 q h1 h2)⟩) hS.2.2 (by decide) (by decide)
  · have hok := hok.2 c_1
    refine lv_iload_n hx hb dX3_halfword_10 rfl (lv_at hl 1 rfl) ?_
    refine lv_if_lt (tgt := 25) hx hb dX3_halfword_11 (by decide) (fun c_2 => ?_) (fun c_2 => ?_)
    · have hok := hok.1 c_2
      have e9 : p_halfword u x1 = (3, 0, u) := by rw [p_halfword, if_neg c_1, if_pos c_2]
      rw [e9]
      have hX := hxs _ _ _ hZ
      obtain ⟨sa, hsa⟩ := hX.2.2.1 (91, "no such halfword") (by decide)
      exact vx_throwN (own := RX3) (cls := "java/util/NoSuchElementException") (names := xEN) hx hb hlt hown xfit3 xfit (hts _ (tb_c tw_2_225)) (hts _ (tb_c tw_1_11)) hsa (xhat3 hts hX.2.2.2) xgood3 hX.1 hX.2.1 hS (hl.1.trans hml.symm) dX3_halfword_25 dX3_halfword_28 dX3_halfword_29 dX3_halfword_31 dX3_halfword_34 (fun x h => (hNo x h).elim) (Nat.le_of_ble_eq_true rfl) (Nat.le_of_ble_eq_true rfl) (Nat.le_of_ble_eq_true rfl) (Nat.le_of_ble_eq_true rfl) hlocks (fun t ha hsz hk => ⟨(), (show ¬ (3 : Nat) = 0 by decide), ⟨rfl, hP.kept (fun k q hq => hk q.1 (hP k q hq).lt), va_K.moved ha hK, hD⟩, Nat.le_trans hS.1 hsz, fun q h1 h2 => (hk q (Nat.lt_of_lt_of_le h1 hS.1)).trans (hS.2.1 q h1 h2)⟩) hS.2.2 (by decide) (by decide)
    · have hok := hok.2 c_2
      refine lv_iload_n hx hb dX3_halfword_14 rfl (lv_at hl 1 rfl) ?_
      refine lv_aload_n hx hb dX3_halfword_15 rfl (lv_at hl 0 rfl) ?_
      refine va_get (ci := 3) (v := .ref (ad 2)) (C := RX3) (T := TX3) (N := 3) hx hb hts (ivX3 _) hown hK hP 0 rfl rfl 1 (by decide) (hts _ (tb_c tw_1_144)) (fun _ h9 => h9) rfl dX3_halfword_16 ?_
      refine va_get (ci := 0) (v := .int (u.1 3)) (C := RX0) (T := TX0) (N := 9) hx hb hts (ivX0 _) hown hK hP 2 rfl rfl 7 (by decide) (hts _ (tb_c tw_1_80)) (fun _ h9 => h9) rfl dX3_halfword_19 ?_
      refine lv_icmp_lt (tgt := 35) hx hb dX3_halfword_22 (by decide) (fun c_3 => ?_) (fun c_3 => ?_)
      · have hok := hok.1 c_3
        refine lv_aload_n hx hb dX3_halfword_35 rfl (lv_at hl 0 rfl) ?_
        refine va_get (ci := 3) (v := .ref (ad 2)) (C := RX3) (T := TX3) (N := 3) hx hb hts (ivX3 _) hown hK hP 0 rfl rfl 1 (by decide) (hts _ (tb_c tw_1_144)) (fun _ h9 => h9) rfl dX3_halfword_36 ?_
        refine va_get (ci := 0) (v := .ref (ad 10)) (C := RX0) (T := TX0) (N := 9) hx hb hts (ivX0 _) hown hK hP 2 rfl rfl 1 (by decide) (hts _ (tb_c tw_1_71)) (fun _ h9 => h9) rfl dX3_halfword_39 ?_
        refine lv_iload_n hx hb dX3_halfword_42 rfl (lv_at hl 1 rfl) ?_
        obtain ⟨h_4, hok⟩ := hok
        refine va_iald (f := u.2 6) hx hb hK hP 10 0 rfl rfl h_4 dX3_halfword_43 ?_
        have e9 : p_halfword u x1 = (0, u.2 6 x1.toNatClampNeg, u) := by rw [p_halfword, if_neg c_1, if_neg c_2, if_pos c_3]
        rw [e9] at hc
        exact absurd rfl hc
      · have hok := hok.2 c_3
        have e9 : p_halfword u x1 = (3, 0, u) := by rw [p_halfword, if_neg c_1, if_neg c_2, if_neg c_3]
        rw [e9]
        have hX := hxs _ _ _ hZ
        obtain ⟨sa, hsa⟩ := hX.2.2.1 (91, "no such halfword") (by decide)
        exact vx_throwN (own := RX3) (cls := "java/util/NoSuchElementException") (names := xEN) hx hb hlt hown xfit3 xfit (hts _ (tb_c tw_2_225)) (hts _ (tb_c tw_1_11)) hsa (xhat3 hts hX.2.2.2) xgood3 hX.1 hX.2.1 hS (hl.1.trans hml.symm) dX3_halfword_25 dX3_halfword_28 dX3_halfword_29 dX3_halfword_31 dX3_halfword_34 (fun x h => (hNo x h).elim) (Nat.le_of_ble_eq_true rfl) (Nat.le_of_ble_eq_true rfl) (Nat.le_of_ble_eq_true rfl) (Nat.le_of_ble_eq_true rfl) hlocks (fun t ha hsz hk => ⟨(), (show ¬ (3 : Nat) = 0 by decide), ⟨rfl, hP.kept (fun k q hq => hk q.1 (hP k q hq).lt), va_K.moved ha hK, hD⟩, Nat.le_trans hS.1 hsz, fun q h1 h2 => (hk q (Nat.lt_of_lt_of_le h1 hS.1)).trans (hS.2.1 q h1 h2)⟩) hS.2.2 (by decide) (by decide)

set_option maxHeartbeats 4000000 in
set_option maxRecDepth 100000 in
theorem cx_place (l : Launch) (hlt : l.stackTraces = false) (D : va_G) (ad : Nat → Nat) (cI cZ : ClassId) (zz : (Nat → Prop) → State → Heap → Prop) (hzz : Zok zz) (tS : Nat) (hst : Zst zz tS) (hxs : Zxs zz) (u : St) (x1 : Int32) (hok : ok_place u x1) (hc : ¬ (p_place u x1).1 = 0) : txI l D vwCl (tyT cI cZ) zz yX3_place wsX3_place ({ frames := 6, cells := 1, slots := 6, locals := 90 } : Room) [.ref (ad 0), .int x1] (wT ad cI cZ u) (p_place u x1).1 (p_place u x1).2.1 (wT ad cI cZ ((p_place u x1).2.2)) 1 6 := by
  intro sz
  unfold ok_place at hok
  refine vx_ofW (cc := cX3_place) (maxL := 2) (ret := (some .int)) (by decide) rfl ?_
  intro p e s m args below meth c s₁ B hml hNo hv
  obtain ⟨rfl, hsz, hP, hK, hD0, hZ⟩ := hv
  have hx := B.exec
  have hb := B.bytes
  have hr := B.returns
  have hts := atoms_spec (ws := wsX3_place) B.pre
  have hown : s.vm.findClass RX3 = some m.cls := findClass_of_methodNamed B.named
  have hlocks := B.notSynchronized
  subst hsz
  have hD := hD0.self (sz := s.heap.size)
  generalize hAe : va_A (wT ad cI cZ u) s.heap.size = A at hD hZ ⊢
  have hA : ∀ q : Nat, s.heap.size ≤ q → A q := fun q h => by rw [← hAe]; exact Or.inr h
  have hS : va_S A s.heap s.heap [] := va_S.rf
  have hl := lv_entry ([.ref (ad 0), .int x1]) (n := 2) (Nat.le_of_ble_eq_true rfl)
  rw [lg_entry_eq]
  generalize (lg_sl ([.ref (ad 0), .int x1]) ++ List.replicate (2 - (lg_sl ([.ref (ad 0), .int x1])).length) Slot.unset).toArray = ls at hl ⊢
  have hl : lv_has ls 2 [(0, .ref (ad 0)), (1, .int x1)] := hl
  refine lv_aload_n hx hb dX3_place_0 rfl (lv_at hl 0 rfl) ?_
  refine va_get (ci := 3) (v := .ref (ad 2)) (C := RX3) (T := TX3) (N := 3) hx hb hts (ivX3 _) hown hK hP 0 rfl rfl 1 (by decide) (hts _ (tb_c tw_1_144)) (fun _ h9 => h9) rfl dX3_place_1 ?_
  refine va_get (ci := 0) (v := .int (u.1 4)) (C := RX0) (T := TX0) (N := 9) hx hb hts (ivX0 _) hown hK hP 2 rfl rfl 8 (by decide) (hts _ (tb_c tw_1_82)) (fun _ h9 => h9) rfl dX3_place_4 ?_
  refine lv_if_eq (tgt := 25) hx hb dX3_place_7 (by decide) (fun c_1 => ?_) (fun c_1 => ?_)
  · have hok := hok.1 c_1
    have e9 : p_place u x1 = (3, 0, u) := by rw [p_place, if_pos c_1]
    rw [e9]
    have hX := hxs _ _ _ hZ
    obtain ⟨sa, hsa⟩ := hX.2.2.1 (101, "no such place") (by decide)
    exact vx_throwN (own := RX3) (cls := "java/util/NoSuchElementException") (names := xEN) hx hb hlt hown xfit3 xfit (hts _ (tb_c tw_2_225)) (hts _ (tb_c tw_1_11)) hsa (xhat3 hts hX.2.2.2) xgood3 hX.1 hX.2.1 hS (hl.1.trans hml.symm) dX3_place_25 dX3_place_28 dX3_place_29 dX3_place_31 dX3_place_34 (fun x h => (hNo x h).elim) (Nat.le_of_ble_eq_true rfl) (Nat.le_of_ble_eq_true rfl) (Nat.le_of_ble_eq_true rfl) (Nat.le_of_ble_eq_true rfl) hlocks (fun t ha hsz hk => ⟨(), (show ¬ (3 : Nat) = 0 by decide), ⟨rfl, hP.kept (fun k q hq => hk q.1 (hP k q hq).lt), va_K.moved ha hK, hD⟩, Nat.le_trans hS.1 hsz, fun q h1 h2 => (hk q (Nat.lt_of_lt_of_le h1 hS.1)).trans (hS.2.1 q h1 h2)⟩) hS.2.2 (by decide) (by decide)
  · have hok := hok.2 c_1
    refine lv_iload_n hx hb dX3_place_10 rfl (lv_at hl 1 rfl) ?_
    refine lv_if_lt (tgt := 25) hx hb dX3_place_11 (by decide) (fun c_2 => ?_) (fun c_2 => ?_)
    · have hok := hok.1 c_2
      have e9 : p_place u x1 = (3, 0, u) := by rw [p_place, if_neg c_1, if_pos c_2]
      rw [e9]
      have hX := hxs _ _ _ hZ
      obtain ⟨sa, hsa⟩ := hX.2.2.1 (101, "no such place") (by decide)
      exact vx_throwN (own := RX3) (cls := "java/util/NoSuchElementException") (names := xEN) hx hb hlt hown xfit3 xfit (hts _ (tb_c tw_2_225)) (hts _ (tb_c tw_1_11)) hsa (xhat3 hts hX.2.2.2) xgood3 hX.1 hX.2.1 hS (hl.1.trans hml.symm) dX3_place_25 dX3_place_28 dX3_place_29 dX3_place_31 dX3_place_34 (fun x h => (hNo x h).elim) (Nat.le_of_ble_eq_true rfl) (Nat.le_of_ble_eq_true rfl) (Nat.le_of_ble_eq_true rfl) (Nat.le_of_ble_eq_true rfl) hlocks (fun t ha hsz hk => ⟨(), (show ¬ (3 : Nat) = 0 by decide), ⟨rfl, hP.kept (fun k q hq => hk q.1 (hP k q hq).lt), va_K.moved ha hK, hD⟩, Nat.le_trans hS.1 hsz, fun q h1 h2 => (hk q (Nat.lt_of_lt_of_le h1 hS.1)).trans (hS.2.1 q h1 h2)⟩) hS.2.2 (by decide) (by decide)
    · have hok := hok.2 c_2
      refine lv_iload_n hx hb dX3_place_14 rfl (lv_at hl 1 rfl) ?_
      refine lv_aload_n hx hb dX3_place_15 rfl (lv_at hl 0 rfl) ?_
      refine va_get (ci := 3) (v := .ref (ad 1)) (C := RX3) (T := TX3) (N := 3) hx hb hts (ivX3 _) hown hK hP 0 rfl rfl 0 (by decide) (hts _ (tb_c tw_1_143)) (fun _ h9 => h9) rfl dX3_place_16 ?_
      refine va_get (ci := 2) (v := .int (u.1 0)) (C := RX2) (T := TX2) (N := 7) hx hb hts (ivX2 _) hown hK hP 1 rfl rfl 6 (by decide) (hts _ (tb_c tw_1_46)) (fun _ h9 => h9) rfl dX3_place_19 ?_
      refine lv_icmp_lt (tgt := 35) hx hb dX3_place_22 (by decide) (fun c_3 => ?_) (fun c_3 => ?_)
      · have hok := hok.1 c_3
        refine lv_aload_n hx hb dX3_place_35 rfl (lv_at hl 0 rfl) ?_
        refine va_get (ci := 3) (v := .ref (ad 2)) (C := RX3) (T := TX3) (N := 3) hx hb hts (ivX3 _) hown hK hP 0 rfl rfl 1 (by decide) (hts _ (tb_c tw_1_144)) (fun _ h9 => h9) rfl dX3_place_36 ?_
        refine va_get (ci := 0) (v := .ref (ad 11)) (C := RX0) (T := TX0) (N := 9) hx hb hts (ivX0 _) hown hK hP 2 rfl rfl 2 (by decide) (hts _ (tb_c tw_1_73)) (fun _ h9 => h9) rfl dX3_place_39 ?_
        refine lv_iload_n hx hb dX3_place_42 rfl (lv_at hl 1 rfl) ?_
        obtain ⟨h_4, hok⟩ := hok
        refine va_iald (f := u.2 7) hx hb hK hP 11 0 rfl rfl h_4 dX3_place_43 ?_
        have e9 : p_place u x1 = (0, u.2 7 x1.toNatClampNeg, u) := by rw [p_place, if_neg c_1, if_neg c_2, if_pos c_3]
        rw [e9] at hc
        exact absurd rfl hc
      · have hok := hok.2 c_3
        have e9 : p_place u x1 = (3, 0, u) := by rw [p_place, if_neg c_1, if_neg c_2, if_neg c_3]
        rw [e9]
        have hX := hxs _ _ _ hZ
        obtain ⟨sa, hsa⟩ := hX.2.2.1 (101, "no such place") (by decide)
        exact vx_throwN (own := RX3) (cls := "java/util/NoSuchElementException") (names := xEN) hx hb hlt hown xfit3 xfit (hts _ (tb_c tw_2_225)) (hts _ (tb_c tw_1_11)) hsa (xhat3 hts hX.2.2.2) xgood3 hX.1 hX.2.1 hS (hl.1.trans hml.symm) dX3_place_25 dX3_place_28 dX3_place_29 dX3_place_31 dX3_place_34 (fun x h => (hNo x h).elim) (Nat.le_of_ble_eq_true rfl) (Nat.le_of_ble_eq_true rfl) (Nat.le_of_ble_eq_true rfl) (Nat.le_of_ble_eq_true rfl) hlocks (fun t ha hsz hk => ⟨(), (show ¬ (3 : Nat) = 0 by decide), ⟨rfl, hP.kept (fun k q hq => hk q.1 (hP k q hq).lt), va_K.moved ha hK, hD⟩, Nat.le_trans hS.1 hsz, fun q h1 h2 => (hk q (Nat.lt_of_lt_of_le h1 hS.1)).trans (hS.2.1 q h1 h2)⟩) hS.2.2 (by decide) (by decide)

set_option maxHeartbeats 4000000 in
set_option maxRecDepth 100000 in
theorem cx_output (l : Launch) (hlt : l.stackTraces = false) (D : va_G) (ad : Nat → Nat) (cI cZ : ClassId) (zz : (Nat → Prop) → State → Heap → Prop) (hzz : Zok zz) (tS : Nat) (hst : Zst zz tS) (hxs : Zxs zz) (u : St) (x1 : Int32) (hok : ok_output u x1) (hc : ¬ (p_output u x1).1 = 0) : txI l D vwCl (tyT cI cZ) zz yX3_output wsX3_output ({ frames := 6, cells := 1, slots := 6, locals := 90 } : Room) [.ref (ad 0), .int x1] (wT ad cI cZ u) (p_output u x1).1 (p_output u x1).2.1 (wT ad cI cZ ((p_output u x1).2.2)) 1 6 := by
  intro sz
  unfold ok_output at hok
  refine vx_ofW (cc := cX3_output) (maxL := 2) (ret := (some .int)) (by decide) rfl ?_
  intro p e s m args below meth c s₁ B hml hNo hv
  obtain ⟨rfl, hsz, hP, hK, hD0, hZ⟩ := hv
  have hx := B.exec
  have hb := B.bytes
  have hr := B.returns
  have hts := atoms_spec (ws := wsX3_output) B.pre
  have hown : s.vm.findClass RX3 = some m.cls := findClass_of_methodNamed B.named
  have hlocks := B.notSynchronized
  subst hsz
  have hD := hD0.self (sz := s.heap.size)
  generalize hAe : va_A (wT ad cI cZ u) s.heap.size = A at hD hZ ⊢
  have hA : ∀ q : Nat, s.heap.size ≤ q → A q := fun q h => by rw [← hAe]; exact Or.inr h
  have hS : va_S A s.heap s.heap [] := va_S.rf
  have hl := lv_entry ([.ref (ad 0), .int x1]) (n := 2) (Nat.le_of_ble_eq_true rfl)
  rw [lg_entry_eq]
  generalize (lg_sl ([.ref (ad 0), .int x1]) ++ List.replicate (2 - (lg_sl ([.ref (ad 0), .int x1])).length) Slot.unset).toArray = ls at hl ⊢
  have hl : lv_has ls 2 [(0, .ref (ad 0)), (1, .int x1)] := hl
  refine lv_aload_n hx hb dX3_output_0 rfl (lv_at hl 0 rfl) ?_
  refine va_get (ci := 3) (v := .ref (ad 3)) (C := RX3) (T := TX3) (N := 3) hx hb hts (ivX3 _) hown hK hP 0 rfl rfl 2 (by decide) (hts _ (tb_c tw_1_145)) (fun _ h9 => h9) rfl dX3_output_1 ?_
  refine lv_iload_n hx hb dX3_output_4 rfl (lv_at hl 1 rfl) ?_
  refine k_callVi (As := [.int x1]) (rest := []) hzz ⟨hx, hb, hml, hown, hts⟩ (c_keeps l D ad cI cZ zz hzz tS hst u x1) (cwV 1 hts (tb_V tw_3_86 tw_3_87 tw_3_88 tw_1_4 tw_3_89) rfl rfl rfl (by decide +kernel) ⟨Nat.le_of_ble_eq_true rfl, Nat.le_of_ble_eq_true rfl⟩) (va_recv hK hP (ci := 1) (q0 := 3) rfl rfl) rfl hl.1 rfl (lv_room (Nat.le_of_ble_eq_true rfl)) dX3_output_5 ⟨Nat.le_of_ble_eq_true rfl, Nat.le_of_ble_eq_true rfl⟩ hP hK hD hS hA hZ (fun H locs hP hD hS => ?_)
  refine lv_if_ne (tgt := 21) hx hb dX3_output_8 (by decide) (fun c_2 => ?_) (fun c_2 => ?_)
  · have hok := hok.2 c_2
    refine lv_aload_n hx hb dX3_output_21 rfl (lv_at hl 0 rfl) ?_
    refine va_get (ci := 3) (v := .ref (ad 3)) (C := RX3) (T := TX3) (N := 3) hx hb hts (ivX3 _) hown hK hP 0 rfl rfl 2 (by decide) (hts _ (tb_c tw_1_145)) (fun _ h9 => h9) rfl dX3_output_22 ?_
    refine lv_iload_n hx hb dX3_output_25 rfl (lv_at hl 1 rfl) ?_
    obtain ⟨h_3, hok⟩ := hok
    refine k_callVi (As := [.int x1]) (rest := []) hzz ⟨hx, hb, hml, hown, hts⟩ (c_keptOutput l D ad cI cZ zz hzz tS hst u x1 h_3) (cwV 1 hts (tb_V tw_3_91 tw_3_92 tw_3_93 tw_1_4 tw_3_94) rfl rfl rfl (by decide +kernel) ⟨Nat.le_of_ble_eq_true rfl, Nat.le_of_ble_eq_true rfl⟩) (va_recv hK hP (ci := 1) (q0 := 3) rfl rfl) rfl hl.1 rfl (lv_room (Nat.le_of_ble_eq_true rfl)) dX3_output_26 ⟨Nat.le_of_ble_eq_true rfl, Nat.le_of_ble_eq_true rfl⟩ hP hK hD hS hA hZ (fun H locs hP hD hS => ?_)
    have e9 : p_output u x1 = (0, p_keptOutput u x1, u) := by rw [p_output, if_neg c_2]
    rw [e9] at hc
    exact absurd rfl hc
  · have hok := hok.1 c_2
    have e9 : p_output u x1 = (3, 0, u) := by rw [p_output, if_pos c_2]
    rw [e9]
    have hX := hxs _ _ _ hZ
    obtain ⟨sa, hsa⟩ := hX.2.2.1 (145, "no such output") (by decide)
    exact vx_throwN (own := RX3) (cls := "java/util/NoSuchElementException") (names := xEN) hx hb hlt hown xfit3 xfit (hts _ (tb_c tw_2_225)) (hts _ (tb_c tw_1_11)) hsa (xhat3 hts hX.2.2.2) xgood3 hX.1 hX.2.1 hS (hl.1.trans hml.symm) dX3_output_11 dX3_output_14 dX3_output_15 dX3_output_17 dX3_output_20 (fun x h => (hNo x h).elim) (Nat.le_of_ble_eq_true rfl) (Nat.le_of_ble_eq_true rfl) (Nat.le_of_ble_eq_true rfl) (Nat.le_of_ble_eq_true rfl) hlocks (fun t ha hsz hk => ⟨(), (show ¬ (3 : Nat) = 0 by decide), ⟨rfl, hP.kept (fun k q hq => hk q.1 (hP k q hq).lt), va_K.moved ha hK, hD⟩, Nat.le_trans hS.1 hsz, fun q h1 h2 => (hk q (Nat.lt_of_lt_of_le h1 hS.1)).trans (hS.2.1 q h1 h2)⟩) hS.2.2 (by decide) (by decide)
