def p_needVariable (x0 : Int32) : Nat := (if x0 < 0 then 1 else (if x0 < 8 then 0 else 1))
set_option maxHeartbeats 4000000 in
set_option maxRecDepth 100000 in
theorem cr_needVariable (l : Launch) (D : va_G) (ad : Nat → Nat) (cI cZ : ClassId) (zz : (Nat → Prop) → State → Heap → Prop) (hzz : Zok zz) (tS : Nat) (hst : Zst zz tS) (w : va_W) (x0 : Int32) (hc : (p_needVariable x0) = 0) : tfV l D vwCl (tyT cI cZ) zz yX3_needVariable wsX3_needVariable ({ frames := 6, cells := 0, slots := 0, locals := 90 } : Room) [.int x0] w w := by
  intro sz
  refine Met.ofW (cc := cX3_needVariable) (maxL := 1) (ret := none) (by decide) rfl ?_
  intro p e s m args below meth c s₁ B hml hv
  obtain ⟨rfl, hsz, hP, hK, hD0, hZ⟩ := hv
  have hx := B.exec
  have hb := B.bytes
  have hr := B.returns
  have hts := atoms_spec (ws := wsX3_needVariable) B.pre
  have hown : s.vm.findClass RX3 = some m.cls := findClass_of_methodNamed B.named
  have hlocks := B.notSynchronized
  subst hsz
  have hD := hD0.self (sz := s.heap.size)
  generalize hAe : va_A w s.heap.size = A at hD hZ ⊢
  have hA : ∀ q : Nat, s.heap.size ≤ q → A q := fun q h => by rw [← hAe]; exact Or.inr h
  have hS : va_S A s.heap s.heap [] := va_S.rf
  have hl := lv_entry ([.int x0]) (n := 1) (Nat.le_of_ble_eq_true rfl)
  rw [lg_entry_eq]
  generalize (lg_sl ([.int x0]) ++ List.replicate (1 - (lg_sl ([.int x0])).length) Slot.unset).toArray = ls at hl ⊢
  have hl : lv_has ls 1 [(0, .int x0)] := hl
  refine lv_iload_n hx hb dX3_needVariable_0 rfl (lv_at hl 0 rfl) ?_
  refine lv_if_lt (tgt := 10) hx hb dX3_needVariable_1 (by decide) (fun c_1 => ?_) (fun c_1 => ?_)
  · skip
    have e9 : p_needVariable x0 = 1 := by rw [p_needVariable, if_pos c_1]
    rw [e9] at hc
    exact absurd hc (show ¬ (1 : Nat) = 0 by decide)
  · skip
    refine lv_iload_n hx hb dX3_needVariable_4 rfl (lv_at hl 0 rfl) ?_
    refine lv_bipush (v := 8) hx hb dX3_needVariable_5 (by decide) ?_
    refine lv_icmp_lt (tgt := 20) hx hb dX3_needVariable_7 (by decide) (fun c_2 => ?_) (fun c_2 => ?_)
    · skip
      have e9 : p_needVariable x0 = 0 := by rw [p_needVariable, if_neg c_1, if_pos c_2]
      try rw [e9]
      exact W.vret hx hb hr (fun t ht hW => ⟨⟨(), rfl, trivial, by rw [ht]; exact hP, va_K.moved hW.alike hK, hD⟩, hS.F ht⟩) hS.2.2 dX3_needVariable_20
    · skip
      have e9 : p_needVariable x0 = 1 := by rw [p_needVariable, if_neg c_1, if_neg c_2]
      rw [e9] at hc
      exact absurd hc (show ¬ (1 : Nat) = 0 by decide)
set_option maxHeartbeats 4000000 in
set_option maxRecDepth 100000 in
theorem cx_needVariable (l : Launch) (hlt : l.stackTraces = false) (D : va_G) (ad : Nat → Nat) (cI cZ : ClassId) (zz : (Nat → Prop) → State → Heap → Prop) (hzz : Zok zz) (tS : Nat) (hst : Zst zz tS) (hxs : Zxs zz) (w : va_W) (x0 : Int32) (hc : ¬ (p_needVariable x0) = 0) : txV l D vwCl (tyT cI cZ) zz yX3_needVariable wsX3_needVariable ({ frames := 6, cells := 1, slots := 6, locals := 90 } : Room) [.int x0] w (p_needVariable x0) w 1 6 := by
  intro sz
  refine vx_ofW (cc := cX3_needVariable) (maxL := 1) (ret := none) (by decide) rfl ?_
  intro p e s m args below meth c s₁ B hml hNo hv
  obtain ⟨rfl, hsz, hP, hK, hD0, hZ⟩ := hv
  have hx := B.exec
  have hb := B.bytes
  have hr := B.returns
  have hts := atoms_spec (ws := wsX3_needVariable) B.pre
  have hown : s.vm.findClass RX3 = some m.cls := findClass_of_methodNamed B.named
  have hlocks := B.notSynchronized
  subst hsz
  have hD := hD0.self (sz := s.heap.size)
  generalize hAe : va_A w s.heap.size = A at hD hZ ⊢
  have hA : ∀ q : Nat, s.heap.size ≤ q → A q := fun q h => by rw [← hAe]; exact Or.inr h
  have hS : va_S A s.heap s.heap [] := va_S.rf
  have hl := lv_entry ([.int x0]) (n := 1) (Nat.le_of_ble_eq_true rfl)
  rw [lg_entry_eq]
  generalize (lg_sl ([.int x0]) ++ List.replicate (1 - (lg_sl ([.int x0])).length) Slot.unset).toArray = ls at hl ⊢
  have hl : lv_has ls 1 [(0, .int x0)] := hl
  refine lv_iload_n hx hb dX3_needVariable_0 rfl (lv_at hl 0 rfl) ?_
  refine lv_if_lt (tgt := 10) hx hb dX3_needVariable_1 (by decide) (fun c_1 => ?_) (fun c_1 => ?_)
  · skip
    have e9 : p_needVariable x0 = 1 := by rw [p_needVariable, if_pos c_1]
    rw [e9]
    have hX := hxs _ _ _ hZ
    obtain ⟨sa, hsa⟩ := hX.2.2.1 (155, "no such variable") (by decide)
    exact vx_throwS (own := RX3) (cls := "java/lang/IllegalArgumentException") (names := xEN) hx hb hlt hown xfit1 xfit (hts _ (tb_c tw_1_193)) (hts _ (tb_c tw_1_9)) hsa (xhat1 hts hX.2.2.2) xgood1 hX.1 hX.2.1 hS (hl.1.trans hml.symm) dX3_needVariable_10 dX3_needVariable_13 dX3_needVariable_14 dX3_needVariable_16 dX3_needVariable_19 (fun x h => (hNo x h).elim) (Nat.le_of_ble_eq_true rfl) (Nat.le_of_ble_eq_true rfl) (Nat.le_of_ble_eq_true rfl) (Nat.le_of_ble_eq_true rfl) hlocks (fun t ha hsz hk => ⟨(), (show ¬ (1 : Nat) = 0 by decide), ⟨rfl, hP.kept (fun k q hq => hk q.1 (hP k q hq).lt), va_K.moved ha hK, hD⟩, Nat.le_trans hS.1 hsz, fun q h1 h2 => (hk q (Nat.lt_of_lt_of_le h1 hS.1)).trans (hS.2.1 q h1 h2)⟩) hS.2.2 (by decide) (by decide)
  · skip
    refine lv_iload_n hx hb dX3_needVariable_4 rfl (lv_at hl 0 rfl) ?_
    refine lv_bipush (v := 8) hx hb dX3_needVariable_5 (by decide) ?_
    refine lv_icmp_lt (tgt := 20) hx hb dX3_needVariable_7 (by decide) (fun c_2 => ?_) (fun c_2 => ?_)
    · skip
      have e9 : p_needVariable x0 = 0 := by rw [p_needVariable, if_neg c_1, if_pos c_2]
      rw [e9] at hc
      exact absurd rfl hc
    · skip
      have e9 : p_needVariable x0 = 1 := by rw [p_needVariable, if_neg c_1, if_neg c_2]
      rw [e9]
      have hX := hxs _ _ _ hZ
      obtain ⟨sa, hsa⟩ := hX.2.2.1 (155, "no such variable") (by decide)
      exact vx_throwS (own := RX3) (cls := "java/lang/IllegalArgumentException") (names := xEN) hx hb hlt hown xfit1 xfit (hts _ (tb_c tw_1_193)) (hts _ (tb_c tw_1_9)) hsa (xhat1 hts hX.2.2.2) xgood1 hX.1 hX.2.1 hS (hl.1.trans hml.symm) dX3_needVariable_10 dX3_needVariable_13 dX3_needVariable_14 dX3_needVariable_16 dX3_needVariable_19 (fun x h => (hNo x h).elim) (Nat.le_of_ble_eq_true rfl) (Nat.le_of_ble_eq_true rfl) (Nat.le_of_ble_eq_true rfl) (Nat.le_of_ble_eq_true rfl) hlocks (fun t ha hsz hk => ⟨(), (show ¬ (1 : Nat) = 0 by decide), ⟨rfl, hP.kept (fun k q hq => hk q.1 (hP k q hq).lt), va_K.moved ha hK, hD⟩, Nat.le_trans hS.1 hsz, fun q h1 h2 => (hk q (Nat.lt_of_lt_of_le h1 hS.1)).trans (hS.2.1 q h1 h2)⟩) hS.2.2 (by decide) (by decide)

def p_needTarget (x0 : Int32) : Nat := (if x0 < 0 then 1 else (if x0 < 48 then 0 else 1))
set_option maxHeartbeats 4000000 in
set_option maxRecDepth 100000 in
theorem cr_needTarget (l : Launch) (D : va_G) (ad : Nat → Nat) (cI cZ : ClassId) (zz : (Nat → Prop) → State → Heap → Prop) (hzz : Zok zz) (tS : Nat) (hst : Zst zz tS) (w : va_W) (x0 : Int32) (hc : (p_needTarget x0) = 0) : tfV l D vwCl (tyT cI cZ) zz yX3_needTarget wsX3_needTarget ({ frames := 6, cells := 0, slots := 0, locals := 90 } : Room) [.int x0] w w := by
  intro sz
  refine Met.ofW (cc := cX3_needTarget) (maxL := 1) (ret := none) (by decide) rfl ?_
  intro p e s m args below meth c s₁ B hml hv
  obtain ⟨rfl, hsz, hP, hK, hD0, hZ⟩ := hv
  have hx := B.exec
  have hb := B.bytes
  have hr := B.returns
  have hts := atoms_spec (ws := wsX3_needTarget) B.pre
  have hown : s.vm.findClass RX3 = some m.cls := findClass_of_methodNamed B.named
  have hlocks := B.notSynchronized
  subst hsz
  have hD := hD0.self (sz := s.heap.size)
  generalize hAe : va_A w s.heap.size = A at hD hZ ⊢
  have hA : ∀ q : Nat, s.heap.size ≤ q → A q := fun q h => by rw [← hAe]; exact Or.inr h
  have hS : va_S A s.heap s.heap [] := va_S.rf
  have hl := lv_entry ([.int x0]) (n := 1) (Nat.le_of_ble_eq_true rfl)
  rw [lg_entry_eq]
  generalize (lg_sl ([.int x0]) ++ List.replicate (1 - (lg_sl ([.int x0])).length) Slot.unset).toArray = ls at hl ⊢
  have hl : lv_has ls 1 [(0, .int x0)] := hl
  refine lv_iload_n hx hb dX3_needTarget_0 rfl (lv_at hl 0 rfl) ?_
  refine lv_if_lt (tgt := 10) hx hb dX3_needTarget_1 (by decide) (fun c_1 => ?_) (fun c_1 => ?_)
  · skip
    have e9 : p_needTarget x0 = 1 := by rw [p_needTarget, if_pos c_1]
    rw [e9] at hc
    exact absurd hc (show ¬ (1 : Nat) = 0 by decide)
  · skip
    refine lv_iload_n hx hb dX3_needTarget_4 rfl (lv_at hl 0 rfl) ?_
    refine lv_bipush (v := 48) hx hb dX3_needTarget_5 (by decide) ?_
    refine lv_icmp_lt (tgt := 20) hx hb dX3_needTarget_7 (by decide) (fun c_2 => ?_) (fun c_2 => ?_)
    · skip
      have e9 : p_needTarget x0 = 0 := by rw [p_needTarget, if_neg c_1, if_pos c_2]
      try rw [e9]
      exact W.vret hx hb hr (fun t ht hW => ⟨⟨(), rfl, trivial, by rw [ht]; exact hP, va_K.moved hW.alike hK, hD⟩, hS.F ht⟩) hS.2.2 dX3_needTarget_20
    · skip
      have e9 : p_needTarget x0 = 1 := by rw [p_needTarget, if_neg c_1, if_neg c_2]
      rw [e9] at hc
      exact absurd hc (show ¬ (1 : Nat) = 0 by decide)
set_option maxHeartbeats 4000000 in
set_option maxRecDepth 100000 in
theorem cx_needTarget (l : Launch) (hlt : l.stackTraces = false) (D : va_G) (ad : Nat → Nat) (cI cZ : ClassId) (zz : (Nat → Prop) → State → Heap → Prop) (hzz : Zok zz) (tS : Nat) (hst : Zst zz tS) (hxs : Zxs zz) (w : va_W) (x0 : Int32) (hc : ¬ (p_needTarget x0) = 0) : txV l D vwCl (tyT cI cZ) zz yX3_needTarget wsX3_needTarget ({ frames := 6, cells := 1, slots := 6, locals := 90 } : Room) [.int x0] w (p_needTarget x0) w 1 6 := by
  intro sz
  refine vx_ofW (cc := cX3_needTarget) (maxL := 1) (ret := none) (by decide) rfl ?_
  intro p e s m args below meth c s₁ B hml hNo hv
  obtain ⟨rfl, hsz, hP, hK, hD0, hZ⟩ := hv
  have hx := B.exec
  have hb := B.bytes
  have hr := B.returns
  have hts := atoms_spec (ws := wsX3_needTarget) B.pre
  have hown : s.vm.findClass RX3 = some m.cls := findClass_of_methodNamed B.named
  have hlocks := B.notSynchronized
  subst hsz
  have hD := hD0.self (sz := s.heap.size)
  generalize hAe : va_A w s.heap.size = A at hD hZ ⊢
  have hA : ∀ q : Nat, s.heap.size ≤ q → A q := fun q h => by rw [← hAe]; exact Or.inr h
  have hS : va_S A s.heap s.heap [] := va_S.rf
  have hl := lv_entry ([.int x0]) (n := 1) (Nat.le_of_ble_eq_true rfl)
  rw [lg_entry_eq]
  generalize (lg_sl ([.int x0]) ++ List.replicate (1 - (lg_sl ([.int x0])).length) Slot.unset).toArray = ls at hl ⊢
  have hl : lv_has ls 1 [(0, .int x0)] := hl
  refine lv_iload_n hx hb dX3_needTarget_0 rfl (lv_at hl 0 rfl) ?_
  refine lv_if_lt (tgt := 10) hx hb dX3_needTarget_1 (by decide) (fun c_1 => ?_) (fun c_1 => ?_)
  · skip
    have e9 : p_needTarget x0 = 1 := by rw [p_needTarget, if_pos c_1]
    rw [e9]
    have hX := hxs _ _ _ hZ
    obtain ⟨sa, hsa⟩ := hX.2.2.1 (157, "no such target") (by decide)
    exact vx_throwS (own := RX3) (cls := "java/lang/IllegalArgumentException") (names := xEN) hx hb hlt hown xfit1 xfit (hts _ (tb_c tw_1_193)) (hts _ (tb_c tw_1_9)) hsa (xhat1 hts hX.2.2.2) xgood1 hX.1 hX.2.1 hS (hl.1.trans hml.symm) dX3_needTarget_10 dX3_needTarget_13 dX3_needTarget_14 dX3_needTarget_16 dX3_needTarget_19 (fun x h => (hNo x h).elim) (Nat.le_of_ble_eq_true rfl) (Nat.le_of_ble_eq_true rfl) (Nat.le_of_ble_eq_true rfl) (Nat.le_of_ble_eq_true rfl) hlocks (fun t ha hsz hk => ⟨(), (show ¬ (1 : Nat) = 0 by decide), ⟨rfl, hP.kept (fun k q hq => hk q.1 (hP k q hq).lt), va_K.moved ha hK, hD⟩, Nat.le_trans hS.1 hsz, fun q h1 h2 => (hk q (Nat.lt_of_lt_of_le h1 hS.1)).trans (hS.2.1 q h1 h2)⟩) hS.2.2 (by decide) (by decide)
  · skip
    refine lv_iload_n hx hb dX3_needTarget_4 rfl (lv_at hl 0 rfl) ?_
    refine lv_bipush (v := 48) hx hb dX3_needTarget_5 (by decide) ?_
    refine lv_icmp_lt (tgt := 20) hx hb dX3_needTarget_7 (by decide) (fun c_2 => ?_) (fun c_2 => ?_)
    · skip
      have e9 : p_needTarget x0 = 0 := by rw [p_needTarget, if_neg c_1, if_pos c_2]
      rw [e9] at hc
      exact absurd rfl hc
    · skip
      have e9 : p_needTarget x0 = 1 := by rw [p_needTarget, if_neg c_1, if_neg c_2]
      rw [e9]
      have hX := hxs _ _ _ hZ
      obtain ⟨sa, hsa⟩ := hX.2.2.1 (157, "no such target") (by decide)
      exact vx_throwS (own := RX3) (cls := "java/lang/IllegalArgumentException") (names := xEN) hx hb hlt hown xfit1 xfit (hts _ (tb_c tw_1_193)) (hts _ (tb_c tw_1_9)) hsa (xhat1 hts hX.2.2.2) xgood1 hX.1 hX.2.1 hS (hl.1.trans hml.symm) dX3_needTarget_10 dX3_needTarget_13 dX3_needTarget_14 dX3_needTarget_16 dX3_needTarget_19 (fun x h => (hNo x h).elim) (Nat.le_of_ble_eq_true rfl) (Nat.le_of_ble_eq_true rfl) (Nat.le_of_ble_eq_true rfl) (Nat.le_of_ble_eq_true rfl) hlocks (fun t ha hsz hk => ⟨(), (show ¬ (1 : Nat) = 0 by decide), ⟨rfl, hP.kept (fun k q hq => hk q.1 (hP k q hq).lt), va_K.moved ha hK, hD⟩, Nat.le_trans hS.1 hsz, fun q h1 h2 => (hk q (Nat.lt_of_lt_of_le h1 hS.1)).trans (hS.2.1 q h1 h2)⟩) hS.2.2 (by decide) (by decide)

def p_needWord (x0 : Int32) : Nat := (if x0 < 0 then 1 else (if x0 < 8 then 0 else 1))
set_option maxHeartbeats 4000000 in
set_option maxRecDepth 100000 in
theorem cr_needWord (l : Launch) (D : va_G) (ad : Nat → Nat) (cI cZ : ClassId) (zz : (Nat → Prop) → State → Heap → Prop) (hzz : Zok zz) (tS : Nat) (hst : Zst zz tS) (w : va_W) (x0 : Int32) (hc : (p_needWord x0) = 0) : tfV l D vwCl (tyT cI cZ) zz yX3_needWord wsX3_needWord ({ frames := 6, cells := 0, slots := 0, locals := 90 } : Room) [.int x0] w w := by
  intro sz
  refine Met.ofW (cc := cX3_needWord) (maxL := 1) (ret := none) (by decide) rfl ?_
  intro p e s m args below meth c s₁ B hml hv
  obtain ⟨rfl, hsz, hP, hK, hD0, hZ⟩ := hv
  have hx := B.exec
  have hb := B.bytes
  have hr := B.returns
  have hts := atoms_spec (ws := wsX3_needWord) B.pre
  have hown : s.vm.findClass RX3 = some m.cls := findClass_of_methodNamed B.named
  have hlocks := B.notSynchronized
  subst hsz
  have hD := hD0.self (sz := s.heap.size)
  generalize hAe : va_A w s.heap.size = A at hD hZ ⊢
  have hA : ∀ q : Nat, s.heap.size ≤ q → A q := fun q h => by rw [← hAe]; exact Or.inr h
  have hS : va_S A s.heap s.heap [] := va_S.rf
  have hl := lv_entry ([.int x0]) (n := 1) (Nat.le_of_ble_eq_true rfl)
  rw [lg_entry_eq]
  generalize (lg_sl ([.int x0]) ++ List.replicate (1 - (lg_sl ([.int x0])).length) Slot.unset).toArray = ls at hl ⊢
  have hl : lv_has ls 1 [(0, .int x0)] := hl
  refine lv_iload_n hx hb dX3_needWord_0 rfl (lv_at hl 0 rfl) ?_
  refine lv_if_lt (tgt := 10) hx hb dX3_needWord_1 (by decide) (fun c_1 => ?_) (fun c_1 => ?_)
  · skip
    have e9 : p_needWord x0 = 1 := by rw [p_needWord, if_pos c_1]
    rw [e9] at hc
    exact absurd hc (show ¬ (1 : Nat) = 0 by decide)
  · skip
    refine lv_iload_n hx hb dX3_needWord_4 rfl (lv_at hl 0 rfl) ?_
    refine lv_bipush (v := 8) hx hb dX3_needWord_5 (by decide) ?_
    refine lv_icmp_lt (tgt := 20) hx hb dX3_needWord_7 (by decide) (fun c_2 => ?_) (fun c_2 => ?_)
    · skip
      have e9 : p_needWord x0 = 0 := by rw [p_needWord, if_neg c_1, if_pos c_2]
      try rw [e9]
      exact W.vret hx hb hr (fun t ht hW => ⟨⟨(), rfl, trivial, by rw [ht]; exact hP, va_K.moved hW.alike hK, hD⟩, hS.F ht⟩) hS.2.2 dX3_needWord_20
    · skip
      have e9 : p_needWord x0 = 1 := by rw [p_needWord, if_neg c_1, if_neg c_2]
      rw [e9] at hc
      exact absurd hc (show ¬ (1 : Nat) = 0 by decide)
set_option maxHeartbeats 4000000 in
set_option maxRecDepth 100000 in
theorem cx_needWord (l : Launch) (hlt : l.stackTraces = false) (D : va_G) (ad : Nat → Nat) (cI cZ : ClassId) (zz : (Nat → Prop) → State → Heap → Prop) (hzz : Zok zz) (tS : Nat) (hst : Zst zz tS) (hxs : Zxs zz) (w : va_W) (x0 : Int32) (hc : ¬ (p_needWord x0) = 0) : txV l D vwCl (tyT cI cZ) zz yX3_needWord wsX3_needWord ({ frames := 6, cells := 1, slots := 6, locals := 90 } : Room) [.int x0] w (p_needWord x0) w 1 6 := by
  intro sz
  refine vx_ofW (cc := cX3_needWord) (maxL := 1) (ret := none) (by decide) rfl ?_
  intro p e s m args below meth c s₁ B hml hNo hv
  obtain ⟨rfl, hsz, hP, hK, hD0, hZ⟩ := hv
  have hx := B.exec
  have hb := B.bytes
  have hr := B.returns
  have hts := atoms_spec (ws := wsX3_needWord) B.pre
  have hown : s.vm.findClass RX3 = some m.cls := findClass_of_methodNamed B.named
  have hlocks := B.notSynchronized
  subst hsz
  have hD := hD0.self (sz := s.heap.size)
  generalize hAe : va_A w s.heap.size = A at hD hZ ⊢
  have hA : ∀ q : Nat, s.heap.size ≤ q → A q := fun q h => by rw [← hAe]; exact Or.inr h
  have hS : va_S A s.heap s.heap [] := va_S.rf
  have hl := lv_entry ([.int x0]) (n := 1) (Nat.le_of_ble_eq_true rfl)
  rw [lg_entry_eq]
  generalize (lg_sl ([.int x0]) ++ List.replicate (1 - (lg_sl ([.int x0])).length) Slot.unset).toArray = ls at hl ⊢
  have hl : lv_has ls 1 [(0, .int x0)] := hl
  refine lv_iload_n hx hb dX3_needWord_0 rfl (lv_at hl 0 rfl) ?_
  refine lv_if_lt (tgt := 10) hx hb dX3_needWord_1 (by decide) (fun c_1 => ?_) (fun c_1 => ?_)
  · skip
    have e9 : p_needWord x0 = 1 := by rw [p_needWord, if_pos c_1]
    rw [e9]
    have hX := hxs _ _ _ hZ
    obtain ⟨sa, hsa⟩ := hX.2.2.1 (159, "no such word of memory") (by decide)
    exact vx_throwS (own := RX3) (cls := "java/lang/IllegalArgumentException") (names := xEN) hx hb hlt hown xfit1 xfit (hts _ (tb_c tw_1_193)) (hts _ (tb_c tw_1_9)) hsa (xhat1 hts hX.2.2.2) xgood1 hX.1 hX.2.1 hS (hl.1.trans hml.symm) dX3_needWord_10 dX3_needWord_13 dX3_needWord_14 dX3_needWord_16 dX3_needWord_19 (fun x h => (hNo x h).elim) (Nat.le_of_ble_eq_true rfl) (Nat.le_of_ble_eq_true rfl) (Nat.le_of_ble_eq_true rfl) (Nat.le_of_ble_eq_true rfl) hlocks (fun t ha hsz hk => ⟨(), (show ¬ (1 : Nat) = 0 by decide), ⟨rfl, hP.kept (fun k q hq => hk q.1 (hP k q hq).lt), va_K.moved ha hK, hD⟩, Nat.le_trans hS.1 hsz, fun q h1 h2 => (hk q (Nat.lt_of_lt_of_le h1 hS.1)).trans (hS.2.1 q h1 h2)⟩) hS.2.2 (by decide) (by decide)
  · skip
    refine lv_iload_n hx hb dX3_needWord_4 rfl (lv_at hl 0 rfl) ?_
    refine lv_bipush (v := 8) hx hb dX3_needWord_5 (by decide) ?_
    refine lv_icmp_lt (tgt := 20) hx hb dX3_needWord_7 (by decide) (fun c_2 => ?_) (fun c_2 => ?_)
    · skip
      have e9 : p_needWord x0 = 0 := by rw [p_needWord, if_neg c_1, if_pos c_2]
      rw [e9] at hc
      exact absurd rfl hc
    · skip
      have e9 : p_needWord x0 = 1 := by rw [p_needWord, if_neg c_1, if_neg c_2]
      rw [e9]
      have hX := hxs _ _ _ hZ
      obtain ⟨sa, hsa⟩ := hX.2.2.1 (159, "no such word of memory") (by decide)
      exact vx_throwS (own := RX3) (cls := "java/lang/IllegalArgumentException") (names := xEN) hx hb hlt hown xfit1 xfit (hts _ (tb_c tw_1_193)) (hts _ (tb_c tw_1_9)) hsa (xhat1 hts hX.2.2.2) xgood1 hX.1 hX.2.1 hS (hl.1.trans hml.symm) dX3_needWord_10 dX3_needWord_13 dX3_needWord_14 dX3_needWord_16 dX3_needWord_19 (fun x h => (hNo x h).elim) (Nat.le_of_ble_eq_true rfl) (Nat.le_of_ble_eq_true rfl) (Nat.le_of_ble_eq_true rfl) (Nat.le_of_ble_eq_true rfl) hlocks (fun t ha hsz hk => ⟨(), (show ¬ (1 : Nat) = 0 by decide), ⟨rfl, hP.kept (fun k q hq => hk q.1 (hP k q hq).lt), va_K.moved ha hK, hD⟩, Nat.le_trans hS.1 hsz, fun q h1 h2 => (hk q (Nat.lt_of_lt_of_le h1 hS.1)).trans (hS.2.1 q h1 h2)⟩) hS.2.2 (by decide) (by decide)

def p_append (u : St) (x1 x2 x3 x4 x5 x6 : Int32) : Nat × Int32 × St := (if (u.1 0) < 48 then (0, (p_add (p_discardImage u) x1 x2 x3 x4 x5 x6).1, ((p_add (p_discardImage u) x1 x2 x3 x4 x5 x6).2)) else (2, 0, u))
def ok_append (u : St) (x1 x2 x3 x4 x5 x6 : Int32) : Prop := (((u.1 0) < 48 → (ok_add (p_discardImage u) x1 x2 x3 x4 x5 x6 ∧ True)) ∧ (¬ (u.1 0) < 48 → True))
set_option maxHeartbeats 4000000 in
set_option maxRecDepth 100000 in
theorem cr_append (l : Launch) (D : va_G) (ad : Nat → Nat) (cI cZ : ClassId) (zz : (Nat → Prop) → State → Heap → Prop) (hzz : Zok zz) (tS : Nat) (hst : Zst zz tS) (u : St) (x1 x2 x3 x4 x5 x6 : Int32) (hok : ok_append u x1 x2 x3 x4 x5 x6) (hc : (p_append u x1 x2 x3 x4 x5 x6).1 = 0) : tfI l D vwCl (tyT cI cZ) zz yX3_append wsX3_append ({ frames := 6, cells := 0, slots := 0, locals := 90 } : Room) [.ref (ad 0), .int x1, .int x2, .int x3, .int x4, .int x5, .int x6] (wT ad cI cZ u) (p_append u x1 x2 x3 x4 x5 x6).2.1 (wT ad cI cZ ((p_append u x1 x2 x3 x4 x5 x6).2.2)) := by
  intro sz
  unfold ok_append at hok
  refine Met.ofW (cc := cX3_append) (maxL := 7) (ret := (some .int)) (by decide) rfl ?_
  intro p e s m args below meth c s₁ B hml hv
  obtain ⟨rfl, hsz, hP, hK, hD0, hZ⟩ := hv
  have hx := B.exec
  have hb := B.bytes
  have hr := B.returns
  have hts := atoms_spec (ws := wsX3_append) B.pre
  have hown : s.vm.findClass RX3 = some m.cls := findClass_of_methodNamed B.named
  have hlocks := B.notSynchronized
  subst hsz
  have hD := hD0.self (sz := s.heap.size)
  generalize hAe : va_A (wT ad cI cZ u) s.heap.size = A at hD hZ ⊢
  have hA : ∀ q : Nat, s.heap.size ≤ q → A q := fun q h => by rw [← hAe]; exact Or.inr h
  have hS : va_S A s.heap s.heap [] := va_S.rf
  have hl := lv_entry ([.ref (ad 0), .int x1, .int x2, .int x3, .int x4, .int x5, .int x6]) (n := 7) (Nat.le_of_ble_eq_true rfl)
  rw [lg_entry_eq]
  generalize (lg_sl ([.ref (ad 0), .int x1, .int x2, .int x3, .int x4, .int x5, .int x6]) ++ List.replicate (7 - (lg_sl ([.ref (ad 0), .int x1, .int x2, .int x3, .int x4, .int x5, .int x6])).length) Slot.unset).toArray = ls at hl ⊢
  have hl : lv_has ls 7 [(0, .ref (ad 0)), (1, .int x1), (2, .int x2), (3, .int x3), (4, .int x4), (5, .int x5), (6, .int x6)] := hl
  refine lv_aload_n hx hb dX3_append_0 rfl (lv_at hl 0 rfl) ?_
  refine va_get (ci := 3) (v := .ref (ad 1)) (C := RX3) (T := TX3) (N := 3) hx hb hts (ivX3 _) hown hK hP 0 rfl rfl 0 (by decide) (hts _ (tb_c tw_1_143)) (fun _ h9 => h9) rfl dX3_append_1 ?_
  refine va_get (ci := 2) (v := .int (u.1 0)) (C := RX2) (T := TX2) (N := 7) hx hb hts (ivX2 _) hown hK hP 1 rfl rfl 6 (by decide) (hts _ (tb_c tw_1_46)) (fun _ h9 => h9) rfl dX3_append_4 ?_
  refine lv_bipush (v := 48) hx hb dX3_append_7 (by decide) ?_
  refine lv_icmp_lt (tgt := 22) hx hb dX3_append_9 (by decide) (fun c_1 => ?_) (fun c_1 => ?_)
  · have hok := hok.1 c_1
    refine lv_aload_n hx hb dX3_append_22 rfl (lv_at hl 0 rfl) ?_
    refine k_callVv (As := []) (rest := []) hzz ⟨hx, hb, hml, hown, hts⟩ (c_discardImage l D ad cI cZ zz hzz tS hst u) (cwV 0 hts (tb_V tw_1_161 tw_1_163 slX3_discardImage tw_1_1 tw_1_164) rfl rfl rfl (by decide +kernel) ⟨Nat.le_of_ble_eq_true rfl, Nat.le_of_ble_eq_true rfl⟩) (va_recv hK hP (ci := 3) (q0 := 0) rfl rfl) rfl hl.1 rfl (lv_room (Nat.le_of_ble_eq_true rfl)) dX3_append_23 ⟨Nat.le_of_ble_eq_true rfl, Nat.le_of_ble_eq_true rfl⟩ hP hK hD hS hA hZ (fun H locs hP hD hS => ?_)
    generalize eu_3 : p_discardImage u = u_3 at hP hD ⊢
    try rw [eu_3] at hok
    refine lv_aload_n hx hb dX3_append_26 rfl (lv_at hl 0 rfl) ?_
    refine va_get (ci := 3) (v := .ref (ad 1)) (C := RX3) (T := TX3) (N := 3) hx hb hts (ivX3 _) hown hK hP 0 rfl rfl 0 (by decide) (hts _ (tb_c tw_1_143)) (fun _ h9 => h9) rfl dX3_append_27 ?_
    refine lv_iload_n hx hb dX3_append_30 rfl (lv_at hl 1 rfl) ?_
    refine lv_iload_n hx hb dX3_append_31 rfl (lv_at hl 2 rfl) ?_
    refine lv_iload_n hx hb dX3_append_32 rfl (lv_at hl 3 rfl) ?_
    refine lv_iload hx hb dX3_append_33 (lv_at hl 4 rfl) ?_
    refine lv_iload hx hb dX3_append_35 (lv_at hl 5 rfl) ?_
    refine lv_iload hx hb dX3_append_37 (lv_at hl 6 rfl) ?_
    obtain ⟨h_4, hok⟩ := hok
    refine k_callVi (As := [.int x1, .int x2, .int x3, .int x4, .int x5, .int x6]) (rest := []) hzz ⟨hx, hb, hml, hown, hts⟩ (c_add l D ad cI cZ zz hzz tS hst u_3 x1 x2 x3 x4 x5 x6 h_4) (cwV 6 hts (tb_V tw_2_41 tw_2_42 tw_2_43 tw_1_2 tw_2_44) rfl rfl rfl (by decide +kernel) ⟨Nat.le_of_ble_eq_true rfl, Nat.le_of_ble_eq_true rfl⟩) (va_recv hK hP (ci := 2) (q0 := 1) rfl rfl) rfl hl.1 rfl (lv_room (Nat.le_of_ble_eq_true rfl)) dX3_append_39 ⟨Nat.le_of_ble_eq_true rfl, Nat.le_of_ble_eq_true rfl⟩ hP hK hD hS hA hZ (fun H locs hP hD hS => ?_)
    generalize eu_5 : (p_add u_3 x1 x2 x3 x4 x5 x6).2 = u_5 at hP hD ⊢
    try rw [eu_5] at hok
    have e9 : p_append u x1 x2 x3 x4 x5 x6 = (0, (p_add u_3 x1 x2 x3 x4 x5 x6).1, u_5) := by
      subst eu_5
      subst eu_3
      rw [p_append, if_pos c_1]
    try rw [e9]
    exact W.iret hx hb hr (fun t ht hW => ⟨⟨_, (), rfl, rfl, by rw [ht]; exact hP, va_K.moved hW.alike hK, hD⟩, hS.F ht⟩) hS.2.2 dX3_append_42
  · have hok := hok.2 c_1
    have e9 : p_append u x1 x2 x3 x4 x5 x6 = (2, 0, u) := by rw [p_append, if_neg c_1]
    rw [e9] at hc
    exact absurd hc (show ¬ (2 : Nat) = 0 by decide)
set_option maxHeartbeats 4000000 in
set_option maxRecDepth 100000 in
theorem cx_append (l : Launch) (hlt : l.stackTraces = false) (D : va_G) (ad : Nat → Nat) (cI cZ : ClassId) (zz : (Nat → Prop) → State → Heap → Prop) (hzz : Zok zz) (tS : Nat) (hst : Zst zz tS) (hxs : Zxs zz) (u : St) (x1 x2 x3 x4 x5 x6 : Int32) (hok : ok_append u x1 x2 x3 x4 x5 x6) (hc : ¬ (p_append u x1 x2 x3 x4 x5 x6).1 = 0) : txI l D vwCl (tyT cI cZ) zz yX3_append wsX3_append ({ frames := 6, cells := 1, slots := 6, locals := 90 } : Room) [.ref (ad 0), .int x1, .int x2, .int x3, .int x4, .int x5, .int x6] (wT ad cI cZ u) (p_append u x1 x2 x3 x4 x5 x6).1 (p_append u x1 x2 x3 x4 x5 x6).2.1 (wT ad cI cZ ((p_append u x1 x2 x3 x4 x5 x6).2.2)) 1 6 := by
  intro sz
  unfold ok_append at hok
  refine vx_ofW (cc := cX3_append) (maxL := 7) (ret := (some .int)) (by decide) rfl ?_
  intro p e s m args below meth c s₁ B hml hNo hv
  obtain ⟨rfl, hsz, hP, hK, hD0, hZ⟩ := hv
  have hx := B.exec
  have hb := B.bytes
  have hr := B.returns
  have hts := atoms_spec (ws := wsX3_append) B.pre
  have hown : s.vm.findClass RX3 = some m.cls := findClass_of_methodNamed B.named
  have hlocks := B.notSynchronized
  subst hsz
  have hD := hD0.self (sz := s.heap.size)
  generalize hAe : va_A (wT ad cI cZ u) s.heap.size = A at hD hZ ⊢
  have hA : ∀ q : Nat, s.heap.size ≤ q → A q := fun q h => by rw [← hAe]; exact Or.inr h
  have hS : va_S A s.heap s.heap [] := va_S.rf
  have hl := lv_entry ([.ref (ad 0), .int x1, .int x2, .int x3, .int x4, .int x5, .int x6]) (n := 7) (Nat.le_of_ble_eq_true rfl)
  rw [lg_entry_eq]
  generalize (lg_sl ([.ref (ad 0), .int x1, .int x2, .int x3, .int x4, .int x5, .int x6]) ++ List.replicate (7 - (lg_sl ([.ref (ad 0), .int x1, .int x2, .int x3, .int x4, .int x5, .int x6])).length) Slot.unset).toArray = ls at hl ⊢
  have hl : lv_has ls 7 [(0, .ref (ad 0)), (1, .int x1), (2, .int x2), (3, .int x3), (4, .int x4), (5, .int x5), (6, .int x6)] := hl
  refine lv_aload_n hx hb dX3_append_0 rfl (lv_at hl 0 rfl) ?_
  refine va_get (ci := 3) (v := .ref (ad 1)) (C := RX3) (T := TX3) (N := 3) hx hb hts (ivX3 _) hown hK hP 0 rfl rfl 0 (by decide) (hts _ (tb_c tw_1_143)) (fun _ h9 => h9) rfl dX3_append_1 ?_
  refine va_get (ci := 2) (v := .int (u.1 0)) (C := RX2) (T := TX2) (N := 7) hx hb hts (ivX2 _) hown hK hP 1 rfl rfl 6 (by decide) (hts _ (tb_c tw_1_46)) (fun _ h9 => h9) rfl dX3_append_4 ?_
  refine lv_bipush (v := 48) hx hb dX3_append_7 (by decide) ?_
  refine lv_icmp_lt (tgt := 22) hx hb dX3_append_9 (by decide) (fun c_1 => ?_) (fun c_1 => ?_)
  · have hok := hok.1 c_1
    refine lv_aload_n hx hb dX3_append_22 rfl (lv_at hl 0 rfl) ?_
    refine k_callVv (As := []) (rest := []) hzz ⟨hx, hb, hml, hown, hts⟩ (c_discardImage l D ad cI cZ zz hzz tS hst u) (cwV 0 hts (tb_V tw_1_161 tw_1_163 slX3_discardImage tw_1_1 tw_1_164) rfl rfl rfl (by decide +kernel) ⟨Nat.le_of_ble_eq_true rfl, Nat.le_of_ble_eq_true rfl⟩) (va_recv hK hP (ci := 3) (q0 := 0) rfl rfl) rfl hl.1 rfl (lv_room (Nat.le_of_ble_eq_true rfl)) dX3_append_23 ⟨Nat.le_of_ble_eq_true rfl, Nat.le_of_ble_eq_true rfl⟩ hP hK hD hS hA hZ (fun H locs hP hD hS => ?_)
    generalize eu_3 : p_discardImage u = u_3 at hP hD ⊢
    try rw [eu_3] at hok
    refine lv_aload_n hx hb dX3_append_26 rfl (lv_at hl 0 rfl) ?_
    refine va_get (ci := 3) (v := .ref (ad 1)) (C := RX3) (T := TX3) (N := 3) hx hb hts (ivX3 _) hown hK hP 0 rfl rfl 0 (by decide) (hts _ (tb_c tw_1_143)) (fun _ h9 => h9) rfl dX3_append_27 ?_
    refine lv_iload_n hx hb dX3_append_30 rfl (lv_at hl 1 rfl) ?_
    refine lv_iload_n hx hb dX3_append_31 rfl (lv_at hl 2 rfl) ?_
    refine lv_iload_n hx hb dX3_append_32 rfl (lv_at hl 3 rfl) ?_
    refine lv_iload hx hb dX3_append_33 (lv_at hl 4 rfl) ?_
    refine lv_iload hx hb dX3_append_35 (lv_at hl 5 rfl) ?_
    refine lv_iload hx hb dX3_append_37 (lv_at hl 6 rfl) ?_
    obtain ⟨h_4, hok⟩ := hok
    refine k_callVi (As := [.int x1, .int x2, .int x3, .int x4, .int x5, .int x6]) (rest := []) hzz ⟨hx, hb, hml, hown, hts⟩ (c_add l D ad cI cZ zz hzz tS hst u_3 x1 x2 x3 x4 x5 x6 h_4) (cwV 6 hts (tb_V tw_2_41 tw_2_42 tw_2_43 tw_1_2 tw_2_44) rfl rfl rfl (by decide +kernel) ⟨Nat.le_of_ble_eq_true rfl, Nat.le_of_ble_eq_true rfl⟩) (va_recv hK hP (ci := 2) (q0 := 1) rfl rfl) rfl hl.1 rfl (lv_room (Nat.le_of_ble_eq_true rfl)) dX3_append_39 ⟨Nat.le_of_ble_eq_true rfl, Nat.le_of_ble_eq_true rfl⟩ hP hK hD hS hA hZ (fun H locs hP hD hS => ?_)
    generalize eu_5 : (p_add u_3 x1 x2 x3 x4 x5 x6).2 = u_5 at hP hD ⊢
    try rw [eu_5] at hok
    have e9 : p_append u x1 x2 x3 x4 x5 x6 = (0, (p_add u_3 x1 x2 x3 x4 x5 x6).1, u_5) := by
      subst eu_5
      subst eu_3
      rw [p_append, if_pos c_1]
    rw [e9] at hc
    exact absurd rfl hc
  · have hok := hok.2 c_1
    have e9 : p_append u x1 x2 x3 x4 x5 x6 = (2, 0, u) := by rw [p_append, if_neg c_1]
    rw [e9]
    have hX := hxs _ _ _ hZ
    obtain ⟨sa, hsa⟩ := hX.2.2.1 (150, "the program is full") (by decide)
    exact vx_throwS (own := RX3) (cls := "java/lang/IllegalStateException") (names := xEN) hx hb hlt hown xfit2 xfit (hts _ (tb_c tw_2_25)) (hts _ (tb_c tw_1_10)) hsa (xhat2 hts hX.2.2.2) xgood2 hX.1 hX.2.1 hS (hl.1.trans hml.symm) dX3_append_12 dX3_append_15 dX3_append_16 dX3_append_18 dX3_append_21 (fun x h => (hNo x h).elim) (Nat.le_of_ble_eq_true rfl) (Nat.le_of_ble_eq_true rfl) (Nat.le_of_ble_eq_true rfl) (Nat.le_of_ble_eq_true rfl) hlocks (fun t ha hsz hk => ⟨(), (show ¬ (2 : Nat) = 0 by decide), ⟨rfl, hP.kept (fun k q hq => hk q.1 (hP k q hq).lt), va_K.moved ha hK, hD⟩, Nat.le_trans hS.1 hsz, fun q h1 h2 => (hk q (Nat.lt_of_lt_of_le h1 hS.1)).trans (hS.2.1 q h1 h2)⟩) hS.2.2 (by decide) (by decide)

def p_constant (u : St) (x1 x2 : Int32) : Nat × Int32 × St := (if p_needVariable x1 = 0 then (if (p_append u 0 0 x1 0 0 x2).1 = 0 then (0, (p_append u 0 0 x1 0 0 x2).2.1, ((p_append u 0 0 x1 0 0 x2).2.2)) else ((p_append u 0 0 x1 0 0 x2).1, 0, (p_append u 0 0 x1 0 0 x2).2.2)) else (p_needVariable x1, 0, u))
def ok_constant (u : St) (x1 x2 : Int32) : Prop := ((p_needVariable x1 = 0 → (ok_append u 0 0 x1 0 0 x2 ∧ True)) ∧ (¬ p_needVariable x1 = 0 → True))
set_option maxHeartbeats 4000000 in
set_option maxRecDepth 100000 in
theorem cr_constant (l : Launch) (D : va_G) (ad : Nat → Nat) (cI cZ : ClassId) (zz : (Nat → Prop) → State → Heap → Prop) (hzz : Zok zz) (tS : Nat) (hst : Zst zz tS) (u : St) (x1 x2 : Int32) (hok : ok_constant u x1 x2) (hc : (p_constant u x1 x2).1 = 0) : tfI l D vwCl (tyT cI cZ) zz yX3_constant wsX3_constant ({ frames := 7, cells := 0, slots := 0, locals := 116 } : Room) [.ref (ad 0), .int x1, .int x2] (wT ad cI cZ u) (p_constant u x1 x2).2.1 (wT ad cI cZ ((p_constant u x1 x2).2.2)) := by
  intro sz
  unfold ok_constant at hok
  refine Met.ofW (cc := cX3_constant) (maxL := 3) (ret := (some .int)) (by decide) rfl ?_
  intro p e s m args below meth c s₁ B hml hv
  obtain ⟨rfl, hsz, hP, hK, hD0, hZ⟩ := hv
  have hx := B.exec
  have hb := B.bytes
  have hr := B.returns
  have hts := atoms_spec (ws := wsX3_constant) B.pre
  have hown : s.vm.findClass RX3 = some m.cls := findClass_of_methodNamed B.named
  have hlocks := B.notSynchronized
  subst hsz
  have hD := hD0.self (sz := s.heap.size)
  generalize hAe : va_A (wT ad cI cZ u) s.heap.size = A at hD hZ ⊢
  have hA : ∀ q : Nat, s.heap.size ≤ q → A q := fun q h => by rw [← hAe]; exact Or.inr h
  have hS : va_S A s.heap s.heap [] := va_S.rf
  have hl := lv_entry ([.ref (ad 0), .int x1, .int x2]) (n := 3) (Nat.le_of_ble_eq_true rfl)
  rw [lg_entry_eq]
  generalize (lg_sl ([.ref (ad 0), .int x1, .int x2]) ++ List.replicate (3 - (lg_sl ([.ref (ad 0), .int x1, .int x2])).length) Slot.unset).toArray = ls at hl ⊢
  have hl : lv_has ls 3 [(0, .ref (ad 0)), (1, .int x1), (2, .int x2)] := hl
  refine lv_iload_n hx hb dX3_constant_0 rfl (lv_at hl 1 rfl) ?_
  rcases Classical.em (p_needVariable x1 = 0) with c_1 | c_1
  · have hok := hok.1 c_1
    refine k_callSv (As := [.int x1]) (rest := []) hzz ⟨hx, hb, hml, hown, hts⟩ (cr_needVariable l D ad cI cZ zz hzz tS hst (wT ad cI cZ u) x1 c_1) (cwS 1 hts (tb_S tw_1_190 tw_1_191 tw_1_1 tw_1_192) rfl rfl rfl (by decide +kernel) ⟨Nat.le_of_ble_eq_true rfl, Nat.le_of_ble_eq_true rfl⟩) rfl hl.1 rfl (lv_room (Nat.le_of_ble_eq_true rfl)) dX3_constant_1 ⟨Nat.le_of_ble_eq_true rfl, Nat.le_of_ble_eq_true rfl⟩ hP hK hD hS hA hZ (fun H locs hP hD hS => ?_)
    refine lv_aload_n hx hb dX3_constant_4 rfl (lv_at hl 0 rfl) ?_
    refine lv_iconst (v := 0) hx hb dX3_constant_5 (by decide) ?_
    refine lv_iconst (v := 0) hx hb dX3_constant_6 (by decide) ?_
    refine lv_iload_n hx hb dX3_constant_7 rfl (lv_at hl 1 rfl) ?_
    refine lv_iconst (v := 0) hx hb dX3_constant_8 (by decide) ?_
    refine lv_iconst (v := 0) hx hb dX3_constant_9 (by decide) ?_
    refine lv_iload_n hx hb dX3_constant_10 rfl (lv_at hl 2 rfl) ?_
    obtain ⟨h_2, hok⟩ := hok
    rcases Classical.em ((p_append u 0 0 x1 0 0 x2).1 = 0) with c_2 | c_2
    · skip
      refine k_callVi (As := [.int 0, .int 0, .int x1, .int 0, .int 0, .int x2]) (rest := []) hzz ⟨hx, hb, hml, hown, hts⟩ (cr_append l D ad cI cZ zz hzz tS hst u 0 0 x1 0 0 x2 h_2 c_2) (cwV 6 hts (tb_V tw_2_21 tw_2_23 slX3_append tw_1_1 tw_2_24) rfl rfl rfl (by decide +kernel) ⟨Nat.le_of_ble_eq_true rfl, Nat.le_of_ble_eq_true rfl⟩) (va_recv hK hP (ci := 3) (q0 := 0) rfl rfl) rfl hl.1 rfl (lv_room (Nat.le_of_ble_eq_true rfl)) dX3_constant_11 ⟨Nat.le_of_ble_eq_true rfl, Nat.le_of_ble_eq_true rfl⟩ hP hK hD hS hA hZ (fun H locs hP hD hS => ?_)
      generalize eu_3 : (p_append u 0 0 x1 0 0 x2).2.2 = u_3 at hP hD ⊢
      try rw [eu_3] at hok
      have e9 : p_constant u x1 x2 = (0, (p_append u 0 0 x1 0 0 x2).2.1, u_3) := by
        subst eu_3
        rw [p_constant, if_pos c_1, if_pos c_2]
      try rw [e9]
      exact W.iret hx hb hr (fun t ht hW => ⟨⟨_, (), rfl, rfl, by rw [ht]; exact hP, va_K.moved hW.alike hK, hD⟩, hS.F ht⟩) hS.2.2 dX3_constant_14
    · skip
      have e9 : p_constant u x1 x2 = ((p_append u 0 0 x1 0 0 x2).1, 0, (p_append u 0 0 x1 0 0 x2).2.2) := by rw [p_constant, if_pos c_1, if_neg c_2]
      rw [e9] at hc
      exact absurd hc c_2
  · skip
    have e9 : p_constant u x1 x2 = (p_needVariable x1, 0, u) := by rw [p_constant, if_neg c_1]
    rw [e9] at hc
    exact absurd hc c_1
set_option maxHeartbeats 4000000 in
set_option maxRecDepth 100000 in
theorem cx_constant (l : Launch) (hlt : l.stackTraces = false) (D : va_G) (ad : Nat → Nat) (cI cZ : ClassId) (zz : (Nat → Prop) → State → Heap → Prop) (hzz : Zok zz) (tS : Nat) (hst : Zst zz tS) (hxs : Zxs zz) (u : St) (x1 x2 : Int32) (hok : ok_constant u x1 x2) (hc : ¬ (p_constant u x1 x2).1 = 0) : txI l D vwCl (tyT cI cZ) zz yX3_constant wsX3_constant ({ frames := 7, cells := 1, slots := 6, locals := 116 } : Room) [.ref (ad 0), .int x1, .int x2] (wT ad cI cZ u) (p_constant u x1 x2).1 (p_constant u x1 x2).2.1 (wT ad cI cZ ((p_constant u x1 x2).2.2)) 1 6 := by
  intro sz
  unfold ok_constant at hok
  refine vx_ofW (cc := cX3_constant) (maxL := 3) (ret := (some .int)) (by decide) rfl ?_
  intro p e s m args below meth c s₁ B hml hNo hv
  obtain ⟨rfl, hsz, hP, hK, hD0, hZ⟩ := hv
  have hx := B.exec
  have hb := B.bytes
  have hr := B.returns
  have hts := atoms_spec (ws := wsX3_constant) B.pre
  have hown : s.vm.findClass RX3 = some m.cls := findClass_of_methodNamed B.named
  have hlocks := B.notSynchronized
  subst hsz
  have hD := hD0.self (sz := s.heap.size)
  generalize hAe : va_A (wT ad cI cZ u) s.heap.size = A at hD hZ ⊢
  have hA : ∀ q : Nat, s.heap.size ≤ q → A q := fun q h => by rw [← hAe]; exact Or.inr h
  have hS : va_S A s.heap s.heap [] := va_S.rf
  have hl := lv_entry ([.ref (ad 0), .int x1, .int x2]) (n := 3) (Nat.le_of_ble_eq_true rfl)
  rw [lg_entry_eq]
  generalize (lg_sl ([.ref (ad 0), .int x1, .int x2]) ++ List.replicate (3 - (lg_sl ([.ref (ad 0), .int x1, .int x2])).length) Slot.unset).toArray = ls at hl ⊢
  have hl : lv_has ls 3 [(0, .ref (ad 0)), (1, .int x1), (2, .int x2)] := hl
  refine lv_iload_n hx hb dX3_constant_0 rfl (lv_at hl 1 rfl) ?_
  rcases Classical.em (p_needVariable x1 = 0) with c_1 | c_1
  · have hok := hok.1 c_1
    refine k_callSv (As := [.int x1]) (rest := []) hzz ⟨hx, hb, hml, hown, hts⟩ (cr_needVariable l D ad cI cZ zz hzz tS hst (wT ad cI cZ u) x1 c_1) (cwS 1 hts (tb_S tw_1_190 tw_1_191 tw_1_1 tw_1_192) rfl rfl rfl (by decide +kernel) ⟨Nat.le_of_ble_eq_true rfl, Nat.le_of_ble_eq_true rfl⟩) rfl hl.1 rfl (lv_room (Nat.le_of_ble_eq_true rfl)) dX3_constant_1 ⟨Nat.le_of_ble_eq_true rfl, Nat.le_of_ble_eq_true rfl⟩ hP hK hD hS hA hZ (fun H locs hP hD hS => ?_)
    refine lv_aload_n hx hb dX3_constant_4 rfl (lv_at hl 0 rfl) ?_
    refine lv_iconst (v := 0) hx hb dX3_constant_5 (by decide) ?_
    refine lv_iconst (v := 0) hx hb dX3_constant_6 (by decide) ?_
    refine lv_iload_n hx hb dX3_constant_7 rfl (lv_at hl 1 rfl) ?_
    refine lv_iconst (v := 0) hx hb dX3_constant_8 (by decide) ?_
    refine lv_iconst (v := 0) hx hb dX3_constant_9 (by decide) ?_
    refine lv_iload_n hx hb dX3_constant_10 rfl (lv_at hl 2 rfl) ?_
    obtain ⟨h_2, hok⟩ := hok
    rcases Classical.em ((p_append u 0 0 x1 0 0 x2).1 = 0) with c_2 | c_2
    · skip
      refine k_callVi (As := [.int 0, .int 0, .int x1, .int 0, .int 0, .int x2]) (rest := []) hzz ⟨hx, hb, hml, hown, hts⟩ (cr_append l D ad cI cZ zz hzz tS hst u 0 0 x1 0 0 x2 h_2 c_2) (cwV 6 hts (tb_V tw_2_21 tw_2_23 slX3_append tw_1_1 tw_2_24) rfl rfl rfl (by decide +kernel) ⟨Nat.le_of_ble_eq_true rfl, Nat.le_of_ble_eq_true rfl⟩) (va_recv hK hP (ci := 3) (q0 := 0) rfl rfl) rfl hl.1 rfl (lv_room (Nat.le_of_ble_eq_true rfl)) dX3_constant_11 ⟨Nat.le_of_ble_eq_true rfl, Nat.le_of_ble_eq_true rfl⟩ hP hK hD hS hA hZ (fun H locs hP hD hS => ?_)
      generalize eu_3 : (p_append u 0 0 x1 0 0 x2).2.2 = u_3 at hP hD ⊢
      try rw [eu_3] at hok
      have e9 : p_constant u x1 x2 = (0, (p_append u 0 0 x1 0 0 x2).2.1, u_3) := by
        subst eu_3
        rw [p_constant, if_pos c_1, if_pos c_2]
      rw [e9] at hc
      exact absurd rfl hc
    · skip
      have e9 : p_constant u x1 x2 = ((p_append u 0 0 x1 0 0 x2).1, 0, (p_append u 0 0 x1 0 0 x2).2.2) := by rw [p_constant, if_pos c_1, if_neg c_2]
      rw [e9]
      refine kx_callVi (As := [.int 0, .int 0, .int x1, .int 0, .int 0, .int x2]) (rest := []) hzz ⟨hx, hb, hml, hown, hts⟩ (cx_append l hlt D ad cI cZ zz hzz tS hst hxs u 0 0 x1 0 0 x2 h_2 c_2) (cwV 6 hts (tb_V tw_2_21 tw_2_23 slX3_append tw_1_1 tw_2_24) rfl rfl rfl (by decide +kernel) ⟨Nat.le_of_ble_eq_true rfl, Nat.le_of_ble_eq_true rfl⟩) (va_recv hK hP (ci := 3) (q0 := 0) rfl rfl) rfl hl.1 rfl (lv_room (Nat.le_of_ble_eq_true rfl)) dX3_constant_11 ⟨Nat.le_of_ble_eq_true rfl, Nat.le_of_ble_eq_true rfl⟩ hP hK hD hS hA hZ (fun _ ce q9 H locs hP hD hS hce hcv hcl => ?_) (fun h => absurd h c_2)
      exact vx_out (fun x h => (hNo x h).elim) hlocks hce hcv hcl (fun t ht hvm => ⟨(), c_2, ⟨rfl, by rw [ht]; exact hP, va_K.moved hvm hK, hD⟩, hS.F ht⟩) hS.2.2 (by decide) (by decide)
  · skip
    have e9 : p_constant u x1 x2 = (p_needVariable x1, 0, u) := by rw [p_constant, if_neg c_1]
    rw [e9]
    refine kx_callSv (As := [.int x1]) (rest := []) hzz ⟨hx, hb, hml, hown, hts⟩ (cx_needVariable l hlt D ad cI cZ zz hzz tS hst hxs (wT ad cI cZ u) x1 c_1) (cwS 1 hts (tb_S tw_1_190 tw_1_191 tw_1_1 tw_1_192) rfl rfl rfl (by decide +kernel) ⟨Nat.le_of_ble_eq_true rfl, Nat.le_of_ble_eq_true rfl⟩) rfl hl.1 rfl (lv_room (Nat.le_of_ble_eq_true rfl)) dX3_constant_1 ⟨Nat.le_of_ble_eq_true rfl, Nat.le_of_ble_eq_true rfl⟩ hP hK hD hS hA hZ (fun _ ce q9 H locs hP hD hS hce hcv hcl => ?_) (fun h => absurd h c_1)
    exact vx_out (fun x h => (hNo x h).elim) hlocks hce hcv hcl (fun t ht hvm => ⟨(), c_1, ⟨rfl, by rw [ht]; exact hP, va_K.moved hvm hK, hD⟩, hS.F ht⟩) hS.2.2 (by decide) (by decide)

def p_compute (u : St) (x1 x2 x3 x4 : Int32) : Nat × Int32 × St := (if x1 < 0 then (1, 0, u) else (if x1 ≤ 7 then (if p_needVariable x2 = 0 then (if p_needVariable x3 = 0 then (if p_needVariable x4 = 0 then (if (p_append u 1 x1 x2 x3 x4 0).1 = 0 then (0, (p_append u 1 x1 x2 x3 x4 0).2.1, ((p_append u 1 x1 x2 x3 x4 0).2.2)) else ((p_append u 1 x1 x2 x3 x4 0).1, 0, (p_append u 1 x1 x2 x3 x4 0).2.2)) else (p_needVariable x4, 0, u)) else (p_needVariable x3, 0, u)) else (p_needVariable x2, 0, u)) else (1, 0, u)))
def ok_compute (u : St) (x1 x2 x3 x4 : Int32) : Prop := ((x1 < 0 → True) ∧ (¬ x1 < 0 → ((x1 ≤ 7 → ((p_needVariable x2 = 0 → ((p_needVariable x3 = 0 → ((p_needVariable x4 = 0 → (ok_append u 1 x1 x2 x3 x4 0 ∧ True)) ∧ (¬ p_needVariable x4 = 0 → True))) ∧ (¬ p_needVariable x3 = 0 → True))) ∧ (¬ p_needVariable x2 = 0 → True))) ∧ (¬ x1 ≤ 7 → True))))
set_option maxHeartbeats 4000000 in
set_option maxRecDepth 100000 in
theorem cr_compute (l : Launch) (D : va_G) (ad : Nat → Nat) (cI cZ : ClassId) (zz : (Nat → Prop) → State → Heap → Prop) (hzz : Zok zz) (tS : Nat) (hst : Zst zz tS) (u : St) (x1 x2 x3 x4 : Int32) (hok : ok_compute u x1 x2 x3 x4) (hc : (p_compute u x1 x2 x3 x4).1 = 0) : tfI l D vwCl (tyT cI cZ) zz yX3_compute wsX3_compute ({ frames := 7, cells := 0, slots := 0, locals := 116 } : Room) [.ref (ad 0), .int x1, .int x2, .int x3, .int x4] (wT ad cI cZ u) (p_compute u x1 x2 x3 x4).2.1 (wT ad cI cZ ((p_compute u x1 x2 x3 x4).2.2)) := by
  intro sz
  unfold ok_compute at hok
  refine Met.ofW (cc := cX3_compute) (maxL := 5) (ret := (some .int)) (by decide) rfl ?_
  intro p e s m args below meth c s₁ B hml hv
  obtain ⟨rfl, hsz, hP, hK, hD0, hZ⟩ := hv
  have hx := B.exec
  have hb := B.bytes
  have hr := B.returns
  have hts := atoms_spec (ws := wsX3_compute) B.pre
  have hown : s.vm.findClass RX3 = some m.cls := findClass_of_methodNamed B.named
  have hlocks := B.notSynchronized
  subst hsz
  have hD := hD0.self (sz := s.heap.size)
  generalize hAe : va_A (wT ad cI cZ u) s.heap.size = A at hD hZ ⊢
  have hA : ∀ q : Nat, s.heap.size ≤ q → A q := fun q h => by rw [← hAe]; exact Or.inr h
  have hS : va_S A s.heap s.heap [] := va_S.rf
  have hl := lv_entry ([.ref (ad 0), .int x1, .int x2, .int x3, .int x4]) (n := 5) (Nat.le_of_ble_eq_true rfl)
  rw [lg_entry_eq]
  generalize (lg_sl ([.ref (ad 0), .int x1, .int x2, .int x3, .int x4]) ++ List.replicate (5 - (lg_sl ([.ref (ad 0), .int x1, .int x2, .int x3, .int x4])).length) Slot.unset).toArray = ls at hl ⊢
  have hl : lv_has ls 5 [(0, .ref (ad 0)), (1, .int x1), (2, .int x2), (3, .int x3), (4, .int x4)] := hl
  refine lv_iload_n hx hb dX3_compute_0 rfl (lv_at hl 1 rfl) ?_
  refine lv_if_lt (tgt := 10) hx hb dX3_compute_1 (by decide) (fun c_1 => ?_) (fun c_1 => ?_)
  · have hok := hok.1 c_1
    have e9 : p_compute u x1 x2 x3 x4 = (1, 0, u) := by rw [p_compute, if_pos c_1]
    rw [e9] at hc
    exact absurd hc (show ¬ (1 : Nat) = 0 by decide)
  · have hok := hok.2 c_1
    refine lv_iload_n hx hb dX3_compute_4 rfl (lv_at hl 1 rfl) ?_
    refine lv_bipush (v := 7) hx hb dX3_compute_5 (by decide) ?_
    refine lv_icmp_le (tgt := 20) hx hb dX3_compute_7 (by decide) (fun c_2 => ?_) (fun c_2 => ?_)
    · have hok := hok.1 c_2
      refine lv_iload_n hx hb dX3_compute_20 rfl (lv_at hl 2 rfl) ?_
      rcases Classical.em (p_needVariable x2 = 0) with c_3 | c_3
      · have hok := hok.1 c_3
        refine k_callSv (As := [.int x2]) (rest := []) hzz ⟨hx, hb, hml, hown, hts⟩ (cr_needVariable l D ad cI cZ zz hzz tS hst (wT ad cI cZ u) x2 c_3) (cwS 1 hts (tb_S tw_1_190 tw_1_191 tw_1_1 tw_1_192) rfl rfl rfl (by decide +kernel) ⟨Nat.le_of_ble_eq_true rfl, Nat.le_of_ble_eq_true rfl⟩) rfl hl.1 rfl (lv_room (Nat.le_of_ble_eq_true rfl)) dX3_compute_21 ⟨Nat.le_of_ble_eq_true rfl, Nat.le_of_ble_eq_true rfl⟩ hP hK hD hS hA hZ (fun H locs hP hD hS => ?_)
        refine lv_iload_n hx hb dX3_compute_24 rfl (lv_at hl 3 rfl) ?_
        rcases Classical.em (p_needVariable x3 = 0) with c_4 | c_4
        · have hok := hok.1 c_4
          refine k_callSv (As := [.int x3]) (rest := []) hzz ⟨hx, hb, hml, hown, hts⟩ (cr_needVariable l D ad cI cZ zz hzz tS hst (wT ad cI cZ u) x3 c_4) (cwS 1 hts (tb_S tw_1_190 tw_1_191 tw_1_1 tw_1_192) rfl rfl rfl (by decide +kernel) ⟨Nat.le_of_ble_eq_true rfl, Nat.le_of_ble_eq_true rfl⟩) rfl hl.1 rfl (lv_room (Nat.le_of_ble_eq_true rfl)) dX3_compute_25 ⟨Nat.le_of_ble_eq_true rfl, Nat.le_of_ble_eq_true rfl⟩ hP hK hD hS hA hZ (fun H locs hP hD hS => ?_)
          refine lv_iload hx hb dX3_compute_28 (lv_at hl 4 rfl) ?_
          rcases Classical.em (p_needVariable x4 = 0) with c_5 | c_5
          · have hok := hok.1 c_5
            refine k_callSv (As := [.int x4]) (rest := []) hzz ⟨hx, hb, hml, hown, hts⟩ (cr_needVariable l D ad cI cZ zz hzz tS hst (wT ad cI cZ u) x4 c_5) (cwS 1 hts (tb_S tw_1_190 tw_1_191 tw_1_1 tw_1_192) rfl rfl rfl (by decide +kernel) ⟨Nat.le_of_ble_eq_true rfl, Nat.le_of_ble_eq_true rfl⟩) rfl hl.1 rfl (lv_room (Nat.le_of_ble_eq_true rfl)) dX3_compute_30 ⟨Nat.le_of_ble_eq_true rfl, Nat.le_of_ble_eq_true rfl⟩ hP hK hD hS hA hZ (fun H locs hP hD hS => ?_)
            refine lv_aload_n hx hb dX3_compute_33 rfl (lv_at hl 0 rfl) ?_
            refine lv_iconst (v := 1) hx hb dX3_compute_34 (by decide) ?_
            refine lv_iload_n hx hb dX3_compute_35 rfl (lv_at hl 1 rfl) ?_
            refine lv_iload_n hx hb dX3_compute_36 rfl (lv_at hl 2 rfl) ?_
            refine lv_iload_n hx hb dX3_compute_37 rfl (lv_at hl 3 rfl) ?_
            refine lv_iload hx hb dX3_compute_38 (lv_at hl 4 rfl) ?_
            refine lv_iconst (v := 0) hx hb dX3_compute_40 (by decide) ?_
            obtain ⟨h_6, hok⟩ := hok
            rcases Classical.em ((p_append u 1 x1 x2 x3 x4 0).1 = 0) with c_6 | c_6
            · skip
              refine k_callVi (As := [.int 1, .int x1, .int x2, .int x3, .int x4, .int 0]) (rest := []) hzz ⟨hx, hb, hml, hown, hts⟩ (cr_append l D ad cI cZ zz hzz tS hst u 1 x1 x2 x3 x4 0 h_6 c_6) (cwV 6 hts (tb_V tw_2_21 tw_2_23 slX3_append tw_1_1 tw_2_24) rfl rfl rfl (by decide +kernel) ⟨Nat.le_of_ble_eq_true rfl, Nat.le_of_ble_eq_true rfl⟩) (va_recv hK hP (ci := 3) (q0 := 0) rfl rfl) rfl hl.1 rfl (lv_room (Nat.le_of_ble_eq_true rfl)) dX3_compute_41 ⟨Nat.le_of_ble_eq_true rfl, Nat.le_of_ble_eq_true rfl⟩ hP hK hD hS hA hZ (fun H locs hP hD hS => ?_)
              generalize eu_7 : (p_append u 1 x1 x2 x3 x4 0).2.2 = u_7 at hP hD ⊢
              try rw [eu_7] at hok
              have e9 : p_compute u x1 x2 x3 x4 = (0, (p_append u 1 x1 x2 x3 x4 0).2.1, u_7) := by
                subst eu_7
                rw [p_compute, if_neg c_1, if_pos c_2, if_pos c_3, if_pos c_4, if_pos c_5, if_pos c_6]
              try rw [e9]
              exact W.iret hx hb hr (fun t ht hW => ⟨⟨_, (), rfl, rfl, by rw [ht]; exact hP, va_K.moved hW.alike hK, hD⟩, hS.F ht⟩) hS.2.2 dX3_compute_44
            · skip
              have e9 : p_compute u x1 x2 x3 x4 = ((p_append u 1 x1 x2 x3 x4 0).1, 0, (p_append u 1 x1 x2 x3 x4 0).2.2) := by rw [p_compute, if_neg c_1, if_pos c_2, if_pos c_3, if_pos c_4, if_pos c_5, if_neg c_6]
              rw [e9] at hc
              exact absurd hc c_6
          · skip
            have e9 : p_compute u x1 x2 x3 x4 = (p_needVariable x4, 0, u) := by rw [p_compute, if_neg c_1, if_pos c_2, if_pos c_3, if_pos c_4, if_neg c_5]
            rw [e9] at hc
            exact absurd hc c_5
        · skip
          have e9 : p_compute u x1 x2 x3 x4 = (p_needVariable x3, 0, u) := by rw [p_compute, if_neg c_1, if_pos c_2, if_pos c_3, if_neg c_4]
          rw [e9] at hc
          exact absurd hc c_4
      · skip
        have e9 : p_compute u x1 x2 x3 x4 = (p_needVariable x2, 0, u) := by rw [p_compute, if_neg c_1, if_pos c_2, if_neg c_3]
        rw [e9] at hc
        exact absurd hc c_3
    · have hok := hok.2 c_2
      have e9 : p_compute u x1 x2 x3 x4 = (1, 0, u) := by rw [p_compute, if_neg c_1, if_neg c_2]
      rw [e9] at hc
      exact absurd hc (show ¬ (1 : Nat) = 0 by decide)
set_option maxHeartbeats 4000000 in
set_option maxRecDepth 100000 in
theorem cx_compute (l : Launch) (hlt : l.stackTraces = false) (D : va_G) (ad : Nat → Nat) (cI cZ : ClassId) (zz : (Nat → Prop) → State → Heap → Prop) (hzz : Zok zz) (tS : Nat) (hst : Zst zz tS) (hxs : Zxs zz) (u : St) (x1 x2 x3 x4 : Int32) (hok : ok_compute u x1 x2 x3 x4) (hc : ¬ (p_compute u x1 x2 x3 x4).1 = 0) : txI l D vwCl (tyT cI cZ) zz yX3_compute wsX3_compute ({ frames := 7, cells := 1, slots := 6, locals := 116 } : Room) [.ref (ad 0), .int x1, .int x2, .int x3, .int x4] (wT ad cI cZ u) (p_compute u x1 x2 x3 x4).1 (p_compute u x1 x2 x3 x4).2.1 (wT ad cI cZ ((p_compute u x1 x2 x3 x4).2.2)) 1 6 := by
  intro sz
  unfold ok_compute at hok
  refine vx_ofW (cc := cX3_compute) (maxL := 5) (ret := (some .int)) (by decide) rfl ?_
  intro p e s m args below meth c s₁ B hml hNo hv
  obtain ⟨rfl, hsz, hP, hK, hD0, hZ⟩ := hv
  have hx := B.exec
  have hb := B.bytes
  have hr := B.returns
  have hts := atoms_spec (ws := wsX3_compute) B.pre
  have hown : s.vm.findClass RX3 = some m.cls := findClass_of_methodNamed B.named
  have hlocks := B.notSynchronized
  subst hsz
  have hD := hD0.self (sz := s.heap.size)
  generalize hAe : va_A (wT ad cI cZ u) s.heap.size = A at hD hZ ⊢
  have hA : ∀ q : Nat, s.heap.size ≤ q → A q := fun q h => by rw [← hAe]; exact Or.inr h
  have hS : va_S A s.heap s.heap [] := va_S.rf
  have hl := lv_entry ([.ref (ad 0), .int x1, .int x2, .int x3, .int x4]) (n := 5) (Nat.le_of_ble_eq_true rfl)
  rw [lg_entry_eq]
  generalize (lg_sl ([.ref (ad 0), .int x1, .int x2, .int x3, .int x4]) ++ List.replicate (5 - (lg_sl ([.ref (ad 0), .int x1, .int x2, .int x3, .int x4])).length) Slot.unset).toArray = ls at hl ⊢
  have hl : lv_has ls 5 [(0, .ref (ad 0)), (1, .int x1), (2, .int x2), (3, .int x3), (4, .int x4)] := hl
  refine lv_iload_n hx hb dX3_compute_0 rfl (lv_at hl 1 rfl) ?_
  refine lv_if_lt (tgt := 10) hx hb dX3_compute_1 (by decide) (fun c_1 => ?_) (fun c_1 => ?_)
  · have hok := hok.1 c_1
    have e9 : p_compute u x1 x2 x3 x4 = (1, 0, u) := by rw [p_compute, if_pos c_1]
    rw [e9]
    have hX := hxs _ _ _ hZ
    obtain ⟨sa, hsa⟩ := hX.2.2.1 (44, "no such operation") (by decide)
    exact vx_throwS (own := RX3) (cls := "java/lang/IllegalArgumentException") (names := xEN) hx hb hlt hown xfit1 xfit (hts _ (tb_c tw_1_193)) (hts _ (tb_c tw_1_9)) hsa (xhat1 hts hX.2.2.2) xgood1 hX.1 hX.2.1 hS (hl.1.trans hml.symm) dX3_compute_10 dX3_compute_13 dX3_compute_14 dX3_compute_16 dX3_compute_19 (fun x h => (hNo x h).elim) (Nat.le_of_ble_eq_true rfl) (Nat.le_of_ble_eq_true rfl) (Nat.le_of_ble_eq_true rfl) (Nat.le_of_ble_eq_true rfl) hlocks (fun t ha hsz hk => ⟨(), (show ¬ (1 : Nat) = 0 by decide), ⟨rfl, hP.kept (fun k q hq => hk q.1 (hP k q hq).lt), va_K.moved ha hK, hD⟩, Nat.le_trans hS.1 hsz, fun q h1 h2 => (hk q (Nat.lt_of_lt_of_le h1 hS.1)).trans (hS.2.1 q h1 h2)⟩) hS.2.2 (by decide) (by decide)
  · have hok := hok.2 c_1
    refine lv_iload_n hx hb dX3_compute_4 rfl (lv_at hl 1 rfl) ?_
    refine lv_bipush (v := 7) hx hb dX3_compute_5 (by decide) ?_
    refine lv_icmp_le (tgt := 20) hx hb dX3_compute_7 (by decide) (fun c_2 => ?_) (fun c_2 => ?_)
    · have hok := hok.1 c_2
      refine lv_iload_n hx hb dX3_compute_20 rfl (lv_at hl 2 rfl) ?_
      rcases Classical.em (p_needVariable x2 = 0) with c_3 | c_3
      · have hok := hok.1 c_3
        refine k_callSv (As := [.int x2]) (rest := []) hzz ⟨hx, hb, hml, hown, hts⟩ (cr_needVariable l D ad cI cZ zz hzz tS hst (wT ad cI cZ u) x2 c_3) (cwS 1 hts (tb_S tw_1_190 tw_1_191 tw_1_1 tw_1_192) rfl rfl rfl (by decide +kernel) ⟨Nat.le_of_ble_eq_true rfl, Nat.le_of_ble_eq_true rfl⟩) rfl hl.1 rfl (lv_room (Nat.le_of_ble_eq_true rfl)) dX3_compute_21 ⟨Nat.le_of_ble_eq_true rfl, Nat.le_of_ble_eq_true rfl⟩ hP hK hD hS hA hZ (fun H locs hP hD hS => ?_)
        refine lv_iload_n hx hb dX3_compute_24 rfl (lv_at hl 3 rfl) ?_
        rcases Classical.em (p_needVariable x3 = 0) with c_4 | c_4
        · have hok := hok.1 c_4
          refine k_callSv (As := [.int x3]) (rest := []) hzz ⟨hx, hb, hml, hown, hts⟩ (cr_needVariable l D ad cI cZ zz hzz tS hst (wT ad cI cZ u) x3 c_4) (cwS 1 hts (tb_S tw_1_190 tw_1_191 tw_1_1 tw_1_192) rfl rfl rfl (by decide +kernel) ⟨Nat.le_of_ble_eq_true rfl, Nat.le_of_ble_eq_true rfl⟩) rfl hl.1 rfl (lv_room (Nat.le_of_ble_eq_true rfl)) dX3_compute_25 ⟨Nat.le_of_ble_eq_true rfl, Nat.le_of_ble_eq_true rfl⟩ hP hK hD hS hA hZ (fun H locs hP hD hS => ?_)
          refine lv_iload hx hb dX3_compute_28 (lv_at hl 4 rfl) ?_
          rcases Classical.em (p_needVariable x4 = 0) with c_5 | c_5
          · have hok := hok.1 c_5
            refine k_callSv (As := [.int x4]) (rest := []) hzz ⟨hx, hb, hml, hown, hts⟩ (cr_needVariable l D ad cI cZ zz hzz tS hst (wT ad cI cZ u) x4 c_5) (cwS 1 hts (tb_S tw_1_190 tw_1_191 tw_1_1 tw_1_192) rfl rfl rfl (by decide +kernel) ⟨Nat.le_of_ble_eq_true rfl, Nat.le_of_ble_eq_true rfl⟩) rfl hl.1 rfl (lv_room (Nat.le_of_ble_eq_true rfl)) dX3_compute_30 ⟨Nat.le_of_ble_eq_true rfl, Nat.le_of_ble_eq_true rfl⟩ hP hK hD hS hA hZ (fun H locs hP hD hS => ?_)
            refine lv_aload_n hx hb dX3_compute_33 rfl (lv_at hl 0 rfl) ?_
            refine lv_iconst (v := 1) hx hb dX3_compute_34 (by decide) ?_
            refine lv_iload_n hx hb dX3_compute_35 rfl (lv_at hl 1 rfl) ?_
            refine lv_iload_n hx hb dX3_compute_36 rfl (lv_at hl 2 rfl) ?_
            refine lv_iload_n hx hb dX3_compute_37 rfl (lv_at hl 3 rfl) ?_
            refine lv_iload hx hb dX3_compute_38 (lv_at hl 4 rfl) ?_
            refine lv_iconst (v := 0) hx hb dX3_compute_40 (by decide) ?_
            obtain ⟨h_6, hok⟩ := hok
            rcases Classical.em ((p_append u 1 x1 x2 x3 x4 0).1 = 0) with c_6 | c_6
            · skip
              refine k_callVi (As := [.int 1, .int x1, .int x2, .int x3, .int x4, .int 0]) (rest := []) hzz ⟨hx, hb, hml, hown, hts⟩ (cr_append l D ad cI cZ zz hzz tS hst u 1 x1 x2 x3 x4 0 h_6 c_6) (cwV 6 hts (tb_V tw_2_21 tw_2_23 slX3_append tw_1_1 tw_2_24) rfl rfl rfl (by decide +kernel) ⟨Nat.le_of_ble_eq_true rfl, Nat.le_of_ble_eq_true rfl⟩) (va_recv hK hP (ci := 3) (q0 := 0) rfl rfl) rfl hl.1 rfl (lv_room (Nat.le_of_ble_eq_true rfl)) dX3_compute_41 ⟨Nat.le_of_ble_eq_true rfl, Nat.le_of_ble_eq_true rfl⟩ hP hK hD hS hA hZ (fun H locs hP hD hS => ?_)
              generalize eu_7 : (p_append u 1 x1 x2 x3 x4 0).2.2 = u_7 at hP hD ⊢
              try rw [eu_7] at hok
              have e9 : p_compute u x1 x2 x3 x4 = (0, (p_append u 1 x1 x2 x3 x4 0).2.1, u_7) := by
                subst eu_7
                rw [p_compute, if_neg c_1, if_pos c_2, if_pos c_3, if_pos c_4, if_pos c_5, if_pos c_6]
              rw [e9] at hc
              exact absurd rfl hc
            · skip
              have e9 : p_compute u x1 x2 x3 x4 = ((p_append u 1 x1 x2 x3 x4 0).1, 0, (p_append u 1 x1 x2 x3 x4 0).2.2) := by rw [p_compute, if_neg c_1, if_pos c_2, if_pos c_3, if_pos c_4, if_pos c_5, if_neg c_6]
              rw [e9]
              refine kx_callVi (As := [.int 1, .int x1, .int x2, .int x3, .int x4, .int 0]) (rest := []) hzz ⟨hx, hb, hml, hown, hts⟩ (cx_append l hlt D ad cI cZ zz hzz tS hst hxs u 1 x1 x2 x3 x4 0 h_6 c_6) (cwV 6 hts (tb_V tw_2_21 tw_2_23 slX3_append tw_1_1 tw_2_24) rfl rfl rfl (by decide +kernel) ⟨Nat.le_of_ble_eq_true rfl, Nat.le_of_ble_eq_true rfl⟩) (va_recv hK hP (ci := 3) (q0 := 0) rfl rfl) rfl hl.1 rfl (lv_room (Nat.le_of_ble_eq_true rfl)) dX3_compute_41 ⟨Nat.le_of_ble_eq_true rfl, Nat.le_of_ble_eq_true rfl⟩ hP hK hD hS hA hZ (fun _ ce q9 H locs hP hD hS hce hcv hcl => ?_) (fun h => absurd h c_6)
              exact vx_out (fun x h => (hNo x h).elim) hlocks hce hcv hcl (fun t ht hvm => ⟨(), c_6, ⟨rfl, by rw [ht]; exact hP, va_K.moved hvm hK, hD⟩, hS.F ht⟩) hS.2.2 (by decide) (by decide)
          · skip
            have e9 : p_compute u x1 x2 x3 x4 = (p_needVariable x4, 0, u) := by rw [p_compute, if_neg c_1, if_pos c_2, if_pos c_3, if_pos c_4, if_neg c_5]
            rw [e9]
            refine kx_callSv (As := [.int x4]) (rest := []) hzz ⟨hx, hb, hml, hown, hts⟩ (cx_needVariable l hlt D ad cI cZ zz hzz tS hst hxs (wT ad cI cZ u) x4 c_5) (cwS 1 hts (tb_S tw_1_190 tw_1_191 tw_1_1 tw_1_192) rfl rfl rfl (by decide +kernel) ⟨Nat.le_of_ble_eq_true rfl, Nat.le_of_ble_eq_true rfl⟩) rfl hl.1 rfl (lv_room (Nat.le_of_ble_eq_true rfl)) dX3_compute_30 ⟨Nat.le_of_ble_eq_true rfl, Nat.le_of_ble_eq_true rfl⟩ hP hK hD hS hA hZ (fun _ ce q9 H locs hP hD hS hce hcv hcl => ?_) (fun h => absurd h c_5)
            exact vx_out (fun x h => (hNo x h).elim) hlocks hce hcv hcl (fun t ht hvm => ⟨(), c_5, ⟨rfl, by rw [ht]; exact hP, va_K.moved hvm hK, hD⟩, hS.F ht⟩) hS.2.2 (by decide) (by decide)
        · skip
          have e9 : p_compute u x1 x2 x3 x4 = (p_needVariable x3, 0, u) := by rw [p_compute, if_neg c_1, if_pos c_2, if_pos c_3, if_neg c_4]
          rw [e9]
          refine kx_callSv (As := [.int x3]) (rest := []) hzz ⟨hx, hb, hml, hown, hts⟩ (cx_needVariable l hlt D ad cI cZ zz hzz tS hst hxs (wT ad cI cZ u) x3 c_4) (cwS 1 hts (tb_S tw_1_190 tw_1_191 tw_1_1 tw_1_192) rfl rfl rfl (by decide +kernel) ⟨Nat.le_of_ble_eq_true rfl, Nat.le_of_ble_eq_true rfl⟩) rfl hl.1 rfl (lv_room (Nat.le_of_ble_eq_true rfl)) dX3_compute_25 ⟨Nat.le_of_ble_eq_true rfl, Nat.le_of_ble_eq_true rfl⟩ hP hK hD hS hA hZ (fun _ ce q9 H locs hP hD hS hce hcv hcl => ?_) (fun h => absurd h c_4)
          exact vx_out (fun x h => (hNo x h).elim) hlocks hce hcv hcl (fun t ht hvm => ⟨(), c_4, ⟨rfl, by rw [ht]; exact hP, va_K.moved hvm hK, hD⟩, hS.F ht⟩) hS.2.2 (by decide) (by decide)
      · skip
        have e9 : p_compute u x1 x2 x3 x4 = (p_needVariable x2, 0, u) := by rw [p_compute, if_neg c_1, if_pos c_2, if_neg c_3]
        rw [e9]
        refine kx_callSv (As := [.int x2]) (rest := []) hzz ⟨hx, hb, hml, hown, hts⟩ (cx_needVariable l hlt D ad cI cZ zz hzz tS hst hxs (wT ad cI cZ u) x2 c_3) (cwS 1 hts (tb_S tw_1_190 tw_1_191 tw_1_1 tw_1_192) rfl rfl rfl (by decide +kernel) ⟨Nat.le_of_ble_eq_true rfl, Nat.le_of_ble_eq_true rfl⟩) rfl hl.1 rfl (lv_room (Nat.le_of_ble_eq_true rfl)) dX3_compute_21 ⟨Nat.le_of_ble_eq_true rfl, Nat.le_of_ble_eq_true rfl⟩ hP hK hD hS hA hZ (fun _ ce q9 H locs hP hD hS hce hcv hcl => ?_) (fun h => absurd h c_3)
        exact vx_out (fun x h => (hNo x h).elim) hlocks hce hcv hcl (fun t ht hvm => ⟨(), c_3, ⟨rfl, by rw [ht]; exact hP, va_K.moved hvm hK, hD⟩, hS.F ht⟩) hS.2.2 (by decide) (by decide)
    · have hok := hok.2 c_2
      have e9 : p_compute u x1 x2 x3 x4 = (1, 0, u) := by rw [p_compute, if_neg c_1, if_neg c_2]
      rw [e9]
      have hX := hxs _ _ _ hZ
      obtain ⟨sa, hsa⟩ := hX.2.2.1 (44, "no such operation") (by decide)
      exact vx_throwS (own := RX3) (cls := "java/lang/IllegalArgumentException") (names := xEN) hx hb hlt hown xfit1 xfit (hts _ (tb_c tw_1_193)) (hts _ (tb_c tw_1_9)) hsa (xhat1 hts hX.2.2.2) xgood1 hX.1 hX.2.1 hS (hl.1.trans hml.symm) dX3_compute_10 dX3_compute_13 dX3_compute_14 dX3_compute_16 dX3_compute_19 (fun x h => (hNo x h).elim) (Nat.le_of_ble_eq_true rfl) (Nat.le_of_ble_eq_true rfl) (Nat.le_of_ble_eq_true rfl) (Nat.le_of_ble_eq_true rfl) hlocks (fun t ha hsz hk => ⟨(), (show ¬ (1 : Nat) = 0 by decide), ⟨rfl, hP.kept (fun k q hq => hk q.1 (hP k q hq).lt), va_K.moved ha hK, hD⟩, Nat.le_trans hS.1 hsz, fun q h1 h2 => (hk q (Nat.lt_of_lt_of_le h1 hS.1)).trans (hS.2.1 q h1 h2)⟩) hS.2.2 (by decide) (by decide)

def p_load (u : St) (x1 x2 : Int32) : Nat × Int32 × St := (if p_needVariable x1 = 0 then (if p_needVariable x2 = 0 then (if (p_append u 2 0 x1 x2 0 0).1 = 0 then (0, (p_append u 2 0 x1 x2 0 0).2.1, ((p_append u 2 0 x1 x2 0 0).2.2)) else ((p_append u 2 0 x1 x2 0 0).1, 0, (p_append u 2 0 x1 x2 0 0).2.2)) else (p_needVariable x2, 0, u)) else (p_needVariable x1, 0, u))
def ok_load (u : St) (x1 x2 : Int32) : Prop := ((p_needVariable x1 = 0 → ((p_needVariable x2 = 0 → (ok_append u 2 0 x1 x2 0 0 ∧ True)) ∧ (¬ p_needVariable x2 = 0 → True))) ∧ (¬ p_needVariable x1 = 0 → True))
set_option maxHeartbeats 4000000 in
set_option maxRecDepth 100000 in
theorem cr_load (l : Launch) (D : va_G) (ad : Nat → Nat) (cI cZ : ClassId) (zz : (Nat → Prop) → State → Heap → Prop) (hzz : Zok zz) (tS : Nat) (hst : Zst zz tS) (u : St) (x1 x2 : Int32) (hok : ok_load u x1 x2) (hc : (p_load u x1 x2).1 = 0) : tfI l D vwCl (tyT cI cZ) zz yX3_load wsX3_load ({ frames := 7, cells := 0, slots := 0, locals := 116 } : Room) [.ref (ad 0), .int x1, .int x2] (wT ad cI cZ u) (p_load u x1 x2).2.1 (wT ad cI cZ ((p_load u x1 x2).2.2)) := by
  intro sz
  unfold ok_load at hok
  refine Met.ofW (cc := cX3_load) (maxL := 3) (ret := (some .int)) (by decide) rfl ?_
  intro p e s m args below meth c s₁ B hml hv
  obtain ⟨rfl, hsz, hP, hK, hD0, hZ⟩ := hv
  have hx := B.exec
  have hb := B.bytes
  have hr := B.returns
  have hts := atoms_spec (ws := wsX3_load) B.pre
  have hown : s.vm.findClass RX3 = some m.cls := findClass_of_methodNamed B.named
  have hlocks := B.notSynchronized
  subst hsz
  have hD := hD0.self (sz := s.heap.size)
  generalize hAe : va_A (wT ad cI cZ u) s.heap.size = A at hD hZ ⊢
  have hA : ∀ q : Nat, s.heap.size ≤ q → A q := fun q h => by rw [← hAe]; exact Or.inr h
  have hS : va_S A s.heap s.heap [] := va_S.rf
  have hl := lv_entry ([.ref (ad 0), .int x1, .int x2]) (n := 3) (Nat.le_of_ble_eq_true rfl)
  rw [lg_entry_eq]
  generalize (lg_sl ([.ref (ad 0), .int x1, .int x2]) ++ List.replicate (3 - (lg_sl ([.ref (ad 0), .int x1, .int x2])).length) Slot.unset).toArray = ls at hl ⊢
  have hl : lv_has ls 3 [(0, .ref (ad 0)), (1, .int x1), (2, .int x2)] := hl
  refine lv_iload_n hx hb dX3_load_0 rfl (lv_at hl 1 rfl) ?_
  rcases Classical.em (p_needVariable x1 = 0) with c_1 | c_1
  · have hok := hok.1 c_1
    refine k_callSv (As := [.int x1]) (rest := []) hzz ⟨hx, hb, hml, hown, hts⟩ (cr_needVariable l D ad cI cZ zz hzz tS hst (wT ad cI cZ u) x1 c_1) (cwS 1 hts (tb_S tw_1_190 tw_1_191 tw_1_1 tw_1_192) rfl rfl rfl (by decide +kernel) ⟨Nat.le_of_ble_eq_true rfl, Nat.le_of_ble_eq_true rfl⟩) rfl hl.1 rfl (lv_room (Nat.le_of_ble_eq_true rfl)) dX3_load_1 ⟨Nat.le_of_ble_eq_true rfl, Nat.le_of_ble_eq_true rfl⟩ hP hK hD hS hA hZ (fun H locs hP hD hS => ?_)
    refine lv_iload_n hx hb dX3_load_4 rfl (lv_at hl 2 rfl) ?_
    rcases Classical.em (p_needVariable x2 = 0) with c_2 | c_2
    · have hok := hok.1 c_2
      refine k_callSv (As := [.int x2]) (rest := []) hzz ⟨hx, hb, hml, hown, hts⟩ (cr_needVariable l D ad cI cZ zz hzz tS hst (wT ad cI cZ u) x2 c_2) (cwS 1 hts (tb_S tw_1_190 tw_1_191 tw_1_1 tw_1_192) rfl rfl rfl (by decide +kernel) ⟨Nat.le_of_ble_eq_true rfl, Nat.le_of_ble_eq_true rfl⟩) rfl hl.1 rfl (lv_room (Nat.le_of_ble_eq_true rfl)) dX3_load_5 ⟨Nat.le_of_ble_eq_true rfl, Nat.le_of_ble_eq_true rfl⟩ hP hK hD hS hA hZ (fun H locs hP hD hS => ?_)
      refine lv_aload_n hx hb dX3_load_8 rfl (lv_at hl 0 rfl) ?_
      refine lv_iconst (v := 2) hx hb dX3_load_9 (by decide) ?_
      refine lv_iconst (v := 0) hx hb dX3_load_10 (by decide) ?_
      refine lv_iload_n hx hb dX3_load_11 rfl (lv_at hl 1 rfl) ?_
      refine lv_iload_n hx hb dX3_load_12 rfl (lv_at hl 2 rfl) ?_
      refine lv_iconst (v := 0) hx hb dX3_load_13 (by decide) ?_
      refine lv_iconst (v := 0) hx hb dX3_load_14 (by decide) ?_
      obtain ⟨h_3, hok⟩ := hok
      rcases Classical.em ((p_append u 2 0 x1 x2 0 0).1 = 0) with c_3 | c_3
      · skip
        refine k_callVi (As := [.int 2, .int 0, .int x1, .int x2, .int 0, .int 0]) (rest := []) hzz ⟨hx, hb, hml, hown, hts⟩ (cr_append l D ad cI cZ zz hzz tS hst u 2 0 x1 x2 0 0 h_3 c_3) (cwV 6 hts (tb_V tw_2_21 tw_2_23 slX3_append tw_1_1 tw_2_24) rfl rfl rfl (by decide +kernel) ⟨Nat.le_of_ble_eq_true rfl, Nat.le_of_ble_eq_true rfl⟩) (va_recv hK hP (ci := 3) (q0 := 0) rfl rfl) rfl hl.1 rfl (lv_room (Nat.le_of_ble_eq_true rfl)) dX3_load_15 ⟨Nat.le_of_ble_eq_true rfl, Nat.le_of_ble_eq_true rfl⟩ hP hK hD hS hA hZ (fun H locs hP hD hS => ?_)
        generalize eu_4 : (p_append u 2 0 x1 x2 0 0).2.2 = u_4 at hP hD ⊢
        try rw [eu_4] at hok
        have e9 : p_load u x1 x2 = (0, (p_append u 2 0 x1 x2 0 0).2.1, u_4) := by
          subst eu_4
          rw [p_load, if_pos c_1, if_pos c_2, if_pos c_3]
        try rw [e9]
        exact W.iret hx hb hr (fun t ht hW => ⟨⟨_, (), rfl, rfl, by rw [ht]; exact hP, va_K.moved hW.alike hK, hD⟩, hS.F ht⟩) hS.2.2 dX3_load_18
      · skip
        have e9 : p_load u x1 x2 = ((p_append u 2 0 x1 x2 0 0).1, 0, (p_append u 2 0 x1 x2 0 0).2.2) := by rw [p_load, if_pos c_1, if_pos c_2, if_neg c_3]
        rw [e9] at hc
        exact absurd hc c_3
    · skip
      have e9 : p_load u x1 x2 = (p_needVariable x2, 0, u) := by rw [p_load, if_pos c_1, if_neg c_2]
      rw [e9] at hc
      exact absurd hc c_2
  · skip
    have e9 : p_load u x1 x2 = (p_needVariable x1, 0, u) := by rw [p_load, if_neg c_1]
    rw [e9] at hc
    exact absurd hc c_1
set_option maxHeartbeats 4000000 in
set_option maxRecDepth 100000 in
theorem cx_load (l : Launch) (hlt : l.stackTraces = false) (D : va_G) (ad : Nat → Nat) (cI cZ : ClassId) (zz : (Nat → Prop) → State → Heap → Prop) (hzz : Zok zz) (tS : Nat) (hst : Zst zz tS) (hxs : Zxs zz) (u : St) (x1 x2 : Int32) (hok : ok_load u x1 x2) (hc : ¬ (p_load u x1 x2).1 = 0) : txI l D vwCl (tyT cI cZ) zz yX3_load wsX3_load ({ frames := 7, cells := 1, slots := 6, locals := 116 } : Room) [.ref (ad 0), .int x1, .int x2] (wT ad cI cZ u) (p_load u x1 x2).1 (p_load u x1 x2).2.1 (wT ad cI cZ ((p_load u x1 x2).2.2)) 1 6 := by
  intro sz
  unfold ok_load at hok
  refine vx_ofW (cc := cX3_load) (maxL := 3) (ret := (some .int)) (by decide) rfl ?_
  intro p e s m args below meth c s₁ B hml hNo hv
  obtain ⟨rfl, hsz, hP, hK, hD0, hZ⟩ := hv
  have hx := B.exec
  have hb := B.bytes
  have hr := B.returns
  have hts := atoms_spec (ws := wsX3_load) B.pre
  have hown : s.vm.findClass RX3 = some m.cls := findClass_of_methodNamed B.named
  have hlocks := B.notSynchronized
  subst hsz
  have hD := hD0.self (sz := s.heap.size)
  generalize hAe : va_A (wT ad cI cZ u) s.heap.size = A at hD hZ ⊢
  have hA : ∀ q : Nat, s.heap.size ≤ q → A q := fun q h => by rw [← hAe]; exact Or.inr h
  have hS : va_S A s.heap s.heap [] := va_S.rf
  have hl := lv_entry ([.ref (ad 0), .int x1, .int x2]) (n := 3) (Nat.le_of_ble_eq_true rfl)
  rw [lg_entry_eq]
  generalize (lg_sl ([.ref (ad 0), .int x1, .int x2]) ++ List.replicate (3 - (lg_sl ([.ref (ad 0), .int x1, .int x2])).length) Slot.unset).toArray = ls at hl ⊢
  have hl : lv_has ls 3 [(0, .ref (ad 0)), (1, .int x1), (2, .int x2)] := hl
  refine lv_iload_n hx hb dX3_load_0 rfl (lv_at hl 1 rfl) ?_
  rcases Classical.em (p_needVariable x1 = 0) with c_1 | c_1
  · have hok := hok.1 c_1
    refine k_callSv (As := [.int x1]) (rest := []) hzz ⟨hx, hb, hml, hown, hts⟩ (cr_needVariable l D ad cI cZ zz hzz tS hst (wT ad cI cZ u) x1 c_1) (cwS 1 hts (tb_S tw_1_190 tw_1_191 tw_1_1 tw_1_192) rfl rfl rfl (by decide +kernel) ⟨Nat.le_of_ble_eq_true rfl, Nat.le_of_ble_eq_true rfl⟩) rfl hl.1 rfl (lv_room (Nat.le_of_ble_eq_true rfl)) dX3_load_1 ⟨Nat.le_of_ble_eq_true rfl, Nat.le_of_ble_eq_true rfl⟩ hP hK hD hS hA hZ (fun H locs hP hD hS => ?_)
    refine lv_iload_n hx hb dX3_load_4 rfl (lv_at hl 2 rfl) ?_
    rcases Classical.em (p_needVariable x2 = 0) with c_2 | c_2
    · have hok := hok.1 c_2
      refine k_callSv (As := [.int x2]) (rest := []) hzz ⟨hx, hb, hml, hown, hts⟩ (cr_needVariable l D ad cI cZ zz hzz tS hst (wT ad cI cZ u) x2 c_2) (cwS 1 hts (tb_S tw_1_190 tw_1_191 tw_1_1 tw_1_192) rfl rfl rfl (by decide +kernel) ⟨Nat.le_of_ble_eq_true rfl, Nat.le_of_ble_eq_true rfl⟩) rfl hl.1 rfl (lv_room (Nat.le_of_ble_eq_true rfl)) dX3_load_5 ⟨Nat.le_of_ble_eq_true rfl, Nat.le_of_ble_eq_true rfl⟩ hP hK hD hS hA hZ (fun H locs hP hD hS => ?_)
      refine lv_aload_n hx hb dX3_load_8 rfl (lv_at hl 0 rfl) ?_
      refine lv_iconst (v := 2) hx hb dX3_load_9 (by decide) ?_
      refine lv_iconst (v := 0) hx hb dX3_load_10 (by decide) ?_
      refine lv_iload_n hx hb dX3_load_11 rfl (lv_at hl 1 rfl) ?_
      refine lv_iload_n hx hb dX3_load_12 rfl (lv_at hl 2 rfl) ?_
      refine lv_iconst (v := 0) hx hb dX3_load_13 (by decide) ?_
      refine lv_iconst (v := 0) hx hb dX3_load_14 (by decide) ?_
      obtain ⟨h_3, hok⟩ := hok
      rcases Classical.em ((p_append u 2 0 x1 x2 0 0).1 = 0) with c_3 | c_3
      · skip
        refine k_callVi (As := [.int 2, .int 0, .int x1, .int x2, .int 0, .int 0]) (rest := []) hzz ⟨hx, hb, hml, hown, hts⟩ (cr_append l D ad cI cZ zz hzz tS hst u 2 0 x1 x2 0 0 h_3 c_3) (cwV 6 hts (tb_V tw_2_21 tw_2_23 slX3_append tw_1_1 tw_2_24) rfl rfl rfl (by decide +kernel) ⟨Nat.le_of_ble_eq_true rfl, Nat.le_of_ble_eq_true rfl⟩) (va_recv hK hP (ci := 3) (q0 := 0) rfl rfl) rfl hl.1 rfl (lv_room (Nat.le_of_ble_eq_true rfl)) dX3_load_15 ⟨Nat.le_of_ble_eq_true rfl, Nat.le_of_ble_eq_true rfl⟩ hP hK hD hS hA hZ (fun H locs hP hD hS => ?_)
        generalize eu_4 : (p_append u 2 0 x1 x2 0 0).2.2 = u_4 at hP hD ⊢
        try rw [eu_4] at hok
        have e9 : p_load u x1 x2 = (0, (p_append u 2 0 x1 x2 0 0).2.1, u_4) := by
          subst eu_4
          rw [p_load, if_pos c_1, if_pos c_2, if_pos c_3]
        rw [e9] at hc
        exact absurd rfl hc
      · skip
        have e9 : p_load u x1 x2 = ((p_append u 2 0 x1 x2 0 0).1, 0, (p_append u 2 0 x1 x2 0 0).2.2) := by rw [p_load, if_pos c_1, if_pos c_2, if_neg c_3]
        rw [e9]
        refine kx_callVi (As := [.int 2, .int 0, .int x1, .int x2, .int 0, .int 0]) (rest := []) hzz ⟨hx, hb, hml, hown, hts⟩ (cx_append l hlt D ad cI cZ zz hzz tS hst hxs u 2 0 x1 x2 0 0 h_3 c_3) (cwV 6 hts (tb_V tw_2_21 tw_2_23 slX3_append tw_1_1 tw_2_24) rfl rfl rfl (by decide +kernel) ⟨Nat.le_of_ble_eq_true rfl, Nat.le_of_ble_eq_true rfl⟩) (va_recv hK hP (ci := 3) (q0 := 0) rfl rfl) rfl hl.1 rfl (lv_room (Nat.le_of_ble_eq_true rfl)) dX3_load_15 ⟨Nat.le_of_ble_eq_true rfl, Nat.le_of_ble_eq_true rfl⟩ hP hK hD hS hA hZ (fun _ ce q9 H locs hP hD hS hce hcv hcl => ?_) (fun h => absurd h c_3)
        exact vx_out (fun x h => (hNo x h).elim) hlocks hce hcv hcl (fun t ht hvm => ⟨(), c_3, ⟨rfl, by rw [ht]; exact hP, va_K.moved hvm hK, hD⟩, hS.F ht⟩) hS.2.2 (by decide) (by decide)
    · skip
      have e9 : p_load u x1 x2 = (p_needVariable x2, 0, u) := by rw [p_load, if_pos c_1, if_neg c_2]
      rw [e9]
      refine kx_callSv (As := [.int x2]) (rest := []) hzz ⟨hx, hb, hml, hown, hts⟩ (cx_needVariable l hlt D ad cI cZ zz hzz tS hst hxs (wT ad cI cZ u) x2 c_2) (cwS 1 hts (tb_S tw_1_190 tw_1_191 tw_1_1 tw_1_192) rfl rfl rfl (by decide +kernel) ⟨Nat.le_of_ble_eq_true rfl, Nat.le_of_ble_eq_true rfl⟩) rfl hl.1 rfl (lv_room (Nat.le_of_ble_eq_true rfl)) dX3_load_5 ⟨Nat.le_of_ble_eq_true rfl, Nat.le_of_ble_eq_true rfl⟩ hP hK hD hS hA hZ (fun _ ce q9 H locs hP hD hS hce hcv hcl => ?_) (fun h => absurd h c_2)
      exact vx_out (fun x h => (hNo x h).elim) hlocks hce hcv hcl (fun t ht hvm => ⟨(), c_2, ⟨rfl, by rw [ht]; exact hP, va_K.moved hvm hK, hD⟩, hS.F ht⟩) hS.2.2 (by decide) (by decide)
  · skip
    have e9 : p_load u x1 x2 = (p_needVariable x1, 0, u) := by rw [p_load, if_neg c_1]
    rw [e9]
    refine kx_callSv (As := [.int x1]) (rest := []) hzz ⟨hx, hb, hml, hown, hts⟩ (cx_needVariable l hlt D ad cI cZ zz hzz tS hst hxs (wT ad cI cZ u) x1 c_1) (cwS 1 hts (tb_S tw_1_190 tw_1_191 tw_1_1 tw_1_192) rfl rfl rfl (by decide +kernel) ⟨Nat.le_of_ble_eq_true rfl, Nat.le_of_ble_eq_true rfl⟩) rfl hl.1 rfl (lv_room (Nat.le_of_ble_eq_true rfl)) dX3_load_1 ⟨Nat.le_of_ble_eq_true rfl, Nat.le_of_ble_eq_true rfl⟩ hP hK hD hS hA hZ (fun _ ce q9 H locs hP hD hS hce hcv hcl => ?_) (fun h => absurd h c_1)
    exact vx_out (fun x h => (hNo x h).elim) hlocks hce hcv hcl (fun t ht hvm => ⟨(), c_1, ⟨rfl, by rw [ht]; exact hP, va_K.moved hvm hK, hD⟩, hS.F ht⟩) hS.2.2 (by decide) (by decide)

def p_store (u : St) (x1 x2 : Int32) : Nat × Int32 × St := (if p_needVariable x1 = 0 then (if p_needVariable x2 = 0 then (if (p_append u 3 0 0 x1 x2 0).1 = 0 then (0, (p_append u 3 0 0 x1 x2 0).2.1, ((p_append u 3 0 0 x1 x2 0).2.2)) else ((p_append u 3 0 0 x1 x2 0).1, 0, (p_append u 3 0 0 x1 x2 0).2.2)) else (p_needVariable x2, 0, u)) else (p_needVariable x1, 0, u))
def ok_store (u : St) (x1 x2 : Int32) : Prop := ((p_needVariable x1 = 0 → ((p_needVariable x2 = 0 → (ok_append u 3 0 0 x1 x2 0 ∧ True)) ∧ (¬ p_needVariable x2 = 0 → True))) ∧ (¬ p_needVariable x1 = 0 → True))
set_option maxHeartbeats 4000000 in
set_option maxRecDepth 100000 in
theorem cr_store (l : Launch) (D : va_G) (ad : Nat → Nat) (cI cZ : ClassId) (zz : (Nat → Prop) → State → Heap → Prop) (hzz : Zok zz) (tS : Nat) (hst : Zst zz tS) (u : St) (x1 x2 : Int32) (hok : ok_store u x1 x2) (hc : (p_store u x1 x2).1 = 0) : tfI l D vwCl (tyT cI cZ) zz yX3_store wsX3_store ({ frames := 7, cells := 0, slots := 0, locals := 116 } : Room) [.ref (ad 0), .int x1, .int x2] (wT ad cI cZ u) (p_store u x1 x2).2.1 (wT ad cI cZ ((p_store u x1 x2).2.2)) := by
  intro sz
  unfold ok_store at hok
  refine Met.ofW (cc := cX3_store) (maxL := 3) (ret := (some .int)) (by decide) rfl ?_
  intro p e s m args below meth c s₁ B hml hv
  obtain ⟨rfl, hsz, hP, hK, hD0, hZ⟩ := hv
  have hx := B.exec
  have hb := B.bytes
  have hr := B.returns
  have hts := atoms_spec (ws := wsX3_store) B.pre
  have hown : s.vm.findClass RX3 = some m.cls := findClass_of_methodNamed B.named
  have hlocks := B.notSynchronized
  subst hsz
  have hD := hD0.self (sz := s.heap.size)
  generalize hAe : va_A (wT ad cI cZ u) s.heap.size = A at hD hZ ⊢
  have hA : ∀ q : Nat, s.heap.size ≤ q → A q := fun q h => by rw [← hAe]; exact Or.inr h
  have hS : va_S A s.heap s.heap [] := va_S.rf
  have hl := lv_entry ([.ref (ad 0), .int x1, .int x2]) (n := 3) (Nat.le_of_ble_eq_true rfl)
  rw [lg_entry_eq]
  generalize (lg_sl ([.ref (ad 0), .int x1, .int x2]) ++ List.replicate (3 - (lg_sl ([.ref (ad 0), .int x1, .int x2])).length) Slot.unset).toArray = ls at hl ⊢
  have hl : lv_has ls 3 [(0, .ref (ad 0)), (1, .int x1), (2, .int x2)] := hl
  refine lv_iload_n hx hb dX3_store_0 rfl (lv_at hl 1 rfl) ?_
  rcases Classical.em (p_needVariable x1 = 0) with c_1 | c_1
  · have hok := hok.1 c_1
    refine k_callSv (As := [.int x1]) (rest := []) hzz ⟨hx, hb, hml, hown, hts⟩ (cr_needVariable l D ad cI cZ zz hzz tS hst (wT ad cI cZ u) x1 c_1) (cwS 1 hts (tb_S tw_1_190 tw_1_191 tw_1_1 tw_1_192) rfl rfl rfl (by decide +kernel) ⟨Nat.le_of_ble_eq_true rfl, Nat.le_of_ble_eq_true rfl⟩) rfl hl.1 rfl (lv_room (Nat.le_of_ble_eq_true rfl)) dX3_store_1 ⟨Nat.le_of_ble_eq_true rfl, Nat.le_of_ble_eq_true rfl⟩ hP hK hD hS hA hZ (fun H locs hP hD hS => ?_)
    refine lv_iload_n hx hb dX3_store_4 rfl (lv_at hl 2 rfl) ?_
    rcases Classical.em (p_needVariable x2 = 0) with c_2 | c_2
    · have hok := hok.1 c_2
      refine k_callSv (As := [.int x2]) (rest := []) hzz ⟨hx, hb, hml, hown, hts⟩ (cr_needVariable l D ad cI cZ zz hzz tS hst (wT ad cI cZ u) x2 c_2) (cwS 1 hts (tb_S tw_1_190 tw_1_191 tw_1_1 tw_1_192) rfl rfl rfl (by decide +kernel) ⟨Nat.le_of_ble_eq_true rfl, Nat.le_of_ble_eq_true rfl⟩) rfl hl.1 rfl (lv_room (Nat.le_of_ble_eq_true rfl)) dX3_store_5 ⟨Nat.le_of_ble_eq_true rfl, Nat.le_of_ble_eq_true rfl⟩ hP hK hD hS hA hZ (fun H locs hP hD hS => ?_)
      refine lv_aload_n hx hb dX3_store_8 rfl (lv_at hl 0 rfl) ?_
      refine lv_iconst (v := 3) hx hb dX3_store_9 (by decide) ?_
      refine lv_iconst (v := 0) hx hb dX3_store_10 (by decide) ?_
      refine lv_iconst (v := 0) hx hb dX3_store_11 (by decide) ?_
      refine lv_iload_n hx hb dX3_store_12 rfl (lv_at hl 1 rfl) ?_
      refine lv_iload_n hx hb dX3_store_13 rfl (lv_at hl 2 rfl) ?_
      refine lv_iconst (v := 0) hx hb dX3_store_14 (by decide) ?_
      obtain ⟨h_3, hok⟩ := hok
      rcases Classical.em ((p_append u 3 0 0 x1 x2 0).1 = 0) with c_3 | c_3
      · skip
        refine k_callVi (As := [.int 3, .int 0, .int 0, .int x1, .int x2, .int 0]) (rest := []) hzz ⟨hx, hb, hml, hown, hts⟩ (cr_append l D ad cI cZ zz hzz tS hst u 3 0 0 x1 x2 0 h_3 c_3) (cwV 6 hts (tb_V tw_2_21 tw_2_23 slX3_append tw_1_1 tw_2_24) rfl rfl rfl (by decide +kernel) ⟨Nat.le_of_ble_eq_true rfl, Nat.le_of_ble_eq_true rfl⟩) (va_recv hK hP (ci := 3) (q0 := 0) rfl rfl) rfl hl.1 rfl (lv_room (Nat.le_of_ble_eq_true rfl)) dX3_store_15 ⟨Nat.le_of_ble_eq_true rfl, Nat.le_of_ble_eq_true rfl⟩ hP hK hD hS hA hZ (fun H locs hP hD hS => ?_)
        generalize eu_4 : (p_append u 3 0 0 x1 x2 0).2.2 = u_4 at hP hD ⊢
        try rw [eu_4] at hok
        have e9 : p_store u x1 x2 = (0, (p_append u 3 0 0 x1 x2 0).2.1, u_4) := by
          subst eu_4
          rw [p_store, if_pos c_1, if_pos c_2, if_pos c_3]
        try rw [e9]
        exact W.iret hx hb hr (fun t ht hW => ⟨⟨_, (), rfl, rfl, by rw [ht]; exact hP, va_K.moved hW.alike hK, hD⟩, hS.F ht⟩) hS.2.2 dX3_store_18
      · skip
        have e9 : p_store u x1 x2 = ((p_append u 3 0 0 x1 x2 0).1, 0, (p_append u 3 0 0 x1 x2 0).2.2) := by rw [p_store, if_pos c_1, if_pos c_2, if_neg c_3]
        rw [e9] at hc
        exact absurd hc c_3
    · skip
      have e9 : p_store u x1 x2 = (p_needVariable x2, 0, u) := by rw [p_store, if_pos c_1, if_neg c_2]
      rw [e9] at hc
      exact absurd hc c_2
  · skip
    have e9 : p_store u x1 x2 = (p_needVariable x1, 0, u) := by rw [p_store, if_neg c_1]
    rw [e9] at hc
    exact absurd hc c_1
set_option maxHeartbeats 4000000 in
set_option maxRecDepth 100000 in
theorem cx_store (l : Launch) (hlt : l.stackTraces = false) (D : va_G) (ad : Nat → Nat) (cI cZ : ClassId) (zz : (Nat → Prop) → State → Heap → Prop) (hzz : Zok zz) (tS : Nat) (hst : Zst zz tS) (hxs : Zxs zz) (u : St) (x1 x2 : Int32) (hok : ok_store u x1 x2) (hc : ¬ (p_store u x1 x2).1 = 0) : txI l D vwCl (tyT cI cZ) zz yX3_store wsX3_store ({ frames := 7, cells := 1, slots := 6, locals := 116 } : Room) [.ref (ad 0), .int x1, .int x2] (wT ad cI cZ u) (p_store u x1 x2).1 (p_store u x1 x2).2.1 (wT ad cI cZ ((p_store u x1 x2).2.2)) 1 6 := by
  intro sz
  unfold ok_store at hok
  refine vx_ofW (cc := cX3_store) (maxL := 3) (ret := (some .int)) (by decide) rfl ?_
  intro p e s m args below meth c s₁ B hml hNo hv
  obtain ⟨rfl, hsz, hP, hK, hD0, hZ⟩ := hv
  have hx := B.exec
  have hb := B.bytes
  have hr := B.returns
  have hts := atoms_spec (ws := wsX3_store) B.pre
  have hown : s.vm.findClass RX3 = some m.cls := findClass_of_methodNamed B.named
  have hlocks := B.notSynchronized
  subst hsz
  have hD := hD0.self (sz := s.heap.size)
  generalize hAe : va_A (wT ad cI cZ u) s.heap.size = A at hD hZ ⊢
  have hA : ∀ q : Nat, s.heap.size ≤ q → A q := fun q h => by rw [← hAe]; exact Or.inr h
  have hS : va_S A s.heap s.heap [] := va_S.rf
  have hl := lv_entry ([.ref (ad 0), .int x1, .int x2]) (n := 3) (Nat.le_of_ble_eq_true rfl)
  rw [lg_entry_eq]
  generalize (lg_sl ([.ref (ad 0), .int x1, .int x2]) ++ List.replicate (3 - (lg_sl ([.ref (ad 0), .int x1, .int x2])).length) Slot.unset).toArray = ls at hl ⊢
  have hl : lv_has ls 3 [(0, .ref (ad 0)), (1, .int x1), (2, .int x2)] := hl
  refine lv_iload_n hx hb dX3_store_0 rfl (lv_at hl 1 rfl) ?_
  rcases Classical.em (p_needVariable x1 = 0) with c_1 | c_1
  · have hok := hok.1 c_1
    refine k_callSv (As := [.int x1]) (rest := []) hzz ⟨hx, hb, hml, hown, hts⟩ (cr_needVariable l D ad cI cZ zz hzz tS hst (wT ad cI cZ u) x1 c_1) (cwS 1 hts (tb_S tw_1_190 tw_1_191 tw_1_1 tw_1_192) rfl rfl rfl (by decide +kernel) ⟨Nat.le_of_ble_eq_true rfl, Nat.le_of_ble_eq_true rfl⟩) rfl hl.1 rfl (lv_room (Nat.le_of_ble_eq_true rfl)) dX3_store_1 ⟨Nat.le_of_ble_eq_true rfl, Nat.le_of_ble_eq_true rfl⟩ hP hK hD hS hA hZ (fun H locs hP hD hS => ?_)
    refine lv_iload_n hx hb dX3_store_4 rfl (lv_at hl 2 rfl) ?_
    rcases Classical.em (p_needVariable x2 = 0) with c_2 | c_2
    · have hok := hok.1 c_2
      refine k_callSv (As := [.int x2]) (rest := []) hzz ⟨hx, hb, hml, hown, hts⟩ (cr_needVariable l D ad cI cZ zz hzz tS hst (wT ad cI cZ u) x2 c_2) (cwS 1 hts (tb_S tw_1_190 tw_1_191 tw_1_1 tw_1_192) rfl rfl rfl (by decide +kernel) ⟨Nat.le_of_ble_eq_true rfl, Nat.le_of_ble_eq_true rfl⟩) rfl hl.1 rfl (lv_room (Nat.le_of_ble_eq_true rfl)) dX3_store_5 ⟨Nat.le_of_ble_eq_true rfl, Nat.le_of_ble_eq_true rfl⟩ hP hK hD hS hA hZ (fun H locs hP hD hS => ?_)
      refine lv_aload_n hx hb dX3_store_8 rfl (lv_at hl 0 rfl) ?_
      refine lv_iconst (v := 3) hx hb dX3_store_9 (by decide) ?_
      refine lv_iconst (v := 0) hx hb dX3_store_10 (by decide) ?_
      refine lv_iconst (v := 0) hx hb dX3_store_11 (by decide) ?_
      refine lv_iload_n hx hb dX3_store_12 rfl (lv_at hl 1 rfl) ?_
      refine lv_iload_n hx hb dX3_store_13 rfl (lv_at hl 2 rfl) ?_
      refine lv_iconst (v := 0) hx hb dX3_store_14 (by decide) ?_
      obtain ⟨h_3, hok⟩ := hok
      rcases Classical.em ((p_append u 3 0 0 x1 x2 0).1 = 0) with c_3 | c_3
      · skip
        refine k_callVi (As := [.int 3, .int 0, .int 0, .int x1, .int x2, .int 0]) (rest := []) hzz ⟨hx, hb, hml, hown, hts⟩ (cr_append l D ad cI cZ zz hzz tS hst u 3 0 0 x1 x2 0 h_3 c_3) (cwV 6 hts (tb_V tw_2_21 tw_2_23 slX3_append tw_1_1 tw_2_24) rfl rfl rfl (by decide +kernel) ⟨Nat.le_of_ble_eq_true rfl, Nat.le_of_ble_eq_true rfl⟩) (va_recv hK hP (ci := 3) (q0 := 0) rfl rfl) rfl hl.1 rfl (lv_room (Nat.le_of_ble_eq_true rfl)) dX3_store_15 ⟨Nat.le_of_ble_eq_true rfl, Nat.le_of_ble_eq_true rfl⟩ hP hK hD hS hA hZ (fun H locs hP hD hS => ?_)
        generalize eu_4 : (p_append u 3 0 0 x1 x2 0).2.2 = u_4 at hP hD ⊢
        try rw [eu_4] at hok
        have e9 : p_store u x1 x2 = (0, (p_append u 3 0 0 x1 x2 0).2.1, u_4) := by
          subst eu_4
          rw [p_store, if_pos c_1, if_pos c_2, if_pos c_3]
        rw [e9] at hc
        exact absurd rfl hc
      · skip
        have e9 : p_store u x1 x2 = ((p_append u 3 0 0 x1 x2 0).1, 0, (p_append u 3 0 0 x1 x2 0).2.2) := by rw [p_store, if_pos c_1, if_pos c_2, if_neg c_3]
        rw [e9]
        refine kx_callVi (As := [.int 3, .int 0, .int 0, .int x1, .int x2, .int 0]) (rest := []) hzz ⟨hx, hb, hml, hown, hts⟩ (cx_append l hlt D ad cI cZ zz hzz tS hst hxs u 3 0 0 x1 x2 0 h_3 c_3) (cwV 6 hts (tb_V tw_2_21 tw_2_23 slX3_append tw_1_1 tw_2_24) rfl rfl rfl (by decide +kernel) ⟨Nat.le_of_ble_eq_true rfl, Nat.le_of_ble_eq_true rfl⟩) (va_recv hK hP (ci := 3) (q0 := 0) rfl rfl) rfl hl.1 rfl (lv_room (Nat.le_of_ble_eq_true rfl)) dX3_store_15 ⟨Nat.le_of_ble_eq_true rfl, Nat.le_of_ble_eq_true rfl⟩ hP hK hD hS hA hZ (fun _ ce q9 H locs hP hD hS hce hcv hcl => ?_) (fun h => absurd h c_3)
        exact vx_out (fun x h => (hNo x h).elim) hlocks hce hcv hcl (fun t ht hvm => ⟨(), c_3, ⟨rfl, by rw [ht]; exact hP, va_K.moved hvm hK, hD⟩, hS.F ht⟩) hS.2.2 (by decide) (by decide)
    · skip
      have e9 : p_store u x1 x2 = (p_needVariable x2, 0, u) := by rw [p_store, if_pos c_1, if_neg c_2]
      rw [e9]
      refine kx_callSv (As := [.int x2]) (rest := []) hzz ⟨hx, hb, hml, hown, hts⟩ (cx_needVariable l hlt D ad cI cZ zz hzz tS hst hxs (wT ad cI cZ u) x2 c_2) (cwS 1 hts (tb_S tw_1_190 tw_1_191 tw_1_1 tw_1_192) rfl rfl rfl (by decide +kernel) ⟨Nat.le_of_ble_eq_true rfl, Nat.le_of_ble_eq_true rfl⟩) rfl hl.1 rfl (lv_room (Nat.le_of_ble_eq_true rfl)) dX3_store_5 ⟨Nat.le_of_ble_eq_true rfl, Nat.le_of_ble_eq_true rfl⟩ hP hK hD hS hA hZ (fun _ ce q9 H locs hP hD hS hce hcv hcl => ?_) (fun h => absurd h c_2)
      exact vx_out (fun x h => (hNo x h).elim) hlocks hce hcv hcl (fun t ht hvm => ⟨(), c_2, ⟨rfl, by rw [ht]; exact hP, va_K.moved hvm hK, hD⟩, hS.F ht⟩) hS.2.2 (by decide) (by decide)
  · skip
    have e9 : p_store u x1 x2 = (p_needVariable x1, 0, u) := by rw [p_store, if_neg c_1]
    rw [e9]
    refine kx_callSv (As := [.int x1]) (rest := []) hzz ⟨hx, hb, hml, hown, hts⟩ (cx_needVariable l hlt D ad cI cZ zz hzz tS hst hxs (wT ad cI cZ u) x1 c_1) (cwS 1 hts (tb_S tw_1_190 tw_1_191 tw_1_1 tw_1_192) rfl rfl rfl (by decide +kernel) ⟨Nat.le_of_ble_eq_true rfl, Nat.le_of_ble_eq_true rfl⟩) rfl hl.1 rfl (lv_room (Nat.le_of_ble_eq_true rfl)) dX3_store_1 ⟨Nat.le_of_ble_eq_true rfl, Nat.le_of_ble_eq_true rfl⟩ hP hK hD hS hA hZ (fun _ ce q9 H locs hP hD hS hce hcv hcl => ?_) (fun h => absurd h c_1)
    exact vx_out (fun x h => (hNo x h).elim) hlocks hce hcv hcl (fun t ht hvm => ⟨(), c_1, ⟨rfl, by rw [ht]; exact hP, va_K.moved hvm hK, hD⟩, hS.F ht⟩) hS.2.2 (by decide) (by decide)

def p_jump (u : St) (x1 : Int32) : Nat × Int32 × St := (if p_needTarget x1 = 0 then (if (p_append u 4 0 0 0 0 x1).1 = 0 then (0, (p_append u 4 0 0 0 0 x1).2.1, ((p_append u 4 0 0 0 0 x1).2.2)) else ((p_append u 4 0 0 0 0 x1).1, 0, (p_append u 4 0 0 0 0 x1).2.2)) else (p_needTarget x1, 0, u))
def ok_jump (u : St) (x1 : Int32) : Prop := ((p_needTarget x1 = 0 → (ok_append u 4 0 0 0 0 x1 ∧ True)) ∧ (¬ p_needTarget x1 = 0 → True))
set_option maxHeartbeats 4000000 in
set_option maxRecDepth 100000 in
theorem cr_jump (l : Launch) (D : va_G) (ad : Nat → Nat) (cI cZ : ClassId) (zz : (Nat → Prop) → State → Heap → Prop) (hzz : Zok zz) (tS : Nat) (hst : Zst zz tS) (u : St) (x1 : Int32) (hok : ok_jump u x1) (hc : (p_jump u x1).1 = 0) : tfI l D vwCl (tyT cI cZ) zz yX3_jump wsX3_jump ({ frames := 7, cells := 0, slots := 0, locals := 116 } : Room) [.ref (ad 0), .int x1] (wT ad cI cZ u) (p_jump u x1).2.1 (wT ad cI cZ ((p_jump u x1).2.2)) := by
  intro sz
  unfold ok_jump at hok
  refine Met.ofW (cc := cX3_jump) (maxL := 2) (ret := (some .int)) (by decide) rfl ?_
  intro p e s m args below meth c s₁ B hml hv
  obtain ⟨rfl, hsz, hP, hK, hD0, hZ⟩ := hv
  have hx := B.exec
  have hb := B.bytes
  have hr := B.returns
  have hts := atoms_spec (ws := wsX3_jump) B.pre
  have hown : s.vm.findClass RX3 = some m.cls := findClass_of_methodNamed B.named
  have hlocks := B.notSynchronized
  subst hsz
  have hD := hD0.self (sz := s.heap.size)
  generalize hAe : va_A (wT ad cI cZ u) s.heap.size = A at hD hZ ⊢
  have hA : ∀ q : Nat, s.heap.size ≤ q → A q := fun q h => by rw [← hAe]; exact Or.inr h
  have hS : va_S A s.heap s.heap [] := va_S.rf
  have hl := lv_entry ([.ref (ad 0), .int x1]) (n := 2) (Nat.le_of_ble_eq_true rfl)
  rw [lg_entry_eq]
  generalize (lg_sl ([.ref (ad 0), .int x1]) ++ List.replicate (2 - (lg_sl ([.ref (ad 0), .int x1])).length) Slot.unset).toArray = ls at hl ⊢
  have hl : lv_has ls 2 [(0, .ref (ad 0)), (1, .int x1)] := hl
  refine lv_iload_n hx hb dX3_jump_0 rfl (lv_at hl 1 rfl) ?_
  rcases Classical.em (p_needTarget x1 = 0) with c_1 | c_1
  · have hok := hok.1 c_1
    refine k_callSv (As := [.int x1]) (rest := []) hzz ⟨hx, hb, hml, hown, hts⟩ (cr_needTarget l D ad cI cZ zz hzz tS hst (wT ad cI cZ u) x1 c_1) (cwS 1 hts (tb_S tw_2_74 tw_2_75 tw_1_1 tw_2_76) rfl rfl rfl (by decide +kernel) ⟨Nat.le_of_ble_eq_true rfl, Nat.le_of_ble_eq_true rfl⟩) rfl hl.1 rfl (lv_room (Nat.le_of_ble_eq_true rfl)) dX3_jump_1 ⟨Nat.le_of_ble_eq_true rfl, Nat.le_of_ble_eq_true rfl⟩ hP hK hD hS hA hZ (fun H locs hP hD hS => ?_)
    refine lv_aload_n hx hb dX3_jump_4 rfl (lv_at hl 0 rfl) ?_
    refine lv_iconst (v := 4) hx hb dX3_jump_5 (by decide) ?_
    refine lv_iconst (v := 0) hx hb dX3_jump_6 (by decide) ?_
    refine lv_iconst (v := 0) hx hb dX3_jump_7 (by decide) ?_
    refine lv_iconst (v := 0) hx hb dX3_jump_8 (by decide) ?_
    refine lv_iconst (v := 0) hx hb dX3_jump_9 (by decide) ?_
    refine lv_iload_n hx hb dX3_jump_10 rfl (lv_at hl 1 rfl) ?_
    obtain ⟨h_2, hok⟩ := hok
    rcases Classical.em ((p_append u 4 0 0 0 0 x1).1 = 0) with c_2 | c_2
    · skip
      refine k_callVi (As := [.int 4, .int 0, .int 0, .int 0, .int 0, .int x1]) (rest := []) hzz ⟨hx, hb, hml, hown, hts⟩ (cr_append l D ad cI cZ zz hzz tS hst u 4 0 0 0 0 x1 h_2 c_2) (cwV 6 hts (tb_V tw_2_21 tw_2_23 slX3_append tw_1_1 tw_2_24) rfl rfl rfl (by decide +kernel) ⟨Nat.le_of_ble_eq_true rfl, Nat.le_of_ble_eq_true rfl⟩) (va_recv hK hP (ci := 3) (q0 := 0) rfl rfl) rfl hl.1 rfl (lv_room (Nat.le_of_ble_eq_true rfl)) dX3_jump_11 ⟨Nat.le_of_ble_eq_true rfl, Nat.le_of_ble_eq_true rfl⟩ hP hK hD hS hA hZ (fun H locs hP hD hS => ?_)
      generalize eu_3 : (p_append u 4 0 0 0 0 x1).2.2 = u_3 at hP hD ⊢
      try rw [eu_3] at hok
      have e9 : p_jump u x1 = (0, (p_append u 4 0 0 0 0 x1).2.1, u_3) := by
        subst eu_3
        rw [p_jump, if_pos c_1, if_pos c_2]
      try rw [e9]
      exact W.iret hx hb hr (fun t ht hW => ⟨⟨_, (), rfl, rfl, by rw [ht]; exact hP, va_K.moved hW.alike hK, hD⟩, hS.F ht⟩) hS.2.2 dX3_jump_14
    · skip
      have e9 : p_jump u x1 = ((p_append u 4 0 0 0 0 x1).1, 0, (p_append u 4 0 0 0 0 x1).2.2) := by rw [p_jump, if_pos c_1, if_neg c_2]
      rw [e9] at hc
      exact absurd hc c_2
  · skip
    have e9 : p_jump u x1 = (p_needTarget x1, 0, u) := by rw [p_jump, if_neg c_1]
    rw [e9] at hc
    exact absurd hc c_1
set_option maxHeartbeats 4000000 in
set_option maxRecDepth 100000 in
theorem cx_jump (l : Launch) (hlt : l.stackTraces = false) (D : va_G) (ad : Nat → Nat) (cI cZ : ClassId) (zz : (Nat → Prop) → State → Heap → Prop) (hzz : Zok zz) (tS : Nat) (hst : Zst zz tS) (hxs : Zxs zz) (u : St) (x1 : Int32) (hok : ok_jump u x1) (hc : ¬ (p_jump u x1).1 = 0) : txI l D vwCl (tyT cI cZ) zz yX3_jump wsX3_jump ({ frames := 7, cells := 1, slots := 6, locals := 116 } : Room) [.ref (ad 0), .int x1] (wT ad cI cZ u) (p_jump u x1).1 (p_jump u x1).2.1 (wT ad cI cZ ((p_jump u x1).2.2)) 1 6 := by
  intro sz
  unfold ok_jump at hok
  refine vx_ofW (cc := cX3_jump) (maxL := 2) (ret := (some .int)) (by decide) rfl ?_
  intro p e s m args below meth c s₁ B hml hNo hv
  obtain ⟨rfl, hsz, hP, hK, hD0, hZ⟩ := hv
  have hx := B.exec
  have hb := B.bytes
  have hr := B.returns
  have hts := atoms_spec (ws := wsX3_jump) B.pre
  have hown : s.vm.findClass RX3 = some m.cls := findClass_of_methodNamed B.named
  have hlocks := B.notSynchronized
  subst hsz
  have hD := hD0.self (sz := s.heap.size)
  generalize hAe : va_A (wT ad cI cZ u) s.heap.size = A at hD hZ ⊢
  have hA : ∀ q : Nat, s.heap.size ≤ q → A q := fun q h => by rw [← hAe]; exact Or.inr h
  have hS : va_S A s.heap s.heap [] := va_S.rf
  have hl := lv_entry ([.ref (ad 0), .int x1]) (n := 2) (Nat.le_of_ble_eq_true rfl)
  rw [lg_entry_eq]
  generalize (lg_sl ([.ref (ad 0), .int x1]) ++ List.replicate (2 - (lg_sl ([.ref (ad 0), .int x1])).length) Slot.unset).toArray = ls at hl ⊢
  have hl : lv_has ls 2 [(0, .ref (ad 0)), (1, .int x1)] := hl
  refine lv_iload_n hx hb dX3_jump_0 rfl (lv_at hl 1 rfl) ?_
  rcases Classical.em (p_needTarget x1 = 0) with c_1 | c_1
  · have hok := hok.1 c_1
    refine k_callSv (As := [.int x1]) (rest := []) hzz ⟨hx, hb, hml, hown, hts⟩ (cr_needTarget l D ad cI cZ zz hzz tS hst (wT ad cI cZ u) x1 c_1) (cwS 1 hts (tb_S tw_2_74 tw_2_75 tw_1_1 tw_2_76) rfl rfl rfl (by decide +kernel) ⟨Nat.le_of_ble_eq_true rfl, Nat.le_of_ble_eq_true rfl⟩) rfl hl.1 rfl (lv_room (Nat.le_of_ble_eq_true rfl)) dX3_jump_1 ⟨Nat.le_of_ble_eq_true rfl, Nat.le_of_ble_eq_true rfl⟩ hP hK hD hS hA hZ (fun H locs hP hD hS => ?_)
    refine lv_aload_n hx hb dX3_jump_4 rfl (lv_at hl 0 rfl) ?_
    refine lv_iconst (v := 4) hx hb dX3_jump_5 (by decide) ?_
    refine lv_iconst (v := 0) hx hb dX3_jump_6 (by decide) ?_
    refine lv_iconst (v := 0) hx hb dX3_jump_7 (by decide) ?_
    refine lv_iconst (v := 0) hx hb dX3_jump_8 (by decide) ?_
    refine lv_iconst (v := 0) hx hb dX3_jump_9 (by decide) ?_
    refine lv_iload_n hx hb dX3_jump_10 rfl (lv_at hl 1 rfl) ?_
    obtain ⟨h_2, hok⟩ := hok
    rcases Classical.em ((p_append u 4 0 0 0 0 x1).1 = 0) with c_2 | c_2
    · skip
      refine k_callVi (As := [.int 4, .int 0, .int 0, .int 0, .int 0, .int x1]) (rest := []) hzz ⟨hx, hb, hml, hown, hts⟩ (cr_append l D ad cI cZ zz hzz tS hst u 4 0 0 0 0 x1 h_2 c_2) (cwV 6 hts (tb_V tw_2_21 tw_2_23 slX3_append tw_1_1 tw_2_24) rfl rfl rfl (by decide +kernel) ⟨Nat.le_of_ble_eq_true rfl, Nat.le_of_ble_eq_true rfl⟩) (va_recv hK hP (ci := 3) (q0 := 0) rfl rfl) rfl hl.1 rfl (lv_room (Nat.le_of_ble_eq_true rfl)) dX3_jump_11 ⟨Nat.le_of_ble_eq_true rfl, Nat.le_of_ble_eq_true rfl⟩ hP hK hD hS hA hZ (fun H locs hP hD hS => ?_)
      generalize eu_3 : (p_append u 4 0 0 0 0 x1).2.2 = u_3 at hP hD ⊢
      try rw [eu_3] at hok
      have e9 : p_jump u x1 = (0, (p_append u 4 0 0 0 0 x1).2.1, u_3) := by
        subst eu_3
        rw [p_jump, if_pos c_1, if_pos c_2]
      rw [e9] at hc
      exact absurd rfl hc
    · skip
      have e9 : p_jump u x1 = ((p_append u 4 0 0 0 0 x1).1, 0, (p_append u 4 0 0 0 0 x1).2.2) := by rw [p_jump, if_pos c_1, if_neg c_2]
      rw [e9]
      refine kx_callVi (As := [.int 4, .int 0, .int 0, .int 0, .int 0, .int x1]) (rest := []) hzz ⟨hx, hb, hml, hown, hts⟩ (cx_append l hlt D ad cI cZ zz hzz tS hst hxs u 4 0 0 0 0 x1 h_2 c_2) (cwV 6 hts (tb_V tw_2_21 tw_2_23 slX3_append tw_1_1 tw_2_24) rfl rfl rfl (by decide +kernel) ⟨Nat.le_of_ble_eq_true rfl, Nat.le_of_ble_eq_true rfl⟩) (va_recv hK hP (ci := 3) (q0 := 0) rfl rfl) rfl hl.1 rfl (lv_room (Nat.le_of_ble_eq_true rfl)) dX3_jump_11 ⟨Nat.le_of_ble_eq_true rfl, Nat.le_of_ble_eq_true rfl⟩ hP hK hD hS hA hZ (fun _ ce q9 H locs hP hD hS hce hcv hcl => ?_) (fun h => absurd h c_2)
      exact vx_out (fun x h => (hNo x h).elim) hlocks hce hcv hcl (fun t ht hvm => ⟨(), c_2, ⟨rfl, by rw [ht]; exact hP, va_K.moved hvm hK, hD⟩, hS.F ht⟩) hS.2.2 (by decide) (by decide)
  · skip
    have e9 : p_jump u x1 = (p_needTarget x1, 0, u) := by rw [p_jump, if_neg c_1]
    rw [e9]
    refine kx_callSv (As := [.int x1]) (rest := []) hzz ⟨hx, hb, hml, hown, hts⟩ (cx_needTarget l hlt D ad cI cZ zz hzz tS hst hxs (wT ad cI cZ u) x1 c_1) (cwS 1 hts (tb_S tw_2_74 tw_2_75 tw_1_1 tw_2_76) rfl rfl rfl (by decide +kernel) ⟨Nat.le_of_ble_eq_true rfl, Nat.le_of_ble_eq_true rfl⟩) rfl hl.1 rfl (lv_room (Nat.le_of_ble_eq_true rfl)) dX3_jump_1 ⟨Nat.le_of_ble_eq_true rfl, Nat.le_of_ble_eq_true rfl⟩ hP hK hD hS hA hZ (fun _ ce q9 H locs hP hD hS hce hcv hcl => ?_) (fun h => absurd h c_1)
    exact vx_out (fun x h => (hNo x h).elim) hlocks hce hcv hcl (fun t ht hvm => ⟨(), c_1, ⟨rfl, by rw [ht]; exact hP, va_K.moved hvm hK, hD⟩, hS.F ht⟩) hS.2.2 (by decide) (by decide)

def p_branch (u : St) (x1 x2 x3 x4 : Int32) : Nat × Int32 × St := (if (p_isRelation x1) = 0 then (1, 0, u) else (if p_needVariable x2 = 0 then (if p_needVariable x3 = 0 then (if p_needTarget x4 = 0 then (if (p_append u 5 x1 0 x2 x3 x4).1 = 0 then (0, (p_append u 5 x1 0 x2 x3 x4).2.1, ((p_append u 5 x1 0 x2 x3 x4).2.2)) else ((p_append u 5 x1 0 x2 x3 x4).1, 0, (p_append u 5 x1 0 x2 x3 x4).2.2)) else (p_needTarget x4, 0, u)) else (p_needVariable x3, 0, u)) else (p_needVariable x2, 0, u)))
def ok_branch (u : St) (x1 x2 x3 x4 : Int32) : Prop := (((p_isRelation x1) = 0 → True) ∧ (¬ (p_isRelation x1) = 0 → ((p_needVariable x2 = 0 → ((p_needVariable x3 = 0 → ((p_needTarget x4 = 0 → (ok_append u 5 x1 0 x2 x3 x4 ∧ True)) ∧ (¬ p_needTarget x4 = 0 → True))) ∧ (¬ p_needVariable x3 = 0 → True))) ∧ (¬ p_needVariable x2 = 0 → True))))
set_option maxHeartbeats 4000000 in
set_option maxRecDepth 100000 in
theorem cr_branch (l : Launch) (D : va_G) (ad : Nat → Nat) (cI cZ : ClassId) (zz : (Nat → Prop) → State → Heap → Prop) (hzz : Zok zz) (tS : Nat) (hst : Zst zz tS) (u : St) (x1 x2 x3 x4 : Int32) (hok : ok_branch u x1 x2 x3 x4) (hc : (p_branch u x1 x2 x3 x4).1 = 0) : tfI l D vwCl (tyT cI cZ) zz yX3_branch wsX3_branch ({ frames := 7, cells := 0, slots := 0, locals := 116 } : Room) [.ref (ad 0), .int x1, .int x2, .int x3, .int x4] (wT ad cI cZ u) (p_branch u x1 x2 x3 x4).2.1 (wT ad cI cZ ((p_branch u x1 x2 x3 x4).2.2)) := by
  intro sz
  unfold ok_branch at hok
  refine Met.ofW (cc := cX3_branch) (maxL := 5) (ret := (some .int)) (by decide) rfl ?_
  intro p e s m args below meth c s₁ B hml hv
  obtain ⟨rfl, hsz, hP, hK, hD0, hZ⟩ := hv
  have hx := B.exec
  have hb := B.bytes
  have hr := B.returns
  have hts := atoms_spec (ws := wsX3_branch) B.pre
  have hown : s.vm.findClass RX3 = some m.cls := findClass_of_methodNamed B.named
  have hlocks := B.notSynchronized
  subst hsz
  have hD := hD0.self (sz := s.heap.size)
  generalize hAe : va_A (wT ad cI cZ u) s.heap.size = A at hD hZ ⊢
  have hA : ∀ q : Nat, s.heap.size ≤ q → A q := fun q h => by rw [← hAe]; exact Or.inr h
  have hS : va_S A s.heap s.heap [] := va_S.rf
  have hl := lv_entry ([.ref (ad 0), .int x1, .int x2, .int x3, .int x4]) (n := 5) (Nat.le_of_ble_eq_true rfl)
  rw [lg_entry_eq]
  generalize (lg_sl ([.ref (ad 0), .int x1, .int x2, .int x3, .int x4]) ++ List.replicate (5 - (lg_sl ([.ref (ad 0), .int x1, .int x2, .int x3, .int x4])).length) Slot.unset).toArray = ls at hl ⊢
  have hl : lv_has ls 5 [(0, .ref (ad 0)), (1, .int x1), (2, .int x2), (3, .int x3), (4, .int x4)] := hl
  refine lv_iload_n hx hb dX3_branch_0 rfl (lv_at hl 1 rfl) ?_
  refine k_callSi (As := [.int x1]) (rest := []) hzz ⟨hx, hb, hml, hown, hts⟩ (c_isRelation l D ad cI cZ zz hzz tS hst (wT ad cI cZ u) x1) (cwS 1 hts (tb_S tw_2_85 tw_2_86 tw_1_1 tw_2_87) rfl rfl rfl (by decide +kernel) ⟨Nat.le_of_ble_eq_true rfl, Nat.le_of_ble_eq_true rfl⟩) rfl hl.1 rfl (lv_room (Nat.le_of_ble_eq_true rfl)) dX3_branch_1 ⟨Nat.le_of_ble_eq_true rfl, Nat.le_of_ble_eq_true rfl⟩ hP hK hD hS hA hZ (fun H locs hP hD hS => ?_)
  refine lv_if_ne (tgt := 17) hx hb dX3_branch_4 (by decide) (fun c_2 => ?_) (fun c_2 => ?_)
  · have hok := hok.2 c_2
    refine lv_iload_n hx hb dX3_branch_17 rfl (lv_at hl 2 rfl) ?_
    rcases Classical.em (p_needVariable x2 = 0) with c_3 | c_3
    · have hok := hok.1 c_3
      refine k_callSv (As := [.int x2]) (rest := []) hzz ⟨hx, hb, hml, hown, hts⟩ (cr_needVariable l D ad cI cZ zz hzz tS hst (wT ad cI cZ u) x2 c_3) (cwS 1 hts (tb_S tw_1_190 tw_1_191 tw_1_1 tw_1_192) rfl rfl rfl (by decide +kernel) ⟨Nat.le_of_ble_eq_true rfl, Nat.le_of_ble_eq_true rfl⟩) rfl hl.1 rfl (lv_room (Nat.le_of_ble_eq_true rfl)) dX3_branch_18 ⟨Nat.le_of_ble_eq_true rfl, Nat.le_of_ble_eq_true rfl⟩ hP hK hD hS hA hZ (fun H locs hP hD hS => ?_)
      refine lv_iload_n hx hb dX3_branch_21 rfl (lv_at hl 3 rfl) ?_
      rcases Classical.em (p_needVariable x3 = 0) with c_4 | c_4
      · have hok := hok.1 c_4
        refine k_callSv (As := [.int x3]) (rest := []) hzz ⟨hx, hb, hml, hown, hts⟩ (cr_needVariable l D ad cI cZ zz hzz tS hst (wT ad cI cZ u) x3 c_4) (cwS 1 hts (tb_S tw_1_190 tw_1_191 tw_1_1 tw_1_192) rfl rfl rfl (by decide +kernel) ⟨Nat.le_of_ble_eq_true rfl, Nat.le_of_ble_eq_true rfl⟩) rfl hl.1 rfl (lv_room (Nat.le_of_ble_eq_true rfl)) dX3_branch_22 ⟨Nat.le_of_ble_eq_true rfl, Nat.le_of_ble_eq_true rfl⟩ hP hK hD hS hA hZ (fun H locs hP hD hS => ?_)
        refine lv_iload hx hb dX3_branch_25 (lv_at hl 4 rfl) ?_
        rcases Classical.em (p_needTarget x4 = 0) with c_5 | c_5
        · have hok := hok.1 c_5
          refine k_callSv (As := [.int x4]) (rest := []) hzz ⟨hx, hb, hml, hown, hts⟩ (cr_needTarget l D ad cI cZ zz hzz tS hst (wT ad cI cZ u) x4 c_5) (cwS 1 hts (tb_S tw_2_74 tw_2_75 tw_1_1 tw_2_76) rfl rfl rfl (by decide +kernel) ⟨Nat.le_of_ble_eq_true rfl, Nat.le_of_ble_eq_true rfl⟩) rfl hl.1 rfl (lv_room (Nat.le_of_ble_eq_true rfl)) dX3_branch_27 ⟨Nat.le_of_ble_eq_true rfl, Nat.le_of_ble_eq_true rfl⟩ hP hK hD hS hA hZ (fun H locs hP hD hS => ?_)
          refine lv_aload_n hx hb dX3_branch_30 rfl (lv_at hl 0 rfl) ?_
          refine lv_iconst (v := 5) hx hb dX3_branch_31 (by decide) ?_
          refine lv_iload_n hx hb dX3_branch_32 rfl (lv_at hl 1 rfl) ?_
          refine lv_iconst (v := 0) hx hb dX3_branch_33 (by decide) ?_
          refine lv_iload_n hx hb dX3_branch_34 rfl (lv_at hl 2 rfl) ?_
          refine lv_iload_n hx hb dX3_branch_35 rfl (lv_at hl 3 rfl) ?_
          refine lv_iload hx hb dX3_branch_36 (lv_at hl 4 rfl) ?_
          obtain ⟨h_6, hok⟩ := hok
          rcases Classical.em ((p_append u 5 x1 0 x2 x3 x4).1 = 0) with c_6 | c_6
          · skip
            refine k_callVi (As := [.int 5, .int x1, .int 0, .int x2, .int x3, .int x4]) (rest := []) hzz ⟨hx, hb, hml, hown, hts⟩ (cr_append l D ad cI cZ zz hzz tS hst u 5 x1 0 x2 x3 x4 h_6 c_6) (cwV 6 hts (tb_V tw_2_21 tw_2_23 slX3_append tw_1_1 tw_2_24) rfl rfl rfl (by decide +kernel) ⟨Nat.le_of_ble_eq_true rfl, Nat.le_of_ble_eq_true rfl⟩) (va_recv hK hP (ci := 3) (q0 := 0) rfl rfl) rfl hl.1 rfl (lv_room (Nat.le_of_ble_eq_true rfl)) dX3_branch_38 ⟨Nat.le_of_ble_eq_true rfl, Nat.le_of_ble_eq_true rfl⟩ hP hK hD hS hA hZ (fun H locs hP hD hS => ?_)
            generalize eu_7 : (p_append u 5 x1 0 x2 x3 x4).2.2 = u_7 at hP hD ⊢
            try rw [eu_7] at hok
            have e9 : p_branch u x1 x2 x3 x4 = (0, (p_append u 5 x1 0 x2 x3 x4).2.1, u_7) := by
              subst eu_7
              rw [p_branch, if_neg c_2, if_pos c_3, if_pos c_4, if_pos c_5, if_pos c_6]
            try rw [e9]
            exact W.iret hx hb hr (fun t ht hW => ⟨⟨_, (), rfl, rfl, by rw [ht]; exact hP, va_K.moved hW.alike hK, hD⟩, hS.F ht⟩) hS.2.2 dX3_branch_41
          · skip
            have e9 : p_branch u x1 x2 x3 x4 = ((p_append u 5 x1 0 x2 x3 x4).1, 0, (p_append u 5 x1 0 x2 x3 x4).2.2) := by rw [p_branch, if_neg c_2, if_pos c_3, if_pos c_4, if_pos c_5, if_neg c_6]
            rw [e9] at hc
            exact absurd hc c_6
        · skip
          have e9 : p_branch u x1 x2 x3 x4 = (p_needTarget x4, 0, u) := by rw [p_branch, if_neg c_2, if_pos c_3, if_pos c_4, if_neg c_5]
          rw [e9] at hc
          exact absurd hc c_5
      · skip
        have e9 : p_branch u x1 x2 x3 x4 = (p_needVariable x3, 0, u) := by rw [p_branch, if_neg c_2, if_pos c_3, if_neg c_4]
        rw [e9] at hc
        exact absurd hc c_4
    · skip
      have e9 : p_branch u x1 x2 x3 x4 = (p_needVariable x2, 0, u) := by rw [p_branch, if_neg c_2, if_neg c_3]
      rw [e9] at hc
      exact absurd hc c_3
  · have hok := hok.1 c_2
    have e9 : p_branch u x1 x2 x3 x4 = (1, 0, u) := by rw [p_branch, if_pos c_2]
    rw [e9] at hc
    exact absurd hc (show ¬ (1 : Nat) = 0 by decide)
set_option maxHeartbeats 4000000 in
set_option maxRecDepth 100000 in
theorem cx_branch (l : Launch) (hlt : l.stackTraces = false) (D : va_G) (ad : Nat → Nat) (cI cZ : ClassId) (zz : (Nat → Prop) → State → Heap → Prop) (hzz : Zok zz) (tS : Nat) (hst : Zst zz tS) (hxs : Zxs zz) (u : St) (x1 x2 x3 x4 : Int32) (hok : ok_branch u x1 x2 x3 x4) (hc : ¬ (p_branch u x1 x2 x3 x4).1 = 0) : txI l D vwCl (tyT cI cZ) zz yX3_branch wsX3_branch ({ frames := 7, cells := 1, slots := 6, locals := 116 } : Room) [.ref (ad 0), .int x1, .int x2, .int x3, .int x4] (wT ad cI cZ u) (p_branch u x1 x2 x3 x4).1 (p_branch u x1 x2 x3 x4).2.1 (wT ad cI cZ ((p_branch u x1 x2 x3 x4).2.2)) 1 6 := by
  intro sz
  unfold ok_branch at hok
  refine vx_ofW (cc := cX3_branch) (maxL := 5) (ret := (some .int)) (by decide) rfl ?_
  intro p e s m args below meth c s₁ B hml hNo hv
  obtain ⟨rfl, hsz, hP, hK, hD0, hZ⟩ := hv
  have hx := B.exec
  have hb := B.bytes
  have hr := B.returns
  have hts := atoms_spec (ws := wsX3_branch) B.pre
  have hown : s.vm.findClass RX3 = some m.cls := findClass_of_methodNamed B.named
  have hlocks := B.notSynchronized
  subst hsz
  have hD := hD0.self (sz := s.heap.size)
  generalize hAe : va_A (wT ad cI cZ u) s.heap.size = A at hD hZ ⊢
  have hA : ∀ q : Nat, s.heap.size ≤ q → A q := fun q h => by rw [← hAe]; exact Or.inr h
  have hS : va_S A s.heap s.heap [] := va_S.rf
  have hl := lv_entry ([.ref (ad 0), .int x1, .int x2, .int x3, .int x4]) (n := 5) (Nat.le_of_ble_eq_true rfl)
  rw [lg_entry_eq]
  generalize (lg_sl ([.ref (ad 0), .int x1, .int x2, .int x3, .int x4]) ++ List.replicate (5 - (lg_sl ([.ref (ad 0), .int x1, .int x2, .int x3, .int x4])).length) Slot.unset).toArray = ls at hl ⊢
  have hl : lv_has ls 5 [(0, .ref (ad 0)), (1, .int x1), (2, .int x2), (3, .int x3), (4, .int x4)] := hl
  refine lv_iload_n hx hb dX3_branch_0 rfl (lv_at hl 1 rfl) ?_
  refine k_callSi (As := [.int x1]) (rest := []) hzz ⟨hx, hb, hml, hown, hts⟩ (c_isRelation l D ad cI cZ zz hzz tS hst (wT ad cI cZ u) x1) (cwS 1 hts (tb_S tw_2_85 tw_2_86 tw_1_1 tw_2_87) rfl rfl rfl (by decide +kernel) ⟨Nat.le_of_ble_eq_true rfl, Nat.le_of_ble_eq_true rfl⟩) rfl hl.1 rfl (lv_room (Nat.le_of_ble_eq_true rfl)) dX3_branch_1 ⟨Nat.le_of_ble_eq_true rfl, Nat.le_of_ble_eq_true rfl⟩ hP hK hD hS hA hZ (fun H locs hP hD hS => ?_)
  refine lv_if_ne (tgt := 17) hx hb dX3_branch_4 (by decide) (fun c_2 => ?_) (fun c_2 => ?_)
  · have hok := hok.2 c_2
    refine lv_iload_n hx hb dX3_branch_17 rfl (lv_at hl 2 rfl) ?_
    rcases Classical.em (p_needVariable x2 = 0) with c_3 | c_3
    · have hok := hok.1 c_3
      refine k_callSv (As := [.int x2]) (rest := []) hzz ⟨hx, hb, hml, hown, hts⟩ (cr_needVariable l D ad cI cZ zz hzz tS hst (wT ad cI cZ u) x2 c_3) (cwS 1 hts (tb_S tw_1_190 tw_1_191 tw_1_1 tw_1_192) rfl rfl rfl (by decide +kernel) ⟨Nat.le_of_ble_eq_true rfl, Nat.le_of_ble_eq_true rfl⟩) rfl hl.1 rfl (lv_room (Nat.le_of_ble_eq_true rfl)) dX3_branch_18 ⟨Nat.le_of_ble_eq_true rfl, Nat.le_of_ble_eq_true rfl⟩ hP hK hD hS hA hZ (fun H locs hP hD hS => ?_)
      refine lv_iload_n hx hb dX3_branch_21 rfl (lv_at hl 3 rfl) ?_
      rcases Classical.em (p_needVariable x3 = 0) with c_4 | c_4
      · have hok := hok.1 c_4
        refine k_callSv (As := [.int x3]) (rest := []) hzz ⟨hx, hb, hml, hown, hts⟩ (cr_needVariable l D ad cI cZ zz hzz tS hst (wT ad cI cZ u) x3 c_4) (cwS 1 hts (tb_S tw_1_190 tw_1_191 tw_1_1 tw_1_192) rfl rfl rfl (by decide +kernel) ⟨Nat.le_of_ble_eq_true rfl, Nat.le_of_ble_eq_true rfl⟩) rfl hl.1 rfl (lv_room (Nat.le_of_ble_eq_true rfl)) dX3_branch_22 ⟨Nat.le_of_ble_eq_true rfl, Nat.le_of_ble_eq_true rfl⟩ hP hK hD hS hA hZ (fun H locs hP hD hS => ?_)
        refine lv_iload hx hb dX3_branch_25 (lv_at hl 4 rfl) ?_
        rcases Classical.em (p_needTarget x4 = 0) with c_5 | c_5
        · have hok := hok.1 c_5
          refine k_callSv (As := [.int x4]) (rest := []) hzz ⟨hx, hb, hml, hown, hts⟩ (cr_needTarget l D ad cI cZ zz hzz tS hst (wT ad cI cZ u) x4 c_5) (cwS 1 hts (tb_S tw_2_74 tw_2_75 tw_1_1 tw_2_76) rfl rfl rfl (by decide +kernel) ⟨Nat.le_of_ble_eq_true rfl, Nat.le_of_ble_eq_true rfl⟩) rfl hl.1 rfl (lv_room (Nat.le_of_ble_eq_true rfl)) dX3_branch_27 ⟨Nat.le_of_ble_eq_true rfl, Nat.le_of_ble_eq_true rfl⟩ hP hK hD hS hA hZ (fun H locs hP hD hS => ?_)
          refine lv_aload_n hx hb dX3_branch_30 rfl (lv_at hl 0 rfl) ?_
          refine lv_iconst (v := 5) hx hb dX3_branch_31 (by decide) ?_
          refine lv_iload_n hx hb dX3_branch_32 rfl (lv_at hl 1 rfl) ?_
          refine lv_iconst (v := 0) hx hb dX3_branch_33 (by decide) ?_
          refine lv_iload_n hx hb dX3_branch_34 rfl (lv_at hl 2 rfl) ?_
          refine lv_iload_n hx hb dX3_branch_35 rfl (lv_at hl 3 rfl) ?_
          refine lv_iload hx hb dX3_branch_36 (lv_at hl 4 rfl) ?_
          obtain ⟨h_6, hok⟩ := hok
          rcases Classical.em ((p_append u 5 x1 0 x2 x3 x4).1 = 0) with c_6 | c_6
          · skip
            refine k_callVi (As := [.int 5, .int x1, .int 0, .int x2, .int x3, .int x4]) (rest := []) hzz ⟨hx, hb, hml, hown, hts⟩ (cr_append l D ad cI cZ zz hzz tS hst u 5 x1 0 x2 x3 x4 h_6 c_6) (cwV 6 hts (tb_V tw_2_21 tw_2_23 slX3_append tw_1_1 tw_2_24) rfl rfl rfl (by decide +kernel) ⟨Nat.le_of_ble_eq_true rfl, Nat.le_of_ble_eq_true rfl⟩) (va_recv hK hP (ci := 3) (q0 := 0) rfl rfl) rfl hl.1 rfl (lv_room (Nat.le_of_ble_eq_true rfl)) dX3_branch_38 ⟨Nat.le_of_ble_eq_true rfl, Nat.le_of_ble_eq_true rfl⟩ hP hK hD hS hA hZ (fun H locs hP hD hS => ?_)
            generalize eu_7 : (p_append u 5 x1 0 x2 x3 x4).2.2 = u_7 at hP hD ⊢
            try rw [eu_7] at hok
            have e9 : p_branch u x1 x2 x3 x4 = (0, (p_append u 5 x1 0 x2 x3 x4).2.1, u_7) := by
              subst eu_7
              rw [p_branch, if_neg c_2, if_pos c_3, if_pos c_4, if_pos c_5, if_pos c_6]
            rw [e9] at hc
            exact absurd rfl hc
          · skip
            have e9 : p_branch u x1 x2 x3 x4 = ((p_append u 5 x1 0 x2 x3 x4).1, 0, (p_append u 5 x1 0 x2 x3 x4).2.2) := by rw [p_branch, if_neg c_2, if_pos c_3, if_pos c_4, if_pos c_5, if_neg c_6]
            rw [e9]
            refine kx_callVi (As := [.int 5, .int x1, .int 0, .int x2, .int x3, .int x4]) (rest := []) hzz ⟨hx, hb, hml, hown, hts⟩ (cx_append l hlt D ad cI cZ zz hzz tS hst hxs u 5 x1 0 x2 x3 x4 h_6 c_6) (cwV 6 hts (tb_V tw_2_21 tw_2_23 slX3_append tw_1_1 tw_2_24) rfl rfl rfl (by decide +kernel) ⟨Nat.le_of_ble_eq_true rfl, Nat.le_of_ble_eq_true rfl⟩) (va_recv hK hP (ci := 3) (q0 := 0) rfl rfl) rfl hl.1 rfl (lv_room (Nat.le_of_ble_eq_true rfl)) dX3_branch_38 ⟨Nat.le_of_ble_eq_true rfl, Nat.le_of_ble_eq_true rfl⟩ hP hK hD hS hA hZ (fun _ ce q9 H locs hP hD hS hce hcv hcl => ?_) (fun h => absurd h c_6)
            exact vx_out (fun x h => (hNo x h).elim) hlocks hce hcv hcl (fun t ht hvm => ⟨(), c_6, ⟨rfl, by rw [ht]; exact hP, va_K.moved hvm hK, hD⟩, hS.F ht⟩) hS.2.2 (by decide) (by decide)
        · skip
          have e9 : p_branch u x1 x2 x3 x4 = (p_needTarget x4, 0, u) := by rw [p_branch, if_neg c_2, if_pos c_3, if_pos c_4, if_neg c_5]
          rw [e9]
          refine kx_callSv (As := [.int x4]) (rest := []) hzz ⟨hx, hb, hml, hown, hts⟩ (cx_needTarget l hlt D ad cI cZ zz hzz tS hst hxs (wT ad cI cZ u) x4 c_5) (cwS 1 hts (tb_S tw_2_74 tw_2_75 tw_1_1 tw_2_76) rfl rfl rfl (by decide +kernel) ⟨Nat.le_of_ble_eq_true rfl, Nat.le_of_ble_eq_true rfl⟩) rfl hl.1 rfl (lv_room (Nat.le_of_ble_eq_true rfl)) dX3_branch_27 ⟨Nat.le_of_ble_eq_true rfl, Nat.le_of_ble_eq_true rfl⟩ hP hK hD hS hA hZ (fun _ ce q9 H locs hP hD hS hce hcv hcl => ?_) (fun h => absurd h c_5)
          exact vx_out (fun x h => (hNo x h).elim) hlocks hce hcv hcl (fun t ht hvm => ⟨(), c_5, ⟨rfl, by rw [ht]; exact hP, va_K.moved hvm hK, hD⟩, hS.F ht⟩) hS.2.2 (by decide) (by decide)
      · skip
        have e9 : p_branch u x1 x2 x3 x4 = (p_needVariable x3, 0, u) := by rw [p_branch, if_neg c_2, if_pos c_3, if_neg c_4]
        rw [e9]
        refine kx_callSv (As := [.int x3]) (rest := []) hzz ⟨hx, hb, hml, hown, hts⟩ (cx_needVariable l hlt D ad cI cZ zz hzz tS hst hxs (wT ad cI cZ u) x3 c_4) (cwS 1 hts (tb_S tw_1_190 tw_1_191 tw_1_1 tw_1_192) rfl rfl rfl (by decide +kernel) ⟨Nat.le_of_ble_eq_true rfl, Nat.le_of_ble_eq_true rfl⟩) rfl hl.1 rfl (lv_room (Nat.le_of_ble_eq_true rfl)) dX3_branch_22 ⟨Nat.le_of_ble_eq_true rfl, Nat.le_of_ble_eq_true rfl⟩ hP hK hD hS hA hZ (fun _ ce q9 H locs hP hD hS hce hcv hcl => ?_) (fun h => absurd h c_4)
        exact vx_out (fun x h => (hNo x h).elim) hlocks hce hcv hcl (fun t ht hvm => ⟨(), c_4, ⟨rfl, by rw [ht]; exact hP, va_K.moved hvm hK, hD⟩, hS.F ht⟩) hS.2.2 (by decide) (by decide)
    · skip
      have e9 : p_branch u x1 x2 x3 x4 = (p_needVariable x2, 0, u) := by rw [p_branch, if_neg c_2, if_neg c_3]
      rw [e9]
      refine kx_callSv (As := [.int x2]) (rest := []) hzz ⟨hx, hb, hml, hown, hts⟩ (cx_needVariable l hlt D ad cI cZ zz hzz tS hst hxs (wT ad cI cZ u) x2 c_3) (cwS 1 hts (tb_S tw_1_190 tw_1_191 tw_1_1 tw_1_192) rfl rfl rfl (by decide +kernel) ⟨Nat.le_of_ble_eq_true rfl, Nat.le_of_ble_eq_true rfl⟩) rfl hl.1 rfl (lv_room (Nat.le_of_ble_eq_true rfl)) dX3_branch_18 ⟨Nat.le_of_ble_eq_true rfl, Nat.le_of_ble_eq_true rfl⟩ hP hK hD hS hA hZ (fun _ ce q9 H locs hP hD hS hce hcv hcl => ?_) (fun h => absurd h c_3)
      exact vx_out (fun x h => (hNo x h).elim) hlocks hce hcv hcl (fun t ht hvm => ⟨(), c_3, ⟨rfl, by rw [ht]; exact hP, va_K.moved hvm hK, hD⟩, hS.F ht⟩) hS.2.2 (by decide) (by decide)
  · have hok := hok.1 c_2
    have e9 : p_branch u x1 x2 x3 x4 = (1, 0, u) := by rw [p_branch, if_pos c_2]
    rw [e9]
    have hX := hxs _ _ _ hZ
    obtain ⟨sa, hsa⟩ := hX.2.2.1 (56, "no such relation") (by decide)
    exact vx_throwS (own := RX3) (cls := "java/lang/IllegalArgumentException") (names := xEN) hx hb hlt hown xfit1 xfit (hts _ (tb_c tw_1_193)) (hts _ (tb_c tw_1_9)) hsa (xhat1 hts hX.2.2.2) xgood1 hX.1 hX.2.1 hS (hl.1.trans hml.symm) dX3_branch_7 dX3_branch_10 dX3_branch_11 dX3_branch_13 dX3_branch_16 (fun x h => (hNo x h).elim) (Nat.le_of_ble_eq_true rfl) (Nat.le_of_ble_eq_true rfl) (Nat.le_of_ble_eq_true rfl) (Nat.le_of_ble_eq_true rfl) hlocks (fun t ha hsz hk => ⟨(), (show ¬ (1 : Nat) = 0 by decide), ⟨rfl, hP.kept (fun k q hq => hk q.1 (hP k q hq).lt), va_K.moved ha hK, hD⟩, Nat.le_trans hS.1 hsz, fun q h1 h2 => (hk q (Nat.lt_of_lt_of_le h1 hS.1)).trans (hS.2.1 q h1 h2)⟩) hS.2.2 (by decide) (by decide)

def p_out (u : St) (x1 : Int32) : Nat × Int32 × St := (if p_needVariable x1 = 0 then (if (p_append u 6 0 0 x1 0 0).1 = 0 then (0, (p_append u 6 0 0 x1 0 0).2.1, ((p_append u 6 0 0 x1 0 0).2.2)) else ((p_append u 6 0 0 x1 0 0).1, 0, (p_append u 6 0 0 x1 0 0).2.2)) else (p_needVariable x1, 0, u))
def ok_out (u : St) (x1 : Int32) : Prop := ((p_needVariable x1 = 0 → (ok_append u 6 0 0 x1 0 0 ∧ True)) ∧ (¬ p_needVariable x1 = 0 → True))
set_option maxHeartbeats 4000000 in
set_option maxRecDepth 100000 in
theorem cr_out (l : Launch) (D : va_G) (ad : Nat → Nat) (cI cZ : ClassId) (zz : (Nat → Prop) → State → Heap → Prop) (hzz : Zok zz) (tS : Nat) (hst : Zst zz tS) (u : St) (x1 : Int32) (hok : ok_out u x1) (hc : (p_out u x1).1 = 0) : tfI l D vwCl (tyT cI cZ) zz yX3_out wsX3_out ({ frames := 7, cells := 0, slots := 0, locals := 116 } : Room) [.ref (ad 0), .int x1] (wT ad cI cZ u) (p_out u x1).2.1 (wT ad cI cZ ((p_out u x1).2.2)) := by
  intro sz
  unfold ok_out at hok
  refine Met.ofW (cc := cX3_out) (maxL := 2) (ret := (some .int)) (by decide) rfl ?_
  intro p e s m args below meth c s₁ B hml hv
  obtain ⟨rfl, hsz, hP, hK, hD0, hZ⟩ := hv
  have hx := B.exec
  have hb := B.bytes
  have hr := B.returns
  have hts := atoms_spec (ws := wsX3_out) B.pre
  have hown : s.vm.findClass RX3 = some m.cls := findClass_of_methodNamed B.named
  have hlocks := B.notSynchronized
  subst hsz
  have hD := hD0.self (sz := s.heap.size)
  generalize hAe : va_A (wT ad cI cZ u) s.heap.size = A at hD hZ ⊢
  have hA : ∀ q : Nat, s.heap.size ≤ q → A q := fun q h => by rw [← hAe]; exact Or.inr h
  have hS : va_S A s.heap s.heap [] := va_S.rf
  have hl := lv_entry ([.ref (ad 0), .int x1]) (n := 2) (Nat.le_of_ble_eq_true rfl)
  rw [lg_entry_eq]
  generalize (lg_sl ([.ref (ad 0), .int x1]) ++ List.replicate (2 - (lg_sl ([.ref (ad 0), .int x1])).length) Slot.unset).toArray = ls at hl ⊢
  have hl : lv_has ls 2 [(0, .ref (ad 0)), (1, .int x1)] := hl
  refine lv_iload_n hx hb dX3_out_0 rfl (lv_at hl 1 rfl) ?_
  rcases Classical.em (p_needVariable x1 = 0) with c_1 | c_1
  · have hok := hok.1 c_1
    refine k_callSv (As := [.int x1]) (rest := []) hzz ⟨hx, hb, hml, hown, hts⟩ (cr_needVariable l D ad cI cZ zz hzz tS hst (wT ad cI cZ u) x1 c_1) (cwS 1 hts (tb_S tw_1_190 tw_1_191 tw_1_1 tw_1_192) rfl rfl rfl (by decide +kernel) ⟨Nat.le_of_ble_eq_true rfl, Nat.le_of_ble_eq_true rfl⟩) rfl hl.1 rfl (lv_room (Nat.le_of_ble_eq_true rfl)) dX3_out_1 ⟨Nat.le_of_ble_eq_true rfl, Nat.le_of_ble_eq_true rfl⟩ hP hK hD hS hA hZ (fun H locs hP hD hS => ?_)
    refine lv_aload_n hx hb dX3_out_4 rfl (lv_at hl 0 rfl) ?_
    refine lv_bipush (v := 6) hx hb dX3_out_5 (by decide) ?_
    refine lv_iconst (v := 0) hx hb dX3_out_7 (by decide) ?_
    refine lv_iconst (v := 0) hx hb dX3_out_8 (by decide) ?_
    refine lv_iload_n hx hb dX3_out_9 rfl (lv_at hl 1 rfl) ?_
    refine lv_iconst (v := 0) hx hb dX3_out_10 (by decide) ?_
    refine lv_iconst (v := 0) hx hb dX3_out_11 (by decide) ?_
    obtain ⟨h_2, hok⟩ := hok
    rcases Classical.em ((p_append u 6 0 0 x1 0 0).1 = 0) with c_2 | c_2
    · skip
      refine k_callVi (As := [.int 6, .int 0, .int 0, .int x1, .int 0, .int 0]) (rest := []) hzz ⟨hx, hb, hml, hown, hts⟩ (cr_append l D ad cI cZ zz hzz tS hst u 6 0 0 x1 0 0 h_2 c_2) (cwV 6 hts (tb_V tw_2_21 tw_2_23 slX3_append tw_1_1 tw_2_24) rfl rfl rfl (by decide +kernel) ⟨Nat.le_of_ble_eq_true rfl, Nat.le_of_ble_eq_true rfl⟩) (va_recv hK hP (ci := 3) (q0 := 0) rfl rfl) rfl hl.1 rfl (lv_room (Nat.le_of_ble_eq_true rfl)) dX3_out_12 ⟨Nat.le_of_ble_eq_true rfl, Nat.le_of_ble_eq_true rfl⟩ hP hK hD hS hA hZ (fun H locs hP hD hS => ?_)
      generalize eu_3 : (p_append u 6 0 0 x1 0 0).2.2 = u_3 at hP hD ⊢
      try rw [eu_3] at hok
      have e9 : p_out u x1 = (0, (p_append u 6 0 0 x1 0 0).2.1, u_3) := by
        subst eu_3
        rw [p_out, if_pos c_1, if_pos c_2]
      try rw [e9]
      exact W.iret hx hb hr (fun t ht hW => ⟨⟨_, (), rfl, rfl, by rw [ht]; exact hP, va_K.moved hW.alike hK, hD⟩, hS.F ht⟩) hS.2.2 dX3_out_15
    · skip
      have e9 : p_out u x1 = ((p_append u 6 0 0 x1 0 0).1, 0, (p_append u 6 0 0 x1 0 0).2.2) := by rw [p_out, if_pos c_1, if_neg c_2]
      rw [e9] at hc
      exact absurd hc c_2
  · skip
    have e9 : p_out u x1 = (p_needVariable x1, 0, u) := by rw [p_out, if_neg c_1]
    rw [e9] at hc
    exact absurd hc c_1
set_option maxHeartbeats 4000000 in
set_option maxRecDepth 100000 in
theorem cx_out (l : Launch) (hlt : l.stackTraces = false) (D : va_G) (ad : Nat → Nat) (cI cZ : ClassId) (zz : (Nat → Prop) → State → Heap → Prop) (hzz : Zok zz) (tS : Nat) (hst : Zst zz tS) (hxs : Zxs zz) (u : St) (x1 : Int32) (hok : ok_out u x1) (hc : ¬ (p_out u x1).1 = 0) : txI l D vwCl (tyT cI cZ) zz yX3_out wsX3_out ({ frames := 7, cells := 1, slots := 6, locals := 116 } : Room) [.ref (ad 0), .int x1] (wT ad cI cZ u) (p_out u x1).1 (p_out u x1).2.1 (wT ad cI cZ ((p_out u x1).2.2)) 1 6 := by
  intro sz
  unfold ok_out at hok
  refine vx_ofW (cc := cX3_out) (maxL := 2) (ret := (some .int)) (by decide) rfl ?_
  intro p e s m args below meth c s₁ B hml hNo hv
  obtain ⟨rfl, hsz, hP, hK, hD0, hZ⟩ := hv
  have hx := B.exec
  have hb := B.bytes
  have hr := B.returns
  have hts := atoms_spec (ws := wsX3_out) B.pre
  have hown : s.vm.findClass RX3 = some m.cls := findClass_of_methodNamed B.named
  have hlocks := B.notSynchronized
  subst hsz
  have hD := hD0.self (sz := s.heap.size)
  generalize hAe : va_A (wT ad cI cZ u) s.heap.size = A at hD hZ ⊢
  have hA : ∀ q : Nat, s.heap.size ≤ q → A q := fun q h => by rw [← hAe]; exact Or.inr h
  have hS : va_S A s.heap s.heap [] := va_S.rf
  have hl := lv_entry ([.ref (ad 0), .int x1]) (n := 2) (Nat.le_of_ble_eq_true rfl)
  rw [lg_entry_eq]
  generalize (lg_sl ([.ref (ad 0), .int x1]) ++ List.replicate (2 - (lg_sl ([.ref (ad 0), .int x1])).length) Slot.unset).toArray = ls at hl ⊢
  have hl : lv_has ls 2 [(0, .ref (ad 0)), (1, .int x1)] := hl
  refine lv_iload_n hx hb dX3_out_0 rfl (lv_at hl 1 rfl) ?_
  rcases Classical.em (p_needVariable x1 = 0) with c_1 | c_1
  · have hok := hok.1 c_1
    refine k_callSv (As := [.int x1]) (rest := []) hzz ⟨hx, hb, hml, hown, hts⟩ (cr_needVariable l D ad cI cZ zz hzz tS hst (wT ad cI cZ u) x1 c_1) (cwS 1 hts (tb_S tw_1_190 tw_1_191 tw_1_1 tw_1_192) rfl rfl rfl (by decide +kernel) ⟨Nat.le_of_ble_eq_true rfl, Nat.le_of_ble_eq_true rfl⟩) rfl hl.1 rfl (lv_room (Nat.le_of_ble_eq_true rfl)) dX3_out_1 ⟨Nat.le_of_ble_eq_true rfl, Nat.le_of_ble_eq_true rfl⟩ hP hK hD hS hA hZ (fun H locs hP hD hS => ?_)
    refine lv_aload_n hx hb dX3_out_4 rfl (lv_at hl 0 rfl) ?_
    refine lv_bipush (v := 6) hx hb dX3_out_5 (by decide) ?_
    refine lv_iconst (v := 0) hx hb dX3_out_7 (by decide) ?_
    refine lv_iconst (v := 0) hx hb dX3_out_8 (by decide) ?_
    refine lv_iload_n hx hb dX3_out_9 rfl (lv_at hl 1 rfl) ?_
    refine lv_iconst (v := 0) hx hb dX3_out_10 (by decide) ?_
    refine lv_iconst (v := 0) hx hb dX3_out_11 (by decide) ?_
    obtain ⟨h_2, hok⟩ := hok
    rcases Classical.em ((p_append u 6 0 0 x1 0 0).1 = 0) with c_2 | c_2
    · skip
      refine k_callVi (As := [.int 6, .int 0, .int 0, .int x1, .int 0, .int 0]) (rest := []) hzz ⟨hx, hb, hml, hown, hts⟩ (cr_append l D ad cI cZ zz hzz tS hst u 6 0 0 x1 0 0 h_2 c_2) (cwV 6 hts (tb_V tw_2_21 tw_2_23 slX3_append tw_1_1 tw_2_24) rfl rfl rfl (by decide +kernel) ⟨Nat.le_of_ble_eq_true rfl, Nat.le_of_ble_eq_true rfl⟩) (va_recv hK hP (ci := 3) (q0 := 0) rfl rfl) rfl hl.1 rfl (lv_room (Nat.le_of_ble_eq_true rfl)) dX3_out_12 ⟨Nat.le_of_ble_eq_true rfl, Nat.le_of_ble_eq_true rfl⟩ hP hK hD hS hA hZ (fun H locs hP hD hS => ?_)
      generalize eu_3 : (p_append u 6 0 0 x1 0 0).2.2 = u_3 at hP hD ⊢
      try rw [eu_3] at hok
      have e9 : p_out u x1 = (0, (p_append u 6 0 0 x1 0 0).2.1, u_3) := by
        subst eu_3
        rw [p_out, if_pos c_1, if_pos c_2]
      rw [e9] at hc
      exact absurd rfl hc
    · skip
      have e9 : p_out u x1 = ((p_append u 6 0 0 x1 0 0).1, 0, (p_append u 6 0 0 x1 0 0).2.2) := by rw [p_out, if_pos c_1, if_neg c_2]
      rw [e9]
      refine kx_callVi (As := [.int 6, .int 0, .int 0, .int x1, .int 0, .int 0]) (rest := []) hzz ⟨hx, hb, hml, hown, hts⟩ (cx_append l hlt D ad cI cZ zz hzz tS hst hxs u 6 0 0 x1 0 0 h_2 c_2) (cwV 6 hts (tb_V tw_2_21 tw_2_23 slX3_append tw_1_1 tw_2_24) rfl rfl rfl (by decide +kernel) ⟨Nat.le_of_ble_eq_true rfl, Nat.le_of_ble_eq_true rfl⟩) (va_recv hK hP (ci := 3) (q0 := 0) rfl rfl) rfl hl.1 rfl (lv_room (Nat.le_of_ble_eq_true rfl)) dX3_out_12 ⟨Nat.le_of_ble_eq_true rfl, Nat.le_of_ble_eq_true rfl⟩ hP hK hD hS hA hZ (fun _ ce q9 H locs hP hD hS hce hcv hcl => ?_) (fun h => absurd h c_2)
      exact vx_out (fun x h => (hNo x h).elim) hlocks hce hcv hcl (fun t ht hvm => ⟨(), c_2, ⟨rfl, by rw [ht]; exact hP, va_K.moved hvm hK, hD⟩, hS.F ht⟩) hS.2.2 (by decide) (by decide)
  · skip
    have e9 : p_out u x1 = (p_needVariable x1, 0, u) := by rw [p_out, if_neg c_1]
    rw [e9]
    refine kx_callSv (As := [.int x1]) (rest := []) hzz ⟨hx, hb, hml, hown, hts⟩ (cx_needVariable l hlt D ad cI cZ zz hzz tS hst hxs (wT ad cI cZ u) x1 c_1) (cwS 1 hts (tb_S tw_1_190 tw_1_191 tw_1_1 tw_1_192) rfl rfl rfl (by decide +kernel) ⟨Nat.le_of_ble_eq_true rfl, Nat.le_of_ble_eq_true rfl⟩) rfl hl.1 rfl (lv_room (Nat.le_of_ble_eq_true rfl)) dX3_out_1 ⟨Nat.le_of_ble_eq_true rfl, Nat.le_of_ble_eq_true rfl⟩ hP hK hD hS hA hZ (fun _ ce q9 H locs hP hD hS hce hcv hcl => ?_) (fun h => absurd h c_1)
    exact vx_out (fun x h => (hNo x h).elim) hlocks hce hcv hcl (fun t ht hvm => ⟨(), c_1, ⟨rfl, by rw [ht]; exact hP, va_K.moved hvm hK, hD⟩, hS.F ht⟩) hS.2.2 (by decide) (by decide)

def p_stop (u : St) (x1 : Int32) : Nat × Int32 × St := (if x1 < ((-1)) then (1, 0, u) else (if x1 ≤ 255 then (if x1 = ((-1)) then (if (p_append u 7 0 0 0 0 0).1 = 0 then (0, (p_append u 7 0 0 0 0 0).2.1, ((p_append u 7 0 0 0 0 0).2.2)) else ((p_append u 7 0 0 0 0 0).1, 0, (p_append u 7 0 0 0 0 0).2.2)) else (if (p_append u 8 0 0 0 0 x1).1 = 0 then (0, (p_append u 8 0 0 0 0 x1).2.1, ((p_append u 8 0 0 0 0 x1).2.2)) else ((p_append u 8 0 0 0 0 x1).1, 0, (p_append u 8 0 0 0 0 x1).2.2))) else (1, 0, u)))
def ok_stop (u : St) (x1 : Int32) : Prop := ((x1 < ((-1)) → True) ∧ (¬ x1 < ((-1)) → ((x1 ≤ 255 → ((x1 = ((-1)) → (ok_append u 7 0 0 0 0 0 ∧ True)) ∧ (¬ x1 = ((-1)) → (ok_append u 8 0 0 0 0 x1 ∧ True)))) ∧ (¬ x1 ≤ 255 → True))))
set_option maxHeartbeats 4000000 in
set_option maxRecDepth 100000 in
theorem cr_stop (l : Launch) (D : va_G) (ad : Nat → Nat) (cI cZ : ClassId) (zz : (Nat → Prop) → State → Heap → Prop) (hzz : Zok zz) (tS : Nat) (hst : Zst zz tS) (u : St) (x1 : Int32) (hok : ok_stop u x1) (hc : (p_stop u x1).1 = 0) : tfI l D vwCl (tyT cI cZ) zz yX3_stop wsX3_stop ({ frames := 7, cells := 0, slots := 0, locals := 116 } : Room) [.ref (ad 0), .int x1] (wT ad cI cZ u) (p_stop u x1).2.1 (wT ad cI cZ ((p_stop u x1).2.2)) := by
  intro sz
  unfold ok_stop at hok
  refine Met.ofW (cc := cX3_stop) (maxL := 2) (ret := (some .int)) (by decide) rfl ?_
  intro p e s m args below meth c s₁ B hml hv
  obtain ⟨rfl, hsz, hP, hK, hD0, hZ⟩ := hv
  have hx := B.exec
  have hb := B.bytes
  have hr := B.returns
  have hts := atoms_spec (ws := wsX3_stop) B.pre
  have hown : s.vm.findClass RX3 = some m.cls := findClass_of_methodNamed B.named
  have hlocks := B.notSynchronized
  subst hsz
  have hD := hD0.self (sz := s.heap.size)
  generalize hAe : va_A (wT ad cI cZ u) s.heap.size = A at hD hZ ⊢
  have hA : ∀ q : Nat, s.heap.size ≤ q → A q := fun q h => by rw [← hAe]; exact Or.inr h
  have hS : va_S A s.heap s.heap [] := va_S.rf
  have hl := lv_entry ([.ref (ad 0), .int x1]) (n := 2) (Nat.le_of_ble_eq_true rfl)
  rw [lg_entry_eq]
  generalize (lg_sl ([.ref (ad 0), .int x1]) ++ List.replicate (2 - (lg_sl ([.ref (ad 0), .int x1])).length) Slot.unset).toArray = ls at hl ⊢
  have hl : lv_has ls 2 [(0, .ref (ad 0)), (1, .int x1)] := hl
  refine lv_iload_n hx hb dX3_stop_0 rfl (lv_at hl 1 rfl) ?_
  refine lv_iconst (v := (-1)) hx hb dX3_stop_1 (by decide) ?_
  refine lv_icmp_lt (tgt := 12) hx hb dX3_stop_2 (by decide) (fun c_1 => ?_) (fun c_1 => ?_)
  · have hok := hok.1 c_1
    have e9 : p_stop u x1 = (1, 0, u) := by rw [p_stop, if_pos c_1]
    rw [e9] at hc
    exact absurd hc (show ¬ (1 : Nat) = 0 by decide)
  · have hok := hok.2 c_1
    refine lv_iload_n hx hb dX3_stop_5 rfl (lv_at hl 1 rfl) ?_
    refine lv_sipush (v := 255) hx hb dX3_stop_6 (by decide) ?_
    refine lv_icmp_le (tgt := 22) hx hb dX3_stop_9 (by decide) (fun c_2 => ?_) (fun c_2 => ?_)
    · have hok := hok.1 c_2
      refine lv_iload_n hx hb dX3_stop_22 rfl (lv_at hl 1 rfl) ?_
      refine lv_iconst (v := (-1)) hx hb dX3_stop_23 (by decide) ?_
      refine lv_icmp_ne (tgt := 41) hx hb dX3_stop_24 (by decide) (fun c_3 => ?_) (fun c_3 => ?_)
      · have hok := hok.2 c_3
        refine lv_aload_n hx hb dX3_stop_41 rfl (lv_at hl 0 rfl) ?_
        refine lv_bipush (v := 8) hx hb dX3_stop_42 (by decide) ?_
        refine lv_iconst (v := 0) hx hb dX3_stop_44 (by decide) ?_
        refine lv_iconst (v := 0) hx hb dX3_stop_45 (by decide) ?_
        refine lv_iconst (v := 0) hx hb dX3_stop_46 (by decide) ?_
        refine lv_iconst (v := 0) hx hb dX3_stop_47 (by decide) ?_
        refine lv_iload_n hx hb dX3_stop_48 rfl (lv_at hl 1 rfl) ?_
        obtain ⟨h_4, hok⟩ := hok
        rcases Classical.em ((p_append u 8 0 0 0 0 x1).1 = 0) with c_4 | c_4
        · skip
          refine k_callVi (As := [.int 8, .int 0, .int 0, .int 0, .int 0, .int x1]) (rest := []) hzz ⟨hx, hb, hml, hown, hts⟩ (cr_append l D ad cI cZ zz hzz tS hst u 8 0 0 0 0 x1 h_4 c_4) (cwV 6 hts (tb_V tw_2_21 tw_2_23 slX3_append tw_1_1 tw_2_24) rfl rfl rfl (by decide +kernel) ⟨Nat.le_of_ble_eq_true rfl, Nat.le_of_ble_eq_true rfl⟩) (va_recv hK hP (ci := 3) (q0 := 0) rfl rfl) rfl hl.1 rfl (lv_room (Nat.le_of_ble_eq_true rfl)) dX3_stop_49 ⟨Nat.le_of_ble_eq_true rfl, Nat.le_of_ble_eq_true rfl⟩ hP hK hD hS hA hZ (fun H locs hP hD hS => ?_)
          generalize eu_5 : (p_append u 8 0 0 0 0 x1).2.2 = u_5 at hP hD ⊢
          try rw [eu_5] at hok
          have e9 : p_stop u x1 = (0, (p_append u 8 0 0 0 0 x1).2.1, u_5) := by
            subst eu_5
            rw [p_stop, if_neg c_1, if_pos c_2, if_neg c_3, if_pos c_4]
          try rw [e9]
          exact W.iret hx hb hr (fun t ht hW => ⟨⟨_, (), rfl, rfl, by rw [ht]; exact hP, va_K.moved hW.alike hK, hD⟩, hS.F ht⟩) hS.2.2 dX3_stop_52
        · skip
          have e9 : p_stop u x1 = ((p_append u 8 0 0 0 0 x1).1, 0, (p_append u 8 0 0 0 0 x1).2.2) := by rw [p_stop, if_neg c_1, if_pos c_2, if_neg c_3, if_neg c_4]
          rw [e9] at hc
          exact absurd hc c_4
      · have hok := hok.1 c_3
        refine lv_aload_n hx hb dX3_stop_27 rfl (lv_at hl 0 rfl) ?_
        refine lv_bipush (v := 7) hx hb dX3_stop_28 (by decide) ?_
        refine lv_iconst (v := 0) hx hb dX3_stop_30 (by decide) ?_
        refine lv_iconst (v := 0) hx hb dX3_stop_31 (by decide) ?_
        refine lv_iconst (v := 0) hx hb dX3_stop_32 (by decide) ?_
        refine lv_iconst (v := 0) hx hb dX3_stop_33 (by decide) ?_
        refine lv_iconst (v := 0) hx hb dX3_stop_34 (by decide) ?_
        obtain ⟨h_6, hok⟩ := hok
        rcases Classical.em ((p_append u 7 0 0 0 0 0).1 = 0) with c_6 | c_6
        · skip
          refine k_callVi (As := [.int 7, .int 0, .int 0, .int 0, .int 0, .int 0]) (rest := []) hzz ⟨hx, hb, hml, hown, hts⟩ (cr_append l D ad cI cZ zz hzz tS hst u 7 0 0 0 0 0 h_6 c_6) (cwV 6 hts (tb_V tw_2_21 tw_2_23 slX3_append tw_1_1 tw_2_24) rfl rfl rfl (by decide +kernel) ⟨Nat.le_of_ble_eq_true rfl, Nat.le_of_ble_eq_true rfl⟩) (va_recv hK hP (ci := 3) (q0 := 0) rfl rfl) rfl hl.1 rfl (lv_room (Nat.le_of_ble_eq_true rfl)) dX3_stop_35 ⟨Nat.le_of_ble_eq_true rfl, Nat.le_of_ble_eq_true rfl⟩ hP hK hD hS hA hZ (fun H locs hP hD hS => ?_)
          generalize eu_7 : (p_append u 7 0 0 0 0 0).2.2 = u_7 at hP hD ⊢
          try rw [eu_7] at hok
          refine lv_goto (tgt := 52) hx hb dX3_stop_38 (by decide) ?_
          have e9 : p_stop u x1 = (0, (p_append u 7 0 0 0 0 0).2.1, u_7) := by
            subst eu_7
            rw [p_stop, if_neg c_1, if_pos c_2, if_pos c_3, if_pos c_6]
          try rw [e9]
          exact W.iret hx hb hr (fun t ht hW => ⟨⟨_, (), rfl, rfl, by rw [ht]; exact hP, va_K.moved hW.alike hK, hD⟩, hS.F ht⟩) hS.2.2 dX3_stop_52
        · skip
          have e9 : p_stop u x1 = ((p_append u 7 0 0 0 0 0).1, 0, (p_append u 7 0 0 0 0 0).2.2) := by rw [p_stop, if_neg c_1, if_pos c_2, if_pos c_3, if_neg c_6]
          rw [e9] at hc
          exact absurd hc c_6
    · have hok := hok.2 c_2
      have e9 : p_stop u x1 = (1, 0, u) := by rw [p_stop, if_neg c_1, if_neg c_2]
      rw [e9] at hc
      exact absurd hc (show ¬ (1 : Nat) = 0 by decide)
set_option maxHeartbeats 4000000 in
set_option maxRecDepth 100000 in
theorem cx_stop (l : Launch) (hlt : l.stackTraces = false) (D : va_G) (ad : Nat → Nat) (cI cZ : ClassId) (zz : (Nat → Prop) → State → Heap → Prop) (hzz : Zok zz) (tS : Nat) (hst : Zst zz tS) (hxs : Zxs zz) (u : St) (x1 : Int32) (hok : ok_stop u x1) (hc : ¬ (p_stop u x1).1 = 0) : txI l D vwCl (tyT cI cZ) zz yX3_stop wsX3_stop ({ frames := 7, cells := 1, slots := 6, locals := 116 } : Room) [.ref (ad 0), .int x1] (wT ad cI cZ u) (p_stop u x1).1 (p_stop u x1).2.1 (wT ad cI cZ ((p_stop u x1).2.2)) 1 6 := by
  intro sz
  unfold ok_stop at hok
  refine vx_ofW (cc := cX3_stop) (maxL := 2) (ret := (some .int)) (by decide) rfl ?_
  intro p e s m args below meth c s₁ B hml hNo hv
  obtain ⟨rfl, hsz, hP, hK, hD0, hZ⟩ := hv
  have hx := B.exec
  have hb := B.bytes
  have hr := B.returns
  have hts := atoms_spec (ws := wsX3_stop) B.pre
  have hown : s.vm.findClass RX3 = some m.cls := findClass_of_methodNamed B.named
  have hlocks := B.notSynchronized
  subst hsz
  have hD := hD0.self (sz := s.heap.size)
  generalize hAe : va_A (wT ad cI cZ u) s.heap.size = A at hD hZ ⊢
  have hA : ∀ q : Nat, s.heap.size ≤ q → A q := fun q h => by rw [← hAe]; exact Or.inr h
  have hS : va_S A s.heap s.heap [] := va_S.rf
  have hl := lv_entry ([.ref (ad 0), .int x1]) (n := 2) (Nat.le_of_ble_eq_true rfl)
  rw [lg_entry_eq]
  generalize (lg_sl ([.ref (ad 0), .int x1]) ++ List.replicate (2 - (lg_sl ([.ref (ad 0), .int x1])).length) Slot.unset).toArray = ls at hl ⊢
  have hl : lv_has ls 2 [(0, .ref (ad 0)), (1, .int x1)] := hl
  refine lv_iload_n hx hb dX3_stop_0 rfl (lv_at hl 1 rfl) ?_
  refine lv_iconst (v := (-1)) hx hb dX3_stop_1 (by decide) ?_
  refine lv_icmp_lt (tgt := 12) hx hb dX3_stop_2 (by decide) (fun c_1 => ?_) (fun c_1 => ?_)
  · have hok := hok.1 c_1
    have e9 : p_stop u x1 = (1, 0, u) := by rw [p_stop, if_pos c_1]
    rw [e9]
    have hX := hxs _ _ _ hZ
    obtain ⟨sa, hsa⟩ := hX.2.2.1 (58, "no such stop") (by decide)
    exact vx_throwS (own := RX3) (cls := "java/lang/IllegalArgumentException") (names := xEN) hx hb hlt hown xfit1 xfit (hts _ (tb_c tw_1_193)) (hts _ (tb_c tw_1_9)) hsa (xhat1 hts hX.2.2.2) xgood1 hX.1 hX.2.1 hS (hl.1.trans hml.symm) dX3_stop_12 dX3_stop_15 dX3_stop_16 dX3_stop_18 dX3_stop_21 (fun x h => (hNo x h).elim) (Nat.le_of_ble_eq_true rfl) (Nat.le_of_ble_eq_true rfl) (Nat.le_of_ble_eq_true rfl) (Nat.le_of_ble_eq_true rfl) hlocks (fun t ha hsz hk => ⟨(), (show ¬ (1 : Nat) = 0 by decide), ⟨rfl, hP.kept (fun k q hq => hk q.1 (hP k q hq).lt), va_K.moved ha hK, hD⟩, Nat.le_trans hS.1 hsz, fun q h1 h2 => (hk q (Nat.lt_of_lt_of_le h1 hS.1)).trans (hS.2.1 q h1 h2)⟩) hS.2.2 (by decide) (by decide)
  · have hok := hok.2 c_1
    refine lv_iload_n hx hb dX3_stop_5 rfl (lv_at hl 1 rfl) ?_
    refine lv_sipush (v := 255) hx hb dX3_stop_6 (by decide) ?_
    refine lv_icmp_le (tgt := 22) hx hb dX3_stop_9 (by decide) (fun c_2 => ?_) (fun c_2 => ?_)
    · have hok := hok.1 c_2
      refine lv_iload_n hx hb dX3_stop_22 rfl (lv_at hl 1 rfl) ?_
      refine lv_iconst (v := (-1)) hx hb dX3_stop_23 (by decide) ?_
      refine lv_icmp_ne (tgt := 41) hx hb dX3_stop_24 (by decide) (fun c_3 => ?_) (fun c_3 => ?_)
      · have hok := hok.2 c_3
        refine lv_aload_n hx hb dX3_stop_41 rfl (lv_at hl 0 rfl) ?_
        refine lv_bipush (v := 8) hx hb dX3_stop_42 (by decide) ?_
        refine lv_iconst (v := 0) hx hb dX3_stop_44 (by decide) ?_
        refine lv_iconst (v := 0) hx hb dX3_stop_45 (by decide) ?_
        refine lv_iconst (v := 0) hx hb dX3_stop_46 (by decide) ?_
        refine lv_iconst (v := 0) hx hb dX3_stop_47 (by decide) ?_
        refine lv_iload_n hx hb dX3_stop_48 rfl (lv_at hl 1 rfl) ?_
        obtain ⟨h_4, hok⟩ := hok
        rcases Classical.em ((p_append u 8 0 0 0 0 x1).1 = 0) with c_4 | c_4
        · skip
          refine k_callVi (As := [.int 8, .int 0, .int 0, .int 0, .int 0, .int x1]) (rest := []) hzz ⟨hx, hb, hml, hown, hts⟩ (cr_append l D ad cI cZ zz hzz tS hst u 8 0 0 0 0 x1 h_4 c_4) (cwV 6 hts (tb_V tw_2_21 tw_2_23 slX3_append tw_1_1 tw_2_24) rfl rfl rfl (by decide +kernel) ⟨Nat.le_of_ble_eq_true rfl, Nat.le_of_ble_eq_true rfl⟩) (va_recv hK hP (ci := 3) (q0 := 0) rfl rfl) rfl hl.1 rfl (lv_room (Nat.le_of_ble_eq_true rfl)) dX3_stop_49 ⟨Nat.le_of_ble_eq_true rfl, Nat.le_of_ble_eq_true rfl⟩ hP hK hD hS hA hZ (fun H locs hP hD hS => ?_)
          generalize eu_5 : (p_append u 8 0 0 0 0 x1).2.2 = u_5 at hP hD ⊢
          try rw [eu_5] at hok
          have e9 : p_stop u x1 = (0, (p_append u 8 0 0 0 0 x1).2.1, u_5) := by
            subst eu_5
            rw [p_stop, if_neg c_1, if_pos c_2, if_neg c_3, if_pos c_4]
          rw [e9] at hc
          exact absurd rfl hc
        · skip
          have e9 : p_stop u x1 = ((p_append u 8 0 0 0 0 x1).1, 0, (p_append u 8 0 0 0 0 x1).2.2) := by rw [p_stop, if_neg c_1, if_pos c_2, if_neg c_3, if_neg c_4]
          rw [e9]
          refine kx_callVi (As := [.int 8, .int 0, .int 0, .int 0, .int 0, .int x1]) (rest := []) hzz ⟨hx, hb, hml, hown, hts⟩ (cx_append l hlt D ad cI cZ zz hzz tS hst hxs u 8 0 0 0 0 x1 h_4 c_4) (cwV 6 hts (tb_V tw_2_21 tw_2_23 slX3_append tw_1_1 tw_2_24) rfl rfl rfl (by decide +kernel) ⟨Nat.le_of_ble_eq_true rfl, Nat.le_of_ble_eq_true rfl⟩) (va_recv hK hP (ci := 3) (q0 := 0) rfl rfl) rfl hl.1 rfl (lv_room (Nat.le_of_ble_eq_true rfl)) dX3_stop_49 ⟨Nat.le_of_ble_eq_true rfl, Nat.le_of_ble_eq_true rfl⟩ hP hK hD hS hA hZ (fun _ ce q9 H locs hP hD hS hce hcv hcl => ?_) (fun h => absurd h c_4)
          exact vx_out (fun x h => (hNo x h).elim) hlocks hce hcv hcl (fun t ht hvm => ⟨(), c_4, ⟨rfl, by rw [ht]; exact hP, va_K.moved hvm hK, hD⟩, hS.F ht⟩) hS.2.2 (by decide) (by decide)
      · have hok := hok.1 c_3
        refine lv_aload_n hx hb dX3_stop_27 rfl (lv_at hl 0 rfl) ?_
        refine lv_bipush (v := 7) hx hb dX3_stop_28 (by decide) ?_
        refine lv_iconst (v := 0) hx hb dX3_stop_30 (by decide) ?_
        refine lv_iconst (v := 0) hx hb dX3_stop_31 (by decide) ?_
        refine lv_iconst (v := 0) hx hb dX3_stop_32 (by decide) ?_
        refine lv_iconst (v := 0) hx hb dX3_stop_33 (by decide) ?_
        refine lv_iconst (v := 0) hx hb dX3_stop_34 (by decide) ?_
        obtain ⟨h_6, hok⟩ := hok
        rcases Classical.em ((p_append u 7 0 0 0 0 0).1 = 0) with c_6 | c_6
        · skip
          refine k_callVi (As := [.int 7, .int 0, .int 0, .int 0, .int 0, .int 0]) (rest := []) hzz ⟨hx, hb, hml, hown, hts⟩ (cr_append l D ad cI cZ zz hzz tS hst u 7 0 0 0 0 0 h_6 c_6) (cwV 6 hts (tb_V tw_2_21 tw_2_23 slX3_append tw_1_1 tw_2_24) rfl rfl rfl (by decide +kernel) ⟨Nat.le_of_ble_eq_true rfl, Nat.le_of_ble_eq_true rfl⟩) (va_recv hK hP (ci := 3) (q0 := 0) rfl rfl) rfl hl.1 rfl (lv_room (Nat.le_of_ble_eq_true rfl)) dX3_stop_35 ⟨Nat.le_of_ble_eq_true rfl, Nat.le_of_ble_eq_true rfl⟩ hP hK hD hS hA hZ (fun H locs hP hD hS => ?_)
          generalize eu_7 : (p_append u 7 0 0 0 0 0).2.2 = u_7 at hP hD ⊢
          try rw [eu_7] at hok
          refine lv_goto (tgt := 52) hx hb dX3_stop_38 (by decide) ?_
          have e9 : p_stop u x1 = (0, (p_append u 7 0 0 0 0 0).2.1, u_7) := by
            subst eu_7
            rw [p_stop, if_neg c_1, if_pos c_2, if_pos c_3, if_pos c_6]
          rw [e9] at hc
          exact absurd rfl hc
        · skip
          have e9 : p_stop u x1 = ((p_append u 7 0 0 0 0 0).1, 0, (p_append u 7 0 0 0 0 0).2.2) := by rw [p_stop, if_neg c_1, if_pos c_2, if_pos c_3, if_neg c_6]
          rw [e9]
          refine kx_callVi (As := [.int 7, .int 0, .int 0, .int 0, .int 0, .int 0]) (rest := []) hzz ⟨hx, hb, hml, hown, hts⟩ (cx_append l hlt D ad cI cZ zz hzz tS hst hxs u 7 0 0 0 0 0 h_6 c_6) (cwV 6 hts (tb_V tw_2_21 tw_2_23 slX3_append tw_1_1 tw_2_24) rfl rfl rfl (by decide +kernel) ⟨Nat.le_of_ble_eq_true rfl, Nat.le_of_ble_eq_true rfl⟩) (va_recv hK hP (ci := 3) (q0 := 0) rfl rfl) rfl hl.1 rfl (lv_room (Nat.le_of_ble_eq_true rfl)) dX3_stop_35 ⟨Nat.le_of_ble_eq_true rfl, Nat.le_of_ble_eq_true rfl⟩ hP hK hD hS hA hZ (fun _ ce q9 H locs hP hD hS hce hcv hcl => ?_) (fun h => absurd h c_6)
          exact vx_out (fun x h => (hNo x h).elim) hlocks hce hcv hcl (fun t ht hvm => ⟨(), c_6, ⟨rfl, by rw [ht]; exact hP, va_K.moved hvm hK, hD⟩, hS.F ht⟩) hS.2.2 (by decide) (by decide)
    · have hok := hok.2 c_2
      have e9 : p_stop u x1 = (1, 0, u) := by rw [p_stop, if_neg c_1, if_neg c_2]
      rw [e9]
      have hX := hxs _ _ _ hZ
      obtain ⟨sa, hsa⟩ := hX.2.2.1 (58, "no such stop") (by decide)
      exact vx_throwS (own := RX3) (cls := "java/lang/IllegalArgumentException") (names := xEN) hx hb hlt hown xfit1 xfit (hts _ (tb_c tw_1_193)) (hts _ (tb_c tw_1_9)) hsa (xhat1 hts hX.2.2.2) xgood1 hX.1 hX.2.1 hS (hl.1.trans hml.symm) dX3_stop_12 dX3_stop_15 dX3_stop_16 dX3_stop_18 dX3_stop_21 (fun x h => (hNo x h).elim) (Nat.le_of_ble_eq_true rfl) (Nat.le_of_ble_eq_true rfl) (Nat.le_of_ble_eq_true rfl) (Nat.le_of_ble_eq_true rfl) hlocks (fun t ha hsz hk => ⟨(), (show ¬ (1 : Nat) = 0 by decide), ⟨rfl, hP.kept (fun k q hq => hk q.1 (hP k q hq).lt), va_K.moved ha hK, hD⟩, Nat.le_trans hS.1 hsz, fun q h1 h2 => (hk q (Nat.lt_of_lt_of_le h1 hS.1)).trans (hS.2.1 q h1 h2)⟩) hS.2.2 (by decide) (by decide)

def p_forge (u : St) : Nat × Int32 × St := (if (p_canBeForged u) = 0 then (2, 0, u) else (0, (p_make (p_turnOff u)).1 3, (p_make (p_turnOff u))))
def ok_forge (u : St) : Prop := (ok_canBeForged u ∧ (((p_canBeForged u) = 0 → True) ∧ (¬ (p_canBeForged u) = 0 → (ok_make (p_turnOff u) ∧ True))))
set_option maxHeartbeats 4000000 in
set_option maxRecDepth 100000 in
theorem cr_forge (l : Launch) (D : va_G) (ad : Nat → Nat) (cI cZ : ClassId) (zz : (Nat → Prop) → State → Heap → Prop) (hzz : Zok zz) (tS : Nat) (hst : Zst zz tS) (u : St) (hok : ok_forge u) (hc : (p_forge u).1 = 0) : tfI l D vwCl (tyT cI cZ) zz yX3_forge wsX3_forge ({ frames := 6, cells := 0, slots := 0, locals := 137 } : Room) [.ref (ad 0)] (wT ad cI cZ u) (p_forge u).2.1 (wT ad cI cZ ((p_forge u).2.2)) := by
  intro sz
  unfold ok_forge at hok
  refine Met.ofW (cc := cX3_forge) (maxL := 1) (ret := (some .int)) (by decide) rfl ?_
  intro p e s m args below meth c s₁ B hml hv
  obtain ⟨rfl, hsz, hP, hK, hD0, hZ⟩ := hv
  have hx := B.exec
  have hb := B.bytes
  have hr := B.returns
  have hts := atoms_spec (ws := wsX3_forge) B.pre
  have hown : s.vm.findClass RX3 = some m.cls := findClass_of_methodNamed B.named
  have hlocks := B.notSynchronized
  subst hsz
  have hD := hD0.self (sz := s.heap.size)
  generalize hAe : va_A (wT ad cI cZ u) s.heap.size = A at hD hZ ⊢
  have hA : ∀ q : Nat, s.heap.size ≤ q → A q := fun q h => by rw [← hAe]; exact Or.inr h
  have hS : va_S A s.heap s.heap [] := va_S.rf
  have hl := lv_entry ([.ref (ad 0)]) (n := 1) (Nat.le_of_ble_eq_true rfl)
  rw [lg_entry_eq]
  generalize (lg_sl ([.ref (ad 0)]) ++ List.replicate (1 - (lg_sl ([.ref (ad 0)])).length) Slot.unset).toArray = ls at hl ⊢
  have hl : lv_has ls 1 [(0, .ref (ad 0))] := hl
  refine lv_aload_n hx hb dX3_forge_0 rfl (lv_at hl 0 rfl) ?_
  refine va_get (ci := 3) (v := .ref (ad 1)) (C := RX3) (T := TX3) (N := 3) hx hb hts (ivX3 _) hown hK hP 0 rfl rfl 0 (by decide) (hts _ (tb_c tw_1_143)) (fun _ h9 => h9) rfl dX3_forge_1 ?_
  obtain ⟨h_1, hok⟩ := hok
  refine k_callVi (As := []) (rest := []) hzz ⟨hx, hb, hml, hown, hts⟩ (c_canBeForged l D ad cI cZ zz hzz tS hst u h_1) (cwV 0 hts (tb_V tw_2_111 tw_2_112 tw_2_113 tw_1_2 tw_2_114) rfl rfl rfl (by decide +kernel) ⟨Nat.le_of_ble_eq_true rfl, Nat.le_of_ble_eq_true rfl⟩) (va_recv hK hP (ci := 2) (q0 := 1) rfl rfl) rfl hl.1 rfl (lv_room (Nat.le_of_ble_eq_true rfl)) dX3_forge_4 ⟨Nat.le_of_ble_eq_true rfl, Nat.le_of_ble_eq_true rfl⟩ hP hK hD hS hA hZ (fun H locs hP hD hS => ?_)
  refine lv_if_ne (tgt := 20) hx hb dX3_forge_7 (by decide) (fun c_2 => ?_) (fun c_2 => ?_)
  · have hok := hok.2 c_2
    refine lv_aload_n hx hb dX3_forge_20 rfl (lv_at hl 0 rfl) ?_
    refine va_get (ci := 3) (v := .ref (ad 3)) (C := RX3) (T := TX3) (N := 3) hx hb hts (ivX3 _) hown hK hP 0 rfl rfl 2 (by decide) (hts _ (tb_c tw_1_145)) (fun _ h9 => h9) rfl dX3_forge_21 ?_
    refine k_callVv (As := []) (rest := []) hzz ⟨hx, hb, hml, hown, hts⟩ (c_turnOff l D ad cI cZ zz hzz tS hst u) (cwV 0 hts (tb_V tw_1_165 tw_1_166 tw_1_167 tw_1_4 tw_1_168) rfl rfl rfl (by decide +kernel) ⟨Nat.le_of_ble_eq_true rfl, Nat.le_of_ble_eq_true rfl⟩) (va_recv hK hP (ci := 1) (q0 := 3) rfl rfl) rfl hl.1 rfl (lv_room (Nat.le_of_ble_eq_true rfl)) dX3_forge_24 ⟨Nat.le_of_ble_eq_true rfl, Nat.le_of_ble_eq_true rfl⟩ hP hK hD hS hA hZ (fun H locs hP hD hS => ?_)
    generalize eu_4 : p_turnOff u = u_4 at hP hD ⊢
    try rw [eu_4] at hok
    refine lv_aload_n hx hb dX3_forge_27 rfl (lv_at hl 0 rfl) ?_
    refine va_get (ci := 3) (v := .ref (ad 2)) (C := RX3) (T := TX3) (N := 3) hx hb hts (ivX3 _) hown hK hP 0 rfl rfl 1 (by decide) (hts _ (tb_c tw_1_144)) (fun _ h9 => h9) rfl dX3_forge_28 ?_
    obtain ⟨h_5, hok⟩ := hok
    refine k_callVv (As := []) (rest := []) hzz ⟨hx, hb, hml, hown, hts⟩ (c_make l D ad cI cZ zz hzz tS hst u_4 h_5) (cwV 0 hts (tb_V tw_2_119 tw_2_120 tw_2_121 tw_1_3 tw_2_122) rfl rfl rfl (by decide +kernel) ⟨Nat.le_of_ble_eq_true rfl, Nat.le_of_ble_eq_true rfl⟩) (va_recv hK hP (ci := 0) (q0 := 2) rfl rfl) rfl hl.1 rfl (lv_room (Nat.le_of_ble_eq_true rfl)) dX3_forge_31 ⟨Nat.le_of_ble_eq_true rfl, Nat.le_of_ble_eq_true rfl⟩ hP hK hD hS hA hZ (fun H locs hP hD hS => ?_)
    generalize eu_6 : p_make u_4 = u_6 at hP hD ⊢
    try rw [eu_6] at hok
    refine lv_aload_n hx hb dX3_forge_34 rfl (lv_at hl 0 rfl) ?_
    refine va_get (ci := 3) (v := .ref (ad 2)) (C := RX3) (T := TX3) (N := 3) hx hb hts (ivX3 _) hown hK hP 0 rfl rfl 1 (by decide) (hts _ (tb_c tw_1_144)) (fun _ h9 => h9) rfl dX3_forge_35 ?_
    refine va_get (ci := 0) (v := .int (u_6.1 3)) (C := RX0) (T := TX0) (N := 9) hx hb hts (ivX0 _) hown hK hP 2 rfl rfl 7 (by decide) (hts _ (tb_c tw_1_80)) (fun _ h9 => h9) rfl dX3_forge_38 ?_
    have e9 : p_forge u = (0, u_6.1 3, u_6) := by
      subst eu_6
      subst eu_4
      rw [p_forge, if_neg c_2]
    try rw [e9]
    exact W.iret hx hb hr (fun t ht hW => ⟨⟨_, (), rfl, rfl, by rw [ht]; exact hP, va_K.moved hW.alike hK, hD⟩, hS.F ht⟩) hS.2.2 dX3_forge_41
  · have hok := hok.1 c_2
    have e9 : p_forge u = (2, 0, u) := by rw [p_forge, if_pos c_2]
    rw [e9] at hc
    exact absurd hc (show ¬ (2 : Nat) = 0 by decide)
set_option maxHeartbeats 4000000 in
set_option maxRecDepth 100000 in
theorem cx_forge (l : Launch) (hlt : l.stackTraces = false) (D : va_G) (ad : Nat → Nat) (cI cZ : ClassId) (zz : (Nat → Prop) → State → Heap → Prop) (hzz : Zok zz) (tS : Nat) (hst : Zst zz tS) (hxs : Zxs zz) (u : St) (hok : ok_forge u) (hc : ¬ (p_forge u).1 = 0) : txI l D vwCl (tyT cI cZ) zz yX3_forge wsX3_forge ({ frames := 6, cells := 1, slots := 6, locals := 137 } : Room) [.ref (ad 0)] (wT ad cI cZ u) (p_forge u).1 (p_forge u).2.1 (wT ad cI cZ ((p_forge u).2.2)) 1 6 := by
  intro sz
  unfold ok_forge at hok
  refine vx_ofW (cc := cX3_forge) (maxL := 1) (ret := (some .int)) (by decide) rfl ?_
  intro p e s m args below meth c s₁ B hml hNo hv
  obtain ⟨rfl, hsz, hP, hK, hD0, hZ⟩ := hv
  have hx := B.exec
  have hb := B.bytes
  have hr := B.returns
  have hts := atoms_spec (ws := wsX3_forge) B.pre
  have hown : s.vm.findClass RX3 = some m.cls := findClass_of_methodNamed B.named
  have hlocks := B.notSynchronized
  subst hsz
  have hD := hD0.self (sz := s.heap.size)
  generalize hAe : va_A (wT ad cI cZ u) s.heap.size = A at hD hZ ⊢
  have hA : ∀ q : Nat, s.heap.size ≤ q → A q := fun q h => by rw [← hAe]; exact Or.inr h
  have hS : va_S A s.heap s.heap [] := va_S.rf
  have hl := lv_entry ([.ref (ad 0)]) (n := 1) (Nat.le_of_ble_eq_true rfl)
  rw [lg_entry_eq]
  generalize (lg_sl ([.ref (ad 0)]) ++ List.replicate (1 - (lg_sl ([.ref (ad 0)])).length) Slot.unset).toArray = ls at hl ⊢
  have hl : lv_has ls 1 [(0, .ref (ad 0))] := hl
  refine lv_aload_n hx hb dX3_forge_0 rfl (lv_at hl 0 rfl) ?_
  refine va_get (ci := 3) (v := .ref (ad 1)) (C := RX3) (T := TX3) (N := 3) hx hb hts (ivX3 _) hown hK hP 0 rfl rfl 0 (by decide) (hts _ (tb_c tw_1_143)) (fun _ h9 => h9) rfl dX3_forge_1 ?_
  obtain ⟨h_1, hok⟩ := hok
  refine k_callVi (As := []) (rest := []) hzz ⟨hx, hb, hml, hown, hts⟩ (c_canBeForged l D ad cI cZ zz hzz tS hst u h_1) (cwV 0 hts (tb_V tw_2_111 tw_2_112 tw_2_113 tw_1_2 tw_2_114) rfl rfl rfl (by decide +kernel) ⟨Nat.le_of_ble_eq_true rfl, Nat.le_of_ble_eq_true rfl⟩) (va_recv hK hP (ci := 2) (q0 := 1) rfl rfl) rfl hl.1 rfl (lv_room (Nat.le_of_ble_eq_true rfl)) dX3_forge_4 ⟨Nat.le_of_ble_eq_true rfl, Nat.le_of_ble_eq_true rfl⟩ hP hK hD hS hA hZ (fun H locs hP hD hS => ?_)
  refine lv_if_ne (tgt := 20) hx hb dX3_forge_7 (by decide) (fun c_2 => ?_) (fun c_2 => ?_)
  · have hok := hok.2 c_2
    refine lv_aload_n hx hb dX3_forge_20 rfl (lv_at hl 0 rfl) ?_
    refine va_get (ci := 3) (v := .ref (ad 3)) (C := RX3) (T := TX3) (N := 3) hx hb hts (ivX3 _) hown hK hP 0 rfl rfl 2 (by decide) (hts _ (tb_c tw_1_145)) (fun _ h9 => h9) rfl dX3_forge_21 ?_
    refine k_callVv (As := []) (rest := []) hzz ⟨hx, hb, hml, hown, hts⟩ (c_turnOff l D ad cI cZ zz hzz tS hst u) (cwV 0 hts (tb_V tw_1_165 tw_1_166 tw_1_167 tw_1_4 tw_1_168) rfl rfl rfl (by decide +kernel) ⟨Nat.le_of_ble_eq_true rfl, Nat.le_of_ble_eq_true rfl⟩) (va_recv hK hP (ci := 1) (q0 := 3) rfl rfl) rfl hl.1 rfl (lv_room (Nat.le_of_ble_eq_true rfl)) dX3_forge_24 ⟨Nat.le_of_ble_eq_true rfl, Nat.le_of_ble_eq_true rfl⟩ hP hK hD hS hA hZ (fun H locs hP hD hS => ?_)
    generalize eu_4 : p_turnOff u = u_4 at hP hD ⊢
    try rw [eu_4] at hok
    refine lv_aload_n hx hb dX3_forge_27 rfl (lv_at hl 0 rfl) ?_
    refine va_get (ci := 3) (v := .ref (ad 2)) (C := RX3) (T := TX3) (N := 3) hx hb hts (ivX3 _) hown hK hP 0 rfl rfl 1 (by decide) (hts _ (tb_c tw_1_144)) (fun _ h9 => h9) rfl dX3_forge_28 ?_
    obtain ⟨h_5, hok⟩ := hok
    refine k_callVv (As := []) (rest := []) hzz ⟨hx, hb, hml, hown, hts⟩ (c_make l D ad cI cZ zz hzz tS hst u_4 h_5) (cwV 0 hts (tb_V tw_2_119 tw_2_120 tw_2_121 tw_1_3 tw_2_122) rfl rfl rfl (by decide +kernel) ⟨Nat.le_of_ble_eq_true rfl, Nat.le_of_ble_eq_true rfl⟩) (va_recv hK hP (ci := 0) (q0 := 2) rfl rfl) rfl hl.1 rfl (lv_room (Nat.le_of_ble_eq_true rfl)) dX3_forge_31 ⟨Nat.le_of_ble_eq_true rfl, Nat.le_of_ble_eq_true rfl⟩ hP hK hD hS hA hZ (fun H locs hP hD hS => ?_)
    generalize eu_6 : p_make u_4 = u_6 at hP hD ⊢
    try rw [eu_6] at hok
    refine lv_aload_n hx hb dX3_forge_34 rfl (lv_at hl 0 rfl) ?_
    refine va_get (ci := 3) (v := .ref (ad 2)) (C := RX3) (T := TX3) (N := 3) hx hb hts (ivX3 _) hown hK hP 0 rfl rfl 1 (by decide) (hts _ (tb_c tw_1_144)) (fun _ h9 => h9) rfl dX3_forge_35 ?_
    refine va_get (ci := 0) (v := .int (u_6.1 3)) (C := RX0) (T := TX0) (N := 9) hx hb hts (ivX0 _) hown hK hP 2 rfl rfl 7 (by decide) (hts _ (tb_c tw_1_80)) (fun _ h9 => h9) rfl dX3_forge_38 ?_
    have e9 : p_forge u = (0, u_6.1 3, u_6) := by
      subst eu_6
      subst eu_4
      rw [p_forge, if_neg c_2]
    rw [e9] at hc
    exact absurd rfl hc
  · have hok := hok.1 c_2
    have e9 : p_forge u = (2, 0, u) := by rw [p_forge, if_pos c_2]
    rw [e9]
    have hX := hxs _ _ _ hZ
    obtain ⟨sa, hsa⟩ := hX.2.2.1 (72, "the program is not whole") (by decide)
    exact vx_throwS (own := RX3) (cls := "java/lang/IllegalStateException") (names := xEN) hx hb hlt hown xfit2 xfit (hts _ (tb_c tw_2_25)) (hts _ (tb_c tw_1_10)) hsa (xhat2 hts hX.2.2.2) xgood2 hX.1 hX.2.1 hS (hl.1.trans hml.symm) dX3_forge_10 dX3_forge_13 dX3_forge_14 dX3_forge_16 dX3_forge_19 (fun x h => (hNo x h).elim) (Nat.le_of_ble_eq_true rfl) (Nat.le_of_ble_eq_true rfl) (Nat.le_of_ble_eq_true rfl) (Nat.le_of_ble_eq_true rfl) hlocks (fun t ha hsz hk => ⟨(), (show ¬ (2 : Nat) = 0 by decide), ⟨rfl, hP.kept (fun k q hq => hk q.1 (hP k q hq).lt), va_K.moved ha hK, hD⟩, Nat.le_trans hS.1 hsz, fun q h1 h2 => (hk q (Nat.lt_of_lt_of_le h1 hS.1)).trans (hS.2.1 q h1 h2)⟩) hS.2.2 (by decide) (by decide)

def p_halfword (u : St) (x1 : Int32) : Nat × Int32 × St := (if (u.1 4) = 0 then (3, 0, u) else (if x1 < 0 then (3, 0, u) else (if x1 < (u.1 3) then (0, u.2 6 x1.toNatClampNeg, u) else (3, 0, u))))
def ok_halfword (u : St) (x1 : Int32) : Prop := (((u.1 4) = 0 → True) ∧ (¬ (u.1 4) = 0 → ((x1 < 0 → True) ∧ (¬ x1 < 0 → ((x1 < (u.1 3) → (vp_in x1 388 ∧ True)) ∧ (¬ x1 < (u.1 3) → True))))))
set_option maxHeartbeats 4000000 in
set_option maxRecDepth 100000 in
theorem cr_halfword (l : Launch) (D : va_G) (ad : Nat → Nat) (cI cZ : ClassId) (zz : (Nat → Prop) → State → Heap → Prop) (hzz : Zok zz) (tS : Nat) (hst : Zst zz tS) (u : St) (x1 : Int32) (hok : ok_halfword u x1) (hc : (p_halfword u x1).1 = 0) : tfI l D vwCl (tyT cI cZ) zz yX3_halfword wsX3_halfword ({ frames := 6, cells := 0, slots := 0, locals := 90 } : Room) [.ref (ad 0), .int x1] (wT ad cI cZ u) (p_halfword u x1).2.1 (wT ad cI cZ ((p_halfword u x1).2.2)) := by
  intro sz
  unfold ok_halfword at hok
  refine Met.ofW (cc := cX3_halfword) (maxL := 2) (ret := (some .int)) (by decide) rfl ?_
  intro p e s m args below meth c s₁ B hml hv
  obtain ⟨rfl, hsz, hP, hK, hD0, hZ⟩ := hv
  have hx := B.exec
  have hb := B.bytes
  have hr := B.returns
  have hts := atoms_spec (ws := wsX3_halfword) B.pre
  have hown : s.vm.findClass RX3 = some m.cls := findClass_of_methodNamed B.named
  have hlocks := B.notSynchronized
  subst hsz
  have hD := hD0.self (sz := s.heap.size)
  generalize hAe : va_A (wT ad cI cZ u) s.heap.size = A at hD hZ ⊢
  have hA : ∀ q : Nat, s.heap.size ≤ q → A q := fun q h => by rw [← hAe]; exact Or.inr h
  have hS : va_S A s.heap s.heap [] := va_S.rf
  have hl := lv_entry ([.ref (ad 0), .int x1]) (n := 2) (Nat.le_of_ble_eq_true rfl)
  rw [lg_entry_eq]
  generalize (lg_sl ([.ref (ad 0), .int x1]) ++ List.replicate (2 - (lg_sl ([.ref (ad 0), .int x1])).length) Slot.unset).toArray = ls at hl ⊢
  have hl : lv_has ls 2 [(0, .ref (ad 0)), (1, .int x1)] := hl
  refine lv_aload_n hx hb dX3_halfword_0 rfl (lv_at hl 0 rfl) ?_
  refine va_get (ci := 3) (v := .ref (ad 2)) (C := RX3) (T := TX3) (N := 3) hx hb hts (ivX3 _) hown hK hP 0 rfl rfl 1 (by decide) (hts _ (tb_c tw_1_144)) (fun _ h9 => h9) rfl dX3_halfword_1 ?_
  refine va_get (ci := 0) (v := .int (u.1 4)) (C := RX0) (T := TX0) (N := 9) hx hb hts (ivX0 _) hown hK hP 2 rfl rfl 8 (by decide) (hts _ (tb_c tw_1_82)) (fun _ h9 => h9) rfl dX3_halfword_4 ?_
  refine lv_if_eq (tgt := 25) hx hb dX3_halfword_7 (by decide) (fun c_1 => ?_) (fun c_1 => ?_)
  · have hok := hok.1 c_1
    have e9 : p_halfword u x1 = (3, 0, u) := by rw [p_halfword, if_pos c_1]
    rw [e9] at hc
    exact absurd hc (show ¬ (3 : Nat) = 0 by decide)
  · have hok := hok.2 c_1
    refine lv_iload_n hx hb dX3_halfword_10 rfl (lv_at hl 1 rfl) ?_
    refine lv_if_lt (tgt := 25) hx hb dX3_halfword_11 (by decide) (fun c_2 => ?_) (fun c_2 => ?_)
    · have hok := hok.1 c_2
      have e9 : p_halfword u x1 = (3, 0, u) := by rw [p_halfword, if_neg c_1, if_pos c_2]
      rw [e9] at hc
      exact absurd hc (show ¬ (3 : Nat) = 0 by decide)
    · have hok := hok.2 c_2
      refine lv_iload_n hx hb dX3_halfword_14 rfl (lv_at hl 1 rfl) ?_
      refine lv_aload_n hx hb dX3_halfword_15 rfl (lv_at hl 0 rfl) ?_
      refine va_get (ci := 3) (v := .ref (ad 2)) (C := RX3) (T := TX3) (N := 3) hx hb hts (ivX3 _) hown hK hP 0 rfl rfl 1 (by decide) (hts _ (tb_c tw_1_144)) (fun _ h9 => h9) rfl dX3_halfword_16 ?_
      refine va_get (ci := 0) (v := .int (u.1 3)) (C := RX0) (T := TX0) (N := 9) hx hb hts (ivX0 _) hown hK hP 2 rfl rfl 7 (by decide) (hts _ (tb_c tw_1_80)) (fun _ h9 => h9) rfl dX3_halfword_19 ?_
      refine lv_icmp_lt (tgt := 35) hx hb dX3_halfword_22 (by decide) (fun c_3 => ?_) (fun c_3 => ?_)
      · have hok := hok.1 c_3
        refine lv_aload_n hx hb dX3_halfword_35 rfl (lv_at hl 0 rfl) ?_
        refine va_get (ci := 3) (v := .ref (ad 2)) (C := RX3) (T := TX3) (N := 3) hx hb hts (ivX3 _) hown hK hP 0 rfl rfl 1 (by decide) (hts _ (tb_c tw_1_144)) (fun _ h9 => h9) rfl dX3_halfword_36 ?_
        refine va_get (ci := 0) (v := .ref (ad 10)) (C := RX0) (T := TX0) (N := 9) hx hb hts (ivX0 _) hown hK hP 2 rfl rfl 1 (by decide) (hts _ (tb_c tw_1_71)) (fun _ h9 => h9) rfl dX3_halfword_39 ?_
        refine lv_iload_n hx hb dX3_halfword_42 rfl (lv_at hl 1 rfl) ?_
        obtain ⟨h_4, hok⟩ := hok
        refine va_iald (f := u.2 6) hx hb hK hP 10 0 rfl rfl h_4 dX3_halfword_43 ?_
        have e9 : p_halfword u x1 = (0, u.2 6 x1.toNatClampNeg, u) := by rw [p_halfword, if_neg c_1, if_neg c_2, if_pos c_3]
        try rw [e9]
        exact W.iret hx hb hr (fun t ht hW => ⟨⟨_, (), rfl, rfl, by rw [ht]; exact hP, va_K.moved hW.alike hK, hD⟩, hS.F ht⟩) hS.2.2 dX3_halfword_44
      · have hok := hok.2 c_3
        have e9 : p_halfword u x1 = (3, 0, u) := by rw [p_halfword, if_neg c_1, if_neg c_2, if_neg c_3]
        rw [e9] at hc
        exact absurd hc (show ¬ (3 : Nat) = 0 by decide)

def p_place (u : St) (x1 : Int32) : Nat × Int32 × St := (if (u.1 4) = 0 then (3, 0, u) else (if x1 < 0 then (3, 0, u) else (if x1 < (u.1 0) then (0, u.2 7 x1.toNatClampNeg, u) else (3, 0, u))))
def ok_place (u : St) (x1 : Int32) : Prop := (((u.1 4) = 0 → True) ∧ (¬ (u.1 4) = 0 → ((x1 < 0 → True) ∧ (¬ x1 < 0 → ((x1 < (u.1 0) → (vp_in x1 49 ∧ True)) ∧ (¬ x1 < (u.1 0) → True))))))
set_option maxHeartbeats 4000000 in
set_option maxRecDepth 100000 in
theorem cr_place (l : Launch) (D : va_G) (ad : Nat → Nat) (cI cZ : ClassId) (zz : (Nat → Prop) → State → Heap → Prop) (hzz : Zok zz) (tS : Nat) (hst : Zst zz tS) (u : St) (x1 : Int32) (hok : ok_place u x1) (hc : (p_place u x1).1 = 0) : tfI l D vwCl (tyT cI cZ) zz yX3_place wsX3_place ({ frames := 6, cells := 0, slots := 0, locals := 90 } : Room) [.ref (ad 0), .int x1] (wT ad cI cZ u) (p_place u x1).2.1 (wT ad cI cZ ((p_place u x1).2.2)) := by
  intro sz
  unfold ok_place at hok
  refine Met.ofW (cc := cX3_place) (maxL := 2) (ret := (some .int)) (by decide) rfl ?_
  intro p e s m args below meth c s₁ B hml hv
  obtain ⟨rfl, hsz, hP, hK, hD0, hZ⟩ := hv
  have hx := B.exec
  have hb := B.bytes
  have hr := B.returns
  have hts := atoms_spec (ws := wsX3_place) B.pre
  have hown : s.vm.findClass RX3 = some m.cls := findClass_of_methodNamed B.named
  have hlocks := B.notSynchronized
  subst hsz
  have hD := hD0.self (sz := s.heap.size)
  generalize hAe : va_A (wT ad cI cZ u) s.heap.size = A at hD hZ ⊢
  have hA : ∀ q : Nat, s.heap.size ≤ q → A q := fun q h => by rw [← hAe]; exact Or.inr h
  have hS : va_S A s.heap s.heap [] := va_S.rf
  have hl := lv_entry ([.ref (ad 0), .int x1]) (n := 2) (Nat.le_of_ble_eq_true rfl)
  rw [lg_entry_eq]
  generalize (lg_sl ([.ref (ad 0), .int x1]) ++ List.replicate (2 - (lg_sl ([.ref (ad 0), .int x1])).length) Slot.unset).toArray = ls at hl ⊢
  have hl : lv_has ls 2 [(0, .ref (ad 0)), (1, .int x1)] := hl
  refine lv_aload_n hx hb dX3_place_0 rfl (lv_at hl 0 rfl) ?_
  refine va_get (ci := 3) (v := .ref (ad 2)) (C := RX3) (T := TX3) (N := 3) hx hb hts (ivX3 _) hown hK hP 0 rfl rfl 1 (by decide) (hts _ (tb_c tw_1_144)) (fun _ h9 => h9) rfl dX3_place_1 ?_
  refine va_get (ci := 0) (v := .int (u.1 4)) (C := RX0) (T := TX0) (N := 9) hx hb hts (ivX0 _) hown hK hP 2 rfl rfl 8 (by decide) (hts _ (tb_c tw_1_82)) (fun _ h9 => h9) rfl dX3_place_4 ?_
  refine lv_if_eq (tgt := 25) hx hb dX3_place_7 (by decide) (fun c_1 => ?_) (fun c_1 => ?_)
  · have hok := hok.1 c_1
    have e9 : p_place u x1 = (3, 0, u) := by rw [p_place, if_pos c_1]
    rw [e9] at hc
    exact absurd hc (show ¬ (3 : Nat) = 0 by decide)
  · have hok := hok.2 c_1
    refine lv_iload_n hx hb dX3_place_10 rfl (lv_at hl 1 rfl) ?_
    refine lv_if_lt (tgt := 25) hx hb dX3_place_11 (by decide) (fun c_2 => ?_) (fun c_2 => ?_)
    · have hok := hok.1 c_2
      have e9 : p_place u x1 = (3, 0, u) := by rw [p_place, if_neg c_1, if_pos c_2]
      rw [e9] at hc
      exact absurd hc (show ¬ (3 : Nat) = 0 by decide)
    · have hok := hok.2 c_2
      refine lv_iload_n hx hb dX3_place_14 rfl (lv_at hl 1 rfl) ?_
      refine lv_aload_n hx hb dX3_place_15 rfl (lv_at hl 0 rfl) ?_
      refine va_get (ci := 3) (v := .ref (ad 1)) (C := RX3) (T := TX3) (N := 3) hx hb hts (ivX3 _) hown hK hP 0 rfl rfl 0 (by decide) (hts _ (tb_c tw_1_143)) (fun _ h9 => h9) rfl dX3_place_16 ?_
      refine va_get (ci := 2) (v := .int (u.1 0)) (C := RX2) (T := TX2) (N := 7) hx hb hts (ivX2 _) hown hK hP 1 rfl rfl 6 (by decide) (hts _ (tb_c tw_1_46)) (fun _ h9 => h9) rfl dX3_place_19 ?_
      refine lv_icmp_lt (tgt := 35) hx hb dX3_place_22 (by decide) (fun c_3 => ?_) (fun c_3 => ?_)
      · have hok := hok.1 c_3
        refine lv_aload_n hx hb dX3_place_35 rfl (lv_at hl 0 rfl) ?_
        refine va_get (ci := 3) (v := .ref (ad 2)) (C := RX3) (T := TX3) (N := 3) hx hb hts (ivX3 _) hown hK hP 0 rfl rfl 1 (by decide) (hts _ (tb_c tw_1_144)) (fun _ h9 => h9) rfl dX3_place_36 ?_
        refine va_get (ci := 0) (v := .ref (ad 11)) (C := RX0) (T := TX0) (N := 9) hx hb hts (ivX0 _) hown hK hP 2 rfl rfl 2 (by decide) (hts _ (tb_c tw_1_73)) (fun _ h9 => h9) rfl dX3_place_39 ?_
        refine lv_iload_n hx hb dX3_place_42 rfl (lv_at hl 1 rfl) ?_
        obtain ⟨h_4, hok⟩ := hok
        refine va_iald (f := u.2 7) hx hb hK hP 11 0 rfl rfl h_4 dX3_place_43 ?_
        have e9 : p_place u x1 = (0, u.2 7 x1.toNatClampNeg, u) := by rw [p_place, if_neg c_1, if_neg c_2, if_pos c_3]
        try rw [e9]
        exact W.iret hx hb hr (fun t ht hW => ⟨⟨_, (), rfl, rfl, by rw [ht]; exact hP, va_K.moved hW.alike hK, hD⟩, hS.F ht⟩) hS.2.2 dX3_place_44
      · have hok := hok.2 c_3
        have e9 : p_place u x1 = (3, 0, u) := by rw [p_place, if_neg c_1, if_neg c_2, if_neg c_3]
        rw [e9] at hc
        exact absurd hc (show ¬ (3 : Nat) = 0 by decide)

def p_poke (u : St) (x1 x2 : Int32) : Nat × Int32 × St := (if p_needWord x1 = 0 then (0, 0, sA u 10 x1 x2) else (p_needWord x1, 0, u))
def ok_poke (u : St) (x1 x2 : Int32) : Prop := ((p_needWord x1 = 0 → (vp_in x1 8 ∧ True)) ∧ (¬ p_needWord x1 = 0 → True))
set_option maxHeartbeats 4000000 in
set_option maxRecDepth 100000 in
theorem cr_poke (l : Launch) (D : va_G) (ad : Nat → Nat) (cI cZ : ClassId) (zz : (Nat → Prop) → State → Heap → Prop) (hzz : Zok zz) (tS : Nat) (hst : Zst zz tS) (u : St) (x1 x2 : Int32) (hok : ok_poke u x1 x2) (hc : (p_poke u x1 x2).1 = 0) : tfV l D vwCl (tyT cI cZ) zz yX3_poke wsX3_poke ({ frames := 7, cells := 0, slots := 0, locals := 110 } : Room) [.ref (ad 0), .int x1, .int x2] (wT ad cI cZ u) (wT ad cI cZ ((p_poke u x1 x2).2.2)) := by
  intro sz
  unfold ok_poke at hok
  refine Met.ofW (cc := cX3_poke) (maxL := 3) (ret := none) (by decide) rfl ?_
  intro p e s m args below meth c s₁ B hml hv
  obtain ⟨rfl, hsz, hP, hK, hD0, hZ⟩ := hv
  have hx := B.exec
  have hb := B.bytes
  have hr := B.returns
  have hts := atoms_spec (ws := wsX3_poke) B.pre
  have hown : s.vm.findClass RX3 = some m.cls := findClass_of_methodNamed B.named
  have hlocks := B.notSynchronized
  subst hsz
  have hD := hD0.self (sz := s.heap.size)
  generalize hAe : va_A (wT ad cI cZ u) s.heap.size = A at hD hZ ⊢
  have hA : ∀ q : Nat, s.heap.size ≤ q → A q := fun q h => by rw [← hAe]; exact Or.inr h
  have hS : va_S A s.heap s.heap [] := va_S.rf
  have hl := lv_entry ([.ref (ad 0), .int x1, .int x2]) (n := 3) (Nat.le_of_ble_eq_true rfl)
  rw [lg_entry_eq]
  generalize (lg_sl ([.ref (ad 0), .int x1, .int x2]) ++ List.replicate (3 - (lg_sl ([.ref (ad 0), .int x1, .int x2])).length) Slot.unset).toArray = ls at hl ⊢
  have hl : lv_has ls 3 [(0, .ref (ad 0)), (1, .int x1), (2, .int x2)] := hl
  refine lv_iload_n hx hb dX3_poke_0 rfl (lv_at hl 1 rfl) ?_
  rcases Classical.em (p_needWord x1 = 0) with c_1 | c_1
  · have hok := hok.1 c_1
    refine k_callSv (As := [.int x1]) (rest := []) hzz ⟨hx, hb, hml, hown, hts⟩ (cr_needWord l D ad cI cZ zz hzz tS hst (wT ad cI cZ u) x1 c_1) (cwS 1 hts (tb_S tw_3_16 tw_3_17 tw_1_1 tw_3_18) rfl rfl rfl (by decide +kernel) ⟨Nat.le_of_ble_eq_true rfl, Nat.le_of_ble_eq_true rfl⟩) rfl hl.1 rfl (lv_room (Nat.le_of_ble_eq_true rfl)) dX3_poke_1 ⟨Nat.le_of_ble_eq_true rfl, Nat.le_of_ble_eq_true rfl⟩ hP hK hD hS hA hZ (fun H locs hP hD hS => ?_)
    refine lv_aload_n hx hb dX3_poke_4 rfl (lv_at hl 0 rfl) ?_
    refine va_get (ci := 3) (v := .ref (ad 3)) (C := RX3) (T := TX3) (N := 3) hx hb hts (ivX3 _) hown hK hP 0 rfl rfl 2 (by decide) (hts _ (tb_c tw_1_145)) (fun _ h9 => h9) rfl dX3_poke_5 ?_
    refine va_get (ci := 1) (v := .ref (ad 14)) (C := RX1) (T := TX1) (N := 9) hx hb hts (ivX1 _) hown hK hP 3 rfl rfl 2 (by decide) (hts _ (tb_c tw_1_112)) (fun _ h9 => h9) rfl dX3_poke_8 ?_
    refine lv_iload_n hx hb dX3_poke_11 rfl (lv_at hl 1 rfl) ?_
    refine lv_iload_n hx hb dX3_poke_12 rfl (lv_at hl 2 rfl) ?_
    obtain ⟨h_2, hok⟩ := hok
    refine va_iast hx hb hK hP hD hS 14 0 rfl rfl h_2 dX3_poke_13 (fun H locs hP hD hS => ?_)
    have hP : va_P D vwCl (wT ad cI cZ (sA u 10 x1 x2)) H := hP
    have hD : va_D A (wT ad cI cZ (sA u 10 x1 x2)) := hD
    have e9 : p_poke u x1 x2 = (0, 0, sA u 10 x1 x2) := by rw [p_poke, if_pos c_1]
    try rw [e9]
    exact W.vret hx hb hr (fun t ht hW => ⟨⟨(), rfl, trivial, by rw [ht]; exact hP, va_K.moved hW.alike hK, hD⟩, hS.F ht⟩) hS.2.2 dX3_poke_14
  · skip
    have e9 : p_poke u x1 x2 = (p_needWord x1, 0, u) := by rw [p_poke, if_neg c_1]
    rw [e9] at hc
    exact absurd hc c_1
set_option maxHeartbeats 4000000 in
set_option maxRecDepth 100000 in
theorem cx_poke (l : Launch) (hlt : l.stackTraces = false) (D : va_G) (ad : Nat → Nat) (cI cZ : ClassId) (zz : (Nat → Prop) → State → Heap → Prop) (hzz : Zok zz) (tS : Nat) (hst : Zst zz tS) (hxs : Zxs zz) (u : St) (x1 x2 : Int32) (hok : ok_poke u x1 x2) (hc : ¬ (p_poke u x1 x2).1 = 0) : txV l D vwCl (tyT cI cZ) zz yX3_poke wsX3_poke ({ frames := 7, cells := 1, slots := 6, locals := 110 } : Room) [.ref (ad 0), .int x1, .int x2] (wT ad cI cZ u) (p_poke u x1 x2).1 (wT ad cI cZ ((p_poke u x1 x2).2.2)) 1 6 := by
  intro sz
  unfold ok_poke at hok
  refine vx_ofW (cc := cX3_poke) (maxL := 3) (ret := none) (by decide) rfl ?_
  intro p e s m args below meth c s₁ B hml hNo hv
  obtain ⟨rfl, hsz, hP, hK, hD0, hZ⟩ := hv
  have hx := B.exec
  have hb := B.bytes
  have hr := B.returns
  have hts := atoms_spec (ws := wsX3_poke) B.pre
  have hown : s.vm.findClass RX3 = some m.cls := findClass_of_methodNamed B.named
  have hlocks := B.notSynchronized
  subst hsz
  have hD := hD0.self (sz := s.heap.size)
  generalize hAe : va_A (wT ad cI cZ u) s.heap.size = A at hD hZ ⊢
  have hA : ∀ q : Nat, s.heap.size ≤ q → A q := fun q h => by rw [← hAe]; exact Or.inr h
  have hS : va_S A s.heap s.heap [] := va_S.rf
  have hl := lv_entry ([.ref (ad 0), .int x1, .int x2]) (n := 3) (Nat.le_of_ble_eq_true rfl)
  rw [lg_entry_eq]
  generalize (lg_sl ([.ref (ad 0), .int x1, .int x2]) ++ List.replicate (3 - (lg_sl ([.ref (ad 0), .int x1, .int x2])).length) Slot.unset).toArray = ls at hl ⊢
  have hl : lv_has ls 3 [(0, .ref (ad 0)), (1, .int x1), (2, .int x2)] := hl
  refine lv_iload_n hx hb dX3_poke_0 rfl (lv_at hl 1 rfl) ?_
  rcases Classical.em (p_needWord x1 = 0) with c_1 | c_1
  · have hok := hok.1 c_1
    refine k_callSv (As := [.int x1]) (rest := []) hzz ⟨hx, hb, hml, hown, hts⟩ (cr_needWord l D ad cI cZ zz hzz tS hst (wT ad cI cZ u) x1 c_1) (cwS 1 hts (tb_S tw_3_16 tw_3_17 tw_1_1 tw_3_18) rfl rfl rfl (by decide +kernel) ⟨Nat.le_of_ble_eq_true rfl, Nat.le_of_ble_eq_true rfl⟩) rfl hl.1 rfl (lv_room (Nat.le_of_ble_eq_true rfl)) dX3_poke_1 ⟨Nat.le_of_ble_eq_true rfl, Nat.le_of_ble_eq_true rfl⟩ hP hK hD hS hA hZ (fun H locs hP hD hS => ?_)
    refine lv_aload_n hx hb dX3_poke_4 rfl (lv_at hl 0 rfl) ?_
    refine va_get (ci := 3) (v := .ref (ad 3)) (C := RX3) (T := TX3) (N := 3) hx hb hts (ivX3 _) hown hK hP 0 rfl rfl 2 (by decide) (hts _ (tb_c tw_1_145)) (fun _ h9 => h9) rfl dX3_poke_5 ?_
    refine va_get (ci := 1) (v := .ref (ad 14)) (C := RX1) (T := TX1) (N := 9) hx hb hts (ivX1 _) hown hK hP 3 rfl rfl 2 (by decide) (hts _ (tb_c tw_1_112)) (fun _ h9 => h9) rfl dX3_poke_8 ?_
    refine lv_iload_n hx hb dX3_poke_11 rfl (lv_at hl 1 rfl) ?_
    refine lv_iload_n hx hb dX3_poke_12 rfl (lv_at hl 2 rfl) ?_
    obtain ⟨h_2, hok⟩ := hok
    refine va_iast hx hb hK hP hD hS 14 0 rfl rfl h_2 dX3_poke_13 (fun H locs hP hD hS => ?_)
    have hP : va_P D vwCl (wT ad cI cZ (sA u 10 x1 x2)) H := hP
    have hD : va_D A (wT ad cI cZ (sA u 10 x1 x2)) := hD
    have e9 : p_poke u x1 x2 = (0, 0, sA u 10 x1 x2) := by rw [p_poke, if_pos c_1]
    rw [e9] at hc
    exact absurd rfl hc
  · skip
    have e9 : p_poke u x1 x2 = (p_needWord x1, 0, u) := by rw [p_poke, if_neg c_1]
    rw [e9]
    refine kx_callSv (As := [.int x1]) (rest := []) hzz ⟨hx, hb, hml, hown, hts⟩ (cx_needWord l hlt D ad cI cZ zz hzz tS hst hxs (wT ad cI cZ u) x1 c_1) (cwS 1 hts (tb_S tw_3_16 tw_3_17 tw_1_1 tw_3_18) rfl rfl rfl (by decide +kernel) ⟨Nat.le_of_ble_eq_true rfl, Nat.le_of_ble_eq_true rfl⟩) rfl hl.1 rfl (lv_room (Nat.le_of_ble_eq_true rfl)) dX3_poke_1 ⟨Nat.le_of_ble_eq_true rfl, Nat.le_of_ble_eq_true rfl⟩ hP hK hD hS hA hZ (fun _ ce q9 H locs hP hD hS hce hcv hcl => ?_) (fun h => absurd h c_1)
    exact vx_out (fun x h => (hNo x h).elim) hlocks hce hcv hcl (fun t ht hvm => ⟨(), c_1, ⟨rfl, by rw [ht]; exact hP, va_K.moved hvm hK, hD⟩, hS.F ht⟩) hS.2.2 (by decide) (by decide)

def p_memory (u : St) (x1 : Int32) : Nat × Int32 × St := (if p_needWord x1 = 0 then (0, u.2 10 x1.toNatClampNeg, u) else (p_needWord x1, 0, u))
def ok_memory (u : St) (x1 : Int32) : Prop := ((p_needWord x1 = 0 → (vp_in x1 8 ∧ True)) ∧ (¬ p_needWord x1 = 0 → True))
set_option maxHeartbeats 4000000 in
set_option maxRecDepth 100000 in
theorem cr_memory (l : Launch) (D : va_G) (ad : Nat → Nat) (cI cZ : ClassId) (zz : (Nat → Prop) → State → Heap → Prop) (hzz : Zok zz) (tS : Nat) (hst : Zst zz tS) (u : St) (x1 : Int32) (hok : ok_memory u x1) (hc : (p_memory u x1).1 = 0) : tfI l D vwCl (tyT cI cZ) zz yX3_memory wsX3_memory ({ frames := 7, cells := 0, slots := 0, locals := 110 } : Room) [.ref (ad 0), .int x1] (wT ad cI cZ u) (p_memory u x1).2.1 (wT ad cI cZ ((p_memory u x1).2.2)) := by
  intro sz
  unfold ok_memory at hok
  refine Met.ofW (cc := cX3_memory) (maxL := 2) (ret := (some .int)) (by decide) rfl ?_
  intro p e s m args below meth c s₁ B hml hv
  obtain ⟨rfl, hsz, hP, hK, hD0, hZ⟩ := hv
  have hx := B.exec
  have hb := B.bytes
  have hr := B.returns
  have hts := atoms_spec (ws := wsX3_memory) B.pre
  have hown : s.vm.findClass RX3 = some m.cls := findClass_of_methodNamed B.named
  have hlocks := B.notSynchronized
  subst hsz
  have hD := hD0.self (sz := s.heap.size)
  generalize hAe : va_A (wT ad cI cZ u) s.heap.size = A at hD hZ ⊢
  have hA : ∀ q : Nat, s.heap.size ≤ q → A q := fun q h => by rw [← hAe]; exact Or.inr h
  have hS : va_S A s.heap s.heap [] := va_S.rf
  have hl := lv_entry ([.ref (ad 0), .int x1]) (n := 2) (Nat.le_of_ble_eq_true rfl)
  rw [lg_entry_eq]
  generalize (lg_sl ([.ref (ad 0), .int x1]) ++ List.replicate (2 - (lg_sl ([.ref (ad 0), .int x1])).length) Slot.unset).toArray = ls at hl ⊢
  have hl : lv_has ls 2 [(0, .ref (ad 0)), (1, .int x1)] := hl
  refine lv_iload_n hx hb dX3_memory_0 rfl (lv_at hl 1 rfl) ?_
  rcases Classical.em (p_needWord x1 = 0) with c_1 | c_1
  · have hok := hok.1 c_1
    refine k_callSv (As := [.int x1]) (rest := []) hzz ⟨hx, hb, hml, hown, hts⟩ (cr_needWord l D ad cI cZ zz hzz tS hst (wT ad cI cZ u) x1 c_1) (cwS 1 hts (tb_S tw_3_16 tw_3_17 tw_1_1 tw_3_18) rfl rfl rfl (by decide +kernel) ⟨Nat.le_of_ble_eq_true rfl, Nat.le_of_ble_eq_true rfl⟩) rfl hl.1 rfl (lv_room (Nat.le_of_ble_eq_true rfl)) dX3_memory_1 ⟨Nat.le_of_ble_eq_true rfl, Nat.le_of_ble_eq_true rfl⟩ hP hK hD hS hA hZ (fun H locs hP hD hS => ?_)
    refine lv_aload_n hx hb dX3_memory_4 rfl (lv_at hl 0 rfl) ?_
    refine va_get (ci := 3) (v := .ref (ad 3)) (C := RX3) (T := TX3) (N := 3) hx hb hts (ivX3 _) hown hK hP 0 rfl rfl 2 (by decide) (hts _ (tb_c tw_1_145)) (fun _ h9 => h9) rfl dX3_memory_5 ?_
    refine va_get (ci := 1) (v := .ref (ad 14)) (C := RX1) (T := TX1) (N := 9) hx hb hts (ivX1 _) hown hK hP 3 rfl rfl 2 (by decide) (hts _ (tb_c tw_1_112)) (fun _ h9 => h9) rfl dX3_memory_8 ?_
    refine lv_iload_n hx hb dX3_memory_11 rfl (lv_at hl 1 rfl) ?_
    obtain ⟨h_2, hok⟩ := hok
    refine va_iald (f := u.2 10) hx hb hK hP 14 0 rfl rfl h_2 dX3_memory_12 ?_
    have e9 : p_memory u x1 = (0, u.2 10 x1.toNatClampNeg, u) := by rw [p_memory, if_pos c_1]
    try rw [e9]
    exact W.iret hx hb hr (fun t ht hW => ⟨⟨_, (), rfl, rfl, by rw [ht]; exact hP, va_K.moved hW.alike hK, hD⟩, hS.F ht⟩) hS.2.2 dX3_memory_13
  · skip
    have e9 : p_memory u x1 = (p_needWord x1, 0, u) := by rw [p_memory, if_neg c_1]
    rw [e9] at hc
    exact absurd hc c_1
set_option maxHeartbeats 4000000 in
set_option maxRecDepth 100000 in
theorem cx_memory (l : Launch) (hlt : l.stackTraces = false) (D : va_G) (ad : Nat → Nat) (cI cZ : ClassId) (zz : (Nat → Prop) → State → Heap → Prop) (hzz : Zok zz) (tS : Nat) (hst : Zst zz tS) (hxs : Zxs zz) (u : St) (x1 : Int32) (hok : ok_memory u x1) (hc : ¬ (p_memory u x1).1 = 0) : txI l D vwCl (tyT cI cZ) zz yX3_memory wsX3_memory ({ frames := 7, cells := 1, slots := 6, locals := 110 } : Room) [.ref (ad 0), .int x1] (wT ad cI cZ u) (p_memory u x1).1 (p_memory u x1).2.1 (wT ad cI cZ ((p_memory u x1).2.2)) 1 6 := by
  intro sz
  unfold ok_memory at hok
  refine vx_ofW (cc := cX3_memory) (maxL := 2) (ret := (some .int)) (by decide) rfl ?_
  intro p e s m args below meth c s₁ B hml hNo hv
  obtain ⟨rfl, hsz, hP, hK, hD0, hZ⟩ := hv
  have hx := B.exec
  have hb := B.bytes
  have hr := B.returns
  have hts := atoms_spec (ws := wsX3_memory) B.pre
  have hown : s.vm.findClass RX3 = some m.cls := findClass_of_methodNamed B.named
  have hlocks := B.notSynchronized
  subst hsz
  have hD := hD0.self (sz := s.heap.size)
  generalize hAe : va_A (wT ad cI cZ u) s.heap.size = A at hD hZ ⊢
  have hA : ∀ q : Nat, s.heap.size ≤ q → A q := fun q h => by rw [← hAe]; exact Or.inr h
  have hS : va_S A s.heap s.heap [] := va_S.rf
  have hl := lv_entry ([.ref (ad 0), .int x1]) (n := 2) (Nat.le_of_ble_eq_true rfl)
  rw [lg_entry_eq]
  generalize (lg_sl ([.ref (ad 0), .int x1]) ++ List.replicate (2 - (lg_sl ([.ref (ad 0), .int x1])).length) Slot.unset).toArray = ls at hl ⊢
  have hl : lv_has ls 2 [(0, .ref (ad 0)), (1, .int x1)] := hl
  refine lv_iload_n hx hb dX3_memory_0 rfl (lv_at hl 1 rfl) ?_
  rcases Classical.em (p_needWord x1 = 0) with c_1 | c_1
  · have hok := hok.1 c_1
    refine k_callSv (As := [.int x1]) (rest := []) hzz ⟨hx, hb, hml, hown, hts⟩ (cr_needWord l D ad cI cZ zz hzz tS hst (wT ad cI cZ u) x1 c_1) (cwS 1 hts (tb_S tw_3_16 tw_3_17 tw_1_1 tw_3_18) rfl rfl rfl (by decide +kernel) ⟨Nat.le_of_ble_eq_true rfl, Nat.le_of_ble_eq_true rfl⟩) rfl hl.1 rfl (lv_room (Nat.le_of_ble_eq_true rfl)) dX3_memory_1 ⟨Nat.le_of_ble_eq_true rfl, Nat.le_of_ble_eq_true rfl⟩ hP hK hD hS hA hZ (fun H locs hP hD hS => ?_)
    refine lv_aload_n hx hb dX3_memory_4 rfl (lv_at hl 0 rfl) ?_
    refine va_get (ci := 3) (v := .ref (ad 3)) (C := RX3) (T := TX3) (N := 3) hx hb hts (ivX3 _) hown hK hP 0 rfl rfl 2 (by decide) (hts _ (tb_c tw_1_145)) (fun _ h9 => h9) rfl dX3_memory_5 ?_
    refine va_get (ci := 1) (v := .ref (ad 14)) (C := RX1) (T := TX1) (N := 9) hx hb hts (ivX1 _) hown hK hP 3 rfl rfl 2 (by decide) (hts _ (tb_c tw_1_112)) (fun _ h9 => h9) rfl dX3_memory_8 ?_
    refine lv_iload_n hx hb dX3_memory_11 rfl (lv_at hl 1 rfl) ?_
    obtain ⟨h_2, hok⟩ := hok
    refine va_iald (f := u.2 10) hx hb hK hP 14 0 rfl rfl h_2 dX3_memory_12 ?_
    have e9 : p_memory u x1 = (0, u.2 10 x1.toNatClampNeg, u) := by rw [p_memory, if_pos c_1]
    rw [e9] at hc
    exact absurd rfl hc
  · skip
    have e9 : p_memory u x1 = (p_needWord x1, 0, u) := by rw [p_memory, if_neg c_1]
    rw [e9]
    refine kx_callSv (As := [.int x1]) (rest := []) hzz ⟨hx, hb, hml, hown, hts⟩ (cx_needWord l hlt D ad cI cZ zz hzz tS hst hxs (wT ad cI cZ u) x1 c_1) (cwS 1 hts (tb_S tw_3_16 tw_3_17 tw_1_1 tw_3_18) rfl rfl rfl (by decide +kernel) ⟨Nat.le_of_ble_eq_true rfl, Nat.le_of_ble_eq_true rfl⟩) rfl hl.1 rfl (lv_room (Nat.le_of_ble_eq_true rfl)) dX3_memory_1 ⟨Nat.le_of_ble_eq_true rfl, Nat.le_of_ble_eq_true rfl⟩ hP hK hD hS hA hZ (fun _ ce q9 H locs hP hD hS hce hcv hcl => ?_) (fun h => absurd h c_1)
    exact vx_out (fun x h => (hNo x h).elim) hlocks hce hcv hcl (fun t ht hvm => ⟨(), c_1, ⟨rfl, by rw [ht]; exact hP, va_K.moved hvm hK, hD⟩, hS.F ht⟩) hS.2.2 (by decide) (by decide)

def p_start (u : St) : Nat × Int32 × St := (if (u.1 4) = 0 then (2, 0, u) else (0, 0, (p_turnOn u)))
def ok_start (u : St) : Prop := (((u.1 4) = 0 → True) ∧ (¬ (u.1 4) = 0 → (ok_turnOn u ∧ True)))
set_option maxHeartbeats 4000000 in
set_option maxRecDepth 100000 in
theorem cr_start (l : Launch) (D : va_G) (ad : Nat → Nat) (cI cZ : ClassId) (zz : (Nat → Prop) → State → Heap → Prop) (hzz : Zok zz) (tS : Nat) (hst : Zst zz tS) (u : St) (hok : ok_start u) (hc : (p_start u).1 = 0) : tfV l D vwCl (tyT cI cZ) zz yX3_start wsX3_start ({ frames := 6, cells := 0, slots := 0, locals := 90 } : Room) [.ref (ad 0)] (wT ad cI cZ u) (wT ad cI cZ ((p_start u).2.2)) := by
  intro sz
  unfold ok_start at hok
  refine Met.ofW (cc := cX3_start) (maxL := 1) (ret := none) (by decide) rfl ?_
  intro p e s m args below meth c s₁ B hml hv
  obtain ⟨rfl, hsz, hP, hK, hD0, hZ⟩ := hv
  have hx := B.exec
  have hb := B.bytes
  have hr := B.returns
  have hts := atoms_spec (ws := wsX3_start) B.pre
  have hown : s.vm.findClass RX3 = some m.cls := findClass_of_methodNamed B.named
  have hlocks := B.notSynchronized
  subst hsz
  have hD := hD0.self (sz := s.heap.size)
  generalize hAe : va_A (wT ad cI cZ u) s.heap.size = A at hD hZ ⊢
  have hA : ∀ q : Nat, s.heap.size ≤ q → A q := fun q h => by rw [← hAe]; exact Or.inr h
  have hS : va_S A s.heap s.heap [] := va_S.rf
  have hl := lv_entry ([.ref (ad 0)]) (n := 1) (Nat.le_of_ble_eq_true rfl)
  rw [lg_entry_eq]
  generalize (lg_sl ([.ref (ad 0)]) ++ List.replicate (1 - (lg_sl ([.ref (ad 0)])).length) Slot.unset).toArray = ls at hl ⊢
  have hl : lv_has ls 1 [(0, .ref (ad 0))] := hl
  refine lv_aload_n hx hb dX3_start_0 rfl (lv_at hl 0 rfl) ?_
  refine va_get (ci := 3) (v := .ref (ad 2)) (C := RX3) (T := TX3) (N := 3) hx hb hts (ivX3 _) hown hK hP 0 rfl rfl 1 (by decide) (hts _ (tb_c tw_1_144)) (fun _ h9 => h9) rfl dX3_start_1 ?_
  refine va_get (ci := 0) (v := .int (u.1 4)) (C := RX0) (T := TX0) (N := 9) hx hb hts (ivX0 _) hown hK hP 2 rfl rfl 8 (by decide) (hts _ (tb_c tw_1_82)) (fun _ h9 => h9) rfl dX3_start_4 ?_
  refine lv_if_ne (tgt := 20) hx hb dX3_start_7 (by decide) (fun c_1 => ?_) (fun c_1 => ?_)
  · have hok := hok.2 c_1
    refine lv_aload_n hx hb dX3_start_20 rfl (lv_at hl 0 rfl) ?_
    refine va_get (ci := 3) (v := .ref (ad 3)) (C := RX3) (T := TX3) (N := 3) hx hb hts (ivX3 _) hown hK hP 0 rfl rfl 2 (by decide) (hts _ (tb_c tw_1_145)) (fun _ h9 => h9) rfl dX3_start_21 ?_
    obtain ⟨h_2, hok⟩ := hok
    refine k_callVv (As := []) (rest := []) hzz ⟨hx, hb, hml, hown, hts⟩ (c_turnOn l D ad cI cZ zz hzz tS hst u h_2) (cwV 0 hts (tb_V tw_3_35 tw_3_36 tw_3_37 tw_1_4 tw_3_38) rfl rfl rfl (by decide +kernel) ⟨Nat.le_of_ble_eq_true rfl, Nat.le_of_ble_eq_true rfl⟩) (va_recv hK hP (ci := 1) (q0 := 3) rfl rfl) rfl hl.1 rfl (lv_room (Nat.le_of_ble_eq_true rfl)) dX3_start_24 ⟨Nat.le_of_ble_eq_true rfl, Nat.le_of_ble_eq_true rfl⟩ hP hK hD hS hA hZ (fun H locs hP hD hS => ?_)
    generalize eu_3 : p_turnOn u = u_3 at hP hD ⊢
    try rw [eu_3] at hok
    have e9 : p_start u = (0, 0, u_3) := by
      subst eu_3
      rw [p_start, if_neg c_1]
    try rw [e9]
    exact W.vret hx hb hr (fun t ht hW => ⟨⟨(), rfl, trivial, by rw [ht]; exact hP, va_K.moved hW.alike hK, hD⟩, hS.F ht⟩) hS.2.2 dX3_start_27
  · have hok := hok.1 c_1
    have e9 : p_start u = (2, 0, u) := by rw [p_start, if_pos c_1]
    rw [e9] at hc
    exact absurd hc (show ¬ (2 : Nat) = 0 by decide)
set_option maxHeartbeats 4000000 in
set_option maxRecDepth 100000 in
theorem cx_start (l : Launch) (hlt : l.stackTraces = false) (D : va_G) (ad : Nat → Nat) (cI cZ : ClassId) (zz : (Nat → Prop) → State → Heap → Prop) (hzz : Zok zz) (tS : Nat) (hst : Zst zz tS) (hxs : Zxs zz) (u : St) (hok : ok_start u) (hc : ¬ (p_start u).1 = 0) : txV l D vwCl (tyT cI cZ) zz yX3_start wsX3_start ({ frames := 6, cells := 1, slots := 6, locals := 90 } : Room) [.ref (ad 0)] (wT ad cI cZ u) (p_start u).1 (wT ad cI cZ ((p_start u).2.2)) 1 6 := by
  intro sz
  unfold ok_start at hok
  refine vx_ofW (cc := cX3_start) (maxL := 1) (ret := none) (by decide) rfl ?_
  intro p e s m args below meth c s₁ B hml hNo hv
  obtain ⟨rfl, hsz, hP, hK, hD0, hZ⟩ := hv
  have hx := B.exec
  have hb := B.bytes
  have hr := B.returns
  have hts := atoms_spec (ws := wsX3_start) B.pre
  have hown : s.vm.findClass RX3 = some m.cls := findClass_of_methodNamed B.named
  have hlocks := B.notSynchronized
  subst hsz
  have hD := hD0.self (sz := s.heap.size)
  generalize hAe : va_A (wT ad cI cZ u) s.heap.size = A at hD hZ ⊢
  have hA : ∀ q : Nat, s.heap.size ≤ q → A q := fun q h => by rw [← hAe]; exact Or.inr h
  have hS : va_S A s.heap s.heap [] := va_S.rf
  have hl := lv_entry ([.ref (ad 0)]) (n := 1) (Nat.le_of_ble_eq_true rfl)
  rw [lg_entry_eq]
  generalize (lg_sl ([.ref (ad 0)]) ++ List.replicate (1 - (lg_sl ([.ref (ad 0)])).length) Slot.unset).toArray = ls at hl ⊢
  have hl : lv_has ls 1 [(0, .ref (ad 0))] := hl
  refine lv_aload_n hx hb dX3_start_0 rfl (lv_at hl 0 rfl) ?_
  refine va_get (ci := 3) (v := .ref (ad 2)) (C := RX3) (T := TX3) (N := 3) hx hb hts (ivX3 _) hown hK hP 0 rfl rfl 1 (by decide) (hts _ (tb_c tw_1_144)) (fun _ h9 => h9) rfl dX3_start_1 ?_
  refine va_get (ci := 0) (v := .int (u.1 4)) (C := RX0) (T := TX0) (N := 9) hx hb hts (ivX0 _) hown hK hP 2 rfl rfl 8 (by decide) (hts _ (tb_c tw_1_82)) (fun _ h9 => h9) rfl dX3_start_4 ?_
  refine lv_if_ne (tgt := 20) hx hb dX3_start_7 (by decide) (fun c_1 => ?_) (fun c_1 => ?_)
  · have hok := hok.2 c_1
    refine lv_aload_n hx hb dX3_start_20 rfl (lv_at hl 0 rfl) ?_
    refine va_get (ci := 3) (v := .ref (ad 3)) (C := RX3) (T := TX3) (N := 3) hx hb hts (ivX3 _) hown hK hP 0 rfl rfl 2 (by decide) (hts _ (tb_c tw_1_145)) (fun _ h9 => h9) rfl dX3_start_21 ?_
    obtain ⟨h_2, hok⟩ := hok
    refine k_callVv (As := []) (rest := []) hzz ⟨hx, hb, hml, hown, hts⟩ (c_turnOn l D ad cI cZ zz hzz tS hst u h_2) (cwV 0 hts (tb_V tw_3_35 tw_3_36 tw_3_37 tw_1_4 tw_3_38) rfl rfl rfl (by decide +kernel) ⟨Nat.le_of_ble_eq_true rfl, Nat.le_of_ble_eq_true rfl⟩) (va_recv hK hP (ci := 1) (q0 := 3) rfl rfl) rfl hl.1 rfl (lv_room (Nat.le_of_ble_eq_true rfl)) dX3_start_24 ⟨Nat.le_of_ble_eq_true rfl, Nat.le_of_ble_eq_true rfl⟩ hP hK hD hS hA hZ (fun H locs hP hD hS => ?_)
    generalize eu_3 : p_turnOn u = u_3 at hP hD ⊢
    try rw [eu_3] at hok
    have e9 : p_start u = (0, 0, u_3) := by
      subst eu_3
      rw [p_start, if_neg c_1]
    rw [e9] at hc
    exact absurd rfl hc
  · have hok := hok.1 c_1
    have e9 : p_start u = (2, 0, u) := by rw [p_start, if_pos c_1]
    rw [e9]
    have hX := hxs _ _ _ hZ
    obtain ⟨sa, hsa⟩ := hX.2.2.1 (112, "there is no image") (by decide)
    exact vx_throwS (own := RX3) (cls := "java/lang/IllegalStateException") (names := xEN) hx hb hlt hown xfit2 xfit (hts _ (tb_c tw_2_25)) (hts _ (tb_c tw_1_10)) hsa (xhat2 hts hX.2.2.2) xgood2 hX.1 hX.2.1 hS (hl.1.trans hml.symm) dX3_start_10 dX3_start_13 dX3_start_14 dX3_start_16 dX3_start_19 (fun x h => (hNo x h).elim) (Nat.le_of_ble_eq_true rfl) (Nat.le_of_ble_eq_true rfl) (Nat.le_of_ble_eq_true rfl) (Nat.le_of_ble_eq_true rfl) hlocks (fun t ha hsz hk => ⟨(), (show ¬ (2 : Nat) = 0 by decide), ⟨rfl, hP.kept (fun k q hq => hk q.1 (hP k q hq).lt), va_K.moved ha hK, hD⟩, Nat.le_trans hS.1 hsz, fun q h1 h2 => (hk q (Nat.lt_of_lt_of_le h1 hS.1)).trans (hS.2.1 q h1 h2)⟩) hS.2.2 (by decide) (by decide)

def p_run (u : St) (x1 : Int32) : Nat × Int32 × St := (if x1 < 0 then (1, 0, u) else (if x1 ≤ 2000 then (if (u.1 6) = 1 then (0, (p_goOn u x1).1, ((p_goOn u x1).2)) else (2, 0, u)) else (1, 0, u)))
def ok_run (u : St) (x1 : Int32) : Prop := ((x1 < 0 → True) ∧ (¬ x1 < 0 → ((x1 ≤ 2000 → (((u.1 6) = 1 → (ok_goOn u x1 ∧ True)) ∧ (¬ (u.1 6) = 1 → True))) ∧ (¬ x1 ≤ 2000 → True))))
set_option maxHeartbeats 4000000 in
set_option maxRecDepth 100000 in
theorem cr_run (l : Launch) (D : va_G) (ad : Nat → Nat) (cI cZ : ClassId) (zz : (Nat → Prop) → State → Heap → Prop) (hzz : Zok zz) (tS : Nat) (hst : Zst zz tS) (u : St) (x1 : Int32) (hok : ok_run u x1) (hc : (p_run u x1).1 = 0) : tfI l D vwCl (tyT cI cZ) zz yX3_run wsX3_run ({ frames := 6, cells := 0, slots := 0, locals := 90 } : Room) [.ref (ad 0), .int x1] (wT ad cI cZ u) (p_run u x1).2.1 (wT ad cI cZ ((p_run u x1).2.2)) := by
  intro sz
  unfold ok_run at hok
  refine Met.ofW (cc := cX3_run) (maxL := 2) (ret := (some .int)) (by decide) rfl ?_
  intro p e s m args below meth c s₁ B hml hv
  obtain ⟨rfl, hsz, hP, hK, hD0, hZ⟩ := hv
  have hx := B.exec
  have hb := B.bytes
  have hr := B.returns
  have hts := atoms_spec (ws := wsX3_run) B.pre
  have hown : s.vm.findClass RX3 = some m.cls := findClass_of_methodNamed B.named
  have hlocks := B.notSynchronized
  subst hsz
  have hD := hD0.self (sz := s.heap.size)
  generalize hAe : va_A (wT ad cI cZ u) s.heap.size = A at hD hZ ⊢
  have hA : ∀ q : Nat, s.heap.size ≤ q → A q := fun q h => by rw [← hAe]; exact Or.inr h
  have hS : va_S A s.heap s.heap [] := va_S.rf
  have hl := lv_entry ([.ref (ad 0), .int x1]) (n := 2) (Nat.le_of_ble_eq_true rfl)
  rw [lg_entry_eq]
  generalize (lg_sl ([.ref (ad 0), .int x1]) ++ List.replicate (2 - (lg_sl ([.ref (ad 0), .int x1])).length) Slot.unset).toArray = ls at hl ⊢
  have hl : lv_has ls 2 [(0, .ref (ad 0)), (1, .int x1)] := hl
  refine lv_iload_n hx hb dX3_run_0 rfl (lv_at hl 1 rfl) ?_
  refine lv_if_lt (tgt := 11) hx hb dX3_run_1 (by decide) (fun c_1 => ?_) (fun c_1 => ?_)
  · have hok := hok.1 c_1
    have e9 : p_run u x1 = (1, 0, u) := by rw [p_run, if_pos c_1]
    rw [e9] at hc
    exact absurd hc (show ¬ (1 : Nat) = 0 by decide)
  · have hok := hok.2 c_1
    refine lv_iload_n hx hb dX3_run_4 rfl (lv_at hl 1 rfl) ?_
    refine lv_sipush (v := 2000) hx hb dX3_run_5 (by decide) ?_
    refine lv_icmp_le (tgt := 21) hx hb dX3_run_8 (by decide) (fun c_2 => ?_) (fun c_2 => ?_)
    · have hok := hok.1 c_2
      refine lv_aload_n hx hb dX3_run_21 rfl (lv_at hl 0 rfl) ?_
      refine va_get (ci := 3) (v := .ref (ad 3)) (C := RX3) (T := TX3) (N := 3) hx hb hts (ivX3 _) hown hK hP 0 rfl rfl 2 (by decide) (hts _ (tb_c tw_1_145)) (fun _ h9 => h9) rfl dX3_run_22 ?_
      refine va_get (ci := 1) (v := .int (u.1 6)) (C := RX1) (T := TX1) (N := 9) hx hb hts (ivX1 _) hown hK hP 3 rfl rfl 6 (by decide) (hts _ (tb_c tw_1_119)) (fun _ h9 => h9) rfl dX3_run_25 ?_
      refine lv_iconst (v := 1) hx hb dX3_run_28 (by decide) ?_
      refine lv_icmp_eq (tgt := 42) hx hb dX3_run_29 (by decide) (fun c_3 => ?_) (fun c_3 => ?_)
      · have hok := hok.1 c_3
        refine lv_aload_n hx hb dX3_run_42 rfl (lv_at hl 0 rfl) ?_
        refine va_get (ci := 3) (v := .ref (ad 3)) (C := RX3) (T := TX3) (N := 3) hx hb hts (ivX3 _) hown hK hP 0 rfl rfl 2 (by decide) (hts _ (tb_c tw_1_145)) (fun _ h9 => h9) rfl dX3_run_43 ?_
        refine lv_iload_n hx hb dX3_run_46 rfl (lv_at hl 1 rfl) ?_
        obtain ⟨h_4, hok⟩ := hok
        refine k_callVi (As := [.int x1]) (rest := []) hzz ⟨hx, hb, hml, hown, hts⟩ (c_goOn l D ad cI cZ zz hzz tS hst u x1 h_4) (cwV 1 hts (tb_V tw_3_48 tw_3_49 tw_3_50 tw_1_4 tw_3_51) rfl rfl rfl (by decide +kernel) ⟨Nat.le_of_ble_eq_true rfl, Nat.le_of_ble_eq_true rfl⟩) (va_recv hK hP (ci := 1) (q0 := 3) rfl rfl) rfl hl.1 rfl (lv_room (Nat.le_of_ble_eq_true rfl)) dX3_run_47 ⟨Nat.le_of_ble_eq_true rfl, Nat.le_of_ble_eq_true rfl⟩ hP hK hD hS hA hZ (fun H locs hP hD hS => ?_)
        generalize eu_5 : (p_goOn u x1).2 = u_5 at hP hD ⊢
        try rw [eu_5] at hok
        have e9 : p_run u x1 = (0, (p_goOn u x1).1, u_5) := by
          subst eu_5
          rw [p_run, if_neg c_1, if_pos c_2, if_pos c_3]
        try rw [e9]
        exact W.iret hx hb hr (fun t ht hW => ⟨⟨_, (), rfl, rfl, by rw [ht]; exact hP, va_K.moved hW.alike hK, hD⟩, hS.F ht⟩) hS.2.2 dX3_run_50
      · have hok := hok.2 c_3
        have e9 : p_run u x1 = (2, 0, u) := by rw [p_run, if_neg c_1, if_pos c_2, if_neg c_3]
        rw [e9] at hc
        exact absurd hc (show ¬ (2 : Nat) = 0 by decide)
    · have hok := hok.2 c_2
      have e9 : p_run u x1 = (1, 0, u) := by rw [p_run, if_neg c_1, if_neg c_2]
      rw [e9] at hc
      exact absurd hc (show ¬ (1 : Nat) = 0 by decide)
set_option maxHeartbeats 4000000 in
set_option maxRecDepth 100000 in
theorem cx_run (l : Launch) (hlt : l.stackTraces = false) (D : va_G) (ad : Nat → Nat) (cI cZ : ClassId) (zz : (Nat → Prop) → State → Heap → Prop) (hzz : Zok zz) (tS : Nat) (hst : Zst zz tS) (hxs : Zxs zz) (u : St) (x1 : Int32) (hok : ok_run u x1) (hc : ¬ (p_run u x1).1 = 0) : txI l D vwCl (tyT cI cZ) zz yX3_run wsX3_run ({ frames := 6, cells := 1, slots := 6, locals := 90 } : Room) [.ref (ad 0), .int x1] (wT ad cI cZ u) (p_run u x1).1 (p_run u x1).2.1 (wT ad cI cZ ((p_run u x1).2.2)) 1 6 := by
  intro sz
  unfold ok_run at hok
  refine vx_ofW (cc := cX3_run) (maxL := 2) (ret := (some .int)) (by decide) rfl ?_
  intro p e s m args below meth c s₁ B hml hNo hv
  obtain ⟨rfl, hsz, hP, hK, hD0, hZ⟩ := hv
  have hx := B.exec
  have hb := B.bytes
  have hr := B.returns
  have hts := atoms_spec (ws := wsX3_run) B.pre
  have hown : s.vm.findClass RX3 = some m.cls := findClass_of_methodNamed B.named
  have hlocks := B.notSynchronized
  subst hsz
  have hD := hD0.self (sz := s.heap.size)
  generalize hAe : va_A (wT ad cI cZ u) s.heap.size = A at hD hZ ⊢
  have hA : ∀ q : Nat, s.heap.size ≤ q → A q := fun q h => by rw [← hAe]; exact Or.inr h
  have hS : va_S A s.heap s.heap [] := va_S.rf
  have hl := lv_entry ([.ref (ad 0), .int x1]) (n := 2) (Nat.le_of_ble_eq_true rfl)
  rw [lg_entry_eq]
  generalize (lg_sl ([.ref (ad 0), .int x1]) ++ List.replicate (2 - (lg_sl ([.ref (ad 0), .int x1])).length) Slot.unset).toArray = ls at hl ⊢
  have hl : lv_has ls 2 [(0, .ref (ad 0)), (1, .int x1)] := hl
  refine lv_iload_n hx hb dX3_run_0 rfl (lv_at hl 1 rfl) ?_
  refine lv_if_lt (tgt := 11) hx hb dX3_run_1 (by decide) (fun c_1 => ?_) (fun c_1 => ?_)
  · have hok := hok.1 c_1
    have e9 : p_run u x1 = (1, 0, u) := by rw [p_run, if_pos c_1]
    rw [e9]
    have hX := hxs _ _ _ hZ
    obtain ⟨sa, hsa⟩ := hX.2.2.1 (117, "no such number of halfwords") (by decide)
    exact vx_throwS (own := RX3) (cls := "java/lang/IllegalArgumentException") (names := xEN) hx hb hlt hown xfit1 xfit (hts _ (tb_c tw_1_193)) (hts _ (tb_c tw_1_9)) hsa (xhat1 hts hX.2.2.2) xgood1 hX.1 hX.2.1 hS (hl.1.trans hml.symm) dX3_run_11 dX3_run_14 dX3_run_15 dX3_run_17 dX3_run_20 (fun x h => (hNo x h).elim) (Nat.le_of_ble_eq_true rfl) (Nat.le_of_ble_eq_true rfl) (Nat.le_of_ble_eq_true rfl) (Nat.le_of_ble_eq_true rfl) hlocks (fun t ha hsz hk => ⟨(), (show ¬ (1 : Nat) = 0 by decide), ⟨rfl, hP.kept (fun k q hq => hk q.1 (hP k q hq).lt), va_K.moved ha hK, hD⟩, Nat.le_trans hS.1 hsz, fun q h1 h2 => (hk q (Nat.lt_of_lt_of_le h1 hS.1)).trans (hS.2.1 q h1 h2)⟩) hS.2.2 (by decide) (by decide)
  · have hok := hok.2 c_1
    refine lv_iload_n hx hb dX3_run_4 rfl (lv_at hl 1 rfl) ?_
    refine lv_sipush (v := 2000) hx hb dX3_run_5 (by decide) ?_
    refine lv_icmp_le (tgt := 21) hx hb dX3_run_8 (by decide) (fun c_2 => ?_) (fun c_2 => ?_)
    · have hok := hok.1 c_2
      refine lv_aload_n hx hb dX3_run_21 rfl (lv_at hl 0 rfl) ?_
      refine va_get (ci := 3) (v := .ref (ad 3)) (C := RX3) (T := TX3) (N := 3) hx hb hts (ivX3 _) hown hK hP 0 rfl rfl 2 (by decide) (hts _ (tb_c tw_1_145)) (fun _ h9 => h9) rfl dX3_run_22 ?_
      refine va_get (ci := 1) (v := .int (u.1 6)) (C := RX1) (T := TX1) (N := 9) hx hb hts (ivX1 _) hown hK hP 3 rfl rfl 6 (by decide) (hts _ (tb_c tw_1_119)) (fun _ h9 => h9) rfl dX3_run_25 ?_
      refine lv_iconst (v := 1) hx hb dX3_run_28 (by decide) ?_
      refine lv_icmp_eq (tgt := 42) hx hb dX3_run_29 (by decide) (fun c_3 => ?_) (fun c_3 => ?_)
      · have hok := hok.1 c_3
        refine lv_aload_n hx hb dX3_run_42 rfl (lv_at hl 0 rfl) ?_
        refine va_get (ci := 3) (v := .ref (ad 3)) (C := RX3) (T := TX3) (N := 3) hx hb hts (ivX3 _) hown hK hP 0 rfl rfl 2 (by decide) (hts _ (tb_c tw_1_145)) (fun _ h9 => h9) rfl dX3_run_43 ?_
        refine lv_iload_n hx hb dX3_run_46 rfl (lv_at hl 1 rfl) ?_
        obtain ⟨h_4, hok⟩ := hok
        refine k_callVi (As := [.int x1]) (rest := []) hzz ⟨hx, hb, hml, hown, hts⟩ (c_goOn l D ad cI cZ zz hzz tS hst u x1 h_4) (cwV 1 hts (tb_V tw_3_48 tw_3_49 tw_3_50 tw_1_4 tw_3_51) rfl rfl rfl (by decide +kernel) ⟨Nat.le_of_ble_eq_true rfl, Nat.le_of_ble_eq_true rfl⟩) (va_recv hK hP (ci := 1) (q0 := 3) rfl rfl) rfl hl.1 rfl (lv_room (Nat.le_of_ble_eq_true rfl)) dX3_run_47 ⟨Nat.le_of_ble_eq_true rfl, Nat.le_of_ble_eq_true rfl⟩ hP hK hD hS hA hZ (fun H locs hP hD hS => ?_)
        generalize eu_5 : (p_goOn u x1).2 = u_5 at hP hD ⊢
        try rw [eu_5] at hok
        have e9 : p_run u x1 = (0, (p_goOn u x1).1, u_5) := by
          subst eu_5
          rw [p_run, if_neg c_1, if_pos c_2, if_pos c_3]
        rw [e9] at hc
        exact absurd rfl hc
      · have hok := hok.2 c_3
        have e9 : p_run u x1 = (2, 0, u) := by rw [p_run, if_neg c_1, if_pos c_2, if_neg c_3]
        rw [e9]
        have hX := hxs _ _ _ hZ
        obtain ⟨sa, hsa⟩ := hX.2.2.1 (122, "the machine does not run") (by decide)
        exact vx_throwS (own := RX3) (cls := "java/lang/IllegalStateException") (names := xEN) hx hb hlt hown xfit2 xfit (hts _ (tb_c tw_2_25)) (hts _ (tb_c tw_1_10)) hsa (xhat2 hts hX.2.2.2) xgood2 hX.1 hX.2.1 hS (hl.1.trans hml.symm) dX3_run_32 dX3_run_35 dX3_run_36 dX3_run_38 dX3_run_41 (fun x h => (hNo x h).elim) (Nat.le_of_ble_eq_true rfl) (Nat.le_of_ble_eq_true rfl) (Nat.le_of_ble_eq_true rfl) (Nat.le_of_ble_eq_true rfl) hlocks (fun t ha hsz hk => ⟨(), (show ¬ (2 : Nat) = 0 by decide), ⟨rfl, hP.kept (fun k q hq => hk q.1 (hP k q hq).lt), va_K.moved ha hK, hD⟩, Nat.le_trans hS.1 hsz, fun q h1 h2 => (hk q (Nat.lt_of_lt_of_le h1 hS.1)).trans (hS.2.1 q h1 h2)⟩) hS.2.2 (by decide) (by decide)
    · have hok := hok.2 c_2
      have e9 : p_run u x1 = (1, 0, u) := by rw [p_run, if_neg c_1, if_neg c_2]
      rw [e9]
      have hX := hxs _ _ _ hZ
      obtain ⟨sa, hsa⟩ := hX.2.2.1 (117, "no such number of halfwords") (by decide)
      exact vx_throwS (own := RX3) (cls := "java/lang/IllegalArgumentException") (names := xEN) hx hb hlt hown xfit1 xfit (hts _ (tb_c tw_1_193)) (hts _ (tb_c tw_1_9)) hsa (xhat1 hts hX.2.2.2) xgood1 hX.1 hX.2.1 hS (hl.1.trans hml.symm) dX3_run_11 dX3_run_14 dX3_run_15 dX3_run_17 dX3_run_20 (fun x h => (hNo x h).elim) (Nat.le_of_ble_eq_true rfl) (Nat.le_of_ble_eq_true rfl) (Nat.le_of_ble_eq_true rfl) (Nat.le_of_ble_eq_true rfl) hlocks (fun t ha hsz hk => ⟨(), (show ¬ (1 : Nat) = 0 by decide), ⟨rfl, hP.kept (fun k q hq => hk q.1 (hP k q hq).lt), va_K.moved ha hK, hD⟩, Nat.le_trans hS.1 hsz, fun q h1 h2 => (hk q (Nat.lt_of_lt_of_le h1 hS.1)).trans (hS.2.1 q h1 h2)⟩) hS.2.2 (by decide) (by decide)

def p_variable (u : St) (x1 : Int32) : Nat × Int32 × St := (if p_needVariable x1 = 0 then (if (u.1 6) = 0 then (2, 0, u) else (0, u.2 11 x1.toNatClampNeg, u)) else (p_needVariable x1, 0, u))
def ok_variable (u : St) (x1 : Int32) : Prop := ((p_needVariable x1 = 0 → (((u.1 6) = 0 → True) ∧ (¬ (u.1 6) = 0 → (vp_in x1 8 ∧ True)))) ∧ (¬ p_needVariable x1 = 0 → True))
set_option maxHeartbeats 4000000 in
set_option maxRecDepth 100000 in
theorem cr_variable (l : Launch) (D : va_G) (ad : Nat → Nat) (cI cZ : ClassId) (zz : (Nat → Prop) → State → Heap → Prop) (hzz : Zok zz) (tS : Nat) (hst : Zst zz tS) (u : St) (x1 : Int32) (hok : ok_variable u x1) (hc : (p_variable u x1).1 = 0) : tfI l D vwCl (tyT cI cZ) zz yX3_variable wsX3_variable ({ frames := 7, cells := 0, slots := 0, locals := 110 } : Room) [.ref (ad 0), .int x1] (wT ad cI cZ u) (p_variable u x1).2.1 (wT ad cI cZ ((p_variable u x1).2.2)) := by
  intro sz
  unfold ok_variable at hok
  refine Met.ofW (cc := cX3_variable) (maxL := 2) (ret := (some .int)) (by decide) rfl ?_
  intro p e s m args below meth c s₁ B hml hv
  obtain ⟨rfl, hsz, hP, hK, hD0, hZ⟩ := hv
  have hx := B.exec
  have hb := B.bytes
  have hr := B.returns
  have hts := atoms_spec (ws := wsX3_variable) B.pre
  have hown : s.vm.findClass RX3 = some m.cls := findClass_of_methodNamed B.named
  have hlocks := B.notSynchronized
  subst hsz
  have hD := hD0.self (sz := s.heap.size)
  generalize hAe : va_A (wT ad cI cZ u) s.heap.size = A at hD hZ ⊢
  have hA : ∀ q : Nat, s.heap.size ≤ q → A q := fun q h => by rw [← hAe]; exact Or.inr h
  have hS : va_S A s.heap s.heap [] := va_S.rf
  have hl := lv_entry ([.ref (ad 0), .int x1]) (n := 2) (Nat.le_of_ble_eq_true rfl)
  rw [lg_entry_eq]
  generalize (lg_sl ([.ref (ad 0), .int x1]) ++ List.replicate (2 - (lg_sl ([.ref (ad 0), .int x1])).length) Slot.unset).toArray = ls at hl ⊢
  have hl : lv_has ls 2 [(0, .ref (ad 0)), (1, .int x1)] := hl
  refine lv_iload_n hx hb dX3_variable_0 rfl (lv_at hl 1 rfl) ?_
  rcases Classical.em (p_needVariable x1 = 0) with c_1 | c_1
  · have hok := hok.1 c_1
    refine k_callSv (As := [.int x1]) (rest := []) hzz ⟨hx, hb, hml, hown, hts⟩ (cr_needVariable l D ad cI cZ zz hzz tS hst (wT ad cI cZ u) x1 c_1) (cwS 1 hts (tb_S tw_1_190 tw_1_191 tw_1_1 tw_1_192) rfl rfl rfl (by decide +kernel) ⟨Nat.le_of_ble_eq_true rfl, Nat.le_of_ble_eq_true rfl⟩) rfl hl.1 rfl (lv_room (Nat.le_of_ble_eq_true rfl)) dX3_variable_1 ⟨Nat.le_of_ble_eq_true rfl, Nat.le_of_ble_eq_true rfl⟩ hP hK hD hS hA hZ (fun H locs hP hD hS => ?_)
    refine lv_aload_n hx hb dX3_variable_4 rfl (lv_at hl 0 rfl) ?_
    refine va_get (ci := 3) (v := .ref (ad 3)) (C := RX3) (T := TX3) (N := 3) hx hb hts (ivX3 _) hown hK hP 0 rfl rfl 2 (by decide) (hts _ (tb_c tw_1_145)) (fun _ h9 => h9) rfl dX3_variable_5 ?_
    refine va_get (ci := 1) (v := .int (u.1 6)) (C := RX1) (T := TX1) (N := 9) hx hb hts (ivX1 _) hown hK hP 3 rfl rfl 6 (by decide) (hts _ (tb_c tw_1_119)) (fun _ h9 => h9) rfl dX3_variable_8 ?_
    refine lv_if_ne (tgt := 24) hx hb dX3_variable_11 (by decide) (fun c_2 => ?_) (fun c_2 => ?_)
    · have hok := hok.2 c_2
      refine lv_aload_n hx hb dX3_variable_24 rfl (lv_at hl 0 rfl) ?_
      refine va_get (ci := 3) (v := .ref (ad 3)) (C := RX3) (T := TX3) (N := 3) hx hb hts (ivX3 _) hown hK hP 0 rfl rfl 2 (by decide) (hts _ (tb_c tw_1_145)) (fun _ h9 => h9) rfl dX3_variable_25 ?_
      refine va_get (ci := 1) (v := .ref (ad 15)) (C := RX1) (T := TX1) (N := 9) hx hb hts (ivX1 _) hown hK hP 3 rfl rfl 3 (by decide) (hts _ (tb_c tw_1_114)) (fun _ h9 => h9) rfl dX3_variable_28 ?_
      refine lv_iload_n hx hb dX3_variable_31 rfl (lv_at hl 1 rfl) ?_
      obtain ⟨h_3, hok⟩ := hok
      refine va_iald (f := u.2 11) hx hb hK hP 15 0 rfl rfl h_3 dX3_variable_32 ?_
      have e9 : p_variable u x1 = (0, u.2 11 x1.toNatClampNeg, u) := by rw [p_variable, if_pos c_1, if_neg c_2]
      try rw [e9]
      exact W.iret hx hb hr (fun t ht hW => ⟨⟨_, (), rfl, rfl, by rw [ht]; exact hP, va_K.moved hW.alike hK, hD⟩, hS.F ht⟩) hS.2.2 dX3_variable_33
    · have hok := hok.1 c_2
      have e9 : p_variable u x1 = (2, 0, u) := by rw [p_variable, if_pos c_1, if_pos c_2]
      rw [e9] at hc
      exact absurd hc (show ¬ (2 : Nat) = 0 by decide)
  · skip
    have e9 : p_variable u x1 = (p_needVariable x1, 0, u) := by rw [p_variable, if_neg c_1]
    rw [e9] at hc
    exact absurd hc c_1
set_option maxHeartbeats 4000000 in
set_option maxRecDepth 100000 in
theorem cx_variable (l : Launch) (hlt : l.stackTraces = false) (D : va_G) (ad : Nat → Nat) (cI cZ : ClassId) (zz : (Nat → Prop) → State → Heap → Prop) (hzz : Zok zz) (tS : Nat) (hst : Zst zz tS) (hxs : Zxs zz) (u : St) (x1 : Int32) (hok : ok_variable u x1) (hc : ¬ (p_variable u x1).1 = 0) : txI l D vwCl (tyT cI cZ) zz yX3_variable wsX3_variable ({ frames := 7, cells := 1, slots := 6, locals := 110 } : Room) [.ref (ad 0), .int x1] (wT ad cI cZ u) (p_variable u x1).1 (p_variable u x1).2.1 (wT ad cI cZ ((p_variable u x1).2.2)) 1 6 := by
  intro sz
  unfold ok_variable at hok
  refine vx_ofW (cc := cX3_variable) (maxL := 2) (ret := (some .int)) (by decide) rfl ?_
  intro p e s m args below meth c s₁ B hml hNo hv
  obtain ⟨rfl, hsz, hP, hK, hD0, hZ⟩ := hv
  have hx := B.exec
  have hb := B.bytes
  have hr := B.returns
  have hts := atoms_spec (ws := wsX3_variable) B.pre
  have hown : s.vm.findClass RX3 = some m.cls := findClass_of_methodNamed B.named
  have hlocks := B.notSynchronized
  subst hsz
  have hD := hD0.self (sz := s.heap.size)
  generalize hAe : va_A (wT ad cI cZ u) s.heap.size = A at hD hZ ⊢
  have hA : ∀ q : Nat, s.heap.size ≤ q → A q := fun q h => by rw [← hAe]; exact Or.inr h
  have hS : va_S A s.heap s.heap [] := va_S.rf
  have hl := lv_entry ([.ref (ad 0), .int x1]) (n := 2) (Nat.le_of_ble_eq_true rfl)
  rw [lg_entry_eq]
  generalize (lg_sl ([.ref (ad 0), .int x1]) ++ List.replicate (2 - (lg_sl ([.ref (ad 0), .int x1])).length) Slot.unset).toArray = ls at hl ⊢
  have hl : lv_has ls 2 [(0, .ref (ad 0)), (1, .int x1)] := hl
  refine lv_iload_n hx hb dX3_variable_0 rfl (lv_at hl 1 rfl) ?_
  rcases Classical.em (p_needVariable x1 = 0) with c_1 | c_1
  · have hok := hok.1 c_1
    refine k_callSv (As := [.int x1]) (rest := []) hzz ⟨hx, hb, hml, hown, hts⟩ (cr_needVariable l D ad cI cZ zz hzz tS hst (wT ad cI cZ u) x1 c_1) (cwS 1 hts (tb_S tw_1_190 tw_1_191 tw_1_1 tw_1_192) rfl rfl rfl (by decide +kernel) ⟨Nat.le_of_ble_eq_true rfl, Nat.le_of_ble_eq_true rfl⟩) rfl hl.1 rfl (lv_room (Nat.le_of_ble_eq_true rfl)) dX3_variable_1 ⟨Nat.le_of_ble_eq_true rfl, Nat.le_of_ble_eq_true rfl⟩ hP hK hD hS hA hZ (fun H locs hP hD hS => ?_)
    refine lv_aload_n hx hb dX3_variable_4 rfl (lv_at hl 0 rfl) ?_
    refine va_get (ci := 3) (v := .ref (ad 3)) (C := RX3) (T := TX3) (N := 3) hx hb hts (ivX3 _) hown hK hP 0 rfl rfl 2 (by decide) (hts _ (tb_c tw_1_145)) (fun _ h9 => h9) rfl dX3_variable_5 ?_
    refine va_get (ci := 1) (v := .int (u.1 6)) (C := RX1) (T := TX1) (N := 9) hx hb hts (ivX1 _) hown hK hP 3 rfl rfl 6 (by decide) (hts _ (tb_c tw_1_119)) (fun _ h9 => h9) rfl dX3_variable_8 ?_
    refine lv_if_ne (tgt := 24) hx hb dX3_variable_11 (by decide) (fun c_2 => ?_) (fun c_2 => ?_)
    · have hok := hok.2 c_2
      refine lv_aload_n hx hb dX3_variable_24 rfl (lv_at hl 0 rfl) ?_
      refine va_get (ci := 3) (v := .ref (ad 3)) (C := RX3) (T := TX3) (N := 3) hx hb hts (ivX3 _) hown hK hP 0 rfl rfl 2 (by decide) (hts _ (tb_c tw_1_145)) (fun _ h9 => h9) rfl dX3_variable_25 ?_
      refine va_get (ci := 1) (v := .ref (ad 15)) (C := RX1) (T := TX1) (N := 9) hx hb hts (ivX1 _) hown hK hP 3 rfl rfl 3 (by decide) (hts _ (tb_c tw_1_114)) (fun _ h9 => h9) rfl dX3_variable_28 ?_
      refine lv_iload_n hx hb dX3_variable_31 rfl (lv_at hl 1 rfl) ?_
      obtain ⟨h_3, hok⟩ := hok
      refine va_iald (f := u.2 11) hx hb hK hP 15 0 rfl rfl h_3 dX3_variable_32 ?_
      have e9 : p_variable u x1 = (0, u.2 11 x1.toNatClampNeg, u) := by rw [p_variable, if_pos c_1, if_neg c_2]
      rw [e9] at hc
      exact absurd rfl hc
    · have hok := hok.1 c_2
      have e9 : p_variable u x1 = (2, 0, u) := by rw [p_variable, if_pos c_1, if_pos c_2]
      rw [e9]
      have hX := hxs _ _ _ hZ
      obtain ⟨sa, hsa⟩ := hX.2.2.1 (134, "the machine is off") (by decide)
      exact vx_throwS (own := RX3) (cls := "java/lang/IllegalStateException") (names := xEN) hx hb hlt hown xfit2 xfit (hts _ (tb_c tw_2_25)) (hts _ (tb_c tw_1_10)) hsa (xhat2 hts hX.2.2.2) xgood2 hX.1 hX.2.1 hS (hl.1.trans hml.symm) dX3_variable_14 dX3_variable_17 dX3_variable_18 dX3_variable_20 dX3_variable_23 (fun x h => (hNo x h).elim) (Nat.le_of_ble_eq_true rfl) (Nat.le_of_ble_eq_true rfl) (Nat.le_of_ble_eq_true rfl) (Nat.le_of_ble_eq_true rfl) hlocks (fun t ha hsz hk => ⟨(), (show ¬ (2 : Nat) = 0 by decide), ⟨rfl, hP.kept (fun k q hq => hk q.1 (hP k q hq).lt), va_K.moved ha hK, hD⟩, Nat.le_trans hS.1 hsz, fun q h1 h2 => (hk q (Nat.lt_of_lt_of_le h1 hS.1)).trans (hS.2.1 q h1 h2)⟩) hS.2.2 (by decide) (by decide)
  · skip
    have e9 : p_variable u x1 = (p_needVariable x1, 0, u) := by rw [p_variable, if_neg c_1]
    rw [e9]
    refine kx_callSv (As := [.int x1]) (rest := []) hzz ⟨hx, hb, hml, hown, hts⟩ (cx_needVariable l hlt D ad cI cZ zz hzz tS hst hxs (wT ad cI cZ u) x1 c_1) (cwS 1 hts (tb_S tw_1_190 tw_1_191 tw_1_1 tw_1_192) rfl rfl rfl (by decide +kernel) ⟨Nat.le_of_ble_eq_true rfl, Nat.le_of_ble_eq_true rfl⟩) rfl hl.1 rfl (lv_room (Nat.le_of_ble_eq_true rfl)) dX3_variable_1 ⟨Nat.le_of_ble_eq_true rfl, Nat.le_of_ble_eq_true rfl⟩ hP hK hD hS hA hZ (fun _ ce q9 H locs hP hD hS hce hcv hcl => ?_) (fun h => absurd h c_1)
    exact vx_out (fun x h => (hNo x h).elim) hlocks hce hcv hcl (fun t ht hvm => ⟨(), c_1, ⟨rfl, by rw [ht]; exact hP, va_K.moved hvm hK, hD⟩, hS.F ht⟩) hS.2.2 (by decide) (by decide)

def p_output (u : St) (x1 : Int32) : Nat × Int32 × St := (if (p_keeps u x1) = 0 then (3, 0, u) else (0, p_keptOutput u x1, u))
def ok_output (u : St) (x1 : Int32) : Prop := (((p_keeps u x1) = 0 → True) ∧ (¬ (p_keeps u x1) = 0 → (ok_keptOutput u x1 ∧ True)))
set_option maxHeartbeats 4000000 in
set_option maxRecDepth 100000 in
theorem cr_output (l : Launch) (D : va_G) (ad : Nat → Nat) (cI cZ : ClassId) (zz : (Nat → Prop) → State → Heap → Prop) (hzz : Zok zz) (tS : Nat) (hst : Zst zz tS) (u : St) (x1 : Int32) (hok : ok_output u x1) (hc : (p_output u x1).1 = 0) : tfI l D vwCl (tyT cI cZ) zz yX3_output wsX3_output ({ frames := 6, cells := 0, slots := 0, locals := 90 } : Room) [.ref (ad 0), .int x1] (wT ad cI cZ u) (p_output u x1).2.1 (wT ad cI cZ ((p_output u x1).2.2)) := by
  intro sz
  unfold ok_output at hok
  refine Met.ofW (cc := cX3_output) (maxL := 2) (ret := (some .int)) (by decide) rfl ?_
  intro p e s m args below meth c s₁ B hml hv
  obtain ⟨rfl, hsz, hP, hK, hD0, hZ⟩ := hv
  have hx := B.exec
  have hb := B.bytes
  have hr := B.returns
  have hts := atoms_spec (ws := wsX3_output) B.pre
  have hown : s.vm.findClass RX3 = some m.cls := findClass_of_methodNamed B.named
  have hlocks := B.notSynchronized
  subst hsz
  have hD := hD0.self (sz := s.heap.size)
  generalize hAe : va_A (wT ad cI cZ u) s.heap.size = A at hD hZ ⊢
  have hA : ∀ q : Nat, s.heap.size ≤ q → A q := fun q h => by rw [← hAe]; exact Or.inr h
  have hS : va_S A s.heap s.heap [] := va_S.rf
  have hl := lv_entry ([.ref (ad 0), .int x1]) (n := 2) (Nat.le_of_ble_eq_true rfl)
  rw [lg_entry_eq]
  generalize (lg_sl ([.ref (ad 0), .int x1]) ++ List.replicate (2 - (lg_sl ([.ref (ad 0), .int x1])).length) Slot.unset).toArray = ls at hl ⊢
  have hl : lv_has ls 2 [(0, .ref (ad 0)), (1, .int x1)] := hl
  refine lv_aload_n hx hb dX3_output_0 rfl (lv_at hl 0 rfl) ?_
  refine va_get (ci := 3) (v := .ref (ad 3)) (C := RX3) (T := TX3) (N := 3) hx hb hts (ivX3 _) hown hK hP 0 rfl rfl 2 (by decide) (hts _ (tb_c tw_1_145)) (fun _ h9 => h9) rfl dX3_output_1 ?_
  refine lv_iload_n hx hb dX3_output_4 rfl (lv_at hl 1 rfl) ?_
  refine k_callVi (As := [.int x1]) (rest := []) hzz ⟨hx, hb, hml, hown, hts⟩ (c_keeps l D ad cI cZ zz hzz tS hst u x1) (cwV 1 hts (tb_V tw_3_86 tw_3_87 tw_3_88 tw_1_4 tw_3_89) rfl rfl rfl (by decide +kernel) ⟨Nat.le_of_ble_eq_true rfl, Nat.le_of_ble_eq_true rfl⟩) (va_recv hK hP (ci := 1) (q0 := 3) rfl rfl) rfl hl.1 rfl (lv_room (Nat.le_of_ble_eq_true rfl)) dX3_output_5 ⟨Nat.le_of_ble_eq_true rfl, Nat.le_of_ble_eq_true rfl⟩ hP hK hD hS hA hZ (fun H locs hP hD hS => ?_)
  refine lv_if_ne (tgt := 21) hx hb dX3_output_8 (by decide) (fun c_2 => ?_) (fun c_2 => ?_)
  · have hok := hok.2 c_2
    refine lv_aload_n hx hb dX3_output_21 rfl (lv_at hl 0 rfl) ?_
    refine va_get (ci := 3) (v := .ref (ad 3)) (C := RX3) (T := TX3) (N := 3) hx hb hts (ivX3 _) hown hK hP 0 rfl rfl 2 (by decide) (hts _ (tb_c tw_1_145)) (fun _ h9 => h9) rfl dX3_output_22 ?_
    refine lv_iload_n hx hb dX3_output_25 rfl (lv_at hl 1 rfl) ?_
    obtain ⟨h_3, hok⟩ := hok
    refine k_callVi (As := [.int x1]) (rest := []) hzz ⟨hx, hb, hml, hown, hts⟩ (c_keptOutput l D ad cI cZ zz hzz tS hst u x1 h_3) (cwV 1 hts (tb_V tw_3_91 tw_3_92 tw_3_93 tw_1_4 tw_3_94) rfl rfl rfl (by decide +kernel) ⟨Nat.le_of_ble_eq_true rfl, Nat.le_of_ble_eq_true rfl⟩) (va_recv hK hP (ci := 1) (q0 := 3) rfl rfl) rfl hl.1 rfl (lv_room (Nat.le_of_ble_eq_true rfl)) dX3_output_26 ⟨Nat.le_of_ble_eq_true rfl, Nat.le_of_ble_eq_true rfl⟩ hP hK hD hS hA hZ (fun H locs hP hD hS => ?_)
    have e9 : p_output u x1 = (0, p_keptOutput u x1, u) := by rw [p_output, if_neg c_2]
    try rw [e9]
    exact W.iret hx hb hr (fun t ht hW => ⟨⟨_, (), rfl, rfl, by rw [ht]; exact hP, va_K.moved hW.alike hK, hD⟩, hS.F ht⟩) hS.2.2 dX3_output_29
  · have hok := hok.1 c_2
    have e9 : p_output u x1 = (3, 0, u) := by rw [p_output, if_pos c_2]
    rw [e9] at hc
    exact absurd hc (show ¬ (3 : Nat) = 0 by decide)
