def p_m_isVariable (x0 : Int32) : Int32 := (if x0 < 0 then 0 else (if 8 ≤ x0 then 0 else 1))
set_option maxHeartbeats 4000000 in
set_option maxRecDepth 100000 in
theorem c_m_isVariable (l : Launch) (D : va_G) (am : Nat → Nat) (cI cZ : ClassId) (zz : (Nat → Prop) → State → Heap → Prop) (hzz : Zok zz) (w : va_W) (x0 : Int32) : tfI l D vwCl (tyT cI cZ) zz yX4_isVariable wsX4_isVariable ({ frames := 0, cells := 0, slots := 0, locals := 0 } : Room) [.int x0] w (p_m_isVariable x0) w := by
  intro sz
  refine Met.ofW (cc := cX4_isVariable) (maxL := 1) (ret := (some .boolean)) (by decide) rfl ?_
  intro p e s m args below meth c s₁ B hml hv
  obtain ⟨rfl, hsz, hP, hK, hD0, hZ⟩ := hv
  have hx := B.exec
  have hb := B.bytes
  have hr := B.returns
  have hts := atoms_spec (ws := wsX4_isVariable) B.pre
  have hown : s.vm.findClass RX4 = some m.cls := findClass_of_methodNamed B.named
  have hlocks := B.notSynchronized
  subst hsz
  have hD := hD0.self (sz := s.heap.size)
  generalize hAe : va_A w s.heap.size = A at hD hZ ⊢
  have hA : ∀ q : Nat, s.heap.size ≤ q → A q := fun q h => by rw [← hAe]; exact Or.inr h
  have hS : va_S A s.heap s.heap [] := va_S.rf
  have Cx : cxt p s m ([.int x0] : List Value).toArray meth c cX4_isVariable 1 (some .boolean) wsX4_isVariable RX4 D vwCl (tyT cI cZ) zz A := ⟨hx, hb, hr, hts, hown, hlocks, hml, hK, hA, hZ⟩
  have hl := lv_entry ([.int x0]) (n := 1) (Nat.le_of_ble_eq_true rfl)
  rw [lg_entry_eq]
  generalize (lg_sl ([.int x0]) ++ List.replicate (1 - (lg_sl ([.int x0])).length) Slot.unset).toArray = ls at hl ⊢
  have hl : lv_has ls 1 [(0, .int x0)] := hl
  refine lv_iload_n hx hb dX4_isVariable_0 rfl (lv_at hl 0 rfl) ?_
  refine lv_if_lt (tgt := 14) hx hb dX4_isVariable_1 (by decide) (fun c_1 => ?_) (fun c_1 => ?_)
  · skip
    refine lv_iconst (v := 0) hx hb dX4_isVariable_14 (by decide) ?_
    have e9 : p_m_isVariable x0 = 0 := by rw [p_m_isVariable, if_pos c_1]
    rw [e9]
    exact W.zret hx hb hr rfl (fun t ht hW => ⟨⟨_, (), rfl, rfl, by rw [ht]; exact hP, va_K.moved hW.alike hK, hD⟩, hS.F ht⟩) hS.2.2 dX4_isVariable_15
  · skip
    refine lv_iload_n hx hb dX4_isVariable_4 rfl (lv_at hl 0 rfl) ?_
    refine lv_bipush (v := 8) hx hb dX4_isVariable_5 (by decide) ?_
    refine lv_icmp_ge (tgt := 14) hx hb dX4_isVariable_7 (by decide) (fun c_2 => ?_) (fun c_2 => ?_)
    · skip
      refine lv_iconst (v := 0) hx hb dX4_isVariable_14 (by decide) ?_
      have e9 : p_m_isVariable x0 = 0 := by rw [p_m_isVariable, if_neg c_1, if_pos c_2]
      rw [e9]
      exact W.zret hx hb hr rfl (fun t ht hW => ⟨⟨_, (), rfl, rfl, by rw [ht]; exact hP, va_K.moved hW.alike hK, hD⟩, hS.F ht⟩) hS.2.2 dX4_isVariable_15
    · skip
      refine lv_iconst (v := 1) hx hb dX4_isVariable_10 (by decide) ?_
      refine lv_goto (tgt := 15) hx hb dX4_isVariable_11 (by decide) ?_
      have e9 : p_m_isVariable x0 = 1 := by rw [p_m_isVariable, if_neg c_1, if_neg c_2]
      rw [e9]
      exact W.zret hx hb hr rfl (fun t ht hW => ⟨⟨_, (), rfl, rfl, by rw [ht]; exact hP, va_K.moved hW.alike hK, hD⟩, hS.F ht⟩) hS.2.2 dX4_isVariable_15

def p_m_isRelation (x0 : Int32) : Int32 := (if x0 < 0 then (if x0 < 8 then 0 else (if 13 < x0 then 0 else 1)) else (if x0 ≤ 3 then 1 else (if x0 < 8 then 0 else (if 13 < x0 then 0 else 1))))
set_option maxHeartbeats 4000000 in
set_option maxRecDepth 100000 in
theorem c_m_isRelation (l : Launch) (D : va_G) (am : Nat → Nat) (cI cZ : ClassId) (zz : (Nat → Prop) → State → Heap → Prop) (hzz : Zok zz) (w : va_W) (x0 : Int32) : tfI l D vwCl (tyT cI cZ) zz yX4_isRelation wsX4_isRelation ({ frames := 0, cells := 0, slots := 0, locals := 0 } : Room) [.int x0] w (p_m_isRelation x0) w := by
  intro sz
  refine Met.ofW (cc := cX4_isRelation) (maxL := 1) (ret := (some .boolean)) (by decide) rfl ?_
  intro p e s m args below meth c s₁ B hml hv
  obtain ⟨rfl, hsz, hP, hK, hD0, hZ⟩ := hv
  have hx := B.exec
  have hb := B.bytes
  have hr := B.returns
  have hts := atoms_spec (ws := wsX4_isRelation) B.pre
  have hown : s.vm.findClass RX4 = some m.cls := findClass_of_methodNamed B.named
  have hlocks := B.notSynchronized
  subst hsz
  have hD := hD0.self (sz := s.heap.size)
  generalize hAe : va_A w s.heap.size = A at hD hZ ⊢
  have hA : ∀ q : Nat, s.heap.size ≤ q → A q := fun q h => by rw [← hAe]; exact Or.inr h
  have hS : va_S A s.heap s.heap [] := va_S.rf
  have Cx : cxt p s m ([.int x0] : List Value).toArray meth c cX4_isRelation 1 (some .boolean) wsX4_isRelation RX4 D vwCl (tyT cI cZ) zz A := ⟨hx, hb, hr, hts, hown, hlocks, hml, hK, hA, hZ⟩
  have hl := lv_entry ([.int x0]) (n := 1) (Nat.le_of_ble_eq_true rfl)
  rw [lg_entry_eq]
  generalize (lg_sl ([.int x0]) ++ List.replicate (1 - (lg_sl ([.int x0])).length) Slot.unset).toArray = ls at hl ⊢
  have hl : lv_has ls 1 [(0, .int x0)] := hl
  refine lv_iload_n hx hb dX4_isRelation_0 rfl (lv_at hl 0 rfl) ?_
  refine lv_if_lt (tgt := 9) hx hb dX4_isRelation_1 (by decide) (fun c_1 => ?_) (fun c_1 => ?_)
  · skip
    refine lv_iload_n hx hb dX4_isRelation_9 rfl (lv_at hl 0 rfl) ?_
    refine lv_bipush (v := 8) hx hb dX4_isRelation_10 (by decide) ?_
    refine lv_icmp_lt (tgt := 25) hx hb dX4_isRelation_12 (by decide) (fun c_2 => ?_) (fun c_2 => ?_)
    · skip
      refine lv_iconst (v := 0) hx hb dX4_isRelation_25 (by decide) ?_
      have e9 : p_m_isRelation x0 = 0 := by rw [p_m_isRelation, if_pos c_1, if_pos c_2]
      rw [e9]
      exact W.zret hx hb hr rfl (fun t ht hW => ⟨⟨_, (), rfl, rfl, by rw [ht]; exact hP, va_K.moved hW.alike hK, hD⟩, hS.F ht⟩) hS.2.2 dX4_isRelation_26
    · skip
      refine lv_iload_n hx hb dX4_isRelation_15 rfl (lv_at hl 0 rfl) ?_
      refine lv_bipush (v := 13) hx hb dX4_isRelation_16 (by decide) ?_
      refine lv_icmp_gt (tgt := 25) hx hb dX4_isRelation_18 (by decide) (fun c_3 => ?_) (fun c_3 => ?_)
      · skip
        refine lv_iconst (v := 0) hx hb dX4_isRelation_25 (by decide) ?_
        have e9 : p_m_isRelation x0 = 0 := by rw [p_m_isRelation, if_pos c_1, if_neg c_2, if_pos c_3]
        rw [e9]
        exact W.zret hx hb hr rfl (fun t ht hW => ⟨⟨_, (), rfl, rfl, by rw [ht]; exact hP, va_K.moved hW.alike hK, hD⟩, hS.F ht⟩) hS.2.2 dX4_isRelation_26
      · skip
        refine lv_iconst (v := 1) hx hb dX4_isRelation_21 (by decide) ?_
        refine lv_goto (tgt := 26) hx hb dX4_isRelation_22 (by decide) ?_
        have e9 : p_m_isRelation x0 = 1 := by rw [p_m_isRelation, if_pos c_1, if_neg c_2, if_neg c_3]
        rw [e9]
        exact W.zret hx hb hr rfl (fun t ht hW => ⟨⟨_, (), rfl, rfl, by rw [ht]; exact hP, va_K.moved hW.alike hK, hD⟩, hS.F ht⟩) hS.2.2 dX4_isRelation_26
  · skip
    refine lv_iload_n hx hb dX4_isRelation_4 rfl (lv_at hl 0 rfl) ?_
    refine lv_iconst (v := 3) hx hb dX4_isRelation_5 (by decide) ?_
    refine lv_icmp_le (tgt := 21) hx hb dX4_isRelation_6 (by decide) (fun c_4 => ?_) (fun c_4 => ?_)
    · skip
      refine lv_iconst (v := 1) hx hb dX4_isRelation_21 (by decide) ?_
      refine lv_goto (tgt := 26) hx hb dX4_isRelation_22 (by decide) ?_
      have e9 : p_m_isRelation x0 = 1 := by rw [p_m_isRelation, if_neg c_1, if_pos c_4]
      rw [e9]
      exact W.zret hx hb hr rfl (fun t ht hW => ⟨⟨_, (), rfl, rfl, by rw [ht]; exact hP, va_K.moved hW.alike hK, hD⟩, hS.F ht⟩) hS.2.2 dX4_isRelation_26
    · skip
      refine lv_iload_n hx hb dX4_isRelation_9 rfl (lv_at hl 0 rfl) ?_
      refine lv_bipush (v := 8) hx hb dX4_isRelation_10 (by decide) ?_
      refine lv_icmp_lt (tgt := 25) hx hb dX4_isRelation_12 (by decide) (fun c_5 => ?_) (fun c_5 => ?_)
      · skip
        refine lv_iconst (v := 0) hx hb dX4_isRelation_25 (by decide) ?_
        have e9 : p_m_isRelation x0 = 0 := by rw [p_m_isRelation, if_neg c_1, if_neg c_4, if_pos c_5]
        rw [e9]
        exact W.zret hx hb hr rfl (fun t ht hW => ⟨⟨_, (), rfl, rfl, by rw [ht]; exact hP, va_K.moved hW.alike hK, hD⟩, hS.F ht⟩) hS.2.2 dX4_isRelation_26
      · skip
        refine lv_iload_n hx hb dX4_isRelation_15 rfl (lv_at hl 0 rfl) ?_
        refine lv_bipush (v := 13) hx hb dX4_isRelation_16 (by decide) ?_
        refine lv_icmp_gt (tgt := 25) hx hb dX4_isRelation_18 (by decide) (fun c_6 => ?_) (fun c_6 => ?_)
        · skip
          refine lv_iconst (v := 0) hx hb dX4_isRelation_25 (by decide) ?_
          have e9 : p_m_isRelation x0 = 0 := by rw [p_m_isRelation, if_neg c_1, if_neg c_4, if_neg c_5, if_pos c_6]
          rw [e9]
          exact W.zret hx hb hr rfl (fun t ht hW => ⟨⟨_, (), rfl, rfl, by rw [ht]; exact hP, va_K.moved hW.alike hK, hD⟩, hS.F ht⟩) hS.2.2 dX4_isRelation_26
        · skip
          refine lv_iconst (v := 1) hx hb dX4_isRelation_21 (by decide) ?_
          refine lv_goto (tgt := 26) hx hb dX4_isRelation_22 (by decide) ?_
          have e9 : p_m_isRelation x0 = 1 := by rw [p_m_isRelation, if_neg c_1, if_neg c_4, if_neg c_5, if_neg c_6]
          rw [e9]
          exact W.zret hx hb hr rfl (fun t ht hW => ⟨⟨_, (), rfl, rfl, by rw [ht]; exact hP, va_K.moved hW.alike hK, hD⟩, hS.F ht⟩) hS.2.2 dX4_isRelation_26

def p_m_slot (x0 : Int32) : Int32 := (if 4 ≤ x0 then 1 else 0)
set_option maxHeartbeats 4000000 in
set_option maxRecDepth 100000 in
theorem c_m_slot (l : Launch) (D : va_G) (am : Nat → Nat) (cI cZ : ClassId) (zz : (Nat → Prop) → State → Heap → Prop) (hzz : Zok zz) (w : va_W) (x0 : Int32) : tfI l D vwCl (tyT cI cZ) zz yX4_slot wsX4_slot ({ frames := 0, cells := 0, slots := 0, locals := 0 } : Room) [.int x0] w (p_m_slot x0) w := by
  intro sz
  refine Met.ofW (cc := cX4_slot) (maxL := 1) (ret := (some .int)) (by decide) rfl ?_
  intro p e s m args below meth c s₁ B hml hv
  obtain ⟨rfl, hsz, hP, hK, hD0, hZ⟩ := hv
  have hx := B.exec
  have hb := B.bytes
  have hr := B.returns
  have hts := atoms_spec (ws := wsX4_slot) B.pre
  have hown : s.vm.findClass RX4 = some m.cls := findClass_of_methodNamed B.named
  have hlocks := B.notSynchronized
  subst hsz
  have hD := hD0.self (sz := s.heap.size)
  generalize hAe : va_A w s.heap.size = A at hD hZ ⊢
  have hA : ∀ q : Nat, s.heap.size ≤ q → A q := fun q h => by rw [← hAe]; exact Or.inr h
  have hS : va_S A s.heap s.heap [] := va_S.rf
  have Cx : cxt p s m ([.int x0] : List Value).toArray meth c cX4_slot 1 (some .int) wsX4_slot RX4 D vwCl (tyT cI cZ) zz A := ⟨hx, hb, hr, hts, hown, hlocks, hml, hK, hA, hZ⟩
  have hl := lv_entry ([.int x0]) (n := 1) (Nat.le_of_ble_eq_true rfl)
  rw [lg_entry_eq]
  generalize (lg_sl ([.int x0]) ++ List.replicate (1 - (lg_sl ([.int x0])).length) Slot.unset).toArray = ls at hl ⊢
  have hl : lv_has ls 1 [(0, .int x0)] := hl
  refine lv_iload_n hx hb dX4_slot_0 rfl (lv_at hl 0 rfl) ?_
  refine lv_iconst (v := 4) hx hb dX4_slot_1 (by decide) ?_
  refine lv_icmp_ge (tgt := 9) hx hb dX4_slot_2 (by decide) (fun c_1 => ?_) (fun c_1 => ?_)
  · skip
    refine lv_iconst (v := 1) hx hb dX4_slot_9 (by decide) ?_
    have e9 : p_m_slot x0 = 1 := by rw [p_m_slot, if_pos c_1]
    rw [e9]
    exact W.iret hx hb hr (fun t ht hW => ⟨⟨_, (), rfl, rfl, by rw [ht]; exact hP, va_K.moved hW.alike hK, hD⟩, hS.F ht⟩) hS.2.2 dX4_slot_10
  · skip
    refine lv_iconst (v := 0) hx hb dX4_slot_5 (by decide) ?_
    refine lv_goto (tgt := 10) hx hb dX4_slot_6 (by decide) ?_
    have e9 : p_m_slot x0 = 0 := by rw [p_m_slot, if_neg c_1]
    rw [e9]
    exact W.iret hx hb hr (fun t ht hW => ⟨⟨_, (), rfl, rfl, by rw [ht]; exact hP, va_K.moved hW.alike hK, hD⟩, hS.F ht⟩) hS.2.2 dX4_slot_10

def p_m_shiftOf_5 : Nat → Int32 → Int32 → Int32 → Int32
  | 0, _, _, _ => 0
  | n + 1, x0, x1, x2 => (if x2 ≤ 0 then x1 else (if (ush x0 x2) < 1 then p_m_shiftOf_5 n x0 x1 (x2 + (-1)) else (if 255 < (ush x0 x2) then p_m_shiftOf_5 n x0 x1 (x2 + (-1)) else (if ((ush x0 x2) <<< (x2 &&& 31)) = x0 then p_m_shiftOf_5 n x0 x2 (x2 + (-1)) else p_m_shiftOf_5 n x0 x1 (x2 + (-1))))))
def ok_m_shiftOf_5 : Nat → Int32 → Int32 → Int32 → Prop
  | 0, _, _, _ => False
  | n + 1, x0, x1, x2 => ((x2 ≤ 0 → True) ∧ (¬ x2 ≤ 0 → (((ush x0 x2) < 1 → ok_m_shiftOf_5 n x0 x1 (x2 + (-1))) ∧ (¬ (ush x0 x2) < 1 → ((255 < (ush x0 x2) → ok_m_shiftOf_5 n x0 x1 (x2 + (-1))) ∧ (¬ 255 < (ush x0 x2) → ((((ush x0 x2) <<< (x2 &&& 31)) = x0 → ok_m_shiftOf_5 n x0 x2 (x2 + (-1))) ∧ (¬ ((ush x0 x2) <<< (x2 &&& 31)) = x0 → ok_m_shiftOf_5 n x0 x1 (x2 + (-1))))))))))
set_option maxHeartbeats 4000000 in
set_option maxRecDepth 100000 in
theorem w_m_shiftOf_5 {p : Program} {l : Launch} {e : Env} {s : State} {m : MethodId} {args : Array Value} {below : List Frame} {meth : Method} {c : Code} {D : va_G} {A : Nat → Prop} (am : Nat → Nat) (cI cZ : ClassId) (zz : (Nat → Prop) → State → Heap → Prop) (hzz : Zok zz) (w : va_W) (Cx : cxt p s m args meth c cX4_shiftOf 4 (some .int) wsX4_shiftOf RX4 D vwCl (tyT cI cZ) zz A) : ∀ (n : Nat) (x0 x1 x2 : Int32) (H : Heap) (locs : List Loc) (ls : Array Slot), ok_m_shiftOf_5 n x0 x1 x2 → va_P D vwCl w H → va_D A w → va_S A s.heap H locs → lv_has ls 4 [(0, .int x0), (1, .int x1), (2, .int x2)] → W p l e ({ frames := 0, cells := 0, slots := 0, locals := 0 } : Room) s m args below meth c H locs 0 0 (MQ below (qqI D vwCl (tyT cI cZ) w (p_m_shiftOf_5 n x0 x1 x2) A) args s 0 0 A) (F0 m 5 ls []) := by
  obtain ⟨hx, hb, hr, hts, hown, hlocks, hml, hK, hA, hZ⟩ := id Cx
  intro n
  induction n with
  | zero =>
    intro x0 x1 x2 H locs ls hok
    exact False.elim hok
  | succ n ih =>
    intro x0 x1 x2 H locs ls hok hP hD hS hl
    unfold ok_m_shiftOf_5 at hok
    refine lv_iload_n hx hb dX4_shiftOf_5 rfl (lv_at hl 2 rfl) ?_
    refine lv_if_le (tgt := 44) hx hb dX4_shiftOf_6 (by decide) (fun c_1 => ?_) (fun c_1 => ?_)
    · have hok := hok.1 c_1
      refine lv_iload_n hx hb dX4_shiftOf_44 rfl (lv_at hl 1 rfl) ?_
      have e9 : p_m_shiftOf_5 (n + 1) x0 x1 x2 = x1 := by rw [p_m_shiftOf_5, if_pos c_1]
      rw [e9]
      exact W.iret hx hb hr (fun t ht hW => ⟨⟨_, (), rfl, rfl, by rw [ht]; exact hP, va_K.moved hW.alike hK, hD⟩, hS.F ht⟩) hS.2.2 dX4_shiftOf_45
    · have hok := hok.2 c_1
      refine lv_iload_n hx hb dX4_shiftOf_9 rfl (lv_at hl 0 rfl) ?_
      refine lv_iload_n hx hb dX4_shiftOf_10 rfl (lv_at hl 2 rfl) ?_
      refine lv_iushr (v := ush x0 x2) hx hb dX4_shiftOf_11 rfl ?_
      refine lv_istore_n (lv' := [(3, .int (ush x0 x2)), (0, .int x0), (1, .int x1), (2, .int x2)]) hx hb dX4_shiftOf_12 rfl hl (by decide) rfl (fun ls hl => ?_)
      refine lv_iload_n hx hb dX4_shiftOf_13 rfl (lv_at hl 0 rfl) ?_
      refine lv_iconst (v := 1) hx hb dX4_shiftOf_14 (by decide) ?_
      refine lv_icmp_lt (tgt := 36) hx hb dX4_shiftOf_15 (by decide) (fun c_2 => ?_) (fun c_2 => ?_)
      · have hok := hok.1 c_2
        refine lv_iload_n hx hb dX4_shiftOf_36 rfl (lv_at hl 2 rfl) ?_
        refine lv_istore_n (lv' := [(1, .int x1), (3, .int (ush x0 x2)), (0, .int x0), (2, .int x2)]) hx hb dX4_shiftOf_37 rfl hl (by decide) rfl (fun ls hl => ?_)
        refine lv_iinc (v := x2 + (-1)) (lv' := [(2, .int (x2 + (-1))), (1, .int x1), (3, .int (ush x0 x2)), (0, .int x0)]) hx hb dX4_shiftOf_38 hl (k := 3) rfl rfl (by decide) rfl (fun ls hl => ?_)
        refine lv_goto (tgt := 5) hx hb dX4_shiftOf_41 (by decide) ?_
        have e9 : p_m_shiftOf_5 (n + 1) x0 x1 x2 = p_m_shiftOf_5 n x0 x1 (x2 + (-1)) := by rw [p_m_shiftOf_5, if_neg c_1, if_pos c_2]
        rw [e9]
        exact ih x0 x1 (x2 + (-1)) _ _ _ hok hP hD hS (lv_sub hl [3, 1, 0] rfl)
      · have hok := hok.2 c_2
        refine lv_iload_n hx hb dX4_shiftOf_18 rfl (lv_at hl 0 rfl) ?_
        refine lv_sipush (v := 255) hx hb dX4_shiftOf_19 (by decide) ?_
        refine lv_icmp_gt (tgt := 36) hx hb dX4_shiftOf_22 (by decide) (fun c_3 => ?_) (fun c_3 => ?_)
        · have hok := hok.1 c_3
          refine lv_iload_n hx hb dX4_shiftOf_36 rfl (lv_at hl 2 rfl) ?_
          refine lv_istore_n (lv' := [(1, .int x1), (3, .int (ush x0 x2)), (0, .int x0), (2, .int x2)]) hx hb dX4_shiftOf_37 rfl hl (by decide) rfl (fun ls hl => ?_)
          refine lv_iinc (v := x2 + (-1)) (lv' := [(2, .int (x2 + (-1))), (1, .int x1), (3, .int (ush x0 x2)), (0, .int x0)]) hx hb dX4_shiftOf_38 hl (k := 3) rfl rfl (by decide) rfl (fun ls hl => ?_)
          refine lv_goto (tgt := 5) hx hb dX4_shiftOf_41 (by decide) ?_
          have e9 : p_m_shiftOf_5 (n + 1) x0 x1 x2 = p_m_shiftOf_5 n x0 x1 (x2 + (-1)) := by rw [p_m_shiftOf_5, if_neg c_1, if_neg c_2, if_pos c_3]
          rw [e9]
          exact ih x0 x1 (x2 + (-1)) _ _ _ hok hP hD hS (lv_sub hl [3, 1, 0] rfl)
        · have hok := hok.2 c_3
          refine lv_iload_n hx hb dX4_shiftOf_25 rfl (lv_at hl 0 rfl) ?_
          refine lv_iload_n hx hb dX4_shiftOf_26 rfl (lv_at hl 3 rfl) ?_
          refine lv_ishl hx hb dX4_shiftOf_27 ?_
          refine lv_iload_n hx hb dX4_shiftOf_28 rfl (lv_at hl 1 rfl) ?_
          refine lv_icmp_ne (tgt := 36) hx hb dX4_shiftOf_29 (by decide) (fun c_4 => ?_) (fun c_4 => ?_)
          · have hok := hok.2 c_4
            refine lv_iload_n hx hb dX4_shiftOf_36 rfl (lv_at hl 2 rfl) ?_
            refine lv_istore_n (lv' := [(1, .int x1), (3, .int (ush x0 x2)), (0, .int x0), (2, .int x2)]) hx hb dX4_shiftOf_37 rfl hl (by decide) rfl (fun ls hl => ?_)
            refine lv_iinc (v := x2 + (-1)) (lv' := [(2, .int (x2 + (-1))), (1, .int x1), (3, .int (ush x0 x2)), (0, .int x0)]) hx hb dX4_shiftOf_38 hl (k := 3) rfl rfl (by decide) rfl (fun ls hl => ?_)
            refine lv_goto (tgt := 5) hx hb dX4_shiftOf_41 (by decide) ?_
            have e9 : p_m_shiftOf_5 (n + 1) x0 x1 x2 = p_m_shiftOf_5 n x0 x1 (x2 + (-1)) := by rw [p_m_shiftOf_5, if_neg c_1, if_neg c_2, if_neg c_3, if_neg c_4]
            rw [e9]
            exact ih x0 x1 (x2 + (-1)) _ _ _ hok hP hD hS (lv_sub hl [3, 1, 0] rfl)
          · have hok := hok.1 c_4
            refine lv_iload_n hx hb dX4_shiftOf_32 rfl (lv_at hl 3 rfl) ?_
            refine lv_goto (tgt := 37) hx hb dX4_shiftOf_33 (by decide) ?_
            refine lv_istore_n (lv' := [(1, .int x2), (3, .int (ush x0 x2)), (0, .int x0), (2, .int x2)]) hx hb dX4_shiftOf_37 rfl hl (by decide) rfl (fun ls hl => ?_)
            refine lv_iinc (v := x2 + (-1)) (lv' := [(2, .int (x2 + (-1))), (1, .int x2), (3, .int (ush x0 x2)), (0, .int x0)]) hx hb dX4_shiftOf_38 hl (k := 3) rfl rfl (by decide) rfl (fun ls hl => ?_)
            refine lv_goto (tgt := 5) hx hb dX4_shiftOf_41 (by decide) ?_
            have e9 : p_m_shiftOf_5 (n + 1) x0 x1 x2 = p_m_shiftOf_5 n x0 x2 (x2 + (-1)) := by rw [p_m_shiftOf_5, if_neg c_1, if_neg c_2, if_neg c_3, if_pos c_4]
            rw [e9]
            exact ih x0 x2 (x2 + (-1)) _ _ _ hok hP hD hS (lv_sub hl [3, 1, 0] rfl)
def p_m_shiftOf (x0 : Int32) : Int32 := p_m_shiftOf_5 64 x0 0 24
def ok_m_shiftOf (x0 : Int32) : Prop := ok_m_shiftOf_5 64 x0 0 24
set_option maxHeartbeats 4000000 in
set_option maxRecDepth 100000 in
theorem c_m_shiftOf (l : Launch) (D : va_G) (am : Nat → Nat) (cI cZ : ClassId) (zz : (Nat → Prop) → State → Heap → Prop) (hzz : Zok zz) (w : va_W) (x0 : Int32) (hok : ok_m_shiftOf x0) : tfI l D vwCl (tyT cI cZ) zz yX4_shiftOf wsX4_shiftOf ({ frames := 0, cells := 0, slots := 0, locals := 0 } : Room) [.int x0] w (p_m_shiftOf x0) w := by
  intro sz
  unfold ok_m_shiftOf at hok
  refine Met.ofW (cc := cX4_shiftOf) (maxL := 4) (ret := (some .int)) (by decide) rfl ?_
  intro p e s m args below meth c s₁ B hml hv
  obtain ⟨rfl, hsz, hP, hK, hD0, hZ⟩ := hv
  have hx := B.exec
  have hb := B.bytes
  have hr := B.returns
  have hts := atoms_spec (ws := wsX4_shiftOf) B.pre
  have hown : s.vm.findClass RX4 = some m.cls := findClass_of_methodNamed B.named
  have hlocks := B.notSynchronized
  subst hsz
  have hD := hD0.self (sz := s.heap.size)
  generalize hAe : va_A w s.heap.size = A at hD hZ ⊢
  have hA : ∀ q : Nat, s.heap.size ≤ q → A q := fun q h => by rw [← hAe]; exact Or.inr h
  have hS : va_S A s.heap s.heap [] := va_S.rf
  have Cx : cxt p s m ([.int x0] : List Value).toArray meth c cX4_shiftOf 4 (some .int) wsX4_shiftOf RX4 D vwCl (tyT cI cZ) zz A := ⟨hx, hb, hr, hts, hown, hlocks, hml, hK, hA, hZ⟩
  have hl := lv_entry ([.int x0]) (n := 4) (Nat.le_of_ble_eq_true rfl)
  rw [lg_entry_eq]
  generalize (lg_sl ([.int x0]) ++ List.replicate (4 - (lg_sl ([.int x0])).length) Slot.unset).toArray = ls at hl ⊢
  have hl : lv_has ls 4 [(0, .int x0)] := hl
  refine lv_iconst (v := 0) hx hb dX4_shiftOf_0 (by decide) ?_
  refine lv_istore_n (lv' := [(1, .int 0), (0, .int x0)]) hx hb dX4_shiftOf_1 rfl hl (by decide) rfl (fun ls hl => ?_)
  refine lv_bipush (v := 24) hx hb dX4_shiftOf_2 (by decide) ?_
  refine lv_istore_n (lv' := [(2, .int 24), (1, .int 0), (0, .int x0)]) hx hb dX4_shiftOf_4 rfl hl (by decide) rfl (fun ls hl => ?_)
  have e9 : p_m_shiftOf x0 = p_m_shiftOf_5 64 x0 0 24 := by rw [p_m_shiftOf]
  rw [e9]
  exact w_m_shiftOf_5 am cI cZ zz hzz w Cx 64 x0 0 24 _ _ _ hok hP hD hS (lv_sub hl [2, 1, 0] rfl)

def p_m_isLiteral (x0 : Int32) : Int32 := (if x0 < ((-256)) then (if (p_m_shiftOf x0) = 0 then 1 else 0) else (if x0 ≤ 255 then 0 else (if (p_m_shiftOf x0) = 0 then 1 else 0)))
def ok_m_isLiteral (x0 : Int32) : Prop := ((x0 < ((-256)) → (ok_m_shiftOf x0 ∧ True)) ∧ (¬ x0 < ((-256)) → ((x0 ≤ 255 → True) ∧ (¬ x0 ≤ 255 → (ok_m_shiftOf x0 ∧ True)))))
set_option maxHeartbeats 4000000 in
set_option maxRecDepth 100000 in
theorem c_m_isLiteral (l : Launch) (D : va_G) (am : Nat → Nat) (cI cZ : ClassId) (zz : (Nat → Prop) → State → Heap → Prop) (hzz : Zok zz) (w : va_W) (x0 : Int32) (hok : ok_m_isLiteral x0) : tfI l D vwCl (tyT cI cZ) zz yX4_isLiteral wsX4_isLiteral ({ frames := 1, cells := 0, slots := 0, locals := 23 } : Room) [.int x0] w (p_m_isLiteral x0) w := by
  intro sz
  unfold ok_m_isLiteral at hok
  refine Met.ofW (cc := cX4_isLiteral) (maxL := 1) (ret := (some .boolean)) (by decide) rfl ?_
  intro p e s m args below meth c s₁ B hml hv
  obtain ⟨rfl, hsz, hP, hK, hD0, hZ⟩ := hv
  have hx := B.exec
  have hb := B.bytes
  have hr := B.returns
  have hts := atoms_spec (ws := wsX4_isLiteral) B.pre
  have hown : s.vm.findClass RX4 = some m.cls := findClass_of_methodNamed B.named
  have hlocks := B.notSynchronized
  subst hsz
  have hD := hD0.self (sz := s.heap.size)
  generalize hAe : va_A w s.heap.size = A at hD hZ ⊢
  have hA : ∀ q : Nat, s.heap.size ≤ q → A q := fun q h => by rw [← hAe]; exact Or.inr h
  have hS : va_S A s.heap s.heap [] := va_S.rf
  have Cx : cxt p s m ([.int x0] : List Value).toArray meth c cX4_isLiteral 1 (some .boolean) wsX4_isLiteral RX4 D vwCl (tyT cI cZ) zz A := ⟨hx, hb, hr, hts, hown, hlocks, hml, hK, hA, hZ⟩
  have hl := lv_entry ([.int x0]) (n := 1) (Nat.le_of_ble_eq_true rfl)
  rw [lg_entry_eq]
  generalize (lg_sl ([.int x0]) ++ List.replicate (1 - (lg_sl ([.int x0])).length) Slot.unset).toArray = ls at hl ⊢
  have hl : lv_has ls 1 [(0, .int x0)] := hl
  refine lv_iload_n hx hb dX4_isLiteral_0 rfl (lv_at hl 0 rfl) ?_
  refine lv_sipush (v := (-256)) hx hb dX4_isLiteral_1 (by decide) ?_
  refine lv_icmp_lt (tgt := 14) hx hb dX4_isLiteral_4 (by decide) (fun c_1 => ?_) (fun c_1 => ?_)
  · have hok := hok.1 c_1
    refine lv_iload_n hx hb dX4_isLiteral_14 rfl (lv_at hl 0 rfl) ?_
    obtain ⟨h_2, hok⟩ := hok
    refine k_callSi (As := [.int x0]) (rest := []) hzz ⟨hx, hb, hml, hown, hts⟩ (c_m_shiftOf l D am cI cZ zz hzz w x0 h_2) (cwS 1 hts (tb_S tw_4_4 tw_4_5 tw_1_5 tw_4_6) rfl rfl rfl (by decide +kernel) ⟨Nat.le_of_ble_eq_true rfl, Nat.le_of_ble_eq_true rfl⟩) rfl hl.1 rfl (lv_room (Nat.le_of_ble_eq_true rfl)) dX4_isLiteral_15 ⟨Nat.le_of_ble_eq_true rfl, Nat.le_of_ble_eq_true rfl⟩ hP hK hD hS hA hZ (fun H locs hP hD hS => ?_)
    refine lv_if_ne (tgt := 25) hx hb dX4_isLiteral_18 (by decide) (fun c_3 => ?_) (fun c_3 => ?_)
    · skip
      refine lv_iconst (v := 0) hx hb dX4_isLiteral_25 (by decide) ?_
      have e9 : p_m_isLiteral x0 = 0 := by rw [p_m_isLiteral, if_pos c_1, if_neg c_3]
      rw [e9]
      exact W.zret hx hb hr rfl (fun t ht hW => ⟨⟨_, (), rfl, rfl, by rw [ht]; exact hP, va_K.moved hW.alike hK, hD⟩, hS.F ht⟩) hS.2.2 dX4_isLiteral_26
    · skip
      refine lv_iconst (v := 1) hx hb dX4_isLiteral_21 (by decide) ?_
      refine lv_goto (tgt := 26) hx hb dX4_isLiteral_22 (by decide) ?_
      have e9 : p_m_isLiteral x0 = 1 := by rw [p_m_isLiteral, if_pos c_1, if_pos c_3]
      rw [e9]
      exact W.zret hx hb hr rfl (fun t ht hW => ⟨⟨_, (), rfl, rfl, by rw [ht]; exact hP, va_K.moved hW.alike hK, hD⟩, hS.F ht⟩) hS.2.2 dX4_isLiteral_26
  · have hok := hok.2 c_1
    refine lv_iload_n hx hb dX4_isLiteral_7 rfl (lv_at hl 0 rfl) ?_
    refine lv_sipush (v := 255) hx hb dX4_isLiteral_8 (by decide) ?_
    refine lv_icmp_le (tgt := 25) hx hb dX4_isLiteral_11 (by decide) (fun c_4 => ?_) (fun c_4 => ?_)
    · have hok := hok.1 c_4
      refine lv_iconst (v := 0) hx hb dX4_isLiteral_25 (by decide) ?_
      have e9 : p_m_isLiteral x0 = 0 := by rw [p_m_isLiteral, if_neg c_1, if_pos c_4]
      rw [e9]
      exact W.zret hx hb hr rfl (fun t ht hW => ⟨⟨_, (), rfl, rfl, by rw [ht]; exact hP, va_K.moved hW.alike hK, hD⟩, hS.F ht⟩) hS.2.2 dX4_isLiteral_26
    · have hok := hok.2 c_4
      refine lv_iload_n hx hb dX4_isLiteral_14 rfl (lv_at hl 0 rfl) ?_
      obtain ⟨h_5, hok⟩ := hok
      refine k_callSi (As := [.int x0]) (rest := []) hzz ⟨hx, hb, hml, hown, hts⟩ (c_m_shiftOf l D am cI cZ zz hzz w x0 h_5) (cwS 1 hts (tb_S tw_4_4 tw_4_5 tw_1_5 tw_4_6) rfl rfl rfl (by decide +kernel) ⟨Nat.le_of_ble_eq_true rfl, Nat.le_of_ble_eq_true rfl⟩) rfl hl.1 rfl (lv_room (Nat.le_of_ble_eq_true rfl)) dX4_isLiteral_15 ⟨Nat.le_of_ble_eq_true rfl, Nat.le_of_ble_eq_true rfl⟩ hP hK hD hS hA hZ (fun H locs hP hD hS => ?_)
      refine lv_if_ne (tgt := 25) hx hb dX4_isLiteral_18 (by decide) (fun c_6 => ?_) (fun c_6 => ?_)
      · skip
        refine lv_iconst (v := 0) hx hb dX4_isLiteral_25 (by decide) ?_
        have e9 : p_m_isLiteral x0 = 0 := by rw [p_m_isLiteral, if_neg c_1, if_neg c_4, if_neg c_6]
        rw [e9]
        exact W.zret hx hb hr rfl (fun t ht hW => ⟨⟨_, (), rfl, rfl, by rw [ht]; exact hP, va_K.moved hW.alike hK, hD⟩, hS.F ht⟩) hS.2.2 dX4_isLiteral_26
      · skip
        refine lv_iconst (v := 1) hx hb dX4_isLiteral_21 (by decide) ?_
        refine lv_goto (tgt := 26) hx hb dX4_isLiteral_22 (by decide) ?_
        have e9 : p_m_isLiteral x0 = 1 := by rw [p_m_isLiteral, if_neg c_1, if_neg c_4, if_pos c_6]
        rw [e9]
        exact W.zret hx hb hr rfl (fun t ht hW => ⟨⟨_, (), rfl, rfl, by rw [ht]; exact hP, va_K.moved hW.alike hK, hD⟩, hS.F ht⟩) hS.2.2 dX4_isLiteral_26

def p_m_makeLength (x0 : Int32) : Int32 := (if x0 < 0 then (if (p_m_isLiteral x0) = 0 then 2 else 1) else (if x0 ≤ 255 then 1 else (if (p_m_isLiteral x0) = 0 then 2 else 1)))
def ok_m_makeLength (x0 : Int32) : Prop := ((x0 < 0 → (ok_m_isLiteral x0 ∧ True)) ∧ (¬ x0 < 0 → ((x0 ≤ 255 → True) ∧ (¬ x0 ≤ 255 → (ok_m_isLiteral x0 ∧ True)))))
set_option maxHeartbeats 4000000 in
set_option maxRecDepth 100000 in
theorem c_m_makeLength (l : Launch) (D : va_G) (am : Nat → Nat) (cI cZ : ClassId) (zz : (Nat → Prop) → State → Heap → Prop) (hzz : Zok zz) (w : va_W) (x0 : Int32) (hok : ok_m_makeLength x0) : tfI l D vwCl (tyT cI cZ) zz yX4_makeLength wsX4_makeLength ({ frames := 2, cells := 0, slots := 0, locals := 43 } : Room) [.int x0] w (p_m_makeLength x0) w := by
  intro sz
  unfold ok_m_makeLength at hok
  refine Met.ofW (cc := cX4_makeLength) (maxL := 1) (ret := (some .int)) (by decide) rfl ?_
  intro p e s m args below meth c s₁ B hml hv
  obtain ⟨rfl, hsz, hP, hK, hD0, hZ⟩ := hv
  have hx := B.exec
  have hb := B.bytes
  have hr := B.returns
  have hts := atoms_spec (ws := wsX4_makeLength) B.pre
  have hown : s.vm.findClass RX4 = some m.cls := findClass_of_methodNamed B.named
  have hlocks := B.notSynchronized
  subst hsz
  have hD := hD0.self (sz := s.heap.size)
  generalize hAe : va_A w s.heap.size = A at hD hZ ⊢
  have hA : ∀ q : Nat, s.heap.size ≤ q → A q := fun q h => by rw [← hAe]; exact Or.inr h
  have hS : va_S A s.heap s.heap [] := va_S.rf
  have Cx : cxt p s m ([.int x0] : List Value).toArray meth c cX4_makeLength 1 (some .int) wsX4_makeLength RX4 D vwCl (tyT cI cZ) zz A := ⟨hx, hb, hr, hts, hown, hlocks, hml, hK, hA, hZ⟩
  have hl := lv_entry ([.int x0]) (n := 1) (Nat.le_of_ble_eq_true rfl)
  rw [lg_entry_eq]
  generalize (lg_sl ([.int x0]) ++ List.replicate (1 - (lg_sl ([.int x0])).length) Slot.unset).toArray = ls at hl ⊢
  have hl : lv_has ls 1 [(0, .int x0)] := hl
  refine lv_iload_n hx hb dX4_makeLength_0 rfl (lv_at hl 0 rfl) ?_
  refine lv_if_lt (tgt := 11) hx hb dX4_makeLength_1 (by decide) (fun c_1 => ?_) (fun c_1 => ?_)
  · have hok := hok.1 c_1
    refine lv_iload_n hx hb dX4_makeLength_11 rfl (lv_at hl 0 rfl) ?_
    obtain ⟨h_2, hok⟩ := hok
    refine k_callSi (As := [.int x0]) (rest := []) hzz ⟨hx, hb, hml, hown, hts⟩ (c_m_isLiteral l D am cI cZ zz hzz w x0 h_2) (cwS 1 hts (tb_S tw_4_1 tw_4_2 tw_1_5 tw_4_3) rfl rfl rfl (by decide +kernel) ⟨Nat.le_of_ble_eq_true rfl, Nat.le_of_ble_eq_true rfl⟩) rfl hl.1 rfl (lv_room (Nat.le_of_ble_eq_true rfl)) dX4_makeLength_12 ⟨Nat.le_of_ble_eq_true rfl, Nat.le_of_ble_eq_true rfl⟩ hP hK hD hS hA hZ (fun H locs hP hD hS => ?_)
    refine lv_if_eq (tgt := 22) hx hb dX4_makeLength_15 (by decide) (fun c_3 => ?_) (fun c_3 => ?_)
    · skip
      refine lv_iconst (v := 2) hx hb dX4_makeLength_22 (by decide) ?_
      have e9 : p_m_makeLength x0 = 2 := by rw [p_m_makeLength, if_pos c_1, if_pos c_3]
      rw [e9]
      exact W.iret hx hb hr (fun t ht hW => ⟨⟨_, (), rfl, rfl, by rw [ht]; exact hP, va_K.moved hW.alike hK, hD⟩, hS.F ht⟩) hS.2.2 dX4_makeLength_23
    · skip
      refine lv_iconst (v := 1) hx hb dX4_makeLength_18 (by decide) ?_
      refine lv_goto (tgt := 23) hx hb dX4_makeLength_19 (by decide) ?_
      have e9 : p_m_makeLength x0 = 1 := by rw [p_m_makeLength, if_pos c_1, if_neg c_3]
      rw [e9]
      exact W.iret hx hb hr (fun t ht hW => ⟨⟨_, (), rfl, rfl, by rw [ht]; exact hP, va_K.moved hW.alike hK, hD⟩, hS.F ht⟩) hS.2.2 dX4_makeLength_23
  · have hok := hok.2 c_1
    refine lv_iload_n hx hb dX4_makeLength_4 rfl (lv_at hl 0 rfl) ?_
    refine lv_sipush (v := 255) hx hb dX4_makeLength_5 (by decide) ?_
    refine lv_icmp_le (tgt := 18) hx hb dX4_makeLength_8 (by decide) (fun c_4 => ?_) (fun c_4 => ?_)
    · have hok := hok.1 c_4
      refine lv_iconst (v := 1) hx hb dX4_makeLength_18 (by decide) ?_
      refine lv_goto (tgt := 23) hx hb dX4_makeLength_19 (by decide) ?_
      have e9 : p_m_makeLength x0 = 1 := by rw [p_m_makeLength, if_neg c_1, if_pos c_4]
      rw [e9]
      exact W.iret hx hb hr (fun t ht hW => ⟨⟨_, (), rfl, rfl, by rw [ht]; exact hP, va_K.moved hW.alike hK, hD⟩, hS.F ht⟩) hS.2.2 dX4_makeLength_23
    · have hok := hok.2 c_4
      refine lv_iload_n hx hb dX4_makeLength_11 rfl (lv_at hl 0 rfl) ?_
      obtain ⟨h_5, hok⟩ := hok
      refine k_callSi (As := [.int x0]) (rest := []) hzz ⟨hx, hb, hml, hown, hts⟩ (c_m_isLiteral l D am cI cZ zz hzz w x0 h_5) (cwS 1 hts (tb_S tw_4_1 tw_4_2 tw_1_5 tw_4_3) rfl rfl rfl (by decide +kernel) ⟨Nat.le_of_ble_eq_true rfl, Nat.le_of_ble_eq_true rfl⟩) rfl hl.1 rfl (lv_room (Nat.le_of_ble_eq_true rfl)) dX4_makeLength_12 ⟨Nat.le_of_ble_eq_true rfl, Nat.le_of_ble_eq_true rfl⟩ hP hK hD hS hA hZ (fun H locs hP hD hS => ?_)
      refine lv_if_eq (tgt := 22) hx hb dX4_makeLength_15 (by decide) (fun c_6 => ?_) (fun c_6 => ?_)
      · skip
        refine lv_iconst (v := 2) hx hb dX4_makeLength_22 (by decide) ?_
        have e9 : p_m_makeLength x0 = 2 := by rw [p_m_makeLength, if_neg c_1, if_neg c_4, if_pos c_6]
        rw [e9]
        exact W.iret hx hb hr (fun t ht hW => ⟨⟨_, (), rfl, rfl, by rw [ht]; exact hP, va_K.moved hW.alike hK, hD⟩, hS.F ht⟩) hS.2.2 dX4_makeLength_23
      · skip
        refine lv_iconst (v := 1) hx hb dX4_makeLength_18 (by decide) ?_
        refine lv_goto (tgt := 23) hx hb dX4_makeLength_19 (by decide) ?_
        have e9 : p_m_makeLength x0 = 1 := by rw [p_m_makeLength, if_neg c_1, if_neg c_4, if_neg c_6]
        rw [e9]
        exact W.iret hx hb hr (fun t ht hW => ⟨⟨_, (), rfl, rfl, by rw [ht]; exact hP, va_K.moved hW.alike hK, hD⟩, hS.F ht⟩) hS.2.2 dX4_makeLength_23

def p_m_target (x0 : Int32) : Int32 := (if 4 ≤ x0 then 0 else 4 + x0)
set_option maxHeartbeats 4000000 in
set_option maxRecDepth 100000 in
theorem c_m_target (l : Launch) (D : va_G) (am : Nat → Nat) (cI cZ : ClassId) (zz : (Nat → Prop) → State → Heap → Prop) (hzz : Zok zz) (w : va_W) (x0 : Int32) : tfI l D vwCl (tyT cI cZ) zz yX4_target wsX4_target ({ frames := 0, cells := 0, slots := 0, locals := 0 } : Room) [.int x0] w (p_m_target x0) w := by
  intro sz
  refine Met.ofW (cc := cX4_target) (maxL := 1) (ret := (some .int)) (by decide) rfl ?_
  intro p e s m args below meth c s₁ B hml hv
  obtain ⟨rfl, hsz, hP, hK, hD0, hZ⟩ := hv
  have hx := B.exec
  have hb := B.bytes
  have hr := B.returns
  have hts := atoms_spec (ws := wsX4_target) B.pre
  have hown : s.vm.findClass RX4 = some m.cls := findClass_of_methodNamed B.named
  have hlocks := B.notSynchronized
  subst hsz
  have hD := hD0.self (sz := s.heap.size)
  generalize hAe : va_A w s.heap.size = A at hD hZ ⊢
  have hA : ∀ q : Nat, s.heap.size ≤ q → A q := fun q h => by rw [← hAe]; exact Or.inr h
  have hS : va_S A s.heap s.heap [] := va_S.rf
  have Cx : cxt p s m ([.int x0] : List Value).toArray meth c cX4_target 1 (some .int) wsX4_target RX4 D vwCl (tyT cI cZ) zz A := ⟨hx, hb, hr, hts, hown, hlocks, hml, hK, hA, hZ⟩
  have hl := lv_entry ([.int x0]) (n := 1) (Nat.le_of_ble_eq_true rfl)
  rw [lg_entry_eq]
  generalize (lg_sl ([.int x0]) ++ List.replicate (1 - (lg_sl ([.int x0])).length) Slot.unset).toArray = ls at hl ⊢
  have hl : lv_has ls 1 [(0, .int x0)] := hl
  refine lv_iload_n hx hb dX4_target_0 rfl (lv_at hl 0 rfl) ?_
  refine lv_iconst (v := 4) hx hb dX4_target_1 (by decide) ?_
  refine lv_icmp_ge (tgt := 11) hx hb dX4_target_2 (by decide) (fun c_1 => ?_) (fun c_1 => ?_)
  · skip
    refine lv_iconst (v := 0) hx hb dX4_target_11 (by decide) ?_
    have e9 : p_m_target x0 = 0 := by rw [p_m_target, if_pos c_1]
    rw [e9]
    exact W.iret hx hb hr (fun t ht hW => ⟨⟨_, (), rfl, rfl, by rw [ht]; exact hP, va_K.moved hW.alike hK, hD⟩, hS.F ht⟩) hS.2.2 dX4_target_12
  · skip
    refine lv_iconst (v := 4) hx hb dX4_target_5 (by decide) ?_
    refine lv_iload_n hx hb dX4_target_6 rfl (lv_at hl 0 rfl) ?_
    refine lv_iadd hx hb dX4_target_7 ?_
    refine lv_goto (tgt := 12) hx hb dX4_target_8 (by decide) ?_
    have e9 : p_m_target x0 = 4 + x0 := by rw [p_m_target, if_neg c_1]
    rw [e9]
    exact W.iret hx hb hr (fun t ht hW => ⟨⟨_, (), rfl, rfl, by rw [ht]; exact hP, va_K.moved hW.alike hK, hD⟩, hS.F ht⟩) hS.2.2 dX4_target_12

def p_m_codeOf (x0 : Int32) : Int32 := (if x0 = 2 then 17216 else (if x0 = 3 then 16384 else (if x0 = 4 then 17152 else (if x0 = 5 then 16448 else (if x0 = 6 then 16512 else 16576)))))
set_option maxHeartbeats 4000000 in
set_option maxRecDepth 100000 in
theorem c_m_codeOf (l : Launch) (D : va_G) (am : Nat → Nat) (cI cZ : ClassId) (zz : (Nat → Prop) → State → Heap → Prop) (hzz : Zok zz) (w : va_W) (x0 : Int32) : tfI l D vwCl (tyT cI cZ) zz yX4_codeOf wsX4_codeOf ({ frames := 0, cells := 0, slots := 0, locals := 0 } : Room) [.int x0] w (p_m_codeOf x0) w := by
  intro sz
  refine Met.ofW (cc := cX4_codeOf) (maxL := 1) (ret := (some .int)) (by decide) rfl ?_
  intro p e s m args below meth c s₁ B hml hv
  obtain ⟨rfl, hsz, hP, hK, hD0, hZ⟩ := hv
  have hx := B.exec
  have hb := B.bytes
  have hr := B.returns
  have hts := atoms_spec (ws := wsX4_codeOf) B.pre
  have hown : s.vm.findClass RX4 = some m.cls := findClass_of_methodNamed B.named
  have hlocks := B.notSynchronized
  subst hsz
  have hD := hD0.self (sz := s.heap.size)
  generalize hAe : va_A w s.heap.size = A at hD hZ ⊢
  have hA : ∀ q : Nat, s.heap.size ≤ q → A q := fun q h => by rw [← hAe]; exact Or.inr h
  have hS : va_S A s.heap s.heap [] := va_S.rf
  have Cx : cxt p s m ([.int x0] : List Value).toArray meth c cX4_codeOf 1 (some .int) wsX4_codeOf RX4 D vwCl (tyT cI cZ) zz A := ⟨hx, hb, hr, hts, hown, hlocks, hml, hK, hA, hZ⟩
  have hl := lv_entry ([.int x0]) (n := 1) (Nat.le_of_ble_eq_true rfl)
  rw [lg_entry_eq]
  generalize (lg_sl ([.int x0]) ++ List.replicate (1 - (lg_sl ([.int x0])).length) Slot.unset).toArray = ls at hl ⊢
  have hl : lv_has ls 1 [(0, .int x0)] := hl
  refine lv_iload_n hx hb dX4_codeOf_0 rfl (lv_at hl 0 rfl) ?_
  rcases Classical.em (x0 = 2) with c_1 | c_1
  · skip
    refine lv_tableIn (tgt := 36) hx hb dX4_codeOf_1 (by rw [c_1]; decide) (by rw [c_1]; decide) (by rw [c_1]; rfl) (by decide) ?_
    refine lv_sipush (v := 17216) hx hb dX4_codeOf_36 (by decide) ?_
    have e9 : p_m_codeOf x0 = 17216 := by rw [p_m_codeOf, if_pos c_1]
    rw [e9]
    exact W.iret hx hb hr (fun t ht hW => ⟨⟨_, (), rfl, rfl, by rw [ht]; exact hP, va_K.moved hW.alike hK, hD⟩, hS.F ht⟩) hS.2.2 dX4_codeOf_39
  · skip
    rcases Classical.em (x0 = 3) with c_2 | c_2
    · skip
      refine lv_tableIn (tgt := 40) hx hb dX4_codeOf_1 (by rw [c_2]; decide) (by rw [c_2]; decide) (by rw [c_2]; rfl) (by decide) ?_
      refine lv_sipush (v := 16384) hx hb dX4_codeOf_40 (by decide) ?_
      have e9 : p_m_codeOf x0 = 16384 := by rw [p_m_codeOf, if_neg c_1, if_pos c_2]
      rw [e9]
      exact W.iret hx hb hr (fun t ht hW => ⟨⟨_, (), rfl, rfl, by rw [ht]; exact hP, va_K.moved hW.alike hK, hD⟩, hS.F ht⟩) hS.2.2 dX4_codeOf_43
    · skip
      rcases Classical.em (x0 = 4) with c_3 | c_3
      · skip
        refine lv_tableIn (tgt := 44) hx hb dX4_codeOf_1 (by rw [c_3]; decide) (by rw [c_3]; decide) (by rw [c_3]; rfl) (by decide) ?_
        refine lv_sipush (v := 17152) hx hb dX4_codeOf_44 (by decide) ?_
        have e9 : p_m_codeOf x0 = 17152 := by rw [p_m_codeOf, if_neg c_1, if_neg c_2, if_pos c_3]
        rw [e9]
        exact W.iret hx hb hr (fun t ht hW => ⟨⟨_, (), rfl, rfl, by rw [ht]; exact hP, va_K.moved hW.alike hK, hD⟩, hS.F ht⟩) hS.2.2 dX4_codeOf_47
      · skip
        rcases Classical.em (x0 = 5) with c_4 | c_4
        · skip
          refine lv_tableIn (tgt := 48) hx hb dX4_codeOf_1 (by rw [c_4]; decide) (by rw [c_4]; decide) (by rw [c_4]; rfl) (by decide) ?_
          refine lv_sipush (v := 16448) hx hb dX4_codeOf_48 (by decide) ?_
          have e9 : p_m_codeOf x0 = 16448 := by rw [p_m_codeOf, if_neg c_1, if_neg c_2, if_neg c_3, if_pos c_4]
          rw [e9]
          exact W.iret hx hb hr (fun t ht hW => ⟨⟨_, (), rfl, rfl, by rw [ht]; exact hP, va_K.moved hW.alike hK, hD⟩, hS.F ht⟩) hS.2.2 dX4_codeOf_51
        · skip
          rcases Classical.em (x0 = 6) with c_5 | c_5
          · skip
            refine lv_tableIn (tgt := 52) hx hb dX4_codeOf_1 (by rw [c_5]; decide) (by rw [c_5]; decide) (by rw [c_5]; rfl) (by decide) ?_
            refine lv_sipush (v := 16512) hx hb dX4_codeOf_52 (by decide) ?_
            have e9 : p_m_codeOf x0 = 16512 := by rw [p_m_codeOf, if_neg c_1, if_neg c_2, if_neg c_3, if_neg c_4, if_pos c_5]
            rw [e9]
            exact W.iret hx hb hr (fun t ht hW => ⟨⟨_, (), rfl, rfl, by rw [ht]; exact hP, va_K.moved hW.alike hK, hD⟩, hS.F ht⟩) hS.2.2 dX4_codeOf_55
          · skip
            have n_c_1 := lv_neT (k := 2) (a := 2) c_1 rfl
            have n_c_2 := lv_neT (k := 3) (a := 3) c_2 rfl
            have n_c_3 := lv_neT (k := 4) (a := 4) c_3 rfl
            have n_c_4 := lv_neT (k := 5) (a := 5) c_4 rfl
            have n_c_5 := lv_neT (k := 6) (a := 6) c_5 rfl
            refine lv_tableOut (tgt := 56) hx hb dX4_codeOf_1 (by omega) (by decide) ?_
            refine lv_sipush (v := 16576) hx hb dX4_codeOf_56 (by decide) ?_
            have e9 : p_m_codeOf x0 = 16576 := by rw [p_m_codeOf, if_neg c_1, if_neg c_2, if_neg c_3, if_neg c_4, if_neg c_5]
            rw [e9]
            exact W.iret hx hb hr (fun t ht hW => ⟨⟨_, (), rfl, rfl, by rw [ht]; exact hP, va_K.moved hW.alike hK, hD⟩, hS.F ht⟩) hS.2.2 dX4_codeOf_59

def p_m_computed (x0 x1 x2 : Int32) : Int32 := (if x0 = 0 then x1 + x2 else (if x0 = 1 then x1 - x2 else (if x0 = 2 then x1 * x2 else (if x0 = 3 then x1 &&& x2 else (if x0 = 4 then x1 ||| x2 else (if x0 = 5 then x1 ^^^ x2 else (if x0 = 6 then (if (x2 &&& 255) ≤ 31 then x1 <<< ((x2 &&& 255) &&& 31) else 0) else (if (x2 &&& 255) ≤ 31 then ush x1 (x2 &&& 255) else 0))))))))
set_option maxHeartbeats 4000000 in
set_option maxRecDepth 100000 in
theorem c_m_computed (l : Launch) (D : va_G) (am : Nat → Nat) (cI cZ : ClassId) (zz : (Nat → Prop) → State → Heap → Prop) (hzz : Zok zz) (w : va_W) (x0 x1 x2 : Int32) : tfI l D vwCl (tyT cI cZ) zz yX4_computed wsX4_computed ({ frames := 0, cells := 0, slots := 0, locals := 0 } : Room) [.int x0, .int x1, .int x2] w (p_m_computed x0 x1 x2) w := by
  intro sz
  refine Met.ofW (cc := cX4_computed) (maxL := 4) (ret := (some .int)) (by decide) rfl ?_
  intro p e s m args below meth c s₁ B hml hv
  obtain ⟨rfl, hsz, hP, hK, hD0, hZ⟩ := hv
  have hx := B.exec
  have hb := B.bytes
  have hr := B.returns
  have hts := atoms_spec (ws := wsX4_computed) B.pre
  have hown : s.vm.findClass RX4 = some m.cls := findClass_of_methodNamed B.named
  have hlocks := B.notSynchronized
  subst hsz
  have hD := hD0.self (sz := s.heap.size)
  generalize hAe : va_A w s.heap.size = A at hD hZ ⊢
  have hA : ∀ q : Nat, s.heap.size ≤ q → A q := fun q h => by rw [← hAe]; exact Or.inr h
  have hS : va_S A s.heap s.heap [] := va_S.rf
  have Cx : cxt p s m ([.int x0, .int x1, .int x2] : List Value).toArray meth c cX4_computed 4 (some .int) wsX4_computed RX4 D vwCl (tyT cI cZ) zz A := ⟨hx, hb, hr, hts, hown, hlocks, hml, hK, hA, hZ⟩
  have hl := lv_entry ([.int x0, .int x1, .int x2]) (n := 4) (Nat.le_of_ble_eq_true rfl)
  rw [lg_entry_eq]
  generalize (lg_sl ([.int x0, .int x1, .int x2]) ++ List.replicate (4 - (lg_sl ([.int x0, .int x1, .int x2])).length) Slot.unset).toArray = ls at hl ⊢
  have hl : lv_has ls 4 [(0, .int x0), (1, .int x1), (2, .int x2)] := hl
  refine lv_iload_n hx hb dX4_computed_0 rfl (lv_at hl 2 rfl) ?_
  refine lv_sipush (v := 255) hx hb dX4_computed_1 (by decide) ?_
  refine lv_iand hx hb dX4_computed_4 ?_
  refine lv_istore_n (lv' := [(3, .int (x2 &&& 255)), (0, .int x0), (1, .int x1), (2, .int x2)]) hx hb dX4_computed_5 rfl hl (by decide) rfl (fun ls hl => ?_)
  refine lv_iload_n hx hb dX4_computed_6 rfl (lv_at hl 1 rfl) ?_
  rcases Classical.em (x0 = 0) with c_1 | c_1
  · skip
    refine lv_tableIn (tgt := 48) hx hb dX4_computed_7 (by rw [c_1]; decide) (by rw [c_1]; decide) (by rw [c_1]; rfl) (by decide) ?_
    refine lv_iload_n hx hb dX4_computed_48 rfl (lv_at hl 2 rfl) ?_
    refine lv_iload_n hx hb dX4_computed_49 rfl (lv_at hl 3 rfl) ?_
    refine lv_iadd hx hb dX4_computed_50 ?_
    have e9 : p_m_computed x0 x1 x2 = x1 + x2 := by rw [p_m_computed, if_pos c_1]
    rw [e9]
    exact W.iret hx hb hr (fun t ht hW => ⟨⟨_, (), rfl, rfl, by rw [ht]; exact hP, va_K.moved hW.alike hK, hD⟩, hS.F ht⟩) hS.2.2 dX4_computed_51
  · skip
    rcases Classical.em (x0 = 1) with c_2 | c_2
    · skip
      refine lv_tableIn (tgt := 52) hx hb dX4_computed_7 (by rw [c_2]; decide) (by rw [c_2]; decide) (by rw [c_2]; rfl) (by decide) ?_
      refine lv_iload_n hx hb dX4_computed_52 rfl (lv_at hl 2 rfl) ?_
      refine lv_iload_n hx hb dX4_computed_53 rfl (lv_at hl 3 rfl) ?_
      refine lv_isub hx hb dX4_computed_54 ?_
      have e9 : p_m_computed x0 x1 x2 = x1 - x2 := by rw [p_m_computed, if_neg c_1, if_pos c_2]
      rw [e9]
      exact W.iret hx hb hr (fun t ht hW => ⟨⟨_, (), rfl, rfl, by rw [ht]; exact hP, va_K.moved hW.alike hK, hD⟩, hS.F ht⟩) hS.2.2 dX4_computed_55
    · skip
      rcases Classical.em (x0 = 2) with c_3 | c_3
      · skip
        refine lv_tableIn (tgt := 56) hx hb dX4_computed_7 (by rw [c_3]; decide) (by rw [c_3]; decide) (by rw [c_3]; rfl) (by decide) ?_
        refine lv_iload_n hx hb dX4_computed_56 rfl (lv_at hl 2 rfl) ?_
        refine lv_iload_n hx hb dX4_computed_57 rfl (lv_at hl 3 rfl) ?_
        refine lv_imul hx hb dX4_computed_58 ?_
        have e9 : p_m_computed x0 x1 x2 = x1 * x2 := by rw [p_m_computed, if_neg c_1, if_neg c_2, if_pos c_3]
        rw [e9]
        exact W.iret hx hb hr (fun t ht hW => ⟨⟨_, (), rfl, rfl, by rw [ht]; exact hP, va_K.moved hW.alike hK, hD⟩, hS.F ht⟩) hS.2.2 dX4_computed_59
      · skip
        rcases Classical.em (x0 = 3) with c_4 | c_4
        · skip
          refine lv_tableIn (tgt := 60) hx hb dX4_computed_7 (by rw [c_4]; decide) (by rw [c_4]; decide) (by rw [c_4]; rfl) (by decide) ?_
          refine lv_iload_n hx hb dX4_computed_60 rfl (lv_at hl 2 rfl) ?_
          refine lv_iload_n hx hb dX4_computed_61 rfl (lv_at hl 3 rfl) ?_
          refine lv_iand hx hb dX4_computed_62 ?_
          have e9 : p_m_computed x0 x1 x2 = x1 &&& x2 := by rw [p_m_computed, if_neg c_1, if_neg c_2, if_neg c_3, if_pos c_4]
          rw [e9]
          exact W.iret hx hb hr (fun t ht hW => ⟨⟨_, (), rfl, rfl, by rw [ht]; exact hP, va_K.moved hW.alike hK, hD⟩, hS.F ht⟩) hS.2.2 dX4_computed_63
        · skip
          rcases Classical.em (x0 = 4) with c_5 | c_5
          · skip
            refine lv_tableIn (tgt := 64) hx hb dX4_computed_7 (by rw [c_5]; decide) (by rw [c_5]; decide) (by rw [c_5]; rfl) (by decide) ?_
            refine lv_iload_n hx hb dX4_computed_64 rfl (lv_at hl 2 rfl) ?_
            refine lv_iload_n hx hb dX4_computed_65 rfl (lv_at hl 3 rfl) ?_
            refine lv_ior hx hb dX4_computed_66 ?_
            have e9 : p_m_computed x0 x1 x2 = x1 ||| x2 := by rw [p_m_computed, if_neg c_1, if_neg c_2, if_neg c_3, if_neg c_4, if_pos c_5]
            rw [e9]
            exact W.iret hx hb hr (fun t ht hW => ⟨⟨_, (), rfl, rfl, by rw [ht]; exact hP, va_K.moved hW.alike hK, hD⟩, hS.F ht⟩) hS.2.2 dX4_computed_67
          · skip
            rcases Classical.em (x0 = 5) with c_6 | c_6
            · skip
              refine lv_tableIn (tgt := 68) hx hb dX4_computed_7 (by rw [c_6]; decide) (by rw [c_6]; decide) (by rw [c_6]; rfl) (by decide) ?_
              refine lv_iload_n hx hb dX4_computed_68 rfl (lv_at hl 2 rfl) ?_
              refine lv_iload_n hx hb dX4_computed_69 rfl (lv_at hl 3 rfl) ?_
              refine lv_ixor hx hb dX4_computed_70 ?_
              have e9 : p_m_computed x0 x1 x2 = x1 ^^^ x2 := by rw [p_m_computed, if_neg c_1, if_neg c_2, if_neg c_3, if_neg c_4, if_neg c_5, if_pos c_6]
              rw [e9]
              exact W.iret hx hb hr (fun t ht hW => ⟨⟨_, (), rfl, rfl, by rw [ht]; exact hP, va_K.moved hW.alike hK, hD⟩, hS.F ht⟩) hS.2.2 dX4_computed_71
            · skip
              rcases Classical.em (x0 = 6) with c_7 | c_7
              · skip
                refine lv_tableIn (tgt := 72) hx hb dX4_computed_7 (by rw [c_7]; decide) (by rw [c_7]; decide) (by rw [c_7]; rfl) (by decide) ?_
                refine lv_iload_n hx hb dX4_computed_72 rfl (lv_at hl 0 rfl) ?_
                refine lv_bipush (v := 31) hx hb dX4_computed_73 (by decide) ?_
                refine lv_icmp_le (tgt := 82) hx hb dX4_computed_75 (by decide) (fun c_8 => ?_) (fun c_8 => ?_)
                · skip
                  refine lv_iload_n hx hb dX4_computed_82 rfl (lv_at hl 2 rfl) ?_
                  refine lv_iload_n hx hb dX4_computed_83 rfl (lv_at hl 0 rfl) ?_
                  refine lv_ishl hx hb dX4_computed_84 ?_
                  have e9 : p_m_computed x0 x1 x2 = x1 <<< ((x2 &&& 255) &&& 31) := by rw [p_m_computed, if_neg c_1, if_neg c_2, if_neg c_3, if_neg c_4, if_neg c_5, if_neg c_6, if_pos c_7, if_pos c_8]
                  rw [e9]
                  exact W.iret hx hb hr (fun t ht hW => ⟨⟨_, (), rfl, rfl, by rw [ht]; exact hP, va_K.moved hW.alike hK, hD⟩, hS.F ht⟩) hS.2.2 dX4_computed_85
                · skip
                  refine lv_iconst (v := 0) hx hb dX4_computed_78 (by decide) ?_
                  refine lv_goto (tgt := 85) hx hb dX4_computed_79 (by decide) ?_
                  have e9 : p_m_computed x0 x1 x2 = 0 := by rw [p_m_computed, if_neg c_1, if_neg c_2, if_neg c_3, if_neg c_4, if_neg c_5, if_neg c_6, if_pos c_7, if_neg c_8]
                  rw [e9]
                  exact W.iret hx hb hr (fun t ht hW => ⟨⟨_, (), rfl, rfl, by rw [ht]; exact hP, va_K.moved hW.alike hK, hD⟩, hS.F ht⟩) hS.2.2 dX4_computed_85
              · skip
                have n_c_1 := lv_neT (k := 0) (a := 0) c_1 rfl
                have n_c_2 := lv_neT (k := 1) (a := 1) c_2 rfl
                have n_c_3 := lv_neT (k := 2) (a := 2) c_3 rfl
                have n_c_4 := lv_neT (k := 3) (a := 3) c_4 rfl
                have n_c_5 := lv_neT (k := 4) (a := 4) c_5 rfl
                have n_c_6 := lv_neT (k := 5) (a := 5) c_6 rfl
                have n_c_7 := lv_neT (k := 6) (a := 6) c_7 rfl
                refine lv_tableOut (tgt := 86) hx hb dX4_computed_7 (by omega) (by decide) ?_
                refine lv_iload_n hx hb dX4_computed_86 rfl (lv_at hl 0 rfl) ?_
                refine lv_bipush (v := 31) hx hb dX4_computed_87 (by decide) ?_
                refine lv_icmp_le (tgt := 96) hx hb dX4_computed_89 (by decide) (fun c_9 => ?_) (fun c_9 => ?_)
                · skip
                  refine lv_iload_n hx hb dX4_computed_96 rfl (lv_at hl 2 rfl) ?_
                  refine lv_iload_n hx hb dX4_computed_97 rfl (lv_at hl 0 rfl) ?_
                  refine lv_iushr (v := ush x1 (x2 &&& 255)) hx hb dX4_computed_98 rfl ?_
                  have e9 : p_m_computed x0 x1 x2 = ush x1 (x2 &&& 255) := by rw [p_m_computed, if_neg c_1, if_neg c_2, if_neg c_3, if_neg c_4, if_neg c_5, if_neg c_6, if_neg c_7, if_pos c_9]
                  rw [e9]
                  exact W.iret hx hb hr (fun t ht hW => ⟨⟨_, (), rfl, rfl, by rw [ht]; exact hP, va_K.moved hW.alike hK, hD⟩, hS.F ht⟩) hS.2.2 dX4_computed_99
                · skip
                  refine lv_iconst (v := 0) hx hb dX4_computed_92 (by decide) ?_
                  refine lv_goto (tgt := 99) hx hb dX4_computed_93 (by decide) ?_
                  have e9 : p_m_computed x0 x1 x2 = 0 := by rw [p_m_computed, if_neg c_1, if_neg c_2, if_neg c_3, if_neg c_4, if_neg c_5, if_neg c_6, if_neg c_7, if_neg c_9]
                  rw [e9]
                  exact W.iret hx hb hr (fun t ht hW => ⟨⟨_, (), rfl, rfl, by rw [ht]; exact hP, va_K.moved hW.alike hK, hD⟩, hS.F ht⟩) hS.2.2 dX4_computed_99

def p_m_holds (x0 x1 x2 : Int32) : Int32 := (if x0 = 0 then (if x1 = x2 then 1 else 0) else (if x0 = 1 then (if x1 = x2 then 0 else 1) else (if x0 = 2 then (if (lg_cmp ((Int32.toInt64 x1) &&& ((4294967295 : Int64))) ((Int32.toInt64 x2) &&& ((4294967295 : Int64)))) < 0 then 0 else 1) else (if x0 = 3 then (if 0 ≤ (lg_cmp ((Int32.toInt64 x1) &&& ((4294967295 : Int64))) ((Int32.toInt64 x2) &&& ((4294967295 : Int64)))) then 0 else 1) else (if x0 = 8 then (if (lg_cmp ((Int32.toInt64 x1) &&& ((4294967295 : Int64))) ((Int32.toInt64 x2) &&& ((4294967295 : Int64)))) ≤ 0 then 0 else 1) else (if x0 = 9 then (if 0 < (lg_cmp ((Int32.toInt64 x1) &&& ((4294967295 : Int64))) ((Int32.toInt64 x2) &&& ((4294967295 : Int64)))) then 0 else 1) else (if x0 = 10 then (if x1 < x2 then 0 else 1) else (if x0 = 11 then (if x2 ≤ x1 then 0 else 1) else (if x0 = 12 then (if x1 ≤ x2 then 0 else 1) else (if x2 < x1 then 0 else 1))))))))))
set_option maxHeartbeats 4000000 in
set_option maxRecDepth 100000 in
theorem c_m_holds (l : Launch) (D : va_G) (am : Nat → Nat) (cI cZ : ClassId) (zz : (Nat → Prop) → State → Heap → Prop) (hzz : Zok zz) (w : va_W) (x0 x1 x2 : Int32) : tfI l D vwCl (tyT cI cZ) zz yX4_holds wsX4_holds ({ frames := 0, cells := 0, slots := 0, locals := 0 } : Room) [.int x0, .int x1, .int x2] w (p_m_holds x0 x1 x2) w := by
  intro sz
  refine Met.ofW (cc := cX4_holds) (maxL := 7) (ret := (some .boolean)) (by decide) rfl ?_
  intro p e s m args below meth c s₁ B hml hv
  obtain ⟨rfl, hsz, hP, hK, hD0, hZ⟩ := hv
  have hx := B.exec
  have hb := B.bytes
  have hr := B.returns
  have hts := atoms_spec (ws := wsX4_holds) B.pre
  have hown : s.vm.findClass RX4 = some m.cls := findClass_of_methodNamed B.named
  have hlocks := B.notSynchronized
  subst hsz
  have hD := hD0.self (sz := s.heap.size)
  generalize hAe : va_A w s.heap.size = A at hD hZ ⊢
  have hA : ∀ q : Nat, s.heap.size ≤ q → A q := fun q h => by rw [← hAe]; exact Or.inr h
  have hS : va_S A s.heap s.heap [] := va_S.rf
  have Cx : cxt p s m ([.int x0, .int x1, .int x2] : List Value).toArray meth c cX4_holds 7 (some .boolean) wsX4_holds RX4 D vwCl (tyT cI cZ) zz A := ⟨hx, hb, hr, hts, hown, hlocks, hml, hK, hA, hZ⟩
  have hl := lv_entry ([.int x0, .int x1, .int x2]) (n := 7) (Nat.le_of_ble_eq_true rfl)
  rw [lg_entry_eq]
  generalize (lg_sl ([.int x0, .int x1, .int x2]) ++ List.replicate (7 - (lg_sl ([.int x0, .int x1, .int x2])).length) Slot.unset).toArray = ls at hl ⊢
  have hl : lv_has ls 7 [(0, .int x0), (1, .int x1), (2, .int x2)] := hl
  refine lv_iload_n hx hb dX4_holds_0 rfl (lv_at hl 1 rfl) ?_
  refine lv_i2l (v := Int32.toInt64 x1) hx hb dX4_holds_1 rfl ?_
  refine lv_ldc2 (v := 4294967295) hx hb hown (hts _ (tb_c tw_4_107)) dX4_holds_2 ?_
  refine lv_land hx hb dX4_holds_5 ?_
  refine lv_lstore_n (lv' := [(3, .long ((Int32.toInt64 x1) &&& ((4294967295 : Int64)))), (0, .int x0), (1, .int x1), (2, .int x2)]) hx hb dX4_holds_6 rfl hl (by decide) rfl (fun ls hl => ?_)
  refine lv_iload_n hx hb dX4_holds_7 rfl (lv_at hl 3 rfl) ?_
  refine lv_i2l (v := Int32.toInt64 x2) hx hb dX4_holds_8 rfl ?_
  refine lv_ldc2 (v := 4294967295) hx hb hown (hts _ (tb_c tw_4_107)) dX4_holds_9 ?_
  refine lv_land hx hb dX4_holds_12 ?_
  refine lv_lstore (lv' := [(5, .long ((Int32.toInt64 x2) &&& ((4294967295 : Int64)))), (3, .long ((Int32.toInt64 x1) &&& ((4294967295 : Int64)))), (0, .int x0), (1, .int x1), (2, .int x2)]) hx hb dX4_holds_13 hl (by decide) rfl (fun ls hl => ?_)
  refine lv_iload_n hx hb dX4_holds_15 rfl (lv_at hl 2 rfl) ?_
  rcases Classical.em (x0 = 0) with c_1 | c_1
  · skip
    refine lv_tableIn (tgt := 84) hx hb dX4_holds_16 (by rw [c_1]; decide) (by rw [c_1]; decide) (by rw [c_1]; rfl) (by decide) ?_
    refine lv_iload_n hx hb dX4_holds_84 rfl (lv_at hl 3 rfl) ?_
    refine lv_iload_n hx hb dX4_holds_85 rfl (lv_at hl 4 rfl) ?_
    refine lv_icmp_ne (tgt := 93) hx hb dX4_holds_86 (by decide) (fun c_2 => ?_) (fun c_2 => ?_)
    · skip
      refine lv_iconst (v := 0) hx hb dX4_holds_93 (by decide) ?_
      have e9 : p_m_holds x0 x1 x2 = 0 := by rw [p_m_holds, if_pos c_1, if_neg c_2]
      rw [e9]
      exact W.zret hx hb hr rfl (fun t ht hW => ⟨⟨_, (), rfl, rfl, by rw [ht]; exact hP, va_K.moved hW.alike hK, hD⟩, hS.F ht⟩) hS.2.2 dX4_holds_94
    · skip
      refine lv_iconst (v := 1) hx hb dX4_holds_89 (by decide) ?_
      refine lv_goto (tgt := 94) hx hb dX4_holds_90 (by decide) ?_
      have e9 : p_m_holds x0 x1 x2 = 1 := by rw [p_m_holds, if_pos c_1, if_pos c_2]
      rw [e9]
      exact W.zret hx hb hr rfl (fun t ht hW => ⟨⟨_, (), rfl, rfl, by rw [ht]; exact hP, va_K.moved hW.alike hK, hD⟩, hS.F ht⟩) hS.2.2 dX4_holds_94
  · skip
    rcases Classical.em (x0 = 1) with c_3 | c_3
    · skip
      refine lv_tableIn (tgt := 95) hx hb dX4_holds_16 (by rw [c_3]; decide) (by rw [c_3]; decide) (by rw [c_3]; rfl) (by decide) ?_
      refine lv_iload_n hx hb dX4_holds_95 rfl (lv_at hl 3 rfl) ?_
      refine lv_iload_n hx hb dX4_holds_96 rfl (lv_at hl 4 rfl) ?_
      refine lv_icmp_eq (tgt := 104) hx hb dX4_holds_97 (by decide) (fun c_4 => ?_) (fun c_4 => ?_)
      · skip
        refine lv_iconst (v := 0) hx hb dX4_holds_104 (by decide) ?_
        have e9 : p_m_holds x0 x1 x2 = 0 := by rw [p_m_holds, if_neg c_1, if_pos c_3, if_pos c_4]
        rw [e9]
        exact W.zret hx hb hr rfl (fun t ht hW => ⟨⟨_, (), rfl, rfl, by rw [ht]; exact hP, va_K.moved hW.alike hK, hD⟩, hS.F ht⟩) hS.2.2 dX4_holds_105
      · skip
        refine lv_iconst (v := 1) hx hb dX4_holds_100 (by decide) ?_
        refine lv_goto (tgt := 105) hx hb dX4_holds_101 (by decide) ?_
        have e9 : p_m_holds x0 x1 x2 = 1 := by rw [p_m_holds, if_neg c_1, if_pos c_3, if_neg c_4]
        rw [e9]
        exact W.zret hx hb hr rfl (fun t ht hW => ⟨⟨_, (), rfl, rfl, by rw [ht]; exact hP, va_K.moved hW.alike hK, hD⟩, hS.F ht⟩) hS.2.2 dX4_holds_105
    · skip
      rcases Classical.em (x0 = 2) with c_5 | c_5
      · skip
        refine lv_tableIn (tgt := 106) hx hb dX4_holds_16 (by rw [c_5]; decide) (by rw [c_5]; decide) (by rw [c_5]; rfl) (by decide) ?_
        refine lv_lload_n hx hb dX4_holds_106 rfl (lv_at hl 1 rfl) ?_
        refine lv_lload hx hb dX4_holds_107 (lv_at hl 0 rfl) ?_
        refine W.lcmp hx hb dX4_holds_109 ?_
        refine lv_if_lt (tgt := 117) hx hb dX4_holds_110 (by decide) (fun c_6 => ?_) (fun c_6 => ?_)
        · skip
          refine lv_iconst (v := 0) hx hb dX4_holds_117 (by decide) ?_
          have e9 : p_m_holds x0 x1 x2 = 0 := by rw [p_m_holds, if_neg c_1, if_neg c_3, if_pos c_5, if_pos c_6]
          rw [e9]
          exact W.zret hx hb hr rfl (fun t ht hW => ⟨⟨_, (), rfl, rfl, by rw [ht]; exact hP, va_K.moved hW.alike hK, hD⟩, hS.F ht⟩) hS.2.2 dX4_holds_118
        · skip
          refine lv_iconst (v := 1) hx hb dX4_holds_113 (by decide) ?_
          refine lv_goto (tgt := 118) hx hb dX4_holds_114 (by decide) ?_
          have e9 : p_m_holds x0 x1 x2 = 1 := by rw [p_m_holds, if_neg c_1, if_neg c_3, if_pos c_5, if_neg c_6]
          rw [e9]
          exact W.zret hx hb hr rfl (fun t ht hW => ⟨⟨_, (), rfl, rfl, by rw [ht]; exact hP, va_K.moved hW.alike hK, hD⟩, hS.F ht⟩) hS.2.2 dX4_holds_118
      · skip
        rcases Classical.em (x0 = 3) with c_7 | c_7
        · skip
          refine lv_tableIn (tgt := 119) hx hb dX4_holds_16 (by rw [c_7]; decide) (by rw [c_7]; decide) (by rw [c_7]; rfl) (by decide) ?_
          refine lv_lload_n hx hb dX4_holds_119 rfl (lv_at hl 1 rfl) ?_
          refine lv_lload hx hb dX4_holds_120 (lv_at hl 0 rfl) ?_
          refine W.lcmp hx hb dX4_holds_122 ?_
          refine lv_if_ge (tgt := 130) hx hb dX4_holds_123 (by decide) (fun c_8 => ?_) (fun c_8 => ?_)
          · skip
            refine lv_iconst (v := 0) hx hb dX4_holds_130 (by decide) ?_
            have e9 : p_m_holds x0 x1 x2 = 0 := by rw [p_m_holds, if_neg c_1, if_neg c_3, if_neg c_5, if_pos c_7, if_pos c_8]
            rw [e9]
            exact W.zret hx hb hr rfl (fun t ht hW => ⟨⟨_, (), rfl, rfl, by rw [ht]; exact hP, va_K.moved hW.alike hK, hD⟩, hS.F ht⟩) hS.2.2 dX4_holds_131
          · skip
            refine lv_iconst (v := 1) hx hb dX4_holds_126 (by decide) ?_
            refine lv_goto (tgt := 131) hx hb dX4_holds_127 (by decide) ?_
            have e9 : p_m_holds x0 x1 x2 = 1 := by rw [p_m_holds, if_neg c_1, if_neg c_3, if_neg c_5, if_pos c_7, if_neg c_8]
            rw [e9]
            exact W.zret hx hb hr rfl (fun t ht hW => ⟨⟨_, (), rfl, rfl, by rw [ht]; exact hP, va_K.moved hW.alike hK, hD⟩, hS.F ht⟩) hS.2.2 dX4_holds_131
        · skip
          rcases Classical.em (x0 = 8) with c_9 | c_9
          · skip
            refine lv_tableIn (tgt := 132) hx hb dX4_holds_16 (by rw [c_9]; decide) (by rw [c_9]; decide) (by rw [c_9]; rfl) (by decide) ?_
            refine lv_lload_n hx hb dX4_holds_132 rfl (lv_at hl 1 rfl) ?_
            refine lv_lload hx hb dX4_holds_133 (lv_at hl 0 rfl) ?_
            refine W.lcmp hx hb dX4_holds_135 ?_
            refine lv_if_le (tgt := 143) hx hb dX4_holds_136 (by decide) (fun c_10 => ?_) (fun c_10 => ?_)
            · skip
              refine lv_iconst (v := 0) hx hb dX4_holds_143 (by decide) ?_
              have e9 : p_m_holds x0 x1 x2 = 0 := by rw [p_m_holds, if_neg c_1, if_neg c_3, if_neg c_5, if_neg c_7, if_pos c_9, if_pos c_10]
              rw [e9]
              exact W.zret hx hb hr rfl (fun t ht hW => ⟨⟨_, (), rfl, rfl, by rw [ht]; exact hP, va_K.moved hW.alike hK, hD⟩, hS.F ht⟩) hS.2.2 dX4_holds_144
            · skip
              refine lv_iconst (v := 1) hx hb dX4_holds_139 (by decide) ?_
              refine lv_goto (tgt := 144) hx hb dX4_holds_140 (by decide) ?_
              have e9 : p_m_holds x0 x1 x2 = 1 := by rw [p_m_holds, if_neg c_1, if_neg c_3, if_neg c_5, if_neg c_7, if_pos c_9, if_neg c_10]
              rw [e9]
              exact W.zret hx hb hr rfl (fun t ht hW => ⟨⟨_, (), rfl, rfl, by rw [ht]; exact hP, va_K.moved hW.alike hK, hD⟩, hS.F ht⟩) hS.2.2 dX4_holds_144
          · skip
            rcases Classical.em (x0 = 9) with c_11 | c_11
            · skip
              refine lv_tableIn (tgt := 145) hx hb dX4_holds_16 (by rw [c_11]; decide) (by rw [c_11]; decide) (by rw [c_11]; rfl) (by decide) ?_
              refine lv_lload_n hx hb dX4_holds_145 rfl (lv_at hl 1 rfl) ?_
              refine lv_lload hx hb dX4_holds_146 (lv_at hl 0 rfl) ?_
              refine W.lcmp hx hb dX4_holds_148 ?_
              refine lv_if_gt (tgt := 156) hx hb dX4_holds_149 (by decide) (fun c_12 => ?_) (fun c_12 => ?_)
              · skip
                refine lv_iconst (v := 0) hx hb dX4_holds_156 (by decide) ?_
                have e9 : p_m_holds x0 x1 x2 = 0 := by rw [p_m_holds, if_neg c_1, if_neg c_3, if_neg c_5, if_neg c_7, if_neg c_9, if_pos c_11, if_pos c_12]
                rw [e9]
                exact W.zret hx hb hr rfl (fun t ht hW => ⟨⟨_, (), rfl, rfl, by rw [ht]; exact hP, va_K.moved hW.alike hK, hD⟩, hS.F ht⟩) hS.2.2 dX4_holds_157
              · skip
                refine lv_iconst (v := 1) hx hb dX4_holds_152 (by decide) ?_
                refine lv_goto (tgt := 157) hx hb dX4_holds_153 (by decide) ?_
                have e9 : p_m_holds x0 x1 x2 = 1 := by rw [p_m_holds, if_neg c_1, if_neg c_3, if_neg c_5, if_neg c_7, if_neg c_9, if_pos c_11, if_neg c_12]
                rw [e9]
                exact W.zret hx hb hr rfl (fun t ht hW => ⟨⟨_, (), rfl, rfl, by rw [ht]; exact hP, va_K.moved hW.alike hK, hD⟩, hS.F ht⟩) hS.2.2 dX4_holds_157
            · skip
              rcases Classical.em (x0 = 10) with c_13 | c_13
              · skip
                refine lv_tableIn (tgt := 158) hx hb dX4_holds_16 (by rw [c_13]; decide) (by rw [c_13]; decide) (by rw [c_13]; rfl) (by decide) ?_
                refine lv_iload_n hx hb dX4_holds_158 rfl (lv_at hl 3 rfl) ?_
                refine lv_iload_n hx hb dX4_holds_159 rfl (lv_at hl 4 rfl) ?_
                refine lv_icmp_lt (tgt := 167) hx hb dX4_holds_160 (by decide) (fun c_14 => ?_) (fun c_14 => ?_)
                · skip
                  refine lv_iconst (v := 0) hx hb dX4_holds_167 (by decide) ?_
                  have e9 : p_m_holds x0 x1 x2 = 0 := by rw [p_m_holds, if_neg c_1, if_neg c_3, if_neg c_5, if_neg c_7, if_neg c_9, if_neg c_11, if_pos c_13, if_pos c_14]
                  rw [e9]
                  exact W.zret hx hb hr rfl (fun t ht hW => ⟨⟨_, (), rfl, rfl, by rw [ht]; exact hP, va_K.moved hW.alike hK, hD⟩, hS.F ht⟩) hS.2.2 dX4_holds_168
                · skip
                  refine lv_iconst (v := 1) hx hb dX4_holds_163 (by decide) ?_
                  refine lv_goto (tgt := 168) hx hb dX4_holds_164 (by decide) ?_
                  have e9 : p_m_holds x0 x1 x2 = 1 := by rw [p_m_holds, if_neg c_1, if_neg c_3, if_neg c_5, if_neg c_7, if_neg c_9, if_neg c_11, if_pos c_13, if_neg c_14]
                  rw [e9]
                  exact W.zret hx hb hr rfl (fun t ht hW => ⟨⟨_, (), rfl, rfl, by rw [ht]; exact hP, va_K.moved hW.alike hK, hD⟩, hS.F ht⟩) hS.2.2 dX4_holds_168
              · skip
                rcases Classical.em (x0 = 11) with c_15 | c_15
                · skip
                  refine lv_tableIn (tgt := 169) hx hb dX4_holds_16 (by rw [c_15]; decide) (by rw [c_15]; decide) (by rw [c_15]; rfl) (by decide) ?_
                  refine lv_iload_n hx hb dX4_holds_169 rfl (lv_at hl 3 rfl) ?_
                  refine lv_iload_n hx hb dX4_holds_170 rfl (lv_at hl 4 rfl) ?_
                  refine lv_icmp_ge (tgt := 178) hx hb dX4_holds_171 (by decide) (fun c_16 => ?_) (fun c_16 => ?_)
                  · skip
                    refine lv_iconst (v := 0) hx hb dX4_holds_178 (by decide) ?_
                    have e9 : p_m_holds x0 x1 x2 = 0 := by rw [p_m_holds, if_neg c_1, if_neg c_3, if_neg c_5, if_neg c_7, if_neg c_9, if_neg c_11, if_neg c_13, if_pos c_15, if_pos c_16]
                    rw [e9]
                    exact W.zret hx hb hr rfl (fun t ht hW => ⟨⟨_, (), rfl, rfl, by rw [ht]; exact hP, va_K.moved hW.alike hK, hD⟩, hS.F ht⟩) hS.2.2 dX4_holds_179
                  · skip
                    refine lv_iconst (v := 1) hx hb dX4_holds_174 (by decide) ?_
                    refine lv_goto (tgt := 179) hx hb dX4_holds_175 (by decide) ?_
                    have e9 : p_m_holds x0 x1 x2 = 1 := by rw [p_m_holds, if_neg c_1, if_neg c_3, if_neg c_5, if_neg c_7, if_neg c_9, if_neg c_11, if_neg c_13, if_pos c_15, if_neg c_16]
                    rw [e9]
                    exact W.zret hx hb hr rfl (fun t ht hW => ⟨⟨_, (), rfl, rfl, by rw [ht]; exact hP, va_K.moved hW.alike hK, hD⟩, hS.F ht⟩) hS.2.2 dX4_holds_179
                · skip
                  rcases Classical.em (x0 = 12) with c_17 | c_17
                  · skip
                    refine lv_tableIn (tgt := 180) hx hb dX4_holds_16 (by rw [c_17]; decide) (by rw [c_17]; decide) (by rw [c_17]; rfl) (by decide) ?_
                    refine lv_iload_n hx hb dX4_holds_180 rfl (lv_at hl 3 rfl) ?_
                    refine lv_iload_n hx hb dX4_holds_181 rfl (lv_at hl 4 rfl) ?_
                    refine lv_icmp_le (tgt := 189) hx hb dX4_holds_182 (by decide) (fun c_18 => ?_) (fun c_18 => ?_)
                    · skip
                      refine lv_iconst (v := 0) hx hb dX4_holds_189 (by decide) ?_
                      have e9 : p_m_holds x0 x1 x2 = 0 := by rw [p_m_holds, if_neg c_1, if_neg c_3, if_neg c_5, if_neg c_7, if_neg c_9, if_neg c_11, if_neg c_13, if_neg c_15, if_pos c_17, if_pos c_18]
                      rw [e9]
                      exact W.zret hx hb hr rfl (fun t ht hW => ⟨⟨_, (), rfl, rfl, by rw [ht]; exact hP, va_K.moved hW.alike hK, hD⟩, hS.F ht⟩) hS.2.2 dX4_holds_190
                    · skip
                      refine lv_iconst (v := 1) hx hb dX4_holds_185 (by decide) ?_
                      refine lv_goto (tgt := 190) hx hb dX4_holds_186 (by decide) ?_
                      have e9 : p_m_holds x0 x1 x2 = 1 := by rw [p_m_holds, if_neg c_1, if_neg c_3, if_neg c_5, if_neg c_7, if_neg c_9, if_neg c_11, if_neg c_13, if_neg c_15, if_pos c_17, if_neg c_18]
                      rw [e9]
                      exact W.zret hx hb hr rfl (fun t ht hW => ⟨⟨_, (), rfl, rfl, by rw [ht]; exact hP, va_K.moved hW.alike hK, hD⟩, hS.F ht⟩) hS.2.2 dX4_holds_190
                  · skip
                    rcases Classical.em (x0 = 4) with g_19 | g_19
                    · refine lv_tableIn (tgt := 191) hx hb dX4_holds_16 (by rw [g_19]; decide) (by rw [g_19]; decide) (by rw [g_19]; rfl) (by decide) ?_
                      refine lv_iload_n hx hb dX4_holds_191 rfl (lv_at hl 3 rfl) ?_
                      refine lv_iload_n hx hb dX4_holds_192 rfl (lv_at hl 4 rfl) ?_
                      refine lv_icmp_gt (tgt := 200) hx hb dX4_holds_193 (by decide) (fun c_20 => ?_) (fun c_20 => ?_)
                      · skip
                        refine lv_iconst (v := 0) hx hb dX4_holds_200 (by decide) ?_
                        have e9 : p_m_holds x0 x1 x2 = 0 := by rw [p_m_holds, if_neg c_1, if_neg c_3, if_neg c_5, if_neg c_7, if_neg c_9, if_neg c_11, if_neg c_13, if_neg c_15, if_neg c_17, if_pos c_20]
                        rw [e9]
                        exact W.zret hx hb hr rfl (fun t ht hW => ⟨⟨_, (), rfl, rfl, by rw [ht]; exact hP, va_K.moved hW.alike hK, hD⟩, hS.F ht⟩) hS.2.2 dX4_holds_201
                      · skip
                        refine lv_iconst (v := 1) hx hb dX4_holds_196 (by decide) ?_
                        refine lv_goto (tgt := 201) hx hb dX4_holds_197 (by decide) ?_
                        have e9 : p_m_holds x0 x1 x2 = 1 := by rw [p_m_holds, if_neg c_1, if_neg c_3, if_neg c_5, if_neg c_7, if_neg c_9, if_neg c_11, if_neg c_13, if_neg c_15, if_neg c_17, if_neg c_20]
                        rw [e9]
                        exact W.zret hx hb hr rfl (fun t ht hW => ⟨⟨_, (), rfl, rfl, by rw [ht]; exact hP, va_K.moved hW.alike hK, hD⟩, hS.F ht⟩) hS.2.2 dX4_holds_201
                    rcases Classical.em (x0 = 5) with g_21 | g_21
                    · refine lv_tableIn (tgt := 191) hx hb dX4_holds_16 (by rw [g_21]; decide) (by rw [g_21]; decide) (by rw [g_21]; rfl) (by decide) ?_
                      refine lv_iload_n hx hb dX4_holds_191 rfl (lv_at hl 3 rfl) ?_
                      refine lv_iload_n hx hb dX4_holds_192 rfl (lv_at hl 4 rfl) ?_
                      refine lv_icmp_gt (tgt := 200) hx hb dX4_holds_193 (by decide) (fun c_22 => ?_) (fun c_22 => ?_)
                      · skip
                        refine lv_iconst (v := 0) hx hb dX4_holds_200 (by decide) ?_
                        have e9 : p_m_holds x0 x1 x2 = 0 := by rw [p_m_holds, if_neg c_1, if_neg c_3, if_neg c_5, if_neg c_7, if_neg c_9, if_neg c_11, if_neg c_13, if_neg c_15, if_neg c_17, if_pos c_22]
                        rw [e9]
                        exact W.zret hx hb hr rfl (fun t ht hW => ⟨⟨_, (), rfl, rfl, by rw [ht]; exact hP, va_K.moved hW.alike hK, hD⟩, hS.F ht⟩) hS.2.2 dX4_holds_201
                      · skip
                        refine lv_iconst (v := 1) hx hb dX4_holds_196 (by decide) ?_
                        refine lv_goto (tgt := 201) hx hb dX4_holds_197 (by decide) ?_
                        have e9 : p_m_holds x0 x1 x2 = 1 := by rw [p_m_holds, if_neg c_1, if_neg c_3, if_neg c_5, if_neg c_7, if_neg c_9, if_neg c_11, if_neg c_13, if_neg c_15, if_neg c_17, if_neg c_22]
                        rw [e9]
                        exact W.zret hx hb hr rfl (fun t ht hW => ⟨⟨_, (), rfl, rfl, by rw [ht]; exact hP, va_K.moved hW.alike hK, hD⟩, hS.F ht⟩) hS.2.2 dX4_holds_201
                    rcases Classical.em (x0 = 6) with g_23 | g_23
                    · refine lv_tableIn (tgt := 191) hx hb dX4_holds_16 (by rw [g_23]; decide) (by rw [g_23]; decide) (by rw [g_23]; rfl) (by decide) ?_
                      refine lv_iload_n hx hb dX4_holds_191 rfl (lv_at hl 3 rfl) ?_
                      refine lv_iload_n hx hb dX4_holds_192 rfl (lv_at hl 4 rfl) ?_
                      refine lv_icmp_gt (tgt := 200) hx hb dX4_holds_193 (by decide) (fun c_24 => ?_) (fun c_24 => ?_)
                      · skip
                        refine lv_iconst (v := 0) hx hb dX4_holds_200 (by decide) ?_
                        have e9 : p_m_holds x0 x1 x2 = 0 := by rw [p_m_holds, if_neg c_1, if_neg c_3, if_neg c_5, if_neg c_7, if_neg c_9, if_neg c_11, if_neg c_13, if_neg c_15, if_neg c_17, if_pos c_24]
                        rw [e9]
                        exact W.zret hx hb hr rfl (fun t ht hW => ⟨⟨_, (), rfl, rfl, by rw [ht]; exact hP, va_K.moved hW.alike hK, hD⟩, hS.F ht⟩) hS.2.2 dX4_holds_201
                      · skip
                        refine lv_iconst (v := 1) hx hb dX4_holds_196 (by decide) ?_
                        refine lv_goto (tgt := 201) hx hb dX4_holds_197 (by decide) ?_
                        have e9 : p_m_holds x0 x1 x2 = 1 := by rw [p_m_holds, if_neg c_1, if_neg c_3, if_neg c_5, if_neg c_7, if_neg c_9, if_neg c_11, if_neg c_13, if_neg c_15, if_neg c_17, if_neg c_24]
                        rw [e9]
                        exact W.zret hx hb hr rfl (fun t ht hW => ⟨⟨_, (), rfl, rfl, by rw [ht]; exact hP, va_K.moved hW.alike hK, hD⟩, hS.F ht⟩) hS.2.2 dX4_holds_201
                    rcases Classical.em (x0 = 7) with g_25 | g_25
                    · refine lv_tableIn (tgt := 191) hx hb dX4_holds_16 (by rw [g_25]; decide) (by rw [g_25]; decide) (by rw [g_25]; rfl) (by decide) ?_
                      refine lv_iload_n hx hb dX4_holds_191 rfl (lv_at hl 3 rfl) ?_
                      refine lv_iload_n hx hb dX4_holds_192 rfl (lv_at hl 4 rfl) ?_
                      refine lv_icmp_gt (tgt := 200) hx hb dX4_holds_193 (by decide) (fun c_26 => ?_) (fun c_26 => ?_)
                      · skip
                        refine lv_iconst (v := 0) hx hb dX4_holds_200 (by decide) ?_
                        have e9 : p_m_holds x0 x1 x2 = 0 := by rw [p_m_holds, if_neg c_1, if_neg c_3, if_neg c_5, if_neg c_7, if_neg c_9, if_neg c_11, if_neg c_13, if_neg c_15, if_neg c_17, if_pos c_26]
                        rw [e9]
                        exact W.zret hx hb hr rfl (fun t ht hW => ⟨⟨_, (), rfl, rfl, by rw [ht]; exact hP, va_K.moved hW.alike hK, hD⟩, hS.F ht⟩) hS.2.2 dX4_holds_201
                      · skip
                        refine lv_iconst (v := 1) hx hb dX4_holds_196 (by decide) ?_
                        refine lv_goto (tgt := 201) hx hb dX4_holds_197 (by decide) ?_
                        have e9 : p_m_holds x0 x1 x2 = 1 := by rw [p_m_holds, if_neg c_1, if_neg c_3, if_neg c_5, if_neg c_7, if_neg c_9, if_neg c_11, if_neg c_13, if_neg c_15, if_neg c_17, if_neg c_26]
                        rw [e9]
                        exact W.zret hx hb hr rfl (fun t ht hW => ⟨⟨_, (), rfl, rfl, by rw [ht]; exact hP, va_K.moved hW.alike hK, hD⟩, hS.F ht⟩) hS.2.2 dX4_holds_201
                    have n_c_1 := lv_neT (k := 0) (a := 0) c_1 rfl
                    have n_c_3 := lv_neT (k := 1) (a := 1) c_3 rfl
                    have n_c_5 := lv_neT (k := 2) (a := 2) c_5 rfl
                    have n_c_7 := lv_neT (k := 3) (a := 3) c_7 rfl
                    have n_c_9 := lv_neT (k := 8) (a := 8) c_9 rfl
                    have n_c_11 := lv_neT (k := 9) (a := 9) c_11 rfl
                    have n_c_13 := lv_neT (k := 10) (a := 10) c_13 rfl
                    have n_c_15 := lv_neT (k := 11) (a := 11) c_15 rfl
                    have n_c_17 := lv_neT (k := 12) (a := 12) c_17 rfl
                    have n_g_19 := lv_neT (k := 4) (a := 4) g_19 rfl
                    have n_g_21 := lv_neT (k := 5) (a := 5) g_21 rfl
                    have n_g_23 := lv_neT (k := 6) (a := 6) g_23 rfl
                    have n_g_25 := lv_neT (k := 7) (a := 7) g_25 rfl
                    refine lv_tableOut (tgt := 191) hx hb dX4_holds_16 (by omega) (by decide) ?_
                    refine lv_iload_n hx hb dX4_holds_191 rfl (lv_at hl 3 rfl) ?_
                    refine lv_iload_n hx hb dX4_holds_192 rfl (lv_at hl 4 rfl) ?_
                    refine lv_icmp_gt (tgt := 200) hx hb dX4_holds_193 (by decide) (fun c_27 => ?_) (fun c_27 => ?_)
                    · skip
                      refine lv_iconst (v := 0) hx hb dX4_holds_200 (by decide) ?_
                      have e9 : p_m_holds x0 x1 x2 = 0 := by rw [p_m_holds, if_neg c_1, if_neg c_3, if_neg c_5, if_neg c_7, if_neg c_9, if_neg c_11, if_neg c_13, if_neg c_15, if_neg c_17, if_pos c_27]
                      rw [e9]
                      exact W.zret hx hb hr rfl (fun t ht hW => ⟨⟨_, (), rfl, rfl, by rw [ht]; exact hP, va_K.moved hW.alike hK, hD⟩, hS.F ht⟩) hS.2.2 dX4_holds_201
                    · skip
                      refine lv_iconst (v := 1) hx hb dX4_holds_196 (by decide) ?_
                      refine lv_goto (tgt := 201) hx hb dX4_holds_197 (by decide) ?_
                      have e9 : p_m_holds x0 x1 x2 = 1 := by rw [p_m_holds, if_neg c_1, if_neg c_3, if_neg c_5, if_neg c_7, if_neg c_9, if_neg c_11, if_neg c_13, if_neg c_15, if_neg c_17, if_neg c_27]
                      rw [e9]
                      exact W.zret hx hb hr rfl (fun t ht hW => ⟨⟨_, (), rfl, rfl, by rw [ht]; exact hP, va_K.moved hW.alike hK, hD⟩, hS.F ht⟩) hS.2.2 dX4_holds_201

def p_m_thrown (u : St) : Int32 := u.1 0
set_option maxHeartbeats 4000000 in
set_option maxRecDepth 100000 in
theorem c_m_thrown (l : Launch) (D : va_G) (am : Nat → Nat) (cI cZ : ClassId) (zz : (Nat → Prop) → State → Heap → Prop) (hzz : Zok zz) (u : St) : tfI l D vwCl (tyT cI cZ) zz yX4_thrown wsX4_thrown ({ frames := 0, cells := 0, slots := 0, locals := 0 } : Room) [.ref (am 0)] (wM am cI cZ u) (p_m_thrown u) (wM am cI cZ u) := by
  intro sz
  refine Met.ofW (cc := cX4_thrown) (maxL := 1) (ret := (some .int)) (by decide) rfl ?_
  intro p e s m args below meth c s₁ B hml hv
  obtain ⟨rfl, hsz, hP, hK, hD0, hZ⟩ := hv
  have hx := B.exec
  have hb := B.bytes
  have hr := B.returns
  have hts := atoms_spec (ws := wsX4_thrown) B.pre
  have hown : s.vm.findClass RX4 = some m.cls := findClass_of_methodNamed B.named
  have hlocks := B.notSynchronized
  subst hsz
  have hD := hD0.self (sz := s.heap.size)
  generalize hAe : va_A (wM am cI cZ u) s.heap.size = A at hD hZ ⊢
  have hA : ∀ q : Nat, s.heap.size ≤ q → A q := fun q h => by rw [← hAe]; exact Or.inr h
  have hS : va_S A s.heap s.heap [] := va_S.rf
  have Cx : cxt p s m ([.ref (am 0)] : List Value).toArray meth c cX4_thrown 1 (some .int) wsX4_thrown RX4 D vwCl (tyT cI cZ) zz A := ⟨hx, hb, hr, hts, hown, hlocks, hml, hK, hA, hZ⟩
  have hl := lv_entry ([.ref (am 0)]) (n := 1) (Nat.le_of_ble_eq_true rfl)
  rw [lg_entry_eq]
  generalize (lg_sl ([.ref (am 0)]) ++ List.replicate (1 - (lg_sl ([.ref (am 0)])).length) Slot.unset).toArray = ls at hl ⊢
  have hl : lv_has ls 1 [(0, .ref (am 0))] := hl
  refine lv_aload_n hx hb dX4_thrown_0 rfl (lv_at hl 0 rfl) ?_
  refine va_get (ci := 4) (v := .int (u.1 0)) (C := RX4) (T := TX4) (N := 22) hx hb hts (ivX4 _) hown hK hP 0 rfl rfl 0 (by decide) (hts _ (tb_c tw_3_101)) (fun _ h9 => h9) rfl dX4_thrown_1 ?_
  have e9 : p_m_thrown u = u.1 0 := by rw [p_m_thrown]
  rw [e9]
  exact W.iret hx hb hr (fun t ht hW => ⟨⟨_, (), rfl, rfl, by rw [ht]; exact hP, va_K.moved hW.alike hK, hD⟩, hS.F ht⟩) hS.2.2 dX4_thrown_4

def p_m_append (u : St) (x1 x2 x3 x4 : Int32) : Int32 × St := (if x1 = 0 then (0, sS u 0 1) else (if (u.1 1) = 48 then (0, sS u 0 2) else (((u.1 1) + 1) - 1, sS (sS (sS (sA (sA (sA (sS u 0 0) 0 (u.1 1) x2) 1 (u.1 1) x3) 2 (u.1 1) x4) 1 ((u.1 1) + 1)) 2 0) 6 0)))
def ok_m_append (u : St) (x1 x2 x3 x4 : Int32) : Prop := ((x1 = 0 → True) ∧ (¬ x1 = 0 → (((u.1 1) = 48 → True) ∧ (¬ (u.1 1) = 48 → (vp_in (u.1 1) 48 ∧ (vp_in (u.1 1) 48 ∧ (vp_in (u.1 1) 48 ∧ True)))))))
set_option maxHeartbeats 4000000 in
set_option maxRecDepth 100000 in
theorem c_m_append (l : Launch) (D : va_G) (am : Nat → Nat) (cI cZ : ClassId) (zz : (Nat → Prop) → State → Heap → Prop) (hzz : Zok zz) (u : St) (x1 x2 x3 x4 : Int32) (hok : ok_m_append u x1 x2 x3 x4) : tfI l D vwCl (tyT cI cZ) zz yX4_append wsX4_append ({ frames := 0, cells := 0, slots := 0, locals := 0 } : Room) [.ref (am 0), .int x1, .int x2, .int x3, .int x4] (wM am cI cZ u) (p_m_append u x1 x2 x3 x4).1 (wM am cI cZ ((p_m_append u x1 x2 x3 x4).2)) := by
  intro sz
  unfold ok_m_append at hok
  refine Met.ofW (cc := cX4_append) (maxL := 5) (ret := (some .int)) (by decide) rfl ?_
  intro p e s m args below meth c s₁ B hml hv
  obtain ⟨rfl, hsz, hP, hK, hD0, hZ⟩ := hv
  have hx := B.exec
  have hb := B.bytes
  have hr := B.returns
  have hts := atoms_spec (ws := wsX4_append) B.pre
  have hown : s.vm.findClass RX4 = some m.cls := findClass_of_methodNamed B.named
  have hlocks := B.notSynchronized
  subst hsz
  have hD := hD0.self (sz := s.heap.size)
  generalize hAe : va_A (wM am cI cZ u) s.heap.size = A at hD hZ ⊢
  have hA : ∀ q : Nat, s.heap.size ≤ q → A q := fun q h => by rw [← hAe]; exact Or.inr h
  have hS : va_S A s.heap s.heap [] := va_S.rf
  have Cx : cxt p s m ([.ref (am 0), .int x1, .int x2, .int x3, .int x4] : List Value).toArray meth c cX4_append 5 (some .int) wsX4_append RX4 D vwCl (tyT cI cZ) zz A := ⟨hx, hb, hr, hts, hown, hlocks, hml, hK, hA, hZ⟩
  have hl := lv_entry ([.ref (am 0), .int x1, .int x2, .int x3, .int x4]) (n := 5) (Nat.le_of_ble_eq_true rfl)
  rw [lg_entry_eq]
  generalize (lg_sl ([.ref (am 0), .int x1, .int x2, .int x3, .int x4]) ++ List.replicate (5 - (lg_sl ([.ref (am 0), .int x1, .int x2, .int x3, .int x4])).length) Slot.unset).toArray = ls at hl ⊢
  have hl : lv_has ls 5 [(0, .ref (am 0)), (1, .int x1), (2, .int x2), (3, .int x3), (4, .int x4)] := hl
  refine lv_aload_n hx hb dX4_append_0 rfl (lv_at hl 0 rfl) ?_
  refine lv_iload_n hx hb dX4_append_1 rfl (lv_at hl 1 rfl) ?_
  refine lv_if_ne (tgt := 9) hx hb dX4_append_2 (by decide) (fun c_1 => ?_) (fun c_1 => ?_)
  · have hok := hok.2 c_1
    refine lv_aload_n hx hb dX4_append_9 rfl (lv_at hl 0 rfl) ?_
    refine va_get (ci := 4) (v := .int (u.1 1)) (C := RX4) (T := TX4) (N := 22) hx hb hts (ivX4 _) hown hK hP 0 rfl rfl 1 (by decide) (hts _ (tb_c tw_3_102)) (fun _ h9 => h9) rfl dX4_append_10 ?_
    refine lv_bipush (v := 48) hx hb dX4_append_13 (by decide) ?_
    refine lv_icmp_ne (tgt := 22) hx hb dX4_append_15 (by decide) (fun c_2 => ?_) (fun c_2 => ?_)
    · have hok := hok.2 c_2
      refine lv_iconst (v := 0) hx hb dX4_append_22 (by decide) ?_
      refine va_put (ci := 4) (v := .int 0) (ty := .int) (C := RX4) (T := TX4) (N := 22) hx hb hts (ivX4 _) tyX4 tyX4_ok nmX4 hown hK hP hD hS 0 rfl rfl 0 (by decide) (hts _ (tb_c tw_3_101)) (fun _ h9 => h9) rfl (by decide +kernel) rfl rfl (Nat.le_of_ble_eq_true rfl) dX4_append_23 (fun H locs hP hD hS => ?_)
      have hP : va_P D vwCl (wM am cI cZ (sS u 0 0)) H := hP
      have hD : va_D A (wM am cI cZ (sS u 0 0)) := hD
      refine lv_aload_n hx hb dX4_append_26 rfl (lv_at hl 0 rfl) ?_
      refine va_get (ci := 4) (v := .int 0) (C := RX4) (T := TX4) (N := 22) hx hb hts (ivX4 _) hown hK hP 0 rfl rfl 0 (by decide) (hts _ (tb_c tw_3_101)) (fun _ h9 => h9) rfl dX4_append_27 ?_
      refine lv_if_le (tgt := 35) hx hb dX4_append_30 (by decide) (fun c_3 => ?_) (fun c_3 => absurd c_3 (by decide))
      refine lv_aload_n hx hb dX4_append_35 rfl (lv_at hl 0 rfl) ?_
      refine va_get (ci := 4) (v := .ref (am 1)) (C := RX4) (T := TX4) (N := 22) hx hb hts (ivX4 _) hown hK hP 0 rfl rfl 2 (by decide) (hts _ (tb_c tw_3_103)) (fun _ h9 => h9) rfl dX4_append_36 ?_
      refine lv_aload_n hx hb dX4_append_39 rfl (lv_at hl 0 rfl) ?_
      refine va_get (ci := 4) (v := .int (u.1 1)) (C := RX4) (T := TX4) (N := 22) hx hb hts (ivX4 _) hown hK hP 0 rfl rfl 1 (by decide) (hts _ (tb_c tw_3_102)) (fun _ h9 => h9) rfl dX4_append_40 ?_
      refine lv_iload_n hx hb dX4_append_43 rfl (lv_at hl 2 rfl) ?_
      obtain ⟨h_4, hok⟩ := hok
      refine va_iast hx hb hK hP hD hS 1 0 rfl rfl h_4 dX4_append_44 (fun H locs hP hD hS => ?_)
      have hP : va_P D vwCl (wM am cI cZ (sA (sS u 0 0) 0 (u.1 1) x2)) H := hP
      have hD : va_D A (wM am cI cZ (sA (sS u 0 0) 0 (u.1 1) x2)) := hD
      refine lv_aload_n hx hb dX4_append_45 rfl (lv_at hl 0 rfl) ?_
      refine va_get (ci := 4) (v := .ref (am 2)) (C := RX4) (T := TX4) (N := 22) hx hb hts (ivX4 _) hown hK hP 0 rfl rfl 3 (by decide) (hts _ (tb_c tw_3_104)) (fun _ h9 => h9) rfl dX4_append_46 ?_
      refine lv_aload_n hx hb dX4_append_49 rfl (lv_at hl 0 rfl) ?_
      refine va_get (ci := 4) (v := .int (u.1 1)) (C := RX4) (T := TX4) (N := 22) hx hb hts (ivX4 _) hown hK hP 0 rfl rfl 1 (by decide) (hts _ (tb_c tw_3_102)) (fun _ h9 => h9) rfl dX4_append_50 ?_
      refine lv_iload_n hx hb dX4_append_53 rfl (lv_at hl 3 rfl) ?_
      obtain ⟨h_5, hok⟩ := hok
      refine va_iast hx hb hK hP hD hS 2 0 rfl rfl h_5 dX4_append_54 (fun H locs hP hD hS => ?_)
      have hP : va_P D vwCl (wM am cI cZ (sA (sA (sS u 0 0) 0 (u.1 1) x2) 1 (u.1 1) x3)) H := hP
      have hD : va_D A (wM am cI cZ (sA (sA (sS u 0 0) 0 (u.1 1) x2) 1 (u.1 1) x3)) := hD
      refine lv_aload_n hx hb dX4_append_55 rfl (lv_at hl 0 rfl) ?_
      refine va_get (ci := 4) (v := .ref (am 3)) (C := RX4) (T := TX4) (N := 22) hx hb hts (ivX4 _) hown hK hP 0 rfl rfl 4 (by decide) (hts _ (tb_c tw_3_105)) (fun _ h9 => h9) rfl dX4_append_56 ?_
      refine lv_aload_n hx hb dX4_append_59 rfl (lv_at hl 0 rfl) ?_
      refine va_get (ci := 4) (v := .int (u.1 1)) (C := RX4) (T := TX4) (N := 22) hx hb hts (ivX4 _) hown hK hP 0 rfl rfl 1 (by decide) (hts _ (tb_c tw_3_102)) (fun _ h9 => h9) rfl dX4_append_60 ?_
      refine lv_iload hx hb dX4_append_63 (lv_at hl 4 rfl) ?_
      obtain ⟨h_6, hok⟩ := hok
      refine va_iast hx hb hK hP hD hS 3 0 rfl rfl h_6 dX4_append_65 (fun H locs hP hD hS => ?_)
      have hP : va_P D vwCl (wM am cI cZ (sA (sA (sA (sS u 0 0) 0 (u.1 1) x2) 1 (u.1 1) x3) 2 (u.1 1) x4)) H := hP
      have hD : va_D A (wM am cI cZ (sA (sA (sA (sS u 0 0) 0 (u.1 1) x2) 1 (u.1 1) x3) 2 (u.1 1) x4)) := hD
      refine lv_aload_n hx hb dX4_append_66 rfl (lv_at hl 0 rfl) ?_
      refine lv_dup hx hb dX4_append_67 rfl ?_
      refine va_get (ci := 4) (v := .int (u.1 1)) (C := RX4) (T := TX4) (N := 22) hx hb hts (ivX4 _) hown hK hP 0 rfl rfl 1 (by decide) (hts _ (tb_c tw_3_102)) (fun _ h9 => h9) rfl dX4_append_68 ?_
      refine lv_iconst (v := 1) hx hb dX4_append_71 (by decide) ?_
      refine lv_iadd hx hb dX4_append_72 ?_
      refine va_put (ci := 4) (v := .int ((u.1 1) + 1)) (ty := .int) (C := RX4) (T := TX4) (N := 22) hx hb hts (ivX4 _) tyX4 tyX4_ok nmX4 hown hK hP hD hS 0 rfl rfl 1 (by decide) (hts _ (tb_c tw_3_102)) (fun _ h9 => h9) rfl (by decide +kernel) rfl rfl (Nat.le_of_ble_eq_true rfl) dX4_append_73 (fun H locs hP hD hS => ?_)
      have hP : va_P D vwCl (wM am cI cZ (sS (sA (sA (sA (sS u 0 0) 0 (u.1 1) x2) 1 (u.1 1) x3) 2 (u.1 1) x4) 1 ((u.1 1) + 1))) H := hP
      have hD : va_D A (wM am cI cZ (sS (sA (sA (sA (sS u 0 0) 0 (u.1 1) x2) 1 (u.1 1) x3) 2 (u.1 1) x4) 1 ((u.1 1) + 1))) := hD
      refine lv_aload_n hx hb dX4_append_76 rfl (lv_at hl 0 rfl) ?_
      refine lv_iconst (v := 0) hx hb dX4_append_77 (by decide) ?_
      refine va_put (ci := 4) (v := .int 0) (ty := .boolean) (C := RX4) (T := TX4) (N := 22) hx hb hts (ivX4 _) tyX4 tyX4_ok nmX4 hown hK hP hD hS 0 rfl rfl 8 (by decide) (hts _ (tb_c tw_3_109)) (fun _ h9 => h9) rfl (by decide +kernel) rfl rfl (Nat.le_of_ble_eq_true rfl) dX4_append_78 (fun H locs hP hD hS => ?_)
      have hP : va_P D vwCl (wM am cI cZ (sS (sS (sA (sA (sA (sS u 0 0) 0 (u.1 1) x2) 1 (u.1 1) x3) 2 (u.1 1) x4) 1 ((u.1 1) + 1)) 2 0)) H := hP
      have hD : va_D A (wM am cI cZ (sS (sS (sA (sA (sA (sS u 0 0) 0 (u.1 1) x2) 1 (u.1 1) x3) 2 (u.1 1) x4) 1 ((u.1 1) + 1)) 2 0)) := hD
      refine lv_aload_n hx hb dX4_append_81 rfl (lv_at hl 0 rfl) ?_
      refine lv_iconst (v := 0) hx hb dX4_append_82 (by decide) ?_
      refine va_put (ci := 4) (v := .int 0) (ty := .int) (C := RX4) (T := TX4) (N := 22) hx hb hts (ivX4 _) tyX4 tyX4_ok nmX4 hown hK hP hD hS 0 rfl rfl 16 (by decide) (hts _ (tb_c tw_3_117)) (fun _ h9 => h9) rfl (by decide +kernel) rfl rfl (Nat.le_of_ble_eq_true rfl) dX4_append_83 (fun H locs hP hD hS => ?_)
      have hP : va_P D vwCl (wM am cI cZ (sS (sS (sS (sA (sA (sA (sS u 0 0) 0 (u.1 1) x2) 1 (u.1 1) x3) 2 (u.1 1) x4) 1 ((u.1 1) + 1)) 2 0) 6 0)) H := hP
      have hD : va_D A (wM am cI cZ (sS (sS (sS (sA (sA (sA (sS u 0 0) 0 (u.1 1) x2) 1 (u.1 1) x3) 2 (u.1 1) x4) 1 ((u.1 1) + 1)) 2 0) 6 0)) := hD
      refine lv_aload_n hx hb dX4_append_86 rfl (lv_at hl 0 rfl) ?_
      refine va_get (ci := 4) (v := .int ((u.1 1) + 1)) (C := RX4) (T := TX4) (N := 22) hx hb hts (ivX4 _) hown hK hP 0 rfl rfl 1 (by decide) (hts _ (tb_c tw_3_102)) (fun _ h9 => h9) rfl dX4_append_87 ?_
      refine lv_iconst (v := 1) hx hb dX4_append_90 (by decide) ?_
      refine lv_isub hx hb dX4_append_91 ?_
      have e9 : p_m_append u x1 x2 x3 x4 = (((u.1 1) + 1) - 1, sS (sS (sS (sA (sA (sA (sS u 0 0) 0 (u.1 1) x2) 1 (u.1 1) x3) 2 (u.1 1) x4) 1 ((u.1 1) + 1)) 2 0) 6 0) := by rw [p_m_append, if_neg c_1, if_neg c_2]
      rw [e9]
      exact W.iret hx hb hr (fun t ht hW => ⟨⟨_, (), rfl, rfl, by rw [ht]; exact hP, va_K.moved hW.alike hK, hD⟩, hS.F ht⟩) hS.2.2 dX4_append_92
    · have hok := hok.1 c_2
      refine lv_iconst (v := 2) hx hb dX4_append_18 (by decide) ?_
      refine lv_goto (tgt := 23) hx hb dX4_append_19 (by decide) ?_
      refine va_put (ci := 4) (v := .int 2) (ty := .int) (C := RX4) (T := TX4) (N := 22) hx hb hts (ivX4 _) tyX4 tyX4_ok nmX4 hown hK hP hD hS 0 rfl rfl 0 (by decide) (hts _ (tb_c tw_3_101)) (fun _ h9 => h9) rfl (by decide +kernel) rfl rfl (Nat.le_of_ble_eq_true rfl) dX4_append_23 (fun H locs hP hD hS => ?_)
      have hP : va_P D vwCl (wM am cI cZ (sS u 0 2)) H := hP
      have hD : va_D A (wM am cI cZ (sS u 0 2)) := hD
      refine lv_aload_n hx hb dX4_append_26 rfl (lv_at hl 0 rfl) ?_
      refine va_get (ci := 4) (v := .int 2) (C := RX4) (T := TX4) (N := 22) hx hb hts (ivX4 _) hown hK hP 0 rfl rfl 0 (by decide) (hts _ (tb_c tw_3_101)) (fun _ h9 => h9) rfl dX4_append_27 ?_
      refine lv_if_le (tgt := 35) hx hb dX4_append_30 (by decide) (fun c_7 => absurd c_7 (by decide)) (fun c_7 => ?_)
      refine lv_iconst (v := 0) hx hb dX4_append_33 (by decide) ?_
      have e9 : p_m_append u x1 x2 x3 x4 = (0, sS u 0 2) := by rw [p_m_append, if_neg c_1, if_pos c_2]
      rw [e9]
      exact W.iret hx hb hr (fun t ht hW => ⟨⟨_, (), rfl, rfl, by rw [ht]; exact hP, va_K.moved hW.alike hK, hD⟩, hS.F ht⟩) hS.2.2 dX4_append_34
  · have hok := hok.1 c_1
    refine lv_iconst (v := 1) hx hb dX4_append_5 (by decide) ?_
    refine lv_goto (tgt := 23) hx hb dX4_append_6 (by decide) ?_
    refine va_put (ci := 4) (v := .int 1) (ty := .int) (C := RX4) (T := TX4) (N := 22) hx hb hts (ivX4 _) tyX4 tyX4_ok nmX4 hown hK hP hD hS 0 rfl rfl 0 (by decide) (hts _ (tb_c tw_3_101)) (fun _ h9 => h9) rfl (by decide +kernel) rfl rfl (Nat.le_of_ble_eq_true rfl) dX4_append_23 (fun H locs hP hD hS => ?_)
    have hP : va_P D vwCl (wM am cI cZ (sS u 0 1)) H := hP
    have hD : va_D A (wM am cI cZ (sS u 0 1)) := hD
    refine lv_aload_n hx hb dX4_append_26 rfl (lv_at hl 0 rfl) ?_
    refine va_get (ci := 4) (v := .int 1) (C := RX4) (T := TX4) (N := 22) hx hb hts (ivX4 _) hown hK hP 0 rfl rfl 0 (by decide) (hts _ (tb_c tw_3_101)) (fun _ h9 => h9) rfl dX4_append_27 ?_
    refine lv_if_le (tgt := 35) hx hb dX4_append_30 (by decide) (fun c_8 => absurd c_8 (by decide)) (fun c_8 => ?_)
    refine lv_iconst (v := 0) hx hb dX4_append_33 (by decide) ?_
    have e9 : p_m_append u x1 x2 x3 x4 = (0, sS u 0 1) := by rw [p_m_append, if_pos c_1]
    rw [e9]
    exact W.iret hx hb hr (fun t ht hW => ⟨⟨_, (), rfl, rfl, by rw [ht]; exact hP, va_K.moved hW.alike hK, hD⟩, hS.F ht⟩) hS.2.2 dX4_append_34

def p_m_constant (u : St) (x1 x2 : Int32) : Int32 × St := ((p_m_append u (p_m_isVariable x1) 0 x2 x1).1, ((p_m_append u (p_m_isVariable x1) 0 x2 x1).2))
def ok_m_constant (u : St) (x1 x2 : Int32) : Prop := (ok_m_append u (p_m_isVariable x1) 0 x2 x1 ∧ True)
set_option maxHeartbeats 4000000 in
set_option maxRecDepth 100000 in
theorem c_m_constant (l : Launch) (D : va_G) (am : Nat → Nat) (cI cZ : ClassId) (zz : (Nat → Prop) → State → Heap → Prop) (hzz : Zok zz) (u : St) (x1 x2 : Int32) (hok : ok_m_constant u x1 x2) : tfI l D vwCl (tyT cI cZ) zz yX4_constant wsX4_constant ({ frames := 1, cells := 0, slots := 0, locals := 24 } : Room) [.ref (am 0), .int x1, .int x2] (wM am cI cZ u) (p_m_constant u x1 x2).1 (wM am cI cZ ((p_m_constant u x1 x2).2)) := by
  intro sz
  unfold ok_m_constant at hok
  refine Met.ofW (cc := cX4_constant) (maxL := 3) (ret := (some .int)) (by decide) rfl ?_
  intro p e s m args below meth c s₁ B hml hv
  obtain ⟨rfl, hsz, hP, hK, hD0, hZ⟩ := hv
  have hx := B.exec
  have hb := B.bytes
  have hr := B.returns
  have hts := atoms_spec (ws := wsX4_constant) B.pre
  have hown : s.vm.findClass RX4 = some m.cls := findClass_of_methodNamed B.named
  have hlocks := B.notSynchronized
  subst hsz
  have hD := hD0.self (sz := s.heap.size)
  generalize hAe : va_A (wM am cI cZ u) s.heap.size = A at hD hZ ⊢
  have hA : ∀ q : Nat, s.heap.size ≤ q → A q := fun q h => by rw [← hAe]; exact Or.inr h
  have hS : va_S A s.heap s.heap [] := va_S.rf
  have Cx : cxt p s m ([.ref (am 0), .int x1, .int x2] : List Value).toArray meth c cX4_constant 3 (some .int) wsX4_constant RX4 D vwCl (tyT cI cZ) zz A := ⟨hx, hb, hr, hts, hown, hlocks, hml, hK, hA, hZ⟩
  have hl := lv_entry ([.ref (am 0), .int x1, .int x2]) (n := 3) (Nat.le_of_ble_eq_true rfl)
  rw [lg_entry_eq]
  generalize (lg_sl ([.ref (am 0), .int x1, .int x2]) ++ List.replicate (3 - (lg_sl ([.ref (am 0), .int x1, .int x2])).length) Slot.unset).toArray = ls at hl ⊢
  have hl : lv_has ls 3 [(0, .ref (am 0)), (1, .int x1), (2, .int x2)] := hl
  refine lv_aload_n hx hb dX4_constant_0 rfl (lv_at hl 0 rfl) ?_
  refine lv_iload_n hx hb dX4_constant_1 rfl (lv_at hl 1 rfl) ?_
  refine k_callSi (As := [.int x1]) (rest := [.ref (am 0)]) hzz ⟨hx, hb, hml, hown, hts⟩ (c_m_isVariable l D am cI cZ zz hzz (wM am cI cZ u) x1) (cwS 1 hts (tb_S tw_3_176 tw_3_177 tw_1_5 tw_3_178) rfl rfl rfl (by decide +kernel) ⟨Nat.le_of_ble_eq_true rfl, Nat.le_of_ble_eq_true rfl⟩) rfl hl.1 rfl (lv_room (Nat.le_of_ble_eq_true rfl)) dX4_constant_2 ⟨Nat.le_of_ble_eq_true rfl, Nat.le_of_ble_eq_true rfl⟩ hP hK hD hS hA hZ (fun H locs hP hD hS => ?_)
  refine lv_iconst (v := 0) hx hb dX4_constant_5 (by decide) ?_
  refine lv_iload_n hx hb dX4_constant_6 rfl (lv_at hl 2 rfl) ?_
  refine lv_iload_n hx hb dX4_constant_7 rfl (lv_at hl 1 rfl) ?_
  obtain ⟨h_2, hok⟩ := hok
  refine k_callVi (As := [.int (p_m_isVariable x1), .int 0, .int x2, .int x1]) (rest := []) hzz ⟨hx, hb, hml, hown, hts⟩ (c_m_append l D am cI cZ zz hzz u (p_m_isVariable x1) 0 x2 x1 h_2) (cwV 4 hts (tb_V tw_3_179 tw_3_181 slX4_append tw_1_5 tw_3_182) rfl rfl rfl (by decide +kernel) ⟨Nat.le_of_ble_eq_true rfl, Nat.le_of_ble_eq_true rfl⟩) (va_recv hK hP (ci := 4) (q0 := 0) rfl rfl) rfl hl.1 rfl (lv_room (Nat.le_of_ble_eq_true rfl)) dX4_constant_8 ⟨Nat.le_of_ble_eq_true rfl, Nat.le_of_ble_eq_true rfl⟩ hP hK hD hS hA hZ (fun H locs hP hD hS => ?_)
  generalize eu_3 : (p_m_append u (p_m_isVariable x1) 0 x2 x1).2 = u_3 at hP hD ⊢
  try rw [eu_3] at hok
  have e9 : p_m_constant u x1 x2 = ((p_m_append u (p_m_isVariable x1) 0 x2 x1).1, u_3) := by
    subst eu_3
    rw [p_m_constant]
  rw [e9]
  exact W.iret hx hb hr (fun t ht hW => ⟨⟨_, (), rfl, rfl, by rw [ht]; exact hP, va_K.moved hW.alike hK, hD⟩, hS.F ht⟩) hS.2.2 dX4_constant_11

def p_m_compute (u : St) (x1 x2 x3 x4 : Int32) : Int32 × St := (if x1 < 0 then (if (((p_m_append u 0 1 x1 x2).2).1 0) = 0 then ((p_m_append u 0 1 x1 x2).1, sA (sA ((p_m_append u 0 1 x1 x2).2) 3 ((p_m_append u 0 1 x1 x2).1) x3) 4 ((p_m_append u 0 1 x1 x2).1) x4) else ((p_m_append u 0 1 x1 x2).1, ((p_m_append u 0 1 x1 x2).2))) else (if 7 < x1 then (if (((p_m_append u 0 1 x1 x2).2).1 0) = 0 then ((p_m_append u 0 1 x1 x2).1, sA (sA ((p_m_append u 0 1 x1 x2).2) 3 ((p_m_append u 0 1 x1 x2).1) x3) 4 ((p_m_append u 0 1 x1 x2).1) x4) else ((p_m_append u 0 1 x1 x2).1, ((p_m_append u 0 1 x1 x2).2))) else (if (p_m_isVariable x2) = 0 then (if (((p_m_append u 0 1 x1 x2).2).1 0) = 0 then ((p_m_append u 0 1 x1 x2).1, sA (sA ((p_m_append u 0 1 x1 x2).2) 3 ((p_m_append u 0 1 x1 x2).1) x3) 4 ((p_m_append u 0 1 x1 x2).1) x4) else ((p_m_append u 0 1 x1 x2).1, ((p_m_append u 0 1 x1 x2).2))) else (if (p_m_isVariable x3) = 0 then (if (((p_m_append u 0 1 x1 x2).2).1 0) = 0 then ((p_m_append u 0 1 x1 x2).1, sA (sA ((p_m_append u 0 1 x1 x2).2) 3 ((p_m_append u 0 1 x1 x2).1) x3) 4 ((p_m_append u 0 1 x1 x2).1) x4) else ((p_m_append u 0 1 x1 x2).1, ((p_m_append u 0 1 x1 x2).2))) else (if (p_m_isVariable x4) = 0 then (if (((p_m_append u 0 1 x1 x2).2).1 0) = 0 then ((p_m_append u 0 1 x1 x2).1, sA (sA ((p_m_append u 0 1 x1 x2).2) 3 ((p_m_append u 0 1 x1 x2).1) x3) 4 ((p_m_append u 0 1 x1 x2).1) x4) else ((p_m_append u 0 1 x1 x2).1, ((p_m_append u 0 1 x1 x2).2))) else (if (((p_m_append u 1 1 x1 x2).2).1 0) = 0 then ((p_m_append u 1 1 x1 x2).1, sA (sA ((p_m_append u 1 1 x1 x2).2) 3 ((p_m_append u 1 1 x1 x2).1) x3) 4 ((p_m_append u 1 1 x1 x2).1) x4) else ((p_m_append u 1 1 x1 x2).1, ((p_m_append u 1 1 x1 x2).2))))))))
def ok_m_compute (u : St) (x1 x2 x3 x4 : Int32) : Prop := ((x1 < 0 → (ok_m_append u 0 1 x1 x2 ∧ (((((p_m_append u 0 1 x1 x2).2).1 0) = 0 → (vp_in ((p_m_append u 0 1 x1 x2).1) 48 ∧ (vp_in ((p_m_append u 0 1 x1 x2).1) 48 ∧ True))) ∧ (¬ (((p_m_append u 0 1 x1 x2).2).1 0) = 0 → True)))) ∧ (¬ x1 < 0 → ((7 < x1 → (ok_m_append u 0 1 x1 x2 ∧ (((((p_m_append u 0 1 x1 x2).2).1 0) = 0 → (vp_in ((p_m_append u 0 1 x1 x2).1) 48 ∧ (vp_in ((p_m_append u 0 1 x1 x2).1) 48 ∧ True))) ∧ (¬ (((p_m_append u 0 1 x1 x2).2).1 0) = 0 → True)))) ∧ (¬ 7 < x1 → (((p_m_isVariable x2) = 0 → (ok_m_append u 0 1 x1 x2 ∧ (((((p_m_append u 0 1 x1 x2).2).1 0) = 0 → (vp_in ((p_m_append u 0 1 x1 x2).1) 48 ∧ (vp_in ((p_m_append u 0 1 x1 x2).1) 48 ∧ True))) ∧ (¬ (((p_m_append u 0 1 x1 x2).2).1 0) = 0 → True)))) ∧ (¬ (p_m_isVariable x2) = 0 → (((p_m_isVariable x3) = 0 → (ok_m_append u 0 1 x1 x2 ∧ (((((p_m_append u 0 1 x1 x2).2).1 0) = 0 → (vp_in ((p_m_append u 0 1 x1 x2).1) 48 ∧ (vp_in ((p_m_append u 0 1 x1 x2).1) 48 ∧ True))) ∧ (¬ (((p_m_append u 0 1 x1 x2).2).1 0) = 0 → True)))) ∧ (¬ (p_m_isVariable x3) = 0 → (((p_m_isVariable x4) = 0 → (ok_m_append u 0 1 x1 x2 ∧ (((((p_m_append u 0 1 x1 x2).2).1 0) = 0 → (vp_in ((p_m_append u 0 1 x1 x2).1) 48 ∧ (vp_in ((p_m_append u 0 1 x1 x2).1) 48 ∧ True))) ∧ (¬ (((p_m_append u 0 1 x1 x2).2).1 0) = 0 → True)))) ∧ (¬ (p_m_isVariable x4) = 0 → (ok_m_append u 1 1 x1 x2 ∧ (((((p_m_append u 1 1 x1 x2).2).1 0) = 0 → (vp_in ((p_m_append u 1 1 x1 x2).1) 48 ∧ (vp_in ((p_m_append u 1 1 x1 x2).1) 48 ∧ True))) ∧ (¬ (((p_m_append u 1 1 x1 x2).2).1 0) = 0 → True)))))))))))))
set_option maxHeartbeats 4000000 in
set_option maxRecDepth 100000 in
theorem c_m_compute (l : Launch) (D : va_G) (am : Nat → Nat) (cI cZ : ClassId) (zz : (Nat → Prop) → State → Heap → Prop) (hzz : Zok zz) (u : St) (x1 x2 x3 x4 : Int32) (hok : ok_m_compute u x1 x2 x3 x4) : tfI l D vwCl (tyT cI cZ) zz yX4_compute wsX4_compute ({ frames := 1, cells := 0, slots := 0, locals := 24 } : Room) [.ref (am 0), .int x1, .int x2, .int x3, .int x4] (wM am cI cZ u) (p_m_compute u x1 x2 x3 x4).1 (wM am cI cZ ((p_m_compute u x1 x2 x3 x4).2)) := by
  intro sz
  unfold ok_m_compute at hok
  refine Met.ofW (cc := cX4_compute) (maxL := 6) (ret := (some .int)) (by decide) rfl ?_
  intro p e s m args below meth c s₁ B hml hv
  obtain ⟨rfl, hsz, hP, hK, hD0, hZ⟩ := hv
  have hx := B.exec
  have hb := B.bytes
  have hr := B.returns
  have hts := atoms_spec (ws := wsX4_compute) B.pre
  have hown : s.vm.findClass RX4 = some m.cls := findClass_of_methodNamed B.named
  have hlocks := B.notSynchronized
  subst hsz
  have hD := hD0.self (sz := s.heap.size)
  generalize hAe : va_A (wM am cI cZ u) s.heap.size = A at hD hZ ⊢
  have hA : ∀ q : Nat, s.heap.size ≤ q → A q := fun q h => by rw [← hAe]; exact Or.inr h
  have hS : va_S A s.heap s.heap [] := va_S.rf
  have Cx : cxt p s m ([.ref (am 0), .int x1, .int x2, .int x3, .int x4] : List Value).toArray meth c cX4_compute 6 (some .int) wsX4_compute RX4 D vwCl (tyT cI cZ) zz A := ⟨hx, hb, hr, hts, hown, hlocks, hml, hK, hA, hZ⟩
  have hl := lv_entry ([.ref (am 0), .int x1, .int x2, .int x3, .int x4]) (n := 6) (Nat.le_of_ble_eq_true rfl)
  rw [lg_entry_eq]
  generalize (lg_sl ([.ref (am 0), .int x1, .int x2, .int x3, .int x4]) ++ List.replicate (6 - (lg_sl ([.ref (am 0), .int x1, .int x2, .int x3, .int x4])).length) Slot.unset).toArray = ls at hl ⊢
  have hl : lv_has ls 6 [(0, .ref (am 0)), (1, .int x1), (2, .int x2), (3, .int x3), (4, .int x4)] := hl
  refine lv_aload_n hx hb dX4_compute_0 rfl (lv_at hl 0 rfl) ?_
  refine lv_iload_n hx hb dX4_compute_1 rfl (lv_at hl 1 rfl) ?_
  refine lv_if_lt (tgt := 37) hx hb dX4_compute_2 (by decide) (fun c_1 => ?_) (fun c_1 => ?_)
  · have hok := hok.1 c_1
    refine lv_iconst (v := 0) hx hb dX4_compute_37 (by decide) ?_
    refine lv_iconst (v := 1) hx hb dX4_compute_38 (by decide) ?_
    refine lv_iload_n hx hb dX4_compute_39 rfl (lv_at hl 1 rfl) ?_
    refine lv_iload_n hx hb dX4_compute_40 rfl (lv_at hl 2 rfl) ?_
    obtain ⟨h_2, hok⟩ := hok
    refine k_callVi (As := [.int 0, .int 1, .int x1, .int x2]) (rest := []) hzz ⟨hx, hb, hml, hown, hts⟩ (c_m_append l D am cI cZ zz hzz u 0 1 x1 x2 h_2) (cwV 4 hts (tb_V tw_3_179 tw_3_181 slX4_append tw_1_5 tw_3_182) rfl rfl rfl (by decide +kernel) ⟨Nat.le_of_ble_eq_true rfl, Nat.le_of_ble_eq_true rfl⟩) (va_recv hK hP (ci := 4) (q0 := 0) rfl rfl) rfl hl.1 rfl (lv_room (Nat.le_of_ble_eq_true rfl)) dX4_compute_41 ⟨Nat.le_of_ble_eq_true rfl, Nat.le_of_ble_eq_true rfl⟩ hP hK hD hS hA hZ (fun H locs hP hD hS => ?_)
    generalize eu_3 : (p_m_append u 0 1 x1 x2).2 = u_3 at hP hD ⊢
    try rw [eu_3] at hok
    refine lv_istore (lv' := [(5, .int ((p_m_append u 0 1 x1 x2).1)), (0, .ref (am 0)), (1, .int x1), (2, .int x2), (3, .int x3), (4, .int x4)]) hx hb dX4_compute_44 hl (by decide) rfl (fun ls hl => ?_)
    refine lv_aload_n hx hb dX4_compute_46 rfl (lv_at hl 1 rfl) ?_
    refine va_get (ci := 4) (v := .int (u_3.1 0)) (C := RX4) (T := TX4) (N := 22) hx hb hts (ivX4 _) hown hK hP 0 rfl rfl 0 (by decide) (hts _ (tb_c tw_3_101)) (fun _ h9 => h9) rfl dX4_compute_47 ?_
    refine lv_if_ne (tgt := 70) hx hb dX4_compute_50 (by decide) (fun c_4 => ?_) (fun c_4 => ?_)
    · have hok := hok.2 c_4
      refine lv_iload hx hb dX4_compute_70 (lv_at hl 0 rfl) ?_
      have e9 : p_m_compute u x1 x2 x3 x4 = ((p_m_append u 0 1 x1 x2).1, u_3) := by
        subst eu_3
        rw [p_m_compute, if_pos c_1, if_neg c_4]
      rw [e9]
      exact W.iret hx hb hr (fun t ht hW => ⟨⟨_, (), rfl, rfl, by rw [ht]; exact hP, va_K.moved hW.alike hK, hD⟩, hS.F ht⟩) hS.2.2 dX4_compute_72
    · have hok := hok.1 c_4
      refine lv_aload_n hx hb dX4_compute_53 rfl (lv_at hl 1 rfl) ?_
      refine va_get (ci := 4) (v := .ref (am 4)) (C := RX4) (T := TX4) (N := 22) hx hb hts (ivX4 _) hown hK hP 0 rfl rfl 5 (by decide) (hts _ (tb_c tw_3_106)) (fun _ h9 => h9) rfl dX4_compute_54 ?_
      refine lv_iload hx hb dX4_compute_57 (lv_at hl 0 rfl) ?_
      refine lv_iload_n hx hb dX4_compute_59 rfl (lv_at hl 4 rfl) ?_
      obtain ⟨h_5, hok⟩ := hok
      refine va_iast hx hb hK hP hD hS 4 0 rfl rfl h_5 dX4_compute_60 (fun H locs hP hD hS => ?_)
      have hP : va_P D vwCl (wM am cI cZ (sA u_3 3 ((p_m_append u 0 1 x1 x2).1) x3)) H := hP
      have hD : va_D A (wM am cI cZ (sA u_3 3 ((p_m_append u 0 1 x1 x2).1) x3)) := hD
      refine lv_aload_n hx hb dX4_compute_61 rfl (lv_at hl 1 rfl) ?_
      refine va_get (ci := 4) (v := .ref (am 5)) (C := RX4) (T := TX4) (N := 22) hx hb hts (ivX4 _) hown hK hP 0 rfl rfl 6 (by decide) (hts _ (tb_c tw_3_107)) (fun _ h9 => h9) rfl dX4_compute_62 ?_
      refine lv_iload hx hb dX4_compute_65 (lv_at hl 0 rfl) ?_
      refine lv_iload hx hb dX4_compute_67 (lv_at hl 5 rfl) ?_
      obtain ⟨h_6, hok⟩ := hok
      refine va_iast hx hb hK hP hD hS 5 0 rfl rfl h_6 dX4_compute_69 (fun H locs hP hD hS => ?_)
      have hP : va_P D vwCl (wM am cI cZ (sA (sA u_3 3 ((p_m_append u 0 1 x1 x2).1) x3) 4 ((p_m_append u 0 1 x1 x2).1) x4)) H := hP
      have hD : va_D A (wM am cI cZ (sA (sA u_3 3 ((p_m_append u 0 1 x1 x2).1) x3) 4 ((p_m_append u 0 1 x1 x2).1) x4)) := hD
      refine lv_iload hx hb dX4_compute_70 (lv_at hl 0 rfl) ?_
      have e9 : p_m_compute u x1 x2 x3 x4 = ((p_m_append u 0 1 x1 x2).1, sA (sA u_3 3 ((p_m_append u 0 1 x1 x2).1) x3) 4 ((p_m_append u 0 1 x1 x2).1) x4) := by
        subst eu_3
        rw [p_m_compute, if_pos c_1, if_pos c_4]
      rw [e9]
      exact W.iret hx hb hr (fun t ht hW => ⟨⟨_, (), rfl, rfl, by rw [ht]; exact hP, va_K.moved hW.alike hK, hD⟩, hS.F ht⟩) hS.2.2 dX4_compute_72
  · have hok := hok.2 c_1
    refine lv_iload_n hx hb dX4_compute_5 rfl (lv_at hl 1 rfl) ?_
    refine lv_bipush (v := 7) hx hb dX4_compute_6 (by decide) ?_
    refine lv_icmp_gt (tgt := 37) hx hb dX4_compute_8 (by decide) (fun c_7 => ?_) (fun c_7 => ?_)
    · have hok := hok.1 c_7
      refine lv_iconst (v := 0) hx hb dX4_compute_37 (by decide) ?_
      refine lv_iconst (v := 1) hx hb dX4_compute_38 (by decide) ?_
      refine lv_iload_n hx hb dX4_compute_39 rfl (lv_at hl 1 rfl) ?_
      refine lv_iload_n hx hb dX4_compute_40 rfl (lv_at hl 2 rfl) ?_
      obtain ⟨h_8, hok⟩ := hok
      refine k_callVi (As := [.int 0, .int 1, .int x1, .int x2]) (rest := []) hzz ⟨hx, hb, hml, hown, hts⟩ (c_m_append l D am cI cZ zz hzz u 0 1 x1 x2 h_8) (cwV 4 hts (tb_V tw_3_179 tw_3_181 slX4_append tw_1_5 tw_3_182) rfl rfl rfl (by decide +kernel) ⟨Nat.le_of_ble_eq_true rfl, Nat.le_of_ble_eq_true rfl⟩) (va_recv hK hP (ci := 4) (q0 := 0) rfl rfl) rfl hl.1 rfl (lv_room (Nat.le_of_ble_eq_true rfl)) dX4_compute_41 ⟨Nat.le_of_ble_eq_true rfl, Nat.le_of_ble_eq_true rfl⟩ hP hK hD hS hA hZ (fun H locs hP hD hS => ?_)
      generalize eu_9 : (p_m_append u 0 1 x1 x2).2 = u_9 at hP hD ⊢
      try rw [eu_9] at hok
      refine lv_istore (lv' := [(5, .int ((p_m_append u 0 1 x1 x2).1)), (0, .ref (am 0)), (1, .int x1), (2, .int x2), (3, .int x3), (4, .int x4)]) hx hb dX4_compute_44 hl (by decide) rfl (fun ls hl => ?_)
      refine lv_aload_n hx hb dX4_compute_46 rfl (lv_at hl 1 rfl) ?_
      refine va_get (ci := 4) (v := .int (u_9.1 0)) (C := RX4) (T := TX4) (N := 22) hx hb hts (ivX4 _) hown hK hP 0 rfl rfl 0 (by decide) (hts _ (tb_c tw_3_101)) (fun _ h9 => h9) rfl dX4_compute_47 ?_
      refine lv_if_ne (tgt := 70) hx hb dX4_compute_50 (by decide) (fun c_10 => ?_) (fun c_10 => ?_)
      · have hok := hok.2 c_10
        refine lv_iload hx hb dX4_compute_70 (lv_at hl 0 rfl) ?_
        have e9 : p_m_compute u x1 x2 x3 x4 = ((p_m_append u 0 1 x1 x2).1, u_9) := by
          subst eu_9
          rw [p_m_compute, if_neg c_1, if_pos c_7, if_neg c_10]
        rw [e9]
        exact W.iret hx hb hr (fun t ht hW => ⟨⟨_, (), rfl, rfl, by rw [ht]; exact hP, va_K.moved hW.alike hK, hD⟩, hS.F ht⟩) hS.2.2 dX4_compute_72
      · have hok := hok.1 c_10
        refine lv_aload_n hx hb dX4_compute_53 rfl (lv_at hl 1 rfl) ?_
        refine va_get (ci := 4) (v := .ref (am 4)) (C := RX4) (T := TX4) (N := 22) hx hb hts (ivX4 _) hown hK hP 0 rfl rfl 5 (by decide) (hts _ (tb_c tw_3_106)) (fun _ h9 => h9) rfl dX4_compute_54 ?_
        refine lv_iload hx hb dX4_compute_57 (lv_at hl 0 rfl) ?_
        refine lv_iload_n hx hb dX4_compute_59 rfl (lv_at hl 4 rfl) ?_
        obtain ⟨h_11, hok⟩ := hok
        refine va_iast hx hb hK hP hD hS 4 0 rfl rfl h_11 dX4_compute_60 (fun H locs hP hD hS => ?_)
        have hP : va_P D vwCl (wM am cI cZ (sA u_9 3 ((p_m_append u 0 1 x1 x2).1) x3)) H := hP
        have hD : va_D A (wM am cI cZ (sA u_9 3 ((p_m_append u 0 1 x1 x2).1) x3)) := hD
        refine lv_aload_n hx hb dX4_compute_61 rfl (lv_at hl 1 rfl) ?_
        refine va_get (ci := 4) (v := .ref (am 5)) (C := RX4) (T := TX4) (N := 22) hx hb hts (ivX4 _) hown hK hP 0 rfl rfl 6 (by decide) (hts _ (tb_c tw_3_107)) (fun _ h9 => h9) rfl dX4_compute_62 ?_
        refine lv_iload hx hb dX4_compute_65 (lv_at hl 0 rfl) ?_
        refine lv_iload hx hb dX4_compute_67 (lv_at hl 5 rfl) ?_
        obtain ⟨h_12, hok⟩ := hok
        refine va_iast hx hb hK hP hD hS 5 0 rfl rfl h_12 dX4_compute_69 (fun H locs hP hD hS => ?_)
        have hP : va_P D vwCl (wM am cI cZ (sA (sA u_9 3 ((p_m_append u 0 1 x1 x2).1) x3) 4 ((p_m_append u 0 1 x1 x2).1) x4)) H := hP
        have hD : va_D A (wM am cI cZ (sA (sA u_9 3 ((p_m_append u 0 1 x1 x2).1) x3) 4 ((p_m_append u 0 1 x1 x2).1) x4)) := hD
        refine lv_iload hx hb dX4_compute_70 (lv_at hl 0 rfl) ?_
        have e9 : p_m_compute u x1 x2 x3 x4 = ((p_m_append u 0 1 x1 x2).1, sA (sA u_9 3 ((p_m_append u 0 1 x1 x2).1) x3) 4 ((p_m_append u 0 1 x1 x2).1) x4) := by
          subst eu_9
          rw [p_m_compute, if_neg c_1, if_pos c_7, if_pos c_10]
        rw [e9]
        exact W.iret hx hb hr (fun t ht hW => ⟨⟨_, (), rfl, rfl, by rw [ht]; exact hP, va_K.moved hW.alike hK, hD⟩, hS.F ht⟩) hS.2.2 dX4_compute_72
    · have hok := hok.2 c_7
      refine lv_iload_n hx hb dX4_compute_11 rfl (lv_at hl 2 rfl) ?_
      refine k_callSi (As := [.int x2]) (rest := [.ref (am 0)]) hzz ⟨hx, hb, hml, hown, hts⟩ (c_m_isVariable l D am cI cZ zz hzz (wM am cI cZ u) x2) (cwS 1 hts (tb_S tw_3_176 tw_3_177 tw_1_5 tw_3_178) rfl rfl rfl (by decide +kernel) ⟨Nat.le_of_ble_eq_true rfl, Nat.le_of_ble_eq_true rfl⟩) rfl hl.1 rfl (lv_room (Nat.le_of_ble_eq_true rfl)) dX4_compute_12 ⟨Nat.le_of_ble_eq_true rfl, Nat.le_of_ble_eq_true rfl⟩ hP hK hD hS hA hZ (fun H locs hP hD hS => ?_)
      refine lv_if_eq (tgt := 37) hx hb dX4_compute_15 (by decide) (fun c_14 => ?_) (fun c_14 => ?_)
      · have hok := hok.1 c_14
        refine lv_iconst (v := 0) hx hb dX4_compute_37 (by decide) ?_
        refine lv_iconst (v := 1) hx hb dX4_compute_38 (by decide) ?_
        refine lv_iload_n hx hb dX4_compute_39 rfl (lv_at hl 1 rfl) ?_
        refine lv_iload_n hx hb dX4_compute_40 rfl (lv_at hl 2 rfl) ?_
        obtain ⟨h_15, hok⟩ := hok
        refine k_callVi (As := [.int 0, .int 1, .int x1, .int x2]) (rest := []) hzz ⟨hx, hb, hml, hown, hts⟩ (c_m_append l D am cI cZ zz hzz u 0 1 x1 x2 h_15) (cwV 4 hts (tb_V tw_3_179 tw_3_181 slX4_append tw_1_5 tw_3_182) rfl rfl rfl (by decide +kernel) ⟨Nat.le_of_ble_eq_true rfl, Nat.le_of_ble_eq_true rfl⟩) (va_recv hK hP (ci := 4) (q0 := 0) rfl rfl) rfl hl.1 rfl (lv_room (Nat.le_of_ble_eq_true rfl)) dX4_compute_41 ⟨Nat.le_of_ble_eq_true rfl, Nat.le_of_ble_eq_true rfl⟩ hP hK hD hS hA hZ (fun H locs hP hD hS => ?_)
        generalize eu_16 : (p_m_append u 0 1 x1 x2).2 = u_16 at hP hD ⊢
        try rw [eu_16] at hok
        refine lv_istore (lv' := [(5, .int ((p_m_append u 0 1 x1 x2).1)), (0, .ref (am 0)), (1, .int x1), (2, .int x2), (3, .int x3), (4, .int x4)]) hx hb dX4_compute_44 hl (by decide) rfl (fun ls hl => ?_)
        refine lv_aload_n hx hb dX4_compute_46 rfl (lv_at hl 1 rfl) ?_
        refine va_get (ci := 4) (v := .int (u_16.1 0)) (C := RX4) (T := TX4) (N := 22) hx hb hts (ivX4 _) hown hK hP 0 rfl rfl 0 (by decide) (hts _ (tb_c tw_3_101)) (fun _ h9 => h9) rfl dX4_compute_47 ?_
        refine lv_if_ne (tgt := 70) hx hb dX4_compute_50 (by decide) (fun c_17 => ?_) (fun c_17 => ?_)
        · have hok := hok.2 c_17
          refine lv_iload hx hb dX4_compute_70 (lv_at hl 0 rfl) ?_
          have e9 : p_m_compute u x1 x2 x3 x4 = ((p_m_append u 0 1 x1 x2).1, u_16) := by
            subst eu_16
            rw [p_m_compute, if_neg c_1, if_neg c_7, if_pos c_14, if_neg c_17]
          rw [e9]
          exact W.iret hx hb hr (fun t ht hW => ⟨⟨_, (), rfl, rfl, by rw [ht]; exact hP, va_K.moved hW.alike hK, hD⟩, hS.F ht⟩) hS.2.2 dX4_compute_72
        · have hok := hok.1 c_17
          refine lv_aload_n hx hb dX4_compute_53 rfl (lv_at hl 1 rfl) ?_
          refine va_get (ci := 4) (v := .ref (am 4)) (C := RX4) (T := TX4) (N := 22) hx hb hts (ivX4 _) hown hK hP 0 rfl rfl 5 (by decide) (hts _ (tb_c tw_3_106)) (fun _ h9 => h9) rfl dX4_compute_54 ?_
          refine lv_iload hx hb dX4_compute_57 (lv_at hl 0 rfl) ?_
          refine lv_iload_n hx hb dX4_compute_59 rfl (lv_at hl 4 rfl) ?_
          obtain ⟨h_18, hok⟩ := hok
          refine va_iast hx hb hK hP hD hS 4 0 rfl rfl h_18 dX4_compute_60 (fun H locs hP hD hS => ?_)
          have hP : va_P D vwCl (wM am cI cZ (sA u_16 3 ((p_m_append u 0 1 x1 x2).1) x3)) H := hP
          have hD : va_D A (wM am cI cZ (sA u_16 3 ((p_m_append u 0 1 x1 x2).1) x3)) := hD
          refine lv_aload_n hx hb dX4_compute_61 rfl (lv_at hl 1 rfl) ?_
          refine va_get (ci := 4) (v := .ref (am 5)) (C := RX4) (T := TX4) (N := 22) hx hb hts (ivX4 _) hown hK hP 0 rfl rfl 6 (by decide) (hts _ (tb_c tw_3_107)) (fun _ h9 => h9) rfl dX4_compute_62 ?_
          refine lv_iload hx hb dX4_compute_65 (lv_at hl 0 rfl) ?_
          refine lv_iload hx hb dX4_compute_67 (lv_at hl 5 rfl) ?_
          obtain ⟨h_19, hok⟩ := hok
          refine va_iast hx hb hK hP hD hS 5 0 rfl rfl h_19 dX4_compute_69 (fun H locs hP hD hS => ?_)
          have hP : va_P D vwCl (wM am cI cZ (sA (sA u_16 3 ((p_m_append u 0 1 x1 x2).1) x3) 4 ((p_m_append u 0 1 x1 x2).1) x4)) H := hP
          have hD : va_D A (wM am cI cZ (sA (sA u_16 3 ((p_m_append u 0 1 x1 x2).1) x3) 4 ((p_m_append u 0 1 x1 x2).1) x4)) := hD
          refine lv_iload hx hb dX4_compute_70 (lv_at hl 0 rfl) ?_
          have e9 : p_m_compute u x1 x2 x3 x4 = ((p_m_append u 0 1 x1 x2).1, sA (sA u_16 3 ((p_m_append u 0 1 x1 x2).1) x3) 4 ((p_m_append u 0 1 x1 x2).1) x4) := by
            subst eu_16
            rw [p_m_compute, if_neg c_1, if_neg c_7, if_pos c_14, if_pos c_17]
          rw [e9]
          exact W.iret hx hb hr (fun t ht hW => ⟨⟨_, (), rfl, rfl, by rw [ht]; exact hP, va_K.moved hW.alike hK, hD⟩, hS.F ht⟩) hS.2.2 dX4_compute_72
      · have hok := hok.2 c_14
        refine lv_iload_n hx hb dX4_compute_18 rfl (lv_at hl 3 rfl) ?_
        refine k_callSi (As := [.int x3]) (rest := [.ref (am 0)]) hzz ⟨hx, hb, hml, hown, hts⟩ (c_m_isVariable l D am cI cZ zz hzz (wM am cI cZ u) x3) (cwS 1 hts (tb_S tw_3_176 tw_3_177 tw_1_5 tw_3_178) rfl rfl rfl (by decide +kernel) ⟨Nat.le_of_ble_eq_true rfl, Nat.le_of_ble_eq_true rfl⟩) rfl hl.1 rfl (lv_room (Nat.le_of_ble_eq_true rfl)) dX4_compute_19 ⟨Nat.le_of_ble_eq_true rfl, Nat.le_of_ble_eq_true rfl⟩ hP hK hD hS hA hZ (fun H locs hP hD hS => ?_)
        refine lv_if_eq (tgt := 37) hx hb dX4_compute_22 (by decide) (fun c_21 => ?_) (fun c_21 => ?_)
        · have hok := hok.1 c_21
          refine lv_iconst (v := 0) hx hb dX4_compute_37 (by decide) ?_
          refine lv_iconst (v := 1) hx hb dX4_compute_38 (by decide) ?_
          refine lv_iload_n hx hb dX4_compute_39 rfl (lv_at hl 1 rfl) ?_
          refine lv_iload_n hx hb dX4_compute_40 rfl (lv_at hl 2 rfl) ?_
          obtain ⟨h_22, hok⟩ := hok
          refine k_callVi (As := [.int 0, .int 1, .int x1, .int x2]) (rest := []) hzz ⟨hx, hb, hml, hown, hts⟩ (c_m_append l D am cI cZ zz hzz u 0 1 x1 x2 h_22) (cwV 4 hts (tb_V tw_3_179 tw_3_181 slX4_append tw_1_5 tw_3_182) rfl rfl rfl (by decide +kernel) ⟨Nat.le_of_ble_eq_true rfl, Nat.le_of_ble_eq_true rfl⟩) (va_recv hK hP (ci := 4) (q0 := 0) rfl rfl) rfl hl.1 rfl (lv_room (Nat.le_of_ble_eq_true rfl)) dX4_compute_41 ⟨Nat.le_of_ble_eq_true rfl, Nat.le_of_ble_eq_true rfl⟩ hP hK hD hS hA hZ (fun H locs hP hD hS => ?_)
          generalize eu_23 : (p_m_append u 0 1 x1 x2).2 = u_23 at hP hD ⊢
          try rw [eu_23] at hok
          refine lv_istore (lv' := [(5, .int ((p_m_append u 0 1 x1 x2).1)), (0, .ref (am 0)), (1, .int x1), (2, .int x2), (3, .int x3), (4, .int x4)]) hx hb dX4_compute_44 hl (by decide) rfl (fun ls hl => ?_)
          refine lv_aload_n hx hb dX4_compute_46 rfl (lv_at hl 1 rfl) ?_
          refine va_get (ci := 4) (v := .int (u_23.1 0)) (C := RX4) (T := TX4) (N := 22) hx hb hts (ivX4 _) hown hK hP 0 rfl rfl 0 (by decide) (hts _ (tb_c tw_3_101)) (fun _ h9 => h9) rfl dX4_compute_47 ?_
          refine lv_if_ne (tgt := 70) hx hb dX4_compute_50 (by decide) (fun c_24 => ?_) (fun c_24 => ?_)
          · have hok := hok.2 c_24
            refine lv_iload hx hb dX4_compute_70 (lv_at hl 0 rfl) ?_
            have e9 : p_m_compute u x1 x2 x3 x4 = ((p_m_append u 0 1 x1 x2).1, u_23) := by
              subst eu_23
              rw [p_m_compute, if_neg c_1, if_neg c_7, if_neg c_14, if_pos c_21, if_neg c_24]
            rw [e9]
            exact W.iret hx hb hr (fun t ht hW => ⟨⟨_, (), rfl, rfl, by rw [ht]; exact hP, va_K.moved hW.alike hK, hD⟩, hS.F ht⟩) hS.2.2 dX4_compute_72
          · have hok := hok.1 c_24
            refine lv_aload_n hx hb dX4_compute_53 rfl (lv_at hl 1 rfl) ?_
            refine va_get (ci := 4) (v := .ref (am 4)) (C := RX4) (T := TX4) (N := 22) hx hb hts (ivX4 _) hown hK hP 0 rfl rfl 5 (by decide) (hts _ (tb_c tw_3_106)) (fun _ h9 => h9) rfl dX4_compute_54 ?_
            refine lv_iload hx hb dX4_compute_57 (lv_at hl 0 rfl) ?_
            refine lv_iload_n hx hb dX4_compute_59 rfl (lv_at hl 4 rfl) ?_
            obtain ⟨h_25, hok⟩ := hok
            refine va_iast hx hb hK hP hD hS 4 0 rfl rfl h_25 dX4_compute_60 (fun H locs hP hD hS => ?_)
            have hP : va_P D vwCl (wM am cI cZ (sA u_23 3 ((p_m_append u 0 1 x1 x2).1) x3)) H := hP
            have hD : va_D A (wM am cI cZ (sA u_23 3 ((p_m_append u 0 1 x1 x2).1) x3)) := hD
            refine lv_aload_n hx hb dX4_compute_61 rfl (lv_at hl 1 rfl) ?_
            refine va_get (ci := 4) (v := .ref (am 5)) (C := RX4) (T := TX4) (N := 22) hx hb hts (ivX4 _) hown hK hP 0 rfl rfl 6 (by decide) (hts _ (tb_c tw_3_107)) (fun _ h9 => h9) rfl dX4_compute_62 ?_
            refine lv_iload hx hb dX4_compute_65 (lv_at hl 0 rfl) ?_
            refine lv_iload hx hb dX4_compute_67 (lv_at hl 5 rfl) ?_
            obtain ⟨h_26, hok⟩ := hok
            refine va_iast hx hb hK hP hD hS 5 0 rfl rfl h_26 dX4_compute_69 (fun H locs hP hD hS => ?_)
            have hP : va_P D vwCl (wM am cI cZ (sA (sA u_23 3 ((p_m_append u 0 1 x1 x2).1) x3) 4 ((p_m_append u 0 1 x1 x2).1) x4)) H := hP
            have hD : va_D A (wM am cI cZ (sA (sA u_23 3 ((p_m_append u 0 1 x1 x2).1) x3) 4 ((p_m_append u 0 1 x1 x2).1) x4)) := hD
            refine lv_iload hx hb dX4_compute_70 (lv_at hl 0 rfl) ?_
            have e9 : p_m_compute u x1 x2 x3 x4 = ((p_m_append u 0 1 x1 x2).1, sA (sA u_23 3 ((p_m_append u 0 1 x1 x2).1) x3) 4 ((p_m_append u 0 1 x1 x2).1) x4) := by
              subst eu_23
              rw [p_m_compute, if_neg c_1, if_neg c_7, if_neg c_14, if_pos c_21, if_pos c_24]
            rw [e9]
            exact W.iret hx hb hr (fun t ht hW => ⟨⟨_, (), rfl, rfl, by rw [ht]; exact hP, va_K.moved hW.alike hK, hD⟩, hS.F ht⟩) hS.2.2 dX4_compute_72
        · have hok := hok.2 c_21
          refine lv_iload hx hb dX4_compute_25 (lv_at hl 4 rfl) ?_
          refine k_callSi (As := [.int x4]) (rest := [.ref (am 0)]) hzz ⟨hx, hb, hml, hown, hts⟩ (c_m_isVariable l D am cI cZ zz hzz (wM am cI cZ u) x4) (cwS 1 hts (tb_S tw_3_176 tw_3_177 tw_1_5 tw_3_178) rfl rfl rfl (by decide +kernel) ⟨Nat.le_of_ble_eq_true rfl, Nat.le_of_ble_eq_true rfl⟩) rfl hl.1 rfl (lv_room (Nat.le_of_ble_eq_true rfl)) dX4_compute_27 ⟨Nat.le_of_ble_eq_true rfl, Nat.le_of_ble_eq_true rfl⟩ hP hK hD hS hA hZ (fun H locs hP hD hS => ?_)
          refine lv_if_eq (tgt := 37) hx hb dX4_compute_30 (by decide) (fun c_28 => ?_) (fun c_28 => ?_)
          · have hok := hok.1 c_28
            refine lv_iconst (v := 0) hx hb dX4_compute_37 (by decide) ?_
            refine lv_iconst (v := 1) hx hb dX4_compute_38 (by decide) ?_
            refine lv_iload_n hx hb dX4_compute_39 rfl (lv_at hl 1 rfl) ?_
            refine lv_iload_n hx hb dX4_compute_40 rfl (lv_at hl 2 rfl) ?_
            obtain ⟨h_29, hok⟩ := hok
            refine k_callVi (As := [.int 0, .int 1, .int x1, .int x2]) (rest := []) hzz ⟨hx, hb, hml, hown, hts⟩ (c_m_append l D am cI cZ zz hzz u 0 1 x1 x2 h_29) (cwV 4 hts (tb_V tw_3_179 tw_3_181 slX4_append tw_1_5 tw_3_182) rfl rfl rfl (by decide +kernel) ⟨Nat.le_of_ble_eq_true rfl, Nat.le_of_ble_eq_true rfl⟩) (va_recv hK hP (ci := 4) (q0 := 0) rfl rfl) rfl hl.1 rfl (lv_room (Nat.le_of_ble_eq_true rfl)) dX4_compute_41 ⟨Nat.le_of_ble_eq_true rfl, Nat.le_of_ble_eq_true rfl⟩ hP hK hD hS hA hZ (fun H locs hP hD hS => ?_)
            generalize eu_30 : (p_m_append u 0 1 x1 x2).2 = u_30 at hP hD ⊢
            try rw [eu_30] at hok
            refine lv_istore (lv' := [(5, .int ((p_m_append u 0 1 x1 x2).1)), (0, .ref (am 0)), (1, .int x1), (2, .int x2), (3, .int x3), (4, .int x4)]) hx hb dX4_compute_44 hl (by decide) rfl (fun ls hl => ?_)
            refine lv_aload_n hx hb dX4_compute_46 rfl (lv_at hl 1 rfl) ?_
            refine va_get (ci := 4) (v := .int (u_30.1 0)) (C := RX4) (T := TX4) (N := 22) hx hb hts (ivX4 _) hown hK hP 0 rfl rfl 0 (by decide) (hts _ (tb_c tw_3_101)) (fun _ h9 => h9) rfl dX4_compute_47 ?_
            refine lv_if_ne (tgt := 70) hx hb dX4_compute_50 (by decide) (fun c_31 => ?_) (fun c_31 => ?_)
            · have hok := hok.2 c_31
              refine lv_iload hx hb dX4_compute_70 (lv_at hl 0 rfl) ?_
              have e9 : p_m_compute u x1 x2 x3 x4 = ((p_m_append u 0 1 x1 x2).1, u_30) := by
                subst eu_30
                rw [p_m_compute, if_neg c_1, if_neg c_7, if_neg c_14, if_neg c_21, if_pos c_28, if_neg c_31]
              rw [e9]
              exact W.iret hx hb hr (fun t ht hW => ⟨⟨_, (), rfl, rfl, by rw [ht]; exact hP, va_K.moved hW.alike hK, hD⟩, hS.F ht⟩) hS.2.2 dX4_compute_72
            · have hok := hok.1 c_31
              refine lv_aload_n hx hb dX4_compute_53 rfl (lv_at hl 1 rfl) ?_
              refine va_get (ci := 4) (v := .ref (am 4)) (C := RX4) (T := TX4) (N := 22) hx hb hts (ivX4 _) hown hK hP 0 rfl rfl 5 (by decide) (hts _ (tb_c tw_3_106)) (fun _ h9 => h9) rfl dX4_compute_54 ?_
              refine lv_iload hx hb dX4_compute_57 (lv_at hl 0 rfl) ?_
              refine lv_iload_n hx hb dX4_compute_59 rfl (lv_at hl 4 rfl) ?_
              obtain ⟨h_32, hok⟩ := hok
              refine va_iast hx hb hK hP hD hS 4 0 rfl rfl h_32 dX4_compute_60 (fun H locs hP hD hS => ?_)
              have hP : va_P D vwCl (wM am cI cZ (sA u_30 3 ((p_m_append u 0 1 x1 x2).1) x3)) H := hP
              have hD : va_D A (wM am cI cZ (sA u_30 3 ((p_m_append u 0 1 x1 x2).1) x3)) := hD
              refine lv_aload_n hx hb dX4_compute_61 rfl (lv_at hl 1 rfl) ?_
              refine va_get (ci := 4) (v := .ref (am 5)) (C := RX4) (T := TX4) (N := 22) hx hb hts (ivX4 _) hown hK hP 0 rfl rfl 6 (by decide) (hts _ (tb_c tw_3_107)) (fun _ h9 => h9) rfl dX4_compute_62 ?_
              refine lv_iload hx hb dX4_compute_65 (lv_at hl 0 rfl) ?_
              refine lv_iload hx hb dX4_compute_67 (lv_at hl 5 rfl) ?_
              obtain ⟨h_33, hok⟩ := hok
              refine va_iast hx hb hK hP hD hS 5 0 rfl rfl h_33 dX4_compute_69 (fun H locs hP hD hS => ?_)
              have hP : va_P D vwCl (wM am cI cZ (sA (sA u_30 3 ((p_m_append u 0 1 x1 x2).1) x3) 4 ((p_m_append u 0 1 x1 x2).1) x4)) H := hP
              have hD : va_D A (wM am cI cZ (sA (sA u_30 3 ((p_m_append u 0 1 x1 x2).1) x3) 4 ((p_m_append u 0 1 x1 x2).1) x4)) := hD
              refine lv_iload hx hb dX4_compute_70 (lv_at hl 0 rfl) ?_
              have e9 : p_m_compute u x1 x2 x3 x4 = ((p_m_append u 0 1 x1 x2).1, sA (sA u_30 3 ((p_m_append u 0 1 x1 x2).1) x3) 4 ((p_m_append u 0 1 x1 x2).1) x4) := by
                subst eu_30
                rw [p_m_compute, if_neg c_1, if_neg c_7, if_neg c_14, if_neg c_21, if_pos c_28, if_pos c_31]
              rw [e9]
              exact W.iret hx hb hr (fun t ht hW => ⟨⟨_, (), rfl, rfl, by rw [ht]; exact hP, va_K.moved hW.alike hK, hD⟩, hS.F ht⟩) hS.2.2 dX4_compute_72
          · have hok := hok.2 c_28
            refine lv_iconst (v := 1) hx hb dX4_compute_33 (by decide) ?_
            refine lv_goto (tgt := 38) hx hb dX4_compute_34 (by decide) ?_
            refine lv_iconst (v := 1) hx hb dX4_compute_38 (by decide) ?_
            refine lv_iload_n hx hb dX4_compute_39 rfl (lv_at hl 1 rfl) ?_
            refine lv_iload_n hx hb dX4_compute_40 rfl (lv_at hl 2 rfl) ?_
            obtain ⟨h_34, hok⟩ := hok
            refine k_callVi (As := [.int 1, .int 1, .int x1, .int x2]) (rest := []) hzz ⟨hx, hb, hml, hown, hts⟩ (c_m_append l D am cI cZ zz hzz u 1 1 x1 x2 h_34) (cwV 4 hts (tb_V tw_3_179 tw_3_181 slX4_append tw_1_5 tw_3_182) rfl rfl rfl (by decide +kernel) ⟨Nat.le_of_ble_eq_true rfl, Nat.le_of_ble_eq_true rfl⟩) (va_recv hK hP (ci := 4) (q0 := 0) rfl rfl) rfl hl.1 rfl (lv_room (Nat.le_of_ble_eq_true rfl)) dX4_compute_41 ⟨Nat.le_of_ble_eq_true rfl, Nat.le_of_ble_eq_true rfl⟩ hP hK hD hS hA hZ (fun H locs hP hD hS => ?_)
            generalize eu_35 : (p_m_append u 1 1 x1 x2).2 = u_35 at hP hD ⊢
            try rw [eu_35] at hok
            refine lv_istore (lv' := [(5, .int ((p_m_append u 1 1 x1 x2).1)), (0, .ref (am 0)), (1, .int x1), (2, .int x2), (3, .int x3), (4, .int x4)]) hx hb dX4_compute_44 hl (by decide) rfl (fun ls hl => ?_)
            refine lv_aload_n hx hb dX4_compute_46 rfl (lv_at hl 1 rfl) ?_
            refine va_get (ci := 4) (v := .int (u_35.1 0)) (C := RX4) (T := TX4) (N := 22) hx hb hts (ivX4 _) hown hK hP 0 rfl rfl 0 (by decide) (hts _ (tb_c tw_3_101)) (fun _ h9 => h9) rfl dX4_compute_47 ?_
            refine lv_if_ne (tgt := 70) hx hb dX4_compute_50 (by decide) (fun c_36 => ?_) (fun c_36 => ?_)
            · have hok := hok.2 c_36
              refine lv_iload hx hb dX4_compute_70 (lv_at hl 0 rfl) ?_
              have e9 : p_m_compute u x1 x2 x3 x4 = ((p_m_append u 1 1 x1 x2).1, u_35) := by
                subst eu_35
                rw [p_m_compute, if_neg c_1, if_neg c_7, if_neg c_14, if_neg c_21, if_neg c_28, if_neg c_36]
              rw [e9]
              exact W.iret hx hb hr (fun t ht hW => ⟨⟨_, (), rfl, rfl, by rw [ht]; exact hP, va_K.moved hW.alike hK, hD⟩, hS.F ht⟩) hS.2.2 dX4_compute_72
            · have hok := hok.1 c_36
              refine lv_aload_n hx hb dX4_compute_53 rfl (lv_at hl 1 rfl) ?_
              refine va_get (ci := 4) (v := .ref (am 4)) (C := RX4) (T := TX4) (N := 22) hx hb hts (ivX4 _) hown hK hP 0 rfl rfl 5 (by decide) (hts _ (tb_c tw_3_106)) (fun _ h9 => h9) rfl dX4_compute_54 ?_
              refine lv_iload hx hb dX4_compute_57 (lv_at hl 0 rfl) ?_
              refine lv_iload_n hx hb dX4_compute_59 rfl (lv_at hl 4 rfl) ?_
              obtain ⟨h_37, hok⟩ := hok
              refine va_iast hx hb hK hP hD hS 4 0 rfl rfl h_37 dX4_compute_60 (fun H locs hP hD hS => ?_)
              have hP : va_P D vwCl (wM am cI cZ (sA u_35 3 ((p_m_append u 1 1 x1 x2).1) x3)) H := hP
              have hD : va_D A (wM am cI cZ (sA u_35 3 ((p_m_append u 1 1 x1 x2).1) x3)) := hD
              refine lv_aload_n hx hb dX4_compute_61 rfl (lv_at hl 1 rfl) ?_
              refine va_get (ci := 4) (v := .ref (am 5)) (C := RX4) (T := TX4) (N := 22) hx hb hts (ivX4 _) hown hK hP 0 rfl rfl 6 (by decide) (hts _ (tb_c tw_3_107)) (fun _ h9 => h9) rfl dX4_compute_62 ?_
              refine lv_iload hx hb dX4_compute_65 (lv_at hl 0 rfl) ?_
              refine lv_iload hx hb dX4_compute_67 (lv_at hl 5 rfl) ?_
              obtain ⟨h_38, hok⟩ := hok
              refine va_iast hx hb hK hP hD hS 5 0 rfl rfl h_38 dX4_compute_69 (fun H locs hP hD hS => ?_)
              have hP : va_P D vwCl (wM am cI cZ (sA (sA u_35 3 ((p_m_append u 1 1 x1 x2).1) x3) 4 ((p_m_append u 1 1 x1 x2).1) x4)) H := hP
              have hD : va_D A (wM am cI cZ (sA (sA u_35 3 ((p_m_append u 1 1 x1 x2).1) x3) 4 ((p_m_append u 1 1 x1 x2).1) x4)) := hD
              refine lv_iload hx hb dX4_compute_70 (lv_at hl 0 rfl) ?_
              have e9 : p_m_compute u x1 x2 x3 x4 = ((p_m_append u 1 1 x1 x2).1, sA (sA u_35 3 ((p_m_append u 1 1 x1 x2).1) x3) 4 ((p_m_append u 1 1 x1 x2).1) x4) := by
                subst eu_35
                rw [p_m_compute, if_neg c_1, if_neg c_7, if_neg c_14, if_neg c_21, if_neg c_28, if_pos c_36]
              rw [e9]
              exact W.iret hx hb hr (fun t ht hW => ⟨⟨_, (), rfl, rfl, by rw [ht]; exact hP, va_K.moved hW.alike hK, hD⟩, hS.F ht⟩) hS.2.2 dX4_compute_72

def p_m_load (u : St) (x1 x2 : Int32) : Int32 × St := (if (p_m_isVariable x1) = 0 then ((p_m_append u 0 2 x1 x2).1, ((p_m_append u 0 2 x1 x2).2)) else (if (p_m_isVariable x2) = 0 then ((p_m_append u 0 2 x1 x2).1, ((p_m_append u 0 2 x1 x2).2)) else ((p_m_append u 1 2 x1 x2).1, ((p_m_append u 1 2 x1 x2).2))))
def ok_m_load (u : St) (x1 x2 : Int32) : Prop := (((p_m_isVariable x1) = 0 → (ok_m_append u 0 2 x1 x2 ∧ True)) ∧ (¬ (p_m_isVariable x1) = 0 → (((p_m_isVariable x2) = 0 → (ok_m_append u 0 2 x1 x2 ∧ True)) ∧ (¬ (p_m_isVariable x2) = 0 → (ok_m_append u 1 2 x1 x2 ∧ True)))))
set_option maxHeartbeats 4000000 in
set_option maxRecDepth 100000 in
theorem c_m_load (l : Launch) (D : va_G) (am : Nat → Nat) (cI cZ : ClassId) (zz : (Nat → Prop) → State → Heap → Prop) (hzz : Zok zz) (u : St) (x1 x2 : Int32) (hok : ok_m_load u x1 x2) : tfI l D vwCl (tyT cI cZ) zz yX4_load wsX4_load ({ frames := 1, cells := 0, slots := 0, locals := 24 } : Room) [.ref (am 0), .int x1, .int x2] (wM am cI cZ u) (p_m_load u x1 x2).1 (wM am cI cZ ((p_m_load u x1 x2).2)) := by
  intro sz
  unfold ok_m_load at hok
  refine Met.ofW (cc := cX4_load) (maxL := 3) (ret := (some .int)) (by decide) rfl ?_
  intro p e s m args below meth c s₁ B hml hv
  obtain ⟨rfl, hsz, hP, hK, hD0, hZ⟩ := hv
  have hx := B.exec
  have hb := B.bytes
  have hr := B.returns
  have hts := atoms_spec (ws := wsX4_load) B.pre
  have hown : s.vm.findClass RX4 = some m.cls := findClass_of_methodNamed B.named
  have hlocks := B.notSynchronized
  subst hsz
  have hD := hD0.self (sz := s.heap.size)
  generalize hAe : va_A (wM am cI cZ u) s.heap.size = A at hD hZ ⊢
  have hA : ∀ q : Nat, s.heap.size ≤ q → A q := fun q h => by rw [← hAe]; exact Or.inr h
  have hS : va_S A s.heap s.heap [] := va_S.rf
  have Cx : cxt p s m ([.ref (am 0), .int x1, .int x2] : List Value).toArray meth c cX4_load 3 (some .int) wsX4_load RX4 D vwCl (tyT cI cZ) zz A := ⟨hx, hb, hr, hts, hown, hlocks, hml, hK, hA, hZ⟩
  have hl := lv_entry ([.ref (am 0), .int x1, .int x2]) (n := 3) (Nat.le_of_ble_eq_true rfl)
  rw [lg_entry_eq]
  generalize (lg_sl ([.ref (am 0), .int x1, .int x2]) ++ List.replicate (3 - (lg_sl ([.ref (am 0), .int x1, .int x2])).length) Slot.unset).toArray = ls at hl ⊢
  have hl : lv_has ls 3 [(0, .ref (am 0)), (1, .int x1), (2, .int x2)] := hl
  refine lv_aload_n hx hb dX4_load_0 rfl (lv_at hl 0 rfl) ?_
  refine lv_iload_n hx hb dX4_load_1 rfl (lv_at hl 1 rfl) ?_
  refine k_callSi (As := [.int x1]) (rest := [.ref (am 0)]) hzz ⟨hx, hb, hml, hown, hts⟩ (c_m_isVariable l D am cI cZ zz hzz (wM am cI cZ u) x1) (cwS 1 hts (tb_S tw_3_176 tw_3_177 tw_1_5 tw_3_178) rfl rfl rfl (by decide +kernel) ⟨Nat.le_of_ble_eq_true rfl, Nat.le_of_ble_eq_true rfl⟩) rfl hl.1 rfl (lv_room (Nat.le_of_ble_eq_true rfl)) dX4_load_2 ⟨Nat.le_of_ble_eq_true rfl, Nat.le_of_ble_eq_true rfl⟩ hP hK hD hS hA hZ (fun H locs hP hD hS => ?_)
  refine lv_if_eq (tgt := 19) hx hb dX4_load_5 (by decide) (fun c_2 => ?_) (fun c_2 => ?_)
  · have hok := hok.1 c_2
    refine lv_iconst (v := 0) hx hb dX4_load_19 (by decide) ?_
    refine lv_iconst (v := 2) hx hb dX4_load_20 (by decide) ?_
    refine lv_iload_n hx hb dX4_load_21 rfl (lv_at hl 1 rfl) ?_
    refine lv_iload_n hx hb dX4_load_22 rfl (lv_at hl 2 rfl) ?_
    obtain ⟨h_3, hok⟩ := hok
    refine k_callVi (As := [.int 0, .int 2, .int x1, .int x2]) (rest := []) hzz ⟨hx, hb, hml, hown, hts⟩ (c_m_append l D am cI cZ zz hzz u 0 2 x1 x2 h_3) (cwV 4 hts (tb_V tw_3_179 tw_3_181 slX4_append tw_1_5 tw_3_182) rfl rfl rfl (by decide +kernel) ⟨Nat.le_of_ble_eq_true rfl, Nat.le_of_ble_eq_true rfl⟩) (va_recv hK hP (ci := 4) (q0 := 0) rfl rfl) rfl hl.1 rfl (lv_room (Nat.le_of_ble_eq_true rfl)) dX4_load_23 ⟨Nat.le_of_ble_eq_true rfl, Nat.le_of_ble_eq_true rfl⟩ hP hK hD hS hA hZ (fun H locs hP hD hS => ?_)
    generalize eu_4 : (p_m_append u 0 2 x1 x2).2 = u_4 at hP hD ⊢
    try rw [eu_4] at hok
    have e9 : p_m_load u x1 x2 = ((p_m_append u 0 2 x1 x2).1, u_4) := by
      subst eu_4
      rw [p_m_load, if_pos c_2]
    rw [e9]
    exact W.iret hx hb hr (fun t ht hW => ⟨⟨_, (), rfl, rfl, by rw [ht]; exact hP, va_K.moved hW.alike hK, hD⟩, hS.F ht⟩) hS.2.2 dX4_load_26
  · have hok := hok.2 c_2
    refine lv_iload_n hx hb dX4_load_8 rfl (lv_at hl 2 rfl) ?_
    refine k_callSi (As := [.int x2]) (rest := [.ref (am 0)]) hzz ⟨hx, hb, hml, hown, hts⟩ (c_m_isVariable l D am cI cZ zz hzz (wM am cI cZ u) x2) (cwS 1 hts (tb_S tw_3_176 tw_3_177 tw_1_5 tw_3_178) rfl rfl rfl (by decide +kernel) ⟨Nat.le_of_ble_eq_true rfl, Nat.le_of_ble_eq_true rfl⟩) rfl hl.1 rfl (lv_room (Nat.le_of_ble_eq_true rfl)) dX4_load_9 ⟨Nat.le_of_ble_eq_true rfl, Nat.le_of_ble_eq_true rfl⟩ hP hK hD hS hA hZ (fun H locs hP hD hS => ?_)
    refine lv_if_eq (tgt := 19) hx hb dX4_load_12 (by decide) (fun c_6 => ?_) (fun c_6 => ?_)
    · have hok := hok.1 c_6
      refine lv_iconst (v := 0) hx hb dX4_load_19 (by decide) ?_
      refine lv_iconst (v := 2) hx hb dX4_load_20 (by decide) ?_
      refine lv_iload_n hx hb dX4_load_21 rfl (lv_at hl 1 rfl) ?_
      refine lv_iload_n hx hb dX4_load_22 rfl (lv_at hl 2 rfl) ?_
      obtain ⟨h_7, hok⟩ := hok
      refine k_callVi (As := [.int 0, .int 2, .int x1, .int x2]) (rest := []) hzz ⟨hx, hb, hml, hown, hts⟩ (c_m_append l D am cI cZ zz hzz u 0 2 x1 x2 h_7) (cwV 4 hts (tb_V tw_3_179 tw_3_181 slX4_append tw_1_5 tw_3_182) rfl rfl rfl (by decide +kernel) ⟨Nat.le_of_ble_eq_true rfl, Nat.le_of_ble_eq_true rfl⟩) (va_recv hK hP (ci := 4) (q0 := 0) rfl rfl) rfl hl.1 rfl (lv_room (Nat.le_of_ble_eq_true rfl)) dX4_load_23 ⟨Nat.le_of_ble_eq_true rfl, Nat.le_of_ble_eq_true rfl⟩ hP hK hD hS hA hZ (fun H locs hP hD hS => ?_)
      generalize eu_8 : (p_m_append u 0 2 x1 x2).2 = u_8 at hP hD ⊢
      try rw [eu_8] at hok
      have e9 : p_m_load u x1 x2 = ((p_m_append u 0 2 x1 x2).1, u_8) := by
        subst eu_8
        rw [p_m_load, if_neg c_2, if_pos c_6]
      rw [e9]
      exact W.iret hx hb hr (fun t ht hW => ⟨⟨_, (), rfl, rfl, by rw [ht]; exact hP, va_K.moved hW.alike hK, hD⟩, hS.F ht⟩) hS.2.2 dX4_load_26
    · have hok := hok.2 c_6
      refine lv_iconst (v := 1) hx hb dX4_load_15 (by decide) ?_
      refine lv_goto (tgt := 20) hx hb dX4_load_16 (by decide) ?_
      refine lv_iconst (v := 2) hx hb dX4_load_20 (by decide) ?_
      refine lv_iload_n hx hb dX4_load_21 rfl (lv_at hl 1 rfl) ?_
      refine lv_iload_n hx hb dX4_load_22 rfl (lv_at hl 2 rfl) ?_
      obtain ⟨h_9, hok⟩ := hok
      refine k_callVi (As := [.int 1, .int 2, .int x1, .int x2]) (rest := []) hzz ⟨hx, hb, hml, hown, hts⟩ (c_m_append l D am cI cZ zz hzz u 1 2 x1 x2 h_9) (cwV 4 hts (tb_V tw_3_179 tw_3_181 slX4_append tw_1_5 tw_3_182) rfl rfl rfl (by decide +kernel) ⟨Nat.le_of_ble_eq_true rfl, Nat.le_of_ble_eq_true rfl⟩) (va_recv hK hP (ci := 4) (q0 := 0) rfl rfl) rfl hl.1 rfl (lv_room (Nat.le_of_ble_eq_true rfl)) dX4_load_23 ⟨Nat.le_of_ble_eq_true rfl, Nat.le_of_ble_eq_true rfl⟩ hP hK hD hS hA hZ (fun H locs hP hD hS => ?_)
      generalize eu_10 : (p_m_append u 1 2 x1 x2).2 = u_10 at hP hD ⊢
      try rw [eu_10] at hok
      have e9 : p_m_load u x1 x2 = ((p_m_append u 1 2 x1 x2).1, u_10) := by
        subst eu_10
        rw [p_m_load, if_neg c_2, if_neg c_6]
      rw [e9]
      exact W.iret hx hb hr (fun t ht hW => ⟨⟨_, (), rfl, rfl, by rw [ht]; exact hP, va_K.moved hW.alike hK, hD⟩, hS.F ht⟩) hS.2.2 dX4_load_26

def p_m_store (u : St) (x1 x2 : Int32) : Int32 × St := (if (p_m_isVariable x1) = 0 then ((p_m_append u 0 3 x1 x2).1, ((p_m_append u 0 3 x1 x2).2)) else (if (p_m_isVariable x2) = 0 then ((p_m_append u 0 3 x1 x2).1, ((p_m_append u 0 3 x1 x2).2)) else ((p_m_append u 1 3 x1 x2).1, ((p_m_append u 1 3 x1 x2).2))))
def ok_m_store (u : St) (x1 x2 : Int32) : Prop := (((p_m_isVariable x1) = 0 → (ok_m_append u 0 3 x1 x2 ∧ True)) ∧ (¬ (p_m_isVariable x1) = 0 → (((p_m_isVariable x2) = 0 → (ok_m_append u 0 3 x1 x2 ∧ True)) ∧ (¬ (p_m_isVariable x2) = 0 → (ok_m_append u 1 3 x1 x2 ∧ True)))))
set_option maxHeartbeats 4000000 in
set_option maxRecDepth 100000 in
theorem c_m_store (l : Launch) (D : va_G) (am : Nat → Nat) (cI cZ : ClassId) (zz : (Nat → Prop) → State → Heap → Prop) (hzz : Zok zz) (u : St) (x1 x2 : Int32) (hok : ok_m_store u x1 x2) : tfI l D vwCl (tyT cI cZ) zz yX4_store wsX4_store ({ frames := 1, cells := 0, slots := 0, locals := 24 } : Room) [.ref (am 0), .int x1, .int x2] (wM am cI cZ u) (p_m_store u x1 x2).1 (wM am cI cZ ((p_m_store u x1 x2).2)) := by
  intro sz
  unfold ok_m_store at hok
  refine Met.ofW (cc := cX4_store) (maxL := 3) (ret := (some .int)) (by decide) rfl ?_
  intro p e s m args below meth c s₁ B hml hv
  obtain ⟨rfl, hsz, hP, hK, hD0, hZ⟩ := hv
  have hx := B.exec
  have hb := B.bytes
  have hr := B.returns
  have hts := atoms_spec (ws := wsX4_store) B.pre
  have hown : s.vm.findClass RX4 = some m.cls := findClass_of_methodNamed B.named
  have hlocks := B.notSynchronized
  subst hsz
  have hD := hD0.self (sz := s.heap.size)
  generalize hAe : va_A (wM am cI cZ u) s.heap.size = A at hD hZ ⊢
  have hA : ∀ q : Nat, s.heap.size ≤ q → A q := fun q h => by rw [← hAe]; exact Or.inr h
  have hS : va_S A s.heap s.heap [] := va_S.rf
  have Cx : cxt p s m ([.ref (am 0), .int x1, .int x2] : List Value).toArray meth c cX4_store 3 (some .int) wsX4_store RX4 D vwCl (tyT cI cZ) zz A := ⟨hx, hb, hr, hts, hown, hlocks, hml, hK, hA, hZ⟩
  have hl := lv_entry ([.ref (am 0), .int x1, .int x2]) (n := 3) (Nat.le_of_ble_eq_true rfl)
  rw [lg_entry_eq]
  generalize (lg_sl ([.ref (am 0), .int x1, .int x2]) ++ List.replicate (3 - (lg_sl ([.ref (am 0), .int x1, .int x2])).length) Slot.unset).toArray = ls at hl ⊢
  have hl : lv_has ls 3 [(0, .ref (am 0)), (1, .int x1), (2, .int x2)] := hl
  refine lv_aload_n hx hb dX4_store_0 rfl (lv_at hl 0 rfl) ?_
  refine lv_iload_n hx hb dX4_store_1 rfl (lv_at hl 1 rfl) ?_
  refine k_callSi (As := [.int x1]) (rest := [.ref (am 0)]) hzz ⟨hx, hb, hml, hown, hts⟩ (c_m_isVariable l D am cI cZ zz hzz (wM am cI cZ u) x1) (cwS 1 hts (tb_S tw_3_176 tw_3_177 tw_1_5 tw_3_178) rfl rfl rfl (by decide +kernel) ⟨Nat.le_of_ble_eq_true rfl, Nat.le_of_ble_eq_true rfl⟩) rfl hl.1 rfl (lv_room (Nat.le_of_ble_eq_true rfl)) dX4_store_2 ⟨Nat.le_of_ble_eq_true rfl, Nat.le_of_ble_eq_true rfl⟩ hP hK hD hS hA hZ (fun H locs hP hD hS => ?_)
  refine lv_if_eq (tgt := 19) hx hb dX4_store_5 (by decide) (fun c_2 => ?_) (fun c_2 => ?_)
  · have hok := hok.1 c_2
    refine lv_iconst (v := 0) hx hb dX4_store_19 (by decide) ?_
    refine lv_iconst (v := 3) hx hb dX4_store_20 (by decide) ?_
    refine lv_iload_n hx hb dX4_store_21 rfl (lv_at hl 1 rfl) ?_
    refine lv_iload_n hx hb dX4_store_22 rfl (lv_at hl 2 rfl) ?_
    obtain ⟨h_3, hok⟩ := hok
    refine k_callVi (As := [.int 0, .int 3, .int x1, .int x2]) (rest := []) hzz ⟨hx, hb, hml, hown, hts⟩ (c_m_append l D am cI cZ zz hzz u 0 3 x1 x2 h_3) (cwV 4 hts (tb_V tw_3_179 tw_3_181 slX4_append tw_1_5 tw_3_182) rfl rfl rfl (by decide +kernel) ⟨Nat.le_of_ble_eq_true rfl, Nat.le_of_ble_eq_true rfl⟩) (va_recv hK hP (ci := 4) (q0 := 0) rfl rfl) rfl hl.1 rfl (lv_room (Nat.le_of_ble_eq_true rfl)) dX4_store_23 ⟨Nat.le_of_ble_eq_true rfl, Nat.le_of_ble_eq_true rfl⟩ hP hK hD hS hA hZ (fun H locs hP hD hS => ?_)
    generalize eu_4 : (p_m_append u 0 3 x1 x2).2 = u_4 at hP hD ⊢
    try rw [eu_4] at hok
    have e9 : p_m_store u x1 x2 = ((p_m_append u 0 3 x1 x2).1, u_4) := by
      subst eu_4
      rw [p_m_store, if_pos c_2]
    rw [e9]
    exact W.iret hx hb hr (fun t ht hW => ⟨⟨_, (), rfl, rfl, by rw [ht]; exact hP, va_K.moved hW.alike hK, hD⟩, hS.F ht⟩) hS.2.2 dX4_store_26
  · have hok := hok.2 c_2
    refine lv_iload_n hx hb dX4_store_8 rfl (lv_at hl 2 rfl) ?_
    refine k_callSi (As := [.int x2]) (rest := [.ref (am 0)]) hzz ⟨hx, hb, hml, hown, hts⟩ (c_m_isVariable l D am cI cZ zz hzz (wM am cI cZ u) x2) (cwS 1 hts (tb_S tw_3_176 tw_3_177 tw_1_5 tw_3_178) rfl rfl rfl (by decide +kernel) ⟨Nat.le_of_ble_eq_true rfl, Nat.le_of_ble_eq_true rfl⟩) rfl hl.1 rfl (lv_room (Nat.le_of_ble_eq_true rfl)) dX4_store_9 ⟨Nat.le_of_ble_eq_true rfl, Nat.le_of_ble_eq_true rfl⟩ hP hK hD hS hA hZ (fun H locs hP hD hS => ?_)
    refine lv_if_eq (tgt := 19) hx hb dX4_store_12 (by decide) (fun c_6 => ?_) (fun c_6 => ?_)
    · have hok := hok.1 c_6
      refine lv_iconst (v := 0) hx hb dX4_store_19 (by decide) ?_
      refine lv_iconst (v := 3) hx hb dX4_store_20 (by decide) ?_
      refine lv_iload_n hx hb dX4_store_21 rfl (lv_at hl 1 rfl) ?_
      refine lv_iload_n hx hb dX4_store_22 rfl (lv_at hl 2 rfl) ?_
      obtain ⟨h_7, hok⟩ := hok
      refine k_callVi (As := [.int 0, .int 3, .int x1, .int x2]) (rest := []) hzz ⟨hx, hb, hml, hown, hts⟩ (c_m_append l D am cI cZ zz hzz u 0 3 x1 x2 h_7) (cwV 4 hts (tb_V tw_3_179 tw_3_181 slX4_append tw_1_5 tw_3_182) rfl rfl rfl (by decide +kernel) ⟨Nat.le_of_ble_eq_true rfl, Nat.le_of_ble_eq_true rfl⟩) (va_recv hK hP (ci := 4) (q0 := 0) rfl rfl) rfl hl.1 rfl (lv_room (Nat.le_of_ble_eq_true rfl)) dX4_store_23 ⟨Nat.le_of_ble_eq_true rfl, Nat.le_of_ble_eq_true rfl⟩ hP hK hD hS hA hZ (fun H locs hP hD hS => ?_)
      generalize eu_8 : (p_m_append u 0 3 x1 x2).2 = u_8 at hP hD ⊢
      try rw [eu_8] at hok
      have e9 : p_m_store u x1 x2 = ((p_m_append u 0 3 x1 x2).1, u_8) := by
        subst eu_8
        rw [p_m_store, if_neg c_2, if_pos c_6]
      rw [e9]
      exact W.iret hx hb hr (fun t ht hW => ⟨⟨_, (), rfl, rfl, by rw [ht]; exact hP, va_K.moved hW.alike hK, hD⟩, hS.F ht⟩) hS.2.2 dX4_store_26
    · have hok := hok.2 c_6
      refine lv_iconst (v := 1) hx hb dX4_store_15 (by decide) ?_
      refine lv_goto (tgt := 20) hx hb dX4_store_16 (by decide) ?_
      refine lv_iconst (v := 3) hx hb dX4_store_20 (by decide) ?_
      refine lv_iload_n hx hb dX4_store_21 rfl (lv_at hl 1 rfl) ?_
      refine lv_iload_n hx hb dX4_store_22 rfl (lv_at hl 2 rfl) ?_
      obtain ⟨h_9, hok⟩ := hok
      refine k_callVi (As := [.int 1, .int 3, .int x1, .int x2]) (rest := []) hzz ⟨hx, hb, hml, hown, hts⟩ (c_m_append l D am cI cZ zz hzz u 1 3 x1 x2 h_9) (cwV 4 hts (tb_V tw_3_179 tw_3_181 slX4_append tw_1_5 tw_3_182) rfl rfl rfl (by decide +kernel) ⟨Nat.le_of_ble_eq_true rfl, Nat.le_of_ble_eq_true rfl⟩) (va_recv hK hP (ci := 4) (q0 := 0) rfl rfl) rfl hl.1 rfl (lv_room (Nat.le_of_ble_eq_true rfl)) dX4_store_23 ⟨Nat.le_of_ble_eq_true rfl, Nat.le_of_ble_eq_true rfl⟩ hP hK hD hS hA hZ (fun H locs hP hD hS => ?_)
      generalize eu_10 : (p_m_append u 1 3 x1 x2).2 = u_10 at hP hD ⊢
      try rw [eu_10] at hok
      have e9 : p_m_store u x1 x2 = ((p_m_append u 1 3 x1 x2).1, u_10) := by
        subst eu_10
        rw [p_m_store, if_neg c_2, if_neg c_6]
      rw [e9]
      exact W.iret hx hb hr (fun t ht hW => ⟨⟨_, (), rfl, rfl, by rw [ht]; exact hP, va_K.moved hW.alike hK, hD⟩, hS.F ht⟩) hS.2.2 dX4_store_26

def p_m_jump (u : St) (x1 : Int32) : Int32 × St := (if x1 < 0 then ((p_m_append u 0 4 x1 0).1, ((p_m_append u 0 4 x1 0).2)) else (if 47 < x1 then ((p_m_append u 0 4 x1 0).1, ((p_m_append u 0 4 x1 0).2)) else ((p_m_append u 1 4 x1 0).1, ((p_m_append u 1 4 x1 0).2))))
def ok_m_jump (u : St) (x1 : Int32) : Prop := ((x1 < 0 → (ok_m_append u 0 4 x1 0 ∧ True)) ∧ (¬ x1 < 0 → ((47 < x1 → (ok_m_append u 0 4 x1 0 ∧ True)) ∧ (¬ 47 < x1 → (ok_m_append u 1 4 x1 0 ∧ True)))))
set_option maxHeartbeats 4000000 in
set_option maxRecDepth 100000 in
theorem c_m_jump (l : Launch) (D : va_G) (am : Nat → Nat) (cI cZ : ClassId) (zz : (Nat → Prop) → State → Heap → Prop) (hzz : Zok zz) (u : St) (x1 : Int32) (hok : ok_m_jump u x1) : tfI l D vwCl (tyT cI cZ) zz yX4_jump wsX4_jump ({ frames := 1, cells := 0, slots := 0, locals := 24 } : Room) [.ref (am 0), .int x1] (wM am cI cZ u) (p_m_jump u x1).1 (wM am cI cZ ((p_m_jump u x1).2)) := by
  intro sz
  unfold ok_m_jump at hok
  refine Met.ofW (cc := cX4_jump) (maxL := 2) (ret := (some .int)) (by decide) rfl ?_
  intro p e s m args below meth c s₁ B hml hv
  obtain ⟨rfl, hsz, hP, hK, hD0, hZ⟩ := hv
  have hx := B.exec
  have hb := B.bytes
  have hr := B.returns
  have hts := atoms_spec (ws := wsX4_jump) B.pre
  have hown : s.vm.findClass RX4 = some m.cls := findClass_of_methodNamed B.named
  have hlocks := B.notSynchronized
  subst hsz
  have hD := hD0.self (sz := s.heap.size)
  generalize hAe : va_A (wM am cI cZ u) s.heap.size = A at hD hZ ⊢
  have hA : ∀ q : Nat, s.heap.size ≤ q → A q := fun q h => by rw [← hAe]; exact Or.inr h
  have hS : va_S A s.heap s.heap [] := va_S.rf
  have Cx : cxt p s m ([.ref (am 0), .int x1] : List Value).toArray meth c cX4_jump 2 (some .int) wsX4_jump RX4 D vwCl (tyT cI cZ) zz A := ⟨hx, hb, hr, hts, hown, hlocks, hml, hK, hA, hZ⟩
  have hl := lv_entry ([.ref (am 0), .int x1]) (n := 2) (Nat.le_of_ble_eq_true rfl)
  rw [lg_entry_eq]
  generalize (lg_sl ([.ref (am 0), .int x1]) ++ List.replicate (2 - (lg_sl ([.ref (am 0), .int x1])).length) Slot.unset).toArray = ls at hl ⊢
  have hl : lv_has ls 2 [(0, .ref (am 0)), (1, .int x1)] := hl
  refine lv_aload_n hx hb dX4_jump_0 rfl (lv_at hl 0 rfl) ?_
  refine lv_iload_n hx hb dX4_jump_1 rfl (lv_at hl 1 rfl) ?_
  refine lv_if_lt (tgt := 15) hx hb dX4_jump_2 (by decide) (fun c_1 => ?_) (fun c_1 => ?_)
  · have hok := hok.1 c_1
    refine lv_iconst (v := 0) hx hb dX4_jump_15 (by decide) ?_
    refine lv_iconst (v := 4) hx hb dX4_jump_16 (by decide) ?_
    refine lv_iload_n hx hb dX4_jump_17 rfl (lv_at hl 1 rfl) ?_
    refine lv_iconst (v := 0) hx hb dX4_jump_18 (by decide) ?_
    obtain ⟨h_2, hok⟩ := hok
    refine k_callVi (As := [.int 0, .int 4, .int x1, .int 0]) (rest := []) hzz ⟨hx, hb, hml, hown, hts⟩ (c_m_append l D am cI cZ zz hzz u 0 4 x1 0 h_2) (cwV 4 hts (tb_V tw_3_179 tw_3_181 slX4_append tw_1_5 tw_3_182) rfl rfl rfl (by decide +kernel) ⟨Nat.le_of_ble_eq_true rfl, Nat.le_of_ble_eq_true rfl⟩) (va_recv hK hP (ci := 4) (q0 := 0) rfl rfl) rfl hl.1 rfl (lv_room (Nat.le_of_ble_eq_true rfl)) dX4_jump_19 ⟨Nat.le_of_ble_eq_true rfl, Nat.le_of_ble_eq_true rfl⟩ hP hK hD hS hA hZ (fun H locs hP hD hS => ?_)
    generalize eu_3 : (p_m_append u 0 4 x1 0).2 = u_3 at hP hD ⊢
    try rw [eu_3] at hok
    have e9 : p_m_jump u x1 = ((p_m_append u 0 4 x1 0).1, u_3) := by
      subst eu_3
      rw [p_m_jump, if_pos c_1]
    rw [e9]
    exact W.iret hx hb hr (fun t ht hW => ⟨⟨_, (), rfl, rfl, by rw [ht]; exact hP, va_K.moved hW.alike hK, hD⟩, hS.F ht⟩) hS.2.2 dX4_jump_22
  · have hok := hok.2 c_1
    refine lv_iload_n hx hb dX4_jump_5 rfl (lv_at hl 1 rfl) ?_
    refine lv_bipush (v := 47) hx hb dX4_jump_6 (by decide) ?_
    refine lv_icmp_gt (tgt := 15) hx hb dX4_jump_8 (by decide) (fun c_4 => ?_) (fun c_4 => ?_)
    · have hok := hok.1 c_4
      refine lv_iconst (v := 0) hx hb dX4_jump_15 (by decide) ?_
      refine lv_iconst (v := 4) hx hb dX4_jump_16 (by decide) ?_
      refine lv_iload_n hx hb dX4_jump_17 rfl (lv_at hl 1 rfl) ?_
      refine lv_iconst (v := 0) hx hb dX4_jump_18 (by decide) ?_
      obtain ⟨h_5, hok⟩ := hok
      refine k_callVi (As := [.int 0, .int 4, .int x1, .int 0]) (rest := []) hzz ⟨hx, hb, hml, hown, hts⟩ (c_m_append l D am cI cZ zz hzz u 0 4 x1 0 h_5) (cwV 4 hts (tb_V tw_3_179 tw_3_181 slX4_append tw_1_5 tw_3_182) rfl rfl rfl (by decide +kernel) ⟨Nat.le_of_ble_eq_true rfl, Nat.le_of_ble_eq_true rfl⟩) (va_recv hK hP (ci := 4) (q0 := 0) rfl rfl) rfl hl.1 rfl (lv_room (Nat.le_of_ble_eq_true rfl)) dX4_jump_19 ⟨Nat.le_of_ble_eq_true rfl, Nat.le_of_ble_eq_true rfl⟩ hP hK hD hS hA hZ (fun H locs hP hD hS => ?_)
      generalize eu_6 : (p_m_append u 0 4 x1 0).2 = u_6 at hP hD ⊢
      try rw [eu_6] at hok
      have e9 : p_m_jump u x1 = ((p_m_append u 0 4 x1 0).1, u_6) := by
        subst eu_6
        rw [p_m_jump, if_neg c_1, if_pos c_4]
      rw [e9]
      exact W.iret hx hb hr (fun t ht hW => ⟨⟨_, (), rfl, rfl, by rw [ht]; exact hP, va_K.moved hW.alike hK, hD⟩, hS.F ht⟩) hS.2.2 dX4_jump_22
    · have hok := hok.2 c_4
      refine lv_iconst (v := 1) hx hb dX4_jump_11 (by decide) ?_
      refine lv_goto (tgt := 16) hx hb dX4_jump_12 (by decide) ?_
      refine lv_iconst (v := 4) hx hb dX4_jump_16 (by decide) ?_
      refine lv_iload_n hx hb dX4_jump_17 rfl (lv_at hl 1 rfl) ?_
      refine lv_iconst (v := 0) hx hb dX4_jump_18 (by decide) ?_
      obtain ⟨h_7, hok⟩ := hok
      refine k_callVi (As := [.int 1, .int 4, .int x1, .int 0]) (rest := []) hzz ⟨hx, hb, hml, hown, hts⟩ (c_m_append l D am cI cZ zz hzz u 1 4 x1 0 h_7) (cwV 4 hts (tb_V tw_3_179 tw_3_181 slX4_append tw_1_5 tw_3_182) rfl rfl rfl (by decide +kernel) ⟨Nat.le_of_ble_eq_true rfl, Nat.le_of_ble_eq_true rfl⟩) (va_recv hK hP (ci := 4) (q0 := 0) rfl rfl) rfl hl.1 rfl (lv_room (Nat.le_of_ble_eq_true rfl)) dX4_jump_19 ⟨Nat.le_of_ble_eq_true rfl, Nat.le_of_ble_eq_true rfl⟩ hP hK hD hS hA hZ (fun H locs hP hD hS => ?_)
      generalize eu_8 : (p_m_append u 1 4 x1 0).2 = u_8 at hP hD ⊢
      try rw [eu_8] at hok
      have e9 : p_m_jump u x1 = ((p_m_append u 1 4 x1 0).1, u_8) := by
        subst eu_8
        rw [p_m_jump, if_neg c_1, if_neg c_4]
      rw [e9]
      exact W.iret hx hb hr (fun t ht hW => ⟨⟨_, (), rfl, rfl, by rw [ht]; exact hP, va_K.moved hW.alike hK, hD⟩, hS.F ht⟩) hS.2.2 dX4_jump_22

def p_m_branch (u : St) (x1 x2 x3 x4 : Int32) : Int32 × St := (if (p_m_isRelation x1) = 0 then (if (((p_m_append u 0 5 x1 x2).2).1 0) = 0 then ((p_m_append u 0 5 x1 x2).1, sA (sA ((p_m_append u 0 5 x1 x2).2) 3 ((p_m_append u 0 5 x1 x2).1) x3) 4 ((p_m_append u 0 5 x1 x2).1) x4) else ((p_m_append u 0 5 x1 x2).1, ((p_m_append u 0 5 x1 x2).2))) else (if (p_m_isVariable x2) = 0 then (if (((p_m_append u 0 5 x1 x2).2).1 0) = 0 then ((p_m_append u 0 5 x1 x2).1, sA (sA ((p_m_append u 0 5 x1 x2).2) 3 ((p_m_append u 0 5 x1 x2).1) x3) 4 ((p_m_append u 0 5 x1 x2).1) x4) else ((p_m_append u 0 5 x1 x2).1, ((p_m_append u 0 5 x1 x2).2))) else (if (p_m_isVariable x3) = 0 then (if (((p_m_append u 0 5 x1 x2).2).1 0) = 0 then ((p_m_append u 0 5 x1 x2).1, sA (sA ((p_m_append u 0 5 x1 x2).2) 3 ((p_m_append u 0 5 x1 x2).1) x3) 4 ((p_m_append u 0 5 x1 x2).1) x4) else ((p_m_append u 0 5 x1 x2).1, ((p_m_append u 0 5 x1 x2).2))) else (if x4 < 0 then (if (((p_m_append u 0 5 x1 x2).2).1 0) = 0 then ((p_m_append u 0 5 x1 x2).1, sA (sA ((p_m_append u 0 5 x1 x2).2) 3 ((p_m_append u 0 5 x1 x2).1) x3) 4 ((p_m_append u 0 5 x1 x2).1) x4) else ((p_m_append u 0 5 x1 x2).1, ((p_m_append u 0 5 x1 x2).2))) else (if 47 < x4 then (if (((p_m_append u 0 5 x1 x2).2).1 0) = 0 then ((p_m_append u 0 5 x1 x2).1, sA (sA ((p_m_append u 0 5 x1 x2).2) 3 ((p_m_append u 0 5 x1 x2).1) x3) 4 ((p_m_append u 0 5 x1 x2).1) x4) else ((p_m_append u 0 5 x1 x2).1, ((p_m_append u 0 5 x1 x2).2))) else (if (((p_m_append u 1 5 x1 x2).2).1 0) = 0 then ((p_m_append u 1 5 x1 x2).1, sA (sA ((p_m_append u 1 5 x1 x2).2) 3 ((p_m_append u 1 5 x1 x2).1) x3) 4 ((p_m_append u 1 5 x1 x2).1) x4) else ((p_m_append u 1 5 x1 x2).1, ((p_m_append u 1 5 x1 x2).2))))))))
def ok_m_branch (u : St) (x1 x2 x3 x4 : Int32) : Prop := (((p_m_isRelation x1) = 0 → (ok_m_append u 0 5 x1 x2 ∧ (((((p_m_append u 0 5 x1 x2).2).1 0) = 0 → (vp_in ((p_m_append u 0 5 x1 x2).1) 48 ∧ (vp_in ((p_m_append u 0 5 x1 x2).1) 48 ∧ True))) ∧ (¬ (((p_m_append u 0 5 x1 x2).2).1 0) = 0 → True)))) ∧ (¬ (p_m_isRelation x1) = 0 → (((p_m_isVariable x2) = 0 → (ok_m_append u 0 5 x1 x2 ∧ (((((p_m_append u 0 5 x1 x2).2).1 0) = 0 → (vp_in ((p_m_append u 0 5 x1 x2).1) 48 ∧ (vp_in ((p_m_append u 0 5 x1 x2).1) 48 ∧ True))) ∧ (¬ (((p_m_append u 0 5 x1 x2).2).1 0) = 0 → True)))) ∧ (¬ (p_m_isVariable x2) = 0 → (((p_m_isVariable x3) = 0 → (ok_m_append u 0 5 x1 x2 ∧ (((((p_m_append u 0 5 x1 x2).2).1 0) = 0 → (vp_in ((p_m_append u 0 5 x1 x2).1) 48 ∧ (vp_in ((p_m_append u 0 5 x1 x2).1) 48 ∧ True))) ∧ (¬ (((p_m_append u 0 5 x1 x2).2).1 0) = 0 → True)))) ∧ (¬ (p_m_isVariable x3) = 0 → ((x4 < 0 → (ok_m_append u 0 5 x1 x2 ∧ (((((p_m_append u 0 5 x1 x2).2).1 0) = 0 → (vp_in ((p_m_append u 0 5 x1 x2).1) 48 ∧ (vp_in ((p_m_append u 0 5 x1 x2).1) 48 ∧ True))) ∧ (¬ (((p_m_append u 0 5 x1 x2).2).1 0) = 0 → True)))) ∧ (¬ x4 < 0 → ((47 < x4 → (ok_m_append u 0 5 x1 x2 ∧ (((((p_m_append u 0 5 x1 x2).2).1 0) = 0 → (vp_in ((p_m_append u 0 5 x1 x2).1) 48 ∧ (vp_in ((p_m_append u 0 5 x1 x2).1) 48 ∧ True))) ∧ (¬ (((p_m_append u 0 5 x1 x2).2).1 0) = 0 → True)))) ∧ (¬ 47 < x4 → (ok_m_append u 1 5 x1 x2 ∧ (((((p_m_append u 1 5 x1 x2).2).1 0) = 0 → (vp_in ((p_m_append u 1 5 x1 x2).1) 48 ∧ (vp_in ((p_m_append u 1 5 x1 x2).1) 48 ∧ True))) ∧ (¬ (((p_m_append u 1 5 x1 x2).2).1 0) = 0 → True)))))))))))))
set_option maxHeartbeats 4000000 in
set_option maxRecDepth 100000 in
theorem c_m_branch (l : Launch) (D : va_G) (am : Nat → Nat) (cI cZ : ClassId) (zz : (Nat → Prop) → State → Heap → Prop) (hzz : Zok zz) (u : St) (x1 x2 x3 x4 : Int32) (hok : ok_m_branch u x1 x2 x3 x4) : tfI l D vwCl (tyT cI cZ) zz yX4_branch wsX4_branch ({ frames := 1, cells := 0, slots := 0, locals := 24 } : Room) [.ref (am 0), .int x1, .int x2, .int x3, .int x4] (wM am cI cZ u) (p_m_branch u x1 x2 x3 x4).1 (wM am cI cZ ((p_m_branch u x1 x2 x3 x4).2)) := by
  intro sz
  unfold ok_m_branch at hok
  refine Met.ofW (cc := cX4_branch) (maxL := 6) (ret := (some .int)) (by decide) rfl ?_
  intro p e s m args below meth c s₁ B hml hv
  obtain ⟨rfl, hsz, hP, hK, hD0, hZ⟩ := hv
  have hx := B.exec
  have hb := B.bytes
  have hr := B.returns
  have hts := atoms_spec (ws := wsX4_branch) B.pre
  have hown : s.vm.findClass RX4 = some m.cls := findClass_of_methodNamed B.named
  have hlocks := B.notSynchronized
  subst hsz
  have hD := hD0.self (sz := s.heap.size)
  generalize hAe : va_A (wM am cI cZ u) s.heap.size = A at hD hZ ⊢
  have hA : ∀ q : Nat, s.heap.size ≤ q → A q := fun q h => by rw [← hAe]; exact Or.inr h
  have hS : va_S A s.heap s.heap [] := va_S.rf
  have Cx : cxt p s m ([.ref (am 0), .int x1, .int x2, .int x3, .int x4] : List Value).toArray meth c cX4_branch 6 (some .int) wsX4_branch RX4 D vwCl (tyT cI cZ) zz A := ⟨hx, hb, hr, hts, hown, hlocks, hml, hK, hA, hZ⟩
  have hl := lv_entry ([.ref (am 0), .int x1, .int x2, .int x3, .int x4]) (n := 6) (Nat.le_of_ble_eq_true rfl)
  rw [lg_entry_eq]
  generalize (lg_sl ([.ref (am 0), .int x1, .int x2, .int x3, .int x4]) ++ List.replicate (6 - (lg_sl ([.ref (am 0), .int x1, .int x2, .int x3, .int x4])).length) Slot.unset).toArray = ls at hl ⊢
  have hl : lv_has ls 6 [(0, .ref (am 0)), (1, .int x1), (2, .int x2), (3, .int x3), (4, .int x4)] := hl
  refine lv_aload_n hx hb dX4_branch_0 rfl (lv_at hl 0 rfl) ?_
  refine lv_iload_n hx hb dX4_branch_1 rfl (lv_at hl 1 rfl) ?_
  refine k_callSi (As := [.int x1]) (rest := [.ref (am 0)]) hzz ⟨hx, hb, hml, hown, hts⟩ (c_m_isRelation l D am cI cZ zz hzz (wM am cI cZ u) x1) (cwS 1 hts (tb_S tw_3_203 tw_3_204 tw_1_5 tw_3_205) rfl rfl rfl (by decide +kernel) ⟨Nat.le_of_ble_eq_true rfl, Nat.le_of_ble_eq_true rfl⟩) rfl hl.1 rfl (lv_room (Nat.le_of_ble_eq_true rfl)) dX4_branch_2 ⟨Nat.le_of_ble_eq_true rfl, Nat.le_of_ble_eq_true rfl⟩ hP hK hD hS hA hZ (fun H locs hP hD hS => ?_)
  refine lv_if_eq (tgt := 38) hx hb dX4_branch_5 (by decide) (fun c_2 => ?_) (fun c_2 => ?_)
  · have hok := hok.1 c_2
    refine lv_iconst (v := 0) hx hb dX4_branch_38 (by decide) ?_
    refine lv_iconst (v := 5) hx hb dX4_branch_39 (by decide) ?_
    refine lv_iload_n hx hb dX4_branch_40 rfl (lv_at hl 1 rfl) ?_
    refine lv_iload_n hx hb dX4_branch_41 rfl (lv_at hl 2 rfl) ?_
    obtain ⟨h_3, hok⟩ := hok
    refine k_callVi (As := [.int 0, .int 5, .int x1, .int x2]) (rest := []) hzz ⟨hx, hb, hml, hown, hts⟩ (c_m_append l D am cI cZ zz hzz u 0 5 x1 x2 h_3) (cwV 4 hts (tb_V tw_3_179 tw_3_181 slX4_append tw_1_5 tw_3_182) rfl rfl rfl (by decide +kernel) ⟨Nat.le_of_ble_eq_true rfl, Nat.le_of_ble_eq_true rfl⟩) (va_recv hK hP (ci := 4) (q0 := 0) rfl rfl) rfl hl.1 rfl (lv_room (Nat.le_of_ble_eq_true rfl)) dX4_branch_42 ⟨Nat.le_of_ble_eq_true rfl, Nat.le_of_ble_eq_true rfl⟩ hP hK hD hS hA hZ (fun H locs hP hD hS => ?_)
    generalize eu_4 : (p_m_append u 0 5 x1 x2).2 = u_4 at hP hD ⊢
    try rw [eu_4] at hok
    refine lv_istore (lv' := [(5, .int ((p_m_append u 0 5 x1 x2).1)), (0, .ref (am 0)), (1, .int x1), (2, .int x2), (3, .int x3), (4, .int x4)]) hx hb dX4_branch_45 hl (by decide) rfl (fun ls hl => ?_)
    refine lv_aload_n hx hb dX4_branch_47 rfl (lv_at hl 1 rfl) ?_
    refine va_get (ci := 4) (v := .int (u_4.1 0)) (C := RX4) (T := TX4) (N := 22) hx hb hts (ivX4 _) hown hK hP 0 rfl rfl 0 (by decide) (hts _ (tb_c tw_3_101)) (fun _ h9 => h9) rfl dX4_branch_48 ?_
    refine lv_if_ne (tgt := 71) hx hb dX4_branch_51 (by decide) (fun c_5 => ?_) (fun c_5 => ?_)
    · have hok := hok.2 c_5
      refine lv_iload hx hb dX4_branch_71 (lv_at hl 0 rfl) ?_
      have e9 : p_m_branch u x1 x2 x3 x4 = ((p_m_append u 0 5 x1 x2).1, u_4) := by
        subst eu_4
        rw [p_m_branch, if_pos c_2, if_neg c_5]
      rw [e9]
      exact W.iret hx hb hr (fun t ht hW => ⟨⟨_, (), rfl, rfl, by rw [ht]; exact hP, va_K.moved hW.alike hK, hD⟩, hS.F ht⟩) hS.2.2 dX4_branch_73
    · have hok := hok.1 c_5
      refine lv_aload_n hx hb dX4_branch_54 rfl (lv_at hl 1 rfl) ?_
      refine va_get (ci := 4) (v := .ref (am 4)) (C := RX4) (T := TX4) (N := 22) hx hb hts (ivX4 _) hown hK hP 0 rfl rfl 5 (by decide) (hts _ (tb_c tw_3_106)) (fun _ h9 => h9) rfl dX4_branch_55 ?_
      refine lv_iload hx hb dX4_branch_58 (lv_at hl 0 rfl) ?_
      refine lv_iload_n hx hb dX4_branch_60 rfl (lv_at hl 4 rfl) ?_
      obtain ⟨h_6, hok⟩ := hok
      refine va_iast hx hb hK hP hD hS 4 0 rfl rfl h_6 dX4_branch_61 (fun H locs hP hD hS => ?_)
      have hP : va_P D vwCl (wM am cI cZ (sA u_4 3 ((p_m_append u 0 5 x1 x2).1) x3)) H := hP
      have hD : va_D A (wM am cI cZ (sA u_4 3 ((p_m_append u 0 5 x1 x2).1) x3)) := hD
      refine lv_aload_n hx hb dX4_branch_62 rfl (lv_at hl 1 rfl) ?_
      refine va_get (ci := 4) (v := .ref (am 5)) (C := RX4) (T := TX4) (N := 22) hx hb hts (ivX4 _) hown hK hP 0 rfl rfl 6 (by decide) (hts _ (tb_c tw_3_107)) (fun _ h9 => h9) rfl dX4_branch_63 ?_
      refine lv_iload hx hb dX4_branch_66 (lv_at hl 0 rfl) ?_
      refine lv_iload hx hb dX4_branch_68 (lv_at hl 5 rfl) ?_
      obtain ⟨h_7, hok⟩ := hok
      refine va_iast hx hb hK hP hD hS 5 0 rfl rfl h_7 dX4_branch_70 (fun H locs hP hD hS => ?_)
      have hP : va_P D vwCl (wM am cI cZ (sA (sA u_4 3 ((p_m_append u 0 5 x1 x2).1) x3) 4 ((p_m_append u 0 5 x1 x2).1) x4)) H := hP
      have hD : va_D A (wM am cI cZ (sA (sA u_4 3 ((p_m_append u 0 5 x1 x2).1) x3) 4 ((p_m_append u 0 5 x1 x2).1) x4)) := hD
      refine lv_iload hx hb dX4_branch_71 (lv_at hl 0 rfl) ?_
      have e9 : p_m_branch u x1 x2 x3 x4 = ((p_m_append u 0 5 x1 x2).1, sA (sA u_4 3 ((p_m_append u 0 5 x1 x2).1) x3) 4 ((p_m_append u 0 5 x1 x2).1) x4) := by
        subst eu_4
        rw [p_m_branch, if_pos c_2, if_pos c_5]
      rw [e9]
      exact W.iret hx hb hr (fun t ht hW => ⟨⟨_, (), rfl, rfl, by rw [ht]; exact hP, va_K.moved hW.alike hK, hD⟩, hS.F ht⟩) hS.2.2 dX4_branch_73
  · have hok := hok.2 c_2
    refine lv_iload_n hx hb dX4_branch_8 rfl (lv_at hl 2 rfl) ?_
    refine k_callSi (As := [.int x2]) (rest := [.ref (am 0)]) hzz ⟨hx, hb, hml, hown, hts⟩ (c_m_isVariable l D am cI cZ zz hzz (wM am cI cZ u) x2) (cwS 1 hts (tb_S tw_3_176 tw_3_177 tw_1_5 tw_3_178) rfl rfl rfl (by decide +kernel) ⟨Nat.le_of_ble_eq_true rfl, Nat.le_of_ble_eq_true rfl⟩) rfl hl.1 rfl (lv_room (Nat.le_of_ble_eq_true rfl)) dX4_branch_9 ⟨Nat.le_of_ble_eq_true rfl, Nat.le_of_ble_eq_true rfl⟩ hP hK hD hS hA hZ (fun H locs hP hD hS => ?_)
    refine lv_if_eq (tgt := 38) hx hb dX4_branch_12 (by decide) (fun c_9 => ?_) (fun c_9 => ?_)
    · have hok := hok.1 c_9
      refine lv_iconst (v := 0) hx hb dX4_branch_38 (by decide) ?_
      refine lv_iconst (v := 5) hx hb dX4_branch_39 (by decide) ?_
      refine lv_iload_n hx hb dX4_branch_40 rfl (lv_at hl 1 rfl) ?_
      refine lv_iload_n hx hb dX4_branch_41 rfl (lv_at hl 2 rfl) ?_
      obtain ⟨h_10, hok⟩ := hok
      refine k_callVi (As := [.int 0, .int 5, .int x1, .int x2]) (rest := []) hzz ⟨hx, hb, hml, hown, hts⟩ (c_m_append l D am cI cZ zz hzz u 0 5 x1 x2 h_10) (cwV 4 hts (tb_V tw_3_179 tw_3_181 slX4_append tw_1_5 tw_3_182) rfl rfl rfl (by decide +kernel) ⟨Nat.le_of_ble_eq_true rfl, Nat.le_of_ble_eq_true rfl⟩) (va_recv hK hP (ci := 4) (q0 := 0) rfl rfl) rfl hl.1 rfl (lv_room (Nat.le_of_ble_eq_true rfl)) dX4_branch_42 ⟨Nat.le_of_ble_eq_true rfl, Nat.le_of_ble_eq_true rfl⟩ hP hK hD hS hA hZ (fun H locs hP hD hS => ?_)
      generalize eu_11 : (p_m_append u 0 5 x1 x2).2 = u_11 at hP hD ⊢
      try rw [eu_11] at hok
      refine lv_istore (lv' := [(5, .int ((p_m_append u 0 5 x1 x2).1)), (0, .ref (am 0)), (1, .int x1), (2, .int x2), (3, .int x3), (4, .int x4)]) hx hb dX4_branch_45 hl (by decide) rfl (fun ls hl => ?_)
      refine lv_aload_n hx hb dX4_branch_47 rfl (lv_at hl 1 rfl) ?_
      refine va_get (ci := 4) (v := .int (u_11.1 0)) (C := RX4) (T := TX4) (N := 22) hx hb hts (ivX4 _) hown hK hP 0 rfl rfl 0 (by decide) (hts _ (tb_c tw_3_101)) (fun _ h9 => h9) rfl dX4_branch_48 ?_
      refine lv_if_ne (tgt := 71) hx hb dX4_branch_51 (by decide) (fun c_12 => ?_) (fun c_12 => ?_)
      · have hok := hok.2 c_12
        refine lv_iload hx hb dX4_branch_71 (lv_at hl 0 rfl) ?_
        have e9 : p_m_branch u x1 x2 x3 x4 = ((p_m_append u 0 5 x1 x2).1, u_11) := by
          subst eu_11
          rw [p_m_branch, if_neg c_2, if_pos c_9, if_neg c_12]
        rw [e9]
        exact W.iret hx hb hr (fun t ht hW => ⟨⟨_, (), rfl, rfl, by rw [ht]; exact hP, va_K.moved hW.alike hK, hD⟩, hS.F ht⟩) hS.2.2 dX4_branch_73
      · have hok := hok.1 c_12
        refine lv_aload_n hx hb dX4_branch_54 rfl (lv_at hl 1 rfl) ?_
        refine va_get (ci := 4) (v := .ref (am 4)) (C := RX4) (T := TX4) (N := 22) hx hb hts (ivX4 _) hown hK hP 0 rfl rfl 5 (by decide) (hts _ (tb_c tw_3_106)) (fun _ h9 => h9) rfl dX4_branch_55 ?_
        refine lv_iload hx hb dX4_branch_58 (lv_at hl 0 rfl) ?_
        refine lv_iload_n hx hb dX4_branch_60 rfl (lv_at hl 4 rfl) ?_
        obtain ⟨h_13, hok⟩ := hok
        refine va_iast hx hb hK hP hD hS 4 0 rfl rfl h_13 dX4_branch_61 (fun H locs hP hD hS => ?_)
        have hP : va_P D vwCl (wM am cI cZ (sA u_11 3 ((p_m_append u 0 5 x1 x2).1) x3)) H := hP
        have hD : va_D A (wM am cI cZ (sA u_11 3 ((p_m_append u 0 5 x1 x2).1) x3)) := hD
        refine lv_aload_n hx hb dX4_branch_62 rfl (lv_at hl 1 rfl) ?_
        refine va_get (ci := 4) (v := .ref (am 5)) (C := RX4) (T := TX4) (N := 22) hx hb hts (ivX4 _) hown hK hP 0 rfl rfl 6 (by decide) (hts _ (tb_c tw_3_107)) (fun _ h9 => h9) rfl dX4_branch_63 ?_
        refine lv_iload hx hb dX4_branch_66 (lv_at hl 0 rfl) ?_
        refine lv_iload hx hb dX4_branch_68 (lv_at hl 5 rfl) ?_
        obtain ⟨h_14, hok⟩ := hok
        refine va_iast hx hb hK hP hD hS 5 0 rfl rfl h_14 dX4_branch_70 (fun H locs hP hD hS => ?_)
        have hP : va_P D vwCl (wM am cI cZ (sA (sA u_11 3 ((p_m_append u 0 5 x1 x2).1) x3) 4 ((p_m_append u 0 5 x1 x2).1) x4)) H := hP
        have hD : va_D A (wM am cI cZ (sA (sA u_11 3 ((p_m_append u 0 5 x1 x2).1) x3) 4 ((p_m_append u 0 5 x1 x2).1) x4)) := hD
        refine lv_iload hx hb dX4_branch_71 (lv_at hl 0 rfl) ?_
        have e9 : p_m_branch u x1 x2 x3 x4 = ((p_m_append u 0 5 x1 x2).1, sA (sA u_11 3 ((p_m_append u 0 5 x1 x2).1) x3) 4 ((p_m_append u 0 5 x1 x2).1) x4) := by
          subst eu_11
          rw [p_m_branch, if_neg c_2, if_pos c_9, if_pos c_12]
        rw [e9]
        exact W.iret hx hb hr (fun t ht hW => ⟨⟨_, (), rfl, rfl, by rw [ht]; exact hP, va_K.moved hW.alike hK, hD⟩, hS.F ht⟩) hS.2.2 dX4_branch_73
    · have hok := hok.2 c_9
      refine lv_iload_n hx hb dX4_branch_15 rfl (lv_at hl 3 rfl) ?_
      refine k_callSi (As := [.int x3]) (rest := [.ref (am 0)]) hzz ⟨hx, hb, hml, hown, hts⟩ (c_m_isVariable l D am cI cZ zz hzz (wM am cI cZ u) x3) (cwS 1 hts (tb_S tw_3_176 tw_3_177 tw_1_5 tw_3_178) rfl rfl rfl (by decide +kernel) ⟨Nat.le_of_ble_eq_true rfl, Nat.le_of_ble_eq_true rfl⟩) rfl hl.1 rfl (lv_room (Nat.le_of_ble_eq_true rfl)) dX4_branch_16 ⟨Nat.le_of_ble_eq_true rfl, Nat.le_of_ble_eq_true rfl⟩ hP hK hD hS hA hZ (fun H locs hP hD hS => ?_)
      refine lv_if_eq (tgt := 38) hx hb dX4_branch_19 (by decide) (fun c_16 => ?_) (fun c_16 => ?_)
      · have hok := hok.1 c_16
        refine lv_iconst (v := 0) hx hb dX4_branch_38 (by decide) ?_
        refine lv_iconst (v := 5) hx hb dX4_branch_39 (by decide) ?_
        refine lv_iload_n hx hb dX4_branch_40 rfl (lv_at hl 1 rfl) ?_
        refine lv_iload_n hx hb dX4_branch_41 rfl (lv_at hl 2 rfl) ?_
        obtain ⟨h_17, hok⟩ := hok
        refine k_callVi (As := [.int 0, .int 5, .int x1, .int x2]) (rest := []) hzz ⟨hx, hb, hml, hown, hts⟩ (c_m_append l D am cI cZ zz hzz u 0 5 x1 x2 h_17) (cwV 4 hts (tb_V tw_3_179 tw_3_181 slX4_append tw_1_5 tw_3_182) rfl rfl rfl (by decide +kernel) ⟨Nat.le_of_ble_eq_true rfl, Nat.le_of_ble_eq_true rfl⟩) (va_recv hK hP (ci := 4) (q0 := 0) rfl rfl) rfl hl.1 rfl (lv_room (Nat.le_of_ble_eq_true rfl)) dX4_branch_42 ⟨Nat.le_of_ble_eq_true rfl, Nat.le_of_ble_eq_true rfl⟩ hP hK hD hS hA hZ (fun H locs hP hD hS => ?_)
        generalize eu_18 : (p_m_append u 0 5 x1 x2).2 = u_18 at hP hD ⊢
        try rw [eu_18] at hok
        refine lv_istore (lv' := [(5, .int ((p_m_append u 0 5 x1 x2).1)), (0, .ref (am 0)), (1, .int x1), (2, .int x2), (3, .int x3), (4, .int x4)]) hx hb dX4_branch_45 hl (by decide) rfl (fun ls hl => ?_)
        refine lv_aload_n hx hb dX4_branch_47 rfl (lv_at hl 1 rfl) ?_
        refine va_get (ci := 4) (v := .int (u_18.1 0)) (C := RX4) (T := TX4) (N := 22) hx hb hts (ivX4 _) hown hK hP 0 rfl rfl 0 (by decide) (hts _ (tb_c tw_3_101)) (fun _ h9 => h9) rfl dX4_branch_48 ?_
        refine lv_if_ne (tgt := 71) hx hb dX4_branch_51 (by decide) (fun c_19 => ?_) (fun c_19 => ?_)
        · have hok := hok.2 c_19
          refine lv_iload hx hb dX4_branch_71 (lv_at hl 0 rfl) ?_
          have e9 : p_m_branch u x1 x2 x3 x4 = ((p_m_append u 0 5 x1 x2).1, u_18) := by
            subst eu_18
            rw [p_m_branch, if_neg c_2, if_neg c_9, if_pos c_16, if_neg c_19]
          rw [e9]
          exact W.iret hx hb hr (fun t ht hW => ⟨⟨_, (), rfl, rfl, by rw [ht]; exact hP, va_K.moved hW.alike hK, hD⟩, hS.F ht⟩) hS.2.2 dX4_branch_73
        · have hok := hok.1 c_19
          refine lv_aload_n hx hb dX4_branch_54 rfl (lv_at hl 1 rfl) ?_
          refine va_get (ci := 4) (v := .ref (am 4)) (C := RX4) (T := TX4) (N := 22) hx hb hts (ivX4 _) hown hK hP 0 rfl rfl 5 (by decide) (hts _ (tb_c tw_3_106)) (fun _ h9 => h9) rfl dX4_branch_55 ?_
          refine lv_iload hx hb dX4_branch_58 (lv_at hl 0 rfl) ?_
          refine lv_iload_n hx hb dX4_branch_60 rfl (lv_at hl 4 rfl) ?_
          obtain ⟨h_20, hok⟩ := hok
          refine va_iast hx hb hK hP hD hS 4 0 rfl rfl h_20 dX4_branch_61 (fun H locs hP hD hS => ?_)
          have hP : va_P D vwCl (wM am cI cZ (sA u_18 3 ((p_m_append u 0 5 x1 x2).1) x3)) H := hP
          have hD : va_D A (wM am cI cZ (sA u_18 3 ((p_m_append u 0 5 x1 x2).1) x3)) := hD
          refine lv_aload_n hx hb dX4_branch_62 rfl (lv_at hl 1 rfl) ?_
          refine va_get (ci := 4) (v := .ref (am 5)) (C := RX4) (T := TX4) (N := 22) hx hb hts (ivX4 _) hown hK hP 0 rfl rfl 6 (by decide) (hts _ (tb_c tw_3_107)) (fun _ h9 => h9) rfl dX4_branch_63 ?_
          refine lv_iload hx hb dX4_branch_66 (lv_at hl 0 rfl) ?_
          refine lv_iload hx hb dX4_branch_68 (lv_at hl 5 rfl) ?_
          obtain ⟨h_21, hok⟩ := hok
          refine va_iast hx hb hK hP hD hS 5 0 rfl rfl h_21 dX4_branch_70 (fun H locs hP hD hS => ?_)
          have hP : va_P D vwCl (wM am cI cZ (sA (sA u_18 3 ((p_m_append u 0 5 x1 x2).1) x3) 4 ((p_m_append u 0 5 x1 x2).1) x4)) H := hP
          have hD : va_D A (wM am cI cZ (sA (sA u_18 3 ((p_m_append u 0 5 x1 x2).1) x3) 4 ((p_m_append u 0 5 x1 x2).1) x4)) := hD
          refine lv_iload hx hb dX4_branch_71 (lv_at hl 0 rfl) ?_
          have e9 : p_m_branch u x1 x2 x3 x4 = ((p_m_append u 0 5 x1 x2).1, sA (sA u_18 3 ((p_m_append u 0 5 x1 x2).1) x3) 4 ((p_m_append u 0 5 x1 x2).1) x4) := by
            subst eu_18
            rw [p_m_branch, if_neg c_2, if_neg c_9, if_pos c_16, if_pos c_19]
          rw [e9]
          exact W.iret hx hb hr (fun t ht hW => ⟨⟨_, (), rfl, rfl, by rw [ht]; exact hP, va_K.moved hW.alike hK, hD⟩, hS.F ht⟩) hS.2.2 dX4_branch_73
      · have hok := hok.2 c_16
        refine lv_iload hx hb dX4_branch_22 (lv_at hl 4 rfl) ?_
        refine lv_if_lt (tgt := 38) hx hb dX4_branch_24 (by decide) (fun c_22 => ?_) (fun c_22 => ?_)
        · have hok := hok.1 c_22
          refine lv_iconst (v := 0) hx hb dX4_branch_38 (by decide) ?_
          refine lv_iconst (v := 5) hx hb dX4_branch_39 (by decide) ?_
          refine lv_iload_n hx hb dX4_branch_40 rfl (lv_at hl 1 rfl) ?_
          refine lv_iload_n hx hb dX4_branch_41 rfl (lv_at hl 2 rfl) ?_
          obtain ⟨h_23, hok⟩ := hok
          refine k_callVi (As := [.int 0, .int 5, .int x1, .int x2]) (rest := []) hzz ⟨hx, hb, hml, hown, hts⟩ (c_m_append l D am cI cZ zz hzz u 0 5 x1 x2 h_23) (cwV 4 hts (tb_V tw_3_179 tw_3_181 slX4_append tw_1_5 tw_3_182) rfl rfl rfl (by decide +kernel) ⟨Nat.le_of_ble_eq_true rfl, Nat.le_of_ble_eq_true rfl⟩) (va_recv hK hP (ci := 4) (q0 := 0) rfl rfl) rfl hl.1 rfl (lv_room (Nat.le_of_ble_eq_true rfl)) dX4_branch_42 ⟨Nat.le_of_ble_eq_true rfl, Nat.le_of_ble_eq_true rfl⟩ hP hK hD hS hA hZ (fun H locs hP hD hS => ?_)
          generalize eu_24 : (p_m_append u 0 5 x1 x2).2 = u_24 at hP hD ⊢
          try rw [eu_24] at hok
          refine lv_istore (lv' := [(5, .int ((p_m_append u 0 5 x1 x2).1)), (0, .ref (am 0)), (1, .int x1), (2, .int x2), (3, .int x3), (4, .int x4)]) hx hb dX4_branch_45 hl (by decide) rfl (fun ls hl => ?_)
          refine lv_aload_n hx hb dX4_branch_47 rfl (lv_at hl 1 rfl) ?_
          refine va_get (ci := 4) (v := .int (u_24.1 0)) (C := RX4) (T := TX4) (N := 22) hx hb hts (ivX4 _) hown hK hP 0 rfl rfl 0 (by decide) (hts _ (tb_c tw_3_101)) (fun _ h9 => h9) rfl dX4_branch_48 ?_
          refine lv_if_ne (tgt := 71) hx hb dX4_branch_51 (by decide) (fun c_25 => ?_) (fun c_25 => ?_)
          · have hok := hok.2 c_25
            refine lv_iload hx hb dX4_branch_71 (lv_at hl 0 rfl) ?_
            have e9 : p_m_branch u x1 x2 x3 x4 = ((p_m_append u 0 5 x1 x2).1, u_24) := by
              subst eu_24
              rw [p_m_branch, if_neg c_2, if_neg c_9, if_neg c_16, if_pos c_22, if_neg c_25]
            rw [e9]
            exact W.iret hx hb hr (fun t ht hW => ⟨⟨_, (), rfl, rfl, by rw [ht]; exact hP, va_K.moved hW.alike hK, hD⟩, hS.F ht⟩) hS.2.2 dX4_branch_73
          · have hok := hok.1 c_25
            refine lv_aload_n hx hb dX4_branch_54 rfl (lv_at hl 1 rfl) ?_
            refine va_get (ci := 4) (v := .ref (am 4)) (C := RX4) (T := TX4) (N := 22) hx hb hts (ivX4 _) hown hK hP 0 rfl rfl 5 (by decide) (hts _ (tb_c tw_3_106)) (fun _ h9 => h9) rfl dX4_branch_55 ?_
            refine lv_iload hx hb dX4_branch_58 (lv_at hl 0 rfl) ?_
            refine lv_iload_n hx hb dX4_branch_60 rfl (lv_at hl 4 rfl) ?_
            obtain ⟨h_26, hok⟩ := hok
            refine va_iast hx hb hK hP hD hS 4 0 rfl rfl h_26 dX4_branch_61 (fun H locs hP hD hS => ?_)
            have hP : va_P D vwCl (wM am cI cZ (sA u_24 3 ((p_m_append u 0 5 x1 x2).1) x3)) H := hP
            have hD : va_D A (wM am cI cZ (sA u_24 3 ((p_m_append u 0 5 x1 x2).1) x3)) := hD
            refine lv_aload_n hx hb dX4_branch_62 rfl (lv_at hl 1 rfl) ?_
            refine va_get (ci := 4) (v := .ref (am 5)) (C := RX4) (T := TX4) (N := 22) hx hb hts (ivX4 _) hown hK hP 0 rfl rfl 6 (by decide) (hts _ (tb_c tw_3_107)) (fun _ h9 => h9) rfl dX4_branch_63 ?_
            refine lv_iload hx hb dX4_branch_66 (lv_at hl 0 rfl) ?_
            refine lv_iload hx hb dX4_branch_68 (lv_at hl 5 rfl) ?_
            obtain ⟨h_27, hok⟩ := hok
            refine va_iast hx hb hK hP hD hS 5 0 rfl rfl h_27 dX4_branch_70 (fun H locs hP hD hS => ?_)
            have hP : va_P D vwCl (wM am cI cZ (sA (sA u_24 3 ((p_m_append u 0 5 x1 x2).1) x3) 4 ((p_m_append u 0 5 x1 x2).1) x4)) H := hP
            have hD : va_D A (wM am cI cZ (sA (sA u_24 3 ((p_m_append u 0 5 x1 x2).1) x3) 4 ((p_m_append u 0 5 x1 x2).1) x4)) := hD
            refine lv_iload hx hb dX4_branch_71 (lv_at hl 0 rfl) ?_
            have e9 : p_m_branch u x1 x2 x3 x4 = ((p_m_append u 0 5 x1 x2).1, sA (sA u_24 3 ((p_m_append u 0 5 x1 x2).1) x3) 4 ((p_m_append u 0 5 x1 x2).1) x4) := by
              subst eu_24
              rw [p_m_branch, if_neg c_2, if_neg c_9, if_neg c_16, if_pos c_22, if_pos c_25]
            rw [e9]
            exact W.iret hx hb hr (fun t ht hW => ⟨⟨_, (), rfl, rfl, by rw [ht]; exact hP, va_K.moved hW.alike hK, hD⟩, hS.F ht⟩) hS.2.2 dX4_branch_73
        · have hok := hok.2 c_22
          refine lv_iload hx hb dX4_branch_27 (lv_at hl 4 rfl) ?_
          refine lv_bipush (v := 47) hx hb dX4_branch_29 (by decide) ?_
          refine lv_icmp_gt (tgt := 38) hx hb dX4_branch_31 (by decide) (fun c_28 => ?_) (fun c_28 => ?_)
          · have hok := hok.1 c_28
            refine lv_iconst (v := 0) hx hb dX4_branch_38 (by decide) ?_
            refine lv_iconst (v := 5) hx hb dX4_branch_39 (by decide) ?_
            refine lv_iload_n hx hb dX4_branch_40 rfl (lv_at hl 1 rfl) ?_
            refine lv_iload_n hx hb dX4_branch_41 rfl (lv_at hl 2 rfl) ?_
            obtain ⟨h_29, hok⟩ := hok
            refine k_callVi (As := [.int 0, .int 5, .int x1, .int x2]) (rest := []) hzz ⟨hx, hb, hml, hown, hts⟩ (c_m_append l D am cI cZ zz hzz u 0 5 x1 x2 h_29) (cwV 4 hts (tb_V tw_3_179 tw_3_181 slX4_append tw_1_5 tw_3_182) rfl rfl rfl (by decide +kernel) ⟨Nat.le_of_ble_eq_true rfl, Nat.le_of_ble_eq_true rfl⟩) (va_recv hK hP (ci := 4) (q0 := 0) rfl rfl) rfl hl.1 rfl (lv_room (Nat.le_of_ble_eq_true rfl)) dX4_branch_42 ⟨Nat.le_of_ble_eq_true rfl, Nat.le_of_ble_eq_true rfl⟩ hP hK hD hS hA hZ (fun H locs hP hD hS => ?_)
            generalize eu_30 : (p_m_append u 0 5 x1 x2).2 = u_30 at hP hD ⊢
            try rw [eu_30] at hok
            refine lv_istore (lv' := [(5, .int ((p_m_append u 0 5 x1 x2).1)), (0, .ref (am 0)), (1, .int x1), (2, .int x2), (3, .int x3), (4, .int x4)]) hx hb dX4_branch_45 hl (by decide) rfl (fun ls hl => ?_)
            refine lv_aload_n hx hb dX4_branch_47 rfl (lv_at hl 1 rfl) ?_
            refine va_get (ci := 4) (v := .int (u_30.1 0)) (C := RX4) (T := TX4) (N := 22) hx hb hts (ivX4 _) hown hK hP 0 rfl rfl 0 (by decide) (hts _ (tb_c tw_3_101)) (fun _ h9 => h9) rfl dX4_branch_48 ?_
            refine lv_if_ne (tgt := 71) hx hb dX4_branch_51 (by decide) (fun c_31 => ?_) (fun c_31 => ?_)
            · have hok := hok.2 c_31
              refine lv_iload hx hb dX4_branch_71 (lv_at hl 0 rfl) ?_
              have e9 : p_m_branch u x1 x2 x3 x4 = ((p_m_append u 0 5 x1 x2).1, u_30) := by
                subst eu_30
                rw [p_m_branch, if_neg c_2, if_neg c_9, if_neg c_16, if_neg c_22, if_pos c_28, if_neg c_31]
              rw [e9]
              exact W.iret hx hb hr (fun t ht hW => ⟨⟨_, (), rfl, rfl, by rw [ht]; exact hP, va_K.moved hW.alike hK, hD⟩, hS.F ht⟩) hS.2.2 dX4_branch_73
            · have hok := hok.1 c_31
              refine lv_aload_n hx hb dX4_branch_54 rfl (lv_at hl 1 rfl) ?_
              refine va_get (ci := 4) (v := .ref (am 4)) (C := RX4) (T := TX4) (N := 22) hx hb hts (ivX4 _) hown hK hP 0 rfl rfl 5 (by decide) (hts _ (tb_c tw_3_106)) (fun _ h9 => h9) rfl dX4_branch_55 ?_
              refine lv_iload hx hb dX4_branch_58 (lv_at hl 0 rfl) ?_
              refine lv_iload_n hx hb dX4_branch_60 rfl (lv_at hl 4 rfl) ?_
              obtain ⟨h_32, hok⟩ := hok
              refine va_iast hx hb hK hP hD hS 4 0 rfl rfl h_32 dX4_branch_61 (fun H locs hP hD hS => ?_)
              have hP : va_P D vwCl (wM am cI cZ (sA u_30 3 ((p_m_append u 0 5 x1 x2).1) x3)) H := hP
              have hD : va_D A (wM am cI cZ (sA u_30 3 ((p_m_append u 0 5 x1 x2).1) x3)) := hD
              refine lv_aload_n hx hb dX4_branch_62 rfl (lv_at hl 1 rfl) ?_
              refine va_get (ci := 4) (v := .ref (am 5)) (C := RX4) (T := TX4) (N := 22) hx hb hts (ivX4 _) hown hK hP 0 rfl rfl 6 (by decide) (hts _ (tb_c tw_3_107)) (fun _ h9 => h9) rfl dX4_branch_63 ?_
              refine lv_iload hx hb dX4_branch_66 (lv_at hl 0 rfl) ?_
              refine lv_iload hx hb dX4_branch_68 (lv_at hl 5 rfl) ?_
              obtain ⟨h_33, hok⟩ := hok
              refine va_iast hx hb hK hP hD hS 5 0 rfl rfl h_33 dX4_branch_70 (fun H locs hP hD hS => ?_)
              have hP : va_P D vwCl (wM am cI cZ (sA (sA u_30 3 ((p_m_append u 0 5 x1 x2).1) x3) 4 ((p_m_append u 0 5 x1 x2).1) x4)) H := hP
              have hD : va_D A (wM am cI cZ (sA (sA u_30 3 ((p_m_append u 0 5 x1 x2).1) x3) 4 ((p_m_append u 0 5 x1 x2).1) x4)) := hD
              refine lv_iload hx hb dX4_branch_71 (lv_at hl 0 rfl) ?_
              have e9 : p_m_branch u x1 x2 x3 x4 = ((p_m_append u 0 5 x1 x2).1, sA (sA u_30 3 ((p_m_append u 0 5 x1 x2).1) x3) 4 ((p_m_append u 0 5 x1 x2).1) x4) := by
                subst eu_30
                rw [p_m_branch, if_neg c_2, if_neg c_9, if_neg c_16, if_neg c_22, if_pos c_28, if_pos c_31]
              rw [e9]
              exact W.iret hx hb hr (fun t ht hW => ⟨⟨_, (), rfl, rfl, by rw [ht]; exact hP, va_K.moved hW.alike hK, hD⟩, hS.F ht⟩) hS.2.2 dX4_branch_73
          · have hok := hok.2 c_28
            refine lv_iconst (v := 1) hx hb dX4_branch_34 (by decide) ?_
            refine lv_goto (tgt := 39) hx hb dX4_branch_35 (by decide) ?_
            refine lv_iconst (v := 5) hx hb dX4_branch_39 (by decide) ?_
            refine lv_iload_n hx hb dX4_branch_40 rfl (lv_at hl 1 rfl) ?_
            refine lv_iload_n hx hb dX4_branch_41 rfl (lv_at hl 2 rfl) ?_
            obtain ⟨h_34, hok⟩ := hok
            refine k_callVi (As := [.int 1, .int 5, .int x1, .int x2]) (rest := []) hzz ⟨hx, hb, hml, hown, hts⟩ (c_m_append l D am cI cZ zz hzz u 1 5 x1 x2 h_34) (cwV 4 hts (tb_V tw_3_179 tw_3_181 slX4_append tw_1_5 tw_3_182) rfl rfl rfl (by decide +kernel) ⟨Nat.le_of_ble_eq_true rfl, Nat.le_of_ble_eq_true rfl⟩) (va_recv hK hP (ci := 4) (q0 := 0) rfl rfl) rfl hl.1 rfl (lv_room (Nat.le_of_ble_eq_true rfl)) dX4_branch_42 ⟨Nat.le_of_ble_eq_true rfl, Nat.le_of_ble_eq_true rfl⟩ hP hK hD hS hA hZ (fun H locs hP hD hS => ?_)
            generalize eu_35 : (p_m_append u 1 5 x1 x2).2 = u_35 at hP hD ⊢
            try rw [eu_35] at hok
            refine lv_istore (lv' := [(5, .int ((p_m_append u 1 5 x1 x2).1)), (0, .ref (am 0)), (1, .int x1), (2, .int x2), (3, .int x3), (4, .int x4)]) hx hb dX4_branch_45 hl (by decide) rfl (fun ls hl => ?_)
            refine lv_aload_n hx hb dX4_branch_47 rfl (lv_at hl 1 rfl) ?_
            refine va_get (ci := 4) (v := .int (u_35.1 0)) (C := RX4) (T := TX4) (N := 22) hx hb hts (ivX4 _) hown hK hP 0 rfl rfl 0 (by decide) (hts _ (tb_c tw_3_101)) (fun _ h9 => h9) rfl dX4_branch_48 ?_
            refine lv_if_ne (tgt := 71) hx hb dX4_branch_51 (by decide) (fun c_36 => ?_) (fun c_36 => ?_)
            · have hok := hok.2 c_36
              refine lv_iload hx hb dX4_branch_71 (lv_at hl 0 rfl) ?_
              have e9 : p_m_branch u x1 x2 x3 x4 = ((p_m_append u 1 5 x1 x2).1, u_35) := by
                subst eu_35
                rw [p_m_branch, if_neg c_2, if_neg c_9, if_neg c_16, if_neg c_22, if_neg c_28, if_neg c_36]
              rw [e9]
              exact W.iret hx hb hr (fun t ht hW => ⟨⟨_, (), rfl, rfl, by rw [ht]; exact hP, va_K.moved hW.alike hK, hD⟩, hS.F ht⟩) hS.2.2 dX4_branch_73
            · have hok := hok.1 c_36
              refine lv_aload_n hx hb dX4_branch_54 rfl (lv_at hl 1 rfl) ?_
              refine va_get (ci := 4) (v := .ref (am 4)) (C := RX4) (T := TX4) (N := 22) hx hb hts (ivX4 _) hown hK hP 0 rfl rfl 5 (by decide) (hts _ (tb_c tw_3_106)) (fun _ h9 => h9) rfl dX4_branch_55 ?_
              refine lv_iload hx hb dX4_branch_58 (lv_at hl 0 rfl) ?_
              refine lv_iload_n hx hb dX4_branch_60 rfl (lv_at hl 4 rfl) ?_
              obtain ⟨h_37, hok⟩ := hok
              refine va_iast hx hb hK hP hD hS 4 0 rfl rfl h_37 dX4_branch_61 (fun H locs hP hD hS => ?_)
              have hP : va_P D vwCl (wM am cI cZ (sA u_35 3 ((p_m_append u 1 5 x1 x2).1) x3)) H := hP
              have hD : va_D A (wM am cI cZ (sA u_35 3 ((p_m_append u 1 5 x1 x2).1) x3)) := hD
              refine lv_aload_n hx hb dX4_branch_62 rfl (lv_at hl 1 rfl) ?_
              refine va_get (ci := 4) (v := .ref (am 5)) (C := RX4) (T := TX4) (N := 22) hx hb hts (ivX4 _) hown hK hP 0 rfl rfl 6 (by decide) (hts _ (tb_c tw_3_107)) (fun _ h9 => h9) rfl dX4_branch_63 ?_
              refine lv_iload hx hb dX4_branch_66 (lv_at hl 0 rfl) ?_
              refine lv_iload hx hb dX4_branch_68 (lv_at hl 5 rfl) ?_
              obtain ⟨h_38, hok⟩ := hok
              refine va_iast hx hb hK hP hD hS 5 0 rfl rfl h_38 dX4_branch_70 (fun H locs hP hD hS => ?_)
              have hP : va_P D vwCl (wM am cI cZ (sA (sA u_35 3 ((p_m_append u 1 5 x1 x2).1) x3) 4 ((p_m_append u 1 5 x1 x2).1) x4)) H := hP
              have hD : va_D A (wM am cI cZ (sA (sA u_35 3 ((p_m_append u 1 5 x1 x2).1) x3) 4 ((p_m_append u 1 5 x1 x2).1) x4)) := hD
              refine lv_iload hx hb dX4_branch_71 (lv_at hl 0 rfl) ?_
              have e9 : p_m_branch u x1 x2 x3 x4 = ((p_m_append u 1 5 x1 x2).1, sA (sA u_35 3 ((p_m_append u 1 5 x1 x2).1) x3) 4 ((p_m_append u 1 5 x1 x2).1) x4) := by
                subst eu_35
                rw [p_m_branch, if_neg c_2, if_neg c_9, if_neg c_16, if_neg c_22, if_neg c_28, if_pos c_36]
              rw [e9]
              exact W.iret hx hb hr (fun t ht hW => ⟨⟨_, (), rfl, rfl, by rw [ht]; exact hP, va_K.moved hW.alike hK, hD⟩, hS.F ht⟩) hS.2.2 dX4_branch_73

def p_m_out (u : St) (x1 : Int32) : Int32 × St := ((p_m_append u (p_m_isVariable x1) 6 x1 0).1, ((p_m_append u (p_m_isVariable x1) 6 x1 0).2))
def ok_m_out (u : St) (x1 : Int32) : Prop := (ok_m_append u (p_m_isVariable x1) 6 x1 0 ∧ True)
set_option maxHeartbeats 4000000 in
set_option maxRecDepth 100000 in
theorem c_m_out (l : Launch) (D : va_G) (am : Nat → Nat) (cI cZ : ClassId) (zz : (Nat → Prop) → State → Heap → Prop) (hzz : Zok zz) (u : St) (x1 : Int32) (hok : ok_m_out u x1) : tfI l D vwCl (tyT cI cZ) zz yX4_out wsX4_out ({ frames := 1, cells := 0, slots := 0, locals := 24 } : Room) [.ref (am 0), .int x1] (wM am cI cZ u) (p_m_out u x1).1 (wM am cI cZ ((p_m_out u x1).2)) := by
  intro sz
  unfold ok_m_out at hok
  refine Met.ofW (cc := cX4_out) (maxL := 2) (ret := (some .int)) (by decide) rfl ?_
  intro p e s m args below meth c s₁ B hml hv
  obtain ⟨rfl, hsz, hP, hK, hD0, hZ⟩ := hv
  have hx := B.exec
  have hb := B.bytes
  have hr := B.returns
  have hts := atoms_spec (ws := wsX4_out) B.pre
  have hown : s.vm.findClass RX4 = some m.cls := findClass_of_methodNamed B.named
  have hlocks := B.notSynchronized
  subst hsz
  have hD := hD0.self (sz := s.heap.size)
  generalize hAe : va_A (wM am cI cZ u) s.heap.size = A at hD hZ ⊢
  have hA : ∀ q : Nat, s.heap.size ≤ q → A q := fun q h => by rw [← hAe]; exact Or.inr h
  have hS : va_S A s.heap s.heap [] := va_S.rf
  have Cx : cxt p s m ([.ref (am 0), .int x1] : List Value).toArray meth c cX4_out 2 (some .int) wsX4_out RX4 D vwCl (tyT cI cZ) zz A := ⟨hx, hb, hr, hts, hown, hlocks, hml, hK, hA, hZ⟩
  have hl := lv_entry ([.ref (am 0), .int x1]) (n := 2) (Nat.le_of_ble_eq_true rfl)
  rw [lg_entry_eq]
  generalize (lg_sl ([.ref (am 0), .int x1]) ++ List.replicate (2 - (lg_sl ([.ref (am 0), .int x1])).length) Slot.unset).toArray = ls at hl ⊢
  have hl : lv_has ls 2 [(0, .ref (am 0)), (1, .int x1)] := hl
  refine lv_aload_n hx hb dX4_out_0 rfl (lv_at hl 0 rfl) ?_
  refine lv_iload_n hx hb dX4_out_1 rfl (lv_at hl 1 rfl) ?_
  refine k_callSi (As := [.int x1]) (rest := [.ref (am 0)]) hzz ⟨hx, hb, hml, hown, hts⟩ (c_m_isVariable l D am cI cZ zz hzz (wM am cI cZ u) x1) (cwS 1 hts (tb_S tw_3_176 tw_3_177 tw_1_5 tw_3_178) rfl rfl rfl (by decide +kernel) ⟨Nat.le_of_ble_eq_true rfl, Nat.le_of_ble_eq_true rfl⟩) rfl hl.1 rfl (lv_room (Nat.le_of_ble_eq_true rfl)) dX4_out_2 ⟨Nat.le_of_ble_eq_true rfl, Nat.le_of_ble_eq_true rfl⟩ hP hK hD hS hA hZ (fun H locs hP hD hS => ?_)
  refine lv_bipush (v := 6) hx hb dX4_out_5 (by decide) ?_
  refine lv_iload_n hx hb dX4_out_7 rfl (lv_at hl 1 rfl) ?_
  refine lv_iconst (v := 0) hx hb dX4_out_8 (by decide) ?_
  obtain ⟨h_2, hok⟩ := hok
  refine k_callVi (As := [.int (p_m_isVariable x1), .int 6, .int x1, .int 0]) (rest := []) hzz ⟨hx, hb, hml, hown, hts⟩ (c_m_append l D am cI cZ zz hzz u (p_m_isVariable x1) 6 x1 0 h_2) (cwV 4 hts (tb_V tw_3_179 tw_3_181 slX4_append tw_1_5 tw_3_182) rfl rfl rfl (by decide +kernel) ⟨Nat.le_of_ble_eq_true rfl, Nat.le_of_ble_eq_true rfl⟩) (va_recv hK hP (ci := 4) (q0 := 0) rfl rfl) rfl hl.1 rfl (lv_room (Nat.le_of_ble_eq_true rfl)) dX4_out_9 ⟨Nat.le_of_ble_eq_true rfl, Nat.le_of_ble_eq_true rfl⟩ hP hK hD hS hA hZ (fun H locs hP hD hS => ?_)
  generalize eu_3 : (p_m_append u (p_m_isVariable x1) 6 x1 0).2 = u_3 at hP hD ⊢
  try rw [eu_3] at hok
  have e9 : p_m_out u x1 = ((p_m_append u (p_m_isVariable x1) 6 x1 0).1, u_3) := by
    subst eu_3
    rw [p_m_out]
  rw [e9]
  exact W.iret hx hb hr (fun t ht hW => ⟨⟨_, (), rfl, rfl, by rw [ht]; exact hP, va_K.moved hW.alike hK, hD⟩, hS.F ht⟩) hS.2.2 dX4_out_12

def p_m_stop (u : St) (x1 : Int32) : Int32 × St := (if x1 < ((-1)) then (if 0 ≤ x1 then ((p_m_append u 0 8 x1 0).1, ((p_m_append u 0 8 x1 0).2)) else ((p_m_append u 0 7 x1 0).1, ((p_m_append u 0 7 x1 0).2))) else (if 255 < x1 then (if 0 ≤ x1 then ((p_m_append u 0 8 x1 0).1, ((p_m_append u 0 8 x1 0).2)) else ((p_m_append u 0 7 x1 0).1, ((p_m_append u 0 7 x1 0).2))) else (if 0 ≤ x1 then ((p_m_append u 1 8 x1 0).1, ((p_m_append u 1 8 x1 0).2)) else ((p_m_append u 1 7 x1 0).1, ((p_m_append u 1 7 x1 0).2)))))
def ok_m_stop (u : St) (x1 : Int32) : Prop := ((x1 < ((-1)) → ((0 ≤ x1 → (ok_m_append u 0 8 x1 0 ∧ True)) ∧ (¬ 0 ≤ x1 → (ok_m_append u 0 7 x1 0 ∧ True)))) ∧ (¬ x1 < ((-1)) → ((255 < x1 → ((0 ≤ x1 → (ok_m_append u 0 8 x1 0 ∧ True)) ∧ (¬ 0 ≤ x1 → (ok_m_append u 0 7 x1 0 ∧ True)))) ∧ (¬ 255 < x1 → ((0 ≤ x1 → (ok_m_append u 1 8 x1 0 ∧ True)) ∧ (¬ 0 ≤ x1 → (ok_m_append u 1 7 x1 0 ∧ True)))))))
set_option maxHeartbeats 4000000 in
set_option maxRecDepth 100000 in
theorem c_m_stop (l : Launch) (D : va_G) (am : Nat → Nat) (cI cZ : ClassId) (zz : (Nat → Prop) → State → Heap → Prop) (hzz : Zok zz) (u : St) (x1 : Int32) (hok : ok_m_stop u x1) : tfI l D vwCl (tyT cI cZ) zz yX4_stop wsX4_stop ({ frames := 1, cells := 0, slots := 0, locals := 24 } : Room) [.ref (am 0), .int x1] (wM am cI cZ u) (p_m_stop u x1).1 (wM am cI cZ ((p_m_stop u x1).2)) := by
  intro sz
  unfold ok_m_stop at hok
  refine Met.ofW (cc := cX4_stop) (maxL := 2) (ret := (some .int)) (by decide) rfl ?_
  intro p e s m args below meth c s₁ B hml hv
  obtain ⟨rfl, hsz, hP, hK, hD0, hZ⟩ := hv
  have hx := B.exec
  have hb := B.bytes
  have hr := B.returns
  have hts := atoms_spec (ws := wsX4_stop) B.pre
  have hown : s.vm.findClass RX4 = some m.cls := findClass_of_methodNamed B.named
  have hlocks := B.notSynchronized
  subst hsz
  have hD := hD0.self (sz := s.heap.size)
  generalize hAe : va_A (wM am cI cZ u) s.heap.size = A at hD hZ ⊢
  have hA : ∀ q : Nat, s.heap.size ≤ q → A q := fun q h => by rw [← hAe]; exact Or.inr h
  have hS : va_S A s.heap s.heap [] := va_S.rf
  have Cx : cxt p s m ([.ref (am 0), .int x1] : List Value).toArray meth c cX4_stop 2 (some .int) wsX4_stop RX4 D vwCl (tyT cI cZ) zz A := ⟨hx, hb, hr, hts, hown, hlocks, hml, hK, hA, hZ⟩
  have hl := lv_entry ([.ref (am 0), .int x1]) (n := 2) (Nat.le_of_ble_eq_true rfl)
  rw [lg_entry_eq]
  generalize (lg_sl ([.ref (am 0), .int x1]) ++ List.replicate (2 - (lg_sl ([.ref (am 0), .int x1])).length) Slot.unset).toArray = ls at hl ⊢
  have hl : lv_has ls 2 [(0, .ref (am 0)), (1, .int x1)] := hl
  refine lv_aload_n hx hb dX4_stop_0 rfl (lv_at hl 0 rfl) ?_
  refine lv_iload_n hx hb dX4_stop_1 rfl (lv_at hl 1 rfl) ?_
  refine lv_iconst (v := (-1)) hx hb dX4_stop_2 (by decide) ?_
  refine lv_icmp_lt (tgt := 17) hx hb dX4_stop_3 (by decide) (fun c_1 => ?_) (fun c_1 => ?_)
  · have hok := hok.1 c_1
    refine lv_iconst (v := 0) hx hb dX4_stop_17 (by decide) ?_
    refine lv_iload_n hx hb dX4_stop_18 rfl (lv_at hl 1 rfl) ?_
    refine lv_if_ge (tgt := 27) hx hb dX4_stop_19 (by decide) (fun c_2 => ?_) (fun c_2 => ?_)
    · have hok := hok.1 c_2
      refine lv_bipush (v := 8) hx hb dX4_stop_27 (by decide) ?_
      refine lv_iload_n hx hb dX4_stop_29 rfl (lv_at hl 1 rfl) ?_
      refine lv_iconst (v := 0) hx hb dX4_stop_30 (by decide) ?_
      obtain ⟨h_3, hok⟩ := hok
      refine k_callVi (As := [.int 0, .int 8, .int x1, .int 0]) (rest := []) hzz ⟨hx, hb, hml, hown, hts⟩ (c_m_append l D am cI cZ zz hzz u 0 8 x1 0 h_3) (cwV 4 hts (tb_V tw_3_179 tw_3_181 slX4_append tw_1_5 tw_3_182) rfl rfl rfl (by decide +kernel) ⟨Nat.le_of_ble_eq_true rfl, Nat.le_of_ble_eq_true rfl⟩) (va_recv hK hP (ci := 4) (q0 := 0) rfl rfl) rfl hl.1 rfl (lv_room (Nat.le_of_ble_eq_true rfl)) dX4_stop_31 ⟨Nat.le_of_ble_eq_true rfl, Nat.le_of_ble_eq_true rfl⟩ hP hK hD hS hA hZ (fun H locs hP hD hS => ?_)
      generalize eu_4 : (p_m_append u 0 8 x1 0).2 = u_4 at hP hD ⊢
      try rw [eu_4] at hok
      have e9 : p_m_stop u x1 = ((p_m_append u 0 8 x1 0).1, u_4) := by
        subst eu_4
        rw [p_m_stop, if_pos c_1, if_pos c_2]
      rw [e9]
      exact W.iret hx hb hr (fun t ht hW => ⟨⟨_, (), rfl, rfl, by rw [ht]; exact hP, va_K.moved hW.alike hK, hD⟩, hS.F ht⟩) hS.2.2 dX4_stop_34
    · have hok := hok.2 c_2
      refine lv_bipush (v := 7) hx hb dX4_stop_22 (by decide) ?_
      refine lv_goto (tgt := 29) hx hb dX4_stop_24 (by decide) ?_
      refine lv_iload_n hx hb dX4_stop_29 rfl (lv_at hl 1 rfl) ?_
      refine lv_iconst (v := 0) hx hb dX4_stop_30 (by decide) ?_
      obtain ⟨h_5, hok⟩ := hok
      refine k_callVi (As := [.int 0, .int 7, .int x1, .int 0]) (rest := []) hzz ⟨hx, hb, hml, hown, hts⟩ (c_m_append l D am cI cZ zz hzz u 0 7 x1 0 h_5) (cwV 4 hts (tb_V tw_3_179 tw_3_181 slX4_append tw_1_5 tw_3_182) rfl rfl rfl (by decide +kernel) ⟨Nat.le_of_ble_eq_true rfl, Nat.le_of_ble_eq_true rfl⟩) (va_recv hK hP (ci := 4) (q0 := 0) rfl rfl) rfl hl.1 rfl (lv_room (Nat.le_of_ble_eq_true rfl)) dX4_stop_31 ⟨Nat.le_of_ble_eq_true rfl, Nat.le_of_ble_eq_true rfl⟩ hP hK hD hS hA hZ (fun H locs hP hD hS => ?_)
      generalize eu_6 : (p_m_append u 0 7 x1 0).2 = u_6 at hP hD ⊢
      try rw [eu_6] at hok
      have e9 : p_m_stop u x1 = ((p_m_append u 0 7 x1 0).1, u_6) := by
        subst eu_6
        rw [p_m_stop, if_pos c_1, if_neg c_2]
      rw [e9]
      exact W.iret hx hb hr (fun t ht hW => ⟨⟨_, (), rfl, rfl, by rw [ht]; exact hP, va_K.moved hW.alike hK, hD⟩, hS.F ht⟩) hS.2.2 dX4_stop_34
  · have hok := hok.2 c_1
    refine lv_iload_n hx hb dX4_stop_6 rfl (lv_at hl 1 rfl) ?_
    refine lv_sipush (v := 255) hx hb dX4_stop_7 (by decide) ?_
    refine lv_icmp_gt (tgt := 17) hx hb dX4_stop_10 (by decide) (fun c_7 => ?_) (fun c_7 => ?_)
    · have hok := hok.1 c_7
      refine lv_iconst (v := 0) hx hb dX4_stop_17 (by decide) ?_
      refine lv_iload_n hx hb dX4_stop_18 rfl (lv_at hl 1 rfl) ?_
      refine lv_if_ge (tgt := 27) hx hb dX4_stop_19 (by decide) (fun c_8 => ?_) (fun c_8 => ?_)
      · have hok := hok.1 c_8
        refine lv_bipush (v := 8) hx hb dX4_stop_27 (by decide) ?_
        refine lv_iload_n hx hb dX4_stop_29 rfl (lv_at hl 1 rfl) ?_
        refine lv_iconst (v := 0) hx hb dX4_stop_30 (by decide) ?_
        obtain ⟨h_9, hok⟩ := hok
        refine k_callVi (As := [.int 0, .int 8, .int x1, .int 0]) (rest := []) hzz ⟨hx, hb, hml, hown, hts⟩ (c_m_append l D am cI cZ zz hzz u 0 8 x1 0 h_9) (cwV 4 hts (tb_V tw_3_179 tw_3_181 slX4_append tw_1_5 tw_3_182) rfl rfl rfl (by decide +kernel) ⟨Nat.le_of_ble_eq_true rfl, Nat.le_of_ble_eq_true rfl⟩) (va_recv hK hP (ci := 4) (q0 := 0) rfl rfl) rfl hl.1 rfl (lv_room (Nat.le_of_ble_eq_true rfl)) dX4_stop_31 ⟨Nat.le_of_ble_eq_true rfl, Nat.le_of_ble_eq_true rfl⟩ hP hK hD hS hA hZ (fun H locs hP hD hS => ?_)
        generalize eu_10 : (p_m_append u 0 8 x1 0).2 = u_10 at hP hD ⊢
        try rw [eu_10] at hok
        have e9 : p_m_stop u x1 = ((p_m_append u 0 8 x1 0).1, u_10) := by
          subst eu_10
          rw [p_m_stop, if_neg c_1, if_pos c_7, if_pos c_8]
        rw [e9]
        exact W.iret hx hb hr (fun t ht hW => ⟨⟨_, (), rfl, rfl, by rw [ht]; exact hP, va_K.moved hW.alike hK, hD⟩, hS.F ht⟩) hS.2.2 dX4_stop_34
      · have hok := hok.2 c_8
        refine lv_bipush (v := 7) hx hb dX4_stop_22 (by decide) ?_
        refine lv_goto (tgt := 29) hx hb dX4_stop_24 (by decide) ?_
        refine lv_iload_n hx hb dX4_stop_29 rfl (lv_at hl 1 rfl) ?_
        refine lv_iconst (v := 0) hx hb dX4_stop_30 (by decide) ?_
        obtain ⟨h_11, hok⟩ := hok
        refine k_callVi (As := [.int 0, .int 7, .int x1, .int 0]) (rest := []) hzz ⟨hx, hb, hml, hown, hts⟩ (c_m_append l D am cI cZ zz hzz u 0 7 x1 0 h_11) (cwV 4 hts (tb_V tw_3_179 tw_3_181 slX4_append tw_1_5 tw_3_182) rfl rfl rfl (by decide +kernel) ⟨Nat.le_of_ble_eq_true rfl, Nat.le_of_ble_eq_true rfl⟩) (va_recv hK hP (ci := 4) (q0 := 0) rfl rfl) rfl hl.1 rfl (lv_room (Nat.le_of_ble_eq_true rfl)) dX4_stop_31 ⟨Nat.le_of_ble_eq_true rfl, Nat.le_of_ble_eq_true rfl⟩ hP hK hD hS hA hZ (fun H locs hP hD hS => ?_)
        generalize eu_12 : (p_m_append u 0 7 x1 0).2 = u_12 at hP hD ⊢
        try rw [eu_12] at hok
        have e9 : p_m_stop u x1 = ((p_m_append u 0 7 x1 0).1, u_12) := by
          subst eu_12
          rw [p_m_stop, if_neg c_1, if_pos c_7, if_neg c_8]
        rw [e9]
        exact W.iret hx hb hr (fun t ht hW => ⟨⟨_, (), rfl, rfl, by rw [ht]; exact hP, va_K.moved hW.alike hK, hD⟩, hS.F ht⟩) hS.2.2 dX4_stop_34
    · have hok := hok.2 c_7
      refine lv_iconst (v := 1) hx hb dX4_stop_13 (by decide) ?_
      refine lv_goto (tgt := 18) hx hb dX4_stop_14 (by decide) ?_
      refine lv_iload_n hx hb dX4_stop_18 rfl (lv_at hl 1 rfl) ?_
      refine lv_if_ge (tgt := 27) hx hb dX4_stop_19 (by decide) (fun c_13 => ?_) (fun c_13 => ?_)
      · have hok := hok.1 c_13
        refine lv_bipush (v := 8) hx hb dX4_stop_27 (by decide) ?_
        refine lv_iload_n hx hb dX4_stop_29 rfl (lv_at hl 1 rfl) ?_
        refine lv_iconst (v := 0) hx hb dX4_stop_30 (by decide) ?_
        obtain ⟨h_14, hok⟩ := hok
        refine k_callVi (As := [.int 1, .int 8, .int x1, .int 0]) (rest := []) hzz ⟨hx, hb, hml, hown, hts⟩ (c_m_append l D am cI cZ zz hzz u 1 8 x1 0 h_14) (cwV 4 hts (tb_V tw_3_179 tw_3_181 slX4_append tw_1_5 tw_3_182) rfl rfl rfl (by decide +kernel) ⟨Nat.le_of_ble_eq_true rfl, Nat.le_of_ble_eq_true rfl⟩) (va_recv hK hP (ci := 4) (q0 := 0) rfl rfl) rfl hl.1 rfl (lv_room (Nat.le_of_ble_eq_true rfl)) dX4_stop_31 ⟨Nat.le_of_ble_eq_true rfl, Nat.le_of_ble_eq_true rfl⟩ hP hK hD hS hA hZ (fun H locs hP hD hS => ?_)
        generalize eu_15 : (p_m_append u 1 8 x1 0).2 = u_15 at hP hD ⊢
        try rw [eu_15] at hok
        have e9 : p_m_stop u x1 = ((p_m_append u 1 8 x1 0).1, u_15) := by
          subst eu_15
          rw [p_m_stop, if_neg c_1, if_neg c_7, if_pos c_13]
        rw [e9]
        exact W.iret hx hb hr (fun t ht hW => ⟨⟨_, (), rfl, rfl, by rw [ht]; exact hP, va_K.moved hW.alike hK, hD⟩, hS.F ht⟩) hS.2.2 dX4_stop_34
      · have hok := hok.2 c_13
        refine lv_bipush (v := 7) hx hb dX4_stop_22 (by decide) ?_
        refine lv_goto (tgt := 29) hx hb dX4_stop_24 (by decide) ?_
        refine lv_iload_n hx hb dX4_stop_29 rfl (lv_at hl 1 rfl) ?_
        refine lv_iconst (v := 0) hx hb dX4_stop_30 (by decide) ?_
        obtain ⟨h_16, hok⟩ := hok
        refine k_callVi (As := [.int 1, .int 7, .int x1, .int 0]) (rest := []) hzz ⟨hx, hb, hml, hown, hts⟩ (c_m_append l D am cI cZ zz hzz u 1 7 x1 0 h_16) (cwV 4 hts (tb_V tw_3_179 tw_3_181 slX4_append tw_1_5 tw_3_182) rfl rfl rfl (by decide +kernel) ⟨Nat.le_of_ble_eq_true rfl, Nat.le_of_ble_eq_true rfl⟩) (va_recv hK hP (ci := 4) (q0 := 0) rfl rfl) rfl hl.1 rfl (lv_room (Nat.le_of_ble_eq_true rfl)) dX4_stop_31 ⟨Nat.le_of_ble_eq_true rfl, Nat.le_of_ble_eq_true rfl⟩ hP hK hD hS hA hZ (fun H locs hP hD hS => ?_)
        generalize eu_17 : (p_m_append u 1 7 x1 0).2 = u_17 at hP hD ⊢
        try rw [eu_17] at hok
        have e9 : p_m_stop u x1 = ((p_m_append u 1 7 x1 0).1, u_17) := by
          subst eu_17
          rw [p_m_stop, if_neg c_1, if_neg c_7, if_neg c_13]
        rw [e9]
        exact W.iret hx hb hr (fun t ht hW => ⟨⟨_, (), rfl, rfl, by rw [ht]; exact hP, va_K.moved hW.alike hK, hD⟩, hS.F ht⟩) hS.2.2 dX4_stop_34

def p_m_clear (u : St) : St := sS (sS (sS (sS u 0 0) 1 0) 2 0) 6 0
set_option maxHeartbeats 4000000 in
set_option maxRecDepth 100000 in
theorem c_m_clear (l : Launch) (D : va_G) (am : Nat → Nat) (cI cZ : ClassId) (zz : (Nat → Prop) → State → Heap → Prop) (hzz : Zok zz) (u : St) : tfV l D vwCl (tyT cI cZ) zz yX4_clear wsX4_clear ({ frames := 0, cells := 0, slots := 0, locals := 0 } : Room) [.ref (am 0)] (wM am cI cZ u) (wM am cI cZ (p_m_clear u)) := by
  intro sz
  refine Met.ofW (cc := cX4_clear) (maxL := 1) (ret := none) (by decide) rfl ?_
  intro p e s m args below meth c s₁ B hml hv
  obtain ⟨rfl, hsz, hP, hK, hD0, hZ⟩ := hv
  have hx := B.exec
  have hb := B.bytes
  have hr := B.returns
  have hts := atoms_spec (ws := wsX4_clear) B.pre
  have hown : s.vm.findClass RX4 = some m.cls := findClass_of_methodNamed B.named
  have hlocks := B.notSynchronized
  subst hsz
  have hD := hD0.self (sz := s.heap.size)
  generalize hAe : va_A (wM am cI cZ u) s.heap.size = A at hD hZ ⊢
  have hA : ∀ q : Nat, s.heap.size ≤ q → A q := fun q h => by rw [← hAe]; exact Or.inr h
  have hS : va_S A s.heap s.heap [] := va_S.rf
  have Cx : cxt p s m ([.ref (am 0)] : List Value).toArray meth c cX4_clear 1 none wsX4_clear RX4 D vwCl (tyT cI cZ) zz A := ⟨hx, hb, hr, hts, hown, hlocks, hml, hK, hA, hZ⟩
  have hl := lv_entry ([.ref (am 0)]) (n := 1) (Nat.le_of_ble_eq_true rfl)
  rw [lg_entry_eq]
  generalize (lg_sl ([.ref (am 0)]) ++ List.replicate (1 - (lg_sl ([.ref (am 0)])).length) Slot.unset).toArray = ls at hl ⊢
  have hl : lv_has ls 1 [(0, .ref (am 0))] := hl
  refine lv_aload_n hx hb dX4_clear_0 rfl (lv_at hl 0 rfl) ?_
  refine lv_iconst (v := 0) hx hb dX4_clear_1 (by decide) ?_
  refine va_put (ci := 4) (v := .int 0) (ty := .int) (C := RX4) (T := TX4) (N := 22) hx hb hts (ivX4 _) tyX4 tyX4_ok nmX4 hown hK hP hD hS 0 rfl rfl 0 (by decide) (hts _ (tb_c tw_3_101)) (fun _ h9 => h9) rfl (by decide +kernel) rfl rfl (Nat.le_of_ble_eq_true rfl) dX4_clear_2 (fun H locs hP hD hS => ?_)
  have hP : va_P D vwCl (wM am cI cZ (sS u 0 0)) H := hP
  have hD : va_D A (wM am cI cZ (sS u 0 0)) := hD
  refine lv_aload_n hx hb dX4_clear_5 rfl (lv_at hl 0 rfl) ?_
  refine lv_iconst (v := 0) hx hb dX4_clear_6 (by decide) ?_
  refine va_put (ci := 4) (v := .int 0) (ty := .int) (C := RX4) (T := TX4) (N := 22) hx hb hts (ivX4 _) tyX4 tyX4_ok nmX4 hown hK hP hD hS 0 rfl rfl 1 (by decide) (hts _ (tb_c tw_3_102)) (fun _ h9 => h9) rfl (by decide +kernel) rfl rfl (Nat.le_of_ble_eq_true rfl) dX4_clear_7 (fun H locs hP hD hS => ?_)
  have hP : va_P D vwCl (wM am cI cZ (sS (sS u 0 0) 1 0)) H := hP
  have hD : va_D A (wM am cI cZ (sS (sS u 0 0) 1 0)) := hD
  refine lv_aload_n hx hb dX4_clear_10 rfl (lv_at hl 0 rfl) ?_
  refine lv_iconst (v := 0) hx hb dX4_clear_11 (by decide) ?_
  refine va_put (ci := 4) (v := .int 0) (ty := .boolean) (C := RX4) (T := TX4) (N := 22) hx hb hts (ivX4 _) tyX4 tyX4_ok nmX4 hown hK hP hD hS 0 rfl rfl 8 (by decide) (hts _ (tb_c tw_3_109)) (fun _ h9 => h9) rfl (by decide +kernel) rfl rfl (Nat.le_of_ble_eq_true rfl) dX4_clear_12 (fun H locs hP hD hS => ?_)
  have hP : va_P D vwCl (wM am cI cZ (sS (sS (sS u 0 0) 1 0) 2 0)) H := hP
  have hD : va_D A (wM am cI cZ (sS (sS (sS u 0 0) 1 0) 2 0)) := hD
  refine lv_aload_n hx hb dX4_clear_15 rfl (lv_at hl 0 rfl) ?_
  refine lv_iconst (v := 0) hx hb dX4_clear_16 (by decide) ?_
  refine va_put (ci := 4) (v := .int 0) (ty := .int) (C := RX4) (T := TX4) (N := 22) hx hb hts (ivX4 _) tyX4 tyX4_ok nmX4 hown hK hP hD hS 0 rfl rfl 16 (by decide) (hts _ (tb_c tw_3_117)) (fun _ h9 => h9) rfl (by decide +kernel) rfl rfl (Nat.le_of_ble_eq_true rfl) dX4_clear_17 (fun H locs hP hD hS => ?_)
  have hP : va_P D vwCl (wM am cI cZ (sS (sS (sS (sS u 0 0) 1 0) 2 0) 6 0)) H := hP
  have hD : va_D A (wM am cI cZ (sS (sS (sS (sS u 0 0) 1 0) 2 0) 6 0)) := hD
  have e9 : p_m_clear u = sS (sS (sS (sS u 0 0) 1 0) 2 0) 6 0 := by rw [p_m_clear]
  rw [e9]
  exact W.vret hx hb hr (fun t ht hW => ⟨⟨(), rfl, trivial, by rw [ht]; exact hP, va_K.moved hW.alike hK, hD⟩, hS.F ht⟩) hS.2.2 dX4_clear_20
