def p_hasRegister (x0 : Int32) : Int32 := (if 4 ≤ x0 then 0 else 1)
set_option maxHeartbeats 4000000 in
set_option maxRecDepth 100000 in
theorem c_hasRegister (l : Launch) (D : va_G) (ad : Nat → Nat) (cI cZ : ClassId) (zz : (Nat → Prop) → State → Heap → Prop) (hzz : Zok zz) (tS : Nat) (hst : Zst zz tS) (w : va_W) (x0 : Int32) : tfI l D vwCl (tyT cI cZ) zz yX0_hasRegister wsX0_hasRegister ({ frames := 0, cells := 0, slots := 0, locals := 0 } : Room) [.int x0] w (p_hasRegister x0) w := by
  intro sz
  refine Met.ofW (cc := cX0_hasRegister) (maxL := 1) (ret := (some .boolean)) (by decide) rfl ?_
  intro p e s m args below meth c s₁ B hml hv
  obtain ⟨rfl, hsz, hP, hK, hD0, hZ⟩ := hv
  have hx := B.exec
  have hb := B.bytes
  have hr := B.returns
  have hts := atoms_spec (ws := wsX0_hasRegister) B.pre
  have hown : s.vm.findClass RX0 = some m.cls := findClass_of_methodNamed B.named
  have hlocks := B.notSynchronized
  subst hsz
  have hD := hD0.self (sz := s.heap.size)
  generalize hAe : va_A w s.heap.size = A at hD hZ ⊢
  have hA : ∀ q : Nat, s.heap.size ≤ q → A q := fun q h => by rw [← hAe]; exact Or.inr h
  have hS : va_S A s.heap s.heap [] := va_S.rf
  have Cx : cxt p s m ([.int x0] : List Value).toArray meth c cX0_hasRegister 1 (some .boolean) wsX0_hasRegister RX0 D vwCl (tyT cI cZ) zz A := ⟨hx, hb, hr, hts, hown, hlocks, hml, hK, hA, hZ⟩
  have hl := lv_entry ([.int x0]) (n := 1) (Nat.le_of_ble_eq_true rfl)
  rw [lg_entry_eq]
  generalize (lg_sl ([.int x0]) ++ List.replicate (1 - (lg_sl ([.int x0])).length) Slot.unset).toArray = ls at hl ⊢
  have hl : lv_has ls 1 [(0, .int x0)] := hl
  refine lv_iload_n hx hb dX0_hasRegister_0 rfl (lv_at hl 0 rfl) ?_
  refine lv_iconst (v := 4) hx hb dX0_hasRegister_1 (by decide) ?_
  refine lv_icmp_ge (tgt := 9) hx hb dX0_hasRegister_2 (by decide) (fun c_1 => ?_) (fun c_1 => ?_)
  · skip
    refine lv_iconst (v := 0) hx hb dX0_hasRegister_9 (by decide) ?_
    have e9 : p_hasRegister x0 = 0 := by rw [p_hasRegister, if_pos c_1]
    rw [e9]
    exact W.zret hx hb hr rfl (fun t ht hW => ⟨⟨_, (), rfl, rfl, by rw [ht]; exact hP, va_K.moved hW.alike hK, hD⟩, hS.F ht⟩) hS.2.2 dX0_hasRegister_10
  · skip
    refine lv_iconst (v := 1) hx hb dX0_hasRegister_5 (by decide) ?_
    refine lv_goto (tgt := 10) hx hb dX0_hasRegister_6 (by decide) ?_
    have e9 : p_hasRegister x0 = 1 := by rw [p_hasRegister, if_neg c_1]
    rw [e9]
    exact W.zret hx hb hr rfl (fun t ht hW => ⟨⟨_, (), rfl, rfl, by rw [ht]; exact hP, va_K.moved hW.alike hK, hD⟩, hS.F ht⟩) hS.2.2 dX0_hasRegister_10

def p_registerOf (x0 : Int32) : Int32 := 4 + x0
set_option maxHeartbeats 4000000 in
set_option maxRecDepth 100000 in
theorem c_registerOf (l : Launch) (D : va_G) (ad : Nat → Nat) (cI cZ : ClassId) (zz : (Nat → Prop) → State → Heap → Prop) (hzz : Zok zz) (tS : Nat) (hst : Zst zz tS) (w : va_W) (x0 : Int32) : tfI l D vwCl (tyT cI cZ) zz yX0_registerOf wsX0_registerOf ({ frames := 0, cells := 0, slots := 0, locals := 0 } : Room) [.int x0] w (p_registerOf x0) w := by
  intro sz
  refine Met.ofW (cc := cX0_registerOf) (maxL := 1) (ret := (some .int)) (by decide) rfl ?_
  intro p e s m args below meth c s₁ B hml hv
  obtain ⟨rfl, hsz, hP, hK, hD0, hZ⟩ := hv
  have hx := B.exec
  have hb := B.bytes
  have hr := B.returns
  have hts := atoms_spec (ws := wsX0_registerOf) B.pre
  have hown : s.vm.findClass RX0 = some m.cls := findClass_of_methodNamed B.named
  have hlocks := B.notSynchronized
  subst hsz
  have hD := hD0.self (sz := s.heap.size)
  generalize hAe : va_A w s.heap.size = A at hD hZ ⊢
  have hA : ∀ q : Nat, s.heap.size ≤ q → A q := fun q h => by rw [← hAe]; exact Or.inr h
  have hS : va_S A s.heap s.heap [] := va_S.rf
  have Cx : cxt p s m ([.int x0] : List Value).toArray meth c cX0_registerOf 1 (some .int) wsX0_registerOf RX0 D vwCl (tyT cI cZ) zz A := ⟨hx, hb, hr, hts, hown, hlocks, hml, hK, hA, hZ⟩
  have hl := lv_entry ([.int x0]) (n := 1) (Nat.le_of_ble_eq_true rfl)
  rw [lg_entry_eq]
  generalize (lg_sl ([.int x0]) ++ List.replicate (1 - (lg_sl ([.int x0])).length) Slot.unset).toArray = ls at hl ⊢
  have hl : lv_has ls 1 [(0, .int x0)] := hl
  refine lv_iconst (v := 4) hx hb dX0_registerOf_0 (by decide) ?_
  refine lv_iload_n hx hb dX0_registerOf_1 rfl (lv_at hl 0 rfl) ?_
  refine lv_iadd hx hb dX0_registerOf_2 ?_
  have e9 : p_registerOf x0 = 4 + x0 := by rw [p_registerOf]
  rw [e9]
  exact W.iret hx hb hr (fun t ht hW => ⟨⟨_, (), rfl, rfl, by rw [ht]; exact hP, va_K.moved hW.alike hK, hD⟩, hS.F ht⟩) hS.2.2 dX0_registerOf_3

def p_targetOf (x0 : Int32) : Int32 := (if (p_hasRegister x0) = 0 then 0 else p_registerOf x0)
set_option maxHeartbeats 4000000 in
set_option maxRecDepth 100000 in
theorem c_targetOf (l : Launch) (D : va_G) (ad : Nat → Nat) (cI cZ : ClassId) (zz : (Nat → Prop) → State → Heap → Prop) (hzz : Zok zz) (tS : Nat) (hst : Zst zz tS) (w : va_W) (x0 : Int32) : tfI l D vwCl (tyT cI cZ) zz yX0_targetOf wsX0_targetOf ({ frames := 1, cells := 0, slots := 0, locals := 20 } : Room) [.int x0] w (p_targetOf x0) w := by
  intro sz
  refine Met.ofW (cc := cX0_targetOf) (maxL := 1) (ret := (some .int)) (by decide) rfl ?_
  intro p e s m args below meth c s₁ B hml hv
  obtain ⟨rfl, hsz, hP, hK, hD0, hZ⟩ := hv
  have hx := B.exec
  have hb := B.bytes
  have hr := B.returns
  have hts := atoms_spec (ws := wsX0_targetOf) B.pre
  have hown : s.vm.findClass RX0 = some m.cls := findClass_of_methodNamed B.named
  have hlocks := B.notSynchronized
  subst hsz
  have hD := hD0.self (sz := s.heap.size)
  generalize hAe : va_A w s.heap.size = A at hD hZ ⊢
  have hA : ∀ q : Nat, s.heap.size ≤ q → A q := fun q h => by rw [← hAe]; exact Or.inr h
  have hS : va_S A s.heap s.heap [] := va_S.rf
  have Cx : cxt p s m ([.int x0] : List Value).toArray meth c cX0_targetOf 1 (some .int) wsX0_targetOf RX0 D vwCl (tyT cI cZ) zz A := ⟨hx, hb, hr, hts, hown, hlocks, hml, hK, hA, hZ⟩
  have hl := lv_entry ([.int x0]) (n := 1) (Nat.le_of_ble_eq_true rfl)
  rw [lg_entry_eq]
  generalize (lg_sl ([.int x0]) ++ List.replicate (1 - (lg_sl ([.int x0])).length) Slot.unset).toArray = ls at hl ⊢
  have hl : lv_has ls 1 [(0, .int x0)] := hl
  refine lv_iload_n hx hb dX0_targetOf_0 rfl (lv_at hl 0 rfl) ?_
  refine k_callSi (As := [.int x0]) (rest := []) hzz ⟨hx, hb, hml, hown, hts⟩ (c_hasRegister l D ad cI cZ zz hzz tS hst w x0) (cwS 1 hts (tb_S tw_2_147 tw_2_148 tw_1_3 tw_2_149) rfl rfl rfl (by decide +kernel) ⟨Nat.le_of_ble_eq_true rfl, Nat.le_of_ble_eq_true rfl⟩) rfl hl.1 rfl (lv_room (Nat.le_of_ble_eq_true rfl)) dX0_targetOf_1 ⟨Nat.le_of_ble_eq_true rfl, Nat.le_of_ble_eq_true rfl⟩ hP hK hD hS hA hZ (fun H locs hP hD hS => ?_)
  refine lv_if_eq (tgt := 14) hx hb dX0_targetOf_4 (by decide) (fun c_2 => ?_) (fun c_2 => ?_)
  · skip
    refine lv_iconst (v := 0) hx hb dX0_targetOf_14 (by decide) ?_
    have e9 : p_targetOf x0 = 0 := by rw [p_targetOf, if_pos c_2]
    rw [e9]
    exact W.iret hx hb hr (fun t ht hW => ⟨⟨_, (), rfl, rfl, by rw [ht]; exact hP, va_K.moved hW.alike hK, hD⟩, hS.F ht⟩) hS.2.2 dX0_targetOf_15
  · skip
    refine lv_iload_n hx hb dX0_targetOf_7 rfl (lv_at hl 0 rfl) ?_
    refine k_callSi (As := [.int x0]) (rest := []) hzz ⟨hx, hb, hml, hown, hts⟩ (c_registerOf l D ad cI cZ zz hzz tS hst w x0) (cwS 1 hts (tb_S tw_2_150 tw_2_151 tw_1_3 tw_2_152) rfl rfl rfl (by decide +kernel) ⟨Nat.le_of_ble_eq_true rfl, Nat.le_of_ble_eq_true rfl⟩) rfl hl.1 rfl (lv_room (Nat.le_of_ble_eq_true rfl)) dX0_targetOf_8 ⟨Nat.le_of_ble_eq_true rfl, Nat.le_of_ble_eq_true rfl⟩ hP hK hD hS hA hZ (fun H locs hP hD hS => ?_)
    refine lv_goto (tgt := 15) hx hb dX0_targetOf_11 (by decide) ?_
    have e9 : p_targetOf x0 = p_registerOf x0 := by rw [p_targetOf, if_neg c_2]
    rw [e9]
    exact W.iret hx hb hr (fun t ht hW => ⟨⟨_, (), rfl, rfl, by rw [ht]; exact hP, va_K.moved hW.alike hK, hD⟩, hS.F ht⟩) hS.2.2 dX0_targetOf_15

def p_slotOf (x0 : Int32) : Int32 := x0 - 4
set_option maxHeartbeats 4000000 in
set_option maxRecDepth 100000 in
theorem c_slotOf (l : Launch) (D : va_G) (ad : Nat → Nat) (cI cZ : ClassId) (zz : (Nat → Prop) → State → Heap → Prop) (hzz : Zok zz) (tS : Nat) (hst : Zst zz tS) (w : va_W) (x0 : Int32) : tfI l D vwCl (tyT cI cZ) zz yX0_slotOf wsX0_slotOf ({ frames := 0, cells := 0, slots := 0, locals := 0 } : Room) [.int x0] w (p_slotOf x0) w := by
  intro sz
  refine Met.ofW (cc := cX0_slotOf) (maxL := 1) (ret := (some .int)) (by decide) rfl ?_
  intro p e s m args below meth c s₁ B hml hv
  obtain ⟨rfl, hsz, hP, hK, hD0, hZ⟩ := hv
  have hx := B.exec
  have hb := B.bytes
  have hr := B.returns
  have hts := atoms_spec (ws := wsX0_slotOf) B.pre
  have hown : s.vm.findClass RX0 = some m.cls := findClass_of_methodNamed B.named
  have hlocks := B.notSynchronized
  subst hsz
  have hD := hD0.self (sz := s.heap.size)
  generalize hAe : va_A w s.heap.size = A at hD hZ ⊢
  have hA : ∀ q : Nat, s.heap.size ≤ q → A q := fun q h => by rw [← hAe]; exact Or.inr h
  have hS : va_S A s.heap s.heap [] := va_S.rf
  have Cx : cxt p s m ([.int x0] : List Value).toArray meth c cX0_slotOf 1 (some .int) wsX0_slotOf RX0 D vwCl (tyT cI cZ) zz A := ⟨hx, hb, hr, hts, hown, hlocks, hml, hK, hA, hZ⟩
  have hl := lv_entry ([.int x0]) (n := 1) (Nat.le_of_ble_eq_true rfl)
  rw [lg_entry_eq]
  generalize (lg_sl ([.int x0]) ++ List.replicate (1 - (lg_sl ([.int x0])).length) Slot.unset).toArray = ls at hl ⊢
  have hl : lv_has ls 1 [(0, .int x0)] := hl
  refine lv_iload_n hx hb dX0_slotOf_0 rfl (lv_at hl 0 rfl) ?_
  refine lv_iconst (v := 4) hx hb dX0_slotOf_1 (by decide) ?_
  refine lv_isub hx hb dX0_slotOf_2 ?_
  have e9 : p_slotOf x0 = x0 - 4 := by rw [p_slotOf]
  rw [e9]
  exact W.iret hx hb hr (fun t ht hW => ⟨⟨_, (), rfl, rfl, by rw [ht]; exact hP, va_K.moved hW.alike hK, hD⟩, hS.F ht⟩) hS.2.2 dX0_slotOf_3

def p_leastShift_2 : Nat → Int32 → Int32 → Int32
  | 0, _, _ => 0
  | n + 1, x0, x1 => (if 24 < x1 then 0 else (if (ush x0 x1) < 1 then p_leastShift_2 n x0 (x1 + 1) else (if 255 < (ush x0 x1) then p_leastShift_2 n x0 (x1 + 1) else (if ((ush x0 x1) <<< (x1 &&& 31)) = x0 then x1 else p_leastShift_2 n x0 (x1 + 1)))))
def ok_leastShift_2 : Nat → Int32 → Int32 → Prop
  | 0, _, _ => False
  | n + 1, x0, x1 => ((24 < x1 → True) ∧ (¬ 24 < x1 → (((ush x0 x1) < 1 → ok_leastShift_2 n x0 (x1 + 1)) ∧ (¬ (ush x0 x1) < 1 → ((255 < (ush x0 x1) → ok_leastShift_2 n x0 (x1 + 1)) ∧ (¬ 255 < (ush x0 x1) → ((((ush x0 x1) <<< (x1 &&& 31)) = x0 → True) ∧ (¬ ((ush x0 x1) <<< (x1 &&& 31)) = x0 → ok_leastShift_2 n x0 (x1 + 1)))))))))
set_option maxHeartbeats 4000000 in
set_option maxRecDepth 100000 in
theorem w_leastShift_2 {p : Program} {l : Launch} {e : Env} {s : State} {m : MethodId} {args : Array Value} {below : List Frame} {meth : Method} {c : Code} {D : va_G} {A : Nat → Prop} (ad : Nat → Nat) (cI cZ : ClassId) (zz : (Nat → Prop) → State → Heap → Prop) (hzz : Zok zz) (tS : Nat) (hst : Zst zz tS) (w : va_W) (Cx : cxt p s m args meth c cX0_leastShift 3 (some .int) wsX0_leastShift RX0 D vwCl (tyT cI cZ) zz A) : ∀ (n : Nat) (x0 x1 : Int32) (H : Heap) (locs : List Loc) (ls : Array Slot), ok_leastShift_2 n x0 x1 → va_P D vwCl w H → va_D A w → va_S A s.heap H locs → lv_has ls 3 [(0, .int x0), (1, .int x1)] → W p l e ({ frames := 0, cells := 0, slots := 0, locals := 0 } : Room) s m args below meth c H locs 0 0 (MQ below (qqI D vwCl (tyT cI cZ) w (p_leastShift_2 n x0 x1) A) args s 0 0 A) (F0 m 2 ls []) := by
  obtain ⟨hx, hb, hr, hts, hown, hlocks, hml, hK, hA, hZ⟩ := id Cx
  intro n
  induction n with
  | zero =>
    intro x0 x1 H locs ls hok
    exact False.elim hok
  | succ n ih =>
    intro x0 x1 H locs ls hok hP hD hS hl
    unfold ok_leastShift_2 at hok
    refine lv_iload_n hx hb dX0_leastShift_2 rfl (lv_at hl 1 rfl) ?_
    refine lv_bipush (v := 24) hx hb dX0_leastShift_3 (by decide) ?_
    refine lv_icmp_gt (tgt := 39) hx hb dX0_leastShift_5 (by decide) (fun c_1 => ?_) (fun c_1 => ?_)
    · have hok := hok.1 c_1
      refine lv_iconst (v := 0) hx hb dX0_leastShift_39 (by decide) ?_
      have e9 : p_leastShift_2 (n + 1) x0 x1 = 0 := by rw [p_leastShift_2, if_pos c_1]
      rw [e9]
      exact W.iret hx hb hr (fun t ht hW => ⟨⟨_, (), rfl, rfl, by rw [ht]; exact hP, va_K.moved hW.alike hK, hD⟩, hS.F ht⟩) hS.2.2 dX0_leastShift_40
    · have hok := hok.2 c_1
      refine lv_iload_n hx hb dX0_leastShift_8 rfl (lv_at hl 0 rfl) ?_
      refine lv_iload_n hx hb dX0_leastShift_9 rfl (lv_at hl 1 rfl) ?_
      refine lv_iushr (v := ush x0 x1) hx hb dX0_leastShift_10 rfl ?_
      refine lv_istore_n (lv' := [(2, .int (ush x0 x1)), (0, .int x0), (1, .int x1)]) hx hb dX0_leastShift_11 rfl hl (by decide) rfl (fun ls hl => ?_)
      refine lv_iload_n hx hb dX0_leastShift_12 rfl (lv_at hl 0 rfl) ?_
      refine lv_iconst (v := 1) hx hb dX0_leastShift_13 (by decide) ?_
      refine lv_icmp_lt (tgt := 33) hx hb dX0_leastShift_14 (by decide) (fun c_2 => ?_) (fun c_2 => ?_)
      · have hok := hok.1 c_2
        refine lv_iinc (v := x1 + 1) (lv' := [(1, .int (x1 + 1)), (2, .int (ush x0 x1)), (0, .int x0)]) hx hb dX0_leastShift_33 hl (k := 2) rfl rfl (by decide) rfl (fun ls hl => ?_)
        refine lv_goto (tgt := 2) hx hb dX0_leastShift_36 (by decide) ?_
        have e9 : p_leastShift_2 (n + 1) x0 x1 = p_leastShift_2 n x0 (x1 + 1) := by rw [p_leastShift_2, if_neg c_1, if_pos c_2]
        rw [e9]
        exact ih x0 (x1 + 1) _ _ _ hok hP hD hS (lv_sub hl [2, 0] rfl)
      · have hok := hok.2 c_2
        refine lv_iload_n hx hb dX0_leastShift_17 rfl (lv_at hl 0 rfl) ?_
        refine lv_sipush (v := 255) hx hb dX0_leastShift_18 (by decide) ?_
        refine lv_icmp_gt (tgt := 33) hx hb dX0_leastShift_21 (by decide) (fun c_3 => ?_) (fun c_3 => ?_)
        · have hok := hok.1 c_3
          refine lv_iinc (v := x1 + 1) (lv' := [(1, .int (x1 + 1)), (2, .int (ush x0 x1)), (0, .int x0)]) hx hb dX0_leastShift_33 hl (k := 2) rfl rfl (by decide) rfl (fun ls hl => ?_)
          refine lv_goto (tgt := 2) hx hb dX0_leastShift_36 (by decide) ?_
          have e9 : p_leastShift_2 (n + 1) x0 x1 = p_leastShift_2 n x0 (x1 + 1) := by rw [p_leastShift_2, if_neg c_1, if_neg c_2, if_pos c_3]
          rw [e9]
          exact ih x0 (x1 + 1) _ _ _ hok hP hD hS (lv_sub hl [2, 0] rfl)
        · have hok := hok.2 c_3
          refine lv_iload_n hx hb dX0_leastShift_24 rfl (lv_at hl 0 rfl) ?_
          refine lv_iload_n hx hb dX0_leastShift_25 rfl (lv_at hl 2 rfl) ?_
          refine lv_ishl hx hb dX0_leastShift_26 ?_
          refine lv_iload_n hx hb dX0_leastShift_27 rfl (lv_at hl 1 rfl) ?_
          refine lv_icmp_ne (tgt := 33) hx hb dX0_leastShift_28 (by decide) (fun c_4 => ?_) (fun c_4 => ?_)
          · have hok := hok.2 c_4
            refine lv_iinc (v := x1 + 1) (lv' := [(1, .int (x1 + 1)), (2, .int (ush x0 x1)), (0, .int x0)]) hx hb dX0_leastShift_33 hl (k := 2) rfl rfl (by decide) rfl (fun ls hl => ?_)
            refine lv_goto (tgt := 2) hx hb dX0_leastShift_36 (by decide) ?_
            have e9 : p_leastShift_2 (n + 1) x0 x1 = p_leastShift_2 n x0 (x1 + 1) := by rw [p_leastShift_2, if_neg c_1, if_neg c_2, if_neg c_3, if_neg c_4]
            rw [e9]
            exact ih x0 (x1 + 1) _ _ _ hok hP hD hS (lv_sub hl [2, 0] rfl)
          · have hok := hok.1 c_4
            refine lv_iload_n hx hb dX0_leastShift_31 rfl (lv_at hl 2 rfl) ?_
            have e9 : p_leastShift_2 (n + 1) x0 x1 = x1 := by rw [p_leastShift_2, if_neg c_1, if_neg c_2, if_neg c_3, if_pos c_4]
            rw [e9]
            exact W.iret hx hb hr (fun t ht hW => ⟨⟨_, (), rfl, rfl, by rw [ht]; exact hP, va_K.moved hW.alike hK, hD⟩, hS.F ht⟩) hS.2.2 dX0_leastShift_32
def p_leastShift (x0 : Int32) : Int32 := p_leastShift_2 64 x0 1
def ok_leastShift (x0 : Int32) : Prop := ok_leastShift_2 64 x0 1
set_option maxHeartbeats 4000000 in
set_option maxRecDepth 100000 in
theorem c_leastShift (l : Launch) (D : va_G) (ad : Nat → Nat) (cI cZ : ClassId) (zz : (Nat → Prop) → State → Heap → Prop) (hzz : Zok zz) (tS : Nat) (hst : Zst zz tS) (w : va_W) (x0 : Int32) (hok : ok_leastShift x0) : tfI l D vwCl (tyT cI cZ) zz yX0_leastShift wsX0_leastShift ({ frames := 0, cells := 0, slots := 0, locals := 0 } : Room) [.int x0] w (p_leastShift x0) w := by
  intro sz
  unfold ok_leastShift at hok
  refine Met.ofW (cc := cX0_leastShift) (maxL := 3) (ret := (some .int)) (by decide) rfl ?_
  intro p e s m args below meth c s₁ B hml hv
  obtain ⟨rfl, hsz, hP, hK, hD0, hZ⟩ := hv
  have hx := B.exec
  have hb := B.bytes
  have hr := B.returns
  have hts := atoms_spec (ws := wsX0_leastShift) B.pre
  have hown : s.vm.findClass RX0 = some m.cls := findClass_of_methodNamed B.named
  have hlocks := B.notSynchronized
  subst hsz
  have hD := hD0.self (sz := s.heap.size)
  generalize hAe : va_A w s.heap.size = A at hD hZ ⊢
  have hA : ∀ q : Nat, s.heap.size ≤ q → A q := fun q h => by rw [← hAe]; exact Or.inr h
  have hS : va_S A s.heap s.heap [] := va_S.rf
  have Cx : cxt p s m ([.int x0] : List Value).toArray meth c cX0_leastShift 3 (some .int) wsX0_leastShift RX0 D vwCl (tyT cI cZ) zz A := ⟨hx, hb, hr, hts, hown, hlocks, hml, hK, hA, hZ⟩
  have hl := lv_entry ([.int x0]) (n := 3) (Nat.le_of_ble_eq_true rfl)
  rw [lg_entry_eq]
  generalize (lg_sl ([.int x0]) ++ List.replicate (3 - (lg_sl ([.int x0])).length) Slot.unset).toArray = ls at hl ⊢
  have hl : lv_has ls 3 [(0, .int x0)] := hl
  refine lv_iconst (v := 1) hx hb dX0_leastShift_0 (by decide) ?_
  refine lv_istore_n (lv' := [(1, .int 1), (0, .int x0)]) hx hb dX0_leastShift_1 rfl hl (by decide) rfl (fun ls hl => ?_)
  have e9 : p_leastShift x0 = p_leastShift_2 64 x0 1 := by rw [p_leastShift]
  rw [e9]
  exact w_leastShift_2 ad cI cZ zz hzz tS hst w Cx 64 x0 1 _ _ _ hok hP hD hS (lv_sub hl [1, 0] rfl)

def p_put (u : St) (x1 : Int32) : St := (if 388 ≤ (u.1 3) then u else sS (sA u 6 (u.1 3) x1) 3 ((u.1 3) + 1))
def ok_put (u : St) (x1 : Int32) : Prop := ((388 ≤ (u.1 3) → True) ∧ (¬ 388 ≤ (u.1 3) → (vp_in (u.1 3) 388 ∧ True)))
set_option maxHeartbeats 4000000 in
set_option maxRecDepth 100000 in
theorem c_put (l : Launch) (D : va_G) (ad : Nat → Nat) (cI cZ : ClassId) (zz : (Nat → Prop) → State → Heap → Prop) (hzz : Zok zz) (tS : Nat) (hst : Zst zz tS) (u : St) (x1 : Int32) (hok : ok_put u x1) : tfV l D vwCl (tyT cI cZ) zz yX0_put wsX0_put ({ frames := 0, cells := 0, slots := 0, locals := 0 } : Room) [.ref (ad 2), .int x1] (wT ad cI cZ u) (wT ad cI cZ (p_put u x1)) := by
  intro sz
  unfold ok_put at hok
  refine Met.ofW (cc := cX0_put) (maxL := 2) (ret := none) (by decide) rfl ?_
  intro p e s m args below meth c s₁ B hml hv
  obtain ⟨rfl, hsz, hP, hK, hD0, hZ⟩ := hv
  have hx := B.exec
  have hb := B.bytes
  have hr := B.returns
  have hts := atoms_spec (ws := wsX0_put) B.pre
  have hown : s.vm.findClass RX0 = some m.cls := findClass_of_methodNamed B.named
  have hlocks := B.notSynchronized
  subst hsz
  have hD := hD0.self (sz := s.heap.size)
  generalize hAe : va_A (wT ad cI cZ u) s.heap.size = A at hD hZ ⊢
  have hA : ∀ q : Nat, s.heap.size ≤ q → A q := fun q h => by rw [← hAe]; exact Or.inr h
  have hS : va_S A s.heap s.heap [] := va_S.rf
  have Cx : cxt p s m ([.ref (ad 2), .int x1] : List Value).toArray meth c cX0_put 2 none wsX0_put RX0 D vwCl (tyT cI cZ) zz A := ⟨hx, hb, hr, hts, hown, hlocks, hml, hK, hA, hZ⟩
  have hl := lv_entry ([.ref (ad 2), .int x1]) (n := 2) (Nat.le_of_ble_eq_true rfl)
  rw [lg_entry_eq]
  generalize (lg_sl ([.ref (ad 2), .int x1]) ++ List.replicate (2 - (lg_sl ([.ref (ad 2), .int x1])).length) Slot.unset).toArray = ls at hl ⊢
  have hl : lv_has ls 2 [(0, .ref (ad 2)), (1, .int x1)] := hl
  refine lv_aload_n hx hb dX0_put_0 rfl (lv_at hl 0 rfl) ?_
  refine va_get (ci := 0) (v := .int (u.1 3)) (C := RX0) (T := TX0) (N := 9) hx hb hts (ivX0 _) hown hK hP 2 rfl rfl 7 (by decide) (hts _ (tb_c tw_1_79)) (fun _ h9 => h9) rfl dX0_put_1 ?_
  refine lv_sipush (v := 388) hx hb dX0_put_4 (by decide) ?_
  refine lv_icmp_ge (tgt := 30) hx hb dX0_put_7 (by decide) (fun c_1 => ?_) (fun c_1 => ?_)
  · have hok := hok.1 c_1
    have e9 : p_put u x1 = u := by rw [p_put, if_pos c_1]
    rw [e9]
    exact W.vret hx hb hr (fun t ht hW => ⟨⟨(), rfl, trivial, by rw [ht]; exact hP, va_K.moved hW.alike hK, hD⟩, hS.F ht⟩) hS.2.2 dX0_put_30
  · have hok := hok.2 c_1
    refine lv_aload_n hx hb dX0_put_10 rfl (lv_at hl 0 rfl) ?_
    refine va_get (ci := 0) (v := .ref (ad 10)) (C := RX0) (T := TX0) (N := 9) hx hb hts (ivX0 _) hown hK hP 2 rfl rfl 1 (by decide) (hts _ (tb_c tw_1_70)) (fun _ h9 => h9) rfl dX0_put_11 ?_
    refine lv_aload_n hx hb dX0_put_14 rfl (lv_at hl 0 rfl) ?_
    refine va_get (ci := 0) (v := .int (u.1 3)) (C := RX0) (T := TX0) (N := 9) hx hb hts (ivX0 _) hown hK hP 2 rfl rfl 7 (by decide) (hts _ (tb_c tw_1_79)) (fun _ h9 => h9) rfl dX0_put_15 ?_
    refine lv_iload_n hx hb dX0_put_18 rfl (lv_at hl 1 rfl) ?_
    obtain ⟨h_2, hok⟩ := hok
    refine va_iast hx hb hK hP hD hS 10 0 rfl rfl h_2 dX0_put_19 (fun H locs hP hD hS => ?_)
    have hP : va_P D vwCl (wT ad cI cZ (sA u 6 (u.1 3) x1)) H := hP
    have hD : va_D A (wT ad cI cZ (sA u 6 (u.1 3) x1)) := hD
    refine lv_aload_n hx hb dX0_put_20 rfl (lv_at hl 0 rfl) ?_
    refine lv_dup hx hb dX0_put_21 rfl ?_
    refine va_get (ci := 0) (v := .int (u.1 3)) (C := RX0) (T := TX0) (N := 9) hx hb hts (ivX0 _) hown hK hP 2 rfl rfl 7 (by decide) (hts _ (tb_c tw_1_79)) (fun _ h9 => h9) rfl dX0_put_22 ?_
    refine lv_iconst (v := 1) hx hb dX0_put_25 (by decide) ?_
    refine lv_iadd hx hb dX0_put_26 ?_
    refine va_put (ci := 0) (v := .int ((u.1 3) + 1)) (ty := .int) (C := RX0) (T := TX0) (N := 9) hx hb hts (ivX0 _) tyX0 tyX0_ok nmX0 hown hK hP hD hS 2 rfl rfl 7 (by decide) (hts _ (tb_c tw_1_79)) (fun _ h9 => h9) rfl (by decide +kernel) rfl rfl (Nat.le_of_ble_eq_true rfl) dX0_put_27 (fun H locs hP hD hS => ?_)
    have hP : va_P D vwCl (wT ad cI cZ (sS (sA u 6 (u.1 3) x1) 3 ((u.1 3) + 1))) H := hP
    have hD : va_D A (wT ad cI cZ (sS (sA u 6 (u.1 3) x1) 3 ((u.1 3) + 1))) := hD
    have e9 : p_put u x1 = sS (sA u 6 (u.1 3) x1) 3 ((u.1 3) + 1) := by rw [p_put, if_neg c_1]
    rw [e9]
    exact W.vret hx hb hr (fun t ht hW => ⟨⟨(), rfl, trivial, by rw [ht]; exact hP, va_K.moved hW.alike hK, hD⟩, hS.F ht⟩) hS.2.2 dX0_put_30

def p_fetch (u : St) (x1 x2 : Int32) : Int32 × St := (if (p_hasRegister x1) = 0 then (x2, (p_put u ((38912 + (256 * x2)) + (p_slotOf x1)))) else (p_registerOf x1, u))
def ok_fetch (u : St) (x1 x2 : Int32) : Prop := (((p_hasRegister x1) = 0 → (ok_put u ((38912 + (256 * x2)) + (p_slotOf x1)) ∧ True)) ∧ (¬ (p_hasRegister x1) = 0 → True))
set_option maxHeartbeats 4000000 in
set_option maxRecDepth 100000 in
theorem c_fetch (l : Launch) (D : va_G) (ad : Nat → Nat) (cI cZ : ClassId) (zz : (Nat → Prop) → State → Heap → Prop) (hzz : Zok zz) (tS : Nat) (hst : Zst zz tS) (u : St) (x1 x2 : Int32) (hok : ok_fetch u x1 x2) : tfI l D vwCl (tyT cI cZ) zz yX0_fetch wsX0_fetch ({ frames := 1, cells := 0, slots := 0, locals := 21 } : Room) [.ref (ad 2), .int x1, .int x2] (wT ad cI cZ u) (p_fetch u x1 x2).1 (wT ad cI cZ ((p_fetch u x1 x2).2)) := by
  intro sz
  unfold ok_fetch at hok
  refine Met.ofW (cc := cX0_fetch) (maxL := 3) (ret := (some .int)) (by decide) rfl ?_
  intro p e s m args below meth c s₁ B hml hv
  obtain ⟨rfl, hsz, hP, hK, hD0, hZ⟩ := hv
  have hx := B.exec
  have hb := B.bytes
  have hr := B.returns
  have hts := atoms_spec (ws := wsX0_fetch) B.pre
  have hown : s.vm.findClass RX0 = some m.cls := findClass_of_methodNamed B.named
  have hlocks := B.notSynchronized
  subst hsz
  have hD := hD0.self (sz := s.heap.size)
  generalize hAe : va_A (wT ad cI cZ u) s.heap.size = A at hD hZ ⊢
  have hA : ∀ q : Nat, s.heap.size ≤ q → A q := fun q h => by rw [← hAe]; exact Or.inr h
  have hS : va_S A s.heap s.heap [] := va_S.rf
  have Cx : cxt p s m ([.ref (ad 2), .int x1, .int x2] : List Value).toArray meth c cX0_fetch 3 (some .int) wsX0_fetch RX0 D vwCl (tyT cI cZ) zz A := ⟨hx, hb, hr, hts, hown, hlocks, hml, hK, hA, hZ⟩
  have hl := lv_entry ([.ref (ad 2), .int x1, .int x2]) (n := 3) (Nat.le_of_ble_eq_true rfl)
  rw [lg_entry_eq]
  generalize (lg_sl ([.ref (ad 2), .int x1, .int x2]) ++ List.replicate (3 - (lg_sl ([.ref (ad 2), .int x1, .int x2])).length) Slot.unset).toArray = ls at hl ⊢
  have hl : lv_has ls 3 [(0, .ref (ad 2)), (1, .int x1), (2, .int x2)] := hl
  refine lv_iload_n hx hb dX0_fetch_0 rfl (lv_at hl 1 rfl) ?_
  refine k_callSi (As := [.int x1]) (rest := []) hzz ⟨hx, hb, hml, hown, hts⟩ (c_hasRegister l D ad cI cZ zz hzz tS hst (wT ad cI cZ u) x1) (cwS 1 hts (tb_S tw_2_147 tw_2_148 tw_1_3 tw_2_149) rfl rfl rfl (by decide +kernel) ⟨Nat.le_of_ble_eq_true rfl, Nat.le_of_ble_eq_true rfl⟩) rfl hl.1 rfl (lv_room (Nat.le_of_ble_eq_true rfl)) dX0_fetch_1 ⟨Nat.le_of_ble_eq_true rfl, Nat.le_of_ble_eq_true rfl⟩ hP hK hD hS hA hZ (fun H locs hP hD hS => ?_)
  refine lv_if_eq (tgt := 12) hx hb dX0_fetch_4 (by decide) (fun c_2 => ?_) (fun c_2 => ?_)
  · have hok := hok.1 c_2
    refine lv_aload_n hx hb dX0_fetch_12 rfl (lv_at hl 0 rfl) ?_
    refine lv_ldc (v := 38912) hx hb hown (hts _ (tb_c tw_2_176)) dX0_fetch_13 ?_
    refine lv_sipush (v := 256) hx hb dX0_fetch_15 (by decide) ?_
    refine lv_iload_n hx hb dX0_fetch_18 rfl (lv_at hl 2 rfl) ?_
    refine lv_imul hx hb dX0_fetch_19 ?_
    refine lv_iadd hx hb dX0_fetch_20 ?_
    refine lv_iload_n hx hb dX0_fetch_21 rfl (lv_at hl 1 rfl) ?_
    refine k_callSi (As := [.int x1]) (rest := [.int (38912 + (256 * x2)), .ref (ad 2)]) hzz ⟨hx, hb, hml, hown, hts⟩ (c_slotOf l D ad cI cZ zz hzz tS hst (wT ad cI cZ u) x1) (cwS 1 hts (tb_S tw_2_165 tw_2_166 tw_1_3 tw_2_167) rfl rfl rfl (by decide +kernel) ⟨Nat.le_of_ble_eq_true rfl, Nat.le_of_ble_eq_true rfl⟩) rfl hl.1 rfl (lv_room (Nat.le_of_ble_eq_true rfl)) dX0_fetch_22 ⟨Nat.le_of_ble_eq_true rfl, Nat.le_of_ble_eq_true rfl⟩ hP hK hD hS hA hZ (fun H locs hP hD hS => ?_)
    refine lv_iadd hx hb dX0_fetch_25 ?_
    obtain ⟨h_4, hok⟩ := hok
    refine k_callVv (As := [.int ((38912 + (256 * x2)) + (p_slotOf x1))]) (rest := []) hzz ⟨hx, hb, hml, hown, hts⟩ (c_put l D ad cI cZ zz hzz tS hst u ((38912 + (256 * x2)) + (p_slotOf x1)) h_4) (cwV 1 hts (tb_V tw_2_136 tw_2_138 slX0_put tw_1_3 tw_2_139) rfl rfl rfl (by decide +kernel) ⟨Nat.le_of_ble_eq_true rfl, Nat.le_of_ble_eq_true rfl⟩) (va_recv hK hP (ci := 0) (q0 := 2) rfl rfl) rfl hl.1 rfl (lv_room (Nat.le_of_ble_eq_true rfl)) dX0_fetch_26 ⟨Nat.le_of_ble_eq_true rfl, Nat.le_of_ble_eq_true rfl⟩ hP hK hD hS hA hZ (fun H locs hP hD hS => ?_)
    generalize eu_5 : p_put u ((38912 + (256 * x2)) + (p_slotOf x1)) = u_5 at hP hD ⊢
    try rw [eu_5] at hok
    refine lv_iload_n hx hb dX0_fetch_29 rfl (lv_at hl 2 rfl) ?_
    have e9 : p_fetch u x1 x2 = (x2, u_5) := by
      subst eu_5
      rw [p_fetch, if_pos c_2]
    rw [e9]
    exact W.iret hx hb hr (fun t ht hW => ⟨⟨_, (), rfl, rfl, by rw [ht]; exact hP, va_K.moved hW.alike hK, hD⟩, hS.F ht⟩) hS.2.2 dX0_fetch_30
  · have hok := hok.2 c_2
    refine lv_iload_n hx hb dX0_fetch_7 rfl (lv_at hl 1 rfl) ?_
    refine k_callSi (As := [.int x1]) (rest := []) hzz ⟨hx, hb, hml, hown, hts⟩ (c_registerOf l D ad cI cZ zz hzz tS hst (wT ad cI cZ u) x1) (cwS 1 hts (tb_S tw_2_150 tw_2_151 tw_1_3 tw_2_152) rfl rfl rfl (by decide +kernel) ⟨Nat.le_of_ble_eq_true rfl, Nat.le_of_ble_eq_true rfl⟩) rfl hl.1 rfl (lv_room (Nat.le_of_ble_eq_true rfl)) dX0_fetch_8 ⟨Nat.le_of_ble_eq_true rfl, Nat.le_of_ble_eq_true rfl⟩ hP hK hD hS hA hZ (fun H locs hP hD hS => ?_)
    have e9 : p_fetch u x1 x2 = (p_registerOf x1, u) := by rw [p_fetch, if_neg c_2]
    rw [e9]
    exact W.iret hx hb hr (fun t ht hW => ⟨⟨_, (), rfl, rfl, by rw [ht]; exact hP, va_K.moved hW.alike hK, hD⟩, hS.F ht⟩) hS.2.2 dX0_fetch_11

def p_copyTo0 (u : St) (x1 : Int32) : St := (if (p_hasRegister x1) = 0 then (p_put u (38912 + (p_slotOf x1))) else (p_put u (8 * (p_registerOf x1))))
def ok_copyTo0 (u : St) (x1 : Int32) : Prop := (((p_hasRegister x1) = 0 → (ok_put u (38912 + (p_slotOf x1)) ∧ True)) ∧ (¬ (p_hasRegister x1) = 0 → (ok_put u (8 * (p_registerOf x1)) ∧ True)))
set_option maxHeartbeats 4000000 in
set_option maxRecDepth 100000 in
theorem c_copyTo0 (l : Launch) (D : va_G) (ad : Nat → Nat) (cI cZ : ClassId) (zz : (Nat → Prop) → State → Heap → Prop) (hzz : Zok zz) (tS : Nat) (hst : Zst zz tS) (u : St) (x1 : Int32) (hok : ok_copyTo0 u x1) : tfV l D vwCl (tyT cI cZ) zz yX0_copyTo0 wsX0_copyTo0 ({ frames := 1, cells := 0, slots := 0, locals := 21 } : Room) [.ref (ad 2), .int x1] (wT ad cI cZ u) (wT ad cI cZ (p_copyTo0 u x1)) := by
  intro sz
  unfold ok_copyTo0 at hok
  refine Met.ofW (cc := cX0_copyTo0) (maxL := 2) (ret := none) (by decide) rfl ?_
  intro p e s m args below meth c s₁ B hml hv
  obtain ⟨rfl, hsz, hP, hK, hD0, hZ⟩ := hv
  have hx := B.exec
  have hb := B.bytes
  have hr := B.returns
  have hts := atoms_spec (ws := wsX0_copyTo0) B.pre
  have hown : s.vm.findClass RX0 = some m.cls := findClass_of_methodNamed B.named
  have hlocks := B.notSynchronized
  subst hsz
  have hD := hD0.self (sz := s.heap.size)
  generalize hAe : va_A (wT ad cI cZ u) s.heap.size = A at hD hZ ⊢
  have hA : ∀ q : Nat, s.heap.size ≤ q → A q := fun q h => by rw [← hAe]; exact Or.inr h
  have hS : va_S A s.heap s.heap [] := va_S.rf
  have Cx : cxt p s m ([.ref (ad 2), .int x1] : List Value).toArray meth c cX0_copyTo0 2 none wsX0_copyTo0 RX0 D vwCl (tyT cI cZ) zz A := ⟨hx, hb, hr, hts, hown, hlocks, hml, hK, hA, hZ⟩
  have hl := lv_entry ([.ref (ad 2), .int x1]) (n := 2) (Nat.le_of_ble_eq_true rfl)
  rw [lg_entry_eq]
  generalize (lg_sl ([.ref (ad 2), .int x1]) ++ List.replicate (2 - (lg_sl ([.ref (ad 2), .int x1])).length) Slot.unset).toArray = ls at hl ⊢
  have hl : lv_has ls 2 [(0, .ref (ad 2)), (1, .int x1)] := hl
  refine lv_aload_n hx hb dX0_copyTo0_0 rfl (lv_at hl 0 rfl) ?_
  refine lv_iload_n hx hb dX0_copyTo0_1 rfl (lv_at hl 1 rfl) ?_
  refine k_callSi (As := [.int x1]) (rest := [.ref (ad 2)]) hzz ⟨hx, hb, hml, hown, hts⟩ (c_hasRegister l D ad cI cZ zz hzz tS hst (wT ad cI cZ u) x1) (cwS 1 hts (tb_S tw_2_147 tw_2_148 tw_1_3 tw_2_149) rfl rfl rfl (by decide +kernel) ⟨Nat.le_of_ble_eq_true rfl, Nat.le_of_ble_eq_true rfl⟩) rfl hl.1 rfl (lv_room (Nat.le_of_ble_eq_true rfl)) dX0_copyTo0_2 ⟨Nat.le_of_ble_eq_true rfl, Nat.le_of_ble_eq_true rfl⟩ hP hK hD hS hA hZ (fun H locs hP hD hS => ?_)
  refine lv_if_eq (tgt := 18) hx hb dX0_copyTo0_5 (by decide) (fun c_2 => ?_) (fun c_2 => ?_)
  · have hok := hok.1 c_2
    refine lv_ldc (v := 38912) hx hb hown (hts _ (tb_c tw_2_176)) dX0_copyTo0_18 ?_
    refine lv_iload_n hx hb dX0_copyTo0_20 rfl (lv_at hl 1 rfl) ?_
    refine k_callSi (As := [.int x1]) (rest := [.int 38912, .ref (ad 2)]) hzz ⟨hx, hb, hml, hown, hts⟩ (c_slotOf l D ad cI cZ zz hzz tS hst (wT ad cI cZ u) x1) (cwS 1 hts (tb_S tw_2_165 tw_2_166 tw_1_3 tw_2_167) rfl rfl rfl (by decide +kernel) ⟨Nat.le_of_ble_eq_true rfl, Nat.le_of_ble_eq_true rfl⟩) rfl hl.1 rfl (lv_room (Nat.le_of_ble_eq_true rfl)) dX0_copyTo0_21 ⟨Nat.le_of_ble_eq_true rfl, Nat.le_of_ble_eq_true rfl⟩ hP hK hD hS hA hZ (fun H locs hP hD hS => ?_)
    refine lv_iadd hx hb dX0_copyTo0_24 ?_
    obtain ⟨h_4, hok⟩ := hok
    refine k_callVv (As := [.int (38912 + (p_slotOf x1))]) (rest := []) hzz ⟨hx, hb, hml, hown, hts⟩ (c_put l D ad cI cZ zz hzz tS hst u (38912 + (p_slotOf x1)) h_4) (cwV 1 hts (tb_V tw_2_136 tw_2_138 slX0_put tw_1_3 tw_2_139) rfl rfl rfl (by decide +kernel) ⟨Nat.le_of_ble_eq_true rfl, Nat.le_of_ble_eq_true rfl⟩) (va_recv hK hP (ci := 0) (q0 := 2) rfl rfl) rfl hl.1 rfl (lv_room (Nat.le_of_ble_eq_true rfl)) dX0_copyTo0_25 ⟨Nat.le_of_ble_eq_true rfl, Nat.le_of_ble_eq_true rfl⟩ hP hK hD hS hA hZ (fun H locs hP hD hS => ?_)
    generalize eu_5 : p_put u (38912 + (p_slotOf x1)) = u_5 at hP hD ⊢
    try rw [eu_5] at hok
    have e9 : p_copyTo0 u x1 = u_5 := by
      subst eu_5
      rw [p_copyTo0, if_pos c_2]
    rw [e9]
    exact W.vret hx hb hr (fun t ht hW => ⟨⟨(), rfl, trivial, by rw [ht]; exact hP, va_K.moved hW.alike hK, hD⟩, hS.F ht⟩) hS.2.2 dX0_copyTo0_28
  · have hok := hok.2 c_2
    refine lv_bipush (v := 8) hx hb dX0_copyTo0_8 (by decide) ?_
    refine lv_iload_n hx hb dX0_copyTo0_10 rfl (lv_at hl 1 rfl) ?_
    refine k_callSi (As := [.int x1]) (rest := [.int 8, .ref (ad 2)]) hzz ⟨hx, hb, hml, hown, hts⟩ (c_registerOf l D ad cI cZ zz hzz tS hst (wT ad cI cZ u) x1) (cwS 1 hts (tb_S tw_2_150 tw_2_151 tw_1_3 tw_2_152) rfl rfl rfl (by decide +kernel) ⟨Nat.le_of_ble_eq_true rfl, Nat.le_of_ble_eq_true rfl⟩) rfl hl.1 rfl (lv_room (Nat.le_of_ble_eq_true rfl)) dX0_copyTo0_11 ⟨Nat.le_of_ble_eq_true rfl, Nat.le_of_ble_eq_true rfl⟩ hP hK hD hS hA hZ (fun H locs hP hD hS => ?_)
    refine lv_imul hx hb dX0_copyTo0_14 ?_
    refine lv_goto (tgt := 25) hx hb dX0_copyTo0_15 (by decide) ?_
    obtain ⟨h_7, hok⟩ := hok
    refine k_callVv (As := [.int (8 * (p_registerOf x1))]) (rest := []) hzz ⟨hx, hb, hml, hown, hts⟩ (c_put l D ad cI cZ zz hzz tS hst u (8 * (p_registerOf x1)) h_7) (cwV 1 hts (tb_V tw_2_136 tw_2_138 slX0_put tw_1_3 tw_2_139) rfl rfl rfl (by decide +kernel) ⟨Nat.le_of_ble_eq_true rfl, Nat.le_of_ble_eq_true rfl⟩) (va_recv hK hP (ci := 0) (q0 := 2) rfl rfl) rfl hl.1 rfl (lv_room (Nat.le_of_ble_eq_true rfl)) dX0_copyTo0_25 ⟨Nat.le_of_ble_eq_true rfl, Nat.le_of_ble_eq_true rfl⟩ hP hK hD hS hA hZ (fun H locs hP hD hS => ?_)
    generalize eu_8 : p_put u (8 * (p_registerOf x1)) = u_8 at hP hD ⊢
    try rw [eu_8] at hok
    have e9 : p_copyTo0 u x1 = u_8 := by
      subst eu_8
      rw [p_copyTo0, if_neg c_2]
    rw [e9]
    exact W.vret hx hb hr (fun t ht hW => ⟨⟨(), rfl, trivial, by rw [ht]; exact hP, va_K.moved hW.alike hK, hD⟩, hS.F ht⟩) hS.2.2 dX0_copyTo0_28

def p_keep (u : St) (x1 : Int32) : St := (if (p_hasRegister x1) = 0 then (p_put u (36864 + (p_slotOf x1))) else u)
def ok_keep (u : St) (x1 : Int32) : Prop := (((p_hasRegister x1) = 0 → (ok_put u (36864 + (p_slotOf x1)) ∧ True)) ∧ (¬ (p_hasRegister x1) = 0 → True))
set_option maxHeartbeats 4000000 in
set_option maxRecDepth 100000 in
theorem c_keep (l : Launch) (D : va_G) (ad : Nat → Nat) (cI cZ : ClassId) (zz : (Nat → Prop) → State → Heap → Prop) (hzz : Zok zz) (tS : Nat) (hst : Zst zz tS) (u : St) (x1 : Int32) (hok : ok_keep u x1) : tfV l D vwCl (tyT cI cZ) zz yX0_keep wsX0_keep ({ frames := 1, cells := 0, slots := 0, locals := 21 } : Room) [.ref (ad 2), .int x1] (wT ad cI cZ u) (wT ad cI cZ (p_keep u x1)) := by
  intro sz
  unfold ok_keep at hok
  refine Met.ofW (cc := cX0_keep) (maxL := 2) (ret := none) (by decide) rfl ?_
  intro p e s m args below meth c s₁ B hml hv
  obtain ⟨rfl, hsz, hP, hK, hD0, hZ⟩ := hv
  have hx := B.exec
  have hb := B.bytes
  have hr := B.returns
  have hts := atoms_spec (ws := wsX0_keep) B.pre
  have hown : s.vm.findClass RX0 = some m.cls := findClass_of_methodNamed B.named
  have hlocks := B.notSynchronized
  subst hsz
  have hD := hD0.self (sz := s.heap.size)
  generalize hAe : va_A (wT ad cI cZ u) s.heap.size = A at hD hZ ⊢
  have hA : ∀ q : Nat, s.heap.size ≤ q → A q := fun q h => by rw [← hAe]; exact Or.inr h
  have hS : va_S A s.heap s.heap [] := va_S.rf
  have Cx : cxt p s m ([.ref (ad 2), .int x1] : List Value).toArray meth c cX0_keep 2 none wsX0_keep RX0 D vwCl (tyT cI cZ) zz A := ⟨hx, hb, hr, hts, hown, hlocks, hml, hK, hA, hZ⟩
  have hl := lv_entry ([.ref (ad 2), .int x1]) (n := 2) (Nat.le_of_ble_eq_true rfl)
  rw [lg_entry_eq]
  generalize (lg_sl ([.ref (ad 2), .int x1]) ++ List.replicate (2 - (lg_sl ([.ref (ad 2), .int x1])).length) Slot.unset).toArray = ls at hl ⊢
  have hl : lv_has ls 2 [(0, .ref (ad 2)), (1, .int x1)] := hl
  refine lv_iload_n hx hb dX0_keep_0 rfl (lv_at hl 1 rfl) ?_
  refine k_callSi (As := [.int x1]) (rest := []) hzz ⟨hx, hb, hml, hown, hts⟩ (c_hasRegister l D ad cI cZ zz hzz tS hst (wT ad cI cZ u) x1) (cwS 1 hts (tb_S tw_2_147 tw_2_148 tw_1_3 tw_2_149) rfl rfl rfl (by decide +kernel) ⟨Nat.le_of_ble_eq_true rfl, Nat.le_of_ble_eq_true rfl⟩) rfl hl.1 rfl (lv_room (Nat.le_of_ble_eq_true rfl)) dX0_keep_1 ⟨Nat.le_of_ble_eq_true rfl, Nat.le_of_ble_eq_true rfl⟩ hP hK hD hS hA hZ (fun H locs hP hD hS => ?_)
  refine lv_if_ne (tgt := 18) hx hb dX0_keep_4 (by decide) (fun c_2 => ?_) (fun c_2 => ?_)
  · have hok := hok.2 c_2
    have e9 : p_keep u x1 = u := by rw [p_keep, if_neg c_2]
    rw [e9]
    exact W.vret hx hb hr (fun t ht hW => ⟨⟨(), rfl, trivial, by rw [ht]; exact hP, va_K.moved hW.alike hK, hD⟩, hS.F ht⟩) hS.2.2 dX0_keep_18
  · have hok := hok.1 c_2
    refine lv_aload_n hx hb dX0_keep_7 rfl (lv_at hl 0 rfl) ?_
    refine lv_ldc (v := 36864) hx hb hown (hts _ (tb_c tw_2_164)) dX0_keep_8 ?_
    refine lv_iload_n hx hb dX0_keep_10 rfl (lv_at hl 1 rfl) ?_
    refine k_callSi (As := [.int x1]) (rest := [.int 36864, .ref (ad 2)]) hzz ⟨hx, hb, hml, hown, hts⟩ (c_slotOf l D ad cI cZ zz hzz tS hst (wT ad cI cZ u) x1) (cwS 1 hts (tb_S tw_2_165 tw_2_166 tw_1_3 tw_2_167) rfl rfl rfl (by decide +kernel) ⟨Nat.le_of_ble_eq_true rfl, Nat.le_of_ble_eq_true rfl⟩) rfl hl.1 rfl (lv_room (Nat.le_of_ble_eq_true rfl)) dX0_keep_11 ⟨Nat.le_of_ble_eq_true rfl, Nat.le_of_ble_eq_true rfl⟩ hP hK hD hS hA hZ (fun H locs hP hD hS => ?_)
    refine lv_iadd hx hb dX0_keep_14 ?_
    obtain ⟨h_4, hok⟩ := hok
    refine k_callVv (As := [.int (36864 + (p_slotOf x1))]) (rest := []) hzz ⟨hx, hb, hml, hown, hts⟩ (c_put l D ad cI cZ zz hzz tS hst u (36864 + (p_slotOf x1)) h_4) (cwV 1 hts (tb_V tw_2_136 tw_2_138 slX0_put tw_1_3 tw_2_139) rfl rfl rfl (by decide +kernel) ⟨Nat.le_of_ble_eq_true rfl, Nat.le_of_ble_eq_true rfl⟩) (va_recv hK hP (ci := 0) (q0 := 2) rfl rfl) rfl hl.1 rfl (lv_room (Nat.le_of_ble_eq_true rfl)) dX0_keep_15 ⟨Nat.le_of_ble_eq_true rfl, Nat.le_of_ble_eq_true rfl⟩ hP hK hD hS hA hZ (fun H locs hP hD hS => ?_)
    generalize eu_5 : p_put u (36864 + (p_slotOf x1)) = u_5 at hP hD ⊢
    try rw [eu_5] at hok
    have e9 : p_keep u x1 = u_5 := by
      subst eu_5
      rw [p_keep, if_pos c_2]
    rw [e9]
    exact W.vret hx hb hr (fun t ht hW => ⟨⟨(), rfl, trivial, by rw [ht]; exact hP, va_K.moved hW.alike hK, hD⟩, hS.F ht⟩) hS.2.2 dX0_keep_18

def p_distance (u : St) (x1 x2 : Int32) : Int32 := ((u.2 7 x2.toNatClampNeg) - x1) - 2
def ok_distance (u : St) (x1 x2 : Int32) : Prop := (vp_in x2 49 ∧ True)
set_option maxHeartbeats 4000000 in
set_option maxRecDepth 100000 in
theorem c_distance (l : Launch) (D : va_G) (ad : Nat → Nat) (cI cZ : ClassId) (zz : (Nat → Prop) → State → Heap → Prop) (hzz : Zok zz) (tS : Nat) (hst : Zst zz tS) (u : St) (x1 x2 : Int32) (hok : ok_distance u x1 x2) : tfI l D vwCl (tyT cI cZ) zz yX0_distance wsX0_distance ({ frames := 0, cells := 0, slots := 0, locals := 0 } : Room) [.ref (ad 2), .int x1, .int x2] (wT ad cI cZ u) (p_distance u x1 x2) (wT ad cI cZ u) := by
  intro sz
  unfold ok_distance at hok
  refine Met.ofW (cc := cX0_distance) (maxL := 3) (ret := (some .int)) (by decide) rfl ?_
  intro p e s m args below meth c s₁ B hml hv
  obtain ⟨rfl, hsz, hP, hK, hD0, hZ⟩ := hv
  have hx := B.exec
  have hb := B.bytes
  have hr := B.returns
  have hts := atoms_spec (ws := wsX0_distance) B.pre
  have hown : s.vm.findClass RX0 = some m.cls := findClass_of_methodNamed B.named
  have hlocks := B.notSynchronized
  subst hsz
  have hD := hD0.self (sz := s.heap.size)
  generalize hAe : va_A (wT ad cI cZ u) s.heap.size = A at hD hZ ⊢
  have hA : ∀ q : Nat, s.heap.size ≤ q → A q := fun q h => by rw [← hAe]; exact Or.inr h
  have hS : va_S A s.heap s.heap [] := va_S.rf
  have Cx : cxt p s m ([.ref (ad 2), .int x1, .int x2] : List Value).toArray meth c cX0_distance 3 (some .int) wsX0_distance RX0 D vwCl (tyT cI cZ) zz A := ⟨hx, hb, hr, hts, hown, hlocks, hml, hK, hA, hZ⟩
  have hl := lv_entry ([.ref (ad 2), .int x1, .int x2]) (n := 3) (Nat.le_of_ble_eq_true rfl)
  rw [lg_entry_eq]
  generalize (lg_sl ([.ref (ad 2), .int x1, .int x2]) ++ List.replicate (3 - (lg_sl ([.ref (ad 2), .int x1, .int x2])).length) Slot.unset).toArray = ls at hl ⊢
  have hl : lv_has ls 3 [(0, .ref (ad 2)), (1, .int x1), (2, .int x2)] := hl
  refine lv_aload_n hx hb dX0_distance_0 rfl (lv_at hl 0 rfl) ?_
  refine va_get (ci := 0) (v := .ref (ad 11)) (C := RX0) (T := TX0) (N := 9) hx hb hts (ivX0 _) hown hK hP 2 rfl rfl 2 (by decide) (hts _ (tb_c tw_1_72)) (fun _ h9 => h9) rfl dX0_distance_1 ?_
  refine lv_iload_n hx hb dX0_distance_4 rfl (lv_at hl 2 rfl) ?_
  obtain ⟨h_1, hok⟩ := hok
  refine va_iald (f := u.2 7) hx hb hK hP 11 0 rfl rfl h_1 dX0_distance_5 ?_
  refine lv_iload_n hx hb dX0_distance_6 rfl (lv_at hl 1 rfl) ?_
  refine lv_isub hx hb dX0_distance_7 ?_
  refine lv_iconst (v := 2) hx hb dX0_distance_8 (by decide) ?_
  refine lv_isub hx hb dX0_distance_9 ?_
  have e9 : p_distance u x1 x2 = ((u.2 7 x2.toNatClampNeg) - x1) - 2 := by rw [p_distance]
  rw [e9]
  exact W.iret hx hb hr (fun t ht hW => ⟨⟨_, (), rfl, rfl, by rw [ht]; exact hP, va_K.moved hW.alike hK, hD⟩, hS.F ht⟩) hS.2.2 dX0_distance_10

def p_reaches (u : St) (x1 : Int32) : Int32 := (if (p_distance u ((u.2 7 (x1 + 1).toNatClampNeg) - 1) (u.2 5 x1.toNatClampNeg)) < ((-128)) then 0 else (if 127 < (p_distance u ((u.2 7 (x1 + 1).toNatClampNeg) - 1) (u.2 5 x1.toNatClampNeg)) then 0 else 1))
def ok_reaches (u : St) (x1 : Int32) : Prop := (vp_in (x1 + 1) 49 ∧ (vp_in x1 48 ∧ (ok_distance u ((u.2 7 (x1 + 1).toNatClampNeg) - 1) (u.2 5 x1.toNatClampNeg) ∧ True)))
set_option maxHeartbeats 4000000 in
set_option maxRecDepth 100000 in
theorem c_reaches (l : Launch) (D : va_G) (ad : Nat → Nat) (cI cZ : ClassId) (zz : (Nat → Prop) → State → Heap → Prop) (hzz : Zok zz) (tS : Nat) (hst : Zst zz tS) (u : St) (x1 : Int32) (hok : ok_reaches u x1) : tfI l D vwCl (tyT cI cZ) zz yX0_reaches wsX0_reaches ({ frames := 1, cells := 0, slots := 0, locals := 22 } : Room) [.ref (ad 2), .int x1] (wT ad cI cZ u) (p_reaches u x1) (wT ad cI cZ u) := by
  intro sz
  unfold ok_reaches at hok
  refine Met.ofW (cc := cX0_reaches) (maxL := 3) (ret := (some .boolean)) (by decide) rfl ?_
  intro p e s m args below meth c s₁ B hml hv
  obtain ⟨rfl, hsz, hP, hK, hD0, hZ⟩ := hv
  have hx := B.exec
  have hb := B.bytes
  have hr := B.returns
  have hts := atoms_spec (ws := wsX0_reaches) B.pre
  have hown : s.vm.findClass RX0 = some m.cls := findClass_of_methodNamed B.named
  have hlocks := B.notSynchronized
  subst hsz
  have hD := hD0.self (sz := s.heap.size)
  generalize hAe : va_A (wT ad cI cZ u) s.heap.size = A at hD hZ ⊢
  have hA : ∀ q : Nat, s.heap.size ≤ q → A q := fun q h => by rw [← hAe]; exact Or.inr h
  have hS : va_S A s.heap s.heap [] := va_S.rf
  have Cx : cxt p s m ([.ref (ad 2), .int x1] : List Value).toArray meth c cX0_reaches 3 (some .boolean) wsX0_reaches RX0 D vwCl (tyT cI cZ) zz A := ⟨hx, hb, hr, hts, hown, hlocks, hml, hK, hA, hZ⟩
  have hl := lv_entry ([.ref (ad 2), .int x1]) (n := 3) (Nat.le_of_ble_eq_true rfl)
  rw [lg_entry_eq]
  generalize (lg_sl ([.ref (ad 2), .int x1]) ++ List.replicate (3 - (lg_sl ([.ref (ad 2), .int x1])).length) Slot.unset).toArray = ls at hl ⊢
  have hl : lv_has ls 3 [(0, .ref (ad 2)), (1, .int x1)] := hl
  refine lv_aload_n hx hb dX0_reaches_0 rfl (lv_at hl 0 rfl) ?_
  refine lv_aload_n hx hb dX0_reaches_1 rfl (lv_at hl 0 rfl) ?_
  refine va_get (ci := 0) (v := .ref (ad 11)) (C := RX0) (T := TX0) (N := 9) hx hb hts (ivX0 _) hown hK hP 2 rfl rfl 2 (by decide) (hts _ (tb_c tw_1_72)) (fun _ h9 => h9) rfl dX0_reaches_2 ?_
  refine lv_iload_n hx hb dX0_reaches_5 rfl (lv_at hl 1 rfl) ?_
  refine lv_iconst (v := 1) hx hb dX0_reaches_6 (by decide) ?_
  refine lv_iadd hx hb dX0_reaches_7 ?_
  obtain ⟨h_1, hok⟩ := hok
  refine va_iald (f := u.2 7) hx hb hK hP 11 0 rfl rfl h_1 dX0_reaches_8 ?_
  refine lv_iconst (v := 1) hx hb dX0_reaches_9 (by decide) ?_
  refine lv_isub hx hb dX0_reaches_10 ?_
  refine lv_aload_n hx hb dX0_reaches_11 rfl (lv_at hl 0 rfl) ?_
  refine va_get (ci := 0) (v := .ref (ad 1)) (C := RX0) (T := TX0) (N := 9) hx hb hts (ivX0 _) hown hK hP 2 rfl rfl 0 (by decide) (hts _ (tb_c tw_1_69)) (fun _ h9 => h9) rfl dX0_reaches_12 ?_
  refine va_get (ci := 2) (v := .ref (ad 9)) (C := RX2) (T := TX2) (N := 7) hx hb hts (ivX2 _) hown hK hP 1 rfl rfl 5 (by decide) (hts _ (tb_c tw_1_42)) (fun _ h9 => h9) rfl dX0_reaches_15 ?_
  refine lv_iload_n hx hb dX0_reaches_18 rfl (lv_at hl 1 rfl) ?_
  obtain ⟨h_2, hok⟩ := hok
  refine va_iald (f := u.2 5) hx hb hK hP 9 0 rfl rfl h_2 dX0_reaches_19 ?_
  obtain ⟨h_3, hok⟩ := hok
  refine k_callVi (As := [.int ((u.2 7 (x1 + 1).toNatClampNeg) - 1), .int (u.2 5 x1.toNatClampNeg)]) (rest := []) hzz ⟨hx, hb, hml, hown, hts⟩ (c_distance l D ad cI cZ zz hzz tS hst u ((u.2 7 (x1 + 1).toNatClampNeg) - 1) (u.2 5 x1.toNatClampNeg) h_3) (cwV 2 hts (tb_V tw_2_192 tw_2_194 slX0_distance tw_1_3 tw_2_195) rfl rfl rfl (by decide +kernel) ⟨Nat.le_of_ble_eq_true rfl, Nat.le_of_ble_eq_true rfl⟩) (va_recv hK hP (ci := 0) (q0 := 2) rfl rfl) rfl hl.1 rfl (lv_room (Nat.le_of_ble_eq_true rfl)) dX0_reaches_20 ⟨Nat.le_of_ble_eq_true rfl, Nat.le_of_ble_eq_true rfl⟩ hP hK hD hS hA hZ (fun H locs hP hD hS => ?_)
  refine lv_istore_n (lv' := [(2, .int (p_distance u ((u.2 7 (x1 + 1).toNatClampNeg) - 1) (u.2 5 x1.toNatClampNeg))), (0, .ref (ad 2)), (1, .int x1)]) hx hb dX0_reaches_23 rfl hl (by decide) rfl (fun ls hl => ?_)
  refine lv_iload_n hx hb dX0_reaches_24 rfl (lv_at hl 0 rfl) ?_
  refine lv_bipush (v := (-128)) hx hb dX0_reaches_25 (by decide) ?_
  refine lv_icmp_lt (tgt := 40) hx hb dX0_reaches_27 (by decide) (fun c_4 => ?_) (fun c_4 => ?_)
  · skip
    refine lv_iconst (v := 0) hx hb dX0_reaches_40 (by decide) ?_
    have e9 : p_reaches u x1 = 0 := by rw [p_reaches, if_pos c_4]
    rw [e9]
    exact W.zret hx hb hr rfl (fun t ht hW => ⟨⟨_, (), rfl, rfl, by rw [ht]; exact hP, va_K.moved hW.alike hK, hD⟩, hS.F ht⟩) hS.2.2 dX0_reaches_41
  · skip
    refine lv_iload_n hx hb dX0_reaches_30 rfl (lv_at hl 0 rfl) ?_
    refine lv_bipush (v := 127) hx hb dX0_reaches_31 (by decide) ?_
    refine lv_icmp_gt (tgt := 40) hx hb dX0_reaches_33 (by decide) (fun c_5 => ?_) (fun c_5 => ?_)
    · skip
      refine lv_iconst (v := 0) hx hb dX0_reaches_40 (by decide) ?_
      have e9 : p_reaches u x1 = 0 := by rw [p_reaches, if_neg c_4, if_pos c_5]
      rw [e9]
      exact W.zret hx hb hr rfl (fun t ht hW => ⟨⟨_, (), rfl, rfl, by rw [ht]; exact hP, va_K.moved hW.alike hK, hD⟩, hS.F ht⟩) hS.2.2 dX0_reaches_41
    · skip
      refine lv_iconst (v := 1) hx hb dX0_reaches_36 (by decide) ?_
      refine lv_goto (tgt := 41) hx hb dX0_reaches_37 (by decide) ?_
      have e9 : p_reaches u x1 = 1 := by rw [p_reaches, if_neg c_4, if_neg c_5]
      rw [e9]
      exact W.zret hx hb hr rfl (fun t ht hW => ⟨⟨_, (), rfl, rfl, by rw [ht]; exact hP, va_K.moved hW.alike hK, hD⟩, hS.F ht⟩) hS.2.2 dX0_reaches_41

def p_lengthOf (u : St) (x1 : Int32) : Int32 := (u.2 7 (x1 + 1).toNatClampNeg) - (u.2 7 x1.toNatClampNeg)
def ok_lengthOf (u : St) (x1 : Int32) : Prop := (vp_in (x1 + 1) 49 ∧ (vp_in x1 49 ∧ True))
set_option maxHeartbeats 4000000 in
set_option maxRecDepth 100000 in
theorem c_lengthOf (l : Launch) (D : va_G) (ad : Nat → Nat) (cI cZ : ClassId) (zz : (Nat → Prop) → State → Heap → Prop) (hzz : Zok zz) (tS : Nat) (hst : Zst zz tS) (u : St) (x1 : Int32) (hok : ok_lengthOf u x1) : tfI l D vwCl (tyT cI cZ) zz yX0_lengthOf wsX0_lengthOf ({ frames := 0, cells := 0, slots := 0, locals := 0 } : Room) [.ref (ad 2), .int x1] (wT ad cI cZ u) (p_lengthOf u x1) (wT ad cI cZ u) := by
  intro sz
  unfold ok_lengthOf at hok
  refine Met.ofW (cc := cX0_lengthOf) (maxL := 2) (ret := (some .int)) (by decide) rfl ?_
  intro p e s m args below meth c s₁ B hml hv
  obtain ⟨rfl, hsz, hP, hK, hD0, hZ⟩ := hv
  have hx := B.exec
  have hb := B.bytes
  have hr := B.returns
  have hts := atoms_spec (ws := wsX0_lengthOf) B.pre
  have hown : s.vm.findClass RX0 = some m.cls := findClass_of_methodNamed B.named
  have hlocks := B.notSynchronized
  subst hsz
  have hD := hD0.self (sz := s.heap.size)
  generalize hAe : va_A (wT ad cI cZ u) s.heap.size = A at hD hZ ⊢
  have hA : ∀ q : Nat, s.heap.size ≤ q → A q := fun q h => by rw [← hAe]; exact Or.inr h
  have hS : va_S A s.heap s.heap [] := va_S.rf
  have Cx : cxt p s m ([.ref (ad 2), .int x1] : List Value).toArray meth c cX0_lengthOf 2 (some .int) wsX0_lengthOf RX0 D vwCl (tyT cI cZ) zz A := ⟨hx, hb, hr, hts, hown, hlocks, hml, hK, hA, hZ⟩
  have hl := lv_entry ([.ref (ad 2), .int x1]) (n := 2) (Nat.le_of_ble_eq_true rfl)
  rw [lg_entry_eq]
  generalize (lg_sl ([.ref (ad 2), .int x1]) ++ List.replicate (2 - (lg_sl ([.ref (ad 2), .int x1])).length) Slot.unset).toArray = ls at hl ⊢
  have hl : lv_has ls 2 [(0, .ref (ad 2)), (1, .int x1)] := hl
  refine lv_aload_n hx hb dX0_lengthOf_0 rfl (lv_at hl 0 rfl) ?_
  refine va_get (ci := 0) (v := .ref (ad 11)) (C := RX0) (T := TX0) (N := 9) hx hb hts (ivX0 _) hown hK hP 2 rfl rfl 2 (by decide) (hts _ (tb_c tw_1_72)) (fun _ h9 => h9) rfl dX0_lengthOf_1 ?_
  refine lv_iload_n hx hb dX0_lengthOf_4 rfl (lv_at hl 1 rfl) ?_
  refine lv_iconst (v := 1) hx hb dX0_lengthOf_5 (by decide) ?_
  refine lv_iadd hx hb dX0_lengthOf_6 ?_
  obtain ⟨h_1, hok⟩ := hok
  refine va_iald (f := u.2 7) hx hb hK hP 11 0 rfl rfl h_1 dX0_lengthOf_7 ?_
  refine lv_aload_n hx hb dX0_lengthOf_8 rfl (lv_at hl 0 rfl) ?_
  refine va_get (ci := 0) (v := .ref (ad 11)) (C := RX0) (T := TX0) (N := 9) hx hb hts (ivX0 _) hown hK hP 2 rfl rfl 2 (by decide) (hts _ (tb_c tw_1_72)) (fun _ h9 => h9) rfl dX0_lengthOf_9 ?_
  refine lv_iload_n hx hb dX0_lengthOf_12 rfl (lv_at hl 1 rfl) ?_
  obtain ⟨h_2, hok⟩ := hok
  refine va_iald (f := u.2 7) hx hb hK hP 11 0 rfl rfl h_2 dX0_lengthOf_13 ?_
  refine lv_isub hx hb dX0_lengthOf_14 ?_
  have e9 : p_lengthOf u x1 = (u.2 7 (x1 + 1).toNatClampNeg) - (u.2 7 x1.toNatClampNeg) := by rw [p_lengthOf]
  rw [e9]
  exact W.iret hx hb hr (fun t ht hW => ⟨⟨_, (), rfl, rfl, by rw [ht]; exact hP, va_K.moved hW.alike hK, hD⟩, hS.F ht⟩) hS.2.2 dX0_lengthOf_15

def p_literalIndex_2 : Nat → St → Int32 → Int32 → Int32 × St
  | 0, u, _, _ => (0, u)
  | n + 1, u, x1, x2 => (if (u.1 1) ≤ x2 then (if 49 ≤ (u.1 1) then ((u.1 1) - 1, u) else (((u.1 1) + 1) - 1, sS (sA u 9 (u.1 1) x1) 1 ((u.1 1) + 1))) else (if (u.2 9 x2.toNatClampNeg) = x1 then (x2, u) else p_literalIndex_2 n u x1 (x2 + 1)))
def ok_literalIndex_2 : Nat → St → Int32 → Int32 → Prop
  | 0, _, _, _ => False
  | n + 1, u, x1, x2 => (((u.1 1) ≤ x2 → ((49 ≤ (u.1 1) → True) ∧ (¬ 49 ≤ (u.1 1) → (vp_in (u.1 1) 49 ∧ True)))) ∧ (¬ (u.1 1) ≤ x2 → (vp_in x2 49 ∧ (((u.2 9 x2.toNatClampNeg) = x1 → True) ∧ (¬ (u.2 9 x2.toNatClampNeg) = x1 → ok_literalIndex_2 n u x1 (x2 + 1))))))
set_option maxHeartbeats 4000000 in
set_option maxRecDepth 100000 in
theorem w_literalIndex_2 {p : Program} {l : Launch} {e : Env} {s : State} {m : MethodId} {args : Array Value} {below : List Frame} {meth : Method} {c : Code} {D : va_G} {A : Nat → Prop} (ad : Nat → Nat) (cI cZ : ClassId) (zz : (Nat → Prop) → State → Heap → Prop) (hzz : Zok zz) (tS : Nat) (hst : Zst zz tS) (Cx : cxt p s m args meth c cX0_literalIndex 3 (some .int) wsX0_literalIndex RX0 D vwCl (tyT cI cZ) zz A) : ∀ (n : Nat) (u : St) (x1 x2 : Int32) (H : Heap) (locs : List Loc) (ls : Array Slot), ok_literalIndex_2 n u x1 x2 → va_P D vwCl (wT ad cI cZ u) H → va_D A (wT ad cI cZ u) → va_S A s.heap H locs → lv_has ls 3 [(0, .ref (ad 2)), (1, .int x1), (2, .int x2)] → W p l e ({ frames := 0, cells := 0, slots := 0, locals := 0 } : Room) s m args below meth c H locs 0 0 (MQ below (qqI D vwCl (tyT cI cZ) (wT ad cI cZ ((p_literalIndex_2 n u x1 x2).2)) (p_literalIndex_2 n u x1 x2).1 A) args s 0 0 A) (F0 m 2 ls []) := by
  obtain ⟨hx, hb, hr, hts, hown, hlocks, hml, hK, hA, hZ⟩ := id Cx
  intro n
  induction n with
  | zero =>
    intro u x1 x2 H locs ls hok
    exact False.elim hok
  | succ n ih =>
    intro u x1 x2 H locs ls hok hP hD hS hl
    unfold ok_literalIndex_2 at hok
    refine lv_iload_n hx hb dX0_literalIndex_2 rfl (lv_at hl 2 rfl) ?_
    refine lv_aload_n hx hb dX0_literalIndex_3 rfl (lv_at hl 0 rfl) ?_
    refine va_get (ci := 0) (v := .int (u.1 1)) (C := RX0) (T := TX0) (N := 9) hx hb hts (ivX0 _) hown hK hP 2 rfl rfl 5 (by decide) (hts _ (tb_c tw_1_77)) (fun _ h9 => h9) rfl dX0_literalIndex_4 ?_
    refine lv_icmp_ge (tgt := 28) hx hb dX0_literalIndex_7 (by decide) (fun c_1 => ?_) (fun c_1 => ?_)
    · have hok := hok.1 c_1
      refine lv_aload_n hx hb dX0_literalIndex_28 rfl (lv_at hl 0 rfl) ?_
      refine va_get (ci := 0) (v := .int (u.1 1)) (C := RX0) (T := TX0) (N := 9) hx hb hts (ivX0 _) hown hK hP 2 rfl rfl 5 (by decide) (hts _ (tb_c tw_1_77)) (fun _ h9 => h9) rfl dX0_literalIndex_29 ?_
      refine lv_bipush (v := 49) hx hb dX0_literalIndex_32 (by decide) ?_
      refine lv_icmp_ge (tgt := 57) hx hb dX0_literalIndex_34 (by decide) (fun c_2 => ?_) (fun c_2 => ?_)
      · have hok := hok.1 c_2
        refine lv_aload_n hx hb dX0_literalIndex_57 rfl (lv_at hl 0 rfl) ?_
        refine va_get (ci := 0) (v := .int (u.1 1)) (C := RX0) (T := TX0) (N := 9) hx hb hts (ivX0 _) hown hK hP 2 rfl rfl 5 (by decide) (hts _ (tb_c tw_1_77)) (fun _ h9 => h9) rfl dX0_literalIndex_58 ?_
        refine lv_iconst (v := 1) hx hb dX0_literalIndex_61 (by decide) ?_
        refine lv_isub hx hb dX0_literalIndex_62 ?_
        have e9 : p_literalIndex_2 (n + 1) u x1 x2 = ((u.1 1) - 1, u) := by rw [p_literalIndex_2, if_pos c_1, if_pos c_2]
        rw [e9]
        exact W.iret hx hb hr (fun t ht hW => ⟨⟨_, (), rfl, rfl, by rw [ht]; exact hP, va_K.moved hW.alike hK, hD⟩, hS.F ht⟩) hS.2.2 dX0_literalIndex_63
      · have hok := hok.2 c_2
        refine lv_aload_n hx hb dX0_literalIndex_37 rfl (lv_at hl 0 rfl) ?_
        refine va_get (ci := 0) (v := .ref (ad 13)) (C := RX0) (T := TX0) (N := 9) hx hb hts (ivX0 _) hown hK hP 2 rfl rfl 4 (by decide) (hts _ (tb_c tw_1_76)) (fun _ h9 => h9) rfl dX0_literalIndex_38 ?_
        refine lv_aload_n hx hb dX0_literalIndex_41 rfl (lv_at hl 0 rfl) ?_
        refine va_get (ci := 0) (v := .int (u.1 1)) (C := RX0) (T := TX0) (N := 9) hx hb hts (ivX0 _) hown hK hP 2 rfl rfl 5 (by decide) (hts _ (tb_c tw_1_77)) (fun _ h9 => h9) rfl dX0_literalIndex_42 ?_
        refine lv_iload_n hx hb dX0_literalIndex_45 rfl (lv_at hl 1 rfl) ?_
        obtain ⟨h_3, hok⟩ := hok
        refine va_iast hx hb hK hP hD hS 13 0 rfl rfl h_3 dX0_literalIndex_46 (fun H locs hP hD hS => ?_)
        have hP : va_P D vwCl (wT ad cI cZ (sA u 9 (u.1 1) x1)) H := hP
        have hD : va_D A (wT ad cI cZ (sA u 9 (u.1 1) x1)) := hD
        refine lv_aload_n hx hb dX0_literalIndex_47 rfl (lv_at hl 0 rfl) ?_
        refine lv_dup hx hb dX0_literalIndex_48 rfl ?_
        refine va_get (ci := 0) (v := .int (u.1 1)) (C := RX0) (T := TX0) (N := 9) hx hb hts (ivX0 _) hown hK hP 2 rfl rfl 5 (by decide) (hts _ (tb_c tw_1_77)) (fun _ h9 => h9) rfl dX0_literalIndex_49 ?_
        refine lv_iconst (v := 1) hx hb dX0_literalIndex_52 (by decide) ?_
        refine lv_iadd hx hb dX0_literalIndex_53 ?_
        refine va_put (ci := 0) (v := .int ((u.1 1) + 1)) (ty := .int) (C := RX0) (T := TX0) (N := 9) hx hb hts (ivX0 _) tyX0 tyX0_ok nmX0 hown hK hP hD hS 2 rfl rfl 5 (by decide) (hts _ (tb_c tw_1_77)) (fun _ h9 => h9) rfl (by decide +kernel) rfl rfl (Nat.le_of_ble_eq_true rfl) dX0_literalIndex_54 (fun H locs hP hD hS => ?_)
        have hP : va_P D vwCl (wT ad cI cZ (sS (sA u 9 (u.1 1) x1) 1 ((u.1 1) + 1))) H := hP
        have hD : va_D A (wT ad cI cZ (sS (sA u 9 (u.1 1) x1) 1 ((u.1 1) + 1))) := hD
        refine lv_aload_n hx hb dX0_literalIndex_57 rfl (lv_at hl 0 rfl) ?_
        refine va_get (ci := 0) (v := .int ((u.1 1) + 1)) (C := RX0) (T := TX0) (N := 9) hx hb hts (ivX0 _) hown hK hP 2 rfl rfl 5 (by decide) (hts _ (tb_c tw_1_77)) (fun _ h9 => h9) rfl dX0_literalIndex_58 ?_
        refine lv_iconst (v := 1) hx hb dX0_literalIndex_61 (by decide) ?_
        refine lv_isub hx hb dX0_literalIndex_62 ?_
        have e9 : p_literalIndex_2 (n + 1) u x1 x2 = (((u.1 1) + 1) - 1, sS (sA u 9 (u.1 1) x1) 1 ((u.1 1) + 1)) := by rw [p_literalIndex_2, if_pos c_1, if_neg c_2]
        rw [e9]
        exact W.iret hx hb hr (fun t ht hW => ⟨⟨_, (), rfl, rfl, by rw [ht]; exact hP, va_K.moved hW.alike hK, hD⟩, hS.F ht⟩) hS.2.2 dX0_literalIndex_63
    · have hok := hok.2 c_1
      refine lv_aload_n hx hb dX0_literalIndex_10 rfl (lv_at hl 0 rfl) ?_
      refine va_get (ci := 0) (v := .ref (ad 13)) (C := RX0) (T := TX0) (N := 9) hx hb hts (ivX0 _) hown hK hP 2 rfl rfl 4 (by decide) (hts _ (tb_c tw_1_76)) (fun _ h9 => h9) rfl dX0_literalIndex_11 ?_
      refine lv_iload_n hx hb dX0_literalIndex_14 rfl (lv_at hl 2 rfl) ?_
      obtain ⟨h_4, hok⟩ := hok
      refine va_iald (f := u.2 9) hx hb hK hP 13 0 rfl rfl h_4 dX0_literalIndex_15 ?_
      refine lv_iload_n hx hb dX0_literalIndex_16 rfl (lv_at hl 1 rfl) ?_
      refine lv_icmp_ne (tgt := 22) hx hb dX0_literalIndex_17 (by decide) (fun c_5 => ?_) (fun c_5 => ?_)
      · have hok := hok.2 c_5
        refine lv_iinc (v := x2 + 1) (lv' := [(2, .int (x2 + 1)), (0, .ref (ad 2)), (1, .int x1)]) hx hb dX0_literalIndex_22 hl (k := 2) rfl rfl (by decide) rfl (fun ls hl => ?_)
        refine lv_goto (tgt := 2) hx hb dX0_literalIndex_25 (by decide) ?_
        have e9 : p_literalIndex_2 (n + 1) u x1 x2 = p_literalIndex_2 n u x1 (x2 + 1) := by rw [p_literalIndex_2, if_neg c_1, if_neg c_5]
        rw [e9]
        exact ih u x1 (x2 + 1) _ _ _ hok hP hD hS (lv_sub hl [1, 2, 0] rfl)
      · have hok := hok.1 c_5
        refine lv_iload_n hx hb dX0_literalIndex_20 rfl (lv_at hl 2 rfl) ?_
        have e9 : p_literalIndex_2 (n + 1) u x1 x2 = (x2, u) := by rw [p_literalIndex_2, if_neg c_1, if_pos c_5]
        rw [e9]
        exact W.iret hx hb hr (fun t ht hW => ⟨⟨_, (), rfl, rfl, by rw [ht]; exact hP, va_K.moved hW.alike hK, hD⟩, hS.F ht⟩) hS.2.2 dX0_literalIndex_21
def p_literalIndex (u : St) (x1 : Int32) : Int32 × St := p_literalIndex_2 64 u x1 0
def ok_literalIndex (u : St) (x1 : Int32) : Prop := ok_literalIndex_2 64 u x1 0
set_option maxHeartbeats 4000000 in
set_option maxRecDepth 100000 in
theorem c_literalIndex (l : Launch) (D : va_G) (ad : Nat → Nat) (cI cZ : ClassId) (zz : (Nat → Prop) → State → Heap → Prop) (hzz : Zok zz) (tS : Nat) (hst : Zst zz tS) (u : St) (x1 : Int32) (hok : ok_literalIndex u x1) : tfI l D vwCl (tyT cI cZ) zz yX0_literalIndex wsX0_literalIndex ({ frames := 0, cells := 0, slots := 0, locals := 0 } : Room) [.ref (ad 2), .int x1] (wT ad cI cZ u) (p_literalIndex u x1).1 (wT ad cI cZ ((p_literalIndex u x1).2)) := by
  intro sz
  unfold ok_literalIndex at hok
  refine Met.ofW (cc := cX0_literalIndex) (maxL := 3) (ret := (some .int)) (by decide) rfl ?_
  intro p e s m args below meth c s₁ B hml hv
  obtain ⟨rfl, hsz, hP, hK, hD0, hZ⟩ := hv
  have hx := B.exec
  have hb := B.bytes
  have hr := B.returns
  have hts := atoms_spec (ws := wsX0_literalIndex) B.pre
  have hown : s.vm.findClass RX0 = some m.cls := findClass_of_methodNamed B.named
  have hlocks := B.notSynchronized
  subst hsz
  have hD := hD0.self (sz := s.heap.size)
  generalize hAe : va_A (wT ad cI cZ u) s.heap.size = A at hD hZ ⊢
  have hA : ∀ q : Nat, s.heap.size ≤ q → A q := fun q h => by rw [← hAe]; exact Or.inr h
  have hS : va_S A s.heap s.heap [] := va_S.rf
  have Cx : cxt p s m ([.ref (ad 2), .int x1] : List Value).toArray meth c cX0_literalIndex 3 (some .int) wsX0_literalIndex RX0 D vwCl (tyT cI cZ) zz A := ⟨hx, hb, hr, hts, hown, hlocks, hml, hK, hA, hZ⟩
  have hl := lv_entry ([.ref (ad 2), .int x1]) (n := 3) (Nat.le_of_ble_eq_true rfl)
  rw [lg_entry_eq]
  generalize (lg_sl ([.ref (ad 2), .int x1]) ++ List.replicate (3 - (lg_sl ([.ref (ad 2), .int x1])).length) Slot.unset).toArray = ls at hl ⊢
  have hl : lv_has ls 3 [(0, .ref (ad 2)), (1, .int x1)] := hl
  refine lv_iconst (v := 0) hx hb dX0_literalIndex_0 (by decide) ?_
  refine lv_istore_n (lv' := [(2, .int 0), (0, .ref (ad 2)), (1, .int x1)]) hx hb dX0_literalIndex_1 rfl hl (by decide) rfl (fun ls hl => ?_)
  have e9 : p_literalIndex u x1 = p_literalIndex_2 64 u x1 0 := by rw [p_literalIndex]
  rw [e9]
  exact w_literalIndex_2 ad cI cZ zz hzz tS hst Cx 64 u x1 0 _ _ _ hok hP hD hS (lv_sub hl [1, 2, 0] rfl)

def p_writeLiteral (u : St) (x1 x2 : Int32) : St := (p_put ((p_literalIndex u x1).2) ((18432 + (256 * x2)) + ((((2 * (u.1 2)) + (4 * ((p_literalIndex u x1).1))) - (((2 * (((p_literalIndex u x1).2).1 3)) + 4) - (((2 * (((p_literalIndex u x1).2).1 3)) + 4) - ((2 * (((p_literalIndex u x1).2).1 3)) + 4) / 4 * 4))) / 4)))
def ok_writeLiteral (u : St) (x1 x2 : Int32) : Prop := (ok_literalIndex u x1 ∧ (ok_put ((p_literalIndex u x1).2) ((18432 + (256 * x2)) + ((((2 * (u.1 2)) + (4 * ((p_literalIndex u x1).1))) - (((2 * (((p_literalIndex u x1).2).1 3)) + 4) - (((2 * (((p_literalIndex u x1).2).1 3)) + 4) - ((2 * (((p_literalIndex u x1).2).1 3)) + 4) / 4 * 4))) / 4)) ∧ True))
set_option maxHeartbeats 4000000 in
set_option maxRecDepth 100000 in
theorem c_writeLiteral (l : Launch) (D : va_G) (ad : Nat → Nat) (cI cZ : ClassId) (zz : (Nat → Prop) → State → Heap → Prop) (hzz : Zok zz) (tS : Nat) (hst : Zst zz tS) (u : St) (x1 x2 : Int32) (hok : ok_writeLiteral u x1 x2) : tfV l D vwCl (tyT cI cZ) zz yX0_writeLiteral wsX0_writeLiteral ({ frames := 1, cells := 0, slots := 0, locals := 22 } : Room) [.ref (ad 2), .int x1, .int x2] (wT ad cI cZ u) (wT ad cI cZ (p_writeLiteral u x1 x2)) := by
  intro sz
  unfold ok_writeLiteral at hok
  refine Met.ofW (cc := cX0_writeLiteral) (maxL := 5) (ret := none) (by decide) rfl ?_
  intro p e s m args below meth c s₁ B hml hv
  obtain ⟨rfl, hsz, hP, hK, hD0, hZ⟩ := hv
  have hx := B.exec
  have hb := B.bytes
  have hr := B.returns
  have hts := atoms_spec (ws := wsX0_writeLiteral) B.pre
  have hown : s.vm.findClass RX0 = some m.cls := findClass_of_methodNamed B.named
  have hlocks := B.notSynchronized
  subst hsz
  have hD := hD0.self (sz := s.heap.size)
  generalize hAe : va_A (wT ad cI cZ u) s.heap.size = A at hD hZ ⊢
  have hA : ∀ q : Nat, s.heap.size ≤ q → A q := fun q h => by rw [← hAe]; exact Or.inr h
  have hS : va_S A s.heap s.heap [] := va_S.rf
  have Cx : cxt p s m ([.ref (ad 2), .int x1, .int x2] : List Value).toArray meth c cX0_writeLiteral 5 none wsX0_writeLiteral RX0 D vwCl (tyT cI cZ) zz A := ⟨hx, hb, hr, hts, hown, hlocks, hml, hK, hA, hZ⟩
  have hl := lv_entry ([.ref (ad 2), .int x1, .int x2]) (n := 5) (Nat.le_of_ble_eq_true rfl)
  rw [lg_entry_eq]
  generalize (lg_sl ([.ref (ad 2), .int x1, .int x2]) ++ List.replicate (5 - (lg_sl ([.ref (ad 2), .int x1, .int x2])).length) Slot.unset).toArray = ls at hl ⊢
  have hl : lv_has ls 5 [(0, .ref (ad 2)), (1, .int x1), (2, .int x2)] := hl
  refine lv_iconst (v := 2) hx hb dX0_writeLiteral_0 (by decide) ?_
  refine lv_aload_n hx hb dX0_writeLiteral_1 rfl (lv_at hl 0 rfl) ?_
  refine va_get (ci := 0) (v := .int (u.1 2)) (C := RX0) (T := TX0) (N := 9) hx hb hts (ivX0 _) hown hK hP 2 rfl rfl 6 (by decide) (hts _ (tb_c tw_1_78)) (fun _ h9 => h9) rfl dX0_writeLiteral_2 ?_
  refine lv_imul hx hb dX0_writeLiteral_5 ?_
  refine lv_iconst (v := 4) hx hb dX0_writeLiteral_6 (by decide) ?_
  refine lv_aload_n hx hb dX0_writeLiteral_7 rfl (lv_at hl 0 rfl) ?_
  refine lv_iload_n hx hb dX0_writeLiteral_8 rfl (lv_at hl 1 rfl) ?_
  obtain ⟨h_1, hok⟩ := hok
  refine k_callVi (As := [.int x1]) (rest := [.int 4, .int (2 * (u.1 2))]) hzz ⟨hx, hb, hml, hown, hts⟩ (c_literalIndex l D ad cI cZ zz hzz tS hst u x1 h_1) (cwV 1 hts (tb_V tw_2_132 tw_2_134 slX0_literalIndex tw_1_3 tw_2_135) rfl rfl rfl (by decide +kernel) ⟨Nat.le_of_ble_eq_true rfl, Nat.le_of_ble_eq_true rfl⟩) (va_recv hK hP (ci := 0) (q0 := 2) rfl rfl) rfl hl.1 rfl (lv_room (Nat.le_of_ble_eq_true rfl)) dX0_writeLiteral_9 ⟨Nat.le_of_ble_eq_true rfl, Nat.le_of_ble_eq_true rfl⟩ hP hK hD hS hA hZ (fun H locs hP hD hS => ?_)
  generalize eu_2 : (p_literalIndex u x1).2 = u_2 at hP hD ⊢
  try rw [eu_2] at hok
  refine lv_imul hx hb dX0_writeLiteral_12 ?_
  refine lv_iadd hx hb dX0_writeLiteral_13 ?_
  refine lv_istore_n (lv' := [(3, .int ((2 * (u.1 2)) + (4 * ((p_literalIndex u x1).1)))), (0, .ref (ad 2)), (1, .int x1), (2, .int x2)]) hx hb dX0_writeLiteral_14 rfl hl (by decide) rfl (fun ls hl => ?_)
  refine lv_iconst (v := 2) hx hb dX0_writeLiteral_15 (by decide) ?_
  refine lv_aload_n hx hb dX0_writeLiteral_16 rfl (lv_at hl 1 rfl) ?_
  refine va_get (ci := 0) (v := .int (u_2.1 3)) (C := RX0) (T := TX0) (N := 9) hx hb hts (ivX0 _) hown hK hP 2 rfl rfl 7 (by decide) (hts _ (tb_c tw_1_79)) (fun _ h9 => h9) rfl dX0_writeLiteral_17 ?_
  refine lv_imul hx hb dX0_writeLiteral_20 ?_
  refine lv_iconst (v := 4) hx hb dX0_writeLiteral_21 (by decide) ?_
  refine lv_iadd hx hb dX0_writeLiteral_22 ?_
  refine lv_istore (lv' := [(4, .int ((2 * (u_2.1 3)) + 4)), (3, .int ((2 * (u.1 2)) + (4 * ((p_literalIndex u x1).1)))), (0, .ref (ad 2)), (1, .int x1), (2, .int x2)]) hx hb dX0_writeLiteral_23 hl (by decide) rfl (fun ls hl => ?_)
  refine lv_iload hx hb dX0_writeLiteral_25 (lv_at hl 0 rfl) ?_
  refine lv_iload hx hb dX0_writeLiteral_27 (lv_at hl 0 rfl) ?_
  refine lv_iconst (v := 4) hx hb dX0_writeLiteral_29 (by decide) ?_
  refine lv_irem hx hb dX0_writeLiteral_30 (by decide) ?_
  refine lv_isub hx hb dX0_writeLiteral_31 ?_
  refine lv_istore (lv' := [(4, .int (((2 * (u_2.1 3)) + 4) - (((2 * (u_2.1 3)) + 4) - ((2 * (u_2.1 3)) + 4) / 4 * 4))), (3, .int ((2 * (u.1 2)) + (4 * ((p_literalIndex u x1).1)))), (0, .ref (ad 2)), (1, .int x1), (2, .int x2)]) hx hb dX0_writeLiteral_32 hl (by decide) rfl (fun ls hl => ?_)
  refine lv_aload_n hx hb dX0_writeLiteral_34 rfl (lv_at hl 2 rfl) ?_
  refine lv_sipush (v := 18432) hx hb dX0_writeLiteral_35 (by decide) ?_
  refine lv_sipush (v := 256) hx hb dX0_writeLiteral_38 (by decide) ?_
  refine lv_iload_n hx hb dX0_writeLiteral_41 rfl (lv_at hl 4 rfl) ?_
  refine lv_imul hx hb dX0_writeLiteral_42 ?_
  refine lv_iadd hx hb dX0_writeLiteral_43 ?_
  refine lv_iload_n hx hb dX0_writeLiteral_44 rfl (lv_at hl 1 rfl) ?_
  refine lv_iload hx hb dX0_writeLiteral_45 (lv_at hl 0 rfl) ?_
  refine lv_isub hx hb dX0_writeLiteral_47 ?_
  refine lv_iconst (v := 4) hx hb dX0_writeLiteral_48 (by decide) ?_
  refine lv_idiv hx hb dX0_writeLiteral_49 (by decide) ?_
  refine lv_iadd hx hb dX0_writeLiteral_50 ?_
  obtain ⟨h_3, hok⟩ := hok
  refine k_callVv (As := [.int ((18432 + (256 * x2)) + ((((2 * (u.1 2)) + (4 * ((p_literalIndex u x1).1))) - (((2 * (u_2.1 3)) + 4) - (((2 * (u_2.1 3)) + 4) - ((2 * (u_2.1 3)) + 4) / 4 * 4))) / 4))]) (rest := []) hzz ⟨hx, hb, hml, hown, hts⟩ (c_put l D ad cI cZ zz hzz tS hst u_2 ((18432 + (256 * x2)) + ((((2 * (u.1 2)) + (4 * ((p_literalIndex u x1).1))) - (((2 * (u_2.1 3)) + 4) - (((2 * (u_2.1 3)) + 4) - ((2 * (u_2.1 3)) + 4) / 4 * 4))) / 4)) h_3) (cwV 1 hts (tb_V tw_2_136 tw_2_138 slX0_put tw_1_3 tw_2_139) rfl rfl rfl (by decide +kernel) ⟨Nat.le_of_ble_eq_true rfl, Nat.le_of_ble_eq_true rfl⟩) (va_recv hK hP (ci := 0) (q0 := 2) rfl rfl) rfl hl.1 rfl (lv_room (Nat.le_of_ble_eq_true rfl)) dX0_writeLiteral_51 ⟨Nat.le_of_ble_eq_true rfl, Nat.le_of_ble_eq_true rfl⟩ hP hK hD hS hA hZ (fun H locs hP hD hS => ?_)
  generalize eu_4 : p_put u_2 ((18432 + (256 * x2)) + ((((2 * (u.1 2)) + (4 * ((p_literalIndex u x1).1))) - (((2 * (u_2.1 3)) + 4) - (((2 * (u_2.1 3)) + 4) - ((2 * (u_2.1 3)) + 4) / 4 * 4))) / 4)) = u_4 at hP hD ⊢
  try rw [eu_4] at hok
  have e9 : p_writeLiteral u x1 x2 = u_4 := by
    subst eu_4
    subst eu_2
    rw [p_writeLiteral]
  rw [e9]
  exact W.vret hx hb hr (fun t ht hW => ⟨⟨(), rfl, trivial, by rw [ht]; exact hP, va_K.moved hW.alike hK, hD⟩, hS.F ht⟩) hS.2.2 dX0_writeLiteral_54

def p_writeNumber (u : St) (x1 x2 : Int32) : St := (if x1 < 0 then (if x1 < ((-256)) then (if (p_leastShift x1) = 0 then (p_writeLiteral u x1 x2) else (p_put (p_put u ((8192 + (256 * x2)) + (ush x1 (p_leastShift x1)))) ((64 * (p_leastShift x1)) + (9 * x2)))) else (if ((-1)) < x1 then (if (p_leastShift x1) = 0 then (p_writeLiteral u x1 x2) else (p_put (p_put u ((8192 + (256 * x2)) + (ush x1 (p_leastShift x1)))) ((64 * (p_leastShift x1)) + (9 * x2)))) else (p_put (p_put u ((8192 + (256 * x2)) + (((-1)) - x1))) (17344 + (9 * x2))))) else (if 255 < x1 then (if x1 < ((-256)) then (if (p_leastShift x1) = 0 then (p_writeLiteral u x1 x2) else (p_put (p_put u ((8192 + (256 * x2)) + (ush x1 (p_leastShift x1)))) ((64 * (p_leastShift x1)) + (9 * x2)))) else (if ((-1)) < x1 then (if (p_leastShift x1) = 0 then (p_writeLiteral u x1 x2) else (p_put (p_put u ((8192 + (256 * x2)) + (ush x1 (p_leastShift x1)))) ((64 * (p_leastShift x1)) + (9 * x2)))) else (p_put (p_put u ((8192 + (256 * x2)) + (((-1)) - x1))) (17344 + (9 * x2))))) else (p_put u ((8192 + (256 * x2)) + x1))))
def ok_writeNumber (u : St) (x1 x2 : Int32) : Prop := ((x1 < 0 → ((x1 < ((-256)) → (ok_leastShift x1 ∧ (((p_leastShift x1) = 0 → (ok_writeLiteral u x1 x2 ∧ True)) ∧ (¬ (p_leastShift x1) = 0 → (ok_put u ((8192 + (256 * x2)) + (ush x1 (p_leastShift x1))) ∧ (ok_put (p_put u ((8192 + (256 * x2)) + (ush x1 (p_leastShift x1)))) ((64 * (p_leastShift x1)) + (9 * x2)) ∧ True)))))) ∧ (¬ x1 < ((-256)) → ((((-1)) < x1 → (ok_leastShift x1 ∧ (((p_leastShift x1) = 0 → (ok_writeLiteral u x1 x2 ∧ True)) ∧ (¬ (p_leastShift x1) = 0 → (ok_put u ((8192 + (256 * x2)) + (ush x1 (p_leastShift x1))) ∧ (ok_put (p_put u ((8192 + (256 * x2)) + (ush x1 (p_leastShift x1)))) ((64 * (p_leastShift x1)) + (9 * x2)) ∧ True)))))) ∧ (¬ ((-1)) < x1 → (ok_put u ((8192 + (256 * x2)) + (((-1)) - x1)) ∧ (ok_put (p_put u ((8192 + (256 * x2)) + (((-1)) - x1))) (17344 + (9 * x2)) ∧ True))))))) ∧ (¬ x1 < 0 → ((255 < x1 → ((x1 < ((-256)) → (ok_leastShift x1 ∧ (((p_leastShift x1) = 0 → (ok_writeLiteral u x1 x2 ∧ True)) ∧ (¬ (p_leastShift x1) = 0 → (ok_put u ((8192 + (256 * x2)) + (ush x1 (p_leastShift x1))) ∧ (ok_put (p_put u ((8192 + (256 * x2)) + (ush x1 (p_leastShift x1)))) ((64 * (p_leastShift x1)) + (9 * x2)) ∧ True)))))) ∧ (¬ x1 < ((-256)) → ((((-1)) < x1 → (ok_leastShift x1 ∧ (((p_leastShift x1) = 0 → (ok_writeLiteral u x1 x2 ∧ True)) ∧ (¬ (p_leastShift x1) = 0 → (ok_put u ((8192 + (256 * x2)) + (ush x1 (p_leastShift x1))) ∧ (ok_put (p_put u ((8192 + (256 * x2)) + (ush x1 (p_leastShift x1)))) ((64 * (p_leastShift x1)) + (9 * x2)) ∧ True)))))) ∧ (¬ ((-1)) < x1 → (ok_put u ((8192 + (256 * x2)) + (((-1)) - x1)) ∧ (ok_put (p_put u ((8192 + (256 * x2)) + (((-1)) - x1))) (17344 + (9 * x2)) ∧ True))))))) ∧ (¬ 255 < x1 → (ok_put u ((8192 + (256 * x2)) + x1) ∧ True)))))
set_option maxHeartbeats 4000000 in
set_option maxRecDepth 100000 in
theorem c_writeNumber (l : Launch) (D : va_G) (ad : Nat → Nat) (cI cZ : ClassId) (zz : (Nat → Prop) → State → Heap → Prop) (hzz : Zok zz) (tS : Nat) (hst : Zst zz tS) (u : St) (x1 x2 : Int32) (hok : ok_writeNumber u x1 x2) : tfV l D vwCl (tyT cI cZ) zz yX0_writeNumber wsX0_writeNumber ({ frames := 2, cells := 0, slots := 0, locals := 46 } : Room) [.ref (ad 2), .int x1, .int x2] (wT ad cI cZ u) (wT ad cI cZ (p_writeNumber u x1 x2)) := by
  intro sz
  unfold ok_writeNumber at hok
  refine Met.ofW (cc := cX0_writeNumber) (maxL := 4) (ret := none) (by decide) rfl ?_
  intro p e s m args below meth c s₁ B hml hv
  obtain ⟨rfl, hsz, hP, hK, hD0, hZ⟩ := hv
  have hx := B.exec
  have hb := B.bytes
  have hr := B.returns
  have hts := atoms_spec (ws := wsX0_writeNumber) B.pre
  have hown : s.vm.findClass RX0 = some m.cls := findClass_of_methodNamed B.named
  have hlocks := B.notSynchronized
  subst hsz
  have hD := hD0.self (sz := s.heap.size)
  generalize hAe : va_A (wT ad cI cZ u) s.heap.size = A at hD hZ ⊢
  have hA : ∀ q : Nat, s.heap.size ≤ q → A q := fun q h => by rw [← hAe]; exact Or.inr h
  have hS : va_S A s.heap s.heap [] := va_S.rf
  have Cx : cxt p s m ([.ref (ad 2), .int x1, .int x2] : List Value).toArray meth c cX0_writeNumber 4 none wsX0_writeNumber RX0 D vwCl (tyT cI cZ) zz A := ⟨hx, hb, hr, hts, hown, hlocks, hml, hK, hA, hZ⟩
  have hl := lv_entry ([.ref (ad 2), .int x1, .int x2]) (n := 4) (Nat.le_of_ble_eq_true rfl)
  rw [lg_entry_eq]
  generalize (lg_sl ([.ref (ad 2), .int x1, .int x2]) ++ List.replicate (4 - (lg_sl ([.ref (ad 2), .int x1, .int x2])).length) Slot.unset).toArray = ls at hl ⊢
  have hl : lv_has ls 4 [(0, .ref (ad 2)), (1, .int x1), (2, .int x2)] := hl
  refine lv_iload_n hx hb dX0_writeNumber_0 rfl (lv_at hl 1 rfl) ?_
  refine lv_if_lt (tgt := 27) hx hb dX0_writeNumber_1 (by decide) (fun c_1 => ?_) (fun c_1 => ?_)
  · have hok := hok.1 c_1
    refine lv_iload_n hx hb dX0_writeNumber_27 rfl (lv_at hl 1 rfl) ?_
    refine lv_sipush (v := (-256)) hx hb dX0_writeNumber_28 (by decide) ?_
    refine lv_icmp_lt (tgt := 69) hx hb dX0_writeNumber_31 (by decide) (fun c_2 => ?_) (fun c_2 => ?_)
    · have hok := hok.1 c_2
      refine lv_iload_n hx hb dX0_writeNumber_69 rfl (lv_at hl 1 rfl) ?_
      obtain ⟨h_3, hok⟩ := hok
      refine k_callSi (As := [.int x1]) (rest := []) hzz ⟨hx, hb, hml, hown, hts⟩ (c_leastShift l D ad cI cZ zz hzz tS hst (wT ad cI cZ u) x1 h_3) (cwS 1 hts (tb_S tw_2_157 tw_2_158 tw_1_3 tw_2_159) rfl rfl rfl (by decide +kernel) ⟨Nat.le_of_ble_eq_true rfl, Nat.le_of_ble_eq_true rfl⟩) rfl hl.1 rfl (lv_room (Nat.le_of_ble_eq_true rfl)) dX0_writeNumber_70 ⟨Nat.le_of_ble_eq_true rfl, Nat.le_of_ble_eq_true rfl⟩ hP hK hD hS hA hZ (fun H locs hP hD hS => ?_)
      refine lv_istore_n (lv' := [(3, .int (p_leastShift x1)), (0, .ref (ad 2)), (1, .int x1), (2, .int x2)]) hx hb dX0_writeNumber_73 rfl hl (by decide) rfl (fun ls hl => ?_)
      refine lv_iload_n hx hb dX0_writeNumber_74 rfl (lv_at hl 0 rfl) ?_
      refine lv_if_ne (tgt := 85) hx hb dX0_writeNumber_75 (by decide) (fun c_4 => ?_) (fun c_4 => ?_)
      · have hok := hok.2 c_4
        refine lv_aload_n hx hb dX0_writeNumber_85 rfl (lv_at hl 1 rfl) ?_
        refine lv_sipush (v := 8192) hx hb dX0_writeNumber_86 (by decide) ?_
        refine lv_sipush (v := 256) hx hb dX0_writeNumber_89 (by decide) ?_
        refine lv_iload_n hx hb dX0_writeNumber_92 rfl (lv_at hl 3 rfl) ?_
        refine lv_imul hx hb dX0_writeNumber_93 ?_
        refine lv_iadd hx hb dX0_writeNumber_94 ?_
        refine lv_iload_n hx hb dX0_writeNumber_95 rfl (lv_at hl 2 rfl) ?_
        refine lv_iload_n hx hb dX0_writeNumber_96 rfl (lv_at hl 0 rfl) ?_
        refine lv_iushr (v := ush x1 (p_leastShift x1)) hx hb dX0_writeNumber_97 rfl ?_
        refine lv_iadd hx hb dX0_writeNumber_98 ?_
        obtain ⟨h_5, hok⟩ := hok
        refine k_callVv (As := [.int ((8192 + (256 * x2)) + (ush x1 (p_leastShift x1)))]) (rest := []) hzz ⟨hx, hb, hml, hown, hts⟩ (c_put l D ad cI cZ zz hzz tS hst u ((8192 + (256 * x2)) + (ush x1 (p_leastShift x1))) h_5) (cwV 1 hts (tb_V tw_2_136 tw_2_138 slX0_put tw_1_3 tw_2_139) rfl rfl rfl (by decide +kernel) ⟨Nat.le_of_ble_eq_true rfl, Nat.le_of_ble_eq_true rfl⟩) (va_recv hK hP (ci := 0) (q0 := 2) rfl rfl) rfl hl.1 rfl (lv_room (Nat.le_of_ble_eq_true rfl)) dX0_writeNumber_99 ⟨Nat.le_of_ble_eq_true rfl, Nat.le_of_ble_eq_true rfl⟩ hP hK hD hS hA hZ (fun H locs hP hD hS => ?_)
        generalize eu_6 : p_put u ((8192 + (256 * x2)) + (ush x1 (p_leastShift x1))) = u_6 at hP hD ⊢
        try rw [eu_6] at hok
        refine lv_aload_n hx hb dX0_writeNumber_102 rfl (lv_at hl 1 rfl) ?_
        refine lv_bipush (v := 64) hx hb dX0_writeNumber_103 (by decide) ?_
        refine lv_iload_n hx hb dX0_writeNumber_105 rfl (lv_at hl 0 rfl) ?_
        refine lv_imul hx hb dX0_writeNumber_106 ?_
        refine lv_bipush (v := 9) hx hb dX0_writeNumber_107 (by decide) ?_
        refine lv_iload_n hx hb dX0_writeNumber_109 rfl (lv_at hl 3 rfl) ?_
        refine lv_imul hx hb dX0_writeNumber_110 ?_
        refine lv_iadd hx hb dX0_writeNumber_111 ?_
        obtain ⟨h_7, hok⟩ := hok
        refine k_callVv (As := [.int ((64 * (p_leastShift x1)) + (9 * x2))]) (rest := []) hzz ⟨hx, hb, hml, hown, hts⟩ (c_put l D ad cI cZ zz hzz tS hst u_6 ((64 * (p_leastShift x1)) + (9 * x2)) h_7) (cwV 1 hts (tb_V tw_2_136 tw_2_138 slX0_put tw_1_3 tw_2_139) rfl rfl rfl (by decide +kernel) ⟨Nat.le_of_ble_eq_true rfl, Nat.le_of_ble_eq_true rfl⟩) (va_recv hK hP (ci := 0) (q0 := 2) rfl rfl) rfl hl.1 rfl (lv_room (Nat.le_of_ble_eq_true rfl)) dX0_writeNumber_112 ⟨Nat.le_of_ble_eq_true rfl, Nat.le_of_ble_eq_true rfl⟩ hP hK hD hS hA hZ (fun H locs hP hD hS => ?_)
        generalize eu_8 : p_put u_6 ((64 * (p_leastShift x1)) + (9 * x2)) = u_8 at hP hD ⊢
        try rw [eu_8] at hok
        have e9 : p_writeNumber u x1 x2 = u_8 := by
          subst eu_8
          subst eu_6
          rw [p_writeNumber, if_pos c_1, if_pos c_2, if_neg c_4]
        rw [e9]
        exact W.vret hx hb hr (fun t ht hW => ⟨⟨(), rfl, trivial, by rw [ht]; exact hP, va_K.moved hW.alike hK, hD⟩, hS.F ht⟩) hS.2.2 dX0_writeNumber_115
      · have hok := hok.1 c_4
        refine lv_aload_n hx hb dX0_writeNumber_78 rfl (lv_at hl 1 rfl) ?_
        refine lv_iload_n hx hb dX0_writeNumber_79 rfl (lv_at hl 2 rfl) ?_
        refine lv_iload_n hx hb dX0_writeNumber_80 rfl (lv_at hl 3 rfl) ?_
        obtain ⟨h_9, hok⟩ := hok
        refine k_callVv (As := [.int x1, .int x2]) (rest := []) hzz ⟨hx, hb, hml, hown, hts⟩ (c_writeLiteral l D ad cI cZ zz hzz tS hst u x1 x2 h_9) (cwV 2 hts (tb_V tw_2_128 tw_2_130 slX0_writeLiteral tw_1_3 tw_2_131) rfl rfl rfl (by decide +kernel) ⟨Nat.le_of_ble_eq_true rfl, Nat.le_of_ble_eq_true rfl⟩) (va_recv hK hP (ci := 0) (q0 := 2) rfl rfl) rfl hl.1 rfl (lv_room (Nat.le_of_ble_eq_true rfl)) dX0_writeNumber_81 ⟨Nat.le_of_ble_eq_true rfl, Nat.le_of_ble_eq_true rfl⟩ hP hK hD hS hA hZ (fun H locs hP hD hS => ?_)
        generalize eu_10 : p_writeLiteral u x1 x2 = u_10 at hP hD ⊢
        try rw [eu_10] at hok
        have e9 : p_writeNumber u x1 x2 = u_10 := by
          subst eu_10
          rw [p_writeNumber, if_pos c_1, if_pos c_2, if_pos c_4]
        rw [e9]
        exact W.vret hx hb hr (fun t ht hW => ⟨⟨(), rfl, trivial, by rw [ht]; exact hP, va_K.moved hW.alike hK, hD⟩, hS.F ht⟩) hS.2.2 dX0_writeNumber_84
    · have hok := hok.2 c_2
      refine lv_iload_n hx hb dX0_writeNumber_34 rfl (lv_at hl 1 rfl) ?_
      refine lv_iconst (v := (-1)) hx hb dX0_writeNumber_35 (by decide) ?_
      refine lv_icmp_gt (tgt := 69) hx hb dX0_writeNumber_36 (by decide) (fun c_11 => ?_) (fun c_11 => ?_)
      · have hok := hok.1 c_11
        refine lv_iload_n hx hb dX0_writeNumber_69 rfl (lv_at hl 1 rfl) ?_
        obtain ⟨h_12, hok⟩ := hok
        refine k_callSi (As := [.int x1]) (rest := []) hzz ⟨hx, hb, hml, hown, hts⟩ (c_leastShift l D ad cI cZ zz hzz tS hst (wT ad cI cZ u) x1 h_12) (cwS 1 hts (tb_S tw_2_157 tw_2_158 tw_1_3 tw_2_159) rfl rfl rfl (by decide +kernel) ⟨Nat.le_of_ble_eq_true rfl, Nat.le_of_ble_eq_true rfl⟩) rfl hl.1 rfl (lv_room (Nat.le_of_ble_eq_true rfl)) dX0_writeNumber_70 ⟨Nat.le_of_ble_eq_true rfl, Nat.le_of_ble_eq_true rfl⟩ hP hK hD hS hA hZ (fun H locs hP hD hS => ?_)
        refine lv_istore_n (lv' := [(3, .int (p_leastShift x1)), (0, .ref (ad 2)), (1, .int x1), (2, .int x2)]) hx hb dX0_writeNumber_73 rfl hl (by decide) rfl (fun ls hl => ?_)
        refine lv_iload_n hx hb dX0_writeNumber_74 rfl (lv_at hl 0 rfl) ?_
        refine lv_if_ne (tgt := 85) hx hb dX0_writeNumber_75 (by decide) (fun c_13 => ?_) (fun c_13 => ?_)
        · have hok := hok.2 c_13
          refine lv_aload_n hx hb dX0_writeNumber_85 rfl (lv_at hl 1 rfl) ?_
          refine lv_sipush (v := 8192) hx hb dX0_writeNumber_86 (by decide) ?_
          refine lv_sipush (v := 256) hx hb dX0_writeNumber_89 (by decide) ?_
          refine lv_iload_n hx hb dX0_writeNumber_92 rfl (lv_at hl 3 rfl) ?_
          refine lv_imul hx hb dX0_writeNumber_93 ?_
          refine lv_iadd hx hb dX0_writeNumber_94 ?_
          refine lv_iload_n hx hb dX0_writeNumber_95 rfl (lv_at hl 2 rfl) ?_
          refine lv_iload_n hx hb dX0_writeNumber_96 rfl (lv_at hl 0 rfl) ?_
          refine lv_iushr (v := ush x1 (p_leastShift x1)) hx hb dX0_writeNumber_97 rfl ?_
          refine lv_iadd hx hb dX0_writeNumber_98 ?_
          obtain ⟨h_14, hok⟩ := hok
          refine k_callVv (As := [.int ((8192 + (256 * x2)) + (ush x1 (p_leastShift x1)))]) (rest := []) hzz ⟨hx, hb, hml, hown, hts⟩ (c_put l D ad cI cZ zz hzz tS hst u ((8192 + (256 * x2)) + (ush x1 (p_leastShift x1))) h_14) (cwV 1 hts (tb_V tw_2_136 tw_2_138 slX0_put tw_1_3 tw_2_139) rfl rfl rfl (by decide +kernel) ⟨Nat.le_of_ble_eq_true rfl, Nat.le_of_ble_eq_true rfl⟩) (va_recv hK hP (ci := 0) (q0 := 2) rfl rfl) rfl hl.1 rfl (lv_room (Nat.le_of_ble_eq_true rfl)) dX0_writeNumber_99 ⟨Nat.le_of_ble_eq_true rfl, Nat.le_of_ble_eq_true rfl⟩ hP hK hD hS hA hZ (fun H locs hP hD hS => ?_)
          generalize eu_15 : p_put u ((8192 + (256 * x2)) + (ush x1 (p_leastShift x1))) = u_15 at hP hD ⊢
          try rw [eu_15] at hok
          refine lv_aload_n hx hb dX0_writeNumber_102 rfl (lv_at hl 1 rfl) ?_
          refine lv_bipush (v := 64) hx hb dX0_writeNumber_103 (by decide) ?_
          refine lv_iload_n hx hb dX0_writeNumber_105 rfl (lv_at hl 0 rfl) ?_
          refine lv_imul hx hb dX0_writeNumber_106 ?_
          refine lv_bipush (v := 9) hx hb dX0_writeNumber_107 (by decide) ?_
          refine lv_iload_n hx hb dX0_writeNumber_109 rfl (lv_at hl 3 rfl) ?_
          refine lv_imul hx hb dX0_writeNumber_110 ?_
          refine lv_iadd hx hb dX0_writeNumber_111 ?_
          obtain ⟨h_16, hok⟩ := hok
          refine k_callVv (As := [.int ((64 * (p_leastShift x1)) + (9 * x2))]) (rest := []) hzz ⟨hx, hb, hml, hown, hts⟩ (c_put l D ad cI cZ zz hzz tS hst u_15 ((64 * (p_leastShift x1)) + (9 * x2)) h_16) (cwV 1 hts (tb_V tw_2_136 tw_2_138 slX0_put tw_1_3 tw_2_139) rfl rfl rfl (by decide +kernel) ⟨Nat.le_of_ble_eq_true rfl, Nat.le_of_ble_eq_true rfl⟩) (va_recv hK hP (ci := 0) (q0 := 2) rfl rfl) rfl hl.1 rfl (lv_room (Nat.le_of_ble_eq_true rfl)) dX0_writeNumber_112 ⟨Nat.le_of_ble_eq_true rfl, Nat.le_of_ble_eq_true rfl⟩ hP hK hD hS hA hZ (fun H locs hP hD hS => ?_)
          generalize eu_17 : p_put u_15 ((64 * (p_leastShift x1)) + (9 * x2)) = u_17 at hP hD ⊢
          try rw [eu_17] at hok
          have e9 : p_writeNumber u x1 x2 = u_17 := by
            subst eu_17
            subst eu_15
            rw [p_writeNumber, if_pos c_1, if_neg c_2, if_pos c_11, if_neg c_13]
          rw [e9]
          exact W.vret hx hb hr (fun t ht hW => ⟨⟨(), rfl, trivial, by rw [ht]; exact hP, va_K.moved hW.alike hK, hD⟩, hS.F ht⟩) hS.2.2 dX0_writeNumber_115
        · have hok := hok.1 c_13
          refine lv_aload_n hx hb dX0_writeNumber_78 rfl (lv_at hl 1 rfl) ?_
          refine lv_iload_n hx hb dX0_writeNumber_79 rfl (lv_at hl 2 rfl) ?_
          refine lv_iload_n hx hb dX0_writeNumber_80 rfl (lv_at hl 3 rfl) ?_
          obtain ⟨h_18, hok⟩ := hok
          refine k_callVv (As := [.int x1, .int x2]) (rest := []) hzz ⟨hx, hb, hml, hown, hts⟩ (c_writeLiteral l D ad cI cZ zz hzz tS hst u x1 x2 h_18) (cwV 2 hts (tb_V tw_2_128 tw_2_130 slX0_writeLiteral tw_1_3 tw_2_131) rfl rfl rfl (by decide +kernel) ⟨Nat.le_of_ble_eq_true rfl, Nat.le_of_ble_eq_true rfl⟩) (va_recv hK hP (ci := 0) (q0 := 2) rfl rfl) rfl hl.1 rfl (lv_room (Nat.le_of_ble_eq_true rfl)) dX0_writeNumber_81 ⟨Nat.le_of_ble_eq_true rfl, Nat.le_of_ble_eq_true rfl⟩ hP hK hD hS hA hZ (fun H locs hP hD hS => ?_)
          generalize eu_19 : p_writeLiteral u x1 x2 = u_19 at hP hD ⊢
          try rw [eu_19] at hok
          have e9 : p_writeNumber u x1 x2 = u_19 := by
            subst eu_19
            rw [p_writeNumber, if_pos c_1, if_neg c_2, if_pos c_11, if_pos c_13]
          rw [e9]
          exact W.vret hx hb hr (fun t ht hW => ⟨⟨(), rfl, trivial, by rw [ht]; exact hP, va_K.moved hW.alike hK, hD⟩, hS.F ht⟩) hS.2.2 dX0_writeNumber_84
      · have hok := hok.2 c_11
        refine lv_aload_n hx hb dX0_writeNumber_39 rfl (lv_at hl 0 rfl) ?_
        refine lv_sipush (v := 8192) hx hb dX0_writeNumber_40 (by decide) ?_
        refine lv_sipush (v := 256) hx hb dX0_writeNumber_43 (by decide) ?_
        refine lv_iload_n hx hb dX0_writeNumber_46 rfl (lv_at hl 2 rfl) ?_
        refine lv_imul hx hb dX0_writeNumber_47 ?_
        refine lv_iadd hx hb dX0_writeNumber_48 ?_
        refine lv_iconst (v := (-1)) hx hb dX0_writeNumber_49 (by decide) ?_
        refine lv_iload_n hx hb dX0_writeNumber_50 rfl (lv_at hl 1 rfl) ?_
        refine lv_isub hx hb dX0_writeNumber_51 ?_
        refine lv_iadd hx hb dX0_writeNumber_52 ?_
        obtain ⟨h_20, hok⟩ := hok
        refine k_callVv (As := [.int ((8192 + (256 * x2)) + (((-1)) - x1))]) (rest := []) hzz ⟨hx, hb, hml, hown, hts⟩ (c_put l D ad cI cZ zz hzz tS hst u ((8192 + (256 * x2)) + (((-1)) - x1)) h_20) (cwV 1 hts (tb_V tw_2_136 tw_2_138 slX0_put tw_1_3 tw_2_139) rfl rfl rfl (by decide +kernel) ⟨Nat.le_of_ble_eq_true rfl, Nat.le_of_ble_eq_true rfl⟩) (va_recv hK hP (ci := 0) (q0 := 2) rfl rfl) rfl hl.1 rfl (lv_room (Nat.le_of_ble_eq_true rfl)) dX0_writeNumber_53 ⟨Nat.le_of_ble_eq_true rfl, Nat.le_of_ble_eq_true rfl⟩ hP hK hD hS hA hZ (fun H locs hP hD hS => ?_)
        generalize eu_21 : p_put u ((8192 + (256 * x2)) + (((-1)) - x1)) = u_21 at hP hD ⊢
        try rw [eu_21] at hok
        refine lv_aload_n hx hb dX0_writeNumber_56 rfl (lv_at hl 0 rfl) ?_
        refine lv_sipush (v := 17344) hx hb dX0_writeNumber_57 (by decide) ?_
        refine lv_bipush (v := 9) hx hb dX0_writeNumber_60 (by decide) ?_
        refine lv_iload_n hx hb dX0_writeNumber_62 rfl (lv_at hl 2 rfl) ?_
        refine lv_imul hx hb dX0_writeNumber_63 ?_
        refine lv_iadd hx hb dX0_writeNumber_64 ?_
        obtain ⟨h_22, hok⟩ := hok
        refine k_callVv (As := [.int (17344 + (9 * x2))]) (rest := []) hzz ⟨hx, hb, hml, hown, hts⟩ (c_put l D ad cI cZ zz hzz tS hst u_21 (17344 + (9 * x2)) h_22) (cwV 1 hts (tb_V tw_2_136 tw_2_138 slX0_put tw_1_3 tw_2_139) rfl rfl rfl (by decide +kernel) ⟨Nat.le_of_ble_eq_true rfl, Nat.le_of_ble_eq_true rfl⟩) (va_recv hK hP (ci := 0) (q0 := 2) rfl rfl) rfl hl.1 rfl (lv_room (Nat.le_of_ble_eq_true rfl)) dX0_writeNumber_65 ⟨Nat.le_of_ble_eq_true rfl, Nat.le_of_ble_eq_true rfl⟩ hP hK hD hS hA hZ (fun H locs hP hD hS => ?_)
        generalize eu_23 : p_put u_21 (17344 + (9 * x2)) = u_23 at hP hD ⊢
        try rw [eu_23] at hok
        have e9 : p_writeNumber u x1 x2 = u_23 := by
          subst eu_23
          subst eu_21
          rw [p_writeNumber, if_pos c_1, if_neg c_2, if_neg c_11]
        rw [e9]
        exact W.vret hx hb hr (fun t ht hW => ⟨⟨(), rfl, trivial, by rw [ht]; exact hP, va_K.moved hW.alike hK, hD⟩, hS.F ht⟩) hS.2.2 dX0_writeNumber_68
  · have hok := hok.2 c_1
    refine lv_iload_n hx hb dX0_writeNumber_4 rfl (lv_at hl 1 rfl) ?_
    refine lv_sipush (v := 255) hx hb dX0_writeNumber_5 (by decide) ?_
    refine lv_icmp_gt (tgt := 27) hx hb dX0_writeNumber_8 (by decide) (fun c_24 => ?_) (fun c_24 => ?_)
    · have hok := hok.1 c_24
      refine lv_iload_n hx hb dX0_writeNumber_27 rfl (lv_at hl 1 rfl) ?_
      refine lv_sipush (v := (-256)) hx hb dX0_writeNumber_28 (by decide) ?_
      refine lv_icmp_lt (tgt := 69) hx hb dX0_writeNumber_31 (by decide) (fun c_25 => ?_) (fun c_25 => ?_)
      · have hok := hok.1 c_25
        refine lv_iload_n hx hb dX0_writeNumber_69 rfl (lv_at hl 1 rfl) ?_
        obtain ⟨h_26, hok⟩ := hok
        refine k_callSi (As := [.int x1]) (rest := []) hzz ⟨hx, hb, hml, hown, hts⟩ (c_leastShift l D ad cI cZ zz hzz tS hst (wT ad cI cZ u) x1 h_26) (cwS 1 hts (tb_S tw_2_157 tw_2_158 tw_1_3 tw_2_159) rfl rfl rfl (by decide +kernel) ⟨Nat.le_of_ble_eq_true rfl, Nat.le_of_ble_eq_true rfl⟩) rfl hl.1 rfl (lv_room (Nat.le_of_ble_eq_true rfl)) dX0_writeNumber_70 ⟨Nat.le_of_ble_eq_true rfl, Nat.le_of_ble_eq_true rfl⟩ hP hK hD hS hA hZ (fun H locs hP hD hS => ?_)
        refine lv_istore_n (lv' := [(3, .int (p_leastShift x1)), (0, .ref (ad 2)), (1, .int x1), (2, .int x2)]) hx hb dX0_writeNumber_73 rfl hl (by decide) rfl (fun ls hl => ?_)
        refine lv_iload_n hx hb dX0_writeNumber_74 rfl (lv_at hl 0 rfl) ?_
        refine lv_if_ne (tgt := 85) hx hb dX0_writeNumber_75 (by decide) (fun c_27 => ?_) (fun c_27 => ?_)
        · have hok := hok.2 c_27
          refine lv_aload_n hx hb dX0_writeNumber_85 rfl (lv_at hl 1 rfl) ?_
          refine lv_sipush (v := 8192) hx hb dX0_writeNumber_86 (by decide) ?_
          refine lv_sipush (v := 256) hx hb dX0_writeNumber_89 (by decide) ?_
          refine lv_iload_n hx hb dX0_writeNumber_92 rfl (lv_at hl 3 rfl) ?_
          refine lv_imul hx hb dX0_writeNumber_93 ?_
          refine lv_iadd hx hb dX0_writeNumber_94 ?_
          refine lv_iload_n hx hb dX0_writeNumber_95 rfl (lv_at hl 2 rfl) ?_
          refine lv_iload_n hx hb dX0_writeNumber_96 rfl (lv_at hl 0 rfl) ?_
          refine lv_iushr (v := ush x1 (p_leastShift x1)) hx hb dX0_writeNumber_97 rfl ?_
          refine lv_iadd hx hb dX0_writeNumber_98 ?_
          obtain ⟨h_28, hok⟩ := hok
          refine k_callVv (As := [.int ((8192 + (256 * x2)) + (ush x1 (p_leastShift x1)))]) (rest := []) hzz ⟨hx, hb, hml, hown, hts⟩ (c_put l D ad cI cZ zz hzz tS hst u ((8192 + (256 * x2)) + (ush x1 (p_leastShift x1))) h_28) (cwV 1 hts (tb_V tw_2_136 tw_2_138 slX0_put tw_1_3 tw_2_139) rfl rfl rfl (by decide +kernel) ⟨Nat.le_of_ble_eq_true rfl, Nat.le_of_ble_eq_true rfl⟩) (va_recv hK hP (ci := 0) (q0 := 2) rfl rfl) rfl hl.1 rfl (lv_room (Nat.le_of_ble_eq_true rfl)) dX0_writeNumber_99 ⟨Nat.le_of_ble_eq_true rfl, Nat.le_of_ble_eq_true rfl⟩ hP hK hD hS hA hZ (fun H locs hP hD hS => ?_)
          generalize eu_29 : p_put u ((8192 + (256 * x2)) + (ush x1 (p_leastShift x1))) = u_29 at hP hD ⊢
          try rw [eu_29] at hok
          refine lv_aload_n hx hb dX0_writeNumber_102 rfl (lv_at hl 1 rfl) ?_
          refine lv_bipush (v := 64) hx hb dX0_writeNumber_103 (by decide) ?_
          refine lv_iload_n hx hb dX0_writeNumber_105 rfl (lv_at hl 0 rfl) ?_
          refine lv_imul hx hb dX0_writeNumber_106 ?_
          refine lv_bipush (v := 9) hx hb dX0_writeNumber_107 (by decide) ?_
          refine lv_iload_n hx hb dX0_writeNumber_109 rfl (lv_at hl 3 rfl) ?_
          refine lv_imul hx hb dX0_writeNumber_110 ?_
          refine lv_iadd hx hb dX0_writeNumber_111 ?_
          obtain ⟨h_30, hok⟩ := hok
          refine k_callVv (As := [.int ((64 * (p_leastShift x1)) + (9 * x2))]) (rest := []) hzz ⟨hx, hb, hml, hown, hts⟩ (c_put l D ad cI cZ zz hzz tS hst u_29 ((64 * (p_leastShift x1)) + (9 * x2)) h_30) (cwV 1 hts (tb_V tw_2_136 tw_2_138 slX0_put tw_1_3 tw_2_139) rfl rfl rfl (by decide +kernel) ⟨Nat.le_of_ble_eq_true rfl, Nat.le_of_ble_eq_true rfl⟩) (va_recv hK hP (ci := 0) (q0 := 2) rfl rfl) rfl hl.1 rfl (lv_room (Nat.le_of_ble_eq_true rfl)) dX0_writeNumber_112 ⟨Nat.le_of_ble_eq_true rfl, Nat.le_of_ble_eq_true rfl⟩ hP hK hD hS hA hZ (fun H locs hP hD hS => ?_)
          generalize eu_31 : p_put u_29 ((64 * (p_leastShift x1)) + (9 * x2)) = u_31 at hP hD ⊢
          try rw [eu_31] at hok
          have e9 : p_writeNumber u x1 x2 = u_31 := by
            subst eu_31
            subst eu_29
            rw [p_writeNumber, if_neg c_1, if_pos c_24, if_pos c_25, if_neg c_27]
          rw [e9]
          exact W.vret hx hb hr (fun t ht hW => ⟨⟨(), rfl, trivial, by rw [ht]; exact hP, va_K.moved hW.alike hK, hD⟩, hS.F ht⟩) hS.2.2 dX0_writeNumber_115
        · have hok := hok.1 c_27
          refine lv_aload_n hx hb dX0_writeNumber_78 rfl (lv_at hl 1 rfl) ?_
          refine lv_iload_n hx hb dX0_writeNumber_79 rfl (lv_at hl 2 rfl) ?_
          refine lv_iload_n hx hb dX0_writeNumber_80 rfl (lv_at hl 3 rfl) ?_
          obtain ⟨h_32, hok⟩ := hok
          refine k_callVv (As := [.int x1, .int x2]) (rest := []) hzz ⟨hx, hb, hml, hown, hts⟩ (c_writeLiteral l D ad cI cZ zz hzz tS hst u x1 x2 h_32) (cwV 2 hts (tb_V tw_2_128 tw_2_130 slX0_writeLiteral tw_1_3 tw_2_131) rfl rfl rfl (by decide +kernel) ⟨Nat.le_of_ble_eq_true rfl, Nat.le_of_ble_eq_true rfl⟩) (va_recv hK hP (ci := 0) (q0 := 2) rfl rfl) rfl hl.1 rfl (lv_room (Nat.le_of_ble_eq_true rfl)) dX0_writeNumber_81 ⟨Nat.le_of_ble_eq_true rfl, Nat.le_of_ble_eq_true rfl⟩ hP hK hD hS hA hZ (fun H locs hP hD hS => ?_)
          generalize eu_33 : p_writeLiteral u x1 x2 = u_33 at hP hD ⊢
          try rw [eu_33] at hok
          have e9 : p_writeNumber u x1 x2 = u_33 := by
            subst eu_33
            rw [p_writeNumber, if_neg c_1, if_pos c_24, if_pos c_25, if_pos c_27]
          rw [e9]
          exact W.vret hx hb hr (fun t ht hW => ⟨⟨(), rfl, trivial, by rw [ht]; exact hP, va_K.moved hW.alike hK, hD⟩, hS.F ht⟩) hS.2.2 dX0_writeNumber_84
      · have hok := hok.2 c_25
        refine lv_iload_n hx hb dX0_writeNumber_34 rfl (lv_at hl 1 rfl) ?_
        refine lv_iconst (v := (-1)) hx hb dX0_writeNumber_35 (by decide) ?_
        refine lv_icmp_gt (tgt := 69) hx hb dX0_writeNumber_36 (by decide) (fun c_34 => ?_) (fun c_34 => ?_)
        · have hok := hok.1 c_34
          refine lv_iload_n hx hb dX0_writeNumber_69 rfl (lv_at hl 1 rfl) ?_
          obtain ⟨h_35, hok⟩ := hok
          refine k_callSi (As := [.int x1]) (rest := []) hzz ⟨hx, hb, hml, hown, hts⟩ (c_leastShift l D ad cI cZ zz hzz tS hst (wT ad cI cZ u) x1 h_35) (cwS 1 hts (tb_S tw_2_157 tw_2_158 tw_1_3 tw_2_159) rfl rfl rfl (by decide +kernel) ⟨Nat.le_of_ble_eq_true rfl, Nat.le_of_ble_eq_true rfl⟩) rfl hl.1 rfl (lv_room (Nat.le_of_ble_eq_true rfl)) dX0_writeNumber_70 ⟨Nat.le_of_ble_eq_true rfl, Nat.le_of_ble_eq_true rfl⟩ hP hK hD hS hA hZ (fun H locs hP hD hS => ?_)
          refine lv_istore_n (lv' := [(3, .int (p_leastShift x1)), (0, .ref (ad 2)), (1, .int x1), (2, .int x2)]) hx hb dX0_writeNumber_73 rfl hl (by decide) rfl (fun ls hl => ?_)
          refine lv_iload_n hx hb dX0_writeNumber_74 rfl (lv_at hl 0 rfl) ?_
          refine lv_if_ne (tgt := 85) hx hb dX0_writeNumber_75 (by decide) (fun c_36 => ?_) (fun c_36 => ?_)
          · have hok := hok.2 c_36
            refine lv_aload_n hx hb dX0_writeNumber_85 rfl (lv_at hl 1 rfl) ?_
            refine lv_sipush (v := 8192) hx hb dX0_writeNumber_86 (by decide) ?_
            refine lv_sipush (v := 256) hx hb dX0_writeNumber_89 (by decide) ?_
            refine lv_iload_n hx hb dX0_writeNumber_92 rfl (lv_at hl 3 rfl) ?_
            refine lv_imul hx hb dX0_writeNumber_93 ?_
            refine lv_iadd hx hb dX0_writeNumber_94 ?_
            refine lv_iload_n hx hb dX0_writeNumber_95 rfl (lv_at hl 2 rfl) ?_
            refine lv_iload_n hx hb dX0_writeNumber_96 rfl (lv_at hl 0 rfl) ?_
            refine lv_iushr (v := ush x1 (p_leastShift x1)) hx hb dX0_writeNumber_97 rfl ?_
            refine lv_iadd hx hb dX0_writeNumber_98 ?_
            obtain ⟨h_37, hok⟩ := hok
            refine k_callVv (As := [.int ((8192 + (256 * x2)) + (ush x1 (p_leastShift x1)))]) (rest := []) hzz ⟨hx, hb, hml, hown, hts⟩ (c_put l D ad cI cZ zz hzz tS hst u ((8192 + (256 * x2)) + (ush x1 (p_leastShift x1))) h_37) (cwV 1 hts (tb_V tw_2_136 tw_2_138 slX0_put tw_1_3 tw_2_139) rfl rfl rfl (by decide +kernel) ⟨Nat.le_of_ble_eq_true rfl, Nat.le_of_ble_eq_true rfl⟩) (va_recv hK hP (ci := 0) (q0 := 2) rfl rfl) rfl hl.1 rfl (lv_room (Nat.le_of_ble_eq_true rfl)) dX0_writeNumber_99 ⟨Nat.le_of_ble_eq_true rfl, Nat.le_of_ble_eq_true rfl⟩ hP hK hD hS hA hZ (fun H locs hP hD hS => ?_)
            generalize eu_38 : p_put u ((8192 + (256 * x2)) + (ush x1 (p_leastShift x1))) = u_38 at hP hD ⊢
            try rw [eu_38] at hok
            refine lv_aload_n hx hb dX0_writeNumber_102 rfl (lv_at hl 1 rfl) ?_
            refine lv_bipush (v := 64) hx hb dX0_writeNumber_103 (by decide) ?_
            refine lv_iload_n hx hb dX0_writeNumber_105 rfl (lv_at hl 0 rfl) ?_
            refine lv_imul hx hb dX0_writeNumber_106 ?_
            refine lv_bipush (v := 9) hx hb dX0_writeNumber_107 (by decide) ?_
            refine lv_iload_n hx hb dX0_writeNumber_109 rfl (lv_at hl 3 rfl) ?_
            refine lv_imul hx hb dX0_writeNumber_110 ?_
            refine lv_iadd hx hb dX0_writeNumber_111 ?_
            obtain ⟨h_39, hok⟩ := hok
            refine k_callVv (As := [.int ((64 * (p_leastShift x1)) + (9 * x2))]) (rest := []) hzz ⟨hx, hb, hml, hown, hts⟩ (c_put l D ad cI cZ zz hzz tS hst u_38 ((64 * (p_leastShift x1)) + (9 * x2)) h_39) (cwV 1 hts (tb_V tw_2_136 tw_2_138 slX0_put tw_1_3 tw_2_139) rfl rfl rfl (by decide +kernel) ⟨Nat.le_of_ble_eq_true rfl, Nat.le_of_ble_eq_true rfl⟩) (va_recv hK hP (ci := 0) (q0 := 2) rfl rfl) rfl hl.1 rfl (lv_room (Nat.le_of_ble_eq_true rfl)) dX0_writeNumber_112 ⟨Nat.le_of_ble_eq_true rfl, Nat.le_of_ble_eq_true rfl⟩ hP hK hD hS hA hZ (fun H locs hP hD hS => ?_)
            generalize eu_40 : p_put u_38 ((64 * (p_leastShift x1)) + (9 * x2)) = u_40 at hP hD ⊢
            try rw [eu_40] at hok
            have e9 : p_writeNumber u x1 x2 = u_40 := by
              subst eu_40
              subst eu_38
              rw [p_writeNumber, if_neg c_1, if_pos c_24, if_neg c_25, if_pos c_34, if_neg c_36]
            rw [e9]
            exact W.vret hx hb hr (fun t ht hW => ⟨⟨(), rfl, trivial, by rw [ht]; exact hP, va_K.moved hW.alike hK, hD⟩, hS.F ht⟩) hS.2.2 dX0_writeNumber_115
          · have hok := hok.1 c_36
            refine lv_aload_n hx hb dX0_writeNumber_78 rfl (lv_at hl 1 rfl) ?_
            refine lv_iload_n hx hb dX0_writeNumber_79 rfl (lv_at hl 2 rfl) ?_
            refine lv_iload_n hx hb dX0_writeNumber_80 rfl (lv_at hl 3 rfl) ?_
            obtain ⟨h_41, hok⟩ := hok
            refine k_callVv (As := [.int x1, .int x2]) (rest := []) hzz ⟨hx, hb, hml, hown, hts⟩ (c_writeLiteral l D ad cI cZ zz hzz tS hst u x1 x2 h_41) (cwV 2 hts (tb_V tw_2_128 tw_2_130 slX0_writeLiteral tw_1_3 tw_2_131) rfl rfl rfl (by decide +kernel) ⟨Nat.le_of_ble_eq_true rfl, Nat.le_of_ble_eq_true rfl⟩) (va_recv hK hP (ci := 0) (q0 := 2) rfl rfl) rfl hl.1 rfl (lv_room (Nat.le_of_ble_eq_true rfl)) dX0_writeNumber_81 ⟨Nat.le_of_ble_eq_true rfl, Nat.le_of_ble_eq_true rfl⟩ hP hK hD hS hA hZ (fun H locs hP hD hS => ?_)
            generalize eu_42 : p_writeLiteral u x1 x2 = u_42 at hP hD ⊢
            try rw [eu_42] at hok
            have e9 : p_writeNumber u x1 x2 = u_42 := by
              subst eu_42
              rw [p_writeNumber, if_neg c_1, if_pos c_24, if_neg c_25, if_pos c_34, if_pos c_36]
            rw [e9]
            exact W.vret hx hb hr (fun t ht hW => ⟨⟨(), rfl, trivial, by rw [ht]; exact hP, va_K.moved hW.alike hK, hD⟩, hS.F ht⟩) hS.2.2 dX0_writeNumber_84
        · have hok := hok.2 c_34
          refine lv_aload_n hx hb dX0_writeNumber_39 rfl (lv_at hl 0 rfl) ?_
          refine lv_sipush (v := 8192) hx hb dX0_writeNumber_40 (by decide) ?_
          refine lv_sipush (v := 256) hx hb dX0_writeNumber_43 (by decide) ?_
          refine lv_iload_n hx hb dX0_writeNumber_46 rfl (lv_at hl 2 rfl) ?_
          refine lv_imul hx hb dX0_writeNumber_47 ?_
          refine lv_iadd hx hb dX0_writeNumber_48 ?_
          refine lv_iconst (v := (-1)) hx hb dX0_writeNumber_49 (by decide) ?_
          refine lv_iload_n hx hb dX0_writeNumber_50 rfl (lv_at hl 1 rfl) ?_
          refine lv_isub hx hb dX0_writeNumber_51 ?_
          refine lv_iadd hx hb dX0_writeNumber_52 ?_
          obtain ⟨h_43, hok⟩ := hok
          refine k_callVv (As := [.int ((8192 + (256 * x2)) + (((-1)) - x1))]) (rest := []) hzz ⟨hx, hb, hml, hown, hts⟩ (c_put l D ad cI cZ zz hzz tS hst u ((8192 + (256 * x2)) + (((-1)) - x1)) h_43) (cwV 1 hts (tb_V tw_2_136 tw_2_138 slX0_put tw_1_3 tw_2_139) rfl rfl rfl (by decide +kernel) ⟨Nat.le_of_ble_eq_true rfl, Nat.le_of_ble_eq_true rfl⟩) (va_recv hK hP (ci := 0) (q0 := 2) rfl rfl) rfl hl.1 rfl (lv_room (Nat.le_of_ble_eq_true rfl)) dX0_writeNumber_53 ⟨Nat.le_of_ble_eq_true rfl, Nat.le_of_ble_eq_true rfl⟩ hP hK hD hS hA hZ (fun H locs hP hD hS => ?_)
          generalize eu_44 : p_put u ((8192 + (256 * x2)) + (((-1)) - x1)) = u_44 at hP hD ⊢
          try rw [eu_44] at hok
          refine lv_aload_n hx hb dX0_writeNumber_56 rfl (lv_at hl 0 rfl) ?_
          refine lv_sipush (v := 17344) hx hb dX0_writeNumber_57 (by decide) ?_
          refine lv_bipush (v := 9) hx hb dX0_writeNumber_60 (by decide) ?_
          refine lv_iload_n hx hb dX0_writeNumber_62 rfl (lv_at hl 2 rfl) ?_
          refine lv_imul hx hb dX0_writeNumber_63 ?_
          refine lv_iadd hx hb dX0_writeNumber_64 ?_
          obtain ⟨h_45, hok⟩ := hok
          refine k_callVv (As := [.int (17344 + (9 * x2))]) (rest := []) hzz ⟨hx, hb, hml, hown, hts⟩ (c_put l D ad cI cZ zz hzz tS hst u_44 (17344 + (9 * x2)) h_45) (cwV 1 hts (tb_V tw_2_136 tw_2_138 slX0_put tw_1_3 tw_2_139) rfl rfl rfl (by decide +kernel) ⟨Nat.le_of_ble_eq_true rfl, Nat.le_of_ble_eq_true rfl⟩) (va_recv hK hP (ci := 0) (q0 := 2) rfl rfl) rfl hl.1 rfl (lv_room (Nat.le_of_ble_eq_true rfl)) dX0_writeNumber_65 ⟨Nat.le_of_ble_eq_true rfl, Nat.le_of_ble_eq_true rfl⟩ hP hK hD hS hA hZ (fun H locs hP hD hS => ?_)
          generalize eu_46 : p_put u_44 (17344 + (9 * x2)) = u_46 at hP hD ⊢
          try rw [eu_46] at hok
          have e9 : p_writeNumber u x1 x2 = u_46 := by
            subst eu_46
            subst eu_44
            rw [p_writeNumber, if_neg c_1, if_pos c_24, if_neg c_25, if_neg c_34]
          rw [e9]
          exact W.vret hx hb hr (fun t ht hW => ⟨⟨(), rfl, trivial, by rw [ht]; exact hP, va_K.moved hW.alike hK, hD⟩, hS.F ht⟩) hS.2.2 dX0_writeNumber_68
    · have hok := hok.2 c_24
      refine lv_aload_n hx hb dX0_writeNumber_11 rfl (lv_at hl 0 rfl) ?_
      refine lv_sipush (v := 8192) hx hb dX0_writeNumber_12 (by decide) ?_
      refine lv_sipush (v := 256) hx hb dX0_writeNumber_15 (by decide) ?_
      refine lv_iload_n hx hb dX0_writeNumber_18 rfl (lv_at hl 2 rfl) ?_
      refine lv_imul hx hb dX0_writeNumber_19 ?_
      refine lv_iadd hx hb dX0_writeNumber_20 ?_
      refine lv_iload_n hx hb dX0_writeNumber_21 rfl (lv_at hl 1 rfl) ?_
      refine lv_iadd hx hb dX0_writeNumber_22 ?_
      obtain ⟨h_47, hok⟩ := hok
      refine k_callVv (As := [.int ((8192 + (256 * x2)) + x1)]) (rest := []) hzz ⟨hx, hb, hml, hown, hts⟩ (c_put l D ad cI cZ zz hzz tS hst u ((8192 + (256 * x2)) + x1) h_47) (cwV 1 hts (tb_V tw_2_136 tw_2_138 slX0_put tw_1_3 tw_2_139) rfl rfl rfl (by decide +kernel) ⟨Nat.le_of_ble_eq_true rfl, Nat.le_of_ble_eq_true rfl⟩) (va_recv hK hP (ci := 0) (q0 := 2) rfl rfl) rfl hl.1 rfl (lv_room (Nat.le_of_ble_eq_true rfl)) dX0_writeNumber_23 ⟨Nat.le_of_ble_eq_true rfl, Nat.le_of_ble_eq_true rfl⟩ hP hK hD hS hA hZ (fun H locs hP hD hS => ?_)
      generalize eu_48 : p_put u ((8192 + (256 * x2)) + x1) = u_48 at hP hD ⊢
      try rw [eu_48] at hok
      have e9 : p_writeNumber u x1 x2 = u_48 := by
        subst eu_48
        rw [p_writeNumber, if_neg c_1, if_neg c_24]
      rw [e9]
      exact W.vret hx hb hr (fun t ht hW => ⟨⟨(), rfl, trivial, by rw [ht]; exact hP, va_K.moved hW.alike hK, hD⟩, hS.F ht⟩) hS.2.2 dX0_writeNumber_26

def p_writeJump (u : St) (x1 : Int32) : St := (p_put u (57344 + ((p_distance u (u.1 3) x1) &&& 2047)))
def ok_writeJump (u : St) (x1 : Int32) : Prop := (ok_distance u (u.1 3) x1 ∧ (ok_put u (57344 + ((p_distance u (u.1 3) x1) &&& 2047)) ∧ True))
set_option maxHeartbeats 4000000 in
set_option maxRecDepth 100000 in
theorem c_writeJump (l : Launch) (D : va_G) (ad : Nat → Nat) (cI cZ : ClassId) (zz : (Nat → Prop) → State → Heap → Prop) (hzz : Zok zz) (tS : Nat) (hst : Zst zz tS) (u : St) (x1 : Int32) (hok : ok_writeJump u x1) : tfV l D vwCl (tyT cI cZ) zz yX0_writeJump wsX0_writeJump ({ frames := 1, cells := 0, slots := 0, locals := 22 } : Room) [.ref (ad 2), .int x1] (wT ad cI cZ u) (wT ad cI cZ (p_writeJump u x1)) := by
  intro sz
  unfold ok_writeJump at hok
  refine Met.ofW (cc := cX0_writeJump) (maxL := 2) (ret := none) (by decide) rfl ?_
  intro p e s m args below meth c s₁ B hml hv
  obtain ⟨rfl, hsz, hP, hK, hD0, hZ⟩ := hv
  have hx := B.exec
  have hb := B.bytes
  have hr := B.returns
  have hts := atoms_spec (ws := wsX0_writeJump) B.pre
  have hown : s.vm.findClass RX0 = some m.cls := findClass_of_methodNamed B.named
  have hlocks := B.notSynchronized
  subst hsz
  have hD := hD0.self (sz := s.heap.size)
  generalize hAe : va_A (wT ad cI cZ u) s.heap.size = A at hD hZ ⊢
  have hA : ∀ q : Nat, s.heap.size ≤ q → A q := fun q h => by rw [← hAe]; exact Or.inr h
  have hS : va_S A s.heap s.heap [] := va_S.rf
  have Cx : cxt p s m ([.ref (ad 2), .int x1] : List Value).toArray meth c cX0_writeJump 2 none wsX0_writeJump RX0 D vwCl (tyT cI cZ) zz A := ⟨hx, hb, hr, hts, hown, hlocks, hml, hK, hA, hZ⟩
  have hl := lv_entry ([.ref (ad 2), .int x1]) (n := 2) (Nat.le_of_ble_eq_true rfl)
  rw [lg_entry_eq]
  generalize (lg_sl ([.ref (ad 2), .int x1]) ++ List.replicate (2 - (lg_sl ([.ref (ad 2), .int x1])).length) Slot.unset).toArray = ls at hl ⊢
  have hl : lv_has ls 2 [(0, .ref (ad 2)), (1, .int x1)] := hl
  refine lv_aload_n hx hb dX0_writeJump_0 rfl (lv_at hl 0 rfl) ?_
  refine lv_ldc (v := 57344) hx hb hown (hts _ (tb_c tw_2_191)) dX0_writeJump_1 ?_
  refine lv_aload_n hx hb dX0_writeJump_3 rfl (lv_at hl 0 rfl) ?_
  refine lv_aload_n hx hb dX0_writeJump_4 rfl (lv_at hl 0 rfl) ?_
  refine va_get (ci := 0) (v := .int (u.1 3)) (C := RX0) (T := TX0) (N := 9) hx hb hts (ivX0 _) hown hK hP 2 rfl rfl 7 (by decide) (hts _ (tb_c tw_1_79)) (fun _ h9 => h9) rfl dX0_writeJump_5 ?_
  refine lv_iload_n hx hb dX0_writeJump_8 rfl (lv_at hl 1 rfl) ?_
  obtain ⟨h_1, hok⟩ := hok
  refine k_callVi (As := [.int (u.1 3), .int x1]) (rest := [.int 57344, .ref (ad 2)]) hzz ⟨hx, hb, hml, hown, hts⟩ (c_distance l D ad cI cZ zz hzz tS hst u (u.1 3) x1 h_1) (cwV 2 hts (tb_V tw_2_192 tw_2_194 slX0_distance tw_1_3 tw_2_195) rfl rfl rfl (by decide +kernel) ⟨Nat.le_of_ble_eq_true rfl, Nat.le_of_ble_eq_true rfl⟩) (va_recv hK hP (ci := 0) (q0 := 2) rfl rfl) rfl hl.1 rfl (lv_room (Nat.le_of_ble_eq_true rfl)) dX0_writeJump_9 ⟨Nat.le_of_ble_eq_true rfl, Nat.le_of_ble_eq_true rfl⟩ hP hK hD hS hA hZ (fun H locs hP hD hS => ?_)
  refine lv_sipush (v := 2047) hx hb dX0_writeJump_12 (by decide) ?_
  refine lv_iand hx hb dX0_writeJump_15 ?_
  refine lv_iadd hx hb dX0_writeJump_16 ?_
  obtain ⟨h_2, hok⟩ := hok
  refine k_callVv (As := [.int (57344 + ((p_distance u (u.1 3) x1) &&& 2047))]) (rest := []) hzz ⟨hx, hb, hml, hown, hts⟩ (c_put l D ad cI cZ zz hzz tS hst u (57344 + ((p_distance u (u.1 3) x1) &&& 2047)) h_2) (cwV 1 hts (tb_V tw_2_136 tw_2_138 slX0_put tw_1_3 tw_2_139) rfl rfl rfl (by decide +kernel) ⟨Nat.le_of_ble_eq_true rfl, Nat.le_of_ble_eq_true rfl⟩) (va_recv hK hP (ci := 0) (q0 := 2) rfl rfl) rfl hl.1 rfl (lv_room (Nat.le_of_ble_eq_true rfl)) dX0_writeJump_17 ⟨Nat.le_of_ble_eq_true rfl, Nat.le_of_ble_eq_true rfl⟩ hP hK hD hS hA hZ (fun H locs hP hD hS => ?_)
  generalize eu_3 : p_put u (57344 + ((p_distance u (u.1 3) x1) &&& 2047)) = u_3 at hP hD ⊢
  try rw [eu_3] at hok
  have e9 : p_writeJump u x1 = u_3 := by
    subst eu_3
    rw [p_writeJump]
  rw [e9]
  exact W.vret hx hb hr (fun t ht hW => ⟨⟨(), rfl, trivial, by rw [ht]; exact hP, va_K.moved hW.alike hK, hD⟩, hS.F ht⟩) hS.2.2 dX0_writeJump_20

def p_writeBranch (u : St) (x1 x2 x3 x4 x5 : Int32) : St := (if x5 = 0 then (p_put (p_put ((p_fetch ((p_fetch u x2 0).2) x3 1).2) ((17024 + (8 * ((p_fetch ((p_fetch u x2 0).2) x3 1).1))) + ((p_fetch u x2 0).1))) ((53248 + (256 * x1)) + ((p_distance (p_put ((p_fetch ((p_fetch u x2 0).2) x3 1).2) ((17024 + (8 * ((p_fetch ((p_fetch u x2 0).2) x3 1).1))) + ((p_fetch u x2 0).1))) ((p_put ((p_fetch ((p_fetch u x2 0).2) x3 1).2) ((17024 + (8 * ((p_fetch ((p_fetch u x2 0).2) x3 1).1))) + ((p_fetch u x2 0).1))).1 3) x4) &&& 255))) else (p_writeJump (p_put (p_put ((p_fetch ((p_fetch u x2 0).2) x3 1).2) ((17024 + (8 * ((p_fetch ((p_fetch u x2 0).2) x3 1).1))) + ((p_fetch u x2 0).1))) (53248 + (256 * (x1 ^^^ 1)))) x4))
def ok_writeBranch (u : St) (x1 x2 x3 x4 x5 : Int32) : Prop := (ok_fetch u x2 0 ∧ (ok_fetch ((p_fetch u x2 0).2) x3 1 ∧ (ok_put ((p_fetch ((p_fetch u x2 0).2) x3 1).2) ((17024 + (8 * ((p_fetch ((p_fetch u x2 0).2) x3 1).1))) + ((p_fetch u x2 0).1)) ∧ ((x5 = 0 → (ok_distance (p_put ((p_fetch ((p_fetch u x2 0).2) x3 1).2) ((17024 + (8 * ((p_fetch ((p_fetch u x2 0).2) x3 1).1))) + ((p_fetch u x2 0).1))) ((p_put ((p_fetch ((p_fetch u x2 0).2) x3 1).2) ((17024 + (8 * ((p_fetch ((p_fetch u x2 0).2) x3 1).1))) + ((p_fetch u x2 0).1))).1 3) x4 ∧ (ok_put (p_put ((p_fetch ((p_fetch u x2 0).2) x3 1).2) ((17024 + (8 * ((p_fetch ((p_fetch u x2 0).2) x3 1).1))) + ((p_fetch u x2 0).1))) ((53248 + (256 * x1)) + ((p_distance (p_put ((p_fetch ((p_fetch u x2 0).2) x3 1).2) ((17024 + (8 * ((p_fetch ((p_fetch u x2 0).2) x3 1).1))) + ((p_fetch u x2 0).1))) ((p_put ((p_fetch ((p_fetch u x2 0).2) x3 1).2) ((17024 + (8 * ((p_fetch ((p_fetch u x2 0).2) x3 1).1))) + ((p_fetch u x2 0).1))).1 3) x4) &&& 255)) ∧ True))) ∧ (¬ x5 = 0 → (ok_put (p_put ((p_fetch ((p_fetch u x2 0).2) x3 1).2) ((17024 + (8 * ((p_fetch ((p_fetch u x2 0).2) x3 1).1))) + ((p_fetch u x2 0).1))) (53248 + (256 * (x1 ^^^ 1))) ∧ (ok_writeJump (p_put (p_put ((p_fetch ((p_fetch u x2 0).2) x3 1).2) ((17024 + (8 * ((p_fetch ((p_fetch u x2 0).2) x3 1).1))) + ((p_fetch u x2 0).1))) (53248 + (256 * (x1 ^^^ 1)))) x4 ∧ True)))))))
set_option maxHeartbeats 4000000 in
set_option maxRecDepth 100000 in
theorem c_writeBranch (l : Launch) (D : va_G) (ad : Nat → Nat) (cI cZ : ClassId) (zz : (Nat → Prop) → State → Heap → Prop) (hzz : Zok zz) (tS : Nat) (hst : Zst zz tS) (u : St) (x1 x2 x3 x4 x5 : Int32) (hok : ok_writeBranch u x1 x2 x3 x4 x5) : tfV l D vwCl (tyT cI cZ) zz yX0_writeBranch wsX0_writeBranch ({ frames := 2, cells := 0, slots := 0, locals := 43 } : Room) [.ref (ad 2), .int x1, .int x2, .int x3, .int x4, .int x5] (wT ad cI cZ u) (wT ad cI cZ (p_writeBranch u x1 x2 x3 x4 x5)) := by
  intro sz
  unfold ok_writeBranch at hok
  refine Met.ofW (cc := cX0_writeBranch) (maxL := 8) (ret := none) (by decide) rfl ?_
  intro p e s m args below meth c s₁ B hml hv
  obtain ⟨rfl, hsz, hP, hK, hD0, hZ⟩ := hv
  have hx := B.exec
  have hb := B.bytes
  have hr := B.returns
  have hts := atoms_spec (ws := wsX0_writeBranch) B.pre
  have hown : s.vm.findClass RX0 = some m.cls := findClass_of_methodNamed B.named
  have hlocks := B.notSynchronized
  subst hsz
  have hD := hD0.self (sz := s.heap.size)
  generalize hAe : va_A (wT ad cI cZ u) s.heap.size = A at hD hZ ⊢
  have hA : ∀ q : Nat, s.heap.size ≤ q → A q := fun q h => by rw [← hAe]; exact Or.inr h
  have hS : va_S A s.heap s.heap [] := va_S.rf
  have Cx : cxt p s m ([.ref (ad 2), .int x1, .int x2, .int x3, .int x4, .int x5] : List Value).toArray meth c cX0_writeBranch 8 none wsX0_writeBranch RX0 D vwCl (tyT cI cZ) zz A := ⟨hx, hb, hr, hts, hown, hlocks, hml, hK, hA, hZ⟩
  have hl := lv_entry ([.ref (ad 2), .int x1, .int x2, .int x3, .int x4, .int x5]) (n := 8) (Nat.le_of_ble_eq_true rfl)
  rw [lg_entry_eq]
  generalize (lg_sl ([.ref (ad 2), .int x1, .int x2, .int x3, .int x4, .int x5]) ++ List.replicate (8 - (lg_sl ([.ref (ad 2), .int x1, .int x2, .int x3, .int x4, .int x5])).length) Slot.unset).toArray = ls at hl ⊢
  have hl : lv_has ls 8 [(0, .ref (ad 2)), (1, .int x1), (2, .int x2), (3, .int x3), (4, .int x4), (5, .int x5)] := hl
  refine lv_aload_n hx hb dX0_writeBranch_0 rfl (lv_at hl 0 rfl) ?_
  refine lv_iload_n hx hb dX0_writeBranch_1 rfl (lv_at hl 2 rfl) ?_
  refine lv_iconst (v := 0) hx hb dX0_writeBranch_2 (by decide) ?_
  obtain ⟨h_1, hok⟩ := hok
  refine k_callVi (As := [.int x2, .int 0]) (rest := []) hzz ⟨hx, hb, hml, hown, hts⟩ (c_fetch l D ad cI cZ zz hzz tS hst u x2 0 h_1) (cwV 2 hts (tb_V tw_2_172 tw_2_174 slX0_fetch tw_1_3 tw_2_175) rfl rfl rfl (by decide +kernel) ⟨Nat.le_of_ble_eq_true rfl, Nat.le_of_ble_eq_true rfl⟩) (va_recv hK hP (ci := 0) (q0 := 2) rfl rfl) rfl hl.1 rfl (lv_room (Nat.le_of_ble_eq_true rfl)) dX0_writeBranch_3 ⟨Nat.le_of_ble_eq_true rfl, Nat.le_of_ble_eq_true rfl⟩ hP hK hD hS hA hZ (fun H locs hP hD hS => ?_)
  generalize eu_2 : (p_fetch u x2 0).2 = u_2 at hP hD ⊢
  try rw [eu_2] at hok
  refine lv_istore (lv' := [(6, .int ((p_fetch u x2 0).1)), (0, .ref (ad 2)), (1, .int x1), (2, .int x2), (3, .int x3), (4, .int x4), (5, .int x5)]) hx hb dX0_writeBranch_6 hl (by decide) rfl (fun ls hl => ?_)
  refine lv_aload_n hx hb dX0_writeBranch_8 rfl (lv_at hl 1 rfl) ?_
  refine lv_iload_n hx hb dX0_writeBranch_9 rfl (lv_at hl 4 rfl) ?_
  refine lv_iconst (v := 1) hx hb dX0_writeBranch_10 (by decide) ?_
  obtain ⟨h_3, hok⟩ := hok
  refine k_callVi (As := [.int x3, .int 1]) (rest := []) hzz ⟨hx, hb, hml, hown, hts⟩ (c_fetch l D ad cI cZ zz hzz tS hst u_2 x3 1 h_3) (cwV 2 hts (tb_V tw_2_172 tw_2_174 slX0_fetch tw_1_3 tw_2_175) rfl rfl rfl (by decide +kernel) ⟨Nat.le_of_ble_eq_true rfl, Nat.le_of_ble_eq_true rfl⟩) (va_recv hK hP (ci := 0) (q0 := 2) rfl rfl) rfl hl.1 rfl (lv_room (Nat.le_of_ble_eq_true rfl)) dX0_writeBranch_11 ⟨Nat.le_of_ble_eq_true rfl, Nat.le_of_ble_eq_true rfl⟩ hP hK hD hS hA hZ (fun H locs hP hD hS => ?_)
  generalize eu_4 : (p_fetch u_2 x3 1).2 = u_4 at hP hD ⊢
  try rw [eu_4] at hok
  refine lv_istore (lv' := [(7, .int ((p_fetch u_2 x3 1).1)), (6, .int ((p_fetch u x2 0).1)), (0, .ref (ad 2)), (1, .int x1), (2, .int x2), (3, .int x3), (4, .int x4), (5, .int x5)]) hx hb dX0_writeBranch_14 hl (by decide) rfl (fun ls hl => ?_)
  refine lv_aload_n hx hb dX0_writeBranch_16 rfl (lv_at hl 2 rfl) ?_
  refine lv_sipush (v := 17024) hx hb dX0_writeBranch_17 (by decide) ?_
  refine lv_bipush (v := 8) hx hb dX0_writeBranch_20 (by decide) ?_
  refine lv_iload hx hb dX0_writeBranch_22 (lv_at hl 0 rfl) ?_
  refine lv_imul hx hb dX0_writeBranch_24 ?_
  refine lv_iadd hx hb dX0_writeBranch_25 ?_
  refine lv_iload hx hb dX0_writeBranch_26 (lv_at hl 1 rfl) ?_
  refine lv_iadd hx hb dX0_writeBranch_28 ?_
  obtain ⟨h_5, hok⟩ := hok
  refine k_callVv (As := [.int ((17024 + (8 * ((p_fetch u_2 x3 1).1))) + ((p_fetch u x2 0).1))]) (rest := []) hzz ⟨hx, hb, hml, hown, hts⟩ (c_put l D ad cI cZ zz hzz tS hst u_4 ((17024 + (8 * ((p_fetch u_2 x3 1).1))) + ((p_fetch u x2 0).1)) h_5) (cwV 1 hts (tb_V tw_2_136 tw_2_138 slX0_put tw_1_3 tw_2_139) rfl rfl rfl (by decide +kernel) ⟨Nat.le_of_ble_eq_true rfl, Nat.le_of_ble_eq_true rfl⟩) (va_recv hK hP (ci := 0) (q0 := 2) rfl rfl) rfl hl.1 rfl (lv_room (Nat.le_of_ble_eq_true rfl)) dX0_writeBranch_29 ⟨Nat.le_of_ble_eq_true rfl, Nat.le_of_ble_eq_true rfl⟩ hP hK hD hS hA hZ (fun H locs hP hD hS => ?_)
  generalize eu_6 : p_put u_4 ((17024 + (8 * ((p_fetch u_2 x3 1).1))) + ((p_fetch u x2 0).1)) = u_6 at hP hD ⊢
  try rw [eu_6] at hok
  refine lv_iload hx hb dX0_writeBranch_32 (lv_at hl 7 rfl) ?_
  refine lv_if_eq (tgt := 60) hx hb dX0_writeBranch_34 (by decide) (fun c_7 => ?_) (fun c_7 => ?_)
  · have hok := hok.1 c_7
    refine lv_aload_n hx hb dX0_writeBranch_60 rfl (lv_at hl 2 rfl) ?_
    refine lv_ldc (v := 53248) hx hb hown (hts _ (tb_c tw_2_200)) dX0_writeBranch_61 ?_
    refine lv_sipush (v := 256) hx hb dX0_writeBranch_63 (by decide) ?_
    refine lv_iload_n hx hb dX0_writeBranch_66 rfl (lv_at hl 3 rfl) ?_
    refine lv_imul hx hb dX0_writeBranch_67 ?_
    refine lv_iadd hx hb dX0_writeBranch_68 ?_
    refine lv_aload_n hx hb dX0_writeBranch_69 rfl (lv_at hl 2 rfl) ?_
    refine lv_aload_n hx hb dX0_writeBranch_70 rfl (lv_at hl 2 rfl) ?_
    refine va_get (ci := 0) (v := .int (u_6.1 3)) (C := RX0) (T := TX0) (N := 9) hx hb hts (ivX0 _) hown hK hP 2 rfl rfl 7 (by decide) (hts _ (tb_c tw_1_79)) (fun _ h9 => h9) rfl dX0_writeBranch_71 ?_
    refine lv_iload hx hb dX0_writeBranch_74 (lv_at hl 6 rfl) ?_
    obtain ⟨h_8, hok⟩ := hok
    refine k_callVi (As := [.int (u_6.1 3), .int x4]) (rest := [.int (53248 + (256 * x1)), .ref (ad 2)]) hzz ⟨hx, hb, hml, hown, hts⟩ (c_distance l D ad cI cZ zz hzz tS hst u_6 (u_6.1 3) x4 h_8) (cwV 2 hts (tb_V tw_2_192 tw_2_194 slX0_distance tw_1_3 tw_2_195) rfl rfl rfl (by decide +kernel) ⟨Nat.le_of_ble_eq_true rfl, Nat.le_of_ble_eq_true rfl⟩) (va_recv hK hP (ci := 0) (q0 := 2) rfl rfl) rfl hl.1 rfl (lv_room (Nat.le_of_ble_eq_true rfl)) dX0_writeBranch_76 ⟨Nat.le_of_ble_eq_true rfl, Nat.le_of_ble_eq_true rfl⟩ hP hK hD hS hA hZ (fun H locs hP hD hS => ?_)
    refine lv_sipush (v := 255) hx hb dX0_writeBranch_79 (by decide) ?_
    refine lv_iand hx hb dX0_writeBranch_82 ?_
    refine lv_iadd hx hb dX0_writeBranch_83 ?_
    obtain ⟨h_9, hok⟩ := hok
    refine k_callVv (As := [.int ((53248 + (256 * x1)) + ((p_distance u_6 (u_6.1 3) x4) &&& 255))]) (rest := []) hzz ⟨hx, hb, hml, hown, hts⟩ (c_put l D ad cI cZ zz hzz tS hst u_6 ((53248 + (256 * x1)) + ((p_distance u_6 (u_6.1 3) x4) &&& 255)) h_9) (cwV 1 hts (tb_V tw_2_136 tw_2_138 slX0_put tw_1_3 tw_2_139) rfl rfl rfl (by decide +kernel) ⟨Nat.le_of_ble_eq_true rfl, Nat.le_of_ble_eq_true rfl⟩) (va_recv hK hP (ci := 0) (q0 := 2) rfl rfl) rfl hl.1 rfl (lv_room (Nat.le_of_ble_eq_true rfl)) dX0_writeBranch_84 ⟨Nat.le_of_ble_eq_true rfl, Nat.le_of_ble_eq_true rfl⟩ hP hK hD hS hA hZ (fun H locs hP hD hS => ?_)
    generalize eu_10 : p_put u_6 ((53248 + (256 * x1)) + ((p_distance u_6 (u_6.1 3) x4) &&& 255)) = u_10 at hP hD ⊢
    try rw [eu_10] at hok
    have e9 : p_writeBranch u x1 x2 x3 x4 x5 = u_10 := by
      subst eu_10
      subst eu_6
      subst eu_4
      subst eu_2
      rw [p_writeBranch, if_pos c_7]
    rw [e9]
    exact W.vret hx hb hr (fun t ht hW => ⟨⟨(), rfl, trivial, by rw [ht]; exact hP, va_K.moved hW.alike hK, hD⟩, hS.F ht⟩) hS.2.2 dX0_writeBranch_87
  · have hok := hok.2 c_7
    refine lv_aload_n hx hb dX0_writeBranch_37 rfl (lv_at hl 2 rfl) ?_
    refine lv_ldc (v := 53248) hx hb hown (hts _ (tb_c tw_2_200)) dX0_writeBranch_38 ?_
    refine lv_sipush (v := 256) hx hb dX0_writeBranch_40 (by decide) ?_
    refine lv_iload_n hx hb dX0_writeBranch_43 rfl (lv_at hl 3 rfl) ?_
    refine lv_iconst (v := 1) hx hb dX0_writeBranch_44 (by decide) ?_
    refine lv_ixor hx hb dX0_writeBranch_45 ?_
    refine lv_imul hx hb dX0_writeBranch_46 ?_
    refine lv_iadd hx hb dX0_writeBranch_47 ?_
    obtain ⟨h_11, hok⟩ := hok
    refine k_callVv (As := [.int (53248 + (256 * (x1 ^^^ 1)))]) (rest := []) hzz ⟨hx, hb, hml, hown, hts⟩ (c_put l D ad cI cZ zz hzz tS hst u_6 (53248 + (256 * (x1 ^^^ 1))) h_11) (cwV 1 hts (tb_V tw_2_136 tw_2_138 slX0_put tw_1_3 tw_2_139) rfl rfl rfl (by decide +kernel) ⟨Nat.le_of_ble_eq_true rfl, Nat.le_of_ble_eq_true rfl⟩) (va_recv hK hP (ci := 0) (q0 := 2) rfl rfl) rfl hl.1 rfl (lv_room (Nat.le_of_ble_eq_true rfl)) dX0_writeBranch_48 ⟨Nat.le_of_ble_eq_true rfl, Nat.le_of_ble_eq_true rfl⟩ hP hK hD hS hA hZ (fun H locs hP hD hS => ?_)
    generalize eu_12 : p_put u_6 (53248 + (256 * (x1 ^^^ 1))) = u_12 at hP hD ⊢
    try rw [eu_12] at hok
    refine lv_aload_n hx hb dX0_writeBranch_51 rfl (lv_at hl 2 rfl) ?_
    refine lv_iload hx hb dX0_writeBranch_52 (lv_at hl 6 rfl) ?_
    obtain ⟨h_13, hok⟩ := hok
    refine k_callVv (As := [.int x4]) (rest := []) hzz ⟨hx, hb, hml, hown, hts⟩ (c_writeJump l D ad cI cZ zz hzz tS hst u_12 x4 h_13) (cwV 1 hts (tb_V tw_2_187 tw_2_189 slX0_writeJump tw_1_3 tw_2_190) rfl rfl rfl (by decide +kernel) ⟨Nat.le_of_ble_eq_true rfl, Nat.le_of_ble_eq_true rfl⟩) (va_recv hK hP (ci := 0) (q0 := 2) rfl rfl) rfl hl.1 rfl (lv_room (Nat.le_of_ble_eq_true rfl)) dX0_writeBranch_54 ⟨Nat.le_of_ble_eq_true rfl, Nat.le_of_ble_eq_true rfl⟩ hP hK hD hS hA hZ (fun H locs hP hD hS => ?_)
    generalize eu_14 : p_writeJump u_12 x4 = u_14 at hP hD ⊢
    try rw [eu_14] at hok
    refine lv_goto (tgt := 87) hx hb dX0_writeBranch_57 (by decide) ?_
    have e9 : p_writeBranch u x1 x2 x3 x4 x5 = u_14 := by
      subst eu_14
      subst eu_12
      subst eu_6
      subst eu_4
      subst eu_2
      rw [p_writeBranch, if_neg c_7]
    rw [e9]
    exact W.vret hx hb hr (fun t ht hW => ⟨⟨(), rfl, trivial, by rw [ht]; exact hP, va_K.moved hW.alike hK, hD⟩, hS.F ht⟩) hS.2.2 dX0_writeBranch_87

def p_writeWordChoice (u : St) (x1 : Int32) : St := (p_put (p_put (p_put ((p_fetch u x1 0).2) 8455) (16385 + (8 * ((p_fetch u x1 0).1)))) 137)
def ok_writeWordChoice (u : St) (x1 : Int32) : Prop := (ok_fetch u x1 0 ∧ (ok_put ((p_fetch u x1 0).2) 8455 ∧ (ok_put (p_put ((p_fetch u x1 0).2) 8455) (16385 + (8 * ((p_fetch u x1 0).1))) ∧ (ok_put (p_put (p_put ((p_fetch u x1 0).2) 8455) (16385 + (8 * ((p_fetch u x1 0).1)))) 137 ∧ True))))
set_option maxHeartbeats 4000000 in
set_option maxRecDepth 100000 in
theorem c_writeWordChoice (l : Launch) (D : va_G) (ad : Nat → Nat) (cI cZ : ClassId) (zz : (Nat → Prop) → State → Heap → Prop) (hzz : Zok zz) (tS : Nat) (hst : Zst zz tS) (u : St) (x1 : Int32) (hok : ok_writeWordChoice u x1) : tfV l D vwCl (tyT cI cZ) zz yX0_writeWordChoice wsX0_writeWordChoice ({ frames := 2, cells := 0, slots := 0, locals := 43 } : Room) [.ref (ad 2), .int x1] (wT ad cI cZ u) (wT ad cI cZ (p_writeWordChoice u x1)) := by
  intro sz
  unfold ok_writeWordChoice at hok
  refine Met.ofW (cc := cX0_writeWordChoice) (maxL := 3) (ret := none) (by decide) rfl ?_
  intro p e s m args below meth c s₁ B hml hv
  obtain ⟨rfl, hsz, hP, hK, hD0, hZ⟩ := hv
  have hx := B.exec
  have hb := B.bytes
  have hr := B.returns
  have hts := atoms_spec (ws := wsX0_writeWordChoice) B.pre
  have hown : s.vm.findClass RX0 = some m.cls := findClass_of_methodNamed B.named
  have hlocks := B.notSynchronized
  subst hsz
  have hD := hD0.self (sz := s.heap.size)
  generalize hAe : va_A (wT ad cI cZ u) s.heap.size = A at hD hZ ⊢
  have hA : ∀ q : Nat, s.heap.size ≤ q → A q := fun q h => by rw [← hAe]; exact Or.inr h
  have hS : va_S A s.heap s.heap [] := va_S.rf
  have Cx : cxt p s m ([.ref (ad 2), .int x1] : List Value).toArray meth c cX0_writeWordChoice 3 none wsX0_writeWordChoice RX0 D vwCl (tyT cI cZ) zz A := ⟨hx, hb, hr, hts, hown, hlocks, hml, hK, hA, hZ⟩
  have hl := lv_entry ([.ref (ad 2), .int x1]) (n := 3) (Nat.le_of_ble_eq_true rfl)
  rw [lg_entry_eq]
  generalize (lg_sl ([.ref (ad 2), .int x1]) ++ List.replicate (3 - (lg_sl ([.ref (ad 2), .int x1])).length) Slot.unset).toArray = ls at hl ⊢
  have hl : lv_has ls 3 [(0, .ref (ad 2)), (1, .int x1)] := hl
  refine lv_aload_n hx hb dX0_writeWordChoice_0 rfl (lv_at hl 0 rfl) ?_
  refine lv_iload_n hx hb dX0_writeWordChoice_1 rfl (lv_at hl 1 rfl) ?_
  refine lv_iconst (v := 0) hx hb dX0_writeWordChoice_2 (by decide) ?_
  obtain ⟨h_1, hok⟩ := hok
  refine k_callVi (As := [.int x1, .int 0]) (rest := []) hzz ⟨hx, hb, hml, hown, hts⟩ (c_fetch l D ad cI cZ zz hzz tS hst u x1 0 h_1) (cwV 2 hts (tb_V tw_2_172 tw_2_174 slX0_fetch tw_1_3 tw_2_175) rfl rfl rfl (by decide +kernel) ⟨Nat.le_of_ble_eq_true rfl, Nat.le_of_ble_eq_true rfl⟩) (va_recv hK hP (ci := 0) (q0 := 2) rfl rfl) rfl hl.1 rfl (lv_room (Nat.le_of_ble_eq_true rfl)) dX0_writeWordChoice_3 ⟨Nat.le_of_ble_eq_true rfl, Nat.le_of_ble_eq_true rfl⟩ hP hK hD hS hA hZ (fun H locs hP hD hS => ?_)
  generalize eu_2 : (p_fetch u x1 0).2 = u_2 at hP hD ⊢
  try rw [eu_2] at hok
  refine lv_istore_n (lv' := [(2, .int ((p_fetch u x1 0).1)), (0, .ref (ad 2)), (1, .int x1)]) hx hb dX0_writeWordChoice_6 rfl hl (by decide) rfl (fun ls hl => ?_)
  refine lv_aload_n hx hb dX0_writeWordChoice_7 rfl (lv_at hl 1 rfl) ?_
  refine lv_sipush (v := 8455) hx hb dX0_writeWordChoice_8 (by decide) ?_
  obtain ⟨h_3, hok⟩ := hok
  refine k_callVv (As := [.int 8455]) (rest := []) hzz ⟨hx, hb, hml, hown, hts⟩ (c_put l D ad cI cZ zz hzz tS hst u_2 8455 h_3) (cwV 1 hts (tb_V tw_2_136 tw_2_138 slX0_put tw_1_3 tw_2_139) rfl rfl rfl (by decide +kernel) ⟨Nat.le_of_ble_eq_true rfl, Nat.le_of_ble_eq_true rfl⟩) (va_recv hK hP (ci := 0) (q0 := 2) rfl rfl) rfl hl.1 rfl (lv_room (Nat.le_of_ble_eq_true rfl)) dX0_writeWordChoice_11 ⟨Nat.le_of_ble_eq_true rfl, Nat.le_of_ble_eq_true rfl⟩ hP hK hD hS hA hZ (fun H locs hP hD hS => ?_)
  generalize eu_4 : p_put u_2 8455 = u_4 at hP hD ⊢
  try rw [eu_4] at hok
  refine lv_aload_n hx hb dX0_writeWordChoice_14 rfl (lv_at hl 1 rfl) ?_
  refine lv_sipush (v := 16385) hx hb dX0_writeWordChoice_15 (by decide) ?_
  refine lv_bipush (v := 8) hx hb dX0_writeWordChoice_18 (by decide) ?_
  refine lv_iload_n hx hb dX0_writeWordChoice_20 rfl (lv_at hl 0 rfl) ?_
  refine lv_imul hx hb dX0_writeWordChoice_21 ?_
  refine lv_iadd hx hb dX0_writeWordChoice_22 ?_
  obtain ⟨h_5, hok⟩ := hok
  refine k_callVv (As := [.int (16385 + (8 * ((p_fetch u x1 0).1)))]) (rest := []) hzz ⟨hx, hb, hml, hown, hts⟩ (c_put l D ad cI cZ zz hzz tS hst u_4 (16385 + (8 * ((p_fetch u x1 0).1))) h_5) (cwV 1 hts (tb_V tw_2_136 tw_2_138 slX0_put tw_1_3 tw_2_139) rfl rfl rfl (by decide +kernel) ⟨Nat.le_of_ble_eq_true rfl, Nat.le_of_ble_eq_true rfl⟩) (va_recv hK hP (ci := 0) (q0 := 2) rfl rfl) rfl hl.1 rfl (lv_room (Nat.le_of_ble_eq_true rfl)) dX0_writeWordChoice_23 ⟨Nat.le_of_ble_eq_true rfl, Nat.le_of_ble_eq_true rfl⟩ hP hK hD hS hA hZ (fun H locs hP hD hS => ?_)
  generalize eu_6 : p_put u_4 (16385 + (8 * ((p_fetch u x1 0).1))) = u_6 at hP hD ⊢
  try rw [eu_6] at hok
  refine lv_aload_n hx hb dX0_writeWordChoice_26 rfl (lv_at hl 1 rfl) ?_
  refine lv_sipush (v := 137) hx hb dX0_writeWordChoice_27 (by decide) ?_
  obtain ⟨h_7, hok⟩ := hok
  refine k_callVv (As := [.int 137]) (rest := []) hzz ⟨hx, hb, hml, hown, hts⟩ (c_put l D ad cI cZ zz hzz tS hst u_6 137 h_7) (cwV 1 hts (tb_V tw_2_136 tw_2_138 slX0_put tw_1_3 tw_2_139) rfl rfl rfl (by decide +kernel) ⟨Nat.le_of_ble_eq_true rfl, Nat.le_of_ble_eq_true rfl⟩) (va_recv hK hP (ci := 0) (q0 := 2) rfl rfl) rfl hl.1 rfl (lv_room (Nat.le_of_ble_eq_true rfl)) dX0_writeWordChoice_30 ⟨Nat.le_of_ble_eq_true rfl, Nat.le_of_ble_eq_true rfl⟩ hP hK hD hS hA hZ (fun H locs hP hD hS => ?_)
  generalize eu_8 : p_put u_6 137 = u_8 at hP hD ⊢
  try rw [eu_8] at hok
  have e9 : p_writeWordChoice u x1 = u_8 := by
    subst eu_8
    subst eu_6
    subst eu_4
    subst eu_2
    rw [p_writeWordChoice]
  rw [e9]
  exact W.vret hx hb hr (fun t ht hW => ⟨⟨(), rfl, trivial, by rw [ht]; exact hP, va_K.moved hW.alike hK, hD⟩, hS.F ht⟩) hS.2.2 dX0_writeWordChoice_33

def p_writeCompute (u : St) (x1 x2 x3 x4 : Int32) : St := (if 2 ≤ x1 then (if (p_hasRegister x2) = 0 then (p_keep (p_put ((p_fetch (p_copyTo0 u x3) x4 1).2) ((chg (x1 - 2).toNatClampNeg) + (8 * ((p_fetch (p_copyTo0 u x3) x4 1).1)))) x2) else (p_put (p_put ((p_fetch (p_copyTo0 u x3) x4 1).2) ((chg (x1 - 2).toNatClampNeg) + (8 * ((p_fetch (p_copyTo0 u x3) x4 1).1)))) (p_registerOf x2))) else (if x1 = 0 then (p_keep (p_put ((p_fetch ((p_fetch u x3 0).2) x4 1).2) (((6144 + (64 * ((p_fetch ((p_fetch u x3 0).2) x4 1).1))) + (8 * ((p_fetch u x3 0).1))) + (p_targetOf x2))) x2) else (p_keep (p_put ((p_fetch ((p_fetch u x3 0).2) x4 1).2) (((6656 + (64 * ((p_fetch ((p_fetch u x3 0).2) x4 1).1))) + (8 * ((p_fetch u x3 0).1))) + (p_targetOf x2))) x2)))
def ok_writeCompute (u : St) (x1 x2 x3 x4 : Int32) : Prop := ((2 ≤ x1 → (ok_copyTo0 u x3 ∧ (ok_fetch (p_copyTo0 u x3) x4 1 ∧ (vp_in (x1 - 2) 6 ∧ (ok_put ((p_fetch (p_copyTo0 u x3) x4 1).2) ((chg (x1 - 2).toNatClampNeg) + (8 * ((p_fetch (p_copyTo0 u x3) x4 1).1))) ∧ (((p_hasRegister x2) = 0 → (ok_keep (p_put ((p_fetch (p_copyTo0 u x3) x4 1).2) ((chg (x1 - 2).toNatClampNeg) + (8 * ((p_fetch (p_copyTo0 u x3) x4 1).1)))) x2 ∧ True)) ∧ (¬ (p_hasRegister x2) = 0 → (ok_put (p_put ((p_fetch (p_copyTo0 u x3) x4 1).2) ((chg (x1 - 2).toNatClampNeg) + (8 * ((p_fetch (p_copyTo0 u x3) x4 1).1)))) (p_registerOf x2) ∧ True)))))))) ∧ (¬ 2 ≤ x1 → (ok_fetch u x3 0 ∧ (ok_fetch ((p_fetch u x3 0).2) x4 1 ∧ ((x1 = 0 → (ok_put ((p_fetch ((p_fetch u x3 0).2) x4 1).2) (((6144 + (64 * ((p_fetch ((p_fetch u x3 0).2) x4 1).1))) + (8 * ((p_fetch u x3 0).1))) + (p_targetOf x2)) ∧ (ok_keep (p_put ((p_fetch ((p_fetch u x3 0).2) x4 1).2) (((6144 + (64 * ((p_fetch ((p_fetch u x3 0).2) x4 1).1))) + (8 * ((p_fetch u x3 0).1))) + (p_targetOf x2))) x2 ∧ True))) ∧ (¬ x1 = 0 → (ok_put ((p_fetch ((p_fetch u x3 0).2) x4 1).2) (((6656 + (64 * ((p_fetch ((p_fetch u x3 0).2) x4 1).1))) + (8 * ((p_fetch u x3 0).1))) + (p_targetOf x2)) ∧ (ok_keep (p_put ((p_fetch ((p_fetch u x3 0).2) x4 1).2) (((6656 + (64 * ((p_fetch ((p_fetch u x3 0).2) x4 1).1))) + (8 * ((p_fetch u x3 0).1))) + (p_targetOf x2))) x2 ∧ True))))))))
set_option maxHeartbeats 4000000 in
set_option maxRecDepth 100000 in
theorem c_writeCompute (l : Launch) (D : va_G) (ad : Nat → Nat) (cI cZ : ClassId) (zz : (Nat → Prop) → State → Heap → Prop) (hzz : Zok zz) (tS : Nat) (hst : Zst zz tS) (u : St) (x1 x2 x3 x4 : Int32) (hok : ok_writeCompute u x1 x2 x3 x4) : tfV l D vwCl (tyT cI cZ) zz yX0_writeCompute wsX0_writeCompute ({ frames := 2, cells := 0, slots := 0, locals := 43 } : Room) [.ref (ad 2), .int x1, .int x2, .int x3, .int x4] (wT ad cI cZ u) (wT ad cI cZ (p_writeCompute u x1 x2 x3 x4)) := by
  intro sz
  unfold ok_writeCompute at hok
  refine Met.ofW (cc := cX0_writeCompute) (maxL := 7) (ret := none) (by decide) rfl ?_
  intro p e s m args below meth c s₁ B hml hv
  obtain ⟨rfl, hsz, hP, hK, hD0, hZ⟩ := hv
  have hx := B.exec
  have hb := B.bytes
  have hr := B.returns
  have hts := atoms_spec (ws := wsX0_writeCompute) B.pre
  have hown : s.vm.findClass RX0 = some m.cls := findClass_of_methodNamed B.named
  have hlocks := B.notSynchronized
  subst hsz
  have hD := hD0.self (sz := s.heap.size)
  generalize hAe : va_A (wT ad cI cZ u) s.heap.size = A at hD hZ ⊢
  have hA : ∀ q : Nat, s.heap.size ≤ q → A q := fun q h => by rw [← hAe]; exact Or.inr h
  have hS : va_S A s.heap s.heap [] := va_S.rf
  have Cx : cxt p s m ([.ref (ad 2), .int x1, .int x2, .int x3, .int x4] : List Value).toArray meth c cX0_writeCompute 7 none wsX0_writeCompute RX0 D vwCl (tyT cI cZ) zz A := ⟨hx, hb, hr, hts, hown, hlocks, hml, hK, hA, hZ⟩
  have hl := lv_entry ([.ref (ad 2), .int x1, .int x2, .int x3, .int x4]) (n := 7) (Nat.le_of_ble_eq_true rfl)
  rw [lg_entry_eq]
  generalize (lg_sl ([.ref (ad 2), .int x1, .int x2, .int x3, .int x4]) ++ List.replicate (7 - (lg_sl ([.ref (ad 2), .int x1, .int x2, .int x3, .int x4])).length) Slot.unset).toArray = ls at hl ⊢
  have hl : lv_has ls 7 [(0, .ref (ad 2)), (1, .int x1), (2, .int x2), (3, .int x3), (4, .int x4)] := hl
  refine lv_iload_n hx hb dX0_writeCompute_0 rfl (lv_at hl 1 rfl) ?_
  refine lv_iconst (v := 2) hx hb dX0_writeCompute_1 (by decide) ?_
  refine lv_icmp_ge (tgt := 62) hx hb dX0_writeCompute_2 (by decide) (fun c_1 => ?_) (fun c_1 => ?_)
  · have hok := hok.1 c_1
    refine lv_aload_n hx hb dX0_writeCompute_62 rfl (lv_at hl 0 rfl) ?_
    refine lv_iload_n hx hb dX0_writeCompute_63 rfl (lv_at hl 3 rfl) ?_
    obtain ⟨h_2, hok⟩ := hok
    refine k_callVv (As := [.int x3]) (rest := []) hzz ⟨hx, hb, hml, hown, hts⟩ (c_copyTo0 l D ad cI cZ zz hzz tS hst u x3 h_2) (cwV 1 hts (tb_V tw_2_177 tw_2_179 slX0_copyTo0 tw_1_3 tw_2_180) rfl rfl rfl (by decide +kernel) ⟨Nat.le_of_ble_eq_true rfl, Nat.le_of_ble_eq_true rfl⟩) (va_recv hK hP (ci := 0) (q0 := 2) rfl rfl) rfl hl.1 rfl (lv_room (Nat.le_of_ble_eq_true rfl)) dX0_writeCompute_64 ⟨Nat.le_of_ble_eq_true rfl, Nat.le_of_ble_eq_true rfl⟩ hP hK hD hS hA hZ (fun H locs hP hD hS => ?_)
    generalize eu_3 : p_copyTo0 u x3 = u_3 at hP hD ⊢
    try rw [eu_3] at hok
    refine lv_aload_n hx hb dX0_writeCompute_67 rfl (lv_at hl 0 rfl) ?_
    refine lv_iload hx hb dX0_writeCompute_68 (lv_at hl 4 rfl) ?_
    refine lv_iconst (v := 1) hx hb dX0_writeCompute_70 (by decide) ?_
    obtain ⟨h_4, hok⟩ := hok
    refine k_callVi (As := [.int x4, .int 1]) (rest := []) hzz ⟨hx, hb, hml, hown, hts⟩ (c_fetch l D ad cI cZ zz hzz tS hst u_3 x4 1 h_4) (cwV 2 hts (tb_V tw_2_172 tw_2_174 slX0_fetch tw_1_3 tw_2_175) rfl rfl rfl (by decide +kernel) ⟨Nat.le_of_ble_eq_true rfl, Nat.le_of_ble_eq_true rfl⟩) (va_recv hK hP (ci := 0) (q0 := 2) rfl rfl) rfl hl.1 rfl (lv_room (Nat.le_of_ble_eq_true rfl)) dX0_writeCompute_71 ⟨Nat.le_of_ble_eq_true rfl, Nat.le_of_ble_eq_true rfl⟩ hP hK hD hS hA hZ (fun H locs hP hD hS => ?_)
    generalize eu_5 : (p_fetch u_3 x4 1).2 = u_5 at hP hD ⊢
    try rw [eu_5] at hok
    refine lv_istore (lv' := [(5, .int ((p_fetch u_3 x4 1).1)), (0, .ref (ad 2)), (1, .int x1), (2, .int x2), (3, .int x3), (4, .int x4)]) hx hb dX0_writeCompute_74 hl (by decide) rfl (fun ls hl => ?_)
    refine lv_aload_n hx hb dX0_writeCompute_76 rfl (lv_at hl 1 rfl) ?_
    refine va_gets hx hb (hst _ _ _ hZ).1 hS hown (hts _ (tb_c tw_2_181)) (fun _ h9 => h9) dX0_writeCompute_77 ?_
    refine lv_iload_n hx hb dX0_writeCompute_80 rfl (lv_at hl 2 rfl) ?_
    refine lv_iconst (v := 2) hx hb dX0_writeCompute_81 (by decide) ?_
    refine lv_isub hx hb dX0_writeCompute_82 ?_
    obtain ⟨h_6, hok⟩ := hok
    refine va_ti (v := .int (chg (x1 - 2).toNatClampNeg)) hx hb (hst _ _ _ hZ).2 hS h_6 rfl dX0_writeCompute_83 ?_
    refine lv_bipush (v := 8) hx hb dX0_writeCompute_84 (by decide) ?_
    refine lv_iload hx hb dX0_writeCompute_86 (lv_at hl 0 rfl) ?_
    refine lv_imul hx hb dX0_writeCompute_88 ?_
    refine lv_iadd hx hb dX0_writeCompute_89 ?_
    obtain ⟨h_7, hok⟩ := hok
    refine k_callVv (As := [.int ((chg (x1 - 2).toNatClampNeg) + (8 * ((p_fetch u_3 x4 1).1)))]) (rest := []) hzz ⟨hx, hb, hml, hown, hts⟩ (c_put l D ad cI cZ zz hzz tS hst u_5 ((chg (x1 - 2).toNatClampNeg) + (8 * ((p_fetch u_3 x4 1).1))) h_7) (cwV 1 hts (tb_V tw_2_136 tw_2_138 slX0_put tw_1_3 tw_2_139) rfl rfl rfl (by decide +kernel) ⟨Nat.le_of_ble_eq_true rfl, Nat.le_of_ble_eq_true rfl⟩) (va_recv hK hP (ci := 0) (q0 := 2) rfl rfl) rfl hl.1 rfl (lv_room (Nat.le_of_ble_eq_true rfl)) dX0_writeCompute_90 ⟨Nat.le_of_ble_eq_true rfl, Nat.le_of_ble_eq_true rfl⟩ hP hK hD hS hA hZ (fun H locs hP hD hS => ?_)
    generalize eu_8 : p_put u_5 ((chg (x1 - 2).toNatClampNeg) + (8 * ((p_fetch u_3 x4 1).1))) = u_8 at hP hD ⊢
    try rw [eu_8] at hok
    refine lv_iload_n hx hb dX0_writeCompute_93 rfl (lv_at hl 3 rfl) ?_
    refine k_callSi (As := [.int x2]) (rest := []) hzz ⟨hx, hb, hml, hown, hts⟩ (c_hasRegister l D ad cI cZ zz hzz tS hst (wT ad cI cZ u_8) x2) (cwS 1 hts (tb_S tw_2_147 tw_2_148 tw_1_3 tw_2_149) rfl rfl rfl (by decide +kernel) ⟨Nat.le_of_ble_eq_true rfl, Nat.le_of_ble_eq_true rfl⟩) rfl hl.1 rfl (lv_room (Nat.le_of_ble_eq_true rfl)) dX0_writeCompute_94 ⟨Nat.le_of_ble_eq_true rfl, Nat.le_of_ble_eq_true rfl⟩ hP hK hD hS hA hZ (fun H locs hP hD hS => ?_)
    refine lv_if_eq (tgt := 111) hx hb dX0_writeCompute_97 (by decide) (fun c_10 => ?_) (fun c_10 => ?_)
    · have hok := hok.1 c_10
      refine lv_aload_n hx hb dX0_writeCompute_111 rfl (lv_at hl 1 rfl) ?_
      refine lv_iload_n hx hb dX0_writeCompute_112 rfl (lv_at hl 3 rfl) ?_
      obtain ⟨h_11, hok⟩ := hok
      refine k_callVv (As := [.int x2]) (rest := []) hzz ⟨hx, hb, hml, hown, hts⟩ (c_keep l D ad cI cZ zz hzz tS hst u_8 x2 h_11) (cwV 1 hts (tb_V tw_2_160 tw_2_162 slX0_keep tw_1_3 tw_2_163) rfl rfl rfl (by decide +kernel) ⟨Nat.le_of_ble_eq_true rfl, Nat.le_of_ble_eq_true rfl⟩) (va_recv hK hP (ci := 0) (q0 := 2) rfl rfl) rfl hl.1 rfl (lv_room (Nat.le_of_ble_eq_true rfl)) dX0_writeCompute_113 ⟨Nat.le_of_ble_eq_true rfl, Nat.le_of_ble_eq_true rfl⟩ hP hK hD hS hA hZ (fun H locs hP hD hS => ?_)
      generalize eu_12 : p_keep u_8 x2 = u_12 at hP hD ⊢
      try rw [eu_12] at hok
      have e9 : p_writeCompute u x1 x2 x3 x4 = u_12 := by
        subst eu_12
        subst eu_8
        subst eu_5
        subst eu_3
        rw [p_writeCompute, if_pos c_1, if_pos c_10]
      rw [e9]
      exact W.vret hx hb hr (fun t ht hW => ⟨⟨(), rfl, trivial, by rw [ht]; exact hP, va_K.moved hW.alike hK, hD⟩, hS.F ht⟩) hS.2.2 dX0_writeCompute_116
    · have hok := hok.2 c_10
      refine lv_aload_n hx hb dX0_writeCompute_100 rfl (lv_at hl 1 rfl) ?_
      refine lv_iload_n hx hb dX0_writeCompute_101 rfl (lv_at hl 3 rfl) ?_
      refine k_callSi (As := [.int x2]) (rest := [.ref (ad 2)]) hzz ⟨hx, hb, hml, hown, hts⟩ (c_registerOf l D ad cI cZ zz hzz tS hst (wT ad cI cZ u_8) x2) (cwS 1 hts (tb_S tw_2_150 tw_2_151 tw_1_3 tw_2_152) rfl rfl rfl (by decide +kernel) ⟨Nat.le_of_ble_eq_true rfl, Nat.le_of_ble_eq_true rfl⟩) rfl hl.1 rfl (lv_room (Nat.le_of_ble_eq_true rfl)) dX0_writeCompute_102 ⟨Nat.le_of_ble_eq_true rfl, Nat.le_of_ble_eq_true rfl⟩ hP hK hD hS hA hZ (fun H locs hP hD hS => ?_)
      obtain ⟨h_14, hok⟩ := hok
      refine k_callVv (As := [.int (p_registerOf x2)]) (rest := []) hzz ⟨hx, hb, hml, hown, hts⟩ (c_put l D ad cI cZ zz hzz tS hst u_8 (p_registerOf x2) h_14) (cwV 1 hts (tb_V tw_2_136 tw_2_138 slX0_put tw_1_3 tw_2_139) rfl rfl rfl (by decide +kernel) ⟨Nat.le_of_ble_eq_true rfl, Nat.le_of_ble_eq_true rfl⟩) (va_recv hK hP (ci := 0) (q0 := 2) rfl rfl) rfl hl.1 rfl (lv_room (Nat.le_of_ble_eq_true rfl)) dX0_writeCompute_105 ⟨Nat.le_of_ble_eq_true rfl, Nat.le_of_ble_eq_true rfl⟩ hP hK hD hS hA hZ (fun H locs hP hD hS => ?_)
      generalize eu_15 : p_put u_8 (p_registerOf x2) = u_15 at hP hD ⊢
      try rw [eu_15] at hok
      refine lv_goto (tgt := 116) hx hb dX0_writeCompute_108 (by decide) ?_
      have e9 : p_writeCompute u x1 x2 x3 x4 = u_15 := by
        subst eu_15
        subst eu_8
        subst eu_5
        subst eu_3
        rw [p_writeCompute, if_pos c_1, if_neg c_10]
      rw [e9]
      exact W.vret hx hb hr (fun t ht hW => ⟨⟨(), rfl, trivial, by rw [ht]; exact hP, va_K.moved hW.alike hK, hD⟩, hS.F ht⟩) hS.2.2 dX0_writeCompute_116
  · have hok := hok.2 c_1
    refine lv_aload_n hx hb dX0_writeCompute_5 rfl (lv_at hl 0 rfl) ?_
    refine lv_iload_n hx hb dX0_writeCompute_6 rfl (lv_at hl 3 rfl) ?_
    refine lv_iconst (v := 0) hx hb dX0_writeCompute_7 (by decide) ?_
    obtain ⟨h_16, hok⟩ := hok
    refine k_callVi (As := [.int x3, .int 0]) (rest := []) hzz ⟨hx, hb, hml, hown, hts⟩ (c_fetch l D ad cI cZ zz hzz tS hst u x3 0 h_16) (cwV 2 hts (tb_V tw_2_172 tw_2_174 slX0_fetch tw_1_3 tw_2_175) rfl rfl rfl (by decide +kernel) ⟨Nat.le_of_ble_eq_true rfl, Nat.le_of_ble_eq_true rfl⟩) (va_recv hK hP (ci := 0) (q0 := 2) rfl rfl) rfl hl.1 rfl (lv_room (Nat.le_of_ble_eq_true rfl)) dX0_writeCompute_8 ⟨Nat.le_of_ble_eq_true rfl, Nat.le_of_ble_eq_true rfl⟩ hP hK hD hS hA hZ (fun H locs hP hD hS => ?_)
    generalize eu_17 : (p_fetch u x3 0).2 = u_17 at hP hD ⊢
    try rw [eu_17] at hok
    refine lv_istore (lv' := [(5, .int ((p_fetch u x3 0).1)), (0, .ref (ad 2)), (1, .int x1), (2, .int x2), (3, .int x3), (4, .int x4)]) hx hb dX0_writeCompute_11 hl (by decide) rfl (fun ls hl => ?_)
    refine lv_aload_n hx hb dX0_writeCompute_13 rfl (lv_at hl 1 rfl) ?_
    refine lv_iload hx hb dX0_writeCompute_14 (lv_at hl 5 rfl) ?_
    refine lv_iconst (v := 1) hx hb dX0_writeCompute_16 (by decide) ?_
    obtain ⟨h_18, hok⟩ := hok
    refine k_callVi (As := [.int x4, .int 1]) (rest := []) hzz ⟨hx, hb, hml, hown, hts⟩ (c_fetch l D ad cI cZ zz hzz tS hst u_17 x4 1 h_18) (cwV 2 hts (tb_V tw_2_172 tw_2_174 slX0_fetch tw_1_3 tw_2_175) rfl rfl rfl (by decide +kernel) ⟨Nat.le_of_ble_eq_true rfl, Nat.le_of_ble_eq_true rfl⟩) (va_recv hK hP (ci := 0) (q0 := 2) rfl rfl) rfl hl.1 rfl (lv_room (Nat.le_of_ble_eq_true rfl)) dX0_writeCompute_17 ⟨Nat.le_of_ble_eq_true rfl, Nat.le_of_ble_eq_true rfl⟩ hP hK hD hS hA hZ (fun H locs hP hD hS => ?_)
    generalize eu_19 : (p_fetch u_17 x4 1).2 = u_19 at hP hD ⊢
    try rw [eu_19] at hok
    refine lv_istore (lv' := [(6, .int ((p_fetch u_17 x4 1).1)), (5, .int ((p_fetch u x3 0).1)), (0, .ref (ad 2)), (1, .int x1), (2, .int x2), (3, .int x3), (4, .int x4)]) hx hb dX0_writeCompute_20 hl (by decide) rfl (fun ls hl => ?_)
    refine lv_aload_n hx hb dX0_writeCompute_22 rfl (lv_at hl 2 rfl) ?_
    refine lv_iload_n hx hb dX0_writeCompute_23 rfl (lv_at hl 3 rfl) ?_
    refine lv_if_ne (tgt := 33) hx hb dX0_writeCompute_24 (by decide) (fun c_20 => ?_) (fun c_20 => ?_)
    · have hok := hok.2 c_20
      refine lv_sipush (v := 6656) hx hb dX0_writeCompute_33 (by decide) ?_
      refine lv_bipush (v := 64) hx hb dX0_writeCompute_36 (by decide) ?_
      refine lv_iload hx hb dX0_writeCompute_38 (lv_at hl 0 rfl) ?_
      refine lv_imul hx hb dX0_writeCompute_40 ?_
      refine lv_iadd hx hb dX0_writeCompute_41 ?_
      refine lv_bipush (v := 8) hx hb dX0_writeCompute_42 (by decide) ?_
      refine lv_iload hx hb dX0_writeCompute_44 (lv_at hl 1 rfl) ?_
      refine lv_imul hx hb dX0_writeCompute_46 ?_
      refine lv_iadd hx hb dX0_writeCompute_47 ?_
      refine lv_iload_n hx hb dX0_writeCompute_48 rfl (lv_at hl 4 rfl) ?_
      refine k_callSi (As := [.int x2]) (rest := [.int ((6656 + (64 * ((p_fetch u_17 x4 1).1))) + (8 * ((p_fetch u x3 0).1))), .ref (ad 2)]) hzz ⟨hx, hb, hml, hown, hts⟩ (c_targetOf l D ad cI cZ zz hzz tS hst (wT ad cI cZ u_19) x2) (cwS 1 hts (tb_S tw_2_144 tw_2_145 tw_1_3 tw_2_146) rfl rfl rfl (by decide +kernel) ⟨Nat.le_of_ble_eq_true rfl, Nat.le_of_ble_eq_true rfl⟩) rfl hl.1 rfl (lv_room (Nat.le_of_ble_eq_true rfl)) dX0_writeCompute_49 ⟨Nat.le_of_ble_eq_true rfl, Nat.le_of_ble_eq_true rfl⟩ hP hK hD hS hA hZ (fun H locs hP hD hS => ?_)
      refine lv_iadd hx hb dX0_writeCompute_52 ?_
      obtain ⟨h_22, hok⟩ := hok
      refine k_callVv (As := [.int (((6656 + (64 * ((p_fetch u_17 x4 1).1))) + (8 * ((p_fetch u x3 0).1))) + (p_targetOf x2))]) (rest := []) hzz ⟨hx, hb, hml, hown, hts⟩ (c_put l D ad cI cZ zz hzz tS hst u_19 (((6656 + (64 * ((p_fetch u_17 x4 1).1))) + (8 * ((p_fetch u x3 0).1))) + (p_targetOf x2)) h_22) (cwV 1 hts (tb_V tw_2_136 tw_2_138 slX0_put tw_1_3 tw_2_139) rfl rfl rfl (by decide +kernel) ⟨Nat.le_of_ble_eq_true rfl, Nat.le_of_ble_eq_true rfl⟩) (va_recv hK hP (ci := 0) (q0 := 2) rfl rfl) rfl hl.1 rfl (lv_room (Nat.le_of_ble_eq_true rfl)) dX0_writeCompute_53 ⟨Nat.le_of_ble_eq_true rfl, Nat.le_of_ble_eq_true rfl⟩ hP hK hD hS hA hZ (fun H locs hP hD hS => ?_)
      generalize eu_23 : p_put u_19 (((6656 + (64 * ((p_fetch u_17 x4 1).1))) + (8 * ((p_fetch u x3 0).1))) + (p_targetOf x2)) = u_23 at hP hD ⊢
      try rw [eu_23] at hok
      refine lv_aload_n hx hb dX0_writeCompute_56 rfl (lv_at hl 2 rfl) ?_
      refine lv_iload_n hx hb dX0_writeCompute_57 rfl (lv_at hl 4 rfl) ?_
      obtain ⟨h_24, hok⟩ := hok
      refine k_callVv (As := [.int x2]) (rest := []) hzz ⟨hx, hb, hml, hown, hts⟩ (c_keep l D ad cI cZ zz hzz tS hst u_23 x2 h_24) (cwV 1 hts (tb_V tw_2_160 tw_2_162 slX0_keep tw_1_3 tw_2_163) rfl rfl rfl (by decide +kernel) ⟨Nat.le_of_ble_eq_true rfl, Nat.le_of_ble_eq_true rfl⟩) (va_recv hK hP (ci := 0) (q0 := 2) rfl rfl) rfl hl.1 rfl (lv_room (Nat.le_of_ble_eq_true rfl)) dX0_writeCompute_58 ⟨Nat.le_of_ble_eq_true rfl, Nat.le_of_ble_eq_true rfl⟩ hP hK hD hS hA hZ (fun H locs hP hD hS => ?_)
      generalize eu_25 : p_keep u_23 x2 = u_25 at hP hD ⊢
      try rw [eu_25] at hok
      have e9 : p_writeCompute u x1 x2 x3 x4 = u_25 := by
        subst eu_25
        subst eu_23
        subst eu_19
        subst eu_17
        rw [p_writeCompute, if_neg c_1, if_neg c_20]
      rw [e9]
      exact W.vret hx hb hr (fun t ht hW => ⟨⟨(), rfl, trivial, by rw [ht]; exact hP, va_K.moved hW.alike hK, hD⟩, hS.F ht⟩) hS.2.2 dX0_writeCompute_61
    · have hok := hok.1 c_20
      refine lv_sipush (v := 6144) hx hb dX0_writeCompute_27 (by decide) ?_
      refine lv_goto (tgt := 36) hx hb dX0_writeCompute_30 (by decide) ?_
      refine lv_bipush (v := 64) hx hb dX0_writeCompute_36 (by decide) ?_
      refine lv_iload hx hb dX0_writeCompute_38 (lv_at hl 0 rfl) ?_
      refine lv_imul hx hb dX0_writeCompute_40 ?_
      refine lv_iadd hx hb dX0_writeCompute_41 ?_
      refine lv_bipush (v := 8) hx hb dX0_writeCompute_42 (by decide) ?_
      refine lv_iload hx hb dX0_writeCompute_44 (lv_at hl 1 rfl) ?_
      refine lv_imul hx hb dX0_writeCompute_46 ?_
      refine lv_iadd hx hb dX0_writeCompute_47 ?_
      refine lv_iload_n hx hb dX0_writeCompute_48 rfl (lv_at hl 4 rfl) ?_
      refine k_callSi (As := [.int x2]) (rest := [.int ((6144 + (64 * ((p_fetch u_17 x4 1).1))) + (8 * ((p_fetch u x3 0).1))), .ref (ad 2)]) hzz ⟨hx, hb, hml, hown, hts⟩ (c_targetOf l D ad cI cZ zz hzz tS hst (wT ad cI cZ u_19) x2) (cwS 1 hts (tb_S tw_2_144 tw_2_145 tw_1_3 tw_2_146) rfl rfl rfl (by decide +kernel) ⟨Nat.le_of_ble_eq_true rfl, Nat.le_of_ble_eq_true rfl⟩) rfl hl.1 rfl (lv_room (Nat.le_of_ble_eq_true rfl)) dX0_writeCompute_49 ⟨Nat.le_of_ble_eq_true rfl, Nat.le_of_ble_eq_true rfl⟩ hP hK hD hS hA hZ (fun H locs hP hD hS => ?_)
      refine lv_iadd hx hb dX0_writeCompute_52 ?_
      obtain ⟨h_27, hok⟩ := hok
      refine k_callVv (As := [.int (((6144 + (64 * ((p_fetch u_17 x4 1).1))) + (8 * ((p_fetch u x3 0).1))) + (p_targetOf x2))]) (rest := []) hzz ⟨hx, hb, hml, hown, hts⟩ (c_put l D ad cI cZ zz hzz tS hst u_19 (((6144 + (64 * ((p_fetch u_17 x4 1).1))) + (8 * ((p_fetch u x3 0).1))) + (p_targetOf x2)) h_27) (cwV 1 hts (tb_V tw_2_136 tw_2_138 slX0_put tw_1_3 tw_2_139) rfl rfl rfl (by decide +kernel) ⟨Nat.le_of_ble_eq_true rfl, Nat.le_of_ble_eq_true rfl⟩) (va_recv hK hP (ci := 0) (q0 := 2) rfl rfl) rfl hl.1 rfl (lv_room (Nat.le_of_ble_eq_true rfl)) dX0_writeCompute_53 ⟨Nat.le_of_ble_eq_true rfl, Nat.le_of_ble_eq_true rfl⟩ hP hK hD hS hA hZ (fun H locs hP hD hS => ?_)
      generalize eu_28 : p_put u_19 (((6144 + (64 * ((p_fetch u_17 x4 1).1))) + (8 * ((p_fetch u x3 0).1))) + (p_targetOf x2)) = u_28 at hP hD ⊢
      try rw [eu_28] at hok
      refine lv_aload_n hx hb dX0_writeCompute_56 rfl (lv_at hl 2 rfl) ?_
      refine lv_iload_n hx hb dX0_writeCompute_57 rfl (lv_at hl 4 rfl) ?_
      obtain ⟨h_29, hok⟩ := hok
      refine k_callVv (As := [.int x2]) (rest := []) hzz ⟨hx, hb, hml, hown, hts⟩ (c_keep l D ad cI cZ zz hzz tS hst u_28 x2 h_29) (cwV 1 hts (tb_V tw_2_160 tw_2_162 slX0_keep tw_1_3 tw_2_163) rfl rfl rfl (by decide +kernel) ⟨Nat.le_of_ble_eq_true rfl, Nat.le_of_ble_eq_true rfl⟩) (va_recv hK hP (ci := 0) (q0 := 2) rfl rfl) rfl hl.1 rfl (lv_room (Nat.le_of_ble_eq_true rfl)) dX0_writeCompute_58 ⟨Nat.le_of_ble_eq_true rfl, Nat.le_of_ble_eq_true rfl⟩ hP hK hD hS hA hZ (fun H locs hP hD hS => ?_)
      generalize eu_30 : p_keep u_28 x2 = u_30 at hP hD ⊢
      try rw [eu_30] at hok
      have e9 : p_writeCompute u x1 x2 x3 x4 = u_30 := by
        subst eu_30
        subst eu_28
        subst eu_19
        subst eu_17
        rw [p_writeCompute, if_neg c_1, if_pos c_20]
      rw [e9]
      exact W.vret hx hb hr (fun t ht hW => ⟨⟨(), rfl, trivial, by rw [ht]; exact hP, va_K.moved hW.alike hK, hD⟩, hS.F ht⟩) hS.2.2 dX0_writeCompute_61

def p_writeInstruction (u : St) (x1 : Int32) : St := (if (u.2 0 x1.toNatClampNeg) = 0 then (p_keep (p_writeNumber u (u.2 5 x1.toNatClampNeg) (p_targetOf (u.2 2 x1.toNatClampNeg))) (u.2 2 x1.toNatClampNeg)) else (if (u.2 0 x1.toNatClampNeg) = 1 then (p_writeCompute u (u.2 1 x1.toNatClampNeg) (u.2 2 x1.toNatClampNeg) (u.2 3 x1.toNatClampNeg) (u.2 4 x1.toNatClampNeg)) else (if (u.2 0 x1.toNatClampNeg) = 2 then (p_keep (p_put (p_writeWordChoice u (u.2 3 x1.toNatClampNeg)) (22616 + (p_targetOf (u.2 2 x1.toNatClampNeg)))) (u.2 2 x1.toNatClampNeg)) else (if (u.2 0 x1.toNatClampNeg) = 3 then (p_put ((p_fetch (p_writeWordChoice u (u.2 3 x1.toNatClampNeg)) (u.2 4 x1.toNatClampNeg) 0).2) (20568 + ((p_fetch (p_writeWordChoice u (u.2 3 x1.toNatClampNeg)) (u.2 4 x1.toNatClampNeg) 0).1))) else (if (u.2 0 x1.toNatClampNeg) = 4 then (p_writeJump u (u.2 5 x1.toNatClampNeg)) else (if (u.2 0 x1.toNatClampNeg) = 5 then (p_writeBranch u (u.2 1 x1.toNatClampNeg) (u.2 3 x1.toNatClampNeg) (u.2 4 x1.toNatClampNeg) (u.2 5 x1.toNatClampNeg) (u.2 8 x1.toNatClampNeg)) else (if (u.2 0 x1.toNatClampNeg) = 6 then (p_put (p_copyTo0 u (u.2 3 x1.toNatClampNeg)) 57088) else (if (u.2 0 x1.toNatClampNeg) = 7 then (p_put u 57089) else (p_put u (56832 + (u.2 5 x1.toNatClampNeg)))))))))))
def ok_writeInstruction (u : St) (x1 : Int32) : Prop := (vp_in x1 48 ∧ (vp_in x1 48 ∧ (vp_in x1 48 ∧ (vp_in x1 48 ∧ (vp_in x1 48 ∧ (((u.2 0 x1.toNatClampNeg) = 0 → (ok_writeNumber u (u.2 5 x1.toNatClampNeg) (p_targetOf (u.2 2 x1.toNatClampNeg)) ∧ (ok_keep (p_writeNumber u (u.2 5 x1.toNatClampNeg) (p_targetOf (u.2 2 x1.toNatClampNeg))) (u.2 2 x1.toNatClampNeg) ∧ True))) ∧ (¬ (u.2 0 x1.toNatClampNeg) = 0 → (((u.2 0 x1.toNatClampNeg) = 1 → (vp_in x1 48 ∧ (ok_writeCompute u (u.2 1 x1.toNatClampNeg) (u.2 2 x1.toNatClampNeg) (u.2 3 x1.toNatClampNeg) (u.2 4 x1.toNatClampNeg) ∧ True))) ∧ (¬ (u.2 0 x1.toNatClampNeg) = 1 → (((u.2 0 x1.toNatClampNeg) = 2 → (ok_writeWordChoice u (u.2 3 x1.toNatClampNeg) ∧ (ok_put (p_writeWordChoice u (u.2 3 x1.toNatClampNeg)) (22616 + (p_targetOf (u.2 2 x1.toNatClampNeg))) ∧ (ok_keep (p_put (p_writeWordChoice u (u.2 3 x1.toNatClampNeg)) (22616 + (p_targetOf (u.2 2 x1.toNatClampNeg)))) (u.2 2 x1.toNatClampNeg) ∧ True)))) ∧ (¬ (u.2 0 x1.toNatClampNeg) = 2 → (((u.2 0 x1.toNatClampNeg) = 3 → (ok_writeWordChoice u (u.2 3 x1.toNatClampNeg) ∧ (ok_fetch (p_writeWordChoice u (u.2 3 x1.toNatClampNeg)) (u.2 4 x1.toNatClampNeg) 0 ∧ (ok_put ((p_fetch (p_writeWordChoice u (u.2 3 x1.toNatClampNeg)) (u.2 4 x1.toNatClampNeg) 0).2) (20568 + ((p_fetch (p_writeWordChoice u (u.2 3 x1.toNatClampNeg)) (u.2 4 x1.toNatClampNeg) 0).1)) ∧ True)))) ∧ (¬ (u.2 0 x1.toNatClampNeg) = 3 → (((u.2 0 x1.toNatClampNeg) = 4 → (ok_writeJump u (u.2 5 x1.toNatClampNeg) ∧ True)) ∧ (¬ (u.2 0 x1.toNatClampNeg) = 4 → (((u.2 0 x1.toNatClampNeg) = 5 → (vp_in x1 48 ∧ (vp_in x1 48 ∧ (ok_writeBranch u (u.2 1 x1.toNatClampNeg) (u.2 3 x1.toNatClampNeg) (u.2 4 x1.toNatClampNeg) (u.2 5 x1.toNatClampNeg) (u.2 8 x1.toNatClampNeg) ∧ True)))) ∧ (¬ (u.2 0 x1.toNatClampNeg) = 5 → (((u.2 0 x1.toNatClampNeg) = 6 → (ok_copyTo0 u (u.2 3 x1.toNatClampNeg) ∧ (ok_put (p_copyTo0 u (u.2 3 x1.toNatClampNeg)) 57088 ∧ True))) ∧ (¬ (u.2 0 x1.toNatClampNeg) = 6 → (((u.2 0 x1.toNatClampNeg) = 7 → (ok_put u 57089 ∧ True)) ∧ (¬ (u.2 0 x1.toNatClampNeg) = 7 → (ok_put u (56832 + (u.2 5 x1.toNatClampNeg)) ∧ True))))))))))))))))))))))
set_option maxHeartbeats 4000000 in
set_option maxRecDepth 100000 in
theorem c_writeInstruction (l : Launch) (D : va_G) (ad : Nat → Nat) (cI cZ : ClassId) (zz : (Nat → Prop) → State → Heap → Prop) (hzz : Zok zz) (tS : Nat) (hst : Zst zz tS) (u : St) (x1 : Int32) (hok : ok_writeInstruction u x1) : tfV l D vwCl (tyT cI cZ) zz yX0_writeInstruction wsX0_writeInstruction ({ frames := 3, cells := 0, slots := 0, locals := 70 } : Room) [.ref (ad 2), .int x1] (wT ad cI cZ u) (wT ad cI cZ (p_writeInstruction u x1)) := by
  intro sz
  unfold ok_writeInstruction at hok
  refine Met.ofW (cc := cX0_writeInstruction) (maxL := 6) (ret := none) (by decide) rfl ?_
  intro p e s m args below meth c s₁ B hml hv
  obtain ⟨rfl, hsz, hP, hK, hD0, hZ⟩ := hv
  have hx := B.exec
  have hb := B.bytes
  have hr := B.returns
  have hts := atoms_spec (ws := wsX0_writeInstruction) B.pre
  have hown : s.vm.findClass RX0 = some m.cls := findClass_of_methodNamed B.named
  have hlocks := B.notSynchronized
  subst hsz
  have hD := hD0.self (sz := s.heap.size)
  generalize hAe : va_A (wT ad cI cZ u) s.heap.size = A at hD hZ ⊢
  have hA : ∀ q : Nat, s.heap.size ≤ q → A q := fun q h => by rw [← hAe]; exact Or.inr h
  have hS : va_S A s.heap s.heap [] := va_S.rf
  have Cx : cxt p s m ([.ref (ad 2), .int x1] : List Value).toArray meth c cX0_writeInstruction 6 none wsX0_writeInstruction RX0 D vwCl (tyT cI cZ) zz A := ⟨hx, hb, hr, hts, hown, hlocks, hml, hK, hA, hZ⟩
  have hl := lv_entry ([.ref (ad 2), .int x1]) (n := 6) (Nat.le_of_ble_eq_true rfl)
  rw [lg_entry_eq]
  generalize (lg_sl ([.ref (ad 2), .int x1]) ++ List.replicate (6 - (lg_sl ([.ref (ad 2), .int x1])).length) Slot.unset).toArray = ls at hl ⊢
  have hl : lv_has ls 6 [(0, .ref (ad 2)), (1, .int x1)] := hl
  refine lv_aload_n hx hb dX0_writeInstruction_0 rfl (lv_at hl 0 rfl) ?_
  refine va_get (ci := 0) (v := .ref (ad 1)) (C := RX0) (T := TX0) (N := 9) hx hb hts (ivX0 _) hown hK hP 2 rfl rfl 0 (by decide) (hts _ (tb_c tw_1_69)) (fun _ h9 => h9) rfl dX0_writeInstruction_1 ?_
  refine va_get (ci := 2) (v := .ref (ad 6)) (C := RX2) (T := TX2) (N := 7) hx hb hts (ivX2 _) hown hK hP 1 rfl rfl 2 (by decide) (hts _ (tb_c tw_1_34)) (fun _ h9 => h9) rfl dX0_writeInstruction_4 ?_
  refine lv_iload_n hx hb dX0_writeInstruction_7 rfl (lv_at hl 1 rfl) ?_
  obtain ⟨h_1, hok⟩ := hok
  refine va_iald (f := u.2 2) hx hb hK hP 6 0 rfl rfl h_1 dX0_writeInstruction_8 ?_
  refine lv_istore_n (lv' := [(2, .int (u.2 2 x1.toNatClampNeg)), (0, .ref (ad 2)), (1, .int x1)]) hx hb dX0_writeInstruction_9 rfl hl (by decide) rfl (fun ls hl => ?_)
  refine lv_aload_n hx hb dX0_writeInstruction_10 rfl (lv_at hl 1 rfl) ?_
  refine va_get (ci := 0) (v := .ref (ad 1)) (C := RX0) (T := TX0) (N := 9) hx hb hts (ivX0 _) hown hK hP 2 rfl rfl 0 (by decide) (hts _ (tb_c tw_1_69)) (fun _ h9 => h9) rfl dX0_writeInstruction_11 ?_
  refine va_get (ci := 2) (v := .ref (ad 7)) (C := RX2) (T := TX2) (N := 7) hx hb hts (ivX2 _) hown hK hP 1 rfl rfl 3 (by decide) (hts _ (tb_c tw_1_37)) (fun _ h9 => h9) rfl dX0_writeInstruction_14 ?_
  refine lv_iload_n hx hb dX0_writeInstruction_17 rfl (lv_at hl 2 rfl) ?_
  obtain ⟨h_2, hok⟩ := hok
  refine va_iald (f := u.2 3) hx hb hK hP 7 0 rfl rfl h_2 dX0_writeInstruction_18 ?_
  refine lv_istore_n (lv' := [(3, .int (u.2 3 x1.toNatClampNeg)), (2, .int (u.2 2 x1.toNatClampNeg)), (0, .ref (ad 2)), (1, .int x1)]) hx hb dX0_writeInstruction_19 rfl hl (by decide) rfl (fun ls hl => ?_)
  refine lv_aload_n hx hb dX0_writeInstruction_20 rfl (lv_at hl 2 rfl) ?_
  refine va_get (ci := 0) (v := .ref (ad 1)) (C := RX0) (T := TX0) (N := 9) hx hb hts (ivX0 _) hown hK hP 2 rfl rfl 0 (by decide) (hts _ (tb_c tw_1_69)) (fun _ h9 => h9) rfl dX0_writeInstruction_21 ?_
  refine va_get (ci := 2) (v := .ref (ad 8)) (C := RX2) (T := TX2) (N := 7) hx hb hts (ivX2 _) hown hK hP 1 rfl rfl 4 (by decide) (hts _ (tb_c tw_1_40)) (fun _ h9 => h9) rfl dX0_writeInstruction_24 ?_
  refine lv_iload_n hx hb dX0_writeInstruction_27 rfl (lv_at hl 3 rfl) ?_
  obtain ⟨h_3, hok⟩ := hok
  refine va_iald (f := u.2 4) hx hb hK hP 8 0 rfl rfl h_3 dX0_writeInstruction_28 ?_
  refine lv_istore (lv' := [(4, .int (u.2 4 x1.toNatClampNeg)), (3, .int (u.2 3 x1.toNatClampNeg)), (2, .int (u.2 2 x1.toNatClampNeg)), (0, .ref (ad 2)), (1, .int x1)]) hx hb dX0_writeInstruction_29 hl (by decide) rfl (fun ls hl => ?_)
  refine lv_aload_n hx hb dX0_writeInstruction_31 rfl (lv_at hl 3 rfl) ?_
  refine va_get (ci := 0) (v := .ref (ad 1)) (C := RX0) (T := TX0) (N := 9) hx hb hts (ivX0 _) hown hK hP 2 rfl rfl 0 (by decide) (hts _ (tb_c tw_1_69)) (fun _ h9 => h9) rfl dX0_writeInstruction_32 ?_
  refine va_get (ci := 2) (v := .ref (ad 9)) (C := RX2) (T := TX2) (N := 7) hx hb hts (ivX2 _) hown hK hP 1 rfl rfl 5 (by decide) (hts _ (tb_c tw_1_42)) (fun _ h9 => h9) rfl dX0_writeInstruction_35 ?_
  refine lv_iload_n hx hb dX0_writeInstruction_38 rfl (lv_at hl 4 rfl) ?_
  obtain ⟨h_4, hok⟩ := hok
  refine va_iald (f := u.2 5) hx hb hK hP 9 0 rfl rfl h_4 dX0_writeInstruction_39 ?_
  refine lv_istore (lv' := [(5, .int (u.2 5 x1.toNatClampNeg)), (4, .int (u.2 4 x1.toNatClampNeg)), (3, .int (u.2 3 x1.toNatClampNeg)), (2, .int (u.2 2 x1.toNatClampNeg)), (0, .ref (ad 2)), (1, .int x1)]) hx hb dX0_writeInstruction_40 hl (by decide) rfl (fun ls hl => ?_)
  refine lv_aload_n hx hb dX0_writeInstruction_42 rfl (lv_at hl 4 rfl) ?_
  refine va_get (ci := 0) (v := .ref (ad 1)) (C := RX0) (T := TX0) (N := 9) hx hb hts (ivX0 _) hown hK hP 2 rfl rfl 0 (by decide) (hts _ (tb_c tw_1_69)) (fun _ h9 => h9) rfl dX0_writeInstruction_43 ?_
  refine va_get (ci := 2) (v := .ref (ad 4)) (C := RX2) (T := TX2) (N := 7) hx hb hts (ivX2 _) hown hK hP 1 rfl rfl 0 (by decide) (hts _ (tb_c tw_1_27)) (fun _ h9 => h9) rfl dX0_writeInstruction_46 ?_
  refine lv_iload_n hx hb dX0_writeInstruction_49 rfl (lv_at hl 5 rfl) ?_
  obtain ⟨h_5, hok⟩ := hok
  refine va_iald (f := u.2 0) hx hb hK hP 4 0 rfl rfl h_5 dX0_writeInstruction_50 ?_
  rcases Classical.em ((u.2 0 x1.toNatClampNeg) = 0) with c_6 | c_6
  · have hok := hok.1 c_6
    refine lv_tableIn (tgt := 96) hx hb dX0_writeInstruction_51 (by rw [c_6]; decide) (by rw [c_6]; decide) (by rw [c_6]; rfl) (by decide) ?_
    refine lv_aload_n hx hb dX0_writeInstruction_96 rfl (lv_at hl 4 rfl) ?_
    refine lv_iload hx hb dX0_writeInstruction_97 (lv_at hl 0 rfl) ?_
    refine lv_iload_n hx hb dX0_writeInstruction_99 rfl (lv_at hl 3 rfl) ?_
    refine k_callSi (As := [.int (u.2 2 x1.toNatClampNeg)]) (rest := [.int (u.2 5 x1.toNatClampNeg), .ref (ad 2)]) hzz ⟨hx, hb, hml, hown, hts⟩ (c_targetOf l D ad cI cZ zz hzz tS hst (wT ad cI cZ u) (u.2 2 x1.toNatClampNeg)) (cwS 1 hts (tb_S tw_2_144 tw_2_145 tw_1_3 tw_2_146) rfl rfl rfl (by decide +kernel) ⟨Nat.le_of_ble_eq_true rfl, Nat.le_of_ble_eq_true rfl⟩) rfl hl.1 rfl (lv_room (Nat.le_of_ble_eq_true rfl)) dX0_writeInstruction_100 ⟨Nat.le_of_ble_eq_true rfl, Nat.le_of_ble_eq_true rfl⟩ hP hK hD hS hA hZ (fun H locs hP hD hS => ?_)
    obtain ⟨h_8, hok⟩ := hok
    refine k_callVv (As := [.int (u.2 5 x1.toNatClampNeg), .int (p_targetOf (u.2 2 x1.toNatClampNeg))]) (rest := []) hzz ⟨hx, hb, hml, hown, hts⟩ (c_writeNumber l D ad cI cZ zz hzz tS hst u (u.2 5 x1.toNatClampNeg) (p_targetOf (u.2 2 x1.toNatClampNeg)) h_8) (cwV 2 hts (tb_V tw_2_153 tw_2_155 slX0_writeNumber tw_1_3 tw_2_156) rfl rfl rfl (by decide +kernel) ⟨Nat.le_of_ble_eq_true rfl, Nat.le_of_ble_eq_true rfl⟩) (va_recv hK hP (ci := 0) (q0 := 2) rfl rfl) rfl hl.1 rfl (lv_room (Nat.le_of_ble_eq_true rfl)) dX0_writeInstruction_103 ⟨Nat.le_of_ble_eq_true rfl, Nat.le_of_ble_eq_true rfl⟩ hP hK hD hS hA hZ (fun H locs hP hD hS => ?_)
    generalize eu_9 : p_writeNumber u (u.2 5 x1.toNatClampNeg) (p_targetOf (u.2 2 x1.toNatClampNeg)) = u_9 at hP hD ⊢
    try rw [eu_9] at hok
    refine lv_aload_n hx hb dX0_writeInstruction_106 rfl (lv_at hl 4 rfl) ?_
    refine lv_iload_n hx hb dX0_writeInstruction_107 rfl (lv_at hl 3 rfl) ?_
    obtain ⟨h_10, hok⟩ := hok
    refine k_callVv (As := [.int (u.2 2 x1.toNatClampNeg)]) (rest := []) hzz ⟨hx, hb, hml, hown, hts⟩ (c_keep l D ad cI cZ zz hzz tS hst u_9 (u.2 2 x1.toNatClampNeg) h_10) (cwV 1 hts (tb_V tw_2_160 tw_2_162 slX0_keep tw_1_3 tw_2_163) rfl rfl rfl (by decide +kernel) ⟨Nat.le_of_ble_eq_true rfl, Nat.le_of_ble_eq_true rfl⟩) (va_recv hK hP (ci := 0) (q0 := 2) rfl rfl) rfl hl.1 rfl (lv_room (Nat.le_of_ble_eq_true rfl)) dX0_writeInstruction_108 ⟨Nat.le_of_ble_eq_true rfl, Nat.le_of_ble_eq_true rfl⟩ hP hK hD hS hA hZ (fun H locs hP hD hS => ?_)
    generalize eu_11 : p_keep u_9 (u.2 2 x1.toNatClampNeg) = u_11 at hP hD ⊢
    try rw [eu_11] at hok
    refine lv_goto (tgt := 250) hx hb dX0_writeInstruction_111 (by decide) ?_
    have e9 : p_writeInstruction u x1 = u_11 := by
      subst eu_11
      subst eu_9
      rw [p_writeInstruction, if_pos c_6]
    rw [e9]
    exact W.vret hx hb hr (fun t ht hW => ⟨⟨(), rfl, trivial, by rw [ht]; exact hP, va_K.moved hW.alike hK, hD⟩, hS.F ht⟩) hS.2.2 dX0_writeInstruction_250
  · have hok := hok.2 c_6
    rcases Classical.em ((u.2 0 x1.toNatClampNeg) = 1) with c_12 | c_12
    · have hok := hok.1 c_12
      refine lv_tableIn (tgt := 114) hx hb dX0_writeInstruction_51 (by rw [c_12]; decide) (by rw [c_12]; decide) (by rw [c_12]; rfl) (by decide) ?_
      refine lv_aload_n hx hb dX0_writeInstruction_114 rfl (lv_at hl 4 rfl) ?_
      refine lv_aload_n hx hb dX0_writeInstruction_115 rfl (lv_at hl 4 rfl) ?_
      refine va_get (ci := 0) (v := .ref (ad 1)) (C := RX0) (T := TX0) (N := 9) hx hb hts (ivX0 _) hown hK hP 2 rfl rfl 0 (by decide) (hts _ (tb_c tw_1_69)) (fun _ h9 => h9) rfl dX0_writeInstruction_116 ?_
      refine va_get (ci := 2) (v := .ref (ad 5)) (C := RX2) (T := TX2) (N := 7) hx hb hts (ivX2 _) hown hK hP 1 rfl rfl 1 (by decide) (hts _ (tb_c tw_1_31)) (fun _ h9 => h9) rfl dX0_writeInstruction_119 ?_
      refine lv_iload_n hx hb dX0_writeInstruction_122 rfl (lv_at hl 5 rfl) ?_
      obtain ⟨h_13, hok⟩ := hok
      refine va_iald (f := u.2 1) hx hb hK hP 5 0 rfl rfl h_13 dX0_writeInstruction_123 ?_
      refine lv_iload_n hx hb dX0_writeInstruction_124 rfl (lv_at hl 3 rfl) ?_
      refine lv_iload_n hx hb dX0_writeInstruction_125 rfl (lv_at hl 2 rfl) ?_
      refine lv_iload hx hb dX0_writeInstruction_126 (lv_at hl 1 rfl) ?_
      obtain ⟨h_14, hok⟩ := hok
      refine k_callVv (As := [.int (u.2 1 x1.toNatClampNeg), .int (u.2 2 x1.toNatClampNeg), .int (u.2 3 x1.toNatClampNeg), .int (u.2 4 x1.toNatClampNeg)]) (rest := []) hzz ⟨hx, hb, hml, hown, hts⟩ (c_writeCompute l D ad cI cZ zz hzz tS hst u (u.2 1 x1.toNatClampNeg) (u.2 2 x1.toNatClampNeg) (u.2 3 x1.toNatClampNeg) (u.2 4 x1.toNatClampNeg) h_14) (cwV 4 hts (tb_V tw_2_168 tw_2_170 slX0_writeCompute tw_1_3 tw_2_171) rfl rfl rfl (by decide +kernel) ⟨Nat.le_of_ble_eq_true rfl, Nat.le_of_ble_eq_true rfl⟩) (va_recv hK hP (ci := 0) (q0 := 2) rfl rfl) rfl hl.1 rfl (lv_room (Nat.le_of_ble_eq_true rfl)) dX0_writeInstruction_128 ⟨Nat.le_of_ble_eq_true rfl, Nat.le_of_ble_eq_true rfl⟩ hP hK hD hS hA hZ (fun H locs hP hD hS => ?_)
      generalize eu_15 : p_writeCompute u (u.2 1 x1.toNatClampNeg) (u.2 2 x1.toNatClampNeg) (u.2 3 x1.toNatClampNeg) (u.2 4 x1.toNatClampNeg) = u_15 at hP hD ⊢
      try rw [eu_15] at hok
      refine lv_goto (tgt := 250) hx hb dX0_writeInstruction_131 (by decide) ?_
      have e9 : p_writeInstruction u x1 = u_15 := by
        subst eu_15
        rw [p_writeInstruction, if_neg c_6, if_pos c_12]
      rw [e9]
      exact W.vret hx hb hr (fun t ht hW => ⟨⟨(), rfl, trivial, by rw [ht]; exact hP, va_K.moved hW.alike hK, hD⟩, hS.F ht⟩) hS.2.2 dX0_writeInstruction_250
    · have hok := hok.2 c_12
      rcases Classical.em ((u.2 0 x1.toNatClampNeg) = 2) with c_16 | c_16
      · have hok := hok.1 c_16
        refine lv_tableIn (tgt := 134) hx hb dX0_writeInstruction_51 (by rw [c_16]; decide) (by rw [c_16]; decide) (by rw [c_16]; rfl) (by decide) ?_
        refine lv_aload_n hx hb dX0_writeInstruction_134 rfl (lv_at hl 4 rfl) ?_
        refine lv_iload_n hx hb dX0_writeInstruction_135 rfl (lv_at hl 2 rfl) ?_
        obtain ⟨h_17, hok⟩ := hok
        refine k_callVv (As := [.int (u.2 3 x1.toNatClampNeg)]) (rest := []) hzz ⟨hx, hb, hml, hown, hts⟩ (c_writeWordChoice l D ad cI cZ zz hzz tS hst u (u.2 3 x1.toNatClampNeg) h_17) (cwV 1 hts (tb_V tw_2_183 tw_2_185 slX0_writeWordChoice tw_1_3 tw_2_186) rfl rfl rfl (by decide +kernel) ⟨Nat.le_of_ble_eq_true rfl, Nat.le_of_ble_eq_true rfl⟩) (va_recv hK hP (ci := 0) (q0 := 2) rfl rfl) rfl hl.1 rfl (lv_room (Nat.le_of_ble_eq_true rfl)) dX0_writeInstruction_136 ⟨Nat.le_of_ble_eq_true rfl, Nat.le_of_ble_eq_true rfl⟩ hP hK hD hS hA hZ (fun H locs hP hD hS => ?_)
        generalize eu_18 : p_writeWordChoice u (u.2 3 x1.toNatClampNeg) = u_18 at hP hD ⊢
        try rw [eu_18] at hok
        refine lv_aload_n hx hb dX0_writeInstruction_139 rfl (lv_at hl 4 rfl) ?_
        refine lv_sipush (v := 22616) hx hb dX0_writeInstruction_140 (by decide) ?_
        refine lv_iload_n hx hb dX0_writeInstruction_143 rfl (lv_at hl 3 rfl) ?_
        refine k_callSi (As := [.int (u.2 2 x1.toNatClampNeg)]) (rest := [.int 22616, .ref (ad 2)]) hzz ⟨hx, hb, hml, hown, hts⟩ (c_targetOf l D ad cI cZ zz hzz tS hst (wT ad cI cZ u_18) (u.2 2 x1.toNatClampNeg)) (cwS 1 hts (tb_S tw_2_144 tw_2_145 tw_1_3 tw_2_146) rfl rfl rfl (by decide +kernel) ⟨Nat.le_of_ble_eq_true rfl, Nat.le_of_ble_eq_true rfl⟩) rfl hl.1 rfl (lv_room (Nat.le_of_ble_eq_true rfl)) dX0_writeInstruction_144 ⟨Nat.le_of_ble_eq_true rfl, Nat.le_of_ble_eq_true rfl⟩ hP hK hD hS hA hZ (fun H locs hP hD hS => ?_)
        refine lv_iadd hx hb dX0_writeInstruction_147 ?_
        obtain ⟨h_20, hok⟩ := hok
        refine k_callVv (As := [.int (22616 + (p_targetOf (u.2 2 x1.toNatClampNeg)))]) (rest := []) hzz ⟨hx, hb, hml, hown, hts⟩ (c_put l D ad cI cZ zz hzz tS hst u_18 (22616 + (p_targetOf (u.2 2 x1.toNatClampNeg))) h_20) (cwV 1 hts (tb_V tw_2_136 tw_2_138 slX0_put tw_1_3 tw_2_139) rfl rfl rfl (by decide +kernel) ⟨Nat.le_of_ble_eq_true rfl, Nat.le_of_ble_eq_true rfl⟩) (va_recv hK hP (ci := 0) (q0 := 2) rfl rfl) rfl hl.1 rfl (lv_room (Nat.le_of_ble_eq_true rfl)) dX0_writeInstruction_148 ⟨Nat.le_of_ble_eq_true rfl, Nat.le_of_ble_eq_true rfl⟩ hP hK hD hS hA hZ (fun H locs hP hD hS => ?_)
        generalize eu_21 : p_put u_18 (22616 + (p_targetOf (u.2 2 x1.toNatClampNeg))) = u_21 at hP hD ⊢
        try rw [eu_21] at hok
        refine lv_aload_n hx hb dX0_writeInstruction_151 rfl (lv_at hl 4 rfl) ?_
        refine lv_iload_n hx hb dX0_writeInstruction_152 rfl (lv_at hl 3 rfl) ?_
        obtain ⟨h_22, hok⟩ := hok
        refine k_callVv (As := [.int (u.2 2 x1.toNatClampNeg)]) (rest := []) hzz ⟨hx, hb, hml, hown, hts⟩ (c_keep l D ad cI cZ zz hzz tS hst u_21 (u.2 2 x1.toNatClampNeg) h_22) (cwV 1 hts (tb_V tw_2_160 tw_2_162 slX0_keep tw_1_3 tw_2_163) rfl rfl rfl (by decide +kernel) ⟨Nat.le_of_ble_eq_true rfl, Nat.le_of_ble_eq_true rfl⟩) (va_recv hK hP (ci := 0) (q0 := 2) rfl rfl) rfl hl.1 rfl (lv_room (Nat.le_of_ble_eq_true rfl)) dX0_writeInstruction_153 ⟨Nat.le_of_ble_eq_true rfl, Nat.le_of_ble_eq_true rfl⟩ hP hK hD hS hA hZ (fun H locs hP hD hS => ?_)
        generalize eu_23 : p_keep u_21 (u.2 2 x1.toNatClampNeg) = u_23 at hP hD ⊢
        try rw [eu_23] at hok
        refine lv_goto (tgt := 250) hx hb dX0_writeInstruction_156 (by decide) ?_
        have e9 : p_writeInstruction u x1 = u_23 := by
          subst eu_23
          subst eu_21
          subst eu_18
          rw [p_writeInstruction, if_neg c_6, if_neg c_12, if_pos c_16]
        rw [e9]
        exact W.vret hx hb hr (fun t ht hW => ⟨⟨(), rfl, trivial, by rw [ht]; exact hP, va_K.moved hW.alike hK, hD⟩, hS.F ht⟩) hS.2.2 dX0_writeInstruction_250
      · have hok := hok.2 c_16
        rcases Classical.em ((u.2 0 x1.toNatClampNeg) = 3) with c_24 | c_24
        · have hok := hok.1 c_24
          refine lv_tableIn (tgt := 159) hx hb dX0_writeInstruction_51 (by rw [c_24]; decide) (by rw [c_24]; decide) (by rw [c_24]; rfl) (by decide) ?_
          refine lv_aload_n hx hb dX0_writeInstruction_159 rfl (lv_at hl 4 rfl) ?_
          refine lv_iload_n hx hb dX0_writeInstruction_160 rfl (lv_at hl 2 rfl) ?_
          obtain ⟨h_25, hok⟩ := hok
          refine k_callVv (As := [.int (u.2 3 x1.toNatClampNeg)]) (rest := []) hzz ⟨hx, hb, hml, hown, hts⟩ (c_writeWordChoice l D ad cI cZ zz hzz tS hst u (u.2 3 x1.toNatClampNeg) h_25) (cwV 1 hts (tb_V tw_2_183 tw_2_185 slX0_writeWordChoice tw_1_3 tw_2_186) rfl rfl rfl (by decide +kernel) ⟨Nat.le_of_ble_eq_true rfl, Nat.le_of_ble_eq_true rfl⟩) (va_recv hK hP (ci := 0) (q0 := 2) rfl rfl) rfl hl.1 rfl (lv_room (Nat.le_of_ble_eq_true rfl)) dX0_writeInstruction_161 ⟨Nat.le_of_ble_eq_true rfl, Nat.le_of_ble_eq_true rfl⟩ hP hK hD hS hA hZ (fun H locs hP hD hS => ?_)
          generalize eu_26 : p_writeWordChoice u (u.2 3 x1.toNatClampNeg) = u_26 at hP hD ⊢
          try rw [eu_26] at hok
          refine lv_aload_n hx hb dX0_writeInstruction_164 rfl (lv_at hl 4 rfl) ?_
          refine lv_sipush (v := 20568) hx hb dX0_writeInstruction_165 (by decide) ?_
          refine lv_aload_n hx hb dX0_writeInstruction_168 rfl (lv_at hl 4 rfl) ?_
          refine lv_iload hx hb dX0_writeInstruction_169 (lv_at hl 1 rfl) ?_
          refine lv_iconst (v := 0) hx hb dX0_writeInstruction_171 (by decide) ?_
          obtain ⟨h_27, hok⟩ := hok
          refine k_callVi (As := [.int (u.2 4 x1.toNatClampNeg), .int 0]) (rest := [.int 20568, .ref (ad 2)]) hzz ⟨hx, hb, hml, hown, hts⟩ (c_fetch l D ad cI cZ zz hzz tS hst u_26 (u.2 4 x1.toNatClampNeg) 0 h_27) (cwV 2 hts (tb_V tw_2_172 tw_2_174 slX0_fetch tw_1_3 tw_2_175) rfl rfl rfl (by decide +kernel) ⟨Nat.le_of_ble_eq_true rfl, Nat.le_of_ble_eq_true rfl⟩) (va_recv hK hP (ci := 0) (q0 := 2) rfl rfl) rfl hl.1 rfl (lv_room (Nat.le_of_ble_eq_true rfl)) dX0_writeInstruction_172 ⟨Nat.le_of_ble_eq_true rfl, Nat.le_of_ble_eq_true rfl⟩ hP hK hD hS hA hZ (fun H locs hP hD hS => ?_)
          generalize eu_28 : (p_fetch u_26 (u.2 4 x1.toNatClampNeg) 0).2 = u_28 at hP hD ⊢
          try rw [eu_28] at hok
          refine lv_iadd hx hb dX0_writeInstruction_175 ?_
          obtain ⟨h_29, hok⟩ := hok
          refine k_callVv (As := [.int (20568 + ((p_fetch u_26 (u.2 4 x1.toNatClampNeg) 0).1))]) (rest := []) hzz ⟨hx, hb, hml, hown, hts⟩ (c_put l D ad cI cZ zz hzz tS hst u_28 (20568 + ((p_fetch u_26 (u.2 4 x1.toNatClampNeg) 0).1)) h_29) (cwV 1 hts (tb_V tw_2_136 tw_2_138 slX0_put tw_1_3 tw_2_139) rfl rfl rfl (by decide +kernel) ⟨Nat.le_of_ble_eq_true rfl, Nat.le_of_ble_eq_true rfl⟩) (va_recv hK hP (ci := 0) (q0 := 2) rfl rfl) rfl hl.1 rfl (lv_room (Nat.le_of_ble_eq_true rfl)) dX0_writeInstruction_176 ⟨Nat.le_of_ble_eq_true rfl, Nat.le_of_ble_eq_true rfl⟩ hP hK hD hS hA hZ (fun H locs hP hD hS => ?_)
          generalize eu_30 : p_put u_28 (20568 + ((p_fetch u_26 (u.2 4 x1.toNatClampNeg) 0).1)) = u_30 at hP hD ⊢
          try rw [eu_30] at hok
          refine lv_goto (tgt := 250) hx hb dX0_writeInstruction_179 (by decide) ?_
          have e9 : p_writeInstruction u x1 = u_30 := by
            subst eu_30
            subst eu_28
            subst eu_26
            rw [p_writeInstruction, if_neg c_6, if_neg c_12, if_neg c_16, if_pos c_24]
          rw [e9]
          exact W.vret hx hb hr (fun t ht hW => ⟨⟨(), rfl, trivial, by rw [ht]; exact hP, va_K.moved hW.alike hK, hD⟩, hS.F ht⟩) hS.2.2 dX0_writeInstruction_250
        · have hok := hok.2 c_24
          rcases Classical.em ((u.2 0 x1.toNatClampNeg) = 4) with c_31 | c_31
          · have hok := hok.1 c_31
            refine lv_tableIn (tgt := 182) hx hb dX0_writeInstruction_51 (by rw [c_31]; decide) (by rw [c_31]; decide) (by rw [c_31]; rfl) (by decide) ?_
            refine lv_aload_n hx hb dX0_writeInstruction_182 rfl (lv_at hl 4 rfl) ?_
            refine lv_iload hx hb dX0_writeInstruction_183 (lv_at hl 0 rfl) ?_
            obtain ⟨h_32, hok⟩ := hok
            refine k_callVv (As := [.int (u.2 5 x1.toNatClampNeg)]) (rest := []) hzz ⟨hx, hb, hml, hown, hts⟩ (c_writeJump l D ad cI cZ zz hzz tS hst u (u.2 5 x1.toNatClampNeg) h_32) (cwV 1 hts (tb_V tw_2_187 tw_2_189 slX0_writeJump tw_1_3 tw_2_190) rfl rfl rfl (by decide +kernel) ⟨Nat.le_of_ble_eq_true rfl, Nat.le_of_ble_eq_true rfl⟩) (va_recv hK hP (ci := 0) (q0 := 2) rfl rfl) rfl hl.1 rfl (lv_room (Nat.le_of_ble_eq_true rfl)) dX0_writeInstruction_185 ⟨Nat.le_of_ble_eq_true rfl, Nat.le_of_ble_eq_true rfl⟩ hP hK hD hS hA hZ (fun H locs hP hD hS => ?_)
            generalize eu_33 : p_writeJump u (u.2 5 x1.toNatClampNeg) = u_33 at hP hD ⊢
            try rw [eu_33] at hok
            refine lv_goto (tgt := 250) hx hb dX0_writeInstruction_188 (by decide) ?_
            have e9 : p_writeInstruction u x1 = u_33 := by
              subst eu_33
              rw [p_writeInstruction, if_neg c_6, if_neg c_12, if_neg c_16, if_neg c_24, if_pos c_31]
            rw [e9]
            exact W.vret hx hb hr (fun t ht hW => ⟨⟨(), rfl, trivial, by rw [ht]; exact hP, va_K.moved hW.alike hK, hD⟩, hS.F ht⟩) hS.2.2 dX0_writeInstruction_250
          · have hok := hok.2 c_31
            rcases Classical.em ((u.2 0 x1.toNatClampNeg) = 5) with c_34 | c_34
            · have hok := hok.1 c_34
              refine lv_tableIn (tgt := 191) hx hb dX0_writeInstruction_51 (by rw [c_34]; decide) (by rw [c_34]; decide) (by rw [c_34]; rfl) (by decide) ?_
              refine lv_aload_n hx hb dX0_writeInstruction_191 rfl (lv_at hl 4 rfl) ?_
              refine lv_aload_n hx hb dX0_writeInstruction_192 rfl (lv_at hl 4 rfl) ?_
              refine va_get (ci := 0) (v := .ref (ad 1)) (C := RX0) (T := TX0) (N := 9) hx hb hts (ivX0 _) hown hK hP 2 rfl rfl 0 (by decide) (hts _ (tb_c tw_1_69)) (fun _ h9 => h9) rfl dX0_writeInstruction_193 ?_
              refine va_get (ci := 2) (v := .ref (ad 5)) (C := RX2) (T := TX2) (N := 7) hx hb hts (ivX2 _) hown hK hP 1 rfl rfl 1 (by decide) (hts _ (tb_c tw_1_31)) (fun _ h9 => h9) rfl dX0_writeInstruction_196 ?_
              refine lv_iload_n hx hb dX0_writeInstruction_199 rfl (lv_at hl 5 rfl) ?_
              obtain ⟨h_35, hok⟩ := hok
              refine va_iald (f := u.2 1) hx hb hK hP 5 0 rfl rfl h_35 dX0_writeInstruction_200 ?_
              refine lv_iload_n hx hb dX0_writeInstruction_201 rfl (lv_at hl 2 rfl) ?_
              refine lv_iload hx hb dX0_writeInstruction_202 (lv_at hl 1 rfl) ?_
              refine lv_iload hx hb dX0_writeInstruction_204 (lv_at hl 0 rfl) ?_
              refine lv_aload_n hx hb dX0_writeInstruction_206 rfl (lv_at hl 4 rfl) ?_
              refine va_get (ci := 0) (v := .ref (ad 12)) (C := RX0) (T := TX0) (N := 9) hx hb hts (ivX0 _) hown hK hP 2 rfl rfl 3 (by decide) (hts _ (tb_c tw_1_74)) (fun _ h9 => h9) rfl dX0_writeInstruction_207 ?_
              refine lv_iload_n hx hb dX0_writeInstruction_210 rfl (lv_at hl 5 rfl) ?_
              obtain ⟨h_36, hok⟩ := hok
              refine va_zald (f := u.2 8) hx hb hK hP 12 1 rfl rfl h_36 dX0_writeInstruction_211 ?_
              obtain ⟨h_37, hok⟩ := hok
              refine k_callVv (As := [.int (u.2 1 x1.toNatClampNeg), .int (u.2 3 x1.toNatClampNeg), .int (u.2 4 x1.toNatClampNeg), .int (u.2 5 x1.toNatClampNeg), .int (u.2 8 x1.toNatClampNeg)]) (rest := []) hzz ⟨hx, hb, hml, hown, hts⟩ (c_writeBranch l D ad cI cZ zz hzz tS hst u (u.2 1 x1.toNatClampNeg) (u.2 3 x1.toNatClampNeg) (u.2 4 x1.toNatClampNeg) (u.2 5 x1.toNatClampNeg) (u.2 8 x1.toNatClampNeg) h_37) (cwV 5 hts (tb_V tw_2_196 tw_2_198 slX0_writeBranch tw_1_3 tw_2_199) rfl rfl rfl (by decide +kernel) ⟨Nat.le_of_ble_eq_true rfl, Nat.le_of_ble_eq_true rfl⟩) (va_recv hK hP (ci := 0) (q0 := 2) rfl rfl) rfl hl.1 rfl (lv_room (Nat.le_of_ble_eq_true rfl)) dX0_writeInstruction_212 ⟨Nat.le_of_ble_eq_true rfl, Nat.le_of_ble_eq_true rfl⟩ hP hK hD hS hA hZ (fun H locs hP hD hS => ?_)
              generalize eu_38 : p_writeBranch u (u.2 1 x1.toNatClampNeg) (u.2 3 x1.toNatClampNeg) (u.2 4 x1.toNatClampNeg) (u.2 5 x1.toNatClampNeg) (u.2 8 x1.toNatClampNeg) = u_38 at hP hD ⊢
              try rw [eu_38] at hok
              refine lv_goto (tgt := 250) hx hb dX0_writeInstruction_215 (by decide) ?_
              have e9 : p_writeInstruction u x1 = u_38 := by
                subst eu_38
                rw [p_writeInstruction, if_neg c_6, if_neg c_12, if_neg c_16, if_neg c_24, if_neg c_31, if_pos c_34]
              rw [e9]
              exact W.vret hx hb hr (fun t ht hW => ⟨⟨(), rfl, trivial, by rw [ht]; exact hP, va_K.moved hW.alike hK, hD⟩, hS.F ht⟩) hS.2.2 dX0_writeInstruction_250
            · have hok := hok.2 c_34
              rcases Classical.em ((u.2 0 x1.toNatClampNeg) = 6) with c_39 | c_39
              · have hok := hok.1 c_39
                refine lv_tableIn (tgt := 218) hx hb dX0_writeInstruction_51 (by rw [c_39]; decide) (by rw [c_39]; decide) (by rw [c_39]; rfl) (by decide) ?_
                refine lv_aload_n hx hb dX0_writeInstruction_218 rfl (lv_at hl 4 rfl) ?_
                refine lv_iload_n hx hb dX0_writeInstruction_219 rfl (lv_at hl 2 rfl) ?_
                obtain ⟨h_40, hok⟩ := hok
                refine k_callVv (As := [.int (u.2 3 x1.toNatClampNeg)]) (rest := []) hzz ⟨hx, hb, hml, hown, hts⟩ (c_copyTo0 l D ad cI cZ zz hzz tS hst u (u.2 3 x1.toNatClampNeg) h_40) (cwV 1 hts (tb_V tw_2_177 tw_2_179 slX0_copyTo0 tw_1_3 tw_2_180) rfl rfl rfl (by decide +kernel) ⟨Nat.le_of_ble_eq_true rfl, Nat.le_of_ble_eq_true rfl⟩) (va_recv hK hP (ci := 0) (q0 := 2) rfl rfl) rfl hl.1 rfl (lv_room (Nat.le_of_ble_eq_true rfl)) dX0_writeInstruction_220 ⟨Nat.le_of_ble_eq_true rfl, Nat.le_of_ble_eq_true rfl⟩ hP hK hD hS hA hZ (fun H locs hP hD hS => ?_)
                generalize eu_41 : p_copyTo0 u (u.2 3 x1.toNatClampNeg) = u_41 at hP hD ⊢
                try rw [eu_41] at hok
                refine lv_aload_n hx hb dX0_writeInstruction_223 rfl (lv_at hl 4 rfl) ?_
                refine lv_ldc (v := 57088) hx hb hown (hts _ (tb_c tw_2_201)) dX0_writeInstruction_224 ?_
                obtain ⟨h_42, hok⟩ := hok
                refine k_callVv (As := [.int 57088]) (rest := []) hzz ⟨hx, hb, hml, hown, hts⟩ (c_put l D ad cI cZ zz hzz tS hst u_41 57088 h_42) (cwV 1 hts (tb_V tw_2_136 tw_2_138 slX0_put tw_1_3 tw_2_139) rfl rfl rfl (by decide +kernel) ⟨Nat.le_of_ble_eq_true rfl, Nat.le_of_ble_eq_true rfl⟩) (va_recv hK hP (ci := 0) (q0 := 2) rfl rfl) rfl hl.1 rfl (lv_room (Nat.le_of_ble_eq_true rfl)) dX0_writeInstruction_226 ⟨Nat.le_of_ble_eq_true rfl, Nat.le_of_ble_eq_true rfl⟩ hP hK hD hS hA hZ (fun H locs hP hD hS => ?_)
                generalize eu_43 : p_put u_41 57088 = u_43 at hP hD ⊢
                try rw [eu_43] at hok
                refine lv_goto (tgt := 250) hx hb dX0_writeInstruction_229 (by decide) ?_
                have e9 : p_writeInstruction u x1 = u_43 := by
                  subst eu_43
                  subst eu_41
                  rw [p_writeInstruction, if_neg c_6, if_neg c_12, if_neg c_16, if_neg c_24, if_neg c_31, if_neg c_34, if_pos c_39]
                rw [e9]
                exact W.vret hx hb hr (fun t ht hW => ⟨⟨(), rfl, trivial, by rw [ht]; exact hP, va_K.moved hW.alike hK, hD⟩, hS.F ht⟩) hS.2.2 dX0_writeInstruction_250
              · have hok := hok.2 c_39
                rcases Classical.em ((u.2 0 x1.toNatClampNeg) = 7) with c_44 | c_44
                · have hok := hok.1 c_44
                  refine lv_tableIn (tgt := 232) hx hb dX0_writeInstruction_51 (by rw [c_44]; decide) (by rw [c_44]; decide) (by rw [c_44]; rfl) (by decide) ?_
                  refine lv_aload_n hx hb dX0_writeInstruction_232 rfl (lv_at hl 4 rfl) ?_
                  refine lv_ldc (v := 57089) hx hb hown (hts _ (tb_c tw_2_202)) dX0_writeInstruction_233 ?_
                  obtain ⟨h_45, hok⟩ := hok
                  refine k_callVv (As := [.int 57089]) (rest := []) hzz ⟨hx, hb, hml, hown, hts⟩ (c_put l D ad cI cZ zz hzz tS hst u 57089 h_45) (cwV 1 hts (tb_V tw_2_136 tw_2_138 slX0_put tw_1_3 tw_2_139) rfl rfl rfl (by decide +kernel) ⟨Nat.le_of_ble_eq_true rfl, Nat.le_of_ble_eq_true rfl⟩) (va_recv hK hP (ci := 0) (q0 := 2) rfl rfl) rfl hl.1 rfl (lv_room (Nat.le_of_ble_eq_true rfl)) dX0_writeInstruction_235 ⟨Nat.le_of_ble_eq_true rfl, Nat.le_of_ble_eq_true rfl⟩ hP hK hD hS hA hZ (fun H locs hP hD hS => ?_)
                  generalize eu_46 : p_put u 57089 = u_46 at hP hD ⊢
                  try rw [eu_46] at hok
                  refine lv_goto (tgt := 250) hx hb dX0_writeInstruction_238 (by decide) ?_
                  have e9 : p_writeInstruction u x1 = u_46 := by
                    subst eu_46
                    rw [p_writeInstruction, if_neg c_6, if_neg c_12, if_neg c_16, if_neg c_24, if_neg c_31, if_neg c_34, if_neg c_39, if_pos c_44]
                  rw [e9]
                  exact W.vret hx hb hr (fun t ht hW => ⟨⟨(), rfl, trivial, by rw [ht]; exact hP, va_K.moved hW.alike hK, hD⟩, hS.F ht⟩) hS.2.2 dX0_writeInstruction_250
                · have hok := hok.2 c_44
                  have n_c_6 := lv_neT (k := 0) (a := 0) c_6 rfl
                  have n_c_12 := lv_neT (k := 1) (a := 1) c_12 rfl
                  have n_c_16 := lv_neT (k := 2) (a := 2) c_16 rfl
                  have n_c_24 := lv_neT (k := 3) (a := 3) c_24 rfl
                  have n_c_31 := lv_neT (k := 4) (a := 4) c_31 rfl
                  have n_c_34 := lv_neT (k := 5) (a := 5) c_34 rfl
                  have n_c_39 := lv_neT (k := 6) (a := 6) c_39 rfl
                  have n_c_44 := lv_neT (k := 7) (a := 7) c_44 rfl
                  refine lv_tableOut (tgt := 241) hx hb dX0_writeInstruction_51 (by omega) (by decide) ?_
                  refine lv_aload_n hx hb dX0_writeInstruction_241 rfl (lv_at hl 4 rfl) ?_
                  refine lv_ldc (v := 56832) hx hb hown (hts _ (tb_c tw_2_203)) dX0_writeInstruction_242 ?_
                  refine lv_iload hx hb dX0_writeInstruction_244 (lv_at hl 0 rfl) ?_
                  refine lv_iadd hx hb dX0_writeInstruction_246 ?_
                  obtain ⟨h_47, hok⟩ := hok
                  refine k_callVv (As := [.int (56832 + (u.2 5 x1.toNatClampNeg))]) (rest := []) hzz ⟨hx, hb, hml, hown, hts⟩ (c_put l D ad cI cZ zz hzz tS hst u (56832 + (u.2 5 x1.toNatClampNeg)) h_47) (cwV 1 hts (tb_V tw_2_136 tw_2_138 slX0_put tw_1_3 tw_2_139) rfl rfl rfl (by decide +kernel) ⟨Nat.le_of_ble_eq_true rfl, Nat.le_of_ble_eq_true rfl⟩) (va_recv hK hP (ci := 0) (q0 := 2) rfl rfl) rfl hl.1 rfl (lv_room (Nat.le_of_ble_eq_true rfl)) dX0_writeInstruction_247 ⟨Nat.le_of_ble_eq_true rfl, Nat.le_of_ble_eq_true rfl⟩ hP hK hD hS hA hZ (fun H locs hP hD hS => ?_)
                  generalize eu_48 : p_put u (56832 + (u.2 5 x1.toNatClampNeg)) = u_48 at hP hD ⊢
                  try rw [eu_48] at hok
                  have e9 : p_writeInstruction u x1 = u_48 := by
                    subst eu_48
                    rw [p_writeInstruction, if_neg c_6, if_neg c_12, if_neg c_16, if_neg c_24, if_neg c_31, if_neg c_34, if_neg c_39, if_neg c_44]
                  rw [e9]
                  exact W.vret hx hb hr (fun t ht hW => ⟨⟨(), rfl, trivial, by rw [ht]; exact hP, va_K.moved hW.alike hK, hD⟩, hS.F ht⟩) hS.2.2 dX0_writeInstruction_250

def p_writeCode_19 : Nat → St → Int32 → St
  | 0, u, _ => u
  | n + 1, u, x1 => (if (u.1 0) ≤ x1 then sS (sA u 7 (u.1 0) (u.1 3)) 2 ((u.1 3) + ((u.1 3) - (u.1 3) / 2 * 2)) else p_writeCode_19 n (p_writeInstruction (sA u 7 x1 (u.1 3)) x1) (x1 + 1))
def ok_writeCode_19 : Nat → St → Int32 → Prop
  | 0, _, _ => False
  | n + 1, u, x1 => (((u.1 0) ≤ x1 → (vp_in (u.1 0) 49 ∧ True)) ∧ (¬ (u.1 0) ≤ x1 → (vp_in x1 49 ∧ (ok_writeInstruction (sA u 7 x1 (u.1 3)) x1 ∧ ok_writeCode_19 n (p_writeInstruction (sA u 7 x1 (u.1 3)) x1) (x1 + 1)))))
set_option maxHeartbeats 4000000 in
set_option maxRecDepth 100000 in
theorem w_writeCode_19 {p : Program} {l : Launch} {e : Env} {s : State} {m : MethodId} {args : Array Value} {below : List Frame} {meth : Method} {c : Code} {D : va_G} {A : Nat → Prop} (ad : Nat → Nat) (cI cZ : ClassId) (zz : (Nat → Prop) → State → Heap → Prop) (hzz : Zok zz) (tS : Nat) (hst : Zst zz tS) (Cx : cxt p s m args meth c cX0_writeCode 2 none wsX0_writeCode RX0 D vwCl (tyT cI cZ) zz A) : ∀ (n : Nat) (u : St) (x1 : Int32) (H : Heap) (locs : List Loc) (ls : Array Slot), ok_writeCode_19 n u x1 → va_P D vwCl (wT ad cI cZ u) H → va_D A (wT ad cI cZ u) → va_S A s.heap H locs → lv_has ls 2 [(0, .ref (ad 2)), (1, .int x1)] → W p l e ({ frames := 4, cells := 0, slots := 0, locals := 95 } : Room) s m args below meth c H locs 0 0 (MQ below (qqV D vwCl (tyT cI cZ) (wT ad cI cZ (p_writeCode_19 n u x1)) A) args s 0 0 A) (F0 m 19 ls []) := by
  obtain ⟨hx, hb, hr, hts, hown, hlocks, hml, hK, hA, hZ⟩ := id Cx
  intro n
  induction n with
  | zero =>
    intro u x1 H locs ls hok
    exact False.elim hok
  | succ n ih =>
    intro u x1 H locs ls hok hP hD hS hl
    unfold ok_writeCode_19 at hok
    refine lv_iload_n hx hb dX0_writeCode_19 rfl (lv_at hl 1 rfl) ?_
    refine lv_aload_n hx hb dX0_writeCode_20 rfl (lv_at hl 0 rfl) ?_
    refine va_get (ci := 0) (v := .ref (ad 1)) (C := RX0) (T := TX0) (N := 9) hx hb hts (ivX0 _) hown hK hP 2 rfl rfl 0 (by decide) (hts _ (tb_c tw_1_69)) (fun _ h9 => h9) rfl dX0_writeCode_21 ?_
    refine va_get (ci := 2) (v := .int (u.1 0)) (C := RX2) (T := TX2) (N := 7) hx hb hts (ivX2 _) hown hK hP 1 rfl rfl 6 (by decide) (hts _ (tb_c tw_1_45)) (fun _ h9 => h9) rfl dX0_writeCode_24 ?_
    refine lv_icmp_ge (tgt := 51) hx hb dX0_writeCode_27 (by decide) (fun c_1 => ?_) (fun c_1 => ?_)
    · have hok := hok.1 c_1
      refine lv_aload_n hx hb dX0_writeCode_51 rfl (lv_at hl 0 rfl) ?_
      refine va_get (ci := 0) (v := .ref (ad 11)) (C := RX0) (T := TX0) (N := 9) hx hb hts (ivX0 _) hown hK hP 2 rfl rfl 2 (by decide) (hts _ (tb_c tw_1_72)) (fun _ h9 => h9) rfl dX0_writeCode_52 ?_
      refine lv_aload_n hx hb dX0_writeCode_55 rfl (lv_at hl 0 rfl) ?_
      refine va_get (ci := 0) (v := .ref (ad 1)) (C := RX0) (T := TX0) (N := 9) hx hb hts (ivX0 _) hown hK hP 2 rfl rfl 0 (by decide) (hts _ (tb_c tw_1_69)) (fun _ h9 => h9) rfl dX0_writeCode_56 ?_
      refine va_get (ci := 2) (v := .int (u.1 0)) (C := RX2) (T := TX2) (N := 7) hx hb hts (ivX2 _) hown hK hP 1 rfl rfl 6 (by decide) (hts _ (tb_c tw_1_45)) (fun _ h9 => h9) rfl dX0_writeCode_59 ?_
      refine lv_aload_n hx hb dX0_writeCode_62 rfl (lv_at hl 0 rfl) ?_
      refine va_get (ci := 0) (v := .int (u.1 3)) (C := RX0) (T := TX0) (N := 9) hx hb hts (ivX0 _) hown hK hP 2 rfl rfl 7 (by decide) (hts _ (tb_c tw_1_79)) (fun _ h9 => h9) rfl dX0_writeCode_63 ?_
      obtain ⟨h_2, hok⟩ := hok
      refine va_iast hx hb hK hP hD hS 11 0 rfl rfl h_2 dX0_writeCode_66 (fun H locs hP hD hS => ?_)
      have hP : va_P D vwCl (wT ad cI cZ (sA u 7 (u.1 0) (u.1 3))) H := hP
      have hD : va_D A (wT ad cI cZ (sA u 7 (u.1 0) (u.1 3))) := hD
      refine lv_aload_n hx hb dX0_writeCode_67 rfl (lv_at hl 0 rfl) ?_
      refine lv_aload_n hx hb dX0_writeCode_68 rfl (lv_at hl 0 rfl) ?_
      refine va_get (ci := 0) (v := .int (u.1 3)) (C := RX0) (T := TX0) (N := 9) hx hb hts (ivX0 _) hown hK hP 2 rfl rfl 7 (by decide) (hts _ (tb_c tw_1_79)) (fun _ h9 => h9) rfl dX0_writeCode_69 ?_
      refine lv_aload_n hx hb dX0_writeCode_72 rfl (lv_at hl 0 rfl) ?_
      refine va_get (ci := 0) (v := .int (u.1 3)) (C := RX0) (T := TX0) (N := 9) hx hb hts (ivX0 _) hown hK hP 2 rfl rfl 7 (by decide) (hts _ (tb_c tw_1_79)) (fun _ h9 => h9) rfl dX0_writeCode_73 ?_
      refine lv_iconst (v := 2) hx hb dX0_writeCode_76 (by decide) ?_
      refine lv_irem hx hb dX0_writeCode_77 (by decide) ?_
      refine lv_iadd hx hb dX0_writeCode_78 ?_
      refine va_put (ci := 0) (v := .int ((u.1 3) + ((u.1 3) - (u.1 3) / 2 * 2))) (ty := .int) (C := RX0) (T := TX0) (N := 9) hx hb hts (ivX0 _) tyX0 tyX0_ok nmX0 hown hK hP hD hS 2 rfl rfl 6 (by decide) (hts _ (tb_c tw_1_78)) (fun _ h9 => h9) rfl (by decide +kernel) rfl rfl (Nat.le_of_ble_eq_true rfl) dX0_writeCode_79 (fun H locs hP hD hS => ?_)
      have hP : va_P D vwCl (wT ad cI cZ (sS (sA u 7 (u.1 0) (u.1 3)) 2 ((u.1 3) + ((u.1 3) - (u.1 3) / 2 * 2)))) H := hP
      have hD : va_D A (wT ad cI cZ (sS (sA u 7 (u.1 0) (u.1 3)) 2 ((u.1 3) + ((u.1 3) - (u.1 3) / 2 * 2)))) := hD
      have e9 : p_writeCode_19 (n + 1) u x1 = sS (sA u 7 (u.1 0) (u.1 3)) 2 ((u.1 3) + ((u.1 3) - (u.1 3) / 2 * 2)) := by rw [p_writeCode_19, if_pos c_1]
      rw [e9]
      exact W.vret hx hb hr (fun t ht hW => ⟨⟨(), rfl, trivial, by rw [ht]; exact hP, va_K.moved hW.alike hK, hD⟩, hS.F ht⟩) hS.2.2 dX0_writeCode_82
    · have hok := hok.2 c_1
      refine lv_aload_n hx hb dX0_writeCode_30 rfl (lv_at hl 0 rfl) ?_
      refine va_get (ci := 0) (v := .ref (ad 11)) (C := RX0) (T := TX0) (N := 9) hx hb hts (ivX0 _) hown hK hP 2 rfl rfl 2 (by decide) (hts _ (tb_c tw_1_72)) (fun _ h9 => h9) rfl dX0_writeCode_31 ?_
      refine lv_iload_n hx hb dX0_writeCode_34 rfl (lv_at hl 1 rfl) ?_
      refine lv_aload_n hx hb dX0_writeCode_35 rfl (lv_at hl 0 rfl) ?_
      refine va_get (ci := 0) (v := .int (u.1 3)) (C := RX0) (T := TX0) (N := 9) hx hb hts (ivX0 _) hown hK hP 2 rfl rfl 7 (by decide) (hts _ (tb_c tw_1_79)) (fun _ h9 => h9) rfl dX0_writeCode_36 ?_
      obtain ⟨h_3, hok⟩ := hok
      refine va_iast hx hb hK hP hD hS 11 0 rfl rfl h_3 dX0_writeCode_39 (fun H locs hP hD hS => ?_)
      have hP : va_P D vwCl (wT ad cI cZ (sA u 7 x1 (u.1 3))) H := hP
      have hD : va_D A (wT ad cI cZ (sA u 7 x1 (u.1 3))) := hD
      refine lv_aload_n hx hb dX0_writeCode_40 rfl (lv_at hl 0 rfl) ?_
      refine lv_iload_n hx hb dX0_writeCode_41 rfl (lv_at hl 1 rfl) ?_
      obtain ⟨h_4, hok⟩ := hok
      refine k_callVv (As := [.int x1]) (rest := []) hzz ⟨hx, hb, hml, hown, hts⟩ (c_writeInstruction l D ad cI cZ zz hzz tS hst (sA u 7 x1 (u.1 3)) x1 h_4) (cwV 1 hts (tb_V tw_2_140 tw_2_142 slX0_writeInstruction tw_1_3 tw_2_143) rfl rfl rfl (by decide +kernel) ⟨Nat.le_of_ble_eq_true rfl, Nat.le_of_ble_eq_true rfl⟩) (va_recv hK hP (ci := 0) (q0 := 2) rfl rfl) rfl hl.1 rfl (lv_room (Nat.le_of_ble_eq_true rfl)) dX0_writeCode_42 ⟨Nat.le_of_ble_eq_true rfl, Nat.le_of_ble_eq_true rfl⟩ hP hK hD hS hA hZ (fun H locs hP hD hS => ?_)
      generalize eu_5 : p_writeInstruction (sA u 7 x1 (u.1 3)) x1 = u_5 at hP hD ⊢
      try rw [eu_5] at hok
      refine lv_iinc (v := x1 + 1) (lv' := [(1, .int (x1 + 1)), (0, .ref (ad 2))]) hx hb dX0_writeCode_45 hl (k := 1) rfl rfl (by decide) rfl (fun ls hl => ?_)
      refine lv_goto (tgt := 19) hx hb dX0_writeCode_48 (by decide) ?_
      have e9 : p_writeCode_19 (n + 1) u x1 = p_writeCode_19 n u_5 (x1 + 1) := by
        subst eu_5
        rw [p_writeCode_19, if_neg c_1]
      rw [e9]
      exact ih u_5 (x1 + 1) _ _ _ hok hP hD hS (lv_sub hl [1, 0] rfl)
def p_writeCode (u : St) : St := p_writeCode_19 64 (p_writeLiteral (sS (sS u 3 0) 1 0) 536870912 3) 0
def ok_writeCode (u : St) : Prop := (ok_writeLiteral (sS (sS u 3 0) 1 0) 536870912 3 ∧ ok_writeCode_19 64 (p_writeLiteral (sS (sS u 3 0) 1 0) 536870912 3) 0)
set_option maxHeartbeats 4000000 in
set_option maxRecDepth 100000 in
theorem c_writeCode (l : Launch) (D : va_G) (ad : Nat → Nat) (cI cZ : ClassId) (zz : (Nat → Prop) → State → Heap → Prop) (hzz : Zok zz) (tS : Nat) (hst : Zst zz tS) (u : St) (hok : ok_writeCode u) : tfV l D vwCl (tyT cI cZ) zz yX0_writeCode wsX0_writeCode ({ frames := 4, cells := 0, slots := 0, locals := 95 } : Room) [.ref (ad 2)] (wT ad cI cZ u) (wT ad cI cZ (p_writeCode u)) := by
  intro sz
  unfold ok_writeCode at hok
  refine Met.ofW (cc := cX0_writeCode) (maxL := 2) (ret := none) (by decide) rfl ?_
  intro p e s m args below meth c s₁ B hml hv
  obtain ⟨rfl, hsz, hP, hK, hD0, hZ⟩ := hv
  have hx := B.exec
  have hb := B.bytes
  have hr := B.returns
  have hts := atoms_spec (ws := wsX0_writeCode) B.pre
  have hown : s.vm.findClass RX0 = some m.cls := findClass_of_methodNamed B.named
  have hlocks := B.notSynchronized
  subst hsz
  have hD := hD0.self (sz := s.heap.size)
  generalize hAe : va_A (wT ad cI cZ u) s.heap.size = A at hD hZ ⊢
  have hA : ∀ q : Nat, s.heap.size ≤ q → A q := fun q h => by rw [← hAe]; exact Or.inr h
  have hS : va_S A s.heap s.heap [] := va_S.rf
  have Cx : cxt p s m ([.ref (ad 2)] : List Value).toArray meth c cX0_writeCode 2 none wsX0_writeCode RX0 D vwCl (tyT cI cZ) zz A := ⟨hx, hb, hr, hts, hown, hlocks, hml, hK, hA, hZ⟩
  have hl := lv_entry ([.ref (ad 2)]) (n := 2) (Nat.le_of_ble_eq_true rfl)
  rw [lg_entry_eq]
  generalize (lg_sl ([.ref (ad 2)]) ++ List.replicate (2 - (lg_sl ([.ref (ad 2)])).length) Slot.unset).toArray = ls at hl ⊢
  have hl : lv_has ls 2 [(0, .ref (ad 2))] := hl
  refine lv_aload_n hx hb dX0_writeCode_0 rfl (lv_at hl 0 rfl) ?_
  refine lv_iconst (v := 0) hx hb dX0_writeCode_1 (by decide) ?_
  refine va_put (ci := 0) (v := .int 0) (ty := .int) (C := RX0) (T := TX0) (N := 9) hx hb hts (ivX0 _) tyX0 tyX0_ok nmX0 hown hK hP hD hS 2 rfl rfl 7 (by decide) (hts _ (tb_c tw_1_79)) (fun _ h9 => h9) rfl (by decide +kernel) rfl rfl (Nat.le_of_ble_eq_true rfl) dX0_writeCode_2 (fun H locs hP hD hS => ?_)
  have hP : va_P D vwCl (wT ad cI cZ (sS u 3 0)) H := hP
  have hD : va_D A (wT ad cI cZ (sS u 3 0)) := hD
  refine lv_aload_n hx hb dX0_writeCode_5 rfl (lv_at hl 0 rfl) ?_
  refine lv_iconst (v := 0) hx hb dX0_writeCode_6 (by decide) ?_
  refine va_put (ci := 0) (v := .int 0) (ty := .int) (C := RX0) (T := TX0) (N := 9) hx hb hts (ivX0 _) tyX0 tyX0_ok nmX0 hown hK hP hD hS 2 rfl rfl 5 (by decide) (hts _ (tb_c tw_1_77)) (fun _ h9 => h9) rfl (by decide +kernel) rfl rfl (Nat.le_of_ble_eq_true rfl) dX0_writeCode_7 (fun H locs hP hD hS => ?_)
  have hP : va_P D vwCl (wT ad cI cZ (sS (sS u 3 0) 1 0)) H := hP
  have hD : va_D A (wT ad cI cZ (sS (sS u 3 0) 1 0)) := hD
  refine lv_aload_n hx hb dX0_writeCode_10 rfl (lv_at hl 0 rfl) ?_
  refine lv_ldc (v := 536870912) hx hb hown (hts _ (tb_c tw_2_127)) dX0_writeCode_11 ?_
  refine lv_iconst (v := 3) hx hb dX0_writeCode_13 (by decide) ?_
  obtain ⟨h_1, hok⟩ := hok
  refine k_callVv (As := [.int 536870912, .int 3]) (rest := []) hzz ⟨hx, hb, hml, hown, hts⟩ (c_writeLiteral l D ad cI cZ zz hzz tS hst (sS (sS u 3 0) 1 0) 536870912 3 h_1) (cwV 2 hts (tb_V tw_2_128 tw_2_130 slX0_writeLiteral tw_1_3 tw_2_131) rfl rfl rfl (by decide +kernel) ⟨Nat.le_of_ble_eq_true rfl, Nat.le_of_ble_eq_true rfl⟩) (va_recv hK hP (ci := 0) (q0 := 2) rfl rfl) rfl hl.1 rfl (lv_room (Nat.le_of_ble_eq_true rfl)) dX0_writeCode_14 ⟨Nat.le_of_ble_eq_true rfl, Nat.le_of_ble_eq_true rfl⟩ hP hK hD hS hA hZ (fun H locs hP hD hS => ?_)
  generalize eu_2 : p_writeLiteral (sS (sS u 3 0) 1 0) 536870912 3 = u_2 at hP hD ⊢
  try rw [eu_2] at hok
  refine lv_iconst (v := 0) hx hb dX0_writeCode_17 (by decide) ?_
  refine lv_istore_n (lv' := [(1, .int 0), (0, .ref (ad 2))]) hx hb dX0_writeCode_18 rfl hl (by decide) rfl (fun ls hl => ?_)
  have e9 : p_writeCode u = p_writeCode_19 64 u_2 0 := by
    subst eu_2
    rw [p_writeCode]
  rw [e9]
  exact w_writeCode_19 ad cI cZ zz hzz tS hst Cx 64 u_2 0 _ _ _ hok hP hD hS (lv_sub hl [1, 0] rfl)

def p_lengthenBranches_4 : Nat → St → Int32 → Int32 → Int32 × St
  | 0, u, _, _ => (0, u)
  | n + 1, u, x1, x2 => (if (u.1 0) ≤ x2 then (x1, u) else (if (u.2 0 x2.toNatClampNeg) = 5 then (if (u.2 8 x2.toNatClampNeg) = 0 then (if (p_reaches u x2) = 0 then p_lengthenBranches_4 n (sA u 8 x2 (vp_nar .boolean 1)) 1 (x2 + 1) else p_lengthenBranches_4 n u x1 (x2 + 1)) else p_lengthenBranches_4 n u x1 (x2 + 1)) else p_lengthenBranches_4 n u x1 (x2 + 1)))
def ok_lengthenBranches_4 : Nat → St → Int32 → Int32 → Prop
  | 0, _, _, _ => False
  | n + 1, u, x1, x2 => (((u.1 0) ≤ x2 → (isb x1 ∧ True)) ∧ (¬ (u.1 0) ≤ x2 → (vp_in x2 48 ∧ (((u.2 0 x2.toNatClampNeg) = 5 → (vp_in x2 48 ∧ (((u.2 8 x2.toNatClampNeg) = 0 → (ok_reaches u x2 ∧ (((p_reaches u x2) = 0 → (vp_in x2 48 ∧ ok_lengthenBranches_4 n (sA u 8 x2 (vp_nar .boolean 1)) 1 (x2 + 1))) ∧ (¬ (p_reaches u x2) = 0 → ok_lengthenBranches_4 n u x1 (x2 + 1))))) ∧ (¬ (u.2 8 x2.toNatClampNeg) = 0 → ok_lengthenBranches_4 n u x1 (x2 + 1))))) ∧ (¬ (u.2 0 x2.toNatClampNeg) = 5 → ok_lengthenBranches_4 n u x1 (x2 + 1))))))
set_option maxHeartbeats 4000000 in
set_option maxRecDepth 100000 in
theorem w_lengthenBranches_4 {p : Program} {l : Launch} {e : Env} {s : State} {m : MethodId} {args : Array Value} {below : List Frame} {meth : Method} {c : Code} {D : va_G} {A : Nat → Prop} (ad : Nat → Nat) (cI cZ : ClassId) (zz : (Nat → Prop) → State → Heap → Prop) (hzz : Zok zz) (tS : Nat) (hst : Zst zz tS) (Cx : cxt p s m args meth c cX0_lengthenBranches 3 (some .boolean) wsX0_lengthenBranches RX0 D vwCl (tyT cI cZ) zz A) : ∀ (n : Nat) (u : St) (x1 x2 : Int32) (H : Heap) (locs : List Loc) (ls : Array Slot), ok_lengthenBranches_4 n u x1 x2 → va_P D vwCl (wT ad cI cZ u) H → va_D A (wT ad cI cZ u) → va_S A s.heap H locs → lv_has ls 3 [(0, .ref (ad 2)), (1, .int x1), (2, .int x2)] → W p l e ({ frames := 2, cells := 0, slots := 0, locals := 44 } : Room) s m args below meth c H locs 0 0 (MQ below (qqI D vwCl (tyT cI cZ) (wT ad cI cZ ((p_lengthenBranches_4 n u x1 x2).2)) (p_lengthenBranches_4 n u x1 x2).1 A) args s 0 0 A) (F0 m 4 ls []) := by
  obtain ⟨hx, hb, hr, hts, hown, hlocks, hml, hK, hA, hZ⟩ := id Cx
  intro n
  induction n with
  | zero =>
    intro u x1 x2 H locs ls hok
    exact False.elim hok
  | succ n ih =>
    intro u x1 x2 H locs ls hok hP hD hS hl
    unfold ok_lengthenBranches_4 at hok
    refine lv_iload_n hx hb dX0_lengthenBranches_4 rfl (lv_at hl 2 rfl) ?_
    refine lv_aload_n hx hb dX0_lengthenBranches_5 rfl (lv_at hl 0 rfl) ?_
    refine va_get (ci := 0) (v := .ref (ad 1)) (C := RX0) (T := TX0) (N := 9) hx hb hts (ivX0 _) hown hK hP 2 rfl rfl 0 (by decide) (hts _ (tb_c tw_1_69)) (fun _ h9 => h9) rfl dX0_lengthenBranches_6 ?_
    refine va_get (ci := 2) (v := .int (u.1 0)) (C := RX2) (T := TX2) (N := 7) hx hb hts (ivX2 _) hown hK hP 1 rfl rfl 6 (by decide) (hts _ (tb_c tw_1_45)) (fun _ h9 => h9) rfl dX0_lengthenBranches_9 ?_
    refine lv_icmp_ge (tgt := 60) hx hb dX0_lengthenBranches_12 (by decide) (fun c_1 => ?_) (fun c_1 => ?_)
    · have hok := hok.1 c_1
      refine lv_iload_n hx hb dX0_lengthenBranches_60 rfl (lv_at hl 1 rfl) ?_
      obtain ⟨h_z, hok⟩ := hok
      have e9 : p_lengthenBranches_4 (n + 1) u x1 x2 = (x1, u) := by rw [p_lengthenBranches_4, if_pos c_1]
      rw [e9]
      exact W.zret hx hb hr (isb_n h_z) (fun t ht hW => ⟨⟨_, (), rfl, rfl, by rw [ht]; exact hP, va_K.moved hW.alike hK, hD⟩, hS.F ht⟩) hS.2.2 dX0_lengthenBranches_61
    · have hok := hok.2 c_1
      refine lv_aload_n hx hb dX0_lengthenBranches_15 rfl (lv_at hl 0 rfl) ?_
      refine va_get (ci := 0) (v := .ref (ad 1)) (C := RX0) (T := TX0) (N := 9) hx hb hts (ivX0 _) hown hK hP 2 rfl rfl 0 (by decide) (hts _ (tb_c tw_1_69)) (fun _ h9 => h9) rfl dX0_lengthenBranches_16 ?_
      refine va_get (ci := 2) (v := .ref (ad 4)) (C := RX2) (T := TX2) (N := 7) hx hb hts (ivX2 _) hown hK hP 1 rfl rfl 0 (by decide) (hts _ (tb_c tw_1_27)) (fun _ h9 => h9) rfl dX0_lengthenBranches_19 ?_
      refine lv_iload_n hx hb dX0_lengthenBranches_22 rfl (lv_at hl 2 rfl) ?_
      obtain ⟨h_2, hok⟩ := hok
      refine va_iald (f := u.2 0) hx hb hK hP 4 0 rfl rfl h_2 dX0_lengthenBranches_23 ?_
      refine lv_iconst (v := 5) hx hb dX0_lengthenBranches_24 (by decide) ?_
      refine lv_icmp_ne (tgt := 54) hx hb dX0_lengthenBranches_25 (by decide) (fun c_3 => ?_) (fun c_3 => ?_)
      · have hok := hok.2 c_3
        refine lv_iinc (v := x2 + 1) (lv' := [(2, .int (x2 + 1)), (0, .ref (ad 2)), (1, .int x1)]) hx hb dX0_lengthenBranches_54 hl (k := 2) rfl rfl (by decide) rfl (fun ls hl => ?_)
        refine lv_goto (tgt := 4) hx hb dX0_lengthenBranches_57 (by decide) ?_
        have e9 : p_lengthenBranches_4 (n + 1) u x1 x2 = p_lengthenBranches_4 n u x1 (x2 + 1) := by rw [p_lengthenBranches_4, if_neg c_1, if_neg c_3]
        rw [e9]
        exact ih u x1 (x2 + 1) _ _ _ hok hP hD hS (lv_sub hl [1, 2, 0] rfl)
      · have hok := hok.1 c_3
        refine lv_aload_n hx hb dX0_lengthenBranches_28 rfl (lv_at hl 0 rfl) ?_
        refine va_get (ci := 0) (v := .ref (ad 12)) (C := RX0) (T := TX0) (N := 9) hx hb hts (ivX0 _) hown hK hP 2 rfl rfl 3 (by decide) (hts _ (tb_c tw_1_74)) (fun _ h9 => h9) rfl dX0_lengthenBranches_29 ?_
        refine lv_iload_n hx hb dX0_lengthenBranches_32 rfl (lv_at hl 2 rfl) ?_
        obtain ⟨h_4, hok⟩ := hok
        refine va_zald (f := u.2 8) hx hb hK hP 12 1 rfl rfl h_4 dX0_lengthenBranches_33 ?_
        refine lv_if_ne (tgt := 54) hx hb dX0_lengthenBranches_34 (by decide) (fun c_5 => ?_) (fun c_5 => ?_)
        · have hok := hok.2 c_5
          refine lv_iinc (v := x2 + 1) (lv' := [(2, .int (x2 + 1)), (0, .ref (ad 2)), (1, .int x1)]) hx hb dX0_lengthenBranches_54 hl (k := 2) rfl rfl (by decide) rfl (fun ls hl => ?_)
          refine lv_goto (tgt := 4) hx hb dX0_lengthenBranches_57 (by decide) ?_
          have e9 : p_lengthenBranches_4 (n + 1) u x1 x2 = p_lengthenBranches_4 n u x1 (x2 + 1) := by rw [p_lengthenBranches_4, if_neg c_1, if_pos c_3, if_neg c_5]
          rw [e9]
          exact ih u x1 (x2 + 1) _ _ _ hok hP hD hS (lv_sub hl [1, 2, 0] rfl)
        · have hok := hok.1 c_5
          refine lv_aload_n hx hb dX0_lengthenBranches_37 rfl (lv_at hl 0 rfl) ?_
          refine lv_iload_n hx hb dX0_lengthenBranches_38 rfl (lv_at hl 2 rfl) ?_
          obtain ⟨h_6, hok⟩ := hok
          refine k_callVi (As := [.int x2]) (rest := []) hzz ⟨hx, hb, hml, hown, hts⟩ (c_reaches l D ad cI cZ zz hzz tS hst u x2 h_6) (cwV 1 hts (tb_V tw_2_208 tw_2_210 slX0_reaches tw_1_3 tw_2_211) rfl rfl rfl (by decide +kernel) ⟨Nat.le_of_ble_eq_true rfl, Nat.le_of_ble_eq_true rfl⟩) (va_recv hK hP (ci := 0) (q0 := 2) rfl rfl) rfl hl.1 rfl (lv_room (Nat.le_of_ble_eq_true rfl)) dX0_lengthenBranches_39 ⟨Nat.le_of_ble_eq_true rfl, Nat.le_of_ble_eq_true rfl⟩ hP hK hD hS hA hZ (fun H locs hP hD hS => ?_)
          refine lv_if_ne (tgt := 54) hx hb dX0_lengthenBranches_42 (by decide) (fun c_7 => ?_) (fun c_7 => ?_)
          · have hok := hok.2 c_7
            refine lv_iinc (v := x2 + 1) (lv' := [(2, .int (x2 + 1)), (0, .ref (ad 2)), (1, .int x1)]) hx hb dX0_lengthenBranches_54 hl (k := 2) rfl rfl (by decide) rfl (fun ls hl => ?_)
            refine lv_goto (tgt := 4) hx hb dX0_lengthenBranches_57 (by decide) ?_
            have e9 : p_lengthenBranches_4 (n + 1) u x1 x2 = p_lengthenBranches_4 n u x1 (x2 + 1) := by rw [p_lengthenBranches_4, if_neg c_1, if_pos c_3, if_pos c_5, if_neg c_7]
            rw [e9]
            exact ih u x1 (x2 + 1) _ _ _ hok hP hD hS (lv_sub hl [1, 2, 0] rfl)
          · have hok := hok.1 c_7
            refine lv_aload_n hx hb dX0_lengthenBranches_45 rfl (lv_at hl 0 rfl) ?_
            refine va_get (ci := 0) (v := .ref (ad 12)) (C := RX0) (T := TX0) (N := 9) hx hb hts (ivX0 _) hown hK hP 2 rfl rfl 3 (by decide) (hts _ (tb_c tw_1_74)) (fun _ h9 => h9) rfl dX0_lengthenBranches_46 ?_
            refine lv_iload_n hx hb dX0_lengthenBranches_49 rfl (lv_at hl 2 rfl) ?_
            refine lv_iconst (v := 1) hx hb dX0_lengthenBranches_50 (by decide) ?_
            obtain ⟨h_8, hok⟩ := hok
            refine va_zast hx hb hK hP hD hS 12 1 rfl rfl h_8 dX0_lengthenBranches_51 (fun H locs hP hD hS => ?_)
            have hP : va_P D vwCl (wT ad cI cZ (sA u 8 x2 (vp_nar .boolean 1))) H := hP
            have hD : va_D A (wT ad cI cZ (sA u 8 x2 (vp_nar .boolean 1))) := hD
            refine lv_iconst (v := 1) hx hb dX0_lengthenBranches_52 (by decide) ?_
            refine lv_istore_n (lv' := [(1, .int 1), (0, .ref (ad 2)), (2, .int x2)]) hx hb dX0_lengthenBranches_53 rfl hl (by decide) rfl (fun ls hl => ?_)
            refine lv_iinc (v := x2 + 1) (lv' := [(2, .int (x2 + 1)), (1, .int 1), (0, .ref (ad 2))]) hx hb dX0_lengthenBranches_54 hl (k := 2) rfl rfl (by decide) rfl (fun ls hl => ?_)
            refine lv_goto (tgt := 4) hx hb dX0_lengthenBranches_57 (by decide) ?_
            have e9 : p_lengthenBranches_4 (n + 1) u x1 x2 = p_lengthenBranches_4 n (sA u 8 x2 (vp_nar .boolean 1)) 1 (x2 + 1) := by rw [p_lengthenBranches_4, if_neg c_1, if_pos c_3, if_pos c_5, if_pos c_7]
            rw [e9]
            exact ih (sA u 8 x2 (vp_nar .boolean 1)) 1 (x2 + 1) _ _ _ hok hP hD hS (lv_sub hl [2, 1, 0] rfl)
def p_lengthenBranches (u : St) : Int32 × St := p_lengthenBranches_4 64 u 0 0
def ok_lengthenBranches (u : St) : Prop := ok_lengthenBranches_4 64 u 0 0
set_option maxHeartbeats 4000000 in
set_option maxRecDepth 100000 in
theorem c_lengthenBranches (l : Launch) (D : va_G) (ad : Nat → Nat) (cI cZ : ClassId) (zz : (Nat → Prop) → State → Heap → Prop) (hzz : Zok zz) (tS : Nat) (hst : Zst zz tS) (u : St) (hok : ok_lengthenBranches u) : tfI l D vwCl (tyT cI cZ) zz yX0_lengthenBranches wsX0_lengthenBranches ({ frames := 2, cells := 0, slots := 0, locals := 44 } : Room) [.ref (ad 2)] (wT ad cI cZ u) (p_lengthenBranches u).1 (wT ad cI cZ ((p_lengthenBranches u).2)) := by
  intro sz
  unfold ok_lengthenBranches at hok
  refine Met.ofW (cc := cX0_lengthenBranches) (maxL := 3) (ret := (some .boolean)) (by decide) rfl ?_
  intro p e s m args below meth c s₁ B hml hv
  obtain ⟨rfl, hsz, hP, hK, hD0, hZ⟩ := hv
  have hx := B.exec
  have hb := B.bytes
  have hr := B.returns
  have hts := atoms_spec (ws := wsX0_lengthenBranches) B.pre
  have hown : s.vm.findClass RX0 = some m.cls := findClass_of_methodNamed B.named
  have hlocks := B.notSynchronized
  subst hsz
  have hD := hD0.self (sz := s.heap.size)
  generalize hAe : va_A (wT ad cI cZ u) s.heap.size = A at hD hZ ⊢
  have hA : ∀ q : Nat, s.heap.size ≤ q → A q := fun q h => by rw [← hAe]; exact Or.inr h
  have hS : va_S A s.heap s.heap [] := va_S.rf
  have Cx : cxt p s m ([.ref (ad 2)] : List Value).toArray meth c cX0_lengthenBranches 3 (some .boolean) wsX0_lengthenBranches RX0 D vwCl (tyT cI cZ) zz A := ⟨hx, hb, hr, hts, hown, hlocks, hml, hK, hA, hZ⟩
  have hl := lv_entry ([.ref (ad 2)]) (n := 3) (Nat.le_of_ble_eq_true rfl)
  rw [lg_entry_eq]
  generalize (lg_sl ([.ref (ad 2)]) ++ List.replicate (3 - (lg_sl ([.ref (ad 2)])).length) Slot.unset).toArray = ls at hl ⊢
  have hl : lv_has ls 3 [(0, .ref (ad 2))] := hl
  refine lv_iconst (v := 0) hx hb dX0_lengthenBranches_0 (by decide) ?_
  refine lv_istore_n (lv' := [(1, .int 0), (0, .ref (ad 2))]) hx hb dX0_lengthenBranches_1 rfl hl (by decide) rfl (fun ls hl => ?_)
  refine lv_iconst (v := 0) hx hb dX0_lengthenBranches_2 (by decide) ?_
  refine lv_istore_n (lv' := [(2, .int 0), (1, .int 0), (0, .ref (ad 2))]) hx hb dX0_lengthenBranches_3 rfl hl (by decide) rfl (fun ls hl => ?_)
  have e9 : p_lengthenBranches u = p_lengthenBranches_4 64 u 0 0 := by rw [p_lengthenBranches]
  rw [e9]
  exact w_lengthenBranches_4 ad cI cZ zz hzz tS hst Cx 64 u 0 0 _ _ _ hok hP hD hS (lv_sub hl [2, 1, 0] rfl)

def p_writePool_18 : Nat → St → Int32 → St
  | 0, u, _ => u
  | n + 1, u, x1 => (if (u.1 1) ≤ x1 then u else p_writePool_18 n (p_put (p_put u ((u.2 9 x1.toNatClampNeg) &&& 65535)) (ush ((p_put u ((u.2 9 x1.toNatClampNeg) &&& 65535)).2 9 x1.toNatClampNeg) 16)) (x1 + 1))
def ok_writePool_18 : Nat → St → Int32 → Prop
  | 0, _, _ => False
  | n + 1, u, x1 => (((u.1 1) ≤ x1 → True) ∧ (¬ (u.1 1) ≤ x1 → (vp_in x1 49 ∧ (ok_put u ((u.2 9 x1.toNatClampNeg) &&& 65535) ∧ (vp_in x1 49 ∧ (ok_put (p_put u ((u.2 9 x1.toNatClampNeg) &&& 65535)) (ush ((p_put u ((u.2 9 x1.toNatClampNeg) &&& 65535)).2 9 x1.toNatClampNeg) 16) ∧ ok_writePool_18 n (p_put (p_put u ((u.2 9 x1.toNatClampNeg) &&& 65535)) (ush ((p_put u ((u.2 9 x1.toNatClampNeg) &&& 65535)).2 9 x1.toNatClampNeg) 16)) (x1 + 1)))))))
set_option maxHeartbeats 4000000 in
set_option maxRecDepth 100000 in
theorem w_writePool_18 {p : Program} {l : Launch} {e : Env} {s : State} {m : MethodId} {args : Array Value} {below : List Frame} {meth : Method} {c : Code} {D : va_G} {A : Nat → Prop} (ad : Nat → Nat) (cI cZ : ClassId) (zz : (Nat → Prop) → State → Heap → Prop) (hzz : Zok zz) (tS : Nat) (hst : Zst zz tS) (Cx : cxt p s m args meth c cX0_writePool 2 none wsX0_writePool RX0 D vwCl (tyT cI cZ) zz A) : ∀ (n : Nat) (u : St) (x1 : Int32) (H : Heap) (locs : List Loc) (ls : Array Slot), ok_writePool_18 n u x1 → va_P D vwCl (wT ad cI cZ u) H → va_D A (wT ad cI cZ u) → va_S A s.heap H locs → lv_has ls 2 [(0, .ref (ad 2)), (1, .int x1)] → W p l e ({ frames := 1, cells := 0, slots := 0, locals := 21 } : Room) s m args below meth c H locs 0 0 (MQ below (qqV D vwCl (tyT cI cZ) (wT ad cI cZ (p_writePool_18 n u x1)) A) args s 0 0 A) (F0 m 18 ls []) := by
  obtain ⟨hx, hb, hr, hts, hown, hlocks, hml, hK, hA, hZ⟩ := id Cx
  intro n
  induction n with
  | zero =>
    intro u x1 H locs ls hok
    exact False.elim hok
  | succ n ih =>
    intro u x1 H locs ls hok hP hD hS hl
    unfold ok_writePool_18 at hok
    refine lv_iload_n hx hb dX0_writePool_18 rfl (lv_at hl 1 rfl) ?_
    refine lv_aload_n hx hb dX0_writePool_19 rfl (lv_at hl 0 rfl) ?_
    refine va_get (ci := 0) (v := .int (u.1 1)) (C := RX0) (T := TX0) (N := 9) hx hb hts (ivX0 _) hown hK hP 2 rfl rfl 5 (by decide) (hts _ (tb_c tw_1_77)) (fun _ h9 => h9) rfl dX0_writePool_20 ?_
    refine lv_icmp_ge (tgt := 58) hx hb dX0_writePool_23 (by decide) (fun c_1 => ?_) (fun c_1 => ?_)
    · have hok := hok.1 c_1
      have e9 : p_writePool_18 (n + 1) u x1 = u := by rw [p_writePool_18, if_pos c_1]
      rw [e9]
      exact W.vret hx hb hr (fun t ht hW => ⟨⟨(), rfl, trivial, by rw [ht]; exact hP, va_K.moved hW.alike hK, hD⟩, hS.F ht⟩) hS.2.2 dX0_writePool_58
    · have hok := hok.2 c_1
      refine lv_aload_n hx hb dX0_writePool_26 rfl (lv_at hl 0 rfl) ?_
      refine lv_aload_n hx hb dX0_writePool_27 rfl (lv_at hl 0 rfl) ?_
      refine va_get (ci := 0) (v := .ref (ad 13)) (C := RX0) (T := TX0) (N := 9) hx hb hts (ivX0 _) hown hK hP 2 rfl rfl 4 (by decide) (hts _ (tb_c tw_1_76)) (fun _ h9 => h9) rfl dX0_writePool_28 ?_
      refine lv_iload_n hx hb dX0_writePool_31 rfl (lv_at hl 1 rfl) ?_
      obtain ⟨h_2, hok⟩ := hok
      refine va_iald (f := u.2 9) hx hb hK hP 13 0 rfl rfl h_2 dX0_writePool_32 ?_
      refine lv_ldc (v := 65535) hx hb hown (hts _ (tb_c tw_2_216)) dX0_writePool_33 ?_
      refine lv_iand hx hb dX0_writePool_35 ?_
      obtain ⟨h_3, hok⟩ := hok
      refine k_callVv (As := [.int ((u.2 9 x1.toNatClampNeg) &&& 65535)]) (rest := []) hzz ⟨hx, hb, hml, hown, hts⟩ (c_put l D ad cI cZ zz hzz tS hst u ((u.2 9 x1.toNatClampNeg) &&& 65535) h_3) (cwV 1 hts (tb_V tw_2_136 tw_2_138 slX0_put tw_1_3 tw_2_139) rfl rfl rfl (by decide +kernel) ⟨Nat.le_of_ble_eq_true rfl, Nat.le_of_ble_eq_true rfl⟩) (va_recv hK hP (ci := 0) (q0 := 2) rfl rfl) rfl hl.1 rfl (lv_room (Nat.le_of_ble_eq_true rfl)) dX0_writePool_36 ⟨Nat.le_of_ble_eq_true rfl, Nat.le_of_ble_eq_true rfl⟩ hP hK hD hS hA hZ (fun H locs hP hD hS => ?_)
      generalize eu_4 : p_put u ((u.2 9 x1.toNatClampNeg) &&& 65535) = u_4 at hP hD ⊢
      try rw [eu_4] at hok
      refine lv_aload_n hx hb dX0_writePool_39 rfl (lv_at hl 0 rfl) ?_
      refine lv_aload_n hx hb dX0_writePool_40 rfl (lv_at hl 0 rfl) ?_
      refine va_get (ci := 0) (v := .ref (ad 13)) (C := RX0) (T := TX0) (N := 9) hx hb hts (ivX0 _) hown hK hP 2 rfl rfl 4 (by decide) (hts _ (tb_c tw_1_76)) (fun _ h9 => h9) rfl dX0_writePool_41 ?_
      refine lv_iload_n hx hb dX0_writePool_44 rfl (lv_at hl 1 rfl) ?_
      obtain ⟨h_5, hok⟩ := hok
      refine va_iald (f := u_4.2 9) hx hb hK hP 13 0 rfl rfl h_5 dX0_writePool_45 ?_
      refine lv_bipush (v := 16) hx hb dX0_writePool_46 (by decide) ?_
      refine lv_iushr (v := ush (u_4.2 9 x1.toNatClampNeg) 16) hx hb dX0_writePool_48 rfl ?_
      obtain ⟨h_6, hok⟩ := hok
      refine k_callVv (As := [.int (ush (u_4.2 9 x1.toNatClampNeg) 16)]) (rest := []) hzz ⟨hx, hb, hml, hown, hts⟩ (c_put l D ad cI cZ zz hzz tS hst u_4 (ush (u_4.2 9 x1.toNatClampNeg) 16) h_6) (cwV 1 hts (tb_V tw_2_136 tw_2_138 slX0_put tw_1_3 tw_2_139) rfl rfl rfl (by decide +kernel) ⟨Nat.le_of_ble_eq_true rfl, Nat.le_of_ble_eq_true rfl⟩) (va_recv hK hP (ci := 0) (q0 := 2) rfl rfl) rfl hl.1 rfl (lv_room (Nat.le_of_ble_eq_true rfl)) dX0_writePool_49 ⟨Nat.le_of_ble_eq_true rfl, Nat.le_of_ble_eq_true rfl⟩ hP hK hD hS hA hZ (fun H locs hP hD hS => ?_)
      generalize eu_7 : p_put u_4 (ush (u_4.2 9 x1.toNatClampNeg) 16) = u_7 at hP hD ⊢
      try rw [eu_7] at hok
      refine lv_iinc (v := x1 + 1) (lv' := [(1, .int (x1 + 1)), (0, .ref (ad 2))]) hx hb dX0_writePool_52 hl (k := 1) rfl rfl (by decide) rfl (fun ls hl => ?_)
      refine lv_goto (tgt := 18) hx hb dX0_writePool_55 (by decide) ?_
      have e9 : p_writePool_18 (n + 1) u x1 = p_writePool_18 n u_7 (x1 + 1) := by
        subst eu_7
        subst eu_4
        rw [p_writePool_18, if_neg c_1]
      rw [e9]
      exact ih u_7 (x1 + 1) _ _ _ hok hP hD hS (lv_sub hl [1, 0] rfl)
def p_writePool (u : St) : St := (if (u.1 2) ≤ (u.1 3) then p_writePool_18 64 u 0 else p_writePool_18 64 (p_put u 0) 0)
def ok_writePool (u : St) : Prop := (((u.1 2) ≤ (u.1 3) → ok_writePool_18 64 u 0) ∧ (¬ (u.1 2) ≤ (u.1 3) → (ok_put u 0 ∧ ok_writePool_18 64 (p_put u 0) 0)))
set_option maxHeartbeats 4000000 in
set_option maxRecDepth 100000 in
theorem c_writePool (l : Launch) (D : va_G) (ad : Nat → Nat) (cI cZ : ClassId) (zz : (Nat → Prop) → State → Heap → Prop) (hzz : Zok zz) (tS : Nat) (hst : Zst zz tS) (u : St) (hok : ok_writePool u) : tfV l D vwCl (tyT cI cZ) zz yX0_writePool wsX0_writePool ({ frames := 1, cells := 0, slots := 0, locals := 21 } : Room) [.ref (ad 2)] (wT ad cI cZ u) (wT ad cI cZ (p_writePool u)) := by
  intro sz
  unfold ok_writePool at hok
  refine Met.ofW (cc := cX0_writePool) (maxL := 2) (ret := none) (by decide) rfl ?_
  intro p e s m args below meth c s₁ B hml hv
  obtain ⟨rfl, hsz, hP, hK, hD0, hZ⟩ := hv
  have hx := B.exec
  have hb := B.bytes
  have hr := B.returns
  have hts := atoms_spec (ws := wsX0_writePool) B.pre
  have hown : s.vm.findClass RX0 = some m.cls := findClass_of_methodNamed B.named
  have hlocks := B.notSynchronized
  subst hsz
  have hD := hD0.self (sz := s.heap.size)
  generalize hAe : va_A (wT ad cI cZ u) s.heap.size = A at hD hZ ⊢
  have hA : ∀ q : Nat, s.heap.size ≤ q → A q := fun q h => by rw [← hAe]; exact Or.inr h
  have hS : va_S A s.heap s.heap [] := va_S.rf
  have Cx : cxt p s m ([.ref (ad 2)] : List Value).toArray meth c cX0_writePool 2 none wsX0_writePool RX0 D vwCl (tyT cI cZ) zz A := ⟨hx, hb, hr, hts, hown, hlocks, hml, hK, hA, hZ⟩
  have hl := lv_entry ([.ref (ad 2)]) (n := 2) (Nat.le_of_ble_eq_true rfl)
  rw [lg_entry_eq]
  generalize (lg_sl ([.ref (ad 2)]) ++ List.replicate (2 - (lg_sl ([.ref (ad 2)])).length) Slot.unset).toArray = ls at hl ⊢
  have hl : lv_has ls 2 [(0, .ref (ad 2))] := hl
  refine lv_aload_n hx hb dX0_writePool_0 rfl (lv_at hl 0 rfl) ?_
  refine va_get (ci := 0) (v := .int (u.1 3)) (C := RX0) (T := TX0) (N := 9) hx hb hts (ivX0 _) hown hK hP 2 rfl rfl 7 (by decide) (hts _ (tb_c tw_1_79)) (fun _ h9 => h9) rfl dX0_writePool_1 ?_
  refine lv_aload_n hx hb dX0_writePool_4 rfl (lv_at hl 0 rfl) ?_
  refine va_get (ci := 0) (v := .int (u.1 2)) (C := RX0) (T := TX0) (N := 9) hx hb hts (ivX0 _) hown hK hP 2 rfl rfl 6 (by decide) (hts _ (tb_c tw_1_78)) (fun _ h9 => h9) rfl dX0_writePool_5 ?_
  refine lv_icmp_ge (tgt := 16) hx hb dX0_writePool_8 (by decide) (fun c_1 => ?_) (fun c_1 => ?_)
  · have hok := hok.1 c_1
    refine lv_iconst (v := 0) hx hb dX0_writePool_16 (by decide) ?_
    refine lv_istore_n (lv' := [(1, .int 0), (0, .ref (ad 2))]) hx hb dX0_writePool_17 rfl hl (by decide) rfl (fun ls hl => ?_)
    have e9 : p_writePool u = p_writePool_18 64 u 0 := by rw [p_writePool, if_pos c_1]
    rw [e9]
    exact w_writePool_18 ad cI cZ zz hzz tS hst Cx 64 u 0 _ _ _ hok hP hD hS (lv_sub hl [1, 0] rfl)
  · have hok := hok.2 c_1
    refine lv_aload_n hx hb dX0_writePool_11 rfl (lv_at hl 0 rfl) ?_
    refine lv_iconst (v := 0) hx hb dX0_writePool_12 (by decide) ?_
    obtain ⟨h_2, hok⟩ := hok
    refine k_callVv (As := [.int 0]) (rest := []) hzz ⟨hx, hb, hml, hown, hts⟩ (c_put l D ad cI cZ zz hzz tS hst u 0 h_2) (cwV 1 hts (tb_V tw_2_136 tw_2_138 slX0_put tw_1_3 tw_2_139) rfl rfl rfl (by decide +kernel) ⟨Nat.le_of_ble_eq_true rfl, Nat.le_of_ble_eq_true rfl⟩) (va_recv hK hP (ci := 0) (q0 := 2) rfl rfl) rfl hl.1 rfl (lv_room (Nat.le_of_ble_eq_true rfl)) dX0_writePool_13 ⟨Nat.le_of_ble_eq_true rfl, Nat.le_of_ble_eq_true rfl⟩ hP hK hD hS hA hZ (fun H locs hP hD hS => ?_)
    generalize eu_3 : p_put u 0 = u_3 at hP hD ⊢
    try rw [eu_3] at hok
    refine lv_iconst (v := 0) hx hb dX0_writePool_16 (by decide) ?_
    refine lv_istore_n (lv' := [(1, .int 0), (0, .ref (ad 2))]) hx hb dX0_writePool_17 rfl hl (by decide) rfl (fun ls hl => ?_)
    have e9 : p_writePool u = p_writePool_18 64 u_3 0 := by
      subst eu_3
      rw [p_writePool, if_neg c_1]
    rw [e9]
    exact w_writePool_18 ad cI cZ zz hzz tS hst Cx 64 u_3 0 _ _ _ hok hP hD hS (lv_sub hl [1, 0] rfl)

def p_make_23 : Nat → St → Int32 → St
  | 0, u, _ => u
  | n + 1, u, x1 => (if 48 < x1 then sS (p_writePool (p_writeCode u)) 4 1 else (if ((p_lengthenBranches (p_writeCode u)).1) = 0 then sS (p_writePool (p_writeCode ((p_lengthenBranches (p_writeCode u)).2))) 4 1 else p_make_23 n ((p_lengthenBranches (p_writeCode u)).2) (x1 + 1)))
def ok_make_23 : Nat → St → Int32 → Prop
  | 0, _, _ => False
  | n + 1, u, x1 => ((48 < x1 → (ok_writeCode u ∧ (ok_writePool (p_writeCode u) ∧ True))) ∧ (¬ 48 < x1 → (ok_writeCode u ∧ (ok_lengthenBranches (p_writeCode u) ∧ ((((p_lengthenBranches (p_writeCode u)).1) = 0 → (ok_writeCode ((p_lengthenBranches (p_writeCode u)).2) ∧ (ok_writePool (p_writeCode ((p_lengthenBranches (p_writeCode u)).2)) ∧ True))) ∧ (¬ ((p_lengthenBranches (p_writeCode u)).1) = 0 → ok_make_23 n ((p_lengthenBranches (p_writeCode u)).2) (x1 + 1)))))))
set_option maxHeartbeats 4000000 in
set_option maxRecDepth 100000 in
theorem w_make_23 {p : Program} {l : Launch} {e : Env} {s : State} {m : MethodId} {args : Array Value} {below : List Frame} {meth : Method} {c : Code} {D : va_G} {A : Nat → Prop} (ad : Nat → Nat) (cI cZ : ClassId) (zz : (Nat → Prop) → State → Heap → Prop) (hzz : Zok zz) (tS : Nat) (hst : Zst zz tS) (Cx : cxt p s m args meth c cX0_make 2 none wsX0_make RX0 D vwCl (tyT cI cZ) zz A) : ∀ (n : Nat) (u : St) (x1 : Int32) (H : Heap) (locs : List Loc) (ls : Array Slot), ok_make_23 n u x1 → va_P D vwCl (wT ad cI cZ u) H → va_D A (wT ad cI cZ u) → va_S A s.heap H locs → lv_has ls 2 [(0, .ref (ad 2)), (1, .int x1)] → W p l e ({ frames := 5, cells := 0, slots := 0, locals := 116 } : Room) s m args below meth c H locs 0 0 (MQ below (qqV D vwCl (tyT cI cZ) (wT ad cI cZ (p_make_23 n u x1)) A) args s 0 0 A) (F0 m 23 ls []) := by
  obtain ⟨hx, hb, hr, hts, hown, hlocks, hml, hK, hA, hZ⟩ := id Cx
  intro n
  induction n with
  | zero =>
    intro u x1 H locs ls hok
    exact False.elim hok
  | succ n ih =>
    intro u x1 H locs ls hok hP hD hS hl
    unfold ok_make_23 at hok
    refine lv_iload_n hx hb dX0_make_23 rfl (lv_at hl 1 rfl) ?_
    refine lv_bipush (v := 48) hx hb dX0_make_24 (by decide) ?_
    refine lv_icmp_gt (tgt := 49) hx hb dX0_make_26 (by decide) (fun c_1 => ?_) (fun c_1 => ?_)
    · have hok := hok.1 c_1
      refine lv_aload_n hx hb dX0_make_49 rfl (lv_at hl 0 rfl) ?_
      obtain ⟨h_2, hok⟩ := hok
      refine k_callVv (As := []) (rest := []) hzz ⟨hx, hb, hml, hown, hts⟩ (c_writeCode l D ad cI cZ zz hzz tS hst u h_2) (cwV 0 hts (tb_V tw_2_123 tw_2_125 slX0_writeCode tw_1_3 tw_2_126) rfl rfl rfl (by decide +kernel) ⟨Nat.le_of_ble_eq_true rfl, Nat.le_of_ble_eq_true rfl⟩) (va_recv hK hP (ci := 0) (q0 := 2) rfl rfl) rfl hl.1 rfl (lv_room (Nat.le_of_ble_eq_true rfl)) dX0_make_50 ⟨Nat.le_of_ble_eq_true rfl, Nat.le_of_ble_eq_true rfl⟩ hP hK hD hS hA hZ (fun H locs hP hD hS => ?_)
      generalize eu_3 : p_writeCode u = u_3 at hP hD ⊢
      try rw [eu_3] at hok
      refine lv_aload_n hx hb dX0_make_53 rfl (lv_at hl 0 rfl) ?_
      obtain ⟨h_4, hok⟩ := hok
      refine k_callVv (As := []) (rest := []) hzz ⟨hx, hb, hml, hown, hts⟩ (c_writePool l D ad cI cZ zz hzz tS hst u_3 h_4) (cwV 0 hts (tb_V tw_2_212 tw_2_214 slX0_writePool tw_1_3 tw_2_215) rfl rfl rfl (by decide +kernel) ⟨Nat.le_of_ble_eq_true rfl, Nat.le_of_ble_eq_true rfl⟩) (va_recv hK hP (ci := 0) (q0 := 2) rfl rfl) rfl hl.1 rfl (lv_room (Nat.le_of_ble_eq_true rfl)) dX0_make_54 ⟨Nat.le_of_ble_eq_true rfl, Nat.le_of_ble_eq_true rfl⟩ hP hK hD hS hA hZ (fun H locs hP hD hS => ?_)
      generalize eu_5 : p_writePool u_3 = u_5 at hP hD ⊢
      try rw [eu_5] at hok
      refine lv_aload_n hx hb dX0_make_57 rfl (lv_at hl 0 rfl) ?_
      refine lv_iconst (v := 1) hx hb dX0_make_58 (by decide) ?_
      refine va_put (ci := 0) (v := .int 1) (ty := .boolean) (C := RX0) (T := TX0) (N := 9) hx hb hts (ivX0 _) tyX0 tyX0_ok nmX0 hown hK hP hD hS 2 rfl rfl 8 (by decide) (hts _ (tb_c tw_1_81)) (fun _ h9 => h9) rfl (by decide +kernel) rfl rfl (Nat.le_of_ble_eq_true rfl) dX0_make_59 (fun H locs hP hD hS => ?_)
      have hP : va_P D vwCl (wT ad cI cZ (sS u_5 4 1)) H := hP
      have hD : va_D A (wT ad cI cZ (sS u_5 4 1)) := hD
      have e9 : p_make_23 (n + 1) u x1 = sS u_5 4 1 := by
        subst eu_5
        subst eu_3
        rw [p_make_23, if_pos c_1]
      rw [e9]
      exact W.vret hx hb hr (fun t ht hW => ⟨⟨(), rfl, trivial, by rw [ht]; exact hP, va_K.moved hW.alike hK, hD⟩, hS.F ht⟩) hS.2.2 dX0_make_62
    · have hok := hok.2 c_1
      refine lv_aload_n hx hb dX0_make_29 rfl (lv_at hl 0 rfl) ?_
      obtain ⟨h_6, hok⟩ := hok
      refine k_callVv (As := []) (rest := []) hzz ⟨hx, hb, hml, hown, hts⟩ (c_writeCode l D ad cI cZ zz hzz tS hst u h_6) (cwV 0 hts (tb_V tw_2_123 tw_2_125 slX0_writeCode tw_1_3 tw_2_126) rfl rfl rfl (by decide +kernel) ⟨Nat.le_of_ble_eq_true rfl, Nat.le_of_ble_eq_true rfl⟩) (va_recv hK hP (ci := 0) (q0 := 2) rfl rfl) rfl hl.1 rfl (lv_room (Nat.le_of_ble_eq_true rfl)) dX0_make_30 ⟨Nat.le_of_ble_eq_true rfl, Nat.le_of_ble_eq_true rfl⟩ hP hK hD hS hA hZ (fun H locs hP hD hS => ?_)
      generalize eu_7 : p_writeCode u = u_7 at hP hD ⊢
      try rw [eu_7] at hok
      refine lv_aload_n hx hb dX0_make_33 rfl (lv_at hl 0 rfl) ?_
      obtain ⟨h_8, hok⟩ := hok
      refine k_callVi (As := []) (rest := []) hzz ⟨hx, hb, hml, hown, hts⟩ (c_lengthenBranches l D ad cI cZ zz hzz tS hst u_7 h_8) (cwV 0 hts (tb_V tw_2_204 tw_2_206 slX0_lengthenBranches tw_1_3 tw_2_207) rfl rfl rfl (by decide +kernel) ⟨Nat.le_of_ble_eq_true rfl, Nat.le_of_ble_eq_true rfl⟩) (va_recv hK hP (ci := 0) (q0 := 2) rfl rfl) rfl hl.1 rfl (lv_room (Nat.le_of_ble_eq_true rfl)) dX0_make_34 ⟨Nat.le_of_ble_eq_true rfl, Nat.le_of_ble_eq_true rfl⟩ hP hK hD hS hA hZ (fun H locs hP hD hS => ?_)
      generalize eu_9 : (p_lengthenBranches u_7).2 = u_9 at hP hD ⊢
      try rw [eu_9] at hok
      refine lv_if_ne (tgt := 43) hx hb dX0_make_37 (by decide) (fun c_10 => ?_) (fun c_10 => ?_)
      · have hok := hok.2 c_10
        refine lv_iinc (v := x1 + 1) (lv' := [(1, .int (x1 + 1)), (0, .ref (ad 2))]) hx hb dX0_make_43 hl (k := 1) rfl rfl (by decide) rfl (fun ls hl => ?_)
        refine lv_goto (tgt := 23) hx hb dX0_make_46 (by decide) ?_
        have e9 : p_make_23 (n + 1) u x1 = p_make_23 n u_9 (x1 + 1) := by
          subst eu_9
          subst eu_7
          rw [p_make_23, if_neg c_1, if_neg c_10]
        rw [e9]
        exact ih u_9 (x1 + 1) _ _ _ hok hP hD hS (lv_sub hl [1, 0] rfl)
      · have hok := hok.1 c_10
        refine lv_goto (tgt := 49) hx hb dX0_make_40 (by decide) ?_
        refine lv_aload_n hx hb dX0_make_49 rfl (lv_at hl 0 rfl) ?_
        obtain ⟨h_11, hok⟩ := hok
        refine k_callVv (As := []) (rest := []) hzz ⟨hx, hb, hml, hown, hts⟩ (c_writeCode l D ad cI cZ zz hzz tS hst u_9 h_11) (cwV 0 hts (tb_V tw_2_123 tw_2_125 slX0_writeCode tw_1_3 tw_2_126) rfl rfl rfl (by decide +kernel) ⟨Nat.le_of_ble_eq_true rfl, Nat.le_of_ble_eq_true rfl⟩) (va_recv hK hP (ci := 0) (q0 := 2) rfl rfl) rfl hl.1 rfl (lv_room (Nat.le_of_ble_eq_true rfl)) dX0_make_50 ⟨Nat.le_of_ble_eq_true rfl, Nat.le_of_ble_eq_true rfl⟩ hP hK hD hS hA hZ (fun H locs hP hD hS => ?_)
        generalize eu_12 : p_writeCode u_9 = u_12 at hP hD ⊢
        try rw [eu_12] at hok
        refine lv_aload_n hx hb dX0_make_53 rfl (lv_at hl 0 rfl) ?_
        obtain ⟨h_13, hok⟩ := hok
        refine k_callVv (As := []) (rest := []) hzz ⟨hx, hb, hml, hown, hts⟩ (c_writePool l D ad cI cZ zz hzz tS hst u_12 h_13) (cwV 0 hts (tb_V tw_2_212 tw_2_214 slX0_writePool tw_1_3 tw_2_215) rfl rfl rfl (by decide +kernel) ⟨Nat.le_of_ble_eq_true rfl, Nat.le_of_ble_eq_true rfl⟩) (va_recv hK hP (ci := 0) (q0 := 2) rfl rfl) rfl hl.1 rfl (lv_room (Nat.le_of_ble_eq_true rfl)) dX0_make_54 ⟨Nat.le_of_ble_eq_true rfl, Nat.le_of_ble_eq_true rfl⟩ hP hK hD hS hA hZ (fun H locs hP hD hS => ?_)
        generalize eu_14 : p_writePool u_12 = u_14 at hP hD ⊢
        try rw [eu_14] at hok
        refine lv_aload_n hx hb dX0_make_57 rfl (lv_at hl 0 rfl) ?_
        refine lv_iconst (v := 1) hx hb dX0_make_58 (by decide) ?_
        refine va_put (ci := 0) (v := .int 1) (ty := .boolean) (C := RX0) (T := TX0) (N := 9) hx hb hts (ivX0 _) tyX0 tyX0_ok nmX0 hown hK hP hD hS 2 rfl rfl 8 (by decide) (hts _ (tb_c tw_1_81)) (fun _ h9 => h9) rfl (by decide +kernel) rfl rfl (Nat.le_of_ble_eq_true rfl) dX0_make_59 (fun H locs hP hD hS => ?_)
        have hP : va_P D vwCl (wT ad cI cZ (sS u_14 4 1)) H := hP
        have hD : va_D A (wT ad cI cZ (sS u_14 4 1)) := hD
        have e9 : p_make_23 (n + 1) u x1 = sS u_14 4 1 := by
          subst eu_14
          subst eu_12
          subst eu_9
          subst eu_7
          rw [p_make_23, if_neg c_1, if_pos c_10]
        rw [e9]
        exact W.vret hx hb hr (fun t ht hW => ⟨⟨(), rfl, trivial, by rw [ht]; exact hP, va_K.moved hW.alike hK, hD⟩, hS.F ht⟩) hS.2.2 dX0_make_62
def p_make_2 : Nat → St → Int32 → St
  | 0, u, _ => u
  | n + 1, u, x1 => (if 48 ≤ x1 then p_make_23 64 u 0 else p_make_2 n (sA u 8 x1 (vp_nar .boolean 0)) (x1 + 1))
def ok_make_2 : Nat → St → Int32 → Prop
  | 0, _, _ => False
  | n + 1, u, x1 => ((48 ≤ x1 → ok_make_23 64 u 0) ∧ (¬ 48 ≤ x1 → (vp_in x1 48 ∧ ok_make_2 n (sA u 8 x1 (vp_nar .boolean 0)) (x1 + 1))))
set_option maxHeartbeats 4000000 in
set_option maxRecDepth 100000 in
theorem w_make_2 {p : Program} {l : Launch} {e : Env} {s : State} {m : MethodId} {args : Array Value} {below : List Frame} {meth : Method} {c : Code} {D : va_G} {A : Nat → Prop} (ad : Nat → Nat) (cI cZ : ClassId) (zz : (Nat → Prop) → State → Heap → Prop) (hzz : Zok zz) (tS : Nat) (hst : Zst zz tS) (Cx : cxt p s m args meth c cX0_make 2 none wsX0_make RX0 D vwCl (tyT cI cZ) zz A) : ∀ (n : Nat) (u : St) (x1 : Int32) (H : Heap) (locs : List Loc) (ls : Array Slot), ok_make_2 n u x1 → va_P D vwCl (wT ad cI cZ u) H → va_D A (wT ad cI cZ u) → va_S A s.heap H locs → lv_has ls 2 [(0, .ref (ad 2)), (1, .int x1)] → W p l e ({ frames := 5, cells := 0, slots := 0, locals := 116 } : Room) s m args below meth c H locs 0 0 (MQ below (qqV D vwCl (tyT cI cZ) (wT ad cI cZ (p_make_2 n u x1)) A) args s 0 0 A) (F0 m 2 ls []) := by
  obtain ⟨hx, hb, hr, hts, hown, hlocks, hml, hK, hA, hZ⟩ := id Cx
  intro n
  induction n with
  | zero =>
    intro u x1 H locs ls hok
    exact False.elim hok
  | succ n ih =>
    intro u x1 H locs ls hok hP hD hS hl
    unfold ok_make_2 at hok
    refine lv_iload_n hx hb dX0_make_2 rfl (lv_at hl 1 rfl) ?_
    refine lv_bipush (v := 48) hx hb dX0_make_3 (by decide) ?_
    refine lv_icmp_ge (tgt := 21) hx hb dX0_make_5 (by decide) (fun c_1 => ?_) (fun c_1 => ?_)
    · have hok := hok.1 c_1
      refine lv_iconst (v := 0) hx hb dX0_make_21 (by decide) ?_
      refine lv_istore_n (lv' := [(1, .int 0), (0, .ref (ad 2))]) hx hb dX0_make_22 rfl hl (by decide) rfl (fun ls hl => ?_)
      have e9 : p_make_2 (n + 1) u x1 = p_make_23 64 u 0 := by rw [p_make_2, if_pos c_1]
      rw [e9]
      exact w_make_23 ad cI cZ zz hzz tS hst Cx 64 u 0 _ _ _ hok hP hD hS (lv_sub hl [1, 0] rfl)
    · have hok := hok.2 c_1
      refine lv_aload_n hx hb dX0_make_8 rfl (lv_at hl 0 rfl) ?_
      refine va_get (ci := 0) (v := .ref (ad 12)) (C := RX0) (T := TX0) (N := 9) hx hb hts (ivX0 _) hown hK hP 2 rfl rfl 3 (by decide) (hts _ (tb_c tw_1_74)) (fun _ h9 => h9) rfl dX0_make_9 ?_
      refine lv_iload_n hx hb dX0_make_12 rfl (lv_at hl 1 rfl) ?_
      refine lv_iconst (v := 0) hx hb dX0_make_13 (by decide) ?_
      obtain ⟨h_2, hok⟩ := hok
      refine va_zast hx hb hK hP hD hS 12 1 rfl rfl h_2 dX0_make_14 (fun H locs hP hD hS => ?_)
      have hP : va_P D vwCl (wT ad cI cZ (sA u 8 x1 (vp_nar .boolean 0))) H := hP
      have hD : va_D A (wT ad cI cZ (sA u 8 x1 (vp_nar .boolean 0))) := hD
      refine lv_iinc (v := x1 + 1) (lv' := [(1, .int (x1 + 1)), (0, .ref (ad 2))]) hx hb dX0_make_15 hl (k := 1) rfl rfl (by decide) rfl (fun ls hl => ?_)
      refine lv_goto (tgt := 2) hx hb dX0_make_18 (by decide) ?_
      have e9 : p_make_2 (n + 1) u x1 = p_make_2 n (sA u 8 x1 (vp_nar .boolean 0)) (x1 + 1) := by rw [p_make_2, if_neg c_1]
      rw [e9]
      exact ih (sA u 8 x1 (vp_nar .boolean 0)) (x1 + 1) _ _ _ hok hP hD hS (lv_sub hl [1, 0] rfl)
def p_make (u : St) : St := p_make_2 64 u 0
def ok_make (u : St) : Prop := ok_make_2 64 u 0
set_option maxHeartbeats 4000000 in
set_option maxRecDepth 100000 in
theorem c_make (l : Launch) (D : va_G) (ad : Nat → Nat) (cI cZ : ClassId) (zz : (Nat → Prop) → State → Heap → Prop) (hzz : Zok zz) (tS : Nat) (hst : Zst zz tS) (u : St) (hok : ok_make u) : tfV l D vwCl (tyT cI cZ) zz yX0_make wsX0_make ({ frames := 5, cells := 0, slots := 0, locals := 116 } : Room) [.ref (ad 2)] (wT ad cI cZ u) (wT ad cI cZ (p_make u)) := by
  intro sz
  unfold ok_make at hok
  refine Met.ofW (cc := cX0_make) (maxL := 2) (ret := none) (by decide) rfl ?_
  intro p e s m args below meth c s₁ B hml hv
  obtain ⟨rfl, hsz, hP, hK, hD0, hZ⟩ := hv
  have hx := B.exec
  have hb := B.bytes
  have hr := B.returns
  have hts := atoms_spec (ws := wsX0_make) B.pre
  have hown : s.vm.findClass RX0 = some m.cls := findClass_of_methodNamed B.named
  have hlocks := B.notSynchronized
  subst hsz
  have hD := hD0.self (sz := s.heap.size)
  generalize hAe : va_A (wT ad cI cZ u) s.heap.size = A at hD hZ ⊢
  have hA : ∀ q : Nat, s.heap.size ≤ q → A q := fun q h => by rw [← hAe]; exact Or.inr h
  have hS : va_S A s.heap s.heap [] := va_S.rf
  have Cx : cxt p s m ([.ref (ad 2)] : List Value).toArray meth c cX0_make 2 none wsX0_make RX0 D vwCl (tyT cI cZ) zz A := ⟨hx, hb, hr, hts, hown, hlocks, hml, hK, hA, hZ⟩
  have hl := lv_entry ([.ref (ad 2)]) (n := 2) (Nat.le_of_ble_eq_true rfl)
  rw [lg_entry_eq]
  generalize (lg_sl ([.ref (ad 2)]) ++ List.replicate (2 - (lg_sl ([.ref (ad 2)])).length) Slot.unset).toArray = ls at hl ⊢
  have hl : lv_has ls 2 [(0, .ref (ad 2))] := hl
  refine lv_iconst (v := 0) hx hb dX0_make_0 (by decide) ?_
  refine lv_istore_n (lv' := [(1, .int 0), (0, .ref (ad 2))]) hx hb dX0_make_1 rfl hl (by decide) rfl (fun ls hl => ?_)
  have e9 : p_make u = p_make_2 64 u 0 := by rw [p_make]
  rw [e9]
  exact w_make_2 ad cI cZ zz hzz tS hst Cx 64 u 0 _ _ _ hok hP hD hS (lv_sub hl [1, 0] rfl)
