def p_m_lengthOf (u : St) (x1 : Int32) : Int32 := (if (u.2 0 x1.toNatClampNeg) = 0 then (p_m_makeLength (u.2 1 x1.toNatClampNeg)) + (p_m_slot (u.2 2 x1.toNatClampNeg)) else (if (u.2 0 x1.toNatClampNeg) = 1 then (if 2 ≤ (u.2 1 x1.toNatClampNeg) then 3 + (p_m_slot (u.2 4 x1.toNatClampNeg)) else (((p_m_slot (u.2 3 x1.toNatClampNeg)) + (p_m_slot (u.2 4 x1.toNatClampNeg))) + 1) + (p_m_slot (u.2 2 x1.toNatClampNeg))) else (if (u.2 0 x1.toNatClampNeg) = 2 then ((p_m_slot (u.2 2 x1.toNatClampNeg)) + 4) + (p_m_slot (u.2 1 x1.toNatClampNeg)) else (if (u.2 0 x1.toNatClampNeg) = 3 then ((p_m_slot (u.2 1 x1.toNatClampNeg)) + 4) + (p_m_slot (u.2 2 x1.toNatClampNeg)) else (if (u.2 0 x1.toNatClampNeg) = 5 then (if (u.2 8 x1.toNatClampNeg) = 0 then ((p_m_slot (u.2 2 x1.toNatClampNeg)) + (p_m_slot (u.2 3 x1.toNatClampNeg))) + 2 else ((p_m_slot (u.2 2 x1.toNatClampNeg)) + (p_m_slot (u.2 3 x1.toNatClampNeg))) + 3) else (if (u.2 0 x1.toNatClampNeg) = 6 then 2 else 1))))))
def ok_m_lengthOf (u : St) (x1 : Int32) : Prop := (vp_in x1 48 ∧ (((u.2 0 x1.toNatClampNeg) = 0 → (vp_in x1 48 ∧ (ok_m_makeLength (u.2 1 x1.toNatClampNeg) ∧ (vp_in x1 48 ∧ True)))) ∧ (¬ (u.2 0 x1.toNatClampNeg) = 0 → (((u.2 0 x1.toNatClampNeg) = 1 → (vp_in x1 48 ∧ ((2 ≤ (u.2 1 x1.toNatClampNeg) → (vp_in x1 48 ∧ True)) ∧ (¬ 2 ≤ (u.2 1 x1.toNatClampNeg) → (vp_in x1 48 ∧ (vp_in x1 48 ∧ (vp_in x1 48 ∧ True))))))) ∧ (¬ (u.2 0 x1.toNatClampNeg) = 1 → (((u.2 0 x1.toNatClampNeg) = 2 → (vp_in x1 48 ∧ (vp_in x1 48 ∧ True))) ∧ (¬ (u.2 0 x1.toNatClampNeg) = 2 → (((u.2 0 x1.toNatClampNeg) = 3 → (vp_in x1 48 ∧ (vp_in x1 48 ∧ True))) ∧ (¬ (u.2 0 x1.toNatClampNeg) = 3 → (((u.2 0 x1.toNatClampNeg) = 5 → (vp_in x1 48 ∧ (vp_in x1 48 ∧ (vp_in x1 48 ∧ True)))) ∧ (¬ (u.2 0 x1.toNatClampNeg) = 5 → True)))))))))))
set_option maxHeartbeats 4000000 in
set_option maxRecDepth 100000 in
theorem c_m_lengthOf (l : Launch) (D : va_G) (am : Nat → Nat) (cI cZ : ClassId) (zz : (Nat → Prop) → State → Heap → Prop) (hzz : Zok zz) (u : St) (x1 : Int32) (hok : ok_m_lengthOf u x1) : tfI l D vwCl (tyT cI cZ) zz yX4_lengthOf wsX4_lengthOf ({ frames := 3, cells := 0, slots := 0, locals := 63 } : Room) [.ref (am 0), .int x1] (wM am cI cZ u) (p_m_lengthOf u x1) (wM am cI cZ u) := by
  intro sz
  unfold ok_m_lengthOf at hok
  refine Met.ofW (cc := cX4_lengthOf) (maxL := 2) (ret := (some .int)) (by decide) rfl ?_
  intro p e s m args below meth c s₁ B hml hv
  obtain ⟨rfl, hsz, hP, hK, hD0, hZ⟩ := hv
  have hx := B.exec
  have hb := B.bytes
  have hr := B.returns
  have hts := atoms_spec (ws := wsX4_lengthOf) B.pre
  have hown : s.vm.findClass RX4 = some m.cls := findClass_of_methodNamed B.named
  have hlocks := B.notSynchronized
  subst hsz
  have hD := hD0.self (sz := s.heap.size)
  generalize hAe : va_A (wM am cI cZ u) s.heap.size = A at hD hZ ⊢
  have hA : ∀ q : Nat, s.heap.size ≤ q → A q := fun q h => by rw [← hAe]; exact Or.inr h
  have hS : va_S A s.heap s.heap [] := va_S.rf
  have Cx : cxt p s m ([.ref (am 0), .int x1] : List Value).toArray meth c cX4_lengthOf 2 (some .int) wsX4_lengthOf RX4 D vwCl (tyT cI cZ) zz A := ⟨hx, hb, hr, hts, hown, hlocks, hml, hK, hA, hZ⟩
  have hl := lv_entry ([.ref (am 0), .int x1]) (n := 2) (Nat.le_of_ble_eq_true rfl)
  rw [lg_entry_eq]
  generalize (lg_sl ([.ref (am 0), .int x1]) ++ List.replicate (2 - (lg_sl ([.ref (am 0), .int x1])).length) Slot.unset).toArray = ls at hl ⊢
  have hl : lv_has ls 2 [(0, .ref (am 0)), (1, .int x1)] := hl
  refine lv_aload_n hx hb dX4_lengthOf_0 rfl (lv_at hl 0 rfl) ?_
  refine va_get (ci := 4) (v := .ref (am 1)) (C := RX4) (T := TX4) (N := 22) hx hb hts (ivX4 _) hown hK hP 0 rfl rfl 2 (by decide) (hts _ (tb_c tw_3_103)) (fun _ h9 => h9) rfl dX4_lengthOf_1 ?_
  refine lv_iload_n hx hb dX4_lengthOf_4 rfl (lv_at hl 1 rfl) ?_
  obtain ⟨h_1, hok⟩ := hok
  refine va_iald (f := u.2 0) hx hb hK hP 1 0 rfl rfl h_1 dX4_lengthOf_5 ?_
  rcases Classical.em ((u.2 0 x1.toNatClampNeg) = 0) with c_2 | c_2
  · have hok := hok.1 c_2
    refine lv_tableIn (tgt := 48) hx hb dX4_lengthOf_6 (by rw [c_2]; decide) (by rw [c_2]; decide) (by rw [c_2]; rfl) (by decide) ?_
    refine lv_aload_n hx hb dX4_lengthOf_48 rfl (lv_at hl 0 rfl) ?_
    refine va_get (ci := 4) (v := .ref (am 2)) (C := RX4) (T := TX4) (N := 22) hx hb hts (ivX4 _) hown hK hP 0 rfl rfl 3 (by decide) (hts _ (tb_c tw_3_104)) (fun _ h9 => h9) rfl dX4_lengthOf_49 ?_
    refine lv_iload_n hx hb dX4_lengthOf_52 rfl (lv_at hl 1 rfl) ?_
    obtain ⟨h_3, hok⟩ := hok
    refine va_iald (f := u.2 1) hx hb hK hP 2 0 rfl rfl h_3 dX4_lengthOf_53 ?_
    obtain ⟨h_4, hok⟩ := hok
    refine k_callSi (As := [.int (u.2 1 x1.toNatClampNeg)]) (rest := []) hzz ⟨hx, hb, hml, hown, hts⟩ (c_m_makeLength l D am cI cZ zz hzz (wM am cI cZ u) (u.2 1 x1.toNatClampNeg) h_4) (cwS 1 hts (tb_S tw_3_238 tw_3_239 tw_1_5 tw_4_0) rfl rfl rfl (by decide +kernel) ⟨Nat.le_of_ble_eq_true rfl, Nat.le_of_ble_eq_true rfl⟩) rfl hl.1 rfl (lv_room (Nat.le_of_ble_eq_true rfl)) dX4_lengthOf_54 ⟨Nat.le_of_ble_eq_true rfl, Nat.le_of_ble_eq_true rfl⟩ hP hK hD hS hA hZ (fun H locs hP hD hS => ?_)
    refine lv_aload_n hx hb dX4_lengthOf_57 rfl (lv_at hl 0 rfl) ?_
    refine va_get (ci := 4) (v := .ref (am 3)) (C := RX4) (T := TX4) (N := 22) hx hb hts (ivX4 _) hown hK hP 0 rfl rfl 4 (by decide) (hts _ (tb_c tw_3_105)) (fun _ h9 => h9) rfl dX4_lengthOf_58 ?_
    refine lv_iload_n hx hb dX4_lengthOf_61 rfl (lv_at hl 1 rfl) ?_
    obtain ⟨h_5, hok⟩ := hok
    refine va_iald (f := u.2 2) hx hb hK hP 3 0 rfl rfl h_5 dX4_lengthOf_62 ?_
    refine k_callSi (As := [.int (u.2 2 x1.toNatClampNeg)]) (rest := [.int (p_m_makeLength (u.2 1 x1.toNatClampNeg))]) hzz ⟨hx, hb, hml, hown, hts⟩ (c_m_slot l D am cI cZ zz hzz (wM am cI cZ u) (u.2 2 x1.toNatClampNeg)) (cwS 1 hts (tb_S tw_4_7 tw_4_8 tw_1_5 tw_4_9) rfl rfl rfl (by decide +kernel) ⟨Nat.le_of_ble_eq_true rfl, Nat.le_of_ble_eq_true rfl⟩) rfl hl.1 rfl (lv_room (Nat.le_of_ble_eq_true rfl)) dX4_lengthOf_63 ⟨Nat.le_of_ble_eq_true rfl, Nat.le_of_ble_eq_true rfl⟩ hP hK hD hS hA hZ (fun H locs hP hD hS => ?_)
    refine lv_iadd hx hb dX4_lengthOf_66 ?_
    have e9 : p_m_lengthOf u x1 = (p_m_makeLength (u.2 1 x1.toNatClampNeg)) + (p_m_slot (u.2 2 x1.toNatClampNeg)) := by rw [p_m_lengthOf, if_pos c_2]
    rw [e9]
    exact W.iret hx hb hr (fun t ht hW => ⟨⟨_, (), rfl, rfl, by rw [ht]; exact hP, va_K.moved hW.alike hK, hD⟩, hS.F ht⟩) hS.2.2 dX4_lengthOf_67
  · have hok := hok.2 c_2
    rcases Classical.em ((u.2 0 x1.toNatClampNeg) = 1) with c_7 | c_7
    · have hok := hok.1 c_7
      refine lv_tableIn (tgt := 68) hx hb dX4_lengthOf_6 (by rw [c_7]; decide) (by rw [c_7]; decide) (by rw [c_7]; rfl) (by decide) ?_
      refine lv_aload_n hx hb dX4_lengthOf_68 rfl (lv_at hl 0 rfl) ?_
      refine va_get (ci := 4) (v := .ref (am 2)) (C := RX4) (T := TX4) (N := 22) hx hb hts (ivX4 _) hown hK hP 0 rfl rfl 3 (by decide) (hts _ (tb_c tw_3_104)) (fun _ h9 => h9) rfl dX4_lengthOf_69 ?_
      refine lv_iload_n hx hb dX4_lengthOf_72 rfl (lv_at hl 1 rfl) ?_
      obtain ⟨h_8, hok⟩ := hok
      refine va_iald (f := u.2 1) hx hb hK hP 2 0 rfl rfl h_8 dX4_lengthOf_73 ?_
      refine lv_iconst (v := 2) hx hb dX4_lengthOf_74 (by decide) ?_
      refine lv_icmp_ge (tgt := 112) hx hb dX4_lengthOf_75 (by decide) (fun c_9 => ?_) (fun c_9 => ?_)
      · have hok := hok.1 c_9
        refine lv_iconst (v := 3) hx hb dX4_lengthOf_112 (by decide) ?_
        refine lv_aload_n hx hb dX4_lengthOf_113 rfl (lv_at hl 0 rfl) ?_
        refine va_get (ci := 4) (v := .ref (am 5)) (C := RX4) (T := TX4) (N := 22) hx hb hts (ivX4 _) hown hK hP 0 rfl rfl 6 (by decide) (hts _ (tb_c tw_3_107)) (fun _ h9 => h9) rfl dX4_lengthOf_114 ?_
        refine lv_iload_n hx hb dX4_lengthOf_117 rfl (lv_at hl 1 rfl) ?_
        obtain ⟨h_10, hok⟩ := hok
        refine va_iald (f := u.2 4) hx hb hK hP 5 0 rfl rfl h_10 dX4_lengthOf_118 ?_
        refine k_callSi (As := [.int (u.2 4 x1.toNatClampNeg)]) (rest := [.int 3]) hzz ⟨hx, hb, hml, hown, hts⟩ (c_m_slot l D am cI cZ zz hzz (wM am cI cZ u) (u.2 4 x1.toNatClampNeg)) (cwS 1 hts (tb_S tw_4_7 tw_4_8 tw_1_5 tw_4_9) rfl rfl rfl (by decide +kernel) ⟨Nat.le_of_ble_eq_true rfl, Nat.le_of_ble_eq_true rfl⟩) rfl hl.1 rfl (lv_room (Nat.le_of_ble_eq_true rfl)) dX4_lengthOf_119 ⟨Nat.le_of_ble_eq_true rfl, Nat.le_of_ble_eq_true rfl⟩ hP hK hD hS hA hZ (fun H locs hP hD hS => ?_)
        refine lv_iadd hx hb dX4_lengthOf_122 ?_
        have e9 : p_m_lengthOf u x1 = 3 + (p_m_slot (u.2 4 x1.toNatClampNeg)) := by rw [p_m_lengthOf, if_neg c_2, if_pos c_7, if_pos c_9]
        rw [e9]
        exact W.iret hx hb hr (fun t ht hW => ⟨⟨_, (), rfl, rfl, by rw [ht]; exact hP, va_K.moved hW.alike hK, hD⟩, hS.F ht⟩) hS.2.2 dX4_lengthOf_123
      · have hok := hok.2 c_9
        refine lv_aload_n hx hb dX4_lengthOf_78 rfl (lv_at hl 0 rfl) ?_
        refine va_get (ci := 4) (v := .ref (am 4)) (C := RX4) (T := TX4) (N := 22) hx hb hts (ivX4 _) hown hK hP 0 rfl rfl 5 (by decide) (hts _ (tb_c tw_3_106)) (fun _ h9 => h9) rfl dX4_lengthOf_79 ?_
        refine lv_iload_n hx hb dX4_lengthOf_82 rfl (lv_at hl 1 rfl) ?_
        obtain ⟨h_12, hok⟩ := hok
        refine va_iald (f := u.2 3) hx hb hK hP 4 0 rfl rfl h_12 dX4_lengthOf_83 ?_
        refine k_callSi (As := [.int (u.2 3 x1.toNatClampNeg)]) (rest := []) hzz ⟨hx, hb, hml, hown, hts⟩ (c_m_slot l D am cI cZ zz hzz (wM am cI cZ u) (u.2 3 x1.toNatClampNeg)) (cwS 1 hts (tb_S tw_4_7 tw_4_8 tw_1_5 tw_4_9) rfl rfl rfl (by decide +kernel) ⟨Nat.le_of_ble_eq_true rfl, Nat.le_of_ble_eq_true rfl⟩) rfl hl.1 rfl (lv_room (Nat.le_of_ble_eq_true rfl)) dX4_lengthOf_84 ⟨Nat.le_of_ble_eq_true rfl, Nat.le_of_ble_eq_true rfl⟩ hP hK hD hS hA hZ (fun H locs hP hD hS => ?_)
        refine lv_aload_n hx hb dX4_lengthOf_87 rfl (lv_at hl 0 rfl) ?_
        refine va_get (ci := 4) (v := .ref (am 5)) (C := RX4) (T := TX4) (N := 22) hx hb hts (ivX4 _) hown hK hP 0 rfl rfl 6 (by decide) (hts _ (tb_c tw_3_107)) (fun _ h9 => h9) rfl dX4_lengthOf_88 ?_
        refine lv_iload_n hx hb dX4_lengthOf_91 rfl (lv_at hl 1 rfl) ?_
        obtain ⟨h_14, hok⟩ := hok
        refine va_iald (f := u.2 4) hx hb hK hP 5 0 rfl rfl h_14 dX4_lengthOf_92 ?_
        refine k_callSi (As := [.int (u.2 4 x1.toNatClampNeg)]) (rest := [.int (p_m_slot (u.2 3 x1.toNatClampNeg))]) hzz ⟨hx, hb, hml, hown, hts⟩ (c_m_slot l D am cI cZ zz hzz (wM am cI cZ u) (u.2 4 x1.toNatClampNeg)) (cwS 1 hts (tb_S tw_4_7 tw_4_8 tw_1_5 tw_4_9) rfl rfl rfl (by decide +kernel) ⟨Nat.le_of_ble_eq_true rfl, Nat.le_of_ble_eq_true rfl⟩) rfl hl.1 rfl (lv_room (Nat.le_of_ble_eq_true rfl)) dX4_lengthOf_93 ⟨Nat.le_of_ble_eq_true rfl, Nat.le_of_ble_eq_true rfl⟩ hP hK hD hS hA hZ (fun H locs hP hD hS => ?_)
        refine lv_iadd hx hb dX4_lengthOf_96 ?_
        refine lv_iconst (v := 1) hx hb dX4_lengthOf_97 (by decide) ?_
        refine lv_iadd hx hb dX4_lengthOf_98 ?_
        refine lv_aload_n hx hb dX4_lengthOf_99 rfl (lv_at hl 0 rfl) ?_
        refine va_get (ci := 4) (v := .ref (am 3)) (C := RX4) (T := TX4) (N := 22) hx hb hts (ivX4 _) hown hK hP 0 rfl rfl 4 (by decide) (hts _ (tb_c tw_3_105)) (fun _ h9 => h9) rfl dX4_lengthOf_100 ?_
        refine lv_iload_n hx hb dX4_lengthOf_103 rfl (lv_at hl 1 rfl) ?_
        obtain ⟨h_16, hok⟩ := hok
        refine va_iald (f := u.2 2) hx hb hK hP 3 0 rfl rfl h_16 dX4_lengthOf_104 ?_
        refine k_callSi (As := [.int (u.2 2 x1.toNatClampNeg)]) (rest := [.int (((p_m_slot (u.2 3 x1.toNatClampNeg)) + (p_m_slot (u.2 4 x1.toNatClampNeg))) + 1)]) hzz ⟨hx, hb, hml, hown, hts⟩ (c_m_slot l D am cI cZ zz hzz (wM am cI cZ u) (u.2 2 x1.toNatClampNeg)) (cwS 1 hts (tb_S tw_4_7 tw_4_8 tw_1_5 tw_4_9) rfl rfl rfl (by decide +kernel) ⟨Nat.le_of_ble_eq_true rfl, Nat.le_of_ble_eq_true rfl⟩) rfl hl.1 rfl (lv_room (Nat.le_of_ble_eq_true rfl)) dX4_lengthOf_105 ⟨Nat.le_of_ble_eq_true rfl, Nat.le_of_ble_eq_true rfl⟩ hP hK hD hS hA hZ (fun H locs hP hD hS => ?_)
        refine lv_iadd hx hb dX4_lengthOf_108 ?_
        refine lv_goto (tgt := 123) hx hb dX4_lengthOf_109 (by decide) ?_
        have e9 : p_m_lengthOf u x1 = (((p_m_slot (u.2 3 x1.toNatClampNeg)) + (p_m_slot (u.2 4 x1.toNatClampNeg))) + 1) + (p_m_slot (u.2 2 x1.toNatClampNeg)) := by rw [p_m_lengthOf, if_neg c_2, if_pos c_7, if_neg c_9]
        rw [e9]
        exact W.iret hx hb hr (fun t ht hW => ⟨⟨_, (), rfl, rfl, by rw [ht]; exact hP, va_K.moved hW.alike hK, hD⟩, hS.F ht⟩) hS.2.2 dX4_lengthOf_123
    · have hok := hok.2 c_7
      rcases Classical.em ((u.2 0 x1.toNatClampNeg) = 2) with c_18 | c_18
      · have hok := hok.1 c_18
        refine lv_tableIn (tgt := 124) hx hb dX4_lengthOf_6 (by rw [c_18]; decide) (by rw [c_18]; decide) (by rw [c_18]; rfl) (by decide) ?_
        refine lv_aload_n hx hb dX4_lengthOf_124 rfl (lv_at hl 0 rfl) ?_
        refine va_get (ci := 4) (v := .ref (am 3)) (C := RX4) (T := TX4) (N := 22) hx hb hts (ivX4 _) hown hK hP 0 rfl rfl 4 (by decide) (hts _ (tb_c tw_3_105)) (fun _ h9 => h9) rfl dX4_lengthOf_125 ?_
        refine lv_iload_n hx hb dX4_lengthOf_128 rfl (lv_at hl 1 rfl) ?_
        obtain ⟨h_19, hok⟩ := hok
        refine va_iald (f := u.2 2) hx hb hK hP 3 0 rfl rfl h_19 dX4_lengthOf_129 ?_
        refine k_callSi (As := [.int (u.2 2 x1.toNatClampNeg)]) (rest := []) hzz ⟨hx, hb, hml, hown, hts⟩ (c_m_slot l D am cI cZ zz hzz (wM am cI cZ u) (u.2 2 x1.toNatClampNeg)) (cwS 1 hts (tb_S tw_4_7 tw_4_8 tw_1_5 tw_4_9) rfl rfl rfl (by decide +kernel) ⟨Nat.le_of_ble_eq_true rfl, Nat.le_of_ble_eq_true rfl⟩) rfl hl.1 rfl (lv_room (Nat.le_of_ble_eq_true rfl)) dX4_lengthOf_130 ⟨Nat.le_of_ble_eq_true rfl, Nat.le_of_ble_eq_true rfl⟩ hP hK hD hS hA hZ (fun H locs hP hD hS => ?_)
        refine lv_iconst (v := 4) hx hb dX4_lengthOf_133 (by decide) ?_
        refine lv_iadd hx hb dX4_lengthOf_134 ?_
        refine lv_aload_n hx hb dX4_lengthOf_135 rfl (lv_at hl 0 rfl) ?_
        refine va_get (ci := 4) (v := .ref (am 2)) (C := RX4) (T := TX4) (N := 22) hx hb hts (ivX4 _) hown hK hP 0 rfl rfl 3 (by decide) (hts _ (tb_c tw_3_104)) (fun _ h9 => h9) rfl dX4_lengthOf_136 ?_
        refine lv_iload_n hx hb dX4_lengthOf_139 rfl (lv_at hl 1 rfl) ?_
        obtain ⟨h_21, hok⟩ := hok
        refine va_iald (f := u.2 1) hx hb hK hP 2 0 rfl rfl h_21 dX4_lengthOf_140 ?_
        refine k_callSi (As := [.int (u.2 1 x1.toNatClampNeg)]) (rest := [.int ((p_m_slot (u.2 2 x1.toNatClampNeg)) + 4)]) hzz ⟨hx, hb, hml, hown, hts⟩ (c_m_slot l D am cI cZ zz hzz (wM am cI cZ u) (u.2 1 x1.toNatClampNeg)) (cwS 1 hts (tb_S tw_4_7 tw_4_8 tw_1_5 tw_4_9) rfl rfl rfl (by decide +kernel) ⟨Nat.le_of_ble_eq_true rfl, Nat.le_of_ble_eq_true rfl⟩) rfl hl.1 rfl (lv_room (Nat.le_of_ble_eq_true rfl)) dX4_lengthOf_141 ⟨Nat.le_of_ble_eq_true rfl, Nat.le_of_ble_eq_true rfl⟩ hP hK hD hS hA hZ (fun H locs hP hD hS => ?_)
        refine lv_iadd hx hb dX4_lengthOf_144 ?_
        have e9 : p_m_lengthOf u x1 = ((p_m_slot (u.2 2 x1.toNatClampNeg)) + 4) + (p_m_slot (u.2 1 x1.toNatClampNeg)) := by rw [p_m_lengthOf, if_neg c_2, if_neg c_7, if_pos c_18]
        rw [e9]
        exact W.iret hx hb hr (fun t ht hW => ⟨⟨_, (), rfl, rfl, by rw [ht]; exact hP, va_K.moved hW.alike hK, hD⟩, hS.F ht⟩) hS.2.2 dX4_lengthOf_145
      · have hok := hok.2 c_18
        rcases Classical.em ((u.2 0 x1.toNatClampNeg) = 3) with c_23 | c_23
        · have hok := hok.1 c_23
          refine lv_tableIn (tgt := 146) hx hb dX4_lengthOf_6 (by rw [c_23]; decide) (by rw [c_23]; decide) (by rw [c_23]; rfl) (by decide) ?_
          refine lv_aload_n hx hb dX4_lengthOf_146 rfl (lv_at hl 0 rfl) ?_
          refine va_get (ci := 4) (v := .ref (am 2)) (C := RX4) (T := TX4) (N := 22) hx hb hts (ivX4 _) hown hK hP 0 rfl rfl 3 (by decide) (hts _ (tb_c tw_3_104)) (fun _ h9 => h9) rfl dX4_lengthOf_147 ?_
          refine lv_iload_n hx hb dX4_lengthOf_150 rfl (lv_at hl 1 rfl) ?_
          obtain ⟨h_24, hok⟩ := hok
          refine va_iald (f := u.2 1) hx hb hK hP 2 0 rfl rfl h_24 dX4_lengthOf_151 ?_
          refine k_callSi (As := [.int (u.2 1 x1.toNatClampNeg)]) (rest := []) hzz ⟨hx, hb, hml, hown, hts⟩ (c_m_slot l D am cI cZ zz hzz (wM am cI cZ u) (u.2 1 x1.toNatClampNeg)) (cwS 1 hts (tb_S tw_4_7 tw_4_8 tw_1_5 tw_4_9) rfl rfl rfl (by decide +kernel) ⟨Nat.le_of_ble_eq_true rfl, Nat.le_of_ble_eq_true rfl⟩) rfl hl.1 rfl (lv_room (Nat.le_of_ble_eq_true rfl)) dX4_lengthOf_152 ⟨Nat.le_of_ble_eq_true rfl, Nat.le_of_ble_eq_true rfl⟩ hP hK hD hS hA hZ (fun H locs hP hD hS => ?_)
          refine lv_iconst (v := 4) hx hb dX4_lengthOf_155 (by decide) ?_
          refine lv_iadd hx hb dX4_lengthOf_156 ?_
          refine lv_aload_n hx hb dX4_lengthOf_157 rfl (lv_at hl 0 rfl) ?_
          refine va_get (ci := 4) (v := .ref (am 3)) (C := RX4) (T := TX4) (N := 22) hx hb hts (ivX4 _) hown hK hP 0 rfl rfl 4 (by decide) (hts _ (tb_c tw_3_105)) (fun _ h9 => h9) rfl dX4_lengthOf_158 ?_
          refine lv_iload_n hx hb dX4_lengthOf_161 rfl (lv_at hl 1 rfl) ?_
          obtain ⟨h_26, hok⟩ := hok
          refine va_iald (f := u.2 2) hx hb hK hP 3 0 rfl rfl h_26 dX4_lengthOf_162 ?_
          refine k_callSi (As := [.int (u.2 2 x1.toNatClampNeg)]) (rest := [.int ((p_m_slot (u.2 1 x1.toNatClampNeg)) + 4)]) hzz ⟨hx, hb, hml, hown, hts⟩ (c_m_slot l D am cI cZ zz hzz (wM am cI cZ u) (u.2 2 x1.toNatClampNeg)) (cwS 1 hts (tb_S tw_4_7 tw_4_8 tw_1_5 tw_4_9) rfl rfl rfl (by decide +kernel) ⟨Nat.le_of_ble_eq_true rfl, Nat.le_of_ble_eq_true rfl⟩) rfl hl.1 rfl (lv_room (Nat.le_of_ble_eq_true rfl)) dX4_lengthOf_163 ⟨Nat.le_of_ble_eq_true rfl, Nat.le_of_ble_eq_true rfl⟩ hP hK hD hS hA hZ (fun H locs hP hD hS => ?_)
          refine lv_iadd hx hb dX4_lengthOf_166 ?_
          have e9 : p_m_lengthOf u x1 = ((p_m_slot (u.2 1 x1.toNatClampNeg)) + 4) + (p_m_slot (u.2 2 x1.toNatClampNeg)) := by rw [p_m_lengthOf, if_neg c_2, if_neg c_7, if_neg c_18, if_pos c_23]
          rw [e9]
          exact W.iret hx hb hr (fun t ht hW => ⟨⟨_, (), rfl, rfl, by rw [ht]; exact hP, va_K.moved hW.alike hK, hD⟩, hS.F ht⟩) hS.2.2 dX4_lengthOf_167
        · have hok := hok.2 c_23
          rcases Classical.em ((u.2 0 x1.toNatClampNeg) = 5) with c_28 | c_28
          · have hok := hok.1 c_28
            refine lv_tableIn (tgt := 168) hx hb dX4_lengthOf_6 (by rw [c_28]; decide) (by rw [c_28]; decide) (by rw [c_28]; rfl) (by decide) ?_
            refine lv_aload_n hx hb dX4_lengthOf_168 rfl (lv_at hl 0 rfl) ?_
            refine va_get (ci := 4) (v := .ref (am 3)) (C := RX4) (T := TX4) (N := 22) hx hb hts (ivX4 _) hown hK hP 0 rfl rfl 4 (by decide) (hts _ (tb_c tw_3_105)) (fun _ h9 => h9) rfl dX4_lengthOf_169 ?_
            refine lv_iload_n hx hb dX4_lengthOf_172 rfl (lv_at hl 1 rfl) ?_
            obtain ⟨h_29, hok⟩ := hok
            refine va_iald (f := u.2 2) hx hb hK hP 3 0 rfl rfl h_29 dX4_lengthOf_173 ?_
            refine k_callSi (As := [.int (u.2 2 x1.toNatClampNeg)]) (rest := []) hzz ⟨hx, hb, hml, hown, hts⟩ (c_m_slot l D am cI cZ zz hzz (wM am cI cZ u) (u.2 2 x1.toNatClampNeg)) (cwS 1 hts (tb_S tw_4_7 tw_4_8 tw_1_5 tw_4_9) rfl rfl rfl (by decide +kernel) ⟨Nat.le_of_ble_eq_true rfl, Nat.le_of_ble_eq_true rfl⟩) rfl hl.1 rfl (lv_room (Nat.le_of_ble_eq_true rfl)) dX4_lengthOf_174 ⟨Nat.le_of_ble_eq_true rfl, Nat.le_of_ble_eq_true rfl⟩ hP hK hD hS hA hZ (fun H locs hP hD hS => ?_)
            refine lv_aload_n hx hb dX4_lengthOf_177 rfl (lv_at hl 0 rfl) ?_
            refine va_get (ci := 4) (v := .ref (am 4)) (C := RX4) (T := TX4) (N := 22) hx hb hts (ivX4 _) hown hK hP 0 rfl rfl 5 (by decide) (hts _ (tb_c tw_3_106)) (fun _ h9 => h9) rfl dX4_lengthOf_178 ?_
            refine lv_iload_n hx hb dX4_lengthOf_181 rfl (lv_at hl 1 rfl) ?_
            obtain ⟨h_31, hok⟩ := hok
            refine va_iald (f := u.2 3) hx hb hK hP 4 0 rfl rfl h_31 dX4_lengthOf_182 ?_
            refine k_callSi (As := [.int (u.2 3 x1.toNatClampNeg)]) (rest := [.int (p_m_slot (u.2 2 x1.toNatClampNeg))]) hzz ⟨hx, hb, hml, hown, hts⟩ (c_m_slot l D am cI cZ zz hzz (wM am cI cZ u) (u.2 3 x1.toNatClampNeg)) (cwS 1 hts (tb_S tw_4_7 tw_4_8 tw_1_5 tw_4_9) rfl rfl rfl (by decide +kernel) ⟨Nat.le_of_ble_eq_true rfl, Nat.le_of_ble_eq_true rfl⟩) rfl hl.1 rfl (lv_room (Nat.le_of_ble_eq_true rfl)) dX4_lengthOf_183 ⟨Nat.le_of_ble_eq_true rfl, Nat.le_of_ble_eq_true rfl⟩ hP hK hD hS hA hZ (fun H locs hP hD hS => ?_)
            refine lv_iadd hx hb dX4_lengthOf_186 ?_
            refine lv_aload_n hx hb dX4_lengthOf_187 rfl (lv_at hl 0 rfl) ?_
            refine va_get (ci := 4) (v := .ref (am 9)) (C := RX4) (T := TX4) (N := 22) hx hb hts (ivX4 _) hown hK hP 0 rfl rfl 12 (by decide) (hts _ (tb_c tw_3_113)) (fun _ h9 => h9) rfl dX4_lengthOf_188 ?_
            refine lv_iload_n hx hb dX4_lengthOf_191 rfl (lv_at hl 1 rfl) ?_
            obtain ⟨h_33, hok⟩ := hok
            refine va_zald (f := u.2 8) hx hb hK hP 9 1 rfl rfl h_33 dX4_lengthOf_192 ?_
            refine lv_if_eq (tgt := 200) hx hb dX4_lengthOf_193 (by decide) (fun c_34 => ?_) (fun c_34 => ?_)
            · skip
              refine lv_iconst (v := 2) hx hb dX4_lengthOf_200 (by decide) ?_
              refine lv_iadd hx hb dX4_lengthOf_201 ?_
              have e9 : p_m_lengthOf u x1 = ((p_m_slot (u.2 2 x1.toNatClampNeg)) + (p_m_slot (u.2 3 x1.toNatClampNeg))) + 2 := by rw [p_m_lengthOf, if_neg c_2, if_neg c_7, if_neg c_18, if_neg c_23, if_pos c_28, if_pos c_34]
              rw [e9]
              exact W.iret hx hb hr (fun t ht hW => ⟨⟨_, (), rfl, rfl, by rw [ht]; exact hP, va_K.moved hW.alike hK, hD⟩, hS.F ht⟩) hS.2.2 dX4_lengthOf_202
            · skip
              refine lv_iconst (v := 3) hx hb dX4_lengthOf_196 (by decide) ?_
              refine lv_goto (tgt := 201) hx hb dX4_lengthOf_197 (by decide) ?_
              refine lv_iadd hx hb dX4_lengthOf_201 ?_
              have e9 : p_m_lengthOf u x1 = ((p_m_slot (u.2 2 x1.toNatClampNeg)) + (p_m_slot (u.2 3 x1.toNatClampNeg))) + 3 := by rw [p_m_lengthOf, if_neg c_2, if_neg c_7, if_neg c_18, if_neg c_23, if_pos c_28, if_neg c_34]
              rw [e9]
              exact W.iret hx hb hr (fun t ht hW => ⟨⟨_, (), rfl, rfl, by rw [ht]; exact hP, va_K.moved hW.alike hK, hD⟩, hS.F ht⟩) hS.2.2 dX4_lengthOf_202
          · have hok := hok.2 c_28
            rcases Classical.em ((u.2 0 x1.toNatClampNeg) = 6) with c_35 | c_35
            · skip
              refine lv_tableIn (tgt := 203) hx hb dX4_lengthOf_6 (by rw [c_35]; decide) (by rw [c_35]; decide) (by rw [c_35]; rfl) (by decide) ?_
              refine lv_iconst (v := 2) hx hb dX4_lengthOf_203 (by decide) ?_
              have e9 : p_m_lengthOf u x1 = 2 := by rw [p_m_lengthOf, if_neg c_2, if_neg c_7, if_neg c_18, if_neg c_23, if_neg c_28, if_pos c_35]
              rw [e9]
              exact W.iret hx hb hr (fun t ht hW => ⟨⟨_, (), rfl, rfl, by rw [ht]; exact hP, va_K.moved hW.alike hK, hD⟩, hS.F ht⟩) hS.2.2 dX4_lengthOf_204
            · skip
              rcases Classical.em ((u.2 0 x1.toNatClampNeg) = 4) with g_36 | g_36
              · refine lv_tableIn (tgt := 205) hx hb dX4_lengthOf_6 (by rw [g_36]; decide) (by rw [g_36]; decide) (by rw [g_36]; rfl) (by decide) ?_
                refine lv_iconst (v := 1) hx hb dX4_lengthOf_205 (by decide) ?_
                have e9 : p_m_lengthOf u x1 = 1 := by rw [p_m_lengthOf, if_neg c_2, if_neg c_7, if_neg c_18, if_neg c_23, if_neg c_28, if_neg c_35]
                rw [e9]
                exact W.iret hx hb hr (fun t ht hW => ⟨⟨_, (), rfl, rfl, by rw [ht]; exact hP, va_K.moved hW.alike hK, hD⟩, hS.F ht⟩) hS.2.2 dX4_lengthOf_206
              have n_c_2 := lv_neT (k := 0) (a := 0) c_2 rfl
              have n_c_7 := lv_neT (k := 1) (a := 1) c_7 rfl
              have n_c_18 := lv_neT (k := 2) (a := 2) c_18 rfl
              have n_c_23 := lv_neT (k := 3) (a := 3) c_23 rfl
              have n_c_28 := lv_neT (k := 5) (a := 5) c_28 rfl
              have n_c_35 := lv_neT (k := 6) (a := 6) c_35 rfl
              have n_g_36 := lv_neT (k := 4) (a := 4) g_36 rfl
              refine lv_tableOut (tgt := 205) hx hb dX4_lengthOf_6 (by omega) (by decide) ?_
              refine lv_iconst (v := 1) hx hb dX4_lengthOf_205 (by decide) ?_
              have e9 : p_m_lengthOf u x1 = 1 := by rw [p_m_lengthOf, if_neg c_2, if_neg c_7, if_neg c_18, if_neg c_23, if_neg c_28, if_neg c_35]
              rw [e9]
              exact W.iret hx hb hr (fun t ht hW => ⟨⟨_, (), rfl, rfl, by rw [ht]; exact hP, va_K.moved hW.alike hK, hD⟩, hS.F ht⟩) hS.2.2 dX4_lengthOf_206

def p_m_layOut_9 : Nat → St → Int32 → St
  | 0, u, _ => u
  | n + 1, u, x1 => (if (u.1 1) ≤ x1 then u else p_m_layOut_9 n (sA u 7 (x1 + 1) ((u.2 7 x1.toNatClampNeg) + (p_m_lengthOf u x1))) (x1 + 1))
def ok_m_layOut_9 : Nat → St → Int32 → Prop
  | 0, _, _ => False
  | n + 1, u, x1 => (((u.1 1) ≤ x1 → True) ∧ (¬ (u.1 1) ≤ x1 → (vp_in x1 49 ∧ (ok_m_lengthOf u x1 ∧ (vp_in (x1 + 1) 49 ∧ ok_m_layOut_9 n (sA u 7 (x1 + 1) ((u.2 7 x1.toNatClampNeg) + (p_m_lengthOf u x1))) (x1 + 1))))))
set_option maxHeartbeats 4000000 in
set_option maxRecDepth 100000 in
theorem w_m_layOut_9 {p : Program} {l : Launch} {e : Env} {s : State} {m : MethodId} {args : Array Value} {below : List Frame} {meth : Method} {c : Code} {D : va_G} {A : Nat → Prop} (am : Nat → Nat) (cI cZ : ClassId) (zz : (Nat → Prop) → State → Heap → Prop) (hzz : Zok zz) (Cx : cxt p s m args meth c cX4_layOut 2 none wsX4_layOut RX4 D vwCl (tyT cI cZ) zz A) : ∀ (n : Nat) (u : St) (x1 : Int32) (H : Heap) (locs : List Loc) (ls : Array Slot), ok_m_layOut_9 n u x1 → va_P D vwCl (wM am cI cZ u) H → va_D A (wM am cI cZ u) → va_S A s.heap H locs → lv_has ls 2 [(0, .ref (am 0)), (1, .int x1)] → W p l e ({ frames := 4, cells := 0, slots := 0, locals := 84 } : Room) s m args below meth c H locs 0 0 (MQ below (qqV D vwCl (tyT cI cZ) (wM am cI cZ (p_m_layOut_9 n u x1)) A) args s 0 0 A) (F0 m 9 ls []) := by
  obtain ⟨hx, hb, hr, hts, hown, hlocks, hml, hK, hA, hZ⟩ := id Cx
  intro n
  induction n with
  | zero =>
    intro u x1 H locs ls hok
    exact False.elim hok
  | succ n ih =>
    intro u x1 H locs ls hok hP hD hS hl
    unfold ok_m_layOut_9 at hok
    refine lv_iload_n hx hb dX4_layOut_9 rfl (lv_at hl 1 rfl) ?_
    refine lv_aload_n hx hb dX4_layOut_10 rfl (lv_at hl 0 rfl) ?_
    refine va_get (ci := 4) (v := .int (u.1 1)) (C := RX4) (T := TX4) (N := 22) hx hb hts (ivX4 _) hown hK hP 0 rfl rfl 1 (by decide) (hts _ (tb_c tw_3_102)) (fun _ h9 => h9) rfl dX4_layOut_11 ?_
    refine lv_icmp_ge (tgt := 43) hx hb dX4_layOut_14 (by decide) (fun c_1 => ?_) (fun c_1 => ?_)
    · have hok := hok.1 c_1
      have e9 : p_m_layOut_9 (n + 1) u x1 = u := by rw [p_m_layOut_9, if_pos c_1]
      rw [e9]
      exact W.vret hx hb hr (fun t ht hW => ⟨⟨(), rfl, trivial, by rw [ht]; exact hP, va_K.moved hW.alike hK, hD⟩, hS.F ht⟩) hS.2.2 dX4_layOut_43
    · have hok := hok.2 c_1
      refine lv_aload_n hx hb dX4_layOut_17 rfl (lv_at hl 0 rfl) ?_
      refine va_get (ci := 4) (v := .ref (am 8)) (C := RX4) (T := TX4) (N := 22) hx hb hts (ivX4 _) hown hK hP 0 rfl rfl 11 (by decide) (hts _ (tb_c tw_3_112)) (fun _ h9 => h9) rfl dX4_layOut_18 ?_
      refine lv_iload_n hx hb dX4_layOut_21 rfl (lv_at hl 1 rfl) ?_
      refine lv_iconst (v := 1) hx hb dX4_layOut_22 (by decide) ?_
      refine lv_iadd hx hb dX4_layOut_23 ?_
      refine lv_aload_n hx hb dX4_layOut_24 rfl (lv_at hl 0 rfl) ?_
      refine va_get (ci := 4) (v := .ref (am 8)) (C := RX4) (T := TX4) (N := 22) hx hb hts (ivX4 _) hown hK hP 0 rfl rfl 11 (by decide) (hts _ (tb_c tw_3_112)) (fun _ h9 => h9) rfl dX4_layOut_25 ?_
      refine lv_iload_n hx hb dX4_layOut_28 rfl (lv_at hl 1 rfl) ?_
      obtain ⟨h_2, hok⟩ := hok
      refine va_iald (f := u.2 7) hx hb hK hP 8 0 rfl rfl h_2 dX4_layOut_29 ?_
      refine lv_aload_n hx hb dX4_layOut_30 rfl (lv_at hl 0 rfl) ?_
      refine lv_iload_n hx hb dX4_layOut_31 rfl (lv_at hl 1 rfl) ?_
      obtain ⟨h_3, hok⟩ := hok
      refine k_callVi (As := [.int x1]) (rest := [.int (u.2 7 x1.toNatClampNeg), .int (x1 + 1), .ref (am 8)]) hzz ⟨hx, hb, hml, hown, hts⟩ (c_m_lengthOf l D am cI cZ zz hzz u x1 h_3) (cwV 1 hts (tb_V tw_3_234 tw_3_236 slX4_lengthOf tw_1_5 tw_3_237) rfl rfl rfl (by decide +kernel) ⟨Nat.le_of_ble_eq_true rfl, Nat.le_of_ble_eq_true rfl⟩) (va_recv hK hP (ci := 4) (q0 := 0) rfl rfl) rfl hl.1 rfl (lv_room (Nat.le_of_ble_eq_true rfl)) dX4_layOut_32 ⟨Nat.le_of_ble_eq_true rfl, Nat.le_of_ble_eq_true rfl⟩ hP hK hD hS hA hZ (fun H locs hP hD hS => ?_)
      refine lv_iadd hx hb dX4_layOut_35 ?_
      obtain ⟨h_4, hok⟩ := hok
      refine va_iast hx hb hK hP hD hS 8 0 rfl rfl h_4 dX4_layOut_36 (fun H locs hP hD hS => ?_)
      have hP : va_P D vwCl (wM am cI cZ (sA u 7 (x1 + 1) ((u.2 7 x1.toNatClampNeg) + (p_m_lengthOf u x1)))) H := hP
      have hD : va_D A (wM am cI cZ (sA u 7 (x1 + 1) ((u.2 7 x1.toNatClampNeg) + (p_m_lengthOf u x1)))) := hD
      refine lv_iinc (v := x1 + 1) (lv' := [(1, .int (x1 + 1)), (0, .ref (am 0))]) hx hb dX4_layOut_37 hl (k := 1) rfl rfl (by decide) rfl (fun ls hl => ?_)
      refine lv_goto (tgt := 9) hx hb dX4_layOut_40 (by decide) ?_
      have e9 : p_m_layOut_9 (n + 1) u x1 = p_m_layOut_9 n (sA u 7 (x1 + 1) ((u.2 7 x1.toNatClampNeg) + (p_m_lengthOf u x1))) (x1 + 1) := by rw [p_m_layOut_9, if_neg c_1]
      rw [e9]
      exact ih (sA u 7 (x1 + 1) ((u.2 7 x1.toNatClampNeg) + (p_m_lengthOf u x1))) (x1 + 1) _ _ _ hok hP hD hS (lv_sub hl [1, 0] rfl)
def p_m_layOut (u : St) : St := p_m_layOut_9 64 (sA u 7 0 1) 0
def ok_m_layOut (u : St) : Prop := (vp_in 0 49 ∧ ok_m_layOut_9 64 (sA u 7 0 1) 0)
set_option maxHeartbeats 4000000 in
set_option maxRecDepth 100000 in
theorem c_m_layOut (l : Launch) (D : va_G) (am : Nat → Nat) (cI cZ : ClassId) (zz : (Nat → Prop) → State → Heap → Prop) (hzz : Zok zz) (u : St) (hok : ok_m_layOut u) : tfV l D vwCl (tyT cI cZ) zz yX4_layOut wsX4_layOut ({ frames := 4, cells := 0, slots := 0, locals := 84 } : Room) [.ref (am 0)] (wM am cI cZ u) (wM am cI cZ (p_m_layOut u)) := by
  intro sz
  unfold ok_m_layOut at hok
  refine Met.ofW (cc := cX4_layOut) (maxL := 2) (ret := none) (by decide) rfl ?_
  intro p e s m args below meth c s₁ B hml hv
  obtain ⟨rfl, hsz, hP, hK, hD0, hZ⟩ := hv
  have hx := B.exec
  have hb := B.bytes
  have hr := B.returns
  have hts := atoms_spec (ws := wsX4_layOut) B.pre
  have hown : s.vm.findClass RX4 = some m.cls := findClass_of_methodNamed B.named
  have hlocks := B.notSynchronized
  subst hsz
  have hD := hD0.self (sz := s.heap.size)
  generalize hAe : va_A (wM am cI cZ u) s.heap.size = A at hD hZ ⊢
  have hA : ∀ q : Nat, s.heap.size ≤ q → A q := fun q h => by rw [← hAe]; exact Or.inr h
  have hS : va_S A s.heap s.heap [] := va_S.rf
  have Cx : cxt p s m ([.ref (am 0)] : List Value).toArray meth c cX4_layOut 2 none wsX4_layOut RX4 D vwCl (tyT cI cZ) zz A := ⟨hx, hb, hr, hts, hown, hlocks, hml, hK, hA, hZ⟩
  have hl := lv_entry ([.ref (am 0)]) (n := 2) (Nat.le_of_ble_eq_true rfl)
  rw [lg_entry_eq]
  generalize (lg_sl ([.ref (am 0)]) ++ List.replicate (2 - (lg_sl ([.ref (am 0)])).length) Slot.unset).toArray = ls at hl ⊢
  have hl : lv_has ls 2 [(0, .ref (am 0))] := hl
  refine lv_aload_n hx hb dX4_layOut_0 rfl (lv_at hl 0 rfl) ?_
  refine va_get (ci := 4) (v := .ref (am 8)) (C := RX4) (T := TX4) (N := 22) hx hb hts (ivX4 _) hown hK hP 0 rfl rfl 11 (by decide) (hts _ (tb_c tw_3_112)) (fun _ h9 => h9) rfl dX4_layOut_1 ?_
  refine lv_iconst (v := 0) hx hb dX4_layOut_4 (by decide) ?_
  refine lv_iconst (v := 1) hx hb dX4_layOut_5 (by decide) ?_
  obtain ⟨h_1, hok⟩ := hok
  refine va_iast hx hb hK hP hD hS 8 0 rfl rfl h_1 dX4_layOut_6 (fun H locs hP hD hS => ?_)
  have hP : va_P D vwCl (wM am cI cZ (sA u 7 0 1)) H := hP
  have hD : va_D A (wM am cI cZ (sA u 7 0 1)) := hD
  refine lv_iconst (v := 0) hx hb dX4_layOut_7 (by decide) ?_
  refine lv_istore_n (lv' := [(1, .int 0), (0, .ref (am 0))]) hx hb dX4_layOut_8 rfl hl (by decide) rfl (fun ls hl => ?_)
  have e9 : p_m_layOut u = p_m_layOut_9 64 (sA u 7 0 1) 0 := by rw [p_m_layOut]
  rw [e9]
  exact w_m_layOut_9 am cI cZ zz hzz Cx 64 (sA u 7 0 1) 0 _ _ _ hok hP hD hS (lv_sub hl [1, 0] rfl)

def p_m_way (u : St) (x1 x2 : Int32) : Int32 := ((u.2 7 x2.toNatClampNeg) - x1) - 2
def ok_m_way (u : St) (x1 x2 : Int32) : Prop := (vp_in x2 49 ∧ True)
set_option maxHeartbeats 4000000 in
set_option maxRecDepth 100000 in
theorem c_m_way (l : Launch) (D : va_G) (am : Nat → Nat) (cI cZ : ClassId) (zz : (Nat → Prop) → State → Heap → Prop) (hzz : Zok zz) (u : St) (x1 x2 : Int32) (hok : ok_m_way u x1 x2) : tfI l D vwCl (tyT cI cZ) zz yX4_way wsX4_way ({ frames := 0, cells := 0, slots := 0, locals := 0 } : Room) [.ref (am 0), .int x1, .int x2] (wM am cI cZ u) (p_m_way u x1 x2) (wM am cI cZ u) := by
  intro sz
  unfold ok_m_way at hok
  refine Met.ofW (cc := cX4_way) (maxL := 3) (ret := (some .int)) (by decide) rfl ?_
  intro p e s m args below meth c s₁ B hml hv
  obtain ⟨rfl, hsz, hP, hK, hD0, hZ⟩ := hv
  have hx := B.exec
  have hb := B.bytes
  have hr := B.returns
  have hts := atoms_spec (ws := wsX4_way) B.pre
  have hown : s.vm.findClass RX4 = some m.cls := findClass_of_methodNamed B.named
  have hlocks := B.notSynchronized
  subst hsz
  have hD := hD0.self (sz := s.heap.size)
  generalize hAe : va_A (wM am cI cZ u) s.heap.size = A at hD hZ ⊢
  have hA : ∀ q : Nat, s.heap.size ≤ q → A q := fun q h => by rw [← hAe]; exact Or.inr h
  have hS : va_S A s.heap s.heap [] := va_S.rf
  have Cx : cxt p s m ([.ref (am 0), .int x1, .int x2] : List Value).toArray meth c cX4_way 3 (some .int) wsX4_way RX4 D vwCl (tyT cI cZ) zz A := ⟨hx, hb, hr, hts, hown, hlocks, hml, hK, hA, hZ⟩
  have hl := lv_entry ([.ref (am 0), .int x1, .int x2]) (n := 3) (Nat.le_of_ble_eq_true rfl)
  rw [lg_entry_eq]
  generalize (lg_sl ([.ref (am 0), .int x1, .int x2]) ++ List.replicate (3 - (lg_sl ([.ref (am 0), .int x1, .int x2])).length) Slot.unset).toArray = ls at hl ⊢
  have hl : lv_has ls 3 [(0, .ref (am 0)), (1, .int x1), (2, .int x2)] := hl
  refine lv_aload_n hx hb dX4_way_0 rfl (lv_at hl 0 rfl) ?_
  refine va_get (ci := 4) (v := .ref (am 8)) (C := RX4) (T := TX4) (N := 22) hx hb hts (ivX4 _) hown hK hP 0 rfl rfl 11 (by decide) (hts _ (tb_c tw_3_112)) (fun _ h9 => h9) rfl dX4_way_1 ?_
  refine lv_iload_n hx hb dX4_way_4 rfl (lv_at hl 2 rfl) ?_
  obtain ⟨h_1, hok⟩ := hok
  refine va_iald (f := u.2 7) hx hb hK hP 8 0 rfl rfl h_1 dX4_way_5 ?_
  refine lv_iload_n hx hb dX4_way_6 rfl (lv_at hl 1 rfl) ?_
  refine lv_isub hx hb dX4_way_7 ?_
  refine lv_iconst (v := 2) hx hb dX4_way_8 (by decide) ?_
  refine lv_isub hx hb dX4_way_9 ?_
  have e9 : p_m_way u x1 x2 = ((u.2 7 x2.toNatClampNeg) - x1) - 2 := by rw [p_m_way]
  rw [e9]
  exact W.iret hx hb hr (fun t ht hW => ⟨⟨_, (), rfl, rfl, by rw [ht]; exact hP, va_K.moved hW.alike hK, hD⟩, hS.F ht⟩) hS.2.2 dX4_way_10

def p_m_lengthen_37 : Nat → St → Int32 → Int32 → Int32 × Int32 × St
  | 0, u, x1, x2 => (x1, x2, u)
  | n + 1, u, x1, x2 => (if (u.1 1) ≤ x2 then (x1, x2, u) else (if (u.2 0 x2.toNatClampNeg) = 5 then (if (u.2 8 x2.toNatClampNeg) = 0 then (if (p_m_way u ((((u.2 7 x2.toNatClampNeg) + (p_m_slot (u.2 2 x2.toNatClampNeg))) + (p_m_slot (u.2 3 x2.toNatClampNeg))) + 1) (u.2 4 x2.toNatClampNeg)) < ((-128)) then p_m_lengthen_37 n (sA u 8 x2 (vp_nar .boolean 1)) 1 (x2 + 1) else (if (p_m_way u ((((u.2 7 x2.toNatClampNeg) + (p_m_slot (u.2 2 x2.toNatClampNeg))) + (p_m_slot (u.2 3 x2.toNatClampNeg))) + 1) (u.2 4 x2.toNatClampNeg)) ≤ 127 then p_m_lengthen_37 n u x1 (x2 + 1) else p_m_lengthen_37 n (sA u 8 x2 (vp_nar .boolean 1)) 1 (x2 + 1))) else p_m_lengthen_37 n u x1 (x2 + 1)) else p_m_lengthen_37 n u x1 (x2 + 1)))
def ok_m_lengthen_37 : Nat → St → Int32 → Int32 → Prop
  | 0, _, _, _ => False
  | n + 1, u, x1, x2 => (((u.1 1) ≤ x2 → True) ∧ (¬ (u.1 1) ≤ x2 → (vp_in x2 48 ∧ (((u.2 0 x2.toNatClampNeg) = 5 → (vp_in x2 48 ∧ (((u.2 8 x2.toNatClampNeg) = 0 → (vp_in x2 49 ∧ (vp_in x2 48 ∧ (vp_in x2 48 ∧ (vp_in x2 48 ∧ (ok_m_way u ((((u.2 7 x2.toNatClampNeg) + (p_m_slot (u.2 2 x2.toNatClampNeg))) + (p_m_slot (u.2 3 x2.toNatClampNeg))) + 1) (u.2 4 x2.toNatClampNeg) ∧ (((p_m_way u ((((u.2 7 x2.toNatClampNeg) + (p_m_slot (u.2 2 x2.toNatClampNeg))) + (p_m_slot (u.2 3 x2.toNatClampNeg))) + 1) (u.2 4 x2.toNatClampNeg)) < ((-128)) → (vp_in x2 48 ∧ ok_m_lengthen_37 n (sA u 8 x2 (vp_nar .boolean 1)) 1 (x2 + 1))) ∧ (¬ (p_m_way u ((((u.2 7 x2.toNatClampNeg) + (p_m_slot (u.2 2 x2.toNatClampNeg))) + (p_m_slot (u.2 3 x2.toNatClampNeg))) + 1) (u.2 4 x2.toNatClampNeg)) < ((-128)) → (((p_m_way u ((((u.2 7 x2.toNatClampNeg) + (p_m_slot (u.2 2 x2.toNatClampNeg))) + (p_m_slot (u.2 3 x2.toNatClampNeg))) + 1) (u.2 4 x2.toNatClampNeg)) ≤ 127 → ok_m_lengthen_37 n u x1 (x2 + 1)) ∧ (¬ (p_m_way u ((((u.2 7 x2.toNatClampNeg) + (p_m_slot (u.2 2 x2.toNatClampNeg))) + (p_m_slot (u.2 3 x2.toNatClampNeg))) + 1) (u.2 4 x2.toNatClampNeg)) ≤ 127 → (vp_in x2 48 ∧ ok_m_lengthen_37 n (sA u 8 x2 (vp_nar .boolean 1)) 1 (x2 + 1)))))))))))) ∧ (¬ (u.2 8 x2.toNatClampNeg) = 0 → ok_m_lengthen_37 n u x1 (x2 + 1))))) ∧ (¬ (u.2 0 x2.toNatClampNeg) = 5 → ok_m_lengthen_37 n u x1 (x2 + 1))))))
set_option maxHeartbeats 4000000 in
set_option maxRecDepth 100000 in
theorem w_m_lengthen_37 {p : Program} {l : Launch} {e : Env} {s : State} {m : MethodId} {args : Array Value} {below : List Frame} {meth : Method} {c : Code} {D : va_G} {A : Nat → Prop} {Q : State → Prop} (am : Nat → Nat) (cI cZ : ClassId) (zz : (Nat → Prop) → State → Heap → Prop) (hzz : Zok zz) (Cx : cxt p s m args meth c cX4_lengthen 4 none wsX4_lengthen RX4 D vwCl (tyT cI cZ) zz A) : ∀ (n : Nat) (u : St) (x1 x2 : Int32) (H : Heap) (locs : List Loc) (ls : Array Slot), ok_m_lengthen_37 n u x1 x2 → va_P D vwCl (wM am cI cZ u) H → va_D A (wM am cI cZ u) → va_S A s.heap H locs → lv_has ls 4 [(0, .ref (am 0)), (1, .int x1), (2, .int x2)] → (∀ (H : Heap) (locs : List Loc) (ls : Array Slot), va_P D vwCl (wM am cI cZ ((p_m_lengthen_37 n u x1 x2).2.2)) H → va_D A (wM am cI cZ ((p_m_lengthen_37 n u x1 x2).2.2)) → va_S A s.heap H locs → lv_has ls 4 [(0, .ref (am 0)), (1, .int ((p_m_lengthen_37 n u x1 x2).1)), (2, .int ((p_m_lengthen_37 n u x1 x2).2.1))] → W p l e ({ frames := 5, cells := 0, slots := 0, locals := 105 } : Room) s m args below meth c H locs 0 0 Q (F0 m 130 ls [])) → W p l e ({ frames := 5, cells := 0, slots := 0, locals := 105 } : Room) s m args below meth c H locs 0 0 Q (F0 m 37 ls []) := by
  obtain ⟨hx, hb, hr, hts, hown, hlocks, hml, hK, hA, hZ⟩ := id Cx
  intro n
  induction n with
  | zero =>
    intro u x1 x2 H locs ls hok
    exact False.elim hok
  | succ n ih =>
    intro u x1 x2 H locs ls hok hP hD hS hl K
    unfold ok_m_lengthen_37 at hok
    refine lv_iload_n hx hb dX4_lengthen_37 rfl (lv_at hl 2 rfl) ?_
    refine lv_aload_n hx hb dX4_lengthen_38 rfl (lv_at hl 0 rfl) ?_
    refine va_get (ci := 4) (v := .int (u.1 1)) (C := RX4) (T := TX4) (N := 22) hx hb hts (ivX4 _) hown hK hP 0 rfl rfl 1 (by decide) (hts _ (tb_c tw_3_102)) (fun _ h9 => h9) rfl dX4_lengthen_39 ?_
    refine lv_icmp_ge (tgt := 130) hx hb dX4_lengthen_42 (by decide) (fun c_1 => ?_) (fun c_1 => ?_)
    · have hok := hok.1 c_1
      have e9 : p_m_lengthen_37 (n + 1) u x1 x2 = (x1, x2, u) := by rw [p_m_lengthen_37, if_pos c_1]
      rw [e9] at K
      exact K _ _ _ hP hD hS (lv_sub hl [0, 1, 2] rfl)
    · have hok := hok.2 c_1
      refine lv_aload_n hx hb dX4_lengthen_45 rfl (lv_at hl 0 rfl) ?_
      refine va_get (ci := 4) (v := .ref (am 1)) (C := RX4) (T := TX4) (N := 22) hx hb hts (ivX4 _) hown hK hP 0 rfl rfl 2 (by decide) (hts _ (tb_c tw_3_103)) (fun _ h9 => h9) rfl dX4_lengthen_46 ?_
      refine lv_iload_n hx hb dX4_lengthen_49 rfl (lv_at hl 2 rfl) ?_
      obtain ⟨h_2, hok⟩ := hok
      refine va_iald (f := u.2 0) hx hb hK hP 1 0 rfl rfl h_2 dX4_lengthen_50 ?_
      refine lv_iconst (v := 5) hx hb dX4_lengthen_51 (by decide) ?_
      refine lv_icmp_ne (tgt := 124) hx hb dX4_lengthen_52 (by decide) (fun c_3 => ?_) (fun c_3 => ?_)
      · have hok := hok.2 c_3
        refine lv_iinc (v := x2 + 1) (lv' := [(2, .int (x2 + 1)), (0, .ref (am 0)), (1, .int x1)]) hx hb dX4_lengthen_124 hl (k := 2) rfl rfl (by decide) rfl (fun ls hl => ?_)
        refine lv_goto (tgt := 37) hx hb dX4_lengthen_127 (by decide) ?_
        have e9 : p_m_lengthen_37 (n + 1) u x1 x2 = p_m_lengthen_37 n u x1 (x2 + 1) := by rw [p_m_lengthen_37, if_neg c_1, if_neg c_3]
        rw [e9] at K
        exact ih u x1 (x2 + 1) _ _ _ hok hP hD hS (lv_sub hl [1, 2, 0] rfl) K
      · have hok := hok.1 c_3
        refine lv_aload_n hx hb dX4_lengthen_55 rfl (lv_at hl 0 rfl) ?_
        refine va_get (ci := 4) (v := .ref (am 9)) (C := RX4) (T := TX4) (N := 22) hx hb hts (ivX4 _) hown hK hP 0 rfl rfl 12 (by decide) (hts _ (tb_c tw_3_113)) (fun _ h9 => h9) rfl dX4_lengthen_56 ?_
        refine lv_iload_n hx hb dX4_lengthen_59 rfl (lv_at hl 2 rfl) ?_
        obtain ⟨h_4, hok⟩ := hok
        refine va_zald (f := u.2 8) hx hb hK hP 9 1 rfl rfl h_4 dX4_lengthen_60 ?_
        refine lv_if_ne (tgt := 124) hx hb dX4_lengthen_61 (by decide) (fun c_5 => ?_) (fun c_5 => ?_)
        · have hok := hok.2 c_5
          refine lv_iinc (v := x2 + 1) (lv' := [(2, .int (x2 + 1)), (0, .ref (am 0)), (1, .int x1)]) hx hb dX4_lengthen_124 hl (k := 2) rfl rfl (by decide) rfl (fun ls hl => ?_)
          refine lv_goto (tgt := 37) hx hb dX4_lengthen_127 (by decide) ?_
          have e9 : p_m_lengthen_37 (n + 1) u x1 x2 = p_m_lengthen_37 n u x1 (x2 + 1) := by rw [p_m_lengthen_37, if_neg c_1, if_pos c_3, if_neg c_5]
          rw [e9] at K
          exact ih u x1 (x2 + 1) _ _ _ hok hP hD hS (lv_sub hl [1, 2, 0] rfl) K
        · have hok := hok.1 c_5
          refine lv_aload_n hx hb dX4_lengthen_64 rfl (lv_at hl 0 rfl) ?_
          refine lv_aload_n hx hb dX4_lengthen_65 rfl (lv_at hl 0 rfl) ?_
          refine va_get (ci := 4) (v := .ref (am 8)) (C := RX4) (T := TX4) (N := 22) hx hb hts (ivX4 _) hown hK hP 0 rfl rfl 11 (by decide) (hts _ (tb_c tw_3_112)) (fun _ h9 => h9) rfl dX4_lengthen_66 ?_
          refine lv_iload_n hx hb dX4_lengthen_69 rfl (lv_at hl 2 rfl) ?_
          obtain ⟨h_6, hok⟩ := hok
          refine va_iald (f := u.2 7) hx hb hK hP 8 0 rfl rfl h_6 dX4_lengthen_70 ?_
          refine lv_aload_n hx hb dX4_lengthen_71 rfl (lv_at hl 0 rfl) ?_
          refine va_get (ci := 4) (v := .ref (am 3)) (C := RX4) (T := TX4) (N := 22) hx hb hts (ivX4 _) hown hK hP 0 rfl rfl 4 (by decide) (hts _ (tb_c tw_3_105)) (fun _ h9 => h9) rfl dX4_lengthen_72 ?_
          refine lv_iload_n hx hb dX4_lengthen_75 rfl (lv_at hl 2 rfl) ?_
          obtain ⟨h_7, hok⟩ := hok
          refine va_iald (f := u.2 2) hx hb hK hP 3 0 rfl rfl h_7 dX4_lengthen_76 ?_
          refine k_callSi (As := [.int (u.2 2 x2.toNatClampNeg)]) (rest := [.int (u.2 7 x2.toNatClampNeg), .ref (am 0)]) hzz ⟨hx, hb, hml, hown, hts⟩ (c_m_slot l D am cI cZ zz hzz (wM am cI cZ u) (u.2 2 x2.toNatClampNeg)) (cwS 1 hts (tb_S tw_4_7 tw_4_8 tw_1_5 tw_4_9) rfl rfl rfl (by decide +kernel) ⟨Nat.le_of_ble_eq_true rfl, Nat.le_of_ble_eq_true rfl⟩) rfl hl.1 rfl (lv_room (Nat.le_of_ble_eq_true rfl)) dX4_lengthen_77 ⟨Nat.le_of_ble_eq_true rfl, Nat.le_of_ble_eq_true rfl⟩ hP hK hD hS hA hZ (fun H locs hP hD hS => ?_)
          refine lv_iadd hx hb dX4_lengthen_80 ?_
          refine lv_aload_n hx hb dX4_lengthen_81 rfl (lv_at hl 0 rfl) ?_
          refine va_get (ci := 4) (v := .ref (am 4)) (C := RX4) (T := TX4) (N := 22) hx hb hts (ivX4 _) hown hK hP 0 rfl rfl 5 (by decide) (hts _ (tb_c tw_3_106)) (fun _ h9 => h9) rfl dX4_lengthen_82 ?_
          refine lv_iload_n hx hb dX4_lengthen_85 rfl (lv_at hl 2 rfl) ?_
          obtain ⟨h_9, hok⟩ := hok
          refine va_iald (f := u.2 3) hx hb hK hP 4 0 rfl rfl h_9 dX4_lengthen_86 ?_
          refine k_callSi (As := [.int (u.2 3 x2.toNatClampNeg)]) (rest := [.int ((u.2 7 x2.toNatClampNeg) + (p_m_slot (u.2 2 x2.toNatClampNeg))), .ref (am 0)]) hzz ⟨hx, hb, hml, hown, hts⟩ (c_m_slot l D am cI cZ zz hzz (wM am cI cZ u) (u.2 3 x2.toNatClampNeg)) (cwS 1 hts (tb_S tw_4_7 tw_4_8 tw_1_5 tw_4_9) rfl rfl rfl (by decide +kernel) ⟨Nat.le_of_ble_eq_true rfl, Nat.le_of_ble_eq_true rfl⟩) rfl hl.1 rfl (lv_room (Nat.le_of_ble_eq_true rfl)) dX4_lengthen_87 ⟨Nat.le_of_ble_eq_true rfl, Nat.le_of_ble_eq_true rfl⟩ hP hK hD hS hA hZ (fun H locs hP hD hS => ?_)
          refine lv_iadd hx hb dX4_lengthen_90 ?_
          refine lv_iconst (v := 1) hx hb dX4_lengthen_91 (by decide) ?_
          refine lv_iadd hx hb dX4_lengthen_92 ?_
          refine lv_aload_n hx hb dX4_lengthen_93 rfl (lv_at hl 0 rfl) ?_
          refine va_get (ci := 4) (v := .ref (am 5)) (C := RX4) (T := TX4) (N := 22) hx hb hts (ivX4 _) hown hK hP 0 rfl rfl 6 (by decide) (hts _ (tb_c tw_3_107)) (fun _ h9 => h9) rfl dX4_lengthen_94 ?_
          refine lv_iload_n hx hb dX4_lengthen_97 rfl (lv_at hl 2 rfl) ?_
          obtain ⟨h_11, hok⟩ := hok
          refine va_iald (f := u.2 4) hx hb hK hP 5 0 rfl rfl h_11 dX4_lengthen_98 ?_
          obtain ⟨h_12, hok⟩ := hok
          refine k_callVi (As := [.int ((((u.2 7 x2.toNatClampNeg) + (p_m_slot (u.2 2 x2.toNatClampNeg))) + (p_m_slot (u.2 3 x2.toNatClampNeg))) + 1), .int (u.2 4 x2.toNatClampNeg)]) (rest := []) hzz ⟨hx, hb, hml, hown, hts⟩ (c_m_way l D am cI cZ zz hzz u ((((u.2 7 x2.toNatClampNeg) + (p_m_slot (u.2 2 x2.toNatClampNeg))) + (p_m_slot (u.2 3 x2.toNatClampNeg))) + 1) (u.2 4 x2.toNatClampNeg) h_12) (cwV 2 hts (tb_V tw_4_10 tw_4_12 slX4_way tw_1_5 tw_4_13) rfl rfl rfl (by decide +kernel) ⟨Nat.le_of_ble_eq_true rfl, Nat.le_of_ble_eq_true rfl⟩) (va_recv hK hP (ci := 4) (q0 := 0) rfl rfl) rfl hl.1 rfl (lv_room (Nat.le_of_ble_eq_true rfl)) dX4_lengthen_99 ⟨Nat.le_of_ble_eq_true rfl, Nat.le_of_ble_eq_true rfl⟩ hP hK hD hS hA hZ (fun H locs hP hD hS => ?_)
          refine lv_istore_n (lv' := [(3, .int (p_m_way u ((((u.2 7 x2.toNatClampNeg) + (p_m_slot (u.2 2 x2.toNatClampNeg))) + (p_m_slot (u.2 3 x2.toNatClampNeg))) + 1) (u.2 4 x2.toNatClampNeg))), (0, .ref (am 0)), (1, .int x1), (2, .int x2)]) hx hb dX4_lengthen_102 rfl hl (by decide) rfl (fun ls hl => ?_)
          refine lv_iload_n hx hb dX4_lengthen_103 rfl (lv_at hl 0 rfl) ?_
          refine lv_bipush (v := (-128)) hx hb dX4_lengthen_104 (by decide) ?_
          refine lv_icmp_lt (tgt := 115) hx hb dX4_lengthen_106 (by decide) (fun c_13 => ?_) (fun c_13 => ?_)
          · have hok := hok.1 c_13
            refine lv_aload_n hx hb dX4_lengthen_115 rfl (lv_at hl 1 rfl) ?_
            refine va_get (ci := 4) (v := .ref (am 9)) (C := RX4) (T := TX4) (N := 22) hx hb hts (ivX4 _) hown hK hP 0 rfl rfl 12 (by decide) (hts _ (tb_c tw_3_113)) (fun _ h9 => h9) rfl dX4_lengthen_116 ?_
            refine lv_iload_n hx hb dX4_lengthen_119 rfl (lv_at hl 3 rfl) ?_
            refine lv_iconst (v := 1) hx hb dX4_lengthen_120 (by decide) ?_
            obtain ⟨h_14, hok⟩ := hok
            refine va_zast hx hb hK hP hD hS 9 1 rfl rfl h_14 dX4_lengthen_121 (fun H locs hP hD hS => ?_)
            have hP : va_P D vwCl (wM am cI cZ (sA u 8 x2 (vp_nar .boolean 1))) H := hP
            have hD : va_D A (wM am cI cZ (sA u 8 x2 (vp_nar .boolean 1))) := hD
            refine lv_iconst (v := 1) hx hb dX4_lengthen_122 (by decide) ?_
            refine lv_istore_n (lv' := [(1, .int 1), (3, .int (p_m_way u ((((u.2 7 x2.toNatClampNeg) + (p_m_slot (u.2 2 x2.toNatClampNeg))) + (p_m_slot (u.2 3 x2.toNatClampNeg))) + 1) (u.2 4 x2.toNatClampNeg))), (0, .ref (am 0)), (2, .int x2)]) hx hb dX4_lengthen_123 rfl hl (by decide) rfl (fun ls hl => ?_)
            refine lv_iinc (v := x2 + 1) (lv' := [(2, .int (x2 + 1)), (1, .int 1), (3, .int (p_m_way u ((((u.2 7 x2.toNatClampNeg) + (p_m_slot (u.2 2 x2.toNatClampNeg))) + (p_m_slot (u.2 3 x2.toNatClampNeg))) + 1) (u.2 4 x2.toNatClampNeg))), (0, .ref (am 0))]) hx hb dX4_lengthen_124 hl (k := 3) rfl rfl (by decide) rfl (fun ls hl => ?_)
            refine lv_goto (tgt := 37) hx hb dX4_lengthen_127 (by decide) ?_
            have e9 : p_m_lengthen_37 (n + 1) u x1 x2 = p_m_lengthen_37 n (sA u 8 x2 (vp_nar .boolean 1)) 1 (x2 + 1) := by rw [p_m_lengthen_37, if_neg c_1, if_pos c_3, if_pos c_5, if_pos c_13]
            rw [e9] at K
            exact ih (sA u 8 x2 (vp_nar .boolean 1)) 1 (x2 + 1) _ _ _ hok hP hD hS (lv_sub hl [3, 1, 0] rfl) K
          · have hok := hok.2 c_13
            refine lv_iload_n hx hb dX4_lengthen_109 rfl (lv_at hl 0 rfl) ?_
            refine lv_bipush (v := 127) hx hb dX4_lengthen_110 (by decide) ?_
            refine lv_icmp_le (tgt := 124) hx hb dX4_lengthen_112 (by decide) (fun c_15 => ?_) (fun c_15 => ?_)
            · have hok := hok.1 c_15
              refine lv_iinc (v := x2 + 1) (lv' := [(2, .int (x2 + 1)), (3, .int (p_m_way u ((((u.2 7 x2.toNatClampNeg) + (p_m_slot (u.2 2 x2.toNatClampNeg))) + (p_m_slot (u.2 3 x2.toNatClampNeg))) + 1) (u.2 4 x2.toNatClampNeg))), (0, .ref (am 0)), (1, .int x1)]) hx hb dX4_lengthen_124 hl (k := 3) rfl rfl (by decide) rfl (fun ls hl => ?_)
              refine lv_goto (tgt := 37) hx hb dX4_lengthen_127 (by decide) ?_
              have e9 : p_m_lengthen_37 (n + 1) u x1 x2 = p_m_lengthen_37 n u x1 (x2 + 1) := by rw [p_m_lengthen_37, if_neg c_1, if_pos c_3, if_pos c_5, if_neg c_13, if_pos c_15]
              rw [e9] at K
              exact ih u x1 (x2 + 1) _ _ _ hok hP hD hS (lv_sub hl [2, 3, 0] rfl) K
            · have hok := hok.2 c_15
              refine lv_aload_n hx hb dX4_lengthen_115 rfl (lv_at hl 1 rfl) ?_
              refine va_get (ci := 4) (v := .ref (am 9)) (C := RX4) (T := TX4) (N := 22) hx hb hts (ivX4 _) hown hK hP 0 rfl rfl 12 (by decide) (hts _ (tb_c tw_3_113)) (fun _ h9 => h9) rfl dX4_lengthen_116 ?_
              refine lv_iload_n hx hb dX4_lengthen_119 rfl (lv_at hl 3 rfl) ?_
              refine lv_iconst (v := 1) hx hb dX4_lengthen_120 (by decide) ?_
              obtain ⟨h_16, hok⟩ := hok
              refine va_zast hx hb hK hP hD hS 9 1 rfl rfl h_16 dX4_lengthen_121 (fun H locs hP hD hS => ?_)
              have hP : va_P D vwCl (wM am cI cZ (sA u 8 x2 (vp_nar .boolean 1))) H := hP
              have hD : va_D A (wM am cI cZ (sA u 8 x2 (vp_nar .boolean 1))) := hD
              refine lv_iconst (v := 1) hx hb dX4_lengthen_122 (by decide) ?_
              refine lv_istore_n (lv' := [(1, .int 1), (3, .int (p_m_way u ((((u.2 7 x2.toNatClampNeg) + (p_m_slot (u.2 2 x2.toNatClampNeg))) + (p_m_slot (u.2 3 x2.toNatClampNeg))) + 1) (u.2 4 x2.toNatClampNeg))), (0, .ref (am 0)), (2, .int x2)]) hx hb dX4_lengthen_123 rfl hl (by decide) rfl (fun ls hl => ?_)
              refine lv_iinc (v := x2 + 1) (lv' := [(2, .int (x2 + 1)), (1, .int 1), (3, .int (p_m_way u ((((u.2 7 x2.toNatClampNeg) + (p_m_slot (u.2 2 x2.toNatClampNeg))) + (p_m_slot (u.2 3 x2.toNatClampNeg))) + 1) (u.2 4 x2.toNatClampNeg))), (0, .ref (am 0))]) hx hb dX4_lengthen_124 hl (k := 3) rfl rfl (by decide) rfl (fun ls hl => ?_)
              refine lv_goto (tgt := 37) hx hb dX4_lengthen_127 (by decide) ?_
              have e9 : p_m_lengthen_37 (n + 1) u x1 x2 = p_m_lengthen_37 n (sA u 8 x2 (vp_nar .boolean 1)) 1 (x2 + 1) := by rw [p_m_lengthen_37, if_neg c_1, if_pos c_3, if_pos c_5, if_neg c_13, if_neg c_15]
              rw [e9] at K
              exact ih (sA u 8 x2 (vp_nar .boolean 1)) 1 (x2 + 1) _ _ _ hok hP hD hS (lv_sub hl [3, 1, 0] rfl) K
def p_m_lengthen_25 : Nat → St → Int32 → St
  | 0, u, _ => u
  | n + 1, u, x1 => (if x1 = 0 then u else p_m_lengthen_25 n ((p_m_lengthen_37 64 (p_m_layOut u) 0 0).2.2) ((p_m_lengthen_37 64 (p_m_layOut u) 0 0).1))
def ok_m_lengthen_25 : Nat → St → Int32 → Prop
  | 0, _, _ => False
  | n + 1, u, x1 => ((x1 = 0 → True) ∧ (¬ x1 = 0 → (ok_m_layOut u ∧ (ok_m_lengthen_37 64 (p_m_layOut u) 0 0 ∧ ok_m_lengthen_25 n ((p_m_lengthen_37 64 (p_m_layOut u) 0 0).2.2) ((p_m_lengthen_37 64 (p_m_layOut u) 0 0).1)))))
set_option maxHeartbeats 4000000 in
set_option maxRecDepth 100000 in
theorem w_m_lengthen_25 {p : Program} {l : Launch} {e : Env} {s : State} {m : MethodId} {args : Array Value} {below : List Frame} {meth : Method} {c : Code} {D : va_G} {A : Nat → Prop} (am : Nat → Nat) (cI cZ : ClassId) (zz : (Nat → Prop) → State → Heap → Prop) (hzz : Zok zz) (Cx : cxt p s m args meth c cX4_lengthen 4 none wsX4_lengthen RX4 D vwCl (tyT cI cZ) zz A) : ∀ (n : Nat) (u : St) (x1 : Int32) (H : Heap) (locs : List Loc) (ls : Array Slot), ok_m_lengthen_25 n u x1 → va_P D vwCl (wM am cI cZ u) H → va_D A (wM am cI cZ u) → va_S A s.heap H locs → lv_has ls 4 [(0, .ref (am 0)), (1, .int x1)] → W p l e ({ frames := 5, cells := 0, slots := 0, locals := 105 } : Room) s m args below meth c H locs 0 0 (MQ below (qqV D vwCl (tyT cI cZ) (wM am cI cZ (p_m_lengthen_25 n u x1)) A) args s 0 0 A) (F0 m 25 ls []) := by
  obtain ⟨hx, hb, hr, hts, hown, hlocks, hml, hK, hA, hZ⟩ := id Cx
  intro n
  induction n with
  | zero =>
    intro u x1 H locs ls hok
    exact False.elim hok
  | succ n ih =>
    intro u x1 H locs ls hok hP hD hS hl
    unfold ok_m_lengthen_25 at hok
    refine lv_iload_n hx hb dX4_lengthen_25 rfl (lv_at hl 1 rfl) ?_
    refine lv_if_eq (tgt := 133) hx hb dX4_lengthen_26 (by decide) (fun c_1 => ?_) (fun c_1 => ?_)
    · have hok := hok.1 c_1
      have e9 : p_m_lengthen_25 (n + 1) u x1 = u := by rw [p_m_lengthen_25, if_pos c_1]
      rw [e9]
      exact W.vret hx hb hr (fun t ht hW => ⟨⟨(), rfl, trivial, by rw [ht]; exact hP, va_K.moved hW.alike hK, hD⟩, hS.F ht⟩) hS.2.2 dX4_lengthen_133
    · have hok := hok.2 c_1
      refine lv_iconst (v := 0) hx hb dX4_lengthen_29 (by decide) ?_
      refine lv_istore_n (lv' := [(1, .int 0), (0, .ref (am 0))]) hx hb dX4_lengthen_30 rfl hl (by decide) rfl (fun ls hl => ?_)
      refine lv_aload_n hx hb dX4_lengthen_31 rfl (lv_at hl 1 rfl) ?_
      obtain ⟨h_2, hok⟩ := hok
      refine k_callVv (As := []) (rest := []) hzz ⟨hx, hb, hml, hown, hts⟩ (c_m_layOut l D am cI cZ zz hzz u h_2) (cwV 0 hts (tb_V tw_3_230 tw_3_232 slX4_layOut tw_1_5 tw_3_233) rfl rfl rfl (by decide +kernel) ⟨Nat.le_of_ble_eq_true rfl, Nat.le_of_ble_eq_true rfl⟩) (va_recv hK hP (ci := 4) (q0 := 0) rfl rfl) rfl hl.1 rfl (lv_room (Nat.le_of_ble_eq_true rfl)) dX4_lengthen_32 ⟨Nat.le_of_ble_eq_true rfl, Nat.le_of_ble_eq_true rfl⟩ hP hK hD hS hA hZ (fun H locs hP hD hS => ?_)
      generalize eu_3 : p_m_layOut u = u_3 at hP hD ⊢
      try rw [eu_3] at hok
      refine lv_iconst (v := 0) hx hb dX4_lengthen_35 (by decide) ?_
      refine lv_istore_n (lv' := [(2, .int 0), (1, .int 0), (0, .ref (am 0))]) hx hb dX4_lengthen_36 rfl hl (by decide) rfl (fun ls hl => ?_)
      obtain ⟨h_4, hok⟩ := hok
      refine w_m_lengthen_37 am cI cZ zz hzz Cx 64 u_3 0 0 _ _ _ h_4 hP hD hS (lv_sub hl [2, 1, 0] rfl) (fun H locs ls hP hD hS hl => ?_)
      generalize eu_5 : (p_m_lengthen_37 64 u_3 0 0).2.2 = u_5 at hP hD ⊢
      try rw [eu_5] at hok
      refine lv_goto (tgt := 25) hx hb dX4_lengthen_130 (by decide) ?_
      have e9 : p_m_lengthen_25 (n + 1) u x1 = p_m_lengthen_25 n u_5 ((p_m_lengthen_37 64 u_3 0 0).1) := by
        subst eu_5
        subst eu_3
        rw [p_m_lengthen_25, if_neg c_1]
      rw [e9]
      exact ih u_5 ((p_m_lengthen_37 64 u_3 0 0).1) _ _ _ hok hP hD hS (lv_sub hl [0, 1] rfl)
def p_m_lengthen_2 : Nat → St → Int32 → St
  | 0, u, _ => u
  | n + 1, u, x1 => (if (u.1 1) ≤ x1 then p_m_lengthen_25 64 u 1 else p_m_lengthen_2 n (sA u 8 x1 (vp_nar .boolean 0)) (x1 + 1))
def ok_m_lengthen_2 : Nat → St → Int32 → Prop
  | 0, _, _ => False
  | n + 1, u, x1 => (((u.1 1) ≤ x1 → ok_m_lengthen_25 64 u 1) ∧ (¬ (u.1 1) ≤ x1 → (vp_in x1 48 ∧ ok_m_lengthen_2 n (sA u 8 x1 (vp_nar .boolean 0)) (x1 + 1))))
set_option maxHeartbeats 4000000 in
set_option maxRecDepth 100000 in
theorem w_m_lengthen_2 {p : Program} {l : Launch} {e : Env} {s : State} {m : MethodId} {args : Array Value} {below : List Frame} {meth : Method} {c : Code} {D : va_G} {A : Nat → Prop} (am : Nat → Nat) (cI cZ : ClassId) (zz : (Nat → Prop) → State → Heap → Prop) (hzz : Zok zz) (Cx : cxt p s m args meth c cX4_lengthen 4 none wsX4_lengthen RX4 D vwCl (tyT cI cZ) zz A) : ∀ (n : Nat) (u : St) (x1 : Int32) (H : Heap) (locs : List Loc) (ls : Array Slot), ok_m_lengthen_2 n u x1 → va_P D vwCl (wM am cI cZ u) H → va_D A (wM am cI cZ u) → va_S A s.heap H locs → lv_has ls 4 [(0, .ref (am 0)), (1, .int x1)] → W p l e ({ frames := 5, cells := 0, slots := 0, locals := 105 } : Room) s m args below meth c H locs 0 0 (MQ below (qqV D vwCl (tyT cI cZ) (wM am cI cZ (p_m_lengthen_2 n u x1)) A) args s 0 0 A) (F0 m 2 ls []) := by
  obtain ⟨hx, hb, hr, hts, hown, hlocks, hml, hK, hA, hZ⟩ := id Cx
  intro n
  induction n with
  | zero =>
    intro u x1 H locs ls hok
    exact False.elim hok
  | succ n ih =>
    intro u x1 H locs ls hok hP hD hS hl
    unfold ok_m_lengthen_2 at hok
    refine lv_iload_n hx hb dX4_lengthen_2 rfl (lv_at hl 1 rfl) ?_
    refine lv_aload_n hx hb dX4_lengthen_3 rfl (lv_at hl 0 rfl) ?_
    refine va_get (ci := 4) (v := .int (u.1 1)) (C := RX4) (T := TX4) (N := 22) hx hb hts (ivX4 _) hown hK hP 0 rfl rfl 1 (by decide) (hts _ (tb_c tw_3_102)) (fun _ h9 => h9) rfl dX4_lengthen_4 ?_
    refine lv_icmp_ge (tgt := 23) hx hb dX4_lengthen_7 (by decide) (fun c_1 => ?_) (fun c_1 => ?_)
    · have hok := hok.1 c_1
      refine lv_iconst (v := 1) hx hb dX4_lengthen_23 (by decide) ?_
      refine lv_istore_n (lv' := [(1, .int 1), (0, .ref (am 0))]) hx hb dX4_lengthen_24 rfl hl (by decide) rfl (fun ls hl => ?_)
      have e9 : p_m_lengthen_2 (n + 1) u x1 = p_m_lengthen_25 64 u 1 := by rw [p_m_lengthen_2, if_pos c_1]
      rw [e9]
      exact w_m_lengthen_25 am cI cZ zz hzz Cx 64 u 1 _ _ _ hok hP hD hS (lv_sub hl [1, 0] rfl)
    · have hok := hok.2 c_1
      refine lv_aload_n hx hb dX4_lengthen_10 rfl (lv_at hl 0 rfl) ?_
      refine va_get (ci := 4) (v := .ref (am 9)) (C := RX4) (T := TX4) (N := 22) hx hb hts (ivX4 _) hown hK hP 0 rfl rfl 12 (by decide) (hts _ (tb_c tw_3_113)) (fun _ h9 => h9) rfl dX4_lengthen_11 ?_
      refine lv_iload_n hx hb dX4_lengthen_14 rfl (lv_at hl 1 rfl) ?_
      refine lv_iconst (v := 0) hx hb dX4_lengthen_15 (by decide) ?_
      obtain ⟨h_2, hok⟩ := hok
      refine va_zast hx hb hK hP hD hS 9 1 rfl rfl h_2 dX4_lengthen_16 (fun H locs hP hD hS => ?_)
      have hP : va_P D vwCl (wM am cI cZ (sA u 8 x1 (vp_nar .boolean 0))) H := hP
      have hD : va_D A (wM am cI cZ (sA u 8 x1 (vp_nar .boolean 0))) := hD
      refine lv_iinc (v := x1 + 1) (lv' := [(1, .int (x1 + 1)), (0, .ref (am 0))]) hx hb dX4_lengthen_17 hl (k := 1) rfl rfl (by decide) rfl (fun ls hl => ?_)
      refine lv_goto (tgt := 2) hx hb dX4_lengthen_20 (by decide) ?_
      have e9 : p_m_lengthen_2 (n + 1) u x1 = p_m_lengthen_2 n (sA u 8 x1 (vp_nar .boolean 0)) (x1 + 1) := by rw [p_m_lengthen_2, if_neg c_1]
      rw [e9]
      exact ih (sA u 8 x1 (vp_nar .boolean 0)) (x1 + 1) _ _ _ hok hP hD hS (lv_sub hl [1, 0] rfl)
def p_m_lengthen (u : St) : St := p_m_lengthen_2 64 u 0
def ok_m_lengthen (u : St) : Prop := ok_m_lengthen_2 64 u 0
set_option maxHeartbeats 4000000 in
set_option maxRecDepth 100000 in
theorem c_m_lengthen (l : Launch) (D : va_G) (am : Nat → Nat) (cI cZ : ClassId) (zz : (Nat → Prop) → State → Heap → Prop) (hzz : Zok zz) (u : St) (hok : ok_m_lengthen u) : tfV l D vwCl (tyT cI cZ) zz yX4_lengthen wsX4_lengthen ({ frames := 5, cells := 0, slots := 0, locals := 105 } : Room) [.ref (am 0)] (wM am cI cZ u) (wM am cI cZ (p_m_lengthen u)) := by
  intro sz
  unfold ok_m_lengthen at hok
  refine Met.ofW (cc := cX4_lengthen) (maxL := 4) (ret := none) (by decide) rfl ?_
  intro p e s m args below meth c s₁ B hml hv
  obtain ⟨rfl, hsz, hP, hK, hD0, hZ⟩ := hv
  have hx := B.exec
  have hb := B.bytes
  have hr := B.returns
  have hts := atoms_spec (ws := wsX4_lengthen) B.pre
  have hown : s.vm.findClass RX4 = some m.cls := findClass_of_methodNamed B.named
  have hlocks := B.notSynchronized
  subst hsz
  have hD := hD0.self (sz := s.heap.size)
  generalize hAe : va_A (wM am cI cZ u) s.heap.size = A at hD hZ ⊢
  have hA : ∀ q : Nat, s.heap.size ≤ q → A q := fun q h => by rw [← hAe]; exact Or.inr h
  have hS : va_S A s.heap s.heap [] := va_S.rf
  have Cx : cxt p s m ([.ref (am 0)] : List Value).toArray meth c cX4_lengthen 4 none wsX4_lengthen RX4 D vwCl (tyT cI cZ) zz A := ⟨hx, hb, hr, hts, hown, hlocks, hml, hK, hA, hZ⟩
  have hl := lv_entry ([.ref (am 0)]) (n := 4) (Nat.le_of_ble_eq_true rfl)
  rw [lg_entry_eq]
  generalize (lg_sl ([.ref (am 0)]) ++ List.replicate (4 - (lg_sl ([.ref (am 0)])).length) Slot.unset).toArray = ls at hl ⊢
  have hl : lv_has ls 4 [(0, .ref (am 0))] := hl
  refine lv_iconst (v := 0) hx hb dX4_lengthen_0 (by decide) ?_
  refine lv_istore_n (lv' := [(1, .int 0), (0, .ref (am 0))]) hx hb dX4_lengthen_1 rfl hl (by decide) rfl (fun ls hl => ?_)
  have e9 : p_m_lengthen u = p_m_lengthen_2 64 u 0 := by rw [p_m_lengthen]
  rw [e9]
  exact w_m_lengthen_2 am cI cZ zz hzz Cx 64 u 0 _ _ _ hok hP hD hS (lv_sub hl [1, 0] rfl)

def p_m_emit (u : St) (x1 : Int32) : St := sS (sA u 6 (u.1 3) x1) 3 ((u.1 3) + 1)
def ok_m_emit (u : St) (x1 : Int32) : Prop := (vp_in (u.1 3) 400 ∧ True)
set_option maxHeartbeats 4000000 in
set_option maxRecDepth 100000 in
theorem c_m_emit (l : Launch) (D : va_G) (am : Nat → Nat) (cI cZ : ClassId) (zz : (Nat → Prop) → State → Heap → Prop) (hzz : Zok zz) (u : St) (x1 : Int32) (hok : ok_m_emit u x1) : tfV l D vwCl (tyT cI cZ) zz yX4_emit wsX4_emit ({ frames := 0, cells := 0, slots := 0, locals := 0 } : Room) [.ref (am 0), .int x1] (wM am cI cZ u) (wM am cI cZ (p_m_emit u x1)) := by
  intro sz
  unfold ok_m_emit at hok
  refine Met.ofW (cc := cX4_emit) (maxL := 2) (ret := none) (by decide) rfl ?_
  intro p e s m args below meth c s₁ B hml hv
  obtain ⟨rfl, hsz, hP, hK, hD0, hZ⟩ := hv
  have hx := B.exec
  have hb := B.bytes
  have hr := B.returns
  have hts := atoms_spec (ws := wsX4_emit) B.pre
  have hown : s.vm.findClass RX4 = some m.cls := findClass_of_methodNamed B.named
  have hlocks := B.notSynchronized
  subst hsz
  have hD := hD0.self (sz := s.heap.size)
  generalize hAe : va_A (wM am cI cZ u) s.heap.size = A at hD hZ ⊢
  have hA : ∀ q : Nat, s.heap.size ≤ q → A q := fun q h => by rw [← hAe]; exact Or.inr h
  have hS : va_S A s.heap s.heap [] := va_S.rf
  have Cx : cxt p s m ([.ref (am 0), .int x1] : List Value).toArray meth c cX4_emit 2 none wsX4_emit RX4 D vwCl (tyT cI cZ) zz A := ⟨hx, hb, hr, hts, hown, hlocks, hml, hK, hA, hZ⟩
  have hl := lv_entry ([.ref (am 0), .int x1]) (n := 2) (Nat.le_of_ble_eq_true rfl)
  rw [lg_entry_eq]
  generalize (lg_sl ([.ref (am 0), .int x1]) ++ List.replicate (2 - (lg_sl ([.ref (am 0), .int x1])).length) Slot.unset).toArray = ls at hl ⊢
  have hl : lv_has ls 2 [(0, .ref (am 0)), (1, .int x1)] := hl
  refine lv_aload_n hx hb dX4_emit_0 rfl (lv_at hl 0 rfl) ?_
  refine va_get (ci := 4) (v := .ref (am 7)) (C := RX4) (T := TX4) (N := 22) hx hb hts (ivX4 _) hown hK hP 0 rfl rfl 10 (by decide) (hts _ (tb_c tw_3_111)) (fun _ h9 => h9) rfl dX4_emit_1 ?_
  refine lv_aload_n hx hb dX4_emit_4 rfl (lv_at hl 0 rfl) ?_
  refine va_get (ci := 4) (v := .int (u.1 3)) (C := RX4) (T := TX4) (N := 22) hx hb hts (ivX4 _) hown hK hP 0 rfl rfl 9 (by decide) (hts _ (tb_c tw_3_110)) (fun _ h9 => h9) rfl dX4_emit_5 ?_
  refine lv_iload_n hx hb dX4_emit_8 rfl (lv_at hl 1 rfl) ?_
  obtain ⟨h_1, hok⟩ := hok
  refine va_iast hx hb hK hP hD hS 7 0 rfl rfl h_1 dX4_emit_9 (fun H locs hP hD hS => ?_)
  have hP : va_P D vwCl (wM am cI cZ (sA u 6 (u.1 3) x1)) H := hP
  have hD : va_D A (wM am cI cZ (sA u 6 (u.1 3) x1)) := hD
  refine lv_aload_n hx hb dX4_emit_10 rfl (lv_at hl 0 rfl) ?_
  refine lv_dup hx hb dX4_emit_11 rfl ?_
  refine va_get (ci := 4) (v := .int (u.1 3)) (C := RX4) (T := TX4) (N := 22) hx hb hts (ivX4 _) hown hK hP 0 rfl rfl 9 (by decide) (hts _ (tb_c tw_3_110)) (fun _ h9 => h9) rfl dX4_emit_12 ?_
  refine lv_iconst (v := 1) hx hb dX4_emit_15 (by decide) ?_
  refine lv_iadd hx hb dX4_emit_16 ?_
  refine va_put (ci := 4) (v := .int ((u.1 3) + 1)) (ty := .int) (C := RX4) (T := TX4) (N := 22) hx hb hts (ivX4 _) tyX4 tyX4_ok nmX4 hown hK hP hD hS 0 rfl rfl 9 (by decide) (hts _ (tb_c tw_3_110)) (fun _ h9 => h9) rfl (by decide +kernel) rfl rfl (Nat.le_of_ble_eq_true rfl) dX4_emit_17 (fun H locs hP hD hS => ?_)
  have hP : va_P D vwCl (wM am cI cZ (sS (sA u 6 (u.1 3) x1) 3 ((u.1 3) + 1))) H := hP
  have hD : va_D A (wM am cI cZ (sS (sA u 6 (u.1 3) x1) 3 ((u.1 3) + 1))) := hD
  have e9 : p_m_emit u x1 = sS (sA u 6 (u.1 3) x1) 3 ((u.1 3) + 1) := by rw [p_m_emit]
  rw [e9]
  exact W.vret hx hb hr (fun t ht hW => ⟨⟨(), rfl, trivial, by rw [ht]; exact hP, va_K.moved hW.alike hK, hD⟩, hS.F ht⟩) hS.2.2 dX4_emit_20

def p_m_fetch (u : St) (x1 x2 : Int32) : Int32 × St := (if 4 ≤ x1 then (x2, (p_m_emit u (((38912 + (256 * x2)) + x1) - 4))) else (4 + x1, u))
def ok_m_fetch (u : St) (x1 x2 : Int32) : Prop := ((4 ≤ x1 → (ok_m_emit u (((38912 + (256 * x2)) + x1) - 4) ∧ True)) ∧ (¬ 4 ≤ x1 → True))
set_option maxHeartbeats 4000000 in
set_option maxRecDepth 100000 in
theorem c_m_fetch (l : Launch) (D : va_G) (am : Nat → Nat) (cI cZ : ClassId) (zz : (Nat → Prop) → State → Heap → Prop) (hzz : Zok zz) (u : St) (x1 x2 : Int32) (hok : ok_m_fetch u x1 x2) : tfI l D vwCl (tyT cI cZ) zz yX4_fetch wsX4_fetch ({ frames := 1, cells := 0, slots := 0, locals := 21 } : Room) [.ref (am 0), .int x1, .int x2] (wM am cI cZ u) (p_m_fetch u x1 x2).1 (wM am cI cZ ((p_m_fetch u x1 x2).2)) := by
  intro sz
  unfold ok_m_fetch at hok
  refine Met.ofW (cc := cX4_fetch) (maxL := 3) (ret := (some .int)) (by decide) rfl ?_
  intro p e s m args below meth c s₁ B hml hv
  obtain ⟨rfl, hsz, hP, hK, hD0, hZ⟩ := hv
  have hx := B.exec
  have hb := B.bytes
  have hr := B.returns
  have hts := atoms_spec (ws := wsX4_fetch) B.pre
  have hown : s.vm.findClass RX4 = some m.cls := findClass_of_methodNamed B.named
  have hlocks := B.notSynchronized
  subst hsz
  have hD := hD0.self (sz := s.heap.size)
  generalize hAe : va_A (wM am cI cZ u) s.heap.size = A at hD hZ ⊢
  have hA : ∀ q : Nat, s.heap.size ≤ q → A q := fun q h => by rw [← hAe]; exact Or.inr h
  have hS : va_S A s.heap s.heap [] := va_S.rf
  have Cx : cxt p s m ([.ref (am 0), .int x1, .int x2] : List Value).toArray meth c cX4_fetch 3 (some .int) wsX4_fetch RX4 D vwCl (tyT cI cZ) zz A := ⟨hx, hb, hr, hts, hown, hlocks, hml, hK, hA, hZ⟩
  have hl := lv_entry ([.ref (am 0), .int x1, .int x2]) (n := 3) (Nat.le_of_ble_eq_true rfl)
  rw [lg_entry_eq]
  generalize (lg_sl ([.ref (am 0), .int x1, .int x2]) ++ List.replicate (3 - (lg_sl ([.ref (am 0), .int x1, .int x2])).length) Slot.unset).toArray = ls at hl ⊢
  have hl : lv_has ls 3 [(0, .ref (am 0)), (1, .int x1), (2, .int x2)] := hl
  refine lv_iload_n hx hb dX4_fetch_0 rfl (lv_at hl 1 rfl) ?_
  refine lv_iconst (v := 4) hx hb dX4_fetch_1 (by decide) ?_
  refine lv_icmp_ge (tgt := 9) hx hb dX4_fetch_2 (by decide) (fun c_1 => ?_) (fun c_1 => ?_)
  · have hok := hok.1 c_1
    refine lv_aload_n hx hb dX4_fetch_9 rfl (lv_at hl 0 rfl) ?_
    refine lv_ldc (v := 38912) hx hb hown (hts _ (tb_c tw_4_47)) dX4_fetch_10 ?_
    refine lv_sipush (v := 256) hx hb dX4_fetch_12 (by decide) ?_
    refine lv_iload_n hx hb dX4_fetch_15 rfl (lv_at hl 2 rfl) ?_
    refine lv_imul hx hb dX4_fetch_16 ?_
    refine lv_iadd hx hb dX4_fetch_17 ?_
    refine lv_iload_n hx hb dX4_fetch_18 rfl (lv_at hl 1 rfl) ?_
    refine lv_iadd hx hb dX4_fetch_19 ?_
    refine lv_iconst (v := 4) hx hb dX4_fetch_20 (by decide) ?_
    refine lv_isub hx hb dX4_fetch_21 ?_
    obtain ⟨h_2, hok⟩ := hok
    refine k_callVv (As := [.int (((38912 + (256 * x2)) + x1) - 4)]) (rest := []) hzz ⟨hx, hb, hml, hown, hts⟩ (c_m_emit l D am cI cZ zz hzz u (((38912 + (256 * x2)) + x1) - 4) h_2) (cwV 1 hts (tb_V tw_4_19 tw_4_21 slX4_emit tw_1_5 tw_4_22) rfl rfl rfl (by decide +kernel) ⟨Nat.le_of_ble_eq_true rfl, Nat.le_of_ble_eq_true rfl⟩) (va_recv hK hP (ci := 4) (q0 := 0) rfl rfl) rfl hl.1 rfl (lv_room (Nat.le_of_ble_eq_true rfl)) dX4_fetch_22 ⟨Nat.le_of_ble_eq_true rfl, Nat.le_of_ble_eq_true rfl⟩ hP hK hD hS hA hZ (fun H locs hP hD hS => ?_)
    generalize eu_3 : p_m_emit u (((38912 + (256 * x2)) + x1) - 4) = u_3 at hP hD ⊢
    try rw [eu_3] at hok
    refine lv_iload_n hx hb dX4_fetch_25 rfl (lv_at hl 2 rfl) ?_
    have e9 : p_m_fetch u x1 x2 = (x2, u_3) := by
      subst eu_3
      rw [p_m_fetch, if_pos c_1]
    rw [e9]
    exact W.iret hx hb hr (fun t ht hW => ⟨⟨_, (), rfl, rfl, by rw [ht]; exact hP, va_K.moved hW.alike hK, hD⟩, hS.F ht⟩) hS.2.2 dX4_fetch_26
  · have hok := hok.2 c_1
    refine lv_iconst (v := 4) hx hb dX4_fetch_5 (by decide) ?_
    refine lv_iload_n hx hb dX4_fetch_6 rfl (lv_at hl 1 rfl) ?_
    refine lv_iadd hx hb dX4_fetch_7 ?_
    have e9 : p_m_fetch u x1 x2 = (4 + x1, u) := by rw [p_m_fetch, if_neg c_1]
    rw [e9]
    exact W.iret hx hb hr (fun t ht hW => ⟨⟨_, (), rfl, rfl, by rw [ht]; exact hP, va_K.moved hW.alike hK, hD⟩, hS.F ht⟩) hS.2.2 dX4_fetch_8

def p_m_keep (u : St) (x1 : Int32) : St := (if x1 ≤ 3 then u else (p_m_emit u ((36864 + x1) - 4)))
def ok_m_keep (u : St) (x1 : Int32) : Prop := ((x1 ≤ 3 → True) ∧ (¬ x1 ≤ 3 → (ok_m_emit u ((36864 + x1) - 4) ∧ True)))
set_option maxHeartbeats 4000000 in
set_option maxRecDepth 100000 in
theorem c_m_keep (l : Launch) (D : va_G) (am : Nat → Nat) (cI cZ : ClassId) (zz : (Nat → Prop) → State → Heap → Prop) (hzz : Zok zz) (u : St) (x1 : Int32) (hok : ok_m_keep u x1) : tfV l D vwCl (tyT cI cZ) zz yX4_keep wsX4_keep ({ frames := 1, cells := 0, slots := 0, locals := 21 } : Room) [.ref (am 0), .int x1] (wM am cI cZ u) (wM am cI cZ (p_m_keep u x1)) := by
  intro sz
  unfold ok_m_keep at hok
  refine Met.ofW (cc := cX4_keep) (maxL := 2) (ret := none) (by decide) rfl ?_
  intro p e s m args below meth c s₁ B hml hv
  obtain ⟨rfl, hsz, hP, hK, hD0, hZ⟩ := hv
  have hx := B.exec
  have hb := B.bytes
  have hr := B.returns
  have hts := atoms_spec (ws := wsX4_keep) B.pre
  have hown : s.vm.findClass RX4 = some m.cls := findClass_of_methodNamed B.named
  have hlocks := B.notSynchronized
  subst hsz
  have hD := hD0.self (sz := s.heap.size)
  generalize hAe : va_A (wM am cI cZ u) s.heap.size = A at hD hZ ⊢
  have hA : ∀ q : Nat, s.heap.size ≤ q → A q := fun q h => by rw [← hAe]; exact Or.inr h
  have hS : va_S A s.heap s.heap [] := va_S.rf
  have Cx : cxt p s m ([.ref (am 0), .int x1] : List Value).toArray meth c cX4_keep 2 none wsX4_keep RX4 D vwCl (tyT cI cZ) zz A := ⟨hx, hb, hr, hts, hown, hlocks, hml, hK, hA, hZ⟩
  have hl := lv_entry ([.ref (am 0), .int x1]) (n := 2) (Nat.le_of_ble_eq_true rfl)
  rw [lg_entry_eq]
  generalize (lg_sl ([.ref (am 0), .int x1]) ++ List.replicate (2 - (lg_sl ([.ref (am 0), .int x1])).length) Slot.unset).toArray = ls at hl ⊢
  have hl : lv_has ls 2 [(0, .ref (am 0)), (1, .int x1)] := hl
  refine lv_iload_n hx hb dX4_keep_0 rfl (lv_at hl 1 rfl) ?_
  refine lv_iconst (v := 3) hx hb dX4_keep_1 (by decide) ?_
  refine lv_icmp_le (tgt := 15) hx hb dX4_keep_2 (by decide) (fun c_1 => ?_) (fun c_1 => ?_)
  · have hok := hok.1 c_1
    have e9 : p_m_keep u x1 = u := by rw [p_m_keep, if_pos c_1]
    rw [e9]
    exact W.vret hx hb hr (fun t ht hW => ⟨⟨(), rfl, trivial, by rw [ht]; exact hP, va_K.moved hW.alike hK, hD⟩, hS.F ht⟩) hS.2.2 dX4_keep_15
  · have hok := hok.2 c_1
    refine lv_aload_n hx hb dX4_keep_5 rfl (lv_at hl 0 rfl) ?_
    refine lv_ldc (v := 36864) hx hb hown (hts _ (tb_c tw_4_38)) dX4_keep_6 ?_
    refine lv_iload_n hx hb dX4_keep_8 rfl (lv_at hl 1 rfl) ?_
    refine lv_iadd hx hb dX4_keep_9 ?_
    refine lv_iconst (v := 4) hx hb dX4_keep_10 (by decide) ?_
    refine lv_isub hx hb dX4_keep_11 ?_
    obtain ⟨h_2, hok⟩ := hok
    refine k_callVv (As := [.int ((36864 + x1) - 4)]) (rest := []) hzz ⟨hx, hb, hml, hown, hts⟩ (c_m_emit l D am cI cZ zz hzz u ((36864 + x1) - 4) h_2) (cwV 1 hts (tb_V tw_4_19 tw_4_21 slX4_emit tw_1_5 tw_4_22) rfl rfl rfl (by decide +kernel) ⟨Nat.le_of_ble_eq_true rfl, Nat.le_of_ble_eq_true rfl⟩) (va_recv hK hP (ci := 4) (q0 := 0) rfl rfl) rfl hl.1 rfl (lv_room (Nat.le_of_ble_eq_true rfl)) dX4_keep_12 ⟨Nat.le_of_ble_eq_true rfl, Nat.le_of_ble_eq_true rfl⟩ hP hK hD hS hA hZ (fun H locs hP hD hS => ?_)
    generalize eu_3 : p_m_emit u ((36864 + x1) - 4) = u_3 at hP hD ⊢
    try rw [eu_3] at hok
    have e9 : p_m_keep u x1 = u_3 := by
      subst eu_3
      rw [p_m_keep, if_neg c_1]
    rw [e9]
    exact W.vret hx hb hr (fun t ht hW => ⟨⟨(), rfl, trivial, by rw [ht]; exact hP, va_K.moved hW.alike hK, hD⟩, hS.F ht⟩) hS.2.2 dX4_keep_15

def p_m_literal_2 : Nat → St → Int32 → Int32 → Int32 → St
  | 0, u, _, _, _ => u
  | n + 1, u, x1, x2, x3 => (if (u.1 4) ≤ x3 then (if x3 = (u.1 4) then (if (((2 * (u.1 3)) + 4) - ((2 * (u.1 3)) + 4) / 4 * 4) = 0 then (p_m_emit (sS (sA u 9 x3 x2) 4 ((u.1 4) + 1)) ((18432 + (256 * x1)) + ((((2 * (u.1 5)) + (4 * x3)) - ((2 * (u.1 3)) + 4)) / 4))) else (p_m_emit (sS (sA u 9 x3 x2) 4 ((u.1 4) + 1)) ((18432 + (256 * x1)) + ((((2 * (u.1 5)) + (4 * x3)) - (((2 * (u.1 3)) + 4) - 2)) / 4)))) else (if (((2 * (u.1 3)) + 4) - ((2 * (u.1 3)) + 4) / 4 * 4) = 0 then (p_m_emit (sS (sA u 9 x3 x2) 4 (u.1 4)) ((18432 + (256 * x1)) + ((((2 * (u.1 5)) + (4 * x3)) - ((2 * (u.1 3)) + 4)) / 4))) else (p_m_emit (sS (sA u 9 x3 x2) 4 (u.1 4)) ((18432 + (256 * x1)) + ((((2 * (u.1 5)) + (4 * x3)) - (((2 * (u.1 3)) + 4) - 2)) / 4))))) else (if (u.2 9 x3.toNatClampNeg) = x2 then (if x3 = (u.1 4) then (if (((2 * (u.1 3)) + 4) - ((2 * (u.1 3)) + 4) / 4 * 4) = 0 then (p_m_emit (sS (sA u 9 x3 x2) 4 ((u.1 4) + 1)) ((18432 + (256 * x1)) + ((((2 * (u.1 5)) + (4 * x3)) - ((2 * (u.1 3)) + 4)) / 4))) else (p_m_emit (sS (sA u 9 x3 x2) 4 ((u.1 4) + 1)) ((18432 + (256 * x1)) + ((((2 * (u.1 5)) + (4 * x3)) - (((2 * (u.1 3)) + 4) - 2)) / 4)))) else (if (((2 * (u.1 3)) + 4) - ((2 * (u.1 3)) + 4) / 4 * 4) = 0 then (p_m_emit (sS (sA u 9 x3 x2) 4 (u.1 4)) ((18432 + (256 * x1)) + ((((2 * (u.1 5)) + (4 * x3)) - ((2 * (u.1 3)) + 4)) / 4))) else (p_m_emit (sS (sA u 9 x3 x2) 4 (u.1 4)) ((18432 + (256 * x1)) + ((((2 * (u.1 5)) + (4 * x3)) - (((2 * (u.1 3)) + 4) - 2)) / 4))))) else p_m_literal_2 n u x1 x2 (x3 + 1)))
def ok_m_literal_2 : Nat → St → Int32 → Int32 → Int32 → Prop
  | 0, _, _, _, _ => False
  | n + 1, u, x1, x2, x3 => (((u.1 4) ≤ x3 → (vp_in x3 49 ∧ ((x3 = (u.1 4) → (((((2 * (u.1 3)) + 4) - ((2 * (u.1 3)) + 4) / 4 * 4) = 0 → (ok_m_emit (sS (sA u 9 x3 x2) 4 ((u.1 4) + 1)) ((18432 + (256 * x1)) + ((((2 * (u.1 5)) + (4 * x3)) - ((2 * (u.1 3)) + 4)) / 4)) ∧ True)) ∧ (¬ (((2 * (u.1 3)) + 4) - ((2 * (u.1 3)) + 4) / 4 * 4) = 0 → (ok_m_emit (sS (sA u 9 x3 x2) 4 ((u.1 4) + 1)) ((18432 + (256 * x1)) + ((((2 * (u.1 5)) + (4 * x3)) - (((2 * (u.1 3)) + 4) - 2)) / 4)) ∧ True)))) ∧ (¬ x3 = (u.1 4) → (((((2 * (u.1 3)) + 4) - ((2 * (u.1 3)) + 4) / 4 * 4) = 0 → (ok_m_emit (sS (sA u 9 x3 x2) 4 (u.1 4)) ((18432 + (256 * x1)) + ((((2 * (u.1 5)) + (4 * x3)) - ((2 * (u.1 3)) + 4)) / 4)) ∧ True)) ∧ (¬ (((2 * (u.1 3)) + 4) - ((2 * (u.1 3)) + 4) / 4 * 4) = 0 → (ok_m_emit (sS (sA u 9 x3 x2) 4 (u.1 4)) ((18432 + (256 * x1)) + ((((2 * (u.1 5)) + (4 * x3)) - (((2 * (u.1 3)) + 4) - 2)) / 4)) ∧ True))))))) ∧ (¬ (u.1 4) ≤ x3 → (vp_in x3 49 ∧ (((u.2 9 x3.toNatClampNeg) = x2 → (vp_in x3 49 ∧ ((x3 = (u.1 4) → (((((2 * (u.1 3)) + 4) - ((2 * (u.1 3)) + 4) / 4 * 4) = 0 → (ok_m_emit (sS (sA u 9 x3 x2) 4 ((u.1 4) + 1)) ((18432 + (256 * x1)) + ((((2 * (u.1 5)) + (4 * x3)) - ((2 * (u.1 3)) + 4)) / 4)) ∧ True)) ∧ (¬ (((2 * (u.1 3)) + 4) - ((2 * (u.1 3)) + 4) / 4 * 4) = 0 → (ok_m_emit (sS (sA u 9 x3 x2) 4 ((u.1 4) + 1)) ((18432 + (256 * x1)) + ((((2 * (u.1 5)) + (4 * x3)) - (((2 * (u.1 3)) + 4) - 2)) / 4)) ∧ True)))) ∧ (¬ x3 = (u.1 4) → (((((2 * (u.1 3)) + 4) - ((2 * (u.1 3)) + 4) / 4 * 4) = 0 → (ok_m_emit (sS (sA u 9 x3 x2) 4 (u.1 4)) ((18432 + (256 * x1)) + ((((2 * (u.1 5)) + (4 * x3)) - ((2 * (u.1 3)) + 4)) / 4)) ∧ True)) ∧ (¬ (((2 * (u.1 3)) + 4) - ((2 * (u.1 3)) + 4) / 4 * 4) = 0 → (ok_m_emit (sS (sA u 9 x3 x2) 4 (u.1 4)) ((18432 + (256 * x1)) + ((((2 * (u.1 5)) + (4 * x3)) - (((2 * (u.1 3)) + 4) - 2)) / 4)) ∧ True))))))) ∧ (¬ (u.2 9 x3.toNatClampNeg) = x2 → ok_m_literal_2 n u x1 x2 (x3 + 1))))))
set_option maxHeartbeats 4000000 in
set_option maxRecDepth 100000 in
theorem w_m_literal_2 {p : Program} {l : Launch} {e : Env} {s : State} {m : MethodId} {args : Array Value} {below : List Frame} {meth : Method} {c : Code} {D : va_G} {A : Nat → Prop} (am : Nat → Nat) (cI cZ : ClassId) (zz : (Nat → Prop) → State → Heap → Prop) (hzz : Zok zz) (Cx : cxt p s m args meth c cX4_literal 5 none wsX4_literal RX4 D vwCl (tyT cI cZ) zz A) : ∀ (n : Nat) (u : St) (x1 x2 x3 : Int32) (H : Heap) (locs : List Loc) (ls : Array Slot), ok_m_literal_2 n u x1 x2 x3 → va_P D vwCl (wM am cI cZ u) H → va_D A (wM am cI cZ u) → va_S A s.heap H locs → lv_has ls 5 [(0, .ref (am 0)), (1, .int x1), (2, .int x2), (3, .int x3)] → W p l e ({ frames := 1, cells := 0, slots := 0, locals := 21 } : Room) s m args below meth c H locs 0 0 (MQ below (qqV D vwCl (tyT cI cZ) (wM am cI cZ (p_m_literal_2 n u x1 x2 x3)) A) args s 0 0 A) (F0 m 2 ls []) := by
  obtain ⟨hx, hb, hr, hts, hown, hlocks, hml, hK, hA, hZ⟩ := id Cx
  intro n
  induction n with
  | zero =>
    intro u x1 x2 x3 H locs ls hok
    exact False.elim hok
  | succ n ih =>
    intro u x1 x2 x3 H locs ls hok hP hD hS hl
    unfold ok_m_literal_2 at hok
    refine lv_iload_n hx hb dX4_literal_2 rfl (lv_at hl 3 rfl) ?_
    refine lv_aload_n hx hb dX4_literal_3 rfl (lv_at hl 0 rfl) ?_
    refine va_get (ci := 4) (v := .int (u.1 4)) (C := RX4) (T := TX4) (N := 22) hx hb hts (ivX4 _) hown hK hP 0 rfl rfl 13 (by decide) (hts _ (tb_c tw_3_114)) (fun _ h9 => h9) rfl dX4_literal_4 ?_
    refine lv_icmp_ge (tgt := 26) hx hb dX4_literal_7 (by decide) (fun c_1 => ?_) (fun c_1 => ?_)
    · have hok := hok.1 c_1
      refine lv_aload_n hx hb dX4_literal_26 rfl (lv_at hl 0 rfl) ?_
      refine va_get (ci := 4) (v := .ref (am 10)) (C := RX4) (T := TX4) (N := 22) hx hb hts (ivX4 _) hown hK hP 0 rfl rfl 14 (by decide) (hts _ (tb_c tw_3_115)) (fun _ h9 => h9) rfl dX4_literal_27 ?_
      refine lv_iload_n hx hb dX4_literal_30 rfl (lv_at hl 3 rfl) ?_
      refine lv_iload_n hx hb dX4_literal_31 rfl (lv_at hl 2 rfl) ?_
      obtain ⟨h_2, hok⟩ := hok
      refine va_iast hx hb hK hP hD hS 10 0 rfl rfl h_2 dX4_literal_32 (fun H locs hP hD hS => ?_)
      have hP : va_P D vwCl (wM am cI cZ (sA u 9 x3 x2)) H := hP
      have hD : va_D A (wM am cI cZ (sA u 9 x3 x2)) := hD
      refine lv_aload_n hx hb dX4_literal_33 rfl (lv_at hl 0 rfl) ?_
      refine lv_iload_n hx hb dX4_literal_34 rfl (lv_at hl 3 rfl) ?_
      refine lv_aload_n hx hb dX4_literal_35 rfl (lv_at hl 0 rfl) ?_
      refine va_get (ci := 4) (v := .int (u.1 4)) (C := RX4) (T := TX4) (N := 22) hx hb hts (ivX4 _) hown hK hP 0 rfl rfl 13 (by decide) (hts _ (tb_c tw_3_114)) (fun _ h9 => h9) rfl dX4_literal_36 ?_
      refine lv_icmp_ne (tgt := 51) hx hb dX4_literal_39 (by decide) (fun c_3 => ?_) (fun c_3 => ?_)
      · have hok := hok.2 c_3
        refine lv_aload_n hx hb dX4_literal_51 rfl (lv_at hl 0 rfl) ?_
        refine va_get (ci := 4) (v := .int (u.1 4)) (C := RX4) (T := TX4) (N := 22) hx hb hts (ivX4 _) hown hK hP 0 rfl rfl 13 (by decide) (hts _ (tb_c tw_3_114)) (fun _ h9 => h9) rfl dX4_literal_52 ?_
        refine va_put (ci := 4) (v := .int (u.1 4)) (ty := .int) (C := RX4) (T := TX4) (N := 22) hx hb hts (ivX4 _) tyX4 tyX4_ok nmX4 hown hK hP hD hS 0 rfl rfl 13 (by decide) (hts _ (tb_c tw_3_114)) (fun _ h9 => h9) rfl (by decide +kernel) rfl rfl (Nat.le_of_ble_eq_true rfl) dX4_literal_55 (fun H locs hP hD hS => ?_)
        have hP : va_P D vwCl (wM am cI cZ (sS (sA u 9 x3 x2) 4 (u.1 4))) H := hP
        have hD : va_D A (wM am cI cZ (sS (sA u 9 x3 x2) 4 (u.1 4))) := hD
        refine lv_iconst (v := 2) hx hb dX4_literal_58 (by decide) ?_
        refine lv_aload_n hx hb dX4_literal_59 rfl (lv_at hl 0 rfl) ?_
        refine va_get (ci := 4) (v := .int (u.1 3)) (C := RX4) (T := TX4) (N := 22) hx hb hts (ivX4 _) hown hK hP 0 rfl rfl 9 (by decide) (hts _ (tb_c tw_3_110)) (fun _ h9 => h9) rfl dX4_literal_60 ?_
        refine lv_imul hx hb dX4_literal_63 ?_
        refine lv_iconst (v := 4) hx hb dX4_literal_64 (by decide) ?_
        refine lv_iadd hx hb dX4_literal_65 ?_
        refine lv_istore (lv' := [(4, .int ((2 * (u.1 3)) + 4)), (0, .ref (am 0)), (1, .int x1), (2, .int x2), (3, .int x3)]) hx hb dX4_literal_66 hl (by decide) rfl (fun ls hl => ?_)
        refine lv_iload hx hb dX4_literal_68 (lv_at hl 0 rfl) ?_
        refine lv_iconst (v := 4) hx hb dX4_literal_70 (by decide) ?_
        refine lv_irem hx hb dX4_literal_71 (by decide) ?_
        refine lv_if_ne (tgt := 80) hx hb dX4_literal_72 (by decide) (fun c_4 => ?_) (fun c_4 => ?_)
        · have hok := hok.2 c_4
          refine lv_iload hx hb dX4_literal_80 (lv_at hl 0 rfl) ?_
          refine lv_iconst (v := 2) hx hb dX4_literal_82 (by decide) ?_
          refine lv_isub hx hb dX4_literal_83 ?_
          refine lv_istore (lv' := [(4, .int (((2 * (u.1 3)) + 4) - 2)), (0, .ref (am 0)), (1, .int x1), (2, .int x2), (3, .int x3)]) hx hb dX4_literal_84 hl (by decide) rfl (fun ls hl => ?_)
          refine lv_aload_n hx hb dX4_literal_86 rfl (lv_at hl 1 rfl) ?_
          refine lv_sipush (v := 18432) hx hb dX4_literal_87 (by decide) ?_
          refine lv_sipush (v := 256) hx hb dX4_literal_90 (by decide) ?_
          refine lv_iload_n hx hb dX4_literal_93 rfl (lv_at hl 2 rfl) ?_
          refine lv_imul hx hb dX4_literal_94 ?_
          refine lv_iadd hx hb dX4_literal_95 ?_
          refine lv_iconst (v := 2) hx hb dX4_literal_96 (by decide) ?_
          refine lv_aload_n hx hb dX4_literal_97 rfl (lv_at hl 1 rfl) ?_
          refine va_get (ci := 4) (v := .int (u.1 5)) (C := RX4) (T := TX4) (N := 22) hx hb hts (ivX4 _) hown hK hP 0 rfl rfl 15 (by decide) (hts _ (tb_c tw_3_116)) (fun _ h9 => h9) rfl dX4_literal_98 ?_
          refine lv_imul hx hb dX4_literal_101 ?_
          refine lv_iconst (v := 4) hx hb dX4_literal_102 (by decide) ?_
          refine lv_iload_n hx hb dX4_literal_103 rfl (lv_at hl 4 rfl) ?_
          refine lv_imul hx hb dX4_literal_104 ?_
          refine lv_iadd hx hb dX4_literal_105 ?_
          refine lv_iload hx hb dX4_literal_106 (lv_at hl 0 rfl) ?_
          refine lv_isub hx hb dX4_literal_108 ?_
          refine lv_iconst (v := 4) hx hb dX4_literal_109 (by decide) ?_
          refine lv_idiv hx hb dX4_literal_110 (by decide) ?_
          refine lv_iadd hx hb dX4_literal_111 ?_
          obtain ⟨h_5, hok⟩ := hok
          refine k_callVv (As := [.int ((18432 + (256 * x1)) + ((((2 * (u.1 5)) + (4 * x3)) - (((2 * (u.1 3)) + 4) - 2)) / 4))]) (rest := []) hzz ⟨hx, hb, hml, hown, hts⟩ (c_m_emit l D am cI cZ zz hzz (sS (sA u 9 x3 x2) 4 (u.1 4)) ((18432 + (256 * x1)) + ((((2 * (u.1 5)) + (4 * x3)) - (((2 * (u.1 3)) + 4) - 2)) / 4)) h_5) (cwV 1 hts (tb_V tw_4_19 tw_4_21 slX4_emit tw_1_5 tw_4_22) rfl rfl rfl (by decide +kernel) ⟨Nat.le_of_ble_eq_true rfl, Nat.le_of_ble_eq_true rfl⟩) (va_recv hK hP (ci := 4) (q0 := 0) rfl rfl) rfl hl.1 rfl (lv_room (Nat.le_of_ble_eq_true rfl)) dX4_literal_112 ⟨Nat.le_of_ble_eq_true rfl, Nat.le_of_ble_eq_true rfl⟩ hP hK hD hS hA hZ (fun H locs hP hD hS => ?_)
          generalize eu_6 : p_m_emit (sS (sA u 9 x3 x2) 4 (u.1 4)) ((18432 + (256 * x1)) + ((((2 * (u.1 5)) + (4 * x3)) - (((2 * (u.1 3)) + 4) - 2)) / 4)) = u_6 at hP hD ⊢
          try rw [eu_6] at hok
          have e9 : p_m_literal_2 (n + 1) u x1 x2 x3 = u_6 := by
            subst eu_6
            rw [p_m_literal_2, if_pos c_1, if_neg c_3, if_neg c_4]
          rw [e9]
          exact W.vret hx hb hr (fun t ht hW => ⟨⟨(), rfl, trivial, by rw [ht]; exact hP, va_K.moved hW.alike hK, hD⟩, hS.F ht⟩) hS.2.2 dX4_literal_115
        · have hok := hok.1 c_4
          refine lv_iload hx hb dX4_literal_75 (lv_at hl 0 rfl) ?_
          refine lv_goto (tgt := 84) hx hb dX4_literal_77 (by decide) ?_
          refine lv_istore (lv' := [(4, .int ((2 * (u.1 3)) + 4)), (0, .ref (am 0)), (1, .int x1), (2, .int x2), (3, .int x3)]) hx hb dX4_literal_84 hl (by decide) rfl (fun ls hl => ?_)
          refine lv_aload_n hx hb dX4_literal_86 rfl (lv_at hl 1 rfl) ?_
          refine lv_sipush (v := 18432) hx hb dX4_literal_87 (by decide) ?_
          refine lv_sipush (v := 256) hx hb dX4_literal_90 (by decide) ?_
          refine lv_iload_n hx hb dX4_literal_93 rfl (lv_at hl 2 rfl) ?_
          refine lv_imul hx hb dX4_literal_94 ?_
          refine lv_iadd hx hb dX4_literal_95 ?_
          refine lv_iconst (v := 2) hx hb dX4_literal_96 (by decide) ?_
          refine lv_aload_n hx hb dX4_literal_97 rfl (lv_at hl 1 rfl) ?_
          refine va_get (ci := 4) (v := .int (u.1 5)) (C := RX4) (T := TX4) (N := 22) hx hb hts (ivX4 _) hown hK hP 0 rfl rfl 15 (by decide) (hts _ (tb_c tw_3_116)) (fun _ h9 => h9) rfl dX4_literal_98 ?_
          refine lv_imul hx hb dX4_literal_101 ?_
          refine lv_iconst (v := 4) hx hb dX4_literal_102 (by decide) ?_
          refine lv_iload_n hx hb dX4_literal_103 rfl (lv_at hl 4 rfl) ?_
          refine lv_imul hx hb dX4_literal_104 ?_
          refine lv_iadd hx hb dX4_literal_105 ?_
          refine lv_iload hx hb dX4_literal_106 (lv_at hl 0 rfl) ?_
          refine lv_isub hx hb dX4_literal_108 ?_
          refine lv_iconst (v := 4) hx hb dX4_literal_109 (by decide) ?_
          refine lv_idiv hx hb dX4_literal_110 (by decide) ?_
          refine lv_iadd hx hb dX4_literal_111 ?_
          obtain ⟨h_7, hok⟩ := hok
          refine k_callVv (As := [.int ((18432 + (256 * x1)) + ((((2 * (u.1 5)) + (4 * x3)) - ((2 * (u.1 3)) + 4)) / 4))]) (rest := []) hzz ⟨hx, hb, hml, hown, hts⟩ (c_m_emit l D am cI cZ zz hzz (sS (sA u 9 x3 x2) 4 (u.1 4)) ((18432 + (256 * x1)) + ((((2 * (u.1 5)) + (4 * x3)) - ((2 * (u.1 3)) + 4)) / 4)) h_7) (cwV 1 hts (tb_V tw_4_19 tw_4_21 slX4_emit tw_1_5 tw_4_22) rfl rfl rfl (by decide +kernel) ⟨Nat.le_of_ble_eq_true rfl, Nat.le_of_ble_eq_true rfl⟩) (va_recv hK hP (ci := 4) (q0 := 0) rfl rfl) rfl hl.1 rfl (lv_room (Nat.le_of_ble_eq_true rfl)) dX4_literal_112 ⟨Nat.le_of_ble_eq_true rfl, Nat.le_of_ble_eq_true rfl⟩ hP hK hD hS hA hZ (fun H locs hP hD hS => ?_)
          generalize eu_8 : p_m_emit (sS (sA u 9 x3 x2) 4 (u.1 4)) ((18432 + (256 * x1)) + ((((2 * (u.1 5)) + (4 * x3)) - ((2 * (u.1 3)) + 4)) / 4)) = u_8 at hP hD ⊢
          try rw [eu_8] at hok
          have e9 : p_m_literal_2 (n + 1) u x1 x2 x3 = u_8 := by
            subst eu_8
            rw [p_m_literal_2, if_pos c_1, if_neg c_3, if_pos c_4]
          rw [e9]
          exact W.vret hx hb hr (fun t ht hW => ⟨⟨(), rfl, trivial, by rw [ht]; exact hP, va_K.moved hW.alike hK, hD⟩, hS.F ht⟩) hS.2.2 dX4_literal_115
      · have hok := hok.1 c_3
        refine lv_aload_n hx hb dX4_literal_42 rfl (lv_at hl 0 rfl) ?_
        refine va_get (ci := 4) (v := .int (u.1 4)) (C := RX4) (T := TX4) (N := 22) hx hb hts (ivX4 _) hown hK hP 0 rfl rfl 13 (by decide) (hts _ (tb_c tw_3_114)) (fun _ h9 => h9) rfl dX4_literal_43 ?_
        refine lv_iconst (v := 1) hx hb dX4_literal_46 (by decide) ?_
        refine lv_iadd hx hb dX4_literal_47 ?_
        refine lv_goto (tgt := 55) hx hb dX4_literal_48 (by decide) ?_
        refine va_put (ci := 4) (v := .int ((u.1 4) + 1)) (ty := .int) (C := RX4) (T := TX4) (N := 22) hx hb hts (ivX4 _) tyX4 tyX4_ok nmX4 hown hK hP hD hS 0 rfl rfl 13 (by decide) (hts _ (tb_c tw_3_114)) (fun _ h9 => h9) rfl (by decide +kernel) rfl rfl (Nat.le_of_ble_eq_true rfl) dX4_literal_55 (fun H locs hP hD hS => ?_)
        have hP : va_P D vwCl (wM am cI cZ (sS (sA u 9 x3 x2) 4 ((u.1 4) + 1))) H := hP
        have hD : va_D A (wM am cI cZ (sS (sA u 9 x3 x2) 4 ((u.1 4) + 1))) := hD
        refine lv_iconst (v := 2) hx hb dX4_literal_58 (by decide) ?_
        refine lv_aload_n hx hb dX4_literal_59 rfl (lv_at hl 0 rfl) ?_
        refine va_get (ci := 4) (v := .int (u.1 3)) (C := RX4) (T := TX4) (N := 22) hx hb hts (ivX4 _) hown hK hP 0 rfl rfl 9 (by decide) (hts _ (tb_c tw_3_110)) (fun _ h9 => h9) rfl dX4_literal_60 ?_
        refine lv_imul hx hb dX4_literal_63 ?_
        refine lv_iconst (v := 4) hx hb dX4_literal_64 (by decide) ?_
        refine lv_iadd hx hb dX4_literal_65 ?_
        refine lv_istore (lv' := [(4, .int ((2 * (u.1 3)) + 4)), (0, .ref (am 0)), (1, .int x1), (2, .int x2), (3, .int x3)]) hx hb dX4_literal_66 hl (by decide) rfl (fun ls hl => ?_)
        refine lv_iload hx hb dX4_literal_68 (lv_at hl 0 rfl) ?_
        refine lv_iconst (v := 4) hx hb dX4_literal_70 (by decide) ?_
        refine lv_irem hx hb dX4_literal_71 (by decide) ?_
        refine lv_if_ne (tgt := 80) hx hb dX4_literal_72 (by decide) (fun c_9 => ?_) (fun c_9 => ?_)
        · have hok := hok.2 c_9
          refine lv_iload hx hb dX4_literal_80 (lv_at hl 0 rfl) ?_
          refine lv_iconst (v := 2) hx hb dX4_literal_82 (by decide) ?_
          refine lv_isub hx hb dX4_literal_83 ?_
          refine lv_istore (lv' := [(4, .int (((2 * (u.1 3)) + 4) - 2)), (0, .ref (am 0)), (1, .int x1), (2, .int x2), (3, .int x3)]) hx hb dX4_literal_84 hl (by decide) rfl (fun ls hl => ?_)
          refine lv_aload_n hx hb dX4_literal_86 rfl (lv_at hl 1 rfl) ?_
          refine lv_sipush (v := 18432) hx hb dX4_literal_87 (by decide) ?_
          refine lv_sipush (v := 256) hx hb dX4_literal_90 (by decide) ?_
          refine lv_iload_n hx hb dX4_literal_93 rfl (lv_at hl 2 rfl) ?_
          refine lv_imul hx hb dX4_literal_94 ?_
          refine lv_iadd hx hb dX4_literal_95 ?_
          refine lv_iconst (v := 2) hx hb dX4_literal_96 (by decide) ?_
          refine lv_aload_n hx hb dX4_literal_97 rfl (lv_at hl 1 rfl) ?_
          refine va_get (ci := 4) (v := .int (u.1 5)) (C := RX4) (T := TX4) (N := 22) hx hb hts (ivX4 _) hown hK hP 0 rfl rfl 15 (by decide) (hts _ (tb_c tw_3_116)) (fun _ h9 => h9) rfl dX4_literal_98 ?_
          refine lv_imul hx hb dX4_literal_101 ?_
          refine lv_iconst (v := 4) hx hb dX4_literal_102 (by decide) ?_
          refine lv_iload_n hx hb dX4_literal_103 rfl (lv_at hl 4 rfl) ?_
          refine lv_imul hx hb dX4_literal_104 ?_
          refine lv_iadd hx hb dX4_literal_105 ?_
          refine lv_iload hx hb dX4_literal_106 (lv_at hl 0 rfl) ?_
          refine lv_isub hx hb dX4_literal_108 ?_
          refine lv_iconst (v := 4) hx hb dX4_literal_109 (by decide) ?_
          refine lv_idiv hx hb dX4_literal_110 (by decide) ?_
          refine lv_iadd hx hb dX4_literal_111 ?_
          obtain ⟨h_10, hok⟩ := hok
          refine k_callVv (As := [.int ((18432 + (256 * x1)) + ((((2 * (u.1 5)) + (4 * x3)) - (((2 * (u.1 3)) + 4) - 2)) / 4))]) (rest := []) hzz ⟨hx, hb, hml, hown, hts⟩ (c_m_emit l D am cI cZ zz hzz (sS (sA u 9 x3 x2) 4 ((u.1 4) + 1)) ((18432 + (256 * x1)) + ((((2 * (u.1 5)) + (4 * x3)) - (((2 * (u.1 3)) + 4) - 2)) / 4)) h_10) (cwV 1 hts (tb_V tw_4_19 tw_4_21 slX4_emit tw_1_5 tw_4_22) rfl rfl rfl (by decide +kernel) ⟨Nat.le_of_ble_eq_true rfl, Nat.le_of_ble_eq_true rfl⟩) (va_recv hK hP (ci := 4) (q0 := 0) rfl rfl) rfl hl.1 rfl (lv_room (Nat.le_of_ble_eq_true rfl)) dX4_literal_112 ⟨Nat.le_of_ble_eq_true rfl, Nat.le_of_ble_eq_true rfl⟩ hP hK hD hS hA hZ (fun H locs hP hD hS => ?_)
          generalize eu_11 : p_m_emit (sS (sA u 9 x3 x2) 4 ((u.1 4) + 1)) ((18432 + (256 * x1)) + ((((2 * (u.1 5)) + (4 * x3)) - (((2 * (u.1 3)) + 4) - 2)) / 4)) = u_11 at hP hD ⊢
          try rw [eu_11] at hok
          have e9 : p_m_literal_2 (n + 1) u x1 x2 x3 = u_11 := by
            subst eu_11
            rw [p_m_literal_2, if_pos c_1, if_pos c_3, if_neg c_9]
          rw [e9]
          exact W.vret hx hb hr (fun t ht hW => ⟨⟨(), rfl, trivial, by rw [ht]; exact hP, va_K.moved hW.alike hK, hD⟩, hS.F ht⟩) hS.2.2 dX4_literal_115
        · have hok := hok.1 c_9
          refine lv_iload hx hb dX4_literal_75 (lv_at hl 0 rfl) ?_
          refine lv_goto (tgt := 84) hx hb dX4_literal_77 (by decide) ?_
          refine lv_istore (lv' := [(4, .int ((2 * (u.1 3)) + 4)), (0, .ref (am 0)), (1, .int x1), (2, .int x2), (3, .int x3)]) hx hb dX4_literal_84 hl (by decide) rfl (fun ls hl => ?_)
          refine lv_aload_n hx hb dX4_literal_86 rfl (lv_at hl 1 rfl) ?_
          refine lv_sipush (v := 18432) hx hb dX4_literal_87 (by decide) ?_
          refine lv_sipush (v := 256) hx hb dX4_literal_90 (by decide) ?_
          refine lv_iload_n hx hb dX4_literal_93 rfl (lv_at hl 2 rfl) ?_
          refine lv_imul hx hb dX4_literal_94 ?_
          refine lv_iadd hx hb dX4_literal_95 ?_
          refine lv_iconst (v := 2) hx hb dX4_literal_96 (by decide) ?_
          refine lv_aload_n hx hb dX4_literal_97 rfl (lv_at hl 1 rfl) ?_
          refine va_get (ci := 4) (v := .int (u.1 5)) (C := RX4) (T := TX4) (N := 22) hx hb hts (ivX4 _) hown hK hP 0 rfl rfl 15 (by decide) (hts _ (tb_c tw_3_116)) (fun _ h9 => h9) rfl dX4_literal_98 ?_
          refine lv_imul hx hb dX4_literal_101 ?_
          refine lv_iconst (v := 4) hx hb dX4_literal_102 (by decide) ?_
          refine lv_iload_n hx hb dX4_literal_103 rfl (lv_at hl 4 rfl) ?_
          refine lv_imul hx hb dX4_literal_104 ?_
          refine lv_iadd hx hb dX4_literal_105 ?_
          refine lv_iload hx hb dX4_literal_106 (lv_at hl 0 rfl) ?_
          refine lv_isub hx hb dX4_literal_108 ?_
          refine lv_iconst (v := 4) hx hb dX4_literal_109 (by decide) ?_
          refine lv_idiv hx hb dX4_literal_110 (by decide) ?_
          refine lv_iadd hx hb dX4_literal_111 ?_
          obtain ⟨h_12, hok⟩ := hok
          refine k_callVv (As := [.int ((18432 + (256 * x1)) + ((((2 * (u.1 5)) + (4 * x3)) - ((2 * (u.1 3)) + 4)) / 4))]) (rest := []) hzz ⟨hx, hb, hml, hown, hts⟩ (c_m_emit l D am cI cZ zz hzz (sS (sA u 9 x3 x2) 4 ((u.1 4) + 1)) ((18432 + (256 * x1)) + ((((2 * (u.1 5)) + (4 * x3)) - ((2 * (u.1 3)) + 4)) / 4)) h_12) (cwV 1 hts (tb_V tw_4_19 tw_4_21 slX4_emit tw_1_5 tw_4_22) rfl rfl rfl (by decide +kernel) ⟨Nat.le_of_ble_eq_true rfl, Nat.le_of_ble_eq_true rfl⟩) (va_recv hK hP (ci := 4) (q0 := 0) rfl rfl) rfl hl.1 rfl (lv_room (Nat.le_of_ble_eq_true rfl)) dX4_literal_112 ⟨Nat.le_of_ble_eq_true rfl, Nat.le_of_ble_eq_true rfl⟩ hP hK hD hS hA hZ (fun H locs hP hD hS => ?_)
          generalize eu_13 : p_m_emit (sS (sA u 9 x3 x2) 4 ((u.1 4) + 1)) ((18432 + (256 * x1)) + ((((2 * (u.1 5)) + (4 * x3)) - ((2 * (u.1 3)) + 4)) / 4)) = u_13 at hP hD ⊢
          try rw [eu_13] at hok
          have e9 : p_m_literal_2 (n + 1) u x1 x2 x3 = u_13 := by
            subst eu_13
            rw [p_m_literal_2, if_pos c_1, if_pos c_3, if_pos c_9]
          rw [e9]
          exact W.vret hx hb hr (fun t ht hW => ⟨⟨(), rfl, trivial, by rw [ht]; exact hP, va_K.moved hW.alike hK, hD⟩, hS.F ht⟩) hS.2.2 dX4_literal_115
    · have hok := hok.2 c_1
      refine lv_aload_n hx hb dX4_literal_10 rfl (lv_at hl 0 rfl) ?_
      refine va_get (ci := 4) (v := .ref (am 10)) (C := RX4) (T := TX4) (N := 22) hx hb hts (ivX4 _) hown hK hP 0 rfl rfl 14 (by decide) (hts _ (tb_c tw_3_115)) (fun _ h9 => h9) rfl dX4_literal_11 ?_
      refine lv_iload_n hx hb dX4_literal_14 rfl (lv_at hl 3 rfl) ?_
      obtain ⟨h_14, hok⟩ := hok
      refine va_iald (f := u.2 9) hx hb hK hP 10 0 rfl rfl h_14 dX4_literal_15 ?_
      refine lv_iload_n hx hb dX4_literal_16 rfl (lv_at hl 2 rfl) ?_
      refine lv_icmp_eq (tgt := 26) hx hb dX4_literal_17 (by decide) (fun c_15 => ?_) (fun c_15 => ?_)
      · have hok := hok.1 c_15
        refine lv_aload_n hx hb dX4_literal_26 rfl (lv_at hl 0 rfl) ?_
        refine va_get (ci := 4) (v := .ref (am 10)) (C := RX4) (T := TX4) (N := 22) hx hb hts (ivX4 _) hown hK hP 0 rfl rfl 14 (by decide) (hts _ (tb_c tw_3_115)) (fun _ h9 => h9) rfl dX4_literal_27 ?_
        refine lv_iload_n hx hb dX4_literal_30 rfl (lv_at hl 3 rfl) ?_
        refine lv_iload_n hx hb dX4_literal_31 rfl (lv_at hl 2 rfl) ?_
        obtain ⟨h_16, hok⟩ := hok
        refine va_iast hx hb hK hP hD hS 10 0 rfl rfl h_16 dX4_literal_32 (fun H locs hP hD hS => ?_)
        have hP : va_P D vwCl (wM am cI cZ (sA u 9 x3 x2)) H := hP
        have hD : va_D A (wM am cI cZ (sA u 9 x3 x2)) := hD
        refine lv_aload_n hx hb dX4_literal_33 rfl (lv_at hl 0 rfl) ?_
        refine lv_iload_n hx hb dX4_literal_34 rfl (lv_at hl 3 rfl) ?_
        refine lv_aload_n hx hb dX4_literal_35 rfl (lv_at hl 0 rfl) ?_
        refine va_get (ci := 4) (v := .int (u.1 4)) (C := RX4) (T := TX4) (N := 22) hx hb hts (ivX4 _) hown hK hP 0 rfl rfl 13 (by decide) (hts _ (tb_c tw_3_114)) (fun _ h9 => h9) rfl dX4_literal_36 ?_
        refine lv_icmp_ne (tgt := 51) hx hb dX4_literal_39 (by decide) (fun c_17 => ?_) (fun c_17 => ?_)
        · have hok := hok.2 c_17
          refine lv_aload_n hx hb dX4_literal_51 rfl (lv_at hl 0 rfl) ?_
          refine va_get (ci := 4) (v := .int (u.1 4)) (C := RX4) (T := TX4) (N := 22) hx hb hts (ivX4 _) hown hK hP 0 rfl rfl 13 (by decide) (hts _ (tb_c tw_3_114)) (fun _ h9 => h9) rfl dX4_literal_52 ?_
          refine va_put (ci := 4) (v := .int (u.1 4)) (ty := .int) (C := RX4) (T := TX4) (N := 22) hx hb hts (ivX4 _) tyX4 tyX4_ok nmX4 hown hK hP hD hS 0 rfl rfl 13 (by decide) (hts _ (tb_c tw_3_114)) (fun _ h9 => h9) rfl (by decide +kernel) rfl rfl (Nat.le_of_ble_eq_true rfl) dX4_literal_55 (fun H locs hP hD hS => ?_)
          have hP : va_P D vwCl (wM am cI cZ (sS (sA u 9 x3 x2) 4 (u.1 4))) H := hP
          have hD : va_D A (wM am cI cZ (sS (sA u 9 x3 x2) 4 (u.1 4))) := hD
          refine lv_iconst (v := 2) hx hb dX4_literal_58 (by decide) ?_
          refine lv_aload_n hx hb dX4_literal_59 rfl (lv_at hl 0 rfl) ?_
          refine va_get (ci := 4) (v := .int (u.1 3)) (C := RX4) (T := TX4) (N := 22) hx hb hts (ivX4 _) hown hK hP 0 rfl rfl 9 (by decide) (hts _ (tb_c tw_3_110)) (fun _ h9 => h9) rfl dX4_literal_60 ?_
          refine lv_imul hx hb dX4_literal_63 ?_
          refine lv_iconst (v := 4) hx hb dX4_literal_64 (by decide) ?_
          refine lv_iadd hx hb dX4_literal_65 ?_
          refine lv_istore (lv' := [(4, .int ((2 * (u.1 3)) + 4)), (0, .ref (am 0)), (1, .int x1), (2, .int x2), (3, .int x3)]) hx hb dX4_literal_66 hl (by decide) rfl (fun ls hl => ?_)
          refine lv_iload hx hb dX4_literal_68 (lv_at hl 0 rfl) ?_
          refine lv_iconst (v := 4) hx hb dX4_literal_70 (by decide) ?_
          refine lv_irem hx hb dX4_literal_71 (by decide) ?_
          refine lv_if_ne (tgt := 80) hx hb dX4_literal_72 (by decide) (fun c_18 => ?_) (fun c_18 => ?_)
          · have hok := hok.2 c_18
            refine lv_iload hx hb dX4_literal_80 (lv_at hl 0 rfl) ?_
            refine lv_iconst (v := 2) hx hb dX4_literal_82 (by decide) ?_
            refine lv_isub hx hb dX4_literal_83 ?_
            refine lv_istore (lv' := [(4, .int (((2 * (u.1 3)) + 4) - 2)), (0, .ref (am 0)), (1, .int x1), (2, .int x2), (3, .int x3)]) hx hb dX4_literal_84 hl (by decide) rfl (fun ls hl => ?_)
            refine lv_aload_n hx hb dX4_literal_86 rfl (lv_at hl 1 rfl) ?_
            refine lv_sipush (v := 18432) hx hb dX4_literal_87 (by decide) ?_
            refine lv_sipush (v := 256) hx hb dX4_literal_90 (by decide) ?_
            refine lv_iload_n hx hb dX4_literal_93 rfl (lv_at hl 2 rfl) ?_
            refine lv_imul hx hb dX4_literal_94 ?_
            refine lv_iadd hx hb dX4_literal_95 ?_
            refine lv_iconst (v := 2) hx hb dX4_literal_96 (by decide) ?_
            refine lv_aload_n hx hb dX4_literal_97 rfl (lv_at hl 1 rfl) ?_
            refine va_get (ci := 4) (v := .int (u.1 5)) (C := RX4) (T := TX4) (N := 22) hx hb hts (ivX4 _) hown hK hP 0 rfl rfl 15 (by decide) (hts _ (tb_c tw_3_116)) (fun _ h9 => h9) rfl dX4_literal_98 ?_
            refine lv_imul hx hb dX4_literal_101 ?_
            refine lv_iconst (v := 4) hx hb dX4_literal_102 (by decide) ?_
            refine lv_iload_n hx hb dX4_literal_103 rfl (lv_at hl 4 rfl) ?_
            refine lv_imul hx hb dX4_literal_104 ?_
            refine lv_iadd hx hb dX4_literal_105 ?_
            refine lv_iload hx hb dX4_literal_106 (lv_at hl 0 rfl) ?_
            refine lv_isub hx hb dX4_literal_108 ?_
            refine lv_iconst (v := 4) hx hb dX4_literal_109 (by decide) ?_
            refine lv_idiv hx hb dX4_literal_110 (by decide) ?_
            refine lv_iadd hx hb dX4_literal_111 ?_
            obtain ⟨h_19, hok⟩ := hok
            refine k_callVv (As := [.int ((18432 + (256 * x1)) + ((((2 * (u.1 5)) + (4 * x3)) - (((2 * (u.1 3)) + 4) - 2)) / 4))]) (rest := []) hzz ⟨hx, hb, hml, hown, hts⟩ (c_m_emit l D am cI cZ zz hzz (sS (sA u 9 x3 x2) 4 (u.1 4)) ((18432 + (256 * x1)) + ((((2 * (u.1 5)) + (4 * x3)) - (((2 * (u.1 3)) + 4) - 2)) / 4)) h_19) (cwV 1 hts (tb_V tw_4_19 tw_4_21 slX4_emit tw_1_5 tw_4_22) rfl rfl rfl (by decide +kernel) ⟨Nat.le_of_ble_eq_true rfl, Nat.le_of_ble_eq_true rfl⟩) (va_recv hK hP (ci := 4) (q0 := 0) rfl rfl) rfl hl.1 rfl (lv_room (Nat.le_of_ble_eq_true rfl)) dX4_literal_112 ⟨Nat.le_of_ble_eq_true rfl, Nat.le_of_ble_eq_true rfl⟩ hP hK hD hS hA hZ (fun H locs hP hD hS => ?_)
            generalize eu_20 : p_m_emit (sS (sA u 9 x3 x2) 4 (u.1 4)) ((18432 + (256 * x1)) + ((((2 * (u.1 5)) + (4 * x3)) - (((2 * (u.1 3)) + 4) - 2)) / 4)) = u_20 at hP hD ⊢
            try rw [eu_20] at hok
            have e9 : p_m_literal_2 (n + 1) u x1 x2 x3 = u_20 := by
              subst eu_20
              rw [p_m_literal_2, if_neg c_1, if_pos c_15, if_neg c_17, if_neg c_18]
            rw [e9]
            exact W.vret hx hb hr (fun t ht hW => ⟨⟨(), rfl, trivial, by rw [ht]; exact hP, va_K.moved hW.alike hK, hD⟩, hS.F ht⟩) hS.2.2 dX4_literal_115
          · have hok := hok.1 c_18
            refine lv_iload hx hb dX4_literal_75 (lv_at hl 0 rfl) ?_
            refine lv_goto (tgt := 84) hx hb dX4_literal_77 (by decide) ?_
            refine lv_istore (lv' := [(4, .int ((2 * (u.1 3)) + 4)), (0, .ref (am 0)), (1, .int x1), (2, .int x2), (3, .int x3)]) hx hb dX4_literal_84 hl (by decide) rfl (fun ls hl => ?_)
            refine lv_aload_n hx hb dX4_literal_86 rfl (lv_at hl 1 rfl) ?_
            refine lv_sipush (v := 18432) hx hb dX4_literal_87 (by decide) ?_
            refine lv_sipush (v := 256) hx hb dX4_literal_90 (by decide) ?_
            refine lv_iload_n hx hb dX4_literal_93 rfl (lv_at hl 2 rfl) ?_
            refine lv_imul hx hb dX4_literal_94 ?_
            refine lv_iadd hx hb dX4_literal_95 ?_
            refine lv_iconst (v := 2) hx hb dX4_literal_96 (by decide) ?_
            refine lv_aload_n hx hb dX4_literal_97 rfl (lv_at hl 1 rfl) ?_
            refine va_get (ci := 4) (v := .int (u.1 5)) (C := RX4) (T := TX4) (N := 22) hx hb hts (ivX4 _) hown hK hP 0 rfl rfl 15 (by decide) (hts _ (tb_c tw_3_116)) (fun _ h9 => h9) rfl dX4_literal_98 ?_
            refine lv_imul hx hb dX4_literal_101 ?_
            refine lv_iconst (v := 4) hx hb dX4_literal_102 (by decide) ?_
            refine lv_iload_n hx hb dX4_literal_103 rfl (lv_at hl 4 rfl) ?_
            refine lv_imul hx hb dX4_literal_104 ?_
            refine lv_iadd hx hb dX4_literal_105 ?_
            refine lv_iload hx hb dX4_literal_106 (lv_at hl 0 rfl) ?_
            refine lv_isub hx hb dX4_literal_108 ?_
            refine lv_iconst (v := 4) hx hb dX4_literal_109 (by decide) ?_
            refine lv_idiv hx hb dX4_literal_110 (by decide) ?_
            refine lv_iadd hx hb dX4_literal_111 ?_
            obtain ⟨h_21, hok⟩ := hok
            refine k_callVv (As := [.int ((18432 + (256 * x1)) + ((((2 * (u.1 5)) + (4 * x3)) - ((2 * (u.1 3)) + 4)) / 4))]) (rest := []) hzz ⟨hx, hb, hml, hown, hts⟩ (c_m_emit l D am cI cZ zz hzz (sS (sA u 9 x3 x2) 4 (u.1 4)) ((18432 + (256 * x1)) + ((((2 * (u.1 5)) + (4 * x3)) - ((2 * (u.1 3)) + 4)) / 4)) h_21) (cwV 1 hts (tb_V tw_4_19 tw_4_21 slX4_emit tw_1_5 tw_4_22) rfl rfl rfl (by decide +kernel) ⟨Nat.le_of_ble_eq_true rfl, Nat.le_of_ble_eq_true rfl⟩) (va_recv hK hP (ci := 4) (q0 := 0) rfl rfl) rfl hl.1 rfl (lv_room (Nat.le_of_ble_eq_true rfl)) dX4_literal_112 ⟨Nat.le_of_ble_eq_true rfl, Nat.le_of_ble_eq_true rfl⟩ hP hK hD hS hA hZ (fun H locs hP hD hS => ?_)
            generalize eu_22 : p_m_emit (sS (sA u 9 x3 x2) 4 (u.1 4)) ((18432 + (256 * x1)) + ((((2 * (u.1 5)) + (4 * x3)) - ((2 * (u.1 3)) + 4)) / 4)) = u_22 at hP hD ⊢
            try rw [eu_22] at hok
            have e9 : p_m_literal_2 (n + 1) u x1 x2 x3 = u_22 := by
              subst eu_22
              rw [p_m_literal_2, if_neg c_1, if_pos c_15, if_neg c_17, if_pos c_18]
            rw [e9]
            exact W.vret hx hb hr (fun t ht hW => ⟨⟨(), rfl, trivial, by rw [ht]; exact hP, va_K.moved hW.alike hK, hD⟩, hS.F ht⟩) hS.2.2 dX4_literal_115
        · have hok := hok.1 c_17
          refine lv_aload_n hx hb dX4_literal_42 rfl (lv_at hl 0 rfl) ?_
          refine va_get (ci := 4) (v := .int (u.1 4)) (C := RX4) (T := TX4) (N := 22) hx hb hts (ivX4 _) hown hK hP 0 rfl rfl 13 (by decide) (hts _ (tb_c tw_3_114)) (fun _ h9 => h9) rfl dX4_literal_43 ?_
          refine lv_iconst (v := 1) hx hb dX4_literal_46 (by decide) ?_
          refine lv_iadd hx hb dX4_literal_47 ?_
          refine lv_goto (tgt := 55) hx hb dX4_literal_48 (by decide) ?_
          refine va_put (ci := 4) (v := .int ((u.1 4) + 1)) (ty := .int) (C := RX4) (T := TX4) (N := 22) hx hb hts (ivX4 _) tyX4 tyX4_ok nmX4 hown hK hP hD hS 0 rfl rfl 13 (by decide) (hts _ (tb_c tw_3_114)) (fun _ h9 => h9) rfl (by decide +kernel) rfl rfl (Nat.le_of_ble_eq_true rfl) dX4_literal_55 (fun H locs hP hD hS => ?_)
          have hP : va_P D vwCl (wM am cI cZ (sS (sA u 9 x3 x2) 4 ((u.1 4) + 1))) H := hP
          have hD : va_D A (wM am cI cZ (sS (sA u 9 x3 x2) 4 ((u.1 4) + 1))) := hD
          refine lv_iconst (v := 2) hx hb dX4_literal_58 (by decide) ?_
          refine lv_aload_n hx hb dX4_literal_59 rfl (lv_at hl 0 rfl) ?_
          refine va_get (ci := 4) (v := .int (u.1 3)) (C := RX4) (T := TX4) (N := 22) hx hb hts (ivX4 _) hown hK hP 0 rfl rfl 9 (by decide) (hts _ (tb_c tw_3_110)) (fun _ h9 => h9) rfl dX4_literal_60 ?_
          refine lv_imul hx hb dX4_literal_63 ?_
          refine lv_iconst (v := 4) hx hb dX4_literal_64 (by decide) ?_
          refine lv_iadd hx hb dX4_literal_65 ?_
          refine lv_istore (lv' := [(4, .int ((2 * (u.1 3)) + 4)), (0, .ref (am 0)), (1, .int x1), (2, .int x2), (3, .int x3)]) hx hb dX4_literal_66 hl (by decide) rfl (fun ls hl => ?_)
          refine lv_iload hx hb dX4_literal_68 (lv_at hl 0 rfl) ?_
          refine lv_iconst (v := 4) hx hb dX4_literal_70 (by decide) ?_
          refine lv_irem hx hb dX4_literal_71 (by decide) ?_
          refine lv_if_ne (tgt := 80) hx hb dX4_literal_72 (by decide) (fun c_23 => ?_) (fun c_23 => ?_)
          · have hok := hok.2 c_23
            refine lv_iload hx hb dX4_literal_80 (lv_at hl 0 rfl) ?_
            refine lv_iconst (v := 2) hx hb dX4_literal_82 (by decide) ?_
            refine lv_isub hx hb dX4_literal_83 ?_
            refine lv_istore (lv' := [(4, .int (((2 * (u.1 3)) + 4) - 2)), (0, .ref (am 0)), (1, .int x1), (2, .int x2), (3, .int x3)]) hx hb dX4_literal_84 hl (by decide) rfl (fun ls hl => ?_)
            refine lv_aload_n hx hb dX4_literal_86 rfl (lv_at hl 1 rfl) ?_
            refine lv_sipush (v := 18432) hx hb dX4_literal_87 (by decide) ?_
            refine lv_sipush (v := 256) hx hb dX4_literal_90 (by decide) ?_
            refine lv_iload_n hx hb dX4_literal_93 rfl (lv_at hl 2 rfl) ?_
            refine lv_imul hx hb dX4_literal_94 ?_
            refine lv_iadd hx hb dX4_literal_95 ?_
            refine lv_iconst (v := 2) hx hb dX4_literal_96 (by decide) ?_
            refine lv_aload_n hx hb dX4_literal_97 rfl (lv_at hl 1 rfl) ?_
            refine va_get (ci := 4) (v := .int (u.1 5)) (C := RX4) (T := TX4) (N := 22) hx hb hts (ivX4 _) hown hK hP 0 rfl rfl 15 (by decide) (hts _ (tb_c tw_3_116)) (fun _ h9 => h9) rfl dX4_literal_98 ?_
            refine lv_imul hx hb dX4_literal_101 ?_
            refine lv_iconst (v := 4) hx hb dX4_literal_102 (by decide) ?_
            refine lv_iload_n hx hb dX4_literal_103 rfl (lv_at hl 4 rfl) ?_
            refine lv_imul hx hb dX4_literal_104 ?_
            refine lv_iadd hx hb dX4_literal_105 ?_
            refine lv_iload hx hb dX4_literal_106 (lv_at hl 0 rfl) ?_
            refine lv_isub hx hb dX4_literal_108 ?_
            refine lv_iconst (v := 4) hx hb dX4_literal_109 (by decide) ?_
            refine lv_idiv hx hb dX4_literal_110 (by decide) ?_
            refine lv_iadd hx hb dX4_literal_111 ?_
            obtain ⟨h_24, hok⟩ := hok
            refine k_callVv (As := [.int ((18432 + (256 * x1)) + ((((2 * (u.1 5)) + (4 * x3)) - (((2 * (u.1 3)) + 4) - 2)) / 4))]) (rest := []) hzz ⟨hx, hb, hml, hown, hts⟩ (c_m_emit l D am cI cZ zz hzz (sS (sA u 9 x3 x2) 4 ((u.1 4) + 1)) ((18432 + (256 * x1)) + ((((2 * (u.1 5)) + (4 * x3)) - (((2 * (u.1 3)) + 4) - 2)) / 4)) h_24) (cwV 1 hts (tb_V tw_4_19 tw_4_21 slX4_emit tw_1_5 tw_4_22) rfl rfl rfl (by decide +kernel) ⟨Nat.le_of_ble_eq_true rfl, Nat.le_of_ble_eq_true rfl⟩) (va_recv hK hP (ci := 4) (q0 := 0) rfl rfl) rfl hl.1 rfl (lv_room (Nat.le_of_ble_eq_true rfl)) dX4_literal_112 ⟨Nat.le_of_ble_eq_true rfl, Nat.le_of_ble_eq_true rfl⟩ hP hK hD hS hA hZ (fun H locs hP hD hS => ?_)
            generalize eu_25 : p_m_emit (sS (sA u 9 x3 x2) 4 ((u.1 4) + 1)) ((18432 + (256 * x1)) + ((((2 * (u.1 5)) + (4 * x3)) - (((2 * (u.1 3)) + 4) - 2)) / 4)) = u_25 at hP hD ⊢
            try rw [eu_25] at hok
            have e9 : p_m_literal_2 (n + 1) u x1 x2 x3 = u_25 := by
              subst eu_25
              rw [p_m_literal_2, if_neg c_1, if_pos c_15, if_pos c_17, if_neg c_23]
            rw [e9]
            exact W.vret hx hb hr (fun t ht hW => ⟨⟨(), rfl, trivial, by rw [ht]; exact hP, va_K.moved hW.alike hK, hD⟩, hS.F ht⟩) hS.2.2 dX4_literal_115
          · have hok := hok.1 c_23
            refine lv_iload hx hb dX4_literal_75 (lv_at hl 0 rfl) ?_
            refine lv_goto (tgt := 84) hx hb dX4_literal_77 (by decide) ?_
            refine lv_istore (lv' := [(4, .int ((2 * (u.1 3)) + 4)), (0, .ref (am 0)), (1, .int x1), (2, .int x2), (3, .int x3)]) hx hb dX4_literal_84 hl (by decide) rfl (fun ls hl => ?_)
            refine lv_aload_n hx hb dX4_literal_86 rfl (lv_at hl 1 rfl) ?_
            refine lv_sipush (v := 18432) hx hb dX4_literal_87 (by decide) ?_
            refine lv_sipush (v := 256) hx hb dX4_literal_90 (by decide) ?_
            refine lv_iload_n hx hb dX4_literal_93 rfl (lv_at hl 2 rfl) ?_
            refine lv_imul hx hb dX4_literal_94 ?_
            refine lv_iadd hx hb dX4_literal_95 ?_
            refine lv_iconst (v := 2) hx hb dX4_literal_96 (by decide) ?_
            refine lv_aload_n hx hb dX4_literal_97 rfl (lv_at hl 1 rfl) ?_
            refine va_get (ci := 4) (v := .int (u.1 5)) (C := RX4) (T := TX4) (N := 22) hx hb hts (ivX4 _) hown hK hP 0 rfl rfl 15 (by decide) (hts _ (tb_c tw_3_116)) (fun _ h9 => h9) rfl dX4_literal_98 ?_
            refine lv_imul hx hb dX4_literal_101 ?_
            refine lv_iconst (v := 4) hx hb dX4_literal_102 (by decide) ?_
            refine lv_iload_n hx hb dX4_literal_103 rfl (lv_at hl 4 rfl) ?_
            refine lv_imul hx hb dX4_literal_104 ?_
            refine lv_iadd hx hb dX4_literal_105 ?_
            refine lv_iload hx hb dX4_literal_106 (lv_at hl 0 rfl) ?_
            refine lv_isub hx hb dX4_literal_108 ?_
            refine lv_iconst (v := 4) hx hb dX4_literal_109 (by decide) ?_
            refine lv_idiv hx hb dX4_literal_110 (by decide) ?_
            refine lv_iadd hx hb dX4_literal_111 ?_
            obtain ⟨h_26, hok⟩ := hok
            refine k_callVv (As := [.int ((18432 + (256 * x1)) + ((((2 * (u.1 5)) + (4 * x3)) - ((2 * (u.1 3)) + 4)) / 4))]) (rest := []) hzz ⟨hx, hb, hml, hown, hts⟩ (c_m_emit l D am cI cZ zz hzz (sS (sA u 9 x3 x2) 4 ((u.1 4) + 1)) ((18432 + (256 * x1)) + ((((2 * (u.1 5)) + (4 * x3)) - ((2 * (u.1 3)) + 4)) / 4)) h_26) (cwV 1 hts (tb_V tw_4_19 tw_4_21 slX4_emit tw_1_5 tw_4_22) rfl rfl rfl (by decide +kernel) ⟨Nat.le_of_ble_eq_true rfl, Nat.le_of_ble_eq_true rfl⟩) (va_recv hK hP (ci := 4) (q0 := 0) rfl rfl) rfl hl.1 rfl (lv_room (Nat.le_of_ble_eq_true rfl)) dX4_literal_112 ⟨Nat.le_of_ble_eq_true rfl, Nat.le_of_ble_eq_true rfl⟩ hP hK hD hS hA hZ (fun H locs hP hD hS => ?_)
            generalize eu_27 : p_m_emit (sS (sA u 9 x3 x2) 4 ((u.1 4) + 1)) ((18432 + (256 * x1)) + ((((2 * (u.1 5)) + (4 * x3)) - ((2 * (u.1 3)) + 4)) / 4)) = u_27 at hP hD ⊢
            try rw [eu_27] at hok
            have e9 : p_m_literal_2 (n + 1) u x1 x2 x3 = u_27 := by
              subst eu_27
              rw [p_m_literal_2, if_neg c_1, if_pos c_15, if_pos c_17, if_pos c_23]
            rw [e9]
            exact W.vret hx hb hr (fun t ht hW => ⟨⟨(), rfl, trivial, by rw [ht]; exact hP, va_K.moved hW.alike hK, hD⟩, hS.F ht⟩) hS.2.2 dX4_literal_115
      · have hok := hok.2 c_15
        refine lv_iinc (v := x3 + 1) (lv' := [(3, .int (x3 + 1)), (0, .ref (am 0)), (1, .int x1), (2, .int x2)]) hx hb dX4_literal_20 hl (k := 3) rfl rfl (by decide) rfl (fun ls hl => ?_)
        refine lv_goto (tgt := 2) hx hb dX4_literal_23 (by decide) ?_
        have e9 : p_m_literal_2 (n + 1) u x1 x2 x3 = p_m_literal_2 n u x1 x2 (x3 + 1) := by rw [p_m_literal_2, if_neg c_1, if_neg c_15]
        rw [e9]
        exact ih u x1 x2 (x3 + 1) _ _ _ hok hP hD hS (lv_sub hl [1, 2, 3, 0] rfl)
def p_m_literal (u : St) (x1 x2 : Int32) : St := p_m_literal_2 64 u x1 x2 0
def ok_m_literal (u : St) (x1 x2 : Int32) : Prop := ok_m_literal_2 64 u x1 x2 0
set_option maxHeartbeats 4000000 in
set_option maxRecDepth 100000 in
theorem c_m_literal (l : Launch) (D : va_G) (am : Nat → Nat) (cI cZ : ClassId) (zz : (Nat → Prop) → State → Heap → Prop) (hzz : Zok zz) (u : St) (x1 x2 : Int32) (hok : ok_m_literal u x1 x2) : tfV l D vwCl (tyT cI cZ) zz yX4_literal wsX4_literal ({ frames := 1, cells := 0, slots := 0, locals := 21 } : Room) [.ref (am 0), .int x1, .int x2] (wM am cI cZ u) (wM am cI cZ (p_m_literal u x1 x2)) := by
  intro sz
  unfold ok_m_literal at hok
  refine Met.ofW (cc := cX4_literal) (maxL := 5) (ret := none) (by decide) rfl ?_
  intro p e s m args below meth c s₁ B hml hv
  obtain ⟨rfl, hsz, hP, hK, hD0, hZ⟩ := hv
  have hx := B.exec
  have hb := B.bytes
  have hr := B.returns
  have hts := atoms_spec (ws := wsX4_literal) B.pre
  have hown : s.vm.findClass RX4 = some m.cls := findClass_of_methodNamed B.named
  have hlocks := B.notSynchronized
  subst hsz
  have hD := hD0.self (sz := s.heap.size)
  generalize hAe : va_A (wM am cI cZ u) s.heap.size = A at hD hZ ⊢
  have hA : ∀ q : Nat, s.heap.size ≤ q → A q := fun q h => by rw [← hAe]; exact Or.inr h
  have hS : va_S A s.heap s.heap [] := va_S.rf
  have Cx : cxt p s m ([.ref (am 0), .int x1, .int x2] : List Value).toArray meth c cX4_literal 5 none wsX4_literal RX4 D vwCl (tyT cI cZ) zz A := ⟨hx, hb, hr, hts, hown, hlocks, hml, hK, hA, hZ⟩
  have hl := lv_entry ([.ref (am 0), .int x1, .int x2]) (n := 5) (Nat.le_of_ble_eq_true rfl)
  rw [lg_entry_eq]
  generalize (lg_sl ([.ref (am 0), .int x1, .int x2]) ++ List.replicate (5 - (lg_sl ([.ref (am 0), .int x1, .int x2])).length) Slot.unset).toArray = ls at hl ⊢
  have hl : lv_has ls 5 [(0, .ref (am 0)), (1, .int x1), (2, .int x2)] := hl
  refine lv_iconst (v := 0) hx hb dX4_literal_0 (by decide) ?_
  refine lv_istore_n (lv' := [(3, .int 0), (0, .ref (am 0)), (1, .int x1), (2, .int x2)]) hx hb dX4_literal_1 rfl hl (by decide) rfl (fun ls hl => ?_)
  have e9 : p_m_literal u x1 x2 = p_m_literal_2 64 u x1 x2 0 := by rw [p_m_literal]
  rw [e9]
  exact w_m_literal_2 am cI cZ zz hzz Cx 64 u x1 x2 0 _ _ _ hok hP hD hS (lv_sub hl [1, 2, 3, 0] rfl)

def p_m_make (u : St) (x1 x2 : Int32) : St := (if x2 < 0 then (if 0 ≤ x2 then (if (p_m_shiftOf x2) ≤ 0 then (p_m_literal u x1 x2) else (p_m_emit (p_m_emit u ((8192 + (256 * x1)) + (ush x2 (p_m_shiftOf x2)))) ((64 * (p_m_shiftOf x2)) + (9 * x1)))) else (if x2 < ((-256)) then (if (p_m_shiftOf x2) ≤ 0 then (p_m_literal u x1 x2) else (p_m_emit (p_m_emit u ((8192 + (256 * x1)) + (ush x2 (p_m_shiftOf x2)))) ((64 * (p_m_shiftOf x2)) + (9 * x1)))) else (p_m_emit (p_m_emit u (((8192 + (256 * x1)) - 1) - x2)) (17344 + (9 * x1))))) else (if 255 < x2 then (if 0 ≤ x2 then (if (p_m_shiftOf x2) ≤ 0 then (p_m_literal u x1 x2) else (p_m_emit (p_m_emit u ((8192 + (256 * x1)) + (ush x2 (p_m_shiftOf x2)))) ((64 * (p_m_shiftOf x2)) + (9 * x1)))) else (if x2 < ((-256)) then (if (p_m_shiftOf x2) ≤ 0 then (p_m_literal u x1 x2) else (p_m_emit (p_m_emit u ((8192 + (256 * x1)) + (ush x2 (p_m_shiftOf x2)))) ((64 * (p_m_shiftOf x2)) + (9 * x1)))) else (p_m_emit (p_m_emit u (((8192 + (256 * x1)) - 1) - x2)) (17344 + (9 * x1))))) else (p_m_emit u ((8192 + (256 * x1)) + x2))))
def ok_m_make (u : St) (x1 x2 : Int32) : Prop := (ok_m_shiftOf x2 ∧ ((x2 < 0 → ((0 ≤ x2 → (((p_m_shiftOf x2) ≤ 0 → (ok_m_literal u x1 x2 ∧ True)) ∧ (¬ (p_m_shiftOf x2) ≤ 0 → (ok_m_emit u ((8192 + (256 * x1)) + (ush x2 (p_m_shiftOf x2))) ∧ (ok_m_emit (p_m_emit u ((8192 + (256 * x1)) + (ush x2 (p_m_shiftOf x2)))) ((64 * (p_m_shiftOf x2)) + (9 * x1)) ∧ True))))) ∧ (¬ 0 ≤ x2 → ((x2 < ((-256)) → (((p_m_shiftOf x2) ≤ 0 → (ok_m_literal u x1 x2 ∧ True)) ∧ (¬ (p_m_shiftOf x2) ≤ 0 → (ok_m_emit u ((8192 + (256 * x1)) + (ush x2 (p_m_shiftOf x2))) ∧ (ok_m_emit (p_m_emit u ((8192 + (256 * x1)) + (ush x2 (p_m_shiftOf x2)))) ((64 * (p_m_shiftOf x2)) + (9 * x1)) ∧ True))))) ∧ (¬ x2 < ((-256)) → (ok_m_emit u (((8192 + (256 * x1)) - 1) - x2) ∧ (ok_m_emit (p_m_emit u (((8192 + (256 * x1)) - 1) - x2)) (17344 + (9 * x1)) ∧ True))))))) ∧ (¬ x2 < 0 → ((255 < x2 → ((0 ≤ x2 → (((p_m_shiftOf x2) ≤ 0 → (ok_m_literal u x1 x2 ∧ True)) ∧ (¬ (p_m_shiftOf x2) ≤ 0 → (ok_m_emit u ((8192 + (256 * x1)) + (ush x2 (p_m_shiftOf x2))) ∧ (ok_m_emit (p_m_emit u ((8192 + (256 * x1)) + (ush x2 (p_m_shiftOf x2)))) ((64 * (p_m_shiftOf x2)) + (9 * x1)) ∧ True))))) ∧ (¬ 0 ≤ x2 → ((x2 < ((-256)) → (((p_m_shiftOf x2) ≤ 0 → (ok_m_literal u x1 x2 ∧ True)) ∧ (¬ (p_m_shiftOf x2) ≤ 0 → (ok_m_emit u ((8192 + (256 * x1)) + (ush x2 (p_m_shiftOf x2))) ∧ (ok_m_emit (p_m_emit u ((8192 + (256 * x1)) + (ush x2 (p_m_shiftOf x2)))) ((64 * (p_m_shiftOf x2)) + (9 * x1)) ∧ True))))) ∧ (¬ x2 < ((-256)) → (ok_m_emit u (((8192 + (256 * x1)) - 1) - x2) ∧ (ok_m_emit (p_m_emit u (((8192 + (256 * x1)) - 1) - x2)) (17344 + (9 * x1)) ∧ True))))))) ∧ (¬ 255 < x2 → (ok_m_emit u ((8192 + (256 * x1)) + x2) ∧ True))))))
set_option maxHeartbeats 4000000 in
set_option maxRecDepth 100000 in
theorem c_m_make (l : Launch) (D : va_G) (am : Nat → Nat) (cI cZ : ClassId) (zz : (Nat → Prop) → State → Heap → Prop) (hzz : Zok zz) (u : St) (x1 x2 : Int32) (hok : ok_m_make u x1 x2) : tfV l D vwCl (tyT cI cZ) zz yX4_make wsX4_make ({ frames := 2, cells := 0, slots := 0, locals := 45 } : Room) [.ref (am 0), .int x1, .int x2] (wM am cI cZ u) (wM am cI cZ (p_m_make u x1 x2)) := by
  intro sz
  unfold ok_m_make at hok
  refine Met.ofW (cc := cX4_make) (maxL := 4) (ret := none) (by decide) rfl ?_
  intro p e s m args below meth c s₁ B hml hv
  obtain ⟨rfl, hsz, hP, hK, hD0, hZ⟩ := hv
  have hx := B.exec
  have hb := B.bytes
  have hr := B.returns
  have hts := atoms_spec (ws := wsX4_make) B.pre
  have hown : s.vm.findClass RX4 = some m.cls := findClass_of_methodNamed B.named
  have hlocks := B.notSynchronized
  subst hsz
  have hD := hD0.self (sz := s.heap.size)
  generalize hAe : va_A (wM am cI cZ u) s.heap.size = A at hD hZ ⊢
  have hA : ∀ q : Nat, s.heap.size ≤ q → A q := fun q h => by rw [← hAe]; exact Or.inr h
  have hS : va_S A s.heap s.heap [] := va_S.rf
  have Cx : cxt p s m ([.ref (am 0), .int x1, .int x2] : List Value).toArray meth c cX4_make 4 none wsX4_make RX4 D vwCl (tyT cI cZ) zz A := ⟨hx, hb, hr, hts, hown, hlocks, hml, hK, hA, hZ⟩
  have hl := lv_entry ([.ref (am 0), .int x1, .int x2]) (n := 4) (Nat.le_of_ble_eq_true rfl)
  rw [lg_entry_eq]
  generalize (lg_sl ([.ref (am 0), .int x1, .int x2]) ++ List.replicate (4 - (lg_sl ([.ref (am 0), .int x1, .int x2])).length) Slot.unset).toArray = ls at hl ⊢
  have hl : lv_has ls 4 [(0, .ref (am 0)), (1, .int x1), (2, .int x2)] := hl
  refine lv_iload_n hx hb dX4_make_0 rfl (lv_at hl 2 rfl) ?_
  obtain ⟨h_1, hok⟩ := hok
  refine k_callSi (As := [.int x2]) (rest := []) hzz ⟨hx, hb, hml, hown, hts⟩ (c_m_shiftOf l D am cI cZ zz hzz (wM am cI cZ u) x2 h_1) (cwS 1 hts (tb_S tw_4_4 tw_4_5 tw_1_5 tw_4_6) rfl rfl rfl (by decide +kernel) ⟨Nat.le_of_ble_eq_true rfl, Nat.le_of_ble_eq_true rfl⟩) rfl hl.1 rfl (lv_room (Nat.le_of_ble_eq_true rfl)) dX4_make_1 ⟨Nat.le_of_ble_eq_true rfl, Nat.le_of_ble_eq_true rfl⟩ hP hK hD hS hA hZ (fun H locs hP hD hS => ?_)
  refine lv_istore_n (lv' := [(3, .int (p_m_shiftOf x2)), (0, .ref (am 0)), (1, .int x1), (2, .int x2)]) hx hb dX4_make_4 rfl hl (by decide) rfl (fun ls hl => ?_)
  refine lv_iload_n hx hb dX4_make_5 rfl (lv_at hl 3 rfl) ?_
  refine lv_if_lt (tgt := 34) hx hb dX4_make_6 (by decide) (fun c_2 => ?_) (fun c_2 => ?_)
  · have hok := hok.1 c_2
    refine lv_iload_n hx hb dX4_make_34 rfl (lv_at hl 3 rfl) ?_
    refine lv_if_ge (tgt := 77) hx hb dX4_make_35 (by decide) (fun c_3 => ?_) (fun c_3 => ?_)
    · have hok := hok.1 c_3
      refine lv_iload_n hx hb dX4_make_77 rfl (lv_at hl 0 rfl) ?_
      refine lv_if_le (tgt := 114) hx hb dX4_make_78 (by decide) (fun c_4 => ?_) (fun c_4 => ?_)
      · have hok := hok.1 c_4
        refine lv_aload_n hx hb dX4_make_114 rfl (lv_at hl 1 rfl) ?_
        refine lv_iload_n hx hb dX4_make_115 rfl (lv_at hl 2 rfl) ?_
        refine lv_iload_n hx hb dX4_make_116 rfl (lv_at hl 3 rfl) ?_
        obtain ⟨h_5, hok⟩ := hok
        refine k_callVv (As := [.int x1, .int x2]) (rest := []) hzz ⟨hx, hb, hml, hown, hts⟩ (c_m_literal l D am cI cZ zz hzz u x1 x2 h_5) (cwV 2 hts (tb_V tw_4_15 tw_4_17 slX4_literal tw_1_5 tw_4_18) rfl rfl rfl (by decide +kernel) ⟨Nat.le_of_ble_eq_true rfl, Nat.le_of_ble_eq_true rfl⟩) (va_recv hK hP (ci := 4) (q0 := 0) rfl rfl) rfl hl.1 rfl (lv_room (Nat.le_of_ble_eq_true rfl)) dX4_make_117 ⟨Nat.le_of_ble_eq_true rfl, Nat.le_of_ble_eq_true rfl⟩ hP hK hD hS hA hZ (fun H locs hP hD hS => ?_)
        generalize eu_6 : p_m_literal u x1 x2 = u_6 at hP hD ⊢
        try rw [eu_6] at hok
        have e9 : p_m_make u x1 x2 = u_6 := by
          subst eu_6
          rw [p_m_make, if_pos c_2, if_pos c_3, if_pos c_4]
        rw [e9]
        exact W.vret hx hb hr (fun t ht hW => ⟨⟨(), rfl, trivial, by rw [ht]; exact hP, va_K.moved hW.alike hK, hD⟩, hS.F ht⟩) hS.2.2 dX4_make_120
      · have hok := hok.2 c_4
        refine lv_aload_n hx hb dX4_make_81 rfl (lv_at hl 1 rfl) ?_
        refine lv_sipush (v := 8192) hx hb dX4_make_82 (by decide) ?_
        refine lv_sipush (v := 256) hx hb dX4_make_85 (by decide) ?_
        refine lv_iload_n hx hb dX4_make_88 rfl (lv_at hl 2 rfl) ?_
        refine lv_imul hx hb dX4_make_89 ?_
        refine lv_iadd hx hb dX4_make_90 ?_
        refine lv_iload_n hx hb dX4_make_91 rfl (lv_at hl 3 rfl) ?_
        refine lv_iload_n hx hb dX4_make_92 rfl (lv_at hl 0 rfl) ?_
        refine lv_iushr (v := ush x2 (p_m_shiftOf x2)) hx hb dX4_make_93 rfl ?_
        refine lv_iadd hx hb dX4_make_94 ?_
        obtain ⟨h_7, hok⟩ := hok
        refine k_callVv (As := [.int ((8192 + (256 * x1)) + (ush x2 (p_m_shiftOf x2)))]) (rest := []) hzz ⟨hx, hb, hml, hown, hts⟩ (c_m_emit l D am cI cZ zz hzz u ((8192 + (256 * x1)) + (ush x2 (p_m_shiftOf x2))) h_7) (cwV 1 hts (tb_V tw_4_19 tw_4_21 slX4_emit tw_1_5 tw_4_22) rfl rfl rfl (by decide +kernel) ⟨Nat.le_of_ble_eq_true rfl, Nat.le_of_ble_eq_true rfl⟩) (va_recv hK hP (ci := 4) (q0 := 0) rfl rfl) rfl hl.1 rfl (lv_room (Nat.le_of_ble_eq_true rfl)) dX4_make_95 ⟨Nat.le_of_ble_eq_true rfl, Nat.le_of_ble_eq_true rfl⟩ hP hK hD hS hA hZ (fun H locs hP hD hS => ?_)
        generalize eu_8 : p_m_emit u ((8192 + (256 * x1)) + (ush x2 (p_m_shiftOf x2))) = u_8 at hP hD ⊢
        try rw [eu_8] at hok
        refine lv_aload_n hx hb dX4_make_98 rfl (lv_at hl 1 rfl) ?_
        refine lv_bipush (v := 64) hx hb dX4_make_99 (by decide) ?_
        refine lv_iload_n hx hb dX4_make_101 rfl (lv_at hl 0 rfl) ?_
        refine lv_imul hx hb dX4_make_102 ?_
        refine lv_bipush (v := 9) hx hb dX4_make_103 (by decide) ?_
        refine lv_iload_n hx hb dX4_make_105 rfl (lv_at hl 2 rfl) ?_
        refine lv_imul hx hb dX4_make_106 ?_
        refine lv_iadd hx hb dX4_make_107 ?_
        obtain ⟨h_9, hok⟩ := hok
        refine k_callVv (As := [.int ((64 * (p_m_shiftOf x2)) + (9 * x1))]) (rest := []) hzz ⟨hx, hb, hml, hown, hts⟩ (c_m_emit l D am cI cZ zz hzz u_8 ((64 * (p_m_shiftOf x2)) + (9 * x1)) h_9) (cwV 1 hts (tb_V tw_4_19 tw_4_21 slX4_emit tw_1_5 tw_4_22) rfl rfl rfl (by decide +kernel) ⟨Nat.le_of_ble_eq_true rfl, Nat.le_of_ble_eq_true rfl⟩) (va_recv hK hP (ci := 4) (q0 := 0) rfl rfl) rfl hl.1 rfl (lv_room (Nat.le_of_ble_eq_true rfl)) dX4_make_108 ⟨Nat.le_of_ble_eq_true rfl, Nat.le_of_ble_eq_true rfl⟩ hP hK hD hS hA hZ (fun H locs hP hD hS => ?_)
        generalize eu_10 : p_m_emit u_8 ((64 * (p_m_shiftOf x2)) + (9 * x1)) = u_10 at hP hD ⊢
        try rw [eu_10] at hok
        refine lv_goto (tgt := 120) hx hb dX4_make_111 (by decide) ?_
        have e9 : p_m_make u x1 x2 = u_10 := by
          subst eu_10
          subst eu_8
          rw [p_m_make, if_pos c_2, if_pos c_3, if_neg c_4]
        rw [e9]
        exact W.vret hx hb hr (fun t ht hW => ⟨⟨(), rfl, trivial, by rw [ht]; exact hP, va_K.moved hW.alike hK, hD⟩, hS.F ht⟩) hS.2.2 dX4_make_120
    · have hok := hok.2 c_3
      refine lv_iload_n hx hb dX4_make_38 rfl (lv_at hl 3 rfl) ?_
      refine lv_sipush (v := (-256)) hx hb dX4_make_39 (by decide) ?_
      refine lv_icmp_lt (tgt := 77) hx hb dX4_make_42 (by decide) (fun c_11 => ?_) (fun c_11 => ?_)
      · have hok := hok.1 c_11
        refine lv_iload_n hx hb dX4_make_77 rfl (lv_at hl 0 rfl) ?_
        refine lv_if_le (tgt := 114) hx hb dX4_make_78 (by decide) (fun c_12 => ?_) (fun c_12 => ?_)
        · have hok := hok.1 c_12
          refine lv_aload_n hx hb dX4_make_114 rfl (lv_at hl 1 rfl) ?_
          refine lv_iload_n hx hb dX4_make_115 rfl (lv_at hl 2 rfl) ?_
          refine lv_iload_n hx hb dX4_make_116 rfl (lv_at hl 3 rfl) ?_
          obtain ⟨h_13, hok⟩ := hok
          refine k_callVv (As := [.int x1, .int x2]) (rest := []) hzz ⟨hx, hb, hml, hown, hts⟩ (c_m_literal l D am cI cZ zz hzz u x1 x2 h_13) (cwV 2 hts (tb_V tw_4_15 tw_4_17 slX4_literal tw_1_5 tw_4_18) rfl rfl rfl (by decide +kernel) ⟨Nat.le_of_ble_eq_true rfl, Nat.le_of_ble_eq_true rfl⟩) (va_recv hK hP (ci := 4) (q0 := 0) rfl rfl) rfl hl.1 rfl (lv_room (Nat.le_of_ble_eq_true rfl)) dX4_make_117 ⟨Nat.le_of_ble_eq_true rfl, Nat.le_of_ble_eq_true rfl⟩ hP hK hD hS hA hZ (fun H locs hP hD hS => ?_)
          generalize eu_14 : p_m_literal u x1 x2 = u_14 at hP hD ⊢
          try rw [eu_14] at hok
          have e9 : p_m_make u x1 x2 = u_14 := by
            subst eu_14
            rw [p_m_make, if_pos c_2, if_neg c_3, if_pos c_11, if_pos c_12]
          rw [e9]
          exact W.vret hx hb hr (fun t ht hW => ⟨⟨(), rfl, trivial, by rw [ht]; exact hP, va_K.moved hW.alike hK, hD⟩, hS.F ht⟩) hS.2.2 dX4_make_120
        · have hok := hok.2 c_12
          refine lv_aload_n hx hb dX4_make_81 rfl (lv_at hl 1 rfl) ?_
          refine lv_sipush (v := 8192) hx hb dX4_make_82 (by decide) ?_
          refine lv_sipush (v := 256) hx hb dX4_make_85 (by decide) ?_
          refine lv_iload_n hx hb dX4_make_88 rfl (lv_at hl 2 rfl) ?_
          refine lv_imul hx hb dX4_make_89 ?_
          refine lv_iadd hx hb dX4_make_90 ?_
          refine lv_iload_n hx hb dX4_make_91 rfl (lv_at hl 3 rfl) ?_
          refine lv_iload_n hx hb dX4_make_92 rfl (lv_at hl 0 rfl) ?_
          refine lv_iushr (v := ush x2 (p_m_shiftOf x2)) hx hb dX4_make_93 rfl ?_
          refine lv_iadd hx hb dX4_make_94 ?_
          obtain ⟨h_15, hok⟩ := hok
          refine k_callVv (As := [.int ((8192 + (256 * x1)) + (ush x2 (p_m_shiftOf x2)))]) (rest := []) hzz ⟨hx, hb, hml, hown, hts⟩ (c_m_emit l D am cI cZ zz hzz u ((8192 + (256 * x1)) + (ush x2 (p_m_shiftOf x2))) h_15) (cwV 1 hts (tb_V tw_4_19 tw_4_21 slX4_emit tw_1_5 tw_4_22) rfl rfl rfl (by decide +kernel) ⟨Nat.le_of_ble_eq_true rfl, Nat.le_of_ble_eq_true rfl⟩) (va_recv hK hP (ci := 4) (q0 := 0) rfl rfl) rfl hl.1 rfl (lv_room (Nat.le_of_ble_eq_true rfl)) dX4_make_95 ⟨Nat.le_of_ble_eq_true rfl, Nat.le_of_ble_eq_true rfl⟩ hP hK hD hS hA hZ (fun H locs hP hD hS => ?_)
          generalize eu_16 : p_m_emit u ((8192 + (256 * x1)) + (ush x2 (p_m_shiftOf x2))) = u_16 at hP hD ⊢
          try rw [eu_16] at hok
          refine lv_aload_n hx hb dX4_make_98 rfl (lv_at hl 1 rfl) ?_
          refine lv_bipush (v := 64) hx hb dX4_make_99 (by decide) ?_
          refine lv_iload_n hx hb dX4_make_101 rfl (lv_at hl 0 rfl) ?_
          refine lv_imul hx hb dX4_make_102 ?_
          refine lv_bipush (v := 9) hx hb dX4_make_103 (by decide) ?_
          refine lv_iload_n hx hb dX4_make_105 rfl (lv_at hl 2 rfl) ?_
          refine lv_imul hx hb dX4_make_106 ?_
          refine lv_iadd hx hb dX4_make_107 ?_
          obtain ⟨h_17, hok⟩ := hok
          refine k_callVv (As := [.int ((64 * (p_m_shiftOf x2)) + (9 * x1))]) (rest := []) hzz ⟨hx, hb, hml, hown, hts⟩ (c_m_emit l D am cI cZ zz hzz u_16 ((64 * (p_m_shiftOf x2)) + (9 * x1)) h_17) (cwV 1 hts (tb_V tw_4_19 tw_4_21 slX4_emit tw_1_5 tw_4_22) rfl rfl rfl (by decide +kernel) ⟨Nat.le_of_ble_eq_true rfl, Nat.le_of_ble_eq_true rfl⟩) (va_recv hK hP (ci := 4) (q0 := 0) rfl rfl) rfl hl.1 rfl (lv_room (Nat.le_of_ble_eq_true rfl)) dX4_make_108 ⟨Nat.le_of_ble_eq_true rfl, Nat.le_of_ble_eq_true rfl⟩ hP hK hD hS hA hZ (fun H locs hP hD hS => ?_)
          generalize eu_18 : p_m_emit u_16 ((64 * (p_m_shiftOf x2)) + (9 * x1)) = u_18 at hP hD ⊢
          try rw [eu_18] at hok
          refine lv_goto (tgt := 120) hx hb dX4_make_111 (by decide) ?_
          have e9 : p_m_make u x1 x2 = u_18 := by
            subst eu_18
            subst eu_16
            rw [p_m_make, if_pos c_2, if_neg c_3, if_pos c_11, if_neg c_12]
          rw [e9]
          exact W.vret hx hb hr (fun t ht hW => ⟨⟨(), rfl, trivial, by rw [ht]; exact hP, va_K.moved hW.alike hK, hD⟩, hS.F ht⟩) hS.2.2 dX4_make_120
      · have hok := hok.2 c_11
        refine lv_aload_n hx hb dX4_make_45 rfl (lv_at hl 1 rfl) ?_
        refine lv_sipush (v := 8192) hx hb dX4_make_46 (by decide) ?_
        refine lv_sipush (v := 256) hx hb dX4_make_49 (by decide) ?_
        refine lv_iload_n hx hb dX4_make_52 rfl (lv_at hl 2 rfl) ?_
        refine lv_imul hx hb dX4_make_53 ?_
        refine lv_iadd hx hb dX4_make_54 ?_
        refine lv_iconst (v := 1) hx hb dX4_make_55 (by decide) ?_
        refine lv_isub hx hb dX4_make_56 ?_
        refine lv_iload_n hx hb dX4_make_57 rfl (lv_at hl 3 rfl) ?_
        refine lv_isub hx hb dX4_make_58 ?_
        obtain ⟨h_19, hok⟩ := hok
        refine k_callVv (As := [.int (((8192 + (256 * x1)) - 1) - x2)]) (rest := []) hzz ⟨hx, hb, hml, hown, hts⟩ (c_m_emit l D am cI cZ zz hzz u (((8192 + (256 * x1)) - 1) - x2) h_19) (cwV 1 hts (tb_V tw_4_19 tw_4_21 slX4_emit tw_1_5 tw_4_22) rfl rfl rfl (by decide +kernel) ⟨Nat.le_of_ble_eq_true rfl, Nat.le_of_ble_eq_true rfl⟩) (va_recv hK hP (ci := 4) (q0 := 0) rfl rfl) rfl hl.1 rfl (lv_room (Nat.le_of_ble_eq_true rfl)) dX4_make_59 ⟨Nat.le_of_ble_eq_true rfl, Nat.le_of_ble_eq_true rfl⟩ hP hK hD hS hA hZ (fun H locs hP hD hS => ?_)
        generalize eu_20 : p_m_emit u (((8192 + (256 * x1)) - 1) - x2) = u_20 at hP hD ⊢
        try rw [eu_20] at hok
        refine lv_aload_n hx hb dX4_make_62 rfl (lv_at hl 1 rfl) ?_
        refine lv_sipush (v := 17344) hx hb dX4_make_63 (by decide) ?_
        refine lv_bipush (v := 9) hx hb dX4_make_66 (by decide) ?_
        refine lv_iload_n hx hb dX4_make_68 rfl (lv_at hl 2 rfl) ?_
        refine lv_imul hx hb dX4_make_69 ?_
        refine lv_iadd hx hb dX4_make_70 ?_
        obtain ⟨h_21, hok⟩ := hok
        refine k_callVv (As := [.int (17344 + (9 * x1))]) (rest := []) hzz ⟨hx, hb, hml, hown, hts⟩ (c_m_emit l D am cI cZ zz hzz u_20 (17344 + (9 * x1)) h_21) (cwV 1 hts (tb_V tw_4_19 tw_4_21 slX4_emit tw_1_5 tw_4_22) rfl rfl rfl (by decide +kernel) ⟨Nat.le_of_ble_eq_true rfl, Nat.le_of_ble_eq_true rfl⟩) (va_recv hK hP (ci := 4) (q0 := 0) rfl rfl) rfl hl.1 rfl (lv_room (Nat.le_of_ble_eq_true rfl)) dX4_make_71 ⟨Nat.le_of_ble_eq_true rfl, Nat.le_of_ble_eq_true rfl⟩ hP hK hD hS hA hZ (fun H locs hP hD hS => ?_)
        generalize eu_22 : p_m_emit u_20 (17344 + (9 * x1)) = u_22 at hP hD ⊢
        try rw [eu_22] at hok
        refine lv_goto (tgt := 120) hx hb dX4_make_74 (by decide) ?_
        have e9 : p_m_make u x1 x2 = u_22 := by
          subst eu_22
          subst eu_20
          rw [p_m_make, if_pos c_2, if_neg c_3, if_neg c_11]
        rw [e9]
        exact W.vret hx hb hr (fun t ht hW => ⟨⟨(), rfl, trivial, by rw [ht]; exact hP, va_K.moved hW.alike hK, hD⟩, hS.F ht⟩) hS.2.2 dX4_make_120
  · have hok := hok.2 c_2
    refine lv_iload_n hx hb dX4_make_9 rfl (lv_at hl 3 rfl) ?_
    refine lv_sipush (v := 255) hx hb dX4_make_10 (by decide) ?_
    refine lv_icmp_gt (tgt := 34) hx hb dX4_make_13 (by decide) (fun c_23 => ?_) (fun c_23 => ?_)
    · have hok := hok.1 c_23
      refine lv_iload_n hx hb dX4_make_34 rfl (lv_at hl 3 rfl) ?_
      refine lv_if_ge (tgt := 77) hx hb dX4_make_35 (by decide) (fun c_24 => ?_) (fun c_24 => ?_)
      · have hok := hok.1 c_24
        refine lv_iload_n hx hb dX4_make_77 rfl (lv_at hl 0 rfl) ?_
        refine lv_if_le (tgt := 114) hx hb dX4_make_78 (by decide) (fun c_25 => ?_) (fun c_25 => ?_)
        · have hok := hok.1 c_25
          refine lv_aload_n hx hb dX4_make_114 rfl (lv_at hl 1 rfl) ?_
          refine lv_iload_n hx hb dX4_make_115 rfl (lv_at hl 2 rfl) ?_
          refine lv_iload_n hx hb dX4_make_116 rfl (lv_at hl 3 rfl) ?_
          obtain ⟨h_26, hok⟩ := hok
          refine k_callVv (As := [.int x1, .int x2]) (rest := []) hzz ⟨hx, hb, hml, hown, hts⟩ (c_m_literal l D am cI cZ zz hzz u x1 x2 h_26) (cwV 2 hts (tb_V tw_4_15 tw_4_17 slX4_literal tw_1_5 tw_4_18) rfl rfl rfl (by decide +kernel) ⟨Nat.le_of_ble_eq_true rfl, Nat.le_of_ble_eq_true rfl⟩) (va_recv hK hP (ci := 4) (q0 := 0) rfl rfl) rfl hl.1 rfl (lv_room (Nat.le_of_ble_eq_true rfl)) dX4_make_117 ⟨Nat.le_of_ble_eq_true rfl, Nat.le_of_ble_eq_true rfl⟩ hP hK hD hS hA hZ (fun H locs hP hD hS => ?_)
          generalize eu_27 : p_m_literal u x1 x2 = u_27 at hP hD ⊢
          try rw [eu_27] at hok
          have e9 : p_m_make u x1 x2 = u_27 := by
            subst eu_27
            rw [p_m_make, if_neg c_2, if_pos c_23, if_pos c_24, if_pos c_25]
          rw [e9]
          exact W.vret hx hb hr (fun t ht hW => ⟨⟨(), rfl, trivial, by rw [ht]; exact hP, va_K.moved hW.alike hK, hD⟩, hS.F ht⟩) hS.2.2 dX4_make_120
        · have hok := hok.2 c_25
          refine lv_aload_n hx hb dX4_make_81 rfl (lv_at hl 1 rfl) ?_
          refine lv_sipush (v := 8192) hx hb dX4_make_82 (by decide) ?_
          refine lv_sipush (v := 256) hx hb dX4_make_85 (by decide) ?_
          refine lv_iload_n hx hb dX4_make_88 rfl (lv_at hl 2 rfl) ?_
          refine lv_imul hx hb dX4_make_89 ?_
          refine lv_iadd hx hb dX4_make_90 ?_
          refine lv_iload_n hx hb dX4_make_91 rfl (lv_at hl 3 rfl) ?_
          refine lv_iload_n hx hb dX4_make_92 rfl (lv_at hl 0 rfl) ?_
          refine lv_iushr (v := ush x2 (p_m_shiftOf x2)) hx hb dX4_make_93 rfl ?_
          refine lv_iadd hx hb dX4_make_94 ?_
          obtain ⟨h_28, hok⟩ := hok
          refine k_callVv (As := [.int ((8192 + (256 * x1)) + (ush x2 (p_m_shiftOf x2)))]) (rest := []) hzz ⟨hx, hb, hml, hown, hts⟩ (c_m_emit l D am cI cZ zz hzz u ((8192 + (256 * x1)) + (ush x2 (p_m_shiftOf x2))) h_28) (cwV 1 hts (tb_V tw_4_19 tw_4_21 slX4_emit tw_1_5 tw_4_22) rfl rfl rfl (by decide +kernel) ⟨Nat.le_of_ble_eq_true rfl, Nat.le_of_ble_eq_true rfl⟩) (va_recv hK hP (ci := 4) (q0 := 0) rfl rfl) rfl hl.1 rfl (lv_room (Nat.le_of_ble_eq_true rfl)) dX4_make_95 ⟨Nat.le_of_ble_eq_true rfl, Nat.le_of_ble_eq_true rfl⟩ hP hK hD hS hA hZ (fun H locs hP hD hS => ?_)
          generalize eu_29 : p_m_emit u ((8192 + (256 * x1)) + (ush x2 (p_m_shiftOf x2))) = u_29 at hP hD ⊢
          try rw [eu_29] at hok
          refine lv_aload_n hx hb dX4_make_98 rfl (lv_at hl 1 rfl) ?_
          refine lv_bipush (v := 64) hx hb dX4_make_99 (by decide) ?_
          refine lv_iload_n hx hb dX4_make_101 rfl (lv_at hl 0 rfl) ?_
          refine lv_imul hx hb dX4_make_102 ?_
          refine lv_bipush (v := 9) hx hb dX4_make_103 (by decide) ?_
          refine lv_iload_n hx hb dX4_make_105 rfl (lv_at hl 2 rfl) ?_
          refine lv_imul hx hb dX4_make_106 ?_
          refine lv_iadd hx hb dX4_make_107 ?_
          obtain ⟨h_30, hok⟩ := hok
          refine k_callVv (As := [.int ((64 * (p_m_shiftOf x2)) + (9 * x1))]) (rest := []) hzz ⟨hx, hb, hml, hown, hts⟩ (c_m_emit l D am cI cZ zz hzz u_29 ((64 * (p_m_shiftOf x2)) + (9 * x1)) h_30) (cwV 1 hts (tb_V tw_4_19 tw_4_21 slX4_emit tw_1_5 tw_4_22) rfl rfl rfl (by decide +kernel) ⟨Nat.le_of_ble_eq_true rfl, Nat.le_of_ble_eq_true rfl⟩) (va_recv hK hP (ci := 4) (q0 := 0) rfl rfl) rfl hl.1 rfl (lv_room (Nat.le_of_ble_eq_true rfl)) dX4_make_108 ⟨Nat.le_of_ble_eq_true rfl, Nat.le_of_ble_eq_true rfl⟩ hP hK hD hS hA hZ (fun H locs hP hD hS => ?_)
          generalize eu_31 : p_m_emit u_29 ((64 * (p_m_shiftOf x2)) + (9 * x1)) = u_31 at hP hD ⊢
          try rw [eu_31] at hok
          refine lv_goto (tgt := 120) hx hb dX4_make_111 (by decide) ?_
          have e9 : p_m_make u x1 x2 = u_31 := by
            subst eu_31
            subst eu_29
            rw [p_m_make, if_neg c_2, if_pos c_23, if_pos c_24, if_neg c_25]
          rw [e9]
          exact W.vret hx hb hr (fun t ht hW => ⟨⟨(), rfl, trivial, by rw [ht]; exact hP, va_K.moved hW.alike hK, hD⟩, hS.F ht⟩) hS.2.2 dX4_make_120
      · have hok := hok.2 c_24
        refine lv_iload_n hx hb dX4_make_38 rfl (lv_at hl 3 rfl) ?_
        refine lv_sipush (v := (-256)) hx hb dX4_make_39 (by decide) ?_
        refine lv_icmp_lt (tgt := 77) hx hb dX4_make_42 (by decide) (fun c_32 => ?_) (fun c_32 => ?_)
        · have hok := hok.1 c_32
          refine lv_iload_n hx hb dX4_make_77 rfl (lv_at hl 0 rfl) ?_
          refine lv_if_le (tgt := 114) hx hb dX4_make_78 (by decide) (fun c_33 => ?_) (fun c_33 => ?_)
          · have hok := hok.1 c_33
            refine lv_aload_n hx hb dX4_make_114 rfl (lv_at hl 1 rfl) ?_
            refine lv_iload_n hx hb dX4_make_115 rfl (lv_at hl 2 rfl) ?_
            refine lv_iload_n hx hb dX4_make_116 rfl (lv_at hl 3 rfl) ?_
            obtain ⟨h_34, hok⟩ := hok
            refine k_callVv (As := [.int x1, .int x2]) (rest := []) hzz ⟨hx, hb, hml, hown, hts⟩ (c_m_literal l D am cI cZ zz hzz u x1 x2 h_34) (cwV 2 hts (tb_V tw_4_15 tw_4_17 slX4_literal tw_1_5 tw_4_18) rfl rfl rfl (by decide +kernel) ⟨Nat.le_of_ble_eq_true rfl, Nat.le_of_ble_eq_true rfl⟩) (va_recv hK hP (ci := 4) (q0 := 0) rfl rfl) rfl hl.1 rfl (lv_room (Nat.le_of_ble_eq_true rfl)) dX4_make_117 ⟨Nat.le_of_ble_eq_true rfl, Nat.le_of_ble_eq_true rfl⟩ hP hK hD hS hA hZ (fun H locs hP hD hS => ?_)
            generalize eu_35 : p_m_literal u x1 x2 = u_35 at hP hD ⊢
            try rw [eu_35] at hok
            have e9 : p_m_make u x1 x2 = u_35 := by
              subst eu_35
              rw [p_m_make, if_neg c_2, if_pos c_23, if_neg c_24, if_pos c_32, if_pos c_33]
            rw [e9]
            exact W.vret hx hb hr (fun t ht hW => ⟨⟨(), rfl, trivial, by rw [ht]; exact hP, va_K.moved hW.alike hK, hD⟩, hS.F ht⟩) hS.2.2 dX4_make_120
          · have hok := hok.2 c_33
            refine lv_aload_n hx hb dX4_make_81 rfl (lv_at hl 1 rfl) ?_
            refine lv_sipush (v := 8192) hx hb dX4_make_82 (by decide) ?_
            refine lv_sipush (v := 256) hx hb dX4_make_85 (by decide) ?_
            refine lv_iload_n hx hb dX4_make_88 rfl (lv_at hl 2 rfl) ?_
            refine lv_imul hx hb dX4_make_89 ?_
            refine lv_iadd hx hb dX4_make_90 ?_
            refine lv_iload_n hx hb dX4_make_91 rfl (lv_at hl 3 rfl) ?_
            refine lv_iload_n hx hb dX4_make_92 rfl (lv_at hl 0 rfl) ?_
            refine lv_iushr (v := ush x2 (p_m_shiftOf x2)) hx hb dX4_make_93 rfl ?_
            refine lv_iadd hx hb dX4_make_94 ?_
            obtain ⟨h_36, hok⟩ := hok
            refine k_callVv (As := [.int ((8192 + (256 * x1)) + (ush x2 (p_m_shiftOf x2)))]) (rest := []) hzz ⟨hx, hb, hml, hown, hts⟩ (c_m_emit l D am cI cZ zz hzz u ((8192 + (256 * x1)) + (ush x2 (p_m_shiftOf x2))) h_36) (cwV 1 hts (tb_V tw_4_19 tw_4_21 slX4_emit tw_1_5 tw_4_22) rfl rfl rfl (by decide +kernel) ⟨Nat.le_of_ble_eq_true rfl, Nat.le_of_ble_eq_true rfl⟩) (va_recv hK hP (ci := 4) (q0 := 0) rfl rfl) rfl hl.1 rfl (lv_room (Nat.le_of_ble_eq_true rfl)) dX4_make_95 ⟨Nat.le_of_ble_eq_true rfl, Nat.le_of_ble_eq_true rfl⟩ hP hK hD hS hA hZ (fun H locs hP hD hS => ?_)
            generalize eu_37 : p_m_emit u ((8192 + (256 * x1)) + (ush x2 (p_m_shiftOf x2))) = u_37 at hP hD ⊢
            try rw [eu_37] at hok
            refine lv_aload_n hx hb dX4_make_98 rfl (lv_at hl 1 rfl) ?_
            refine lv_bipush (v := 64) hx hb dX4_make_99 (by decide) ?_
            refine lv_iload_n hx hb dX4_make_101 rfl (lv_at hl 0 rfl) ?_
            refine lv_imul hx hb dX4_make_102 ?_
            refine lv_bipush (v := 9) hx hb dX4_make_103 (by decide) ?_
            refine lv_iload_n hx hb dX4_make_105 rfl (lv_at hl 2 rfl) ?_
            refine lv_imul hx hb dX4_make_106 ?_
            refine lv_iadd hx hb dX4_make_107 ?_
            obtain ⟨h_38, hok⟩ := hok
            refine k_callVv (As := [.int ((64 * (p_m_shiftOf x2)) + (9 * x1))]) (rest := []) hzz ⟨hx, hb, hml, hown, hts⟩ (c_m_emit l D am cI cZ zz hzz u_37 ((64 * (p_m_shiftOf x2)) + (9 * x1)) h_38) (cwV 1 hts (tb_V tw_4_19 tw_4_21 slX4_emit tw_1_5 tw_4_22) rfl rfl rfl (by decide +kernel) ⟨Nat.le_of_ble_eq_true rfl, Nat.le_of_ble_eq_true rfl⟩) (va_recv hK hP (ci := 4) (q0 := 0) rfl rfl) rfl hl.1 rfl (lv_room (Nat.le_of_ble_eq_true rfl)) dX4_make_108 ⟨Nat.le_of_ble_eq_true rfl, Nat.le_of_ble_eq_true rfl⟩ hP hK hD hS hA hZ (fun H locs hP hD hS => ?_)
            generalize eu_39 : p_m_emit u_37 ((64 * (p_m_shiftOf x2)) + (9 * x1)) = u_39 at hP hD ⊢
            try rw [eu_39] at hok
            refine lv_goto (tgt := 120) hx hb dX4_make_111 (by decide) ?_
            have e9 : p_m_make u x1 x2 = u_39 := by
              subst eu_39
              subst eu_37
              rw [p_m_make, if_neg c_2, if_pos c_23, if_neg c_24, if_pos c_32, if_neg c_33]
            rw [e9]
            exact W.vret hx hb hr (fun t ht hW => ⟨⟨(), rfl, trivial, by rw [ht]; exact hP, va_K.moved hW.alike hK, hD⟩, hS.F ht⟩) hS.2.2 dX4_make_120
        · have hok := hok.2 c_32
          refine lv_aload_n hx hb dX4_make_45 rfl (lv_at hl 1 rfl) ?_
          refine lv_sipush (v := 8192) hx hb dX4_make_46 (by decide) ?_
          refine lv_sipush (v := 256) hx hb dX4_make_49 (by decide) ?_
          refine lv_iload_n hx hb dX4_make_52 rfl (lv_at hl 2 rfl) ?_
          refine lv_imul hx hb dX4_make_53 ?_
          refine lv_iadd hx hb dX4_make_54 ?_
          refine lv_iconst (v := 1) hx hb dX4_make_55 (by decide) ?_
          refine lv_isub hx hb dX4_make_56 ?_
          refine lv_iload_n hx hb dX4_make_57 rfl (lv_at hl 3 rfl) ?_
          refine lv_isub hx hb dX4_make_58 ?_
          obtain ⟨h_40, hok⟩ := hok
          refine k_callVv (As := [.int (((8192 + (256 * x1)) - 1) - x2)]) (rest := []) hzz ⟨hx, hb, hml, hown, hts⟩ (c_m_emit l D am cI cZ zz hzz u (((8192 + (256 * x1)) - 1) - x2) h_40) (cwV 1 hts (tb_V tw_4_19 tw_4_21 slX4_emit tw_1_5 tw_4_22) rfl rfl rfl (by decide +kernel) ⟨Nat.le_of_ble_eq_true rfl, Nat.le_of_ble_eq_true rfl⟩) (va_recv hK hP (ci := 4) (q0 := 0) rfl rfl) rfl hl.1 rfl (lv_room (Nat.le_of_ble_eq_true rfl)) dX4_make_59 ⟨Nat.le_of_ble_eq_true rfl, Nat.le_of_ble_eq_true rfl⟩ hP hK hD hS hA hZ (fun H locs hP hD hS => ?_)
          generalize eu_41 : p_m_emit u (((8192 + (256 * x1)) - 1) - x2) = u_41 at hP hD ⊢
          try rw [eu_41] at hok
          refine lv_aload_n hx hb dX4_make_62 rfl (lv_at hl 1 rfl) ?_
          refine lv_sipush (v := 17344) hx hb dX4_make_63 (by decide) ?_
          refine lv_bipush (v := 9) hx hb dX4_make_66 (by decide) ?_
          refine lv_iload_n hx hb dX4_make_68 rfl (lv_at hl 2 rfl) ?_
          refine lv_imul hx hb dX4_make_69 ?_
          refine lv_iadd hx hb dX4_make_70 ?_
          obtain ⟨h_42, hok⟩ := hok
          refine k_callVv (As := [.int (17344 + (9 * x1))]) (rest := []) hzz ⟨hx, hb, hml, hown, hts⟩ (c_m_emit l D am cI cZ zz hzz u_41 (17344 + (9 * x1)) h_42) (cwV 1 hts (tb_V tw_4_19 tw_4_21 slX4_emit tw_1_5 tw_4_22) rfl rfl rfl (by decide +kernel) ⟨Nat.le_of_ble_eq_true rfl, Nat.le_of_ble_eq_true rfl⟩) (va_recv hK hP (ci := 4) (q0 := 0) rfl rfl) rfl hl.1 rfl (lv_room (Nat.le_of_ble_eq_true rfl)) dX4_make_71 ⟨Nat.le_of_ble_eq_true rfl, Nat.le_of_ble_eq_true rfl⟩ hP hK hD hS hA hZ (fun H locs hP hD hS => ?_)
          generalize eu_43 : p_m_emit u_41 (17344 + (9 * x1)) = u_43 at hP hD ⊢
          try rw [eu_43] at hok
          refine lv_goto (tgt := 120) hx hb dX4_make_74 (by decide) ?_
          have e9 : p_m_make u x1 x2 = u_43 := by
            subst eu_43
            subst eu_41
            rw [p_m_make, if_neg c_2, if_pos c_23, if_neg c_24, if_neg c_32]
          rw [e9]
          exact W.vret hx hb hr (fun t ht hW => ⟨⟨(), rfl, trivial, by rw [ht]; exact hP, va_K.moved hW.alike hK, hD⟩, hS.F ht⟩) hS.2.2 dX4_make_120
    · have hok := hok.2 c_23
      refine lv_aload_n hx hb dX4_make_16 rfl (lv_at hl 1 rfl) ?_
      refine lv_sipush (v := 8192) hx hb dX4_make_17 (by decide) ?_
      refine lv_sipush (v := 256) hx hb dX4_make_20 (by decide) ?_
      refine lv_iload_n hx hb dX4_make_23 rfl (lv_at hl 2 rfl) ?_
      refine lv_imul hx hb dX4_make_24 ?_
      refine lv_iadd hx hb dX4_make_25 ?_
      refine lv_iload_n hx hb dX4_make_26 rfl (lv_at hl 3 rfl) ?_
      refine lv_iadd hx hb dX4_make_27 ?_
      obtain ⟨h_44, hok⟩ := hok
      refine k_callVv (As := [.int ((8192 + (256 * x1)) + x2)]) (rest := []) hzz ⟨hx, hb, hml, hown, hts⟩ (c_m_emit l D am cI cZ zz hzz u ((8192 + (256 * x1)) + x2) h_44) (cwV 1 hts (tb_V tw_4_19 tw_4_21 slX4_emit tw_1_5 tw_4_22) rfl rfl rfl (by decide +kernel) ⟨Nat.le_of_ble_eq_true rfl, Nat.le_of_ble_eq_true rfl⟩) (va_recv hK hP (ci := 4) (q0 := 0) rfl rfl) rfl hl.1 rfl (lv_room (Nat.le_of_ble_eq_true rfl)) dX4_make_28 ⟨Nat.le_of_ble_eq_true rfl, Nat.le_of_ble_eq_true rfl⟩ hP hK hD hS hA hZ (fun H locs hP hD hS => ?_)
      generalize eu_45 : p_m_emit u ((8192 + (256 * x1)) + x2) = u_45 at hP hD ⊢
      try rw [eu_45] at hok
      refine lv_goto (tgt := 120) hx hb dX4_make_31 (by decide) ?_
      have e9 : p_m_make u x1 x2 = u_45 := by
        subst eu_45
        rw [p_m_make, if_neg c_2, if_neg c_23]
      rw [e9]
      exact W.vret hx hb hr (fun t ht hW => ⟨⟨(), rfl, trivial, by rw [ht]; exact hP, va_K.moved hW.alike hK, hD⟩, hS.F ht⟩) hS.2.2 dX4_make_120

def p_m_copy (u : St) (x1 : Int32) : St := (if 4 ≤ x1 then ((p_m_fetch u x1 0).2) else (p_m_emit u (8 * (4 + x1))))
def ok_m_copy (u : St) (x1 : Int32) : Prop := ((4 ≤ x1 → (ok_m_fetch u x1 0 ∧ True)) ∧ (¬ 4 ≤ x1 → (ok_m_emit u (8 * (4 + x1)) ∧ True)))
set_option maxHeartbeats 4000000 in
set_option maxRecDepth 100000 in
theorem c_m_copy (l : Launch) (D : va_G) (am : Nat → Nat) (cI cZ : ClassId) (zz : (Nat → Prop) → State → Heap → Prop) (hzz : Zok zz) (u : St) (x1 : Int32) (hok : ok_m_copy u x1) : tfV l D vwCl (tyT cI cZ) zz yX4_copy wsX4_copy ({ frames := 2, cells := 0, slots := 0, locals := 43 } : Room) [.ref (am 0), .int x1] (wM am cI cZ u) (wM am cI cZ (p_m_copy u x1)) := by
  intro sz
  unfold ok_m_copy at hok
  refine Met.ofW (cc := cX4_copy) (maxL := 2) (ret := none) (by decide) rfl ?_
  intro p e s m args below meth c s₁ B hml hv
  obtain ⟨rfl, hsz, hP, hK, hD0, hZ⟩ := hv
  have hx := B.exec
  have hb := B.bytes
  have hr := B.returns
  have hts := atoms_spec (ws := wsX4_copy) B.pre
  have hown : s.vm.findClass RX4 = some m.cls := findClass_of_methodNamed B.named
  have hlocks := B.notSynchronized
  subst hsz
  have hD := hD0.self (sz := s.heap.size)
  generalize hAe : va_A (wM am cI cZ u) s.heap.size = A at hD hZ ⊢
  have hA : ∀ q : Nat, s.heap.size ≤ q → A q := fun q h => by rw [← hAe]; exact Or.inr h
  have hS : va_S A s.heap s.heap [] := va_S.rf
  have Cx : cxt p s m ([.ref (am 0), .int x1] : List Value).toArray meth c cX4_copy 2 none wsX4_copy RX4 D vwCl (tyT cI cZ) zz A := ⟨hx, hb, hr, hts, hown, hlocks, hml, hK, hA, hZ⟩
  have hl := lv_entry ([.ref (am 0), .int x1]) (n := 2) (Nat.le_of_ble_eq_true rfl)
  rw [lg_entry_eq]
  generalize (lg_sl ([.ref (am 0), .int x1]) ++ List.replicate (2 - (lg_sl ([.ref (am 0), .int x1])).length) Slot.unset).toArray = ls at hl ⊢
  have hl : lv_has ls 2 [(0, .ref (am 0)), (1, .int x1)] := hl
  refine lv_iload_n hx hb dX4_copy_0 rfl (lv_at hl 1 rfl) ?_
  refine lv_iconst (v := 4) hx hb dX4_copy_1 (by decide) ?_
  refine lv_icmp_ge (tgt := 18) hx hb dX4_copy_2 (by decide) (fun c_1 => ?_) (fun c_1 => ?_)
  · have hok := hok.1 c_1
    refine lv_aload_n hx hb dX4_copy_18 rfl (lv_at hl 0 rfl) ?_
    refine lv_iload_n hx hb dX4_copy_19 rfl (lv_at hl 1 rfl) ?_
    refine lv_iconst (v := 0) hx hb dX4_copy_20 (by decide) ?_
    obtain ⟨h_2, hok⟩ := hok
    refine k_callVi (As := [.int x1, .int 0]) (rest := []) hzz ⟨hx, hb, hml, hown, hts⟩ (c_m_fetch l D am cI cZ zz hzz u x1 0 h_2) (cwV 2 hts (tb_V tw_4_43 tw_4_45 slX4_fetch tw_1_5 tw_4_46) rfl rfl rfl (by decide +kernel) ⟨Nat.le_of_ble_eq_true rfl, Nat.le_of_ble_eq_true rfl⟩) (va_recv hK hP (ci := 4) (q0 := 0) rfl rfl) rfl hl.1 rfl (lv_room (Nat.le_of_ble_eq_true rfl)) dX4_copy_21 ⟨Nat.le_of_ble_eq_true rfl, Nat.le_of_ble_eq_true rfl⟩ hP hK hD hS hA hZ (fun H locs hP hD hS => ?_)
    generalize eu_3 : (p_m_fetch u x1 0).2 = u_3 at hP hD ⊢
    try rw [eu_3] at hok
    refine lv_pop hx hb dX4_copy_24 rfl ?_
    have e9 : p_m_copy u x1 = u_3 := by
      subst eu_3
      rw [p_m_copy, if_pos c_1]
    rw [e9]
    exact W.vret hx hb hr (fun t ht hW => ⟨⟨(), rfl, trivial, by rw [ht]; exact hP, va_K.moved hW.alike hK, hD⟩, hS.F ht⟩) hS.2.2 dX4_copy_25
  · have hok := hok.2 c_1
    refine lv_aload_n hx hb dX4_copy_5 rfl (lv_at hl 0 rfl) ?_
    refine lv_bipush (v := 8) hx hb dX4_copy_6 (by decide) ?_
    refine lv_iconst (v := 4) hx hb dX4_copy_8 (by decide) ?_
    refine lv_iload_n hx hb dX4_copy_9 rfl (lv_at hl 1 rfl) ?_
    refine lv_iadd hx hb dX4_copy_10 ?_
    refine lv_imul hx hb dX4_copy_11 ?_
    obtain ⟨h_4, hok⟩ := hok
    refine k_callVv (As := [.int (8 * (4 + x1))]) (rest := []) hzz ⟨hx, hb, hml, hown, hts⟩ (c_m_emit l D am cI cZ zz hzz u (8 * (4 + x1)) h_4) (cwV 1 hts (tb_V tw_4_19 tw_4_21 slX4_emit tw_1_5 tw_4_22) rfl rfl rfl (by decide +kernel) ⟨Nat.le_of_ble_eq_true rfl, Nat.le_of_ble_eq_true rfl⟩) (va_recv hK hP (ci := 4) (q0 := 0) rfl rfl) rfl hl.1 rfl (lv_room (Nat.le_of_ble_eq_true rfl)) dX4_copy_12 ⟨Nat.le_of_ble_eq_true rfl, Nat.le_of_ble_eq_true rfl⟩ hP hK hD hS hA hZ (fun H locs hP hD hS => ?_)
    generalize eu_5 : p_m_emit u (8 * (4 + x1)) = u_5 at hP hD ⊢
    try rw [eu_5] at hok
    refine lv_goto (tgt := 25) hx hb dX4_copy_15 (by decide) ?_
    have e9 : p_m_copy u x1 = u_5 := by
      subst eu_5
      rw [p_m_copy, if_neg c_1]
    rw [e9]
    exact W.vret hx hb hr (fun t ht hW => ⟨⟨(), rfl, trivial, by rw [ht]; exact hP, va_K.moved hW.alike hK, hD⟩, hS.F ht⟩) hS.2.2 dX4_copy_25

def p_m_emitCompute (u : St) (x1 x2 x3 x4 : Int32) : St := (if 2 ≤ x1 then (if 4 ≤ x2 then (p_m_keep (p_m_emit ((p_m_fetch (p_m_copy u x3) x4 1).2) ((p_m_codeOf x1) + (8 * ((p_m_fetch (p_m_copy u x3) x4 1).1)))) x2) else (p_m_emit (p_m_emit ((p_m_fetch (p_m_copy u x3) x4 1).2) ((p_m_codeOf x1) + (8 * ((p_m_fetch (p_m_copy u x3) x4 1).1)))) (4 + x2))) else (if x1 = 0 then (p_m_keep (p_m_emit ((p_m_fetch ((p_m_fetch u x3 0).2) x4 1).2) (((6144 + (64 * ((p_m_fetch ((p_m_fetch u x3 0).2) x4 1).1))) + (8 * ((p_m_fetch u x3 0).1))) + (p_m_target x2))) x2) else (p_m_keep (p_m_emit ((p_m_fetch ((p_m_fetch u x3 0).2) x4 1).2) (((6656 + (64 * ((p_m_fetch ((p_m_fetch u x3 0).2) x4 1).1))) + (8 * ((p_m_fetch u x3 0).1))) + (p_m_target x2))) x2)))
def ok_m_emitCompute (u : St) (x1 x2 x3 x4 : Int32) : Prop := ((2 ≤ x1 → (ok_m_copy u x3 ∧ (ok_m_fetch (p_m_copy u x3) x4 1 ∧ (ok_m_emit ((p_m_fetch (p_m_copy u x3) x4 1).2) ((p_m_codeOf x1) + (8 * ((p_m_fetch (p_m_copy u x3) x4 1).1))) ∧ ((4 ≤ x2 → (ok_m_keep (p_m_emit ((p_m_fetch (p_m_copy u x3) x4 1).2) ((p_m_codeOf x1) + (8 * ((p_m_fetch (p_m_copy u x3) x4 1).1)))) x2 ∧ True)) ∧ (¬ 4 ≤ x2 → (ok_m_emit (p_m_emit ((p_m_fetch (p_m_copy u x3) x4 1).2) ((p_m_codeOf x1) + (8 * ((p_m_fetch (p_m_copy u x3) x4 1).1)))) (4 + x2) ∧ True))))))) ∧ (¬ 2 ≤ x1 → (ok_m_fetch u x3 0 ∧ (ok_m_fetch ((p_m_fetch u x3 0).2) x4 1 ∧ ((x1 = 0 → (ok_m_emit ((p_m_fetch ((p_m_fetch u x3 0).2) x4 1).2) (((6144 + (64 * ((p_m_fetch ((p_m_fetch u x3 0).2) x4 1).1))) + (8 * ((p_m_fetch u x3 0).1))) + (p_m_target x2)) ∧ (ok_m_keep (p_m_emit ((p_m_fetch ((p_m_fetch u x3 0).2) x4 1).2) (((6144 + (64 * ((p_m_fetch ((p_m_fetch u x3 0).2) x4 1).1))) + (8 * ((p_m_fetch u x3 0).1))) + (p_m_target x2))) x2 ∧ True))) ∧ (¬ x1 = 0 → (ok_m_emit ((p_m_fetch ((p_m_fetch u x3 0).2) x4 1).2) (((6656 + (64 * ((p_m_fetch ((p_m_fetch u x3 0).2) x4 1).1))) + (8 * ((p_m_fetch u x3 0).1))) + (p_m_target x2)) ∧ (ok_m_keep (p_m_emit ((p_m_fetch ((p_m_fetch u x3 0).2) x4 1).2) (((6656 + (64 * ((p_m_fetch ((p_m_fetch u x3 0).2) x4 1).1))) + (8 * ((p_m_fetch u x3 0).1))) + (p_m_target x2))) x2 ∧ True))))))))
set_option maxHeartbeats 4000000 in
set_option maxRecDepth 100000 in
theorem c_m_emitCompute (l : Launch) (D : va_G) (am : Nat → Nat) (cI cZ : ClassId) (zz : (Nat → Prop) → State → Heap → Prop) (hzz : Zok zz) (u : St) (x1 x2 x3 x4 : Int32) (hok : ok_m_emitCompute u x1 x2 x3 x4) : tfV l D vwCl (tyT cI cZ) zz yX4_emitCompute wsX4_emitCompute ({ frames := 3, cells := 0, slots := 0, locals := 64 } : Room) [.ref (am 0), .int x1, .int x2, .int x3, .int x4] (wM am cI cZ u) (wM am cI cZ (p_m_emitCompute u x1 x2 x3 x4)) := by
  intro sz
  unfold ok_m_emitCompute at hok
  refine Met.ofW (cc := cX4_emitCompute) (maxL := 7) (ret := none) (by decide) rfl ?_
  intro p e s m args below meth c s₁ B hml hv
  obtain ⟨rfl, hsz, hP, hK, hD0, hZ⟩ := hv
  have hx := B.exec
  have hb := B.bytes
  have hr := B.returns
  have hts := atoms_spec (ws := wsX4_emitCompute) B.pre
  have hown : s.vm.findClass RX4 = some m.cls := findClass_of_methodNamed B.named
  have hlocks := B.notSynchronized
  subst hsz
  have hD := hD0.self (sz := s.heap.size)
  generalize hAe : va_A (wM am cI cZ u) s.heap.size = A at hD hZ ⊢
  have hA : ∀ q : Nat, s.heap.size ≤ q → A q := fun q h => by rw [← hAe]; exact Or.inr h
  have hS : va_S A s.heap s.heap [] := va_S.rf
  have Cx : cxt p s m ([.ref (am 0), .int x1, .int x2, .int x3, .int x4] : List Value).toArray meth c cX4_emitCompute 7 none wsX4_emitCompute RX4 D vwCl (tyT cI cZ) zz A := ⟨hx, hb, hr, hts, hown, hlocks, hml, hK, hA, hZ⟩
  have hl := lv_entry ([.ref (am 0), .int x1, .int x2, .int x3, .int x4]) (n := 7) (Nat.le_of_ble_eq_true rfl)
  rw [lg_entry_eq]
  generalize (lg_sl ([.ref (am 0), .int x1, .int x2, .int x3, .int x4]) ++ List.replicate (7 - (lg_sl ([.ref (am 0), .int x1, .int x2, .int x3, .int x4])).length) Slot.unset).toArray = ls at hl ⊢
  have hl : lv_has ls 7 [(0, .ref (am 0)), (1, .int x1), (2, .int x2), (3, .int x3), (4, .int x4)] := hl
  refine lv_iload_n hx hb dX4_emitCompute_0 rfl (lv_at hl 1 rfl) ?_
  refine lv_iconst (v := 2) hx hb dX4_emitCompute_1 (by decide) ?_
  refine lv_icmp_ge (tgt := 64) hx hb dX4_emitCompute_2 (by decide) (fun c_1 => ?_) (fun c_1 => ?_)
  · have hok := hok.1 c_1
    refine lv_aload_n hx hb dX4_emitCompute_64 rfl (lv_at hl 0 rfl) ?_
    refine lv_iload_n hx hb dX4_emitCompute_65 rfl (lv_at hl 3 rfl) ?_
    obtain ⟨h_2, hok⟩ := hok
    refine k_callVv (As := [.int x3]) (rest := []) hzz ⟨hx, hb, hml, hown, hts⟩ (c_m_copy l D am cI cZ zz hzz u x3 h_2) (cwV 1 hts (tb_V tw_4_48 tw_4_50 slX4_copy tw_1_5 tw_4_51) rfl rfl rfl (by decide +kernel) ⟨Nat.le_of_ble_eq_true rfl, Nat.le_of_ble_eq_true rfl⟩) (va_recv hK hP (ci := 4) (q0 := 0) rfl rfl) rfl hl.1 rfl (lv_room (Nat.le_of_ble_eq_true rfl)) dX4_emitCompute_66 ⟨Nat.le_of_ble_eq_true rfl, Nat.le_of_ble_eq_true rfl⟩ hP hK hD hS hA hZ (fun H locs hP hD hS => ?_)
    generalize eu_3 : p_m_copy u x3 = u_3 at hP hD ⊢
    try rw [eu_3] at hok
    refine lv_aload_n hx hb dX4_emitCompute_69 rfl (lv_at hl 0 rfl) ?_
    refine lv_iload hx hb dX4_emitCompute_70 (lv_at hl 4 rfl) ?_
    refine lv_iconst (v := 1) hx hb dX4_emitCompute_72 (by decide) ?_
    obtain ⟨h_4, hok⟩ := hok
    refine k_callVi (As := [.int x4, .int 1]) (rest := []) hzz ⟨hx, hb, hml, hown, hts⟩ (c_m_fetch l D am cI cZ zz hzz u_3 x4 1 h_4) (cwV 2 hts (tb_V tw_4_43 tw_4_45 slX4_fetch tw_1_5 tw_4_46) rfl rfl rfl (by decide +kernel) ⟨Nat.le_of_ble_eq_true rfl, Nat.le_of_ble_eq_true rfl⟩) (va_recv hK hP (ci := 4) (q0 := 0) rfl rfl) rfl hl.1 rfl (lv_room (Nat.le_of_ble_eq_true rfl)) dX4_emitCompute_73 ⟨Nat.le_of_ble_eq_true rfl, Nat.le_of_ble_eq_true rfl⟩ hP hK hD hS hA hZ (fun H locs hP hD hS => ?_)
    generalize eu_5 : (p_m_fetch u_3 x4 1).2 = u_5 at hP hD ⊢
    try rw [eu_5] at hok
    refine lv_istore (lv' := [(5, .int ((p_m_fetch u_3 x4 1).1)), (0, .ref (am 0)), (1, .int x1), (2, .int x2), (3, .int x3), (4, .int x4)]) hx hb dX4_emitCompute_76 hl (by decide) rfl (fun ls hl => ?_)
    refine lv_aload_n hx hb dX4_emitCompute_78 rfl (lv_at hl 1 rfl) ?_
    refine lv_iload_n hx hb dX4_emitCompute_79 rfl (lv_at hl 2 rfl) ?_
    refine k_callSi (As := [.int x1]) (rest := [.ref (am 0)]) hzz ⟨hx, hb, hml, hown, hts⟩ (c_m_codeOf l D am cI cZ zz hzz (wM am cI cZ u_5) x1) (cwS 1 hts (tb_S tw_4_52 tw_4_53 tw_1_5 tw_4_54) rfl rfl rfl (by decide +kernel) ⟨Nat.le_of_ble_eq_true rfl, Nat.le_of_ble_eq_true rfl⟩) rfl hl.1 rfl (lv_room (Nat.le_of_ble_eq_true rfl)) dX4_emitCompute_80 ⟨Nat.le_of_ble_eq_true rfl, Nat.le_of_ble_eq_true rfl⟩ hP hK hD hS hA hZ (fun H locs hP hD hS => ?_)
    refine lv_bipush (v := 8) hx hb dX4_emitCompute_83 (by decide) ?_
    refine lv_iload hx hb dX4_emitCompute_85 (lv_at hl 0 rfl) ?_
    refine lv_imul hx hb dX4_emitCompute_87 ?_
    refine lv_iadd hx hb dX4_emitCompute_88 ?_
    obtain ⟨h_7, hok⟩ := hok
    refine k_callVv (As := [.int ((p_m_codeOf x1) + (8 * ((p_m_fetch u_3 x4 1).1)))]) (rest := []) hzz ⟨hx, hb, hml, hown, hts⟩ (c_m_emit l D am cI cZ zz hzz u_5 ((p_m_codeOf x1) + (8 * ((p_m_fetch u_3 x4 1).1))) h_7) (cwV 1 hts (tb_V tw_4_19 tw_4_21 slX4_emit tw_1_5 tw_4_22) rfl rfl rfl (by decide +kernel) ⟨Nat.le_of_ble_eq_true rfl, Nat.le_of_ble_eq_true rfl⟩) (va_recv hK hP (ci := 4) (q0 := 0) rfl rfl) rfl hl.1 rfl (lv_room (Nat.le_of_ble_eq_true rfl)) dX4_emitCompute_89 ⟨Nat.le_of_ble_eq_true rfl, Nat.le_of_ble_eq_true rfl⟩ hP hK hD hS hA hZ (fun H locs hP hD hS => ?_)
    generalize eu_8 : p_m_emit u_5 ((p_m_codeOf x1) + (8 * ((p_m_fetch u_3 x4 1).1))) = u_8 at hP hD ⊢
    try rw [eu_8] at hok
    refine lv_iload_n hx hb dX4_emitCompute_92 rfl (lv_at hl 3 rfl) ?_
    refine lv_iconst (v := 4) hx hb dX4_emitCompute_93 (by decide) ?_
    refine lv_icmp_ge (tgt := 107) hx hb dX4_emitCompute_94 (by decide) (fun c_9 => ?_) (fun c_9 => ?_)
    · have hok := hok.1 c_9
      refine lv_aload_n hx hb dX4_emitCompute_107 rfl (lv_at hl 1 rfl) ?_
      refine lv_iload_n hx hb dX4_emitCompute_108 rfl (lv_at hl 3 rfl) ?_
      obtain ⟨h_10, hok⟩ := hok
      refine k_callVv (As := [.int x2]) (rest := []) hzz ⟨hx, hb, hml, hown, hts⟩ (c_m_keep l D am cI cZ zz hzz u_8 x2 h_10) (cwV 1 hts (tb_V tw_4_34 tw_4_36 slX4_keep tw_1_5 tw_4_37) rfl rfl rfl (by decide +kernel) ⟨Nat.le_of_ble_eq_true rfl, Nat.le_of_ble_eq_true rfl⟩) (va_recv hK hP (ci := 4) (q0 := 0) rfl rfl) rfl hl.1 rfl (lv_room (Nat.le_of_ble_eq_true rfl)) dX4_emitCompute_109 ⟨Nat.le_of_ble_eq_true rfl, Nat.le_of_ble_eq_true rfl⟩ hP hK hD hS hA hZ (fun H locs hP hD hS => ?_)
      generalize eu_11 : p_m_keep u_8 x2 = u_11 at hP hD ⊢
      try rw [eu_11] at hok
      have e9 : p_m_emitCompute u x1 x2 x3 x4 = u_11 := by
        subst eu_11
        subst eu_8
        subst eu_5
        subst eu_3
        rw [p_m_emitCompute, if_pos c_1, if_pos c_9]
      rw [e9]
      exact W.vret hx hb hr (fun t ht hW => ⟨⟨(), rfl, trivial, by rw [ht]; exact hP, va_K.moved hW.alike hK, hD⟩, hS.F ht⟩) hS.2.2 dX4_emitCompute_112
    · have hok := hok.2 c_9
      refine lv_aload_n hx hb dX4_emitCompute_97 rfl (lv_at hl 1 rfl) ?_
      refine lv_iconst (v := 4) hx hb dX4_emitCompute_98 (by decide) ?_
      refine lv_iload_n hx hb dX4_emitCompute_99 rfl (lv_at hl 3 rfl) ?_
      refine lv_iadd hx hb dX4_emitCompute_100 ?_
      obtain ⟨h_12, hok⟩ := hok
      refine k_callVv (As := [.int (4 + x2)]) (rest := []) hzz ⟨hx, hb, hml, hown, hts⟩ (c_m_emit l D am cI cZ zz hzz u_8 (4 + x2) h_12) (cwV 1 hts (tb_V tw_4_19 tw_4_21 slX4_emit tw_1_5 tw_4_22) rfl rfl rfl (by decide +kernel) ⟨Nat.le_of_ble_eq_true rfl, Nat.le_of_ble_eq_true rfl⟩) (va_recv hK hP (ci := 4) (q0 := 0) rfl rfl) rfl hl.1 rfl (lv_room (Nat.le_of_ble_eq_true rfl)) dX4_emitCompute_101 ⟨Nat.le_of_ble_eq_true rfl, Nat.le_of_ble_eq_true rfl⟩ hP hK hD hS hA hZ (fun H locs hP hD hS => ?_)
      generalize eu_13 : p_m_emit u_8 (4 + x2) = u_13 at hP hD ⊢
      try rw [eu_13] at hok
      refine lv_goto (tgt := 112) hx hb dX4_emitCompute_104 (by decide) ?_
      have e9 : p_m_emitCompute u x1 x2 x3 x4 = u_13 := by
        subst eu_13
        subst eu_8
        subst eu_5
        subst eu_3
        rw [p_m_emitCompute, if_pos c_1, if_neg c_9]
      rw [e9]
      exact W.vret hx hb hr (fun t ht hW => ⟨⟨(), rfl, trivial, by rw [ht]; exact hP, va_K.moved hW.alike hK, hD⟩, hS.F ht⟩) hS.2.2 dX4_emitCompute_112
  · have hok := hok.2 c_1
    refine lv_aload_n hx hb dX4_emitCompute_5 rfl (lv_at hl 0 rfl) ?_
    refine lv_iload_n hx hb dX4_emitCompute_6 rfl (lv_at hl 3 rfl) ?_
    refine lv_iconst (v := 0) hx hb dX4_emitCompute_7 (by decide) ?_
    obtain ⟨h_14, hok⟩ := hok
    refine k_callVi (As := [.int x3, .int 0]) (rest := []) hzz ⟨hx, hb, hml, hown, hts⟩ (c_m_fetch l D am cI cZ zz hzz u x3 0 h_14) (cwV 2 hts (tb_V tw_4_43 tw_4_45 slX4_fetch tw_1_5 tw_4_46) rfl rfl rfl (by decide +kernel) ⟨Nat.le_of_ble_eq_true rfl, Nat.le_of_ble_eq_true rfl⟩) (va_recv hK hP (ci := 4) (q0 := 0) rfl rfl) rfl hl.1 rfl (lv_room (Nat.le_of_ble_eq_true rfl)) dX4_emitCompute_8 ⟨Nat.le_of_ble_eq_true rfl, Nat.le_of_ble_eq_true rfl⟩ hP hK hD hS hA hZ (fun H locs hP hD hS => ?_)
    generalize eu_15 : (p_m_fetch u x3 0).2 = u_15 at hP hD ⊢
    try rw [eu_15] at hok
    refine lv_istore (lv' := [(5, .int ((p_m_fetch u x3 0).1)), (0, .ref (am 0)), (1, .int x1), (2, .int x2), (3, .int x3), (4, .int x4)]) hx hb dX4_emitCompute_11 hl (by decide) rfl (fun ls hl => ?_)
    refine lv_aload_n hx hb dX4_emitCompute_13 rfl (lv_at hl 1 rfl) ?_
    refine lv_iload hx hb dX4_emitCompute_14 (lv_at hl 5 rfl) ?_
    refine lv_iconst (v := 1) hx hb dX4_emitCompute_16 (by decide) ?_
    obtain ⟨h_16, hok⟩ := hok
    refine k_callVi (As := [.int x4, .int 1]) (rest := []) hzz ⟨hx, hb, hml, hown, hts⟩ (c_m_fetch l D am cI cZ zz hzz u_15 x4 1 h_16) (cwV 2 hts (tb_V tw_4_43 tw_4_45 slX4_fetch tw_1_5 tw_4_46) rfl rfl rfl (by decide +kernel) ⟨Nat.le_of_ble_eq_true rfl, Nat.le_of_ble_eq_true rfl⟩) (va_recv hK hP (ci := 4) (q0 := 0) rfl rfl) rfl hl.1 rfl (lv_room (Nat.le_of_ble_eq_true rfl)) dX4_emitCompute_17 ⟨Nat.le_of_ble_eq_true rfl, Nat.le_of_ble_eq_true rfl⟩ hP hK hD hS hA hZ (fun H locs hP hD hS => ?_)
    generalize eu_17 : (p_m_fetch u_15 x4 1).2 = u_17 at hP hD ⊢
    try rw [eu_17] at hok
    refine lv_istore (lv' := [(6, .int ((p_m_fetch u_15 x4 1).1)), (5, .int ((p_m_fetch u x3 0).1)), (0, .ref (am 0)), (1, .int x1), (2, .int x2), (3, .int x3), (4, .int x4)]) hx hb dX4_emitCompute_20 hl (by decide) rfl (fun ls hl => ?_)
    refine lv_aload_n hx hb dX4_emitCompute_22 rfl (lv_at hl 2 rfl) ?_
    refine lv_iload_n hx hb dX4_emitCompute_23 rfl (lv_at hl 3 rfl) ?_
    refine lv_if_ne (tgt := 33) hx hb dX4_emitCompute_24 (by decide) (fun c_18 => ?_) (fun c_18 => ?_)
    · have hok := hok.2 c_18
      refine lv_sipush (v := 6656) hx hb dX4_emitCompute_33 (by decide) ?_
      refine lv_bipush (v := 64) hx hb dX4_emitCompute_36 (by decide) ?_
      refine lv_iload hx hb dX4_emitCompute_38 (lv_at hl 0 rfl) ?_
      refine lv_imul hx hb dX4_emitCompute_40 ?_
      refine lv_iadd hx hb dX4_emitCompute_41 ?_
      refine lv_bipush (v := 8) hx hb dX4_emitCompute_42 (by decide) ?_
      refine lv_iload hx hb dX4_emitCompute_44 (lv_at hl 1 rfl) ?_
      refine lv_imul hx hb dX4_emitCompute_46 ?_
      refine lv_iadd hx hb dX4_emitCompute_47 ?_
      refine lv_iload_n hx hb dX4_emitCompute_48 rfl (lv_at hl 4 rfl) ?_
      refine k_callSi (As := [.int x2]) (rest := [.int ((6656 + (64 * ((p_m_fetch u_15 x4 1).1))) + (8 * ((p_m_fetch u x3 0).1))), .ref (am 0)]) hzz ⟨hx, hb, hml, hown, hts⟩ (c_m_target l D am cI cZ zz hzz (wM am cI cZ u_17) x2) (cwS 1 hts (tb_S tw_4_27 tw_4_28 tw_1_5 tw_4_29) rfl rfl rfl (by decide +kernel) ⟨Nat.le_of_ble_eq_true rfl, Nat.le_of_ble_eq_true rfl⟩) rfl hl.1 rfl (lv_room (Nat.le_of_ble_eq_true rfl)) dX4_emitCompute_49 ⟨Nat.le_of_ble_eq_true rfl, Nat.le_of_ble_eq_true rfl⟩ hP hK hD hS hA hZ (fun H locs hP hD hS => ?_)
      refine lv_iadd hx hb dX4_emitCompute_52 ?_
      obtain ⟨h_20, hok⟩ := hok
      refine k_callVv (As := [.int (((6656 + (64 * ((p_m_fetch u_15 x4 1).1))) + (8 * ((p_m_fetch u x3 0).1))) + (p_m_target x2))]) (rest := []) hzz ⟨hx, hb, hml, hown, hts⟩ (c_m_emit l D am cI cZ zz hzz u_17 (((6656 + (64 * ((p_m_fetch u_15 x4 1).1))) + (8 * ((p_m_fetch u x3 0).1))) + (p_m_target x2)) h_20) (cwV 1 hts (tb_V tw_4_19 tw_4_21 slX4_emit tw_1_5 tw_4_22) rfl rfl rfl (by decide +kernel) ⟨Nat.le_of_ble_eq_true rfl, Nat.le_of_ble_eq_true rfl⟩) (va_recv hK hP (ci := 4) (q0 := 0) rfl rfl) rfl hl.1 rfl (lv_room (Nat.le_of_ble_eq_true rfl)) dX4_emitCompute_53 ⟨Nat.le_of_ble_eq_true rfl, Nat.le_of_ble_eq_true rfl⟩ hP hK hD hS hA hZ (fun H locs hP hD hS => ?_)
      generalize eu_21 : p_m_emit u_17 (((6656 + (64 * ((p_m_fetch u_15 x4 1).1))) + (8 * ((p_m_fetch u x3 0).1))) + (p_m_target x2)) = u_21 at hP hD ⊢
      try rw [eu_21] at hok
      refine lv_aload_n hx hb dX4_emitCompute_56 rfl (lv_at hl 2 rfl) ?_
      refine lv_iload_n hx hb dX4_emitCompute_57 rfl (lv_at hl 4 rfl) ?_
      obtain ⟨h_22, hok⟩ := hok
      refine k_callVv (As := [.int x2]) (rest := []) hzz ⟨hx, hb, hml, hown, hts⟩ (c_m_keep l D am cI cZ zz hzz u_21 x2 h_22) (cwV 1 hts (tb_V tw_4_34 tw_4_36 slX4_keep tw_1_5 tw_4_37) rfl rfl rfl (by decide +kernel) ⟨Nat.le_of_ble_eq_true rfl, Nat.le_of_ble_eq_true rfl⟩) (va_recv hK hP (ci := 4) (q0 := 0) rfl rfl) rfl hl.1 rfl (lv_room (Nat.le_of_ble_eq_true rfl)) dX4_emitCompute_58 ⟨Nat.le_of_ble_eq_true rfl, Nat.le_of_ble_eq_true rfl⟩ hP hK hD hS hA hZ (fun H locs hP hD hS => ?_)
      generalize eu_23 : p_m_keep u_21 x2 = u_23 at hP hD ⊢
      try rw [eu_23] at hok
      refine lv_goto (tgt := 112) hx hb dX4_emitCompute_61 (by decide) ?_
      have e9 : p_m_emitCompute u x1 x2 x3 x4 = u_23 := by
        subst eu_23
        subst eu_21
        subst eu_17
        subst eu_15
        rw [p_m_emitCompute, if_neg c_1, if_neg c_18]
      rw [e9]
      exact W.vret hx hb hr (fun t ht hW => ⟨⟨(), rfl, trivial, by rw [ht]; exact hP, va_K.moved hW.alike hK, hD⟩, hS.F ht⟩) hS.2.2 dX4_emitCompute_112
    · have hok := hok.1 c_18
      refine lv_sipush (v := 6144) hx hb dX4_emitCompute_27 (by decide) ?_
      refine lv_goto (tgt := 36) hx hb dX4_emitCompute_30 (by decide) ?_
      refine lv_bipush (v := 64) hx hb dX4_emitCompute_36 (by decide) ?_
      refine lv_iload hx hb dX4_emitCompute_38 (lv_at hl 0 rfl) ?_
      refine lv_imul hx hb dX4_emitCompute_40 ?_
      refine lv_iadd hx hb dX4_emitCompute_41 ?_
      refine lv_bipush (v := 8) hx hb dX4_emitCompute_42 (by decide) ?_
      refine lv_iload hx hb dX4_emitCompute_44 (lv_at hl 1 rfl) ?_
      refine lv_imul hx hb dX4_emitCompute_46 ?_
      refine lv_iadd hx hb dX4_emitCompute_47 ?_
      refine lv_iload_n hx hb dX4_emitCompute_48 rfl (lv_at hl 4 rfl) ?_
      refine k_callSi (As := [.int x2]) (rest := [.int ((6144 + (64 * ((p_m_fetch u_15 x4 1).1))) + (8 * ((p_m_fetch u x3 0).1))), .ref (am 0)]) hzz ⟨hx, hb, hml, hown, hts⟩ (c_m_target l D am cI cZ zz hzz (wM am cI cZ u_17) x2) (cwS 1 hts (tb_S tw_4_27 tw_4_28 tw_1_5 tw_4_29) rfl rfl rfl (by decide +kernel) ⟨Nat.le_of_ble_eq_true rfl, Nat.le_of_ble_eq_true rfl⟩) rfl hl.1 rfl (lv_room (Nat.le_of_ble_eq_true rfl)) dX4_emitCompute_49 ⟨Nat.le_of_ble_eq_true rfl, Nat.le_of_ble_eq_true rfl⟩ hP hK hD hS hA hZ (fun H locs hP hD hS => ?_)
      refine lv_iadd hx hb dX4_emitCompute_52 ?_
      obtain ⟨h_25, hok⟩ := hok
      refine k_callVv (As := [.int (((6144 + (64 * ((p_m_fetch u_15 x4 1).1))) + (8 * ((p_m_fetch u x3 0).1))) + (p_m_target x2))]) (rest := []) hzz ⟨hx, hb, hml, hown, hts⟩ (c_m_emit l D am cI cZ zz hzz u_17 (((6144 + (64 * ((p_m_fetch u_15 x4 1).1))) + (8 * ((p_m_fetch u x3 0).1))) + (p_m_target x2)) h_25) (cwV 1 hts (tb_V tw_4_19 tw_4_21 slX4_emit tw_1_5 tw_4_22) rfl rfl rfl (by decide +kernel) ⟨Nat.le_of_ble_eq_true rfl, Nat.le_of_ble_eq_true rfl⟩) (va_recv hK hP (ci := 4) (q0 := 0) rfl rfl) rfl hl.1 rfl (lv_room (Nat.le_of_ble_eq_true rfl)) dX4_emitCompute_53 ⟨Nat.le_of_ble_eq_true rfl, Nat.le_of_ble_eq_true rfl⟩ hP hK hD hS hA hZ (fun H locs hP hD hS => ?_)
      generalize eu_26 : p_m_emit u_17 (((6144 + (64 * ((p_m_fetch u_15 x4 1).1))) + (8 * ((p_m_fetch u x3 0).1))) + (p_m_target x2)) = u_26 at hP hD ⊢
      try rw [eu_26] at hok
      refine lv_aload_n hx hb dX4_emitCompute_56 rfl (lv_at hl 2 rfl) ?_
      refine lv_iload_n hx hb dX4_emitCompute_57 rfl (lv_at hl 4 rfl) ?_
      obtain ⟨h_27, hok⟩ := hok
      refine k_callVv (As := [.int x2]) (rest := []) hzz ⟨hx, hb, hml, hown, hts⟩ (c_m_keep l D am cI cZ zz hzz u_26 x2 h_27) (cwV 1 hts (tb_V tw_4_34 tw_4_36 slX4_keep tw_1_5 tw_4_37) rfl rfl rfl (by decide +kernel) ⟨Nat.le_of_ble_eq_true rfl, Nat.le_of_ble_eq_true rfl⟩) (va_recv hK hP (ci := 4) (q0 := 0) rfl rfl) rfl hl.1 rfl (lv_room (Nat.le_of_ble_eq_true rfl)) dX4_emitCompute_58 ⟨Nat.le_of_ble_eq_true rfl, Nat.le_of_ble_eq_true rfl⟩ hP hK hD hS hA hZ (fun H locs hP hD hS => ?_)
      generalize eu_28 : p_m_keep u_26 x2 = u_28 at hP hD ⊢
      try rw [eu_28] at hok
      refine lv_goto (tgt := 112) hx hb dX4_emitCompute_61 (by decide) ?_
      have e9 : p_m_emitCompute u x1 x2 x3 x4 = u_28 := by
        subst eu_28
        subst eu_26
        subst eu_17
        subst eu_15
        rw [p_m_emitCompute, if_neg c_1, if_pos c_18]
      rw [e9]
      exact W.vret hx hb hr (fun t ht hW => ⟨⟨(), rfl, trivial, by rw [ht]; exact hP, va_K.moved hW.alike hK, hD⟩, hS.F ht⟩) hS.2.2 dX4_emitCompute_112

def p_m_emitPlace (u : St) (x1 : Int32) : St := (p_m_emit (p_m_emit (p_m_emit u 8455) (16385 + (8 * x1))) 137)
def ok_m_emitPlace (u : St) (x1 : Int32) : Prop := (ok_m_emit u 8455 ∧ (ok_m_emit (p_m_emit u 8455) (16385 + (8 * x1)) ∧ (ok_m_emit (p_m_emit (p_m_emit u 8455) (16385 + (8 * x1))) 137 ∧ True)))
set_option maxHeartbeats 4000000 in
set_option maxRecDepth 100000 in
theorem c_m_emitPlace (l : Launch) (D : va_G) (am : Nat → Nat) (cI cZ : ClassId) (zz : (Nat → Prop) → State → Heap → Prop) (hzz : Zok zz) (u : St) (x1 : Int32) (hok : ok_m_emitPlace u x1) : tfV l D vwCl (tyT cI cZ) zz yX4_emitPlace wsX4_emitPlace ({ frames := 1, cells := 0, slots := 0, locals := 21 } : Room) [.ref (am 0), .int x1] (wM am cI cZ u) (wM am cI cZ (p_m_emitPlace u x1)) := by
  intro sz
  unfold ok_m_emitPlace at hok
  refine Met.ofW (cc := cX4_emitPlace) (maxL := 2) (ret := none) (by decide) rfl ?_
  intro p e s m args below meth c s₁ B hml hv
  obtain ⟨rfl, hsz, hP, hK, hD0, hZ⟩ := hv
  have hx := B.exec
  have hb := B.bytes
  have hr := B.returns
  have hts := atoms_spec (ws := wsX4_emitPlace) B.pre
  have hown : s.vm.findClass RX4 = some m.cls := findClass_of_methodNamed B.named
  have hlocks := B.notSynchronized
  subst hsz
  have hD := hD0.self (sz := s.heap.size)
  generalize hAe : va_A (wM am cI cZ u) s.heap.size = A at hD hZ ⊢
  have hA : ∀ q : Nat, s.heap.size ≤ q → A q := fun q h => by rw [← hAe]; exact Or.inr h
  have hS : va_S A s.heap s.heap [] := va_S.rf
  have Cx : cxt p s m ([.ref (am 0), .int x1] : List Value).toArray meth c cX4_emitPlace 2 none wsX4_emitPlace RX4 D vwCl (tyT cI cZ) zz A := ⟨hx, hb, hr, hts, hown, hlocks, hml, hK, hA, hZ⟩
  have hl := lv_entry ([.ref (am 0), .int x1]) (n := 2) (Nat.le_of_ble_eq_true rfl)
  rw [lg_entry_eq]
  generalize (lg_sl ([.ref (am 0), .int x1]) ++ List.replicate (2 - (lg_sl ([.ref (am 0), .int x1])).length) Slot.unset).toArray = ls at hl ⊢
  have hl : lv_has ls 2 [(0, .ref (am 0)), (1, .int x1)] := hl
  refine lv_aload_n hx hb dX4_emitPlace_0 rfl (lv_at hl 0 rfl) ?_
  refine lv_sipush (v := 8455) hx hb dX4_emitPlace_1 (by decide) ?_
  obtain ⟨h_1, hok⟩ := hok
  refine k_callVv (As := [.int 8455]) (rest := []) hzz ⟨hx, hb, hml, hown, hts⟩ (c_m_emit l D am cI cZ zz hzz u 8455 h_1) (cwV 1 hts (tb_V tw_4_19 tw_4_21 slX4_emit tw_1_5 tw_4_22) rfl rfl rfl (by decide +kernel) ⟨Nat.le_of_ble_eq_true rfl, Nat.le_of_ble_eq_true rfl⟩) (va_recv hK hP (ci := 4) (q0 := 0) rfl rfl) rfl hl.1 rfl (lv_room (Nat.le_of_ble_eq_true rfl)) dX4_emitPlace_4 ⟨Nat.le_of_ble_eq_true rfl, Nat.le_of_ble_eq_true rfl⟩ hP hK hD hS hA hZ (fun H locs hP hD hS => ?_)
  generalize eu_2 : p_m_emit u 8455 = u_2 at hP hD ⊢
  try rw [eu_2] at hok
  refine lv_aload_n hx hb dX4_emitPlace_7 rfl (lv_at hl 0 rfl) ?_
  refine lv_sipush (v := 16385) hx hb dX4_emitPlace_8 (by decide) ?_
  refine lv_bipush (v := 8) hx hb dX4_emitPlace_11 (by decide) ?_
  refine lv_iload_n hx hb dX4_emitPlace_13 rfl (lv_at hl 1 rfl) ?_
  refine lv_imul hx hb dX4_emitPlace_14 ?_
  refine lv_iadd hx hb dX4_emitPlace_15 ?_
  obtain ⟨h_3, hok⟩ := hok
  refine k_callVv (As := [.int (16385 + (8 * x1))]) (rest := []) hzz ⟨hx, hb, hml, hown, hts⟩ (c_m_emit l D am cI cZ zz hzz u_2 (16385 + (8 * x1)) h_3) (cwV 1 hts (tb_V tw_4_19 tw_4_21 slX4_emit tw_1_5 tw_4_22) rfl rfl rfl (by decide +kernel) ⟨Nat.le_of_ble_eq_true rfl, Nat.le_of_ble_eq_true rfl⟩) (va_recv hK hP (ci := 4) (q0 := 0) rfl rfl) rfl hl.1 rfl (lv_room (Nat.le_of_ble_eq_true rfl)) dX4_emitPlace_16 ⟨Nat.le_of_ble_eq_true rfl, Nat.le_of_ble_eq_true rfl⟩ hP hK hD hS hA hZ (fun H locs hP hD hS => ?_)
  generalize eu_4 : p_m_emit u_2 (16385 + (8 * x1)) = u_4 at hP hD ⊢
  try rw [eu_4] at hok
  refine lv_aload_n hx hb dX4_emitPlace_19 rfl (lv_at hl 0 rfl) ?_
  refine lv_sipush (v := 137) hx hb dX4_emitPlace_20 (by decide) ?_
  obtain ⟨h_5, hok⟩ := hok
  refine k_callVv (As := [.int 137]) (rest := []) hzz ⟨hx, hb, hml, hown, hts⟩ (c_m_emit l D am cI cZ zz hzz u_4 137 h_5) (cwV 1 hts (tb_V tw_4_19 tw_4_21 slX4_emit tw_1_5 tw_4_22) rfl rfl rfl (by decide +kernel) ⟨Nat.le_of_ble_eq_true rfl, Nat.le_of_ble_eq_true rfl⟩) (va_recv hK hP (ci := 4) (q0 := 0) rfl rfl) rfl hl.1 rfl (lv_room (Nat.le_of_ble_eq_true rfl)) dX4_emitPlace_23 ⟨Nat.le_of_ble_eq_true rfl, Nat.le_of_ble_eq_true rfl⟩ hP hK hD hS hA hZ (fun H locs hP hD hS => ?_)
  generalize eu_6 : p_m_emit u_4 137 = u_6 at hP hD ⊢
  try rw [eu_6] at hok
  have e9 : p_m_emitPlace u x1 = u_6 := by
    subst eu_6
    subst eu_4
    subst eu_2
    rw [p_m_emitPlace]
  rw [e9]
  exact W.vret hx hb hr (fun t ht hW => ⟨⟨(), rfl, trivial, by rw [ht]; exact hP, va_K.moved hW.alike hK, hD⟩, hS.F ht⟩) hS.2.2 dX4_emitPlace_26

def p_m_emitJump (u : St) (x1 : Int32) : St := (p_m_emit u (57344 + ((p_m_way u (u.1 3) x1) &&& 2047)))
def ok_m_emitJump (u : St) (x1 : Int32) : Prop := (ok_m_way u (u.1 3) x1 ∧ (ok_m_emit u (57344 + ((p_m_way u (u.1 3) x1) &&& 2047)) ∧ True))
set_option maxHeartbeats 4000000 in
set_option maxRecDepth 100000 in
theorem c_m_emitJump (l : Launch) (D : va_G) (am : Nat → Nat) (cI cZ : ClassId) (zz : (Nat → Prop) → State → Heap → Prop) (hzz : Zok zz) (u : St) (x1 : Int32) (hok : ok_m_emitJump u x1) : tfV l D vwCl (tyT cI cZ) zz yX4_emitJump wsX4_emitJump ({ frames := 1, cells := 0, slots := 0, locals := 22 } : Room) [.ref (am 0), .int x1] (wM am cI cZ u) (wM am cI cZ (p_m_emitJump u x1)) := by
  intro sz
  unfold ok_m_emitJump at hok
  refine Met.ofW (cc := cX4_emitJump) (maxL := 2) (ret := none) (by decide) rfl ?_
  intro p e s m args below meth c s₁ B hml hv
  obtain ⟨rfl, hsz, hP, hK, hD0, hZ⟩ := hv
  have hx := B.exec
  have hb := B.bytes
  have hr := B.returns
  have hts := atoms_spec (ws := wsX4_emitJump) B.pre
  have hown : s.vm.findClass RX4 = some m.cls := findClass_of_methodNamed B.named
  have hlocks := B.notSynchronized
  subst hsz
  have hD := hD0.self (sz := s.heap.size)
  generalize hAe : va_A (wM am cI cZ u) s.heap.size = A at hD hZ ⊢
  have hA : ∀ q : Nat, s.heap.size ≤ q → A q := fun q h => by rw [← hAe]; exact Or.inr h
  have hS : va_S A s.heap s.heap [] := va_S.rf
  have Cx : cxt p s m ([.ref (am 0), .int x1] : List Value).toArray meth c cX4_emitJump 2 none wsX4_emitJump RX4 D vwCl (tyT cI cZ) zz A := ⟨hx, hb, hr, hts, hown, hlocks, hml, hK, hA, hZ⟩
  have hl := lv_entry ([.ref (am 0), .int x1]) (n := 2) (Nat.le_of_ble_eq_true rfl)
  rw [lg_entry_eq]
  generalize (lg_sl ([.ref (am 0), .int x1]) ++ List.replicate (2 - (lg_sl ([.ref (am 0), .int x1])).length) Slot.unset).toArray = ls at hl ⊢
  have hl : lv_has ls 2 [(0, .ref (am 0)), (1, .int x1)] := hl
  refine lv_aload_n hx hb dX4_emitJump_0 rfl (lv_at hl 0 rfl) ?_
  refine lv_ldc (v := 57344) hx hb hown (hts _ (tb_c tw_4_63)) dX4_emitJump_1 ?_
  refine lv_aload_n hx hb dX4_emitJump_3 rfl (lv_at hl 0 rfl) ?_
  refine lv_aload_n hx hb dX4_emitJump_4 rfl (lv_at hl 0 rfl) ?_
  refine va_get (ci := 4) (v := .int (u.1 3)) (C := RX4) (T := TX4) (N := 22) hx hb hts (ivX4 _) hown hK hP 0 rfl rfl 9 (by decide) (hts _ (tb_c tw_3_110)) (fun _ h9 => h9) rfl dX4_emitJump_5 ?_
  refine lv_iload_n hx hb dX4_emitJump_8 rfl (lv_at hl 1 rfl) ?_
  obtain ⟨h_1, hok⟩ := hok
  refine k_callVi (As := [.int (u.1 3), .int x1]) (rest := [.int 57344, .ref (am 0)]) hzz ⟨hx, hb, hml, hown, hts⟩ (c_m_way l D am cI cZ zz hzz u (u.1 3) x1 h_1) (cwV 2 hts (tb_V tw_4_10 tw_4_12 slX4_way tw_1_5 tw_4_13) rfl rfl rfl (by decide +kernel) ⟨Nat.le_of_ble_eq_true rfl, Nat.le_of_ble_eq_true rfl⟩) (va_recv hK hP (ci := 4) (q0 := 0) rfl rfl) rfl hl.1 rfl (lv_room (Nat.le_of_ble_eq_true rfl)) dX4_emitJump_9 ⟨Nat.le_of_ble_eq_true rfl, Nat.le_of_ble_eq_true rfl⟩ hP hK hD hS hA hZ (fun H locs hP hD hS => ?_)
  refine lv_sipush (v := 2047) hx hb dX4_emitJump_12 (by decide) ?_
  refine lv_iand hx hb dX4_emitJump_15 ?_
  refine lv_iadd hx hb dX4_emitJump_16 ?_
  obtain ⟨h_2, hok⟩ := hok
  refine k_callVv (As := [.int (57344 + ((p_m_way u (u.1 3) x1) &&& 2047))]) (rest := []) hzz ⟨hx, hb, hml, hown, hts⟩ (c_m_emit l D am cI cZ zz hzz u (57344 + ((p_m_way u (u.1 3) x1) &&& 2047)) h_2) (cwV 1 hts (tb_V tw_4_19 tw_4_21 slX4_emit tw_1_5 tw_4_22) rfl rfl rfl (by decide +kernel) ⟨Nat.le_of_ble_eq_true rfl, Nat.le_of_ble_eq_true rfl⟩) (va_recv hK hP (ci := 4) (q0 := 0) rfl rfl) rfl hl.1 rfl (lv_room (Nat.le_of_ble_eq_true rfl)) dX4_emitJump_17 ⟨Nat.le_of_ble_eq_true rfl, Nat.le_of_ble_eq_true rfl⟩ hP hK hD hS hA hZ (fun H locs hP hD hS => ?_)
  generalize eu_3 : p_m_emit u (57344 + ((p_m_way u (u.1 3) x1) &&& 2047)) = u_3 at hP hD ⊢
  try rw [eu_3] at hok
  have e9 : p_m_emitJump u x1 = u_3 := by
    subst eu_3
    rw [p_m_emitJump]
  rw [e9]
  exact W.vret hx hb hr (fun t ht hW => ⟨⟨(), rfl, trivial, by rw [ht]; exact hP, va_K.moved hW.alike hK, hD⟩, hS.F ht⟩) hS.2.2 dX4_emitJump_20

def p_m_emitBranch (u : St) (x1 : Int32) : St := (if ((p_m_emit ((p_m_fetch ((p_m_fetch u (u.2 2 x1.toNatClampNeg) 0).2) (((p_m_fetch u (u.2 2 x1.toNatClampNeg) 0).2).2 3 x1.toNatClampNeg) 1).2) ((17024 + (8 * ((p_m_fetch ((p_m_fetch u (u.2 2 x1.toNatClampNeg) 0).2) (((p_m_fetch u (u.2 2 x1.toNatClampNeg) 0).2).2 3 x1.toNatClampNeg) 1).1))) + ((p_m_fetch u (u.2 2 x1.toNatClampNeg) 0).1))).2 8 x1.toNatClampNeg) = 0 then (p_m_emit (p_m_emit ((p_m_fetch ((p_m_fetch u (u.2 2 x1.toNatClampNeg) 0).2) (((p_m_fetch u (u.2 2 x1.toNatClampNeg) 0).2).2 3 x1.toNatClampNeg) 1).2) ((17024 + (8 * ((p_m_fetch ((p_m_fetch u (u.2 2 x1.toNatClampNeg) 0).2) (((p_m_fetch u (u.2 2 x1.toNatClampNeg) 0).2).2 3 x1.toNatClampNeg) 1).1))) + ((p_m_fetch u (u.2 2 x1.toNatClampNeg) 0).1))) ((53248 + (256 * ((p_m_emit ((p_m_fetch ((p_m_fetch u (u.2 2 x1.toNatClampNeg) 0).2) (((p_m_fetch u (u.2 2 x1.toNatClampNeg) 0).2).2 3 x1.toNatClampNeg) 1).2) ((17024 + (8 * ((p_m_fetch ((p_m_fetch u (u.2 2 x1.toNatClampNeg) 0).2) (((p_m_fetch u (u.2 2 x1.toNatClampNeg) 0).2).2 3 x1.toNatClampNeg) 1).1))) + ((p_m_fetch u (u.2 2 x1.toNatClampNeg) 0).1))).2 1 x1.toNatClampNeg))) + ((p_m_way (p_m_emit ((p_m_fetch ((p_m_fetch u (u.2 2 x1.toNatClampNeg) 0).2) (((p_m_fetch u (u.2 2 x1.toNatClampNeg) 0).2).2 3 x1.toNatClampNeg) 1).2) ((17024 + (8 * ((p_m_fetch ((p_m_fetch u (u.2 2 x1.toNatClampNeg) 0).2) (((p_m_fetch u (u.2 2 x1.toNatClampNeg) 0).2).2 3 x1.toNatClampNeg) 1).1))) + ((p_m_fetch u (u.2 2 x1.toNatClampNeg) 0).1))) ((p_m_emit ((p_m_fetch ((p_m_fetch u (u.2 2 x1.toNatClampNeg) 0).2) (((p_m_fetch u (u.2 2 x1.toNatClampNeg) 0).2).2 3 x1.toNatClampNeg) 1).2) ((17024 + (8 * ((p_m_fetch ((p_m_fetch u (u.2 2 x1.toNatClampNeg) 0).2) (((p_m_fetch u (u.2 2 x1.toNatClampNeg) 0).2).2 3 x1.toNatClampNeg) 1).1))) + ((p_m_fetch u (u.2 2 x1.toNatClampNeg) 0).1))).1 3) ((p_m_emit ((p_m_fetch ((p_m_fetch u (u.2 2 x1.toNatClampNeg) 0).2) (((p_m_fetch u (u.2 2 x1.toNatClampNeg) 0).2).2 3 x1.toNatClampNeg) 1).2) ((17024 + (8 * ((p_m_fetch ((p_m_fetch u (u.2 2 x1.toNatClampNeg) 0).2) (((p_m_fetch u (u.2 2 x1.toNatClampNeg) 0).2).2 3 x1.toNatClampNeg) 1).1))) + ((p_m_fetch u (u.2 2 x1.toNatClampNeg) 0).1))).2 4 x1.toNatClampNeg)) &&& 255))) else (p_m_emitJump (p_m_emit (p_m_emit ((p_m_fetch ((p_m_fetch u (u.2 2 x1.toNatClampNeg) 0).2) (((p_m_fetch u (u.2 2 x1.toNatClampNeg) 0).2).2 3 x1.toNatClampNeg) 1).2) ((17024 + (8 * ((p_m_fetch ((p_m_fetch u (u.2 2 x1.toNatClampNeg) 0).2) (((p_m_fetch u (u.2 2 x1.toNatClampNeg) 0).2).2 3 x1.toNatClampNeg) 1).1))) + ((p_m_fetch u (u.2 2 x1.toNatClampNeg) 0).1))) (53248 + (256 * (((p_m_emit ((p_m_fetch ((p_m_fetch u (u.2 2 x1.toNatClampNeg) 0).2) (((p_m_fetch u (u.2 2 x1.toNatClampNeg) 0).2).2 3 x1.toNatClampNeg) 1).2) ((17024 + (8 * ((p_m_fetch ((p_m_fetch u (u.2 2 x1.toNatClampNeg) 0).2) (((p_m_fetch u (u.2 2 x1.toNatClampNeg) 0).2).2 3 x1.toNatClampNeg) 1).1))) + ((p_m_fetch u (u.2 2 x1.toNatClampNeg) 0).1))).2 1 x1.toNatClampNeg) ^^^ 1)))) ((p_m_emit (p_m_emit ((p_m_fetch ((p_m_fetch u (u.2 2 x1.toNatClampNeg) 0).2) (((p_m_fetch u (u.2 2 x1.toNatClampNeg) 0).2).2 3 x1.toNatClampNeg) 1).2) ((17024 + (8 * ((p_m_fetch ((p_m_fetch u (u.2 2 x1.toNatClampNeg) 0).2) (((p_m_fetch u (u.2 2 x1.toNatClampNeg) 0).2).2 3 x1.toNatClampNeg) 1).1))) + ((p_m_fetch u (u.2 2 x1.toNatClampNeg) 0).1))) (53248 + (256 * (((p_m_emit ((p_m_fetch ((p_m_fetch u (u.2 2 x1.toNatClampNeg) 0).2) (((p_m_fetch u (u.2 2 x1.toNatClampNeg) 0).2).2 3 x1.toNatClampNeg) 1).2) ((17024 + (8 * ((p_m_fetch ((p_m_fetch u (u.2 2 x1.toNatClampNeg) 0).2) (((p_m_fetch u (u.2 2 x1.toNatClampNeg) 0).2).2 3 x1.toNatClampNeg) 1).1))) + ((p_m_fetch u (u.2 2 x1.toNatClampNeg) 0).1))).2 1 x1.toNatClampNeg) ^^^ 1)))).2 4 x1.toNatClampNeg)))
def ok_m_emitBranch (u : St) (x1 : Int32) : Prop := (vp_in x1 48 ∧ (ok_m_fetch u (u.2 2 x1.toNatClampNeg) 0 ∧ (vp_in x1 48 ∧ (ok_m_fetch ((p_m_fetch u (u.2 2 x1.toNatClampNeg) 0).2) (((p_m_fetch u (u.2 2 x1.toNatClampNeg) 0).2).2 3 x1.toNatClampNeg) 1 ∧ (ok_m_emit ((p_m_fetch ((p_m_fetch u (u.2 2 x1.toNatClampNeg) 0).2) (((p_m_fetch u (u.2 2 x1.toNatClampNeg) 0).2).2 3 x1.toNatClampNeg) 1).2) ((17024 + (8 * ((p_m_fetch ((p_m_fetch u (u.2 2 x1.toNatClampNeg) 0).2) (((p_m_fetch u (u.2 2 x1.toNatClampNeg) 0).2).2 3 x1.toNatClampNeg) 1).1))) + ((p_m_fetch u (u.2 2 x1.toNatClampNeg) 0).1)) ∧ (vp_in x1 48 ∧ ((((p_m_emit ((p_m_fetch ((p_m_fetch u (u.2 2 x1.toNatClampNeg) 0).2) (((p_m_fetch u (u.2 2 x1.toNatClampNeg) 0).2).2 3 x1.toNatClampNeg) 1).2) ((17024 + (8 * ((p_m_fetch ((p_m_fetch u (u.2 2 x1.toNatClampNeg) 0).2) (((p_m_fetch u (u.2 2 x1.toNatClampNeg) 0).2).2 3 x1.toNatClampNeg) 1).1))) + ((p_m_fetch u (u.2 2 x1.toNatClampNeg) 0).1))).2 8 x1.toNatClampNeg) = 0 → (vp_in x1 48 ∧ (vp_in x1 48 ∧ (ok_m_way (p_m_emit ((p_m_fetch ((p_m_fetch u (u.2 2 x1.toNatClampNeg) 0).2) (((p_m_fetch u (u.2 2 x1.toNatClampNeg) 0).2).2 3 x1.toNatClampNeg) 1).2) ((17024 + (8 * ((p_m_fetch ((p_m_fetch u (u.2 2 x1.toNatClampNeg) 0).2) (((p_m_fetch u (u.2 2 x1.toNatClampNeg) 0).2).2 3 x1.toNatClampNeg) 1).1))) + ((p_m_fetch u (u.2 2 x1.toNatClampNeg) 0).1))) ((p_m_emit ((p_m_fetch ((p_m_fetch u (u.2 2 x1.toNatClampNeg) 0).2) (((p_m_fetch u (u.2 2 x1.toNatClampNeg) 0).2).2 3 x1.toNatClampNeg) 1).2) ((17024 + (8 * ((p_m_fetch ((p_m_fetch u (u.2 2 x1.toNatClampNeg) 0).2) (((p_m_fetch u (u.2 2 x1.toNatClampNeg) 0).2).2 3 x1.toNatClampNeg) 1).1))) + ((p_m_fetch u (u.2 2 x1.toNatClampNeg) 0).1))).1 3) ((p_m_emit ((p_m_fetch ((p_m_fetch u (u.2 2 x1.toNatClampNeg) 0).2) (((p_m_fetch u (u.2 2 x1.toNatClampNeg) 0).2).2 3 x1.toNatClampNeg) 1).2) ((17024 + (8 * ((p_m_fetch ((p_m_fetch u (u.2 2 x1.toNatClampNeg) 0).2) (((p_m_fetch u (u.2 2 x1.toNatClampNeg) 0).2).2 3 x1.toNatClampNeg) 1).1))) + ((p_m_fetch u (u.2 2 x1.toNatClampNeg) 0).1))).2 4 x1.toNatClampNeg) ∧ (ok_m_emit (p_m_emit ((p_m_fetch ((p_m_fetch u (u.2 2 x1.toNatClampNeg) 0).2) (((p_m_fetch u (u.2 2 x1.toNatClampNeg) 0).2).2 3 x1.toNatClampNeg) 1).2) ((17024 + (8 * ((p_m_fetch ((p_m_fetch u (u.2 2 x1.toNatClampNeg) 0).2) (((p_m_fetch u (u.2 2 x1.toNatClampNeg) 0).2).2 3 x1.toNatClampNeg) 1).1))) + ((p_m_fetch u (u.2 2 x1.toNatClampNeg) 0).1))) ((53248 + (256 * ((p_m_emit ((p_m_fetch ((p_m_fetch u (u.2 2 x1.toNatClampNeg) 0).2) (((p_m_fetch u (u.2 2 x1.toNatClampNeg) 0).2).2 3 x1.toNatClampNeg) 1).2) ((17024 + (8 * ((p_m_fetch ((p_m_fetch u (u.2 2 x1.toNatClampNeg) 0).2) (((p_m_fetch u (u.2 2 x1.toNatClampNeg) 0).2).2 3 x1.toNatClampNeg) 1).1))) + ((p_m_fetch u (u.2 2 x1.toNatClampNeg) 0).1))).2 1 x1.toNatClampNeg))) + ((p_m_way (p_m_emit ((p_m_fetch ((p_m_fetch u (u.2 2 x1.toNatClampNeg) 0).2) (((p_m_fetch u (u.2 2 x1.toNatClampNeg) 0).2).2 3 x1.toNatClampNeg) 1).2) ((17024 + (8 * ((p_m_fetch ((p_m_fetch u (u.2 2 x1.toNatClampNeg) 0).2) (((p_m_fetch u (u.2 2 x1.toNatClampNeg) 0).2).2 3 x1.toNatClampNeg) 1).1))) + ((p_m_fetch u (u.2 2 x1.toNatClampNeg) 0).1))) ((p_m_emit ((p_m_fetch ((p_m_fetch u (u.2 2 x1.toNatClampNeg) 0).2) (((p_m_fetch u (u.2 2 x1.toNatClampNeg) 0).2).2 3 x1.toNatClampNeg) 1).2) ((17024 + (8 * ((p_m_fetch ((p_m_fetch u (u.2 2 x1.toNatClampNeg) 0).2) (((p_m_fetch u (u.2 2 x1.toNatClampNeg) 0).2).2 3 x1.toNatClampNeg) 1).1))) + ((p_m_fetch u (u.2 2 x1.toNatClampNeg) 0).1))).1 3) ((p_m_emit ((p_m_fetch ((p_m_fetch u (u.2 2 x1.toNatClampNeg) 0).2) (((p_m_fetch u (u.2 2 x1.toNatClampNeg) 0).2).2 3 x1.toNatClampNeg) 1).2) ((17024 + (8 * ((p_m_fetch ((p_m_fetch u (u.2 2 x1.toNatClampNeg) 0).2) (((p_m_fetch u (u.2 2 x1.toNatClampNeg) 0).2).2 3 x1.toNatClampNeg) 1).1))) + ((p_m_fetch u (u.2 2 x1.toNatClampNeg) 0).1))).2 4 x1.toNatClampNeg)) &&& 255)) ∧ True))))) ∧ (¬ ((p_m_emit ((p_m_fetch ((p_m_fetch u (u.2 2 x1.toNatClampNeg) 0).2) (((p_m_fetch u (u.2 2 x1.toNatClampNeg) 0).2).2 3 x1.toNatClampNeg) 1).2) ((17024 + (8 * ((p_m_fetch ((p_m_fetch u (u.2 2 x1.toNatClampNeg) 0).2) (((p_m_fetch u (u.2 2 x1.toNatClampNeg) 0).2).2 3 x1.toNatClampNeg) 1).1))) + ((p_m_fetch u (u.2 2 x1.toNatClampNeg) 0).1))).2 8 x1.toNatClampNeg) = 0 → (vp_in x1 48 ∧ (ok_m_emit (p_m_emit ((p_m_fetch ((p_m_fetch u (u.2 2 x1.toNatClampNeg) 0).2) (((p_m_fetch u (u.2 2 x1.toNatClampNeg) 0).2).2 3 x1.toNatClampNeg) 1).2) ((17024 + (8 * ((p_m_fetch ((p_m_fetch u (u.2 2 x1.toNatClampNeg) 0).2) (((p_m_fetch u (u.2 2 x1.toNatClampNeg) 0).2).2 3 x1.toNatClampNeg) 1).1))) + ((p_m_fetch u (u.2 2 x1.toNatClampNeg) 0).1))) (53248 + (256 * (((p_m_emit ((p_m_fetch ((p_m_fetch u (u.2 2 x1.toNatClampNeg) 0).2) (((p_m_fetch u (u.2 2 x1.toNatClampNeg) 0).2).2 3 x1.toNatClampNeg) 1).2) ((17024 + (8 * ((p_m_fetch ((p_m_fetch u (u.2 2 x1.toNatClampNeg) 0).2) (((p_m_fetch u (u.2 2 x1.toNatClampNeg) 0).2).2 3 x1.toNatClampNeg) 1).1))) + ((p_m_fetch u (u.2 2 x1.toNatClampNeg) 0).1))).2 1 x1.toNatClampNeg) ^^^ 1))) ∧ (vp_in x1 48 ∧ (ok_m_emitJump (p_m_emit (p_m_emit ((p_m_fetch ((p_m_fetch u (u.2 2 x1.toNatClampNeg) 0).2) (((p_m_fetch u (u.2 2 x1.toNatClampNeg) 0).2).2 3 x1.toNatClampNeg) 1).2) ((17024 + (8 * ((p_m_fetch ((p_m_fetch u (u.2 2 x1.toNatClampNeg) 0).2) (((p_m_fetch u (u.2 2 x1.toNatClampNeg) 0).2).2 3 x1.toNatClampNeg) 1).1))) + ((p_m_fetch u (u.2 2 x1.toNatClampNeg) 0).1))) (53248 + (256 * (((p_m_emit ((p_m_fetch ((p_m_fetch u (u.2 2 x1.toNatClampNeg) 0).2) (((p_m_fetch u (u.2 2 x1.toNatClampNeg) 0).2).2 3 x1.toNatClampNeg) 1).2) ((17024 + (8 * ((p_m_fetch ((p_m_fetch u (u.2 2 x1.toNatClampNeg) 0).2) (((p_m_fetch u (u.2 2 x1.toNatClampNeg) 0).2).2 3 x1.toNatClampNeg) 1).1))) + ((p_m_fetch u (u.2 2 x1.toNatClampNeg) 0).1))).2 1 x1.toNatClampNeg) ^^^ 1)))) ((p_m_emit (p_m_emit ((p_m_fetch ((p_m_fetch u (u.2 2 x1.toNatClampNeg) 0).2) (((p_m_fetch u (u.2 2 x1.toNatClampNeg) 0).2).2 3 x1.toNatClampNeg) 1).2) ((17024 + (8 * ((p_m_fetch ((p_m_fetch u (u.2 2 x1.toNatClampNeg) 0).2) (((p_m_fetch u (u.2 2 x1.toNatClampNeg) 0).2).2 3 x1.toNatClampNeg) 1).1))) + ((p_m_fetch u (u.2 2 x1.toNatClampNeg) 0).1))) (53248 + (256 * (((p_m_emit ((p_m_fetch ((p_m_fetch u (u.2 2 x1.toNatClampNeg) 0).2) (((p_m_fetch u (u.2 2 x1.toNatClampNeg) 0).2).2 3 x1.toNatClampNeg) 1).2) ((17024 + (8 * ((p_m_fetch ((p_m_fetch u (u.2 2 x1.toNatClampNeg) 0).2) (((p_m_fetch u (u.2 2 x1.toNatClampNeg) 0).2).2 3 x1.toNatClampNeg) 1).1))) + ((p_m_fetch u (u.2 2 x1.toNatClampNeg) 0).1))).2 1 x1.toNatClampNeg) ^^^ 1)))).2 4 x1.toNatClampNeg) ∧ True))))))))))))
set_option maxHeartbeats 4000000 in
set_option maxRecDepth 100000 in
theorem c_m_emitBranch (l : Launch) (D : va_G) (am : Nat → Nat) (cI cZ : ClassId) (zz : (Nat → Prop) → State → Heap → Prop) (hzz : Zok zz) (u : St) (x1 : Int32) (hok : ok_m_emitBranch u x1) : tfV l D vwCl (tyT cI cZ) zz yX4_emitBranch wsX4_emitBranch ({ frames := 2, cells := 0, slots := 0, locals := 43 } : Room) [.ref (am 0), .int x1] (wM am cI cZ u) (wM am cI cZ (p_m_emitBranch u x1)) := by
  intro sz
  unfold ok_m_emitBranch at hok
  refine Met.ofW (cc := cX4_emitBranch) (maxL := 4) (ret := none) (by decide) rfl ?_
  intro p e s m args below meth c s₁ B hml hv
  obtain ⟨rfl, hsz, hP, hK, hD0, hZ⟩ := hv
  have hx := B.exec
  have hb := B.bytes
  have hr := B.returns
  have hts := atoms_spec (ws := wsX4_emitBranch) B.pre
  have hown : s.vm.findClass RX4 = some m.cls := findClass_of_methodNamed B.named
  have hlocks := B.notSynchronized
  subst hsz
  have hD := hD0.self (sz := s.heap.size)
  generalize hAe : va_A (wM am cI cZ u) s.heap.size = A at hD hZ ⊢
  have hA : ∀ q : Nat, s.heap.size ≤ q → A q := fun q h => by rw [← hAe]; exact Or.inr h
  have hS : va_S A s.heap s.heap [] := va_S.rf
  have Cx : cxt p s m ([.ref (am 0), .int x1] : List Value).toArray meth c cX4_emitBranch 4 none wsX4_emitBranch RX4 D vwCl (tyT cI cZ) zz A := ⟨hx, hb, hr, hts, hown, hlocks, hml, hK, hA, hZ⟩
  have hl := lv_entry ([.ref (am 0), .int x1]) (n := 4) (Nat.le_of_ble_eq_true rfl)
  rw [lg_entry_eq]
  generalize (lg_sl ([.ref (am 0), .int x1]) ++ List.replicate (4 - (lg_sl ([.ref (am 0), .int x1])).length) Slot.unset).toArray = ls at hl ⊢
  have hl : lv_has ls 4 [(0, .ref (am 0)), (1, .int x1)] := hl
  refine lv_aload_n hx hb dX4_emitBranch_0 rfl (lv_at hl 0 rfl) ?_
  refine lv_aload_n hx hb dX4_emitBranch_1 rfl (lv_at hl 0 rfl) ?_
  refine va_get (ci := 4) (v := .ref (am 3)) (C := RX4) (T := TX4) (N := 22) hx hb hts (ivX4 _) hown hK hP 0 rfl rfl 4 (by decide) (hts _ (tb_c tw_3_105)) (fun _ h9 => h9) rfl dX4_emitBranch_2 ?_
  refine lv_iload_n hx hb dX4_emitBranch_5 rfl (lv_at hl 1 rfl) ?_
  obtain ⟨h_1, hok⟩ := hok
  refine va_iald (f := u.2 2) hx hb hK hP 3 0 rfl rfl h_1 dX4_emitBranch_6 ?_
  refine lv_iconst (v := 0) hx hb dX4_emitBranch_7 (by decide) ?_
  obtain ⟨h_2, hok⟩ := hok
  refine k_callVi (As := [.int (u.2 2 x1.toNatClampNeg), .int 0]) (rest := []) hzz ⟨hx, hb, hml, hown, hts⟩ (c_m_fetch l D am cI cZ zz hzz u (u.2 2 x1.toNatClampNeg) 0 h_2) (cwV 2 hts (tb_V tw_4_43 tw_4_45 slX4_fetch tw_1_5 tw_4_46) rfl rfl rfl (by decide +kernel) ⟨Nat.le_of_ble_eq_true rfl, Nat.le_of_ble_eq_true rfl⟩) (va_recv hK hP (ci := 4) (q0 := 0) rfl rfl) rfl hl.1 rfl (lv_room (Nat.le_of_ble_eq_true rfl)) dX4_emitBranch_8 ⟨Nat.le_of_ble_eq_true rfl, Nat.le_of_ble_eq_true rfl⟩ hP hK hD hS hA hZ (fun H locs hP hD hS => ?_)
  generalize eu_3 : (p_m_fetch u (u.2 2 x1.toNatClampNeg) 0).2 = u_3 at hP hD ⊢
  try rw [eu_3] at hok
  refine lv_istore_n (lv' := [(2, .int ((p_m_fetch u (u.2 2 x1.toNatClampNeg) 0).1)), (0, .ref (am 0)), (1, .int x1)]) hx hb dX4_emitBranch_11 rfl hl (by decide) rfl (fun ls hl => ?_)
  refine lv_aload_n hx hb dX4_emitBranch_12 rfl (lv_at hl 1 rfl) ?_
  refine lv_aload_n hx hb dX4_emitBranch_13 rfl (lv_at hl 1 rfl) ?_
  refine va_get (ci := 4) (v := .ref (am 4)) (C := RX4) (T := TX4) (N := 22) hx hb hts (ivX4 _) hown hK hP 0 rfl rfl 5 (by decide) (hts _ (tb_c tw_3_106)) (fun _ h9 => h9) rfl dX4_emitBranch_14 ?_
  refine lv_iload_n hx hb dX4_emitBranch_17 rfl (lv_at hl 2 rfl) ?_
  obtain ⟨h_4, hok⟩ := hok
  refine va_iald (f := u_3.2 3) hx hb hK hP 4 0 rfl rfl h_4 dX4_emitBranch_18 ?_
  refine lv_iconst (v := 1) hx hb dX4_emitBranch_19 (by decide) ?_
  obtain ⟨h_5, hok⟩ := hok
  refine k_callVi (As := [.int (u_3.2 3 x1.toNatClampNeg), .int 1]) (rest := []) hzz ⟨hx, hb, hml, hown, hts⟩ (c_m_fetch l D am cI cZ zz hzz u_3 (u_3.2 3 x1.toNatClampNeg) 1 h_5) (cwV 2 hts (tb_V tw_4_43 tw_4_45 slX4_fetch tw_1_5 tw_4_46) rfl rfl rfl (by decide +kernel) ⟨Nat.le_of_ble_eq_true rfl, Nat.le_of_ble_eq_true rfl⟩) (va_recv hK hP (ci := 4) (q0 := 0) rfl rfl) rfl hl.1 rfl (lv_room (Nat.le_of_ble_eq_true rfl)) dX4_emitBranch_20 ⟨Nat.le_of_ble_eq_true rfl, Nat.le_of_ble_eq_true rfl⟩ hP hK hD hS hA hZ (fun H locs hP hD hS => ?_)
  generalize eu_6 : (p_m_fetch u_3 (u_3.2 3 x1.toNatClampNeg) 1).2 = u_6 at hP hD ⊢
  try rw [eu_6] at hok
  refine lv_istore_n (lv' := [(3, .int ((p_m_fetch u_3 (u_3.2 3 x1.toNatClampNeg) 1).1)), (2, .int ((p_m_fetch u (u.2 2 x1.toNatClampNeg) 0).1)), (0, .ref (am 0)), (1, .int x1)]) hx hb dX4_emitBranch_23 rfl hl (by decide) rfl (fun ls hl => ?_)
  refine lv_aload_n hx hb dX4_emitBranch_24 rfl (lv_at hl 2 rfl) ?_
  refine lv_sipush (v := 17024) hx hb dX4_emitBranch_25 (by decide) ?_
  refine lv_bipush (v := 8) hx hb dX4_emitBranch_28 (by decide) ?_
  refine lv_iload_n hx hb dX4_emitBranch_30 rfl (lv_at hl 0 rfl) ?_
  refine lv_imul hx hb dX4_emitBranch_31 ?_
  refine lv_iadd hx hb dX4_emitBranch_32 ?_
  refine lv_iload_n hx hb dX4_emitBranch_33 rfl (lv_at hl 1 rfl) ?_
  refine lv_iadd hx hb dX4_emitBranch_34 ?_
  obtain ⟨h_7, hok⟩ := hok
  refine k_callVv (As := [.int ((17024 + (8 * ((p_m_fetch u_3 (u_3.2 3 x1.toNatClampNeg) 1).1))) + ((p_m_fetch u (u.2 2 x1.toNatClampNeg) 0).1))]) (rest := []) hzz ⟨hx, hb, hml, hown, hts⟩ (c_m_emit l D am cI cZ zz hzz u_6 ((17024 + (8 * ((p_m_fetch u_3 (u_3.2 3 x1.toNatClampNeg) 1).1))) + ((p_m_fetch u (u.2 2 x1.toNatClampNeg) 0).1)) h_7) (cwV 1 hts (tb_V tw_4_19 tw_4_21 slX4_emit tw_1_5 tw_4_22) rfl rfl rfl (by decide +kernel) ⟨Nat.le_of_ble_eq_true rfl, Nat.le_of_ble_eq_true rfl⟩) (va_recv hK hP (ci := 4) (q0 := 0) rfl rfl) rfl hl.1 rfl (lv_room (Nat.le_of_ble_eq_true rfl)) dX4_emitBranch_35 ⟨Nat.le_of_ble_eq_true rfl, Nat.le_of_ble_eq_true rfl⟩ hP hK hD hS hA hZ (fun H locs hP hD hS => ?_)
  generalize eu_8 : p_m_emit u_6 ((17024 + (8 * ((p_m_fetch u_3 (u_3.2 3 x1.toNatClampNeg) 1).1))) + ((p_m_fetch u (u.2 2 x1.toNatClampNeg) 0).1)) = u_8 at hP hD ⊢
  try rw [eu_8] at hok
  refine lv_aload_n hx hb dX4_emitBranch_38 rfl (lv_at hl 2 rfl) ?_
  refine va_get (ci := 4) (v := .ref (am 9)) (C := RX4) (T := TX4) (N := 22) hx hb hts (ivX4 _) hown hK hP 0 rfl rfl 12 (by decide) (hts _ (tb_c tw_3_113)) (fun _ h9 => h9) rfl dX4_emitBranch_39 ?_
  refine lv_iload_n hx hb dX4_emitBranch_42 rfl (lv_at hl 3 rfl) ?_
  obtain ⟨h_9, hok⟩ := hok
  refine va_zald (f := u_8.2 8) hx hb hK hP 9 1 rfl rfl h_9 dX4_emitBranch_43 ?_
  refine lv_if_eq (tgt := 79) hx hb dX4_emitBranch_44 (by decide) (fun c_10 => ?_) (fun c_10 => ?_)
  · have hok := hok.1 c_10
    refine lv_aload_n hx hb dX4_emitBranch_79 rfl (lv_at hl 2 rfl) ?_
    refine lv_ldc (v := 53248) hx hb hown (hts _ (tb_c tw_4_68)) dX4_emitBranch_80 ?_
    refine lv_sipush (v := 256) hx hb dX4_emitBranch_82 (by decide) ?_
    refine lv_aload_n hx hb dX4_emitBranch_85 rfl (lv_at hl 2 rfl) ?_
    refine va_get (ci := 4) (v := .ref (am 2)) (C := RX4) (T := TX4) (N := 22) hx hb hts (ivX4 _) hown hK hP 0 rfl rfl 3 (by decide) (hts _ (tb_c tw_3_104)) (fun _ h9 => h9) rfl dX4_emitBranch_86 ?_
    refine lv_iload_n hx hb dX4_emitBranch_89 rfl (lv_at hl 3 rfl) ?_
    obtain ⟨h_11, hok⟩ := hok
    refine va_iald (f := u_8.2 1) hx hb hK hP 2 0 rfl rfl h_11 dX4_emitBranch_90 ?_
    refine lv_imul hx hb dX4_emitBranch_91 ?_
    refine lv_iadd hx hb dX4_emitBranch_92 ?_
    refine lv_aload_n hx hb dX4_emitBranch_93 rfl (lv_at hl 2 rfl) ?_
    refine lv_aload_n hx hb dX4_emitBranch_94 rfl (lv_at hl 2 rfl) ?_
    refine va_get (ci := 4) (v := .int (u_8.1 3)) (C := RX4) (T := TX4) (N := 22) hx hb hts (ivX4 _) hown hK hP 0 rfl rfl 9 (by decide) (hts _ (tb_c tw_3_110)) (fun _ h9 => h9) rfl dX4_emitBranch_95 ?_
    refine lv_aload_n hx hb dX4_emitBranch_98 rfl (lv_at hl 2 rfl) ?_
    refine va_get (ci := 4) (v := .ref (am 5)) (C := RX4) (T := TX4) (N := 22) hx hb hts (ivX4 _) hown hK hP 0 rfl rfl 6 (by decide) (hts _ (tb_c tw_3_107)) (fun _ h9 => h9) rfl dX4_emitBranch_99 ?_
    refine lv_iload_n hx hb dX4_emitBranch_102 rfl (lv_at hl 3 rfl) ?_
    obtain ⟨h_12, hok⟩ := hok
    refine va_iald (f := u_8.2 4) hx hb hK hP 5 0 rfl rfl h_12 dX4_emitBranch_103 ?_
    obtain ⟨h_13, hok⟩ := hok
    refine k_callVi (As := [.int (u_8.1 3), .int (u_8.2 4 x1.toNatClampNeg)]) (rest := [.int (53248 + (256 * (u_8.2 1 x1.toNatClampNeg))), .ref (am 0)]) hzz ⟨hx, hb, hml, hown, hts⟩ (c_m_way l D am cI cZ zz hzz u_8 (u_8.1 3) (u_8.2 4 x1.toNatClampNeg) h_13) (cwV 2 hts (tb_V tw_4_10 tw_4_12 slX4_way tw_1_5 tw_4_13) rfl rfl rfl (by decide +kernel) ⟨Nat.le_of_ble_eq_true rfl, Nat.le_of_ble_eq_true rfl⟩) (va_recv hK hP (ci := 4) (q0 := 0) rfl rfl) rfl hl.1 rfl (lv_room (Nat.le_of_ble_eq_true rfl)) dX4_emitBranch_104 ⟨Nat.le_of_ble_eq_true rfl, Nat.le_of_ble_eq_true rfl⟩ hP hK hD hS hA hZ (fun H locs hP hD hS => ?_)
    refine lv_sipush (v := 255) hx hb dX4_emitBranch_107 (by decide) ?_
    refine lv_iand hx hb dX4_emitBranch_110 ?_
    refine lv_iadd hx hb dX4_emitBranch_111 ?_
    obtain ⟨h_14, hok⟩ := hok
    refine k_callVv (As := [.int ((53248 + (256 * (u_8.2 1 x1.toNatClampNeg))) + ((p_m_way u_8 (u_8.1 3) (u_8.2 4 x1.toNatClampNeg)) &&& 255))]) (rest := []) hzz ⟨hx, hb, hml, hown, hts⟩ (c_m_emit l D am cI cZ zz hzz u_8 ((53248 + (256 * (u_8.2 1 x1.toNatClampNeg))) + ((p_m_way u_8 (u_8.1 3) (u_8.2 4 x1.toNatClampNeg)) &&& 255)) h_14) (cwV 1 hts (tb_V tw_4_19 tw_4_21 slX4_emit tw_1_5 tw_4_22) rfl rfl rfl (by decide +kernel) ⟨Nat.le_of_ble_eq_true rfl, Nat.le_of_ble_eq_true rfl⟩) (va_recv hK hP (ci := 4) (q0 := 0) rfl rfl) rfl hl.1 rfl (lv_room (Nat.le_of_ble_eq_true rfl)) dX4_emitBranch_112 ⟨Nat.le_of_ble_eq_true rfl, Nat.le_of_ble_eq_true rfl⟩ hP hK hD hS hA hZ (fun H locs hP hD hS => ?_)
    generalize eu_15 : p_m_emit u_8 ((53248 + (256 * (u_8.2 1 x1.toNatClampNeg))) + ((p_m_way u_8 (u_8.1 3) (u_8.2 4 x1.toNatClampNeg)) &&& 255)) = u_15 at hP hD ⊢
    try rw [eu_15] at hok
    have e9 : p_m_emitBranch u x1 = u_15 := by
      subst eu_15
      subst eu_8
      subst eu_6
      subst eu_3
      rw [p_m_emitBranch, if_pos c_10]
    rw [e9]
    exact W.vret hx hb hr (fun t ht hW => ⟨⟨(), rfl, trivial, by rw [ht]; exact hP, va_K.moved hW.alike hK, hD⟩, hS.F ht⟩) hS.2.2 dX4_emitBranch_115
  · have hok := hok.2 c_10
    refine lv_aload_n hx hb dX4_emitBranch_47 rfl (lv_at hl 2 rfl) ?_
    refine lv_ldc (v := 53248) hx hb hown (hts _ (tb_c tw_4_68)) dX4_emitBranch_48 ?_
    refine lv_sipush (v := 256) hx hb dX4_emitBranch_50 (by decide) ?_
    refine lv_aload_n hx hb dX4_emitBranch_53 rfl (lv_at hl 2 rfl) ?_
    refine va_get (ci := 4) (v := .ref (am 2)) (C := RX4) (T := TX4) (N := 22) hx hb hts (ivX4 _) hown hK hP 0 rfl rfl 3 (by decide) (hts _ (tb_c tw_3_104)) (fun _ h9 => h9) rfl dX4_emitBranch_54 ?_
    refine lv_iload_n hx hb dX4_emitBranch_57 rfl (lv_at hl 3 rfl) ?_
    obtain ⟨h_16, hok⟩ := hok
    refine va_iald (f := u_8.2 1) hx hb hK hP 2 0 rfl rfl h_16 dX4_emitBranch_58 ?_
    refine lv_iconst (v := 1) hx hb dX4_emitBranch_59 (by decide) ?_
    refine lv_ixor hx hb dX4_emitBranch_60 ?_
    refine lv_imul hx hb dX4_emitBranch_61 ?_
    refine lv_iadd hx hb dX4_emitBranch_62 ?_
    obtain ⟨h_17, hok⟩ := hok
    refine k_callVv (As := [.int (53248 + (256 * ((u_8.2 1 x1.toNatClampNeg) ^^^ 1)))]) (rest := []) hzz ⟨hx, hb, hml, hown, hts⟩ (c_m_emit l D am cI cZ zz hzz u_8 (53248 + (256 * ((u_8.2 1 x1.toNatClampNeg) ^^^ 1))) h_17) (cwV 1 hts (tb_V tw_4_19 tw_4_21 slX4_emit tw_1_5 tw_4_22) rfl rfl rfl (by decide +kernel) ⟨Nat.le_of_ble_eq_true rfl, Nat.le_of_ble_eq_true rfl⟩) (va_recv hK hP (ci := 4) (q0 := 0) rfl rfl) rfl hl.1 rfl (lv_room (Nat.le_of_ble_eq_true rfl)) dX4_emitBranch_63 ⟨Nat.le_of_ble_eq_true rfl, Nat.le_of_ble_eq_true rfl⟩ hP hK hD hS hA hZ (fun H locs hP hD hS => ?_)
    generalize eu_18 : p_m_emit u_8 (53248 + (256 * ((u_8.2 1 x1.toNatClampNeg) ^^^ 1))) = u_18 at hP hD ⊢
    try rw [eu_18] at hok
    refine lv_aload_n hx hb dX4_emitBranch_66 rfl (lv_at hl 2 rfl) ?_
    refine lv_aload_n hx hb dX4_emitBranch_67 rfl (lv_at hl 2 rfl) ?_
    refine va_get (ci := 4) (v := .ref (am 5)) (C := RX4) (T := TX4) (N := 22) hx hb hts (ivX4 _) hown hK hP 0 rfl rfl 6 (by decide) (hts _ (tb_c tw_3_107)) (fun _ h9 => h9) rfl dX4_emitBranch_68 ?_
    refine lv_iload_n hx hb dX4_emitBranch_71 rfl (lv_at hl 3 rfl) ?_
    obtain ⟨h_19, hok⟩ := hok
    refine va_iald (f := u_18.2 4) hx hb hK hP 5 0 rfl rfl h_19 dX4_emitBranch_72 ?_
    obtain ⟨h_20, hok⟩ := hok
    refine k_callVv (As := [.int (u_18.2 4 x1.toNatClampNeg)]) (rest := []) hzz ⟨hx, hb, hml, hown, hts⟩ (c_m_emitJump l D am cI cZ zz hzz u_18 (u_18.2 4 x1.toNatClampNeg) h_20) (cwV 1 hts (tb_V tw_4_59 tw_4_61 slX4_emitJump tw_1_5 tw_4_62) rfl rfl rfl (by decide +kernel) ⟨Nat.le_of_ble_eq_true rfl, Nat.le_of_ble_eq_true rfl⟩) (va_recv hK hP (ci := 4) (q0 := 0) rfl rfl) rfl hl.1 rfl (lv_room (Nat.le_of_ble_eq_true rfl)) dX4_emitBranch_73 ⟨Nat.le_of_ble_eq_true rfl, Nat.le_of_ble_eq_true rfl⟩ hP hK hD hS hA hZ (fun H locs hP hD hS => ?_)
    generalize eu_21 : p_m_emitJump u_18 (u_18.2 4 x1.toNatClampNeg) = u_21 at hP hD ⊢
    try rw [eu_21] at hok
    refine lv_goto (tgt := 115) hx hb dX4_emitBranch_76 (by decide) ?_
    have e9 : p_m_emitBranch u x1 = u_21 := by
      subst eu_21
      subst eu_18
      subst eu_8
      subst eu_6
      subst eu_3
      rw [p_m_emitBranch, if_neg c_10]
    rw [e9]
    exact W.vret hx hb hr (fun t ht hW => ⟨⟨(), rfl, trivial, by rw [ht]; exact hP, va_K.moved hW.alike hK, hD⟩, hS.F ht⟩) hS.2.2 dX4_emitBranch_115

def p_m_emitInstruction (u : St) (x1 : Int32) : St := (if (u.2 0 x1.toNatClampNeg) = 0 then (p_m_keep (p_m_make u (p_m_target (u.2 2 x1.toNatClampNeg)) (u.2 1 x1.toNatClampNeg)) ((p_m_make u (p_m_target (u.2 2 x1.toNatClampNeg)) (u.2 1 x1.toNatClampNeg)).2 2 x1.toNatClampNeg)) else (if (u.2 0 x1.toNatClampNeg) = 1 then (p_m_emitCompute u (u.2 1 x1.toNatClampNeg) (u.2 2 x1.toNatClampNeg) (u.2 3 x1.toNatClampNeg) (u.2 4 x1.toNatClampNeg)) else (if (u.2 0 x1.toNatClampNeg) = 2 then (p_m_keep (p_m_emit (p_m_emitPlace ((p_m_fetch u (u.2 2 x1.toNatClampNeg) 0).2) ((p_m_fetch u (u.2 2 x1.toNatClampNeg) 0).1)) (22616 + (p_m_target ((p_m_emitPlace ((p_m_fetch u (u.2 2 x1.toNatClampNeg) 0).2) ((p_m_fetch u (u.2 2 x1.toNatClampNeg) 0).1)).2 1 x1.toNatClampNeg)))) ((p_m_emit (p_m_emitPlace ((p_m_fetch u (u.2 2 x1.toNatClampNeg) 0).2) ((p_m_fetch u (u.2 2 x1.toNatClampNeg) 0).1)) (22616 + (p_m_target ((p_m_emitPlace ((p_m_fetch u (u.2 2 x1.toNatClampNeg) 0).2) ((p_m_fetch u (u.2 2 x1.toNatClampNeg) 0).1)).2 1 x1.toNatClampNeg)))).2 1 x1.toNatClampNeg)) else (if (u.2 0 x1.toNatClampNeg) = 3 then (p_m_emit ((p_m_fetch (p_m_emitPlace ((p_m_fetch u (u.2 1 x1.toNatClampNeg) 0).2) ((p_m_fetch u (u.2 1 x1.toNatClampNeg) 0).1)) ((p_m_emitPlace ((p_m_fetch u (u.2 1 x1.toNatClampNeg) 0).2) ((p_m_fetch u (u.2 1 x1.toNatClampNeg) 0).1)).2 2 x1.toNatClampNeg) 0).2) (20568 + ((p_m_fetch (p_m_emitPlace ((p_m_fetch u (u.2 1 x1.toNatClampNeg) 0).2) ((p_m_fetch u (u.2 1 x1.toNatClampNeg) 0).1)) ((p_m_emitPlace ((p_m_fetch u (u.2 1 x1.toNatClampNeg) 0).2) ((p_m_fetch u (u.2 1 x1.toNatClampNeg) 0).1)).2 2 x1.toNatClampNeg) 0).1))) else (if (u.2 0 x1.toNatClampNeg) = 4 then (p_m_emitJump u (u.2 1 x1.toNatClampNeg)) else (if (u.2 0 x1.toNatClampNeg) = 5 then (p_m_emitBranch u x1) else (if (u.2 0 x1.toNatClampNeg) = 6 then (p_m_emit (p_m_copy u (u.2 1 x1.toNatClampNeg)) 57088) else (if (u.2 0 x1.toNatClampNeg) = 7 then (p_m_emit u 57089) else (p_m_emit u (56832 + (u.2 1 x1.toNatClampNeg)))))))))))
def ok_m_emitInstruction (u : St) (x1 : Int32) : Prop := (vp_in x1 48 ∧ (((u.2 0 x1.toNatClampNeg) = 0 → (vp_in x1 48 ∧ (vp_in x1 48 ∧ (ok_m_make u (p_m_target (u.2 2 x1.toNatClampNeg)) (u.2 1 x1.toNatClampNeg) ∧ (vp_in x1 48 ∧ (ok_m_keep (p_m_make u (p_m_target (u.2 2 x1.toNatClampNeg)) (u.2 1 x1.toNatClampNeg)) ((p_m_make u (p_m_target (u.2 2 x1.toNatClampNeg)) (u.2 1 x1.toNatClampNeg)).2 2 x1.toNatClampNeg) ∧ True)))))) ∧ (¬ (u.2 0 x1.toNatClampNeg) = 0 → (((u.2 0 x1.toNatClampNeg) = 1 → (vp_in x1 48 ∧ (vp_in x1 48 ∧ (vp_in x1 48 ∧ (vp_in x1 48 ∧ (ok_m_emitCompute u (u.2 1 x1.toNatClampNeg) (u.2 2 x1.toNatClampNeg) (u.2 3 x1.toNatClampNeg) (u.2 4 x1.toNatClampNeg) ∧ True)))))) ∧ (¬ (u.2 0 x1.toNatClampNeg) = 1 → (((u.2 0 x1.toNatClampNeg) = 2 → (vp_in x1 48 ∧ (ok_m_fetch u (u.2 2 x1.toNatClampNeg) 0 ∧ (ok_m_emitPlace ((p_m_fetch u (u.2 2 x1.toNatClampNeg) 0).2) ((p_m_fetch u (u.2 2 x1.toNatClampNeg) 0).1) ∧ (vp_in x1 48 ∧ (ok_m_emit (p_m_emitPlace ((p_m_fetch u (u.2 2 x1.toNatClampNeg) 0).2) ((p_m_fetch u (u.2 2 x1.toNatClampNeg) 0).1)) (22616 + (p_m_target ((p_m_emitPlace ((p_m_fetch u (u.2 2 x1.toNatClampNeg) 0).2) ((p_m_fetch u (u.2 2 x1.toNatClampNeg) 0).1)).2 1 x1.toNatClampNeg))) ∧ (vp_in x1 48 ∧ (ok_m_keep (p_m_emit (p_m_emitPlace ((p_m_fetch u (u.2 2 x1.toNatClampNeg) 0).2) ((p_m_fetch u (u.2 2 x1.toNatClampNeg) 0).1)) (22616 + (p_m_target ((p_m_emitPlace ((p_m_fetch u (u.2 2 x1.toNatClampNeg) 0).2) ((p_m_fetch u (u.2 2 x1.toNatClampNeg) 0).1)).2 1 x1.toNatClampNeg)))) ((p_m_emit (p_m_emitPlace ((p_m_fetch u (u.2 2 x1.toNatClampNeg) 0).2) ((p_m_fetch u (u.2 2 x1.toNatClampNeg) 0).1)) (22616 + (p_m_target ((p_m_emitPlace ((p_m_fetch u (u.2 2 x1.toNatClampNeg) 0).2) ((p_m_fetch u (u.2 2 x1.toNatClampNeg) 0).1)).2 1 x1.toNatClampNeg)))).2 1 x1.toNatClampNeg) ∧ True)))))))) ∧ (¬ (u.2 0 x1.toNatClampNeg) = 2 → (((u.2 0 x1.toNatClampNeg) = 3 → (vp_in x1 48 ∧ (ok_m_fetch u (u.2 1 x1.toNatClampNeg) 0 ∧ (ok_m_emitPlace ((p_m_fetch u (u.2 1 x1.toNatClampNeg) 0).2) ((p_m_fetch u (u.2 1 x1.toNatClampNeg) 0).1) ∧ (vp_in x1 48 ∧ (ok_m_fetch (p_m_emitPlace ((p_m_fetch u (u.2 1 x1.toNatClampNeg) 0).2) ((p_m_fetch u (u.2 1 x1.toNatClampNeg) 0).1)) ((p_m_emitPlace ((p_m_fetch u (u.2 1 x1.toNatClampNeg) 0).2) ((p_m_fetch u (u.2 1 x1.toNatClampNeg) 0).1)).2 2 x1.toNatClampNeg) 0 ∧ (ok_m_emit ((p_m_fetch (p_m_emitPlace ((p_m_fetch u (u.2 1 x1.toNatClampNeg) 0).2) ((p_m_fetch u (u.2 1 x1.toNatClampNeg) 0).1)) ((p_m_emitPlace ((p_m_fetch u (u.2 1 x1.toNatClampNeg) 0).2) ((p_m_fetch u (u.2 1 x1.toNatClampNeg) 0).1)).2 2 x1.toNatClampNeg) 0).2) (20568 + ((p_m_fetch (p_m_emitPlace ((p_m_fetch u (u.2 1 x1.toNatClampNeg) 0).2) ((p_m_fetch u (u.2 1 x1.toNatClampNeg) 0).1)) ((p_m_emitPlace ((p_m_fetch u (u.2 1 x1.toNatClampNeg) 0).2) ((p_m_fetch u (u.2 1 x1.toNatClampNeg) 0).1)).2 2 x1.toNatClampNeg) 0).1)) ∧ True))))))) ∧ (¬ (u.2 0 x1.toNatClampNeg) = 3 → (((u.2 0 x1.toNatClampNeg) = 4 → (vp_in x1 48 ∧ (ok_m_emitJump u (u.2 1 x1.toNatClampNeg) ∧ True))) ∧ (¬ (u.2 0 x1.toNatClampNeg) = 4 → (((u.2 0 x1.toNatClampNeg) = 5 → (ok_m_emitBranch u x1 ∧ True)) ∧ (¬ (u.2 0 x1.toNatClampNeg) = 5 → (((u.2 0 x1.toNatClampNeg) = 6 → (vp_in x1 48 ∧ (ok_m_copy u (u.2 1 x1.toNatClampNeg) ∧ (ok_m_emit (p_m_copy u (u.2 1 x1.toNatClampNeg)) 57088 ∧ True)))) ∧ (¬ (u.2 0 x1.toNatClampNeg) = 6 → (vp_in x1 48 ∧ (((u.2 0 x1.toNatClampNeg) = 7 → (ok_m_emit u 57089 ∧ True)) ∧ (¬ (u.2 0 x1.toNatClampNeg) = 7 → (vp_in x1 48 ∧ (ok_m_emit u (56832 + (u.2 1 x1.toNatClampNeg)) ∧ True))))))))))))))))))))
set_option maxHeartbeats 4000000 in
set_option maxRecDepth 100000 in
theorem c_m_emitInstruction (l : Launch) (D : va_G) (am : Nat → Nat) (cI cZ : ClassId) (zz : (Nat → Prop) → State → Heap → Prop) (hzz : Zok zz) (u : St) (x1 : Int32) (hok : ok_m_emitInstruction u x1) : tfV l D vwCl (tyT cI cZ) zz yX4_emitInstruction wsX4_emitInstruction ({ frames := 4, cells := 0, slots := 0, locals := 90 } : Room) [.ref (am 0), .int x1] (wM am cI cZ u) (wM am cI cZ (p_m_emitInstruction u x1)) := by
  intro sz
  unfold ok_m_emitInstruction at hok
  refine Met.ofW (cc := cX4_emitInstruction) (maxL := 3) (ret := none) (by decide) rfl ?_
  intro p e s m args below meth c s₁ B hml hv
  obtain ⟨rfl, hsz, hP, hK, hD0, hZ⟩ := hv
  have hx := B.exec
  have hb := B.bytes
  have hr := B.returns
  have hts := atoms_spec (ws := wsX4_emitInstruction) B.pre
  have hown : s.vm.findClass RX4 = some m.cls := findClass_of_methodNamed B.named
  have hlocks := B.notSynchronized
  subst hsz
  have hD := hD0.self (sz := s.heap.size)
  generalize hAe : va_A (wM am cI cZ u) s.heap.size = A at hD hZ ⊢
  have hA : ∀ q : Nat, s.heap.size ≤ q → A q := fun q h => by rw [← hAe]; exact Or.inr h
  have hS : va_S A s.heap s.heap [] := va_S.rf
  have Cx : cxt p s m ([.ref (am 0), .int x1] : List Value).toArray meth c cX4_emitInstruction 3 none wsX4_emitInstruction RX4 D vwCl (tyT cI cZ) zz A := ⟨hx, hb, hr, hts, hown, hlocks, hml, hK, hA, hZ⟩
  have hl := lv_entry ([.ref (am 0), .int x1]) (n := 3) (Nat.le_of_ble_eq_true rfl)
  rw [lg_entry_eq]
  generalize (lg_sl ([.ref (am 0), .int x1]) ++ List.replicate (3 - (lg_sl ([.ref (am 0), .int x1])).length) Slot.unset).toArray = ls at hl ⊢
  have hl : lv_has ls 3 [(0, .ref (am 0)), (1, .int x1)] := hl
  refine lv_aload_n hx hb dX4_emitInstruction_0 rfl (lv_at hl 0 rfl) ?_
  refine va_get (ci := 4) (v := .ref (am 1)) (C := RX4) (T := TX4) (N := 22) hx hb hts (ivX4 _) hown hK hP 0 rfl rfl 2 (by decide) (hts _ (tb_c tw_3_103)) (fun _ h9 => h9) rfl dX4_emitInstruction_1 ?_
  refine lv_iload_n hx hb dX4_emitInstruction_4 rfl (lv_at hl 1 rfl) ?_
  obtain ⟨h_1, hok⟩ := hok
  refine va_iald (f := u.2 0) hx hb hK hP 1 0 rfl rfl h_1 dX4_emitInstruction_5 ?_
  rcases Classical.em ((u.2 0 x1.toNatClampNeg) = 0) with c_2 | c_2
  · have hok := hok.1 c_2
    refine lv_tableIn (tgt := 48) hx hb dX4_emitInstruction_6 (by rw [c_2]; decide) (by rw [c_2]; decide) (by rw [c_2]; rfl) (by decide) ?_
    refine lv_aload_n hx hb dX4_emitInstruction_48 rfl (lv_at hl 0 rfl) ?_
    refine lv_aload_n hx hb dX4_emitInstruction_49 rfl (lv_at hl 0 rfl) ?_
    refine va_get (ci := 4) (v := .ref (am 3)) (C := RX4) (T := TX4) (N := 22) hx hb hts (ivX4 _) hown hK hP 0 rfl rfl 4 (by decide) (hts _ (tb_c tw_3_105)) (fun _ h9 => h9) rfl dX4_emitInstruction_50 ?_
    refine lv_iload_n hx hb dX4_emitInstruction_53 rfl (lv_at hl 1 rfl) ?_
    obtain ⟨h_3, hok⟩ := hok
    refine va_iald (f := u.2 2) hx hb hK hP 3 0 rfl rfl h_3 dX4_emitInstruction_54 ?_
    refine k_callSi (As := [.int (u.2 2 x1.toNatClampNeg)]) (rest := [.ref (am 0)]) hzz ⟨hx, hb, hml, hown, hts⟩ (c_m_target l D am cI cZ zz hzz (wM am cI cZ u) (u.2 2 x1.toNatClampNeg)) (cwS 1 hts (tb_S tw_4_27 tw_4_28 tw_1_5 tw_4_29) rfl rfl rfl (by decide +kernel) ⟨Nat.le_of_ble_eq_true rfl, Nat.le_of_ble_eq_true rfl⟩) rfl hl.1 rfl (lv_room (Nat.le_of_ble_eq_true rfl)) dX4_emitInstruction_55 ⟨Nat.le_of_ble_eq_true rfl, Nat.le_of_ble_eq_true rfl⟩ hP hK hD hS hA hZ (fun H locs hP hD hS => ?_)
    refine lv_aload_n hx hb dX4_emitInstruction_58 rfl (lv_at hl 0 rfl) ?_
    refine va_get (ci := 4) (v := .ref (am 2)) (C := RX4) (T := TX4) (N := 22) hx hb hts (ivX4 _) hown hK hP 0 rfl rfl 3 (by decide) (hts _ (tb_c tw_3_104)) (fun _ h9 => h9) rfl dX4_emitInstruction_59 ?_
    refine lv_iload_n hx hb dX4_emitInstruction_62 rfl (lv_at hl 1 rfl) ?_
    obtain ⟨h_5, hok⟩ := hok
    refine va_iald (f := u.2 1) hx hb hK hP 2 0 rfl rfl h_5 dX4_emitInstruction_63 ?_
    obtain ⟨h_6, hok⟩ := hok
    refine k_callVv (As := [.int (p_m_target (u.2 2 x1.toNatClampNeg)), .int (u.2 1 x1.toNatClampNeg)]) (rest := []) hzz ⟨hx, hb, hml, hown, hts⟩ (c_m_make l D am cI cZ zz hzz u (p_m_target (u.2 2 x1.toNatClampNeg)) (u.2 1 x1.toNatClampNeg) h_6) (cwV 2 hts (tb_V tw_4_30 tw_4_32 slX4_make tw_1_5 tw_4_33) rfl rfl rfl (by decide +kernel) ⟨Nat.le_of_ble_eq_true rfl, Nat.le_of_ble_eq_true rfl⟩) (va_recv hK hP (ci := 4) (q0 := 0) rfl rfl) rfl hl.1 rfl (lv_room (Nat.le_of_ble_eq_true rfl)) dX4_emitInstruction_64 ⟨Nat.le_of_ble_eq_true rfl, Nat.le_of_ble_eq_true rfl⟩ hP hK hD hS hA hZ (fun H locs hP hD hS => ?_)
    generalize eu_7 : p_m_make u (p_m_target (u.2 2 x1.toNatClampNeg)) (u.2 1 x1.toNatClampNeg) = u_7 at hP hD ⊢
    try rw [eu_7] at hok
    refine lv_aload_n hx hb dX4_emitInstruction_67 rfl (lv_at hl 0 rfl) ?_
    refine lv_aload_n hx hb dX4_emitInstruction_68 rfl (lv_at hl 0 rfl) ?_
    refine va_get (ci := 4) (v := .ref (am 3)) (C := RX4) (T := TX4) (N := 22) hx hb hts (ivX4 _) hown hK hP 0 rfl rfl 4 (by decide) (hts _ (tb_c tw_3_105)) (fun _ h9 => h9) rfl dX4_emitInstruction_69 ?_
    refine lv_iload_n hx hb dX4_emitInstruction_72 rfl (lv_at hl 1 rfl) ?_
    obtain ⟨h_8, hok⟩ := hok
    refine va_iald (f := u_7.2 2) hx hb hK hP 3 0 rfl rfl h_8 dX4_emitInstruction_73 ?_
    obtain ⟨h_9, hok⟩ := hok
    refine k_callVv (As := [.int (u_7.2 2 x1.toNatClampNeg)]) (rest := []) hzz ⟨hx, hb, hml, hown, hts⟩ (c_m_keep l D am cI cZ zz hzz u_7 (u_7.2 2 x1.toNatClampNeg) h_9) (cwV 1 hts (tb_V tw_4_34 tw_4_36 slX4_keep tw_1_5 tw_4_37) rfl rfl rfl (by decide +kernel) ⟨Nat.le_of_ble_eq_true rfl, Nat.le_of_ble_eq_true rfl⟩) (va_recv hK hP (ci := 4) (q0 := 0) rfl rfl) rfl hl.1 rfl (lv_room (Nat.le_of_ble_eq_true rfl)) dX4_emitInstruction_74 ⟨Nat.le_of_ble_eq_true rfl, Nat.le_of_ble_eq_true rfl⟩ hP hK hD hS hA hZ (fun H locs hP hD hS => ?_)
    generalize eu_10 : p_m_keep u_7 (u_7.2 2 x1.toNatClampNeg) = u_10 at hP hD ⊢
    try rw [eu_10] at hok
    refine lv_goto (tgt := 268) hx hb dX4_emitInstruction_77 (by decide) ?_
    have e9 : p_m_emitInstruction u x1 = u_10 := by
      subst eu_10
      subst eu_7
      rw [p_m_emitInstruction, if_pos c_2]
    rw [e9]
    exact W.vret hx hb hr (fun t ht hW => ⟨⟨(), rfl, trivial, by rw [ht]; exact hP, va_K.moved hW.alike hK, hD⟩, hS.F ht⟩) hS.2.2 dX4_emitInstruction_268
  · have hok := hok.2 c_2
    rcases Classical.em ((u.2 0 x1.toNatClampNeg) = 1) with c_11 | c_11
    · have hok := hok.1 c_11
      refine lv_tableIn (tgt := 80) hx hb dX4_emitInstruction_6 (by rw [c_11]; decide) (by rw [c_11]; decide) (by rw [c_11]; rfl) (by decide) ?_
      refine lv_aload_n hx hb dX4_emitInstruction_80 rfl (lv_at hl 0 rfl) ?_
      refine lv_aload_n hx hb dX4_emitInstruction_81 rfl (lv_at hl 0 rfl) ?_
      refine va_get (ci := 4) (v := .ref (am 2)) (C := RX4) (T := TX4) (N := 22) hx hb hts (ivX4 _) hown hK hP 0 rfl rfl 3 (by decide) (hts _ (tb_c tw_3_104)) (fun _ h9 => h9) rfl dX4_emitInstruction_82 ?_
      refine lv_iload_n hx hb dX4_emitInstruction_85 rfl (lv_at hl 1 rfl) ?_
      obtain ⟨h_12, hok⟩ := hok
      refine va_iald (f := u.2 1) hx hb hK hP 2 0 rfl rfl h_12 dX4_emitInstruction_86 ?_
      refine lv_aload_n hx hb dX4_emitInstruction_87 rfl (lv_at hl 0 rfl) ?_
      refine va_get (ci := 4) (v := .ref (am 3)) (C := RX4) (T := TX4) (N := 22) hx hb hts (ivX4 _) hown hK hP 0 rfl rfl 4 (by decide) (hts _ (tb_c tw_3_105)) (fun _ h9 => h9) rfl dX4_emitInstruction_88 ?_
      refine lv_iload_n hx hb dX4_emitInstruction_91 rfl (lv_at hl 1 rfl) ?_
      obtain ⟨h_13, hok⟩ := hok
      refine va_iald (f := u.2 2) hx hb hK hP 3 0 rfl rfl h_13 dX4_emitInstruction_92 ?_
      refine lv_aload_n hx hb dX4_emitInstruction_93 rfl (lv_at hl 0 rfl) ?_
      refine va_get (ci := 4) (v := .ref (am 4)) (C := RX4) (T := TX4) (N := 22) hx hb hts (ivX4 _) hown hK hP 0 rfl rfl 5 (by decide) (hts _ (tb_c tw_3_106)) (fun _ h9 => h9) rfl dX4_emitInstruction_94 ?_
      refine lv_iload_n hx hb dX4_emitInstruction_97 rfl (lv_at hl 1 rfl) ?_
      obtain ⟨h_14, hok⟩ := hok
      refine va_iald (f := u.2 3) hx hb hK hP 4 0 rfl rfl h_14 dX4_emitInstruction_98 ?_
      refine lv_aload_n hx hb dX4_emitInstruction_99 rfl (lv_at hl 0 rfl) ?_
      refine va_get (ci := 4) (v := .ref (am 5)) (C := RX4) (T := TX4) (N := 22) hx hb hts (ivX4 _) hown hK hP 0 rfl rfl 6 (by decide) (hts _ (tb_c tw_3_107)) (fun _ h9 => h9) rfl dX4_emitInstruction_100 ?_
      refine lv_iload_n hx hb dX4_emitInstruction_103 rfl (lv_at hl 1 rfl) ?_
      obtain ⟨h_15, hok⟩ := hok
      refine va_iald (f := u.2 4) hx hb hK hP 5 0 rfl rfl h_15 dX4_emitInstruction_104 ?_
      obtain ⟨h_16, hok⟩ := hok
      refine k_callVv (As := [.int (u.2 1 x1.toNatClampNeg), .int (u.2 2 x1.toNatClampNeg), .int (u.2 3 x1.toNatClampNeg), .int (u.2 4 x1.toNatClampNeg)]) (rest := []) hzz ⟨hx, hb, hml, hown, hts⟩ (c_m_emitCompute l D am cI cZ zz hzz u (u.2 1 x1.toNatClampNeg) (u.2 2 x1.toNatClampNeg) (u.2 3 x1.toNatClampNeg) (u.2 4 x1.toNatClampNeg) h_16) (cwV 4 hts (tb_V tw_4_39 tw_4_41 slX4_emitCompute tw_1_5 tw_4_42) rfl rfl rfl (by decide +kernel) ⟨Nat.le_of_ble_eq_true rfl, Nat.le_of_ble_eq_true rfl⟩) (va_recv hK hP (ci := 4) (q0 := 0) rfl rfl) rfl hl.1 rfl (lv_room (Nat.le_of_ble_eq_true rfl)) dX4_emitInstruction_105 ⟨Nat.le_of_ble_eq_true rfl, Nat.le_of_ble_eq_true rfl⟩ hP hK hD hS hA hZ (fun H locs hP hD hS => ?_)
      generalize eu_17 : p_m_emitCompute u (u.2 1 x1.toNatClampNeg) (u.2 2 x1.toNatClampNeg) (u.2 3 x1.toNatClampNeg) (u.2 4 x1.toNatClampNeg) = u_17 at hP hD ⊢
      try rw [eu_17] at hok
      refine lv_goto (tgt := 268) hx hb dX4_emitInstruction_108 (by decide) ?_
      have e9 : p_m_emitInstruction u x1 = u_17 := by
        subst eu_17
        rw [p_m_emitInstruction, if_neg c_2, if_pos c_11]
      rw [e9]
      exact W.vret hx hb hr (fun t ht hW => ⟨⟨(), rfl, trivial, by rw [ht]; exact hP, va_K.moved hW.alike hK, hD⟩, hS.F ht⟩) hS.2.2 dX4_emitInstruction_268
    · have hok := hok.2 c_11
      rcases Classical.em ((u.2 0 x1.toNatClampNeg) = 2) with c_18 | c_18
      · have hok := hok.1 c_18
        refine lv_tableIn (tgt := 111) hx hb dX4_emitInstruction_6 (by rw [c_18]; decide) (by rw [c_18]; decide) (by rw [c_18]; rfl) (by decide) ?_
        refine lv_aload_n hx hb dX4_emitInstruction_111 rfl (lv_at hl 0 rfl) ?_
        refine lv_aload_n hx hb dX4_emitInstruction_112 rfl (lv_at hl 0 rfl) ?_
        refine va_get (ci := 4) (v := .ref (am 3)) (C := RX4) (T := TX4) (N := 22) hx hb hts (ivX4 _) hown hK hP 0 rfl rfl 4 (by decide) (hts _ (tb_c tw_3_105)) (fun _ h9 => h9) rfl dX4_emitInstruction_113 ?_
        refine lv_iload_n hx hb dX4_emitInstruction_116 rfl (lv_at hl 1 rfl) ?_
        obtain ⟨h_19, hok⟩ := hok
        refine va_iald (f := u.2 2) hx hb hK hP 3 0 rfl rfl h_19 dX4_emitInstruction_117 ?_
        refine lv_iconst (v := 0) hx hb dX4_emitInstruction_118 (by decide) ?_
        obtain ⟨h_20, hok⟩ := hok
        refine k_callVi (As := [.int (u.2 2 x1.toNatClampNeg), .int 0]) (rest := []) hzz ⟨hx, hb, hml, hown, hts⟩ (c_m_fetch l D am cI cZ zz hzz u (u.2 2 x1.toNatClampNeg) 0 h_20) (cwV 2 hts (tb_V tw_4_43 tw_4_45 slX4_fetch tw_1_5 tw_4_46) rfl rfl rfl (by decide +kernel) ⟨Nat.le_of_ble_eq_true rfl, Nat.le_of_ble_eq_true rfl⟩) (va_recv hK hP (ci := 4) (q0 := 0) rfl rfl) rfl hl.1 rfl (lv_room (Nat.le_of_ble_eq_true rfl)) dX4_emitInstruction_119 ⟨Nat.le_of_ble_eq_true rfl, Nat.le_of_ble_eq_true rfl⟩ hP hK hD hS hA hZ (fun H locs hP hD hS => ?_)
        generalize eu_21 : (p_m_fetch u (u.2 2 x1.toNatClampNeg) 0).2 = u_21 at hP hD ⊢
        try rw [eu_21] at hok
        refine lv_istore_n (lv' := [(2, .int ((p_m_fetch u (u.2 2 x1.toNatClampNeg) 0).1)), (0, .ref (am 0)), (1, .int x1)]) hx hb dX4_emitInstruction_122 rfl hl (by decide) rfl (fun ls hl => ?_)
        refine lv_aload_n hx hb dX4_emitInstruction_123 rfl (lv_at hl 1 rfl) ?_
        refine lv_iload_n hx hb dX4_emitInstruction_124 rfl (lv_at hl 0 rfl) ?_
        obtain ⟨h_22, hok⟩ := hok
        refine k_callVv (As := [.int ((p_m_fetch u (u.2 2 x1.toNatClampNeg) 0).1)]) (rest := []) hzz ⟨hx, hb, hml, hown, hts⟩ (c_m_emitPlace l D am cI cZ zz hzz u_21 ((p_m_fetch u (u.2 2 x1.toNatClampNeg) 0).1) h_22) (cwV 1 hts (tb_V tw_4_55 tw_4_57 slX4_emitPlace tw_1_5 tw_4_58) rfl rfl rfl (by decide +kernel) ⟨Nat.le_of_ble_eq_true rfl, Nat.le_of_ble_eq_true rfl⟩) (va_recv hK hP (ci := 4) (q0 := 0) rfl rfl) rfl hl.1 rfl (lv_room (Nat.le_of_ble_eq_true rfl)) dX4_emitInstruction_125 ⟨Nat.le_of_ble_eq_true rfl, Nat.le_of_ble_eq_true rfl⟩ hP hK hD hS hA hZ (fun H locs hP hD hS => ?_)
        generalize eu_23 : p_m_emitPlace u_21 ((p_m_fetch u (u.2 2 x1.toNatClampNeg) 0).1) = u_23 at hP hD ⊢
        try rw [eu_23] at hok
        refine lv_aload_n hx hb dX4_emitInstruction_128 rfl (lv_at hl 1 rfl) ?_
        refine lv_sipush (v := 22616) hx hb dX4_emitInstruction_129 (by decide) ?_
        refine lv_aload_n hx hb dX4_emitInstruction_132 rfl (lv_at hl 1 rfl) ?_
        refine va_get (ci := 4) (v := .ref (am 2)) (C := RX4) (T := TX4) (N := 22) hx hb hts (ivX4 _) hown hK hP 0 rfl rfl 3 (by decide) (hts _ (tb_c tw_3_104)) (fun _ h9 => h9) rfl dX4_emitInstruction_133 ?_
        refine lv_iload_n hx hb dX4_emitInstruction_136 rfl (lv_at hl 2 rfl) ?_
        obtain ⟨h_24, hok⟩ := hok
        refine va_iald (f := u_23.2 1) hx hb hK hP 2 0 rfl rfl h_24 dX4_emitInstruction_137 ?_
        refine k_callSi (As := [.int (u_23.2 1 x1.toNatClampNeg)]) (rest := [.int 22616, .ref (am 0)]) hzz ⟨hx, hb, hml, hown, hts⟩ (c_m_target l D am cI cZ zz hzz (wM am cI cZ u_23) (u_23.2 1 x1.toNatClampNeg)) (cwS 1 hts (tb_S tw_4_27 tw_4_28 tw_1_5 tw_4_29) rfl rfl rfl (by decide +kernel) ⟨Nat.le_of_ble_eq_true rfl, Nat.le_of_ble_eq_true rfl⟩) rfl hl.1 rfl (lv_room (Nat.le_of_ble_eq_true rfl)) dX4_emitInstruction_138 ⟨Nat.le_of_ble_eq_true rfl, Nat.le_of_ble_eq_true rfl⟩ hP hK hD hS hA hZ (fun H locs hP hD hS => ?_)
        refine lv_iadd hx hb dX4_emitInstruction_141 ?_
        obtain ⟨h_26, hok⟩ := hok
        refine k_callVv (As := [.int (22616 + (p_m_target (u_23.2 1 x1.toNatClampNeg)))]) (rest := []) hzz ⟨hx, hb, hml, hown, hts⟩ (c_m_emit l D am cI cZ zz hzz u_23 (22616 + (p_m_target (u_23.2 1 x1.toNatClampNeg))) h_26) (cwV 1 hts (tb_V tw_4_19 tw_4_21 slX4_emit tw_1_5 tw_4_22) rfl rfl rfl (by decide +kernel) ⟨Nat.le_of_ble_eq_true rfl, Nat.le_of_ble_eq_true rfl⟩) (va_recv hK hP (ci := 4) (q0 := 0) rfl rfl) rfl hl.1 rfl (lv_room (Nat.le_of_ble_eq_true rfl)) dX4_emitInstruction_142 ⟨Nat.le_of_ble_eq_true rfl, Nat.le_of_ble_eq_true rfl⟩ hP hK hD hS hA hZ (fun H locs hP hD hS => ?_)
        generalize eu_27 : p_m_emit u_23 (22616 + (p_m_target (u_23.2 1 x1.toNatClampNeg))) = u_27 at hP hD ⊢
        try rw [eu_27] at hok
        refine lv_aload_n hx hb dX4_emitInstruction_145 rfl (lv_at hl 1 rfl) ?_
        refine lv_aload_n hx hb dX4_emitInstruction_146 rfl (lv_at hl 1 rfl) ?_
        refine va_get (ci := 4) (v := .ref (am 2)) (C := RX4) (T := TX4) (N := 22) hx hb hts (ivX4 _) hown hK hP 0 rfl rfl 3 (by decide) (hts _ (tb_c tw_3_104)) (fun _ h9 => h9) rfl dX4_emitInstruction_147 ?_
        refine lv_iload_n hx hb dX4_emitInstruction_150 rfl (lv_at hl 2 rfl) ?_
        obtain ⟨h_28, hok⟩ := hok
        refine va_iald (f := u_27.2 1) hx hb hK hP 2 0 rfl rfl h_28 dX4_emitInstruction_151 ?_
        obtain ⟨h_29, hok⟩ := hok
        refine k_callVv (As := [.int (u_27.2 1 x1.toNatClampNeg)]) (rest := []) hzz ⟨hx, hb, hml, hown, hts⟩ (c_m_keep l D am cI cZ zz hzz u_27 (u_27.2 1 x1.toNatClampNeg) h_29) (cwV 1 hts (tb_V tw_4_34 tw_4_36 slX4_keep tw_1_5 tw_4_37) rfl rfl rfl (by decide +kernel) ⟨Nat.le_of_ble_eq_true rfl, Nat.le_of_ble_eq_true rfl⟩) (va_recv hK hP (ci := 4) (q0 := 0) rfl rfl) rfl hl.1 rfl (lv_room (Nat.le_of_ble_eq_true rfl)) dX4_emitInstruction_152 ⟨Nat.le_of_ble_eq_true rfl, Nat.le_of_ble_eq_true rfl⟩ hP hK hD hS hA hZ (fun H locs hP hD hS => ?_)
        generalize eu_30 : p_m_keep u_27 (u_27.2 1 x1.toNatClampNeg) = u_30 at hP hD ⊢
        try rw [eu_30] at hok
        refine lv_goto (tgt := 268) hx hb dX4_emitInstruction_155 (by decide) ?_
        have e9 : p_m_emitInstruction u x1 = u_30 := by
          subst eu_30
          subst eu_27
          subst eu_23
          subst eu_21
          rw [p_m_emitInstruction, if_neg c_2, if_neg c_11, if_pos c_18]
        rw [e9]
        exact W.vret hx hb hr (fun t ht hW => ⟨⟨(), rfl, trivial, by rw [ht]; exact hP, va_K.moved hW.alike hK, hD⟩, hS.F ht⟩) hS.2.2 dX4_emitInstruction_268
      · have hok := hok.2 c_18
        rcases Classical.em ((u.2 0 x1.toNatClampNeg) = 3) with c_31 | c_31
        · have hok := hok.1 c_31
          refine lv_tableIn (tgt := 158) hx hb dX4_emitInstruction_6 (by rw [c_31]; decide) (by rw [c_31]; decide) (by rw [c_31]; rfl) (by decide) ?_
          refine lv_aload_n hx hb dX4_emitInstruction_158 rfl (lv_at hl 0 rfl) ?_
          refine lv_aload_n hx hb dX4_emitInstruction_159 rfl (lv_at hl 0 rfl) ?_
          refine va_get (ci := 4) (v := .ref (am 2)) (C := RX4) (T := TX4) (N := 22) hx hb hts (ivX4 _) hown hK hP 0 rfl rfl 3 (by decide) (hts _ (tb_c tw_3_104)) (fun _ h9 => h9) rfl dX4_emitInstruction_160 ?_
          refine lv_iload_n hx hb dX4_emitInstruction_163 rfl (lv_at hl 1 rfl) ?_
          obtain ⟨h_32, hok⟩ := hok
          refine va_iald (f := u.2 1) hx hb hK hP 2 0 rfl rfl h_32 dX4_emitInstruction_164 ?_
          refine lv_iconst (v := 0) hx hb dX4_emitInstruction_165 (by decide) ?_
          obtain ⟨h_33, hok⟩ := hok
          refine k_callVi (As := [.int (u.2 1 x1.toNatClampNeg), .int 0]) (rest := []) hzz ⟨hx, hb, hml, hown, hts⟩ (c_m_fetch l D am cI cZ zz hzz u (u.2 1 x1.toNatClampNeg) 0 h_33) (cwV 2 hts (tb_V tw_4_43 tw_4_45 slX4_fetch tw_1_5 tw_4_46) rfl rfl rfl (by decide +kernel) ⟨Nat.le_of_ble_eq_true rfl, Nat.le_of_ble_eq_true rfl⟩) (va_recv hK hP (ci := 4) (q0 := 0) rfl rfl) rfl hl.1 rfl (lv_room (Nat.le_of_ble_eq_true rfl)) dX4_emitInstruction_166 ⟨Nat.le_of_ble_eq_true rfl, Nat.le_of_ble_eq_true rfl⟩ hP hK hD hS hA hZ (fun H locs hP hD hS => ?_)
          generalize eu_34 : (p_m_fetch u (u.2 1 x1.toNatClampNeg) 0).2 = u_34 at hP hD ⊢
          try rw [eu_34] at hok
          refine lv_istore_n (lv' := [(2, .int ((p_m_fetch u (u.2 1 x1.toNatClampNeg) 0).1)), (0, .ref (am 0)), (1, .int x1)]) hx hb dX4_emitInstruction_169 rfl hl (by decide) rfl (fun ls hl => ?_)
          refine lv_aload_n hx hb dX4_emitInstruction_170 rfl (lv_at hl 1 rfl) ?_
          refine lv_iload_n hx hb dX4_emitInstruction_171 rfl (lv_at hl 0 rfl) ?_
          obtain ⟨h_35, hok⟩ := hok
          refine k_callVv (As := [.int ((p_m_fetch u (u.2 1 x1.toNatClampNeg) 0).1)]) (rest := []) hzz ⟨hx, hb, hml, hown, hts⟩ (c_m_emitPlace l D am cI cZ zz hzz u_34 ((p_m_fetch u (u.2 1 x1.toNatClampNeg) 0).1) h_35) (cwV 1 hts (tb_V tw_4_55 tw_4_57 slX4_emitPlace tw_1_5 tw_4_58) rfl rfl rfl (by decide +kernel) ⟨Nat.le_of_ble_eq_true rfl, Nat.le_of_ble_eq_true rfl⟩) (va_recv hK hP (ci := 4) (q0 := 0) rfl rfl) rfl hl.1 rfl (lv_room (Nat.le_of_ble_eq_true rfl)) dX4_emitInstruction_172 ⟨Nat.le_of_ble_eq_true rfl, Nat.le_of_ble_eq_true rfl⟩ hP hK hD hS hA hZ (fun H locs hP hD hS => ?_)
          generalize eu_36 : p_m_emitPlace u_34 ((p_m_fetch u (u.2 1 x1.toNatClampNeg) 0).1) = u_36 at hP hD ⊢
          try rw [eu_36] at hok
          refine lv_aload_n hx hb dX4_emitInstruction_175 rfl (lv_at hl 1 rfl) ?_
          refine lv_aload_n hx hb dX4_emitInstruction_176 rfl (lv_at hl 1 rfl) ?_
          refine va_get (ci := 4) (v := .ref (am 3)) (C := RX4) (T := TX4) (N := 22) hx hb hts (ivX4 _) hown hK hP 0 rfl rfl 4 (by decide) (hts _ (tb_c tw_3_105)) (fun _ h9 => h9) rfl dX4_emitInstruction_177 ?_
          refine lv_iload_n hx hb dX4_emitInstruction_180 rfl (lv_at hl 2 rfl) ?_
          obtain ⟨h_37, hok⟩ := hok
          refine va_iald (f := u_36.2 2) hx hb hK hP 3 0 rfl rfl h_37 dX4_emitInstruction_181 ?_
          refine lv_iconst (v := 0) hx hb dX4_emitInstruction_182 (by decide) ?_
          obtain ⟨h_38, hok⟩ := hok
          refine k_callVi (As := [.int (u_36.2 2 x1.toNatClampNeg), .int 0]) (rest := []) hzz ⟨hx, hb, hml, hown, hts⟩ (c_m_fetch l D am cI cZ zz hzz u_36 (u_36.2 2 x1.toNatClampNeg) 0 h_38) (cwV 2 hts (tb_V tw_4_43 tw_4_45 slX4_fetch tw_1_5 tw_4_46) rfl rfl rfl (by decide +kernel) ⟨Nat.le_of_ble_eq_true rfl, Nat.le_of_ble_eq_true rfl⟩) (va_recv hK hP (ci := 4) (q0 := 0) rfl rfl) rfl hl.1 rfl (lv_room (Nat.le_of_ble_eq_true rfl)) dX4_emitInstruction_183 ⟨Nat.le_of_ble_eq_true rfl, Nat.le_of_ble_eq_true rfl⟩ hP hK hD hS hA hZ (fun H locs hP hD hS => ?_)
          generalize eu_39 : (p_m_fetch u_36 (u_36.2 2 x1.toNatClampNeg) 0).2 = u_39 at hP hD ⊢
          try rw [eu_39] at hok
          refine lv_istore_n (lv' := [(2, .int ((p_m_fetch u_36 (u_36.2 2 x1.toNatClampNeg) 0).1)), (0, .ref (am 0)), (1, .int x1)]) hx hb dX4_emitInstruction_186 rfl hl (by decide) rfl (fun ls hl => ?_)
          refine lv_aload_n hx hb dX4_emitInstruction_187 rfl (lv_at hl 1 rfl) ?_
          refine lv_sipush (v := 20568) hx hb dX4_emitInstruction_188 (by decide) ?_
          refine lv_iload_n hx hb dX4_emitInstruction_191 rfl (lv_at hl 0 rfl) ?_
          refine lv_iadd hx hb dX4_emitInstruction_192 ?_
          obtain ⟨h_40, hok⟩ := hok
          refine k_callVv (As := [.int (20568 + ((p_m_fetch u_36 (u_36.2 2 x1.toNatClampNeg) 0).1))]) (rest := []) hzz ⟨hx, hb, hml, hown, hts⟩ (c_m_emit l D am cI cZ zz hzz u_39 (20568 + ((p_m_fetch u_36 (u_36.2 2 x1.toNatClampNeg) 0).1)) h_40) (cwV 1 hts (tb_V tw_4_19 tw_4_21 slX4_emit tw_1_5 tw_4_22) rfl rfl rfl (by decide +kernel) ⟨Nat.le_of_ble_eq_true rfl, Nat.le_of_ble_eq_true rfl⟩) (va_recv hK hP (ci := 4) (q0 := 0) rfl rfl) rfl hl.1 rfl (lv_room (Nat.le_of_ble_eq_true rfl)) dX4_emitInstruction_193 ⟨Nat.le_of_ble_eq_true rfl, Nat.le_of_ble_eq_true rfl⟩ hP hK hD hS hA hZ (fun H locs hP hD hS => ?_)
          generalize eu_41 : p_m_emit u_39 (20568 + ((p_m_fetch u_36 (u_36.2 2 x1.toNatClampNeg) 0).1)) = u_41 at hP hD ⊢
          try rw [eu_41] at hok
          refine lv_goto (tgt := 268) hx hb dX4_emitInstruction_196 (by decide) ?_
          have e9 : p_m_emitInstruction u x1 = u_41 := by
            subst eu_41
            subst eu_39
            subst eu_36
            subst eu_34
            rw [p_m_emitInstruction, if_neg c_2, if_neg c_11, if_neg c_18, if_pos c_31]
          rw [e9]
          exact W.vret hx hb hr (fun t ht hW => ⟨⟨(), rfl, trivial, by rw [ht]; exact hP, va_K.moved hW.alike hK, hD⟩, hS.F ht⟩) hS.2.2 dX4_emitInstruction_268
        · have hok := hok.2 c_31
          rcases Classical.em ((u.2 0 x1.toNatClampNeg) = 4) with c_42 | c_42
          · have hok := hok.1 c_42
            refine lv_tableIn (tgt := 199) hx hb dX4_emitInstruction_6 (by rw [c_42]; decide) (by rw [c_42]; decide) (by rw [c_42]; rfl) (by decide) ?_
            refine lv_aload_n hx hb dX4_emitInstruction_199 rfl (lv_at hl 0 rfl) ?_
            refine lv_aload_n hx hb dX4_emitInstruction_200 rfl (lv_at hl 0 rfl) ?_
            refine va_get (ci := 4) (v := .ref (am 2)) (C := RX4) (T := TX4) (N := 22) hx hb hts (ivX4 _) hown hK hP 0 rfl rfl 3 (by decide) (hts _ (tb_c tw_3_104)) (fun _ h9 => h9) rfl dX4_emitInstruction_201 ?_
            refine lv_iload_n hx hb dX4_emitInstruction_204 rfl (lv_at hl 1 rfl) ?_
            obtain ⟨h_43, hok⟩ := hok
            refine va_iald (f := u.2 1) hx hb hK hP 2 0 rfl rfl h_43 dX4_emitInstruction_205 ?_
            obtain ⟨h_44, hok⟩ := hok
            refine k_callVv (As := [.int (u.2 1 x1.toNatClampNeg)]) (rest := []) hzz ⟨hx, hb, hml, hown, hts⟩ (c_m_emitJump l D am cI cZ zz hzz u (u.2 1 x1.toNatClampNeg) h_44) (cwV 1 hts (tb_V tw_4_59 tw_4_61 slX4_emitJump tw_1_5 tw_4_62) rfl rfl rfl (by decide +kernel) ⟨Nat.le_of_ble_eq_true rfl, Nat.le_of_ble_eq_true rfl⟩) (va_recv hK hP (ci := 4) (q0 := 0) rfl rfl) rfl hl.1 rfl (lv_room (Nat.le_of_ble_eq_true rfl)) dX4_emitInstruction_206 ⟨Nat.le_of_ble_eq_true rfl, Nat.le_of_ble_eq_true rfl⟩ hP hK hD hS hA hZ (fun H locs hP hD hS => ?_)
            generalize eu_45 : p_m_emitJump u (u.2 1 x1.toNatClampNeg) = u_45 at hP hD ⊢
            try rw [eu_45] at hok
            refine lv_goto (tgt := 268) hx hb dX4_emitInstruction_209 (by decide) ?_
            have e9 : p_m_emitInstruction u x1 = u_45 := by
              subst eu_45
              rw [p_m_emitInstruction, if_neg c_2, if_neg c_11, if_neg c_18, if_neg c_31, if_pos c_42]
            rw [e9]
            exact W.vret hx hb hr (fun t ht hW => ⟨⟨(), rfl, trivial, by rw [ht]; exact hP, va_K.moved hW.alike hK, hD⟩, hS.F ht⟩) hS.2.2 dX4_emitInstruction_268
          · have hok := hok.2 c_42
            rcases Classical.em ((u.2 0 x1.toNatClampNeg) = 5) with c_46 | c_46
            · have hok := hok.1 c_46
              refine lv_tableIn (tgt := 212) hx hb dX4_emitInstruction_6 (by rw [c_46]; decide) (by rw [c_46]; decide) (by rw [c_46]; rfl) (by decide) ?_
              refine lv_aload_n hx hb dX4_emitInstruction_212 rfl (lv_at hl 0 rfl) ?_
              refine lv_iload_n hx hb dX4_emitInstruction_213 rfl (lv_at hl 1 rfl) ?_
              obtain ⟨h_47, hok⟩ := hok
              refine k_callVv (As := [.int x1]) (rest := []) hzz ⟨hx, hb, hml, hown, hts⟩ (c_m_emitBranch l D am cI cZ zz hzz u x1 h_47) (cwV 1 hts (tb_V tw_4_64 tw_4_66 slX4_emitBranch tw_1_5 tw_4_67) rfl rfl rfl (by decide +kernel) ⟨Nat.le_of_ble_eq_true rfl, Nat.le_of_ble_eq_true rfl⟩) (va_recv hK hP (ci := 4) (q0 := 0) rfl rfl) rfl hl.1 rfl (lv_room (Nat.le_of_ble_eq_true rfl)) dX4_emitInstruction_214 ⟨Nat.le_of_ble_eq_true rfl, Nat.le_of_ble_eq_true rfl⟩ hP hK hD hS hA hZ (fun H locs hP hD hS => ?_)
              generalize eu_48 : p_m_emitBranch u x1 = u_48 at hP hD ⊢
              try rw [eu_48] at hok
              refine lv_goto (tgt := 268) hx hb dX4_emitInstruction_217 (by decide) ?_
              have e9 : p_m_emitInstruction u x1 = u_48 := by
                subst eu_48
                rw [p_m_emitInstruction, if_neg c_2, if_neg c_11, if_neg c_18, if_neg c_31, if_neg c_42, if_pos c_46]
              rw [e9]
              exact W.vret hx hb hr (fun t ht hW => ⟨⟨(), rfl, trivial, by rw [ht]; exact hP, va_K.moved hW.alike hK, hD⟩, hS.F ht⟩) hS.2.2 dX4_emitInstruction_268
            · have hok := hok.2 c_46
              rcases Classical.em ((u.2 0 x1.toNatClampNeg) = 6) with c_49 | c_49
              · have hok := hok.1 c_49
                refine lv_tableIn (tgt := 220) hx hb dX4_emitInstruction_6 (by rw [c_49]; decide) (by rw [c_49]; decide) (by rw [c_49]; rfl) (by decide) ?_
                refine lv_aload_n hx hb dX4_emitInstruction_220 rfl (lv_at hl 0 rfl) ?_
                refine lv_aload_n hx hb dX4_emitInstruction_221 rfl (lv_at hl 0 rfl) ?_
                refine va_get (ci := 4) (v := .ref (am 2)) (C := RX4) (T := TX4) (N := 22) hx hb hts (ivX4 _) hown hK hP 0 rfl rfl 3 (by decide) (hts _ (tb_c tw_3_104)) (fun _ h9 => h9) rfl dX4_emitInstruction_222 ?_
                refine lv_iload_n hx hb dX4_emitInstruction_225 rfl (lv_at hl 1 rfl) ?_
                obtain ⟨h_50, hok⟩ := hok
                refine va_iald (f := u.2 1) hx hb hK hP 2 0 rfl rfl h_50 dX4_emitInstruction_226 ?_
                obtain ⟨h_51, hok⟩ := hok
                refine k_callVv (As := [.int (u.2 1 x1.toNatClampNeg)]) (rest := []) hzz ⟨hx, hb, hml, hown, hts⟩ (c_m_copy l D am cI cZ zz hzz u (u.2 1 x1.toNatClampNeg) h_51) (cwV 1 hts (tb_V tw_4_48 tw_4_50 slX4_copy tw_1_5 tw_4_51) rfl rfl rfl (by decide +kernel) ⟨Nat.le_of_ble_eq_true rfl, Nat.le_of_ble_eq_true rfl⟩) (va_recv hK hP (ci := 4) (q0 := 0) rfl rfl) rfl hl.1 rfl (lv_room (Nat.le_of_ble_eq_true rfl)) dX4_emitInstruction_227 ⟨Nat.le_of_ble_eq_true rfl, Nat.le_of_ble_eq_true rfl⟩ hP hK hD hS hA hZ (fun H locs hP hD hS => ?_)
                generalize eu_52 : p_m_copy u (u.2 1 x1.toNatClampNeg) = u_52 at hP hD ⊢
                try rw [eu_52] at hok
                refine lv_aload_n hx hb dX4_emitInstruction_230 rfl (lv_at hl 0 rfl) ?_
                refine lv_ldc (v := 57088) hx hb hown (hts _ (tb_c tw_4_69)) dX4_emitInstruction_231 ?_
                obtain ⟨h_53, hok⟩ := hok
                refine k_callVv (As := [.int 57088]) (rest := []) hzz ⟨hx, hb, hml, hown, hts⟩ (c_m_emit l D am cI cZ zz hzz u_52 57088 h_53) (cwV 1 hts (tb_V tw_4_19 tw_4_21 slX4_emit tw_1_5 tw_4_22) rfl rfl rfl (by decide +kernel) ⟨Nat.le_of_ble_eq_true rfl, Nat.le_of_ble_eq_true rfl⟩) (va_recv hK hP (ci := 4) (q0 := 0) rfl rfl) rfl hl.1 rfl (lv_room (Nat.le_of_ble_eq_true rfl)) dX4_emitInstruction_233 ⟨Nat.le_of_ble_eq_true rfl, Nat.le_of_ble_eq_true rfl⟩ hP hK hD hS hA hZ (fun H locs hP hD hS => ?_)
                generalize eu_54 : p_m_emit u_52 57088 = u_54 at hP hD ⊢
                try rw [eu_54] at hok
                refine lv_goto (tgt := 268) hx hb dX4_emitInstruction_236 (by decide) ?_
                have e9 : p_m_emitInstruction u x1 = u_54 := by
                  subst eu_54
                  subst eu_52
                  rw [p_m_emitInstruction, if_neg c_2, if_neg c_11, if_neg c_18, if_neg c_31, if_neg c_42, if_neg c_46, if_pos c_49]
                rw [e9]
                exact W.vret hx hb hr (fun t ht hW => ⟨⟨(), rfl, trivial, by rw [ht]; exact hP, va_K.moved hW.alike hK, hD⟩, hS.F ht⟩) hS.2.2 dX4_emitInstruction_268
              · have hok := hok.2 c_49
                have n_c_2 := lv_neT (k := 0) (a := 0) c_2 rfl
                have n_c_11 := lv_neT (k := 1) (a := 1) c_11 rfl
                have n_c_18 := lv_neT (k := 2) (a := 2) c_18 rfl
                have n_c_31 := lv_neT (k := 3) (a := 3) c_31 rfl
                have n_c_42 := lv_neT (k := 4) (a := 4) c_42 rfl
                have n_c_46 := lv_neT (k := 5) (a := 5) c_46 rfl
                have n_c_49 := lv_neT (k := 6) (a := 6) c_49 rfl
                refine lv_tableOut (tgt := 239) hx hb dX4_emitInstruction_6 (by omega) (by decide) ?_
                refine lv_aload_n hx hb dX4_emitInstruction_239 rfl (lv_at hl 0 rfl) ?_
                refine lv_aload_n hx hb dX4_emitInstruction_240 rfl (lv_at hl 0 rfl) ?_
                refine va_get (ci := 4) (v := .ref (am 1)) (C := RX4) (T := TX4) (N := 22) hx hb hts (ivX4 _) hown hK hP 0 rfl rfl 2 (by decide) (hts _ (tb_c tw_3_103)) (fun _ h9 => h9) rfl dX4_emitInstruction_241 ?_
                refine lv_iload_n hx hb dX4_emitInstruction_244 rfl (lv_at hl 1 rfl) ?_
                obtain ⟨h_55, hok⟩ := hok
                refine va_iald (f := u.2 0) hx hb hK hP 1 0 rfl rfl h_55 dX4_emitInstruction_245 ?_
                refine lv_bipush (v := 7) hx hb dX4_emitInstruction_246 (by decide) ?_
                refine lv_icmp_ne (tgt := 256) hx hb dX4_emitInstruction_248 (by decide) (fun c_56 => ?_) (fun c_56 => ?_)
                · have hok := hok.2 c_56
                  refine lv_ldc (v := 56832) hx hb hown (hts _ (tb_c tw_4_71)) dX4_emitInstruction_256 ?_
                  refine lv_aload_n hx hb dX4_emitInstruction_258 rfl (lv_at hl 0 rfl) ?_
                  refine va_get (ci := 4) (v := .ref (am 2)) (C := RX4) (T := TX4) (N := 22) hx hb hts (ivX4 _) hown hK hP 0 rfl rfl 3 (by decide) (hts _ (tb_c tw_3_104)) (fun _ h9 => h9) rfl dX4_emitInstruction_259 ?_
                  refine lv_iload_n hx hb dX4_emitInstruction_262 rfl (lv_at hl 1 rfl) ?_
                  obtain ⟨h_57, hok⟩ := hok
                  refine va_iald (f := u.2 1) hx hb hK hP 2 0 rfl rfl h_57 dX4_emitInstruction_263 ?_
                  refine lv_iadd hx hb dX4_emitInstruction_264 ?_
                  obtain ⟨h_58, hok⟩ := hok
                  refine k_callVv (As := [.int (56832 + (u.2 1 x1.toNatClampNeg))]) (rest := []) hzz ⟨hx, hb, hml, hown, hts⟩ (c_m_emit l D am cI cZ zz hzz u (56832 + (u.2 1 x1.toNatClampNeg)) h_58) (cwV 1 hts (tb_V tw_4_19 tw_4_21 slX4_emit tw_1_5 tw_4_22) rfl rfl rfl (by decide +kernel) ⟨Nat.le_of_ble_eq_true rfl, Nat.le_of_ble_eq_true rfl⟩) (va_recv hK hP (ci := 4) (q0 := 0) rfl rfl) rfl hl.1 rfl (lv_room (Nat.le_of_ble_eq_true rfl)) dX4_emitInstruction_265 ⟨Nat.le_of_ble_eq_true rfl, Nat.le_of_ble_eq_true rfl⟩ hP hK hD hS hA hZ (fun H locs hP hD hS => ?_)
                  generalize eu_59 : p_m_emit u (56832 + (u.2 1 x1.toNatClampNeg)) = u_59 at hP hD ⊢
                  try rw [eu_59] at hok
                  have e9 : p_m_emitInstruction u x1 = u_59 := by
                    subst eu_59
                    rw [p_m_emitInstruction, if_neg c_2, if_neg c_11, if_neg c_18, if_neg c_31, if_neg c_42, if_neg c_46, if_neg c_49, if_neg c_56]
                  rw [e9]
                  exact W.vret hx hb hr (fun t ht hW => ⟨⟨(), rfl, trivial, by rw [ht]; exact hP, va_K.moved hW.alike hK, hD⟩, hS.F ht⟩) hS.2.2 dX4_emitInstruction_268
                · have hok := hok.1 c_56
                  refine lv_ldc (v := 57089) hx hb hown (hts _ (tb_c tw_4_70)) dX4_emitInstruction_251 ?_
                  refine lv_goto (tgt := 265) hx hb dX4_emitInstruction_253 (by decide) ?_
                  obtain ⟨h_60, hok⟩ := hok
                  refine k_callVv (As := [.int 57089]) (rest := []) hzz ⟨hx, hb, hml, hown, hts⟩ (c_m_emit l D am cI cZ zz hzz u 57089 h_60) (cwV 1 hts (tb_V tw_4_19 tw_4_21 slX4_emit tw_1_5 tw_4_22) rfl rfl rfl (by decide +kernel) ⟨Nat.le_of_ble_eq_true rfl, Nat.le_of_ble_eq_true rfl⟩) (va_recv hK hP (ci := 4) (q0 := 0) rfl rfl) rfl hl.1 rfl (lv_room (Nat.le_of_ble_eq_true rfl)) dX4_emitInstruction_265 ⟨Nat.le_of_ble_eq_true rfl, Nat.le_of_ble_eq_true rfl⟩ hP hK hD hS hA hZ (fun H locs hP hD hS => ?_)
                  generalize eu_61 : p_m_emit u 57089 = u_61 at hP hD ⊢
                  try rw [eu_61] at hok
                  have e9 : p_m_emitInstruction u x1 = u_61 := by
                    subst eu_61
                    rw [p_m_emitInstruction, if_neg c_2, if_neg c_11, if_neg c_18, if_neg c_31, if_neg c_42, if_neg c_46, if_neg c_49, if_pos c_56]
                  rw [e9]
                  exact W.vret hx hb hr (fun t ht hW => ⟨⟨(), rfl, trivial, by rw [ht]; exact hP, va_K.moved hW.alike hK, hD⟩, hS.F ht⟩) hS.2.2 dX4_emitInstruction_268
