def p_result (x0 x1 x2 : Int32) : Int32 := (if x0 = 0 then x1 + x2 else (if x0 = 1 then x1 - x2 else (if x0 = 2 then x1 * x2 else (if x0 = 3 then x1 &&& x2 else (if x0 = 4 then x1 ||| x2 else (if x0 = 5 then x1 ^^^ x2 else (if x0 = 6 then (if 32 ≤ (x2 &&& 255) then 0 else x1 <<< ((x2 &&& 255) &&& 31)) else (if 32 ≤ (x2 &&& 255) then 0 else ush x1 (x2 &&& 255)))))))))
set_option maxHeartbeats 4000000 in
set_option maxRecDepth 100000 in
theorem c_result (l : Launch) (D : va_G) (ad : Nat → Nat) (cI cZ : ClassId) (zz : (Nat → Prop) → State → Heap → Prop) (hzz : Zok zz) (tS : Nat) (hst : Zst zz tS) (w : va_W) (x0 x1 x2 : Int32) : tfI l D vwCl (tyT cI cZ) zz yX1_result wsX1_result ({ frames := 0, cells := 0, slots := 0, locals := 0 } : Room) [.int x0, .int x1, .int x2] w (p_result x0 x1 x2) w := by
  intro sz
  refine Met.ofW (cc := cX1_result) (maxL := 4) (ret := (some .int)) (by decide) rfl ?_
  intro p e s m args below meth c s₁ B hml hv
  obtain ⟨rfl, hsz, hP, hK, hD0, hZ⟩ := hv
  have hx := B.exec
  have hb := B.bytes
  have hr := B.returns
  have hts := atoms_spec (ws := wsX1_result) B.pre
  have hown : s.vm.findClass RX1 = some m.cls := findClass_of_methodNamed B.named
  have hlocks := B.notSynchronized
  subst hsz
  have hD := hD0.self (sz := s.heap.size)
  generalize hAe : va_A w s.heap.size = A at hD hZ ⊢
  have hA : ∀ q : Nat, s.heap.size ≤ q → A q := fun q h => by rw [← hAe]; exact Or.inr h
  have hS : va_S A s.heap s.heap [] := va_S.rf
  have Cx : cxt p s m ([.int x0, .int x1, .int x2] : List Value).toArray meth c cX1_result 4 (some .int) wsX1_result RX1 D vwCl (tyT cI cZ) zz A := ⟨hx, hb, hr, hts, hown, hlocks, hml, hK, hA, hZ⟩
  have hl := lv_entry ([.int x0, .int x1, .int x2]) (n := 4) (Nat.le_of_ble_eq_true rfl)
  rw [lg_entry_eq]
  generalize (lg_sl ([.int x0, .int x1, .int x2]) ++ List.replicate (4 - (lg_sl ([.int x0, .int x1, .int x2])).length) Slot.unset).toArray = ls at hl ⊢
  have hl : lv_has ls 4 [(0, .int x0), (1, .int x1), (2, .int x2)] := hl
  refine lv_iload_n hx hb dX1_result_0 rfl (lv_at hl 2 rfl) ?_
  refine lv_sipush (v := 255) hx hb dX1_result_1 (by decide) ?_
  refine lv_iand hx hb dX1_result_4 ?_
  refine lv_istore_n (lv' := [(3, .int (x2 &&& 255)), (0, .int x0), (1, .int x1), (2, .int x2)]) hx hb dX1_result_5 rfl hl (by decide) rfl (fun ls hl => ?_)
  refine lv_iload_n hx hb dX1_result_6 rfl (lv_at hl 1 rfl) ?_
  rcases Classical.em (x0 = 0) with c_1 | c_1
  · skip
    refine lv_tableIn (tgt := 48) hx hb dX1_result_7 (by rw [c_1]; decide) (by rw [c_1]; decide) (by rw [c_1]; rfl) (by decide) ?_
    refine lv_iload_n hx hb dX1_result_48 rfl (lv_at hl 2 rfl) ?_
    refine lv_iload_n hx hb dX1_result_49 rfl (lv_at hl 3 rfl) ?_
    refine lv_iadd hx hb dX1_result_50 ?_
    have e9 : p_result x0 x1 x2 = x1 + x2 := by rw [p_result, if_pos c_1]
    rw [e9]
    exact W.iret hx hb hr (fun t ht hW => ⟨⟨_, (), rfl, rfl, by rw [ht]; exact hP, va_K.moved hW.alike hK, hD⟩, hS.F ht⟩) hS.2.2 dX1_result_51
  · skip
    rcases Classical.em (x0 = 1) with c_2 | c_2
    · skip
      refine lv_tableIn (tgt := 52) hx hb dX1_result_7 (by rw [c_2]; decide) (by rw [c_2]; decide) (by rw [c_2]; rfl) (by decide) ?_
      refine lv_iload_n hx hb dX1_result_52 rfl (lv_at hl 2 rfl) ?_
      refine lv_iload_n hx hb dX1_result_53 rfl (lv_at hl 3 rfl) ?_
      refine lv_isub hx hb dX1_result_54 ?_
      have e9 : p_result x0 x1 x2 = x1 - x2 := by rw [p_result, if_neg c_1, if_pos c_2]
      rw [e9]
      exact W.iret hx hb hr (fun t ht hW => ⟨⟨_, (), rfl, rfl, by rw [ht]; exact hP, va_K.moved hW.alike hK, hD⟩, hS.F ht⟩) hS.2.2 dX1_result_55
    · skip
      rcases Classical.em (x0 = 2) with c_3 | c_3
      · skip
        refine lv_tableIn (tgt := 56) hx hb dX1_result_7 (by rw [c_3]; decide) (by rw [c_3]; decide) (by rw [c_3]; rfl) (by decide) ?_
        refine lv_iload_n hx hb dX1_result_56 rfl (lv_at hl 2 rfl) ?_
        refine lv_iload_n hx hb dX1_result_57 rfl (lv_at hl 3 rfl) ?_
        refine lv_imul hx hb dX1_result_58 ?_
        have e9 : p_result x0 x1 x2 = x1 * x2 := by rw [p_result, if_neg c_1, if_neg c_2, if_pos c_3]
        rw [e9]
        exact W.iret hx hb hr (fun t ht hW => ⟨⟨_, (), rfl, rfl, by rw [ht]; exact hP, va_K.moved hW.alike hK, hD⟩, hS.F ht⟩) hS.2.2 dX1_result_59
      · skip
        rcases Classical.em (x0 = 3) with c_4 | c_4
        · skip
          refine lv_tableIn (tgt := 60) hx hb dX1_result_7 (by rw [c_4]; decide) (by rw [c_4]; decide) (by rw [c_4]; rfl) (by decide) ?_
          refine lv_iload_n hx hb dX1_result_60 rfl (lv_at hl 2 rfl) ?_
          refine lv_iload_n hx hb dX1_result_61 rfl (lv_at hl 3 rfl) ?_
          refine lv_iand hx hb dX1_result_62 ?_
          have e9 : p_result x0 x1 x2 = x1 &&& x2 := by rw [p_result, if_neg c_1, if_neg c_2, if_neg c_3, if_pos c_4]
          rw [e9]
          exact W.iret hx hb hr (fun t ht hW => ⟨⟨_, (), rfl, rfl, by rw [ht]; exact hP, va_K.moved hW.alike hK, hD⟩, hS.F ht⟩) hS.2.2 dX1_result_63
        · skip
          rcases Classical.em (x0 = 4) with c_5 | c_5
          · skip
            refine lv_tableIn (tgt := 64) hx hb dX1_result_7 (by rw [c_5]; decide) (by rw [c_5]; decide) (by rw [c_5]; rfl) (by decide) ?_
            refine lv_iload_n hx hb dX1_result_64 rfl (lv_at hl 2 rfl) ?_
            refine lv_iload_n hx hb dX1_result_65 rfl (lv_at hl 3 rfl) ?_
            refine lv_ior hx hb dX1_result_66 ?_
            have e9 : p_result x0 x1 x2 = x1 ||| x2 := by rw [p_result, if_neg c_1, if_neg c_2, if_neg c_3, if_neg c_4, if_pos c_5]
            rw [e9]
            exact W.iret hx hb hr (fun t ht hW => ⟨⟨_, (), rfl, rfl, by rw [ht]; exact hP, va_K.moved hW.alike hK, hD⟩, hS.F ht⟩) hS.2.2 dX1_result_67
          · skip
            rcases Classical.em (x0 = 5) with c_6 | c_6
            · skip
              refine lv_tableIn (tgt := 68) hx hb dX1_result_7 (by rw [c_6]; decide) (by rw [c_6]; decide) (by rw [c_6]; rfl) (by decide) ?_
              refine lv_iload_n hx hb dX1_result_68 rfl (lv_at hl 2 rfl) ?_
              refine lv_iload_n hx hb dX1_result_69 rfl (lv_at hl 3 rfl) ?_
              refine lv_ixor hx hb dX1_result_70 ?_
              have e9 : p_result x0 x1 x2 = x1 ^^^ x2 := by rw [p_result, if_neg c_1, if_neg c_2, if_neg c_3, if_neg c_4, if_neg c_5, if_pos c_6]
              rw [e9]
              exact W.iret hx hb hr (fun t ht hW => ⟨⟨_, (), rfl, rfl, by rw [ht]; exact hP, va_K.moved hW.alike hK, hD⟩, hS.F ht⟩) hS.2.2 dX1_result_71
            · skip
              rcases Classical.em (x0 = 6) with c_7 | c_7
              · skip
                refine lv_tableIn (tgt := 72) hx hb dX1_result_7 (by rw [c_7]; decide) (by rw [c_7]; decide) (by rw [c_7]; rfl) (by decide) ?_
                refine lv_iload_n hx hb dX1_result_72 rfl (lv_at hl 0 rfl) ?_
                refine lv_bipush (v := 32) hx hb dX1_result_73 (by decide) ?_
                refine lv_icmp_ge (tgt := 84) hx hb dX1_result_75 (by decide) (fun c_8 => ?_) (fun c_8 => ?_)
                · skip
                  refine lv_iconst (v := 0) hx hb dX1_result_84 (by decide) ?_
                  have e9 : p_result x0 x1 x2 = 0 := by rw [p_result, if_neg c_1, if_neg c_2, if_neg c_3, if_neg c_4, if_neg c_5, if_neg c_6, if_pos c_7, if_pos c_8]
                  rw [e9]
                  exact W.iret hx hb hr (fun t ht hW => ⟨⟨_, (), rfl, rfl, by rw [ht]; exact hP, va_K.moved hW.alike hK, hD⟩, hS.F ht⟩) hS.2.2 dX1_result_85
                · skip
                  refine lv_iload_n hx hb dX1_result_78 rfl (lv_at hl 2 rfl) ?_
                  refine lv_iload_n hx hb dX1_result_79 rfl (lv_at hl 0 rfl) ?_
                  refine lv_ishl hx hb dX1_result_80 ?_
                  refine lv_goto (tgt := 85) hx hb dX1_result_81 (by decide) ?_
                  have e9 : p_result x0 x1 x2 = x1 <<< ((x2 &&& 255) &&& 31) := by rw [p_result, if_neg c_1, if_neg c_2, if_neg c_3, if_neg c_4, if_neg c_5, if_neg c_6, if_pos c_7, if_neg c_8]
                  rw [e9]
                  exact W.iret hx hb hr (fun t ht hW => ⟨⟨_, (), rfl, rfl, by rw [ht]; exact hP, va_K.moved hW.alike hK, hD⟩, hS.F ht⟩) hS.2.2 dX1_result_85
              · skip
                have n_c_1 := lv_neT (k := 0) (a := 0) c_1 rfl
                have n_c_2 := lv_neT (k := 1) (a := 1) c_2 rfl
                have n_c_3 := lv_neT (k := 2) (a := 2) c_3 rfl
                have n_c_4 := lv_neT (k := 3) (a := 3) c_4 rfl
                have n_c_5 := lv_neT (k := 4) (a := 4) c_5 rfl
                have n_c_6 := lv_neT (k := 5) (a := 5) c_6 rfl
                have n_c_7 := lv_neT (k := 6) (a := 6) c_7 rfl
                refine lv_tableOut (tgt := 86) hx hb dX1_result_7 (by omega) (by decide) ?_
                refine lv_iload_n hx hb dX1_result_86 rfl (lv_at hl 0 rfl) ?_
                refine lv_bipush (v := 32) hx hb dX1_result_87 (by decide) ?_
                refine lv_icmp_ge (tgt := 98) hx hb dX1_result_89 (by decide) (fun c_9 => ?_) (fun c_9 => ?_)
                · skip
                  refine lv_iconst (v := 0) hx hb dX1_result_98 (by decide) ?_
                  have e9 : p_result x0 x1 x2 = 0 := by rw [p_result, if_neg c_1, if_neg c_2, if_neg c_3, if_neg c_4, if_neg c_5, if_neg c_6, if_neg c_7, if_pos c_9]
                  rw [e9]
                  exact W.iret hx hb hr (fun t ht hW => ⟨⟨_, (), rfl, rfl, by rw [ht]; exact hP, va_K.moved hW.alike hK, hD⟩, hS.F ht⟩) hS.2.2 dX1_result_99
                · skip
                  refine lv_iload_n hx hb dX1_result_92 rfl (lv_at hl 2 rfl) ?_
                  refine lv_iload_n hx hb dX1_result_93 rfl (lv_at hl 0 rfl) ?_
                  refine lv_iushr (v := ush x1 (x2 &&& 255)) hx hb dX1_result_94 rfl ?_
                  refine lv_goto (tgt := 99) hx hb dX1_result_95 (by decide) ?_
                  have e9 : p_result x0 x1 x2 = ush x1 (x2 &&& 255) := by rw [p_result, if_neg c_1, if_neg c_2, if_neg c_3, if_neg c_4, if_neg c_5, if_neg c_6, if_neg c_7, if_neg c_9]
                  rw [e9]
                  exact W.iret hx hb hr (fun t ht hW => ⟨⟨_, (), rfl, rfl, by rw [ht]; exact hP, va_K.moved hW.alike hK, hD⟩, hS.F ht⟩) hS.2.2 dX1_result_99

def p_holds (x0 x1 x2 : Int32) : Int32 := (if x0 = 0 then (if x1 = x2 then 1 else 0) else (if x0 = 1 then (if x1 = x2 then 0 else 1) else (if x0 = 2 then (if (x1 ^^^ ((-2147483648))) < (x2 ^^^ ((-2147483648))) then 0 else 1) else (if x0 = 3 then (if (x2 ^^^ ((-2147483648))) ≤ (x1 ^^^ ((-2147483648))) then 0 else 1) else (if x0 = 8 then (if (x1 ^^^ ((-2147483648))) ≤ (x2 ^^^ ((-2147483648))) then 0 else 1) else (if x0 = 9 then (if (x2 ^^^ ((-2147483648))) < (x1 ^^^ ((-2147483648))) then 0 else 1) else (if x0 = 10 then (if x1 < x2 then 0 else 1) else (if x0 = 11 then (if x2 ≤ x1 then 0 else 1) else (if x0 = 12 then (if x1 ≤ x2 then 0 else 1) else (if x2 < x1 then 0 else 1))))))))))
set_option maxHeartbeats 4000000 in
set_option maxRecDepth 100000 in
theorem c_holds (l : Launch) (D : va_G) (ad : Nat → Nat) (cI cZ : ClassId) (zz : (Nat → Prop) → State → Heap → Prop) (hzz : Zok zz) (tS : Nat) (hst : Zst zz tS) (w : va_W) (x0 x1 x2 : Int32) : tfI l D vwCl (tyT cI cZ) zz yX1_holds wsX1_holds ({ frames := 0, cells := 0, slots := 0, locals := 0 } : Room) [.int x0, .int x1, .int x2] w (p_holds x0 x1 x2) w := by
  intro sz
  refine Met.ofW (cc := cX1_holds) (maxL := 5) (ret := (some .boolean)) (by decide) rfl ?_
  intro p e s m args below meth c s₁ B hml hv
  obtain ⟨rfl, hsz, hP, hK, hD0, hZ⟩ := hv
  have hx := B.exec
  have hb := B.bytes
  have hr := B.returns
  have hts := atoms_spec (ws := wsX1_holds) B.pre
  have hown : s.vm.findClass RX1 = some m.cls := findClass_of_methodNamed B.named
  have hlocks := B.notSynchronized
  subst hsz
  have hD := hD0.self (sz := s.heap.size)
  generalize hAe : va_A w s.heap.size = A at hD hZ ⊢
  have hA : ∀ q : Nat, s.heap.size ≤ q → A q := fun q h => by rw [← hAe]; exact Or.inr h
  have hS : va_S A s.heap s.heap [] := va_S.rf
  have Cx : cxt p s m ([.int x0, .int x1, .int x2] : List Value).toArray meth c cX1_holds 5 (some .boolean) wsX1_holds RX1 D vwCl (tyT cI cZ) zz A := ⟨hx, hb, hr, hts, hown, hlocks, hml, hK, hA, hZ⟩
  have hl := lv_entry ([.int x0, .int x1, .int x2]) (n := 5) (Nat.le_of_ble_eq_true rfl)
  rw [lg_entry_eq]
  generalize (lg_sl ([.int x0, .int x1, .int x2]) ++ List.replicate (5 - (lg_sl ([.int x0, .int x1, .int x2])).length) Slot.unset).toArray = ls at hl ⊢
  have hl : lv_has ls 5 [(0, .int x0), (1, .int x1), (2, .int x2)] := hl
  refine lv_iload_n hx hb dX1_holds_0 rfl (lv_at hl 1 rfl) ?_
  refine lv_ldc (v := (-2147483648)) hx hb hown (hts _ (tb_c tw_3_66)) dX1_holds_1 ?_
  refine lv_ixor hx hb dX1_holds_3 ?_
  refine lv_istore_n (lv' := [(3, .int (x1 ^^^ ((-2147483648)))), (0, .int x0), (1, .int x1), (2, .int x2)]) hx hb dX1_holds_4 rfl hl (by decide) rfl (fun ls hl => ?_)
  refine lv_iload_n hx hb dX1_holds_5 rfl (lv_at hl 3 rfl) ?_
  refine lv_ldc (v := (-2147483648)) hx hb hown (hts _ (tb_c tw_3_66)) dX1_holds_6 ?_
  refine lv_ixor hx hb dX1_holds_8 ?_
  refine lv_istore (lv' := [(4, .int (x2 ^^^ ((-2147483648)))), (3, .int (x1 ^^^ ((-2147483648)))), (0, .int x0), (1, .int x1), (2, .int x2)]) hx hb dX1_holds_9 hl (by decide) rfl (fun ls hl => ?_)
  refine lv_iload_n hx hb dX1_holds_11 rfl (lv_at hl 2 rfl) ?_
  rcases Classical.em (x0 = 0) with c_1 | c_1
  · skip
    refine lv_tableIn (tgt := 80) hx hb dX1_holds_12 (by rw [c_1]; decide) (by rw [c_1]; decide) (by rw [c_1]; rfl) (by decide) ?_
    refine lv_iload_n hx hb dX1_holds_80 rfl (lv_at hl 3 rfl) ?_
    refine lv_iload_n hx hb dX1_holds_81 rfl (lv_at hl 4 rfl) ?_
    refine lv_icmp_ne (tgt := 89) hx hb dX1_holds_82 (by decide) (fun c_2 => ?_) (fun c_2 => ?_)
    · skip
      refine lv_iconst (v := 0) hx hb dX1_holds_89 (by decide) ?_
      have e9 : p_holds x0 x1 x2 = 0 := by rw [p_holds, if_pos c_1, if_neg c_2]
      rw [e9]
      exact W.zret hx hb hr rfl (fun t ht hW => ⟨⟨_, (), rfl, rfl, by rw [ht]; exact hP, va_K.moved hW.alike hK, hD⟩, hS.F ht⟩) hS.2.2 dX1_holds_90
    · skip
      refine lv_iconst (v := 1) hx hb dX1_holds_85 (by decide) ?_
      refine lv_goto (tgt := 90) hx hb dX1_holds_86 (by decide) ?_
      have e9 : p_holds x0 x1 x2 = 1 := by rw [p_holds, if_pos c_1, if_pos c_2]
      rw [e9]
      exact W.zret hx hb hr rfl (fun t ht hW => ⟨⟨_, (), rfl, rfl, by rw [ht]; exact hP, va_K.moved hW.alike hK, hD⟩, hS.F ht⟩) hS.2.2 dX1_holds_90
  · skip
    rcases Classical.em (x0 = 1) with c_3 | c_3
    · skip
      refine lv_tableIn (tgt := 91) hx hb dX1_holds_12 (by rw [c_3]; decide) (by rw [c_3]; decide) (by rw [c_3]; rfl) (by decide) ?_
      refine lv_iload_n hx hb dX1_holds_91 rfl (lv_at hl 3 rfl) ?_
      refine lv_iload_n hx hb dX1_holds_92 rfl (lv_at hl 4 rfl) ?_
      refine lv_icmp_eq (tgt := 100) hx hb dX1_holds_93 (by decide) (fun c_4 => ?_) (fun c_4 => ?_)
      · skip
        refine lv_iconst (v := 0) hx hb dX1_holds_100 (by decide) ?_
        have e9 : p_holds x0 x1 x2 = 0 := by rw [p_holds, if_neg c_1, if_pos c_3, if_pos c_4]
        rw [e9]
        exact W.zret hx hb hr rfl (fun t ht hW => ⟨⟨_, (), rfl, rfl, by rw [ht]; exact hP, va_K.moved hW.alike hK, hD⟩, hS.F ht⟩) hS.2.2 dX1_holds_101
      · skip
        refine lv_iconst (v := 1) hx hb dX1_holds_96 (by decide) ?_
        refine lv_goto (tgt := 101) hx hb dX1_holds_97 (by decide) ?_
        have e9 : p_holds x0 x1 x2 = 1 := by rw [p_holds, if_neg c_1, if_pos c_3, if_neg c_4]
        rw [e9]
        exact W.zret hx hb hr rfl (fun t ht hW => ⟨⟨_, (), rfl, rfl, by rw [ht]; exact hP, va_K.moved hW.alike hK, hD⟩, hS.F ht⟩) hS.2.2 dX1_holds_101
    · skip
      rcases Classical.em (x0 = 2) with c_5 | c_5
      · skip
        refine lv_tableIn (tgt := 102) hx hb dX1_holds_12 (by rw [c_5]; decide) (by rw [c_5]; decide) (by rw [c_5]; rfl) (by decide) ?_
        refine lv_iload_n hx hb dX1_holds_102 rfl (lv_at hl 1 rfl) ?_
        refine lv_iload hx hb dX1_holds_103 (lv_at hl 0 rfl) ?_
        refine lv_icmp_lt (tgt := 112) hx hb dX1_holds_105 (by decide) (fun c_6 => ?_) (fun c_6 => ?_)
        · skip
          refine lv_iconst (v := 0) hx hb dX1_holds_112 (by decide) ?_
          have e9 : p_holds x0 x1 x2 = 0 := by rw [p_holds, if_neg c_1, if_neg c_3, if_pos c_5, if_pos c_6]
          rw [e9]
          exact W.zret hx hb hr rfl (fun t ht hW => ⟨⟨_, (), rfl, rfl, by rw [ht]; exact hP, va_K.moved hW.alike hK, hD⟩, hS.F ht⟩) hS.2.2 dX1_holds_113
        · skip
          refine lv_iconst (v := 1) hx hb dX1_holds_108 (by decide) ?_
          refine lv_goto (tgt := 113) hx hb dX1_holds_109 (by decide) ?_
          have e9 : p_holds x0 x1 x2 = 1 := by rw [p_holds, if_neg c_1, if_neg c_3, if_pos c_5, if_neg c_6]
          rw [e9]
          exact W.zret hx hb hr rfl (fun t ht hW => ⟨⟨_, (), rfl, rfl, by rw [ht]; exact hP, va_K.moved hW.alike hK, hD⟩, hS.F ht⟩) hS.2.2 dX1_holds_113
      · skip
        rcases Classical.em (x0 = 3) with c_7 | c_7
        · skip
          refine lv_tableIn (tgt := 114) hx hb dX1_holds_12 (by rw [c_7]; decide) (by rw [c_7]; decide) (by rw [c_7]; rfl) (by decide) ?_
          refine lv_iload_n hx hb dX1_holds_114 rfl (lv_at hl 1 rfl) ?_
          refine lv_iload hx hb dX1_holds_115 (lv_at hl 0 rfl) ?_
          refine lv_icmp_ge (tgt := 124) hx hb dX1_holds_117 (by decide) (fun c_8 => ?_) (fun c_8 => ?_)
          · skip
            refine lv_iconst (v := 0) hx hb dX1_holds_124 (by decide) ?_
            have e9 : p_holds x0 x1 x2 = 0 := by rw [p_holds, if_neg c_1, if_neg c_3, if_neg c_5, if_pos c_7, if_pos c_8]
            rw [e9]
            exact W.zret hx hb hr rfl (fun t ht hW => ⟨⟨_, (), rfl, rfl, by rw [ht]; exact hP, va_K.moved hW.alike hK, hD⟩, hS.F ht⟩) hS.2.2 dX1_holds_125
          · skip
            refine lv_iconst (v := 1) hx hb dX1_holds_120 (by decide) ?_
            refine lv_goto (tgt := 125) hx hb dX1_holds_121 (by decide) ?_
            have e9 : p_holds x0 x1 x2 = 1 := by rw [p_holds, if_neg c_1, if_neg c_3, if_neg c_5, if_pos c_7, if_neg c_8]
            rw [e9]
            exact W.zret hx hb hr rfl (fun t ht hW => ⟨⟨_, (), rfl, rfl, by rw [ht]; exact hP, va_K.moved hW.alike hK, hD⟩, hS.F ht⟩) hS.2.2 dX1_holds_125
        · skip
          rcases Classical.em (x0 = 8) with c_9 | c_9
          · skip
            refine lv_tableIn (tgt := 126) hx hb dX1_holds_12 (by rw [c_9]; decide) (by rw [c_9]; decide) (by rw [c_9]; rfl) (by decide) ?_
            refine lv_iload_n hx hb dX1_holds_126 rfl (lv_at hl 1 rfl) ?_
            refine lv_iload hx hb dX1_holds_127 (lv_at hl 0 rfl) ?_
            refine lv_icmp_le (tgt := 136) hx hb dX1_holds_129 (by decide) (fun c_10 => ?_) (fun c_10 => ?_)
            · skip
              refine lv_iconst (v := 0) hx hb dX1_holds_136 (by decide) ?_
              have e9 : p_holds x0 x1 x2 = 0 := by rw [p_holds, if_neg c_1, if_neg c_3, if_neg c_5, if_neg c_7, if_pos c_9, if_pos c_10]
              rw [e9]
              exact W.zret hx hb hr rfl (fun t ht hW => ⟨⟨_, (), rfl, rfl, by rw [ht]; exact hP, va_K.moved hW.alike hK, hD⟩, hS.F ht⟩) hS.2.2 dX1_holds_137
            · skip
              refine lv_iconst (v := 1) hx hb dX1_holds_132 (by decide) ?_
              refine lv_goto (tgt := 137) hx hb dX1_holds_133 (by decide) ?_
              have e9 : p_holds x0 x1 x2 = 1 := by rw [p_holds, if_neg c_1, if_neg c_3, if_neg c_5, if_neg c_7, if_pos c_9, if_neg c_10]
              rw [e9]
              exact W.zret hx hb hr rfl (fun t ht hW => ⟨⟨_, (), rfl, rfl, by rw [ht]; exact hP, va_K.moved hW.alike hK, hD⟩, hS.F ht⟩) hS.2.2 dX1_holds_137
          · skip
            rcases Classical.em (x0 = 9) with c_11 | c_11
            · skip
              refine lv_tableIn (tgt := 138) hx hb dX1_holds_12 (by rw [c_11]; decide) (by rw [c_11]; decide) (by rw [c_11]; rfl) (by decide) ?_
              refine lv_iload_n hx hb dX1_holds_138 rfl (lv_at hl 1 rfl) ?_
              refine lv_iload hx hb dX1_holds_139 (lv_at hl 0 rfl) ?_
              refine lv_icmp_gt (tgt := 148) hx hb dX1_holds_141 (by decide) (fun c_12 => ?_) (fun c_12 => ?_)
              · skip
                refine lv_iconst (v := 0) hx hb dX1_holds_148 (by decide) ?_
                have e9 : p_holds x0 x1 x2 = 0 := by rw [p_holds, if_neg c_1, if_neg c_3, if_neg c_5, if_neg c_7, if_neg c_9, if_pos c_11, if_pos c_12]
                rw [e9]
                exact W.zret hx hb hr rfl (fun t ht hW => ⟨⟨_, (), rfl, rfl, by rw [ht]; exact hP, va_K.moved hW.alike hK, hD⟩, hS.F ht⟩) hS.2.2 dX1_holds_149
              · skip
                refine lv_iconst (v := 1) hx hb dX1_holds_144 (by decide) ?_
                refine lv_goto (tgt := 149) hx hb dX1_holds_145 (by decide) ?_
                have e9 : p_holds x0 x1 x2 = 1 := by rw [p_holds, if_neg c_1, if_neg c_3, if_neg c_5, if_neg c_7, if_neg c_9, if_pos c_11, if_neg c_12]
                rw [e9]
                exact W.zret hx hb hr rfl (fun t ht hW => ⟨⟨_, (), rfl, rfl, by rw [ht]; exact hP, va_K.moved hW.alike hK, hD⟩, hS.F ht⟩) hS.2.2 dX1_holds_149
            · skip
              rcases Classical.em (x0 = 10) with c_13 | c_13
              · skip
                refine lv_tableIn (tgt := 150) hx hb dX1_holds_12 (by rw [c_13]; decide) (by rw [c_13]; decide) (by rw [c_13]; rfl) (by decide) ?_
                refine lv_iload_n hx hb dX1_holds_150 rfl (lv_at hl 3 rfl) ?_
                refine lv_iload_n hx hb dX1_holds_151 rfl (lv_at hl 4 rfl) ?_
                refine lv_icmp_lt (tgt := 159) hx hb dX1_holds_152 (by decide) (fun c_14 => ?_) (fun c_14 => ?_)
                · skip
                  refine lv_iconst (v := 0) hx hb dX1_holds_159 (by decide) ?_
                  have e9 : p_holds x0 x1 x2 = 0 := by rw [p_holds, if_neg c_1, if_neg c_3, if_neg c_5, if_neg c_7, if_neg c_9, if_neg c_11, if_pos c_13, if_pos c_14]
                  rw [e9]
                  exact W.zret hx hb hr rfl (fun t ht hW => ⟨⟨_, (), rfl, rfl, by rw [ht]; exact hP, va_K.moved hW.alike hK, hD⟩, hS.F ht⟩) hS.2.2 dX1_holds_160
                · skip
                  refine lv_iconst (v := 1) hx hb dX1_holds_155 (by decide) ?_
                  refine lv_goto (tgt := 160) hx hb dX1_holds_156 (by decide) ?_
                  have e9 : p_holds x0 x1 x2 = 1 := by rw [p_holds, if_neg c_1, if_neg c_3, if_neg c_5, if_neg c_7, if_neg c_9, if_neg c_11, if_pos c_13, if_neg c_14]
                  rw [e9]
                  exact W.zret hx hb hr rfl (fun t ht hW => ⟨⟨_, (), rfl, rfl, by rw [ht]; exact hP, va_K.moved hW.alike hK, hD⟩, hS.F ht⟩) hS.2.2 dX1_holds_160
              · skip
                rcases Classical.em (x0 = 11) with c_15 | c_15
                · skip
                  refine lv_tableIn (tgt := 161) hx hb dX1_holds_12 (by rw [c_15]; decide) (by rw [c_15]; decide) (by rw [c_15]; rfl) (by decide) ?_
                  refine lv_iload_n hx hb dX1_holds_161 rfl (lv_at hl 3 rfl) ?_
                  refine lv_iload_n hx hb dX1_holds_162 rfl (lv_at hl 4 rfl) ?_
                  refine lv_icmp_ge (tgt := 170) hx hb dX1_holds_163 (by decide) (fun c_16 => ?_) (fun c_16 => ?_)
                  · skip
                    refine lv_iconst (v := 0) hx hb dX1_holds_170 (by decide) ?_
                    have e9 : p_holds x0 x1 x2 = 0 := by rw [p_holds, if_neg c_1, if_neg c_3, if_neg c_5, if_neg c_7, if_neg c_9, if_neg c_11, if_neg c_13, if_pos c_15, if_pos c_16]
                    rw [e9]
                    exact W.zret hx hb hr rfl (fun t ht hW => ⟨⟨_, (), rfl, rfl, by rw [ht]; exact hP, va_K.moved hW.alike hK, hD⟩, hS.F ht⟩) hS.2.2 dX1_holds_171
                  · skip
                    refine lv_iconst (v := 1) hx hb dX1_holds_166 (by decide) ?_
                    refine lv_goto (tgt := 171) hx hb dX1_holds_167 (by decide) ?_
                    have e9 : p_holds x0 x1 x2 = 1 := by rw [p_holds, if_neg c_1, if_neg c_3, if_neg c_5, if_neg c_7, if_neg c_9, if_neg c_11, if_neg c_13, if_pos c_15, if_neg c_16]
                    rw [e9]
                    exact W.zret hx hb hr rfl (fun t ht hW => ⟨⟨_, (), rfl, rfl, by rw [ht]; exact hP, va_K.moved hW.alike hK, hD⟩, hS.F ht⟩) hS.2.2 dX1_holds_171
                · skip
                  rcases Classical.em (x0 = 12) with c_17 | c_17
                  · skip
                    refine lv_tableIn (tgt := 172) hx hb dX1_holds_12 (by rw [c_17]; decide) (by rw [c_17]; decide) (by rw [c_17]; rfl) (by decide) ?_
                    refine lv_iload_n hx hb dX1_holds_172 rfl (lv_at hl 3 rfl) ?_
                    refine lv_iload_n hx hb dX1_holds_173 rfl (lv_at hl 4 rfl) ?_
                    refine lv_icmp_le (tgt := 181) hx hb dX1_holds_174 (by decide) (fun c_18 => ?_) (fun c_18 => ?_)
                    · skip
                      refine lv_iconst (v := 0) hx hb dX1_holds_181 (by decide) ?_
                      have e9 : p_holds x0 x1 x2 = 0 := by rw [p_holds, if_neg c_1, if_neg c_3, if_neg c_5, if_neg c_7, if_neg c_9, if_neg c_11, if_neg c_13, if_neg c_15, if_pos c_17, if_pos c_18]
                      rw [e9]
                      exact W.zret hx hb hr rfl (fun t ht hW => ⟨⟨_, (), rfl, rfl, by rw [ht]; exact hP, va_K.moved hW.alike hK, hD⟩, hS.F ht⟩) hS.2.2 dX1_holds_182
                    · skip
                      refine lv_iconst (v := 1) hx hb dX1_holds_177 (by decide) ?_
                      refine lv_goto (tgt := 182) hx hb dX1_holds_178 (by decide) ?_
                      have e9 : p_holds x0 x1 x2 = 1 := by rw [p_holds, if_neg c_1, if_neg c_3, if_neg c_5, if_neg c_7, if_neg c_9, if_neg c_11, if_neg c_13, if_neg c_15, if_pos c_17, if_neg c_18]
                      rw [e9]
                      exact W.zret hx hb hr rfl (fun t ht hW => ⟨⟨_, (), rfl, rfl, by rw [ht]; exact hP, va_K.moved hW.alike hK, hD⟩, hS.F ht⟩) hS.2.2 dX1_holds_182
                  · skip
                    rcases Classical.em (x0 = 4) with g_19 | g_19
                    · refine lv_tableIn (tgt := 183) hx hb dX1_holds_12 (by rw [g_19]; decide) (by rw [g_19]; decide) (by rw [g_19]; rfl) (by decide) ?_
                      refine lv_iload_n hx hb dX1_holds_183 rfl (lv_at hl 3 rfl) ?_
                      refine lv_iload_n hx hb dX1_holds_184 rfl (lv_at hl 4 rfl) ?_
                      refine lv_icmp_gt (tgt := 192) hx hb dX1_holds_185 (by decide) (fun c_20 => ?_) (fun c_20 => ?_)
                      · skip
                        refine lv_iconst (v := 0) hx hb dX1_holds_192 (by decide) ?_
                        have e9 : p_holds x0 x1 x2 = 0 := by rw [p_holds, if_neg c_1, if_neg c_3, if_neg c_5, if_neg c_7, if_neg c_9, if_neg c_11, if_neg c_13, if_neg c_15, if_neg c_17, if_pos c_20]
                        rw [e9]
                        exact W.zret hx hb hr rfl (fun t ht hW => ⟨⟨_, (), rfl, rfl, by rw [ht]; exact hP, va_K.moved hW.alike hK, hD⟩, hS.F ht⟩) hS.2.2 dX1_holds_193
                      · skip
                        refine lv_iconst (v := 1) hx hb dX1_holds_188 (by decide) ?_
                        refine lv_goto (tgt := 193) hx hb dX1_holds_189 (by decide) ?_
                        have e9 : p_holds x0 x1 x2 = 1 := by rw [p_holds, if_neg c_1, if_neg c_3, if_neg c_5, if_neg c_7, if_neg c_9, if_neg c_11, if_neg c_13, if_neg c_15, if_neg c_17, if_neg c_20]
                        rw [e9]
                        exact W.zret hx hb hr rfl (fun t ht hW => ⟨⟨_, (), rfl, rfl, by rw [ht]; exact hP, va_K.moved hW.alike hK, hD⟩, hS.F ht⟩) hS.2.2 dX1_holds_193
                    rcases Classical.em (x0 = 5) with g_21 | g_21
                    · refine lv_tableIn (tgt := 183) hx hb dX1_holds_12 (by rw [g_21]; decide) (by rw [g_21]; decide) (by rw [g_21]; rfl) (by decide) ?_
                      refine lv_iload_n hx hb dX1_holds_183 rfl (lv_at hl 3 rfl) ?_
                      refine lv_iload_n hx hb dX1_holds_184 rfl (lv_at hl 4 rfl) ?_
                      refine lv_icmp_gt (tgt := 192) hx hb dX1_holds_185 (by decide) (fun c_22 => ?_) (fun c_22 => ?_)
                      · skip
                        refine lv_iconst (v := 0) hx hb dX1_holds_192 (by decide) ?_
                        have e9 : p_holds x0 x1 x2 = 0 := by rw [p_holds, if_neg c_1, if_neg c_3, if_neg c_5, if_neg c_7, if_neg c_9, if_neg c_11, if_neg c_13, if_neg c_15, if_neg c_17, if_pos c_22]
                        rw [e9]
                        exact W.zret hx hb hr rfl (fun t ht hW => ⟨⟨_, (), rfl, rfl, by rw [ht]; exact hP, va_K.moved hW.alike hK, hD⟩, hS.F ht⟩) hS.2.2 dX1_holds_193
                      · skip
                        refine lv_iconst (v := 1) hx hb dX1_holds_188 (by decide) ?_
                        refine lv_goto (tgt := 193) hx hb dX1_holds_189 (by decide) ?_
                        have e9 : p_holds x0 x1 x2 = 1 := by rw [p_holds, if_neg c_1, if_neg c_3, if_neg c_5, if_neg c_7, if_neg c_9, if_neg c_11, if_neg c_13, if_neg c_15, if_neg c_17, if_neg c_22]
                        rw [e9]
                        exact W.zret hx hb hr rfl (fun t ht hW => ⟨⟨_, (), rfl, rfl, by rw [ht]; exact hP, va_K.moved hW.alike hK, hD⟩, hS.F ht⟩) hS.2.2 dX1_holds_193
                    rcases Classical.em (x0 = 6) with g_23 | g_23
                    · refine lv_tableIn (tgt := 183) hx hb dX1_holds_12 (by rw [g_23]; decide) (by rw [g_23]; decide) (by rw [g_23]; rfl) (by decide) ?_
                      refine lv_iload_n hx hb dX1_holds_183 rfl (lv_at hl 3 rfl) ?_
                      refine lv_iload_n hx hb dX1_holds_184 rfl (lv_at hl 4 rfl) ?_
                      refine lv_icmp_gt (tgt := 192) hx hb dX1_holds_185 (by decide) (fun c_24 => ?_) (fun c_24 => ?_)
                      · skip
                        refine lv_iconst (v := 0) hx hb dX1_holds_192 (by decide) ?_
                        have e9 : p_holds x0 x1 x2 = 0 := by rw [p_holds, if_neg c_1, if_neg c_3, if_neg c_5, if_neg c_7, if_neg c_9, if_neg c_11, if_neg c_13, if_neg c_15, if_neg c_17, if_pos c_24]
                        rw [e9]
                        exact W.zret hx hb hr rfl (fun t ht hW => ⟨⟨_, (), rfl, rfl, by rw [ht]; exact hP, va_K.moved hW.alike hK, hD⟩, hS.F ht⟩) hS.2.2 dX1_holds_193
                      · skip
                        refine lv_iconst (v := 1) hx hb dX1_holds_188 (by decide) ?_
                        refine lv_goto (tgt := 193) hx hb dX1_holds_189 (by decide) ?_
                        have e9 : p_holds x0 x1 x2 = 1 := by rw [p_holds, if_neg c_1, if_neg c_3, if_neg c_5, if_neg c_7, if_neg c_9, if_neg c_11, if_neg c_13, if_neg c_15, if_neg c_17, if_neg c_24]
                        rw [e9]
                        exact W.zret hx hb hr rfl (fun t ht hW => ⟨⟨_, (), rfl, rfl, by rw [ht]; exact hP, va_K.moved hW.alike hK, hD⟩, hS.F ht⟩) hS.2.2 dX1_holds_193
                    rcases Classical.em (x0 = 7) with g_25 | g_25
                    · refine lv_tableIn (tgt := 183) hx hb dX1_holds_12 (by rw [g_25]; decide) (by rw [g_25]; decide) (by rw [g_25]; rfl) (by decide) ?_
                      refine lv_iload_n hx hb dX1_holds_183 rfl (lv_at hl 3 rfl) ?_
                      refine lv_iload_n hx hb dX1_holds_184 rfl (lv_at hl 4 rfl) ?_
                      refine lv_icmp_gt (tgt := 192) hx hb dX1_holds_185 (by decide) (fun c_26 => ?_) (fun c_26 => ?_)
                      · skip
                        refine lv_iconst (v := 0) hx hb dX1_holds_192 (by decide) ?_
                        have e9 : p_holds x0 x1 x2 = 0 := by rw [p_holds, if_neg c_1, if_neg c_3, if_neg c_5, if_neg c_7, if_neg c_9, if_neg c_11, if_neg c_13, if_neg c_15, if_neg c_17, if_pos c_26]
                        rw [e9]
                        exact W.zret hx hb hr rfl (fun t ht hW => ⟨⟨_, (), rfl, rfl, by rw [ht]; exact hP, va_K.moved hW.alike hK, hD⟩, hS.F ht⟩) hS.2.2 dX1_holds_193
                      · skip
                        refine lv_iconst (v := 1) hx hb dX1_holds_188 (by decide) ?_
                        refine lv_goto (tgt := 193) hx hb dX1_holds_189 (by decide) ?_
                        have e9 : p_holds x0 x1 x2 = 1 := by rw [p_holds, if_neg c_1, if_neg c_3, if_neg c_5, if_neg c_7, if_neg c_9, if_neg c_11, if_neg c_13, if_neg c_15, if_neg c_17, if_neg c_26]
                        rw [e9]
                        exact W.zret hx hb hr rfl (fun t ht hW => ⟨⟨_, (), rfl, rfl, by rw [ht]; exact hP, va_K.moved hW.alike hK, hD⟩, hS.F ht⟩) hS.2.2 dX1_holds_193
                    have n_c_1 := lv_neT (k := 0) (a := 0) c_1 rfl
                    have n_c_3 := lv_neT (k := 1) (a := 1) c_3 rfl
                    have n_c_5 := lv_neT (k := 2) (a := 2) c_5 rfl
                    have n_c_7 := lv_neT (k := 3) (a := 3) c_7 rfl
                    have n_c_9 := lv_neT (k := 8) (a := 8) c_9 rfl
                    have n_c_11 := lv_neT (k := 9) (a := 9) c_11 rfl
                    have n_c_13 := lv_neT (k := 10) (a := 10) c_13 rfl
                    have n_c_15 := lv_neT (k := 11) (a := 11) c_15 rfl
                    have n_c_17 := lv_neT (k := 12) (a := 12) c_17 rfl
                    have n_g_19 := lv_neT (k := 4) (a := 4) g_19 rfl
                    have n_g_21 := lv_neT (k := 5) (a := 5) g_21 rfl
                    have n_g_23 := lv_neT (k := 6) (a := 6) g_23 rfl
                    have n_g_25 := lv_neT (k := 7) (a := 7) g_25 rfl
                    refine lv_tableOut (tgt := 183) hx hb dX1_holds_12 (by omega) (by decide) ?_
                    refine lv_iload_n hx hb dX1_holds_183 rfl (lv_at hl 3 rfl) ?_
                    refine lv_iload_n hx hb dX1_holds_184 rfl (lv_at hl 4 rfl) ?_
                    refine lv_icmp_gt (tgt := 192) hx hb dX1_holds_185 (by decide) (fun c_27 => ?_) (fun c_27 => ?_)
                    · skip
                      refine lv_iconst (v := 0) hx hb dX1_holds_192 (by decide) ?_
                      have e9 : p_holds x0 x1 x2 = 0 := by rw [p_holds, if_neg c_1, if_neg c_3, if_neg c_5, if_neg c_7, if_neg c_9, if_neg c_11, if_neg c_13, if_neg c_15, if_neg c_17, if_pos c_27]
                      rw [e9]
                      exact W.zret hx hb hr rfl (fun t ht hW => ⟨⟨_, (), rfl, rfl, by rw [ht]; exact hP, va_K.moved hW.alike hK, hD⟩, hS.F ht⟩) hS.2.2 dX1_holds_193
                    · skip
                      refine lv_iconst (v := 1) hx hb dX1_holds_188 (by decide) ?_
                      refine lv_goto (tgt := 193) hx hb dX1_holds_189 (by decide) ?_
                      have e9 : p_holds x0 x1 x2 = 1 := by rw [p_holds, if_neg c_1, if_neg c_3, if_neg c_5, if_neg c_7, if_neg c_9, if_neg c_11, if_neg c_13, if_neg c_15, if_neg c_17, if_neg c_27]
                      rw [e9]
                      exact W.zret hx hb hr rfl (fun t ht hW => ⟨⟨_, (), rfl, rfl, by rw [ht]; exact hP, va_K.moved hW.alike hK, hD⟩, hS.F ht⟩) hS.2.2 dX1_holds_193

def p_putOut (u : St) (x1 : Int32) : St := sS (sA u 12 ((u.1 5) &&& 15) x1) 5 ((u.1 5) + 1)
def ok_putOut (u : St) (x1 : Int32) : Prop := (vp_in ((u.1 5) &&& 15) 16 ∧ True)
set_option maxHeartbeats 4000000 in
set_option maxRecDepth 100000 in
theorem c_putOut (l : Launch) (D : va_G) (ad : Nat → Nat) (cI cZ : ClassId) (zz : (Nat → Prop) → State → Heap → Prop) (hzz : Zok zz) (tS : Nat) (hst : Zst zz tS) (u : St) (x1 : Int32) (hok : ok_putOut u x1) : tfV l D vwCl (tyT cI cZ) zz yX1_putOut wsX1_putOut ({ frames := 0, cells := 0, slots := 0, locals := 0 } : Room) [.ref (ad 3), .int x1] (wT ad cI cZ u) (wT ad cI cZ (p_putOut u x1)) := by
  intro sz
  unfold ok_putOut at hok
  refine Met.ofW (cc := cX1_putOut) (maxL := 2) (ret := none) (by decide) rfl ?_
  intro p e s m args below meth c s₁ B hml hv
  obtain ⟨rfl, hsz, hP, hK, hD0, hZ⟩ := hv
  have hx := B.exec
  have hb := B.bytes
  have hr := B.returns
  have hts := atoms_spec (ws := wsX1_putOut) B.pre
  have hown : s.vm.findClass RX1 = some m.cls := findClass_of_methodNamed B.named
  have hlocks := B.notSynchronized
  subst hsz
  have hD := hD0.self (sz := s.heap.size)
  generalize hAe : va_A (wT ad cI cZ u) s.heap.size = A at hD hZ ⊢
  have hA : ∀ q : Nat, s.heap.size ≤ q → A q := fun q h => by rw [← hAe]; exact Or.inr h
  have hS : va_S A s.heap s.heap [] := va_S.rf
  have Cx : cxt p s m ([.ref (ad 3), .int x1] : List Value).toArray meth c cX1_putOut 2 none wsX1_putOut RX1 D vwCl (tyT cI cZ) zz A := ⟨hx, hb, hr, hts, hown, hlocks, hml, hK, hA, hZ⟩
  have hl := lv_entry ([.ref (ad 3), .int x1]) (n := 2) (Nat.le_of_ble_eq_true rfl)
  rw [lg_entry_eq]
  generalize (lg_sl ([.ref (ad 3), .int x1]) ++ List.replicate (2 - (lg_sl ([.ref (ad 3), .int x1])).length) Slot.unset).toArray = ls at hl ⊢
  have hl : lv_has ls 2 [(0, .ref (ad 3)), (1, .int x1)] := hl
  refine lv_aload_n hx hb dX1_putOut_0 rfl (lv_at hl 0 rfl) ?_
  refine va_get (ci := 1) (v := .ref (ad 16)) (C := RX1) (T := TX1) (N := 9) hx hb hts (ivX1 _) hown hK hP 3 rfl rfl 4 (by decide) (hts _ (tb_c tw_1_115)) (fun _ h9 => h9) rfl dX1_putOut_1 ?_
  refine lv_aload_n hx hb dX1_putOut_4 rfl (lv_at hl 0 rfl) ?_
  refine va_get (ci := 1) (v := .int (u.1 5)) (C := RX1) (T := TX1) (N := 9) hx hb hts (ivX1 _) hown hK hP 3 rfl rfl 5 (by decide) (hts _ (tb_c tw_1_116)) (fun _ h9 => h9) rfl dX1_putOut_5 ?_
  refine lv_bipush (v := 15) hx hb dX1_putOut_8 (by decide) ?_
  refine lv_iand hx hb dX1_putOut_10 ?_
  refine lv_iload_n hx hb dX1_putOut_11 rfl (lv_at hl 1 rfl) ?_
  obtain ⟨h_1, hok⟩ := hok
  refine va_iast hx hb hK hP hD hS 16 0 rfl rfl h_1 dX1_putOut_12 (fun H locs hP hD hS => ?_)
  have hP : va_P D vwCl (wT ad cI cZ (sA u 12 ((u.1 5) &&& 15) x1)) H := hP
  have hD : va_D A (wT ad cI cZ (sA u 12 ((u.1 5) &&& 15) x1)) := hD
  refine lv_aload_n hx hb dX1_putOut_13 rfl (lv_at hl 0 rfl) ?_
  refine lv_dup hx hb dX1_putOut_14 rfl ?_
  refine va_get (ci := 1) (v := .int (u.1 5)) (C := RX1) (T := TX1) (N := 9) hx hb hts (ivX1 _) hown hK hP 3 rfl rfl 5 (by decide) (hts _ (tb_c tw_1_116)) (fun _ h9 => h9) rfl dX1_putOut_15 ?_
  refine lv_iconst (v := 1) hx hb dX1_putOut_18 (by decide) ?_
  refine lv_iadd hx hb dX1_putOut_19 ?_
  refine va_put (ci := 1) (v := .int ((u.1 5) + 1)) (ty := .int) (C := RX1) (T := TX1) (N := 9) hx hb hts (ivX1 _) tyX1 tyX1_ok nmX1 hown hK hP hD hS 3 rfl rfl 5 (by decide) (hts _ (tb_c tw_1_116)) (fun _ h9 => h9) rfl (by decide +kernel) rfl rfl (Nat.le_of_ble_eq_true rfl) dX1_putOut_20 (fun H locs hP hD hS => ?_)
  have hP : va_P D vwCl (wT ad cI cZ (sS (sA u 12 ((u.1 5) &&& 15) x1) 5 ((u.1 5) + 1))) H := hP
  have hD : va_D A (wT ad cI cZ (sS (sA u 12 ((u.1 5) &&& 15) x1) 5 ((u.1 5) + 1))) := hD
  have e9 : p_putOut u x1 = sS (sA u 12 ((u.1 5) &&& 15) x1) 5 ((u.1 5) + 1) := by rw [p_putOut]
  rw [e9]
  exact W.vret hx hb hr (fun t ht hW => ⟨⟨(), rfl, trivial, by rw [ht]; exact hP, va_K.moved hW.alike hK, hD⟩, hS.F ht⟩) hS.2.2 dX1_putOut_23

def p_step (u : St) : Int32 × St := (if (u.2 0 (u.1 8).toNatClampNeg) = 0 then (p_lengthOf u (u.1 8), sA (sS u 8 ((u.1 8) + 1)) 11 (u.2 2 (u.1 8).toNatClampNeg) (u.2 5 (u.1 8).toNatClampNeg)) else (if (u.2 0 (u.1 8).toNatClampNeg) = 1 then (p_lengthOf u (u.1 8), sA (sS u 8 ((u.1 8) + 1)) 11 (u.2 2 (u.1 8).toNatClampNeg) (p_result (u.2 1 (u.1 8).toNatClampNeg) (u.2 11 (u.2 3 (u.1 8).toNatClampNeg).toNatClampNeg) (u.2 11 (u.2 4 (u.1 8).toNatClampNeg).toNatClampNeg))) else (if (u.2 0 (u.1 8).toNatClampNeg) = 2 then (p_lengthOf u (u.1 8), sA (sS u 8 ((u.1 8) + 1)) 11 (u.2 2 (u.1 8).toNatClampNeg) (u.2 10 ((u.2 11 (u.2 3 (u.1 8).toNatClampNeg).toNatClampNeg) &&& 7).toNatClampNeg)) else (if (u.2 0 (u.1 8).toNatClampNeg) = 3 then (p_lengthOf u (u.1 8), sA (sS u 8 ((u.1 8) + 1)) 10 ((u.2 11 (u.2 3 (u.1 8).toNatClampNeg).toNatClampNeg) &&& 7) (u.2 11 (u.2 4 (u.1 8).toNatClampNeg).toNatClampNeg)) else (if (u.2 0 (u.1 8).toNatClampNeg) = 4 then (p_lengthOf u (u.1 8), sS (sS u 8 ((u.1 8) + 1)) 8 (u.2 5 (u.1 8).toNatClampNeg)) else (if (u.2 0 (u.1 8).toNatClampNeg) = 5 then (if (p_holds (u.2 1 (u.1 8).toNatClampNeg) (u.2 11 (u.2 3 (u.1 8).toNatClampNeg).toNatClampNeg) (u.2 11 (u.2 4 (u.1 8).toNatClampNeg).toNatClampNeg)) = 0 then (if (u.2 8 (u.1 8).toNatClampNeg) = 0 then (p_lengthOf u (u.1 8), sS u 8 ((u.1 8) + 1)) else ((p_lengthOf u (u.1 8)) + (-1), sS u 8 ((u.1 8) + 1))) else (p_lengthOf u (u.1 8), sS (sS u 8 ((u.1 8) + 1)) 8 (u.2 5 (u.1 8).toNatClampNeg))) else (if (u.2 0 (u.1 8).toNatClampNeg) = 6 then (p_lengthOf u (u.1 8), (p_putOut (sS u 8 ((u.1 8) + 1)) (u.2 11 (u.2 3 (u.1 8).toNatClampNeg).toNatClampNeg))) else (if (u.2 0 (u.1 8).toNatClampNeg) = 7 then (p_lengthOf u (u.1 8), sS (sS (sS u 8 ((u.1 8) + 1)) 8 (u.1 8)) 6 2) else (p_lengthOf u (u.1 8), sS (sS (sS (sS u 8 ((u.1 8) + 1)) 8 (u.1 8)) 6 3) 7 (u.2 5 (u.1 8).toNatClampNeg))))))))))
def ok_step (u : St) : Prop := (vp_in (u.1 8) 48 ∧ (vp_in (u.2 3 (u.1 8).toNatClampNeg) 8 ∧ (vp_in (u.1 8) 48 ∧ (vp_in (u.2 4 (u.1 8).toNatClampNeg) 8 ∧ (vp_in (u.1 8) 48 ∧ (ok_lengthOf u (u.1 8) ∧ (vp_in (u.1 8) 48 ∧ (((u.2 0 (u.1 8).toNatClampNeg) = 0 → (vp_in (u.1 8) 48 ∧ (vp_in (u.2 2 (u.1 8).toNatClampNeg) 8 ∧ True))) ∧ (¬ (u.2 0 (u.1 8).toNatClampNeg) = 0 → (((u.2 0 (u.1 8).toNatClampNeg) = 1 → (vp_in (u.1 8) 48 ∧ (vp_in (u.1 8) 48 ∧ (vp_in (u.2 2 (u.1 8).toNatClampNeg) 8 ∧ True)))) ∧ (¬ (u.2 0 (u.1 8).toNatClampNeg) = 1 → (((u.2 0 (u.1 8).toNatClampNeg) = 2 → (vp_in (u.1 8) 48 ∧ (vp_in ((u.2 11 (u.2 3 (u.1 8).toNatClampNeg).toNatClampNeg) &&& 7) 8 ∧ (vp_in (u.2 2 (u.1 8).toNatClampNeg) 8 ∧ True)))) ∧ (¬ (u.2 0 (u.1 8).toNatClampNeg) = 2 → (((u.2 0 (u.1 8).toNatClampNeg) = 3 → (vp_in ((u.2 11 (u.2 3 (u.1 8).toNatClampNeg).toNatClampNeg) &&& 7) 8 ∧ True)) ∧ (¬ (u.2 0 (u.1 8).toNatClampNeg) = 3 → (((u.2 0 (u.1 8).toNatClampNeg) = 4 → True) ∧ (¬ (u.2 0 (u.1 8).toNatClampNeg) = 4 → (((u.2 0 (u.1 8).toNatClampNeg) = 5 → (vp_in (u.1 8) 48 ∧ (((p_holds (u.2 1 (u.1 8).toNatClampNeg) (u.2 11 (u.2 3 (u.1 8).toNatClampNeg).toNatClampNeg) (u.2 11 (u.2 4 (u.1 8).toNatClampNeg).toNatClampNeg)) = 0 → (vp_in (u.1 8) 48 ∧ True)) ∧ (¬ (p_holds (u.2 1 (u.1 8).toNatClampNeg) (u.2 11 (u.2 3 (u.1 8).toNatClampNeg).toNatClampNeg) (u.2 11 (u.2 4 (u.1 8).toNatClampNeg).toNatClampNeg)) = 0 → True)))) ∧ (¬ (u.2 0 (u.1 8).toNatClampNeg) = 5 → (((u.2 0 (u.1 8).toNatClampNeg) = 6 → (ok_putOut (sS u 8 ((u.1 8) + 1)) (u.2 11 (u.2 3 (u.1 8).toNatClampNeg).toNatClampNeg) ∧ True)) ∧ (¬ (u.2 0 (u.1 8).toNatClampNeg) = 6 → True)))))))))))))))))))))
set_option maxHeartbeats 4000000 in
set_option maxRecDepth 100000 in
theorem c_step (l : Launch) (D : va_G) (ad : Nat → Nat) (cI cZ : ClassId) (zz : (Nat → Prop) → State → Heap → Prop) (hzz : Zok zz) (tS : Nat) (hst : Zst zz tS) (u : St) (hok : ok_step u) : tfI l D vwCl (tyT cI cZ) zz yX1_step wsX1_step ({ frames := 1, cells := 0, slots := 0, locals := 24 } : Room) [.ref (ad 3)] (wT ad cI cZ u) (p_step u).1 (wT ad cI cZ ((p_step u).2)) := by
  intro sz
  unfold ok_step at hok
  refine Met.ofW (cc := cX1_step) (maxL := 6) (ret := (some .int)) (by decide) rfl ?_
  intro p e s m args below meth c s₁ B hml hv
  obtain ⟨rfl, hsz, hP, hK, hD0, hZ⟩ := hv
  have hx := B.exec
  have hb := B.bytes
  have hr := B.returns
  have hts := atoms_spec (ws := wsX1_step) B.pre
  have hown : s.vm.findClass RX1 = some m.cls := findClass_of_methodNamed B.named
  have hlocks := B.notSynchronized
  subst hsz
  have hD := hD0.self (sz := s.heap.size)
  generalize hAe : va_A (wT ad cI cZ u) s.heap.size = A at hD hZ ⊢
  have hA : ∀ q : Nat, s.heap.size ≤ q → A q := fun q h => by rw [← hAe]; exact Or.inr h
  have hS : va_S A s.heap s.heap [] := va_S.rf
  have Cx : cxt p s m ([.ref (ad 3)] : List Value).toArray meth c cX1_step 6 (some .int) wsX1_step RX1 D vwCl (tyT cI cZ) zz A := ⟨hx, hb, hr, hts, hown, hlocks, hml, hK, hA, hZ⟩
  have hl := lv_entry ([.ref (ad 3)]) (n := 6) (Nat.le_of_ble_eq_true rfl)
  rw [lg_entry_eq]
  generalize (lg_sl ([.ref (ad 3)]) ++ List.replicate (6 - (lg_sl ([.ref (ad 3)])).length) Slot.unset).toArray = ls at hl ⊢
  have hl : lv_has ls 6 [(0, .ref (ad 3))] := hl
  refine lv_aload_n hx hb dX1_step_0 rfl (lv_at hl 0 rfl) ?_
  refine va_get (ci := 1) (v := .int (u.1 8)) (C := RX1) (T := TX1) (N := 9) hx hb hts (ivX1 _) hown hK hP 3 rfl rfl 8 (by decide) (hts _ (tb_c tw_1_122)) (fun _ h9 => h9) rfl dX1_step_1 ?_
  refine lv_istore_n (lv' := [(1, .int (u.1 8)), (0, .ref (ad 3))]) hx hb dX1_step_4 rfl hl (by decide) rfl (fun ls hl => ?_)
  refine lv_aload_n hx hb dX1_step_5 rfl (lv_at hl 1 rfl) ?_
  refine va_get (ci := 1) (v := .ref (ad 15)) (C := RX1) (T := TX1) (N := 9) hx hb hts (ivX1 _) hown hK hP 3 rfl rfl 3 (by decide) (hts _ (tb_c tw_1_113)) (fun _ h9 => h9) rfl dX1_step_6 ?_
  refine lv_aload_n hx hb dX1_step_9 rfl (lv_at hl 1 rfl) ?_
  refine va_get (ci := 1) (v := .ref (ad 1)) (C := RX1) (T := TX1) (N := 9) hx hb hts (ivX1 _) hown hK hP 3 rfl rfl 0 (by decide) (hts _ (tb_c tw_1_109)) (fun _ h9 => h9) rfl dX1_step_10 ?_
  refine va_get (ci := 2) (v := .ref (ad 7)) (C := RX2) (T := TX2) (N := 7) hx hb hts (ivX2 _) hown hK hP 1 rfl rfl 3 (by decide) (hts _ (tb_c tw_1_36)) (fun _ h9 => h9) rfl dX1_step_13 ?_
  refine lv_iload_n hx hb dX1_step_16 rfl (lv_at hl 0 rfl) ?_
  obtain ⟨h_1, hok⟩ := hok
  refine va_iald (f := u.2 3) hx hb hK hP 7 0 rfl rfl h_1 dX1_step_17 ?_
  obtain ⟨h_2, hok⟩ := hok
  refine va_iald (f := u.2 11) hx hb hK hP 15 0 rfl rfl h_2 dX1_step_18 ?_
  refine lv_istore_n (lv' := [(2, .int (u.2 11 (u.2 3 (u.1 8).toNatClampNeg).toNatClampNeg)), (1, .int (u.1 8)), (0, .ref (ad 3))]) hx hb dX1_step_19 rfl hl (by decide) rfl (fun ls hl => ?_)
  refine lv_aload_n hx hb dX1_step_20 rfl (lv_at hl 2 rfl) ?_
  refine va_get (ci := 1) (v := .ref (ad 15)) (C := RX1) (T := TX1) (N := 9) hx hb hts (ivX1 _) hown hK hP 3 rfl rfl 3 (by decide) (hts _ (tb_c tw_1_113)) (fun _ h9 => h9) rfl dX1_step_21 ?_
  refine lv_aload_n hx hb dX1_step_24 rfl (lv_at hl 2 rfl) ?_
  refine va_get (ci := 1) (v := .ref (ad 1)) (C := RX1) (T := TX1) (N := 9) hx hb hts (ivX1 _) hown hK hP 3 rfl rfl 0 (by decide) (hts _ (tb_c tw_1_109)) (fun _ h9 => h9) rfl dX1_step_25 ?_
  refine va_get (ci := 2) (v := .ref (ad 8)) (C := RX2) (T := TX2) (N := 7) hx hb hts (ivX2 _) hown hK hP 1 rfl rfl 4 (by decide) (hts _ (tb_c tw_1_39)) (fun _ h9 => h9) rfl dX1_step_28 ?_
  refine lv_iload_n hx hb dX1_step_31 rfl (lv_at hl 1 rfl) ?_
  obtain ⟨h_3, hok⟩ := hok
  refine va_iald (f := u.2 4) hx hb hK hP 8 0 rfl rfl h_3 dX1_step_32 ?_
  obtain ⟨h_4, hok⟩ := hok
  refine va_iald (f := u.2 11) hx hb hK hP 15 0 rfl rfl h_4 dX1_step_33 ?_
  refine lv_istore_n (lv' := [(3, .int (u.2 11 (u.2 4 (u.1 8).toNatClampNeg).toNatClampNeg)), (2, .int (u.2 11 (u.2 3 (u.1 8).toNatClampNeg).toNatClampNeg)), (1, .int (u.1 8)), (0, .ref (ad 3))]) hx hb dX1_step_34 rfl hl (by decide) rfl (fun ls hl => ?_)
  refine lv_aload_n hx hb dX1_step_35 rfl (lv_at hl 3 rfl) ?_
  refine va_get (ci := 1) (v := .ref (ad 1)) (C := RX1) (T := TX1) (N := 9) hx hb hts (ivX1 _) hown hK hP 3 rfl rfl 0 (by decide) (hts _ (tb_c tw_1_109)) (fun _ h9 => h9) rfl dX1_step_36 ?_
  refine va_get (ci := 2) (v := .ref (ad 9)) (C := RX2) (T := TX2) (N := 7) hx hb hts (ivX2 _) hown hK hP 1 rfl rfl 5 (by decide) (hts _ (tb_c tw_1_43)) (fun _ h9 => h9) rfl dX1_step_39 ?_
  refine lv_iload_n hx hb dX1_step_42 rfl (lv_at hl 2 rfl) ?_
  obtain ⟨h_5, hok⟩ := hok
  refine va_iald (f := u.2 5) hx hb hK hP 9 0 rfl rfl h_5 dX1_step_43 ?_
  refine lv_istore (lv' := [(4, .int (u.2 5 (u.1 8).toNatClampNeg)), (3, .int (u.2 11 (u.2 4 (u.1 8).toNatClampNeg).toNatClampNeg)), (2, .int (u.2 11 (u.2 3 (u.1 8).toNatClampNeg).toNatClampNeg)), (1, .int (u.1 8)), (0, .ref (ad 3))]) hx hb dX1_step_44 hl (by decide) rfl (fun ls hl => ?_)
  refine lv_aload_n hx hb dX1_step_46 rfl (lv_at hl 4 rfl) ?_
  refine va_get (ci := 1) (v := .ref (ad 2)) (C := RX1) (T := TX1) (N := 9) hx hb hts (ivX1 _) hown hK hP 3 rfl rfl 1 (by decide) (hts _ (tb_c tw_1_110)) (fun _ h9 => h9) rfl dX1_step_47 ?_
  refine lv_iload_n hx hb dX1_step_50 rfl (lv_at hl 3 rfl) ?_
  obtain ⟨h_6, hok⟩ := hok
  refine k_callVi (As := [.int (u.1 8)]) (rest := []) hzz ⟨hx, hb, hml, hown, hts⟩ (c_lengthOf l D ad cI cZ zz hzz tS hst u (u.1 8) h_6) (cwV 1 hts (tb_V tw_3_56 tw_3_57 tw_3_58 tw_1_3 tw_3_59) rfl rfl rfl (by decide +kernel) ⟨Nat.le_of_ble_eq_true rfl, Nat.le_of_ble_eq_true rfl⟩) (va_recv hK hP (ci := 0) (q0 := 2) rfl rfl) rfl hl.1 rfl (lv_room (Nat.le_of_ble_eq_true rfl)) dX1_step_51 ⟨Nat.le_of_ble_eq_true rfl, Nat.le_of_ble_eq_true rfl⟩ hP hK hD hS hA hZ (fun H locs hP hD hS => ?_)
  refine lv_istore (lv' := [(5, .int (p_lengthOf u (u.1 8))), (4, .int (u.2 5 (u.1 8).toNatClampNeg)), (3, .int (u.2 11 (u.2 4 (u.1 8).toNatClampNeg).toNatClampNeg)), (2, .int (u.2 11 (u.2 3 (u.1 8).toNatClampNeg).toNatClampNeg)), (1, .int (u.1 8)), (0, .ref (ad 3))]) hx hb dX1_step_54 hl (by decide) rfl (fun ls hl => ?_)
  refine lv_aload_n hx hb dX1_step_56 rfl (lv_at hl 5 rfl) ?_
  refine lv_iload_n hx hb dX1_step_57 rfl (lv_at hl 4 rfl) ?_
  refine lv_iconst (v := 1) hx hb dX1_step_58 (by decide) ?_
  refine lv_iadd hx hb dX1_step_59 ?_
  refine va_put (ci := 1) (v := .int ((u.1 8) + 1)) (ty := .int) (C := RX1) (T := TX1) (N := 9) hx hb hts (ivX1 _) tyX1 tyX1_ok nmX1 hown hK hP hD hS 3 rfl rfl 8 (by decide) (hts _ (tb_c tw_1_122)) (fun _ h9 => h9) rfl (by decide +kernel) rfl rfl (Nat.le_of_ble_eq_true rfl) dX1_step_60 (fun H locs hP hD hS => ?_)
  have hP : va_P D vwCl (wT ad cI cZ (sS u 8 ((u.1 8) + 1))) H := hP
  have hD : va_D A (wT ad cI cZ (sS u 8 ((u.1 8) + 1))) := hD
  refine lv_aload_n hx hb dX1_step_63 rfl (lv_at hl 5 rfl) ?_
  refine va_get (ci := 1) (v := .ref (ad 1)) (C := RX1) (T := TX1) (N := 9) hx hb hts (ivX1 _) hown hK hP 3 rfl rfl 0 (by decide) (hts _ (tb_c tw_1_109)) (fun _ h9 => h9) rfl dX1_step_64 ?_
  refine va_get (ci := 2) (v := .ref (ad 4)) (C := RX2) (T := TX2) (N := 7) hx hb hts (ivX2 _) hown hK hP 1 rfl rfl 0 (by decide) (hts _ (tb_c tw_1_28)) (fun _ h9 => h9) rfl dX1_step_67 ?_
  refine lv_iload_n hx hb dX1_step_70 rfl (lv_at hl 4 rfl) ?_
  obtain ⟨h_7, hok⟩ := hok
  refine va_iald (f := u.2 0) hx hb hK hP 4 0 rfl rfl h_7 dX1_step_71 ?_
  rcases Classical.em ((u.2 0 (u.1 8).toNatClampNeg) = 0) with c_8 | c_8
  · have hok := hok.1 c_8
    refine lv_tableIn (tgt := 120) hx hb dX1_step_72 (by rw [c_8]; decide) (by rw [c_8]; decide) (by rw [c_8]; rfl) (by decide) ?_
    refine lv_aload_n hx hb dX1_step_120 rfl (lv_at hl 5 rfl) ?_
    refine va_get (ci := 1) (v := .ref (ad 15)) (C := RX1) (T := TX1) (N := 9) hx hb hts (ivX1 _) hown hK hP 3 rfl rfl 3 (by decide) (hts _ (tb_c tw_1_113)) (fun _ h9 => h9) rfl dX1_step_121 ?_
    refine lv_aload_n hx hb dX1_step_124 rfl (lv_at hl 5 rfl) ?_
    refine va_get (ci := 1) (v := .ref (ad 1)) (C := RX1) (T := TX1) (N := 9) hx hb hts (ivX1 _) hown hK hP 3 rfl rfl 0 (by decide) (hts _ (tb_c tw_1_109)) (fun _ h9 => h9) rfl dX1_step_125 ?_
    refine va_get (ci := 2) (v := .ref (ad 6)) (C := RX2) (T := TX2) (N := 7) hx hb hts (ivX2 _) hown hK hP 1 rfl rfl 2 (by decide) (hts _ (tb_c tw_1_33)) (fun _ h9 => h9) rfl dX1_step_128 ?_
    refine lv_iload_n hx hb dX1_step_131 rfl (lv_at hl 4 rfl) ?_
    obtain ⟨h_9, hok⟩ := hok
    refine va_iald (f := u.2 2) hx hb hK hP 6 0 rfl rfl h_9 dX1_step_132 ?_
    refine lv_iload hx hb dX1_step_133 (lv_at hl 1 rfl) ?_
    obtain ⟨h_10, hok⟩ := hok
    refine va_iast hx hb hK hP hD hS 15 0 rfl rfl h_10 dX1_step_135 (fun H locs hP hD hS => ?_)
    have hP : va_P D vwCl (wT ad cI cZ (sA (sS u 8 ((u.1 8) + 1)) 11 (u.2 2 (u.1 8).toNatClampNeg) (u.2 5 (u.1 8).toNatClampNeg))) H := hP
    have hD : va_D A (wT ad cI cZ (sA (sS u 8 ((u.1 8) + 1)) 11 (u.2 2 (u.1 8).toNatClampNeg) (u.2 5 (u.1 8).toNatClampNeg))) := hD
    refine lv_goto (tgt := 299) hx hb dX1_step_136 (by decide) ?_
    refine lv_iload hx hb dX1_step_299 (lv_at hl 0 rfl) ?_
    have e9 : p_step u = (p_lengthOf u (u.1 8), sA (sS u 8 ((u.1 8) + 1)) 11 (u.2 2 (u.1 8).toNatClampNeg) (u.2 5 (u.1 8).toNatClampNeg)) := by rw [p_step, if_pos c_8]
    rw [e9]
    exact W.iret hx hb hr (fun t ht hW => ⟨⟨_, (), rfl, rfl, by rw [ht]; exact hP, va_K.moved hW.alike hK, hD⟩, hS.F ht⟩) hS.2.2 dX1_step_301
  · have hok := hok.2 c_8
    rcases Classical.em ((u.2 0 (u.1 8).toNatClampNeg) = 1) with c_11 | c_11
    · have hok := hok.1 c_11
      refine lv_tableIn (tgt := 139) hx hb dX1_step_72 (by rw [c_11]; decide) (by rw [c_11]; decide) (by rw [c_11]; rfl) (by decide) ?_
      refine lv_aload_n hx hb dX1_step_139 rfl (lv_at hl 5 rfl) ?_
      refine va_get (ci := 1) (v := .ref (ad 15)) (C := RX1) (T := TX1) (N := 9) hx hb hts (ivX1 _) hown hK hP 3 rfl rfl 3 (by decide) (hts _ (tb_c tw_1_113)) (fun _ h9 => h9) rfl dX1_step_140 ?_
      refine lv_aload_n hx hb dX1_step_143 rfl (lv_at hl 5 rfl) ?_
      refine va_get (ci := 1) (v := .ref (ad 1)) (C := RX1) (T := TX1) (N := 9) hx hb hts (ivX1 _) hown hK hP 3 rfl rfl 0 (by decide) (hts _ (tb_c tw_1_109)) (fun _ h9 => h9) rfl dX1_step_144 ?_
      refine va_get (ci := 2) (v := .ref (ad 6)) (C := RX2) (T := TX2) (N := 7) hx hb hts (ivX2 _) hown hK hP 1 rfl rfl 2 (by decide) (hts _ (tb_c tw_1_33)) (fun _ h9 => h9) rfl dX1_step_147 ?_
      refine lv_iload_n hx hb dX1_step_150 rfl (lv_at hl 4 rfl) ?_
      obtain ⟨h_12, hok⟩ := hok
      refine va_iald (f := u.2 2) hx hb hK hP 6 0 rfl rfl h_12 dX1_step_151 ?_
      refine lv_aload_n hx hb dX1_step_152 rfl (lv_at hl 5 rfl) ?_
      refine va_get (ci := 1) (v := .ref (ad 1)) (C := RX1) (T := TX1) (N := 9) hx hb hts (ivX1 _) hown hK hP 3 rfl rfl 0 (by decide) (hts _ (tb_c tw_1_109)) (fun _ h9 => h9) rfl dX1_step_153 ?_
      refine va_get (ci := 2) (v := .ref (ad 5)) (C := RX2) (T := TX2) (N := 7) hx hb hts (ivX2 _) hown hK hP 1 rfl rfl 1 (by decide) (hts _ (tb_c tw_1_30)) (fun _ h9 => h9) rfl dX1_step_156 ?_
      refine lv_iload_n hx hb dX1_step_159 rfl (lv_at hl 4 rfl) ?_
      obtain ⟨h_13, hok⟩ := hok
      refine va_iald (f := u.2 1) hx hb hK hP 5 0 rfl rfl h_13 dX1_step_160 ?_
      refine lv_iload_n hx hb dX1_step_161 rfl (lv_at hl 3 rfl) ?_
      refine lv_iload_n hx hb dX1_step_162 rfl (lv_at hl 2 rfl) ?_
      refine k_callSi (As := [.int (u.2 1 (u.1 8).toNatClampNeg), .int (u.2 11 (u.2 3 (u.1 8).toNatClampNeg).toNatClampNeg), .int (u.2 11 (u.2 4 (u.1 8).toNatClampNeg).toNatClampNeg)]) (rest := [.int (u.2 2 (u.1 8).toNatClampNeg), .ref (ad 15)]) hzz ⟨hx, hb, hml, hown, hts⟩ (c_result l D ad cI cZ zz hzz tS hst (wT ad cI cZ (sS u 8 ((u.1 8) + 1))) (u.2 1 (u.1 8).toNatClampNeg) (u.2 11 (u.2 3 (u.1 8).toNatClampNeg).toNatClampNeg) (u.2 11 (u.2 4 (u.1 8).toNatClampNeg).toNatClampNeg)) (cwS 3 hts (tb_S tw_3_60 tw_3_61 tw_1_4 tw_3_62) rfl rfl rfl (by decide +kernel) ⟨Nat.le_of_ble_eq_true rfl, Nat.le_of_ble_eq_true rfl⟩) rfl hl.1 rfl (lv_room (Nat.le_of_ble_eq_true rfl)) dX1_step_163 ⟨Nat.le_of_ble_eq_true rfl, Nat.le_of_ble_eq_true rfl⟩ hP hK hD hS hA hZ (fun H locs hP hD hS => ?_)
      obtain ⟨h_15, hok⟩ := hok
      refine va_iast hx hb hK hP hD hS 15 0 rfl rfl h_15 dX1_step_166 (fun H locs hP hD hS => ?_)
      have hP : va_P D vwCl (wT ad cI cZ (sA (sS u 8 ((u.1 8) + 1)) 11 (u.2 2 (u.1 8).toNatClampNeg) (p_result (u.2 1 (u.1 8).toNatClampNeg) (u.2 11 (u.2 3 (u.1 8).toNatClampNeg).toNatClampNeg) (u.2 11 (u.2 4 (u.1 8).toNatClampNeg).toNatClampNeg)))) H := hP
      have hD : va_D A (wT ad cI cZ (sA (sS u 8 ((u.1 8) + 1)) 11 (u.2 2 (u.1 8).toNatClampNeg) (p_result (u.2 1 (u.1 8).toNatClampNeg) (u.2 11 (u.2 3 (u.1 8).toNatClampNeg).toNatClampNeg) (u.2 11 (u.2 4 (u.1 8).toNatClampNeg).toNatClampNeg)))) := hD
      refine lv_goto (tgt := 299) hx hb dX1_step_167 (by decide) ?_
      refine lv_iload hx hb dX1_step_299 (lv_at hl 0 rfl) ?_
      have e9 : p_step u = (p_lengthOf u (u.1 8), sA (sS u 8 ((u.1 8) + 1)) 11 (u.2 2 (u.1 8).toNatClampNeg) (p_result (u.2 1 (u.1 8).toNatClampNeg) (u.2 11 (u.2 3 (u.1 8).toNatClampNeg).toNatClampNeg) (u.2 11 (u.2 4 (u.1 8).toNatClampNeg).toNatClampNeg))) := by rw [p_step, if_neg c_8, if_pos c_11]
      rw [e9]
      exact W.iret hx hb hr (fun t ht hW => ⟨⟨_, (), rfl, rfl, by rw [ht]; exact hP, va_K.moved hW.alike hK, hD⟩, hS.F ht⟩) hS.2.2 dX1_step_301
    · have hok := hok.2 c_11
      rcases Classical.em ((u.2 0 (u.1 8).toNatClampNeg) = 2) with c_16 | c_16
      · have hok := hok.1 c_16
        refine lv_tableIn (tgt := 170) hx hb dX1_step_72 (by rw [c_16]; decide) (by rw [c_16]; decide) (by rw [c_16]; rfl) (by decide) ?_
        refine lv_aload_n hx hb dX1_step_170 rfl (lv_at hl 5 rfl) ?_
        refine va_get (ci := 1) (v := .ref (ad 15)) (C := RX1) (T := TX1) (N := 9) hx hb hts (ivX1 _) hown hK hP 3 rfl rfl 3 (by decide) (hts _ (tb_c tw_1_113)) (fun _ h9 => h9) rfl dX1_step_171 ?_
        refine lv_aload_n hx hb dX1_step_174 rfl (lv_at hl 5 rfl) ?_
        refine va_get (ci := 1) (v := .ref (ad 1)) (C := RX1) (T := TX1) (N := 9) hx hb hts (ivX1 _) hown hK hP 3 rfl rfl 0 (by decide) (hts _ (tb_c tw_1_109)) (fun _ h9 => h9) rfl dX1_step_175 ?_
        refine va_get (ci := 2) (v := .ref (ad 6)) (C := RX2) (T := TX2) (N := 7) hx hb hts (ivX2 _) hown hK hP 1 rfl rfl 2 (by decide) (hts _ (tb_c tw_1_33)) (fun _ h9 => h9) rfl dX1_step_178 ?_
        refine lv_iload_n hx hb dX1_step_181 rfl (lv_at hl 4 rfl) ?_
        obtain ⟨h_17, hok⟩ := hok
        refine va_iald (f := u.2 2) hx hb hK hP 6 0 rfl rfl h_17 dX1_step_182 ?_
        refine lv_aload_n hx hb dX1_step_183 rfl (lv_at hl 5 rfl) ?_
        refine va_get (ci := 1) (v := .ref (ad 14)) (C := RX1) (T := TX1) (N := 9) hx hb hts (ivX1 _) hown hK hP 3 rfl rfl 2 (by decide) (hts _ (tb_c tw_1_111)) (fun _ h9 => h9) rfl dX1_step_184 ?_
        refine lv_iload_n hx hb dX1_step_187 rfl (lv_at hl 3 rfl) ?_
        refine lv_bipush (v := 7) hx hb dX1_step_188 (by decide) ?_
        refine lv_iand hx hb dX1_step_190 ?_
        obtain ⟨h_18, hok⟩ := hok
        refine va_iald (f := u.2 10) hx hb hK hP 14 0 rfl rfl h_18 dX1_step_191 ?_
        obtain ⟨h_19, hok⟩ := hok
        refine va_iast hx hb hK hP hD hS 15 0 rfl rfl h_19 dX1_step_192 (fun H locs hP hD hS => ?_)
        have hP : va_P D vwCl (wT ad cI cZ (sA (sS u 8 ((u.1 8) + 1)) 11 (u.2 2 (u.1 8).toNatClampNeg) (u.2 10 ((u.2 11 (u.2 3 (u.1 8).toNatClampNeg).toNatClampNeg) &&& 7).toNatClampNeg))) H := hP
        have hD : va_D A (wT ad cI cZ (sA (sS u 8 ((u.1 8) + 1)) 11 (u.2 2 (u.1 8).toNatClampNeg) (u.2 10 ((u.2 11 (u.2 3 (u.1 8).toNatClampNeg).toNatClampNeg) &&& 7).toNatClampNeg))) := hD
        refine lv_goto (tgt := 299) hx hb dX1_step_193 (by decide) ?_
        refine lv_iload hx hb dX1_step_299 (lv_at hl 0 rfl) ?_
        have e9 : p_step u = (p_lengthOf u (u.1 8), sA (sS u 8 ((u.1 8) + 1)) 11 (u.2 2 (u.1 8).toNatClampNeg) (u.2 10 ((u.2 11 (u.2 3 (u.1 8).toNatClampNeg).toNatClampNeg) &&& 7).toNatClampNeg)) := by rw [p_step, if_neg c_8, if_neg c_11, if_pos c_16]
        rw [e9]
        exact W.iret hx hb hr (fun t ht hW => ⟨⟨_, (), rfl, rfl, by rw [ht]; exact hP, va_K.moved hW.alike hK, hD⟩, hS.F ht⟩) hS.2.2 dX1_step_301
      · have hok := hok.2 c_16
        rcases Classical.em ((u.2 0 (u.1 8).toNatClampNeg) = 3) with c_20 | c_20
        · have hok := hok.1 c_20
          refine lv_tableIn (tgt := 196) hx hb dX1_step_72 (by rw [c_20]; decide) (by rw [c_20]; decide) (by rw [c_20]; rfl) (by decide) ?_
          refine lv_aload_n hx hb dX1_step_196 rfl (lv_at hl 5 rfl) ?_
          refine va_get (ci := 1) (v := .ref (ad 14)) (C := RX1) (T := TX1) (N := 9) hx hb hts (ivX1 _) hown hK hP 3 rfl rfl 2 (by decide) (hts _ (tb_c tw_1_111)) (fun _ h9 => h9) rfl dX1_step_197 ?_
          refine lv_iload_n hx hb dX1_step_200 rfl (lv_at hl 3 rfl) ?_
          refine lv_bipush (v := 7) hx hb dX1_step_201 (by decide) ?_
          refine lv_iand hx hb dX1_step_203 ?_
          refine lv_iload_n hx hb dX1_step_204 rfl (lv_at hl 2 rfl) ?_
          obtain ⟨h_21, hok⟩ := hok
          refine va_iast hx hb hK hP hD hS 14 0 rfl rfl h_21 dX1_step_205 (fun H locs hP hD hS => ?_)
          have hP : va_P D vwCl (wT ad cI cZ (sA (sS u 8 ((u.1 8) + 1)) 10 ((u.2 11 (u.2 3 (u.1 8).toNatClampNeg).toNatClampNeg) &&& 7) (u.2 11 (u.2 4 (u.1 8).toNatClampNeg).toNatClampNeg))) H := hP
          have hD : va_D A (wT ad cI cZ (sA (sS u 8 ((u.1 8) + 1)) 10 ((u.2 11 (u.2 3 (u.1 8).toNatClampNeg).toNatClampNeg) &&& 7) (u.2 11 (u.2 4 (u.1 8).toNatClampNeg).toNatClampNeg))) := hD
          refine lv_goto (tgt := 299) hx hb dX1_step_206 (by decide) ?_
          refine lv_iload hx hb dX1_step_299 (lv_at hl 0 rfl) ?_
          have e9 : p_step u = (p_lengthOf u (u.1 8), sA (sS u 8 ((u.1 8) + 1)) 10 ((u.2 11 (u.2 3 (u.1 8).toNatClampNeg).toNatClampNeg) &&& 7) (u.2 11 (u.2 4 (u.1 8).toNatClampNeg).toNatClampNeg)) := by rw [p_step, if_neg c_8, if_neg c_11, if_neg c_16, if_pos c_20]
          rw [e9]
          exact W.iret hx hb hr (fun t ht hW => ⟨⟨_, (), rfl, rfl, by rw [ht]; exact hP, va_K.moved hW.alike hK, hD⟩, hS.F ht⟩) hS.2.2 dX1_step_301
        · have hok := hok.2 c_20
          rcases Classical.em ((u.2 0 (u.1 8).toNatClampNeg) = 4) with c_22 | c_22
          · have hok := hok.1 c_22
            refine lv_tableIn (tgt := 209) hx hb dX1_step_72 (by rw [c_22]; decide) (by rw [c_22]; decide) (by rw [c_22]; rfl) (by decide) ?_
            refine lv_aload_n hx hb dX1_step_209 rfl (lv_at hl 5 rfl) ?_
            refine lv_iload hx hb dX1_step_210 (lv_at hl 1 rfl) ?_
            refine va_put (ci := 1) (v := .int (u.2 5 (u.1 8).toNatClampNeg)) (ty := .int) (C := RX1) (T := TX1) (N := 9) hx hb hts (ivX1 _) tyX1 tyX1_ok nmX1 hown hK hP hD hS 3 rfl rfl 8 (by decide) (hts _ (tb_c tw_1_122)) (fun _ h9 => h9) rfl (by decide +kernel) rfl rfl (Nat.le_of_ble_eq_true rfl) dX1_step_212 (fun H locs hP hD hS => ?_)
            have hP : va_P D vwCl (wT ad cI cZ (sS (sS u 8 ((u.1 8) + 1)) 8 (u.2 5 (u.1 8).toNatClampNeg))) H := hP
            have hD : va_D A (wT ad cI cZ (sS (sS u 8 ((u.1 8) + 1)) 8 (u.2 5 (u.1 8).toNatClampNeg))) := hD
            refine lv_goto (tgt := 299) hx hb dX1_step_215 (by decide) ?_
            refine lv_iload hx hb dX1_step_299 (lv_at hl 0 rfl) ?_
            have e9 : p_step u = (p_lengthOf u (u.1 8), sS (sS u 8 ((u.1 8) + 1)) 8 (u.2 5 (u.1 8).toNatClampNeg)) := by rw [p_step, if_neg c_8, if_neg c_11, if_neg c_16, if_neg c_20, if_pos c_22]
            rw [e9]
            exact W.iret hx hb hr (fun t ht hW => ⟨⟨_, (), rfl, rfl, by rw [ht]; exact hP, va_K.moved hW.alike hK, hD⟩, hS.F ht⟩) hS.2.2 dX1_step_301
          · have hok := hok.2 c_22
            rcases Classical.em ((u.2 0 (u.1 8).toNatClampNeg) = 5) with c_23 | c_23
            · have hok := hok.1 c_23
              refine lv_tableIn (tgt := 218) hx hb dX1_step_72 (by rw [c_23]; decide) (by rw [c_23]; decide) (by rw [c_23]; rfl) (by decide) ?_
              refine lv_aload_n hx hb dX1_step_218 rfl (lv_at hl 5 rfl) ?_
              refine va_get (ci := 1) (v := .ref (ad 1)) (C := RX1) (T := TX1) (N := 9) hx hb hts (ivX1 _) hown hK hP 3 rfl rfl 0 (by decide) (hts _ (tb_c tw_1_109)) (fun _ h9 => h9) rfl dX1_step_219 ?_
              refine va_get (ci := 2) (v := .ref (ad 5)) (C := RX2) (T := TX2) (N := 7) hx hb hts (ivX2 _) hown hK hP 1 rfl rfl 1 (by decide) (hts _ (tb_c tw_1_30)) (fun _ h9 => h9) rfl dX1_step_222 ?_
              refine lv_iload_n hx hb dX1_step_225 rfl (lv_at hl 4 rfl) ?_
              obtain ⟨h_24, hok⟩ := hok
              refine va_iald (f := u.2 1) hx hb hK hP 5 0 rfl rfl h_24 dX1_step_226 ?_
              refine lv_iload_n hx hb dX1_step_227 rfl (lv_at hl 3 rfl) ?_
              refine lv_iload_n hx hb dX1_step_228 rfl (lv_at hl 2 rfl) ?_
              refine k_callSi (As := [.int (u.2 1 (u.1 8).toNatClampNeg), .int (u.2 11 (u.2 3 (u.1 8).toNatClampNeg).toNatClampNeg), .int (u.2 11 (u.2 4 (u.1 8).toNatClampNeg).toNatClampNeg)]) (rest := []) hzz ⟨hx, hb, hml, hown, hts⟩ (c_holds l D ad cI cZ zz hzz tS hst (wT ad cI cZ (sS u 8 ((u.1 8) + 1))) (u.2 1 (u.1 8).toNatClampNeg) (u.2 11 (u.2 3 (u.1 8).toNatClampNeg).toNatClampNeg) (u.2 11 (u.2 4 (u.1 8).toNatClampNeg).toNatClampNeg)) (cwS 3 hts (tb_S tw_3_63 tw_3_64 tw_1_4 tw_3_65) rfl rfl rfl (by decide +kernel) ⟨Nat.le_of_ble_eq_true rfl, Nat.le_of_ble_eq_true rfl⟩) rfl hl.1 rfl (lv_room (Nat.le_of_ble_eq_true rfl)) dX1_step_229 ⟨Nat.le_of_ble_eq_true rfl, Nat.le_of_ble_eq_true rfl⟩ hP hK hD hS hA hZ (fun H locs hP hD hS => ?_)
              refine lv_if_eq (tgt := 244) hx hb dX1_step_232 (by decide) (fun c_26 => ?_) (fun c_26 => ?_)
              · have hok := hok.1 c_26
                refine lv_aload_n hx hb dX1_step_244 rfl (lv_at hl 5 rfl) ?_
                refine va_get (ci := 1) (v := .ref (ad 2)) (C := RX1) (T := TX1) (N := 9) hx hb hts (ivX1 _) hown hK hP 3 rfl rfl 1 (by decide) (hts _ (tb_c tw_1_110)) (fun _ h9 => h9) rfl dX1_step_245 ?_
                refine va_get (ci := 0) (v := .ref (ad 12)) (C := RX0) (T := TX0) (N := 9) hx hb hts (ivX0 _) hown hK hP 2 rfl rfl 3 (by decide) (hts _ (tb_c tw_1_75)) (fun _ h9 => h9) rfl dX1_step_248 ?_
                refine lv_iload_n hx hb dX1_step_251 rfl (lv_at hl 4 rfl) ?_
                obtain ⟨h_27, hok⟩ := hok
                refine va_zald (f := u.2 8) hx hb hK hP 12 1 rfl rfl h_27 dX1_step_252 ?_
                refine lv_if_eq (tgt := 299) hx hb dX1_step_253 (by decide) (fun c_28 => ?_) (fun c_28 => ?_)
                · skip
                  refine lv_iload hx hb dX1_step_299 (lv_at hl 0 rfl) ?_
                  have e9 : p_step u = (p_lengthOf u (u.1 8), sS u 8 ((u.1 8) + 1)) := by rw [p_step, if_neg c_8, if_neg c_11, if_neg c_16, if_neg c_20, if_neg c_22, if_pos c_23, if_pos c_26, if_pos c_28]
                  rw [e9]
                  exact W.iret hx hb hr (fun t ht hW => ⟨⟨_, (), rfl, rfl, by rw [ht]; exact hP, va_K.moved hW.alike hK, hD⟩, hS.F ht⟩) hS.2.2 dX1_step_301
                · skip
                  refine lv_iinc (v := (p_lengthOf u (u.1 8)) + (-1)) (lv' := [(5, .int ((p_lengthOf u (u.1 8)) + (-1))), (4, .int (u.2 5 (u.1 8).toNatClampNeg)), (3, .int (u.2 11 (u.2 4 (u.1 8).toNatClampNeg).toNatClampNeg)), (2, .int (u.2 11 (u.2 3 (u.1 8).toNatClampNeg).toNatClampNeg)), (1, .int (u.1 8)), (0, .ref (ad 3))]) hx hb dX1_step_256 hl (k := 0) rfl rfl (by decide) rfl (fun ls hl => ?_)
                  refine lv_goto (tgt := 299) hx hb dX1_step_259 (by decide) ?_
                  refine lv_iload hx hb dX1_step_299 (lv_at hl 0 rfl) ?_
                  have e9 : p_step u = ((p_lengthOf u (u.1 8)) + (-1), sS u 8 ((u.1 8) + 1)) := by rw [p_step, if_neg c_8, if_neg c_11, if_neg c_16, if_neg c_20, if_neg c_22, if_pos c_23, if_pos c_26, if_neg c_28]
                  rw [e9]
                  exact W.iret hx hb hr (fun t ht hW => ⟨⟨_, (), rfl, rfl, by rw [ht]; exact hP, va_K.moved hW.alike hK, hD⟩, hS.F ht⟩) hS.2.2 dX1_step_301
              · have hok := hok.2 c_26
                refine lv_aload_n hx hb dX1_step_235 rfl (lv_at hl 5 rfl) ?_
                refine lv_iload hx hb dX1_step_236 (lv_at hl 1 rfl) ?_
                refine va_put (ci := 1) (v := .int (u.2 5 (u.1 8).toNatClampNeg)) (ty := .int) (C := RX1) (T := TX1) (N := 9) hx hb hts (ivX1 _) tyX1 tyX1_ok nmX1 hown hK hP hD hS 3 rfl rfl 8 (by decide) (hts _ (tb_c tw_1_122)) (fun _ h9 => h9) rfl (by decide +kernel) rfl rfl (Nat.le_of_ble_eq_true rfl) dX1_step_238 (fun H locs hP hD hS => ?_)
                have hP : va_P D vwCl (wT ad cI cZ (sS (sS u 8 ((u.1 8) + 1)) 8 (u.2 5 (u.1 8).toNatClampNeg))) H := hP
                have hD : va_D A (wT ad cI cZ (sS (sS u 8 ((u.1 8) + 1)) 8 (u.2 5 (u.1 8).toNatClampNeg))) := hD
                refine lv_goto (tgt := 299) hx hb dX1_step_241 (by decide) ?_
                refine lv_iload hx hb dX1_step_299 (lv_at hl 0 rfl) ?_
                have e9 : p_step u = (p_lengthOf u (u.1 8), sS (sS u 8 ((u.1 8) + 1)) 8 (u.2 5 (u.1 8).toNatClampNeg)) := by rw [p_step, if_neg c_8, if_neg c_11, if_neg c_16, if_neg c_20, if_neg c_22, if_pos c_23, if_neg c_26]
                rw [e9]
                exact W.iret hx hb hr (fun t ht hW => ⟨⟨_, (), rfl, rfl, by rw [ht]; exact hP, va_K.moved hW.alike hK, hD⟩, hS.F ht⟩) hS.2.2 dX1_step_301
            · have hok := hok.2 c_23
              rcases Classical.em ((u.2 0 (u.1 8).toNatClampNeg) = 6) with c_29 | c_29
              · have hok := hok.1 c_29
                refine lv_tableIn (tgt := 262) hx hb dX1_step_72 (by rw [c_29]; decide) (by rw [c_29]; decide) (by rw [c_29]; rfl) (by decide) ?_
                refine lv_aload_n hx hb dX1_step_262 rfl (lv_at hl 5 rfl) ?_
                refine lv_iload_n hx hb dX1_step_263 rfl (lv_at hl 3 rfl) ?_
                obtain ⟨h_30, hok⟩ := hok
                refine k_callVv (As := [.int (u.2 11 (u.2 3 (u.1 8).toNatClampNeg).toNatClampNeg)]) (rest := []) hzz ⟨hx, hb, hml, hown, hts⟩ (c_putOut l D ad cI cZ zz hzz tS hst (sS u 8 ((u.1 8) + 1)) (u.2 11 (u.2 3 (u.1 8).toNatClampNeg).toNatClampNeg) h_30) (cwV 1 hts (tb_V tw_3_67 tw_3_69 slX1_putOut tw_1_4 tw_3_70) rfl rfl rfl (by decide +kernel) ⟨Nat.le_of_ble_eq_true rfl, Nat.le_of_ble_eq_true rfl⟩) (va_recv hK hP (ci := 1) (q0 := 3) rfl rfl) rfl hl.1 rfl (lv_room (Nat.le_of_ble_eq_true rfl)) dX1_step_264 ⟨Nat.le_of_ble_eq_true rfl, Nat.le_of_ble_eq_true rfl⟩ hP hK hD hS hA hZ (fun H locs hP hD hS => ?_)
                generalize eu_31 : p_putOut (sS u 8 ((u.1 8) + 1)) (u.2 11 (u.2 3 (u.1 8).toNatClampNeg).toNatClampNeg) = u_31 at hP hD ⊢
                try rw [eu_31] at hok
                refine lv_goto (tgt := 299) hx hb dX1_step_267 (by decide) ?_
                refine lv_iload hx hb dX1_step_299 (lv_at hl 0 rfl) ?_
                have e9 : p_step u = (p_lengthOf u (u.1 8), u_31) := by
                  subst eu_31
                  rw [p_step, if_neg c_8, if_neg c_11, if_neg c_16, if_neg c_20, if_neg c_22, if_neg c_23, if_pos c_29]
                rw [e9]
                exact W.iret hx hb hr (fun t ht hW => ⟨⟨_, (), rfl, rfl, by rw [ht]; exact hP, va_K.moved hW.alike hK, hD⟩, hS.F ht⟩) hS.2.2 dX1_step_301
              · have hok := hok.2 c_29
                rcases Classical.em ((u.2 0 (u.1 8).toNatClampNeg) = 7) with c_32 | c_32
                · skip
                  refine lv_tableIn (tgt := 270) hx hb dX1_step_72 (by rw [c_32]; decide) (by rw [c_32]; decide) (by rw [c_32]; rfl) (by decide) ?_
                  refine lv_aload_n hx hb dX1_step_270 rfl (lv_at hl 5 rfl) ?_
                  refine lv_iload_n hx hb dX1_step_271 rfl (lv_at hl 4 rfl) ?_
                  refine va_put (ci := 1) (v := .int (u.1 8)) (ty := .int) (C := RX1) (T := TX1) (N := 9) hx hb hts (ivX1 _) tyX1 tyX1_ok nmX1 hown hK hP hD hS 3 rfl rfl 8 (by decide) (hts _ (tb_c tw_1_122)) (fun _ h9 => h9) rfl (by decide +kernel) rfl rfl (Nat.le_of_ble_eq_true rfl) dX1_step_272 (fun H locs hP hD hS => ?_)
                  have hP : va_P D vwCl (wT ad cI cZ (sS (sS u 8 ((u.1 8) + 1)) 8 (u.1 8))) H := hP
                  have hD : va_D A (wT ad cI cZ (sS (sS u 8 ((u.1 8) + 1)) 8 (u.1 8))) := hD
                  refine lv_aload_n hx hb dX1_step_275 rfl (lv_at hl 5 rfl) ?_
                  refine lv_iconst (v := 2) hx hb dX1_step_276 (by decide) ?_
                  refine va_put (ci := 1) (v := .int 2) (ty := .int) (C := RX1) (T := TX1) (N := 9) hx hb hts (ivX1 _) tyX1 tyX1_ok nmX1 hown hK hP hD hS 3 rfl rfl 6 (by decide) (hts _ (tb_c tw_1_118)) (fun _ h9 => h9) rfl (by decide +kernel) rfl rfl (Nat.le_of_ble_eq_true rfl) dX1_step_277 (fun H locs hP hD hS => ?_)
                  have hP : va_P D vwCl (wT ad cI cZ (sS (sS (sS u 8 ((u.1 8) + 1)) 8 (u.1 8)) 6 2)) H := hP
                  have hD : va_D A (wT ad cI cZ (sS (sS (sS u 8 ((u.1 8) + 1)) 8 (u.1 8)) 6 2)) := hD
                  refine lv_goto (tgt := 299) hx hb dX1_step_280 (by decide) ?_
                  refine lv_iload hx hb dX1_step_299 (lv_at hl 0 rfl) ?_
                  have e9 : p_step u = (p_lengthOf u (u.1 8), sS (sS (sS u 8 ((u.1 8) + 1)) 8 (u.1 8)) 6 2) := by rw [p_step, if_neg c_8, if_neg c_11, if_neg c_16, if_neg c_20, if_neg c_22, if_neg c_23, if_neg c_29, if_pos c_32]
                  rw [e9]
                  exact W.iret hx hb hr (fun t ht hW => ⟨⟨_, (), rfl, rfl, by rw [ht]; exact hP, va_K.moved hW.alike hK, hD⟩, hS.F ht⟩) hS.2.2 dX1_step_301
                · skip
                  have n_c_8 := lv_neT (k := 0) (a := 0) c_8 rfl
                  have n_c_11 := lv_neT (k := 1) (a := 1) c_11 rfl
                  have n_c_16 := lv_neT (k := 2) (a := 2) c_16 rfl
                  have n_c_20 := lv_neT (k := 3) (a := 3) c_20 rfl
                  have n_c_22 := lv_neT (k := 4) (a := 4) c_22 rfl
                  have n_c_23 := lv_neT (k := 5) (a := 5) c_23 rfl
                  have n_c_29 := lv_neT (k := 6) (a := 6) c_29 rfl
                  have n_c_32 := lv_neT (k := 7) (a := 7) c_32 rfl
                  refine lv_tableOut (tgt := 283) hx hb dX1_step_72 (by omega) (by decide) ?_
                  refine lv_aload_n hx hb dX1_step_283 rfl (lv_at hl 5 rfl) ?_
                  refine lv_iload_n hx hb dX1_step_284 rfl (lv_at hl 4 rfl) ?_
                  refine va_put (ci := 1) (v := .int (u.1 8)) (ty := .int) (C := RX1) (T := TX1) (N := 9) hx hb hts (ivX1 _) tyX1 tyX1_ok nmX1 hown hK hP hD hS 3 rfl rfl 8 (by decide) (hts _ (tb_c tw_1_122)) (fun _ h9 => h9) rfl (by decide +kernel) rfl rfl (Nat.le_of_ble_eq_true rfl) dX1_step_285 (fun H locs hP hD hS => ?_)
                  have hP : va_P D vwCl (wT ad cI cZ (sS (sS u 8 ((u.1 8) + 1)) 8 (u.1 8))) H := hP
                  have hD : va_D A (wT ad cI cZ (sS (sS u 8 ((u.1 8) + 1)) 8 (u.1 8))) := hD
                  refine lv_aload_n hx hb dX1_step_288 rfl (lv_at hl 5 rfl) ?_
                  refine lv_iconst (v := 3) hx hb dX1_step_289 (by decide) ?_
                  refine va_put (ci := 1) (v := .int 3) (ty := .int) (C := RX1) (T := TX1) (N := 9) hx hb hts (ivX1 _) tyX1 tyX1_ok nmX1 hown hK hP hD hS 3 rfl rfl 6 (by decide) (hts _ (tb_c tw_1_118)) (fun _ h9 => h9) rfl (by decide +kernel) rfl rfl (Nat.le_of_ble_eq_true rfl) dX1_step_290 (fun H locs hP hD hS => ?_)
                  have hP : va_P D vwCl (wT ad cI cZ (sS (sS (sS u 8 ((u.1 8) + 1)) 8 (u.1 8)) 6 3)) H := hP
                  have hD : va_D A (wT ad cI cZ (sS (sS (sS u 8 ((u.1 8) + 1)) 8 (u.1 8)) 6 3)) := hD
                  refine lv_aload_n hx hb dX1_step_293 rfl (lv_at hl 5 rfl) ?_
                  refine lv_iload hx hb dX1_step_294 (lv_at hl 1 rfl) ?_
                  refine va_put (ci := 1) (v := .int (u.2 5 (u.1 8).toNatClampNeg)) (ty := .int) (C := RX1) (T := TX1) (N := 9) hx hb hts (ivX1 _) tyX1 tyX1_ok nmX1 hown hK hP hD hS 3 rfl rfl 7 (by decide) (hts _ (tb_c tw_1_120)) (fun _ h9 => h9) rfl (by decide +kernel) rfl rfl (Nat.le_of_ble_eq_true rfl) dX1_step_296 (fun H locs hP hD hS => ?_)
                  have hP : va_P D vwCl (wT ad cI cZ (sS (sS (sS (sS u 8 ((u.1 8) + 1)) 8 (u.1 8)) 6 3) 7 (u.2 5 (u.1 8).toNatClampNeg))) H := hP
                  have hD : va_D A (wT ad cI cZ (sS (sS (sS (sS u 8 ((u.1 8) + 1)) 8 (u.1 8)) 6 3) 7 (u.2 5 (u.1 8).toNatClampNeg))) := hD
                  refine lv_iload hx hb dX1_step_299 (lv_at hl 0 rfl) ?_
                  have e9 : p_step u = (p_lengthOf u (u.1 8), sS (sS (sS (sS u 8 ((u.1 8) + 1)) 8 (u.1 8)) 6 3) 7 (u.2 5 (u.1 8).toNatClampNeg)) := by rw [p_step, if_neg c_8, if_neg c_11, if_neg c_16, if_neg c_20, if_neg c_22, if_neg c_23, if_neg c_29, if_neg c_32]
                  rw [e9]
                  exact W.iret hx hb hr (fun t ht hW => ⟨⟨_, (), rfl, rfl, by rw [ht]; exact hP, va_K.moved hW.alike hK, hD⟩, hS.F ht⟩) hS.2.2 dX1_step_301

def p_goOn_4 : Nat → St → Int32 → Int32 → Int32 → Int32 × St
  | 0, u, _, _, _ => (0, u)
  | n + 1, u, x1, x2, x3 => (if x1 ≤ x3 then (x2, u) else (if x1 ≤ x2 then (x2, u) else (if (u.1 6) = 1 then p_goOn_4 n ((p_step u).2) x1 (x2 + ((p_step u).1)) (x3 + 1) else (x2, u))))
def ok_goOn_4 : Nat → St → Int32 → Int32 → Int32 → Prop
  | 0, _, _, _, _ => False
  | n + 1, u, x1, x2, x3 => ((x1 ≤ x3 → True) ∧ (¬ x1 ≤ x3 → ((x1 ≤ x2 → True) ∧ (¬ x1 ≤ x2 → (((u.1 6) = 1 → (ok_step u ∧ ok_goOn_4 n ((p_step u).2) x1 (x2 + ((p_step u).1)) (x3 + 1))) ∧ (¬ (u.1 6) = 1 → True))))))
set_option maxHeartbeats 4000000 in
set_option maxRecDepth 100000 in
theorem w_goOn_4 {p : Program} {l : Launch} {e : Env} {s : State} {m : MethodId} {args : Array Value} {below : List Frame} {meth : Method} {c : Code} {D : va_G} {A : Nat → Prop} (ad : Nat → Nat) (cI cZ : ClassId) (zz : (Nat → Prop) → State → Heap → Prop) (hzz : Zok zz) (tS : Nat) (hst : Zst zz tS) (Cx : cxt p s m args meth c cX1_goOn 4 (some .int) wsX1_goOn RX1 D vwCl (tyT cI cZ) zz A) : ∀ (n : Nat) (u : St) (x1 x2 x3 : Int32) (H : Heap) (locs : List Loc) (ls : Array Slot), ok_goOn_4 n u x1 x2 x3 → va_P D vwCl (wT ad cI cZ u) H → va_D A (wT ad cI cZ u) → va_S A s.heap H locs → lv_has ls 4 [(0, .ref (ad 3)), (1, .int x1), (2, .int x2), (3, .int x3)] → W p l e ({ frames := 2, cells := 0, slots := 0, locals := 49 } : Room) s m args below meth c H locs 0 0 (MQ below (qqI D vwCl (tyT cI cZ) (wT ad cI cZ ((p_goOn_4 n u x1 x2 x3).2)) (p_goOn_4 n u x1 x2 x3).1 A) args s 0 0 A) (F0 m 4 ls []) := by
  obtain ⟨hx, hb, hr, hts, hown, hlocks, hml, hK, hA, hZ⟩ := id Cx
  intro n
  induction n with
  | zero =>
    intro u x1 x2 x3 H locs ls hok
    exact False.elim hok
  | succ n ih =>
    intro u x1 x2 x3 H locs ls hok hP hD hS hl
    unfold ok_goOn_4 at hok
    refine lv_iload_n hx hb dX1_goOn_4 rfl (lv_at hl 3 rfl) ?_
    refine lv_iload_n hx hb dX1_goOn_5 rfl (lv_at hl 1 rfl) ?_
    refine lv_icmp_ge (tgt := 35) hx hb dX1_goOn_6 (by decide) (fun c_1 => ?_) (fun c_1 => ?_)
    · have hok := hok.1 c_1
      refine lv_iload_n hx hb dX1_goOn_35 rfl (lv_at hl 2 rfl) ?_
      have e9 : p_goOn_4 (n + 1) u x1 x2 x3 = (x2, u) := by rw [p_goOn_4, if_pos c_1]
      rw [e9]
      exact W.iret hx hb hr (fun t ht hW => ⟨⟨_, (), rfl, rfl, by rw [ht]; exact hP, va_K.moved hW.alike hK, hD⟩, hS.F ht⟩) hS.2.2 dX1_goOn_36
    · have hok := hok.2 c_1
      refine lv_iload_n hx hb dX1_goOn_9 rfl (lv_at hl 2 rfl) ?_
      refine lv_iload_n hx hb dX1_goOn_10 rfl (lv_at hl 1 rfl) ?_
      refine lv_icmp_ge (tgt := 35) hx hb dX1_goOn_11 (by decide) (fun c_2 => ?_) (fun c_2 => ?_)
      · have hok := hok.1 c_2
        refine lv_iload_n hx hb dX1_goOn_35 rfl (lv_at hl 2 rfl) ?_
        have e9 : p_goOn_4 (n + 1) u x1 x2 x3 = (x2, u) := by rw [p_goOn_4, if_neg c_1, if_pos c_2]
        rw [e9]
        exact W.iret hx hb hr (fun t ht hW => ⟨⟨_, (), rfl, rfl, by rw [ht]; exact hP, va_K.moved hW.alike hK, hD⟩, hS.F ht⟩) hS.2.2 dX1_goOn_36
      · have hok := hok.2 c_2
        refine lv_aload_n hx hb dX1_goOn_14 rfl (lv_at hl 0 rfl) ?_
        refine va_get (ci := 1) (v := .int (u.1 6)) (C := RX1) (T := TX1) (N := 9) hx hb hts (ivX1 _) hown hK hP 3 rfl rfl 6 (by decide) (hts _ (tb_c tw_1_118)) (fun _ h9 => h9) rfl dX1_goOn_15 ?_
        refine lv_iconst (v := 1) hx hb dX1_goOn_18 (by decide) ?_
        refine lv_icmp_ne (tgt := 35) hx hb dX1_goOn_19 (by decide) (fun c_3 => ?_) (fun c_3 => ?_)
        · have hok := hok.2 c_3
          refine lv_iload_n hx hb dX1_goOn_35 rfl (lv_at hl 2 rfl) ?_
          have e9 : p_goOn_4 (n + 1) u x1 x2 x3 = (x2, u) := by rw [p_goOn_4, if_neg c_1, if_neg c_2, if_neg c_3]
          rw [e9]
          exact W.iret hx hb hr (fun t ht hW => ⟨⟨_, (), rfl, rfl, by rw [ht]; exact hP, va_K.moved hW.alike hK, hD⟩, hS.F ht⟩) hS.2.2 dX1_goOn_36
        · have hok := hok.1 c_3
          refine lv_iload_n hx hb dX1_goOn_22 rfl (lv_at hl 2 rfl) ?_
          refine lv_aload_n hx hb dX1_goOn_23 rfl (lv_at hl 0 rfl) ?_
          obtain ⟨h_4, hok⟩ := hok
          refine k_callVi (As := []) (rest := [.int x2]) hzz ⟨hx, hb, hml, hown, hts⟩ (c_step l D ad cI cZ zz hzz tS hst u h_4) (cwV 0 hts (tb_V tw_3_52 tw_3_54 slX1_step tw_1_4 tw_3_55) rfl rfl rfl (by decide +kernel) ⟨Nat.le_of_ble_eq_true rfl, Nat.le_of_ble_eq_true rfl⟩) (va_recv hK hP (ci := 1) (q0 := 3) rfl rfl) rfl hl.1 rfl (lv_room (Nat.le_of_ble_eq_true rfl)) dX1_goOn_24 ⟨Nat.le_of_ble_eq_true rfl, Nat.le_of_ble_eq_true rfl⟩ hP hK hD hS hA hZ (fun H locs hP hD hS => ?_)
          generalize eu_5 : (p_step u).2 = u_5 at hP hD ⊢
          try rw [eu_5] at hok
          refine lv_iadd hx hb dX1_goOn_27 ?_
          refine lv_istore_n (lv' := [(2, .int (x2 + ((p_step u).1))), (0, .ref (ad 3)), (1, .int x1), (3, .int x3)]) hx hb dX1_goOn_28 rfl hl (by decide) rfl (fun ls hl => ?_)
          refine lv_iinc (v := x3 + 1) (lv' := [(3, .int (x3 + 1)), (2, .int (x2 + ((p_step u).1))), (0, .ref (ad 3)), (1, .int x1)]) hx hb dX1_goOn_29 hl (k := 3) rfl rfl (by decide) rfl (fun ls hl => ?_)
          refine lv_goto (tgt := 4) hx hb dX1_goOn_32 (by decide) ?_
          have e9 : p_goOn_4 (n + 1) u x1 x2 x3 = p_goOn_4 n u_5 x1 (x2 + ((p_step u).1)) (x3 + 1) := by
            subst eu_5
            rw [p_goOn_4, if_neg c_1, if_neg c_2, if_pos c_3]
          rw [e9]
          exact ih u_5 x1 (x2 + ((p_step u).1)) (x3 + 1) _ _ _ hok hP hD hS (lv_sub hl [2, 3, 1, 0] rfl)
def p_goOn (u : St) (x1 : Int32) : Int32 × St := p_goOn_4 2002 u x1 0 0
def ok_goOn (u : St) (x1 : Int32) : Prop := ok_goOn_4 2002 u x1 0 0
set_option maxHeartbeats 4000000 in
set_option maxRecDepth 100000 in
theorem c_goOn (l : Launch) (D : va_G) (ad : Nat → Nat) (cI cZ : ClassId) (zz : (Nat → Prop) → State → Heap → Prop) (hzz : Zok zz) (tS : Nat) (hst : Zst zz tS) (u : St) (x1 : Int32) (hok : ok_goOn u x1) : tfI l D vwCl (tyT cI cZ) zz yX1_goOn wsX1_goOn ({ frames := 2, cells := 0, slots := 0, locals := 49 } : Room) [.ref (ad 3), .int x1] (wT ad cI cZ u) (p_goOn u x1).1 (wT ad cI cZ ((p_goOn u x1).2)) := by
  intro sz
  unfold ok_goOn at hok
  refine Met.ofW (cc := cX1_goOn) (maxL := 4) (ret := (some .int)) (by decide) rfl ?_
  intro p e s m args below meth c s₁ B hml hv
  obtain ⟨rfl, hsz, hP, hK, hD0, hZ⟩ := hv
  have hx := B.exec
  have hb := B.bytes
  have hr := B.returns
  have hts := atoms_spec (ws := wsX1_goOn) B.pre
  have hown : s.vm.findClass RX1 = some m.cls := findClass_of_methodNamed B.named
  have hlocks := B.notSynchronized
  subst hsz
  have hD := hD0.self (sz := s.heap.size)
  generalize hAe : va_A (wT ad cI cZ u) s.heap.size = A at hD hZ ⊢
  have hA : ∀ q : Nat, s.heap.size ≤ q → A q := fun q h => by rw [← hAe]; exact Or.inr h
  have hS : va_S A s.heap s.heap [] := va_S.rf
  have Cx : cxt p s m ([.ref (ad 3), .int x1] : List Value).toArray meth c cX1_goOn 4 (some .int) wsX1_goOn RX1 D vwCl (tyT cI cZ) zz A := ⟨hx, hb, hr, hts, hown, hlocks, hml, hK, hA, hZ⟩
  have hl := lv_entry ([.ref (ad 3), .int x1]) (n := 4) (Nat.le_of_ble_eq_true rfl)
  rw [lg_entry_eq]
  generalize (lg_sl ([.ref (ad 3), .int x1]) ++ List.replicate (4 - (lg_sl ([.ref (ad 3), .int x1])).length) Slot.unset).toArray = ls at hl ⊢
  have hl : lv_has ls 4 [(0, .ref (ad 3)), (1, .int x1)] := hl
  refine lv_iconst (v := 0) hx hb dX1_goOn_0 (by decide) ?_
  refine lv_istore_n (lv' := [(2, .int 0), (0, .ref (ad 3)), (1, .int x1)]) hx hb dX1_goOn_1 rfl hl (by decide) rfl (fun ls hl => ?_)
  refine lv_iconst (v := 0) hx hb dX1_goOn_2 (by decide) ?_
  refine lv_istore_n (lv' := [(3, .int 0), (2, .int 0), (0, .ref (ad 3)), (1, .int x1)]) hx hb dX1_goOn_3 rfl hl (by decide) rfl (fun ls hl => ?_)
  have e9 : p_goOn u x1 = p_goOn_4 2002 u x1 0 0 := by rw [p_goOn]
  rw [e9]
  exact w_goOn_4 ad cI cZ zz hzz tS hst Cx 2002 u x1 0 0 _ _ _ hok hP hD hS (lv_sub hl [2, 3, 1, 0] rfl)

def p_turnOff (u : St) : St := sS (sS u 6 0) 5 0
set_option maxHeartbeats 4000000 in
set_option maxRecDepth 100000 in
theorem c_turnOff (l : Launch) (D : va_G) (ad : Nat → Nat) (cI cZ : ClassId) (zz : (Nat → Prop) → State → Heap → Prop) (hzz : Zok zz) (tS : Nat) (hst : Zst zz tS) (u : St) : tfV l D vwCl (tyT cI cZ) zz yX1_turnOff wsX1_turnOff ({ frames := 0, cells := 0, slots := 0, locals := 0 } : Room) [.ref (ad 3)] (wT ad cI cZ u) (wT ad cI cZ (p_turnOff u)) := by
  intro sz
  refine Met.ofW (cc := cX1_turnOff) (maxL := 1) (ret := none) (by decide) rfl ?_
  intro p e s m args below meth c s₁ B hml hv
  obtain ⟨rfl, hsz, hP, hK, hD0, hZ⟩ := hv
  have hx := B.exec
  have hb := B.bytes
  have hr := B.returns
  have hts := atoms_spec (ws := wsX1_turnOff) B.pre
  have hown : s.vm.findClass RX1 = some m.cls := findClass_of_methodNamed B.named
  have hlocks := B.notSynchronized
  subst hsz
  have hD := hD0.self (sz := s.heap.size)
  generalize hAe : va_A (wT ad cI cZ u) s.heap.size = A at hD hZ ⊢
  have hA : ∀ q : Nat, s.heap.size ≤ q → A q := fun q h => by rw [← hAe]; exact Or.inr h
  have hS : va_S A s.heap s.heap [] := va_S.rf
  have Cx : cxt p s m ([.ref (ad 3)] : List Value).toArray meth c cX1_turnOff 1 none wsX1_turnOff RX1 D vwCl (tyT cI cZ) zz A := ⟨hx, hb, hr, hts, hown, hlocks, hml, hK, hA, hZ⟩
  have hl := lv_entry ([.ref (ad 3)]) (n := 1) (Nat.le_of_ble_eq_true rfl)
  rw [lg_entry_eq]
  generalize (lg_sl ([.ref (ad 3)]) ++ List.replicate (1 - (lg_sl ([.ref (ad 3)])).length) Slot.unset).toArray = ls at hl ⊢
  have hl : lv_has ls 1 [(0, .ref (ad 3))] := hl
  refine lv_aload_n hx hb dX1_turnOff_0 rfl (lv_at hl 0 rfl) ?_
  refine lv_iconst (v := 0) hx hb dX1_turnOff_1 (by decide) ?_
  refine va_put (ci := 1) (v := .int 0) (ty := .int) (C := RX1) (T := TX1) (N := 9) hx hb hts (ivX1 _) tyX1 tyX1_ok nmX1 hown hK hP hD hS 3 rfl rfl 6 (by decide) (hts _ (tb_c tw_1_118)) (fun _ h9 => h9) rfl (by decide +kernel) rfl rfl (Nat.le_of_ble_eq_true rfl) dX1_turnOff_2 (fun H locs hP hD hS => ?_)
  have hP : va_P D vwCl (wT ad cI cZ (sS u 6 0)) H := hP
  have hD : va_D A (wT ad cI cZ (sS u 6 0)) := hD
  refine lv_aload_n hx hb dX1_turnOff_5 rfl (lv_at hl 0 rfl) ?_
  refine lv_iconst (v := 0) hx hb dX1_turnOff_6 (by decide) ?_
  refine va_put (ci := 1) (v := .int 0) (ty := .int) (C := RX1) (T := TX1) (N := 9) hx hb hts (ivX1 _) tyX1 tyX1_ok nmX1 hown hK hP hD hS 3 rfl rfl 5 (by decide) (hts _ (tb_c tw_1_116)) (fun _ h9 => h9) rfl (by decide +kernel) rfl rfl (Nat.le_of_ble_eq_true rfl) dX1_turnOff_7 (fun H locs hP hD hS => ?_)
  have hP : va_P D vwCl (wT ad cI cZ (sS (sS u 6 0) 5 0)) H := hP
  have hD : va_D A (wT ad cI cZ (sS (sS u 6 0) 5 0)) := hD
  have e9 : p_turnOff u = sS (sS u 6 0) 5 0 := by rw [p_turnOff]
  rw [e9]
  exact W.vret hx hb hr (fun t ht hW => ⟨⟨(), rfl, trivial, by rw [ht]; exact hP, va_K.moved hW.alike hK, hD⟩, hS.F ht⟩) hS.2.2 dX1_turnOff_10

def p_turnOn_2 : Nat → St → Int32 → St
  | 0, u, _ => u
  | n + 1, u, x1 => (if 8 ≤ x1 then sS (sS (sS u 6 1) 5 0) 8 0 else p_turnOn_2 n (sA u 11 x1 0) (x1 + 1))
def ok_turnOn_2 : Nat → St → Int32 → Prop
  | 0, _, _ => False
  | n + 1, u, x1 => ((8 ≤ x1 → True) ∧ (¬ 8 ≤ x1 → (vp_in x1 8 ∧ ok_turnOn_2 n (sA u 11 x1 0) (x1 + 1))))
set_option maxHeartbeats 4000000 in
set_option maxRecDepth 100000 in
theorem w_turnOn_2 {p : Program} {l : Launch} {e : Env} {s : State} {m : MethodId} {args : Array Value} {below : List Frame} {meth : Method} {c : Code} {D : va_G} {A : Nat → Prop} (ad : Nat → Nat) (cI cZ : ClassId) (zz : (Nat → Prop) → State → Heap → Prop) (hzz : Zok zz) (tS : Nat) (hst : Zst zz tS) (Cx : cxt p s m args meth c cX1_turnOn 2 none wsX1_turnOn RX1 D vwCl (tyT cI cZ) zz A) : ∀ (n : Nat) (u : St) (x1 : Int32) (H : Heap) (locs : List Loc) (ls : Array Slot), ok_turnOn_2 n u x1 → va_P D vwCl (wT ad cI cZ u) H → va_D A (wT ad cI cZ u) → va_S A s.heap H locs → lv_has ls 2 [(0, .ref (ad 3)), (1, .int x1)] → W p l e ({ frames := 0, cells := 0, slots := 0, locals := 0 } : Room) s m args below meth c H locs 0 0 (MQ below (qqV D vwCl (tyT cI cZ) (wT ad cI cZ (p_turnOn_2 n u x1)) A) args s 0 0 A) (F0 m 2 ls []) := by
  obtain ⟨hx, hb, hr, hts, hown, hlocks, hml, hK, hA, hZ⟩ := id Cx
  intro n
  induction n with
  | zero =>
    intro u x1 H locs ls hok
    exact False.elim hok
  | succ n ih =>
    intro u x1 H locs ls hok hP hD hS hl
    unfold ok_turnOn_2 at hok
    refine lv_iload_n hx hb dX1_turnOn_2 rfl (lv_at hl 1 rfl) ?_
    refine lv_bipush (v := 8) hx hb dX1_turnOn_3 (by decide) ?_
    refine lv_icmp_ge (tgt := 21) hx hb dX1_turnOn_5 (by decide) (fun c_1 => ?_) (fun c_1 => ?_)
    · have hok := hok.1 c_1
      refine lv_aload_n hx hb dX1_turnOn_21 rfl (lv_at hl 0 rfl) ?_
      refine lv_iconst (v := 1) hx hb dX1_turnOn_22 (by decide) ?_
      refine va_put (ci := 1) (v := .int 1) (ty := .int) (C := RX1) (T := TX1) (N := 9) hx hb hts (ivX1 _) tyX1 tyX1_ok nmX1 hown hK hP hD hS 3 rfl rfl 6 (by decide) (hts _ (tb_c tw_1_118)) (fun _ h9 => h9) rfl (by decide +kernel) rfl rfl (Nat.le_of_ble_eq_true rfl) dX1_turnOn_23 (fun H locs hP hD hS => ?_)
      have hP : va_P D vwCl (wT ad cI cZ (sS u 6 1)) H := hP
      have hD : va_D A (wT ad cI cZ (sS u 6 1)) := hD
      refine lv_aload_n hx hb dX1_turnOn_26 rfl (lv_at hl 0 rfl) ?_
      refine lv_iconst (v := 0) hx hb dX1_turnOn_27 (by decide) ?_
      refine va_put (ci := 1) (v := .int 0) (ty := .int) (C := RX1) (T := TX1) (N := 9) hx hb hts (ivX1 _) tyX1 tyX1_ok nmX1 hown hK hP hD hS 3 rfl rfl 5 (by decide) (hts _ (tb_c tw_1_116)) (fun _ h9 => h9) rfl (by decide +kernel) rfl rfl (Nat.le_of_ble_eq_true rfl) dX1_turnOn_28 (fun H locs hP hD hS => ?_)
      have hP : va_P D vwCl (wT ad cI cZ (sS (sS u 6 1) 5 0)) H := hP
      have hD : va_D A (wT ad cI cZ (sS (sS u 6 1) 5 0)) := hD
      refine lv_aload_n hx hb dX1_turnOn_31 rfl (lv_at hl 0 rfl) ?_
      refine lv_iconst (v := 0) hx hb dX1_turnOn_32 (by decide) ?_
      refine va_put (ci := 1) (v := .int 0) (ty := .int) (C := RX1) (T := TX1) (N := 9) hx hb hts (ivX1 _) tyX1 tyX1_ok nmX1 hown hK hP hD hS 3 rfl rfl 8 (by decide) (hts _ (tb_c tw_1_122)) (fun _ h9 => h9) rfl (by decide +kernel) rfl rfl (Nat.le_of_ble_eq_true rfl) dX1_turnOn_33 (fun H locs hP hD hS => ?_)
      have hP : va_P D vwCl (wT ad cI cZ (sS (sS (sS u 6 1) 5 0) 8 0)) H := hP
      have hD : va_D A (wT ad cI cZ (sS (sS (sS u 6 1) 5 0) 8 0)) := hD
      have e9 : p_turnOn_2 (n + 1) u x1 = sS (sS (sS u 6 1) 5 0) 8 0 := by rw [p_turnOn_2, if_pos c_1]
      rw [e9]
      exact W.vret hx hb hr (fun t ht hW => ⟨⟨(), rfl, trivial, by rw [ht]; exact hP, va_K.moved hW.alike hK, hD⟩, hS.F ht⟩) hS.2.2 dX1_turnOn_36
    · have hok := hok.2 c_1
      refine lv_aload_n hx hb dX1_turnOn_8 rfl (lv_at hl 0 rfl) ?_
      refine va_get (ci := 1) (v := .ref (ad 15)) (C := RX1) (T := TX1) (N := 9) hx hb hts (ivX1 _) hown hK hP 3 rfl rfl 3 (by decide) (hts _ (tb_c tw_1_113)) (fun _ h9 => h9) rfl dX1_turnOn_9 ?_
      refine lv_iload_n hx hb dX1_turnOn_12 rfl (lv_at hl 1 rfl) ?_
      refine lv_iconst (v := 0) hx hb dX1_turnOn_13 (by decide) ?_
      obtain ⟨h_2, hok⟩ := hok
      refine va_iast hx hb hK hP hD hS 15 0 rfl rfl h_2 dX1_turnOn_14 (fun H locs hP hD hS => ?_)
      have hP : va_P D vwCl (wT ad cI cZ (sA u 11 x1 0)) H := hP
      have hD : va_D A (wT ad cI cZ (sA u 11 x1 0)) := hD
      refine lv_iinc (v := x1 + 1) (lv' := [(1, .int (x1 + 1)), (0, .ref (ad 3))]) hx hb dX1_turnOn_15 hl (k := 1) rfl rfl (by decide) rfl (fun ls hl => ?_)
      refine lv_goto (tgt := 2) hx hb dX1_turnOn_18 (by decide) ?_
      have e9 : p_turnOn_2 (n + 1) u x1 = p_turnOn_2 n (sA u 11 x1 0) (x1 + 1) := by rw [p_turnOn_2, if_neg c_1]
      rw [e9]
      exact ih (sA u 11 x1 0) (x1 + 1) _ _ _ hok hP hD hS (lv_sub hl [1, 0] rfl)
def p_turnOn (u : St) : St := p_turnOn_2 64 u 0
def ok_turnOn (u : St) : Prop := ok_turnOn_2 64 u 0
set_option maxHeartbeats 4000000 in
set_option maxRecDepth 100000 in
theorem c_turnOn (l : Launch) (D : va_G) (ad : Nat → Nat) (cI cZ : ClassId) (zz : (Nat → Prop) → State → Heap → Prop) (hzz : Zok zz) (tS : Nat) (hst : Zst zz tS) (u : St) (hok : ok_turnOn u) : tfV l D vwCl (tyT cI cZ) zz yX1_turnOn wsX1_turnOn ({ frames := 0, cells := 0, slots := 0, locals := 0 } : Room) [.ref (ad 3)] (wT ad cI cZ u) (wT ad cI cZ (p_turnOn u)) := by
  intro sz
  unfold ok_turnOn at hok
  refine Met.ofW (cc := cX1_turnOn) (maxL := 2) (ret := none) (by decide) rfl ?_
  intro p e s m args below meth c s₁ B hml hv
  obtain ⟨rfl, hsz, hP, hK, hD0, hZ⟩ := hv
  have hx := B.exec
  have hb := B.bytes
  have hr := B.returns
  have hts := atoms_spec (ws := wsX1_turnOn) B.pre
  have hown : s.vm.findClass RX1 = some m.cls := findClass_of_methodNamed B.named
  have hlocks := B.notSynchronized
  subst hsz
  have hD := hD0.self (sz := s.heap.size)
  generalize hAe : va_A (wT ad cI cZ u) s.heap.size = A at hD hZ ⊢
  have hA : ∀ q : Nat, s.heap.size ≤ q → A q := fun q h => by rw [← hAe]; exact Or.inr h
  have hS : va_S A s.heap s.heap [] := va_S.rf
  have Cx : cxt p s m ([.ref (ad 3)] : List Value).toArray meth c cX1_turnOn 2 none wsX1_turnOn RX1 D vwCl (tyT cI cZ) zz A := ⟨hx, hb, hr, hts, hown, hlocks, hml, hK, hA, hZ⟩
  have hl := lv_entry ([.ref (ad 3)]) (n := 2) (Nat.le_of_ble_eq_true rfl)
  rw [lg_entry_eq]
  generalize (lg_sl ([.ref (ad 3)]) ++ List.replicate (2 - (lg_sl ([.ref (ad 3)])).length) Slot.unset).toArray = ls at hl ⊢
  have hl : lv_has ls 2 [(0, .ref (ad 3))] := hl
  refine lv_iconst (v := 0) hx hb dX1_turnOn_0 (by decide) ?_
  refine lv_istore_n (lv' := [(1, .int 0), (0, .ref (ad 3))]) hx hb dX1_turnOn_1 rfl hl (by decide) rfl (fun ls hl => ?_)
  have e9 : p_turnOn u = p_turnOn_2 64 u 0 := by rw [p_turnOn]
  rw [e9]
  exact w_turnOn_2 ad cI cZ zz hzz tS hst Cx 64 u 0 _ _ _ hok hP hD hS (lv_sub hl [1, 0] rfl)

def p_keeps (u : St) (x1 : Int32) : Int32 := (if x1 < 0 then 0 else (if (u.1 5) ≤ x1 then 0 else (if x1 < ((u.1 5) - 16) then 0 else 1)))
set_option maxHeartbeats 4000000 in
set_option maxRecDepth 100000 in
theorem c_keeps (l : Launch) (D : va_G) (ad : Nat → Nat) (cI cZ : ClassId) (zz : (Nat → Prop) → State → Heap → Prop) (hzz : Zok zz) (tS : Nat) (hst : Zst zz tS) (u : St) (x1 : Int32) : tfI l D vwCl (tyT cI cZ) zz yX1_keeps wsX1_keeps ({ frames := 0, cells := 0, slots := 0, locals := 0 } : Room) [.ref (ad 3), .int x1] (wT ad cI cZ u) (p_keeps u x1) (wT ad cI cZ u) := by
  intro sz
  refine Met.ofW (cc := cX1_keeps) (maxL := 2) (ret := (some .boolean)) (by decide) rfl ?_
  intro p e s m args below meth c s₁ B hml hv
  obtain ⟨rfl, hsz, hP, hK, hD0, hZ⟩ := hv
  have hx := B.exec
  have hb := B.bytes
  have hr := B.returns
  have hts := atoms_spec (ws := wsX1_keeps) B.pre
  have hown : s.vm.findClass RX1 = some m.cls := findClass_of_methodNamed B.named
  have hlocks := B.notSynchronized
  subst hsz
  have hD := hD0.self (sz := s.heap.size)
  generalize hAe : va_A (wT ad cI cZ u) s.heap.size = A at hD hZ ⊢
  have hA : ∀ q : Nat, s.heap.size ≤ q → A q := fun q h => by rw [← hAe]; exact Or.inr h
  have hS : va_S A s.heap s.heap [] := va_S.rf
  have Cx : cxt p s m ([.ref (ad 3), .int x1] : List Value).toArray meth c cX1_keeps 2 (some .boolean) wsX1_keeps RX1 D vwCl (tyT cI cZ) zz A := ⟨hx, hb, hr, hts, hown, hlocks, hml, hK, hA, hZ⟩
  have hl := lv_entry ([.ref (ad 3), .int x1]) (n := 2) (Nat.le_of_ble_eq_true rfl)
  rw [lg_entry_eq]
  generalize (lg_sl ([.ref (ad 3), .int x1]) ++ List.replicate (2 - (lg_sl ([.ref (ad 3), .int x1])).length) Slot.unset).toArray = ls at hl ⊢
  have hl : lv_has ls 2 [(0, .ref (ad 3)), (1, .int x1)] := hl
  refine lv_iload_n hx hb dX1_keeps_0 rfl (lv_at hl 1 rfl) ?_
  refine lv_if_lt (tgt := 27) hx hb dX1_keeps_1 (by decide) (fun c_1 => ?_) (fun c_1 => ?_)
  · skip
    refine lv_iconst (v := 0) hx hb dX1_keeps_27 (by decide) ?_
    have e9 : p_keeps u x1 = 0 := by rw [p_keeps, if_pos c_1]
    rw [e9]
    exact W.zret hx hb hr rfl (fun t ht hW => ⟨⟨_, (), rfl, rfl, by rw [ht]; exact hP, va_K.moved hW.alike hK, hD⟩, hS.F ht⟩) hS.2.2 dX1_keeps_28
  · skip
    refine lv_iload_n hx hb dX1_keeps_4 rfl (lv_at hl 1 rfl) ?_
    refine lv_aload_n hx hb dX1_keeps_5 rfl (lv_at hl 0 rfl) ?_
    refine va_get (ci := 1) (v := .int (u.1 5)) (C := RX1) (T := TX1) (N := 9) hx hb hts (ivX1 _) hown hK hP 3 rfl rfl 5 (by decide) (hts _ (tb_c tw_1_116)) (fun _ h9 => h9) rfl dX1_keeps_6 ?_
    refine lv_icmp_ge (tgt := 27) hx hb dX1_keeps_9 (by decide) (fun c_2 => ?_) (fun c_2 => ?_)
    · skip
      refine lv_iconst (v := 0) hx hb dX1_keeps_27 (by decide) ?_
      have e9 : p_keeps u x1 = 0 := by rw [p_keeps, if_neg c_1, if_pos c_2]
      rw [e9]
      exact W.zret hx hb hr rfl (fun t ht hW => ⟨⟨_, (), rfl, rfl, by rw [ht]; exact hP, va_K.moved hW.alike hK, hD⟩, hS.F ht⟩) hS.2.2 dX1_keeps_28
    · skip
      refine lv_iload_n hx hb dX1_keeps_12 rfl (lv_at hl 1 rfl) ?_
      refine lv_aload_n hx hb dX1_keeps_13 rfl (lv_at hl 0 rfl) ?_
      refine va_get (ci := 1) (v := .int (u.1 5)) (C := RX1) (T := TX1) (N := 9) hx hb hts (ivX1 _) hown hK hP 3 rfl rfl 5 (by decide) (hts _ (tb_c tw_1_116)) (fun _ h9 => h9) rfl dX1_keeps_14 ?_
      refine lv_bipush (v := 16) hx hb dX1_keeps_17 (by decide) ?_
      refine lv_isub hx hb dX1_keeps_19 ?_
      refine lv_icmp_lt (tgt := 27) hx hb dX1_keeps_20 (by decide) (fun c_3 => ?_) (fun c_3 => ?_)
      · skip
        refine lv_iconst (v := 0) hx hb dX1_keeps_27 (by decide) ?_
        have e9 : p_keeps u x1 = 0 := by rw [p_keeps, if_neg c_1, if_neg c_2, if_pos c_3]
        rw [e9]
        exact W.zret hx hb hr rfl (fun t ht hW => ⟨⟨_, (), rfl, rfl, by rw [ht]; exact hP, va_K.moved hW.alike hK, hD⟩, hS.F ht⟩) hS.2.2 dX1_keeps_28
      · skip
        refine lv_iconst (v := 1) hx hb dX1_keeps_23 (by decide) ?_
        refine lv_goto (tgt := 28) hx hb dX1_keeps_24 (by decide) ?_
        have e9 : p_keeps u x1 = 1 := by rw [p_keeps, if_neg c_1, if_neg c_2, if_neg c_3]
        rw [e9]
        exact W.zret hx hb hr rfl (fun t ht hW => ⟨⟨_, (), rfl, rfl, by rw [ht]; exact hP, va_K.moved hW.alike hK, hD⟩, hS.F ht⟩) hS.2.2 dX1_keeps_28

def p_keptOutput (u : St) (x1 : Int32) : Int32 := u.2 12 (x1 &&& 15).toNatClampNeg
def ok_keptOutput (u : St) (x1 : Int32) : Prop := (vp_in (x1 &&& 15) 16 ∧ True)
set_option maxHeartbeats 4000000 in
set_option maxRecDepth 100000 in
theorem c_keptOutput (l : Launch) (D : va_G) (ad : Nat → Nat) (cI cZ : ClassId) (zz : (Nat → Prop) → State → Heap → Prop) (hzz : Zok zz) (tS : Nat) (hst : Zst zz tS) (u : St) (x1 : Int32) (hok : ok_keptOutput u x1) : tfI l D vwCl (tyT cI cZ) zz yX1_keptOutput wsX1_keptOutput ({ frames := 0, cells := 0, slots := 0, locals := 0 } : Room) [.ref (ad 3), .int x1] (wT ad cI cZ u) (p_keptOutput u x1) (wT ad cI cZ u) := by
  intro sz
  unfold ok_keptOutput at hok
  refine Met.ofW (cc := cX1_keptOutput) (maxL := 2) (ret := (some .int)) (by decide) rfl ?_
  intro p e s m args below meth c s₁ B hml hv
  obtain ⟨rfl, hsz, hP, hK, hD0, hZ⟩ := hv
  have hx := B.exec
  have hb := B.bytes
  have hr := B.returns
  have hts := atoms_spec (ws := wsX1_keptOutput) B.pre
  have hown : s.vm.findClass RX1 = some m.cls := findClass_of_methodNamed B.named
  have hlocks := B.notSynchronized
  subst hsz
  have hD := hD0.self (sz := s.heap.size)
  generalize hAe : va_A (wT ad cI cZ u) s.heap.size = A at hD hZ ⊢
  have hA : ∀ q : Nat, s.heap.size ≤ q → A q := fun q h => by rw [← hAe]; exact Or.inr h
  have hS : va_S A s.heap s.heap [] := va_S.rf
  have Cx : cxt p s m ([.ref (ad 3), .int x1] : List Value).toArray meth c cX1_keptOutput 2 (some .int) wsX1_keptOutput RX1 D vwCl (tyT cI cZ) zz A := ⟨hx, hb, hr, hts, hown, hlocks, hml, hK, hA, hZ⟩
  have hl := lv_entry ([.ref (ad 3), .int x1]) (n := 2) (Nat.le_of_ble_eq_true rfl)
  rw [lg_entry_eq]
  generalize (lg_sl ([.ref (ad 3), .int x1]) ++ List.replicate (2 - (lg_sl ([.ref (ad 3), .int x1])).length) Slot.unset).toArray = ls at hl ⊢
  have hl : lv_has ls 2 [(0, .ref (ad 3)), (1, .int x1)] := hl
  refine lv_aload_n hx hb dX1_keptOutput_0 rfl (lv_at hl 0 rfl) ?_
  refine va_get (ci := 1) (v := .ref (ad 16)) (C := RX1) (T := TX1) (N := 9) hx hb hts (ivX1 _) hown hK hP 3 rfl rfl 4 (by decide) (hts _ (tb_c tw_1_115)) (fun _ h9 => h9) rfl dX1_keptOutput_1 ?_
  refine lv_iload_n hx hb dX1_keptOutput_4 rfl (lv_at hl 1 rfl) ?_
  refine lv_bipush (v := 15) hx hb dX1_keptOutput_5 (by decide) ?_
  refine lv_iand hx hb dX1_keptOutput_7 ?_
  obtain ⟨h_1, hok⟩ := hok
  refine va_iald (f := u.2 12) hx hb hK hP 16 0 rfl rfl h_1 dX1_keptOutput_8 ?_
  have e9 : p_keptOutput u x1 = u.2 12 (x1 &&& 15).toNatClampNeg := by rw [p_keptOutput]
  rw [e9]
  exact W.iret hx hb hr (fun t ht hW => ⟨⟨_, (), rfl, rfl, by rw [ht]; exact hP, va_K.moved hW.alike hK, hD⟩, hS.F ht⟩) hS.2.2 dX1_keptOutput_9
