def p_m_isSound_62 : Nat → St → Int32 → Int32 → Int32
  | 0, _, _, _ => 0
  | n + 1, u, x1, x2 => (if (u.1 1) ≤ x2 then x1 else (if x1 = 0 then p_m_isSound_62 n u 0 (x2 + 1) else (if (u.2 0 x2.toNatClampNeg) = 4 then (if (u.1 1) ≤ (u.2 1 x2.toNatClampNeg) then p_m_isSound_62 n u 0 (x2 + 1) else (if (u.2 0 x2.toNatClampNeg) = 5 then (if (u.1 1) ≤ (u.2 4 x2.toNatClampNeg) then p_m_isSound_62 n u 0 (x2 + 1) else p_m_isSound_62 n u 1 (x2 + 1)) else p_m_isSound_62 n u 1 (x2 + 1))) else (if (u.2 0 x2.toNatClampNeg) = 5 then (if (u.1 1) ≤ (u.2 4 x2.toNatClampNeg) then p_m_isSound_62 n u 0 (x2 + 1) else p_m_isSound_62 n u 1 (x2 + 1)) else p_m_isSound_62 n u 1 (x2 + 1)))))
def ok_m_isSound_62 : Nat → St → Int32 → Int32 → Prop
  | 0, _, _, _ => False
  | n + 1, u, x1, x2 => (((u.1 1) ≤ x2 → (isb x1 ∧ True)) ∧ (¬ (u.1 1) ≤ x2 → ((x1 = 0 → ok_m_isSound_62 n u 0 (x2 + 1)) ∧ (¬ x1 = 0 → (vp_in x2 48 ∧ (((u.2 0 x2.toNatClampNeg) = 4 → (vp_in x2 48 ∧ (((u.1 1) ≤ (u.2 1 x2.toNatClampNeg) → ok_m_isSound_62 n u 0 (x2 + 1)) ∧ (¬ (u.1 1) ≤ (u.2 1 x2.toNatClampNeg) → (vp_in x2 48 ∧ (((u.2 0 x2.toNatClampNeg) = 5 → (vp_in x2 48 ∧ (((u.1 1) ≤ (u.2 4 x2.toNatClampNeg) → ok_m_isSound_62 n u 0 (x2 + 1)) ∧ (¬ (u.1 1) ≤ (u.2 4 x2.toNatClampNeg) → ok_m_isSound_62 n u 1 (x2 + 1))))) ∧ (¬ (u.2 0 x2.toNatClampNeg) = 5 → ok_m_isSound_62 n u 1 (x2 + 1)))))))) ∧ (¬ (u.2 0 x2.toNatClampNeg) = 4 → (vp_in x2 48 ∧ (((u.2 0 x2.toNatClampNeg) = 5 → (vp_in x2 48 ∧ (((u.1 1) ≤ (u.2 4 x2.toNatClampNeg) → ok_m_isSound_62 n u 0 (x2 + 1)) ∧ (¬ (u.1 1) ≤ (u.2 4 x2.toNatClampNeg) → ok_m_isSound_62 n u 1 (x2 + 1))))) ∧ (¬ (u.2 0 x2.toNatClampNeg) = 5 → ok_m_isSound_62 n u 1 (x2 + 1)))))))))))
set_option maxHeartbeats 4000000 in
set_option maxRecDepth 100000 in
theorem w_m_isSound_62 {p : Program} {l : Launch} {e : Env} {s : State} {m : MethodId} {args : Array Value} {below : List Frame} {meth : Method} {c : Code} {D : va_G} {A : Nat → Prop} (am : Nat → Nat) (cI cZ : ClassId) (zz : (Nat → Prop) → State → Heap → Prop) (hzz : Zok zz) (Cx : cxt p s m args meth c cX4_isSound 3 (some .boolean) wsX4_isSound RX4 D vwCl (tyT cI cZ) zz A) : ∀ (n : Nat) (u : St) (x1 x2 : Int32) (H : Heap) (locs : List Loc) (ls : Array Slot), ok_m_isSound_62 n u x1 x2 → va_P D vwCl (wM am cI cZ u) H → va_D A (wM am cI cZ u) → va_S A s.heap H locs → lv_has ls 3 [(0, .ref (am 0)), (1, .int x1), (2, .int x2)] → W p l e ({ frames := 0, cells := 0, slots := 0, locals := 0 } : Room) s m args below meth c H locs 0 0 (MQ below (qqI D vwCl (tyT cI cZ) (wM am cI cZ u) (p_m_isSound_62 n u x1 x2) A) args s 0 0 A) (F0 m 62 ls []) := by
  obtain ⟨hx, hb, hr, hts, hown, hlocks, hml, hK, hA, hZ⟩ := id Cx
  intro n
  induction n with
  | zero =>
    intro u x1 x2 H locs ls hok
    exact False.elim hok
  | succ n ih =>
    intro u x1 x2 H locs ls hok hP hD hS hl
    unfold ok_m_isSound_62 at hok
    refine lv_iload_n hx hb dX4_isSound_62 rfl (lv_at hl 2 rfl) ?_
    refine lv_aload_n hx hb dX4_isSound_63 rfl (lv_at hl 0 rfl) ?_
    refine va_get (ci := 4) (v := .int (u.1 1)) (C := RX4) (T := TX4) (N := 22) hx hb hts (ivX4 _) hown hK hP 0 rfl rfl 1 (by decide) (hts _ (tb_c tw_3_102)) (fun _ h9 => h9) rfl dX4_isSound_64 ?_
    refine lv_icmp_ge (tgt := 132) hx hb dX4_isSound_67 (by decide) (fun c_1 => ?_) (fun c_1 => ?_)
    · have hok := hok.1 c_1
      refine lv_iload_n hx hb dX4_isSound_132 rfl (lv_at hl 1 rfl) ?_
      obtain ⟨h_z, hok⟩ := hok
      have e9 : p_m_isSound_62 (n + 1) u x1 x2 = x1 := by rw [p_m_isSound_62, if_pos c_1]
      rw [e9]
      exact W.zret hx hb hr (isb_n h_z) (fun t ht hW => ⟨⟨_, (), rfl, rfl, by rw [ht]; exact hP, va_K.moved hW.alike hK, hD⟩, hS.F ht⟩) hS.2.2 dX4_isSound_133
    · have hok := hok.2 c_1
      refine lv_iload_n hx hb dX4_isSound_70 rfl (lv_at hl 1 rfl) ?_
      refine lv_if_eq (tgt := 124) hx hb dX4_isSound_71 (by decide) (fun c_2 => ?_) (fun c_2 => ?_)
      · have hok := hok.1 c_2
        refine lv_iconst (v := 0) hx hb dX4_isSound_124 (by decide) ?_
        refine lv_istore_n (lv' := [(1, .int 0), (0, .ref (am 0)), (2, .int x2)]) hx hb dX4_isSound_125 rfl hl (by decide) rfl (fun ls hl => ?_)
        refine lv_iinc (v := x2 + 1) (lv' := [(2, .int (x2 + 1)), (1, .int 0), (0, .ref (am 0))]) hx hb dX4_isSound_126 hl (k := 2) rfl rfl (by decide) rfl (fun ls hl => ?_)
        refine lv_goto (tgt := 62) hx hb dX4_isSound_129 (by decide) ?_
        have e9 : p_m_isSound_62 (n + 1) u x1 x2 = p_m_isSound_62 n u 0 (x2 + 1) := by rw [p_m_isSound_62, if_neg c_1, if_pos c_2]
        rw [e9]
        exact ih u 0 (x2 + 1) _ _ _ hok hP hD hS (lv_sub hl [2, 1, 0] rfl)
      · have hok := hok.2 c_2
        refine lv_aload_n hx hb dX4_isSound_74 rfl (lv_at hl 0 rfl) ?_
        refine va_get (ci := 4) (v := .ref (am 1)) (C := RX4) (T := TX4) (N := 22) hx hb hts (ivX4 _) hown hK hP 0 rfl rfl 2 (by decide) (hts _ (tb_c tw_3_103)) (fun _ h9 => h9) rfl dX4_isSound_75 ?_
        refine lv_iload_n hx hb dX4_isSound_78 rfl (lv_at hl 2 rfl) ?_
        obtain ⟨h_3, hok⟩ := hok
        refine va_iald (f := u.2 0) hx hb hK hP 1 0 rfl rfl h_3 dX4_isSound_79 ?_
        refine lv_iconst (v := 4) hx hb dX4_isSound_80 (by decide) ?_
        refine lv_icmp_ne (tgt := 97) hx hb dX4_isSound_81 (by decide) (fun c_4 => ?_) (fun c_4 => ?_)
        · have hok := hok.2 c_4
          refine lv_aload_n hx hb dX4_isSound_97 rfl (lv_at hl 0 rfl) ?_
          refine va_get (ci := 4) (v := .ref (am 1)) (C := RX4) (T := TX4) (N := 22) hx hb hts (ivX4 _) hown hK hP 0 rfl rfl 2 (by decide) (hts _ (tb_c tw_3_103)) (fun _ h9 => h9) rfl dX4_isSound_98 ?_
          refine lv_iload_n hx hb dX4_isSound_101 rfl (lv_at hl 2 rfl) ?_
          obtain ⟨h_5, hok⟩ := hok
          refine va_iald (f := u.2 0) hx hb hK hP 1 0 rfl rfl h_5 dX4_isSound_102 ?_
          refine lv_iconst (v := 5) hx hb dX4_isSound_103 (by decide) ?_
          refine lv_icmp_ne (tgt := 120) hx hb dX4_isSound_104 (by decide) (fun c_6 => ?_) (fun c_6 => ?_)
          · have hok := hok.2 c_6
            refine lv_iconst (v := 1) hx hb dX4_isSound_120 (by decide) ?_
            refine lv_goto (tgt := 125) hx hb dX4_isSound_121 (by decide) ?_
            refine lv_istore_n (lv' := [(1, .int 1), (0, .ref (am 0)), (2, .int x2)]) hx hb dX4_isSound_125 rfl hl (by decide) rfl (fun ls hl => ?_)
            refine lv_iinc (v := x2 + 1) (lv' := [(2, .int (x2 + 1)), (1, .int 1), (0, .ref (am 0))]) hx hb dX4_isSound_126 hl (k := 2) rfl rfl (by decide) rfl (fun ls hl => ?_)
            refine lv_goto (tgt := 62) hx hb dX4_isSound_129 (by decide) ?_
            have e9 : p_m_isSound_62 (n + 1) u x1 x2 = p_m_isSound_62 n u 1 (x2 + 1) := by rw [p_m_isSound_62, if_neg c_1, if_neg c_2, if_neg c_4, if_neg c_6]
            rw [e9]
            exact ih u 1 (x2 + 1) _ _ _ hok hP hD hS (lv_sub hl [2, 1, 0] rfl)
          · have hok := hok.1 c_6
            refine lv_aload_n hx hb dX4_isSound_107 rfl (lv_at hl 0 rfl) ?_
            refine va_get (ci := 4) (v := .ref (am 5)) (C := RX4) (T := TX4) (N := 22) hx hb hts (ivX4 _) hown hK hP 0 rfl rfl 6 (by decide) (hts _ (tb_c tw_3_107)) (fun _ h9 => h9) rfl dX4_isSound_108 ?_
            refine lv_iload_n hx hb dX4_isSound_111 rfl (lv_at hl 2 rfl) ?_
            obtain ⟨h_7, hok⟩ := hok
            refine va_iald (f := u.2 4) hx hb hK hP 5 0 rfl rfl h_7 dX4_isSound_112 ?_
            refine lv_aload_n hx hb dX4_isSound_113 rfl (lv_at hl 0 rfl) ?_
            refine va_get (ci := 4) (v := .int (u.1 1)) (C := RX4) (T := TX4) (N := 22) hx hb hts (ivX4 _) hown hK hP 0 rfl rfl 1 (by decide) (hts _ (tb_c tw_3_102)) (fun _ h9 => h9) rfl dX4_isSound_114 ?_
            refine lv_icmp_ge (tgt := 124) hx hb dX4_isSound_117 (by decide) (fun c_8 => ?_) (fun c_8 => ?_)
            · have hok := hok.1 c_8
              refine lv_iconst (v := 0) hx hb dX4_isSound_124 (by decide) ?_
              refine lv_istore_n (lv' := [(1, .int 0), (0, .ref (am 0)), (2, .int x2)]) hx hb dX4_isSound_125 rfl hl (by decide) rfl (fun ls hl => ?_)
              refine lv_iinc (v := x2 + 1) (lv' := [(2, .int (x2 + 1)), (1, .int 0), (0, .ref (am 0))]) hx hb dX4_isSound_126 hl (k := 2) rfl rfl (by decide) rfl (fun ls hl => ?_)
              refine lv_goto (tgt := 62) hx hb dX4_isSound_129 (by decide) ?_
              have e9 : p_m_isSound_62 (n + 1) u x1 x2 = p_m_isSound_62 n u 0 (x2 + 1) := by rw [p_m_isSound_62, if_neg c_1, if_neg c_2, if_neg c_4, if_pos c_6, if_pos c_8]
              rw [e9]
              exact ih u 0 (x2 + 1) _ _ _ hok hP hD hS (lv_sub hl [2, 1, 0] rfl)
            · have hok := hok.2 c_8
              refine lv_iconst (v := 1) hx hb dX4_isSound_120 (by decide) ?_
              refine lv_goto (tgt := 125) hx hb dX4_isSound_121 (by decide) ?_
              refine lv_istore_n (lv' := [(1, .int 1), (0, .ref (am 0)), (2, .int x2)]) hx hb dX4_isSound_125 rfl hl (by decide) rfl (fun ls hl => ?_)
              refine lv_iinc (v := x2 + 1) (lv' := [(2, .int (x2 + 1)), (1, .int 1), (0, .ref (am 0))]) hx hb dX4_isSound_126 hl (k := 2) rfl rfl (by decide) rfl (fun ls hl => ?_)
              refine lv_goto (tgt := 62) hx hb dX4_isSound_129 (by decide) ?_
              have e9 : p_m_isSound_62 (n + 1) u x1 x2 = p_m_isSound_62 n u 1 (x2 + 1) := by rw [p_m_isSound_62, if_neg c_1, if_neg c_2, if_neg c_4, if_pos c_6, if_neg c_8]
              rw [e9]
              exact ih u 1 (x2 + 1) _ _ _ hok hP hD hS (lv_sub hl [2, 1, 0] rfl)
        · have hok := hok.1 c_4
          refine lv_aload_n hx hb dX4_isSound_84 rfl (lv_at hl 0 rfl) ?_
          refine va_get (ci := 4) (v := .ref (am 2)) (C := RX4) (T := TX4) (N := 22) hx hb hts (ivX4 _) hown hK hP 0 rfl rfl 3 (by decide) (hts _ (tb_c tw_3_104)) (fun _ h9 => h9) rfl dX4_isSound_85 ?_
          refine lv_iload_n hx hb dX4_isSound_88 rfl (lv_at hl 2 rfl) ?_
          obtain ⟨h_9, hok⟩ := hok
          refine va_iald (f := u.2 1) hx hb hK hP 2 0 rfl rfl h_9 dX4_isSound_89 ?_
          refine lv_aload_n hx hb dX4_isSound_90 rfl (lv_at hl 0 rfl) ?_
          refine va_get (ci := 4) (v := .int (u.1 1)) (C := RX4) (T := TX4) (N := 22) hx hb hts (ivX4 _) hown hK hP 0 rfl rfl 1 (by decide) (hts _ (tb_c tw_3_102)) (fun _ h9 => h9) rfl dX4_isSound_91 ?_
          refine lv_icmp_ge (tgt := 124) hx hb dX4_isSound_94 (by decide) (fun c_10 => ?_) (fun c_10 => ?_)
          · have hok := hok.1 c_10
            refine lv_iconst (v := 0) hx hb dX4_isSound_124 (by decide) ?_
            refine lv_istore_n (lv' := [(1, .int 0), (0, .ref (am 0)), (2, .int x2)]) hx hb dX4_isSound_125 rfl hl (by decide) rfl (fun ls hl => ?_)
            refine lv_iinc (v := x2 + 1) (lv' := [(2, .int (x2 + 1)), (1, .int 0), (0, .ref (am 0))]) hx hb dX4_isSound_126 hl (k := 2) rfl rfl (by decide) rfl (fun ls hl => ?_)
            refine lv_goto (tgt := 62) hx hb dX4_isSound_129 (by decide) ?_
            have e9 : p_m_isSound_62 (n + 1) u x1 x2 = p_m_isSound_62 n u 0 (x2 + 1) := by rw [p_m_isSound_62, if_neg c_1, if_neg c_2, if_pos c_4, if_pos c_10]
            rw [e9]
            exact ih u 0 (x2 + 1) _ _ _ hok hP hD hS (lv_sub hl [2, 1, 0] rfl)
          · have hok := hok.2 c_10
            refine lv_aload_n hx hb dX4_isSound_97 rfl (lv_at hl 0 rfl) ?_
            refine va_get (ci := 4) (v := .ref (am 1)) (C := RX4) (T := TX4) (N := 22) hx hb hts (ivX4 _) hown hK hP 0 rfl rfl 2 (by decide) (hts _ (tb_c tw_3_103)) (fun _ h9 => h9) rfl dX4_isSound_98 ?_
            refine lv_iload_n hx hb dX4_isSound_101 rfl (lv_at hl 2 rfl) ?_
            obtain ⟨h_11, hok⟩ := hok
            refine va_iald (f := u.2 0) hx hb hK hP 1 0 rfl rfl h_11 dX4_isSound_102 ?_
            refine lv_iconst (v := 5) hx hb dX4_isSound_103 (by decide) ?_
            refine lv_icmp_ne (tgt := 120) hx hb dX4_isSound_104 (by decide) (fun c_12 => ?_) (fun c_12 => ?_)
            · have hok := hok.2 c_12
              refine lv_iconst (v := 1) hx hb dX4_isSound_120 (by decide) ?_
              refine lv_goto (tgt := 125) hx hb dX4_isSound_121 (by decide) ?_
              refine lv_istore_n (lv' := [(1, .int 1), (0, .ref (am 0)), (2, .int x2)]) hx hb dX4_isSound_125 rfl hl (by decide) rfl (fun ls hl => ?_)
              refine lv_iinc (v := x2 + 1) (lv' := [(2, .int (x2 + 1)), (1, .int 1), (0, .ref (am 0))]) hx hb dX4_isSound_126 hl (k := 2) rfl rfl (by decide) rfl (fun ls hl => ?_)
              refine lv_goto (tgt := 62) hx hb dX4_isSound_129 (by decide) ?_
              have e9 : p_m_isSound_62 (n + 1) u x1 x2 = p_m_isSound_62 n u 1 (x2 + 1) := by rw [p_m_isSound_62, if_neg c_1, if_neg c_2, if_pos c_4, if_neg c_10, if_neg c_12]
              rw [e9]
              exact ih u 1 (x2 + 1) _ _ _ hok hP hD hS (lv_sub hl [2, 1, 0] rfl)
            · have hok := hok.1 c_12
              refine lv_aload_n hx hb dX4_isSound_107 rfl (lv_at hl 0 rfl) ?_
              refine va_get (ci := 4) (v := .ref (am 5)) (C := RX4) (T := TX4) (N := 22) hx hb hts (ivX4 _) hown hK hP 0 rfl rfl 6 (by decide) (hts _ (tb_c tw_3_107)) (fun _ h9 => h9) rfl dX4_isSound_108 ?_
              refine lv_iload_n hx hb dX4_isSound_111 rfl (lv_at hl 2 rfl) ?_
              obtain ⟨h_13, hok⟩ := hok
              refine va_iald (f := u.2 4) hx hb hK hP 5 0 rfl rfl h_13 dX4_isSound_112 ?_
              refine lv_aload_n hx hb dX4_isSound_113 rfl (lv_at hl 0 rfl) ?_
              refine va_get (ci := 4) (v := .int (u.1 1)) (C := RX4) (T := TX4) (N := 22) hx hb hts (ivX4 _) hown hK hP 0 rfl rfl 1 (by decide) (hts _ (tb_c tw_3_102)) (fun _ h9 => h9) rfl dX4_isSound_114 ?_
              refine lv_icmp_ge (tgt := 124) hx hb dX4_isSound_117 (by decide) (fun c_14 => ?_) (fun c_14 => ?_)
              · have hok := hok.1 c_14
                refine lv_iconst (v := 0) hx hb dX4_isSound_124 (by decide) ?_
                refine lv_istore_n (lv' := [(1, .int 0), (0, .ref (am 0)), (2, .int x2)]) hx hb dX4_isSound_125 rfl hl (by decide) rfl (fun ls hl => ?_)
                refine lv_iinc (v := x2 + 1) (lv' := [(2, .int (x2 + 1)), (1, .int 0), (0, .ref (am 0))]) hx hb dX4_isSound_126 hl (k := 2) rfl rfl (by decide) rfl (fun ls hl => ?_)
                refine lv_goto (tgt := 62) hx hb dX4_isSound_129 (by decide) ?_
                have e9 : p_m_isSound_62 (n + 1) u x1 x2 = p_m_isSound_62 n u 0 (x2 + 1) := by rw [p_m_isSound_62, if_neg c_1, if_neg c_2, if_pos c_4, if_neg c_10, if_pos c_12, if_pos c_14]
                rw [e9]
                exact ih u 0 (x2 + 1) _ _ _ hok hP hD hS (lv_sub hl [2, 1, 0] rfl)
              · have hok := hok.2 c_14
                refine lv_iconst (v := 1) hx hb dX4_isSound_120 (by decide) ?_
                refine lv_goto (tgt := 125) hx hb dX4_isSound_121 (by decide) ?_
                refine lv_istore_n (lv' := [(1, .int 1), (0, .ref (am 0)), (2, .int x2)]) hx hb dX4_isSound_125 rfl hl (by decide) rfl (fun ls hl => ?_)
                refine lv_iinc (v := x2 + 1) (lv' := [(2, .int (x2 + 1)), (1, .int 1), (0, .ref (am 0))]) hx hb dX4_isSound_126 hl (k := 2) rfl rfl (by decide) rfl (fun ls hl => ?_)
                refine lv_goto (tgt := 62) hx hb dX4_isSound_129 (by decide) ?_
                have e9 : p_m_isSound_62 (n + 1) u x1 x2 = p_m_isSound_62 n u 1 (x2 + 1) := by rw [p_m_isSound_62, if_neg c_1, if_neg c_2, if_pos c_4, if_neg c_10, if_pos c_12, if_neg c_14]
                rw [e9]
                exact ih u 1 (x2 + 1) _ _ _ hok hP hD hS (lv_sub hl [2, 1, 0] rfl)
def p_m_isSound (u : St) : Int32 := (if (u.1 1) ≤ 0 then p_m_isSound_62 64 u 0 0 else (if (u.2 0 ((u.1 1) - 1).toNatClampNeg) = 4 then p_m_isSound_62 64 u 1 0 else (if (u.2 0 ((u.1 1) - 1).toNatClampNeg) = 7 then p_m_isSound_62 64 u 1 0 else (if (u.2 0 ((u.1 1) - 1).toNatClampNeg) = 8 then p_m_isSound_62 64 u 1 0 else p_m_isSound_62 64 u 0 0))))
def ok_m_isSound (u : St) : Prop := (((u.1 1) ≤ 0 → ok_m_isSound_62 64 u 0 0) ∧ (¬ (u.1 1) ≤ 0 → (vp_in ((u.1 1) - 1) 48 ∧ (((u.2 0 ((u.1 1) - 1).toNatClampNeg) = 4 → ok_m_isSound_62 64 u 1 0) ∧ (¬ (u.2 0 ((u.1 1) - 1).toNatClampNeg) = 4 → (vp_in ((u.1 1) - 1) 48 ∧ (((u.2 0 ((u.1 1) - 1).toNatClampNeg) = 7 → ok_m_isSound_62 64 u 1 0) ∧ (¬ (u.2 0 ((u.1 1) - 1).toNatClampNeg) = 7 → (vp_in ((u.1 1) - 1) 48 ∧ (((u.2 0 ((u.1 1) - 1).toNatClampNeg) = 8 → ok_m_isSound_62 64 u 1 0) ∧ (¬ (u.2 0 ((u.1 1) - 1).toNatClampNeg) = 8 → ok_m_isSound_62 64 u 0 0)))))))))))
set_option maxHeartbeats 4000000 in
set_option maxRecDepth 100000 in
theorem c_m_isSound (l : Launch) (D : va_G) (am : Nat → Nat) (cI cZ : ClassId) (zz : (Nat → Prop) → State → Heap → Prop) (hzz : Zok zz) (u : St) (hok : ok_m_isSound u) : tfI l D vwCl (tyT cI cZ) zz yX4_isSound wsX4_isSound ({ frames := 0, cells := 0, slots := 0, locals := 0 } : Room) [.ref (am 0)] (wM am cI cZ u) (p_m_isSound u) (wM am cI cZ u) := by
  intro sz
  unfold ok_m_isSound at hok
  refine Met.ofW (cc := cX4_isSound) (maxL := 3) (ret := (some .boolean)) (by decide) rfl ?_
  intro p e s m args below meth c s₁ B hml hv
  obtain ⟨rfl, hsz, hP, hK, hD0, hZ⟩ := hv
  have hx := B.exec
  have hb := B.bytes
  have hr := B.returns
  have hts := atoms_spec (ws := wsX4_isSound) B.pre
  have hown : s.vm.findClass RX4 = some m.cls := findClass_of_methodNamed B.named
  have hlocks := B.notSynchronized
  subst hsz
  have hD := hD0.self (sz := s.heap.size)
  generalize hAe : va_A (wM am cI cZ u) s.heap.size = A at hD hZ ⊢
  have hA : ∀ q : Nat, s.heap.size ≤ q → A q := fun q h => by rw [← hAe]; exact Or.inr h
  have hS : va_S A s.heap s.heap [] := va_S.rf
  have Cx : cxt p s m ([.ref (am 0)] : List Value).toArray meth c cX4_isSound 3 (some .boolean) wsX4_isSound RX4 D vwCl (tyT cI cZ) zz A := ⟨hx, hb, hr, hts, hown, hlocks, hml, hK, hA, hZ⟩
  have hl := lv_entry ([.ref (am 0)]) (n := 3) (Nat.le_of_ble_eq_true rfl)
  rw [lg_entry_eq]
  generalize (lg_sl ([.ref (am 0)]) ++ List.replicate (3 - (lg_sl ([.ref (am 0)])).length) Slot.unset).toArray = ls at hl ⊢
  have hl : lv_has ls 3 [(0, .ref (am 0))] := hl
  refine lv_aload_n hx hb dX4_isSound_0 rfl (lv_at hl 0 rfl) ?_
  refine va_get (ci := 4) (v := .int (u.1 1)) (C := RX4) (T := TX4) (N := 22) hx hb hts (ivX4 _) hown hK hP 0 rfl rfl 1 (by decide) (hts _ (tb_c tw_3_102)) (fun _ h9 => h9) rfl dX4_isSound_1 ?_
  refine lv_if_le (tgt := 58) hx hb dX4_isSound_4 (by decide) (fun c_1 => ?_) (fun c_1 => ?_)
  · have hok := hok.1 c_1
    refine lv_iconst (v := 0) hx hb dX4_isSound_58 (by decide) ?_
    refine lv_istore_n (lv' := [(1, .int 0), (0, .ref (am 0))]) hx hb dX4_isSound_59 rfl hl (by decide) rfl (fun ls hl => ?_)
    refine lv_iconst (v := 0) hx hb dX4_isSound_60 (by decide) ?_
    refine lv_istore_n (lv' := [(2, .int 0), (1, .int 0), (0, .ref (am 0))]) hx hb dX4_isSound_61 rfl hl (by decide) rfl (fun ls hl => ?_)
    have e9 : p_m_isSound u = p_m_isSound_62 64 u 0 0 := by rw [p_m_isSound, if_pos c_1]
    rw [e9]
    exact w_m_isSound_62 am cI cZ zz hzz Cx 64 u 0 0 _ _ _ hok hP hD hS (lv_sub hl [2, 1, 0] rfl)
  · have hok := hok.2 c_1
    refine lv_aload_n hx hb dX4_isSound_7 rfl (lv_at hl 0 rfl) ?_
    refine va_get (ci := 4) (v := .ref (am 1)) (C := RX4) (T := TX4) (N := 22) hx hb hts (ivX4 _) hown hK hP 0 rfl rfl 2 (by decide) (hts _ (tb_c tw_3_103)) (fun _ h9 => h9) rfl dX4_isSound_8 ?_
    refine lv_aload_n hx hb dX4_isSound_11 rfl (lv_at hl 0 rfl) ?_
    refine va_get (ci := 4) (v := .int (u.1 1)) (C := RX4) (T := TX4) (N := 22) hx hb hts (ivX4 _) hown hK hP 0 rfl rfl 1 (by decide) (hts _ (tb_c tw_3_102)) (fun _ h9 => h9) rfl dX4_isSound_12 ?_
    refine lv_iconst (v := 1) hx hb dX4_isSound_15 (by decide) ?_
    refine lv_isub hx hb dX4_isSound_16 ?_
    obtain ⟨h_2, hok⟩ := hok
    refine va_iald (f := u.2 0) hx hb hK hP 1 0 rfl rfl h_2 dX4_isSound_17 ?_
    refine lv_iconst (v := 4) hx hb dX4_isSound_18 (by decide) ?_
    refine lv_icmp_eq (tgt := 54) hx hb dX4_isSound_19 (by decide) (fun c_3 => ?_) (fun c_3 => ?_)
    · have hok := hok.1 c_3
      refine lv_iconst (v := 1) hx hb dX4_isSound_54 (by decide) ?_
      refine lv_goto (tgt := 59) hx hb dX4_isSound_55 (by decide) ?_
      refine lv_istore_n (lv' := [(1, .int 1), (0, .ref (am 0))]) hx hb dX4_isSound_59 rfl hl (by decide) rfl (fun ls hl => ?_)
      refine lv_iconst (v := 0) hx hb dX4_isSound_60 (by decide) ?_
      refine lv_istore_n (lv' := [(2, .int 0), (1, .int 1), (0, .ref (am 0))]) hx hb dX4_isSound_61 rfl hl (by decide) rfl (fun ls hl => ?_)
      have e9 : p_m_isSound u = p_m_isSound_62 64 u 1 0 := by rw [p_m_isSound, if_neg c_1, if_pos c_3]
      rw [e9]
      exact w_m_isSound_62 am cI cZ zz hzz Cx 64 u 1 0 _ _ _ hok hP hD hS (lv_sub hl [2, 1, 0] rfl)
    · have hok := hok.2 c_3
      refine lv_aload_n hx hb dX4_isSound_22 rfl (lv_at hl 0 rfl) ?_
      refine va_get (ci := 4) (v := .ref (am 1)) (C := RX4) (T := TX4) (N := 22) hx hb hts (ivX4 _) hown hK hP 0 rfl rfl 2 (by decide) (hts _ (tb_c tw_3_103)) (fun _ h9 => h9) rfl dX4_isSound_23 ?_
      refine lv_aload_n hx hb dX4_isSound_26 rfl (lv_at hl 0 rfl) ?_
      refine va_get (ci := 4) (v := .int (u.1 1)) (C := RX4) (T := TX4) (N := 22) hx hb hts (ivX4 _) hown hK hP 0 rfl rfl 1 (by decide) (hts _ (tb_c tw_3_102)) (fun _ h9 => h9) rfl dX4_isSound_27 ?_
      refine lv_iconst (v := 1) hx hb dX4_isSound_30 (by decide) ?_
      refine lv_isub hx hb dX4_isSound_31 ?_
      obtain ⟨h_4, hok⟩ := hok
      refine va_iald (f := u.2 0) hx hb hK hP 1 0 rfl rfl h_4 dX4_isSound_32 ?_
      refine lv_bipush (v := 7) hx hb dX4_isSound_33 (by decide) ?_
      refine lv_icmp_eq (tgt := 54) hx hb dX4_isSound_35 (by decide) (fun c_5 => ?_) (fun c_5 => ?_)
      · have hok := hok.1 c_5
        refine lv_iconst (v := 1) hx hb dX4_isSound_54 (by decide) ?_
        refine lv_goto (tgt := 59) hx hb dX4_isSound_55 (by decide) ?_
        refine lv_istore_n (lv' := [(1, .int 1), (0, .ref (am 0))]) hx hb dX4_isSound_59 rfl hl (by decide) rfl (fun ls hl => ?_)
        refine lv_iconst (v := 0) hx hb dX4_isSound_60 (by decide) ?_
        refine lv_istore_n (lv' := [(2, .int 0), (1, .int 1), (0, .ref (am 0))]) hx hb dX4_isSound_61 rfl hl (by decide) rfl (fun ls hl => ?_)
        have e9 : p_m_isSound u = p_m_isSound_62 64 u 1 0 := by rw [p_m_isSound, if_neg c_1, if_neg c_3, if_pos c_5]
        rw [e9]
        exact w_m_isSound_62 am cI cZ zz hzz Cx 64 u 1 0 _ _ _ hok hP hD hS (lv_sub hl [2, 1, 0] rfl)
      · have hok := hok.2 c_5
        refine lv_aload_n hx hb dX4_isSound_38 rfl (lv_at hl 0 rfl) ?_
        refine va_get (ci := 4) (v := .ref (am 1)) (C := RX4) (T := TX4) (N := 22) hx hb hts (ivX4 _) hown hK hP 0 rfl rfl 2 (by decide) (hts _ (tb_c tw_3_103)) (fun _ h9 => h9) rfl dX4_isSound_39 ?_
        refine lv_aload_n hx hb dX4_isSound_42 rfl (lv_at hl 0 rfl) ?_
        refine va_get (ci := 4) (v := .int (u.1 1)) (C := RX4) (T := TX4) (N := 22) hx hb hts (ivX4 _) hown hK hP 0 rfl rfl 1 (by decide) (hts _ (tb_c tw_3_102)) (fun _ h9 => h9) rfl dX4_isSound_43 ?_
        refine lv_iconst (v := 1) hx hb dX4_isSound_46 (by decide) ?_
        refine lv_isub hx hb dX4_isSound_47 ?_
        obtain ⟨h_6, hok⟩ := hok
        refine va_iald (f := u.2 0) hx hb hK hP 1 0 rfl rfl h_6 dX4_isSound_48 ?_
        refine lv_bipush (v := 8) hx hb dX4_isSound_49 (by decide) ?_
        refine lv_icmp_ne (tgt := 58) hx hb dX4_isSound_51 (by decide) (fun c_7 => ?_) (fun c_7 => ?_)
        · have hok := hok.2 c_7
          refine lv_iconst (v := 0) hx hb dX4_isSound_58 (by decide) ?_
          refine lv_istore_n (lv' := [(1, .int 0), (0, .ref (am 0))]) hx hb dX4_isSound_59 rfl hl (by decide) rfl (fun ls hl => ?_)
          refine lv_iconst (v := 0) hx hb dX4_isSound_60 (by decide) ?_
          refine lv_istore_n (lv' := [(2, .int 0), (1, .int 0), (0, .ref (am 0))]) hx hb dX4_isSound_61 rfl hl (by decide) rfl (fun ls hl => ?_)
          have e9 : p_m_isSound u = p_m_isSound_62 64 u 0 0 := by rw [p_m_isSound, if_neg c_1, if_neg c_3, if_neg c_5, if_neg c_7]
          rw [e9]
          exact w_m_isSound_62 am cI cZ zz hzz Cx 64 u 0 0 _ _ _ hok hP hD hS (lv_sub hl [2, 1, 0] rfl)
        · have hok := hok.1 c_7
          refine lv_iconst (v := 1) hx hb dX4_isSound_54 (by decide) ?_
          refine lv_goto (tgt := 59) hx hb dX4_isSound_55 (by decide) ?_
          refine lv_istore_n (lv' := [(1, .int 1), (0, .ref (am 0))]) hx hb dX4_isSound_59 rfl hl (by decide) rfl (fun ls hl => ?_)
          refine lv_iconst (v := 0) hx hb dX4_isSound_60 (by decide) ?_
          refine lv_istore_n (lv' := [(2, .int 0), (1, .int 1), (0, .ref (am 0))]) hx hb dX4_isSound_61 rfl hl (by decide) rfl (fun ls hl => ?_)
          have e9 : p_m_isSound u = p_m_isSound_62 64 u 1 0 := by rw [p_m_isSound, if_neg c_1, if_neg c_3, if_neg c_5, if_pos c_7]
          rw [e9]
          exact w_m_isSound_62 am cI cZ zz hzz Cx 64 u 1 0 _ _ _ hok hP hD hS (lv_sub hl [2, 1, 0] rfl)

def p_m_forge_109 : Nat → St → Int32 → Int32 × St
  | 0, u, _ => (0, u)
  | n + 1, u, x1 => (if (u.1 4) ≤ x1 then (u.1 3, sS (sS u 2 1) 6 0) else p_m_forge_109 n (p_m_emit (p_m_emit u ((u.2 9 x1.toNatClampNeg) &&& 65535)) (ush ((p_m_emit u ((u.2 9 x1.toNatClampNeg) &&& 65535)).2 9 x1.toNatClampNeg) 16)) (x1 + 1))
def ok_m_forge_109 : Nat → St → Int32 → Prop
  | 0, _, _ => False
  | n + 1, u, x1 => (((u.1 4) ≤ x1 → True) ∧ (¬ (u.1 4) ≤ x1 → (vp_in x1 49 ∧ (ok_m_emit u ((u.2 9 x1.toNatClampNeg) &&& 65535) ∧ (vp_in x1 49 ∧ (ok_m_emit (p_m_emit u ((u.2 9 x1.toNatClampNeg) &&& 65535)) (ush ((p_m_emit u ((u.2 9 x1.toNatClampNeg) &&& 65535)).2 9 x1.toNatClampNeg) 16) ∧ ok_m_forge_109 n (p_m_emit (p_m_emit u ((u.2 9 x1.toNatClampNeg) &&& 65535)) (ush ((p_m_emit u ((u.2 9 x1.toNatClampNeg) &&& 65535)).2 9 x1.toNatClampNeg) 16)) (x1 + 1)))))))
set_option maxHeartbeats 4000000 in
set_option maxRecDepth 100000 in
theorem w_m_forge_109 {p : Program} {l : Launch} {e : Env} {s : State} {m : MethodId} {args : Array Value} {below : List Frame} {meth : Method} {c : Code} {D : va_G} {A : Nat → Prop} (am : Nat → Nat) (cI cZ : ClassId) (zz : (Nat → Prop) → State → Heap → Prop) (hzz : Zok zz) (Cx : cxt p s m args meth c cX4_forge 2 (some .int) wsX4_forge RX4 D vwCl (tyT cI cZ) zz A) : ∀ (n : Nat) (u : St) (x1 : Int32) (H : Heap) (locs : List Loc) (ls : Array Slot), ok_m_forge_109 n u x1 → va_P D vwCl (wM am cI cZ u) H → va_D A (wM am cI cZ u) → va_S A s.heap H locs → lv_has ls 2 [(0, .ref (am 0)), (1, .int x1)] → W p l e ({ frames := 6, cells := 0, slots := 0, locals := 128 } : Room) s m args below meth c H locs 0 0 (MQ below (qqI D vwCl (tyT cI cZ) (wM am cI cZ ((p_m_forge_109 n u x1).2)) (p_m_forge_109 n u x1).1 A) args s 0 0 A) (F0 m 109 ls []) := by
  obtain ⟨hx, hb, hr, hts, hown, hlocks, hml, hK, hA, hZ⟩ := id Cx
  intro n
  induction n with
  | zero =>
    intro u x1 H locs ls hok
    exact False.elim hok
  | succ n ih =>
    intro u x1 H locs ls hok hP hD hS hl
    unfold ok_m_forge_109 at hok
    refine lv_iload_n hx hb dX4_forge_109 rfl (lv_at hl 1 rfl) ?_
    refine lv_aload_n hx hb dX4_forge_110 rfl (lv_at hl 0 rfl) ?_
    refine va_get (ci := 4) (v := .int (u.1 4)) (C := RX4) (T := TX4) (N := 22) hx hb hts (ivX4 _) hown hK hP 0 rfl rfl 13 (by decide) (hts _ (tb_c tw_3_114)) (fun _ h9 => h9) rfl dX4_forge_111 ?_
    refine lv_icmp_ge (tgt := 149) hx hb dX4_forge_114 (by decide) (fun c_1 => ?_) (fun c_1 => ?_)
    · have hok := hok.1 c_1
      refine lv_aload_n hx hb dX4_forge_149 rfl (lv_at hl 0 rfl) ?_
      refine lv_iconst (v := 1) hx hb dX4_forge_150 (by decide) ?_
      refine va_put (ci := 4) (v := .int 1) (ty := .boolean) (C := RX4) (T := TX4) (N := 22) hx hb hts (ivX4 _) tyX4 tyX4_ok nmX4 hown hK hP hD hS 0 rfl rfl 8 (by decide) (hts _ (tb_c tw_3_109)) (fun _ h9 => h9) rfl (by decide +kernel) rfl rfl (Nat.le_of_ble_eq_true rfl) dX4_forge_151 (fun H locs hP hD hS => ?_)
      have hP : va_P D vwCl (wM am cI cZ (sS u 2 1)) H := hP
      have hD : va_D A (wM am cI cZ (sS u 2 1)) := hD
      refine lv_aload_n hx hb dX4_forge_154 rfl (lv_at hl 0 rfl) ?_
      refine lv_iconst (v := 0) hx hb dX4_forge_155 (by decide) ?_
      refine va_put (ci := 4) (v := .int 0) (ty := .int) (C := RX4) (T := TX4) (N := 22) hx hb hts (ivX4 _) tyX4 tyX4_ok nmX4 hown hK hP hD hS 0 rfl rfl 16 (by decide) (hts _ (tb_c tw_3_117)) (fun _ h9 => h9) rfl (by decide +kernel) rfl rfl (Nat.le_of_ble_eq_true rfl) dX4_forge_156 (fun H locs hP hD hS => ?_)
      have hP : va_P D vwCl (wM am cI cZ (sS (sS u 2 1) 6 0)) H := hP
      have hD : va_D A (wM am cI cZ (sS (sS u 2 1) 6 0)) := hD
      refine lv_aload_n hx hb dX4_forge_159 rfl (lv_at hl 0 rfl) ?_
      refine va_get (ci := 4) (v := .int (u.1 3)) (C := RX4) (T := TX4) (N := 22) hx hb hts (ivX4 _) hown hK hP 0 rfl rfl 9 (by decide) (hts _ (tb_c tw_3_110)) (fun _ h9 => h9) rfl dX4_forge_160 ?_
      have e9 : p_m_forge_109 (n + 1) u x1 = (u.1 3, sS (sS u 2 1) 6 0) := by rw [p_m_forge_109, if_pos c_1]
      rw [e9]
      exact W.iret hx hb hr (fun t ht hW => ⟨⟨_, (), rfl, rfl, by rw [ht]; exact hP, va_K.moved hW.alike hK, hD⟩, hS.F ht⟩) hS.2.2 dX4_forge_163
    · have hok := hok.2 c_1
      refine lv_aload_n hx hb dX4_forge_117 rfl (lv_at hl 0 rfl) ?_
      refine lv_aload_n hx hb dX4_forge_118 rfl (lv_at hl 0 rfl) ?_
      refine va_get (ci := 4) (v := .ref (am 10)) (C := RX4) (T := TX4) (N := 22) hx hb hts (ivX4 _) hown hK hP 0 rfl rfl 14 (by decide) (hts _ (tb_c tw_3_115)) (fun _ h9 => h9) rfl dX4_forge_119 ?_
      refine lv_iload_n hx hb dX4_forge_122 rfl (lv_at hl 1 rfl) ?_
      obtain ⟨h_2, hok⟩ := hok
      refine va_iald (f := u.2 9) hx hb hK hP 10 0 rfl rfl h_2 dX4_forge_123 ?_
      refine lv_ldc (v := 65535) hx hb hown (hts _ (tb_c tw_4_72)) dX4_forge_124 ?_
      refine lv_iand hx hb dX4_forge_126 ?_
      obtain ⟨h_3, hok⟩ := hok
      refine k_callVv (As := [.int ((u.2 9 x1.toNatClampNeg) &&& 65535)]) (rest := []) hzz ⟨hx, hb, hml, hown, hts⟩ (c_m_emit l D am cI cZ zz hzz u ((u.2 9 x1.toNatClampNeg) &&& 65535) h_3) (cwV 1 hts (tb_V tw_4_19 tw_4_21 slX4_emit tw_1_5 tw_4_22) rfl rfl rfl (by decide +kernel) ⟨Nat.le_of_ble_eq_true rfl, Nat.le_of_ble_eq_true rfl⟩) (va_recv hK hP (ci := 4) (q0 := 0) rfl rfl) rfl hl.1 rfl (lv_room (Nat.le_of_ble_eq_true rfl)) dX4_forge_127 ⟨Nat.le_of_ble_eq_true rfl, Nat.le_of_ble_eq_true rfl⟩ hP hK hD hS hA hZ (fun H locs hP hD hS => ?_)
      generalize eu_4 : p_m_emit u ((u.2 9 x1.toNatClampNeg) &&& 65535) = u_4 at hP hD ⊢
      try rw [eu_4] at hok
      refine lv_aload_n hx hb dX4_forge_130 rfl (lv_at hl 0 rfl) ?_
      refine lv_aload_n hx hb dX4_forge_131 rfl (lv_at hl 0 rfl) ?_
      refine va_get (ci := 4) (v := .ref (am 10)) (C := RX4) (T := TX4) (N := 22) hx hb hts (ivX4 _) hown hK hP 0 rfl rfl 14 (by decide) (hts _ (tb_c tw_3_115)) (fun _ h9 => h9) rfl dX4_forge_132 ?_
      refine lv_iload_n hx hb dX4_forge_135 rfl (lv_at hl 1 rfl) ?_
      obtain ⟨h_5, hok⟩ := hok
      refine va_iald (f := u_4.2 9) hx hb hK hP 10 0 rfl rfl h_5 dX4_forge_136 ?_
      refine lv_bipush (v := 16) hx hb dX4_forge_137 (by decide) ?_
      refine lv_iushr (v := ush (u_4.2 9 x1.toNatClampNeg) 16) hx hb dX4_forge_139 rfl ?_
      obtain ⟨h_6, hok⟩ := hok
      refine k_callVv (As := [.int (ush (u_4.2 9 x1.toNatClampNeg) 16)]) (rest := []) hzz ⟨hx, hb, hml, hown, hts⟩ (c_m_emit l D am cI cZ zz hzz u_4 (ush (u_4.2 9 x1.toNatClampNeg) 16) h_6) (cwV 1 hts (tb_V tw_4_19 tw_4_21 slX4_emit tw_1_5 tw_4_22) rfl rfl rfl (by decide +kernel) ⟨Nat.le_of_ble_eq_true rfl, Nat.le_of_ble_eq_true rfl⟩) (va_recv hK hP (ci := 4) (q0 := 0) rfl rfl) rfl hl.1 rfl (lv_room (Nat.le_of_ble_eq_true rfl)) dX4_forge_140 ⟨Nat.le_of_ble_eq_true rfl, Nat.le_of_ble_eq_true rfl⟩ hP hK hD hS hA hZ (fun H locs hP hD hS => ?_)
      generalize eu_7 : p_m_emit u_4 (ush (u_4.2 9 x1.toNatClampNeg) 16) = u_7 at hP hD ⊢
      try rw [eu_7] at hok
      refine lv_iinc (v := x1 + 1) (lv' := [(1, .int (x1 + 1)), (0, .ref (am 0))]) hx hb dX4_forge_143 hl (k := 1) rfl rfl (by decide) rfl (fun ls hl => ?_)
      refine lv_goto (tgt := 109) hx hb dX4_forge_146 (by decide) ?_
      have e9 : p_m_forge_109 (n + 1) u x1 = p_m_forge_109 n u_7 (x1 + 1) := by
        subst eu_7
        subst eu_4
        rw [p_m_forge_109, if_neg c_1]
      rw [e9]
      exact ih u_7 (x1 + 1) _ _ _ hok hP hD hS (lv_sub hl [1, 0] rfl)
def p_m_forge_73 : Nat → St → Int32 → Int32 × St
  | 0, u, _ => (0, u)
  | n + 1, u, x1 => (if (u.1 1) ≤ x1 then (if ((u.1 3) - (u.1 3) / 2 * 2) = 1 then p_m_forge_109 64 (p_m_emit u 0) 0 else p_m_forge_109 64 u 0) else p_m_forge_73 n (p_m_emitInstruction u x1) (x1 + 1))
def ok_m_forge_73 : Nat → St → Int32 → Prop
  | 0, _, _ => False
  | n + 1, u, x1 => (((u.1 1) ≤ x1 → ((((u.1 3) - (u.1 3) / 2 * 2) = 1 → (ok_m_emit u 0 ∧ ok_m_forge_109 64 (p_m_emit u 0) 0)) ∧ (¬ ((u.1 3) - (u.1 3) / 2 * 2) = 1 → ok_m_forge_109 64 u 0))) ∧ (¬ (u.1 1) ≤ x1 → (ok_m_emitInstruction u x1 ∧ ok_m_forge_73 n (p_m_emitInstruction u x1) (x1 + 1))))
set_option maxHeartbeats 4000000 in
set_option maxRecDepth 100000 in
theorem w_m_forge_73 {p : Program} {l : Launch} {e : Env} {s : State} {m : MethodId} {args : Array Value} {below : List Frame} {meth : Method} {c : Code} {D : va_G} {A : Nat → Prop} (am : Nat → Nat) (cI cZ : ClassId) (zz : (Nat → Prop) → State → Heap → Prop) (hzz : Zok zz) (Cx : cxt p s m args meth c cX4_forge 2 (some .int) wsX4_forge RX4 D vwCl (tyT cI cZ) zz A) : ∀ (n : Nat) (u : St) (x1 : Int32) (H : Heap) (locs : List Loc) (ls : Array Slot), ok_m_forge_73 n u x1 → va_P D vwCl (wM am cI cZ u) H → va_D A (wM am cI cZ u) → va_S A s.heap H locs → lv_has ls 2 [(0, .ref (am 0)), (1, .int x1)] → W p l e ({ frames := 6, cells := 0, slots := 0, locals := 128 } : Room) s m args below meth c H locs 0 0 (MQ below (qqI D vwCl (tyT cI cZ) (wM am cI cZ ((p_m_forge_73 n u x1).2)) (p_m_forge_73 n u x1).1 A) args s 0 0 A) (F0 m 73 ls []) := by
  obtain ⟨hx, hb, hr, hts, hown, hlocks, hml, hK, hA, hZ⟩ := id Cx
  intro n
  induction n with
  | zero =>
    intro u x1 H locs ls hok
    exact False.elim hok
  | succ n ih =>
    intro u x1 H locs ls hok hP hD hS hl
    unfold ok_m_forge_73 at hok
    refine lv_iload_n hx hb dX4_forge_73 rfl (lv_at hl 1 rfl) ?_
    refine lv_aload_n hx hb dX4_forge_74 rfl (lv_at hl 0 rfl) ?_
    refine va_get (ci := 4) (v := .int (u.1 1)) (C := RX4) (T := TX4) (N := 22) hx hb hts (ivX4 _) hown hK hP 0 rfl rfl 1 (by decide) (hts _ (tb_c tw_3_102)) (fun _ h9 => h9) rfl dX4_forge_75 ?_
    refine lv_icmp_ge (tgt := 92) hx hb dX4_forge_78 (by decide) (fun c_1 => ?_) (fun c_1 => ?_)
    · have hok := hok.1 c_1
      refine lv_aload_n hx hb dX4_forge_92 rfl (lv_at hl 0 rfl) ?_
      refine va_get (ci := 4) (v := .int (u.1 3)) (C := RX4) (T := TX4) (N := 22) hx hb hts (ivX4 _) hown hK hP 0 rfl rfl 9 (by decide) (hts _ (tb_c tw_3_110)) (fun _ h9 => h9) rfl dX4_forge_93 ?_
      refine lv_iconst (v := 2) hx hb dX4_forge_96 (by decide) ?_
      refine lv_irem hx hb dX4_forge_97 (by decide) ?_
      refine lv_iconst (v := 1) hx hb dX4_forge_98 (by decide) ?_
      refine lv_icmp_ne (tgt := 107) hx hb dX4_forge_99 (by decide) (fun c_2 => ?_) (fun c_2 => ?_)
      · have hok := hok.2 c_2
        refine lv_iconst (v := 0) hx hb dX4_forge_107 (by decide) ?_
        refine lv_istore_n (lv' := [(1, .int 0), (0, .ref (am 0))]) hx hb dX4_forge_108 rfl hl (by decide) rfl (fun ls hl => ?_)
        have e9 : p_m_forge_73 (n + 1) u x1 = p_m_forge_109 64 u 0 := by rw [p_m_forge_73, if_pos c_1, if_neg c_2]
        rw [e9]
        exact w_m_forge_109 am cI cZ zz hzz Cx 64 u 0 _ _ _ hok hP hD hS (lv_sub hl [1, 0] rfl)
      · have hok := hok.1 c_2
        refine lv_aload_n hx hb dX4_forge_102 rfl (lv_at hl 0 rfl) ?_
        refine lv_iconst (v := 0) hx hb dX4_forge_103 (by decide) ?_
        obtain ⟨h_3, hok⟩ := hok
        refine k_callVv (As := [.int 0]) (rest := []) hzz ⟨hx, hb, hml, hown, hts⟩ (c_m_emit l D am cI cZ zz hzz u 0 h_3) (cwV 1 hts (tb_V tw_4_19 tw_4_21 slX4_emit tw_1_5 tw_4_22) rfl rfl rfl (by decide +kernel) ⟨Nat.le_of_ble_eq_true rfl, Nat.le_of_ble_eq_true rfl⟩) (va_recv hK hP (ci := 4) (q0 := 0) rfl rfl) rfl hl.1 rfl (lv_room (Nat.le_of_ble_eq_true rfl)) dX4_forge_104 ⟨Nat.le_of_ble_eq_true rfl, Nat.le_of_ble_eq_true rfl⟩ hP hK hD hS hA hZ (fun H locs hP hD hS => ?_)
        generalize eu_4 : p_m_emit u 0 = u_4 at hP hD ⊢
        try rw [eu_4] at hok
        refine lv_iconst (v := 0) hx hb dX4_forge_107 (by decide) ?_
        refine lv_istore_n (lv' := [(1, .int 0), (0, .ref (am 0))]) hx hb dX4_forge_108 rfl hl (by decide) rfl (fun ls hl => ?_)
        have e9 : p_m_forge_73 (n + 1) u x1 = p_m_forge_109 64 u_4 0 := by
          subst eu_4
          rw [p_m_forge_73, if_pos c_1, if_pos c_2]
        rw [e9]
        exact w_m_forge_109 am cI cZ zz hzz Cx 64 u_4 0 _ _ _ hok hP hD hS (lv_sub hl [1, 0] rfl)
    · have hok := hok.2 c_1
      refine lv_aload_n hx hb dX4_forge_81 rfl (lv_at hl 0 rfl) ?_
      refine lv_iload_n hx hb dX4_forge_82 rfl (lv_at hl 1 rfl) ?_
      obtain ⟨h_5, hok⟩ := hok
      refine k_callVv (As := [.int x1]) (rest := []) hzz ⟨hx, hb, hml, hown, hts⟩ (c_m_emitInstruction l D am cI cZ zz hzz u x1 h_5) (cwV 1 hts (tb_V tw_4_23 tw_4_25 slX4_emitInstruction tw_1_5 tw_4_26) rfl rfl rfl (by decide +kernel) ⟨Nat.le_of_ble_eq_true rfl, Nat.le_of_ble_eq_true rfl⟩) (va_recv hK hP (ci := 4) (q0 := 0) rfl rfl) rfl hl.1 rfl (lv_room (Nat.le_of_ble_eq_true rfl)) dX4_forge_83 ⟨Nat.le_of_ble_eq_true rfl, Nat.le_of_ble_eq_true rfl⟩ hP hK hD hS hA hZ (fun H locs hP hD hS => ?_)
      generalize eu_6 : p_m_emitInstruction u x1 = u_6 at hP hD ⊢
      try rw [eu_6] at hok
      refine lv_iinc (v := x1 + 1) (lv' := [(1, .int (x1 + 1)), (0, .ref (am 0))]) hx hb dX4_forge_86 hl (k := 1) rfl rfl (by decide) rfl (fun ls hl => ?_)
      refine lv_goto (tgt := 73) hx hb dX4_forge_89 (by decide) ?_
      have e9 : p_m_forge_73 (n + 1) u x1 = p_m_forge_73 n u_6 (x1 + 1) := by
        subst eu_6
        rw [p_m_forge_73, if_neg c_1]
      rw [e9]
      exact ih u_6 (x1 + 1) _ _ _ hok hP hD hS (lv_sub hl [1, 0] rfl)
def p_m_forge (u : St) : Int32 × St := (if (p_m_isSound u) = 0 then (0, sS u 0 1) else p_m_forge_73 64 (p_m_literal (sS (sS (sS (p_m_lengthen (sS u 0 0)) 3 0) 4 0) 5 (((p_m_lengthen (sS u 0 0)).2 7 ((p_m_lengthen (sS u 0 0)).1 1).toNatClampNeg) + (((p_m_lengthen (sS u 0 0)).2 7 ((p_m_lengthen (sS u 0 0)).1 1).toNatClampNeg) - ((p_m_lengthen (sS u 0 0)).2 7 ((p_m_lengthen (sS u 0 0)).1 1).toNatClampNeg) / 2 * 2))) 3 536870912) 0)
def ok_m_forge (u : St) : Prop := (ok_m_isSound u ∧ (((p_m_isSound u) = 0 → True) ∧ (¬ (p_m_isSound u) = 0 → (ok_m_lengthen (sS u 0 0) ∧ (vp_in ((p_m_lengthen (sS u 0 0)).1 1) 49 ∧ (vp_in ((p_m_lengthen (sS u 0 0)).1 1) 49 ∧ (ok_m_literal (sS (sS (sS (p_m_lengthen (sS u 0 0)) 3 0) 4 0) 5 (((p_m_lengthen (sS u 0 0)).2 7 ((p_m_lengthen (sS u 0 0)).1 1).toNatClampNeg) + (((p_m_lengthen (sS u 0 0)).2 7 ((p_m_lengthen (sS u 0 0)).1 1).toNatClampNeg) - ((p_m_lengthen (sS u 0 0)).2 7 ((p_m_lengthen (sS u 0 0)).1 1).toNatClampNeg) / 2 * 2))) 3 536870912 ∧ ok_m_forge_73 64 (p_m_literal (sS (sS (sS (p_m_lengthen (sS u 0 0)) 3 0) 4 0) 5 (((p_m_lengthen (sS u 0 0)).2 7 ((p_m_lengthen (sS u 0 0)).1 1).toNatClampNeg) + (((p_m_lengthen (sS u 0 0)).2 7 ((p_m_lengthen (sS u 0 0)).1 1).toNatClampNeg) - ((p_m_lengthen (sS u 0 0)).2 7 ((p_m_lengthen (sS u 0 0)).1 1).toNatClampNeg) / 2 * 2))) 3 536870912) 0)))))))
set_option maxHeartbeats 4000000 in
set_option maxRecDepth 100000 in
theorem c_m_forge (l : Launch) (D : va_G) (am : Nat → Nat) (cI cZ : ClassId) (zz : (Nat → Prop) → State → Heap → Prop) (hzz : Zok zz) (u : St) (hok : ok_m_forge u) : tfI l D vwCl (tyT cI cZ) zz yX4_forge wsX4_forge ({ frames := 6, cells := 0, slots := 0, locals := 128 } : Room) [.ref (am 0)] (wM am cI cZ u) (p_m_forge u).1 (wM am cI cZ ((p_m_forge u).2)) := by
  intro sz
  unfold ok_m_forge at hok
  refine Met.ofW (cc := cX4_forge) (maxL := 2) (ret := (some .int)) (by decide) rfl ?_
  intro p e s m args below meth c s₁ B hml hv
  obtain ⟨rfl, hsz, hP, hK, hD0, hZ⟩ := hv
  have hx := B.exec
  have hb := B.bytes
  have hr := B.returns
  have hts := atoms_spec (ws := wsX4_forge) B.pre
  have hown : s.vm.findClass RX4 = some m.cls := findClass_of_methodNamed B.named
  have hlocks := B.notSynchronized
  subst hsz
  have hD := hD0.self (sz := s.heap.size)
  generalize hAe : va_A (wM am cI cZ u) s.heap.size = A at hD hZ ⊢
  have hA : ∀ q : Nat, s.heap.size ≤ q → A q := fun q h => by rw [← hAe]; exact Or.inr h
  have hS : va_S A s.heap s.heap [] := va_S.rf
  have Cx : cxt p s m ([.ref (am 0)] : List Value).toArray meth c cX4_forge 2 (some .int) wsX4_forge RX4 D vwCl (tyT cI cZ) zz A := ⟨hx, hb, hr, hts, hown, hlocks, hml, hK, hA, hZ⟩
  have hl := lv_entry ([.ref (am 0)]) (n := 2) (Nat.le_of_ble_eq_true rfl)
  rw [lg_entry_eq]
  generalize (lg_sl ([.ref (am 0)]) ++ List.replicate (2 - (lg_sl ([.ref (am 0)])).length) Slot.unset).toArray = ls at hl ⊢
  have hl : lv_has ls 2 [(0, .ref (am 0))] := hl
  refine lv_aload_n hx hb dX4_forge_0 rfl (lv_at hl 0 rfl) ?_
  refine lv_aload_n hx hb dX4_forge_1 rfl (lv_at hl 0 rfl) ?_
  obtain ⟨h_1, hok⟩ := hok
  refine k_callVi (As := []) (rest := [.ref (am 0)]) hzz ⟨hx, hb, hml, hown, hts⟩ (c_m_isSound l D am cI cZ zz hzz u h_1) (cwV 0 hts (tb_V tw_3_222 tw_3_224 slX4_isSound tw_1_5 tw_3_225) rfl rfl rfl (by decide +kernel) ⟨Nat.le_of_ble_eq_true rfl, Nat.le_of_ble_eq_true rfl⟩) (va_recv hK hP (ci := 4) (q0 := 0) rfl rfl) rfl hl.1 rfl (lv_room (Nat.le_of_ble_eq_true rfl)) dX4_forge_2 ⟨Nat.le_of_ble_eq_true rfl, Nat.le_of_ble_eq_true rfl⟩ hP hK hD hS hA hZ (fun H locs hP hD hS => ?_)
  refine lv_if_eq (tgt := 12) hx hb dX4_forge_5 (by decide) (fun c_2 => ?_) (fun c_2 => ?_)
  · have hok := hok.1 c_2
    refine lv_iconst (v := 1) hx hb dX4_forge_12 (by decide) ?_
    refine va_put (ci := 4) (v := .int 1) (ty := .int) (C := RX4) (T := TX4) (N := 22) hx hb hts (ivX4 _) tyX4 tyX4_ok nmX4 hown hK hP hD hS 0 rfl rfl 0 (by decide) (hts _ (tb_c tw_3_101)) (fun _ h9 => h9) rfl (by decide +kernel) rfl rfl (Nat.le_of_ble_eq_true rfl) dX4_forge_13 (fun H locs hP hD hS => ?_)
    have hP : va_P D vwCl (wM am cI cZ (sS u 0 1)) H := hP
    have hD : va_D A (wM am cI cZ (sS u 0 1)) := hD
    refine lv_aload_n hx hb dX4_forge_16 rfl (lv_at hl 0 rfl) ?_
    refine va_get (ci := 4) (v := .int 1) (C := RX4) (T := TX4) (N := 22) hx hb hts (ivX4 _) hown hK hP 0 rfl rfl 0 (by decide) (hts _ (tb_c tw_3_101)) (fun _ h9 => h9) rfl dX4_forge_17 ?_
    refine lv_if_le (tgt := 25) hx hb dX4_forge_20 (by decide) (fun c_3 => absurd c_3 (by decide)) (fun c_3 => ?_)
    refine lv_iconst (v := 0) hx hb dX4_forge_23 (by decide) ?_
    have e9 : p_m_forge u = (0, sS u 0 1) := by rw [p_m_forge, if_pos c_2]
    rw [e9]
    exact W.iret hx hb hr (fun t ht hW => ⟨⟨_, (), rfl, rfl, by rw [ht]; exact hP, va_K.moved hW.alike hK, hD⟩, hS.F ht⟩) hS.2.2 dX4_forge_24
  · have hok := hok.2 c_2
    refine lv_iconst (v := 0) hx hb dX4_forge_8 (by decide) ?_
    refine lv_goto (tgt := 13) hx hb dX4_forge_9 (by decide) ?_
    refine va_put (ci := 4) (v := .int 0) (ty := .int) (C := RX4) (T := TX4) (N := 22) hx hb hts (ivX4 _) tyX4 tyX4_ok nmX4 hown hK hP hD hS 0 rfl rfl 0 (by decide) (hts _ (tb_c tw_3_101)) (fun _ h9 => h9) rfl (by decide +kernel) rfl rfl (Nat.le_of_ble_eq_true rfl) dX4_forge_13 (fun H locs hP hD hS => ?_)
    have hP : va_P D vwCl (wM am cI cZ (sS u 0 0)) H := hP
    have hD : va_D A (wM am cI cZ (sS u 0 0)) := hD
    refine lv_aload_n hx hb dX4_forge_16 rfl (lv_at hl 0 rfl) ?_
    refine va_get (ci := 4) (v := .int 0) (C := RX4) (T := TX4) (N := 22) hx hb hts (ivX4 _) hown hK hP 0 rfl rfl 0 (by decide) (hts _ (tb_c tw_3_101)) (fun _ h9 => h9) rfl dX4_forge_17 ?_
    refine lv_if_le (tgt := 25) hx hb dX4_forge_20 (by decide) (fun c_4 => ?_) (fun c_4 => absurd c_4 (by decide))
    refine lv_aload_n hx hb dX4_forge_25 rfl (lv_at hl 0 rfl) ?_
    obtain ⟨h_5, hok⟩ := hok
    refine k_callVv (As := []) (rest := []) hzz ⟨hx, hb, hml, hown, hts⟩ (c_m_lengthen l D am cI cZ zz hzz (sS u 0 0) h_5) (cwV 0 hts (tb_V tw_3_226 tw_3_228 slX4_lengthen tw_1_5 tw_3_229) rfl rfl rfl (by decide +kernel) ⟨Nat.le_of_ble_eq_true rfl, Nat.le_of_ble_eq_true rfl⟩) (va_recv hK hP (ci := 4) (q0 := 0) rfl rfl) rfl hl.1 rfl (lv_room (Nat.le_of_ble_eq_true rfl)) dX4_forge_26 ⟨Nat.le_of_ble_eq_true rfl, Nat.le_of_ble_eq_true rfl⟩ hP hK hD hS hA hZ (fun H locs hP hD hS => ?_)
    generalize eu_6 : p_m_lengthen (sS u 0 0) = u_6 at hP hD ⊢
    try rw [eu_6] at hok
    refine lv_aload_n hx hb dX4_forge_29 rfl (lv_at hl 0 rfl) ?_
    refine lv_iconst (v := 0) hx hb dX4_forge_30 (by decide) ?_
    refine va_put (ci := 4) (v := .int 0) (ty := .int) (C := RX4) (T := TX4) (N := 22) hx hb hts (ivX4 _) tyX4 tyX4_ok nmX4 hown hK hP hD hS 0 rfl rfl 9 (by decide) (hts _ (tb_c tw_3_110)) (fun _ h9 => h9) rfl (by decide +kernel) rfl rfl (Nat.le_of_ble_eq_true rfl) dX4_forge_31 (fun H locs hP hD hS => ?_)
    have hP : va_P D vwCl (wM am cI cZ (sS u_6 3 0)) H := hP
    have hD : va_D A (wM am cI cZ (sS u_6 3 0)) := hD
    refine lv_aload_n hx hb dX4_forge_34 rfl (lv_at hl 0 rfl) ?_
    refine lv_iconst (v := 0) hx hb dX4_forge_35 (by decide) ?_
    refine va_put (ci := 4) (v := .int 0) (ty := .int) (C := RX4) (T := TX4) (N := 22) hx hb hts (ivX4 _) tyX4 tyX4_ok nmX4 hown hK hP hD hS 0 rfl rfl 13 (by decide) (hts _ (tb_c tw_3_114)) (fun _ h9 => h9) rfl (by decide +kernel) rfl rfl (Nat.le_of_ble_eq_true rfl) dX4_forge_36 (fun H locs hP hD hS => ?_)
    have hP : va_P D vwCl (wM am cI cZ (sS (sS u_6 3 0) 4 0)) H := hP
    have hD : va_D A (wM am cI cZ (sS (sS u_6 3 0) 4 0)) := hD
    refine lv_aload_n hx hb dX4_forge_39 rfl (lv_at hl 0 rfl) ?_
    refine lv_aload_n hx hb dX4_forge_40 rfl (lv_at hl 0 rfl) ?_
    refine va_get (ci := 4) (v := .ref (am 8)) (C := RX4) (T := TX4) (N := 22) hx hb hts (ivX4 _) hown hK hP 0 rfl rfl 11 (by decide) (hts _ (tb_c tw_3_112)) (fun _ h9 => h9) rfl dX4_forge_41 ?_
    refine lv_aload_n hx hb dX4_forge_44 rfl (lv_at hl 0 rfl) ?_
    refine va_get (ci := 4) (v := .int (u_6.1 1)) (C := RX4) (T := TX4) (N := 22) hx hb hts (ivX4 _) hown hK hP 0 rfl rfl 1 (by decide) (hts _ (tb_c tw_3_102)) (fun _ h9 => h9) rfl dX4_forge_45 ?_
    obtain ⟨h_7, hok⟩ := hok
    refine va_iald (f := u_6.2 7) hx hb hK hP 8 0 rfl rfl h_7 dX4_forge_48 ?_
    refine lv_aload_n hx hb dX4_forge_49 rfl (lv_at hl 0 rfl) ?_
    refine va_get (ci := 4) (v := .ref (am 8)) (C := RX4) (T := TX4) (N := 22) hx hb hts (ivX4 _) hown hK hP 0 rfl rfl 11 (by decide) (hts _ (tb_c tw_3_112)) (fun _ h9 => h9) rfl dX4_forge_50 ?_
    refine lv_aload_n hx hb dX4_forge_53 rfl (lv_at hl 0 rfl) ?_
    refine va_get (ci := 4) (v := .int (u_6.1 1)) (C := RX4) (T := TX4) (N := 22) hx hb hts (ivX4 _) hown hK hP 0 rfl rfl 1 (by decide) (hts _ (tb_c tw_3_102)) (fun _ h9 => h9) rfl dX4_forge_54 ?_
    obtain ⟨h_8, hok⟩ := hok
    refine va_iald (f := u_6.2 7) hx hb hK hP 8 0 rfl rfl h_8 dX4_forge_57 ?_
    refine lv_iconst (v := 2) hx hb dX4_forge_58 (by decide) ?_
    refine lv_irem hx hb dX4_forge_59 (by decide) ?_
    refine lv_iadd hx hb dX4_forge_60 ?_
    refine va_put (ci := 4) (v := .int ((u_6.2 7 (u_6.1 1).toNatClampNeg) + ((u_6.2 7 (u_6.1 1).toNatClampNeg) - (u_6.2 7 (u_6.1 1).toNatClampNeg) / 2 * 2))) (ty := .int) (C := RX4) (T := TX4) (N := 22) hx hb hts (ivX4 _) tyX4 tyX4_ok nmX4 hown hK hP hD hS 0 rfl rfl 15 (by decide) (hts _ (tb_c tw_3_116)) (fun _ h9 => h9) rfl (by decide +kernel) rfl rfl (Nat.le_of_ble_eq_true rfl) dX4_forge_61 (fun H locs hP hD hS => ?_)
    have hP : va_P D vwCl (wM am cI cZ (sS (sS (sS u_6 3 0) 4 0) 5 ((u_6.2 7 (u_6.1 1).toNatClampNeg) + ((u_6.2 7 (u_6.1 1).toNatClampNeg) - (u_6.2 7 (u_6.1 1).toNatClampNeg) / 2 * 2)))) H := hP
    have hD : va_D A (wM am cI cZ (sS (sS (sS u_6 3 0) 4 0) 5 ((u_6.2 7 (u_6.1 1).toNatClampNeg) + ((u_6.2 7 (u_6.1 1).toNatClampNeg) - (u_6.2 7 (u_6.1 1).toNatClampNeg) / 2 * 2)))) := hD
    refine lv_aload_n hx hb dX4_forge_64 rfl (lv_at hl 0 rfl) ?_
    refine lv_iconst (v := 3) hx hb dX4_forge_65 (by decide) ?_
    refine lv_ldc (v := 536870912) hx hb hown (hts _ (tb_c tw_4_14)) dX4_forge_66 ?_
    obtain ⟨h_9, hok⟩ := hok
    refine k_callVv (As := [.int 3, .int 536870912]) (rest := []) hzz ⟨hx, hb, hml, hown, hts⟩ (c_m_literal l D am cI cZ zz hzz (sS (sS (sS u_6 3 0) 4 0) 5 ((u_6.2 7 (u_6.1 1).toNatClampNeg) + ((u_6.2 7 (u_6.1 1).toNatClampNeg) - (u_6.2 7 (u_6.1 1).toNatClampNeg) / 2 * 2))) 3 536870912 h_9) (cwV 2 hts (tb_V tw_4_15 tw_4_17 slX4_literal tw_1_5 tw_4_18) rfl rfl rfl (by decide +kernel) ⟨Nat.le_of_ble_eq_true rfl, Nat.le_of_ble_eq_true rfl⟩) (va_recv hK hP (ci := 4) (q0 := 0) rfl rfl) rfl hl.1 rfl (lv_room (Nat.le_of_ble_eq_true rfl)) dX4_forge_68 ⟨Nat.le_of_ble_eq_true rfl, Nat.le_of_ble_eq_true rfl⟩ hP hK hD hS hA hZ (fun H locs hP hD hS => ?_)
    generalize eu_10 : p_m_literal (sS (sS (sS u_6 3 0) 4 0) 5 ((u_6.2 7 (u_6.1 1).toNatClampNeg) + ((u_6.2 7 (u_6.1 1).toNatClampNeg) - (u_6.2 7 (u_6.1 1).toNatClampNeg) / 2 * 2))) 3 536870912 = u_10 at hP hD ⊢
    try rw [eu_10] at hok
    refine lv_iconst (v := 0) hx hb dX4_forge_71 (by decide) ?_
    refine lv_istore_n (lv' := [(1, .int 0), (0, .ref (am 0))]) hx hb dX4_forge_72 rfl hl (by decide) rfl (fun ls hl => ?_)
    have e9 : p_m_forge u = p_m_forge_73 64 u_10 0 := by
      subst eu_10
      subst eu_6
      rw [p_m_forge, if_neg c_2]
    rw [e9]
    exact w_m_forge_73 am cI cZ zz hzz Cx 64 u_10 0 _ _ _ hok hP hD hS (lv_sub hl [1, 0] rfl)

def p_m_halfword (u : St) (x1 : Int32) : Int32 × St := (if (u.1 2) = 0 then (0, sS u 0 1) else (if x1 < 0 then (0, sS u 0 1) else (if (u.1 3) ≤ x1 then (0, sS u 0 1) else (u.2 6 x1.toNatClampNeg, sS u 0 0))))
def ok_m_halfword (u : St) (x1 : Int32) : Prop := (((u.1 2) = 0 → True) ∧ (¬ (u.1 2) = 0 → ((x1 < 0 → True) ∧ (¬ x1 < 0 → (((u.1 3) ≤ x1 → True) ∧ (¬ (u.1 3) ≤ x1 → (vp_in x1 400 ∧ True)))))))
set_option maxHeartbeats 4000000 in
set_option maxRecDepth 100000 in
theorem c_m_halfword (l : Launch) (D : va_G) (am : Nat → Nat) (cI cZ : ClassId) (zz : (Nat → Prop) → State → Heap → Prop) (hzz : Zok zz) (u : St) (x1 : Int32) (hok : ok_m_halfword u x1) : tfI l D vwCl (tyT cI cZ) zz yX4_halfword wsX4_halfword ({ frames := 0, cells := 0, slots := 0, locals := 0 } : Room) [.ref (am 0), .int x1] (wM am cI cZ u) (p_m_halfword u x1).1 (wM am cI cZ ((p_m_halfword u x1).2)) := by
  intro sz
  unfold ok_m_halfword at hok
  refine Met.ofW (cc := cX4_halfword) (maxL := 2) (ret := (some .int)) (by decide) rfl ?_
  intro p e s m args below meth c s₁ B hml hv
  obtain ⟨rfl, hsz, hP, hK, hD0, hZ⟩ := hv
  have hx := B.exec
  have hb := B.bytes
  have hr := B.returns
  have hts := atoms_spec (ws := wsX4_halfword) B.pre
  have hown : s.vm.findClass RX4 = some m.cls := findClass_of_methodNamed B.named
  have hlocks := B.notSynchronized
  subst hsz
  have hD := hD0.self (sz := s.heap.size)
  generalize hAe : va_A (wM am cI cZ u) s.heap.size = A at hD hZ ⊢
  have hA : ∀ q : Nat, s.heap.size ≤ q → A q := fun q h => by rw [← hAe]; exact Or.inr h
  have hS : va_S A s.heap s.heap [] := va_S.rf
  have Cx : cxt p s m ([.ref (am 0), .int x1] : List Value).toArray meth c cX4_halfword 2 (some .int) wsX4_halfword RX4 D vwCl (tyT cI cZ) zz A := ⟨hx, hb, hr, hts, hown, hlocks, hml, hK, hA, hZ⟩
  have hl := lv_entry ([.ref (am 0), .int x1]) (n := 2) (Nat.le_of_ble_eq_true rfl)
  rw [lg_entry_eq]
  generalize (lg_sl ([.ref (am 0), .int x1]) ++ List.replicate (2 - (lg_sl ([.ref (am 0), .int x1])).length) Slot.unset).toArray = ls at hl ⊢
  have hl : lv_has ls 2 [(0, .ref (am 0)), (1, .int x1)] := hl
  refine lv_aload_n hx hb dX4_halfword_0 rfl (lv_at hl 0 rfl) ?_
  refine lv_aload_n hx hb dX4_halfword_1 rfl (lv_at hl 0 rfl) ?_
  refine va_get (ci := 4) (v := .int (u.1 2)) (C := RX4) (T := TX4) (N := 22) hx hb hts (ivX4 _) hown hK hP 0 rfl rfl 8 (by decide) (hts _ (tb_c tw_3_109)) (fun _ h9 => h9) rfl dX4_halfword_2 ?_
  refine lv_if_eq (tgt := 24) hx hb dX4_halfword_5 (by decide) (fun c_1 => ?_) (fun c_1 => ?_)
  · have hok := hok.1 c_1
    refine lv_iconst (v := 1) hx hb dX4_halfword_24 (by decide) ?_
    refine va_put (ci := 4) (v := .int 1) (ty := .int) (C := RX4) (T := TX4) (N := 22) hx hb hts (ivX4 _) tyX4 tyX4_ok nmX4 hown hK hP hD hS 0 rfl rfl 0 (by decide) (hts _ (tb_c tw_3_101)) (fun _ h9 => h9) rfl (by decide +kernel) rfl rfl (Nat.le_of_ble_eq_true rfl) dX4_halfword_25 (fun H locs hP hD hS => ?_)
    have hP : va_P D vwCl (wM am cI cZ (sS u 0 1)) H := hP
    have hD : va_D A (wM am cI cZ (sS u 0 1)) := hD
    refine lv_aload_n hx hb dX4_halfword_28 rfl (lv_at hl 0 rfl) ?_
    refine va_get (ci := 4) (v := .int 1) (C := RX4) (T := TX4) (N := 22) hx hb hts (ivX4 _) hown hK hP 0 rfl rfl 0 (by decide) (hts _ (tb_c tw_3_101)) (fun _ h9 => h9) rfl dX4_halfword_29 ?_
    refine lv_if_le (tgt := 39) hx hb dX4_halfword_32 (by decide) (fun c_2 => absurd c_2 (by decide)) (fun c_2 => ?_)
    refine lv_iconst (v := 0) hx hb dX4_halfword_35 (by decide) ?_
    refine lv_goto (tgt := 45) hx hb dX4_halfword_36 (by decide) ?_
    have e9 : p_m_halfword u x1 = (0, sS u 0 1) := by rw [p_m_halfword, if_pos c_1]
    rw [e9]
    exact W.iret hx hb hr (fun t ht hW => ⟨⟨_, (), rfl, rfl, by rw [ht]; exact hP, va_K.moved hW.alike hK, hD⟩, hS.F ht⟩) hS.2.2 dX4_halfword_45
  · have hok := hok.2 c_1
    refine lv_iload_n hx hb dX4_halfword_8 rfl (lv_at hl 1 rfl) ?_
    refine lv_if_lt (tgt := 24) hx hb dX4_halfword_9 (by decide) (fun c_3 => ?_) (fun c_3 => ?_)
    · have hok := hok.1 c_3
      refine lv_iconst (v := 1) hx hb dX4_halfword_24 (by decide) ?_
      refine va_put (ci := 4) (v := .int 1) (ty := .int) (C := RX4) (T := TX4) (N := 22) hx hb hts (ivX4 _) tyX4 tyX4_ok nmX4 hown hK hP hD hS 0 rfl rfl 0 (by decide) (hts _ (tb_c tw_3_101)) (fun _ h9 => h9) rfl (by decide +kernel) rfl rfl (Nat.le_of_ble_eq_true rfl) dX4_halfword_25 (fun H locs hP hD hS => ?_)
      have hP : va_P D vwCl (wM am cI cZ (sS u 0 1)) H := hP
      have hD : va_D A (wM am cI cZ (sS u 0 1)) := hD
      refine lv_aload_n hx hb dX4_halfword_28 rfl (lv_at hl 0 rfl) ?_
      refine va_get (ci := 4) (v := .int 1) (C := RX4) (T := TX4) (N := 22) hx hb hts (ivX4 _) hown hK hP 0 rfl rfl 0 (by decide) (hts _ (tb_c tw_3_101)) (fun _ h9 => h9) rfl dX4_halfword_29 ?_
      refine lv_if_le (tgt := 39) hx hb dX4_halfword_32 (by decide) (fun c_4 => absurd c_4 (by decide)) (fun c_4 => ?_)
      refine lv_iconst (v := 0) hx hb dX4_halfword_35 (by decide) ?_
      refine lv_goto (tgt := 45) hx hb dX4_halfword_36 (by decide) ?_
      have e9 : p_m_halfword u x1 = (0, sS u 0 1) := by rw [p_m_halfword, if_neg c_1, if_pos c_3]
      rw [e9]
      exact W.iret hx hb hr (fun t ht hW => ⟨⟨_, (), rfl, rfl, by rw [ht]; exact hP, va_K.moved hW.alike hK, hD⟩, hS.F ht⟩) hS.2.2 dX4_halfword_45
    · have hok := hok.2 c_3
      refine lv_iload_n hx hb dX4_halfword_12 rfl (lv_at hl 1 rfl) ?_
      refine lv_aload_n hx hb dX4_halfword_13 rfl (lv_at hl 0 rfl) ?_
      refine va_get (ci := 4) (v := .int (u.1 3)) (C := RX4) (T := TX4) (N := 22) hx hb hts (ivX4 _) hown hK hP 0 rfl rfl 9 (by decide) (hts _ (tb_c tw_3_110)) (fun _ h9 => h9) rfl dX4_halfword_14 ?_
      refine lv_icmp_ge (tgt := 24) hx hb dX4_halfword_17 (by decide) (fun c_5 => ?_) (fun c_5 => ?_)
      · have hok := hok.1 c_5
        refine lv_iconst (v := 1) hx hb dX4_halfword_24 (by decide) ?_
        refine va_put (ci := 4) (v := .int 1) (ty := .int) (C := RX4) (T := TX4) (N := 22) hx hb hts (ivX4 _) tyX4 tyX4_ok nmX4 hown hK hP hD hS 0 rfl rfl 0 (by decide) (hts _ (tb_c tw_3_101)) (fun _ h9 => h9) rfl (by decide +kernel) rfl rfl (Nat.le_of_ble_eq_true rfl) dX4_halfword_25 (fun H locs hP hD hS => ?_)
        have hP : va_P D vwCl (wM am cI cZ (sS u 0 1)) H := hP
        have hD : va_D A (wM am cI cZ (sS u 0 1)) := hD
        refine lv_aload_n hx hb dX4_halfword_28 rfl (lv_at hl 0 rfl) ?_
        refine va_get (ci := 4) (v := .int 1) (C := RX4) (T := TX4) (N := 22) hx hb hts (ivX4 _) hown hK hP 0 rfl rfl 0 (by decide) (hts _ (tb_c tw_3_101)) (fun _ h9 => h9) rfl dX4_halfword_29 ?_
        refine lv_if_le (tgt := 39) hx hb dX4_halfword_32 (by decide) (fun c_6 => absurd c_6 (by decide)) (fun c_6 => ?_)
        refine lv_iconst (v := 0) hx hb dX4_halfword_35 (by decide) ?_
        refine lv_goto (tgt := 45) hx hb dX4_halfword_36 (by decide) ?_
        have e9 : p_m_halfword u x1 = (0, sS u 0 1) := by rw [p_m_halfword, if_neg c_1, if_neg c_3, if_pos c_5]
        rw [e9]
        exact W.iret hx hb hr (fun t ht hW => ⟨⟨_, (), rfl, rfl, by rw [ht]; exact hP, va_K.moved hW.alike hK, hD⟩, hS.F ht⟩) hS.2.2 dX4_halfword_45
      · have hok := hok.2 c_5
        refine lv_iconst (v := 0) hx hb dX4_halfword_20 (by decide) ?_
        refine lv_goto (tgt := 25) hx hb dX4_halfword_21 (by decide) ?_
        refine va_put (ci := 4) (v := .int 0) (ty := .int) (C := RX4) (T := TX4) (N := 22) hx hb hts (ivX4 _) tyX4 tyX4_ok nmX4 hown hK hP hD hS 0 rfl rfl 0 (by decide) (hts _ (tb_c tw_3_101)) (fun _ h9 => h9) rfl (by decide +kernel) rfl rfl (Nat.le_of_ble_eq_true rfl) dX4_halfword_25 (fun H locs hP hD hS => ?_)
        have hP : va_P D vwCl (wM am cI cZ (sS u 0 0)) H := hP
        have hD : va_D A (wM am cI cZ (sS u 0 0)) := hD
        refine lv_aload_n hx hb dX4_halfword_28 rfl (lv_at hl 0 rfl) ?_
        refine va_get (ci := 4) (v := .int 0) (C := RX4) (T := TX4) (N := 22) hx hb hts (ivX4 _) hown hK hP 0 rfl rfl 0 (by decide) (hts _ (tb_c tw_3_101)) (fun _ h9 => h9) rfl dX4_halfword_29 ?_
        refine lv_if_le (tgt := 39) hx hb dX4_halfword_32 (by decide) (fun c_7 => ?_) (fun c_7 => absurd c_7 (by decide))
        refine lv_aload_n hx hb dX4_halfword_39 rfl (lv_at hl 0 rfl) ?_
        refine va_get (ci := 4) (v := .ref (am 7)) (C := RX4) (T := TX4) (N := 22) hx hb hts (ivX4 _) hown hK hP 0 rfl rfl 10 (by decide) (hts _ (tb_c tw_3_111)) (fun _ h9 => h9) rfl dX4_halfword_40 ?_
        refine lv_iload_n hx hb dX4_halfword_43 rfl (lv_at hl 1 rfl) ?_
        obtain ⟨h_8, hok⟩ := hok
        refine va_iald (f := u.2 6) hx hb hK hP 7 0 rfl rfl h_8 dX4_halfword_44 ?_
        have e9 : p_m_halfword u x1 = (u.2 6 x1.toNatClampNeg, sS u 0 0) := by rw [p_m_halfword, if_neg c_1, if_neg c_3, if_neg c_5]
        rw [e9]
        exact W.iret hx hb hr (fun t ht hW => ⟨⟨_, (), rfl, rfl, by rw [ht]; exact hP, va_K.moved hW.alike hK, hD⟩, hS.F ht⟩) hS.2.2 dX4_halfword_45

def p_m_place (u : St) (x1 : Int32) : Int32 × St := (if (u.1 2) = 0 then (0, sS u 0 1) else (if x1 < 0 then (0, sS u 0 1) else (if (u.1 1) ≤ x1 then (0, sS u 0 1) else (u.2 7 x1.toNatClampNeg, sS u 0 0))))
def ok_m_place (u : St) (x1 : Int32) : Prop := (((u.1 2) = 0 → True) ∧ (¬ (u.1 2) = 0 → ((x1 < 0 → True) ∧ (¬ x1 < 0 → (((u.1 1) ≤ x1 → True) ∧ (¬ (u.1 1) ≤ x1 → (vp_in x1 49 ∧ True)))))))
set_option maxHeartbeats 4000000 in
set_option maxRecDepth 100000 in
theorem c_m_place (l : Launch) (D : va_G) (am : Nat → Nat) (cI cZ : ClassId) (zz : (Nat → Prop) → State → Heap → Prop) (hzz : Zok zz) (u : St) (x1 : Int32) (hok : ok_m_place u x1) : tfI l D vwCl (tyT cI cZ) zz yX4_place wsX4_place ({ frames := 0, cells := 0, slots := 0, locals := 0 } : Room) [.ref (am 0), .int x1] (wM am cI cZ u) (p_m_place u x1).1 (wM am cI cZ ((p_m_place u x1).2)) := by
  intro sz
  unfold ok_m_place at hok
  refine Met.ofW (cc := cX4_place) (maxL := 2) (ret := (some .int)) (by decide) rfl ?_
  intro p e s m args below meth c s₁ B hml hv
  obtain ⟨rfl, hsz, hP, hK, hD0, hZ⟩ := hv
  have hx := B.exec
  have hb := B.bytes
  have hr := B.returns
  have hts := atoms_spec (ws := wsX4_place) B.pre
  have hown : s.vm.findClass RX4 = some m.cls := findClass_of_methodNamed B.named
  have hlocks := B.notSynchronized
  subst hsz
  have hD := hD0.self (sz := s.heap.size)
  generalize hAe : va_A (wM am cI cZ u) s.heap.size = A at hD hZ ⊢
  have hA : ∀ q : Nat, s.heap.size ≤ q → A q := fun q h => by rw [← hAe]; exact Or.inr h
  have hS : va_S A s.heap s.heap [] := va_S.rf
  have Cx : cxt p s m ([.ref (am 0), .int x1] : List Value).toArray meth c cX4_place 2 (some .int) wsX4_place RX4 D vwCl (tyT cI cZ) zz A := ⟨hx, hb, hr, hts, hown, hlocks, hml, hK, hA, hZ⟩
  have hl := lv_entry ([.ref (am 0), .int x1]) (n := 2) (Nat.le_of_ble_eq_true rfl)
  rw [lg_entry_eq]
  generalize (lg_sl ([.ref (am 0), .int x1]) ++ List.replicate (2 - (lg_sl ([.ref (am 0), .int x1])).length) Slot.unset).toArray = ls at hl ⊢
  have hl : lv_has ls 2 [(0, .ref (am 0)), (1, .int x1)] := hl
  refine lv_aload_n hx hb dX4_place_0 rfl (lv_at hl 0 rfl) ?_
  refine lv_aload_n hx hb dX4_place_1 rfl (lv_at hl 0 rfl) ?_
  refine va_get (ci := 4) (v := .int (u.1 2)) (C := RX4) (T := TX4) (N := 22) hx hb hts (ivX4 _) hown hK hP 0 rfl rfl 8 (by decide) (hts _ (tb_c tw_3_109)) (fun _ h9 => h9) rfl dX4_place_2 ?_
  refine lv_if_eq (tgt := 24) hx hb dX4_place_5 (by decide) (fun c_1 => ?_) (fun c_1 => ?_)
  · have hok := hok.1 c_1
    refine lv_iconst (v := 1) hx hb dX4_place_24 (by decide) ?_
    refine va_put (ci := 4) (v := .int 1) (ty := .int) (C := RX4) (T := TX4) (N := 22) hx hb hts (ivX4 _) tyX4 tyX4_ok nmX4 hown hK hP hD hS 0 rfl rfl 0 (by decide) (hts _ (tb_c tw_3_101)) (fun _ h9 => h9) rfl (by decide +kernel) rfl rfl (Nat.le_of_ble_eq_true rfl) dX4_place_25 (fun H locs hP hD hS => ?_)
    have hP : va_P D vwCl (wM am cI cZ (sS u 0 1)) H := hP
    have hD : va_D A (wM am cI cZ (sS u 0 1)) := hD
    refine lv_aload_n hx hb dX4_place_28 rfl (lv_at hl 0 rfl) ?_
    refine va_get (ci := 4) (v := .int 1) (C := RX4) (T := TX4) (N := 22) hx hb hts (ivX4 _) hown hK hP 0 rfl rfl 0 (by decide) (hts _ (tb_c tw_3_101)) (fun _ h9 => h9) rfl dX4_place_29 ?_
    refine lv_if_le (tgt := 39) hx hb dX4_place_32 (by decide) (fun c_2 => absurd c_2 (by decide)) (fun c_2 => ?_)
    refine lv_iconst (v := 0) hx hb dX4_place_35 (by decide) ?_
    refine lv_goto (tgt := 45) hx hb dX4_place_36 (by decide) ?_
    have e9 : p_m_place u x1 = (0, sS u 0 1) := by rw [p_m_place, if_pos c_1]
    rw [e9]
    exact W.iret hx hb hr (fun t ht hW => ⟨⟨_, (), rfl, rfl, by rw [ht]; exact hP, va_K.moved hW.alike hK, hD⟩, hS.F ht⟩) hS.2.2 dX4_place_45
  · have hok := hok.2 c_1
    refine lv_iload_n hx hb dX4_place_8 rfl (lv_at hl 1 rfl) ?_
    refine lv_if_lt (tgt := 24) hx hb dX4_place_9 (by decide) (fun c_3 => ?_) (fun c_3 => ?_)
    · have hok := hok.1 c_3
      refine lv_iconst (v := 1) hx hb dX4_place_24 (by decide) ?_
      refine va_put (ci := 4) (v := .int 1) (ty := .int) (C := RX4) (T := TX4) (N := 22) hx hb hts (ivX4 _) tyX4 tyX4_ok nmX4 hown hK hP hD hS 0 rfl rfl 0 (by decide) (hts _ (tb_c tw_3_101)) (fun _ h9 => h9) rfl (by decide +kernel) rfl rfl (Nat.le_of_ble_eq_true rfl) dX4_place_25 (fun H locs hP hD hS => ?_)
      have hP : va_P D vwCl (wM am cI cZ (sS u 0 1)) H := hP
      have hD : va_D A (wM am cI cZ (sS u 0 1)) := hD
      refine lv_aload_n hx hb dX4_place_28 rfl (lv_at hl 0 rfl) ?_
      refine va_get (ci := 4) (v := .int 1) (C := RX4) (T := TX4) (N := 22) hx hb hts (ivX4 _) hown hK hP 0 rfl rfl 0 (by decide) (hts _ (tb_c tw_3_101)) (fun _ h9 => h9) rfl dX4_place_29 ?_
      refine lv_if_le (tgt := 39) hx hb dX4_place_32 (by decide) (fun c_4 => absurd c_4 (by decide)) (fun c_4 => ?_)
      refine lv_iconst (v := 0) hx hb dX4_place_35 (by decide) ?_
      refine lv_goto (tgt := 45) hx hb dX4_place_36 (by decide) ?_
      have e9 : p_m_place u x1 = (0, sS u 0 1) := by rw [p_m_place, if_neg c_1, if_pos c_3]
      rw [e9]
      exact W.iret hx hb hr (fun t ht hW => ⟨⟨_, (), rfl, rfl, by rw [ht]; exact hP, va_K.moved hW.alike hK, hD⟩, hS.F ht⟩) hS.2.2 dX4_place_45
    · have hok := hok.2 c_3
      refine lv_iload_n hx hb dX4_place_12 rfl (lv_at hl 1 rfl) ?_
      refine lv_aload_n hx hb dX4_place_13 rfl (lv_at hl 0 rfl) ?_
      refine va_get (ci := 4) (v := .int (u.1 1)) (C := RX4) (T := TX4) (N := 22) hx hb hts (ivX4 _) hown hK hP 0 rfl rfl 1 (by decide) (hts _ (tb_c tw_3_102)) (fun _ h9 => h9) rfl dX4_place_14 ?_
      refine lv_icmp_ge (tgt := 24) hx hb dX4_place_17 (by decide) (fun c_5 => ?_) (fun c_5 => ?_)
      · have hok := hok.1 c_5
        refine lv_iconst (v := 1) hx hb dX4_place_24 (by decide) ?_
        refine va_put (ci := 4) (v := .int 1) (ty := .int) (C := RX4) (T := TX4) (N := 22) hx hb hts (ivX4 _) tyX4 tyX4_ok nmX4 hown hK hP hD hS 0 rfl rfl 0 (by decide) (hts _ (tb_c tw_3_101)) (fun _ h9 => h9) rfl (by decide +kernel) rfl rfl (Nat.le_of_ble_eq_true rfl) dX4_place_25 (fun H locs hP hD hS => ?_)
        have hP : va_P D vwCl (wM am cI cZ (sS u 0 1)) H := hP
        have hD : va_D A (wM am cI cZ (sS u 0 1)) := hD
        refine lv_aload_n hx hb dX4_place_28 rfl (lv_at hl 0 rfl) ?_
        refine va_get (ci := 4) (v := .int 1) (C := RX4) (T := TX4) (N := 22) hx hb hts (ivX4 _) hown hK hP 0 rfl rfl 0 (by decide) (hts _ (tb_c tw_3_101)) (fun _ h9 => h9) rfl dX4_place_29 ?_
        refine lv_if_le (tgt := 39) hx hb dX4_place_32 (by decide) (fun c_6 => absurd c_6 (by decide)) (fun c_6 => ?_)
        refine lv_iconst (v := 0) hx hb dX4_place_35 (by decide) ?_
        refine lv_goto (tgt := 45) hx hb dX4_place_36 (by decide) ?_
        have e9 : p_m_place u x1 = (0, sS u 0 1) := by rw [p_m_place, if_neg c_1, if_neg c_3, if_pos c_5]
        rw [e9]
        exact W.iret hx hb hr (fun t ht hW => ⟨⟨_, (), rfl, rfl, by rw [ht]; exact hP, va_K.moved hW.alike hK, hD⟩, hS.F ht⟩) hS.2.2 dX4_place_45
      · have hok := hok.2 c_5
        refine lv_iconst (v := 0) hx hb dX4_place_20 (by decide) ?_
        refine lv_goto (tgt := 25) hx hb dX4_place_21 (by decide) ?_
        refine va_put (ci := 4) (v := .int 0) (ty := .int) (C := RX4) (T := TX4) (N := 22) hx hb hts (ivX4 _) tyX4 tyX4_ok nmX4 hown hK hP hD hS 0 rfl rfl 0 (by decide) (hts _ (tb_c tw_3_101)) (fun _ h9 => h9) rfl (by decide +kernel) rfl rfl (Nat.le_of_ble_eq_true rfl) dX4_place_25 (fun H locs hP hD hS => ?_)
        have hP : va_P D vwCl (wM am cI cZ (sS u 0 0)) H := hP
        have hD : va_D A (wM am cI cZ (sS u 0 0)) := hD
        refine lv_aload_n hx hb dX4_place_28 rfl (lv_at hl 0 rfl) ?_
        refine va_get (ci := 4) (v := .int 0) (C := RX4) (T := TX4) (N := 22) hx hb hts (ivX4 _) hown hK hP 0 rfl rfl 0 (by decide) (hts _ (tb_c tw_3_101)) (fun _ h9 => h9) rfl dX4_place_29 ?_
        refine lv_if_le (tgt := 39) hx hb dX4_place_32 (by decide) (fun c_7 => ?_) (fun c_7 => absurd c_7 (by decide))
        refine lv_aload_n hx hb dX4_place_39 rfl (lv_at hl 0 rfl) ?_
        refine va_get (ci := 4) (v := .ref (am 8)) (C := RX4) (T := TX4) (N := 22) hx hb hts (ivX4 _) hown hK hP 0 rfl rfl 11 (by decide) (hts _ (tb_c tw_3_112)) (fun _ h9 => h9) rfl dX4_place_40 ?_
        refine lv_iload_n hx hb dX4_place_43 rfl (lv_at hl 1 rfl) ?_
        obtain ⟨h_8, hok⟩ := hok
        refine va_iald (f := u.2 7) hx hb hK hP 8 0 rfl rfl h_8 dX4_place_44 ?_
        have e9 : p_m_place u x1 = (u.2 7 x1.toNatClampNeg, sS u 0 0) := by rw [p_m_place, if_neg c_1, if_neg c_3, if_neg c_5]
        rw [e9]
        exact W.iret hx hb hr (fun t ht hW => ⟨⟨_, (), rfl, rfl, by rw [ht]; exact hP, va_K.moved hW.alike hK, hD⟩, hS.F ht⟩) hS.2.2 dX4_place_45

def p_m_poke (u : St) (x1 x2 : Int32) : St := (if x1 < 0 then sS u 0 1 else (if 8 ≤ x1 then sS u 0 1 else sA (sS u 0 0) 5 x1 x2))
def ok_m_poke (u : St) (x1 x2 : Int32) : Prop := ((x1 < 0 → True) ∧ (¬ x1 < 0 → ((8 ≤ x1 → True) ∧ (¬ 8 ≤ x1 → (vp_in x1 8 ∧ True)))))
set_option maxHeartbeats 4000000 in
set_option maxRecDepth 100000 in
theorem c_m_poke (l : Launch) (D : va_G) (am : Nat → Nat) (cI cZ : ClassId) (zz : (Nat → Prop) → State → Heap → Prop) (hzz : Zok zz) (u : St) (x1 x2 : Int32) (hok : ok_m_poke u x1 x2) : tfV l D vwCl (tyT cI cZ) zz yX4_poke wsX4_poke ({ frames := 0, cells := 0, slots := 0, locals := 0 } : Room) [.ref (am 0), .int x1, .int x2] (wM am cI cZ u) (wM am cI cZ (p_m_poke u x1 x2)) := by
  intro sz
  unfold ok_m_poke at hok
  refine Met.ofW (cc := cX4_poke) (maxL := 3) (ret := none) (by decide) rfl ?_
  intro p e s m args below meth c s₁ B hml hv
  obtain ⟨rfl, hsz, hP, hK, hD0, hZ⟩ := hv
  have hx := B.exec
  have hb := B.bytes
  have hr := B.returns
  have hts := atoms_spec (ws := wsX4_poke) B.pre
  have hown : s.vm.findClass RX4 = some m.cls := findClass_of_methodNamed B.named
  have hlocks := B.notSynchronized
  subst hsz
  have hD := hD0.self (sz := s.heap.size)
  generalize hAe : va_A (wM am cI cZ u) s.heap.size = A at hD hZ ⊢
  have hA : ∀ q : Nat, s.heap.size ≤ q → A q := fun q h => by rw [← hAe]; exact Or.inr h
  have hS : va_S A s.heap s.heap [] := va_S.rf
  have Cx : cxt p s m ([.ref (am 0), .int x1, .int x2] : List Value).toArray meth c cX4_poke 3 none wsX4_poke RX4 D vwCl (tyT cI cZ) zz A := ⟨hx, hb, hr, hts, hown, hlocks, hml, hK, hA, hZ⟩
  have hl := lv_entry ([.ref (am 0), .int x1, .int x2]) (n := 3) (Nat.le_of_ble_eq_true rfl)
  rw [lg_entry_eq]
  generalize (lg_sl ([.ref (am 0), .int x1, .int x2]) ++ List.replicate (3 - (lg_sl ([.ref (am 0), .int x1, .int x2])).length) Slot.unset).toArray = ls at hl ⊢
  have hl : lv_has ls 3 [(0, .ref (am 0)), (1, .int x1), (2, .int x2)] := hl
  refine lv_aload_n hx hb dX4_poke_0 rfl (lv_at hl 0 rfl) ?_
  refine lv_iload_n hx hb dX4_poke_1 rfl (lv_at hl 1 rfl) ?_
  refine lv_if_lt (tgt := 15) hx hb dX4_poke_2 (by decide) (fun c_1 => ?_) (fun c_1 => ?_)
  · have hok := hok.1 c_1
    refine lv_iconst (v := 1) hx hb dX4_poke_15 (by decide) ?_
    refine va_put (ci := 4) (v := .int 1) (ty := .int) (C := RX4) (T := TX4) (N := 22) hx hb hts (ivX4 _) tyX4 tyX4_ok nmX4 hown hK hP hD hS 0 rfl rfl 0 (by decide) (hts _ (tb_c tw_3_101)) (fun _ h9 => h9) rfl (by decide +kernel) rfl rfl (Nat.le_of_ble_eq_true rfl) dX4_poke_16 (fun H locs hP hD hS => ?_)
    have hP : va_P D vwCl (wM am cI cZ (sS u 0 1)) H := hP
    have hD : va_D A (wM am cI cZ (sS u 0 1)) := hD
    refine lv_aload_n hx hb dX4_poke_19 rfl (lv_at hl 0 rfl) ?_
    refine va_get (ci := 4) (v := .int 1) (C := RX4) (T := TX4) (N := 22) hx hb hts (ivX4 _) hown hK hP 0 rfl rfl 0 (by decide) (hts _ (tb_c tw_3_101)) (fun _ h9 => h9) rfl dX4_poke_20 ?_
    refine lv_if_ne (tgt := 33) hx hb dX4_poke_23 (by decide) (fun c_2 => ?_) (fun c_2 => absurd c_2 (by decide))
    have e9 : p_m_poke u x1 x2 = sS u 0 1 := by rw [p_m_poke, if_pos c_1]
    rw [e9]
    exact W.vret hx hb hr (fun t ht hW => ⟨⟨(), rfl, trivial, by rw [ht]; exact hP, va_K.moved hW.alike hK, hD⟩, hS.F ht⟩) hS.2.2 dX4_poke_33
  · have hok := hok.2 c_1
    refine lv_iload_n hx hb dX4_poke_5 rfl (lv_at hl 1 rfl) ?_
    refine lv_bipush (v := 8) hx hb dX4_poke_6 (by decide) ?_
    refine lv_icmp_ge (tgt := 15) hx hb dX4_poke_8 (by decide) (fun c_3 => ?_) (fun c_3 => ?_)
    · have hok := hok.1 c_3
      refine lv_iconst (v := 1) hx hb dX4_poke_15 (by decide) ?_
      refine va_put (ci := 4) (v := .int 1) (ty := .int) (C := RX4) (T := TX4) (N := 22) hx hb hts (ivX4 _) tyX4 tyX4_ok nmX4 hown hK hP hD hS 0 rfl rfl 0 (by decide) (hts _ (tb_c tw_3_101)) (fun _ h9 => h9) rfl (by decide +kernel) rfl rfl (Nat.le_of_ble_eq_true rfl) dX4_poke_16 (fun H locs hP hD hS => ?_)
      have hP : va_P D vwCl (wM am cI cZ (sS u 0 1)) H := hP
      have hD : va_D A (wM am cI cZ (sS u 0 1)) := hD
      refine lv_aload_n hx hb dX4_poke_19 rfl (lv_at hl 0 rfl) ?_
      refine va_get (ci := 4) (v := .int 1) (C := RX4) (T := TX4) (N := 22) hx hb hts (ivX4 _) hown hK hP 0 rfl rfl 0 (by decide) (hts _ (tb_c tw_3_101)) (fun _ h9 => h9) rfl dX4_poke_20 ?_
      refine lv_if_ne (tgt := 33) hx hb dX4_poke_23 (by decide) (fun c_4 => ?_) (fun c_4 => absurd c_4 (by decide))
      have e9 : p_m_poke u x1 x2 = sS u 0 1 := by rw [p_m_poke, if_neg c_1, if_pos c_3]
      rw [e9]
      exact W.vret hx hb hr (fun t ht hW => ⟨⟨(), rfl, trivial, by rw [ht]; exact hP, va_K.moved hW.alike hK, hD⟩, hS.F ht⟩) hS.2.2 dX4_poke_33
    · have hok := hok.2 c_3
      refine lv_iconst (v := 0) hx hb dX4_poke_11 (by decide) ?_
      refine lv_goto (tgt := 16) hx hb dX4_poke_12 (by decide) ?_
      refine va_put (ci := 4) (v := .int 0) (ty := .int) (C := RX4) (T := TX4) (N := 22) hx hb hts (ivX4 _) tyX4 tyX4_ok nmX4 hown hK hP hD hS 0 rfl rfl 0 (by decide) (hts _ (tb_c tw_3_101)) (fun _ h9 => h9) rfl (by decide +kernel) rfl rfl (Nat.le_of_ble_eq_true rfl) dX4_poke_16 (fun H locs hP hD hS => ?_)
      have hP : va_P D vwCl (wM am cI cZ (sS u 0 0)) H := hP
      have hD : va_D A (wM am cI cZ (sS u 0 0)) := hD
      refine lv_aload_n hx hb dX4_poke_19 rfl (lv_at hl 0 rfl) ?_
      refine va_get (ci := 4) (v := .int 0) (C := RX4) (T := TX4) (N := 22) hx hb hts (ivX4 _) hown hK hP 0 rfl rfl 0 (by decide) (hts _ (tb_c tw_3_101)) (fun _ h9 => h9) rfl dX4_poke_20 ?_
      refine lv_if_ne (tgt := 33) hx hb dX4_poke_23 (by decide) (fun c_5 => absurd c_5 (by decide)) (fun c_5 => ?_)
      refine lv_aload_n hx hb dX4_poke_26 rfl (lv_at hl 0 rfl) ?_
      refine va_get (ci := 4) (v := .ref (am 6)) (C := RX4) (T := TX4) (N := 22) hx hb hts (ivX4 _) hown hK hP 0 rfl rfl 7 (by decide) (hts _ (tb_c tw_3_108)) (fun _ h9 => h9) rfl dX4_poke_27 ?_
      refine lv_iload_n hx hb dX4_poke_30 rfl (lv_at hl 1 rfl) ?_
      refine lv_iload_n hx hb dX4_poke_31 rfl (lv_at hl 2 rfl) ?_
      obtain ⟨h_6, hok⟩ := hok
      refine va_iast hx hb hK hP hD hS 6 0 rfl rfl h_6 dX4_poke_32 (fun H locs hP hD hS => ?_)
      have hP : va_P D vwCl (wM am cI cZ (sA (sS u 0 0) 5 x1 x2)) H := hP
      have hD : va_D A (wM am cI cZ (sA (sS u 0 0) 5 x1 x2)) := hD
      have e9 : p_m_poke u x1 x2 = sA (sS u 0 0) 5 x1 x2 := by rw [p_m_poke, if_neg c_1, if_neg c_3]
      rw [e9]
      exact W.vret hx hb hr (fun t ht hW => ⟨⟨(), rfl, trivial, by rw [ht]; exact hP, va_K.moved hW.alike hK, hD⟩, hS.F ht⟩) hS.2.2 dX4_poke_33

def p_m_memory (u : St) (x1 : Int32) : Int32 × St := (if x1 < 0 then (0, sS u 0 1) else (if 8 ≤ x1 then (0, sS u 0 1) else (u.2 5 x1.toNatClampNeg, sS u 0 0)))
def ok_m_memory (u : St) (x1 : Int32) : Prop := ((x1 < 0 → True) ∧ (¬ x1 < 0 → ((8 ≤ x1 → True) ∧ (¬ 8 ≤ x1 → (vp_in x1 8 ∧ True)))))
set_option maxHeartbeats 4000000 in
set_option maxRecDepth 100000 in
theorem c_m_memory (l : Launch) (D : va_G) (am : Nat → Nat) (cI cZ : ClassId) (zz : (Nat → Prop) → State → Heap → Prop) (hzz : Zok zz) (u : St) (x1 : Int32) (hok : ok_m_memory u x1) : tfI l D vwCl (tyT cI cZ) zz yX4_memory wsX4_memory ({ frames := 0, cells := 0, slots := 0, locals := 0 } : Room) [.ref (am 0), .int x1] (wM am cI cZ u) (p_m_memory u x1).1 (wM am cI cZ ((p_m_memory u x1).2)) := by
  intro sz
  unfold ok_m_memory at hok
  refine Met.ofW (cc := cX4_memory) (maxL := 2) (ret := (some .int)) (by decide) rfl ?_
  intro p e s m args below meth c s₁ B hml hv
  obtain ⟨rfl, hsz, hP, hK, hD0, hZ⟩ := hv
  have hx := B.exec
  have hb := B.bytes
  have hr := B.returns
  have hts := atoms_spec (ws := wsX4_memory) B.pre
  have hown : s.vm.findClass RX4 = some m.cls := findClass_of_methodNamed B.named
  have hlocks := B.notSynchronized
  subst hsz
  have hD := hD0.self (sz := s.heap.size)
  generalize hAe : va_A (wM am cI cZ u) s.heap.size = A at hD hZ ⊢
  have hA : ∀ q : Nat, s.heap.size ≤ q → A q := fun q h => by rw [← hAe]; exact Or.inr h
  have hS : va_S A s.heap s.heap [] := va_S.rf
  have Cx : cxt p s m ([.ref (am 0), .int x1] : List Value).toArray meth c cX4_memory 2 (some .int) wsX4_memory RX4 D vwCl (tyT cI cZ) zz A := ⟨hx, hb, hr, hts, hown, hlocks, hml, hK, hA, hZ⟩
  have hl := lv_entry ([.ref (am 0), .int x1]) (n := 2) (Nat.le_of_ble_eq_true rfl)
  rw [lg_entry_eq]
  generalize (lg_sl ([.ref (am 0), .int x1]) ++ List.replicate (2 - (lg_sl ([.ref (am 0), .int x1])).length) Slot.unset).toArray = ls at hl ⊢
  have hl : lv_has ls 2 [(0, .ref (am 0)), (1, .int x1)] := hl
  refine lv_aload_n hx hb dX4_memory_0 rfl (lv_at hl 0 rfl) ?_
  refine lv_iload_n hx hb dX4_memory_1 rfl (lv_at hl 1 rfl) ?_
  refine lv_if_lt (tgt := 15) hx hb dX4_memory_2 (by decide) (fun c_1 => ?_) (fun c_1 => ?_)
  · have hok := hok.1 c_1
    refine lv_iconst (v := 1) hx hb dX4_memory_15 (by decide) ?_
    refine va_put (ci := 4) (v := .int 1) (ty := .int) (C := RX4) (T := TX4) (N := 22) hx hb hts (ivX4 _) tyX4 tyX4_ok nmX4 hown hK hP hD hS 0 rfl rfl 0 (by decide) (hts _ (tb_c tw_3_101)) (fun _ h9 => h9) rfl (by decide +kernel) rfl rfl (Nat.le_of_ble_eq_true rfl) dX4_memory_16 (fun H locs hP hD hS => ?_)
    have hP : va_P D vwCl (wM am cI cZ (sS u 0 1)) H := hP
    have hD : va_D A (wM am cI cZ (sS u 0 1)) := hD
    refine lv_aload_n hx hb dX4_memory_19 rfl (lv_at hl 0 rfl) ?_
    refine va_get (ci := 4) (v := .int 1) (C := RX4) (T := TX4) (N := 22) hx hb hts (ivX4 _) hown hK hP 0 rfl rfl 0 (by decide) (hts _ (tb_c tw_3_101)) (fun _ h9 => h9) rfl dX4_memory_20 ?_
    refine lv_if_le (tgt := 30) hx hb dX4_memory_23 (by decide) (fun c_2 => absurd c_2 (by decide)) (fun c_2 => ?_)
    refine lv_iconst (v := 0) hx hb dX4_memory_26 (by decide) ?_
    refine lv_goto (tgt := 36) hx hb dX4_memory_27 (by decide) ?_
    have e9 : p_m_memory u x1 = (0, sS u 0 1) := by rw [p_m_memory, if_pos c_1]
    rw [e9]
    exact W.iret hx hb hr (fun t ht hW => ⟨⟨_, (), rfl, rfl, by rw [ht]; exact hP, va_K.moved hW.alike hK, hD⟩, hS.F ht⟩) hS.2.2 dX4_memory_36
  · have hok := hok.2 c_1
    refine lv_iload_n hx hb dX4_memory_5 rfl (lv_at hl 1 rfl) ?_
    refine lv_bipush (v := 8) hx hb dX4_memory_6 (by decide) ?_
    refine lv_icmp_ge (tgt := 15) hx hb dX4_memory_8 (by decide) (fun c_3 => ?_) (fun c_3 => ?_)
    · have hok := hok.1 c_3
      refine lv_iconst (v := 1) hx hb dX4_memory_15 (by decide) ?_
      refine va_put (ci := 4) (v := .int 1) (ty := .int) (C := RX4) (T := TX4) (N := 22) hx hb hts (ivX4 _) tyX4 tyX4_ok nmX4 hown hK hP hD hS 0 rfl rfl 0 (by decide) (hts _ (tb_c tw_3_101)) (fun _ h9 => h9) rfl (by decide +kernel) rfl rfl (Nat.le_of_ble_eq_true rfl) dX4_memory_16 (fun H locs hP hD hS => ?_)
      have hP : va_P D vwCl (wM am cI cZ (sS u 0 1)) H := hP
      have hD : va_D A (wM am cI cZ (sS u 0 1)) := hD
      refine lv_aload_n hx hb dX4_memory_19 rfl (lv_at hl 0 rfl) ?_
      refine va_get (ci := 4) (v := .int 1) (C := RX4) (T := TX4) (N := 22) hx hb hts (ivX4 _) hown hK hP 0 rfl rfl 0 (by decide) (hts _ (tb_c tw_3_101)) (fun _ h9 => h9) rfl dX4_memory_20 ?_
      refine lv_if_le (tgt := 30) hx hb dX4_memory_23 (by decide) (fun c_4 => absurd c_4 (by decide)) (fun c_4 => ?_)
      refine lv_iconst (v := 0) hx hb dX4_memory_26 (by decide) ?_
      refine lv_goto (tgt := 36) hx hb dX4_memory_27 (by decide) ?_
      have e9 : p_m_memory u x1 = (0, sS u 0 1) := by rw [p_m_memory, if_neg c_1, if_pos c_3]
      rw [e9]
      exact W.iret hx hb hr (fun t ht hW => ⟨⟨_, (), rfl, rfl, by rw [ht]; exact hP, va_K.moved hW.alike hK, hD⟩, hS.F ht⟩) hS.2.2 dX4_memory_36
    · have hok := hok.2 c_3
      refine lv_iconst (v := 0) hx hb dX4_memory_11 (by decide) ?_
      refine lv_goto (tgt := 16) hx hb dX4_memory_12 (by decide) ?_
      refine va_put (ci := 4) (v := .int 0) (ty := .int) (C := RX4) (T := TX4) (N := 22) hx hb hts (ivX4 _) tyX4 tyX4_ok nmX4 hown hK hP hD hS 0 rfl rfl 0 (by decide) (hts _ (tb_c tw_3_101)) (fun _ h9 => h9) rfl (by decide +kernel) rfl rfl (Nat.le_of_ble_eq_true rfl) dX4_memory_16 (fun H locs hP hD hS => ?_)
      have hP : va_P D vwCl (wM am cI cZ (sS u 0 0)) H := hP
      have hD : va_D A (wM am cI cZ (sS u 0 0)) := hD
      refine lv_aload_n hx hb dX4_memory_19 rfl (lv_at hl 0 rfl) ?_
      refine va_get (ci := 4) (v := .int 0) (C := RX4) (T := TX4) (N := 22) hx hb hts (ivX4 _) hown hK hP 0 rfl rfl 0 (by decide) (hts _ (tb_c tw_3_101)) (fun _ h9 => h9) rfl dX4_memory_20 ?_
      refine lv_if_le (tgt := 30) hx hb dX4_memory_23 (by decide) (fun c_5 => ?_) (fun c_5 => absurd c_5 (by decide))
      refine lv_aload_n hx hb dX4_memory_30 rfl (lv_at hl 0 rfl) ?_
      refine va_get (ci := 4) (v := .ref (am 6)) (C := RX4) (T := TX4) (N := 22) hx hb hts (ivX4 _) hown hK hP 0 rfl rfl 7 (by decide) (hts _ (tb_c tw_3_108)) (fun _ h9 => h9) rfl dX4_memory_31 ?_
      refine lv_iload_n hx hb dX4_memory_34 rfl (lv_at hl 1 rfl) ?_
      obtain ⟨h_6, hok⟩ := hok
      refine va_iald (f := u.2 5) hx hb hK hP 6 0 rfl rfl h_6 dX4_memory_35 ?_
      have e9 : p_m_memory u x1 = (u.2 5 x1.toNatClampNeg, sS u 0 0) := by rw [p_m_memory, if_neg c_1, if_neg c_3]
      rw [e9]
      exact W.iret hx hb hr (fun t ht hW => ⟨⟨_, (), rfl, rfl, by rw [ht]; exact hP, va_K.moved hW.alike hK, hD⟩, hS.F ht⟩) hS.2.2 dX4_memory_36

def p_m_start_41 : Nat → St → Int32 → St
  | 0, u, _ => u
  | n + 1, u, x1 => (if 8 ≤ x1 then u else p_m_start_41 n (sA u 10 x1 0) (x1 + 1))
def ok_m_start_41 : Nat → St → Int32 → Prop
  | 0, _, _ => False
  | n + 1, u, x1 => ((8 ≤ x1 → True) ∧ (¬ 8 ≤ x1 → (vp_in x1 8 ∧ ok_m_start_41 n (sA u 10 x1 0) (x1 + 1))))
set_option maxHeartbeats 4000000 in
set_option maxRecDepth 100000 in
theorem w_m_start_41 {p : Program} {l : Launch} {e : Env} {s : State} {m : MethodId} {args : Array Value} {below : List Frame} {meth : Method} {c : Code} {D : va_G} {A : Nat → Prop} (am : Nat → Nat) (cI cZ : ClassId) (zz : (Nat → Prop) → State → Heap → Prop) (hzz : Zok zz) (Cx : cxt p s m args meth c cX4_start 2 none wsX4_start RX4 D vwCl (tyT cI cZ) zz A) : ∀ (n : Nat) (u : St) (x1 : Int32) (H : Heap) (locs : List Loc) (ls : Array Slot), ok_m_start_41 n u x1 → va_P D vwCl (wM am cI cZ u) H → va_D A (wM am cI cZ u) → va_S A s.heap H locs → lv_has ls 2 [(0, .ref (am 0)), (1, .int x1)] → W p l e ({ frames := 0, cells := 0, slots := 0, locals := 0 } : Room) s m args below meth c H locs 0 0 (MQ below (qqV D vwCl (tyT cI cZ) (wM am cI cZ (p_m_start_41 n u x1)) A) args s 0 0 A) (F0 m 41 ls []) := by
  obtain ⟨hx, hb, hr, hts, hown, hlocks, hml, hK, hA, hZ⟩ := id Cx
  intro n
  induction n with
  | zero =>
    intro u x1 H locs ls hok
    exact False.elim hok
  | succ n ih =>
    intro u x1 H locs ls hok hP hD hS hl
    unfold ok_m_start_41 at hok
    refine lv_iload_n hx hb dX4_start_41 rfl (lv_at hl 1 rfl) ?_
    refine lv_bipush (v := 8) hx hb dX4_start_42 (by decide) ?_
    refine lv_icmp_ge (tgt := 60) hx hb dX4_start_44 (by decide) (fun c_1 => ?_) (fun c_1 => ?_)
    · have hok := hok.1 c_1
      have e9 : p_m_start_41 (n + 1) u x1 = u := by rw [p_m_start_41, if_pos c_1]
      rw [e9]
      exact W.vret hx hb hr (fun t ht hW => ⟨⟨(), rfl, trivial, by rw [ht]; exact hP, va_K.moved hW.alike hK, hD⟩, hS.F ht⟩) hS.2.2 dX4_start_60
    · have hok := hok.2 c_1
      refine lv_aload_n hx hb dX4_start_47 rfl (lv_at hl 0 rfl) ?_
      refine va_get (ci := 4) (v := .ref (am 11)) (C := RX4) (T := TX4) (N := 22) hx hb hts (ivX4 _) hown hK hP 0 rfl rfl 19 (by decide) (hts _ (tb_c tw_3_120)) (fun _ h9 => h9) rfl dX4_start_48 ?_
      refine lv_iload_n hx hb dX4_start_51 rfl (lv_at hl 1 rfl) ?_
      refine lv_iconst (v := 0) hx hb dX4_start_52 (by decide) ?_
      obtain ⟨h_2, hok⟩ := hok
      refine va_iast hx hb hK hP hD hS 11 0 rfl rfl h_2 dX4_start_53 (fun H locs hP hD hS => ?_)
      have hP : va_P D vwCl (wM am cI cZ (sA u 10 x1 0)) H := hP
      have hD : va_D A (wM am cI cZ (sA u 10 x1 0)) := hD
      refine lv_iinc (v := x1 + 1) (lv' := [(1, .int (x1 + 1)), (0, .ref (am 0))]) hx hb dX4_start_54 hl (k := 1) rfl rfl (by decide) rfl (fun ls hl => ?_)
      refine lv_goto (tgt := 41) hx hb dX4_start_57 (by decide) ?_
      have e9 : p_m_start_41 (n + 1) u x1 = p_m_start_41 n (sA u 10 x1 0) (x1 + 1) := by rw [p_m_start_41, if_neg c_1]
      rw [e9]
      exact ih (sA u 10 x1 0) (x1 + 1) _ _ _ hok hP hD hS (lv_sub hl [1, 0] rfl)
def p_m_start (u : St) : St := (if (u.1 2) = 0 then sS u 0 1 else p_m_start_41 64 (sS (sS (sS (sS u 0 0) 6 1) 8 0) 9 0) 0)
def ok_m_start (u : St) : Prop := (((u.1 2) = 0 → True) ∧ (¬ (u.1 2) = 0 → ok_m_start_41 64 (sS (sS (sS (sS u 0 0) 6 1) 8 0) 9 0) 0))
set_option maxHeartbeats 4000000 in
set_option maxRecDepth 100000 in
theorem c_m_start (l : Launch) (D : va_G) (am : Nat → Nat) (cI cZ : ClassId) (zz : (Nat → Prop) → State → Heap → Prop) (hzz : Zok zz) (u : St) (hok : ok_m_start u) : tfV l D vwCl (tyT cI cZ) zz yX4_start wsX4_start ({ frames := 0, cells := 0, slots := 0, locals := 0 } : Room) [.ref (am 0)] (wM am cI cZ u) (wM am cI cZ (p_m_start u)) := by
  intro sz
  unfold ok_m_start at hok
  refine Met.ofW (cc := cX4_start) (maxL := 2) (ret := none) (by decide) rfl ?_
  intro p e s m args below meth c s₁ B hml hv
  obtain ⟨rfl, hsz, hP, hK, hD0, hZ⟩ := hv
  have hx := B.exec
  have hb := B.bytes
  have hr := B.returns
  have hts := atoms_spec (ws := wsX4_start) B.pre
  have hown : s.vm.findClass RX4 = some m.cls := findClass_of_methodNamed B.named
  have hlocks := B.notSynchronized
  subst hsz
  have hD := hD0.self (sz := s.heap.size)
  generalize hAe : va_A (wM am cI cZ u) s.heap.size = A at hD hZ ⊢
  have hA : ∀ q : Nat, s.heap.size ≤ q → A q := fun q h => by rw [← hAe]; exact Or.inr h
  have hS : va_S A s.heap s.heap [] := va_S.rf
  have Cx : cxt p s m ([.ref (am 0)] : List Value).toArray meth c cX4_start 2 none wsX4_start RX4 D vwCl (tyT cI cZ) zz A := ⟨hx, hb, hr, hts, hown, hlocks, hml, hK, hA, hZ⟩
  have hl := lv_entry ([.ref (am 0)]) (n := 2) (Nat.le_of_ble_eq_true rfl)
  rw [lg_entry_eq]
  generalize (lg_sl ([.ref (am 0)]) ++ List.replicate (2 - (lg_sl ([.ref (am 0)])).length) Slot.unset).toArray = ls at hl ⊢
  have hl : lv_has ls 2 [(0, .ref (am 0))] := hl
  refine lv_aload_n hx hb dX4_start_0 rfl (lv_at hl 0 rfl) ?_
  refine lv_aload_n hx hb dX4_start_1 rfl (lv_at hl 0 rfl) ?_
  refine va_get (ci := 4) (v := .int (u.1 2)) (C := RX4) (T := TX4) (N := 22) hx hb hts (ivX4 _) hown hK hP 0 rfl rfl 8 (by decide) (hts _ (tb_c tw_3_109)) (fun _ h9 => h9) rfl dX4_start_2 ?_
  refine lv_if_eq (tgt := 12) hx hb dX4_start_5 (by decide) (fun c_1 => ?_) (fun c_1 => ?_)
  · have hok := hok.1 c_1
    refine lv_iconst (v := 1) hx hb dX4_start_12 (by decide) ?_
    refine va_put (ci := 4) (v := .int 1) (ty := .int) (C := RX4) (T := TX4) (N := 22) hx hb hts (ivX4 _) tyX4 tyX4_ok nmX4 hown hK hP hD hS 0 rfl rfl 0 (by decide) (hts _ (tb_c tw_3_101)) (fun _ h9 => h9) rfl (by decide +kernel) rfl rfl (Nat.le_of_ble_eq_true rfl) dX4_start_13 (fun H locs hP hD hS => ?_)
    have hP : va_P D vwCl (wM am cI cZ (sS u 0 1)) H := hP
    have hD : va_D A (wM am cI cZ (sS u 0 1)) := hD
    refine lv_aload_n hx hb dX4_start_16 rfl (lv_at hl 0 rfl) ?_
    refine va_get (ci := 4) (v := .int 1) (C := RX4) (T := TX4) (N := 22) hx hb hts (ivX4 _) hown hK hP 0 rfl rfl 0 (by decide) (hts _ (tb_c tw_3_101)) (fun _ h9 => h9) rfl dX4_start_17 ?_
    refine lv_if_le (tgt := 24) hx hb dX4_start_20 (by decide) (fun c_2 => absurd c_2 (by decide)) (fun c_2 => ?_)
    have e9 : p_m_start u = sS u 0 1 := by rw [p_m_start, if_pos c_1]
    rw [e9]
    exact W.vret hx hb hr (fun t ht hW => ⟨⟨(), rfl, trivial, by rw [ht]; exact hP, va_K.moved hW.alike hK, hD⟩, hS.F ht⟩) hS.2.2 dX4_start_23
  · have hok := hok.2 c_1
    refine lv_iconst (v := 0) hx hb dX4_start_8 (by decide) ?_
    refine lv_goto (tgt := 13) hx hb dX4_start_9 (by decide) ?_
    refine va_put (ci := 4) (v := .int 0) (ty := .int) (C := RX4) (T := TX4) (N := 22) hx hb hts (ivX4 _) tyX4 tyX4_ok nmX4 hown hK hP hD hS 0 rfl rfl 0 (by decide) (hts _ (tb_c tw_3_101)) (fun _ h9 => h9) rfl (by decide +kernel) rfl rfl (Nat.le_of_ble_eq_true rfl) dX4_start_13 (fun H locs hP hD hS => ?_)
    have hP : va_P D vwCl (wM am cI cZ (sS u 0 0)) H := hP
    have hD : va_D A (wM am cI cZ (sS u 0 0)) := hD
    refine lv_aload_n hx hb dX4_start_16 rfl (lv_at hl 0 rfl) ?_
    refine va_get (ci := 4) (v := .int 0) (C := RX4) (T := TX4) (N := 22) hx hb hts (ivX4 _) hown hK hP 0 rfl rfl 0 (by decide) (hts _ (tb_c tw_3_101)) (fun _ h9 => h9) rfl dX4_start_17 ?_
    refine lv_if_le (tgt := 24) hx hb dX4_start_20 (by decide) (fun c_3 => ?_) (fun c_3 => absurd c_3 (by decide))
    refine lv_aload_n hx hb dX4_start_24 rfl (lv_at hl 0 rfl) ?_
    refine lv_iconst (v := 1) hx hb dX4_start_25 (by decide) ?_
    refine va_put (ci := 4) (v := .int 1) (ty := .int) (C := RX4) (T := TX4) (N := 22) hx hb hts (ivX4 _) tyX4 tyX4_ok nmX4 hown hK hP hD hS 0 rfl rfl 16 (by decide) (hts _ (tb_c tw_3_117)) (fun _ h9 => h9) rfl (by decide +kernel) rfl rfl (Nat.le_of_ble_eq_true rfl) dX4_start_26 (fun H locs hP hD hS => ?_)
    have hP : va_P D vwCl (wM am cI cZ (sS (sS u 0 0) 6 1)) H := hP
    have hD : va_D A (wM am cI cZ (sS (sS u 0 0) 6 1)) := hD
    refine lv_aload_n hx hb dX4_start_29 rfl (lv_at hl 0 rfl) ?_
    refine lv_iconst (v := 0) hx hb dX4_start_30 (by decide) ?_
    refine va_put (ci := 4) (v := .int 0) (ty := .int) (C := RX4) (T := TX4) (N := 22) hx hb hts (ivX4 _) tyX4 tyX4_ok nmX4 hown hK hP hD hS 0 rfl rfl 18 (by decide) (hts _ (tb_c tw_3_119)) (fun _ h9 => h9) rfl (by decide +kernel) rfl rfl (Nat.le_of_ble_eq_true rfl) dX4_start_31 (fun H locs hP hD hS => ?_)
    have hP : va_P D vwCl (wM am cI cZ (sS (sS (sS u 0 0) 6 1) 8 0)) H := hP
    have hD : va_D A (wM am cI cZ (sS (sS (sS u 0 0) 6 1) 8 0)) := hD
    refine lv_aload_n hx hb dX4_start_34 rfl (lv_at hl 0 rfl) ?_
    refine lv_iconst (v := 0) hx hb dX4_start_35 (by decide) ?_
    refine va_put (ci := 4) (v := .int 0) (ty := .int) (C := RX4) (T := TX4) (N := 22) hx hb hts (ivX4 _) tyX4 tyX4_ok nmX4 hown hK hP hD hS 0 rfl rfl 20 (by decide) (hts _ (tb_c tw_3_121)) (fun _ h9 => h9) rfl (by decide +kernel) rfl rfl (Nat.le_of_ble_eq_true rfl) dX4_start_36 (fun H locs hP hD hS => ?_)
    have hP : va_P D vwCl (wM am cI cZ (sS (sS (sS (sS u 0 0) 6 1) 8 0) 9 0)) H := hP
    have hD : va_D A (wM am cI cZ (sS (sS (sS (sS u 0 0) 6 1) 8 0) 9 0)) := hD
    refine lv_iconst (v := 0) hx hb dX4_start_39 (by decide) ?_
    refine lv_istore_n (lv' := [(1, .int 0), (0, .ref (am 0))]) hx hb dX4_start_40 rfl hl (by decide) rfl (fun ls hl => ?_)
    have e9 : p_m_start u = p_m_start_41 64 (sS (sS (sS (sS u 0 0) 6 1) 8 0) 9 0) 0 := by rw [p_m_start, if_neg c_1]
    rw [e9]
    exact w_m_start_41 am cI cZ zz hzz Cx 64 (sS (sS (sS (sS u 0 0) 6 1) 8 0) 9 0) 0 _ _ _ hok hP hD hS (lv_sub hl [1, 0] rfl)

def p_m_act (u : St) (x1 : Int32) : Int32 × St := (if (u.2 0 x1.toNatClampNeg) = 0 then (p_m_lengthOf u x1, sA (sS u 8 (x1 + 1)) 10 (u.2 2 x1.toNatClampNeg) (u.2 1 x1.toNatClampNeg)) else (if (u.2 0 x1.toNatClampNeg) = 1 then (p_m_lengthOf u x1, sA (sS u 8 (x1 + 1)) 10 (u.2 2 x1.toNatClampNeg) (p_m_computed (u.2 1 x1.toNatClampNeg) (u.2 10 (u.2 3 x1.toNatClampNeg).toNatClampNeg) (u.2 10 (u.2 4 x1.toNatClampNeg).toNatClampNeg))) else (if (u.2 0 x1.toNatClampNeg) = 2 then (p_m_lengthOf u x1, sA (sS u 8 (x1 + 1)) 10 (u.2 1 x1.toNatClampNeg) (u.2 5 ((u.2 10 (u.2 2 x1.toNatClampNeg).toNatClampNeg) &&& 7).toNatClampNeg)) else (if (u.2 0 x1.toNatClampNeg) = 3 then (p_m_lengthOf u x1, sA (sS u 8 (x1 + 1)) 5 ((u.2 10 (u.2 1 x1.toNatClampNeg).toNatClampNeg) &&& 7) (u.2 10 (u.2 2 x1.toNatClampNeg).toNatClampNeg)) else (if (u.2 0 x1.toNatClampNeg) = 4 then (p_m_lengthOf u x1, sS (sS u 8 (x1 + 1)) 8 (u.2 1 x1.toNatClampNeg)) else (if (u.2 0 x1.toNatClampNeg) = 5 then (if (p_m_holds (u.2 1 x1.toNatClampNeg) (u.2 10 (u.2 2 x1.toNatClampNeg).toNatClampNeg) (u.2 10 (u.2 3 x1.toNatClampNeg).toNatClampNeg)) = 0 then (if (u.2 8 x1.toNatClampNeg) = 0 then (p_m_lengthOf u x1, sS u 8 (x1 + 1)) else ((p_m_lengthOf u x1) - 1, sS u 8 (x1 + 1))) else (p_m_lengthOf u x1, sS (sS u 8 (x1 + 1)) 8 (u.2 4 x1.toNatClampNeg))) else (if (u.2 0 x1.toNatClampNeg) = 6 then (p_m_lengthOf u x1, sS (sA (sS u 8 (x1 + 1)) 11 ((u.1 9) - (u.1 9) / 16 * 16) (u.2 10 (u.2 1 x1.toNatClampNeg).toNatClampNeg)) 9 ((u.1 9) + 1)) else (if (u.2 0 x1.toNatClampNeg) = 7 then (p_m_lengthOf u x1, sS (sS (sS (sS u 8 (x1 + 1)) 8 x1) 6 2) 7 (u.2 1 x1.toNatClampNeg)) else (p_m_lengthOf u x1, sS (sS (sS (sS u 8 (x1 + 1)) 8 x1) 6 3) 7 (u.2 1 x1.toNatClampNeg))))))))))
def ok_m_act (u : St) (x1 : Int32) : Prop := (ok_m_lengthOf u x1 ∧ (vp_in x1 48 ∧ (((u.2 0 x1.toNatClampNeg) = 0 → (vp_in x1 48 ∧ (vp_in x1 48 ∧ (vp_in (u.2 2 x1.toNatClampNeg) 8 ∧ True)))) ∧ (¬ (u.2 0 x1.toNatClampNeg) = 0 → (((u.2 0 x1.toNatClampNeg) = 1 → (vp_in x1 48 ∧ (vp_in x1 48 ∧ (vp_in x1 48 ∧ (vp_in (u.2 3 x1.toNatClampNeg) 8 ∧ (vp_in x1 48 ∧ (vp_in (u.2 4 x1.toNatClampNeg) 8 ∧ (vp_in (u.2 2 x1.toNatClampNeg) 8 ∧ True)))))))) ∧ (¬ (u.2 0 x1.toNatClampNeg) = 1 → (((u.2 0 x1.toNatClampNeg) = 2 → (vp_in x1 48 ∧ (vp_in x1 48 ∧ (vp_in (u.2 2 x1.toNatClampNeg) 8 ∧ (vp_in ((u.2 10 (u.2 2 x1.toNatClampNeg).toNatClampNeg) &&& 7) 8 ∧ (vp_in (u.2 1 x1.toNatClampNeg) 8 ∧ True)))))) ∧ (¬ (u.2 0 x1.toNatClampNeg) = 2 → (((u.2 0 x1.toNatClampNeg) = 3 → (vp_in x1 48 ∧ (vp_in (u.2 1 x1.toNatClampNeg) 8 ∧ (vp_in x1 48 ∧ (vp_in (u.2 2 x1.toNatClampNeg) 8 ∧ (vp_in ((u.2 10 (u.2 1 x1.toNatClampNeg).toNatClampNeg) &&& 7) 8 ∧ True)))))) ∧ (¬ (u.2 0 x1.toNatClampNeg) = 3 → (((u.2 0 x1.toNatClampNeg) = 4 → (vp_in x1 48 ∧ True)) ∧ (¬ (u.2 0 x1.toNatClampNeg) = 4 → (((u.2 0 x1.toNatClampNeg) = 5 → (vp_in x1 48 ∧ (vp_in x1 48 ∧ (vp_in (u.2 2 x1.toNatClampNeg) 8 ∧ (vp_in x1 48 ∧ (vp_in (u.2 3 x1.toNatClampNeg) 8 ∧ (((p_m_holds (u.2 1 x1.toNatClampNeg) (u.2 10 (u.2 2 x1.toNatClampNeg).toNatClampNeg) (u.2 10 (u.2 3 x1.toNatClampNeg).toNatClampNeg)) = 0 → (vp_in x1 48 ∧ True)) ∧ (¬ (p_m_holds (u.2 1 x1.toNatClampNeg) (u.2 10 (u.2 2 x1.toNatClampNeg).toNatClampNeg) (u.2 10 (u.2 3 x1.toNatClampNeg).toNatClampNeg)) = 0 → (vp_in x1 48 ∧ True))))))))) ∧ (¬ (u.2 0 x1.toNatClampNeg) = 5 → (((u.2 0 x1.toNatClampNeg) = 6 → (vp_in x1 48 ∧ (vp_in (u.2 1 x1.toNatClampNeg) 8 ∧ (vp_in ((u.1 9) - (u.1 9) / 16 * 16) 16 ∧ True)))) ∧ (¬ (u.2 0 x1.toNatClampNeg) = 6 → (vp_in x1 48 ∧ (((u.2 0 x1.toNatClampNeg) = 7 → (vp_in x1 48 ∧ True)) ∧ (¬ (u.2 0 x1.toNatClampNeg) = 7 → (vp_in x1 48 ∧ True))))))))))))))))))))
set_option maxHeartbeats 4000000 in
set_option maxRecDepth 100000 in
theorem c_m_act (l : Launch) (D : va_G) (am : Nat → Nat) (cI cZ : ClassId) (zz : (Nat → Prop) → State → Heap → Prop) (hzz : Zok zz) (u : St) (x1 : Int32) (hok : ok_m_act u x1) : tfI l D vwCl (tyT cI cZ) zz yX4_act wsX4_act ({ frames := 4, cells := 0, slots := 0, locals := 84 } : Room) [.ref (am 0), .int x1] (wM am cI cZ u) (p_m_act u x1).1 (wM am cI cZ ((p_m_act u x1).2)) := by
  intro sz
  unfold ok_m_act at hok
  refine Met.ofW (cc := cX4_act) (maxL := 3) (ret := (some .int)) (by decide) rfl ?_
  intro p e s m args below meth c s₁ B hml hv
  obtain ⟨rfl, hsz, hP, hK, hD0, hZ⟩ := hv
  have hx := B.exec
  have hb := B.bytes
  have hr := B.returns
  have hts := atoms_spec (ws := wsX4_act) B.pre
  have hown : s.vm.findClass RX4 = some m.cls := findClass_of_methodNamed B.named
  have hlocks := B.notSynchronized
  subst hsz
  have hD := hD0.self (sz := s.heap.size)
  generalize hAe : va_A (wM am cI cZ u) s.heap.size = A at hD hZ ⊢
  have hA : ∀ q : Nat, s.heap.size ≤ q → A q := fun q h => by rw [← hAe]; exact Or.inr h
  have hS : va_S A s.heap s.heap [] := va_S.rf
  have Cx : cxt p s m ([.ref (am 0), .int x1] : List Value).toArray meth c cX4_act 3 (some .int) wsX4_act RX4 D vwCl (tyT cI cZ) zz A := ⟨hx, hb, hr, hts, hown, hlocks, hml, hK, hA, hZ⟩
  have hl := lv_entry ([.ref (am 0), .int x1]) (n := 3) (Nat.le_of_ble_eq_true rfl)
  rw [lg_entry_eq]
  generalize (lg_sl ([.ref (am 0), .int x1]) ++ List.replicate (3 - (lg_sl ([.ref (am 0), .int x1])).length) Slot.unset).toArray = ls at hl ⊢
  have hl : lv_has ls 3 [(0, .ref (am 0)), (1, .int x1)] := hl
  refine lv_aload_n hx hb dX4_act_0 rfl (lv_at hl 0 rfl) ?_
  refine lv_iload_n hx hb dX4_act_1 rfl (lv_at hl 1 rfl) ?_
  obtain ⟨h_1, hok⟩ := hok
  refine k_callVi (As := [.int x1]) (rest := []) hzz ⟨hx, hb, hml, hown, hts⟩ (c_m_lengthOf l D am cI cZ zz hzz u x1 h_1) (cwV 1 hts (tb_V tw_3_234 tw_3_236 slX4_lengthOf tw_1_5 tw_3_237) rfl rfl rfl (by decide +kernel) ⟨Nat.le_of_ble_eq_true rfl, Nat.le_of_ble_eq_true rfl⟩) (va_recv hK hP (ci := 4) (q0 := 0) rfl rfl) rfl hl.1 rfl (lv_room (Nat.le_of_ble_eq_true rfl)) dX4_act_2 ⟨Nat.le_of_ble_eq_true rfl, Nat.le_of_ble_eq_true rfl⟩ hP hK hD hS hA hZ (fun H locs hP hD hS => ?_)
  refine lv_istore_n (lv' := [(2, .int (p_m_lengthOf u x1)), (0, .ref (am 0)), (1, .int x1)]) hx hb dX4_act_5 rfl hl (by decide) rfl (fun ls hl => ?_)
  refine lv_aload_n hx hb dX4_act_6 rfl (lv_at hl 1 rfl) ?_
  refine lv_iload_n hx hb dX4_act_7 rfl (lv_at hl 2 rfl) ?_
  refine lv_iconst (v := 1) hx hb dX4_act_8 (by decide) ?_
  refine lv_iadd hx hb dX4_act_9 ?_
  refine va_put (ci := 4) (v := .int (x1 + 1)) (ty := .int) (C := RX4) (T := TX4) (N := 22) hx hb hts (ivX4 _) tyX4 tyX4_ok nmX4 hown hK hP hD hS 0 rfl rfl 18 (by decide) (hts _ (tb_c tw_3_119)) (fun _ h9 => h9) rfl (by decide +kernel) rfl rfl (Nat.le_of_ble_eq_true rfl) dX4_act_10 (fun H locs hP hD hS => ?_)
  have hP : va_P D vwCl (wM am cI cZ (sS u 8 (x1 + 1))) H := hP
  have hD : va_D A (wM am cI cZ (sS u 8 (x1 + 1))) := hD
  refine lv_aload_n hx hb dX4_act_13 rfl (lv_at hl 1 rfl) ?_
  refine va_get (ci := 4) (v := .ref (am 1)) (C := RX4) (T := TX4) (N := 22) hx hb hts (ivX4 _) hown hK hP 0 rfl rfl 2 (by decide) (hts _ (tb_c tw_3_103)) (fun _ h9 => h9) rfl dX4_act_14 ?_
  refine lv_iload_n hx hb dX4_act_17 rfl (lv_at hl 2 rfl) ?_
  obtain ⟨h_2, hok⟩ := hok
  refine va_iald (f := u.2 0) hx hb hK hP 1 0 rfl rfl h_2 dX4_act_18 ?_
  rcases Classical.em ((u.2 0 x1.toNatClampNeg) = 0) with c_3 | c_3
  · have hok := hok.1 c_3
    refine lv_tableIn (tgt := 60) hx hb dX4_act_19 (by rw [c_3]; decide) (by rw [c_3]; decide) (by rw [c_3]; rfl) (by decide) ?_
    refine lv_aload_n hx hb dX4_act_60 rfl (lv_at hl 1 rfl) ?_
    refine va_get (ci := 4) (v := .ref (am 11)) (C := RX4) (T := TX4) (N := 22) hx hb hts (ivX4 _) hown hK hP 0 rfl rfl 19 (by decide) (hts _ (tb_c tw_3_120)) (fun _ h9 => h9) rfl dX4_act_61 ?_
    refine lv_aload_n hx hb dX4_act_64 rfl (lv_at hl 1 rfl) ?_
    refine va_get (ci := 4) (v := .ref (am 3)) (C := RX4) (T := TX4) (N := 22) hx hb hts (ivX4 _) hown hK hP 0 rfl rfl 4 (by decide) (hts _ (tb_c tw_3_105)) (fun _ h9 => h9) rfl dX4_act_65 ?_
    refine lv_iload_n hx hb dX4_act_68 rfl (lv_at hl 2 rfl) ?_
    obtain ⟨h_4, hok⟩ := hok
    refine va_iald (f := u.2 2) hx hb hK hP 3 0 rfl rfl h_4 dX4_act_69 ?_
    refine lv_aload_n hx hb dX4_act_70 rfl (lv_at hl 1 rfl) ?_
    refine va_get (ci := 4) (v := .ref (am 2)) (C := RX4) (T := TX4) (N := 22) hx hb hts (ivX4 _) hown hK hP 0 rfl rfl 3 (by decide) (hts _ (tb_c tw_3_104)) (fun _ h9 => h9) rfl dX4_act_71 ?_
    refine lv_iload_n hx hb dX4_act_74 rfl (lv_at hl 2 rfl) ?_
    obtain ⟨h_5, hok⟩ := hok
    refine va_iald (f := u.2 1) hx hb hK hP 2 0 rfl rfl h_5 dX4_act_75 ?_
    obtain ⟨h_6, hok⟩ := hok
    refine va_iast hx hb hK hP hD hS 11 0 rfl rfl h_6 dX4_act_76 (fun H locs hP hD hS => ?_)
    have hP : va_P D vwCl (wM am cI cZ (sA (sS u 8 (x1 + 1)) 10 (u.2 2 x1.toNatClampNeg) (u.2 1 x1.toNatClampNeg))) H := hP
    have hD : va_D A (wM am cI cZ (sA (sS u 8 (x1 + 1)) 10 (u.2 2 x1.toNatClampNeg) (u.2 1 x1.toNatClampNeg))) := hD
    refine lv_goto (tgt := 342) hx hb dX4_act_77 (by decide) ?_
    refine lv_iload_n hx hb dX4_act_342 rfl (lv_at hl 0 rfl) ?_
    have e9 : p_m_act u x1 = (p_m_lengthOf u x1, sA (sS u 8 (x1 + 1)) 10 (u.2 2 x1.toNatClampNeg) (u.2 1 x1.toNatClampNeg)) := by rw [p_m_act, if_pos c_3]
    rw [e9]
    exact W.iret hx hb hr (fun t ht hW => ⟨⟨_, (), rfl, rfl, by rw [ht]; exact hP, va_K.moved hW.alike hK, hD⟩, hS.F ht⟩) hS.2.2 dX4_act_343
  · have hok := hok.2 c_3
    rcases Classical.em ((u.2 0 x1.toNatClampNeg) = 1) with c_7 | c_7
    · have hok := hok.1 c_7
      refine lv_tableIn (tgt := 80) hx hb dX4_act_19 (by rw [c_7]; decide) (by rw [c_7]; decide) (by rw [c_7]; rfl) (by decide) ?_
      refine lv_aload_n hx hb dX4_act_80 rfl (lv_at hl 1 rfl) ?_
      refine va_get (ci := 4) (v := .ref (am 11)) (C := RX4) (T := TX4) (N := 22) hx hb hts (ivX4 _) hown hK hP 0 rfl rfl 19 (by decide) (hts _ (tb_c tw_3_120)) (fun _ h9 => h9) rfl dX4_act_81 ?_
      refine lv_aload_n hx hb dX4_act_84 rfl (lv_at hl 1 rfl) ?_
      refine va_get (ci := 4) (v := .ref (am 3)) (C := RX4) (T := TX4) (N := 22) hx hb hts (ivX4 _) hown hK hP 0 rfl rfl 4 (by decide) (hts _ (tb_c tw_3_105)) (fun _ h9 => h9) rfl dX4_act_85 ?_
      refine lv_iload_n hx hb dX4_act_88 rfl (lv_at hl 2 rfl) ?_
      obtain ⟨h_8, hok⟩ := hok
      refine va_iald (f := u.2 2) hx hb hK hP 3 0 rfl rfl h_8 dX4_act_89 ?_
      refine lv_aload_n hx hb dX4_act_90 rfl (lv_at hl 1 rfl) ?_
      refine va_get (ci := 4) (v := .ref (am 2)) (C := RX4) (T := TX4) (N := 22) hx hb hts (ivX4 _) hown hK hP 0 rfl rfl 3 (by decide) (hts _ (tb_c tw_3_104)) (fun _ h9 => h9) rfl dX4_act_91 ?_
      refine lv_iload_n hx hb dX4_act_94 rfl (lv_at hl 2 rfl) ?_
      obtain ⟨h_9, hok⟩ := hok
      refine va_iald (f := u.2 1) hx hb hK hP 2 0 rfl rfl h_9 dX4_act_95 ?_
      refine lv_aload_n hx hb dX4_act_96 rfl (lv_at hl 1 rfl) ?_
      refine va_get (ci := 4) (v := .ref (am 11)) (C := RX4) (T := TX4) (N := 22) hx hb hts (ivX4 _) hown hK hP 0 rfl rfl 19 (by decide) (hts _ (tb_c tw_3_120)) (fun _ h9 => h9) rfl dX4_act_97 ?_
      refine lv_aload_n hx hb dX4_act_100 rfl (lv_at hl 1 rfl) ?_
      refine va_get (ci := 4) (v := .ref (am 4)) (C := RX4) (T := TX4) (N := 22) hx hb hts (ivX4 _) hown hK hP 0 rfl rfl 5 (by decide) (hts _ (tb_c tw_3_106)) (fun _ h9 => h9) rfl dX4_act_101 ?_
      refine lv_iload_n hx hb dX4_act_104 rfl (lv_at hl 2 rfl) ?_
      obtain ⟨h_10, hok⟩ := hok
      refine va_iald (f := u.2 3) hx hb hK hP 4 0 rfl rfl h_10 dX4_act_105 ?_
      obtain ⟨h_11, hok⟩ := hok
      refine va_iald (f := u.2 10) hx hb hK hP 11 0 rfl rfl h_11 dX4_act_106 ?_
      refine lv_aload_n hx hb dX4_act_107 rfl (lv_at hl 1 rfl) ?_
      refine va_get (ci := 4) (v := .ref (am 11)) (C := RX4) (T := TX4) (N := 22) hx hb hts (ivX4 _) hown hK hP 0 rfl rfl 19 (by decide) (hts _ (tb_c tw_3_120)) (fun _ h9 => h9) rfl dX4_act_108 ?_
      refine lv_aload_n hx hb dX4_act_111 rfl (lv_at hl 1 rfl) ?_
      refine va_get (ci := 4) (v := .ref (am 5)) (C := RX4) (T := TX4) (N := 22) hx hb hts (ivX4 _) hown hK hP 0 rfl rfl 6 (by decide) (hts _ (tb_c tw_3_107)) (fun _ h9 => h9) rfl dX4_act_112 ?_
      refine lv_iload_n hx hb dX4_act_115 rfl (lv_at hl 2 rfl) ?_
      obtain ⟨h_12, hok⟩ := hok
      refine va_iald (f := u.2 4) hx hb hK hP 5 0 rfl rfl h_12 dX4_act_116 ?_
      obtain ⟨h_13, hok⟩ := hok
      refine va_iald (f := u.2 10) hx hb hK hP 11 0 rfl rfl h_13 dX4_act_117 ?_
      refine k_callSi (As := [.int (u.2 1 x1.toNatClampNeg), .int (u.2 10 (u.2 3 x1.toNatClampNeg).toNatClampNeg), .int (u.2 10 (u.2 4 x1.toNatClampNeg).toNatClampNeg)]) (rest := [.int (u.2 2 x1.toNatClampNeg), .ref (am 11)]) hzz ⟨hx, hb, hml, hown, hts⟩ (c_m_computed l D am cI cZ zz hzz (wM am cI cZ (sS u 8 (x1 + 1))) (u.2 1 x1.toNatClampNeg) (u.2 10 (u.2 3 x1.toNatClampNeg).toNatClampNeg) (u.2 10 (u.2 4 x1.toNatClampNeg).toNatClampNeg)) (cwS 3 hts (tb_S tw_4_101 tw_4_102 tw_1_5 tw_4_103) rfl rfl rfl (by decide +kernel) ⟨Nat.le_of_ble_eq_true rfl, Nat.le_of_ble_eq_true rfl⟩) rfl hl.1 rfl (lv_room (Nat.le_of_ble_eq_true rfl)) dX4_act_118 ⟨Nat.le_of_ble_eq_true rfl, Nat.le_of_ble_eq_true rfl⟩ hP hK hD hS hA hZ (fun H locs hP hD hS => ?_)
      obtain ⟨h_15, hok⟩ := hok
      refine va_iast hx hb hK hP hD hS 11 0 rfl rfl h_15 dX4_act_121 (fun H locs hP hD hS => ?_)
      have hP : va_P D vwCl (wM am cI cZ (sA (sS u 8 (x1 + 1)) 10 (u.2 2 x1.toNatClampNeg) (p_m_computed (u.2 1 x1.toNatClampNeg) (u.2 10 (u.2 3 x1.toNatClampNeg).toNatClampNeg) (u.2 10 (u.2 4 x1.toNatClampNeg).toNatClampNeg)))) H := hP
      have hD : va_D A (wM am cI cZ (sA (sS u 8 (x1 + 1)) 10 (u.2 2 x1.toNatClampNeg) (p_m_computed (u.2 1 x1.toNatClampNeg) (u.2 10 (u.2 3 x1.toNatClampNeg).toNatClampNeg) (u.2 10 (u.2 4 x1.toNatClampNeg).toNatClampNeg)))) := hD
      refine lv_goto (tgt := 342) hx hb dX4_act_122 (by decide) ?_
      refine lv_iload_n hx hb dX4_act_342 rfl (lv_at hl 0 rfl) ?_
      have e9 : p_m_act u x1 = (p_m_lengthOf u x1, sA (sS u 8 (x1 + 1)) 10 (u.2 2 x1.toNatClampNeg) (p_m_computed (u.2 1 x1.toNatClampNeg) (u.2 10 (u.2 3 x1.toNatClampNeg).toNatClampNeg) (u.2 10 (u.2 4 x1.toNatClampNeg).toNatClampNeg))) := by rw [p_m_act, if_neg c_3, if_pos c_7]
      rw [e9]
      exact W.iret hx hb hr (fun t ht hW => ⟨⟨_, (), rfl, rfl, by rw [ht]; exact hP, va_K.moved hW.alike hK, hD⟩, hS.F ht⟩) hS.2.2 dX4_act_343
    · have hok := hok.2 c_7
      rcases Classical.em ((u.2 0 x1.toNatClampNeg) = 2) with c_16 | c_16
      · have hok := hok.1 c_16
        refine lv_tableIn (tgt := 125) hx hb dX4_act_19 (by rw [c_16]; decide) (by rw [c_16]; decide) (by rw [c_16]; rfl) (by decide) ?_
        refine lv_aload_n hx hb dX4_act_125 rfl (lv_at hl 1 rfl) ?_
        refine va_get (ci := 4) (v := .ref (am 11)) (C := RX4) (T := TX4) (N := 22) hx hb hts (ivX4 _) hown hK hP 0 rfl rfl 19 (by decide) (hts _ (tb_c tw_3_120)) (fun _ h9 => h9) rfl dX4_act_126 ?_
        refine lv_aload_n hx hb dX4_act_129 rfl (lv_at hl 1 rfl) ?_
        refine va_get (ci := 4) (v := .ref (am 2)) (C := RX4) (T := TX4) (N := 22) hx hb hts (ivX4 _) hown hK hP 0 rfl rfl 3 (by decide) (hts _ (tb_c tw_3_104)) (fun _ h9 => h9) rfl dX4_act_130 ?_
        refine lv_iload_n hx hb dX4_act_133 rfl (lv_at hl 2 rfl) ?_
        obtain ⟨h_17, hok⟩ := hok
        refine va_iald (f := u.2 1) hx hb hK hP 2 0 rfl rfl h_17 dX4_act_134 ?_
        refine lv_aload_n hx hb dX4_act_135 rfl (lv_at hl 1 rfl) ?_
        refine va_get (ci := 4) (v := .ref (am 6)) (C := RX4) (T := TX4) (N := 22) hx hb hts (ivX4 _) hown hK hP 0 rfl rfl 7 (by decide) (hts _ (tb_c tw_3_108)) (fun _ h9 => h9) rfl dX4_act_136 ?_
        refine lv_aload_n hx hb dX4_act_139 rfl (lv_at hl 1 rfl) ?_
        refine va_get (ci := 4) (v := .ref (am 11)) (C := RX4) (T := TX4) (N := 22) hx hb hts (ivX4 _) hown hK hP 0 rfl rfl 19 (by decide) (hts _ (tb_c tw_3_120)) (fun _ h9 => h9) rfl dX4_act_140 ?_
        refine lv_aload_n hx hb dX4_act_143 rfl (lv_at hl 1 rfl) ?_
        refine va_get (ci := 4) (v := .ref (am 3)) (C := RX4) (T := TX4) (N := 22) hx hb hts (ivX4 _) hown hK hP 0 rfl rfl 4 (by decide) (hts _ (tb_c tw_3_105)) (fun _ h9 => h9) rfl dX4_act_144 ?_
        refine lv_iload_n hx hb dX4_act_147 rfl (lv_at hl 2 rfl) ?_
        obtain ⟨h_18, hok⟩ := hok
        refine va_iald (f := u.2 2) hx hb hK hP 3 0 rfl rfl h_18 dX4_act_148 ?_
        obtain ⟨h_19, hok⟩ := hok
        refine va_iald (f := u.2 10) hx hb hK hP 11 0 rfl rfl h_19 dX4_act_149 ?_
        refine lv_bipush (v := 7) hx hb dX4_act_150 (by decide) ?_
        refine lv_iand hx hb dX4_act_152 ?_
        obtain ⟨h_20, hok⟩ := hok
        refine va_iald (f := u.2 5) hx hb hK hP 6 0 rfl rfl h_20 dX4_act_153 ?_
        obtain ⟨h_21, hok⟩ := hok
        refine va_iast hx hb hK hP hD hS 11 0 rfl rfl h_21 dX4_act_154 (fun H locs hP hD hS => ?_)
        have hP : va_P D vwCl (wM am cI cZ (sA (sS u 8 (x1 + 1)) 10 (u.2 1 x1.toNatClampNeg) (u.2 5 ((u.2 10 (u.2 2 x1.toNatClampNeg).toNatClampNeg) &&& 7).toNatClampNeg))) H := hP
        have hD : va_D A (wM am cI cZ (sA (sS u 8 (x1 + 1)) 10 (u.2 1 x1.toNatClampNeg) (u.2 5 ((u.2 10 (u.2 2 x1.toNatClampNeg).toNatClampNeg) &&& 7).toNatClampNeg))) := hD
        refine lv_goto (tgt := 342) hx hb dX4_act_155 (by decide) ?_
        refine lv_iload_n hx hb dX4_act_342 rfl (lv_at hl 0 rfl) ?_
        have e9 : p_m_act u x1 = (p_m_lengthOf u x1, sA (sS u 8 (x1 + 1)) 10 (u.2 1 x1.toNatClampNeg) (u.2 5 ((u.2 10 (u.2 2 x1.toNatClampNeg).toNatClampNeg) &&& 7).toNatClampNeg)) := by rw [p_m_act, if_neg c_3, if_neg c_7, if_pos c_16]
        rw [e9]
        exact W.iret hx hb hr (fun t ht hW => ⟨⟨_, (), rfl, rfl, by rw [ht]; exact hP, va_K.moved hW.alike hK, hD⟩, hS.F ht⟩) hS.2.2 dX4_act_343
      · have hok := hok.2 c_16
        rcases Classical.em ((u.2 0 x1.toNatClampNeg) = 3) with c_22 | c_22
        · have hok := hok.1 c_22
          refine lv_tableIn (tgt := 158) hx hb dX4_act_19 (by rw [c_22]; decide) (by rw [c_22]; decide) (by rw [c_22]; rfl) (by decide) ?_
          refine lv_aload_n hx hb dX4_act_158 rfl (lv_at hl 1 rfl) ?_
          refine va_get (ci := 4) (v := .ref (am 6)) (C := RX4) (T := TX4) (N := 22) hx hb hts (ivX4 _) hown hK hP 0 rfl rfl 7 (by decide) (hts _ (tb_c tw_3_108)) (fun _ h9 => h9) rfl dX4_act_159 ?_
          refine lv_aload_n hx hb dX4_act_162 rfl (lv_at hl 1 rfl) ?_
          refine va_get (ci := 4) (v := .ref (am 11)) (C := RX4) (T := TX4) (N := 22) hx hb hts (ivX4 _) hown hK hP 0 rfl rfl 19 (by decide) (hts _ (tb_c tw_3_120)) (fun _ h9 => h9) rfl dX4_act_163 ?_
          refine lv_aload_n hx hb dX4_act_166 rfl (lv_at hl 1 rfl) ?_
          refine va_get (ci := 4) (v := .ref (am 2)) (C := RX4) (T := TX4) (N := 22) hx hb hts (ivX4 _) hown hK hP 0 rfl rfl 3 (by decide) (hts _ (tb_c tw_3_104)) (fun _ h9 => h9) rfl dX4_act_167 ?_
          refine lv_iload_n hx hb dX4_act_170 rfl (lv_at hl 2 rfl) ?_
          obtain ⟨h_23, hok⟩ := hok
          refine va_iald (f := u.2 1) hx hb hK hP 2 0 rfl rfl h_23 dX4_act_171 ?_
          obtain ⟨h_24, hok⟩ := hok
          refine va_iald (f := u.2 10) hx hb hK hP 11 0 rfl rfl h_24 dX4_act_172 ?_
          refine lv_bipush (v := 7) hx hb dX4_act_173 (by decide) ?_
          refine lv_iand hx hb dX4_act_175 ?_
          refine lv_aload_n hx hb dX4_act_176 rfl (lv_at hl 1 rfl) ?_
          refine va_get (ci := 4) (v := .ref (am 11)) (C := RX4) (T := TX4) (N := 22) hx hb hts (ivX4 _) hown hK hP 0 rfl rfl 19 (by decide) (hts _ (tb_c tw_3_120)) (fun _ h9 => h9) rfl dX4_act_177 ?_
          refine lv_aload_n hx hb dX4_act_180 rfl (lv_at hl 1 rfl) ?_
          refine va_get (ci := 4) (v := .ref (am 3)) (C := RX4) (T := TX4) (N := 22) hx hb hts (ivX4 _) hown hK hP 0 rfl rfl 4 (by decide) (hts _ (tb_c tw_3_105)) (fun _ h9 => h9) rfl dX4_act_181 ?_
          refine lv_iload_n hx hb dX4_act_184 rfl (lv_at hl 2 rfl) ?_
          obtain ⟨h_25, hok⟩ := hok
          refine va_iald (f := u.2 2) hx hb hK hP 3 0 rfl rfl h_25 dX4_act_185 ?_
          obtain ⟨h_26, hok⟩ := hok
          refine va_iald (f := u.2 10) hx hb hK hP 11 0 rfl rfl h_26 dX4_act_186 ?_
          obtain ⟨h_27, hok⟩ := hok
          refine va_iast hx hb hK hP hD hS 6 0 rfl rfl h_27 dX4_act_187 (fun H locs hP hD hS => ?_)
          have hP : va_P D vwCl (wM am cI cZ (sA (sS u 8 (x1 + 1)) 5 ((u.2 10 (u.2 1 x1.toNatClampNeg).toNatClampNeg) &&& 7) (u.2 10 (u.2 2 x1.toNatClampNeg).toNatClampNeg))) H := hP
          have hD : va_D A (wM am cI cZ (sA (sS u 8 (x1 + 1)) 5 ((u.2 10 (u.2 1 x1.toNatClampNeg).toNatClampNeg) &&& 7) (u.2 10 (u.2 2 x1.toNatClampNeg).toNatClampNeg))) := hD
          refine lv_goto (tgt := 342) hx hb dX4_act_188 (by decide) ?_
          refine lv_iload_n hx hb dX4_act_342 rfl (lv_at hl 0 rfl) ?_
          have e9 : p_m_act u x1 = (p_m_lengthOf u x1, sA (sS u 8 (x1 + 1)) 5 ((u.2 10 (u.2 1 x1.toNatClampNeg).toNatClampNeg) &&& 7) (u.2 10 (u.2 2 x1.toNatClampNeg).toNatClampNeg)) := by rw [p_m_act, if_neg c_3, if_neg c_7, if_neg c_16, if_pos c_22]
          rw [e9]
          exact W.iret hx hb hr (fun t ht hW => ⟨⟨_, (), rfl, rfl, by rw [ht]; exact hP, va_K.moved hW.alike hK, hD⟩, hS.F ht⟩) hS.2.2 dX4_act_343
        · have hok := hok.2 c_22
          rcases Classical.em ((u.2 0 x1.toNatClampNeg) = 4) with c_28 | c_28
          · have hok := hok.1 c_28
            refine lv_tableIn (tgt := 191) hx hb dX4_act_19 (by rw [c_28]; decide) (by rw [c_28]; decide) (by rw [c_28]; rfl) (by decide) ?_
            refine lv_aload_n hx hb dX4_act_191 rfl (lv_at hl 1 rfl) ?_
            refine lv_aload_n hx hb dX4_act_192 rfl (lv_at hl 1 rfl) ?_
            refine va_get (ci := 4) (v := .ref (am 2)) (C := RX4) (T := TX4) (N := 22) hx hb hts (ivX4 _) hown hK hP 0 rfl rfl 3 (by decide) (hts _ (tb_c tw_3_104)) (fun _ h9 => h9) rfl dX4_act_193 ?_
            refine lv_iload_n hx hb dX4_act_196 rfl (lv_at hl 2 rfl) ?_
            obtain ⟨h_29, hok⟩ := hok
            refine va_iald (f := u.2 1) hx hb hK hP 2 0 rfl rfl h_29 dX4_act_197 ?_
            refine va_put (ci := 4) (v := .int (u.2 1 x1.toNatClampNeg)) (ty := .int) (C := RX4) (T := TX4) (N := 22) hx hb hts (ivX4 _) tyX4 tyX4_ok nmX4 hown hK hP hD hS 0 rfl rfl 18 (by decide) (hts _ (tb_c tw_3_119)) (fun _ h9 => h9) rfl (by decide +kernel) rfl rfl (Nat.le_of_ble_eq_true rfl) dX4_act_198 (fun H locs hP hD hS => ?_)
            have hP : va_P D vwCl (wM am cI cZ (sS (sS u 8 (x1 + 1)) 8 (u.2 1 x1.toNatClampNeg))) H := hP
            have hD : va_D A (wM am cI cZ (sS (sS u 8 (x1 + 1)) 8 (u.2 1 x1.toNatClampNeg))) := hD
            refine lv_goto (tgt := 342) hx hb dX4_act_201 (by decide) ?_
            refine lv_iload_n hx hb dX4_act_342 rfl (lv_at hl 0 rfl) ?_
            have e9 : p_m_act u x1 = (p_m_lengthOf u x1, sS (sS u 8 (x1 + 1)) 8 (u.2 1 x1.toNatClampNeg)) := by rw [p_m_act, if_neg c_3, if_neg c_7, if_neg c_16, if_neg c_22, if_pos c_28]
            rw [e9]
            exact W.iret hx hb hr (fun t ht hW => ⟨⟨_, (), rfl, rfl, by rw [ht]; exact hP, va_K.moved hW.alike hK, hD⟩, hS.F ht⟩) hS.2.2 dX4_act_343
          · have hok := hok.2 c_28
            rcases Classical.em ((u.2 0 x1.toNatClampNeg) = 5) with c_30 | c_30
            · have hok := hok.1 c_30
              refine lv_tableIn (tgt := 204) hx hb dX4_act_19 (by rw [c_30]; decide) (by rw [c_30]; decide) (by rw [c_30]; rfl) (by decide) ?_
              refine lv_aload_n hx hb dX4_act_204 rfl (lv_at hl 1 rfl) ?_
              refine va_get (ci := 4) (v := .ref (am 2)) (C := RX4) (T := TX4) (N := 22) hx hb hts (ivX4 _) hown hK hP 0 rfl rfl 3 (by decide) (hts _ (tb_c tw_3_104)) (fun _ h9 => h9) rfl dX4_act_205 ?_
              refine lv_iload_n hx hb dX4_act_208 rfl (lv_at hl 2 rfl) ?_
              obtain ⟨h_31, hok⟩ := hok
              refine va_iald (f := u.2 1) hx hb hK hP 2 0 rfl rfl h_31 dX4_act_209 ?_
              refine lv_aload_n hx hb dX4_act_210 rfl (lv_at hl 1 rfl) ?_
              refine va_get (ci := 4) (v := .ref (am 11)) (C := RX4) (T := TX4) (N := 22) hx hb hts (ivX4 _) hown hK hP 0 rfl rfl 19 (by decide) (hts _ (tb_c tw_3_120)) (fun _ h9 => h9) rfl dX4_act_211 ?_
              refine lv_aload_n hx hb dX4_act_214 rfl (lv_at hl 1 rfl) ?_
              refine va_get (ci := 4) (v := .ref (am 3)) (C := RX4) (T := TX4) (N := 22) hx hb hts (ivX4 _) hown hK hP 0 rfl rfl 4 (by decide) (hts _ (tb_c tw_3_105)) (fun _ h9 => h9) rfl dX4_act_215 ?_
              refine lv_iload_n hx hb dX4_act_218 rfl (lv_at hl 2 rfl) ?_
              obtain ⟨h_32, hok⟩ := hok
              refine va_iald (f := u.2 2) hx hb hK hP 3 0 rfl rfl h_32 dX4_act_219 ?_
              obtain ⟨h_33, hok⟩ := hok
              refine va_iald (f := u.2 10) hx hb hK hP 11 0 rfl rfl h_33 dX4_act_220 ?_
              refine lv_aload_n hx hb dX4_act_221 rfl (lv_at hl 1 rfl) ?_
              refine va_get (ci := 4) (v := .ref (am 11)) (C := RX4) (T := TX4) (N := 22) hx hb hts (ivX4 _) hown hK hP 0 rfl rfl 19 (by decide) (hts _ (tb_c tw_3_120)) (fun _ h9 => h9) rfl dX4_act_222 ?_
              refine lv_aload_n hx hb dX4_act_225 rfl (lv_at hl 1 rfl) ?_
              refine va_get (ci := 4) (v := .ref (am 4)) (C := RX4) (T := TX4) (N := 22) hx hb hts (ivX4 _) hown hK hP 0 rfl rfl 5 (by decide) (hts _ (tb_c tw_3_106)) (fun _ h9 => h9) rfl dX4_act_226 ?_
              refine lv_iload_n hx hb dX4_act_229 rfl (lv_at hl 2 rfl) ?_
              obtain ⟨h_34, hok⟩ := hok
              refine va_iald (f := u.2 3) hx hb hK hP 4 0 rfl rfl h_34 dX4_act_230 ?_
              obtain ⟨h_35, hok⟩ := hok
              refine va_iald (f := u.2 10) hx hb hK hP 11 0 rfl rfl h_35 dX4_act_231 ?_
              refine k_callSi (As := [.int (u.2 1 x1.toNatClampNeg), .int (u.2 10 (u.2 2 x1.toNatClampNeg).toNatClampNeg), .int (u.2 10 (u.2 3 x1.toNatClampNeg).toNatClampNeg)]) (rest := []) hzz ⟨hx, hb, hml, hown, hts⟩ (c_m_holds l D am cI cZ zz hzz (wM am cI cZ (sS u 8 (x1 + 1))) (u.2 1 x1.toNatClampNeg) (u.2 10 (u.2 2 x1.toNatClampNeg).toNatClampNeg) (u.2 10 (u.2 3 x1.toNatClampNeg).toNatClampNeg)) (cwS 3 hts (tb_S tw_4_104 tw_4_105 tw_1_5 tw_4_106) rfl rfl rfl (by decide +kernel) ⟨Nat.le_of_ble_eq_true rfl, Nat.le_of_ble_eq_true rfl⟩) rfl hl.1 rfl (lv_room (Nat.le_of_ble_eq_true rfl)) dX4_act_232 ⟨Nat.le_of_ble_eq_true rfl, Nat.le_of_ble_eq_true rfl⟩ hP hK hD hS hA hZ (fun H locs hP hD hS => ?_)
              refine lv_if_eq (tgt := 251) hx hb dX4_act_235 (by decide) (fun c_37 => ?_) (fun c_37 => ?_)
              · have hok := hok.1 c_37
                refine lv_aload_n hx hb dX4_act_251 rfl (lv_at hl 1 rfl) ?_
                refine va_get (ci := 4) (v := .ref (am 9)) (C := RX4) (T := TX4) (N := 22) hx hb hts (ivX4 _) hown hK hP 0 rfl rfl 12 (by decide) (hts _ (tb_c tw_3_113)) (fun _ h9 => h9) rfl dX4_act_252 ?_
                refine lv_iload_n hx hb dX4_act_255 rfl (lv_at hl 2 rfl) ?_
                obtain ⟨h_38, hok⟩ := hok
                refine va_zald (f := u.2 8) hx hb hK hP 9 1 rfl rfl h_38 dX4_act_256 ?_
                refine lv_if_eq (tgt := 266) hx hb dX4_act_257 (by decide) (fun c_39 => ?_) (fun c_39 => ?_)
                · skip
                  refine lv_iload_n hx hb dX4_act_266 rfl (lv_at hl 0 rfl) ?_
                  refine lv_istore_n (lv' := [(2, .int (p_m_lengthOf u x1)), (0, .ref (am 0)), (1, .int x1)]) hx hb dX4_act_267 rfl hl (by decide) rfl (fun ls hl => ?_)
                  refine lv_goto (tgt := 342) hx hb dX4_act_268 (by decide) ?_
                  refine lv_iload_n hx hb dX4_act_342 rfl (lv_at hl 0 rfl) ?_
                  have e9 : p_m_act u x1 = (p_m_lengthOf u x1, sS u 8 (x1 + 1)) := by rw [p_m_act, if_neg c_3, if_neg c_7, if_neg c_16, if_neg c_22, if_neg c_28, if_pos c_30, if_pos c_37, if_pos c_39]
                  rw [e9]
                  exact W.iret hx hb hr (fun t ht hW => ⟨⟨_, (), rfl, rfl, by rw [ht]; exact hP, va_K.moved hW.alike hK, hD⟩, hS.F ht⟩) hS.2.2 dX4_act_343
                · skip
                  refine lv_iload_n hx hb dX4_act_260 rfl (lv_at hl 0 rfl) ?_
                  refine lv_iconst (v := 1) hx hb dX4_act_261 (by decide) ?_
                  refine lv_isub hx hb dX4_act_262 ?_
                  refine lv_goto (tgt := 267) hx hb dX4_act_263 (by decide) ?_
                  refine lv_istore_n (lv' := [(2, .int ((p_m_lengthOf u x1) - 1)), (0, .ref (am 0)), (1, .int x1)]) hx hb dX4_act_267 rfl hl (by decide) rfl (fun ls hl => ?_)
                  refine lv_goto (tgt := 342) hx hb dX4_act_268 (by decide) ?_
                  refine lv_iload_n hx hb dX4_act_342 rfl (lv_at hl 0 rfl) ?_
                  have e9 : p_m_act u x1 = ((p_m_lengthOf u x1) - 1, sS u 8 (x1 + 1)) := by rw [p_m_act, if_neg c_3, if_neg c_7, if_neg c_16, if_neg c_22, if_neg c_28, if_pos c_30, if_pos c_37, if_neg c_39]
                  rw [e9]
                  exact W.iret hx hb hr (fun t ht hW => ⟨⟨_, (), rfl, rfl, by rw [ht]; exact hP, va_K.moved hW.alike hK, hD⟩, hS.F ht⟩) hS.2.2 dX4_act_343
              · have hok := hok.2 c_37
                refine lv_aload_n hx hb dX4_act_238 rfl (lv_at hl 1 rfl) ?_
                refine lv_aload_n hx hb dX4_act_239 rfl (lv_at hl 1 rfl) ?_
                refine va_get (ci := 4) (v := .ref (am 5)) (C := RX4) (T := TX4) (N := 22) hx hb hts (ivX4 _) hown hK hP 0 rfl rfl 6 (by decide) (hts _ (tb_c tw_3_107)) (fun _ h9 => h9) rfl dX4_act_240 ?_
                refine lv_iload_n hx hb dX4_act_243 rfl (lv_at hl 2 rfl) ?_
                obtain ⟨h_40, hok⟩ := hok
                refine va_iald (f := u.2 4) hx hb hK hP 5 0 rfl rfl h_40 dX4_act_244 ?_
                refine va_put (ci := 4) (v := .int (u.2 4 x1.toNatClampNeg)) (ty := .int) (C := RX4) (T := TX4) (N := 22) hx hb hts (ivX4 _) tyX4 tyX4_ok nmX4 hown hK hP hD hS 0 rfl rfl 18 (by decide) (hts _ (tb_c tw_3_119)) (fun _ h9 => h9) rfl (by decide +kernel) rfl rfl (Nat.le_of_ble_eq_true rfl) dX4_act_245 (fun H locs hP hD hS => ?_)
                have hP : va_P D vwCl (wM am cI cZ (sS (sS u 8 (x1 + 1)) 8 (u.2 4 x1.toNatClampNeg))) H := hP
                have hD : va_D A (wM am cI cZ (sS (sS u 8 (x1 + 1)) 8 (u.2 4 x1.toNatClampNeg))) := hD
                refine lv_goto (tgt := 342) hx hb dX4_act_248 (by decide) ?_
                refine lv_iload_n hx hb dX4_act_342 rfl (lv_at hl 0 rfl) ?_
                have e9 : p_m_act u x1 = (p_m_lengthOf u x1, sS (sS u 8 (x1 + 1)) 8 (u.2 4 x1.toNatClampNeg)) := by rw [p_m_act, if_neg c_3, if_neg c_7, if_neg c_16, if_neg c_22, if_neg c_28, if_pos c_30, if_neg c_37]
                rw [e9]
                exact W.iret hx hb hr (fun t ht hW => ⟨⟨_, (), rfl, rfl, by rw [ht]; exact hP, va_K.moved hW.alike hK, hD⟩, hS.F ht⟩) hS.2.2 dX4_act_343
            · have hok := hok.2 c_30
              rcases Classical.em ((u.2 0 x1.toNatClampNeg) = 6) with c_41 | c_41
              · have hok := hok.1 c_41
                refine lv_tableIn (tgt := 271) hx hb dX4_act_19 (by rw [c_41]; decide) (by rw [c_41]; decide) (by rw [c_41]; rfl) (by decide) ?_
                refine lv_aload_n hx hb dX4_act_271 rfl (lv_at hl 1 rfl) ?_
                refine va_get (ci := 4) (v := .ref (am 12)) (C := RX4) (T := TX4) (N := 22) hx hb hts (ivX4 _) hown hK hP 0 rfl rfl 21 (by decide) (hts _ (tb_c tw_3_122)) (fun _ h9 => h9) rfl dX4_act_272 ?_
                refine lv_aload_n hx hb dX4_act_275 rfl (lv_at hl 1 rfl) ?_
                refine va_get (ci := 4) (v := .int (u.1 9)) (C := RX4) (T := TX4) (N := 22) hx hb hts (ivX4 _) hown hK hP 0 rfl rfl 20 (by decide) (hts _ (tb_c tw_3_121)) (fun _ h9 => h9) rfl dX4_act_276 ?_
                refine lv_bipush (v := 16) hx hb dX4_act_279 (by decide) ?_
                refine lv_irem hx hb dX4_act_281 (by decide) ?_
                refine lv_aload_n hx hb dX4_act_282 rfl (lv_at hl 1 rfl) ?_
                refine va_get (ci := 4) (v := .ref (am 11)) (C := RX4) (T := TX4) (N := 22) hx hb hts (ivX4 _) hown hK hP 0 rfl rfl 19 (by decide) (hts _ (tb_c tw_3_120)) (fun _ h9 => h9) rfl dX4_act_283 ?_
                refine lv_aload_n hx hb dX4_act_286 rfl (lv_at hl 1 rfl) ?_
                refine va_get (ci := 4) (v := .ref (am 2)) (C := RX4) (T := TX4) (N := 22) hx hb hts (ivX4 _) hown hK hP 0 rfl rfl 3 (by decide) (hts _ (tb_c tw_3_104)) (fun _ h9 => h9) rfl dX4_act_287 ?_
                refine lv_iload_n hx hb dX4_act_290 rfl (lv_at hl 2 rfl) ?_
                obtain ⟨h_42, hok⟩ := hok
                refine va_iald (f := u.2 1) hx hb hK hP 2 0 rfl rfl h_42 dX4_act_291 ?_
                obtain ⟨h_43, hok⟩ := hok
                refine va_iald (f := u.2 10) hx hb hK hP 11 0 rfl rfl h_43 dX4_act_292 ?_
                obtain ⟨h_44, hok⟩ := hok
                refine va_iast hx hb hK hP hD hS 12 0 rfl rfl h_44 dX4_act_293 (fun H locs hP hD hS => ?_)
                have hP : va_P D vwCl (wM am cI cZ (sA (sS u 8 (x1 + 1)) 11 ((u.1 9) - (u.1 9) / 16 * 16) (u.2 10 (u.2 1 x1.toNatClampNeg).toNatClampNeg))) H := hP
                have hD : va_D A (wM am cI cZ (sA (sS u 8 (x1 + 1)) 11 ((u.1 9) - (u.1 9) / 16 * 16) (u.2 10 (u.2 1 x1.toNatClampNeg).toNatClampNeg))) := hD
                refine lv_aload_n hx hb dX4_act_294 rfl (lv_at hl 1 rfl) ?_
                refine lv_dup hx hb dX4_act_295 rfl ?_
                refine va_get (ci := 4) (v := .int (u.1 9)) (C := RX4) (T := TX4) (N := 22) hx hb hts (ivX4 _) hown hK hP 0 rfl rfl 20 (by decide) (hts _ (tb_c tw_3_121)) (fun _ h9 => h9) rfl dX4_act_296 ?_
                refine lv_iconst (v := 1) hx hb dX4_act_299 (by decide) ?_
                refine lv_iadd hx hb dX4_act_300 ?_
                refine va_put (ci := 4) (v := .int ((u.1 9) + 1)) (ty := .int) (C := RX4) (T := TX4) (N := 22) hx hb hts (ivX4 _) tyX4 tyX4_ok nmX4 hown hK hP hD hS 0 rfl rfl 20 (by decide) (hts _ (tb_c tw_3_121)) (fun _ h9 => h9) rfl (by decide +kernel) rfl rfl (Nat.le_of_ble_eq_true rfl) dX4_act_301 (fun H locs hP hD hS => ?_)
                have hP : va_P D vwCl (wM am cI cZ (sS (sA (sS u 8 (x1 + 1)) 11 ((u.1 9) - (u.1 9) / 16 * 16) (u.2 10 (u.2 1 x1.toNatClampNeg).toNatClampNeg)) 9 ((u.1 9) + 1))) H := hP
                have hD : va_D A (wM am cI cZ (sS (sA (sS u 8 (x1 + 1)) 11 ((u.1 9) - (u.1 9) / 16 * 16) (u.2 10 (u.2 1 x1.toNatClampNeg).toNatClampNeg)) 9 ((u.1 9) + 1))) := hD
                refine lv_goto (tgt := 342) hx hb dX4_act_304 (by decide) ?_
                refine lv_iload_n hx hb dX4_act_342 rfl (lv_at hl 0 rfl) ?_
                have e9 : p_m_act u x1 = (p_m_lengthOf u x1, sS (sA (sS u 8 (x1 + 1)) 11 ((u.1 9) - (u.1 9) / 16 * 16) (u.2 10 (u.2 1 x1.toNatClampNeg).toNatClampNeg)) 9 ((u.1 9) + 1)) := by rw [p_m_act, if_neg c_3, if_neg c_7, if_neg c_16, if_neg c_22, if_neg c_28, if_neg c_30, if_pos c_41]
                rw [e9]
                exact W.iret hx hb hr (fun t ht hW => ⟨⟨_, (), rfl, rfl, by rw [ht]; exact hP, va_K.moved hW.alike hK, hD⟩, hS.F ht⟩) hS.2.2 dX4_act_343
              · have hok := hok.2 c_41
                have n_c_3 := lv_neT (k := 0) (a := 0) c_3 rfl
                have n_c_7 := lv_neT (k := 1) (a := 1) c_7 rfl
                have n_c_16 := lv_neT (k := 2) (a := 2) c_16 rfl
                have n_c_22 := lv_neT (k := 3) (a := 3) c_22 rfl
                have n_c_28 := lv_neT (k := 4) (a := 4) c_28 rfl
                have n_c_30 := lv_neT (k := 5) (a := 5) c_30 rfl
                have n_c_41 := lv_neT (k := 6) (a := 6) c_41 rfl
                refine lv_tableOut (tgt := 307) hx hb dX4_act_19 (by omega) (by decide) ?_
                refine lv_aload_n hx hb dX4_act_307 rfl (lv_at hl 1 rfl) ?_
                refine lv_iload_n hx hb dX4_act_308 rfl (lv_at hl 2 rfl) ?_
                refine va_put (ci := 4) (v := .int x1) (ty := .int) (C := RX4) (T := TX4) (N := 22) hx hb hts (ivX4 _) tyX4 tyX4_ok nmX4 hown hK hP hD hS 0 rfl rfl 18 (by decide) (hts _ (tb_c tw_3_119)) (fun _ h9 => h9) rfl (by decide +kernel) rfl rfl (Nat.le_of_ble_eq_true rfl) dX4_act_309 (fun H locs hP hD hS => ?_)
                have hP : va_P D vwCl (wM am cI cZ (sS (sS u 8 (x1 + 1)) 8 x1)) H := hP
                have hD : va_D A (wM am cI cZ (sS (sS u 8 (x1 + 1)) 8 x1)) := hD
                refine lv_aload_n hx hb dX4_act_312 rfl (lv_at hl 1 rfl) ?_
                refine lv_aload_n hx hb dX4_act_313 rfl (lv_at hl 1 rfl) ?_
                refine va_get (ci := 4) (v := .ref (am 1)) (C := RX4) (T := TX4) (N := 22) hx hb hts (ivX4 _) hown hK hP 0 rfl rfl 2 (by decide) (hts _ (tb_c tw_3_103)) (fun _ h9 => h9) rfl dX4_act_314 ?_
                refine lv_iload_n hx hb dX4_act_317 rfl (lv_at hl 2 rfl) ?_
                obtain ⟨h_45, hok⟩ := hok
                refine va_iald (f := u.2 0) hx hb hK hP 1 0 rfl rfl h_45 dX4_act_318 ?_
                refine lv_bipush (v := 7) hx hb dX4_act_319 (by decide) ?_
                refine lv_icmp_ne (tgt := 328) hx hb dX4_act_321 (by decide) (fun c_46 => ?_) (fun c_46 => ?_)
                · have hok := hok.2 c_46
                  refine lv_iconst (v := 3) hx hb dX4_act_328 (by decide) ?_
                  refine va_put (ci := 4) (v := .int 3) (ty := .int) (C := RX4) (T := TX4) (N := 22) hx hb hts (ivX4 _) tyX4 tyX4_ok nmX4 hown hK hP hD hS 0 rfl rfl 16 (by decide) (hts _ (tb_c tw_3_117)) (fun _ h9 => h9) rfl (by decide +kernel) rfl rfl (Nat.le_of_ble_eq_true rfl) dX4_act_329 (fun H locs hP hD hS => ?_)
                  have hP : va_P D vwCl (wM am cI cZ (sS (sS (sS u 8 (x1 + 1)) 8 x1) 6 3)) H := hP
                  have hD : va_D A (wM am cI cZ (sS (sS (sS u 8 (x1 + 1)) 8 x1) 6 3)) := hD
                  refine lv_aload_n hx hb dX4_act_332 rfl (lv_at hl 1 rfl) ?_
                  refine lv_aload_n hx hb dX4_act_333 rfl (lv_at hl 1 rfl) ?_
                  refine va_get (ci := 4) (v := .ref (am 2)) (C := RX4) (T := TX4) (N := 22) hx hb hts (ivX4 _) hown hK hP 0 rfl rfl 3 (by decide) (hts _ (tb_c tw_3_104)) (fun _ h9 => h9) rfl dX4_act_334 ?_
                  refine lv_iload_n hx hb dX4_act_337 rfl (lv_at hl 2 rfl) ?_
                  obtain ⟨h_47, hok⟩ := hok
                  refine va_iald (f := u.2 1) hx hb hK hP 2 0 rfl rfl h_47 dX4_act_338 ?_
                  refine va_put (ci := 4) (v := .int (u.2 1 x1.toNatClampNeg)) (ty := .int) (C := RX4) (T := TX4) (N := 22) hx hb hts (ivX4 _) tyX4 tyX4_ok nmX4 hown hK hP hD hS 0 rfl rfl 17 (by decide) (hts _ (tb_c tw_3_118)) (fun _ h9 => h9) rfl (by decide +kernel) rfl rfl (Nat.le_of_ble_eq_true rfl) dX4_act_339 (fun H locs hP hD hS => ?_)
                  have hP : va_P D vwCl (wM am cI cZ (sS (sS (sS (sS u 8 (x1 + 1)) 8 x1) 6 3) 7 (u.2 1 x1.toNatClampNeg))) H := hP
                  have hD : va_D A (wM am cI cZ (sS (sS (sS (sS u 8 (x1 + 1)) 8 x1) 6 3) 7 (u.2 1 x1.toNatClampNeg))) := hD
                  refine lv_iload_n hx hb dX4_act_342 rfl (lv_at hl 0 rfl) ?_
                  have e9 : p_m_act u x1 = (p_m_lengthOf u x1, sS (sS (sS (sS u 8 (x1 + 1)) 8 x1) 6 3) 7 (u.2 1 x1.toNatClampNeg)) := by rw [p_m_act, if_neg c_3, if_neg c_7, if_neg c_16, if_neg c_22, if_neg c_28, if_neg c_30, if_neg c_41, if_neg c_46]
                  rw [e9]
                  exact W.iret hx hb hr (fun t ht hW => ⟨⟨_, (), rfl, rfl, by rw [ht]; exact hP, va_K.moved hW.alike hK, hD⟩, hS.F ht⟩) hS.2.2 dX4_act_343
                · have hok := hok.1 c_46
                  refine lv_iconst (v := 2) hx hb dX4_act_324 (by decide) ?_
                  refine lv_goto (tgt := 329) hx hb dX4_act_325 (by decide) ?_
                  refine va_put (ci := 4) (v := .int 2) (ty := .int) (C := RX4) (T := TX4) (N := 22) hx hb hts (ivX4 _) tyX4 tyX4_ok nmX4 hown hK hP hD hS 0 rfl rfl 16 (by decide) (hts _ (tb_c tw_3_117)) (fun _ h9 => h9) rfl (by decide +kernel) rfl rfl (Nat.le_of_ble_eq_true rfl) dX4_act_329 (fun H locs hP hD hS => ?_)
                  have hP : va_P D vwCl (wM am cI cZ (sS (sS (sS u 8 (x1 + 1)) 8 x1) 6 2)) H := hP
                  have hD : va_D A (wM am cI cZ (sS (sS (sS u 8 (x1 + 1)) 8 x1) 6 2)) := hD
                  refine lv_aload_n hx hb dX4_act_332 rfl (lv_at hl 1 rfl) ?_
                  refine lv_aload_n hx hb dX4_act_333 rfl (lv_at hl 1 rfl) ?_
                  refine va_get (ci := 4) (v := .ref (am 2)) (C := RX4) (T := TX4) (N := 22) hx hb hts (ivX4 _) hown hK hP 0 rfl rfl 3 (by decide) (hts _ (tb_c tw_3_104)) (fun _ h9 => h9) rfl dX4_act_334 ?_
                  refine lv_iload_n hx hb dX4_act_337 rfl (lv_at hl 2 rfl) ?_
                  obtain ⟨h_48, hok⟩ := hok
                  refine va_iald (f := u.2 1) hx hb hK hP 2 0 rfl rfl h_48 dX4_act_338 ?_
                  refine va_put (ci := 4) (v := .int (u.2 1 x1.toNatClampNeg)) (ty := .int) (C := RX4) (T := TX4) (N := 22) hx hb hts (ivX4 _) tyX4 tyX4_ok nmX4 hown hK hP hD hS 0 rfl rfl 17 (by decide) (hts _ (tb_c tw_3_118)) (fun _ h9 => h9) rfl (by decide +kernel) rfl rfl (Nat.le_of_ble_eq_true rfl) dX4_act_339 (fun H locs hP hD hS => ?_)
                  have hP : va_P D vwCl (wM am cI cZ (sS (sS (sS (sS u 8 (x1 + 1)) 8 x1) 6 2) 7 (u.2 1 x1.toNatClampNeg))) H := hP
                  have hD : va_D A (wM am cI cZ (sS (sS (sS (sS u 8 (x1 + 1)) 8 x1) 6 2) 7 (u.2 1 x1.toNatClampNeg))) := hD
                  refine lv_iload_n hx hb dX4_act_342 rfl (lv_at hl 0 rfl) ?_
                  have e9 : p_m_act u x1 = (p_m_lengthOf u x1, sS (sS (sS (sS u 8 (x1 + 1)) 8 x1) 6 2) 7 (u.2 1 x1.toNatClampNeg)) := by rw [p_m_act, if_neg c_3, if_neg c_7, if_neg c_16, if_neg c_22, if_neg c_28, if_neg c_30, if_neg c_41, if_pos c_46]
                  rw [e9]
                  exact W.iret hx hb hr (fun t ht hW => ⟨⟨_, (), rfl, rfl, by rw [ht]; exact hP, va_K.moved hW.alike hK, hD⟩, hS.F ht⟩) hS.2.2 dX4_act_343

def p_m_run_43 : Nat → St → Int32 → Int32 → Int32 × St
  | 0, u, _, _ => (0, u)
  | n + 1, u, x1, x2 => (if (u.1 6) = 1 then (if x1 ≤ x2 then (x2, u) else p_m_run_43 n ((p_m_act u (u.1 8)).2) x1 (x2 + ((p_m_act u (u.1 8)).1))) else (x2, u))
def ok_m_run_43 : Nat → St → Int32 → Int32 → Prop
  | 0, _, _, _ => False
  | n + 1, u, x1, x2 => (((u.1 6) = 1 → ((x1 ≤ x2 → True) ∧ (¬ x1 ≤ x2 → (ok_m_act u (u.1 8) ∧ ok_m_run_43 n ((p_m_act u (u.1 8)).2) x1 (x2 + ((p_m_act u (u.1 8)).1)))))) ∧ (¬ (u.1 6) = 1 → True))
set_option maxHeartbeats 4000000 in
set_option maxRecDepth 100000 in
theorem w_m_run_43 {p : Program} {l : Launch} {e : Env} {s : State} {m : MethodId} {args : Array Value} {below : List Frame} {meth : Method} {c : Code} {D : va_G} {A : Nat → Prop} (am : Nat → Nat) (cI cZ : ClassId) (zz : (Nat → Prop) → State → Heap → Prop) (hzz : Zok zz) (Cx : cxt p s m args meth c cX4_run 3 (some .int) wsX4_run RX4 D vwCl (tyT cI cZ) zz A) : ∀ (n : Nat) (u : St) (x1 x2 : Int32) (H : Heap) (locs : List Loc) (ls : Array Slot), ok_m_run_43 n u x1 x2 → va_P D vwCl (wM am cI cZ u) H → va_D A (wM am cI cZ u) → va_S A s.heap H locs → lv_has ls 3 [(0, .ref (am 0)), (1, .int x1), (2, .int x2)] → W p l e ({ frames := 5, cells := 0, slots := 0, locals := 106 } : Room) s m args below meth c H locs 0 0 (MQ below (qqI D vwCl (tyT cI cZ) (wM am cI cZ ((p_m_run_43 n u x1 x2).2)) (p_m_run_43 n u x1 x2).1 A) args s 0 0 A) (F0 m 43 ls []) := by
  obtain ⟨hx, hb, hr, hts, hown, hlocks, hml, hK, hA, hZ⟩ := id Cx
  intro n
  induction n with
  | zero =>
    intro u x1 x2 H locs ls hok
    exact False.elim hok
  | succ n ih =>
    intro u x1 x2 H locs ls hok hP hD hS hl
    unfold ok_m_run_43 at hok
    refine lv_aload_n hx hb dX4_run_43 rfl (lv_at hl 0 rfl) ?_
    refine va_get (ci := 4) (v := .int (u.1 6)) (C := RX4) (T := TX4) (N := 22) hx hb hts (ivX4 _) hown hK hP 0 rfl rfl 16 (by decide) (hts _ (tb_c tw_3_117)) (fun _ h9 => h9) rfl dX4_run_44 ?_
    refine lv_iconst (v := 1) hx hb dX4_run_47 (by decide) ?_
    refine lv_icmp_ne (tgt := 70) hx hb dX4_run_48 (by decide) (fun c_1 => ?_) (fun c_1 => ?_)
    · have hok := hok.2 c_1
      refine lv_iload_n hx hb dX4_run_70 rfl (lv_at hl 2 rfl) ?_
      have e9 : p_m_run_43 (n + 1) u x1 x2 = (x2, u) := by rw [p_m_run_43, if_neg c_1]
      rw [e9]
      exact W.iret hx hb hr (fun t ht hW => ⟨⟨_, (), rfl, rfl, by rw [ht]; exact hP, va_K.moved hW.alike hK, hD⟩, hS.F ht⟩) hS.2.2 dX4_run_71
    · have hok := hok.1 c_1
      refine lv_iload_n hx hb dX4_run_51 rfl (lv_at hl 2 rfl) ?_
      refine lv_iload_n hx hb dX4_run_52 rfl (lv_at hl 1 rfl) ?_
      refine lv_icmp_ge (tgt := 70) hx hb dX4_run_53 (by decide) (fun c_2 => ?_) (fun c_2 => ?_)
      · have hok := hok.1 c_2
        refine lv_iload_n hx hb dX4_run_70 rfl (lv_at hl 2 rfl) ?_
        have e9 : p_m_run_43 (n + 1) u x1 x2 = (x2, u) := by rw [p_m_run_43, if_pos c_1, if_pos c_2]
        rw [e9]
        exact W.iret hx hb hr (fun t ht hW => ⟨⟨_, (), rfl, rfl, by rw [ht]; exact hP, va_K.moved hW.alike hK, hD⟩, hS.F ht⟩) hS.2.2 dX4_run_71
      · have hok := hok.2 c_2
        refine lv_iload_n hx hb dX4_run_56 rfl (lv_at hl 2 rfl) ?_
        refine lv_aload_n hx hb dX4_run_57 rfl (lv_at hl 0 rfl) ?_
        refine lv_aload_n hx hb dX4_run_58 rfl (lv_at hl 0 rfl) ?_
        refine va_get (ci := 4) (v := .int (u.1 8)) (C := RX4) (T := TX4) (N := 22) hx hb hts (ivX4 _) hown hK hP 0 rfl rfl 18 (by decide) (hts _ (tb_c tw_3_119)) (fun _ h9 => h9) rfl dX4_run_59 ?_
        obtain ⟨h_3, hok⟩ := hok
        refine k_callVi (As := [.int (u.1 8)]) (rest := [.int x2]) hzz ⟨hx, hb, hml, hown, hts⟩ (c_m_act l D am cI cZ zz hzz u (u.1 8) h_3) (cwV 1 hts (tb_V tw_4_97 tw_4_99 slX4_act tw_1_5 tw_4_100) rfl rfl rfl (by decide +kernel) ⟨Nat.le_of_ble_eq_true rfl, Nat.le_of_ble_eq_true rfl⟩) (va_recv hK hP (ci := 4) (q0 := 0) rfl rfl) rfl hl.1 rfl (lv_room (Nat.le_of_ble_eq_true rfl)) dX4_run_62 ⟨Nat.le_of_ble_eq_true rfl, Nat.le_of_ble_eq_true rfl⟩ hP hK hD hS hA hZ (fun H locs hP hD hS => ?_)
        generalize eu_4 : (p_m_act u (u.1 8)).2 = u_4 at hP hD ⊢
        try rw [eu_4] at hok
        refine lv_iadd hx hb dX4_run_65 ?_
        refine lv_istore_n (lv' := [(2, .int (x2 + ((p_m_act u (u.1 8)).1))), (0, .ref (am 0)), (1, .int x1)]) hx hb dX4_run_66 rfl hl (by decide) rfl (fun ls hl => ?_)
        refine lv_goto (tgt := 43) hx hb dX4_run_67 (by decide) ?_
        have e9 : p_m_run_43 (n + 1) u x1 x2 = p_m_run_43 n u_4 x1 (x2 + ((p_m_act u (u.1 8)).1)) := by
          subst eu_4
          rw [p_m_run_43, if_pos c_1, if_neg c_2]
        rw [e9]
        exact ih u_4 x1 (x2 + ((p_m_act u (u.1 8)).1)) _ _ _ hok hP hD hS (lv_sub hl [1, 2, 0] rfl)
def p_m_run (u : St) (x1 : Int32) : Int32 × St := (if x1 < 0 then (0, sS u 0 1) else (if x1 ≤ 2000 then (if (u.1 6) = 1 then p_m_run_43 2002 (sS u 0 0) x1 0 else (0, sS u 0 2)) else (0, sS u 0 1)))
def ok_m_run (u : St) (x1 : Int32) : Prop := ((x1 < 0 → True) ∧ (¬ x1 < 0 → ((x1 ≤ 2000 → (((u.1 6) = 1 → ok_m_run_43 2002 (sS u 0 0) x1 0) ∧ (¬ (u.1 6) = 1 → True))) ∧ (¬ x1 ≤ 2000 → True))))
set_option maxHeartbeats 4000000 in
set_option maxRecDepth 100000 in
theorem c_m_run (l : Launch) (D : va_G) (am : Nat → Nat) (cI cZ : ClassId) (zz : (Nat → Prop) → State → Heap → Prop) (hzz : Zok zz) (u : St) (x1 : Int32) (hok : ok_m_run u x1) : tfI l D vwCl (tyT cI cZ) zz yX4_run wsX4_run ({ frames := 5, cells := 0, slots := 0, locals := 106 } : Room) [.ref (am 0), .int x1] (wM am cI cZ u) (p_m_run u x1).1 (wM am cI cZ ((p_m_run u x1).2)) := by
  intro sz
  unfold ok_m_run at hok
  refine Met.ofW (cc := cX4_run) (maxL := 3) (ret := (some .int)) (by decide) rfl ?_
  intro p e s m args below meth c s₁ B hml hv
  obtain ⟨rfl, hsz, hP, hK, hD0, hZ⟩ := hv
  have hx := B.exec
  have hb := B.bytes
  have hr := B.returns
  have hts := atoms_spec (ws := wsX4_run) B.pre
  have hown : s.vm.findClass RX4 = some m.cls := findClass_of_methodNamed B.named
  have hlocks := B.notSynchronized
  subst hsz
  have hD := hD0.self (sz := s.heap.size)
  generalize hAe : va_A (wM am cI cZ u) s.heap.size = A at hD hZ ⊢
  have hA : ∀ q : Nat, s.heap.size ≤ q → A q := fun q h => by rw [← hAe]; exact Or.inr h
  have hS : va_S A s.heap s.heap [] := va_S.rf
  have Cx : cxt p s m ([.ref (am 0), .int x1] : List Value).toArray meth c cX4_run 3 (some .int) wsX4_run RX4 D vwCl (tyT cI cZ) zz A := ⟨hx, hb, hr, hts, hown, hlocks, hml, hK, hA, hZ⟩
  have hl := lv_entry ([.ref (am 0), .int x1]) (n := 3) (Nat.le_of_ble_eq_true rfl)
  rw [lg_entry_eq]
  generalize (lg_sl ([.ref (am 0), .int x1]) ++ List.replicate (3 - (lg_sl ([.ref (am 0), .int x1])).length) Slot.unset).toArray = ls at hl ⊢
  have hl : lv_has ls 3 [(0, .ref (am 0)), (1, .int x1)] := hl
  refine lv_aload_n hx hb dX4_run_0 rfl (lv_at hl 0 rfl) ?_
  refine lv_iload_n hx hb dX4_run_1 rfl (lv_at hl 1 rfl) ?_
  refine lv_if_lt (tgt := 12) hx hb dX4_run_2 (by decide) (fun c_1 => ?_) (fun c_1 => ?_)
  · have hok := hok.1 c_1
    refine lv_iconst (v := 1) hx hb dX4_run_12 (by decide) ?_
    refine lv_goto (tgt := 29) hx hb dX4_run_13 (by decide) ?_
    refine va_put (ci := 4) (v := .int 1) (ty := .int) (C := RX4) (T := TX4) (N := 22) hx hb hts (ivX4 _) tyX4 tyX4_ok nmX4 hown hK hP hD hS 0 rfl rfl 0 (by decide) (hts _ (tb_c tw_3_101)) (fun _ h9 => h9) rfl (by decide +kernel) rfl rfl (Nat.le_of_ble_eq_true rfl) dX4_run_29 (fun H locs hP hD hS => ?_)
    have hP : va_P D vwCl (wM am cI cZ (sS u 0 1)) H := hP
    have hD : va_D A (wM am cI cZ (sS u 0 1)) := hD
    refine lv_aload_n hx hb dX4_run_32 rfl (lv_at hl 0 rfl) ?_
    refine va_get (ci := 4) (v := .int 1) (C := RX4) (T := TX4) (N := 22) hx hb hts (ivX4 _) hown hK hP 0 rfl rfl 0 (by decide) (hts _ (tb_c tw_3_101)) (fun _ h9 => h9) rfl dX4_run_33 ?_
    refine lv_if_le (tgt := 41) hx hb dX4_run_36 (by decide) (fun c_2 => absurd c_2 (by decide)) (fun c_2 => ?_)
    refine lv_iconst (v := 0) hx hb dX4_run_39 (by decide) ?_
    have e9 : p_m_run u x1 = (0, sS u 0 1) := by rw [p_m_run, if_pos c_1]
    rw [e9]
    exact W.iret hx hb hr (fun t ht hW => ⟨⟨_, (), rfl, rfl, by rw [ht]; exact hP, va_K.moved hW.alike hK, hD⟩, hS.F ht⟩) hS.2.2 dX4_run_40
  · have hok := hok.2 c_1
    refine lv_iload_n hx hb dX4_run_5 rfl (lv_at hl 1 rfl) ?_
    refine lv_sipush (v := 2000) hx hb dX4_run_6 (by decide) ?_
    refine lv_icmp_le (tgt := 16) hx hb dX4_run_9 (by decide) (fun c_3 => ?_) (fun c_3 => ?_)
    · have hok := hok.1 c_3
      refine lv_aload_n hx hb dX4_run_16 rfl (lv_at hl 0 rfl) ?_
      refine va_get (ci := 4) (v := .int (u.1 6)) (C := RX4) (T := TX4) (N := 22) hx hb hts (ivX4 _) hown hK hP 0 rfl rfl 16 (by decide) (hts _ (tb_c tw_3_117)) (fun _ h9 => h9) rfl dX4_run_17 ?_
      refine lv_iconst (v := 1) hx hb dX4_run_20 (by decide) ?_
      refine lv_icmp_eq (tgt := 28) hx hb dX4_run_21 (by decide) (fun c_4 => ?_) (fun c_4 => ?_)
      · have hok := hok.1 c_4
        refine lv_iconst (v := 0) hx hb dX4_run_28 (by decide) ?_
        refine va_put (ci := 4) (v := .int 0) (ty := .int) (C := RX4) (T := TX4) (N := 22) hx hb hts (ivX4 _) tyX4 tyX4_ok nmX4 hown hK hP hD hS 0 rfl rfl 0 (by decide) (hts _ (tb_c tw_3_101)) (fun _ h9 => h9) rfl (by decide +kernel) rfl rfl (Nat.le_of_ble_eq_true rfl) dX4_run_29 (fun H locs hP hD hS => ?_)
        have hP : va_P D vwCl (wM am cI cZ (sS u 0 0)) H := hP
        have hD : va_D A (wM am cI cZ (sS u 0 0)) := hD
        refine lv_aload_n hx hb dX4_run_32 rfl (lv_at hl 0 rfl) ?_
        refine va_get (ci := 4) (v := .int 0) (C := RX4) (T := TX4) (N := 22) hx hb hts (ivX4 _) hown hK hP 0 rfl rfl 0 (by decide) (hts _ (tb_c tw_3_101)) (fun _ h9 => h9) rfl dX4_run_33 ?_
        refine lv_if_le (tgt := 41) hx hb dX4_run_36 (by decide) (fun c_5 => ?_) (fun c_5 => absurd c_5 (by decide))
        refine lv_iconst (v := 0) hx hb dX4_run_41 (by decide) ?_
        refine lv_istore_n (lv' := [(2, .int 0), (0, .ref (am 0)), (1, .int x1)]) hx hb dX4_run_42 rfl hl (by decide) rfl (fun ls hl => ?_)
        have e9 : p_m_run u x1 = p_m_run_43 2002 (sS u 0 0) x1 0 := by rw [p_m_run, if_neg c_1, if_pos c_3, if_pos c_4]
        rw [e9]
        exact w_m_run_43 am cI cZ zz hzz Cx 2002 (sS u 0 0) x1 0 _ _ _ hok hP hD hS (lv_sub hl [1, 2, 0] rfl)
      · have hok := hok.2 c_4
        refine lv_iconst (v := 2) hx hb dX4_run_24 (by decide) ?_
        refine lv_goto (tgt := 29) hx hb dX4_run_25 (by decide) ?_
        refine va_put (ci := 4) (v := .int 2) (ty := .int) (C := RX4) (T := TX4) (N := 22) hx hb hts (ivX4 _) tyX4 tyX4_ok nmX4 hown hK hP hD hS 0 rfl rfl 0 (by decide) (hts _ (tb_c tw_3_101)) (fun _ h9 => h9) rfl (by decide +kernel) rfl rfl (Nat.le_of_ble_eq_true rfl) dX4_run_29 (fun H locs hP hD hS => ?_)
        have hP : va_P D vwCl (wM am cI cZ (sS u 0 2)) H := hP
        have hD : va_D A (wM am cI cZ (sS u 0 2)) := hD
        refine lv_aload_n hx hb dX4_run_32 rfl (lv_at hl 0 rfl) ?_
        refine va_get (ci := 4) (v := .int 2) (C := RX4) (T := TX4) (N := 22) hx hb hts (ivX4 _) hown hK hP 0 rfl rfl 0 (by decide) (hts _ (tb_c tw_3_101)) (fun _ h9 => h9) rfl dX4_run_33 ?_
        refine lv_if_le (tgt := 41) hx hb dX4_run_36 (by decide) (fun c_6 => absurd c_6 (by decide)) (fun c_6 => ?_)
        refine lv_iconst (v := 0) hx hb dX4_run_39 (by decide) ?_
        have e9 : p_m_run u x1 = (0, sS u 0 2) := by rw [p_m_run, if_neg c_1, if_pos c_3, if_neg c_4]
        rw [e9]
        exact W.iret hx hb hr (fun t ht hW => ⟨⟨_, (), rfl, rfl, by rw [ht]; exact hP, va_K.moved hW.alike hK, hD⟩, hS.F ht⟩) hS.2.2 dX4_run_40
    · have hok := hok.2 c_3
      refine lv_iconst (v := 1) hx hb dX4_run_12 (by decide) ?_
      refine lv_goto (tgt := 29) hx hb dX4_run_13 (by decide) ?_
      refine va_put (ci := 4) (v := .int 1) (ty := .int) (C := RX4) (T := TX4) (N := 22) hx hb hts (ivX4 _) tyX4 tyX4_ok nmX4 hown hK hP hD hS 0 rfl rfl 0 (by decide) (hts _ (tb_c tw_3_101)) (fun _ h9 => h9) rfl (by decide +kernel) rfl rfl (Nat.le_of_ble_eq_true rfl) dX4_run_29 (fun H locs hP hD hS => ?_)
      have hP : va_P D vwCl (wM am cI cZ (sS u 0 1)) H := hP
      have hD : va_D A (wM am cI cZ (sS u 0 1)) := hD
      refine lv_aload_n hx hb dX4_run_32 rfl (lv_at hl 0 rfl) ?_
      refine va_get (ci := 4) (v := .int 1) (C := RX4) (T := TX4) (N := 22) hx hb hts (ivX4 _) hown hK hP 0 rfl rfl 0 (by decide) (hts _ (tb_c tw_3_101)) (fun _ h9 => h9) rfl dX4_run_33 ?_
      refine lv_if_le (tgt := 41) hx hb dX4_run_36 (by decide) (fun c_7 => absurd c_7 (by decide)) (fun c_7 => ?_)
      refine lv_iconst (v := 0) hx hb dX4_run_39 (by decide) ?_
      have e9 : p_m_run u x1 = (0, sS u 0 1) := by rw [p_m_run, if_neg c_1, if_neg c_3]
      rw [e9]
      exact W.iret hx hb hr (fun t ht hW => ⟨⟨_, (), rfl, rfl, by rw [ht]; exact hP, va_K.moved hW.alike hK, hD⟩, hS.F ht⟩) hS.2.2 dX4_run_40

def p_m_state (u : St) : Int32 × St := (if (u.1 6) = 3 then (3 + (4 * (u.1 7)), sS u 0 0) else (u.1 6, sS u 0 0))
set_option maxHeartbeats 4000000 in
set_option maxRecDepth 100000 in
theorem c_m_state (l : Launch) (D : va_G) (am : Nat → Nat) (cI cZ : ClassId) (zz : (Nat → Prop) → State → Heap → Prop) (hzz : Zok zz) (u : St) : tfI l D vwCl (tyT cI cZ) zz yX4_state wsX4_state ({ frames := 0, cells := 0, slots := 0, locals := 0 } : Room) [.ref (am 0)] (wM am cI cZ u) (p_m_state u).1 (wM am cI cZ ((p_m_state u).2)) := by
  intro sz
  refine Met.ofW (cc := cX4_state) (maxL := 1) (ret := (some .int)) (by decide) rfl ?_
  intro p e s m args below meth c s₁ B hml hv
  obtain ⟨rfl, hsz, hP, hK, hD0, hZ⟩ := hv
  have hx := B.exec
  have hb := B.bytes
  have hr := B.returns
  have hts := atoms_spec (ws := wsX4_state) B.pre
  have hown : s.vm.findClass RX4 = some m.cls := findClass_of_methodNamed B.named
  have hlocks := B.notSynchronized
  subst hsz
  have hD := hD0.self (sz := s.heap.size)
  generalize hAe : va_A (wM am cI cZ u) s.heap.size = A at hD hZ ⊢
  have hA : ∀ q : Nat, s.heap.size ≤ q → A q := fun q h => by rw [← hAe]; exact Or.inr h
  have hS : va_S A s.heap s.heap [] := va_S.rf
  have Cx : cxt p s m ([.ref (am 0)] : List Value).toArray meth c cX4_state 1 (some .int) wsX4_state RX4 D vwCl (tyT cI cZ) zz A := ⟨hx, hb, hr, hts, hown, hlocks, hml, hK, hA, hZ⟩
  have hl := lv_entry ([.ref (am 0)]) (n := 1) (Nat.le_of_ble_eq_true rfl)
  rw [lg_entry_eq]
  generalize (lg_sl ([.ref (am 0)]) ++ List.replicate (1 - (lg_sl ([.ref (am 0)])).length) Slot.unset).toArray = ls at hl ⊢
  have hl : lv_has ls 1 [(0, .ref (am 0))] := hl
  refine lv_aload_n hx hb dX4_state_0 rfl (lv_at hl 0 rfl) ?_
  refine lv_iconst (v := 0) hx hb dX4_state_1 (by decide) ?_
  refine va_put (ci := 4) (v := .int 0) (ty := .int) (C := RX4) (T := TX4) (N := 22) hx hb hts (ivX4 _) tyX4 tyX4_ok nmX4 hown hK hP hD hS 0 rfl rfl 0 (by decide) (hts _ (tb_c tw_3_101)) (fun _ h9 => h9) rfl (by decide +kernel) rfl rfl (Nat.le_of_ble_eq_true rfl) dX4_state_2 (fun H locs hP hD hS => ?_)
  have hP : va_P D vwCl (wM am cI cZ (sS u 0 0)) H := hP
  have hD : va_D A (wM am cI cZ (sS u 0 0)) := hD
  refine lv_aload_n hx hb dX4_state_5 rfl (lv_at hl 0 rfl) ?_
  refine va_get (ci := 4) (v := .int (u.1 6)) (C := RX4) (T := TX4) (N := 22) hx hb hts (ivX4 _) hown hK hP 0 rfl rfl 16 (by decide) (hts _ (tb_c tw_3_117)) (fun _ h9 => h9) rfl dX4_state_6 ?_
  refine lv_iconst (v := 3) hx hb dX4_state_9 (by decide) ?_
  refine lv_icmp_ne (tgt := 24) hx hb dX4_state_10 (by decide) (fun c_1 => ?_) (fun c_1 => ?_)
  · skip
    refine lv_aload_n hx hb dX4_state_24 rfl (lv_at hl 0 rfl) ?_
    refine va_get (ci := 4) (v := .int (u.1 6)) (C := RX4) (T := TX4) (N := 22) hx hb hts (ivX4 _) hown hK hP 0 rfl rfl 16 (by decide) (hts _ (tb_c tw_3_117)) (fun _ h9 => h9) rfl dX4_state_25 ?_
    have e9 : p_m_state u = (u.1 6, sS u 0 0) := by rw [p_m_state, if_neg c_1]
    rw [e9]
    exact W.iret hx hb hr (fun t ht hW => ⟨⟨_, (), rfl, rfl, by rw [ht]; exact hP, va_K.moved hW.alike hK, hD⟩, hS.F ht⟩) hS.2.2 dX4_state_28
  · skip
    refine lv_iconst (v := 3) hx hb dX4_state_13 (by decide) ?_
    refine lv_iconst (v := 4) hx hb dX4_state_14 (by decide) ?_
    refine lv_aload_n hx hb dX4_state_15 rfl (lv_at hl 0 rfl) ?_
    refine va_get (ci := 4) (v := .int (u.1 7)) (C := RX4) (T := TX4) (N := 22) hx hb hts (ivX4 _) hown hK hP 0 rfl rfl 17 (by decide) (hts _ (tb_c tw_3_118)) (fun _ h9 => h9) rfl dX4_state_16 ?_
    refine lv_imul hx hb dX4_state_19 ?_
    refine lv_iadd hx hb dX4_state_20 ?_
    refine lv_goto (tgt := 28) hx hb dX4_state_21 (by decide) ?_
    have e9 : p_m_state u = (3 + (4 * (u.1 7)), sS u 0 0) := by rw [p_m_state, if_pos c_1]
    rw [e9]
    exact W.iret hx hb hr (fun t ht hW => ⟨⟨_, (), rfl, rfl, by rw [ht]; exact hP, va_K.moved hW.alike hK, hD⟩, hS.F ht⟩) hS.2.2 dX4_state_28

def p_m_at (u : St) : Int32 × St := (if (u.1 6) = 0 then ((-1), sS u 0 0) else (u.1 8, sS u 0 0))
set_option maxHeartbeats 4000000 in
set_option maxRecDepth 100000 in
theorem c_m_at (l : Launch) (D : va_G) (am : Nat → Nat) (cI cZ : ClassId) (zz : (Nat → Prop) → State → Heap → Prop) (hzz : Zok zz) (u : St) : tfI l D vwCl (tyT cI cZ) zz yX4_at wsX4_at ({ frames := 0, cells := 0, slots := 0, locals := 0 } : Room) [.ref (am 0)] (wM am cI cZ u) (p_m_at u).1 (wM am cI cZ ((p_m_at u).2)) := by
  intro sz
  refine Met.ofW (cc := cX4_at) (maxL := 1) (ret := (some .int)) (by decide) rfl ?_
  intro p e s m args below meth c s₁ B hml hv
  obtain ⟨rfl, hsz, hP, hK, hD0, hZ⟩ := hv
  have hx := B.exec
  have hb := B.bytes
  have hr := B.returns
  have hts := atoms_spec (ws := wsX4_at) B.pre
  have hown : s.vm.findClass RX4 = some m.cls := findClass_of_methodNamed B.named
  have hlocks := B.notSynchronized
  subst hsz
  have hD := hD0.self (sz := s.heap.size)
  generalize hAe : va_A (wM am cI cZ u) s.heap.size = A at hD hZ ⊢
  have hA : ∀ q : Nat, s.heap.size ≤ q → A q := fun q h => by rw [← hAe]; exact Or.inr h
  have hS : va_S A s.heap s.heap [] := va_S.rf
  have Cx : cxt p s m ([.ref (am 0)] : List Value).toArray meth c cX4_at 1 (some .int) wsX4_at RX4 D vwCl (tyT cI cZ) zz A := ⟨hx, hb, hr, hts, hown, hlocks, hml, hK, hA, hZ⟩
  have hl := lv_entry ([.ref (am 0)]) (n := 1) (Nat.le_of_ble_eq_true rfl)
  rw [lg_entry_eq]
  generalize (lg_sl ([.ref (am 0)]) ++ List.replicate (1 - (lg_sl ([.ref (am 0)])).length) Slot.unset).toArray = ls at hl ⊢
  have hl : lv_has ls 1 [(0, .ref (am 0))] := hl
  refine lv_aload_n hx hb dX4_at_0 rfl (lv_at hl 0 rfl) ?_
  refine lv_iconst (v := 0) hx hb dX4_at_1 (by decide) ?_
  refine va_put (ci := 4) (v := .int 0) (ty := .int) (C := RX4) (T := TX4) (N := 22) hx hb hts (ivX4 _) tyX4 tyX4_ok nmX4 hown hK hP hD hS 0 rfl rfl 0 (by decide) (hts _ (tb_c tw_3_101)) (fun _ h9 => h9) rfl (by decide +kernel) rfl rfl (Nat.le_of_ble_eq_true rfl) dX4_at_2 (fun H locs hP hD hS => ?_)
  have hP : va_P D vwCl (wM am cI cZ (sS u 0 0)) H := hP
  have hD : va_D A (wM am cI cZ (sS u 0 0)) := hD
  refine lv_aload_n hx hb dX4_at_5 rfl (lv_at hl 0 rfl) ?_
  refine va_get (ci := 4) (v := .int (u.1 6)) (C := RX4) (T := TX4) (N := 22) hx hb hts (ivX4 _) hown hK hP 0 rfl rfl 16 (by decide) (hts _ (tb_c tw_3_117)) (fun _ h9 => h9) rfl dX4_at_6 ?_
  refine lv_if_ne (tgt := 16) hx hb dX4_at_9 (by decide) (fun c_1 => ?_) (fun c_1 => ?_)
  · skip
    refine lv_aload_n hx hb dX4_at_16 rfl (lv_at hl 0 rfl) ?_
    refine va_get (ci := 4) (v := .int (u.1 8)) (C := RX4) (T := TX4) (N := 22) hx hb hts (ivX4 _) hown hK hP 0 rfl rfl 18 (by decide) (hts _ (tb_c tw_3_119)) (fun _ h9 => h9) rfl dX4_at_17 ?_
    have e9 : p_m_at u = (u.1 8, sS u 0 0) := by rw [p_m_at, if_neg c_1]
    rw [e9]
    exact W.iret hx hb hr (fun t ht hW => ⟨⟨_, (), rfl, rfl, by rw [ht]; exact hP, va_K.moved hW.alike hK, hD⟩, hS.F ht⟩) hS.2.2 dX4_at_20
  · skip
    refine lv_iconst (v := (-1)) hx hb dX4_at_12 (by decide) ?_
    refine lv_goto (tgt := 20) hx hb dX4_at_13 (by decide) ?_
    have e9 : p_m_at u = ((-1), sS u 0 0) := by rw [p_m_at, if_pos c_1]
    rw [e9]
    exact W.iret hx hb hr (fun t ht hW => ⟨⟨_, (), rfl, rfl, by rw [ht]; exact hP, va_K.moved hW.alike hK, hD⟩, hS.F ht⟩) hS.2.2 dX4_at_20

def p_m_variable (u : St) (x1 : Int32) : Int32 × St := (if (p_m_isVariable x1) = 0 then (0, sS u 0 1) else (if (u.1 6) = 0 then (0, sS u 0 2) else (u.2 10 x1.toNatClampNeg, sS u 0 0)))
def ok_m_variable (u : St) (x1 : Int32) : Prop := (((p_m_isVariable x1) = 0 → True) ∧ (¬ (p_m_isVariable x1) = 0 → (((u.1 6) = 0 → True) ∧ (¬ (u.1 6) = 0 → (vp_in x1 8 ∧ True)))))
set_option maxHeartbeats 4000000 in
set_option maxRecDepth 100000 in
theorem c_m_variable (l : Launch) (D : va_G) (am : Nat → Nat) (cI cZ : ClassId) (zz : (Nat → Prop) → State → Heap → Prop) (hzz : Zok zz) (u : St) (x1 : Int32) (hok : ok_m_variable u x1) : tfI l D vwCl (tyT cI cZ) zz yX4_variable wsX4_variable ({ frames := 1, cells := 0, slots := 0, locals := 20 } : Room) [.ref (am 0), .int x1] (wM am cI cZ u) (p_m_variable u x1).1 (wM am cI cZ ((p_m_variable u x1).2)) := by
  intro sz
  unfold ok_m_variable at hok
  refine Met.ofW (cc := cX4_variable) (maxL := 2) (ret := (some .int)) (by decide) rfl ?_
  intro p e s m args below meth c s₁ B hml hv
  obtain ⟨rfl, hsz, hP, hK, hD0, hZ⟩ := hv
  have hx := B.exec
  have hb := B.bytes
  have hr := B.returns
  have hts := atoms_spec (ws := wsX4_variable) B.pre
  have hown : s.vm.findClass RX4 = some m.cls := findClass_of_methodNamed B.named
  have hlocks := B.notSynchronized
  subst hsz
  have hD := hD0.self (sz := s.heap.size)
  generalize hAe : va_A (wM am cI cZ u) s.heap.size = A at hD hZ ⊢
  have hA : ∀ q : Nat, s.heap.size ≤ q → A q := fun q h => by rw [← hAe]; exact Or.inr h
  have hS : va_S A s.heap s.heap [] := va_S.rf
  have Cx : cxt p s m ([.ref (am 0), .int x1] : List Value).toArray meth c cX4_variable 2 (some .int) wsX4_variable RX4 D vwCl (tyT cI cZ) zz A := ⟨hx, hb, hr, hts, hown, hlocks, hml, hK, hA, hZ⟩
  have hl := lv_entry ([.ref (am 0), .int x1]) (n := 2) (Nat.le_of_ble_eq_true rfl)
  rw [lg_entry_eq]
  generalize (lg_sl ([.ref (am 0), .int x1]) ++ List.replicate (2 - (lg_sl ([.ref (am 0), .int x1])).length) Slot.unset).toArray = ls at hl ⊢
  have hl : lv_has ls 2 [(0, .ref (am 0)), (1, .int x1)] := hl
  refine lv_aload_n hx hb dX4_variable_0 rfl (lv_at hl 0 rfl) ?_
  refine lv_iload_n hx hb dX4_variable_1 rfl (lv_at hl 1 rfl) ?_
  refine k_callSi (As := [.int x1]) (rest := [.ref (am 0)]) hzz ⟨hx, hb, hml, hown, hts⟩ (c_m_isVariable l D am cI cZ zz hzz (wM am cI cZ u) x1) (cwS 1 hts (tb_S tw_3_176 tw_3_177 tw_1_5 tw_3_178) rfl rfl rfl (by decide +kernel) ⟨Nat.le_of_ble_eq_true rfl, Nat.le_of_ble_eq_true rfl⟩) rfl hl.1 rfl (lv_room (Nat.le_of_ble_eq_true rfl)) dX4_variable_2 ⟨Nat.le_of_ble_eq_true rfl, Nat.le_of_ble_eq_true rfl⟩ hP hK hD hS hA hZ (fun H locs hP hD hS => ?_)
  refine lv_if_ne (tgt := 12) hx hb dX4_variable_5 (by decide) (fun c_2 => ?_) (fun c_2 => ?_)
  · have hok := hok.2 c_2
    refine lv_aload_n hx hb dX4_variable_12 rfl (lv_at hl 0 rfl) ?_
    refine va_get (ci := 4) (v := .int (u.1 6)) (C := RX4) (T := TX4) (N := 22) hx hb hts (ivX4 _) hown hK hP 0 rfl rfl 16 (by decide) (hts _ (tb_c tw_3_117)) (fun _ h9 => h9) rfl dX4_variable_13 ?_
    refine lv_if_ne (tgt := 23) hx hb dX4_variable_16 (by decide) (fun c_3 => ?_) (fun c_3 => ?_)
    · have hok := hok.2 c_3
      refine lv_iconst (v := 0) hx hb dX4_variable_23 (by decide) ?_
      refine va_put (ci := 4) (v := .int 0) (ty := .int) (C := RX4) (T := TX4) (N := 22) hx hb hts (ivX4 _) tyX4 tyX4_ok nmX4 hown hK hP hD hS 0 rfl rfl 0 (by decide) (hts _ (tb_c tw_3_101)) (fun _ h9 => h9) rfl (by decide +kernel) rfl rfl (Nat.le_of_ble_eq_true rfl) dX4_variable_24 (fun H locs hP hD hS => ?_)
      have hP : va_P D vwCl (wM am cI cZ (sS u 0 0)) H := hP
      have hD : va_D A (wM am cI cZ (sS u 0 0)) := hD
      refine lv_aload_n hx hb dX4_variable_27 rfl (lv_at hl 0 rfl) ?_
      refine va_get (ci := 4) (v := .int 0) (C := RX4) (T := TX4) (N := 22) hx hb hts (ivX4 _) hown hK hP 0 rfl rfl 0 (by decide) (hts _ (tb_c tw_3_101)) (fun _ h9 => h9) rfl dX4_variable_28 ?_
      refine lv_if_le (tgt := 38) hx hb dX4_variable_31 (by decide) (fun c_4 => ?_) (fun c_4 => absurd c_4 (by decide))
      refine lv_aload_n hx hb dX4_variable_38 rfl (lv_at hl 0 rfl) ?_
      refine va_get (ci := 4) (v := .ref (am 11)) (C := RX4) (T := TX4) (N := 22) hx hb hts (ivX4 _) hown hK hP 0 rfl rfl 19 (by decide) (hts _ (tb_c tw_3_120)) (fun _ h9 => h9) rfl dX4_variable_39 ?_
      refine lv_iload_n hx hb dX4_variable_42 rfl (lv_at hl 1 rfl) ?_
      obtain ⟨h_5, hok⟩ := hok
      refine va_iald (f := u.2 10) hx hb hK hP 11 0 rfl rfl h_5 dX4_variable_43 ?_
      have e9 : p_m_variable u x1 = (u.2 10 x1.toNatClampNeg, sS u 0 0) := by rw [p_m_variable, if_neg c_2, if_neg c_3]
      rw [e9]
      exact W.iret hx hb hr (fun t ht hW => ⟨⟨_, (), rfl, rfl, by rw [ht]; exact hP, va_K.moved hW.alike hK, hD⟩, hS.F ht⟩) hS.2.2 dX4_variable_44
    · have hok := hok.1 c_3
      refine lv_iconst (v := 2) hx hb dX4_variable_19 (by decide) ?_
      refine lv_goto (tgt := 24) hx hb dX4_variable_20 (by decide) ?_
      refine va_put (ci := 4) (v := .int 2) (ty := .int) (C := RX4) (T := TX4) (N := 22) hx hb hts (ivX4 _) tyX4 tyX4_ok nmX4 hown hK hP hD hS 0 rfl rfl 0 (by decide) (hts _ (tb_c tw_3_101)) (fun _ h9 => h9) rfl (by decide +kernel) rfl rfl (Nat.le_of_ble_eq_true rfl) dX4_variable_24 (fun H locs hP hD hS => ?_)
      have hP : va_P D vwCl (wM am cI cZ (sS u 0 2)) H := hP
      have hD : va_D A (wM am cI cZ (sS u 0 2)) := hD
      refine lv_aload_n hx hb dX4_variable_27 rfl (lv_at hl 0 rfl) ?_
      refine va_get (ci := 4) (v := .int 2) (C := RX4) (T := TX4) (N := 22) hx hb hts (ivX4 _) hown hK hP 0 rfl rfl 0 (by decide) (hts _ (tb_c tw_3_101)) (fun _ h9 => h9) rfl dX4_variable_28 ?_
      refine lv_if_le (tgt := 38) hx hb dX4_variable_31 (by decide) (fun c_6 => absurd c_6 (by decide)) (fun c_6 => ?_)
      refine lv_iconst (v := 0) hx hb dX4_variable_34 (by decide) ?_
      refine lv_goto (tgt := 44) hx hb dX4_variable_35 (by decide) ?_
      have e9 : p_m_variable u x1 = (0, sS u 0 2) := by rw [p_m_variable, if_neg c_2, if_pos c_3]
      rw [e9]
      exact W.iret hx hb hr (fun t ht hW => ⟨⟨_, (), rfl, rfl, by rw [ht]; exact hP, va_K.moved hW.alike hK, hD⟩, hS.F ht⟩) hS.2.2 dX4_variable_44
  · have hok := hok.1 c_2
    refine lv_iconst (v := 1) hx hb dX4_variable_8 (by decide) ?_
    refine lv_goto (tgt := 24) hx hb dX4_variable_9 (by decide) ?_
    refine va_put (ci := 4) (v := .int 1) (ty := .int) (C := RX4) (T := TX4) (N := 22) hx hb hts (ivX4 _) tyX4 tyX4_ok nmX4 hown hK hP hD hS 0 rfl rfl 0 (by decide) (hts _ (tb_c tw_3_101)) (fun _ h9 => h9) rfl (by decide +kernel) rfl rfl (Nat.le_of_ble_eq_true rfl) dX4_variable_24 (fun H locs hP hD hS => ?_)
    have hP : va_P D vwCl (wM am cI cZ (sS u 0 1)) H := hP
    have hD : va_D A (wM am cI cZ (sS u 0 1)) := hD
    refine lv_aload_n hx hb dX4_variable_27 rfl (lv_at hl 0 rfl) ?_
    refine va_get (ci := 4) (v := .int 1) (C := RX4) (T := TX4) (N := 22) hx hb hts (ivX4 _) hown hK hP 0 rfl rfl 0 (by decide) (hts _ (tb_c tw_3_101)) (fun _ h9 => h9) rfl dX4_variable_28 ?_
    refine lv_if_le (tgt := 38) hx hb dX4_variable_31 (by decide) (fun c_7 => absurd c_7 (by decide)) (fun c_7 => ?_)
    refine lv_iconst (v := 0) hx hb dX4_variable_34 (by decide) ?_
    refine lv_goto (tgt := 44) hx hb dX4_variable_35 (by decide) ?_
    have e9 : p_m_variable u x1 = (0, sS u 0 1) := by rw [p_m_variable, if_pos c_2]
    rw [e9]
    exact W.iret hx hb hr (fun t ht hW => ⟨⟨_, (), rfl, rfl, by rw [ht]; exact hP, va_K.moved hW.alike hK, hD⟩, hS.F ht⟩) hS.2.2 dX4_variable_44

def p_m_outputs (u : St) : Int32 × St := (if (u.1 6) = 0 then (0, sS u 0 0) else (u.1 9, sS u 0 0))
set_option maxHeartbeats 4000000 in
set_option maxRecDepth 100000 in
theorem c_m_outputs (l : Launch) (D : va_G) (am : Nat → Nat) (cI cZ : ClassId) (zz : (Nat → Prop) → State → Heap → Prop) (hzz : Zok zz) (u : St) : tfI l D vwCl (tyT cI cZ) zz yX4_outputs wsX4_outputs ({ frames := 0, cells := 0, slots := 0, locals := 0 } : Room) [.ref (am 0)] (wM am cI cZ u) (p_m_outputs u).1 (wM am cI cZ ((p_m_outputs u).2)) := by
  intro sz
  refine Met.ofW (cc := cX4_outputs) (maxL := 1) (ret := (some .int)) (by decide) rfl ?_
  intro p e s m args below meth c s₁ B hml hv
  obtain ⟨rfl, hsz, hP, hK, hD0, hZ⟩ := hv
  have hx := B.exec
  have hb := B.bytes
  have hr := B.returns
  have hts := atoms_spec (ws := wsX4_outputs) B.pre
  have hown : s.vm.findClass RX4 = some m.cls := findClass_of_methodNamed B.named
  have hlocks := B.notSynchronized
  subst hsz
  have hD := hD0.self (sz := s.heap.size)
  generalize hAe : va_A (wM am cI cZ u) s.heap.size = A at hD hZ ⊢
  have hA : ∀ q : Nat, s.heap.size ≤ q → A q := fun q h => by rw [← hAe]; exact Or.inr h
  have hS : va_S A s.heap s.heap [] := va_S.rf
  have Cx : cxt p s m ([.ref (am 0)] : List Value).toArray meth c cX4_outputs 1 (some .int) wsX4_outputs RX4 D vwCl (tyT cI cZ) zz A := ⟨hx, hb, hr, hts, hown, hlocks, hml, hK, hA, hZ⟩
  have hl := lv_entry ([.ref (am 0)]) (n := 1) (Nat.le_of_ble_eq_true rfl)
  rw [lg_entry_eq]
  generalize (lg_sl ([.ref (am 0)]) ++ List.replicate (1 - (lg_sl ([.ref (am 0)])).length) Slot.unset).toArray = ls at hl ⊢
  have hl : lv_has ls 1 [(0, .ref (am 0))] := hl
  refine lv_aload_n hx hb dX4_outputs_0 rfl (lv_at hl 0 rfl) ?_
  refine lv_iconst (v := 0) hx hb dX4_outputs_1 (by decide) ?_
  refine va_put (ci := 4) (v := .int 0) (ty := .int) (C := RX4) (T := TX4) (N := 22) hx hb hts (ivX4 _) tyX4 tyX4_ok nmX4 hown hK hP hD hS 0 rfl rfl 0 (by decide) (hts _ (tb_c tw_3_101)) (fun _ h9 => h9) rfl (by decide +kernel) rfl rfl (Nat.le_of_ble_eq_true rfl) dX4_outputs_2 (fun H locs hP hD hS => ?_)
  have hP : va_P D vwCl (wM am cI cZ (sS u 0 0)) H := hP
  have hD : va_D A (wM am cI cZ (sS u 0 0)) := hD
  refine lv_aload_n hx hb dX4_outputs_5 rfl (lv_at hl 0 rfl) ?_
  refine va_get (ci := 4) (v := .int (u.1 6)) (C := RX4) (T := TX4) (N := 22) hx hb hts (ivX4 _) hown hK hP 0 rfl rfl 16 (by decide) (hts _ (tb_c tw_3_117)) (fun _ h9 => h9) rfl dX4_outputs_6 ?_
  refine lv_if_ne (tgt := 16) hx hb dX4_outputs_9 (by decide) (fun c_1 => ?_) (fun c_1 => ?_)
  · skip
    refine lv_aload_n hx hb dX4_outputs_16 rfl (lv_at hl 0 rfl) ?_
    refine va_get (ci := 4) (v := .int (u.1 9)) (C := RX4) (T := TX4) (N := 22) hx hb hts (ivX4 _) hown hK hP 0 rfl rfl 20 (by decide) (hts _ (tb_c tw_3_121)) (fun _ h9 => h9) rfl dX4_outputs_17 ?_
    have e9 : p_m_outputs u = (u.1 9, sS u 0 0) := by rw [p_m_outputs, if_neg c_1]
    rw [e9]
    exact W.iret hx hb hr (fun t ht hW => ⟨⟨_, (), rfl, rfl, by rw [ht]; exact hP, va_K.moved hW.alike hK, hD⟩, hS.F ht⟩) hS.2.2 dX4_outputs_20
  · skip
    refine lv_iconst (v := 0) hx hb dX4_outputs_12 (by decide) ?_
    refine lv_goto (tgt := 20) hx hb dX4_outputs_13 (by decide) ?_
    have e9 : p_m_outputs u = (0, sS u 0 0) := by rw [p_m_outputs, if_pos c_1]
    rw [e9]
    exact W.iret hx hb hr (fun t ht hW => ⟨⟨_, (), rfl, rfl, by rw [ht]; exact hP, va_K.moved hW.alike hK, hD⟩, hS.F ht⟩) hS.2.2 dX4_outputs_20

def p_m_output (u : St) (x1 : Int32) : Int32 × St := (if (u.1 6) = 0 then (0, sS u 0 1) else (if x1 < 0 then (0, sS u 0 1) else (if (u.1 9) ≤ x1 then (0, sS u 0 1) else (if x1 < ((u.1 9) - 16) then (0, sS u 0 1) else (u.2 11 (x1 - x1 / 16 * 16).toNatClampNeg, sS u 0 0)))))
def ok_m_output (u : St) (x1 : Int32) : Prop := (((u.1 6) = 0 → True) ∧ (¬ (u.1 6) = 0 → ((x1 < 0 → True) ∧ (¬ x1 < 0 → (((u.1 9) ≤ x1 → True) ∧ (¬ (u.1 9) ≤ x1 → ((x1 < ((u.1 9) - 16) → True) ∧ (¬ x1 < ((u.1 9) - 16) → (vp_in (x1 - x1 / 16 * 16) 16 ∧ True)))))))))
set_option maxHeartbeats 4000000 in
set_option maxRecDepth 100000 in
theorem c_m_output (l : Launch) (D : va_G) (am : Nat → Nat) (cI cZ : ClassId) (zz : (Nat → Prop) → State → Heap → Prop) (hzz : Zok zz) (u : St) (x1 : Int32) (hok : ok_m_output u x1) : tfI l D vwCl (tyT cI cZ) zz yX4_output wsX4_output ({ frames := 0, cells := 0, slots := 0, locals := 0 } : Room) [.ref (am 0), .int x1] (wM am cI cZ u) (p_m_output u x1).1 (wM am cI cZ ((p_m_output u x1).2)) := by
  intro sz
  unfold ok_m_output at hok
  refine Met.ofW (cc := cX4_output) (maxL := 2) (ret := (some .int)) (by decide) rfl ?_
  intro p e s m args below meth c s₁ B hml hv
  obtain ⟨rfl, hsz, hP, hK, hD0, hZ⟩ := hv
  have hx := B.exec
  have hb := B.bytes
  have hr := B.returns
  have hts := atoms_spec (ws := wsX4_output) B.pre
  have hown : s.vm.findClass RX4 = some m.cls := findClass_of_methodNamed B.named
  have hlocks := B.notSynchronized
  subst hsz
  have hD := hD0.self (sz := s.heap.size)
  generalize hAe : va_A (wM am cI cZ u) s.heap.size = A at hD hZ ⊢
  have hA : ∀ q : Nat, s.heap.size ≤ q → A q := fun q h => by rw [← hAe]; exact Or.inr h
  have hS : va_S A s.heap s.heap [] := va_S.rf
  have Cx : cxt p s m ([.ref (am 0), .int x1] : List Value).toArray meth c cX4_output 2 (some .int) wsX4_output RX4 D vwCl (tyT cI cZ) zz A := ⟨hx, hb, hr, hts, hown, hlocks, hml, hK, hA, hZ⟩
  have hl := lv_entry ([.ref (am 0), .int x1]) (n := 2) (Nat.le_of_ble_eq_true rfl)
  rw [lg_entry_eq]
  generalize (lg_sl ([.ref (am 0), .int x1]) ++ List.replicate (2 - (lg_sl ([.ref (am 0), .int x1])).length) Slot.unset).toArray = ls at hl ⊢
  have hl : lv_has ls 2 [(0, .ref (am 0)), (1, .int x1)] := hl
  refine lv_aload_n hx hb dX4_output_0 rfl (lv_at hl 0 rfl) ?_
  refine lv_aload_n hx hb dX4_output_1 rfl (lv_at hl 0 rfl) ?_
  refine va_get (ci := 4) (v := .int (u.1 6)) (C := RX4) (T := TX4) (N := 22) hx hb hts (ivX4 _) hown hK hP 0 rfl rfl 16 (by decide) (hts _ (tb_c tw_3_117)) (fun _ h9 => h9) rfl dX4_output_2 ?_
  refine lv_if_eq (tgt := 35) hx hb dX4_output_5 (by decide) (fun c_1 => ?_) (fun c_1 => ?_)
  · have hok := hok.1 c_1
    refine lv_iconst (v := 1) hx hb dX4_output_35 (by decide) ?_
    refine va_put (ci := 4) (v := .int 1) (ty := .int) (C := RX4) (T := TX4) (N := 22) hx hb hts (ivX4 _) tyX4 tyX4_ok nmX4 hown hK hP hD hS 0 rfl rfl 0 (by decide) (hts _ (tb_c tw_3_101)) (fun _ h9 => h9) rfl (by decide +kernel) rfl rfl (Nat.le_of_ble_eq_true rfl) dX4_output_36 (fun H locs hP hD hS => ?_)
    have hP : va_P D vwCl (wM am cI cZ (sS u 0 1)) H := hP
    have hD : va_D A (wM am cI cZ (sS u 0 1)) := hD
    refine lv_aload_n hx hb dX4_output_39 rfl (lv_at hl 0 rfl) ?_
    refine va_get (ci := 4) (v := .int 1) (C := RX4) (T := TX4) (N := 22) hx hb hts (ivX4 _) hown hK hP 0 rfl rfl 0 (by decide) (hts _ (tb_c tw_3_101)) (fun _ h9 => h9) rfl dX4_output_40 ?_
    refine lv_if_le (tgt := 50) hx hb dX4_output_43 (by decide) (fun c_2 => absurd c_2 (by decide)) (fun c_2 => ?_)
    refine lv_iconst (v := 0) hx hb dX4_output_46 (by decide) ?_
    refine lv_goto (tgt := 59) hx hb dX4_output_47 (by decide) ?_
    have e9 : p_m_output u x1 = (0, sS u 0 1) := by rw [p_m_output, if_pos c_1]
    rw [e9]
    exact W.iret hx hb hr (fun t ht hW => ⟨⟨_, (), rfl, rfl, by rw [ht]; exact hP, va_K.moved hW.alike hK, hD⟩, hS.F ht⟩) hS.2.2 dX4_output_59
  · have hok := hok.2 c_1
    refine lv_iload_n hx hb dX4_output_8 rfl (lv_at hl 1 rfl) ?_
    refine lv_if_lt (tgt := 35) hx hb dX4_output_9 (by decide) (fun c_3 => ?_) (fun c_3 => ?_)
    · have hok := hok.1 c_3
      refine lv_iconst (v := 1) hx hb dX4_output_35 (by decide) ?_
      refine va_put (ci := 4) (v := .int 1) (ty := .int) (C := RX4) (T := TX4) (N := 22) hx hb hts (ivX4 _) tyX4 tyX4_ok nmX4 hown hK hP hD hS 0 rfl rfl 0 (by decide) (hts _ (tb_c tw_3_101)) (fun _ h9 => h9) rfl (by decide +kernel) rfl rfl (Nat.le_of_ble_eq_true rfl) dX4_output_36 (fun H locs hP hD hS => ?_)
      have hP : va_P D vwCl (wM am cI cZ (sS u 0 1)) H := hP
      have hD : va_D A (wM am cI cZ (sS u 0 1)) := hD
      refine lv_aload_n hx hb dX4_output_39 rfl (lv_at hl 0 rfl) ?_
      refine va_get (ci := 4) (v := .int 1) (C := RX4) (T := TX4) (N := 22) hx hb hts (ivX4 _) hown hK hP 0 rfl rfl 0 (by decide) (hts _ (tb_c tw_3_101)) (fun _ h9 => h9) rfl dX4_output_40 ?_
      refine lv_if_le (tgt := 50) hx hb dX4_output_43 (by decide) (fun c_4 => absurd c_4 (by decide)) (fun c_4 => ?_)
      refine lv_iconst (v := 0) hx hb dX4_output_46 (by decide) ?_
      refine lv_goto (tgt := 59) hx hb dX4_output_47 (by decide) ?_
      have e9 : p_m_output u x1 = (0, sS u 0 1) := by rw [p_m_output, if_neg c_1, if_pos c_3]
      rw [e9]
      exact W.iret hx hb hr (fun t ht hW => ⟨⟨_, (), rfl, rfl, by rw [ht]; exact hP, va_K.moved hW.alike hK, hD⟩, hS.F ht⟩) hS.2.2 dX4_output_59
    · have hok := hok.2 c_3
      refine lv_iload_n hx hb dX4_output_12 rfl (lv_at hl 1 rfl) ?_
      refine lv_aload_n hx hb dX4_output_13 rfl (lv_at hl 0 rfl) ?_
      refine va_get (ci := 4) (v := .int (u.1 9)) (C := RX4) (T := TX4) (N := 22) hx hb hts (ivX4 _) hown hK hP 0 rfl rfl 20 (by decide) (hts _ (tb_c tw_3_121)) (fun _ h9 => h9) rfl dX4_output_14 ?_
      refine lv_icmp_ge (tgt := 35) hx hb dX4_output_17 (by decide) (fun c_5 => ?_) (fun c_5 => ?_)
      · have hok := hok.1 c_5
        refine lv_iconst (v := 1) hx hb dX4_output_35 (by decide) ?_
        refine va_put (ci := 4) (v := .int 1) (ty := .int) (C := RX4) (T := TX4) (N := 22) hx hb hts (ivX4 _) tyX4 tyX4_ok nmX4 hown hK hP hD hS 0 rfl rfl 0 (by decide) (hts _ (tb_c tw_3_101)) (fun _ h9 => h9) rfl (by decide +kernel) rfl rfl (Nat.le_of_ble_eq_true rfl) dX4_output_36 (fun H locs hP hD hS => ?_)
        have hP : va_P D vwCl (wM am cI cZ (sS u 0 1)) H := hP
        have hD : va_D A (wM am cI cZ (sS u 0 1)) := hD
        refine lv_aload_n hx hb dX4_output_39 rfl (lv_at hl 0 rfl) ?_
        refine va_get (ci := 4) (v := .int 1) (C := RX4) (T := TX4) (N := 22) hx hb hts (ivX4 _) hown hK hP 0 rfl rfl 0 (by decide) (hts _ (tb_c tw_3_101)) (fun _ h9 => h9) rfl dX4_output_40 ?_
        refine lv_if_le (tgt := 50) hx hb dX4_output_43 (by decide) (fun c_6 => absurd c_6 (by decide)) (fun c_6 => ?_)
        refine lv_iconst (v := 0) hx hb dX4_output_46 (by decide) ?_
        refine lv_goto (tgt := 59) hx hb dX4_output_47 (by decide) ?_
        have e9 : p_m_output u x1 = (0, sS u 0 1) := by rw [p_m_output, if_neg c_1, if_neg c_3, if_pos c_5]
        rw [e9]
        exact W.iret hx hb hr (fun t ht hW => ⟨⟨_, (), rfl, rfl, by rw [ht]; exact hP, va_K.moved hW.alike hK, hD⟩, hS.F ht⟩) hS.2.2 dX4_output_59
      · have hok := hok.2 c_5
        refine lv_iload_n hx hb dX4_output_20 rfl (lv_at hl 1 rfl) ?_
        refine lv_aload_n hx hb dX4_output_21 rfl (lv_at hl 0 rfl) ?_
        refine va_get (ci := 4) (v := .int (u.1 9)) (C := RX4) (T := TX4) (N := 22) hx hb hts (ivX4 _) hown hK hP 0 rfl rfl 20 (by decide) (hts _ (tb_c tw_3_121)) (fun _ h9 => h9) rfl dX4_output_22 ?_
        refine lv_bipush (v := 16) hx hb dX4_output_25 (by decide) ?_
        refine lv_isub hx hb dX4_output_27 ?_
        refine lv_icmp_lt (tgt := 35) hx hb dX4_output_28 (by decide) (fun c_7 => ?_) (fun c_7 => ?_)
        · have hok := hok.1 c_7
          refine lv_iconst (v := 1) hx hb dX4_output_35 (by decide) ?_
          refine va_put (ci := 4) (v := .int 1) (ty := .int) (C := RX4) (T := TX4) (N := 22) hx hb hts (ivX4 _) tyX4 tyX4_ok nmX4 hown hK hP hD hS 0 rfl rfl 0 (by decide) (hts _ (tb_c tw_3_101)) (fun _ h9 => h9) rfl (by decide +kernel) rfl rfl (Nat.le_of_ble_eq_true rfl) dX4_output_36 (fun H locs hP hD hS => ?_)
          have hP : va_P D vwCl (wM am cI cZ (sS u 0 1)) H := hP
          have hD : va_D A (wM am cI cZ (sS u 0 1)) := hD
          refine lv_aload_n hx hb dX4_output_39 rfl (lv_at hl 0 rfl) ?_
          refine va_get (ci := 4) (v := .int 1) (C := RX4) (T := TX4) (N := 22) hx hb hts (ivX4 _) hown hK hP 0 rfl rfl 0 (by decide) (hts _ (tb_c tw_3_101)) (fun _ h9 => h9) rfl dX4_output_40 ?_
          refine lv_if_le (tgt := 50) hx hb dX4_output_43 (by decide) (fun c_8 => absurd c_8 (by decide)) (fun c_8 => ?_)
          refine lv_iconst (v := 0) hx hb dX4_output_46 (by decide) ?_
          refine lv_goto (tgt := 59) hx hb dX4_output_47 (by decide) ?_
          have e9 : p_m_output u x1 = (0, sS u 0 1) := by rw [p_m_output, if_neg c_1, if_neg c_3, if_neg c_5, if_pos c_7]
          rw [e9]
          exact W.iret hx hb hr (fun t ht hW => ⟨⟨_, (), rfl, rfl, by rw [ht]; exact hP, va_K.moved hW.alike hK, hD⟩, hS.F ht⟩) hS.2.2 dX4_output_59
        · have hok := hok.2 c_7
          refine lv_iconst (v := 0) hx hb dX4_output_31 (by decide) ?_
          refine lv_goto (tgt := 36) hx hb dX4_output_32 (by decide) ?_
          refine va_put (ci := 4) (v := .int 0) (ty := .int) (C := RX4) (T := TX4) (N := 22) hx hb hts (ivX4 _) tyX4 tyX4_ok nmX4 hown hK hP hD hS 0 rfl rfl 0 (by decide) (hts _ (tb_c tw_3_101)) (fun _ h9 => h9) rfl (by decide +kernel) rfl rfl (Nat.le_of_ble_eq_true rfl) dX4_output_36 (fun H locs hP hD hS => ?_)
          have hP : va_P D vwCl (wM am cI cZ (sS u 0 0)) H := hP
          have hD : va_D A (wM am cI cZ (sS u 0 0)) := hD
          refine lv_aload_n hx hb dX4_output_39 rfl (lv_at hl 0 rfl) ?_
          refine va_get (ci := 4) (v := .int 0) (C := RX4) (T := TX4) (N := 22) hx hb hts (ivX4 _) hown hK hP 0 rfl rfl 0 (by decide) (hts _ (tb_c tw_3_101)) (fun _ h9 => h9) rfl dX4_output_40 ?_
          refine lv_if_le (tgt := 50) hx hb dX4_output_43 (by decide) (fun c_9 => ?_) (fun c_9 => absurd c_9 (by decide))
          refine lv_aload_n hx hb dX4_output_50 rfl (lv_at hl 0 rfl) ?_
          refine va_get (ci := 4) (v := .ref (am 12)) (C := RX4) (T := TX4) (N := 22) hx hb hts (ivX4 _) hown hK hP 0 rfl rfl 21 (by decide) (hts _ (tb_c tw_3_122)) (fun _ h9 => h9) rfl dX4_output_51 ?_
          refine lv_iload_n hx hb dX4_output_54 rfl (lv_at hl 1 rfl) ?_
          refine lv_bipush (v := 16) hx hb dX4_output_55 (by decide) ?_
          refine lv_irem hx hb dX4_output_57 (by decide) ?_
          obtain ⟨h_10, hok⟩ := hok
          refine va_iald (f := u.2 11) hx hb hK hP 12 0 rfl rfl h_10 dX4_output_58 ?_
          have e9 : p_m_output u x1 = (u.2 11 (x1 - x1 / 16 * 16).toNatClampNeg, sS u 0 0) := by rw [p_m_output, if_neg c_1, if_neg c_3, if_neg c_5, if_neg c_7]
          rw [e9]
          exact W.iret hx hb hr (fun t ht hW => ⟨⟨_, (), rfl, rfl, by rw [ht]; exact hP, va_K.moved hW.alike hK, hD⟩, hS.F ht⟩) hS.2.2 dX4_output_59
