theorem str_ref {args : Array Value} {s : State} {t : Term} {C : String} (h : (Cond.exactly t C).before args s = true) : ∃ a : Nat, t.eval args s none [] s = some (.ref a) := by
  obtain ⟨a, c, cell, k, h, -⟩ := Cond.exactly_spec h
  exact ⟨a, h⟩
/-! the facts of the start that the class's methods need: its table, Throwable's two statics, the texts, some words of the tables -/
def zzL (tS : Nat) (A : Nat → Prop) (U : State) (H : Heap) : Prop :=
  (va_Z "ThumbForge$Image" "CHANGE_0" "[I" (.ref tS) A U H ∧ va_T .int tS 6 (fun j => .int (chg j)) A U H) ∧
  (vx_Zq Bundle.tN "UNASSIGNED_STACK" Bundle.steD A U H ∧ vx_Zq Bundle.tN "SUPPRESSED_SENTINEL" Bundle.listD A U H ∧ (∀ q ∈ xstr, ∃ sa : Nat, vk_R RX3 q.1 q.2 sa U) ∧ ∀ w ∈ xnw, va_Nw w U) ∧
  va_Nc "java/lang/IllegalStateException" "java/lang/IllegalArgumentException" U ∧ va_Nw (Cond.methodLinkNest "ThumbForge" 9 ⟨"ThumbForge$Program", "<init>", "()V"⟩ "ThumbForge") U
theorem xnw_warm {s U : State} (hW : s.WarmedH U.vm) (h : ∀ w ∈ xnw, va_Nw w s) : ∀ w ∈ xnw, va_Nw w U := by
  intro w hw
  have hs := h w hw
  simp only [xnw, xB1, xB2, xB3, List.mem_append, List.mem_cons, List.not_mem_nil, or_false] at hw
  rcases hw with (rfl | rfl | rfl | rfl) | (rfl | rfl | rfl | rfl) | (rfl | rfl | rfl | rfl) <;> first | exact va_Nw.warmC hW hs | exact va_Nw.warmD hW hs
theorem zzL_ok (tS : Nat) : Zok (zzL tS) := by
  refine ⟨fun A u U H hW h => ?_, fun A U H H1 h hq => ?_, fun A B U H h hAB => ?_⟩
  · obtain ⟨⟨a1, a2⟩, ⟨b1, b2, b3, b4⟩, c1, d1⟩ := h
    refine ⟨⟨a1.moved hW.alike, a2.moved hW.alike⟩, ⟨vx_Zq.moved hW.alike b1, vx_Zq.moved hW.alike b2, fun q hq => ?_, xnw_warm hW b4⟩, c1.moved hW.alike, va_Nw.warmM hW d1⟩
    obtain ⟨sa, hs⟩ := b3 q hq
    exact ⟨sa, vk_R.warm hW hs⟩
  · obtain ⟨⟨a1, a2⟩, ⟨b1, b2, b3, b4⟩, c1, d1⟩ := h
    exact ⟨⟨a1.kept hq, a2.kept hq⟩, ⟨b1.kept hq, b2.kept hq, b3, b4⟩, c1, d1⟩
  · obtain ⟨⟨a1, a2⟩, ⟨b1, b2, b3, b4⟩, c1, d1⟩ := h
    exact ⟨⟨a1.narrow hAB, a2.narrow hAB⟩, ⟨b1.narrow hAB, b2.narrow hAB, b3, b4⟩, c1, d1⟩
theorem zzL_st (tS : Nat) : Zst (zzL tS) tS := fun _ _ _ h => h.1
theorem zzL_xs (tS : Nat) : Zxs (zzL tS) := fun _ _ _ h => h.2.1
theorem zzL_nc (tS : Nat) : Znc (zzL tS) := fun _ _ _ h => h.2.2.1
theorem zzL_nn (tS : Nat) : ∀ (A : Nat → Prop) (U : State) (H : Heap), zzL tS A U H → va_Nw (.methodLinkNest "ThumbForge" 9 ⟨"ThumbForge$Program", "<init>", "()V"⟩ "ThumbForge") U := fun _ _ _ h => h.2.2.2
set_option maxHeartbeats 4000000 in
set_option maxRecDepth 100000 in
theorem zzL_start {s : State} {b : Nat} (hts : ∀ w ∈ lw_tbl, w.before #[Value.ref b] s = true) (hgv : (Jvm.Cond.and given_1 narrow_1).before #[Value.ref b] s = true) : ∃ tS : Nat, zzL tS (fun q : Nat => s.heap.size ≤ q) s s.heap := by
  have hs := flat_of_before _ hgv
  have hA : ∀ a : Nat, a < s.heap.size → ¬ (fun q : Nat => s.heap.size ≤ q) a := fun a h => Nat.not_le.mpr h
  have harr : (Cond.arrayOf (.static "ThumbForge$Image" "CHANGE_0" "[I") .int).before #[Value.ref b] s = true := hs _ (by decide +kernel)
  have hlen := va_eqt (hs (Cond.eq (.length (.static "ThumbForge$Image" "CHANGE_0" "[I")) (.int 6)) (by decide +kernel))
  have he0 := va_eqt (hs (Cond.eq (.elem (.static "ThumbForge$Image" "CHANGE_0" "[I") (.int 0)) (.int 17216)) (by decide +kernel))
  have he1 := va_eqt (hs (Cond.eq (.elem (.static "ThumbForge$Image" "CHANGE_0" "[I") (.int 1)) (.int 16384)) (by decide +kernel))
  have he2 := va_eqt (hs (Cond.eq (.elem (.static "ThumbForge$Image" "CHANGE_0" "[I") (.int 2)) (.int 17152)) (by decide +kernel))
  have he3 := va_eqt (hs (Cond.eq (.elem (.static "ThumbForge$Image" "CHANGE_0" "[I") (.int 3)) (.int 16448)) (by decide +kernel))
  have he4 := va_eqt (hs (Cond.eq (.elem (.static "ThumbForge$Image" "CHANGE_0" "[I") (.int 4)) (.int 16512)) (by decide +kernel))
  have he5 := va_eqt (hs (Cond.eq (.elem (.static "ThumbForge$Image" "CHANGE_0" "[I") (.int 5)) (.int 16576)) (by decide +kernel))
  obtain ⟨tS, hev, hT⟩ := va_Tof (ty := .int) (N := 6) (f := fun j => .int (chg j)) (A := fun q : Nat => s.heap.size ≤ q) (by decide) harr hlen (fun j hj => by
    rcases (show j = 0 ∨ j = 1 ∨ j = 2 ∨ j = 3 ∨ j = 4 ∨ j = 5 by omega) with rfl | rfl | rfl | rfl | rfl | rfl
    · exact he0
    · exact he1
    · exact he2
    · exact he3
    · exact he4
    · exact he5) hA
  have hZc := va_Zref (A := fun q : Nat => s.heap.size ≤ q) (hts _ (List.mem_append_right _ (tb_2 182 rfl))) (hts _ (List.mem_append_right _ (tb_1 3 rfl))) hev hA
  have hU := vx_Zqof (A := fun q : Nat => s.heap.size ≤ q) (hts _ (List.mem_append_right _ (tb_1 220 rfl))) (hts _ (List.mem_append_right _ (tb_1 6 rfl))) (hs (Cond.isRef (.static "java/lang/Throwable" "UNASSIGNED_STACK" "[Ljava/lang/StackTraceElement;")) (by decide +kernel)) hA
  have hN := vx_Zqof (A := fun q : Nat => s.heap.size ≤ q) (hts _ (List.mem_append_right _ (tb_1 222 rfl))) (hts _ (List.mem_append_right _ (tb_1 6 rfl))) (hs (Cond.isRef (.static "java/lang/Throwable" "SUPPRESSED_SENTINEL" "Ljava/util/List;")) (by decide +kernel)) hA
  have hst : ∀ q ∈ xstr, ∃ sa : Nat, vk_R RX3 q.1 q.2 sa s := by
    intro q hq
    simp only [xstr, List.mem_cons, List.not_mem_nil, or_false] at hq
    rcases hq with rfl | rfl | rfl | rfl | rfl | rfl | rfl | rfl | rfl | rfl | rfl | rfl | rfl | rfl | rfl
    · obtain ⟨sa, hsa⟩ := str_ref (hs (Cond.exactly (.string "ThumbForge" 101) "java/lang/String") (by decide +kernel))
      exact ⟨sa, vk_R.of (hts _ (List.mem_append_right _ (tb_3 8 rfl))) hsa⟩
    · obtain ⟨sa, hsa⟩ := str_ref (hs (Cond.exactly (.string "ThumbForge" 112) "java/lang/String") (by decide +kernel))
      exact ⟨sa, vk_R.of (hts _ (List.mem_append_right _ (tb_3 34 rfl))) hsa⟩
    · obtain ⟨sa, hsa⟩ := str_ref (hs (Cond.exactly (.string "ThumbForge" 117) "java/lang/String") (by decide +kernel))
      exact ⟨sa, vk_R.of (hts _ (List.mem_append_right _ (tb_3 46 rfl))) hsa⟩
    · obtain ⟨sa, hsa⟩ := str_ref (hs (Cond.exactly (.string "ThumbForge" 122) "java/lang/String") (by decide +kernel))
      exact ⟨sa, vk_R.of (hts _ (List.mem_append_right _ (tb_3 47 rfl))) hsa⟩
    · obtain ⟨sa, hsa⟩ := str_ref (hs (Cond.exactly (.string "ThumbForge" 134) "java/lang/String") (by decide +kernel))
      exact ⟨sa, vk_R.of (hts _ (List.mem_append_right _ (tb_3 78 rfl))) hsa⟩
    · obtain ⟨sa, hsa⟩ := str_ref (hs (Cond.exactly (.string "ThumbForge" 145) "java/lang/String") (by decide +kernel))
      exact ⟨sa, vk_R.of (hts _ (List.mem_append_right _ (tb_3 90 rfl))) hsa⟩
    · obtain ⟨sa, hsa⟩ := str_ref (hs (Cond.exactly (.string "ThumbForge" 150) "java/lang/String") (by decide +kernel))
      exact ⟨sa, vk_R.of (hts _ (List.mem_append_right _ (tb_2 34 rfl))) hsa⟩
    · obtain ⟨sa, hsa⟩ := str_ref (hs (Cond.exactly (.string "ThumbForge" 155) "java/lang/String") (by decide +kernel))
      exact ⟨sa, vk_R.of (hts _ (List.mem_append_right _ (tb_1 234 rfl))) hsa⟩
    · obtain ⟨sa, hsa⟩ := str_ref (hs (Cond.exactly (.string "ThumbForge" 157) "java/lang/String") (by decide +kernel))
      exact ⟨sa, vk_R.of (hts _ (List.mem_append_right _ (tb_2 77 rfl))) hsa⟩
    · obtain ⟨sa, hsa⟩ := str_ref (hs (Cond.exactly (.string "ThumbForge" 159) "java/lang/String") (by decide +kernel))
      exact ⟨sa, vk_R.of (hts _ (List.mem_append_right _ (tb_3 19 rfl))) hsa⟩
    · obtain ⟨sa, hsa⟩ := str_ref (hs (Cond.exactly (.string "ThumbForge" 44) "java/lang/String") (by decide +kernel))
      exact ⟨sa, vk_R.of (hts _ (List.mem_append_right _ (tb_2 52 rfl))) hsa⟩
    · obtain ⟨sa, hsa⟩ := str_ref (hs (Cond.exactly (.string "ThumbForge" 56) "java/lang/String") (by decide +kernel))
      exact ⟨sa, vk_R.of (hts _ (List.mem_append_right _ (tb_2 88 rfl))) hsa⟩
    · obtain ⟨sa, hsa⟩ := str_ref (hs (Cond.exactly (.string "ThumbForge" 58) "java/lang/String") (by decide +kernel))
      exact ⟨sa, vk_R.of (hts _ (List.mem_append_right _ (tb_2 103 rfl))) hsa⟩
    · obtain ⟨sa, hsa⟩ := str_ref (hs (Cond.exactly (.string "ThumbForge" 72) "java/lang/String") (by decide +kernel))
      exact ⟨sa, vk_R.of (hts _ (List.mem_append_right _ (tb_2 118 rfl))) hsa⟩
    · obtain ⟨sa, hsa⟩ := str_ref (hs (Cond.exactly (.string "ThumbForge" 91) "java/lang/String") (by decide +kernel))
      exact ⟨sa, vk_R.of (hts _ (List.mem_append_right _ (tb_2 234 rfl))) hsa⟩
  have hnw : ∀ w ∈ xnw, va_Nw w s := by
    intro w hw
    simp only [xnw, xB1, xB2, xB3, List.mem_append, List.mem_cons, List.not_mem_nil, or_false] at hw
    rcases hw with (rfl | rfl | rfl | rfl) | (rfl | rfl | rfl | rfl) | (rfl | rfl | rfl | rfl)
    · exact va_Nw.of rfl (hts _ (List.mem_append_right _ (tb_1 195 rfl)))
    · exact va_Nw.of rfl (hts _ (List.mem_append_right _ (tb_1 197 rfl)))
    · exact va_Nw.of rfl (hts _ (List.mem_append_right _ (tb_1 199 rfl)))
    · exact va_Nw.of rfl (hts _ (List.mem_append_right _ (tb_1 201 rfl)))
    · exact va_Nw.of rfl (hts _ (List.mem_append_right _ (tb_2 27 rfl)))
    · exact va_Nw.of rfl (hts _ (List.mem_append_right _ (tb_1 197 rfl)))
    · exact va_Nw.of rfl (hts _ (List.mem_append_right _ (tb_1 199 rfl)))
    · exact va_Nw.of rfl (hts _ (List.mem_append_right _ (tb_1 201 rfl)))
    · exact va_Nw.of rfl (hts _ (List.mem_append_right _ (tb_2 227 rfl)))
    · exact va_Nw.of rfl (hts _ (List.mem_append_right _ (tb_1 197 rfl)))
    · exact va_Nw.of rfl (hts _ (List.mem_append_right _ (tb_1 199 rfl)))
    · exact va_Nw.of rfl (hts _ (List.mem_append_right _ (tb_1 201 rfl)))
  have hnc : va_Nc "java/lang/IllegalStateException" "java/lang/IllegalArgumentException" s := va_Nc.of (hs (Cond.not (.castable "java/lang/IllegalStateException" "java/lang/IllegalArgumentException")) (by decide +kernel))
  exact ⟨tS, ⟨hZc, hT⟩, ⟨hU, hN, hst, hnw⟩, hnc, va_Nw.of rfl (hts _ (List.mem_append_right _ (tb_1 22 rfl)))⟩
