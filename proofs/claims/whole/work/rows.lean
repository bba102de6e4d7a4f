section
-- ===== PART A: goes FIRST, ahead of the names: the tables' words, and 'selects' of the private methods out of them =====
/-- a private method of a class that the tables say can be made, by its rows of tables_1 -/
def lw_okq (q : MethodName × Nat) : Prop := (q.1.cls ≠ "java/lang/invoke/MethodHandle" ∧ q.1.cls ≠ "java/lang/invoke/VarHandle") ∧ Cond.instantiable q.1.cls q.2 ∈ tables_1 ∧ Cond.privateMethod q.1 ∈ tables_1 ∧ Cond.instanceMethod q.1 ∈ tables_1
theorem lw_p0 : lw_okq (⟨"ThumbForge", "discardImage", "()V"⟩, 3) := ⟨⟨by decide +kernel, by decide +kernel⟩, List.mem_of_getElem? (i := 13) (by decide +kernel), List.mem_of_getElem? (i := 162) (by decide +kernel), List.mem_of_getElem? (i := 163) (by decide +kernel)⟩
theorem lw_p1 : lw_okq (⟨"java/lang/Throwable", "fillInStackTrace", "(I)Ljava/lang/Throwable;"⟩, 6) := ⟨⟨by decide +kernel, by decide +kernel⟩, List.mem_of_getElem? (i := 232) (by decide +kernel), List.mem_of_getElem? (i := 230) (by decide +kernel), List.mem_of_getElem? (i := 231) (by decide +kernel)⟩
theorem lw_p2 : lw_okq (⟨"ThumbForge", "append", "(IIIIII)I"⟩, 3) := ⟨⟨by decide +kernel, by decide +kernel⟩, List.mem_of_getElem? (i := 13) (by decide +kernel), List.mem_of_getElem? (i := 262) (by decide +kernel), List.mem_of_getElem? (i := 263) (by decide +kernel)⟩
theorem lw_p3 : lw_okq (⟨"ThumbForge$Image", "writeCode", "()V"⟩, 9) := ⟨⟨by decide +kernel, by decide +kernel⟩, List.mem_of_getElem? (i := 64) (by decide +kernel), List.mem_of_getElem? (i := 364) (by decide +kernel), List.mem_of_getElem? (i := 365) (by decide +kernel)⟩
theorem lw_p4 : lw_okq (⟨"ThumbForge$Image", "writeLiteral", "(II)V"⟩, 9) := ⟨⟨by decide +kernel, by decide +kernel⟩, List.mem_of_getElem? (i := 64) (by decide +kernel), List.mem_of_getElem? (i := 369) (by decide +kernel), List.mem_of_getElem? (i := 370) (by decide +kernel)⟩
theorem lw_p5 : lw_okq (⟨"ThumbForge$Image", "literalIndex", "(I)I"⟩, 9) := ⟨⟨by decide +kernel, by decide +kernel⟩, List.mem_of_getElem? (i := 64) (by decide +kernel), List.mem_of_getElem? (i := 373) (by decide +kernel), List.mem_of_getElem? (i := 374) (by decide +kernel)⟩
theorem lw_p6 : lw_okq (⟨"ThumbForge$Image", "put", "(I)V"⟩, 9) := ⟨⟨by decide +kernel, by decide +kernel⟩, List.mem_of_getElem? (i := 64) (by decide +kernel), List.mem_of_getElem? (i := 377) (by decide +kernel), List.mem_of_getElem? (i := 378) (by decide +kernel)⟩
theorem lw_p7 : lw_okq (⟨"ThumbForge$Image", "writeInstruction", "(I)V"⟩, 9) := ⟨⟨by decide +kernel, by decide +kernel⟩, List.mem_of_getElem? (i := 64) (by decide +kernel), List.mem_of_getElem? (i := 381) (by decide +kernel), List.mem_of_getElem? (i := 382) (by decide +kernel)⟩
theorem lw_p8 : lw_okq (⟨"ThumbForge$Image", "writeNumber", "(II)V"⟩, 9) := ⟨⟨by decide +kernel, by decide +kernel⟩, List.mem_of_getElem? (i := 64) (by decide +kernel), List.mem_of_getElem? (i := 394) (by decide +kernel), List.mem_of_getElem? (i := 395) (by decide +kernel)⟩
theorem lw_p9 : lw_okq (⟨"ThumbForge$Image", "keep", "(I)V"⟩, 9) := ⟨⟨by decide +kernel, by decide +kernel⟩, List.mem_of_getElem? (i := 64) (by decide +kernel), List.mem_of_getElem? (i := 401) (by decide +kernel), List.mem_of_getElem? (i := 402) (by decide +kernel)⟩
theorem lw_p10 : lw_okq (⟨"ThumbForge$Image", "writeCompute", "(IIII)V"⟩, 9) := ⟨⟨by decide +kernel, by decide +kernel⟩, List.mem_of_getElem? (i := 64) (by decide +kernel), List.mem_of_getElem? (i := 409) (by decide +kernel), List.mem_of_getElem? (i := 410) (by decide +kernel)⟩
theorem lw_p11 : lw_okq (⟨"ThumbForge$Image", "fetch", "(II)I"⟩, 9) := ⟨⟨by decide +kernel, by decide +kernel⟩, List.mem_of_getElem? (i := 64) (by decide +kernel), List.mem_of_getElem? (i := 413) (by decide +kernel), List.mem_of_getElem? (i := 414) (by decide +kernel)⟩
theorem lw_p12 : lw_okq (⟨"ThumbForge$Image", "copyTo0", "(I)V"⟩, 9) := ⟨⟨by decide +kernel, by decide +kernel⟩, List.mem_of_getElem? (i := 64) (by decide +kernel), List.mem_of_getElem? (i := 418) (by decide +kernel), List.mem_of_getElem? (i := 419) (by decide +kernel)⟩
theorem lw_p13 : lw_okq (⟨"ThumbForge$Image", "writeWordChoice", "(I)V"⟩, 9) := ⟨⟨by decide +kernel, by decide +kernel⟩, List.mem_of_getElem? (i := 64) (by decide +kernel), List.mem_of_getElem? (i := 424) (by decide +kernel), List.mem_of_getElem? (i := 425) (by decide +kernel)⟩
theorem lw_p14 : lw_okq (⟨"ThumbForge$Image", "writeJump", "(I)V"⟩, 9) := ⟨⟨by decide +kernel, by decide +kernel⟩, List.mem_of_getElem? (i := 64) (by decide +kernel), List.mem_of_getElem? (i := 428) (by decide +kernel), List.mem_of_getElem? (i := 429) (by decide +kernel)⟩
theorem lw_p15 : lw_okq (⟨"ThumbForge$Image", "distance", "(II)I"⟩, 9) := ⟨⟨by decide +kernel, by decide +kernel⟩, List.mem_of_getElem? (i := 64) (by decide +kernel), List.mem_of_getElem? (i := 433) (by decide +kernel), List.mem_of_getElem? (i := 434) (by decide +kernel)⟩
def lw_privs_1 : List (MethodName × Nat) := [(⟨"ThumbForge", "discardImage", "()V"⟩, 3), (⟨"java/lang/Throwable", "fillInStackTrace", "(I)Ljava/lang/Throwable;"⟩, 6), (⟨"ThumbForge", "append", "(IIIIII)I"⟩, 3), (⟨"ThumbForge$Image", "writeCode", "()V"⟩, 9), (⟨"ThumbForge$Image", "writeLiteral", "(II)V"⟩, 9), (⟨"ThumbForge$Image", "literalIndex", "(I)I"⟩, 9), (⟨"ThumbForge$Image", "put", "(I)V"⟩, 9), (⟨"ThumbForge$Image", "writeInstruction", "(I)V"⟩, 9), (⟨"ThumbForge$Image", "writeNumber", "(II)V"⟩, 9), (⟨"ThumbForge$Image", "keep", "(I)V"⟩, 9), (⟨"ThumbForge$Image", "writeCompute", "(IIII)V"⟩, 9), (⟨"ThumbForge$Image", "fetch", "(II)I"⟩, 9), (⟨"ThumbForge$Image", "copyTo0", "(I)V"⟩, 9), (⟨"ThumbForge$Image", "writeWordChoice", "(I)V"⟩, 9), (⟨"ThumbForge$Image", "writeJump", "(I)V"⟩, 9), (⟨"ThumbForge$Image", "distance", "(II)I"⟩, 9)]
theorem lw_r1 : ∀ q ∈ lw_privs_1, lw_okq q := List.forall_mem_cons.mpr ⟨lw_p0, List.forall_mem_cons.mpr ⟨lw_p1, List.forall_mem_cons.mpr ⟨lw_p2, List.forall_mem_cons.mpr ⟨lw_p3, List.forall_mem_cons.mpr ⟨lw_p4, List.forall_mem_cons.mpr ⟨lw_p5, List.forall_mem_cons.mpr ⟨lw_p6, List.forall_mem_cons.mpr ⟨lw_p7, List.forall_mem_cons.mpr ⟨lw_p8, List.forall_mem_cons.mpr ⟨lw_p9, List.forall_mem_cons.mpr ⟨lw_p10, List.forall_mem_cons.mpr ⟨lw_p11, List.forall_mem_cons.mpr ⟨lw_p12, List.forall_mem_cons.mpr ⟨lw_p13, List.forall_mem_cons.mpr ⟨lw_p14, List.forall_mem_cons.mpr ⟨lw_p15, fun _ h => absurd h List.not_mem_nil⟩⟩⟩⟩⟩⟩⟩⟩⟩⟩⟩⟩⟩⟩⟩⟩
theorem lw_p16 : lw_okq (⟨"ThumbForge$Image", "writeBranch", "(IIIIZ)V"⟩, 9) := ⟨⟨by decide +kernel, by decide +kernel⟩, List.mem_of_getElem? (i := 64) (by decide +kernel), List.mem_of_getElem? (i := 437) (by decide +kernel), List.mem_of_getElem? (i := 438) (by decide +kernel)⟩
theorem lw_p17 : lw_okq (⟨"ThumbForge$Image", "lengthenBranches", "()Z"⟩, 9) := ⟨⟨by decide +kernel, by decide +kernel⟩, List.mem_of_getElem? (i := 64) (by decide +kernel), List.mem_of_getElem? (i := 445) (by decide +kernel), List.mem_of_getElem? (i := 446) (by decide +kernel)⟩
theorem lw_p18 : lw_okq (⟨"ThumbForge$Image", "reaches", "(I)Z"⟩, 9) := ⟨⟨by decide +kernel, by decide +kernel⟩, List.mem_of_getElem? (i := 64) (by decide +kernel), List.mem_of_getElem? (i := 449) (by decide +kernel), List.mem_of_getElem? (i := 450) (by decide +kernel)⟩
theorem lw_p19 : lw_okq (⟨"ThumbForge$Image", "writePool", "()V"⟩, 9) := ⟨⟨by decide +kernel, by decide +kernel⟩, List.mem_of_getElem? (i := 64) (by decide +kernel), List.mem_of_getElem? (i := 453) (by decide +kernel), List.mem_of_getElem? (i := 454) (by decide +kernel)⟩
theorem lw_p20 : lw_okq (⟨"ThumbForge$Machine", "step", "()I"⟩, 9) := ⟨⟨by decide +kernel, by decide +kernel⟩, List.mem_of_getElem? (i := 104) (by decide +kernel), List.mem_of_getElem? (i := 533) (by decide +kernel), List.mem_of_getElem? (i := 534) (by decide +kernel)⟩
theorem lw_p21 : lw_okq (⟨"ThumbForge$Machine", "putOut", "(I)V"⟩, 9) := ⟨⟨by decide +kernel, by decide +kernel⟩, List.mem_of_getElem? (i := 104) (by decide +kernel), List.mem_of_getElem? (i := 548) (by decide +kernel), List.mem_of_getElem? (i := 549) (by decide +kernel)⟩
theorem lw_p22 : lw_okq (⟨"ThumbForgeModel", "append", "(ZIII)I"⟩, 22) := ⟨⟨by decide +kernel, by decide +kernel⟩, List.mem_of_getElem? (i := 576) (by decide +kernel), List.mem_of_getElem? (i := 660) (by decide +kernel), List.mem_of_getElem? (i := 661) (by decide +kernel)⟩
theorem lw_p23 : lw_okq (⟨"ThumbForgeModel", "isSound", "()Z"⟩, 22) := ⟨⟨by decide +kernel, by decide +kernel⟩, List.mem_of_getElem? (i := 576) (by decide +kernel), List.mem_of_getElem? (i := 703) (by decide +kernel), List.mem_of_getElem? (i := 704) (by decide +kernel)⟩
theorem lw_p24 : lw_okq (⟨"ThumbForgeModel", "lengthen", "()V"⟩, 22) := ⟨⟨by decide +kernel, by decide +kernel⟩, List.mem_of_getElem? (i := 576) (by decide +kernel), List.mem_of_getElem? (i := 707) (by decide +kernel), List.mem_of_getElem? (i := 708) (by decide +kernel)⟩
theorem lw_p25 : lw_okq (⟨"ThumbForgeModel", "layOut", "()V"⟩, 22) := ⟨⟨by decide +kernel, by decide +kernel⟩, List.mem_of_getElem? (i := 576) (by decide +kernel), List.mem_of_getElem? (i := 711) (by decide +kernel), List.mem_of_getElem? (i := 712) (by decide +kernel)⟩
theorem lw_p26 : lw_okq (⟨"ThumbForgeModel", "lengthOf", "(I)I"⟩, 22) := ⟨⟨by decide +kernel, by decide +kernel⟩, List.mem_of_getElem? (i := 576) (by decide +kernel), List.mem_of_getElem? (i := 715) (by decide +kernel), List.mem_of_getElem? (i := 716) (by decide +kernel)⟩
theorem lw_p27 : lw_okq (⟨"ThumbForgeModel", "way", "(II)I"⟩, 22) := ⟨⟨by decide +kernel, by decide +kernel⟩, List.mem_of_getElem? (i := 576) (by decide +kernel), List.mem_of_getElem? (i := 731) (by decide +kernel), List.mem_of_getElem? (i := 732) (by decide +kernel)⟩
theorem lw_p28 : lw_okq (⟨"ThumbForgeModel", "literal", "(II)V"⟩, 22) := ⟨⟨by decide +kernel, by decide +kernel⟩, List.mem_of_getElem? (i := 576) (by decide +kernel), List.mem_of_getElem? (i := 736) (by decide +kernel), List.mem_of_getElem? (i := 737) (by decide +kernel)⟩
theorem lw_p29 : lw_okq (⟨"ThumbForgeModel", "emit", "(I)V"⟩, 22) := ⟨⟨by decide +kernel, by decide +kernel⟩, List.mem_of_getElem? (i := 576) (by decide +kernel), List.mem_of_getElem? (i := 740) (by decide +kernel), List.mem_of_getElem? (i := 741) (by decide +kernel)⟩
theorem lw_p30 : lw_okq (⟨"ThumbForgeModel", "emitInstruction", "(I)V"⟩, 22) := ⟨⟨by decide +kernel, by decide +kernel⟩, List.mem_of_getElem? (i := 576) (by decide +kernel), List.mem_of_getElem? (i := 744) (by decide +kernel), List.mem_of_getElem? (i := 745) (by decide +kernel)⟩
theorem lw_p31 : lw_okq (⟨"ThumbForgeModel", "make", "(II)V"⟩, 22) := ⟨⟨by decide +kernel, by decide +kernel⟩, List.mem_of_getElem? (i := 576) (by decide +kernel), List.mem_of_getElem? (i := 751) (by decide +kernel), List.mem_of_getElem? (i := 752) (by decide +kernel)⟩
def lw_privs_2 : List (MethodName × Nat) := [(⟨"ThumbForge$Image", "writeBranch", "(IIIIZ)V"⟩, 9), (⟨"ThumbForge$Image", "lengthenBranches", "()Z"⟩, 9), (⟨"ThumbForge$Image", "reaches", "(I)Z"⟩, 9), (⟨"ThumbForge$Image", "writePool", "()V"⟩, 9), (⟨"ThumbForge$Machine", "step", "()I"⟩, 9), (⟨"ThumbForge$Machine", "putOut", "(I)V"⟩, 9), (⟨"ThumbForgeModel", "append", "(ZIII)I"⟩, 22), (⟨"ThumbForgeModel", "isSound", "()Z"⟩, 22), (⟨"ThumbForgeModel", "lengthen", "()V"⟩, 22), (⟨"ThumbForgeModel", "layOut", "()V"⟩, 22), (⟨"ThumbForgeModel", "lengthOf", "(I)I"⟩, 22), (⟨"ThumbForgeModel", "way", "(II)I"⟩, 22), (⟨"ThumbForgeModel", "literal", "(II)V"⟩, 22), (⟨"ThumbForgeModel", "emit", "(I)V"⟩, 22), (⟨"ThumbForgeModel", "emitInstruction", "(I)V"⟩, 22), (⟨"ThumbForgeModel", "make", "(II)V"⟩, 22)]
theorem lw_r2 : ∀ q ∈ lw_privs_2, lw_okq q := List.forall_mem_cons.mpr ⟨lw_p16, List.forall_mem_cons.mpr ⟨lw_p17, List.forall_mem_cons.mpr ⟨lw_p18, List.forall_mem_cons.mpr ⟨lw_p19, List.forall_mem_cons.mpr ⟨lw_p20, List.forall_mem_cons.mpr ⟨lw_p21, List.forall_mem_cons.mpr ⟨lw_p22, List.forall_mem_cons.mpr ⟨lw_p23, List.forall_mem_cons.mpr ⟨lw_p24, List.forall_mem_cons.mpr ⟨lw_p25, List.forall_mem_cons.mpr ⟨lw_p26, List.forall_mem_cons.mpr ⟨lw_p27, List.forall_mem_cons.mpr ⟨lw_p28, List.forall_mem_cons.mpr ⟨lw_p29, List.forall_mem_cons.mpr ⟨lw_p30, List.forall_mem_cons.mpr ⟨lw_p31, fun _ h => absurd h List.not_mem_nil⟩⟩⟩⟩⟩⟩⟩⟩⟩⟩⟩⟩⟩⟩⟩⟩
theorem lw_p32 : lw_okq (⟨"ThumbForgeModel", "keep", "(I)V"⟩, 22) := ⟨⟨by decide +kernel, by decide +kernel⟩, List.mem_of_getElem? (i := 576) (by decide +kernel), List.mem_of_getElem? (i := 755) (by decide +kernel), List.mem_of_getElem? (i := 756) (by decide +kernel)⟩
theorem lw_p33 : lw_okq (⟨"ThumbForgeModel", "emitCompute", "(IIII)V"⟩, 22) := ⟨⟨by decide +kernel, by decide +kernel⟩, List.mem_of_getElem? (i := 576) (by decide +kernel), List.mem_of_getElem? (i := 760) (by decide +kernel), List.mem_of_getElem? (i := 761) (by decide +kernel)⟩
theorem lw_p34 : lw_okq (⟨"ThumbForgeModel", "fetch", "(II)I"⟩, 22) := ⟨⟨by decide +kernel, by decide +kernel⟩, List.mem_of_getElem? (i := 576) (by decide +kernel), List.mem_of_getElem? (i := 764) (by decide +kernel), List.mem_of_getElem? (i := 765) (by decide +kernel)⟩
theorem lw_p35 : lw_okq (⟨"ThumbForgeModel", "copy", "(I)V"⟩, 22) := ⟨⟨by decide +kernel, by decide +kernel⟩, List.mem_of_getElem? (i := 576) (by decide +kernel), List.mem_of_getElem? (i := 769) (by decide +kernel), List.mem_of_getElem? (i := 770) (by decide +kernel)⟩
theorem lw_p36 : lw_okq (⟨"ThumbForgeModel", "emitPlace", "(I)V"⟩, 22) := ⟨⟨by decide +kernel, by decide +kernel⟩, List.mem_of_getElem? (i := 576) (by decide +kernel), List.mem_of_getElem? (i := 776) (by decide +kernel), List.mem_of_getElem? (i := 777) (by decide +kernel)⟩
theorem lw_p37 : lw_okq (⟨"ThumbForgeModel", "emitJump", "(I)V"⟩, 22) := ⟨⟨by decide +kernel, by decide +kernel⟩, List.mem_of_getElem? (i := 576) (by decide +kernel), List.mem_of_getElem? (i := 780) (by decide +kernel), List.mem_of_getElem? (i := 781) (by decide +kernel)⟩
theorem lw_p38 : lw_okq (⟨"ThumbForgeModel", "emitBranch", "(I)V"⟩, 22) := ⟨⟨by decide +kernel, by decide +kernel⟩, List.mem_of_getElem? (i := 576) (by decide +kernel), List.mem_of_getElem? (i := 785) (by decide +kernel), List.mem_of_getElem? (i := 786) (by decide +kernel)⟩
theorem lw_p39 : lw_okq (⟨"ThumbForgeModel", "act", "(I)I"⟩, 22) := ⟨⟨by decide +kernel, by decide +kernel⟩, List.mem_of_getElem? (i := 576) (by decide +kernel), List.mem_of_getElem? (i := 818) (by decide +kernel), List.mem_of_getElem? (i := 819) (by decide +kernel)⟩
def lw_privs_3 : List (MethodName × Nat) := [(⟨"ThumbForgeModel", "keep", "(I)V"⟩, 22), (⟨"ThumbForgeModel", "emitCompute", "(IIII)V"⟩, 22), (⟨"ThumbForgeModel", "fetch", "(II)I"⟩, 22), (⟨"ThumbForgeModel", "copy", "(I)V"⟩, 22), (⟨"ThumbForgeModel", "emitPlace", "(I)V"⟩, 22), (⟨"ThumbForgeModel", "emitJump", "(I)V"⟩, 22), (⟨"ThumbForgeModel", "emitBranch", "(I)V"⟩, 22), (⟨"ThumbForgeModel", "act", "(I)I"⟩, 22)]
theorem lw_r3 : ∀ q ∈ lw_privs_3, lw_okq q := List.forall_mem_cons.mpr ⟨lw_p32, List.forall_mem_cons.mpr ⟨lw_p33, List.forall_mem_cons.mpr ⟨lw_p34, List.forall_mem_cons.mpr ⟨lw_p35, List.forall_mem_cons.mpr ⟨lw_p36, List.forall_mem_cons.mpr ⟨lw_p37, List.forall_mem_cons.mpr ⟨lw_p38, List.forall_mem_cons.mpr ⟨lw_p39, fun _ h => absurd h List.not_mem_nil⟩⟩⟩⟩⟩⟩⟩⟩
def lw_privs : List (MethodName × Nat) := lw_privs_1 ++ (lw_privs_2 ++ (lw_privs_3))
def lw_tbl : List Cond := k2_sels lw_privs ++ tables_1
theorem lw_privs_ok : ∀ q ∈ lw_privs, lw_okq q := by
  show ∀ q ∈ lw_privs_1 ++ (lw_privs_2 ++ (lw_privs_3)), lw_okq q
  exact List.forall_mem_append.mpr ⟨lw_r1, List.forall_mem_append.mpr ⟨lw_r2, lw_r3⟩⟩
-- ===== end of PART A; then your names; then what follows =====
end
section
/-! ===== BEGIN words of one list among another's, by their places ===== -/
theorem goodIn_r {big : List Cond} (ws : List Cond) (ps : List Nat) (hp : ws = ps.filterMap (fun i => big[i]?)) (h : ws.all goodWord = true) : GoodIn big ws := by
  intro w hw
  have h1 := List.all_eq_true.mp h w hw
  rw [hp] at hw
  obtain ⟨i, -, hi⟩ := List.mem_filterMap.mp hw
  have hm : w ∈ big := by first | exact List.mem_of_getElem? hi | exact List.getElem?_mem hi
  exact ⟨hm, good_of_word h1⟩
theorem goodIn_app {big a b : List Cond} (ha : GoodIn big a) (hb : GoodIn big b) : GoodIn big (a ++ b) := fun w h => (List.mem_append.mp h).elim (ha w) (hb w)
theorem goodIn_ca {big a b : List Cond} {c : Cond} (ha : GoodIn big (c :: a)) (hb : GoodIn big b) : GoodIn big (c :: (a ++ b)) := fun w h => (List.mem_cons.mp h).elim (fun e => ha w (List.mem_cons.mpr (Or.inl e))) (fun h => (List.mem_append.mp h).elim (fun h => ha w (List.mem_cons.mpr (Or.inr h))) (hb w))
theorem goodIn_sub {big ws : List Cond} (hm : ∀ w ∈ ws, w ∈ big) (h : ws.all goodWord = true) : GoodIn big ws := fun w hw => ⟨hm w hw, good_of_word (List.all_eq_true.mp h w hw)⟩
/-! ===== END ===== -/

/-! ===== BEGIN exceptions that leave a method, and their catching by the caller (launches without stack traces) ===== -/
section VXA
/-! The laws vx_back, vx_callV, vx_callS, vx_callSW, vx_throw0, vx_throwS follow proofs of the library, with one case more: JvmDerived/Free/Laws.lean (Back.of_free), Shelf42/LK1.lean (callV, callS), Shelf/KitTraced.lean (throwNew0V, throwNewS). -/

/-- where a method has thrown q: the class by its name, the cell, what was written, the world -/
def vx_T (XC : String → State → State → Prop) (st : State) (q : Addr) (t : State) (mc ms : Nat) (free : Addr → Prop) : Prop :=
  ∃ (E : String) (ce : Cell) (L : List Loc), XC E st t ∧ t.heap[q]? = some ce ∧ ce.vm = .none ∧ st.vm.findClass E = some ce.cls ∧ st.WarmedH t.vm ∧ st.sameButNew ({ t with vm := st.vm } : State) L mc ms ∧ ∀ z ∈ L, free z.base
def vx_Q (Qc : Array Value → State → Outcome → State → Prop) (XC : String → State → State → Prop) (mc ms : Nat) (free : Addr → Prop) : Array Value → State → Outcome → State → Prop := fun a st o t =>
  (Qc a st o t ∧ ∃ L, FrameEnd st o t L mc ms ∧ ∀ q ∈ L, free q.base) ∨ ∃ q, o = .threw q ∧ vx_T XC st q t mc ms free
/-- a callee that returns or throws -/
def vx_Met (l : Launch) (y : MethodName) (ws : List Cond) (rm : Room) (Pc : Array Value → State → Prop) (Qc : Array Value → State → Outcome → State → Prop) (XC : String → State → State → Prop) (mc ms : Nat) (free : Addr → Prop) : Prop :=
  MetFree l y (headSpec ws rm) Pc (fun _ _ _ _ _ => True) (vx_Q Qc XC mc ms free)
def vx_Post (XC : String → State → State → Prop) (mc ms : Nat) (free : Addr → Prop) : Pt → Array Value → Addr → Pt → Prop := fun A a q B =>
  ∃ (g : JFrame) (mk : MethodId) (t : State) (L : List Loc) (E : String) (ce : Cell), B.U.heap = t.heap ∧ B.U.vm = t.vm ∧ XC E (A.U.calling g mk a) t ∧ t.heap[q]? = some ce ∧ ce.vm = .none ∧ A.U.vm.findClass E = some ce.cls ∧ B.locs = A.locs ++ L ∧ (∀ z ∈ L, free z.base) ∧ B.cells = A.cells + mc ∧ B.slots = A.slots + ms
def vx_Back (l : Launch) (R : Room) (p : Program) (e : Env) (below : List Frame) (s : State) (sargs : Array Value) (y : MethodName) (len W9 : Nat)
    (Pre : Pt → Array Value → Prop) (Post : Pt → Array Value → Option Value → Pt → Prop) (PostX : Pt → Array Value → Addr → Pt → Prop) : Prop :=
  ∀ (m : MethodId) (meth : Method) (c : Code) (A : Pt) (g : JFrame) (ig : Instr) (mk : MethodId) (a : Array Value),
    Stand p l e R s m sargs below meth c A.U A.locs A.cells A.slots → g.method = m → g.locals.size = c.maxLocals → decode c.code g.pc = .ok (ig, len) →
    2 * g.monitorRoom + (g.stack.map fun v => v.category).sum ≤ W9 → A.U.methodNamed? y = some mk → Pre A a →
    (∃ (v : Option Value) (B : Pt), Stand p l e R s m sargs below meth c B.U B.locs B.cells B.slots ∧ Post A a v B ∧
      Steps p.tables e below (doInvoke e (A.U.setTop g) [] mk a).1 (B.U.setTop { g with pc := g.pc + len, stack := v.toList ++ g.stack })) ∨
    (∃ (q : Addr) (B : Pt), Stand p l e R s m sargs below meth c B.U B.locs B.cells B.slots ∧ PostX A a q B ∧
      Steps p.tables e below (doInvoke e (A.U.setTop g) [] mk a).1 ((B.U.setTop g).pushFrame (.throwing q)))
section Payer
variable {l : Launch} {R : Room} {p : Program} {e : Env} {below : List Frame} {s : State} {sargs : Array Value} {y : MethodName} {len W9 : Nat}
theorem vx_back {ws : List Cond} {rm : Room} {Pc : Array Value → State → Prop} {Qc : Array Value → State → Outcome → State → Prop} {XC : String → State → State → Prop} {mc ms : Nat} {free : Addr → Prop} {bytes : ByteArray} {maxL : Nat} {ret : Option FieldType}
    (hM : vx_Met l y ws rm Pc Qc XC mc ms free) (hblind : FrameBlind Pc) (hrc : rm.cells = mc) (hrs : rm.slots = ms)
    (hframes : rm.frames + 1 ≤ R.frames) (hlocals : W9 + (maxL + 11) + rm.locals ≤ R.locals)
    (hws : ∀ w ∈ ws, ∀ a' U, s.WarmedH U.vm → w.before a' U = true) (hcode : Cond.code y bytes maxL ret ∈ ws) (hinit : ∀ a' U, s.WarmedH U.vm → (Cond.initialized y.cls).before a' U = true) :
    vx_Back l R p e below s sargs y len W9 (PreOf R mc ms Pc) (PostOf Qc mc ms free) (vx_Post XC mc ms free) := by
  intro m meth c A g ig mk a X hg hsize hdg hW hn hp
  have h1 : (headSpec ws rm).pre.before a A.U = true := atoms_intro fun w hw => hws w hw _ _ X.warmed
  have h2 : (Cond.code y bytes maxL ret).before a A.U = true := hws _ hcode _ _ X.warmed
  have h3 : (Cond.initialized y.cls).before a A.U = true := hinit _ _ X.warmed
  have h4 : A.cells + (headSpec ws rm).room.cells ≤ R.cells := by rw [show (headSpec ws rm).room.cells = mc from hrc]; exact hp.1
  have h5 : A.slots + (headSpec ws rm).room.slots ≤ R.slots := by rw [show (headSpec ws rm).room.slots = ms from hrs]; exact hp.2.1
  have hPc : Pc a (A.U.calling g mk a) := hblind _ _ _ _ hp.2.2
  obtain ⟨U, Ls, c0, s0⟩ := A
  dsimp only [Pt.U, Pt.locs, Pt.cells, Pt.slots] at h1 h2 h3 h4 h5 X hn hPc ⊢
  obtain ⟨methY, cY, hmY, hcY, -, hlY, -, -, -, -⟩ := Cond.code_spec hn h2
  obtain ⟨kY, hkY, -⟩ := className_of_methodNamed hn
  have hinitY : kY.init = .initialized := Cond.initialized_spec (findClass_of_methodNamed hn) hkY h3
  have h : At U g.method c below := by rw [hg]; exact X.here
  have hlocals9 : W9 + (maxL + 11) + (headSpec ws rm).room.locals ≤ R.locals := hlocals
  have happ : (headSpec ws rm).appliesLoose y e.platform (U.calling g mk a) = true :=
    Spec.appliesLoose_calling (g := g) h hdg hn hkY hinitY
      (X.room_calling (g := g) (R' := (headSpec ws rm).room) hsize hmY hcY hframes (by rw [hlY]; omega) h4 h5) h1
  obtain ⟨mid, hmid⟩ := h.above
  have hfr : (U.setTop g).frames = (.java g :: mid) ++ below := by rw [State.frames_setTop' g h.top, hmid]; rfl
  obtain ⟨o, s₂, hsteps, -, hend, hq⟩ := Steps.callFree hM p X.admits X.cas X.clock (acts := []) hfr happ hPc trivial
  have hq' : vx_Q Qc XC mc ms free a (U.calling g mk a) o s₂ := hq
  rw [State.frames_setTop' g h.top] at hend
  obtain ⟨g₀, hg0⟩ := Option.isSome_iff_exists.mp h.top
  obtain ⟨r, hr⟩ := State.topJava?_eq_some.mp hg0
  have hr' : (({ U with heap := s₂.heap, slotsUsed := s₂.slotsUsed } : State).setVm s₂.vm).frames = .java g₀ :: r := hr
  rcases hq' with ⟨hqc, L, hfe, hL⟩ | ⟨q, rfl, E, ce, L, hx, hce, hcv, hcl, hW₂, hsm, hL⟩
  · obtain ⟨⟨v, rfl⟩, hW₂, e2, q2, q3, q4, q5, q6⟩ := id hfe
    have e3 : s₂ = ({ (U.calling g mk a).setFrames s₂.frames with heap := s₂.heap, slotsUsed := s₂.slotsUsed } : State).setVm s₂.vm := by
      have : s₂ = ({ s₂ with vm := (U.calling g mk a).vm } : State).setVm s₂.vm := rfl
      rw [e2] at this
      exact this
    obtain ⟨c₂, i₂, len₂, hc₂, hd₂, hf₂⟩ := hend
    have hW' : U.WarmedH s₂.vm := hW₂
    have hcc : c₂ = c := by
      have h1 : s₂.code? g.method = U.code? g.method := by
        rw [State.code?_eq, State.code?_eq, hW'.alike.method?]
      exact Option.some.inj (hc₂.symm.trans (h1.trans h.code))
    subst hcc
    have hlen : len₂ = len := by rw [hdg] at hd₂; cases hd₂; rfl
    subst hlen
    have hs₂ : s₂ = (({ U with heap := s₂.heap, slotsUsed := s₂.slotsUsed } : State).setVm s₂.vm).setTop { g with pc := g.pc + len₂, stack := v.toList ++ g.stack } := by
      refine e3.trans ?_
      rw [hf₂, State.calling_eq h.top, State.setFrames_setFrames, State.setTop_of_frames _ hr', hr]
      rfl
    have hsame : U.sameButNew ({ U with heap := s₂.heap, slotsUsed := s₂.slotsUsed } : State) L mc ms := by
      refine ⟨?_, q2, q3, q4, q5, q6⟩
      obtain ⟨t, ht, -⟩ := State.frames_cons hr
      show ({ U with heap := s₂.heap, slotsUsed := s₂.slotsUsed } : State) = { U.setFrames U.frames with heap := s₂.heap, slotsUsed := s₂.slotsUsed }
      rw [State.setFrames_self ht]
    subst hg
    refine Or.inl ⟨v, ⟨(({ U with heap := s₂.heap, slotsUsed := s₂.slotsUsed } : State).setVm s₂.vm), Ls ++ L, c0 + mc, s0 + ms⟩,
      ⟨X.admits, X.cas, X.clock, X.frames, X.room, X.hears, X.method, X.code, (X.here.setHeapUsed s₂.heap s₂.slotsUsed).setVm hW'.alike, X.tail, State.WarmedH.trans X.warmed hW', X.limits, X.bytes, X.same.trans (hsame.setVm s.vm)⟩,
      ⟨g, mk, s₂, L, rfl, rfl, hqc, rfl, hL, rfl, rfl⟩, ?_⟩
    show Steps p.tables e below _ ((({ U with heap := s₂.heap, slotsUsed := s₂.slotsUsed } : State).setVm s₂.vm).setTop { g with pc := g.pc + len₂, stack := v.toList ++ g.stack })
    rw [← hs₂]
    exact hsteps
  · obtain ⟨e2, q2, q3, q4, q5, q6⟩ := id hsm
    have e3 : s₂ = ({ (U.calling g mk a).setFrames s₂.frames with heap := s₂.heap, slotsUsed := s₂.slotsUsed } : State).setVm s₂.vm := by
      have : s₂ = ({ s₂ with vm := (U.calling g mk a).vm } : State).setVm s₂.vm := rfl
      rw [e2] at this
      exact this
    have hf₂ : s₂.frames = .throwing q :: .java g :: U.frames.tail := hend
    have hW' : U.WarmedH s₂.vm := hW₂
    have hs₂ : s₂ = ((({ U with heap := s₂.heap, slotsUsed := s₂.slotsUsed } : State).setVm s₂.vm).setTop g).pushFrame (.throwing q) := by
      refine e3.trans ?_
      rw [hf₂, State.calling_eq h.top, State.setFrames_setFrames, State.pushFrame, State.frames_setTop _ hr', State.setTop_of_frames _ hr', State.setFrames_setFrames, hr]
      rfl
    have hsame : U.sameButNew ({ U with heap := s₂.heap, slotsUsed := s₂.slotsUsed } : State) L mc ms := by
      refine ⟨?_, q2, q3, q4, q5, q6⟩
      obtain ⟨t, ht, -⟩ := State.frames_cons hr
      show ({ U with heap := s₂.heap, slotsUsed := s₂.slotsUsed } : State) = { U.setFrames U.frames with heap := s₂.heap, slotsUsed := s₂.slotsUsed }
      rw [State.setFrames_self ht]
    subst hg
    refine Or.inr ⟨q, ⟨(({ U with heap := s₂.heap, slotsUsed := s₂.slotsUsed } : State).setVm s₂.vm), Ls ++ L, c0 + mc, s0 + ms⟩,
      ⟨X.admits, X.cas, X.clock, X.frames, X.room, X.hears, X.method, X.code, (X.here.setHeapUsed s₂.heap s₂.slotsUsed).setVm hW'.alike, X.tail, State.WarmedH.trans X.warmed hW', X.limits, X.bytes, X.same.trans (hsame.setVm s.vm)⟩,
      ⟨g, mk, s₂, L, E, ce, rfl, rfl, hx, hce, hcv, hcl, rfl, hL, rfl, rfl⟩, ?_⟩
    show Steps p.tables e below _ (((({ U with heap := s₂.heap, slotsUsed := s₂.slotsUsed } : State).setVm s₂.vm).setTop g).pushFrame (.throwing q))
    rw [← hs₂]
    exact hsteps
end Payer
section Calls
variable {p : Program} {l : Launch} {e : Env} {R : Room} {s : State} {m : MethodId} {args : Array Value} {below : List Frame} {meth : Method} {c : Code} {T : State} {locs : List Loc} {cells slots : Nat}
theorem vx_callV (X : Stand p l e R s m args below meth c T locs cells slots) (hexec : p.tables.exec = Jvm.exec) {own C : String} {index : Nat} {y : MethodName} {bytes : ByteArray} {maxL : Nat} {ret : Option FieldType}
    (hown : s.vm.findClass own = some m.cls) (hlink : (Cond.methodLink own index y).before args s = true) (hinst : (Cond.instanceMethod y).before args s = true) (hsel : (Cond.selects C y y).before args s = true)
    (hcode : (Cond.code y bytes maxL ret).before args s = true) (hy : y.cls ≠ "java/lang/invoke/MethodHandle" ∧ y.cls ≠ "java/lang/invoke/VarHandle")
    {W9 : Nat} {Pre : Pt → Array Value → Prop} {Post : Pt → Array Value → Option Value → Pt → Prop} {PostX : Pt → Array Value → Addr → Pt → Prop} (hK : vx_Back l R p e below s args y 3 W9 Pre Post PostX)
    {b : Addr} {cellB : Cell} (hcell : T.heap[b]? = some cellB) (hobj : cellB.vm.isStatics = false) (hcls : s.vm.findClass C = some cellB.cls)
    {g : JFrame} (hg : g.method = m) (hsize : g.locals.size = c.maxLocals) {argsL rest : List Value} (hlen : ∀ sig, parseMethodDescriptor y.desc = some sig → argsL.length = sig.parameters.length)
    (hstack : g.stack = argsL.reverse ++ .ref b :: rest) (hW : 2 * g.monitorRoom + (rest.map fun v => v.category).sum ≤ W9) (hdg : decode c.code g.pc = .ok (.invokevirtual index, 3))
    (hpre : ∀ vm₁, s.WarmedH vm₁ → Pre ⟨T.setVm vm₁, locs, cells, slots⟩ (Value.ref b :: argsL).toArray) :
    (∃ (v : Option Value) (vm₁ : Vm) (B : Pt), s.WarmedH vm₁ ∧ Stand p l e R s m args below meth c B.U B.locs B.cells B.slots ∧ Post ⟨T.setVm vm₁, locs, cells, slots⟩ (Value.ref b :: argsL).toArray v B ∧
      ∀ target, Steps p.tables e below (B.U.setTop { g with pc := g.pc + 3, stack := v.toList ++ rest }) target → Steps p.tables e below (T.setTop g) target) ∨
    (∃ (q : Addr) (vm₁ : Vm) (B : Pt), s.WarmedH vm₁ ∧ Stand p l e R s m args below meth c B.U B.locs B.cells B.slots ∧ PostX ⟨T.setVm vm₁, locs, cells, slots⟩ (Value.ref b :: argsL).toArray q B ∧
      Steps p.tables e below (T.setTop g) ((B.U.setTop { g with stack := rest }).pushFrame (.throwing q))) := by
  obtain ⟨mk, methM, hnamed, hmethM, hstM, habM⟩ := Cond.instanceMethod_spec hinst
  obtain ⟨methM', cM, hmethM', -, -, -, -, -, -, hsigM⟩ := Cond.code_spec hnamed hcode
  cases hmethM.symm.trans hmethM'
  obtain ⟨c2, r2, m2, q1, q2, q3, q4, kP, hkP, hkPi⟩ := Cond.selects_spec hsel
  cases hcls.symm.trans q1
  cases (State.methodFound?_of_named hnamed hy).symm.trans q2
  cases hnamed.symm.trans q3
  have hselP : selectMethod e.platform s.vm cellB.cls mk = .method mk := by rw [Launch.admits_selectMethod X.admits]; exact q4
  obtain ⟨vm₁, X₁, hstep₁⟩ := X.invokevirtual hexec hown hlink hnamed hmethM hstM hkP hkPi hy (a := b) (cell := cellB) hcell
    (fun z h => by rw [h] at hobj; cases hobj) hselP hmethM habM hkP hkPi (g := g) hg (argsL := argsL) (rest := rest) (hlen _ hsigM) hstack hdg
  rcases hK m meth c ⟨T.setVm vm₁, locs, cells, slots⟩ { g with stack := rest } (.invokevirtual index) mk (Value.ref b :: argsL).toArray X₁ hg hsize hdg hW (X₁.named hnamed) (hpre vm₁ X₁.warmed) with ⟨v, B, X', hpost, hsteps⟩ | ⟨q, B, X', hpost, hsteps⟩
  · exact Or.inl ⟨v, vm₁, B, X₁.warmed, X', hpost, fun target h => hstep₁ _ fun acts => by rw [doInvoke_state]; exact hsteps.trans h⟩
  · exact Or.inr ⟨q, vm₁, B, X₁.warmed, X', hpost, hstep₁ _ fun acts => by rw [doInvoke_state]; exact hsteps⟩
theorem vx_callS (X : Stand p l e R s m args below meth c T locs cells slots) (hexec : p.tables.exec = Jvm.exec) {own : String} {index : Nat} {y : MethodName} {bytes : ByteArray} {maxL : Nat} {ret : Option FieldType}
    (hown : s.vm.findClass own = some m.cls) (hlink : (Cond.methodLink own index y).before args s = true) (hstat : (Cond.static y).before args s = true) (hinit : (Cond.initialized y.cls).before args s = true)
    (hcode : (Cond.code y bytes maxL ret).before args s = true) (hy : y.cls ≠ "java/lang/invoke/MethodHandle" ∧ y.cls ≠ "java/lang/invoke/VarHandle")
    {W9 : Nat} {Pre : Pt → Array Value → Prop} {Post : Pt → Array Value → Option Value → Pt → Prop} {PostX : Pt → Array Value → Addr → Pt → Prop} (hK : vx_Back l R p e below s args y 3 W9 Pre Post PostX)
    {g : JFrame} (hg : g.method = m) (hsize : g.locals.size = c.maxLocals) {argsL rest : List Value} (hlen : ∀ sig, parseMethodDescriptor y.desc = some sig → argsL.length = sig.parameters.length)
    (hstack : g.stack = argsL.reverse ++ rest) (hW : 2 * g.monitorRoom + (rest.map fun v => v.category).sum ≤ W9) (hdg : decode c.code g.pc = .ok (.invokestatic index, 3))
    (hpre : ∀ vm₁, s.WarmedH vm₁ → Pre ⟨T.setVm vm₁, locs, cells, slots⟩ argsL.toArray) :
    (∃ (v : Option Value) (vm₁ : Vm) (B : Pt), s.WarmedH vm₁ ∧ Stand p l e R s m args below meth c B.U B.locs B.cells B.slots ∧ Post ⟨T.setVm vm₁, locs, cells, slots⟩ argsL.toArray v B ∧
      ∀ target, Steps p.tables e below (B.U.setTop { g with pc := g.pc + 3, stack := v.toList ++ rest }) target → Steps p.tables e below (T.setTop g) target) ∨
    (∃ (q : Addr) (vm₁ : Vm) (B : Pt), s.WarmedH vm₁ ∧ Stand p l e R s m args below meth c B.U B.locs B.cells B.slots ∧ PostX ⟨T.setVm vm₁, locs, cells, slots⟩ argsL.toArray q B ∧
      Steps p.tables e below (T.setTop g) ((B.U.setTop { g with stack := rest }).pushFrame (.throwing q))) := by
  obtain ⟨mk, hnamed⟩ := Cond.code_named hcode
  obtain ⟨methM, cM, hmethM, -, -, -, -, -, -, hsigM⟩ := Cond.code_spec hnamed hcode
  have hstatic : methM.isStatic = true := Cond.static_spec hnamed hmethM hstat
  obtain ⟨kP, hkP, -⟩ := className_of_methodNamed hnamed
  have hinitP : kP.init = .initialized := Cond.initialized_spec (findClass_of_methodNamed hnamed) hkP hinit
  obtain ⟨vm₁, X₁, hstep₁⟩ := X.invokestatic hexec hown hlink hnamed hmethM hstatic hkP hinitP hy (g := g) hg (argsL := argsL) (rest := rest) (hlen _ hsigM) hstack hdg
  rcases hK m meth c ⟨T.setVm vm₁, locs, cells, slots⟩ { g with stack := rest } (.invokestatic index) mk argsL.toArray X₁ hg hsize hdg hW (X₁.named hnamed) (hpre vm₁ X₁.warmed) with ⟨v, B, X', hpost, hsteps⟩ | ⟨q, B, X', hpost, hsteps⟩
  · exact Or.inl ⟨v, vm₁, B, X₁.warmed, X', hpost, fun target h => hstep₁ _ fun acts => by rw [doInvoke_state]; exact hsteps.trans h⟩
  · exact Or.inr ⟨q, vm₁, B, X₁.warmed, X', hpost, hstep₁ _ fun acts => by rw [doInvoke_state]; exact hsteps⟩
end Calls
theorem vx_cls {s : State} {T : State} {vm₁ : Vm} {E : String} {k : ClassId} (hW : s.WarmedH vm₁) (h : (T.setVm vm₁).vm.findClass E = some k) : s.vm.findClass E = some k := by
  have h1 : vm₁.findClass E = some k := h
  rw [hW.alike.findClass] at h1
  exact h1
/-- the method's frame g, with q thrown over it -/
def vx_W (p : Program) (l : Launch) (e : Env) (R : Room) (s : State) (m : MethodId) (args : Array Value) (below : List Frame) (meth : Method) (c : Code) (H : Heap) (locs : List Loc) (cells slots : Nat) (Q : State → Prop) (g : JFrame) (q : Addr) : Prop :=
  ∀ T : State, T.heap = H → Stand p l e R s m args below meth c T locs cells slots → ∃ t, Steps p.tables e below ((T.setTop g).pushFrame (.throwing q)) t ∧ Q t
def vx_Run (p : Program) (l : Launch) (e : Env) (R : Room) (s : State) (m : MethodId) (args : Array Value) (below : List Frame) (meth : Method) (c : Code) (H : Heap) (locs : List Loc) (cells slots mc ms : Nat) (g : JFrame) (rest : List Value) (Qa : State → Outcome → State → Prop) (XC : String → State → State → Prop) (free : Addr → Prop) : Prop :=
  ∀ T : State, T.heap = H → Stand p l e R s m args below meth c T locs cells slots →
    (∃ (v : Option Value) (st₀ t T' : State) (L : List Loc), st₀.heap = H ∧ Stand p l e R s m args below meth c T' (locs ++ L) (cells + mc) (slots + ms) ∧ (∀ q ∈ L, free q.base) ∧ T'.heap = t.heap ∧ T'.vm = t.vm ∧ Qa st₀ (.returned v) t ∧
      Goes p e below T g T' { g with pc := g.pc + 3, stack := v.toList ++ rest }) ∨
    (∃ (q : Addr) (st₀ t T' : State) (L : List Loc) (E : String) (ce : Cell), st₀.heap = H ∧ Stand p l e R s m args below meth c T' (locs ++ L) (cells + mc) (slots + ms) ∧ (∀ z ∈ L, free z.base) ∧ T'.heap = t.heap ∧ T'.vm = t.vm ∧ XC E st₀ t ∧ t.heap[q]? = some ce ∧ ce.vm = .none ∧ s.vm.findClass E = some ce.cls ∧
      Steps p.tables e below (T.setTop g) ((T'.setTop { g with stack := rest }).pushFrame (.throwing q)))
def vx_X {S : Type} (px : S → Prop) (B : String → S → State → Prop) (A : Nat → Prop) : String → State → State → Prop := fun E st t => ∃ u : S, px u ∧ B E u t ∧ va_F A st t
section Runs
variable {p : Program} {l : Launch} {e : Env} {R : Room} {s : State} {m : MethodId} {args : Array Value} {below : List Frame} {meth : Method} {c : Code} {H : Heap} {locs : List Loc} {cells slots : Nat}
variable {y : MethodName} {bytes cc : ByteArray} {maxL nL mc ms n index : Nat} {ret : Option FieldType} {ws : List Cond} {rm : Room} {Pc : Array Value → State → Prop} {Qc : Array Value → State → Outcome → State → Prop} {XC : String → State → State → Prop} {free : Addr → Prop} {Ts : List Cond} {own C : String} {b : Addr} {As rest : List Value} {g : JFrame}
theorem vx_callBack (cb : CallB R s args own index y bytes maxL ret ws rm mc ms n) (hM : vx_Met l y ws rm Pc Qc XC mc ms free) (hbl : FrameBlind Pc) : vx_Back l R p e below s args y 3 8 (PreOf R mc ms Pc) (PostOf Qc mc ms free) (vx_Post XC mc ms free) := by
  obtain ⟨hrc, hrs, hfr, hlo, hws, hcw, -, hini, -⟩ := cb
  exact vx_back (bytes := bytes) (maxL := maxL) (ret := ret) hM hbl hrc hrs hfr hlo hws hcw (fun a' U hW => word_at hW (Or.inl (by first | rfl | simp [Cond.onTables, Cond.keeps, Cond.steady])) hini)
theorem vx_runV (S : CallFix p m c cc nL s args Ts own) (hM : vx_Met l y ws rm Pc Qc XC mc ms free) (cw : CallW R s args own C index y bytes maxL ret ws rm mc ms n) (hp : PreV s H C b Pc As)
    (hg : g.method = m) (hn : As.length = n) (hsize : g.locals.size = nL) (hstack : g.stack = As.reverse ++ .ref b :: rest) (hW : 2 * g.monitorRoom + (rest.map fun v => v.category).sum ≤ 8) (hdg : decode cc g.pc = .ok (.invokevirtual index, 3)) (hf : cells + mc ≤ R.cells ∧ slots + ms ≤ R.slots) :
    vx_Run p l e R s m args below meth c H locs cells slots mc ms g rest (Qc (Value.ref b :: As).toArray) XC free := by
  have hK : vx_Back l R p e below s args y 3 8 (PreOf R mc ms Pc) (PostOf Qc mc ms free) (vx_Post XC mc ms free) := vx_callBack cw.1 hM hp.1
  obtain ⟨⟨-, -, -, -, -, -, hcode, -, hy, hlen, hl⟩, hin, hse⟩ := cw
  obtain ⟨hx, hb, hml, ho, -⟩ := S
  obtain ⟨-, ⟨cellB, hcB, hoB, hclB⟩, hPc⟩ := hp
  intro T hT X
  rcases vx_callV X hx (C := C) (bytes := bytes) (maxL := maxL) (ret := ret) ho hl hin hse hcode hy hK (by rw [hT]; exact hcB) hoB hclB hg (hsize.trans hml.symm) (argsL := As) (rest := rest) (fun sig h => hn.trans (hlen sig h)) hstack hW (by rw [hb]; exact hdg)
    (fun vm₁ hW₁ => ⟨hf.1, hf.2, hPc (T.setVm vm₁) hT hW₁⟩) with ⟨v, vm₁, ⟨U', l2, c2, s2⟩, hW₁, X', ⟨g', mk, t, L, e1, e2, hq, h1, hL, h2, h3⟩, st⟩ | ⟨q, vm₁, ⟨U', l2, c2, s2⟩, hW₁, X', ⟨g', mk, t, L, E, ce, e1, e2, hq, hce, hcv, hcl, h1, hL, h2, h3⟩, st⟩
  · dsimp only [Pt.U, Pt.locs, Pt.cells, Pt.slots] at X' e1 e2 h1 h2 h3 st
    subst h1; subst h2; subst h3
    exact Or.inl ⟨v, (T.setVm vm₁).calling g' mk (Value.ref b :: As).toArray, t, U', L, hT, X', hL, e1, e2, hq, st⟩
  · dsimp only [Pt.U, Pt.locs, Pt.cells, Pt.slots] at X' e1 e2 h1 h2 h3 st hcl
    subst h1; subst h2; subst h3
    exact Or.inr ⟨q, (T.setVm vm₁).calling g' mk (Value.ref b :: As).toArray, t, U', L, E, ce, hT, X', hL, e1, e2, hq, hce, hcv, vx_cls hW₁ hcl, st⟩
theorem vx_runS (S : CallFix p m c cc nL s args Ts own) (hM : vx_Met l y ws rm Pc Qc XC mc ms free) (cw : CallB R s args own index y bytes maxL ret ws rm mc ms n ∧ (Cond.static y).before args s = true) (hp : PreS s H Pc As)
    (hg : g.method = m) (hn : As.length = n) (hsize : g.locals.size = nL) (hstack : g.stack = As.reverse ++ rest) (hW : 2 * g.monitorRoom + (rest.map fun v => v.category).sum ≤ 8) (hdg : decode cc g.pc = .ok (.invokestatic index, 3)) (hf : cells + mc ≤ R.cells ∧ slots + ms ≤ R.slots) :
    vx_Run p l e R s m args below meth c H locs cells slots mc ms g rest (Qc As.toArray) XC free := by
  have hK : vx_Back l R p e below s args y 3 8 (PreOf R mc ms Pc) (PostOf Qc mc ms free) (vx_Post XC mc ms free) := vx_callBack cw.1 hM hp.1
  obtain ⟨⟨-, -, -, -, -, -, hcode, hini, hy, hlen, hl⟩, hstt⟩ := cw
  obtain ⟨hx, hb, hml, ho, -⟩ := S
  intro T hT X
  rcases vx_callS X hx (bytes := bytes) (maxL := maxL) (ret := ret) ho hl hstt hini hcode hy hK hg (hsize.trans hml.symm) (argsL := As) (rest := rest) (fun sig h => hn.trans (hlen sig h)) hstack hW (by rw [hb]; exact hdg)
    (fun vm₁ hW₁ => ⟨hf.1, hf.2, hp.2 (T.setVm vm₁) hT hW₁⟩) with ⟨v, vm₁, ⟨U', l2, c2, s2⟩, hW₁, X', ⟨g', mk, t, L, e1, e2, hq, h1, hL, h2, h3⟩, st⟩ | ⟨q, vm₁, ⟨U', l2, c2, s2⟩, hW₁, X', ⟨g', mk, t, L, E, ce, e1, e2, hq, hce, hcv, hcl, h1, hL, h2, h3⟩, st⟩
  · dsimp only [Pt.U, Pt.locs, Pt.cells, Pt.slots] at X' e1 e2 h1 h2 h3 st
    subst h1; subst h2; subst h3
    exact Or.inl ⟨v, (T.setVm vm₁).calling g' mk As.toArray, t, U', L, hT, X', hL, e1, e2, hq, st⟩
  · dsimp only [Pt.U, Pt.locs, Pt.cells, Pt.slots] at X' e1 e2 h1 h2 h3 st hcl
    subst h1; subst h2; subst h3
    exact Or.inr ⟨q, (T.setVm vm₁).calling g' mk As.toArray, t, U', L, E, ce, hT, X', hL, e1, e2, hq, hce, hcv, vx_cls hW₁ hcl, st⟩
end Runs
section Rows
variable {p : Program} {l : Launch} {e : Env} {R : Room} {s : State} {m : MethodId} {args : Array Value} {below : List Frame} {meth : Method} {c : Code} {H : Heap} {locs : List Loc} {cells slots : Nat} {Q : State → Prop}
variable {mc ms : Nat} {free : Addr → Prop} {A0 A1 : Nat → Prop} {H0 : Heap} {a : Array Value} {pc : Nat} {ls : Array Slot} {st0 rest : List Value}
theorem vx_keep {st₀ t T' : State} {L : List Loc} (h0 : st₀.heap = H) (e1 : T'.heap = t.heap) (hS : va_S A0 H0 H locs) (hA : ∀ q, q < H.size → A1 q → A0 q) (hf : ∀ q, free q → A0 q) (hL : ∀ q ∈ L, free q.base) (hF : va_F A1 st₀ t) :
    H.size ≤ T'.heap.size ∧ (∀ q : Nat, q < H.size → ¬ A1 q → T'.heap[q]? = H[q]?) ∧ va_S A0 H0 T'.heap (locs ++ L) := by
  obtain ⟨hz, hk⟩ := hF
  rw [h0] at hz hk
  exact ⟨by rw [e1]; exact hz, fun q h1 h2 => by rw [e1]; exact hk q h1 h2,
    ⟨Nat.le_trans hS.1 (by rw [e1]; exact hz), fun q h1 h2 => by rw [e1, hk q (Nat.lt_of_lt_of_le h1 hS.1) (fun z => h2 (hA q (Nat.lt_of_lt_of_le h1 hS.1) z))]; exact hS.2.1 q h1 h2, fun q hq => by
      rcases List.mem_append.mp hq with h | h
      · exact hS.2.2 q h
      · exact hf _ (hL q h)⟩⟩
theorem vx_calli {S SX : Type} {post : Int32 → S → Prop} {px : SX → Prop} {B : S → State → Prop} {BX : String → SX → State → Prop} {AX : Nat → Prop} (hr : vx_Run p l e R s m args below meth c H locs cells slots mc ms (F0 m pc ls st0) rest (va_Qi post B A1 a) (vx_X px BX AX) free) (hS : va_S A0 H0 H locs) (hA : ∀ q, q < H.size → A1 q → A0 q) (hf : ∀ q, free q → A0 q) (hAX : ∀ q, q < H.size → AX q → A0 q)
    (kx : ∀ (E : String) (ce : Cell) (q9 : Addr) (u : SX) (t : State) (H1 : Heap) (locs1 : List Loc), t.heap = H1 → s.vm.Alike t.vm → px u → BX E u t → H.size ≤ H1.size → (∀ q : Nat, q < H.size → ¬ AX q → H1[q]? = H[q]?) → va_S A0 H0 H1 locs1 → H1[q9]? = some ce → ce.vm = .none → s.vm.findClass E = some ce.cls → vx_W p l e R s m args below meth c H1 locs1 (cells + mc) (slots + ms) Q (F0 m pc ls rest) q9)
    (kk : ∀ (r : Int32) (u : S) (t : State) (H1 : Heap) (locs1 : List Loc), t.heap = H1 → s.vm.Alike t.vm → post r u → B u t → H.size ≤ H1.size → (∀ q : Nat, q < H.size → ¬ A1 q → H1[q]? = H[q]?) → va_S A0 H0 H1 locs1 → W p l e R s m args below meth c H1 locs1 (cells + mc) (slots + ms) Q (F0 m (pc + 3) ls (.int r :: rest))) : W p l e R s m args below meth c H locs cells slots Q (F0 m pc ls st0) := by
  intro T hT X
  rcases hr T hT X with ⟨v, st₀, t, T', L, h0, X', hL, e1, e2, ⟨⟨r, u, hv, hp, hb⟩, hF⟩, st⟩ | ⟨q, st₀, t, T', L, E, ce, h0, X', hL, e1, e2, ⟨u, hp, hb, hF⟩, hce, hcv, hcl, st⟩
  · cases hv
    obtain ⟨k1, k2, k3⟩ := vx_keep h0 e1 hS hA hf hL hF
    obtain ⟨t2, a1, b1⟩ := kk r u t T'.heap (locs ++ L) e1.symm (by rw [← e2]; exact X'.warmed.alike) hp hb k1 k2 k3 T' rfl X'
    exact ⟨t2, st t2 a1, b1⟩
  · obtain ⟨k1, k2, k3⟩ := vx_keep h0 e1 hS hAX hf hL hF
    obtain ⟨t2, a1, b1⟩ := kx E ce q u t T'.heap (locs ++ L) e1.symm (by rw [← e2]; exact X'.warmed.alike) hp hb k1 k2 k3 (by rw [e1]; exact hce) hcv hcl T' rfl X'
    exact ⟨t2, st.trans a1, b1⟩
theorem vx_calll {S SX : Type} {post : Int64 → S → Prop} {px : SX → Prop} {B : S → State → Prop} {BX : String → SX → State → Prop} {AX : Nat → Prop} (hr : vx_Run p l e R s m args below meth c H locs cells slots mc ms (F0 m pc ls st0) rest (va_Ql post B A1 a) (vx_X px BX AX) free) (hS : va_S A0 H0 H locs) (hA : ∀ q, q < H.size → A1 q → A0 q) (hf : ∀ q, free q → A0 q) (hAX : ∀ q, q < H.size → AX q → A0 q)
    (kx : ∀ (E : String) (ce : Cell) (q9 : Addr) (u : SX) (t : State) (H1 : Heap) (locs1 : List Loc), t.heap = H1 → s.vm.Alike t.vm → px u → BX E u t → H.size ≤ H1.size → (∀ q : Nat, q < H.size → ¬ AX q → H1[q]? = H[q]?) → va_S A0 H0 H1 locs1 → H1[q9]? = some ce → ce.vm = .none → s.vm.findClass E = some ce.cls → vx_W p l e R s m args below meth c H1 locs1 (cells + mc) (slots + ms) Q (F0 m pc ls rest) q9)
    (kk : ∀ (r : Int64) (u : S) (t : State) (H1 : Heap) (locs1 : List Loc), t.heap = H1 → s.vm.Alike t.vm → post r u → B u t → H.size ≤ H1.size → (∀ q : Nat, q < H.size → ¬ A1 q → H1[q]? = H[q]?) → va_S A0 H0 H1 locs1 → W p l e R s m args below meth c H1 locs1 (cells + mc) (slots + ms) Q (F0 m (pc + 3) ls (.long r :: rest))) : W p l e R s m args below meth c H locs cells slots Q (F0 m pc ls st0) := by
  intro T hT X
  rcases hr T hT X with ⟨v, st₀, t, T', L, h0, X', hL, e1, e2, ⟨⟨r, u, hv, hp, hb⟩, hF⟩, st⟩ | ⟨q, st₀, t, T', L, E, ce, h0, X', hL, e1, e2, ⟨u, hp, hb, hF⟩, hce, hcv, hcl, st⟩
  · cases hv
    obtain ⟨k1, k2, k3⟩ := vx_keep h0 e1 hS hA hf hL hF
    obtain ⟨t2, a1, b1⟩ := kk r u t T'.heap (locs ++ L) e1.symm (by rw [← e2]; exact X'.warmed.alike) hp hb k1 k2 k3 T' rfl X'
    exact ⟨t2, st t2 a1, b1⟩
  · obtain ⟨k1, k2, k3⟩ := vx_keep h0 e1 hS hAX hf hL hF
    obtain ⟨t2, a1, b1⟩ := kx E ce q u t T'.heap (locs ++ L) e1.symm (by rw [← e2]; exact X'.warmed.alike) hp hb k1 k2 k3 (by rw [e1]; exact hce) hcv hcl T' rfl X'
    exact ⟨t2, st.trans a1, b1⟩
theorem vx_callf {S SX : Type} {post : UInt32 → S → Prop} {px : SX → Prop} {B : S → State → Prop} {BX : String → SX → State → Prop} {AX : Nat → Prop} (hr : vx_Run p l e R s m args below meth c H locs cells slots mc ms (F0 m pc ls st0) rest (va_Qf post B A1 a) (vx_X px BX AX) free) (hS : va_S A0 H0 H locs) (hA : ∀ q, q < H.size → A1 q → A0 q) (hf : ∀ q, free q → A0 q) (hAX : ∀ q, q < H.size → AX q → A0 q)
    (kx : ∀ (E : String) (ce : Cell) (q9 : Addr) (u : SX) (t : State) (H1 : Heap) (locs1 : List Loc), t.heap = H1 → s.vm.Alike t.vm → px u → BX E u t → H.size ≤ H1.size → (∀ q : Nat, q < H.size → ¬ AX q → H1[q]? = H[q]?) → va_S A0 H0 H1 locs1 → H1[q9]? = some ce → ce.vm = .none → s.vm.findClass E = some ce.cls → vx_W p l e R s m args below meth c H1 locs1 (cells + mc) (slots + ms) Q (F0 m pc ls rest) q9)
    (kk : ∀ (r : UInt32) (u : S) (t : State) (H1 : Heap) (locs1 : List Loc), t.heap = H1 → s.vm.Alike t.vm → post r u → B u t → H.size ≤ H1.size → (∀ q : Nat, q < H.size → ¬ A1 q → H1[q]? = H[q]?) → va_S A0 H0 H1 locs1 → W p l e R s m args below meth c H1 locs1 (cells + mc) (slots + ms) Q (F0 m (pc + 3) ls (.float r :: rest))) : W p l e R s m args below meth c H locs cells slots Q (F0 m pc ls st0) := by
  intro T hT X
  rcases hr T hT X with ⟨v, st₀, t, T', L, h0, X', hL, e1, e2, ⟨⟨r, u, hv, hp, hb⟩, hF⟩, st⟩ | ⟨q, st₀, t, T', L, E, ce, h0, X', hL, e1, e2, ⟨u, hp, hb, hF⟩, hce, hcv, hcl, st⟩
  · cases hv
    obtain ⟨k1, k2, k3⟩ := vx_keep h0 e1 hS hA hf hL hF
    obtain ⟨t2, a1, b1⟩ := kk r u t T'.heap (locs ++ L) e1.symm (by rw [← e2]; exact X'.warmed.alike) hp hb k1 k2 k3 T' rfl X'
    exact ⟨t2, st t2 a1, b1⟩
  · obtain ⟨k1, k2, k3⟩ := vx_keep h0 e1 hS hAX hf hL hF
    obtain ⟨t2, a1, b1⟩ := kx E ce q u t T'.heap (locs ++ L) e1.symm (by rw [← e2]; exact X'.warmed.alike) hp hb k1 k2 k3 (by rw [e1]; exact hce) hcv hcl T' rfl X'
    exact ⟨t2, st.trans a1, b1⟩
theorem vx_calld {S SX : Type} {post : UInt64 → S → Prop} {px : SX → Prop} {B : S → State → Prop} {BX : String → SX → State → Prop} {AX : Nat → Prop} (hr : vx_Run p l e R s m args below meth c H locs cells slots mc ms (F0 m pc ls st0) rest (va_Qd post B A1 a) (vx_X px BX AX) free) (hS : va_S A0 H0 H locs) (hA : ∀ q, q < H.size → A1 q → A0 q) (hf : ∀ q, free q → A0 q) (hAX : ∀ q, q < H.size → AX q → A0 q)
    (kx : ∀ (E : String) (ce : Cell) (q9 : Addr) (u : SX) (t : State) (H1 : Heap) (locs1 : List Loc), t.heap = H1 → s.vm.Alike t.vm → px u → BX E u t → H.size ≤ H1.size → (∀ q : Nat, q < H.size → ¬ AX q → H1[q]? = H[q]?) → va_S A0 H0 H1 locs1 → H1[q9]? = some ce → ce.vm = .none → s.vm.findClass E = some ce.cls → vx_W p l e R s m args below meth c H1 locs1 (cells + mc) (slots + ms) Q (F0 m pc ls rest) q9)
    (kk : ∀ (r : UInt64) (u : S) (t : State) (H1 : Heap) (locs1 : List Loc), t.heap = H1 → s.vm.Alike t.vm → post r u → B u t → H.size ≤ H1.size → (∀ q : Nat, q < H.size → ¬ A1 q → H1[q]? = H[q]?) → va_S A0 H0 H1 locs1 → W p l e R s m args below meth c H1 locs1 (cells + mc) (slots + ms) Q (F0 m (pc + 3) ls (.double r :: rest))) : W p l e R s m args below meth c H locs cells slots Q (F0 m pc ls st0) := by
  intro T hT X
  rcases hr T hT X with ⟨v, st₀, t, T', L, h0, X', hL, e1, e2, ⟨⟨r, u, hv, hp, hb⟩, hF⟩, st⟩ | ⟨q, st₀, t, T', L, E, ce, h0, X', hL, e1, e2, ⟨u, hp, hb, hF⟩, hce, hcv, hcl, st⟩
  · cases hv
    obtain ⟨k1, k2, k3⟩ := vx_keep h0 e1 hS hA hf hL hF
    obtain ⟨t2, a1, b1⟩ := kk r u t T'.heap (locs ++ L) e1.symm (by rw [← e2]; exact X'.warmed.alike) hp hb k1 k2 k3 T' rfl X'
    exact ⟨t2, st t2 a1, b1⟩
  · obtain ⟨k1, k2, k3⟩ := vx_keep h0 e1 hS hAX hf hL hF
    obtain ⟨t2, a1, b1⟩ := kx E ce q u t T'.heap (locs ++ L) e1.symm (by rw [← e2]; exact X'.warmed.alike) hp hb k1 k2 k3 (by rw [e1]; exact hce) hcv hcl T' rfl X'
    exact ⟨t2, st.trans a1, b1⟩
theorem vx_callv {S SX : Type} {post : S → Prop} {px : SX → Prop} {B : S → State → Prop} {BX : String → SX → State → Prop} {AX : Nat → Prop} (hr : vx_Run p l e R s m args below meth c H locs cells slots mc ms (F0 m pc ls st0) rest (va_Qv post B A1 a) (vx_X px BX AX) free) (hS : va_S A0 H0 H locs) (hA : ∀ q, q < H.size → A1 q → A0 q) (hf : ∀ q, free q → A0 q) (hAX : ∀ q, q < H.size → AX q → A0 q)
    (kx : ∀ (E : String) (ce : Cell) (q9 : Addr) (u : SX) (t : State) (H1 : Heap) (locs1 : List Loc), t.heap = H1 → s.vm.Alike t.vm → px u → BX E u t → H.size ≤ H1.size → (∀ q : Nat, q < H.size → ¬ AX q → H1[q]? = H[q]?) → va_S A0 H0 H1 locs1 → H1[q9]? = some ce → ce.vm = .none → s.vm.findClass E = some ce.cls → vx_W p l e R s m args below meth c H1 locs1 (cells + mc) (slots + ms) Q (F0 m pc ls rest) q9)
    (kk : ∀ (u : S) (t : State) (H1 : Heap) (locs1 : List Loc), t.heap = H1 → s.vm.Alike t.vm → post u → B u t → H.size ≤ H1.size → (∀ q : Nat, q < H.size → ¬ A1 q → H1[q]? = H[q]?) → va_S A0 H0 H1 locs1 → W p l e R s m args below meth c H1 locs1 (cells + mc) (slots + ms) Q (F0 m (pc + 3) ls (rest))) : W p l e R s m args below meth c H locs cells slots Q (F0 m pc ls st0) := by
  intro T hT X
  rcases hr T hT X with ⟨v, st₀, t, T', L, h0, X', hL, e1, e2, ⟨⟨u, hv, hp, hb⟩, hF⟩, st⟩ | ⟨q, st₀, t, T', L, E, ce, h0, X', hL, e1, e2, ⟨u, hp, hb, hF⟩, hce, hcv, hcl, st⟩
  · cases hv
    obtain ⟨k1, k2, k3⟩ := vx_keep h0 e1 hS hA hf hL hF
    obtain ⟨t2, a1, b1⟩ := kk u t T'.heap (locs ++ L) e1.symm (by rw [← e2]; exact X'.warmed.alike) hp hb k1 k2 k3 T' rfl X'
    exact ⟨t2, st t2 a1, b1⟩
  · obtain ⟨k1, k2, k3⟩ := vx_keep h0 e1 hS hAX hf hL hF
    obtain ⟨t2, a1, b1⟩ := kx E ce q u t T'.heap (locs ++ L) e1.symm (by rw [← e2]; exact X'.warmed.alike) hp hb k1 k2 k3 (by rw [e1]; exact hce) hcv hcl T' rfl X'
    exact ⟨t2, st.trans a1, b1⟩
/-- caught by the row x of this method's table; the rows ahead don't take it -/
theorem vx_catch {own name : String} {E : String} {ce : Cell} {q : Addr} (hown : s.vm.findClass own = some m.cls) (pre : List ExceptionTableEntry) (x : ExceptionTableEntry) (suf : List ExceptionTableEntry) (hsplit : c.exceptionTable.toList = pre ++ x :: suf)
    (hpass : ∀ z ∈ pre, covers z pc = false ∨ (z.catchType ≠ 0 ∧ ∃ nm : String, (Cond.classLink own z.catchType nm).before args s = true ∧ va_Nc E nm s)) (hx : covers x pc = true) (h0 : x.catchType ≠ 0)
    (hlink : (Cond.classLink own x.catchType name).before args s = true) (hcast : (Cond.castable E name).before args s = true) (hcell : H[q]? = some ce) (hv : ce.vm = .none) (hcl : s.vm.findClass E = some ce.cls)
    (kk : W p l e R s m args below meth c H locs cells slots Q (F0 m x.handlerPc ls [.ref q])) : vx_W p l e R s m args below meth c H locs cells slots Q (F0 m pc ls rest) q := by
  intro T hT X
  have hpl : e.platform.magicAccessors = ({} : Platform).magicAccessors := by rw [X.admits.platform]
  obtain ⟨c3, c4, hc3, hc4, hasg⟩ := Cond.castable_spec hcast
  cases Option.some.inj (hc3.symm.trans hcl)
  obtain ⟨c5, hc5, hcl5⟩ := Cond.classLink_spec hown hlink e.platform hpl
  cases Option.some.inj (hc4.symm.trans hc5)
  obtain ⟨vm', X', st⟩ := X.thenCaughtThrough q (g := F0 m pc ls rest) rfl (Steps.refl _) (by rw [hT]; exact hcell) (by rw [hv]; rfl) (by obtain ⟨k9, h9, -⟩ := Vm.findClass_spec hcl; exact ⟨k9, h9⟩) pre x suf hsplit
    (fun z hz => by
      rcases hpass z hz with h | ⟨hz0, nm, hl1, hn1⟩
      · exact Or.inl h
      · obtain ⟨c6, hc6, hcl6⟩ := Cond.classLink_spec hown hl1 e.platform hpl
        obtain ⟨a8, b8, h1, h2, h3⟩ := hn1
        cases Option.some.inj (h1.symm.trans hcl)
        cases Option.some.inj (h2.symm.trans hc6)
        exact Or.inr ⟨hz0, _, hcl6, h3⟩) hx (Or.inr ⟨h0, c4, hcl5, hasg⟩)
  obtain ⟨t, a1, b1⟩ := kk (T.setVm vm') hT X'
  exact ⟨t, st.trans a1, b1⟩
end Rows
section Ends
variable {p : Program} {l : Launch} {e : Env} {R : Room} {s : State} {m : MethodId} {args : Array Value} {below : List Frame} {meth : Method} {c : Code} {H : Heap} {locs : List Loc} {cells slots : Nat} {Q : State → Prop}
variable {mc ms : Nat} {free : Addr → Prop} {A0 A1 : Nat → Prop} {H0 : Heap} {a : Array Value} {ls : Array Slot} {st0 rest : List Value}
variable {Qc : Array Value → State → Outcome → State → Prop} {XC : String → State → State → Prop}
/-- what a body that may throw owes at its end -/
def vx_MQ (below : List Frame) (Qc : Array Value → State → Outcome → State → Prop) (XC : String → State → State → Prop) (a : Array Value) (s : State) (mc ms : Nat) (free : Addr → Prop) : State → Prop := fun t =>
  ∃ o, t.status = .running ∧ Ended t below o ∧ vx_Q Qc XC mc ms free a s o t
theorem vx_ret {g : JFrame} {mc ms : Nat} (k : W p l e R s m args below meth c H locs cells slots (MQ below Qc args s mc ms free) g) : W p l e R s m args below meth c H locs cells slots (vx_MQ below Qc XC args s mc ms free) g := by
  intro T hT X
  obtain ⟨t, a1, o, b1, b2, b3, b4⟩ := k T hT X
  exact ⟨t, a1, o, b1, b2, Or.inl ⟨b3, b4⟩⟩
/-- not caught here: it goes on to the caller -/
theorem vx_widen {g : JFrame} {q : Addr} {k n : Nat} (h1 : cells ≤ k) (h2 : slots ≤ n) (kk : vx_W p l e R s m args below meth c H locs k n Q g q) : vx_W p l e R s m args below meth c H locs cells slots Q g q := fun T hT X => kk T hT (stand_widen X h1 h2)
theorem vx_out {pc : Nat} {E : String} {ce : Cell} {q : Addr} {mc ms : Nat} (hout : ∀ x ∈ c.exceptionTable.toList, covers x pc = false) (hlocks : meth.locks = false) (hcell : H[q]? = some ce) (hv : ce.vm = .none) (hcl : s.vm.findClass E = some ce.cls)
    (hx : ∀ t : State, t.heap = H → s.vm.Alike t.vm → XC E s t) (hf : ∀ z ∈ locs, free z.base) (hc : cells ≤ mc) (hs : slots ≤ ms) :
    vx_W p l e R s m args below meth c H locs cells slots (vx_MQ below Qc XC args s mc ms free) (F0 m pc ls rest) q := by
  intro T hT X
  obtain ⟨st1, hrun, hend, hW, hsm⟩ := X.leaveThrown q (g := F0 m pc ls rest) rfl rfl rfl hout hlocks
  have hcell9 : (T.setFrames (.throwing q :: below)).heap[q]? = some ce := by
    show T.heap[q]? = some ce
    rw [hT]; exact hcell
  exact ⟨_, st1, .threw q, hrun, hend, Or.inr ⟨q, rfl, E, ce, locs, hx _ hT hW.alike, hcell9, hv, hcl, hW, hsm.mono hc hs, hf⟩⟩
theorem vx_frame {U : State} {k n : Nat} (h : s.sameButNew ({ U with vm := s.vm } : State) locs k n) : s.heap.size ≤ U.heap.size ∧ ∀ q : Nat, q < s.heap.size → (∀ z ∈ locs, z.base ≠ q) → U.heap[q]? = s.heap[q]? := by
  obtain ⟨-, h2, -, -, -, h6⟩ := h
  refine ⟨h2, fun q hq hz => ?_⟩
  obtain ⟨c9, e1, e2, e3, e4⟩ := h6 q _ (Array.getElem?_eq_getElem hq)
  have hs : c9.slots = (s.heap[q]).slots := Array.ext_getElem? fun i => e4 i fun hm => hz _ hm rfl
  have h9 : c9 = s.heap[q] := by
    rw [hs] at e2
    exact e2
  have e5 : U.heap[q]? = some c9 := e1
  rw [e5, h9, Array.getElem?_eq_getElem hq]
/-- the words of a throw but the four that speak of the heap -/
def vx_no (w : Cond) : Bool := decide (w ≠ .isRef (.static Bundle.tN "UNASSIGNED_STACK" Bundle.steD)) && decide (w ≠ .isRef (.static Bundle.tN "SUPPRESSED_SENTINEL" Bundle.listD)) && decide (w ≠ .laysStatic Bundle.tN "UNASSIGNED_STACK" Bundle.steD) && decide (w ≠ .laysStatic Bundle.tN "SUPPRESSED_SENTINEL" Bundle.listD)
def vx_at0 (own : String) (ic : Nat) (X : String) (names : List String) : List Cond := (Bundle.ownAtoms0 own ic X names).filter vx_no
def vx_atS (own : String) (ic : Nat) (X : String) (names : List String) : List Cond := (Bundle.ownAtoms own ic X names).filter vx_no
/-- a word that the tables alone decide, or a good one -/
def vx_ot (w : Cond) : Bool := w.onTables || goodWord w
theorem vx_ot_at {args a' : Array Value} {s U : State} {w : Cond} (hW : s.WarmedH U.vm) (hvm : s.vm = U.vm) (hg : vx_ot w = true) (h : w.before args s = true) : w.before a' U = true := by
  simp only [vx_ot, Bool.or_eq_true] at hg
  rcases hg with hg | hg
  · exact va_tabs hg hvm h
  · exact word_at hW (good_of_word hg) h
/-- a list's words: the good ones out of the method's own list, the others by premises of their own -/
theorem vx_hat {args : Array Value} {s : State} {L B : List Cond} (h1 : ∀ w ∈ L.filter goodWord, w.before args s = true) (h2 : ∀ w ∈ L.filter (fun w => !goodWord w), w ∈ B) (h3 : ∀ w ∈ B, w.before args s = true) : ∀ w ∈ L, w.before args s = true := by
  intro w hw
  by_cases g : goodWord w = true
  · exact h1 w (List.mem_filter.mpr ⟨hw, g⟩)
  · refine h3 w (h2 w (List.mem_filter.mpr ⟨hw, ?_⟩))
    show (!goodWord w) = true
    cases hgw : goodWord w
    · rfl
    · exact absurd hgw g
theorem vx_c {args : Array Value} {s : State} {w : Cond} {B : List Cond} (h : w.before args s = true) (t : ∀ w ∈ B, w.before args s = true) : ∀ w' ∈ w :: B, w'.before args s = true := fun w' h' => (List.mem_cons.mp h').elim (fun e => by rw [e]; exact h) (t w')
theorem vx_n {args : Array Value} {s : State} : ∀ w ∈ ([] : List Cond), w.before args s = true := fun _ h => nomatch h
theorem vx_own {args : Array Value} {s : State} {L : List Cond} (h1 : ∀ w ∈ L.filter vx_no, w.before args s = true)
    (hU : (Cond.isRef (.static Bundle.tN "UNASSIGNED_STACK" Bundle.steD)).before args s = true) (hN : (Cond.isRef (.static Bundle.tN "SUPPRESSED_SENTINEL" Bundle.listD)).before args s = true)
    (lU : (Cond.laysStatic Bundle.tN "UNASSIGNED_STACK" Bundle.steD).before args s = true) (lN : (Cond.laysStatic Bundle.tN "SUPPRESSED_SENTINEL" Bundle.listD).before args s = true) : ∀ w ∈ L, w.before args s = true := by
  intro w hw
  by_cases e1 : w = .isRef (.static Bundle.tN "UNASSIGNED_STACK" Bundle.steD)
  · rw [e1]; exact hU
  · by_cases e2 : w = .isRef (.static Bundle.tN "SUPPRESSED_SENTINEL" Bundle.listD)
    · rw [e2]; exact hN
    · by_cases e3 : w = .laysStatic Bundle.tN "UNASSIGNED_STACK" Bundle.steD
      · rw [e3]; exact lU
      · by_cases e4 : w = .laysStatic Bundle.tN "SUPPRESSED_SENTINEL" Bundle.listD
        · rw [e4]; exact lN
        · exact h1 w (List.mem_filter.mpr ⟨hw, by unfold vx_no; rw [decide_eq_true e1, decide_eq_true e2, decide_eq_true e3, decide_eq_true e4]; rfl⟩)
/-- where a static field lies, its class's statics cell in H -/
def vx_L (C n d : String) (A : Nat → Prop) (U : State) (H : Heap) : Prop := ∃ (c : ClassId) (k : Class) (i : Nat) (f : Field) (a : Nat) (cell : Cell), U.vm.findClass C = some c ∧ U.fieldFound? C n d = some (c, k, i, f) ∧ f.isStatic = true ∧ k.statics = some a ∧ H[a]? = some cell ∧ cell.vm.isStatics = true ∧ cell.cls = c ∧ f.slot < cell.slots.size ∧ k.staticTypes[f.slot]? = some f.type ∧ ¬ A a
theorem vx_L.moved {C n d : String} {A : Nat → Prop} {u U : State} {H : Heap} (hvm : u.vm.Alike U.vm) (h : vx_L C n d A u H) : vx_L C n d A U H := by
  obtain ⟨c, k, i, f, a, cell, h1, h2, h3, h4, h5, h6, h7, h8, h9, h10⟩ := h
  obtain ⟨k', hi', he⟩ := State.fieldFound?_setVm hvm h2
  exact ⟨c, k', i, f, a, cell, by rw [hvm.findClass]; exact h1, hi', h3, by rw [he]; exact h4, h5, h6, h7, h8, by rw [he]; exact h9, h10⟩
theorem vx_L.kept {C n d : String} {A : Nat → Prop} {U : State} {H H1 : Heap} (h : vx_L C n d A U H) (hq : ∀ a : Nat, a < H.size → ¬ A a → H1[a]? = H[a]?) : vx_L C n d A U H1 := by
  obtain ⟨c, k, i, f, a, cell, h1, h2, h3, h4, h5, h6, h7, h8, h9, h10⟩ := h
  exact ⟨c, k, i, f, a, cell, h1, h2, h3, h4, by rw [hq a (Array.getElem?_eq_some_iff.mp h5).1 h10]; exact h5, h6, h7, h8, h9, h10⟩
theorem vx_L.narrow {C n d : String} {A B : Nat → Prop} {U : State} {H : Heap} (h : vx_L C n d A U H) (hAB : ∀ q, B q → A q) : vx_L C n d B U H := by
  obtain ⟨c, k, i, f, a, cell, h1, h2, h3, h4, h5, h6, h7, h8, h9, h10⟩ := h
  exact ⟨c, k, i, f, a, cell, h1, h2, h3, h4, h5, h6, h7, h8, h9, fun z => h10 (hAB _ z)⟩
theorem vx_L.word {C n d : String} {A : Nat → Prop} {s : State} {args : Array Value} (h : vx_L C n d A s s.heap) : (Cond.laysStatic C n d).before args s = true := by
  obtain ⟨c, k, i, f, a, cell, h1, h2, h3, h4, h5, h6, h7, h8, h9, -⟩ := h
  show (Cond.laysStatic C n d).holds args s none s [] = true
  exact Cond.laysStatic_of h1 h2 h3 h4 h5 h6 h7 h8 h9
/-- .. and what it holds: null or some reference -/
def vx_Zq (C n d : String) (A : Nat → Prop) (U : State) (H : Heap) : Prop := va_Zq C n d A U H ∧ vx_L C n d A U H
theorem vx_Zq.moved {C n d : String} {A : Nat → Prop} {u U : State} {H : Heap} (hvm : u.vm.Alike U.vm) (h : vx_Zq C n d A u H) : vx_Zq C n d A U H := ⟨va_Zq.moved hvm h.1, vx_L.moved hvm h.2⟩
theorem vx_Zq.kept {C n d : String} {A : Nat → Prop} {U : State} {H H1 : Heap} (h : vx_Zq C n d A U H) (hq : ∀ a : Nat, a < H.size → ¬ A a → H1[a]? = H[a]?) : vx_Zq C n d A U H1 := ⟨va_Zq.kept h.1 hq, vx_L.kept h.2 hq⟩
theorem vx_Zq.narrow {C n d : String} {A B : Nat → Prop} {U : State} {H : Heap} (h : vx_Zq C n d A U H) (hAB : ∀ q, B q → A q) : vx_Zq C n d B U H := ⟨va_Zq.narrow h.1 hAB, vx_L.narrow h.2 hAB⟩
theorem vx_Zqof {args : Array Value} {s : State} {C n d : String} {A : Nat → Prop} (hl : (Cond.laysStatic C n d).before args s = true) (hini : (Cond.initialized C).before args s = true) (h : (Cond.isRef (.static C n d)).before args s = true) (hA : ∀ a : Nat, a < s.heap.size → ¬ A a) : vx_Zq C n d A s s.heap := by
  refine ⟨va_Zqof hl hini h hA, ?_⟩
  obtain ⟨c, k, i, f, a, cell, h1, h2, h3, h4, h5, h6, h7, h8, h9⟩ := Cond.laysStatic_spec hl
  exact ⟨c, k, i, f, a, cell, h1, h2, h3, h4, h5, h6, h7, h8, h9, hA a (Array.getElem?_eq_some_iff.mp h5).1⟩
theorem vx_isRef {C n d : String} {v : Value} {A : Nat → Prop} {s : State} {args : Array Value} (h : va_Z C n d v A s s.heap) (hv : v.isRef = true) : (Cond.isRef (.static C n d)).before args s = true := by
  obtain ⟨cf, kf, fi, f, a, cell, h1, h2, h3, h4, h5, h6, h7, -⟩ := h
  have he : (Term.static C n d).eval args s none [] s = some v := by
    simp [Term.eval, State.fieldNamed?, h1, h2, h4, h5, h6, h7]
  simp only [Cond.before, Cond.holds, Cond.value, he]
  cases v <;> simp_all [Value.isRef]
theorem vx_isRefq {C n d : String} {A : Nat → Prop} {s : State} {args : Array Value} (h : va_Zq C n d A s s.heap) : (Cond.isRef (.static C n d)).before args s = true := by
  rcases h with h | ⟨t, h⟩
  · exact vx_isRef h rfl
  · exact vx_isRef h rfl
/-- the same frame, seen from here: as if the method were called anew in this heap -/
theorem vx_rebase {T : State} (X : Stand p l e R s m args below meth c T locs cells slots) {R' : Room} (hf : R'.frames ≤ R.frames) (hl : R'.locals ≤ R.locals) (hc : cells + R'.cells ≤ R.cells) (hs : slots + R'.slots ≤ R.slots) :
    Stand p l e R' ((T.setVm s.vm).setFrames (.invoking m args :: below)) m args below meth c T [] 0 0 := by
  have htop : (T.setVm s.vm).topJava?.isSome := X.here.top
  have hF : ((T.setVm s.vm).setFrames (.invoking m args :: below)).frames = .invoking m args :: below := State.frames_setFrames _ (State.cur_lt_of_top htop)
  obtain ⟨g₀, hg0⟩ := Option.isSome_iff_exists.mp htop
  obtain ⟨r, hr⟩ := State.topJava?_eq_some.mp hg0
  have hl9 : e.platform.stackLimits (T.setVm s.vm).me = e.platform.stackLimits s.me := X.limits
  have hb9 : (T.setVm s.vm).me.stackBytes = s.me.stackBytes := X.bytes
  refine ⟨X.admits, X.cas, X.clock, hF, ?_, X.hears, X.method, X.code, X.here, X.tail, X.warmed, ?_, ?_, ?_⟩
  · have h := X.room
    have hU : ((T.setVm s.vm).setFrames (.invoking m args :: below)).localsInUse = s.localsInUse := by
      rw [State.localsInUse_invoking hF (meth := meth) (c := c) X.method X.code, State.localsInUse_invoking X.frames X.method X.code]
    simp only [State.hasRoom, Bool.and_eq_true, decide_eq_true_eq] at h ⊢
    obtain ⟨⟨⟨⟨h1, h2, h3, h4, h5, h6⟩, h7⟩, h8⟩, h9⟩ := h
    rw [X.frames, List.length_cons] at h2 h3
    have q1 := X.heapSize
    have q2 := X.used
    simp only [hF, hU, List.length_cons, State.stackLimits_setFrames, State.stackBytes_setFrames, hl9, hb9]
    refine ⟨⟨⟨⟨by omega, by omega, by omega, by omega, by omega, h6⟩, ?_⟩, ?_⟩, X.book⟩
    · show T.heap.size + R'.cells ≤ e.platform.maxCells
      omega
    · show T.slotsUsed + R'.slots ≤ e.platform.maxSlots
      omega
  · rw [State.stackLimits_setFrames]; rfl
  · rw [State.stackBytes_setFrames]; rfl
  · refine ⟨?_, Nat.le_refl _, Nat.le_refl _, ?_, ?_, fun a c9 h9 => ⟨c9, h9, rfl, rfl, fun _ _ => rfl⟩⟩
    · obtain ⟨t, ht, -⟩ := State.frames_cons hr
      show T.setVm s.vm = { ((T.setVm s.vm).setFrames (.invoking m args :: below)).setFrames (T.setVm s.vm).frames with heap := T.heap, slotsUsed := T.slotsUsed }
      rw [State.setFrames_setFrames, State.setFrames_self ht]
      rfl
    · show T.slotsUsed = T.slotsUsed + ((T.heap.toList.drop T.heap.size).map (·.slots.size)).sum
      rw [List.drop_eq_nil_of_le (Nat.le_of_eq Array.length_toList)]
      rfl
    · show ((T.heap.toList.drop T.heap.size).map (·.slots.size)).sum ≤ 0
      rw [List.drop_eq_nil_of_le (Nat.le_of_eq Array.length_toList)]
      exact Nat.le_refl _
/-- 'throw new E()': new; dup; invokespecial; athrow -/
theorem vx_throw0 {cc : ByteArray} {pc : Nat} (hexec : p.tables.exec = Jvm.exec) (hb : c.code = cc) (hl : l.stackTraces = false) {own cls : String} {names : List String} {ik ic mc ms : Nat} {A : Nat → Prop}
    (hown : s.vm.findClass own = some m.cls) (hcls : Bundle.fit cls = true) (hnames : ∀ n ∈ names, Bundle.fit n = true)
    (hk : (Cond.classLink own ik cls).before args s = true) (hini : (Cond.initialized cls).before args s = true) (hat : ∀ w ∈ vx_at0 own ic cls names, w.before args s = true)
    (hgood : ∀ w ∈ Cond.classLink own ik cls :: Cond.initialized cls :: vx_at0 own ic cls names, vx_ot w = true)
    (hU : vx_Zq Bundle.tN "UNASSIGNED_STACK" Bundle.steD A s s.heap) (hN : vx_Zq Bundle.tN "SUPPRESSED_SENTINEL" Bundle.listD A s s.heap) (hS : va_S A s.heap H locs) (hsize : ls.size = c.maxLocals)
    (d0 : decode cc pc = .ok (.new ik, 3)) (d3 : decode cc (pc + 3) = .ok (.dup, 1)) (d4 : decode cc (pc + 4) = .ok (.invokespecial ic, 3)) (d7 : decode cc (pc + 7) = .ok (.athrow, 1))
    (hout : ∀ x ∈ c.exceptionTable.toList, covers x (pc + 7) = false)
    (hRframes : names.length + 3 < R.frames) (hRlocals : (rest.map fun v => v.category).sum + (13 * (names.length + 1) + 42) ≤ R.locals) (hRcells : cells + 1 ≤ R.cells) (hRslots : slots + 6 ≤ R.slots) (hlocks : meth.locks = false)
    (hx : ∀ t : State, s.vm.Alike t.vm → H.size ≤ t.heap.size → (∀ q : Nat, q < H.size → t.heap[q]? = H[q]?) → XC cls s t)
    (hf : ∀ z ∈ locs, free z.base) (hc : cells + 1 ≤ mc) (hs : slots + 6 ≤ ms) :
    W p l e R s m args below meth c H locs cells slots (vx_MQ below Qc XC args s mc ms free) (F0 m pc ls rest) := by
  intro T hT X
  have htr : e.platform.stackTraces = false := (show e.platform.stackTraces = l.stackTraces by rw [X.admits.platform]).trans hl
  have Y := vx_rebase X (R' := { frames := R.frames, locals := R.locals, cells := 1, slots := 6 }) (Nat.le_refl _) (Nat.le_refl _) hRcells hRslots
  obtain ⟨s', hA⟩ : ∃ z, z = (T.setVm s.vm).setFrames (.invoking m args :: below) := ⟨_, rfl⟩
  rw [← hA] at Y
  have hvm : s'.vm = s.vm := by rw [hA]; rfl
  have hhp : s'.heap = H := by rw [hA]; exact hT
  have hW0 : s.WarmedH s'.vm := by rw [hvm]; exact State.WarmedH.refl s
  have hat' : ∀ w ∈ vx_at0 own ic cls names, w.before args s' = true := fun w hw => vx_ot_at hW0 hvm.symm (hgood w (List.mem_cons_of_mem _ (List.mem_cons_of_mem _ hw))) (hat w hw)
  have hk' : (Cond.classLink own ik cls).before args s' = true := vx_ot_at hW0 hvm.symm (hgood _ List.mem_cons_self) hk
  have hini' : (Cond.initialized cls).before args s' = true := vx_ot_at hW0 hvm.symm (hgood _ (List.mem_cons_of_mem _ List.mem_cons_self)) hini
  have hU' : vx_Zq Bundle.tN "UNASSIGNED_STACK" Bundle.steD A s' s'.heap := by rw [hhp]; exact vx_Zq.moved hW0.alike (hU.kept hS.2.1)
  have hN' : vx_Zq Bundle.tN "SUPPRESSED_SENTINEL" Bundle.listD A s' s'.heap := by rw [hhp]; exact vx_Zq.moved hW0.alike (hN.kept hS.2.1)
  have h : ∀ w ∈ Bundle.ownAtoms0 own ic cls names, w.before args s' = true := vx_own hat' (vx_isRefq hU'.1) (vx_isRefq hN'.1) hU'.2.word hN'.2.word
  have hown' : s'.vm.findClass own = some m.cls := by rw [hvm]; exact hown
  have hins : (Cond.instantiable cls 6).before args s' = true := h _ (by simp [Bundle.ownAtoms0])
  obtain ⟨vm₁, cX, kX, hfX, hkX, -, -, X₁, st1⟩ := Y.newCold hexec (own := own) (C := cls) (index := ik) (n := 6) hown' hk' hins hini'
    (g := F0 m pc ls rest) rfl (by rw [hb]; exact d0) (Nat.le_refl _) (Nat.le_refl _)
  generalize hT1 : (T.setVm vm₁).pushCell { cls := cX, slots := kX.instanceTypes.map defaultValue, vm := .none } = T1 at X₁ st1
  have hcat : (Value.ref T.heap.size).category = 1 := rfl
  have hcellA : T1.heap[T.heap.size]? = some (freshCell cX kX) := by rw [← hT1]; exact State.heap_pushCell_size _ _
  have d3' : decode c.code (pc + 3) = .ok (.dup, 1) := by rw [hb]; exact d3
  obtain ⟨U, hsteps, hrun, hend, hW, hsame, ce, hce, hO⟩ := X₁.ctorThrow0 hexec htr (own := own) (cls := cls) (names := names) (ic := ic) hown' hcls hnames h (fun x hx => nomatch hx) hfX hkX hcellA (by rw [hhp, hT]; exact Nat.le_refl _)
    (g := { method := m, pc := pc + 4, locals := ls, stack := .ref T.heap.size :: .ref T.heap.size :: rest, locked := none }) rfl hsize rfl rfl (rest := rest) rfl
    (by rw [hb]; exact d4) (by rw [hb]; exact d7) hout hRframes (by simp only [List.map_cons, List.sum_cons, hcat]; omega) hlocks
  obtain ⟨f1, f2⟩ := vx_frame hsame
  rw [hhp] at f1 f2
  have hWs : s.WarmedH U.vm := State.WarmedH.trans hW0 hW
  have hcl : s.vm.findClass cls = some ce.cls := by
    have h9 := hO.cls
    rw [hvm] at h9
    exact h9
  have hall : s.sameButNew ({ U with vm := s.vm } : State) locs mc ms := by
    subst hA
    obtain ⟨e1, e2⟩ := hsame
    rw [State.setFrames_setFrames] at e1
    have h2 : (T.setVm s.vm).sameButNew ({ U with vm := s.vm } : State) [] (0 + 1) (0 + 6) := ⟨e1, e2⟩
    have h3 := X.same.trans h2
    rw [List.append_nil] at h3
    exact h3.mono hc hs
  refine ⟨U, ?_, .threw T.heap.size, hrun, hend, Or.inr ⟨T.heap.size, rfl, cls, ce, locs, hx U hWs.alike f1 (fun q hq => f2 q hq (fun z hz => nomatch hz)), hce, hO.vm, hcl, hWs, hall, hf⟩⟩
  refine st1 _ ?_
  show Steps p.tables e below (T1.setTop { method := m, pc := pc + 3, locals := ls, stack := .ref T.heap.size :: rest, locked := none }) _
  jvm_step X₁.here [X₁.here.top, hexec, d3', Value.category]
  exact hsteps
/-- 'throw new E("text")': new; dup; ldc; invokespecial; athrow -/
theorem vx_throwS {cc : ByteArray} {pc : Nat} (hexec : p.tables.exec = Jvm.exec) (hb : c.code = cc) (hl : l.stackTraces = false) {own cls text : String} {names : List String} {ik is ic mc ms sa : Nat} {A : Nat → Prop}
    (hown : s.vm.findClass own = some m.cls) (hcls : Bundle.fit cls = true) (hnames : ∀ n ∈ names, Bundle.fit n = true)
    (hk : (Cond.classLink own ik cls).before args s = true) (hini : (Cond.initialized cls).before args s = true) (hstr : vk_R own is text sa s) (hat : ∀ w ∈ vx_atS own ic cls names, w.before args s = true)
    (hgood : ∀ w ∈ Cond.classLink own ik cls :: Cond.initialized cls :: vx_atS own ic cls names, vx_ot w = true)
    (hU : vx_Zq Bundle.tN "UNASSIGNED_STACK" Bundle.steD A s s.heap) (hN : vx_Zq Bundle.tN "SUPPRESSED_SENTINEL" Bundle.listD A s s.heap) (hS : va_S A s.heap H locs) (hsize : ls.size = c.maxLocals)
    (d0 : decode cc pc = .ok (.new ik, 3)) (d3 : decode cc (pc + 3) = .ok (.dup, 1)) (d4 : decode cc (pc + 4) = .ok (.ldc is, 2)) (d6 : decode cc (pc + 6) = .ok (.invokespecial ic, 3)) (d9 : decode cc (pc + 9) = .ok (.athrow, 1))
    (hout : ∀ x ∈ c.exceptionTable.toList, covers x (pc + 9) = false)
    (hRframes : names.length + 3 < R.frames) (hRlocals : (rest.map fun v => v.category).sum + (13 * (names.length + 1) + 43) ≤ R.locals) (hRcells : cells + 1 ≤ R.cells) (hRslots : slots + 6 ≤ R.slots) (hlocks : meth.locks = false)
    (hx : ∀ t : State, s.vm.Alike t.vm → H.size ≤ t.heap.size → (∀ q : Nat, q < H.size → t.heap[q]? = H[q]?) → XC cls s t)
    (hf : ∀ z ∈ locs, free z.base) (hc : cells + 1 ≤ mc) (hs : slots + 6 ≤ ms) :
    W p l e R s m args below meth c H locs cells slots (vx_MQ below Qc XC args s mc ms free) (F0 m pc ls rest) := by
  intro T hT X
  have htr : e.platform.stackTraces = false := (show e.platform.stackTraces = l.stackTraces by rw [X.admits.platform]).trans hl
  have Y := vx_rebase X (R' := { frames := R.frames, locals := R.locals, cells := 1, slots := 6 }) (Nat.le_refl _) (Nat.le_refl _) hRcells hRslots
  obtain ⟨s', hA⟩ : ∃ z, z = (T.setVm s.vm).setFrames (.invoking m args :: below) := ⟨_, rfl⟩
  rw [← hA] at Y
  have hvm : s'.vm = s.vm := by rw [hA]; rfl
  have hhp : s'.heap = H := by rw [hA]; exact hT
  have hW0 : s.WarmedH s'.vm := by rw [hvm]; exact State.WarmedH.refl s
  have hat' : ∀ w ∈ vx_atS own ic cls names, w.before args s' = true := fun w hw => vx_ot_at hW0 hvm.symm (hgood w (List.mem_cons_of_mem _ (List.mem_cons_of_mem _ hw))) (hat w hw)
  have hk' : (Cond.classLink own ik cls).before args s' = true := vx_ot_at hW0 hvm.symm (hgood _ List.mem_cons_self) hk
  have hini' : (Cond.initialized cls).before args s' = true := vx_ot_at hW0 hvm.symm (hgood _ (List.mem_cons_of_mem _ List.mem_cons_self)) hini
  have hU' : vx_Zq Bundle.tN "UNASSIGNED_STACK" Bundle.steD A s' s'.heap := by rw [hhp]; exact vx_Zq.moved hW0.alike (hU.kept hS.2.1)
  have hN' : vx_Zq Bundle.tN "SUPPRESSED_SENTINEL" Bundle.listD A s' s'.heap := by rw [hhp]; exact vx_Zq.moved hW0.alike (hN.kept hS.2.1)
  have h : ∀ w ∈ Bundle.ownAtoms own ic cls names, w.before args s' = true := vx_own hat' (vx_isRefq hU'.1) (vx_isRefq hN'.1) hU'.2.word hN'.2.word
  have hown' : s'.vm.findClass own = some m.cls := by rw [hvm]; exact hown
  have hins : (Cond.instantiable cls 6).before args s' = true := h _ (by simp [Bundle.ownAtoms])
  obtain ⟨vm₁, cX, kX, hfX, hkX, -, -, X₁, st1⟩ := Y.newCold hexec (own := own) (C := cls) (index := ik) (n := 6) hown' hk' hins hini'
    (g := F0 m pc ls rest) rfl (by rw [hb]; exact d0) (Nat.le_refl _) (Nat.le_refl _)
  generalize hT1 : (T.setVm vm₁).pushCell { cls := cX, slots := kX.instanceTypes.map defaultValue, vm := .none } = T1 at X₁ st1
  have hcat : (Value.ref T.heap.size).category = 1 := rfl
  have hcellA : T1.heap[T.heap.size]? = some (freshCell cX kX) := by rw [← hT1]; exact State.heap_pushCell_size _ _
  have d3' : decode c.code (pc + 3) = .ok (.dup, 1) := by rw [hb]; exact d3
  have d4' : decode c.code (pc + 4) = .ok (.ldc is, 2) := by rw [hb]; exact d4
  have hstr' : vk_R own is text sa s' := vk_R.warm hW0 hstr
  obtain ⟨U, hsteps, hrun, hend, hW, hsame, ce, hce, hO⟩ := X₁.ctorThrowS hexec htr (own := own) (cls := cls) (names := names) (ic := ic) hown' hcls hnames h (fun x hx => nomatch hx) hfX hkX hcellA (by rw [hhp, hT]; exact Nat.le_refl _) (msg := .ref sa) rfl
    (g := { method := m, pc := pc + 6, locals := ls, stack := .ref sa :: .ref T.heap.size :: .ref T.heap.size :: rest, locked := none }) rfl hsize rfl rfl (rest := rest) rfl
    (by rw [hb]; exact d6) (by rw [hb]; exact d9) hout hRframes (by simp only [List.map_cons, List.sum_cons, hcat]; omega) hlocks
  obtain ⟨f1, f2⟩ := vx_frame hsame
  rw [hhp] at f1 f2
  have hWs : s.WarmedH U.vm := State.WarmedH.trans hW0 hW
  have hcl : s.vm.findClass cls = some ce.cls := by
    have h9 := hO.cls
    rw [hvm] at h9
    exact h9
  have hall : s.sameButNew ({ U with vm := s.vm } : State) locs mc ms := by
    subst hA
    obtain ⟨e1, e2⟩ := hsame
    rw [State.setFrames_setFrames] at e1
    have h2 : (T.setVm s.vm).sameButNew ({ U with vm := s.vm } : State) [] (0 + 1) (0 + 6) := ⟨e1, e2⟩
    have h3 := X.same.trans h2
    rw [List.append_nil] at h3
    exact h3.mono hc hs
  refine ⟨U, ?_, .threw T.heap.size, hrun, hend, Or.inr ⟨T.heap.size, rfl, cls, ce, locs, hx U hWs.alike f1 (fun q hq => f2 q hq (fun z hz => nomatch hz)), hce, hO.vm, hcl, hWs, hall, hf⟩⟩
  refine st1 _ ?_
  show Steps p.tables e below (T1.setTop { method := m, pc := pc + 3, locals := ls, stack := .ref T.heap.size :: rest, locked := none }) _
  jvm_step X₁.here [X₁.here.top, hexec, d3', Value.category]
  exact X₁.ldcString hexec (own := own) (text := text) (index := is) (a := sa) hown' hstr'.1 hstr'.2
    (g := { method := m, pc := pc + 4, locals := ls, stack := .ref T.heap.size :: .ref T.heap.size :: rest, locked := none }) rfl d4' _ hsteps
/-- 'throw new E("text")', the text by a wide index -/
theorem vx_throwSW {cc : ByteArray} {pc : Nat} (hexec : p.tables.exec = Jvm.exec) (hb : c.code = cc) (hl : l.stackTraces = false) {own cls text : String} {names : List String} {ik is ic mc ms sa : Nat} {A : Nat → Prop}
    (hown : s.vm.findClass own = some m.cls) (hcls : Bundle.fit cls = true) (hnames : ∀ n ∈ names, Bundle.fit n = true)
    (hk : (Cond.classLink own ik cls).before args s = true) (hini : (Cond.initialized cls).before args s = true) (hstr : vk_R own is text sa s) (hat : ∀ w ∈ vx_atS own ic cls names, w.before args s = true)
    (hgood : ∀ w ∈ Cond.classLink own ik cls :: Cond.initialized cls :: vx_atS own ic cls names, vx_ot w = true)
    (hU : vx_Zq Bundle.tN "UNASSIGNED_STACK" Bundle.steD A s s.heap) (hN : vx_Zq Bundle.tN "SUPPRESSED_SENTINEL" Bundle.listD A s s.heap) (hS : va_S A s.heap H locs) (hsize : ls.size = c.maxLocals)
    (d0 : decode cc pc = .ok (.new ik, 3)) (d3 : decode cc (pc + 3) = .ok (.dup, 1)) (d4 : decode cc (pc + 4) = .ok (.ldc_w is, 3)) (d7 : decode cc (pc + 7) = .ok (.invokespecial ic, 3)) (d10 : decode cc (pc + 10) = .ok (.athrow, 1))
    (hout : ∀ x ∈ c.exceptionTable.toList, covers x (pc + 10) = false)
    (hRframes : names.length + 3 < R.frames) (hRlocals : (rest.map fun v => v.category).sum + (13 * (names.length + 1) + 43) ≤ R.locals) (hRcells : cells + 1 ≤ R.cells) (hRslots : slots + 6 ≤ R.slots) (hlocks : meth.locks = false)
    (hx : ∀ t : State, s.vm.Alike t.vm → H.size ≤ t.heap.size → (∀ q : Nat, q < H.size → t.heap[q]? = H[q]?) → XC cls s t)
    (hf : ∀ z ∈ locs, free z.base) (hc : cells + 1 ≤ mc) (hs : slots + 6 ≤ ms) :
    W p l e R s m args below meth c H locs cells slots (vx_MQ below Qc XC args s mc ms free) (F0 m pc ls rest) := by
  intro T hT X
  have htr : e.platform.stackTraces = false := (show e.platform.stackTraces = l.stackTraces by rw [X.admits.platform]).trans hl
  have Y := vx_rebase X (R' := { frames := R.frames, locals := R.locals, cells := 1, slots := 6 }) (Nat.le_refl _) (Nat.le_refl _) hRcells hRslots
  obtain ⟨s', hA⟩ : ∃ z, z = (T.setVm s.vm).setFrames (.invoking m args :: below) := ⟨_, rfl⟩
  rw [← hA] at Y
  have hvm : s'.vm = s.vm := by rw [hA]; rfl
  have hhp : s'.heap = H := by rw [hA]; exact hT
  have hW0 : s.WarmedH s'.vm := by rw [hvm]; exact State.WarmedH.refl s
  have hat' : ∀ w ∈ vx_atS own ic cls names, w.before args s' = true := fun w hw => vx_ot_at hW0 hvm.symm (hgood w (List.mem_cons_of_mem _ (List.mem_cons_of_mem _ hw))) (hat w hw)
  have hk' : (Cond.classLink own ik cls).before args s' = true := vx_ot_at hW0 hvm.symm (hgood _ List.mem_cons_self) hk
  have hini' : (Cond.initialized cls).before args s' = true := vx_ot_at hW0 hvm.symm (hgood _ (List.mem_cons_of_mem _ List.mem_cons_self)) hini
  have hU' : vx_Zq Bundle.tN "UNASSIGNED_STACK" Bundle.steD A s' s'.heap := by rw [hhp]; exact vx_Zq.moved hW0.alike (hU.kept hS.2.1)
  have hN' : vx_Zq Bundle.tN "SUPPRESSED_SENTINEL" Bundle.listD A s' s'.heap := by rw [hhp]; exact vx_Zq.moved hW0.alike (hN.kept hS.2.1)
  have h : ∀ w ∈ Bundle.ownAtoms own ic cls names, w.before args s' = true := vx_own hat' (vx_isRefq hU'.1) (vx_isRefq hN'.1) hU'.2.word hN'.2.word
  have hown' : s'.vm.findClass own = some m.cls := by rw [hvm]; exact hown
  have hins : (Cond.instantiable cls 6).before args s' = true := h _ (by simp [Bundle.ownAtoms])
  obtain ⟨vm₁, cX, kX, hfX, hkX, -, -, X₁, st1⟩ := Y.newCold hexec (own := own) (C := cls) (index := ik) (n := 6) hown' hk' hins hini'
    (g := F0 m pc ls rest) rfl (by rw [hb]; exact d0) (Nat.le_refl _) (Nat.le_refl _)
  generalize hT1 : (T.setVm vm₁).pushCell { cls := cX, slots := kX.instanceTypes.map defaultValue, vm := .none } = T1 at X₁ st1
  have hcat : (Value.ref T.heap.size).category = 1 := rfl
  have hcellA : T1.heap[T.heap.size]? = some (freshCell cX kX) := by rw [← hT1]; exact State.heap_pushCell_size _ _
  have d3' : decode c.code (pc + 3) = .ok (.dup, 1) := by rw [hb]; exact d3
  have d4' : decode c.code (pc + 4) = .ok (.ldc_w is, 3) := by rw [hb]; exact d4
  have hstr' : vk_R own is text sa s' := vk_R.warm hW0 hstr
  obtain ⟨U, hsteps, hrun, hend, hW, hsame, ce, hce, hO⟩ := X₁.ctorThrowS hexec htr (own := own) (cls := cls) (names := names) (ic := ic) hown' hcls hnames h (fun x hx => nomatch hx) hfX hkX hcellA (by rw [hhp, hT]; exact Nat.le_refl _) (msg := .ref sa) rfl
    (g := { method := m, pc := pc + 7, locals := ls, stack := .ref sa :: .ref T.heap.size :: .ref T.heap.size :: rest, locked := none }) rfl hsize rfl rfl (rest := rest) rfl
    (by rw [hb]; exact d7) (by rw [hb]; exact d10) hout hRframes (by simp only [List.map_cons, List.sum_cons, hcat]; omega) hlocks
  obtain ⟨f1, f2⟩ := vx_frame hsame
  rw [hhp] at f1 f2
  have hWs : s.WarmedH U.vm := State.WarmedH.trans hW0 hW
  have hcl : s.vm.findClass cls = some ce.cls := by
    have h9 := hO.cls
    rw [hvm] at h9
    exact h9
  have hall : s.sameButNew ({ U with vm := s.vm } : State) locs mc ms := by
    subst hA
    obtain ⟨e1, e2⟩ := hsame
    rw [State.setFrames_setFrames] at e1
    have h2 : (T.setVm s.vm).sameButNew ({ U with vm := s.vm } : State) [] (0 + 1) (0 + 6) := ⟨e1, e2⟩
    have h3 := X.same.trans h2
    rw [List.append_nil] at h3
    exact h3.mono hc hs
  refine ⟨U, ?_, .threw T.heap.size, hrun, hend, Or.inr ⟨T.heap.size, rfl, cls, ce, locs, hx U hWs.alike f1 (fun q hq => f2 q hq (fun z hz => nomatch hz)), hce, hO.vm, hcl, hWs, hall, hf⟩⟩
  refine st1 _ ?_
  show Steps p.tables e below (T1.setTop { method := m, pc := pc + 3, locals := ls, stack := .ref T.heap.size :: rest, locked := none }) _
  jvm_step X₁.here [X₁.here.top, hexec, d3', Value.category]
  exact X₁.ldcStringW hexec (own := own) (text := text) (index := is) (a := sa) hown' hstr'.1 hstr'.2
    (g := { method := m, pc := pc + 4, locals := ls, stack := .ref T.heap.size :: .ref T.heap.size :: rest, locked := none }) rfl d4' _ hsteps
end Ends
section Bodies
variable {l : Launch}
theorem vx_ofW {y : MethodName} {ws ws' : List Cond} {rm : Room} {Pc : Array Value → State → Prop} {Qc : Array Value → State → Outcome → State → Prop} {XC : String → State → State → Prop} {mc ms : Nat} {free : Addr → Prop} {cc : ByteArray} {maxL : Nat} {ret : Option FieldType}
    (hy : plainName y.cls = true) (hw : ws = Cond.code y cc maxL ret :: ws')
    (body : ∀ p e s m args below meth c s₁, BodyLoose p l y (headSpec ws rm) cc maxL ret e s m args below meth c s₁ → c.maxLocals = maxL → (∀ x ∈ c.exceptionTable.toList, False) → Pc args s →
      W p l e (headSpec ws rm).room s m args below meth c s.heap [] 0 0 (vx_MQ below Qc XC args s mc ms free) (entryFrame m args maxL)) : vx_Met l y ws rm Pc Qc XC mc ms free := by
  refine MetFree.of_bodyS (code := cc) (maxLocals := maxL) (ret := ret) hy ?_ ?_
  · intro args s m h hn
    obtain ⟨meth, c, h1, h2, h3, h4, h5, h6, -, -⟩ := Cond.code_spec hn (atoms_spec (ws := ws) h _ (by rw [hw]; exact List.mem_cons_self))
    exact ⟨meth, c, h1, h2, h3, h4, h5, h6⟩
  · intro p e s m args below meth c s₁ B hml hP _
    have hh0 : s₁.heap = s.heap := by rw [B.state]; rfl
    have ht : ∀ x ∈ c.exceptionTable.toList, False := by
      obtain ⟨meth9, c9, h1, h2, -, -, -, -, h7, -⟩ := Cond.code_spec B.named (atoms_spec (ws := ws) B.pre _ (by rw [hw]; exact List.mem_cons_self))
      cases Option.some.inj (h1.symm.trans B.method)
      cases Option.some.inj (h2.symm.trans (Stand.of_body B).code)
      intro x hx
      rw [Array.isEmpty_iff.mp h7] at hx
      cases hx
    obtain ⟨t, a1, o, b1, b2, b3⟩ := body p e s m args below meth c s₁ B hml ht hP s₁ hh0 (Stand.of_body B)
    exact ⟨t, o, a1, b1, b2, b3⟩
/-- the table of a body with handlers -/
theorem vx_table {p : Program} {x y : MethodName} {S : Spec} {cc bytes : ByteArray} {maxL maxL' : Nat} {ret ret' : Option FieldType} {e : Env} {s s₁ : State} {m : MethodId} {args : Array Value} {below : List Frame} {meth : Method} {c : Code} {hh : List (Nat × Nat × Nat × Nat)}
    (B : BodyLoose p l y S cc maxL ret e s m args below meth c s₁) (h : (Cond.codeWith y bytes maxL' ret' hh).before args s = true) : c.exceptionTable.toList = tableOf hh := by
  obtain ⟨m9, meth9, c9, hn9, h1, h2, -, -, h6, -⟩ := Cond.codeWith_spec h
  cases Option.some.inj (hn9.symm.trans B.named)
  cases Option.some.inj (h1.symm.trans B.method)
  cases Option.some.inj (h2.symm.trans (Stand.of_body B).code)
  rw [← h6, table_eq]
end Bodies
end VXA
/-! ===== END ===== -/
/-! ===== BEGIN a static call of a method with an exception table ===== -/
section VXS
variable {p : Program} {l : Launch} {e : Env} {R : Room} {s : State} {m : MethodId} {args : Array Value} {below : List Frame} {meth : Method} {c : Code} {T : State} {H : Heap} {locs : List Loc} {cells slots : Nat}
abbrev vx_CSW (R : Room) (s : State) (args : Array Value) (own : String) (index : Nat) (y : MethodName) (bytes : ByteArray) (maxL : Nat) (ret : Option FieldType) (hh : List (Nat × Nat × Nat × Nat)) (ws : List Cond) (rm : Room) (mc ms n : Nat) : Prop :=
  (rm.cells = mc ∧ rm.slots = ms ∧ rm.frames + 1 ≤ R.frames ∧ 8 + (maxL + 11) + rm.locals ≤ R.locals ∧ (∀ w ∈ ws, ∀ (a' : Array Value) (U : State), s.WarmedH U.vm → w.before a' U = true) ∧ Cond.codeWith y bytes maxL ret hh ∈ ws) ∧
  (Cond.codeWith y bytes maxL ret hh).before args s = true ∧ (Cond.initialized y.cls).before args s = true ∧ (y.cls ≠ "java/lang/invoke/MethodHandle" ∧ y.cls ≠ "java/lang/invoke/VarHandle") ∧
  (∀ sig, parseMethodDescriptor y.desc = some sig → n = sig.parameters.length) ∧ (Cond.methodLink own index y).before args s = true ∧ (Cond.static y).before args s = true
theorem vx_cwSW {own : String} {index maxL mc ms : Nat} {y : MethodName} {bytes : ByteArray} {ret : Option FieldType} {hh : List (Nat × Nat × Nat × Nat)} {Ts ws ws' : List Cond} {rm : Room} (n : Nat) (ht : ∀ w ∈ Ts, w.before args s = true) (hT : GoodIn Ts (va_wsS own index y ws)) (hw : ws = Cond.codeWith y bytes maxL ret hh :: ws') (hrc : rm.cells = mc) (hrs : rm.slots = ms)
    (hd : y.cls ≠ "java/lang/invoke/MethodHandle" ∧ y.cls ≠ "java/lang/invoke/VarHandle" ∧ (parseMethodDescriptor y.desc).map (fun d => d.parameters.length) = some n) (hR : rm.frames + 1 ≤ R.frames ∧ 8 + (maxL + 11) + rm.locals ≤ R.locals) :
    vx_CSW R s args own index y bytes maxL ret hh ws rm mc ms n := by
  have ok : ∀ w ∈ va_wsS own index y ws, w.before args s = true := fun w h => ht w (hT w h).1
  have hG : GoodIn Ts ws := fun w h => hT w (by unfold va_wsS; exact List.mem_append_right _ h)
  have hc : Cond.codeWith y bytes maxL ret hh ∈ ws := by rw [hw]; exact List.mem_cons_self
  refine ⟨⟨hrc, hrs, hR.1, hR.2, pay_in ht hG, hc⟩, ht _ (hG _ hc).1, ok _ (by simp [va_wsS]), ⟨hd.1, hd.2.1⟩, fun sig h => ?_, ok _ (by simp [va_wsS]), ok _ (by simp [va_wsS])⟩
  have h2 := hd.2.2
  rw [h] at h2
  exact (Option.some.inj h2).symm
theorem vx_callSW (X : Stand p l e R s m args below meth c T locs cells slots) (hexec : p.tables.exec = Jvm.exec) {own : String} {index : Nat} {y : MethodName} {bytes : ByteArray} {maxL : Nat} {ret : Option FieldType} {hh : List (Nat × Nat × Nat × Nat)}
    (hown : s.vm.findClass own = some m.cls) (hlink : (Cond.methodLink own index y).before args s = true) (hstat : (Cond.static y).before args s = true) (hinit : (Cond.initialized y.cls).before args s = true)
    (hcode : (Cond.codeWith y bytes maxL ret hh).before args s = true) (hy : y.cls ≠ "java/lang/invoke/MethodHandle" ∧ y.cls ≠ "java/lang/invoke/VarHandle")
    {W9 : Nat} {Pre : Pt → Array Value → Prop} {Post : Pt → Array Value → Option Value → Pt → Prop} (hK : Back l R p e below s args y 3 W9 Pre Post)
    {g : JFrame} (hg : g.method = m) (hsize : g.locals.size = c.maxLocals) {argsL rest : List Value} (hlen : ∀ sig, parseMethodDescriptor y.desc = some sig → argsL.length = sig.parameters.length)
    (hstack : g.stack = argsL.reverse ++ rest) (hW : 2 * g.monitorRoom + (rest.map fun v => v.category).sum ≤ W9) (hdg : decode c.code g.pc = .ok (.invokestatic index, 3))
    (hpre : ∀ vm₁, s.WarmedH vm₁ → Pre ⟨T.setVm vm₁, locs, cells, slots⟩ argsL.toArray) :
    ∃ (v : Option Value) (vm₁ : Vm) (B : Pt), s.WarmedH vm₁ ∧ Stand p l e R s m args below meth c B.U B.locs B.cells B.slots ∧ Post ⟨T.setVm vm₁, locs, cells, slots⟩ argsL.toArray v B ∧
      ∀ target, Steps p.tables e below (B.U.setTop { g with pc := g.pc + 3, stack := v.toList ++ rest }) target → Steps p.tables e below (T.setTop g) target := by
  obtain ⟨mk, methM, cM, hnamed, hmethM, -, -, -, -, -, -, hsigM⟩ := Cond.codeWith_spec hcode
  have hstatic : methM.isStatic = true := Cond.static_spec hnamed hmethM hstat
  obtain ⟨kP, hkP, -⟩ := className_of_methodNamed hnamed
  have hinitP : kP.init = .initialized := Cond.initialized_spec (findClass_of_methodNamed hnamed) hkP hinit
  obtain ⟨vm₁, X₁, hstep₁⟩ := X.invokestatic hexec hown hlink hnamed hmethM hstatic hkP hinitP hy (g := g) hg (argsL := argsL) (rest := rest) (hlen _ hsigM) hstack hdg
  obtain ⟨v, B, X', hpost, hsteps⟩ := hK m meth c ⟨T.setVm vm₁, locs, cells, slots⟩ { g with stack := rest } (.invokestatic index) mk argsL.toArray X₁ hg hsize hdg hW (X₁.named hnamed) (hpre vm₁ X₁.warmed)
  exact ⟨v, vm₁, B, X₁.warmed, X', hpost, fun target h => hstep₁ _ fun acts => by rw [doInvoke_state]; exact hsteps.trans h⟩
theorem vx_runSW {y : MethodName} {bytes cc : ByteArray} {maxL nL mc ms n index : Nat} {ret : Option FieldType} {hh : List (Nat × Nat × Nat × Nat)} {ws : List Cond} {rm : Room} {Pc : Array Value → State → Prop} {Qc : Array Value → State → Outcome → State → Prop} {free : Addr → Prop} {Ts : List Cond} {own : String} {As rest : List Value} {g : JFrame}
    (S : CallFix p m c cc nL s args Ts own) (hM : Met l y ws rm Pc Qc mc ms free) (cw : vx_CSW R s args own index y bytes maxL ret hh ws rm mc ms n) (hp : PreS s H Pc As)
    (hg : g.method = m) (hn : As.length = n) (hsize : g.locals.size = nL) (hstack : g.stack = As.reverse ++ rest) (hW : 2 * g.monitorRoom + (rest.map fun v => v.category).sum ≤ 8) (hdg : decode cc g.pc = .ok (.invokestatic index, 3)) (hf : cells + mc ≤ R.cells ∧ slots + ms ≤ R.slots) :
    va_Run p l e R s m args below meth c H locs cells slots mc ms g rest (Qc As.toArray) (free) := by
  obtain ⟨⟨hrc, hrs, hfr, hlo, hws, hcw⟩, hcode, hini, hy, hlen, hl, hstt⟩ := cw
  have hK : Back l R p e below s args y 3 8 (PreOf R mc ms Pc) (PostOf Qc mc ms free) := va_backW (hh := hh) (bytes := bytes) (maxL := maxL) (ret := ret) hM hp.1 hrc hrs hfr hlo hws hcw (fun a' U hW => word_at hW (Or.inl (by first | rfl | simp [Cond.onTables, Cond.keeps, Cond.steady])) hini)
  obtain ⟨hx, hb, hml, ho, -⟩ := S
  intro T hT X
  obtain ⟨v, vm₁, ⟨U', l2, c2, s2⟩, hW₁, X', ⟨g', mk, t, L, e1, e2, hq, h1, hL, h2, h3⟩, st⟩ := vx_callSW X hx (hh := hh) (bytes := bytes) (maxL := maxL) (ret := ret) ho hl hstt hini hcode hy hK hg (hsize.trans hml.symm) (argsL := As) (rest := rest) (fun sig h => hn.trans (hlen sig h)) hstack hW (by rw [hb]; exact hdg)
    (fun vm₁ hW₁ => ⟨hf.1, hf.2, hp.2 (T.setVm vm₁) hT hW₁⟩)
  dsimp only [Pt.U, Pt.locs, Pt.cells, Pt.slots] at X' e1 e2 h1 h2 h3 st
  subst h1; subst h2; subst h3
  exact ⟨v, (T.setVm vm₁).calling g' mk As.toArray, t, U', L, hT, X', hL, e1, e2, hq, st⟩
/-- not caught here, past rows that name other classes: it goes on to the caller -/
theorem vx_outP {p : Program} {l : Launch} {e : Env} {R : Room} {s : State} {m : MethodId} {args : Array Value} {below : List Frame} {meth : Method} {c : Code} {H : Heap} {locs : List Loc} {cells slots : Nat} {free : Addr → Prop} {ls : Array Slot} {rest : List Value} {Qc : Array Value → State → Outcome → State → Prop} {XC : String → State → State → Prop}
    {pc : Nat} {own E : String} {ce : Cell} {q : Addr} {mc ms : Nat} (hown : s.vm.findClass own = some m.cls) (hlocks : meth.locks = false)
    (hpass : ∀ z ∈ c.exceptionTable.toList, covers z pc = false ∨ (z.catchType ≠ 0 ∧ ∃ nm : String, (Cond.classLink own z.catchType nm).before args s = true ∧ va_Nc E nm s)) (hcell : H[q]? = some ce) (hv : ce.vm = .none) (hcl : s.vm.findClass E = some ce.cls)
    (hx : ∀ t : State, t.heap = H → s.vm.Alike t.vm → XC E s t) (hf : ∀ z ∈ locs, free z.base) (hc : cells ≤ mc) (hs : slots ≤ ms) :
    vx_W p l e R s m args below meth c H locs cells slots (vx_MQ below Qc XC args s mc ms free) (F0 m pc ls rest) q := by
  intro T hT X
  have hpl : e.platform.magicAccessors = ({} : Platform).magicAccessors := by rw [X.admits.platform]
  obtain ⟨vm', hW', X', st⟩ := X.outThrough hlocks q (g := F0 m pc ls rest) rfl rfl rfl (cell := ce) (by rw [hT]; exact hcell) (by rw [hv]; rfl)
    (by obtain ⟨k9, h9, -⟩ := Vm.findClass_spec hcl; exact ⟨k9, h9⟩) (fun z hz => by
      rcases hpass z hz with h | ⟨hz0, nm, hl1, hn1⟩
      · exact Or.inl h
      · obtain ⟨c6, hc6, hcl6⟩ := Cond.classLink_spec hown hl1 e.platform hpl
        obtain ⟨a8, b8, h1, h2, h3⟩ := hn1
        cases Option.some.inj (h1.symm.trans hcl)
        cases Option.some.inj (h2.symm.trans hc6)
        exact Or.inr ⟨hz0, _, hcl6, h3⟩)
  obtain ⟨g₀, hfr⟩ := X'.frames_eq
  have hcell9 : ((T.setVm vm').setFrames (.throwing q :: below)).heap[q]? = some ce := by
    show T.heap[q]? = some ce
    rw [hT]; exact hcell
  have hend : Ended ((T.setVm vm').setFrames (.throwing q :: below)) below (.threw q) := State.frames_setFrames _ (State.cur_lt_of_frames hfr)
  refine ⟨(T.setVm vm').setFrames (.throwing q :: below), ?_, .threw q, X'.here.running, hend, Or.inr ⟨q, rfl, E, ce, locs, hx _ hT (X'.ends _).1.alike, hcell9, hv, hcl, (X'.ends _).1, (X'.ends _).2.mono hc hs, hf⟩⟩
  rw [X.pushThrowing_eq]
  exact st
/-- a thing of a world lies in the heap -/
theorem vx_lt {D : va_G} {cl : List vw_C} {ws : va_W} {H1 : Heap} (h : va_P D cl ws H1) {k : Nat} {q : Nat × va_E} (hk : ws[k]? = some q) : q.1 < H1.size := (h k q hk).lt
end VXS
/-! ===== END ===== -/
/-! ===== BEGIN methods with a table of their own: called by a name, returning or throwing ===== -/
section VXH
/-! vx_backW, vx_callVX, vx_callSX, vx_callVW, vx_runVW, vx_runVX, vx_runSX, vx_ofWH follow the same proofs as their sisters above (Free/Laws.lean, Shelf42/LK1.lean); vx_outP calls Shelf42/NT130.lean (outThrough). -/
section
variable {l : Launch} {R : Room} {p : Program} {e : Env} {below : List Frame} {s : State} {sargs : Array Value} {y : MethodName} {len W9 : Nat}
theorem vx_backW {ws : List Cond} {rm : Room} {Pc : Array Value → State → Prop} {Qc : Array Value → State → Outcome → State → Prop} {XC : String → State → State → Prop} {mc ms : Nat} {free : Addr → Prop} {bytes : ByteArray} {maxL : Nat} {ret : Option FieldType} {hh : List (Nat × Nat × Nat × Nat)}
    (hM : vx_Met l y ws rm Pc Qc XC mc ms free) (hblind : FrameBlind Pc) (hrc : rm.cells = mc) (hrs : rm.slots = ms)
    (hframes : rm.frames + 1 ≤ R.frames) (hlocals : W9 + (maxL + 11) + rm.locals ≤ R.locals)
    (hws : ∀ w ∈ ws, ∀ a' U, s.WarmedH U.vm → w.before a' U = true) (hcode : Cond.codeWith y bytes maxL ret hh ∈ ws) (hinit : ∀ a' U, s.WarmedH U.vm → (Cond.initialized y.cls).before a' U = true) :
    vx_Back l R p e below s sargs y len W9 (PreOf R mc ms Pc) (PostOf Qc mc ms free) (vx_Post XC mc ms free) := by
  intro m meth c A g ig mk a X hg hsize hdg hW hn hp
  have h1 : (headSpec ws rm).pre.before a A.U = true := atoms_intro fun w hw => hws w hw _ _ X.warmed
  have h2 : (Cond.codeWith y bytes maxL ret hh).before a A.U = true := hws _ hcode _ _ X.warmed
  have h3 : (Cond.initialized y.cls).before a A.U = true := hinit _ _ X.warmed
  have h4 : A.cells + (headSpec ws rm).room.cells ≤ R.cells := by rw [show (headSpec ws rm).room.cells = mc from hrc]; exact hp.1
  have h5 : A.slots + (headSpec ws rm).room.slots ≤ R.slots := by rw [show (headSpec ws rm).room.slots = ms from hrs]; exact hp.2.1
  have hPc : Pc a (A.U.calling g mk a) := hblind _ _ _ _ hp.2.2
  obtain ⟨U, Ls, c0, s0⟩ := A
  dsimp only [Pt.U, Pt.locs, Pt.cells, Pt.slots] at h1 h2 h3 h4 h5 X hn hPc ⊢
  obtain ⟨m9, methY, cY, hn9, hmY, hcY, -, hlY, -⟩ := Cond.codeWith_spec h2
  cases Option.some.inj (hn9.symm.trans hn)
  obtain ⟨kY, hkY, -⟩ := className_of_methodNamed hn
  have hinitY : kY.init = .initialized := Cond.initialized_spec (findClass_of_methodNamed hn) hkY h3
  have h : At U g.method c below := by rw [hg]; exact X.here
  have hlocals9 : W9 + (maxL + 11) + (headSpec ws rm).room.locals ≤ R.locals := hlocals
  have happ : (headSpec ws rm).appliesLoose y e.platform (U.calling g mk a) = true :=
    Spec.appliesLoose_calling (g := g) h hdg hn hkY hinitY
      (X.room_calling (g := g) (R' := (headSpec ws rm).room) hsize hmY hcY hframes (by rw [hlY]; omega) h4 h5) h1
  obtain ⟨mid, hmid⟩ := h.above
  have hfr : (U.setTop g).frames = (.java g :: mid) ++ below := by rw [State.frames_setTop' g h.top, hmid]; rfl
  obtain ⟨o, s₂, hsteps, -, hend, hq⟩ := Steps.callFree hM p X.admits X.cas X.clock (acts := []) hfr happ hPc trivial
  have hq' : vx_Q Qc XC mc ms free a (U.calling g mk a) o s₂ := hq
  rw [State.frames_setTop' g h.top] at hend
  obtain ⟨g₀, hg0⟩ := Option.isSome_iff_exists.mp h.top
  obtain ⟨r, hr⟩ := State.topJava?_eq_some.mp hg0
  have hr' : (({ U with heap := s₂.heap, slotsUsed := s₂.slotsUsed } : State).setVm s₂.vm).frames = .java g₀ :: r := hr
  rcases hq' with ⟨hqc, L, hfe, hL⟩ | ⟨q, rfl, E, ce, L, hx, hce, hcv, hcl, hW₂, hsm, hL⟩
  · obtain ⟨⟨v, rfl⟩, hW₂, e2, q2, q3, q4, q5, q6⟩ := id hfe
    have e3 : s₂ = ({ (U.calling g mk a).setFrames s₂.frames with heap := s₂.heap, slotsUsed := s₂.slotsUsed } : State).setVm s₂.vm := by
      have : s₂ = ({ s₂ with vm := (U.calling g mk a).vm } : State).setVm s₂.vm := rfl
      rw [e2] at this
      exact this
    obtain ⟨c₂, i₂, len₂, hc₂, hd₂, hf₂⟩ := hend
    have hW' : U.WarmedH s₂.vm := hW₂
    have hcc : c₂ = c := by
      have h1 : s₂.code? g.method = U.code? g.method := by
        rw [State.code?_eq, State.code?_eq, hW'.alike.method?]
      exact Option.some.inj (hc₂.symm.trans (h1.trans h.code))
    subst hcc
    have hlen : len₂ = len := by rw [hdg] at hd₂; cases hd₂; rfl
    subst hlen
    have hs₂ : s₂ = (({ U with heap := s₂.heap, slotsUsed := s₂.slotsUsed } : State).setVm s₂.vm).setTop { g with pc := g.pc + len₂, stack := v.toList ++ g.stack } := by
      refine e3.trans ?_
      rw [hf₂, State.calling_eq h.top, State.setFrames_setFrames, State.setTop_of_frames _ hr', hr]
      rfl
    have hsame : U.sameButNew ({ U with heap := s₂.heap, slotsUsed := s₂.slotsUsed } : State) L mc ms := by
      refine ⟨?_, q2, q3, q4, q5, q6⟩
      obtain ⟨t, ht, -⟩ := State.frames_cons hr
      show ({ U with heap := s₂.heap, slotsUsed := s₂.slotsUsed } : State) = { U.setFrames U.frames with heap := s₂.heap, slotsUsed := s₂.slotsUsed }
      rw [State.setFrames_self ht]
    subst hg
    refine Or.inl ⟨v, ⟨(({ U with heap := s₂.heap, slotsUsed := s₂.slotsUsed } : State).setVm s₂.vm), Ls ++ L, c0 + mc, s0 + ms⟩,
      ⟨X.admits, X.cas, X.clock, X.frames, X.room, X.hears, X.method, X.code, (X.here.setHeapUsed s₂.heap s₂.slotsUsed).setVm hW'.alike, X.tail, State.WarmedH.trans X.warmed hW', X.limits, X.bytes, X.same.trans (hsame.setVm s.vm)⟩,
      ⟨g, mk, s₂, L, rfl, rfl, hqc, rfl, hL, rfl, rfl⟩, ?_⟩
    show Steps p.tables e below _ ((({ U with heap := s₂.heap, slotsUsed := s₂.slotsUsed } : State).setVm s₂.vm).setTop { g with pc := g.pc + len₂, stack := v.toList ++ g.stack })
    rw [← hs₂]
    exact hsteps
  · obtain ⟨e2, q2, q3, q4, q5, q6⟩ := id hsm
    have e3 : s₂ = ({ (U.calling g mk a).setFrames s₂.frames with heap := s₂.heap, slotsUsed := s₂.slotsUsed } : State).setVm s₂.vm := by
      have : s₂ = ({ s₂ with vm := (U.calling g mk a).vm } : State).setVm s₂.vm := rfl
      rw [e2] at this
      exact this
    have hf₂ : s₂.frames = .throwing q :: .java g :: U.frames.tail := hend
    have hW' : U.WarmedH s₂.vm := hW₂
    have hs₂ : s₂ = ((({ U with heap := s₂.heap, slotsUsed := s₂.slotsUsed } : State).setVm s₂.vm).setTop g).pushFrame (.throwing q) := by
      refine e3.trans ?_
      rw [hf₂, State.calling_eq h.top, State.setFrames_setFrames, State.pushFrame, State.frames_setTop _ hr', State.setTop_of_frames _ hr', State.setFrames_setFrames, hr]
      rfl
    have hsame : U.sameButNew ({ U with heap := s₂.heap, slotsUsed := s₂.slotsUsed } : State) L mc ms := by
      refine ⟨?_, q2, q3, q4, q5, q6⟩
      obtain ⟨t, ht, -⟩ := State.frames_cons hr
      show ({ U with heap := s₂.heap, slotsUsed := s₂.slotsUsed } : State) = { U.setFrames U.frames with heap := s₂.heap, slotsUsed := s₂.slotsUsed }
      rw [State.setFrames_self ht]
    subst hg
    refine Or.inr ⟨q, ⟨(({ U with heap := s₂.heap, slotsUsed := s₂.slotsUsed } : State).setVm s₂.vm), Ls ++ L, c0 + mc, s0 + ms⟩,
      ⟨X.admits, X.cas, X.clock, X.frames, X.room, X.hears, X.method, X.code, (X.here.setHeapUsed s₂.heap s₂.slotsUsed).setVm hW'.alike, X.tail, State.WarmedH.trans X.warmed hW', X.limits, X.bytes, X.same.trans (hsame.setVm s.vm)⟩,
      ⟨g, mk, s₂, L, E, ce, rfl, rfl, hx, hce, hcv, hcl, rfl, hL, rfl, rfl⟩, ?_⟩
    show Steps p.tables e below _ (((({ U with heap := s₂.heap, slotsUsed := s₂.slotsUsed } : State).setVm s₂.vm).setTop g).pushFrame (.throwing q))
    rw [← hs₂]
    exact hsteps
end
variable {p : Program} {l : Launch} {e : Env} {R : Room} {s : State} {m : MethodId} {args : Array Value} {below : List Frame} {meth : Method} {c : Code} {T : State} {H : Heap} {locs : List Loc} {cells slots : Nat}
theorem vx_callVX (X : Stand p l e R s m args below meth c T locs cells slots) (hexec : p.tables.exec = Jvm.exec) {own C : String} {index : Nat} {y : MethodName} {bytes : ByteArray} {maxL : Nat} {ret : Option FieldType} {hh : List (Nat × Nat × Nat × Nat)}
    (hown : s.vm.findClass own = some m.cls) (hlink : (Cond.methodLink own index y).before args s = true) (hinst : (Cond.instanceMethod y).before args s = true) (hsel : (Cond.selects C y y).before args s = true)
    (hcode : (Cond.codeWith y bytes maxL ret hh).before args s = true) (hy : y.cls ≠ "java/lang/invoke/MethodHandle" ∧ y.cls ≠ "java/lang/invoke/VarHandle")
    {W9 : Nat} {Pre : Pt → Array Value → Prop} {Post : Pt → Array Value → Option Value → Pt → Prop} {PostX : Pt → Array Value → Addr → Pt → Prop} (hK : vx_Back l R p e below s args y 3 W9 Pre Post PostX)
    {b : Addr} {cellB : Cell} (hcell : T.heap[b]? = some cellB) (hobj : cellB.vm.isStatics = false) (hcls : s.vm.findClass C = some cellB.cls)
    {g : JFrame} (hg : g.method = m) (hsize : g.locals.size = c.maxLocals) {argsL rest : List Value} (hlen : ∀ sig, parseMethodDescriptor y.desc = some sig → argsL.length = sig.parameters.length)
    (hstack : g.stack = argsL.reverse ++ .ref b :: rest) (hW : 2 * g.monitorRoom + (rest.map fun v => v.category).sum ≤ W9) (hdg : decode c.code g.pc = .ok (.invokevirtual index, 3))
    (hpre : ∀ vm₁, s.WarmedH vm₁ → Pre ⟨T.setVm vm₁, locs, cells, slots⟩ (Value.ref b :: argsL).toArray) :
    (∃ (v : Option Value) (vm₁ : Vm) (B : Pt), s.WarmedH vm₁ ∧ Stand p l e R s m args below meth c B.U B.locs B.cells B.slots ∧ Post ⟨T.setVm vm₁, locs, cells, slots⟩ (Value.ref b :: argsL).toArray v B ∧
      ∀ target, Steps p.tables e below (B.U.setTop { g with pc := g.pc + 3, stack := v.toList ++ rest }) target → Steps p.tables e below (T.setTop g) target) ∨
    (∃ (q : Addr) (vm₁ : Vm) (B : Pt), s.WarmedH vm₁ ∧ Stand p l e R s m args below meth c B.U B.locs B.cells B.slots ∧ PostX ⟨T.setVm vm₁, locs, cells, slots⟩ (Value.ref b :: argsL).toArray q B ∧
      Steps p.tables e below (T.setTop g) ((B.U.setTop { g with stack := rest }).pushFrame (.throwing q))) := by
  obtain ⟨mk, methM, hnamed, hmethM, hstM, habM⟩ := Cond.instanceMethod_spec hinst
  obtain ⟨m8, methM', cM, hn8, hmethM', -, -, -, -, -, -, hsigM⟩ := Cond.codeWith_spec hcode
  cases Option.some.inj (hn8.symm.trans hnamed)
  cases hmethM.symm.trans hmethM'
  obtain ⟨c2, r2, m2, q1, q2, q3, q4, kP, hkP, hkPi⟩ := Cond.selects_spec hsel
  cases hcls.symm.trans q1
  cases (State.methodFound?_of_named hnamed hy).symm.trans q2
  cases hnamed.symm.trans q3
  have hselP : selectMethod e.platform s.vm cellB.cls mk = .method mk := by rw [Launch.admits_selectMethod X.admits]; exact q4
  obtain ⟨vm₁, X₁, hstep₁⟩ := X.invokevirtual hexec hown hlink hnamed hmethM hstM hkP hkPi hy (a := b) (cell := cellB) hcell
    (fun z h => by rw [h] at hobj; cases hobj) hselP hmethM habM hkP hkPi (g := g) hg (argsL := argsL) (rest := rest) (hlen _ hsigM) hstack hdg
  rcases hK m meth c ⟨T.setVm vm₁, locs, cells, slots⟩ { g with stack := rest } (.invokevirtual index) mk (Value.ref b :: argsL).toArray X₁ hg hsize hdg hW (X₁.named hnamed) (hpre vm₁ X₁.warmed) with ⟨v, B, X', hpost, hsteps⟩ | ⟨q, B, X', hpost, hsteps⟩
  · exact Or.inl ⟨v, vm₁, B, X₁.warmed, X', hpost, fun target h => hstep₁ _ fun acts => by rw [doInvoke_state]; exact hsteps.trans h⟩
  · exact Or.inr ⟨q, vm₁, B, X₁.warmed, X', hpost, hstep₁ _ fun acts => by rw [doInvoke_state]; exact hsteps⟩
theorem vx_callSX (X : Stand p l e R s m args below meth c T locs cells slots) (hexec : p.tables.exec = Jvm.exec) {own : String} {index : Nat} {y : MethodName} {bytes : ByteArray} {maxL : Nat} {ret : Option FieldType} {hh : List (Nat × Nat × Nat × Nat)}
    (hown : s.vm.findClass own = some m.cls) (hlink : (Cond.methodLink own index y).before args s = true) (hstat : (Cond.static y).before args s = true) (hinit : (Cond.initialized y.cls).before args s = true)
    (hcode : (Cond.codeWith y bytes maxL ret hh).before args s = true) (hy : y.cls ≠ "java/lang/invoke/MethodHandle" ∧ y.cls ≠ "java/lang/invoke/VarHandle")
    {W9 : Nat} {Pre : Pt → Array Value → Prop} {Post : Pt → Array Value → Option Value → Pt → Prop} {PostX : Pt → Array Value → Addr → Pt → Prop} (hK : vx_Back l R p e below s args y 3 W9 Pre Post PostX)
    {g : JFrame} (hg : g.method = m) (hsize : g.locals.size = c.maxLocals) {argsL rest : List Value} (hlen : ∀ sig, parseMethodDescriptor y.desc = some sig → argsL.length = sig.parameters.length)
    (hstack : g.stack = argsL.reverse ++ rest) (hW : 2 * g.monitorRoom + (rest.map fun v => v.category).sum ≤ W9) (hdg : decode c.code g.pc = .ok (.invokestatic index, 3))
    (hpre : ∀ vm₁, s.WarmedH vm₁ → Pre ⟨T.setVm vm₁, locs, cells, slots⟩ argsL.toArray) :
    (∃ (v : Option Value) (vm₁ : Vm) (B : Pt), s.WarmedH vm₁ ∧ Stand p l e R s m args below meth c B.U B.locs B.cells B.slots ∧ Post ⟨T.setVm vm₁, locs, cells, slots⟩ argsL.toArray v B ∧
      ∀ target, Steps p.tables e below (B.U.setTop { g with pc := g.pc + 3, stack := v.toList ++ rest }) target → Steps p.tables e below (T.setTop g) target) ∨
    (∃ (q : Addr) (vm₁ : Vm) (B : Pt), s.WarmedH vm₁ ∧ Stand p l e R s m args below meth c B.U B.locs B.cells B.slots ∧ PostX ⟨T.setVm vm₁, locs, cells, slots⟩ argsL.toArray q B ∧
      Steps p.tables e below (T.setTop g) ((B.U.setTop { g with stack := rest }).pushFrame (.throwing q))) := by
  obtain ⟨mk, methM, cM, hnamed, hmethM, -, -, -, -, -, -, hsigM⟩ := Cond.codeWith_spec hcode
  have hstatic : methM.isStatic = true := Cond.static_spec hnamed hmethM hstat
  obtain ⟨kP, hkP, -⟩ := className_of_methodNamed hnamed
  have hinitP : kP.init = .initialized := Cond.initialized_spec (findClass_of_methodNamed hnamed) hkP hinit
  obtain ⟨vm₁, X₁, hstep₁⟩ := X.invokestatic hexec hown hlink hnamed hmethM hstatic hkP hinitP hy (g := g) hg (argsL := argsL) (rest := rest) (hlen _ hsigM) hstack hdg
  rcases hK m meth c ⟨T.setVm vm₁, locs, cells, slots⟩ { g with stack := rest } (.invokestatic index) mk argsL.toArray X₁ hg hsize hdg hW (X₁.named hnamed) (hpre vm₁ X₁.warmed) with ⟨v, B, X', hpost, hsteps⟩ | ⟨q, B, X', hpost, hsteps⟩
  · exact Or.inl ⟨v, vm₁, B, X₁.warmed, X', hpost, fun target h => hstep₁ _ fun acts => by rw [doInvoke_state]; exact hsteps.trans h⟩
  · exact Or.inr ⟨q, vm₁, B, X₁.warmed, X', hpost, hstep₁ _ fun acts => by rw [doInvoke_state]; exact hsteps⟩
theorem vx_callVW (X : Stand p l e R s m args below meth c T locs cells slots) (hexec : p.tables.exec = Jvm.exec) {own C : String} {index : Nat} {y : MethodName} {bytes : ByteArray} {maxL : Nat} {ret : Option FieldType} {hh : List (Nat × Nat × Nat × Nat)}
    (hown : s.vm.findClass own = some m.cls) (hlink : (Cond.methodLink own index y).before args s = true) (hinst : (Cond.instanceMethod y).before args s = true) (hsel : (Cond.selects C y y).before args s = true)
    (hcode : (Cond.codeWith y bytes maxL ret hh).before args s = true) (hy : y.cls ≠ "java/lang/invoke/MethodHandle" ∧ y.cls ≠ "java/lang/invoke/VarHandle")
    {W9 : Nat} {Pre : Pt → Array Value → Prop} {Post : Pt → Array Value → Option Value → Pt → Prop} (hK : Back l R p e below s args y 3 W9 Pre Post)
    {b : Addr} {cellB : Cell} (hcell : T.heap[b]? = some cellB) (hobj : cellB.vm.isStatics = false) (hcls : s.vm.findClass C = some cellB.cls)
    {g : JFrame} (hg : g.method = m) (hsize : g.locals.size = c.maxLocals) {argsL rest : List Value} (hlen : ∀ sig, parseMethodDescriptor y.desc = some sig → argsL.length = sig.parameters.length)
    (hstack : g.stack = argsL.reverse ++ .ref b :: rest) (hW : 2 * g.monitorRoom + (rest.map fun v => v.category).sum ≤ W9) (hdg : decode c.code g.pc = .ok (.invokevirtual index, 3))
    (hpre : ∀ vm₁, s.WarmedH vm₁ → Pre ⟨T.setVm vm₁, locs, cells, slots⟩ (Value.ref b :: argsL).toArray) :
    ∃ (v : Option Value) (vm₁ : Vm) (B : Pt), s.WarmedH vm₁ ∧ Stand p l e R s m args below meth c B.U B.locs B.cells B.slots ∧ Post ⟨T.setVm vm₁, locs, cells, slots⟩ (Value.ref b :: argsL).toArray v B ∧
      ∀ target, Steps p.tables e below (B.U.setTop { g with pc := g.pc + 3, stack := v.toList ++ rest }) target → Steps p.tables e below (T.setTop g) target := by
  obtain ⟨mk, methM, hnamed, hmethM, hstM, habM⟩ := Cond.instanceMethod_spec hinst
  obtain ⟨m8, methM', cM, hn8, hmethM', -, -, -, -, -, -, hsigM⟩ := Cond.codeWith_spec hcode
  cases Option.some.inj (hn8.symm.trans hnamed)
  cases hmethM.symm.trans hmethM'
  obtain ⟨c2, r2, m2, q1, q2, q3, q4, kP, hkP, hkPi⟩ := Cond.selects_spec hsel
  cases hcls.symm.trans q1
  cases (State.methodFound?_of_named hnamed hy).symm.trans q2
  cases hnamed.symm.trans q3
  have hselP : selectMethod e.platform s.vm cellB.cls mk = .method mk := by rw [Launch.admits_selectMethod X.admits]; exact q4
  obtain ⟨vm₁, X₁, hstep₁⟩ := X.invokevirtual hexec hown hlink hnamed hmethM hstM hkP hkPi hy (a := b) (cell := cellB) hcell
    (fun z h => by rw [h] at hobj; cases hobj) hselP hmethM habM hkP hkPi (g := g) hg (argsL := argsL) (rest := rest) (hlen _ hsigM) hstack hdg
  obtain ⟨v, B, X', hpost, hsteps⟩ := hK m meth c ⟨T.setVm vm₁, locs, cells, slots⟩ { g with stack := rest } (.invokevirtual index) mk (Value.ref b :: argsL).toArray X₁ hg hsize hdg hW (X₁.named hnamed) (hpre vm₁ X₁.warmed)
  exact ⟨v, vm₁, B, X₁.warmed, X', hpost, fun target h => hstep₁ _ fun acts => by rw [doInvoke_state]; exact hsteps.trans h⟩
abbrev vx_CVW (R : Room) (s : State) (args : Array Value) (own C : String) (index : Nat) (y : MethodName) (bytes : ByteArray) (maxL : Nat) (ret : Option FieldType) (hh : List (Nat × Nat × Nat × Nat)) (ws : List Cond) (rm : Room) (mc ms n : Nat) : Prop :=
  (rm.cells = mc ∧ rm.slots = ms ∧ rm.frames + 1 ≤ R.frames ∧ 8 + (maxL + 11) + rm.locals ≤ R.locals ∧ (∀ w ∈ ws, ∀ (a' : Array Value) (U : State), s.WarmedH U.vm → w.before a' U = true) ∧ Cond.codeWith y bytes maxL ret hh ∈ ws) ∧
  (Cond.codeWith y bytes maxL ret hh).before args s = true ∧ (Cond.initialized y.cls).before args s = true ∧ (y.cls ≠ "java/lang/invoke/MethodHandle" ∧ y.cls ≠ "java/lang/invoke/VarHandle") ∧
  (∀ sig, parseMethodDescriptor y.desc = some sig → n = sig.parameters.length) ∧ (Cond.methodLink own index y).before args s = true ∧ (Cond.instanceMethod y).before args s = true ∧ (Cond.selects C y y).before args s = true
theorem vx_cwVW {own C : String} {index maxL mc ms : Nat} {y : MethodName} {bytes : ByteArray} {ret : Option FieldType} {hh : List (Nat × Nat × Nat × Nat)} {Ts ws ws' : List Cond} {rm : Room} (n : Nat) (ht : ∀ w ∈ Ts, w.before args s = true) (hT : GoodIn Ts (wsV own index C y ws)) (hw : ws = Cond.codeWith y bytes maxL ret hh :: ws') (hrc : rm.cells = mc) (hrs : rm.slots = ms)
    (hd : y.cls = C ∧ y.cls ≠ "java/lang/invoke/MethodHandle" ∧ y.cls ≠ "java/lang/invoke/VarHandle" ∧ (parseMethodDescriptor y.desc).map (fun d => d.parameters.length) = some n) (hR : rm.frames + 1 ≤ R.frames ∧ 8 + (maxL + 11) + rm.locals ≤ R.locals) :
    vx_CVW R s args own C index y bytes maxL ret hh ws rm mc ms n := by
  obtain ⟨hC, hd⟩ := hd
  subst hC
  have ok : ∀ w ∈ wsV own index y.cls y ws, w.before args s = true := fun w h => ht w (hT w h).1
  have hG : GoodIn Ts ws := fun w h => hT w (by unfold wsV; exact List.mem_append_right _ h)
  have hc : Cond.codeWith y bytes maxL ret hh ∈ ws := by rw [hw]; exact List.mem_cons_self
  refine ⟨⟨hrc, hrs, hR.1, hR.2, pay_in ht hG, hc⟩, ht _ (hG _ hc).1, ok _ (by simp [wsV]), ⟨hd.1, hd.2.1⟩, fun sig h => ?_, ok _ (by simp [wsV]), ok _ (by simp [wsV]), ok _ (by simp [wsV])⟩
  have h2 := hd.2.2
  rw [h] at h2
  exact (Option.some.inj h2).symm
theorem vx_runVW {y : MethodName} {bytes cc : ByteArray} {maxL nL mc ms n index : Nat} {ret : Option FieldType} {hh : List (Nat × Nat × Nat × Nat)} {ws : List Cond} {rm : Room} {Pc : Array Value → State → Prop} {Qc : Array Value → State → Outcome → State → Prop} {free : Addr → Prop} {Ts : List Cond} {own C : String} {b : Addr} {As rest : List Value} {g : JFrame}
    (S : CallFix p m c cc nL s args Ts own) (hM : Met l y ws rm Pc Qc mc ms free) (cw : vx_CVW R s args own C index y bytes maxL ret hh ws rm mc ms n) (hp : PreV s H C b Pc As)
    (hg : g.method = m) (hn : As.length = n) (hsize : g.locals.size = nL) (hstack : g.stack = As.reverse ++ .ref b :: rest) (hW : 2 * g.monitorRoom + (rest.map fun v => v.category).sum ≤ 8) (hdg : decode cc g.pc = .ok (.invokevirtual index, 3)) (hf : cells + mc ≤ R.cells ∧ slots + ms ≤ R.slots) :
    va_Run p l e R s m args below meth c H locs cells slots mc ms g rest (Qc (Value.ref b :: As).toArray) free := by
  obtain ⟨⟨hrc, hrs, hfr, hlo, hws, hcw⟩, hcode, hini, hy, hlen, hl, hin, hse⟩ := cw
  have hK : Back l R p e below s args y 3 8 (PreOf R mc ms Pc) (PostOf Qc mc ms free) := va_backW (hh := hh) (bytes := bytes) (maxL := maxL) (ret := ret) hM hp.1 hrc hrs hfr hlo hws hcw (fun a' U hW => word_at hW (Or.inl (by first | rfl | simp [Cond.onTables, Cond.keeps, Cond.steady])) hini)
  obtain ⟨hx, hb, hml, ho, -⟩ := S
  obtain ⟨-, ⟨cellB, hcB, hoB, hclB⟩, hPc⟩ := hp
  intro T hT X
  obtain ⟨v, vm₁, ⟨U', l2, c2, s2⟩, hW₁, X', ⟨g', mk, t, L, e1, e2, hq, h1, hL, h2, h3⟩, st⟩ := vx_callVW X hx (C := C) (hh := hh) (bytes := bytes) (maxL := maxL) (ret := ret) ho hl hin hse hcode hy hK (by rw [hT]; exact hcB) hoB hclB hg (hsize.trans hml.symm) (argsL := As) (rest := rest) (fun sig h => hn.trans (hlen sig h)) hstack hW (by rw [hb]; exact hdg)
    (fun vm₁ hW₁ => ⟨hf.1, hf.2, hPc (T.setVm vm₁) hT hW₁⟩)
  dsimp only [Pt.U, Pt.locs, Pt.cells, Pt.slots] at X' e1 e2 h1 h2 h3 st
  subst h1; subst h2; subst h3
  exact ⟨v, (T.setVm vm₁).calling g' mk (Value.ref b :: As).toArray, t, U', L, hT, X', hL, e1, e2, hq, st⟩
section
variable {y : MethodName} {bytes cc : ByteArray} {maxL nL mc ms n index : Nat} {ret : Option FieldType} {ws : List Cond} {rm : Room} {Pc : Array Value → State → Prop} {Qc : Array Value → State → Outcome → State → Prop} {XC : String → State → State → Prop} {free : Addr → Prop} {Ts : List Cond} {own C : String} {b : Addr} {As rest : List Value} {g : JFrame}
theorem vx_runVX {hh : List (Nat × Nat × Nat × Nat)} (S : CallFix p m c cc nL s args Ts own) (hM : vx_Met l y ws rm Pc Qc XC mc ms free) (cw : vx_CVW R s args own C index y bytes maxL ret hh ws rm mc ms n) (hp : PreV s H C b Pc As)
    (hg : g.method = m) (hn : As.length = n) (hsize : g.locals.size = nL) (hstack : g.stack = As.reverse ++ .ref b :: rest) (hW : 2 * g.monitorRoom + (rest.map fun v => v.category).sum ≤ 8) (hdg : decode cc g.pc = .ok (.invokevirtual index, 3)) (hf : cells + mc ≤ R.cells ∧ slots + ms ≤ R.slots) :
    vx_Run p l e R s m args below meth c H locs cells slots mc ms g rest (Qc (Value.ref b :: As).toArray) XC free := by
  obtain ⟨⟨hrc, hrs, hfr, hlo, hws, hcw⟩, hcode, hini, hy, hlen, hl, hin, hse⟩ := cw
  have hK : vx_Back l R p e below s args y 3 8 (PreOf R mc ms Pc) (PostOf Qc mc ms free) (vx_Post XC mc ms free) := vx_backW (hh := hh) (bytes := bytes) (maxL := maxL) (ret := ret) hM hp.1 hrc hrs hfr hlo hws hcw (fun a' U hW => word_at hW (Or.inl (by first | rfl | simp [Cond.onTables, Cond.keeps, Cond.steady])) hini)
  obtain ⟨hx, hb, hml, ho, -⟩ := S
  obtain ⟨-, ⟨cellB, hcB, hoB, hclB⟩, hPc⟩ := hp
  intro T hT X
  rcases vx_callVX X hx (C := C) (hh := hh) (bytes := bytes) (maxL := maxL) (ret := ret) ho hl hin hse hcode hy hK (by rw [hT]; exact hcB) hoB hclB hg (hsize.trans hml.symm) (argsL := As) (rest := rest) (fun sig h => hn.trans (hlen sig h)) hstack hW (by rw [hb]; exact hdg)
    (fun vm₁ hW₁ => ⟨hf.1, hf.2, hPc (T.setVm vm₁) hT hW₁⟩) with ⟨v, vm₁, ⟨U', l2, c2, s2⟩, hW₁, X', ⟨g', mk, t, L, e1, e2, hq, h1, hL, h2, h3⟩, st⟩ | ⟨q, vm₁, ⟨U', l2, c2, s2⟩, hW₁, X', ⟨g', mk, t, L, E, ce, e1, e2, hq, hce, hcv, hcl, h1, hL, h2, h3⟩, st⟩
  · dsimp only [Pt.U, Pt.locs, Pt.cells, Pt.slots] at X' e1 e2 h1 h2 h3 st
    subst h1; subst h2; subst h3
    exact Or.inl ⟨v, (T.setVm vm₁).calling g' mk (Value.ref b :: As).toArray, t, U', L, hT, X', hL, e1, e2, hq, st⟩
  · dsimp only [Pt.U, Pt.locs, Pt.cells, Pt.slots] at X' e1 e2 h1 h2 h3 st hcl
    subst h1; subst h2; subst h3
    exact Or.inr ⟨q, (T.setVm vm₁).calling g' mk (Value.ref b :: As).toArray, t, U', L, E, ce, hT, X', hL, e1, e2, hq, hce, hcv, vx_cls hW₁ hcl, st⟩
theorem vx_runSX {hh : List (Nat × Nat × Nat × Nat)} (S : CallFix p m c cc nL s args Ts own) (hM : vx_Met l y ws rm Pc Qc XC mc ms free) (cw : vx_CSW R s args own index y bytes maxL ret hh ws rm mc ms n) (hp : PreS s H Pc As)
    (hg : g.method = m) (hn : As.length = n) (hsize : g.locals.size = nL) (hstack : g.stack = As.reverse ++ rest) (hW : 2 * g.monitorRoom + (rest.map fun v => v.category).sum ≤ 8) (hdg : decode cc g.pc = .ok (.invokestatic index, 3)) (hf : cells + mc ≤ R.cells ∧ slots + ms ≤ R.slots) :
    vx_Run p l e R s m args below meth c H locs cells slots mc ms g rest (Qc As.toArray) XC free := by
  obtain ⟨⟨hrc, hrs, hfr, hlo, hws, hcw⟩, hcode, hini, hy, hlen, hl, hstt⟩ := cw
  have hK : vx_Back l R p e below s args y 3 8 (PreOf R mc ms Pc) (PostOf Qc mc ms free) (vx_Post XC mc ms free) := vx_backW (hh := hh) (bytes := bytes) (maxL := maxL) (ret := ret) hM hp.1 hrc hrs hfr hlo hws hcw (fun a' U hW => word_at hW (Or.inl (by first | rfl | simp [Cond.onTables, Cond.keeps, Cond.steady])) hini)
  obtain ⟨hx, hb, hml, ho, -⟩ := S
  intro T hT X
  rcases vx_callSX X hx (hh := hh) (bytes := bytes) (maxL := maxL) (ret := ret) ho hl hstt hini hcode hy hK hg (hsize.trans hml.symm) (argsL := As) (rest := rest) (fun sig h => hn.trans (hlen sig h)) hstack hW (by rw [hb]; exact hdg)
    (fun vm₁ hW₁ => ⟨hf.1, hf.2, hp.2 (T.setVm vm₁) hT hW₁⟩) with ⟨v, vm₁, ⟨U', l2, c2, s2⟩, hW₁, X', ⟨g', mk, t, L, e1, e2, hq, h1, hL, h2, h3⟩, st⟩ | ⟨q, vm₁, ⟨U', l2, c2, s2⟩, hW₁, X', ⟨g', mk, t, L, E, ce, e1, e2, hq, hce, hcv, hcl, h1, hL, h2, h3⟩, st⟩
  · dsimp only [Pt.U, Pt.locs, Pt.cells, Pt.slots] at X' e1 e2 h1 h2 h3 st
    subst h1; subst h2; subst h3
    exact Or.inl ⟨v, (T.setVm vm₁).calling g' mk As.toArray, t, U', L, hT, X', hL, e1, e2, hq, st⟩
  · dsimp only [Pt.U, Pt.locs, Pt.cells, Pt.slots] at X' e1 e2 h1 h2 h3 st hcl
    subst h1; subst h2; subst h3
    exact Or.inr ⟨q, (T.setVm vm₁).calling g' mk As.toArray, t, U', L, E, ce, hT, X', hL, e1, e2, hq, hce, hcv, vx_cls hW₁ hcl, st⟩
end
end VXH
theorem vx_ofWH {l : Launch} {y : MethodName} {ws ws' : List Cond} {rm : Room} {Pc : Array Value → State → Prop} {Qc : Array Value → State → Outcome → State → Prop} {XC : String → State → State → Prop} {mc ms : Nat} {free : Addr → Prop} {cc : ByteArray} {maxL : Nat} {ret : Option FieldType} {hh : List (Nat × Nat × Nat × Nat)}
    (hy : plainName y.cls = true) (hw : ws = Cond.codeWith y cc maxL ret hh :: ws')
    (body : ∀ p e s m args below meth c s₁, BodyLoose p l y (headSpec ws rm) cc maxL ret e s m args below meth c s₁ → c.maxLocals = maxL → Pc args s →
      W p l e (headSpec ws rm).room s m args below meth c s.heap [] 0 0 (vx_MQ below Qc XC args s mc ms free) (entryFrame m args maxL)) : vx_Met l y ws rm Pc Qc XC mc ms free := by
  refine MetFree.of_bodyS (code := cc) (maxLocals := maxL) (ret := ret) hy ?_ ?_
  · intro args s m h hn
    obtain ⟨m9, meth, c, hn9, h1, h2, h3, h4, -, h5, h6, -⟩ := Cond.codeWith_spec (atoms_spec (ws := ws) h _ (by rw [hw]; exact List.mem_cons_self))
    cases hn.symm.trans hn9
    exact ⟨meth, c, h1, h2, h3, h4, h5, h6⟩
  · intro p e s m args below meth c s₁ B hml hP _
    have hh0 : s₁.heap = s.heap := by rw [B.state]; rfl
    obtain ⟨t, a1, o, b1, b2, b3⟩ := body p e s m args below meth c s₁ B hml hP s₁ hh0 (Stand.of_body B)
    exact ⟨t, o, a1, b1, b2, b3⟩
/-! ===== END ===== -/
end
section
/-- the good words of the tables: every method's word list ends with it -/
def tbG : List Cond := lw_tbl.filter goodWord
theorem tb_in {w : Cond} (h : w ∈ tables_1) (g : goodWord w = true) : w ∈ tbG := List.mem_filter.mpr ⟨List.mem_append_right _ h, g⟩
theorem tb_sel {q : MethodName × Nat} (h : q ∈ lw_privs) : Cond.selects q.1.cls q.1 q.1 ∈ tbG := List.mem_filter.mpr ⟨List.mem_append_left _ (List.mem_map.mpr ⟨q, h, rfl⟩), rfl⟩
theorem tb_1 {w : Cond} (k : Nat) (h : tables_1_1[k]? = some w) : w ∈ tables_1 := List.mem_append_left _ (List.mem_of_getElem? h)
theorem tb_2 {w : Cond} (k : Nat) (h : tables_1_2[k]? = some w) : w ∈ tables_1 := List.mem_append_right _ (List.mem_append_left _ (List.mem_of_getElem? h))
theorem tb_3 {w : Cond} (k : Nat) (h : tables_1_3[k]? = some w) : w ∈ tables_1 := List.mem_append_right _ (List.mem_append_right _ (List.mem_append_left _ (List.mem_of_getElem? h)))
theorem tb_4 {w : Cond} (k : Nat) (h : tables_1_4[k]? = some w) : w ∈ tables_1 := List.mem_append_right _ (List.mem_append_right _ (List.mem_append_right _ (List.mem_of_getElem? h)))
theorem tb_c {a w : Cond} (h : w ∈ tbG) : w ∈ a :: tbG := List.mem_cons_of_mem _ h
theorem tb_gd {w : Cond} (h : w ∈ tbG) : (w.onTables && w.keeps) = true ∨ ∃ ty, w = .arrayClass ty := good_of_word (List.mem_filter.mp h).2
theorem tb_ok {a b : Cond} (h : b ∈ tbG) : GoodIn (a :: tbG) (b :: tbG) := fun w hw => by
  rcases List.mem_cons.mp hw with rfl | hw
  · exact ⟨tb_c h, tb_gd h⟩
  · exact ⟨tb_c hw, tb_gd hw⟩
theorem tb_okL {b : Cond} (h : b ∈ tbG) : GoodIn lw_tbl (b :: tbG) := fun w hw => by
  rcases List.mem_cons.mp hw with rfl | hw
  · exact ⟨(List.mem_filter.mp h).1, tb_gd h⟩
  · exact ⟨(List.mem_filter.mp hw).1, tb_gd hw⟩
theorem tb_cn {T ws : List Cond} {b : Cond} (h1 : b ∈ T) (h2 : (b.onTables && b.keeps) = true ∨ ∃ ty, b = .arrayClass ty) (h : GoodIn T ws) : GoodIn T (b :: ws) := fun w hw => by
  rcases List.mem_cons.mp hw with rfl | hw
  · exact ⟨h1, h2⟩
  · exact h w hw
theorem tb_V {a b : Cond} {own C : String} {i : Nat} {y : MethodName} (h1 : Cond.methodLink own i y ∈ tbG) (h2 : Cond.instanceMethod y ∈ tbG) (h3 : Cond.selects C y y ∈ tbG) (h4 : Cond.initialized C ∈ tbG) (h : b ∈ tbG) : GoodIn (a :: tbG) (wsV own i C y (b :: tbG)) :=
  tb_cn (tb_c h1) (tb_gd h1) (tb_cn (tb_c h2) (tb_gd h2) (tb_cn (tb_c h3) (tb_gd h3) (tb_cn (tb_c h4) (tb_gd h4) (tb_ok h))))
theorem tb_S {a b : Cond} {own : String} {i : Nat} {y : MethodName} (h1 : Cond.methodLink own i y ∈ tbG) (h2 : Cond.static y ∈ tbG) (h4 : Cond.initialized own ∈ tbG) (h : b ∈ tbG) : GoodIn (a :: tbG) (wsS own i y (b :: tbG)) :=
  tb_cn (tb_c h1) (tb_gd h1) (tb_cn (tb_c h2) (tb_gd h2) (tb_cn (tb_c h4) (tb_gd h4) (tb_ok h)))
abbrev RX0 : String := "ThumbForge$Image"
def TX0 : u_T := fun k => match k with
  | 0 => ("ThumbForge$Image", "program", "LThumbForge$Program;", true)
  | 1 => ("ThumbForge$Image", "halfwords", "[I", true)
  | 2 => ("ThumbForge$Image", "places", "[I", true)
  | 3 => ("ThumbForge$Image", "isLong", "[Z", true)
  | 4 => ("ThumbForge$Image", "literals", "[I", true)
  | 5 => ("ThumbForge$Image", "literalCount", "I", false)
  | 6 => ("ThumbForge$Image", "poolPlace", "I", false)
  | 7 => ("ThumbForge$Image", "length", "I", false)
  | _ => ("ThumbForge$Image", "made", "Z", false)
def tyX0 : Nat → FieldType := fun k => match k with
  | 0 => .object "ThumbForge$Program"
  | 1 => .array .int
  | 2 => .array .int
  | 3 => .array .boolean
  | 4 => .array .int
  | 5 => .int
  | 6 => .int
  | 7 => .int
  | _ => .boolean
theorem nmX0 : ∀ a, a < 9 → ∀ b, b < 9 → a ≠ b → (TX0 a).2.1 ≠ (TX0 b).2.1 := by decide +kernel
theorem tyX0_ok : ∀ k, k < 9 → parseFieldDescriptor (TX0 k).2.2.1 = some (tyX0 k) := by decide +kernel
abbrev RX1 : String := "ThumbForge$Machine"
def TX1 : u_T := fun k => match k with
  | 0 => ("ThumbForge$Machine", "program", "LThumbForge$Program;", true)
  | 1 => ("ThumbForge$Machine", "image", "LThumbForge$Image;", true)
  | 2 => ("ThumbForge$Machine", "words", "[I", true)
  | 3 => ("ThumbForge$Machine", "values", "[I", true)
  | 4 => ("ThumbForge$Machine", "kept", "[I", true)
  | 5 => ("ThumbForge$Machine", "outCount", "I", false)
  | 6 => ("ThumbForge$Machine", "mode", "I", false)
  | 7 => ("ThumbForge$Machine", "trap", "I", false)
  | _ => ("ThumbForge$Machine", "next", "I", false)
def tyX1 : Nat → FieldType := fun k => match k with
  | 0 => .object "ThumbForge$Program"
  | 1 => .object "ThumbForge$Image"
  | 2 => .array .int
  | 3 => .array .int
  | 4 => .array .int
  | 5 => .int
  | 6 => .int
  | 7 => .int
  | _ => .int
theorem nmX1 : ∀ a, a < 9 → ∀ b, b < 9 → a ≠ b → (TX1 a).2.1 ≠ (TX1 b).2.1 := by decide +kernel
theorem tyX1_ok : ∀ k, k < 9 → parseFieldDescriptor (TX1 k).2.2.1 = some (tyX1 k) := by decide +kernel
abbrev RX2 : String := "ThumbForge$Program"
def TX2 : u_T := fun k => match k with
  | 0 => ("ThumbForge$Program", "kinds", "[I", true)
  | 1 => ("ThumbForge$Program", "codes", "[I", true)
  | 2 => ("ThumbForge$Program", "targets", "[I", true)
  | 3 => ("ThumbForge$Program", "firsts", "[I", true)
  | 4 => ("ThumbForge$Program", "seconds", "[I", true)
  | 5 => ("ThumbForge$Program", "numbers", "[I", true)
  | _ => ("ThumbForge$Program", "count", "I", false)
def tyX2 : Nat → FieldType := fun k => match k with
  | 0 => .array .int
  | 1 => .array .int
  | 2 => .array .int
  | 3 => .array .int
  | 4 => .array .int
  | 5 => .array .int
  | _ => .int
theorem nmX2 : ∀ a, a < 7 → ∀ b, b < 7 → a ≠ b → (TX2 a).2.1 ≠ (TX2 b).2.1 := by decide +kernel
theorem tyX2_ok : ∀ k, k < 7 → parseFieldDescriptor (TX2 k).2.2.1 = some (tyX2 k) := by decide +kernel
abbrev RX3 : String := "ThumbForge"
def TX3 : u_T := fun k => match k with
  | 0 => ("ThumbForge", "program", "LThumbForge$Program;", true)
  | 1 => ("ThumbForge", "image", "LThumbForge$Image;", true)
  | _ => ("ThumbForge", "machine", "LThumbForge$Machine;", true)
def tyX3 : Nat → FieldType := fun k => match k with
  | 0 => .object "ThumbForge$Program"
  | 1 => .object "ThumbForge$Image"
  | _ => .object "ThumbForge$Machine"
theorem nmX3 : ∀ a, a < 3 → ∀ b, b < 3 → a ≠ b → (TX3 a).2.1 ≠ (TX3 b).2.1 := by decide +kernel
theorem tyX3_ok : ∀ k, k < 3 → parseFieldDescriptor (TX3 k).2.2.1 = some (tyX3 k) := by decide +kernel
abbrev RX4 : String := "ThumbForgeModel"
def TX4 : u_T := fun k => match k with
  | 0 => ("ThumbForgeModel", "thrown", "I", false)
  | 1 => ("ThumbForgeModel", "size", "I", false)
  | 2 => ("ThumbForgeModel", "kind", "[I", true)
  | 3 => ("ThumbForgeModel", "n0", "[I", true)
  | 4 => ("ThumbForgeModel", "n1", "[I", true)
  | 5 => ("ThumbForgeModel", "n2", "[I", true)
  | 6 => ("ThumbForgeModel", "n3", "[I", true)
  | 7 => ("ThumbForgeModel", "memory", "[I", true)
  | 8 => ("ThumbForgeModel", "made", "Z", false)
  | 9 => ("ThumbForgeModel", "length", "I", false)
  | 10 => ("ThumbForgeModel", "image", "[I", true)
  | 11 => ("ThumbForgeModel", "places", "[I", true)
  | 12 => ("ThumbForgeModel", "far", "[Z", true)
  | 13 => ("ThumbForgeModel", "pool", "I", false)
  | 14 => ("ThumbForgeModel", "literals", "[I", true)
  | 15 => ("ThumbForgeModel", "poolPlace", "I", false)
  | 16 => ("ThumbForgeModel", "state", "I", false)
  | 17 => ("ThumbForgeModel", "trap", "I", false)
  | 18 => ("ThumbForgeModel", "now", "I", false)
  | 19 => ("ThumbForgeModel", "variables", "[I", true)
  | 20 => ("ThumbForgeModel", "outputs", "I", false)
  | _ => ("ThumbForgeModel", "out", "[I", true)
def tyX4 : Nat → FieldType := fun k => match k with
  | 0 => .int
  | 1 => .int
  | 2 => .array .int
  | 3 => .array .int
  | 4 => .array .int
  | 5 => .array .int
  | 6 => .array .int
  | 7 => .array .int
  | 8 => .boolean
  | 9 => .int
  | 10 => .array .int
  | 11 => .array .int
  | 12 => .array .boolean
  | 13 => .int
  | 14 => .array .int
  | 15 => .int
  | 16 => .int
  | 17 => .int
  | 18 => .int
  | 19 => .array .int
  | 20 => .int
  | _ => .array .int
theorem nmX4 : ∀ a, a < 22 → ∀ b, b < 22 → a ≠ b → (TX4 a).2.1 ≠ (TX4 b).2.1 := by decide +kernel
theorem tyX4_ok : ∀ k, k < 22 → parseFieldDescriptor (TX4 k).2.2.1 = some (tyX4 k) := by decide +kernel
abbrev RL : String := "ThumbForgeLaw"
abbrev vwCl : List vw_C := [(RX0, TX0, 9), (RX1, TX1, 9), (RX2, TX2, 7), (RX3, TX3, 3), (RX4, TX4, 22)]
abbrev cX3_init : ByteArray := prog_1_method_1_code
abbrev yX3_init : MethodName := ⟨"ThumbForge", "<init>", "()V"⟩
abbrev kX3_init : Cond := .code yX3_init cX3_init 1 none
abbrev wsX3_init : List Cond := kX3_init :: tbG
abbrev cX3_constant : ByteArray := prog_1_method_2_code
abbrev yX3_constant : MethodName := ⟨"ThumbForge", "constant", "(II)I"⟩
abbrev kX3_constant : Cond := .code yX3_constant cX3_constant 3 (some FieldType.int)
abbrev wsX3_constant : List Cond := kX3_constant :: tbG
abbrev cX3_compute : ByteArray := prog_1_method_3_code
abbrev yX3_compute : MethodName := ⟨"ThumbForge", "compute", "(IIII)I"⟩
abbrev kX3_compute : Cond := .code yX3_compute cX3_compute 5 (some FieldType.int)
abbrev wsX3_compute : List Cond := kX3_compute :: tbG
abbrev cX3_load : ByteArray := prog_1_method_4_code
abbrev yX3_load : MethodName := ⟨"ThumbForge", "load", "(II)I"⟩
abbrev kX3_load : Cond := .code yX3_load cX3_load 3 (some FieldType.int)
abbrev wsX3_load : List Cond := kX3_load :: tbG
abbrev cX3_store : ByteArray := prog_1_method_5_code
abbrev yX3_store : MethodName := ⟨"ThumbForge", "store", "(II)I"⟩
abbrev kX3_store : Cond := .code yX3_store cX3_store 3 (some FieldType.int)
abbrev wsX3_store : List Cond := kX3_store :: tbG
abbrev cX3_jump : ByteArray := prog_1_method_6_code
abbrev yX3_jump : MethodName := ⟨"ThumbForge", "jump", "(I)I"⟩
abbrev kX3_jump : Cond := .code yX3_jump cX3_jump 2 (some FieldType.int)
abbrev wsX3_jump : List Cond := kX3_jump :: tbG
abbrev cX3_branch : ByteArray := prog_1_method_7_code
abbrev yX3_branch : MethodName := ⟨"ThumbForge", "branch", "(IIII)I"⟩
abbrev kX3_branch : Cond := .code yX3_branch cX3_branch 5 (some FieldType.int)
abbrev wsX3_branch : List Cond := kX3_branch :: tbG
abbrev cX3_out : ByteArray := prog_1_method_8_code
abbrev yX3_out : MethodName := ⟨"ThumbForge", "out", "(I)I"⟩
abbrev kX3_out : Cond := .code yX3_out cX3_out 2 (some FieldType.int)
abbrev wsX3_out : List Cond := kX3_out :: tbG
abbrev cX3_stop : ByteArray := prog_1_method_9_code
abbrev yX3_stop : MethodName := ⟨"ThumbForge", "stop", "(I)I"⟩
abbrev kX3_stop : Cond := .code yX3_stop cX3_stop 2 (some FieldType.int)
abbrev wsX3_stop : List Cond := kX3_stop :: tbG
abbrev cX3_clear : ByteArray := prog_1_method_10_code
abbrev yX3_clear : MethodName := ⟨"ThumbForge", "clear", "()V"⟩
abbrev kX3_clear : Cond := .code yX3_clear cX3_clear 1 none
abbrev wsX3_clear : List Cond := kX3_clear :: tbG
abbrev cX3_forge : ByteArray := prog_1_method_11_code
abbrev yX3_forge : MethodName := ⟨"ThumbForge", "forge", "()I"⟩
abbrev kX3_forge : Cond := .code yX3_forge cX3_forge 1 (some FieldType.int)
abbrev wsX3_forge : List Cond := kX3_forge :: tbG
abbrev cX3_halfword : ByteArray := prog_1_method_12_code
abbrev yX3_halfword : MethodName := ⟨"ThumbForge", "halfword", "(I)I"⟩
abbrev kX3_halfword : Cond := .code yX3_halfword cX3_halfword 2 (some FieldType.int)
abbrev wsX3_halfword : List Cond := kX3_halfword :: tbG
abbrev cX3_place : ByteArray := prog_1_method_13_code
abbrev yX3_place : MethodName := ⟨"ThumbForge", "place", "(I)I"⟩
abbrev kX3_place : Cond := .code yX3_place cX3_place 2 (some FieldType.int)
abbrev wsX3_place : List Cond := kX3_place :: tbG
abbrev cX3_poke : ByteArray := prog_1_method_14_code
abbrev yX3_poke : MethodName := ⟨"ThumbForge", "poke", "(II)V"⟩
abbrev kX3_poke : Cond := .code yX3_poke cX3_poke 3 none
abbrev wsX3_poke : List Cond := kX3_poke :: tbG
abbrev cX3_memory : ByteArray := prog_1_method_15_code
abbrev yX3_memory : MethodName := ⟨"ThumbForge", "memory", "(I)I"⟩
abbrev kX3_memory : Cond := .code yX3_memory cX3_memory 2 (some FieldType.int)
abbrev wsX3_memory : List Cond := kX3_memory :: tbG
abbrev cX3_start : ByteArray := prog_1_method_16_code
abbrev yX3_start : MethodName := ⟨"ThumbForge", "start", "()V"⟩
abbrev kX3_start : Cond := .code yX3_start cX3_start 1 none
abbrev wsX3_start : List Cond := kX3_start :: tbG
abbrev cX3_run : ByteArray := prog_1_method_17_code
abbrev yX3_run : MethodName := ⟨"ThumbForge", "run", "(I)I"⟩
abbrev kX3_run : Cond := .code yX3_run cX3_run 2 (some FieldType.int)
abbrev wsX3_run : List Cond := kX3_run :: tbG
abbrev cX3_state : ByteArray := prog_1_method_18_code
abbrev yX3_state : MethodName := ⟨"ThumbForge", "state", "()I"⟩
abbrev kX3_state : Cond := .code yX3_state cX3_state 1 (some FieldType.int)
abbrev wsX3_state : List Cond := kX3_state :: tbG
abbrev cX3_at : ByteArray := prog_1_method_19_code
abbrev yX3_at : MethodName := ⟨"ThumbForge", "at", "()I"⟩
abbrev kX3_at : Cond := .code yX3_at cX3_at 1 (some FieldType.int)
abbrev wsX3_at : List Cond := kX3_at :: tbG
abbrev cX3_variable : ByteArray := prog_1_method_20_code
abbrev yX3_variable : MethodName := ⟨"ThumbForge", "variable", "(I)I"⟩
abbrev kX3_variable : Cond := .code yX3_variable cX3_variable 2 (some FieldType.int)
abbrev wsX3_variable : List Cond := kX3_variable :: tbG
abbrev cX3_outputs : ByteArray := prog_1_method_21_code
abbrev yX3_outputs : MethodName := ⟨"ThumbForge", "outputs", "()I"⟩
abbrev kX3_outputs : Cond := .code yX3_outputs cX3_outputs 1 (some FieldType.int)
abbrev wsX3_outputs : List Cond := kX3_outputs :: tbG
abbrev cX3_output : ByteArray := prog_1_method_22_code
abbrev yX3_output : MethodName := ⟨"ThumbForge", "output", "(I)I"⟩
abbrev kX3_output : Cond := .code yX3_output cX3_output 2 (some FieldType.int)
abbrev wsX3_output : List Cond := kX3_output :: tbG
abbrev cX3_append : ByteArray := prog_1_method_23_code
abbrev yX3_append : MethodName := ⟨"ThumbForge", "append", "(IIIIII)I"⟩
abbrev kX3_append : Cond := .code yX3_append cX3_append 7 (some FieldType.int)
abbrev wsX3_append : List Cond := kX3_append :: tbG
abbrev cX3_discardImage : ByteArray := prog_1_method_24_code
abbrev yX3_discardImage : MethodName := ⟨"ThumbForge", "discardImage", "()V"⟩
abbrev kX3_discardImage : Cond := .code yX3_discardImage cX3_discardImage 1 none
abbrev wsX3_discardImage : List Cond := kX3_discardImage :: tbG
abbrev cX3_needVariable : ByteArray := prog_1_method_25_code
abbrev yX3_needVariable : MethodName := ⟨"ThumbForge", "needVariable", "(I)V"⟩
abbrev kX3_needVariable : Cond := .code yX3_needVariable cX3_needVariable 1 none
abbrev wsX3_needVariable : List Cond := kX3_needVariable :: tbG
abbrev cX3_needTarget : ByteArray := prog_1_method_26_code
abbrev yX3_needTarget : MethodName := ⟨"ThumbForge", "needTarget", "(I)V"⟩
abbrev kX3_needTarget : Cond := .code yX3_needTarget cX3_needTarget 1 none
abbrev wsX3_needTarget : List Cond := kX3_needTarget :: tbG
abbrev cX3_needWord : ByteArray := prog_1_method_27_code
abbrev yX3_needWord : MethodName := ⟨"ThumbForge", "needWord", "(I)V"⟩
abbrev kX3_needWord : Cond := .code yX3_needWord cX3_needWord 1 none
abbrev wsX3_needWord : List Cond := kX3_needWord :: tbG
abbrev cX3_isRelation : ByteArray := prog_1_method_28_code
abbrev yX3_isRelation : MethodName := ⟨"ThumbForge", "isRelation", "(I)Z"⟩
abbrev kX3_isRelation : Cond := .code yX3_isRelation cX3_isRelation 1 (some FieldType.boolean)
abbrev wsX3_isRelation : List Cond := kX3_isRelation :: tbG
abbrev cX4_init : ByteArray := prog_6_method_1_code
abbrev yX4_init : MethodName := ⟨"ThumbForgeModel", "<init>", "()V"⟩
abbrev kX4_init : Cond := .code yX4_init cX4_init 1 none
abbrev wsX4_init : List Cond := kX4_init :: tbG
abbrev cX4_thrown : ByteArray := prog_6_method_2_code
abbrev yX4_thrown : MethodName := ⟨"ThumbForgeModel", "thrown", "()I"⟩
abbrev kX4_thrown : Cond := .code yX4_thrown cX4_thrown 1 (some FieldType.int)
abbrev wsX4_thrown : List Cond := kX4_thrown :: tbG
abbrev cX4_isVariable : ByteArray := prog_6_method_3_code
abbrev yX4_isVariable : MethodName := ⟨"ThumbForgeModel", "isVariable", "(I)Z"⟩
abbrev kX4_isVariable : Cond := .code yX4_isVariable cX4_isVariable 1 (some FieldType.boolean)
abbrev wsX4_isVariable : List Cond := kX4_isVariable :: tbG
abbrev cX4_append : ByteArray := prog_6_method_4_code
abbrev yX4_append : MethodName := ⟨"ThumbForgeModel", "append", "(ZIII)I"⟩
abbrev kX4_append : Cond := .code yX4_append cX4_append 5 (some FieldType.int)
abbrev wsX4_append : List Cond := kX4_append :: tbG
abbrev cX4_constant : ByteArray := prog_6_method_5_code
abbrev yX4_constant : MethodName := ⟨"ThumbForgeModel", "constant", "(II)I"⟩
abbrev kX4_constant : Cond := .code yX4_constant cX4_constant 3 (some FieldType.int)
abbrev wsX4_constant : List Cond := kX4_constant :: tbG
abbrev cX4_compute : ByteArray := prog_6_method_6_code
abbrev yX4_compute : MethodName := ⟨"ThumbForgeModel", "compute", "(IIII)I"⟩
abbrev kX4_compute : Cond := .code yX4_compute cX4_compute 6 (some FieldType.int)
abbrev wsX4_compute : List Cond := kX4_compute :: tbG
abbrev cX4_load : ByteArray := prog_6_method_7_code
abbrev yX4_load : MethodName := ⟨"ThumbForgeModel", "load", "(II)I"⟩
abbrev kX4_load : Cond := .code yX4_load cX4_load 3 (some FieldType.int)
abbrev wsX4_load : List Cond := kX4_load :: tbG
abbrev cX4_store : ByteArray := prog_6_method_8_code
abbrev yX4_store : MethodName := ⟨"ThumbForgeModel", "store", "(II)I"⟩
abbrev kX4_store : Cond := .code yX4_store cX4_store 3 (some FieldType.int)
abbrev wsX4_store : List Cond := kX4_store :: tbG
abbrev cX4_jump : ByteArray := prog_6_method_9_code
abbrev yX4_jump : MethodName := ⟨"ThumbForgeModel", "jump", "(I)I"⟩
abbrev kX4_jump : Cond := .code yX4_jump cX4_jump 2 (some FieldType.int)
abbrev wsX4_jump : List Cond := kX4_jump :: tbG
abbrev cX4_isRelation : ByteArray := prog_6_method_10_code
abbrev yX4_isRelation : MethodName := ⟨"ThumbForgeModel", "isRelation", "(I)Z"⟩
abbrev kX4_isRelation : Cond := .code yX4_isRelation cX4_isRelation 1 (some FieldType.boolean)
abbrev wsX4_isRelation : List Cond := kX4_isRelation :: tbG
abbrev cX4_branch : ByteArray := prog_6_method_11_code
abbrev yX4_branch : MethodName := ⟨"ThumbForgeModel", "branch", "(IIII)I"⟩
abbrev kX4_branch : Cond := .code yX4_branch cX4_branch 6 (some FieldType.int)
abbrev wsX4_branch : List Cond := kX4_branch :: tbG
abbrev cX4_out : ByteArray := prog_6_method_12_code
abbrev yX4_out : MethodName := ⟨"ThumbForgeModel", "out", "(I)I"⟩
abbrev kX4_out : Cond := .code yX4_out cX4_out 2 (some FieldType.int)
abbrev wsX4_out : List Cond := kX4_out :: tbG
abbrev cX4_stop : ByteArray := prog_6_method_13_code
abbrev yX4_stop : MethodName := ⟨"ThumbForgeModel", "stop", "(I)I"⟩
abbrev kX4_stop : Cond := .code yX4_stop cX4_stop 2 (some FieldType.int)
abbrev wsX4_stop : List Cond := kX4_stop :: tbG
abbrev cX4_clear : ByteArray := prog_6_method_14_code
abbrev yX4_clear : MethodName := ⟨"ThumbForgeModel", "clear", "()V"⟩
abbrev kX4_clear : Cond := .code yX4_clear cX4_clear 1 none
abbrev wsX4_clear : List Cond := kX4_clear :: tbG
abbrev cX4_slot : ByteArray := prog_6_method_15_code
abbrev yX4_slot : MethodName := ⟨"ThumbForgeModel", "slot", "(I)I"⟩
abbrev kX4_slot : Cond := .code yX4_slot cX4_slot 1 (some FieldType.int)
abbrev wsX4_slot : List Cond := kX4_slot :: tbG
abbrev cX4_shiftOf : ByteArray := prog_6_method_16_code
abbrev yX4_shiftOf : MethodName := ⟨"ThumbForgeModel", "shiftOf", "(I)I"⟩
abbrev kX4_shiftOf : Cond := .code yX4_shiftOf cX4_shiftOf 4 (some FieldType.int)
abbrev wsX4_shiftOf : List Cond := kX4_shiftOf :: tbG
abbrev cX4_isLiteral : ByteArray := prog_6_method_17_code
abbrev yX4_isLiteral : MethodName := ⟨"ThumbForgeModel", "isLiteral", "(I)Z"⟩
abbrev kX4_isLiteral : Cond := .code yX4_isLiteral cX4_isLiteral 1 (some FieldType.boolean)
abbrev wsX4_isLiteral : List Cond := kX4_isLiteral :: tbG
abbrev cX4_makeLength : ByteArray := prog_6_method_18_code
abbrev yX4_makeLength : MethodName := ⟨"ThumbForgeModel", "makeLength", "(I)I"⟩
abbrev kX4_makeLength : Cond := .code yX4_makeLength cX4_makeLength 1 (some FieldType.int)
abbrev wsX4_makeLength : List Cond := kX4_makeLength :: tbG
abbrev cX4_lengthOf : ByteArray := prog_6_method_19_code
abbrev yX4_lengthOf : MethodName := ⟨"ThumbForgeModel", "lengthOf", "(I)I"⟩
abbrev kX4_lengthOf : Cond := .code yX4_lengthOf cX4_lengthOf 2 (some FieldType.int)
abbrev wsX4_lengthOf : List Cond := kX4_lengthOf :: tbG
abbrev cX4_layOut : ByteArray := prog_6_method_20_code
abbrev yX4_layOut : MethodName := ⟨"ThumbForgeModel", "layOut", "()V"⟩
abbrev kX4_layOut : Cond := .code yX4_layOut cX4_layOut 2 none
abbrev wsX4_layOut : List Cond := kX4_layOut :: tbG
abbrev cX4_way : ByteArray := prog_6_method_21_code
abbrev yX4_way : MethodName := ⟨"ThumbForgeModel", "way", "(II)I"⟩
abbrev kX4_way : Cond := .code yX4_way cX4_way 3 (some FieldType.int)
abbrev wsX4_way : List Cond := kX4_way :: tbG
abbrev cX4_lengthen : ByteArray := prog_6_method_22_code
abbrev yX4_lengthen : MethodName := ⟨"ThumbForgeModel", "lengthen", "()V"⟩
abbrev kX4_lengthen : Cond := .code yX4_lengthen cX4_lengthen 4 none
abbrev wsX4_lengthen : List Cond := kX4_lengthen :: tbG
abbrev cX4_emit : ByteArray := prog_6_method_23_code
abbrev yX4_emit : MethodName := ⟨"ThumbForgeModel", "emit", "(I)V"⟩
abbrev kX4_emit : Cond := .code yX4_emit cX4_emit 2 none
abbrev wsX4_emit : List Cond := kX4_emit :: tbG
abbrev cX4_fetch : ByteArray := prog_6_method_24_code
abbrev yX4_fetch : MethodName := ⟨"ThumbForgeModel", "fetch", "(II)I"⟩
abbrev kX4_fetch : Cond := .code yX4_fetch cX4_fetch 3 (some FieldType.int)
abbrev wsX4_fetch : List Cond := kX4_fetch :: tbG
abbrev cX4_target : ByteArray := prog_6_method_25_code
abbrev yX4_target : MethodName := ⟨"ThumbForgeModel", "target", "(I)I"⟩
abbrev kX4_target : Cond := .code yX4_target cX4_target 1 (some FieldType.int)
abbrev wsX4_target : List Cond := kX4_target :: tbG
abbrev cX4_keep : ByteArray := prog_6_method_26_code
abbrev yX4_keep : MethodName := ⟨"ThumbForgeModel", "keep", "(I)V"⟩
abbrev kX4_keep : Cond := .code yX4_keep cX4_keep 2 none
abbrev wsX4_keep : List Cond := kX4_keep :: tbG
abbrev cX4_literal : ByteArray := prog_6_method_27_code
abbrev yX4_literal : MethodName := ⟨"ThumbForgeModel", "literal", "(II)V"⟩
abbrev kX4_literal : Cond := .code yX4_literal cX4_literal 5 none
abbrev wsX4_literal : List Cond := kX4_literal :: tbG
abbrev cX4_make : ByteArray := prog_6_method_28_code
abbrev yX4_make : MethodName := ⟨"ThumbForgeModel", "make", "(II)V"⟩
abbrev kX4_make : Cond := .code yX4_make cX4_make 4 none
abbrev wsX4_make : List Cond := kX4_make :: tbG
abbrev cX4_codeOf : ByteArray := prog_6_method_29_code
abbrev yX4_codeOf : MethodName := ⟨"ThumbForgeModel", "codeOf", "(I)I"⟩
abbrev kX4_codeOf : Cond := .code yX4_codeOf cX4_codeOf 1 (some FieldType.int)
abbrev wsX4_codeOf : List Cond := kX4_codeOf :: tbG
abbrev cX4_copy : ByteArray := prog_6_method_30_code
abbrev yX4_copy : MethodName := ⟨"ThumbForgeModel", "copy", "(I)V"⟩
abbrev kX4_copy : Cond := .code yX4_copy cX4_copy 2 none
abbrev wsX4_copy : List Cond := kX4_copy :: tbG
abbrev cX4_emitCompute : ByteArray := prog_6_method_31_code
abbrev yX4_emitCompute : MethodName := ⟨"ThumbForgeModel", "emitCompute", "(IIII)V"⟩
abbrev kX4_emitCompute : Cond := .code yX4_emitCompute cX4_emitCompute 7 none
abbrev wsX4_emitCompute : List Cond := kX4_emitCompute :: tbG
abbrev cX4_emitPlace : ByteArray := prog_6_method_32_code
abbrev yX4_emitPlace : MethodName := ⟨"ThumbForgeModel", "emitPlace", "(I)V"⟩
abbrev kX4_emitPlace : Cond := .code yX4_emitPlace cX4_emitPlace 2 none
abbrev wsX4_emitPlace : List Cond := kX4_emitPlace :: tbG
abbrev cX4_emitBranch : ByteArray := prog_6_method_33_code
abbrev yX4_emitBranch : MethodName := ⟨"ThumbForgeModel", "emitBranch", "(I)V"⟩
abbrev kX4_emitBranch : Cond := .code yX4_emitBranch cX4_emitBranch 4 none
abbrev wsX4_emitBranch : List Cond := kX4_emitBranch :: tbG
abbrev cX4_emitJump : ByteArray := prog_6_method_34_code
abbrev yX4_emitJump : MethodName := ⟨"ThumbForgeModel", "emitJump", "(I)V"⟩
abbrev kX4_emitJump : Cond := .code yX4_emitJump cX4_emitJump 2 none
abbrev wsX4_emitJump : List Cond := kX4_emitJump :: tbG
abbrev cX4_emitInstruction : ByteArray := prog_6_method_35_code
abbrev yX4_emitInstruction : MethodName := ⟨"ThumbForgeModel", "emitInstruction", "(I)V"⟩
abbrev kX4_emitInstruction : Cond := .code yX4_emitInstruction cX4_emitInstruction 3 none
abbrev wsX4_emitInstruction : List Cond := kX4_emitInstruction :: tbG
abbrev cX4_isSound : ByteArray := prog_6_method_36_code
abbrev yX4_isSound : MethodName := ⟨"ThumbForgeModel", "isSound", "()Z"⟩
abbrev kX4_isSound : Cond := .code yX4_isSound cX4_isSound 3 (some FieldType.boolean)
abbrev wsX4_isSound : List Cond := kX4_isSound :: tbG
abbrev cX4_forge : ByteArray := prog_6_method_37_code
abbrev yX4_forge : MethodName := ⟨"ThumbForgeModel", "forge", "()I"⟩
abbrev kX4_forge : Cond := .code yX4_forge cX4_forge 2 (some FieldType.int)
abbrev wsX4_forge : List Cond := kX4_forge :: tbG
abbrev cX4_halfword : ByteArray := prog_6_method_38_code
abbrev yX4_halfword : MethodName := ⟨"ThumbForgeModel", "halfword", "(I)I"⟩
abbrev kX4_halfword : Cond := .code yX4_halfword cX4_halfword 2 (some FieldType.int)
abbrev wsX4_halfword : List Cond := kX4_halfword :: tbG
abbrev cX4_place : ByteArray := prog_6_method_39_code
abbrev yX4_place : MethodName := ⟨"ThumbForgeModel", "place", "(I)I"⟩
abbrev kX4_place : Cond := .code yX4_place cX4_place 2 (some FieldType.int)
abbrev wsX4_place : List Cond := kX4_place :: tbG
abbrev cX4_poke : ByteArray := prog_6_method_40_code
abbrev yX4_poke : MethodName := ⟨"ThumbForgeModel", "poke", "(II)V"⟩
abbrev kX4_poke : Cond := .code yX4_poke cX4_poke 3 none
abbrev wsX4_poke : List Cond := kX4_poke :: tbG
abbrev cX4_memory : ByteArray := prog_6_method_41_code
abbrev yX4_memory : MethodName := ⟨"ThumbForgeModel", "memory", "(I)I"⟩
abbrev kX4_memory : Cond := .code yX4_memory cX4_memory 2 (some FieldType.int)
abbrev wsX4_memory : List Cond := kX4_memory :: tbG
abbrev cX4_start : ByteArray := prog_6_method_42_code
abbrev yX4_start : MethodName := ⟨"ThumbForgeModel", "start", "()V"⟩
abbrev kX4_start : Cond := .code yX4_start cX4_start 2 none
abbrev wsX4_start : List Cond := kX4_start :: tbG
abbrev cX4_computed : ByteArray := prog_6_method_43_code
abbrev yX4_computed : MethodName := ⟨"ThumbForgeModel", "computed", "(III)I"⟩
abbrev kX4_computed : Cond := .code yX4_computed cX4_computed 4 (some FieldType.int)
abbrev wsX4_computed : List Cond := kX4_computed :: tbG
abbrev cX4_holds : ByteArray := prog_6_method_44_code
abbrev yX4_holds : MethodName := ⟨"ThumbForgeModel", "holds", "(III)Z"⟩
abbrev kX4_holds : Cond := .code yX4_holds cX4_holds 7 (some FieldType.boolean)
abbrev wsX4_holds : List Cond := kX4_holds :: tbG
abbrev cX4_act : ByteArray := prog_6_method_45_code
abbrev yX4_act : MethodName := ⟨"ThumbForgeModel", "act", "(I)I"⟩
abbrev kX4_act : Cond := .code yX4_act cX4_act 3 (some FieldType.int)
abbrev wsX4_act : List Cond := kX4_act :: tbG
abbrev cX4_run : ByteArray := prog_6_method_46_code
abbrev yX4_run : MethodName := ⟨"ThumbForgeModel", "run", "(I)I"⟩
abbrev kX4_run : Cond := .code yX4_run cX4_run 3 (some FieldType.int)
abbrev wsX4_run : List Cond := kX4_run :: tbG
abbrev cX4_state : ByteArray := prog_6_method_47_code
abbrev yX4_state : MethodName := ⟨"ThumbForgeModel", "state", "()I"⟩
abbrev kX4_state : Cond := .code yX4_state cX4_state 1 (some FieldType.int)
abbrev wsX4_state : List Cond := kX4_state :: tbG
abbrev cX4_at : ByteArray := prog_6_method_48_code
abbrev yX4_at : MethodName := ⟨"ThumbForgeModel", "at", "()I"⟩
abbrev kX4_at : Cond := .code yX4_at cX4_at 1 (some FieldType.int)
abbrev wsX4_at : List Cond := kX4_at :: tbG
abbrev cX4_variable : ByteArray := prog_6_method_49_code
abbrev yX4_variable : MethodName := ⟨"ThumbForgeModel", "variable", "(I)I"⟩
abbrev kX4_variable : Cond := .code yX4_variable cX4_variable 2 (some FieldType.int)
abbrev wsX4_variable : List Cond := kX4_variable :: tbG
abbrev cX4_outputs : ByteArray := prog_6_method_50_code
abbrev yX4_outputs : MethodName := ⟨"ThumbForgeModel", "outputs", "()I"⟩
abbrev kX4_outputs : Cond := .code yX4_outputs cX4_outputs 1 (some FieldType.int)
abbrev wsX4_outputs : List Cond := kX4_outputs :: tbG
abbrev cX4_output : ByteArray := prog_6_method_51_code
abbrev yX4_output : MethodName := ⟨"ThumbForgeModel", "output", "(I)I"⟩
abbrev kX4_output : Cond := .code yX4_output cX4_output 2 (some FieldType.int)
abbrev wsX4_output : List Cond := kX4_output :: tbG
abbrev cX0_init : ByteArray := prog_2_method_1_code
abbrev yX0_init : MethodName := ⟨"ThumbForge$Image", "<init>", "(LThumbForge$Program;)V"⟩
abbrev kX0_init : Cond := .code yX0_init cX0_init 2 none
abbrev wsX0_init : List Cond := kX0_init :: tbG
abbrev cX0_make : ByteArray := prog_2_method_2_code
abbrev yX0_make : MethodName := ⟨"ThumbForge$Image", "make", "()V"⟩
abbrev kX0_make : Cond := .code yX0_make cX0_make 2 none
abbrev wsX0_make : List Cond := kX0_make :: tbG
abbrev cX0_lengthOf : ByteArray := prog_2_method_3_code
abbrev yX0_lengthOf : MethodName := ⟨"ThumbForge$Image", "lengthOf", "(I)I"⟩
abbrev kX0_lengthOf : Cond := .code yX0_lengthOf cX0_lengthOf 2 (some FieldType.int)
abbrev wsX0_lengthOf : List Cond := kX0_lengthOf :: tbG
abbrev cX0_lengthenBranches : ByteArray := prog_2_method_4_code
abbrev yX0_lengthenBranches : MethodName := ⟨"ThumbForge$Image", "lengthenBranches", "()Z"⟩
abbrev kX0_lengthenBranches : Cond := .code yX0_lengthenBranches cX0_lengthenBranches 3 (some FieldType.boolean)
abbrev wsX0_lengthenBranches : List Cond := kX0_lengthenBranches :: tbG
abbrev cX0_reaches : ByteArray := prog_2_method_5_code
abbrev yX0_reaches : MethodName := ⟨"ThumbForge$Image", "reaches", "(I)Z"⟩
abbrev kX0_reaches : Cond := .code yX0_reaches cX0_reaches 3 (some FieldType.boolean)
abbrev wsX0_reaches : List Cond := kX0_reaches :: tbG
abbrev cX0_distance : ByteArray := prog_2_method_6_code
abbrev yX0_distance : MethodName := ⟨"ThumbForge$Image", "distance", "(II)I"⟩
abbrev kX0_distance : Cond := .code yX0_distance cX0_distance 3 (some FieldType.int)
abbrev wsX0_distance : List Cond := kX0_distance :: tbG
abbrev cX0_writeCode : ByteArray := prog_2_method_7_code
abbrev yX0_writeCode : MethodName := ⟨"ThumbForge$Image", "writeCode", "()V"⟩
abbrev kX0_writeCode : Cond := .code yX0_writeCode cX0_writeCode 2 none
abbrev wsX0_writeCode : List Cond := kX0_writeCode :: tbG
abbrev cX0_writePool : ByteArray := prog_2_method_8_code
abbrev yX0_writePool : MethodName := ⟨"ThumbForge$Image", "writePool", "()V"⟩
abbrev kX0_writePool : Cond := .code yX0_writePool cX0_writePool 2 none
abbrev wsX0_writePool : List Cond := kX0_writePool :: tbG
abbrev cX0_writeInstruction : ByteArray := prog_2_method_9_code
abbrev yX0_writeInstruction : MethodName := ⟨"ThumbForge$Image", "writeInstruction", "(I)V"⟩
abbrev kX0_writeInstruction : Cond := .code yX0_writeInstruction cX0_writeInstruction 6 none
abbrev wsX0_writeInstruction : List Cond := kX0_writeInstruction :: tbG
abbrev cX0_writeNumber : ByteArray := prog_2_method_10_code
abbrev yX0_writeNumber : MethodName := ⟨"ThumbForge$Image", "writeNumber", "(II)V"⟩
abbrev kX0_writeNumber : Cond := .code yX0_writeNumber cX0_writeNumber 4 none
abbrev wsX0_writeNumber : List Cond := kX0_writeNumber :: tbG
abbrev cX0_leastShift : ByteArray := prog_2_method_11_code
abbrev yX0_leastShift : MethodName := ⟨"ThumbForge$Image", "leastShift", "(I)I"⟩
abbrev kX0_leastShift : Cond := .code yX0_leastShift cX0_leastShift 3 (some FieldType.int)
abbrev wsX0_leastShift : List Cond := kX0_leastShift :: tbG
abbrev cX0_writeLiteral : ByteArray := prog_2_method_12_code
abbrev yX0_writeLiteral : MethodName := ⟨"ThumbForge$Image", "writeLiteral", "(II)V"⟩
abbrev kX0_writeLiteral : Cond := .code yX0_writeLiteral cX0_writeLiteral 5 none
abbrev wsX0_writeLiteral : List Cond := kX0_writeLiteral :: tbG
abbrev cX0_literalIndex : ByteArray := prog_2_method_13_code
abbrev yX0_literalIndex : MethodName := ⟨"ThumbForge$Image", "literalIndex", "(I)I"⟩
abbrev kX0_literalIndex : Cond := .code yX0_literalIndex cX0_literalIndex 3 (some FieldType.int)
abbrev wsX0_literalIndex : List Cond := kX0_literalIndex :: tbG
abbrev cX0_writeCompute : ByteArray := prog_2_method_14_code
abbrev yX0_writeCompute : MethodName := ⟨"ThumbForge$Image", "writeCompute", "(IIII)V"⟩
abbrev kX0_writeCompute : Cond := .code yX0_writeCompute cX0_writeCompute 7 none
abbrev wsX0_writeCompute : List Cond := kX0_writeCompute :: tbG
abbrev cX0_writeWordChoice : ByteArray := prog_2_method_15_code
abbrev yX0_writeWordChoice : MethodName := ⟨"ThumbForge$Image", "writeWordChoice", "(I)V"⟩
abbrev kX0_writeWordChoice : Cond := .code yX0_writeWordChoice cX0_writeWordChoice 3 none
abbrev wsX0_writeWordChoice : List Cond := kX0_writeWordChoice :: tbG
abbrev cX0_writeBranch : ByteArray := prog_2_method_16_code
abbrev yX0_writeBranch : MethodName := ⟨"ThumbForge$Image", "writeBranch", "(IIIIZ)V"⟩
abbrev kX0_writeBranch : Cond := .code yX0_writeBranch cX0_writeBranch 8 none
abbrev wsX0_writeBranch : List Cond := kX0_writeBranch :: tbG
abbrev cX0_writeJump : ByteArray := prog_2_method_17_code
abbrev yX0_writeJump : MethodName := ⟨"ThumbForge$Image", "writeJump", "(I)V"⟩
abbrev kX0_writeJump : Cond := .code yX0_writeJump cX0_writeJump 2 none
abbrev wsX0_writeJump : List Cond := kX0_writeJump :: tbG
abbrev cX0_fetch : ByteArray := prog_2_method_18_code
abbrev yX0_fetch : MethodName := ⟨"ThumbForge$Image", "fetch", "(II)I"⟩
abbrev kX0_fetch : Cond := .code yX0_fetch cX0_fetch 3 (some FieldType.int)
abbrev wsX0_fetch : List Cond := kX0_fetch :: tbG
abbrev cX0_copyTo0 : ByteArray := prog_2_method_19_code
abbrev yX0_copyTo0 : MethodName := ⟨"ThumbForge$Image", "copyTo0", "(I)V"⟩
abbrev kX0_copyTo0 : Cond := .code yX0_copyTo0 cX0_copyTo0 2 none
abbrev wsX0_copyTo0 : List Cond := kX0_copyTo0 :: tbG
abbrev cX0_keep : ByteArray := prog_2_method_20_code
abbrev yX0_keep : MethodName := ⟨"ThumbForge$Image", "keep", "(I)V"⟩
abbrev kX0_keep : Cond := .code yX0_keep cX0_keep 2 none
abbrev wsX0_keep : List Cond := kX0_keep :: tbG
abbrev cX0_targetOf : ByteArray := prog_2_method_21_code
abbrev yX0_targetOf : MethodName := ⟨"ThumbForge$Image", "targetOf", "(I)I"⟩
abbrev kX0_targetOf : Cond := .code yX0_targetOf cX0_targetOf 1 (some FieldType.int)
abbrev wsX0_targetOf : List Cond := kX0_targetOf :: tbG
abbrev cX0_hasRegister : ByteArray := prog_2_method_22_code
abbrev yX0_hasRegister : MethodName := ⟨"ThumbForge$Image", "hasRegister", "(I)Z"⟩
abbrev kX0_hasRegister : Cond := .code yX0_hasRegister cX0_hasRegister 1 (some FieldType.boolean)
abbrev wsX0_hasRegister : List Cond := kX0_hasRegister :: tbG
abbrev cX0_registerOf : ByteArray := prog_2_method_23_code
abbrev yX0_registerOf : MethodName := ⟨"ThumbForge$Image", "registerOf", "(I)I"⟩
abbrev kX0_registerOf : Cond := .code yX0_registerOf cX0_registerOf 1 (some FieldType.int)
abbrev wsX0_registerOf : List Cond := kX0_registerOf :: tbG
abbrev cX0_slotOf : ByteArray := prog_2_method_24_code
abbrev yX0_slotOf : MethodName := ⟨"ThumbForge$Image", "slotOf", "(I)I"⟩
abbrev kX0_slotOf : Cond := .code yX0_slotOf cX0_slotOf 1 (some FieldType.int)
abbrev wsX0_slotOf : List Cond := kX0_slotOf :: tbG
abbrev cX0_put : ByteArray := prog_2_method_25_code
abbrev yX0_put : MethodName := ⟨"ThumbForge$Image", "put", "(I)V"⟩
abbrev kX0_put : Cond := .code yX0_put cX0_put 2 none
abbrev wsX0_put : List Cond := kX0_put :: tbG
abbrev cX1_init : ByteArray := prog_3_method_1_code
abbrev yX1_init : MethodName := ⟨"ThumbForge$Machine", "<init>", "(LThumbForge$Program;LThumbForge$Image;)V"⟩
abbrev kX1_init : Cond := .code yX1_init cX1_init 3 none
abbrev wsX1_init : List Cond := kX1_init :: tbG
abbrev cX1_turnOff : ByteArray := prog_3_method_2_code
abbrev yX1_turnOff : MethodName := ⟨"ThumbForge$Machine", "turnOff", "()V"⟩
abbrev kX1_turnOff : Cond := .code yX1_turnOff cX1_turnOff 1 none
abbrev wsX1_turnOff : List Cond := kX1_turnOff :: tbG
abbrev cX1_turnOn : ByteArray := prog_3_method_3_code
abbrev yX1_turnOn : MethodName := ⟨"ThumbForge$Machine", "turnOn", "()V"⟩
abbrev kX1_turnOn : Cond := .code yX1_turnOn cX1_turnOn 2 none
abbrev wsX1_turnOn : List Cond := kX1_turnOn :: tbG
abbrev cX1_goOn : ByteArray := prog_3_method_4_code
abbrev yX1_goOn : MethodName := ⟨"ThumbForge$Machine", "goOn", "(I)I"⟩
abbrev kX1_goOn : Cond := .code yX1_goOn cX1_goOn 4 (some FieldType.int)
abbrev wsX1_goOn : List Cond := kX1_goOn :: tbG
abbrev cX1_keeps : ByteArray := prog_3_method_5_code
abbrev yX1_keeps : MethodName := ⟨"ThumbForge$Machine", "keeps", "(I)Z"⟩
abbrev kX1_keeps : Cond := .code yX1_keeps cX1_keeps 2 (some FieldType.boolean)
abbrev wsX1_keeps : List Cond := kX1_keeps :: tbG
abbrev cX1_keptOutput : ByteArray := prog_3_method_6_code
abbrev yX1_keptOutput : MethodName := ⟨"ThumbForge$Machine", "keptOutput", "(I)I"⟩
abbrev kX1_keptOutput : Cond := .code yX1_keptOutput cX1_keptOutput 2 (some FieldType.int)
abbrev wsX1_keptOutput : List Cond := kX1_keptOutput :: tbG
abbrev cX1_step : ByteArray := prog_3_method_7_code
abbrev yX1_step : MethodName := ⟨"ThumbForge$Machine", "step", "()I"⟩
abbrev kX1_step : Cond := .code yX1_step cX1_step 6 (some FieldType.int)
abbrev wsX1_step : List Cond := kX1_step :: tbG
abbrev cX1_putOut : ByteArray := prog_3_method_8_code
abbrev yX1_putOut : MethodName := ⟨"ThumbForge$Machine", "putOut", "(I)V"⟩
abbrev kX1_putOut : Cond := .code yX1_putOut cX1_putOut 2 none
abbrev wsX1_putOut : List Cond := kX1_putOut :: tbG
abbrev cX1_result : ByteArray := prog_3_method_9_code
abbrev yX1_result : MethodName := ⟨"ThumbForge$Machine", "result", "(III)I"⟩
abbrev kX1_result : Cond := .code yX1_result cX1_result 4 (some FieldType.int)
abbrev wsX1_result : List Cond := kX1_result :: tbG
abbrev cX1_holds : ByteArray := prog_3_method_10_code
abbrev yX1_holds : MethodName := ⟨"ThumbForge$Machine", "holds", "(III)Z"⟩
abbrev kX1_holds : Cond := .code yX1_holds cX1_holds 5 (some FieldType.boolean)
abbrev wsX1_holds : List Cond := kX1_holds :: tbG
abbrev cX2_init : ByteArray := prog_4_method_1_code
abbrev yX2_init : MethodName := ⟨"ThumbForge$Program", "<init>", "()V"⟩
abbrev kX2_init : Cond := .code yX2_init cX2_init 1 none
abbrev wsX2_init : List Cond := kX2_init :: tbG
abbrev cX2_empty : ByteArray := prog_4_method_2_code
abbrev yX2_empty : MethodName := ⟨"ThumbForge$Program", "empty", "()V"⟩
abbrev kX2_empty : Cond := .code yX2_empty cX2_empty 1 none
abbrev wsX2_empty : List Cond := kX2_empty :: tbG
abbrev cX2_add : ByteArray := prog_4_method_3_code
abbrev yX2_add : MethodName := ⟨"ThumbForge$Program", "add", "(IIIIII)I"⟩
abbrev kX2_add : Cond := .code yX2_add cX2_add 8 (some FieldType.int)
abbrev wsX2_add : List Cond := kX2_add :: tbG
abbrev cX2_canBeForged : ByteArray := prog_4_method_4_code
abbrev yX2_canBeForged : MethodName := ⟨"ThumbForge$Program", "canBeForged", "()Z"⟩
abbrev kX2_canBeForged : Cond := .code yX2_canBeForged cX2_canBeForged 2 (some FieldType.boolean)
abbrev wsX2_canBeForged : List Cond := kX2_canBeForged :: tbG
abbrev cX2_neverGoesOnBehind : ByteArray := prog_4_method_5_code
abbrev yX2_neverGoesOnBehind : MethodName := ⟨"ThumbForge$Program", "neverGoesOnBehind", "(I)Z"⟩
abbrev kX2_neverGoesOnBehind : Cond := .code yX2_neverGoesOnBehind cX2_neverGoesOnBehind 1 (some FieldType.boolean)
abbrev wsX2_neverGoesOnBehind : List Cond := kX2_neverGoesOnBehind :: tbG
abbrev cL_constant : ByteArray := method_3_code
abbrev yL_constant : MethodName := ⟨"ThumbForgeLaw", "constant", "(LThumbForge;II[J)I"⟩
abbrev hL_constant : List (Nat × Nat × Nat × Nat) := [(0, 10, 13, 13), (0, 10, 17, 15)]
abbrev kL_constant : Cond := .codeWith yL_constant cL_constant 5 (some FieldType.int) hL_constant
abbrev wsL_constant : List Cond := kL_constant :: tbG
abbrev cL_compute : ByteArray := method_4_code
abbrev yL_compute : MethodName := ⟨"ThumbForgeLaw", "compute", "(LThumbForge;IIII[J)I"⟩
abbrev hL_compute : List (Nat × Nat × Nat × Nat) := [(0, 14, 17, 13), (0, 14, 21, 15)]
abbrev kL_compute : Cond := .codeWith yL_compute cL_compute 7 (some FieldType.int) hL_compute
abbrev wsL_compute : List Cond := kL_compute :: tbG
abbrev cL_load : ByteArray := method_5_code
abbrev yL_load : MethodName := ⟨"ThumbForgeLaw", "load", "(LThumbForge;II[J)I"⟩
abbrev hL_load : List (Nat × Nat × Nat × Nat) := [(0, 10, 13, 13), (0, 10, 17, 15)]
abbrev kL_load : Cond := .codeWith yL_load cL_load 5 (some FieldType.int) hL_load
abbrev wsL_load : List Cond := kL_load :: tbG
abbrev cL_store : ByteArray := method_6_code
abbrev yL_store : MethodName := ⟨"ThumbForgeLaw", "store", "(LThumbForge;II[J)I"⟩
abbrev hL_store : List (Nat × Nat × Nat × Nat) := [(0, 10, 13, 13), (0, 10, 17, 15)]
abbrev kL_store : Cond := .codeWith yL_store cL_store 5 (some FieldType.int) hL_store
abbrev wsL_store : List Cond := kL_store :: tbG
abbrev cL_jump : ByteArray := method_7_code
abbrev yL_jump : MethodName := ⟨"ThumbForgeLaw", "jump", "(LThumbForge;I[J)I"⟩
abbrev hL_jump : List (Nat × Nat × Nat × Nat) := [(0, 9, 12, 13), (0, 9, 15, 15)]
abbrev kL_jump : Cond := .codeWith yL_jump cL_jump 4 (some FieldType.int) hL_jump
abbrev wsL_jump : List Cond := kL_jump :: tbG
abbrev cL_branch : ByteArray := method_8_code
abbrev yL_branch : MethodName := ⟨"ThumbForgeLaw", "branch", "(LThumbForge;IIII[J)I"⟩
abbrev hL_branch : List (Nat × Nat × Nat × Nat) := [(0, 14, 17, 13), (0, 14, 21, 15)]
abbrev kL_branch : Cond := .codeWith yL_branch cL_branch 7 (some FieldType.int) hL_branch
abbrev wsL_branch : List Cond := kL_branch :: tbG
abbrev cL_out : ByteArray := method_9_code
abbrev yL_out : MethodName := ⟨"ThumbForgeLaw", "out", "(LThumbForge;I[J)I"⟩
abbrev hL_out : List (Nat × Nat × Nat × Nat) := [(0, 9, 12, 13), (0, 9, 15, 15)]
abbrev kL_out : Cond := .codeWith yL_out cL_out 4 (some FieldType.int) hL_out
abbrev wsL_out : List Cond := kL_out :: tbG
abbrev cL_stop : ByteArray := method_10_code
abbrev yL_stop : MethodName := ⟨"ThumbForgeLaw", "stop", "(LThumbForge;I[J)I"⟩
abbrev hL_stop : List (Nat × Nat × Nat × Nat) := [(0, 9, 12, 13), (0, 9, 15, 15)]
abbrev kL_stop : Cond := .codeWith yL_stop cL_stop 4 (some FieldType.int) hL_stop
abbrev wsL_stop : List Cond := kL_stop :: tbG
abbrev cL_forge : ByteArray := method_11_code
abbrev yL_forge : MethodName := ⟨"ThumbForgeLaw", "forge", "(LThumbForge;[J)I"⟩
abbrev hL_forge : List (Nat × Nat × Nat × Nat) := [(0, 8, 11, 15)]
abbrev kL_forge : Cond := .codeWith yL_forge cL_forge 3 (some FieldType.int) hL_forge
abbrev wsL_forge : List Cond := kL_forge :: tbG
abbrev cL_halfword : ByteArray := method_12_code
abbrev yL_halfword : MethodName := ⟨"ThumbForgeLaw", "halfword", "(LThumbForge;I[J)I"⟩
abbrev hL_halfword : List (Nat × Nat × Nat × Nat) := [(0, 9, 12, 47)]
abbrev kL_halfword : Cond := .codeWith yL_halfword cL_halfword 4 (some FieldType.int) hL_halfword
abbrev wsL_halfword : List Cond := kL_halfword :: tbG
abbrev cL_place : ByteArray := method_13_code
abbrev yL_place : MethodName := ⟨"ThumbForgeLaw", "place", "(LThumbForge;I[J)I"⟩
abbrev hL_place : List (Nat × Nat × Nat × Nat) := [(0, 9, 12, 47)]
abbrev kL_place : Cond := .codeWith yL_place cL_place 4 (some FieldType.int) hL_place
abbrev wsL_place : List Cond := kL_place :: tbG
abbrev cL_poke : ByteArray := method_14_code
abbrev yL_poke : MethodName := ⟨"ThumbForgeLaw", "poke", "(LThumbForge;II)I"⟩
abbrev hL_poke : List (Nat × Nat × Nat × Nat) := [(0, 6, 9, 13)]
abbrev kL_poke : Cond := .codeWith yL_poke cL_poke 4 (some FieldType.int) hL_poke
abbrev wsL_poke : List Cond := kL_poke :: tbG
abbrev cL_memory : ByteArray := method_15_code
abbrev yL_memory : MethodName := ⟨"ThumbForgeLaw", "memory", "(LThumbForge;I[J)I"⟩
abbrev hL_memory : List (Nat × Nat × Nat × Nat) := [(0, 9, 12, 13)]
abbrev kL_memory : Cond := .codeWith yL_memory cL_memory 4 (some FieldType.int) hL_memory
abbrev wsL_memory : List Cond := kL_memory :: tbG
abbrev cL_start : ByteArray := method_16_code
abbrev yL_start : MethodName := ⟨"ThumbForgeLaw", "start", "(LThumbForge;)I"⟩
abbrev hL_start : List (Nat × Nat × Nat × Nat) := [(0, 4, 7, 15)]
abbrev kL_start : Cond := .codeWith yL_start cL_start 2 (some FieldType.int) hL_start
abbrev wsL_start : List Cond := kL_start :: tbG
abbrev cL_run : ByteArray := method_17_code
abbrev yL_run : MethodName := ⟨"ThumbForgeLaw", "run", "(LThumbForge;I[J)I"⟩
abbrev hL_run : List (Nat × Nat × Nat × Nat) := [(0, 9, 12, 13), (0, 9, 15, 15)]
abbrev kL_run : Cond := .codeWith yL_run cL_run 4 (some FieldType.int) hL_run
abbrev wsL_run : List Cond := kL_run :: tbG
abbrev cL_variable : ByteArray := method_18_code
abbrev yL_variable : MethodName := ⟨"ThumbForgeLaw", "variable", "(LThumbForge;I[J)I"⟩
abbrev hL_variable : List (Nat × Nat × Nat × Nat) := [(0, 9, 12, 13), (0, 9, 15, 15)]
abbrev kL_variable : Cond := .codeWith yL_variable cL_variable 4 (some FieldType.int) hL_variable
abbrev wsL_variable : List Cond := kL_variable :: tbG
abbrev cL_output : ByteArray := method_19_code
abbrev yL_output : MethodName := ⟨"ThumbForgeLaw", "output", "(LThumbForge;I[J)I"⟩
abbrev hL_output : List (Nat × Nat × Nat × Nat) := [(0, 9, 12, 47)]
abbrev kL_output : Cond := .codeWith yL_output cL_output 4 (some FieldType.int) hL_output
abbrev wsL_output : List Cond := kL_output :: tbG
abbrev cL_law : ByteArray := code
theorem tw_1_0 : Cond.initialized "ThumbForgeLaw" ∈ tbG := tb_in (tb_1 0 rfl) rfl
theorem tw_1_1 : Cond.initialized "ThumbForge" ∈ tbG := tb_in (tb_1 1 rfl) rfl
theorem tw_1_2 : Cond.initialized "ThumbForge$Program" ∈ tbG := tb_in (tb_1 2 rfl) rfl
theorem tw_1_3 : Cond.initialized "ThumbForge$Image" ∈ tbG := tb_in (tb_1 3 rfl) rfl
theorem tw_1_4 : Cond.initialized "ThumbForge$Machine" ∈ tbG := tb_in (tb_1 4 rfl) rfl
theorem tw_1_5 : Cond.initialized "ThumbForgeModel" ∈ tbG := tb_in (tb_1 5 rfl) rfl
theorem tw_1_6 : Cond.initialized "java/lang/Throwable" ∈ tbG := tb_in (tb_1 6 rfl) rfl
theorem tw_1_7 : Cond.initialized "java/lang/Exception" ∈ tbG := tb_in (tb_1 7 rfl) rfl
theorem tw_1_8 : Cond.initialized "java/lang/RuntimeException" ∈ tbG := tb_in (tb_1 8 rfl) rfl
theorem tw_1_9 : Cond.initialized "java/lang/IllegalArgumentException" ∈ tbG := tb_in (tb_1 9 rfl) rfl
theorem tw_1_10 : Cond.initialized "java/lang/IllegalStateException" ∈ tbG := tb_in (tb_1 10 rfl) rfl
theorem tw_1_11 : Cond.initialized "java/util/NoSuchElementException" ∈ tbG := tb_in (tb_1 11 rfl) rfl
theorem tw_1_12 : Cond.classLink "ThumbForgeLaw" 8 "ThumbForge" ∈ tbG := tb_in (tb_1 12 rfl) rfl
theorem tw_1_13 : Cond.instantiable "ThumbForge" 3 ∈ tbG := tb_in (tb_1 13 rfl) rfl
theorem tw_1_14 : Cond.methodLink "ThumbForgeLaw" 71 ⟨"ThumbForge", "<init>", "()V"⟩ ∈ tbG := tb_in (tb_1 14 rfl) rfl
theorem tw_1_15 : Cond.instanceMethod ⟨"ThumbForge", "<init>", "()V"⟩ ∈ tbG := tb_in (tb_1 15 rfl) rfl
theorem tw_1_16 : Cond.code ⟨"ThumbForge", "<init>", "()V"⟩ prog_1_method_1_code 1 none ∈ tbG := tb_in (tb_1 16 rfl) rfl
theorem tw_1_17 : Cond.methodLink "ThumbForge" 1 ⟨"java/lang/Object", "<init>", "()V"⟩ ∈ tbG := tb_in (tb_1 17 rfl) rfl
theorem tw_1_18 : Cond.instanceMethod ⟨"java/lang/Object", "<init>", "()V"⟩ ∈ tbG := tb_in (tb_1 18 rfl) rfl
theorem tw_1_19 : Cond.code ⟨"java/lang/Object", "<init>", "()V"⟩ object_method_1_code 1 none ∈ tbG := tb_in (tb_1 19 rfl) rfl
theorem tw_1_20 : Cond.classLink "ThumbForge" 7 "ThumbForge$Program" ∈ tbG := tb_in (tb_1 20 rfl) rfl
theorem tw_1_21 : Cond.instantiable "ThumbForge$Program" 7 ∈ tbG := tb_in (tb_1 21 rfl) rfl
theorem tw_1_23 : Cond.instanceMethod ⟨"ThumbForge$Program", "<init>", "()V"⟩ ∈ tbG := tb_in (tb_1 23 rfl) rfl
theorem tw_1_24 : Cond.code ⟨"ThumbForge$Program", "<init>", "()V"⟩ prog_4_method_1_code 1 none ∈ tbG := tb_in (tb_1 24 rfl) rfl
theorem tw_1_25 : Cond.methodLink "ThumbForge$Program" 3 ⟨"java/lang/Object", "<init>", "()V"⟩ ∈ tbG := tb_in (tb_1 25 rfl) rfl
theorem tw_1_26 : Cond.fieldLink "ThumbForge$Program" 9 "ThumbForge$Program" "kinds" "[I" ∈ tbG := tb_in (tb_1 26 rfl) rfl
theorem tw_1_27 : Cond.fieldLink "ThumbForge$Image" 49 "ThumbForge$Program" "kinds" "[I" ∈ tbG := tb_in (tb_1 27 rfl) rfl
theorem tw_1_28 : Cond.fieldLink "ThumbForge$Machine" 60 "ThumbForge$Program" "kinds" "[I" ∈ tbG := tb_in (tb_1 28 rfl) rfl
theorem tw_1_29 : Cond.fieldLink "ThumbForge$Program" 15 "ThumbForge$Program" "codes" "[I" ∈ tbG := tb_in (tb_1 29 rfl) rfl
theorem tw_1_30 : Cond.fieldLink "ThumbForge$Machine" 66 "ThumbForge$Program" "codes" "[I" ∈ tbG := tb_in (tb_1 30 rfl) rfl
theorem tw_1_31 : Cond.fieldLink "ThumbForge$Image" 104 "ThumbForge$Program" "codes" "[I" ∈ tbG := tb_in (tb_1 31 rfl) rfl
theorem tw_1_32 : Cond.fieldLink "ThumbForge$Program" 18 "ThumbForge$Program" "targets" "[I" ∈ tbG := tb_in (tb_1 32 rfl) rfl
theorem tw_1_33 : Cond.fieldLink "ThumbForge$Machine" 63 "ThumbForge$Program" "targets" "[I" ∈ tbG := tb_in (tb_1 33 rfl) rfl
theorem tw_1_34 : Cond.fieldLink "ThumbForge$Image" 85 "ThumbForge$Program" "targets" "[I" ∈ tbG := tb_in (tb_1 34 rfl) rfl
theorem tw_1_35 : Cond.fieldLink "ThumbForge$Program" 21 "ThumbForge$Program" "firsts" "[I" ∈ tbG := tb_in (tb_1 35 rfl) rfl
theorem tw_1_36 : Cond.fieldLink "ThumbForge$Machine" 43 "ThumbForge$Program" "firsts" "[I" ∈ tbG := tb_in (tb_1 36 rfl) rfl
theorem tw_1_37 : Cond.fieldLink "ThumbForge$Image" 88 "ThumbForge$Program" "firsts" "[I" ∈ tbG := tb_in (tb_1 37 rfl) rfl
theorem tw_1_38 : Cond.fieldLink "ThumbForge$Program" 24 "ThumbForge$Program" "seconds" "[I" ∈ tbG := tb_in (tb_1 38 rfl) rfl
theorem tw_1_39 : Cond.fieldLink "ThumbForge$Machine" 48 "ThumbForge$Program" "seconds" "[I" ∈ tbG := tb_in (tb_1 39 rfl) rfl
theorem tw_1_40 : Cond.fieldLink "ThumbForge$Image" 91 "ThumbForge$Program" "seconds" "[I" ∈ tbG := tb_in (tb_1 40 rfl) rfl
theorem tw_1_41 : Cond.fieldLink "ThumbForge$Program" 27 "ThumbForge$Program" "numbers" "[I" ∈ tbG := tb_in (tb_1 41 rfl) rfl
theorem tw_1_42 : Cond.fieldLink "ThumbForge$Image" 56 "ThumbForge$Program" "numbers" "[I" ∈ tbG := tb_in (tb_1 42 rfl) rfl
theorem tw_1_43 : Cond.fieldLink "ThumbForge$Machine" 51 "ThumbForge$Program" "numbers" "[I" ∈ tbG := tb_in (tb_1 43 rfl) rfl
theorem tw_1_44 : Cond.fieldLink "ThumbForge$Program" 30 "ThumbForge$Program" "count" "I" ∈ tbG := tb_in (tb_1 44 rfl) rfl
theorem tw_1_45 : Cond.fieldLink "ThumbForge$Image" 43 "ThumbForge$Program" "count" "I" ∈ tbG := tb_in (tb_1 45 rfl) rfl
theorem tw_1_46 : Cond.fieldLink "ThumbForge" 98 "ThumbForge$Program" "count" "I" ∈ tbG := tb_in (tb_1 46 rfl) rfl
theorem tw_1_47 : Cond.laysFinal "ThumbForge$Program" "ThumbForge$Program" "kinds" "[I" ∈ tbG := tb_in (tb_1 47 rfl) rfl
theorem tw_1_48 : Cond.soleField "ThumbForge$Program" "kinds" ∈ tbG := tb_in (tb_1 48 rfl) rfl
theorem tw_1_49 : Cond.laysFinal "ThumbForge$Program" "ThumbForge$Program" "codes" "[I" ∈ tbG := tb_in (tb_1 49 rfl) rfl
theorem tw_1_50 : Cond.soleField "ThumbForge$Program" "codes" ∈ tbG := tb_in (tb_1 50 rfl) rfl
theorem tw_1_51 : Cond.laysFinal "ThumbForge$Program" "ThumbForge$Program" "targets" "[I" ∈ tbG := tb_in (tb_1 51 rfl) rfl
theorem tw_1_52 : Cond.soleField "ThumbForge$Program" "targets" ∈ tbG := tb_in (tb_1 52 rfl) rfl
theorem tw_1_53 : Cond.laysFinal "ThumbForge$Program" "ThumbForge$Program" "firsts" "[I" ∈ tbG := tb_in (tb_1 53 rfl) rfl
theorem tw_1_54 : Cond.soleField "ThumbForge$Program" "firsts" ∈ tbG := tb_in (tb_1 54 rfl) rfl
theorem tw_1_55 : Cond.laysFinal "ThumbForge$Program" "ThumbForge$Program" "seconds" "[I" ∈ tbG := tb_in (tb_1 55 rfl) rfl
theorem tw_1_56 : Cond.soleField "ThumbForge$Program" "seconds" ∈ tbG := tb_in (tb_1 56 rfl) rfl
theorem tw_1_57 : Cond.laysFinal "ThumbForge$Program" "ThumbForge$Program" "numbers" "[I" ∈ tbG := tb_in (tb_1 57 rfl) rfl
theorem tw_1_58 : Cond.soleField "ThumbForge$Program" "numbers" ∈ tbG := tb_in (tb_1 58 rfl) rfl
theorem tw_1_59 : Cond.lays "ThumbForge$Program" "ThumbForge$Program" "count" "I" ∈ tbG := tb_in (tb_1 59 rfl) rfl
theorem tw_1_60 : Cond.soleField "ThumbForge$Program" "count" ∈ tbG := tb_in (tb_1 60 rfl) rfl
theorem tw_1_61 : Cond.superclass "ThumbForge$Program" "java/lang/Object" ∈ tbG := tb_in (tb_1 61 rfl) rfl
theorem tw_1_62 : Cond.arrayClass FieldType.int ∈ tbG := tb_in (tb_1 62 rfl) rfl
theorem tw_1_63 : Cond.classLink "ThumbForge" 16 "ThumbForge$Image" ∈ tbG := tb_in (tb_1 63 rfl) rfl
theorem tw_1_64 : Cond.instantiable "ThumbForge$Image" 9 ∈ tbG := tb_in (tb_1 64 rfl) rfl
theorem tw_1_65 : Cond.methodLink "ThumbForge" 18 ⟨"ThumbForge$Image", "<init>", "(LThumbForge$Program;)V"⟩ ∈ tbG := tb_in (tb_1 65 rfl) rfl
theorem tw_1_66 : Cond.instanceMethod ⟨"ThumbForge$Image", "<init>", "(LThumbForge$Program;)V"⟩ ∈ tbG := tb_in (tb_1 66 rfl) rfl
theorem tw_1_67 : Cond.code ⟨"ThumbForge$Image", "<init>", "(LThumbForge$Program;)V"⟩ prog_2_method_1_code 2 none ∈ tbG := tb_in (tb_1 67 rfl) rfl
theorem tw_1_68 : Cond.methodLink "ThumbForge$Image" 5 ⟨"java/lang/Object", "<init>", "()V"⟩ ∈ tbG := tb_in (tb_1 68 rfl) rfl
theorem tw_1_69 : Cond.fieldLink "ThumbForge$Image" 25 "ThumbForge$Image" "program" "LThumbForge$Program;" ∈ tbG := tb_in (tb_1 69 rfl) rfl
theorem tw_1_70 : Cond.fieldLink "ThumbForge$Image" 11 "ThumbForge$Image" "halfwords" "[I" ∈ tbG := tb_in (tb_1 70 rfl) rfl
theorem tw_1_71 : Cond.fieldLink "ThumbForge" 94 "ThumbForge$Image" "halfwords" "[I" ∈ tbG := tb_in (tb_1 71 rfl) rfl
theorem tw_1_72 : Cond.fieldLink "ThumbForge$Image" 15 "ThumbForge$Image" "places" "[I" ∈ tbG := tb_in (tb_1 72 rfl) rfl
theorem tw_1_73 : Cond.fieldLink "ThumbForge" 103 "ThumbForge$Image" "places" "[I" ∈ tbG := tb_in (tb_1 73 rfl) rfl
theorem tw_1_74 : Cond.fieldLink "ThumbForge$Image" 18 "ThumbForge$Image" "isLong" "[Z" ∈ tbG := tb_in (tb_1 74 rfl) rfl
theorem tw_1_75 : Cond.fieldLink "ThumbForge$Machine" 77 "ThumbForge$Image" "isLong" "[Z" ∈ tbG := tb_in (tb_1 75 rfl) rfl
theorem tw_1_76 : Cond.fieldLink "ThumbForge$Image" 22 "ThumbForge$Image" "literals" "[I" ∈ tbG := tb_in (tb_1 76 rfl) rfl
theorem tw_1_77 : Cond.fieldLink "ThumbForge$Image" 66 "ThumbForge$Image" "literalCount" "I" ∈ tbG := tb_in (tb_1 77 rfl) rfl
theorem tw_1_78 : Cond.fieldLink "ThumbForge$Image" 78 "ThumbForge$Image" "poolPlace" "I" ∈ tbG := tb_in (tb_1 78 rfl) rfl
theorem tw_1_79 : Cond.fieldLink "ThumbForge$Image" 63 "ThumbForge$Image" "length" "I" ∈ tbG := tb_in (tb_1 79 rfl) rfl
theorem tw_1_80 : Cond.fieldLink "ThumbForge" 81 "ThumbForge$Image" "length" "I" ∈ tbG := tb_in (tb_1 80 rfl) rfl
theorem tw_1_81 : Cond.fieldLink "ThumbForge$Image" 39 "ThumbForge$Image" "made" "Z" ∈ tbG := tb_in (tb_1 81 rfl) rfl
theorem tw_1_82 : Cond.fieldLink "ThumbForge" 85 "ThumbForge$Image" "made" "Z" ∈ tbG := tb_in (tb_1 82 rfl) rfl
theorem tw_1_83 : Cond.laysFinal "ThumbForge$Image" "ThumbForge$Image" "program" "LThumbForge$Program;" ∈ tbG := tb_in (tb_1 83 rfl) rfl
theorem tw_1_84 : Cond.soleField "ThumbForge$Image" "program" ∈ tbG := tb_in (tb_1 84 rfl) rfl
theorem tw_1_85 : Cond.laysFinal "ThumbForge$Image" "ThumbForge$Image" "halfwords" "[I" ∈ tbG := tb_in (tb_1 85 rfl) rfl
theorem tw_1_86 : Cond.soleField "ThumbForge$Image" "halfwords" ∈ tbG := tb_in (tb_1 86 rfl) rfl
theorem tw_1_87 : Cond.laysFinal "ThumbForge$Image" "ThumbForge$Image" "places" "[I" ∈ tbG := tb_in (tb_1 87 rfl) rfl
theorem tw_1_88 : Cond.soleField "ThumbForge$Image" "places" ∈ tbG := tb_in (tb_1 88 rfl) rfl
theorem tw_1_89 : Cond.laysFinal "ThumbForge$Image" "ThumbForge$Image" "isLong" "[Z" ∈ tbG := tb_in (tb_1 89 rfl) rfl
theorem tw_1_90 : Cond.soleField "ThumbForge$Image" "isLong" ∈ tbG := tb_in (tb_1 90 rfl) rfl
theorem tw_1_91 : Cond.laysFinal "ThumbForge$Image" "ThumbForge$Image" "literals" "[I" ∈ tbG := tb_in (tb_1 91 rfl) rfl
theorem tw_1_92 : Cond.soleField "ThumbForge$Image" "literals" ∈ tbG := tb_in (tb_1 92 rfl) rfl
theorem tw_1_93 : Cond.lays "ThumbForge$Image" "ThumbForge$Image" "literalCount" "I" ∈ tbG := tb_in (tb_1 93 rfl) rfl
theorem tw_1_94 : Cond.soleField "ThumbForge$Image" "literalCount" ∈ tbG := tb_in (tb_1 94 rfl) rfl
theorem tw_1_95 : Cond.lays "ThumbForge$Image" "ThumbForge$Image" "poolPlace" "I" ∈ tbG := tb_in (tb_1 95 rfl) rfl
theorem tw_1_96 : Cond.soleField "ThumbForge$Image" "poolPlace" ∈ tbG := tb_in (tb_1 96 rfl) rfl
theorem tw_1_97 : Cond.lays "ThumbForge$Image" "ThumbForge$Image" "length" "I" ∈ tbG := tb_in (tb_1 97 rfl) rfl
theorem tw_1_98 : Cond.soleField "ThumbForge$Image" "length" ∈ tbG := tb_in (tb_1 98 rfl) rfl
theorem tw_1_99 : Cond.lays "ThumbForge$Image" "ThumbForge$Image" "made" "Z" ∈ tbG := tb_in (tb_1 99 rfl) rfl
theorem tw_1_100 : Cond.soleField "ThumbForge$Image" "made" ∈ tbG := tb_in (tb_1 100 rfl) rfl
theorem tw_1_101 : Cond.superclass "ThumbForge$Image" "java/lang/Object" ∈ tbG := tb_in (tb_1 101 rfl) rfl
theorem tw_1_102 : Cond.arrayClass FieldType.boolean ∈ tbG := tb_in (tb_1 102 rfl) rfl
theorem tw_1_103 : Cond.classLink "ThumbForge" 25 "ThumbForge$Machine" ∈ tbG := tb_in (tb_1 103 rfl) rfl
theorem tw_1_104 : Cond.instantiable "ThumbForge$Machine" 9 ∈ tbG := tb_in (tb_1 104 rfl) rfl
theorem tw_1_105 : Cond.methodLink "ThumbForge" 27 ⟨"ThumbForge$Machine", "<init>", "(LThumbForge$Program;LThumbForge$Image;)V"⟩ ∈ tbG := tb_in (tb_1 105 rfl) rfl
theorem tw_1_106 : Cond.instanceMethod ⟨"ThumbForge$Machine", "<init>", "(LThumbForge$Program;LThumbForge$Image;)V"⟩ ∈ tbG := tb_in (tb_1 106 rfl) rfl
theorem tw_1_107 : Cond.code ⟨"ThumbForge$Machine", "<init>", "(LThumbForge$Program;LThumbForge$Image;)V"⟩ prog_3_method_1_code 3 none ∈ tbG := tb_in (tb_1 107 rfl) rfl
theorem tw_1_108 : Cond.methodLink "ThumbForge$Machine" 3 ⟨"java/lang/Object", "<init>", "()V"⟩ ∈ tbG := tb_in (tb_1 108 rfl) rfl
theorem tw_1_109 : Cond.fieldLink "ThumbForge$Machine" 21 "ThumbForge$Machine" "program" "LThumbForge$Program;" ∈ tbG := tb_in (tb_1 109 rfl) rfl
theorem tw_1_110 : Cond.fieldLink "ThumbForge$Machine" 25 "ThumbForge$Machine" "image" "LThumbForge$Image;" ∈ tbG := tb_in (tb_1 110 rfl) rfl
theorem tw_1_111 : Cond.fieldLink "ThumbForge$Machine" 9 "ThumbForge$Machine" "words" "[I" ∈ tbG := tb_in (tb_1 111 rfl) rfl
theorem tw_1_112 : Cond.fieldLink "ThumbForge" 109 "ThumbForge$Machine" "words" "[I" ∈ tbG := tb_in (tb_1 112 rfl) rfl
theorem tw_1_113 : Cond.fieldLink "ThumbForge$Machine" 15 "ThumbForge$Machine" "values" "[I" ∈ tbG := tb_in (tb_1 113 rfl) rfl
theorem tw_1_114 : Cond.fieldLink "ThumbForge" 136 "ThumbForge$Machine" "values" "[I" ∈ tbG := tb_in (tb_1 114 rfl) rfl
theorem tw_1_115 : Cond.fieldLink "ThumbForge$Machine" 18 "ThumbForge$Machine" "kept" "[I" ∈ tbG := tb_in (tb_1 115 rfl) rfl
theorem tw_1_116 : Cond.fieldLink "ThumbForge$Machine" 33 "ThumbForge$Machine" "outCount" "I" ∈ tbG := tb_in (tb_1 116 rfl) rfl
theorem tw_1_117 : Cond.fieldLink "ThumbForge" 139 "ThumbForge$Machine" "outCount" "I" ∈ tbG := tb_in (tb_1 117 rfl) rfl
theorem tw_1_118 : Cond.fieldLink "ThumbForge$Machine" 29 "ThumbForge$Machine" "mode" "I" ∈ tbG := tb_in (tb_1 118 rfl) rfl
theorem tw_1_119 : Cond.fieldLink "ThumbForge" 119 "ThumbForge$Machine" "mode" "I" ∈ tbG := tb_in (tb_1 119 rfl) rfl
theorem tw_1_120 : Cond.fieldLink "ThumbForge$Machine" 85 "ThumbForge$Machine" "trap" "I" ∈ tbG := tb_in (tb_1 120 rfl) rfl
theorem tw_1_121 : Cond.fieldLink "ThumbForge" 128 "ThumbForge$Machine" "trap" "I" ∈ tbG := tb_in (tb_1 121 rfl) rfl
theorem tw_1_122 : Cond.fieldLink "ThumbForge$Machine" 36 "ThumbForge$Machine" "next" "I" ∈ tbG := tb_in (tb_1 122 rfl) rfl
theorem tw_1_123 : Cond.fieldLink "ThumbForge" 131 "ThumbForge$Machine" "next" "I" ∈ tbG := tb_in (tb_1 123 rfl) rfl
theorem tw_1_124 : Cond.laysFinal "ThumbForge$Machine" "ThumbForge$Machine" "program" "LThumbForge$Program;" ∈ tbG := tb_in (tb_1 124 rfl) rfl
theorem tw_1_125 : Cond.soleField "ThumbForge$Machine" "program" ∈ tbG := tb_in (tb_1 125 rfl) rfl
theorem tw_1_126 : Cond.laysFinal "ThumbForge$Machine" "ThumbForge$Machine" "image" "LThumbForge$Image;" ∈ tbG := tb_in (tb_1 126 rfl) rfl
theorem tw_1_127 : Cond.soleField "ThumbForge$Machine" "image" ∈ tbG := tb_in (tb_1 127 rfl) rfl
theorem tw_1_128 : Cond.laysFinal "ThumbForge$Machine" "ThumbForge$Machine" "words" "[I" ∈ tbG := tb_in (tb_1 128 rfl) rfl
theorem tw_1_129 : Cond.soleField "ThumbForge$Machine" "words" ∈ tbG := tb_in (tb_1 129 rfl) rfl
theorem tw_1_130 : Cond.laysFinal "ThumbForge$Machine" "ThumbForge$Machine" "values" "[I" ∈ tbG := tb_in (tb_1 130 rfl) rfl
theorem tw_1_131 : Cond.soleField "ThumbForge$Machine" "values" ∈ tbG := tb_in (tb_1 131 rfl) rfl
theorem tw_1_132 : Cond.laysFinal "ThumbForge$Machine" "ThumbForge$Machine" "kept" "[I" ∈ tbG := tb_in (tb_1 132 rfl) rfl
theorem tw_1_133 : Cond.soleField "ThumbForge$Machine" "kept" ∈ tbG := tb_in (tb_1 133 rfl) rfl
theorem tw_1_134 : Cond.lays "ThumbForge$Machine" "ThumbForge$Machine" "outCount" "I" ∈ tbG := tb_in (tb_1 134 rfl) rfl
theorem tw_1_135 : Cond.soleField "ThumbForge$Machine" "outCount" ∈ tbG := tb_in (tb_1 135 rfl) rfl
theorem tw_1_136 : Cond.lays "ThumbForge$Machine" "ThumbForge$Machine" "mode" "I" ∈ tbG := tb_in (tb_1 136 rfl) rfl
theorem tw_1_137 : Cond.soleField "ThumbForge$Machine" "mode" ∈ tbG := tb_in (tb_1 137 rfl) rfl
theorem tw_1_138 : Cond.lays "ThumbForge$Machine" "ThumbForge$Machine" "trap" "I" ∈ tbG := tb_in (tb_1 138 rfl) rfl
theorem tw_1_139 : Cond.soleField "ThumbForge$Machine" "trap" ∈ tbG := tb_in (tb_1 139 rfl) rfl
theorem tw_1_140 : Cond.lays "ThumbForge$Machine" "ThumbForge$Machine" "next" "I" ∈ tbG := tb_in (tb_1 140 rfl) rfl
theorem tw_1_141 : Cond.soleField "ThumbForge$Machine" "next" ∈ tbG := tb_in (tb_1 141 rfl) rfl
theorem tw_1_142 : Cond.superclass "ThumbForge$Machine" "java/lang/Object" ∈ tbG := tb_in (tb_1 142 rfl) rfl
theorem tw_1_143 : Cond.fieldLink "ThumbForge" 10 "ThumbForge" "program" "LThumbForge$Program;" ∈ tbG := tb_in (tb_1 143 rfl) rfl
theorem tw_1_144 : Cond.fieldLink "ThumbForge" 21 "ThumbForge" "image" "LThumbForge$Image;" ∈ tbG := tb_in (tb_1 144 rfl) rfl
theorem tw_1_145 : Cond.fieldLink "ThumbForge" 30 "ThumbForge" "machine" "LThumbForge$Machine;" ∈ tbG := tb_in (tb_1 145 rfl) rfl
theorem tw_1_146 : Cond.laysFinal "ThumbForge" "ThumbForge" "program" "LThumbForge$Program;" ∈ tbG := tb_in (tb_1 146 rfl) rfl
theorem tw_1_147 : Cond.soleField "ThumbForge" "program" ∈ tbG := tb_in (tb_1 147 rfl) rfl
theorem tw_1_148 : Cond.laysFinal "ThumbForge" "ThumbForge" "image" "LThumbForge$Image;" ∈ tbG := tb_in (tb_1 148 rfl) rfl
theorem tw_1_149 : Cond.soleField "ThumbForge" "image" ∈ tbG := tb_in (tb_1 149 rfl) rfl
theorem tw_1_150 : Cond.laysFinal "ThumbForge" "ThumbForge" "machine" "LThumbForge$Machine;" ∈ tbG := tb_in (tb_1 150 rfl) rfl
theorem tw_1_151 : Cond.soleField "ThumbForge" "machine" ∈ tbG := tb_in (tb_1 151 rfl) rfl
theorem tw_1_152 : Cond.superclass "ThumbForge" "java/lang/Object" ∈ tbG := tb_in (tb_1 152 rfl) rfl
theorem tw_1_153 : Cond.methodLink "ThumbForgeLaw" 107 ⟨"ThumbForge", "clear", "()V"⟩ ∈ tbG := tb_in (tb_1 153 rfl) rfl
theorem tw_1_154 : Cond.instanceMethod ⟨"ThumbForge", "clear", "()V"⟩ ∈ tbG := tb_in (tb_1 154 rfl) rfl
theorem tw_1_155 : Cond.selects "ThumbForge" ⟨"ThumbForge", "clear", "()V"⟩ ⟨"ThumbForge", "clear", "()V"⟩ ∈ tbG := tb_in (tb_1 155 rfl) rfl
theorem tw_1_156 : Cond.code ⟨"ThumbForge", "clear", "()V"⟩ prog_1_method_10_code 1 none ∈ tbG := tb_in (tb_1 156 rfl) rfl
theorem tw_1_157 : Cond.methodLink "ThumbForge" 60 ⟨"ThumbForge$Program", "empty", "()V"⟩ ∈ tbG := tb_in (tb_1 157 rfl) rfl
theorem tw_1_158 : Cond.instanceMethod ⟨"ThumbForge$Program", "empty", "()V"⟩ ∈ tbG := tb_in (tb_1 158 rfl) rfl
theorem tw_1_159 : Cond.selects "ThumbForge$Program" ⟨"ThumbForge$Program", "empty", "()V"⟩ ⟨"ThumbForge$Program", "empty", "()V"⟩ ∈ tbG := tb_in (tb_1 159 rfl) rfl
theorem tw_1_160 : Cond.code ⟨"ThumbForge$Program", "empty", "()V"⟩ prog_4_method_2_code 1 none ∈ tbG := tb_in (tb_1 160 rfl) rfl
theorem tw_1_161 : Cond.methodLink "ThumbForge" 63 ⟨"ThumbForge", "discardImage", "()V"⟩ ∈ tbG := tb_in (tb_1 161 rfl) rfl
theorem tw_1_163 : Cond.instanceMethod ⟨"ThumbForge", "discardImage", "()V"⟩ ∈ tbG := tb_in (tb_1 163 rfl) rfl
theorem tw_1_164 : Cond.code ⟨"ThumbForge", "discardImage", "()V"⟩ prog_1_method_24_code 1 none ∈ tbG := tb_in (tb_1 164 rfl) rfl
theorem tw_1_165 : Cond.methodLink "ThumbForge" 75 ⟨"ThumbForge$Machine", "turnOff", "()V"⟩ ∈ tbG := tb_in (tb_1 165 rfl) rfl
theorem tw_1_166 : Cond.instanceMethod ⟨"ThumbForge$Machine", "turnOff", "()V"⟩ ∈ tbG := tb_in (tb_1 166 rfl) rfl
theorem tw_1_167 : Cond.selects "ThumbForge$Machine" ⟨"ThumbForge$Machine", "turnOff", "()V"⟩ ⟨"ThumbForge$Machine", "turnOff", "()V"⟩ ∈ tbG := tb_in (tb_1 167 rfl) rfl
theorem tw_1_168 : Cond.code ⟨"ThumbForge$Machine", "turnOff", "()V"⟩ prog_3_method_2_code 1 none ∈ tbG := tb_in (tb_1 168 rfl) rfl
theorem tw_1_169 : Cond.methodLink "ThumbForgeLaw" 135 ⟨"ThumbForge", "state", "()I"⟩ ∈ tbG := tb_in (tb_1 169 rfl) rfl
theorem tw_1_170 : Cond.instanceMethod ⟨"ThumbForge", "state", "()I"⟩ ∈ tbG := tb_in (tb_1 170 rfl) rfl
theorem tw_1_171 : Cond.selects "ThumbForge" ⟨"ThumbForge", "state", "()I"⟩ ⟨"ThumbForge", "state", "()I"⟩ ∈ tbG := tb_in (tb_1 171 rfl) rfl
theorem tw_1_172 : Cond.code ⟨"ThumbForge", "state", "()I"⟩ prog_1_method_18_code 1 (some FieldType.int) ∈ tbG := tb_in (tb_1 172 rfl) rfl
theorem tw_1_173 : Cond.methodLink "ThumbForgeLaw" 139 ⟨"ThumbForge", "at", "()I"⟩ ∈ tbG := tb_in (tb_1 173 rfl) rfl
theorem tw_1_174 : Cond.instanceMethod ⟨"ThumbForge", "at", "()I"⟩ ∈ tbG := tb_in (tb_1 174 rfl) rfl
theorem tw_1_175 : Cond.selects "ThumbForge" ⟨"ThumbForge", "at", "()I"⟩ ⟨"ThumbForge", "at", "()I"⟩ ∈ tbG := tb_in (tb_1 175 rfl) rfl
theorem tw_1_176 : Cond.code ⟨"ThumbForge", "at", "()I"⟩ prog_1_method_19_code 1 (some FieldType.int) ∈ tbG := tb_in (tb_1 176 rfl) rfl
theorem tw_1_177 : Cond.methodLink "ThumbForgeLaw" 146 ⟨"ThumbForge", "outputs", "()I"⟩ ∈ tbG := tb_in (tb_1 177 rfl) rfl
theorem tw_1_178 : Cond.instanceMethod ⟨"ThumbForge", "outputs", "()I"⟩ ∈ tbG := tb_in (tb_1 178 rfl) rfl
theorem tw_1_179 : Cond.selects "ThumbForge" ⟨"ThumbForge", "outputs", "()I"⟩ ⟨"ThumbForge", "outputs", "()I"⟩ ∈ tbG := tb_in (tb_1 179 rfl) rfl
theorem tw_1_180 : Cond.code ⟨"ThumbForge", "outputs", "()I"⟩ prog_1_method_21_code 1 (some FieldType.int) ∈ tbG := tb_in (tb_1 180 rfl) rfl
theorem tw_1_181 : Cond.methodLink "ThumbForgeLaw" 75 ⟨"ThumbForgeLaw", "constant", "(LThumbForge;II[J)I"⟩ ∈ tbG := tb_in (tb_1 181 rfl) rfl
theorem tw_1_182 : Cond.static ⟨"ThumbForgeLaw", "constant", "(LThumbForge;II[J)I"⟩ ∈ tbG := tb_in (tb_1 182 rfl) rfl
theorem tw_1_183 : Cond.codeWith ⟨"ThumbForgeLaw", "constant", "(LThumbForge;II[J)I"⟩ method_3_code 5 (some FieldType.int) [(0, 10, 13, 13), (0, 10, 17, 15)] ∈ tbG := tb_in (tb_1 183 rfl) rfl
theorem tw_1_184 : Cond.classLink "ThumbForgeLaw" 13 "java/lang/IllegalArgumentException" ∈ tbG := tb_in (tb_1 184 rfl) rfl
theorem tw_1_185 : Cond.classLink "ThumbForgeLaw" 15 "java/lang/IllegalStateException" ∈ tbG := tb_in (tb_1 185 rfl) rfl
theorem tw_1_186 : Cond.methodLink "ThumbForgeLaw" 7 ⟨"ThumbForge", "constant", "(II)I"⟩ ∈ tbG := tb_in (tb_1 186 rfl) rfl
theorem tw_1_187 : Cond.instanceMethod ⟨"ThumbForge", "constant", "(II)I"⟩ ∈ tbG := tb_in (tb_1 187 rfl) rfl
theorem tw_1_188 : Cond.selects "ThumbForge" ⟨"ThumbForge", "constant", "(II)I"⟩ ⟨"ThumbForge", "constant", "(II)I"⟩ ∈ tbG := tb_in (tb_1 188 rfl) rfl
theorem tw_1_189 : Cond.code ⟨"ThumbForge", "constant", "(II)I"⟩ prog_1_method_2_code 3 (some FieldType.int) ∈ tbG := tb_in (tb_1 189 rfl) rfl
theorem tw_1_190 : Cond.methodLink "ThumbForge" 34 ⟨"ThumbForge", "needVariable", "(I)V"⟩ ∈ tbG := tb_in (tb_1 190 rfl) rfl
theorem tw_1_191 : Cond.static ⟨"ThumbForge", "needVariable", "(I)V"⟩ ∈ tbG := tb_in (tb_1 191 rfl) rfl
theorem tw_1_192 : Cond.code ⟨"ThumbForge", "needVariable", "(I)V"⟩ prog_1_method_25_code 1 none ∈ tbG := tb_in (tb_1 192 rfl) rfl
theorem tw_1_193 : Cond.classLink "ThumbForge" 42 "java/lang/IllegalArgumentException" ∈ tbG := tb_in (tb_1 193 rfl) rfl
theorem tw_1_194 : Cond.instantiable "java/lang/IllegalArgumentException" 6 ∈ tbG := tb_in (tb_1 194 rfl) rfl
theorem tw_1_202 : Cond.selects "java/lang/IllegalArgumentException" ⟨"java/lang/Throwable", "fillInStackTrace", "(I)Ljava/lang/Throwable;"⟩ ⟨"java/lang/Throwable", "fillInStackTrace", "(I)Ljava/lang/Throwable;"⟩ ∈ tbG := tb_in (tb_1 202 rfl) rfl
theorem tw_1_203 : Cond.selects "java/lang/IllegalArgumentException" ⟨"java/lang/Throwable", "fillInStackTrace", "()Ljava/lang/Throwable;"⟩ ⟨"java/lang/Throwable", "fillInStackTrace", "()Ljava/lang/Throwable;"⟩ ∈ tbG := tb_in (tb_1 203 rfl) rfl
theorem tw_1_204 : Cond.lays "java/lang/IllegalArgumentException" "java/lang/Throwable" "cause" "Ljava/lang/Throwable;" ∈ tbG := tb_in (tb_1 204 rfl) rfl
theorem tw_1_205 : Cond.lays "java/lang/Throwable" "java/lang/Throwable" "cause" "Ljava/lang/Throwable;" ∈ tbG := tb_in (tb_1 205 rfl) rfl
theorem tw_1_206 : Cond.lays "java/lang/IllegalArgumentException" "java/lang/Throwable" "stackTrace" "[Ljava/lang/StackTraceElement;" ∈ tbG := tb_in (tb_1 206 rfl) rfl
theorem tw_1_207 : Cond.lays "java/lang/Throwable" "java/lang/Throwable" "stackTrace" "[Ljava/lang/StackTraceElement;" ∈ tbG := tb_in (tb_1 207 rfl) rfl
theorem tw_1_208 : Cond.lays "java/lang/IllegalArgumentException" "java/lang/Throwable" "suppressedExceptions" "Ljava/util/List;" ∈ tbG := tb_in (tb_1 208 rfl) rfl
theorem tw_1_209 : Cond.lays "java/lang/Throwable" "java/lang/Throwable" "suppressedExceptions" "Ljava/util/List;" ∈ tbG := tb_in (tb_1 209 rfl) rfl
theorem tw_1_210 : Cond.lays "java/lang/IllegalArgumentException" "java/lang/Throwable" "detailMessage" "Ljava/lang/String;" ∈ tbG := tb_in (tb_1 210 rfl) rfl
theorem tw_1_211 : Cond.lays "java/lang/Throwable" "java/lang/Throwable" "detailMessage" "Ljava/lang/String;" ∈ tbG := tb_in (tb_1 211 rfl) rfl
theorem tw_1_212 : Cond.lays "java/lang/IllegalArgumentException" "java/lang/Throwable" "backtrace" "Ljava/lang/Object;" ∈ tbG := tb_in (tb_1 212 rfl) rfl
theorem tw_1_213 : Cond.lays "java/lang/Throwable" "java/lang/Throwable" "backtrace" "Ljava/lang/Object;" ∈ tbG := tb_in (tb_1 213 rfl) rfl
theorem tw_1_214 : Cond.fieldLink "java/lang/Throwable" 198 "java/lang/Throwable" "backtrace" "Ljava/lang/Object;" ∈ tbG := tb_in (tb_1 214 rfl) rfl
theorem tw_1_215 : Cond.superclass "java/lang/Throwable" "java/lang/Object" ∈ tbG := tb_in (tb_1 215 rfl) rfl
theorem tw_1_216 : Cond.instanceMethod ⟨"java/lang/Throwable", "<init>", "()V"⟩ ∈ tbG := tb_in (tb_1 216 rfl) rfl
theorem tw_1_217 : Cond.code ⟨"java/lang/Throwable", "<init>", "()V"⟩ prog_12_method_1_code 1 none ∈ tbG := tb_in (tb_1 217 rfl) rfl
theorem tw_1_218 : Cond.methodLink "java/lang/Throwable" 1 ⟨"java/lang/Object", "<init>", "()V"⟩ ∈ tbG := tb_in (tb_1 218 rfl) rfl
theorem tw_1_219 : Cond.fieldLink "java/lang/Throwable" 13 "java/lang/Throwable" "UNASSIGNED_STACK" "[Ljava/lang/StackTraceElement;" ∈ tbG := tb_in (tb_1 219 rfl) rfl
theorem tw_1_221 : Cond.fieldLink "java/lang/Throwable" 20 "java/lang/Throwable" "SUPPRESSED_SENTINEL" "Ljava/util/List;" ∈ tbG := tb_in (tb_1 221 rfl) rfl
theorem tw_1_223 : Cond.methodLink "java/lang/Throwable" 27 ⟨"java/lang/Throwable", "fillInStackTrace", "()Ljava/lang/Throwable;"⟩ ∈ tbG := tb_in (tb_1 223 rfl) rfl
theorem tw_1_224 : Cond.instanceMethod ⟨"java/lang/Throwable", "fillInStackTrace", "()Ljava/lang/Throwable;"⟩ ∈ tbG := tb_in (tb_1 224 rfl) rfl
theorem tw_1_225 : Cond.sameMethod "java/lang/Throwable" "java/lang/Throwable" "fillInStackTrace" "()Ljava/lang/Throwable;" ∈ tbG := tb_in (tb_1 225 rfl) rfl
theorem tw_1_226 : Cond.selects "java/lang/IllegalStateException" ⟨"java/lang/Throwable", "fillInStackTrace", "()Ljava/lang/Throwable;"⟩ ⟨"java/lang/Throwable", "fillInStackTrace", "()Ljava/lang/Throwable;"⟩ ∈ tbG := tb_in (tb_1 226 rfl) rfl
theorem tw_1_227 : Cond.selects "java/util/NoSuchElementException" ⟨"java/lang/Throwable", "fillInStackTrace", "()Ljava/lang/Throwable;"⟩ ⟨"java/lang/Throwable", "fillInStackTrace", "()Ljava/lang/Throwable;"⟩ ∈ tbG := tb_in (tb_1 227 rfl) rfl
theorem tw_1_228 : Cond.codeSync ⟨"java/lang/Throwable", "fillInStackTrace", "()Ljava/lang/Throwable;"⟩ prog_12_method_18_code 1 (some (FieldType.object "java/lang/Throwable")) ∈ tbG := tb_in (tb_1 228 rfl) rfl
theorem tw_1_229 : Cond.methodLink "java/lang/Throwable" 202 ⟨"java/lang/Throwable", "fillInStackTrace", "(I)Ljava/lang/Throwable;"⟩ ∈ tbG := tb_in (tb_1 229 rfl) rfl
theorem tw_1_231 : Cond.instanceMethod ⟨"java/lang/Throwable", "fillInStackTrace", "(I)Ljava/lang/Throwable;"⟩ ∈ tbG := tb_in (tb_1 231 rfl) rfl
theorem tw_1_232 : Cond.instantiable "java/lang/Throwable" 6 ∈ tbG := tb_in (tb_1 232 rfl) rfl
theorem tw_1_233 : Cond.native ⟨"java/lang/Throwable", "fillInStackTrace", "(I)Ljava/lang/Throwable;"⟩ ∈ tbG := tb_in (tb_1 233 rfl) rfl
theorem tw_1_235 : Cond.methodLink "ThumbForge" 46 ⟨"java/lang/IllegalArgumentException", "<init>", "(Ljava/lang/String;)V"⟩ ∈ tbG := tb_in (tb_1 235 rfl) rfl
theorem tw_1_236 : Cond.instanceMethod ⟨"java/lang/IllegalArgumentException", "<init>", "(Ljava/lang/String;)V"⟩ ∈ tbG := tb_in (tb_1 236 rfl) rfl
theorem tw_1_237 : Cond.code ⟨"java/lang/IllegalArgumentException", "<init>", "(Ljava/lang/String;)V"⟩ prog_8_method_2_code 2 none ∈ tbG := tb_in (tb_1 237 rfl) rfl
theorem tw_1_238 : Cond.methodLink "java/lang/IllegalArgumentException" 7 ⟨"java/lang/RuntimeException", "<init>", "(Ljava/lang/String;)V"⟩ ∈ tbG := tb_in (tb_1 238 rfl) rfl
theorem tw_1_239 : Cond.instanceMethod ⟨"java/lang/RuntimeException", "<init>", "(Ljava/lang/String;)V"⟩ ∈ tbG := tb_in (tb_1 239 rfl) rfl
theorem tw_2_0 : Cond.code ⟨"java/lang/RuntimeException", "<init>", "(Ljava/lang/String;)V"⟩ prog_10_method_2_code 2 none ∈ tbG := tb_in (tb_2 0 rfl) rfl
theorem tw_2_1 : Cond.methodLink "java/lang/RuntimeException" 7 ⟨"java/lang/Exception", "<init>", "(Ljava/lang/String;)V"⟩ ∈ tbG := tb_in (tb_2 1 rfl) rfl
theorem tw_2_2 : Cond.instanceMethod ⟨"java/lang/Exception", "<init>", "(Ljava/lang/String;)V"⟩ ∈ tbG := tb_in (tb_2 2 rfl) rfl
theorem tw_2_3 : Cond.code ⟨"java/lang/Exception", "<init>", "(Ljava/lang/String;)V"⟩ prog_7_method_2_code 2 none ∈ tbG := tb_in (tb_2 3 rfl) rfl
theorem tw_2_4 : Cond.methodLink "java/lang/Exception" 7 ⟨"java/lang/Throwable", "<init>", "(Ljava/lang/String;)V"⟩ ∈ tbG := tb_in (tb_2 4 rfl) rfl
theorem tw_2_5 : Cond.instanceMethod ⟨"java/lang/Throwable", "<init>", "(Ljava/lang/String;)V"⟩ ∈ tbG := tb_in (tb_2 5 rfl) rfl
theorem tw_2_6 : Cond.code ⟨"java/lang/Throwable", "<init>", "(Ljava/lang/String;)V"⟩ prog_12_method_2_code 2 none ∈ tbG := tb_in (tb_2 6 rfl) rfl
theorem tw_2_7 : Cond.fieldLink "java/lang/Throwable" 198 "java/lang/Throwable" "backtrace" "Ljava/lang/Object;" ∈ tbG := tb_in (tb_2 7 rfl) rfl
theorem tw_2_8 : Cond.fieldLink "java/lang/Throwable" 31 "java/lang/Throwable" "detailMessage" "Ljava/lang/String;" ∈ tbG := tb_in (tb_2 8 rfl) rfl
theorem tw_2_9 : Cond.fieldLink "java/lang/Throwable" 7 "java/lang/Throwable" "cause" "Ljava/lang/Throwable;" ∈ tbG := tb_in (tb_2 9 rfl) rfl
theorem tw_2_10 : Cond.fieldLink "java/lang/Throwable" 17 "java/lang/Throwable" "stackTrace" "[Ljava/lang/StackTraceElement;" ∈ tbG := tb_in (tb_2 10 rfl) rfl
theorem tw_2_11 : Cond.fieldLink "java/lang/Throwable" 24 "java/lang/Throwable" "suppressedExceptions" "Ljava/util/List;" ∈ tbG := tb_in (tb_2 11 rfl) rfl
theorem tw_2_12 : Cond.soleField "java/lang/Throwable" "backtrace" ∈ tbG := tb_in (tb_2 12 rfl) rfl
theorem tw_2_13 : Cond.soleField "java/lang/Throwable" "detailMessage" ∈ tbG := tb_in (tb_2 13 rfl) rfl
theorem tw_2_14 : Cond.soleField "java/lang/Throwable" "cause" ∈ tbG := tb_in (tb_2 14 rfl) rfl
theorem tw_2_15 : Cond.soleField "java/lang/Throwable" "stackTrace" ∈ tbG := tb_in (tb_2 15 rfl) rfl
theorem tw_2_16 : Cond.lays "java/lang/IllegalArgumentException" "java/lang/Throwable" "depth" "I" ∈ tbG := tb_in (tb_2 16 rfl) rfl
theorem tw_2_17 : Cond.soleField "java/lang/Throwable" "depth" ∈ tbG := tb_in (tb_2 17 rfl) rfl
theorem tw_2_18 : Cond.soleField "java/lang/Throwable" "suppressedExceptions" ∈ tbG := tb_in (tb_2 18 rfl) rfl
theorem tw_2_19 : Cond.superclass "java/lang/IllegalArgumentException" "java/lang/RuntimeException" ∈ tbG := tb_in (tb_2 19 rfl) rfl
theorem tw_2_20 : Cond.arrayClass FieldType.byte ∈ tbG := tb_in (tb_2 20 rfl) rfl
theorem tw_2_21 : Cond.methodLink "ThumbForge" 38 ⟨"ThumbForge", "append", "(IIIIII)I"⟩ ∈ tbG := tb_in (tb_2 21 rfl) rfl
theorem tw_2_23 : Cond.instanceMethod ⟨"ThumbForge", "append", "(IIIIII)I"⟩ ∈ tbG := tb_in (tb_2 23 rfl) rfl
theorem tw_2_24 : Cond.code ⟨"ThumbForge", "append", "(IIIIII)I"⟩ prog_1_method_23_code 7 (some FieldType.int) ∈ tbG := tb_in (tb_2 24 rfl) rfl
theorem tw_2_25 : Cond.classLink "ThumbForge" 70 "java/lang/IllegalStateException" ∈ tbG := tb_in (tb_2 25 rfl) rfl
theorem tw_2_26 : Cond.instantiable "java/lang/IllegalStateException" 6 ∈ tbG := tb_in (tb_2 26 rfl) rfl
theorem tw_2_28 : Cond.selects "java/lang/IllegalStateException" ⟨"java/lang/Throwable", "fillInStackTrace", "(I)Ljava/lang/Throwable;"⟩ ⟨"java/lang/Throwable", "fillInStackTrace", "(I)Ljava/lang/Throwable;"⟩ ∈ tbG := tb_in (tb_2 28 rfl) rfl
theorem tw_2_29 : Cond.lays "java/lang/IllegalStateException" "java/lang/Throwable" "cause" "Ljava/lang/Throwable;" ∈ tbG := tb_in (tb_2 29 rfl) rfl
theorem tw_2_30 : Cond.lays "java/lang/IllegalStateException" "java/lang/Throwable" "stackTrace" "[Ljava/lang/StackTraceElement;" ∈ tbG := tb_in (tb_2 30 rfl) rfl
theorem tw_2_31 : Cond.lays "java/lang/IllegalStateException" "java/lang/Throwable" "suppressedExceptions" "Ljava/util/List;" ∈ tbG := tb_in (tb_2 31 rfl) rfl
theorem tw_2_32 : Cond.lays "java/lang/IllegalStateException" "java/lang/Throwable" "detailMessage" "Ljava/lang/String;" ∈ tbG := tb_in (tb_2 32 rfl) rfl
theorem tw_2_33 : Cond.lays "java/lang/IllegalStateException" "java/lang/Throwable" "backtrace" "Ljava/lang/Object;" ∈ tbG := tb_in (tb_2 33 rfl) rfl
theorem tw_2_35 : Cond.methodLink "ThumbForge" 74 ⟨"java/lang/IllegalStateException", "<init>", "(Ljava/lang/String;)V"⟩ ∈ tbG := tb_in (tb_2 35 rfl) rfl
theorem tw_2_36 : Cond.instanceMethod ⟨"java/lang/IllegalStateException", "<init>", "(Ljava/lang/String;)V"⟩ ∈ tbG := tb_in (tb_2 36 rfl) rfl
theorem tw_2_37 : Cond.code ⟨"java/lang/IllegalStateException", "<init>", "(Ljava/lang/String;)V"⟩ prog_9_method_2_code 2 none ∈ tbG := tb_in (tb_2 37 rfl) rfl
theorem tw_2_38 : Cond.methodLink "java/lang/IllegalStateException" 7 ⟨"java/lang/RuntimeException", "<init>", "(Ljava/lang/String;)V"⟩ ∈ tbG := tb_in (tb_2 38 rfl) rfl
theorem tw_2_39 : Cond.lays "java/lang/IllegalStateException" "java/lang/Throwable" "depth" "I" ∈ tbG := tb_in (tb_2 39 rfl) rfl
theorem tw_2_40 : Cond.superclass "java/lang/IllegalStateException" "java/lang/RuntimeException" ∈ tbG := tb_in (tb_2 40 rfl) rfl
theorem tw_2_41 : Cond.methodLink "ThumbForge" 152 ⟨"ThumbForge$Program", "add", "(IIIIII)I"⟩ ∈ tbG := tb_in (tb_2 41 rfl) rfl
theorem tw_2_42 : Cond.instanceMethod ⟨"ThumbForge$Program", "add", "(IIIIII)I"⟩ ∈ tbG := tb_in (tb_2 42 rfl) rfl
theorem tw_2_43 : Cond.selects "ThumbForge$Program" ⟨"ThumbForge$Program", "add", "(IIIIII)I"⟩ ⟨"ThumbForge$Program", "add", "(IIIIII)I"⟩ ∈ tbG := tb_in (tb_2 43 rfl) rfl
theorem tw_2_44 : Cond.code ⟨"ThumbForge$Program", "add", "(IIIIII)I"⟩ prog_4_method_3_code 8 (some FieldType.int) ∈ tbG := tb_in (tb_2 44 rfl) rfl
theorem tw_2_45 : Cond.methodLink "ThumbForgeLaw" 84 ⟨"ThumbForgeLaw", "compute", "(LThumbForge;IIII[J)I"⟩ ∈ tbG := tb_in (tb_2 45 rfl) rfl
theorem tw_2_46 : Cond.static ⟨"ThumbForgeLaw", "compute", "(LThumbForge;IIII[J)I"⟩ ∈ tbG := tb_in (tb_2 46 rfl) rfl
theorem tw_2_47 : Cond.codeWith ⟨"ThumbForgeLaw", "compute", "(LThumbForge;IIII[J)I"⟩ method_4_code 7 (some FieldType.int) [(0, 14, 17, 13), (0, 14, 21, 15)] ∈ tbG := tb_in (tb_2 47 rfl) rfl
theorem tw_2_48 : Cond.methodLink "ThumbForgeLaw" 17 ⟨"ThumbForge", "compute", "(IIII)I"⟩ ∈ tbG := tb_in (tb_2 48 rfl) rfl
theorem tw_2_49 : Cond.instanceMethod ⟨"ThumbForge", "compute", "(IIII)I"⟩ ∈ tbG := tb_in (tb_2 49 rfl) rfl
theorem tw_2_50 : Cond.selects "ThumbForge" ⟨"ThumbForge", "compute", "(IIII)I"⟩ ⟨"ThumbForge", "compute", "(IIII)I"⟩ ∈ tbG := tb_in (tb_2 50 rfl) rfl
theorem tw_2_51 : Cond.code ⟨"ThumbForge", "compute", "(IIII)I"⟩ prog_1_method_3_code 5 (some FieldType.int) ∈ tbG := tb_in (tb_2 51 rfl) rfl
theorem tw_2_53 : Cond.methodLink "ThumbForgeLaw" 88 ⟨"ThumbForgeLaw", "load", "(LThumbForge;II[J)I"⟩ ∈ tbG := tb_in (tb_2 53 rfl) rfl
theorem tw_2_54 : Cond.static ⟨"ThumbForgeLaw", "load", "(LThumbForge;II[J)I"⟩ ∈ tbG := tb_in (tb_2 54 rfl) rfl
theorem tw_2_55 : Cond.codeWith ⟨"ThumbForgeLaw", "load", "(LThumbForge;II[J)I"⟩ method_5_code 5 (some FieldType.int) [(0, 10, 13, 13), (0, 10, 17, 15)] ∈ tbG := tb_in (tb_2 55 rfl) rfl
theorem tw_2_56 : Cond.methodLink "ThumbForgeLaw" 21 ⟨"ThumbForge", "load", "(II)I"⟩ ∈ tbG := tb_in (tb_2 56 rfl) rfl
theorem tw_2_57 : Cond.instanceMethod ⟨"ThumbForge", "load", "(II)I"⟩ ∈ tbG := tb_in (tb_2 57 rfl) rfl
theorem tw_2_58 : Cond.selects "ThumbForge" ⟨"ThumbForge", "load", "(II)I"⟩ ⟨"ThumbForge", "load", "(II)I"⟩ ∈ tbG := tb_in (tb_2 58 rfl) rfl
theorem tw_2_59 : Cond.code ⟨"ThumbForge", "load", "(II)I"⟩ prog_1_method_4_code 3 (some FieldType.int) ∈ tbG := tb_in (tb_2 59 rfl) rfl
theorem tw_2_60 : Cond.methodLink "ThumbForgeLaw" 91 ⟨"ThumbForgeLaw", "store", "(LThumbForge;II[J)I"⟩ ∈ tbG := tb_in (tb_2 60 rfl) rfl
theorem tw_2_61 : Cond.static ⟨"ThumbForgeLaw", "store", "(LThumbForge;II[J)I"⟩ ∈ tbG := tb_in (tb_2 61 rfl) rfl
theorem tw_2_62 : Cond.codeWith ⟨"ThumbForgeLaw", "store", "(LThumbForge;II[J)I"⟩ method_6_code 5 (some FieldType.int) [(0, 10, 13, 13), (0, 10, 17, 15)] ∈ tbG := tb_in (tb_2 62 rfl) rfl
theorem tw_2_63 : Cond.methodLink "ThumbForgeLaw" 24 ⟨"ThumbForge", "store", "(II)I"⟩ ∈ tbG := tb_in (tb_2 63 rfl) rfl
theorem tw_2_64 : Cond.instanceMethod ⟨"ThumbForge", "store", "(II)I"⟩ ∈ tbG := tb_in (tb_2 64 rfl) rfl
theorem tw_2_65 : Cond.selects "ThumbForge" ⟨"ThumbForge", "store", "(II)I"⟩ ⟨"ThumbForge", "store", "(II)I"⟩ ∈ tbG := tb_in (tb_2 65 rfl) rfl
theorem tw_2_66 : Cond.code ⟨"ThumbForge", "store", "(II)I"⟩ prog_1_method_5_code 3 (some FieldType.int) ∈ tbG := tb_in (tb_2 66 rfl) rfl
theorem tw_2_67 : Cond.methodLink "ThumbForgeLaw" 94 ⟨"ThumbForgeLaw", "jump", "(LThumbForge;I[J)I"⟩ ∈ tbG := tb_in (tb_2 67 rfl) rfl
theorem tw_2_68 : Cond.static ⟨"ThumbForgeLaw", "jump", "(LThumbForge;I[J)I"⟩ ∈ tbG := tb_in (tb_2 68 rfl) rfl
theorem tw_2_69 : Cond.codeWith ⟨"ThumbForgeLaw", "jump", "(LThumbForge;I[J)I"⟩ method_7_code 4 (some FieldType.int) [(0, 9, 12, 13), (0, 9, 15, 15)] ∈ tbG := tb_in (tb_2 69 rfl) rfl
theorem tw_2_70 : Cond.methodLink "ThumbForgeLaw" 27 ⟨"ThumbForge", "jump", "(I)I"⟩ ∈ tbG := tb_in (tb_2 70 rfl) rfl
theorem tw_2_71 : Cond.instanceMethod ⟨"ThumbForge", "jump", "(I)I"⟩ ∈ tbG := tb_in (tb_2 71 rfl) rfl
theorem tw_2_72 : Cond.selects "ThumbForge" ⟨"ThumbForge", "jump", "(I)I"⟩ ⟨"ThumbForge", "jump", "(I)I"⟩ ∈ tbG := tb_in (tb_2 72 rfl) rfl
theorem tw_2_73 : Cond.code ⟨"ThumbForge", "jump", "(I)I"⟩ prog_1_method_6_code 2 (some FieldType.int) ∈ tbG := tb_in (tb_2 73 rfl) rfl
theorem tw_2_74 : Cond.methodLink "ThumbForge" 49 ⟨"ThumbForge", "needTarget", "(I)V"⟩ ∈ tbG := tb_in (tb_2 74 rfl) rfl
theorem tw_2_75 : Cond.static ⟨"ThumbForge", "needTarget", "(I)V"⟩ ∈ tbG := tb_in (tb_2 75 rfl) rfl
theorem tw_2_76 : Cond.code ⟨"ThumbForge", "needTarget", "(I)V"⟩ prog_1_method_26_code 1 none ∈ tbG := tb_in (tb_2 76 rfl) rfl
theorem tw_2_78 : Cond.methodLink "ThumbForgeLaw" 98 ⟨"ThumbForgeLaw", "branch", "(LThumbForge;IIII[J)I"⟩ ∈ tbG := tb_in (tb_2 78 rfl) rfl
theorem tw_2_79 : Cond.static ⟨"ThumbForgeLaw", "branch", "(LThumbForge;IIII[J)I"⟩ ∈ tbG := tb_in (tb_2 79 rfl) rfl
theorem tw_2_80 : Cond.codeWith ⟨"ThumbForgeLaw", "branch", "(LThumbForge;IIII[J)I"⟩ method_8_code 7 (some FieldType.int) [(0, 14, 17, 13), (0, 14, 21, 15)] ∈ tbG := tb_in (tb_2 80 rfl) rfl
theorem tw_2_81 : Cond.methodLink "ThumbForgeLaw" 31 ⟨"ThumbForge", "branch", "(IIII)I"⟩ ∈ tbG := tb_in (tb_2 81 rfl) rfl
theorem tw_2_82 : Cond.instanceMethod ⟨"ThumbForge", "branch", "(IIII)I"⟩ ∈ tbG := tb_in (tb_2 82 rfl) rfl
theorem tw_2_83 : Cond.selects "ThumbForge" ⟨"ThumbForge", "branch", "(IIII)I"⟩ ⟨"ThumbForge", "branch", "(IIII)I"⟩ ∈ tbG := tb_in (tb_2 83 rfl) rfl
theorem tw_2_84 : Cond.code ⟨"ThumbForge", "branch", "(IIII)I"⟩ prog_1_method_7_code 5 (some FieldType.int) ∈ tbG := tb_in (tb_2 84 rfl) rfl
theorem tw_2_85 : Cond.methodLink "ThumbForge" 52 ⟨"ThumbForge", "isRelation", "(I)Z"⟩ ∈ tbG := tb_in (tb_2 85 rfl) rfl
theorem tw_2_86 : Cond.static ⟨"ThumbForge", "isRelation", "(I)Z"⟩ ∈ tbG := tb_in (tb_2 86 rfl) rfl
theorem tw_2_87 : Cond.code ⟨"ThumbForge", "isRelation", "(I)Z"⟩ prog_1_method_28_code 1 (some FieldType.boolean) ∈ tbG := tb_in (tb_2 87 rfl) rfl
theorem tw_2_89 : Cond.methodLink "ThumbForgeLaw" 101 ⟨"ThumbForgeLaw", "out", "(LThumbForge;I[J)I"⟩ ∈ tbG := tb_in (tb_2 89 rfl) rfl
theorem tw_2_90 : Cond.static ⟨"ThumbForgeLaw", "out", "(LThumbForge;I[J)I"⟩ ∈ tbG := tb_in (tb_2 90 rfl) rfl
theorem tw_2_91 : Cond.codeWith ⟨"ThumbForgeLaw", "out", "(LThumbForge;I[J)I"⟩ method_9_code 4 (some FieldType.int) [(0, 9, 12, 13), (0, 9, 15, 15)] ∈ tbG := tb_in (tb_2 91 rfl) rfl
theorem tw_2_92 : Cond.methodLink "ThumbForgeLaw" 34 ⟨"ThumbForge", "out", "(I)I"⟩ ∈ tbG := tb_in (tb_2 92 rfl) rfl
theorem tw_2_93 : Cond.instanceMethod ⟨"ThumbForge", "out", "(I)I"⟩ ∈ tbG := tb_in (tb_2 93 rfl) rfl
theorem tw_2_94 : Cond.selects "ThumbForge" ⟨"ThumbForge", "out", "(I)I"⟩ ⟨"ThumbForge", "out", "(I)I"⟩ ∈ tbG := tb_in (tb_2 94 rfl) rfl
theorem tw_2_95 : Cond.code ⟨"ThumbForge", "out", "(I)I"⟩ prog_1_method_8_code 2 (some FieldType.int) ∈ tbG := tb_in (tb_2 95 rfl) rfl
theorem tw_2_96 : Cond.methodLink "ThumbForgeLaw" 104 ⟨"ThumbForgeLaw", "stop", "(LThumbForge;I[J)I"⟩ ∈ tbG := tb_in (tb_2 96 rfl) rfl
theorem tw_2_97 : Cond.static ⟨"ThumbForgeLaw", "stop", "(LThumbForge;I[J)I"⟩ ∈ tbG := tb_in (tb_2 97 rfl) rfl
theorem tw_2_98 : Cond.codeWith ⟨"ThumbForgeLaw", "stop", "(LThumbForge;I[J)I"⟩ method_10_code 4 (some FieldType.int) [(0, 9, 12, 13), (0, 9, 15, 15)] ∈ tbG := tb_in (tb_2 98 rfl) rfl
theorem tw_2_99 : Cond.methodLink "ThumbForgeLaw" 37 ⟨"ThumbForge", "stop", "(I)I"⟩ ∈ tbG := tb_in (tb_2 99 rfl) rfl
theorem tw_2_100 : Cond.instanceMethod ⟨"ThumbForge", "stop", "(I)I"⟩ ∈ tbG := tb_in (tb_2 100 rfl) rfl
theorem tw_2_101 : Cond.selects "ThumbForge" ⟨"ThumbForge", "stop", "(I)I"⟩ ⟨"ThumbForge", "stop", "(I)I"⟩ ∈ tbG := tb_in (tb_2 101 rfl) rfl
theorem tw_2_102 : Cond.code ⟨"ThumbForge", "stop", "(I)I"⟩ prog_1_method_9_code 2 (some FieldType.int) ∈ tbG := tb_in (tb_2 102 rfl) rfl
theorem tw_2_104 : Cond.methodLink "ThumbForgeLaw" 111 ⟨"ThumbForgeLaw", "forge", "(LThumbForge;[J)I"⟩ ∈ tbG := tb_in (tb_2 104 rfl) rfl
theorem tw_2_105 : Cond.static ⟨"ThumbForgeLaw", "forge", "(LThumbForge;[J)I"⟩ ∈ tbG := tb_in (tb_2 105 rfl) rfl
theorem tw_2_106 : Cond.codeWith ⟨"ThumbForgeLaw", "forge", "(LThumbForge;[J)I"⟩ method_11_code 3 (some FieldType.int) [(0, 8, 11, 15)] ∈ tbG := tb_in (tb_2 106 rfl) rfl
theorem tw_2_107 : Cond.methodLink "ThumbForgeLaw" 40 ⟨"ThumbForge", "forge", "()I"⟩ ∈ tbG := tb_in (tb_2 107 rfl) rfl
theorem tw_2_108 : Cond.instanceMethod ⟨"ThumbForge", "forge", "()I"⟩ ∈ tbG := tb_in (tb_2 108 rfl) rfl
theorem tw_2_109 : Cond.selects "ThumbForge" ⟨"ThumbForge", "forge", "()I"⟩ ⟨"ThumbForge", "forge", "()I"⟩ ∈ tbG := tb_in (tb_2 109 rfl) rfl
theorem tw_2_110 : Cond.code ⟨"ThumbForge", "forge", "()I"⟩ prog_1_method_11_code 1 (some FieldType.int) ∈ tbG := tb_in (tb_2 110 rfl) rfl
theorem tw_2_111 : Cond.methodLink "ThumbForge" 66 ⟨"ThumbForge$Program", "canBeForged", "()Z"⟩ ∈ tbG := tb_in (tb_2 111 rfl) rfl
theorem tw_2_112 : Cond.instanceMethod ⟨"ThumbForge$Program", "canBeForged", "()Z"⟩ ∈ tbG := tb_in (tb_2 112 rfl) rfl
theorem tw_2_113 : Cond.selects "ThumbForge$Program" ⟨"ThumbForge$Program", "canBeForged", "()Z"⟩ ⟨"ThumbForge$Program", "canBeForged", "()Z"⟩ ∈ tbG := tb_in (tb_2 113 rfl) rfl
theorem tw_2_114 : Cond.code ⟨"ThumbForge$Program", "canBeForged", "()Z"⟩ prog_4_method_4_code 2 (some FieldType.boolean) ∈ tbG := tb_in (tb_2 114 rfl) rfl
theorem tw_2_115 : Cond.methodLink "ThumbForge$Program" 34 ⟨"ThumbForge$Program", "neverGoesOnBehind", "(I)Z"⟩ ∈ tbG := tb_in (tb_2 115 rfl) rfl
theorem tw_2_116 : Cond.static ⟨"ThumbForge$Program", "neverGoesOnBehind", "(I)Z"⟩ ∈ tbG := tb_in (tb_2 116 rfl) rfl
theorem tw_2_117 : Cond.code ⟨"ThumbForge$Program", "neverGoesOnBehind", "(I)Z"⟩ prog_4_method_5_code 1 (some FieldType.boolean) ∈ tbG := tb_in (tb_2 117 rfl) rfl
theorem tw_2_119 : Cond.methodLink "ThumbForge" 78 ⟨"ThumbForge$Image", "make", "()V"⟩ ∈ tbG := tb_in (tb_2 119 rfl) rfl
theorem tw_2_120 : Cond.instanceMethod ⟨"ThumbForge$Image", "make", "()V"⟩ ∈ tbG := tb_in (tb_2 120 rfl) rfl
theorem tw_2_121 : Cond.selects "ThumbForge$Image" ⟨"ThumbForge$Image", "make", "()V"⟩ ⟨"ThumbForge$Image", "make", "()V"⟩ ∈ tbG := tb_in (tb_2 121 rfl) rfl
theorem tw_2_122 : Cond.code ⟨"ThumbForge$Image", "make", "()V"⟩ prog_2_method_2_code 2 none ∈ tbG := tb_in (tb_2 122 rfl) rfl
theorem tw_2_123 : Cond.methodLink "ThumbForge$Image" 29 ⟨"ThumbForge$Image", "writeCode", "()V"⟩ ∈ tbG := tb_in (tb_2 123 rfl) rfl
theorem tw_2_125 : Cond.instanceMethod ⟨"ThumbForge$Image", "writeCode", "()V"⟩ ∈ tbG := tb_in (tb_2 125 rfl) rfl
theorem tw_2_126 : Cond.code ⟨"ThumbForge$Image", "writeCode", "()V"⟩ prog_2_method_7_code 2 none ∈ tbG := tb_in (tb_2 126 rfl) rfl
theorem tw_2_127 : Cond.constant "ThumbForge$Image" 69 536870912 ∈ tbG := tb_in (tb_2 127 rfl) rfl
theorem tw_2_128 : Cond.methodLink "ThumbForge$Image" 70 ⟨"ThumbForge$Image", "writeLiteral", "(II)V"⟩ ∈ tbG := tb_in (tb_2 128 rfl) rfl
theorem tw_2_130 : Cond.instanceMethod ⟨"ThumbForge$Image", "writeLiteral", "(II)V"⟩ ∈ tbG := tb_in (tb_2 130 rfl) rfl
theorem tw_2_131 : Cond.code ⟨"ThumbForge$Image", "writeLiteral", "(II)V"⟩ prog_2_method_12_code 5 none ∈ tbG := tb_in (tb_2 131 rfl) rfl
theorem tw_2_132 : Cond.methodLink "ThumbForge$Image" 133 ⟨"ThumbForge$Image", "literalIndex", "(I)I"⟩ ∈ tbG := tb_in (tb_2 132 rfl) rfl
theorem tw_2_134 : Cond.instanceMethod ⟨"ThumbForge$Image", "literalIndex", "(I)I"⟩ ∈ tbG := tb_in (tb_2 134 rfl) rfl
theorem tw_2_135 : Cond.code ⟨"ThumbForge$Image", "literalIndex", "(I)I"⟩ prog_2_method_13_code 3 (some FieldType.int) ∈ tbG := tb_in (tb_2 135 rfl) rfl
theorem tw_2_136 : Cond.methodLink "ThumbForge$Image" 81 ⟨"ThumbForge$Image", "put", "(I)V"⟩ ∈ tbG := tb_in (tb_2 136 rfl) rfl
theorem tw_2_138 : Cond.instanceMethod ⟨"ThumbForge$Image", "put", "(I)V"⟩ ∈ tbG := tb_in (tb_2 138 rfl) rfl
theorem tw_2_139 : Cond.code ⟨"ThumbForge$Image", "put", "(I)V"⟩ prog_2_method_25_code 2 none ∈ tbG := tb_in (tb_2 139 rfl) rfl
theorem tw_2_140 : Cond.methodLink "ThumbForge$Image" 74 ⟨"ThumbForge$Image", "writeInstruction", "(I)V"⟩ ∈ tbG := tb_in (tb_2 140 rfl) rfl
theorem tw_2_142 : Cond.instanceMethod ⟨"ThumbForge$Image", "writeInstruction", "(I)V"⟩ ∈ tbG := tb_in (tb_2 142 rfl) rfl
theorem tw_2_143 : Cond.code ⟨"ThumbForge$Image", "writeInstruction", "(I)V"⟩ prog_2_method_9_code 6 none ∈ tbG := tb_in (tb_2 143 rfl) rfl
theorem tw_2_144 : Cond.methodLink "ThumbForge$Image" 94 ⟨"ThumbForge$Image", "targetOf", "(I)I"⟩ ∈ tbG := tb_in (tb_2 144 rfl) rfl
theorem tw_2_145 : Cond.static ⟨"ThumbForge$Image", "targetOf", "(I)I"⟩ ∈ tbG := tb_in (tb_2 145 rfl) rfl
theorem tw_2_146 : Cond.code ⟨"ThumbForge$Image", "targetOf", "(I)I"⟩ prog_2_method_21_code 1 (some FieldType.int) ∈ tbG := tb_in (tb_2 146 rfl) rfl
theorem tw_2_147 : Cond.methodLink "ThumbForge$Image" 139 ⟨"ThumbForge$Image", "hasRegister", "(I)Z"⟩ ∈ tbG := tb_in (tb_2 147 rfl) rfl
theorem tw_2_148 : Cond.static ⟨"ThumbForge$Image", "hasRegister", "(I)Z"⟩ ∈ tbG := tb_in (tb_2 148 rfl) rfl
theorem tw_2_149 : Cond.code ⟨"ThumbForge$Image", "hasRegister", "(I)Z"⟩ prog_2_method_22_code 1 (some FieldType.boolean) ∈ tbG := tb_in (tb_2 149 rfl) rfl
theorem tw_2_150 : Cond.methodLink "ThumbForge$Image" 142 ⟨"ThumbForge$Image", "registerOf", "(I)I"⟩ ∈ tbG := tb_in (tb_2 150 rfl) rfl
theorem tw_2_151 : Cond.static ⟨"ThumbForge$Image", "registerOf", "(I)I"⟩ ∈ tbG := tb_in (tb_2 151 rfl) rfl
theorem tw_2_152 : Cond.code ⟨"ThumbForge$Image", "registerOf", "(I)I"⟩ prog_2_method_23_code 1 (some FieldType.int) ∈ tbG := tb_in (tb_2 152 rfl) rfl
theorem tw_2_153 : Cond.methodLink "ThumbForge$Image" 98 ⟨"ThumbForge$Image", "writeNumber", "(II)V"⟩ ∈ tbG := tb_in (tb_2 153 rfl) rfl
theorem tw_2_155 : Cond.instanceMethod ⟨"ThumbForge$Image", "writeNumber", "(II)V"⟩ ∈ tbG := tb_in (tb_2 155 rfl) rfl
theorem tw_2_156 : Cond.code ⟨"ThumbForge$Image", "writeNumber", "(II)V"⟩ prog_2_method_10_code 4 none ∈ tbG := tb_in (tb_2 156 rfl) rfl
theorem tw_2_157 : Cond.methodLink "ThumbForge$Image" 130 ⟨"ThumbForge$Image", "leastShift", "(I)I"⟩ ∈ tbG := tb_in (tb_2 157 rfl) rfl
theorem tw_2_158 : Cond.static ⟨"ThumbForge$Image", "leastShift", "(I)I"⟩ ∈ tbG := tb_in (tb_2 158 rfl) rfl
theorem tw_2_159 : Cond.code ⟨"ThumbForge$Image", "leastShift", "(I)I"⟩ prog_2_method_11_code 3 (some FieldType.int) ∈ tbG := tb_in (tb_2 159 rfl) rfl
theorem tw_2_160 : Cond.methodLink "ThumbForge$Image" 101 ⟨"ThumbForge$Image", "keep", "(I)V"⟩ ∈ tbG := tb_in (tb_2 160 rfl) rfl
theorem tw_2_162 : Cond.instanceMethod ⟨"ThumbForge$Image", "keep", "(I)V"⟩ ∈ tbG := tb_in (tb_2 162 rfl) rfl
theorem tw_2_163 : Cond.code ⟨"ThumbForge$Image", "keep", "(I)V"⟩ prog_2_method_20_code 2 none ∈ tbG := tb_in (tb_2 163 rfl) rfl
theorem tw_2_164 : Cond.constant "ThumbForge$Image" 151 36864 ∈ tbG := tb_in (tb_2 164 rfl) rfl
theorem tw_2_165 : Cond.methodLink "ThumbForge$Image" 148 ⟨"ThumbForge$Image", "slotOf", "(I)I"⟩ ∈ tbG := tb_in (tb_2 165 rfl) rfl
theorem tw_2_166 : Cond.static ⟨"ThumbForge$Image", "slotOf", "(I)I"⟩ ∈ tbG := tb_in (tb_2 166 rfl) rfl
theorem tw_2_167 : Cond.code ⟨"ThumbForge$Image", "slotOf", "(I)I"⟩ prog_2_method_24_code 1 (some FieldType.int) ∈ tbG := tb_in (tb_2 167 rfl) rfl
theorem tw_2_168 : Cond.methodLink "ThumbForge$Image" 107 ⟨"ThumbForge$Image", "writeCompute", "(IIII)V"⟩ ∈ tbG := tb_in (tb_2 168 rfl) rfl
theorem tw_2_170 : Cond.instanceMethod ⟨"ThumbForge$Image", "writeCompute", "(IIII)V"⟩ ∈ tbG := tb_in (tb_2 170 rfl) rfl
theorem tw_2_171 : Cond.code ⟨"ThumbForge$Image", "writeCompute", "(IIII)V"⟩ prog_2_method_14_code 7 none ∈ tbG := tb_in (tb_2 171 rfl) rfl
theorem tw_2_172 : Cond.methodLink "ThumbForge$Image" 114 ⟨"ThumbForge$Image", "fetch", "(II)I"⟩ ∈ tbG := tb_in (tb_2 172 rfl) rfl
theorem tw_2_174 : Cond.instanceMethod ⟨"ThumbForge$Image", "fetch", "(II)I"⟩ ∈ tbG := tb_in (tb_2 174 rfl) rfl
theorem tw_2_175 : Cond.code ⟨"ThumbForge$Image", "fetch", "(II)I"⟩ prog_2_method_18_code 3 (some FieldType.int) ∈ tbG := tb_in (tb_2 175 rfl) rfl
theorem tw_2_176 : Cond.constant "ThumbForge$Image" 147 38912 ∈ tbG := tb_in (tb_2 176 rfl) rfl
theorem tw_2_177 : Cond.methodLink "ThumbForge$Image" 124 ⟨"ThumbForge$Image", "copyTo0", "(I)V"⟩ ∈ tbG := tb_in (tb_2 177 rfl) rfl
theorem tw_2_179 : Cond.instanceMethod ⟨"ThumbForge$Image", "copyTo0", "(I)V"⟩ ∈ tbG := tb_in (tb_2 179 rfl) rfl
theorem tw_2_180 : Cond.code ⟨"ThumbForge$Image", "copyTo0", "(I)V"⟩ prog_2_method_19_code 2 none ∈ tbG := tb_in (tb_2 180 rfl) rfl
theorem tw_2_181 : Cond.fieldLink "ThumbForge$Image" 136 "ThumbForge$Image" "CHANGE_0" "[I" ∈ tbG := tb_in (tb_2 181 rfl) rfl
theorem tw_2_183 : Cond.methodLink "ThumbForge$Image" 111 ⟨"ThumbForge$Image", "writeWordChoice", "(I)V"⟩ ∈ tbG := tb_in (tb_2 183 rfl) rfl
theorem tw_2_185 : Cond.instanceMethod ⟨"ThumbForge$Image", "writeWordChoice", "(I)V"⟩ ∈ tbG := tb_in (tb_2 185 rfl) rfl
theorem tw_2_186 : Cond.code ⟨"ThumbForge$Image", "writeWordChoice", "(I)V"⟩ prog_2_method_15_code 3 none ∈ tbG := tb_in (tb_2 186 rfl) rfl
theorem tw_2_187 : Cond.methodLink "ThumbForge$Image" 117 ⟨"ThumbForge$Image", "writeJump", "(I)V"⟩ ∈ tbG := tb_in (tb_2 187 rfl) rfl
theorem tw_2_189 : Cond.instanceMethod ⟨"ThumbForge$Image", "writeJump", "(I)V"⟩ ∈ tbG := tb_in (tb_2 189 rfl) rfl
theorem tw_2_190 : Cond.code ⟨"ThumbForge$Image", "writeJump", "(I)V"⟩ prog_2_method_17_code 2 none ∈ tbG := tb_in (tb_2 190 rfl) rfl
theorem tw_2_191 : Cond.constant "ThumbForge$Image" 146 57344 ∈ tbG := tb_in (tb_2 191 rfl) rfl
theorem tw_2_192 : Cond.methodLink "ThumbForge$Image" 59 ⟨"ThumbForge$Image", "distance", "(II)I"⟩ ∈ tbG := tb_in (tb_2 192 rfl) rfl
theorem tw_2_194 : Cond.instanceMethod ⟨"ThumbForge$Image", "distance", "(II)I"⟩ ∈ tbG := tb_in (tb_2 194 rfl) rfl
theorem tw_2_195 : Cond.code ⟨"ThumbForge$Image", "distance", "(II)I"⟩ prog_2_method_6_code 3 (some FieldType.int) ∈ tbG := tb_in (tb_2 195 rfl) rfl
theorem tw_2_196 : Cond.methodLink "ThumbForge$Image" 120 ⟨"ThumbForge$Image", "writeBranch", "(IIIIZ)V"⟩ ∈ tbG := tb_in (tb_2 196 rfl) rfl
theorem tw_2_198 : Cond.instanceMethod ⟨"ThumbForge$Image", "writeBranch", "(IIIIZ)V"⟩ ∈ tbG := tb_in (tb_2 198 rfl) rfl
theorem tw_2_199 : Cond.code ⟨"ThumbForge$Image", "writeBranch", "(IIIIZ)V"⟩ prog_2_method_16_code 8 none ∈ tbG := tb_in (tb_2 199 rfl) rfl
theorem tw_2_200 : Cond.constant "ThumbForge$Image" 145 53248 ∈ tbG := tb_in (tb_2 200 rfl) rfl
theorem tw_2_201 : Cond.constant "ThumbForge$Image" 127 57088 ∈ tbG := tb_in (tb_2 201 rfl) rfl
theorem tw_2_202 : Cond.constant "ThumbForge$Image" 128 57089 ∈ tbG := tb_in (tb_2 202 rfl) rfl
theorem tw_2_203 : Cond.constant "ThumbForge$Image" 129 56832 ∈ tbG := tb_in (tb_2 203 rfl) rfl
theorem tw_2_204 : Cond.methodLink "ThumbForge$Image" 32 ⟨"ThumbForge$Image", "lengthenBranches", "()Z"⟩ ∈ tbG := tb_in (tb_2 204 rfl) rfl
theorem tw_2_206 : Cond.instanceMethod ⟨"ThumbForge$Image", "lengthenBranches", "()Z"⟩ ∈ tbG := tb_in (tb_2 206 rfl) rfl
theorem tw_2_207 : Cond.code ⟨"ThumbForge$Image", "lengthenBranches", "()Z"⟩ prog_2_method_4_code 3 (some FieldType.boolean) ∈ tbG := tb_in (tb_2 207 rfl) rfl
theorem tw_2_208 : Cond.methodLink "ThumbForge$Image" 52 ⟨"ThumbForge$Image", "reaches", "(I)Z"⟩ ∈ tbG := tb_in (tb_2 208 rfl) rfl
theorem tw_2_210 : Cond.instanceMethod ⟨"ThumbForge$Image", "reaches", "(I)Z"⟩ ∈ tbG := tb_in (tb_2 210 rfl) rfl
theorem tw_2_211 : Cond.code ⟨"ThumbForge$Image", "reaches", "(I)Z"⟩ prog_2_method_5_code 3 (some FieldType.boolean) ∈ tbG := tb_in (tb_2 211 rfl) rfl
theorem tw_2_212 : Cond.methodLink "ThumbForge$Image" 36 ⟨"ThumbForge$Image", "writePool", "()V"⟩ ∈ tbG := tb_in (tb_2 212 rfl) rfl
theorem tw_2_214 : Cond.instanceMethod ⟨"ThumbForge$Image", "writePool", "()V"⟩ ∈ tbG := tb_in (tb_2 214 rfl) rfl
theorem tw_2_215 : Cond.code ⟨"ThumbForge$Image", "writePool", "()V"⟩ prog_2_method_8_code 2 none ∈ tbG := tb_in (tb_2 215 rfl) rfl
theorem tw_2_216 : Cond.constant "ThumbForge$Image" 84 65535 ∈ tbG := tb_in (tb_2 216 rfl) rfl
theorem tw_2_217 : Cond.methodLink "ThumbForgeLaw" 115 ⟨"ThumbForgeLaw", "halfword", "(LThumbForge;I[J)I"⟩ ∈ tbG := tb_in (tb_2 217 rfl) rfl
theorem tw_2_218 : Cond.static ⟨"ThumbForgeLaw", "halfword", "(LThumbForge;I[J)I"⟩ ∈ tbG := tb_in (tb_2 218 rfl) rfl
theorem tw_2_219 : Cond.codeWith ⟨"ThumbForgeLaw", "halfword", "(LThumbForge;I[J)I"⟩ method_12_code 4 (some FieldType.int) [(0, 9, 12, 47)] ∈ tbG := tb_in (tb_2 219 rfl) rfl
theorem tw_2_220 : Cond.classLink "ThumbForgeLaw" 47 "java/util/NoSuchElementException" ∈ tbG := tb_in (tb_2 220 rfl) rfl
theorem tw_2_221 : Cond.methodLink "ThumbForgeLaw" 44 ⟨"ThumbForge", "halfword", "(I)I"⟩ ∈ tbG := tb_in (tb_2 221 rfl) rfl
theorem tw_2_222 : Cond.instanceMethod ⟨"ThumbForge", "halfword", "(I)I"⟩ ∈ tbG := tb_in (tb_2 222 rfl) rfl
theorem tw_2_223 : Cond.selects "ThumbForge" ⟨"ThumbForge", "halfword", "(I)I"⟩ ⟨"ThumbForge", "halfword", "(I)I"⟩ ∈ tbG := tb_in (tb_2 223 rfl) rfl
theorem tw_2_224 : Cond.code ⟨"ThumbForge", "halfword", "(I)I"⟩ prog_1_method_12_code 2 (some FieldType.int) ∈ tbG := tb_in (tb_2 224 rfl) rfl
theorem tw_2_225 : Cond.classLink "ThumbForge" 89 "java/util/NoSuchElementException" ∈ tbG := tb_in (tb_2 225 rfl) rfl
theorem tw_2_226 : Cond.instantiable "java/util/NoSuchElementException" 6 ∈ tbG := tb_in (tb_2 226 rfl) rfl
theorem tw_2_228 : Cond.selects "java/util/NoSuchElementException" ⟨"java/lang/Throwable", "fillInStackTrace", "(I)Ljava/lang/Throwable;"⟩ ⟨"java/lang/Throwable", "fillInStackTrace", "(I)Ljava/lang/Throwable;"⟩ ∈ tbG := tb_in (tb_2 228 rfl) rfl
theorem tw_2_229 : Cond.lays "java/util/NoSuchElementException" "java/lang/Throwable" "cause" "Ljava/lang/Throwable;" ∈ tbG := tb_in (tb_2 229 rfl) rfl
theorem tw_2_230 : Cond.lays "java/util/NoSuchElementException" "java/lang/Throwable" "stackTrace" "[Ljava/lang/StackTraceElement;" ∈ tbG := tb_in (tb_2 230 rfl) rfl
theorem tw_2_231 : Cond.lays "java/util/NoSuchElementException" "java/lang/Throwable" "suppressedExceptions" "Ljava/util/List;" ∈ tbG := tb_in (tb_2 231 rfl) rfl
theorem tw_2_232 : Cond.lays "java/util/NoSuchElementException" "java/lang/Throwable" "detailMessage" "Ljava/lang/String;" ∈ tbG := tb_in (tb_2 232 rfl) rfl
theorem tw_2_233 : Cond.lays "java/util/NoSuchElementException" "java/lang/Throwable" "backtrace" "Ljava/lang/Object;" ∈ tbG := tb_in (tb_2 233 rfl) rfl
theorem tw_2_235 : Cond.methodLink "ThumbForge" 93 ⟨"java/util/NoSuchElementException", "<init>", "(Ljava/lang/String;)V"⟩ ∈ tbG := tb_in (tb_2 235 rfl) rfl
theorem tw_2_236 : Cond.instanceMethod ⟨"java/util/NoSuchElementException", "<init>", "(Ljava/lang/String;)V"⟩ ∈ tbG := tb_in (tb_2 236 rfl) rfl
theorem tw_2_237 : Cond.code ⟨"java/util/NoSuchElementException", "<init>", "(Ljava/lang/String;)V"⟩ prog_13_method_4_code 2 none ∈ tbG := tb_in (tb_2 237 rfl) rfl
theorem tw_2_238 : Cond.methodLink "java/util/NoSuchElementException" 13 ⟨"java/lang/RuntimeException", "<init>", "(Ljava/lang/String;)V"⟩ ∈ tbG := tb_in (tb_2 238 rfl) rfl
theorem tw_2_239 : Cond.lays "java/util/NoSuchElementException" "java/lang/Throwable" "depth" "I" ∈ tbG := tb_in (tb_2 239 rfl) rfl
theorem tw_3_0 : Cond.superclass "java/util/NoSuchElementException" "java/lang/RuntimeException" ∈ tbG := tb_in (tb_3 0 rfl) rfl
theorem tw_3_1 : Cond.methodLink "ThumbForgeLaw" 118 ⟨"ThumbForgeLaw", "place", "(LThumbForge;I[J)I"⟩ ∈ tbG := tb_in (tb_3 1 rfl) rfl
theorem tw_3_2 : Cond.static ⟨"ThumbForgeLaw", "place", "(LThumbForge;I[J)I"⟩ ∈ tbG := tb_in (tb_3 2 rfl) rfl
theorem tw_3_3 : Cond.codeWith ⟨"ThumbForgeLaw", "place", "(LThumbForge;I[J)I"⟩ method_13_code 4 (some FieldType.int) [(0, 9, 12, 47)] ∈ tbG := tb_in (tb_3 3 rfl) rfl
theorem tw_3_4 : Cond.methodLink "ThumbForgeLaw" 49 ⟨"ThumbForge", "place", "(I)I"⟩ ∈ tbG := tb_in (tb_3 4 rfl) rfl
theorem tw_3_5 : Cond.instanceMethod ⟨"ThumbForge", "place", "(I)I"⟩ ∈ tbG := tb_in (tb_3 5 rfl) rfl
theorem tw_3_6 : Cond.selects "ThumbForge" ⟨"ThumbForge", "place", "(I)I"⟩ ⟨"ThumbForge", "place", "(I)I"⟩ ∈ tbG := tb_in (tb_3 6 rfl) rfl
theorem tw_3_7 : Cond.code ⟨"ThumbForge", "place", "(I)I"⟩ prog_1_method_13_code 2 (some FieldType.int) ∈ tbG := tb_in (tb_3 7 rfl) rfl
theorem tw_3_9 : Cond.methodLink "ThumbForgeLaw" 121 ⟨"ThumbForgeLaw", "poke", "(LThumbForge;II)I"⟩ ∈ tbG := tb_in (tb_3 9 rfl) rfl
theorem tw_3_10 : Cond.static ⟨"ThumbForgeLaw", "poke", "(LThumbForge;II)I"⟩ ∈ tbG := tb_in (tb_3 10 rfl) rfl
theorem tw_3_11 : Cond.codeWith ⟨"ThumbForgeLaw", "poke", "(LThumbForge;II)I"⟩ method_14_code 4 (some FieldType.int) [(0, 6, 9, 13)] ∈ tbG := tb_in (tb_3 11 rfl) rfl
theorem tw_3_12 : Cond.methodLink "ThumbForgeLaw" 52 ⟨"ThumbForge", "poke", "(II)V"⟩ ∈ tbG := tb_in (tb_3 12 rfl) rfl
theorem tw_3_13 : Cond.instanceMethod ⟨"ThumbForge", "poke", "(II)V"⟩ ∈ tbG := tb_in (tb_3 13 rfl) rfl
theorem tw_3_14 : Cond.selects "ThumbForge" ⟨"ThumbForge", "poke", "(II)V"⟩ ⟨"ThumbForge", "poke", "(II)V"⟩ ∈ tbG := tb_in (tb_3 14 rfl) rfl
theorem tw_3_15 : Cond.code ⟨"ThumbForge", "poke", "(II)V"⟩ prog_1_method_14_code 3 none ∈ tbG := tb_in (tb_3 15 rfl) rfl
theorem tw_3_16 : Cond.methodLink "ThumbForge" 106 ⟨"ThumbForge", "needWord", "(I)V"⟩ ∈ tbG := tb_in (tb_3 16 rfl) rfl
theorem tw_3_17 : Cond.static ⟨"ThumbForge", "needWord", "(I)V"⟩ ∈ tbG := tb_in (tb_3 17 rfl) rfl
theorem tw_3_18 : Cond.code ⟨"ThumbForge", "needWord", "(I)V"⟩ prog_1_method_27_code 1 none ∈ tbG := tb_in (tb_3 18 rfl) rfl
theorem tw_3_20 : Cond.methodLink "ThumbForgeLaw" 125 ⟨"ThumbForgeLaw", "memory", "(LThumbForge;I[J)I"⟩ ∈ tbG := tb_in (tb_3 20 rfl) rfl
theorem tw_3_21 : Cond.static ⟨"ThumbForgeLaw", "memory", "(LThumbForge;I[J)I"⟩ ∈ tbG := tb_in (tb_3 21 rfl) rfl
theorem tw_3_22 : Cond.codeWith ⟨"ThumbForgeLaw", "memory", "(LThumbForge;I[J)I"⟩ method_15_code 4 (some FieldType.int) [(0, 9, 12, 13)] ∈ tbG := tb_in (tb_3 22 rfl) rfl
theorem tw_3_23 : Cond.methodLink "ThumbForgeLaw" 56 ⟨"ThumbForge", "memory", "(I)I"⟩ ∈ tbG := tb_in (tb_3 23 rfl) rfl
theorem tw_3_24 : Cond.instanceMethod ⟨"ThumbForge", "memory", "(I)I"⟩ ∈ tbG := tb_in (tb_3 24 rfl) rfl
theorem tw_3_25 : Cond.selects "ThumbForge" ⟨"ThumbForge", "memory", "(I)I"⟩ ⟨"ThumbForge", "memory", "(I)I"⟩ ∈ tbG := tb_in (tb_3 25 rfl) rfl
theorem tw_3_26 : Cond.code ⟨"ThumbForge", "memory", "(I)I"⟩ prog_1_method_15_code 2 (some FieldType.int) ∈ tbG := tb_in (tb_3 26 rfl) rfl
theorem tw_3_27 : Cond.methodLink "ThumbForgeLaw" 128 ⟨"ThumbForgeLaw", "start", "(LThumbForge;)I"⟩ ∈ tbG := tb_in (tb_3 27 rfl) rfl
theorem tw_3_28 : Cond.static ⟨"ThumbForgeLaw", "start", "(LThumbForge;)I"⟩ ∈ tbG := tb_in (tb_3 28 rfl) rfl
theorem tw_3_29 : Cond.codeWith ⟨"ThumbForgeLaw", "start", "(LThumbForge;)I"⟩ method_16_code 2 (some FieldType.int) [(0, 4, 7, 15)] ∈ tbG := tb_in (tb_3 29 rfl) rfl
theorem tw_3_30 : Cond.methodLink "ThumbForgeLaw" 59 ⟨"ThumbForge", "start", "()V"⟩ ∈ tbG := tb_in (tb_3 30 rfl) rfl
theorem tw_3_31 : Cond.instanceMethod ⟨"ThumbForge", "start", "()V"⟩ ∈ tbG := tb_in (tb_3 31 rfl) rfl
theorem tw_3_32 : Cond.selects "ThumbForge" ⟨"ThumbForge", "start", "()V"⟩ ⟨"ThumbForge", "start", "()V"⟩ ∈ tbG := tb_in (tb_3 32 rfl) rfl
theorem tw_3_33 : Cond.code ⟨"ThumbForge", "start", "()V"⟩ prog_1_method_16_code 1 none ∈ tbG := tb_in (tb_3 33 rfl) rfl
theorem tw_3_35 : Cond.methodLink "ThumbForge" 114 ⟨"ThumbForge$Machine", "turnOn", "()V"⟩ ∈ tbG := tb_in (tb_3 35 rfl) rfl
theorem tw_3_36 : Cond.instanceMethod ⟨"ThumbForge$Machine", "turnOn", "()V"⟩ ∈ tbG := tb_in (tb_3 36 rfl) rfl
theorem tw_3_37 : Cond.selects "ThumbForge$Machine" ⟨"ThumbForge$Machine", "turnOn", "()V"⟩ ⟨"ThumbForge$Machine", "turnOn", "()V"⟩ ∈ tbG := tb_in (tb_3 37 rfl) rfl
theorem tw_3_38 : Cond.code ⟨"ThumbForge$Machine", "turnOn", "()V"⟩ prog_3_method_3_code 2 none ∈ tbG := tb_in (tb_3 38 rfl) rfl
theorem tw_3_39 : Cond.methodLink "ThumbForgeLaw" 132 ⟨"ThumbForgeLaw", "run", "(LThumbForge;I[J)I"⟩ ∈ tbG := tb_in (tb_3 39 rfl) rfl
theorem tw_3_40 : Cond.static ⟨"ThumbForgeLaw", "run", "(LThumbForge;I[J)I"⟩ ∈ tbG := tb_in (tb_3 40 rfl) rfl
theorem tw_3_41 : Cond.codeWith ⟨"ThumbForgeLaw", "run", "(LThumbForge;I[J)I"⟩ method_17_code 4 (some FieldType.int) [(0, 9, 12, 13), (0, 9, 15, 15)] ∈ tbG := tb_in (tb_3 41 rfl) rfl
theorem tw_3_42 : Cond.methodLink "ThumbForgeLaw" 62 ⟨"ThumbForge", "run", "(I)I"⟩ ∈ tbG := tb_in (tb_3 42 rfl) rfl
theorem tw_3_43 : Cond.instanceMethod ⟨"ThumbForge", "run", "(I)I"⟩ ∈ tbG := tb_in (tb_3 43 rfl) rfl
theorem tw_3_44 : Cond.selects "ThumbForge" ⟨"ThumbForge", "run", "(I)I"⟩ ⟨"ThumbForge", "run", "(I)I"⟩ ∈ tbG := tb_in (tb_3 44 rfl) rfl
theorem tw_3_45 : Cond.code ⟨"ThumbForge", "run", "(I)I"⟩ prog_1_method_17_code 2 (some FieldType.int) ∈ tbG := tb_in (tb_3 45 rfl) rfl
theorem tw_3_48 : Cond.methodLink "ThumbForge" 124 ⟨"ThumbForge$Machine", "goOn", "(I)I"⟩ ∈ tbG := tb_in (tb_3 48 rfl) rfl
theorem tw_3_49 : Cond.instanceMethod ⟨"ThumbForge$Machine", "goOn", "(I)I"⟩ ∈ tbG := tb_in (tb_3 49 rfl) rfl
theorem tw_3_50 : Cond.selects "ThumbForge$Machine" ⟨"ThumbForge$Machine", "goOn", "(I)I"⟩ ⟨"ThumbForge$Machine", "goOn", "(I)I"⟩ ∈ tbG := tb_in (tb_3 50 rfl) rfl
theorem tw_3_51 : Cond.code ⟨"ThumbForge$Machine", "goOn", "(I)I"⟩ prog_3_method_4_code 4 (some FieldType.int) ∈ tbG := tb_in (tb_3 51 rfl) rfl
theorem tw_3_52 : Cond.methodLink "ThumbForge$Machine" 39 ⟨"ThumbForge$Machine", "step", "()I"⟩ ∈ tbG := tb_in (tb_3 52 rfl) rfl
theorem tw_3_54 : Cond.instanceMethod ⟨"ThumbForge$Machine", "step", "()I"⟩ ∈ tbG := tb_in (tb_3 54 rfl) rfl
theorem tw_3_55 : Cond.code ⟨"ThumbForge$Machine", "step", "()I"⟩ prog_3_method_7_code 6 (some FieldType.int) ∈ tbG := tb_in (tb_3 55 rfl) rfl
theorem tw_3_56 : Cond.methodLink "ThumbForge$Machine" 54 ⟨"ThumbForge$Image", "lengthOf", "(I)I"⟩ ∈ tbG := tb_in (tb_3 56 rfl) rfl
theorem tw_3_57 : Cond.instanceMethod ⟨"ThumbForge$Image", "lengthOf", "(I)I"⟩ ∈ tbG := tb_in (tb_3 57 rfl) rfl
theorem tw_3_58 : Cond.selects "ThumbForge$Image" ⟨"ThumbForge$Image", "lengthOf", "(I)I"⟩ ⟨"ThumbForge$Image", "lengthOf", "(I)I"⟩ ∈ tbG := tb_in (tb_3 58 rfl) rfl
theorem tw_3_59 : Cond.code ⟨"ThumbForge$Image", "lengthOf", "(I)I"⟩ prog_2_method_3_code 2 (some FieldType.int) ∈ tbG := tb_in (tb_3 59 rfl) rfl
theorem tw_3_60 : Cond.methodLink "ThumbForge$Machine" 69 ⟨"ThumbForge$Machine", "result", "(III)I"⟩ ∈ tbG := tb_in (tb_3 60 rfl) rfl
theorem tw_3_61 : Cond.static ⟨"ThumbForge$Machine", "result", "(III)I"⟩ ∈ tbG := tb_in (tb_3 61 rfl) rfl
theorem tw_3_62 : Cond.code ⟨"ThumbForge$Machine", "result", "(III)I"⟩ prog_3_method_9_code 4 (some FieldType.int) ∈ tbG := tb_in (tb_3 62 rfl) rfl
theorem tw_3_63 : Cond.methodLink "ThumbForge$Machine" 73 ⟨"ThumbForge$Machine", "holds", "(III)Z"⟩ ∈ tbG := tb_in (tb_3 63 rfl) rfl
theorem tw_3_64 : Cond.static ⟨"ThumbForge$Machine", "holds", "(III)Z"⟩ ∈ tbG := tb_in (tb_3 64 rfl) rfl
theorem tw_3_65 : Cond.code ⟨"ThumbForge$Machine", "holds", "(III)Z"⟩ prog_3_method_10_code 5 (some FieldType.boolean) ∈ tbG := tb_in (tb_3 65 rfl) rfl
theorem tw_3_66 : Cond.constant "ThumbForge$Machine" 88 (-2147483648) ∈ tbG := tb_in (tb_3 66 rfl) rfl
theorem tw_3_67 : Cond.methodLink "ThumbForge$Machine" 81 ⟨"ThumbForge$Machine", "putOut", "(I)V"⟩ ∈ tbG := tb_in (tb_3 67 rfl) rfl
theorem tw_3_69 : Cond.instanceMethod ⟨"ThumbForge$Machine", "putOut", "(I)V"⟩ ∈ tbG := tb_in (tb_3 69 rfl) rfl
theorem tw_3_70 : Cond.code ⟨"ThumbForge$Machine", "putOut", "(I)V"⟩ prog_3_method_8_code 2 none ∈ tbG := tb_in (tb_3 70 rfl) rfl
theorem tw_3_71 : Cond.methodLink "ThumbForgeLaw" 143 ⟨"ThumbForgeLaw", "variable", "(LThumbForge;I[J)I"⟩ ∈ tbG := tb_in (tb_3 71 rfl) rfl
theorem tw_3_72 : Cond.static ⟨"ThumbForgeLaw", "variable", "(LThumbForge;I[J)I"⟩ ∈ tbG := tb_in (tb_3 72 rfl) rfl
theorem tw_3_73 : Cond.codeWith ⟨"ThumbForgeLaw", "variable", "(LThumbForge;I[J)I"⟩ method_18_code 4 (some FieldType.int) [(0, 9, 12, 13), (0, 9, 15, 15)] ∈ tbG := tb_in (tb_3 73 rfl) rfl
theorem tw_3_74 : Cond.methodLink "ThumbForgeLaw" 65 ⟨"ThumbForge", "variable", "(I)I"⟩ ∈ tbG := tb_in (tb_3 74 rfl) rfl
theorem tw_3_75 : Cond.instanceMethod ⟨"ThumbForge", "variable", "(I)I"⟩ ∈ tbG := tb_in (tb_3 75 rfl) rfl
theorem tw_3_76 : Cond.selects "ThumbForge" ⟨"ThumbForge", "variable", "(I)I"⟩ ⟨"ThumbForge", "variable", "(I)I"⟩ ∈ tbG := tb_in (tb_3 76 rfl) rfl
theorem tw_3_77 : Cond.code ⟨"ThumbForge", "variable", "(I)I"⟩ prog_1_method_20_code 2 (some FieldType.int) ∈ tbG := tb_in (tb_3 77 rfl) rfl
theorem tw_3_79 : Cond.methodLink "ThumbForgeLaw" 150 ⟨"ThumbForgeLaw", "output", "(LThumbForge;I[J)I"⟩ ∈ tbG := tb_in (tb_3 79 rfl) rfl
theorem tw_3_80 : Cond.static ⟨"ThumbForgeLaw", "output", "(LThumbForge;I[J)I"⟩ ∈ tbG := tb_in (tb_3 80 rfl) rfl
theorem tw_3_81 : Cond.codeWith ⟨"ThumbForgeLaw", "output", "(LThumbForge;I[J)I"⟩ method_19_code 4 (some FieldType.int) [(0, 9, 12, 47)] ∈ tbG := tb_in (tb_3 81 rfl) rfl
theorem tw_3_82 : Cond.methodLink "ThumbForgeLaw" 68 ⟨"ThumbForge", "output", "(I)I"⟩ ∈ tbG := tb_in (tb_3 82 rfl) rfl
theorem tw_3_83 : Cond.instanceMethod ⟨"ThumbForge", "output", "(I)I"⟩ ∈ tbG := tb_in (tb_3 83 rfl) rfl
theorem tw_3_84 : Cond.selects "ThumbForge" ⟨"ThumbForge", "output", "(I)I"⟩ ⟨"ThumbForge", "output", "(I)I"⟩ ∈ tbG := tb_in (tb_3 84 rfl) rfl
theorem tw_3_85 : Cond.code ⟨"ThumbForge", "output", "(I)I"⟩ prog_1_method_22_code 2 (some FieldType.int) ∈ tbG := tb_in (tb_3 85 rfl) rfl
theorem tw_3_86 : Cond.methodLink "ThumbForge" 142 ⟨"ThumbForge$Machine", "keeps", "(I)Z"⟩ ∈ tbG := tb_in (tb_3 86 rfl) rfl
theorem tw_3_87 : Cond.instanceMethod ⟨"ThumbForge$Machine", "keeps", "(I)Z"⟩ ∈ tbG := tb_in (tb_3 87 rfl) rfl
theorem tw_3_88 : Cond.selects "ThumbForge$Machine" ⟨"ThumbForge$Machine", "keeps", "(I)Z"⟩ ⟨"ThumbForge$Machine", "keeps", "(I)Z"⟩ ∈ tbG := tb_in (tb_3 88 rfl) rfl
theorem tw_3_89 : Cond.code ⟨"ThumbForge$Machine", "keeps", "(I)Z"⟩ prog_3_method_5_code 2 (some FieldType.boolean) ∈ tbG := tb_in (tb_3 89 rfl) rfl
theorem tw_3_91 : Cond.methodLink "ThumbForge" 147 ⟨"ThumbForge$Machine", "keptOutput", "(I)I"⟩ ∈ tbG := tb_in (tb_3 91 rfl) rfl
theorem tw_3_92 : Cond.instanceMethod ⟨"ThumbForge$Machine", "keptOutput", "(I)I"⟩ ∈ tbG := tb_in (tb_3 92 rfl) rfl
theorem tw_3_93 : Cond.selects "ThumbForge$Machine" ⟨"ThumbForge$Machine", "keptOutput", "(I)I"⟩ ⟨"ThumbForge$Machine", "keptOutput", "(I)I"⟩ ∈ tbG := tb_in (tb_3 93 rfl) rfl
theorem tw_3_94 : Cond.code ⟨"ThumbForge$Machine", "keptOutput", "(I)I"⟩ prog_3_method_6_code 2 (some FieldType.int) ∈ tbG := tb_in (tb_3 94 rfl) rfl
theorem tw_3_95 : Cond.classLink "ThumbForgeLaw" 72 "ThumbForgeModel" ∈ tbG := tb_in (tb_3 95 rfl) rfl
theorem tw_3_96 : Cond.instantiable "ThumbForgeModel" 22 ∈ tbG := tb_in (tb_3 96 rfl) rfl
theorem tw_3_97 : Cond.methodLink "ThumbForgeLaw" 74 ⟨"ThumbForgeModel", "<init>", "()V"⟩ ∈ tbG := tb_in (tb_3 97 rfl) rfl
theorem tw_3_98 : Cond.instanceMethod ⟨"ThumbForgeModel", "<init>", "()V"⟩ ∈ tbG := tb_in (tb_3 98 rfl) rfl
theorem tw_3_99 : Cond.code ⟨"ThumbForgeModel", "<init>", "()V"⟩ prog_6_method_1_code 1 none ∈ tbG := tb_in (tb_3 99 rfl) rfl
theorem tw_3_100 : Cond.methodLink "ThumbForgeModel" 1 ⟨"java/lang/Object", "<init>", "()V"⟩ ∈ tbG := tb_in (tb_3 100 rfl) rfl
theorem tw_3_101 : Cond.fieldLink "ThumbForgeModel" 47 "ThumbForgeModel" "thrown" "I" ∈ tbG := tb_in (tb_3 101 rfl) rfl
theorem tw_3_102 : Cond.fieldLink "ThumbForgeModel" 51 "ThumbForgeModel" "size" "I" ∈ tbG := tb_in (tb_3 102 rfl) rfl
theorem tw_3_103 : Cond.fieldLink "ThumbForgeModel" 7 "ThumbForgeModel" "kind" "[I" ∈ tbG := tb_in (tb_3 103 rfl) rfl
theorem tw_3_104 : Cond.fieldLink "ThumbForgeModel" 13 "ThumbForgeModel" "n0" "[I" ∈ tbG := tb_in (tb_3 104 rfl) rfl
theorem tw_3_105 : Cond.fieldLink "ThumbForgeModel" 16 "ThumbForgeModel" "n1" "[I" ∈ tbG := tb_in (tb_3 105 rfl) rfl
theorem tw_3_106 : Cond.fieldLink "ThumbForgeModel" 19 "ThumbForgeModel" "n2" "[I" ∈ tbG := tb_in (tb_3 106 rfl) rfl
theorem tw_3_107 : Cond.fieldLink "ThumbForgeModel" 22 "ThumbForgeModel" "n3" "[I" ∈ tbG := tb_in (tb_3 107 rfl) rfl
theorem tw_3_108 : Cond.fieldLink "ThumbForgeModel" 25 "ThumbForgeModel" "memory" "[I" ∈ tbG := tb_in (tb_3 108 rfl) rfl
theorem tw_3_109 : Cond.fieldLink "ThumbForgeModel" 54 "ThumbForgeModel" "made" "Z" ∈ tbG := tb_in (tb_3 109 rfl) rfl
theorem tw_3_110 : Cond.fieldLink "ThumbForgeModel" 95 "ThumbForgeModel" "length" "I" ∈ tbG := tb_in (tb_3 110 rfl) rfl
theorem tw_3_111 : Cond.fieldLink "ThumbForgeModel" 28 "ThumbForgeModel" "image" "[I" ∈ tbG := tb_in (tb_3 111 rfl) rfl
theorem tw_3_112 : Cond.fieldLink "ThumbForgeModel" 31 "ThumbForgeModel" "places" "[I" ∈ tbG := tb_in (tb_3 112 rfl) rfl
theorem tw_3_113 : Cond.fieldLink "ThumbForgeModel" 34 "ThumbForgeModel" "far" "[Z" ∈ tbG := tb_in (tb_3 113 rfl) rfl
theorem tw_3_114 : Cond.fieldLink "ThumbForgeModel" 104 "ThumbForgeModel" "pool" "I" ∈ tbG := tb_in (tb_3 114 rfl) rfl
theorem tw_3_115 : Cond.fieldLink "ThumbForgeModel" 38 "ThumbForgeModel" "literals" "[I" ∈ tbG := tb_in (tb_3 115 rfl) rfl
theorem tw_3_116 : Cond.fieldLink "ThumbForgeModel" 107 "ThumbForgeModel" "poolPlace" "I" ∈ tbG := tb_in (tb_3 116 rfl) rfl
theorem tw_3_117 : Cond.fieldLink "ThumbForgeModel" 58 "ThumbForgeModel" "state" "I" ∈ tbG := tb_in (tb_3 117 rfl) rfl
theorem tw_3_118 : Cond.fieldLink "ThumbForgeModel" 178 "ThumbForgeModel" "trap" "I" ∈ tbG := tb_in (tb_3 118 rfl) rfl
theorem tw_3_119 : Cond.fieldLink "ThumbForgeModel" 162 "ThumbForgeModel" "now" "I" ∈ tbG := tb_in (tb_3 119 rfl) rfl
theorem tw_3_120 : Cond.fieldLink "ThumbForgeModel" 41 "ThumbForgeModel" "variables" "[I" ∈ tbG := tb_in (tb_3 120 rfl) rfl
theorem tw_3_121 : Cond.fieldLink "ThumbForgeModel" 165 "ThumbForgeModel" "outputs" "I" ∈ tbG := tb_in (tb_3 121 rfl) rfl
theorem tw_3_122 : Cond.fieldLink "ThumbForgeModel" 44 "ThumbForgeModel" "out" "[I" ∈ tbG := tb_in (tb_3 122 rfl) rfl
theorem tw_3_123 : Cond.lays "ThumbForgeModel" "ThumbForgeModel" "thrown" "I" ∈ tbG := tb_in (tb_3 123 rfl) rfl
theorem tw_3_124 : Cond.soleField "ThumbForgeModel" "thrown" ∈ tbG := tb_in (tb_3 124 rfl) rfl
theorem tw_3_125 : Cond.lays "ThumbForgeModel" "ThumbForgeModel" "size" "I" ∈ tbG := tb_in (tb_3 125 rfl) rfl
theorem tw_3_126 : Cond.soleField "ThumbForgeModel" "size" ∈ tbG := tb_in (tb_3 126 rfl) rfl
theorem tw_3_127 : Cond.laysFinal "ThumbForgeModel" "ThumbForgeModel" "kind" "[I" ∈ tbG := tb_in (tb_3 127 rfl) rfl
theorem tw_3_128 : Cond.soleField "ThumbForgeModel" "kind" ∈ tbG := tb_in (tb_3 128 rfl) rfl
theorem tw_3_129 : Cond.laysFinal "ThumbForgeModel" "ThumbForgeModel" "n0" "[I" ∈ tbG := tb_in (tb_3 129 rfl) rfl
theorem tw_3_130 : Cond.soleField "ThumbForgeModel" "n0" ∈ tbG := tb_in (tb_3 130 rfl) rfl
theorem tw_3_131 : Cond.laysFinal "ThumbForgeModel" "ThumbForgeModel" "n1" "[I" ∈ tbG := tb_in (tb_3 131 rfl) rfl
theorem tw_3_132 : Cond.soleField "ThumbForgeModel" "n1" ∈ tbG := tb_in (tb_3 132 rfl) rfl
theorem tw_3_133 : Cond.laysFinal "ThumbForgeModel" "ThumbForgeModel" "n2" "[I" ∈ tbG := tb_in (tb_3 133 rfl) rfl
theorem tw_3_134 : Cond.soleField "ThumbForgeModel" "n2" ∈ tbG := tb_in (tb_3 134 rfl) rfl
theorem tw_3_135 : Cond.laysFinal "ThumbForgeModel" "ThumbForgeModel" "n3" "[I" ∈ tbG := tb_in (tb_3 135 rfl) rfl
theorem tw_3_136 : Cond.soleField "ThumbForgeModel" "n3" ∈ tbG := tb_in (tb_3 136 rfl) rfl
theorem tw_3_137 : Cond.laysFinal "ThumbForgeModel" "ThumbForgeModel" "memory" "[I" ∈ tbG := tb_in (tb_3 137 rfl) rfl
theorem tw_3_138 : Cond.soleField "ThumbForgeModel" "memory" ∈ tbG := tb_in (tb_3 138 rfl) rfl
theorem tw_3_139 : Cond.lays "ThumbForgeModel" "ThumbForgeModel" "made" "Z" ∈ tbG := tb_in (tb_3 139 rfl) rfl
theorem tw_3_140 : Cond.soleField "ThumbForgeModel" "made" ∈ tbG := tb_in (tb_3 140 rfl) rfl
theorem tw_3_141 : Cond.lays "ThumbForgeModel" "ThumbForgeModel" "length" "I" ∈ tbG := tb_in (tb_3 141 rfl) rfl
theorem tw_3_142 : Cond.soleField "ThumbForgeModel" "length" ∈ tbG := tb_in (tb_3 142 rfl) rfl
theorem tw_3_143 : Cond.laysFinal "ThumbForgeModel" "ThumbForgeModel" "image" "[I" ∈ tbG := tb_in (tb_3 143 rfl) rfl
theorem tw_3_144 : Cond.soleField "ThumbForgeModel" "image" ∈ tbG := tb_in (tb_3 144 rfl) rfl
theorem tw_3_145 : Cond.laysFinal "ThumbForgeModel" "ThumbForgeModel" "places" "[I" ∈ tbG := tb_in (tb_3 145 rfl) rfl
theorem tw_3_146 : Cond.soleField "ThumbForgeModel" "places" ∈ tbG := tb_in (tb_3 146 rfl) rfl
theorem tw_3_147 : Cond.laysFinal "ThumbForgeModel" "ThumbForgeModel" "far" "[Z" ∈ tbG := tb_in (tb_3 147 rfl) rfl
theorem tw_3_148 : Cond.soleField "ThumbForgeModel" "far" ∈ tbG := tb_in (tb_3 148 rfl) rfl
theorem tw_3_149 : Cond.lays "ThumbForgeModel" "ThumbForgeModel" "pool" "I" ∈ tbG := tb_in (tb_3 149 rfl) rfl
theorem tw_3_150 : Cond.soleField "ThumbForgeModel" "pool" ∈ tbG := tb_in (tb_3 150 rfl) rfl
theorem tw_3_151 : Cond.laysFinal "ThumbForgeModel" "ThumbForgeModel" "literals" "[I" ∈ tbG := tb_in (tb_3 151 rfl) rfl
theorem tw_3_152 : Cond.soleField "ThumbForgeModel" "literals" ∈ tbG := tb_in (tb_3 152 rfl) rfl
theorem tw_3_153 : Cond.lays "ThumbForgeModel" "ThumbForgeModel" "poolPlace" "I" ∈ tbG := tb_in (tb_3 153 rfl) rfl
theorem tw_3_154 : Cond.soleField "ThumbForgeModel" "poolPlace" ∈ tbG := tb_in (tb_3 154 rfl) rfl
theorem tw_3_155 : Cond.lays "ThumbForgeModel" "ThumbForgeModel" "state" "I" ∈ tbG := tb_in (tb_3 155 rfl) rfl
theorem tw_3_156 : Cond.soleField "ThumbForgeModel" "state" ∈ tbG := tb_in (tb_3 156 rfl) rfl
theorem tw_3_157 : Cond.lays "ThumbForgeModel" "ThumbForgeModel" "trap" "I" ∈ tbG := tb_in (tb_3 157 rfl) rfl
theorem tw_3_158 : Cond.soleField "ThumbForgeModel" "trap" ∈ tbG := tb_in (tb_3 158 rfl) rfl
theorem tw_3_159 : Cond.lays "ThumbForgeModel" "ThumbForgeModel" "now" "I" ∈ tbG := tb_in (tb_3 159 rfl) rfl
theorem tw_3_160 : Cond.soleField "ThumbForgeModel" "now" ∈ tbG := tb_in (tb_3 160 rfl) rfl
theorem tw_3_161 : Cond.laysFinal "ThumbForgeModel" "ThumbForgeModel" "variables" "[I" ∈ tbG := tb_in (tb_3 161 rfl) rfl
theorem tw_3_162 : Cond.soleField "ThumbForgeModel" "variables" ∈ tbG := tb_in (tb_3 162 rfl) rfl
theorem tw_3_163 : Cond.lays "ThumbForgeModel" "ThumbForgeModel" "outputs" "I" ∈ tbG := tb_in (tb_3 163 rfl) rfl
theorem tw_3_164 : Cond.soleField "ThumbForgeModel" "outputs" ∈ tbG := tb_in (tb_3 164 rfl) rfl
theorem tw_3_165 : Cond.laysFinal "ThumbForgeModel" "ThumbForgeModel" "out" "[I" ∈ tbG := tb_in (tb_3 165 rfl) rfl
theorem tw_3_166 : Cond.soleField "ThumbForgeModel" "out" ∈ tbG := tb_in (tb_3 166 rfl) rfl
theorem tw_3_167 : Cond.superclass "ThumbForgeModel" "java/lang/Object" ∈ tbG := tb_in (tb_3 167 rfl) rfl
theorem tw_3_168 : Cond.methodLink "ThumbForgeLaw" 81 ⟨"ThumbForgeModel", "thrown", "()I"⟩ ∈ tbG := tb_in (tb_3 168 rfl) rfl
theorem tw_3_169 : Cond.instanceMethod ⟨"ThumbForgeModel", "thrown", "()I"⟩ ∈ tbG := tb_in (tb_3 169 rfl) rfl
theorem tw_3_170 : Cond.selects "ThumbForgeModel" ⟨"ThumbForgeModel", "thrown", "()I"⟩ ⟨"ThumbForgeModel", "thrown", "()I"⟩ ∈ tbG := tb_in (tb_3 170 rfl) rfl
theorem tw_3_171 : Cond.code ⟨"ThumbForgeModel", "thrown", "()I"⟩ prog_6_method_2_code 1 (some FieldType.int) ∈ tbG := tb_in (tb_3 171 rfl) rfl
theorem tw_3_172 : Cond.methodLink "ThumbForgeLaw" 80 ⟨"ThumbForgeModel", "constant", "(II)I"⟩ ∈ tbG := tb_in (tb_3 172 rfl) rfl
theorem tw_3_173 : Cond.instanceMethod ⟨"ThumbForgeModel", "constant", "(II)I"⟩ ∈ tbG := tb_in (tb_3 173 rfl) rfl
theorem tw_3_174 : Cond.selects "ThumbForgeModel" ⟨"ThumbForgeModel", "constant", "(II)I"⟩ ⟨"ThumbForgeModel", "constant", "(II)I"⟩ ∈ tbG := tb_in (tb_3 174 rfl) rfl
theorem tw_3_175 : Cond.code ⟨"ThumbForgeModel", "constant", "(II)I"⟩ prog_6_method_5_code 3 (some FieldType.int) ∈ tbG := tb_in (tb_3 175 rfl) rfl
theorem tw_3_176 : Cond.methodLink "ThumbForgeModel" 61 ⟨"ThumbForgeModel", "isVariable", "(I)Z"⟩ ∈ tbG := tb_in (tb_3 176 rfl) rfl
theorem tw_3_177 : Cond.static ⟨"ThumbForgeModel", "isVariable", "(I)Z"⟩ ∈ tbG := tb_in (tb_3 177 rfl) rfl
theorem tw_3_178 : Cond.code ⟨"ThumbForgeModel", "isVariable", "(I)Z"⟩ prog_6_method_3_code 1 (some FieldType.boolean) ∈ tbG := tb_in (tb_3 178 rfl) rfl
theorem tw_3_179 : Cond.methodLink "ThumbForgeModel" 65 ⟨"ThumbForgeModel", "append", "(ZIII)I"⟩ ∈ tbG := tb_in (tb_3 179 rfl) rfl
theorem tw_3_181 : Cond.instanceMethod ⟨"ThumbForgeModel", "append", "(ZIII)I"⟩ ∈ tbG := tb_in (tb_3 181 rfl) rfl
theorem tw_3_182 : Cond.code ⟨"ThumbForgeModel", "append", "(ZIII)I"⟩ prog_6_method_4_code 5 (some FieldType.int) ∈ tbG := tb_in (tb_3 182 rfl) rfl
theorem tw_3_183 : Cond.methodLink "ThumbForgeLaw" 87 ⟨"ThumbForgeModel", "compute", "(IIII)I"⟩ ∈ tbG := tb_in (tb_3 183 rfl) rfl
theorem tw_3_184 : Cond.instanceMethod ⟨"ThumbForgeModel", "compute", "(IIII)I"⟩ ∈ tbG := tb_in (tb_3 184 rfl) rfl
theorem tw_3_185 : Cond.selects "ThumbForgeModel" ⟨"ThumbForgeModel", "compute", "(IIII)I"⟩ ⟨"ThumbForgeModel", "compute", "(IIII)I"⟩ ∈ tbG := tb_in (tb_3 185 rfl) rfl
theorem tw_3_186 : Cond.code ⟨"ThumbForgeModel", "compute", "(IIII)I"⟩ prog_6_method_6_code 6 (some FieldType.int) ∈ tbG := tb_in (tb_3 186 rfl) rfl
theorem tw_3_187 : Cond.methodLink "ThumbForgeLaw" 90 ⟨"ThumbForgeModel", "load", "(II)I"⟩ ∈ tbG := tb_in (tb_3 187 rfl) rfl
theorem tw_3_188 : Cond.instanceMethod ⟨"ThumbForgeModel", "load", "(II)I"⟩ ∈ tbG := tb_in (tb_3 188 rfl) rfl
theorem tw_3_189 : Cond.selects "ThumbForgeModel" ⟨"ThumbForgeModel", "load", "(II)I"⟩ ⟨"ThumbForgeModel", "load", "(II)I"⟩ ∈ tbG := tb_in (tb_3 189 rfl) rfl
theorem tw_3_190 : Cond.code ⟨"ThumbForgeModel", "load", "(II)I"⟩ prog_6_method_7_code 3 (some FieldType.int) ∈ tbG := tb_in (tb_3 190 rfl) rfl
theorem tw_3_191 : Cond.methodLink "ThumbForgeLaw" 93 ⟨"ThumbForgeModel", "store", "(II)I"⟩ ∈ tbG := tb_in (tb_3 191 rfl) rfl
theorem tw_3_192 : Cond.instanceMethod ⟨"ThumbForgeModel", "store", "(II)I"⟩ ∈ tbG := tb_in (tb_3 192 rfl) rfl
theorem tw_3_193 : Cond.selects "ThumbForgeModel" ⟨"ThumbForgeModel", "store", "(II)I"⟩ ⟨"ThumbForgeModel", "store", "(II)I"⟩ ∈ tbG := tb_in (tb_3 193 rfl) rfl
theorem tw_3_194 : Cond.code ⟨"ThumbForgeModel", "store", "(II)I"⟩ prog_6_method_8_code 3 (some FieldType.int) ∈ tbG := tb_in (tb_3 194 rfl) rfl
theorem tw_3_195 : Cond.methodLink "ThumbForgeLaw" 97 ⟨"ThumbForgeModel", "jump", "(I)I"⟩ ∈ tbG := tb_in (tb_3 195 rfl) rfl
theorem tw_3_196 : Cond.instanceMethod ⟨"ThumbForgeModel", "jump", "(I)I"⟩ ∈ tbG := tb_in (tb_3 196 rfl) rfl
theorem tw_3_197 : Cond.selects "ThumbForgeModel" ⟨"ThumbForgeModel", "jump", "(I)I"⟩ ⟨"ThumbForgeModel", "jump", "(I)I"⟩ ∈ tbG := tb_in (tb_3 197 rfl) rfl
theorem tw_3_198 : Cond.code ⟨"ThumbForgeModel", "jump", "(I)I"⟩ prog_6_method_9_code 2 (some FieldType.int) ∈ tbG := tb_in (tb_3 198 rfl) rfl
theorem tw_3_199 : Cond.methodLink "ThumbForgeLaw" 100 ⟨"ThumbForgeModel", "branch", "(IIII)I"⟩ ∈ tbG := tb_in (tb_3 199 rfl) rfl
theorem tw_3_200 : Cond.instanceMethod ⟨"ThumbForgeModel", "branch", "(IIII)I"⟩ ∈ tbG := tb_in (tb_3 200 rfl) rfl
theorem tw_3_201 : Cond.selects "ThumbForgeModel" ⟨"ThumbForgeModel", "branch", "(IIII)I"⟩ ⟨"ThumbForgeModel", "branch", "(IIII)I"⟩ ∈ tbG := tb_in (tb_3 201 rfl) rfl
theorem tw_3_202 : Cond.code ⟨"ThumbForgeModel", "branch", "(IIII)I"⟩ prog_6_method_11_code 6 (some FieldType.int) ∈ tbG := tb_in (tb_3 202 rfl) rfl
theorem tw_3_203 : Cond.methodLink "ThumbForgeModel" 69 ⟨"ThumbForgeModel", "isRelation", "(I)Z"⟩ ∈ tbG := tb_in (tb_3 203 rfl) rfl
theorem tw_3_204 : Cond.static ⟨"ThumbForgeModel", "isRelation", "(I)Z"⟩ ∈ tbG := tb_in (tb_3 204 rfl) rfl
theorem tw_3_205 : Cond.code ⟨"ThumbForgeModel", "isRelation", "(I)Z"⟩ prog_6_method_10_code 1 (some FieldType.boolean) ∈ tbG := tb_in (tb_3 205 rfl) rfl
theorem tw_3_206 : Cond.methodLink "ThumbForgeLaw" 103 ⟨"ThumbForgeModel", "out", "(I)I"⟩ ∈ tbG := tb_in (tb_3 206 rfl) rfl
theorem tw_3_207 : Cond.instanceMethod ⟨"ThumbForgeModel", "out", "(I)I"⟩ ∈ tbG := tb_in (tb_3 207 rfl) rfl
theorem tw_3_208 : Cond.selects "ThumbForgeModel" ⟨"ThumbForgeModel", "out", "(I)I"⟩ ⟨"ThumbForgeModel", "out", "(I)I"⟩ ∈ tbG := tb_in (tb_3 208 rfl) rfl
theorem tw_3_209 : Cond.code ⟨"ThumbForgeModel", "out", "(I)I"⟩ prog_6_method_12_code 2 (some FieldType.int) ∈ tbG := tb_in (tb_3 209 rfl) rfl
theorem tw_3_210 : Cond.methodLink "ThumbForgeLaw" 106 ⟨"ThumbForgeModel", "stop", "(I)I"⟩ ∈ tbG := tb_in (tb_3 210 rfl) rfl
theorem tw_3_211 : Cond.instanceMethod ⟨"ThumbForgeModel", "stop", "(I)I"⟩ ∈ tbG := tb_in (tb_3 211 rfl) rfl
theorem tw_3_212 : Cond.selects "ThumbForgeModel" ⟨"ThumbForgeModel", "stop", "(I)I"⟩ ⟨"ThumbForgeModel", "stop", "(I)I"⟩ ∈ tbG := tb_in (tb_3 212 rfl) rfl
theorem tw_3_213 : Cond.code ⟨"ThumbForgeModel", "stop", "(I)I"⟩ prog_6_method_13_code 2 (some FieldType.int) ∈ tbG := tb_in (tb_3 213 rfl) rfl
theorem tw_3_214 : Cond.methodLink "ThumbForgeLaw" 110 ⟨"ThumbForgeModel", "clear", "()V"⟩ ∈ tbG := tb_in (tb_3 214 rfl) rfl
theorem tw_3_215 : Cond.instanceMethod ⟨"ThumbForgeModel", "clear", "()V"⟩ ∈ tbG := tb_in (tb_3 215 rfl) rfl
theorem tw_3_216 : Cond.selects "ThumbForgeModel" ⟨"ThumbForgeModel", "clear", "()V"⟩ ⟨"ThumbForgeModel", "clear", "()V"⟩ ∈ tbG := tb_in (tb_3 216 rfl) rfl
theorem tw_3_217 : Cond.code ⟨"ThumbForgeModel", "clear", "()V"⟩ prog_6_method_14_code 1 none ∈ tbG := tb_in (tb_3 217 rfl) rfl
theorem tw_3_218 : Cond.methodLink "ThumbForgeLaw" 114 ⟨"ThumbForgeModel", "forge", "()I"⟩ ∈ tbG := tb_in (tb_3 218 rfl) rfl
theorem tw_3_219 : Cond.instanceMethod ⟨"ThumbForgeModel", "forge", "()I"⟩ ∈ tbG := tb_in (tb_3 219 rfl) rfl
theorem tw_3_220 : Cond.selects "ThumbForgeModel" ⟨"ThumbForgeModel", "forge", "()I"⟩ ⟨"ThumbForgeModel", "forge", "()I"⟩ ∈ tbG := tb_in (tb_3 220 rfl) rfl
theorem tw_3_221 : Cond.code ⟨"ThumbForgeModel", "forge", "()I"⟩ prog_6_method_37_code 2 (some FieldType.int) ∈ tbG := tb_in (tb_3 221 rfl) rfl
theorem tw_3_222 : Cond.methodLink "ThumbForgeModel" 150 ⟨"ThumbForgeModel", "isSound", "()Z"⟩ ∈ tbG := tb_in (tb_3 222 rfl) rfl
theorem tw_3_224 : Cond.instanceMethod ⟨"ThumbForgeModel", "isSound", "()Z"⟩ ∈ tbG := tb_in (tb_3 224 rfl) rfl
theorem tw_3_225 : Cond.code ⟨"ThumbForgeModel", "isSound", "()Z"⟩ prog_6_method_36_code 3 (some FieldType.boolean) ∈ tbG := tb_in (tb_3 225 rfl) rfl
theorem tw_3_226 : Cond.methodLink "ThumbForgeModel" 154 ⟨"ThumbForgeModel", "lengthen", "()V"⟩ ∈ tbG := tb_in (tb_3 226 rfl) rfl
theorem tw_3_228 : Cond.instanceMethod ⟨"ThumbForgeModel", "lengthen", "()V"⟩ ∈ tbG := tb_in (tb_3 228 rfl) rfl
theorem tw_3_229 : Cond.code ⟨"ThumbForgeModel", "lengthen", "()V"⟩ prog_6_method_22_code 4 none ∈ tbG := tb_in (tb_3 229 rfl) rfl
theorem tw_3_230 : Cond.methodLink "ThumbForgeModel" 88 ⟨"ThumbForgeModel", "layOut", "()V"⟩ ∈ tbG := tb_in (tb_3 230 rfl) rfl
theorem tw_3_232 : Cond.instanceMethod ⟨"ThumbForgeModel", "layOut", "()V"⟩ ∈ tbG := tb_in (tb_3 232 rfl) rfl
theorem tw_3_233 : Cond.code ⟨"ThumbForgeModel", "layOut", "()V"⟩ prog_6_method_20_code 2 none ∈ tbG := tb_in (tb_3 233 rfl) rfl
theorem tw_3_234 : Cond.methodLink "ThumbForgeModel" 85 ⟨"ThumbForgeModel", "lengthOf", "(I)I"⟩ ∈ tbG := tb_in (tb_3 234 rfl) rfl
theorem tw_3_236 : Cond.instanceMethod ⟨"ThumbForgeModel", "lengthOf", "(I)I"⟩ ∈ tbG := tb_in (tb_3 236 rfl) rfl
theorem tw_3_237 : Cond.code ⟨"ThumbForgeModel", "lengthOf", "(I)I"⟩ prog_6_method_19_code 2 (some FieldType.int) ∈ tbG := tb_in (tb_3 237 rfl) rfl
theorem tw_3_238 : Cond.methodLink "ThumbForgeModel" 79 ⟨"ThumbForgeModel", "makeLength", "(I)I"⟩ ∈ tbG := tb_in (tb_3 238 rfl) rfl
theorem tw_3_239 : Cond.static ⟨"ThumbForgeModel", "makeLength", "(I)I"⟩ ∈ tbG := tb_in (tb_3 239 rfl) rfl
theorem tw_4_0 : Cond.code ⟨"ThumbForgeModel", "makeLength", "(I)I"⟩ prog_6_method_18_code 1 (some FieldType.int) ∈ tbG := tb_in (tb_4 0 rfl) rfl
theorem tw_4_1 : Cond.methodLink "ThumbForgeModel" 76 ⟨"ThumbForgeModel", "isLiteral", "(I)Z"⟩ ∈ tbG := tb_in (tb_4 1 rfl) rfl
theorem tw_4_2 : Cond.static ⟨"ThumbForgeModel", "isLiteral", "(I)Z"⟩ ∈ tbG := tb_in (tb_4 2 rfl) rfl
theorem tw_4_3 : Cond.code ⟨"ThumbForgeModel", "isLiteral", "(I)Z"⟩ prog_6_method_17_code 1 (some FieldType.boolean) ∈ tbG := tb_in (tb_4 3 rfl) rfl
theorem tw_4_4 : Cond.methodLink "ThumbForgeModel" 72 ⟨"ThumbForgeModel", "shiftOf", "(I)I"⟩ ∈ tbG := tb_in (tb_4 4 rfl) rfl
theorem tw_4_5 : Cond.static ⟨"ThumbForgeModel", "shiftOf", "(I)I"⟩ ∈ tbG := tb_in (tb_4 5 rfl) rfl
theorem tw_4_6 : Cond.code ⟨"ThumbForgeModel", "shiftOf", "(I)I"⟩ prog_6_method_16_code 4 (some FieldType.int) ∈ tbG := tb_in (tb_4 6 rfl) rfl
theorem tw_4_7 : Cond.methodLink "ThumbForgeModel" 82 ⟨"ThumbForgeModel", "slot", "(I)I"⟩ ∈ tbG := tb_in (tb_4 7 rfl) rfl
theorem tw_4_8 : Cond.static ⟨"ThumbForgeModel", "slot", "(I)I"⟩ ∈ tbG := tb_in (tb_4 8 rfl) rfl
theorem tw_4_9 : Cond.code ⟨"ThumbForgeModel", "slot", "(I)I"⟩ prog_6_method_15_code 1 (some FieldType.int) ∈ tbG := tb_in (tb_4 9 rfl) rfl
theorem tw_4_10 : Cond.methodLink "ThumbForgeModel" 91 ⟨"ThumbForgeModel", "way", "(II)I"⟩ ∈ tbG := tb_in (tb_4 10 rfl) rfl
theorem tw_4_12 : Cond.instanceMethod ⟨"ThumbForgeModel", "way", "(II)I"⟩ ∈ tbG := tb_in (tb_4 12 rfl) rfl
theorem tw_4_13 : Cond.code ⟨"ThumbForgeModel", "way", "(II)I"⟩ prog_6_method_21_code 3 (some FieldType.int) ∈ tbG := tb_in (tb_4 13 rfl) rfl
theorem tw_4_14 : Cond.constant "ThumbForgeModel" 157 536870912 ∈ tbG := tb_in (tb_4 14 rfl) rfl
theorem tw_4_15 : Cond.methodLink "ThumbForgeModel" 110 ⟨"ThumbForgeModel", "literal", "(II)V"⟩ ∈ tbG := tb_in (tb_4 15 rfl) rfl
theorem tw_4_17 : Cond.instanceMethod ⟨"ThumbForgeModel", "literal", "(II)V"⟩ ∈ tbG := tb_in (tb_4 17 rfl) rfl
theorem tw_4_18 : Cond.code ⟨"ThumbForgeModel", "literal", "(II)V"⟩ prog_6_method_27_code 5 none ∈ tbG := tb_in (tb_4 18 rfl) rfl
theorem tw_4_19 : Cond.methodLink "ThumbForgeModel" 99 ⟨"ThumbForgeModel", "emit", "(I)V"⟩ ∈ tbG := tb_in (tb_4 19 rfl) rfl
theorem tw_4_21 : Cond.instanceMethod ⟨"ThumbForgeModel", "emit", "(I)V"⟩ ∈ tbG := tb_in (tb_4 21 rfl) rfl
theorem tw_4_22 : Cond.code ⟨"ThumbForgeModel", "emit", "(I)V"⟩ prog_6_method_23_code 2 none ∈ tbG := tb_in (tb_4 22 rfl) rfl
theorem tw_4_23 : Cond.methodLink "ThumbForgeModel" 158 ⟨"ThumbForgeModel", "emitInstruction", "(I)V"⟩ ∈ tbG := tb_in (tb_4 23 rfl) rfl
theorem tw_4_25 : Cond.instanceMethod ⟨"ThumbForgeModel", "emitInstruction", "(I)V"⟩ ∈ tbG := tb_in (tb_4 25 rfl) rfl
theorem tw_4_26 : Cond.code ⟨"ThumbForgeModel", "emitInstruction", "(I)V"⟩ prog_6_method_35_code 3 none ∈ tbG := tb_in (tb_4 26 rfl) rfl
theorem tw_4_27 : Cond.methodLink "ThumbForgeModel" 117 ⟨"ThumbForgeModel", "target", "(I)I"⟩ ∈ tbG := tb_in (tb_4 27 rfl) rfl
theorem tw_4_28 : Cond.static ⟨"ThumbForgeModel", "target", "(I)I"⟩ ∈ tbG := tb_in (tb_4 28 rfl) rfl
theorem tw_4_29 : Cond.code ⟨"ThumbForgeModel", "target", "(I)I"⟩ prog_6_method_25_code 1 (some FieldType.int) ∈ tbG := tb_in (tb_4 29 rfl) rfl
theorem tw_4_30 : Cond.methodLink "ThumbForgeModel" 134 ⟨"ThumbForgeModel", "make", "(II)V"⟩ ∈ tbG := tb_in (tb_4 30 rfl) rfl
theorem tw_4_32 : Cond.instanceMethod ⟨"ThumbForgeModel", "make", "(II)V"⟩ ∈ tbG := tb_in (tb_4 32 rfl) rfl
theorem tw_4_33 : Cond.code ⟨"ThumbForgeModel", "make", "(II)V"⟩ prog_6_method_28_code 4 none ∈ tbG := tb_in (tb_4 33 rfl) rfl
theorem tw_4_34 : Cond.methodLink "ThumbForgeModel" 120 ⟨"ThumbForgeModel", "keep", "(I)V"⟩ ∈ tbG := tb_in (tb_4 34 rfl) rfl
theorem tw_4_36 : Cond.instanceMethod ⟨"ThumbForgeModel", "keep", "(I)V"⟩ ∈ tbG := tb_in (tb_4 36 rfl) rfl
theorem tw_4_37 : Cond.code ⟨"ThumbForgeModel", "keep", "(I)V"⟩ prog_6_method_26_code 2 none ∈ tbG := tb_in (tb_4 37 rfl) rfl
theorem tw_4_38 : Cond.constant "ThumbForgeModel" 103 36864 ∈ tbG := tb_in (tb_4 38 rfl) rfl
theorem tw_4_39 : Cond.methodLink "ThumbForgeModel" 137 ⟨"ThumbForgeModel", "emitCompute", "(IIII)V"⟩ ∈ tbG := tb_in (tb_4 39 rfl) rfl
theorem tw_4_41 : Cond.instanceMethod ⟨"ThumbForgeModel", "emitCompute", "(IIII)V"⟩ ∈ tbG := tb_in (tb_4 41 rfl) rfl
theorem tw_4_42 : Cond.code ⟨"ThumbForgeModel", "emitCompute", "(IIII)V"⟩ prog_6_method_31_code 7 none ∈ tbG := tb_in (tb_4 42 rfl) rfl
theorem tw_4_43 : Cond.methodLink "ThumbForgeModel" 114 ⟨"ThumbForgeModel", "fetch", "(II)I"⟩ ∈ tbG := tb_in (tb_4 43 rfl) rfl
theorem tw_4_45 : Cond.instanceMethod ⟨"ThumbForgeModel", "fetch", "(II)I"⟩ ∈ tbG := tb_in (tb_4 45 rfl) rfl
theorem tw_4_46 : Cond.code ⟨"ThumbForgeModel", "fetch", "(II)I"⟩ prog_6_method_24_code 3 (some FieldType.int) ∈ tbG := tb_in (tb_4 46 rfl) rfl
theorem tw_4_47 : Cond.constant "ThumbForgeModel" 98 38912 ∈ tbG := tb_in (tb_4 47 rfl) rfl
theorem tw_4_48 : Cond.methodLink "ThumbForgeModel" 123 ⟨"ThumbForgeModel", "copy", "(I)V"⟩ ∈ tbG := tb_in (tb_4 48 rfl) rfl
theorem tw_4_50 : Cond.instanceMethod ⟨"ThumbForgeModel", "copy", "(I)V"⟩ ∈ tbG := tb_in (tb_4 50 rfl) rfl
theorem tw_4_51 : Cond.code ⟨"ThumbForgeModel", "copy", "(I)V"⟩ prog_6_method_30_code 2 none ∈ tbG := tb_in (tb_4 51 rfl) rfl
theorem tw_4_52 : Cond.methodLink "ThumbForgeModel" 126 ⟨"ThumbForgeModel", "codeOf", "(I)I"⟩ ∈ tbG := tb_in (tb_4 52 rfl) rfl
theorem tw_4_53 : Cond.static ⟨"ThumbForgeModel", "codeOf", "(I)I"⟩ ∈ tbG := tb_in (tb_4 53 rfl) rfl
theorem tw_4_54 : Cond.code ⟨"ThumbForgeModel", "codeOf", "(I)I"⟩ prog_6_method_29_code 1 (some FieldType.int) ∈ tbG := tb_in (tb_4 54 rfl) rfl
theorem tw_4_55 : Cond.methodLink "ThumbForgeModel" 141 ⟨"ThumbForgeModel", "emitPlace", "(I)V"⟩ ∈ tbG := tb_in (tb_4 55 rfl) rfl
theorem tw_4_57 : Cond.instanceMethod ⟨"ThumbForgeModel", "emitPlace", "(I)V"⟩ ∈ tbG := tb_in (tb_4 57 rfl) rfl
theorem tw_4_58 : Cond.code ⟨"ThumbForgeModel", "emitPlace", "(I)V"⟩ prog_6_method_32_code 2 none ∈ tbG := tb_in (tb_4 58 rfl) rfl
theorem tw_4_59 : Cond.methodLink "ThumbForgeModel" 130 ⟨"ThumbForgeModel", "emitJump", "(I)V"⟩ ∈ tbG := tb_in (tb_4 59 rfl) rfl
theorem tw_4_61 : Cond.instanceMethod ⟨"ThumbForgeModel", "emitJump", "(I)V"⟩ ∈ tbG := tb_in (tb_4 61 rfl) rfl
theorem tw_4_62 : Cond.code ⟨"ThumbForgeModel", "emitJump", "(I)V"⟩ prog_6_method_34_code 2 none ∈ tbG := tb_in (tb_4 62 rfl) rfl
theorem tw_4_63 : Cond.constant "ThumbForgeModel" 133 57344 ∈ tbG := tb_in (tb_4 63 rfl) rfl
theorem tw_4_64 : Cond.methodLink "ThumbForgeModel" 144 ⟨"ThumbForgeModel", "emitBranch", "(I)V"⟩ ∈ tbG := tb_in (tb_4 64 rfl) rfl
theorem tw_4_66 : Cond.instanceMethod ⟨"ThumbForgeModel", "emitBranch", "(I)V"⟩ ∈ tbG := tb_in (tb_4 66 rfl) rfl
theorem tw_4_67 : Cond.code ⟨"ThumbForgeModel", "emitBranch", "(I)V"⟩ prog_6_method_33_code 4 none ∈ tbG := tb_in (tb_4 67 rfl) rfl
theorem tw_4_68 : Cond.constant "ThumbForgeModel" 129 53248 ∈ tbG := tb_in (tb_4 68 rfl) rfl
theorem tw_4_69 : Cond.constant "ThumbForgeModel" 147 57088 ∈ tbG := tb_in (tb_4 69 rfl) rfl
theorem tw_4_70 : Cond.constant "ThumbForgeModel" 148 57089 ∈ tbG := tb_in (tb_4 70 rfl) rfl
theorem tw_4_71 : Cond.constant "ThumbForgeModel" 149 56832 ∈ tbG := tb_in (tb_4 71 rfl) rfl
theorem tw_4_72 : Cond.constant "ThumbForgeModel" 161 65535 ∈ tbG := tb_in (tb_4 72 rfl) rfl
theorem tw_4_73 : Cond.methodLink "ThumbForgeLaw" 117 ⟨"ThumbForgeModel", "halfword", "(I)I"⟩ ∈ tbG := tb_in (tb_4 73 rfl) rfl
theorem tw_4_74 : Cond.instanceMethod ⟨"ThumbForgeModel", "halfword", "(I)I"⟩ ∈ tbG := tb_in (tb_4 74 rfl) rfl
theorem tw_4_75 : Cond.selects "ThumbForgeModel" ⟨"ThumbForgeModel", "halfword", "(I)I"⟩ ⟨"ThumbForgeModel", "halfword", "(I)I"⟩ ∈ tbG := tb_in (tb_4 75 rfl) rfl
theorem tw_4_76 : Cond.code ⟨"ThumbForgeModel", "halfword", "(I)I"⟩ prog_6_method_38_code 2 (some FieldType.int) ∈ tbG := tb_in (tb_4 76 rfl) rfl
theorem tw_4_77 : Cond.methodLink "ThumbForgeLaw" 120 ⟨"ThumbForgeModel", "place", "(I)I"⟩ ∈ tbG := tb_in (tb_4 77 rfl) rfl
theorem tw_4_78 : Cond.instanceMethod ⟨"ThumbForgeModel", "place", "(I)I"⟩ ∈ tbG := tb_in (tb_4 78 rfl) rfl
theorem tw_4_79 : Cond.selects "ThumbForgeModel" ⟨"ThumbForgeModel", "place", "(I)I"⟩ ⟨"ThumbForgeModel", "place", "(I)I"⟩ ∈ tbG := tb_in (tb_4 79 rfl) rfl
theorem tw_4_80 : Cond.code ⟨"ThumbForgeModel", "place", "(I)I"⟩ prog_6_method_39_code 2 (some FieldType.int) ∈ tbG := tb_in (tb_4 80 rfl) rfl
theorem tw_4_81 : Cond.methodLink "ThumbForgeLaw" 124 ⟨"ThumbForgeModel", "poke", "(II)V"⟩ ∈ tbG := tb_in (tb_4 81 rfl) rfl
theorem tw_4_82 : Cond.instanceMethod ⟨"ThumbForgeModel", "poke", "(II)V"⟩ ∈ tbG := tb_in (tb_4 82 rfl) rfl
theorem tw_4_83 : Cond.selects "ThumbForgeModel" ⟨"ThumbForgeModel", "poke", "(II)V"⟩ ⟨"ThumbForgeModel", "poke", "(II)V"⟩ ∈ tbG := tb_in (tb_4 83 rfl) rfl
theorem tw_4_84 : Cond.code ⟨"ThumbForgeModel", "poke", "(II)V"⟩ prog_6_method_40_code 3 none ∈ tbG := tb_in (tb_4 84 rfl) rfl
theorem tw_4_85 : Cond.methodLink "ThumbForgeLaw" 127 ⟨"ThumbForgeModel", "memory", "(I)I"⟩ ∈ tbG := tb_in (tb_4 85 rfl) rfl
theorem tw_4_86 : Cond.instanceMethod ⟨"ThumbForgeModel", "memory", "(I)I"⟩ ∈ tbG := tb_in (tb_4 86 rfl) rfl
theorem tw_4_87 : Cond.selects "ThumbForgeModel" ⟨"ThumbForgeModel", "memory", "(I)I"⟩ ⟨"ThumbForgeModel", "memory", "(I)I"⟩ ∈ tbG := tb_in (tb_4 87 rfl) rfl
theorem tw_4_88 : Cond.code ⟨"ThumbForgeModel", "memory", "(I)I"⟩ prog_6_method_41_code 2 (some FieldType.int) ∈ tbG := tb_in (tb_4 88 rfl) rfl
theorem tw_4_89 : Cond.methodLink "ThumbForgeLaw" 131 ⟨"ThumbForgeModel", "start", "()V"⟩ ∈ tbG := tb_in (tb_4 89 rfl) rfl
theorem tw_4_90 : Cond.instanceMethod ⟨"ThumbForgeModel", "start", "()V"⟩ ∈ tbG := tb_in (tb_4 90 rfl) rfl
theorem tw_4_91 : Cond.selects "ThumbForgeModel" ⟨"ThumbForgeModel", "start", "()V"⟩ ⟨"ThumbForgeModel", "start", "()V"⟩ ∈ tbG := tb_in (tb_4 91 rfl) rfl
theorem tw_4_92 : Cond.code ⟨"ThumbForgeModel", "start", "()V"⟩ prog_6_method_42_code 2 none ∈ tbG := tb_in (tb_4 92 rfl) rfl
theorem tw_4_93 : Cond.methodLink "ThumbForgeLaw" 134 ⟨"ThumbForgeModel", "run", "(I)I"⟩ ∈ tbG := tb_in (tb_4 93 rfl) rfl
theorem tw_4_94 : Cond.instanceMethod ⟨"ThumbForgeModel", "run", "(I)I"⟩ ∈ tbG := tb_in (tb_4 94 rfl) rfl
theorem tw_4_95 : Cond.selects "ThumbForgeModel" ⟨"ThumbForgeModel", "run", "(I)I"⟩ ⟨"ThumbForgeModel", "run", "(I)I"⟩ ∈ tbG := tb_in (tb_4 95 rfl) rfl
theorem tw_4_96 : Cond.code ⟨"ThumbForgeModel", "run", "(I)I"⟩ prog_6_method_46_code 3 (some FieldType.int) ∈ tbG := tb_in (tb_4 96 rfl) rfl
theorem tw_4_97 : Cond.methodLink "ThumbForgeModel" 181 ⟨"ThumbForgeModel", "act", "(I)I"⟩ ∈ tbG := tb_in (tb_4 97 rfl) rfl
theorem tw_4_99 : Cond.instanceMethod ⟨"ThumbForgeModel", "act", "(I)I"⟩ ∈ tbG := tb_in (tb_4 99 rfl) rfl
theorem tw_4_100 : Cond.code ⟨"ThumbForgeModel", "act", "(I)I"⟩ prog_6_method_45_code 3 (some FieldType.int) ∈ tbG := tb_in (tb_4 100 rfl) rfl
theorem tw_4_101 : Cond.methodLink "ThumbForgeModel" 170 ⟨"ThumbForgeModel", "computed", "(III)I"⟩ ∈ tbG := tb_in (tb_4 101 rfl) rfl
theorem tw_4_102 : Cond.static ⟨"ThumbForgeModel", "computed", "(III)I"⟩ ∈ tbG := tb_in (tb_4 102 rfl) rfl
theorem tw_4_103 : Cond.code ⟨"ThumbForgeModel", "computed", "(III)I"⟩ prog_6_method_43_code 4 (some FieldType.int) ∈ tbG := tb_in (tb_4 103 rfl) rfl
theorem tw_4_104 : Cond.methodLink "ThumbForgeModel" 174 ⟨"ThumbForgeModel", "holds", "(III)Z"⟩ ∈ tbG := tb_in (tb_4 104 rfl) rfl
theorem tw_4_105 : Cond.static ⟨"ThumbForgeModel", "holds", "(III)Z"⟩ ∈ tbG := tb_in (tb_4 105 rfl) rfl
theorem tw_4_106 : Cond.code ⟨"ThumbForgeModel", "holds", "(III)Z"⟩ prog_6_method_44_code 7 (some FieldType.boolean) ∈ tbG := tb_in (tb_4 106 rfl) rfl
theorem tw_4_107 : Cond.constantLong "ThumbForgeModel" 168 4294967295 ∈ tbG := tb_in (tb_4 107 rfl) rfl
theorem tw_4_108 : Cond.methodLink "ThumbForgeLaw" 138 ⟨"ThumbForgeModel", "state", "()I"⟩ ∈ tbG := tb_in (tb_4 108 rfl) rfl
theorem tw_4_109 : Cond.instanceMethod ⟨"ThumbForgeModel", "state", "()I"⟩ ∈ tbG := tb_in (tb_4 109 rfl) rfl
theorem tw_4_110 : Cond.selects "ThumbForgeModel" ⟨"ThumbForgeModel", "state", "()I"⟩ ⟨"ThumbForgeModel", "state", "()I"⟩ ∈ tbG := tb_in (tb_4 110 rfl) rfl
theorem tw_4_111 : Cond.code ⟨"ThumbForgeModel", "state", "()I"⟩ prog_6_method_47_code 1 (some FieldType.int) ∈ tbG := tb_in (tb_4 111 rfl) rfl
theorem tw_4_112 : Cond.methodLink "ThumbForgeLaw" 142 ⟨"ThumbForgeModel", "at", "()I"⟩ ∈ tbG := tb_in (tb_4 112 rfl) rfl
theorem tw_4_113 : Cond.instanceMethod ⟨"ThumbForgeModel", "at", "()I"⟩ ∈ tbG := tb_in (tb_4 113 rfl) rfl
theorem tw_4_114 : Cond.selects "ThumbForgeModel" ⟨"ThumbForgeModel", "at", "()I"⟩ ⟨"ThumbForgeModel", "at", "()I"⟩ ∈ tbG := tb_in (tb_4 114 rfl) rfl
theorem tw_4_115 : Cond.code ⟨"ThumbForgeModel", "at", "()I"⟩ prog_6_method_48_code 1 (some FieldType.int) ∈ tbG := tb_in (tb_4 115 rfl) rfl
theorem tw_4_116 : Cond.methodLink "ThumbForgeLaw" 145 ⟨"ThumbForgeModel", "variable", "(I)I"⟩ ∈ tbG := tb_in (tb_4 116 rfl) rfl
theorem tw_4_117 : Cond.instanceMethod ⟨"ThumbForgeModel", "variable", "(I)I"⟩ ∈ tbG := tb_in (tb_4 117 rfl) rfl
theorem tw_4_118 : Cond.selects "ThumbForgeModel" ⟨"ThumbForgeModel", "variable", "(I)I"⟩ ⟨"ThumbForgeModel", "variable", "(I)I"⟩ ∈ tbG := tb_in (tb_4 118 rfl) rfl
theorem tw_4_119 : Cond.code ⟨"ThumbForgeModel", "variable", "(I)I"⟩ prog_6_method_49_code 2 (some FieldType.int) ∈ tbG := tb_in (tb_4 119 rfl) rfl
theorem tw_4_120 : Cond.methodLink "ThumbForgeLaw" 149 ⟨"ThumbForgeModel", "outputs", "()I"⟩ ∈ tbG := tb_in (tb_4 120 rfl) rfl
theorem tw_4_121 : Cond.instanceMethod ⟨"ThumbForgeModel", "outputs", "()I"⟩ ∈ tbG := tb_in (tb_4 121 rfl) rfl
theorem tw_4_122 : Cond.selects "ThumbForgeModel" ⟨"ThumbForgeModel", "outputs", "()I"⟩ ⟨"ThumbForgeModel", "outputs", "()I"⟩ ∈ tbG := tb_in (tb_4 122 rfl) rfl
theorem tw_4_123 : Cond.code ⟨"ThumbForgeModel", "outputs", "()I"⟩ prog_6_method_50_code 1 (some FieldType.int) ∈ tbG := tb_in (tb_4 123 rfl) rfl
theorem tw_4_124 : Cond.methodLink "ThumbForgeLaw" 152 ⟨"ThumbForgeModel", "output", "(I)I"⟩ ∈ tbG := tb_in (tb_4 124 rfl) rfl
theorem tw_4_125 : Cond.instanceMethod ⟨"ThumbForgeModel", "output", "(I)I"⟩ ∈ tbG := tb_in (tb_4 125 rfl) rfl
theorem tw_4_126 : Cond.selects "ThumbForgeModel" ⟨"ThumbForgeModel", "output", "(I)I"⟩ ⟨"ThumbForgeModel", "output", "(I)I"⟩ ∈ tbG := tb_in (tb_4 126 rfl) rfl
theorem tw_4_127 : Cond.code ⟨"ThumbForgeModel", "output", "(I)I"⟩ prog_6_method_51_code 2 (some FieldType.int) ∈ tbG := tb_in (tb_4 127 rfl) rfl
theorem tw_4_128 : Cond.arrayClass FieldType.long ∈ tbG := tb_in (tb_4 128 rfl) rfl
theorem tw_4_129 : Cond.sameMethod "java/lang/Throwable" "java/lang/Throwable" "fillInStackTrace" "(I)Ljava/lang/Throwable;" ∈ tbG := tb_in (tb_4 129 rfl) rfl
theorem iwX0 : ∀ w ∈ u_ws RX0 TX0 9, w ∈ tbG := by
  show ∀ w ∈ [Cond.laysFinal "ThumbForge$Image" "ThumbForge$Image" "program" "LThumbForge$Program;", Cond.laysFinal "ThumbForge$Image" "ThumbForge$Image" "halfwords" "[I", Cond.laysFinal "ThumbForge$Image" "ThumbForge$Image" "places" "[I", Cond.laysFinal "ThumbForge$Image" "ThumbForge$Image" "isLong" "[Z", Cond.laysFinal "ThumbForge$Image" "ThumbForge$Image" "literals" "[I", Cond.lays "ThumbForge$Image" "ThumbForge$Image" "literalCount" "I", Cond.lays "ThumbForge$Image" "ThumbForge$Image" "poolPlace" "I", Cond.lays "ThumbForge$Image" "ThumbForge$Image" "length" "I", Cond.lays "ThumbForge$Image" "ThumbForge$Image" "made" "Z"], w ∈ tbG
  exact List.forall_mem_cons.mpr ⟨tw_1_83, List.forall_mem_cons.mpr ⟨tw_1_85, List.forall_mem_cons.mpr ⟨tw_1_87, List.forall_mem_cons.mpr ⟨tw_1_89, List.forall_mem_cons.mpr ⟨tw_1_91, List.forall_mem_cons.mpr ⟨tw_1_93, List.forall_mem_cons.mpr ⟨tw_1_95, List.forall_mem_cons.mpr ⟨tw_1_97, List.forall_mem_cons.mpr ⟨tw_1_99, fun _ h => absurd h List.not_mem_nil⟩⟩⟩⟩⟩⟩⟩⟩⟩
theorem ivX0 (a : Cond) : ∀ w ∈ u_ws RX0 TX0 9, w ∈ a :: tbG := fun w h => tb_c (iwX0 w h)
theorem iwX1 : ∀ w ∈ u_ws RX1 TX1 9, w ∈ tbG := by
  show ∀ w ∈ [Cond.laysFinal "ThumbForge$Machine" "ThumbForge$Machine" "program" "LThumbForge$Program;", Cond.laysFinal "ThumbForge$Machine" "ThumbForge$Machine" "image" "LThumbForge$Image;", Cond.laysFinal "ThumbForge$Machine" "ThumbForge$Machine" "words" "[I", Cond.laysFinal "ThumbForge$Machine" "ThumbForge$Machine" "values" "[I", Cond.laysFinal "ThumbForge$Machine" "ThumbForge$Machine" "kept" "[I", Cond.lays "ThumbForge$Machine" "ThumbForge$Machine" "outCount" "I", Cond.lays "ThumbForge$Machine" "ThumbForge$Machine" "mode" "I", Cond.lays "ThumbForge$Machine" "ThumbForge$Machine" "trap" "I", Cond.lays "ThumbForge$Machine" "ThumbForge$Machine" "next" "I"], w ∈ tbG
  exact List.forall_mem_cons.mpr ⟨tw_1_124, List.forall_mem_cons.mpr ⟨tw_1_126, List.forall_mem_cons.mpr ⟨tw_1_128, List.forall_mem_cons.mpr ⟨tw_1_130, List.forall_mem_cons.mpr ⟨tw_1_132, List.forall_mem_cons.mpr ⟨tw_1_134, List.forall_mem_cons.mpr ⟨tw_1_136, List.forall_mem_cons.mpr ⟨tw_1_138, List.forall_mem_cons.mpr ⟨tw_1_140, fun _ h => absurd h List.not_mem_nil⟩⟩⟩⟩⟩⟩⟩⟩⟩
theorem ivX1 (a : Cond) : ∀ w ∈ u_ws RX1 TX1 9, w ∈ a :: tbG := fun w h => tb_c (iwX1 w h)
theorem iwX2 : ∀ w ∈ u_ws RX2 TX2 7, w ∈ tbG := by
  show ∀ w ∈ [Cond.laysFinal "ThumbForge$Program" "ThumbForge$Program" "kinds" "[I", Cond.laysFinal "ThumbForge$Program" "ThumbForge$Program" "codes" "[I", Cond.laysFinal "ThumbForge$Program" "ThumbForge$Program" "targets" "[I", Cond.laysFinal "ThumbForge$Program" "ThumbForge$Program" "firsts" "[I", Cond.laysFinal "ThumbForge$Program" "ThumbForge$Program" "seconds" "[I", Cond.laysFinal "ThumbForge$Program" "ThumbForge$Program" "numbers" "[I", Cond.lays "ThumbForge$Program" "ThumbForge$Program" "count" "I"], w ∈ tbG
  exact List.forall_mem_cons.mpr ⟨tw_1_47, List.forall_mem_cons.mpr ⟨tw_1_49, List.forall_mem_cons.mpr ⟨tw_1_51, List.forall_mem_cons.mpr ⟨tw_1_53, List.forall_mem_cons.mpr ⟨tw_1_55, List.forall_mem_cons.mpr ⟨tw_1_57, List.forall_mem_cons.mpr ⟨tw_1_59, fun _ h => absurd h List.not_mem_nil⟩⟩⟩⟩⟩⟩⟩
theorem ivX2 (a : Cond) : ∀ w ∈ u_ws RX2 TX2 7, w ∈ a :: tbG := fun w h => tb_c (iwX2 w h)
theorem iwX3 : ∀ w ∈ u_ws RX3 TX3 3, w ∈ tbG := by
  show ∀ w ∈ [Cond.laysFinal "ThumbForge" "ThumbForge" "program" "LThumbForge$Program;", Cond.laysFinal "ThumbForge" "ThumbForge" "image" "LThumbForge$Image;", Cond.laysFinal "ThumbForge" "ThumbForge" "machine" "LThumbForge$Machine;"], w ∈ tbG
  exact List.forall_mem_cons.mpr ⟨tw_1_146, List.forall_mem_cons.mpr ⟨tw_1_148, List.forall_mem_cons.mpr ⟨tw_1_150, fun _ h => absurd h List.not_mem_nil⟩⟩⟩
theorem ivX3 (a : Cond) : ∀ w ∈ u_ws RX3 TX3 3, w ∈ a :: tbG := fun w h => tb_c (iwX3 w h)
theorem iwX4 : ∀ w ∈ u_ws RX4 TX4 22, w ∈ tbG := by
  show ∀ w ∈ [Cond.lays "ThumbForgeModel" "ThumbForgeModel" "thrown" "I", Cond.lays "ThumbForgeModel" "ThumbForgeModel" "size" "I", Cond.laysFinal "ThumbForgeModel" "ThumbForgeModel" "kind" "[I", Cond.laysFinal "ThumbForgeModel" "ThumbForgeModel" "n0" "[I", Cond.laysFinal "ThumbForgeModel" "ThumbForgeModel" "n1" "[I", Cond.laysFinal "ThumbForgeModel" "ThumbForgeModel" "n2" "[I", Cond.laysFinal "ThumbForgeModel" "ThumbForgeModel" "n3" "[I", Cond.laysFinal "ThumbForgeModel" "ThumbForgeModel" "memory" "[I", Cond.lays "ThumbForgeModel" "ThumbForgeModel" "made" "Z", Cond.lays "ThumbForgeModel" "ThumbForgeModel" "length" "I", Cond.laysFinal "ThumbForgeModel" "ThumbForgeModel" "image" "[I", Cond.laysFinal "ThumbForgeModel" "ThumbForgeModel" "places" "[I", Cond.laysFinal "ThumbForgeModel" "ThumbForgeModel" "far" "[Z", Cond.lays "ThumbForgeModel" "ThumbForgeModel" "pool" "I", Cond.laysFinal "ThumbForgeModel" "ThumbForgeModel" "literals" "[I", Cond.lays "ThumbForgeModel" "ThumbForgeModel" "poolPlace" "I", Cond.lays "ThumbForgeModel" "ThumbForgeModel" "state" "I", Cond.lays "ThumbForgeModel" "ThumbForgeModel" "trap" "I", Cond.lays "ThumbForgeModel" "ThumbForgeModel" "now" "I", Cond.laysFinal "ThumbForgeModel" "ThumbForgeModel" "variables" "[I", Cond.lays "ThumbForgeModel" "ThumbForgeModel" "outputs" "I", Cond.laysFinal "ThumbForgeModel" "ThumbForgeModel" "out" "[I"], w ∈ tbG
  exact List.forall_mem_cons.mpr ⟨tw_3_123, List.forall_mem_cons.mpr ⟨tw_3_125, List.forall_mem_cons.mpr ⟨tw_3_127, List.forall_mem_cons.mpr ⟨tw_3_129, List.forall_mem_cons.mpr ⟨tw_3_131, List.forall_mem_cons.mpr ⟨tw_3_133, List.forall_mem_cons.mpr ⟨tw_3_135, List.forall_mem_cons.mpr ⟨tw_3_137, List.forall_mem_cons.mpr ⟨tw_3_139, List.forall_mem_cons.mpr ⟨tw_3_141, List.forall_mem_cons.mpr ⟨tw_3_143, List.forall_mem_cons.mpr ⟨tw_3_145, List.forall_mem_cons.mpr ⟨tw_3_147, List.forall_mem_cons.mpr ⟨tw_3_149, List.forall_mem_cons.mpr ⟨tw_3_151, List.forall_mem_cons.mpr ⟨tw_3_153, List.forall_mem_cons.mpr ⟨tw_3_155, List.forall_mem_cons.mpr ⟨tw_3_157, List.forall_mem_cons.mpr ⟨tw_3_159, List.forall_mem_cons.mpr ⟨tw_3_161, List.forall_mem_cons.mpr ⟨tw_3_163, List.forall_mem_cons.mpr ⟨tw_3_165, fun _ h => absurd h List.not_mem_nil⟩⟩⟩⟩⟩⟩⟩⟩⟩⟩⟩⟩⟩⟩⟩⟩⟩⟩⟩⟩⟩⟩
theorem ivX4 (a : Cond) : ∀ w ∈ u_ws RX4 TX4 22, w ∈ a :: tbG := fun w h => tb_c (iwX4 w h)
end
section
theorem dL_constant_0 : decode cL_constant 0 = .ok (.aload_n 3, 1) := by decide +kernel
theorem dL_constant_1 : decode cL_constant 1 = .ok (.iconst 0, 1) := by decide +kernel
theorem dL_constant_2 : decode cL_constant 2 = .ok (.aload_n 0, 1) := by decide +kernel
theorem dL_constant_3 : decode cL_constant 3 = .ok (.iload_n 1, 1) := by decide +kernel
theorem dL_constant_4 : decode cL_constant 4 = .ok (.iload_n 2, 1) := by decide +kernel
theorem dL_constant_5 : decode cL_constant 5 = .ok (.invokevirtual 7, 3) := by decide +kernel
theorem dL_constant_8 : decode cL_constant 8 = .ok (.i2l, 1) := by decide +kernel
theorem dL_constant_9 : decode cL_constant 9 = .ok (.lastore, 1) := by decide +kernel
theorem dL_constant_10 : decode cL_constant 10 = .ok (.goto 11, 3) := by decide +kernel
theorem dL_constant_13 : decode cL_constant 13 = .ok (.astore 4, 2) := by decide +kernel
theorem dL_constant_15 : decode cL_constant 15 = .ok (.iconst 1, 1) := by decide +kernel
theorem dL_constant_16 : decode cL_constant 16 = .ok (.ireturn, 1) := by decide +kernel
theorem dL_constant_17 : decode cL_constant 17 = .ok (.astore 4, 2) := by decide +kernel
theorem dL_constant_19 : decode cL_constant 19 = .ok (.iconst 2, 1) := by decide +kernel
theorem dL_constant_20 : decode cL_constant 20 = .ok (.ireturn, 1) := by decide +kernel
theorem dL_constant_21 : decode cL_constant 21 = .ok (.iconst 0, 1) := by decide +kernel
theorem dL_constant_22 : decode cL_constant 22 = .ok (.ireturn, 1) := by decide +kernel
theorem dL_compute_0 : decode cL_compute 0 = .ok (.aload 5, 2) := by decide +kernel
theorem dL_compute_2 : decode cL_compute 2 = .ok (.iconst 0, 1) := by decide +kernel
theorem dL_compute_3 : decode cL_compute 3 = .ok (.aload_n 0, 1) := by decide +kernel
theorem dL_compute_4 : decode cL_compute 4 = .ok (.iload_n 1, 1) := by decide +kernel
theorem dL_compute_5 : decode cL_compute 5 = .ok (.iload_n 2, 1) := by decide +kernel
theorem dL_compute_6 : decode cL_compute 6 = .ok (.iload_n 3, 1) := by decide +kernel
theorem dL_compute_7 : decode cL_compute 7 = .ok (.iload 4, 2) := by decide +kernel
theorem dL_compute_9 : decode cL_compute 9 = .ok (.invokevirtual 17, 3) := by decide +kernel
theorem dL_compute_12 : decode cL_compute 12 = .ok (.i2l, 1) := by decide +kernel
theorem dL_compute_13 : decode cL_compute 13 = .ok (.lastore, 1) := by decide +kernel
theorem dL_compute_14 : decode cL_compute 14 = .ok (.goto 11, 3) := by decide +kernel
theorem dL_compute_17 : decode cL_compute 17 = .ok (.astore 6, 2) := by decide +kernel
theorem dL_compute_19 : decode cL_compute 19 = .ok (.iconst 1, 1) := by decide +kernel
theorem dL_compute_20 : decode cL_compute 20 = .ok (.ireturn, 1) := by decide +kernel
theorem dL_compute_21 : decode cL_compute 21 = .ok (.astore 6, 2) := by decide +kernel
theorem dL_compute_23 : decode cL_compute 23 = .ok (.iconst 2, 1) := by decide +kernel
theorem dL_compute_24 : decode cL_compute 24 = .ok (.ireturn, 1) := by decide +kernel
theorem dL_compute_25 : decode cL_compute 25 = .ok (.iconst 0, 1) := by decide +kernel
theorem dL_compute_26 : decode cL_compute 26 = .ok (.ireturn, 1) := by decide +kernel
theorem dL_load_0 : decode cL_load 0 = .ok (.aload_n 3, 1) := by decide +kernel
theorem dL_load_1 : decode cL_load 1 = .ok (.iconst 0, 1) := by decide +kernel
theorem dL_load_2 : decode cL_load 2 = .ok (.aload_n 0, 1) := by decide +kernel
theorem dL_load_3 : decode cL_load 3 = .ok (.iload_n 1, 1) := by decide +kernel
theorem dL_load_4 : decode cL_load 4 = .ok (.iload_n 2, 1) := by decide +kernel
theorem dL_load_5 : decode cL_load 5 = .ok (.invokevirtual 21, 3) := by decide +kernel
theorem dL_load_8 : decode cL_load 8 = .ok (.i2l, 1) := by decide +kernel
theorem dL_load_9 : decode cL_load 9 = .ok (.lastore, 1) := by decide +kernel
theorem dL_load_10 : decode cL_load 10 = .ok (.goto 11, 3) := by decide +kernel
theorem dL_load_13 : decode cL_load 13 = .ok (.astore 4, 2) := by decide +kernel
theorem dL_load_15 : decode cL_load 15 = .ok (.iconst 1, 1) := by decide +kernel
theorem dL_load_16 : decode cL_load 16 = .ok (.ireturn, 1) := by decide +kernel
theorem dL_load_17 : decode cL_load 17 = .ok (.astore 4, 2) := by decide +kernel
theorem dL_load_19 : decode cL_load 19 = .ok (.iconst 2, 1) := by decide +kernel
theorem dL_load_20 : decode cL_load 20 = .ok (.ireturn, 1) := by decide +kernel
theorem dL_load_21 : decode cL_load 21 = .ok (.iconst 0, 1) := by decide +kernel
theorem dL_load_22 : decode cL_load 22 = .ok (.ireturn, 1) := by decide +kernel
theorem dL_store_0 : decode cL_store 0 = .ok (.aload_n 3, 1) := by decide +kernel
theorem dL_store_1 : decode cL_store 1 = .ok (.iconst 0, 1) := by decide +kernel
theorem dL_store_2 : decode cL_store 2 = .ok (.aload_n 0, 1) := by decide +kernel
theorem dL_store_3 : decode cL_store 3 = .ok (.iload_n 1, 1) := by decide +kernel
theorem dL_store_4 : decode cL_store 4 = .ok (.iload_n 2, 1) := by decide +kernel
theorem dL_store_5 : decode cL_store 5 = .ok (.invokevirtual 24, 3) := by decide +kernel
theorem dL_store_8 : decode cL_store 8 = .ok (.i2l, 1) := by decide +kernel
theorem dL_store_9 : decode cL_store 9 = .ok (.lastore, 1) := by decide +kernel
theorem dL_store_10 : decode cL_store 10 = .ok (.goto 11, 3) := by decide +kernel
theorem dL_store_13 : decode cL_store 13 = .ok (.astore 4, 2) := by decide +kernel
theorem dL_store_15 : decode cL_store 15 = .ok (.iconst 1, 1) := by decide +kernel
theorem dL_store_16 : decode cL_store 16 = .ok (.ireturn, 1) := by decide +kernel
theorem dL_store_17 : decode cL_store 17 = .ok (.astore 4, 2) := by decide +kernel
theorem dL_store_19 : decode cL_store 19 = .ok (.iconst 2, 1) := by decide +kernel
theorem dL_store_20 : decode cL_store 20 = .ok (.ireturn, 1) := by decide +kernel
theorem dL_store_21 : decode cL_store 21 = .ok (.iconst 0, 1) := by decide +kernel
theorem dL_store_22 : decode cL_store 22 = .ok (.ireturn, 1) := by decide +kernel
theorem dL_jump_0 : decode cL_jump 0 = .ok (.aload_n 2, 1) := by decide +kernel
theorem dL_jump_1 : decode cL_jump 1 = .ok (.iconst 0, 1) := by decide +kernel
theorem dL_jump_2 : decode cL_jump 2 = .ok (.aload_n 0, 1) := by decide +kernel
theorem dL_jump_3 : decode cL_jump 3 = .ok (.iload_n 1, 1) := by decide +kernel
theorem dL_jump_4 : decode cL_jump 4 = .ok (.invokevirtual 27, 3) := by decide +kernel
theorem dL_jump_7 : decode cL_jump 7 = .ok (.i2l, 1) := by decide +kernel
theorem dL_jump_8 : decode cL_jump 8 = .ok (.lastore, 1) := by decide +kernel
theorem dL_jump_9 : decode cL_jump 9 = .ok (.goto 9, 3) := by decide +kernel
theorem dL_jump_12 : decode cL_jump 12 = .ok (.astore_n 3, 1) := by decide +kernel
theorem dL_jump_13 : decode cL_jump 13 = .ok (.iconst 1, 1) := by decide +kernel
theorem dL_jump_14 : decode cL_jump 14 = .ok (.ireturn, 1) := by decide +kernel
theorem dL_jump_15 : decode cL_jump 15 = .ok (.astore_n 3, 1) := by decide +kernel
theorem dL_jump_16 : decode cL_jump 16 = .ok (.iconst 2, 1) := by decide +kernel
theorem dL_jump_17 : decode cL_jump 17 = .ok (.ireturn, 1) := by decide +kernel
theorem dL_jump_18 : decode cL_jump 18 = .ok (.iconst 0, 1) := by decide +kernel
theorem dL_jump_19 : decode cL_jump 19 = .ok (.ireturn, 1) := by decide +kernel
theorem dL_branch_0 : decode cL_branch 0 = .ok (.aload 5, 2) := by decide +kernel
theorem dL_branch_2 : decode cL_branch 2 = .ok (.iconst 0, 1) := by decide +kernel
theorem dL_branch_3 : decode cL_branch 3 = .ok (.aload_n 0, 1) := by decide +kernel
theorem dL_branch_4 : decode cL_branch 4 = .ok (.iload_n 1, 1) := by decide +kernel
theorem dL_branch_5 : decode cL_branch 5 = .ok (.iload_n 2, 1) := by decide +kernel
theorem dL_branch_6 : decode cL_branch 6 = .ok (.iload_n 3, 1) := by decide +kernel
theorem dL_branch_7 : decode cL_branch 7 = .ok (.iload 4, 2) := by decide +kernel
theorem dL_branch_9 : decode cL_branch 9 = .ok (.invokevirtual 31, 3) := by decide +kernel
theorem dL_branch_12 : decode cL_branch 12 = .ok (.i2l, 1) := by decide +kernel
theorem dL_branch_13 : decode cL_branch 13 = .ok (.lastore, 1) := by decide +kernel
theorem dL_branch_14 : decode cL_branch 14 = .ok (.goto 11, 3) := by decide +kernel
theorem dL_branch_17 : decode cL_branch 17 = .ok (.astore 6, 2) := by decide +kernel
theorem dL_branch_19 : decode cL_branch 19 = .ok (.iconst 1, 1) := by decide +kernel
theorem dL_branch_20 : decode cL_branch 20 = .ok (.ireturn, 1) := by decide +kernel
theorem dL_branch_21 : decode cL_branch 21 = .ok (.astore 6, 2) := by decide +kernel
theorem dL_branch_23 : decode cL_branch 23 = .ok (.iconst 2, 1) := by decide +kernel
theorem dL_branch_24 : decode cL_branch 24 = .ok (.ireturn, 1) := by decide +kernel
theorem dL_branch_25 : decode cL_branch 25 = .ok (.iconst 0, 1) := by decide +kernel
theorem dL_branch_26 : decode cL_branch 26 = .ok (.ireturn, 1) := by decide +kernel
theorem dL_out_0 : decode cL_out 0 = .ok (.aload_n 2, 1) := by decide +kernel
theorem dL_out_1 : decode cL_out 1 = .ok (.iconst 0, 1) := by decide +kernel
theorem dL_out_2 : decode cL_out 2 = .ok (.aload_n 0, 1) := by decide +kernel
theorem dL_out_3 : decode cL_out 3 = .ok (.iload_n 1, 1) := by decide +kernel
theorem dL_out_4 : decode cL_out 4 = .ok (.invokevirtual 34, 3) := by decide +kernel
theorem dL_out_7 : decode cL_out 7 = .ok (.i2l, 1) := by decide +kernel
theorem dL_out_8 : decode cL_out 8 = .ok (.lastore, 1) := by decide +kernel
theorem dL_out_9 : decode cL_out 9 = .ok (.goto 9, 3) := by decide +kernel
theorem dL_out_12 : decode cL_out 12 = .ok (.astore_n 3, 1) := by decide +kernel
theorem dL_out_13 : decode cL_out 13 = .ok (.iconst 1, 1) := by decide +kernel
theorem dL_out_14 : decode cL_out 14 = .ok (.ireturn, 1) := by decide +kernel
theorem dL_out_15 : decode cL_out 15 = .ok (.astore_n 3, 1) := by decide +kernel
theorem dL_out_16 : decode cL_out 16 = .ok (.iconst 2, 1) := by decide +kernel
theorem dL_out_17 : decode cL_out 17 = .ok (.ireturn, 1) := by decide +kernel
theorem dL_out_18 : decode cL_out 18 = .ok (.iconst 0, 1) := by decide +kernel
theorem dL_out_19 : decode cL_out 19 = .ok (.ireturn, 1) := by decide +kernel
theorem dL_stop_0 : decode cL_stop 0 = .ok (.aload_n 2, 1) := by decide +kernel
theorem dL_stop_1 : decode cL_stop 1 = .ok (.iconst 0, 1) := by decide +kernel
theorem dL_stop_2 : decode cL_stop 2 = .ok (.aload_n 0, 1) := by decide +kernel
theorem dL_stop_3 : decode cL_stop 3 = .ok (.iload_n 1, 1) := by decide +kernel
theorem dL_stop_4 : decode cL_stop 4 = .ok (.invokevirtual 37, 3) := by decide +kernel
theorem dL_stop_7 : decode cL_stop 7 = .ok (.i2l, 1) := by decide +kernel
theorem dL_stop_8 : decode cL_stop 8 = .ok (.lastore, 1) := by decide +kernel
theorem dL_stop_9 : decode cL_stop 9 = .ok (.goto 9, 3) := by decide +kernel
theorem dL_stop_12 : decode cL_stop 12 = .ok (.astore_n 3, 1) := by decide +kernel
theorem dL_stop_13 : decode cL_stop 13 = .ok (.iconst 1, 1) := by decide +kernel
theorem dL_stop_14 : decode cL_stop 14 = .ok (.ireturn, 1) := by decide +kernel
theorem dL_stop_15 : decode cL_stop 15 = .ok (.astore_n 3, 1) := by decide +kernel
theorem dL_stop_16 : decode cL_stop 16 = .ok (.iconst 2, 1) := by decide +kernel
theorem dL_stop_17 : decode cL_stop 17 = .ok (.ireturn, 1) := by decide +kernel
theorem dL_stop_18 : decode cL_stop 18 = .ok (.iconst 0, 1) := by decide +kernel
theorem dL_stop_19 : decode cL_stop 19 = .ok (.ireturn, 1) := by decide +kernel
theorem dL_forge_0 : decode cL_forge 0 = .ok (.aload_n 1, 1) := by decide +kernel
theorem dL_forge_1 : decode cL_forge 1 = .ok (.iconst 0, 1) := by decide +kernel
theorem dL_forge_2 : decode cL_forge 2 = .ok (.aload_n 0, 1) := by decide +kernel
theorem dL_forge_3 : decode cL_forge 3 = .ok (.invokevirtual 40, 3) := by decide +kernel
theorem dL_forge_6 : decode cL_forge 6 = .ok (.i2l, 1) := by decide +kernel
theorem dL_forge_7 : decode cL_forge 7 = .ok (.lastore, 1) := by decide +kernel
theorem dL_forge_8 : decode cL_forge 8 = .ok (.goto 6, 3) := by decide +kernel
theorem dL_forge_11 : decode cL_forge 11 = .ok (.astore_n 2, 1) := by decide +kernel
theorem dL_forge_12 : decode cL_forge 12 = .ok (.iconst 1, 1) := by decide +kernel
theorem dL_forge_13 : decode cL_forge 13 = .ok (.ireturn, 1) := by decide +kernel
theorem dL_forge_14 : decode cL_forge 14 = .ok (.iconst 0, 1) := by decide +kernel
theorem dL_forge_15 : decode cL_forge 15 = .ok (.ireturn, 1) := by decide +kernel
theorem dL_halfword_0 : decode cL_halfword 0 = .ok (.aload_n 2, 1) := by decide +kernel
theorem dL_halfword_1 : decode cL_halfword 1 = .ok (.iconst 0, 1) := by decide +kernel
theorem dL_halfword_2 : decode cL_halfword 2 = .ok (.aload_n 0, 1) := by decide +kernel
theorem dL_halfword_3 : decode cL_halfword 3 = .ok (.iload_n 1, 1) := by decide +kernel
theorem dL_halfword_4 : decode cL_halfword 4 = .ok (.invokevirtual 44, 3) := by decide +kernel
theorem dL_halfword_7 : decode cL_halfword 7 = .ok (.i2l, 1) := by decide +kernel
theorem dL_halfword_8 : decode cL_halfword 8 = .ok (.lastore, 1) := by decide +kernel
theorem dL_halfword_9 : decode cL_halfword 9 = .ok (.goto 6, 3) := by decide +kernel
theorem dL_halfword_12 : decode cL_halfword 12 = .ok (.astore_n 3, 1) := by decide +kernel
theorem dL_halfword_13 : decode cL_halfword 13 = .ok (.iconst 1, 1) := by decide +kernel
theorem dL_halfword_14 : decode cL_halfword 14 = .ok (.ireturn, 1) := by decide +kernel
theorem dL_halfword_15 : decode cL_halfword 15 = .ok (.iconst 0, 1) := by decide +kernel
theorem dL_halfword_16 : decode cL_halfword 16 = .ok (.ireturn, 1) := by decide +kernel
theorem dL_place_0 : decode cL_place 0 = .ok (.aload_n 2, 1) := by decide +kernel
theorem dL_place_1 : decode cL_place 1 = .ok (.iconst 0, 1) := by decide +kernel
theorem dL_place_2 : decode cL_place 2 = .ok (.aload_n 0, 1) := by decide +kernel
theorem dL_place_3 : decode cL_place 3 = .ok (.iload_n 1, 1) := by decide +kernel
theorem dL_place_4 : decode cL_place 4 = .ok (.invokevirtual 49, 3) := by decide +kernel
theorem dL_place_7 : decode cL_place 7 = .ok (.i2l, 1) := by decide +kernel
theorem dL_place_8 : decode cL_place 8 = .ok (.lastore, 1) := by decide +kernel
theorem dL_place_9 : decode cL_place 9 = .ok (.goto 6, 3) := by decide +kernel
theorem dL_place_12 : decode cL_place 12 = .ok (.astore_n 3, 1) := by decide +kernel
theorem dL_place_13 : decode cL_place 13 = .ok (.iconst 1, 1) := by decide +kernel
theorem dL_place_14 : decode cL_place 14 = .ok (.ireturn, 1) := by decide +kernel
theorem dL_place_15 : decode cL_place 15 = .ok (.iconst 0, 1) := by decide +kernel
theorem dL_place_16 : decode cL_place 16 = .ok (.ireturn, 1) := by decide +kernel
theorem dL_poke_0 : decode cL_poke 0 = .ok (.aload_n 0, 1) := by decide +kernel
theorem dL_poke_1 : decode cL_poke 1 = .ok (.iload_n 1, 1) := by decide +kernel
theorem dL_poke_2 : decode cL_poke 2 = .ok (.iload_n 2, 1) := by decide +kernel
theorem dL_poke_3 : decode cL_poke 3 = .ok (.invokevirtual 52, 3) := by decide +kernel
theorem dL_poke_6 : decode cL_poke 6 = .ok (.goto 6, 3) := by decide +kernel
theorem dL_poke_9 : decode cL_poke 9 = .ok (.astore_n 3, 1) := by decide +kernel
theorem dL_poke_10 : decode cL_poke 10 = .ok (.iconst 1, 1) := by decide +kernel
theorem dL_poke_11 : decode cL_poke 11 = .ok (.ireturn, 1) := by decide +kernel
theorem dL_poke_12 : decode cL_poke 12 = .ok (.iconst 0, 1) := by decide +kernel
theorem dL_poke_13 : decode cL_poke 13 = .ok (.ireturn, 1) := by decide +kernel
theorem dL_memory_0 : decode cL_memory 0 = .ok (.aload_n 2, 1) := by decide +kernel
theorem dL_memory_1 : decode cL_memory 1 = .ok (.iconst 0, 1) := by decide +kernel
theorem dL_memory_2 : decode cL_memory 2 = .ok (.aload_n 0, 1) := by decide +kernel
theorem dL_memory_3 : decode cL_memory 3 = .ok (.iload_n 1, 1) := by decide +kernel
theorem dL_memory_4 : decode cL_memory 4 = .ok (.invokevirtual 56, 3) := by decide +kernel
theorem dL_memory_7 : decode cL_memory 7 = .ok (.i2l, 1) := by decide +kernel
theorem dL_memory_8 : decode cL_memory 8 = .ok (.lastore, 1) := by decide +kernel
theorem dL_memory_9 : decode cL_memory 9 = .ok (.goto 6, 3) := by decide +kernel
theorem dL_memory_12 : decode cL_memory 12 = .ok (.astore_n 3, 1) := by decide +kernel
theorem dL_memory_13 : decode cL_memory 13 = .ok (.iconst 1, 1) := by decide +kernel
theorem dL_memory_14 : decode cL_memory 14 = .ok (.ireturn, 1) := by decide +kernel
theorem dL_memory_15 : decode cL_memory 15 = .ok (.iconst 0, 1) := by decide +kernel
theorem dL_memory_16 : decode cL_memory 16 = .ok (.ireturn, 1) := by decide +kernel
theorem dL_start_0 : decode cL_start 0 = .ok (.aload_n 0, 1) := by decide +kernel
theorem dL_start_1 : decode cL_start 1 = .ok (.invokevirtual 59, 3) := by decide +kernel
theorem dL_start_4 : decode cL_start 4 = .ok (.goto 6, 3) := by decide +kernel
theorem dL_start_7 : decode cL_start 7 = .ok (.astore_n 1, 1) := by decide +kernel
theorem dL_start_8 : decode cL_start 8 = .ok (.iconst 1, 1) := by decide +kernel
theorem dL_start_9 : decode cL_start 9 = .ok (.ireturn, 1) := by decide +kernel
theorem dL_start_10 : decode cL_start 10 = .ok (.iconst 0, 1) := by decide +kernel
theorem dL_start_11 : decode cL_start 11 = .ok (.ireturn, 1) := by decide +kernel
theorem dL_run_0 : decode cL_run 0 = .ok (.aload_n 2, 1) := by decide +kernel
theorem dL_run_1 : decode cL_run 1 = .ok (.iconst 0, 1) := by decide +kernel
theorem dL_run_2 : decode cL_run 2 = .ok (.aload_n 0, 1) := by decide +kernel
theorem dL_run_3 : decode cL_run 3 = .ok (.iload_n 1, 1) := by decide +kernel
theorem dL_run_4 : decode cL_run 4 = .ok (.invokevirtual 62, 3) := by decide +kernel
theorem dL_run_7 : decode cL_run 7 = .ok (.i2l, 1) := by decide +kernel
theorem dL_run_8 : decode cL_run 8 = .ok (.lastore, 1) := by decide +kernel
theorem dL_run_9 : decode cL_run 9 = .ok (.goto 9, 3) := by decide +kernel
theorem dL_run_12 : decode cL_run 12 = .ok (.astore_n 3, 1) := by decide +kernel
theorem dL_run_13 : decode cL_run 13 = .ok (.iconst 1, 1) := by decide +kernel
theorem dL_run_14 : decode cL_run 14 = .ok (.ireturn, 1) := by decide +kernel
theorem dL_run_15 : decode cL_run 15 = .ok (.astore_n 3, 1) := by decide +kernel
theorem dL_run_16 : decode cL_run 16 = .ok (.iconst 2, 1) := by decide +kernel
theorem dL_run_17 : decode cL_run 17 = .ok (.ireturn, 1) := by decide +kernel
theorem dL_run_18 : decode cL_run 18 = .ok (.iconst 0, 1) := by decide +kernel
theorem dL_run_19 : decode cL_run 19 = .ok (.ireturn, 1) := by decide +kernel
theorem dL_variable_0 : decode cL_variable 0 = .ok (.aload_n 2, 1) := by decide +kernel
theorem dL_variable_1 : decode cL_variable 1 = .ok (.iconst 0, 1) := by decide +kernel
theorem dL_variable_2 : decode cL_variable 2 = .ok (.aload_n 0, 1) := by decide +kernel
theorem dL_variable_3 : decode cL_variable 3 = .ok (.iload_n 1, 1) := by decide +kernel
theorem dL_variable_4 : decode cL_variable 4 = .ok (.invokevirtual 65, 3) := by decide +kernel
theorem dL_variable_7 : decode cL_variable 7 = .ok (.i2l, 1) := by decide +kernel
theorem dL_variable_8 : decode cL_variable 8 = .ok (.lastore, 1) := by decide +kernel
theorem dL_variable_9 : decode cL_variable 9 = .ok (.goto 9, 3) := by decide +kernel
theorem dL_variable_12 : decode cL_variable 12 = .ok (.astore_n 3, 1) := by decide +kernel
theorem dL_variable_13 : decode cL_variable 13 = .ok (.iconst 1, 1) := by decide +kernel
theorem dL_variable_14 : decode cL_variable 14 = .ok (.ireturn, 1) := by decide +kernel
theorem dL_variable_15 : decode cL_variable 15 = .ok (.astore_n 3, 1) := by decide +kernel
theorem dL_variable_16 : decode cL_variable 16 = .ok (.iconst 2, 1) := by decide +kernel
theorem dL_variable_17 : decode cL_variable 17 = .ok (.ireturn, 1) := by decide +kernel
theorem dL_variable_18 : decode cL_variable 18 = .ok (.iconst 0, 1) := by decide +kernel
theorem dL_variable_19 : decode cL_variable 19 = .ok (.ireturn, 1) := by decide +kernel
theorem dL_output_0 : decode cL_output 0 = .ok (.aload_n 2, 1) := by decide +kernel
theorem dL_output_1 : decode cL_output 1 = .ok (.iconst 0, 1) := by decide +kernel
theorem dL_output_2 : decode cL_output 2 = .ok (.aload_n 0, 1) := by decide +kernel
theorem dL_output_3 : decode cL_output 3 = .ok (.iload_n 1, 1) := by decide +kernel
theorem dL_output_4 : decode cL_output 4 = .ok (.invokevirtual 68, 3) := by decide +kernel
theorem dL_output_7 : decode cL_output 7 = .ok (.i2l, 1) := by decide +kernel
theorem dL_output_8 : decode cL_output 8 = .ok (.lastore, 1) := by decide +kernel
theorem dL_output_9 : decode cL_output 9 = .ok (.goto 6, 3) := by decide +kernel
theorem dL_output_12 : decode cL_output 12 = .ok (.astore_n 3, 1) := by decide +kernel
theorem dL_output_13 : decode cL_output 13 = .ok (.iconst 1, 1) := by decide +kernel
theorem dL_output_14 : decode cL_output 14 = .ok (.ireturn, 1) := by decide +kernel
theorem dL_output_15 : decode cL_output 15 = .ok (.iconst 0, 1) := by decide +kernel
theorem dL_output_16 : decode cL_output 16 = .ok (.ireturn, 1) := by decide +kernel
theorem dL_law_0 : decode cL_law 0 = .ok (.new 8, 3) := by decide +kernel
theorem dL_law_3 : decode cL_law 3 = .ok (.dup, 1) := by decide +kernel
theorem dL_law_4 : decode cL_law 4 = .ok (.invokespecial 71, 3) := by decide +kernel
theorem dL_law_7 : decode cL_law 7 = .ok (.astore_n 1, 1) := by decide +kernel
theorem dL_law_8 : decode cL_law 8 = .ok (.new 72, 3) := by decide +kernel
theorem dL_law_11 : decode cL_law 11 = .ok (.dup, 1) := by decide +kernel
theorem dL_law_12 : decode cL_law 12 = .ok (.invokespecial 74, 3) := by decide +kernel
theorem dL_law_15 : decode cL_law 15 = .ok (.astore_n 2, 1) := by decide +kernel
theorem dL_law_16 : decode cL_law 16 = .ok (.iconst 1, 1) := by decide +kernel
theorem dL_law_17 : decode cL_law 17 = .ok (.newarray .long, 2) := by decide +kernel
theorem dL_law_19 : decode cL_law 19 = .ok (.astore_n 3, 1) := by decide +kernel
theorem dL_law_20 : decode cL_law 20 = .ok (.iconst 0, 1) := by decide +kernel
theorem dL_law_21 : decode cL_law 21 = .ok (.istore 4, 2) := by decide +kernel
theorem dL_law_23 : decode cL_law 23 = .ok (.iload 4, 2) := by decide +kernel
theorem dL_law_25 : decode cL_law 25 = .ok (.aload_n 0, 1) := by decide +kernel
theorem dL_law_26 : decode cL_law 26 = .ok (.arraylength, 1) := by decide +kernel
theorem dL_law_27 : decode cL_law 27 = .ok (.iconst 5, 1) := by decide +kernel
theorem dL_law_28 : decode cL_law 28 = .ok (.isub, 1) := by decide +kernel
theorem dL_law_29 : decode cL_law 29 = .ok (.if_icmp .gt 1171, 3) := by decide +kernel
theorem dL_law_32 : decode cL_law 32 = .ok (.aload_n 0, 1) := by decide +kernel
theorem dL_law_33 : decode cL_law 33 = .ok (.iload 4, 2) := by decide +kernel
theorem dL_law_35 : decode cL_law 35 = .ok (.iaload, 1) := by decide +kernel
theorem dL_law_36 : decode cL_law 36 = .ok (.bipush 31, 2) := by decide +kernel
theorem dL_law_38 : decode cL_law 38 = .ok (.iand, 1) := by decide +kernel
theorem dL_law_39 : decode cL_law 39 = .ok (.tableswitch 1155 0 20 #[97, 165, 257, 325, 393, 449, 541, 597, 653, 664, 708, 764, 820, 868, 924, 948, 1004, 1017, 1030, 1086, 1099], 97) := by decide +kernel
theorem dL_law_136 : decode cL_law 136 = .ok (.aload_n 1, 1) := by decide +kernel
theorem dL_law_137 : decode cL_law 137 = .ok (.aload_n 0, 1) := by decide +kernel
theorem dL_law_138 : decode cL_law 138 = .ok (.iload 4, 2) := by decide +kernel
theorem dL_law_140 : decode cL_law 140 = .ok (.iconst 1, 1) := by decide +kernel
theorem dL_law_141 : decode cL_law 141 = .ok (.iadd, 1) := by decide +kernel
theorem dL_law_142 : decode cL_law 142 = .ok (.iaload, 1) := by decide +kernel
theorem dL_law_143 : decode cL_law 143 = .ok (.aload_n 0, 1) := by decide +kernel
theorem dL_law_144 : decode cL_law 144 = .ok (.iload 4, 2) := by decide +kernel
theorem dL_law_146 : decode cL_law 146 = .ok (.iconst 2, 1) := by decide +kernel
theorem dL_law_147 : decode cL_law 147 = .ok (.iadd, 1) := by decide +kernel
theorem dL_law_148 : decode cL_law 148 = .ok (.iaload, 1) := by decide +kernel
theorem dL_law_149 : decode cL_law 149 = .ok (.aload_n 3, 1) := by decide +kernel
theorem dL_law_150 : decode cL_law 150 = .ok (.invokestatic 75, 3) := by decide +kernel
theorem dL_law_153 : decode cL_law 153 = .ok (.istore 5, 2) := by decide +kernel
theorem dL_law_155 : decode cL_law 155 = .ok (.aload_n 2, 1) := by decide +kernel
theorem dL_law_156 : decode cL_law 156 = .ok (.aload_n 0, 1) := by decide +kernel
theorem dL_law_157 : decode cL_law 157 = .ok (.iload 4, 2) := by decide +kernel
theorem dL_law_159 : decode cL_law 159 = .ok (.iconst 1, 1) := by decide +kernel
theorem dL_law_160 : decode cL_law 160 = .ok (.iadd, 1) := by decide +kernel
theorem dL_law_161 : decode cL_law 161 = .ok (.iaload, 1) := by decide +kernel
theorem dL_law_162 : decode cL_law 162 = .ok (.aload_n 0, 1) := by decide +kernel
theorem dL_law_163 : decode cL_law 163 = .ok (.iload 4, 2) := by decide +kernel
theorem dL_law_165 : decode cL_law 165 = .ok (.iconst 2, 1) := by decide +kernel
theorem dL_law_166 : decode cL_law 166 = .ok (.iadd, 1) := by decide +kernel
theorem dL_law_167 : decode cL_law 167 = .ok (.iaload, 1) := by decide +kernel
theorem dL_law_168 : decode cL_law 168 = .ok (.invokevirtual 80, 3) := by decide +kernel
theorem dL_law_171 : decode cL_law 171 = .ok (.istore 6, 2) := by decide +kernel
theorem dL_law_173 : decode cL_law 173 = .ok (.aload_n 2, 1) := by decide +kernel
theorem dL_law_174 : decode cL_law 174 = .ok (.invokevirtual 81, 3) := by decide +kernel
theorem dL_law_177 : decode cL_law 177 = .ok (.iload 5, 2) := by decide +kernel
theorem dL_law_179 : decode cL_law 179 = .ok (.if_icmp .eq 5, 3) := by decide +kernel
theorem dL_law_182 : decode cL_law 182 = .ok (.iconst 0, 1) := by decide +kernel
theorem dL_law_183 : decode cL_law 183 = .ok (.ireturn, 1) := by decide +kernel
theorem dL_law_184 : decode cL_law 184 = .ok (.iload 5, 2) := by decide +kernel
theorem dL_law_186 : decode cL_law 186 = .ok (.ifCond .ne 15, 3) := by decide +kernel
theorem dL_law_189 : decode cL_law 189 = .ok (.aload_n 3, 1) := by decide +kernel
theorem dL_law_190 : decode cL_law 190 = .ok (.iconst 0, 1) := by decide +kernel
theorem dL_law_191 : decode cL_law 191 = .ok (.laload, 1) := by decide +kernel
theorem dL_law_192 : decode cL_law 192 = .ok (.iload 6, 2) := by decide +kernel
theorem dL_law_194 : decode cL_law 194 = .ok (.i2l, 1) := by decide +kernel
theorem dL_law_195 : decode cL_law 195 = .ok (.lcmp, 1) := by decide +kernel
theorem dL_law_196 : decode cL_law 196 = .ok (.ifCond .eq 5, 3) := by decide +kernel
theorem dL_law_199 : decode cL_law 199 = .ok (.iconst 0, 1) := by decide +kernel
theorem dL_law_200 : decode cL_law 200 = .ok (.ireturn, 1) := by decide +kernel
theorem dL_law_201 : decode cL_law 201 = .ok (.goto 993, 3) := by decide +kernel
theorem dL_law_204 : decode cL_law 204 = .ok (.aload_n 1, 1) := by decide +kernel
theorem dL_law_205 : decode cL_law 205 = .ok (.aload_n 0, 1) := by decide +kernel
theorem dL_law_206 : decode cL_law 206 = .ok (.iload 4, 2) := by decide +kernel
theorem dL_law_208 : decode cL_law 208 = .ok (.iconst 1, 1) := by decide +kernel
theorem dL_law_209 : decode cL_law 209 = .ok (.iadd, 1) := by decide +kernel
theorem dL_law_210 : decode cL_law 210 = .ok (.iaload, 1) := by decide +kernel
theorem dL_law_211 : decode cL_law 211 = .ok (.aload_n 0, 1) := by decide +kernel
theorem dL_law_212 : decode cL_law 212 = .ok (.iload 4, 2) := by decide +kernel
theorem dL_law_214 : decode cL_law 214 = .ok (.iconst 2, 1) := by decide +kernel
theorem dL_law_215 : decode cL_law 215 = .ok (.iadd, 1) := by decide +kernel
theorem dL_law_216 : decode cL_law 216 = .ok (.iaload, 1) := by decide +kernel
theorem dL_law_217 : decode cL_law 217 = .ok (.aload_n 0, 1) := by decide +kernel
theorem dL_law_218 : decode cL_law 218 = .ok (.iload 4, 2) := by decide +kernel
theorem dL_law_220 : decode cL_law 220 = .ok (.iconst 3, 1) := by decide +kernel
theorem dL_law_221 : decode cL_law 221 = .ok (.iadd, 1) := by decide +kernel
theorem dL_law_222 : decode cL_law 222 = .ok (.iaload, 1) := by decide +kernel
theorem dL_law_223 : decode cL_law 223 = .ok (.aload_n 0, 1) := by decide +kernel
theorem dL_law_224 : decode cL_law 224 = .ok (.iload 4, 2) := by decide +kernel
theorem dL_law_226 : decode cL_law 226 = .ok (.iconst 4, 1) := by decide +kernel
theorem dL_law_227 : decode cL_law 227 = .ok (.iadd, 1) := by decide +kernel
theorem dL_law_228 : decode cL_law 228 = .ok (.iaload, 1) := by decide +kernel
theorem dL_law_229 : decode cL_law 229 = .ok (.aload_n 3, 1) := by decide +kernel
theorem dL_law_230 : decode cL_law 230 = .ok (.invokestatic 84, 3) := by decide +kernel
theorem dL_law_233 : decode cL_law 233 = .ok (.istore 5, 2) := by decide +kernel
theorem dL_law_235 : decode cL_law 235 = .ok (.aload_n 2, 1) := by decide +kernel
theorem dL_law_236 : decode cL_law 236 = .ok (.aload_n 0, 1) := by decide +kernel
theorem dL_law_237 : decode cL_law 237 = .ok (.iload 4, 2) := by decide +kernel
theorem dL_law_239 : decode cL_law 239 = .ok (.iconst 1, 1) := by decide +kernel
theorem dL_law_240 : decode cL_law 240 = .ok (.iadd, 1) := by decide +kernel
theorem dL_law_241 : decode cL_law 241 = .ok (.iaload, 1) := by decide +kernel
theorem dL_law_242 : decode cL_law 242 = .ok (.aload_n 0, 1) := by decide +kernel
theorem dL_law_243 : decode cL_law 243 = .ok (.iload 4, 2) := by decide +kernel
theorem dL_law_245 : decode cL_law 245 = .ok (.iconst 2, 1) := by decide +kernel
theorem dL_law_246 : decode cL_law 246 = .ok (.iadd, 1) := by decide +kernel
theorem dL_law_247 : decode cL_law 247 = .ok (.iaload, 1) := by decide +kernel
theorem dL_law_248 : decode cL_law 248 = .ok (.aload_n 0, 1) := by decide +kernel
theorem dL_law_249 : decode cL_law 249 = .ok (.iload 4, 2) := by decide +kernel
theorem dL_law_251 : decode cL_law 251 = .ok (.iconst 3, 1) := by decide +kernel
theorem dL_law_252 : decode cL_law 252 = .ok (.iadd, 1) := by decide +kernel
theorem dL_law_253 : decode cL_law 253 = .ok (.iaload, 1) := by decide +kernel
theorem dL_law_254 : decode cL_law 254 = .ok (.aload_n 0, 1) := by decide +kernel
theorem dL_law_255 : decode cL_law 255 = .ok (.iload 4, 2) := by decide +kernel
theorem dL_law_257 : decode cL_law 257 = .ok (.iconst 4, 1) := by decide +kernel
theorem dL_law_258 : decode cL_law 258 = .ok (.iadd, 1) := by decide +kernel
theorem dL_law_259 : decode cL_law 259 = .ok (.iaload, 1) := by decide +kernel
theorem dL_law_260 : decode cL_law 260 = .ok (.invokevirtual 87, 3) := by decide +kernel
theorem dL_law_263 : decode cL_law 263 = .ok (.istore 6, 2) := by decide +kernel
theorem dL_law_265 : decode cL_law 265 = .ok (.aload_n 2, 1) := by decide +kernel
theorem dL_law_266 : decode cL_law 266 = .ok (.invokevirtual 81, 3) := by decide +kernel
theorem dL_law_269 : decode cL_law 269 = .ok (.iload 5, 2) := by decide +kernel
theorem dL_law_271 : decode cL_law 271 = .ok (.if_icmp .eq 5, 3) := by decide +kernel
theorem dL_law_274 : decode cL_law 274 = .ok (.iconst 0, 1) := by decide +kernel
theorem dL_law_275 : decode cL_law 275 = .ok (.ireturn, 1) := by decide +kernel
theorem dL_law_276 : decode cL_law 276 = .ok (.iload 5, 2) := by decide +kernel
theorem dL_law_278 : decode cL_law 278 = .ok (.ifCond .ne 15, 3) := by decide +kernel
theorem dL_law_281 : decode cL_law 281 = .ok (.aload_n 3, 1) := by decide +kernel
theorem dL_law_282 : decode cL_law 282 = .ok (.iconst 0, 1) := by decide +kernel
theorem dL_law_283 : decode cL_law 283 = .ok (.laload, 1) := by decide +kernel
theorem dL_law_284 : decode cL_law 284 = .ok (.iload 6, 2) := by decide +kernel
theorem dL_law_286 : decode cL_law 286 = .ok (.i2l, 1) := by decide +kernel
theorem dL_law_287 : decode cL_law 287 = .ok (.lcmp, 1) := by decide +kernel
theorem dL_law_288 : decode cL_law 288 = .ok (.ifCond .eq 5, 3) := by decide +kernel
theorem dL_law_291 : decode cL_law 291 = .ok (.iconst 0, 1) := by decide +kernel
theorem dL_law_292 : decode cL_law 292 = .ok (.ireturn, 1) := by decide +kernel
theorem dL_law_293 : decode cL_law 293 = .ok (.goto 901, 3) := by decide +kernel
theorem dL_law_296 : decode cL_law 296 = .ok (.aload_n 1, 1) := by decide +kernel
theorem dL_law_297 : decode cL_law 297 = .ok (.aload_n 0, 1) := by decide +kernel
theorem dL_law_298 : decode cL_law 298 = .ok (.iload 4, 2) := by decide +kernel
theorem dL_law_300 : decode cL_law 300 = .ok (.iconst 1, 1) := by decide +kernel
theorem dL_law_301 : decode cL_law 301 = .ok (.iadd, 1) := by decide +kernel
theorem dL_law_302 : decode cL_law 302 = .ok (.iaload, 1) := by decide +kernel
theorem dL_law_303 : decode cL_law 303 = .ok (.aload_n 0, 1) := by decide +kernel
theorem dL_law_304 : decode cL_law 304 = .ok (.iload 4, 2) := by decide +kernel
theorem dL_law_306 : decode cL_law 306 = .ok (.iconst 2, 1) := by decide +kernel
theorem dL_law_307 : decode cL_law 307 = .ok (.iadd, 1) := by decide +kernel
theorem dL_law_308 : decode cL_law 308 = .ok (.iaload, 1) := by decide +kernel
theorem dL_law_309 : decode cL_law 309 = .ok (.aload_n 3, 1) := by decide +kernel
theorem dL_law_310 : decode cL_law 310 = .ok (.invokestatic 88, 3) := by decide +kernel
theorem dL_law_313 : decode cL_law 313 = .ok (.istore 5, 2) := by decide +kernel
theorem dL_law_315 : decode cL_law 315 = .ok (.aload_n 2, 1) := by decide +kernel
theorem dL_law_316 : decode cL_law 316 = .ok (.aload_n 0, 1) := by decide +kernel
theorem dL_law_317 : decode cL_law 317 = .ok (.iload 4, 2) := by decide +kernel
theorem dL_law_319 : decode cL_law 319 = .ok (.iconst 1, 1) := by decide +kernel
theorem dL_law_320 : decode cL_law 320 = .ok (.iadd, 1) := by decide +kernel
theorem dL_law_321 : decode cL_law 321 = .ok (.iaload, 1) := by decide +kernel
theorem dL_law_322 : decode cL_law 322 = .ok (.aload_n 0, 1) := by decide +kernel
theorem dL_law_323 : decode cL_law 323 = .ok (.iload 4, 2) := by decide +kernel
theorem dL_law_325 : decode cL_law 325 = .ok (.iconst 2, 1) := by decide +kernel
theorem dL_law_326 : decode cL_law 326 = .ok (.iadd, 1) := by decide +kernel
theorem dL_law_327 : decode cL_law 327 = .ok (.iaload, 1) := by decide +kernel
theorem dL_law_328 : decode cL_law 328 = .ok (.invokevirtual 90, 3) := by decide +kernel
theorem dL_law_331 : decode cL_law 331 = .ok (.istore 6, 2) := by decide +kernel
theorem dL_law_333 : decode cL_law 333 = .ok (.aload_n 2, 1) := by decide +kernel
theorem dL_law_334 : decode cL_law 334 = .ok (.invokevirtual 81, 3) := by decide +kernel
theorem dL_law_337 : decode cL_law 337 = .ok (.iload 5, 2) := by decide +kernel
theorem dL_law_339 : decode cL_law 339 = .ok (.if_icmp .eq 5, 3) := by decide +kernel
theorem dL_law_342 : decode cL_law 342 = .ok (.iconst 0, 1) := by decide +kernel
theorem dL_law_343 : decode cL_law 343 = .ok (.ireturn, 1) := by decide +kernel
theorem dL_law_344 : decode cL_law 344 = .ok (.iload 5, 2) := by decide +kernel
theorem dL_law_346 : decode cL_law 346 = .ok (.ifCond .ne 15, 3) := by decide +kernel
theorem dL_law_349 : decode cL_law 349 = .ok (.aload_n 3, 1) := by decide +kernel
theorem dL_law_350 : decode cL_law 350 = .ok (.iconst 0, 1) := by decide +kernel
theorem dL_law_351 : decode cL_law 351 = .ok (.laload, 1) := by decide +kernel
theorem dL_law_352 : decode cL_law 352 = .ok (.iload 6, 2) := by decide +kernel
theorem dL_law_354 : decode cL_law 354 = .ok (.i2l, 1) := by decide +kernel
theorem dL_law_355 : decode cL_law 355 = .ok (.lcmp, 1) := by decide +kernel
theorem dL_law_356 : decode cL_law 356 = .ok (.ifCond .eq 5, 3) := by decide +kernel
theorem dL_law_359 : decode cL_law 359 = .ok (.iconst 0, 1) := by decide +kernel
theorem dL_law_360 : decode cL_law 360 = .ok (.ireturn, 1) := by decide +kernel
theorem dL_law_361 : decode cL_law 361 = .ok (.goto 833, 3) := by decide +kernel
theorem dL_law_364 : decode cL_law 364 = .ok (.aload_n 1, 1) := by decide +kernel
theorem dL_law_365 : decode cL_law 365 = .ok (.aload_n 0, 1) := by decide +kernel
theorem dL_law_366 : decode cL_law 366 = .ok (.iload 4, 2) := by decide +kernel
theorem dL_law_368 : decode cL_law 368 = .ok (.iconst 1, 1) := by decide +kernel
theorem dL_law_369 : decode cL_law 369 = .ok (.iadd, 1) := by decide +kernel
theorem dL_law_370 : decode cL_law 370 = .ok (.iaload, 1) := by decide +kernel
theorem dL_law_371 : decode cL_law 371 = .ok (.aload_n 0, 1) := by decide +kernel
theorem dL_law_372 : decode cL_law 372 = .ok (.iload 4, 2) := by decide +kernel
theorem dL_law_374 : decode cL_law 374 = .ok (.iconst 2, 1) := by decide +kernel
theorem dL_law_375 : decode cL_law 375 = .ok (.iadd, 1) := by decide +kernel
theorem dL_law_376 : decode cL_law 376 = .ok (.iaload, 1) := by decide +kernel
theorem dL_law_377 : decode cL_law 377 = .ok (.aload_n 3, 1) := by decide +kernel
theorem dL_law_378 : decode cL_law 378 = .ok (.invokestatic 91, 3) := by decide +kernel
theorem dL_law_381 : decode cL_law 381 = .ok (.istore 5, 2) := by decide +kernel
theorem dL_law_383 : decode cL_law 383 = .ok (.aload_n 2, 1) := by decide +kernel
theorem dL_law_384 : decode cL_law 384 = .ok (.aload_n 0, 1) := by decide +kernel
theorem dL_law_385 : decode cL_law 385 = .ok (.iload 4, 2) := by decide +kernel
theorem dL_law_387 : decode cL_law 387 = .ok (.iconst 1, 1) := by decide +kernel
theorem dL_law_388 : decode cL_law 388 = .ok (.iadd, 1) := by decide +kernel
theorem dL_law_389 : decode cL_law 389 = .ok (.iaload, 1) := by decide +kernel
theorem dL_law_390 : decode cL_law 390 = .ok (.aload_n 0, 1) := by decide +kernel
theorem dL_law_391 : decode cL_law 391 = .ok (.iload 4, 2) := by decide +kernel
theorem dL_law_393 : decode cL_law 393 = .ok (.iconst 2, 1) := by decide +kernel
theorem dL_law_394 : decode cL_law 394 = .ok (.iadd, 1) := by decide +kernel
theorem dL_law_395 : decode cL_law 395 = .ok (.iaload, 1) := by decide +kernel
theorem dL_law_396 : decode cL_law 396 = .ok (.invokevirtual 93, 3) := by decide +kernel
theorem dL_law_399 : decode cL_law 399 = .ok (.istore 6, 2) := by decide +kernel
theorem dL_law_401 : decode cL_law 401 = .ok (.aload_n 2, 1) := by decide +kernel
theorem dL_law_402 : decode cL_law 402 = .ok (.invokevirtual 81, 3) := by decide +kernel
theorem dL_law_405 : decode cL_law 405 = .ok (.iload 5, 2) := by decide +kernel
theorem dL_law_407 : decode cL_law 407 = .ok (.if_icmp .eq 5, 3) := by decide +kernel
theorem dL_law_410 : decode cL_law 410 = .ok (.iconst 0, 1) := by decide +kernel
theorem dL_law_411 : decode cL_law 411 = .ok (.ireturn, 1) := by decide +kernel
theorem dL_law_412 : decode cL_law 412 = .ok (.iload 5, 2) := by decide +kernel
theorem dL_law_414 : decode cL_law 414 = .ok (.ifCond .ne 15, 3) := by decide +kernel
theorem dL_law_417 : decode cL_law 417 = .ok (.aload_n 3, 1) := by decide +kernel
theorem dL_law_418 : decode cL_law 418 = .ok (.iconst 0, 1) := by decide +kernel
theorem dL_law_419 : decode cL_law 419 = .ok (.laload, 1) := by decide +kernel
theorem dL_law_420 : decode cL_law 420 = .ok (.iload 6, 2) := by decide +kernel
theorem dL_law_422 : decode cL_law 422 = .ok (.i2l, 1) := by decide +kernel
theorem dL_law_423 : decode cL_law 423 = .ok (.lcmp, 1) := by decide +kernel
theorem dL_law_424 : decode cL_law 424 = .ok (.ifCond .eq 5, 3) := by decide +kernel
theorem dL_law_427 : decode cL_law 427 = .ok (.iconst 0, 1) := by decide +kernel
theorem dL_law_428 : decode cL_law 428 = .ok (.ireturn, 1) := by decide +kernel
theorem dL_law_429 : decode cL_law 429 = .ok (.goto 765, 3) := by decide +kernel
theorem dL_law_432 : decode cL_law 432 = .ok (.aload_n 1, 1) := by decide +kernel
theorem dL_law_433 : decode cL_law 433 = .ok (.aload_n 0, 1) := by decide +kernel
theorem dL_law_434 : decode cL_law 434 = .ok (.iload 4, 2) := by decide +kernel
theorem dL_law_436 : decode cL_law 436 = .ok (.iconst 1, 1) := by decide +kernel
theorem dL_law_437 : decode cL_law 437 = .ok (.iadd, 1) := by decide +kernel
theorem dL_law_438 : decode cL_law 438 = .ok (.iaload, 1) := by decide +kernel
theorem dL_law_439 : decode cL_law 439 = .ok (.aload_n 3, 1) := by decide +kernel
theorem dL_law_440 : decode cL_law 440 = .ok (.invokestatic 94, 3) := by decide +kernel
theorem dL_law_443 : decode cL_law 443 = .ok (.istore 5, 2) := by decide +kernel
theorem dL_law_445 : decode cL_law 445 = .ok (.aload_n 2, 1) := by decide +kernel
theorem dL_law_446 : decode cL_law 446 = .ok (.aload_n 0, 1) := by decide +kernel
theorem dL_law_447 : decode cL_law 447 = .ok (.iload 4, 2) := by decide +kernel
theorem dL_law_449 : decode cL_law 449 = .ok (.iconst 1, 1) := by decide +kernel
theorem dL_law_450 : decode cL_law 450 = .ok (.iadd, 1) := by decide +kernel
theorem dL_law_451 : decode cL_law 451 = .ok (.iaload, 1) := by decide +kernel
theorem dL_law_452 : decode cL_law 452 = .ok (.invokevirtual 97, 3) := by decide +kernel
theorem dL_law_455 : decode cL_law 455 = .ok (.istore 6, 2) := by decide +kernel
theorem dL_law_457 : decode cL_law 457 = .ok (.aload_n 2, 1) := by decide +kernel
theorem dL_law_458 : decode cL_law 458 = .ok (.invokevirtual 81, 3) := by decide +kernel
theorem dL_law_461 : decode cL_law 461 = .ok (.iload 5, 2) := by decide +kernel
theorem dL_law_463 : decode cL_law 463 = .ok (.if_icmp .eq 5, 3) := by decide +kernel
theorem dL_law_466 : decode cL_law 466 = .ok (.iconst 0, 1) := by decide +kernel
theorem dL_law_467 : decode cL_law 467 = .ok (.ireturn, 1) := by decide +kernel
theorem dL_law_468 : decode cL_law 468 = .ok (.iload 5, 2) := by decide +kernel
theorem dL_law_470 : decode cL_law 470 = .ok (.ifCond .ne 15, 3) := by decide +kernel
theorem dL_law_473 : decode cL_law 473 = .ok (.aload_n 3, 1) := by decide +kernel
theorem dL_law_474 : decode cL_law 474 = .ok (.iconst 0, 1) := by decide +kernel
theorem dL_law_475 : decode cL_law 475 = .ok (.laload, 1) := by decide +kernel
theorem dL_law_476 : decode cL_law 476 = .ok (.iload 6, 2) := by decide +kernel
theorem dL_law_478 : decode cL_law 478 = .ok (.i2l, 1) := by decide +kernel
theorem dL_law_479 : decode cL_law 479 = .ok (.lcmp, 1) := by decide +kernel
theorem dL_law_480 : decode cL_law 480 = .ok (.ifCond .eq 5, 3) := by decide +kernel
theorem dL_law_483 : decode cL_law 483 = .ok (.iconst 0, 1) := by decide +kernel
theorem dL_law_484 : decode cL_law 484 = .ok (.ireturn, 1) := by decide +kernel
theorem dL_law_485 : decode cL_law 485 = .ok (.goto 709, 3) := by decide +kernel
theorem dL_law_488 : decode cL_law 488 = .ok (.aload_n 1, 1) := by decide +kernel
theorem dL_law_489 : decode cL_law 489 = .ok (.aload_n 0, 1) := by decide +kernel
theorem dL_law_490 : decode cL_law 490 = .ok (.iload 4, 2) := by decide +kernel
theorem dL_law_492 : decode cL_law 492 = .ok (.iconst 1, 1) := by decide +kernel
theorem dL_law_493 : decode cL_law 493 = .ok (.iadd, 1) := by decide +kernel
theorem dL_law_494 : decode cL_law 494 = .ok (.iaload, 1) := by decide +kernel
theorem dL_law_495 : decode cL_law 495 = .ok (.aload_n 0, 1) := by decide +kernel
theorem dL_law_496 : decode cL_law 496 = .ok (.iload 4, 2) := by decide +kernel
theorem dL_law_498 : decode cL_law 498 = .ok (.iconst 2, 1) := by decide +kernel
theorem dL_law_499 : decode cL_law 499 = .ok (.iadd, 1) := by decide +kernel
theorem dL_law_500 : decode cL_law 500 = .ok (.iaload, 1) := by decide +kernel
theorem dL_law_501 : decode cL_law 501 = .ok (.aload_n 0, 1) := by decide +kernel
theorem dL_law_502 : decode cL_law 502 = .ok (.iload 4, 2) := by decide +kernel
theorem dL_law_504 : decode cL_law 504 = .ok (.iconst 3, 1) := by decide +kernel
theorem dL_law_505 : decode cL_law 505 = .ok (.iadd, 1) := by decide +kernel
theorem dL_law_506 : decode cL_law 506 = .ok (.iaload, 1) := by decide +kernel
theorem dL_law_507 : decode cL_law 507 = .ok (.aload_n 0, 1) := by decide +kernel
theorem dL_law_508 : decode cL_law 508 = .ok (.iload 4, 2) := by decide +kernel
theorem dL_law_510 : decode cL_law 510 = .ok (.iconst 4, 1) := by decide +kernel
theorem dL_law_511 : decode cL_law 511 = .ok (.iadd, 1) := by decide +kernel
theorem dL_law_512 : decode cL_law 512 = .ok (.iaload, 1) := by decide +kernel
theorem dL_law_513 : decode cL_law 513 = .ok (.aload_n 3, 1) := by decide +kernel
theorem dL_law_514 : decode cL_law 514 = .ok (.invokestatic 98, 3) := by decide +kernel
theorem dL_law_517 : decode cL_law 517 = .ok (.istore 5, 2) := by decide +kernel
theorem dL_law_519 : decode cL_law 519 = .ok (.aload_n 2, 1) := by decide +kernel
theorem dL_law_520 : decode cL_law 520 = .ok (.aload_n 0, 1) := by decide +kernel
theorem dL_law_521 : decode cL_law 521 = .ok (.iload 4, 2) := by decide +kernel
theorem dL_law_523 : decode cL_law 523 = .ok (.iconst 1, 1) := by decide +kernel
theorem dL_law_524 : decode cL_law 524 = .ok (.iadd, 1) := by decide +kernel
theorem dL_law_525 : decode cL_law 525 = .ok (.iaload, 1) := by decide +kernel
theorem dL_law_526 : decode cL_law 526 = .ok (.aload_n 0, 1) := by decide +kernel
theorem dL_law_527 : decode cL_law 527 = .ok (.iload 4, 2) := by decide +kernel
theorem dL_law_529 : decode cL_law 529 = .ok (.iconst 2, 1) := by decide +kernel
theorem dL_law_530 : decode cL_law 530 = .ok (.iadd, 1) := by decide +kernel
theorem dL_law_531 : decode cL_law 531 = .ok (.iaload, 1) := by decide +kernel
theorem dL_law_532 : decode cL_law 532 = .ok (.aload_n 0, 1) := by decide +kernel
theorem dL_law_533 : decode cL_law 533 = .ok (.iload 4, 2) := by decide +kernel
theorem dL_law_535 : decode cL_law 535 = .ok (.iconst 3, 1) := by decide +kernel
theorem dL_law_536 : decode cL_law 536 = .ok (.iadd, 1) := by decide +kernel
theorem dL_law_537 : decode cL_law 537 = .ok (.iaload, 1) := by decide +kernel
theorem dL_law_538 : decode cL_law 538 = .ok (.aload_n 0, 1) := by decide +kernel
theorem dL_law_539 : decode cL_law 539 = .ok (.iload 4, 2) := by decide +kernel
theorem dL_law_541 : decode cL_law 541 = .ok (.iconst 4, 1) := by decide +kernel
theorem dL_law_542 : decode cL_law 542 = .ok (.iadd, 1) := by decide +kernel
theorem dL_law_543 : decode cL_law 543 = .ok (.iaload, 1) := by decide +kernel
theorem dL_law_544 : decode cL_law 544 = .ok (.invokevirtual 100, 3) := by decide +kernel
theorem dL_law_547 : decode cL_law 547 = .ok (.istore 6, 2) := by decide +kernel
theorem dL_law_549 : decode cL_law 549 = .ok (.aload_n 2, 1) := by decide +kernel
theorem dL_law_550 : decode cL_law 550 = .ok (.invokevirtual 81, 3) := by decide +kernel
theorem dL_law_553 : decode cL_law 553 = .ok (.iload 5, 2) := by decide +kernel
theorem dL_law_555 : decode cL_law 555 = .ok (.if_icmp .eq 5, 3) := by decide +kernel
theorem dL_law_558 : decode cL_law 558 = .ok (.iconst 0, 1) := by decide +kernel
theorem dL_law_559 : decode cL_law 559 = .ok (.ireturn, 1) := by decide +kernel
theorem dL_law_560 : decode cL_law 560 = .ok (.iload 5, 2) := by decide +kernel
theorem dL_law_562 : decode cL_law 562 = .ok (.ifCond .ne 15, 3) := by decide +kernel
theorem dL_law_565 : decode cL_law 565 = .ok (.aload_n 3, 1) := by decide +kernel
theorem dL_law_566 : decode cL_law 566 = .ok (.iconst 0, 1) := by decide +kernel
theorem dL_law_567 : decode cL_law 567 = .ok (.laload, 1) := by decide +kernel
theorem dL_law_568 : decode cL_law 568 = .ok (.iload 6, 2) := by decide +kernel
theorem dL_law_570 : decode cL_law 570 = .ok (.i2l, 1) := by decide +kernel
theorem dL_law_571 : decode cL_law 571 = .ok (.lcmp, 1) := by decide +kernel
theorem dL_law_572 : decode cL_law 572 = .ok (.ifCond .eq 5, 3) := by decide +kernel
theorem dL_law_575 : decode cL_law 575 = .ok (.iconst 0, 1) := by decide +kernel
theorem dL_law_576 : decode cL_law 576 = .ok (.ireturn, 1) := by decide +kernel
theorem dL_law_577 : decode cL_law 577 = .ok (.goto 617, 3) := by decide +kernel
theorem dL_law_580 : decode cL_law 580 = .ok (.aload_n 1, 1) := by decide +kernel
theorem dL_law_581 : decode cL_law 581 = .ok (.aload_n 0, 1) := by decide +kernel
theorem dL_law_582 : decode cL_law 582 = .ok (.iload 4, 2) := by decide +kernel
theorem dL_law_584 : decode cL_law 584 = .ok (.iconst 1, 1) := by decide +kernel
theorem dL_law_585 : decode cL_law 585 = .ok (.iadd, 1) := by decide +kernel
theorem dL_law_586 : decode cL_law 586 = .ok (.iaload, 1) := by decide +kernel
theorem dL_law_587 : decode cL_law 587 = .ok (.aload_n 3, 1) := by decide +kernel
theorem dL_law_588 : decode cL_law 588 = .ok (.invokestatic 101, 3) := by decide +kernel
theorem dL_law_591 : decode cL_law 591 = .ok (.istore 5, 2) := by decide +kernel
theorem dL_law_593 : decode cL_law 593 = .ok (.aload_n 2, 1) := by decide +kernel
theorem dL_law_594 : decode cL_law 594 = .ok (.aload_n 0, 1) := by decide +kernel
theorem dL_law_595 : decode cL_law 595 = .ok (.iload 4, 2) := by decide +kernel
theorem dL_law_597 : decode cL_law 597 = .ok (.iconst 1, 1) := by decide +kernel
theorem dL_law_598 : decode cL_law 598 = .ok (.iadd, 1) := by decide +kernel
theorem dL_law_599 : decode cL_law 599 = .ok (.iaload, 1) := by decide +kernel
theorem dL_law_600 : decode cL_law 600 = .ok (.invokevirtual 103, 3) := by decide +kernel
theorem dL_law_603 : decode cL_law 603 = .ok (.istore 6, 2) := by decide +kernel
theorem dL_law_605 : decode cL_law 605 = .ok (.aload_n 2, 1) := by decide +kernel
theorem dL_law_606 : decode cL_law 606 = .ok (.invokevirtual 81, 3) := by decide +kernel
theorem dL_law_609 : decode cL_law 609 = .ok (.iload 5, 2) := by decide +kernel
theorem dL_law_611 : decode cL_law 611 = .ok (.if_icmp .eq 5, 3) := by decide +kernel
theorem dL_law_614 : decode cL_law 614 = .ok (.iconst 0, 1) := by decide +kernel
theorem dL_law_615 : decode cL_law 615 = .ok (.ireturn, 1) := by decide +kernel
theorem dL_law_616 : decode cL_law 616 = .ok (.iload 5, 2) := by decide +kernel
theorem dL_law_618 : decode cL_law 618 = .ok (.ifCond .ne 15, 3) := by decide +kernel
theorem dL_law_621 : decode cL_law 621 = .ok (.aload_n 3, 1) := by decide +kernel
theorem dL_law_622 : decode cL_law 622 = .ok (.iconst 0, 1) := by decide +kernel
theorem dL_law_623 : decode cL_law 623 = .ok (.laload, 1) := by decide +kernel
theorem dL_law_624 : decode cL_law 624 = .ok (.iload 6, 2) := by decide +kernel
theorem dL_law_626 : decode cL_law 626 = .ok (.i2l, 1) := by decide +kernel
theorem dL_law_627 : decode cL_law 627 = .ok (.lcmp, 1) := by decide +kernel
theorem dL_law_628 : decode cL_law 628 = .ok (.ifCond .eq 5, 3) := by decide +kernel
theorem dL_law_631 : decode cL_law 631 = .ok (.iconst 0, 1) := by decide +kernel
theorem dL_law_632 : decode cL_law 632 = .ok (.ireturn, 1) := by decide +kernel
theorem dL_law_633 : decode cL_law 633 = .ok (.goto 561, 3) := by decide +kernel
theorem dL_law_636 : decode cL_law 636 = .ok (.aload_n 1, 1) := by decide +kernel
theorem dL_law_637 : decode cL_law 637 = .ok (.aload_n 0, 1) := by decide +kernel
theorem dL_law_638 : decode cL_law 638 = .ok (.iload 4, 2) := by decide +kernel
theorem dL_law_640 : decode cL_law 640 = .ok (.iconst 1, 1) := by decide +kernel
theorem dL_law_641 : decode cL_law 641 = .ok (.iadd, 1) := by decide +kernel
theorem dL_law_642 : decode cL_law 642 = .ok (.iaload, 1) := by decide +kernel
theorem dL_law_643 : decode cL_law 643 = .ok (.aload_n 3, 1) := by decide +kernel
theorem dL_law_644 : decode cL_law 644 = .ok (.invokestatic 104, 3) := by decide +kernel
theorem dL_law_647 : decode cL_law 647 = .ok (.istore 5, 2) := by decide +kernel
theorem dL_law_649 : decode cL_law 649 = .ok (.aload_n 2, 1) := by decide +kernel
theorem dL_law_650 : decode cL_law 650 = .ok (.aload_n 0, 1) := by decide +kernel
theorem dL_law_651 : decode cL_law 651 = .ok (.iload 4, 2) := by decide +kernel
theorem dL_law_653 : decode cL_law 653 = .ok (.iconst 1, 1) := by decide +kernel
theorem dL_law_654 : decode cL_law 654 = .ok (.iadd, 1) := by decide +kernel
theorem dL_law_655 : decode cL_law 655 = .ok (.iaload, 1) := by decide +kernel
theorem dL_law_656 : decode cL_law 656 = .ok (.invokevirtual 106, 3) := by decide +kernel
theorem dL_law_659 : decode cL_law 659 = .ok (.istore 6, 2) := by decide +kernel
theorem dL_law_661 : decode cL_law 661 = .ok (.aload_n 2, 1) := by decide +kernel
theorem dL_law_662 : decode cL_law 662 = .ok (.invokevirtual 81, 3) := by decide +kernel
theorem dL_law_665 : decode cL_law 665 = .ok (.iload 5, 2) := by decide +kernel
theorem dL_law_667 : decode cL_law 667 = .ok (.if_icmp .eq 5, 3) := by decide +kernel
theorem dL_law_670 : decode cL_law 670 = .ok (.iconst 0, 1) := by decide +kernel
theorem dL_law_671 : decode cL_law 671 = .ok (.ireturn, 1) := by decide +kernel
theorem dL_law_672 : decode cL_law 672 = .ok (.iload 5, 2) := by decide +kernel
theorem dL_law_674 : decode cL_law 674 = .ok (.ifCond .ne 15, 3) := by decide +kernel
theorem dL_law_677 : decode cL_law 677 = .ok (.aload_n 3, 1) := by decide +kernel
theorem dL_law_678 : decode cL_law 678 = .ok (.iconst 0, 1) := by decide +kernel
theorem dL_law_679 : decode cL_law 679 = .ok (.laload, 1) := by decide +kernel
theorem dL_law_680 : decode cL_law 680 = .ok (.iload 6, 2) := by decide +kernel
theorem dL_law_682 : decode cL_law 682 = .ok (.i2l, 1) := by decide +kernel
theorem dL_law_683 : decode cL_law 683 = .ok (.lcmp, 1) := by decide +kernel
theorem dL_law_684 : decode cL_law 684 = .ok (.ifCond .eq 5, 3) := by decide +kernel
theorem dL_law_687 : decode cL_law 687 = .ok (.iconst 0, 1) := by decide +kernel
theorem dL_law_688 : decode cL_law 688 = .ok (.ireturn, 1) := by decide +kernel
theorem dL_law_689 : decode cL_law 689 = .ok (.goto 505, 3) := by decide +kernel
theorem dL_law_692 : decode cL_law 692 = .ok (.aload_n 1, 1) := by decide +kernel
theorem dL_law_693 : decode cL_law 693 = .ok (.invokevirtual 107, 3) := by decide +kernel
theorem dL_law_696 : decode cL_law 696 = .ok (.aload_n 2, 1) := by decide +kernel
theorem dL_law_697 : decode cL_law 697 = .ok (.invokevirtual 110, 3) := by decide +kernel
theorem dL_law_700 : decode cL_law 700 = .ok (.goto 494, 3) := by decide +kernel
theorem dL_law_703 : decode cL_law 703 = .ok (.aload_n 1, 1) := by decide +kernel
theorem dL_law_704 : decode cL_law 704 = .ok (.aload_n 3, 1) := by decide +kernel
theorem dL_law_705 : decode cL_law 705 = .ok (.invokestatic 111, 3) := by decide +kernel
theorem dL_law_708 : decode cL_law 708 = .ok (.istore 5, 2) := by decide +kernel
theorem dL_law_710 : decode cL_law 710 = .ok (.aload_n 2, 1) := by decide +kernel
theorem dL_law_711 : decode cL_law 711 = .ok (.invokevirtual 114, 3) := by decide +kernel
theorem dL_law_714 : decode cL_law 714 = .ok (.istore 6, 2) := by decide +kernel
theorem dL_law_716 : decode cL_law 716 = .ok (.aload_n 2, 1) := by decide +kernel
theorem dL_law_717 : decode cL_law 717 = .ok (.invokevirtual 81, 3) := by decide +kernel
theorem dL_law_720 : decode cL_law 720 = .ok (.iload 5, 2) := by decide +kernel
theorem dL_law_722 : decode cL_law 722 = .ok (.if_icmp .eq 5, 3) := by decide +kernel
theorem dL_law_725 : decode cL_law 725 = .ok (.iconst 0, 1) := by decide +kernel
theorem dL_law_726 : decode cL_law 726 = .ok (.ireturn, 1) := by decide +kernel
theorem dL_law_727 : decode cL_law 727 = .ok (.iload 5, 2) := by decide +kernel
theorem dL_law_729 : decode cL_law 729 = .ok (.ifCond .ne 15, 3) := by decide +kernel
theorem dL_law_732 : decode cL_law 732 = .ok (.aload_n 3, 1) := by decide +kernel
theorem dL_law_733 : decode cL_law 733 = .ok (.iconst 0, 1) := by decide +kernel
theorem dL_law_734 : decode cL_law 734 = .ok (.laload, 1) := by decide +kernel
theorem dL_law_735 : decode cL_law 735 = .ok (.iload 6, 2) := by decide +kernel
theorem dL_law_737 : decode cL_law 737 = .ok (.i2l, 1) := by decide +kernel
theorem dL_law_738 : decode cL_law 738 = .ok (.lcmp, 1) := by decide +kernel
theorem dL_law_739 : decode cL_law 739 = .ok (.ifCond .eq 5, 3) := by decide +kernel
theorem dL_law_742 : decode cL_law 742 = .ok (.iconst 0, 1) := by decide +kernel
theorem dL_law_743 : decode cL_law 743 = .ok (.ireturn, 1) := by decide +kernel
theorem dL_law_744 : decode cL_law 744 = .ok (.goto 450, 3) := by decide +kernel
theorem dL_law_747 : decode cL_law 747 = .ok (.aload_n 1, 1) := by decide +kernel
theorem dL_law_748 : decode cL_law 748 = .ok (.aload_n 0, 1) := by decide +kernel
theorem dL_law_749 : decode cL_law 749 = .ok (.iload 4, 2) := by decide +kernel
theorem dL_law_751 : decode cL_law 751 = .ok (.iconst 1, 1) := by decide +kernel
theorem dL_law_752 : decode cL_law 752 = .ok (.iadd, 1) := by decide +kernel
theorem dL_law_753 : decode cL_law 753 = .ok (.iaload, 1) := by decide +kernel
theorem dL_law_754 : decode cL_law 754 = .ok (.aload_n 3, 1) := by decide +kernel
theorem dL_law_755 : decode cL_law 755 = .ok (.invokestatic 115, 3) := by decide +kernel
theorem dL_law_758 : decode cL_law 758 = .ok (.istore 5, 2) := by decide +kernel
theorem dL_law_760 : decode cL_law 760 = .ok (.aload_n 2, 1) := by decide +kernel
theorem dL_law_761 : decode cL_law 761 = .ok (.aload_n 0, 1) := by decide +kernel
theorem dL_law_762 : decode cL_law 762 = .ok (.iload 4, 2) := by decide +kernel
theorem dL_law_764 : decode cL_law 764 = .ok (.iconst 1, 1) := by decide +kernel
theorem dL_law_765 : decode cL_law 765 = .ok (.iadd, 1) := by decide +kernel
theorem dL_law_766 : decode cL_law 766 = .ok (.iaload, 1) := by decide +kernel
theorem dL_law_767 : decode cL_law 767 = .ok (.invokevirtual 117, 3) := by decide +kernel
theorem dL_law_770 : decode cL_law 770 = .ok (.istore 6, 2) := by decide +kernel
theorem dL_law_772 : decode cL_law 772 = .ok (.aload_n 2, 1) := by decide +kernel
theorem dL_law_773 : decode cL_law 773 = .ok (.invokevirtual 81, 3) := by decide +kernel
theorem dL_law_776 : decode cL_law 776 = .ok (.iload 5, 2) := by decide +kernel
theorem dL_law_778 : decode cL_law 778 = .ok (.if_icmp .eq 5, 3) := by decide +kernel
theorem dL_law_781 : decode cL_law 781 = .ok (.iconst 0, 1) := by decide +kernel
theorem dL_law_782 : decode cL_law 782 = .ok (.ireturn, 1) := by decide +kernel
theorem dL_law_783 : decode cL_law 783 = .ok (.iload 5, 2) := by decide +kernel
theorem dL_law_785 : decode cL_law 785 = .ok (.ifCond .ne 15, 3) := by decide +kernel
theorem dL_law_788 : decode cL_law 788 = .ok (.aload_n 3, 1) := by decide +kernel
theorem dL_law_789 : decode cL_law 789 = .ok (.iconst 0, 1) := by decide +kernel
theorem dL_law_790 : decode cL_law 790 = .ok (.laload, 1) := by decide +kernel
theorem dL_law_791 : decode cL_law 791 = .ok (.iload 6, 2) := by decide +kernel
theorem dL_law_793 : decode cL_law 793 = .ok (.i2l, 1) := by decide +kernel
theorem dL_law_794 : decode cL_law 794 = .ok (.lcmp, 1) := by decide +kernel
theorem dL_law_795 : decode cL_law 795 = .ok (.ifCond .eq 5, 3) := by decide +kernel
theorem dL_law_798 : decode cL_law 798 = .ok (.iconst 0, 1) := by decide +kernel
theorem dL_law_799 : decode cL_law 799 = .ok (.ireturn, 1) := by decide +kernel
theorem dL_law_800 : decode cL_law 800 = .ok (.goto 394, 3) := by decide +kernel
theorem dL_law_803 : decode cL_law 803 = .ok (.aload_n 1, 1) := by decide +kernel
theorem dL_law_804 : decode cL_law 804 = .ok (.aload_n 0, 1) := by decide +kernel
theorem dL_law_805 : decode cL_law 805 = .ok (.iload 4, 2) := by decide +kernel
theorem dL_law_807 : decode cL_law 807 = .ok (.iconst 1, 1) := by decide +kernel
theorem dL_law_808 : decode cL_law 808 = .ok (.iadd, 1) := by decide +kernel
theorem dL_law_809 : decode cL_law 809 = .ok (.iaload, 1) := by decide +kernel
theorem dL_law_810 : decode cL_law 810 = .ok (.aload_n 3, 1) := by decide +kernel
theorem dL_law_811 : decode cL_law 811 = .ok (.invokestatic 118, 3) := by decide +kernel
theorem dL_law_814 : decode cL_law 814 = .ok (.istore 5, 2) := by decide +kernel
theorem dL_law_816 : decode cL_law 816 = .ok (.aload_n 2, 1) := by decide +kernel
theorem dL_law_817 : decode cL_law 817 = .ok (.aload_n 0, 1) := by decide +kernel
theorem dL_law_818 : decode cL_law 818 = .ok (.iload 4, 2) := by decide +kernel
theorem dL_law_820 : decode cL_law 820 = .ok (.iconst 1, 1) := by decide +kernel
theorem dL_law_821 : decode cL_law 821 = .ok (.iadd, 1) := by decide +kernel
theorem dL_law_822 : decode cL_law 822 = .ok (.iaload, 1) := by decide +kernel
theorem dL_law_823 : decode cL_law 823 = .ok (.invokevirtual 120, 3) := by decide +kernel
theorem dL_law_826 : decode cL_law 826 = .ok (.istore 6, 2) := by decide +kernel
theorem dL_law_828 : decode cL_law 828 = .ok (.aload_n 2, 1) := by decide +kernel
theorem dL_law_829 : decode cL_law 829 = .ok (.invokevirtual 81, 3) := by decide +kernel
theorem dL_law_832 : decode cL_law 832 = .ok (.iload 5, 2) := by decide +kernel
theorem dL_law_834 : decode cL_law 834 = .ok (.if_icmp .eq 5, 3) := by decide +kernel
theorem dL_law_837 : decode cL_law 837 = .ok (.iconst 0, 1) := by decide +kernel
theorem dL_law_838 : decode cL_law 838 = .ok (.ireturn, 1) := by decide +kernel
theorem dL_law_839 : decode cL_law 839 = .ok (.iload 5, 2) := by decide +kernel
theorem dL_law_841 : decode cL_law 841 = .ok (.ifCond .ne 15, 3) := by decide +kernel
theorem dL_law_844 : decode cL_law 844 = .ok (.aload_n 3, 1) := by decide +kernel
theorem dL_law_845 : decode cL_law 845 = .ok (.iconst 0, 1) := by decide +kernel
theorem dL_law_846 : decode cL_law 846 = .ok (.laload, 1) := by decide +kernel
theorem dL_law_847 : decode cL_law 847 = .ok (.iload 6, 2) := by decide +kernel
theorem dL_law_849 : decode cL_law 849 = .ok (.i2l, 1) := by decide +kernel
theorem dL_law_850 : decode cL_law 850 = .ok (.lcmp, 1) := by decide +kernel
theorem dL_law_851 : decode cL_law 851 = .ok (.ifCond .eq 5, 3) := by decide +kernel
theorem dL_law_854 : decode cL_law 854 = .ok (.iconst 0, 1) := by decide +kernel
theorem dL_law_855 : decode cL_law 855 = .ok (.ireturn, 1) := by decide +kernel
theorem dL_law_856 : decode cL_law 856 = .ok (.goto 338, 3) := by decide +kernel
theorem dL_law_859 : decode cL_law 859 = .ok (.aload_n 1, 1) := by decide +kernel
theorem dL_law_860 : decode cL_law 860 = .ok (.aload_n 0, 1) := by decide +kernel
theorem dL_law_861 : decode cL_law 861 = .ok (.iload 4, 2) := by decide +kernel
theorem dL_law_863 : decode cL_law 863 = .ok (.iconst 1, 1) := by decide +kernel
theorem dL_law_864 : decode cL_law 864 = .ok (.iadd, 1) := by decide +kernel
theorem dL_law_865 : decode cL_law 865 = .ok (.iaload, 1) := by decide +kernel
theorem dL_law_866 : decode cL_law 866 = .ok (.aload_n 0, 1) := by decide +kernel
theorem dL_law_867 : decode cL_law 867 = .ok (.iload 4, 2) := by decide +kernel
theorem dL_law_869 : decode cL_law 869 = .ok (.iconst 2, 1) := by decide +kernel
theorem dL_law_870 : decode cL_law 870 = .ok (.iadd, 1) := by decide +kernel
theorem dL_law_871 : decode cL_law 871 = .ok (.iaload, 1) := by decide +kernel
theorem dL_law_872 : decode cL_law 872 = .ok (.invokestatic 121, 3) := by decide +kernel
theorem dL_law_875 : decode cL_law 875 = .ok (.istore 5, 2) := by decide +kernel
theorem dL_law_877 : decode cL_law 877 = .ok (.aload_n 2, 1) := by decide +kernel
theorem dL_law_878 : decode cL_law 878 = .ok (.aload_n 0, 1) := by decide +kernel
theorem dL_law_879 : decode cL_law 879 = .ok (.iload 4, 2) := by decide +kernel
theorem dL_law_881 : decode cL_law 881 = .ok (.iconst 1, 1) := by decide +kernel
theorem dL_law_882 : decode cL_law 882 = .ok (.iadd, 1) := by decide +kernel
theorem dL_law_883 : decode cL_law 883 = .ok (.iaload, 1) := by decide +kernel
theorem dL_law_884 : decode cL_law 884 = .ok (.aload_n 0, 1) := by decide +kernel
theorem dL_law_885 : decode cL_law 885 = .ok (.iload 4, 2) := by decide +kernel
theorem dL_law_887 : decode cL_law 887 = .ok (.iconst 2, 1) := by decide +kernel
theorem dL_law_888 : decode cL_law 888 = .ok (.iadd, 1) := by decide +kernel
theorem dL_law_889 : decode cL_law 889 = .ok (.iaload, 1) := by decide +kernel
theorem dL_law_890 : decode cL_law 890 = .ok (.invokevirtual 124, 3) := by decide +kernel
theorem dL_law_893 : decode cL_law 893 = .ok (.aload_n 2, 1) := by decide +kernel
theorem dL_law_894 : decode cL_law 894 = .ok (.invokevirtual 81, 3) := by decide +kernel
theorem dL_law_897 : decode cL_law 897 = .ok (.iload 5, 2) := by decide +kernel
theorem dL_law_899 : decode cL_law 899 = .ok (.if_icmp .eq 5, 3) := by decide +kernel
theorem dL_law_902 : decode cL_law 902 = .ok (.iconst 0, 1) := by decide +kernel
theorem dL_law_903 : decode cL_law 903 = .ok (.ireturn, 1) := by decide +kernel
theorem dL_law_904 : decode cL_law 904 = .ok (.goto 290, 3) := by decide +kernel
theorem dL_law_907 : decode cL_law 907 = .ok (.aload_n 1, 1) := by decide +kernel
theorem dL_law_908 : decode cL_law 908 = .ok (.aload_n 0, 1) := by decide +kernel
theorem dL_law_909 : decode cL_law 909 = .ok (.iload 4, 2) := by decide +kernel
theorem dL_law_911 : decode cL_law 911 = .ok (.iconst 1, 1) := by decide +kernel
theorem dL_law_912 : decode cL_law 912 = .ok (.iadd, 1) := by decide +kernel
theorem dL_law_913 : decode cL_law 913 = .ok (.iaload, 1) := by decide +kernel
theorem dL_law_914 : decode cL_law 914 = .ok (.aload_n 3, 1) := by decide +kernel
theorem dL_law_915 : decode cL_law 915 = .ok (.invokestatic 125, 3) := by decide +kernel
theorem dL_law_918 : decode cL_law 918 = .ok (.istore 5, 2) := by decide +kernel
theorem dL_law_920 : decode cL_law 920 = .ok (.aload_n 2, 1) := by decide +kernel
theorem dL_law_921 : decode cL_law 921 = .ok (.aload_n 0, 1) := by decide +kernel
theorem dL_law_922 : decode cL_law 922 = .ok (.iload 4, 2) := by decide +kernel
theorem dL_law_924 : decode cL_law 924 = .ok (.iconst 1, 1) := by decide +kernel
theorem dL_law_925 : decode cL_law 925 = .ok (.iadd, 1) := by decide +kernel
theorem dL_law_926 : decode cL_law 926 = .ok (.iaload, 1) := by decide +kernel
theorem dL_law_927 : decode cL_law 927 = .ok (.invokevirtual 127, 3) := by decide +kernel
theorem dL_law_930 : decode cL_law 930 = .ok (.istore 6, 2) := by decide +kernel
theorem dL_law_932 : decode cL_law 932 = .ok (.aload_n 2, 1) := by decide +kernel
theorem dL_law_933 : decode cL_law 933 = .ok (.invokevirtual 81, 3) := by decide +kernel
theorem dL_law_936 : decode cL_law 936 = .ok (.iload 5, 2) := by decide +kernel
theorem dL_law_938 : decode cL_law 938 = .ok (.if_icmp .eq 5, 3) := by decide +kernel
theorem dL_law_941 : decode cL_law 941 = .ok (.iconst 0, 1) := by decide +kernel
theorem dL_law_942 : decode cL_law 942 = .ok (.ireturn, 1) := by decide +kernel
theorem dL_law_943 : decode cL_law 943 = .ok (.iload 5, 2) := by decide +kernel
theorem dL_law_945 : decode cL_law 945 = .ok (.ifCond .ne 15, 3) := by decide +kernel
theorem dL_law_948 : decode cL_law 948 = .ok (.aload_n 3, 1) := by decide +kernel
theorem dL_law_949 : decode cL_law 949 = .ok (.iconst 0, 1) := by decide +kernel
theorem dL_law_950 : decode cL_law 950 = .ok (.laload, 1) := by decide +kernel
theorem dL_law_951 : decode cL_law 951 = .ok (.iload 6, 2) := by decide +kernel
theorem dL_law_953 : decode cL_law 953 = .ok (.i2l, 1) := by decide +kernel
theorem dL_law_954 : decode cL_law 954 = .ok (.lcmp, 1) := by decide +kernel
theorem dL_law_955 : decode cL_law 955 = .ok (.ifCond .eq 5, 3) := by decide +kernel
theorem dL_law_958 : decode cL_law 958 = .ok (.iconst 0, 1) := by decide +kernel
theorem dL_law_959 : decode cL_law 959 = .ok (.ireturn, 1) := by decide +kernel
theorem dL_law_960 : decode cL_law 960 = .ok (.goto 234, 3) := by decide +kernel
theorem dL_law_963 : decode cL_law 963 = .ok (.aload_n 1, 1) := by decide +kernel
theorem dL_law_964 : decode cL_law 964 = .ok (.invokestatic 128, 3) := by decide +kernel
theorem dL_law_967 : decode cL_law 967 = .ok (.istore 5, 2) := by decide +kernel
theorem dL_law_969 : decode cL_law 969 = .ok (.aload_n 2, 1) := by decide +kernel
theorem dL_law_970 : decode cL_law 970 = .ok (.invokevirtual 131, 3) := by decide +kernel
theorem dL_law_973 : decode cL_law 973 = .ok (.aload_n 2, 1) := by decide +kernel
theorem dL_law_974 : decode cL_law 974 = .ok (.invokevirtual 81, 3) := by decide +kernel
theorem dL_law_977 : decode cL_law 977 = .ok (.iload 5, 2) := by decide +kernel
theorem dL_law_979 : decode cL_law 979 = .ok (.if_icmp .eq 5, 3) := by decide +kernel
theorem dL_law_982 : decode cL_law 982 = .ok (.iconst 0, 1) := by decide +kernel
theorem dL_law_983 : decode cL_law 983 = .ok (.ireturn, 1) := by decide +kernel
theorem dL_law_984 : decode cL_law 984 = .ok (.goto 210, 3) := by decide +kernel
theorem dL_law_987 : decode cL_law 987 = .ok (.aload_n 1, 1) := by decide +kernel
theorem dL_law_988 : decode cL_law 988 = .ok (.aload_n 0, 1) := by decide +kernel
theorem dL_law_989 : decode cL_law 989 = .ok (.iload 4, 2) := by decide +kernel
theorem dL_law_991 : decode cL_law 991 = .ok (.iconst 1, 1) := by decide +kernel
theorem dL_law_992 : decode cL_law 992 = .ok (.iadd, 1) := by decide +kernel
theorem dL_law_993 : decode cL_law 993 = .ok (.iaload, 1) := by decide +kernel
theorem dL_law_994 : decode cL_law 994 = .ok (.aload_n 3, 1) := by decide +kernel
theorem dL_law_995 : decode cL_law 995 = .ok (.invokestatic 132, 3) := by decide +kernel
theorem dL_law_998 : decode cL_law 998 = .ok (.istore 5, 2) := by decide +kernel
theorem dL_law_1000 : decode cL_law 1000 = .ok (.aload_n 2, 1) := by decide +kernel
theorem dL_law_1001 : decode cL_law 1001 = .ok (.aload_n 0, 1) := by decide +kernel
theorem dL_law_1002 : decode cL_law 1002 = .ok (.iload 4, 2) := by decide +kernel
theorem dL_law_1004 : decode cL_law 1004 = .ok (.iconst 1, 1) := by decide +kernel
theorem dL_law_1005 : decode cL_law 1005 = .ok (.iadd, 1) := by decide +kernel
theorem dL_law_1006 : decode cL_law 1006 = .ok (.iaload, 1) := by decide +kernel
theorem dL_law_1007 : decode cL_law 1007 = .ok (.invokevirtual 134, 3) := by decide +kernel
theorem dL_law_1010 : decode cL_law 1010 = .ok (.istore 6, 2) := by decide +kernel
theorem dL_law_1012 : decode cL_law 1012 = .ok (.aload_n 2, 1) := by decide +kernel
theorem dL_law_1013 : decode cL_law 1013 = .ok (.invokevirtual 81, 3) := by decide +kernel
theorem dL_law_1016 : decode cL_law 1016 = .ok (.iload 5, 2) := by decide +kernel
theorem dL_law_1018 : decode cL_law 1018 = .ok (.if_icmp .eq 5, 3) := by decide +kernel
theorem dL_law_1021 : decode cL_law 1021 = .ok (.iconst 0, 1) := by decide +kernel
theorem dL_law_1022 : decode cL_law 1022 = .ok (.ireturn, 1) := by decide +kernel
theorem dL_law_1023 : decode cL_law 1023 = .ok (.iload 5, 2) := by decide +kernel
theorem dL_law_1025 : decode cL_law 1025 = .ok (.ifCond .ne 15, 3) := by decide +kernel
theorem dL_law_1028 : decode cL_law 1028 = .ok (.aload_n 3, 1) := by decide +kernel
theorem dL_law_1029 : decode cL_law 1029 = .ok (.iconst 0, 1) := by decide +kernel
theorem dL_law_1030 : decode cL_law 1030 = .ok (.laload, 1) := by decide +kernel
theorem dL_law_1031 : decode cL_law 1031 = .ok (.iload 6, 2) := by decide +kernel
theorem dL_law_1033 : decode cL_law 1033 = .ok (.i2l, 1) := by decide +kernel
theorem dL_law_1034 : decode cL_law 1034 = .ok (.lcmp, 1) := by decide +kernel
theorem dL_law_1035 : decode cL_law 1035 = .ok (.ifCond .eq 5, 3) := by decide +kernel
theorem dL_law_1038 : decode cL_law 1038 = .ok (.iconst 0, 1) := by decide +kernel
theorem dL_law_1039 : decode cL_law 1039 = .ok (.ireturn, 1) := by decide +kernel
theorem dL_law_1040 : decode cL_law 1040 = .ok (.goto 154, 3) := by decide +kernel
theorem dL_law_1043 : decode cL_law 1043 = .ok (.aload_n 1, 1) := by decide +kernel
theorem dL_law_1044 : decode cL_law 1044 = .ok (.invokevirtual 135, 3) := by decide +kernel
theorem dL_law_1047 : decode cL_law 1047 = .ok (.aload_n 2, 1) := by decide +kernel
theorem dL_law_1048 : decode cL_law 1048 = .ok (.invokevirtual 138, 3) := by decide +kernel
theorem dL_law_1051 : decode cL_law 1051 = .ok (.if_icmp .eq 143, 3) := by decide +kernel
theorem dL_law_1054 : decode cL_law 1054 = .ok (.iconst 0, 1) := by decide +kernel
theorem dL_law_1055 : decode cL_law 1055 = .ok (.ireturn, 1) := by decide +kernel
theorem dL_law_1056 : decode cL_law 1056 = .ok (.aload_n 1, 1) := by decide +kernel
theorem dL_law_1057 : decode cL_law 1057 = .ok (.invokevirtual 139, 3) := by decide +kernel
theorem dL_law_1060 : decode cL_law 1060 = .ok (.aload_n 2, 1) := by decide +kernel
theorem dL_law_1061 : decode cL_law 1061 = .ok (.invokevirtual 142, 3) := by decide +kernel
theorem dL_law_1064 : decode cL_law 1064 = .ok (.if_icmp .eq 130, 3) := by decide +kernel
theorem dL_law_1067 : decode cL_law 1067 = .ok (.iconst 0, 1) := by decide +kernel
theorem dL_law_1068 : decode cL_law 1068 = .ok (.ireturn, 1) := by decide +kernel
theorem dL_law_1069 : decode cL_law 1069 = .ok (.aload_n 1, 1) := by decide +kernel
theorem dL_law_1070 : decode cL_law 1070 = .ok (.aload_n 0, 1) := by decide +kernel
theorem dL_law_1071 : decode cL_law 1071 = .ok (.iload 4, 2) := by decide +kernel
theorem dL_law_1073 : decode cL_law 1073 = .ok (.iconst 1, 1) := by decide +kernel
theorem dL_law_1074 : decode cL_law 1074 = .ok (.iadd, 1) := by decide +kernel
theorem dL_law_1075 : decode cL_law 1075 = .ok (.iaload, 1) := by decide +kernel
theorem dL_law_1076 : decode cL_law 1076 = .ok (.aload_n 3, 1) := by decide +kernel
theorem dL_law_1077 : decode cL_law 1077 = .ok (.invokestatic 143, 3) := by decide +kernel
theorem dL_law_1080 : decode cL_law 1080 = .ok (.istore 5, 2) := by decide +kernel
theorem dL_law_1082 : decode cL_law 1082 = .ok (.aload_n 2, 1) := by decide +kernel
theorem dL_law_1083 : decode cL_law 1083 = .ok (.aload_n 0, 1) := by decide +kernel
theorem dL_law_1084 : decode cL_law 1084 = .ok (.iload 4, 2) := by decide +kernel
theorem dL_law_1086 : decode cL_law 1086 = .ok (.iconst 1, 1) := by decide +kernel
theorem dL_law_1087 : decode cL_law 1087 = .ok (.iadd, 1) := by decide +kernel
theorem dL_law_1088 : decode cL_law 1088 = .ok (.iaload, 1) := by decide +kernel
theorem dL_law_1089 : decode cL_law 1089 = .ok (.invokevirtual 145, 3) := by decide +kernel
theorem dL_law_1092 : decode cL_law 1092 = .ok (.istore 6, 2) := by decide +kernel
theorem dL_law_1094 : decode cL_law 1094 = .ok (.aload_n 2, 1) := by decide +kernel
theorem dL_law_1095 : decode cL_law 1095 = .ok (.invokevirtual 81, 3) := by decide +kernel
theorem dL_law_1098 : decode cL_law 1098 = .ok (.iload 5, 2) := by decide +kernel
theorem dL_law_1100 : decode cL_law 1100 = .ok (.if_icmp .eq 5, 3) := by decide +kernel
theorem dL_law_1103 : decode cL_law 1103 = .ok (.iconst 0, 1) := by decide +kernel
theorem dL_law_1104 : decode cL_law 1104 = .ok (.ireturn, 1) := by decide +kernel
theorem dL_law_1105 : decode cL_law 1105 = .ok (.iload 5, 2) := by decide +kernel
theorem dL_law_1107 : decode cL_law 1107 = .ok (.ifCond .ne 15, 3) := by decide +kernel
theorem dL_law_1110 : decode cL_law 1110 = .ok (.aload_n 3, 1) := by decide +kernel
theorem dL_law_1111 : decode cL_law 1111 = .ok (.iconst 0, 1) := by decide +kernel
theorem dL_law_1112 : decode cL_law 1112 = .ok (.laload, 1) := by decide +kernel
theorem dL_law_1113 : decode cL_law 1113 = .ok (.iload 6, 2) := by decide +kernel
theorem dL_law_1115 : decode cL_law 1115 = .ok (.i2l, 1) := by decide +kernel
theorem dL_law_1116 : decode cL_law 1116 = .ok (.lcmp, 1) := by decide +kernel
theorem dL_law_1117 : decode cL_law 1117 = .ok (.ifCond .eq 5, 3) := by decide +kernel
theorem dL_law_1120 : decode cL_law 1120 = .ok (.iconst 0, 1) := by decide +kernel
theorem dL_law_1121 : decode cL_law 1121 = .ok (.ireturn, 1) := by decide +kernel
theorem dL_law_1122 : decode cL_law 1122 = .ok (.goto 72, 3) := by decide +kernel
theorem dL_law_1125 : decode cL_law 1125 = .ok (.aload_n 1, 1) := by decide +kernel
theorem dL_law_1126 : decode cL_law 1126 = .ok (.invokevirtual 146, 3) := by decide +kernel
theorem dL_law_1129 : decode cL_law 1129 = .ok (.aload_n 2, 1) := by decide +kernel
theorem dL_law_1130 : decode cL_law 1130 = .ok (.invokevirtual 149, 3) := by decide +kernel
theorem dL_law_1133 : decode cL_law 1133 = .ok (.if_icmp .eq 61, 3) := by decide +kernel
theorem dL_law_1136 : decode cL_law 1136 = .ok (.iconst 0, 1) := by decide +kernel
theorem dL_law_1137 : decode cL_law 1137 = .ok (.ireturn, 1) := by decide +kernel
theorem dL_law_1138 : decode cL_law 1138 = .ok (.aload_n 1, 1) := by decide +kernel
theorem dL_law_1139 : decode cL_law 1139 = .ok (.aload_n 0, 1) := by decide +kernel
theorem dL_law_1140 : decode cL_law 1140 = .ok (.iload 4, 2) := by decide +kernel
theorem dL_law_1142 : decode cL_law 1142 = .ok (.iconst 1, 1) := by decide +kernel
theorem dL_law_1143 : decode cL_law 1143 = .ok (.iadd, 1) := by decide +kernel
theorem dL_law_1144 : decode cL_law 1144 = .ok (.iaload, 1) := by decide +kernel
theorem dL_law_1145 : decode cL_law 1145 = .ok (.aload_n 3, 1) := by decide +kernel
theorem dL_law_1146 : decode cL_law 1146 = .ok (.invokestatic 150, 3) := by decide +kernel
theorem dL_law_1149 : decode cL_law 1149 = .ok (.istore 5, 2) := by decide +kernel
theorem dL_law_1151 : decode cL_law 1151 = .ok (.aload_n 2, 1) := by decide +kernel
theorem dL_law_1152 : decode cL_law 1152 = .ok (.aload_n 0, 1) := by decide +kernel
theorem dL_law_1153 : decode cL_law 1153 = .ok (.iload 4, 2) := by decide +kernel
theorem dL_law_1155 : decode cL_law 1155 = .ok (.iconst 1, 1) := by decide +kernel
theorem dL_law_1156 : decode cL_law 1156 = .ok (.iadd, 1) := by decide +kernel
theorem dL_law_1157 : decode cL_law 1157 = .ok (.iaload, 1) := by decide +kernel
theorem dL_law_1158 : decode cL_law 1158 = .ok (.invokevirtual 152, 3) := by decide +kernel
theorem dL_law_1161 : decode cL_law 1161 = .ok (.istore 6, 2) := by decide +kernel
theorem dL_law_1163 : decode cL_law 1163 = .ok (.aload_n 2, 1) := by decide +kernel
theorem dL_law_1164 : decode cL_law 1164 = .ok (.invokevirtual 81, 3) := by decide +kernel
theorem dL_law_1167 : decode cL_law 1167 = .ok (.iload 5, 2) := by decide +kernel
theorem dL_law_1169 : decode cL_law 1169 = .ok (.if_icmp .eq 5, 3) := by decide +kernel
theorem dL_law_1172 : decode cL_law 1172 = .ok (.iconst 0, 1) := by decide +kernel
theorem dL_law_1173 : decode cL_law 1173 = .ok (.ireturn, 1) := by decide +kernel
theorem dL_law_1174 : decode cL_law 1174 = .ok (.iload 5, 2) := by decide +kernel
theorem dL_law_1176 : decode cL_law 1176 = .ok (.ifCond .ne 15, 3) := by decide +kernel
theorem dL_law_1179 : decode cL_law 1179 = .ok (.aload_n 3, 1) := by decide +kernel
theorem dL_law_1180 : decode cL_law 1180 = .ok (.iconst 0, 1) := by decide +kernel
theorem dL_law_1181 : decode cL_law 1181 = .ok (.laload, 1) := by decide +kernel
theorem dL_law_1182 : decode cL_law 1182 = .ok (.iload 6, 2) := by decide +kernel
theorem dL_law_1184 : decode cL_law 1184 = .ok (.i2l, 1) := by decide +kernel
theorem dL_law_1185 : decode cL_law 1185 = .ok (.lcmp, 1) := by decide +kernel
theorem dL_law_1186 : decode cL_law 1186 = .ok (.ifCond .eq 5, 3) := by decide +kernel
theorem dL_law_1189 : decode cL_law 1189 = .ok (.iconst 0, 1) := by decide +kernel
theorem dL_law_1190 : decode cL_law 1190 = .ok (.ireturn, 1) := by decide +kernel
theorem dL_law_1191 : decode cL_law 1191 = .ok (.goto 3, 3) := by decide +kernel
theorem dL_law_1194 : decode cL_law 1194 = .ok (.iinc 4 5, 3) := by decide +kernel
theorem dL_law_1197 : decode cL_law 1197 = .ok (.goto (-1174), 3) := by decide +kernel
theorem dL_law_1200 : decode cL_law 1200 = .ok (.iconst 1, 1) := by decide +kernel
theorem dL_law_1201 : decode cL_law 1201 = .ok (.ireturn, 1) := by decide +kernel
end
section
theorem dX0_init_0 : decode cX0_init 0 = .ok (.aload_n 0, 1) := by decide +kernel
theorem dX0_init_1 : decode cX0_init 1 = .ok (.invokespecial 5, 3) := by decide +kernel
theorem dX0_init_4 : decode cX0_init 4 = .ok (.aload_n 0, 1) := by decide +kernel
theorem dX0_init_5 : decode cX0_init 5 = .ok (.sipush 388, 3) := by decide +kernel
theorem dX0_init_8 : decode cX0_init 8 = .ok (.newarray .int, 2) := by decide +kernel
theorem dX0_init_10 : decode cX0_init 10 = .ok (.putfield 11, 3) := by decide +kernel
theorem dX0_init_13 : decode cX0_init 13 = .ok (.aload_n 0, 1) := by decide +kernel
theorem dX0_init_14 : decode cX0_init 14 = .ok (.bipush 49, 2) := by decide +kernel
theorem dX0_init_16 : decode cX0_init 16 = .ok (.newarray .int, 2) := by decide +kernel
theorem dX0_init_18 : decode cX0_init 18 = .ok (.putfield 15, 3) := by decide +kernel
theorem dX0_init_21 : decode cX0_init 21 = .ok (.aload_n 0, 1) := by decide +kernel
theorem dX0_init_22 : decode cX0_init 22 = .ok (.bipush 48, 2) := by decide +kernel
theorem dX0_init_24 : decode cX0_init 24 = .ok (.newarray .boolean, 2) := by decide +kernel
theorem dX0_init_26 : decode cX0_init 26 = .ok (.putfield 18, 3) := by decide +kernel
theorem dX0_init_29 : decode cX0_init 29 = .ok (.aload_n 0, 1) := by decide +kernel
theorem dX0_init_30 : decode cX0_init 30 = .ok (.bipush 49, 2) := by decide +kernel
theorem dX0_init_32 : decode cX0_init 32 = .ok (.newarray .int, 2) := by decide +kernel
theorem dX0_init_34 : decode cX0_init 34 = .ok (.putfield 22, 3) := by decide +kernel
theorem dX0_init_37 : decode cX0_init 37 = .ok (.aload_n 0, 1) := by decide +kernel
theorem dX0_init_38 : decode cX0_init 38 = .ok (.aload_n 1, 1) := by decide +kernel
theorem dX0_init_39 : decode cX0_init 39 = .ok (.putfield 25, 3) := by decide +kernel
theorem dX0_init_42 : decode cX0_init 42 = .ok (.return_, 1) := by decide +kernel
theorem dX0_make_0 : decode cX0_make 0 = .ok (.iconst 0, 1) := by decide +kernel
theorem dX0_make_1 : decode cX0_make 1 = .ok (.istore_n 1, 1) := by decide +kernel
theorem dX0_make_2 : decode cX0_make 2 = .ok (.iload_n 1, 1) := by decide +kernel
theorem dX0_make_3 : decode cX0_make 3 = .ok (.bipush 48, 2) := by decide +kernel
theorem dX0_make_5 : decode cX0_make 5 = .ok (.if_icmp .ge 16, 3) := by decide +kernel
theorem dX0_make_8 : decode cX0_make 8 = .ok (.aload_n 0, 1) := by decide +kernel
theorem dX0_make_9 : decode cX0_make 9 = .ok (.getfield 18, 3) := by decide +kernel
theorem dX0_make_12 : decode cX0_make 12 = .ok (.iload_n 1, 1) := by decide +kernel
theorem dX0_make_13 : decode cX0_make 13 = .ok (.iconst 0, 1) := by decide +kernel
theorem dX0_make_14 : decode cX0_make 14 = .ok (.bastore, 1) := by decide +kernel
theorem dX0_make_15 : decode cX0_make 15 = .ok (.iinc 1 1, 3) := by decide +kernel
theorem dX0_make_18 : decode cX0_make 18 = .ok (.goto (-16), 3) := by decide +kernel
theorem dX0_make_21 : decode cX0_make 21 = .ok (.iconst 0, 1) := by decide +kernel
theorem dX0_make_22 : decode cX0_make 22 = .ok (.istore_n 1, 1) := by decide +kernel
theorem dX0_make_23 : decode cX0_make 23 = .ok (.iload_n 1, 1) := by decide +kernel
theorem dX0_make_24 : decode cX0_make 24 = .ok (.bipush 48, 2) := by decide +kernel
theorem dX0_make_26 : decode cX0_make 26 = .ok (.if_icmp .gt 23, 3) := by decide +kernel
theorem dX0_make_29 : decode cX0_make 29 = .ok (.aload_n 0, 1) := by decide +kernel
theorem dX0_make_30 : decode cX0_make 30 = .ok (.invokevirtual 29, 3) := by decide +kernel
theorem dX0_make_33 : decode cX0_make 33 = .ok (.aload_n 0, 1) := by decide +kernel
theorem dX0_make_34 : decode cX0_make 34 = .ok (.invokevirtual 32, 3) := by decide +kernel
theorem dX0_make_37 : decode cX0_make 37 = .ok (.ifCond .ne 6, 3) := by decide +kernel
theorem dX0_make_40 : decode cX0_make 40 = .ok (.goto 9, 3) := by decide +kernel
theorem dX0_make_43 : decode cX0_make 43 = .ok (.iinc 1 1, 3) := by decide +kernel
theorem dX0_make_46 : decode cX0_make 46 = .ok (.goto (-23), 3) := by decide +kernel
theorem dX0_make_49 : decode cX0_make 49 = .ok (.aload_n 0, 1) := by decide +kernel
theorem dX0_make_50 : decode cX0_make 50 = .ok (.invokevirtual 29, 3) := by decide +kernel
theorem dX0_make_53 : decode cX0_make 53 = .ok (.aload_n 0, 1) := by decide +kernel
theorem dX0_make_54 : decode cX0_make 54 = .ok (.invokevirtual 36, 3) := by decide +kernel
theorem dX0_make_57 : decode cX0_make 57 = .ok (.aload_n 0, 1) := by decide +kernel
theorem dX0_make_58 : decode cX0_make 58 = .ok (.iconst 1, 1) := by decide +kernel
theorem dX0_make_59 : decode cX0_make 59 = .ok (.putfield 39, 3) := by decide +kernel
theorem dX0_make_62 : decode cX0_make 62 = .ok (.return_, 1) := by decide +kernel
theorem dX0_lengthOf_0 : decode cX0_lengthOf 0 = .ok (.aload_n 0, 1) := by decide +kernel
theorem dX0_lengthOf_1 : decode cX0_lengthOf 1 = .ok (.getfield 15, 3) := by decide +kernel
theorem dX0_lengthOf_4 : decode cX0_lengthOf 4 = .ok (.iload_n 1, 1) := by decide +kernel
theorem dX0_lengthOf_5 : decode cX0_lengthOf 5 = .ok (.iconst 1, 1) := by decide +kernel
theorem dX0_lengthOf_6 : decode cX0_lengthOf 6 = .ok (.iadd, 1) := by decide +kernel
theorem dX0_lengthOf_7 : decode cX0_lengthOf 7 = .ok (.iaload, 1) := by decide +kernel
theorem dX0_lengthOf_8 : decode cX0_lengthOf 8 = .ok (.aload_n 0, 1) := by decide +kernel
theorem dX0_lengthOf_9 : decode cX0_lengthOf 9 = .ok (.getfield 15, 3) := by decide +kernel
theorem dX0_lengthOf_12 : decode cX0_lengthOf 12 = .ok (.iload_n 1, 1) := by decide +kernel
theorem dX0_lengthOf_13 : decode cX0_lengthOf 13 = .ok (.iaload, 1) := by decide +kernel
theorem dX0_lengthOf_14 : decode cX0_lengthOf 14 = .ok (.isub, 1) := by decide +kernel
theorem dX0_lengthOf_15 : decode cX0_lengthOf 15 = .ok (.ireturn, 1) := by decide +kernel
theorem dX0_lengthenBranches_0 : decode cX0_lengthenBranches 0 = .ok (.iconst 0, 1) := by decide +kernel
theorem dX0_lengthenBranches_1 : decode cX0_lengthenBranches 1 = .ok (.istore_n 1, 1) := by decide +kernel
theorem dX0_lengthenBranches_2 : decode cX0_lengthenBranches 2 = .ok (.iconst 0, 1) := by decide +kernel
theorem dX0_lengthenBranches_3 : decode cX0_lengthenBranches 3 = .ok (.istore_n 2, 1) := by decide +kernel
theorem dX0_lengthenBranches_4 : decode cX0_lengthenBranches 4 = .ok (.iload_n 2, 1) := by decide +kernel
theorem dX0_lengthenBranches_5 : decode cX0_lengthenBranches 5 = .ok (.aload_n 0, 1) := by decide +kernel
theorem dX0_lengthenBranches_6 : decode cX0_lengthenBranches 6 = .ok (.getfield 25, 3) := by decide +kernel
theorem dX0_lengthenBranches_9 : decode cX0_lengthenBranches 9 = .ok (.getfield 43, 3) := by decide +kernel
theorem dX0_lengthenBranches_12 : decode cX0_lengthenBranches 12 = .ok (.if_icmp .ge 48, 3) := by decide +kernel
theorem dX0_lengthenBranches_15 : decode cX0_lengthenBranches 15 = .ok (.aload_n 0, 1) := by decide +kernel
theorem dX0_lengthenBranches_16 : decode cX0_lengthenBranches 16 = .ok (.getfield 25, 3) := by decide +kernel
theorem dX0_lengthenBranches_19 : decode cX0_lengthenBranches 19 = .ok (.getfield 49, 3) := by decide +kernel
theorem dX0_lengthenBranches_22 : decode cX0_lengthenBranches 22 = .ok (.iload_n 2, 1) := by decide +kernel
theorem dX0_lengthenBranches_23 : decode cX0_lengthenBranches 23 = .ok (.iaload, 1) := by decide +kernel
theorem dX0_lengthenBranches_24 : decode cX0_lengthenBranches 24 = .ok (.iconst 5, 1) := by decide +kernel
theorem dX0_lengthenBranches_25 : decode cX0_lengthenBranches 25 = .ok (.if_icmp .ne 29, 3) := by decide +kernel
theorem dX0_lengthenBranches_28 : decode cX0_lengthenBranches 28 = .ok (.aload_n 0, 1) := by decide +kernel
theorem dX0_lengthenBranches_29 : decode cX0_lengthenBranches 29 = .ok (.getfield 18, 3) := by decide +kernel
theorem dX0_lengthenBranches_32 : decode cX0_lengthenBranches 32 = .ok (.iload_n 2, 1) := by decide +kernel
theorem dX0_lengthenBranches_33 : decode cX0_lengthenBranches 33 = .ok (.baload, 1) := by decide +kernel
theorem dX0_lengthenBranches_34 : decode cX0_lengthenBranches 34 = .ok (.ifCond .ne 20, 3) := by decide +kernel
theorem dX0_lengthenBranches_37 : decode cX0_lengthenBranches 37 = .ok (.aload_n 0, 1) := by decide +kernel
theorem dX0_lengthenBranches_38 : decode cX0_lengthenBranches 38 = .ok (.iload_n 2, 1) := by decide +kernel
theorem dX0_lengthenBranches_39 : decode cX0_lengthenBranches 39 = .ok (.invokevirtual 52, 3) := by decide +kernel
theorem dX0_lengthenBranches_42 : decode cX0_lengthenBranches 42 = .ok (.ifCond .ne 12, 3) := by decide +kernel
theorem dX0_lengthenBranches_45 : decode cX0_lengthenBranches 45 = .ok (.aload_n 0, 1) := by decide +kernel
theorem dX0_lengthenBranches_46 : decode cX0_lengthenBranches 46 = .ok (.getfield 18, 3) := by decide +kernel
theorem dX0_lengthenBranches_49 : decode cX0_lengthenBranches 49 = .ok (.iload_n 2, 1) := by decide +kernel
theorem dX0_lengthenBranches_50 : decode cX0_lengthenBranches 50 = .ok (.iconst 1, 1) := by decide +kernel
theorem dX0_lengthenBranches_51 : decode cX0_lengthenBranches 51 = .ok (.bastore, 1) := by decide +kernel
theorem dX0_lengthenBranches_52 : decode cX0_lengthenBranches 52 = .ok (.iconst 1, 1) := by decide +kernel
theorem dX0_lengthenBranches_53 : decode cX0_lengthenBranches 53 = .ok (.istore_n 1, 1) := by decide +kernel
theorem dX0_lengthenBranches_54 : decode cX0_lengthenBranches 54 = .ok (.iinc 2 1, 3) := by decide +kernel
theorem dX0_lengthenBranches_57 : decode cX0_lengthenBranches 57 = .ok (.goto (-53), 3) := by decide +kernel
theorem dX0_lengthenBranches_60 : decode cX0_lengthenBranches 60 = .ok (.iload_n 1, 1) := by decide +kernel
theorem dX0_lengthenBranches_61 : decode cX0_lengthenBranches 61 = .ok (.ireturn, 1) := by decide +kernel
theorem dX0_reaches_0 : decode cX0_reaches 0 = .ok (.aload_n 0, 1) := by decide +kernel
theorem dX0_reaches_1 : decode cX0_reaches 1 = .ok (.aload_n 0, 1) := by decide +kernel
theorem dX0_reaches_2 : decode cX0_reaches 2 = .ok (.getfield 15, 3) := by decide +kernel
theorem dX0_reaches_5 : decode cX0_reaches 5 = .ok (.iload_n 1, 1) := by decide +kernel
theorem dX0_reaches_6 : decode cX0_reaches 6 = .ok (.iconst 1, 1) := by decide +kernel
theorem dX0_reaches_7 : decode cX0_reaches 7 = .ok (.iadd, 1) := by decide +kernel
theorem dX0_reaches_8 : decode cX0_reaches 8 = .ok (.iaload, 1) := by decide +kernel
theorem dX0_reaches_9 : decode cX0_reaches 9 = .ok (.iconst 1, 1) := by decide +kernel
theorem dX0_reaches_10 : decode cX0_reaches 10 = .ok (.isub, 1) := by decide +kernel
theorem dX0_reaches_11 : decode cX0_reaches 11 = .ok (.aload_n 0, 1) := by decide +kernel
theorem dX0_reaches_12 : decode cX0_reaches 12 = .ok (.getfield 25, 3) := by decide +kernel
theorem dX0_reaches_15 : decode cX0_reaches 15 = .ok (.getfield 56, 3) := by decide +kernel
theorem dX0_reaches_18 : decode cX0_reaches 18 = .ok (.iload_n 1, 1) := by decide +kernel
theorem dX0_reaches_19 : decode cX0_reaches 19 = .ok (.iaload, 1) := by decide +kernel
theorem dX0_reaches_20 : decode cX0_reaches 20 = .ok (.invokevirtual 59, 3) := by decide +kernel
theorem dX0_reaches_23 : decode cX0_reaches 23 = .ok (.istore_n 2, 1) := by decide +kernel
theorem dX0_reaches_24 : decode cX0_reaches 24 = .ok (.iload_n 2, 1) := by decide +kernel
theorem dX0_reaches_25 : decode cX0_reaches 25 = .ok (.bipush (-128), 2) := by decide +kernel
theorem dX0_reaches_27 : decode cX0_reaches 27 = .ok (.if_icmp .lt 13, 3) := by decide +kernel
theorem dX0_reaches_30 : decode cX0_reaches 30 = .ok (.iload_n 2, 1) := by decide +kernel
theorem dX0_reaches_31 : decode cX0_reaches 31 = .ok (.bipush 127, 2) := by decide +kernel
theorem dX0_reaches_33 : decode cX0_reaches 33 = .ok (.if_icmp .gt 7, 3) := by decide +kernel
theorem dX0_reaches_36 : decode cX0_reaches 36 = .ok (.iconst 1, 1) := by decide +kernel
theorem dX0_reaches_37 : decode cX0_reaches 37 = .ok (.goto 4, 3) := by decide +kernel
theorem dX0_reaches_40 : decode cX0_reaches 40 = .ok (.iconst 0, 1) := by decide +kernel
theorem dX0_reaches_41 : decode cX0_reaches 41 = .ok (.ireturn, 1) := by decide +kernel
theorem dX0_distance_0 : decode cX0_distance 0 = .ok (.aload_n 0, 1) := by decide +kernel
theorem dX0_distance_1 : decode cX0_distance 1 = .ok (.getfield 15, 3) := by decide +kernel
theorem dX0_distance_4 : decode cX0_distance 4 = .ok (.iload_n 2, 1) := by decide +kernel
theorem dX0_distance_5 : decode cX0_distance 5 = .ok (.iaload, 1) := by decide +kernel
theorem dX0_distance_6 : decode cX0_distance 6 = .ok (.iload_n 1, 1) := by decide +kernel
theorem dX0_distance_7 : decode cX0_distance 7 = .ok (.isub, 1) := by decide +kernel
theorem dX0_distance_8 : decode cX0_distance 8 = .ok (.iconst 2, 1) := by decide +kernel
theorem dX0_distance_9 : decode cX0_distance 9 = .ok (.isub, 1) := by decide +kernel
theorem dX0_distance_10 : decode cX0_distance 10 = .ok (.ireturn, 1) := by decide +kernel
theorem dX0_writeCode_0 : decode cX0_writeCode 0 = .ok (.aload_n 0, 1) := by decide +kernel
theorem dX0_writeCode_1 : decode cX0_writeCode 1 = .ok (.iconst 0, 1) := by decide +kernel
theorem dX0_writeCode_2 : decode cX0_writeCode 2 = .ok (.putfield 63, 3) := by decide +kernel
theorem dX0_writeCode_5 : decode cX0_writeCode 5 = .ok (.aload_n 0, 1) := by decide +kernel
theorem dX0_writeCode_6 : decode cX0_writeCode 6 = .ok (.iconst 0, 1) := by decide +kernel
theorem dX0_writeCode_7 : decode cX0_writeCode 7 = .ok (.putfield 66, 3) := by decide +kernel
theorem dX0_writeCode_10 : decode cX0_writeCode 10 = .ok (.aload_n 0, 1) := by decide +kernel
theorem dX0_writeCode_11 : decode cX0_writeCode 11 = .ok (.ldc 69, 2) := by decide +kernel
theorem dX0_writeCode_13 : decode cX0_writeCode 13 = .ok (.iconst 3, 1) := by decide +kernel
theorem dX0_writeCode_14 : decode cX0_writeCode 14 = .ok (.invokevirtual 70, 3) := by decide +kernel
theorem dX0_writeCode_17 : decode cX0_writeCode 17 = .ok (.iconst 0, 1) := by decide +kernel
theorem dX0_writeCode_18 : decode cX0_writeCode 18 = .ok (.istore_n 1, 1) := by decide +kernel
theorem dX0_writeCode_19 : decode cX0_writeCode 19 = .ok (.iload_n 1, 1) := by decide +kernel
theorem dX0_writeCode_20 : decode cX0_writeCode 20 = .ok (.aload_n 0, 1) := by decide +kernel
theorem dX0_writeCode_21 : decode cX0_writeCode 21 = .ok (.getfield 25, 3) := by decide +kernel
theorem dX0_writeCode_24 : decode cX0_writeCode 24 = .ok (.getfield 43, 3) := by decide +kernel
theorem dX0_writeCode_27 : decode cX0_writeCode 27 = .ok (.if_icmp .ge 24, 3) := by decide +kernel
theorem dX0_writeCode_30 : decode cX0_writeCode 30 = .ok (.aload_n 0, 1) := by decide +kernel
theorem dX0_writeCode_31 : decode cX0_writeCode 31 = .ok (.getfield 15, 3) := by decide +kernel
theorem dX0_writeCode_34 : decode cX0_writeCode 34 = .ok (.iload_n 1, 1) := by decide +kernel
theorem dX0_writeCode_35 : decode cX0_writeCode 35 = .ok (.aload_n 0, 1) := by decide +kernel
theorem dX0_writeCode_36 : decode cX0_writeCode 36 = .ok (.getfield 63, 3) := by decide +kernel
theorem dX0_writeCode_39 : decode cX0_writeCode 39 = .ok (.iastore, 1) := by decide +kernel
theorem dX0_writeCode_40 : decode cX0_writeCode 40 = .ok (.aload_n 0, 1) := by decide +kernel
theorem dX0_writeCode_41 : decode cX0_writeCode 41 = .ok (.iload_n 1, 1) := by decide +kernel
theorem dX0_writeCode_42 : decode cX0_writeCode 42 = .ok (.invokevirtual 74, 3) := by decide +kernel
theorem dX0_writeCode_45 : decode cX0_writeCode 45 = .ok (.iinc 1 1, 3) := by decide +kernel
theorem dX0_writeCode_48 : decode cX0_writeCode 48 = .ok (.goto (-29), 3) := by decide +kernel
theorem dX0_writeCode_51 : decode cX0_writeCode 51 = .ok (.aload_n 0, 1) := by decide +kernel
theorem dX0_writeCode_52 : decode cX0_writeCode 52 = .ok (.getfield 15, 3) := by decide +kernel
theorem dX0_writeCode_55 : decode cX0_writeCode 55 = .ok (.aload_n 0, 1) := by decide +kernel
theorem dX0_writeCode_56 : decode cX0_writeCode 56 = .ok (.getfield 25, 3) := by decide +kernel
theorem dX0_writeCode_59 : decode cX0_writeCode 59 = .ok (.getfield 43, 3) := by decide +kernel
theorem dX0_writeCode_62 : decode cX0_writeCode 62 = .ok (.aload_n 0, 1) := by decide +kernel
theorem dX0_writeCode_63 : decode cX0_writeCode 63 = .ok (.getfield 63, 3) := by decide +kernel
theorem dX0_writeCode_66 : decode cX0_writeCode 66 = .ok (.iastore, 1) := by decide +kernel
theorem dX0_writeCode_67 : decode cX0_writeCode 67 = .ok (.aload_n 0, 1) := by decide +kernel
theorem dX0_writeCode_68 : decode cX0_writeCode 68 = .ok (.aload_n 0, 1) := by decide +kernel
theorem dX0_writeCode_69 : decode cX0_writeCode 69 = .ok (.getfield 63, 3) := by decide +kernel
theorem dX0_writeCode_72 : decode cX0_writeCode 72 = .ok (.aload_n 0, 1) := by decide +kernel
theorem dX0_writeCode_73 : decode cX0_writeCode 73 = .ok (.getfield 63, 3) := by decide +kernel
theorem dX0_writeCode_76 : decode cX0_writeCode 76 = .ok (.iconst 2, 1) := by decide +kernel
theorem dX0_writeCode_77 : decode cX0_writeCode 77 = .ok (.irem, 1) := by decide +kernel
theorem dX0_writeCode_78 : decode cX0_writeCode 78 = .ok (.iadd, 1) := by decide +kernel
theorem dX0_writeCode_79 : decode cX0_writeCode 79 = .ok (.putfield 78, 3) := by decide +kernel
theorem dX0_writeCode_82 : decode cX0_writeCode 82 = .ok (.return_, 1) := by decide +kernel
theorem dX0_writePool_0 : decode cX0_writePool 0 = .ok (.aload_n 0, 1) := by decide +kernel
theorem dX0_writePool_1 : decode cX0_writePool 1 = .ok (.getfield 63, 3) := by decide +kernel
theorem dX0_writePool_4 : decode cX0_writePool 4 = .ok (.aload_n 0, 1) := by decide +kernel
theorem dX0_writePool_5 : decode cX0_writePool 5 = .ok (.getfield 78, 3) := by decide +kernel
theorem dX0_writePool_8 : decode cX0_writePool 8 = .ok (.if_icmp .ge 8, 3) := by decide +kernel
theorem dX0_writePool_11 : decode cX0_writePool 11 = .ok (.aload_n 0, 1) := by decide +kernel
theorem dX0_writePool_12 : decode cX0_writePool 12 = .ok (.iconst 0, 1) := by decide +kernel
theorem dX0_writePool_13 : decode cX0_writePool 13 = .ok (.invokevirtual 81, 3) := by decide +kernel
theorem dX0_writePool_16 : decode cX0_writePool 16 = .ok (.iconst 0, 1) := by decide +kernel
theorem dX0_writePool_17 : decode cX0_writePool 17 = .ok (.istore_n 1, 1) := by decide +kernel
theorem dX0_writePool_18 : decode cX0_writePool 18 = .ok (.iload_n 1, 1) := by decide +kernel
theorem dX0_writePool_19 : decode cX0_writePool 19 = .ok (.aload_n 0, 1) := by decide +kernel
theorem dX0_writePool_20 : decode cX0_writePool 20 = .ok (.getfield 66, 3) := by decide +kernel
theorem dX0_writePool_23 : decode cX0_writePool 23 = .ok (.if_icmp .ge 35, 3) := by decide +kernel
theorem dX0_writePool_26 : decode cX0_writePool 26 = .ok (.aload_n 0, 1) := by decide +kernel
theorem dX0_writePool_27 : decode cX0_writePool 27 = .ok (.aload_n 0, 1) := by decide +kernel
theorem dX0_writePool_28 : decode cX0_writePool 28 = .ok (.getfield 22, 3) := by decide +kernel
theorem dX0_writePool_31 : decode cX0_writePool 31 = .ok (.iload_n 1, 1) := by decide +kernel
theorem dX0_writePool_32 : decode cX0_writePool 32 = .ok (.iaload, 1) := by decide +kernel
theorem dX0_writePool_33 : decode cX0_writePool 33 = .ok (.ldc 84, 2) := by decide +kernel
theorem dX0_writePool_35 : decode cX0_writePool 35 = .ok (.iand, 1) := by decide +kernel
theorem dX0_writePool_36 : decode cX0_writePool 36 = .ok (.invokevirtual 81, 3) := by decide +kernel
theorem dX0_writePool_39 : decode cX0_writePool 39 = .ok (.aload_n 0, 1) := by decide +kernel
theorem dX0_writePool_40 : decode cX0_writePool 40 = .ok (.aload_n 0, 1) := by decide +kernel
theorem dX0_writePool_41 : decode cX0_writePool 41 = .ok (.getfield 22, 3) := by decide +kernel
theorem dX0_writePool_44 : decode cX0_writePool 44 = .ok (.iload_n 1, 1) := by decide +kernel
theorem dX0_writePool_45 : decode cX0_writePool 45 = .ok (.iaload, 1) := by decide +kernel
theorem dX0_writePool_46 : decode cX0_writePool 46 = .ok (.bipush 16, 2) := by decide +kernel
theorem dX0_writePool_48 : decode cX0_writePool 48 = .ok (.iushr, 1) := by decide +kernel
theorem dX0_writePool_49 : decode cX0_writePool 49 = .ok (.invokevirtual 81, 3) := by decide +kernel
theorem dX0_writePool_52 : decode cX0_writePool 52 = .ok (.iinc 1 1, 3) := by decide +kernel
theorem dX0_writePool_55 : decode cX0_writePool 55 = .ok (.goto (-37), 3) := by decide +kernel
theorem dX0_writePool_58 : decode cX0_writePool 58 = .ok (.return_, 1) := by decide +kernel
theorem dX0_writeInstruction_0 : decode cX0_writeInstruction 0 = .ok (.aload_n 0, 1) := by decide +kernel
theorem dX0_writeInstruction_1 : decode cX0_writeInstruction 1 = .ok (.getfield 25, 3) := by decide +kernel
theorem dX0_writeInstruction_4 : decode cX0_writeInstruction 4 = .ok (.getfield 85, 3) := by decide +kernel
theorem dX0_writeInstruction_7 : decode cX0_writeInstruction 7 = .ok (.iload_n 1, 1) := by decide +kernel
theorem dX0_writeInstruction_8 : decode cX0_writeInstruction 8 = .ok (.iaload, 1) := by decide +kernel
theorem dX0_writeInstruction_9 : decode cX0_writeInstruction 9 = .ok (.istore_n 2, 1) := by decide +kernel
theorem dX0_writeInstruction_10 : decode cX0_writeInstruction 10 = .ok (.aload_n 0, 1) := by decide +kernel
theorem dX0_writeInstruction_11 : decode cX0_writeInstruction 11 = .ok (.getfield 25, 3) := by decide +kernel
theorem dX0_writeInstruction_14 : decode cX0_writeInstruction 14 = .ok (.getfield 88, 3) := by decide +kernel
theorem dX0_writeInstruction_17 : decode cX0_writeInstruction 17 = .ok (.iload_n 1, 1) := by decide +kernel
theorem dX0_writeInstruction_18 : decode cX0_writeInstruction 18 = .ok (.iaload, 1) := by decide +kernel
theorem dX0_writeInstruction_19 : decode cX0_writeInstruction 19 = .ok (.istore_n 3, 1) := by decide +kernel
theorem dX0_writeInstruction_20 : decode cX0_writeInstruction 20 = .ok (.aload_n 0, 1) := by decide +kernel
theorem dX0_writeInstruction_21 : decode cX0_writeInstruction 21 = .ok (.getfield 25, 3) := by decide +kernel
theorem dX0_writeInstruction_24 : decode cX0_writeInstruction 24 = .ok (.getfield 91, 3) := by decide +kernel
theorem dX0_writeInstruction_27 : decode cX0_writeInstruction 27 = .ok (.iload_n 1, 1) := by decide +kernel
theorem dX0_writeInstruction_28 : decode cX0_writeInstruction 28 = .ok (.iaload, 1) := by decide +kernel
theorem dX0_writeInstruction_29 : decode cX0_writeInstruction 29 = .ok (.istore 4, 2) := by decide +kernel
theorem dX0_writeInstruction_31 : decode cX0_writeInstruction 31 = .ok (.aload_n 0, 1) := by decide +kernel
theorem dX0_writeInstruction_32 : decode cX0_writeInstruction 32 = .ok (.getfield 25, 3) := by decide +kernel
theorem dX0_writeInstruction_35 : decode cX0_writeInstruction 35 = .ok (.getfield 56, 3) := by decide +kernel
theorem dX0_writeInstruction_38 : decode cX0_writeInstruction 38 = .ok (.iload_n 1, 1) := by decide +kernel
theorem dX0_writeInstruction_39 : decode cX0_writeInstruction 39 = .ok (.iaload, 1) := by decide +kernel
theorem dX0_writeInstruction_40 : decode cX0_writeInstruction 40 = .ok (.istore 5, 2) := by decide +kernel
theorem dX0_writeInstruction_42 : decode cX0_writeInstruction 42 = .ok (.aload_n 0, 1) := by decide +kernel
theorem dX0_writeInstruction_43 : decode cX0_writeInstruction 43 = .ok (.getfield 25, 3) := by decide +kernel
theorem dX0_writeInstruction_46 : decode cX0_writeInstruction 46 = .ok (.getfield 49, 3) := by decide +kernel
theorem dX0_writeInstruction_49 : decode cX0_writeInstruction 49 = .ok (.iload_n 1, 1) := by decide +kernel
theorem dX0_writeInstruction_50 : decode cX0_writeInstruction 50 = .ok (.iaload, 1) := by decide +kernel
theorem dX0_writeInstruction_51 : decode cX0_writeInstruction 51 = .ok (.tableswitch 190 0 7 #[45, 63, 83, 108, 131, 140, 167, 181], 45) := by decide +kernel
theorem dX0_writeInstruction_96 : decode cX0_writeInstruction 96 = .ok (.aload_n 0, 1) := by decide +kernel
theorem dX0_writeInstruction_97 : decode cX0_writeInstruction 97 = .ok (.iload 5, 2) := by decide +kernel
theorem dX0_writeInstruction_99 : decode cX0_writeInstruction 99 = .ok (.iload_n 2, 1) := by decide +kernel
theorem dX0_writeInstruction_100 : decode cX0_writeInstruction 100 = .ok (.invokestatic 94, 3) := by decide +kernel
theorem dX0_writeInstruction_103 : decode cX0_writeInstruction 103 = .ok (.invokevirtual 98, 3) := by decide +kernel
theorem dX0_writeInstruction_106 : decode cX0_writeInstruction 106 = .ok (.aload_n 0, 1) := by decide +kernel
theorem dX0_writeInstruction_107 : decode cX0_writeInstruction 107 = .ok (.iload_n 2, 1) := by decide +kernel
theorem dX0_writeInstruction_108 : decode cX0_writeInstruction 108 = .ok (.invokevirtual 101, 3) := by decide +kernel
theorem dX0_writeInstruction_111 : decode cX0_writeInstruction 111 = .ok (.goto 139, 3) := by decide +kernel
theorem dX0_writeInstruction_114 : decode cX0_writeInstruction 114 = .ok (.aload_n 0, 1) := by decide +kernel
theorem dX0_writeInstruction_115 : decode cX0_writeInstruction 115 = .ok (.aload_n 0, 1) := by decide +kernel
theorem dX0_writeInstruction_116 : decode cX0_writeInstruction 116 = .ok (.getfield 25, 3) := by decide +kernel
theorem dX0_writeInstruction_119 : decode cX0_writeInstruction 119 = .ok (.getfield 104, 3) := by decide +kernel
theorem dX0_writeInstruction_122 : decode cX0_writeInstruction 122 = .ok (.iload_n 1, 1) := by decide +kernel
theorem dX0_writeInstruction_123 : decode cX0_writeInstruction 123 = .ok (.iaload, 1) := by decide +kernel
theorem dX0_writeInstruction_124 : decode cX0_writeInstruction 124 = .ok (.iload_n 2, 1) := by decide +kernel
theorem dX0_writeInstruction_125 : decode cX0_writeInstruction 125 = .ok (.iload_n 3, 1) := by decide +kernel
theorem dX0_writeInstruction_126 : decode cX0_writeInstruction 126 = .ok (.iload 4, 2) := by decide +kernel
theorem dX0_writeInstruction_128 : decode cX0_writeInstruction 128 = .ok (.invokevirtual 107, 3) := by decide +kernel
theorem dX0_writeInstruction_131 : decode cX0_writeInstruction 131 = .ok (.goto 119, 3) := by decide +kernel
theorem dX0_writeInstruction_134 : decode cX0_writeInstruction 134 = .ok (.aload_n 0, 1) := by decide +kernel
theorem dX0_writeInstruction_135 : decode cX0_writeInstruction 135 = .ok (.iload_n 3, 1) := by decide +kernel
theorem dX0_writeInstruction_136 : decode cX0_writeInstruction 136 = .ok (.invokevirtual 111, 3) := by decide +kernel
theorem dX0_writeInstruction_139 : decode cX0_writeInstruction 139 = .ok (.aload_n 0, 1) := by decide +kernel
theorem dX0_writeInstruction_140 : decode cX0_writeInstruction 140 = .ok (.sipush 22616, 3) := by decide +kernel
theorem dX0_writeInstruction_143 : decode cX0_writeInstruction 143 = .ok (.iload_n 2, 1) := by decide +kernel
theorem dX0_writeInstruction_144 : decode cX0_writeInstruction 144 = .ok (.invokestatic 94, 3) := by decide +kernel
theorem dX0_writeInstruction_147 : decode cX0_writeInstruction 147 = .ok (.iadd, 1) := by decide +kernel
theorem dX0_writeInstruction_148 : decode cX0_writeInstruction 148 = .ok (.invokevirtual 81, 3) := by decide +kernel
theorem dX0_writeInstruction_151 : decode cX0_writeInstruction 151 = .ok (.aload_n 0, 1) := by decide +kernel
theorem dX0_writeInstruction_152 : decode cX0_writeInstruction 152 = .ok (.iload_n 2, 1) := by decide +kernel
theorem dX0_writeInstruction_153 : decode cX0_writeInstruction 153 = .ok (.invokevirtual 101, 3) := by decide +kernel
theorem dX0_writeInstruction_156 : decode cX0_writeInstruction 156 = .ok (.goto 94, 3) := by decide +kernel
theorem dX0_writeInstruction_159 : decode cX0_writeInstruction 159 = .ok (.aload_n 0, 1) := by decide +kernel
theorem dX0_writeInstruction_160 : decode cX0_writeInstruction 160 = .ok (.iload_n 3, 1) := by decide +kernel
theorem dX0_writeInstruction_161 : decode cX0_writeInstruction 161 = .ok (.invokevirtual 111, 3) := by decide +kernel
theorem dX0_writeInstruction_164 : decode cX0_writeInstruction 164 = .ok (.aload_n 0, 1) := by decide +kernel
theorem dX0_writeInstruction_165 : decode cX0_writeInstruction 165 = .ok (.sipush 20568, 3) := by decide +kernel
theorem dX0_writeInstruction_168 : decode cX0_writeInstruction 168 = .ok (.aload_n 0, 1) := by decide +kernel
theorem dX0_writeInstruction_169 : decode cX0_writeInstruction 169 = .ok (.iload 4, 2) := by decide +kernel
theorem dX0_writeInstruction_171 : decode cX0_writeInstruction 171 = .ok (.iconst 0, 1) := by decide +kernel
theorem dX0_writeInstruction_172 : decode cX0_writeInstruction 172 = .ok (.invokevirtual 114, 3) := by decide +kernel
theorem dX0_writeInstruction_175 : decode cX0_writeInstruction 175 = .ok (.iadd, 1) := by decide +kernel
theorem dX0_writeInstruction_176 : decode cX0_writeInstruction 176 = .ok (.invokevirtual 81, 3) := by decide +kernel
theorem dX0_writeInstruction_179 : decode cX0_writeInstruction 179 = .ok (.goto 71, 3) := by decide +kernel
theorem dX0_writeInstruction_182 : decode cX0_writeInstruction 182 = .ok (.aload_n 0, 1) := by decide +kernel
theorem dX0_writeInstruction_183 : decode cX0_writeInstruction 183 = .ok (.iload 5, 2) := by decide +kernel
theorem dX0_writeInstruction_185 : decode cX0_writeInstruction 185 = .ok (.invokevirtual 117, 3) := by decide +kernel
theorem dX0_writeInstruction_188 : decode cX0_writeInstruction 188 = .ok (.goto 62, 3) := by decide +kernel
theorem dX0_writeInstruction_191 : decode cX0_writeInstruction 191 = .ok (.aload_n 0, 1) := by decide +kernel
theorem dX0_writeInstruction_192 : decode cX0_writeInstruction 192 = .ok (.aload_n 0, 1) := by decide +kernel
theorem dX0_writeInstruction_193 : decode cX0_writeInstruction 193 = .ok (.getfield 25, 3) := by decide +kernel
theorem dX0_writeInstruction_196 : decode cX0_writeInstruction 196 = .ok (.getfield 104, 3) := by decide +kernel
theorem dX0_writeInstruction_199 : decode cX0_writeInstruction 199 = .ok (.iload_n 1, 1) := by decide +kernel
theorem dX0_writeInstruction_200 : decode cX0_writeInstruction 200 = .ok (.iaload, 1) := by decide +kernel
theorem dX0_writeInstruction_201 : decode cX0_writeInstruction 201 = .ok (.iload_n 3, 1) := by decide +kernel
theorem dX0_writeInstruction_202 : decode cX0_writeInstruction 202 = .ok (.iload 4, 2) := by decide +kernel
theorem dX0_writeInstruction_204 : decode cX0_writeInstruction 204 = .ok (.iload 5, 2) := by decide +kernel
theorem dX0_writeInstruction_206 : decode cX0_writeInstruction 206 = .ok (.aload_n 0, 1) := by decide +kernel
theorem dX0_writeInstruction_207 : decode cX0_writeInstruction 207 = .ok (.getfield 18, 3) := by decide +kernel
theorem dX0_writeInstruction_210 : decode cX0_writeInstruction 210 = .ok (.iload_n 1, 1) := by decide +kernel
theorem dX0_writeInstruction_211 : decode cX0_writeInstruction 211 = .ok (.baload, 1) := by decide +kernel
theorem dX0_writeInstruction_212 : decode cX0_writeInstruction 212 = .ok (.invokevirtual 120, 3) := by decide +kernel
theorem dX0_writeInstruction_215 : decode cX0_writeInstruction 215 = .ok (.goto 35, 3) := by decide +kernel
theorem dX0_writeInstruction_218 : decode cX0_writeInstruction 218 = .ok (.aload_n 0, 1) := by decide +kernel
theorem dX0_writeInstruction_219 : decode cX0_writeInstruction 219 = .ok (.iload_n 3, 1) := by decide +kernel
theorem dX0_writeInstruction_220 : decode cX0_writeInstruction 220 = .ok (.invokevirtual 124, 3) := by decide +kernel
theorem dX0_writeInstruction_223 : decode cX0_writeInstruction 223 = .ok (.aload_n 0, 1) := by decide +kernel
theorem dX0_writeInstruction_224 : decode cX0_writeInstruction 224 = .ok (.ldc 127, 2) := by decide +kernel
theorem dX0_writeInstruction_226 : decode cX0_writeInstruction 226 = .ok (.invokevirtual 81, 3) := by decide +kernel
theorem dX0_writeInstruction_229 : decode cX0_writeInstruction 229 = .ok (.goto 21, 3) := by decide +kernel
theorem dX0_writeInstruction_232 : decode cX0_writeInstruction 232 = .ok (.aload_n 0, 1) := by decide +kernel
theorem dX0_writeInstruction_233 : decode cX0_writeInstruction 233 = .ok (.ldc 128, 2) := by decide +kernel
theorem dX0_writeInstruction_235 : decode cX0_writeInstruction 235 = .ok (.invokevirtual 81, 3) := by decide +kernel
theorem dX0_writeInstruction_238 : decode cX0_writeInstruction 238 = .ok (.goto 12, 3) := by decide +kernel
theorem dX0_writeInstruction_241 : decode cX0_writeInstruction 241 = .ok (.aload_n 0, 1) := by decide +kernel
theorem dX0_writeInstruction_242 : decode cX0_writeInstruction 242 = .ok (.ldc 129, 2) := by decide +kernel
theorem dX0_writeInstruction_244 : decode cX0_writeInstruction 244 = .ok (.iload 5, 2) := by decide +kernel
theorem dX0_writeInstruction_246 : decode cX0_writeInstruction 246 = .ok (.iadd, 1) := by decide +kernel
theorem dX0_writeInstruction_247 : decode cX0_writeInstruction 247 = .ok (.invokevirtual 81, 3) := by decide +kernel
theorem dX0_writeInstruction_250 : decode cX0_writeInstruction 250 = .ok (.return_, 1) := by decide +kernel
theorem dX0_writeNumber_0 : decode cX0_writeNumber 0 = .ok (.iload_n 1, 1) := by decide +kernel
theorem dX0_writeNumber_1 : decode cX0_writeNumber 1 = .ok (.ifCond .lt 26, 3) := by decide +kernel
theorem dX0_writeNumber_4 : decode cX0_writeNumber 4 = .ok (.iload_n 1, 1) := by decide +kernel
theorem dX0_writeNumber_5 : decode cX0_writeNumber 5 = .ok (.sipush 255, 3) := by decide +kernel
theorem dX0_writeNumber_8 : decode cX0_writeNumber 8 = .ok (.if_icmp .gt 19, 3) := by decide +kernel
theorem dX0_writeNumber_11 : decode cX0_writeNumber 11 = .ok (.aload_n 0, 1) := by decide +kernel
theorem dX0_writeNumber_12 : decode cX0_writeNumber 12 = .ok (.sipush 8192, 3) := by decide +kernel
theorem dX0_writeNumber_15 : decode cX0_writeNumber 15 = .ok (.sipush 256, 3) := by decide +kernel
theorem dX0_writeNumber_18 : decode cX0_writeNumber 18 = .ok (.iload_n 2, 1) := by decide +kernel
theorem dX0_writeNumber_19 : decode cX0_writeNumber 19 = .ok (.imul, 1) := by decide +kernel
theorem dX0_writeNumber_20 : decode cX0_writeNumber 20 = .ok (.iadd, 1) := by decide +kernel
theorem dX0_writeNumber_21 : decode cX0_writeNumber 21 = .ok (.iload_n 1, 1) := by decide +kernel
theorem dX0_writeNumber_22 : decode cX0_writeNumber 22 = .ok (.iadd, 1) := by decide +kernel
theorem dX0_writeNumber_23 : decode cX0_writeNumber 23 = .ok (.invokevirtual 81, 3) := by decide +kernel
theorem dX0_writeNumber_26 : decode cX0_writeNumber 26 = .ok (.return_, 1) := by decide +kernel
theorem dX0_writeNumber_27 : decode cX0_writeNumber 27 = .ok (.iload_n 1, 1) := by decide +kernel
theorem dX0_writeNumber_28 : decode cX0_writeNumber 28 = .ok (.sipush (-256), 3) := by decide +kernel
theorem dX0_writeNumber_31 : decode cX0_writeNumber 31 = .ok (.if_icmp .lt 38, 3) := by decide +kernel
theorem dX0_writeNumber_34 : decode cX0_writeNumber 34 = .ok (.iload_n 1, 1) := by decide +kernel
theorem dX0_writeNumber_35 : decode cX0_writeNumber 35 = .ok (.iconst (-1), 1) := by decide +kernel
theorem dX0_writeNumber_36 : decode cX0_writeNumber 36 = .ok (.if_icmp .gt 33, 3) := by decide +kernel
theorem dX0_writeNumber_39 : decode cX0_writeNumber 39 = .ok (.aload_n 0, 1) := by decide +kernel
theorem dX0_writeNumber_40 : decode cX0_writeNumber 40 = .ok (.sipush 8192, 3) := by decide +kernel
theorem dX0_writeNumber_43 : decode cX0_writeNumber 43 = .ok (.sipush 256, 3) := by decide +kernel
theorem dX0_writeNumber_46 : decode cX0_writeNumber 46 = .ok (.iload_n 2, 1) := by decide +kernel
theorem dX0_writeNumber_47 : decode cX0_writeNumber 47 = .ok (.imul, 1) := by decide +kernel
theorem dX0_writeNumber_48 : decode cX0_writeNumber 48 = .ok (.iadd, 1) := by decide +kernel
theorem dX0_writeNumber_49 : decode cX0_writeNumber 49 = .ok (.iconst (-1), 1) := by decide +kernel
theorem dX0_writeNumber_50 : decode cX0_writeNumber 50 = .ok (.iload_n 1, 1) := by decide +kernel
theorem dX0_writeNumber_51 : decode cX0_writeNumber 51 = .ok (.isub, 1) := by decide +kernel
theorem dX0_writeNumber_52 : decode cX0_writeNumber 52 = .ok (.iadd, 1) := by decide +kernel
theorem dX0_writeNumber_53 : decode cX0_writeNumber 53 = .ok (.invokevirtual 81, 3) := by decide +kernel
theorem dX0_writeNumber_56 : decode cX0_writeNumber 56 = .ok (.aload_n 0, 1) := by decide +kernel
theorem dX0_writeNumber_57 : decode cX0_writeNumber 57 = .ok (.sipush 17344, 3) := by decide +kernel
theorem dX0_writeNumber_60 : decode cX0_writeNumber 60 = .ok (.bipush 9, 2) := by decide +kernel
theorem dX0_writeNumber_62 : decode cX0_writeNumber 62 = .ok (.iload_n 2, 1) := by decide +kernel
theorem dX0_writeNumber_63 : decode cX0_writeNumber 63 = .ok (.imul, 1) := by decide +kernel
theorem dX0_writeNumber_64 : decode cX0_writeNumber 64 = .ok (.iadd, 1) := by decide +kernel
theorem dX0_writeNumber_65 : decode cX0_writeNumber 65 = .ok (.invokevirtual 81, 3) := by decide +kernel
theorem dX0_writeNumber_68 : decode cX0_writeNumber 68 = .ok (.return_, 1) := by decide +kernel
theorem dX0_writeNumber_69 : decode cX0_writeNumber 69 = .ok (.iload_n 1, 1) := by decide +kernel
theorem dX0_writeNumber_70 : decode cX0_writeNumber 70 = .ok (.invokestatic 130, 3) := by decide +kernel
theorem dX0_writeNumber_73 : decode cX0_writeNumber 73 = .ok (.istore_n 3, 1) := by decide +kernel
theorem dX0_writeNumber_74 : decode cX0_writeNumber 74 = .ok (.iload_n 3, 1) := by decide +kernel
theorem dX0_writeNumber_75 : decode cX0_writeNumber 75 = .ok (.ifCond .ne 10, 3) := by decide +kernel
theorem dX0_writeNumber_78 : decode cX0_writeNumber 78 = .ok (.aload_n 0, 1) := by decide +kernel
theorem dX0_writeNumber_79 : decode cX0_writeNumber 79 = .ok (.iload_n 1, 1) := by decide +kernel
theorem dX0_writeNumber_80 : decode cX0_writeNumber 80 = .ok (.iload_n 2, 1) := by decide +kernel
theorem dX0_writeNumber_81 : decode cX0_writeNumber 81 = .ok (.invokevirtual 70, 3) := by decide +kernel
theorem dX0_writeNumber_84 : decode cX0_writeNumber 84 = .ok (.return_, 1) := by decide +kernel
theorem dX0_writeNumber_85 : decode cX0_writeNumber 85 = .ok (.aload_n 0, 1) := by decide +kernel
theorem dX0_writeNumber_86 : decode cX0_writeNumber 86 = .ok (.sipush 8192, 3) := by decide +kernel
theorem dX0_writeNumber_89 : decode cX0_writeNumber 89 = .ok (.sipush 256, 3) := by decide +kernel
theorem dX0_writeNumber_92 : decode cX0_writeNumber 92 = .ok (.iload_n 2, 1) := by decide +kernel
theorem dX0_writeNumber_93 : decode cX0_writeNumber 93 = .ok (.imul, 1) := by decide +kernel
theorem dX0_writeNumber_94 : decode cX0_writeNumber 94 = .ok (.iadd, 1) := by decide +kernel
theorem dX0_writeNumber_95 : decode cX0_writeNumber 95 = .ok (.iload_n 1, 1) := by decide +kernel
theorem dX0_writeNumber_96 : decode cX0_writeNumber 96 = .ok (.iload_n 3, 1) := by decide +kernel
theorem dX0_writeNumber_97 : decode cX0_writeNumber 97 = .ok (.iushr, 1) := by decide +kernel
theorem dX0_writeNumber_98 : decode cX0_writeNumber 98 = .ok (.iadd, 1) := by decide +kernel
theorem dX0_writeNumber_99 : decode cX0_writeNumber 99 = .ok (.invokevirtual 81, 3) := by decide +kernel
theorem dX0_writeNumber_102 : decode cX0_writeNumber 102 = .ok (.aload_n 0, 1) := by decide +kernel
theorem dX0_writeNumber_103 : decode cX0_writeNumber 103 = .ok (.bipush 64, 2) := by decide +kernel
theorem dX0_writeNumber_105 : decode cX0_writeNumber 105 = .ok (.iload_n 3, 1) := by decide +kernel
theorem dX0_writeNumber_106 : decode cX0_writeNumber 106 = .ok (.imul, 1) := by decide +kernel
theorem dX0_writeNumber_107 : decode cX0_writeNumber 107 = .ok (.bipush 9, 2) := by decide +kernel
theorem dX0_writeNumber_109 : decode cX0_writeNumber 109 = .ok (.iload_n 2, 1) := by decide +kernel
theorem dX0_writeNumber_110 : decode cX0_writeNumber 110 = .ok (.imul, 1) := by decide +kernel
theorem dX0_writeNumber_111 : decode cX0_writeNumber 111 = .ok (.iadd, 1) := by decide +kernel
theorem dX0_writeNumber_112 : decode cX0_writeNumber 112 = .ok (.invokevirtual 81, 3) := by decide +kernel
theorem dX0_writeNumber_115 : decode cX0_writeNumber 115 = .ok (.return_, 1) := by decide +kernel
theorem dX0_leastShift_0 : decode cX0_leastShift 0 = .ok (.iconst 1, 1) := by decide +kernel
theorem dX0_leastShift_1 : decode cX0_leastShift 1 = .ok (.istore_n 1, 1) := by decide +kernel
theorem dX0_leastShift_2 : decode cX0_leastShift 2 = .ok (.iload_n 1, 1) := by decide +kernel
theorem dX0_leastShift_3 : decode cX0_leastShift 3 = .ok (.bipush 24, 2) := by decide +kernel
theorem dX0_leastShift_5 : decode cX0_leastShift 5 = .ok (.if_icmp .gt 34, 3) := by decide +kernel
theorem dX0_leastShift_8 : decode cX0_leastShift 8 = .ok (.iload_n 0, 1) := by decide +kernel
theorem dX0_leastShift_9 : decode cX0_leastShift 9 = .ok (.iload_n 1, 1) := by decide +kernel
theorem dX0_leastShift_10 : decode cX0_leastShift 10 = .ok (.iushr, 1) := by decide +kernel
theorem dX0_leastShift_11 : decode cX0_leastShift 11 = .ok (.istore_n 2, 1) := by decide +kernel
theorem dX0_leastShift_12 : decode cX0_leastShift 12 = .ok (.iload_n 2, 1) := by decide +kernel
theorem dX0_leastShift_13 : decode cX0_leastShift 13 = .ok (.iconst 1, 1) := by decide +kernel
theorem dX0_leastShift_14 : decode cX0_leastShift 14 = .ok (.if_icmp .lt 19, 3) := by decide +kernel
theorem dX0_leastShift_17 : decode cX0_leastShift 17 = .ok (.iload_n 2, 1) := by decide +kernel
theorem dX0_leastShift_18 : decode cX0_leastShift 18 = .ok (.sipush 255, 3) := by decide +kernel
theorem dX0_leastShift_21 : decode cX0_leastShift 21 = .ok (.if_icmp .gt 12, 3) := by decide +kernel
theorem dX0_leastShift_24 : decode cX0_leastShift 24 = .ok (.iload_n 2, 1) := by decide +kernel
theorem dX0_leastShift_25 : decode cX0_leastShift 25 = .ok (.iload_n 1, 1) := by decide +kernel
theorem dX0_leastShift_26 : decode cX0_leastShift 26 = .ok (.ishl, 1) := by decide +kernel
theorem dX0_leastShift_27 : decode cX0_leastShift 27 = .ok (.iload_n 0, 1) := by decide +kernel
theorem dX0_leastShift_28 : decode cX0_leastShift 28 = .ok (.if_icmp .ne 5, 3) := by decide +kernel
theorem dX0_leastShift_31 : decode cX0_leastShift 31 = .ok (.iload_n 1, 1) := by decide +kernel
theorem dX0_leastShift_32 : decode cX0_leastShift 32 = .ok (.ireturn, 1) := by decide +kernel
theorem dX0_leastShift_33 : decode cX0_leastShift 33 = .ok (.iinc 1 1, 3) := by decide +kernel
theorem dX0_leastShift_36 : decode cX0_leastShift 36 = .ok (.goto (-34), 3) := by decide +kernel
theorem dX0_leastShift_39 : decode cX0_leastShift 39 = .ok (.iconst 0, 1) := by decide +kernel
theorem dX0_leastShift_40 : decode cX0_leastShift 40 = .ok (.ireturn, 1) := by decide +kernel
theorem dX0_writeLiteral_0 : decode cX0_writeLiteral 0 = .ok (.iconst 2, 1) := by decide +kernel
theorem dX0_writeLiteral_1 : decode cX0_writeLiteral 1 = .ok (.aload_n 0, 1) := by decide +kernel
theorem dX0_writeLiteral_2 : decode cX0_writeLiteral 2 = .ok (.getfield 78, 3) := by decide +kernel
theorem dX0_writeLiteral_5 : decode cX0_writeLiteral 5 = .ok (.imul, 1) := by decide +kernel
theorem dX0_writeLiteral_6 : decode cX0_writeLiteral 6 = .ok (.iconst 4, 1) := by decide +kernel
theorem dX0_writeLiteral_7 : decode cX0_writeLiteral 7 = .ok (.aload_n 0, 1) := by decide +kernel
theorem dX0_writeLiteral_8 : decode cX0_writeLiteral 8 = .ok (.iload_n 1, 1) := by decide +kernel
theorem dX0_writeLiteral_9 : decode cX0_writeLiteral 9 = .ok (.invokevirtual 133, 3) := by decide +kernel
theorem dX0_writeLiteral_12 : decode cX0_writeLiteral 12 = .ok (.imul, 1) := by decide +kernel
theorem dX0_writeLiteral_13 : decode cX0_writeLiteral 13 = .ok (.iadd, 1) := by decide +kernel
theorem dX0_writeLiteral_14 : decode cX0_writeLiteral 14 = .ok (.istore_n 3, 1) := by decide +kernel
theorem dX0_writeLiteral_15 : decode cX0_writeLiteral 15 = .ok (.iconst 2, 1) := by decide +kernel
theorem dX0_writeLiteral_16 : decode cX0_writeLiteral 16 = .ok (.aload_n 0, 1) := by decide +kernel
theorem dX0_writeLiteral_17 : decode cX0_writeLiteral 17 = .ok (.getfield 63, 3) := by decide +kernel
theorem dX0_writeLiteral_20 : decode cX0_writeLiteral 20 = .ok (.imul, 1) := by decide +kernel
theorem dX0_writeLiteral_21 : decode cX0_writeLiteral 21 = .ok (.iconst 4, 1) := by decide +kernel
theorem dX0_writeLiteral_22 : decode cX0_writeLiteral 22 = .ok (.iadd, 1) := by decide +kernel
theorem dX0_writeLiteral_23 : decode cX0_writeLiteral 23 = .ok (.istore 4, 2) := by decide +kernel
theorem dX0_writeLiteral_25 : decode cX0_writeLiteral 25 = .ok (.iload 4, 2) := by decide +kernel
theorem dX0_writeLiteral_27 : decode cX0_writeLiteral 27 = .ok (.iload 4, 2) := by decide +kernel
theorem dX0_writeLiteral_29 : decode cX0_writeLiteral 29 = .ok (.iconst 4, 1) := by decide +kernel
theorem dX0_writeLiteral_30 : decode cX0_writeLiteral 30 = .ok (.irem, 1) := by decide +kernel
theorem dX0_writeLiteral_31 : decode cX0_writeLiteral 31 = .ok (.isub, 1) := by decide +kernel
theorem dX0_writeLiteral_32 : decode cX0_writeLiteral 32 = .ok (.istore 4, 2) := by decide +kernel
theorem dX0_writeLiteral_34 : decode cX0_writeLiteral 34 = .ok (.aload_n 0, 1) := by decide +kernel
theorem dX0_writeLiteral_35 : decode cX0_writeLiteral 35 = .ok (.sipush 18432, 3) := by decide +kernel
theorem dX0_writeLiteral_38 : decode cX0_writeLiteral 38 = .ok (.sipush 256, 3) := by decide +kernel
theorem dX0_writeLiteral_41 : decode cX0_writeLiteral 41 = .ok (.iload_n 2, 1) := by decide +kernel
theorem dX0_writeLiteral_42 : decode cX0_writeLiteral 42 = .ok (.imul, 1) := by decide +kernel
theorem dX0_writeLiteral_43 : decode cX0_writeLiteral 43 = .ok (.iadd, 1) := by decide +kernel
theorem dX0_writeLiteral_44 : decode cX0_writeLiteral 44 = .ok (.iload_n 3, 1) := by decide +kernel
theorem dX0_writeLiteral_45 : decode cX0_writeLiteral 45 = .ok (.iload 4, 2) := by decide +kernel
theorem dX0_writeLiteral_47 : decode cX0_writeLiteral 47 = .ok (.isub, 1) := by decide +kernel
theorem dX0_writeLiteral_48 : decode cX0_writeLiteral 48 = .ok (.iconst 4, 1) := by decide +kernel
theorem dX0_writeLiteral_49 : decode cX0_writeLiteral 49 = .ok (.idiv, 1) := by decide +kernel
theorem dX0_writeLiteral_50 : decode cX0_writeLiteral 50 = .ok (.iadd, 1) := by decide +kernel
theorem dX0_writeLiteral_51 : decode cX0_writeLiteral 51 = .ok (.invokevirtual 81, 3) := by decide +kernel
theorem dX0_writeLiteral_54 : decode cX0_writeLiteral 54 = .ok (.return_, 1) := by decide +kernel
theorem dX0_literalIndex_0 : decode cX0_literalIndex 0 = .ok (.iconst 0, 1) := by decide +kernel
theorem dX0_literalIndex_1 : decode cX0_literalIndex 1 = .ok (.istore_n 2, 1) := by decide +kernel
theorem dX0_literalIndex_2 : decode cX0_literalIndex 2 = .ok (.iload_n 2, 1) := by decide +kernel
theorem dX0_literalIndex_3 : decode cX0_literalIndex 3 = .ok (.aload_n 0, 1) := by decide +kernel
theorem dX0_literalIndex_4 : decode cX0_literalIndex 4 = .ok (.getfield 66, 3) := by decide +kernel
theorem dX0_literalIndex_7 : decode cX0_literalIndex 7 = .ok (.if_icmp .ge 21, 3) := by decide +kernel
theorem dX0_literalIndex_10 : decode cX0_literalIndex 10 = .ok (.aload_n 0, 1) := by decide +kernel
theorem dX0_literalIndex_11 : decode cX0_literalIndex 11 = .ok (.getfield 22, 3) := by decide +kernel
theorem dX0_literalIndex_14 : decode cX0_literalIndex 14 = .ok (.iload_n 2, 1) := by decide +kernel
theorem dX0_literalIndex_15 : decode cX0_literalIndex 15 = .ok (.iaload, 1) := by decide +kernel
theorem dX0_literalIndex_16 : decode cX0_literalIndex 16 = .ok (.iload_n 1, 1) := by decide +kernel
theorem dX0_literalIndex_17 : decode cX0_literalIndex 17 = .ok (.if_icmp .ne 5, 3) := by decide +kernel
theorem dX0_literalIndex_20 : decode cX0_literalIndex 20 = .ok (.iload_n 2, 1) := by decide +kernel
theorem dX0_literalIndex_21 : decode cX0_literalIndex 21 = .ok (.ireturn, 1) := by decide +kernel
theorem dX0_literalIndex_22 : decode cX0_literalIndex 22 = .ok (.iinc 2 1, 3) := by decide +kernel
theorem dX0_literalIndex_25 : decode cX0_literalIndex 25 = .ok (.goto (-23), 3) := by decide +kernel
theorem dX0_literalIndex_28 : decode cX0_literalIndex 28 = .ok (.aload_n 0, 1) := by decide +kernel
theorem dX0_literalIndex_29 : decode cX0_literalIndex 29 = .ok (.getfield 66, 3) := by decide +kernel
theorem dX0_literalIndex_32 : decode cX0_literalIndex 32 = .ok (.bipush 49, 2) := by decide +kernel
theorem dX0_literalIndex_34 : decode cX0_literalIndex 34 = .ok (.if_icmp .ge 23, 3) := by decide +kernel
theorem dX0_literalIndex_37 : decode cX0_literalIndex 37 = .ok (.aload_n 0, 1) := by decide +kernel
theorem dX0_literalIndex_38 : decode cX0_literalIndex 38 = .ok (.getfield 22, 3) := by decide +kernel
theorem dX0_literalIndex_41 : decode cX0_literalIndex 41 = .ok (.aload_n 0, 1) := by decide +kernel
theorem dX0_literalIndex_42 : decode cX0_literalIndex 42 = .ok (.getfield 66, 3) := by decide +kernel
theorem dX0_literalIndex_45 : decode cX0_literalIndex 45 = .ok (.iload_n 1, 1) := by decide +kernel
theorem dX0_literalIndex_46 : decode cX0_literalIndex 46 = .ok (.iastore, 1) := by decide +kernel
theorem dX0_literalIndex_47 : decode cX0_literalIndex 47 = .ok (.aload_n 0, 1) := by decide +kernel
theorem dX0_literalIndex_48 : decode cX0_literalIndex 48 = .ok (.dup, 1) := by decide +kernel
theorem dX0_literalIndex_49 : decode cX0_literalIndex 49 = .ok (.getfield 66, 3) := by decide +kernel
theorem dX0_literalIndex_52 : decode cX0_literalIndex 52 = .ok (.iconst 1, 1) := by decide +kernel
theorem dX0_literalIndex_53 : decode cX0_literalIndex 53 = .ok (.iadd, 1) := by decide +kernel
theorem dX0_literalIndex_54 : decode cX0_literalIndex 54 = .ok (.putfield 66, 3) := by decide +kernel
theorem dX0_literalIndex_57 : decode cX0_literalIndex 57 = .ok (.aload_n 0, 1) := by decide +kernel
theorem dX0_literalIndex_58 : decode cX0_literalIndex 58 = .ok (.getfield 66, 3) := by decide +kernel
theorem dX0_literalIndex_61 : decode cX0_literalIndex 61 = .ok (.iconst 1, 1) := by decide +kernel
theorem dX0_literalIndex_62 : decode cX0_literalIndex 62 = .ok (.isub, 1) := by decide +kernel
theorem dX0_literalIndex_63 : decode cX0_literalIndex 63 = .ok (.ireturn, 1) := by decide +kernel
theorem dX0_writeCompute_0 : decode cX0_writeCompute 0 = .ok (.iload_n 1, 1) := by decide +kernel
theorem dX0_writeCompute_1 : decode cX0_writeCompute 1 = .ok (.iconst 2, 1) := by decide +kernel
theorem dX0_writeCompute_2 : decode cX0_writeCompute 2 = .ok (.if_icmp .ge 60, 3) := by decide +kernel
theorem dX0_writeCompute_5 : decode cX0_writeCompute 5 = .ok (.aload_n 0, 1) := by decide +kernel
theorem dX0_writeCompute_6 : decode cX0_writeCompute 6 = .ok (.iload_n 3, 1) := by decide +kernel
theorem dX0_writeCompute_7 : decode cX0_writeCompute 7 = .ok (.iconst 0, 1) := by decide +kernel
theorem dX0_writeCompute_8 : decode cX0_writeCompute 8 = .ok (.invokevirtual 114, 3) := by decide +kernel
theorem dX0_writeCompute_11 : decode cX0_writeCompute 11 = .ok (.istore 5, 2) := by decide +kernel
theorem dX0_writeCompute_13 : decode cX0_writeCompute 13 = .ok (.aload_n 0, 1) := by decide +kernel
theorem dX0_writeCompute_14 : decode cX0_writeCompute 14 = .ok (.iload 4, 2) := by decide +kernel
theorem dX0_writeCompute_16 : decode cX0_writeCompute 16 = .ok (.iconst 1, 1) := by decide +kernel
theorem dX0_writeCompute_17 : decode cX0_writeCompute 17 = .ok (.invokevirtual 114, 3) := by decide +kernel
theorem dX0_writeCompute_20 : decode cX0_writeCompute 20 = .ok (.istore 6, 2) := by decide +kernel
theorem dX0_writeCompute_22 : decode cX0_writeCompute 22 = .ok (.aload_n 0, 1) := by decide +kernel
theorem dX0_writeCompute_23 : decode cX0_writeCompute 23 = .ok (.iload_n 1, 1) := by decide +kernel
theorem dX0_writeCompute_24 : decode cX0_writeCompute 24 = .ok (.ifCond .ne 9, 3) := by decide +kernel
theorem dX0_writeCompute_27 : decode cX0_writeCompute 27 = .ok (.sipush 6144, 3) := by decide +kernel
theorem dX0_writeCompute_30 : decode cX0_writeCompute 30 = .ok (.goto 6, 3) := by decide +kernel
theorem dX0_writeCompute_33 : decode cX0_writeCompute 33 = .ok (.sipush 6656, 3) := by decide +kernel
theorem dX0_writeCompute_36 : decode cX0_writeCompute 36 = .ok (.bipush 64, 2) := by decide +kernel
theorem dX0_writeCompute_38 : decode cX0_writeCompute 38 = .ok (.iload 6, 2) := by decide +kernel
theorem dX0_writeCompute_40 : decode cX0_writeCompute 40 = .ok (.imul, 1) := by decide +kernel
theorem dX0_writeCompute_41 : decode cX0_writeCompute 41 = .ok (.iadd, 1) := by decide +kernel
theorem dX0_writeCompute_42 : decode cX0_writeCompute 42 = .ok (.bipush 8, 2) := by decide +kernel
theorem dX0_writeCompute_44 : decode cX0_writeCompute 44 = .ok (.iload 5, 2) := by decide +kernel
theorem dX0_writeCompute_46 : decode cX0_writeCompute 46 = .ok (.imul, 1) := by decide +kernel
theorem dX0_writeCompute_47 : decode cX0_writeCompute 47 = .ok (.iadd, 1) := by decide +kernel
theorem dX0_writeCompute_48 : decode cX0_writeCompute 48 = .ok (.iload_n 2, 1) := by decide +kernel
theorem dX0_writeCompute_49 : decode cX0_writeCompute 49 = .ok (.invokestatic 94, 3) := by decide +kernel
theorem dX0_writeCompute_52 : decode cX0_writeCompute 52 = .ok (.iadd, 1) := by decide +kernel
theorem dX0_writeCompute_53 : decode cX0_writeCompute 53 = .ok (.invokevirtual 81, 3) := by decide +kernel
theorem dX0_writeCompute_56 : decode cX0_writeCompute 56 = .ok (.aload_n 0, 1) := by decide +kernel
theorem dX0_writeCompute_57 : decode cX0_writeCompute 57 = .ok (.iload_n 2, 1) := by decide +kernel
theorem dX0_writeCompute_58 : decode cX0_writeCompute 58 = .ok (.invokevirtual 101, 3) := by decide +kernel
theorem dX0_writeCompute_61 : decode cX0_writeCompute 61 = .ok (.return_, 1) := by decide +kernel
theorem dX0_writeCompute_62 : decode cX0_writeCompute 62 = .ok (.aload_n 0, 1) := by decide +kernel
theorem dX0_writeCompute_63 : decode cX0_writeCompute 63 = .ok (.iload_n 3, 1) := by decide +kernel
theorem dX0_writeCompute_64 : decode cX0_writeCompute 64 = .ok (.invokevirtual 124, 3) := by decide +kernel
theorem dX0_writeCompute_67 : decode cX0_writeCompute 67 = .ok (.aload_n 0, 1) := by decide +kernel
theorem dX0_writeCompute_68 : decode cX0_writeCompute 68 = .ok (.iload 4, 2) := by decide +kernel
theorem dX0_writeCompute_70 : decode cX0_writeCompute 70 = .ok (.iconst 1, 1) := by decide +kernel
theorem dX0_writeCompute_71 : decode cX0_writeCompute 71 = .ok (.invokevirtual 114, 3) := by decide +kernel
theorem dX0_writeCompute_74 : decode cX0_writeCompute 74 = .ok (.istore 5, 2) := by decide +kernel
theorem dX0_writeCompute_76 : decode cX0_writeCompute 76 = .ok (.aload_n 0, 1) := by decide +kernel
theorem dX0_writeCompute_77 : decode cX0_writeCompute 77 = .ok (.getstatic 136, 3) := by decide +kernel
theorem dX0_writeCompute_80 : decode cX0_writeCompute 80 = .ok (.iload_n 1, 1) := by decide +kernel
theorem dX0_writeCompute_81 : decode cX0_writeCompute 81 = .ok (.iconst 2, 1) := by decide +kernel
theorem dX0_writeCompute_82 : decode cX0_writeCompute 82 = .ok (.isub, 1) := by decide +kernel
theorem dX0_writeCompute_83 : decode cX0_writeCompute 83 = .ok (.iaload, 1) := by decide +kernel
theorem dX0_writeCompute_84 : decode cX0_writeCompute 84 = .ok (.bipush 8, 2) := by decide +kernel
theorem dX0_writeCompute_86 : decode cX0_writeCompute 86 = .ok (.iload 5, 2) := by decide +kernel
theorem dX0_writeCompute_88 : decode cX0_writeCompute 88 = .ok (.imul, 1) := by decide +kernel
theorem dX0_writeCompute_89 : decode cX0_writeCompute 89 = .ok (.iadd, 1) := by decide +kernel
theorem dX0_writeCompute_90 : decode cX0_writeCompute 90 = .ok (.invokevirtual 81, 3) := by decide +kernel
theorem dX0_writeCompute_93 : decode cX0_writeCompute 93 = .ok (.iload_n 2, 1) := by decide +kernel
theorem dX0_writeCompute_94 : decode cX0_writeCompute 94 = .ok (.invokestatic 139, 3) := by decide +kernel
theorem dX0_writeCompute_97 : decode cX0_writeCompute 97 = .ok (.ifCond .eq 14, 3) := by decide +kernel
theorem dX0_writeCompute_100 : decode cX0_writeCompute 100 = .ok (.aload_n 0, 1) := by decide +kernel
theorem dX0_writeCompute_101 : decode cX0_writeCompute 101 = .ok (.iload_n 2, 1) := by decide +kernel
theorem dX0_writeCompute_102 : decode cX0_writeCompute 102 = .ok (.invokestatic 142, 3) := by decide +kernel
theorem dX0_writeCompute_105 : decode cX0_writeCompute 105 = .ok (.invokevirtual 81, 3) := by decide +kernel
theorem dX0_writeCompute_108 : decode cX0_writeCompute 108 = .ok (.goto 8, 3) := by decide +kernel
theorem dX0_writeCompute_111 : decode cX0_writeCompute 111 = .ok (.aload_n 0, 1) := by decide +kernel
theorem dX0_writeCompute_112 : decode cX0_writeCompute 112 = .ok (.iload_n 2, 1) := by decide +kernel
theorem dX0_writeCompute_113 : decode cX0_writeCompute 113 = .ok (.invokevirtual 101, 3) := by decide +kernel
theorem dX0_writeCompute_116 : decode cX0_writeCompute 116 = .ok (.return_, 1) := by decide +kernel
theorem dX0_writeWordChoice_0 : decode cX0_writeWordChoice 0 = .ok (.aload_n 0, 1) := by decide +kernel
theorem dX0_writeWordChoice_1 : decode cX0_writeWordChoice 1 = .ok (.iload_n 1, 1) := by decide +kernel
theorem dX0_writeWordChoice_2 : decode cX0_writeWordChoice 2 = .ok (.iconst 0, 1) := by decide +kernel
theorem dX0_writeWordChoice_3 : decode cX0_writeWordChoice 3 = .ok (.invokevirtual 114, 3) := by decide +kernel
theorem dX0_writeWordChoice_6 : decode cX0_writeWordChoice 6 = .ok (.istore_n 2, 1) := by decide +kernel
theorem dX0_writeWordChoice_7 : decode cX0_writeWordChoice 7 = .ok (.aload_n 0, 1) := by decide +kernel
theorem dX0_writeWordChoice_8 : decode cX0_writeWordChoice 8 = .ok (.sipush 8455, 3) := by decide +kernel
theorem dX0_writeWordChoice_11 : decode cX0_writeWordChoice 11 = .ok (.invokevirtual 81, 3) := by decide +kernel
theorem dX0_writeWordChoice_14 : decode cX0_writeWordChoice 14 = .ok (.aload_n 0, 1) := by decide +kernel
theorem dX0_writeWordChoice_15 : decode cX0_writeWordChoice 15 = .ok (.sipush 16385, 3) := by decide +kernel
theorem dX0_writeWordChoice_18 : decode cX0_writeWordChoice 18 = .ok (.bipush 8, 2) := by decide +kernel
theorem dX0_writeWordChoice_20 : decode cX0_writeWordChoice 20 = .ok (.iload_n 2, 1) := by decide +kernel
theorem dX0_writeWordChoice_21 : decode cX0_writeWordChoice 21 = .ok (.imul, 1) := by decide +kernel
theorem dX0_writeWordChoice_22 : decode cX0_writeWordChoice 22 = .ok (.iadd, 1) := by decide +kernel
theorem dX0_writeWordChoice_23 : decode cX0_writeWordChoice 23 = .ok (.invokevirtual 81, 3) := by decide +kernel
theorem dX0_writeWordChoice_26 : decode cX0_writeWordChoice 26 = .ok (.aload_n 0, 1) := by decide +kernel
theorem dX0_writeWordChoice_27 : decode cX0_writeWordChoice 27 = .ok (.sipush 137, 3) := by decide +kernel
theorem dX0_writeWordChoice_30 : decode cX0_writeWordChoice 30 = .ok (.invokevirtual 81, 3) := by decide +kernel
theorem dX0_writeWordChoice_33 : decode cX0_writeWordChoice 33 = .ok (.return_, 1) := by decide +kernel
theorem dX0_writeBranch_0 : decode cX0_writeBranch 0 = .ok (.aload_n 0, 1) := by decide +kernel
theorem dX0_writeBranch_1 : decode cX0_writeBranch 1 = .ok (.iload_n 2, 1) := by decide +kernel
theorem dX0_writeBranch_2 : decode cX0_writeBranch 2 = .ok (.iconst 0, 1) := by decide +kernel
theorem dX0_writeBranch_3 : decode cX0_writeBranch 3 = .ok (.invokevirtual 114, 3) := by decide +kernel
theorem dX0_writeBranch_6 : decode cX0_writeBranch 6 = .ok (.istore 6, 2) := by decide +kernel
theorem dX0_writeBranch_8 : decode cX0_writeBranch 8 = .ok (.aload_n 0, 1) := by decide +kernel
theorem dX0_writeBranch_9 : decode cX0_writeBranch 9 = .ok (.iload_n 3, 1) := by decide +kernel
theorem dX0_writeBranch_10 : decode cX0_writeBranch 10 = .ok (.iconst 1, 1) := by decide +kernel
theorem dX0_writeBranch_11 : decode cX0_writeBranch 11 = .ok (.invokevirtual 114, 3) := by decide +kernel
theorem dX0_writeBranch_14 : decode cX0_writeBranch 14 = .ok (.istore 7, 2) := by decide +kernel
theorem dX0_writeBranch_16 : decode cX0_writeBranch 16 = .ok (.aload_n 0, 1) := by decide +kernel
theorem dX0_writeBranch_17 : decode cX0_writeBranch 17 = .ok (.sipush 17024, 3) := by decide +kernel
theorem dX0_writeBranch_20 : decode cX0_writeBranch 20 = .ok (.bipush 8, 2) := by decide +kernel
theorem dX0_writeBranch_22 : decode cX0_writeBranch 22 = .ok (.iload 7, 2) := by decide +kernel
theorem dX0_writeBranch_24 : decode cX0_writeBranch 24 = .ok (.imul, 1) := by decide +kernel
theorem dX0_writeBranch_25 : decode cX0_writeBranch 25 = .ok (.iadd, 1) := by decide +kernel
theorem dX0_writeBranch_26 : decode cX0_writeBranch 26 = .ok (.iload 6, 2) := by decide +kernel
theorem dX0_writeBranch_28 : decode cX0_writeBranch 28 = .ok (.iadd, 1) := by decide +kernel
theorem dX0_writeBranch_29 : decode cX0_writeBranch 29 = .ok (.invokevirtual 81, 3) := by decide +kernel
theorem dX0_writeBranch_32 : decode cX0_writeBranch 32 = .ok (.iload 5, 2) := by decide +kernel
theorem dX0_writeBranch_34 : decode cX0_writeBranch 34 = .ok (.ifCond .eq 26, 3) := by decide +kernel
theorem dX0_writeBranch_37 : decode cX0_writeBranch 37 = .ok (.aload_n 0, 1) := by decide +kernel
theorem dX0_writeBranch_38 : decode cX0_writeBranch 38 = .ok (.ldc 145, 2) := by decide +kernel
theorem dX0_writeBranch_40 : decode cX0_writeBranch 40 = .ok (.sipush 256, 3) := by decide +kernel
theorem dX0_writeBranch_43 : decode cX0_writeBranch 43 = .ok (.iload_n 1, 1) := by decide +kernel
theorem dX0_writeBranch_44 : decode cX0_writeBranch 44 = .ok (.iconst 1, 1) := by decide +kernel
theorem dX0_writeBranch_45 : decode cX0_writeBranch 45 = .ok (.ixor, 1) := by decide +kernel
theorem dX0_writeBranch_46 : decode cX0_writeBranch 46 = .ok (.imul, 1) := by decide +kernel
theorem dX0_writeBranch_47 : decode cX0_writeBranch 47 = .ok (.iadd, 1) := by decide +kernel
theorem dX0_writeBranch_48 : decode cX0_writeBranch 48 = .ok (.invokevirtual 81, 3) := by decide +kernel
theorem dX0_writeBranch_51 : decode cX0_writeBranch 51 = .ok (.aload_n 0, 1) := by decide +kernel
theorem dX0_writeBranch_52 : decode cX0_writeBranch 52 = .ok (.iload 4, 2) := by decide +kernel
theorem dX0_writeBranch_54 : decode cX0_writeBranch 54 = .ok (.invokevirtual 117, 3) := by decide +kernel
theorem dX0_writeBranch_57 : decode cX0_writeBranch 57 = .ok (.goto 30, 3) := by decide +kernel
theorem dX0_writeBranch_60 : decode cX0_writeBranch 60 = .ok (.aload_n 0, 1) := by decide +kernel
theorem dX0_writeBranch_61 : decode cX0_writeBranch 61 = .ok (.ldc 145, 2) := by decide +kernel
theorem dX0_writeBranch_63 : decode cX0_writeBranch 63 = .ok (.sipush 256, 3) := by decide +kernel
theorem dX0_writeBranch_66 : decode cX0_writeBranch 66 = .ok (.iload_n 1, 1) := by decide +kernel
theorem dX0_writeBranch_67 : decode cX0_writeBranch 67 = .ok (.imul, 1) := by decide +kernel
theorem dX0_writeBranch_68 : decode cX0_writeBranch 68 = .ok (.iadd, 1) := by decide +kernel
theorem dX0_writeBranch_69 : decode cX0_writeBranch 69 = .ok (.aload_n 0, 1) := by decide +kernel
theorem dX0_writeBranch_70 : decode cX0_writeBranch 70 = .ok (.aload_n 0, 1) := by decide +kernel
theorem dX0_writeBranch_71 : decode cX0_writeBranch 71 = .ok (.getfield 63, 3) := by decide +kernel
theorem dX0_writeBranch_74 : decode cX0_writeBranch 74 = .ok (.iload 4, 2) := by decide +kernel
theorem dX0_writeBranch_76 : decode cX0_writeBranch 76 = .ok (.invokevirtual 59, 3) := by decide +kernel
theorem dX0_writeBranch_79 : decode cX0_writeBranch 79 = .ok (.sipush 255, 3) := by decide +kernel
theorem dX0_writeBranch_82 : decode cX0_writeBranch 82 = .ok (.iand, 1) := by decide +kernel
theorem dX0_writeBranch_83 : decode cX0_writeBranch 83 = .ok (.iadd, 1) := by decide +kernel
theorem dX0_writeBranch_84 : decode cX0_writeBranch 84 = .ok (.invokevirtual 81, 3) := by decide +kernel
theorem dX0_writeBranch_87 : decode cX0_writeBranch 87 = .ok (.return_, 1) := by decide +kernel
theorem dX0_writeJump_0 : decode cX0_writeJump 0 = .ok (.aload_n 0, 1) := by decide +kernel
theorem dX0_writeJump_1 : decode cX0_writeJump 1 = .ok (.ldc 146, 2) := by decide +kernel
theorem dX0_writeJump_3 : decode cX0_writeJump 3 = .ok (.aload_n 0, 1) := by decide +kernel
theorem dX0_writeJump_4 : decode cX0_writeJump 4 = .ok (.aload_n 0, 1) := by decide +kernel
theorem dX0_writeJump_5 : decode cX0_writeJump 5 = .ok (.getfield 63, 3) := by decide +kernel
theorem dX0_writeJump_8 : decode cX0_writeJump 8 = .ok (.iload_n 1, 1) := by decide +kernel
theorem dX0_writeJump_9 : decode cX0_writeJump 9 = .ok (.invokevirtual 59, 3) := by decide +kernel
theorem dX0_writeJump_12 : decode cX0_writeJump 12 = .ok (.sipush 2047, 3) := by decide +kernel
theorem dX0_writeJump_15 : decode cX0_writeJump 15 = .ok (.iand, 1) := by decide +kernel
theorem dX0_writeJump_16 : decode cX0_writeJump 16 = .ok (.iadd, 1) := by decide +kernel
theorem dX0_writeJump_17 : decode cX0_writeJump 17 = .ok (.invokevirtual 81, 3) := by decide +kernel
theorem dX0_writeJump_20 : decode cX0_writeJump 20 = .ok (.return_, 1) := by decide +kernel
theorem dX0_fetch_0 : decode cX0_fetch 0 = .ok (.iload_n 1, 1) := by decide +kernel
theorem dX0_fetch_1 : decode cX0_fetch 1 = .ok (.invokestatic 139, 3) := by decide +kernel
theorem dX0_fetch_4 : decode cX0_fetch 4 = .ok (.ifCond .eq 8, 3) := by decide +kernel
theorem dX0_fetch_7 : decode cX0_fetch 7 = .ok (.iload_n 1, 1) := by decide +kernel
theorem dX0_fetch_8 : decode cX0_fetch 8 = .ok (.invokestatic 142, 3) := by decide +kernel
theorem dX0_fetch_11 : decode cX0_fetch 11 = .ok (.ireturn, 1) := by decide +kernel
theorem dX0_fetch_12 : decode cX0_fetch 12 = .ok (.aload_n 0, 1) := by decide +kernel
theorem dX0_fetch_13 : decode cX0_fetch 13 = .ok (.ldc 147, 2) := by decide +kernel
theorem dX0_fetch_15 : decode cX0_fetch 15 = .ok (.sipush 256, 3) := by decide +kernel
theorem dX0_fetch_18 : decode cX0_fetch 18 = .ok (.iload_n 2, 1) := by decide +kernel
theorem dX0_fetch_19 : decode cX0_fetch 19 = .ok (.imul, 1) := by decide +kernel
theorem dX0_fetch_20 : decode cX0_fetch 20 = .ok (.iadd, 1) := by decide +kernel
theorem dX0_fetch_21 : decode cX0_fetch 21 = .ok (.iload_n 1, 1) := by decide +kernel
theorem dX0_fetch_22 : decode cX0_fetch 22 = .ok (.invokestatic 148, 3) := by decide +kernel
theorem dX0_fetch_25 : decode cX0_fetch 25 = .ok (.iadd, 1) := by decide +kernel
theorem dX0_fetch_26 : decode cX0_fetch 26 = .ok (.invokevirtual 81, 3) := by decide +kernel
theorem dX0_fetch_29 : decode cX0_fetch 29 = .ok (.iload_n 2, 1) := by decide +kernel
theorem dX0_fetch_30 : decode cX0_fetch 30 = .ok (.ireturn, 1) := by decide +kernel
theorem dX0_copyTo0_0 : decode cX0_copyTo0 0 = .ok (.aload_n 0, 1) := by decide +kernel
theorem dX0_copyTo0_1 : decode cX0_copyTo0 1 = .ok (.iload_n 1, 1) := by decide +kernel
theorem dX0_copyTo0_2 : decode cX0_copyTo0 2 = .ok (.invokestatic 139, 3) := by decide +kernel
theorem dX0_copyTo0_5 : decode cX0_copyTo0 5 = .ok (.ifCond .eq 13, 3) := by decide +kernel
theorem dX0_copyTo0_8 : decode cX0_copyTo0 8 = .ok (.bipush 8, 2) := by decide +kernel
theorem dX0_copyTo0_10 : decode cX0_copyTo0 10 = .ok (.iload_n 1, 1) := by decide +kernel
theorem dX0_copyTo0_11 : decode cX0_copyTo0 11 = .ok (.invokestatic 142, 3) := by decide +kernel
theorem dX0_copyTo0_14 : decode cX0_copyTo0 14 = .ok (.imul, 1) := by decide +kernel
theorem dX0_copyTo0_15 : decode cX0_copyTo0 15 = .ok (.goto 10, 3) := by decide +kernel
theorem dX0_copyTo0_18 : decode cX0_copyTo0 18 = .ok (.ldc 147, 2) := by decide +kernel
theorem dX0_copyTo0_20 : decode cX0_copyTo0 20 = .ok (.iload_n 1, 1) := by decide +kernel
theorem dX0_copyTo0_21 : decode cX0_copyTo0 21 = .ok (.invokestatic 148, 3) := by decide +kernel
theorem dX0_copyTo0_24 : decode cX0_copyTo0 24 = .ok (.iadd, 1) := by decide +kernel
theorem dX0_copyTo0_25 : decode cX0_copyTo0 25 = .ok (.invokevirtual 81, 3) := by decide +kernel
theorem dX0_copyTo0_28 : decode cX0_copyTo0 28 = .ok (.return_, 1) := by decide +kernel
theorem dX0_keep_0 : decode cX0_keep 0 = .ok (.iload_n 1, 1) := by decide +kernel
theorem dX0_keep_1 : decode cX0_keep 1 = .ok (.invokestatic 139, 3) := by decide +kernel
theorem dX0_keep_4 : decode cX0_keep 4 = .ok (.ifCond .ne 14, 3) := by decide +kernel
theorem dX0_keep_7 : decode cX0_keep 7 = .ok (.aload_n 0, 1) := by decide +kernel
theorem dX0_keep_8 : decode cX0_keep 8 = .ok (.ldc 151, 2) := by decide +kernel
theorem dX0_keep_10 : decode cX0_keep 10 = .ok (.iload_n 1, 1) := by decide +kernel
theorem dX0_keep_11 : decode cX0_keep 11 = .ok (.invokestatic 148, 3) := by decide +kernel
theorem dX0_keep_14 : decode cX0_keep 14 = .ok (.iadd, 1) := by decide +kernel
theorem dX0_keep_15 : decode cX0_keep 15 = .ok (.invokevirtual 81, 3) := by decide +kernel
theorem dX0_keep_18 : decode cX0_keep 18 = .ok (.return_, 1) := by decide +kernel
theorem dX0_targetOf_0 : decode cX0_targetOf 0 = .ok (.iload_n 0, 1) := by decide +kernel
theorem dX0_targetOf_1 : decode cX0_targetOf 1 = .ok (.invokestatic 139, 3) := by decide +kernel
theorem dX0_targetOf_4 : decode cX0_targetOf 4 = .ok (.ifCond .eq 10, 3) := by decide +kernel
theorem dX0_targetOf_7 : decode cX0_targetOf 7 = .ok (.iload_n 0, 1) := by decide +kernel
theorem dX0_targetOf_8 : decode cX0_targetOf 8 = .ok (.invokestatic 142, 3) := by decide +kernel
theorem dX0_targetOf_11 : decode cX0_targetOf 11 = .ok (.goto 4, 3) := by decide +kernel
theorem dX0_targetOf_14 : decode cX0_targetOf 14 = .ok (.iconst 0, 1) := by decide +kernel
theorem dX0_targetOf_15 : decode cX0_targetOf 15 = .ok (.ireturn, 1) := by decide +kernel
theorem dX0_hasRegister_0 : decode cX0_hasRegister 0 = .ok (.iload_n 0, 1) := by decide +kernel
theorem dX0_hasRegister_1 : decode cX0_hasRegister 1 = .ok (.iconst 4, 1) := by decide +kernel
theorem dX0_hasRegister_2 : decode cX0_hasRegister 2 = .ok (.if_icmp .ge 7, 3) := by decide +kernel
theorem dX0_hasRegister_5 : decode cX0_hasRegister 5 = .ok (.iconst 1, 1) := by decide +kernel
theorem dX0_hasRegister_6 : decode cX0_hasRegister 6 = .ok (.goto 4, 3) := by decide +kernel
theorem dX0_hasRegister_9 : decode cX0_hasRegister 9 = .ok (.iconst 0, 1) := by decide +kernel
theorem dX0_hasRegister_10 : decode cX0_hasRegister 10 = .ok (.ireturn, 1) := by decide +kernel
theorem dX0_registerOf_0 : decode cX0_registerOf 0 = .ok (.iconst 4, 1) := by decide +kernel
theorem dX0_registerOf_1 : decode cX0_registerOf 1 = .ok (.iload_n 0, 1) := by decide +kernel
theorem dX0_registerOf_2 : decode cX0_registerOf 2 = .ok (.iadd, 1) := by decide +kernel
theorem dX0_registerOf_3 : decode cX0_registerOf 3 = .ok (.ireturn, 1) := by decide +kernel
theorem dX0_slotOf_0 : decode cX0_slotOf 0 = .ok (.iload_n 0, 1) := by decide +kernel
theorem dX0_slotOf_1 : decode cX0_slotOf 1 = .ok (.iconst 4, 1) := by decide +kernel
theorem dX0_slotOf_2 : decode cX0_slotOf 2 = .ok (.isub, 1) := by decide +kernel
theorem dX0_slotOf_3 : decode cX0_slotOf 3 = .ok (.ireturn, 1) := by decide +kernel
theorem dX0_put_0 : decode cX0_put 0 = .ok (.aload_n 0, 1) := by decide +kernel
theorem dX0_put_1 : decode cX0_put 1 = .ok (.getfield 63, 3) := by decide +kernel
theorem dX0_put_4 : decode cX0_put 4 = .ok (.sipush 388, 3) := by decide +kernel
theorem dX0_put_7 : decode cX0_put 7 = .ok (.if_icmp .ge 23, 3) := by decide +kernel
theorem dX0_put_10 : decode cX0_put 10 = .ok (.aload_n 0, 1) := by decide +kernel
theorem dX0_put_11 : decode cX0_put 11 = .ok (.getfield 11, 3) := by decide +kernel
theorem dX0_put_14 : decode cX0_put 14 = .ok (.aload_n 0, 1) := by decide +kernel
theorem dX0_put_15 : decode cX0_put 15 = .ok (.getfield 63, 3) := by decide +kernel
theorem dX0_put_18 : decode cX0_put 18 = .ok (.iload_n 1, 1) := by decide +kernel
theorem dX0_put_19 : decode cX0_put 19 = .ok (.iastore, 1) := by decide +kernel
theorem dX0_put_20 : decode cX0_put 20 = .ok (.aload_n 0, 1) := by decide +kernel
theorem dX0_put_21 : decode cX0_put 21 = .ok (.dup, 1) := by decide +kernel
theorem dX0_put_22 : decode cX0_put 22 = .ok (.getfield 63, 3) := by decide +kernel
theorem dX0_put_25 : decode cX0_put 25 = .ok (.iconst 1, 1) := by decide +kernel
theorem dX0_put_26 : decode cX0_put 26 = .ok (.iadd, 1) := by decide +kernel
theorem dX0_put_27 : decode cX0_put 27 = .ok (.putfield 63, 3) := by decide +kernel
theorem dX0_put_30 : decode cX0_put 30 = .ok (.return_, 1) := by decide +kernel
end
section
theorem dX1_init_0 : decode cX1_init 0 = .ok (.aload_n 0, 1) := by decide +kernel
theorem dX1_init_1 : decode cX1_init 1 = .ok (.invokespecial 3, 3) := by decide +kernel
theorem dX1_init_4 : decode cX1_init 4 = .ok (.aload_n 0, 1) := by decide +kernel
theorem dX1_init_5 : decode cX1_init 5 = .ok (.bipush 8, 2) := by decide +kernel
theorem dX1_init_7 : decode cX1_init 7 = .ok (.newarray .int, 2) := by decide +kernel
theorem dX1_init_9 : decode cX1_init 9 = .ok (.putfield 9, 3) := by decide +kernel
theorem dX1_init_12 : decode cX1_init 12 = .ok (.aload_n 0, 1) := by decide +kernel
theorem dX1_init_13 : decode cX1_init 13 = .ok (.bipush 8, 2) := by decide +kernel
theorem dX1_init_15 : decode cX1_init 15 = .ok (.newarray .int, 2) := by decide +kernel
theorem dX1_init_17 : decode cX1_init 17 = .ok (.putfield 15, 3) := by decide +kernel
theorem dX1_init_20 : decode cX1_init 20 = .ok (.aload_n 0, 1) := by decide +kernel
theorem dX1_init_21 : decode cX1_init 21 = .ok (.bipush 16, 2) := by decide +kernel
theorem dX1_init_23 : decode cX1_init 23 = .ok (.newarray .int, 2) := by decide +kernel
theorem dX1_init_25 : decode cX1_init 25 = .ok (.putfield 18, 3) := by decide +kernel
theorem dX1_init_28 : decode cX1_init 28 = .ok (.aload_n 0, 1) := by decide +kernel
theorem dX1_init_29 : decode cX1_init 29 = .ok (.aload_n 1, 1) := by decide +kernel
theorem dX1_init_30 : decode cX1_init 30 = .ok (.putfield 21, 3) := by decide +kernel
theorem dX1_init_33 : decode cX1_init 33 = .ok (.aload_n 0, 1) := by decide +kernel
theorem dX1_init_34 : decode cX1_init 34 = .ok (.aload_n 2, 1) := by decide +kernel
theorem dX1_init_35 : decode cX1_init 35 = .ok (.putfield 25, 3) := by decide +kernel
theorem dX1_init_38 : decode cX1_init 38 = .ok (.aload_n 0, 1) := by decide +kernel
theorem dX1_init_39 : decode cX1_init 39 = .ok (.iconst 0, 1) := by decide +kernel
theorem dX1_init_40 : decode cX1_init 40 = .ok (.putfield 29, 3) := by decide +kernel
theorem dX1_init_43 : decode cX1_init 43 = .ok (.return_, 1) := by decide +kernel
theorem dX1_turnOff_0 : decode cX1_turnOff 0 = .ok (.aload_n 0, 1) := by decide +kernel
theorem dX1_turnOff_1 : decode cX1_turnOff 1 = .ok (.iconst 0, 1) := by decide +kernel
theorem dX1_turnOff_2 : decode cX1_turnOff 2 = .ok (.putfield 29, 3) := by decide +kernel
theorem dX1_turnOff_5 : decode cX1_turnOff 5 = .ok (.aload_n 0, 1) := by decide +kernel
theorem dX1_turnOff_6 : decode cX1_turnOff 6 = .ok (.iconst 0, 1) := by decide +kernel
theorem dX1_turnOff_7 : decode cX1_turnOff 7 = .ok (.putfield 33, 3) := by decide +kernel
theorem dX1_turnOff_10 : decode cX1_turnOff 10 = .ok (.return_, 1) := by decide +kernel
theorem dX1_turnOn_0 : decode cX1_turnOn 0 = .ok (.iconst 0, 1) := by decide +kernel
theorem dX1_turnOn_1 : decode cX1_turnOn 1 = .ok (.istore_n 1, 1) := by decide +kernel
theorem dX1_turnOn_2 : decode cX1_turnOn 2 = .ok (.iload_n 1, 1) := by decide +kernel
theorem dX1_turnOn_3 : decode cX1_turnOn 3 = .ok (.bipush 8, 2) := by decide +kernel
theorem dX1_turnOn_5 : decode cX1_turnOn 5 = .ok (.if_icmp .ge 16, 3) := by decide +kernel
theorem dX1_turnOn_8 : decode cX1_turnOn 8 = .ok (.aload_n 0, 1) := by decide +kernel
theorem dX1_turnOn_9 : decode cX1_turnOn 9 = .ok (.getfield 15, 3) := by decide +kernel
theorem dX1_turnOn_12 : decode cX1_turnOn 12 = .ok (.iload_n 1, 1) := by decide +kernel
theorem dX1_turnOn_13 : decode cX1_turnOn 13 = .ok (.iconst 0, 1) := by decide +kernel
theorem dX1_turnOn_14 : decode cX1_turnOn 14 = .ok (.iastore, 1) := by decide +kernel
theorem dX1_turnOn_15 : decode cX1_turnOn 15 = .ok (.iinc 1 1, 3) := by decide +kernel
theorem dX1_turnOn_18 : decode cX1_turnOn 18 = .ok (.goto (-16), 3) := by decide +kernel
theorem dX1_turnOn_21 : decode cX1_turnOn 21 = .ok (.aload_n 0, 1) := by decide +kernel
theorem dX1_turnOn_22 : decode cX1_turnOn 22 = .ok (.iconst 1, 1) := by decide +kernel
theorem dX1_turnOn_23 : decode cX1_turnOn 23 = .ok (.putfield 29, 3) := by decide +kernel
theorem dX1_turnOn_26 : decode cX1_turnOn 26 = .ok (.aload_n 0, 1) := by decide +kernel
theorem dX1_turnOn_27 : decode cX1_turnOn 27 = .ok (.iconst 0, 1) := by decide +kernel
theorem dX1_turnOn_28 : decode cX1_turnOn 28 = .ok (.putfield 33, 3) := by decide +kernel
theorem dX1_turnOn_31 : decode cX1_turnOn 31 = .ok (.aload_n 0, 1) := by decide +kernel
theorem dX1_turnOn_32 : decode cX1_turnOn 32 = .ok (.iconst 0, 1) := by decide +kernel
theorem dX1_turnOn_33 : decode cX1_turnOn 33 = .ok (.putfield 36, 3) := by decide +kernel
theorem dX1_turnOn_36 : decode cX1_turnOn 36 = .ok (.return_, 1) := by decide +kernel
theorem dX1_goOn_0 : decode cX1_goOn 0 = .ok (.iconst 0, 1) := by decide +kernel
theorem dX1_goOn_1 : decode cX1_goOn 1 = .ok (.istore_n 2, 1) := by decide +kernel
theorem dX1_goOn_2 : decode cX1_goOn 2 = .ok (.iconst 0, 1) := by decide +kernel
theorem dX1_goOn_3 : decode cX1_goOn 3 = .ok (.istore_n 3, 1) := by decide +kernel
theorem dX1_goOn_4 : decode cX1_goOn 4 = .ok (.iload_n 3, 1) := by decide +kernel
theorem dX1_goOn_5 : decode cX1_goOn 5 = .ok (.iload_n 1, 1) := by decide +kernel
theorem dX1_goOn_6 : decode cX1_goOn 6 = .ok (.if_icmp .ge 29, 3) := by decide +kernel
theorem dX1_goOn_9 : decode cX1_goOn 9 = .ok (.iload_n 2, 1) := by decide +kernel
theorem dX1_goOn_10 : decode cX1_goOn 10 = .ok (.iload_n 1, 1) := by decide +kernel
theorem dX1_goOn_11 : decode cX1_goOn 11 = .ok (.if_icmp .ge 24, 3) := by decide +kernel
theorem dX1_goOn_14 : decode cX1_goOn 14 = .ok (.aload_n 0, 1) := by decide +kernel
theorem dX1_goOn_15 : decode cX1_goOn 15 = .ok (.getfield 29, 3) := by decide +kernel
theorem dX1_goOn_18 : decode cX1_goOn 18 = .ok (.iconst 1, 1) := by decide +kernel
theorem dX1_goOn_19 : decode cX1_goOn 19 = .ok (.if_icmp .ne 16, 3) := by decide +kernel
theorem dX1_goOn_22 : decode cX1_goOn 22 = .ok (.iload_n 2, 1) := by decide +kernel
theorem dX1_goOn_23 : decode cX1_goOn 23 = .ok (.aload_n 0, 1) := by decide +kernel
theorem dX1_goOn_24 : decode cX1_goOn 24 = .ok (.invokevirtual 39, 3) := by decide +kernel
theorem dX1_goOn_27 : decode cX1_goOn 27 = .ok (.iadd, 1) := by decide +kernel
theorem dX1_goOn_28 : decode cX1_goOn 28 = .ok (.istore_n 2, 1) := by decide +kernel
theorem dX1_goOn_29 : decode cX1_goOn 29 = .ok (.iinc 3 1, 3) := by decide +kernel
theorem dX1_goOn_32 : decode cX1_goOn 32 = .ok (.goto (-28), 3) := by decide +kernel
theorem dX1_goOn_35 : decode cX1_goOn 35 = .ok (.iload_n 2, 1) := by decide +kernel
theorem dX1_goOn_36 : decode cX1_goOn 36 = .ok (.ireturn, 1) := by decide +kernel
theorem dX1_keeps_0 : decode cX1_keeps 0 = .ok (.iload_n 1, 1) := by decide +kernel
theorem dX1_keeps_1 : decode cX1_keeps 1 = .ok (.ifCond .lt 26, 3) := by decide +kernel
theorem dX1_keeps_4 : decode cX1_keeps 4 = .ok (.iload_n 1, 1) := by decide +kernel
theorem dX1_keeps_5 : decode cX1_keeps 5 = .ok (.aload_n 0, 1) := by decide +kernel
theorem dX1_keeps_6 : decode cX1_keeps 6 = .ok (.getfield 33, 3) := by decide +kernel
theorem dX1_keeps_9 : decode cX1_keeps 9 = .ok (.if_icmp .ge 18, 3) := by decide +kernel
theorem dX1_keeps_12 : decode cX1_keeps 12 = .ok (.iload_n 1, 1) := by decide +kernel
theorem dX1_keeps_13 : decode cX1_keeps 13 = .ok (.aload_n 0, 1) := by decide +kernel
theorem dX1_keeps_14 : decode cX1_keeps 14 = .ok (.getfield 33, 3) := by decide +kernel
theorem dX1_keeps_17 : decode cX1_keeps 17 = .ok (.bipush 16, 2) := by decide +kernel
theorem dX1_keeps_19 : decode cX1_keeps 19 = .ok (.isub, 1) := by decide +kernel
theorem dX1_keeps_20 : decode cX1_keeps 20 = .ok (.if_icmp .lt 7, 3) := by decide +kernel
theorem dX1_keeps_23 : decode cX1_keeps 23 = .ok (.iconst 1, 1) := by decide +kernel
theorem dX1_keeps_24 : decode cX1_keeps 24 = .ok (.goto 4, 3) := by decide +kernel
theorem dX1_keeps_27 : decode cX1_keeps 27 = .ok (.iconst 0, 1) := by decide +kernel
theorem dX1_keeps_28 : decode cX1_keeps 28 = .ok (.ireturn, 1) := by decide +kernel
theorem dX1_keptOutput_0 : decode cX1_keptOutput 0 = .ok (.aload_n 0, 1) := by decide +kernel
theorem dX1_keptOutput_1 : decode cX1_keptOutput 1 = .ok (.getfield 18, 3) := by decide +kernel
theorem dX1_keptOutput_4 : decode cX1_keptOutput 4 = .ok (.iload_n 1, 1) := by decide +kernel
theorem dX1_keptOutput_5 : decode cX1_keptOutput 5 = .ok (.bipush 15, 2) := by decide +kernel
theorem dX1_keptOutput_7 : decode cX1_keptOutput 7 = .ok (.iand, 1) := by decide +kernel
theorem dX1_keptOutput_8 : decode cX1_keptOutput 8 = .ok (.iaload, 1) := by decide +kernel
theorem dX1_keptOutput_9 : decode cX1_keptOutput 9 = .ok (.ireturn, 1) := by decide +kernel
theorem dX1_step_0 : decode cX1_step 0 = .ok (.aload_n 0, 1) := by decide +kernel
theorem dX1_step_1 : decode cX1_step 1 = .ok (.getfield 36, 3) := by decide +kernel
theorem dX1_step_4 : decode cX1_step 4 = .ok (.istore_n 1, 1) := by decide +kernel
theorem dX1_step_5 : decode cX1_step 5 = .ok (.aload_n 0, 1) := by decide +kernel
theorem dX1_step_6 : decode cX1_step 6 = .ok (.getfield 15, 3) := by decide +kernel
theorem dX1_step_9 : decode cX1_step 9 = .ok (.aload_n 0, 1) := by decide +kernel
theorem dX1_step_10 : decode cX1_step 10 = .ok (.getfield 21, 3) := by decide +kernel
theorem dX1_step_13 : decode cX1_step 13 = .ok (.getfield 43, 3) := by decide +kernel
theorem dX1_step_16 : decode cX1_step 16 = .ok (.iload_n 1, 1) := by decide +kernel
theorem dX1_step_17 : decode cX1_step 17 = .ok (.iaload, 1) := by decide +kernel
theorem dX1_step_18 : decode cX1_step 18 = .ok (.iaload, 1) := by decide +kernel
theorem dX1_step_19 : decode cX1_step 19 = .ok (.istore_n 2, 1) := by decide +kernel
theorem dX1_step_20 : decode cX1_step 20 = .ok (.aload_n 0, 1) := by decide +kernel
theorem dX1_step_21 : decode cX1_step 21 = .ok (.getfield 15, 3) := by decide +kernel
theorem dX1_step_24 : decode cX1_step 24 = .ok (.aload_n 0, 1) := by decide +kernel
theorem dX1_step_25 : decode cX1_step 25 = .ok (.getfield 21, 3) := by decide +kernel
theorem dX1_step_28 : decode cX1_step 28 = .ok (.getfield 48, 3) := by decide +kernel
theorem dX1_step_31 : decode cX1_step 31 = .ok (.iload_n 1, 1) := by decide +kernel
theorem dX1_step_32 : decode cX1_step 32 = .ok (.iaload, 1) := by decide +kernel
theorem dX1_step_33 : decode cX1_step 33 = .ok (.iaload, 1) := by decide +kernel
theorem dX1_step_34 : decode cX1_step 34 = .ok (.istore_n 3, 1) := by decide +kernel
theorem dX1_step_35 : decode cX1_step 35 = .ok (.aload_n 0, 1) := by decide +kernel
theorem dX1_step_36 : decode cX1_step 36 = .ok (.getfield 21, 3) := by decide +kernel
theorem dX1_step_39 : decode cX1_step 39 = .ok (.getfield 51, 3) := by decide +kernel
theorem dX1_step_42 : decode cX1_step 42 = .ok (.iload_n 1, 1) := by decide +kernel
theorem dX1_step_43 : decode cX1_step 43 = .ok (.iaload, 1) := by decide +kernel
theorem dX1_step_44 : decode cX1_step 44 = .ok (.istore 4, 2) := by decide +kernel
theorem dX1_step_46 : decode cX1_step 46 = .ok (.aload_n 0, 1) := by decide +kernel
theorem dX1_step_47 : decode cX1_step 47 = .ok (.getfield 25, 3) := by decide +kernel
theorem dX1_step_50 : decode cX1_step 50 = .ok (.iload_n 1, 1) := by decide +kernel
theorem dX1_step_51 : decode cX1_step 51 = .ok (.invokevirtual 54, 3) := by decide +kernel
theorem dX1_step_54 : decode cX1_step 54 = .ok (.istore 5, 2) := by decide +kernel
theorem dX1_step_56 : decode cX1_step 56 = .ok (.aload_n 0, 1) := by decide +kernel
theorem dX1_step_57 : decode cX1_step 57 = .ok (.iload_n 1, 1) := by decide +kernel
theorem dX1_step_58 : decode cX1_step 58 = .ok (.iconst 1, 1) := by decide +kernel
theorem dX1_step_59 : decode cX1_step 59 = .ok (.iadd, 1) := by decide +kernel
theorem dX1_step_60 : decode cX1_step 60 = .ok (.putfield 36, 3) := by decide +kernel
theorem dX1_step_63 : decode cX1_step 63 = .ok (.aload_n 0, 1) := by decide +kernel
theorem dX1_step_64 : decode cX1_step 64 = .ok (.getfield 21, 3) := by decide +kernel
theorem dX1_step_67 : decode cX1_step 67 = .ok (.getfield 60, 3) := by decide +kernel
theorem dX1_step_70 : decode cX1_step 70 = .ok (.iload_n 1, 1) := by decide +kernel
theorem dX1_step_71 : decode cX1_step 71 = .ok (.iaload, 1) := by decide +kernel
theorem dX1_step_72 : decode cX1_step 72 = .ok (.tableswitch 211 0 7 #[48, 67, 98, 124, 137, 146, 190, 198], 48) := by decide +kernel
theorem dX1_step_120 : decode cX1_step 120 = .ok (.aload_n 0, 1) := by decide +kernel
theorem dX1_step_121 : decode cX1_step 121 = .ok (.getfield 15, 3) := by decide +kernel
theorem dX1_step_124 : decode cX1_step 124 = .ok (.aload_n 0, 1) := by decide +kernel
theorem dX1_step_125 : decode cX1_step 125 = .ok (.getfield 21, 3) := by decide +kernel
theorem dX1_step_128 : decode cX1_step 128 = .ok (.getfield 63, 3) := by decide +kernel
theorem dX1_step_131 : decode cX1_step 131 = .ok (.iload_n 1, 1) := by decide +kernel
theorem dX1_step_132 : decode cX1_step 132 = .ok (.iaload, 1) := by decide +kernel
theorem dX1_step_133 : decode cX1_step 133 = .ok (.iload 4, 2) := by decide +kernel
theorem dX1_step_135 : decode cX1_step 135 = .ok (.iastore, 1) := by decide +kernel
theorem dX1_step_136 : decode cX1_step 136 = .ok (.goto 163, 3) := by decide +kernel
theorem dX1_step_139 : decode cX1_step 139 = .ok (.aload_n 0, 1) := by decide +kernel
theorem dX1_step_140 : decode cX1_step 140 = .ok (.getfield 15, 3) := by decide +kernel
theorem dX1_step_143 : decode cX1_step 143 = .ok (.aload_n 0, 1) := by decide +kernel
theorem dX1_step_144 : decode cX1_step 144 = .ok (.getfield 21, 3) := by decide +kernel
theorem dX1_step_147 : decode cX1_step 147 = .ok (.getfield 63, 3) := by decide +kernel
theorem dX1_step_150 : decode cX1_step 150 = .ok (.iload_n 1, 1) := by decide +kernel
theorem dX1_step_151 : decode cX1_step 151 = .ok (.iaload, 1) := by decide +kernel
theorem dX1_step_152 : decode cX1_step 152 = .ok (.aload_n 0, 1) := by decide +kernel
theorem dX1_step_153 : decode cX1_step 153 = .ok (.getfield 21, 3) := by decide +kernel
theorem dX1_step_156 : decode cX1_step 156 = .ok (.getfield 66, 3) := by decide +kernel
theorem dX1_step_159 : decode cX1_step 159 = .ok (.iload_n 1, 1) := by decide +kernel
theorem dX1_step_160 : decode cX1_step 160 = .ok (.iaload, 1) := by decide +kernel
theorem dX1_step_161 : decode cX1_step 161 = .ok (.iload_n 2, 1) := by decide +kernel
theorem dX1_step_162 : decode cX1_step 162 = .ok (.iload_n 3, 1) := by decide +kernel
theorem dX1_step_163 : decode cX1_step 163 = .ok (.invokestatic 69, 3) := by decide +kernel
theorem dX1_step_166 : decode cX1_step 166 = .ok (.iastore, 1) := by decide +kernel
theorem dX1_step_167 : decode cX1_step 167 = .ok (.goto 132, 3) := by decide +kernel
theorem dX1_step_170 : decode cX1_step 170 = .ok (.aload_n 0, 1) := by decide +kernel
theorem dX1_step_171 : decode cX1_step 171 = .ok (.getfield 15, 3) := by decide +kernel
theorem dX1_step_174 : decode cX1_step 174 = .ok (.aload_n 0, 1) := by decide +kernel
theorem dX1_step_175 : decode cX1_step 175 = .ok (.getfield 21, 3) := by decide +kernel
theorem dX1_step_178 : decode cX1_step 178 = .ok (.getfield 63, 3) := by decide +kernel
theorem dX1_step_181 : decode cX1_step 181 = .ok (.iload_n 1, 1) := by decide +kernel
theorem dX1_step_182 : decode cX1_step 182 = .ok (.iaload, 1) := by decide +kernel
theorem dX1_step_183 : decode cX1_step 183 = .ok (.aload_n 0, 1) := by decide +kernel
theorem dX1_step_184 : decode cX1_step 184 = .ok (.getfield 9, 3) := by decide +kernel
theorem dX1_step_187 : decode cX1_step 187 = .ok (.iload_n 2, 1) := by decide +kernel
theorem dX1_step_188 : decode cX1_step 188 = .ok (.bipush 7, 2) := by decide +kernel
theorem dX1_step_190 : decode cX1_step 190 = .ok (.iand, 1) := by decide +kernel
theorem dX1_step_191 : decode cX1_step 191 = .ok (.iaload, 1) := by decide +kernel
theorem dX1_step_192 : decode cX1_step 192 = .ok (.iastore, 1) := by decide +kernel
theorem dX1_step_193 : decode cX1_step 193 = .ok (.goto 106, 3) := by decide +kernel
theorem dX1_step_196 : decode cX1_step 196 = .ok (.aload_n 0, 1) := by decide +kernel
theorem dX1_step_197 : decode cX1_step 197 = .ok (.getfield 9, 3) := by decide +kernel
theorem dX1_step_200 : decode cX1_step 200 = .ok (.iload_n 2, 1) := by decide +kernel
theorem dX1_step_201 : decode cX1_step 201 = .ok (.bipush 7, 2) := by decide +kernel
theorem dX1_step_203 : decode cX1_step 203 = .ok (.iand, 1) := by decide +kernel
theorem dX1_step_204 : decode cX1_step 204 = .ok (.iload_n 3, 1) := by decide +kernel
theorem dX1_step_205 : decode cX1_step 205 = .ok (.iastore, 1) := by decide +kernel
theorem dX1_step_206 : decode cX1_step 206 = .ok (.goto 93, 3) := by decide +kernel
theorem dX1_step_209 : decode cX1_step 209 = .ok (.aload_n 0, 1) := by decide +kernel
theorem dX1_step_210 : decode cX1_step 210 = .ok (.iload 4, 2) := by decide +kernel
theorem dX1_step_212 : decode cX1_step 212 = .ok (.putfield 36, 3) := by decide +kernel
theorem dX1_step_215 : decode cX1_step 215 = .ok (.goto 84, 3) := by decide +kernel
theorem dX1_step_218 : decode cX1_step 218 = .ok (.aload_n 0, 1) := by decide +kernel
theorem dX1_step_219 : decode cX1_step 219 = .ok (.getfield 21, 3) := by decide +kernel
theorem dX1_step_222 : decode cX1_step 222 = .ok (.getfield 66, 3) := by decide +kernel
theorem dX1_step_225 : decode cX1_step 225 = .ok (.iload_n 1, 1) := by decide +kernel
theorem dX1_step_226 : decode cX1_step 226 = .ok (.iaload, 1) := by decide +kernel
theorem dX1_step_227 : decode cX1_step 227 = .ok (.iload_n 2, 1) := by decide +kernel
theorem dX1_step_228 : decode cX1_step 228 = .ok (.iload_n 3, 1) := by decide +kernel
theorem dX1_step_229 : decode cX1_step 229 = .ok (.invokestatic 73, 3) := by decide +kernel
theorem dX1_step_232 : decode cX1_step 232 = .ok (.ifCond .eq 12, 3) := by decide +kernel
theorem dX1_step_235 : decode cX1_step 235 = .ok (.aload_n 0, 1) := by decide +kernel
theorem dX1_step_236 : decode cX1_step 236 = .ok (.iload 4, 2) := by decide +kernel
theorem dX1_step_238 : decode cX1_step 238 = .ok (.putfield 36, 3) := by decide +kernel
theorem dX1_step_241 : decode cX1_step 241 = .ok (.goto 58, 3) := by decide +kernel
theorem dX1_step_244 : decode cX1_step 244 = .ok (.aload_n 0, 1) := by decide +kernel
theorem dX1_step_245 : decode cX1_step 245 = .ok (.getfield 25, 3) := by decide +kernel
theorem dX1_step_248 : decode cX1_step 248 = .ok (.getfield 77, 3) := by decide +kernel
theorem dX1_step_251 : decode cX1_step 251 = .ok (.iload_n 1, 1) := by decide +kernel
theorem dX1_step_252 : decode cX1_step 252 = .ok (.baload, 1) := by decide +kernel
theorem dX1_step_253 : decode cX1_step 253 = .ok (.ifCond .eq 46, 3) := by decide +kernel
theorem dX1_step_256 : decode cX1_step 256 = .ok (.iinc 5 (-1), 3) := by decide +kernel
theorem dX1_step_259 : decode cX1_step 259 = .ok (.goto 40, 3) := by decide +kernel
theorem dX1_step_262 : decode cX1_step 262 = .ok (.aload_n 0, 1) := by decide +kernel
theorem dX1_step_263 : decode cX1_step 263 = .ok (.iload_n 2, 1) := by decide +kernel
theorem dX1_step_264 : decode cX1_step 264 = .ok (.invokevirtual 81, 3) := by decide +kernel
theorem dX1_step_267 : decode cX1_step 267 = .ok (.goto 32, 3) := by decide +kernel
theorem dX1_step_270 : decode cX1_step 270 = .ok (.aload_n 0, 1) := by decide +kernel
theorem dX1_step_271 : decode cX1_step 271 = .ok (.iload_n 1, 1) := by decide +kernel
theorem dX1_step_272 : decode cX1_step 272 = .ok (.putfield 36, 3) := by decide +kernel
theorem dX1_step_275 : decode cX1_step 275 = .ok (.aload_n 0, 1) := by decide +kernel
theorem dX1_step_276 : decode cX1_step 276 = .ok (.iconst 2, 1) := by decide +kernel
theorem dX1_step_277 : decode cX1_step 277 = .ok (.putfield 29, 3) := by decide +kernel
theorem dX1_step_280 : decode cX1_step 280 = .ok (.goto 19, 3) := by decide +kernel
theorem dX1_step_283 : decode cX1_step 283 = .ok (.aload_n 0, 1) := by decide +kernel
theorem dX1_step_284 : decode cX1_step 284 = .ok (.iload_n 1, 1) := by decide +kernel
theorem dX1_step_285 : decode cX1_step 285 = .ok (.putfield 36, 3) := by decide +kernel
theorem dX1_step_288 : decode cX1_step 288 = .ok (.aload_n 0, 1) := by decide +kernel
theorem dX1_step_289 : decode cX1_step 289 = .ok (.iconst 3, 1) := by decide +kernel
theorem dX1_step_290 : decode cX1_step 290 = .ok (.putfield 29, 3) := by decide +kernel
theorem dX1_step_293 : decode cX1_step 293 = .ok (.aload_n 0, 1) := by decide +kernel
theorem dX1_step_294 : decode cX1_step 294 = .ok (.iload 4, 2) := by decide +kernel
theorem dX1_step_296 : decode cX1_step 296 = .ok (.putfield 85, 3) := by decide +kernel
theorem dX1_step_299 : decode cX1_step 299 = .ok (.iload 5, 2) := by decide +kernel
theorem dX1_step_301 : decode cX1_step 301 = .ok (.ireturn, 1) := by decide +kernel
theorem dX1_putOut_0 : decode cX1_putOut 0 = .ok (.aload_n 0, 1) := by decide +kernel
theorem dX1_putOut_1 : decode cX1_putOut 1 = .ok (.getfield 18, 3) := by decide +kernel
theorem dX1_putOut_4 : decode cX1_putOut 4 = .ok (.aload_n 0, 1) := by decide +kernel
theorem dX1_putOut_5 : decode cX1_putOut 5 = .ok (.getfield 33, 3) := by decide +kernel
theorem dX1_putOut_8 : decode cX1_putOut 8 = .ok (.bipush 15, 2) := by decide +kernel
theorem dX1_putOut_10 : decode cX1_putOut 10 = .ok (.iand, 1) := by decide +kernel
theorem dX1_putOut_11 : decode cX1_putOut 11 = .ok (.iload_n 1, 1) := by decide +kernel
theorem dX1_putOut_12 : decode cX1_putOut 12 = .ok (.iastore, 1) := by decide +kernel
theorem dX1_putOut_13 : decode cX1_putOut 13 = .ok (.aload_n 0, 1) := by decide +kernel
theorem dX1_putOut_14 : decode cX1_putOut 14 = .ok (.dup, 1) := by decide +kernel
theorem dX1_putOut_15 : decode cX1_putOut 15 = .ok (.getfield 33, 3) := by decide +kernel
theorem dX1_putOut_18 : decode cX1_putOut 18 = .ok (.iconst 1, 1) := by decide +kernel
theorem dX1_putOut_19 : decode cX1_putOut 19 = .ok (.iadd, 1) := by decide +kernel
theorem dX1_putOut_20 : decode cX1_putOut 20 = .ok (.putfield 33, 3) := by decide +kernel
theorem dX1_putOut_23 : decode cX1_putOut 23 = .ok (.return_, 1) := by decide +kernel
theorem dX1_result_0 : decode cX1_result 0 = .ok (.iload_n 2, 1) := by decide +kernel
theorem dX1_result_1 : decode cX1_result 1 = .ok (.sipush 255, 3) := by decide +kernel
theorem dX1_result_4 : decode cX1_result 4 = .ok (.iand, 1) := by decide +kernel
theorem dX1_result_5 : decode cX1_result 5 = .ok (.istore_n 3, 1) := by decide +kernel
theorem dX1_result_6 : decode cX1_result 6 = .ok (.iload_n 0, 1) := by decide +kernel
theorem dX1_result_7 : decode cX1_result 7 = .ok (.tableswitch 79 0 6 #[41, 45, 49, 53, 57, 61, 65], 41) := by decide +kernel
theorem dX1_result_48 : decode cX1_result 48 = .ok (.iload_n 1, 1) := by decide +kernel
theorem dX1_result_49 : decode cX1_result 49 = .ok (.iload_n 2, 1) := by decide +kernel
theorem dX1_result_50 : decode cX1_result 50 = .ok (.iadd, 1) := by decide +kernel
theorem dX1_result_51 : decode cX1_result 51 = .ok (.ireturn, 1) := by decide +kernel
theorem dX1_result_52 : decode cX1_result 52 = .ok (.iload_n 1, 1) := by decide +kernel
theorem dX1_result_53 : decode cX1_result 53 = .ok (.iload_n 2, 1) := by decide +kernel
theorem dX1_result_54 : decode cX1_result 54 = .ok (.isub, 1) := by decide +kernel
theorem dX1_result_55 : decode cX1_result 55 = .ok (.ireturn, 1) := by decide +kernel
theorem dX1_result_56 : decode cX1_result 56 = .ok (.iload_n 1, 1) := by decide +kernel
theorem dX1_result_57 : decode cX1_result 57 = .ok (.iload_n 2, 1) := by decide +kernel
theorem dX1_result_58 : decode cX1_result 58 = .ok (.imul, 1) := by decide +kernel
theorem dX1_result_59 : decode cX1_result 59 = .ok (.ireturn, 1) := by decide +kernel
theorem dX1_result_60 : decode cX1_result 60 = .ok (.iload_n 1, 1) := by decide +kernel
theorem dX1_result_61 : decode cX1_result 61 = .ok (.iload_n 2, 1) := by decide +kernel
theorem dX1_result_62 : decode cX1_result 62 = .ok (.iand, 1) := by decide +kernel
theorem dX1_result_63 : decode cX1_result 63 = .ok (.ireturn, 1) := by decide +kernel
theorem dX1_result_64 : decode cX1_result 64 = .ok (.iload_n 1, 1) := by decide +kernel
theorem dX1_result_65 : decode cX1_result 65 = .ok (.iload_n 2, 1) := by decide +kernel
theorem dX1_result_66 : decode cX1_result 66 = .ok (.ior, 1) := by decide +kernel
theorem dX1_result_67 : decode cX1_result 67 = .ok (.ireturn, 1) := by decide +kernel
theorem dX1_result_68 : decode cX1_result 68 = .ok (.iload_n 1, 1) := by decide +kernel
theorem dX1_result_69 : decode cX1_result 69 = .ok (.iload_n 2, 1) := by decide +kernel
theorem dX1_result_70 : decode cX1_result 70 = .ok (.ixor, 1) := by decide +kernel
theorem dX1_result_71 : decode cX1_result 71 = .ok (.ireturn, 1) := by decide +kernel
theorem dX1_result_72 : decode cX1_result 72 = .ok (.iload_n 3, 1) := by decide +kernel
theorem dX1_result_73 : decode cX1_result 73 = .ok (.bipush 32, 2) := by decide +kernel
theorem dX1_result_75 : decode cX1_result 75 = .ok (.if_icmp .ge 9, 3) := by decide +kernel
theorem dX1_result_78 : decode cX1_result 78 = .ok (.iload_n 1, 1) := by decide +kernel
theorem dX1_result_79 : decode cX1_result 79 = .ok (.iload_n 3, 1) := by decide +kernel
theorem dX1_result_80 : decode cX1_result 80 = .ok (.ishl, 1) := by decide +kernel
theorem dX1_result_81 : decode cX1_result 81 = .ok (.goto 4, 3) := by decide +kernel
theorem dX1_result_84 : decode cX1_result 84 = .ok (.iconst 0, 1) := by decide +kernel
theorem dX1_result_85 : decode cX1_result 85 = .ok (.ireturn, 1) := by decide +kernel
theorem dX1_result_86 : decode cX1_result 86 = .ok (.iload_n 3, 1) := by decide +kernel
theorem dX1_result_87 : decode cX1_result 87 = .ok (.bipush 32, 2) := by decide +kernel
theorem dX1_result_89 : decode cX1_result 89 = .ok (.if_icmp .ge 9, 3) := by decide +kernel
theorem dX1_result_92 : decode cX1_result 92 = .ok (.iload_n 1, 1) := by decide +kernel
theorem dX1_result_93 : decode cX1_result 93 = .ok (.iload_n 3, 1) := by decide +kernel
theorem dX1_result_94 : decode cX1_result 94 = .ok (.iushr, 1) := by decide +kernel
theorem dX1_result_95 : decode cX1_result 95 = .ok (.goto 4, 3) := by decide +kernel
theorem dX1_result_98 : decode cX1_result 98 = .ok (.iconst 0, 1) := by decide +kernel
theorem dX1_result_99 : decode cX1_result 99 = .ok (.ireturn, 1) := by decide +kernel
theorem dX1_holds_0 : decode cX1_holds 0 = .ok (.iload_n 1, 1) := by decide +kernel
theorem dX1_holds_1 : decode cX1_holds 1 = .ok (.ldc 88, 2) := by decide +kernel
theorem dX1_holds_3 : decode cX1_holds 3 = .ok (.ixor, 1) := by decide +kernel
theorem dX1_holds_4 : decode cX1_holds 4 = .ok (.istore_n 3, 1) := by decide +kernel
theorem dX1_holds_5 : decode cX1_holds 5 = .ok (.iload_n 2, 1) := by decide +kernel
theorem dX1_holds_6 : decode cX1_holds 6 = .ok (.ldc 88, 2) := by decide +kernel
theorem dX1_holds_8 : decode cX1_holds 8 = .ok (.ixor, 1) := by decide +kernel
theorem dX1_holds_9 : decode cX1_holds 9 = .ok (.istore 4, 2) := by decide +kernel
theorem dX1_holds_11 : decode cX1_holds 11 = .ok (.iload_n 0, 1) := by decide +kernel
theorem dX1_holds_12 : decode cX1_holds 12 = .ok (.tableswitch 171 0 12 #[68, 79, 90, 102, 171, 171, 171, 171, 114, 126, 138, 149, 160], 68) := by decide +kernel
theorem dX1_holds_80 : decode cX1_holds 80 = .ok (.iload_n 1, 1) := by decide +kernel
theorem dX1_holds_81 : decode cX1_holds 81 = .ok (.iload_n 2, 1) := by decide +kernel
theorem dX1_holds_82 : decode cX1_holds 82 = .ok (.if_icmp .ne 7, 3) := by decide +kernel
theorem dX1_holds_85 : decode cX1_holds 85 = .ok (.iconst 1, 1) := by decide +kernel
theorem dX1_holds_86 : decode cX1_holds 86 = .ok (.goto 4, 3) := by decide +kernel
theorem dX1_holds_89 : decode cX1_holds 89 = .ok (.iconst 0, 1) := by decide +kernel
theorem dX1_holds_90 : decode cX1_holds 90 = .ok (.ireturn, 1) := by decide +kernel
theorem dX1_holds_91 : decode cX1_holds 91 = .ok (.iload_n 1, 1) := by decide +kernel
theorem dX1_holds_92 : decode cX1_holds 92 = .ok (.iload_n 2, 1) := by decide +kernel
theorem dX1_holds_93 : decode cX1_holds 93 = .ok (.if_icmp .eq 7, 3) := by decide +kernel
theorem dX1_holds_96 : decode cX1_holds 96 = .ok (.iconst 1, 1) := by decide +kernel
theorem dX1_holds_97 : decode cX1_holds 97 = .ok (.goto 4, 3) := by decide +kernel
theorem dX1_holds_100 : decode cX1_holds 100 = .ok (.iconst 0, 1) := by decide +kernel
theorem dX1_holds_101 : decode cX1_holds 101 = .ok (.ireturn, 1) := by decide +kernel
theorem dX1_holds_102 : decode cX1_holds 102 = .ok (.iload_n 3, 1) := by decide +kernel
theorem dX1_holds_103 : decode cX1_holds 103 = .ok (.iload 4, 2) := by decide +kernel
theorem dX1_holds_105 : decode cX1_holds 105 = .ok (.if_icmp .lt 7, 3) := by decide +kernel
theorem dX1_holds_108 : decode cX1_holds 108 = .ok (.iconst 1, 1) := by decide +kernel
theorem dX1_holds_109 : decode cX1_holds 109 = .ok (.goto 4, 3) := by decide +kernel
theorem dX1_holds_112 : decode cX1_holds 112 = .ok (.iconst 0, 1) := by decide +kernel
theorem dX1_holds_113 : decode cX1_holds 113 = .ok (.ireturn, 1) := by decide +kernel
theorem dX1_holds_114 : decode cX1_holds 114 = .ok (.iload_n 3, 1) := by decide +kernel
theorem dX1_holds_115 : decode cX1_holds 115 = .ok (.iload 4, 2) := by decide +kernel
theorem dX1_holds_117 : decode cX1_holds 117 = .ok (.if_icmp .ge 7, 3) := by decide +kernel
theorem dX1_holds_120 : decode cX1_holds 120 = .ok (.iconst 1, 1) := by decide +kernel
theorem dX1_holds_121 : decode cX1_holds 121 = .ok (.goto 4, 3) := by decide +kernel
theorem dX1_holds_124 : decode cX1_holds 124 = .ok (.iconst 0, 1) := by decide +kernel
theorem dX1_holds_125 : decode cX1_holds 125 = .ok (.ireturn, 1) := by decide +kernel
theorem dX1_holds_126 : decode cX1_holds 126 = .ok (.iload_n 3, 1) := by decide +kernel
theorem dX1_holds_127 : decode cX1_holds 127 = .ok (.iload 4, 2) := by decide +kernel
theorem dX1_holds_129 : decode cX1_holds 129 = .ok (.if_icmp .le 7, 3) := by decide +kernel
theorem dX1_holds_132 : decode cX1_holds 132 = .ok (.iconst 1, 1) := by decide +kernel
theorem dX1_holds_133 : decode cX1_holds 133 = .ok (.goto 4, 3) := by decide +kernel
theorem dX1_holds_136 : decode cX1_holds 136 = .ok (.iconst 0, 1) := by decide +kernel
theorem dX1_holds_137 : decode cX1_holds 137 = .ok (.ireturn, 1) := by decide +kernel
theorem dX1_holds_138 : decode cX1_holds 138 = .ok (.iload_n 3, 1) := by decide +kernel
theorem dX1_holds_139 : decode cX1_holds 139 = .ok (.iload 4, 2) := by decide +kernel
theorem dX1_holds_141 : decode cX1_holds 141 = .ok (.if_icmp .gt 7, 3) := by decide +kernel
theorem dX1_holds_144 : decode cX1_holds 144 = .ok (.iconst 1, 1) := by decide +kernel
theorem dX1_holds_145 : decode cX1_holds 145 = .ok (.goto 4, 3) := by decide +kernel
theorem dX1_holds_148 : decode cX1_holds 148 = .ok (.iconst 0, 1) := by decide +kernel
theorem dX1_holds_149 : decode cX1_holds 149 = .ok (.ireturn, 1) := by decide +kernel
theorem dX1_holds_150 : decode cX1_holds 150 = .ok (.iload_n 1, 1) := by decide +kernel
theorem dX1_holds_151 : decode cX1_holds 151 = .ok (.iload_n 2, 1) := by decide +kernel
theorem dX1_holds_152 : decode cX1_holds 152 = .ok (.if_icmp .lt 7, 3) := by decide +kernel
theorem dX1_holds_155 : decode cX1_holds 155 = .ok (.iconst 1, 1) := by decide +kernel
theorem dX1_holds_156 : decode cX1_holds 156 = .ok (.goto 4, 3) := by decide +kernel
theorem dX1_holds_159 : decode cX1_holds 159 = .ok (.iconst 0, 1) := by decide +kernel
theorem dX1_holds_160 : decode cX1_holds 160 = .ok (.ireturn, 1) := by decide +kernel
theorem dX1_holds_161 : decode cX1_holds 161 = .ok (.iload_n 1, 1) := by decide +kernel
theorem dX1_holds_162 : decode cX1_holds 162 = .ok (.iload_n 2, 1) := by decide +kernel
theorem dX1_holds_163 : decode cX1_holds 163 = .ok (.if_icmp .ge 7, 3) := by decide +kernel
theorem dX1_holds_166 : decode cX1_holds 166 = .ok (.iconst 1, 1) := by decide +kernel
theorem dX1_holds_167 : decode cX1_holds 167 = .ok (.goto 4, 3) := by decide +kernel
theorem dX1_holds_170 : decode cX1_holds 170 = .ok (.iconst 0, 1) := by decide +kernel
theorem dX1_holds_171 : decode cX1_holds 171 = .ok (.ireturn, 1) := by decide +kernel
theorem dX1_holds_172 : decode cX1_holds 172 = .ok (.iload_n 1, 1) := by decide +kernel
theorem dX1_holds_173 : decode cX1_holds 173 = .ok (.iload_n 2, 1) := by decide +kernel
theorem dX1_holds_174 : decode cX1_holds 174 = .ok (.if_icmp .le 7, 3) := by decide +kernel
theorem dX1_holds_177 : decode cX1_holds 177 = .ok (.iconst 1, 1) := by decide +kernel
theorem dX1_holds_178 : decode cX1_holds 178 = .ok (.goto 4, 3) := by decide +kernel
theorem dX1_holds_181 : decode cX1_holds 181 = .ok (.iconst 0, 1) := by decide +kernel
theorem dX1_holds_182 : decode cX1_holds 182 = .ok (.ireturn, 1) := by decide +kernel
theorem dX1_holds_183 : decode cX1_holds 183 = .ok (.iload_n 1, 1) := by decide +kernel
theorem dX1_holds_184 : decode cX1_holds 184 = .ok (.iload_n 2, 1) := by decide +kernel
theorem dX1_holds_185 : decode cX1_holds 185 = .ok (.if_icmp .gt 7, 3) := by decide +kernel
theorem dX1_holds_188 : decode cX1_holds 188 = .ok (.iconst 1, 1) := by decide +kernel
theorem dX1_holds_189 : decode cX1_holds 189 = .ok (.goto 4, 3) := by decide +kernel
theorem dX1_holds_192 : decode cX1_holds 192 = .ok (.iconst 0, 1) := by decide +kernel
theorem dX1_holds_193 : decode cX1_holds 193 = .ok (.ireturn, 1) := by decide +kernel
end
section
theorem dX2_init_0 : decode cX2_init 0 = .ok (.aload_n 0, 1) := by decide +kernel
theorem dX2_init_1 : decode cX2_init 1 = .ok (.invokespecial 3, 3) := by decide +kernel
theorem dX2_init_4 : decode cX2_init 4 = .ok (.aload_n 0, 1) := by decide +kernel
theorem dX2_init_5 : decode cX2_init 5 = .ok (.bipush 48, 2) := by decide +kernel
theorem dX2_init_7 : decode cX2_init 7 = .ok (.newarray .int, 2) := by decide +kernel
theorem dX2_init_9 : decode cX2_init 9 = .ok (.putfield 9, 3) := by decide +kernel
theorem dX2_init_12 : decode cX2_init 12 = .ok (.aload_n 0, 1) := by decide +kernel
theorem dX2_init_13 : decode cX2_init 13 = .ok (.bipush 48, 2) := by decide +kernel
theorem dX2_init_15 : decode cX2_init 15 = .ok (.newarray .int, 2) := by decide +kernel
theorem dX2_init_17 : decode cX2_init 17 = .ok (.putfield 15, 3) := by decide +kernel
theorem dX2_init_20 : decode cX2_init 20 = .ok (.aload_n 0, 1) := by decide +kernel
theorem dX2_init_21 : decode cX2_init 21 = .ok (.bipush 48, 2) := by decide +kernel
theorem dX2_init_23 : decode cX2_init 23 = .ok (.newarray .int, 2) := by decide +kernel
theorem dX2_init_25 : decode cX2_init 25 = .ok (.putfield 18, 3) := by decide +kernel
theorem dX2_init_28 : decode cX2_init 28 = .ok (.aload_n 0, 1) := by decide +kernel
theorem dX2_init_29 : decode cX2_init 29 = .ok (.bipush 48, 2) := by decide +kernel
theorem dX2_init_31 : decode cX2_init 31 = .ok (.newarray .int, 2) := by decide +kernel
theorem dX2_init_33 : decode cX2_init 33 = .ok (.putfield 21, 3) := by decide +kernel
theorem dX2_init_36 : decode cX2_init 36 = .ok (.aload_n 0, 1) := by decide +kernel
theorem dX2_init_37 : decode cX2_init 37 = .ok (.bipush 48, 2) := by decide +kernel
theorem dX2_init_39 : decode cX2_init 39 = .ok (.newarray .int, 2) := by decide +kernel
theorem dX2_init_41 : decode cX2_init 41 = .ok (.putfield 24, 3) := by decide +kernel
theorem dX2_init_44 : decode cX2_init 44 = .ok (.aload_n 0, 1) := by decide +kernel
theorem dX2_init_45 : decode cX2_init 45 = .ok (.bipush 48, 2) := by decide +kernel
theorem dX2_init_47 : decode cX2_init 47 = .ok (.newarray .int, 2) := by decide +kernel
theorem dX2_init_49 : decode cX2_init 49 = .ok (.putfield 27, 3) := by decide +kernel
theorem dX2_init_52 : decode cX2_init 52 = .ok (.return_, 1) := by decide +kernel
theorem dX2_empty_0 : decode cX2_empty 0 = .ok (.aload_n 0, 1) := by decide +kernel
theorem dX2_empty_1 : decode cX2_empty 1 = .ok (.iconst 0, 1) := by decide +kernel
theorem dX2_empty_2 : decode cX2_empty 2 = .ok (.putfield 30, 3) := by decide +kernel
theorem dX2_empty_5 : decode cX2_empty 5 = .ok (.return_, 1) := by decide +kernel
theorem dX2_add_0 : decode cX2_add 0 = .ok (.aload_n 0, 1) := by decide +kernel
theorem dX2_add_1 : decode cX2_add 1 = .ok (.getfield 30, 3) := by decide +kernel
theorem dX2_add_4 : decode cX2_add 4 = .ok (.istore 7, 2) := by decide +kernel
theorem dX2_add_6 : decode cX2_add 6 = .ok (.aload_n 0, 1) := by decide +kernel
theorem dX2_add_7 : decode cX2_add 7 = .ok (.getfield 9, 3) := by decide +kernel
theorem dX2_add_10 : decode cX2_add 10 = .ok (.iload 7, 2) := by decide +kernel
theorem dX2_add_12 : decode cX2_add 12 = .ok (.iload_n 1, 1) := by decide +kernel
theorem dX2_add_13 : decode cX2_add 13 = .ok (.iastore, 1) := by decide +kernel
theorem dX2_add_14 : decode cX2_add 14 = .ok (.aload_n 0, 1) := by decide +kernel
theorem dX2_add_15 : decode cX2_add 15 = .ok (.getfield 15, 3) := by decide +kernel
theorem dX2_add_18 : decode cX2_add 18 = .ok (.iload 7, 2) := by decide +kernel
theorem dX2_add_20 : decode cX2_add 20 = .ok (.iload_n 2, 1) := by decide +kernel
theorem dX2_add_21 : decode cX2_add 21 = .ok (.iastore, 1) := by decide +kernel
theorem dX2_add_22 : decode cX2_add 22 = .ok (.aload_n 0, 1) := by decide +kernel
theorem dX2_add_23 : decode cX2_add 23 = .ok (.getfield 18, 3) := by decide +kernel
theorem dX2_add_26 : decode cX2_add 26 = .ok (.iload 7, 2) := by decide +kernel
theorem dX2_add_28 : decode cX2_add 28 = .ok (.iload_n 3, 1) := by decide +kernel
theorem dX2_add_29 : decode cX2_add 29 = .ok (.iastore, 1) := by decide +kernel
theorem dX2_add_30 : decode cX2_add 30 = .ok (.aload_n 0, 1) := by decide +kernel
theorem dX2_add_31 : decode cX2_add 31 = .ok (.getfield 21, 3) := by decide +kernel
theorem dX2_add_34 : decode cX2_add 34 = .ok (.iload 7, 2) := by decide +kernel
theorem dX2_add_36 : decode cX2_add 36 = .ok (.iload 4, 2) := by decide +kernel
theorem dX2_add_38 : decode cX2_add 38 = .ok (.iastore, 1) := by decide +kernel
theorem dX2_add_39 : decode cX2_add 39 = .ok (.aload_n 0, 1) := by decide +kernel
theorem dX2_add_40 : decode cX2_add 40 = .ok (.getfield 24, 3) := by decide +kernel
theorem dX2_add_43 : decode cX2_add 43 = .ok (.iload 7, 2) := by decide +kernel
theorem dX2_add_45 : decode cX2_add 45 = .ok (.iload 5, 2) := by decide +kernel
theorem dX2_add_47 : decode cX2_add 47 = .ok (.iastore, 1) := by decide +kernel
theorem dX2_add_48 : decode cX2_add 48 = .ok (.aload_n 0, 1) := by decide +kernel
theorem dX2_add_49 : decode cX2_add 49 = .ok (.getfield 27, 3) := by decide +kernel
theorem dX2_add_52 : decode cX2_add 52 = .ok (.iload 7, 2) := by decide +kernel
theorem dX2_add_54 : decode cX2_add 54 = .ok (.iload 6, 2) := by decide +kernel
theorem dX2_add_56 : decode cX2_add 56 = .ok (.iastore, 1) := by decide +kernel
theorem dX2_add_57 : decode cX2_add 57 = .ok (.aload_n 0, 1) := by decide +kernel
theorem dX2_add_58 : decode cX2_add 58 = .ok (.iload 7, 2) := by decide +kernel
theorem dX2_add_60 : decode cX2_add 60 = .ok (.iconst 1, 1) := by decide +kernel
theorem dX2_add_61 : decode cX2_add 61 = .ok (.iadd, 1) := by decide +kernel
theorem dX2_add_62 : decode cX2_add 62 = .ok (.putfield 30, 3) := by decide +kernel
theorem dX2_add_65 : decode cX2_add 65 = .ok (.iload 7, 2) := by decide +kernel
theorem dX2_add_67 : decode cX2_add 67 = .ok (.ireturn, 1) := by decide +kernel
theorem dX2_canBeForged_0 : decode cX2_canBeForged 0 = .ok (.aload_n 0, 1) := by decide +kernel
theorem dX2_canBeForged_1 : decode cX2_canBeForged 1 = .ok (.getfield 30, 3) := by decide +kernel
theorem dX2_canBeForged_4 : decode cX2_canBeForged 4 = .ok (.ifCond .eq 20, 3) := by decide +kernel
theorem dX2_canBeForged_7 : decode cX2_canBeForged 7 = .ok (.aload_n 0, 1) := by decide +kernel
theorem dX2_canBeForged_8 : decode cX2_canBeForged 8 = .ok (.getfield 9, 3) := by decide +kernel
theorem dX2_canBeForged_11 : decode cX2_canBeForged 11 = .ok (.aload_n 0, 1) := by decide +kernel
theorem dX2_canBeForged_12 : decode cX2_canBeForged 12 = .ok (.getfield 30, 3) := by decide +kernel
theorem dX2_canBeForged_15 : decode cX2_canBeForged 15 = .ok (.iconst 1, 1) := by decide +kernel
theorem dX2_canBeForged_16 : decode cX2_canBeForged 16 = .ok (.isub, 1) := by decide +kernel
theorem dX2_canBeForged_17 : decode cX2_canBeForged 17 = .ok (.iaload, 1) := by decide +kernel
theorem dX2_canBeForged_18 : decode cX2_canBeForged 18 = .ok (.invokestatic 34, 3) := by decide +kernel
theorem dX2_canBeForged_21 : decode cX2_canBeForged 21 = .ok (.ifCond .ne 5, 3) := by decide +kernel
theorem dX2_canBeForged_24 : decode cX2_canBeForged 24 = .ok (.iconst 0, 1) := by decide +kernel
theorem dX2_canBeForged_25 : decode cX2_canBeForged 25 = .ok (.ireturn, 1) := by decide +kernel
theorem dX2_canBeForged_26 : decode cX2_canBeForged 26 = .ok (.iconst 0, 1) := by decide +kernel
theorem dX2_canBeForged_27 : decode cX2_canBeForged 27 = .ok (.istore_n 1, 1) := by decide +kernel
theorem dX2_canBeForged_28 : decode cX2_canBeForged 28 = .ok (.iload_n 1, 1) := by decide +kernel
theorem dX2_canBeForged_29 : decode cX2_canBeForged 29 = .ok (.aload_n 0, 1) := by decide +kernel
theorem dX2_canBeForged_30 : decode cX2_canBeForged 30 = .ok (.getfield 30, 3) := by decide +kernel
theorem dX2_canBeForged_33 : decode cX2_canBeForged 33 = .ok (.if_icmp .ge 44, 3) := by decide +kernel
theorem dX2_canBeForged_36 : decode cX2_canBeForged 36 = .ok (.aload_n 0, 1) := by decide +kernel
theorem dX2_canBeForged_37 : decode cX2_canBeForged 37 = .ok (.getfield 9, 3) := by decide +kernel
theorem dX2_canBeForged_40 : decode cX2_canBeForged 40 = .ok (.iload_n 1, 1) := by decide +kernel
theorem dX2_canBeForged_41 : decode cX2_canBeForged 41 = .ok (.iaload, 1) := by decide +kernel
theorem dX2_canBeForged_42 : decode cX2_canBeForged 42 = .ok (.iconst 4, 1) := by decide +kernel
theorem dX2_canBeForged_43 : decode cX2_canBeForged 43 = .ok (.if_icmp .eq 13, 3) := by decide +kernel
theorem dX2_canBeForged_46 : decode cX2_canBeForged 46 = .ok (.aload_n 0, 1) := by decide +kernel
theorem dX2_canBeForged_47 : decode cX2_canBeForged 47 = .ok (.getfield 9, 3) := by decide +kernel
theorem dX2_canBeForged_50 : decode cX2_canBeForged 50 = .ok (.iload_n 1, 1) := by decide +kernel
theorem dX2_canBeForged_51 : decode cX2_canBeForged 51 = .ok (.iaload, 1) := by decide +kernel
theorem dX2_canBeForged_52 : decode cX2_canBeForged 52 = .ok (.iconst 5, 1) := by decide +kernel
theorem dX2_canBeForged_53 : decode cX2_canBeForged 53 = .ok (.if_icmp .ne 18, 3) := by decide +kernel
theorem dX2_canBeForged_56 : decode cX2_canBeForged 56 = .ok (.aload_n 0, 1) := by decide +kernel
theorem dX2_canBeForged_57 : decode cX2_canBeForged 57 = .ok (.getfield 27, 3) := by decide +kernel
theorem dX2_canBeForged_60 : decode cX2_canBeForged 60 = .ok (.iload_n 1, 1) := by decide +kernel
theorem dX2_canBeForged_61 : decode cX2_canBeForged 61 = .ok (.iaload, 1) := by decide +kernel
theorem dX2_canBeForged_62 : decode cX2_canBeForged 62 = .ok (.aload_n 0, 1) := by decide +kernel
theorem dX2_canBeForged_63 : decode cX2_canBeForged 63 = .ok (.getfield 30, 3) := by decide +kernel
theorem dX2_canBeForged_66 : decode cX2_canBeForged 66 = .ok (.if_icmp .lt 5, 3) := by decide +kernel
theorem dX2_canBeForged_69 : decode cX2_canBeForged 69 = .ok (.iconst 0, 1) := by decide +kernel
theorem dX2_canBeForged_70 : decode cX2_canBeForged 70 = .ok (.ireturn, 1) := by decide +kernel
theorem dX2_canBeForged_71 : decode cX2_canBeForged 71 = .ok (.iinc 1 1, 3) := by decide +kernel
theorem dX2_canBeForged_74 : decode cX2_canBeForged 74 = .ok (.goto (-46), 3) := by decide +kernel
theorem dX2_canBeForged_77 : decode cX2_canBeForged 77 = .ok (.iconst 1, 1) := by decide +kernel
theorem dX2_canBeForged_78 : decode cX2_canBeForged 78 = .ok (.ireturn, 1) := by decide +kernel
theorem dX2_neverGoesOnBehind_0 : decode cX2_neverGoesOnBehind 0 = .ok (.iload_n 0, 1) := by decide +kernel
theorem dX2_neverGoesOnBehind_1 : decode cX2_neverGoesOnBehind 1 = .ok (.iconst 4, 1) := by decide +kernel
theorem dX2_neverGoesOnBehind_2 : decode cX2_neverGoesOnBehind 2 = .ok (.if_icmp .eq 15, 3) := by decide +kernel
theorem dX2_neverGoesOnBehind_5 : decode cX2_neverGoesOnBehind 5 = .ok (.iload_n 0, 1) := by decide +kernel
theorem dX2_neverGoesOnBehind_6 : decode cX2_neverGoesOnBehind 6 = .ok (.bipush 7, 2) := by decide +kernel
theorem dX2_neverGoesOnBehind_8 : decode cX2_neverGoesOnBehind 8 = .ok (.if_icmp .eq 9, 3) := by decide +kernel
theorem dX2_neverGoesOnBehind_11 : decode cX2_neverGoesOnBehind 11 = .ok (.iload_n 0, 1) := by decide +kernel
theorem dX2_neverGoesOnBehind_12 : decode cX2_neverGoesOnBehind 12 = .ok (.bipush 8, 2) := by decide +kernel
theorem dX2_neverGoesOnBehind_14 : decode cX2_neverGoesOnBehind 14 = .ok (.if_icmp .ne 7, 3) := by decide +kernel
theorem dX2_neverGoesOnBehind_17 : decode cX2_neverGoesOnBehind 17 = .ok (.iconst 1, 1) := by decide +kernel
theorem dX2_neverGoesOnBehind_18 : decode cX2_neverGoesOnBehind 18 = .ok (.goto 4, 3) := by decide +kernel
theorem dX2_neverGoesOnBehind_21 : decode cX2_neverGoesOnBehind 21 = .ok (.iconst 0, 1) := by decide +kernel
theorem dX2_neverGoesOnBehind_22 : decode cX2_neverGoesOnBehind 22 = .ok (.ireturn, 1) := by decide +kernel
end
section
theorem dX3_init_0 : decode cX3_init 0 = .ok (.aload_n 0, 1) := by decide +kernel
theorem dX3_init_1 : decode cX3_init 1 = .ok (.invokespecial 1, 3) := by decide +kernel
theorem dX3_init_4 : decode cX3_init 4 = .ok (.aload_n 0, 1) := by decide +kernel
theorem dX3_init_5 : decode cX3_init 5 = .ok (.new 7, 3) := by decide +kernel
theorem dX3_init_8 : decode cX3_init 8 = .ok (.dup, 1) := by decide +kernel
theorem dX3_init_9 : decode cX3_init 9 = .ok (.invokespecial 9, 3) := by decide +kernel
theorem dX3_init_12 : decode cX3_init 12 = .ok (.putfield 10, 3) := by decide +kernel
theorem dX3_init_15 : decode cX3_init 15 = .ok (.aload_n 0, 1) := by decide +kernel
theorem dX3_init_16 : decode cX3_init 16 = .ok (.new 16, 3) := by decide +kernel
theorem dX3_init_19 : decode cX3_init 19 = .ok (.dup, 1) := by decide +kernel
theorem dX3_init_20 : decode cX3_init 20 = .ok (.aload_n 0, 1) := by decide +kernel
theorem dX3_init_21 : decode cX3_init 21 = .ok (.getfield 10, 3) := by decide +kernel
theorem dX3_init_24 : decode cX3_init 24 = .ok (.invokespecial 18, 3) := by decide +kernel
theorem dX3_init_27 : decode cX3_init 27 = .ok (.putfield 21, 3) := by decide +kernel
theorem dX3_init_30 : decode cX3_init 30 = .ok (.aload_n 0, 1) := by decide +kernel
theorem dX3_init_31 : decode cX3_init 31 = .ok (.new 25, 3) := by decide +kernel
theorem dX3_init_34 : decode cX3_init 34 = .ok (.dup, 1) := by decide +kernel
theorem dX3_init_35 : decode cX3_init 35 = .ok (.aload_n 0, 1) := by decide +kernel
theorem dX3_init_36 : decode cX3_init 36 = .ok (.getfield 10, 3) := by decide +kernel
theorem dX3_init_39 : decode cX3_init 39 = .ok (.aload_n 0, 1) := by decide +kernel
theorem dX3_init_40 : decode cX3_init 40 = .ok (.getfield 21, 3) := by decide +kernel
theorem dX3_init_43 : decode cX3_init 43 = .ok (.invokespecial 27, 3) := by decide +kernel
theorem dX3_init_46 : decode cX3_init 46 = .ok (.putfield 30, 3) := by decide +kernel
theorem dX3_init_49 : decode cX3_init 49 = .ok (.return_, 1) := by decide +kernel
theorem dX3_constant_0 : decode cX3_constant 0 = .ok (.iload_n 1, 1) := by decide +kernel
theorem dX3_constant_1 : decode cX3_constant 1 = .ok (.invokestatic 34, 3) := by decide +kernel
theorem dX3_constant_4 : decode cX3_constant 4 = .ok (.aload_n 0, 1) := by decide +kernel
theorem dX3_constant_5 : decode cX3_constant 5 = .ok (.iconst 0, 1) := by decide +kernel
theorem dX3_constant_6 : decode cX3_constant 6 = .ok (.iconst 0, 1) := by decide +kernel
theorem dX3_constant_7 : decode cX3_constant 7 = .ok (.iload_n 1, 1) := by decide +kernel
theorem dX3_constant_8 : decode cX3_constant 8 = .ok (.iconst 0, 1) := by decide +kernel
theorem dX3_constant_9 : decode cX3_constant 9 = .ok (.iconst 0, 1) := by decide +kernel
theorem dX3_constant_10 : decode cX3_constant 10 = .ok (.iload_n 2, 1) := by decide +kernel
theorem dX3_constant_11 : decode cX3_constant 11 = .ok (.invokevirtual 38, 3) := by decide +kernel
theorem dX3_constant_14 : decode cX3_constant 14 = .ok (.ireturn, 1) := by decide +kernel
theorem dX3_compute_0 : decode cX3_compute 0 = .ok (.iload_n 1, 1) := by decide +kernel
theorem dX3_compute_1 : decode cX3_compute 1 = .ok (.ifCond .lt 9, 3) := by decide +kernel
theorem dX3_compute_4 : decode cX3_compute 4 = .ok (.iload_n 1, 1) := by decide +kernel
theorem dX3_compute_5 : decode cX3_compute 5 = .ok (.bipush 7, 2) := by decide +kernel
theorem dX3_compute_7 : decode cX3_compute 7 = .ok (.if_icmp .le 13, 3) := by decide +kernel
theorem dX3_compute_10 : decode cX3_compute 10 = .ok (.new 42, 3) := by decide +kernel
theorem dX3_compute_13 : decode cX3_compute 13 = .ok (.dup, 1) := by decide +kernel
theorem dX3_compute_14 : decode cX3_compute 14 = .ok (.ldc 44, 2) := by decide +kernel
theorem dX3_compute_16 : decode cX3_compute 16 = .ok (.invokespecial 46, 3) := by decide +kernel
theorem dX3_compute_19 : decode cX3_compute 19 = .ok (.athrow, 1) := by decide +kernel
theorem dX3_compute_20 : decode cX3_compute 20 = .ok (.iload_n 2, 1) := by decide +kernel
theorem dX3_compute_21 : decode cX3_compute 21 = .ok (.invokestatic 34, 3) := by decide +kernel
theorem dX3_compute_24 : decode cX3_compute 24 = .ok (.iload_n 3, 1) := by decide +kernel
theorem dX3_compute_25 : decode cX3_compute 25 = .ok (.invokestatic 34, 3) := by decide +kernel
theorem dX3_compute_28 : decode cX3_compute 28 = .ok (.iload 4, 2) := by decide +kernel
theorem dX3_compute_30 : decode cX3_compute 30 = .ok (.invokestatic 34, 3) := by decide +kernel
theorem dX3_compute_33 : decode cX3_compute 33 = .ok (.aload_n 0, 1) := by decide +kernel
theorem dX3_compute_34 : decode cX3_compute 34 = .ok (.iconst 1, 1) := by decide +kernel
theorem dX3_compute_35 : decode cX3_compute 35 = .ok (.iload_n 1, 1) := by decide +kernel
theorem dX3_compute_36 : decode cX3_compute 36 = .ok (.iload_n 2, 1) := by decide +kernel
theorem dX3_compute_37 : decode cX3_compute 37 = .ok (.iload_n 3, 1) := by decide +kernel
theorem dX3_compute_38 : decode cX3_compute 38 = .ok (.iload 4, 2) := by decide +kernel
theorem dX3_compute_40 : decode cX3_compute 40 = .ok (.iconst 0, 1) := by decide +kernel
theorem dX3_compute_41 : decode cX3_compute 41 = .ok (.invokevirtual 38, 3) := by decide +kernel
theorem dX3_compute_44 : decode cX3_compute 44 = .ok (.ireturn, 1) := by decide +kernel
theorem dX3_load_0 : decode cX3_load 0 = .ok (.iload_n 1, 1) := by decide +kernel
theorem dX3_load_1 : decode cX3_load 1 = .ok (.invokestatic 34, 3) := by decide +kernel
theorem dX3_load_4 : decode cX3_load 4 = .ok (.iload_n 2, 1) := by decide +kernel
theorem dX3_load_5 : decode cX3_load 5 = .ok (.invokestatic 34, 3) := by decide +kernel
theorem dX3_load_8 : decode cX3_load 8 = .ok (.aload_n 0, 1) := by decide +kernel
theorem dX3_load_9 : decode cX3_load 9 = .ok (.iconst 2, 1) := by decide +kernel
theorem dX3_load_10 : decode cX3_load 10 = .ok (.iconst 0, 1) := by decide +kernel
theorem dX3_load_11 : decode cX3_load 11 = .ok (.iload_n 1, 1) := by decide +kernel
theorem dX3_load_12 : decode cX3_load 12 = .ok (.iload_n 2, 1) := by decide +kernel
theorem dX3_load_13 : decode cX3_load 13 = .ok (.iconst 0, 1) := by decide +kernel
theorem dX3_load_14 : decode cX3_load 14 = .ok (.iconst 0, 1) := by decide +kernel
theorem dX3_load_15 : decode cX3_load 15 = .ok (.invokevirtual 38, 3) := by decide +kernel
theorem dX3_load_18 : decode cX3_load 18 = .ok (.ireturn, 1) := by decide +kernel
theorem dX3_store_0 : decode cX3_store 0 = .ok (.iload_n 1, 1) := by decide +kernel
theorem dX3_store_1 : decode cX3_store 1 = .ok (.invokestatic 34, 3) := by decide +kernel
theorem dX3_store_4 : decode cX3_store 4 = .ok (.iload_n 2, 1) := by decide +kernel
theorem dX3_store_5 : decode cX3_store 5 = .ok (.invokestatic 34, 3) := by decide +kernel
theorem dX3_store_8 : decode cX3_store 8 = .ok (.aload_n 0, 1) := by decide +kernel
theorem dX3_store_9 : decode cX3_store 9 = .ok (.iconst 3, 1) := by decide +kernel
theorem dX3_store_10 : decode cX3_store 10 = .ok (.iconst 0, 1) := by decide +kernel
theorem dX3_store_11 : decode cX3_store 11 = .ok (.iconst 0, 1) := by decide +kernel
theorem dX3_store_12 : decode cX3_store 12 = .ok (.iload_n 1, 1) := by decide +kernel
theorem dX3_store_13 : decode cX3_store 13 = .ok (.iload_n 2, 1) := by decide +kernel
theorem dX3_store_14 : decode cX3_store 14 = .ok (.iconst 0, 1) := by decide +kernel
theorem dX3_store_15 : decode cX3_store 15 = .ok (.invokevirtual 38, 3) := by decide +kernel
theorem dX3_store_18 : decode cX3_store 18 = .ok (.ireturn, 1) := by decide +kernel
theorem dX3_jump_0 : decode cX3_jump 0 = .ok (.iload_n 1, 1) := by decide +kernel
theorem dX3_jump_1 : decode cX3_jump 1 = .ok (.invokestatic 49, 3) := by decide +kernel
theorem dX3_jump_4 : decode cX3_jump 4 = .ok (.aload_n 0, 1) := by decide +kernel
theorem dX3_jump_5 : decode cX3_jump 5 = .ok (.iconst 4, 1) := by decide +kernel
theorem dX3_jump_6 : decode cX3_jump 6 = .ok (.iconst 0, 1) := by decide +kernel
theorem dX3_jump_7 : decode cX3_jump 7 = .ok (.iconst 0, 1) := by decide +kernel
theorem dX3_jump_8 : decode cX3_jump 8 = .ok (.iconst 0, 1) := by decide +kernel
theorem dX3_jump_9 : decode cX3_jump 9 = .ok (.iconst 0, 1) := by decide +kernel
theorem dX3_jump_10 : decode cX3_jump 10 = .ok (.iload_n 1, 1) := by decide +kernel
theorem dX3_jump_11 : decode cX3_jump 11 = .ok (.invokevirtual 38, 3) := by decide +kernel
theorem dX3_jump_14 : decode cX3_jump 14 = .ok (.ireturn, 1) := by decide +kernel
theorem dX3_branch_0 : decode cX3_branch 0 = .ok (.iload_n 1, 1) := by decide +kernel
theorem dX3_branch_1 : decode cX3_branch 1 = .ok (.invokestatic 52, 3) := by decide +kernel
theorem dX3_branch_4 : decode cX3_branch 4 = .ok (.ifCond .ne 13, 3) := by decide +kernel
theorem dX3_branch_7 : decode cX3_branch 7 = .ok (.new 42, 3) := by decide +kernel
theorem dX3_branch_10 : decode cX3_branch 10 = .ok (.dup, 1) := by decide +kernel
theorem dX3_branch_11 : decode cX3_branch 11 = .ok (.ldc 56, 2) := by decide +kernel
theorem dX3_branch_13 : decode cX3_branch 13 = .ok (.invokespecial 46, 3) := by decide +kernel
theorem dX3_branch_16 : decode cX3_branch 16 = .ok (.athrow, 1) := by decide +kernel
theorem dX3_branch_17 : decode cX3_branch 17 = .ok (.iload_n 2, 1) := by decide +kernel
theorem dX3_branch_18 : decode cX3_branch 18 = .ok (.invokestatic 34, 3) := by decide +kernel
theorem dX3_branch_21 : decode cX3_branch 21 = .ok (.iload_n 3, 1) := by decide +kernel
theorem dX3_branch_22 : decode cX3_branch 22 = .ok (.invokestatic 34, 3) := by decide +kernel
theorem dX3_branch_25 : decode cX3_branch 25 = .ok (.iload 4, 2) := by decide +kernel
theorem dX3_branch_27 : decode cX3_branch 27 = .ok (.invokestatic 49, 3) := by decide +kernel
theorem dX3_branch_30 : decode cX3_branch 30 = .ok (.aload_n 0, 1) := by decide +kernel
theorem dX3_branch_31 : decode cX3_branch 31 = .ok (.iconst 5, 1) := by decide +kernel
theorem dX3_branch_32 : decode cX3_branch 32 = .ok (.iload_n 1, 1) := by decide +kernel
theorem dX3_branch_33 : decode cX3_branch 33 = .ok (.iconst 0, 1) := by decide +kernel
theorem dX3_branch_34 : decode cX3_branch 34 = .ok (.iload_n 2, 1) := by decide +kernel
theorem dX3_branch_35 : decode cX3_branch 35 = .ok (.iload_n 3, 1) := by decide +kernel
theorem dX3_branch_36 : decode cX3_branch 36 = .ok (.iload 4, 2) := by decide +kernel
theorem dX3_branch_38 : decode cX3_branch 38 = .ok (.invokevirtual 38, 3) := by decide +kernel
theorem dX3_branch_41 : decode cX3_branch 41 = .ok (.ireturn, 1) := by decide +kernel
theorem dX3_out_0 : decode cX3_out 0 = .ok (.iload_n 1, 1) := by decide +kernel
theorem dX3_out_1 : decode cX3_out 1 = .ok (.invokestatic 34, 3) := by decide +kernel
theorem dX3_out_4 : decode cX3_out 4 = .ok (.aload_n 0, 1) := by decide +kernel
theorem dX3_out_5 : decode cX3_out 5 = .ok (.bipush 6, 2) := by decide +kernel
theorem dX3_out_7 : decode cX3_out 7 = .ok (.iconst 0, 1) := by decide +kernel
theorem dX3_out_8 : decode cX3_out 8 = .ok (.iconst 0, 1) := by decide +kernel
theorem dX3_out_9 : decode cX3_out 9 = .ok (.iload_n 1, 1) := by decide +kernel
theorem dX3_out_10 : decode cX3_out 10 = .ok (.iconst 0, 1) := by decide +kernel
theorem dX3_out_11 : decode cX3_out 11 = .ok (.iconst 0, 1) := by decide +kernel
theorem dX3_out_12 : decode cX3_out 12 = .ok (.invokevirtual 38, 3) := by decide +kernel
theorem dX3_out_15 : decode cX3_out 15 = .ok (.ireturn, 1) := by decide +kernel
theorem dX3_stop_0 : decode cX3_stop 0 = .ok (.iload_n 1, 1) := by decide +kernel
theorem dX3_stop_1 : decode cX3_stop 1 = .ok (.iconst (-1), 1) := by decide +kernel
theorem dX3_stop_2 : decode cX3_stop 2 = .ok (.if_icmp .lt 10, 3) := by decide +kernel
theorem dX3_stop_5 : decode cX3_stop 5 = .ok (.iload_n 1, 1) := by decide +kernel
theorem dX3_stop_6 : decode cX3_stop 6 = .ok (.sipush 255, 3) := by decide +kernel
theorem dX3_stop_9 : decode cX3_stop 9 = .ok (.if_icmp .le 13, 3) := by decide +kernel
theorem dX3_stop_12 : decode cX3_stop 12 = .ok (.new 42, 3) := by decide +kernel
theorem dX3_stop_15 : decode cX3_stop 15 = .ok (.dup, 1) := by decide +kernel
theorem dX3_stop_16 : decode cX3_stop 16 = .ok (.ldc 58, 2) := by decide +kernel
theorem dX3_stop_18 : decode cX3_stop 18 = .ok (.invokespecial 46, 3) := by decide +kernel
theorem dX3_stop_21 : decode cX3_stop 21 = .ok (.athrow, 1) := by decide +kernel
theorem dX3_stop_22 : decode cX3_stop 22 = .ok (.iload_n 1, 1) := by decide +kernel
theorem dX3_stop_23 : decode cX3_stop 23 = .ok (.iconst (-1), 1) := by decide +kernel
theorem dX3_stop_24 : decode cX3_stop 24 = .ok (.if_icmp .ne 17, 3) := by decide +kernel
theorem dX3_stop_27 : decode cX3_stop 27 = .ok (.aload_n 0, 1) := by decide +kernel
theorem dX3_stop_28 : decode cX3_stop 28 = .ok (.bipush 7, 2) := by decide +kernel
theorem dX3_stop_30 : decode cX3_stop 30 = .ok (.iconst 0, 1) := by decide +kernel
theorem dX3_stop_31 : decode cX3_stop 31 = .ok (.iconst 0, 1) := by decide +kernel
theorem dX3_stop_32 : decode cX3_stop 32 = .ok (.iconst 0, 1) := by decide +kernel
theorem dX3_stop_33 : decode cX3_stop 33 = .ok (.iconst 0, 1) := by decide +kernel
theorem dX3_stop_34 : decode cX3_stop 34 = .ok (.iconst 0, 1) := by decide +kernel
theorem dX3_stop_35 : decode cX3_stop 35 = .ok (.invokevirtual 38, 3) := by decide +kernel
theorem dX3_stop_38 : decode cX3_stop 38 = .ok (.goto 14, 3) := by decide +kernel
theorem dX3_stop_41 : decode cX3_stop 41 = .ok (.aload_n 0, 1) := by decide +kernel
theorem dX3_stop_42 : decode cX3_stop 42 = .ok (.bipush 8, 2) := by decide +kernel
theorem dX3_stop_44 : decode cX3_stop 44 = .ok (.iconst 0, 1) := by decide +kernel
theorem dX3_stop_45 : decode cX3_stop 45 = .ok (.iconst 0, 1) := by decide +kernel
theorem dX3_stop_46 : decode cX3_stop 46 = .ok (.iconst 0, 1) := by decide +kernel
theorem dX3_stop_47 : decode cX3_stop 47 = .ok (.iconst 0, 1) := by decide +kernel
theorem dX3_stop_48 : decode cX3_stop 48 = .ok (.iload_n 1, 1) := by decide +kernel
theorem dX3_stop_49 : decode cX3_stop 49 = .ok (.invokevirtual 38, 3) := by decide +kernel
theorem dX3_stop_52 : decode cX3_stop 52 = .ok (.ireturn, 1) := by decide +kernel
theorem dX3_clear_0 : decode cX3_clear 0 = .ok (.aload_n 0, 1) := by decide +kernel
theorem dX3_clear_1 : decode cX3_clear 1 = .ok (.getfield 10, 3) := by decide +kernel
theorem dX3_clear_4 : decode cX3_clear 4 = .ok (.invokevirtual 60, 3) := by decide +kernel
theorem dX3_clear_7 : decode cX3_clear 7 = .ok (.aload_n 0, 1) := by decide +kernel
theorem dX3_clear_8 : decode cX3_clear 8 = .ok (.invokevirtual 63, 3) := by decide +kernel
theorem dX3_clear_11 : decode cX3_clear 11 = .ok (.return_, 1) := by decide +kernel
theorem dX3_forge_0 : decode cX3_forge 0 = .ok (.aload_n 0, 1) := by decide +kernel
theorem dX3_forge_1 : decode cX3_forge 1 = .ok (.getfield 10, 3) := by decide +kernel
theorem dX3_forge_4 : decode cX3_forge 4 = .ok (.invokevirtual 66, 3) := by decide +kernel
theorem dX3_forge_7 : decode cX3_forge 7 = .ok (.ifCond .ne 13, 3) := by decide +kernel
theorem dX3_forge_10 : decode cX3_forge 10 = .ok (.new 70, 3) := by decide +kernel
theorem dX3_forge_13 : decode cX3_forge 13 = .ok (.dup, 1) := by decide +kernel
theorem dX3_forge_14 : decode cX3_forge 14 = .ok (.ldc 72, 2) := by decide +kernel
theorem dX3_forge_16 : decode cX3_forge 16 = .ok (.invokespecial 74, 3) := by decide +kernel
theorem dX3_forge_19 : decode cX3_forge 19 = .ok (.athrow, 1) := by decide +kernel
theorem dX3_forge_20 : decode cX3_forge 20 = .ok (.aload_n 0, 1) := by decide +kernel
theorem dX3_forge_21 : decode cX3_forge 21 = .ok (.getfield 30, 3) := by decide +kernel
theorem dX3_forge_24 : decode cX3_forge 24 = .ok (.invokevirtual 75, 3) := by decide +kernel
theorem dX3_forge_27 : decode cX3_forge 27 = .ok (.aload_n 0, 1) := by decide +kernel
theorem dX3_forge_28 : decode cX3_forge 28 = .ok (.getfield 21, 3) := by decide +kernel
theorem dX3_forge_31 : decode cX3_forge 31 = .ok (.invokevirtual 78, 3) := by decide +kernel
theorem dX3_forge_34 : decode cX3_forge 34 = .ok (.aload_n 0, 1) := by decide +kernel
theorem dX3_forge_35 : decode cX3_forge 35 = .ok (.getfield 21, 3) := by decide +kernel
theorem dX3_forge_38 : decode cX3_forge 38 = .ok (.getfield 81, 3) := by decide +kernel
theorem dX3_forge_41 : decode cX3_forge 41 = .ok (.ireturn, 1) := by decide +kernel
theorem dX3_halfword_0 : decode cX3_halfword 0 = .ok (.aload_n 0, 1) := by decide +kernel
theorem dX3_halfword_1 : decode cX3_halfword 1 = .ok (.getfield 21, 3) := by decide +kernel
theorem dX3_halfword_4 : decode cX3_halfword 4 = .ok (.getfield 85, 3) := by decide +kernel
theorem dX3_halfword_7 : decode cX3_halfword 7 = .ok (.ifCond .eq 18, 3) := by decide +kernel
theorem dX3_halfword_10 : decode cX3_halfword 10 = .ok (.iload_n 1, 1) := by decide +kernel
theorem dX3_halfword_11 : decode cX3_halfword 11 = .ok (.ifCond .lt 14, 3) := by decide +kernel
theorem dX3_halfword_14 : decode cX3_halfword 14 = .ok (.iload_n 1, 1) := by decide +kernel
theorem dX3_halfword_15 : decode cX3_halfword 15 = .ok (.aload_n 0, 1) := by decide +kernel
theorem dX3_halfword_16 : decode cX3_halfword 16 = .ok (.getfield 21, 3) := by decide +kernel
theorem dX3_halfword_19 : decode cX3_halfword 19 = .ok (.getfield 81, 3) := by decide +kernel
theorem dX3_halfword_22 : decode cX3_halfword 22 = .ok (.if_icmp .lt 13, 3) := by decide +kernel
theorem dX3_halfword_25 : decode cX3_halfword 25 = .ok (.new 89, 3) := by decide +kernel
theorem dX3_halfword_28 : decode cX3_halfword 28 = .ok (.dup, 1) := by decide +kernel
theorem dX3_halfword_29 : decode cX3_halfword 29 = .ok (.ldc 91, 2) := by decide +kernel
theorem dX3_halfword_31 : decode cX3_halfword 31 = .ok (.invokespecial 93, 3) := by decide +kernel
theorem dX3_halfword_34 : decode cX3_halfword 34 = .ok (.athrow, 1) := by decide +kernel
theorem dX3_halfword_35 : decode cX3_halfword 35 = .ok (.aload_n 0, 1) := by decide +kernel
theorem dX3_halfword_36 : decode cX3_halfword 36 = .ok (.getfield 21, 3) := by decide +kernel
theorem dX3_halfword_39 : decode cX3_halfword 39 = .ok (.getfield 94, 3) := by decide +kernel
theorem dX3_halfword_42 : decode cX3_halfword 42 = .ok (.iload_n 1, 1) := by decide +kernel
theorem dX3_halfword_43 : decode cX3_halfword 43 = .ok (.iaload, 1) := by decide +kernel
theorem dX3_halfword_44 : decode cX3_halfword 44 = .ok (.ireturn, 1) := by decide +kernel
theorem dX3_place_0 : decode cX3_place 0 = .ok (.aload_n 0, 1) := by decide +kernel
theorem dX3_place_1 : decode cX3_place 1 = .ok (.getfield 21, 3) := by decide +kernel
theorem dX3_place_4 : decode cX3_place 4 = .ok (.getfield 85, 3) := by decide +kernel
theorem dX3_place_7 : decode cX3_place 7 = .ok (.ifCond .eq 18, 3) := by decide +kernel
theorem dX3_place_10 : decode cX3_place 10 = .ok (.iload_n 1, 1) := by decide +kernel
theorem dX3_place_11 : decode cX3_place 11 = .ok (.ifCond .lt 14, 3) := by decide +kernel
theorem dX3_place_14 : decode cX3_place 14 = .ok (.iload_n 1, 1) := by decide +kernel
theorem dX3_place_15 : decode cX3_place 15 = .ok (.aload_n 0, 1) := by decide +kernel
theorem dX3_place_16 : decode cX3_place 16 = .ok (.getfield 10, 3) := by decide +kernel
theorem dX3_place_19 : decode cX3_place 19 = .ok (.getfield 98, 3) := by decide +kernel
theorem dX3_place_22 : decode cX3_place 22 = .ok (.if_icmp .lt 13, 3) := by decide +kernel
theorem dX3_place_25 : decode cX3_place 25 = .ok (.new 89, 3) := by decide +kernel
theorem dX3_place_28 : decode cX3_place 28 = .ok (.dup, 1) := by decide +kernel
theorem dX3_place_29 : decode cX3_place 29 = .ok (.ldc 101, 2) := by decide +kernel
theorem dX3_place_31 : decode cX3_place 31 = .ok (.invokespecial 93, 3) := by decide +kernel
theorem dX3_place_34 : decode cX3_place 34 = .ok (.athrow, 1) := by decide +kernel
theorem dX3_place_35 : decode cX3_place 35 = .ok (.aload_n 0, 1) := by decide +kernel
theorem dX3_place_36 : decode cX3_place 36 = .ok (.getfield 21, 3) := by decide +kernel
theorem dX3_place_39 : decode cX3_place 39 = .ok (.getfield 103, 3) := by decide +kernel
theorem dX3_place_42 : decode cX3_place 42 = .ok (.iload_n 1, 1) := by decide +kernel
theorem dX3_place_43 : decode cX3_place 43 = .ok (.iaload, 1) := by decide +kernel
theorem dX3_place_44 : decode cX3_place 44 = .ok (.ireturn, 1) := by decide +kernel
theorem dX3_poke_0 : decode cX3_poke 0 = .ok (.iload_n 1, 1) := by decide +kernel
theorem dX3_poke_1 : decode cX3_poke 1 = .ok (.invokestatic 106, 3) := by decide +kernel
theorem dX3_poke_4 : decode cX3_poke 4 = .ok (.aload_n 0, 1) := by decide +kernel
theorem dX3_poke_5 : decode cX3_poke 5 = .ok (.getfield 30, 3) := by decide +kernel
theorem dX3_poke_8 : decode cX3_poke 8 = .ok (.getfield 109, 3) := by decide +kernel
theorem dX3_poke_11 : decode cX3_poke 11 = .ok (.iload_n 1, 1) := by decide +kernel
theorem dX3_poke_12 : decode cX3_poke 12 = .ok (.iload_n 2, 1) := by decide +kernel
theorem dX3_poke_13 : decode cX3_poke 13 = .ok (.iastore, 1) := by decide +kernel
theorem dX3_poke_14 : decode cX3_poke 14 = .ok (.return_, 1) := by decide +kernel
theorem dX3_memory_0 : decode cX3_memory 0 = .ok (.iload_n 1, 1) := by decide +kernel
theorem dX3_memory_1 : decode cX3_memory 1 = .ok (.invokestatic 106, 3) := by decide +kernel
theorem dX3_memory_4 : decode cX3_memory 4 = .ok (.aload_n 0, 1) := by decide +kernel
theorem dX3_memory_5 : decode cX3_memory 5 = .ok (.getfield 30, 3) := by decide +kernel
theorem dX3_memory_8 : decode cX3_memory 8 = .ok (.getfield 109, 3) := by decide +kernel
theorem dX3_memory_11 : decode cX3_memory 11 = .ok (.iload_n 1, 1) := by decide +kernel
theorem dX3_memory_12 : decode cX3_memory 12 = .ok (.iaload, 1) := by decide +kernel
theorem dX3_memory_13 : decode cX3_memory 13 = .ok (.ireturn, 1) := by decide +kernel
theorem dX3_start_0 : decode cX3_start 0 = .ok (.aload_n 0, 1) := by decide +kernel
theorem dX3_start_1 : decode cX3_start 1 = .ok (.getfield 21, 3) := by decide +kernel
theorem dX3_start_4 : decode cX3_start 4 = .ok (.getfield 85, 3) := by decide +kernel
theorem dX3_start_7 : decode cX3_start 7 = .ok (.ifCond .ne 13, 3) := by decide +kernel
theorem dX3_start_10 : decode cX3_start 10 = .ok (.new 70, 3) := by decide +kernel
theorem dX3_start_13 : decode cX3_start 13 = .ok (.dup, 1) := by decide +kernel
theorem dX3_start_14 : decode cX3_start 14 = .ok (.ldc 112, 2) := by decide +kernel
theorem dX3_start_16 : decode cX3_start 16 = .ok (.invokespecial 74, 3) := by decide +kernel
theorem dX3_start_19 : decode cX3_start 19 = .ok (.athrow, 1) := by decide +kernel
theorem dX3_start_20 : decode cX3_start 20 = .ok (.aload_n 0, 1) := by decide +kernel
theorem dX3_start_21 : decode cX3_start 21 = .ok (.getfield 30, 3) := by decide +kernel
theorem dX3_start_24 : decode cX3_start 24 = .ok (.invokevirtual 114, 3) := by decide +kernel
theorem dX3_start_27 : decode cX3_start 27 = .ok (.return_, 1) := by decide +kernel
theorem dX3_run_0 : decode cX3_run 0 = .ok (.iload_n 1, 1) := by decide +kernel
theorem dX3_run_1 : decode cX3_run 1 = .ok (.ifCond .lt 10, 3) := by decide +kernel
theorem dX3_run_4 : decode cX3_run 4 = .ok (.iload_n 1, 1) := by decide +kernel
theorem dX3_run_5 : decode cX3_run 5 = .ok (.sipush 2000, 3) := by decide +kernel
theorem dX3_run_8 : decode cX3_run 8 = .ok (.if_icmp .le 13, 3) := by decide +kernel
theorem dX3_run_11 : decode cX3_run 11 = .ok (.new 42, 3) := by decide +kernel
theorem dX3_run_14 : decode cX3_run 14 = .ok (.dup, 1) := by decide +kernel
theorem dX3_run_15 : decode cX3_run 15 = .ok (.ldc 117, 2) := by decide +kernel
theorem dX3_run_17 : decode cX3_run 17 = .ok (.invokespecial 46, 3) := by decide +kernel
theorem dX3_run_20 : decode cX3_run 20 = .ok (.athrow, 1) := by decide +kernel
theorem dX3_run_21 : decode cX3_run 21 = .ok (.aload_n 0, 1) := by decide +kernel
theorem dX3_run_22 : decode cX3_run 22 = .ok (.getfield 30, 3) := by decide +kernel
theorem dX3_run_25 : decode cX3_run 25 = .ok (.getfield 119, 3) := by decide +kernel
theorem dX3_run_28 : decode cX3_run 28 = .ok (.iconst 1, 1) := by decide +kernel
theorem dX3_run_29 : decode cX3_run 29 = .ok (.if_icmp .eq 13, 3) := by decide +kernel
theorem dX3_run_32 : decode cX3_run 32 = .ok (.new 70, 3) := by decide +kernel
theorem dX3_run_35 : decode cX3_run 35 = .ok (.dup, 1) := by decide +kernel
theorem dX3_run_36 : decode cX3_run 36 = .ok (.ldc 122, 2) := by decide +kernel
theorem dX3_run_38 : decode cX3_run 38 = .ok (.invokespecial 74, 3) := by decide +kernel
theorem dX3_run_41 : decode cX3_run 41 = .ok (.athrow, 1) := by decide +kernel
theorem dX3_run_42 : decode cX3_run 42 = .ok (.aload_n 0, 1) := by decide +kernel
theorem dX3_run_43 : decode cX3_run 43 = .ok (.getfield 30, 3) := by decide +kernel
theorem dX3_run_46 : decode cX3_run 46 = .ok (.iload_n 1, 1) := by decide +kernel
theorem dX3_run_47 : decode cX3_run 47 = .ok (.invokevirtual 124, 3) := by decide +kernel
theorem dX3_run_50 : decode cX3_run 50 = .ok (.ireturn, 1) := by decide +kernel
theorem dX3_state_0 : decode cX3_state 0 = .ok (.aload_n 0, 1) := by decide +kernel
theorem dX3_state_1 : decode cX3_state 1 = .ok (.getfield 30, 3) := by decide +kernel
theorem dX3_state_4 : decode cX3_state 4 = .ok (.getfield 119, 3) := by decide +kernel
theorem dX3_state_7 : decode cX3_state 7 = .ok (.iconst 3, 1) := by decide +kernel
theorem dX3_state_8 : decode cX3_state 8 = .ok (.if_icmp .ne 17, 3) := by decide +kernel
theorem dX3_state_11 : decode cX3_state 11 = .ok (.iconst 3, 1) := by decide +kernel
theorem dX3_state_12 : decode cX3_state 12 = .ok (.iconst 4, 1) := by decide +kernel
theorem dX3_state_13 : decode cX3_state 13 = .ok (.aload_n 0, 1) := by decide +kernel
theorem dX3_state_14 : decode cX3_state 14 = .ok (.getfield 30, 3) := by decide +kernel
theorem dX3_state_17 : decode cX3_state 17 = .ok (.getfield 128, 3) := by decide +kernel
theorem dX3_state_20 : decode cX3_state 20 = .ok (.imul, 1) := by decide +kernel
theorem dX3_state_21 : decode cX3_state 21 = .ok (.iadd, 1) := by decide +kernel
theorem dX3_state_22 : decode cX3_state 22 = .ok (.goto 10, 3) := by decide +kernel
theorem dX3_state_25 : decode cX3_state 25 = .ok (.aload_n 0, 1) := by decide +kernel
theorem dX3_state_26 : decode cX3_state 26 = .ok (.getfield 30, 3) := by decide +kernel
theorem dX3_state_29 : decode cX3_state 29 = .ok (.getfield 119, 3) := by decide +kernel
theorem dX3_state_32 : decode cX3_state 32 = .ok (.ireturn, 1) := by decide +kernel
theorem dX3_at_0 : decode cX3_at 0 = .ok (.aload_n 0, 1) := by decide +kernel
theorem dX3_at_1 : decode cX3_at 1 = .ok (.getfield 30, 3) := by decide +kernel
theorem dX3_at_4 : decode cX3_at 4 = .ok (.getfield 119, 3) := by decide +kernel
theorem dX3_at_7 : decode cX3_at 7 = .ok (.ifCond .ne 7, 3) := by decide +kernel
theorem dX3_at_10 : decode cX3_at 10 = .ok (.iconst (-1), 1) := by decide +kernel
theorem dX3_at_11 : decode cX3_at 11 = .ok (.goto 10, 3) := by decide +kernel
theorem dX3_at_14 : decode cX3_at 14 = .ok (.aload_n 0, 1) := by decide +kernel
theorem dX3_at_15 : decode cX3_at 15 = .ok (.getfield 30, 3) := by decide +kernel
theorem dX3_at_18 : decode cX3_at 18 = .ok (.getfield 131, 3) := by decide +kernel
theorem dX3_at_21 : decode cX3_at 21 = .ok (.ireturn, 1) := by decide +kernel
theorem dX3_variable_0 : decode cX3_variable 0 = .ok (.iload_n 1, 1) := by decide +kernel
theorem dX3_variable_1 : decode cX3_variable 1 = .ok (.invokestatic 34, 3) := by decide +kernel
theorem dX3_variable_4 : decode cX3_variable 4 = .ok (.aload_n 0, 1) := by decide +kernel
theorem dX3_variable_5 : decode cX3_variable 5 = .ok (.getfield 30, 3) := by decide +kernel
theorem dX3_variable_8 : decode cX3_variable 8 = .ok (.getfield 119, 3) := by decide +kernel
theorem dX3_variable_11 : decode cX3_variable 11 = .ok (.ifCond .ne 13, 3) := by decide +kernel
theorem dX3_variable_14 : decode cX3_variable 14 = .ok (.new 70, 3) := by decide +kernel
theorem dX3_variable_17 : decode cX3_variable 17 = .ok (.dup, 1) := by decide +kernel
theorem dX3_variable_18 : decode cX3_variable 18 = .ok (.ldc 134, 2) := by decide +kernel
theorem dX3_variable_20 : decode cX3_variable 20 = .ok (.invokespecial 74, 3) := by decide +kernel
theorem dX3_variable_23 : decode cX3_variable 23 = .ok (.athrow, 1) := by decide +kernel
theorem dX3_variable_24 : decode cX3_variable 24 = .ok (.aload_n 0, 1) := by decide +kernel
theorem dX3_variable_25 : decode cX3_variable 25 = .ok (.getfield 30, 3) := by decide +kernel
theorem dX3_variable_28 : decode cX3_variable 28 = .ok (.getfield 136, 3) := by decide +kernel
theorem dX3_variable_31 : decode cX3_variable 31 = .ok (.iload_n 1, 1) := by decide +kernel
theorem dX3_variable_32 : decode cX3_variable 32 = .ok (.iaload, 1) := by decide +kernel
theorem dX3_variable_33 : decode cX3_variable 33 = .ok (.ireturn, 1) := by decide +kernel
theorem dX3_outputs_0 : decode cX3_outputs 0 = .ok (.aload_n 0, 1) := by decide +kernel
theorem dX3_outputs_1 : decode cX3_outputs 1 = .ok (.getfield 30, 3) := by decide +kernel
theorem dX3_outputs_4 : decode cX3_outputs 4 = .ok (.getfield 139, 3) := by decide +kernel
theorem dX3_outputs_7 : decode cX3_outputs 7 = .ok (.ireturn, 1) := by decide +kernel
theorem dX3_output_0 : decode cX3_output 0 = .ok (.aload_n 0, 1) := by decide +kernel
theorem dX3_output_1 : decode cX3_output 1 = .ok (.getfield 30, 3) := by decide +kernel
theorem dX3_output_4 : decode cX3_output 4 = .ok (.iload_n 1, 1) := by decide +kernel
theorem dX3_output_5 : decode cX3_output 5 = .ok (.invokevirtual 142, 3) := by decide +kernel
theorem dX3_output_8 : decode cX3_output 8 = .ok (.ifCond .ne 13, 3) := by decide +kernel
theorem dX3_output_11 : decode cX3_output 11 = .ok (.new 89, 3) := by decide +kernel
theorem dX3_output_14 : decode cX3_output 14 = .ok (.dup, 1) := by decide +kernel
theorem dX3_output_15 : decode cX3_output 15 = .ok (.ldc 145, 2) := by decide +kernel
theorem dX3_output_17 : decode cX3_output 17 = .ok (.invokespecial 93, 3) := by decide +kernel
theorem dX3_output_20 : decode cX3_output 20 = .ok (.athrow, 1) := by decide +kernel
theorem dX3_output_21 : decode cX3_output 21 = .ok (.aload_n 0, 1) := by decide +kernel
theorem dX3_output_22 : decode cX3_output 22 = .ok (.getfield 30, 3) := by decide +kernel
theorem dX3_output_25 : decode cX3_output 25 = .ok (.iload_n 1, 1) := by decide +kernel
theorem dX3_output_26 : decode cX3_output 26 = .ok (.invokevirtual 147, 3) := by decide +kernel
theorem dX3_output_29 : decode cX3_output 29 = .ok (.ireturn, 1) := by decide +kernel
theorem dX3_append_0 : decode cX3_append 0 = .ok (.aload_n 0, 1) := by decide +kernel
theorem dX3_append_1 : decode cX3_append 1 = .ok (.getfield 10, 3) := by decide +kernel
theorem dX3_append_4 : decode cX3_append 4 = .ok (.getfield 98, 3) := by decide +kernel
theorem dX3_append_7 : decode cX3_append 7 = .ok (.bipush 48, 2) := by decide +kernel
theorem dX3_append_9 : decode cX3_append 9 = .ok (.if_icmp .lt 13, 3) := by decide +kernel
theorem dX3_append_12 : decode cX3_append 12 = .ok (.new 70, 3) := by decide +kernel
theorem dX3_append_15 : decode cX3_append 15 = .ok (.dup, 1) := by decide +kernel
theorem dX3_append_16 : decode cX3_append 16 = .ok (.ldc 150, 2) := by decide +kernel
theorem dX3_append_18 : decode cX3_append 18 = .ok (.invokespecial 74, 3) := by decide +kernel
theorem dX3_append_21 : decode cX3_append 21 = .ok (.athrow, 1) := by decide +kernel
theorem dX3_append_22 : decode cX3_append 22 = .ok (.aload_n 0, 1) := by decide +kernel
theorem dX3_append_23 : decode cX3_append 23 = .ok (.invokevirtual 63, 3) := by decide +kernel
theorem dX3_append_26 : decode cX3_append 26 = .ok (.aload_n 0, 1) := by decide +kernel
theorem dX3_append_27 : decode cX3_append 27 = .ok (.getfield 10, 3) := by decide +kernel
theorem dX3_append_30 : decode cX3_append 30 = .ok (.iload_n 1, 1) := by decide +kernel
theorem dX3_append_31 : decode cX3_append 31 = .ok (.iload_n 2, 1) := by decide +kernel
theorem dX3_append_32 : decode cX3_append 32 = .ok (.iload_n 3, 1) := by decide +kernel
theorem dX3_append_33 : decode cX3_append 33 = .ok (.iload 4, 2) := by decide +kernel
theorem dX3_append_35 : decode cX3_append 35 = .ok (.iload 5, 2) := by decide +kernel
theorem dX3_append_37 : decode cX3_append 37 = .ok (.iload 6, 2) := by decide +kernel
theorem dX3_append_39 : decode cX3_append 39 = .ok (.invokevirtual 152, 3) := by decide +kernel
theorem dX3_append_42 : decode cX3_append 42 = .ok (.ireturn, 1) := by decide +kernel
theorem dX3_discardImage_0 : decode cX3_discardImage 0 = .ok (.aload_n 0, 1) := by decide +kernel
theorem dX3_discardImage_1 : decode cX3_discardImage 1 = .ok (.getfield 21, 3) := by decide +kernel
theorem dX3_discardImage_4 : decode cX3_discardImage 4 = .ok (.iconst 0, 1) := by decide +kernel
theorem dX3_discardImage_5 : decode cX3_discardImage 5 = .ok (.putfield 85, 3) := by decide +kernel
theorem dX3_discardImage_8 : decode cX3_discardImage 8 = .ok (.aload_n 0, 1) := by decide +kernel
theorem dX3_discardImage_9 : decode cX3_discardImage 9 = .ok (.getfield 30, 3) := by decide +kernel
theorem dX3_discardImage_12 : decode cX3_discardImage 12 = .ok (.invokevirtual 75, 3) := by decide +kernel
theorem dX3_discardImage_15 : decode cX3_discardImage 15 = .ok (.return_, 1) := by decide +kernel
theorem dX3_needVariable_0 : decode cX3_needVariable 0 = .ok (.iload_n 0, 1) := by decide +kernel
theorem dX3_needVariable_1 : decode cX3_needVariable 1 = .ok (.ifCond .lt 9, 3) := by decide +kernel
theorem dX3_needVariable_4 : decode cX3_needVariable 4 = .ok (.iload_n 0, 1) := by decide +kernel
theorem dX3_needVariable_5 : decode cX3_needVariable 5 = .ok (.bipush 8, 2) := by decide +kernel
theorem dX3_needVariable_7 : decode cX3_needVariable 7 = .ok (.if_icmp .lt 13, 3) := by decide +kernel
theorem dX3_needVariable_10 : decode cX3_needVariable 10 = .ok (.new 42, 3) := by decide +kernel
theorem dX3_needVariable_13 : decode cX3_needVariable 13 = .ok (.dup, 1) := by decide +kernel
theorem dX3_needVariable_14 : decode cX3_needVariable 14 = .ok (.ldc 155, 2) := by decide +kernel
theorem dX3_needVariable_16 : decode cX3_needVariable 16 = .ok (.invokespecial 46, 3) := by decide +kernel
theorem dX3_needVariable_19 : decode cX3_needVariable 19 = .ok (.athrow, 1) := by decide +kernel
theorem dX3_needVariable_20 : decode cX3_needVariable 20 = .ok (.return_, 1) := by decide +kernel
theorem dX3_needTarget_0 : decode cX3_needTarget 0 = .ok (.iload_n 0, 1) := by decide +kernel
theorem dX3_needTarget_1 : decode cX3_needTarget 1 = .ok (.ifCond .lt 9, 3) := by decide +kernel
theorem dX3_needTarget_4 : decode cX3_needTarget 4 = .ok (.iload_n 0, 1) := by decide +kernel
theorem dX3_needTarget_5 : decode cX3_needTarget 5 = .ok (.bipush 48, 2) := by decide +kernel
theorem dX3_needTarget_7 : decode cX3_needTarget 7 = .ok (.if_icmp .lt 13, 3) := by decide +kernel
theorem dX3_needTarget_10 : decode cX3_needTarget 10 = .ok (.new 42, 3) := by decide +kernel
theorem dX3_needTarget_13 : decode cX3_needTarget 13 = .ok (.dup, 1) := by decide +kernel
theorem dX3_needTarget_14 : decode cX3_needTarget 14 = .ok (.ldc 157, 2) := by decide +kernel
theorem dX3_needTarget_16 : decode cX3_needTarget 16 = .ok (.invokespecial 46, 3) := by decide +kernel
theorem dX3_needTarget_19 : decode cX3_needTarget 19 = .ok (.athrow, 1) := by decide +kernel
theorem dX3_needTarget_20 : decode cX3_needTarget 20 = .ok (.return_, 1) := by decide +kernel
theorem dX3_needWord_0 : decode cX3_needWord 0 = .ok (.iload_n 0, 1) := by decide +kernel
theorem dX3_needWord_1 : decode cX3_needWord 1 = .ok (.ifCond .lt 9, 3) := by decide +kernel
theorem dX3_needWord_4 : decode cX3_needWord 4 = .ok (.iload_n 0, 1) := by decide +kernel
theorem dX3_needWord_5 : decode cX3_needWord 5 = .ok (.bipush 8, 2) := by decide +kernel
theorem dX3_needWord_7 : decode cX3_needWord 7 = .ok (.if_icmp .lt 13, 3) := by decide +kernel
theorem dX3_needWord_10 : decode cX3_needWord 10 = .ok (.new 42, 3) := by decide +kernel
theorem dX3_needWord_13 : decode cX3_needWord 13 = .ok (.dup, 1) := by decide +kernel
theorem dX3_needWord_14 : decode cX3_needWord 14 = .ok (.ldc 159, 2) := by decide +kernel
theorem dX3_needWord_16 : decode cX3_needWord 16 = .ok (.invokespecial 46, 3) := by decide +kernel
theorem dX3_needWord_19 : decode cX3_needWord 19 = .ok (.athrow, 1) := by decide +kernel
theorem dX3_needWord_20 : decode cX3_needWord 20 = .ok (.return_, 1) := by decide +kernel
theorem dX3_isRelation_0 : decode cX3_isRelation 0 = .ok (.iload_n 0, 1) := by decide +kernel
theorem dX3_isRelation_1 : decode cX3_isRelation 1 = .ok (.ifCond .lt 8, 3) := by decide +kernel
theorem dX3_isRelation_4 : decode cX3_isRelation 4 = .ok (.iload_n 0, 1) := by decide +kernel
theorem dX3_isRelation_5 : decode cX3_isRelation 5 = .ok (.iconst 3, 1) := by decide +kernel
theorem dX3_isRelation_6 : decode cX3_isRelation 6 = .ok (.if_icmp .le 15, 3) := by decide +kernel
theorem dX3_isRelation_9 : decode cX3_isRelation 9 = .ok (.iload_n 0, 1) := by decide +kernel
theorem dX3_isRelation_10 : decode cX3_isRelation 10 = .ok (.bipush 8, 2) := by decide +kernel
theorem dX3_isRelation_12 : decode cX3_isRelation 12 = .ok (.if_icmp .lt 13, 3) := by decide +kernel
theorem dX3_isRelation_15 : decode cX3_isRelation 15 = .ok (.iload_n 0, 1) := by decide +kernel
theorem dX3_isRelation_16 : decode cX3_isRelation 16 = .ok (.bipush 13, 2) := by decide +kernel
theorem dX3_isRelation_18 : decode cX3_isRelation 18 = .ok (.if_icmp .gt 7, 3) := by decide +kernel
theorem dX3_isRelation_21 : decode cX3_isRelation 21 = .ok (.iconst 1, 1) := by decide +kernel
theorem dX3_isRelation_22 : decode cX3_isRelation 22 = .ok (.goto 4, 3) := by decide +kernel
theorem dX3_isRelation_25 : decode cX3_isRelation 25 = .ok (.iconst 0, 1) := by decide +kernel
theorem dX3_isRelation_26 : decode cX3_isRelation 26 = .ok (.ireturn, 1) := by decide +kernel
end
section
theorem dX4_init_0 : decode cX4_init 0 = .ok (.aload_n 0, 1) := by decide +kernel
theorem dX4_init_1 : decode cX4_init 1 = .ok (.invokespecial 1, 3) := by decide +kernel
theorem dX4_init_4 : decode cX4_init 4 = .ok (.aload_n 0, 1) := by decide +kernel
theorem dX4_init_5 : decode cX4_init 5 = .ok (.bipush 48, 2) := by decide +kernel
theorem dX4_init_7 : decode cX4_init 7 = .ok (.newarray .int, 2) := by decide +kernel
theorem dX4_init_9 : decode cX4_init 9 = .ok (.putfield 7, 3) := by decide +kernel
theorem dX4_init_12 : decode cX4_init 12 = .ok (.aload_n 0, 1) := by decide +kernel
theorem dX4_init_13 : decode cX4_init 13 = .ok (.bipush 48, 2) := by decide +kernel
theorem dX4_init_15 : decode cX4_init 15 = .ok (.newarray .int, 2) := by decide +kernel
theorem dX4_init_17 : decode cX4_init 17 = .ok (.putfield 13, 3) := by decide +kernel
theorem dX4_init_20 : decode cX4_init 20 = .ok (.aload_n 0, 1) := by decide +kernel
theorem dX4_init_21 : decode cX4_init 21 = .ok (.bipush 48, 2) := by decide +kernel
theorem dX4_init_23 : decode cX4_init 23 = .ok (.newarray .int, 2) := by decide +kernel
theorem dX4_init_25 : decode cX4_init 25 = .ok (.putfield 16, 3) := by decide +kernel
theorem dX4_init_28 : decode cX4_init 28 = .ok (.aload_n 0, 1) := by decide +kernel
theorem dX4_init_29 : decode cX4_init 29 = .ok (.bipush 48, 2) := by decide +kernel
theorem dX4_init_31 : decode cX4_init 31 = .ok (.newarray .int, 2) := by decide +kernel
theorem dX4_init_33 : decode cX4_init 33 = .ok (.putfield 19, 3) := by decide +kernel
theorem dX4_init_36 : decode cX4_init 36 = .ok (.aload_n 0, 1) := by decide +kernel
theorem dX4_init_37 : decode cX4_init 37 = .ok (.bipush 48, 2) := by decide +kernel
theorem dX4_init_39 : decode cX4_init 39 = .ok (.newarray .int, 2) := by decide +kernel
theorem dX4_init_41 : decode cX4_init 41 = .ok (.putfield 22, 3) := by decide +kernel
theorem dX4_init_44 : decode cX4_init 44 = .ok (.aload_n 0, 1) := by decide +kernel
theorem dX4_init_45 : decode cX4_init 45 = .ok (.bipush 8, 2) := by decide +kernel
theorem dX4_init_47 : decode cX4_init 47 = .ok (.newarray .int, 2) := by decide +kernel
theorem dX4_init_49 : decode cX4_init 49 = .ok (.putfield 25, 3) := by decide +kernel
theorem dX4_init_52 : decode cX4_init 52 = .ok (.aload_n 0, 1) := by decide +kernel
theorem dX4_init_53 : decode cX4_init 53 = .ok (.sipush 400, 3) := by decide +kernel
theorem dX4_init_56 : decode cX4_init 56 = .ok (.newarray .int, 2) := by decide +kernel
theorem dX4_init_58 : decode cX4_init 58 = .ok (.putfield 28, 3) := by decide +kernel
theorem dX4_init_61 : decode cX4_init 61 = .ok (.aload_n 0, 1) := by decide +kernel
theorem dX4_init_62 : decode cX4_init 62 = .ok (.bipush 49, 2) := by decide +kernel
theorem dX4_init_64 : decode cX4_init 64 = .ok (.newarray .int, 2) := by decide +kernel
theorem dX4_init_66 : decode cX4_init 66 = .ok (.putfield 31, 3) := by decide +kernel
theorem dX4_init_69 : decode cX4_init 69 = .ok (.aload_n 0, 1) := by decide +kernel
theorem dX4_init_70 : decode cX4_init 70 = .ok (.bipush 48, 2) := by decide +kernel
theorem dX4_init_72 : decode cX4_init 72 = .ok (.newarray .boolean, 2) := by decide +kernel
theorem dX4_init_74 : decode cX4_init 74 = .ok (.putfield 34, 3) := by decide +kernel
theorem dX4_init_77 : decode cX4_init 77 = .ok (.aload_n 0, 1) := by decide +kernel
theorem dX4_init_78 : decode cX4_init 78 = .ok (.bipush 49, 2) := by decide +kernel
theorem dX4_init_80 : decode cX4_init 80 = .ok (.newarray .int, 2) := by decide +kernel
theorem dX4_init_82 : decode cX4_init 82 = .ok (.putfield 38, 3) := by decide +kernel
theorem dX4_init_85 : decode cX4_init 85 = .ok (.aload_n 0, 1) := by decide +kernel
theorem dX4_init_86 : decode cX4_init 86 = .ok (.bipush 8, 2) := by decide +kernel
theorem dX4_init_88 : decode cX4_init 88 = .ok (.newarray .int, 2) := by decide +kernel
theorem dX4_init_90 : decode cX4_init 90 = .ok (.putfield 41, 3) := by decide +kernel
theorem dX4_init_93 : decode cX4_init 93 = .ok (.aload_n 0, 1) := by decide +kernel
theorem dX4_init_94 : decode cX4_init 94 = .ok (.bipush 16, 2) := by decide +kernel
theorem dX4_init_96 : decode cX4_init 96 = .ok (.newarray .int, 2) := by decide +kernel
theorem dX4_init_98 : decode cX4_init 98 = .ok (.putfield 44, 3) := by decide +kernel
theorem dX4_init_101 : decode cX4_init 101 = .ok (.return_, 1) := by decide +kernel
theorem dX4_thrown_0 : decode cX4_thrown 0 = .ok (.aload_n 0, 1) := by decide +kernel
theorem dX4_thrown_1 : decode cX4_thrown 1 = .ok (.getfield 47, 3) := by decide +kernel
theorem dX4_thrown_4 : decode cX4_thrown 4 = .ok (.ireturn, 1) := by decide +kernel
theorem dX4_isVariable_0 : decode cX4_isVariable 0 = .ok (.iload_n 0, 1) := by decide +kernel
theorem dX4_isVariable_1 : decode cX4_isVariable 1 = .ok (.ifCond .lt 13, 3) := by decide +kernel
theorem dX4_isVariable_4 : decode cX4_isVariable 4 = .ok (.iload_n 0, 1) := by decide +kernel
theorem dX4_isVariable_5 : decode cX4_isVariable 5 = .ok (.bipush 8, 2) := by decide +kernel
theorem dX4_isVariable_7 : decode cX4_isVariable 7 = .ok (.if_icmp .ge 7, 3) := by decide +kernel
theorem dX4_isVariable_10 : decode cX4_isVariable 10 = .ok (.iconst 1, 1) := by decide +kernel
theorem dX4_isVariable_11 : decode cX4_isVariable 11 = .ok (.goto 4, 3) := by decide +kernel
theorem dX4_isVariable_14 : decode cX4_isVariable 14 = .ok (.iconst 0, 1) := by decide +kernel
theorem dX4_isVariable_15 : decode cX4_isVariable 15 = .ok (.ireturn, 1) := by decide +kernel
theorem dX4_append_0 : decode cX4_append 0 = .ok (.aload_n 0, 1) := by decide +kernel
theorem dX4_append_1 : decode cX4_append 1 = .ok (.iload_n 1, 1) := by decide +kernel
theorem dX4_append_2 : decode cX4_append 2 = .ok (.ifCond .ne 7, 3) := by decide +kernel
theorem dX4_append_5 : decode cX4_append 5 = .ok (.iconst 1, 1) := by decide +kernel
theorem dX4_append_6 : decode cX4_append 6 = .ok (.goto 17, 3) := by decide +kernel
theorem dX4_append_9 : decode cX4_append 9 = .ok (.aload_n 0, 1) := by decide +kernel
theorem dX4_append_10 : decode cX4_append 10 = .ok (.getfield 51, 3) := by decide +kernel
theorem dX4_append_13 : decode cX4_append 13 = .ok (.bipush 48, 2) := by decide +kernel
theorem dX4_append_15 : decode cX4_append 15 = .ok (.if_icmp .ne 7, 3) := by decide +kernel
theorem dX4_append_18 : decode cX4_append 18 = .ok (.iconst 2, 1) := by decide +kernel
theorem dX4_append_19 : decode cX4_append 19 = .ok (.goto 4, 3) := by decide +kernel
theorem dX4_append_22 : decode cX4_append 22 = .ok (.iconst 0, 1) := by decide +kernel
theorem dX4_append_23 : decode cX4_append 23 = .ok (.putfield 47, 3) := by decide +kernel
theorem dX4_append_26 : decode cX4_append 26 = .ok (.aload_n 0, 1) := by decide +kernel
theorem dX4_append_27 : decode cX4_append 27 = .ok (.getfield 47, 3) := by decide +kernel
theorem dX4_append_30 : decode cX4_append 30 = .ok (.ifCond .le 5, 3) := by decide +kernel
theorem dX4_append_33 : decode cX4_append 33 = .ok (.iconst 0, 1) := by decide +kernel
theorem dX4_append_34 : decode cX4_append 34 = .ok (.ireturn, 1) := by decide +kernel
theorem dX4_append_35 : decode cX4_append 35 = .ok (.aload_n 0, 1) := by decide +kernel
theorem dX4_append_36 : decode cX4_append 36 = .ok (.getfield 7, 3) := by decide +kernel
theorem dX4_append_39 : decode cX4_append 39 = .ok (.aload_n 0, 1) := by decide +kernel
theorem dX4_append_40 : decode cX4_append 40 = .ok (.getfield 51, 3) := by decide +kernel
theorem dX4_append_43 : decode cX4_append 43 = .ok (.iload_n 2, 1) := by decide +kernel
theorem dX4_append_44 : decode cX4_append 44 = .ok (.iastore, 1) := by decide +kernel
theorem dX4_append_45 : decode cX4_append 45 = .ok (.aload_n 0, 1) := by decide +kernel
theorem dX4_append_46 : decode cX4_append 46 = .ok (.getfield 13, 3) := by decide +kernel
theorem dX4_append_49 : decode cX4_append 49 = .ok (.aload_n 0, 1) := by decide +kernel
theorem dX4_append_50 : decode cX4_append 50 = .ok (.getfield 51, 3) := by decide +kernel
theorem dX4_append_53 : decode cX4_append 53 = .ok (.iload_n 3, 1) := by decide +kernel
theorem dX4_append_54 : decode cX4_append 54 = .ok (.iastore, 1) := by decide +kernel
theorem dX4_append_55 : decode cX4_append 55 = .ok (.aload_n 0, 1) := by decide +kernel
theorem dX4_append_56 : decode cX4_append 56 = .ok (.getfield 16, 3) := by decide +kernel
theorem dX4_append_59 : decode cX4_append 59 = .ok (.aload_n 0, 1) := by decide +kernel
theorem dX4_append_60 : decode cX4_append 60 = .ok (.getfield 51, 3) := by decide +kernel
theorem dX4_append_63 : decode cX4_append 63 = .ok (.iload 4, 2) := by decide +kernel
theorem dX4_append_65 : decode cX4_append 65 = .ok (.iastore, 1) := by decide +kernel
theorem dX4_append_66 : decode cX4_append 66 = .ok (.aload_n 0, 1) := by decide +kernel
theorem dX4_append_67 : decode cX4_append 67 = .ok (.dup, 1) := by decide +kernel
theorem dX4_append_68 : decode cX4_append 68 = .ok (.getfield 51, 3) := by decide +kernel
theorem dX4_append_71 : decode cX4_append 71 = .ok (.iconst 1, 1) := by decide +kernel
theorem dX4_append_72 : decode cX4_append 72 = .ok (.iadd, 1) := by decide +kernel
theorem dX4_append_73 : decode cX4_append 73 = .ok (.putfield 51, 3) := by decide +kernel
theorem dX4_append_76 : decode cX4_append 76 = .ok (.aload_n 0, 1) := by decide +kernel
theorem dX4_append_77 : decode cX4_append 77 = .ok (.iconst 0, 1) := by decide +kernel
theorem dX4_append_78 : decode cX4_append 78 = .ok (.putfield 54, 3) := by decide +kernel
theorem dX4_append_81 : decode cX4_append 81 = .ok (.aload_n 0, 1) := by decide +kernel
theorem dX4_append_82 : decode cX4_append 82 = .ok (.iconst 0, 1) := by decide +kernel
theorem dX4_append_83 : decode cX4_append 83 = .ok (.putfield 58, 3) := by decide +kernel
theorem dX4_append_86 : decode cX4_append 86 = .ok (.aload_n 0, 1) := by decide +kernel
theorem dX4_append_87 : decode cX4_append 87 = .ok (.getfield 51, 3) := by decide +kernel
theorem dX4_append_90 : decode cX4_append 90 = .ok (.iconst 1, 1) := by decide +kernel
theorem dX4_append_91 : decode cX4_append 91 = .ok (.isub, 1) := by decide +kernel
theorem dX4_append_92 : decode cX4_append 92 = .ok (.ireturn, 1) := by decide +kernel
theorem dX4_constant_0 : decode cX4_constant 0 = .ok (.aload_n 0, 1) := by decide +kernel
theorem dX4_constant_1 : decode cX4_constant 1 = .ok (.iload_n 1, 1) := by decide +kernel
theorem dX4_constant_2 : decode cX4_constant 2 = .ok (.invokestatic 61, 3) := by decide +kernel
theorem dX4_constant_5 : decode cX4_constant 5 = .ok (.iconst 0, 1) := by decide +kernel
theorem dX4_constant_6 : decode cX4_constant 6 = .ok (.iload_n 2, 1) := by decide +kernel
theorem dX4_constant_7 : decode cX4_constant 7 = .ok (.iload_n 1, 1) := by decide +kernel
theorem dX4_constant_8 : decode cX4_constant 8 = .ok (.invokevirtual 65, 3) := by decide +kernel
theorem dX4_constant_11 : decode cX4_constant 11 = .ok (.ireturn, 1) := by decide +kernel
theorem dX4_compute_0 : decode cX4_compute 0 = .ok (.aload_n 0, 1) := by decide +kernel
theorem dX4_compute_1 : decode cX4_compute 1 = .ok (.iload_n 1, 1) := by decide +kernel
theorem dX4_compute_2 : decode cX4_compute 2 = .ok (.ifCond .lt 35, 3) := by decide +kernel
theorem dX4_compute_5 : decode cX4_compute 5 = .ok (.iload_n 1, 1) := by decide +kernel
theorem dX4_compute_6 : decode cX4_compute 6 = .ok (.bipush 7, 2) := by decide +kernel
theorem dX4_compute_8 : decode cX4_compute 8 = .ok (.if_icmp .gt 29, 3) := by decide +kernel
theorem dX4_compute_11 : decode cX4_compute 11 = .ok (.iload_n 2, 1) := by decide +kernel
theorem dX4_compute_12 : decode cX4_compute 12 = .ok (.invokestatic 61, 3) := by decide +kernel
theorem dX4_compute_15 : decode cX4_compute 15 = .ok (.ifCond .eq 22, 3) := by decide +kernel
theorem dX4_compute_18 : decode cX4_compute 18 = .ok (.iload_n 3, 1) := by decide +kernel
theorem dX4_compute_19 : decode cX4_compute 19 = .ok (.invokestatic 61, 3) := by decide +kernel
theorem dX4_compute_22 : decode cX4_compute 22 = .ok (.ifCond .eq 15, 3) := by decide +kernel
theorem dX4_compute_25 : decode cX4_compute 25 = .ok (.iload 4, 2) := by decide +kernel
theorem dX4_compute_27 : decode cX4_compute 27 = .ok (.invokestatic 61, 3) := by decide +kernel
theorem dX4_compute_30 : decode cX4_compute 30 = .ok (.ifCond .eq 7, 3) := by decide +kernel
theorem dX4_compute_33 : decode cX4_compute 33 = .ok (.iconst 1, 1) := by decide +kernel
theorem dX4_compute_34 : decode cX4_compute 34 = .ok (.goto 4, 3) := by decide +kernel
theorem dX4_compute_37 : decode cX4_compute 37 = .ok (.iconst 0, 1) := by decide +kernel
theorem dX4_compute_38 : decode cX4_compute 38 = .ok (.iconst 1, 1) := by decide +kernel
theorem dX4_compute_39 : decode cX4_compute 39 = .ok (.iload_n 1, 1) := by decide +kernel
theorem dX4_compute_40 : decode cX4_compute 40 = .ok (.iload_n 2, 1) := by decide +kernel
theorem dX4_compute_41 : decode cX4_compute 41 = .ok (.invokevirtual 65, 3) := by decide +kernel
theorem dX4_compute_44 : decode cX4_compute 44 = .ok (.istore 5, 2) := by decide +kernel
theorem dX4_compute_46 : decode cX4_compute 46 = .ok (.aload_n 0, 1) := by decide +kernel
theorem dX4_compute_47 : decode cX4_compute 47 = .ok (.getfield 47, 3) := by decide +kernel
theorem dX4_compute_50 : decode cX4_compute 50 = .ok (.ifCond .ne 20, 3) := by decide +kernel
theorem dX4_compute_53 : decode cX4_compute 53 = .ok (.aload_n 0, 1) := by decide +kernel
theorem dX4_compute_54 : decode cX4_compute 54 = .ok (.getfield 19, 3) := by decide +kernel
theorem dX4_compute_57 : decode cX4_compute 57 = .ok (.iload 5, 2) := by decide +kernel
theorem dX4_compute_59 : decode cX4_compute 59 = .ok (.iload_n 3, 1) := by decide +kernel
theorem dX4_compute_60 : decode cX4_compute 60 = .ok (.iastore, 1) := by decide +kernel
theorem dX4_compute_61 : decode cX4_compute 61 = .ok (.aload_n 0, 1) := by decide +kernel
theorem dX4_compute_62 : decode cX4_compute 62 = .ok (.getfield 22, 3) := by decide +kernel
theorem dX4_compute_65 : decode cX4_compute 65 = .ok (.iload 5, 2) := by decide +kernel
theorem dX4_compute_67 : decode cX4_compute 67 = .ok (.iload 4, 2) := by decide +kernel
theorem dX4_compute_69 : decode cX4_compute 69 = .ok (.iastore, 1) := by decide +kernel
theorem dX4_compute_70 : decode cX4_compute 70 = .ok (.iload 5, 2) := by decide +kernel
theorem dX4_compute_72 : decode cX4_compute 72 = .ok (.ireturn, 1) := by decide +kernel
theorem dX4_load_0 : decode cX4_load 0 = .ok (.aload_n 0, 1) := by decide +kernel
theorem dX4_load_1 : decode cX4_load 1 = .ok (.iload_n 1, 1) := by decide +kernel
theorem dX4_load_2 : decode cX4_load 2 = .ok (.invokestatic 61, 3) := by decide +kernel
theorem dX4_load_5 : decode cX4_load 5 = .ok (.ifCond .eq 14, 3) := by decide +kernel
theorem dX4_load_8 : decode cX4_load 8 = .ok (.iload_n 2, 1) := by decide +kernel
theorem dX4_load_9 : decode cX4_load 9 = .ok (.invokestatic 61, 3) := by decide +kernel
theorem dX4_load_12 : decode cX4_load 12 = .ok (.ifCond .eq 7, 3) := by decide +kernel
theorem dX4_load_15 : decode cX4_load 15 = .ok (.iconst 1, 1) := by decide +kernel
theorem dX4_load_16 : decode cX4_load 16 = .ok (.goto 4, 3) := by decide +kernel
theorem dX4_load_19 : decode cX4_load 19 = .ok (.iconst 0, 1) := by decide +kernel
theorem dX4_load_20 : decode cX4_load 20 = .ok (.iconst 2, 1) := by decide +kernel
theorem dX4_load_21 : decode cX4_load 21 = .ok (.iload_n 1, 1) := by decide +kernel
theorem dX4_load_22 : decode cX4_load 22 = .ok (.iload_n 2, 1) := by decide +kernel
theorem dX4_load_23 : decode cX4_load 23 = .ok (.invokevirtual 65, 3) := by decide +kernel
theorem dX4_load_26 : decode cX4_load 26 = .ok (.ireturn, 1) := by decide +kernel
theorem dX4_store_0 : decode cX4_store 0 = .ok (.aload_n 0, 1) := by decide +kernel
theorem dX4_store_1 : decode cX4_store 1 = .ok (.iload_n 1, 1) := by decide +kernel
theorem dX4_store_2 : decode cX4_store 2 = .ok (.invokestatic 61, 3) := by decide +kernel
theorem dX4_store_5 : decode cX4_store 5 = .ok (.ifCond .eq 14, 3) := by decide +kernel
theorem dX4_store_8 : decode cX4_store 8 = .ok (.iload_n 2, 1) := by decide +kernel
theorem dX4_store_9 : decode cX4_store 9 = .ok (.invokestatic 61, 3) := by decide +kernel
theorem dX4_store_12 : decode cX4_store 12 = .ok (.ifCond .eq 7, 3) := by decide +kernel
theorem dX4_store_15 : decode cX4_store 15 = .ok (.iconst 1, 1) := by decide +kernel
theorem dX4_store_16 : decode cX4_store 16 = .ok (.goto 4, 3) := by decide +kernel
theorem dX4_store_19 : decode cX4_store 19 = .ok (.iconst 0, 1) := by decide +kernel
theorem dX4_store_20 : decode cX4_store 20 = .ok (.iconst 3, 1) := by decide +kernel
theorem dX4_store_21 : decode cX4_store 21 = .ok (.iload_n 1, 1) := by decide +kernel
theorem dX4_store_22 : decode cX4_store 22 = .ok (.iload_n 2, 1) := by decide +kernel
theorem dX4_store_23 : decode cX4_store 23 = .ok (.invokevirtual 65, 3) := by decide +kernel
theorem dX4_store_26 : decode cX4_store 26 = .ok (.ireturn, 1) := by decide +kernel
theorem dX4_jump_0 : decode cX4_jump 0 = .ok (.aload_n 0, 1) := by decide +kernel
theorem dX4_jump_1 : decode cX4_jump 1 = .ok (.iload_n 1, 1) := by decide +kernel
theorem dX4_jump_2 : decode cX4_jump 2 = .ok (.ifCond .lt 13, 3) := by decide +kernel
theorem dX4_jump_5 : decode cX4_jump 5 = .ok (.iload_n 1, 1) := by decide +kernel
theorem dX4_jump_6 : decode cX4_jump 6 = .ok (.bipush 47, 2) := by decide +kernel
theorem dX4_jump_8 : decode cX4_jump 8 = .ok (.if_icmp .gt 7, 3) := by decide +kernel
theorem dX4_jump_11 : decode cX4_jump 11 = .ok (.iconst 1, 1) := by decide +kernel
theorem dX4_jump_12 : decode cX4_jump 12 = .ok (.goto 4, 3) := by decide +kernel
theorem dX4_jump_15 : decode cX4_jump 15 = .ok (.iconst 0, 1) := by decide +kernel
theorem dX4_jump_16 : decode cX4_jump 16 = .ok (.iconst 4, 1) := by decide +kernel
theorem dX4_jump_17 : decode cX4_jump 17 = .ok (.iload_n 1, 1) := by decide +kernel
theorem dX4_jump_18 : decode cX4_jump 18 = .ok (.iconst 0, 1) := by decide +kernel
theorem dX4_jump_19 : decode cX4_jump 19 = .ok (.invokevirtual 65, 3) := by decide +kernel
theorem dX4_jump_22 : decode cX4_jump 22 = .ok (.ireturn, 1) := by decide +kernel
theorem dX4_isRelation_0 : decode cX4_isRelation 0 = .ok (.iload_n 0, 1) := by decide +kernel
theorem dX4_isRelation_1 : decode cX4_isRelation 1 = .ok (.ifCond .lt 8, 3) := by decide +kernel
theorem dX4_isRelation_4 : decode cX4_isRelation 4 = .ok (.iload_n 0, 1) := by decide +kernel
theorem dX4_isRelation_5 : decode cX4_isRelation 5 = .ok (.iconst 3, 1) := by decide +kernel
theorem dX4_isRelation_6 : decode cX4_isRelation 6 = .ok (.if_icmp .le 15, 3) := by decide +kernel
theorem dX4_isRelation_9 : decode cX4_isRelation 9 = .ok (.iload_n 0, 1) := by decide +kernel
theorem dX4_isRelation_10 : decode cX4_isRelation 10 = .ok (.bipush 8, 2) := by decide +kernel
theorem dX4_isRelation_12 : decode cX4_isRelation 12 = .ok (.if_icmp .lt 13, 3) := by decide +kernel
theorem dX4_isRelation_15 : decode cX4_isRelation 15 = .ok (.iload_n 0, 1) := by decide +kernel
theorem dX4_isRelation_16 : decode cX4_isRelation 16 = .ok (.bipush 13, 2) := by decide +kernel
theorem dX4_isRelation_18 : decode cX4_isRelation 18 = .ok (.if_icmp .gt 7, 3) := by decide +kernel
theorem dX4_isRelation_21 : decode cX4_isRelation 21 = .ok (.iconst 1, 1) := by decide +kernel
theorem dX4_isRelation_22 : decode cX4_isRelation 22 = .ok (.goto 4, 3) := by decide +kernel
theorem dX4_isRelation_25 : decode cX4_isRelation 25 = .ok (.iconst 0, 1) := by decide +kernel
theorem dX4_isRelation_26 : decode cX4_isRelation 26 = .ok (.ireturn, 1) := by decide +kernel
theorem dX4_branch_0 : decode cX4_branch 0 = .ok (.aload_n 0, 1) := by decide +kernel
theorem dX4_branch_1 : decode cX4_branch 1 = .ok (.iload_n 1, 1) := by decide +kernel
theorem dX4_branch_2 : decode cX4_branch 2 = .ok (.invokestatic 69, 3) := by decide +kernel
theorem dX4_branch_5 : decode cX4_branch 5 = .ok (.ifCond .eq 33, 3) := by decide +kernel
theorem dX4_branch_8 : decode cX4_branch 8 = .ok (.iload_n 2, 1) := by decide +kernel
theorem dX4_branch_9 : decode cX4_branch 9 = .ok (.invokestatic 61, 3) := by decide +kernel
theorem dX4_branch_12 : decode cX4_branch 12 = .ok (.ifCond .eq 26, 3) := by decide +kernel
theorem dX4_branch_15 : decode cX4_branch 15 = .ok (.iload_n 3, 1) := by decide +kernel
theorem dX4_branch_16 : decode cX4_branch 16 = .ok (.invokestatic 61, 3) := by decide +kernel
theorem dX4_branch_19 : decode cX4_branch 19 = .ok (.ifCond .eq 19, 3) := by decide +kernel
theorem dX4_branch_22 : decode cX4_branch 22 = .ok (.iload 4, 2) := by decide +kernel
theorem dX4_branch_24 : decode cX4_branch 24 = .ok (.ifCond .lt 14, 3) := by decide +kernel
theorem dX4_branch_27 : decode cX4_branch 27 = .ok (.iload 4, 2) := by decide +kernel
theorem dX4_branch_29 : decode cX4_branch 29 = .ok (.bipush 47, 2) := by decide +kernel
theorem dX4_branch_31 : decode cX4_branch 31 = .ok (.if_icmp .gt 7, 3) := by decide +kernel
theorem dX4_branch_34 : decode cX4_branch 34 = .ok (.iconst 1, 1) := by decide +kernel
theorem dX4_branch_35 : decode cX4_branch 35 = .ok (.goto 4, 3) := by decide +kernel
theorem dX4_branch_38 : decode cX4_branch 38 = .ok (.iconst 0, 1) := by decide +kernel
theorem dX4_branch_39 : decode cX4_branch 39 = .ok (.iconst 5, 1) := by decide +kernel
theorem dX4_branch_40 : decode cX4_branch 40 = .ok (.iload_n 1, 1) := by decide +kernel
theorem dX4_branch_41 : decode cX4_branch 41 = .ok (.iload_n 2, 1) := by decide +kernel
theorem dX4_branch_42 : decode cX4_branch 42 = .ok (.invokevirtual 65, 3) := by decide +kernel
theorem dX4_branch_45 : decode cX4_branch 45 = .ok (.istore 5, 2) := by decide +kernel
theorem dX4_branch_47 : decode cX4_branch 47 = .ok (.aload_n 0, 1) := by decide +kernel
theorem dX4_branch_48 : decode cX4_branch 48 = .ok (.getfield 47, 3) := by decide +kernel
theorem dX4_branch_51 : decode cX4_branch 51 = .ok (.ifCond .ne 20, 3) := by decide +kernel
theorem dX4_branch_54 : decode cX4_branch 54 = .ok (.aload_n 0, 1) := by decide +kernel
theorem dX4_branch_55 : decode cX4_branch 55 = .ok (.getfield 19, 3) := by decide +kernel
theorem dX4_branch_58 : decode cX4_branch 58 = .ok (.iload 5, 2) := by decide +kernel
theorem dX4_branch_60 : decode cX4_branch 60 = .ok (.iload_n 3, 1) := by decide +kernel
theorem dX4_branch_61 : decode cX4_branch 61 = .ok (.iastore, 1) := by decide +kernel
theorem dX4_branch_62 : decode cX4_branch 62 = .ok (.aload_n 0, 1) := by decide +kernel
theorem dX4_branch_63 : decode cX4_branch 63 = .ok (.getfield 22, 3) := by decide +kernel
theorem dX4_branch_66 : decode cX4_branch 66 = .ok (.iload 5, 2) := by decide +kernel
theorem dX4_branch_68 : decode cX4_branch 68 = .ok (.iload 4, 2) := by decide +kernel
theorem dX4_branch_70 : decode cX4_branch 70 = .ok (.iastore, 1) := by decide +kernel
theorem dX4_branch_71 : decode cX4_branch 71 = .ok (.iload 5, 2) := by decide +kernel
theorem dX4_branch_73 : decode cX4_branch 73 = .ok (.ireturn, 1) := by decide +kernel
theorem dX4_out_0 : decode cX4_out 0 = .ok (.aload_n 0, 1) := by decide +kernel
theorem dX4_out_1 : decode cX4_out 1 = .ok (.iload_n 1, 1) := by decide +kernel
theorem dX4_out_2 : decode cX4_out 2 = .ok (.invokestatic 61, 3) := by decide +kernel
theorem dX4_out_5 : decode cX4_out 5 = .ok (.bipush 6, 2) := by decide +kernel
theorem dX4_out_7 : decode cX4_out 7 = .ok (.iload_n 1, 1) := by decide +kernel
theorem dX4_out_8 : decode cX4_out 8 = .ok (.iconst 0, 1) := by decide +kernel
theorem dX4_out_9 : decode cX4_out 9 = .ok (.invokevirtual 65, 3) := by decide +kernel
theorem dX4_out_12 : decode cX4_out 12 = .ok (.ireturn, 1) := by decide +kernel
theorem dX4_stop_0 : decode cX4_stop 0 = .ok (.aload_n 0, 1) := by decide +kernel
theorem dX4_stop_1 : decode cX4_stop 1 = .ok (.iload_n 1, 1) := by decide +kernel
theorem dX4_stop_2 : decode cX4_stop 2 = .ok (.iconst (-1), 1) := by decide +kernel
theorem dX4_stop_3 : decode cX4_stop 3 = .ok (.if_icmp .lt 14, 3) := by decide +kernel
theorem dX4_stop_6 : decode cX4_stop 6 = .ok (.iload_n 1, 1) := by decide +kernel
theorem dX4_stop_7 : decode cX4_stop 7 = .ok (.sipush 255, 3) := by decide +kernel
theorem dX4_stop_10 : decode cX4_stop 10 = .ok (.if_icmp .gt 7, 3) := by decide +kernel
theorem dX4_stop_13 : decode cX4_stop 13 = .ok (.iconst 1, 1) := by decide +kernel
theorem dX4_stop_14 : decode cX4_stop 14 = .ok (.goto 4, 3) := by decide +kernel
theorem dX4_stop_17 : decode cX4_stop 17 = .ok (.iconst 0, 1) := by decide +kernel
theorem dX4_stop_18 : decode cX4_stop 18 = .ok (.iload_n 1, 1) := by decide +kernel
theorem dX4_stop_19 : decode cX4_stop 19 = .ok (.ifCond .ge 8, 3) := by decide +kernel
theorem dX4_stop_22 : decode cX4_stop 22 = .ok (.bipush 7, 2) := by decide +kernel
theorem dX4_stop_24 : decode cX4_stop 24 = .ok (.goto 5, 3) := by decide +kernel
theorem dX4_stop_27 : decode cX4_stop 27 = .ok (.bipush 8, 2) := by decide +kernel
theorem dX4_stop_29 : decode cX4_stop 29 = .ok (.iload_n 1, 1) := by decide +kernel
theorem dX4_stop_30 : decode cX4_stop 30 = .ok (.iconst 0, 1) := by decide +kernel
theorem dX4_stop_31 : decode cX4_stop 31 = .ok (.invokevirtual 65, 3) := by decide +kernel
theorem dX4_stop_34 : decode cX4_stop 34 = .ok (.ireturn, 1) := by decide +kernel
theorem dX4_clear_0 : decode cX4_clear 0 = .ok (.aload_n 0, 1) := by decide +kernel
theorem dX4_clear_1 : decode cX4_clear 1 = .ok (.iconst 0, 1) := by decide +kernel
theorem dX4_clear_2 : decode cX4_clear 2 = .ok (.putfield 47, 3) := by decide +kernel
theorem dX4_clear_5 : decode cX4_clear 5 = .ok (.aload_n 0, 1) := by decide +kernel
theorem dX4_clear_6 : decode cX4_clear 6 = .ok (.iconst 0, 1) := by decide +kernel
theorem dX4_clear_7 : decode cX4_clear 7 = .ok (.putfield 51, 3) := by decide +kernel
theorem dX4_clear_10 : decode cX4_clear 10 = .ok (.aload_n 0, 1) := by decide +kernel
theorem dX4_clear_11 : decode cX4_clear 11 = .ok (.iconst 0, 1) := by decide +kernel
theorem dX4_clear_12 : decode cX4_clear 12 = .ok (.putfield 54, 3) := by decide +kernel
theorem dX4_clear_15 : decode cX4_clear 15 = .ok (.aload_n 0, 1) := by decide +kernel
theorem dX4_clear_16 : decode cX4_clear 16 = .ok (.iconst 0, 1) := by decide +kernel
theorem dX4_clear_17 : decode cX4_clear 17 = .ok (.putfield 58, 3) := by decide +kernel
theorem dX4_clear_20 : decode cX4_clear 20 = .ok (.return_, 1) := by decide +kernel
theorem dX4_slot_0 : decode cX4_slot 0 = .ok (.iload_n 0, 1) := by decide +kernel
theorem dX4_slot_1 : decode cX4_slot 1 = .ok (.iconst 4, 1) := by decide +kernel
theorem dX4_slot_2 : decode cX4_slot 2 = .ok (.if_icmp .ge 7, 3) := by decide +kernel
theorem dX4_slot_5 : decode cX4_slot 5 = .ok (.iconst 0, 1) := by decide +kernel
theorem dX4_slot_6 : decode cX4_slot 6 = .ok (.goto 4, 3) := by decide +kernel
theorem dX4_slot_9 : decode cX4_slot 9 = .ok (.iconst 1, 1) := by decide +kernel
theorem dX4_slot_10 : decode cX4_slot 10 = .ok (.ireturn, 1) := by decide +kernel
theorem dX4_shiftOf_0 : decode cX4_shiftOf 0 = .ok (.iconst 0, 1) := by decide +kernel
theorem dX4_shiftOf_1 : decode cX4_shiftOf 1 = .ok (.istore_n 1, 1) := by decide +kernel
theorem dX4_shiftOf_2 : decode cX4_shiftOf 2 = .ok (.bipush 24, 2) := by decide +kernel
theorem dX4_shiftOf_4 : decode cX4_shiftOf 4 = .ok (.istore_n 2, 1) := by decide +kernel
theorem dX4_shiftOf_5 : decode cX4_shiftOf 5 = .ok (.iload_n 2, 1) := by decide +kernel
theorem dX4_shiftOf_6 : decode cX4_shiftOf 6 = .ok (.ifCond .le 38, 3) := by decide +kernel
theorem dX4_shiftOf_9 : decode cX4_shiftOf 9 = .ok (.iload_n 0, 1) := by decide +kernel
theorem dX4_shiftOf_10 : decode cX4_shiftOf 10 = .ok (.iload_n 2, 1) := by decide +kernel
theorem dX4_shiftOf_11 : decode cX4_shiftOf 11 = .ok (.iushr, 1) := by decide +kernel
theorem dX4_shiftOf_12 : decode cX4_shiftOf 12 = .ok (.istore_n 3, 1) := by decide +kernel
theorem dX4_shiftOf_13 : decode cX4_shiftOf 13 = .ok (.iload_n 3, 1) := by decide +kernel
theorem dX4_shiftOf_14 : decode cX4_shiftOf 14 = .ok (.iconst 1, 1) := by decide +kernel
theorem dX4_shiftOf_15 : decode cX4_shiftOf 15 = .ok (.if_icmp .lt 21, 3) := by decide +kernel
theorem dX4_shiftOf_18 : decode cX4_shiftOf 18 = .ok (.iload_n 3, 1) := by decide +kernel
theorem dX4_shiftOf_19 : decode cX4_shiftOf 19 = .ok (.sipush 255, 3) := by decide +kernel
theorem dX4_shiftOf_22 : decode cX4_shiftOf 22 = .ok (.if_icmp .gt 14, 3) := by decide +kernel
theorem dX4_shiftOf_25 : decode cX4_shiftOf 25 = .ok (.iload_n 3, 1) := by decide +kernel
theorem dX4_shiftOf_26 : decode cX4_shiftOf 26 = .ok (.iload_n 2, 1) := by decide +kernel
theorem dX4_shiftOf_27 : decode cX4_shiftOf 27 = .ok (.ishl, 1) := by decide +kernel
theorem dX4_shiftOf_28 : decode cX4_shiftOf 28 = .ok (.iload_n 0, 1) := by decide +kernel
theorem dX4_shiftOf_29 : decode cX4_shiftOf 29 = .ok (.if_icmp .ne 7, 3) := by decide +kernel
theorem dX4_shiftOf_32 : decode cX4_shiftOf 32 = .ok (.iload_n 2, 1) := by decide +kernel
theorem dX4_shiftOf_33 : decode cX4_shiftOf 33 = .ok (.goto 4, 3) := by decide +kernel
theorem dX4_shiftOf_36 : decode cX4_shiftOf 36 = .ok (.iload_n 1, 1) := by decide +kernel
theorem dX4_shiftOf_37 : decode cX4_shiftOf 37 = .ok (.istore_n 1, 1) := by decide +kernel
theorem dX4_shiftOf_38 : decode cX4_shiftOf 38 = .ok (.iinc 2 (-1), 3) := by decide +kernel
theorem dX4_shiftOf_41 : decode cX4_shiftOf 41 = .ok (.goto (-36), 3) := by decide +kernel
theorem dX4_shiftOf_44 : decode cX4_shiftOf 44 = .ok (.iload_n 1, 1) := by decide +kernel
theorem dX4_shiftOf_45 : decode cX4_shiftOf 45 = .ok (.ireturn, 1) := by decide +kernel
theorem dX4_isLiteral_0 : decode cX4_isLiteral 0 = .ok (.iload_n 0, 1) := by decide +kernel
theorem dX4_isLiteral_1 : decode cX4_isLiteral 1 = .ok (.sipush (-256), 3) := by decide +kernel
theorem dX4_isLiteral_4 : decode cX4_isLiteral 4 = .ok (.if_icmp .lt 10, 3) := by decide +kernel
theorem dX4_isLiteral_7 : decode cX4_isLiteral 7 = .ok (.iload_n 0, 1) := by decide +kernel
theorem dX4_isLiteral_8 : decode cX4_isLiteral 8 = .ok (.sipush 255, 3) := by decide +kernel
theorem dX4_isLiteral_11 : decode cX4_isLiteral 11 = .ok (.if_icmp .le 14, 3) := by decide +kernel
theorem dX4_isLiteral_14 : decode cX4_isLiteral 14 = .ok (.iload_n 0, 1) := by decide +kernel
theorem dX4_isLiteral_15 : decode cX4_isLiteral 15 = .ok (.invokestatic 72, 3) := by decide +kernel
theorem dX4_isLiteral_18 : decode cX4_isLiteral 18 = .ok (.ifCond .ne 7, 3) := by decide +kernel
theorem dX4_isLiteral_21 : decode cX4_isLiteral 21 = .ok (.iconst 1, 1) := by decide +kernel
theorem dX4_isLiteral_22 : decode cX4_isLiteral 22 = .ok (.goto 4, 3) := by decide +kernel
theorem dX4_isLiteral_25 : decode cX4_isLiteral 25 = .ok (.iconst 0, 1) := by decide +kernel
theorem dX4_isLiteral_26 : decode cX4_isLiteral 26 = .ok (.ireturn, 1) := by decide +kernel
theorem dX4_makeLength_0 : decode cX4_makeLength 0 = .ok (.iload_n 0, 1) := by decide +kernel
theorem dX4_makeLength_1 : decode cX4_makeLength 1 = .ok (.ifCond .lt 10, 3) := by decide +kernel
theorem dX4_makeLength_4 : decode cX4_makeLength 4 = .ok (.iload_n 0, 1) := by decide +kernel
theorem dX4_makeLength_5 : decode cX4_makeLength 5 = .ok (.sipush 255, 3) := by decide +kernel
theorem dX4_makeLength_8 : decode cX4_makeLength 8 = .ok (.if_icmp .le 10, 3) := by decide +kernel
theorem dX4_makeLength_11 : decode cX4_makeLength 11 = .ok (.iload_n 0, 1) := by decide +kernel
theorem dX4_makeLength_12 : decode cX4_makeLength 12 = .ok (.invokestatic 76, 3) := by decide +kernel
theorem dX4_makeLength_15 : decode cX4_makeLength 15 = .ok (.ifCond .eq 7, 3) := by decide +kernel
theorem dX4_makeLength_18 : decode cX4_makeLength 18 = .ok (.iconst 1, 1) := by decide +kernel
theorem dX4_makeLength_19 : decode cX4_makeLength 19 = .ok (.goto 4, 3) := by decide +kernel
theorem dX4_makeLength_22 : decode cX4_makeLength 22 = .ok (.iconst 2, 1) := by decide +kernel
theorem dX4_makeLength_23 : decode cX4_makeLength 23 = .ok (.ireturn, 1) := by decide +kernel
theorem dX4_lengthOf_0 : decode cX4_lengthOf 0 = .ok (.aload_n 0, 1) := by decide +kernel
theorem dX4_lengthOf_1 : decode cX4_lengthOf 1 = .ok (.getfield 7, 3) := by decide +kernel
theorem dX4_lengthOf_4 : decode cX4_lengthOf 4 = .ok (.iload_n 1, 1) := by decide +kernel
theorem dX4_lengthOf_5 : decode cX4_lengthOf 5 = .ok (.iaload, 1) := by decide +kernel
theorem dX4_lengthOf_6 : decode cX4_lengthOf 6 = .ok (.tableswitch 199 0 6 #[42, 62, 118, 140, 199, 162, 197], 42) := by decide +kernel
theorem dX4_lengthOf_48 : decode cX4_lengthOf 48 = .ok (.aload_n 0, 1) := by decide +kernel
theorem dX4_lengthOf_49 : decode cX4_lengthOf 49 = .ok (.getfield 13, 3) := by decide +kernel
theorem dX4_lengthOf_52 : decode cX4_lengthOf 52 = .ok (.iload_n 1, 1) := by decide +kernel
theorem dX4_lengthOf_53 : decode cX4_lengthOf 53 = .ok (.iaload, 1) := by decide +kernel
theorem dX4_lengthOf_54 : decode cX4_lengthOf 54 = .ok (.invokestatic 79, 3) := by decide +kernel
theorem dX4_lengthOf_57 : decode cX4_lengthOf 57 = .ok (.aload_n 0, 1) := by decide +kernel
theorem dX4_lengthOf_58 : decode cX4_lengthOf 58 = .ok (.getfield 16, 3) := by decide +kernel
theorem dX4_lengthOf_61 : decode cX4_lengthOf 61 = .ok (.iload_n 1, 1) := by decide +kernel
theorem dX4_lengthOf_62 : decode cX4_lengthOf 62 = .ok (.iaload, 1) := by decide +kernel
theorem dX4_lengthOf_63 : decode cX4_lengthOf 63 = .ok (.invokestatic 82, 3) := by decide +kernel
theorem dX4_lengthOf_66 : decode cX4_lengthOf 66 = .ok (.iadd, 1) := by decide +kernel
theorem dX4_lengthOf_67 : decode cX4_lengthOf 67 = .ok (.ireturn, 1) := by decide +kernel
theorem dX4_lengthOf_68 : decode cX4_lengthOf 68 = .ok (.aload_n 0, 1) := by decide +kernel
theorem dX4_lengthOf_69 : decode cX4_lengthOf 69 = .ok (.getfield 13, 3) := by decide +kernel
theorem dX4_lengthOf_72 : decode cX4_lengthOf 72 = .ok (.iload_n 1, 1) := by decide +kernel
theorem dX4_lengthOf_73 : decode cX4_lengthOf 73 = .ok (.iaload, 1) := by decide +kernel
theorem dX4_lengthOf_74 : decode cX4_lengthOf 74 = .ok (.iconst 2, 1) := by decide +kernel
theorem dX4_lengthOf_75 : decode cX4_lengthOf 75 = .ok (.if_icmp .ge 37, 3) := by decide +kernel
theorem dX4_lengthOf_78 : decode cX4_lengthOf 78 = .ok (.aload_n 0, 1) := by decide +kernel
theorem dX4_lengthOf_79 : decode cX4_lengthOf 79 = .ok (.getfield 19, 3) := by decide +kernel
theorem dX4_lengthOf_82 : decode cX4_lengthOf 82 = .ok (.iload_n 1, 1) := by decide +kernel
theorem dX4_lengthOf_83 : decode cX4_lengthOf 83 = .ok (.iaload, 1) := by decide +kernel
theorem dX4_lengthOf_84 : decode cX4_lengthOf 84 = .ok (.invokestatic 82, 3) := by decide +kernel
theorem dX4_lengthOf_87 : decode cX4_lengthOf 87 = .ok (.aload_n 0, 1) := by decide +kernel
theorem dX4_lengthOf_88 : decode cX4_lengthOf 88 = .ok (.getfield 22, 3) := by decide +kernel
theorem dX4_lengthOf_91 : decode cX4_lengthOf 91 = .ok (.iload_n 1, 1) := by decide +kernel
theorem dX4_lengthOf_92 : decode cX4_lengthOf 92 = .ok (.iaload, 1) := by decide +kernel
theorem dX4_lengthOf_93 : decode cX4_lengthOf 93 = .ok (.invokestatic 82, 3) := by decide +kernel
theorem dX4_lengthOf_96 : decode cX4_lengthOf 96 = .ok (.iadd, 1) := by decide +kernel
theorem dX4_lengthOf_97 : decode cX4_lengthOf 97 = .ok (.iconst 1, 1) := by decide +kernel
theorem dX4_lengthOf_98 : decode cX4_lengthOf 98 = .ok (.iadd, 1) := by decide +kernel
theorem dX4_lengthOf_99 : decode cX4_lengthOf 99 = .ok (.aload_n 0, 1) := by decide +kernel
theorem dX4_lengthOf_100 : decode cX4_lengthOf 100 = .ok (.getfield 16, 3) := by decide +kernel
theorem dX4_lengthOf_103 : decode cX4_lengthOf 103 = .ok (.iload_n 1, 1) := by decide +kernel
theorem dX4_lengthOf_104 : decode cX4_lengthOf 104 = .ok (.iaload, 1) := by decide +kernel
theorem dX4_lengthOf_105 : decode cX4_lengthOf 105 = .ok (.invokestatic 82, 3) := by decide +kernel
theorem dX4_lengthOf_108 : decode cX4_lengthOf 108 = .ok (.iadd, 1) := by decide +kernel
theorem dX4_lengthOf_109 : decode cX4_lengthOf 109 = .ok (.goto 14, 3) := by decide +kernel
theorem dX4_lengthOf_112 : decode cX4_lengthOf 112 = .ok (.iconst 3, 1) := by decide +kernel
theorem dX4_lengthOf_113 : decode cX4_lengthOf 113 = .ok (.aload_n 0, 1) := by decide +kernel
theorem dX4_lengthOf_114 : decode cX4_lengthOf 114 = .ok (.getfield 22, 3) := by decide +kernel
theorem dX4_lengthOf_117 : decode cX4_lengthOf 117 = .ok (.iload_n 1, 1) := by decide +kernel
theorem dX4_lengthOf_118 : decode cX4_lengthOf 118 = .ok (.iaload, 1) := by decide +kernel
theorem dX4_lengthOf_119 : decode cX4_lengthOf 119 = .ok (.invokestatic 82, 3) := by decide +kernel
theorem dX4_lengthOf_122 : decode cX4_lengthOf 122 = .ok (.iadd, 1) := by decide +kernel
theorem dX4_lengthOf_123 : decode cX4_lengthOf 123 = .ok (.ireturn, 1) := by decide +kernel
theorem dX4_lengthOf_124 : decode cX4_lengthOf 124 = .ok (.aload_n 0, 1) := by decide +kernel
theorem dX4_lengthOf_125 : decode cX4_lengthOf 125 = .ok (.getfield 16, 3) := by decide +kernel
theorem dX4_lengthOf_128 : decode cX4_lengthOf 128 = .ok (.iload_n 1, 1) := by decide +kernel
theorem dX4_lengthOf_129 : decode cX4_lengthOf 129 = .ok (.iaload, 1) := by decide +kernel
theorem dX4_lengthOf_130 : decode cX4_lengthOf 130 = .ok (.invokestatic 82, 3) := by decide +kernel
theorem dX4_lengthOf_133 : decode cX4_lengthOf 133 = .ok (.iconst 4, 1) := by decide +kernel
theorem dX4_lengthOf_134 : decode cX4_lengthOf 134 = .ok (.iadd, 1) := by decide +kernel
theorem dX4_lengthOf_135 : decode cX4_lengthOf 135 = .ok (.aload_n 0, 1) := by decide +kernel
theorem dX4_lengthOf_136 : decode cX4_lengthOf 136 = .ok (.getfield 13, 3) := by decide +kernel
theorem dX4_lengthOf_139 : decode cX4_lengthOf 139 = .ok (.iload_n 1, 1) := by decide +kernel
theorem dX4_lengthOf_140 : decode cX4_lengthOf 140 = .ok (.iaload, 1) := by decide +kernel
theorem dX4_lengthOf_141 : decode cX4_lengthOf 141 = .ok (.invokestatic 82, 3) := by decide +kernel
theorem dX4_lengthOf_144 : decode cX4_lengthOf 144 = .ok (.iadd, 1) := by decide +kernel
theorem dX4_lengthOf_145 : decode cX4_lengthOf 145 = .ok (.ireturn, 1) := by decide +kernel
theorem dX4_lengthOf_146 : decode cX4_lengthOf 146 = .ok (.aload_n 0, 1) := by decide +kernel
theorem dX4_lengthOf_147 : decode cX4_lengthOf 147 = .ok (.getfield 13, 3) := by decide +kernel
theorem dX4_lengthOf_150 : decode cX4_lengthOf 150 = .ok (.iload_n 1, 1) := by decide +kernel
theorem dX4_lengthOf_151 : decode cX4_lengthOf 151 = .ok (.iaload, 1) := by decide +kernel
theorem dX4_lengthOf_152 : decode cX4_lengthOf 152 = .ok (.invokestatic 82, 3) := by decide +kernel
theorem dX4_lengthOf_155 : decode cX4_lengthOf 155 = .ok (.iconst 4, 1) := by decide +kernel
theorem dX4_lengthOf_156 : decode cX4_lengthOf 156 = .ok (.iadd, 1) := by decide +kernel
theorem dX4_lengthOf_157 : decode cX4_lengthOf 157 = .ok (.aload_n 0, 1) := by decide +kernel
theorem dX4_lengthOf_158 : decode cX4_lengthOf 158 = .ok (.getfield 16, 3) := by decide +kernel
theorem dX4_lengthOf_161 : decode cX4_lengthOf 161 = .ok (.iload_n 1, 1) := by decide +kernel
theorem dX4_lengthOf_162 : decode cX4_lengthOf 162 = .ok (.iaload, 1) := by decide +kernel
theorem dX4_lengthOf_163 : decode cX4_lengthOf 163 = .ok (.invokestatic 82, 3) := by decide +kernel
theorem dX4_lengthOf_166 : decode cX4_lengthOf 166 = .ok (.iadd, 1) := by decide +kernel
theorem dX4_lengthOf_167 : decode cX4_lengthOf 167 = .ok (.ireturn, 1) := by decide +kernel
theorem dX4_lengthOf_168 : decode cX4_lengthOf 168 = .ok (.aload_n 0, 1) := by decide +kernel
theorem dX4_lengthOf_169 : decode cX4_lengthOf 169 = .ok (.getfield 16, 3) := by decide +kernel
theorem dX4_lengthOf_172 : decode cX4_lengthOf 172 = .ok (.iload_n 1, 1) := by decide +kernel
theorem dX4_lengthOf_173 : decode cX4_lengthOf 173 = .ok (.iaload, 1) := by decide +kernel
theorem dX4_lengthOf_174 : decode cX4_lengthOf 174 = .ok (.invokestatic 82, 3) := by decide +kernel
theorem dX4_lengthOf_177 : decode cX4_lengthOf 177 = .ok (.aload_n 0, 1) := by decide +kernel
theorem dX4_lengthOf_178 : decode cX4_lengthOf 178 = .ok (.getfield 19, 3) := by decide +kernel
theorem dX4_lengthOf_181 : decode cX4_lengthOf 181 = .ok (.iload_n 1, 1) := by decide +kernel
theorem dX4_lengthOf_182 : decode cX4_lengthOf 182 = .ok (.iaload, 1) := by decide +kernel
theorem dX4_lengthOf_183 : decode cX4_lengthOf 183 = .ok (.invokestatic 82, 3) := by decide +kernel
theorem dX4_lengthOf_186 : decode cX4_lengthOf 186 = .ok (.iadd, 1) := by decide +kernel
theorem dX4_lengthOf_187 : decode cX4_lengthOf 187 = .ok (.aload_n 0, 1) := by decide +kernel
theorem dX4_lengthOf_188 : decode cX4_lengthOf 188 = .ok (.getfield 34, 3) := by decide +kernel
theorem dX4_lengthOf_191 : decode cX4_lengthOf 191 = .ok (.iload_n 1, 1) := by decide +kernel
theorem dX4_lengthOf_192 : decode cX4_lengthOf 192 = .ok (.baload, 1) := by decide +kernel
theorem dX4_lengthOf_193 : decode cX4_lengthOf 193 = .ok (.ifCond .eq 7, 3) := by decide +kernel
theorem dX4_lengthOf_196 : decode cX4_lengthOf 196 = .ok (.iconst 3, 1) := by decide +kernel
theorem dX4_lengthOf_197 : decode cX4_lengthOf 197 = .ok (.goto 4, 3) := by decide +kernel
theorem dX4_lengthOf_200 : decode cX4_lengthOf 200 = .ok (.iconst 2, 1) := by decide +kernel
theorem dX4_lengthOf_201 : decode cX4_lengthOf 201 = .ok (.iadd, 1) := by decide +kernel
theorem dX4_lengthOf_202 : decode cX4_lengthOf 202 = .ok (.ireturn, 1) := by decide +kernel
theorem dX4_lengthOf_203 : decode cX4_lengthOf 203 = .ok (.iconst 2, 1) := by decide +kernel
theorem dX4_lengthOf_204 : decode cX4_lengthOf 204 = .ok (.ireturn, 1) := by decide +kernel
theorem dX4_lengthOf_205 : decode cX4_lengthOf 205 = .ok (.iconst 1, 1) := by decide +kernel
theorem dX4_lengthOf_206 : decode cX4_lengthOf 206 = .ok (.ireturn, 1) := by decide +kernel
theorem dX4_layOut_0 : decode cX4_layOut 0 = .ok (.aload_n 0, 1) := by decide +kernel
theorem dX4_layOut_1 : decode cX4_layOut 1 = .ok (.getfield 31, 3) := by decide +kernel
theorem dX4_layOut_4 : decode cX4_layOut 4 = .ok (.iconst 0, 1) := by decide +kernel
theorem dX4_layOut_5 : decode cX4_layOut 5 = .ok (.iconst 1, 1) := by decide +kernel
theorem dX4_layOut_6 : decode cX4_layOut 6 = .ok (.iastore, 1) := by decide +kernel
theorem dX4_layOut_7 : decode cX4_layOut 7 = .ok (.iconst 0, 1) := by decide +kernel
theorem dX4_layOut_8 : decode cX4_layOut 8 = .ok (.istore_n 1, 1) := by decide +kernel
theorem dX4_layOut_9 : decode cX4_layOut 9 = .ok (.iload_n 1, 1) := by decide +kernel
theorem dX4_layOut_10 : decode cX4_layOut 10 = .ok (.aload_n 0, 1) := by decide +kernel
theorem dX4_layOut_11 : decode cX4_layOut 11 = .ok (.getfield 51, 3) := by decide +kernel
theorem dX4_layOut_14 : decode cX4_layOut 14 = .ok (.if_icmp .ge 29, 3) := by decide +kernel
theorem dX4_layOut_17 : decode cX4_layOut 17 = .ok (.aload_n 0, 1) := by decide +kernel
theorem dX4_layOut_18 : decode cX4_layOut 18 = .ok (.getfield 31, 3) := by decide +kernel
theorem dX4_layOut_21 : decode cX4_layOut 21 = .ok (.iload_n 1, 1) := by decide +kernel
theorem dX4_layOut_22 : decode cX4_layOut 22 = .ok (.iconst 1, 1) := by decide +kernel
theorem dX4_layOut_23 : decode cX4_layOut 23 = .ok (.iadd, 1) := by decide +kernel
theorem dX4_layOut_24 : decode cX4_layOut 24 = .ok (.aload_n 0, 1) := by decide +kernel
theorem dX4_layOut_25 : decode cX4_layOut 25 = .ok (.getfield 31, 3) := by decide +kernel
theorem dX4_layOut_28 : decode cX4_layOut 28 = .ok (.iload_n 1, 1) := by decide +kernel
theorem dX4_layOut_29 : decode cX4_layOut 29 = .ok (.iaload, 1) := by decide +kernel
theorem dX4_layOut_30 : decode cX4_layOut 30 = .ok (.aload_n 0, 1) := by decide +kernel
theorem dX4_layOut_31 : decode cX4_layOut 31 = .ok (.iload_n 1, 1) := by decide +kernel
theorem dX4_layOut_32 : decode cX4_layOut 32 = .ok (.invokevirtual 85, 3) := by decide +kernel
theorem dX4_layOut_35 : decode cX4_layOut 35 = .ok (.iadd, 1) := by decide +kernel
theorem dX4_layOut_36 : decode cX4_layOut 36 = .ok (.iastore, 1) := by decide +kernel
theorem dX4_layOut_37 : decode cX4_layOut 37 = .ok (.iinc 1 1, 3) := by decide +kernel
theorem dX4_layOut_40 : decode cX4_layOut 40 = .ok (.goto (-31), 3) := by decide +kernel
theorem dX4_layOut_43 : decode cX4_layOut 43 = .ok (.return_, 1) := by decide +kernel
theorem dX4_way_0 : decode cX4_way 0 = .ok (.aload_n 0, 1) := by decide +kernel
theorem dX4_way_1 : decode cX4_way 1 = .ok (.getfield 31, 3) := by decide +kernel
theorem dX4_way_4 : decode cX4_way 4 = .ok (.iload_n 2, 1) := by decide +kernel
theorem dX4_way_5 : decode cX4_way 5 = .ok (.iaload, 1) := by decide +kernel
theorem dX4_way_6 : decode cX4_way 6 = .ok (.iload_n 1, 1) := by decide +kernel
theorem dX4_way_7 : decode cX4_way 7 = .ok (.isub, 1) := by decide +kernel
theorem dX4_way_8 : decode cX4_way 8 = .ok (.iconst 2, 1) := by decide +kernel
theorem dX4_way_9 : decode cX4_way 9 = .ok (.isub, 1) := by decide +kernel
theorem dX4_way_10 : decode cX4_way 10 = .ok (.ireturn, 1) := by decide +kernel
theorem dX4_lengthen_0 : decode cX4_lengthen 0 = .ok (.iconst 0, 1) := by decide +kernel
theorem dX4_lengthen_1 : decode cX4_lengthen 1 = .ok (.istore_n 1, 1) := by decide +kernel
theorem dX4_lengthen_2 : decode cX4_lengthen 2 = .ok (.iload_n 1, 1) := by decide +kernel
theorem dX4_lengthen_3 : decode cX4_lengthen 3 = .ok (.aload_n 0, 1) := by decide +kernel
theorem dX4_lengthen_4 : decode cX4_lengthen 4 = .ok (.getfield 51, 3) := by decide +kernel
theorem dX4_lengthen_7 : decode cX4_lengthen 7 = .ok (.if_icmp .ge 16, 3) := by decide +kernel
theorem dX4_lengthen_10 : decode cX4_lengthen 10 = .ok (.aload_n 0, 1) := by decide +kernel
theorem dX4_lengthen_11 : decode cX4_lengthen 11 = .ok (.getfield 34, 3) := by decide +kernel
theorem dX4_lengthen_14 : decode cX4_lengthen 14 = .ok (.iload_n 1, 1) := by decide +kernel
theorem dX4_lengthen_15 : decode cX4_lengthen 15 = .ok (.iconst 0, 1) := by decide +kernel
theorem dX4_lengthen_16 : decode cX4_lengthen 16 = .ok (.bastore, 1) := by decide +kernel
theorem dX4_lengthen_17 : decode cX4_lengthen 17 = .ok (.iinc 1 1, 3) := by decide +kernel
theorem dX4_lengthen_20 : decode cX4_lengthen 20 = .ok (.goto (-18), 3) := by decide +kernel
theorem dX4_lengthen_23 : decode cX4_lengthen 23 = .ok (.iconst 1, 1) := by decide +kernel
theorem dX4_lengthen_24 : decode cX4_lengthen 24 = .ok (.istore_n 1, 1) := by decide +kernel
theorem dX4_lengthen_25 : decode cX4_lengthen 25 = .ok (.iload_n 1, 1) := by decide +kernel
theorem dX4_lengthen_26 : decode cX4_lengthen 26 = .ok (.ifCond .eq 107, 3) := by decide +kernel
theorem dX4_lengthen_29 : decode cX4_lengthen 29 = .ok (.iconst 0, 1) := by decide +kernel
theorem dX4_lengthen_30 : decode cX4_lengthen 30 = .ok (.istore_n 1, 1) := by decide +kernel
theorem dX4_lengthen_31 : decode cX4_lengthen 31 = .ok (.aload_n 0, 1) := by decide +kernel
theorem dX4_lengthen_32 : decode cX4_lengthen 32 = .ok (.invokevirtual 88, 3) := by decide +kernel
theorem dX4_lengthen_35 : decode cX4_lengthen 35 = .ok (.iconst 0, 1) := by decide +kernel
theorem dX4_lengthen_36 : decode cX4_lengthen 36 = .ok (.istore_n 2, 1) := by decide +kernel
theorem dX4_lengthen_37 : decode cX4_lengthen 37 = .ok (.iload_n 2, 1) := by decide +kernel
theorem dX4_lengthen_38 : decode cX4_lengthen 38 = .ok (.aload_n 0, 1) := by decide +kernel
theorem dX4_lengthen_39 : decode cX4_lengthen 39 = .ok (.getfield 51, 3) := by decide +kernel
theorem dX4_lengthen_42 : decode cX4_lengthen 42 = .ok (.if_icmp .ge 88, 3) := by decide +kernel
theorem dX4_lengthen_45 : decode cX4_lengthen 45 = .ok (.aload_n 0, 1) := by decide +kernel
theorem dX4_lengthen_46 : decode cX4_lengthen 46 = .ok (.getfield 7, 3) := by decide +kernel
theorem dX4_lengthen_49 : decode cX4_lengthen 49 = .ok (.iload_n 2, 1) := by decide +kernel
theorem dX4_lengthen_50 : decode cX4_lengthen 50 = .ok (.iaload, 1) := by decide +kernel
theorem dX4_lengthen_51 : decode cX4_lengthen 51 = .ok (.iconst 5, 1) := by decide +kernel
theorem dX4_lengthen_52 : decode cX4_lengthen 52 = .ok (.if_icmp .ne 72, 3) := by decide +kernel
theorem dX4_lengthen_55 : decode cX4_lengthen 55 = .ok (.aload_n 0, 1) := by decide +kernel
theorem dX4_lengthen_56 : decode cX4_lengthen 56 = .ok (.getfield 34, 3) := by decide +kernel
theorem dX4_lengthen_59 : decode cX4_lengthen 59 = .ok (.iload_n 2, 1) := by decide +kernel
theorem dX4_lengthen_60 : decode cX4_lengthen 60 = .ok (.baload, 1) := by decide +kernel
theorem dX4_lengthen_61 : decode cX4_lengthen 61 = .ok (.ifCond .ne 63, 3) := by decide +kernel
theorem dX4_lengthen_64 : decode cX4_lengthen 64 = .ok (.aload_n 0, 1) := by decide +kernel
theorem dX4_lengthen_65 : decode cX4_lengthen 65 = .ok (.aload_n 0, 1) := by decide +kernel
theorem dX4_lengthen_66 : decode cX4_lengthen 66 = .ok (.getfield 31, 3) := by decide +kernel
theorem dX4_lengthen_69 : decode cX4_lengthen 69 = .ok (.iload_n 2, 1) := by decide +kernel
theorem dX4_lengthen_70 : decode cX4_lengthen 70 = .ok (.iaload, 1) := by decide +kernel
theorem dX4_lengthen_71 : decode cX4_lengthen 71 = .ok (.aload_n 0, 1) := by decide +kernel
theorem dX4_lengthen_72 : decode cX4_lengthen 72 = .ok (.getfield 16, 3) := by decide +kernel
theorem dX4_lengthen_75 : decode cX4_lengthen 75 = .ok (.iload_n 2, 1) := by decide +kernel
theorem dX4_lengthen_76 : decode cX4_lengthen 76 = .ok (.iaload, 1) := by decide +kernel
theorem dX4_lengthen_77 : decode cX4_lengthen 77 = .ok (.invokestatic 82, 3) := by decide +kernel
theorem dX4_lengthen_80 : decode cX4_lengthen 80 = .ok (.iadd, 1) := by decide +kernel
theorem dX4_lengthen_81 : decode cX4_lengthen 81 = .ok (.aload_n 0, 1) := by decide +kernel
theorem dX4_lengthen_82 : decode cX4_lengthen 82 = .ok (.getfield 19, 3) := by decide +kernel
theorem dX4_lengthen_85 : decode cX4_lengthen 85 = .ok (.iload_n 2, 1) := by decide +kernel
theorem dX4_lengthen_86 : decode cX4_lengthen 86 = .ok (.iaload, 1) := by decide +kernel
theorem dX4_lengthen_87 : decode cX4_lengthen 87 = .ok (.invokestatic 82, 3) := by decide +kernel
theorem dX4_lengthen_90 : decode cX4_lengthen 90 = .ok (.iadd, 1) := by decide +kernel
theorem dX4_lengthen_91 : decode cX4_lengthen 91 = .ok (.iconst 1, 1) := by decide +kernel
theorem dX4_lengthen_92 : decode cX4_lengthen 92 = .ok (.iadd, 1) := by decide +kernel
theorem dX4_lengthen_93 : decode cX4_lengthen 93 = .ok (.aload_n 0, 1) := by decide +kernel
theorem dX4_lengthen_94 : decode cX4_lengthen 94 = .ok (.getfield 22, 3) := by decide +kernel
theorem dX4_lengthen_97 : decode cX4_lengthen 97 = .ok (.iload_n 2, 1) := by decide +kernel
theorem dX4_lengthen_98 : decode cX4_lengthen 98 = .ok (.iaload, 1) := by decide +kernel
theorem dX4_lengthen_99 : decode cX4_lengthen 99 = .ok (.invokevirtual 91, 3) := by decide +kernel
theorem dX4_lengthen_102 : decode cX4_lengthen 102 = .ok (.istore_n 3, 1) := by decide +kernel
theorem dX4_lengthen_103 : decode cX4_lengthen 103 = .ok (.iload_n 3, 1) := by decide +kernel
theorem dX4_lengthen_104 : decode cX4_lengthen 104 = .ok (.bipush (-128), 2) := by decide +kernel
theorem dX4_lengthen_106 : decode cX4_lengthen 106 = .ok (.if_icmp .lt 9, 3) := by decide +kernel
theorem dX4_lengthen_109 : decode cX4_lengthen 109 = .ok (.iload_n 3, 1) := by decide +kernel
theorem dX4_lengthen_110 : decode cX4_lengthen 110 = .ok (.bipush 127, 2) := by decide +kernel
theorem dX4_lengthen_112 : decode cX4_lengthen 112 = .ok (.if_icmp .le 12, 3) := by decide +kernel
theorem dX4_lengthen_115 : decode cX4_lengthen 115 = .ok (.aload_n 0, 1) := by decide +kernel
theorem dX4_lengthen_116 : decode cX4_lengthen 116 = .ok (.getfield 34, 3) := by decide +kernel
theorem dX4_lengthen_119 : decode cX4_lengthen 119 = .ok (.iload_n 2, 1) := by decide +kernel
theorem dX4_lengthen_120 : decode cX4_lengthen 120 = .ok (.iconst 1, 1) := by decide +kernel
theorem dX4_lengthen_121 : decode cX4_lengthen 121 = .ok (.bastore, 1) := by decide +kernel
theorem dX4_lengthen_122 : decode cX4_lengthen 122 = .ok (.iconst 1, 1) := by decide +kernel
theorem dX4_lengthen_123 : decode cX4_lengthen 123 = .ok (.istore_n 1, 1) := by decide +kernel
theorem dX4_lengthen_124 : decode cX4_lengthen 124 = .ok (.iinc 2 1, 3) := by decide +kernel
theorem dX4_lengthen_127 : decode cX4_lengthen 127 = .ok (.goto (-90), 3) := by decide +kernel
theorem dX4_lengthen_130 : decode cX4_lengthen 130 = .ok (.goto (-105), 3) := by decide +kernel
theorem dX4_lengthen_133 : decode cX4_lengthen 133 = .ok (.return_, 1) := by decide +kernel
theorem dX4_emit_0 : decode cX4_emit 0 = .ok (.aload_n 0, 1) := by decide +kernel
theorem dX4_emit_1 : decode cX4_emit 1 = .ok (.getfield 28, 3) := by decide +kernel
theorem dX4_emit_4 : decode cX4_emit 4 = .ok (.aload_n 0, 1) := by decide +kernel
theorem dX4_emit_5 : decode cX4_emit 5 = .ok (.getfield 95, 3) := by decide +kernel
theorem dX4_emit_8 : decode cX4_emit 8 = .ok (.iload_n 1, 1) := by decide +kernel
theorem dX4_emit_9 : decode cX4_emit 9 = .ok (.iastore, 1) := by decide +kernel
theorem dX4_emit_10 : decode cX4_emit 10 = .ok (.aload_n 0, 1) := by decide +kernel
theorem dX4_emit_11 : decode cX4_emit 11 = .ok (.dup, 1) := by decide +kernel
theorem dX4_emit_12 : decode cX4_emit 12 = .ok (.getfield 95, 3) := by decide +kernel
theorem dX4_emit_15 : decode cX4_emit 15 = .ok (.iconst 1, 1) := by decide +kernel
theorem dX4_emit_16 : decode cX4_emit 16 = .ok (.iadd, 1) := by decide +kernel
theorem dX4_emit_17 : decode cX4_emit 17 = .ok (.putfield 95, 3) := by decide +kernel
theorem dX4_emit_20 : decode cX4_emit 20 = .ok (.return_, 1) := by decide +kernel
theorem dX4_fetch_0 : decode cX4_fetch 0 = .ok (.iload_n 1, 1) := by decide +kernel
theorem dX4_fetch_1 : decode cX4_fetch 1 = .ok (.iconst 4, 1) := by decide +kernel
theorem dX4_fetch_2 : decode cX4_fetch 2 = .ok (.if_icmp .ge 7, 3) := by decide +kernel
theorem dX4_fetch_5 : decode cX4_fetch 5 = .ok (.iconst 4, 1) := by decide +kernel
theorem dX4_fetch_6 : decode cX4_fetch 6 = .ok (.iload_n 1, 1) := by decide +kernel
theorem dX4_fetch_7 : decode cX4_fetch 7 = .ok (.iadd, 1) := by decide +kernel
theorem dX4_fetch_8 : decode cX4_fetch 8 = .ok (.ireturn, 1) := by decide +kernel
theorem dX4_fetch_9 : decode cX4_fetch 9 = .ok (.aload_n 0, 1) := by decide +kernel
theorem dX4_fetch_10 : decode cX4_fetch 10 = .ok (.ldc 98, 2) := by decide +kernel
theorem dX4_fetch_12 : decode cX4_fetch 12 = .ok (.sipush 256, 3) := by decide +kernel
theorem dX4_fetch_15 : decode cX4_fetch 15 = .ok (.iload_n 2, 1) := by decide +kernel
theorem dX4_fetch_16 : decode cX4_fetch 16 = .ok (.imul, 1) := by decide +kernel
theorem dX4_fetch_17 : decode cX4_fetch 17 = .ok (.iadd, 1) := by decide +kernel
theorem dX4_fetch_18 : decode cX4_fetch 18 = .ok (.iload_n 1, 1) := by decide +kernel
theorem dX4_fetch_19 : decode cX4_fetch 19 = .ok (.iadd, 1) := by decide +kernel
theorem dX4_fetch_20 : decode cX4_fetch 20 = .ok (.iconst 4, 1) := by decide +kernel
theorem dX4_fetch_21 : decode cX4_fetch 21 = .ok (.isub, 1) := by decide +kernel
theorem dX4_fetch_22 : decode cX4_fetch 22 = .ok (.invokevirtual 99, 3) := by decide +kernel
theorem dX4_fetch_25 : decode cX4_fetch 25 = .ok (.iload_n 2, 1) := by decide +kernel
theorem dX4_fetch_26 : decode cX4_fetch 26 = .ok (.ireturn, 1) := by decide +kernel
theorem dX4_target_0 : decode cX4_target 0 = .ok (.iload_n 0, 1) := by decide +kernel
theorem dX4_target_1 : decode cX4_target 1 = .ok (.iconst 4, 1) := by decide +kernel
theorem dX4_target_2 : decode cX4_target 2 = .ok (.if_icmp .ge 9, 3) := by decide +kernel
theorem dX4_target_5 : decode cX4_target 5 = .ok (.iconst 4, 1) := by decide +kernel
theorem dX4_target_6 : decode cX4_target 6 = .ok (.iload_n 0, 1) := by decide +kernel
theorem dX4_target_7 : decode cX4_target 7 = .ok (.iadd, 1) := by decide +kernel
theorem dX4_target_8 : decode cX4_target 8 = .ok (.goto 4, 3) := by decide +kernel
theorem dX4_target_11 : decode cX4_target 11 = .ok (.iconst 0, 1) := by decide +kernel
theorem dX4_target_12 : decode cX4_target 12 = .ok (.ireturn, 1) := by decide +kernel
theorem dX4_keep_0 : decode cX4_keep 0 = .ok (.iload_n 1, 1) := by decide +kernel
theorem dX4_keep_1 : decode cX4_keep 1 = .ok (.iconst 3, 1) := by decide +kernel
theorem dX4_keep_2 : decode cX4_keep 2 = .ok (.if_icmp .le 13, 3) := by decide +kernel
theorem dX4_keep_5 : decode cX4_keep 5 = .ok (.aload_n 0, 1) := by decide +kernel
theorem dX4_keep_6 : decode cX4_keep 6 = .ok (.ldc 103, 2) := by decide +kernel
theorem dX4_keep_8 : decode cX4_keep 8 = .ok (.iload_n 1, 1) := by decide +kernel
theorem dX4_keep_9 : decode cX4_keep 9 = .ok (.iadd, 1) := by decide +kernel
theorem dX4_keep_10 : decode cX4_keep 10 = .ok (.iconst 4, 1) := by decide +kernel
theorem dX4_keep_11 : decode cX4_keep 11 = .ok (.isub, 1) := by decide +kernel
theorem dX4_keep_12 : decode cX4_keep 12 = .ok (.invokevirtual 99, 3) := by decide +kernel
theorem dX4_keep_15 : decode cX4_keep 15 = .ok (.return_, 1) := by decide +kernel
theorem dX4_literal_0 : decode cX4_literal 0 = .ok (.iconst 0, 1) := by decide +kernel
theorem dX4_literal_1 : decode cX4_literal 1 = .ok (.istore_n 3, 1) := by decide +kernel
theorem dX4_literal_2 : decode cX4_literal 2 = .ok (.iload_n 3, 1) := by decide +kernel
theorem dX4_literal_3 : decode cX4_literal 3 = .ok (.aload_n 0, 1) := by decide +kernel
theorem dX4_literal_4 : decode cX4_literal 4 = .ok (.getfield 104, 3) := by decide +kernel
theorem dX4_literal_7 : decode cX4_literal 7 = .ok (.if_icmp .ge 19, 3) := by decide +kernel
theorem dX4_literal_10 : decode cX4_literal 10 = .ok (.aload_n 0, 1) := by decide +kernel
theorem dX4_literal_11 : decode cX4_literal 11 = .ok (.getfield 38, 3) := by decide +kernel
theorem dX4_literal_14 : decode cX4_literal 14 = .ok (.iload_n 3, 1) := by decide +kernel
theorem dX4_literal_15 : decode cX4_literal 15 = .ok (.iaload, 1) := by decide +kernel
theorem dX4_literal_16 : decode cX4_literal 16 = .ok (.iload_n 2, 1) := by decide +kernel
theorem dX4_literal_17 : decode cX4_literal 17 = .ok (.if_icmp .eq 9, 3) := by decide +kernel
theorem dX4_literal_20 : decode cX4_literal 20 = .ok (.iinc 3 1, 3) := by decide +kernel
theorem dX4_literal_23 : decode cX4_literal 23 = .ok (.goto (-21), 3) := by decide +kernel
theorem dX4_literal_26 : decode cX4_literal 26 = .ok (.aload_n 0, 1) := by decide +kernel
theorem dX4_literal_27 : decode cX4_literal 27 = .ok (.getfield 38, 3) := by decide +kernel
theorem dX4_literal_30 : decode cX4_literal 30 = .ok (.iload_n 3, 1) := by decide +kernel
theorem dX4_literal_31 : decode cX4_literal 31 = .ok (.iload_n 2, 1) := by decide +kernel
theorem dX4_literal_32 : decode cX4_literal 32 = .ok (.iastore, 1) := by decide +kernel
theorem dX4_literal_33 : decode cX4_literal 33 = .ok (.aload_n 0, 1) := by decide +kernel
theorem dX4_literal_34 : decode cX4_literal 34 = .ok (.iload_n 3, 1) := by decide +kernel
theorem dX4_literal_35 : decode cX4_literal 35 = .ok (.aload_n 0, 1) := by decide +kernel
theorem dX4_literal_36 : decode cX4_literal 36 = .ok (.getfield 104, 3) := by decide +kernel
theorem dX4_literal_39 : decode cX4_literal 39 = .ok (.if_icmp .ne 12, 3) := by decide +kernel
theorem dX4_literal_42 : decode cX4_literal 42 = .ok (.aload_n 0, 1) := by decide +kernel
theorem dX4_literal_43 : decode cX4_literal 43 = .ok (.getfield 104, 3) := by decide +kernel
theorem dX4_literal_46 : decode cX4_literal 46 = .ok (.iconst 1, 1) := by decide +kernel
theorem dX4_literal_47 : decode cX4_literal 47 = .ok (.iadd, 1) := by decide +kernel
theorem dX4_literal_48 : decode cX4_literal 48 = .ok (.goto 7, 3) := by decide +kernel
theorem dX4_literal_51 : decode cX4_literal 51 = .ok (.aload_n 0, 1) := by decide +kernel
theorem dX4_literal_52 : decode cX4_literal 52 = .ok (.getfield 104, 3) := by decide +kernel
theorem dX4_literal_55 : decode cX4_literal 55 = .ok (.putfield 104, 3) := by decide +kernel
theorem dX4_literal_58 : decode cX4_literal 58 = .ok (.iconst 2, 1) := by decide +kernel
theorem dX4_literal_59 : decode cX4_literal 59 = .ok (.aload_n 0, 1) := by decide +kernel
theorem dX4_literal_60 : decode cX4_literal 60 = .ok (.getfield 95, 3) := by decide +kernel
theorem dX4_literal_63 : decode cX4_literal 63 = .ok (.imul, 1) := by decide +kernel
theorem dX4_literal_64 : decode cX4_literal 64 = .ok (.iconst 4, 1) := by decide +kernel
theorem dX4_literal_65 : decode cX4_literal 65 = .ok (.iadd, 1) := by decide +kernel
theorem dX4_literal_66 : decode cX4_literal 66 = .ok (.istore 4, 2) := by decide +kernel
theorem dX4_literal_68 : decode cX4_literal 68 = .ok (.iload 4, 2) := by decide +kernel
theorem dX4_literal_70 : decode cX4_literal 70 = .ok (.iconst 4, 1) := by decide +kernel
theorem dX4_literal_71 : decode cX4_literal 71 = .ok (.irem, 1) := by decide +kernel
theorem dX4_literal_72 : decode cX4_literal 72 = .ok (.ifCond .ne 8, 3) := by decide +kernel
theorem dX4_literal_75 : decode cX4_literal 75 = .ok (.iload 4, 2) := by decide +kernel
theorem dX4_literal_77 : decode cX4_literal 77 = .ok (.goto 7, 3) := by decide +kernel
theorem dX4_literal_80 : decode cX4_literal 80 = .ok (.iload 4, 2) := by decide +kernel
theorem dX4_literal_82 : decode cX4_literal 82 = .ok (.iconst 2, 1) := by decide +kernel
theorem dX4_literal_83 : decode cX4_literal 83 = .ok (.isub, 1) := by decide +kernel
theorem dX4_literal_84 : decode cX4_literal 84 = .ok (.istore 4, 2) := by decide +kernel
theorem dX4_literal_86 : decode cX4_literal 86 = .ok (.aload_n 0, 1) := by decide +kernel
theorem dX4_literal_87 : decode cX4_literal 87 = .ok (.sipush 18432, 3) := by decide +kernel
theorem dX4_literal_90 : decode cX4_literal 90 = .ok (.sipush 256, 3) := by decide +kernel
theorem dX4_literal_93 : decode cX4_literal 93 = .ok (.iload_n 1, 1) := by decide +kernel
theorem dX4_literal_94 : decode cX4_literal 94 = .ok (.imul, 1) := by decide +kernel
theorem dX4_literal_95 : decode cX4_literal 95 = .ok (.iadd, 1) := by decide +kernel
theorem dX4_literal_96 : decode cX4_literal 96 = .ok (.iconst 2, 1) := by decide +kernel
theorem dX4_literal_97 : decode cX4_literal 97 = .ok (.aload_n 0, 1) := by decide +kernel
theorem dX4_literal_98 : decode cX4_literal 98 = .ok (.getfield 107, 3) := by decide +kernel
theorem dX4_literal_101 : decode cX4_literal 101 = .ok (.imul, 1) := by decide +kernel
theorem dX4_literal_102 : decode cX4_literal 102 = .ok (.iconst 4, 1) := by decide +kernel
theorem dX4_literal_103 : decode cX4_literal 103 = .ok (.iload_n 3, 1) := by decide +kernel
theorem dX4_literal_104 : decode cX4_literal 104 = .ok (.imul, 1) := by decide +kernel
theorem dX4_literal_105 : decode cX4_literal 105 = .ok (.iadd, 1) := by decide +kernel
theorem dX4_literal_106 : decode cX4_literal 106 = .ok (.iload 4, 2) := by decide +kernel
theorem dX4_literal_108 : decode cX4_literal 108 = .ok (.isub, 1) := by decide +kernel
theorem dX4_literal_109 : decode cX4_literal 109 = .ok (.iconst 4, 1) := by decide +kernel
theorem dX4_literal_110 : decode cX4_literal 110 = .ok (.idiv, 1) := by decide +kernel
theorem dX4_literal_111 : decode cX4_literal 111 = .ok (.iadd, 1) := by decide +kernel
theorem dX4_literal_112 : decode cX4_literal 112 = .ok (.invokevirtual 99, 3) := by decide +kernel
theorem dX4_literal_115 : decode cX4_literal 115 = .ok (.return_, 1) := by decide +kernel
theorem dX4_make_0 : decode cX4_make 0 = .ok (.iload_n 2, 1) := by decide +kernel
theorem dX4_make_1 : decode cX4_make 1 = .ok (.invokestatic 72, 3) := by decide +kernel
theorem dX4_make_4 : decode cX4_make 4 = .ok (.istore_n 3, 1) := by decide +kernel
theorem dX4_make_5 : decode cX4_make 5 = .ok (.iload_n 2, 1) := by decide +kernel
theorem dX4_make_6 : decode cX4_make 6 = .ok (.ifCond .lt 28, 3) := by decide +kernel
theorem dX4_make_9 : decode cX4_make 9 = .ok (.iload_n 2, 1) := by decide +kernel
theorem dX4_make_10 : decode cX4_make 10 = .ok (.sipush 255, 3) := by decide +kernel
theorem dX4_make_13 : decode cX4_make 13 = .ok (.if_icmp .gt 21, 3) := by decide +kernel
theorem dX4_make_16 : decode cX4_make 16 = .ok (.aload_n 0, 1) := by decide +kernel
theorem dX4_make_17 : decode cX4_make 17 = .ok (.sipush 8192, 3) := by decide +kernel
theorem dX4_make_20 : decode cX4_make 20 = .ok (.sipush 256, 3) := by decide +kernel
theorem dX4_make_23 : decode cX4_make 23 = .ok (.iload_n 1, 1) := by decide +kernel
theorem dX4_make_24 : decode cX4_make 24 = .ok (.imul, 1) := by decide +kernel
theorem dX4_make_25 : decode cX4_make 25 = .ok (.iadd, 1) := by decide +kernel
theorem dX4_make_26 : decode cX4_make 26 = .ok (.iload_n 2, 1) := by decide +kernel
theorem dX4_make_27 : decode cX4_make 27 = .ok (.iadd, 1) := by decide +kernel
theorem dX4_make_28 : decode cX4_make 28 = .ok (.invokevirtual 99, 3) := by decide +kernel
theorem dX4_make_31 : decode cX4_make 31 = .ok (.goto 89, 3) := by decide +kernel
theorem dX4_make_34 : decode cX4_make 34 = .ok (.iload_n 2, 1) := by decide +kernel
theorem dX4_make_35 : decode cX4_make 35 = .ok (.ifCond .ge 42, 3) := by decide +kernel
theorem dX4_make_38 : decode cX4_make 38 = .ok (.iload_n 2, 1) := by decide +kernel
theorem dX4_make_39 : decode cX4_make 39 = .ok (.sipush (-256), 3) := by decide +kernel
theorem dX4_make_42 : decode cX4_make 42 = .ok (.if_icmp .lt 35, 3) := by decide +kernel
theorem dX4_make_45 : decode cX4_make 45 = .ok (.aload_n 0, 1) := by decide +kernel
theorem dX4_make_46 : decode cX4_make 46 = .ok (.sipush 8192, 3) := by decide +kernel
theorem dX4_make_49 : decode cX4_make 49 = .ok (.sipush 256, 3) := by decide +kernel
theorem dX4_make_52 : decode cX4_make 52 = .ok (.iload_n 1, 1) := by decide +kernel
theorem dX4_make_53 : decode cX4_make 53 = .ok (.imul, 1) := by decide +kernel
theorem dX4_make_54 : decode cX4_make 54 = .ok (.iadd, 1) := by decide +kernel
theorem dX4_make_55 : decode cX4_make 55 = .ok (.iconst 1, 1) := by decide +kernel
theorem dX4_make_56 : decode cX4_make 56 = .ok (.isub, 1) := by decide +kernel
theorem dX4_make_57 : decode cX4_make 57 = .ok (.iload_n 2, 1) := by decide +kernel
theorem dX4_make_58 : decode cX4_make 58 = .ok (.isub, 1) := by decide +kernel
theorem dX4_make_59 : decode cX4_make 59 = .ok (.invokevirtual 99, 3) := by decide +kernel
theorem dX4_make_62 : decode cX4_make 62 = .ok (.aload_n 0, 1) := by decide +kernel
theorem dX4_make_63 : decode cX4_make 63 = .ok (.sipush 17344, 3) := by decide +kernel
theorem dX4_make_66 : decode cX4_make 66 = .ok (.bipush 9, 2) := by decide +kernel
theorem dX4_make_68 : decode cX4_make 68 = .ok (.iload_n 1, 1) := by decide +kernel
theorem dX4_make_69 : decode cX4_make 69 = .ok (.imul, 1) := by decide +kernel
theorem dX4_make_70 : decode cX4_make 70 = .ok (.iadd, 1) := by decide +kernel
theorem dX4_make_71 : decode cX4_make 71 = .ok (.invokevirtual 99, 3) := by decide +kernel
theorem dX4_make_74 : decode cX4_make 74 = .ok (.goto 46, 3) := by decide +kernel
theorem dX4_make_77 : decode cX4_make 77 = .ok (.iload_n 3, 1) := by decide +kernel
theorem dX4_make_78 : decode cX4_make 78 = .ok (.ifCond .le 36, 3) := by decide +kernel
theorem dX4_make_81 : decode cX4_make 81 = .ok (.aload_n 0, 1) := by decide +kernel
theorem dX4_make_82 : decode cX4_make 82 = .ok (.sipush 8192, 3) := by decide +kernel
theorem dX4_make_85 : decode cX4_make 85 = .ok (.sipush 256, 3) := by decide +kernel
theorem dX4_make_88 : decode cX4_make 88 = .ok (.iload_n 1, 1) := by decide +kernel
theorem dX4_make_89 : decode cX4_make 89 = .ok (.imul, 1) := by decide +kernel
theorem dX4_make_90 : decode cX4_make 90 = .ok (.iadd, 1) := by decide +kernel
theorem dX4_make_91 : decode cX4_make 91 = .ok (.iload_n 2, 1) := by decide +kernel
theorem dX4_make_92 : decode cX4_make 92 = .ok (.iload_n 3, 1) := by decide +kernel
theorem dX4_make_93 : decode cX4_make 93 = .ok (.iushr, 1) := by decide +kernel
theorem dX4_make_94 : decode cX4_make 94 = .ok (.iadd, 1) := by decide +kernel
theorem dX4_make_95 : decode cX4_make 95 = .ok (.invokevirtual 99, 3) := by decide +kernel
theorem dX4_make_98 : decode cX4_make 98 = .ok (.aload_n 0, 1) := by decide +kernel
theorem dX4_make_99 : decode cX4_make 99 = .ok (.bipush 64, 2) := by decide +kernel
theorem dX4_make_101 : decode cX4_make 101 = .ok (.iload_n 3, 1) := by decide +kernel
theorem dX4_make_102 : decode cX4_make 102 = .ok (.imul, 1) := by decide +kernel
theorem dX4_make_103 : decode cX4_make 103 = .ok (.bipush 9, 2) := by decide +kernel
theorem dX4_make_105 : decode cX4_make 105 = .ok (.iload_n 1, 1) := by decide +kernel
theorem dX4_make_106 : decode cX4_make 106 = .ok (.imul, 1) := by decide +kernel
theorem dX4_make_107 : decode cX4_make 107 = .ok (.iadd, 1) := by decide +kernel
theorem dX4_make_108 : decode cX4_make 108 = .ok (.invokevirtual 99, 3) := by decide +kernel
theorem dX4_make_111 : decode cX4_make 111 = .ok (.goto 9, 3) := by decide +kernel
theorem dX4_make_114 : decode cX4_make 114 = .ok (.aload_n 0, 1) := by decide +kernel
theorem dX4_make_115 : decode cX4_make 115 = .ok (.iload_n 1, 1) := by decide +kernel
theorem dX4_make_116 : decode cX4_make 116 = .ok (.iload_n 2, 1) := by decide +kernel
theorem dX4_make_117 : decode cX4_make 117 = .ok (.invokevirtual 110, 3) := by decide +kernel
theorem dX4_make_120 : decode cX4_make 120 = .ok (.return_, 1) := by decide +kernel
theorem dX4_codeOf_0 : decode cX4_codeOf 0 = .ok (.iload_n 0, 1) := by decide +kernel
theorem dX4_codeOf_1 : decode cX4_codeOf 1 = .ok (.tableswitch 55 2 6 #[35, 39, 43, 47, 51], 35) := by decide +kernel
theorem dX4_codeOf_36 : decode cX4_codeOf 36 = .ok (.sipush 17216, 3) := by decide +kernel
theorem dX4_codeOf_39 : decode cX4_codeOf 39 = .ok (.ireturn, 1) := by decide +kernel
theorem dX4_codeOf_40 : decode cX4_codeOf 40 = .ok (.sipush 16384, 3) := by decide +kernel
theorem dX4_codeOf_43 : decode cX4_codeOf 43 = .ok (.ireturn, 1) := by decide +kernel
theorem dX4_codeOf_44 : decode cX4_codeOf 44 = .ok (.sipush 17152, 3) := by decide +kernel
theorem dX4_codeOf_47 : decode cX4_codeOf 47 = .ok (.ireturn, 1) := by decide +kernel
theorem dX4_codeOf_48 : decode cX4_codeOf 48 = .ok (.sipush 16448, 3) := by decide +kernel
theorem dX4_codeOf_51 : decode cX4_codeOf 51 = .ok (.ireturn, 1) := by decide +kernel
theorem dX4_codeOf_52 : decode cX4_codeOf 52 = .ok (.sipush 16512, 3) := by decide +kernel
theorem dX4_codeOf_55 : decode cX4_codeOf 55 = .ok (.ireturn, 1) := by decide +kernel
theorem dX4_codeOf_56 : decode cX4_codeOf 56 = .ok (.sipush 16576, 3) := by decide +kernel
theorem dX4_codeOf_59 : decode cX4_codeOf 59 = .ok (.ireturn, 1) := by decide +kernel
theorem dX4_copy_0 : decode cX4_copy 0 = .ok (.iload_n 1, 1) := by decide +kernel
theorem dX4_copy_1 : decode cX4_copy 1 = .ok (.iconst 4, 1) := by decide +kernel
theorem dX4_copy_2 : decode cX4_copy 2 = .ok (.if_icmp .ge 16, 3) := by decide +kernel
theorem dX4_copy_5 : decode cX4_copy 5 = .ok (.aload_n 0, 1) := by decide +kernel
theorem dX4_copy_6 : decode cX4_copy 6 = .ok (.bipush 8, 2) := by decide +kernel
theorem dX4_copy_8 : decode cX4_copy 8 = .ok (.iconst 4, 1) := by decide +kernel
theorem dX4_copy_9 : decode cX4_copy 9 = .ok (.iload_n 1, 1) := by decide +kernel
theorem dX4_copy_10 : decode cX4_copy 10 = .ok (.iadd, 1) := by decide +kernel
theorem dX4_copy_11 : decode cX4_copy 11 = .ok (.imul, 1) := by decide +kernel
theorem dX4_copy_12 : decode cX4_copy 12 = .ok (.invokevirtual 99, 3) := by decide +kernel
theorem dX4_copy_15 : decode cX4_copy 15 = .ok (.goto 10, 3) := by decide +kernel
theorem dX4_copy_18 : decode cX4_copy 18 = .ok (.aload_n 0, 1) := by decide +kernel
theorem dX4_copy_19 : decode cX4_copy 19 = .ok (.iload_n 1, 1) := by decide +kernel
theorem dX4_copy_20 : decode cX4_copy 20 = .ok (.iconst 0, 1) := by decide +kernel
theorem dX4_copy_21 : decode cX4_copy 21 = .ok (.invokevirtual 114, 3) := by decide +kernel
theorem dX4_copy_24 : decode cX4_copy 24 = .ok (.pop, 1) := by decide +kernel
theorem dX4_copy_25 : decode cX4_copy 25 = .ok (.return_, 1) := by decide +kernel
theorem dX4_emitCompute_0 : decode cX4_emitCompute 0 = .ok (.iload_n 1, 1) := by decide +kernel
theorem dX4_emitCompute_1 : decode cX4_emitCompute 1 = .ok (.iconst 2, 1) := by decide +kernel
theorem dX4_emitCompute_2 : decode cX4_emitCompute 2 = .ok (.if_icmp .ge 62, 3) := by decide +kernel
theorem dX4_emitCompute_5 : decode cX4_emitCompute 5 = .ok (.aload_n 0, 1) := by decide +kernel
theorem dX4_emitCompute_6 : decode cX4_emitCompute 6 = .ok (.iload_n 3, 1) := by decide +kernel
theorem dX4_emitCompute_7 : decode cX4_emitCompute 7 = .ok (.iconst 0, 1) := by decide +kernel
theorem dX4_emitCompute_8 : decode cX4_emitCompute 8 = .ok (.invokevirtual 114, 3) := by decide +kernel
theorem dX4_emitCompute_11 : decode cX4_emitCompute 11 = .ok (.istore 5, 2) := by decide +kernel
theorem dX4_emitCompute_13 : decode cX4_emitCompute 13 = .ok (.aload_n 0, 1) := by decide +kernel
theorem dX4_emitCompute_14 : decode cX4_emitCompute 14 = .ok (.iload 4, 2) := by decide +kernel
theorem dX4_emitCompute_16 : decode cX4_emitCompute 16 = .ok (.iconst 1, 1) := by decide +kernel
theorem dX4_emitCompute_17 : decode cX4_emitCompute 17 = .ok (.invokevirtual 114, 3) := by decide +kernel
theorem dX4_emitCompute_20 : decode cX4_emitCompute 20 = .ok (.istore 6, 2) := by decide +kernel
theorem dX4_emitCompute_22 : decode cX4_emitCompute 22 = .ok (.aload_n 0, 1) := by decide +kernel
theorem dX4_emitCompute_23 : decode cX4_emitCompute 23 = .ok (.iload_n 1, 1) := by decide +kernel
theorem dX4_emitCompute_24 : decode cX4_emitCompute 24 = .ok (.ifCond .ne 9, 3) := by decide +kernel
theorem dX4_emitCompute_27 : decode cX4_emitCompute 27 = .ok (.sipush 6144, 3) := by decide +kernel
theorem dX4_emitCompute_30 : decode cX4_emitCompute 30 = .ok (.goto 6, 3) := by decide +kernel
theorem dX4_emitCompute_33 : decode cX4_emitCompute 33 = .ok (.sipush 6656, 3) := by decide +kernel
theorem dX4_emitCompute_36 : decode cX4_emitCompute 36 = .ok (.bipush 64, 2) := by decide +kernel
theorem dX4_emitCompute_38 : decode cX4_emitCompute 38 = .ok (.iload 6, 2) := by decide +kernel
theorem dX4_emitCompute_40 : decode cX4_emitCompute 40 = .ok (.imul, 1) := by decide +kernel
theorem dX4_emitCompute_41 : decode cX4_emitCompute 41 = .ok (.iadd, 1) := by decide +kernel
theorem dX4_emitCompute_42 : decode cX4_emitCompute 42 = .ok (.bipush 8, 2) := by decide +kernel
theorem dX4_emitCompute_44 : decode cX4_emitCompute 44 = .ok (.iload 5, 2) := by decide +kernel
theorem dX4_emitCompute_46 : decode cX4_emitCompute 46 = .ok (.imul, 1) := by decide +kernel
theorem dX4_emitCompute_47 : decode cX4_emitCompute 47 = .ok (.iadd, 1) := by decide +kernel
theorem dX4_emitCompute_48 : decode cX4_emitCompute 48 = .ok (.iload_n 2, 1) := by decide +kernel
theorem dX4_emitCompute_49 : decode cX4_emitCompute 49 = .ok (.invokestatic 117, 3) := by decide +kernel
theorem dX4_emitCompute_52 : decode cX4_emitCompute 52 = .ok (.iadd, 1) := by decide +kernel
theorem dX4_emitCompute_53 : decode cX4_emitCompute 53 = .ok (.invokevirtual 99, 3) := by decide +kernel
theorem dX4_emitCompute_56 : decode cX4_emitCompute 56 = .ok (.aload_n 0, 1) := by decide +kernel
theorem dX4_emitCompute_57 : decode cX4_emitCompute 57 = .ok (.iload_n 2, 1) := by decide +kernel
theorem dX4_emitCompute_58 : decode cX4_emitCompute 58 = .ok (.invokevirtual 120, 3) := by decide +kernel
theorem dX4_emitCompute_61 : decode cX4_emitCompute 61 = .ok (.goto 51, 3) := by decide +kernel
theorem dX4_emitCompute_64 : decode cX4_emitCompute 64 = .ok (.aload_n 0, 1) := by decide +kernel
theorem dX4_emitCompute_65 : decode cX4_emitCompute 65 = .ok (.iload_n 3, 1) := by decide +kernel
theorem dX4_emitCompute_66 : decode cX4_emitCompute 66 = .ok (.invokevirtual 123, 3) := by decide +kernel
theorem dX4_emitCompute_69 : decode cX4_emitCompute 69 = .ok (.aload_n 0, 1) := by decide +kernel
theorem dX4_emitCompute_70 : decode cX4_emitCompute 70 = .ok (.iload 4, 2) := by decide +kernel
theorem dX4_emitCompute_72 : decode cX4_emitCompute 72 = .ok (.iconst 1, 1) := by decide +kernel
theorem dX4_emitCompute_73 : decode cX4_emitCompute 73 = .ok (.invokevirtual 114, 3) := by decide +kernel
theorem dX4_emitCompute_76 : decode cX4_emitCompute 76 = .ok (.istore 5, 2) := by decide +kernel
theorem dX4_emitCompute_78 : decode cX4_emitCompute 78 = .ok (.aload_n 0, 1) := by decide +kernel
theorem dX4_emitCompute_79 : decode cX4_emitCompute 79 = .ok (.iload_n 1, 1) := by decide +kernel
theorem dX4_emitCompute_80 : decode cX4_emitCompute 80 = .ok (.invokestatic 126, 3) := by decide +kernel
theorem dX4_emitCompute_83 : decode cX4_emitCompute 83 = .ok (.bipush 8, 2) := by decide +kernel
theorem dX4_emitCompute_85 : decode cX4_emitCompute 85 = .ok (.iload 5, 2) := by decide +kernel
theorem dX4_emitCompute_87 : decode cX4_emitCompute 87 = .ok (.imul, 1) := by decide +kernel
theorem dX4_emitCompute_88 : decode cX4_emitCompute 88 = .ok (.iadd, 1) := by decide +kernel
theorem dX4_emitCompute_89 : decode cX4_emitCompute 89 = .ok (.invokevirtual 99, 3) := by decide +kernel
theorem dX4_emitCompute_92 : decode cX4_emitCompute 92 = .ok (.iload_n 2, 1) := by decide +kernel
theorem dX4_emitCompute_93 : decode cX4_emitCompute 93 = .ok (.iconst 4, 1) := by decide +kernel
theorem dX4_emitCompute_94 : decode cX4_emitCompute 94 = .ok (.if_icmp .ge 13, 3) := by decide +kernel
theorem dX4_emitCompute_97 : decode cX4_emitCompute 97 = .ok (.aload_n 0, 1) := by decide +kernel
theorem dX4_emitCompute_98 : decode cX4_emitCompute 98 = .ok (.iconst 4, 1) := by decide +kernel
theorem dX4_emitCompute_99 : decode cX4_emitCompute 99 = .ok (.iload_n 2, 1) := by decide +kernel
theorem dX4_emitCompute_100 : decode cX4_emitCompute 100 = .ok (.iadd, 1) := by decide +kernel
theorem dX4_emitCompute_101 : decode cX4_emitCompute 101 = .ok (.invokevirtual 99, 3) := by decide +kernel
theorem dX4_emitCompute_104 : decode cX4_emitCompute 104 = .ok (.goto 8, 3) := by decide +kernel
theorem dX4_emitCompute_107 : decode cX4_emitCompute 107 = .ok (.aload_n 0, 1) := by decide +kernel
theorem dX4_emitCompute_108 : decode cX4_emitCompute 108 = .ok (.iload_n 2, 1) := by decide +kernel
theorem dX4_emitCompute_109 : decode cX4_emitCompute 109 = .ok (.invokevirtual 120, 3) := by decide +kernel
theorem dX4_emitCompute_112 : decode cX4_emitCompute 112 = .ok (.return_, 1) := by decide +kernel
theorem dX4_emitPlace_0 : decode cX4_emitPlace 0 = .ok (.aload_n 0, 1) := by decide +kernel
theorem dX4_emitPlace_1 : decode cX4_emitPlace 1 = .ok (.sipush 8455, 3) := by decide +kernel
theorem dX4_emitPlace_4 : decode cX4_emitPlace 4 = .ok (.invokevirtual 99, 3) := by decide +kernel
theorem dX4_emitPlace_7 : decode cX4_emitPlace 7 = .ok (.aload_n 0, 1) := by decide +kernel
theorem dX4_emitPlace_8 : decode cX4_emitPlace 8 = .ok (.sipush 16385, 3) := by decide +kernel
theorem dX4_emitPlace_11 : decode cX4_emitPlace 11 = .ok (.bipush 8, 2) := by decide +kernel
theorem dX4_emitPlace_13 : decode cX4_emitPlace 13 = .ok (.iload_n 1, 1) := by decide +kernel
theorem dX4_emitPlace_14 : decode cX4_emitPlace 14 = .ok (.imul, 1) := by decide +kernel
theorem dX4_emitPlace_15 : decode cX4_emitPlace 15 = .ok (.iadd, 1) := by decide +kernel
theorem dX4_emitPlace_16 : decode cX4_emitPlace 16 = .ok (.invokevirtual 99, 3) := by decide +kernel
theorem dX4_emitPlace_19 : decode cX4_emitPlace 19 = .ok (.aload_n 0, 1) := by decide +kernel
theorem dX4_emitPlace_20 : decode cX4_emitPlace 20 = .ok (.sipush 137, 3) := by decide +kernel
theorem dX4_emitPlace_23 : decode cX4_emitPlace 23 = .ok (.invokevirtual 99, 3) := by decide +kernel
theorem dX4_emitPlace_26 : decode cX4_emitPlace 26 = .ok (.return_, 1) := by decide +kernel
theorem dX4_emitBranch_0 : decode cX4_emitBranch 0 = .ok (.aload_n 0, 1) := by decide +kernel
theorem dX4_emitBranch_1 : decode cX4_emitBranch 1 = .ok (.aload_n 0, 1) := by decide +kernel
theorem dX4_emitBranch_2 : decode cX4_emitBranch 2 = .ok (.getfield 16, 3) := by decide +kernel
theorem dX4_emitBranch_5 : decode cX4_emitBranch 5 = .ok (.iload_n 1, 1) := by decide +kernel
theorem dX4_emitBranch_6 : decode cX4_emitBranch 6 = .ok (.iaload, 1) := by decide +kernel
theorem dX4_emitBranch_7 : decode cX4_emitBranch 7 = .ok (.iconst 0, 1) := by decide +kernel
theorem dX4_emitBranch_8 : decode cX4_emitBranch 8 = .ok (.invokevirtual 114, 3) := by decide +kernel
theorem dX4_emitBranch_11 : decode cX4_emitBranch 11 = .ok (.istore_n 2, 1) := by decide +kernel
theorem dX4_emitBranch_12 : decode cX4_emitBranch 12 = .ok (.aload_n 0, 1) := by decide +kernel
theorem dX4_emitBranch_13 : decode cX4_emitBranch 13 = .ok (.aload_n 0, 1) := by decide +kernel
theorem dX4_emitBranch_14 : decode cX4_emitBranch 14 = .ok (.getfield 19, 3) := by decide +kernel
theorem dX4_emitBranch_17 : decode cX4_emitBranch 17 = .ok (.iload_n 1, 1) := by decide +kernel
theorem dX4_emitBranch_18 : decode cX4_emitBranch 18 = .ok (.iaload, 1) := by decide +kernel
theorem dX4_emitBranch_19 : decode cX4_emitBranch 19 = .ok (.iconst 1, 1) := by decide +kernel
theorem dX4_emitBranch_20 : decode cX4_emitBranch 20 = .ok (.invokevirtual 114, 3) := by decide +kernel
theorem dX4_emitBranch_23 : decode cX4_emitBranch 23 = .ok (.istore_n 3, 1) := by decide +kernel
theorem dX4_emitBranch_24 : decode cX4_emitBranch 24 = .ok (.aload_n 0, 1) := by decide +kernel
theorem dX4_emitBranch_25 : decode cX4_emitBranch 25 = .ok (.sipush 17024, 3) := by decide +kernel
theorem dX4_emitBranch_28 : decode cX4_emitBranch 28 = .ok (.bipush 8, 2) := by decide +kernel
theorem dX4_emitBranch_30 : decode cX4_emitBranch 30 = .ok (.iload_n 3, 1) := by decide +kernel
theorem dX4_emitBranch_31 : decode cX4_emitBranch 31 = .ok (.imul, 1) := by decide +kernel
theorem dX4_emitBranch_32 : decode cX4_emitBranch 32 = .ok (.iadd, 1) := by decide +kernel
theorem dX4_emitBranch_33 : decode cX4_emitBranch 33 = .ok (.iload_n 2, 1) := by decide +kernel
theorem dX4_emitBranch_34 : decode cX4_emitBranch 34 = .ok (.iadd, 1) := by decide +kernel
theorem dX4_emitBranch_35 : decode cX4_emitBranch 35 = .ok (.invokevirtual 99, 3) := by decide +kernel
theorem dX4_emitBranch_38 : decode cX4_emitBranch 38 = .ok (.aload_n 0, 1) := by decide +kernel
theorem dX4_emitBranch_39 : decode cX4_emitBranch 39 = .ok (.getfield 34, 3) := by decide +kernel
theorem dX4_emitBranch_42 : decode cX4_emitBranch 42 = .ok (.iload_n 1, 1) := by decide +kernel
theorem dX4_emitBranch_43 : decode cX4_emitBranch 43 = .ok (.baload, 1) := by decide +kernel
theorem dX4_emitBranch_44 : decode cX4_emitBranch 44 = .ok (.ifCond .eq 35, 3) := by decide +kernel
theorem dX4_emitBranch_47 : decode cX4_emitBranch 47 = .ok (.aload_n 0, 1) := by decide +kernel
theorem dX4_emitBranch_48 : decode cX4_emitBranch 48 = .ok (.ldc 129, 2) := by decide +kernel
theorem dX4_emitBranch_50 : decode cX4_emitBranch 50 = .ok (.sipush 256, 3) := by decide +kernel
theorem dX4_emitBranch_53 : decode cX4_emitBranch 53 = .ok (.aload_n 0, 1) := by decide +kernel
theorem dX4_emitBranch_54 : decode cX4_emitBranch 54 = .ok (.getfield 13, 3) := by decide +kernel
theorem dX4_emitBranch_57 : decode cX4_emitBranch 57 = .ok (.iload_n 1, 1) := by decide +kernel
theorem dX4_emitBranch_58 : decode cX4_emitBranch 58 = .ok (.iaload, 1) := by decide +kernel
theorem dX4_emitBranch_59 : decode cX4_emitBranch 59 = .ok (.iconst 1, 1) := by decide +kernel
theorem dX4_emitBranch_60 : decode cX4_emitBranch 60 = .ok (.ixor, 1) := by decide +kernel
theorem dX4_emitBranch_61 : decode cX4_emitBranch 61 = .ok (.imul, 1) := by decide +kernel
theorem dX4_emitBranch_62 : decode cX4_emitBranch 62 = .ok (.iadd, 1) := by decide +kernel
theorem dX4_emitBranch_63 : decode cX4_emitBranch 63 = .ok (.invokevirtual 99, 3) := by decide +kernel
theorem dX4_emitBranch_66 : decode cX4_emitBranch 66 = .ok (.aload_n 0, 1) := by decide +kernel
theorem dX4_emitBranch_67 : decode cX4_emitBranch 67 = .ok (.aload_n 0, 1) := by decide +kernel
theorem dX4_emitBranch_68 : decode cX4_emitBranch 68 = .ok (.getfield 22, 3) := by decide +kernel
theorem dX4_emitBranch_71 : decode cX4_emitBranch 71 = .ok (.iload_n 1, 1) := by decide +kernel
theorem dX4_emitBranch_72 : decode cX4_emitBranch 72 = .ok (.iaload, 1) := by decide +kernel
theorem dX4_emitBranch_73 : decode cX4_emitBranch 73 = .ok (.invokevirtual 130, 3) := by decide +kernel
theorem dX4_emitBranch_76 : decode cX4_emitBranch 76 = .ok (.goto 39, 3) := by decide +kernel
theorem dX4_emitBranch_79 : decode cX4_emitBranch 79 = .ok (.aload_n 0, 1) := by decide +kernel
theorem dX4_emitBranch_80 : decode cX4_emitBranch 80 = .ok (.ldc 129, 2) := by decide +kernel
theorem dX4_emitBranch_82 : decode cX4_emitBranch 82 = .ok (.sipush 256, 3) := by decide +kernel
theorem dX4_emitBranch_85 : decode cX4_emitBranch 85 = .ok (.aload_n 0, 1) := by decide +kernel
theorem dX4_emitBranch_86 : decode cX4_emitBranch 86 = .ok (.getfield 13, 3) := by decide +kernel
theorem dX4_emitBranch_89 : decode cX4_emitBranch 89 = .ok (.iload_n 1, 1) := by decide +kernel
theorem dX4_emitBranch_90 : decode cX4_emitBranch 90 = .ok (.iaload, 1) := by decide +kernel
theorem dX4_emitBranch_91 : decode cX4_emitBranch 91 = .ok (.imul, 1) := by decide +kernel
theorem dX4_emitBranch_92 : decode cX4_emitBranch 92 = .ok (.iadd, 1) := by decide +kernel
theorem dX4_emitBranch_93 : decode cX4_emitBranch 93 = .ok (.aload_n 0, 1) := by decide +kernel
theorem dX4_emitBranch_94 : decode cX4_emitBranch 94 = .ok (.aload_n 0, 1) := by decide +kernel
theorem dX4_emitBranch_95 : decode cX4_emitBranch 95 = .ok (.getfield 95, 3) := by decide +kernel
theorem dX4_emitBranch_98 : decode cX4_emitBranch 98 = .ok (.aload_n 0, 1) := by decide +kernel
theorem dX4_emitBranch_99 : decode cX4_emitBranch 99 = .ok (.getfield 22, 3) := by decide +kernel
theorem dX4_emitBranch_102 : decode cX4_emitBranch 102 = .ok (.iload_n 1, 1) := by decide +kernel
theorem dX4_emitBranch_103 : decode cX4_emitBranch 103 = .ok (.iaload, 1) := by decide +kernel
theorem dX4_emitBranch_104 : decode cX4_emitBranch 104 = .ok (.invokevirtual 91, 3) := by decide +kernel
theorem dX4_emitBranch_107 : decode cX4_emitBranch 107 = .ok (.sipush 255, 3) := by decide +kernel
theorem dX4_emitBranch_110 : decode cX4_emitBranch 110 = .ok (.iand, 1) := by decide +kernel
theorem dX4_emitBranch_111 : decode cX4_emitBranch 111 = .ok (.iadd, 1) := by decide +kernel
theorem dX4_emitBranch_112 : decode cX4_emitBranch 112 = .ok (.invokevirtual 99, 3) := by decide +kernel
theorem dX4_emitBranch_115 : decode cX4_emitBranch 115 = .ok (.return_, 1) := by decide +kernel
theorem dX4_emitJump_0 : decode cX4_emitJump 0 = .ok (.aload_n 0, 1) := by decide +kernel
theorem dX4_emitJump_1 : decode cX4_emitJump 1 = .ok (.ldc 133, 2) := by decide +kernel
theorem dX4_emitJump_3 : decode cX4_emitJump 3 = .ok (.aload_n 0, 1) := by decide +kernel
theorem dX4_emitJump_4 : decode cX4_emitJump 4 = .ok (.aload_n 0, 1) := by decide +kernel
theorem dX4_emitJump_5 : decode cX4_emitJump 5 = .ok (.getfield 95, 3) := by decide +kernel
theorem dX4_emitJump_8 : decode cX4_emitJump 8 = .ok (.iload_n 1, 1) := by decide +kernel
theorem dX4_emitJump_9 : decode cX4_emitJump 9 = .ok (.invokevirtual 91, 3) := by decide +kernel
theorem dX4_emitJump_12 : decode cX4_emitJump 12 = .ok (.sipush 2047, 3) := by decide +kernel
theorem dX4_emitJump_15 : decode cX4_emitJump 15 = .ok (.iand, 1) := by decide +kernel
theorem dX4_emitJump_16 : decode cX4_emitJump 16 = .ok (.iadd, 1) := by decide +kernel
theorem dX4_emitJump_17 : decode cX4_emitJump 17 = .ok (.invokevirtual 99, 3) := by decide +kernel
theorem dX4_emitJump_20 : decode cX4_emitJump 20 = .ok (.return_, 1) := by decide +kernel
theorem dX4_emitInstruction_0 : decode cX4_emitInstruction 0 = .ok (.aload_n 0, 1) := by decide +kernel
theorem dX4_emitInstruction_1 : decode cX4_emitInstruction 1 = .ok (.getfield 7, 3) := by decide +kernel
theorem dX4_emitInstruction_4 : decode cX4_emitInstruction 4 = .ok (.iload_n 1, 1) := by decide +kernel
theorem dX4_emitInstruction_5 : decode cX4_emitInstruction 5 = .ok (.iaload, 1) := by decide +kernel
theorem dX4_emitInstruction_6 : decode cX4_emitInstruction 6 = .ok (.tableswitch 233 0 6 #[42, 74, 105, 152, 193, 206, 214], 42) := by decide +kernel
theorem dX4_emitInstruction_48 : decode cX4_emitInstruction 48 = .ok (.aload_n 0, 1) := by decide +kernel
theorem dX4_emitInstruction_49 : decode cX4_emitInstruction 49 = .ok (.aload_n 0, 1) := by decide +kernel
theorem dX4_emitInstruction_50 : decode cX4_emitInstruction 50 = .ok (.getfield 16, 3) := by decide +kernel
theorem dX4_emitInstruction_53 : decode cX4_emitInstruction 53 = .ok (.iload_n 1, 1) := by decide +kernel
theorem dX4_emitInstruction_54 : decode cX4_emitInstruction 54 = .ok (.iaload, 1) := by decide +kernel
theorem dX4_emitInstruction_55 : decode cX4_emitInstruction 55 = .ok (.invokestatic 117, 3) := by decide +kernel
theorem dX4_emitInstruction_58 : decode cX4_emitInstruction 58 = .ok (.aload_n 0, 1) := by decide +kernel
theorem dX4_emitInstruction_59 : decode cX4_emitInstruction 59 = .ok (.getfield 13, 3) := by decide +kernel
theorem dX4_emitInstruction_62 : decode cX4_emitInstruction 62 = .ok (.iload_n 1, 1) := by decide +kernel
theorem dX4_emitInstruction_63 : decode cX4_emitInstruction 63 = .ok (.iaload, 1) := by decide +kernel
theorem dX4_emitInstruction_64 : decode cX4_emitInstruction 64 = .ok (.invokevirtual 134, 3) := by decide +kernel
theorem dX4_emitInstruction_67 : decode cX4_emitInstruction 67 = .ok (.aload_n 0, 1) := by decide +kernel
theorem dX4_emitInstruction_68 : decode cX4_emitInstruction 68 = .ok (.aload_n 0, 1) := by decide +kernel
theorem dX4_emitInstruction_69 : decode cX4_emitInstruction 69 = .ok (.getfield 16, 3) := by decide +kernel
theorem dX4_emitInstruction_72 : decode cX4_emitInstruction 72 = .ok (.iload_n 1, 1) := by decide +kernel
theorem dX4_emitInstruction_73 : decode cX4_emitInstruction 73 = .ok (.iaload, 1) := by decide +kernel
theorem dX4_emitInstruction_74 : decode cX4_emitInstruction 74 = .ok (.invokevirtual 120, 3) := by decide +kernel
theorem dX4_emitInstruction_77 : decode cX4_emitInstruction 77 = .ok (.goto 191, 3) := by decide +kernel
theorem dX4_emitInstruction_80 : decode cX4_emitInstruction 80 = .ok (.aload_n 0, 1) := by decide +kernel
theorem dX4_emitInstruction_81 : decode cX4_emitInstruction 81 = .ok (.aload_n 0, 1) := by decide +kernel
theorem dX4_emitInstruction_82 : decode cX4_emitInstruction 82 = .ok (.getfield 13, 3) := by decide +kernel
theorem dX4_emitInstruction_85 : decode cX4_emitInstruction 85 = .ok (.iload_n 1, 1) := by decide +kernel
theorem dX4_emitInstruction_86 : decode cX4_emitInstruction 86 = .ok (.iaload, 1) := by decide +kernel
theorem dX4_emitInstruction_87 : decode cX4_emitInstruction 87 = .ok (.aload_n 0, 1) := by decide +kernel
theorem dX4_emitInstruction_88 : decode cX4_emitInstruction 88 = .ok (.getfield 16, 3) := by decide +kernel
theorem dX4_emitInstruction_91 : decode cX4_emitInstruction 91 = .ok (.iload_n 1, 1) := by decide +kernel
theorem dX4_emitInstruction_92 : decode cX4_emitInstruction 92 = .ok (.iaload, 1) := by decide +kernel
theorem dX4_emitInstruction_93 : decode cX4_emitInstruction 93 = .ok (.aload_n 0, 1) := by decide +kernel
theorem dX4_emitInstruction_94 : decode cX4_emitInstruction 94 = .ok (.getfield 19, 3) := by decide +kernel
theorem dX4_emitInstruction_97 : decode cX4_emitInstruction 97 = .ok (.iload_n 1, 1) := by decide +kernel
theorem dX4_emitInstruction_98 : decode cX4_emitInstruction 98 = .ok (.iaload, 1) := by decide +kernel
theorem dX4_emitInstruction_99 : decode cX4_emitInstruction 99 = .ok (.aload_n 0, 1) := by decide +kernel
theorem dX4_emitInstruction_100 : decode cX4_emitInstruction 100 = .ok (.getfield 22, 3) := by decide +kernel
theorem dX4_emitInstruction_103 : decode cX4_emitInstruction 103 = .ok (.iload_n 1, 1) := by decide +kernel
theorem dX4_emitInstruction_104 : decode cX4_emitInstruction 104 = .ok (.iaload, 1) := by decide +kernel
theorem dX4_emitInstruction_105 : decode cX4_emitInstruction 105 = .ok (.invokevirtual 137, 3) := by decide +kernel
theorem dX4_emitInstruction_108 : decode cX4_emitInstruction 108 = .ok (.goto 160, 3) := by decide +kernel
theorem dX4_emitInstruction_111 : decode cX4_emitInstruction 111 = .ok (.aload_n 0, 1) := by decide +kernel
theorem dX4_emitInstruction_112 : decode cX4_emitInstruction 112 = .ok (.aload_n 0, 1) := by decide +kernel
theorem dX4_emitInstruction_113 : decode cX4_emitInstruction 113 = .ok (.getfield 16, 3) := by decide +kernel
theorem dX4_emitInstruction_116 : decode cX4_emitInstruction 116 = .ok (.iload_n 1, 1) := by decide +kernel
theorem dX4_emitInstruction_117 : decode cX4_emitInstruction 117 = .ok (.iaload, 1) := by decide +kernel
theorem dX4_emitInstruction_118 : decode cX4_emitInstruction 118 = .ok (.iconst 0, 1) := by decide +kernel
theorem dX4_emitInstruction_119 : decode cX4_emitInstruction 119 = .ok (.invokevirtual 114, 3) := by decide +kernel
theorem dX4_emitInstruction_122 : decode cX4_emitInstruction 122 = .ok (.istore_n 2, 1) := by decide +kernel
theorem dX4_emitInstruction_123 : decode cX4_emitInstruction 123 = .ok (.aload_n 0, 1) := by decide +kernel
theorem dX4_emitInstruction_124 : decode cX4_emitInstruction 124 = .ok (.iload_n 2, 1) := by decide +kernel
theorem dX4_emitInstruction_125 : decode cX4_emitInstruction 125 = .ok (.invokevirtual 141, 3) := by decide +kernel
theorem dX4_emitInstruction_128 : decode cX4_emitInstruction 128 = .ok (.aload_n 0, 1) := by decide +kernel
theorem dX4_emitInstruction_129 : decode cX4_emitInstruction 129 = .ok (.sipush 22616, 3) := by decide +kernel
theorem dX4_emitInstruction_132 : decode cX4_emitInstruction 132 = .ok (.aload_n 0, 1) := by decide +kernel
theorem dX4_emitInstruction_133 : decode cX4_emitInstruction 133 = .ok (.getfield 13, 3) := by decide +kernel
theorem dX4_emitInstruction_136 : decode cX4_emitInstruction 136 = .ok (.iload_n 1, 1) := by decide +kernel
theorem dX4_emitInstruction_137 : decode cX4_emitInstruction 137 = .ok (.iaload, 1) := by decide +kernel
theorem dX4_emitInstruction_138 : decode cX4_emitInstruction 138 = .ok (.invokestatic 117, 3) := by decide +kernel
theorem dX4_emitInstruction_141 : decode cX4_emitInstruction 141 = .ok (.iadd, 1) := by decide +kernel
theorem dX4_emitInstruction_142 : decode cX4_emitInstruction 142 = .ok (.invokevirtual 99, 3) := by decide +kernel
theorem dX4_emitInstruction_145 : decode cX4_emitInstruction 145 = .ok (.aload_n 0, 1) := by decide +kernel
theorem dX4_emitInstruction_146 : decode cX4_emitInstruction 146 = .ok (.aload_n 0, 1) := by decide +kernel
theorem dX4_emitInstruction_147 : decode cX4_emitInstruction 147 = .ok (.getfield 13, 3) := by decide +kernel
theorem dX4_emitInstruction_150 : decode cX4_emitInstruction 150 = .ok (.iload_n 1, 1) := by decide +kernel
theorem dX4_emitInstruction_151 : decode cX4_emitInstruction 151 = .ok (.iaload, 1) := by decide +kernel
theorem dX4_emitInstruction_152 : decode cX4_emitInstruction 152 = .ok (.invokevirtual 120, 3) := by decide +kernel
theorem dX4_emitInstruction_155 : decode cX4_emitInstruction 155 = .ok (.goto 113, 3) := by decide +kernel
theorem dX4_emitInstruction_158 : decode cX4_emitInstruction 158 = .ok (.aload_n 0, 1) := by decide +kernel
theorem dX4_emitInstruction_159 : decode cX4_emitInstruction 159 = .ok (.aload_n 0, 1) := by decide +kernel
theorem dX4_emitInstruction_160 : decode cX4_emitInstruction 160 = .ok (.getfield 13, 3) := by decide +kernel
theorem dX4_emitInstruction_163 : decode cX4_emitInstruction 163 = .ok (.iload_n 1, 1) := by decide +kernel
theorem dX4_emitInstruction_164 : decode cX4_emitInstruction 164 = .ok (.iaload, 1) := by decide +kernel
theorem dX4_emitInstruction_165 : decode cX4_emitInstruction 165 = .ok (.iconst 0, 1) := by decide +kernel
theorem dX4_emitInstruction_166 : decode cX4_emitInstruction 166 = .ok (.invokevirtual 114, 3) := by decide +kernel
theorem dX4_emitInstruction_169 : decode cX4_emitInstruction 169 = .ok (.istore_n 2, 1) := by decide +kernel
theorem dX4_emitInstruction_170 : decode cX4_emitInstruction 170 = .ok (.aload_n 0, 1) := by decide +kernel
theorem dX4_emitInstruction_171 : decode cX4_emitInstruction 171 = .ok (.iload_n 2, 1) := by decide +kernel
theorem dX4_emitInstruction_172 : decode cX4_emitInstruction 172 = .ok (.invokevirtual 141, 3) := by decide +kernel
theorem dX4_emitInstruction_175 : decode cX4_emitInstruction 175 = .ok (.aload_n 0, 1) := by decide +kernel
theorem dX4_emitInstruction_176 : decode cX4_emitInstruction 176 = .ok (.aload_n 0, 1) := by decide +kernel
theorem dX4_emitInstruction_177 : decode cX4_emitInstruction 177 = .ok (.getfield 16, 3) := by decide +kernel
theorem dX4_emitInstruction_180 : decode cX4_emitInstruction 180 = .ok (.iload_n 1, 1) := by decide +kernel
theorem dX4_emitInstruction_181 : decode cX4_emitInstruction 181 = .ok (.iaload, 1) := by decide +kernel
theorem dX4_emitInstruction_182 : decode cX4_emitInstruction 182 = .ok (.iconst 0, 1) := by decide +kernel
theorem dX4_emitInstruction_183 : decode cX4_emitInstruction 183 = .ok (.invokevirtual 114, 3) := by decide +kernel
theorem dX4_emitInstruction_186 : decode cX4_emitInstruction 186 = .ok (.istore_n 2, 1) := by decide +kernel
theorem dX4_emitInstruction_187 : decode cX4_emitInstruction 187 = .ok (.aload_n 0, 1) := by decide +kernel
theorem dX4_emitInstruction_188 : decode cX4_emitInstruction 188 = .ok (.sipush 20568, 3) := by decide +kernel
theorem dX4_emitInstruction_191 : decode cX4_emitInstruction 191 = .ok (.iload_n 2, 1) := by decide +kernel
theorem dX4_emitInstruction_192 : decode cX4_emitInstruction 192 = .ok (.iadd, 1) := by decide +kernel
theorem dX4_emitInstruction_193 : decode cX4_emitInstruction 193 = .ok (.invokevirtual 99, 3) := by decide +kernel
theorem dX4_emitInstruction_196 : decode cX4_emitInstruction 196 = .ok (.goto 72, 3) := by decide +kernel
theorem dX4_emitInstruction_199 : decode cX4_emitInstruction 199 = .ok (.aload_n 0, 1) := by decide +kernel
theorem dX4_emitInstruction_200 : decode cX4_emitInstruction 200 = .ok (.aload_n 0, 1) := by decide +kernel
theorem dX4_emitInstruction_201 : decode cX4_emitInstruction 201 = .ok (.getfield 13, 3) := by decide +kernel
theorem dX4_emitInstruction_204 : decode cX4_emitInstruction 204 = .ok (.iload_n 1, 1) := by decide +kernel
theorem dX4_emitInstruction_205 : decode cX4_emitInstruction 205 = .ok (.iaload, 1) := by decide +kernel
theorem dX4_emitInstruction_206 : decode cX4_emitInstruction 206 = .ok (.invokevirtual 130, 3) := by decide +kernel
theorem dX4_emitInstruction_209 : decode cX4_emitInstruction 209 = .ok (.goto 59, 3) := by decide +kernel
theorem dX4_emitInstruction_212 : decode cX4_emitInstruction 212 = .ok (.aload_n 0, 1) := by decide +kernel
theorem dX4_emitInstruction_213 : decode cX4_emitInstruction 213 = .ok (.iload_n 1, 1) := by decide +kernel
theorem dX4_emitInstruction_214 : decode cX4_emitInstruction 214 = .ok (.invokevirtual 144, 3) := by decide +kernel
theorem dX4_emitInstruction_217 : decode cX4_emitInstruction 217 = .ok (.goto 51, 3) := by decide +kernel
theorem dX4_emitInstruction_220 : decode cX4_emitInstruction 220 = .ok (.aload_n 0, 1) := by decide +kernel
theorem dX4_emitInstruction_221 : decode cX4_emitInstruction 221 = .ok (.aload_n 0, 1) := by decide +kernel
theorem dX4_emitInstruction_222 : decode cX4_emitInstruction 222 = .ok (.getfield 13, 3) := by decide +kernel
theorem dX4_emitInstruction_225 : decode cX4_emitInstruction 225 = .ok (.iload_n 1, 1) := by decide +kernel
theorem dX4_emitInstruction_226 : decode cX4_emitInstruction 226 = .ok (.iaload, 1) := by decide +kernel
theorem dX4_emitInstruction_227 : decode cX4_emitInstruction 227 = .ok (.invokevirtual 123, 3) := by decide +kernel
theorem dX4_emitInstruction_230 : decode cX4_emitInstruction 230 = .ok (.aload_n 0, 1) := by decide +kernel
theorem dX4_emitInstruction_231 : decode cX4_emitInstruction 231 = .ok (.ldc 147, 2) := by decide +kernel
theorem dX4_emitInstruction_233 : decode cX4_emitInstruction 233 = .ok (.invokevirtual 99, 3) := by decide +kernel
theorem dX4_emitInstruction_236 : decode cX4_emitInstruction 236 = .ok (.goto 32, 3) := by decide +kernel
theorem dX4_emitInstruction_239 : decode cX4_emitInstruction 239 = .ok (.aload_n 0, 1) := by decide +kernel
theorem dX4_emitInstruction_240 : decode cX4_emitInstruction 240 = .ok (.aload_n 0, 1) := by decide +kernel
theorem dX4_emitInstruction_241 : decode cX4_emitInstruction 241 = .ok (.getfield 7, 3) := by decide +kernel
theorem dX4_emitInstruction_244 : decode cX4_emitInstruction 244 = .ok (.iload_n 1, 1) := by decide +kernel
theorem dX4_emitInstruction_245 : decode cX4_emitInstruction 245 = .ok (.iaload, 1) := by decide +kernel
theorem dX4_emitInstruction_246 : decode cX4_emitInstruction 246 = .ok (.bipush 7, 2) := by decide +kernel
theorem dX4_emitInstruction_248 : decode cX4_emitInstruction 248 = .ok (.if_icmp .ne 8, 3) := by decide +kernel
theorem dX4_emitInstruction_251 : decode cX4_emitInstruction 251 = .ok (.ldc 148, 2) := by decide +kernel
theorem dX4_emitInstruction_253 : decode cX4_emitInstruction 253 = .ok (.goto 12, 3) := by decide +kernel
theorem dX4_emitInstruction_256 : decode cX4_emitInstruction 256 = .ok (.ldc 149, 2) := by decide +kernel
theorem dX4_emitInstruction_258 : decode cX4_emitInstruction 258 = .ok (.aload_n 0, 1) := by decide +kernel
theorem dX4_emitInstruction_259 : decode cX4_emitInstruction 259 = .ok (.getfield 13, 3) := by decide +kernel
theorem dX4_emitInstruction_262 : decode cX4_emitInstruction 262 = .ok (.iload_n 1, 1) := by decide +kernel
theorem dX4_emitInstruction_263 : decode cX4_emitInstruction 263 = .ok (.iaload, 1) := by decide +kernel
theorem dX4_emitInstruction_264 : decode cX4_emitInstruction 264 = .ok (.iadd, 1) := by decide +kernel
theorem dX4_emitInstruction_265 : decode cX4_emitInstruction 265 = .ok (.invokevirtual 99, 3) := by decide +kernel
theorem dX4_emitInstruction_268 : decode cX4_emitInstruction 268 = .ok (.return_, 1) := by decide +kernel
theorem dX4_isSound_0 : decode cX4_isSound 0 = .ok (.aload_n 0, 1) := by decide +kernel
theorem dX4_isSound_1 : decode cX4_isSound 1 = .ok (.getfield 51, 3) := by decide +kernel
theorem dX4_isSound_4 : decode cX4_isSound 4 = .ok (.ifCond .le 54, 3) := by decide +kernel
theorem dX4_isSound_7 : decode cX4_isSound 7 = .ok (.aload_n 0, 1) := by decide +kernel
theorem dX4_isSound_8 : decode cX4_isSound 8 = .ok (.getfield 7, 3) := by decide +kernel
theorem dX4_isSound_11 : decode cX4_isSound 11 = .ok (.aload_n 0, 1) := by decide +kernel
theorem dX4_isSound_12 : decode cX4_isSound 12 = .ok (.getfield 51, 3) := by decide +kernel
theorem dX4_isSound_15 : decode cX4_isSound 15 = .ok (.iconst 1, 1) := by decide +kernel
theorem dX4_isSound_16 : decode cX4_isSound 16 = .ok (.isub, 1) := by decide +kernel
theorem dX4_isSound_17 : decode cX4_isSound 17 = .ok (.iaload, 1) := by decide +kernel
theorem dX4_isSound_18 : decode cX4_isSound 18 = .ok (.iconst 4, 1) := by decide +kernel
theorem dX4_isSound_19 : decode cX4_isSound 19 = .ok (.if_icmp .eq 35, 3) := by decide +kernel
theorem dX4_isSound_22 : decode cX4_isSound 22 = .ok (.aload_n 0, 1) := by decide +kernel
theorem dX4_isSound_23 : decode cX4_isSound 23 = .ok (.getfield 7, 3) := by decide +kernel
theorem dX4_isSound_26 : decode cX4_isSound 26 = .ok (.aload_n 0, 1) := by decide +kernel
theorem dX4_isSound_27 : decode cX4_isSound 27 = .ok (.getfield 51, 3) := by decide +kernel
theorem dX4_isSound_30 : decode cX4_isSound 30 = .ok (.iconst 1, 1) := by decide +kernel
theorem dX4_isSound_31 : decode cX4_isSound 31 = .ok (.isub, 1) := by decide +kernel
theorem dX4_isSound_32 : decode cX4_isSound 32 = .ok (.iaload, 1) := by decide +kernel
theorem dX4_isSound_33 : decode cX4_isSound 33 = .ok (.bipush 7, 2) := by decide +kernel
theorem dX4_isSound_35 : decode cX4_isSound 35 = .ok (.if_icmp .eq 19, 3) := by decide +kernel
theorem dX4_isSound_38 : decode cX4_isSound 38 = .ok (.aload_n 0, 1) := by decide +kernel
theorem dX4_isSound_39 : decode cX4_isSound 39 = .ok (.getfield 7, 3) := by decide +kernel
theorem dX4_isSound_42 : decode cX4_isSound 42 = .ok (.aload_n 0, 1) := by decide +kernel
theorem dX4_isSound_43 : decode cX4_isSound 43 = .ok (.getfield 51, 3) := by decide +kernel
theorem dX4_isSound_46 : decode cX4_isSound 46 = .ok (.iconst 1, 1) := by decide +kernel
theorem dX4_isSound_47 : decode cX4_isSound 47 = .ok (.isub, 1) := by decide +kernel
theorem dX4_isSound_48 : decode cX4_isSound 48 = .ok (.iaload, 1) := by decide +kernel
theorem dX4_isSound_49 : decode cX4_isSound 49 = .ok (.bipush 8, 2) := by decide +kernel
theorem dX4_isSound_51 : decode cX4_isSound 51 = .ok (.if_icmp .ne 7, 3) := by decide +kernel
theorem dX4_isSound_54 : decode cX4_isSound 54 = .ok (.iconst 1, 1) := by decide +kernel
theorem dX4_isSound_55 : decode cX4_isSound 55 = .ok (.goto 4, 3) := by decide +kernel
theorem dX4_isSound_58 : decode cX4_isSound 58 = .ok (.iconst 0, 1) := by decide +kernel
theorem dX4_isSound_59 : decode cX4_isSound 59 = .ok (.istore_n 1, 1) := by decide +kernel
theorem dX4_isSound_60 : decode cX4_isSound 60 = .ok (.iconst 0, 1) := by decide +kernel
theorem dX4_isSound_61 : decode cX4_isSound 61 = .ok (.istore_n 2, 1) := by decide +kernel
theorem dX4_isSound_62 : decode cX4_isSound 62 = .ok (.iload_n 2, 1) := by decide +kernel
theorem dX4_isSound_63 : decode cX4_isSound 63 = .ok (.aload_n 0, 1) := by decide +kernel
theorem dX4_isSound_64 : decode cX4_isSound 64 = .ok (.getfield 51, 3) := by decide +kernel
theorem dX4_isSound_67 : decode cX4_isSound 67 = .ok (.if_icmp .ge 65, 3) := by decide +kernel
theorem dX4_isSound_70 : decode cX4_isSound 70 = .ok (.iload_n 1, 1) := by decide +kernel
theorem dX4_isSound_71 : decode cX4_isSound 71 = .ok (.ifCond .eq 53, 3) := by decide +kernel
theorem dX4_isSound_74 : decode cX4_isSound 74 = .ok (.aload_n 0, 1) := by decide +kernel
theorem dX4_isSound_75 : decode cX4_isSound 75 = .ok (.getfield 7, 3) := by decide +kernel
theorem dX4_isSound_78 : decode cX4_isSound 78 = .ok (.iload_n 2, 1) := by decide +kernel
theorem dX4_isSound_79 : decode cX4_isSound 79 = .ok (.iaload, 1) := by decide +kernel
theorem dX4_isSound_80 : decode cX4_isSound 80 = .ok (.iconst 4, 1) := by decide +kernel
theorem dX4_isSound_81 : decode cX4_isSound 81 = .ok (.if_icmp .ne 16, 3) := by decide +kernel
theorem dX4_isSound_84 : decode cX4_isSound 84 = .ok (.aload_n 0, 1) := by decide +kernel
theorem dX4_isSound_85 : decode cX4_isSound 85 = .ok (.getfield 13, 3) := by decide +kernel
theorem dX4_isSound_88 : decode cX4_isSound 88 = .ok (.iload_n 2, 1) := by decide +kernel
theorem dX4_isSound_89 : decode cX4_isSound 89 = .ok (.iaload, 1) := by decide +kernel
theorem dX4_isSound_90 : decode cX4_isSound 90 = .ok (.aload_n 0, 1) := by decide +kernel
theorem dX4_isSound_91 : decode cX4_isSound 91 = .ok (.getfield 51, 3) := by decide +kernel
theorem dX4_isSound_94 : decode cX4_isSound 94 = .ok (.if_icmp .ge 30, 3) := by decide +kernel
theorem dX4_isSound_97 : decode cX4_isSound 97 = .ok (.aload_n 0, 1) := by decide +kernel
theorem dX4_isSound_98 : decode cX4_isSound 98 = .ok (.getfield 7, 3) := by decide +kernel
theorem dX4_isSound_101 : decode cX4_isSound 101 = .ok (.iload_n 2, 1) := by decide +kernel
theorem dX4_isSound_102 : decode cX4_isSound 102 = .ok (.iaload, 1) := by decide +kernel
theorem dX4_isSound_103 : decode cX4_isSound 103 = .ok (.iconst 5, 1) := by decide +kernel
theorem dX4_isSound_104 : decode cX4_isSound 104 = .ok (.if_icmp .ne 16, 3) := by decide +kernel
theorem dX4_isSound_107 : decode cX4_isSound 107 = .ok (.aload_n 0, 1) := by decide +kernel
theorem dX4_isSound_108 : decode cX4_isSound 108 = .ok (.getfield 22, 3) := by decide +kernel
theorem dX4_isSound_111 : decode cX4_isSound 111 = .ok (.iload_n 2, 1) := by decide +kernel
theorem dX4_isSound_112 : decode cX4_isSound 112 = .ok (.iaload, 1) := by decide +kernel
theorem dX4_isSound_113 : decode cX4_isSound 113 = .ok (.aload_n 0, 1) := by decide +kernel
theorem dX4_isSound_114 : decode cX4_isSound 114 = .ok (.getfield 51, 3) := by decide +kernel
theorem dX4_isSound_117 : decode cX4_isSound 117 = .ok (.if_icmp .ge 7, 3) := by decide +kernel
theorem dX4_isSound_120 : decode cX4_isSound 120 = .ok (.iconst 1, 1) := by decide +kernel
theorem dX4_isSound_121 : decode cX4_isSound 121 = .ok (.goto 4, 3) := by decide +kernel
theorem dX4_isSound_124 : decode cX4_isSound 124 = .ok (.iconst 0, 1) := by decide +kernel
theorem dX4_isSound_125 : decode cX4_isSound 125 = .ok (.istore_n 1, 1) := by decide +kernel
theorem dX4_isSound_126 : decode cX4_isSound 126 = .ok (.iinc 2 1, 3) := by decide +kernel
theorem dX4_isSound_129 : decode cX4_isSound 129 = .ok (.goto (-67), 3) := by decide +kernel
theorem dX4_isSound_132 : decode cX4_isSound 132 = .ok (.iload_n 1, 1) := by decide +kernel
theorem dX4_isSound_133 : decode cX4_isSound 133 = .ok (.ireturn, 1) := by decide +kernel
theorem dX4_forge_0 : decode cX4_forge 0 = .ok (.aload_n 0, 1) := by decide +kernel
theorem dX4_forge_1 : decode cX4_forge 1 = .ok (.aload_n 0, 1) := by decide +kernel
theorem dX4_forge_2 : decode cX4_forge 2 = .ok (.invokevirtual 150, 3) := by decide +kernel
theorem dX4_forge_5 : decode cX4_forge 5 = .ok (.ifCond .eq 7, 3) := by decide +kernel
theorem dX4_forge_8 : decode cX4_forge 8 = .ok (.iconst 0, 1) := by decide +kernel
theorem dX4_forge_9 : decode cX4_forge 9 = .ok (.goto 4, 3) := by decide +kernel
theorem dX4_forge_12 : decode cX4_forge 12 = .ok (.iconst 1, 1) := by decide +kernel
theorem dX4_forge_13 : decode cX4_forge 13 = .ok (.putfield 47, 3) := by decide +kernel
theorem dX4_forge_16 : decode cX4_forge 16 = .ok (.aload_n 0, 1) := by decide +kernel
theorem dX4_forge_17 : decode cX4_forge 17 = .ok (.getfield 47, 3) := by decide +kernel
theorem dX4_forge_20 : decode cX4_forge 20 = .ok (.ifCond .le 5, 3) := by decide +kernel
theorem dX4_forge_23 : decode cX4_forge 23 = .ok (.iconst 0, 1) := by decide +kernel
theorem dX4_forge_24 : decode cX4_forge 24 = .ok (.ireturn, 1) := by decide +kernel
theorem dX4_forge_25 : decode cX4_forge 25 = .ok (.aload_n 0, 1) := by decide +kernel
theorem dX4_forge_26 : decode cX4_forge 26 = .ok (.invokevirtual 154, 3) := by decide +kernel
theorem dX4_forge_29 : decode cX4_forge 29 = .ok (.aload_n 0, 1) := by decide +kernel
theorem dX4_forge_30 : decode cX4_forge 30 = .ok (.iconst 0, 1) := by decide +kernel
theorem dX4_forge_31 : decode cX4_forge 31 = .ok (.putfield 95, 3) := by decide +kernel
theorem dX4_forge_34 : decode cX4_forge 34 = .ok (.aload_n 0, 1) := by decide +kernel
theorem dX4_forge_35 : decode cX4_forge 35 = .ok (.iconst 0, 1) := by decide +kernel
theorem dX4_forge_36 : decode cX4_forge 36 = .ok (.putfield 104, 3) := by decide +kernel
theorem dX4_forge_39 : decode cX4_forge 39 = .ok (.aload_n 0, 1) := by decide +kernel
theorem dX4_forge_40 : decode cX4_forge 40 = .ok (.aload_n 0, 1) := by decide +kernel
theorem dX4_forge_41 : decode cX4_forge 41 = .ok (.getfield 31, 3) := by decide +kernel
theorem dX4_forge_44 : decode cX4_forge 44 = .ok (.aload_n 0, 1) := by decide +kernel
theorem dX4_forge_45 : decode cX4_forge 45 = .ok (.getfield 51, 3) := by decide +kernel
end
section
theorem dX4_forge_48 : decode cX4_forge 48 = .ok (.iaload, 1) := by decide +kernel
theorem dX4_forge_49 : decode cX4_forge 49 = .ok (.aload_n 0, 1) := by decide +kernel
theorem dX4_forge_50 : decode cX4_forge 50 = .ok (.getfield 31, 3) := by decide +kernel
theorem dX4_forge_53 : decode cX4_forge 53 = .ok (.aload_n 0, 1) := by decide +kernel
theorem dX4_forge_54 : decode cX4_forge 54 = .ok (.getfield 51, 3) := by decide +kernel
theorem dX4_forge_57 : decode cX4_forge 57 = .ok (.iaload, 1) := by decide +kernel
theorem dX4_forge_58 : decode cX4_forge 58 = .ok (.iconst 2, 1) := by decide +kernel
theorem dX4_forge_59 : decode cX4_forge 59 = .ok (.irem, 1) := by decide +kernel
theorem dX4_forge_60 : decode cX4_forge 60 = .ok (.iadd, 1) := by decide +kernel
theorem dX4_forge_61 : decode cX4_forge 61 = .ok (.putfield 107, 3) := by decide +kernel
theorem dX4_forge_64 : decode cX4_forge 64 = .ok (.aload_n 0, 1) := by decide +kernel
theorem dX4_forge_65 : decode cX4_forge 65 = .ok (.iconst 3, 1) := by decide +kernel
theorem dX4_forge_66 : decode cX4_forge 66 = .ok (.ldc 157, 2) := by decide +kernel
theorem dX4_forge_68 : decode cX4_forge 68 = .ok (.invokevirtual 110, 3) := by decide +kernel
theorem dX4_forge_71 : decode cX4_forge 71 = .ok (.iconst 0, 1) := by decide +kernel
theorem dX4_forge_72 : decode cX4_forge 72 = .ok (.istore_n 1, 1) := by decide +kernel
theorem dX4_forge_73 : decode cX4_forge 73 = .ok (.iload_n 1, 1) := by decide +kernel
theorem dX4_forge_74 : decode cX4_forge 74 = .ok (.aload_n 0, 1) := by decide +kernel
theorem dX4_forge_75 : decode cX4_forge 75 = .ok (.getfield 51, 3) := by decide +kernel
theorem dX4_forge_78 : decode cX4_forge 78 = .ok (.if_icmp .ge 14, 3) := by decide +kernel
theorem dX4_forge_81 : decode cX4_forge 81 = .ok (.aload_n 0, 1) := by decide +kernel
theorem dX4_forge_82 : decode cX4_forge 82 = .ok (.iload_n 1, 1) := by decide +kernel
theorem dX4_forge_83 : decode cX4_forge 83 = .ok (.invokevirtual 158, 3) := by decide +kernel
theorem dX4_forge_86 : decode cX4_forge 86 = .ok (.iinc 1 1, 3) := by decide +kernel
theorem dX4_forge_89 : decode cX4_forge 89 = .ok (.goto (-16), 3) := by decide +kernel
theorem dX4_forge_92 : decode cX4_forge 92 = .ok (.aload_n 0, 1) := by decide +kernel
theorem dX4_forge_93 : decode cX4_forge 93 = .ok (.getfield 95, 3) := by decide +kernel
theorem dX4_forge_96 : decode cX4_forge 96 = .ok (.iconst 2, 1) := by decide +kernel
theorem dX4_forge_97 : decode cX4_forge 97 = .ok (.irem, 1) := by decide +kernel
theorem dX4_forge_98 : decode cX4_forge 98 = .ok (.iconst 1, 1) := by decide +kernel
theorem dX4_forge_99 : decode cX4_forge 99 = .ok (.if_icmp .ne 8, 3) := by decide +kernel
theorem dX4_forge_102 : decode cX4_forge 102 = .ok (.aload_n 0, 1) := by decide +kernel
theorem dX4_forge_103 : decode cX4_forge 103 = .ok (.iconst 0, 1) := by decide +kernel
theorem dX4_forge_104 : decode cX4_forge 104 = .ok (.invokevirtual 99, 3) := by decide +kernel
theorem dX4_forge_107 : decode cX4_forge 107 = .ok (.iconst 0, 1) := by decide +kernel
theorem dX4_forge_108 : decode cX4_forge 108 = .ok (.istore_n 1, 1) := by decide +kernel
theorem dX4_forge_109 : decode cX4_forge 109 = .ok (.iload_n 1, 1) := by decide +kernel
theorem dX4_forge_110 : decode cX4_forge 110 = .ok (.aload_n 0, 1) := by decide +kernel
theorem dX4_forge_111 : decode cX4_forge 111 = .ok (.getfield 104, 3) := by decide +kernel
theorem dX4_forge_114 : decode cX4_forge 114 = .ok (.if_icmp .ge 35, 3) := by decide +kernel
theorem dX4_forge_117 : decode cX4_forge 117 = .ok (.aload_n 0, 1) := by decide +kernel
theorem dX4_forge_118 : decode cX4_forge 118 = .ok (.aload_n 0, 1) := by decide +kernel
theorem dX4_forge_119 : decode cX4_forge 119 = .ok (.getfield 38, 3) := by decide +kernel
theorem dX4_forge_122 : decode cX4_forge 122 = .ok (.iload_n 1, 1) := by decide +kernel
theorem dX4_forge_123 : decode cX4_forge 123 = .ok (.iaload, 1) := by decide +kernel
theorem dX4_forge_124 : decode cX4_forge 124 = .ok (.ldc 161, 2) := by decide +kernel
theorem dX4_forge_126 : decode cX4_forge 126 = .ok (.iand, 1) := by decide +kernel
theorem dX4_forge_127 : decode cX4_forge 127 = .ok (.invokevirtual 99, 3) := by decide +kernel
theorem dX4_forge_130 : decode cX4_forge 130 = .ok (.aload_n 0, 1) := by decide +kernel
theorem dX4_forge_131 : decode cX4_forge 131 = .ok (.aload_n 0, 1) := by decide +kernel
theorem dX4_forge_132 : decode cX4_forge 132 = .ok (.getfield 38, 3) := by decide +kernel
theorem dX4_forge_135 : decode cX4_forge 135 = .ok (.iload_n 1, 1) := by decide +kernel
theorem dX4_forge_136 : decode cX4_forge 136 = .ok (.iaload, 1) := by decide +kernel
theorem dX4_forge_137 : decode cX4_forge 137 = .ok (.bipush 16, 2) := by decide +kernel
theorem dX4_forge_139 : decode cX4_forge 139 = .ok (.iushr, 1) := by decide +kernel
theorem dX4_forge_140 : decode cX4_forge 140 = .ok (.invokevirtual 99, 3) := by decide +kernel
theorem dX4_forge_143 : decode cX4_forge 143 = .ok (.iinc 1 1, 3) := by decide +kernel
theorem dX4_forge_146 : decode cX4_forge 146 = .ok (.goto (-37), 3) := by decide +kernel
theorem dX4_forge_149 : decode cX4_forge 149 = .ok (.aload_n 0, 1) := by decide +kernel
theorem dX4_forge_150 : decode cX4_forge 150 = .ok (.iconst 1, 1) := by decide +kernel
theorem dX4_forge_151 : decode cX4_forge 151 = .ok (.putfield 54, 3) := by decide +kernel
theorem dX4_forge_154 : decode cX4_forge 154 = .ok (.aload_n 0, 1) := by decide +kernel
theorem dX4_forge_155 : decode cX4_forge 155 = .ok (.iconst 0, 1) := by decide +kernel
theorem dX4_forge_156 : decode cX4_forge 156 = .ok (.putfield 58, 3) := by decide +kernel
theorem dX4_forge_159 : decode cX4_forge 159 = .ok (.aload_n 0, 1) := by decide +kernel
theorem dX4_forge_160 : decode cX4_forge 160 = .ok (.getfield 95, 3) := by decide +kernel
theorem dX4_forge_163 : decode cX4_forge 163 = .ok (.ireturn, 1) := by decide +kernel
theorem dX4_halfword_0 : decode cX4_halfword 0 = .ok (.aload_n 0, 1) := by decide +kernel
theorem dX4_halfword_1 : decode cX4_halfword 1 = .ok (.aload_n 0, 1) := by decide +kernel
theorem dX4_halfword_2 : decode cX4_halfword 2 = .ok (.getfield 54, 3) := by decide +kernel
theorem dX4_halfword_5 : decode cX4_halfword 5 = .ok (.ifCond .eq 19, 3) := by decide +kernel
theorem dX4_halfword_8 : decode cX4_halfword 8 = .ok (.iload_n 1, 1) := by decide +kernel
theorem dX4_halfword_9 : decode cX4_halfword 9 = .ok (.ifCond .lt 15, 3) := by decide +kernel
theorem dX4_halfword_12 : decode cX4_halfword 12 = .ok (.iload_n 1, 1) := by decide +kernel
theorem dX4_halfword_13 : decode cX4_halfword 13 = .ok (.aload_n 0, 1) := by decide +kernel
theorem dX4_halfword_14 : decode cX4_halfword 14 = .ok (.getfield 95, 3) := by decide +kernel
theorem dX4_halfword_17 : decode cX4_halfword 17 = .ok (.if_icmp .ge 7, 3) := by decide +kernel
theorem dX4_halfword_20 : decode cX4_halfword 20 = .ok (.iconst 0, 1) := by decide +kernel
theorem dX4_halfword_21 : decode cX4_halfword 21 = .ok (.goto 4, 3) := by decide +kernel
theorem dX4_halfword_24 : decode cX4_halfword 24 = .ok (.iconst 1, 1) := by decide +kernel
theorem dX4_halfword_25 : decode cX4_halfword 25 = .ok (.putfield 47, 3) := by decide +kernel
theorem dX4_halfword_28 : decode cX4_halfword 28 = .ok (.aload_n 0, 1) := by decide +kernel
theorem dX4_halfword_29 : decode cX4_halfword 29 = .ok (.getfield 47, 3) := by decide +kernel
theorem dX4_halfword_32 : decode cX4_halfword 32 = .ok (.ifCond .le 7, 3) := by decide +kernel
theorem dX4_halfword_35 : decode cX4_halfword 35 = .ok (.iconst 0, 1) := by decide +kernel
theorem dX4_halfword_36 : decode cX4_halfword 36 = .ok (.goto 9, 3) := by decide +kernel
theorem dX4_halfword_39 : decode cX4_halfword 39 = .ok (.aload_n 0, 1) := by decide +kernel
theorem dX4_halfword_40 : decode cX4_halfword 40 = .ok (.getfield 28, 3) := by decide +kernel
theorem dX4_halfword_43 : decode cX4_halfword 43 = .ok (.iload_n 1, 1) := by decide +kernel
theorem dX4_halfword_44 : decode cX4_halfword 44 = .ok (.iaload, 1) := by decide +kernel
theorem dX4_halfword_45 : decode cX4_halfword 45 = .ok (.ireturn, 1) := by decide +kernel
theorem dX4_place_0 : decode cX4_place 0 = .ok (.aload_n 0, 1) := by decide +kernel
theorem dX4_place_1 : decode cX4_place 1 = .ok (.aload_n 0, 1) := by decide +kernel
theorem dX4_place_2 : decode cX4_place 2 = .ok (.getfield 54, 3) := by decide +kernel
theorem dX4_place_5 : decode cX4_place 5 = .ok (.ifCond .eq 19, 3) := by decide +kernel
theorem dX4_place_8 : decode cX4_place 8 = .ok (.iload_n 1, 1) := by decide +kernel
theorem dX4_place_9 : decode cX4_place 9 = .ok (.ifCond .lt 15, 3) := by decide +kernel
theorem dX4_place_12 : decode cX4_place 12 = .ok (.iload_n 1, 1) := by decide +kernel
theorem dX4_place_13 : decode cX4_place 13 = .ok (.aload_n 0, 1) := by decide +kernel
theorem dX4_place_14 : decode cX4_place 14 = .ok (.getfield 51, 3) := by decide +kernel
theorem dX4_place_17 : decode cX4_place 17 = .ok (.if_icmp .ge 7, 3) := by decide +kernel
theorem dX4_place_20 : decode cX4_place 20 = .ok (.iconst 0, 1) := by decide +kernel
theorem dX4_place_21 : decode cX4_place 21 = .ok (.goto 4, 3) := by decide +kernel
theorem dX4_place_24 : decode cX4_place 24 = .ok (.iconst 1, 1) := by decide +kernel
theorem dX4_place_25 : decode cX4_place 25 = .ok (.putfield 47, 3) := by decide +kernel
theorem dX4_place_28 : decode cX4_place 28 = .ok (.aload_n 0, 1) := by decide +kernel
theorem dX4_place_29 : decode cX4_place 29 = .ok (.getfield 47, 3) := by decide +kernel
theorem dX4_place_32 : decode cX4_place 32 = .ok (.ifCond .le 7, 3) := by decide +kernel
theorem dX4_place_35 : decode cX4_place 35 = .ok (.iconst 0, 1) := by decide +kernel
theorem dX4_place_36 : decode cX4_place 36 = .ok (.goto 9, 3) := by decide +kernel
theorem dX4_place_39 : decode cX4_place 39 = .ok (.aload_n 0, 1) := by decide +kernel
theorem dX4_place_40 : decode cX4_place 40 = .ok (.getfield 31, 3) := by decide +kernel
theorem dX4_place_43 : decode cX4_place 43 = .ok (.iload_n 1, 1) := by decide +kernel
theorem dX4_place_44 : decode cX4_place 44 = .ok (.iaload, 1) := by decide +kernel
theorem dX4_place_45 : decode cX4_place 45 = .ok (.ireturn, 1) := by decide +kernel
theorem dX4_poke_0 : decode cX4_poke 0 = .ok (.aload_n 0, 1) := by decide +kernel
theorem dX4_poke_1 : decode cX4_poke 1 = .ok (.iload_n 1, 1) := by decide +kernel
theorem dX4_poke_2 : decode cX4_poke 2 = .ok (.ifCond .lt 13, 3) := by decide +kernel
theorem dX4_poke_5 : decode cX4_poke 5 = .ok (.iload_n 1, 1) := by decide +kernel
theorem dX4_poke_6 : decode cX4_poke 6 = .ok (.bipush 8, 2) := by decide +kernel
theorem dX4_poke_8 : decode cX4_poke 8 = .ok (.if_icmp .ge 7, 3) := by decide +kernel
theorem dX4_poke_11 : decode cX4_poke 11 = .ok (.iconst 0, 1) := by decide +kernel
theorem dX4_poke_12 : decode cX4_poke 12 = .ok (.goto 4, 3) := by decide +kernel
theorem dX4_poke_15 : decode cX4_poke 15 = .ok (.iconst 1, 1) := by decide +kernel
theorem dX4_poke_16 : decode cX4_poke 16 = .ok (.putfield 47, 3) := by decide +kernel
theorem dX4_poke_19 : decode cX4_poke 19 = .ok (.aload_n 0, 1) := by decide +kernel
theorem dX4_poke_20 : decode cX4_poke 20 = .ok (.getfield 47, 3) := by decide +kernel
theorem dX4_poke_23 : decode cX4_poke 23 = .ok (.ifCond .ne 10, 3) := by decide +kernel
theorem dX4_poke_26 : decode cX4_poke 26 = .ok (.aload_n 0, 1) := by decide +kernel
theorem dX4_poke_27 : decode cX4_poke 27 = .ok (.getfield 25, 3) := by decide +kernel
theorem dX4_poke_30 : decode cX4_poke 30 = .ok (.iload_n 1, 1) := by decide +kernel
theorem dX4_poke_31 : decode cX4_poke 31 = .ok (.iload_n 2, 1) := by decide +kernel
theorem dX4_poke_32 : decode cX4_poke 32 = .ok (.iastore, 1) := by decide +kernel
theorem dX4_poke_33 : decode cX4_poke 33 = .ok (.return_, 1) := by decide +kernel
theorem dX4_memory_0 : decode cX4_memory 0 = .ok (.aload_n 0, 1) := by decide +kernel
theorem dX4_memory_1 : decode cX4_memory 1 = .ok (.iload_n 1, 1) := by decide +kernel
theorem dX4_memory_2 : decode cX4_memory 2 = .ok (.ifCond .lt 13, 3) := by decide +kernel
theorem dX4_memory_5 : decode cX4_memory 5 = .ok (.iload_n 1, 1) := by decide +kernel
theorem dX4_memory_6 : decode cX4_memory 6 = .ok (.bipush 8, 2) := by decide +kernel
theorem dX4_memory_8 : decode cX4_memory 8 = .ok (.if_icmp .ge 7, 3) := by decide +kernel
theorem dX4_memory_11 : decode cX4_memory 11 = .ok (.iconst 0, 1) := by decide +kernel
theorem dX4_memory_12 : decode cX4_memory 12 = .ok (.goto 4, 3) := by decide +kernel
theorem dX4_memory_15 : decode cX4_memory 15 = .ok (.iconst 1, 1) := by decide +kernel
theorem dX4_memory_16 : decode cX4_memory 16 = .ok (.putfield 47, 3) := by decide +kernel
theorem dX4_memory_19 : decode cX4_memory 19 = .ok (.aload_n 0, 1) := by decide +kernel
theorem dX4_memory_20 : decode cX4_memory 20 = .ok (.getfield 47, 3) := by decide +kernel
theorem dX4_memory_23 : decode cX4_memory 23 = .ok (.ifCond .le 7, 3) := by decide +kernel
theorem dX4_memory_26 : decode cX4_memory 26 = .ok (.iconst 0, 1) := by decide +kernel
theorem dX4_memory_27 : decode cX4_memory 27 = .ok (.goto 9, 3) := by decide +kernel
theorem dX4_memory_30 : decode cX4_memory 30 = .ok (.aload_n 0, 1) := by decide +kernel
theorem dX4_memory_31 : decode cX4_memory 31 = .ok (.getfield 25, 3) := by decide +kernel
theorem dX4_memory_34 : decode cX4_memory 34 = .ok (.iload_n 1, 1) := by decide +kernel
theorem dX4_memory_35 : decode cX4_memory 35 = .ok (.iaload, 1) := by decide +kernel
theorem dX4_memory_36 : decode cX4_memory 36 = .ok (.ireturn, 1) := by decide +kernel
theorem dX4_start_0 : decode cX4_start 0 = .ok (.aload_n 0, 1) := by decide +kernel
theorem dX4_start_1 : decode cX4_start 1 = .ok (.aload_n 0, 1) := by decide +kernel
theorem dX4_start_2 : decode cX4_start 2 = .ok (.getfield 54, 3) := by decide +kernel
theorem dX4_start_5 : decode cX4_start 5 = .ok (.ifCond .eq 7, 3) := by decide +kernel
theorem dX4_start_8 : decode cX4_start 8 = .ok (.iconst 0, 1) := by decide +kernel
theorem dX4_start_9 : decode cX4_start 9 = .ok (.goto 4, 3) := by decide +kernel
theorem dX4_start_12 : decode cX4_start 12 = .ok (.iconst 1, 1) := by decide +kernel
theorem dX4_start_13 : decode cX4_start 13 = .ok (.putfield 47, 3) := by decide +kernel
theorem dX4_start_16 : decode cX4_start 16 = .ok (.aload_n 0, 1) := by decide +kernel
theorem dX4_start_17 : decode cX4_start 17 = .ok (.getfield 47, 3) := by decide +kernel
theorem dX4_start_20 : decode cX4_start 20 = .ok (.ifCond .le 4, 3) := by decide +kernel
theorem dX4_start_23 : decode cX4_start 23 = .ok (.return_, 1) := by decide +kernel
theorem dX4_start_24 : decode cX4_start 24 = .ok (.aload_n 0, 1) := by decide +kernel
theorem dX4_start_25 : decode cX4_start 25 = .ok (.iconst 1, 1) := by decide +kernel
theorem dX4_start_26 : decode cX4_start 26 = .ok (.putfield 58, 3) := by decide +kernel
theorem dX4_start_29 : decode cX4_start 29 = .ok (.aload_n 0, 1) := by decide +kernel
theorem dX4_start_30 : decode cX4_start 30 = .ok (.iconst 0, 1) := by decide +kernel
theorem dX4_start_31 : decode cX4_start 31 = .ok (.putfield 162, 3) := by decide +kernel
theorem dX4_start_34 : decode cX4_start 34 = .ok (.aload_n 0, 1) := by decide +kernel
theorem dX4_start_35 : decode cX4_start 35 = .ok (.iconst 0, 1) := by decide +kernel
theorem dX4_start_36 : decode cX4_start 36 = .ok (.putfield 165, 3) := by decide +kernel
theorem dX4_start_39 : decode cX4_start 39 = .ok (.iconst 0, 1) := by decide +kernel
theorem dX4_start_40 : decode cX4_start 40 = .ok (.istore_n 1, 1) := by decide +kernel
theorem dX4_start_41 : decode cX4_start 41 = .ok (.iload_n 1, 1) := by decide +kernel
theorem dX4_start_42 : decode cX4_start 42 = .ok (.bipush 8, 2) := by decide +kernel
theorem dX4_start_44 : decode cX4_start 44 = .ok (.if_icmp .ge 16, 3) := by decide +kernel
theorem dX4_start_47 : decode cX4_start 47 = .ok (.aload_n 0, 1) := by decide +kernel
theorem dX4_start_48 : decode cX4_start 48 = .ok (.getfield 41, 3) := by decide +kernel
theorem dX4_start_51 : decode cX4_start 51 = .ok (.iload_n 1, 1) := by decide +kernel
theorem dX4_start_52 : decode cX4_start 52 = .ok (.iconst 0, 1) := by decide +kernel
theorem dX4_start_53 : decode cX4_start 53 = .ok (.iastore, 1) := by decide +kernel
theorem dX4_start_54 : decode cX4_start 54 = .ok (.iinc 1 1, 3) := by decide +kernel
theorem dX4_start_57 : decode cX4_start 57 = .ok (.goto (-16), 3) := by decide +kernel
theorem dX4_start_60 : decode cX4_start 60 = .ok (.return_, 1) := by decide +kernel
theorem dX4_computed_0 : decode cX4_computed 0 = .ok (.iload_n 2, 1) := by decide +kernel
theorem dX4_computed_1 : decode cX4_computed 1 = .ok (.sipush 255, 3) := by decide +kernel
theorem dX4_computed_4 : decode cX4_computed 4 = .ok (.iand, 1) := by decide +kernel
theorem dX4_computed_5 : decode cX4_computed 5 = .ok (.istore_n 3, 1) := by decide +kernel
theorem dX4_computed_6 : decode cX4_computed 6 = .ok (.iload_n 0, 1) := by decide +kernel
theorem dX4_computed_7 : decode cX4_computed 7 = .ok (.tableswitch 79 0 6 #[41, 45, 49, 53, 57, 61, 65], 41) := by decide +kernel
theorem dX4_computed_48 : decode cX4_computed 48 = .ok (.iload_n 1, 1) := by decide +kernel
theorem dX4_computed_49 : decode cX4_computed 49 = .ok (.iload_n 2, 1) := by decide +kernel
theorem dX4_computed_50 : decode cX4_computed 50 = .ok (.iadd, 1) := by decide +kernel
theorem dX4_computed_51 : decode cX4_computed 51 = .ok (.ireturn, 1) := by decide +kernel
theorem dX4_computed_52 : decode cX4_computed 52 = .ok (.iload_n 1, 1) := by decide +kernel
theorem dX4_computed_53 : decode cX4_computed 53 = .ok (.iload_n 2, 1) := by decide +kernel
theorem dX4_computed_54 : decode cX4_computed 54 = .ok (.isub, 1) := by decide +kernel
theorem dX4_computed_55 : decode cX4_computed 55 = .ok (.ireturn, 1) := by decide +kernel
theorem dX4_computed_56 : decode cX4_computed 56 = .ok (.iload_n 1, 1) := by decide +kernel
theorem dX4_computed_57 : decode cX4_computed 57 = .ok (.iload_n 2, 1) := by decide +kernel
theorem dX4_computed_58 : decode cX4_computed 58 = .ok (.imul, 1) := by decide +kernel
theorem dX4_computed_59 : decode cX4_computed 59 = .ok (.ireturn, 1) := by decide +kernel
theorem dX4_computed_60 : decode cX4_computed 60 = .ok (.iload_n 1, 1) := by decide +kernel
theorem dX4_computed_61 : decode cX4_computed 61 = .ok (.iload_n 2, 1) := by decide +kernel
theorem dX4_computed_62 : decode cX4_computed 62 = .ok (.iand, 1) := by decide +kernel
theorem dX4_computed_63 : decode cX4_computed 63 = .ok (.ireturn, 1) := by decide +kernel
theorem dX4_computed_64 : decode cX4_computed 64 = .ok (.iload_n 1, 1) := by decide +kernel
theorem dX4_computed_65 : decode cX4_computed 65 = .ok (.iload_n 2, 1) := by decide +kernel
theorem dX4_computed_66 : decode cX4_computed 66 = .ok (.ior, 1) := by decide +kernel
theorem dX4_computed_67 : decode cX4_computed 67 = .ok (.ireturn, 1) := by decide +kernel
theorem dX4_computed_68 : decode cX4_computed 68 = .ok (.iload_n 1, 1) := by decide +kernel
theorem dX4_computed_69 : decode cX4_computed 69 = .ok (.iload_n 2, 1) := by decide +kernel
theorem dX4_computed_70 : decode cX4_computed 70 = .ok (.ixor, 1) := by decide +kernel
theorem dX4_computed_71 : decode cX4_computed 71 = .ok (.ireturn, 1) := by decide +kernel
theorem dX4_computed_72 : decode cX4_computed 72 = .ok (.iload_n 3, 1) := by decide +kernel
theorem dX4_computed_73 : decode cX4_computed 73 = .ok (.bipush 31, 2) := by decide +kernel
theorem dX4_computed_75 : decode cX4_computed 75 = .ok (.if_icmp .le 7, 3) := by decide +kernel
theorem dX4_computed_78 : decode cX4_computed 78 = .ok (.iconst 0, 1) := by decide +kernel
theorem dX4_computed_79 : decode cX4_computed 79 = .ok (.goto 6, 3) := by decide +kernel
theorem dX4_computed_82 : decode cX4_computed 82 = .ok (.iload_n 1, 1) := by decide +kernel
theorem dX4_computed_83 : decode cX4_computed 83 = .ok (.iload_n 3, 1) := by decide +kernel
theorem dX4_computed_84 : decode cX4_computed 84 = .ok (.ishl, 1) := by decide +kernel
theorem dX4_computed_85 : decode cX4_computed 85 = .ok (.ireturn, 1) := by decide +kernel
theorem dX4_computed_86 : decode cX4_computed 86 = .ok (.iload_n 3, 1) := by decide +kernel
theorem dX4_computed_87 : decode cX4_computed 87 = .ok (.bipush 31, 2) := by decide +kernel
theorem dX4_computed_89 : decode cX4_computed 89 = .ok (.if_icmp .le 7, 3) := by decide +kernel
theorem dX4_computed_92 : decode cX4_computed 92 = .ok (.iconst 0, 1) := by decide +kernel
theorem dX4_computed_93 : decode cX4_computed 93 = .ok (.goto 6, 3) := by decide +kernel
theorem dX4_computed_96 : decode cX4_computed 96 = .ok (.iload_n 1, 1) := by decide +kernel
theorem dX4_computed_97 : decode cX4_computed 97 = .ok (.iload_n 3, 1) := by decide +kernel
theorem dX4_computed_98 : decode cX4_computed 98 = .ok (.iushr, 1) := by decide +kernel
theorem dX4_computed_99 : decode cX4_computed 99 = .ok (.ireturn, 1) := by decide +kernel
theorem dX4_holds_0 : decode cX4_holds 0 = .ok (.iload_n 1, 1) := by decide +kernel
theorem dX4_holds_1 : decode cX4_holds 1 = .ok (.i2l, 1) := by decide +kernel
theorem dX4_holds_2 : decode cX4_holds 2 = .ok (.ldc2_w 168, 3) := by decide +kernel
theorem dX4_holds_5 : decode cX4_holds 5 = .ok (.land, 1) := by decide +kernel
theorem dX4_holds_6 : decode cX4_holds 6 = .ok (.lstore_n 3, 1) := by decide +kernel
theorem dX4_holds_7 : decode cX4_holds 7 = .ok (.iload_n 2, 1) := by decide +kernel
theorem dX4_holds_8 : decode cX4_holds 8 = .ok (.i2l, 1) := by decide +kernel
theorem dX4_holds_9 : decode cX4_holds 9 = .ok (.ldc2_w 168, 3) := by decide +kernel
theorem dX4_holds_12 : decode cX4_holds 12 = .ok (.land, 1) := by decide +kernel
theorem dX4_holds_13 : decode cX4_holds 13 = .ok (.lstore 5, 2) := by decide +kernel
theorem dX4_holds_15 : decode cX4_holds 15 = .ok (.iload_n 0, 1) := by decide +kernel
theorem dX4_holds_16 : decode cX4_holds 16 = .ok (.tableswitch 175 0 12 #[68, 79, 90, 103, 175, 175, 175, 175, 116, 129, 142, 153, 164], 68) := by decide +kernel
theorem dX4_holds_84 : decode cX4_holds 84 = .ok (.iload_n 1, 1) := by decide +kernel
theorem dX4_holds_85 : decode cX4_holds 85 = .ok (.iload_n 2, 1) := by decide +kernel
theorem dX4_holds_86 : decode cX4_holds 86 = .ok (.if_icmp .ne 7, 3) := by decide +kernel
theorem dX4_holds_89 : decode cX4_holds 89 = .ok (.iconst 1, 1) := by decide +kernel
theorem dX4_holds_90 : decode cX4_holds 90 = .ok (.goto 4, 3) := by decide +kernel
theorem dX4_holds_93 : decode cX4_holds 93 = .ok (.iconst 0, 1) := by decide +kernel
theorem dX4_holds_94 : decode cX4_holds 94 = .ok (.ireturn, 1) := by decide +kernel
theorem dX4_holds_95 : decode cX4_holds 95 = .ok (.iload_n 1, 1) := by decide +kernel
theorem dX4_holds_96 : decode cX4_holds 96 = .ok (.iload_n 2, 1) := by decide +kernel
theorem dX4_holds_97 : decode cX4_holds 97 = .ok (.if_icmp .eq 7, 3) := by decide +kernel
theorem dX4_holds_100 : decode cX4_holds 100 = .ok (.iconst 1, 1) := by decide +kernel
theorem dX4_holds_101 : decode cX4_holds 101 = .ok (.goto 4, 3) := by decide +kernel
theorem dX4_holds_104 : decode cX4_holds 104 = .ok (.iconst 0, 1) := by decide +kernel
theorem dX4_holds_105 : decode cX4_holds 105 = .ok (.ireturn, 1) := by decide +kernel
theorem dX4_holds_106 : decode cX4_holds 106 = .ok (.lload_n 3, 1) := by decide +kernel
theorem dX4_holds_107 : decode cX4_holds 107 = .ok (.lload 5, 2) := by decide +kernel
theorem dX4_holds_109 : decode cX4_holds 109 = .ok (.lcmp, 1) := by decide +kernel
theorem dX4_holds_110 : decode cX4_holds 110 = .ok (.ifCond .lt 7, 3) := by decide +kernel
theorem dX4_holds_113 : decode cX4_holds 113 = .ok (.iconst 1, 1) := by decide +kernel
theorem dX4_holds_114 : decode cX4_holds 114 = .ok (.goto 4, 3) := by decide +kernel
theorem dX4_holds_117 : decode cX4_holds 117 = .ok (.iconst 0, 1) := by decide +kernel
theorem dX4_holds_118 : decode cX4_holds 118 = .ok (.ireturn, 1) := by decide +kernel
theorem dX4_holds_119 : decode cX4_holds 119 = .ok (.lload_n 3, 1) := by decide +kernel
theorem dX4_holds_120 : decode cX4_holds 120 = .ok (.lload 5, 2) := by decide +kernel
theorem dX4_holds_122 : decode cX4_holds 122 = .ok (.lcmp, 1) := by decide +kernel
theorem dX4_holds_123 : decode cX4_holds 123 = .ok (.ifCond .ge 7, 3) := by decide +kernel
theorem dX4_holds_126 : decode cX4_holds 126 = .ok (.iconst 1, 1) := by decide +kernel
theorem dX4_holds_127 : decode cX4_holds 127 = .ok (.goto 4, 3) := by decide +kernel
theorem dX4_holds_130 : decode cX4_holds 130 = .ok (.iconst 0, 1) := by decide +kernel
theorem dX4_holds_131 : decode cX4_holds 131 = .ok (.ireturn, 1) := by decide +kernel
theorem dX4_holds_132 : decode cX4_holds 132 = .ok (.lload_n 3, 1) := by decide +kernel
theorem dX4_holds_133 : decode cX4_holds 133 = .ok (.lload 5, 2) := by decide +kernel
theorem dX4_holds_135 : decode cX4_holds 135 = .ok (.lcmp, 1) := by decide +kernel
theorem dX4_holds_136 : decode cX4_holds 136 = .ok (.ifCond .le 7, 3) := by decide +kernel
theorem dX4_holds_139 : decode cX4_holds 139 = .ok (.iconst 1, 1) := by decide +kernel
theorem dX4_holds_140 : decode cX4_holds 140 = .ok (.goto 4, 3) := by decide +kernel
theorem dX4_holds_143 : decode cX4_holds 143 = .ok (.iconst 0, 1) := by decide +kernel
theorem dX4_holds_144 : decode cX4_holds 144 = .ok (.ireturn, 1) := by decide +kernel
theorem dX4_holds_145 : decode cX4_holds 145 = .ok (.lload_n 3, 1) := by decide +kernel
theorem dX4_holds_146 : decode cX4_holds 146 = .ok (.lload 5, 2) := by decide +kernel
theorem dX4_holds_148 : decode cX4_holds 148 = .ok (.lcmp, 1) := by decide +kernel
theorem dX4_holds_149 : decode cX4_holds 149 = .ok (.ifCond .gt 7, 3) := by decide +kernel
theorem dX4_holds_152 : decode cX4_holds 152 = .ok (.iconst 1, 1) := by decide +kernel
theorem dX4_holds_153 : decode cX4_holds 153 = .ok (.goto 4, 3) := by decide +kernel
theorem dX4_holds_156 : decode cX4_holds 156 = .ok (.iconst 0, 1) := by decide +kernel
theorem dX4_holds_157 : decode cX4_holds 157 = .ok (.ireturn, 1) := by decide +kernel
theorem dX4_holds_158 : decode cX4_holds 158 = .ok (.iload_n 1, 1) := by decide +kernel
theorem dX4_holds_159 : decode cX4_holds 159 = .ok (.iload_n 2, 1) := by decide +kernel
theorem dX4_holds_160 : decode cX4_holds 160 = .ok (.if_icmp .lt 7, 3) := by decide +kernel
theorem dX4_holds_163 : decode cX4_holds 163 = .ok (.iconst 1, 1) := by decide +kernel
theorem dX4_holds_164 : decode cX4_holds 164 = .ok (.goto 4, 3) := by decide +kernel
theorem dX4_holds_167 : decode cX4_holds 167 = .ok (.iconst 0, 1) := by decide +kernel
theorem dX4_holds_168 : decode cX4_holds 168 = .ok (.ireturn, 1) := by decide +kernel
theorem dX4_holds_169 : decode cX4_holds 169 = .ok (.iload_n 1, 1) := by decide +kernel
theorem dX4_holds_170 : decode cX4_holds 170 = .ok (.iload_n 2, 1) := by decide +kernel
theorem dX4_holds_171 : decode cX4_holds 171 = .ok (.if_icmp .ge 7, 3) := by decide +kernel
theorem dX4_holds_174 : decode cX4_holds 174 = .ok (.iconst 1, 1) := by decide +kernel
theorem dX4_holds_175 : decode cX4_holds 175 = .ok (.goto 4, 3) := by decide +kernel
theorem dX4_holds_178 : decode cX4_holds 178 = .ok (.iconst 0, 1) := by decide +kernel
theorem dX4_holds_179 : decode cX4_holds 179 = .ok (.ireturn, 1) := by decide +kernel
theorem dX4_holds_180 : decode cX4_holds 180 = .ok (.iload_n 1, 1) := by decide +kernel
theorem dX4_holds_181 : decode cX4_holds 181 = .ok (.iload_n 2, 1) := by decide +kernel
theorem dX4_holds_182 : decode cX4_holds 182 = .ok (.if_icmp .le 7, 3) := by decide +kernel
theorem dX4_holds_185 : decode cX4_holds 185 = .ok (.iconst 1, 1) := by decide +kernel
theorem dX4_holds_186 : decode cX4_holds 186 = .ok (.goto 4, 3) := by decide +kernel
theorem dX4_holds_189 : decode cX4_holds 189 = .ok (.iconst 0, 1) := by decide +kernel
theorem dX4_holds_190 : decode cX4_holds 190 = .ok (.ireturn, 1) := by decide +kernel
theorem dX4_holds_191 : decode cX4_holds 191 = .ok (.iload_n 1, 1) := by decide +kernel
theorem dX4_holds_192 : decode cX4_holds 192 = .ok (.iload_n 2, 1) := by decide +kernel
theorem dX4_holds_193 : decode cX4_holds 193 = .ok (.if_icmp .gt 7, 3) := by decide +kernel
theorem dX4_holds_196 : decode cX4_holds 196 = .ok (.iconst 1, 1) := by decide +kernel
theorem dX4_holds_197 : decode cX4_holds 197 = .ok (.goto 4, 3) := by decide +kernel
theorem dX4_holds_200 : decode cX4_holds 200 = .ok (.iconst 0, 1) := by decide +kernel
theorem dX4_holds_201 : decode cX4_holds 201 = .ok (.ireturn, 1) := by decide +kernel
theorem dX4_act_0 : decode cX4_act 0 = .ok (.aload_n 0, 1) := by decide +kernel
theorem dX4_act_1 : decode cX4_act 1 = .ok (.iload_n 1, 1) := by decide +kernel
theorem dX4_act_2 : decode cX4_act 2 = .ok (.invokevirtual 85, 3) := by decide +kernel
theorem dX4_act_5 : decode cX4_act 5 = .ok (.istore_n 2, 1) := by decide +kernel
theorem dX4_act_6 : decode cX4_act 6 = .ok (.aload_n 0, 1) := by decide +kernel
theorem dX4_act_7 : decode cX4_act 7 = .ok (.iload_n 1, 1) := by decide +kernel
theorem dX4_act_8 : decode cX4_act 8 = .ok (.iconst 1, 1) := by decide +kernel
theorem dX4_act_9 : decode cX4_act 9 = .ok (.iadd, 1) := by decide +kernel
theorem dX4_act_10 : decode cX4_act 10 = .ok (.putfield 162, 3) := by decide +kernel
theorem dX4_act_13 : decode cX4_act 13 = .ok (.aload_n 0, 1) := by decide +kernel
theorem dX4_act_14 : decode cX4_act 14 = .ok (.getfield 7, 3) := by decide +kernel
theorem dX4_act_17 : decode cX4_act 17 = .ok (.iload_n 1, 1) := by decide +kernel
theorem dX4_act_18 : decode cX4_act 18 = .ok (.iaload, 1) := by decide +kernel
theorem dX4_act_19 : decode cX4_act 19 = .ok (.tableswitch 288 0 6 #[41, 61, 106, 139, 172, 185, 252], 41) := by decide +kernel
theorem dX4_act_60 : decode cX4_act 60 = .ok (.aload_n 0, 1) := by decide +kernel
theorem dX4_act_61 : decode cX4_act 61 = .ok (.getfield 41, 3) := by decide +kernel
theorem dX4_act_64 : decode cX4_act 64 = .ok (.aload_n 0, 1) := by decide +kernel
theorem dX4_act_65 : decode cX4_act 65 = .ok (.getfield 16, 3) := by decide +kernel
theorem dX4_act_68 : decode cX4_act 68 = .ok (.iload_n 1, 1) := by decide +kernel
theorem dX4_act_69 : decode cX4_act 69 = .ok (.iaload, 1) := by decide +kernel
theorem dX4_act_70 : decode cX4_act 70 = .ok (.aload_n 0, 1) := by decide +kernel
theorem dX4_act_71 : decode cX4_act 71 = .ok (.getfield 13, 3) := by decide +kernel
theorem dX4_act_74 : decode cX4_act 74 = .ok (.iload_n 1, 1) := by decide +kernel
theorem dX4_act_75 : decode cX4_act 75 = .ok (.iaload, 1) := by decide +kernel
theorem dX4_act_76 : decode cX4_act 76 = .ok (.iastore, 1) := by decide +kernel
theorem dX4_act_77 : decode cX4_act 77 = .ok (.goto 265, 3) := by decide +kernel
theorem dX4_act_80 : decode cX4_act 80 = .ok (.aload_n 0, 1) := by decide +kernel
theorem dX4_act_81 : decode cX4_act 81 = .ok (.getfield 41, 3) := by decide +kernel
theorem dX4_act_84 : decode cX4_act 84 = .ok (.aload_n 0, 1) := by decide +kernel
theorem dX4_act_85 : decode cX4_act 85 = .ok (.getfield 16, 3) := by decide +kernel
theorem dX4_act_88 : decode cX4_act 88 = .ok (.iload_n 1, 1) := by decide +kernel
theorem dX4_act_89 : decode cX4_act 89 = .ok (.iaload, 1) := by decide +kernel
theorem dX4_act_90 : decode cX4_act 90 = .ok (.aload_n 0, 1) := by decide +kernel
theorem dX4_act_91 : decode cX4_act 91 = .ok (.getfield 13, 3) := by decide +kernel
theorem dX4_act_94 : decode cX4_act 94 = .ok (.iload_n 1, 1) := by decide +kernel
theorem dX4_act_95 : decode cX4_act 95 = .ok (.iaload, 1) := by decide +kernel
theorem dX4_act_96 : decode cX4_act 96 = .ok (.aload_n 0, 1) := by decide +kernel
theorem dX4_act_97 : decode cX4_act 97 = .ok (.getfield 41, 3) := by decide +kernel
theorem dX4_act_100 : decode cX4_act 100 = .ok (.aload_n 0, 1) := by decide +kernel
theorem dX4_act_101 : decode cX4_act 101 = .ok (.getfield 19, 3) := by decide +kernel
theorem dX4_act_104 : decode cX4_act 104 = .ok (.iload_n 1, 1) := by decide +kernel
theorem dX4_act_105 : decode cX4_act 105 = .ok (.iaload, 1) := by decide +kernel
theorem dX4_act_106 : decode cX4_act 106 = .ok (.iaload, 1) := by decide +kernel
theorem dX4_act_107 : decode cX4_act 107 = .ok (.aload_n 0, 1) := by decide +kernel
theorem dX4_act_108 : decode cX4_act 108 = .ok (.getfield 41, 3) := by decide +kernel
theorem dX4_act_111 : decode cX4_act 111 = .ok (.aload_n 0, 1) := by decide +kernel
theorem dX4_act_112 : decode cX4_act 112 = .ok (.getfield 22, 3) := by decide +kernel
theorem dX4_act_115 : decode cX4_act 115 = .ok (.iload_n 1, 1) := by decide +kernel
theorem dX4_act_116 : decode cX4_act 116 = .ok (.iaload, 1) := by decide +kernel
theorem dX4_act_117 : decode cX4_act 117 = .ok (.iaload, 1) := by decide +kernel
theorem dX4_act_118 : decode cX4_act 118 = .ok (.invokestatic 170, 3) := by decide +kernel
theorem dX4_act_121 : decode cX4_act 121 = .ok (.iastore, 1) := by decide +kernel
theorem dX4_act_122 : decode cX4_act 122 = .ok (.goto 220, 3) := by decide +kernel
theorem dX4_act_125 : decode cX4_act 125 = .ok (.aload_n 0, 1) := by decide +kernel
theorem dX4_act_126 : decode cX4_act 126 = .ok (.getfield 41, 3) := by decide +kernel
theorem dX4_act_129 : decode cX4_act 129 = .ok (.aload_n 0, 1) := by decide +kernel
theorem dX4_act_130 : decode cX4_act 130 = .ok (.getfield 13, 3) := by decide +kernel
theorem dX4_act_133 : decode cX4_act 133 = .ok (.iload_n 1, 1) := by decide +kernel
theorem dX4_act_134 : decode cX4_act 134 = .ok (.iaload, 1) := by decide +kernel
theorem dX4_act_135 : decode cX4_act 135 = .ok (.aload_n 0, 1) := by decide +kernel
theorem dX4_act_136 : decode cX4_act 136 = .ok (.getfield 25, 3) := by decide +kernel
theorem dX4_act_139 : decode cX4_act 139 = .ok (.aload_n 0, 1) := by decide +kernel
theorem dX4_act_140 : decode cX4_act 140 = .ok (.getfield 41, 3) := by decide +kernel
theorem dX4_act_143 : decode cX4_act 143 = .ok (.aload_n 0, 1) := by decide +kernel
theorem dX4_act_144 : decode cX4_act 144 = .ok (.getfield 16, 3) := by decide +kernel
theorem dX4_act_147 : decode cX4_act 147 = .ok (.iload_n 1, 1) := by decide +kernel
theorem dX4_act_148 : decode cX4_act 148 = .ok (.iaload, 1) := by decide +kernel
theorem dX4_act_149 : decode cX4_act 149 = .ok (.iaload, 1) := by decide +kernel
theorem dX4_act_150 : decode cX4_act 150 = .ok (.bipush 7, 2) := by decide +kernel
theorem dX4_act_152 : decode cX4_act 152 = .ok (.iand, 1) := by decide +kernel
theorem dX4_act_153 : decode cX4_act 153 = .ok (.iaload, 1) := by decide +kernel
theorem dX4_act_154 : decode cX4_act 154 = .ok (.iastore, 1) := by decide +kernel
theorem dX4_act_155 : decode cX4_act 155 = .ok (.goto 187, 3) := by decide +kernel
theorem dX4_act_158 : decode cX4_act 158 = .ok (.aload_n 0, 1) := by decide +kernel
theorem dX4_act_159 : decode cX4_act 159 = .ok (.getfield 25, 3) := by decide +kernel
theorem dX4_act_162 : decode cX4_act 162 = .ok (.aload_n 0, 1) := by decide +kernel
theorem dX4_act_163 : decode cX4_act 163 = .ok (.getfield 41, 3) := by decide +kernel
theorem dX4_act_166 : decode cX4_act 166 = .ok (.aload_n 0, 1) := by decide +kernel
theorem dX4_act_167 : decode cX4_act 167 = .ok (.getfield 13, 3) := by decide +kernel
theorem dX4_act_170 : decode cX4_act 170 = .ok (.iload_n 1, 1) := by decide +kernel
theorem dX4_act_171 : decode cX4_act 171 = .ok (.iaload, 1) := by decide +kernel
theorem dX4_act_172 : decode cX4_act 172 = .ok (.iaload, 1) := by decide +kernel
theorem dX4_act_173 : decode cX4_act 173 = .ok (.bipush 7, 2) := by decide +kernel
theorem dX4_act_175 : decode cX4_act 175 = .ok (.iand, 1) := by decide +kernel
theorem dX4_act_176 : decode cX4_act 176 = .ok (.aload_n 0, 1) := by decide +kernel
theorem dX4_act_177 : decode cX4_act 177 = .ok (.getfield 41, 3) := by decide +kernel
theorem dX4_act_180 : decode cX4_act 180 = .ok (.aload_n 0, 1) := by decide +kernel
theorem dX4_act_181 : decode cX4_act 181 = .ok (.getfield 16, 3) := by decide +kernel
theorem dX4_act_184 : decode cX4_act 184 = .ok (.iload_n 1, 1) := by decide +kernel
theorem dX4_act_185 : decode cX4_act 185 = .ok (.iaload, 1) := by decide +kernel
theorem dX4_act_186 : decode cX4_act 186 = .ok (.iaload, 1) := by decide +kernel
theorem dX4_act_187 : decode cX4_act 187 = .ok (.iastore, 1) := by decide +kernel
theorem dX4_act_188 : decode cX4_act 188 = .ok (.goto 154, 3) := by decide +kernel
theorem dX4_act_191 : decode cX4_act 191 = .ok (.aload_n 0, 1) := by decide +kernel
theorem dX4_act_192 : decode cX4_act 192 = .ok (.aload_n 0, 1) := by decide +kernel
theorem dX4_act_193 : decode cX4_act 193 = .ok (.getfield 13, 3) := by decide +kernel
theorem dX4_act_196 : decode cX4_act 196 = .ok (.iload_n 1, 1) := by decide +kernel
theorem dX4_act_197 : decode cX4_act 197 = .ok (.iaload, 1) := by decide +kernel
theorem dX4_act_198 : decode cX4_act 198 = .ok (.putfield 162, 3) := by decide +kernel
theorem dX4_act_201 : decode cX4_act 201 = .ok (.goto 141, 3) := by decide +kernel
theorem dX4_act_204 : decode cX4_act 204 = .ok (.aload_n 0, 1) := by decide +kernel
theorem dX4_act_205 : decode cX4_act 205 = .ok (.getfield 13, 3) := by decide +kernel
theorem dX4_act_208 : decode cX4_act 208 = .ok (.iload_n 1, 1) := by decide +kernel
theorem dX4_act_209 : decode cX4_act 209 = .ok (.iaload, 1) := by decide +kernel
theorem dX4_act_210 : decode cX4_act 210 = .ok (.aload_n 0, 1) := by decide +kernel
theorem dX4_act_211 : decode cX4_act 211 = .ok (.getfield 41, 3) := by decide +kernel
theorem dX4_act_214 : decode cX4_act 214 = .ok (.aload_n 0, 1) := by decide +kernel
theorem dX4_act_215 : decode cX4_act 215 = .ok (.getfield 16, 3) := by decide +kernel
theorem dX4_act_218 : decode cX4_act 218 = .ok (.iload_n 1, 1) := by decide +kernel
theorem dX4_act_219 : decode cX4_act 219 = .ok (.iaload, 1) := by decide +kernel
theorem dX4_act_220 : decode cX4_act 220 = .ok (.iaload, 1) := by decide +kernel
theorem dX4_act_221 : decode cX4_act 221 = .ok (.aload_n 0, 1) := by decide +kernel
theorem dX4_act_222 : decode cX4_act 222 = .ok (.getfield 41, 3) := by decide +kernel
theorem dX4_act_225 : decode cX4_act 225 = .ok (.aload_n 0, 1) := by decide +kernel
theorem dX4_act_226 : decode cX4_act 226 = .ok (.getfield 19, 3) := by decide +kernel
theorem dX4_act_229 : decode cX4_act 229 = .ok (.iload_n 1, 1) := by decide +kernel
theorem dX4_act_230 : decode cX4_act 230 = .ok (.iaload, 1) := by decide +kernel
theorem dX4_act_231 : decode cX4_act 231 = .ok (.iaload, 1) := by decide +kernel
theorem dX4_act_232 : decode cX4_act 232 = .ok (.invokestatic 174, 3) := by decide +kernel
theorem dX4_act_235 : decode cX4_act 235 = .ok (.ifCond .eq 16, 3) := by decide +kernel
theorem dX4_act_238 : decode cX4_act 238 = .ok (.aload_n 0, 1) := by decide +kernel
theorem dX4_act_239 : decode cX4_act 239 = .ok (.aload_n 0, 1) := by decide +kernel
theorem dX4_act_240 : decode cX4_act 240 = .ok (.getfield 22, 3) := by decide +kernel
theorem dX4_act_243 : decode cX4_act 243 = .ok (.iload_n 1, 1) := by decide +kernel
theorem dX4_act_244 : decode cX4_act 244 = .ok (.iaload, 1) := by decide +kernel
theorem dX4_act_245 : decode cX4_act 245 = .ok (.putfield 162, 3) := by decide +kernel
theorem dX4_act_248 : decode cX4_act 248 = .ok (.goto 94, 3) := by decide +kernel
theorem dX4_act_251 : decode cX4_act 251 = .ok (.aload_n 0, 1) := by decide +kernel
theorem dX4_act_252 : decode cX4_act 252 = .ok (.getfield 34, 3) := by decide +kernel
theorem dX4_act_255 : decode cX4_act 255 = .ok (.iload_n 1, 1) := by decide +kernel
theorem dX4_act_256 : decode cX4_act 256 = .ok (.baload, 1) := by decide +kernel
theorem dX4_act_257 : decode cX4_act 257 = .ok (.ifCond .eq 9, 3) := by decide +kernel
theorem dX4_act_260 : decode cX4_act 260 = .ok (.iload_n 2, 1) := by decide +kernel
theorem dX4_act_261 : decode cX4_act 261 = .ok (.iconst 1, 1) := by decide +kernel
theorem dX4_act_262 : decode cX4_act 262 = .ok (.isub, 1) := by decide +kernel
theorem dX4_act_263 : decode cX4_act 263 = .ok (.goto 4, 3) := by decide +kernel
theorem dX4_act_266 : decode cX4_act 266 = .ok (.iload_n 2, 1) := by decide +kernel
theorem dX4_act_267 : decode cX4_act 267 = .ok (.istore_n 2, 1) := by decide +kernel
theorem dX4_act_268 : decode cX4_act 268 = .ok (.goto 74, 3) := by decide +kernel
theorem dX4_act_271 : decode cX4_act 271 = .ok (.aload_n 0, 1) := by decide +kernel
theorem dX4_act_272 : decode cX4_act 272 = .ok (.getfield 44, 3) := by decide +kernel
theorem dX4_act_275 : decode cX4_act 275 = .ok (.aload_n 0, 1) := by decide +kernel
theorem dX4_act_276 : decode cX4_act 276 = .ok (.getfield 165, 3) := by decide +kernel
theorem dX4_act_279 : decode cX4_act 279 = .ok (.bipush 16, 2) := by decide +kernel
theorem dX4_act_281 : decode cX4_act 281 = .ok (.irem, 1) := by decide +kernel
theorem dX4_act_282 : decode cX4_act 282 = .ok (.aload_n 0, 1) := by decide +kernel
theorem dX4_act_283 : decode cX4_act 283 = .ok (.getfield 41, 3) := by decide +kernel
theorem dX4_act_286 : decode cX4_act 286 = .ok (.aload_n 0, 1) := by decide +kernel
theorem dX4_act_287 : decode cX4_act 287 = .ok (.getfield 13, 3) := by decide +kernel
theorem dX4_act_290 : decode cX4_act 290 = .ok (.iload_n 1, 1) := by decide +kernel
theorem dX4_act_291 : decode cX4_act 291 = .ok (.iaload, 1) := by decide +kernel
theorem dX4_act_292 : decode cX4_act 292 = .ok (.iaload, 1) := by decide +kernel
theorem dX4_act_293 : decode cX4_act 293 = .ok (.iastore, 1) := by decide +kernel
theorem dX4_act_294 : decode cX4_act 294 = .ok (.aload_n 0, 1) := by decide +kernel
theorem dX4_act_295 : decode cX4_act 295 = .ok (.dup, 1) := by decide +kernel
theorem dX4_act_296 : decode cX4_act 296 = .ok (.getfield 165, 3) := by decide +kernel
theorem dX4_act_299 : decode cX4_act 299 = .ok (.iconst 1, 1) := by decide +kernel
theorem dX4_act_300 : decode cX4_act 300 = .ok (.iadd, 1) := by decide +kernel
theorem dX4_act_301 : decode cX4_act 301 = .ok (.putfield 165, 3) := by decide +kernel
theorem dX4_act_304 : decode cX4_act 304 = .ok (.goto 38, 3) := by decide +kernel
theorem dX4_act_307 : decode cX4_act 307 = .ok (.aload_n 0, 1) := by decide +kernel
theorem dX4_act_308 : decode cX4_act 308 = .ok (.iload_n 1, 1) := by decide +kernel
theorem dX4_act_309 : decode cX4_act 309 = .ok (.putfield 162, 3) := by decide +kernel
theorem dX4_act_312 : decode cX4_act 312 = .ok (.aload_n 0, 1) := by decide +kernel
theorem dX4_act_313 : decode cX4_act 313 = .ok (.aload_n 0, 1) := by decide +kernel
theorem dX4_act_314 : decode cX4_act 314 = .ok (.getfield 7, 3) := by decide +kernel
theorem dX4_act_317 : decode cX4_act 317 = .ok (.iload_n 1, 1) := by decide +kernel
theorem dX4_act_318 : decode cX4_act 318 = .ok (.iaload, 1) := by decide +kernel
theorem dX4_act_319 : decode cX4_act 319 = .ok (.bipush 7, 2) := by decide +kernel
theorem dX4_act_321 : decode cX4_act 321 = .ok (.if_icmp .ne 7, 3) := by decide +kernel
theorem dX4_act_324 : decode cX4_act 324 = .ok (.iconst 2, 1) := by decide +kernel
theorem dX4_act_325 : decode cX4_act 325 = .ok (.goto 4, 3) := by decide +kernel
theorem dX4_act_328 : decode cX4_act 328 = .ok (.iconst 3, 1) := by decide +kernel
theorem dX4_act_329 : decode cX4_act 329 = .ok (.putfield 58, 3) := by decide +kernel
theorem dX4_act_332 : decode cX4_act 332 = .ok (.aload_n 0, 1) := by decide +kernel
theorem dX4_act_333 : decode cX4_act 333 = .ok (.aload_n 0, 1) := by decide +kernel
theorem dX4_act_334 : decode cX4_act 334 = .ok (.getfield 13, 3) := by decide +kernel
theorem dX4_act_337 : decode cX4_act 337 = .ok (.iload_n 1, 1) := by decide +kernel
theorem dX4_act_338 : decode cX4_act 338 = .ok (.iaload, 1) := by decide +kernel
theorem dX4_act_339 : decode cX4_act 339 = .ok (.putfield 178, 3) := by decide +kernel
theorem dX4_act_342 : decode cX4_act 342 = .ok (.iload_n 2, 1) := by decide +kernel
theorem dX4_act_343 : decode cX4_act 343 = .ok (.ireturn, 1) := by decide +kernel
theorem dX4_run_0 : decode cX4_run 0 = .ok (.aload_n 0, 1) := by decide +kernel
theorem dX4_run_1 : decode cX4_run 1 = .ok (.iload_n 1, 1) := by decide +kernel
theorem dX4_run_2 : decode cX4_run 2 = .ok (.ifCond .lt 10, 3) := by decide +kernel
theorem dX4_run_5 : decode cX4_run 5 = .ok (.iload_n 1, 1) := by decide +kernel
theorem dX4_run_6 : decode cX4_run 6 = .ok (.sipush 2000, 3) := by decide +kernel
theorem dX4_run_9 : decode cX4_run 9 = .ok (.if_icmp .le 7, 3) := by decide +kernel
theorem dX4_run_12 : decode cX4_run 12 = .ok (.iconst 1, 1) := by decide +kernel
theorem dX4_run_13 : decode cX4_run 13 = .ok (.goto 16, 3) := by decide +kernel
theorem dX4_run_16 : decode cX4_run 16 = .ok (.aload_n 0, 1) := by decide +kernel
theorem dX4_run_17 : decode cX4_run 17 = .ok (.getfield 58, 3) := by decide +kernel
theorem dX4_run_20 : decode cX4_run 20 = .ok (.iconst 1, 1) := by decide +kernel
theorem dX4_run_21 : decode cX4_run 21 = .ok (.if_icmp .eq 7, 3) := by decide +kernel
theorem dX4_run_24 : decode cX4_run 24 = .ok (.iconst 2, 1) := by decide +kernel
theorem dX4_run_25 : decode cX4_run 25 = .ok (.goto 4, 3) := by decide +kernel
theorem dX4_run_28 : decode cX4_run 28 = .ok (.iconst 0, 1) := by decide +kernel
theorem dX4_run_29 : decode cX4_run 29 = .ok (.putfield 47, 3) := by decide +kernel
theorem dX4_run_32 : decode cX4_run 32 = .ok (.aload_n 0, 1) := by decide +kernel
theorem dX4_run_33 : decode cX4_run 33 = .ok (.getfield 47, 3) := by decide +kernel
theorem dX4_run_36 : decode cX4_run 36 = .ok (.ifCond .le 5, 3) := by decide +kernel
theorem dX4_run_39 : decode cX4_run 39 = .ok (.iconst 0, 1) := by decide +kernel
theorem dX4_run_40 : decode cX4_run 40 = .ok (.ireturn, 1) := by decide +kernel
theorem dX4_run_41 : decode cX4_run 41 = .ok (.iconst 0, 1) := by decide +kernel
theorem dX4_run_42 : decode cX4_run 42 = .ok (.istore_n 2, 1) := by decide +kernel
theorem dX4_run_43 : decode cX4_run 43 = .ok (.aload_n 0, 1) := by decide +kernel
theorem dX4_run_44 : decode cX4_run 44 = .ok (.getfield 58, 3) := by decide +kernel
theorem dX4_run_47 : decode cX4_run 47 = .ok (.iconst 1, 1) := by decide +kernel
theorem dX4_run_48 : decode cX4_run 48 = .ok (.if_icmp .ne 22, 3) := by decide +kernel
theorem dX4_run_51 : decode cX4_run 51 = .ok (.iload_n 2, 1) := by decide +kernel
theorem dX4_run_52 : decode cX4_run 52 = .ok (.iload_n 1, 1) := by decide +kernel
theorem dX4_run_53 : decode cX4_run 53 = .ok (.if_icmp .ge 17, 3) := by decide +kernel
theorem dX4_run_56 : decode cX4_run 56 = .ok (.iload_n 2, 1) := by decide +kernel
theorem dX4_run_57 : decode cX4_run 57 = .ok (.aload_n 0, 1) := by decide +kernel
theorem dX4_run_58 : decode cX4_run 58 = .ok (.aload_n 0, 1) := by decide +kernel
theorem dX4_run_59 : decode cX4_run 59 = .ok (.getfield 162, 3) := by decide +kernel
theorem dX4_run_62 : decode cX4_run 62 = .ok (.invokevirtual 181, 3) := by decide +kernel
theorem dX4_run_65 : decode cX4_run 65 = .ok (.iadd, 1) := by decide +kernel
theorem dX4_run_66 : decode cX4_run 66 = .ok (.istore_n 2, 1) := by decide +kernel
theorem dX4_run_67 : decode cX4_run 67 = .ok (.goto (-24), 3) := by decide +kernel
theorem dX4_run_70 : decode cX4_run 70 = .ok (.iload_n 2, 1) := by decide +kernel
theorem dX4_run_71 : decode cX4_run 71 = .ok (.ireturn, 1) := by decide +kernel
theorem dX4_state_0 : decode cX4_state 0 = .ok (.aload_n 0, 1) := by decide +kernel
theorem dX4_state_1 : decode cX4_state 1 = .ok (.iconst 0, 1) := by decide +kernel
theorem dX4_state_2 : decode cX4_state 2 = .ok (.putfield 47, 3) := by decide +kernel
theorem dX4_state_5 : decode cX4_state 5 = .ok (.aload_n 0, 1) := by decide +kernel
theorem dX4_state_6 : decode cX4_state 6 = .ok (.getfield 58, 3) := by decide +kernel
theorem dX4_state_9 : decode cX4_state 9 = .ok (.iconst 3, 1) := by decide +kernel
theorem dX4_state_10 : decode cX4_state 10 = .ok (.if_icmp .ne 14, 3) := by decide +kernel
theorem dX4_state_13 : decode cX4_state 13 = .ok (.iconst 3, 1) := by decide +kernel
theorem dX4_state_14 : decode cX4_state 14 = .ok (.iconst 4, 1) := by decide +kernel
theorem dX4_state_15 : decode cX4_state 15 = .ok (.aload_n 0, 1) := by decide +kernel
theorem dX4_state_16 : decode cX4_state 16 = .ok (.getfield 178, 3) := by decide +kernel
theorem dX4_state_19 : decode cX4_state 19 = .ok (.imul, 1) := by decide +kernel
theorem dX4_state_20 : decode cX4_state 20 = .ok (.iadd, 1) := by decide +kernel
theorem dX4_state_21 : decode cX4_state 21 = .ok (.goto 7, 3) := by decide +kernel
theorem dX4_state_24 : decode cX4_state 24 = .ok (.aload_n 0, 1) := by decide +kernel
theorem dX4_state_25 : decode cX4_state 25 = .ok (.getfield 58, 3) := by decide +kernel
theorem dX4_state_28 : decode cX4_state 28 = .ok (.ireturn, 1) := by decide +kernel
theorem dX4_at_0 : decode cX4_at 0 = .ok (.aload_n 0, 1) := by decide +kernel
theorem dX4_at_1 : decode cX4_at 1 = .ok (.iconst 0, 1) := by decide +kernel
theorem dX4_at_2 : decode cX4_at 2 = .ok (.putfield 47, 3) := by decide +kernel
theorem dX4_at_5 : decode cX4_at 5 = .ok (.aload_n 0, 1) := by decide +kernel
theorem dX4_at_6 : decode cX4_at 6 = .ok (.getfield 58, 3) := by decide +kernel
theorem dX4_at_9 : decode cX4_at 9 = .ok (.ifCond .ne 7, 3) := by decide +kernel
theorem dX4_at_12 : decode cX4_at 12 = .ok (.iconst (-1), 1) := by decide +kernel
theorem dX4_at_13 : decode cX4_at 13 = .ok (.goto 7, 3) := by decide +kernel
theorem dX4_at_16 : decode cX4_at 16 = .ok (.aload_n 0, 1) := by decide +kernel
theorem dX4_at_17 : decode cX4_at 17 = .ok (.getfield 162, 3) := by decide +kernel
theorem dX4_at_20 : decode cX4_at 20 = .ok (.ireturn, 1) := by decide +kernel
theorem dX4_variable_0 : decode cX4_variable 0 = .ok (.aload_n 0, 1) := by decide +kernel
theorem dX4_variable_1 : decode cX4_variable 1 = .ok (.iload_n 1, 1) := by decide +kernel
theorem dX4_variable_2 : decode cX4_variable 2 = .ok (.invokestatic 61, 3) := by decide +kernel
theorem dX4_variable_5 : decode cX4_variable 5 = .ok (.ifCond .ne 7, 3) := by decide +kernel
theorem dX4_variable_8 : decode cX4_variable 8 = .ok (.iconst 1, 1) := by decide +kernel
theorem dX4_variable_9 : decode cX4_variable 9 = .ok (.goto 15, 3) := by decide +kernel
theorem dX4_variable_12 : decode cX4_variable 12 = .ok (.aload_n 0, 1) := by decide +kernel
theorem dX4_variable_13 : decode cX4_variable 13 = .ok (.getfield 58, 3) := by decide +kernel
theorem dX4_variable_16 : decode cX4_variable 16 = .ok (.ifCond .ne 7, 3) := by decide +kernel
theorem dX4_variable_19 : decode cX4_variable 19 = .ok (.iconst 2, 1) := by decide +kernel
theorem dX4_variable_20 : decode cX4_variable 20 = .ok (.goto 4, 3) := by decide +kernel
theorem dX4_variable_23 : decode cX4_variable 23 = .ok (.iconst 0, 1) := by decide +kernel
theorem dX4_variable_24 : decode cX4_variable 24 = .ok (.putfield 47, 3) := by decide +kernel
theorem dX4_variable_27 : decode cX4_variable 27 = .ok (.aload_n 0, 1) := by decide +kernel
theorem dX4_variable_28 : decode cX4_variable 28 = .ok (.getfield 47, 3) := by decide +kernel
theorem dX4_variable_31 : decode cX4_variable 31 = .ok (.ifCond .le 7, 3) := by decide +kernel
theorem dX4_variable_34 : decode cX4_variable 34 = .ok (.iconst 0, 1) := by decide +kernel
theorem dX4_variable_35 : decode cX4_variable 35 = .ok (.goto 9, 3) := by decide +kernel
theorem dX4_variable_38 : decode cX4_variable 38 = .ok (.aload_n 0, 1) := by decide +kernel
theorem dX4_variable_39 : decode cX4_variable 39 = .ok (.getfield 41, 3) := by decide +kernel
theorem dX4_variable_42 : decode cX4_variable 42 = .ok (.iload_n 1, 1) := by decide +kernel
theorem dX4_variable_43 : decode cX4_variable 43 = .ok (.iaload, 1) := by decide +kernel
theorem dX4_variable_44 : decode cX4_variable 44 = .ok (.ireturn, 1) := by decide +kernel
theorem dX4_outputs_0 : decode cX4_outputs 0 = .ok (.aload_n 0, 1) := by decide +kernel
theorem dX4_outputs_1 : decode cX4_outputs 1 = .ok (.iconst 0, 1) := by decide +kernel
theorem dX4_outputs_2 : decode cX4_outputs 2 = .ok (.putfield 47, 3) := by decide +kernel
theorem dX4_outputs_5 : decode cX4_outputs 5 = .ok (.aload_n 0, 1) := by decide +kernel
theorem dX4_outputs_6 : decode cX4_outputs 6 = .ok (.getfield 58, 3) := by decide +kernel
theorem dX4_outputs_9 : decode cX4_outputs 9 = .ok (.ifCond .ne 7, 3) := by decide +kernel
theorem dX4_outputs_12 : decode cX4_outputs 12 = .ok (.iconst 0, 1) := by decide +kernel
theorem dX4_outputs_13 : decode cX4_outputs 13 = .ok (.goto 7, 3) := by decide +kernel
theorem dX4_outputs_16 : decode cX4_outputs 16 = .ok (.aload_n 0, 1) := by decide +kernel
theorem dX4_outputs_17 : decode cX4_outputs 17 = .ok (.getfield 165, 3) := by decide +kernel
theorem dX4_outputs_20 : decode cX4_outputs 20 = .ok (.ireturn, 1) := by decide +kernel
theorem dX4_output_0 : decode cX4_output 0 = .ok (.aload_n 0, 1) := by decide +kernel
theorem dX4_output_1 : decode cX4_output 1 = .ok (.aload_n 0, 1) := by decide +kernel
theorem dX4_output_2 : decode cX4_output 2 = .ok (.getfield 58, 3) := by decide +kernel
theorem dX4_output_5 : decode cX4_output 5 = .ok (.ifCond .eq 30, 3) := by decide +kernel
theorem dX4_output_8 : decode cX4_output 8 = .ok (.iload_n 1, 1) := by decide +kernel
theorem dX4_output_9 : decode cX4_output 9 = .ok (.ifCond .lt 26, 3) := by decide +kernel
theorem dX4_output_12 : decode cX4_output 12 = .ok (.iload_n 1, 1) := by decide +kernel
theorem dX4_output_13 : decode cX4_output 13 = .ok (.aload_n 0, 1) := by decide +kernel
theorem dX4_output_14 : decode cX4_output 14 = .ok (.getfield 165, 3) := by decide +kernel
theorem dX4_output_17 : decode cX4_output 17 = .ok (.if_icmp .ge 18, 3) := by decide +kernel
theorem dX4_output_20 : decode cX4_output 20 = .ok (.iload_n 1, 1) := by decide +kernel
theorem dX4_output_21 : decode cX4_output 21 = .ok (.aload_n 0, 1) := by decide +kernel
theorem dX4_output_22 : decode cX4_output 22 = .ok (.getfield 165, 3) := by decide +kernel
theorem dX4_output_25 : decode cX4_output 25 = .ok (.bipush 16, 2) := by decide +kernel
theorem dX4_output_27 : decode cX4_output 27 = .ok (.isub, 1) := by decide +kernel
theorem dX4_output_28 : decode cX4_output 28 = .ok (.if_icmp .lt 7, 3) := by decide +kernel
theorem dX4_output_31 : decode cX4_output 31 = .ok (.iconst 0, 1) := by decide +kernel
theorem dX4_output_32 : decode cX4_output 32 = .ok (.goto 4, 3) := by decide +kernel
theorem dX4_output_35 : decode cX4_output 35 = .ok (.iconst 1, 1) := by decide +kernel
theorem dX4_output_36 : decode cX4_output 36 = .ok (.putfield 47, 3) := by decide +kernel
theorem dX4_output_39 : decode cX4_output 39 = .ok (.aload_n 0, 1) := by decide +kernel
theorem dX4_output_40 : decode cX4_output 40 = .ok (.getfield 47, 3) := by decide +kernel
theorem dX4_output_43 : decode cX4_output 43 = .ok (.ifCond .le 7, 3) := by decide +kernel
theorem dX4_output_46 : decode cX4_output 46 = .ok (.iconst 0, 1) := by decide +kernel
theorem dX4_output_47 : decode cX4_output 47 = .ok (.goto 12, 3) := by decide +kernel
theorem dX4_output_50 : decode cX4_output 50 = .ok (.aload_n 0, 1) := by decide +kernel
theorem dX4_output_51 : decode cX4_output 51 = .ok (.getfield 44, 3) := by decide +kernel
theorem dX4_output_54 : decode cX4_output 54 = .ok (.iload_n 1, 1) := by decide +kernel
theorem dX4_output_55 : decode cX4_output 55 = .ok (.bipush 16, 2) := by decide +kernel
theorem dX4_output_57 : decode cX4_output 57 = .ok (.irem, 1) := by decide +kernel
theorem dX4_output_58 : decode cX4_output 58 = .ok (.iaload, 1) := by decide +kernel
theorem dX4_output_59 : decode cX4_output 59 = .ok (.ireturn, 1) := by decide +kernel
end
section
/-! the shape of the contracts: a world of cells in, the same cells at the same addresses out; facts of statics beside it -/
abbrev St : Type := (Nat → Int32) × (Nat → Nat → Int32)
/-- a field set, an element of a row set -/
def sS (u : St) (k : Nat) (v : Int32) : St := (va_up u.1 k v, u.2)
def sA (u : St) (k : Nat) (i v : Int32) : St := (u.1, va_up u.2 k (upd (u.2 k) i.toNatClampNeg v))
def ush (x y : Int32) : Int32 := (x.toUInt32 >>> (y.toUInt32 &&& Int32.toUInt32 31)).toInt32
/-- facts of old cells that stay: they go with the classes, the heap outside A, and a smaller A -/
def Zok (zz : (Nat → Prop) → State → Heap → Prop) : Prop :=
  (∀ (A : Nat → Prop) (u U : State) (H : Heap), u.WarmedH U.vm → zz A u H → zz A U H) ∧
  (∀ (A : Nat → Prop) (U : State) (H H1 : Heap), zz A U H → (∀ a : Nat, a < H.size → ¬ A a → H1[a]? = H[a]?) → zz A U H1) ∧
  (∀ (A B : Nat → Prop) (U : State) (H : Heap), zz A U H → (∀ q, B q → A q) → zz B U H)
abbrev qqI (D : va_G) (cl : List vw_C) (tys : List (ClassId × FieldType)) (w' : va_W) (r : Int32) (A : Nat → Prop) : Array Value → State → Outcome → State → Prop :=
  va_Qi (fun (r2 : Int32) (_ : Unit) => r2 = r) (fun _ t => va_P D cl w' t.heap ∧ va_K D cl tys t ∧ va_D A w') A
abbrev qqV (D : va_G) (cl : List vw_C) (tys : List (ClassId × FieldType)) (w' : va_W) (A : Nat → Prop) : Array Value → State → Outcome → State → Prop :=
  va_Qv (fun (_ : Unit) => True) (fun _ t => va_P D cl w' t.heap ∧ va_K D cl tys t ∧ va_D A w') A
abbrev ppW (D : va_G) (cl : List vw_C) (tys : List (ClassId × FieldType)) (zz : (Nat → Prop) → State → Heap → Prop) (w : va_W) (sz : Nat) : State → Prop := fun U =>
  U.heap.size = sz ∧ va_P D cl w U.heap ∧ va_K D cl tys U ∧ va_D (fun _ => True) w ∧ zz (va_A w sz) U U.heap
/-- the method answers r, and the cells w become w' -/
def tfI (l : Launch) (D : va_G) (cl : List vw_C) (tys : List (ClassId × FieldType)) (zz : (Nat → Prop) → State → Heap → Prop) (y : MethodName) (ws : List Cond) (rm : Room) (av : List Value) (w : va_W) (r : Int32) (w' : va_W) : Prop :=
  ∀ sz : Nat, Met l y ws rm (va_Pc av (ppW D cl tys zz w sz)) (qqI D cl tys w' r (va_A w sz)) 0 0 (va_A w sz)
def tfV (l : Launch) (D : va_G) (cl : List vw_C) (tys : List (ClassId × FieldType)) (zz : (Nat → Prop) → State → Heap → Prop) (y : MethodName) (ws : List Cond) (rm : Room) (av : List Value) (w : va_W) (w' : va_W) : Prop :=
  ∀ sz : Nat, Met l y ws rm (va_Pc av (ppW D cl tys zz w sz)) (qqV D cl tys w' (va_A w sz)) 0 0 (va_A w sz)
/-- what stays the same along a walk -/
def cxt (p : Program) (s : State) (m : MethodId) (args : Array Value) (meth : Method) (c : Code) (cc : ByteArray) (maxL : Nat) (ret : Option FieldType) (ws : List Cond) (own : String) (D : va_G) (cl : List vw_C) (tys : List (ClassId × FieldType)) (zz : (Nat → Prop) → State → Heap → Prop) (A : Nat → Prop) : Prop :=
  p.tables.exec = Jvm.exec ∧ c.code = cc ∧ meth.sig.returnType = ret ∧ (∀ w ∈ ws, w.before args s = true) ∧ s.vm.findClass own = some m.cls ∧ meth.locks = false ∧ c.maxLocals = maxL ∧ va_K D cl tys s ∧ (∀ q : Nat, s.heap.size ≤ q → A q) ∧ zz A s s.heap
section KC
variable {p : Program} {l : Launch} {e : Env} {R : Room} {s : State} {m : MethodId} {args : Array Value} {below : List Frame} {meth : Method} {c : Code} {H : Heap} {locs : List Loc} {cells slots : Nat} {Q : State → Prop}
variable {D : va_G} {cl : List vw_C} {tys : List (ClassId × FieldType)} {zz : (Nat → Prop) → State → Heap → Prop} {A : Nat → Prop} {w w' : va_W} {r : Int32}
variable {y : MethodName} {bytes cc : ByteArray} {maxL nL n index pc : Nat} {ret : Option FieldType} {ws Ts : List Cond} {rm : Room} {own C host : String} {b : Addr} {As rest st0 : List Value} {ls : Array Slot}
theorem k_sub (hD : va_D A w) (hS : va_S A s.heap H locs) (hA : ∀ q : Nat, s.heap.size ≤ q → A q) : ∀ q, va_A w H.size q → A q := by
  intro q hq
  rcases hq with ⟨k, e, hk⟩ | hq
  · exact hD.2 k _ hk
  · exact hA q (Nat.le_trans hS.1 hq)
theorem k_blind (hzz : Zok zz) {av : List Value} {sz : Nat} : FrameBlind (va_Pc av (ppW D cl tys zz w sz)) := by
  intro a U g mk q
  obtain ⟨q0, q1, qP, qK, qD, qZ⟩ := q
  exact ⟨q0, q1, qP, va_K.moved (u := U) (U := U.calling g mk a) (Vm.Alike.refl U.vm) qK, qD, hzz.1 _ U (U.calling g mk a) _ (State.WarmedH.refl U) qZ⟩
theorem k_pre (hzz : Zok zz) (hP : va_P D cl w H) (hK : va_K D cl tys s) (hD : va_D A w) (hS : va_S A s.heap H locs) (hA : ∀ q : Nat, s.heap.size ≤ q → A q) (hZ : zz A s s.heap) {av : List Value} :
    ∀ U : State, U.heap = H → s.WarmedH U.vm → va_Pc av (ppW D cl tys zz w H.size) av.toArray U := by
  intro U hU hWm
  refine ⟨rfl, by rw [hU], by rw [hU]; exact hP, va_K.moved hWm.alike hK, hD.weaken (fun _ _ _ _ => trivial), ?_⟩
  rw [hU]
  exact hzz.2.2 A _ U H (hzz.1 A s U H hWm (hzz.2.1 A s s.heap H hZ hS.2.1)) (k_sub hD hS hA)
theorem k_callVi (hzz : Zok zz) (S : CallFix p m c cc nL s args Ts own) (hM : tfI l D cl tys zz y ws rm (.ref b :: As) w r w') (cw : CallW R s args own C index y bytes maxL ret ws rm 0 0 n) (hrv : ∃ cellB : Cell, H[b]? = some cellB ∧ cellB.vm.isStatics = false ∧ s.vm.findClass C = some cellB.cls)
    (hn : As.length = n) (hsize : ls.size = nL) (hst : st0 = As.reverse ++ .ref b :: rest) (hW : 2 * (F0 m pc ls st0).monitorRoom + (rest.map fun v => v.category).sum ≤ 8) (hdg : decode cc pc = .ok (.invokevirtual index, 3)) (hf : cells + 0 ≤ R.cells ∧ slots + 0 ≤ R.slots)
    (hP : va_P D cl w H) (hK : va_K D cl tys s) (hD : va_D A w) (hS : va_S A s.heap H locs) (hA : ∀ q : Nat, s.heap.size ≤ q → A q) (hZ : zz A s s.heap)
    (kk : ∀ (H1 : Heap) (locs1 : List Loc), va_P D cl w' H1 → va_D A w' → va_S A s.heap H1 locs1 → W p l e R s m args below meth c H1 locs1 cells slots Q (F0 m (pc + 3) ls (.int r :: rest))) :
    W p l e R s m args below meth c H locs cells slots Q (F0 m pc ls st0) := by
  have hFc := k_sub hD hS hA
  refine va_calli (va_runV (As := As) (rest := rest) S (hM H.size) cw ⟨k_blind hzz, hrv, k_pre hzz hP hK hD hS hA hZ⟩ rfl hn hsize hst hW hdg hf) hS (fun q _ h => hFc q h) hFc (fun r1 u1 t H1 locs1 ht hvm hw hB hz1 hk1 hS1 => ?_)
  obtain ⟨hP1, hK1, hD1⟩ := hB
  rw [ht] at hP1
  subst hw
  exact kk H1 locs1 hP1 (hD1.weaken (fun _ _ _ h => hFc _ h)) hS1
theorem k_callVv (hzz : Zok zz) (S : CallFix p m c cc nL s args Ts own) (hM : tfV l D cl tys zz y ws rm (.ref b :: As) w w') (cw : CallW R s args own C index y bytes maxL ret ws rm 0 0 n) (hrv : ∃ cellB : Cell, H[b]? = some cellB ∧ cellB.vm.isStatics = false ∧ s.vm.findClass C = some cellB.cls)
    (hn : As.length = n) (hsize : ls.size = nL) (hst : st0 = As.reverse ++ .ref b :: rest) (hW : 2 * (F0 m pc ls st0).monitorRoom + (rest.map fun v => v.category).sum ≤ 8) (hdg : decode cc pc = .ok (.invokevirtual index, 3)) (hf : cells + 0 ≤ R.cells ∧ slots + 0 ≤ R.slots)
    (hP : va_P D cl w H) (hK : va_K D cl tys s) (hD : va_D A w) (hS : va_S A s.heap H locs) (hA : ∀ q : Nat, s.heap.size ≤ q → A q) (hZ : zz A s s.heap)
    (kk : ∀ (H1 : Heap) (locs1 : List Loc), va_P D cl w' H1 → va_D A w' → va_S A s.heap H1 locs1 → W p l e R s m args below meth c H1 locs1 cells slots Q (F0 m (pc + 3) ls rest)) :
    W p l e R s m args below meth c H locs cells slots Q (F0 m pc ls st0) := by
  have hFc := k_sub hD hS hA
  refine va_callv (va_runV (As := As) (rest := rest) S (hM H.size) cw ⟨k_blind hzz, hrv, k_pre hzz hP hK hD hS hA hZ⟩ rfl hn hsize hst hW hdg hf) hS (fun q _ h => hFc q h) hFc (fun u1 t H1 locs1 ht hvm hw hB hz1 hk1 hS1 => ?_)
  obtain ⟨hP1, hK1, hD1⟩ := hB
  rw [ht] at hP1
  exact kk H1 locs1 hP1 (hD1.weaken (fun _ _ _ h => hFc _ h)) hS1
theorem k_callSi (hzz : Zok zz) (S : CallFix p m c cc nL s args Ts own) (hM : tfI l D cl tys zz y ws rm As w r w') (cw : CallB R s args own index y bytes maxL ret ws rm 0 0 n ∧ (Cond.static y).before args s = true)
    (hn : As.length = n) (hsize : ls.size = nL) (hst : st0 = As.reverse ++ rest) (hW : 2 * (F0 m pc ls st0).monitorRoom + (rest.map fun v => v.category).sum ≤ 8) (hdg : decode cc pc = .ok (.invokestatic index, 3)) (hf : cells + 0 ≤ R.cells ∧ slots + 0 ≤ R.slots)
    (hP : va_P D cl w H) (hK : va_K D cl tys s) (hD : va_D A w) (hS : va_S A s.heap H locs) (hA : ∀ q : Nat, s.heap.size ≤ q → A q) (hZ : zz A s s.heap)
    (kk : ∀ (H1 : Heap) (locs1 : List Loc), va_P D cl w' H1 → va_D A w' → va_S A s.heap H1 locs1 → W p l e R s m args below meth c H1 locs1 cells slots Q (F0 m (pc + 3) ls (.int r :: rest))) :
    W p l e R s m args below meth c H locs cells slots Q (F0 m pc ls st0) := by
  have hFc := k_sub hD hS hA
  refine va_calli (va_runS (As := As) (rest := rest) S (hM H.size) cw ⟨k_blind hzz, k_pre hzz hP hK hD hS hA hZ⟩ rfl hn hsize hst hW hdg hf) hS (fun q _ h => hFc q h) hFc (fun r1 u1 t H1 locs1 ht hvm hw hB hz1 hk1 hS1 => ?_)
  obtain ⟨hP1, hK1, hD1⟩ := hB
  rw [ht] at hP1
  subst hw
  exact kk H1 locs1 hP1 (hD1.weaken (fun _ _ _ h => hFc _ h)) hS1
theorem k_callSv (hzz : Zok zz) (S : CallFix p m c cc nL s args Ts own) (hM : tfV l D cl tys zz y ws rm As w w') (cw : CallB R s args own index y bytes maxL ret ws rm 0 0 n ∧ (Cond.static y).before args s = true)
    (hn : As.length = n) (hsize : ls.size = nL) (hst : st0 = As.reverse ++ rest) (hW : 2 * (F0 m pc ls st0).monitorRoom + (rest.map fun v => v.category).sum ≤ 8) (hdg : decode cc pc = .ok (.invokestatic index, 3)) (hf : cells + 0 ≤ R.cells ∧ slots + 0 ≤ R.slots)
    (hP : va_P D cl w H) (hK : va_K D cl tys s) (hD : va_D A w) (hS : va_S A s.heap H locs) (hA : ∀ q : Nat, s.heap.size ≤ q → A q) (hZ : zz A s s.heap)
    (kk : ∀ (H1 : Heap) (locs1 : List Loc), va_P D cl w' H1 → va_D A w' → va_S A s.heap H1 locs1 → W p l e R s m args below meth c H1 locs1 cells slots Q (F0 m (pc + 3) ls rest)) :
    W p l e R s m args below meth c H locs cells slots Q (F0 m pc ls st0) := by
  have hFc := k_sub hD hS hA
  refine va_callv (va_runS (As := As) (rest := rest) S (hM H.size) cw ⟨k_blind hzz, k_pre hzz hP hK hD hS hA hZ⟩ rfl hn hsize hst hW hdg hf) hS (fun q _ h => hFc q h) hFc (fun u1 t H1 locs1 ht hvm hw hB hz1 hk1 hS1 => ?_)
  obtain ⟨hP1, hK1, hD1⟩ := hB
  rw [ht] at hP1
  exact kk H1 locs1 hP1 (hD1.weaken (fun _ _ _ h => hFc _ h)) hS1
end KC
end
section
/-! contracts of methods that may throw: code 0: it answers; 1, 2, 3: it throws, the cells stay apart and become w' -/
def xnm (k : Nat) : String := if k = 1 then "java/lang/IllegalArgumentException" else if k = 2 then "java/lang/IllegalStateException" else "java/util/NoSuchElementException"
abbrev xqI (D : va_G) (cl : List vw_C) (tys : List (ClassId × FieldType)) (w' : va_W) (code : Nat) (r : Int32) (A : Nat → Prop) : Array Value → State → Outcome → State → Prop :=
  va_Qi (fun (r2 : Int32) (_ : Unit) => r2 = r ∧ code = 0) (fun _ t => va_P D cl w' t.heap ∧ va_K D cl tys t ∧ va_D A w') A
abbrev xqV (D : va_G) (cl : List vw_C) (tys : List (ClassId × FieldType)) (w' : va_W) (code : Nat) (A : Nat → Prop) : Array Value → State → Outcome → State → Prop :=
  va_Qv (fun (_ : Unit) => code = 0) (fun _ t => va_P D cl w' t.heap ∧ va_K D cl tys t ∧ va_D A w') A
abbrev xxX (D : va_G) (cl : List vw_C) (tys : List (ClassId × FieldType)) (w' : va_W) (code : Nat) (A : Nat → Prop) : String → State → State → Prop :=
  vx_X (fun (_ : Unit) => ¬ code = 0) (fun E _ t => E = xnm code ∧ va_P D cl w' t.heap ∧ va_K D cl tys t ∧ va_D A w') A
def txI (l : Launch) (D : va_G) (cl : List vw_C) (tys : List (ClassId × FieldType)) (zz : (Nat → Prop) → State → Heap → Prop) (y : MethodName) (ws : List Cond) (rm : Room) (av : List Value) (w : va_W) (code : Nat) (r : Int32) (w' : va_W) (mc ms : Nat) : Prop :=
  ∀ sz : Nat, vx_Met l y ws rm (va_Pc av (ppW D cl tys zz w sz)) (xqI D cl tys w' code r (va_A w sz)) (xxX D cl tys w' code (va_A w sz)) mc ms (va_A w sz)
def txV (l : Launch) (D : va_G) (cl : List vw_C) (tys : List (ClassId × FieldType)) (zz : (Nat → Prop) → State → Heap → Prop) (y : MethodName) (ws : List Cond) (rm : Room) (av : List Value) (w : va_W) (code : Nat) (w' : va_W) (mc ms : Nat) : Prop :=
  ∀ sz : Nat, vx_Met l y ws rm (va_Pc av (ppW D cl tys zz w sz)) (xqV D cl tys w' code (va_A w sz)) (xxX D cl tys w' code (va_A w sz)) mc ms (va_A w sz)
section KX
variable {p : Program} {l : Launch} {e : Env} {R : Room} {s : State} {m : MethodId} {args : Array Value} {below : List Frame} {meth : Method} {c : Code} {H : Heap} {locs : List Loc} {cells slots : Nat} {Q : State → Prop}
variable {D : va_G} {cl : List vw_C} {tys : List (ClassId × FieldType)} {zz : (Nat → Prop) → State → Heap → Prop} {A : Nat → Prop} {w w' : va_W} {r : Int32} {code mc ms : Nat}
variable {y : MethodName} {bytes cc : ByteArray} {maxL nL n index pc : Nat} {ret : Option FieldType} {ws Ts : List Cond} {rm : Room} {own C host : String} {b : Addr} {As rest st0 : List Value} {ls : Array Slot}
theorem kx_callVi (hzz : Zok zz) (S : CallFix p m c cc nL s args Ts own) (hM : txI l D cl tys zz y ws rm (.ref b :: As) w code r w' mc ms) (cw : CallW R s args own C index y bytes maxL ret ws rm mc ms n) (hrv : ∃ cellB : Cell, H[b]? = some cellB ∧ cellB.vm.isStatics = false ∧ s.vm.findClass C = some cellB.cls)
    (hn : As.length = n) (hsize : ls.size = nL) (hst : st0 = As.reverse ++ .ref b :: rest) (hW : 2 * (F0 m pc ls st0).monitorRoom + (rest.map fun v => v.category).sum ≤ 8) (hdg : decode cc pc = .ok (.invokevirtual index, 3)) (hf : cells + mc ≤ R.cells ∧ slots + ms ≤ R.slots)
    (hP : va_P D cl w H) (hK : va_K D cl tys s) (hD : va_D A w) (hS : va_S A s.heap H locs) (hA : ∀ q : Nat, s.heap.size ≤ q → A q) (hZ : zz A s s.heap)
    (kx : ¬ code = 0 → ∀ (ce : Cell) (q9 : Addr) (H1 : Heap) (locs1 : List Loc), va_P D cl w' H1 → va_D A w' → va_S A s.heap H1 locs1 → H1[q9]? = some ce → ce.vm = .none → s.vm.findClass (xnm code) = some ce.cls → vx_W p l e R s m args below meth c H1 locs1 (cells + mc) (slots + ms) Q (F0 m pc ls rest) q9)
    (kk : code = 0 → ∀ (H1 : Heap) (locs1 : List Loc), va_P D cl w' H1 → va_D A w' → va_S A s.heap H1 locs1 → W p l e R s m args below meth c H1 locs1 (cells + mc) (slots + ms) Q (F0 m (pc + 3) ls (.int r :: rest))) :
    W p l e R s m args below meth c H locs cells slots Q (F0 m pc ls st0) := by
  have hFc := k_sub hD hS hA
  refine vx_calli (vx_runV (As := As) (rest := rest) S (hM H.size) cw ⟨k_blind hzz, hrv, k_pre hzz hP hK hD hS hA hZ⟩ rfl hn hsize hst hW hdg hf) hS (fun q _ h => hFc q h) hFc (fun q _ h => hFc q h) (fun E ce q9 u t H1 locs1 ht hvm hpx hB hz1 hk1 hS1 hce hcv hcl => ?_) (fun r1 u1 t H1 locs1 ht hvm hw hB hz1 hk1 hS1 => ?_)
  · obtain ⟨eE, hP1, hK1, hD1⟩ := hB
    rw [ht] at hP1
    subst eE
    exact kx hpx ce q9 H1 locs1 hP1 (hD1.weaken (fun _ _ _ h => hFc _ h)) hS1 hce hcv hcl
  · obtain ⟨hP1, hK1, hD1⟩ := hB
    rw [ht] at hP1
    obtain ⟨hw, hc⟩ := hw
    subst hw
    exact kk hc H1 locs1 hP1 (hD1.weaken (fun _ _ _ h => hFc _ h)) hS1
theorem kx_callVv (hzz : Zok zz) (S : CallFix p m c cc nL s args Ts own) (hM : txV l D cl tys zz y ws rm (.ref b :: As) w code w' mc ms) (cw : CallW R s args own C index y bytes maxL ret ws rm mc ms n) (hrv : ∃ cellB : Cell, H[b]? = some cellB ∧ cellB.vm.isStatics = false ∧ s.vm.findClass C = some cellB.cls)
    (hn : As.length = n) (hsize : ls.size = nL) (hst : st0 = As.reverse ++ .ref b :: rest) (hW : 2 * (F0 m pc ls st0).monitorRoom + (rest.map fun v => v.category).sum ≤ 8) (hdg : decode cc pc = .ok (.invokevirtual index, 3)) (hf : cells + mc ≤ R.cells ∧ slots + ms ≤ R.slots)
    (hP : va_P D cl w H) (hK : va_K D cl tys s) (hD : va_D A w) (hS : va_S A s.heap H locs) (hA : ∀ q : Nat, s.heap.size ≤ q → A q) (hZ : zz A s s.heap)
    (kx : ¬ code = 0 → ∀ (ce : Cell) (q9 : Addr) (H1 : Heap) (locs1 : List Loc), va_P D cl w' H1 → va_D A w' → va_S A s.heap H1 locs1 → H1[q9]? = some ce → ce.vm = .none → s.vm.findClass (xnm code) = some ce.cls → vx_W p l e R s m args below meth c H1 locs1 (cells + mc) (slots + ms) Q (F0 m pc ls rest) q9)
    (kk : code = 0 → ∀ (H1 : Heap) (locs1 : List Loc), va_P D cl w' H1 → va_D A w' → va_S A s.heap H1 locs1 → W p l e R s m args below meth c H1 locs1 (cells + mc) (slots + ms) Q (F0 m (pc + 3) ls rest)) :
    W p l e R s m args below meth c H locs cells slots Q (F0 m pc ls st0) := by
  have hFc := k_sub hD hS hA
  refine vx_callv (vx_runV (As := As) (rest := rest) S (hM H.size) cw ⟨k_blind hzz, hrv, k_pre hzz hP hK hD hS hA hZ⟩ rfl hn hsize hst hW hdg hf) hS (fun q _ h => hFc q h) hFc (fun q _ h => hFc q h) (fun E ce q9 u t H1 locs1 ht hvm hpx hB hz1 hk1 hS1 hce hcv hcl => ?_) (fun u1 t H1 locs1 ht hvm hw hB hz1 hk1 hS1 => ?_)
  · obtain ⟨eE, hP1, hK1, hD1⟩ := hB
    rw [ht] at hP1
    subst eE
    exact kx hpx ce q9 H1 locs1 hP1 (hD1.weaken (fun _ _ _ h => hFc _ h)) hS1 hce hcv hcl
  · obtain ⟨hP1, hK1, hD1⟩ := hB
    rw [ht] at hP1
    exact kk hw H1 locs1 hP1 (hD1.weaken (fun _ _ _ h => hFc _ h)) hS1
theorem kx_callSv (hzz : Zok zz) (S : CallFix p m c cc nL s args Ts own) (hM : txV l D cl tys zz y ws rm As w code w' mc ms) (cw : CallB R s args own index y bytes maxL ret ws rm mc ms n ∧ (Cond.static y).before args s = true)
    (hn : As.length = n) (hsize : ls.size = nL) (hst : st0 = As.reverse ++ rest) (hW : 2 * (F0 m pc ls st0).monitorRoom + (rest.map fun v => v.category).sum ≤ 8) (hdg : decode cc pc = .ok (.invokestatic index, 3)) (hf : cells + mc ≤ R.cells ∧ slots + ms ≤ R.slots)
    (hP : va_P D cl w H) (hK : va_K D cl tys s) (hD : va_D A w) (hS : va_S A s.heap H locs) (hA : ∀ q : Nat, s.heap.size ≤ q → A q) (hZ : zz A s s.heap)
    (kx : ¬ code = 0 → ∀ (ce : Cell) (q9 : Addr) (H1 : Heap) (locs1 : List Loc), va_P D cl w' H1 → va_D A w' → va_S A s.heap H1 locs1 → H1[q9]? = some ce → ce.vm = .none → s.vm.findClass (xnm code) = some ce.cls → vx_W p l e R s m args below meth c H1 locs1 (cells + mc) (slots + ms) Q (F0 m pc ls rest) q9)
    (kk : code = 0 → ∀ (H1 : Heap) (locs1 : List Loc), va_P D cl w' H1 → va_D A w' → va_S A s.heap H1 locs1 → W p l e R s m args below meth c H1 locs1 (cells + mc) (slots + ms) Q (F0 m (pc + 3) ls rest)) :
    W p l e R s m args below meth c H locs cells slots Q (F0 m pc ls st0) := by
  have hFc := k_sub hD hS hA
  refine vx_callv (vx_runS (As := As) (rest := rest) S (hM H.size) cw ⟨k_blind hzz, k_pre hzz hP hK hD hS hA hZ⟩ rfl hn hsize hst hW hdg hf) hS (fun q _ h => hFc q h) hFc (fun q _ h => hFc q h) (fun E ce q9 u t H1 locs1 ht hvm hpx hB hz1 hk1 hS1 hce hcv hcl => ?_) (fun u1 t H1 locs1 ht hvm hw hB hz1 hk1 hS1 => ?_)
  · obtain ⟨eE, hP1, hK1, hD1⟩ := hB
    rw [ht] at hP1
    subst eE
    exact kx hpx ce q9 H1 locs1 hP1 (hD1.weaken (fun _ _ _ h => hFc _ h)) hS1 hce hcv hcl
  · obtain ⟨hP1, hK1, hD1⟩ := hB
    rw [ht] at hP1
    exact kk hw H1 locs1 hP1 (hD1.weaken (fun _ _ _ h => hFc _ h)) hS1
end KX
end
section
/-! constructors: fresh cells come, at addresses that the contract names; array classes are the ones known at the start -/
theorem k_arr {args : Array Value} {s : State} {ty : FieldType} (h : (Cond.arrayClass ty).before args s = true) : ∃ cA : ClassId, ArrOfT s cA ty ∧ s.vm.findClass ("[" ++ ty.toString) = some cA := by
  obtain ⟨cA, kA, comp, h1, h2, h3⟩ := Cond.arrayClass_spec h
  exact ⟨cA, fun n z => ⟨fun k h => (by cases h), kA, h2, comp, h3⟩, h1⟩
/-- the constructor's own cells w become W' a, for some addresses a -/
def tcN (l : Launch) (D : va_G) (cl : List vw_C) (tys : List (ClassId × FieldType)) (zz : (Nat → Prop) → State → Heap → Prop) (y : MethodName) (ws : List Cond) (rm : Room) (av : List Value) (w : va_W) (W' : (Nat → Nat) → va_W) (mc ms : Nat) : Prop :=
  ∀ sz : Nat, Met l y ws rm (va_Pc av (ppW D cl tys zz w sz)) (va_Qv (fun (_ : Nat → Nat) => True) (fun a t => va_P D cl (W' a) t.heap ∧ va_K D cl tys t ∧ va_D (va_A w sz) (W' a)) (va_A w sz)) mc ms (va_A w sz)
section KN
variable {p : Program} {l : Launch} {e : Env} {R : Room} {s : State} {m : MethodId} {args : Array Value} {below : List Frame} {meth : Method} {c : Code} {H : Heap} {locs : List Loc} {cells slots : Nat} {Q : State → Prop}
variable {D : va_G} {cl : List vw_C} {tys : List (ClassId × FieldType)} {zz : (Nat → Prop) → State → Heap → Prop} {A : Nat → Prop} {w w' wr : va_W} {r : Int32} {mc ms : Nat}
variable {y : MethodName} {bytes cc : ByteArray} {maxL nL n index pc : Nat} {ret : Option FieldType} {ws Ts : List Cond} {rm : Room} {own C host : String} {b : Addr} {As rest st0 : List Value} {ls : Array Slot}
theorem k_newa (hexec : p.tables.exec = Jvm.exec) (hb : c.code = cc) {atype : ArrayType} {ty : FieldType} (harr : (Cond.arrayClass ty).before args s = true) (hty : newarray.typeOf atype = ty) (hra : ∀ (U : State) (cA : ClassId), va_RA U cA ty = (U.vm.findClass ("[" ++ ty.toString) = some cA)) (t0 : Nat) {cI : ClassId} (ht : tys[t0]? = some (cI, ty))
    (hK : va_K D cl tys s) (hP : va_P D cl w H) (hD : va_D A w) (hS : va_S A s.heap H locs) (hA : ∀ q : Nat, s.heap.size ≤ q → A q)
    {k : Int32} {N' : Nat} {a0 : vp_A} (ha : ∀ cA : ClassId, vp_cell cA a0 = arrV cA N' (fun _ => defaultValue ty)) (hn : ¬ k < 0) (hN : k.toNatClampNeg = N') (hbytes : N' * componentBytes ty ≤ 536870912) (hcells : cells + 1 ≤ R.cells) (hslots : slots + N' ≤ R.slots) (hdg : decode cc pc = .ok (.newarray atype, 2))
    (kk : ∀ (q : Nat) (H1 : Heap), va_P D cl (w ++ [(q, .inl (cI, a0))]) H1 → va_D A (w ++ [(q, .inl (cI, a0))]) → va_S A s.heap H1 locs →
      W p l e R s m args below meth c H1 locs (cells + 1) (slots + N') Q (F0 m (pc + 2) ls (.ref q :: rest))) : W p l e R s m args below meth c H locs cells slots Q (F0 m pc ls (.int k :: rest)) := by
  refine va_newa hexec hb (by rw [hty]; exact harr) hty hK hP hD hS hA ha hn hN hbytes hcells hslots hdg (fun q cA H1 hK1 hP1 hD1 hS1 => ?_)
  have h1 := (hK1.2 tys.length (cA, ty) (by simp)).2
  have h2 := (hK.2 t0 (cI, ty) ht).2
  rw [hra] at h1 h2
  have e9 : cA = cI := Option.some.inj (h1.symm.trans h2)
  subst e9
  exact kk q H1 hP1 hD1 hS1
theorem k_subr (hD : va_D A (wr ++ w)) (hS : va_S A s.heap H locs) (hA : ∀ q : Nat, s.heap.size ≤ q → A q) : ∀ q, va_A w H.size q → A q := by
  intro q hq
  rcases hq with ⟨k, e, hk⟩ | hq
  · exact hD.2 (wr.length + k) _ (by rw [List.getElem?_append_right (Nat.le_add_right _ _), Nat.add_sub_cancel_left]; exact hk)
  · exact hA q (Nat.le_trans hS.1 hq)
theorem k_Pr (hP : va_P D cl (wr ++ w) H) : va_P D cl w H := fun k q hk => hP (wr.length + k) q (by rw [List.getElem?_append_right (Nat.le_add_right _ _), Nat.add_sub_cancel_left]; exact hk)
theorem k_lt {L1 L2 : va_W} {k : Nat} {q : Nat × va_E} (hk : L1[k]? = some q) : (L1 ++ L2)[k]? = some q := by
  have h := (List.getElem?_eq_some_iff.mp hk).1
  rw [List.getElem?_append_left h]
  exact hk
theorem k_Pl (hP : va_P D cl (wr ++ w) H) : va_P D cl wr H := fun k q hk => hP k q (k_lt hk)
theorem k_Dr (hD : va_D A (wr ++ w)) : va_D A w := by
  refine ⟨fun i j p q hi hj h => ?_, fun k q hk => hD.2 (wr.length + k) q (by rw [List.getElem?_append_right (Nat.le_add_right _ _), Nat.add_sub_cancel_left]; exact hk)⟩
  have := hD.1 (wr.length + i) (wr.length + j) p q (by rw [List.getElem?_append_right (Nat.le_add_right _ _), Nat.add_sub_cancel_left]; exact hi) (by rw [List.getElem?_append_right (Nat.le_add_right _ _), Nat.add_sub_cancel_left]; exact hj) h
  omega
theorem k_Dl (hD : va_D A (wr ++ w)) : va_D A wr := ⟨fun i j p q hi hj h => hD.1 i j p q (k_lt hi) (k_lt hj) h, fun k q hk => hD.2 k q (k_lt hk)⟩
/-- what a callee did to its own cells w, beside the rest wr -/
theorem k_frame {H1 : Heap} (hP : va_P D cl (wr ++ w) H) (hD : va_D A (wr ++ w)) (hF : ∀ q, va_A w H.size q → A q) (hk : ∀ q : Nat, q < H.size → ¬ va_A w H.size q → H1[q]? = H[q]?) (hP1 : va_P D cl w' H1) (hD1 : va_D (va_A w H.size) w') : va_P D cl (wr ++ w') H1 ∧ va_D A (wr ++ w') := by
  have hout : ∀ (k : Nat) (q : Nat × va_E), wr[k]? = some q → q.1 < H.size ∧ ¬ va_A w H.size q.1 := by
    intro k q hq
    have h1 : q.1 < H.size := (k_Pl hP k q hq).lt
    refine ⟨h1, ?_⟩
    rintro (⟨j, e, hj⟩ | h)
    · have h2 := hD.1 k (wr.length + j) q (q.1, e) (k_lt hq) (by rw [List.getElem?_append_right (Nat.le_add_right _ _), Nat.add_sub_cancel_left]; exact hj) rfl
      have h3 := (List.getElem?_eq_some_iff.mp hq).1
      omega
    · omega
  refine ⟨((k_Pl hP).kept (fun k q hq => hk q.1 (hout k q hq).1 (hout k q hq).2)).app hP1, (k_Dl hD).app (hD1.weaken (fun _ _ _ h => hF _ h)) ?_⟩
  intro i j p q hi hj h
  have h1 := (hout i p hi).2
  rw [h] at h1
  exact h1 (hD1.2 j q hj)
theorem k_init (hzz : Zok zz) {W' : (Nat → Nat) → va_W} (hrun : va_Run p l e R s m args below meth c H locs cells slots mc ms (F0 m pc ls st0) rest (va_Qv (fun (_ : Nat → Nat) => True) (fun a t => va_P D cl (W' a) t.heap ∧ va_K D cl tys t ∧ va_D (va_A w H.size) (W' a)) (va_A w H.size) (Value.ref b :: As).toArray) (va_A w H.size))
    (hP : va_P D cl (wr ++ w) H) (hD : va_D A (wr ++ w)) (hS : va_S A s.heap H locs) (hA : ∀ q : Nat, s.heap.size ≤ q → A q)
    (kk : ∀ (a : Nat → Nat) (H1 : Heap) (locs1 : List Loc), va_P D cl (wr ++ W' a) H1 → va_D A (wr ++ W' a) → va_S A s.heap H1 locs1 → W p l e R s m args below meth c H1 locs1 (cells + mc) (slots + ms) Q (F0 m (pc + 3) ls rest)) :
    W p l e R s m args below meth c H locs cells slots Q (F0 m pc ls st0) := by
  have hFc := k_subr (wr := wr) hD hS hA
  refine va_callv hrun hS (fun q _ h => hFc q h) hFc (fun a t H1 locs1 ht hvm hw hB hz1 hk1 hS1 => ?_)
  obtain ⟨hP1, hK1, hD1⟩ := hB
  rw [ht] at hP1
  obtain ⟨hP2, hD2⟩ := k_frame hP hD hFc hk1 hP1 hD1
  exact kk a H1 locs1 hP2 hD2 hS1
end KN
end
section
/-! worlds in any order, and calls whose callee knows a part of the world only -/
theorem k_P_iff {D : va_G} {cl : List vw_C} {ws : va_W} {H : Heap} : va_P D cl ws H ↔ ∀ q ∈ ws, va_at D cl q H := by
  constructor
  · intro h q hq
    obtain ⟨k, hk⟩ := List.mem_iff_getElem?.mp hq
    exact h k q hk
  · intro h k q hk
    exact h q (List.mem_of_getElem? hk)
theorem k_D_iff {A : Nat → Prop} {ws : va_W} : va_D A ws ↔ ws.Pairwise (fun p q => p.1 ≠ q.1) ∧ ∀ q ∈ ws, A q.1 := by
  constructor
  · rintro ⟨h1, h2⟩
    refine ⟨List.pairwise_iff_getElem.mpr (fun i j hi hj hij h => ?_), fun q hq => ?_⟩
    · have h3 := h1 i j _ _ (List.getElem?_eq_getElem hi) (List.getElem?_eq_getElem hj) h
      omega
    · obtain ⟨k, hk⟩ := List.mem_iff_getElem?.mp hq
      exact h2 k q hk
  · rintro ⟨h1, h2⟩
    have h3 := List.pairwise_iff_getElem.mp h1
    refine ⟨fun i j p q hi hj h => ?_, fun k q hk => h2 q (List.mem_of_getElem? hk)⟩
    obtain ⟨ai, rfl⟩ := List.getElem?_eq_some_iff.mp hi
    obtain ⟨aj, rfl⟩ := List.getElem?_eq_some_iff.mp hj
    rcases Nat.lt_trichotomy i j with c | c | c
    · exact absurd h (h3 i j ai aj c)
    · exact c
    · exact absurd h.symm (h3 j i aj ai c)
theorem k_P_perm {D : va_G} {cl : List vw_C} {ws ws' : va_W} {H : Heap} (hp : ws.Perm ws') (h : va_P D cl ws H) : va_P D cl ws' H := k_P_iff.mpr (fun q hq => k_P_iff.mp h q (hp.mem_iff.mpr hq))
theorem k_D_perm {A : Nat → Prop} {ws ws' : va_W} (hp : ws.Perm ws') (h : va_D A ws) : va_D A ws' := by
  obtain ⟨h1, h2⟩ := k_D_iff.mp h
  exact k_D_iff.mpr ⟨(hp.pairwise_iff (fun h => Ne.symm h)).mp h1, fun q hq => h2 q (hp.mem_iff.mpr hq)⟩
end
section
theorem slX3_discardImage : Cond.selects "ThumbForge" ⟨"ThumbForge", "discardImage", "()V"⟩ ⟨"ThumbForge", "discardImage", "()V"⟩ ∈ tbG := tb_sel (q := (⟨"ThumbForge", "discardImage", "()V"⟩, 3)) (by decide +kernel)
theorem slX3_append : Cond.selects "ThumbForge" ⟨"ThumbForge", "append", "(IIIIII)I"⟩ ⟨"ThumbForge", "append", "(IIIIII)I"⟩ ∈ tbG := tb_sel (q := (⟨"ThumbForge", "append", "(IIIIII)I"⟩, 3)) (by decide +kernel)
theorem slX0_writeCode : Cond.selects "ThumbForge$Image" ⟨"ThumbForge$Image", "writeCode", "()V"⟩ ⟨"ThumbForge$Image", "writeCode", "()V"⟩ ∈ tbG := tb_sel (q := (⟨"ThumbForge$Image", "writeCode", "()V"⟩, 9)) (by decide +kernel)
theorem slX0_writeLiteral : Cond.selects "ThumbForge$Image" ⟨"ThumbForge$Image", "writeLiteral", "(II)V"⟩ ⟨"ThumbForge$Image", "writeLiteral", "(II)V"⟩ ∈ tbG := tb_sel (q := (⟨"ThumbForge$Image", "writeLiteral", "(II)V"⟩, 9)) (by decide +kernel)
theorem slX0_literalIndex : Cond.selects "ThumbForge$Image" ⟨"ThumbForge$Image", "literalIndex", "(I)I"⟩ ⟨"ThumbForge$Image", "literalIndex", "(I)I"⟩ ∈ tbG := tb_sel (q := (⟨"ThumbForge$Image", "literalIndex", "(I)I"⟩, 9)) (by decide +kernel)
theorem slX0_put : Cond.selects "ThumbForge$Image" ⟨"ThumbForge$Image", "put", "(I)V"⟩ ⟨"ThumbForge$Image", "put", "(I)V"⟩ ∈ tbG := tb_sel (q := (⟨"ThumbForge$Image", "put", "(I)V"⟩, 9)) (by decide +kernel)
theorem slX0_writeInstruction : Cond.selects "ThumbForge$Image" ⟨"ThumbForge$Image", "writeInstruction", "(I)V"⟩ ⟨"ThumbForge$Image", "writeInstruction", "(I)V"⟩ ∈ tbG := tb_sel (q := (⟨"ThumbForge$Image", "writeInstruction", "(I)V"⟩, 9)) (by decide +kernel)
theorem slX0_writeNumber : Cond.selects "ThumbForge$Image" ⟨"ThumbForge$Image", "writeNumber", "(II)V"⟩ ⟨"ThumbForge$Image", "writeNumber", "(II)V"⟩ ∈ tbG := tb_sel (q := (⟨"ThumbForge$Image", "writeNumber", "(II)V"⟩, 9)) (by decide +kernel)
theorem slX0_keep : Cond.selects "ThumbForge$Image" ⟨"ThumbForge$Image", "keep", "(I)V"⟩ ⟨"ThumbForge$Image", "keep", "(I)V"⟩ ∈ tbG := tb_sel (q := (⟨"ThumbForge$Image", "keep", "(I)V"⟩, 9)) (by decide +kernel)
theorem slX0_writeCompute : Cond.selects "ThumbForge$Image" ⟨"ThumbForge$Image", "writeCompute", "(IIII)V"⟩ ⟨"ThumbForge$Image", "writeCompute", "(IIII)V"⟩ ∈ tbG := tb_sel (q := (⟨"ThumbForge$Image", "writeCompute", "(IIII)V"⟩, 9)) (by decide +kernel)
theorem slX0_fetch : Cond.selects "ThumbForge$Image" ⟨"ThumbForge$Image", "fetch", "(II)I"⟩ ⟨"ThumbForge$Image", "fetch", "(II)I"⟩ ∈ tbG := tb_sel (q := (⟨"ThumbForge$Image", "fetch", "(II)I"⟩, 9)) (by decide +kernel)
theorem slX0_copyTo0 : Cond.selects "ThumbForge$Image" ⟨"ThumbForge$Image", "copyTo0", "(I)V"⟩ ⟨"ThumbForge$Image", "copyTo0", "(I)V"⟩ ∈ tbG := tb_sel (q := (⟨"ThumbForge$Image", "copyTo0", "(I)V"⟩, 9)) (by decide +kernel)
theorem slX0_writeWordChoice : Cond.selects "ThumbForge$Image" ⟨"ThumbForge$Image", "writeWordChoice", "(I)V"⟩ ⟨"ThumbForge$Image", "writeWordChoice", "(I)V"⟩ ∈ tbG := tb_sel (q := (⟨"ThumbForge$Image", "writeWordChoice", "(I)V"⟩, 9)) (by decide +kernel)
theorem slX0_writeJump : Cond.selects "ThumbForge$Image" ⟨"ThumbForge$Image", "writeJump", "(I)V"⟩ ⟨"ThumbForge$Image", "writeJump", "(I)V"⟩ ∈ tbG := tb_sel (q := (⟨"ThumbForge$Image", "writeJump", "(I)V"⟩, 9)) (by decide +kernel)
theorem slX0_distance : Cond.selects "ThumbForge$Image" ⟨"ThumbForge$Image", "distance", "(II)I"⟩ ⟨"ThumbForge$Image", "distance", "(II)I"⟩ ∈ tbG := tb_sel (q := (⟨"ThumbForge$Image", "distance", "(II)I"⟩, 9)) (by decide +kernel)
theorem slX0_writeBranch : Cond.selects "ThumbForge$Image" ⟨"ThumbForge$Image", "writeBranch", "(IIIIZ)V"⟩ ⟨"ThumbForge$Image", "writeBranch", "(IIIIZ)V"⟩ ∈ tbG := tb_sel (q := (⟨"ThumbForge$Image", "writeBranch", "(IIIIZ)V"⟩, 9)) (by decide +kernel)
theorem slX0_lengthenBranches : Cond.selects "ThumbForge$Image" ⟨"ThumbForge$Image", "lengthenBranches", "()Z"⟩ ⟨"ThumbForge$Image", "lengthenBranches", "()Z"⟩ ∈ tbG := tb_sel (q := (⟨"ThumbForge$Image", "lengthenBranches", "()Z"⟩, 9)) (by decide +kernel)
theorem slX0_reaches : Cond.selects "ThumbForge$Image" ⟨"ThumbForge$Image", "reaches", "(I)Z"⟩ ⟨"ThumbForge$Image", "reaches", "(I)Z"⟩ ∈ tbG := tb_sel (q := (⟨"ThumbForge$Image", "reaches", "(I)Z"⟩, 9)) (by decide +kernel)
theorem slX0_writePool : Cond.selects "ThumbForge$Image" ⟨"ThumbForge$Image", "writePool", "()V"⟩ ⟨"ThumbForge$Image", "writePool", "()V"⟩ ∈ tbG := tb_sel (q := (⟨"ThumbForge$Image", "writePool", "()V"⟩, 9)) (by decide +kernel)
theorem slX1_step : Cond.selects "ThumbForge$Machine" ⟨"ThumbForge$Machine", "step", "()I"⟩ ⟨"ThumbForge$Machine", "step", "()I"⟩ ∈ tbG := tb_sel (q := (⟨"ThumbForge$Machine", "step", "()I"⟩, 9)) (by decide +kernel)
theorem slX1_putOut : Cond.selects "ThumbForge$Machine" ⟨"ThumbForge$Machine", "putOut", "(I)V"⟩ ⟨"ThumbForge$Machine", "putOut", "(I)V"⟩ ∈ tbG := tb_sel (q := (⟨"ThumbForge$Machine", "putOut", "(I)V"⟩, 9)) (by decide +kernel)
theorem slX4_append : Cond.selects "ThumbForgeModel" ⟨"ThumbForgeModel", "append", "(ZIII)I"⟩ ⟨"ThumbForgeModel", "append", "(ZIII)I"⟩ ∈ tbG := tb_sel (q := (⟨"ThumbForgeModel", "append", "(ZIII)I"⟩, 22)) (by decide +kernel)
theorem slX4_isSound : Cond.selects "ThumbForgeModel" ⟨"ThumbForgeModel", "isSound", "()Z"⟩ ⟨"ThumbForgeModel", "isSound", "()Z"⟩ ∈ tbG := tb_sel (q := (⟨"ThumbForgeModel", "isSound", "()Z"⟩, 22)) (by decide +kernel)
theorem slX4_lengthen : Cond.selects "ThumbForgeModel" ⟨"ThumbForgeModel", "lengthen", "()V"⟩ ⟨"ThumbForgeModel", "lengthen", "()V"⟩ ∈ tbG := tb_sel (q := (⟨"ThumbForgeModel", "lengthen", "()V"⟩, 22)) (by decide +kernel)
theorem slX4_layOut : Cond.selects "ThumbForgeModel" ⟨"ThumbForgeModel", "layOut", "()V"⟩ ⟨"ThumbForgeModel", "layOut", "()V"⟩ ∈ tbG := tb_sel (q := (⟨"ThumbForgeModel", "layOut", "()V"⟩, 22)) (by decide +kernel)
theorem slX4_lengthOf : Cond.selects "ThumbForgeModel" ⟨"ThumbForgeModel", "lengthOf", "(I)I"⟩ ⟨"ThumbForgeModel", "lengthOf", "(I)I"⟩ ∈ tbG := tb_sel (q := (⟨"ThumbForgeModel", "lengthOf", "(I)I"⟩, 22)) (by decide +kernel)
theorem slX4_way : Cond.selects "ThumbForgeModel" ⟨"ThumbForgeModel", "way", "(II)I"⟩ ⟨"ThumbForgeModel", "way", "(II)I"⟩ ∈ tbG := tb_sel (q := (⟨"ThumbForgeModel", "way", "(II)I"⟩, 22)) (by decide +kernel)
theorem slX4_literal : Cond.selects "ThumbForgeModel" ⟨"ThumbForgeModel", "literal", "(II)V"⟩ ⟨"ThumbForgeModel", "literal", "(II)V"⟩ ∈ tbG := tb_sel (q := (⟨"ThumbForgeModel", "literal", "(II)V"⟩, 22)) (by decide +kernel)
theorem slX4_emit : Cond.selects "ThumbForgeModel" ⟨"ThumbForgeModel", "emit", "(I)V"⟩ ⟨"ThumbForgeModel", "emit", "(I)V"⟩ ∈ tbG := tb_sel (q := (⟨"ThumbForgeModel", "emit", "(I)V"⟩, 22)) (by decide +kernel)
theorem slX4_emitInstruction : Cond.selects "ThumbForgeModel" ⟨"ThumbForgeModel", "emitInstruction", "(I)V"⟩ ⟨"ThumbForgeModel", "emitInstruction", "(I)V"⟩ ∈ tbG := tb_sel (q := (⟨"ThumbForgeModel", "emitInstruction", "(I)V"⟩, 22)) (by decide +kernel)
theorem slX4_make : Cond.selects "ThumbForgeModel" ⟨"ThumbForgeModel", "make", "(II)V"⟩ ⟨"ThumbForgeModel", "make", "(II)V"⟩ ∈ tbG := tb_sel (q := (⟨"ThumbForgeModel", "make", "(II)V"⟩, 22)) (by decide +kernel)
theorem slX4_keep : Cond.selects "ThumbForgeModel" ⟨"ThumbForgeModel", "keep", "(I)V"⟩ ⟨"ThumbForgeModel", "keep", "(I)V"⟩ ∈ tbG := tb_sel (q := (⟨"ThumbForgeModel", "keep", "(I)V"⟩, 22)) (by decide +kernel)
theorem slX4_emitCompute : Cond.selects "ThumbForgeModel" ⟨"ThumbForgeModel", "emitCompute", "(IIII)V"⟩ ⟨"ThumbForgeModel", "emitCompute", "(IIII)V"⟩ ∈ tbG := tb_sel (q := (⟨"ThumbForgeModel", "emitCompute", "(IIII)V"⟩, 22)) (by decide +kernel)
theorem slX4_fetch : Cond.selects "ThumbForgeModel" ⟨"ThumbForgeModel", "fetch", "(II)I"⟩ ⟨"ThumbForgeModel", "fetch", "(II)I"⟩ ∈ tbG := tb_sel (q := (⟨"ThumbForgeModel", "fetch", "(II)I"⟩, 22)) (by decide +kernel)
theorem slX4_copy : Cond.selects "ThumbForgeModel" ⟨"ThumbForgeModel", "copy", "(I)V"⟩ ⟨"ThumbForgeModel", "copy", "(I)V"⟩ ∈ tbG := tb_sel (q := (⟨"ThumbForgeModel", "copy", "(I)V"⟩, 22)) (by decide +kernel)
theorem slX4_emitPlace : Cond.selects "ThumbForgeModel" ⟨"ThumbForgeModel", "emitPlace", "(I)V"⟩ ⟨"ThumbForgeModel", "emitPlace", "(I)V"⟩ ∈ tbG := tb_sel (q := (⟨"ThumbForgeModel", "emitPlace", "(I)V"⟩, 22)) (by decide +kernel)
theorem slX4_emitJump : Cond.selects "ThumbForgeModel" ⟨"ThumbForgeModel", "emitJump", "(I)V"⟩ ⟨"ThumbForgeModel", "emitJump", "(I)V"⟩ ∈ tbG := tb_sel (q := (⟨"ThumbForgeModel", "emitJump", "(I)V"⟩, 22)) (by decide +kernel)
theorem slX4_emitBranch : Cond.selects "ThumbForgeModel" ⟨"ThumbForgeModel", "emitBranch", "(I)V"⟩ ⟨"ThumbForgeModel", "emitBranch", "(I)V"⟩ ∈ tbG := tb_sel (q := (⟨"ThumbForgeModel", "emitBranch", "(I)V"⟩, 22)) (by decide +kernel)
theorem slX4_act : Cond.selects "ThumbForgeModel" ⟨"ThumbForgeModel", "act", "(I)I"⟩ ⟨"ThumbForgeModel", "act", "(I)I"⟩ ∈ tbG := tb_sel (q := (⟨"ThumbForgeModel", "act", "(I)I"⟩, 22)) (by decide +kernel)
abbrev tyT (cI cZ : ClassId) : List (ClassId × FieldType) := [(cI, .int), (cZ, .boolean)]
/-- the class's cells: fields u.1 k: 0 count, 1 literalCount, 2 poolPlace, 3 length, 4 made, 5 outCount, 6 mode, 7 trap, 8 next;
rows u.2 k: 0 kinds .. 5 numbers, 6 halfwords, 7 places, 8 isLong, 9 literals, 10 words, 11 values, 12 kept -/
def wT (ad : Nat → Nat) (cI cZ : ClassId) (u : St) : va_W := [(ad 0, .inr (3, [.ref (ad 1), .ref (ad 2), .ref (ad 3)])), (ad 1, .inr (2, [.ref (ad 4), .ref (ad 5), .ref (ad 6), .ref (ad 7), .ref (ad 8), .ref (ad 9), .int (u.1 0)])), (ad 2, .inr (0, [.ref (ad 1), .ref (ad 10), .ref (ad 11), .ref (ad 12), .ref (ad 13), .int (u.1 1), .int (u.1 2), .int (u.1 3), .int (u.1 4)])), (ad 3, .inr (1, [.ref (ad 1), .ref (ad 2), .ref (ad 14), .ref (ad 15), .ref (ad 16), .int (u.1 5), .int (u.1 6), .int (u.1 7), .int (u.1 8)])), (ad 4, .inl (cI, 48, .inl (u.2 0))), (ad 5, .inl (cI, 48, .inl (u.2 1))), (ad 6, .inl (cI, 48, .inl (u.2 2))), (ad 7, .inl (cI, 48, .inl (u.2 3))), (ad 8, .inl (cI, 48, .inl (u.2 4))), (ad 9, .inl (cI, 48, .inl (u.2 5))), (ad 10, .inl (cI, 388, .inl (u.2 6))), (ad 11, .inl (cI, 49, .inl (u.2 7))), (ad 12, .inl (cZ, 48, .inl (u.2 8))), (ad 13, .inl (cI, 49, .inl (u.2 9))), (ad 14, .inl (cI, 8, .inl (u.2 10))), (ad 15, .inl (cI, 8, .inl (u.2 11))), (ad 16, .inl (cI, 16, .inl (u.2 12)))]
def chg : Nat → Int32 := fun j => match j with
  | 0 => 17216 | 1 => 16384 | 2 => 17152 | 3 => 16448 | 4 => 16512 | _ => 16576
def Zst (zz : (Nat → Prop) → State → Heap → Prop) (tS : Nat) : Prop := ∀ (A : Nat → Prop) (U : State) (H : Heap), zz A U H → va_Z "ThumbForge$Image" "CHANGE_0" "[I" (.ref tS) A U H ∧ va_T .int tS 6 (fun j => .int (chg j)) A U H
end
section
def p_neverGoesOnBehind (x0 : Int32) : Int32 := (if x0 = 4 then 1 else (if x0 = 7 then 1 else (if x0 = 8 then 1 else 0)))
set_option maxHeartbeats 4000000 in
set_option maxRecDepth 100000 in
theorem c_neverGoesOnBehind (l : Launch) (D : va_G) (ad : Nat → Nat) (cI cZ : ClassId) (zz : (Nat → Prop) → State → Heap → Prop) (hzz : Zok zz) (tS : Nat) (hst : Zst zz tS) (w : va_W) (x0 : Int32) : tfI l D vwCl (tyT cI cZ) zz yX2_neverGoesOnBehind wsX2_neverGoesOnBehind ({ frames := 0, cells := 0, slots := 0, locals := 0 } : Room) [.int x0] w (p_neverGoesOnBehind x0) w := by
  intro sz
  refine Met.ofW (cc := cX2_neverGoesOnBehind) (maxL := 1) (ret := (some .boolean)) (by decide) rfl ?_
  intro p e s m args below meth c s₁ B hml hv
  obtain ⟨rfl, hsz, hP, hK, hD0, hZ⟩ := hv
  have hx := B.exec
  have hb := B.bytes
  have hr := B.returns
  have hts := atoms_spec (ws := wsX2_neverGoesOnBehind) B.pre
  have hown : s.vm.findClass RX2 = some m.cls := findClass_of_methodNamed B.named
  have hlocks := B.notSynchronized
  subst hsz
  have hD := hD0.self (sz := s.heap.size)
  generalize hAe : va_A w s.heap.size = A at hD hZ ⊢
  have hA : ∀ q : Nat, s.heap.size ≤ q → A q := fun q h => by rw [← hAe]; exact Or.inr h
  have hS : va_S A s.heap s.heap [] := va_S.rf
  have Cx : cxt p s m ([.int x0] : List Value).toArray meth c cX2_neverGoesOnBehind 1 (some .boolean) wsX2_neverGoesOnBehind RX2 D vwCl (tyT cI cZ) zz A := ⟨hx, hb, hr, hts, hown, hlocks, hml, hK, hA, hZ⟩
  have hl := lv_entry ([.int x0]) (n := 1) (Nat.le_of_ble_eq_true rfl)
  rw [lg_entry_eq]
  generalize (lg_sl ([.int x0]) ++ List.replicate (1 - (lg_sl ([.int x0])).length) Slot.unset).toArray = ls at hl ⊢
  have hl : lv_has ls 1 [(0, .int x0)] := hl
  refine lv_iload_n hx hb dX2_neverGoesOnBehind_0 rfl (lv_at hl 0 rfl) ?_
  refine lv_iconst (v := 4) hx hb dX2_neverGoesOnBehind_1 (by decide) ?_
  refine lv_icmp_eq (tgt := 17) hx hb dX2_neverGoesOnBehind_2 (by decide) (fun c_1 => ?_) (fun c_1 => ?_)
  · skip
    refine lv_iconst (v := 1) hx hb dX2_neverGoesOnBehind_17 (by decide) ?_
    refine lv_goto (tgt := 22) hx hb dX2_neverGoesOnBehind_18 (by decide) ?_
    have e9 : p_neverGoesOnBehind x0 = 1 := by rw [p_neverGoesOnBehind, if_pos c_1]
    rw [e9]
    exact W.zret hx hb hr rfl (fun t ht hW => ⟨⟨_, (), rfl, rfl, by rw [ht]; exact hP, va_K.moved hW.alike hK, hD⟩, hS.F ht⟩) hS.2.2 dX2_neverGoesOnBehind_22
  · skip
    refine lv_iload_n hx hb dX2_neverGoesOnBehind_5 rfl (lv_at hl 0 rfl) ?_
    refine lv_bipush (v := 7) hx hb dX2_neverGoesOnBehind_6 (by decide) ?_
    refine lv_icmp_eq (tgt := 17) hx hb dX2_neverGoesOnBehind_8 (by decide) (fun c_2 => ?_) (fun c_2 => ?_)
    · skip
      refine lv_iconst (v := 1) hx hb dX2_neverGoesOnBehind_17 (by decide) ?_
      refine lv_goto (tgt := 22) hx hb dX2_neverGoesOnBehind_18 (by decide) ?_
      have e9 : p_neverGoesOnBehind x0 = 1 := by rw [p_neverGoesOnBehind, if_neg c_1, if_pos c_2]
      rw [e9]
      exact W.zret hx hb hr rfl (fun t ht hW => ⟨⟨_, (), rfl, rfl, by rw [ht]; exact hP, va_K.moved hW.alike hK, hD⟩, hS.F ht⟩) hS.2.2 dX2_neverGoesOnBehind_22
    · skip
      refine lv_iload_n hx hb dX2_neverGoesOnBehind_11 rfl (lv_at hl 0 rfl) ?_
      refine lv_bipush (v := 8) hx hb dX2_neverGoesOnBehind_12 (by decide) ?_
      refine lv_icmp_ne (tgt := 21) hx hb dX2_neverGoesOnBehind_14 (by decide) (fun c_3 => ?_) (fun c_3 => ?_)
      · skip
        refine lv_iconst (v := 0) hx hb dX2_neverGoesOnBehind_21 (by decide) ?_
        have e9 : p_neverGoesOnBehind x0 = 0 := by rw [p_neverGoesOnBehind, if_neg c_1, if_neg c_2, if_neg c_3]
        rw [e9]
        exact W.zret hx hb hr rfl (fun t ht hW => ⟨⟨_, (), rfl, rfl, by rw [ht]; exact hP, va_K.moved hW.alike hK, hD⟩, hS.F ht⟩) hS.2.2 dX2_neverGoesOnBehind_22
      · skip
        refine lv_iconst (v := 1) hx hb dX2_neverGoesOnBehind_17 (by decide) ?_
        refine lv_goto (tgt := 22) hx hb dX2_neverGoesOnBehind_18 (by decide) ?_
        have e9 : p_neverGoesOnBehind x0 = 1 := by rw [p_neverGoesOnBehind, if_neg c_1, if_neg c_2, if_pos c_3]
        rw [e9]
        exact W.zret hx hb hr rfl (fun t ht hW => ⟨⟨_, (), rfl, rfl, by rw [ht]; exact hP, va_K.moved hW.alike hK, hD⟩, hS.F ht⟩) hS.2.2 dX2_neverGoesOnBehind_22

def p_empty (u : St) : St := sS u 0 0
set_option maxHeartbeats 4000000 in
set_option maxRecDepth 100000 in
theorem c_empty (l : Launch) (D : va_G) (ad : Nat → Nat) (cI cZ : ClassId) (zz : (Nat → Prop) → State → Heap → Prop) (hzz : Zok zz) (tS : Nat) (hst : Zst zz tS) (u : St) : tfV l D vwCl (tyT cI cZ) zz yX2_empty wsX2_empty ({ frames := 0, cells := 0, slots := 0, locals := 0 } : Room) [.ref (ad 1)] (wT ad cI cZ u) (wT ad cI cZ (p_empty u)) := by
  intro sz
  refine Met.ofW (cc := cX2_empty) (maxL := 1) (ret := none) (by decide) rfl ?_
  intro p e s m args below meth c s₁ B hml hv
  obtain ⟨rfl, hsz, hP, hK, hD0, hZ⟩ := hv
  have hx := B.exec
  have hb := B.bytes
  have hr := B.returns
  have hts := atoms_spec (ws := wsX2_empty) B.pre
  have hown : s.vm.findClass RX2 = some m.cls := findClass_of_methodNamed B.named
  have hlocks := B.notSynchronized
  subst hsz
  have hD := hD0.self (sz := s.heap.size)
  generalize hAe : va_A (wT ad cI cZ u) s.heap.size = A at hD hZ ⊢
  have hA : ∀ q : Nat, s.heap.size ≤ q → A q := fun q h => by rw [← hAe]; exact Or.inr h
  have hS : va_S A s.heap s.heap [] := va_S.rf
  have Cx : cxt p s m ([.ref (ad 1)] : List Value).toArray meth c cX2_empty 1 none wsX2_empty RX2 D vwCl (tyT cI cZ) zz A := ⟨hx, hb, hr, hts, hown, hlocks, hml, hK, hA, hZ⟩
  have hl := lv_entry ([.ref (ad 1)]) (n := 1) (Nat.le_of_ble_eq_true rfl)
  rw [lg_entry_eq]
  generalize (lg_sl ([.ref (ad 1)]) ++ List.replicate (1 - (lg_sl ([.ref (ad 1)])).length) Slot.unset).toArray = ls at hl ⊢
  have hl : lv_has ls 1 [(0, .ref (ad 1))] := hl
  refine lv_aload_n hx hb dX2_empty_0 rfl (lv_at hl 0 rfl) ?_
  refine lv_iconst (v := 0) hx hb dX2_empty_1 (by decide) ?_
  refine va_put (ci := 2) (v := .int 0) (ty := .int) (C := RX2) (T := TX2) (N := 7) hx hb hts (ivX2 _) tyX2 tyX2_ok nmX2 hown hK hP hD hS 1 rfl rfl 6 (by decide) (hts _ (tb_c tw_1_44)) (fun _ h9 => h9) rfl (by decide +kernel) rfl rfl (Nat.le_of_ble_eq_true rfl) dX2_empty_2 (fun H locs hP hD hS => ?_)
  have hP : va_P D vwCl (wT ad cI cZ (sS u 0 0)) H := hP
  have hD : va_D A (wT ad cI cZ (sS u 0 0)) := hD
  have e9 : p_empty u = sS u 0 0 := by rw [p_empty]
  rw [e9]
  exact W.vret hx hb hr (fun t ht hW => ⟨⟨(), rfl, trivial, by rw [ht]; exact hP, va_K.moved hW.alike hK, hD⟩, hS.F ht⟩) hS.2.2 dX2_empty_5

def p_add (u : St) (x1 x2 x3 x4 x5 x6 : Int32) : Int32 × St := (u.1 0, sS (sA (sA (sA (sA (sA (sA u 0 (u.1 0) x1) 1 (u.1 0) x2) 2 (u.1 0) x3) 3 (u.1 0) x4) 4 (u.1 0) x5) 5 (u.1 0) x6) 0 ((u.1 0) + 1))
def ok_add (u : St) (x1 x2 x3 x4 x5 x6 : Int32) : Prop := (vp_in (u.1 0) 48 ∧ (vp_in (u.1 0) 48 ∧ (vp_in (u.1 0) 48 ∧ (vp_in (u.1 0) 48 ∧ (vp_in (u.1 0) 48 ∧ (vp_in (u.1 0) 48 ∧ True))))))
set_option maxHeartbeats 4000000 in
set_option maxRecDepth 100000 in
theorem c_add (l : Launch) (D : va_G) (ad : Nat → Nat) (cI cZ : ClassId) (zz : (Nat → Prop) → State → Heap → Prop) (hzz : Zok zz) (tS : Nat) (hst : Zst zz tS) (u : St) (x1 x2 x3 x4 x5 x6 : Int32) (hok : ok_add u x1 x2 x3 x4 x5 x6) : tfI l D vwCl (tyT cI cZ) zz yX2_add wsX2_add ({ frames := 0, cells := 0, slots := 0, locals := 0 } : Room) [.ref (ad 1), .int x1, .int x2, .int x3, .int x4, .int x5, .int x6] (wT ad cI cZ u) (p_add u x1 x2 x3 x4 x5 x6).1 (wT ad cI cZ ((p_add u x1 x2 x3 x4 x5 x6).2)) := by
  intro sz
  unfold ok_add at hok
  refine Met.ofW (cc := cX2_add) (maxL := 8) (ret := (some .int)) (by decide) rfl ?_
  intro p e s m args below meth c s₁ B hml hv
  obtain ⟨rfl, hsz, hP, hK, hD0, hZ⟩ := hv
  have hx := B.exec
  have hb := B.bytes
  have hr := B.returns
  have hts := atoms_spec (ws := wsX2_add) B.pre
  have hown : s.vm.findClass RX2 = some m.cls := findClass_of_methodNamed B.named
  have hlocks := B.notSynchronized
  subst hsz
  have hD := hD0.self (sz := s.heap.size)
  generalize hAe : va_A (wT ad cI cZ u) s.heap.size = A at hD hZ ⊢
  have hA : ∀ q : Nat, s.heap.size ≤ q → A q := fun q h => by rw [← hAe]; exact Or.inr h
  have hS : va_S A s.heap s.heap [] := va_S.rf
  have Cx : cxt p s m ([.ref (ad 1), .int x1, .int x2, .int x3, .int x4, .int x5, .int x6] : List Value).toArray meth c cX2_add 8 (some .int) wsX2_add RX2 D vwCl (tyT cI cZ) zz A := ⟨hx, hb, hr, hts, hown, hlocks, hml, hK, hA, hZ⟩
  have hl := lv_entry ([.ref (ad 1), .int x1, .int x2, .int x3, .int x4, .int x5, .int x6]) (n := 8) (Nat.le_of_ble_eq_true rfl)
  rw [lg_entry_eq]
  generalize (lg_sl ([.ref (ad 1), .int x1, .int x2, .int x3, .int x4, .int x5, .int x6]) ++ List.replicate (8 - (lg_sl ([.ref (ad 1), .int x1, .int x2, .int x3, .int x4, .int x5, .int x6])).length) Slot.unset).toArray = ls at hl ⊢
  have hl : lv_has ls 8 [(0, .ref (ad 1)), (1, .int x1), (2, .int x2), (3, .int x3), (4, .int x4), (5, .int x5), (6, .int x6)] := hl
  refine lv_aload_n hx hb dX2_add_0 rfl (lv_at hl 0 rfl) ?_
  refine va_get (ci := 2) (v := .int (u.1 0)) (C := RX2) (T := TX2) (N := 7) hx hb hts (ivX2 _) hown hK hP 1 rfl rfl 6 (by decide) (hts _ (tb_c tw_1_44)) (fun _ h9 => h9) rfl dX2_add_1 ?_
  refine lv_istore (lv' := [(7, .int (u.1 0)), (0, .ref (ad 1)), (1, .int x1), (2, .int x2), (3, .int x3), (4, .int x4), (5, .int x5), (6, .int x6)]) hx hb dX2_add_4 hl (by decide) rfl (fun ls hl => ?_)
  refine lv_aload_n hx hb dX2_add_6 rfl (lv_at hl 1 rfl) ?_
  refine va_get (ci := 2) (v := .ref (ad 4)) (C := RX2) (T := TX2) (N := 7) hx hb hts (ivX2 _) hown hK hP 1 rfl rfl 0 (by decide) (hts _ (tb_c tw_1_26)) (fun _ h9 => h9) rfl dX2_add_7 ?_
  refine lv_iload hx hb dX2_add_10 (lv_at hl 0 rfl) ?_
  refine lv_iload_n hx hb dX2_add_12 rfl (lv_at hl 2 rfl) ?_
  obtain ⟨h_1, hok⟩ := hok
  refine va_iast hx hb hK hP hD hS 4 0 rfl rfl h_1 dX2_add_13 (fun H locs hP hD hS => ?_)
  have hP : va_P D vwCl (wT ad cI cZ (sA u 0 (u.1 0) x1)) H := hP
  have hD : va_D A (wT ad cI cZ (sA u 0 (u.1 0) x1)) := hD
  refine lv_aload_n hx hb dX2_add_14 rfl (lv_at hl 1 rfl) ?_
  refine va_get (ci := 2) (v := .ref (ad 5)) (C := RX2) (T := TX2) (N := 7) hx hb hts (ivX2 _) hown hK hP 1 rfl rfl 1 (by decide) (hts _ (tb_c tw_1_29)) (fun _ h9 => h9) rfl dX2_add_15 ?_
  refine lv_iload hx hb dX2_add_18 (lv_at hl 0 rfl) ?_
  refine lv_iload_n hx hb dX2_add_20 rfl (lv_at hl 3 rfl) ?_
  obtain ⟨h_2, hok⟩ := hok
  refine va_iast hx hb hK hP hD hS 5 0 rfl rfl h_2 dX2_add_21 (fun H locs hP hD hS => ?_)
  have hP : va_P D vwCl (wT ad cI cZ (sA (sA u 0 (u.1 0) x1) 1 (u.1 0) x2)) H := hP
  have hD : va_D A (wT ad cI cZ (sA (sA u 0 (u.1 0) x1) 1 (u.1 0) x2)) := hD
  refine lv_aload_n hx hb dX2_add_22 rfl (lv_at hl 1 rfl) ?_
  refine va_get (ci := 2) (v := .ref (ad 6)) (C := RX2) (T := TX2) (N := 7) hx hb hts (ivX2 _) hown hK hP 1 rfl rfl 2 (by decide) (hts _ (tb_c tw_1_32)) (fun _ h9 => h9) rfl dX2_add_23 ?_
  refine lv_iload hx hb dX2_add_26 (lv_at hl 0 rfl) ?_
  refine lv_iload_n hx hb dX2_add_28 rfl (lv_at hl 4 rfl) ?_
  obtain ⟨h_3, hok⟩ := hok
  refine va_iast hx hb hK hP hD hS 6 0 rfl rfl h_3 dX2_add_29 (fun H locs hP hD hS => ?_)
  have hP : va_P D vwCl (wT ad cI cZ (sA (sA (sA u 0 (u.1 0) x1) 1 (u.1 0) x2) 2 (u.1 0) x3)) H := hP
  have hD : va_D A (wT ad cI cZ (sA (sA (sA u 0 (u.1 0) x1) 1 (u.1 0) x2) 2 (u.1 0) x3)) := hD
  refine lv_aload_n hx hb dX2_add_30 rfl (lv_at hl 1 rfl) ?_
  refine va_get (ci := 2) (v := .ref (ad 7)) (C := RX2) (T := TX2) (N := 7) hx hb hts (ivX2 _) hown hK hP 1 rfl rfl 3 (by decide) (hts _ (tb_c tw_1_35)) (fun _ h9 => h9) rfl dX2_add_31 ?_
  refine lv_iload hx hb dX2_add_34 (lv_at hl 0 rfl) ?_
  refine lv_iload hx hb dX2_add_36 (lv_at hl 5 rfl) ?_
  obtain ⟨h_4, hok⟩ := hok
  refine va_iast hx hb hK hP hD hS 7 0 rfl rfl h_4 dX2_add_38 (fun H locs hP hD hS => ?_)
  have hP : va_P D vwCl (wT ad cI cZ (sA (sA (sA (sA u 0 (u.1 0) x1) 1 (u.1 0) x2) 2 (u.1 0) x3) 3 (u.1 0) x4)) H := hP
  have hD : va_D A (wT ad cI cZ (sA (sA (sA (sA u 0 (u.1 0) x1) 1 (u.1 0) x2) 2 (u.1 0) x3) 3 (u.1 0) x4)) := hD
  refine lv_aload_n hx hb dX2_add_39 rfl (lv_at hl 1 rfl) ?_
  refine va_get (ci := 2) (v := .ref (ad 8)) (C := RX2) (T := TX2) (N := 7) hx hb hts (ivX2 _) hown hK hP 1 rfl rfl 4 (by decide) (hts _ (tb_c tw_1_38)) (fun _ h9 => h9) rfl dX2_add_40 ?_
  refine lv_iload hx hb dX2_add_43 (lv_at hl 0 rfl) ?_
  refine lv_iload hx hb dX2_add_45 (lv_at hl 6 rfl) ?_
  obtain ⟨h_5, hok⟩ := hok
  refine va_iast hx hb hK hP hD hS 8 0 rfl rfl h_5 dX2_add_47 (fun H locs hP hD hS => ?_)
  have hP : va_P D vwCl (wT ad cI cZ (sA (sA (sA (sA (sA u 0 (u.1 0) x1) 1 (u.1 0) x2) 2 (u.1 0) x3) 3 (u.1 0) x4) 4 (u.1 0) x5)) H := hP
  have hD : va_D A (wT ad cI cZ (sA (sA (sA (sA (sA u 0 (u.1 0) x1) 1 (u.1 0) x2) 2 (u.1 0) x3) 3 (u.1 0) x4) 4 (u.1 0) x5)) := hD
  refine lv_aload_n hx hb dX2_add_48 rfl (lv_at hl 1 rfl) ?_
  refine va_get (ci := 2) (v := .ref (ad 9)) (C := RX2) (T := TX2) (N := 7) hx hb hts (ivX2 _) hown hK hP 1 rfl rfl 5 (by decide) (hts _ (tb_c tw_1_41)) (fun _ h9 => h9) rfl dX2_add_49 ?_
  refine lv_iload hx hb dX2_add_52 (lv_at hl 0 rfl) ?_
  refine lv_iload hx hb dX2_add_54 (lv_at hl 7 rfl) ?_
  obtain ⟨h_6, hok⟩ := hok
  refine va_iast hx hb hK hP hD hS 9 0 rfl rfl h_6 dX2_add_56 (fun H locs hP hD hS => ?_)
  have hP : va_P D vwCl (wT ad cI cZ (sA (sA (sA (sA (sA (sA u 0 (u.1 0) x1) 1 (u.1 0) x2) 2 (u.1 0) x3) 3 (u.1 0) x4) 4 (u.1 0) x5) 5 (u.1 0) x6)) H := hP
  have hD : va_D A (wT ad cI cZ (sA (sA (sA (sA (sA (sA u 0 (u.1 0) x1) 1 (u.1 0) x2) 2 (u.1 0) x3) 3 (u.1 0) x4) 4 (u.1 0) x5) 5 (u.1 0) x6)) := hD
  refine lv_aload_n hx hb dX2_add_57 rfl (lv_at hl 1 rfl) ?_
  refine lv_iload hx hb dX2_add_58 (lv_at hl 0 rfl) ?_
  refine lv_iconst (v := 1) hx hb dX2_add_60 (by decide) ?_
  refine lv_iadd hx hb dX2_add_61 ?_
  refine va_put (ci := 2) (v := .int ((u.1 0) + 1)) (ty := .int) (C := RX2) (T := TX2) (N := 7) hx hb hts (ivX2 _) tyX2 tyX2_ok nmX2 hown hK hP hD hS 1 rfl rfl 6 (by decide) (hts _ (tb_c tw_1_44)) (fun _ h9 => h9) rfl (by decide +kernel) rfl rfl (Nat.le_of_ble_eq_true rfl) dX2_add_62 (fun H locs hP hD hS => ?_)
  have hP : va_P D vwCl (wT ad cI cZ (sS (sA (sA (sA (sA (sA (sA u 0 (u.1 0) x1) 1 (u.1 0) x2) 2 (u.1 0) x3) 3 (u.1 0) x4) 4 (u.1 0) x5) 5 (u.1 0) x6) 0 ((u.1 0) + 1))) H := hP
  have hD : va_D A (wT ad cI cZ (sS (sA (sA (sA (sA (sA (sA u 0 (u.1 0) x1) 1 (u.1 0) x2) 2 (u.1 0) x3) 3 (u.1 0) x4) 4 (u.1 0) x5) 5 (u.1 0) x6) 0 ((u.1 0) + 1))) := hD
  refine lv_iload hx hb dX2_add_65 (lv_at hl 0 rfl) ?_
  have e9 : p_add u x1 x2 x3 x4 x5 x6 = (u.1 0, sS (sA (sA (sA (sA (sA (sA u 0 (u.1 0) x1) 1 (u.1 0) x2) 2 (u.1 0) x3) 3 (u.1 0) x4) 4 (u.1 0) x5) 5 (u.1 0) x6) 0 ((u.1 0) + 1)) := by rw [p_add]
  rw [e9]
  exact W.iret hx hb hr (fun t ht hW => ⟨⟨_, (), rfl, rfl, by rw [ht]; exact hP, va_K.moved hW.alike hK, hD⟩, hS.F ht⟩) hS.2.2 dX2_add_67

def p_canBeForged_28 : Nat → St → Int32 → Int32
  | 0, _, _ => 0
  | n + 1, u, x1 => (if (u.1 0) ≤ x1 then 1 else (if (u.2 0 x1.toNatClampNeg) = 4 then (if (u.2 5 x1.toNatClampNeg) < (u.1 0) then p_canBeForged_28 n u (x1 + 1) else 0) else (if (u.2 0 x1.toNatClampNeg) = 5 then (if (u.2 5 x1.toNatClampNeg) < (u.1 0) then p_canBeForged_28 n u (x1 + 1) else 0) else p_canBeForged_28 n u (x1 + 1))))
def ok_canBeForged_28 : Nat → St → Int32 → Prop
  | 0, _, _ => False
  | n + 1, u, x1 => (((u.1 0) ≤ x1 → True) ∧ (¬ (u.1 0) ≤ x1 → (vp_in x1 48 ∧ (((u.2 0 x1.toNatClampNeg) = 4 → (vp_in x1 48 ∧ (((u.2 5 x1.toNatClampNeg) < (u.1 0) → ok_canBeForged_28 n u (x1 + 1)) ∧ (¬ (u.2 5 x1.toNatClampNeg) < (u.1 0) → True)))) ∧ (¬ (u.2 0 x1.toNatClampNeg) = 4 → (vp_in x1 48 ∧ (((u.2 0 x1.toNatClampNeg) = 5 → (vp_in x1 48 ∧ (((u.2 5 x1.toNatClampNeg) < (u.1 0) → ok_canBeForged_28 n u (x1 + 1)) ∧ (¬ (u.2 5 x1.toNatClampNeg) < (u.1 0) → True)))) ∧ (¬ (u.2 0 x1.toNatClampNeg) = 5 → ok_canBeForged_28 n u (x1 + 1)))))))))
set_option maxHeartbeats 4000000 in
set_option maxRecDepth 100000 in
theorem w_canBeForged_28 {p : Program} {l : Launch} {e : Env} {s : State} {m : MethodId} {args : Array Value} {below : List Frame} {meth : Method} {c : Code} {D : va_G} {A : Nat → Prop} (ad : Nat → Nat) (cI cZ : ClassId) (zz : (Nat → Prop) → State → Heap → Prop) (hzz : Zok zz) (tS : Nat) (hst : Zst zz tS) (Cx : cxt p s m args meth c cX2_canBeForged 2 (some .boolean) wsX2_canBeForged RX2 D vwCl (tyT cI cZ) zz A) : ∀ (n : Nat) (u : St) (x1 : Int32) (H : Heap) (locs : List Loc) (ls : Array Slot), ok_canBeForged_28 n u x1 → va_P D vwCl (wT ad cI cZ u) H → va_D A (wT ad cI cZ u) → va_S A s.heap H locs → lv_has ls 2 [(0, .ref (ad 1)), (1, .int x1)] → W p l e ({ frames := 1, cells := 0, slots := 0, locals := 20 } : Room) s m args below meth c H locs 0 0 (MQ below (qqI D vwCl (tyT cI cZ) (wT ad cI cZ u) (p_canBeForged_28 n u x1) A) args s 0 0 A) (F0 m 28 ls []) := by
  obtain ⟨hx, hb, hr, hts, hown, hlocks, hml, hK, hA, hZ⟩ := id Cx
  intro n
  induction n with
  | zero =>
    intro u x1 H locs ls hok
    exact False.elim hok
  | succ n ih =>
    intro u x1 H locs ls hok hP hD hS hl
    unfold ok_canBeForged_28 at hok
    refine lv_iload_n hx hb dX2_canBeForged_28 rfl (lv_at hl 1 rfl) ?_
    refine lv_aload_n hx hb dX2_canBeForged_29 rfl (lv_at hl 0 rfl) ?_
    refine va_get (ci := 2) (v := .int (u.1 0)) (C := RX2) (T := TX2) (N := 7) hx hb hts (ivX2 _) hown hK hP 1 rfl rfl 6 (by decide) (hts _ (tb_c tw_1_44)) (fun _ h9 => h9) rfl dX2_canBeForged_30 ?_
    refine lv_icmp_ge (tgt := 77) hx hb dX2_canBeForged_33 (by decide) (fun c_1 => ?_) (fun c_1 => ?_)
    · have hok := hok.1 c_1
      refine lv_iconst (v := 1) hx hb dX2_canBeForged_77 (by decide) ?_
      have e9 : p_canBeForged_28 (n + 1) u x1 = 1 := by rw [p_canBeForged_28, if_pos c_1]
      rw [e9]
      exact W.zret hx hb hr rfl (fun t ht hW => ⟨⟨_, (), rfl, rfl, by rw [ht]; exact hP, va_K.moved hW.alike hK, hD⟩, hS.F ht⟩) hS.2.2 dX2_canBeForged_78
    · have hok := hok.2 c_1
      refine lv_aload_n hx hb dX2_canBeForged_36 rfl (lv_at hl 0 rfl) ?_
      refine va_get (ci := 2) (v := .ref (ad 4)) (C := RX2) (T := TX2) (N := 7) hx hb hts (ivX2 _) hown hK hP 1 rfl rfl 0 (by decide) (hts _ (tb_c tw_1_26)) (fun _ h9 => h9) rfl dX2_canBeForged_37 ?_
      refine lv_iload_n hx hb dX2_canBeForged_40 rfl (lv_at hl 1 rfl) ?_
      obtain ⟨h_2, hok⟩ := hok
      refine va_iald hx hb hK hP 4 0 rfl rfl h_2 dX2_canBeForged_41 ?_
      refine lv_iconst (v := 4) hx hb dX2_canBeForged_42 (by decide) ?_
      refine lv_icmp_eq (tgt := 56) hx hb dX2_canBeForged_43 (by decide) (fun c_3 => ?_) (fun c_3 => ?_)
      · have hok := hok.1 c_3
        refine lv_aload_n hx hb dX2_canBeForged_56 rfl (lv_at hl 0 rfl) ?_
        refine va_get (ci := 2) (v := .ref (ad 9)) (C := RX2) (T := TX2) (N := 7) hx hb hts (ivX2 _) hown hK hP 1 rfl rfl 5 (by decide) (hts _ (tb_c tw_1_41)) (fun _ h9 => h9) rfl dX2_canBeForged_57 ?_
        refine lv_iload_n hx hb dX2_canBeForged_60 rfl (lv_at hl 1 rfl) ?_
        obtain ⟨h_4, hok⟩ := hok
        refine va_iald hx hb hK hP 9 0 rfl rfl h_4 dX2_canBeForged_61 ?_
        refine lv_aload_n hx hb dX2_canBeForged_62 rfl (lv_at hl 0 rfl) ?_
        refine va_get (ci := 2) (v := .int (u.1 0)) (C := RX2) (T := TX2) (N := 7) hx hb hts (ivX2 _) hown hK hP 1 rfl rfl 6 (by decide) (hts _ (tb_c tw_1_44)) (fun _ h9 => h9) rfl dX2_canBeForged_63 ?_
        refine lv_icmp_lt (tgt := 71) hx hb dX2_canBeForged_66 (by decide) (fun c_5 => ?_) (fun c_5 => ?_)
        · have hok := hok.1 c_5
          refine lv_iinc (v := x1 + 1) (lv' := [(1, .int (x1 + 1)), (0, .ref (ad 1))]) hx hb dX2_canBeForged_71 hl (k := 1) rfl rfl (by decide) rfl (fun ls hl => ?_)
          refine lv_goto (tgt := 28) hx hb dX2_canBeForged_74 (by decide) ?_
          have e9 : p_canBeForged_28 (n + 1) u x1 = p_canBeForged_28 n u (x1 + 1) := by rw [p_canBeForged_28, if_neg c_1, if_pos c_3, if_pos c_5]
          rw [e9]
          exact ih u (x1 + 1) _ _ _ hok hP hD hS (lv_sub hl [1, 0] rfl)
        · have hok := hok.2 c_5
          refine lv_iconst (v := 0) hx hb dX2_canBeForged_69 (by decide) ?_
          have e9 : p_canBeForged_28 (n + 1) u x1 = 0 := by rw [p_canBeForged_28, if_neg c_1, if_pos c_3, if_neg c_5]
          rw [e9]
          exact W.zret hx hb hr rfl (fun t ht hW => ⟨⟨_, (), rfl, rfl, by rw [ht]; exact hP, va_K.moved hW.alike hK, hD⟩, hS.F ht⟩) hS.2.2 dX2_canBeForged_70
      · have hok := hok.2 c_3
        refine lv_aload_n hx hb dX2_canBeForged_46 rfl (lv_at hl 0 rfl) ?_
        refine va_get (ci := 2) (v := .ref (ad 4)) (C := RX2) (T := TX2) (N := 7) hx hb hts (ivX2 _) hown hK hP 1 rfl rfl 0 (by decide) (hts _ (tb_c tw_1_26)) (fun _ h9 => h9) rfl dX2_canBeForged_47 ?_
        refine lv_iload_n hx hb dX2_canBeForged_50 rfl (lv_at hl 1 rfl) ?_
        obtain ⟨h_6, hok⟩ := hok
        refine va_iald hx hb hK hP 4 0 rfl rfl h_6 dX2_canBeForged_51 ?_
        refine lv_iconst (v := 5) hx hb dX2_canBeForged_52 (by decide) ?_
        refine lv_icmp_ne (tgt := 71) hx hb dX2_canBeForged_53 (by decide) (fun c_7 => ?_) (fun c_7 => ?_)
        · have hok := hok.2 c_7
          refine lv_iinc (v := x1 + 1) (lv' := [(1, .int (x1 + 1)), (0, .ref (ad 1))]) hx hb dX2_canBeForged_71 hl (k := 1) rfl rfl (by decide) rfl (fun ls hl => ?_)
          refine lv_goto (tgt := 28) hx hb dX2_canBeForged_74 (by decide) ?_
          have e9 : p_canBeForged_28 (n + 1) u x1 = p_canBeForged_28 n u (x1 + 1) := by rw [p_canBeForged_28, if_neg c_1, if_neg c_3, if_neg c_7]
          rw [e9]
          exact ih u (x1 + 1) _ _ _ hok hP hD hS (lv_sub hl [1, 0] rfl)
        · have hok := hok.1 c_7
          refine lv_aload_n hx hb dX2_canBeForged_56 rfl (lv_at hl 0 rfl) ?_
          refine va_get (ci := 2) (v := .ref (ad 9)) (C := RX2) (T := TX2) (N := 7) hx hb hts (ivX2 _) hown hK hP 1 rfl rfl 5 (by decide) (hts _ (tb_c tw_1_41)) (fun _ h9 => h9) rfl dX2_canBeForged_57 ?_
          refine lv_iload_n hx hb dX2_canBeForged_60 rfl (lv_at hl 1 rfl) ?_
          obtain ⟨h_8, hok⟩ := hok
          refine va_iald hx hb hK hP 9 0 rfl rfl h_8 dX2_canBeForged_61 ?_
          refine lv_aload_n hx hb dX2_canBeForged_62 rfl (lv_at hl 0 rfl) ?_
          refine va_get (ci := 2) (v := .int (u.1 0)) (C := RX2) (T := TX2) (N := 7) hx hb hts (ivX2 _) hown hK hP 1 rfl rfl 6 (by decide) (hts _ (tb_c tw_1_44)) (fun _ h9 => h9) rfl dX2_canBeForged_63 ?_
          refine lv_icmp_lt (tgt := 71) hx hb dX2_canBeForged_66 (by decide) (fun c_9 => ?_) (fun c_9 => ?_)
          · have hok := hok.1 c_9
            refine lv_iinc (v := x1 + 1) (lv' := [(1, .int (x1 + 1)), (0, .ref (ad 1))]) hx hb dX2_canBeForged_71 hl (k := 1) rfl rfl (by decide) rfl (fun ls hl => ?_)
            refine lv_goto (tgt := 28) hx hb dX2_canBeForged_74 (by decide) ?_
            have e9 : p_canBeForged_28 (n + 1) u x1 = p_canBeForged_28 n u (x1 + 1) := by rw [p_canBeForged_28, if_neg c_1, if_neg c_3, if_pos c_7, if_pos c_9]
            rw [e9]
            exact ih u (x1 + 1) _ _ _ hok hP hD hS (lv_sub hl [1, 0] rfl)
          · have hok := hok.2 c_9
            refine lv_iconst (v := 0) hx hb dX2_canBeForged_69 (by decide) ?_
            have e9 : p_canBeForged_28 (n + 1) u x1 = 0 := by rw [p_canBeForged_28, if_neg c_1, if_neg c_3, if_pos c_7, if_neg c_9]
            rw [e9]
            exact W.zret hx hb hr rfl (fun t ht hW => ⟨⟨_, (), rfl, rfl, by rw [ht]; exact hP, va_K.moved hW.alike hK, hD⟩, hS.F ht⟩) hS.2.2 dX2_canBeForged_70
def p_canBeForged (u : St) : Int32 := (if (u.1 0) = 0 then 0 else (if (p_neverGoesOnBehind (u.2 0 ((u.1 0) - 1).toNatClampNeg)) = 0 then 0 else p_canBeForged_28 64 u 0))
def ok_canBeForged (u : St) : Prop := (((u.1 0) = 0 → True) ∧ (¬ (u.1 0) = 0 → (vp_in ((u.1 0) - 1) 48 ∧ (((p_neverGoesOnBehind (u.2 0 ((u.1 0) - 1).toNatClampNeg)) = 0 → True) ∧ (¬ (p_neverGoesOnBehind (u.2 0 ((u.1 0) - 1).toNatClampNeg)) = 0 → ok_canBeForged_28 64 u 0)))))
set_option maxHeartbeats 4000000 in
set_option maxRecDepth 100000 in
theorem c_canBeForged (l : Launch) (D : va_G) (ad : Nat → Nat) (cI cZ : ClassId) (zz : (Nat → Prop) → State → Heap → Prop) (hzz : Zok zz) (tS : Nat) (hst : Zst zz tS) (u : St) (hok : ok_canBeForged u) : tfI l D vwCl (tyT cI cZ) zz yX2_canBeForged wsX2_canBeForged ({ frames := 1, cells := 0, slots := 0, locals := 20 } : Room) [.ref (ad 1)] (wT ad cI cZ u) (p_canBeForged u) (wT ad cI cZ u) := by
  intro sz
  unfold ok_canBeForged at hok
  refine Met.ofW (cc := cX2_canBeForged) (maxL := 2) (ret := (some .boolean)) (by decide) rfl ?_
  intro p e s m args below meth c s₁ B hml hv
  obtain ⟨rfl, hsz, hP, hK, hD0, hZ⟩ := hv
  have hx := B.exec
  have hb := B.bytes
  have hr := B.returns
  have hts := atoms_spec (ws := wsX2_canBeForged) B.pre
  have hown : s.vm.findClass RX2 = some m.cls := findClass_of_methodNamed B.named
  have hlocks := B.notSynchronized
  subst hsz
  have hD := hD0.self (sz := s.heap.size)
  generalize hAe : va_A (wT ad cI cZ u) s.heap.size = A at hD hZ ⊢
  have hA : ∀ q : Nat, s.heap.size ≤ q → A q := fun q h => by rw [← hAe]; exact Or.inr h
  have hS : va_S A s.heap s.heap [] := va_S.rf
  have Cx : cxt p s m ([.ref (ad 1)] : List Value).toArray meth c cX2_canBeForged 2 (some .boolean) wsX2_canBeForged RX2 D vwCl (tyT cI cZ) zz A := ⟨hx, hb, hr, hts, hown, hlocks, hml, hK, hA, hZ⟩
  have hl := lv_entry ([.ref (ad 1)]) (n := 2) (Nat.le_of_ble_eq_true rfl)
  rw [lg_entry_eq]
  generalize (lg_sl ([.ref (ad 1)]) ++ List.replicate (2 - (lg_sl ([.ref (ad 1)])).length) Slot.unset).toArray = ls at hl ⊢
  have hl : lv_has ls 2 [(0, .ref (ad 1))] := hl
  refine lv_aload_n hx hb dX2_canBeForged_0 rfl (lv_at hl 0 rfl) ?_
  refine va_get (ci := 2) (v := .int (u.1 0)) (C := RX2) (T := TX2) (N := 7) hx hb hts (ivX2 _) hown hK hP 1 rfl rfl 6 (by decide) (hts _ (tb_c tw_1_44)) (fun _ h9 => h9) rfl dX2_canBeForged_1 ?_
  refine lv_if_eq (tgt := 24) hx hb dX2_canBeForged_4 (by decide) (fun c_1 => ?_) (fun c_1 => ?_)
  · have hok := hok.1 c_1
    refine lv_iconst (v := 0) hx hb dX2_canBeForged_24 (by decide) ?_
    have e9 : p_canBeForged u = 0 := by rw [p_canBeForged, if_pos c_1]
    rw [e9]
    exact W.zret hx hb hr rfl (fun t ht hW => ⟨⟨_, (), rfl, rfl, by rw [ht]; exact hP, va_K.moved hW.alike hK, hD⟩, hS.F ht⟩) hS.2.2 dX2_canBeForged_25
  · have hok := hok.2 c_1
    refine lv_aload_n hx hb dX2_canBeForged_7 rfl (lv_at hl 0 rfl) ?_
    refine va_get (ci := 2) (v := .ref (ad 4)) (C := RX2) (T := TX2) (N := 7) hx hb hts (ivX2 _) hown hK hP 1 rfl rfl 0 (by decide) (hts _ (tb_c tw_1_26)) (fun _ h9 => h9) rfl dX2_canBeForged_8 ?_
    refine lv_aload_n hx hb dX2_canBeForged_11 rfl (lv_at hl 0 rfl) ?_
    refine va_get (ci := 2) (v := .int (u.1 0)) (C := RX2) (T := TX2) (N := 7) hx hb hts (ivX2 _) hown hK hP 1 rfl rfl 6 (by decide) (hts _ (tb_c tw_1_44)) (fun _ h9 => h9) rfl dX2_canBeForged_12 ?_
    refine lv_iconst (v := 1) hx hb dX2_canBeForged_15 (by decide) ?_
    refine lv_isub hx hb dX2_canBeForged_16 ?_
    obtain ⟨h_2, hok⟩ := hok
    refine va_iald hx hb hK hP 4 0 rfl rfl h_2 dX2_canBeForged_17 ?_
    refine k_callSi (As := [.int (u.2 0 ((u.1 0) - 1).toNatClampNeg)]) (rest := []) hzz ⟨hx, hb, hml, hown, hts⟩ (c_neverGoesOnBehind l D ad cI cZ zz hzz tS hst (wT ad cI cZ u) (u.2 0 ((u.1 0) - 1).toNatClampNeg)) (cwS 1 hts (tb_S tw_2_115 tw_2_116 tw_1_2 tw_2_117) rfl rfl rfl (by decide +kernel) ⟨Nat.le_of_ble_eq_true rfl, Nat.le_of_ble_eq_true rfl⟩) rfl hl.1 rfl (lv_room (Nat.le_of_ble_eq_true rfl)) dX2_canBeForged_18 ⟨Nat.le_of_ble_eq_true rfl, Nat.le_of_ble_eq_true rfl⟩ hP hK hD hS hA hZ (fun H locs hP hD hS => ?_)
    refine lv_if_ne (tgt := 26) hx hb dX2_canBeForged_21 (by decide) (fun c_4 => ?_) (fun c_4 => ?_)
    · have hok := hok.2 c_4
      refine lv_iconst (v := 0) hx hb dX2_canBeForged_26 (by decide) ?_
      refine lv_istore_n (lv' := [(1, .int 0), (0, .ref (ad 1))]) hx hb dX2_canBeForged_27 rfl hl (by decide) rfl (fun ls hl => ?_)
      have e9 : p_canBeForged u = p_canBeForged_28 64 u 0 := by rw [p_canBeForged, if_neg c_1, if_neg c_4]
      rw [e9]
      exact w_canBeForged_28 ad cI cZ zz hzz tS hst Cx 64 u 0 _ _ _ hok hP hD hS (lv_sub hl [1, 0] rfl)
    · have hok := hok.1 c_4
      refine lv_iconst (v := 0) hx hb dX2_canBeForged_24 (by decide) ?_
      have e9 : p_canBeForged u = 0 := by rw [p_canBeForged, if_neg c_1, if_pos c_4]
      rw [e9]
      exact W.zret hx hb hr rfl (fun t ht hW => ⟨⟨_, (), rfl, rfl, by rw [ht]; exact hP, va_K.moved hW.alike hK, hD⟩, hS.F ht⟩) hS.2.2 dX2_canBeForged_25
end
