section
-- ===== PART A: goes FIRST, ahead of the names: the tables' words, and 'selects' of the private methods out of them =====
/-- a private method of a class that the tables say can be made, by its rows of tables_1 -/
def lw_okq (q : MethodName × Nat) : Prop := (q.1.cls ≠ "java/lang/invoke/MethodHandle" ∧ q.1.cls ≠ "java/lang/invoke/VarHandle") ∧ Cond.instantiable q.1.cls q.2 ∈ tables_1 ∧ Cond.privateMethod q.1 ∈ tables_1 ∧ Cond.instanceMethod q.1 ∈ tables_1
theorem lw_p0 : lw_okq (⟨"ThumbForge", "discardImage", "()V"⟩, 3) := ⟨⟨by decide +kernel, by decide +kernel⟩, List.mem_of_getElem? (i := 13) (by decide +kernel), List.mem_of_getElem? (i := 162) (by decide +kernel), List.mem_of_getElem? (i := 163) (by decide +kernel)⟩
theorem lw_p1 : lw_okq (⟨"java/lang/Throwable", "fillInStackTrace", "(I)Ljava/lang/Throwable;"⟩, 6) := ⟨⟨by decide +kernel, by decide +kernel⟩, List.mem_of_getElem? (i := 232) (by decide +kernel), List.mem_of_getElem? (i := 230) (by decide +kernel), List.mem_of_getElem? (i := 231) (by decide +kernel)⟩
theorem lw_p2 : lw_okq (⟨"ThumbForge", "append", "(IIIIII)I"⟩, 3) := ⟨⟨by decide +kernel, by decide +kernel⟩, List.mem_of_getElem? (i := 13) (by decide +kernel), List.mem_of_getElem? (i := 262) (by decide +kernel), List.mem_of_getElem? (i := 263) (by decide +kernel)⟩
theorem lw_p3 : lw_okq (⟨"ThumbForge$Image", "writeCode", "()V"⟩, 9) := ⟨⟨by decide +kernel, by decide +kernel⟩, List.mem_of_getElem? (i := 64) (by decide +kernel), List.mem_of_getElem? (i := 364) (by decide +kernel), List.mem_of_getElem? (i := 365) (by decide +kernel)⟩
theorem lw_p4 : lw_okq (⟨"ThumbForge$Image", "writeLiteral", "(II)V"⟩, 9) := ⟨⟨by decide +kernel, by decide +kernel⟩, List.mem_of_getElem? (i := 64) (by decide +kernel), List.mem_of_getElem? (i := 369) (by decide +kernel), List.mem_of_getElem? (i := 370) (by decide +kernel)⟩
theorem lw_p5 : lw_okq (⟨"ThumbForge$Image", "literalIndex", "(I)I"⟩, 9) := ⟨⟨by decide +kernel, by decide +kernel⟩, List.mem_of_getElem? (i := 64) (by decide +kernel), List.mem_of_getElem? (i := 373) (by decide +kernel), List.mem_of_getElem? (i := 374) (by decide +kernel)⟩
theorem lw_p6 : lw_okq (⟨"ThumbForge$Image", "put", "(I)V"⟩, 9) := ⟨⟨by decide +kernel, by decide +kernel⟩, List.mem_of_getElem? (i := 64) (by decide +kernel), List.mem_of_getElem? (i := 377) (by decide +kernel), List.mem_of_getElem? (i := 378) (by decide +kernel)⟩
theorem lw_p7 : lw_okq (⟨"ThumbForge$Image", "writeInstruction", "(I)V"⟩, 9) := ⟨⟨by decide +kernel, by decide +kernel⟩, List.mem_of_getElem? (i := 64) (by decide +kernel), List.mem_of_getElem? (i := 381) (by decide +kernel), List.mem_of_getElem? (i := 382) (by decide +kernel)⟩
theorem lw_p8 : lw_okq (⟨"ThumbForge$Image", "writeNumber", "(II)V"⟩, 9) := ⟨⟨by decide +kernel, by decide +kernel⟩, List.mem_of_getElem? (i := 64) (by decide +kernel), List.mem_of_getElem? (i := 394) (by decide +kernel), List.mem_of_getElem? (i := 395) (by decide +kernel)⟩
theorem lw_p9 : lw_okq (⟨"ThumbForge$Image", "keep", "(I)V"⟩, 9) := ⟨⟨by decide +kernel, by decide +kernel⟩, List.mem_of_getElem? (i := 64) (by decide +kernel), List.mem_of_getElem? (i := 401) (by decide +kernel), List.mem_of_getElem? (i := 402) (by decide +kernel)⟩
theorem lw_p10 : lw_okq (⟨"ThumbForge$Image", "writeCompute", "(IIII)V"⟩, 9) := ⟨⟨by decide +kernel, by decide +kernel⟩, List.mem_of_getElem? (i := 64) (by decide +kernel), List.mem_of_getElem? (i := 409) (by decide +kernel), List.mem_of_getElem? (i := 410) (by decide +kernel)⟩
theorem lw_p11 : lw_okq (⟨"ThumbForge$Image", "fetch", "(II)I"⟩, 9) := ⟨⟨by decide +kernel, by decide +kernel⟩, List.mem_of_getElem? (i := 64) (by decide +kernel), List.mem_of_getElem? (i := 413) (by decide +kernel), List.mem_of_getElem? (i := 414) (by decide +kernel)⟩
theorem lw_p12 : lw_okq (⟨"ThumbForge$Image", "copyTo0", "(I)V"⟩, 9) := ⟨⟨by decide +kernel, by decide +kernel⟩, List.mem_of_getElem? (i := 64) (by decide +kernel), List.mem_of_getElem? (i := 418) (by decide +kernel), List.mem_of_getElem? (i := 419) (by decide +kernel)⟩
theorem lw_p13 : lw_okq (⟨"ThumbForge$Image", "writeWordChoice", "(I)V"⟩, 9) := ⟨⟨by decide +kernel, by decide +kernel⟩, List.mem_of_getElem? (i := 64) (by decide +kernel), List.mem_of_getElem? (i := 424) (by decide +kernel), List.mem_of_getElem? (i := 425) (by decide +kernel)⟩
theorem lw_p14 : lw_okq (⟨"ThumbForge$Image", "writeJump", "(I)V"⟩, 9) := ⟨⟨by decide +kernel, by decide +kernel⟩, List.mem_of_getElem? (i := 64) (by decide +kernel), List.mem_of_getElem? (i := 428) (by decide +kernel), List.mem_of_getElem? (i := 429) (by decide +kernel)⟩
theorem lw_p15 : lw_okq (⟨"ThumbForge$Image", "distance", "(II)I"⟩, 9) := ⟨⟨by decide +kernel, by decide +kernel⟩, List.mem_of_getElem? (i := 64) (by decide +kernel), List.mem_of_getElem? (i := 433) (by decide +kernel), List.mem_of_getElem? (i := 434) (by decide +kernel)⟩
def lw_privs_1 : List (MethodName × Nat) := [(⟨"ThumbForge", "discardImage", "()V"⟩, 3), (⟨"java/lang/Throwable", "fillInStackTrace", "(I)Ljava/lang/Throwable;"⟩, 6), (⟨"ThumbForge", "append", "(IIIIII)I"⟩, 3), (⟨"ThumbForge$Image", "writeCode", "()V"⟩, 9), (⟨"ThumbForge$Image", "writeLiteral", "(II)V"⟩, 9), (⟨"ThumbForge$Image", "literalIndex", "(I)I"⟩, 9), (⟨"ThumbForge$Image", "put", "(I)V"⟩, 9), (⟨"ThumbForge$Image", "writeInstruction", "(I)V"⟩, 9), (⟨"ThumbForge$Image", "writeNumber", "(II)V"⟩, 9), (⟨"ThumbForge$Image", "keep", "(I)V"⟩, 9), (⟨"ThumbForge$Image", "writeCompute", "(IIII)V"⟩, 9), (⟨"ThumbForge$Image", "fetch", "(II)I"⟩, 9), (⟨"ThumbForge$Image", "copyTo0", "(I)V"⟩, 9), (⟨"ThumbForge$Image", "writeWordChoice", "(I)V"⟩, 9), (⟨"ThumbForge$Image", "writeJump", "(I)V"⟩, 9), (⟨"ThumbForge$Image", "distance", "(II)I"⟩, 9)]
theorem lw_r1 : ∀ q ∈ lw_privs_1, lw_okq q := List.forall_mem_cons.mpr ⟨lw_p0, List.forall_mem_cons.mpr ⟨lw_p1, List.forall_mem_cons.mpr ⟨lw_p2, List.forall_mem_cons.mpr ⟨lw_p3, List.forall_mem_cons.mpr ⟨lw_p4, List.forall_mem_cons.mpr ⟨lw_p5, List.forall_mem_cons.mpr ⟨lw_p6, List.forall_mem_cons.mpr ⟨lw_p7, List.forall_mem_cons.mpr ⟨lw_p8, List.forall_mem_cons.mpr ⟨lw_p9, List.forall_mem_cons.mpr ⟨lw_p10, List.forall_mem_cons.mpr ⟨lw_p11, List.forall_mem_cons.mpr ⟨lw_p12, List.forall_mem_cons.mpr ⟨lw_p13, List.forall_mem_cons.mpr ⟨lw_p14, List.forall_mem_cons.mpr ⟨lw_p15, fun _ h => absurd h List.not_mem_nil⟩⟩⟩⟩⟩⟩⟩⟩⟩⟩⟩⟩⟩⟩⟩⟩
theorem lw_p16 : lw_okq (⟨"ThumbForge$Image", "writeBranch", "(IIIIZ)V"⟩, 9) := ⟨⟨by decide +kernel, by decide +kernel⟩, List.mem_of_getElem? (i := 64) (by decide +kernel), List.mem_of_getElem? (i := 437) (by decide +kernel), List.mem_of_getElem? (i := 438) (by decide +kernel)⟩
theorem lw_p17 : lw_okq (⟨"ThumbForge$Image", "lengthenBranches", "()Z"⟩, 9) := ⟨⟨by decide +kernel, by decide +kernel⟩, List.mem_of_getElem? (i := 64) (by decide +kernel), List.mem_of_getElem? (i := 445) (by decide +kernel), List.mem_of_getElem? (i := 446) (by decide +kernel)⟩
theorem lw_p18 : lw_okq (⟨"ThumbForge$Image", "reaches", "(I)Z"⟩, 9) := ⟨⟨by decide +kernel, by decide +kernel⟩, List.mem_of_getElem? (i := 64) (by decide +kernel), List.mem_of_getElem? (i := 449) (by decide +kernel), List.mem_of_getElem? (i := 450) (by decide +kernel)⟩
theorem lw_p19 : lw_okq (⟨"ThumbForge$Image", "writePool", "()V"⟩, 9) := ⟨⟨by decide +kernel, by decide +kernel⟩, List.mem_of_getElem? (i := 64) (by decide +kernel), List.mem_of_getElem? (i := 453) (by decide +kernel), List.mem_of_getElem? (i := 454) (by decide +kernel)⟩
theorem lw_p20 : lw_okq (⟨"ThumbForge$Machine", "step", "()I"⟩, 9) := ⟨⟨by decide +kernel, by decide +kernel⟩, List.mem_of_getElem? (i := 104) (by decide +kernel), List.mem_of_getElem? (i := 533) (by decide +kernel), List.mem_of_getElem? (i := 534) (by decide +kernel)⟩
theorem lw_p21 : lw_okq (⟨"ThumbForge$Machine", "putOut", "(I)V"⟩, 9) := ⟨⟨by decide +kernel, by decide +kernel⟩, List.mem_of_getElem? (i := 104) (by decide +kernel), List.mem_of_getElem? (i := 548) (by decide +kernel), List.mem_of_getElem? (i := 549) (by decide +kernel)⟩
theorem lw_p22 : lw_okq (⟨"ThumbForgeModel", "append", "(ZIII)I"⟩, 22) := ⟨⟨by decide +kernel, by decide +kernel⟩, List.mem_of_getElem? (i := 576) (by decide +kernel), List.mem_of_getElem? (i := 660) (by decide +kernel), List.mem_of_getElem? (i := 661) (by decide +kernel)⟩
theorem lw_p23 : lw_okq (⟨"ThumbForgeModel", "isSound", "()Z"⟩, 22) := ⟨⟨by decide +kernel, by decide +kernel⟩, List.mem_of_getElem? (i := 576) (by decide +kernel), List.mem_of_getElem? (i := 703) (by decide +kernel), List.mem_of_getElem? (i := 704) (by decide +kernel)⟩
theorem lw_p24 : lw_okq (⟨"ThumbForgeModel", "lengthen", "()V"⟩, 22) := ⟨⟨by decide +kernel, by decide +kernel⟩, List.mem_of_getElem? (i := 576) (by decide +kernel), List.mem_of_getElem? (i := 707) (by decide +kernel), List.mem_of_getElem? (i := 708) (by decide +kernel)⟩
theorem lw_p25 : lw_okq (⟨"ThumbForgeModel", "layOut", "()V"⟩, 22) := ⟨⟨by decide +kernel, by decide +kernel⟩, List.mem_of_getElem? (i := 576) (by decide +kernel), List.mem_of_getElem? (i := 711) (by decide +kernel), List.mem_of_getElem? (i := 712) (by decide +kernel)⟩
theorem lw_p26 : lw_okq (⟨"ThumbForgeModel", "lengthOf", "(I)I"⟩, 22) := ⟨⟨by decide +kernel, by decide +kernel⟩, List.mem_of_getElem? (i := 576) (by decide +kernel), List.mem_of_getElem? (i := 715) (by decide +kernel), List.mem_of_getElem? (i := 716) (by decide +kernel)⟩
theorem lw_p27 : lw_okq (⟨"ThumbForgeModel", "way", "(II)I"⟩, 22) := ⟨⟨by decide +kernel, by decide +kernel⟩, List.mem_of_getElem? (i := 576) (by decide +kernel), List.mem_of_getElem? (i := 731) (by decide +kernel), List.mem_of_getElem? (i := 732) (by decide +kernel)⟩
theorem lw_p28 : lw_okq (⟨"ThumbForgeModel", "literal", "(II)V"⟩, 22) := ⟨⟨by decide +kernel, by decide +kernel⟩, List.mem_of_getElem? (i := 576) (by decide +kernel), List.mem_of_getElem? (i := 736) (by decide +kernel), List.mem_of_getElem? (i := 737) (by decide +kernel)⟩
theorem lw_p29 : lw_okq (⟨"ThumbForgeModel", "emit", "(I)V"⟩, 22) := ⟨⟨by decide +kernel, by decide +kernel⟩, List.mem_of_getElem? (i := 576) (by decide +kernel), List.mem_of_getElem? (i := 740) (by decide +kernel), List.mem_of_getElem? (i := 741) (by decide +kernel)⟩
theorem lw_p30 : lw_okq (⟨"ThumbForgeModel", "emitInstruction", "(I)V"⟩, 22) := ⟨⟨by decide +kernel, by decide +kernel⟩, List.mem_of_getElem? (i := 576) (by decide +kernel), List.mem_of_getElem? (i := 744) (by decide +kernel), List.mem_of_getElem? (i := 745) (by decide +kernel)⟩
theorem lw_p31 : lw_okq (⟨"ThumbForgeModel", "make", "(II)V"⟩, 22) := ⟨⟨by decide +kernel, by decide +kernel⟩, List.mem_of_getElem? (i := 576) (by decide +kernel), List.mem_of_getElem? (i := 751) (by decide +kernel), List.mem_of_getElem? (i := 752) (by decide +kernel)⟩
def lw_privs_2 : List (MethodName × Nat) := [(⟨"ThumbForge$Image", "writeBranch", "(IIIIZ)V"⟩, 9), (⟨"ThumbForge$Image", "lengthenBranches", "()Z"⟩, 9), (⟨"ThumbForge$Image", "reaches", "(I)Z"⟩, 9), (⟨"ThumbForge$Image", "writePool", "()V"⟩, 9), (⟨"ThumbForge$Machine", "step", "()I"⟩, 9), (⟨"ThumbForge$Machine", "putOut", "(I)V"⟩, 9), (⟨"ThumbForgeModel", "append", "(ZIII)I"⟩, 22), (⟨"ThumbForgeModel", "isSound", "()Z"⟩, 22), (⟨"ThumbForgeModel", "lengthen", "()V"⟩, 22), (⟨"ThumbForgeModel", "layOut", "()V"⟩, 22), (⟨"ThumbForgeModel", "lengthOf", "(I)I"⟩, 22), (⟨"ThumbForgeModel", "way", "(II)I"⟩, 22), (⟨"ThumbForgeModel", "literal", "(II)V"⟩, 22), (⟨"ThumbForgeModel", "emit", "(I)V"⟩, 22), (⟨"ThumbForgeModel", "emitInstruction", "(I)V"⟩, 22), (⟨"ThumbForgeModel", "make", "(II)V"⟩, 22)]
theorem lw_r2 : ∀ q ∈ lw_privs_2, lw_okq q := List.forall_mem_cons.mpr ⟨lw_p16, List.forall_mem_cons.mpr ⟨lw_p17, List.forall_mem_cons.mpr ⟨lw_p18, List.forall_mem_cons.mpr ⟨lw_p19, List.forall_mem_cons.mpr ⟨lw_p20, List.forall_mem_cons.mpr ⟨lw_p21, List.forall_mem_cons.mpr ⟨lw_p22, List.forall_mem_cons.mpr ⟨lw_p23, List.forall_mem_cons.mpr ⟨lw_p24, List.forall_mem_cons.mpr ⟨lw_p25, List.forall_mem_cons.mpr ⟨lw_p26, List.forall_mem_cons.mpr ⟨lw_p27, List.forall_mem_cons.mpr ⟨lw_p28, List.forall_mem_cons.mpr ⟨lw_p29, List.forall_mem_cons.mpr ⟨lw_p30, List.forall_mem_cons.mpr ⟨lw_p31, fun _ h => absurd h List.not_mem_nil⟩⟩⟩⟩⟩⟩⟩⟩⟩⟩⟩⟩⟩⟩⟩⟩
theorem lw_p32 : lw_okq (⟨"ThumbForgeModel", "keep", "(I)V"⟩, 22) := ⟨⟨by decide +kernel, by decide +kernel⟩, List.mem_of_getElem? (i := 576) (by decide +kernel), List.mem_of_getElem? (i := 755) (by decide +kernel), List.mem_of_getElem? (i := 756) (by decide +kernel)⟩
theorem lw_p33 : lw_okq (⟨"ThumbForgeModel", "emitCompute", "(IIII)V"⟩, 22) := ⟨⟨by decide +kernel, by decide +kernel⟩, List.mem_of_getElem? (i := 576) (by decide +kernel), List.mem_of_getElem? (i := 760) (by decide +kernel), List.mem_of_getElem? (i := 761) (by decide +kernel)⟩
theorem lw_p34 : lw_okq (⟨"ThumbForgeModel", "fetch", "(II)I"⟩, 22) := ⟨⟨by decide +kernel, by decide +kernel⟩, List.mem_of_getElem? (i := 576) (by decide +kernel), List.mem_of_getElem? (i := 764) (by decide +kernel), List.mem_of_getElem? (i := 765) (by decide +kernel)⟩
theorem lw_p35 : lw_okq (⟨"ThumbForgeModel", "copy", "(I)V"⟩, 22) := ⟨⟨by decide +kernel, by decide +kernel⟩, List.mem_of_getElem? (i := 576) (by decide +kernel), List.mem_of_getElem? (i := 769) (by decide +kernel), List.mem_of_getElem? (i := 770) (by decide +kernel)⟩
theorem lw_p36 : lw_okq (⟨"ThumbForgeModel", "emitPlace", "(I)V"⟩, 22) := ⟨⟨by decide +kernel, by decide +kernel⟩, List.mem_of_getElem? (i := 576) (by decide +kernel), List.mem_of_getElem? (i := 776) (by decide +kernel), List.mem_of_getElem? (i := 777) (by decide +kernel)⟩
theorem lw_p37 : lw_okq (⟨"ThumbForgeModel", "emitJump", "(I)V"⟩, 22) := ⟨⟨by decide +kernel, by decide +kernel⟩, List.mem_of_getElem? (i := 576) (by decide +kernel), List.mem_of_getElem? (i := 780) (by decide +kernel), List.mem_of_getElem? (i := 781) (by decide +kernel)⟩
theorem lw_p38 : lw_okq (⟨"ThumbForgeModel", "emitBranch", "(I)V"⟩, 22) := ⟨⟨by decide +kernel, by decide +kernel⟩, List.mem_of_getElem? (i := 576) (by decide +kernel), List.mem_of_getElem? (i := 785) (by decide +kernel), List.mem_of_getElem? (i := 786) (by decide +kernel)⟩
theorem lw_p39 : lw_okq (⟨"ThumbForgeModel", "act", "(I)I"⟩, 22) := ⟨⟨by decide +kernel, by decide +kernel⟩, List.mem_of_getElem? (i := 576) (by decide +kernel), List.mem_of_getElem? (i := 818) (by decide +kernel), List.mem_of_getElem? (i := 819) (by decide +kernel)⟩
def lw_privs_3 : List (MethodName × Nat) := [(⟨"ThumbForgeModel", "keep", "(I)V"⟩, 22), (⟨"ThumbForgeModel", "emitCompute", "(IIII)V"⟩, 22), (⟨"ThumbForgeModel", "fetch", "(II)I"⟩, 22), (⟨"ThumbForgeModel", "copy", "(I)V"⟩, 22), (⟨"ThumbForgeModel", "emitPlace", "(I)V"⟩, 22), (⟨"ThumbForgeModel", "emitJump", "(I)V"⟩, 22), (⟨"ThumbForgeModel", "emitBranch", "(I)V"⟩, 22), (⟨"ThumbForgeModel", "act", "(I)I"⟩, 22)]
theorem lw_r3 : ∀ q ∈ lw_privs_3, lw_okq q := List.forall_mem_cons.mpr ⟨lw_p32, List.forall_mem_cons.mpr ⟨lw_p33, List.forall_mem_cons.mpr ⟨lw_p34, List.forall_mem_cons.mpr ⟨lw_p35, List.forall_mem_cons.mpr ⟨lw_p36, List.forall_mem_cons.mpr ⟨lw_p37, List.forall_mem_cons.mpr ⟨lw_p38, List.forall_mem_cons.mpr ⟨lw_p39, fun _ h => absurd h List.not_mem_nil⟩⟩⟩⟩⟩⟩⟩⟩
def lw_privs : List (MethodName × Nat) := lw_privs_1 ++ (lw_privs_2 ++ (lw_privs_3))
def lw_tbl : List Cond := k2_sels lw_privs ++ tables_1
theorem lw_privs_ok : ∀ q ∈ lw_privs, lw_okq q := by
  show ∀ q ∈ lw_privs_1 ++ (lw_privs_2 ++ (lw_privs_3)), lw_okq q
  exact List.forall_mem_append.mpr ⟨lw_r1, List.forall_mem_append.mpr ⟨lw_r2, lw_r3⟩⟩
-- ===== end of PART A; then your names; then what follows =====
end
section
/-! ===== BEGIN words of one list among another's, by their places ===== -/
theorem goodIn_r {big : List Cond} (ws : List Cond) (ps : List Nat) (hp : ws = ps.filterMap (fun i => big[i]?)) (h : ws.all goodWord = true) : GoodIn big ws := by
  intro w hw
  have h1 := List.all_eq_true.mp h w hw
  rw [hp] at hw
  obtain ⟨i, -, hi⟩ := List.mem_filterMap.mp hw
  have hm : w ∈ big := by first | exact List.mem_of_getElem? hi | exact List.getElem?_mem hi
  exact ⟨hm, good_of_word h1⟩
theorem goodIn_app {big a b : List Cond} (ha : GoodIn big a) (hb : GoodIn big b) : GoodIn big (a ++ b) := fun w h => (List.mem_append.mp h).elim (ha w) (hb w)
theorem goodIn_ca {big a b : List Cond} {c : Cond} (ha : GoodIn big (c :: a)) (hb : GoodIn big b) : GoodIn big (c :: (a ++ b)) := fun w h => (List.mem_cons.mp h).elim (fun e => ha w (List.mem_cons.mpr (Or.inl e))) (fun h => (List.mem_append.mp h).elim (fun h => ha w (List.mem_cons.mpr (Or.inr h))) (hb w))
theorem goodIn_sub {big ws : List Cond} (hm : ∀ w ∈ ws, w ∈ big) (h : ws.all goodWord = true) : GoodIn big ws := fun w hw => ⟨hm w hw, good_of_word (List.all_eq_true.mp h w hw)⟩
/-! ===== END ===== -/

/-! ===== BEGIN exceptions that leave a method, and their catching by the caller (launches without stack traces) ===== -/
section VXA
/-! The laws vx_back, vx_callV, vx_callS, vx_callSW, vx_throw0, vx_throwS follow proofs of the library, with one case more: JvmDerived/Free/Laws.lean (Back.of_free), Shelf42/LK1.lean (callV, callS), Shelf/KitTraced.lean (throwNew0V, throwNewS). -/

/-- where a method has thrown q: the class by its name, the cell, what was written, the world -/
def vx_T (XC : String → State → State → Prop) (st : State) (q : Addr) (t : State) (mc ms : Nat) (free : Addr → Prop) : Prop :=
  ∃ (E : String) (ce : Cell) (L : List Loc), XC E st t ∧ t.heap[q]? = some ce ∧ ce.vm = .none ∧ st.vm.findClass E = some ce.cls ∧ st.WarmedH t.vm ∧ st.sameButNew ({ t with vm := st.vm } : State) L mc ms ∧ ∀ z ∈ L, free z.base
def vx_Q (Qc : Array Value → State → Outcome → State → Prop) (XC : String → State → State → Prop) (mc ms : Nat) (free : Addr → Prop) : Array Value → State → Outcome → State → Prop := fun a st o t =>
  (Qc a st o t ∧ ∃ L, FrameEnd st o t L mc ms ∧ ∀ q ∈ L, free q.base) ∨ ∃ q, o = .threw q ∧ vx_T XC st q t mc ms free
/-- a callee that returns or throws -/
def vx_Met (l : Launch) (y : MethodName) (ws : List Cond) (rm : Room) (Pc : Array Value → State → Prop) (Qc : Array Value → State → Outcome → State → Prop) (XC : String → State → State → Prop) (mc ms : Nat) (free : Addr → Prop) : Prop :=
  MetFree l y (headSpec ws rm) Pc (fun _ _ _ _ _ => True) (vx_Q Qc XC mc ms free)
def vx_Post (XC : String → State → State → Prop) (mc ms : Nat) (free : Addr → Prop) : Pt → Array Value → Addr → Pt → Prop := fun A a q B =>
  ∃ (g : JFrame) (mk : MethodId) (t : State) (L : List Loc) (E : String) (ce : Cell), B.U.heap = t.heap ∧ B.U.vm = t.vm ∧ XC E (A.U.calling g mk a) t ∧ t.heap[q]? = some ce ∧ ce.vm = .none ∧ A.U.vm.findClass E = some ce.cls ∧ B.locs = A.locs ++ L ∧ (∀ z ∈ L, free z.base) ∧ B.cells = A.cells + mc ∧ B.slots = A.slots + ms
def vx_Back (l : Launch) (R : Room) (p : Program) (e : Env) (below : List Frame) (s : State) (sargs : Array Value) (y : MethodName) (len W9 : Nat)
    (Pre : Pt → Array Value → Prop) (Post : Pt → Array Value → Option Value → Pt → Prop) (PostX : Pt → Array Value → Addr → Pt → Prop) : Prop :=
  ∀ (m : MethodId) (meth : Method) (c : Code) (A : Pt) (g : JFrame) (ig : Instr) (mk : MethodId) (a : Array Value),
    Stand p l e R s m sargs below meth c A.U A.locs A.cells A.slots → g.method = m → g.locals.size = c.maxLocals → decode c.code g.pc = .ok (ig, len) →
    2 * g.monitorRoom + (g.stack.map fun v => v.category).sum ≤ W9 → A.U.methodNamed? y = some mk → Pre A a →
    (∃ (v : Option Value) (B : Pt), Stand p l e R s m sargs below meth c B.U B.locs B.cells B.slots ∧ Post A a v B ∧
      Steps p.tables e below (doInvoke e (A.U.setTop g) [] mk a).1 (B.U.setTop { g with pc := g.pc + len, stack := v.toList ++ g.stack })) ∨
    (∃ (q : Addr) (B : Pt), Stand p l e R s m sargs below meth c B.U B.locs B.cells B.slots ∧ PostX A a q B ∧
      Steps p.tables e below (doInvoke e (A.U.setTop g) [] mk a).1 ((B.U.setTop g).pushFrame (.throwing q)))
section Payer
variable {l : Launch} {R : Room} {p : Program} {e : Env} {below : List Frame} {s : State} {sargs : Array Value} {y : MethodName} {len W9 : Nat}
theorem vx_back {ws : List Cond} {rm : Room} {Pc : Array Value → State → Prop} {Qc : Array Value → State → Outcome → State → Prop} {XC : String → State → State → Prop} {mc ms : Nat} {free : Addr → Prop} {bytes : ByteArray} {maxL : Nat} {ret : Option FieldType}
    (hM : vx_Met l y ws rm Pc Qc XC mc ms free) (hblind : FrameBlind Pc) (hrc : rm.cells = mc) (hrs : rm.slots = ms)
    (hframes : rm.frames + 1 ≤ R.frames) (hlocals : W9 + (maxL + 11) + rm.locals ≤ R.locals)
    (hws : ∀ w ∈ ws, ∀ a' U, s.WarmedH U.vm → w.before a' U = true) (hcode : Cond.code y bytes maxL ret ∈ ws) (hinit : ∀ a' U, s.WarmedH U.vm → (Cond.initialized y.cls).before a' U = true) :
    vx_Back l R p e below s sargs y len W9 (PreOf R mc ms Pc) (PostOf Qc mc ms free) (vx_Post XC mc ms free) := by
  intro m meth c A g ig mk a X hg hsize hdg hW hn hp
  have h1 : (headSpec ws rm).pre.before a A.U = true := atoms_intro fun w hw => hws w hw _ _ X.warmed
  have h2 : (Cond.code y bytes maxL ret).before a A.U = true := hws _ hcode _ _ X.warmed
  have h3 : (Cond.initialized y.cls).before a A.U = true := hinit _ _ X.warmed
  have h4 : A.cells + (headSpec ws rm).room.cells ≤ R.cells := by rw [show (headSpec ws rm).room.cells = mc from hrc]; exact hp.1
  have h5 : A.slots + (headSpec ws rm).room.slots ≤ R.slots := by rw [show (headSpec ws rm).room.slots = ms from hrs]; exact hp.2.1
  have hPc : Pc a (A.U.calling g mk a) := hblind _ _ _ _ hp.2.2
  obtain ⟨U, Ls, c0, s0⟩ := A
  dsimp only [Pt.U, Pt.locs, Pt.cells, Pt.slots] at h1 h2 h3 h4 h5 X hn hPc ⊢
  obtain ⟨methY, cY, hmY, hcY, -, hlY, -, -, -, -⟩ := Cond.code_spec hn h2
  obtain ⟨kY, hkY, -⟩ := className_of_methodNamed hn
  have hinitY : kY.init = .initialized := Cond.initialized_spec (findClass_of_methodNamed hn) hkY h3
  have h : At U g.method c below := by rw [hg]; exact X.here
  have hlocals9 : W9 + (maxL + 11) + (headSpec ws rm).room.locals ≤ R.locals := hlocals
  have happ : (headSpec ws rm).appliesLoose y e.platform (U.calling g mk a) = true :=
    Spec.appliesLoose_calling (g := g) h hdg hn hkY hinitY
      (X.room_calling (g := g) (R' := (headSpec ws rm).room) hsize hmY hcY hframes (by rw [hlY]; omega) h4 h5) h1
  obtain ⟨mid, hmid⟩ := h.above
  have hfr : (U.setTop g).frames = (.java g :: mid) ++ below := by rw [State.frames_setTop' g h.top, hmid]; rfl
  obtain ⟨o, s₂, hsteps, -, hend, hq⟩ := Steps.callFree hM p X.admits X.cas X.clock (acts := []) hfr happ hPc trivial
  have hq' : vx_Q Qc XC mc ms free a (U.calling g mk a) o s₂ := hq
  rw [State.frames_setTop' g h.top] at hend
  obtain ⟨g₀, hg0⟩ := Option.isSome_iff_exists.mp h.top
  obtain ⟨r, hr⟩ := State.topJava?_eq_some.mp hg0
  have hr' : (({ U with heap := s₂.heap, slotsUsed := s₂.slotsUsed } : State).setVm s₂.vm).frames = .java g₀ :: r := hr
  rcases hq' with ⟨hqc, L, hfe, hL⟩ | ⟨q, rfl, E, ce, L, hx, hce, hcv, hcl, hW₂, hsm, hL⟩
  · obtain ⟨⟨v, rfl⟩, hW₂, e2, q2, q3, q4, q5, q6⟩ := id hfe
    have e3 : s₂ = ({ (U.calling g mk a).setFrames s₂.frames with heap := s₂.heap, slotsUsed := s₂.slotsUsed } : State).setVm s₂.vm := by
      have : s₂ = ({ s₂ with vm := (U.calling g mk a).vm } : State).setVm s₂.vm := rfl
      rw [e2] at this
      exact this
    obtain ⟨c₂, i₂, len₂, hc₂, hd₂, hf₂⟩ := hend
    have hW' : U.WarmedH s₂.vm := hW₂
    have hcc : c₂ = c := by
      have h1 : s₂.code? g.method = U.code? g.method := by
        rw [State.code?_eq, State.code?_eq, hW'.alike.method?]
      exact Option.some.inj (hc₂.symm.trans (h1.trans h.code))
    subst hcc
    have hlen : len₂ = len := by rw [hdg] at hd₂; cases hd₂; rfl
    subst hlen
    have hs₂ : s₂ = (({ U with heap := s₂.heap, slotsUsed := s₂.slotsUsed } : State).setVm s₂.vm).setTop { g with pc := g.pc + len₂, stack := v.toList ++ g.stack } := by
      refine e3.trans ?_
      rw [hf₂, State.calling_eq h.top, State.setFrames_setFrames, State.setTop_of_frames _ hr', hr]
      rfl
    have hsame : U.sameButNew ({ U with heap := s₂.heap, slotsUsed := s₂.slotsUsed } : State) L mc ms := by
      refine ⟨?_, q2, q3, q4, q5, q6⟩
      obtain ⟨t, ht, -⟩ := State.frames_cons hr
      show ({ U with heap := s₂.heap, slotsUsed := s₂.slotsUsed } : State) = { U.setFrames U.frames with heap := s₂.heap, slotsUsed := s₂.slotsUsed }
      rw [State.setFrames_self ht]
    subst hg
    refine Or.inl ⟨v, ⟨(({ U with heap := s₂.heap, slotsUsed := s₂.slotsUsed } : State).setVm s₂.vm), Ls ++ L, c0 + mc, s0 + ms⟩,
      ⟨X.admits, X.cas, X.clock, X.frames, X.room, X.hears, X.method, X.code, (X.here.setHeapUsed s₂.heap s₂.slotsUsed).setVm hW'.alike, X.tail, State.WarmedH.trans X.warmed hW', X.limits, X.bytes, X.same.trans (hsame.setVm s.vm)⟩,
      ⟨g, mk, s₂, L, rfl, rfl, hqc, rfl, hL, rfl, rfl⟩, ?_⟩
    show Steps p.tables e below _ ((({ U with heap := s₂.heap, slotsUsed := s₂.slotsUsed } : State).setVm s₂.vm).setTop { g with pc := g.pc + len₂, stack := v.toList ++ g.stack })
    rw [← hs₂]
    exact hsteps
  · obtain ⟨e2, q2, q3, q4, q5, q6⟩ := id hsm
    have e3 : s₂ = ({ (U.calling g mk a).setFrames s₂.frames with heap := s₂.heap, slotsUsed := s₂.slotsUsed } : State).setVm s₂.vm := by
      have : s₂ = ({ s₂ with vm := (U.calling g mk a).vm } : State).setVm s₂.vm := rfl
      rw [e2] at this
      exact this
    have hf₂ : s₂.frames = .throwing q :: .java g :: U.frames.tail := hend
    have hW' : U.WarmedH s₂.vm := hW₂
    have hs₂ : s₂ = ((({ U with heap := s₂.heap, slotsUsed := s₂.slotsUsed } : State).setVm s₂.vm).setTop g).pushFrame (.throwing q) := by
      refine e3.trans ?_
      rw [hf₂, State.calling_eq h.top, State.setFrames_setFrames, State.pushFrame, State.frames_setTop _ hr', State.setTop_of_frames _ hr', State.setFrames_setFrames, hr]
      rfl
    have hsame : U.sameButNew ({ U with heap := s₂.heap, slotsUsed := s₂.slotsUsed } : State) L mc ms := by
      refine ⟨?_, q2, q3, q4, q5, q6⟩
      obtain ⟨t, ht, -⟩ := State.frames_cons hr
      show ({ U with heap := s₂.heap, slotsUsed := s₂.slotsUsed } : State) = { U.setFrames U.frames with heap := s₂.heap, slotsUsed := s₂.slotsUsed }
      rw [State.setFrames_self ht]
    subst hg
    refine Or.inr ⟨q, ⟨(({ U with heap := s₂.heap, slotsUsed := s₂.slotsUsed } : State).setVm s₂.vm), Ls ++ L, c0 + mc, s0 + ms⟩,
      ⟨X.admits, X.cas, X.clock, X.frames, X.room, X.hears, X.method, X.code, (X.here.setHeapUsed s₂.heap s₂.slotsUsed).setVm hW'.alike, X.tail, State.WarmedH.trans X.warmed hW', X.limits, X.bytes, X.same.trans (hsame.setVm s.vm)⟩,
      ⟨g, mk, s₂, L, E, ce, rfl, rfl, hx, hce, hcv, hcl, rfl, hL, rfl, rfl⟩, ?_⟩
    show Steps p.tables e below _ (((({ U with heap := s₂.heap, slotsUsed := s₂.slotsUsed } : State).setVm s₂.vm).setTop g).pushFrame (.throwing q))
    rw [← hs₂]
    exact hsteps
end Payer
section Calls
variable {p : Program} {l : Launch} {e : Env} {R : Room} {s : State} {m : MethodId} {args : Array Value} {below : List Frame} {meth : Method} {c : Code} {T : State} {locs : List Loc} {cells slots : Nat}
theorem vx_callV (X : Stand p l e R s m args below meth c T locs cells slots) (hexec : p.tables.exec = Jvm.exec) {own C : String} {index : Nat} {y : MethodName} {bytes : ByteArray} {maxL : Nat} {ret : Option FieldType}
    (hown : s.vm.findClass own = some m.cls) (hlink : (Cond.methodLink own index y).before args s = true) (hinst : (Cond.instanceMethod y).before args s = true) (hsel : (Cond.selects C y y).before args s = true)
    (hcode : (Cond.code y bytes maxL ret).before args s = true) (hy : y.cls ≠ "java/lang/invoke/MethodHandle" ∧ y.cls ≠ "java/lang/invoke/VarHandle")
    {W9 : Nat} {Pre : Pt → Array Value → Prop} {Post : Pt → Array Value → Option Value → Pt → Prop} {PostX : Pt → Array Value → Addr → Pt → Prop} (hK : vx_Back l R p e below s args y 3 W9 Pre Post PostX)
    {b : Addr} {cellB : Cell} (hcell : T.heap[b]? = some cellB) (hobj : cellB.vm.isStatics = false) (hcls : s.vm.findClass C = some cellB.cls)
    {g : JFrame} (hg : g.method = m) (hsize : g.locals.size = c.maxLocals) {argsL rest : List Value} (hlen : ∀ sig, parseMethodDescriptor y.desc = some sig → argsL.length = sig.parameters.length)
    (hstack : g.stack = argsL.reverse ++ .ref b :: rest) (hW : 2 * g.monitorRoom + (rest.map fun v => v.category).sum ≤ W9) (hdg : decode c.code g.pc = .ok (.invokevirtual index, 3))
    (hpre : ∀ vm₁, s.WarmedH vm₁ → Pre ⟨T.setVm vm₁, locs, cells, slots⟩ (Value.ref b :: argsL).toArray) :
    (∃ (v : Option Value) (vm₁ : Vm) (B : Pt), s.WarmedH vm₁ ∧ Stand p l e R s m args below meth c B.U B.locs B.cells B.slots ∧ Post ⟨T.setVm vm₁, locs, cells, slots⟩ (Value.ref b :: argsL).toArray v B ∧
      ∀ target, Steps p.tables e below (B.U.setTop { g with pc := g.pc + 3, stack := v.toList ++ rest }) target → Steps p.tables e below (T.setTop g) target) ∨
    (∃ (q : Addr) (vm₁ : Vm) (B : Pt), s.WarmedH vm₁ ∧ Stand p l e R s m args below meth c B.U B.locs B.cells B.slots ∧ PostX ⟨T.setVm vm₁, locs, cells, slots⟩ (Value.ref b :: argsL).toArray q B ∧
      Steps p.tables e below (T.setTop g) ((B.U.setTop { g with stack := rest }).pushFrame (.throwing q))) := by
  obtain ⟨mk, methM, hnamed, hmethM, hstM, habM⟩ := Cond.instanceMethod_spec hinst
  obtain ⟨methM', cM, hmethM', -, -, -, -, -, -, hsigM⟩ := Cond.code_spec hnamed hcode
  cases hmethM.symm.trans hmethM'
  obtain ⟨c2, r2, m2, q1, q2, q3, q4, kP, hkP, hkPi⟩ := Cond.selects_spec hsel
  cases hcls.symm.trans q1
  cases (State.methodFound?_of_named hnamed hy).symm.trans q2
  cases hnamed.symm.trans q3
  have hselP : selectMethod e.platform s.vm cellB.cls mk = .method mk := by rw [Launch.admits_selectMethod X.admits]; exact q4
  obtain ⟨vm₁, X₁, hstep₁⟩ := X.invokevirtual hexec hown hlink hnamed hmethM hstM hkP hkPi hy (a := b) (cell := cellB) hcell
    (fun z h => by rw [h] at hobj; cases hobj) hselP hmethM habM hkP hkPi (g := g) hg (argsL := argsL) (rest := rest) (hlen _ hsigM) hstack hdg
  rcases hK m meth c ⟨T.setVm vm₁, locs, cells, slots⟩ { g with stack := rest } (.invokevirtual index) mk (Value.ref b :: argsL).toArray X₁ hg hsize hdg hW (X₁.named hnamed) (hpre vm₁ X₁.warmed) with ⟨v, B, X', hpost, hsteps⟩ | ⟨q, B, X', hpost, hsteps⟩
  · exact Or.inl ⟨v, vm₁, B, X₁.warmed, X', hpost, fun target h => hstep₁ _ fun acts => by rw [doInvoke_state]; exact hsteps.trans h⟩
  · exact Or.inr ⟨q, vm₁, B, X₁.warmed, X', hpost, hstep₁ _ fun acts => by rw [doInvoke_state]; exact hsteps⟩
theorem vx_callS (X : Stand p l e R s m args below meth c T locs cells slots) (hexec : p.tables.exec = Jvm.exec) {own : String} {index : Nat} {y : MethodName} {bytes : ByteArray} {maxL : Nat} {ret : Option FieldType}
    (hown : s.vm.findClass own = some m.cls) (hlink : (Cond.methodLink own index y).before args s = true) (hstat : (Cond.static y).before args s = true) (hinit : (Cond.initialized y.cls).before args s = true)
    (hcode : (Cond.code y bytes maxL ret).before args s = true) (hy : y.cls ≠ "java/lang/invoke/MethodHandle" ∧ y.cls ≠ "java/lang/invoke/VarHandle")
    {W9 : Nat} {Pre : Pt → Array Value → Prop} {Post : Pt → Array Value → Option Value → Pt → Prop} {PostX : Pt → Array Value → Addr → Pt → Prop} (hK : vx_Back l R p e below s args y 3 W9 Pre Post PostX)
    {g : JFrame} (hg : g.method = m) (hsize : g.locals.size = c.maxLocals) {argsL rest : List Value} (hlen : ∀ sig, parseMethodDescriptor y.desc = some sig → argsL.length = sig.parameters.length)
    (hstack : g.stack = argsL.reverse ++ rest) (hW : 2 * g.monitorRoom + (rest.map fun v => v.category).sum ≤ W9) (hdg : decode c.code g.pc = .ok (.invokestatic index, 3))
    (hpre : ∀ vm₁, s.WarmedH vm₁ → Pre ⟨T.setVm vm₁, locs, cells, slots⟩ argsL.toArray) :
    (∃ (v : Option Value) (vm₁ : Vm) (B : Pt), s.WarmedH vm₁ ∧ Stand p l e R s m args below meth c B.U B.locs B.cells B.slots ∧ Post ⟨T.setVm vm₁, locs, cells, slots⟩ argsL.toArray v B ∧
      ∀ target, Steps p.tables e below (B.U.setTop { g with pc := g.pc + 3, stack := v.toList ++ rest }) target → Steps p.tables e below (T.setTop g) target) ∨
    (∃ (q : Addr) (vm₁ : Vm) (B : Pt), s.WarmedH vm₁ ∧ Stand p l e R s m args below meth c B.U B.locs B.cells B.slots ∧ PostX ⟨T.setVm vm₁, locs, cells, slots⟩ argsL.toArray q B ∧
      Steps p.tables e below (T.setTop g) ((B.U.setTop { g with stack := rest }).pushFrame (.throwing q))) := by
  obtain ⟨mk, hnamed⟩ := Cond.code_named hcode
  obtain ⟨methM, cM, hmethM, -, -, -, -, -, -, hsigM⟩ := Cond.code_spec hnamed hcode
  have hstatic : methM.isStatic = true := Cond.static_spec hnamed hmethM hstat
  obtain ⟨kP, hkP, -⟩ := className_of_methodNamed hnamed
  have hinitP : kP.init = .initialized := Cond.initialized_spec (findClass_of_methodNamed hnamed) hkP hinit
  obtain ⟨vm₁, X₁, hstep₁⟩ := X.invokestatic hexec hown hlink hnamed hmethM hstatic hkP hinitP hy (g := g) hg (argsL := argsL) (rest := rest) (hlen _ hsigM) hstack hdg
  rcases hK m meth c ⟨T.setVm vm₁, locs, cells, slots⟩ { g with stack := rest } (.invokestatic index) mk argsL.toArray X₁ hg hsize hdg hW (X₁.named hnamed) (hpre vm₁ X₁.warmed) with ⟨v, B, X', hpost, hsteps⟩ | ⟨q, B, X', hpost, hsteps⟩
  · exact Or.inl ⟨v, vm₁, B, X₁.warmed, X', hpost, fun target h => hstep₁ _ fun acts => by rw [doInvoke_state]; exact hsteps.trans h⟩
  · exact Or.inr ⟨q, vm₁, B, X₁.warmed, X', hpost, hstep₁ _ fun acts => by rw [doInvoke_state]; exact hsteps⟩
end Calls
theorem vx_cls {s : State} {T : State} {vm₁ : Vm} {E : String} {k : ClassId} (hW : s.WarmedH vm₁) (h : (T.setVm vm₁).vm.findClass E = some k) : s.vm.findClass E = some k := by
  have h1 : vm₁.findClass E = some k := h
  rw [hW.alike.findClass] at h1
  exact h1
/-- the method's frame g, with q thrown over it -/
def vx_W (p : Program) (l : Launch) (e : Env) (R : Room) (s : State) (m : MethodId) (args : Array Value) (below : List Frame) (meth : Method) (c : Code) (H : Heap) (locs : List Loc) (cells slots : Nat) (Q : State → Prop) (g : JFrame) (q : Addr) : Prop :=
  ∀ T : State, T.heap = H → Stand p l e R s m args below meth c T locs cells slots → ∃ t, Steps p.tables e below ((T.setTop g).pushFrame (.throwing q)) t ∧ Q t
def vx_Run (p : Program) (l : Launch) (e : Env) (R : Room) (s : State) (m : MethodId) (args : Array Value) (below : List Frame) (meth : Method) (c : Code) (H : Heap) (locs : List Loc) (cells slots mc ms : Nat) (g : JFrame) (rest : List Value) (Qa : State → Outcome → State → Prop) (XC : String → State → State → Prop) (free : Addr → Prop) : Prop :=
  ∀ T : State, T.heap = H → Stand p l e R s m args below meth c T locs cells slots →
    (∃ (v : Option Value) (st₀ t T' : State) (L : List Loc), st₀.heap = H ∧ Stand p l e R s m args below meth c T' (locs ++ L) (cells + mc) (slots + ms) ∧ (∀ q ∈ L, free q.base) ∧ T'.heap = t.heap ∧ T'.vm = t.vm ∧ Qa st₀ (.returned v) t ∧
      Goes p e below T g T' { g with pc := g.pc + 3, stack := v.toList ++ rest }) ∨
    (∃ (q : Addr) (st₀ t T' : State) (L : List Loc) (E : String) (ce : Cell), st₀.heap = H ∧ Stand p l e R s m args below meth c T' (locs ++ L) (cells + mc) (slots + ms) ∧ (∀ z ∈ L, free z.base) ∧ T'.heap = t.heap ∧ T'.vm = t.vm ∧ XC E st₀ t ∧ t.heap[q]? = some ce ∧ ce.vm = .none ∧ s.vm.findClass E = some ce.cls ∧
      Steps p.tables e below (T.setTop g) ((T'.setTop { g with stack := rest }).pushFrame (.throwing q)))
def vx_X {S : Type} (px : S → Prop) (B : String → S → State → Prop) (A : Nat → Prop) : String → State → State → Prop := fun E st t => ∃ u : S, px u ∧ B E u t ∧ va_F A st t
section Runs
variable {p : Program} {l : Launch} {e : Env} {R : Room} {s : State} {m : MethodId} {args : Array Value} {below : List Frame} {meth : Method} {c : Code} {H : Heap} {locs : List Loc} {cells slots : Nat}
variable {y : MethodName} {bytes cc : ByteArray} {maxL nL mc ms n index : Nat} {ret : Option FieldType} {ws : List Cond} {rm : Room} {Pc : Array Value → State → Prop} {Qc : Array Value → State → Outcome → State → Prop} {XC : String → State → State → Prop} {free : Addr → Prop} {Ts : List Cond} {own C : String} {b : Addr} {As rest : List Value} {g : JFrame}
theorem vx_callBack (cb : CallB R s args own index y bytes maxL ret ws rm mc ms n) (hM : vx_Met l y ws rm Pc Qc XC mc ms free) (hbl : FrameBlind Pc) : vx_Back l R p e below s args y 3 8 (PreOf R mc ms Pc) (PostOf Qc mc ms free) (vx_Post XC mc ms free) := by
  obtain ⟨hrc, hrs, hfr, hlo, hws, hcw, -, hini, -⟩ := cb
  exact vx_back (bytes := bytes) (maxL := maxL) (ret := ret) hM hbl hrc hrs hfr hlo hws hcw (fun a' U hW => word_at hW (Or.inl (by first | rfl | simp [Cond.onTables, Cond.keeps, Cond.steady])) hini)
theorem vx_runV (S : CallFix p m c cc nL s args Ts own) (hM : vx_Met l y ws rm Pc Qc XC mc ms free) (cw : CallW R s args own C index y bytes maxL ret ws rm mc ms n) (hp : PreV s H C b Pc As)
    (hg : g.method = m) (hn : As.length = n) (hsize : g.locals.size = nL) (hstack : g.stack = As.reverse ++ .ref b :: rest) (hW : 2 * g.monitorRoom + (rest.map fun v => v.category).sum ≤ 8) (hdg : decode cc g.pc = .ok (.invokevirtual index, 3)) (hf : cells + mc ≤ R.cells ∧ slots + ms ≤ R.slots) :
    vx_Run p l e R s m args below meth c H locs cells slots mc ms g rest (Qc (Value.ref b :: As).toArray) XC free := by
  have hK : vx_Back l R p e below s args y 3 8 (PreOf R mc ms Pc) (PostOf Qc mc ms free) (vx_Post XC mc ms free) := vx_callBack cw.1 hM hp.1
  obtain ⟨⟨-, -, -, -, -, -, hcode, -, hy, hlen, hl⟩, hin, hse⟩ := cw
  obtain ⟨hx, hb, hml, ho, -⟩ := S
  obtain ⟨-, ⟨cellB, hcB, hoB, hclB⟩, hPc⟩ := hp
  intro T hT X
  rcases vx_callV X hx (C := C) (bytes := bytes) (maxL := maxL) (ret := ret) ho hl hin hse hcode hy hK (by rw [hT]; exact hcB) hoB hclB hg (hsize.trans hml.symm) (argsL := As) (rest := rest) (fun sig h => hn.trans (hlen sig h)) hstack hW (by rw [hb]; exact hdg)
    (fun vm₁ hW₁ => ⟨hf.1, hf.2, hPc (T.setVm vm₁) hT hW₁⟩) with ⟨v, vm₁, ⟨U', l2, c2, s2⟩, hW₁, X', ⟨g', mk, t, L, e1, e2, hq, h1, hL, h2, h3⟩, st⟩ | ⟨q, vm₁, ⟨U', l2, c2, s2⟩, hW₁, X', ⟨g', mk, t, L, E, ce, e1, e2, hq, hce, hcv, hcl, h1, hL, h2, h3⟩, st⟩
  · dsimp only [Pt.U, Pt.locs, Pt.cells, Pt.slots] at X' e1 e2 h1 h2 h3 st
    subst h1; subst h2; subst h3
    exact Or.inl ⟨v, (T.setVm vm₁).calling g' mk (Value.ref b :: As).toArray, t, U', L, hT, X', hL, e1, e2, hq, st⟩
  · dsimp only [Pt.U, Pt.locs, Pt.cells, Pt.slots] at X' e1 e2 h1 h2 h3 st hcl
    subst h1; subst h2; subst h3
    exact Or.inr ⟨q, (T.setVm vm₁).calling g' mk (Value.ref b :: As).toArray, t, U', L, E, ce, hT, X', hL, e1, e2, hq, hce, hcv, vx_cls hW₁ hcl, st⟩
theorem vx_runS (S : CallFix p m c cc nL s args Ts own) (hM : vx_Met l y ws rm Pc Qc XC mc ms free) (cw : CallB R s args own index y bytes maxL ret ws rm mc ms n ∧ (Cond.static y).before args s = true) (hp : PreS s H Pc As)
    (hg : g.method = m) (hn : As.length = n) (hsize : g.locals.size = nL) (hstack : g.stack = As.reverse ++ rest) (hW : 2 * g.monitorRoom + (rest.map fun v => v.category).sum ≤ 8) (hdg : decode cc g.pc = .ok (.invokestatic index, 3)) (hf : cells + mc ≤ R.cells ∧ slots + ms ≤ R.slots) :
    vx_Run p l e R s m args below meth c H locs cells slots mc ms g rest (Qc As.toArray) XC free := by
  have hK : vx_Back l R p e below s args y 3 8 (PreOf R mc ms Pc) (PostOf Qc mc ms free) (vx_Post XC mc ms free) := vx_callBack cw.1 hM hp.1
  obtain ⟨⟨-, -, -, -, -, -, hcode, hini, hy, hlen, hl⟩, hstt⟩ := cw
  obtain ⟨hx, hb, hml, ho, -⟩ := S
  intro T hT X
  rcases vx_callS X hx (bytes := bytes) (maxL := maxL) (ret := ret) ho hl hstt hini hcode hy hK hg (hsize.trans hml.symm) (argsL := As) (rest := rest) (fun sig h => hn.trans (hlen sig h)) hstack hW (by rw [hb]; exact hdg)
    (fun vm₁ hW₁ => ⟨hf.1, hf.2, hp.2 (T.setVm vm₁) hT hW₁⟩) with ⟨v, vm₁, ⟨U', l2, c2, s2⟩, hW₁, X', ⟨g', mk, t, L, e1, e2, hq, h1, hL, h2, h3⟩, st⟩ | ⟨q, vm₁, ⟨U', l2, c2, s2⟩, hW₁, X', ⟨g', mk, t, L, E, ce, e1, e2, hq, hce, hcv, hcl, h1, hL, h2, h3⟩, st⟩
  · dsimp only [Pt.U, Pt.locs, Pt.cells, Pt.slots] at X' e1 e2 h1 h2 h3 st
    subst h1; subst h2; subst h3
    exact Or.inl ⟨v, (T.setVm vm₁).calling g' mk As.toArray, t, U', L, hT, X', hL, e1, e2, hq, st⟩
  · dsimp only [Pt.U, Pt.locs, Pt.cells, Pt.slots] at X' e1 e2 h1 h2 h3 st hcl
    subst h1; subst h2; subst h3
    exact Or.inr ⟨q, (T.setVm vm₁).calling g' mk As.toArray, t, U', L, E, ce, hT, X', hL, e1, e2, hq, hce, hcv, vx_cls hW₁ hcl, st⟩
end Runs
section Rows
variable {p : Program} {l : Launch} {e : Env} {R : Room} {s : State} {m : MethodId} {args : Array Value} {below : List Frame} {meth : Method} {c : Code} {H : Heap} {locs : List Loc} {cells slots : Nat} {Q : State → Prop}
variable {mc ms : Nat} {free : Addr → Prop} {A0 A1 : Nat → Prop} {H0 : Heap} {a : Array Value} {pc : Nat} {ls : Array Slot} {st0 rest : List Value}
theorem vx_keep {st₀ t T' : State} {L : List Loc} (h0 : st₀.heap = H) (e1 : T'.heap = t.heap) (hS : va_S A0 H0 H locs) (hA : ∀ q, q < H.size → A1 q → A0 q) (hf : ∀ q, free q → A0 q) (hL : ∀ q ∈ L, free q.base) (hF : va_F A1 st₀ t) :
    H.size ≤ T'.heap.size ∧ (∀ q : Nat, q < H.size → ¬ A1 q → T'.heap[q]? = H[q]?) ∧ va_S A0 H0 T'.heap (locs ++ L) := by
  obtain ⟨hz, hk⟩ := hF
  rw [h0] at hz hk
  exact ⟨by rw [e1]; exact hz, fun q h1 h2 => by rw [e1]; exact hk q h1 h2,
    ⟨Nat.le_trans hS.1 (by rw [e1]; exact hz), fun q h1 h2 => by rw [e1, hk q (Nat.lt_of_lt_of_le h1 hS.1) (fun z => h2 (hA q (Nat.lt_of_lt_of_le h1 hS.1) z))]; exact hS.2.1 q h1 h2, fun q hq => by
      rcases List.mem_append.mp hq with h | h
      · exact hS.2.2 q h
      · exact hf _ (hL q h)⟩⟩
theorem vx_calli {S SX : Type} {post : Int32 → S → Prop} {px : SX → Prop} {B : S → State → Prop} {BX : String → SX → State → Prop} {AX : Nat → Prop} (hr : vx_Run p l e R s m args below meth c H locs cells slots mc ms (F0 m pc ls st0) rest (va_Qi post B A1 a) (vx_X px BX AX) free) (hS : va_S A0 H0 H locs) (hA : ∀ q, q < H.size → A1 q → A0 q) (hf : ∀ q, free q → A0 q) (hAX : ∀ q, q < H.size → AX q → A0 q)
    (kx : ∀ (E : String) (ce : Cell) (q9 : Addr) (u : SX) (t : State) (H1 : Heap) (locs1 : List Loc), t.heap = H1 → s.vm.Alike t.vm → px u → BX E u t → H.size ≤ H1.size → (∀ q : Nat, q < H.size → ¬ AX q → H1[q]? = H[q]?) → va_S A0 H0 H1 locs1 → H1[q9]? = some ce → ce.vm = .none → s.vm.findClass E = some ce.cls → vx_W p l e R s m args below meth c H1 locs1 (cells + mc) (slots + ms) Q (F0 m pc ls rest) q9)
    (kk : ∀ (r : Int32) (u : S) (t : State) (H1 : Heap) (locs1 : List Loc), t.heap = H1 → s.vm.Alike t.vm → post r u → B u t → H.size ≤ H1.size → (∀ q : Nat, q < H.size → ¬ A1 q → H1[q]? = H[q]?) → va_S A0 H0 H1 locs1 → W p l e R s m args below meth c H1 locs1 (cells + mc) (slots + ms) Q (F0 m (pc + 3) ls (.int r :: rest))) : W p l e R s m args below meth c H locs cells slots Q (F0 m pc ls st0) := by
  intro T hT X
  rcases hr T hT X with ⟨v, st₀, t, T', L, h0, X', hL, e1, e2, ⟨⟨r, u, hv, hp, hb⟩, hF⟩, st⟩ | ⟨q, st₀, t, T', L, E, ce, h0, X', hL, e1, e2, ⟨u, hp, hb, hF⟩, hce, hcv, hcl, st⟩
  · cases hv
    obtain ⟨k1, k2, k3⟩ := vx_keep h0 e1 hS hA hf hL hF
    obtain ⟨t2, a1, b1⟩ := kk r u t T'.heap (locs ++ L) e1.symm (by rw [← e2]; exact X'.warmed.alike) hp hb k1 k2 k3 T' rfl X'
    exact ⟨t2, st t2 a1, b1⟩
  · obtain ⟨k1, k2, k3⟩ := vx_keep h0 e1 hS hAX hf hL hF
    obtain ⟨t2, a1, b1⟩ := kx E ce q u t T'.heap (locs ++ L) e1.symm (by rw [← e2]; exact X'.warmed.alike) hp hb k1 k2 k3 (by rw [e1]; exact hce) hcv hcl T' rfl X'
    exact ⟨t2, st.trans a1, b1⟩
theorem vx_calll {S SX : Type} {post : Int64 → S → Prop} {px : SX → Prop} {B : S → State → Prop} {BX : String → SX → State → Prop} {AX : Nat → Prop} (hr : vx_Run p l e R s m args below meth c H locs cells slots mc ms (F0 m pc ls st0) rest (va_Ql post B A1 a) (vx_X px BX AX) free) (hS : va_S A0 H0 H locs) (hA : ∀ q, q < H.size → A1 q → A0 q) (hf : ∀ q, free q → A0 q) (hAX : ∀ q, q < H.size → AX q → A0 q)
    (kx : ∀ (E : String) (ce : Cell) (q9 : Addr) (u : SX) (t : State) (H1 : Heap) (locs1 : List Loc), t.heap = H1 → s.vm.Alike t.vm → px u → BX E u t → H.size ≤ H1.size → (∀ q : Nat, q < H.size → ¬ AX q → H1[q]? = H[q]?) → va_S A0 H0 H1 locs1 → H1[q9]? = some ce → ce.vm = .none → s.vm.findClass E = some ce.cls → vx_W p l e R s m args below meth c H1 locs1 (cells + mc) (slots + ms) Q (F0 m pc ls rest) q9)
    (kk : ∀ (r : Int64) (u : S) (t : State) (H1 : Heap) (locs1 : List Loc), t.heap = H1 → s.vm.Alike t.vm → post r u → B u t → H.size ≤ H1.size → (∀ q : Nat, q < H.size → ¬ A1 q → H1[q]? = H[q]?) → va_S A0 H0 H1 locs1 → W p l e R s m args below meth c H1 locs1 (cells + mc) (slots + ms) Q (F0 m (pc + 3) ls (.long r :: rest))) : W p l e R s m args below meth c H locs cells slots Q (F0 m pc ls st0) := by
  intro T hT X
  rcases hr T hT X with ⟨v, st₀, t, T', L, h0, X', hL, e1, e2, ⟨⟨r, u, hv, hp, hb⟩, hF⟩, st⟩ | ⟨q, st₀, t, T', L, E, ce, h0, X', hL, e1, e2, ⟨u, hp, hb, hF⟩, hce, hcv, hcl, st⟩
  · cases hv
    obtain ⟨k1, k2, k3⟩ := vx_keep h0 e1 hS hA hf hL hF
    obtain ⟨t2, a1, b1⟩ := kk r u t T'.heap (locs ++ L) e1.symm (by rw [← e2]; exact X'.warmed.alike) hp hb k1 k2 k3 T' rfl X'
    exact ⟨t2, st t2 a1, b1⟩
  · obtain ⟨k1, k2, k3⟩ := vx_keep h0 e1 hS hAX hf hL hF
    obtain ⟨t2, a1, b1⟩ := kx E ce q u t T'.heap (locs ++ L) e1.symm (by rw [← e2]; exact X'.warmed.alike) hp hb k1 k2 k3 (by rw [e1]; exact hce) hcv hcl T' rfl X'
    exact ⟨t2, st.trans a1, b1⟩
theorem vx_callf {S SX : Type} {post : UInt32 → S → Prop} {px : SX → Prop} {B : S → State → Prop} {BX : String → SX → State → Prop} {AX : Nat → Prop} (hr : vx_Run p l e R s m args below meth c H locs cells slots mc ms (F0 m pc ls st0) rest (va_Qf post B A1 a) (vx_X px BX AX) free) (hS : va_S A0 H0 H locs) (hA : ∀ q, q < H.size → A1 q → A0 q) (hf : ∀ q, free q → A0 q) (hAX : ∀ q, q < H.size → AX q → A0 q)
    (kx : ∀ (E : String) (ce : Cell) (q9 : Addr) (u : SX) (t : State) (H1 : Heap) (locs1 : List Loc), t.heap = H1 → s.vm.Alike t.vm → px u → BX E u t → H.size ≤ H1.size → (∀ q : Nat, q < H.size → ¬ AX q → H1[q]? = H[q]?) → va_S A0 H0 H1 locs1 → H1[q9]? = some ce → ce.vm = .none → s.vm.findClass E = some ce.cls → vx_W p l e R s m args below meth c H1 locs1 (cells + mc) (slots + ms) Q (F0 m pc ls rest) q9)
    (kk : ∀ (r : UInt32) (u : S) (t : State) (H1 : Heap) (locs1 : List Loc), t.heap = H1 → s.vm.Alike t.vm → post r u → B u t → H.size ≤ H1.size → (∀ q : Nat, q < H.size → ¬ A1 q → H1[q]? = H[q]?) → va_S A0 H0 H1 locs1 → W p l e R s m args below meth c H1 locs1 (cells + mc) (slots + ms) Q (F0 m (pc + 3) ls (.float r :: rest))) : W p l e R s m args below meth c H locs cells slots Q (F0 m pc ls st0) := by
  intro T hT X
  rcases hr T hT X with ⟨v, st₀, t, T', L, h0, X', hL, e1, e2, ⟨⟨r, u, hv, hp, hb⟩, hF⟩, st⟩ | ⟨q, st₀, t, T', L, E, ce, h0, X', hL, e1, e2, ⟨u, hp, hb, hF⟩, hce, hcv, hcl, st⟩
  · cases hv
    obtain ⟨k1, k2, k3⟩ := vx_keep h0 e1 hS hA hf hL hF
    obtain ⟨t2, a1, b1⟩ := kk r u t T'.heap (locs ++ L) e1.symm (by rw [← e2]; exact X'.warmed.alike) hp hb k1 k2 k3 T' rfl X'
    exact ⟨t2, st t2 a1, b1⟩
  · obtain ⟨k1, k2, k3⟩ := vx_keep h0 e1 hS hAX hf hL hF
    obtain ⟨t2, a1, b1⟩ := kx E ce q u t T'.heap (locs ++ L) e1.symm (by rw [← e2]; exact X'.warmed.alike) hp hb k1 k2 k3 (by rw [e1]; exact hce) hcv hcl T' rfl X'
    exact ⟨t2, st.trans a1, b1⟩
theorem vx_calld {S SX : Type} {post : UInt64 → S → Prop} {px : SX → Prop} {B : S → State → Prop} {BX : String → SX → State → Prop} {AX : Nat → Prop} (hr : vx_Run p l e R s m args below meth c H locs cells slots mc ms (F0 m pc ls st0) rest (va_Qd post B A1 a) (vx_X px BX AX) free) (hS : va_S A0 H0 H locs) (hA : ∀ q, q < H.size → A1 q → A0 q) (hf : ∀ q, free q → A0 q) (hAX : ∀ q, q < H.size → AX q → A0 q)
    (kx : ∀ (E : String) (ce : Cell) (q9 : Addr) (u : SX) (t : State) (H1 : Heap) (locs1 : List Loc), t.heap = H1 → s.vm.Alike t.vm → px u → BX E u t → H.size ≤ H1.size → (∀ q : Nat, q < H.size → ¬ AX q → H1[q]? = H[q]?) → va_S A0 H0 H1 locs1 → H1[q9]? = some ce → ce.vm = .none → s.vm.findClass E = some ce.cls → vx_W p l e R s m args below meth c H1 locs1 (cells + mc) (slots + ms) Q (F0 m pc ls rest) q9)
    (kk : ∀ (r : UInt64) (u : S) (t : State) (H1 : Heap) (locs1 : List Loc), t.heap = H1 → s.vm.Alike t.vm → post r u → B u t → H.size ≤ H1.size → (∀ q : Nat, q < H.size → ¬ A1 q → H1[q]? = H[q]?) → va_S A0 H0 H1 locs1 → W p l e R s m args below meth c H1 locs1 (cells + mc) (slots + ms) Q (F0 m (pc + 3) ls (.double r :: rest))) : W p l e R s m args below meth c H locs cells slots Q (F0 m pc ls st0) := by
  intro T hT X
  rcases hr T hT X with ⟨v, st₀, t, T', L, h0, X', hL, e1, e2, ⟨⟨r, u, hv, hp, hb⟩, hF⟩, st⟩ | ⟨q, st₀, t, T', L, E, ce, h0, X', hL, e1, e2, ⟨u, hp, hb, hF⟩, hce, hcv, hcl, st⟩
  · cases hv
    obtain ⟨k1, k2, k3⟩ := vx_keep h0 e1 hS hA hf hL hF
    obtain ⟨t2, a1, b1⟩ := kk r u t T'.heap (locs ++ L) e1.symm (by rw [← e2]; exact X'.warmed.alike) hp hb k1 k2 k3 T' rfl X'
    exact ⟨t2, st t2 a1, b1⟩
  · obtain ⟨k1, k2, k3⟩ := vx_keep h0 e1 hS hAX hf hL hF
    obtain ⟨t2, a1, b1⟩ := kx E ce q u t T'.heap (locs ++ L) e1.symm (by rw [← e2]; exact X'.warmed.alike) hp hb k1 k2 k3 (by rw [e1]; exact hce) hcv hcl T' rfl X'
    exact ⟨t2, st.trans a1, b1⟩
theorem vx_callv {S SX : Type} {post : S → Prop} {px : SX → Prop} {B : S → State → Prop} {BX : String → SX → State → Prop} {AX : Nat → Prop} (hr : vx_Run p l e R s m args below meth c H locs cells slots mc ms (F0 m pc ls st0) rest (va_Qv post B A1 a) (vx_X px BX AX) free) (hS : va_S A0 H0 H locs) (hA : ∀ q, q < H.size → A1 q → A0 q) (hf : ∀ q, free q → A0 q) (hAX : ∀ q, q < H.size → AX q → A0 q)
    (kx : ∀ (E : String) (ce : Cell) (q9 : Addr) (u : SX) (t : State) (H1 : Heap) (locs1 : List Loc), t.heap = H1 → s.vm.Alike t.vm → px u → BX E u t → H.size ≤ H1.size → (∀ q : Nat, q < H.size → ¬ AX q → H1[q]? = H[q]?) → va_S A0 H0 H1 locs1 → H1[q9]? = some ce → ce.vm = .none → s.vm.findClass E = some ce.cls → vx_W p l e R s m args below meth c H1 locs1 (cells + mc) (slots + ms) Q (F0 m pc ls rest) q9)
    (kk : ∀ (u : S) (t : State) (H1 : Heap) (locs1 : List Loc), t.heap = H1 → s.vm.Alike t.vm → post u → B u t → H.size ≤ H1.size → (∀ q : Nat, q < H.size → ¬ A1 q → H1[q]? = H[q]?) → va_S A0 H0 H1 locs1 → W p l e R s m args below meth c H1 locs1 (cells + mc) (slots + ms) Q (F0 m (pc + 3) ls (rest))) : W p l e R s m args below meth c H locs cells slots Q (F0 m pc ls st0) := by
  intro T hT X
  rcases hr T hT X with ⟨v, st₀, t, T', L, h0, X', hL, e1, e2, ⟨⟨u, hv, hp, hb⟩, hF⟩, st⟩ | ⟨q, st₀, t, T', L, E, ce, h0, X', hL, e1, e2, ⟨u, hp, hb, hF⟩, hce, hcv, hcl, st⟩
  · cases hv
    obtain ⟨k1, k2, k3⟩ := vx_keep h0 e1 hS hA hf hL hF
    obtain ⟨t2, a1, b1⟩ := kk u t T'.heap (locs ++ L) e1.symm (by rw [← e2]; exact X'.warmed.alike) hp hb k1 k2 k3 T' rfl X'
    exact ⟨t2, st t2 a1, b1⟩
  · obtain ⟨k1, k2, k3⟩ := vx_keep h0 e1 hS hAX hf hL hF
    obtain ⟨t2, a1, b1⟩ := kx E ce q u t T'.heap (locs ++ L) e1.symm (by rw [← e2]; exact X'.warmed.alike) hp hb k1 k2 k3 (by rw [e1]; exact hce) hcv hcl T' rfl X'
    exact ⟨t2, st.trans a1, b1⟩
/-- caught by the row x of this method's table; the rows ahead don't take it -/
theorem vx_catch {own name : String} {E : String} {ce : Cell} {q : Addr} (hown : s.vm.findClass own = some m.cls) (pre : List ExceptionTableEntry) (x : ExceptionTableEntry) (suf : List ExceptionTableEntry) (hsplit : c.exceptionTable.toList = pre ++ x :: suf)
    (hpass : ∀ z ∈ pre, covers z pc = false ∨ (z.catchType ≠ 0 ∧ ∃ nm : String, (Cond.classLink own z.catchType nm).before args s = true ∧ va_Nc E nm s)) (hx : covers x pc = true) (h0 : x.catchType ≠ 0)
    (hlink : (Cond.classLink own x.catchType name).before args s = true) (hcast : (Cond.castable E name).before args s = true) (hcell : H[q]? = some ce) (hv : ce.vm = .none) (hcl : s.vm.findClass E = some ce.cls)
    (kk : W p l e R s m args below meth c H locs cells slots Q (F0 m x.handlerPc ls [.ref q])) : vx_W p l e R s m args below meth c H locs cells slots Q (F0 m pc ls rest) q := by
  intro T hT X
  have hpl : e.platform.magicAccessors = ({} : Platform).magicAccessors := by rw [X.admits.platform]
  obtain ⟨c3, c4, hc3, hc4, hasg⟩ := Cond.castable_spec hcast
  cases Option.some.inj (hc3.symm.trans hcl)
  obtain ⟨c5, hc5, hcl5⟩ := Cond.classLink_spec hown hlink e.platform hpl
  cases Option.some.inj (hc4.symm.trans hc5)
  obtain ⟨vm', X', st⟩ := X.thenCaughtThrough q (g := F0 m pc ls rest) rfl (Steps.refl _) (by rw [hT]; exact hcell) (by rw [hv]; rfl) (by obtain ⟨k9, h9, -⟩ := Vm.findClass_spec hcl; exact ⟨k9, h9⟩) pre x suf hsplit
    (fun z hz => by
      rcases hpass z hz with h | ⟨hz0, nm, hl1, hn1⟩
      · exact Or.inl h
      · obtain ⟨c6, hc6, hcl6⟩ := Cond.classLink_spec hown hl1 e.platform hpl
        obtain ⟨a8, b8, h1, h2, h3⟩ := hn1
        cases Option.some.inj (h1.symm.trans hcl)
        cases Option.some.inj (h2.symm.trans hc6)
        exact Or.inr ⟨hz0, _, hcl6, h3⟩) hx (Or.inr ⟨h0, c4, hcl5, hasg⟩)
  obtain ⟨t, a1, b1⟩ := kk (T.setVm vm') hT X'
  exact ⟨t, st.trans a1, b1⟩
end Rows
section Ends
variable {p : Program} {l : Launch} {e : Env} {R : Room} {s : State} {m : MethodId} {args : Array Value} {below : List Frame} {meth : Method} {c : Code} {H : Heap} {locs : List Loc} {cells slots : Nat} {Q : State → Prop}
variable {mc ms : Nat} {free : Addr → Prop} {A0 A1 : Nat → Prop} {H0 : Heap} {a : Array Value} {ls : Array Slot} {st0 rest : List Value}
variable {Qc : Array Value → State → Outcome → State → Prop} {XC : String → State → State → Prop}
/-- what a body that may throw owes at its end -/
def vx_MQ (below : List Frame) (Qc : Array Value → State → Outcome → State → Prop) (XC : String → State → State → Prop) (a : Array Value) (s : State) (mc ms : Nat) (free : Addr → Prop) : State → Prop := fun t =>
  ∃ o, t.status = .running ∧ Ended t below o ∧ vx_Q Qc XC mc ms free a s o t
theorem vx_ret {g : JFrame} {mc ms : Nat} (k : W p l e R s m args below meth c H locs cells slots (MQ below Qc args s mc ms free) g) : W p l e R s m args below meth c H locs cells slots (vx_MQ below Qc XC args s mc ms free) g := by
  intro T hT X
  obtain ⟨t, a1, o, b1, b2, b3, b4⟩ := k T hT X
  exact ⟨t, a1, o, b1, b2, Or.inl ⟨b3, b4⟩⟩
/-- not caught here: it goes on to the caller -/
theorem vx_widen {g : JFrame} {q : Addr} {k n : Nat} (h1 : cells ≤ k) (h2 : slots ≤ n) (kk : vx_W p l e R s m args below meth c H locs k n Q g q) : vx_W p l e R s m args below meth c H locs cells slots Q g q := fun T hT X => kk T hT (stand_widen X h1 h2)
theorem vx_out {pc : Nat} {E : String} {ce : Cell} {q : Addr} {mc ms : Nat} (hout : ∀ x ∈ c.exceptionTable.toList, covers x pc = false) (hlocks : meth.locks = false) (hcell : H[q]? = some ce) (hv : ce.vm = .none) (hcl : s.vm.findClass E = some ce.cls)
    (hx : ∀ t : State, t.heap = H → s.vm.Alike t.vm → XC E s t) (hf : ∀ z ∈ locs, free z.base) (hc : cells ≤ mc) (hs : slots ≤ ms) :
    vx_W p l e R s m args below meth c H locs cells slots (vx_MQ below Qc XC args s mc ms free) (F0 m pc ls rest) q := by
  intro T hT X
  obtain ⟨st1, hrun, hend, hW, hsm⟩ := X.leaveThrown q (g := F0 m pc ls rest) rfl rfl rfl hout hlocks
  have hcell9 : (T.setFrames (.throwing q :: below)).heap[q]? = some ce := by
    show T.heap[q]? = some ce
    rw [hT]; exact hcell
  exact ⟨_, st1, .threw q, hrun, hend, Or.inr ⟨q, rfl, E, ce, locs, hx _ hT hW.alike, hcell9, hv, hcl, hW, hsm.mono hc hs, hf⟩⟩
theorem vx_frame {U : State} {k n : Nat} (h : s.sameButNew ({ U with vm := s.vm } : State) locs k n) : s.heap.size ≤ U.heap.size ∧ ∀ q : Nat, q < s.heap.size → (∀ z ∈ locs, z.base ≠ q) → U.heap[q]? = s.heap[q]? := by
  obtain ⟨-, h2, -, -, -, h6⟩ := h
  refine ⟨h2, fun q hq hz => ?_⟩
  obtain ⟨c9, e1, e2, e3, e4⟩ := h6 q _ (Array.getElem?_eq_getElem hq)
  have hs : c9.slots = (s.heap[q]).slots := Array.ext_getElem? fun i => e4 i fun hm => hz _ hm rfl
  have h9 : c9 = s.heap[q] := by
    rw [hs] at e2
    exact e2
  have e5 : U.heap[q]? = some c9 := e1
  rw [e5, h9, Array.getElem?_eq_getElem hq]
/-- the words of a throw but the four that speak of the heap -/
def vx_no (w : Cond) : Bool := decide (w ≠ .isRef (.static Bundle.tN "UNASSIGNED_STACK" Bundle.steD)) && decide (w ≠ .isRef (.static Bundle.tN "SUPPRESSED_SENTINEL" Bundle.listD)) && decide (w ≠ .laysStatic Bundle.tN "UNASSIGNED_STACK" Bundle.steD) && decide (w ≠ .laysStatic Bundle.tN "SUPPRESSED_SENTINEL" Bundle.listD)
def vx_at0 (own : String) (ic : Nat) (X : String) (names : List String) : List Cond := (Bundle.ownAtoms0 own ic X names).filter vx_no
def vx_atS (own : String) (ic : Nat) (X : String) (names : List String) : List Cond := (Bundle.ownAtoms own ic X names).filter vx_no
/-- a word that the tables alone decide, or a good one -/
def vx_ot (w : Cond) : Bool := w.onTables || goodWord w
theorem vx_ot_at {args a' : Array Value} {s U : State} {w : Cond} (hW : s.WarmedH U.vm) (hvm : s.vm = U.vm) (hg : vx_ot w = true) (h : w.before args s = true) : w.before a' U = true := by
  simp only [vx_ot, Bool.or_eq_true] at hg
  rcases hg with hg | hg
  · exact va_tabs hg hvm h
  · exact word_at hW (good_of_word hg) h
/-- a list's words: the good ones out of the method's own list, the others by premises of their own -/
theorem vx_hat {args : Array Value} {s : State} {L B : List Cond} (h1 : ∀ w ∈ L.filter goodWord, w.before args s = true) (h2 : ∀ w ∈ L.filter (fun w => !goodWord w), w ∈ B) (h3 : ∀ w ∈ B, w.before args s = true) : ∀ w ∈ L, w.before args s = true := by
  intro w hw
  by_cases g : goodWord w = true
  · exact h1 w (List.mem_filter.mpr ⟨hw, g⟩)
  · refine h3 w (h2 w (List.mem_filter.mpr ⟨hw, ?_⟩))
    show (!goodWord w) = true
    cases hgw : goodWord w
    · rfl
    · exact absurd hgw g
theorem vx_c {args : Array Value} {s : State} {w : Cond} {B : List Cond} (h : w.before args s = true) (t : ∀ w ∈ B, w.before args s = true) : ∀ w' ∈ w :: B, w'.before args s = true := fun w' h' => (List.mem_cons.mp h').elim (fun e => by rw [e]; exact h) (t w')
theorem vx_n {args : Array Value} {s : State} : ∀ w ∈ ([] : List Cond), w.before args s = true := fun _ h => nomatch h
theorem vx_own {args : Array Value} {s : State} {L : List Cond} (h1 : ∀ w ∈ L.filter vx_no, w.before args s = true)
    (hU : (Cond.isRef (.static Bundle.tN "UNASSIGNED_STACK" Bundle.steD)).before args s = true) (hN : (Cond.isRef (.static Bundle.tN "SUPPRESSED_SENTINEL" Bundle.listD)).before args s = true)
    (lU : (Cond.laysStatic Bundle.tN "UNASSIGNED_STACK" Bundle.steD).before args s = true) (lN : (Cond.laysStatic Bundle.tN "SUPPRESSED_SENTINEL" Bundle.listD).before args s = true) : ∀ w ∈ L, w.before args s = true := by
  intro w hw
  by_cases e1 : w = .isRef (.static Bundle.tN "UNASSIGNED_STACK" Bundle.steD)
  · rw [e1]; exact hU
  · by_cases e2 : w = .isRef (.static Bundle.tN "SUPPRESSED_SENTINEL" Bundle.listD)
    · rw [e2]; exact hN
    · by_cases e3 : w = .laysStatic Bundle.tN "UNASSIGNED_STACK" Bundle.steD
      · rw [e3]; exact lU
      · by_cases e4 : w = .laysStatic Bundle.tN "SUPPRESSED_SENTINEL" Bundle.listD
        · rw [e4]; exact lN
        · exact h1 w (List.mem_filter.mpr ⟨hw, by unfold vx_no; rw [decide_eq_true e1, decide_eq_true e2, decide_eq_true e3, decide_eq_true e4]; rfl⟩)
/-- where a static field lies, its class's statics cell in H -/
def vx_L (C n d : String) (A : Nat → Prop) (U : State) (H : Heap) : Prop := ∃ (c : ClassId) (k : Class) (i : Nat) (f : Field) (a : Nat) (cell : Cell), U.vm.findClass C = some c ∧ U.fieldFound? C n d = some (c, k, i, f) ∧ f.isStatic = true ∧ k.statics = some a ∧ H[a]? = some cell ∧ cell.vm.isStatics = true ∧ cell.cls = c ∧ f.slot < cell.slots.size ∧ k.staticTypes[f.slot]? = some f.type ∧ ¬ A a
theorem vx_L.moved {C n d : String} {A : Nat → Prop} {u U : State} {H : Heap} (hvm : u.vm.Alike U.vm) (h : vx_L C n d A u H) : vx_L C n d A U H := by
  obtain ⟨c, k, i, f, a, cell, h1, h2, h3, h4, h5, h6, h7, h8, h9, h10⟩ := h
  obtain ⟨k', hi', he⟩ := State.fieldFound?_setVm hvm h2
  exact ⟨c, k', i, f, a, cell, by rw [hvm.findClass]; exact h1, hi', h3, by rw [he]; exact h4, h5, h6, h7, h8, by rw [he]; exact h9, h10⟩
theorem vx_L.kept {C n d : String} {A : Nat → Prop} {U : State} {H H1 : Heap} (h : vx_L C n d A U H) (hq : ∀ a : Nat, a < H.size → ¬ A a → H1[a]? = H[a]?) : vx_L C n d A U H1 := by
  obtain ⟨c, k, i, f, a, cell, h1, h2, h3, h4, h5, h6, h7, h8, h9, h10⟩ := h
  exact ⟨c, k, i, f, a, cell, h1, h2, h3, h4, by rw [hq a (Array.getElem?_eq_some_iff.mp h5).1 h10]; exact h5, h6, h7, h8, h9, h10⟩
theorem vx_L.narrow {C n d : String} {A B : Nat → Prop} {U : State} {H : Heap} (h : vx_L C n d A U H) (hAB : ∀ q, B q → A q) : vx_L C n d B U H := by
  obtain ⟨c, k, i, f, a, cell, h1, h2, h3, h4, h5, h6, h7, h8, h9, h10⟩ := h
  exact ⟨c, k, i, f, a, cell, h1, h2, h3, h4, h5, h6, h7, h8, h9, fun z => h10 (hAB _ z)⟩
theorem vx_L.word {C n d : String} {A : Nat → Prop} {s : State} {args : Array Value} (h : vx_L C n d A s s.heap) : (Cond.laysStatic C n d).before args s = true := by
  obtain ⟨c, k, i, f, a, cell, h1, h2, h3, h4, h5, h6, h7, h8, h9, -⟩ := h
  show (Cond.laysStatic C n d).holds args s none s [] = true
  exact Cond.laysStatic_of h1 h2 h3 h4 h5 h6 h7 h8 h9
/-- .. and what it holds: null or some reference -/
def vx_Zq (C n d : String) (A : Nat → Prop) (U : State) (H : Heap) : Prop := va_Zq C n d A U H ∧ vx_L C n d A U H
theorem vx_Zq.moved {C n d : String} {A : Nat → Prop} {u U : State} {H : Heap} (hvm : u.vm.Alike U.vm) (h : vx_Zq C n d A u H) : vx_Zq C n d A U H := ⟨va_Zq.moved hvm h.1, vx_L.moved hvm h.2⟩
theorem vx_Zq.kept {C n d : String} {A : Nat → Prop} {U : State} {H H1 : Heap} (h : vx_Zq C n d A U H) (hq : ∀ a : Nat, a < H.size → ¬ A a → H1[a]? = H[a]?) : vx_Zq C n d A U H1 := ⟨va_Zq.kept h.1 hq, vx_L.kept h.2 hq⟩
theorem vx_Zq.narrow {C n d : String} {A B : Nat → Prop} {U : State} {H : Heap} (h : vx_Zq C n d A U H) (hAB : ∀ q, B q → A q) : vx_Zq C n d B U H := ⟨va_Zq.narrow h.1 hAB, vx_L.narrow h.2 hAB⟩
theorem vx_Zqof {args : Array Value} {s : State} {C n d : String} {A : Nat → Prop} (hl : (Cond.laysStatic C n d).before args s = true) (hini : (Cond.initialized C).before args s = true) (h : (Cond.isRef (.static C n d)).before args s = true) (hA : ∀ a : Nat, a < s.heap.size → ¬ A a) : vx_Zq C n d A s s.heap := by
  refine ⟨va_Zqof hl hini h hA, ?_⟩
  obtain ⟨c, k, i, f, a, cell, h1, h2, h3, h4, h5, h6, h7, h8, h9⟩ := Cond.laysStatic_spec hl
  exact ⟨c, k, i, f, a, cell, h1, h2, h3, h4, h5, h6, h7, h8, h9, hA a (Array.getElem?_eq_some_iff.mp h5).1⟩
theorem vx_isRef {C n d : String} {v : Value} {A : Nat → Prop} {s : State} {args : Array Value} (h : va_Z C n d v A s s.heap) (hv : v.isRef = true) : (Cond.isRef (.static C n d)).before args s = true := by
  obtain ⟨cf, kf, fi, f, a, cell, h1, h2, h3, h4, h5, h6, h7, -⟩ := h
  have he : (Term.static C n d).eval args s none [] s = some v := by
    simp [Term.eval, State.fieldNamed?, h1, h2, h4, h5, h6, h7]
  simp only [Cond.before, Cond.holds, Cond.value, he]
  cases v <;> simp_all [Value.isRef]
theorem vx_isRefq {C n d : String} {A : Nat → Prop} {s : State} {args : Array Value} (h : va_Zq C n d A s s.heap) : (Cond.isRef (.static C n d)).before args s = true := by
  rcases h with h | ⟨t, h⟩
  · exact vx_isRef h rfl
  · exact vx_isRef h rfl
/-- the same frame, seen from here: as if the method were called anew in this heap -/
theorem vx_rebase {T : State} (X : Stand p l e R s m args below meth c T locs cells slots) {R' : Room} (hf : R'.frames ≤ R.frames) (hl : R'.locals ≤ R.locals) (hc : cells + R'.cells ≤ R.cells) (hs : slots + R'.slots ≤ R.slots) :
    Stand p l e R' ((T.setVm s.vm).setFrames (.invoking m args :: below)) m args below meth c T [] 0 0 := by
  have htop : (T.setVm s.vm).topJava?.isSome := X.here.top
  have hF : ((T.setVm s.vm).setFrames (.invoking m args :: below)).frames = .invoking m args :: below := State.frames_setFrames _ (State.cur_lt_of_top htop)
  obtain ⟨g₀, hg0⟩ := Option.isSome_iff_exists.mp htop
  obtain ⟨r, hr⟩ := State.topJava?_eq_some.mp hg0
  have hl9 : e.platform.stackLimits (T.setVm s.vm).me = e.platform.stackLimits s.me := X.limits
  have hb9 : (T.setVm s.vm).me.stackBytes = s.me.stackBytes := X.bytes
  refine ⟨X.admits, X.cas, X.clock, hF, ?_, X.hears, X.method, X.code, X.here, X.tail, X.warmed, ?_, ?_, ?_⟩
  · have h := X.room
    have hU : ((T.setVm s.vm).setFrames (.invoking m args :: below)).localsInUse = s.localsInUse := by
      rw [State.localsInUse_invoking hF (meth := meth) (c := c) X.method X.code, State.localsInUse_invoking X.frames X.method X.code]
    simp only [State.hasRoom, Bool.and_eq_true, decide_eq_true_eq] at h ⊢
    obtain ⟨⟨⟨⟨h1, h2, h3, h4, h5, h6⟩, h7⟩, h8⟩, h9⟩ := h
    rw [X.frames, List.length_cons] at h2 h3
    have q1 := X.heapSize
    have q2 := X.used
    simp only [hF, hU, List.length_cons, State.stackLimits_setFrames, State.stackBytes_setFrames, hl9, hb9]
    refine ⟨⟨⟨⟨by omega, by omega, by omega, by omega, by omega, h6⟩, ?_⟩, ?_⟩, X.book⟩
    · show T.heap.size + R'.cells ≤ e.platform.maxCells
      omega
    · show T.slotsUsed + R'.slots ≤ e.platform.maxSlots
      omega
  · rw [State.stackLimits_setFrames]; rfl
  · rw [State.stackBytes_setFrames]; rfl
  · refine ⟨?_, Nat.le_refl _, Nat.le_refl _, ?_, ?_, fun a c9 h9 => ⟨c9, h9, rfl, rfl, fun _ _ => rfl⟩⟩
    · obtain ⟨t, ht, -⟩ := State.frames_cons hr
      show T.setVm s.vm = { ((T.setVm s.vm).setFrames (.invoking m args :: below)).setFrames (T.setVm s.vm).frames with heap := T.heap, slotsUsed := T.slotsUsed }
      rw [State.setFrames_setFrames, State.setFrames_self ht]
      rfl
    · show T.slotsUsed = T.slotsUsed + ((T.heap.toList.drop T.heap.size).map (·.slots.size)).sum
      rw [List.drop_eq_nil_of_le (Nat.le_of_eq Array.length_toList)]
      rfl
    · show ((T.heap.toList.drop T.heap.size).map (·.slots.size)).sum ≤ 0
      rw [List.drop_eq_nil_of_le (Nat.le_of_eq Array.length_toList)]
      exact Nat.le_refl _
/-- 'throw new E()': new; dup; invokespecial; athrow -/
theorem vx_throw0 {cc : ByteArray} {pc : Nat} (hexec : p.tables.exec = Jvm.exec) (hb : c.code = cc) (hl : l.stackTraces = false) {own cls : String} {names : List String} {ik ic mc ms : Nat} {A : Nat → Prop}
    (hown : s.vm.findClass own = some m.cls) (hcls : Bundle.fit cls = true) (hnames : ∀ n ∈ names, Bundle.fit n = true)
    (hk : (Cond.classLink own ik cls).before args s = true) (hini : (Cond.initialized cls).before args s = true) (hat : ∀ w ∈ vx_at0 own ic cls names, w.before args s = true)
    (hgood : ∀ w ∈ Cond.classLink own ik cls :: Cond.initialized cls :: vx_at0 own ic cls names, vx_ot w = true)
    (hU : vx_Zq Bundle.tN "UNASSIGNED_STACK" Bundle.steD A s s.heap) (hN : vx_Zq Bundle.tN "SUPPRESSED_SENTINEL" Bundle.listD A s s.heap) (hS : va_S A s.heap H locs) (hsize : ls.size = c.maxLocals)
    (d0 : decode cc pc = .ok (.new ik, 3)) (d3 : decode cc (pc + 3) = .ok (.dup, 1)) (d4 : decode cc (pc + 4) = .ok (.invokespecial ic, 3)) (d7 : decode cc (pc + 7) = .ok (.athrow, 1))
    (hout : ∀ x ∈ c.exceptionTable.toList, covers x (pc + 7) = false)
    (hRframes : names.length + 3 < R.frames) (hRlocals : (rest.map fun v => v.category).sum + (13 * (names.length + 1) + 42) ≤ R.locals) (hRcells : cells + 1 ≤ R.cells) (hRslots : slots + 6 ≤ R.slots) (hlocks : meth.locks = false)
    (hx : ∀ t : State, s.vm.Alike t.vm → H.size ≤ t.heap.size → (∀ q : Nat, q < H.size → t.heap[q]? = H[q]?) → XC cls s t)
    (hf : ∀ z ∈ locs, free z.base) (hc : cells + 1 ≤ mc) (hs : slots + 6 ≤ ms) :
    W p l e R s m args below meth c H locs cells slots (vx_MQ below Qc XC args s mc ms free) (F0 m pc ls rest) := by
  intro T hT X
  have htr : e.platform.stackTraces = false := (show e.platform.stackTraces = l.stackTraces by rw [X.admits.platform]).trans hl
  have Y := vx_rebase X (R' := { frames := R.frames, locals := R.locals, cells := 1, slots := 6 }) (Nat.le_refl _) (Nat.le_refl _) hRcells hRslots
  obtain ⟨s', hA⟩ : ∃ z, z = (T.setVm s.vm).setFrames (.invoking m args :: below) := ⟨_, rfl⟩
  rw [← hA] at Y
  have hvm : s'.vm = s.vm := by rw [hA]; rfl
  have hhp : s'.heap = H := by rw [hA]; exact hT
  have hW0 : s.WarmedH s'.vm := by rw [hvm]; exact State.WarmedH.refl s
  have hat' : ∀ w ∈ vx_at0 own ic cls names, w.before args s' = true := fun w hw => vx_ot_at hW0 hvm.symm (hgood w (List.mem_cons_of_mem _ (List.mem_cons_of_mem _ hw))) (hat w hw)
  have hk' : (Cond.classLink own ik cls).before args s' = true := vx_ot_at hW0 hvm.symm (hgood _ List.mem_cons_self) hk
  have hini' : (Cond.initialized cls).before args s' = true := vx_ot_at hW0 hvm.symm (hgood _ (List.mem_cons_of_mem _ List.mem_cons_self)) hini
  have hU' : vx_Zq Bundle.tN "UNASSIGNED_STACK" Bundle.steD A s' s'.heap := by rw [hhp]; exact vx_Zq.moved hW0.alike (hU.kept hS.2.1)
  have hN' : vx_Zq Bundle.tN "SUPPRESSED_SENTINEL" Bundle.listD A s' s'.heap := by rw [hhp]; exact vx_Zq.moved hW0.alike (hN.kept hS.2.1)
  have h : ∀ w ∈ Bundle.ownAtoms0 own ic cls names, w.before args s' = true := vx_own hat' (vx_isRefq hU'.1) (vx_isRefq hN'.1) hU'.2.word hN'.2.word
  have hown' : s'.vm.findClass own = some m.cls := by rw [hvm]; exact hown
  have hins : (Cond.instantiable cls 6).before args s' = true := h _ (by simp [Bundle.ownAtoms0])
  obtain ⟨vm₁, cX, kX, hfX, hkX, -, -, X₁, st1⟩ := Y.newCold hexec (own := own) (C := cls) (index := ik) (n := 6) hown' hk' hins hini'
    (g := F0 m pc ls rest) rfl (by rw [hb]; exact d0) (Nat.le_refl _) (Nat.le_refl _)
  generalize hT1 : (T.setVm vm₁).pushCell { cls := cX, slots := kX.instanceTypes.map defaultValue, vm := .none } = T1 at X₁ st1
  have hcat : (Value.ref T.heap.size).category = 1 := rfl
  have hcellA : T1.heap[T.heap.size]? = some (freshCell cX kX) := by rw [← hT1]; exact State.heap_pushCell_size _ _
  have d3' : decode c.code (pc + 3) = .ok (.dup, 1) := by rw [hb]; exact d3
  obtain ⟨U, hsteps, hrun, hend, hW, hsame, ce, hce, hO⟩ := X₁.ctorThrow0 hexec htr (own := own) (cls := cls) (names := names) (ic := ic) hown' hcls hnames h (fun x hx => nomatch hx) hfX hkX hcellA (by rw [hhp, hT]; exact Nat.le_refl _)
    (g := { method := m, pc := pc + 4, locals := ls, stack := .ref T.heap.size :: .ref T.heap.size :: rest, locked := none }) rfl hsize rfl rfl (rest := rest) rfl
    (by rw [hb]; exact d4) (by rw [hb]; exact d7) hout hRframes (by simp only [List.map_cons, List.sum_cons, hcat]; omega) hlocks
  obtain ⟨f1, f2⟩ := vx_frame hsame
  rw [hhp] at f1 f2
  have hWs : s.WarmedH U.vm := State.WarmedH.trans hW0 hW
  have hcl : s.vm.findClass cls = some ce.cls := by
    have h9 := hO.cls
    rw [hvm] at h9
    exact h9
  have hall : s.sameButNew ({ U with vm := s.vm } : State) locs mc ms := by
    subst hA
    obtain ⟨e1, e2⟩ := hsame
    rw [State.setFrames_setFrames] at e1
    have h2 : (T.setVm s.vm).sameButNew ({ U with vm := s.vm } : State) [] (0 + 1) (0 + 6) := ⟨e1, e2⟩
    have h3 := X.same.trans h2
    rw [List.append_nil] at h3
    exact h3.mono hc hs
  refine ⟨U, ?_, .threw T.heap.size, hrun, hend, Or.inr ⟨T.heap.size, rfl, cls, ce, locs, hx U hWs.alike f1 (fun q hq => f2 q hq (fun z hz => nomatch hz)), hce, hO.vm, hcl, hWs, hall, hf⟩⟩
  refine st1 _ ?_
  show Steps p.tables e below (T1.setTop { method := m, pc := pc + 3, locals := ls, stack := .ref T.heap.size :: rest, locked := none }) _
  jvm_step X₁.here [X₁.here.top, hexec, d3', Value.category]
  exact hsteps
/-- 'throw new E("text")': new; dup; ldc; invokespecial; athrow -/
theorem vx_throwS {cc : ByteArray} {pc : Nat} (hexec : p.tables.exec = Jvm.exec) (hb : c.code = cc) (hl : l.stackTraces = false) {own cls text : String} {names : List String} {ik is ic mc ms sa : Nat} {A : Nat → Prop}
    (hown : s.vm.findClass own = some m.cls) (hcls : Bundle.fit cls = true) (hnames : ∀ n ∈ names, Bundle.fit n = true)
    (hk : (Cond.classLink own ik cls).before args s = true) (hini : (Cond.initialized cls).before args s = true) (hstr : vk_R own is text sa s) (hat : ∀ w ∈ vx_atS own ic cls names, w.before args s = true)
    (hgood : ∀ w ∈ Cond.classLink own ik cls :: Cond.initialized cls :: vx_atS own ic cls names, vx_ot w = true)
    (hU : vx_Zq Bundle.tN "UNASSIGNED_STACK" Bundle.steD A s s.heap) (hN : vx_Zq Bundle.tN "SUPPRESSED_SENTINEL" Bundle.listD A s s.heap) (hS : va_S A s.heap H locs) (hsize : ls.size = c.maxLocals)
    (d0 : decode cc pc = .ok (.new ik, 3)) (d3 : decode cc (pc + 3) = .ok (.dup, 1)) (d4 : decode cc (pc + 4) = .ok (.ldc is, 2)) (d6 : decode cc (pc + 6) = .ok (.invokespecial ic, 3)) (d9 : decode cc (pc + 9) = .ok (.athrow, 1))
    (hout : ∀ x ∈ c.exceptionTable.toList, covers x (pc + 9) = false)
    (hRframes : names.length + 3 < R.frames) (hRlocals : (rest.map fun v => v.category).sum + (13 * (names.length + 1) + 43) ≤ R.locals) (hRcells : cells + 1 ≤ R.cells) (hRslots : slots + 6 ≤ R.slots) (hlocks : meth.locks = false)
    (hx : ∀ t : State, s.vm.Alike t.vm → H.size ≤ t.heap.size → (∀ q : Nat, q < H.size → t.heap[q]? = H[q]?) → XC cls s t)
    (hf : ∀ z ∈ locs, free z.base) (hc : cells + 1 ≤ mc) (hs : slots + 6 ≤ ms) :
    W p l e R s m args below meth c H locs cells slots (vx_MQ below Qc XC args s mc ms free) (F0 m pc ls rest) := by
  intro T hT X
  have htr : e.platform.stackTraces = false := (show e.platform.stackTraces = l.stackTraces by rw [X.admits.platform]).trans hl
  have Y := vx_rebase X (R' := { frames := R.frames, locals := R.locals, cells := 1, slots := 6 }) (Nat.le_refl _) (Nat.le_refl _) hRcells hRslots
  obtain ⟨s', hA⟩ : ∃ z, z = (T.setVm s.vm).setFrames (.invoking m args :: below) := ⟨_, rfl⟩
  rw [← hA] at Y
  have hvm : s'.vm = s.vm := by rw [hA]; rfl
  have hhp : s'.heap = H := by rw [hA]; exact hT
  have hW0 : s.WarmedH s'.vm := by rw [hvm]; exact State.WarmedH.refl s
  have hat' : ∀ w ∈ vx_atS own ic cls names, w.before args s' = true := fun w hw => vx_ot_at hW0 hvm.symm (hgood w (List.mem_cons_of_mem _ (List.mem_cons_of_mem _ hw))) (hat w hw)
  have hk' : (Cond.classLink own ik cls).before args s' = true := vx_ot_at hW0 hvm.symm (hgood _ List.mem_cons_self) hk
  have hini' : (Cond.initialized cls).before args s' = true := vx_ot_at hW0 hvm.symm (hgood _ (List.mem_cons_of_mem _ List.mem_cons_self)) hini
  have hU' : vx_Zq Bundle.tN "UNASSIGNED_STACK" Bundle.steD A s' s'.heap := by rw [hhp]; exact vx_Zq.moved hW0.alike (hU.kept hS.2.1)
  have hN' : vx_Zq Bundle.tN "SUPPRESSED_SENTINEL" Bundle.listD A s' s'.heap := by rw [hhp]; exact vx_Zq.moved hW0.alike (hN.kept hS.2.1)
  have h : ∀ w ∈ Bundle.ownAtoms own ic cls names, w.before args s' = true := vx_own hat' (vx_isRefq hU'.1) (vx_isRefq hN'.1) hU'.2.word hN'.2.word
  have hown' : s'.vm.findClass own = some m.cls := by rw [hvm]; exact hown
  have hins : (Cond.instantiable cls 6).before args s' = true := h _ (by simp [Bundle.ownAtoms])
  obtain ⟨vm₁, cX, kX, hfX, hkX, -, -, X₁, st1⟩ := Y.newCold hexec (own := own) (C := cls) (index := ik) (n := 6) hown' hk' hins hini'
    (g := F0 m pc ls rest) rfl (by rw [hb]; exact d0) (Nat.le_refl _) (Nat.le_refl _)
  generalize hT1 : (T.setVm vm₁).pushCell { cls := cX, slots := kX.instanceTypes.map defaultValue, vm := .none } = T1 at X₁ st1
  have hcat : (Value.ref T.heap.size).category = 1 := rfl
  have hcellA : T1.heap[T.heap.size]? = some (freshCell cX kX) := by rw [← hT1]; exact State.heap_pushCell_size _ _
  have d3' : decode c.code (pc + 3) = .ok (.dup, 1) := by rw [hb]; exact d3
  have d4' : decode c.code (pc + 4) = .ok (.ldc is, 2) := by rw [hb]; exact d4
  have hstr' : vk_R own is text sa s' := vk_R.warm hW0 hstr
  obtain ⟨U, hsteps, hrun, hend, hW, hsame, ce, hce, hO⟩ := X₁.ctorThrowS hexec htr (own := own) (cls := cls) (names := names) (ic := ic) hown' hcls hnames h (fun x hx => nomatch hx) hfX hkX hcellA (by rw [hhp, hT]; exact Nat.le_refl _) (msg := .ref sa) rfl
    (g := { method := m, pc := pc + 6, locals := ls, stack := .ref sa :: .ref T.heap.size :: .ref T.heap.size :: rest, locked := none }) rfl hsize rfl rfl (rest := rest) rfl
    (by rw [hb]; exact d6) (by rw [hb]; exact d9) hout hRframes (by simp only [List.map_cons, List.sum_cons, hcat]; omega) hlocks
  obtain ⟨f1, f2⟩ := vx_frame hsame
  rw [hhp] at f1 f2
  have hWs : s.WarmedH U.vm := State.WarmedH.trans hW0 hW
  have hcl : s.vm.findClass cls = some ce.cls := by
    have h9 := hO.cls
    rw [hvm] at h9
    exact h9
  have hall : s.sameButNew ({ U with vm := s.vm } : State) locs mc ms := by
    subst hA
    obtain ⟨e1, e2⟩ := hsame
    rw [State.setFrames_setFrames] at e1
    have h2 : (T.setVm s.vm).sameButNew ({ U with vm := s.vm } : State) [] (0 + 1) (0 + 6) := ⟨e1, e2⟩
    have h3 := X.same.trans h2
    rw [List.append_nil] at h3
    exact h3.mono hc hs
  refine ⟨U, ?_, .threw T.heap.size, hrun, hend, Or.inr ⟨T.heap.size, rfl, cls, ce, locs, hx U hWs.alike f1 (fun q hq => f2 q hq (fun z hz => nomatch hz)), hce, hO.vm, hcl, hWs, hall, hf⟩⟩
  refine st1 _ ?_
  show Steps p.tables e below (T1.setTop { method := m, pc := pc + 3, locals := ls, stack := .ref T.heap.size :: rest, locked := none }) _
  jvm_step X₁.here [X₁.here.top, hexec, d3', Value.category]
  exact X₁.ldcString hexec (own := own) (text := text) (index := is) (a := sa) hown' hstr'.1 hstr'.2
    (g := { method := m, pc := pc + 4, locals := ls, stack := .ref T.heap.size :: .ref T.heap.size :: rest, locked := none }) rfl d4' _ hsteps
/-- 'throw new E("text")', the text by a wide index -/
theorem vx_throwSW {cc : ByteArray} {pc : Nat} (hexec : p.tables.exec = Jvm.exec) (hb : c.code = cc) (hl : l.stackTraces = false) {own cls text : String} {names : List String} {ik is ic mc ms sa : Nat} {A : Nat → Prop}
    (hown : s.vm.findClass own = some m.cls) (hcls : Bundle.fit cls = true) (hnames : ∀ n ∈ names, Bundle.fit n = true)
    (hk : (Cond.classLink own ik cls).before args s = true) (hini : (Cond.initialized cls).before args s = true) (hstr : vk_R own is text sa s) (hat : ∀ w ∈ vx_atS own ic cls names, w.before args s = true)
    (hgood : ∀ w ∈ Cond.classLink own ik cls :: Cond.initialized cls :: vx_atS own ic cls names, vx_ot w = true)
    (hU : vx_Zq Bundle.tN "UNASSIGNED_STACK" Bundle.steD A s s.heap) (hN : vx_Zq Bundle.tN "SUPPRESSED_SENTINEL" Bundle.listD A s s.heap) (hS : va_S A s.heap H locs) (hsize : ls.size = c.maxLocals)
    (d0 : decode cc pc = .ok (.new ik, 3)) (d3 : decode cc (pc + 3) = .ok (.dup, 1)) (d4 : decode cc (pc + 4) = .ok (.ldc_w is, 3)) (d7 : decode cc (pc + 7) = .ok (.invokespecial ic, 3)) (d10 : decode cc (pc + 10) = .ok (.athrow, 1))
    (hout : ∀ x ∈ c.exceptionTable.toList, covers x (pc + 10) = false)
    (hRframes : names.length + 3 < R.frames) (hRlocals : (rest.map fun v => v.category).sum + (13 * (names.length + 1) + 43) ≤ R.locals) (hRcells : cells + 1 ≤ R.cells) (hRslots : slots + 6 ≤ R.slots) (hlocks : meth.locks = false)
    (hx : ∀ t : State, s.vm.Alike t.vm → H.size ≤ t.heap.size → (∀ q : Nat, q < H.size → t.heap[q]? = H[q]?) → XC cls s t)
    (hf : ∀ z ∈ locs, free z.base) (hc : cells + 1 ≤ mc) (hs : slots + 6 ≤ ms) :
    W p l e R s m args below meth c H locs cells slots (vx_MQ below Qc XC args s mc ms free) (F0 m pc ls rest) := by
  intro T hT X
  have htr : e.platform.stackTraces = false := (show e.platform.stackTraces = l.stackTraces by rw [X.admits.platform]).trans hl
  have Y := vx_rebase X (R' := { frames := R.frames, locals := R.locals, cells := 1, slots := 6 }) (Nat.le_refl _) (Nat.le_refl _) hRcells hRslots
  obtain ⟨s', hA⟩ : ∃ z, z = (T.setVm s.vm).setFrames (.invoking m args :: below) := ⟨_, rfl⟩
  rw [← hA] at Y
  have hvm : s'.vm = s.vm := by rw [hA]; rfl
  have hhp : s'.heap = H := by rw [hA]; exact hT
  have hW0 : s.WarmedH s'.vm := by rw [hvm]; exact State.WarmedH.refl s
  have hat' : ∀ w ∈ vx_atS own ic cls names, w.before args s' = true := fun w hw => vx_ot_at hW0 hvm.symm (hgood w (List.mem_cons_of_mem _ (List.mem_cons_of_mem _ hw))) (hat w hw)
  have hk' : (Cond.classLink own ik cls).before args s' = true := vx_ot_at hW0 hvm.symm (hgood _ List.mem_cons_self) hk
  have hini' : (Cond.initialized cls).before args s' = true := vx_ot_at hW0 hvm.symm (hgood _ (List.mem_cons_of_mem _ List.mem_cons_self)) hini
  have hU' : vx_Zq Bundle.tN "UNASSIGNED_STACK" Bundle.steD A s' s'.heap := by rw [hhp]; exact vx_Zq.moved hW0.alike (hU.kept hS.2.1)
  have hN' : vx_Zq Bundle.tN "SUPPRESSED_SENTINEL" Bundle.listD A s' s'.heap := by rw [hhp]; exact vx_Zq.moved hW0.alike (hN.kept hS.2.1)
  have h : ∀ w ∈ Bundle.ownAtoms own ic cls names, w.before args s' = true := vx_own hat' (vx_isRefq hU'.1) (vx_isRefq hN'.1) hU'.2.word hN'.2.word
  have hown' : s'.vm.findClass own = some m.cls := by rw [hvm]; exact hown
  have hins : (Cond.instantiable cls 6).before args s' = true := h _ (by simp [Bundle.ownAtoms])
  obtain ⟨vm₁, cX, kX, hfX, hkX, -, -, X₁, st1⟩ := Y.newCold hexec (own := own) (C := cls) (index := ik) (n := 6) hown' hk' hins hini'
    (g := F0 m pc ls rest) rfl (by rw [hb]; exact d0) (Nat.le_refl _) (Nat.le_refl _)
  generalize hT1 : (T.setVm vm₁).pushCell { cls := cX, slots := kX.instanceTypes.map defaultValue, vm := .none } = T1 at X₁ st1
  have hcat : (Value.ref T.heap.size).category = 1 := rfl
  have hcellA : T1.heap[T.heap.size]? = some (freshCell cX kX) := by rw [← hT1]; exact State.heap_pushCell_size _ _
  have d3' : decode c.code (pc + 3) = .ok (.dup, 1) := by rw [hb]; exact d3
  have d4' : decode c.code (pc + 4) = .ok (.ldc_w is, 3) := by rw [hb]; exact d4
  have hstr' : vk_R own is text sa s' := vk_R.warm hW0 hstr
  obtain ⟨U, hsteps, hrun, hend, hW, hsame, ce, hce, hO⟩ := X₁.ctorThrowS hexec htr (own := own) (cls := cls) (names := names) (ic := ic) hown' hcls hnames h (fun x hx => nomatch hx) hfX hkX hcellA (by rw [hhp, hT]; exact Nat.le_refl _) (msg := .ref sa) rfl
    (g := { method := m, pc := pc + 7, locals := ls, stack := .ref sa :: .ref T.heap.size :: .ref T.heap.size :: rest, locked := none }) rfl hsize rfl rfl (rest := rest) rfl
    (by rw [hb]; exact d7) (by rw [hb]; exact d10) hout hRframes (by simp only [List.map_cons, List.sum_cons, hcat]; omega) hlocks
  obtain ⟨f1, f2⟩ := vx_frame hsame
  rw [hhp] at f1 f2
  have hWs : s.WarmedH U.vm := State.WarmedH.trans hW0 hW
  have hcl : s.vm.findClass cls = some ce.cls := by
    have h9 := hO.cls
    rw [hvm] at h9
    exact h9
  have hall : s.sameButNew ({ U with vm := s.vm } : State) locs mc ms := by
    subst hA
    obtain ⟨e1, e2⟩ := hsame
    rw [State.setFrames_setFrames] at e1
    have h2 : (T.setVm s.vm).sameButNew ({ U with vm := s.vm } : State) [] (0 + 1) (0 + 6) := ⟨e1, e2⟩
    have h3 := X.same.trans h2
    rw [List.append_nil] at h3
    exact h3.mono hc hs
  refine ⟨U, ?_, .threw T.heap.size, hrun, hend, Or.inr ⟨T.heap.size, rfl, cls, ce, locs, hx U hWs.alike f1 (fun q hq => f2 q hq (fun z hz => nomatch hz)), hce, hO.vm, hcl, hWs, hall, hf⟩⟩
  refine st1 _ ?_
  show Steps p.tables e below (T1.setTop { method := m, pc := pc + 3, locals := ls, stack := .ref T.heap.size :: rest, locked := none }) _
  jvm_step X₁.here [X₁.here.top, hexec, d3', Value.category]
  exact X₁.ldcStringW hexec (own := own) (text := text) (index := is) (a := sa) hown' hstr'.1 hstr'.2
    (g := { method := m, pc := pc + 4, locals := ls, stack := .ref T.heap.size :: .ref T.heap.size :: rest, locked := none }) rfl d4' _ hsteps
end Ends
section Bodies
variable {l : Launch}
theorem vx_ofW {y : MethodName} {ws ws' : List Cond} {rm : Room} {Pc : Array Value → State → Prop} {Qc : Array Value → State → Outcome → State → Prop} {XC : String → State → State → Prop} {mc ms : Nat} {free : Addr → Prop} {cc : ByteArray} {maxL : Nat} {ret : Option FieldType}
    (hy : plainName y.cls = true) (hw : ws = Cond.code y cc maxL ret :: ws')
    (body : ∀ p e s m args below meth c s₁, BodyLoose p l y (headSpec ws rm) cc maxL ret e s m args below meth c s₁ → c.maxLocals = maxL → (∀ x ∈ c.exceptionTable.toList, False) → Pc args s →
      W p l e (headSpec ws rm).room s m args below meth c s.heap [] 0 0 (vx_MQ below Qc XC args s mc ms free) (entryFrame m args maxL)) : vx_Met l y ws rm Pc Qc XC mc ms free := by
  refine MetFree.of_bodyS (code := cc) (maxLocals := maxL) (ret := ret) hy ?_ ?_
  · intro args s m h hn
    obtain ⟨meth, c, h1, h2, h3, h4, h5, h6, -, -⟩ := Cond.code_spec hn (atoms_spec (ws := ws) h _ (by rw [hw]; exact List.mem_cons_self))
    exact ⟨meth, c, h1, h2, h3, h4, h5, h6⟩
  · intro p e s m args below meth c s₁ B hml hP _
    have hh0 : s₁.heap = s.heap := by rw [B.state]; rfl
    have ht : ∀ x ∈ c.exceptionTable.toList, False := by
      obtain ⟨meth9, c9, h1, h2, -, -, -, -, h7, -⟩ := Cond.code_spec B.named (atoms_spec (ws := ws) B.pre _ (by rw [hw]; exact List.mem_cons_self))
      cases Option.some.inj (h1.symm.trans B.method)
      cases Option.some.inj (h2.symm.trans (Stand.of_body B).code)
      intro x hx
      rw [Array.isEmpty_iff.mp h7] at hx
      cases hx
    obtain ⟨t, a1, o, b1, b2, b3⟩ := body p e s m args below meth c s₁ B hml ht hP s₁ hh0 (Stand.of_body B)
    exact ⟨t, o, a1, b1, b2, b3⟩
/-- the table of a body with handlers -/
theorem vx_table {p : Program} {x y : MethodName} {S : Spec} {cc bytes : ByteArray} {maxL maxL' : Nat} {ret ret' : Option FieldType} {e : Env} {s s₁ : State} {m : MethodId} {args : Array Value} {below : List Frame} {meth : Method} {c : Code} {hh : List (Nat × Nat × Nat × Nat)}
    (B : BodyLoose p l y S cc maxL ret e s m args below meth c s₁) (h : (Cond.codeWith y bytes maxL' ret' hh).before args s = true) : c.exceptionTable.toList = tableOf hh := by
  obtain ⟨m9, meth9, c9, hn9, h1, h2, -, -, h6, -⟩ := Cond.codeWith_spec h
  cases Option.some.inj (hn9.symm.trans B.named)
  cases Option.some.inj (h1.symm.trans B.method)
  cases Option.some.inj (h2.symm.trans (Stand.of_body B).code)
  rw [← h6, table_eq]
end Bodies
end VXA
/-! ===== END ===== -/
/-! ===== BEGIN a static call of a method with an exception table ===== -/
section VXS
variable {p : Program} {l : Launch} {e : Env} {R : Room} {s : State} {m : MethodId} {args : Array Value} {below : List Frame} {meth : Method} {c : Code} {T : State} {H : Heap} {locs : List Loc} {cells slots : Nat}
abbrev vx_CSW (R : Room) (s : State) (args : Array Value) (own : String) (index : Nat) (y : MethodName) (bytes : ByteArray) (maxL : Nat) (ret : Option FieldType) (hh : List (Nat × Nat × Nat × Nat)) (ws : List Cond) (rm : Room) (mc ms n : Nat) : Prop :=
  (rm.cells = mc ∧ rm.slots = ms ∧ rm.frames + 1 ≤ R.frames ∧ 8 + (maxL + 11) + rm.locals ≤ R.locals ∧ (∀ w ∈ ws, ∀ (a' : Array Value) (U : State), s.WarmedH U.vm → w.before a' U = true) ∧ Cond.codeWith y bytes maxL ret hh ∈ ws) ∧
  (Cond.codeWith y bytes maxL ret hh).before args s = true ∧ (Cond.initialized y.cls).before args s = true ∧ (y.cls ≠ "java/lang/invoke/MethodHandle" ∧ y.cls ≠ "java/lang/invoke/VarHandle") ∧
  (∀ sig, parseMethodDescriptor y.desc = some sig → n = sig.parameters.length) ∧ (Cond.methodLink own index y).before args s = true ∧ (Cond.static y).before args s = true
theorem vx_cwSW {own : String} {index maxL mc ms : Nat} {y : MethodName} {bytes : ByteArray} {ret : Option FieldType} {hh : List (Nat × Nat × Nat × Nat)} {Ts ws ws' : List Cond} {rm : Room} (n : Nat) (ht : ∀ w ∈ Ts, w.before args s = true) (hT : GoodIn Ts (va_wsS own index y ws)) (hw : ws = Cond.codeWith y bytes maxL ret hh :: ws') (hrc : rm.cells = mc) (hrs : rm.slots = ms)
    (hd : y.cls ≠ "java/lang/invoke/MethodHandle" ∧ y.cls ≠ "java/lang/invoke/VarHandle" ∧ (parseMethodDescriptor y.desc).map (fun d => d.parameters.length) = some n) (hR : rm.frames + 1 ≤ R.frames ∧ 8 + (maxL + 11) + rm.locals ≤ R.locals) :
    vx_CSW R s args own index y bytes maxL ret hh ws rm mc ms n := by
  have ok : ∀ w ∈ va_wsS own index y ws, w.before args s = true := fun w h => ht w (hT w h).1
  have hG : GoodIn Ts ws := fun w h => hT w (by unfold va_wsS; exact List.mem_append_right _ h)
  have hc : Cond.codeWith y bytes maxL ret hh ∈ ws := by rw [hw]; exact List.mem_cons_self
  refine ⟨⟨hrc, hrs, hR.1, hR.2, pay_in ht hG, hc⟩, ht _ (hG _ hc).1, ok _ (by simp [va_wsS]), ⟨hd.1, hd.2.1⟩, fun sig h => ?_, ok _ (by simp [va_wsS]), ok _ (by simp [va_wsS])⟩
  have h2 := hd.2.2
  rw [h] at h2
  exact (Option.some.inj h2).symm
theorem vx_callSW (X : Stand p l e R s m args below meth c T locs cells slots) (hexec : p.tables.exec = Jvm.exec) {own : String} {index : Nat} {y : MethodName} {bytes : ByteArray} {maxL : Nat} {ret : Option FieldType} {hh : List (Nat × Nat × Nat × Nat)}
    (hown : s.vm.findClass own = some m.cls) (hlink : (Cond.methodLink own index y).before args s = true) (hstat : (Cond.static y).before args s = true) (hinit : (Cond.initialized y.cls).before args s = true)
    (hcode : (Cond.codeWith y bytes maxL ret hh).before args s = true) (hy : y.cls ≠ "java/lang/invoke/MethodHandle" ∧ y.cls ≠ "java/lang/invoke/VarHandle")
    {W9 : Nat} {Pre : Pt → Array Value → Prop} {Post : Pt → Array Value → Option Value → Pt → Prop} (hK : Back l R p e below s args y 3 W9 Pre Post)
    {g : JFrame} (hg : g.method = m) (hsize : g.locals.size = c.maxLocals) {argsL rest : List Value} (hlen : ∀ sig, parseMethodDescriptor y.desc = some sig → argsL.length = sig.parameters.length)
    (hstack : g.stack = argsL.reverse ++ rest) (hW : 2 * g.monitorRoom + (rest.map fun v => v.category).sum ≤ W9) (hdg : decode c.code g.pc = .ok (.invokestatic index, 3))
    (hpre : ∀ vm₁, s.WarmedH vm₁ → Pre ⟨T.setVm vm₁, locs, cells, slots⟩ argsL.toArray) :
    ∃ (v : Option Value) (vm₁ : Vm) (B : Pt), s.WarmedH vm₁ ∧ Stand p l e R s m args below meth c B.U B.locs B.cells B.slots ∧ Post ⟨T.setVm vm₁, locs, cells, slots⟩ argsL.toArray v B ∧
      ∀ target, Steps p.tables e below (B.U.setTop { g with pc := g.pc + 3, stack := v.toList ++ rest }) target → Steps p.tables e below (T.setTop g) target := by
  obtain ⟨mk, methM, cM, hnamed, hmethM, -, -, -, -, -, -, hsigM⟩ := Cond.codeWith_spec hcode
  have hstatic : methM.isStatic = true := Cond.static_spec hnamed hmethM hstat
  obtain ⟨kP, hkP, -⟩ := className_of_methodNamed hnamed
  have hinitP : kP.init = .initialized := Cond.initialized_spec (findClass_of_methodNamed hnamed) hkP hinit
  obtain ⟨vm₁, X₁, hstep₁⟩ := X.invokestatic hexec hown hlink hnamed hmethM hstatic hkP hinitP hy (g := g) hg (argsL := argsL) (rest := rest) (hlen _ hsigM) hstack hdg
  obtain ⟨v, B, X', hpost, hsteps⟩ := hK m meth c ⟨T.setVm vm₁, locs, cells, slots⟩ { g with stack := rest } (.invokestatic index) mk argsL.toArray X₁ hg hsize hdg hW (X₁.named hnamed) (hpre vm₁ X₁.warmed)
  exact ⟨v, vm₁, B, X₁.warmed, X', hpost, fun target h => hstep₁ _ fun acts => by rw [doInvoke_state]; exact hsteps.trans h⟩
theorem vx_runSW {y : MethodName} {bytes cc : ByteArray} {maxL nL mc ms n index : Nat} {ret : Option FieldType} {hh : List (Nat × Nat × Nat × Nat)} {ws : List Cond} {rm : Room} {Pc : Array Value → State → Prop} {Qc : Array Value → State → Outcome → State → Prop} {free : Addr → Prop} {Ts : List Cond} {own : String} {As rest : List Value} {g : JFrame}
    (S : CallFix p m c cc nL s args Ts own) (hM : Met l y ws rm Pc Qc mc ms free) (cw : vx_CSW R s args own index y bytes maxL ret hh ws rm mc ms n) (hp : PreS s H Pc As)
    (hg : g.method = m) (hn : As.length = n) (hsize : g.locals.size = nL) (hstack : g.stack = As.reverse ++ rest) (hW : 2 * g.monitorRoom + (rest.map fun v => v.category).sum ≤ 8) (hdg : decode cc g.pc = .ok (.invokestatic index, 3)) (hf : cells + mc ≤ R.cells ∧ slots + ms ≤ R.slots) :
    va_Run p l e R s m args below meth c H locs cells slots mc ms g rest (Qc As.toArray) (free) := by
  obtain ⟨⟨hrc, hrs, hfr, hlo, hws, hcw⟩, hcode, hini, hy, hlen, hl, hstt⟩ := cw
  have hK : Back l R p e below s args y 3 8 (PreOf R mc ms Pc) (PostOf Qc mc ms free) := va_backW (hh := hh) (bytes := bytes) (maxL := maxL) (ret := ret) hM hp.1 hrc hrs hfr hlo hws hcw (fun a' U hW => word_at hW (Or.inl (by first | rfl | simp [Cond.onTables, Cond.keeps, Cond.steady])) hini)
  obtain ⟨hx, hb, hml, ho, -⟩ := S
  intro T hT X
  obtain ⟨v, vm₁, ⟨U', l2, c2, s2⟩, hW₁, X', ⟨g', mk, t, L, e1, e2, hq, h1, hL, h2, h3⟩, st⟩ := vx_callSW X hx (hh := hh) (bytes := bytes) (maxL := maxL) (ret := ret) ho hl hstt hini hcode hy hK hg (hsize.trans hml.symm) (argsL := As) (rest := rest) (fun sig h => hn.trans (hlen sig h)) hstack hW (by rw [hb]; exact hdg)
    (fun vm₁ hW₁ => ⟨hf.1, hf.2, hp.2 (T.setVm vm₁) hT hW₁⟩)
  dsimp only [Pt.U, Pt.locs, Pt.cells, Pt.slots] at X' e1 e2 h1 h2 h3 st
  subst h1; subst h2; subst h3
  exact ⟨v, (T.setVm vm₁).calling g' mk As.toArray, t, U', L, hT, X', hL, e1, e2, hq, st⟩
/-- not caught here, past rows that name other classes: it goes on to the caller -/
theorem vx_outP {p : Program} {l : Launch} {e : Env} {R : Room} {s : State} {m : MethodId} {args : Array Value} {below : List Frame} {meth : Method} {c : Code} {H : Heap} {locs : List Loc} {cells slots : Nat} {free : Addr → Prop} {ls : Array Slot} {rest : List Value} {Qc : Array Value → State → Outcome → State → Prop} {XC : String → State → State → Prop}
    {pc : Nat} {own E : String} {ce : Cell} {q : Addr} {mc ms : Nat} (hown : s.vm.findClass own = some m.cls) (hlocks : meth.locks = false)
    (hpass : ∀ z ∈ c.exceptionTable.toList, covers z pc = false ∨ (z.catchType ≠ 0 ∧ ∃ nm : String, (Cond.classLink own z.catchType nm).before args s = true ∧ va_Nc E nm s)) (hcell : H[q]? = some ce) (hv : ce.vm = .none) (hcl : s.vm.findClass E = some ce.cls)
    (hx : ∀ t : State, t.heap = H → s.vm.Alike t.vm → XC E s t) (hf : ∀ z ∈ locs, free z.base) (hc : cells ≤ mc) (hs : slots ≤ ms) :
    vx_W p l e R s m args below meth c H locs cells slots (vx_MQ below Qc XC args s mc ms free) (F0 m pc ls rest) q := by
  intro T hT X
  have hpl : e.platform.magicAccessors = ({} : Platform).magicAccessors := by rw [X.admits.platform]
  obtain ⟨vm', hW', X', st⟩ := X.outThrough hlocks q (g := F0 m pc ls rest) rfl rfl rfl (cell := ce) (by rw [hT]; exact hcell) (by rw [hv]; rfl)
    (by obtain ⟨k9, h9, -⟩ := Vm.findClass_spec hcl; exact ⟨k9, h9⟩) (fun z hz => by
      rcases hpass z hz with h | ⟨hz0, nm, hl1, hn1⟩
      · exact Or.inl h
      · obtain ⟨c6, hc6, hcl6⟩ := Cond.classLink_spec hown hl1 e.platform hpl
        obtain ⟨a8, b8, h1, h2, h3⟩ := hn1
        cases Option.some.inj (h1.symm.trans hcl)
        cases Option.some.inj (h2.symm.trans hc6)
        exact Or.inr ⟨hz0, _, hcl6, h3⟩)
  obtain ⟨g₀, hfr⟩ := X'.frames_eq
  have hcell9 : ((T.setVm vm').setFrames (.throwing q :: below)).heap[q]? = some ce := by
    show T.heap[q]? = some ce
    rw [hT]; exact hcell
  have hend : Ended ((T.setVm vm').setFrames (.throwing q :: below)) below (.threw q) := State.frames_setFrames _ (State.cur_lt_of_frames hfr)
  refine ⟨(T.setVm vm').setFrames (.throwing q :: below), ?_, .threw q, X'.here.running, hend, Or.inr ⟨q, rfl, E, ce, locs, hx _ hT (X'.ends _).1.alike, hcell9, hv, hcl, (X'.ends _).1, (X'.ends _).2.mono hc hs, hf⟩⟩
  rw [X.pushThrowing_eq]
  exact st
/-- a thing of a world lies in the heap -/
theorem vx_lt {D : va_G} {cl : List vw_C} {ws : va_W} {H1 : Heap} (h : va_P D cl ws H1) {k : Nat} {q : Nat × va_E} (hk : ws[k]? = some q) : q.1 < H1.size := (h k q hk).lt
end VXS
/-! ===== END ===== -/
/-! ===== BEGIN methods with a table of their own: called by a name, returning or throwing ===== -/
section VXH
/-! vx_backW, vx_callVX, vx_callSX, vx_callVW, vx_runVW, vx_runVX, vx_runSX, vx_ofWH follow the same proofs as their sisters above (Free/Laws.lean, Shelf42/LK1.lean); vx_outP calls Shelf42/NT130.lean (outThrough). -/
section
variable {l : Launch} {R : Room} {p : Program} {e : Env} {below : List Frame} {s : State} {sargs : Array Value} {y : MethodName} {len W9 : Nat}
theorem vx_backW {ws : List Cond} {rm : Room} {Pc : Array Value → State → Prop} {Qc : Array Value → State → Outcome → State → Prop} {XC : String → State → State → Prop} {mc ms : Nat} {free : Addr → Prop} {bytes : ByteArray} {maxL : Nat} {ret : Option FieldType} {hh : List (Nat × Nat × Nat × Nat)}
    (hM : vx_Met l y ws rm Pc Qc XC mc ms free) (hblind : FrameBlind Pc) (hrc : rm.cells = mc) (hrs : rm.slots = ms)
    (hframes : rm.frames + 1 ≤ R.frames) (hlocals : W9 + (maxL + 11) + rm.locals ≤ R.locals)
    (hws : ∀ w ∈ ws, ∀ a' U, s.WarmedH U.vm → w.before a' U = true) (hcode : Cond.codeWith y bytes maxL ret hh ∈ ws) (hinit : ∀ a' U, s.WarmedH U.vm → (Cond.initialized y.cls).before a' U = true) :
    vx_Back l R p e below s sargs y len W9 (PreOf R mc ms Pc) (PostOf Qc mc ms free) (vx_Post XC mc ms free) := by
  intro m meth c A g ig mk a X hg hsize hdg hW hn hp
  have h1 : (headSpec ws rm).pre.before a A.U = true := atoms_intro fun w hw => hws w hw _ _ X.warmed
  have h2 : (Cond.codeWith y bytes maxL ret hh).before a A.U = true := hws _ hcode _ _ X.warmed
  have h3 : (Cond.initialized y.cls).before a A.U = true := hinit _ _ X.warmed
  have h4 : A.cells + (headSpec ws rm).room.cells ≤ R.cells := by rw [show (headSpec ws rm).room.cells = mc from hrc]; exact hp.1
  have h5 : A.slots + (headSpec ws rm).room.slots ≤ R.slots := by rw [show (headSpec ws rm).room.slots = ms from hrs]; exact hp.2.1
  have hPc : Pc a (A.U.calling g mk a) := hblind _ _ _ _ hp.2.2
  obtain ⟨U, Ls, c0, s0⟩ := A
  dsimp only [Pt.U, Pt.locs, Pt.cells, Pt.slots] at h1 h2 h3 h4 h5 X hn hPc ⊢
  obtain ⟨m9, methY, cY, hn9, hmY, hcY, -, hlY, -⟩ := Cond.codeWith_spec h2
  cases Option.some.inj (hn9.symm.trans hn)
  obtain ⟨kY, hkY, -⟩ := className_of_methodNamed hn
  have hinitY : kY.init = .initialized := Cond.initialized_spec (findClass_of_methodNamed hn) hkY h3
  have h : At U g.method c below := by rw [hg]; exact X.here
  have hlocals9 : W9 + (maxL + 11) + (headSpec ws rm).room.locals ≤ R.locals := hlocals
  have happ : (headSpec ws rm).appliesLoose y e.platform (U.calling g mk a) = true :=
    Spec.appliesLoose_calling (g := g) h hdg hn hkY hinitY
      (X.room_calling (g := g) (R' := (headSpec ws rm).room) hsize hmY hcY hframes (by rw [hlY]; omega) h4 h5) h1
  obtain ⟨mid, hmid⟩ := h.above
  have hfr : (U.setTop g).frames = (.java g :: mid) ++ below := by rw [State.frames_setTop' g h.top, hmid]; rfl
  obtain ⟨o, s₂, hsteps, -, hend, hq⟩ := Steps.callFree hM p X.admits X.cas X.clock (acts := []) hfr happ hPc trivial
  have hq' : vx_Q Qc XC mc ms free a (U.calling g mk a) o s₂ := hq
  rw [State.frames_setTop' g h.top] at hend
  obtain ⟨g₀, hg0⟩ := Option.isSome_iff_exists.mp h.top
  obtain ⟨r, hr⟩ := State.topJava?_eq_some.mp hg0
  have hr' : (({ U with heap := s₂.heap, slotsUsed := s₂.slotsUsed } : State).setVm s₂.vm).frames = .java g₀ :: r := hr
  rcases hq' with ⟨hqc, L, hfe, hL⟩ | ⟨q, rfl, E, ce, L, hx, hce, hcv, hcl, hW₂, hsm, hL⟩
  · obtain ⟨⟨v, rfl⟩, hW₂, e2, q2, q3, q4, q5, q6⟩ := id hfe
    have e3 : s₂ = ({ (U.calling g mk a).setFrames s₂.frames with heap := s₂.heap, slotsUsed := s₂.slotsUsed } : State).setVm s₂.vm := by
      have : s₂ = ({ s₂ with vm := (U.calling g mk a).vm } : State).setVm s₂.vm := rfl
      rw [e2] at this
      exact this
    obtain ⟨c₂, i₂, len₂, hc₂, hd₂, hf₂⟩ := hend
    have hW' : U.WarmedH s₂.vm := hW₂
    have hcc : c₂ = c := by
      have h1 : s₂.code? g.method = U.code? g.method := by
        rw [State.code?_eq, State.code?_eq, hW'.alike.method?]
      exact Option.some.inj (hc₂.symm.trans (h1.trans h.code))
    subst hcc
    have hlen : len₂ = len := by rw [hdg] at hd₂; cases hd₂; rfl
    subst hlen
    have hs₂ : s₂ = (({ U with heap := s₂.heap, slotsUsed := s₂.slotsUsed } : State).setVm s₂.vm).setTop { g with pc := g.pc + len₂, stack := v.toList ++ g.stack } := by
      refine e3.trans ?_
      rw [hf₂, State.calling_eq h.top, State.setFrames_setFrames, State.setTop_of_frames _ hr', hr]
      rfl
    have hsame : U.sameButNew ({ U with heap := s₂.heap, slotsUsed := s₂.slotsUsed } : State) L mc ms := by
      refine ⟨?_, q2, q3, q4, q5, q6⟩
      obtain ⟨t, ht, -⟩ := State.frames_cons hr
      show ({ U with heap := s₂.heap, slotsUsed := s₂.slotsUsed } : State) = { U.setFrames U.frames with heap := s₂.heap, slotsUsed := s₂.slotsUsed }
      rw [State.setFrames_self ht]
    subst hg
    refine Or.inl ⟨v, ⟨(({ U with heap := s₂.heap, slotsUsed := s₂.slotsUsed } : State).setVm s₂.vm), Ls ++ L, c0 + mc, s0 + ms⟩,
      ⟨X.admits, X.cas, X.clock, X.frames, X.room, X.hears, X.method, X.code, (X.here.setHeapUsed s₂.heap s₂.slotsUsed).setVm hW'.alike, X.tail, State.WarmedH.trans X.warmed hW', X.limits, X.bytes, X.same.trans (hsame.setVm s.vm)⟩,
      ⟨g, mk, s₂, L, rfl, rfl, hqc, rfl, hL, rfl, rfl⟩, ?_⟩
    show Steps p.tables e below _ ((({ U with heap := s₂.heap, slotsUsed := s₂.slotsUsed } : State).setVm s₂.vm).setTop { g with pc := g.pc + len₂, stack := v.toList ++ g.stack })
    rw [← hs₂]
    exact hsteps
  · obtain ⟨e2, q2, q3, q4, q5, q6⟩ := id hsm
    have e3 : s₂ = ({ (U.calling g mk a).setFrames s₂.frames with heap := s₂.heap, slotsUsed := s₂.slotsUsed } : State).setVm s₂.vm := by
      have : s₂ = ({ s₂ with vm := (U.calling g mk a).vm } : State).setVm s₂.vm := rfl
      rw [e2] at this
      exact this
    have hf₂ : s₂.frames = .throwing q :: .java g :: U.frames.tail := hend
    have hW' : U.WarmedH s₂.vm := hW₂
    have hs₂ : s₂ = ((({ U with heap := s₂.heap, slotsUsed := s₂.slotsUsed } : State).setVm s₂.vm).setTop g).pushFrame (.throwing q) := by
      refine e3.trans ?_
      rw [hf₂, State.calling_eq h.top, State.setFrames_setFrames, State.pushFrame, State.frames_setTop _ hr', State.setTop_of_frames _ hr', State.setFrames_setFrames, hr]
      rfl
    have hsame : U.sameButNew ({ U with heap := s₂.heap, slotsUsed := s₂.slotsUsed } : State) L mc ms := by
      refine ⟨?_, q2, q3, q4, q5, q6⟩
      obtain ⟨t, ht, -⟩ := State.frames_cons hr
      show ({ U with heap := s₂.heap, slotsUsed := s₂.slotsUsed } : State) = { U.setFrames U.frames with heap := s₂.heap, slotsUsed := s₂.slotsUsed }
      rw [State.setFrames_self ht]
    subst hg
    refine Or.inr ⟨q, ⟨(({ U with heap := s₂.heap, slotsUsed := s₂.slotsUsed } : State).setVm s₂.vm), Ls ++ L, c0 + mc, s0 + ms⟩,
      ⟨X.admits, X.cas, X.clock, X.frames, X.room, X.hears, X.method, X.code, (X.here.setHeapUsed s₂.heap s₂.slotsUsed).setVm hW'.alike, X.tail, State.WarmedH.trans X.warmed hW', X.limits, X.bytes, X.same.trans (hsame.setVm s.vm)⟩,
      ⟨g, mk, s₂, L, E, ce, rfl, rfl, hx, hce, hcv, hcl, rfl, hL, rfl, rfl⟩, ?_⟩
    show Steps p.tables e below _ (((({ U with heap := s₂.heap, slotsUsed := s₂.slotsUsed } : State).setVm s₂.vm).setTop g).pushFrame (.throwing q))
    rw [← hs₂]
    exact hsteps
end
variable {p : Program} {l : Launch} {e : Env} {R : Room} {s : State} {m : MethodId} {args : Array Value} {below : List Frame} {meth : Method} {c : Code} {T : State} {H : Heap} {locs : List Loc} {cells slots : Nat}
theorem vx_callVX (X : Stand p l e R s m args below meth c T locs cells slots) (hexec : p.tables.exec = Jvm.exec) {own C : String} {index : Nat} {y : MethodName} {bytes : ByteArray} {maxL : Nat} {ret : Option FieldType} {hh : List (Nat × Nat × Nat × Nat)}
    (hown : s.vm.findClass own = some m.cls) (hlink : (Cond.methodLink own index y).before args s = true) (hinst : (Cond.instanceMethod y).before args s = true) (hsel : (Cond.selects C y y).before args s = true)
    (hcode : (Cond.codeWith y bytes maxL ret hh).before args s = true) (hy : y.cls ≠ "java/lang/invoke/MethodHandle" ∧ y.cls ≠ "java/lang/invoke/VarHandle")
    {W9 : Nat} {Pre : Pt → Array Value → Prop} {Post : Pt → Array Value → Option Value → Pt → Prop} {PostX : Pt → Array Value → Addr → Pt → Prop} (hK : vx_Back l R p e below s args y 3 W9 Pre Post PostX)
    {b : Addr} {cellB : Cell} (hcell : T.heap[b]? = some cellB) (hobj : cellB.vm.isStatics = false) (hcls : s.vm.findClass C = some cellB.cls)
    {g : JFrame} (hg : g.method = m) (hsize : g.locals.size = c.maxLocals) {argsL rest : List Value} (hlen : ∀ sig, parseMethodDescriptor y.desc = some sig → argsL.length = sig.parameters.length)
    (hstack : g.stack = argsL.reverse ++ .ref b :: rest) (hW : 2 * g.monitorRoom + (rest.map fun v => v.category).sum ≤ W9) (hdg : decode c.code g.pc = .ok (.invokevirtual index, 3))
    (hpre : ∀ vm₁, s.WarmedH vm₁ → Pre ⟨T.setVm vm₁, locs, cells, slots⟩ (Value.ref b :: argsL).toArray) :
    (∃ (v : Option Value) (vm₁ : Vm) (B : Pt), s.WarmedH vm₁ ∧ Stand p l e R s m args below meth c B.U B.locs B.cells B.slots ∧ Post ⟨T.setVm vm₁, locs, cells, slots⟩ (Value.ref b :: argsL).toArray v B ∧
      ∀ target, Steps p.tables e below (B.U.setTop { g with pc := g.pc + 3, stack := v.toList ++ rest }) target → Steps p.tables e below (T.setTop g) target) ∨
    (∃ (q : Addr) (vm₁ : Vm) (B : Pt), s.WarmedH vm₁ ∧ Stand p l e R s m args below meth c B.U B.locs B.cells B.slots ∧ PostX ⟨T.setVm vm₁, locs, cells, slots⟩ (Value.ref b :: argsL).toArray q B ∧
      Steps p.tables e below (T.setTop g) ((B.U.setTop { g with stack := rest }).pushFrame (.throwing q))) := by
  obtain ⟨mk, methM, hnamed, hmethM, hstM, habM⟩ := Cond.instanceMethod_spec hinst
  obtain ⟨m8, methM', cM, hn8, hmethM', -, -, -, -, -, -, hsigM⟩ := Cond.codeWith_spec hcode
  cases Option.some.inj (hn8.symm.trans hnamed)
  cases hmethM.symm.trans hmethM'
  obtain ⟨c2, r2, m2, q1, q2, q3, q4, kP, hkP, hkPi⟩ := Cond.selects_spec hsel
  cases hcls.symm.trans q1
  cases (State.methodFound?_of_named hnamed hy).symm.trans q2
  cases hnamed.symm.trans q3
  have hselP : selectMethod e.platform s.vm cellB.cls mk = .method mk := by rw [Launch.admits_selectMethod X.admits]; exact q4
  obtain ⟨vm₁, X₁, hstep₁⟩ := X.invokevirtual hexec hown hlink hnamed hmethM hstM hkP hkPi hy (a := b) (cell := cellB) hcell
    (fun z h => by rw [h] at hobj; cases hobj) hselP hmethM habM hkP hkPi (g := g) hg (argsL := argsL) (rest := rest) (hlen _ hsigM) hstack hdg
  rcases hK m meth c ⟨T.setVm vm₁, locs, cells, slots⟩ { g with stack := rest } (.invokevirtual index) mk (Value.ref b :: argsL).toArray X₁ hg hsize hdg hW (X₁.named hnamed) (hpre vm₁ X₁.warmed) with ⟨v, B, X', hpost, hsteps⟩ | ⟨q, B, X', hpost, hsteps⟩
  · exact Or.inl ⟨v, vm₁, B, X₁.warmed, X', hpost, fun target h => hstep₁ _ fun acts => by rw [doInvoke_state]; exact hsteps.trans h⟩
  · exact Or.inr ⟨q, vm₁, B, X₁.warmed, X', hpost, hstep₁ _ fun acts => by rw [doInvoke_state]; exact hsteps⟩
theorem vx_callSX (X : Stand p l e R s m args below meth c T locs cells slots) (hexec : p.tables.exec = Jvm.exec) {own : String} {index : Nat} {y : MethodName} {bytes : ByteArray} {maxL : Nat} {ret : Option FieldType} {hh : List (Nat × Nat × Nat × Nat)}
    (hown : s.vm.findClass own = some m.cls) (hlink : (Cond.methodLink own index y).before args s = true) (hstat : (Cond.static y).before args s = true) (hinit : (Cond.initialized y.cls).before args s = true)
    (hcode : (Cond.codeWith y bytes maxL ret hh).before args s = true) (hy : y.cls ≠ "java/lang/invoke/MethodHandle" ∧ y.cls ≠ "java/lang/invoke/VarHandle")
    {W9 : Nat} {Pre : Pt → Array Value → Prop} {Post : Pt → Array Value → Option Value → Pt → Prop} {PostX : Pt → Array Value → Addr → Pt → Prop} (hK : vx_Back l R p e below s args y 3 W9 Pre Post PostX)
    {g : JFrame} (hg : g.method = m) (hsize : g.locals.size = c.maxLocals) {argsL rest : List Value} (hlen : ∀ sig, parseMethodDescriptor y.desc = some sig → argsL.length = sig.parameters.length)
    (hstack : g.stack = argsL.reverse ++ rest) (hW : 2 * g.monitorRoom + (rest.map fun v => v.category).sum ≤ W9) (hdg : decode c.code g.pc = .ok (.invokestatic index, 3))
    (hpre : ∀ vm₁, s.WarmedH vm₁ → Pre ⟨T.setVm vm₁, locs, cells, slots⟩ argsL.toArray) :
    (∃ (v : Option Value) (vm₁ : Vm) (B : Pt), s.WarmedH vm₁ ∧ Stand p l e R s m args below meth c B.U B.locs B.cells B.slots ∧ Post ⟨T.setVm vm₁, locs, cells, slots⟩ argsL.toArray v B ∧
      ∀ target, Steps p.tables e below (B.U.setTop { g with pc := g.pc + 3, stack := v.toList ++ rest }) target → Steps p.tables e below (T.setTop g) target) ∨
    (∃ (q : Addr) (vm₁ : Vm) (B : Pt), s.WarmedH vm₁ ∧ Stand p l e R s m args below meth c B.U B.locs B.cells B.slots ∧ PostX ⟨T.setVm vm₁, locs, cells, slots⟩ argsL.toArray q B ∧
      Steps p.tables e below (T.setTop g) ((B.U.setTop { g with stack := rest }).pushFrame (.throwing q))) := by
  obtain ⟨mk, methM, cM, hnamed, hmethM, -, -, -, -, -, -, hsigM⟩ := Cond.codeWith_spec hcode
  have hstatic : methM.isStatic = true := Cond.static_spec hnamed hmethM hstat
  obtain ⟨kP, hkP, -⟩ := className_of_methodNamed hnamed
  have hinitP : kP.init = .initialized := Cond.initialized_spec (findClass_of_methodNamed hnamed) hkP hinit
  obtain ⟨vm₁, X₁, hstep₁⟩ := X.invokestatic hexec hown hlink hnamed hmethM hstatic hkP hinitP hy (g := g) hg (argsL := argsL) (rest := rest) (hlen _ hsigM) hstack hdg
  rcases hK m meth c ⟨T.setVm vm₁, locs, cells, slots⟩ { g with stack := rest } (.invokestatic index) mk argsL.toArray X₁ hg hsize hdg hW (X₁.named hnamed) (hpre vm₁ X₁.warmed) with ⟨v, B, X', hpost, hsteps⟩ | ⟨q, B, X', hpost, hsteps⟩
  · exact Or.inl ⟨v, vm₁, B, X₁.warmed, X', hpost, fun target h => hstep₁ _ fun acts => by rw [doInvoke_state]; exact hsteps.trans h⟩
  · exact Or.inr ⟨q, vm₁, B, X₁.warmed, X', hpost, hstep₁ _ fun acts => by rw [doInvoke_state]; exact hsteps⟩
theorem vx_callVW (X : Stand p l e R s m args below meth c T locs cells slots) (hexec : p.tables.exec = Jvm.exec) {own C : String} {index : Nat} {y : MethodName} {bytes : ByteArray} {maxL : Nat} {ret : Option FieldType} {hh : List (Nat × Nat × Nat × Nat)}
    (hown : s.vm.findClass own = some m.cls) (hlink : (Cond.methodLink own index y).before args s = true) (hinst : (Cond.instanceMethod y).before args s = true) (hsel : (Cond.selects C y y).before args s = true)
    (hcode : (Cond.codeWith y bytes maxL ret hh).before args s = true) (hy : y.cls ≠ "java/lang/invoke/MethodHandle" ∧ y.cls ≠ "java/lang/invoke/VarHandle")
    {W9 : Nat} {Pre : Pt → Array Value → Prop} {Post : Pt → Array Value → Option Value → Pt → Prop} (hK : Back l R p e below s args y 3 W9 Pre Post)
    {b : Addr} {cellB : Cell} (hcell : T.heap[b]? = some cellB) (hobj : cellB.vm.isStatics = false) (hcls : s.vm.findClass C = some cellB.cls)
    {g : JFrame} (hg : g.method = m) (hsize : g.locals.size = c.maxLocals) {argsL rest : List Value} (hlen : ∀ sig, parseMethodDescriptor y.desc = some sig → argsL.length = sig.parameters.length)
    (hstack : g.stack = argsL.reverse ++ .ref b :: rest) (hW : 2 * g.monitorRoom + (rest.map fun v => v.category).sum ≤ W9) (hdg : decode c.code g.pc = .ok (.invokevirtual index, 3))
    (hpre : ∀ vm₁, s.WarmedH vm₁ → Pre ⟨T.setVm vm₁, locs, cells, slots⟩ (Value.ref b :: argsL).toArray) :
    ∃ (v : Option Value) (vm₁ : Vm) (B : Pt), s.WarmedH vm₁ ∧ Stand p l e R s m args below meth c B.U B.locs B.cells B.slots ∧ Post ⟨T.setVm vm₁, locs, cells, slots⟩ (Value.ref b :: argsL).toArray v B ∧
      ∀ target, Steps p.tables e below (B.U.setTop { g with pc := g.pc + 3, stack := v.toList ++ rest }) target → Steps p.tables e below (T.setTop g) target := by
  obtain ⟨mk, methM, hnamed, hmethM, hstM, habM⟩ := Cond.instanceMethod_spec hinst
  obtain ⟨m8, methM', cM, hn8, hmethM', -, -, -, -, -, -, hsigM⟩ := Cond.codeWith_spec hcode
  cases Option.some.inj (hn8.symm.trans hnamed)
  cases hmethM.symm.trans hmethM'
  obtain ⟨c2, r2, m2, q1, q2, q3, q4, kP, hkP, hkPi⟩ := Cond.selects_spec hsel
  cases hcls.symm.trans q1
  cases (State.methodFound?_of_named hnamed hy).symm.trans q2
  cases hnamed.symm.trans q3
  have hselP : selectMethod e.platform s.vm cellB.cls mk = .method mk := by rw [Launch.admits_selectMethod X.admits]; exact q4
  obtain ⟨vm₁, X₁, hstep₁⟩ := X.invokevirtual hexec hown hlink hnamed hmethM hstM hkP hkPi hy (a := b) (cell := cellB) hcell
    (fun z h => by rw [h] at hobj; cases hobj) hselP hmethM habM hkP hkPi (g := g) hg (argsL := argsL) (rest := rest) (hlen _ hsigM) hstack hdg
  obtain ⟨v, B, X', hpost, hsteps⟩ := hK m meth c ⟨T.setVm vm₁, locs, cells, slots⟩ { g with stack := rest } (.invokevirtual index) mk (Value.ref b :: argsL).toArray X₁ hg hsize hdg hW (X₁.named hnamed) (hpre vm₁ X₁.warmed)
  exact ⟨v, vm₁, B, X₁.warmed, X', hpost, fun target h => hstep₁ _ fun acts => by rw [doInvoke_state]; exact hsteps.trans h⟩
abbrev vx_CVW (R : Room) (s : State) (args : Array Value) (own C : String) (index : Nat) (y : MethodName) (bytes : ByteArray) (maxL : Nat) (ret : Option FieldType) (hh : List (Nat × Nat × Nat × Nat)) (ws : List Cond) (rm : Room) (mc ms n : Nat) : Prop :=
  (rm.cells = mc ∧ rm.slots = ms ∧ rm.frames + 1 ≤ R.frames ∧ 8 + (maxL + 11) + rm.locals ≤ R.locals ∧ (∀ w ∈ ws, ∀ (a' : Array Value) (U : State), s.WarmedH U.vm → w.before a' U = true) ∧ Cond.codeWith y bytes maxL ret hh ∈ ws) ∧
  (Cond.codeWith y bytes maxL ret hh).before args s = true ∧ (Cond.initialized y.cls).before args s = true ∧ (y.cls ≠ "java/lang/invoke/MethodHandle" ∧ y.cls ≠ "java/lang/invoke/VarHandle") ∧
  (∀ sig, parseMethodDescriptor y.desc = some sig → n = sig.parameters.length) ∧ (Cond.methodLink own index y).before args s = true ∧ (Cond.instanceMethod y).before args s = true ∧ (Cond.selects C y y).before args s = true
theorem vx_cwVW {own C : String} {index maxL mc ms : Nat} {y : MethodName} {bytes : ByteArray} {ret : Option FieldType} {hh : List (Nat × Nat × Nat × Nat)} {Ts ws ws' : List Cond} {rm : Room} (n : Nat) (ht : ∀ w ∈ Ts, w.before args s = true) (hT : GoodIn Ts (wsV own index C y ws)) (hw : ws = Cond.codeWith y bytes maxL ret hh :: ws') (hrc : rm.cells = mc) (hrs : rm.slots = ms)
    (hd : y.cls = C ∧ y.cls ≠ "java/lang/invoke/MethodHandle" ∧ y.cls ≠ "java/lang/invoke/VarHandle" ∧ (parseMethodDescriptor y.desc).map (fun d => d.parameters.length) = some n) (hR : rm.frames + 1 ≤ R.frames ∧ 8 + (maxL + 11) + rm.locals ≤ R.locals) :
    vx_CVW R s args own C index y bytes maxL ret hh ws rm mc ms n := by
  obtain ⟨hC, hd⟩ := hd
  subst hC
  have ok : ∀ w ∈ wsV own index y.cls y ws, w.before args s = true := fun w h => ht w (hT w h).1
  have hG : GoodIn Ts ws := fun w h => hT w (by unfold wsV; exact List.mem_append_right _ h)
  have hc : Cond.codeWith y bytes maxL ret hh ∈ ws := by rw [hw]; exact List.mem_cons_self
  refine ⟨⟨hrc, hrs, hR.1, hR.2, pay_in ht hG, hc⟩, ht _ (hG _ hc).1, ok _ (by simp [wsV]), ⟨hd.1, hd.2.1⟩, fun sig h => ?_, ok _ (by simp [wsV]), ok _ (by simp [wsV]), ok _ (by simp [wsV])⟩
  have h2 := hd.2.2
  rw [h] at h2
  exact (Option.some.inj h2).symm
theorem vx_runVW {y : MethodName} {bytes cc : ByteArray} {maxL nL mc ms n index : Nat} {ret : Option FieldType} {hh : List (Nat × Nat × Nat × Nat)} {ws : List Cond} {rm : Room} {Pc : Array Value → State → Prop} {Qc : Array Value → State → Outcome → State → Prop} {free : Addr → Prop} {Ts : List Cond} {own C : String} {b : Addr} {As rest : List Value} {g : JFrame}
    (S : CallFix p m c cc nL s args Ts own) (hM : Met l y ws rm Pc Qc mc ms free) (cw : vx_CVW R s args own C index y bytes maxL ret hh ws rm mc ms n) (hp : PreV s H C b Pc As)
    (hg : g.method = m) (hn : As.length = n) (hsize : g.locals.size = nL) (hstack : g.stack = As.reverse ++ .ref b :: rest) (hW : 2 * g.monitorRoom + (rest.map fun v => v.category).sum ≤ 8) (hdg : decode cc g.pc = .ok (.invokevirtual index, 3)) (hf : cells + mc ≤ R.cells ∧ slots + ms ≤ R.slots) :
    va_Run p l e R s m args below meth c H locs cells slots mc ms g rest (Qc (Value.ref b :: As).toArray) free := by
  obtain ⟨⟨hrc, hrs, hfr, hlo, hws, hcw⟩, hcode, hini, hy, hlen, hl, hin, hse⟩ := cw
  have hK : Back l R p e below s args y 3 8 (PreOf R mc ms Pc) (PostOf Qc mc ms free) := va_backW (hh := hh) (bytes := bytes) (maxL := maxL) (ret := ret) hM hp.1 hrc hrs hfr hlo hws hcw (fun a' U hW => word_at hW (Or.inl (by first | rfl | simp [Cond.onTables, Cond.keeps, Cond.steady])) hini)
  obtain ⟨hx, hb, hml, ho, -⟩ := S
  obtain ⟨-, ⟨cellB, hcB, hoB, hclB⟩, hPc⟩ := hp
  intro T hT X
  obtain ⟨v, vm₁, ⟨U', l2, c2, s2⟩, hW₁, X', ⟨g', mk, t, L, e1, e2, hq, h1, hL, h2, h3⟩, st⟩ := vx_callVW X hx (C := C) (hh := hh) (bytes := bytes) (maxL := maxL) (ret := ret) ho hl hin hse hcode hy hK (by rw [hT]; exact hcB) hoB hclB hg (hsize.trans hml.symm) (argsL := As) (rest := rest) (fun sig h => hn.trans (hlen sig h)) hstack hW (by rw [hb]; exact hdg)
    (fun vm₁ hW₁ => ⟨hf.1, hf.2, hPc (T.setVm vm₁) hT hW₁⟩)
  dsimp only [Pt.U, Pt.locs, Pt.cells, Pt.slots] at X' e1 e2 h1 h2 h3 st
  subst h1; subst h2; subst h3
  exact ⟨v, (T.setVm vm₁).calling g' mk (Value.ref b :: As).toArray, t, U', L, hT, X', hL, e1, e2, hq, st⟩
section
variable {y : MethodName} {bytes cc : ByteArray} {maxL nL mc ms n index : Nat} {ret : Option FieldType} {ws : List Cond} {rm : Room} {Pc : Array Value → State → Prop} {Qc : Array Value → State → Outcome → State → Prop} {XC : String → State → State → Prop} {free : Addr → Prop} {Ts : List Cond} {own C : String} {b : Addr} {As rest : List Value} {g : JFrame}
theorem vx_runVX {hh : List (Nat × Nat × Nat × Nat)} (S : CallFix p m c cc nL s args Ts own) (hM : vx_Met l y ws rm Pc Qc XC mc ms free) (cw : vx_CVW R s args own C index y bytes maxL ret hh ws rm mc ms n) (hp : PreV s H C b Pc As)
    (hg : g.method = m) (hn : As.length = n) (hsize : g.locals.size = nL) (hstack : g.stack = As.reverse ++ .ref b :: rest) (hW : 2 * g.monitorRoom + (rest.map fun v => v.category).sum ≤ 8) (hdg : decode cc g.pc = .ok (.invokevirtual index, 3)) (hf : cells + mc ≤ R.cells ∧ slots + ms ≤ R.slots) :
    vx_Run p l e R s m args below meth c H locs cells slots mc ms g rest (Qc (Value.ref b :: As).toArray) XC free := by
  obtain ⟨⟨hrc, hrs, hfr, hlo, hws, hcw⟩, hcode, hini, hy, hlen, hl, hin, hse⟩ := cw
  have hK : vx_Back l R p e below s args y 3 8 (PreOf R mc ms Pc) (PostOf Qc mc ms free) (vx_Post XC mc ms free) := vx_backW (hh := hh) (bytes := bytes) (maxL := maxL) (ret := ret) hM hp.1 hrc hrs hfr hlo hws hcw (fun a' U hW => word_at hW (Or.inl (by first | rfl | simp [Cond.onTables, Cond.keeps, Cond.steady])) hini)
  obtain ⟨hx, hb, hml, ho, -⟩ := S
  obtain ⟨-, ⟨cellB, hcB, hoB, hclB⟩, hPc⟩ := hp
  intro T hT X
  rcases vx_callVX X hx (C := C) (hh := hh) (bytes := bytes) (maxL := maxL) (ret := ret) ho hl hin hse hcode hy hK (by rw [hT]; exact hcB) hoB hclB hg (hsize.trans hml.symm) (argsL := As) (rest := rest) (fun sig h => hn.trans (hlen sig h)) hstack hW (by rw [hb]; exact hdg)
    (fun vm₁ hW₁ => ⟨hf.1, hf.2, hPc (T.setVm vm₁) hT hW₁⟩) with ⟨v, vm₁, ⟨U', l2, c2, s2⟩, hW₁, X', ⟨g', mk, t, L, e1, e2, hq, h1, hL, h2, h3⟩, st⟩ | ⟨q, vm₁, ⟨U', l2, c2, s2⟩, hW₁, X', ⟨g', mk, t, L, E, ce, e1, e2, hq, hce, hcv, hcl, h1, hL, h2, h3⟩, st⟩
  · dsimp only [Pt.U, Pt.locs, Pt.cells, Pt.slots] at X' e1 e2 h1 h2 h3 st
    subst h1; subst h2; subst h3
    exact Or.inl ⟨v, (T.setVm vm₁).calling g' mk (Value.ref b :: As).toArray, t, U', L, hT, X', hL, e1, e2, hq, st⟩
  · dsimp only [Pt.U, Pt.locs, Pt.cells, Pt.slots] at X' e1 e2 h1 h2 h3 st hcl
    subst h1; subst h2; subst h3
    exact Or.inr ⟨q, (T.setVm vm₁).calling g' mk (Value.ref b :: As).toArray, t, U', L, E, ce, hT, X', hL, e1, e2, hq, hce, hcv, vx_cls hW₁ hcl, st⟩
theorem vx_runSX {hh : List (Nat × Nat × Nat × Nat)} (S : CallFix p m c cc nL s args Ts own) (hM : vx_Met l y ws rm Pc Qc XC mc ms free) (cw : vx_CSW R s args own index y bytes maxL ret hh ws rm mc ms n) (hp : PreS s H Pc As)
    (hg : g.method = m) (hn : As.length = n) (hsize : g.locals.size = nL) (hstack : g.stack = As.reverse ++ rest) (hW : 2 * g.monitorRoom + (rest.map fun v => v.category).sum ≤ 8) (hdg : decode cc g.pc = .ok (.invokestatic index, 3)) (hf : cells + mc ≤ R.cells ∧ slots + ms ≤ R.slots) :
    vx_Run p l e R s m args below meth c H locs cells slots mc ms g rest (Qc As.toArray) XC free := by
  obtain ⟨⟨hrc, hrs, hfr, hlo, hws, hcw⟩, hcode, hini, hy, hlen, hl, hstt⟩ := cw
  have hK : vx_Back l R p e below s args y 3 8 (PreOf R mc ms Pc) (PostOf Qc mc ms free) (vx_Post XC mc ms free) := vx_backW (hh := hh) (bytes := bytes) (maxL := maxL) (ret := ret) hM hp.1 hrc hrs hfr hlo hws hcw (fun a' U hW => word_at hW (Or.inl (by first | rfl | simp [Cond.onTables, Cond.keeps, Cond.steady])) hini)
  obtain ⟨hx, hb, hml, ho, -⟩ := S
  intro T hT X
  rcases vx_callSX X hx (hh := hh) (bytes := bytes) (maxL := maxL) (ret := ret) ho hl hstt hini hcode hy hK hg (hsize.trans hml.symm) (argsL := As) (rest := rest) (fun sig h => hn.trans (hlen sig h)) hstack hW (by rw [hb]; exact hdg)
    (fun vm₁ hW₁ => ⟨hf.1, hf.2, hp.2 (T.setVm vm₁) hT hW₁⟩) with ⟨v, vm₁, ⟨U', l2, c2, s2⟩, hW₁, X', ⟨g', mk, t, L, e1, e2, hq, h1, hL, h2, h3⟩, st⟩ | ⟨q, vm₁, ⟨U', l2, c2, s2⟩, hW₁, X', ⟨g', mk, t, L, E, ce, e1, e2, hq, hce, hcv, hcl, h1, hL, h2, h3⟩, st⟩
  · dsimp only [Pt.U, Pt.locs, Pt.cells, Pt.slots] at X' e1 e2 h1 h2 h3 st
    subst h1; subst h2; subst h3
    exact Or.inl ⟨v, (T.setVm vm₁).calling g' mk As.toArray, t, U', L, hT, X', hL, e1, e2, hq, st⟩
  · dsimp only [Pt.U, Pt.locs, Pt.cells, Pt.slots] at X' e1 e2 h1 h2 h3 st hcl
    subst h1; subst h2; subst h3
    exact Or.inr ⟨q, (T.setVm vm₁).calling g' mk As.toArray, t, U', L, E, ce, hT, X', hL, e1, e2, hq, hce, hcv, vx_cls hW₁ hcl, st⟩
end
end VXH
theorem vx_ofWH {l : Launch} {y : MethodName} {ws ws' : List Cond} {rm : Room} {Pc : Array Value → State → Prop} {Qc : Array Value → State → Outcome → State → Prop} {XC : String → State → State → Prop} {mc ms : Nat} {free : Addr → Prop} {cc : ByteArray} {maxL : Nat} {ret : Option FieldType} {hh : List (Nat × Nat × Nat × Nat)}
    (hy : plainName y.cls = true) (hw : ws = Cond.codeWith y cc maxL ret hh :: ws')
    (body : ∀ p e s m args below meth c s₁, BodyLoose p l y (headSpec ws rm) cc maxL ret e s m args below meth c s₁ → c.maxLocals = maxL → Pc args s →
      W p l e (headSpec ws rm).room s m args below meth c s.heap [] 0 0 (vx_MQ below Qc XC args s mc ms free) (entryFrame m args maxL)) : vx_Met l y ws rm Pc Qc XC mc ms free := by
  refine MetFree.of_bodyS (code := cc) (maxLocals := maxL) (ret := ret) hy ?_ ?_
  · intro args s m h hn
    obtain ⟨m9, meth, c, hn9, h1, h2, h3, h4, -, h5, h6, -⟩ := Cond.codeWith_spec (atoms_spec (ws := ws) h _ (by rw [hw]; exact List.mem_cons_self))
    cases hn.symm.trans hn9
    exact ⟨meth, c, h1, h2, h3, h4, h5, h6⟩
  · intro p e s m args below meth c s₁ B hml hP _
    have hh0 : s₁.heap = s.heap := by rw [B.state]; rfl
    obtain ⟨t, a1, o, b1, b2, b3⟩ := body p e s m args below meth c s₁ B hml hP s₁ hh0 (Stand.of_body B)
    exact ⟨t, o, a1, b1, b2, b3⟩
/-! ===== END ===== -/
end
section
/-- the good words of the tables: every method's word list ends with it -/
def tbG : List Cond := lw_tbl.filter goodWord
theorem tb_in {w : Cond} (h : w ∈ tables_1) (g : goodWord w = true) : w ∈ tbG := List.mem_filter.mpr ⟨List.mem_append_right _ h, g⟩
theorem tb_sel {q : MethodName × Nat} (h : q ∈ lw_privs) : Cond.selects q.1.cls q.1 q.1 ∈ tbG := List.mem_filter.mpr ⟨List.mem_append_left _ (List.mem_map.mpr ⟨q, h, rfl⟩), rfl⟩
theorem tb_1 {w : Cond} (k : Nat) (h : tables_1_1[k]? = some w) : w ∈ tables_1 := List.mem_append_left _ (List.mem_of_getElem? h)
theorem tb_2 {w : Cond} (k : Nat) (h : tables_1_2[k]? = some w) : w ∈ tables_1 := List.mem_append_right _ (List.mem_append_left _ (List.mem_of_getElem? h))
theorem tb_3 {w : Cond} (k : Nat) (h : tables_1_3[k]? = some w) : w ∈ tables_1 := List.mem_append_right _ (List.mem_append_right _ (List.mem_append_left _ (List.mem_of_getElem? h)))
theorem tb_4 {w : Cond} (k : Nat) (h : tables_1_4[k]? = some w) : w ∈ tables_1 := List.mem_append_right _ (List.mem_append_right _ (List.mem_append_right _ (List.mem_of_getElem? h)))
theorem tb_c {a w : Cond} (h : w ∈ tbG) : w ∈ a :: tbG := List.mem_cons_of_mem _ h
theorem tb_gd {w : Cond} (h : w ∈ tbG) : (w.onTables && w.keeps) = true ∨ ∃ ty, w = .arrayClass ty := good_of_word (List.mem_filter.mp h).2
theorem tb_ok {a b : Cond} (h : b ∈ tbG) : GoodIn (a :: tbG) (b :: tbG) := fun w hw => by
  rcases List.mem_cons.mp hw with rfl | hw
  · exact ⟨tb_c h, tb_gd h⟩
  · exact ⟨tb_c hw, tb_gd hw⟩
theorem tb_okL {b : Cond} (h : b ∈ tbG) : GoodIn lw_tbl (b :: tbG) := fun w hw => by
  rcases List.mem_cons.mp hw with rfl | hw
  · exact ⟨(List.mem_filter.mp h).1, tb_gd h⟩
  · exact ⟨(List.mem_filter.mp hw).1, tb_gd hw⟩
theorem tb_cn {T ws : List Cond} {b : Cond} (h1 : b ∈ T) (h2 : (b.onTables && b.keeps) = true ∨ ∃ ty, b = .arrayClass ty) (h : GoodIn T ws) : GoodIn T (b :: ws) := fun w hw => by
  rcases List.mem_cons.mp hw with rfl | hw
  · exact ⟨h1, h2⟩
  · exact h w hw
theorem tb_V {a b : Cond} {own C : String} {i : Nat} {y : MethodName} (h1 : Cond.methodLink own i y ∈ tbG) (h2 : Cond.instanceMethod y ∈ tbG) (h3 : Cond.selects C y y ∈ tbG) (h4 : Cond.initialized C ∈ tbG) (h : b ∈ tbG) : GoodIn (a :: tbG) (wsV own i C y (b :: tbG)) :=
  tb_cn (tb_c h1) (tb_gd h1) (tb_cn (tb_c h2) (tb_gd h2) (tb_cn (tb_c h3) (tb_gd h3) (tb_cn (tb_c h4) (tb_gd h4) (tb_ok h))))
theorem tb_S {a b : Cond} {own : String} {i : Nat} {y : MethodName} (h1 : Cond.methodLink own i y ∈ tbG) (h2 : Cond.static y ∈ tbG) (h4 : Cond.initialized own ∈ tbG) (h : b ∈ tbG) : GoodIn (a :: tbG) (wsS own i y (b :: tbG)) :=
  tb_cn (tb_c h1) (tb_gd h1) (tb_cn (tb_c h2) (tb_gd h2) (tb_cn (tb_c h4) (tb_gd h4) (tb_ok h)))
abbrev RX0 : String := "ThumbForge$Image"
def TX0 : u_T := fun k => match k with
  | 0 => ("ThumbForge$Image", "program", "LThumbForge$Program;", true)
  | 1 => ("ThumbForge$Image", "halfwords", "[I", true)
  | 2 => ("ThumbForge$Image", "places", "[I", true)
  | 3 => ("ThumbForge$Image", "isLong", "[Z", true)
  | 4 => ("ThumbForge$Image", "literals", "[I", true)
  | 5 => ("ThumbForge$Image", "literalCount", "I", false)
  | 6 => ("ThumbForge$Image", "poolPlace", "I", false)
  | 7 => ("ThumbForge$Image", "length", "I", false)
  | _ => ("ThumbForge$Image", "made", "Z", false)
def tyX0 : Nat → FieldType := fun k => match k with
  | 0 => .object "ThumbForge$Program"
  | 1 => .array .int
  | 2 => .array .int
  | 3 => .array .boolean
  | 4 => .array .int
  | 5 => .int
  | 6 => .int
  | 7 => .int
  | _ => .boolean
theorem nmX0 : ∀ a, a < 9 → ∀ b, b < 9 → a ≠ b → (TX0 a).2.1 ≠ (TX0 b).2.1 := by decide +kernel
theorem tyX0_ok : ∀ k, k < 9 → parseFieldDescriptor (TX0 k).2.2.1 = some (tyX0 k) := by decide +kernel
abbrev RX1 : String := "ThumbForge$Machine"
def TX1 : u_T := fun k => match k with
  | 0 => ("ThumbForge$Machine", "program", "LThumbForge$Program;", true)
  | 1 => ("ThumbForge$Machine", "image", "LThumbForge$Image;", true)
  | 2 => ("ThumbForge$Machine", "words", "[I", true)
  | 3 => ("ThumbForge$Machine", "values", "[I", true)
  | 4 => ("ThumbForge$Machine", "kept", "[I", true)
  | 5 => ("ThumbForge$Machine", "outCount", "I", false)
  | 6 => ("ThumbForge$Machine", "mode", "I", false)
  | 7 => ("ThumbForge$Machine", "trap", "I", false)
  | _ => ("ThumbForge$Machine", "next", "I", false)
def tyX1 : Nat → FieldType := fun k => match k with
  | 0 => .object "ThumbForge$Program"
  | 1 => .object "ThumbForge$Image"
  | 2 => .array .int
  | 3 => .array .int
  | 4 => .array .int
  | 5 => .int
  | 6 => .int
  | 7 => .int
  | _ => .int
theorem nmX1 : ∀ a, a < 9 → ∀ b, b < 9 → a ≠ b → (TX1 a).2.1 ≠ (TX1 b).2.1 := by decide +kernel
theorem tyX1_ok : ∀ k, k < 9 → parseFieldDescriptor (TX1 k).2.2.1 = some (tyX1 k) := by decide +kernel
abbrev RX2 : String := "ThumbForge$Program"
def TX2 : u_T := fun k => match k with
  | 0 => ("ThumbForge$Program", "kinds", "[I", true)
  | 1 => ("ThumbForge$Program", "codes", "[I", true)
  | 2 => ("ThumbForge$Program", "targets", "[I", true)
  | 3 => ("ThumbForge$Program", "firsts", "[I", true)
  | 4 => ("ThumbForge$Program", "seconds", "[I", true)
  | 5 => ("ThumbForge$Program", "numbers", "[I", true)
  | _ => ("ThumbForge$Program", "count", "I", false)
def tyX2 : Nat → FieldType := fun k => match k with
  | 0 => .array .int
  | 1 => .array .int
  | 2 => .array .int
  | 3 => .array .int
  | 4 => .array .int
  | 5 => .array .int
  | _ => .int
theorem nmX2 : ∀ a, a < 7 → ∀ b, b < 7 → a ≠ b → (TX2 a).2.1 ≠ (TX2 b).2.1 := by decide +kernel
theorem tyX2_ok : ∀ k, k < 7 → parseFieldDescriptor (TX2 k).2.2.1 = some (tyX2 k) := by decide +kernel
abbrev RX3 : String := "ThumbForge"
def TX3 : u_T := fun k => match k with
  | 0 => ("ThumbForge", "program", "LThumbForge$Program;", true)
  | 1 => ("ThumbForge", "image", "LThumbForge$Image;", true)
  | _ => ("ThumbForge", "machine", "LThumbForge$Machine;", true)
def tyX3 : Nat → FieldType := fun k => match k with
  | 0 => .object "ThumbForge$Program"
  | 1 => .object "ThumbForge$Image"
  | _ => .object "ThumbForge$Machine"
theorem nmX3 : ∀ a, a < 3 → ∀ b, b < 3 → a ≠ b → (TX3 a).2.1 ≠ (TX3 b).2.1 := by decide +kernel
theorem tyX3_ok : ∀ k, k < 3 → parseFieldDescriptor (TX3 k).2.2.1 = some (tyX3 k) := by decide +kernel
abbrev RX4 : String := "ThumbForgeModel"
def TX4 : u_T := fun k => match k with
  | 0 => ("ThumbForgeModel", "thrown", "I", false)
  | 1 => ("ThumbForgeModel", "size", "I", false)
  | 2 => ("ThumbForgeModel", "kind", "[I", true)
  | 3 => ("ThumbForgeModel", "n0", "[I", true)
  | 4 => ("ThumbForgeModel", "n1", "[I", true)
  | 5 => ("ThumbForgeModel", "n2", "[I", true)
  | 6 => ("ThumbForgeModel", "n3", "[I", true)
  | 7 => ("ThumbForgeModel", "memory", "[I", true)
  | 8 => ("ThumbForgeModel", "made", "Z", false)
  | 9 => ("ThumbForgeModel", "length", "I", false)
  | 10 => ("ThumbForgeModel", "image", "[I", true)
  | 11 => ("ThumbForgeModel", "places", "[I", true)
  | 12 => ("ThumbForgeModel", "far", "[Z", true)
  | 13 => ("ThumbForgeModel", "pool", "I", false)
  | 14 => ("ThumbForgeModel", "literals", "[I", true)
  | 15 => ("ThumbForgeModel", "poolPlace", "I", false)
  | 16 => ("ThumbForgeModel", "state", "I", false)
  | 17 => ("ThumbForgeModel", "trap", "I", false)
  | 18 => ("ThumbForgeModel", "now", "I", false)
  | 19 => ("ThumbForgeModel", "variables", "[I", true)
  | 20 => ("ThumbForgeModel", "outputs", "I", false)
  | _ => ("ThumbForgeModel", "out", "[I", true)
def tyX4 : Nat → FieldType := fun k => match k with
  | 0 => .int
  | 1 => .int
  | 2 => .array .int
  | 3 => .array .int
  | 4 => .array .int
  | 5 => .array .int
  | 6 => .array .int
  | 7 => .array .int
  | 8 => .boolean
  | 9 => .int
  | 10 => .array .int
  | 11 => .array .int
  | 12 => .array .boolean
  | 13 => .int
  | 14 => .array .int
  | 15 => .int
  | 16 => .int
  | 17 => .int
  | 18 => .int
  | 19 => .array .int
  | 20 => .int
  | _ => .array .int
theorem nmX4 : ∀ a, a < 22 → ∀ b, b < 22 → a ≠ b → (TX4 a).2.1 ≠ (TX4 b).2.1 := by decide +kernel
theorem tyX4_ok : ∀ k, k < 22 → parseFieldDescriptor (TX4 k).2.2.1 = some (tyX4 k) := by decide +kernel
abbrev RL : String := "ThumbForgeLaw"
abbrev vwCl : List vw_C := [(RX0, TX0, 9), (RX1, TX1, 9), (RX2, TX2, 7), (RX3, TX3, 3), (RX4, TX4, 22)]
abbrev cX3_init : ByteArray := prog_1_method_1_code
abbrev yX3_init : MethodName := ⟨"ThumbForge", "<init>", "()V"⟩
abbrev kX3_init : Cond := .code yX3_init cX3_init 1 none
abbrev wsX3_init : List Cond := kX3_init :: tbG
abbrev cX3_constant : ByteArray := prog_1_method_2_code
abbrev yX3_constant : MethodName := ⟨"ThumbForge", "constant", "(II)I"⟩
abbrev kX3_constant : Cond := .code yX3_constant cX3_constant 3 (some FieldType.int)
abbrev wsX3_constant : List Cond := kX3_constant :: tbG
abbrev cX3_compute : ByteArray := prog_1_method_3_code
abbrev yX3_compute : MethodName := ⟨"ThumbForge", "compute", "(IIII)I"⟩
abbrev kX3_compute : Cond := .code yX3_compute cX3_compute 5 (some FieldType.int)
abbrev wsX3_compute : List Cond := kX3_compute :: tbG
abbrev cX3_load : ByteArray := prog_1_method_4_code
abbrev yX3_load : MethodName := ⟨"ThumbForge", "load", "(II)I"⟩
abbrev kX3_load : Cond := .code yX3_load cX3_load 3 (some FieldType.int)
abbrev wsX3_load : List Cond := kX3_load :: tbG
abbrev cX3_store : ByteArray := prog_1_method_5_code
abbrev yX3_store : MethodName := ⟨"ThumbForge", "store", "(II)I"⟩
abbrev kX3_store : Cond := .code yX3_store cX3_store 3 (some FieldType.int)
abbrev wsX3_store : List Cond := kX3_store :: tbG
abbrev cX3_jump : ByteArray := prog_1_method_6_code
abbrev yX3_jump : MethodName := ⟨"ThumbForge", "jump", "(I)I"⟩
abbrev kX3_jump : Cond := .code yX3_jump cX3_jump 2 (some FieldType.int)
abbrev wsX3_jump : List Cond := kX3_jump :: tbG
abbrev cX3_branch : ByteArray := prog_1_method_7_code
abbrev yX3_branch : MethodName := ⟨"ThumbForge", "branch", "(IIII)I"⟩
abbrev kX3_branch : Cond := .code yX3_branch cX3_branch 5 (some FieldType.int)
abbrev wsX3_branch : List Cond := kX3_branch :: tbG
abbrev cX3_out : ByteArray := prog_1_method_8_code
abbrev yX3_out : MethodName := ⟨"ThumbForge", "out", "(I)I"⟩
abbrev kX3_out : Cond := .code yX3_out cX3_out 2 (some FieldType.int)
abbrev wsX3_out : List Cond := kX3_out :: tbG
abbrev cX3_stop : ByteArray := prog_1_method_9_code
abbrev yX3_stop : MethodName := ⟨"ThumbForge", "stop", "(I)I"⟩
abbrev kX3_stop : Cond := .code yX3_stop cX3_stop 2 (some FieldType.int)
abbrev wsX3_stop : List Cond := kX3_stop :: tbG
abbrev cX3_clear : ByteArray := prog_1_method_10_code
abbrev yX3_clear : MethodName := ⟨"ThumbForge", "clear", "()V"⟩
abbrev kX3_clear : Cond := .code yX3_clear cX3_clear 1 none
abbrev wsX3_clear : List Cond := kX3_clear :: tbG
abbrev cX3_forge : ByteArray := prog_1_method_11_code
abbrev yX3_forge : MethodName := ⟨"ThumbForge", "forge", "()I"⟩
abbrev kX3_forge : Cond := .code yX3_forge cX3_forge 1 (some FieldType.int)
abbrev wsX3_forge : List Cond := kX3_forge :: tbG
abbrev cX3_halfword : ByteArray := prog_1_method_12_code
abbrev yX3_halfword : MethodName := ⟨"ThumbForge", "halfword", "(I)I"⟩
abbrev kX3_halfword : Cond := .code yX3_halfword cX3_halfword 2 (some FieldType.int)
abbrev wsX3_halfword : List Cond := kX3_halfword :: tbG
abbrev cX3_place : ByteArray := prog_1_method_13_code
abbrev yX3_place : MethodName := ⟨"ThumbForge", "place", "(I)I"⟩
abbrev kX3_place : Cond := .code yX3_place cX3_place 2 (some FieldType.int)
abbrev wsX3_place : List Cond := kX3_place :: tbG
abbrev cX3_poke : ByteArray := prog_1_method_14_code
abbrev yX3_poke : MethodName := ⟨"ThumbForge", "poke", "(II)V"⟩
abbrev kX3_poke : Cond := .code yX3_poke cX3_poke 3 none
abbrev wsX3_poke : List Cond := kX3_poke :: tbG
abbrev cX3_memory : ByteArray := prog_1_method_15_code
abbrev yX3_memory : MethodName := ⟨"ThumbForge", "memory", "(I)I"⟩
abbrev kX3_memory : Cond := .code yX3_memory cX3_memory 2 (some FieldType.int)
abbrev wsX3_memory : List Cond := kX3_memory :: tbG
abbrev cX3_start : ByteArray := prog_1_method_16_code
abbrev yX3_start : MethodName := ⟨"ThumbForge", "start", "()V"⟩
abbrev kX3_start : Cond := .code yX3_start cX3_start 1 none
abbrev wsX3_start : List Cond := kX3_start :: tbG
abbrev cX3_run : ByteArray := prog_1_method_17_code
abbrev yX3_run : MethodName := ⟨"ThumbForge", "run", "(I)I"⟩
abbrev kX3_run : Cond := .code yX3_run cX3_run 2 (some FieldType.int)
abbrev wsX3_run : List Cond := kX3_run :: tbG
abbrev cX3_state : ByteArray := prog_1_method_18_code
abbrev yX3_state : MethodName := ⟨"ThumbForge", "state", "()I"⟩
abbrev kX3_state : Cond := .code yX3_state cX3_state 1 (some FieldType.int)
abbrev wsX3_state : List Cond := kX3_state :: tbG
abbrev cX3_at : ByteArray := prog_1_method_19_code
abbrev yX3_at : MethodName := ⟨"ThumbForge", "at", "()I"⟩
abbrev kX3_at : Cond := .code yX3_at cX3_at 1 (some FieldType.int)
abbrev wsX3_at : List Cond := kX3_at :: tbG
abbrev cX3_variable : ByteArray := prog_1_method_20_code
abbrev yX3_variable : MethodName := ⟨"ThumbForge", "variable", "(I)I"⟩
abbrev kX3_variable : Cond := .code yX3_variable cX3_variable 2 (some FieldType.int)
abbrev wsX3_variable : List Cond := kX3_variable :: tbG
abbrev cX3_outputs : ByteArray := prog_1_method_21_code
abbrev yX3_outputs : MethodName := ⟨"ThumbForge", "outputs", "()I"⟩
abbrev kX3_outputs : Cond := .code yX3_outputs cX3_outputs 1 (some FieldType.int)
abbrev wsX3_outputs : List Cond := kX3_outputs :: tbG
abbrev cX3_output : ByteArray := prog_1_method_22_code
abbrev yX3_output : MethodName := ⟨"ThumbForge", "output", "(I)I"⟩
abbrev kX3_output : Cond := .code yX3_output cX3_output 2 (some FieldType.int)
abbrev wsX3_output : List Cond := kX3_output :: tbG
abbrev cX3_append : ByteArray := prog_1_method_23_code
abbrev yX3_append : MethodName := ⟨"ThumbForge", "append", "(IIIIII)I"⟩
abbrev kX3_append : Cond := .code yX3_append cX3_append 7 (some FieldType.int)
abbrev wsX3_append : List Cond := kX3_append :: tbG
abbrev cX3_discardImage : ByteArray := prog_1_method_24_code
abbrev yX3_discardImage : MethodName := ⟨"ThumbForge", "discardImage", "()V"⟩
abbrev kX3_discardImage : Cond := .code yX3_discardImage cX3_discardImage 1 none
abbrev wsX3_discardImage : List Cond := kX3_discardImage :: tbG
abbrev cX3_needVariable : ByteArray := prog_1_method_25_code
abbrev yX3_needVariable : MethodName := ⟨"ThumbForge", "needVariable", "(I)V"⟩
abbrev kX3_needVariable : Cond := .code yX3_needVariable cX3_needVariable 1 none
abbrev wsX3_needVariable : List Cond := kX3_needVariable :: tbG
abbrev cX3_needTarget : ByteArray := prog_1_method_26_code
abbrev yX3_needTarget : MethodName := ⟨"ThumbForge", "needTarget", "(I)V"⟩
abbrev kX3_needTarget : Cond := .code yX3_needTarget cX3_needTarget 1 none
abbrev wsX3_needTarget : List Cond := kX3_needTarget :: tbG
abbrev cX3_needWord : ByteArray := prog_1_method_27_code
abbrev yX3_needWord : MethodName := ⟨"ThumbForge", "needWord", "(I)V"⟩
abbrev kX3_needWord : Cond := .code yX3_needWord cX3_needWord 1 none
abbrev wsX3_needWord : List Cond := kX3_needWord :: tbG
abbrev cX3_isRelation : ByteArray := prog_1_method_28_code
abbrev yX3_isRelation : MethodName := ⟨"ThumbForge", "isRelation", "(I)Z"⟩
abbrev kX3_isRelation : Cond := .code yX3_isRelation cX3_isRelation 1 (some FieldType.boolean)
abbrev wsX3_isRelation : List Cond := kX3_isRelation :: tbG
abbrev cX4_init : ByteArray := prog_6_method_1_code
abbrev yX4_init : MethodName := ⟨"ThumbForgeModel", "<init>", "()V"⟩
abbrev kX4_init : Cond := .code yX4_init cX4_init 1 none
abbrev wsX4_init : List Cond := kX4_init :: tbG
abbrev cX4_thrown : ByteArray := prog_6_method_2_code
abbrev yX4_thrown : MethodName := ⟨"ThumbForgeModel", "thrown", "()I"⟩
abbrev kX4_thrown : Cond := .code yX4_thrown cX4_thrown 1 (some FieldType.int)
abbrev wsX4_thrown : List Cond := kX4_thrown :: tbG
abbrev cX4_isVariable : ByteArray := prog_6_method_3_code
abbrev yX4_isVariable : MethodName := ⟨"ThumbForgeModel", "isVariable", "(I)Z"⟩
abbrev kX4_isVariable : Cond := .code yX4_isVariable cX4_isVariable 1 (some FieldType.boolean)
abbrev wsX4_isVariable : List Cond := kX4_isVariable :: tbG
abbrev cX4_append : ByteArray := prog_6_method_4_code
abbrev yX4_append : MethodName := ⟨"ThumbForgeModel", "append", "(ZIII)I"⟩
abbrev kX4_append : Cond := .code yX4_append cX4_append 5 (some FieldType.int)
abbrev wsX4_append : List Cond := kX4_append :: tbG
abbrev cX4_constant : ByteArray := prog_6_method_5_code
abbrev yX4_constant : MethodName := ⟨"ThumbForgeModel", "constant", "(II)I"⟩
abbrev kX4_constant : Cond := .code yX4_constant cX4_constant 3 (some FieldType.int)
abbrev wsX4_constant : List Cond := kX4_constant :: tbG
abbrev cX4_compute : ByteArray := prog_6_method_6_code
abbrev yX4_compute : MethodName := ⟨"ThumbForgeModel", "compute", "(IIII)I"⟩
abbrev kX4_compute : Cond := .code yX4_compute cX4_compute 6 (some FieldType.int)
abbrev wsX4_compute : List Cond := kX4_compute :: tbG
abbrev cX4_load : ByteArray := prog_6_method_7_code
abbrev yX4_load : MethodName := ⟨"ThumbForgeModel", "load", "(II)I"⟩
abbrev kX4_load : Cond := .code yX4_load cX4_load 3 (some FieldType.int)
abbrev wsX4_load : List Cond := kX4_load :: tbG
abbrev cX4_store : ByteArray := prog_6_method_8_code
abbrev yX4_store : MethodName := ⟨"ThumbForgeModel", "store", "(II)I"⟩
abbrev kX4_store : Cond := .code yX4_store cX4_store 3 (some FieldType.int)
abbrev wsX4_store : List Cond := kX4_store :: tbG
abbrev cX4_jump : ByteArray := prog_6_method_9_code
abbrev yX4_jump : MethodName := ⟨"ThumbForgeModel", "jump", "(I)I"⟩
abbrev kX4_jump : Cond := .code yX4_jump cX4_jump 2 (some FieldType.int)
abbrev wsX4_jump : List Cond := kX4_jump :: tbG
abbrev cX4_isRelation : ByteArray := prog_6_method_10_code
abbrev yX4_isRelation : MethodName := ⟨"ThumbForgeModel", "isRelation", "(I)Z"⟩
abbrev kX4_isRelation : Cond := .code yX4_isRelation cX4_isRelation 1 (some FieldType.boolean)
abbrev wsX4_isRelation : List Cond := kX4_isRelation :: tbG
abbrev cX4_branch : ByteArray := prog_6_method_11_code
abbrev yX4_branch : MethodName := ⟨"ThumbForgeModel", "branch", "(IIII)I"⟩
abbrev kX4_branch : Cond := .code yX4_branch cX4_branch 6 (some FieldType.int)
abbrev wsX4_branch : List Cond := kX4_branch :: tbG
abbrev cX4_out : ByteArray := prog_6_method_12_code
abbrev yX4_out : MethodName := ⟨"ThumbForgeModel", "out", "(I)I"⟩
abbrev kX4_out : Cond := .code yX4_out cX4_out 2 (some FieldType.int)
abbrev wsX4_out : List Cond := kX4_out :: tbG
abbrev cX4_stop : ByteArray := prog_6_method_13_code
abbrev yX4_stop : MethodName := ⟨"ThumbForgeModel", "stop", "(I)I"⟩
abbrev kX4_stop : Cond := .code yX4_stop cX4_stop 2 (some FieldType.int)
abbrev wsX4_stop : List Cond := kX4_stop :: tbG
abbrev cX4_clear : ByteArray := prog_6_method_14_code
abbrev yX4_clear : MethodName := ⟨"ThumbForgeModel", "clear", "()V"⟩
abbrev kX4_clear : Cond := .code yX4_clear cX4_clear 1 none
abbrev wsX4_clear : List Cond := kX4_clear :: tbG
abbrev cX4_slot : ByteArray := prog_6_method_15_code
abbrev yX4_slot : MethodName := ⟨"ThumbForgeModel", "slot", "(I)I"⟩
abbrev kX4_slot : Cond := .code yX4_slot cX4_slot 1 (some FieldType.int)
abbrev wsX4_slot : List Cond := kX4_slot :: tbG
abbrev cX4_shiftOf : ByteArray := prog_6_method_16_code
abbrev yX4_shiftOf : MethodName := ⟨"ThumbForgeModel", "shiftOf", "(I)I"⟩
abbrev kX4_shiftOf : Cond := .code yX4_shiftOf cX4_shiftOf 4 (some FieldType.int)
abbrev wsX4_shiftOf : List Cond := kX4_shiftOf :: tbG
abbrev cX4_isLiteral : ByteArray := prog_6_method_17_code
abbrev yX4_isLiteral : MethodName := ⟨"ThumbForgeModel", "isLiteral", "(I)Z"⟩
abbrev kX4_isLiteral : Cond := .code yX4_isLiteral cX4_isLiteral 1 (some FieldType.boolean)
abbrev wsX4_isLiteral : List Cond := kX4_isLiteral :: tbG
abbrev cX4_makeLength : ByteArray := prog_6_method_18_code
abbrev yX4_makeLength : MethodName := ⟨"ThumbForgeModel", "makeLength", "(I)I"⟩
abbrev kX4_makeLength : Cond := .code yX4_makeLength cX4_makeLength 1 (some FieldType.int)
abbrev wsX4_makeLength : List Cond := kX4_makeLength :: tbG
abbrev cX4_lengthOf : ByteArray := prog_6_method_19_code
abbrev yX4_lengthOf : MethodName := ⟨"ThumbForgeModel", "lengthOf", "(I)I"⟩
abbrev kX4_lengthOf : Cond := .code yX4_lengthOf cX4_lengthOf 2 (some FieldType.int)
abbrev wsX4_lengthOf : List Cond := kX4_lengthOf :: tbG
abbrev cX4_layOut : ByteArray := prog_6_method_20_code
abbrev yX4_layOut : MethodName := ⟨"ThumbForgeModel", "layOut", "()V"⟩
abbrev kX4_layOut : Cond := .code yX4_layOut cX4_layOut 2 none
abbrev wsX4_layOut : List Cond := kX4_layOut :: tbG
abbrev cX4_way : ByteArray := prog_6_method_21_code
abbrev yX4_way : MethodName := ⟨"ThumbForgeModel", "way", "(II)I"⟩
abbrev kX4_way : Cond := .code yX4_way cX4_way 3 (some FieldType.int)
abbrev wsX4_way : List Cond := kX4_way :: tbG
abbrev cX4_lengthen : ByteArray := prog_6_method_22_code
abbrev yX4_lengthen : MethodName := ⟨"ThumbForgeModel", "lengthen", "()V"⟩
abbrev kX4_lengthen : Cond := .code yX4_lengthen cX4_lengthen 4 none
abbrev wsX4_lengthen : List Cond := kX4_lengthen :: tbG
abbrev cX4_emit : ByteArray := prog_6_method_23_code
abbrev yX4_emit : MethodName := ⟨"ThumbForgeModel", "emit", "(I)V"⟩
abbrev kX4_emit : Cond := .code yX4_emit cX4_emit 2 none
abbrev wsX4_emit : List Cond := kX4_emit :: tbG
abbrev cX4_fetch : ByteArray := prog_6_method_24_code
abbrev yX4_fetch : MethodName := ⟨"ThumbForgeModel", "fetch", "(II)I"⟩
abbrev kX4_fetch : Cond := .code yX4_fetch cX4_fetch 3 (some FieldType.int)
abbrev wsX4_fetch : List Cond := kX4_fetch :: tbG
abbrev cX4_target : ByteArray := prog_6_method_25_code
abbrev yX4_target : MethodName := ⟨"ThumbForgeModel", "target", "(I)I"⟩
abbrev kX4_target : Cond := .code yX4_target cX4_target 1 (some FieldType.int)
abbrev wsX4_target : List Cond := kX4_target :: tbG
abbrev cX4_keep : ByteArray := prog_6_method_26_code
abbrev yX4_keep : MethodName := ⟨"ThumbForgeModel", "keep", "(I)V"⟩
abbrev kX4_keep : Cond := .code yX4_keep cX4_keep 2 none
abbrev wsX4_keep : List Cond := kX4_keep :: tbG
abbrev cX4_literal : ByteArray := prog_6_method_27_code
abbrev yX4_literal : MethodName := ⟨"ThumbForgeModel", "literal", "(II)V"⟩
abbrev kX4_literal : Cond := .code yX4_literal cX4_literal 5 none
abbrev wsX4_literal : List Cond := kX4_literal :: tbG
abbrev cX4_make : ByteArray := prog_6_method_28_code
abbrev yX4_make : MethodName := ⟨"ThumbForgeModel", "make", "(II)V"⟩
abbrev kX4_make : Cond := .code yX4_make cX4_make 4 none
abbrev wsX4_make : List Cond := kX4_make :: tbG
abbrev cX4_codeOf : ByteArray := prog_6_method_29_code
abbrev yX4_codeOf : MethodName := ⟨"ThumbForgeModel", "codeOf", "(I)I"⟩
abbrev kX4_codeOf : Cond := .code yX4_codeOf cX4_codeOf 1 (some FieldType.int)
abbrev wsX4_codeOf : List Cond := kX4_codeOf :: tbG
abbrev cX4_copy : ByteArray := prog_6_method_30_code
abbrev yX4_copy : MethodName := ⟨"ThumbForgeModel", "copy", "(I)V"⟩
abbrev kX4_copy : Cond := .code yX4_copy cX4_copy 2 none
abbrev wsX4_copy : List Cond := kX4_copy :: tbG
abbrev cX4_emitCompute : ByteArray := prog_6_method_31_code
abbrev yX4_emitCompute : MethodName := ⟨"ThumbForgeModel", "emitCompute", "(IIII)V"⟩
abbrev kX4_emitCompute : Cond := .code yX4_emitCompute cX4_emitCompute 7 none
abbrev wsX4_emitCompute : List Cond := kX4_emitCompute :: tbG
abbrev cX4_emitPlace : ByteArray := prog_6_method_32_code
abbrev yX4_emitPlace : MethodName := ⟨"ThumbForgeModel", "emitPlace", "(I)V"⟩
abbrev kX4_emitPlace : Cond := .code yX4_emitPlace cX4_emitPlace 2 none
abbrev wsX4_emitPlace : List Cond := kX4_emitPlace :: tbG
abbrev cX4_emitBranch : ByteArray := prog_6_method_33_code
abbrev yX4_emitBranch : MethodName := ⟨"ThumbForgeModel", "emitBranch", "(I)V"⟩
abbrev kX4_emitBranch : Cond := .code yX4_emitBranch cX4_emitBranch 4 none
abbrev wsX4_emitBranch : List Cond := kX4_emitBranch :: tbG
abbrev cX4_emitJump : ByteArray := prog_6_method_34_code
abbrev yX4_emitJump : MethodName := ⟨"ThumbForgeModel", "emitJump", "(I)V"⟩
abbrev kX4_emitJump : Cond := .code yX4_emitJump cX4_emitJump 2 none
abbrev wsX4_emitJump : List Cond := kX4_emitJump :: tbG
abbrev cX4_emitInstruction : ByteArray := prog_6_method_35_code
abbrev yX4_emitInstruction : MethodName := ⟨"ThumbForgeModel", "emitInstruction", "(I)V"⟩
abbrev kX4_emitInstruction : Cond := .code yX4_emitInstruction cX4_emitInstruction 3 none
abbrev wsX4_emitInstruction : List Cond := kX4_emitInstruction :: tbG
abbrev cX4_isSound : ByteArray := prog_6_method_36_code
abbrev yX4_isSound : MethodName := ⟨"ThumbForgeModel", "isSound", "()Z"⟩
abbrev kX4_isSound : Cond := .code yX4_isSound cX4_isSound 3 (some FieldType.boolean)
abbrev wsX4_isSound : List Cond := kX4_isSound :: tbG
abbrev cX4_forge : ByteArray := prog_6_method_37_code
abbrev yX4_forge : MethodName := ⟨"ThumbForgeModel", "forge", "()I"⟩
abbrev kX4_forge : Cond := .code yX4_forge cX4_forge 2 (some FieldType.int)
abbrev wsX4_forge : List Cond := kX4_forge :: tbG
abbrev cX4_halfword : ByteArray := prog_6_method_38_code
abbrev yX4_halfword : MethodName := ⟨"ThumbForgeModel", "halfword", "(I)I"⟩
abbrev kX4_halfword : Cond := .code yX4_halfword cX4_halfword 2 (some FieldType.int)
abbrev wsX4_halfword : List Cond := kX4_halfword :: tbG
abbrev cX4_place : ByteArray := prog_6_method_39_code
abbrev yX4_place : MethodName := ⟨"ThumbForgeModel", "place", "(I)I"⟩
abbrev kX4_place : Cond := .code yX4_place cX4_place 2 (some FieldType.int)
abbrev wsX4_place : List Cond := kX4_place :: tbG
abbrev cX4_poke : ByteArray := prog_6_method_40_code
abbrev yX4_poke : MethodName := ⟨"ThumbForgeModel", "poke", "(II)V"⟩
abbrev kX4_poke : Cond := .code yX4_poke cX4_poke 3 none
abbrev wsX4_poke : List Cond := kX4_poke :: tbG
abbrev cX4_memory : ByteArray := prog_6_method_41_code
abbrev yX4_memory : MethodName := ⟨"ThumbForgeModel", "memory", "(I)I"⟩
abbrev kX4_memory : Cond := .code yX4_memory cX4_memory 2 (some FieldType.int)
abbrev wsX4_memory : List Cond := kX4_memory :: tbG
abbrev cX4_start : ByteArray := prog_6_method_42_code
abbrev yX4_start : MethodName := ⟨"ThumbForgeModel", "start", "()V"⟩
abbrev kX4_start : Cond := .code yX4_start cX4_start 2 none
abbrev wsX4_start : List Cond := kX4_start :: tbG
abbrev cX4_computed : ByteArray := prog_6_method_43_code
abbrev yX4_computed : MethodName := ⟨"ThumbForgeModel", "computed", "(III)I"⟩
abbrev kX4_computed : Cond := .code yX4_computed cX4_computed 4 (some FieldType.int)
abbrev wsX4_computed : List Cond := kX4_computed :: tbG
abbrev cX4_holds : ByteArray := prog_6_method_44_code
abbrev yX4_holds : MethodName := ⟨"ThumbForgeModel", "holds", "(III)Z"⟩
abbrev kX4_holds : Cond := .code yX4_holds cX4_holds 7 (some FieldType.boolean)
abbrev wsX4_holds : List Cond := kX4_holds :: tbG
abbrev cX4_act : ByteArray := prog_6_method_45_code
abbrev yX4_act : MethodName := ⟨"ThumbForgeModel", "act", "(I)I"⟩
abbrev kX4_act : Cond := .code yX4_act cX4_act 3 (some FieldType.int)
abbrev wsX4_act : List Cond := kX4_act :: tbG
abbrev cX4_run : ByteArray := prog_6_method_46_code
abbrev yX4_run : MethodName := ⟨"ThumbForgeModel", "run", "(I)I"⟩
abbrev kX4_run : Cond := .code yX4_run cX4_run 3 (some FieldType.int)
abbrev wsX4_run : List Cond := kX4_run :: tbG
abbrev cX4_state : ByteArray := prog_6_method_47_code
abbrev yX4_state : MethodName := ⟨"ThumbForgeModel", "state", "()I"⟩
abbrev kX4_state : Cond := .code yX4_state cX4_state 1 (some FieldType.int)
abbrev wsX4_state : List Cond := kX4_state :: tbG
abbrev cX4_at : ByteArray := prog_6_method_48_code
abbrev yX4_at : MethodName := ⟨"ThumbForgeModel", "at", "()I"⟩
abbrev kX4_at : Cond := .code yX4_at cX4_at 1 (some FieldType.int)
abbrev wsX4_at : List Cond := kX4_at :: tbG
abbrev cX4_variable : ByteArray := prog_6_method_49_code
abbrev yX4_variable : MethodName := ⟨"ThumbForgeModel", "variable", "(I)I"⟩
abbrev kX4_variable : Cond := .code yX4_variable cX4_variable 2 (some FieldType.int)
abbrev wsX4_variable : List Cond := kX4_variable :: tbG
abbrev cX4_outputs : ByteArray := prog_6_method_50_code
abbrev yX4_outputs : MethodName := ⟨"ThumbForgeModel", "outputs", "()I"⟩
abbrev kX4_outputs : Cond := .code yX4_outputs cX4_outputs 1 (some FieldType.int)
abbrev wsX4_outputs : List Cond := kX4_outputs :: tbG
abbrev cX4_output : ByteArray := prog_6_method_51_code
abbrev yX4_output : MethodName := ⟨"ThumbForgeModel", "output", "(I)I"⟩
abbrev kX4_output : Cond := .code yX4_output cX4_output 2 (some FieldType.int)
abbrev wsX4_output : List Cond := kX4_output :: tbG
abbrev cX0_init : ByteArray := prog_2_method_1_code
abbrev yX0_init : MethodName := ⟨"ThumbForge$Image", "<init>", "(LThumbForge$Program;)V"⟩
abbrev kX0_init : Cond := .code yX0_init cX0_init 2 none
abbrev wsX0_init : List Cond := kX0_init :: tbG
abbrev cX0_make : ByteArray := prog_2_method_2_code
abbrev yX0_make : MethodName := ⟨"ThumbForge$Image", "make", "()V"⟩
abbrev kX0_make : Cond := .code yX0_make cX0_make 2 none
abbrev wsX0_make : List Cond := kX0_make :: tbG
abbrev cX0_lengthOf : ByteArray := prog_2_method_3_code
abbrev yX0_lengthOf : MethodName := ⟨"ThumbForge$Image", "lengthOf", "(I)I"⟩
abbrev kX0_lengthOf : Cond := .code yX0_lengthOf cX0_lengthOf 2 (some FieldType.int)
abbrev wsX0_lengthOf : List Cond := kX0_lengthOf :: tbG
abbrev cX0_lengthenBranches : ByteArray := prog_2_method_4_code
abbrev yX0_lengthenBranches : MethodName := ⟨"ThumbForge$Image", "lengthenBranches", "()Z"⟩
abbrev kX0_lengthenBranches : Cond := .code yX0_lengthenBranches cX0_lengthenBranches 3 (some FieldType.boolean)
abbrev wsX0_lengthenBranches : List Cond := kX0_lengthenBranches :: tbG
abbrev cX0_reaches : ByteArray := prog_2_method_5_code
abbrev yX0_reaches : MethodName := ⟨"ThumbForge$Image", "reaches", "(I)Z"⟩
abbrev kX0_reaches : Cond := .code yX0_reaches cX0_reaches 3 (some FieldType.boolean)
abbrev wsX0_reaches : List Cond := kX0_reaches :: tbG
abbrev cX0_distance : ByteArray := prog_2_method_6_code
abbrev yX0_distance : MethodName := ⟨"ThumbForge$Image", "distance", "(II)I"⟩
abbrev kX0_distance : Cond := .code yX0_distance cX0_distance 3 (some FieldType.int)
abbrev wsX0_distance : List Cond := kX0_distance :: tbG
abbrev cX0_writeCode : ByteArray := prog_2_method_7_code
abbrev yX0_writeCode : MethodName := ⟨"ThumbForge$Image", "writeCode", "()V"⟩
abbrev kX0_writeCode : Cond := .code yX0_writeCode cX0_writeCode 2 none
abbrev wsX0_writeCode : List Cond := kX0_writeCode :: tbG
abbrev cX0_writePool : ByteArray := prog_2_method_8_code
abbrev yX0_writePool : MethodName := ⟨"ThumbForge$Image", "writePool", "()V"⟩
abbrev kX0_writePool : Cond := .code yX0_writePool cX0_writePool 2 none
abbrev wsX0_writePool : List Cond := kX0_writePool :: tbG
abbrev cX0_writeInstruction : ByteArray := prog_2_method_9_code
abbrev yX0_writeInstruction : MethodName := ⟨"ThumbForge$Image", "writeInstruction", "(I)V"⟩
abbrev kX0_writeInstruction : Cond := .code yX0_writeInstruction cX0_writeInstruction 6 none
abbrev wsX0_writeInstruction : List Cond := kX0_writeInstruction :: tbG
abbrev cX0_writeNumber : ByteArray := prog_2_method_10_code
abbrev yX0_writeNumber : MethodName := ⟨"ThumbForge$Image", "writeNumber", "(II)V"⟩
abbrev kX0_writeNumber : Cond := .code yX0_writeNumber cX0_writeNumber 4 none
abbrev wsX0_writeNumber : List Cond := kX0_writeNumber :: tbG
abbrev cX0_leastShift : ByteArray := prog_2_method_11_code
abbrev yX0_leastShift : MethodName := ⟨"ThumbForge$Image", "leastShift", "(I)I"⟩
abbrev kX0_leastShift : Cond := .code yX0_leastShift cX0_leastShift 3 (some FieldType.int)
abbrev wsX0_leastShift : List Cond := kX0_leastShift :: tbG
abbrev cX0_writeLiteral : ByteArray := prog_2_method_12_code
abbrev yX0_writeLiteral : MethodName := ⟨"ThumbForge$Image", "writeLiteral", "(II)V"⟩
abbrev kX0_writeLiteral : Cond := .code yX0_writeLiteral cX0_writeLiteral 5 none
abbrev wsX0_writeLiteral : List Cond := kX0_writeLiteral :: tbG
abbrev cX0_literalIndex : ByteArray := prog_2_method_13_code
abbrev yX0_literalIndex : MethodName := ⟨"ThumbForge$Image", "literalIndex", "(I)I"⟩
abbrev kX0_literalIndex : Cond := .code yX0_literalIndex cX0_literalIndex 3 (some FieldType.int)
abbrev wsX0_literalIndex : List Cond := kX0_literalIndex :: tbG
abbrev cX0_writeCompute : ByteArray := prog_2_method_14_code
abbrev yX0_writeCompute : MethodName := ⟨"ThumbForge$Image", "writeCompute", "(IIII)V"⟩
abbrev kX0_writeCompute : Cond := .code yX0_writeCompute cX0_writeCompute 7 none
abbrev wsX0_writeCompute : List Cond := kX0_writeCompute :: tbG
abbrev cX0_writeWordChoice : ByteArray := prog_2_method_15_code
abbrev yX0_writeWordChoice : MethodName := ⟨"ThumbForge$Image", "writeWordChoice", "(I)V"⟩
abbrev kX0_writeWordChoice : Cond := .code yX0_writeWordChoice cX0_writeWordChoice 3 none
abbrev wsX0_writeWordChoice : List Cond := kX0_writeWordChoice :: tbG
abbrev cX0_writeBranch : ByteArray := prog_2_method_16_code
abbrev yX0_writeBranch : MethodName := ⟨"ThumbForge$Image", "writeBranch", "(IIIIZ)V"⟩
abbrev kX0_writeBranch : Cond := .code yX0_writeBranch cX0_writeBranch 8 none
abbrev wsX0_writeBranch : List Cond := kX0_writeBranch :: tbG
abbrev cX0_writeJump : ByteArray := prog_2_method_17_code
abbrev yX0_writeJump : MethodName := ⟨"ThumbForge$Image", "writeJump", "(I)V"⟩
abbrev kX0_writeJump : Cond := .code yX0_writeJump cX0_writeJump 2 none
abbrev wsX0_writeJump : List Cond := kX0_writeJump :: tbG
abbrev cX0_fetch : ByteArray := prog_2_method_18_code
abbrev yX0_fetch : MethodName := ⟨"ThumbForge$Image", "fetch", "(II)I"⟩
abbrev kX0_fetch : Cond := .code yX0_fetch cX0_fetch 3 (some FieldType.int)
abbrev wsX0_fetch : List Cond := kX0_fetch :: tbG
abbrev cX0_copyTo0 : ByteArray := prog_2_method_19_code
abbrev yX0_copyTo0 : MethodName := ⟨"ThumbForge$Image", "copyTo0", "(I)V"⟩
abbrev kX0_copyTo0 : Cond := .code yX0_copyTo0 cX0_copyTo0 2 none
abbrev wsX0_copyTo0 : List Cond := kX0_copyTo0 :: tbG
abbrev cX0_keep : ByteArray := prog_2_method_20_code
abbrev yX0_keep : MethodName := ⟨"ThumbForge$Image", "keep", "(I)V"⟩
abbrev kX0_keep : Cond := .code yX0_keep cX0_keep 2 none
abbrev wsX0_keep : List Cond := kX0_keep :: tbG
abbrev cX0_targetOf : ByteArray := prog_2_method_21_code
abbrev yX0_targetOf : MethodName := ⟨"ThumbForge$Image", "targetOf", "(I)I"⟩
abbrev kX0_targetOf : Cond := .code yX0_targetOf cX0_targetOf 1 (some FieldType.int)
abbrev wsX0_targetOf : List Cond := kX0_targetOf :: tbG
abbrev cX0_hasRegister : ByteArray := prog_2_method_22_code
abbrev yX0_hasRegister : MethodName := ⟨"ThumbForge$Image", "hasRegister", "(I)Z"⟩
abbrev kX0_hasRegister : Cond := .code yX0_hasRegister cX0_hasRegister 1 (some FieldType.boolean)
abbrev wsX0_hasRegister : List Cond := kX0_hasRegister :: tbG
abbrev cX0_registerOf : ByteArray := prog_2_method_23_code
abbrev yX0_registerOf : MethodName := ⟨"ThumbForge$Image", "registerOf", "(I)I"⟩
abbrev kX0_registerOf : Cond := .code yX0_registerOf cX0_registerOf 1 (some FieldType.int)
abbrev wsX0_registerOf : List Cond := kX0_registerOf :: tbG
abbrev cX0_slotOf : ByteArray := prog_2_method_24_code
abbrev yX0_slotOf : MethodName := ⟨"ThumbForge$Image", "slotOf", "(I)I"⟩
abbrev kX0_slotOf : Cond := .code yX0_slotOf cX0_slotOf 1 (some FieldType.int)
abbrev wsX0_slotOf : List Cond := kX0_slotOf :: tbG
abbrev cX0_put : ByteArray := prog_2_method_25_code
abbrev yX0_put : MethodName := ⟨"ThumbForge$Image", "put", "(I)V"⟩
abbrev kX0_put : Cond := .code yX0_put cX0_put 2 none
abbrev wsX0_put : List Cond := kX0_put :: tbG
abbrev cX1_init : ByteArray := prog_3_method_1_code
abbrev yX1_init : MethodName := ⟨"ThumbForge$Machine", "<init>", "(LThumbForge$Program;LThumbForge$Image;)V"⟩
abbrev kX1_init : Cond := .code yX1_init cX1_init 3 none
abbrev wsX1_init : List Cond := kX1_init :: tbG
abbrev cX1_turnOff : ByteArray := prog_3_method_2_code
abbrev yX1_turnOff : MethodName := ⟨"ThumbForge$Machine", "turnOff", "()V"⟩
abbrev kX1_turnOff : Cond := .code yX1_turnOff cX1_turnOff 1 none
abbrev wsX1_turnOff : List Cond := kX1_turnOff :: tbG
abbrev cX1_turnOn : ByteArray := prog_3_method_3_code
abbrev yX1_turnOn : MethodName := ⟨"ThumbForge$Machine", "turnOn", "()V"⟩
abbrev kX1_turnOn : Cond := .code yX1_turnOn cX1_turnOn 2 none
abbrev wsX1_turnOn : List Cond := kX1_turnOn :: tbG
abbrev cX1_goOn : ByteArray := prog_3_method_4_code
abbrev yX1_goOn : MethodName := ⟨"ThumbForge$Machine", "goOn", "(I)I"⟩
abbrev kX1_goOn : Cond := .code yX1_goOn cX1_goOn 4 (some FieldType.int)
abbrev wsX1_goOn : List Cond := kX1_goOn :: tbG
abbrev cX1_keeps : ByteArray := prog_3_method_5_code
abbrev yX1_keeps : MethodName := ⟨"ThumbForge$Machine", "keeps", "(I)Z"⟩
abbrev kX1_keeps : Cond := .code yX1_keeps cX1_keeps 2 (some FieldType.boolean)
abbrev wsX1_keeps : List Cond := kX1_keeps :: tbG
abbrev cX1_keptOutput : ByteArray := prog_3_method_6_code
abbrev yX1_keptOutput : MethodName := ⟨"ThumbForge$Machine", "keptOutput", "(I)I"⟩
abbrev kX1_keptOutput : Cond := .code yX1_keptOutput cX1_keptOutput 2 (some FieldType.int)
abbrev wsX1_keptOutput : List Cond := kX1_keptOutput :: tbG
abbrev cX1_step : ByteArray := prog_3_method_7_code
abbrev yX1_step : MethodName := ⟨"ThumbForge$Machine", "step", "()I"⟩
abbrev kX1_step : Cond := .code yX1_step cX1_step 6 (some FieldType.int)
abbrev wsX1_step : List Cond := kX1_step :: tbG
abbrev cX1_putOut : ByteArray := prog_3_method_8_code
abbrev yX1_putOut : MethodName := ⟨"ThumbForge$Machine", "putOut", "(I)V"⟩
abbrev kX1_putOut : Cond := .code yX1_putOut cX1_putOut 2 none
abbrev wsX1_putOut : List Cond := kX1_putOut :: tbG
abbrev cX1_result : ByteArray := prog_3_method_9_code
abbrev yX1_result : MethodName := ⟨"ThumbForge$Machine", "result", "(III)I"⟩
abbrev kX1_result : Cond := .code yX1_result cX1_result 4 (some FieldType.int)
abbrev wsX1_result : List Cond := kX1_result :: tbG
abbrev cX1_holds : ByteArray := prog_3_method_10_code
abbrev yX1_holds : MethodName := ⟨"ThumbForge$Machine", "holds", "(III)Z"⟩
abbrev kX1_holds : Cond := .code yX1_holds cX1_holds 5 (some FieldType.boolean)
abbrev wsX1_holds : List Cond := kX1_holds :: tbG
abbrev cX2_init : ByteArray := prog_4_method_1_code
abbrev yX2_init : MethodName := ⟨"ThumbForge$Program", "<init>", "()V"⟩
abbrev kX2_init : Cond := .code yX2_init cX2_init 1 none
abbrev wsX2_init : List Cond := kX2_init :: tbG
abbrev cX2_empty : ByteArray := prog_4_method_2_code
abbrev yX2_empty : MethodName := ⟨"ThumbForge$Program", "empty", "()V"⟩
abbrev kX2_empty : Cond := .code yX2_empty cX2_empty 1 none
abbrev wsX2_empty : List Cond := kX2_empty :: tbG
abbrev cX2_add : ByteArray := prog_4_method_3_code
abbrev yX2_add : MethodName := ⟨"ThumbForge$Program", "add", "(IIIIII)I"⟩
abbrev kX2_add : Cond := .code yX2_add cX2_add 8 (some FieldType.int)
abbrev wsX2_add : List Cond := kX2_add :: tbG
abbrev cX2_canBeForged : ByteArray := prog_4_method_4_code
abbrev yX2_canBeForged : MethodName := ⟨"ThumbForge$Program", "canBeForged", "()Z"⟩
abbrev kX2_canBeForged : Cond := .code yX2_canBeForged cX2_canBeForged 2 (some FieldType.boolean)
abbrev wsX2_canBeForged : List Cond := kX2_canBeForged :: tbG
abbrev cX2_neverGoesOnBehind : ByteArray := prog_4_method_5_code
abbrev yX2_neverGoesOnBehind : MethodName := ⟨"ThumbForge$Program", "neverGoesOnBehind", "(I)Z"⟩
abbrev kX2_neverGoesOnBehind : Cond := .code yX2_neverGoesOnBehind cX2_neverGoesOnBehind 1 (some FieldType.boolean)
abbrev wsX2_neverGoesOnBehind : List Cond := kX2_neverGoesOnBehind :: tbG
abbrev cL_constant : ByteArray := method_3_code
abbrev yL_constant : MethodName := ⟨"ThumbForgeLaw", "constant", "(LThumbForge;II[J)I"⟩
abbrev hL_constant : List (Nat × Nat × Nat × Nat) := [(0, 10, 13, 13), (0, 10, 17, 15)]
abbrev kL_constant : Cond := .codeWith yL_constant cL_constant 5 (some FieldType.int) hL_constant
abbrev wsL_constant : List Cond := kL_constant :: tbG
abbrev cL_compute : ByteArray := method_4_code
abbrev yL_compute : MethodName := ⟨"ThumbForgeLaw", "compute", "(LThumbForge;IIII[J)I"⟩
abbrev hL_compute : List (Nat × Nat × Nat × Nat) := [(0, 14, 17, 13), (0, 14, 21, 15)]
abbrev kL_compute : Cond := .codeWith yL_compute cL_compute 7 (some FieldType.int) hL_compute
abbrev wsL_compute : List Cond := kL_compute :: tbG
abbrev cL_load : ByteArray := method_5_code
abbrev yL_load : MethodName := ⟨"ThumbForgeLaw", "load", "(LThumbForge;II[J)I"⟩
abbrev hL_load : List (Nat × Nat × Nat × Nat) := [(0, 10, 13, 13), (0, 10, 17, 15)]
abbrev kL_load : Cond := .codeWith yL_load cL_load 5 (some FieldType.int) hL_load
abbrev wsL_load : List Cond := kL_load :: tbG
abbrev cL_store : ByteArray := method_6_code
abbrev yL_store : MethodName := ⟨"ThumbForgeLaw", "store", "(LThumbForge;II[J)I"⟩
abbrev hL_store : List (Nat × Nat × Nat × Nat) := [(0, 10, 13, 13), (0, 10, 17, 15)]
abbrev kL_store : Cond := .codeWith yL_store cL_store 5 (some FieldType.int) hL_store
abbrev wsL_store : List Cond := kL_store :: tbG
abbrev cL_jump : ByteArray := method_7_code
abbrev yL_jump : MethodName := ⟨"ThumbForgeLaw", "jump", "(LThumbForge;I[J)I"⟩
abbrev hL_jump : List (Nat × Nat × Nat × Nat) := [(0, 9, 12, 13), (0, 9, 15, 15)]
abbrev kL_jump : Cond := .codeWith yL_jump cL_jump 4 (some FieldType.int) hL_jump
abbrev wsL_jump : List Cond := kL_jump :: tbG
abbrev cL_branch : ByteArray := method_8_code
abbrev yL_branch : MethodName := ⟨"ThumbForgeLaw", "branch", "(LThumbForge;IIII[J)I"⟩
abbrev hL_branch : List (Nat × Nat × Nat × Nat) := [(0, 14, 17, 13), (0, 14, 21, 15)]
abbrev kL_branch : Cond := .codeWith yL_branch cL_branch 7 (some FieldType.int) hL_branch
abbrev wsL_branch : List Cond := kL_branch :: tbG
abbrev cL_out : ByteArray := method_9_code
abbrev yL_out : MethodName := ⟨"ThumbForgeLaw", "out", "(LThumbForge;I[J)I"⟩
abbrev hL_out : List (Nat × Nat × Nat × Nat) := [(0, 9, 12, 13), (0, 9, 15, 15)]
abbrev kL_out : Cond := .codeWith yL_out cL_out 4 (some FieldType.int) hL_out
abbrev wsL_out : List Cond := kL_out :: tbG
abbrev cL_stop : ByteArray := method_10_code
abbrev yL_stop : MethodName := ⟨"ThumbForgeLaw", "stop", "(LThumbForge;I[J)I"⟩
abbrev hL_stop : List (Nat × Nat × Nat × Nat) := [(0, 9, 12, 13), (0, 9, 15, 15)]
abbrev kL_stop : Cond := .codeWith yL_stop cL_stop 4 (some FieldType.int) hL_stop
abbrev wsL_stop : List Cond := kL_stop :: tbG
abbrev cL_forge : ByteArray := method_11_code
abbrev yL_forge : MethodName := ⟨"ThumbForgeLaw", "forge", "(LThumbForge;[J)I"⟩
abbrev hL_forge : List (Nat × Nat × Nat × Nat) := [(0, 8, 11, 15)]
abbrev kL_forge : Cond := .codeWith yL_forge cL_forge 3 (some FieldType.int) hL_forge
abbrev wsL_forge : List Cond := kL_forge :: tbG
abbrev cL_halfword : ByteArray := method_12_code
abbrev yL_halfword : MethodName := ⟨"ThumbForgeLaw", "halfword", "(LThumbForge;I[J)I"⟩
abbrev hL_halfword : List (Nat × Nat × Nat × Nat) := [(0, 9, 12, 47)]
abbrev kL_halfword : Cond := .codeWith yL_halfword cL_halfword 4 (some FieldType.int) hL_halfword
abbrev wsL_halfword : List Cond := kL_halfword :: tbG
abbrev cL_place : ByteArray := method_13_code
abbrev yL_place : MethodName := ⟨"ThumbForgeLaw", "place", "(LThumbForge;I[J)I"⟩
abbrev hL_place : List (Nat × Nat × Nat × Nat) := [(0, 9, 12, 47)]
abbrev kL_place : Cond := .codeWith yL_place cL_place 4 (some FieldType.int) hL_place
abbrev wsL_place : List Cond := kL_place :: tbG
abbrev cL_poke : ByteArray := method_14_code
abbrev yL_poke : MethodName := ⟨"ThumbForgeLaw", "poke", "(LThumbForge;II)I"⟩
abbrev hL_poke : List (Nat × Nat × Nat × Nat) := [(0, 6, 9, 13)]
abbrev kL_poke : Cond := .codeWith yL_poke cL_poke 4 (some FieldType.int) hL_poke
abbrev wsL_poke : List Cond := kL_poke :: tbG
abbrev cL_memory : ByteArray := method_15_code
abbrev yL_memory : MethodName := ⟨"ThumbForgeLaw", "memory", "(LThumbForge;I[J)I"⟩
abbrev hL_memory : List (Nat × Nat × Nat × Nat) := [(0, 9, 12, 13)]
abbrev kL_memory : Cond := .codeWith yL_memory cL_memory 4 (some FieldType.int) hL_memory
abbrev wsL_memory : List Cond := kL_memory :: tbG
abbrev cL_start : ByteArray := method_16_code
abbrev yL_start : MethodName := ⟨"ThumbForgeLaw", "start", "(LThumbForge;)I"⟩
abbrev hL_start : List (Nat × Nat × Nat × Nat) := [(0, 4, 7, 15)]
abbrev kL_start : Cond := .codeWith yL_start cL_start 2 (some FieldType.int) hL_start
abbrev wsL_start : List Cond := kL_start :: tbG
abbrev cL_run : ByteArray := method_17_code
abbrev yL_run : MethodName := ⟨"ThumbForgeLaw", "run", "(LThumbForge;I[J)I"⟩
abbrev hL_run : List (Nat × Nat × Nat × Nat) := [(0, 9, 12, 13), (0, 9, 15, 15)]
abbrev kL_run : Cond := .codeWith yL_run cL_run 4 (some FieldType.int) hL_run
abbrev wsL_run : List Cond := kL_run :: tbG
abbrev cL_variable : ByteArray := method_18_code
abbrev yL_variable : MethodName := ⟨"ThumbForgeLaw", "variable", "(LThumbForge;I[J)I"⟩
abbrev hL_variable : List (Nat × Nat × Nat × Nat) := [(0, 9, 12, 13), (0, 9, 15, 15)]
abbrev kL_variable : Cond := .codeWith yL_variable cL_variable 4 (some FieldType.int) hL_variable
abbrev wsL_variable : List Cond := kL_variable :: tbG
abbrev cL_output : ByteArray := method_19_code
abbrev yL_output : MethodName := ⟨"ThumbForgeLaw", "output", "(LThumbForge;I[J)I"⟩
abbrev hL_output : List (Nat × Nat × Nat × Nat) := [(0, 9, 12, 47)]
abbrev kL_output : Cond := .codeWith yL_output cL_output 4 (some FieldType.int) hL_output
abbrev wsL_output : List Cond := kL_output :: tbG
abbrev cL_law : ByteArray := code
theorem tw_1_0 : Cond.initialized "ThumbForgeLaw" ∈ tbG := tb_in (tb_1 0 rfl) rfl
theorem tw_1_1 : Cond.initialized "ThumbForge" ∈ tbG := tb_in (tb_1 1 rfl) rfl
theorem tw_1_2 : Cond.initialized "ThumbForge$Program" ∈ tbG := tb_in (tb_1 2 rfl) rfl
theorem tw_1_3 : Cond.initialized "ThumbForge$Image" ∈ tbG := tb_in (tb_1 3 rfl) rfl
theorem tw_1_4 : Cond.initialized "ThumbForge$Machine" ∈ tbG := tb_in (tb_1 4 rfl) rfl
theorem tw_1_5 : Cond.initialized "ThumbForgeModel" ∈ tbG := tb_in (tb_1 5 rfl) rfl
theorem tw_1_6 : Cond.initialized "java/lang/Throwable" ∈ tbG := tb_in (tb_1 6 rfl) rfl
theorem tw_1_7 : Cond.initialized "java/lang/Exception" ∈ tbG := tb_in (tb_1 7 rfl) rfl
theorem tw_1_8 : Cond.initialized "java/lang/RuntimeException" ∈ tbG := tb_in (tb_1 8 rfl) rfl
theorem tw_1_9 : Cond.initialized "java/lang/IllegalArgumentException" ∈ tbG := tb_in (tb_1 9 rfl) rfl
theorem tw_1_10 : Cond.initialized "java/lang/IllegalStateException" ∈ tbG := tb_in (tb_1 10 rfl) rfl
theorem tw_1_11 : Cond.initialized "java/util/NoSuchElementException" ∈ tbG := tb_in (tb_1 11 rfl) rfl
theorem tw_1_12 : Cond.classLink "ThumbForgeLaw" 8 "ThumbForge" ∈ tbG := tb_in (tb_1 12 rfl) rfl
theorem tw_1_13 : Cond.instantiable "ThumbForge" 3 ∈ tbG := tb_in (tb_1 13 rfl) rfl
theorem tw_1_14 : Cond.methodLink "ThumbForgeLaw" 71 ⟨"ThumbForge", "<init>", "()V"⟩ ∈ tbG := tb_in (tb_1 14 rfl) rfl
theorem tw_1_15 : Cond.instanceMethod ⟨"ThumbForge", "<init>", "()V"⟩ ∈ tbG := tb_in (tb_1 15 rfl) rfl
theorem tw_1_16 : Cond.code ⟨"ThumbForge", "<init>", "()V"⟩ prog_1_method_1_code 1 none ∈ tbG := tb_in (tb_1 16 rfl) rfl
theorem tw_1_17 : Cond.methodLink "ThumbForge" 1 ⟨"java/lang/Object", "<init>", "()V"⟩ ∈ tbG := tb_in (tb_1 17 rfl) rfl
theorem tw_1_18 : Cond.instanceMethod ⟨"java/lang/Object", "<init>", "()V"⟩ ∈ tbG := tb_in (tb_1 18 rfl) rfl
theorem tw_1_19 : Cond.code ⟨"java/lang/Object", "<init>", "()V"⟩ object_method_1_code 1 none ∈ tbG := tb_in (tb_1 19 rfl) rfl
theorem tw_1_20 : Cond.classLink "ThumbForge" 7 "ThumbForge$Program" ∈ tbG := tb_in (tb_1 20 rfl) rfl
theorem tw_1_21 : Cond.instantiable "ThumbForge$Program" 7 ∈ tbG := tb_in (tb_1 21 rfl) rfl
theorem tw_1_23 : Cond.instanceMethod ⟨"ThumbForge$Program", "<init>", "()V"⟩ ∈ tbG := tb_in (tb_1 23 rfl) rfl
theorem tw_1_24 : Cond.code ⟨"ThumbForge$Program", "<init>", "()V"⟩ prog_4_method_1_code 1 none ∈ tbG := tb_in (tb_1 24 rfl) rfl
theorem tw_1_25 : Cond.methodLink "ThumbForge$Program" 3 ⟨"java/lang/Object", "<init>", "()V"⟩ ∈ tbG := tb_in (tb_1 25 rfl) rfl
theorem tw_1_26 : Cond.fieldLink "ThumbForge$Program" 9 "ThumbForge$Program" "kinds" "[I" ∈ tbG := tb_in (tb_1 26 rfl) rfl
theorem tw_1_27 : Cond.fieldLink "ThumbForge$Image" 49 "ThumbForge$Program" "kinds" "[I" ∈ tbG := tb_in (tb_1 27 rfl) rfl
theorem tw_1_28 : Cond.fieldLink "ThumbForge$Machine" 60 "ThumbForge$Program" "kinds" "[I" ∈ tbG := tb_in (tb_1 28 rfl) rfl
theorem tw_1_29 : Cond.fieldLink "ThumbForge$Program" 15 "ThumbForge$Program" "codes" "[I" ∈ tbG := tb_in (tb_1 29 rfl) rfl
theorem tw_1_30 : Cond.fieldLink "ThumbForge$Machine" 66 "ThumbForge$Program" "codes" "[I" ∈ tbG := tb_in (tb_1 30 rfl) rfl
theorem tw_1_31 : Cond.fieldLink "ThumbForge$Image" 104 "ThumbForge$Program" "codes" "[I" ∈ tbG := tb_in (tb_1 31 rfl) rfl
theorem tw_1_32 : Cond.fieldLink "ThumbForge$Program" 18 "ThumbForge$Program" "targets" "[I" ∈ tbG := tb_in (tb_1 32 rfl) rfl
theorem tw_1_33 : Cond.fieldLink "ThumbForge$Machine" 63 "ThumbForge$Program" "targets" "[I" ∈ tbG := tb_in (tb_1 33 rfl) rfl
theorem tw_1_34 : Cond.fieldLink "ThumbForge$Image" 85 "ThumbForge$Program" "targets" "[I" ∈ tbG := tb_in (tb_1 34 rfl) rfl
theorem tw_1_35 : Cond.fieldLink "ThumbForge$Program" 21 "ThumbForge$Program" "firsts" "[I" ∈ tbG := tb_in (tb_1 35 rfl) rfl
theorem tw_1_36 : Cond.fieldLink "ThumbForge$Machine" 43 "ThumbForge$Program" "firsts" "[I" ∈ tbG := tb_in (tb_1 36 rfl) rfl
theorem tw_1_37 : Cond.fieldLink "ThumbForge$Image" 88 "ThumbForge$Program" "firsts" "[I" ∈ tbG := tb_in (tb_1 37 rfl) rfl
theorem tw_1_38 : Cond.fieldLink "ThumbForge$Program" 24 "ThumbForge$Program" "seconds" "[I" ∈ tbG := tb_in (tb_1 38 rfl) rfl
theorem tw_1_39 : Cond.fieldLink "ThumbForge$Machine" 48 "ThumbForge$Program" "seconds" "[I" ∈ tbG := tb_in (tb_1 39 rfl) rfl
theorem tw_1_40 : Cond.fieldLink "ThumbForge$Image" 91 "ThumbForge$Program" "seconds" "[I" ∈ tbG := tb_in (tb_1 40 rfl) rfl
theorem tw_1_41 : Cond.fieldLink "ThumbForge$Program" 27 "ThumbForge$Program" "numbers" "[I" ∈ tbG := tb_in (tb_1 41 rfl) rfl
theorem tw_1_42 : Cond.fieldLink "ThumbForge$Image" 56 "ThumbForge$Program" "numbers" "[I" ∈ tbG := tb_in (tb_1 42 rfl) rfl
theorem tw_1_43 : Cond.fieldLink "ThumbForge$Machine" 51 "ThumbForge$Program" "numbers" "[I" ∈ tbG := tb_in (tb_1 43 rfl) rfl
theorem tw_1_44 : Cond.fieldLink "ThumbForge$Program" 30 "ThumbForge$Program" "count" "I" ∈ tbG := tb_in (tb_1 44 rfl) rfl
theorem tw_1_45 : Cond.fieldLink "ThumbForge$Image" 43 "ThumbForge$Program" "count" "I" ∈ tbG := tb_in (tb_1 45 rfl) rfl
theorem tw_1_46 : Cond.fieldLink "ThumbForge" 98 "ThumbForge$Program" "count" "I" ∈ tbG := tb_in (tb_1 46 rfl) rfl
theorem tw_1_47 : Cond.laysFinal "ThumbForge$Program" "ThumbForge$Program" "kinds" "[I" ∈ tbG := tb_in (tb_1 47 rfl) rfl
theorem tw_1_48 : Cond.soleField "ThumbForge$Program" "kinds" ∈ tbG := tb_in (tb_1 48 rfl) rfl
theorem tw_1_49 : Cond.laysFinal "ThumbForge$Program" "ThumbForge$Program" "codes" "[I" ∈ tbG := tb_in (tb_1 49 rfl) rfl
theorem tw_1_50 : Cond.soleField "ThumbForge$Program" "codes" ∈ tbG := tb_in (tb_1 50 rfl) rfl
theorem tw_1_51 : Cond.laysFinal "ThumbForge$Program" "ThumbForge$Program" "targets" "[I" ∈ tbG := tb_in (tb_1 51 rfl) rfl
theorem tw_1_52 : Cond.soleField "ThumbForge$Program" "targets" ∈ tbG := tb_in (tb_1 52 rfl) rfl
theorem tw_1_53 : Cond.laysFinal "ThumbForge$Program" "ThumbForge$Program" "firsts" "[I" ∈ tbG := tb_in (tb_1 53 rfl) rfl
theorem tw_1_54 : Cond.soleField "ThumbForge$Program" "firsts" ∈ tbG := tb_in (tb_1 54 rfl) rfl
theorem tw_1_55 : Cond.laysFinal "ThumbForge$Program" "ThumbForge$Program" "seconds" "[I" ∈ tbG := tb_in (tb_1 55 rfl) rfl
theorem tw_1_56 : Cond.soleField "ThumbForge$Program" "seconds" ∈ tbG := tb_in (tb_1 56 rfl) rfl
theorem tw_1_57 : Cond.laysFinal "ThumbForge$Program" "ThumbForge$Program" "numbers" "[I" ∈ tbG := tb_in (tb_1 57 rfl) rfl
theorem tw_1_58 : Cond.soleField "ThumbForge$Program" "numbers" ∈ tbG := tb_in (tb_1 58 rfl) rfl
theorem tw_1_59 : Cond.lays "ThumbForge$Program" "ThumbForge$Program" "count" "I" ∈ tbG := tb_in (tb_1 59 rfl) rfl
theorem tw_1_60 : Cond.soleField "ThumbForge$Program" "count" ∈ tbG := tb_in (tb_1 60 rfl) rfl
theorem tw_1_61 : Cond.superclass "ThumbForge$Program" "java/lang/Object" ∈ tbG := tb_in (tb_1 61 rfl) rfl
theorem tw_1_62 : Cond.arrayClass FieldType.int ∈ tbG := tb_in (tb_1 62 rfl) rfl
theorem tw_1_63 : Cond.classLink "ThumbForge" 16 "ThumbForge$Image" ∈ tbG := tb_in (tb_1 63 rfl) rfl
theorem tw_1_64 : Cond.instantiable "ThumbForge$Image" 9 ∈ tbG := tb_in (tb_1 64 rfl) rfl
theorem tw_1_65 : Cond.methodLink "ThumbForge" 18 ⟨"ThumbForge$Image", "<init>", "(LThumbForge$Program;)V"⟩ ∈ tbG := tb_in (tb_1 65 rfl) rfl
theorem tw_1_66 : Cond.instanceMethod ⟨"ThumbForge$Image", "<init>", "(LThumbForge$Program;)V"⟩ ∈ tbG := tb_in (tb_1 66 rfl) rfl
theorem tw_1_67 : Cond.code ⟨"ThumbForge$Image", "<init>", "(LThumbForge$Program;)V"⟩ prog_2_method_1_code 2 none ∈ tbG := tb_in (tb_1 67 rfl) rfl
theorem tw_1_68 : Cond.methodLink "ThumbForge$Image" 5 ⟨"java/lang/Object", "<init>", "()V"⟩ ∈ tbG := tb_in (tb_1 68 rfl) rfl
theorem tw_1_69 : Cond.fieldLink "ThumbForge$Image" 25 "ThumbForge$Image" "program" "LThumbForge$Program;" ∈ tbG := tb_in (tb_1 69 rfl) rfl
theorem tw_1_70 : Cond.fieldLink "ThumbForge$Image" 11 "ThumbForge$Image" "halfwords" "[I" ∈ tbG := tb_in (tb_1 70 rfl) rfl
theorem tw_1_71 : Cond.fieldLink "ThumbForge" 94 "ThumbForge$Image" "halfwords" "[I" ∈ tbG := tb_in (tb_1 71 rfl) rfl
theorem tw_1_72 : Cond.fieldLink "ThumbForge$Image" 15 "ThumbForge$Image" "places" "[I" ∈ tbG := tb_in (tb_1 72 rfl) rfl
theorem tw_1_73 : Cond.fieldLink "ThumbForge" 103 "ThumbForge$Image" "places" "[I" ∈ tbG := tb_in (tb_1 73 rfl) rfl
theorem tw_1_74 : Cond.fieldLink "ThumbForge$Image" 18 "ThumbForge$Image" "isLong" "[Z" ∈ tbG := tb_in (tb_1 74 rfl) rfl
theorem tw_1_75 : Cond.fieldLink "ThumbForge$Machine" 77 "ThumbForge$Image" "isLong" "[Z" ∈ tbG := tb_in (tb_1 75 rfl) rfl
theorem tw_1_76 : Cond.fieldLink "ThumbForge$Image" 22 "ThumbForge$Image" "literals" "[I" ∈ tbG := tb_in (tb_1 76 rfl) rfl
theorem tw_1_77 : Cond.fieldLink "ThumbForge$Image" 66 "ThumbForge$Image" "literalCount" "I" ∈ tbG := tb_in (tb_1 77 rfl) rfl
theorem tw_1_78 : Cond.fieldLink "ThumbForge$Image" 78 "ThumbForge$Image" "poolPlace" "I" ∈ tbG := tb_in (tb_1 78 rfl) rfl
theorem tw_1_79 : Cond.fieldLink "ThumbForge$Image" 63 "ThumbForge$Image" "length" "I" ∈ tbG := tb_in (tb_1 79 rfl) rfl
theorem tw_1_80 : Cond.fieldLink "ThumbForge" 81 "ThumbForge$Image" "length" "I" ∈ tbG := tb_in (tb_1 80 rfl) rfl
theorem tw_1_81 : Cond.fieldLink "ThumbForge$Image" 39 "ThumbForge$Image" "made" "Z" ∈ tbG := tb_in (tb_1 81 rfl) rfl
theorem tw_1_82 : Cond.fieldLink "ThumbForge" 85 "ThumbForge$Image" "made" "Z" ∈ tbG := tb_in (tb_1 82 rfl) rfl
theorem tw_1_83 : Cond.laysFinal "ThumbForge$Image" "ThumbForge$Image" "program" "LThumbForge$Program;" ∈ tbG := tb_in (tb_1 83 rfl) rfl
theorem tw_1_84 : Cond.soleField "ThumbForge$Image" "program" ∈ tbG := tb_in (tb_1 84 rfl) rfl
theorem tw_1_85 : Cond.laysFinal "ThumbForge$Image" "ThumbForge$Image" "halfwords" "[I" ∈ tbG := tb_in (tb_1 85 rfl) rfl
theorem tw_1_86 : Cond.soleField "ThumbForge$Image" "halfwords" ∈ tbG := tb_in (tb_1 86 rfl) rfl
theorem tw_1_87 : Cond.laysFinal "ThumbForge$Image" "ThumbForge$Image" "places" "[I" ∈ tbG := tb_in (tb_1 87 rfl) rfl
theorem tw_1_88 : Cond.soleField "ThumbForge$Image" "places" ∈ tbG := tb_in (tb_1 88 rfl) rfl
theorem tw_1_89 : Cond.laysFinal "ThumbForge$Image" "ThumbForge$Image" "isLong" "[Z" ∈ tbG := tb_in (tb_1 89 rfl) rfl
theorem tw_1_90 : Cond.soleField "ThumbForge$Image" "isLong" ∈ tbG := tb_in (tb_1 90 rfl) rfl
theorem tw_1_91 : Cond.laysFinal "ThumbForge$Image" "ThumbForge$Image" "literals" "[I" ∈ tbG := tb_in (tb_1 91 rfl) rfl
theorem tw_1_92 : Cond.soleField "ThumbForge$Image" "literals" ∈ tbG := tb_in (tb_1 92 rfl) rfl
theorem tw_1_93 : Cond.lays "ThumbForge$Image" "ThumbForge$Image" "literalCount" "I" ∈ tbG := tb_in (tb_1 93 rfl) rfl
theorem tw_1_94 : Cond.soleField "ThumbForge$Image" "literalCount" ∈ tbG := tb_in (tb_1 94 rfl) rfl
theorem tw_1_95 : Cond.lays "ThumbForge$Image" "ThumbForge$Image" "poolPlace" "I" ∈ tbG := tb_in (tb_1 95 rfl) rfl
theorem tw_1_96 : Cond.soleField "ThumbForge$Image" "poolPlace" ∈ tbG := tb_in (tb_1 96 rfl) rfl
theorem tw_1_97 : Cond.lays "ThumbForge$Image" "ThumbForge$Image" "length" "I" ∈ tbG := tb_in (tb_1 97 rfl) rfl
theorem tw_1_98 : Cond.soleField "ThumbForge$Image" "length" ∈ tbG := tb_in (tb_1 98 rfl) rfl
theorem tw_1_99 : Cond.lays "ThumbForge$Image" "ThumbForge$Image" "made" "Z" ∈ tbG := tb_in (tb_1 99 rfl) rfl
theorem tw_1_100 : Cond.soleField "ThumbForge$Image" "made" ∈ tbG := tb_in (tb_1 100 rfl) rfl
theorem tw_1_101 : Cond.superclass "ThumbForge$Image" "java/lang/Object" ∈ tbG := tb_in (tb_1 101 rfl) rfl
theorem tw_1_102 : Cond.arrayClass FieldType.boolean ∈ tbG := tb_in (tb_1 102 rfl) rfl
theorem tw_1_103 : Cond.classLink "ThumbForge" 25 "ThumbForge$Machine" ∈ tbG := tb_in (tb_1 103 rfl) rfl
theorem tw_1_104 : Cond.instantiable "ThumbForge$Machine" 9 ∈ tbG := tb_in (tb_1 104 rfl) rfl
theorem tw_1_105 : Cond.methodLink "ThumbForge" 27 ⟨"ThumbForge$Machine", "<init>", "(LThumbForge$Program;LThumbForge$Image;)V"⟩ ∈ tbG := tb_in (tb_1 105 rfl) rfl
theorem tw_1_106 : Cond.instanceMethod ⟨"ThumbForge$Machine", "<init>", "(LThumbForge$Program;LThumbForge$Image;)V"⟩ ∈ tbG := tb_in (tb_1 106 rfl) rfl
theorem tw_1_107 : Cond.code ⟨"ThumbForge$Machine", "<init>", "(LThumbForge$Program;LThumbForge$Image;)V"⟩ prog_3_method_1_code 3 none ∈ tbG := tb_in (tb_1 107 rfl) rfl
theorem tw_1_108 : Cond.methodLink "ThumbForge$Machine" 3 ⟨"java/lang/Object", "<init>", "()V"⟩ ∈ tbG := tb_in (tb_1 108 rfl) rfl
theorem tw_1_109 : Cond.fieldLink "ThumbForge$Machine" 21 "ThumbForge$Machine" "program" "LThumbForge$Program;" ∈ tbG := tb_in (tb_1 109 rfl) rfl
theorem tw_1_110 : Cond.fieldLink "ThumbForge$Machine" 25 "ThumbForge$Machine" "image" "LThumbForge$Image;" ∈ tbG := tb_in (tb_1 110 rfl) rfl
theorem tw_1_111 : Cond.fieldLink "ThumbForge$Machine" 9 "ThumbForge$Machine" "words" "[I" ∈ tbG := tb_in (tb_1 111 rfl) rfl
theorem tw_1_112 : Cond.fieldLink "ThumbForge" 109 "ThumbForge$Machine" "words" "[I" ∈ tbG := tb_in (tb_1 112 rfl) rfl
theorem tw_1_113 : Cond.fieldLink "ThumbForge$Machine" 15 "ThumbForge$Machine" "values" "[I" ∈ tbG := tb_in (tb_1 113 rfl) rfl
theorem tw_1_114 : Cond.fieldLink "ThumbForge" 136 "ThumbForge$Machine" "values" "[I" ∈ tbG := tb_in (tb_1 114 rfl) rfl
theorem tw_1_115 : Cond.fieldLink "ThumbForge$Machine" 18 "ThumbForge$Machine" "kept" "[I" ∈ tbG := tb_in (tb_1 115 rfl) rfl
theorem tw_1_116 : Cond.fieldLink "ThumbForge$Machine" 33 "ThumbForge$Machine" "outCount" "I" ∈ tbG := tb_in (tb_1 116 rfl) rfl
theorem tw_1_117 : Cond.fieldLink "ThumbForge" 139 "ThumbForge$Machine" "outCount" "I" ∈ tbG := tb_in (tb_1 117 rfl) rfl
theorem tw_1_118 : Cond.fieldLink "ThumbForge$Machine" 29 "ThumbForge$Machine" "mode" "I" ∈ tbG := tb_in (tb_1 118 rfl) rfl
theorem tw_1_119 : Cond.fieldLink "ThumbForge" 119 "ThumbForge$Machine" "mode" "I" ∈ tbG := tb_in (tb_1 119 rfl) rfl
theorem tw_1_120 : Cond.fieldLink "ThumbForge$Machine" 85 "ThumbForge$Machine" "trap" "I" ∈ tbG := tb_in (tb_1 120 rfl) rfl
theorem tw_1_121 : Cond.fieldLink "ThumbForge" 128 "ThumbForge$Machine" "trap" "I" ∈ tbG := tb_in (tb_1 121 rfl) rfl
theorem tw_1_122 : Cond.fieldLink "ThumbForge$Machine" 36 "ThumbForge$Machine" "next" "I" ∈ tbG := tb_in (tb_1 122 rfl) rfl
theorem tw_1_123 : Cond.fieldLink "ThumbForge" 131 "ThumbForge$Machine" "next" "I" ∈ tbG := tb_in (tb_1 123 rfl) rfl
theorem tw_1_124 : Cond.laysFinal "ThumbForge$Machine" "ThumbForge$Machine" "program" "LThumbForge$Program;" ∈ tbG := tb_in (tb_1 124 rfl) rfl
theorem tw_1_125 : Cond.soleField "ThumbForge$Machine" "program" ∈ tbG := tb_in (tb_1 125 rfl) rfl
theorem tw_1_126 : Cond.laysFinal "ThumbForge$Machine" "ThumbForge$Machine" "image" "LThumbForge$Image;" ∈ tbG := tb_in (tb_1 126 rfl) rfl
theorem tw_1_127 : Cond.soleField "ThumbForge$Machine" "image" ∈ tbG := tb_in (tb_1 127 rfl) rfl
theorem tw_1_128 : Cond.laysFinal "ThumbForge$Machine" "ThumbForge$Machine" "words" "[I" ∈ tbG := tb_in (tb_1 128 rfl) rfl
theorem tw_1_129 : Cond.soleField "ThumbForge$Machine" "words" ∈ tbG := tb_in (tb_1 129 rfl) rfl
theorem tw_1_130 : Cond.laysFinal "ThumbForge$Machine" "ThumbForge$Machine" "values" "[I" ∈ tbG := tb_in (tb_1 130 rfl) rfl
theorem tw_1_131 : Cond.soleField "ThumbForge$Machine" "values" ∈ tbG := tb_in (tb_1 131 rfl) rfl
theorem tw_1_132 : Cond.laysFinal "ThumbForge$Machine" "ThumbForge$Machine" "kept" "[I" ∈ tbG := tb_in (tb_1 132 rfl) rfl
theorem tw_1_133 : Cond.soleField "ThumbForge$Machine" "kept" ∈ tbG := tb_in (tb_1 133 rfl) rfl
theorem tw_1_134 : Cond.lays "ThumbForge$Machine" "ThumbForge$Machine" "outCount" "I" ∈ tbG := tb_in (tb_1 134 rfl) rfl
theorem tw_1_135 : Cond.soleField "ThumbForge$Machine" "outCount" ∈ tbG := tb_in (tb_1 135 rfl) rfl
theorem tw_1_136 : Cond.lays "ThumbForge$Machine" "ThumbForge$Machine" "mode" "I" ∈ tbG := tb_in (tb_1 136 rfl) rfl
theorem tw_1_137 : Cond.soleField "ThumbForge$Machine" "mode" ∈ tbG := tb_in (tb_1 137 rfl) rfl
theorem tw_1_138 : Cond.lays "ThumbForge$Machine" "ThumbForge$Machine" "trap" "I" ∈ tbG := tb_in (tb_1 138 rfl) rfl
theorem tw_1_139 : Cond.soleField "ThumbForge$Machine" "trap" ∈ tbG := tb_in (tb_1 139 rfl) rfl
theorem tw_1_140 : Cond.lays "ThumbForge$Machine" "ThumbForge$Machine" "next" "I" ∈ tbG := tb_in (tb_1 140 rfl) rfl
theorem tw_1_141 : Cond.soleField "ThumbForge$Machine" "next" ∈ tbG := tb_in (tb_1 141 rfl) rfl
theorem tw_1_142 : Cond.superclass "ThumbForge$Machine" "java/lang/Object" ∈ tbG := tb_in (tb_1 142 rfl) rfl
theorem tw_1_143 : Cond.fieldLink "ThumbForge" 10 "ThumbForge" "program" "LThumbForge$Program;" ∈ tbG := tb_in (tb_1 143 rfl) rfl
theorem tw_1_144 : Cond.fieldLink "ThumbForge" 21 "ThumbForge" "image" "LThumbForge$Image;" ∈ tbG := tb_in (tb_1 144 rfl) rfl
theorem tw_1_145 : Cond.fieldLink "ThumbForge" 30 "ThumbForge" "machine" "LThumbForge$Machine;" ∈ tbG := tb_in (tb_1 145 rfl) rfl
theorem tw_1_146 : Cond.laysFinal "ThumbForge" "ThumbForge" "program" "LThumbForge$Program;" ∈ tbG := tb_in (tb_1 146 rfl) rfl
theorem tw_1_147 : Cond.soleField "ThumbForge" "program" ∈ tbG := tb_in (tb_1 147 rfl) rfl
theorem tw_1_148 : Cond.laysFinal "ThumbForge" "ThumbForge" "image" "LThumbForge$Image;" ∈ tbG := tb_in (tb_1 148 rfl) rfl
theorem tw_1_149 : Cond.soleField "ThumbForge" "image" ∈ tbG := tb_in (tb_1 149 rfl) rfl
theorem tw_1_150 : Cond.laysFinal "ThumbForge" "ThumbForge" "machine" "LThumbForge$Machine;" ∈ tbG := tb_in (tb_1 150 rfl) rfl
theorem tw_1_151 : Cond.soleField "ThumbForge" "machine" ∈ tbG := tb_in (tb_1 151 rfl) rfl
theorem tw_1_152 : Cond.superclass "ThumbForge" "java/lang/Object" ∈ tbG := tb_in (tb_1 152 rfl) rfl
theorem tw_1_153 : Cond.methodLink "ThumbForgeLaw" 107 ⟨"ThumbForge", "clear", "()V"⟩ ∈ tbG := tb_in (tb_1 153 rfl) rfl
theorem tw_1_154 : Cond.instanceMethod ⟨"ThumbForge", "clear", "()V"⟩ ∈ tbG := tb_in (tb_1 154 rfl) rfl
theorem tw_1_155 : Cond.selects "ThumbForge" ⟨"ThumbForge", "clear", "()V"⟩ ⟨"ThumbForge", "clear", "()V"⟩ ∈ tbG := tb_in (tb_1 155 rfl) rfl
theorem tw_1_156 : Cond.code ⟨"ThumbForge", "clear", "()V"⟩ prog_1_method_10_code 1 none ∈ tbG := tb_in (tb_1 156 rfl) rfl
theorem tw_1_157 : Cond.methodLink "ThumbForge" 60 ⟨"ThumbForge$Program", "empty", "()V"⟩ ∈ tbG := tb_in (tb_1 157 rfl) rfl
theorem tw_1_158 : Cond.instanceMethod ⟨"ThumbForge$Program", "empty", "()V"⟩ ∈ tbG := tb_in (tb_1 158 rfl) rfl
theorem tw_1_159 : Cond.selects "ThumbForge$Program" ⟨"ThumbForge$Program", "empty", "()V"⟩ ⟨"ThumbForge$Program", "empty", "()V"⟩ ∈ tbG := tb_in (tb_1 159 rfl) rfl
theorem tw_1_160 : Cond.code ⟨"ThumbForge$Program", "empty", "()V"⟩ prog_4_method_2_code 1 none ∈ tbG := tb_in (tb_1 160 rfl) rfl
theorem tw_1_161 : Cond.methodLink "ThumbForge" 63 ⟨"ThumbForge", "discardImage", "()V"⟩ ∈ tbG := tb_in (tb_1 161 rfl) rfl
theorem tw_1_163 : Cond.instanceMethod ⟨"ThumbForge", "discardImage", "()V"⟩ ∈ tbG := tb_in (tb_1 163 rfl) rfl
theorem tw_1_164 : Cond.code ⟨"ThumbForge", "discardImage", "()V"⟩ prog_1_method_24_code 1 none ∈ tbG := tb_in (tb_1 164 rfl) rfl
theorem tw_1_165 : Cond.methodLink "ThumbForge" 75 ⟨"ThumbForge$Machine", "turnOff", "()V"⟩ ∈ tbG := tb_in (tb_1 165 rfl) rfl
theorem tw_1_166 : Cond.instanceMethod ⟨"ThumbForge$Machine", "turnOff", "()V"⟩ ∈ tbG := tb_in (tb_1 166 rfl) rfl
theorem tw_1_167 : Cond.selects "ThumbForge$Machine" ⟨"ThumbForge$Machine", "turnOff", "()V"⟩ ⟨"ThumbForge$Machine", "turnOff", "()V"⟩ ∈ tbG := tb_in (tb_1 167 rfl) rfl
theorem tw_1_168 : Cond.code ⟨"ThumbForge$Machine", "turnOff", "()V"⟩ prog_3_method_2_code 1 none ∈ tbG := tb_in (tb_1 168 rfl) rfl
theorem tw_1_169 : Cond.methodLink "ThumbForgeLaw" 135 ⟨"ThumbForge", "state", "()I"⟩ ∈ tbG := tb_in (tb_1 169 rfl) rfl
theorem tw_1_170 : Cond.instanceMethod ⟨"ThumbForge", "state", "()I"⟩ ∈ tbG := tb_in (tb_1 170 rfl) rfl
theorem tw_1_171 : Cond.selects "ThumbForge" ⟨"ThumbForge", "state", "()I"⟩ ⟨"ThumbForge", "state", "()I"⟩ ∈ tbG := tb_in (tb_1 171 rfl) rfl
theorem tw_1_172 : Cond.code ⟨"ThumbForge", "state", "()I"⟩ prog_1_method_18_code 1 (some FieldType.int) ∈ tbG := tb_in (tb_1 172 rfl) rfl
theorem tw_1_173 : Cond.methodLink "ThumbForgeLaw" 139 ⟨"ThumbForge", "at", "()I"⟩ ∈ tbG := tb_in (tb_1 173 rfl) rfl
theorem tw_1_174 : Cond.instanceMethod ⟨"ThumbForge", "at", "()I"⟩ ∈ tbG := tb_in (tb_1 174 rfl) rfl
theorem tw_1_175 : Cond.selects "ThumbForge" ⟨"ThumbForge", "at", "()I"⟩ ⟨"ThumbForge", "at", "()I"⟩ ∈ tbG := tb_in (tb_1 175 rfl) rfl
theorem tw_1_176 : Cond.code ⟨"ThumbForge", "at", "()I"⟩ prog_1_method_19_code 1 (some FieldType.int) ∈ tbG := tb_in (tb_1 176 rfl) rfl
theorem tw_1_177 : Cond.methodLink "ThumbForgeLaw" 146 ⟨"ThumbForge", "outputs", "()I"⟩ ∈ tbG := tb_in (tb_1 177 rfl) rfl
theorem tw_1_178 : Cond.instanceMethod ⟨"ThumbForge", "outputs", "()I"⟩ ∈ tbG := tb_in (tb_1 178 rfl) rfl
theorem tw_1_179 : Cond.selects "ThumbForge" ⟨"ThumbForge", "outputs", "()I"⟩ ⟨"ThumbForge", "outputs", "()I"⟩ ∈ tbG := tb_in (tb_1 179 rfl) rfl
theorem tw_1_180 : Cond.code ⟨"ThumbForge", "outputs", "()I"⟩ prog_1_method_21_code 1 (some FieldType.int) ∈ tbG := tb_in (tb_1 180 rfl) rfl
theorem tw_1_181 : Cond.methodLink "ThumbForgeLaw" 75 ⟨"ThumbForgeLaw", "constant", "(LThumbForge;II[J)I"⟩ ∈ tbG := tb_in (tb_1 181 rfl) rfl
theorem tw_1_182 : Cond.static ⟨"ThumbForgeLaw", "constant", "(LThumbForge;II[J)I"⟩ ∈ tbG := tb_in (tb_1 182 rfl) rfl
theorem tw_1_183 : Cond.codeWith ⟨"ThumbForgeLaw", "constant", "(LThumbForge;II[J)I"⟩ method_3_code 5 (some FieldType.int) [(0, 10, 13, 13), (0, 10, 17, 15)] ∈ tbG := tb_in (tb_1 183 rfl) rfl
theorem tw_1_184 : Cond.classLink "ThumbForgeLaw" 13 "java/lang/IllegalArgumentException" ∈ tbG := tb_in (tb_1 184 rfl) rfl
theorem tw_1_185 : Cond.classLink "ThumbForgeLaw" 15 "java/lang/IllegalStateException" ∈ tbG := tb_in (tb_1 185 rfl) rfl
theorem tw_1_186 : Cond.methodLink "ThumbForgeLaw" 7 ⟨"ThumbForge", "constant", "(II)I"⟩ ∈ tbG := tb_in (tb_1 186 rfl) rfl
theorem tw_1_187 : Cond.instanceMethod ⟨"ThumbForge", "constant", "(II)I"⟩ ∈ tbG := tb_in (tb_1 187 rfl) rfl
theorem tw_1_188 : Cond.selects "ThumbForge" ⟨"ThumbForge", "constant", "(II)I"⟩ ⟨"ThumbForge", "constant", "(II)I"⟩ ∈ tbG := tb_in (tb_1 188 rfl) rfl
theorem tw_1_189 : Cond.code ⟨"ThumbForge", "constant", "(II)I"⟩ prog_1_method_2_code 3 (some FieldType.int) ∈ tbG := tb_in (tb_1 189 rfl) rfl
theorem tw_1_190 : Cond.methodLink "ThumbForge" 34 ⟨"ThumbForge", "needVariable", "(I)V"⟩ ∈ tbG := tb_in (tb_1 190 rfl) rfl
theorem tw_1_191 : Cond.static ⟨"ThumbForge", "needVariable", "(I)V"⟩ ∈ tbG := tb_in (tb_1 191 rfl) rfl
theorem tw_1_192 : Cond.code ⟨"ThumbForge", "needVariable", "(I)V"⟩ prog_1_method_25_code 1 none ∈ tbG := tb_in (tb_1 192 rfl) rfl
theorem tw_1_193 : Cond.classLink "ThumbForge" 42 "java/lang/IllegalArgumentException" ∈ tbG := tb_in (tb_1 193 rfl) rfl
theorem tw_1_194 : Cond.instantiable "java/lang/IllegalArgumentException" 6 ∈ tbG := tb_in (tb_1 194 rfl) rfl
theorem tw_1_202 : Cond.selects "java/lang/IllegalArgumentException" ⟨"java/lang/Throwable", "fillInStackTrace", "(I)Ljava/lang/Throwable;"⟩ ⟨"java/lang/Throwable", "fillInStackTrace", "(I)Ljava/lang/Throwable;"⟩ ∈ tbG := tb_in (tb_1 202 rfl) rfl
theorem tw_1_203 : Cond.selects "java/lang/IllegalArgumentException" ⟨"java/lang/Throwable", "fillInStackTrace", "()Ljava/lang/Throwable;"⟩ ⟨"java/lang/Throwable", "fillInStackTrace", "()Ljava/lang/Throwable;"⟩ ∈ tbG := tb_in (tb_1 203 rfl) rfl
theorem tw_1_204 : Cond.lays "java/lang/IllegalArgumentException" "java/lang/Throwable" "cause" "Ljava/lang/Throwable;" ∈ tbG := tb_in (tb_1 204 rfl) rfl
theorem tw_1_205 : Cond.lays "java/lang/Throwable" "java/lang/Throwable" "cause" "Ljava/lang/Throwable;" ∈ tbG := tb_in (tb_1 205 rfl) rfl
theorem tw_1_206 : Cond.lays "java/lang/IllegalArgumentException" "java/lang/Throwable" "stackTrace" "[Ljava/lang/StackTraceElement;" ∈ tbG := tb_in (tb_1 206 rfl) rfl
theorem tw_1_207 : Cond.lays "java/lang/Throwable" "java/lang/Throwable" "stackTrace" "[Ljava/lang/StackTraceElement;" ∈ tbG := tb_in (tb_1 207 rfl) rfl
theorem tw_1_208 : Cond.lays "java/lang/IllegalArgumentException" "java/lang/Throwable" "suppressedExceptions" "Ljava/util/List;" ∈ tbG := tb_in (tb_1 208 rfl) rfl
theorem tw_1_209 : Cond.lays "java/lang/Throwable" "java/lang/Throwable" "suppressedExceptions" "Ljava/util/List;" ∈ tbG := tb_in (tb_1 209 rfl) rfl
theorem tw_1_210 : Cond.lays "java/lang/IllegalArgumentException" "java/lang/Throwable" "detailMessage" "Ljava/lang/String;" ∈ tbG := tb_in (tb_1 210 rfl) rfl
theorem tw_1_211 : Cond.lays "java/lang/Throwable" "java/lang/Throwable" "detailMessage" "Ljava/lang/String;" ∈ tbG := tb_in (tb_1 211 rfl) rfl
theorem tw_1_212 : Cond.lays "java/lang/IllegalArgumentException" "java/lang/Throwable" "backtrace" "Ljava/lang/Object;" ∈ tbG := tb_in (tb_1 212 rfl) rfl
theorem tw_1_213 : Cond.lays "java/lang/Throwable" "java/lang/Throwable" "backtrace" "Ljava/lang/Object;" ∈ tbG := tb_in (tb_1 213 rfl) rfl
theorem tw_1_214 : Cond.fieldLink "java/lang/Throwable" 198 "java/lang/Throwable" "backtrace" "Ljava/lang/Object;" ∈ tbG := tb_in (tb_1 214 rfl) rfl
theorem tw_1_215 : Cond.superclass "java/lang/Throwable" "java/lang/Object" ∈ tbG := tb_in (tb_1 215 rfl) rfl
theorem tw_1_216 : Cond.instanceMethod ⟨"java/lang/Throwable", "<init>", "()V"⟩ ∈ tbG := tb_in (tb_1 216 rfl) rfl
theorem tw_1_217 : Cond.code ⟨"java/lang/Throwable", "<init>", "()V"⟩ prog_12_method_1_code 1 none ∈ tbG := tb_in (tb_1 217 rfl) rfl
theorem tw_1_218 : Cond.methodLink "java/lang/Throwable" 1 ⟨"java/lang/Object", "<init>", "()V"⟩ ∈ tbG := tb_in (tb_1 218 rfl) rfl
theorem tw_1_219 : Cond.fieldLink "java/lang/Throwable" 13 "java/lang/Throwable" "UNASSIGNED_STACK" "[Ljava/lang/StackTraceElement;" ∈ tbG := tb_in (tb_1 219 rfl) rfl
theorem tw_1_221 : Cond.fieldLink "java/lang/Throwable" 20 "java/lang/Throwable" "SUPPRESSED_SENTINEL" "Ljava/util/List;" ∈ tbG := tb_in (tb_1 221 rfl) rfl
theorem tw_1_223 : Cond.methodLink "java/lang/Throwable" 27 ⟨"java/lang/Throwable", "fillInStackTrace", "()Ljava/lang/Throwable;"⟩ ∈ tbG := tb_in (tb_1 223 rfl) rfl
theorem tw_1_224 : Cond.instanceMethod ⟨"java/lang/Throwable", "fillInStackTrace", "()Ljava/lang/Throwable;"⟩ ∈ tbG := tb_in (tb_1 224 rfl) rfl
theorem tw_1_225 : Cond.sameMethod "java/lang/Throwable" "java/lang/Throwable" "fillInStackTrace" "()Ljava/lang/Throwable;" ∈ tbG := tb_in (tb_1 225 rfl) rfl
theorem tw_1_226 : Cond.selects "java/lang/IllegalStateException" ⟨"java/lang/Throwable", "fillInStackTrace", "()Ljava/lang/Throwable;"⟩ ⟨"java/lang/Throwable", "fillInStackTrace", "()Ljava/lang/Throwable;"⟩ ∈ tbG := tb_in (tb_1 226 rfl) rfl
theorem tw_1_227 : Cond.selects "java/util/NoSuchElementException" ⟨"java/lang/Throwable", "fillInStackTrace", "()Ljava/lang/Throwable;"⟩ ⟨"java/lang/Throwable", "fillInStackTrace", "()Ljava/lang/Throwable;"⟩ ∈ tbG := tb_in (tb_1 227 rfl) rfl
theorem tw_1_228 : Cond.codeSync ⟨"java/lang/Throwable", "fillInStackTrace", "()Ljava/lang/Throwable;"⟩ prog_12_method_18_code 1 (some (FieldType.object "java/lang/Throwable")) ∈ tbG := tb_in (tb_1 228 rfl) rfl
theorem tw_1_229 : Cond.methodLink "java/lang/Throwable" 202 ⟨"java/lang/Throwable", "fillInStackTrace", "(I)Ljava/lang/Throwable;"⟩ ∈ tbG := tb_in (tb_1 229 rfl) rfl
theorem tw_1_231 : Cond.instanceMethod ⟨"java/lang/Throwable", "fillInStackTrace", "(I)Ljava/lang/Throwable;"⟩ ∈ tbG := tb_in (tb_1 231 rfl) rfl
theorem tw_1_232 : Cond.instantiable "java/lang/Throwable" 6 ∈ tbG := tb_in (tb_1 232 rfl) rfl
theorem tw_1_233 : Cond.native ⟨"java/lang/Throwable", "fillInStackTrace", "(I)Ljava/lang/Throwable;"⟩ ∈ tbG := tb_in (tb_1 233 rfl) rfl
theorem tw_1_235 : Cond.methodLink "ThumbForge" 46 ⟨"java/lang/IllegalArgumentException", "<init>", "(Ljava/lang/String;)V"⟩ ∈ tbG := tb_in (tb_1 235 rfl) rfl
theorem tw_1_236 : Cond.instanceMethod ⟨"java/lang/IllegalArgumentException", "<init>", "(Ljava/lang/String;)V"⟩ ∈ tbG := tb_in (tb_1 236 rfl) rfl
theorem tw_1_237 : Cond.code ⟨"java/lang/IllegalArgumentException", "<init>", "(Ljava/lang/String;)V"⟩ prog_8_method_2_code 2 none ∈ tbG := tb_in (tb_1 237 rfl) rfl
theorem tw_1_238 : Cond.methodLink "java/lang/IllegalArgumentException" 7 ⟨"java/lang/RuntimeException", "<init>", "(Ljava/lang/String;)V"⟩ ∈ tbG := tb_in (tb_1 238 rfl) rfl
theorem tw_1_239 : Cond.instanceMethod ⟨"java/lang/RuntimeException", "<init>", "(Ljava/lang/String;)V"⟩ ∈ tbG := tb_in (tb_1 239 rfl) rfl
theorem tw_2_0 : Cond.code ⟨"java/lang/RuntimeException", "<init>", "(Ljava/lang/String;)V"⟩ prog_10_method_2_code 2 none ∈ tbG := tb_in (tb_2 0 rfl) rfl
theorem tw_2_1 : Cond.methodLink "java/lang/RuntimeException" 7 ⟨"java/lang/Exception", "<init>", "(Ljava/lang/String;)V"⟩ ∈ tbG := tb_in (tb_2 1 rfl) rfl
theorem tw_2_2 : Cond.instanceMethod ⟨"java/lang/Exception", "<init>", "(Ljava/lang/String;)V"⟩ ∈ tbG := tb_in (tb_2 2 rfl) rfl
theorem tw_2_3 : Cond.code ⟨"java/lang/Exception", "<init>", "(Ljava/lang/String;)V"⟩ prog_7_method_2_code 2 none ∈ tbG := tb_in (tb_2 3 rfl) rfl
theorem tw_2_4 : Cond.methodLink "java/lang/Exception" 7 ⟨"java/lang/Throwable", "<init>", "(Ljava/lang/String;)V"⟩ ∈ tbG := tb_in (tb_2 4 rfl) rfl
theorem tw_2_5 : Cond.instanceMethod ⟨"java/lang/Throwable", "<init>", "(Ljava/lang/String;)V"⟩ ∈ tbG := tb_in (tb_2 5 rfl) rfl
theorem tw_2_6 : Cond.code ⟨"java/lang/Throwable", "<init>", "(Ljava/lang/String;)V"⟩ prog_12_method_2_code 2 none ∈ tbG := tb_in (tb_2 6 rfl) rfl
theorem tw_2_7 : Cond.fieldLink "java/lang/Throwable" 198 "java/lang/Throwable" "backtrace" "Ljava/lang/Object;" ∈ tbG := tb_in (tb_2 7 rfl) rfl
theorem tw_2_8 : Cond.fieldLink "java/lang/Throwable" 31 "java/lang/Throwable" "detailMessage" "Ljava/lang/String;" ∈ tbG := tb_in (tb_2 8 rfl) rfl
theorem tw_2_9 : Cond.fieldLink "java/lang/Throwable" 7 "java/lang/Throwable" "cause" "Ljava/lang/Throwable;" ∈ tbG := tb_in (tb_2 9 rfl) rfl
theorem tw_2_10 : Cond.fieldLink "java/lang/Throwable" 17 "java/lang/Throwable" "stackTrace" "[Ljava/lang/StackTraceElement;" ∈ tbG := tb_in (tb_2 10 rfl) rfl
theorem tw_2_11 : Cond.fieldLink "java/lang/Throwable" 24 "java/lang/Throwable" "suppressedExceptions" "Ljava/util/List;" ∈ tbG := tb_in (tb_2 11 rfl) rfl
theorem tw_2_12 : Cond.soleField "java/lang/Throwable" "backtrace" ∈ tbG := tb_in (tb_2 12 rfl) rfl
theorem tw_2_13 : Cond.soleField "java/lang/Throwable" "detailMessage" ∈ tbG := tb_in (tb_2 13 rfl) rfl
theorem tw_2_14 : Cond.soleField "java/lang/Throwable" "cause" ∈ tbG := tb_in (tb_2 14 rfl) rfl
theorem tw_2_15 : Cond.soleField "java/lang/Throwable" "stackTrace" ∈ tbG := tb_in (tb_2 15 rfl) rfl
theorem tw_2_16 : Cond.lays "java/lang/IllegalArgumentException" "java/lang/Throwable" "depth" "I" ∈ tbG := tb_in (tb_2 16 rfl) rfl
theorem tw_2_17 : Cond.soleField "java/lang/Throwable" "depth" ∈ tbG := tb_in (tb_2 17 rfl) rfl
theorem tw_2_18 : Cond.soleField "java/lang/Throwable" "suppressedExceptions" ∈ tbG := tb_in (tb_2 18 rfl) rfl
theorem tw_2_19 : Cond.superclass "java/lang/IllegalArgumentException" "java/lang/RuntimeException" ∈ tbG := tb_in (tb_2 19 rfl) rfl
theorem tw_2_20 : Cond.arrayClass FieldType.byte ∈ tbG := tb_in (tb_2 20 rfl) rfl
theorem tw_2_21 : Cond.methodLink "ThumbForge" 38 ⟨"ThumbForge", "append", "(IIIIII)I"⟩ ∈ tbG := tb_in (tb_2 21 rfl) rfl
theorem tw_2_23 : Cond.instanceMethod ⟨"ThumbForge", "append", "(IIIIII)I"⟩ ∈ tbG := tb_in (tb_2 23 rfl) rfl
theorem tw_2_24 : Cond.code ⟨"ThumbForge", "append", "(IIIIII)I"⟩ prog_1_method_23_code 7 (some FieldType.int) ∈ tbG := tb_in (tb_2 24 rfl) rfl
theorem tw_2_25 : Cond.classLink "ThumbForge" 70 "java/lang/IllegalStateException" ∈ tbG := tb_in (tb_2 25 rfl) rfl
theorem tw_2_26 : Cond.instantiable "java/lang/IllegalStateException" 6 ∈ tbG := tb_in (tb_2 26 rfl) rfl
theorem tw_2_28 : Cond.selects "java/lang/IllegalStateException" ⟨"java/lang/Throwable", "fillInStackTrace", "(I)Ljava/lang/Throwable;"⟩ ⟨"java/lang/Throwable", "fillInStackTrace", "(I)Ljava/lang/Throwable;"⟩ ∈ tbG := tb_in (tb_2 28 rfl) rfl
theorem tw_2_29 : Cond.lays "java/lang/IllegalStateException" "java/lang/Throwable" "cause" "Ljava/lang/Throwable;" ∈ tbG := tb_in (tb_2 29 rfl) rfl
theorem tw_2_30 : Cond.lays "java/lang/IllegalStateException" "java/lang/Throwable" "stackTrace" "[Ljava/lang/StackTraceElement;" ∈ tbG := tb_in (tb_2 30 rfl) rfl
theorem tw_2_31 : Cond.lays "java/lang/IllegalStateException" "java/lang/Throwable" "suppressedExceptions" "Ljava/util/List;" ∈ tbG := tb_in (tb_2 31 rfl) rfl
theorem tw_2_32 : Cond.lays "java/lang/IllegalStateException" "java/lang/Throwable" "detailMessage" "Ljava/lang/String;" ∈ tbG := tb_in (tb_2 32 rfl) rfl
theorem tw_2_33 : Cond.lays "java/lang/IllegalStateException" "java/lang/Throwable" "backtrace" "Ljava/lang/Object;" ∈ tbG := tb_in (tb_2 33 rfl) rfl
theorem tw_2_35 : Cond.methodLink "ThumbForge" 74 ⟨"java/lang/IllegalStateException", "<init>", "(Ljava/lang/String;)V"⟩ ∈ tbG := tb_in (tb_2 35 rfl) rfl
theorem tw_2_36 : Cond.instanceMethod ⟨"java/lang/IllegalStateException", "<init>", "(Ljava/lang/String;)V"⟩ ∈ tbG := tb_in (tb_2 36 rfl) rfl
theorem tw_2_37 : Cond.code ⟨"java/lang/IllegalStateException", "<init>", "(Ljava/lang/String;)V"⟩ prog_9_method_2_code 2 none ∈ tbG := tb_in (tb_2 37 rfl) rfl
theorem tw_2_38 : Cond.methodLink "java/lang/IllegalStateException" 7 ⟨"java/lang/RuntimeException", "<init>", "(Ljava/lang/String;)V"⟩ ∈ tbG := tb_in (tb_2 38 rfl) rfl
theorem tw_2_39 : Cond.lays "java/lang/IllegalStateException" "java/lang/Throwable" "depth" "I" ∈ tbG := tb_in (tb_2 39 rfl) rfl
theorem tw_2_40 : Cond.superclass "java/lang/IllegalStateException" "java/lang/RuntimeException" ∈ tbG := tb_in (tb_2 40 rfl) rfl
theorem tw_2_41 : Cond.methodLink "ThumbForge" 152 ⟨"ThumbForge$Program", "add", "(IIIIII)I"⟩ ∈ tbG := tb_in (tb_2 41 rfl) rfl
theorem tw_2_42 : Cond.instanceMethod ⟨"ThumbForge$Program", "add", "(IIIIII)I"⟩ ∈ tbG := tb_in (tb_2 42 rfl) rfl
theorem tw_2_43 : Cond.selects "ThumbForge$Program" ⟨"ThumbForge$Program", "add", "(IIIIII)I"⟩ ⟨"ThumbForge$Program", "add", "(IIIIII)I"⟩ ∈ tbG := tb_in (tb_2 43 rfl) rfl
theorem tw_2_44 : Cond.code ⟨"ThumbForge$Program", "add", "(IIIIII)I"⟩ prog_4_method_3_code 8 (some FieldType.int) ∈ tbG := tb_in (tb_2 44 rfl) rfl
theorem tw_2_45 : Cond.methodLink "ThumbForgeLaw" 84 ⟨"ThumbForgeLaw", "compute", "(LThumbForge;IIII[J)I"⟩ ∈ tbG := tb_in (tb_2 45 rfl) rfl
theorem tw_2_46 : Cond.static ⟨"ThumbForgeLaw", "compute", "(LThumbForge;IIII[J)I"⟩ ∈ tbG := tb_in (tb_2 46 rfl) rfl
theorem tw_2_47 : Cond.codeWith ⟨"ThumbForgeLaw", "compute", "(LThumbForge;IIII[J)I"⟩ method_4_code 7 (some FieldType.int) [(0, 14, 17, 13), (0, 14, 21, 15)] ∈ tbG := tb_in (tb_2 47 rfl) rfl
theorem tw_2_48 : Cond.methodLink "ThumbForgeLaw" 17 ⟨"ThumbForge", "compute", "(IIII)I"⟩ ∈ tbG := tb_in (tb_2 48 rfl) rfl
theorem tw_2_49 : Cond.instanceMethod ⟨"ThumbForge", "compute", "(IIII)I"⟩ ∈ tbG := tb_in (tb_2 49 rfl) rfl
theorem tw_2_50 : Cond.selects "ThumbForge" ⟨"ThumbForge", "compute", "(IIII)I"⟩ ⟨"ThumbForge", "compute", "(IIII)I"⟩ ∈ tbG := tb_in (tb_2 50 rfl) rfl
theorem tw_2_51 : Cond.code ⟨"ThumbForge", "compute", "(IIII)I"⟩ prog_1_method_3_code 5 (some FieldType.int) ∈ tbG := tb_in (tb_2 51 rfl) rfl
theorem tw_2_53 : Cond.methodLink "ThumbForgeLaw" 88 ⟨"ThumbForgeLaw", "load", "(LThumbForge;II[J)I"⟩ ∈ tbG := tb_in (tb_2 53 rfl) rfl
theorem tw_2_54 : Cond.static ⟨"ThumbForgeLaw", "load", "(LThumbForge;II[J)I"⟩ ∈ tbG := tb_in (tb_2 54 rfl) rfl
theorem tw_2_55 : Cond.codeWith ⟨"ThumbForgeLaw", "load", "(LThumbForge;II[J)I"⟩ method_5_code 5 (some FieldType.int) [(0, 10, 13, 13), (0, 10, 17, 15)] ∈ tbG := tb_in (tb_2 55 rfl) rfl
theorem tw_2_56 : Cond.methodLink "ThumbForgeLaw" 21 ⟨"ThumbForge", "load", "(II)I"⟩ ∈ tbG := tb_in (tb_2 56 rfl) rfl
theorem tw_2_57 : Cond.instanceMethod ⟨"ThumbForge", "load", "(II)I"⟩ ∈ tbG := tb_in (tb_2 57 rfl) rfl
theorem tw_2_58 : Cond.selects "ThumbForge" ⟨"ThumbForge", "load", "(II)I"⟩ ⟨"ThumbForge", "load", "(II)I"⟩ ∈ tbG := tb_in (tb_2 58 rfl) rfl
theorem tw_2_59 : Cond.code ⟨"ThumbForge", "load", "(II)I"⟩ prog_1_method_4_code 3 (some FieldType.int) ∈ tbG := tb_in (tb_2 59 rfl) rfl
theorem tw_2_60 : Cond.methodLink "ThumbForgeLaw" 91 ⟨"ThumbForgeLaw", "store", "(LThumbForge;II[J)I"⟩ ∈ tbG := tb_in (tb_2 60 rfl) rfl
theorem tw_2_61 : Cond.static ⟨"ThumbForgeLaw", "store", "(LThumbForge;II[J)I"⟩ ∈ tbG := tb_in (tb_2 61 rfl) rfl
theorem tw_2_62 : Cond.codeWith ⟨"ThumbForgeLaw", "store", "(LThumbForge;II[J)I"⟩ method_6_code 5 (some FieldType.int) [(0, 10, 13, 13), (0, 10, 17, 15)] ∈ tbG := tb_in (tb_2 62 rfl) rfl
theorem tw_2_63 : Cond.methodLink "ThumbForgeLaw" 24 ⟨"ThumbForge", "store", "(II)I"⟩ ∈ tbG := tb_in (tb_2 63 rfl) rfl
theorem tw_2_64 : Cond.instanceMethod ⟨"ThumbForge", "store", "(II)I"⟩ ∈ tbG := tb_in (tb_2 64 rfl) rfl
theorem tw_2_65 : Cond.selects "ThumbForge" ⟨"ThumbForge", "store", "(II)I"⟩ ⟨"ThumbForge", "store", "(II)I"⟩ ∈ tbG := tb_in (tb_2 65 rfl) rfl
theorem tw_2_66 : Cond.code ⟨"ThumbForge", "store", "(II)I"⟩ prog_1_method_5_code 3 (some FieldType.int) ∈ tbG := tb_in (tb_2 66 rfl) rfl
theorem tw_2_67 : Cond.methodLink "ThumbForgeLaw" 94 ⟨"ThumbForgeLaw", "jump", "(LThumbForge;I[J)I"⟩ ∈ tbG := tb_in (tb_2 67 rfl) rfl
theorem tw_2_68 : Cond.static ⟨"ThumbForgeLaw", "jump", "(LThumbForge;I[J)I"⟩ ∈ tbG := tb_in (tb_2 68 rfl) rfl
theorem tw_2_69 : Cond.codeWith ⟨"ThumbForgeLaw", "jump", "(LThumbForge;I[J)I"⟩ method_7_code 4 (some FieldType.int) [(0, 9, 12, 13), (0, 9, 15, 15)] ∈ tbG := tb_in (tb_2 69 rfl) rfl
theorem tw_2_70 : Cond.methodLink "ThumbForgeLaw" 27 ⟨"ThumbForge", "jump", "(I)I"⟩ ∈ tbG := tb_in (tb_2 70 rfl) rfl
theorem tw_2_71 : Cond.instanceMethod ⟨"ThumbForge", "jump", "(I)I"⟩ ∈ tbG := tb_in (tb_2 71 rfl) rfl
theorem tw_2_72 : Cond.selects "ThumbForge" ⟨"ThumbForge", "jump", "(I)I"⟩ ⟨"ThumbForge", "jump", "(I)I"⟩ ∈ tbG := tb_in (tb_2 72 rfl) rfl
theorem tw_2_73 : Cond.code ⟨"ThumbForge", "jump", "(I)I"⟩ prog_1_method_6_code 2 (some FieldType.int) ∈ tbG := tb_in (tb_2 73 rfl) rfl
theorem tw_2_74 : Cond.methodLink "ThumbForge" 49 ⟨"ThumbForge", "needTarget", "(I)V"⟩ ∈ tbG := tb_in (tb_2 74 rfl) rfl
theorem tw_2_75 : Cond.static ⟨"ThumbForge", "needTarget", "(I)V"⟩ ∈ tbG := tb_in (tb_2 75 rfl) rfl
theorem tw_2_76 : Cond.code ⟨"ThumbForge", "needTarget", "(I)V"⟩ prog_1_method_26_code 1 none ∈ tbG := tb_in (tb_2 76 rfl) rfl
theorem tw_2_78 : Cond.methodLink "ThumbForgeLaw" 98 ⟨"ThumbForgeLaw", "branch", "(LThumbForge;IIII[J)I"⟩ ∈ tbG := tb_in (tb_2 78 rfl) rfl
theorem tw_2_79 : Cond.static ⟨"ThumbForgeLaw", "branch", "(LThumbForge;IIII[J)I"⟩ ∈ tbG := tb_in (tb_2 79 rfl) rfl
theorem tw_2_80 : Cond.codeWith ⟨"ThumbForgeLaw", "branch", "(LThumbForge;IIII[J)I"⟩ method_8_code 7 (some FieldType.int) [(0, 14, 17, 13), (0, 14, 21, 15)] ∈ tbG := tb_in (tb_2 80 rfl) rfl
theorem tw_2_81 : Cond.methodLink "ThumbForgeLaw" 31 ⟨"ThumbForge", "branch", "(IIII)I"⟩ ∈ tbG := tb_in (tb_2 81 rfl) rfl
theorem tw_2_82 : Cond.instanceMethod ⟨"ThumbForge", "branch", "(IIII)I"⟩ ∈ tbG := tb_in (tb_2 82 rfl) rfl
theorem tw_2_83 : Cond.selects "ThumbForge" ⟨"ThumbForge", "branch", "(IIII)I"⟩ ⟨"ThumbForge", "branch", "(IIII)I"⟩ ∈ tbG := tb_in (tb_2 83 rfl) rfl
theorem tw_2_84 : Cond.code ⟨"ThumbForge", "branch", "(IIII)I"⟩ prog_1_method_7_code 5 (some FieldType.int) ∈ tbG := tb_in (tb_2 84 rfl) rfl
theorem tw_2_85 : Cond.methodLink "ThumbForge" 52 ⟨"ThumbForge", "isRelation", "(I)Z"⟩ ∈ tbG := tb_in (tb_2 85 rfl) rfl
theorem tw_2_86 : Cond.static ⟨"ThumbForge", "isRelation", "(I)Z"⟩ ∈ tbG := tb_in (tb_2 86 rfl) rfl
theorem tw_2_87 : Cond.code ⟨"ThumbForge", "isRelation", "(I)Z"⟩ prog_1_method_28_code 1 (some FieldType.boolean) ∈ tbG := tb_in (tb_2 87 rfl) rfl
theorem tw_2_89 : Cond.methodLink "ThumbForgeLaw" 101 ⟨"ThumbForgeLaw", "out", "(LThumbForge;I[J)I"⟩ ∈ tbG := tb_in (tb_2 89 rfl) rfl
theorem tw_2_90 : Cond.static ⟨"ThumbForgeLaw", "out", "(LThumbForge;I[J)I"⟩ ∈ tbG := tb_in (tb_2 90 rfl) rfl
theorem tw_2_91 : Cond.codeWith ⟨"ThumbForgeLaw", "out", "(LThumbForge;I[J)I"⟩ method_9_code 4 (some FieldType.int) [(0, 9, 12, 13), (0, 9, 15, 15)] ∈ tbG := tb_in (tb_2 91 rfl) rfl
theorem tw_2_92 : Cond.methodLink "ThumbForgeLaw" 34 ⟨"ThumbForge", "out", "(I)I"⟩ ∈ tbG := tb_in (tb_2 92 rfl) rfl
theorem tw_2_93 : Cond.instanceMethod ⟨"ThumbForge", "out", "(I)I"⟩ ∈ tbG := tb_in (tb_2 93 rfl) rfl
theorem tw_2_94 : Cond.selects "ThumbForge" ⟨"ThumbForge", "out", "(I)I"⟩ ⟨"ThumbForge", "out", "(I)I"⟩ ∈ tbG := tb_in (tb_2 94 rfl) rfl
theorem tw_2_95 : Cond.code ⟨"ThumbForge", "out", "(I)I"⟩ prog_1_method_8_code 2 (some FieldType.int) ∈ tbG := tb_in (tb_2 95 rfl) rfl
theorem tw_2_96 : Cond.methodLink "ThumbForgeLaw" 104 ⟨"ThumbForgeLaw", "stop", "(LThumbForge;I[J)I"⟩ ∈ tbG := tb_in (tb_2 96 rfl) rfl
theorem tw_2_97 : Cond.static ⟨"ThumbForgeLaw", "stop", "(LThumbForge;I[J)I"⟩ ∈ tbG := tb_in (tb_2 97 rfl) rfl
theorem tw_2_98 : Cond.codeWith ⟨"ThumbForgeLaw", "stop", "(LThumbForge;I[J)I"⟩ method_10_code 4 (some FieldType.int) [(0, 9, 12, 13), (0, 9, 15, 15)] ∈ tbG := tb_in (tb_2 98 rfl) rfl
theorem tw_2_99 : Cond.methodLink "ThumbForgeLaw" 37 ⟨"ThumbForge", "stop", "(I)I"⟩ ∈ tbG := tb_in (tb_2 99 rfl) rfl
theorem tw_2_100 : Cond.instanceMethod ⟨"ThumbForge", "stop", "(I)I"⟩ ∈ tbG := tb_in (tb_2 100 rfl) rfl
theorem tw_2_101 : Cond.selects "ThumbForge" ⟨"ThumbForge", "stop", "(I)I"⟩ ⟨"ThumbForge", "stop", "(I)I"⟩ ∈ tbG := tb_in (tb_2 101 rfl) rfl
theorem tw_2_102 : Cond.code ⟨"ThumbForge", "stop", "(I)I"⟩ prog_1_method_9_code 2 (some FieldType.int) ∈ tbG := tb_in (tb_2 102 rfl) rfl
theorem tw_2_104 : Cond.methodLink "ThumbForgeLaw" 111 ⟨"ThumbForgeLaw", "forge", "(LThumbForge;[J)I"⟩ ∈ tbG := tb_in (tb_2 104 rfl) rfl
theorem tw_2_105 : Cond.static ⟨"ThumbForgeLaw", "forge", "(LThumbForge;[J)I"⟩ ∈ tbG := tb_in (tb_2 105 rfl) rfl
theorem tw_2_106 : Cond.codeWith ⟨"ThumbForgeLaw", "forge", "(LThumbForge;[J)I"⟩ method_11_code 3 (some FieldType.int) [(0, 8, 11, 15)] ∈ tbG := tb_in (tb_2 106 rfl) rfl
theorem tw_2_107 : Cond.methodLink "ThumbForgeLaw" 40 ⟨"ThumbForge", "forge", "()I"⟩ ∈ tbG := tb_in (tb_2 107 rfl) rfl
theorem tw_2_108 : Cond.instanceMethod ⟨"ThumbForge", "forge", "()I"⟩ ∈ tbG := tb_in (tb_2 108 rfl) rfl
theorem tw_2_109 : Cond.selects "ThumbForge" ⟨"ThumbForge", "forge", "()I"⟩ ⟨"ThumbForge", "forge", "()I"⟩ ∈ tbG := tb_in (tb_2 109 rfl) rfl
theorem tw_2_110 : Cond.code ⟨"ThumbForge", "forge", "()I"⟩ prog_1_method_11_code 1 (some FieldType.int) ∈ tbG := tb_in (tb_2 110 rfl) rfl
theorem tw_2_111 : Cond.methodLink "ThumbForge" 66 ⟨"ThumbForge$Program", "canBeForged", "()Z"⟩ ∈ tbG := tb_in (tb_2 111 rfl) rfl
theorem tw_2_112 : Cond.instanceMethod ⟨"ThumbForge$Program", "canBeForged", "()Z"⟩ ∈ tbG := tb_in (tb_2 112 rfl) rfl
theorem tw_2_113 : Cond.selects "ThumbForge$Program" ⟨"ThumbForge$Program", "canBeForged", "()Z"⟩ ⟨"ThumbForge$Program", "canBeForged", "()Z"⟩ ∈ tbG := tb_in (tb_2 113 rfl) rfl
theorem tw_2_114 : Cond.code ⟨"ThumbForge$Program", "canBeForged", "()Z"⟩ prog_4_method_4_code 2 (some FieldType.boolean) ∈ tbG := tb_in (tb_2 114 rfl) rfl
theorem tw_2_115 : Cond.methodLink "ThumbForge$Program" 34 ⟨"ThumbForge$Program", "neverGoesOnBehind", "(I)Z"⟩ ∈ tbG := tb_in (tb_2 115 rfl) rfl
theorem tw_2_116 : Cond.static ⟨"ThumbForge$Program", "neverGoesOnBehind", "(I)Z"⟩ ∈ tbG := tb_in (tb_2 116 rfl) rfl
theorem tw_2_117 : Cond.code ⟨"ThumbForge$Program", "neverGoesOnBehind", "(I)Z"⟩ prog_4_method_5_code 1 (some FieldType.boolean) ∈ tbG := tb_in (tb_2 117 rfl) rfl
theorem tw_2_119 : Cond.methodLink "ThumbForge" 78 ⟨"ThumbForge$Image", "make", "()V"⟩ ∈ tbG := tb_in (tb_2 119 rfl) rfl
theorem tw_2_120 : Cond.instanceMethod ⟨"ThumbForge$Image", "make", "()V"⟩ ∈ tbG := tb_in (tb_2 120 rfl) rfl
theorem tw_2_121 : Cond.selects "ThumbForge$Image" ⟨"ThumbForge$Image", "make", "()V"⟩ ⟨"ThumbForge$Image", "make", "()V"⟩ ∈ tbG := tb_in (tb_2 121 rfl) rfl
theorem tw_2_122 : Cond.code ⟨"ThumbForge$Image", "make", "()V"⟩ prog_2_method_2_code 2 none ∈ tbG := tb_in (tb_2 122 rfl) rfl
theorem tw_2_123 : Cond.methodLink "ThumbForge$Image" 29 ⟨"ThumbForge$Image", "writeCode", "()V"⟩ ∈ tbG := tb_in (tb_2 123 rfl) rfl
theorem tw_2_125 : Cond.instanceMethod ⟨"ThumbForge$Image", "writeCode", "()V"⟩ ∈ tbG := tb_in (tb_2 125 rfl) rfl
theorem tw_2_126 : Cond.code ⟨"ThumbForge$Image", "writeCode", "()V"⟩ prog_2_method_7_code 2 none ∈ tbG := tb_in (tb_2 126 rfl) rfl
theorem tw_2_127 : Cond.constant "ThumbForge$Image" 69 536870912 ∈ tbG := tb_in (tb_2 127 rfl) rfl
theorem tw_2_128 : Cond.methodLink "ThumbForge$Image" 70 ⟨"ThumbForge$Image", "writeLiteral", "(II)V"⟩ ∈ tbG := tb_in (tb_2 128 rfl) rfl
theorem tw_2_130 : Cond.instanceMethod ⟨"ThumbForge$Image", "writeLiteral", "(II)V"⟩ ∈ tbG := tb_in (tb_2 130 rfl) rfl
theorem tw_2_131 : Cond.code ⟨"ThumbForge$Image", "writeLiteral", "(II)V"⟩ prog_2_method_12_code 5 none ∈ tbG := tb_in (tb_2 131 rfl) rfl
theorem tw_2_132 : Cond.methodLink "ThumbForge$Image" 133 ⟨"ThumbForge$Image", "literalIndex", "(I)I"⟩ ∈ tbG := tb_in (tb_2 132 rfl) rfl
theorem tw_2_134 : Cond.instanceMethod ⟨"ThumbForge$Image", "literalIndex", "(I)I"⟩ ∈ tbG := tb_in (tb_2 134 rfl) rfl
theorem tw_2_135 : Cond.code ⟨"ThumbForge$Image", "literalIndex", "(I)I"⟩ prog_2_method_13_code 3 (some FieldType.int) ∈ tbG := tb_in (tb_2 135 rfl) rfl
theorem tw_2_136 : Cond.methodLink "ThumbForge$Image" 81 ⟨"ThumbForge$Image", "put", "(I)V"⟩ ∈ tbG := tb_in (tb_2 136 rfl) rfl
theorem tw_2_138 : Cond.instanceMethod ⟨"ThumbForge$Image", "put", "(I)V"⟩ ∈ tbG := tb_in (tb_2 138 rfl) rfl
theorem tw_2_139 : Cond.code ⟨"ThumbForge$Image", "put", "(I)V"⟩ prog_2_method_25_code 2 none ∈ tbG := tb_in (tb_2 139 rfl) rfl
theorem tw_2_140 : Cond.methodLink "ThumbForge$Image" 74 ⟨"ThumbForge$Image", "writeInstruction", "(I)V"⟩ ∈ tbG := tb_in (tb_2 140 rfl) rfl
theorem tw_2_142 : Cond.instanceMethod ⟨"ThumbForge$Image", "writeInstruction", "(I)V"⟩ ∈ tbG := tb_in (tb_2 142 rfl) rfl
theorem tw_2_143 : Cond.code ⟨"ThumbForge$Image", "writeInstruction", "(I)V"⟩ prog_2_method_9_code 6 none ∈ tbG := tb_in (tb_2 143 rfl) rfl
theorem tw_2_144 : Cond.methodLink "ThumbForge$Image" 94 ⟨"ThumbForge$Image", "targetOf", "(I)I"⟩ ∈ tbG := tb_in (tb_2 144 rfl) rfl
theorem tw_2_145 : Cond.static ⟨"ThumbForge$Image", "targetOf", "(I)I"⟩ ∈ tbG := tb_in (tb_2 145 rfl) rfl
theorem tw_2_146 : Cond.code ⟨"ThumbForge$Image", "targetOf", "(I)I"⟩ prog_2_method_21_code 1 (some FieldType.int) ∈ tbG := tb_in (tb_2 146 rfl) rfl
theorem tw_2_147 : Cond.methodLink "ThumbForge$Image" 139 ⟨"ThumbForge$Image", "hasRegister", "(I)Z"⟩ ∈ tbG := tb_in (tb_2 147 rfl) rfl
theorem tw_2_148 : Cond.static ⟨"ThumbForge$Image", "hasRegister", "(I)Z"⟩ ∈ tbG := tb_in (tb_2 148 rfl) rfl
theorem tw_2_149 : Cond.code ⟨"ThumbForge$Image", "hasRegister", "(I)Z"⟩ prog_2_method_22_code 1 (some FieldType.boolean) ∈ tbG := tb_in (tb_2 149 rfl) rfl
theorem tw_2_150 : Cond.methodLink "ThumbForge$Image" 142 ⟨"ThumbForge$Image", "registerOf", "(I)I"⟩ ∈ tbG := tb_in (tb_2 150 rfl) rfl
theorem tw_2_151 : Cond.static ⟨"ThumbForge$Image", "registerOf", "(I)I"⟩ ∈ tbG := tb_in (tb_2 151 rfl) rfl
theorem tw_2_152 : Cond.code ⟨"ThumbForge$Image", "registerOf", "(I)I"⟩ prog_2_method_23_code 1 (some FieldType.int) ∈ tbG := tb_in (tb_2 152 rfl) rfl
theorem tw_2_153 : Cond.methodLink "ThumbForge$Image" 98 ⟨"ThumbForge$Image", "writeNumber", "(II)V"⟩ ∈ tbG := tb_in (tb_2 153 rfl) rfl
theorem tw_2_155 : Cond.instanceMethod ⟨"ThumbForge$Image", "writeNumber", "(II)V"⟩ ∈ tbG := tb_in (tb_2 155 rfl) rfl
theorem tw_2_156 : Cond.code ⟨"ThumbForge$Image", "writeNumber", "(II)V"⟩ prog_2_method_10_code 4 none ∈ tbG := tb_in (tb_2 156 rfl) rfl
theorem tw_2_157 : Cond.methodLink "ThumbForge$Image" 130 ⟨"ThumbForge$Image", "leastShift", "(I)I"⟩ ∈ tbG := tb_in (tb_2 157 rfl) rfl
theorem tw_2_158 : Cond.static ⟨"ThumbForge$Image", "leastShift", "(I)I"⟩ ∈ tbG := tb_in (tb_2 158 rfl) rfl
theorem tw_2_159 : Cond.code ⟨"ThumbForge$Image", "leastShift", "(I)I"⟩ prog_2_method_11_code 3 (some FieldType.int) ∈ tbG := tb_in (tb_2 159 rfl) rfl
theorem tw_2_160 : Cond.methodLink "ThumbForge$Image" 101 ⟨"ThumbForge$Image", "keep", "(I)V"⟩ ∈ tbG := tb_in (tb_2 160 rfl) rfl
theorem tw_2_162 : Cond.instanceMethod ⟨"ThumbForge$Image", "keep", "(I)V"⟩ ∈ tbG := tb_in (tb_2 162 rfl) rfl
theorem tw_2_163 : Cond.code ⟨"ThumbForge$Image", "keep", "(I)V"⟩ prog_2_method_20_code 2 none ∈ tbG := tb_in (tb_2 163 rfl) rfl
theorem tw_2_164 : Cond.constant "ThumbForge$Image" 151 36864 ∈ tbG := tb_in (tb_2 164 rfl) rfl
theorem tw_2_165 : Cond.methodLink "ThumbForge$Image" 148 ⟨"ThumbForge$Image", "slotOf", "(I)I"⟩ ∈ tbG := tb_in (tb_2 165 rfl) rfl
theorem tw_2_166 : Cond.static ⟨"ThumbForge$Image", "slotOf", "(I)I"⟩ ∈ tbG := tb_in (tb_2 166 rfl) rfl
theorem tw_2_167 : Cond.code ⟨"ThumbForge$Image", "slotOf", "(I)I"⟩ prog_2_method_24_code 1 (some FieldType.int) ∈ tbG := tb_in (tb_2 167 rfl) rfl
theorem tw_2_168 : Cond.methodLink "ThumbForge$Image" 107 ⟨"ThumbForge$Image", "writeCompute", "(IIII)V"⟩ ∈ tbG := tb_in (tb_2 168 rfl) rfl
theorem tw_2_170 : Cond.instanceMethod ⟨"ThumbForge$Image", "writeCompute", "(IIII)V"⟩ ∈ tbG := tb_in (tb_2 170 rfl) rfl
theorem tw_2_171 : Cond.code ⟨"ThumbForge$Image", "writeCompute", "(IIII)V"⟩ prog_2_method_14_code 7 none ∈ tbG := tb_in (tb_2 171 rfl) rfl
theorem tw_2_172 : Cond.methodLink "ThumbForge$Image" 114 ⟨"ThumbForge$Image", "fetch", "(II)I"⟩ ∈ tbG := tb_in (tb_2 172 rfl) rfl
theorem tw_2_174 : Cond.instanceMethod ⟨"ThumbForge$Image", "fetch", "(II)I"⟩ ∈ tbG := tb_in (tb_2 174 rfl) rfl
theorem tw_2_175 : Cond.code ⟨"ThumbForge$Image", "fetch", "(II)I"⟩ prog_2_method_18_code 3 (some FieldType.int) ∈ tbG := tb_in (tb_2 175 rfl) rfl
theorem tw_2_176 : Cond.constant "ThumbForge$Image" 147 38912 ∈ tbG := tb_in (tb_2 176 rfl) rfl
theorem tw_2_177 : Cond.methodLink "ThumbForge$Image" 124 ⟨"ThumbForge$Image", "copyTo0", "(I)V"⟩ ∈ tbG := tb_in (tb_2 177 rfl) rfl
theorem tw_2_179 : Cond.instanceMethod ⟨"ThumbForge$Image", "copyTo0", "(I)V"⟩ ∈ tbG := tb_in (tb_2 179 rfl) rfl
theorem tw_2_180 : Cond.code ⟨"ThumbForge$Image", "copyTo0", "(I)V"⟩ prog_2_method_19_code 2 none ∈ tbG := tb_in (tb_2 180 rfl) rfl
theorem tw_2_181 : Cond.fieldLink "ThumbForge$Image" 136 "ThumbForge$Image" "CHANGE_0" "[I" ∈ tbG := tb_in (tb_2 181 rfl) rfl
theorem tw_2_183 : Cond.methodLink "ThumbForge$Image" 111 ⟨"ThumbForge$Image", "writeWordChoice", "(I)V"⟩ ∈ tbG := tb_in (tb_2 183 rfl) rfl
theorem tw_2_185 : Cond.instanceMethod ⟨"ThumbForge$Image", "writeWordChoice", "(I)V"⟩ ∈ tbG := tb_in (tb_2 185 rfl) rfl
theorem tw_2_186 : Cond.code ⟨"ThumbForge$Image", "writeWordChoice", "(I)V"⟩ prog_2_method_15_code 3 none ∈ tbG := tb_in (tb_2 186 rfl) rfl
theorem tw_2_187 : Cond.methodLink "ThumbForge$Image" 117 ⟨"ThumbForge$Image", "writeJump", "(I)V"⟩ ∈ tbG := tb_in (tb_2 187 rfl) rfl
theorem tw_2_189 : Cond.instanceMethod ⟨"ThumbForge$Image", "writeJump", "(I)V"⟩ ∈ tbG := tb_in (tb_2 189 rfl) rfl
theorem tw_2_190 : Cond.code ⟨"ThumbForge$Image", "writeJump", "(I)V"⟩ prog_2_method_17_code 2 none ∈ tbG := tb_in (tb_2 190 rfl) rfl
theorem tw_2_191 : Cond.constant "ThumbForge$Image" 146 57344 ∈ tbG := tb_in (tb_2 191 rfl) rfl
theorem tw_2_192 : Cond.methodLink "ThumbForge$Image" 59 ⟨"ThumbForge$Image", "distance", "(II)I"⟩ ∈ tbG := tb_in (tb_2 192 rfl) rfl
theorem tw_2_194 : Cond.instanceMethod ⟨"ThumbForge$Image", "distance", "(II)I"⟩ ∈ tbG := tb_in (tb_2 194 rfl) rfl
theorem tw_2_195 : Cond.code ⟨"ThumbForge$Image", "distance", "(II)I"⟩ prog_2_method_6_code 3 (some FieldType.int) ∈ tbG := tb_in (tb_2 195 rfl) rfl
theorem tw_2_196 : Cond.methodLink "ThumbForge$Image" 120 ⟨"ThumbForge$Image", "writeBranch", "(IIIIZ)V"⟩ ∈ tbG := tb_in (tb_2 196 rfl) rfl
theorem tw_2_198 : Cond.instanceMethod ⟨"ThumbForge$Image", "writeBranch", "(IIIIZ)V"⟩ ∈ tbG := tb_in (tb_2 198 rfl) rfl
theorem tw_2_199 : Cond.code ⟨"ThumbForge$Image", "writeBranch", "(IIIIZ)V"⟩ prog_2_method_16_code 8 none ∈ tbG := tb_in (tb_2 199 rfl) rfl
theorem tw_2_200 : Cond.constant "ThumbForge$Image" 145 53248 ∈ tbG := tb_in (tb_2 200 rfl) rfl
theorem tw_2_201 : Cond.constant "ThumbForge$Image" 127 57088 ∈ tbG := tb_in (tb_2 201 rfl) rfl
theorem tw_2_202 : Cond.constant "ThumbForge$Image" 128 57089 ∈ tbG := tb_in (tb_2 202 rfl) rfl
theorem tw_2_203 : Cond.constant "ThumbForge$Image" 129 56832 ∈ tbG := tb_in (tb_2 203 rfl) rfl
theorem tw_2_204 : Cond.methodLink "ThumbForge$Image" 32 ⟨"ThumbForge$Image", "lengthenBranches", "()Z"⟩ ∈ tbG := tb_in (tb_2 204 rfl) rfl
theorem tw_2_206 : Cond.instanceMethod ⟨"ThumbForge$Image", "lengthenBranches", "()Z"⟩ ∈ tbG := tb_in (tb_2 206 rfl) rfl
theorem tw_2_207 : Cond.code ⟨"ThumbForge$Image", "lengthenBranches", "()Z"⟩ prog_2_method_4_code 3 (some FieldType.boolean) ∈ tbG := tb_in (tb_2 207 rfl) rfl
theorem tw_2_208 : Cond.methodLink "ThumbForge$Image" 52 ⟨"ThumbForge$Image", "reaches", "(I)Z"⟩ ∈ tbG := tb_in (tb_2 208 rfl) rfl
theorem tw_2_210 : Cond.instanceMethod ⟨"ThumbForge$Image", "reaches", "(I)Z"⟩ ∈ tbG := tb_in (tb_2 210 rfl) rfl
theorem tw_2_211 : Cond.code ⟨"ThumbForge$Image", "reaches", "(I)Z"⟩ prog_2_method_5_code 3 (some FieldType.boolean) ∈ tbG := tb_in (tb_2 211 rfl) rfl
theorem tw_2_212 : Cond.methodLink "ThumbForge$Image" 36 ⟨"ThumbForge$Image", "writePool", "()V"⟩ ∈ tbG := tb_in (tb_2 212 rfl) rfl
theorem tw_2_214 : Cond.instanceMethod ⟨"ThumbForge$Image", "writePool", "()V"⟩ ∈ tbG := tb_in (tb_2 214 rfl) rfl
theorem tw_2_215 : Cond.code ⟨"ThumbForge$Image", "writePool", "()V"⟩ prog_2_method_8_code 2 none ∈ tbG := tb_in (tb_2 215 rfl) rfl
theorem tw_2_216 : Cond.constant "ThumbForge$Image" 84 65535 ∈ tbG := tb_in (tb_2 216 rfl) rfl
theorem tw_2_217 : Cond.methodLink "ThumbForgeLaw" 115 ⟨"ThumbForgeLaw", "halfword", "(LThumbForge;I[J)I"⟩ ∈ tbG := tb_in (tb_2 217 rfl) rfl
theorem tw_2_218 : Cond.static ⟨"ThumbForgeLaw", "halfword", "(LThumbForge;I[J)I"⟩ ∈ tbG := tb_in (tb_2 218 rfl) rfl
theorem tw_2_219 : Cond.codeWith ⟨"ThumbForgeLaw", "halfword", "(LThumbForge;I[J)I"⟩ method_12_code 4 (some FieldType.int) [(0, 9, 12, 47)] ∈ tbG := tb_in (tb_2 219 rfl) rfl
theorem tw_2_220 : Cond.classLink "ThumbForgeLaw" 47 "java/util/NoSuchElementException" ∈ tbG := tb_in (tb_2 220 rfl) rfl
theorem tw_2_221 : Cond.methodLink "ThumbForgeLaw" 44 ⟨"ThumbForge", "halfword", "(I)I"⟩ ∈ tbG := tb_in (tb_2 221 rfl) rfl
theorem tw_2_222 : Cond.instanceMethod ⟨"ThumbForge", "halfword", "(I)I"⟩ ∈ tbG := tb_in (tb_2 222 rfl) rfl
theorem tw_2_223 : Cond.selects "ThumbForge" ⟨"ThumbForge", "halfword", "(I)I"⟩ ⟨"ThumbForge", "halfword", "(I)I"⟩ ∈ tbG := tb_in (tb_2 223 rfl) rfl
theorem tw_2_224 : Cond.code ⟨"ThumbForge", "halfword", "(I)I"⟩ prog_1_method_12_code 2 (some FieldType.int) ∈ tbG := tb_in (tb_2 224 rfl) rfl
theorem tw_2_225 : Cond.classLink "ThumbForge" 89 "java/util/NoSuchElementException" ∈ tbG := tb_in (tb_2 225 rfl) rfl
theorem tw_2_226 : Cond.instantiable "java/util/NoSuchElementException" 6 ∈ tbG := tb_in (tb_2 226 rfl) rfl
theorem tw_2_228 : Cond.selects "java/util/NoSuchElementException" ⟨"java/lang/Throwable", "fillInStackTrace", "(I)Ljava/lang/Throwable;"⟩ ⟨"java/lang/Throwable", "fillInStackTrace", "(I)Ljava/lang/Throwable;"⟩ ∈ tbG := tb_in (tb_2 228 rfl) rfl
theorem tw_2_229 : Cond.lays "java/util/NoSuchElementException" "java/lang/Throwable" "cause" "Ljava/lang/Throwable;" ∈ tbG := tb_in (tb_2 229 rfl) rfl
theorem tw_2_230 : Cond.lays "java/util/NoSuchElementException" "java/lang/Throwable" "stackTrace" "[Ljava/lang/StackTraceElement;" ∈ tbG := tb_in (tb_2 230 rfl) rfl
theorem tw_2_231 : Cond.lays "java/util/NoSuchElementException" "java/lang/Throwable" "suppressedExceptions" "Ljava/util/List;" ∈ tbG := tb_in (tb_2 231 rfl) rfl
theorem tw_2_232 : Cond.lays "java/util/NoSuchElementException" "java/lang/Throwable" "detailMessage" "Ljava/lang/String;" ∈ tbG := tb_in (tb_2 232 rfl) rfl
theorem tw_2_233 : Cond.lays "java/util/NoSuchElementException" "java/lang/Throwable" "backtrace" "Ljava/lang/Object;" ∈ tbG := tb_in (tb_2 233 rfl) rfl
theorem tw_2_235 : Cond.methodLink "ThumbForge" 93 ⟨"java/util/NoSuchElementException", "<init>", "(Ljava/lang/String;)V"⟩ ∈ tbG := tb_in (tb_2 235 rfl) rfl
theorem tw_2_236 : Cond.instanceMethod ⟨"java/util/NoSuchElementException", "<init>", "(Ljava/lang/String;)V"⟩ ∈ tbG := tb_in (tb_2 236 rfl) rfl
theorem tw_2_237 : Cond.code ⟨"java/util/NoSuchElementException", "<init>", "(Ljava/lang/String;)V"⟩ prog_13_method_4_code 2 none ∈ tbG := tb_in (tb_2 237 rfl) rfl
theorem tw_2_238 : Cond.methodLink "java/util/NoSuchElementException" 13 ⟨"java/lang/RuntimeException", "<init>", "(Ljava/lang/String;)V"⟩ ∈ tbG := tb_in (tb_2 238 rfl) rfl
theorem tw_2_239 : Cond.lays "java/util/NoSuchElementException" "java/lang/Throwable" "depth" "I" ∈ tbG := tb_in (tb_2 239 rfl) rfl
theorem tw_3_0 : Cond.superclass "java/util/NoSuchElementException" "java/lang/RuntimeException" ∈ tbG := tb_in (tb_3 0 rfl) rfl
theorem tw_3_1 : Cond.methodLink "ThumbForgeLaw" 118 ⟨"ThumbForgeLaw", "place", "(LThumbForge;I[J)I"⟩ ∈ tbG := tb_in (tb_3 1 rfl) rfl
theorem tw_3_2 : Cond.static ⟨"ThumbForgeLaw", "place", "(LThumbForge;I[J)I"⟩ ∈ tbG := tb_in (tb_3 2 rfl) rfl
theorem tw_3_3 : Cond.codeWith ⟨"ThumbForgeLaw", "place", "(LThumbForge;I[J)I"⟩ method_13_code 4 (some FieldType.int) [(0, 9, 12, 47)] ∈ tbG := tb_in (tb_3 3 rfl) rfl
theorem tw_3_4 : Cond.methodLink "ThumbForgeLaw" 49 ⟨"ThumbForge", "place", "(I)I"⟩ ∈ tbG := tb_in (tb_3 4 rfl) rfl
theorem tw_3_5 : Cond.instanceMethod ⟨"ThumbForge", "place", "(I)I"⟩ ∈ tbG := tb_in (tb_3 5 rfl) rfl
theorem tw_3_6 : Cond.selects "ThumbForge" ⟨"ThumbForge", "place", "(I)I"⟩ ⟨"ThumbForge", "place", "(I)I"⟩ ∈ tbG := tb_in (tb_3 6 rfl) rfl
theorem tw_3_7 : Cond.code ⟨"ThumbForge", "place", "(I)I"⟩ prog_1_method_13_code 2 (some FieldType.int) ∈ tbG := tb_in (tb_3 7 rfl) rfl
theorem tw_3_9 : Cond.methodLink "ThumbForgeLaw" 121 ⟨"ThumbForgeLaw", "poke", "(LThumbForge;II)I"⟩ ∈ tbG := tb_in (tb_3 9 rfl) rfl
theorem tw_3_10 : Cond.static ⟨"ThumbForgeLaw", "poke", "(LThumbForge;II)I"⟩ ∈ tbG := tb_in (tb_3 10 rfl) rfl
theorem tw_3_11 : Cond.codeWith ⟨"ThumbForgeLaw", "poke", "(LThumbForge;II)I"⟩ method_14_code 4 (some FieldType.int) [(0, 6, 9, 13)] ∈ tbG := tb_in (tb_3 11 rfl) rfl
theorem tw_3_12 : Cond.methodLink "ThumbForgeLaw" 52 ⟨"ThumbForge", "poke", "(II)V"⟩ ∈ tbG := tb_in (tb_3 12 rfl) rfl
theorem tw_3_13 : Cond.instanceMethod ⟨"ThumbForge", "poke", "(II)V"⟩ ∈ tbG := tb_in (tb_3 13 rfl) rfl
theorem tw_3_14 : Cond.selects "ThumbForge" ⟨"ThumbForge", "poke", "(II)V"⟩ ⟨"ThumbForge", "poke", "(II)V"⟩ ∈ tbG := tb_in (tb_3 14 rfl) rfl
theorem tw_3_15 : Cond.code ⟨"ThumbForge", "poke", "(II)V"⟩ prog_1_method_14_code 3 none ∈ tbG := tb_in (tb_3 15 rfl) rfl
theorem tw_3_16 : Cond.methodLink "ThumbForge" 106 ⟨"ThumbForge", "needWord", "(I)V"⟩ ∈ tbG := tb_in (tb_3 16 rfl) rfl
theorem tw_3_17 : Cond.static ⟨"ThumbForge", "needWord", "(I)V"⟩ ∈ tbG := tb_in (tb_3 17 rfl) rfl
theorem tw_3_18 : Cond.code ⟨"ThumbForge", "needWord", "(I)V"⟩ prog_1_method_27_code 1 none ∈ tbG := tb_in (tb_3 18 rfl) rfl
theorem tw_3_20 : Cond.methodLink "ThumbForgeLaw" 125 ⟨"ThumbForgeLaw", "memory", "(LThumbForge;I[J)I"⟩ ∈ tbG := tb_in (tb_3 20 rfl) rfl
theorem tw_3_21 : Cond.static ⟨"ThumbForgeLaw", "memory", "(LThumbForge;I[J)I"⟩ ∈ tbG := tb_in (tb_3 21 rfl) rfl
theorem tw_3_22 : Cond.codeWith ⟨"ThumbForgeLaw", "memory", "(LThumbForge;I[J)I"⟩ method_15_code 4 (some FieldType.int) [(0, 9, 12, 13)] ∈ tbG := tb_in (tb_3 22 rfl) rfl
theorem tw_3_23 : Cond.methodLink "ThumbForgeLaw" 56 ⟨"ThumbForge", "memory", "(I)I"⟩ ∈ tbG := tb_in (tb_3 23 rfl) rfl
theorem tw_3_24 : Cond.instanceMethod ⟨"ThumbForge", "memory", "(I)I"⟩ ∈ tbG := tb_in (tb_3 24 rfl) rfl
theorem tw_3_25 : Cond.selects "ThumbForge" ⟨"ThumbForge", "memory", "(I)I"⟩ ⟨"ThumbForge", "memory", "(I)I"⟩ ∈ tbG := tb_in (tb_3 25 rfl) rfl
theorem tw_3_26 : Cond.code ⟨"ThumbForge", "memory", "(I)I"⟩ prog_1_method_15_code 2 (some FieldType.int) ∈ tbG := tb_in (tb_3 26 rfl) rfl
theorem tw_3_27 : Cond.methodLink "ThumbForgeLaw" 128 ⟨"ThumbForgeLaw", "start", "(LThumbForge;)I"⟩ ∈ tbG := tb_in (tb_3 27 rfl) rfl
theorem tw_3_28 : Cond.static ⟨"ThumbForgeLaw", "start", "(LThumbForge;)I"⟩ ∈ tbG := tb_in (tb_3 28 rfl) rfl
theorem tw_3_29 : Cond.codeWith ⟨"ThumbForgeLaw", "start", "(LThumbForge;)I"⟩ method_16_code 2 (some FieldType.int) [(0, 4, 7, 15)] ∈ tbG := tb_in (tb_3 29 rfl) rfl
theorem tw_3_30 : Cond.methodLink "ThumbForgeLaw" 59 ⟨"ThumbForge", "start", "()V"⟩ ∈ tbG := tb_in (tb_3 30 rfl) rfl
theorem tw_3_31 : Cond.instanceMethod ⟨"ThumbForge", "start", "()V"⟩ ∈ tbG := tb_in (tb_3 31 rfl) rfl
theorem tw_3_32 : Cond.selects "ThumbForge" ⟨"ThumbForge", "start", "()V"⟩ ⟨"ThumbForge", "start", "()V"⟩ ∈ tbG := tb_in (tb_3 32 rfl) rfl
theorem tw_3_33 : Cond.code ⟨"ThumbForge", "start", "()V"⟩ prog_1_method_16_code 1 none ∈ tbG := tb_in (tb_3 33 rfl) rfl
theorem tw_3_35 : Cond.methodLink "ThumbForge" 114 ⟨"ThumbForge$Machine", "turnOn", "()V"⟩ ∈ tbG := tb_in (tb_3 35 rfl) rfl
theorem tw_3_36 : Cond.instanceMethod ⟨"ThumbForge$Machine", "turnOn", "()V"⟩ ∈ tbG := tb_in (tb_3 36 rfl) rfl
theorem tw_3_37 : Cond.selects "ThumbForge$Machine" ⟨"ThumbForge$Machine", "turnOn", "()V"⟩ ⟨"ThumbForge$Machine", "turnOn", "()V"⟩ ∈ tbG := tb_in (tb_3 37 rfl) rfl
theorem tw_3_38 : Cond.code ⟨"ThumbForge$Machine", "turnOn", "()V"⟩ prog_3_method_3_code 2 none ∈ tbG := tb_in (tb_3 38 rfl) rfl
theorem tw_3_39 : Cond.methodLink "ThumbForgeLaw" 132 ⟨"ThumbForgeLaw", "run", "(LThumbForge;I[J)I"⟩ ∈ tbG := tb_in (tb_3 39 rfl) rfl
theorem tw_3_40 : Cond.static ⟨"ThumbForgeLaw", "run", "(LThumbForge;I[J)I"⟩ ∈ tbG := tb_in (tb_3 40 rfl) rfl
theorem tw_3_41 : Cond.codeWith ⟨"ThumbForgeLaw", "run", "(LThumbForge;I[J)I"⟩ method_17_code 4 (some FieldType.int) [(0, 9, 12, 13), (0, 9, 15, 15)] ∈ tbG := tb_in (tb_3 41 rfl) rfl
theorem tw_3_42 : Cond.methodLink "ThumbForgeLaw" 62 ⟨"ThumbForge", "run", "(I)I"⟩ ∈ tbG := tb_in (tb_3 42 rfl) rfl
theorem tw_3_43 : Cond.instanceMethod ⟨"ThumbForge", "run", "(I)I"⟩ ∈ tbG := tb_in (tb_3 43 rfl) rfl
theorem tw_3_44 : Cond.selects "ThumbForge" ⟨"ThumbForge", "run", "(I)I"⟩ ⟨"ThumbForge", "run", "(I)I"⟩ ∈ tbG := tb_in (tb_3 44 rfl) rfl
theorem tw_3_45 : Cond.code ⟨"ThumbForge", "run", "(I)I"⟩ prog_1_method_17_code 2 (some FieldType.int) ∈ tbG := tb_in (tb_3 45 rfl) rfl
theorem tw_3_48 : Cond.methodLink "ThumbForge" 124 ⟨"ThumbForge$Machine", "goOn", "(I)I"⟩ ∈ tbG := tb_in (tb_3 48 rfl) rfl
theorem tw_3_49 : Cond.instanceMethod ⟨"ThumbForge$Machine", "goOn", "(I)I"⟩ ∈ tbG := tb_in (tb_3 49 rfl) rfl
theorem tw_3_50 : Cond.selects "ThumbForge$Machine" ⟨"ThumbForge$Machine", "goOn", "(I)I"⟩ ⟨"ThumbForge$Machine", "goOn", "(I)I"⟩ ∈ tbG := tb_in (tb_3 50 rfl) rfl
theorem tw_3_51 : Cond.code ⟨"ThumbForge$Machine", "goOn", "(I)I"⟩ prog_3_method_4_code 4 (some FieldType.int) ∈ tbG := tb_in (tb_3 51 rfl) rfl
theorem tw_3_52 : Cond.methodLink "ThumbForge$Machine" 39 ⟨"ThumbForge$Machine", "step", "()I"⟩ ∈ tbG := tb_in (tb_3 52 rfl) rfl
theorem tw_3_54 : Cond.instanceMethod ⟨"ThumbForge$Machine", "step", "()I"⟩ ∈ tbG := tb_in (tb_3 54 rfl) rfl
theorem tw_3_55 : Cond.code ⟨"ThumbForge$Machine", "step", "()I"⟩ prog_3_method_7_code 6 (some FieldType.int) ∈ tbG := tb_in (tb_3 55 rfl) rfl
theorem tw_3_56 : Cond.methodLink "ThumbForge$Machine" 54 ⟨"ThumbForge$Image", "lengthOf", "(I)I"⟩ ∈ tbG := tb_in (tb_3 56 rfl) rfl
theorem tw_3_57 : Cond.instanceMethod ⟨"ThumbForge$Image", "lengthOf", "(I)I"⟩ ∈ tbG := tb_in (tb_3 57 rfl) rfl
theorem tw_3_58 : Cond.selects "ThumbForge$Image" ⟨"ThumbForge$Image", "lengthOf", "(I)I"⟩ ⟨"ThumbForge$Image", "lengthOf", "(I)I"⟩ ∈ tbG := tb_in (tb_3 58 rfl) rfl
theorem tw_3_59 : Cond.code ⟨"ThumbForge$Image", "lengthOf", "(I)I"⟩ prog_2_method_3_code 2 (some FieldType.int) ∈ tbG := tb_in (tb_3 59 rfl) rfl
theorem tw_3_60 : Cond.methodLink "ThumbForge$Machine" 69 ⟨"ThumbForge$Machine", "result", "(III)I"⟩ ∈ tbG := tb_in (tb_3 60 rfl) rfl
theorem tw_3_61 : Cond.static ⟨"ThumbForge$Machine", "result", "(III)I"⟩ ∈ tbG := tb_in (tb_3 61 rfl) rfl
theorem tw_3_62 : Cond.code ⟨"ThumbForge$Machine", "result", "(III)I"⟩ prog_3_method_9_code 4 (some FieldType.int) ∈ tbG := tb_in (tb_3 62 rfl) rfl
theorem tw_3_63 : Cond.methodLink "ThumbForge$Machine" 73 ⟨"ThumbForge$Machine", "holds", "(III)Z"⟩ ∈ tbG := tb_in (tb_3 63 rfl) rfl
theorem tw_3_64 : Cond.static ⟨"ThumbForge$Machine", "holds", "(III)Z"⟩ ∈ tbG := tb_in (tb_3 64 rfl) rfl
theorem tw_3_65 : Cond.code ⟨"ThumbForge$Machine", "holds", "(III)Z"⟩ prog_3_method_10_code 5 (some FieldType.boolean) ∈ tbG := tb_in (tb_3 65 rfl) rfl
theorem tw_3_66 : Cond.constant "ThumbForge$Machine" 88 (-2147483648) ∈ tbG := tb_in (tb_3 66 rfl) rfl
theorem tw_3_67 : Cond.methodLink "ThumbForge$Machine" 81 ⟨"ThumbForge$Machine", "putOut", "(I)V"⟩ ∈ tbG := tb_in (tb_3 67 rfl) rfl
theorem tw_3_69 : Cond.instanceMethod ⟨"ThumbForge$Machine", "putOut", "(I)V"⟩ ∈ tbG := tb_in (tb_3 69 rfl) rfl
theorem tw_3_70 : Cond.code ⟨"ThumbForge$Machine", "putOut", "(I)V"⟩ prog_3_method_8_code 2 none ∈ tbG := tb_in (tb_3 70 rfl) rfl
theorem tw_3_71 : Cond.methodLink "ThumbForgeLaw" 143 ⟨"ThumbForgeLaw", "variable", "(LThumbForge;I[J)I"⟩ ∈ tbG := tb_in (tb_3 71 rfl) rfl
theorem tw_3_72 : Cond.static ⟨"ThumbForgeLaw", "variable", "(LThumbForge;I[J)I"⟩ ∈ tbG := tb_in (tb_3 72 rfl) rfl
theorem tw_3_73 : Cond.codeWith ⟨"ThumbForgeLaw", "variable", "(LThumbForge;I[J)I"⟩ method_18_code 4 (some FieldType.int) [(0, 9, 12, 13), (0, 9, 15, 15)] ∈ tbG := tb_in (tb_3 73 rfl) rfl
theorem tw_3_74 : Cond.methodLink "ThumbForgeLaw" 65 ⟨"ThumbForge", "variable", "(I)I"⟩ ∈ tbG := tb_in (tb_3 74 rfl) rfl
theorem tw_3_75 : Cond.instanceMethod ⟨"ThumbForge", "variable", "(I)I"⟩ ∈ tbG := tb_in (tb_3 75 rfl) rfl
theorem tw_3_76 : Cond.selects "ThumbForge" ⟨"ThumbForge", "variable", "(I)I"⟩ ⟨"ThumbForge", "variable", "(I)I"⟩ ∈ tbG := tb_in (tb_3 76 rfl) rfl
theorem tw_3_77 : Cond.code ⟨"ThumbForge", "variable", "(I)I"⟩ prog_1_method_20_code 2 (some FieldType.int) ∈ tbG := tb_in (tb_3 77 rfl) rfl
theorem tw_3_79 : Cond.methodLink "ThumbForgeLaw" 150 ⟨"ThumbForgeLaw", "output", "(LThumbForge;I[J)I"⟩ ∈ tbG := tb_in (tb_3 79 rfl) rfl
theorem tw_3_80 : Cond.static ⟨"ThumbForgeLaw", "output", "(LThumbForge;I[J)I"⟩ ∈ tbG := tb_in (tb_3 80 rfl) rfl
theorem tw_3_81 : Cond.codeWith ⟨"ThumbForgeLaw", "output", "(LThumbForge;I[J)I"⟩ method_19_code 4 (some FieldType.int) [(0, 9, 12, 47)] ∈ tbG := tb_in (tb_3 81 rfl) rfl
theorem tw_3_82 : Cond.methodLink "ThumbForgeLaw" 68 ⟨"ThumbForge", "output", "(I)I"⟩ ∈ tbG := tb_in (tb_3 82 rfl) rfl
theorem tw_3_83 : Cond.instanceMethod ⟨"ThumbForge", "output", "(I)I"⟩ ∈ tbG := tb_in (tb_3 83 rfl) rfl
theorem tw_3_84 : Cond.selects "ThumbForge" ⟨"ThumbForge", "output", "(I)I"⟩ ⟨"ThumbForge", "output", "(I)I"⟩ ∈ tbG := tb_in (tb_3 84 rfl) rfl
theorem tw_3_85 : Cond.code ⟨"ThumbForge", "output", "(I)I"⟩ prog_1_method_22_code 2 (some FieldType.int) ∈ tbG := tb_in (tb_3 85 rfl) rfl
theorem tw_3_86 : Cond.methodLink "ThumbForge" 142 ⟨"ThumbForge$Machine", "keeps", "(I)Z"⟩ ∈ tbG := tb_in (tb_3 86 rfl) rfl
theorem tw_3_87 : Cond.instanceMethod ⟨"ThumbForge$Machine", "keeps", "(I)Z"⟩ ∈ tbG := tb_in (tb_3 87 rfl) rfl
theorem tw_3_88 : Cond.selects "ThumbForge$Machine" ⟨"ThumbForge$Machine", "keeps", "(I)Z"⟩ ⟨"ThumbForge$Machine", "keeps", "(I)Z"⟩ ∈ tbG := tb_in (tb_3 88 rfl) rfl
theorem tw_3_89 : Cond.code ⟨"ThumbForge$Machine", "keeps", "(I)Z"⟩ prog_3_method_5_code 2 (some FieldType.boolean) ∈ tbG := tb_in (tb_3 89 rfl) rfl
theorem tw_3_91 : Cond.methodLink "ThumbForge" 147 ⟨"ThumbForge$Machine", "keptOutput", "(I)I"⟩ ∈ tbG := tb_in (tb_3 91 rfl) rfl
theorem tw_3_92 : Cond.instanceMethod ⟨"ThumbForge$Machine", "keptOutput", "(I)I"⟩ ∈ tbG := tb_in (tb_3 92 rfl) rfl
theorem tw_3_93 : Cond.selects "ThumbForge$Machine" ⟨"ThumbForge$Machine", "keptOutput", "(I)I"⟩ ⟨"ThumbForge$Machine", "keptOutput", "(I)I"⟩ ∈ tbG := tb_in (tb_3 93 rfl) rfl
theorem tw_3_94 : Cond.code ⟨"ThumbForge$Machine", "keptOutput", "(I)I"⟩ prog_3_method_6_code 2 (some FieldType.int) ∈ tbG := tb_in (tb_3 94 rfl) rfl
theorem tw_3_95 : Cond.classLink "ThumbForgeLaw" 72 "ThumbForgeModel" ∈ tbG := tb_in (tb_3 95 rfl) rfl
theorem tw_3_96 : Cond.instantiable "ThumbForgeModel" 22 ∈ tbG := tb_in (tb_3 96 rfl) rfl
theorem tw_3_97 : Cond.methodLink "ThumbForgeLaw" 74 ⟨"ThumbForgeModel", "<init>", "()V"⟩ ∈ tbG := tb_in (tb_3 97 rfl) rfl
theorem tw_3_98 : Cond.instanceMethod ⟨"ThumbForgeModel", "<init>", "()V"⟩ ∈ tbG := tb_in (tb_3 98 rfl) rfl
theorem tw_3_99 : Cond.code ⟨"ThumbForgeModel", "<init>", "()V"⟩ prog_6_method_1_code 1 none ∈ tbG := tb_in (tb_3 99 rfl) rfl
theorem tw_3_100 : Cond.methodLink "ThumbForgeModel" 1 ⟨"java/lang/Object", "<init>", "()V"⟩ ∈ tbG := tb_in (tb_3 100 rfl) rfl
theorem tw_3_101 : Cond.fieldLink "ThumbForgeModel" 47 "ThumbForgeModel" "thrown" "I" ∈ tbG := tb_in (tb_3 101 rfl) rfl
theorem tw_3_102 : Cond.fieldLink "ThumbForgeModel" 51 "ThumbForgeModel" "size" "I" ∈ tbG := tb_in (tb_3 102 rfl) rfl
theorem tw_3_103 : Cond.fieldLink "ThumbForgeModel" 7 "ThumbForgeModel" "kind" "[I" ∈ tbG := tb_in (tb_3 103 rfl) rfl
theorem tw_3_104 : Cond.fieldLink "ThumbForgeModel" 13 "ThumbForgeModel" "n0" "[I" ∈ tbG := tb_in (tb_3 104 rfl) rfl
theorem tw_3_105 : Cond.fieldLink "ThumbForgeModel" 16 "ThumbForgeModel" "n1" "[I" ∈ tbG := tb_in (tb_3 105 rfl) rfl
theorem tw_3_106 : Cond.fieldLink "ThumbForgeModel" 19 "ThumbForgeModel" "n2" "[I" ∈ tbG := tb_in (tb_3 106 rfl) rfl
theorem tw_3_107 : Cond.fieldLink "ThumbForgeModel" 22 "ThumbForgeModel" "n3" "[I" ∈ tbG := tb_in (tb_3 107 rfl) rfl
theorem tw_3_108 : Cond.fieldLink "ThumbForgeModel" 25 "ThumbForgeModel" "memory" "[I" ∈ tbG := tb_in (tb_3 108 rfl) rfl
theorem tw_3_109 : Cond.fieldLink "ThumbForgeModel" 54 "ThumbForgeModel" "made" "Z" ∈ tbG := tb_in (tb_3 109 rfl) rfl
theorem tw_3_110 : Cond.fieldLink "ThumbForgeModel" 95 "ThumbForgeModel" "length" "I" ∈ tbG := tb_in (tb_3 110 rfl) rfl
theorem tw_3_111 : Cond.fieldLink "ThumbForgeModel" 28 "ThumbForgeModel" "image" "[I" ∈ tbG := tb_in (tb_3 111 rfl) rfl
theorem tw_3_112 : Cond.fieldLink "ThumbForgeModel" 31 "ThumbForgeModel" "places" "[I" ∈ tbG := tb_in (tb_3 112 rfl) rfl
theorem tw_3_113 : Cond.fieldLink "ThumbForgeModel" 34 "ThumbForgeModel" "far" "[Z" ∈ tbG := tb_in (tb_3 113 rfl) rfl
theorem tw_3_114 : Cond.fieldLink "ThumbForgeModel" 104 "ThumbForgeModel" "pool" "I" ∈ tbG := tb_in (tb_3 114 rfl) rfl
theorem tw_3_115 : Cond.fieldLink "ThumbForgeModel" 38 "ThumbForgeModel" "literals" "[I" ∈ tbG := tb_in (tb_3 115 rfl) rfl
theorem tw_3_116 : Cond.fieldLink "ThumbForgeModel" 107 "ThumbForgeModel" "poolPlace" "I" ∈ tbG := tb_in (tb_3 116 rfl) rfl
theorem tw_3_117 : Cond.fieldLink "ThumbForgeModel" 58 "ThumbForgeModel" "state" "I" ∈ tbG := tb_in (tb_3 117 rfl) rfl
theorem tw_3_118 : Cond.fieldLink "ThumbForgeModel" 178 "ThumbForgeModel" "trap" "I" ∈ tbG := tb_in (tb_3 118 rfl) rfl
theorem tw_3_119 : Cond.fieldLink "ThumbForgeModel" 162 "ThumbForgeModel" "now" "I" ∈ tbG := tb_in (tb_3 119 rfl) rfl
theorem tw_3_120 : Cond.fieldLink "ThumbForgeModel" 41 "ThumbForgeModel" "variables" "[I" ∈ tbG := tb_in (tb_3 120 rfl) rfl
theorem tw_3_121 : Cond.fieldLink "ThumbForgeModel" 165 "ThumbForgeModel" "outputs" "I" ∈ tbG := tb_in (tb_3 121 rfl) rfl
theorem tw_3_122 : Cond.fieldLink "ThumbForgeModel" 44 "ThumbForgeModel" "out" "[I" ∈ tbG := tb_in (tb_3 122 rfl) rfl
theorem tw_3_123 : Cond.lays "ThumbForgeModel" "ThumbForgeModel" "thrown" "I" ∈ tbG := tb_in (tb_3 123 rfl) rfl
theorem tw_3_124 : Cond.soleField "ThumbForgeModel" "thrown" ∈ tbG := tb_in (tb_3 124 rfl) rfl
theorem tw_3_125 : Cond.lays "ThumbForgeModel" "ThumbForgeModel" "size" "I" ∈ tbG := tb_in (tb_3 125 rfl) rfl
theorem tw_3_126 : Cond.soleField "ThumbForgeModel" "size" ∈ tbG := tb_in (tb_3 126 rfl) rfl
theorem tw_3_127 : Cond.laysFinal "ThumbForgeModel" "ThumbForgeModel" "kind" "[I" ∈ tbG := tb_in (tb_3 127 rfl) rfl
theorem tw_3_128 : Cond.soleField "ThumbForgeModel" "kind" ∈ tbG := tb_in (tb_3 128 rfl) rfl
theorem tw_3_129 : Cond.laysFinal "ThumbForgeModel" "ThumbForgeModel" "n0" "[I" ∈ tbG := tb_in (tb_3 129 rfl) rfl
theorem tw_3_130 : Cond.soleField "ThumbForgeModel" "n0" ∈ tbG := tb_in (tb_3 130 rfl) rfl
theorem tw_3_131 : Cond.laysFinal "ThumbForgeModel" "ThumbForgeModel" "n1" "[I" ∈ tbG := tb_in (tb_3 131 rfl) rfl
theorem tw_3_132 : Cond.soleField "ThumbForgeModel" "n1" ∈ tbG := tb_in (tb_3 132 rfl) rfl
theorem tw_3_133 : Cond.laysFinal "ThumbForgeModel" "ThumbForgeModel" "n2" "[I" ∈ tbG := tb_in (tb_3 133 rfl) rfl
theorem tw_3_134 : Cond.soleField "ThumbForgeModel" "n2" ∈ tbG := tb_in (tb_3 134 rfl) rfl
theorem tw_3_135 : Cond.laysFinal "ThumbForgeModel" "ThumbForgeModel" "n3" "[I" ∈ tbG := tb_in (tb_3 135 rfl) rfl
theorem tw_3_136 : Cond.soleField "ThumbForgeModel" "n3" ∈ tbG := tb_in (tb_3 136 rfl) rfl
theorem tw_3_137 : Cond.laysFinal "ThumbForgeModel" "ThumbForgeModel" "memory" "[I" ∈ tbG := tb_in (tb_3 137 rfl) rfl
theorem tw_3_138 : Cond.soleField "ThumbForgeModel" "memory" ∈ tbG := tb_in (tb_3 138 rfl) rfl
theorem tw_3_139 : Cond.lays "ThumbForgeModel" "ThumbForgeModel" "made" "Z" ∈ tbG := tb_in (tb_3 139 rfl) rfl
theorem tw_3_140 : Cond.soleField "ThumbForgeModel" "made" ∈ tbG := tb_in (tb_3 140 rfl) rfl
theorem tw_3_141 : Cond.lays "ThumbForgeModel" "ThumbForgeModel" "length" "I" ∈ tbG := tb_in (tb_3 141 rfl) rfl
theorem tw_3_142 : Cond.soleField "ThumbForgeModel" "length" ∈ tbG := tb_in (tb_3 142 rfl) rfl
theorem tw_3_143 : Cond.laysFinal "ThumbForgeModel" "ThumbForgeModel" "image" "[I" ∈ tbG := tb_in (tb_3 143 rfl) rfl
theorem tw_3_144 : Cond.soleField "ThumbForgeModel" "image" ∈ tbG := tb_in (tb_3 144 rfl) rfl
theorem tw_3_145 : Cond.laysFinal "ThumbForgeModel" "ThumbForgeModel" "places" "[I" ∈ tbG := tb_in (tb_3 145 rfl) rfl
theorem tw_3_146 : Cond.soleField "ThumbForgeModel" "places" ∈ tbG := tb_in (tb_3 146 rfl) rfl
theorem tw_3_147 : Cond.laysFinal "ThumbForgeModel" "ThumbForgeModel" "far" "[Z" ∈ tbG := tb_in (tb_3 147 rfl) rfl
theorem tw_3_148 : Cond.soleField "ThumbForgeModel" "far" ∈ tbG := tb_in (tb_3 148 rfl) rfl
theorem tw_3_149 : Cond.lays "ThumbForgeModel" "ThumbForgeModel" "pool" "I" ∈ tbG := tb_in (tb_3 149 rfl) rfl
theorem tw_3_150 : Cond.soleField "ThumbForgeModel" "pool" ∈ tbG := tb_in (tb_3 150 rfl) rfl
theorem tw_3_151 : Cond.laysFinal "ThumbForgeModel" "ThumbForgeModel" "literals" "[I" ∈ tbG := tb_in (tb_3 151 rfl) rfl
theorem tw_3_152 : Cond.soleField "ThumbForgeModel" "literals" ∈ tbG := tb_in (tb_3 152 rfl) rfl
theorem tw_3_153 : Cond.lays "ThumbForgeModel" "ThumbForgeModel" "poolPlace" "I" ∈ tbG := tb_in (tb_3 153 rfl) rfl
theorem tw_3_154 : Cond.soleField "ThumbForgeModel" "poolPlace" ∈ tbG := tb_in (tb_3 154 rfl) rfl
theorem tw_3_155 : Cond.lays "ThumbForgeModel" "ThumbForgeModel" "state" "I" ∈ tbG := tb_in (tb_3 155 rfl) rfl
theorem tw_3_156 : Cond.soleField "ThumbForgeModel" "state" ∈ tbG := tb_in (tb_3 156 rfl) rfl
theorem tw_3_157 : Cond.lays "ThumbForgeModel" "ThumbForgeModel" "trap" "I" ∈ tbG := tb_in (tb_3 157 rfl) rfl
theorem tw_3_158 : Cond.soleField "ThumbForgeModel" "trap" ∈ tbG := tb_in (tb_3 158 rfl) rfl
theorem tw_3_159 : Cond.lays "ThumbForgeModel" "ThumbForgeModel" "now" "I" ∈ tbG := tb_in (tb_3 159 rfl) rfl
theorem tw_3_160 : Cond.soleField "ThumbForgeModel" "now" ∈ tbG := tb_in (tb_3 160 rfl) rfl
theorem tw_3_161 : Cond.laysFinal "ThumbForgeModel" "ThumbForgeModel" "variables" "[I" ∈ tbG := tb_in (tb_3 161 rfl) rfl
theorem tw_3_162 : Cond.soleField "ThumbForgeModel" "variables" ∈ tbG := tb_in (tb_3 162 rfl) rfl
theorem tw_3_163 : Cond.lays "ThumbForgeModel" "ThumbForgeModel" "outputs" "I" ∈ tbG := tb_in (tb_3 163 rfl) rfl
theorem tw_3_164 : Cond.soleField "ThumbForgeModel" "outputs" ∈ tbG := tb_in (tb_3 164 rfl) rfl
theorem tw_3_165 : Cond.laysFinal "ThumbForgeModel" "ThumbForgeModel" "out" "[I" ∈ tbG := tb_in (tb_3 165 rfl) rfl
theorem tw_3_166 : Cond.soleField "ThumbForgeModel" "out" ∈ tbG := tb_in (tb_3 166 rfl) rfl
theorem tw_3_167 : Cond.superclass "ThumbForgeModel" "java/lang/Object" ∈ tbG := tb_in (tb_3 167 rfl) rfl
theorem tw_3_168 : Cond.methodLink "ThumbForgeLaw" 81 ⟨"ThumbForgeModel", "thrown", "()I"⟩ ∈ tbG := tb_in (tb_3 168 rfl) rfl
theorem tw_3_169 : Cond.instanceMethod ⟨"ThumbForgeModel", "thrown", "()I"⟩ ∈ tbG := tb_in (tb_3 169 rfl) rfl
theorem tw_3_170 : Cond.selects "ThumbForgeModel" ⟨"ThumbForgeModel", "thrown", "()I"⟩ ⟨"ThumbForgeModel", "thrown", "()I"⟩ ∈ tbG := tb_in (tb_3 170 rfl) rfl
theorem tw_3_171 : Cond.code ⟨"ThumbForgeModel", "thrown", "()I"⟩ prog_6_method_2_code 1 (some FieldType.int) ∈ tbG := tb_in (tb_3 171 rfl) rfl
theorem tw_3_172 : Cond.methodLink "ThumbForgeLaw" 80 ⟨"ThumbForgeModel", "constant", "(II)I"⟩ ∈ tbG := tb_in (tb_3 172 rfl) rfl
theorem tw_3_173 : Cond.instanceMethod ⟨"ThumbForgeModel", "constant", "(II)I"⟩ ∈ tbG := tb_in (tb_3 173 rfl) rfl
theorem tw_3_174 : Cond.selects "ThumbForgeModel" ⟨"ThumbForgeModel", "constant", "(II)I"⟩ ⟨"ThumbForgeModel", "constant", "(II)I"⟩ ∈ tbG := tb_in (tb_3 174 rfl) rfl
theorem tw_3_175 : Cond.code ⟨"ThumbForgeModel", "constant", "(II)I"⟩ prog_6_method_5_code 3 (some FieldType.int) ∈ tbG := tb_in (tb_3 175 rfl) rfl
theorem tw_3_176 : Cond.methodLink "ThumbForgeModel" 61 ⟨"ThumbForgeModel", "isVariable", "(I)Z"⟩ ∈ tbG := tb_in (tb_3 176 rfl) rfl
theorem tw_3_177 : Cond.static ⟨"ThumbForgeModel", "isVariable", "(I)Z"⟩ ∈ tbG := tb_in (tb_3 177 rfl) rfl
theorem tw_3_178 : Cond.code ⟨"ThumbForgeModel", "isVariable", "(I)Z"⟩ prog_6_method_3_code 1 (some FieldType.boolean) ∈ tbG := tb_in (tb_3 178 rfl) rfl
theorem tw_3_179 : Cond.methodLink "ThumbForgeModel" 65 ⟨"ThumbForgeModel", "append", "(ZIII)I"⟩ ∈ tbG := tb_in (tb_3 179 rfl) rfl
theorem tw_3_181 : Cond.instanceMethod ⟨"ThumbForgeModel", "append", "(ZIII)I"⟩ ∈ tbG := tb_in (tb_3 181 rfl) rfl
theorem tw_3_182 : Cond.code ⟨"ThumbForgeModel", "append", "(ZIII)I"⟩ prog_6_method_4_code 5 (some FieldType.int) ∈ tbG := tb_in (tb_3 182 rfl) rfl
theorem tw_3_183 : Cond.methodLink "ThumbForgeLaw" 87 ⟨"ThumbForgeModel", "compute", "(IIII)I"⟩ ∈ tbG := tb_in (tb_3 183 rfl) rfl
theorem tw_3_184 : Cond.instanceMethod ⟨"ThumbForgeModel", "compute", "(IIII)I"⟩ ∈ tbG := tb_in (tb_3 184 rfl) rfl
theorem tw_3_185 : Cond.selects "ThumbForgeModel" ⟨"ThumbForgeModel", "compute", "(IIII)I"⟩ ⟨"ThumbForgeModel", "compute", "(IIII)I"⟩ ∈ tbG := tb_in (tb_3 185 rfl) rfl
theorem tw_3_186 : Cond.code ⟨"ThumbForgeModel", "compute", "(IIII)I"⟩ prog_6_method_6_code 6 (some FieldType.int) ∈ tbG := tb_in (tb_3 186 rfl) rfl
theorem tw_3_187 : Cond.methodLink "ThumbForgeLaw" 90 ⟨"ThumbForgeModel", "load", "(II)I"⟩ ∈ tbG := tb_in (tb_3 187 rfl) rfl
theorem tw_3_188 : Cond.instanceMethod ⟨"ThumbForgeModel", "load", "(II)I"⟩ ∈ tbG := tb_in (tb_3 188 rfl) rfl
theorem tw_3_189 : Cond.selects "ThumbForgeModel" ⟨"ThumbForgeModel", "load", "(II)I"⟩ ⟨"ThumbForgeModel", "load", "(II)I"⟩ ∈ tbG := tb_in (tb_3 189 rfl) rfl
theorem tw_3_190 : Cond.code ⟨"ThumbForgeModel", "load", "(II)I"⟩ prog_6_method_7_code 3 (some FieldType.int) ∈ tbG := tb_in (tb_3 190 rfl) rfl
theorem tw_3_191 : Cond.methodLink "ThumbForgeLaw" 93 ⟨"ThumbForgeModel", "store", "(II)I"⟩ ∈ tbG := tb_in (tb_3 191 rfl) rfl
theorem tw_3_192 : Cond.instanceMethod ⟨"ThumbForgeModel", "store", "(II)I"⟩ ∈ tbG := tb_in (tb_3 192 rfl) rfl
theorem tw_3_193 : Cond.selects "ThumbForgeModel" ⟨"ThumbForgeModel", "store", "(II)I"⟩ ⟨"ThumbForgeModel", "store", "(II)I"⟩ ∈ tbG := tb_in (tb_3 193 rfl) rfl
theorem tw_3_194 : Cond.code ⟨"ThumbForgeModel", "store", "(II)I"⟩ prog_6_method_8_code 3 (some FieldType.int) ∈ tbG := tb_in (tb_3 194 rfl) rfl
theorem tw_3_195 : Cond.methodLink "ThumbForgeLaw" 97 ⟨"ThumbForgeModel", "jump", "(I)I"⟩ ∈ tbG := tb_in (tb_3 195 rfl) rfl
theorem tw_3_196 : Cond.instanceMethod ⟨"ThumbForgeModel", "jump", "(I)I"⟩ ∈ tbG := tb_in (tb_3 196 rfl) rfl
theorem tw_3_197 : Cond.selects "ThumbForgeModel" ⟨"ThumbForgeModel", "jump", "(I)I"⟩ ⟨"ThumbForgeModel", "jump", "(I)I"⟩ ∈ tbG := tb_in (tb_3 197 rfl) rfl
theorem tw_3_198 : Cond.code ⟨"ThumbForgeModel", "jump", "(I)I"⟩ prog_6_method_9_code 2 (some FieldType.int) ∈ tbG := tb_in (tb_3 198 rfl) rfl
theorem tw_3_199 : Cond.methodLink "ThumbForgeLaw" 100 ⟨"ThumbForgeModel", "branch", "(IIII)I"⟩ ∈ tbG := tb_in (tb_3 199 rfl) rfl
theorem tw_3_200 : Cond.instanceMethod ⟨"ThumbForgeModel", "branch", "(IIII)I"⟩ ∈ tbG := tb_in (tb_3 200 rfl) rfl
theorem tw_3_201 : Cond.selects "ThumbForgeModel" ⟨"ThumbForgeModel", "branch", "(IIII)I"⟩ ⟨"ThumbForgeModel", "branch", "(IIII)I"⟩ ∈ tbG := tb_in (tb_3 201 rfl) rfl
theorem tw_3_202 : Cond.code ⟨"ThumbForgeModel", "branch", "(IIII)I"⟩ prog_6_method_11_code 6 (some FieldType.int) ∈ tbG := tb_in (tb_3 202 rfl) rfl
theorem tw_3_203 : Cond.methodLink "ThumbForgeModel" 69 ⟨"ThumbForgeModel", "isRelation", "(I)Z"⟩ ∈ tbG := tb_in (tb_3 203 rfl) rfl
theorem tw_3_204 : Cond.static ⟨"ThumbForgeModel", "isRelation", "(I)Z"⟩ ∈ tbG := tb_in (tb_3 204 rfl) rfl
theorem tw_3_205 : Cond.code ⟨"ThumbForgeModel", "isRelation", "(I)Z"⟩ prog_6_method_10_code 1 (some FieldType.boolean) ∈ tbG := tb_in (tb_3 205 rfl) rfl
theorem tw_3_206 : Cond.methodLink "ThumbForgeLaw" 103 ⟨"ThumbForgeModel", "out", "(I)I"⟩ ∈ tbG := tb_in (tb_3 206 rfl) rfl
theorem tw_3_207 : Cond.instanceMethod ⟨"ThumbForgeModel", "out", "(I)I"⟩ ∈ tbG := tb_in (tb_3 207 rfl) rfl
theorem tw_3_208 : Cond.selects "ThumbForgeModel" ⟨"ThumbForgeModel", "out", "(I)I"⟩ ⟨"ThumbForgeModel", "out", "(I)I"⟩ ∈ tbG := tb_in (tb_3 208 rfl) rfl
theorem tw_3_209 : Cond.code ⟨"ThumbForgeModel", "out", "(I)I"⟩ prog_6_method_12_code 2 (some FieldType.int) ∈ tbG := tb_in (tb_3 209 rfl) rfl
theorem tw_3_210 : Cond.methodLink "ThumbForgeLaw" 106 ⟨"ThumbForgeModel", "stop", "(I)I"⟩ ∈ tbG := tb_in (tb_3 210 rfl) rfl
theorem tw_3_211 : Cond.instanceMethod ⟨"ThumbForgeModel", "stop", "(I)I"⟩ ∈ tbG := tb_in (tb_3 211 rfl) rfl
theorem tw_3_212 : Cond.selects "ThumbForgeModel" ⟨"ThumbForgeModel", "stop", "(I)I"⟩ ⟨"ThumbForgeModel", "stop", "(I)I"⟩ ∈ tbG := tb_in (tb_3 212 rfl) rfl
theorem tw_3_213 : Cond.code ⟨"ThumbForgeModel", "stop", "(I)I"⟩ prog_6_method_13_code 2 (some FieldType.int) ∈ tbG := tb_in (tb_3 213 rfl) rfl
theorem tw_3_214 : Cond.methodLink "ThumbForgeLaw" 110 ⟨"ThumbForgeModel", "clear", "()V"⟩ ∈ tbG := tb_in (tb_3 214 rfl) rfl
theorem tw_3_215 : Cond.instanceMethod ⟨"ThumbForgeModel", "clear", "()V"⟩ ∈ tbG := tb_in (tb_3 215 rfl) rfl
theorem tw_3_216 : Cond.selects "ThumbForgeModel" ⟨"ThumbForgeModel", "clear", "()V"⟩ ⟨"ThumbForgeModel", "clear", "()V"⟩ ∈ tbG := tb_in (tb_3 216 rfl) rfl
theorem tw_3_217 : Cond.code ⟨"ThumbForgeModel", "clear", "()V"⟩ prog_6_method_14_code 1 none ∈ tbG := tb_in (tb_3 217 rfl) rfl
theorem tw_3_218 : Cond.methodLink "ThumbForgeLaw" 114 ⟨"ThumbForgeModel", "forge", "()I"⟩ ∈ tbG := tb_in (tb_3 218 rfl) rfl
theorem tw_3_219 : Cond.instanceMethod ⟨"ThumbForgeModel", "forge", "()I"⟩ ∈ tbG := tb_in (tb_3 219 rfl) rfl
theorem tw_3_220 : Cond.selects "ThumbForgeModel" ⟨"ThumbForgeModel", "forge", "()I"⟩ ⟨"ThumbForgeModel", "forge", "()I"⟩ ∈ tbG := tb_in (tb_3 220 rfl) rfl
theorem tw_3_221 : Cond.code ⟨"ThumbForgeModel", "forge", "()I"⟩ prog_6_method_37_code 2 (some FieldType.int) ∈ tbG := tb_in (tb_3 221 rfl) rfl
theorem tw_3_222 : Cond.methodLink "ThumbForgeModel" 150 ⟨"ThumbForgeModel", "isSound", "()Z"⟩ ∈ tbG := tb_in (tb_3 222 rfl) rfl
theorem tw_3_224 : Cond.instanceMethod ⟨"ThumbForgeModel", "isSound", "()Z"⟩ ∈ tbG := tb_in (tb_3 224 rfl) rfl
theorem tw_3_225 : Cond.code ⟨"ThumbForgeModel", "isSound", "()Z"⟩ prog_6_method_36_code 3 (some FieldType.boolean) ∈ tbG := tb_in (tb_3 225 rfl) rfl
theorem tw_3_226 : Cond.methodLink "ThumbForgeModel" 154 ⟨"ThumbForgeModel", "lengthen", "()V"⟩ ∈ tbG := tb_in (tb_3 226 rfl) rfl
theorem tw_3_228 : Cond.instanceMethod ⟨"ThumbForgeModel", "lengthen", "()V"⟩ ∈ tbG := tb_in (tb_3 228 rfl) rfl
theorem tw_3_229 : Cond.code ⟨"ThumbForgeModel", "lengthen", "()V"⟩ prog_6_method_22_code 4 none ∈ tbG := tb_in (tb_3 229 rfl) rfl
theorem tw_3_230 : Cond.methodLink "ThumbForgeModel" 88 ⟨"ThumbForgeModel", "layOut", "()V"⟩ ∈ tbG := tb_in (tb_3 230 rfl) rfl
theorem tw_3_232 : Cond.instanceMethod ⟨"ThumbForgeModel", "layOut", "()V"⟩ ∈ tbG := tb_in (tb_3 232 rfl) rfl
theorem tw_3_233 : Cond.code ⟨"ThumbForgeModel", "layOut", "()V"⟩ prog_6_method_20_code 2 none ∈ tbG := tb_in (tb_3 233 rfl) rfl
theorem tw_3_234 : Cond.methodLink "ThumbForgeModel" 85 ⟨"ThumbForgeModel", "lengthOf", "(I)I"⟩ ∈ tbG := tb_in (tb_3 234 rfl) rfl
theorem tw_3_236 : Cond.instanceMethod ⟨"ThumbForgeModel", "lengthOf", "(I)I"⟩ ∈ tbG := tb_in (tb_3 236 rfl) rfl
theorem tw_3_237 : Cond.code ⟨"ThumbForgeModel", "lengthOf", "(I)I"⟩ prog_6_method_19_code 2 (some FieldType.int) ∈ tbG := tb_in (tb_3 237 rfl) rfl
theorem tw_3_238 : Cond.methodLink "ThumbForgeModel" 79 ⟨"ThumbForgeModel", "makeLength", "(I)I"⟩ ∈ tbG := tb_in (tb_3 238 rfl) rfl
theorem tw_3_239 : Cond.static ⟨"ThumbForgeModel", "makeLength", "(I)I"⟩ ∈ tbG := tb_in (tb_3 239 rfl) rfl
theorem tw_4_0 : Cond.code ⟨"ThumbForgeModel", "makeLength", "(I)I"⟩ prog_6_method_18_code 1 (some FieldType.int) ∈ tbG := tb_in (tb_4 0 rfl) rfl
theorem tw_4_1 : Cond.methodLink "ThumbForgeModel" 76 ⟨"ThumbForgeModel", "isLiteral", "(I)Z"⟩ ∈ tbG := tb_in (tb_4 1 rfl) rfl
theorem tw_4_2 : Cond.static ⟨"ThumbForgeModel", "isLiteral", "(I)Z"⟩ ∈ tbG := tb_in (tb_4 2 rfl) rfl
theorem tw_4_3 : Cond.code ⟨"ThumbForgeModel", "isLiteral", "(I)Z"⟩ prog_6_method_17_code 1 (some FieldType.boolean) ∈ tbG := tb_in (tb_4 3 rfl) rfl
theorem tw_4_4 : Cond.methodLink "ThumbForgeModel" 72 ⟨"ThumbForgeModel", "shiftOf", "(I)I"⟩ ∈ tbG := tb_in (tb_4 4 rfl) rfl
theorem tw_4_5 : Cond.static ⟨"ThumbForgeModel", "shiftOf", "(I)I"⟩ ∈ tbG := tb_in (tb_4 5 rfl) rfl
theorem tw_4_6 : Cond.code ⟨"ThumbForgeModel", "shiftOf", "(I)I"⟩ prog_6_method_16_code 4 (some FieldType.int) ∈ tbG := tb_in (tb_4 6 rfl) rfl
theorem tw_4_7 : Cond.methodLink "ThumbForgeModel" 82 ⟨"ThumbForgeModel", "slot", "(I)I"⟩ ∈ tbG := tb_in (tb_4 7 rfl) rfl
theorem tw_4_8 : Cond.static ⟨"ThumbForgeModel", "slot", "(I)I"⟩ ∈ tbG := tb_in (tb_4 8 rfl) rfl
theorem tw_4_9 : Cond.code ⟨"ThumbForgeModel", "slot", "(I)I"⟩ prog_6_method_15_code 1 (some FieldType.int) ∈ tbG := tb_in (tb_4 9 rfl) rfl
theorem tw_4_10 : Cond.methodLink "ThumbForgeModel" 91 ⟨"ThumbForgeModel", "way", "(II)I"⟩ ∈ tbG := tb_in (tb_4 10 rfl) rfl
theorem tw_4_12 : Cond.instanceMethod ⟨"ThumbForgeModel", "way", "(II)I"⟩ ∈ tbG := tb_in (tb_4 12 rfl) rfl
theorem tw_4_13 : Cond.code ⟨"ThumbForgeModel", "way", "(II)I"⟩ prog_6_method_21_code 3 (some FieldType.int) ∈ tbG := tb_in (tb_4 13 rfl) rfl
theorem tw_4_14 : Cond.constant "ThumbForgeModel" 157 536870912 ∈ tbG := tb_in (tb_4 14 rfl) rfl
theorem tw_4_15 : Cond.methodLink "ThumbForgeModel" 110 ⟨"ThumbForgeModel", "literal", "(II)V"⟩ ∈ tbG := tb_in (tb_4 15 rfl) rfl
theorem tw_4_17 : Cond.instanceMethod ⟨"ThumbForgeModel", "literal", "(II)V"⟩ ∈ tbG := tb_in (tb_4 17 rfl) rfl
theorem tw_4_18 : Cond.code ⟨"ThumbForgeModel", "literal", "(II)V"⟩ prog_6_method_27_code 5 none ∈ tbG := tb_in (tb_4 18 rfl) rfl
theorem tw_4_19 : Cond.methodLink "ThumbForgeModel" 99 ⟨"ThumbForgeModel", "emit", "(I)V"⟩ ∈ tbG := tb_in (tb_4 19 rfl) rfl
theorem tw_4_21 : Cond.instanceMethod ⟨"ThumbForgeModel", "emit", "(I)V"⟩ ∈ tbG := tb_in (tb_4 21 rfl) rfl
theorem tw_4_22 : Cond.code ⟨"ThumbForgeModel", "emit", "(I)V"⟩ prog_6_method_23_code 2 none ∈ tbG := tb_in (tb_4 22 rfl) rfl
theorem tw_4_23 : Cond.methodLink "ThumbForgeModel" 158 ⟨"ThumbForgeModel", "emitInstruction", "(I)V"⟩ ∈ tbG := tb_in (tb_4 23 rfl) rfl
theorem tw_4_25 : Cond.instanceMethod ⟨"ThumbForgeModel", "emitInstruction", "(I)V"⟩ ∈ tbG := tb_in (tb_4 25 rfl) rfl
theorem tw_4_26 : Cond.code ⟨"ThumbForgeModel", "emitInstruction", "(I)V"⟩ prog_6_method_35_code 3 none ∈ tbG := tb_in (tb_4 26 rfl) rfl
theorem tw_4_27 : Cond.methodLink "ThumbForgeModel" 117 ⟨"ThumbForgeModel", "target", "(I)I"⟩ ∈ tbG := tb_in (tb_4 27 rfl) rfl
theorem tw_4_28 : Cond.static ⟨"ThumbForgeModel", "target", "(I)I"⟩ ∈ tbG := tb_in (tb_4 28 rfl) rfl
theorem tw_4_29 : Cond.code ⟨"ThumbForgeModel", "target", "(I)I"⟩ prog_6_method_25_code 1 (some FieldType.int) ∈ tbG := tb_in (tb_4 29 rfl) rfl
theorem tw_4_30 : Cond.methodLink "ThumbForgeModel" 134 ⟨"ThumbForgeModel", "make", "(II)V"⟩ ∈ tbG := tb_in (tb_4 30 rfl) rfl
theorem tw_4_32 : Cond.instanceMethod ⟨"ThumbForgeModel", "make", "(II)V"⟩ ∈ tbG := tb_in (tb_4 32 rfl) rfl
theorem tw_4_33 : Cond.code ⟨"ThumbForgeModel", "make", "(II)V"⟩ prog_6_method_28_code 4 none ∈ tbG := tb_in (tb_4 33 rfl) rfl
theorem tw_4_34 : Cond.methodLink "ThumbForgeModel" 120 ⟨"ThumbForgeModel", "keep", "(I)V"⟩ ∈ tbG := tb_in (tb_4 34 rfl) rfl
theorem tw_4_36 : Cond.instanceMethod ⟨"ThumbForgeModel", "keep", "(I)V"⟩ ∈ tbG := tb_in (tb_4 36 rfl) rfl
theorem tw_4_37 : Cond.code ⟨"ThumbForgeModel", "keep", "(I)V"⟩ prog_6_method_26_code 2 none ∈ tbG := tb_in (tb_4 37 rfl) rfl
theorem tw_4_38 : Cond.constant "ThumbForgeModel" 103 36864 ∈ tbG := tb_in (tb_4 38 rfl) rfl
theorem tw_4_39 : Cond.methodLink "ThumbForgeModel" 137 ⟨"ThumbForgeModel", "emitCompute", "(IIII)V"⟩ ∈ tbG := tb_in (tb_4 39 rfl) rfl
theorem tw_4_41 : Cond.instanceMethod ⟨"ThumbForgeModel", "emitCompute", "(IIII)V"⟩ ∈ tbG := tb_in (tb_4 41 rfl) rfl
theorem tw_4_42 : Cond.code ⟨"ThumbForgeModel", "emitCompute", "(IIII)V"⟩ prog_6_method_31_code 7 none ∈ tbG := tb_in (tb_4 42 rfl) rfl
theorem tw_4_43 : Cond.methodLink "ThumbForgeModel" 114 ⟨"ThumbForgeModel", "fetch", "(II)I"⟩ ∈ tbG := tb_in (tb_4 43 rfl) rfl
theorem tw_4_45 : Cond.instanceMethod ⟨"ThumbForgeModel", "fetch", "(II)I"⟩ ∈ tbG := tb_in (tb_4 45 rfl) rfl
theorem tw_4_46 : Cond.code ⟨"ThumbForgeModel", "fetch", "(II)I"⟩ prog_6_method_24_code 3 (some FieldType.int) ∈ tbG := tb_in (tb_4 46 rfl) rfl
theorem tw_4_47 : Cond.constant "ThumbForgeModel" 98 38912 ∈ tbG := tb_in (tb_4 47 rfl) rfl
theorem tw_4_48 : Cond.methodLink "ThumbForgeModel" 123 ⟨"ThumbForgeModel", "copy", "(I)V"⟩ ∈ tbG := tb_in (tb_4 48 rfl) rfl
theorem tw_4_50 : Cond.instanceMethod ⟨"ThumbForgeModel", "copy", "(I)V"⟩ ∈ tbG := tb_in (tb_4 50 rfl) rfl
theorem tw_4_51 : Cond.code ⟨"ThumbForgeModel", "copy", "(I)V"⟩ prog_6_method_30_code 2 none ∈ tbG := tb_in (tb_4 51 rfl) rfl
theorem tw_4_52 : Cond.methodLink "ThumbForgeModel" 126 ⟨"ThumbForgeModel", "codeOf", "(I)I"⟩ ∈ tbG := tb_in (tb_4 52 rfl) rfl
theorem tw_4_53 : Cond.static ⟨"ThumbForgeModel", "codeOf", "(I)I"⟩ ∈ tbG := tb_in (tb_4 53 rfl) rfl
theorem tw_4_54 : Cond.code ⟨"ThumbForgeModel", "codeOf", "(I)I"⟩ prog_6_method_29_code 1 (some FieldType.int) ∈ tbG := tb_in (tb_4 54 rfl) rfl
theorem tw_4_55 : Cond.methodLink "ThumbForgeModel" 141 ⟨"ThumbForgeModel", "emitPlace", "(I)V"⟩ ∈ tbG := tb_in (tb_4 55 rfl) rfl
theorem tw_4_57 : Cond.instanceMethod ⟨"ThumbForgeModel", "emitPlace", "(I)V"⟩ ∈ tbG := tb_in (tb_4 57 rfl) rfl
theorem tw_4_58 : Cond.code ⟨"ThumbForgeModel", "emitPlace", "(I)V"⟩ prog_6_method_32_code 2 none ∈ tbG := tb_in (tb_4 58 rfl) rfl
theorem tw_4_59 : Cond.methodLink "ThumbForgeModel" 130 ⟨"ThumbForgeModel", "emitJump", "(I)V"⟩ ∈ tbG := tb_in (tb_4 59 rfl) rfl
theorem tw_4_61 : Cond.instanceMethod ⟨"ThumbForgeModel", "emitJump", "(I)V"⟩ ∈ tbG := tb_in (tb_4 61 rfl) rfl
theorem tw_4_62 : Cond.code ⟨"ThumbForgeModel", "emitJump", "(I)V"⟩ prog_6_method_34_code 2 none ∈ tbG := tb_in (tb_4 62 rfl) rfl
theorem tw_4_63 : Cond.constant "ThumbForgeModel" 133 57344 ∈ tbG := tb_in (tb_4 63 rfl) rfl
theorem tw_4_64 : Cond.methodLink "ThumbForgeModel" 144 ⟨"ThumbForgeModel", "emitBranch", "(I)V"⟩ ∈ tbG := tb_in (tb_4 64 rfl) rfl
theorem tw_4_66 : Cond.instanceMethod ⟨"ThumbForgeModel", "emitBranch", "(I)V"⟩ ∈ tbG := tb_in (tb_4 66 rfl) rfl
theorem tw_4_67 : Cond.code ⟨"ThumbForgeModel", "emitBranch", "(I)V"⟩ prog_6_method_33_code 4 none ∈ tbG := tb_in (tb_4 67 rfl) rfl
theorem tw_4_68 : Cond.constant "ThumbForgeModel" 129 53248 ∈ tbG := tb_in (tb_4 68 rfl) rfl
theorem tw_4_69 : Cond.constant "ThumbForgeModel" 147 57088 ∈ tbG := tb_in (tb_4 69 rfl) rfl
theorem tw_4_70 : Cond.constant "ThumbForgeModel" 148 57089 ∈ tbG := tb_in (tb_4 70 rfl) rfl
theorem tw_4_71 : Cond.constant "ThumbForgeModel" 149 56832 ∈ tbG := tb_in (tb_4 71 rfl) rfl
theorem tw_4_72 : Cond.constant "ThumbForgeModel" 161 65535 ∈ tbG := tb_in (tb_4 72 rfl) rfl
theorem tw_4_73 : Cond.methodLink "ThumbForgeLaw" 117 ⟨"ThumbForgeModel", "halfword", "(I)I"⟩ ∈ tbG := tb_in (tb_4 73 rfl) rfl
theorem tw_4_74 : Cond.instanceMethod ⟨"ThumbForgeModel", "halfword", "(I)I"⟩ ∈ tbG := tb_in (tb_4 74 rfl) rfl
theorem tw_4_75 : Cond.selects "ThumbForgeModel" ⟨"ThumbForgeModel", "halfword", "(I)I"⟩ ⟨"ThumbForgeModel", "halfword", "(I)I"⟩ ∈ tbG := tb_in (tb_4 75 rfl) rfl
theorem tw_4_76 : Cond.code ⟨"ThumbForgeModel", "halfword", "(I)I"⟩ prog_6_method_38_code 2 (some FieldType.int) ∈ tbG := tb_in (tb_4 76 rfl) rfl
theorem tw_4_77 : Cond.methodLink "ThumbForgeLaw" 120 ⟨"ThumbForgeModel", "place", "(I)I"⟩ ∈ tbG := tb_in (tb_4 77 rfl) rfl
theorem tw_4_78 : Cond.instanceMethod ⟨"ThumbForgeModel", "place", "(I)I"⟩ ∈ tbG := tb_in (tb_4 78 rfl) rfl
theorem tw_4_79 : Cond.selects "ThumbForgeModel" ⟨"ThumbForgeModel", "place", "(I)I"⟩ ⟨"ThumbForgeModel", "place", "(I)I"⟩ ∈ tbG := tb_in (tb_4 79 rfl) rfl
theorem tw_4_80 : Cond.code ⟨"ThumbForgeModel", "place", "(I)I"⟩ prog_6_method_39_code 2 (some FieldType.int) ∈ tbG := tb_in (tb_4 80 rfl) rfl
theorem tw_4_81 : Cond.methodLink "ThumbForgeLaw" 124 ⟨"ThumbForgeModel", "poke", "(II)V"⟩ ∈ tbG := tb_in (tb_4 81 rfl) rfl
theorem tw_4_82 : Cond.instanceMethod ⟨"ThumbForgeModel", "poke", "(II)V"⟩ ∈ tbG := tb_in (tb_4 82 rfl) rfl
theorem tw_4_83 : Cond.selects "ThumbForgeModel" ⟨"ThumbForgeModel", "poke", "(II)V"⟩ ⟨"ThumbForgeModel", "poke", "(II)V"⟩ ∈ tbG := tb_in (tb_4 83 rfl) rfl
theorem tw_4_84 : Cond.code ⟨"ThumbForgeModel", "poke", "(II)V"⟩ prog_6_method_40_code 3 none ∈ tbG := tb_in (tb_4 84 rfl) rfl
theorem tw_4_85 : Cond.methodLink "ThumbForgeLaw" 127 ⟨"ThumbForgeModel", "memory", "(I)I"⟩ ∈ tbG := tb_in (tb_4 85 rfl) rfl
theorem tw_4_86 : Cond.instanceMethod ⟨"ThumbForgeModel", "memory", "(I)I"⟩ ∈ tbG := tb_in (tb_4 86 rfl) rfl
theorem tw_4_87 : Cond.selects "ThumbForgeModel" ⟨"ThumbForgeModel", "memory", "(I)I"⟩ ⟨"ThumbForgeModel", "memory", "(I)I"⟩ ∈ tbG := tb_in (tb_4 87 rfl) rfl
theorem tw_4_88 : Cond.code ⟨"ThumbForgeModel", "memory", "(I)I"⟩ prog_6_method_41_code 2 (some FieldType.int) ∈ tbG := tb_in (tb_4 88 rfl) rfl
theorem tw_4_89 : Cond.methodLink "ThumbForgeLaw" 131 ⟨"ThumbForgeModel", "start", "()V"⟩ ∈ tbG := tb_in (tb_4 89 rfl) rfl
theorem tw_4_90 : Cond.instanceMethod ⟨"ThumbForgeModel", "start", "()V"⟩ ∈ tbG := tb_in (tb_4 90 rfl) rfl
theorem tw_4_91 : Cond.selects "ThumbForgeModel" ⟨"ThumbForgeModel", "start", "()V"⟩ ⟨"ThumbForgeModel", "start", "()V"⟩ ∈ tbG := tb_in (tb_4 91 rfl) rfl
theorem tw_4_92 : Cond.code ⟨"ThumbForgeModel", "start", "()V"⟩ prog_6_method_42_code 2 none ∈ tbG := tb_in (tb_4 92 rfl) rfl
theorem tw_4_93 : Cond.methodLink "ThumbForgeLaw" 134 ⟨"ThumbForgeModel", "run", "(I)I"⟩ ∈ tbG := tb_in (tb_4 93 rfl) rfl
theorem tw_4_94 : Cond.instanceMethod ⟨"ThumbForgeModel", "run", "(I)I"⟩ ∈ tbG := tb_in (tb_4 94 rfl) rfl
theorem tw_4_95 : Cond.selects "ThumbForgeModel" ⟨"ThumbForgeModel", "run", "(I)I"⟩ ⟨"ThumbForgeModel", "run", "(I)I"⟩ ∈ tbG := tb_in (tb_4 95 rfl) rfl
theorem tw_4_96 : Cond.code ⟨"ThumbForgeModel", "run", "(I)I"⟩ prog_6_method_46_code 3 (some FieldType.int) ∈ tbG := tb_in (tb_4 96 rfl) rfl
theorem tw_4_97 : Cond.methodLink "ThumbForgeModel" 181 ⟨"ThumbForgeModel", "act", "(I)I"⟩ ∈ tbG := tb_in (tb_4 97 rfl) rfl
theorem tw_4_99 : Cond.instanceMethod ⟨"ThumbForgeModel", "act", "(I)I"⟩ ∈ tbG := tb_in (tb_4 99 rfl) rfl
theorem tw_4_100 : Cond.code ⟨"ThumbForgeModel", "act", "(I)I"⟩ prog_6_method_45_code 3 (some FieldType.int) ∈ tbG := tb_in (tb_4 100 rfl) rfl
theorem tw_4_101 : Cond.methodLink "ThumbForgeModel" 170 ⟨"ThumbForgeModel", "computed", "(III)I"⟩ ∈ tbG := tb_in (tb_4 101 rfl) rfl
theorem tw_4_102 : Cond.static ⟨"ThumbForgeModel", "computed", "(III)I"⟩ ∈ tbG := tb_in (tb_4 102 rfl) rfl
theorem tw_4_103 : Cond.code ⟨"ThumbForgeModel", "computed", "(III)I"⟩ prog_6_method_43_code 4 (some FieldType.int) ∈ tbG := tb_in (tb_4 103 rfl) rfl
theorem tw_4_104 : Cond.methodLink "ThumbForgeModel" 174 ⟨"ThumbForgeModel", "holds", "(III)Z"⟩ ∈ tbG := tb_in (tb_4 104 rfl) rfl
theorem tw_4_105 : Cond.static ⟨"ThumbForgeModel", "holds", "(III)Z"⟩ ∈ tbG := tb_in (tb_4 105 rfl) rfl
theorem tw_4_106 : Cond.code ⟨"ThumbForgeModel", "holds", "(III)Z"⟩ prog_6_method_44_code 7 (some FieldType.boolean) ∈ tbG := tb_in (tb_4 106 rfl) rfl
theorem tw_4_107 : Cond.constantLong "ThumbForgeModel" 168 4294967295 ∈ tbG := tb_in (tb_4 107 rfl) rfl
theorem tw_4_108 : Cond.methodLink "ThumbForgeLaw" 138 ⟨"ThumbForgeModel", "state", "()I"⟩ ∈ tbG := tb_in (tb_4 108 rfl) rfl
theorem tw_4_109 : Cond.instanceMethod ⟨"ThumbForgeModel", "state", "()I"⟩ ∈ tbG := tb_in (tb_4 109 rfl) rfl
theorem tw_4_110 : Cond.selects "ThumbForgeModel" ⟨"ThumbForgeModel", "state", "()I"⟩ ⟨"ThumbForgeModel", "state", "()I"⟩ ∈ tbG := tb_in (tb_4 110 rfl) rfl
theorem tw_4_111 : Cond.code ⟨"ThumbForgeModel", "state", "()I"⟩ prog_6_method_47_code 1 (some FieldType.int) ∈ tbG := tb_in (tb_4 111 rfl) rfl
theorem tw_4_112 : Cond.methodLink "ThumbForgeLaw" 142 ⟨"ThumbForgeModel", "at", "()I"⟩ ∈ tbG := tb_in (tb_4 112 rfl) rfl
theorem tw_4_113 : Cond.instanceMethod ⟨"ThumbForgeModel", "at", "()I"⟩ ∈ tbG := tb_in (tb_4 113 rfl) rfl
theorem tw_4_114 : Cond.selects "ThumbForgeModel" ⟨"ThumbForgeModel", "at", "()I"⟩ ⟨"ThumbForgeModel", "at", "()I"⟩ ∈ tbG := tb_in (tb_4 114 rfl) rfl
theorem tw_4_115 : Cond.code ⟨"ThumbForgeModel", "at", "()I"⟩ prog_6_method_48_code 1 (some FieldType.int) ∈ tbG := tb_in (tb_4 115 rfl) rfl
theorem tw_4_116 : Cond.methodLink "ThumbForgeLaw" 145 ⟨"ThumbForgeModel", "variable", "(I)I"⟩ ∈ tbG := tb_in (tb_4 116 rfl) rfl
theorem tw_4_117 : Cond.instanceMethod ⟨"ThumbForgeModel", "variable", "(I)I"⟩ ∈ tbG := tb_in (tb_4 117 rfl) rfl
theorem tw_4_118 : Cond.selects "ThumbForgeModel" ⟨"ThumbForgeModel", "variable", "(I)I"⟩ ⟨"ThumbForgeModel", "variable", "(I)I"⟩ ∈ tbG := tb_in (tb_4 118 rfl) rfl
theorem tw_4_119 : Cond.code ⟨"ThumbForgeModel", "variable", "(I)I"⟩ prog_6_method_49_code 2 (some FieldType.int) ∈ tbG := tb_in (tb_4 119 rfl) rfl
theorem tw_4_120 : Cond.methodLink "ThumbForgeLaw" 149 ⟨"ThumbForgeModel", "outputs", "()I"⟩ ∈ tbG := tb_in (tb_4 120 rfl) rfl
theorem tw_4_121 : Cond.instanceMethod ⟨"ThumbForgeModel", "outputs", "()I"⟩ ∈ tbG := tb_in (tb_4 121 rfl) rfl
theorem tw_4_122 : Cond.selects "ThumbForgeModel" ⟨"ThumbForgeModel", "outputs", "()I"⟩ ⟨"ThumbForgeModel", "outputs", "()I"⟩ ∈ tbG := tb_in (tb_4 122 rfl) rfl
theorem tw_4_123 : Cond.code ⟨"ThumbForgeModel", "outputs", "()I"⟩ prog_6_method_50_code 1 (some FieldType.int) ∈ tbG := tb_in (tb_4 123 rfl) rfl
theorem tw_4_124 : Cond.methodLink "ThumbForgeLaw" 152 ⟨"ThumbForgeModel", "output", "(I)I"⟩ ∈ tbG := tb_in (tb_4 124 rfl) rfl
theorem tw_4_125 : Cond.instanceMethod ⟨"ThumbForgeModel", "output", "(I)I"⟩ ∈ tbG := tb_in (tb_4 125 rfl) rfl
theorem tw_4_126 : Cond.selects "ThumbForgeModel" ⟨"ThumbForgeModel", "output", "(I)I"⟩ ⟨"ThumbForgeModel", "output", "(I)I"⟩ ∈ tbG := tb_in (tb_4 126 rfl) rfl
theorem tw_4_127 : Cond.code ⟨"ThumbForgeModel", "output", "(I)I"⟩ prog_6_method_51_code 2 (some FieldType.int) ∈ tbG := tb_in (tb_4 127 rfl) rfl
theorem tw_4_128 : Cond.arrayClass FieldType.long ∈ tbG := tb_in (tb_4 128 rfl) rfl
theorem tw_4_129 : Cond.sameMethod "java/lang/Throwable" "java/lang/Throwable" "fillInStackTrace" "(I)Ljava/lang/Throwable;" ∈ tbG := tb_in (tb_4 129 rfl) rfl
theorem iwX0 : ∀ w ∈ u_ws RX0 TX0 9, w ∈ tbG := by
  show ∀ w ∈ [Cond.laysFinal "ThumbForge$Image" "ThumbForge$Image" "program" "LThumbForge$Program;", Cond.laysFinal "ThumbForge$Image" "ThumbForge$Image" "halfwords" "[I", Cond.laysFinal "ThumbForge$Image" "ThumbForge$Image" "places" "[I", Cond.laysFinal "ThumbForge$Image" "ThumbForge$Image" "isLong" "[Z", Cond.laysFinal "ThumbForge$Image" "ThumbForge$Image" "literals" "[I", Cond.lays "ThumbForge$Image" "ThumbForge$Image" "literalCount" "I", Cond.lays "ThumbForge$Image" "ThumbForge$Image" "poolPlace" "I", Cond.lays "ThumbForge$Image" "ThumbForge$Image" "length" "I", Cond.lays "ThumbForge$Image" "ThumbForge$Image" "made" "Z"], w ∈ tbG
  exact List.forall_mem_cons.mpr ⟨tw_1_83, List.forall_mem_cons.mpr ⟨tw_1_85, List.forall_mem_cons.mpr ⟨tw_1_87, List.forall_mem_cons.mpr ⟨tw_1_89, List.forall_mem_cons.mpr ⟨tw_1_91, List.forall_mem_cons.mpr ⟨tw_1_93, List.forall_mem_cons.mpr ⟨tw_1_95, List.forall_mem_cons.mpr ⟨tw_1_97, List.forall_mem_cons.mpr ⟨tw_1_99, fun _ h => absurd h List.not_mem_nil⟩⟩⟩⟩⟩⟩⟩⟩⟩
theorem ivX0 (a : Cond) : ∀ w ∈ u_ws RX0 TX0 9, w ∈ a :: tbG := fun w h => tb_c (iwX0 w h)
theorem iwX1 : ∀ w ∈ u_ws RX1 TX1 9, w ∈ tbG := by
  show ∀ w ∈ [Cond.laysFinal "ThumbForge$Machine" "ThumbForge$Machine" "program" "LThumbForge$Program;", Cond.laysFinal "ThumbForge$Machine" "ThumbForge$Machine" "image" "LThumbForge$Image;", Cond.laysFinal "ThumbForge$Machine" "ThumbForge$Machine" "words" "[I", Cond.laysFinal "ThumbForge$Machine" "ThumbForge$Machine" "values" "[I", Cond.laysFinal "ThumbForge$Machine" "ThumbForge$Machine" "kept" "[I", Cond.lays "ThumbForge$Machine" "ThumbForge$Machine" "outCount" "I", Cond.lays "ThumbForge$Machine" "ThumbForge$Machine" "mode" "I", Cond.lays "ThumbForge$Machine" "ThumbForge$Machine" "trap" "I", Cond.lays "ThumbForge$Machine" "ThumbForge$Machine" "next" "I"], w ∈ tbG
  exact List.forall_mem_cons.mpr ⟨tw_1_124, List.forall_mem_cons.mpr ⟨tw_1_126, List.forall_mem_cons.mpr ⟨tw_1_128, List.forall_mem_cons.mpr ⟨tw_1_130, List.forall_mem_cons.mpr ⟨tw_1_132, List.forall_mem_cons.mpr ⟨tw_1_134, List.forall_mem_cons.mpr ⟨tw_1_136, List.forall_mem_cons.mpr ⟨tw_1_138, List.forall_mem_cons.mpr ⟨tw_1_140, fun _ h => absurd h List.not_mem_nil⟩⟩⟩⟩⟩⟩⟩⟩⟩
theorem ivX1 (a : Cond) : ∀ w ∈ u_ws RX1 TX1 9, w ∈ a :: tbG := fun w h => tb_c (iwX1 w h)
theorem iwX2 : ∀ w ∈ u_ws RX2 TX2 7, w ∈ tbG := by
  show ∀ w ∈ [Cond.laysFinal "ThumbForge$Program" "ThumbForge$Program" "kinds" "[I", Cond.laysFinal "ThumbForge$Program" "ThumbForge$Program" "codes" "[I", Cond.laysFinal "ThumbForge$Program" "ThumbForge$Program" "targets" "[I", Cond.laysFinal "ThumbForge$Program" "ThumbForge$Program" "firsts" "[I", Cond.laysFinal "ThumbForge$Program" "ThumbForge$Program" "seconds" "[I", Cond.laysFinal "ThumbForge$Program" "ThumbForge$Program" "numbers" "[I", Cond.lays "ThumbForge$Program" "ThumbForge$Program" "count" "I"], w ∈ tbG
  exact List.forall_mem_cons.mpr ⟨tw_1_47, List.forall_mem_cons.mpr ⟨tw_1_49, List.forall_mem_cons.mpr ⟨tw_1_51, List.forall_mem_cons.mpr ⟨tw_1_53, List.forall_mem_cons.mpr ⟨tw_1_55, List.forall_mem_cons.mpr ⟨tw_1_57, List.forall_mem_cons.mpr ⟨tw_1_59, fun _ h => absurd h List.not_mem_nil⟩⟩⟩⟩⟩⟩⟩
theorem ivX2 (a : Cond) : ∀ w ∈ u_ws RX2 TX2 7, w ∈ a :: tbG := fun w h => tb_c (iwX2 w h)
theorem iwX3 : ∀ w ∈ u_ws RX3 TX3 3, w ∈ tbG := by
  show ∀ w ∈ [Cond.laysFinal "ThumbForge" "ThumbForge" "program" "LThumbForge$Program;", Cond.laysFinal "ThumbForge" "ThumbForge" "image" "LThumbForge$Image;", Cond.laysFinal "ThumbForge" "ThumbForge" "machine" "LThumbForge$Machine;"], w ∈ tbG
  exact List.forall_mem_cons.mpr ⟨tw_1_146, List.forall_mem_cons.mpr ⟨tw_1_148, List.forall_mem_cons.mpr ⟨tw_1_150, fun _ h => absurd h List.not_mem_nil⟩⟩⟩
theorem ivX3 (a : Cond) : ∀ w ∈ u_ws RX3 TX3 3, w ∈ a :: tbG := fun w h => tb_c (iwX3 w h)
theorem iwX4 : ∀ w ∈ u_ws RX4 TX4 22, w ∈ tbG := by
  show ∀ w ∈ [Cond.lays "ThumbForgeModel" "ThumbForgeModel" "thrown" "I", Cond.lays "ThumbForgeModel" "ThumbForgeModel" "size" "I", Cond.laysFinal "ThumbForgeModel" "ThumbForgeModel" "kind" "[I", Cond.laysFinal "ThumbForgeModel" "ThumbForgeModel" "n0" "[I", Cond.laysFinal "ThumbForgeModel" "ThumbForgeModel" "n1" "[I", Cond.laysFinal "ThumbForgeModel" "ThumbForgeModel" "n2" "[I", Cond.laysFinal "ThumbForgeModel" "ThumbForgeModel" "n3" "[I", Cond.laysFinal "ThumbForgeModel" "ThumbForgeModel" "memory" "[I", Cond.lays "ThumbForgeModel" "ThumbForgeModel" "made" "Z", Cond.lays "ThumbForgeModel" "ThumbForgeModel" "length" "I", Cond.laysFinal "ThumbForgeModel" "ThumbForgeModel" "image" "[I", Cond.laysFinal "ThumbForgeModel" "ThumbForgeModel" "places" "[I", Cond.laysFinal "ThumbForgeModel" "ThumbForgeModel" "far" "[Z", Cond.lays "ThumbForgeModel" "ThumbForgeModel" "pool" "I", Cond.laysFinal "ThumbForgeModel" "ThumbForgeModel" "literals" "[I", Cond.lays "ThumbForgeModel" "ThumbForgeModel" "poolPlace" "I", Cond.lays "ThumbForgeModel" "ThumbForgeModel" "state" "I", Cond.lays "ThumbForgeModel" "ThumbForgeModel" "trap" "I", Cond.lays "ThumbForgeModel" "ThumbForgeModel" "now" "I", Cond.laysFinal "ThumbForgeModel" "ThumbForgeModel" "variables" "[I", Cond.lays "ThumbForgeModel" "ThumbForgeModel" "outputs" "I", Cond.laysFinal "ThumbForgeModel" "ThumbForgeModel" "out" "[I"], w ∈ tbG
  exact List.forall_mem_cons.mpr ⟨tw_3_123, List.forall_mem_cons.mpr ⟨tw_3_125, List.forall_mem_cons.mpr ⟨tw_3_127, List.forall_mem_cons.mpr ⟨tw_3_129, List.forall_mem_cons.mpr ⟨tw_3_131, List.forall_mem_cons.mpr ⟨tw_3_133, List.forall_mem_cons.mpr ⟨tw_3_135, List.forall_mem_cons.mpr ⟨tw_3_137, List.forall_mem_cons.mpr ⟨tw_3_139, List.forall_mem_cons.mpr ⟨tw_3_141, List.forall_mem_cons.mpr ⟨tw_3_143, List.forall_mem_cons.mpr ⟨tw_3_145, List.forall_mem_cons.mpr ⟨tw_3_147, List.forall_mem_cons.mpr ⟨tw_3_149, List.forall_mem_cons.mpr ⟨tw_3_151, List.forall_mem_cons.mpr ⟨tw_3_153, List.forall_mem_cons.mpr ⟨tw_3_155, List.forall_mem_cons.mpr ⟨tw_3_157, List.forall_mem_cons.mpr ⟨tw_3_159, List.forall_mem_cons.mpr ⟨tw_3_161, List.forall_mem_cons.mpr ⟨tw_3_163, List.forall_mem_cons.mpr ⟨tw_3_165, fun _ h => absurd h List.not_mem_nil⟩⟩⟩⟩⟩⟩⟩⟩⟩⟩⟩⟩⟩⟩⟩⟩⟩⟩⟩⟩⟩⟩
theorem ivX4 (a : Cond) : ∀ w ∈ u_ws RX4 TX4 22, w ∈ a :: tbG := fun w h => tb_c (iwX4 w h)
end
section
/-! the shape of the contracts: a world of cells in, the same cells at the same addresses out; facts of statics beside it -/
abbrev St : Type := (Nat → Int32) × (Nat → Nat → Int32)
/-- a field set, an element of a row set -/
def sS (u : St) (k : Nat) (v : Int32) : St := (va_up u.1 k v, u.2)
def sA (u : St) (k : Nat) (i v : Int32) : St := (u.1, va_up u.2 k (upd (u.2 k) i.toNatClampNeg v))
def ush (x y : Int32) : Int32 := (x.toUInt32 >>> (y.toUInt32 &&& Int32.toUInt32 31)).toInt32
/-- facts of old cells that stay: they go with the classes, the heap outside A, and a smaller A -/
def Zok (zz : (Nat → Prop) → State → Heap → Prop) : Prop :=
  (∀ (A : Nat → Prop) (u U : State) (H : Heap), u.WarmedH U.vm → zz A u H → zz A U H) ∧
  (∀ (A : Nat → Prop) (U : State) (H H1 : Heap), zz A U H → (∀ a : Nat, a < H.size → ¬ A a → H1[a]? = H[a]?) → zz A U H1) ∧
  (∀ (A B : Nat → Prop) (U : State) (H : Heap), zz A U H → (∀ q, B q → A q) → zz B U H)
abbrev qqI (D : va_G) (cl : List vw_C) (tys : List (ClassId × FieldType)) (w' : va_W) (r : Int32) (A : Nat → Prop) : Array Value → State → Outcome → State → Prop :=
  va_Qi (fun (r2 : Int32) (_ : Unit) => r2 = r) (fun _ t => va_P D cl w' t.heap ∧ va_K D cl tys t ∧ va_D A w') A
abbrev qqV (D : va_G) (cl : List vw_C) (tys : List (ClassId × FieldType)) (w' : va_W) (A : Nat → Prop) : Array Value → State → Outcome → State → Prop :=
  va_Qv (fun (_ : Unit) => True) (fun _ t => va_P D cl w' t.heap ∧ va_K D cl tys t ∧ va_D A w') A
abbrev ppW (D : va_G) (cl : List vw_C) (tys : List (ClassId × FieldType)) (zz : (Nat → Prop) → State → Heap → Prop) (w : va_W) (sz : Nat) : State → Prop := fun U =>
  U.heap.size = sz ∧ va_P D cl w U.heap ∧ va_K D cl tys U ∧ va_D (fun _ => True) w ∧ zz (va_A w sz) U U.heap
/-- the method answers r, and the cells w become w' -/
def tfI (l : Launch) (D : va_G) (cl : List vw_C) (tys : List (ClassId × FieldType)) (zz : (Nat → Prop) → State → Heap → Prop) (y : MethodName) (ws : List Cond) (rm : Room) (av : List Value) (w : va_W) (r : Int32) (w' : va_W) : Prop :=
  ∀ sz : Nat, Met l y ws rm (va_Pc av (ppW D cl tys zz w sz)) (qqI D cl tys w' r (va_A w sz)) 0 0 (va_A w sz)
def tfV (l : Launch) (D : va_G) (cl : List vw_C) (tys : List (ClassId × FieldType)) (zz : (Nat → Prop) → State → Heap → Prop) (y : MethodName) (ws : List Cond) (rm : Room) (av : List Value) (w : va_W) (w' : va_W) : Prop :=
  ∀ sz : Nat, Met l y ws rm (va_Pc av (ppW D cl tys zz w sz)) (qqV D cl tys w' (va_A w sz)) 0 0 (va_A w sz)
/-- what stays the same along a walk -/
def cxt (p : Program) (s : State) (m : MethodId) (args : Array Value) (meth : Method) (c : Code) (cc : ByteArray) (maxL : Nat) (ret : Option FieldType) (ws : List Cond) (own : String) (D : va_G) (cl : List vw_C) (tys : List (ClassId × FieldType)) (zz : (Nat → Prop) → State → Heap → Prop) (A : Nat → Prop) : Prop :=
  p.tables.exec = Jvm.exec ∧ c.code = cc ∧ meth.sig.returnType = ret ∧ (∀ w ∈ ws, w.before args s = true) ∧ s.vm.findClass own = some m.cls ∧ meth.locks = false ∧ c.maxLocals = maxL ∧ va_K D cl tys s ∧ (∀ q : Nat, s.heap.size ≤ q → A q) ∧ zz A s s.heap
section KC
variable {p : Program} {l : Launch} {e : Env} {R : Room} {s : State} {m : MethodId} {args : Array Value} {below : List Frame} {meth : Method} {c : Code} {H : Heap} {locs : List Loc} {cells slots : Nat} {Q : State → Prop}
variable {D : va_G} {cl : List vw_C} {tys : List (ClassId × FieldType)} {zz : (Nat → Prop) → State → Heap → Prop} {A : Nat → Prop} {w w' : va_W} {r : Int32}
variable {y : MethodName} {bytes cc : ByteArray} {maxL nL n index pc : Nat} {ret : Option FieldType} {ws Ts : List Cond} {rm : Room} {own C host : String} {b : Addr} {As rest st0 : List Value} {ls : Array Slot}
theorem k_sub (hD : va_D A w) (hS : va_S A s.heap H locs) (hA : ∀ q : Nat, s.heap.size ≤ q → A q) : ∀ q, va_A w H.size q → A q := by
  intro q hq
  rcases hq with ⟨k, e, hk⟩ | hq
  · exact hD.2 k _ hk
  · exact hA q (Nat.le_trans hS.1 hq)
theorem k_blind (hzz : Zok zz) {av : List Value} {sz : Nat} : FrameBlind (va_Pc av (ppW D cl tys zz w sz)) := by
  intro a U g mk q
  obtain ⟨q0, q1, qP, qK, qD, qZ⟩ := q
  exact ⟨q0, q1, qP, va_K.moved (u := U) (U := U.calling g mk a) (Vm.Alike.refl U.vm) qK, qD, hzz.1 _ U (U.calling g mk a) _ (State.WarmedH.refl U) qZ⟩
theorem k_pre (hzz : Zok zz) (hP : va_P D cl w H) (hK : va_K D cl tys s) (hD : va_D A w) (hS : va_S A s.heap H locs) (hA : ∀ q : Nat, s.heap.size ≤ q → A q) (hZ : zz A s s.heap) {av : List Value} :
    ∀ U : State, U.heap = H → s.WarmedH U.vm → va_Pc av (ppW D cl tys zz w H.size) av.toArray U := by
  intro U hU hWm
  refine ⟨rfl, by rw [hU], by rw [hU]; exact hP, va_K.moved hWm.alike hK, hD.weaken (fun _ _ _ _ => trivial), ?_⟩
  rw [hU]
  exact hzz.2.2 A _ U H (hzz.1 A s U H hWm (hzz.2.1 A s s.heap H hZ hS.2.1)) (k_sub hD hS hA)
theorem k_callVi (hzz : Zok zz) (S : CallFix p m c cc nL s args Ts own) (hM : tfI l D cl tys zz y ws rm (.ref b :: As) w r w') (cw : CallW R s args own C index y bytes maxL ret ws rm 0 0 n) (hrv : ∃ cellB : Cell, H[b]? = some cellB ∧ cellB.vm.isStatics = false ∧ s.vm.findClass C = some cellB.cls)
    (hn : As.length = n) (hsize : ls.size = nL) (hst : st0 = As.reverse ++ .ref b :: rest) (hW : 2 * (F0 m pc ls st0).monitorRoom + (rest.map fun v => v.category).sum ≤ 8) (hdg : decode cc pc = .ok (.invokevirtual index, 3)) (hf : cells + 0 ≤ R.cells ∧ slots + 0 ≤ R.slots)
    (hP : va_P D cl w H) (hK : va_K D cl tys s) (hD : va_D A w) (hS : va_S A s.heap H locs) (hA : ∀ q : Nat, s.heap.size ≤ q → A q) (hZ : zz A s s.heap)
    (kk : ∀ (H1 : Heap) (locs1 : List Loc), va_P D cl w' H1 → va_D A w' → va_S A s.heap H1 locs1 → W p l e R s m args below meth c H1 locs1 cells slots Q (F0 m (pc + 3) ls (.int r :: rest))) :
    W p l e R s m args below meth c H locs cells slots Q (F0 m pc ls st0) := by
  have hFc := k_sub hD hS hA
  refine va_calli (va_runV (As := As) (rest := rest) S (hM H.size) cw ⟨k_blind hzz, hrv, k_pre hzz hP hK hD hS hA hZ⟩ rfl hn hsize hst hW hdg hf) hS (fun q _ h => hFc q h) hFc (fun r1 u1 t H1 locs1 ht hvm hw hB hz1 hk1 hS1 => ?_)
  obtain ⟨hP1, hK1, hD1⟩ := hB
  rw [ht] at hP1
  subst hw
  exact kk H1 locs1 hP1 (hD1.weaken (fun _ _ _ h => hFc _ h)) hS1
theorem k_callVv (hzz : Zok zz) (S : CallFix p m c cc nL s args Ts own) (hM : tfV l D cl tys zz y ws rm (.ref b :: As) w w') (cw : CallW R s args own C index y bytes maxL ret ws rm 0 0 n) (hrv : ∃ cellB : Cell, H[b]? = some cellB ∧ cellB.vm.isStatics = false ∧ s.vm.findClass C = some cellB.cls)
    (hn : As.length = n) (hsize : ls.size = nL) (hst : st0 = As.reverse ++ .ref b :: rest) (hW : 2 * (F0 m pc ls st0).monitorRoom + (rest.map fun v => v.category).sum ≤ 8) (hdg : decode cc pc = .ok (.invokevirtual index, 3)) (hf : cells + 0 ≤ R.cells ∧ slots + 0 ≤ R.slots)
    (hP : va_P D cl w H) (hK : va_K D cl tys s) (hD : va_D A w) (hS : va_S A s.heap H locs) (hA : ∀ q : Nat, s.heap.size ≤ q → A q) (hZ : zz A s s.heap)
    (kk : ∀ (H1 : Heap) (locs1 : List Loc), va_P D cl w' H1 → va_D A w' → va_S A s.heap H1 locs1 → W p l e R s m args below meth c H1 locs1 cells slots Q (F0 m (pc + 3) ls rest)) :
    W p l e R s m args below meth c H locs cells slots Q (F0 m pc ls st0) := by
  have hFc := k_sub hD hS hA
  refine va_callv (va_runV (As := As) (rest := rest) S (hM H.size) cw ⟨k_blind hzz, hrv, k_pre hzz hP hK hD hS hA hZ⟩ rfl hn hsize hst hW hdg hf) hS (fun q _ h => hFc q h) hFc (fun u1 t H1 locs1 ht hvm hw hB hz1 hk1 hS1 => ?_)
  obtain ⟨hP1, hK1, hD1⟩ := hB
  rw [ht] at hP1
  exact kk H1 locs1 hP1 (hD1.weaken (fun _ _ _ h => hFc _ h)) hS1
theorem k_callSi (hzz : Zok zz) (S : CallFix p m c cc nL s args Ts own) (hM : tfI l D cl tys zz y ws rm As w r w') (cw : CallB R s args own index y bytes maxL ret ws rm 0 0 n ∧ (Cond.static y).before args s = true)
    (hn : As.length = n) (hsize : ls.size = nL) (hst : st0 = As.reverse ++ rest) (hW : 2 * (F0 m pc ls st0).monitorRoom + (rest.map fun v => v.category).sum ≤ 8) (hdg : decode cc pc = .ok (.invokestatic index, 3)) (hf : cells + 0 ≤ R.cells ∧ slots + 0 ≤ R.slots)
    (hP : va_P D cl w H) (hK : va_K D cl tys s) (hD : va_D A w) (hS : va_S A s.heap H locs) (hA : ∀ q : Nat, s.heap.size ≤ q → A q) (hZ : zz A s s.heap)
    (kk : ∀ (H1 : Heap) (locs1 : List Loc), va_P D cl w' H1 → va_D A w' → va_S A s.heap H1 locs1 → W p l e R s m args below meth c H1 locs1 cells slots Q (F0 m (pc + 3) ls (.int r :: rest))) :
    W p l e R s m args below meth c H locs cells slots Q (F0 m pc ls st0) := by
  have hFc := k_sub hD hS hA
  refine va_calli (va_runS (As := As) (rest := rest) S (hM H.size) cw ⟨k_blind hzz, k_pre hzz hP hK hD hS hA hZ⟩ rfl hn hsize hst hW hdg hf) hS (fun q _ h => hFc q h) hFc (fun r1 u1 t H1 locs1 ht hvm hw hB hz1 hk1 hS1 => ?_)
  obtain ⟨hP1, hK1, hD1⟩ := hB
  rw [ht] at hP1
  subst hw
  exact kk H1 locs1 hP1 (hD1.weaken (fun _ _ _ h => hFc _ h)) hS1
theorem k_callSv (hzz : Zok zz) (S : CallFix p m c cc nL s args Ts own) (hM : tfV l D cl tys zz y ws rm As w w') (cw : CallB R s args own index y bytes maxL ret ws rm 0 0 n ∧ (Cond.static y).before args s = true)
    (hn : As.length = n) (hsize : ls.size = nL) (hst : st0 = As.reverse ++ rest) (hW : 2 * (F0 m pc ls st0).monitorRoom + (rest.map fun v => v.category).sum ≤ 8) (hdg : decode cc pc = .ok (.invokestatic index, 3)) (hf : cells + 0 ≤ R.cells ∧ slots + 0 ≤ R.slots)
    (hP : va_P D cl w H) (hK : va_K D cl tys s) (hD : va_D A w) (hS : va_S A s.heap H locs) (hA : ∀ q : Nat, s.heap.size ≤ q → A q) (hZ : zz A s s.heap)
    (kk : ∀ (H1 : Heap) (locs1 : List Loc), va_P D cl w' H1 → va_D A w' → va_S A s.heap H1 locs1 → W p l e R s m args below meth c H1 locs1 cells slots Q (F0 m (pc + 3) ls rest)) :
    W p l e R s m args below meth c H locs cells slots Q (F0 m pc ls st0) := by
  have hFc := k_sub hD hS hA
  refine va_callv (va_runS (As := As) (rest := rest) S (hM H.size) cw ⟨k_blind hzz, k_pre hzz hP hK hD hS hA hZ⟩ rfl hn hsize hst hW hdg hf) hS (fun q _ h => hFc q h) hFc (fun u1 t H1 locs1 ht hvm hw hB hz1 hk1 hS1 => ?_)
  obtain ⟨hP1, hK1, hD1⟩ := hB
  rw [ht] at hP1
  exact kk H1 locs1 hP1 (hD1.weaken (fun _ _ _ h => hFc _ h)) hS1
end KC
end
section
/-! contracts of methods that may throw: code 0: it answers; 1, 2, 3: it throws, the cells stay apart and become w' -/
def xnm (k : Nat) : String := if k = 1 then "java/lang/IllegalArgumentException" else if k = 2 then "java/lang/IllegalStateException" else "java/util/NoSuchElementException"
abbrev xqI (D : va_G) (cl : List vw_C) (tys : List (ClassId × FieldType)) (w' : va_W) (code : Nat) (r : Int32) (A : Nat → Prop) : Array Value → State → Outcome → State → Prop :=
  va_Qi (fun (r2 : Int32) (_ : Unit) => r2 = r ∧ code = 0) (fun _ t => va_P D cl w' t.heap ∧ va_K D cl tys t ∧ va_D A w') A
abbrev xqV (D : va_G) (cl : List vw_C) (tys : List (ClassId × FieldType)) (w' : va_W) (code : Nat) (A : Nat → Prop) : Array Value → State → Outcome → State → Prop :=
  va_Qv (fun (_ : Unit) => code = 0) (fun _ t => va_P D cl w' t.heap ∧ va_K D cl tys t ∧ va_D A w') A
abbrev xxX (D : va_G) (cl : List vw_C) (tys : List (ClassId × FieldType)) (w' : va_W) (code : Nat) (A : Nat → Prop) : String → State → State → Prop :=
  vx_X (fun (_ : Unit) => ¬ code = 0) (fun E _ t => E = xnm code ∧ va_P D cl w' t.heap ∧ va_K D cl tys t ∧ va_D A w') A
def txI (l : Launch) (D : va_G) (cl : List vw_C) (tys : List (ClassId × FieldType)) (zz : (Nat → Prop) → State → Heap → Prop) (y : MethodName) (ws : List Cond) (rm : Room) (av : List Value) (w : va_W) (code : Nat) (r : Int32) (w' : va_W) (mc ms : Nat) : Prop :=
  ∀ sz : Nat, vx_Met l y ws rm (va_Pc av (ppW D cl tys zz w sz)) (xqI D cl tys w' code r (va_A w sz)) (xxX D cl tys w' code (va_A w sz)) mc ms (va_A w sz)
def txV (l : Launch) (D : va_G) (cl : List vw_C) (tys : List (ClassId × FieldType)) (zz : (Nat → Prop) → State → Heap → Prop) (y : MethodName) (ws : List Cond) (rm : Room) (av : List Value) (w : va_W) (code : Nat) (w' : va_W) (mc ms : Nat) : Prop :=
  ∀ sz : Nat, vx_Met l y ws rm (va_Pc av (ppW D cl tys zz w sz)) (xqV D cl tys w' code (va_A w sz)) (xxX D cl tys w' code (va_A w sz)) mc ms (va_A w sz)
section KX
variable {p : Program} {l : Launch} {e : Env} {R : Room} {s : State} {m : MethodId} {args : Array Value} {below : List Frame} {meth : Method} {c : Code} {H : Heap} {locs : List Loc} {cells slots : Nat} {Q : State → Prop}
variable {D : va_G} {cl : List vw_C} {tys : List (ClassId × FieldType)} {zz : (Nat → Prop) → State → Heap → Prop} {A : Nat → Prop} {w w' : va_W} {r : Int32} {code mc ms : Nat}
variable {y : MethodName} {bytes cc : ByteArray} {maxL nL n index pc : Nat} {ret : Option FieldType} {ws Ts : List Cond} {rm : Room} {own C host : String} {b : Addr} {As rest st0 : List Value} {ls : Array Slot}
theorem kx_callVi (hzz : Zok zz) (S : CallFix p m c cc nL s args Ts own) (hM : txI l D cl tys zz y ws rm (.ref b :: As) w code r w' mc ms) (cw : CallW R s args own C index y bytes maxL ret ws rm mc ms n) (hrv : ∃ cellB : Cell, H[b]? = some cellB ∧ cellB.vm.isStatics = false ∧ s.vm.findClass C = some cellB.cls)
    (hn : As.length = n) (hsize : ls.size = nL) (hst : st0 = As.reverse ++ .ref b :: rest) (hW : 2 * (F0 m pc ls st0).monitorRoom + (rest.map fun v => v.category).sum ≤ 8) (hdg : decode cc pc = .ok (.invokevirtual index, 3)) (hf : cells + mc ≤ R.cells ∧ slots + ms ≤ R.slots)
    (hP : va_P D cl w H) (hK : va_K D cl tys s) (hD : va_D A w) (hS : va_S A s.heap H locs) (hA : ∀ q : Nat, s.heap.size ≤ q → A q) (hZ : zz A s s.heap)
    (kx : ¬ code = 0 → ∀ (ce : Cell) (q9 : Addr) (H1 : Heap) (locs1 : List Loc), va_P D cl w' H1 → va_D A w' → va_S A s.heap H1 locs1 → H1[q9]? = some ce → ce.vm = .none → s.vm.findClass (xnm code) = some ce.cls → vx_W p l e R s m args below meth c H1 locs1 (cells + mc) (slots + ms) Q (F0 m pc ls rest) q9)
    (kk : code = 0 → ∀ (H1 : Heap) (locs1 : List Loc), va_P D cl w' H1 → va_D A w' → va_S A s.heap H1 locs1 → W p l e R s m args below meth c H1 locs1 (cells + mc) (slots + ms) Q (F0 m (pc + 3) ls (.int r :: rest))) :
    W p l e R s m args below meth c H locs cells slots Q (F0 m pc ls st0) := by
  have hFc := k_sub hD hS hA
  refine vx_calli (vx_runV (As := As) (rest := rest) S (hM H.size) cw ⟨k_blind hzz, hrv, k_pre hzz hP hK hD hS hA hZ⟩ rfl hn hsize hst hW hdg hf) hS (fun q _ h => hFc q h) hFc (fun q _ h => hFc q h) (fun E ce q9 u t H1 locs1 ht hvm hpx hB hz1 hk1 hS1 hce hcv hcl => ?_) (fun r1 u1 t H1 locs1 ht hvm hw hB hz1 hk1 hS1 => ?_)
  · obtain ⟨eE, hP1, hK1, hD1⟩ := hB
    rw [ht] at hP1
    subst eE
    exact kx hpx ce q9 H1 locs1 hP1 (hD1.weaken (fun _ _ _ h => hFc _ h)) hS1 hce hcv hcl
  · obtain ⟨hP1, hK1, hD1⟩ := hB
    rw [ht] at hP1
    obtain ⟨hw, hc⟩ := hw
    subst hw
    exact kk hc H1 locs1 hP1 (hD1.weaken (fun _ _ _ h => hFc _ h)) hS1
theorem kx_callVv (hzz : Zok zz) (S : CallFix p m c cc nL s args Ts own) (hM : txV l D cl tys zz y ws rm (.ref b :: As) w code w' mc ms) (cw : CallW R s args own C index y bytes maxL ret ws rm mc ms n) (hrv : ∃ cellB : Cell, H[b]? = some cellB ∧ cellB.vm.isStatics = false ∧ s.vm.findClass C = some cellB.cls)
    (hn : As.length = n) (hsize : ls.size = nL) (hst : st0 = As.reverse ++ .ref b :: rest) (hW : 2 * (F0 m pc ls st0).monitorRoom + (rest.map fun v => v.category).sum ≤ 8) (hdg : decode cc pc = .ok (.invokevirtual index, 3)) (hf : cells + mc ≤ R.cells ∧ slots + ms ≤ R.slots)
    (hP : va_P D cl w H) (hK : va_K D cl tys s) (hD : va_D A w) (hS : va_S A s.heap H locs) (hA : ∀ q : Nat, s.heap.size ≤ q → A q) (hZ : zz A s s.heap)
    (kx : ¬ code = 0 → ∀ (ce : Cell) (q9 : Addr) (H1 : Heap) (locs1 : List Loc), va_P D cl w' H1 → va_D A w' → va_S A s.heap H1 locs1 → H1[q9]? = some ce → ce.vm = .none → s.vm.findClass (xnm code) = some ce.cls → vx_W p l e R s m args below meth c H1 locs1 (cells + mc) (slots + ms) Q (F0 m pc ls rest) q9)
    (kk : code = 0 → ∀ (H1 : Heap) (locs1 : List Loc), va_P D cl w' H1 → va_D A w' → va_S A s.heap H1 locs1 → W p l e R s m args below meth c H1 locs1 (cells + mc) (slots + ms) Q (F0 m (pc + 3) ls rest)) :
    W p l e R s m args below meth c H locs cells slots Q (F0 m pc ls st0) := by
  have hFc := k_sub hD hS hA
  refine vx_callv (vx_runV (As := As) (rest := rest) S (hM H.size) cw ⟨k_blind hzz, hrv, k_pre hzz hP hK hD hS hA hZ⟩ rfl hn hsize hst hW hdg hf) hS (fun q _ h => hFc q h) hFc (fun q _ h => hFc q h) (fun E ce q9 u t H1 locs1 ht hvm hpx hB hz1 hk1 hS1 hce hcv hcl => ?_) (fun u1 t H1 locs1 ht hvm hw hB hz1 hk1 hS1 => ?_)
  · obtain ⟨eE, hP1, hK1, hD1⟩ := hB
    rw [ht] at hP1
    subst eE
    exact kx hpx ce q9 H1 locs1 hP1 (hD1.weaken (fun _ _ _ h => hFc _ h)) hS1 hce hcv hcl
  · obtain ⟨hP1, hK1, hD1⟩ := hB
    rw [ht] at hP1
    exact kk hw H1 locs1 hP1 (hD1.weaken (fun _ _ _ h => hFc _ h)) hS1
theorem kx_callSv (hzz : Zok zz) (S : CallFix p m c cc nL s args Ts own) (hM : txV l D cl tys zz y ws rm As w code w' mc ms) (cw : CallB R s args own index y bytes maxL ret ws rm mc ms n ∧ (Cond.static y).before args s = true)
    (hn : As.length = n) (hsize : ls.size = nL) (hst : st0 = As.reverse ++ rest) (hW : 2 * (F0 m pc ls st0).monitorRoom + (rest.map fun v => v.category).sum ≤ 8) (hdg : decode cc pc = .ok (.invokestatic index, 3)) (hf : cells + mc ≤ R.cells ∧ slots + ms ≤ R.slots)
    (hP : va_P D cl w H) (hK : va_K D cl tys s) (hD : va_D A w) (hS : va_S A s.heap H locs) (hA : ∀ q : Nat, s.heap.size ≤ q → A q) (hZ : zz A s s.heap)
    (kx : ¬ code = 0 → ∀ (ce : Cell) (q9 : Addr) (H1 : Heap) (locs1 : List Loc), va_P D cl w' H1 → va_D A w' → va_S A s.heap H1 locs1 → H1[q9]? = some ce → ce.vm = .none → s.vm.findClass (xnm code) = some ce.cls → vx_W p l e R s m args below meth c H1 locs1 (cells + mc) (slots + ms) Q (F0 m pc ls rest) q9)
    (kk : code = 0 → ∀ (H1 : Heap) (locs1 : List Loc), va_P D cl w' H1 → va_D A w' → va_S A s.heap H1 locs1 → W p l e R s m args below meth c H1 locs1 (cells + mc) (slots + ms) Q (F0 m (pc + 3) ls rest)) :
    W p l e R s m args below meth c H locs cells slots Q (F0 m pc ls st0) := by
  have hFc := k_sub hD hS hA
  refine vx_callv (vx_runS (As := As) (rest := rest) S (hM H.size) cw ⟨k_blind hzz, k_pre hzz hP hK hD hS hA hZ⟩ rfl hn hsize hst hW hdg hf) hS (fun q _ h => hFc q h) hFc (fun q _ h => hFc q h) (fun E ce q9 u t H1 locs1 ht hvm hpx hB hz1 hk1 hS1 hce hcv hcl => ?_) (fun u1 t H1 locs1 ht hvm hw hB hz1 hk1 hS1 => ?_)
  · obtain ⟨eE, hP1, hK1, hD1⟩ := hB
    rw [ht] at hP1
    subst eE
    exact kx hpx ce q9 H1 locs1 hP1 (hD1.weaken (fun _ _ _ h => hFc _ h)) hS1 hce hcv hcl
  · obtain ⟨hP1, hK1, hD1⟩ := hB
    rw [ht] at hP1
    exact kk hw H1 locs1 hP1 (hD1.weaken (fun _ _ _ h => hFc _ h)) hS1
end KX
end
section
/-! constructors: fresh cells come, at addresses that the contract names; array classes are the ones known at the start -/
theorem k_arr {args : Array Value} {s : State} {ty : FieldType} (h : (Cond.arrayClass ty).before args s = true) : ∃ cA : ClassId, ArrOfT s cA ty ∧ s.vm.findClass ("[" ++ ty.toString) = some cA := by
  obtain ⟨cA, kA, comp, h1, h2, h3⟩ := Cond.arrayClass_spec h
  exact ⟨cA, fun n z => ⟨fun k h => (by cases h), kA, h2, comp, h3⟩, h1⟩
/-- the constructor's own cells w become W' a, for some addresses a -/
def tcN (l : Launch) (D : va_G) (cl : List vw_C) (tys : List (ClassId × FieldType)) (zz : (Nat → Prop) → State → Heap → Prop) (y : MethodName) (ws : List Cond) (rm : Room) (av : List Value) (w : va_W) (W' : (Nat → Nat) → va_W) (mc ms : Nat) : Prop :=
  ∀ sz : Nat, Met l y ws rm (va_Pc av (ppW D cl tys zz w sz)) (va_Qv (fun (_ : Nat → Nat) => True) (fun a t => va_P D cl (W' a) t.heap ∧ va_K D cl tys t ∧ va_D (va_A w sz) (W' a)) (va_A w sz)) mc ms (va_A w sz)
section KN
variable {p : Program} {l : Launch} {e : Env} {R : Room} {s : State} {m : MethodId} {args : Array Value} {below : List Frame} {meth : Method} {c : Code} {H : Heap} {locs : List Loc} {cells slots : Nat} {Q : State → Prop}
variable {D : va_G} {cl : List vw_C} {tys : List (ClassId × FieldType)} {zz : (Nat → Prop) → State → Heap → Prop} {A : Nat → Prop} {w w' wr : va_W} {r : Int32} {mc ms : Nat}
variable {y : MethodName} {bytes cc : ByteArray} {maxL nL n index pc : Nat} {ret : Option FieldType} {ws Ts : List Cond} {rm : Room} {own C host : String} {b : Addr} {As rest st0 : List Value} {ls : Array Slot}
theorem k_newa (hexec : p.tables.exec = Jvm.exec) (hb : c.code = cc) {atype : ArrayType} {ty : FieldType} (harr : (Cond.arrayClass ty).before args s = true) (hty : newarray.typeOf atype = ty) (hra : ∀ (U : State) (cA : ClassId), va_RA U cA ty = (U.vm.findClass ("[" ++ ty.toString) = some cA)) (t0 : Nat) {cI : ClassId} (ht : tys[t0]? = some (cI, ty))
    (hK : va_K D cl tys s) (hP : va_P D cl w H) (hD : va_D A w) (hS : va_S A s.heap H locs) (hA : ∀ q : Nat, s.heap.size ≤ q → A q)
    {k : Int32} {N' : Nat} {a0 : vp_A} (ha : ∀ cA : ClassId, vp_cell cA a0 = arrV cA N' (fun _ => defaultValue ty)) (hn : ¬ k < 0) (hN : k.toNatClampNeg = N') (hbytes : N' * componentBytes ty ≤ 536870912) (hcells : cells + 1 ≤ R.cells) (hslots : slots + N' ≤ R.slots) (hdg : decode cc pc = .ok (.newarray atype, 2))
    (kk : ∀ (q : Nat) (H1 : Heap), va_P D cl (w ++ [(q, .inl (cI, a0))]) H1 → va_D A (w ++ [(q, .inl (cI, a0))]) → va_S A s.heap H1 locs →
      W p l e R s m args below meth c H1 locs (cells + 1) (slots + N') Q (F0 m (pc + 2) ls (.ref q :: rest))) : W p l e R s m args below meth c H locs cells slots Q (F0 m pc ls (.int k :: rest)) := by
  refine va_newa hexec hb (by rw [hty]; exact harr) hty hK hP hD hS hA ha hn hN hbytes hcells hslots hdg (fun q cA H1 hK1 hP1 hD1 hS1 => ?_)
  have h1 := (hK1.2 tys.length (cA, ty) (by simp)).2
  have h2 := (hK.2 t0 (cI, ty) ht).2
  rw [hra] at h1 h2
  have e9 : cA = cI := Option.some.inj (h1.symm.trans h2)
  subst e9
  exact kk q H1 hP1 hD1 hS1
theorem k_subr (hD : va_D A (wr ++ w)) (hS : va_S A s.heap H locs) (hA : ∀ q : Nat, s.heap.size ≤ q → A q) : ∀ q, va_A w H.size q → A q := by
  intro q hq
  rcases hq with ⟨k, e, hk⟩ | hq
  · exact hD.2 (wr.length + k) _ (by rw [List.getElem?_append_right (Nat.le_add_right _ _), Nat.add_sub_cancel_left]; exact hk)
  · exact hA q (Nat.le_trans hS.1 hq)
theorem k_Pr (hP : va_P D cl (wr ++ w) H) : va_P D cl w H := fun k q hk => hP (wr.length + k) q (by rw [List.getElem?_append_right (Nat.le_add_right _ _), Nat.add_sub_cancel_left]; exact hk)
theorem k_lt {L1 L2 : va_W} {k : Nat} {q : Nat × va_E} (hk : L1[k]? = some q) : (L1 ++ L2)[k]? = some q := by
  have h := (List.getElem?_eq_some_iff.mp hk).1
  rw [List.getElem?_append_left h]
  exact hk
theorem k_Pl (hP : va_P D cl (wr ++ w) H) : va_P D cl wr H := fun k q hk => hP k q (k_lt hk)
theorem k_Dr (hD : va_D A (wr ++ w)) : va_D A w := by
  refine ⟨fun i j p q hi hj h => ?_, fun k q hk => hD.2 (wr.length + k) q (by rw [List.getElem?_append_right (Nat.le_add_right _ _), Nat.add_sub_cancel_left]; exact hk)⟩
  have := hD.1 (wr.length + i) (wr.length + j) p q (by rw [List.getElem?_append_right (Nat.le_add_right _ _), Nat.add_sub_cancel_left]; exact hi) (by rw [List.getElem?_append_right (Nat.le_add_right _ _), Nat.add_sub_cancel_left]; exact hj) h
  omega
theorem k_Dl (hD : va_D A (wr ++ w)) : va_D A wr := ⟨fun i j p q hi hj h => hD.1 i j p q (k_lt hi) (k_lt hj) h, fun k q hk => hD.2 k q (k_lt hk)⟩
/-- what a callee did to its own cells w, beside the rest wr -/
theorem k_frame {H1 : Heap} (hP : va_P D cl (wr ++ w) H) (hD : va_D A (wr ++ w)) (hF : ∀ q, va_A w H.size q → A q) (hk : ∀ q : Nat, q < H.size → ¬ va_A w H.size q → H1[q]? = H[q]?) (hP1 : va_P D cl w' H1) (hD1 : va_D (va_A w H.size) w') : va_P D cl (wr ++ w') H1 ∧ va_D A (wr ++ w') := by
  have hout : ∀ (k : Nat) (q : Nat × va_E), wr[k]? = some q → q.1 < H.size ∧ ¬ va_A w H.size q.1 := by
    intro k q hq
    have h1 : q.1 < H.size := (k_Pl hP k q hq).lt
    refine ⟨h1, ?_⟩
    rintro (⟨j, e, hj⟩ | h)
    · have h2 := hD.1 k (wr.length + j) q (q.1, e) (k_lt hq) (by rw [List.getElem?_append_right (Nat.le_add_right _ _), Nat.add_sub_cancel_left]; exact hj) rfl
      have h3 := (List.getElem?_eq_some_iff.mp hq).1
      omega
    · omega
  refine ⟨((k_Pl hP).kept (fun k q hq => hk q.1 (hout k q hq).1 (hout k q hq).2)).app hP1, (k_Dl hD).app (hD1.weaken (fun _ _ _ h => hF _ h)) ?_⟩
  intro i j p q hi hj h
  have h1 := (hout i p hi).2
  rw [h] at h1
  exact h1 (hD1.2 j q hj)
theorem k_init (hzz : Zok zz) {W' : (Nat → Nat) → va_W} (hrun : va_Run p l e R s m args below meth c H locs cells slots mc ms (F0 m pc ls st0) rest (va_Qv (fun (_ : Nat → Nat) => True) (fun a t => va_P D cl (W' a) t.heap ∧ va_K D cl tys t ∧ va_D (va_A w H.size) (W' a)) (va_A w H.size) (Value.ref b :: As).toArray) (va_A w H.size))
    (hP : va_P D cl (wr ++ w) H) (hD : va_D A (wr ++ w)) (hS : va_S A s.heap H locs) (hA : ∀ q : Nat, s.heap.size ≤ q → A q)
    (kk : ∀ (a : Nat → Nat) (H1 : Heap) (locs1 : List Loc), va_P D cl (wr ++ W' a) H1 → va_D A (wr ++ W' a) → va_S A s.heap H1 locs1 → W p l e R s m args below meth c H1 locs1 (cells + mc) (slots + ms) Q (F0 m (pc + 3) ls rest)) :
    W p l e R s m args below meth c H locs cells slots Q (F0 m pc ls st0) := by
  have hFc := k_subr (wr := wr) hD hS hA
  refine va_callv hrun hS (fun q _ h => hFc q h) hFc (fun a t H1 locs1 ht hvm hw hB hz1 hk1 hS1 => ?_)
  obtain ⟨hP1, hK1, hD1⟩ := hB
  rw [ht] at hP1
  obtain ⟨hP2, hD2⟩ := k_frame hP hD hFc hk1 hP1 hD1
  exact kk a H1 locs1 hP2 hD2 hS1
end KN
end
section
/-! worlds in any order, and calls whose callee knows a part of the world only -/
theorem k_P_iff {D : va_G} {cl : List vw_C} {ws : va_W} {H : Heap} : va_P D cl ws H ↔ ∀ q ∈ ws, va_at D cl q H := by
  constructor
  · intro h q hq
    obtain ⟨k, hk⟩ := List.mem_iff_getElem?.mp hq
    exact h k q hk
  · intro h k q hk
    exact h q (List.mem_of_getElem? hk)
theorem k_D_iff {A : Nat → Prop} {ws : va_W} : va_D A ws ↔ ws.Pairwise (fun p q => p.1 ≠ q.1) ∧ ∀ q ∈ ws, A q.1 := by
  constructor
  · rintro ⟨h1, h2⟩
    refine ⟨List.pairwise_iff_getElem.mpr (fun i j hi hj hij h => ?_), fun q hq => ?_⟩
    · have h3 := h1 i j _ _ (List.getElem?_eq_getElem hi) (List.getElem?_eq_getElem hj) h
      omega
    · obtain ⟨k, hk⟩ := List.mem_iff_getElem?.mp hq
      exact h2 k q hk
  · rintro ⟨h1, h2⟩
    have h3 := List.pairwise_iff_getElem.mp h1
    refine ⟨fun i j p q hi hj h => ?_, fun k q hk => h2 q (List.mem_of_getElem? hk)⟩
    obtain ⟨ai, rfl⟩ := List.getElem?_eq_some_iff.mp hi
    obtain ⟨aj, rfl⟩ := List.getElem?_eq_some_iff.mp hj
    rcases Nat.lt_trichotomy i j with c | c | c
    · exact absurd h (h3 i j ai aj c)
    · exact c
    · exact absurd h.symm (h3 j i aj ai c)
theorem k_P_perm {D : va_G} {cl : List vw_C} {ws ws' : va_W} {H : Heap} (hp : ws.Perm ws') (h : va_P D cl ws H) : va_P D cl ws' H := k_P_iff.mpr (fun q hq => k_P_iff.mp h q (hp.mem_iff.mpr hq))
theorem k_D_perm {A : Nat → Prop} {ws ws' : va_W} (hp : ws.Perm ws') (h : va_D A ws) : va_D A ws' := by
  obtain ⟨h1, h2⟩ := k_D_iff.mp h
  exact k_D_iff.mpr ⟨(hp.pairwise_iff (fun h => Ne.symm h)).mp h1, fun q hq => h2 q (hp.mem_iff.mpr hq)⟩
end
