/-! what a throw of the class needs: the words of the exceptions' constructors, the texts, two statics of Throwable -/
def xEN : List String := ["java/lang/RuntimeException", "java/lang/Exception"]
abbrev xat1 : List Cond := vx_atS RX3 46 "java/lang/IllegalArgumentException" xEN
def xB1 : List Cond := [.castable "java/lang/IllegalArgumentException" "java/lang/IllegalArgumentException", .declares ⟨"java/lang/RuntimeException", "<init>", "(Ljava/lang/String;)V"⟩, .declares ⟨"java/lang/Exception", "<init>", "(Ljava/lang/String;)V"⟩, .declares ⟨"java/lang/Throwable", "<init>", "(Ljava/lang/String;)V"⟩]
theorem xf1 : ∀ w ∈ xat1.filter (fun w => !goodWord w), w ∈ xB1 := by decide +kernel
theorem xgd1 : ∀ w ∈ xat1.filter goodWord, w ∈ tbG := by decide +kernel
theorem xgood1 : ∀ w ∈ Cond.classLink RX3 42 "java/lang/IllegalArgumentException" :: Cond.initialized "java/lang/IllegalArgumentException" :: vx_atS RX3 46 "java/lang/IllegalArgumentException" xEN, vx_ot w = true := by decide +kernel
abbrev xat2 : List Cond := vx_atS RX3 74 "java/lang/IllegalStateException" xEN
def xB2 : List Cond := [.castable "java/lang/IllegalStateException" "java/lang/IllegalStateException", .declares ⟨"java/lang/RuntimeException", "<init>", "(Ljava/lang/String;)V"⟩, .declares ⟨"java/lang/Exception", "<init>", "(Ljava/lang/String;)V"⟩, .declares ⟨"java/lang/Throwable", "<init>", "(Ljava/lang/String;)V"⟩]
theorem xf2 : ∀ w ∈ xat2.filter (fun w => !goodWord w), w ∈ xB2 := by decide +kernel
theorem xgd2 : ∀ w ∈ xat2.filter goodWord, w ∈ tbG := by decide +kernel
theorem xgood2 : ∀ w ∈ Cond.classLink RX3 70 "java/lang/IllegalStateException" :: Cond.initialized "java/lang/IllegalStateException" :: vx_atS RX3 74 "java/lang/IllegalStateException" xEN, vx_ot w = true := by decide +kernel
abbrev xat3 : List Cond := vx_atS RX3 93 "java/util/NoSuchElementException" xEN
def xB3 : List Cond := [.castable "java/util/NoSuchElementException" "java/util/NoSuchElementException", .declares ⟨"java/lang/RuntimeException", "<init>", "(Ljava/lang/String;)V"⟩, .declares ⟨"java/lang/Exception", "<init>", "(Ljava/lang/String;)V"⟩, .declares ⟨"java/lang/Throwable", "<init>", "(Ljava/lang/String;)V"⟩]
def xnw : List Cond := xB1 ++ (xB2 ++ xB3)
theorem xnw_ot : ∀ w ∈ xnw, w.onTables = true := by decide +kernel
theorem xBok1 {args : Array Value} {s : State} (h : ∀ w ∈ xnw, va_Nw w s) : ∀ w ∈ xB1, w.before args s = true := fun w hw => va_Nw.use (xnw_ot w (List.mem_append_left _ hw)) (h w (List.mem_append_left _ hw))
theorem xBok2 {args : Array Value} {s : State} (h : ∀ w ∈ xnw, va_Nw w s) : ∀ w ∈ xB2, w.before args s = true := fun w hw => va_Nw.use (xnw_ot w (List.mem_append_right _ (List.mem_append_left _ hw))) (h w (List.mem_append_right _ (List.mem_append_left _ hw)))
theorem xBok3 {args : Array Value} {s : State} (h : ∀ w ∈ xnw, va_Nw w s) : ∀ w ∈ xB3, w.before args s = true := fun w hw => va_Nw.use (xnw_ot w (List.mem_append_right _ (List.mem_append_right _ hw))) (h w (List.mem_append_right _ (List.mem_append_right _ hw)))
theorem xhat1 {a : Cond} {args : Array Value} {s : State} (hts : ∀ w ∈ a :: tbG, w.before args s = true) (h : ∀ w ∈ xnw, va_Nw w s) : ∀ w ∈ vx_atS RX3 46 "java/lang/IllegalArgumentException" xEN, w.before args s = true := vx_hat (L := vx_atS RX3 46 "java/lang/IllegalArgumentException" xEN) (B := xB1) (fun w hw => hts w (tb_c (xgd1 w hw))) xf1 (xBok1 h)
theorem xhat2 {a : Cond} {args : Array Value} {s : State} (hts : ∀ w ∈ a :: tbG, w.before args s = true) (h : ∀ w ∈ xnw, va_Nw w s) : ∀ w ∈ vx_atS RX3 74 "java/lang/IllegalStateException" xEN, w.before args s = true := vx_hat (L := vx_atS RX3 74 "java/lang/IllegalStateException" xEN) (B := xB2) (fun w hw => hts w (tb_c (xgd2 w hw))) xf2 (xBok2 h)
theorem xfit : ∀ n ∈ xEN, Bundle.fit n = true := by decide +kernel
theorem xfit1 : Bundle.fit "java/lang/IllegalArgumentException" = true := by decide +kernel
theorem xfit2 : Bundle.fit "java/lang/IllegalStateException" = true := by decide +kernel
theorem xfit3 : Bundle.fit "java/util/NoSuchElementException" = true := by decide +kernel
def xstr : List (Nat × String) := [(101, "no such place"), (112, "there is no image"), (117, "no such number of halfwords"), (122, "the machine does not run"), (134, "the machine is off"), (145, "no such output"), (150, "the program is full"), (155, "no such variable"), (157, "no such target"), (159, "no such word of memory"), (44, "no such operation"), (56, "no such relation"), (58, "no such stop"), (72, "the program is not whole"), (91, "no such halfword")]
def Zxs (zz : (Nat → Prop) → State → Heap → Prop) : Prop := ∀ (A : Nat → Prop) (U : State) (H : Heap), zz A U H →
  vx_Zq Bundle.tN "UNASSIGNED_STACK" Bundle.steD A U H ∧ vx_Zq Bundle.tN "SUPPRESSED_SENTINEL" Bundle.listD A U H ∧ (∀ q ∈ xstr, ∃ sa : Nat, vk_R RX3 q.1 q.2 sa U) ∧ ∀ w ∈ xnw, va_Nw w U
