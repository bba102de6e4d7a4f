/-! the shape of the contracts: a world of cells in, the same cells at the same addresses out; facts of statics beside it -/
abbrev St : Type := (Nat → Int32) × (Nat → Nat → Int32)
/-- a field set, an element of a row set -/
def sS (u : St) (k : Nat) (v : Int32) : St := (va_up u.1 k v, u.2)
def sA (u : St) (k : Nat) (i v : Int32) : St := (u.1, va_up u.2 k (upd (u.2 k) i.toNatClampNeg v))
def ush (x y : Int32) : Int32 := (x.toUInt32 >>> (y.toUInt32 &&& Int32.toUInt32 31)).toInt32
/-- a boolean -/
def isb (x : Int32) : Prop := x = 0 ∨ x = 1
theorem isb_n {x : Int32} (h : isb x) : narrow .boolean (.int x) = .int x := by rcases h with rfl | rfl <;> rfl
/-- facts of old cells that stay: they go with the classes, the heap outside A, and a smaller A -/
def Zok (zz : (Nat → Prop) → State → Heap → Prop) : Prop :=
  (∀ (A : Nat → Prop) (u U : State) (H : Heap), u.WarmedH U.vm → zz A u H → zz A U H) ∧
  (∀ (A : Nat → Prop) (U : State) (H H1 : Heap), zz A U H → (∀ a : Nat, a < H.size → ¬ A a → H1[a]? = H[a]?) → zz A U H1) ∧
  (∀ (A B : Nat → Prop) (U : State) (H : Heap), zz A U H → (∀ q, B q → A q) → zz B U H)
abbrev qqI (D : va_G) (cl : List vw_C) (tys : List (ClassId × FieldType)) (w' : va_W) (r : Int32) (A : Nat → Prop) : Array Value → State → Outcome → State → Prop :=
  va_Qi (fun (r2 : Int32) (_ : Unit) => r2 = r) (fun _ t => va_P D cl w' t.heap ∧ va_K D cl tys t ∧ va_D A w') A
abbrev qqV (D : va_G) (cl : List vw_C) (tys : List (ClassId × FieldType)) (w' : va_W) (A : Nat → Prop) : Array Value → State → Outcome → State → Prop :=
  va_Qv (fun (_ : Unit) => True) (fun _ t => va_P D cl w' t.heap ∧ va_K D cl tys t ∧ va_D A w') A
abbrev ppW (D : va_G) (cl : List vw_C) (tys : List (ClassId × FieldType)) (zz : (Nat → Prop) → State → Heap → Prop) (w : va_W) (sz : Nat) : State → Prop := fun U =>
  U.heap.size = sz ∧ va_P D cl w U.heap ∧ va_K D cl tys U ∧ va_D (fun _ => True) w ∧ zz (va_A w sz) U U.heap
/-- the method answers r, and the cells w become w' -/
def tfI (l : Launch) (D : va_G) (cl : List vw_C) (tys : List (ClassId × FieldType)) (zz : (Nat → Prop) → State → Heap → Prop) (y : MethodName) (ws : List Cond) (rm : Room) (av : List Value) (w : va_W) (r : Int32) (w' : va_W) : Prop :=
  ∀ sz : Nat, Met l y ws rm (va_Pc av (ppW D cl tys zz w sz)) (qqI D cl tys w' r (va_A w sz)) 0 0 (va_A w sz)
def tfV (l : Launch) (D : va_G) (cl : List vw_C) (tys : List (ClassId × FieldType)) (zz : (Nat → Prop) → State → Heap → Prop) (y : MethodName) (ws : List Cond) (rm : Room) (av : List Value) (w : va_W) (w' : va_W) : Prop :=
  ∀ sz : Nat, Met l y ws rm (va_Pc av (ppW D cl tys zz w sz)) (qqV D cl tys w' (va_A w sz)) 0 0 (va_A w sz)
/-- what stays the same along a walk -/
def cxt (p : Program) (s : State) (m : MethodId) (args : Array Value) (meth : Method) (c : Code) (cc : ByteArray) (maxL : Nat) (ret : Option FieldType) (ws : List Cond) (own : String) (D : va_G) (cl : List vw_C) (tys : List (ClassId × FieldType)) (zz : (Nat → Prop) → State → Heap → Prop) (A : Nat → Prop) : Prop :=
  p.tables.exec = Jvm.exec ∧ c.code = cc ∧ meth.sig.returnType = ret ∧ (∀ w ∈ ws, w.before args s = true) ∧ s.vm.findClass own = some m.cls ∧ meth.locks = false ∧ c.maxLocals = maxL ∧ va_K D cl tys s ∧ (∀ q : Nat, s.heap.size ≤ q → A q) ∧ zz A s s.heap
section KC
variable {p : Program} {l : Launch} {e : Env} {R : Room} {s : State} {m : MethodId} {args : Array Value} {below : List Frame} {meth : Method} {c : Code} {H : Heap} {locs : List Loc} {cells slots : Nat} {Q : State → Prop}
variable {D : va_G} {cl : List vw_C} {tys : List (ClassId × FieldType)} {zz : (Nat → Prop) → State → Heap → Prop} {A : Nat → Prop} {w w' : va_W} {r : Int32}
variable {y : MethodName} {bytes cc : ByteArray} {maxL nL n index pc : Nat} {ret : Option FieldType} {ws Ts : List Cond} {rm : Room} {own C host : String} {b : Addr} {As rest st0 : List Value} {ls : Array Slot}
theorem k_sub (hD : va_D A w) (hS : va_S A s.heap H locs) (hA : ∀ q : Nat, s.heap.size ≤ q → A q) : ∀ q, va_A w H.size q → A q := by
  intro q hq
  rcases hq with ⟨k, e, hk⟩ | hq
  · exact hD.2 k _ hk
  · exact hA q (Nat.le_trans hS.1 hq)
theorem k_blind (hzz : Zok zz) {av : List Value} {sz : Nat} : FrameBlind (va_Pc av (ppW D cl tys zz w sz)) := by
  intro a U g mk q
  obtain ⟨q0, q1, qP, qK, qD, qZ⟩ := q
  exact ⟨q0, q1, qP, va_K.moved (u := U) (U := U.calling g mk a) (Vm.Alike.refl U.vm) qK, qD, hzz.1 _ U (U.calling g mk a) _ (State.WarmedH.refl U) qZ⟩
theorem k_pre (hzz : Zok zz) (hP : va_P D cl w H) (hK : va_K D cl tys s) (hD : va_D A w) (hS : va_S A s.heap H locs) (hA : ∀ q : Nat, s.heap.size ≤ q → A q) (hZ : zz A s s.heap) {av : List Value} :
    ∀ U : State, U.heap = H → s.WarmedH U.vm → va_Pc av (ppW D cl tys zz w H.size) av.toArray U := by
  intro U hU hWm
  refine ⟨rfl, by rw [hU], by rw [hU]; exact hP, va_K.moved hWm.alike hK, hD.weaken (fun _ _ _ _ => trivial), ?_⟩
  rw [hU]
  exact hzz.2.2 A _ U H (hzz.1 A s U H hWm (hzz.2.1 A s s.heap H hZ hS.2.1)) (k_sub hD hS hA)
theorem k_callVi (hzz : Zok zz) (S : CallFix p m c cc nL s args Ts own) (hM : tfI l D cl tys zz y ws rm (.ref b :: As) w r w') (cw : CallW R s args own C index y bytes maxL ret ws rm 0 0 n) (hrv : ∃ cellB : Cell, H[b]? = some cellB ∧ cellB.vm.isStatics = false ∧ s.vm.findClass C = some cellB.cls)
    (hn : As.length = n) (hsize : ls.size = nL) (hst : st0 = As.reverse ++ .ref b :: rest) (hW : 2 * (F0 m pc ls st0).monitorRoom + (rest.map fun v => v.category).sum ≤ 8) (hdg : decode cc pc = .ok (.invokevirtual index, 3)) (hf : cells + 0 ≤ R.cells ∧ slots + 0 ≤ R.slots)
    (hP : va_P D cl w H) (hK : va_K D cl tys s) (hD : va_D A w) (hS : va_S A s.heap H locs) (hA : ∀ q : Nat, s.heap.size ≤ q → A q) (hZ : zz A s s.heap)
    (kk : ∀ (H1 : Heap) (locs1 : List Loc), va_P D cl w' H1 → va_D A w' → va_S A s.heap H1 locs1 → W p l e R s m args below meth c H1 locs1 cells slots Q (F0 m (pc + 3) ls (.int r :: rest))) :
    W p l e R s m args below meth c H locs cells slots Q (F0 m pc ls st0) := by
  have hFc := k_sub hD hS hA
  refine va_calli (va_runV (As := As) (rest := rest) S (hM H.size) cw ⟨k_blind hzz, hrv, k_pre hzz hP hK hD hS hA hZ⟩ rfl hn hsize hst hW hdg hf) hS (fun q _ h => hFc q h) hFc (fun r1 u1 t H1 locs1 ht hvm hw hB hz1 hk1 hS1 => ?_)
  obtain ⟨hP1, hK1, hD1⟩ := hB
  rw [ht] at hP1
  subst hw
  exact kk H1 locs1 hP1 (hD1.weaken (fun _ _ _ h => hFc _ h)) hS1
theorem k_callVv (hzz : Zok zz) (S : CallFix p m c cc nL s args Ts own) (hM : tfV l D cl tys zz y ws rm (.ref b :: As) w w') (cw : CallW R s args own C index y bytes maxL ret ws rm 0 0 n) (hrv : ∃ cellB : Cell, H[b]? = some cellB ∧ cellB.vm.isStatics = false ∧ s.vm.findClass C = some cellB.cls)
    (hn : As.length = n) (hsize : ls.size = nL) (hst : st0 = As.reverse ++ .ref b :: rest) (hW : 2 * (F0 m pc ls st0).monitorRoom + (rest.map fun v => v.category).sum ≤ 8) (hdg : decode cc pc = .ok (.invokevirtual index, 3)) (hf : cells + 0 ≤ R.cells ∧ slots + 0 ≤ R.slots)
    (hP : va_P D cl w H) (hK : va_K D cl tys s) (hD : va_D A w) (hS : va_S A s.heap H locs) (hA : ∀ q : Nat, s.heap.size ≤ q → A q) (hZ : zz A s s.heap)
    (kk : ∀ (H1 : Heap) (locs1 : List Loc), va_P D cl w' H1 → va_D A w' → va_S A s.heap H1 locs1 → W p l e R s m args below meth c H1 locs1 cells slots Q (F0 m (pc + 3) ls rest)) :
    W p l e R s m args below meth c H locs cells slots Q (F0 m pc ls st0) := by
  have hFc := k_sub hD hS hA
  refine va_callv (va_runV (As := As) (rest := rest) S (hM H.size) cw ⟨k_blind hzz, hrv, k_pre hzz hP hK hD hS hA hZ⟩ rfl hn hsize hst hW hdg hf) hS (fun q _ h => hFc q h) hFc (fun u1 t H1 locs1 ht hvm hw hB hz1 hk1 hS1 => ?_)
  obtain ⟨hP1, hK1, hD1⟩ := hB
  rw [ht] at hP1
  exact kk H1 locs1 hP1 (hD1.weaken (fun _ _ _ h => hFc _ h)) hS1
theorem k_callSi (hzz : Zok zz) (S : CallFix p m c cc nL s args Ts own) (hM : tfI l D cl tys zz y ws rm As w r w') (cw : CallB R s args own index y bytes maxL ret ws rm 0 0 n ∧ (Cond.static y).before args s = true)
    (hn : As.length = n) (hsize : ls.size = nL) (hst : st0 = As.reverse ++ rest) (hW : 2 * (F0 m pc ls st0).monitorRoom + (rest.map fun v => v.category).sum ≤ 8) (hdg : decode cc pc = .ok (.invokestatic index, 3)) (hf : cells + 0 ≤ R.cells ∧ slots + 0 ≤ R.slots)
    (hP : va_P D cl w H) (hK : va_K D cl tys s) (hD : va_D A w) (hS : va_S A s.heap H locs) (hA : ∀ q : Nat, s.heap.size ≤ q → A q) (hZ : zz A s s.heap)
    (kk : ∀ (H1 : Heap) (locs1 : List Loc), va_P D cl w' H1 → va_D A w' → va_S A s.heap H1 locs1 → W p l e R s m args below meth c H1 locs1 cells slots Q (F0 m (pc + 3) ls (.int r :: rest))) :
    W p l e R s m args below meth c H locs cells slots Q (F0 m pc ls st0) := by
  have hFc := k_sub hD hS hA
  refine va_calli (va_runS (As := As) (rest := rest) S (hM H.size) cw ⟨k_blind hzz, k_pre hzz hP hK hD hS hA hZ⟩ rfl hn hsize hst hW hdg hf) hS (fun q _ h => hFc q h) hFc (fun r1 u1 t H1 locs1 ht hvm hw hB hz1 hk1 hS1 => ?_)
  obtain ⟨hP1, hK1, hD1⟩ := hB
  rw [ht] at hP1
  subst hw
  exact kk H1 locs1 hP1 (hD1.weaken (fun _ _ _ h => hFc _ h)) hS1
theorem k_callSv (hzz : Zok zz) (S : CallFix p m c cc nL s args Ts own) (hM : tfV l D cl tys zz y ws rm As w w') (cw : CallB R s args own index y bytes maxL ret ws rm 0 0 n ∧ (Cond.static y).before args s = true)
    (hn : As.length = n) (hsize : ls.size = nL) (hst : st0 = As.reverse ++ rest) (hW : 2 * (F0 m pc ls st0).monitorRoom + (rest.map fun v => v.category).sum ≤ 8) (hdg : decode cc pc = .ok (.invokestatic index, 3)) (hf : cells + 0 ≤ R.cells ∧ slots + 0 ≤ R.slots)
    (hP : va_P D cl w H) (hK : va_K D cl tys s) (hD : va_D A w) (hS : va_S A s.heap H locs) (hA : ∀ q : Nat, s.heap.size ≤ q → A q) (hZ : zz A s s.heap)
    (kk : ∀ (H1 : Heap) (locs1 : List Loc), va_P D cl w' H1 → va_D A w' → va_S A s.heap H1 locs1 → W p l e R s m args below meth c H1 locs1 cells slots Q (F0 m (pc + 3) ls rest)) :
    W p l e R s m args below meth c H locs cells slots Q (F0 m pc ls st0) := by
  have hFc := k_sub hD hS hA
  refine va_callv (va_runS (As := As) (rest := rest) S (hM H.size) cw ⟨k_blind hzz, k_pre hzz hP hK hD hS hA hZ⟩ rfl hn hsize hst hW hdg hf) hS (fun q _ h => hFc q h) hFc (fun u1 t H1 locs1 ht hvm hw hB hz1 hk1 hS1 => ?_)
  obtain ⟨hP1, hK1, hD1⟩ := hB
  rw [ht] at hP1
  exact kk H1 locs1 hP1 (hD1.weaken (fun _ _ _ h => hFc _ h)) hS1
end KC
