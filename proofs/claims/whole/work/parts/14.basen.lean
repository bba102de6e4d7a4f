/-! constructors: fresh cells come, at addresses that the contract names; array classes are the ones known at the start -/
theorem k_arr {args : Array Value} {s : State} {ty : FieldType} (h : (Cond.arrayClass ty).before args s = true) : ∃ cA : ClassId, ArrOfT s cA ty ∧ s.vm.findClass ("[" ++ ty.toString) = some cA := by
  obtain ⟨cA, kA, comp, h1, h2, h3⟩ := Cond.arrayClass_spec h
  exact ⟨cA, fun n z => ⟨fun k h => (by cases h), kA, h2, comp, h3⟩, h1⟩
/-- the constructor's own cells w become W' a, for some addresses a -/
def tcN (l : Launch) (D : va_G) (cl : List vw_C) (tys : List (ClassId × FieldType)) (zz : (Nat → Prop) → State → Heap → Prop) (y : MethodName) (ws : List Cond) (rm : Room) (av : List Value) (w : va_W) (W' : (Nat → Nat) → va_W) (mc ms : Nat) : Prop :=
  ∀ sz : Nat, Met l y ws rm (va_Pc av (ppW D cl tys zz w sz)) (va_Qv (fun (_ : Nat → Nat) => True) (fun a t => va_P D cl (W' a) t.heap ∧ va_K D cl tys t ∧ va_D (va_A w sz) (W' a)) (va_A w sz)) mc ms (va_A w sz)
section KN
variable {p : Program} {l : Launch} {e : Env} {R : Room} {s : State} {m : MethodId} {args : Array Value} {below : List Frame} {meth : Method} {c : Code} {H : Heap} {locs : List Loc} {cells slots : Nat} {Q : State → Prop}
variable {D : va_G} {cl : List vw_C} {tys : List (ClassId × FieldType)} {zz : (Nat → Prop) → State → Heap → Prop} {A : Nat → Prop} {w w' wr : va_W} {r : Int32} {mc ms : Nat}
variable {y : MethodName} {bytes cc : ByteArray} {maxL nL n index pc : Nat} {ret : Option FieldType} {ws Ts : List Cond} {rm : Room} {own C host : String} {b : Addr} {As rest st0 : List Value} {ls : Array Slot}
theorem k_newa (hexec : p.tables.exec = Jvm.exec) (hb : c.code = cc) {atype : ArrayType} {ty : FieldType} (harr : (Cond.arrayClass ty).before args s = true) (hty : newarray.typeOf atype = ty) (hra : ∀ (U : State) (cA : ClassId), va_RA U cA ty = (U.vm.findClass ("[" ++ ty.toString) = some cA)) (t0 : Nat) {cI : ClassId} (ht : tys[t0]? = some (cI, ty))
    (hK : va_K D cl tys s) (hP : va_P D cl w H) (hD : va_D A w) (hS : va_S A s.heap H locs) (hA : ∀ q : Nat, s.heap.size ≤ q → A q)
    {k : Int32} {N' : Nat} {a0 : vp_A} (ha : ∀ cA : ClassId, vp_cell cA a0 = arrV cA N' (fun _ => defaultValue ty)) (hn : ¬ k < 0) (hN : k.toNatClampNeg = N') (hbytes : N' * componentBytes ty ≤ 536870912) (hcells : cells + 1 ≤ R.cells) (hslots : slots + N' ≤ R.slots) (hdg : decode cc pc = .ok (.newarray atype, 2))
    (kk : ∀ (q : Nat) (H1 : Heap), va_P D cl (w ++ [(q, .inl (cI, a0))]) H1 → va_D A (w ++ [(q, .inl (cI, a0))]) → va_S A s.heap H1 locs →
      W p l e R s m args below meth c H1 locs (cells + 1) (slots + N') Q (F0 m (pc + 2) ls (.ref q :: rest))) : W p l e R s m args below meth c H locs cells slots Q (F0 m pc ls (.int k :: rest)) := by
  refine va_newa hexec hb (by rw [hty]; exact harr) hty hK hP hD hS hA ha hn hN hbytes hcells hslots hdg (fun q cA H1 hK1 hP1 hD1 hS1 => ?_)
  have h1 := (hK1.2 tys.length (cA, ty) (by simp)).2
  have h2 := (hK.2 t0 (cI, ty) ht).2
  rw [hra] at h1 h2
  have e9 : cA = cI := Option.some.inj (h1.symm.trans h2)
  subst e9
  exact kk q H1 hP1 hD1 hS1
theorem k_subr (hD : va_D A (wr ++ w)) (hS : va_S A s.heap H locs) (hA : ∀ q : Nat, s.heap.size ≤ q → A q) : ∀ q, va_A w H.size q → A q := by
  intro q hq
  rcases hq with ⟨k, e, hk⟩ | hq
  · exact hD.2 (wr.length + k) _ (by rw [List.getElem?_append_right (Nat.le_add_right _ _), Nat.add_sub_cancel_left]; exact hk)
  · exact hA q (Nat.le_trans hS.1 hq)
theorem k_Pr (hP : va_P D cl (wr ++ w) H) : va_P D cl w H := fun k q hk => hP (wr.length + k) q (by rw [List.getElem?_append_right (Nat.le_add_right _ _), Nat.add_sub_cancel_left]; exact hk)
theorem k_lt {L1 L2 : va_W} {k : Nat} {q : Nat × va_E} (hk : L1[k]? = some q) : (L1 ++ L2)[k]? = some q := by
  have h := (List.getElem?_eq_some_iff.mp hk).1
  rw [List.getElem?_append_left h]
  exact hk
theorem k_Pl (hP : va_P D cl (wr ++ w) H) : va_P D cl wr H := fun k q hk => hP k q (k_lt hk)
theorem k_Dr (hD : va_D A (wr ++ w)) : va_D A w := by
  refine ⟨fun i j p q hi hj h => ?_, fun k q hk => hD.2 (wr.length + k) q (by rw [List.getElem?_append_right (Nat.le_add_right _ _), Nat.add_sub_cancel_left]; exact hk)⟩
  have := hD.1 (wr.length + i) (wr.length + j) p q (by rw [List.getElem?_append_right (Nat.le_add_right _ _), Nat.add_sub_cancel_left]; exact hi) (by rw [List.getElem?_append_right (Nat.le_add_right _ _), Nat.add_sub_cancel_left]; exact hj) h
  omega
theorem k_Dl (hD : va_D A (wr ++ w)) : va_D A wr := ⟨fun i j p q hi hj h => hD.1 i j p q (k_lt hi) (k_lt hj) h, fun k q hk => hD.2 k q (k_lt hk)⟩
/-- what a callee did to its own cells w, beside the rest wr -/
theorem k_frame {H1 : Heap} (hP : va_P D cl (wr ++ w) H) (hD : va_D A (wr ++ w)) (hF : ∀ q, va_A w H.size q → A q) (hk : ∀ q : Nat, q < H.size → ¬ va_A w H.size q → H1[q]? = H[q]?) (hP1 : va_P D cl w' H1) (hD1 : va_D (va_A w H.size) w') : va_P D cl (wr ++ w') H1 ∧ va_D A (wr ++ w') := by
  have hout : ∀ (k : Nat) (q : Nat × va_E), wr[k]? = some q → q.1 < H.size ∧ ¬ va_A w H.size q.1 := by
    intro k q hq
    have h1 : q.1 < H.size := (k_Pl hP k q hq).lt
    refine ⟨h1, ?_⟩
    rintro (⟨j, e, hj⟩ | h)
    · have h2 := hD.1 k (wr.length + j) q (q.1, e) (k_lt hq) (by rw [List.getElem?_append_right (Nat.le_add_right _ _), Nat.add_sub_cancel_left]; exact hj) rfl
      have h3 := (List.getElem?_eq_some_iff.mp hq).1
      omega
    · omega
  refine ⟨((k_Pl hP).kept (fun k q hq => hk q.1 (hout k q hq).1 (hout k q hq).2)).app hP1, (k_Dl hD).app (hD1.weaken (fun _ _ _ h => hF _ h)) ?_⟩
  intro i j p q hi hj h
  have h1 := (hout i p hi).2
  rw [h] at h1
  exact h1 (hD1.2 j q hj)
theorem k_init (hzz : Zok zz) {W' : (Nat → Nat) → va_W} (hrun : va_Run p l e R s m args below meth c H locs cells slots mc ms (F0 m pc ls st0) rest (va_Qv (fun (_ : Nat → Nat) => True) (fun a t => va_P D cl (W' a) t.heap ∧ va_K D cl tys t ∧ va_D (va_A w H.size) (W' a)) (va_A w H.size) (Value.ref b :: As).toArray) (va_A w H.size))
    (hP : va_P D cl (wr ++ w) H) (hD : va_D A (wr ++ w)) (hS : va_S A s.heap H locs) (hA : ∀ q : Nat, s.heap.size ≤ q → A q)
    (kk : ∀ (a : Nat → Nat) (H1 : Heap) (locs1 : List Loc), va_P D cl (wr ++ W' a) H1 → va_D A (wr ++ W' a) → va_S A s.heap H1 locs1 → W p l e R s m args below meth c H1 locs1 (cells + mc) (slots + ms) Q (F0 m (pc + 3) ls rest)) :
    W p l e R s m args below meth c H locs cells slots Q (F0 m pc ls st0) := by
  have hFc := k_subr (wr := wr) hD hS hA
  refine va_callv hrun hS (fun q _ h => hFc q h) hFc (fun a t H1 locs1 ht hvm hw hB hz1 hk1 hS1 => ?_)
  obtain ⟨hP1, hK1, hD1⟩ := hB
  rw [ht] at hP1
  obtain ⟨hP2, hD2⟩ := k_frame hP hD hFc hk1 hP1 hD1
  exact kk a H1 locs1 hP2 hD2 hS1
end KN
