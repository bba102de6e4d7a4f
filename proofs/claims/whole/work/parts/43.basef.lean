/-! calls out of a larger world: ws is the rest wr and the callee's cells w, in any order -/
section KF
variable {p : Program} {l : Launch} {e : Env} {R : Room} {s : State} {m : MethodId} {args : Array Value} {below : List Frame} {meth : Method} {c : Code} {H : Heap} {locs : List Loc} {cells slots : Nat} {Q : State → Prop}
variable {D : va_G} {cl : List vw_C} {tys : List (ClassId × FieldType)} {zz : (Nat → Prop) → State → Heap → Prop} {A : Nat → Prop} {w w' wr wa wb : va_W} {r : Int32} {code mc ms : Nat}
variable {y : MethodName} {bytes cc : ByteArray} {maxL nL n index pc : Nat} {ret : Option FieldType} {ws Ts : List Cond} {rm : Room} {own C host : String} {b : Addr} {As rest st0 : List Value} {ls : Array Slot} {hh : List (Nat × Nat × Nat × Nat)}
theorem g_callVi (hzz : Zok zz) (S : CallFix p m c cc nL s args Ts own) (hM : tfI l D cl tys zz y ws rm (.ref b :: As) w r w') (cw : CallW R s args own C index y bytes maxL ret ws rm 0 0 n) (hrv : ∃ cellB : Cell, H[b]? = some cellB ∧ cellB.vm.isStatics = false ∧ s.vm.findClass C = some cellB.cls)
    (hn : As.length = n) (hsize : ls.size = nL) (hst : st0 = As.reverse ++ .ref b :: rest) (hW : 2 * (F0 m pc ls st0).monitorRoom + (rest.map fun v => v.category).sum ≤ 8) (hdg : decode cc pc = .ok (.invokevirtual index, 3)) (hf : cells + 0 ≤ R.cells ∧ slots + 0 ≤ R.slots)
    (hp : wa.Perm (wr ++ w)) (hp' : (wr ++ w').Perm wb) (hP : va_P D cl wa H) (hK : va_K D cl tys s) (hD : va_D A wa) (hS : va_S A s.heap H locs) (hA : ∀ q : Nat, s.heap.size ≤ q → A q) (hZ : zz A s s.heap)
    (kk : ∀ (H1 : Heap) (locs1 : List Loc), va_P D cl wb H1 → va_D A wb → va_S A s.heap H1 locs1 → W p l e R s m args below meth c H1 locs1 cells slots Q (F0 m (pc + 3) ls (.int r :: rest))) :
    W p l e R s m args below meth c H locs cells slots Q (F0 m pc ls st0) := by
  have hP := k_P_perm hp hP
  have hD := k_D_perm hp hD
  have hFc := k_subr (wr := wr) hD hS hA
  refine va_calli (va_runV (As := As) (rest := rest) S (hM H.size) cw ⟨k_blind hzz, hrv, k_pre hzz (k_Pr hP) hK (k_Dr hD) hS hA hZ⟩ rfl hn hsize hst hW hdg hf) hS (fun q _ h => hFc q h) hFc (fun r1 u1 t H1 locs1 ht hvm hw hB hz1 hk1 hS1 => ?_)
  obtain ⟨hP1, hK1, hD1⟩ := hB
  rw [ht] at hP1
  subst hw
  obtain ⟨hP2, hD2⟩ := k_frame hP hD hFc hk1 hP1 hD1
  exact kk H1 locs1 (k_P_perm hp' hP2) (k_D_perm hp' hD2) hS1
theorem g_callVv (hzz : Zok zz) (S : CallFix p m c cc nL s args Ts own) (hM : tfV l D cl tys zz y ws rm (.ref b :: As) w w') (cw : CallW R s args own C index y bytes maxL ret ws rm 0 0 n) (hrv : ∃ cellB : Cell, H[b]? = some cellB ∧ cellB.vm.isStatics = false ∧ s.vm.findClass C = some cellB.cls)
    (hn : As.length = n) (hsize : ls.size = nL) (hst : st0 = As.reverse ++ .ref b :: rest) (hW : 2 * (F0 m pc ls st0).monitorRoom + (rest.map fun v => v.category).sum ≤ 8) (hdg : decode cc pc = .ok (.invokevirtual index, 3)) (hf : cells + 0 ≤ R.cells ∧ slots + 0 ≤ R.slots)
    (hp : wa.Perm (wr ++ w)) (hp' : (wr ++ w').Perm wb) (hP : va_P D cl wa H) (hK : va_K D cl tys s) (hD : va_D A wa) (hS : va_S A s.heap H locs) (hA : ∀ q : Nat, s.heap.size ≤ q → A q) (hZ : zz A s s.heap)
    (kk : ∀ (H1 : Heap) (locs1 : List Loc), va_P D cl wb H1 → va_D A wb → va_S A s.heap H1 locs1 → W p l e R s m args below meth c H1 locs1 cells slots Q (F0 m (pc + 3) ls rest)) :
    W p l e R s m args below meth c H locs cells slots Q (F0 m pc ls st0) := by
  have hP := k_P_perm hp hP
  have hD := k_D_perm hp hD
  have hFc := k_subr (wr := wr) hD hS hA
  refine va_callv (va_runV (As := As) (rest := rest) S (hM H.size) cw ⟨k_blind hzz, hrv, k_pre hzz (k_Pr hP) hK (k_Dr hD) hS hA hZ⟩ rfl hn hsize hst hW hdg hf) hS (fun q _ h => hFc q h) hFc (fun u1 t H1 locs1 ht hvm hw hB hz1 hk1 hS1 => ?_)
  obtain ⟨hP1, hK1, hD1⟩ := hB
  rw [ht] at hP1
  obtain ⟨hP2, hD2⟩ := k_frame hP hD hFc hk1 hP1 hD1
  exact kk H1 locs1 (k_P_perm hp' hP2) (k_D_perm hp' hD2) hS1
theorem gx_callVi (hzz : Zok zz) (S : CallFix p m c cc nL s args Ts own) (hM : txI l D cl tys zz y ws rm (.ref b :: As) w code r w' mc ms) (cw : CallW R s args own C index y bytes maxL ret ws rm mc ms n) (hrv : ∃ cellB : Cell, H[b]? = some cellB ∧ cellB.vm.isStatics = false ∧ s.vm.findClass C = some cellB.cls)
    (hn : As.length = n) (hsize : ls.size = nL) (hst : st0 = As.reverse ++ .ref b :: rest) (hW : 2 * (F0 m pc ls st0).monitorRoom + (rest.map fun v => v.category).sum ≤ 8) (hdg : decode cc pc = .ok (.invokevirtual index, 3)) (hf : cells + mc ≤ R.cells ∧ slots + ms ≤ R.slots)
    (hp : wa.Perm (wr ++ w)) (hp' : (wr ++ w').Perm wb) (hP : va_P D cl wa H) (hK : va_K D cl tys s) (hD : va_D A wa) (hS : va_S A s.heap H locs) (hA : ∀ q : Nat, s.heap.size ≤ q → A q) (hZ : zz A s s.heap) (hc : ¬ code = 0)
    (kx : ∀ (ce : Cell) (q9 : Addr) (H1 : Heap) (locs1 : List Loc), va_P D cl wb H1 → va_D A wb → va_S A s.heap H1 locs1 → H1[q9]? = some ce → ce.vm = .none → s.vm.findClass (xnm code) = some ce.cls → vx_W p l e R s m args below meth c H1 locs1 (cells + mc) (slots + ms) Q (F0 m pc ls rest) q9) :
    W p l e R s m args below meth c H locs cells slots Q (F0 m pc ls st0) := by
  have hP := k_P_perm hp hP
  have hD := k_D_perm hp hD
  have hFc := k_subr (wr := wr) hD hS hA
  refine vx_calli (vx_runV (As := As) (rest := rest) S (hM H.size) cw ⟨k_blind hzz, hrv, k_pre hzz (k_Pr hP) hK (k_Dr hD) hS hA hZ⟩ rfl hn hsize hst hW hdg hf) hS (fun q _ h => hFc q h) hFc (fun q _ h => hFc q h) (fun E ce q9 u t H1 locs1 ht hvm hpx hB hz1 hk1 hS1 hce hcv hcl => ?_) (fun r1 u1 t H1 locs1 ht hvm hw hB hz1 hk1 hS1 => absurd hw.2 hc)
  obtain ⟨eE, hP1, hK1, hD1⟩ := hB
  rw [ht] at hP1
  subst eE
  obtain ⟨hP2, hD2⟩ := k_frame hP hD hFc hk1 hP1 hD1
  exact kx ce q9 H1 locs1 (k_P_perm hp' hP2) (k_D_perm hp' hD2) hS1 hce hcv hcl
theorem gx_callVv (hzz : Zok zz) (S : CallFix p m c cc nL s args Ts own) (hM : txV l D cl tys zz y ws rm (.ref b :: As) w code w' mc ms) (cw : CallW R s args own C index y bytes maxL ret ws rm mc ms n) (hrv : ∃ cellB : Cell, H[b]? = some cellB ∧ cellB.vm.isStatics = false ∧ s.vm.findClass C = some cellB.cls)
    (hn : As.length = n) (hsize : ls.size = nL) (hst : st0 = As.reverse ++ .ref b :: rest) (hW : 2 * (F0 m pc ls st0).monitorRoom + (rest.map fun v => v.category).sum ≤ 8) (hdg : decode cc pc = .ok (.invokevirtual index, 3)) (hf : cells + mc ≤ R.cells ∧ slots + ms ≤ R.slots)
    (hp : wa.Perm (wr ++ w)) (hp' : (wr ++ w').Perm wb) (hP : va_P D cl wa H) (hK : va_K D cl tys s) (hD : va_D A wa) (hS : va_S A s.heap H locs) (hA : ∀ q : Nat, s.heap.size ≤ q → A q) (hZ : zz A s s.heap) (hc : ¬ code = 0)
    (kx : ∀ (ce : Cell) (q9 : Addr) (H1 : Heap) (locs1 : List Loc), va_P D cl wb H1 → va_D A wb → va_S A s.heap H1 locs1 → H1[q9]? = some ce → ce.vm = .none → s.vm.findClass (xnm code) = some ce.cls → vx_W p l e R s m args below meth c H1 locs1 (cells + mc) (slots + ms) Q (F0 m pc ls rest) q9) :
    W p l e R s m args below meth c H locs cells slots Q (F0 m pc ls st0) := by
  have hP := k_P_perm hp hP
  have hD := k_D_perm hp hD
  have hFc := k_subr (wr := wr) hD hS hA
  refine vx_callv (vx_runV (As := As) (rest := rest) S (hM H.size) cw ⟨k_blind hzz, hrv, k_pre hzz (k_Pr hP) hK (k_Dr hD) hS hA hZ⟩ rfl hn hsize hst hW hdg hf) hS (fun q _ h => hFc q h) hFc (fun q _ h => hFc q h) (fun E ce q9 u t H1 locs1 ht hvm hpx hB hz1 hk1 hS1 hce hcv hcl => ?_) (fun u1 t H1 locs1 ht hvm hw hB hz1 hk1 hS1 => absurd hw hc)
  obtain ⟨eE, hP1, hK1, hD1⟩ := hB
  rw [ht] at hP1
  subst eE
  obtain ⟨hP2, hD2⟩ := k_frame hP hD hFc hk1 hP1 hD1
  exact kx ce q9 H1 locs1 (k_P_perm hp' hP2) (k_D_perm hp' hD2) hS1 hce hcv hcl
/-- one of the law's small methods: it answers r; a cell of six slots may come -/
def tlI (l : Launch) (D : va_G) (cl : List vw_C) (tys : List (ClassId × FieldType)) (zz : (Nat → Prop) → State → Heap → Prop) (y : MethodName) (ws : List Cond) (rm : Room) (av : List Value) (w : va_W) (r : Int32) (w' : va_W) : Prop :=
  ∀ sz : Nat, Met l y ws rm (va_Pc av (ppW D cl tys zz w sz)) (qqI D cl tys w' r (va_A w sz)) 1 6 (va_A w sz)
theorem g_callSW (hzz : Zok zz) (S : CallFix p m c cc nL s args Ts own) (hM : tlI l D cl tys zz y ws rm As w r w') (cw : vx_CSW R s args own index y bytes maxL ret hh ws rm 1 6 n)
    (hn : As.length = n) (hsize : ls.size = nL) (hst : st0 = As.reverse ++ rest) (hW : 2 * (F0 m pc ls st0).monitorRoom + (rest.map fun v => v.category).sum ≤ 8) (hdg : decode cc pc = .ok (.invokestatic index, 3)) (hf : cells + 1 ≤ R.cells ∧ slots + 6 ≤ R.slots)
    (hp : wa.Perm (wr ++ w)) (hp' : (wr ++ w').Perm wb) (hP : va_P D cl wa H) (hK : va_K D cl tys s) (hD : va_D A wa) (hS : va_S A s.heap H locs) (hA : ∀ q : Nat, s.heap.size ≤ q → A q) (hZ : zz A s s.heap)
    (kk : ∀ (H1 : Heap) (locs1 : List Loc), va_P D cl wb H1 → va_D A wb → va_S A s.heap H1 locs1 → W p l e R s m args below meth c H1 locs1 (cells + 1) (slots + 6) Q (F0 m (pc + 3) ls (.int r :: rest))) :
    W p l e R s m args below meth c H locs cells slots Q (F0 m pc ls st0) := by
  have hP := k_P_perm hp hP
  have hD := k_D_perm hp hD
  have hFc := k_subr (wr := wr) hD hS hA
  refine va_calli (vx_runSW (As := As) (rest := rest) S (hM H.size) cw ⟨k_blind hzz, k_pre hzz (k_Pr hP) hK (k_Dr hD) hS hA hZ⟩ rfl hn hsize hst hW hdg hf) hS (fun q _ h => hFc q h) hFc (fun r1 u1 t H1 locs1 ht hvm hw hB hz1 hk1 hS1 => ?_)
  obtain ⟨hP1, hK1, hD1⟩ := hB
  rw [ht] at hP1
  subst hw
  obtain ⟨hP2, hD2⟩ := k_frame hP hD hFc hk1 hP1 hD1
  exact kk H1 locs1 (k_P_perm hp' hP2) (k_D_perm hp' hD2) hS1
end KF
