/-! my own layer: constructors -/
theorem oi_l : Cond.instanceMethod objectInit ∈ wsB := by decide +kernel
theorem oi_c : Cond.code objectInit ⟨#[0xb1]⟩ 1 none ∈ wsB := by decide +kernel
theorem oi_M : Cond.methodLink "BankSchedulerModel" 1 objectInit ∈ wsB := by decide +kernel
theorem oi_C : Cond.methodLink "BankScheduler$Channel" 3 objectInit ∈ wsB := by decide +kernel
theorem oi_R : Cond.methodLink "BankScheduler$Request" 1 objectInit ∈ wsB := by decide +kernel
theorem oi_B : Cond.methodLink "BankScheduler" 1 objectInit ∈ wsB := by decide +kernel
theorem ac_I : Cond.arrayClass .int ∈ wsB := by decide +kernel
theorem ac_Z : Cond.arrayClass .boolean ∈ wsB := by decide +kernel
theorem ac_J : Cond.arrayClass .long ∈ wsB := by decide +kernel
def kb_FPF (cl : List vw_C) (Ts : List Cond) (own : String) (index ci k : Nat) (ty : FieldType) : Prop :=
  ∃ (q : vw_C) (ty0 : Nat → FieldType), cl[ci]? = some q ∧ (∀ w ∈ u_ws q.1 q.2.1 q.2.2, w ∈ Ts) ∧ (∀ k, k < q.2.2 → parseFieldDescriptor (q.2.1 k).2.2.1 = some (ty0 k)) ∧ (∀ a, a < q.2.2 → ∀ b, b < q.2.2 → a ≠ b → (q.2.1 a).2.1 ≠ (q.2.1 b).2.1) ∧ k < q.2.2 ∧ Cond.fieldLink own index q.1 (q.2.1 k).2.1 (q.2.1 k).2.2.1 ∈ Ts ∧ (q.2.1 k).1 = q.1 ∧ q.1 = own ∧ (q.2.1 k).2.2.2 = true ∧ parseFieldDescriptor (q.2.1 k).2.2.1 = some ty
section KCA
variable {p : Program} {l : Launch} {e : Env} {R : Room} {s : State} {m : MethodId} {args : Array Value} {below : List Frame} {meth : Method} {c : Code} {H : Heap} {locs : List Loc} {cells slots : Nat} {Q : State → Prop}
variable {cc : ByteArray} {pc nL : Nat} {ls : Array Slot} {rest : List Value} {D : va_G} {cl : List vw_C} {A : Nat → Prop} {tys : List (ClassId × FieldType)} {ws : va_W} {Ts : List Cond} {own : String}
theorem kb_putF (S : CallFix p m c cc nL s args Ts own) (hin : meth.name = "<init>") (w : kb_W D cl tys A s H locs ws) (q0 : Nat) {a ci k index : Nat} {fs : List Value} {v : Value} {ty : FieldType} {ws1 : va_W} (hw : ws[q0]? = some (a, .inr (ci, fs))) (f : kb_FPF cl Ts own index ci k ty) (hn : narrow ty v = v) (hfit : fits ty v = true) (hlt : k < fs.length) (hset : ws.set q0 (a, .inr (ci, fs.set k v)) = ws1) (hdg : decode cc pc = .ok (.putfield index, 3))
    (kk : ∀ (H1 : Heap) (locs1 : List Loc), kb_W D cl tys A s H1 locs1 ws1 → W p l e R s m args below meth c H1 locs1 cells slots Q (F0 m (pc + 3) ls rest)) : W p l e R s m args below meth c H locs cells slots Q (F0 m pc ls (v :: .ref a :: rest)) := by
  obtain ⟨⟨C, T, N⟩, ty0, hc, hinT, hty, hnm, hk, hl, hd, ho, hfin, hp⟩ := f
  refine va_putF (D := D) (ci := ci) (v := v) (ty := ty) (C := C) (T := T) (N := N) S.1 S.2.1 S.2.2.2.2 hinT ty0 hty hnm S.2.2.2.1 w.2.1 w.1 w.2.2.1 w.2.2.2.1 q0 hw hc k hk (S.2.2.2.2 _ hl) (fun x h => by dsimp only at hd; rw [hd] at h; exact h) hfin hin (hd.trans ho) hp hn hfit hlt hdg (fun H1 locs1 hP hD hS => ?_)
  rw [hset] at hP hD
  exact kk H1 locs1 ⟨hP, w.2.1, hD, hS, w.2.2.2.2⟩
theorem kb_newa (S : CallFix p m c cc nL s args Ts own) (w : kb_W D cl tys A s H locs ws) (t0 : Nat) {atype : ArrayType} {ty : FieldType} (hta : newarray.typeOf atype = ty) (harr : Cond.arrayClass ty ∈ Ts) {cA : ClassId} (ht : tys[t0]? = some (cA, ty)) (hprim : va_RA s cA ty = (s.vm.findClass ("[" ++ ty.toString) = some cA)) {n : Int32} {N : Nat} {a0 : vp_A} (ha : ∀ cA : ClassId, vp_cell cA a0 = arrV cA N (fun _ => defaultValue ty)) (hra : ∀ cB : ClassId, va_RA s cB ty = (s.vm.findClass ("[" ++ ty.toString) = some cB)) (hn : ¬ n < 0) (hN : n.toNatClampNeg = N) (hbytes : N * componentBytes ty ≤ 536870912) (hcells : cells + 1 ≤ R.cells) (hslots : slots + N ≤ R.slots) (hdg : decode cc pc = .ok (.newarray atype, 2))
    (kk : ∀ (q : Nat) (H1 : Heap), kb_W D cl tys A s H1 locs (ws ++ [(q, .inl (cA, a0))]) → W p l e R s m args below meth c H1 locs (cells + 1) (slots + N) Q (F0 m (pc + 2) ls (.ref q :: rest))) : W p l e R s m args below meth c H locs cells slots Q (F0 m pc ls (.int n :: rest)) := by
  obtain ⟨wP, wK, wD, wS, wA⟩ := w
  refine va_newa (D := D) S.1 S.2.1 (by rw [hta]; exact S.2.2.2.2 _ harr) hta wK wP wD wS wA ha hn hN hbytes hcells hslots hdg (fun q cB H1 hK hP hD hS => ?_)
  have h1 := (wK.2 t0 _ ht).2
  have h2 := (hK.2 tys.length (cB, ty) (by rw [List.getElem?_append_right (Nat.le_refl _)]; simp)).2
  have e : cB = cA := by
    have h3 : s.vm.findClass ("[" ++ ty.toString) = some cA := by rw [← hra cA]; exact h1
    have h4 : s.vm.findClass ("[" ++ ty.toString) = some cB := by rw [← hra cB]; exact h2
    exact Option.some.inj (h4.symm.trans h3)
  subst e
  exact kk q H1 ⟨hP, wK, hD, hS, wA⟩
theorem kb_newI (S : CallFix p m c cc nL s args wsB own) (w : kb_W D cl tys A s H locs ws) (t0 : Nat) {cA : ClassId} (ht : tys[t0]? = some (cA, .int)) {n : Int32} {N : Nat} (hn : ¬ n < 0) (hN : n.toNatClampNeg = N) (hbytes : N ≤ 100000) (hcells : cells + 1 ≤ R.cells) (hslots : slots + N ≤ R.slots) (hdg : decode cc pc = .ok (.newarray .int, 2))
    (kk : ∀ (q : Nat) (H1 : Heap), kb_W D cl tys A s H1 locs (ws ++ [(q, .inl (cA, N, .inl (fun _ => 0)))]) → W p l e R s m args below meth c H1 locs (cells + 1) (slots + N) Q (F0 m (pc + 2) ls (.ref q :: rest))) : W p l e R s m args below meth c H locs cells slots Q (F0 m pc ls (.int n :: rest)) :=
  kb_newa S w t0 (ty := .int) rfl ac_I ht rfl (fun _ => rfl) (fun _ => rfl) hn hN (by show N * 4 ≤ 536870912; omega) hcells hslots hdg kk
theorem kb_newZ (S : CallFix p m c cc nL s args wsB own) (w : kb_W D cl tys A s H locs ws) (t0 : Nat) {cA : ClassId} (ht : tys[t0]? = some (cA, .boolean)) {n : Int32} {N : Nat} (hn : ¬ n < 0) (hN : n.toNatClampNeg = N) (hbytes : N ≤ 100000) (hcells : cells + 1 ≤ R.cells) (hslots : slots + N ≤ R.slots) (hdg : decode cc pc = .ok (.newarray .boolean, 2))
    (kk : ∀ (q : Nat) (H1 : Heap), kb_W D cl tys A s H1 locs (ws ++ [(q, .inl (cA, N, .inl (fun _ => 0)))]) → W p l e R s m args below meth c H1 locs (cells + 1) (slots + N) Q (F0 m (pc + 2) ls (.ref q :: rest))) : W p l e R s m args below meth c H locs cells slots Q (F0 m pc ls (.int n :: rest)) :=
  kb_newa S w t0 (ty := .boolean) rfl ac_Z ht rfl (fun _ => rfl) (fun _ => rfl) hn hN (by show N * 1 ≤ 536870912; omega) hcells hslots hdg kk
theorem kb_oi (S : CallFix p m c cc nL s args wsB own) {idx a : Nat} (hl : Cond.methodLink own idx objectInit ∈ wsB) (hsz : ls.size = nL) (hd : decode cc pc = .ok (.invokespecial idx, 3)) (hR : 1 ≤ R.frames ∧ (rest.map fun v => v.category).sum + 12 ≤ R.locals)
    (kk : W p l e R s m args below meth c H locs cells slots Q (F0 m (pc + 3) ls rest)) : W p l e R s m args below meth c H locs cells slots Q (F0 m pc ls (.ref a :: rest)) :=
  W.objInit S.1 S.2.1 S.2.2.2.1 (S.2.2.2.2 _ hl) (S.2.2.2.2 _ oi_l) (S.2.2.2.2 _ oi_c) (g := F0 m pc ls (.ref a :: rest)) rfl (hsz.trans S.2.2.1.symm) rfl hd hR.1 (by show 2 * 0 + _ + 12 ≤ _; omega) kk
/-- a constructor's start: its name, its own cells and slots to make -/
theorem kc_start {y : MethodName} {wsC ws' : List Cond} {rm : Room} {Qc : Array Value → State → Outcome → State → Prop} {maxL mc ms : Nat} {ret : Option FieldType} {av : List Value} {sz : Nat} (hy : plainName y.cls = true) (hyn : y.name = "<init>") (hw : wsC = Cond.code y cc maxL ret :: ws') (hlen : (lg_sl av).length ≤ maxL)
    (body : ∀ (p : Program) (e : Env) (s : State) (m : MethodId) (args : Array Value) (below : List Frame) (meth : Method) (c : Code) (A : Nat → Prop) (ls : Array Slot), CallFix p m c cc maxL s args ws' y.cls → meth.sig.returnType = ret → meth.locks = false → s.heap.size = sz → A = va_A ws sz → kb_W D cl tys A s s.heap [] ws → meth.name = "<init>" → lv_has ls maxL (lv_args 0 av) →
      W p l e rm s m args below meth c s.heap [] 0 0 (MQ below Qc args s mc ms (va_A ws sz)) (F0 m 0 ls [])) : Met l y wsC rm (kb_Pc D cl tys sz av ws) Qc mc ms (va_A ws sz) := by
  refine Met.ofW (cc := cc) (maxL := maxL) (ret := ret) hy hw ?_
  intro p e s m args below meth c s₁ B hml hv
  obtain ⟨rfl, hsz, hP, hK, hD0⟩ := hv
  have hts := atoms_spec (ws := wsC) B.pre
  have hown : s.vm.findClass y.cls = some m.cls := findClass_of_methodNamed B.named
  have hin : meth.name = "<init>" := (name_of_methodNamed B.named B.method).1.trans hyn
  rw [lg_entry_eq]
  refine body p e s m _ below meth c (va_A ws sz) _ ⟨B.exec, B.bytes, hml, hown, fun w h => hts w (by rw [hw]; exact List.mem_cons_of_mem _ h)⟩ B.returns B.notSynchronized hsz rfl ⟨hP, hK, hD0.self (sz := sz), va_S.rf, ?_⟩ hin (lv_entry av hlen)
  intro q h
  rw [hsz] at h
  exact Or.inr h
/-- a constructor's end: some addresses -/
def kc_Q (D : va_G) (cl : List vw_C) (sz : Nat) (ws : va_W) (ok : (Nat → Nat) → Prop) (f : (Nat → Nat) → va_W) : Array Value → State → Outcome → State → Prop :=
  va_Qv ok (fun a t => va_P D cl (f a) t.heap ∧ va_D (va_A ws sz) (f a)) (va_A ws sz)
theorem kc_ret {ws0 : va_W} {sz : Nat} {ok : (Nat → Nat) → Prop} {f : (Nat → Nat) → va_W} {a : Nat → Nat} (S : CallFix p m c cc nL s args Ts own) (hr : meth.sig.returnType = none) (hlk : meth.locks = false) (hA : A = va_A ws0 sz) (w : kb_W D cl tys A s H locs (f a)) (ho : ok a) (hdg : decode cc pc = .ok (.return_, 1)) :
    W p l e R s m args below meth c H locs cells slots (MQ below (kc_Q D cl sz ws0 ok f) args s cells slots (va_A ws0 sz)) (F0 m pc ls []) := by
  obtain ⟨hP, hK, hD, hS, -⟩ := w
  subst hA
  exact W.vret S.1 S.2.1 hr (fun t ht _ => ⟨⟨a, rfl, ho, by rw [ht]; exact hP, hD⟩, hS.F ht⟩) hS.2.2 hdg hlk
end KCA
