/-! my own layer: methods that may throw, over a world -/
def kx_E : Nat → String
  | 1 => "java/lang/IndexOutOfBoundsException"
  | 2 => "java/lang/IllegalArgumentException"
  | 3 => "java/lang/IllegalStateException"
  | _ => "java/lang/UnsupportedOperationException"
def kx_cl {σ : Type} (o : Option (Nat × Int32 × σ)) (k : Int32 → σ → Option (Nat × Int32 × σ)) : Option (Nat × Int32 × σ) := match o with
  | none => none
  | some (0, r, z) => k r z
  | some (c + 1, _, z) => some (c + 1, 0, z)
theorem kx_cl_of {σ : Type} {o : Option (Nat × Int32 × σ)} {k : Int32 → σ → Option (Nat × Int32 × σ)} {out : Nat × Int32 × σ} (h : kx_cl o k = some out) : ∃ (c : Nat) (r : Int32) (z : σ), o = some (c, r, z) ∧ (c = 0 → k r z = some out) ∧ (c ≠ 0 → some (c, (0 : Int32), z) = some out) := by
  match o, h with
  | none, h => exact absurd h (by simp [kx_cl])
  | some (0, r, z), h => exact ⟨0, r, z, rfl, fun _ => h, fun q => absurd rfl q⟩
  | some (c + 1, r, z), h => exact ⟨c + 1, r, z, rfl, fun q => absurd q (by omega), fun _ => h⟩
theorem kx_0 {σ : Type} {k c : Nat} {v r : Int32} {z z' : σ} (h : some (k, v, z) = some (c, r, z')) : k = c ∧ v = r ∧ z = z' := by
  have h1 := Option.some.inj h
  exact ⟨congrArg Prod.fst h1, congrArg (fun q => q.2.1) h1, congrArg (fun q => q.2.2) h1⟩
/-- texts, tables of numbers, methods that are declared, kinds that can be cast, and that cannot -/
abbrev kt_X : Type := List (String × Nat × String) × List (String × String × Nat × (Nat → Int32)) × List MethodName × List (String × String) × List (String × String)
/-- what a throw and the tables need of the start -/
def kt_U (tx : kt_X) (A : Nat → Prop) (U : State) (H : Heap) : Prop :=
  kt_S Bundle.tN "UNASSIGNED_STACK" Bundle.steD A U H ∧ kt_S Bundle.tN "SUPPRESSED_SENTINEL" Bundle.listD A U H ∧ (∀ q ∈ tx.1, ∃ sa, vk_R q.1 q.2.1 q.2.2 sa U) ∧ (∀ q ∈ tx.2.1, ∃ t, va_Z q.1 q.2.1 "[I" (.ref t) A U H ∧ va_T .int t q.2.2.1 (fun j => .int (q.2.2.2 j)) A U H) ∧ (∀ y ∈ tx.2.2.1, va_Nw (.declares y) U) ∧ (∀ q ∈ tx.2.2.2.1, va_Nw (.castable q.1 q.2) U) ∧ ∀ q ∈ tx.2.2.2.2, va_Nc q.1 q.2 U
theorem kt_U.to {tx : kt_X} {A B : Nat → Prop} {s U : State} {H H1 : Heap} (h : kt_U tx A s H) (hW : s.WarmedH U.vm) (hq : ∀ a : Nat, a < H.size → ¬ A a → H1[a]? = H[a]?) (hAB : ∀ q, B q → A q) : kt_U tx B U H1 := by
  refine ⟨((h.1.moved hW.alike).kept hq).narrow hAB, ((h.2.1.moved hW.alike).kept hq).narrow hAB, fun q hm => ?_, fun q hm => ?_, fun y hy => va_Nw.warmD hW (h.2.2.2.2.1 y hy), fun q hm => va_Nw.warmC hW (h.2.2.2.2.2.1 q hm), fun q hm => va_Nc.moved hW.alike (h.2.2.2.2.2.2 q hm)⟩
  · obtain ⟨sa, hs⟩ := h.2.2.1 q hm
    exact ⟨sa, vk_R.warm hW hs⟩
  · obtain ⟨t, h1, h2⟩ := h.2.2.2.1 q hm
    exact ⟨t, (va_Z.kept (va_Z.moved hW.alike h1) hq).narrow hAB, (va_T.kept (va_T.moved hW.alike h2) hq).narrow hAB⟩
def kt_Pc (tx : kt_X) (D : va_G) (cl : List vw_C) (tys : List (ClassId × FieldType)) (sz : Nat) (av : List Value) (ws : va_W) : Array Value → State → Prop :=
  va_Pc av (fun U => U.heap.size = sz ∧ va_P D cl ws U.heap ∧ va_K D cl tys U ∧ va_D (fun _ => True) ws ∧ kt_U tx (va_A ws sz) U U.heap)
theorem kt_blind {tx : kt_X} {D : va_G} {cl : List vw_C} {tys : List (ClassId × FieldType)} {sz : Nat} {av : List Value} {ws : va_W} : FrameBlind (kt_Pc tx D cl tys sz av ws) := by
  intro a U g mk q
  obtain ⟨q0, q1, qP, qK, qD, qU⟩ := q
  refine ⟨q0, q1, qP, va_K.moved (u := U) (U := U.calling g mk a) (Vm.Alike.refl U.vm) qK, qD, ?_⟩
  exact kt_U.to (U := U.calling g mk a) qU (State.WarmedH.refl U) (fun _ _ _ => rfl) (fun _ h => h)
def kt_XB (D : va_G) (cl : List vw_C) (sz : Nat) (ws ws' : va_W) : State → State → Prop := fun st t => va_P D cl ws' t.heap ∧ va_D (va_A ws sz) ws' ∧ va_F (va_A ws sz) st t
def kt_MQ (below : List Frame) (E : String) (XB : State → State → Prop) (s : State) (mc ms : Nat) (free : Addr → Prop) : State → Prop := fun t =>
  ∃ o, t.status = .running ∧ Ended t below o ∧ ∃ q, o = .threw q ∧ kt_T E XB s q t mc ms free
section KTC
variable {p : Program} {l : Launch} {e : Env} {R : Room} {s : State} {m : MethodId} {args : Array Value} {below : List Frame} {meth : Method} {c : Code} {H : Heap} {locs : List Loc} {cells slots : Nat} {Q : State → Prop}
variable {cc : ByteArray} {pc nL : Nat} {ls : Array Slot} {rest : List Value} {D : va_G} {cl : List vw_C} {A : Nat → Prop} {tys : List (ClassId × FieldType)} {ws : va_W} {Ts : List Cond} {own : String} {tx : kt_X}
theorem kt_start {y : MethodName} {wsC ws' : List Cond} {rm : Room} {Qc : Array Value → State → Outcome → State → Prop} {maxL : Nat} {ret : Option FieldType} {av : List Value} {sz : Nat} (hy : plainName y.cls = true) (hw : wsC = Cond.code y cc maxL ret :: ws') (hlen : (lg_sl av).length ≤ maxL)
    (body : ∀ (p : Program) (e : Env) (s : State) (m : MethodId) (args : Array Value) (below : List Frame) (meth : Method) (c : Code) (A : Nat → Prop) (ls : Array Slot), CallFix p m c cc maxL s args ws' y.cls → meth.sig.returnType = ret → meth.locks = false → s.heap.size = sz → A = va_A ws sz → kb_W D cl tys A s s.heap [] ws → kt_U tx A s s.heap → lv_has ls maxL (lv_args 0 av) →
      W p l e rm s m args below meth c s.heap [] 0 0 (MQ below Qc args s 0 0 (va_A ws sz)) (F0 m 0 ls [])) : Met l y wsC rm (kt_Pc tx D cl tys sz av ws) Qc 0 0 (va_A ws sz) := by
  refine Met.ofW (cc := cc) (maxL := maxL) (ret := ret) hy hw ?_
  intro p e s m args below meth c s₁ B hml hv
  obtain ⟨rfl, hsz, hP, hK, hD0, hU⟩ := hv
  have hts := atoms_spec (ws := wsC) B.pre
  have hown : s.vm.findClass y.cls = some m.cls := findClass_of_methodNamed B.named
  rw [lg_entry_eq]
  refine body p e s m _ below meth c (va_A ws sz) _ ⟨B.exec, B.bytes, hml, hown, fun w h => hts w (by rw [hw]; exact List.mem_cons_of_mem _ h)⟩ B.returns B.notSynchronized hsz rfl ⟨hP, hK, hD0.self (sz := sz), va_S.rf, ?_⟩ hU (lv_entry av hlen)
  intro q h
  rw [hsz] at h
  exact Or.inr h
theorem kt_startX {y : MethodName} {wsC ws' : List Cond} {rm : Room} {E : String} {XB : State → State → Prop} {maxL mc ms : Nat} {ret : Option FieldType} {av : List Value} {sz : Nat} (hy : plainName y.cls = true) (hw : wsC = Cond.code y cc maxL ret :: ws') (hlen : (lg_sl av).length ≤ maxL)
    (body : ∀ (p : Program) (e : Env) (s : State) (m : MethodId) (args : Array Value) (below : List Frame) (meth : Method) (c : Code) (A : Nat → Prop) (ls : Array Slot), CallFix p m c cc maxL s args ws' y.cls → meth.sig.returnType = ret → meth.locks = false → s.heap.size = sz → A = va_A ws sz → kb_W D cl tys A s s.heap [] ws → kt_U tx A s s.heap → (∀ x ∈ c.exceptionTable.toList, False) → lv_has ls maxL (lv_args 0 av) →
      W p l e rm s m args below meth c s.heap [] 0 0 (kt_MQ below E XB s mc ms (va_A ws sz)) (F0 m 0 ls [])) : kt_Met l y wsC rm (kt_Pc tx D cl tys sz av ws) E XB mc ms (va_A ws sz) := by
  refine MetFree.of_bodyS (code := cc) (maxLocals := maxL) (ret := ret) hy ?_ ?_
  · intro args s m h hn
    obtain ⟨meth, c, h1, h2, h3, h4, h5, h6, -, -⟩ := Cond.code_spec hn (atoms_spec (ws := wsC) h _ (by rw [hw]; exact List.mem_cons_self))
    exact ⟨meth, c, h1, h2, h3, h4, h5, h6⟩
  · intro p e s m args below meth c s₁ B hml hv _
    obtain ⟨rfl, hsz, hP, hK, hD0, hU⟩ := hv
    have hts := atoms_spec (ws := wsC) B.pre
    have hown : s.vm.findClass y.cls = some m.cls := findClass_of_methodNamed B.named
    have hcw := hts _ (by rw [hw]; exact List.mem_cons_self)
    obtain ⟨meth', c', hm', hc', -, -, -, -, hempty, -⟩ := Cond.code_spec B.named hcw
    have X := Stand.of_body B
    cases hm'.symm.trans X.method
    cases hc'.symm.trans X.code
    have hno : ∀ x ∈ c.exceptionTable.toList, False := by
      have h0 : c.exceptionTable.size = 0 := by simpa [Array.isEmpty] using hempty
      have h1 : c.exceptionTable.toList = [] := List.eq_nil_of_length_eq_zero (by simpa using h0)
      intro x hx
      rw [h1] at hx
      cases hx
    have hh0 : s₁.heap = s.heap := by rw [B.state]; rfl
    have K := body p e s m _ below meth c (va_A ws sz) _ ⟨B.exec, B.bytes, hml, hown, fun w h => hts w (by rw [hw]; exact List.mem_cons_of_mem _ h)⟩ B.returns B.notSynchronized hsz rfl ⟨hP, hK, hD0.self (sz := sz), va_S.rf, fun q h => by rw [hsz] at h; exact Or.inr h⟩ hU hno (lv_entry av hlen)
    obtain ⟨t, a1, o, b1, b2, b3⟩ := K s₁ hh0 X
    rw [← lg_entry_eq] at a1
    exact ⟨t, o, a1, b1, b2, b3⟩
theorem kt_callv0 {y : MethodName} {bytes : ByteArray} {maxL n index b : Nat} {ret : Option FieldType} {rm : Room} {C : String} {As st0 : List Value} {ws1 : va_W} {ci q0 : Nat} {q : vw_C} {fs : List Value}
    (S : CallFix p m c cc nL s args Ts own) (w : kb_W D cl tys A s H locs ws) (U : kt_U tx A s s.heap) (hM : ∀ sz, Met l y (Cond.code y bytes maxL ret :: Ts) rm (kt_Pc tx D cl tys sz (.ref b :: As) ws) (kb_Qv D cl sz ws ws1) 0 0 (va_A ws sz))
    (Y : kb_Y Ts y bytes maxL ret n) (hI : Cond.instanceMethod y ∈ Ts) (hs : Cond.selects C y y ∈ Ts) (hl : Cond.methodLink own index y ∈ Ts) (hrm : rm.cells = 0 ∧ rm.slots = 0 ∧ rm.frames + 1 ≤ R.frames ∧ 8 + (maxL + 11) + rm.locals ≤ R.locals)
    (hq : ws[q0]? = some (b, .inr (ci, fs))) (hc : cl[ci]? = some q) (hC : q.1 = C) (hn : As.length = n) (hsz : ls.size = nL) (hstack : st0 = As.reverse ++ .ref b :: rest) (hW : (rest.map fun v => v.category).sum ≤ 8) (hdg : decode cc pc = .ok (.invokevirtual index, 3)) (hf : cells ≤ R.cells ∧ slots ≤ R.slots)
    (kk : ∀ (H1 : Heap) (locs1 : List Loc), kb_W D cl tys A s H1 locs1 ws1 → W p l e R s m args below meth c H1 locs1 cells slots Q (F0 m (pc + 3) ls rest)) : W p l e R s m args below meth c H locs cells slots Q (F0 m pc ls st0) := by
  have hts := S.2.2.2.2
  refine va_callv (va_runV (As := As) (rest := rest) (C := C) S (hM H.size) ⟨callB_of n hts (kb_good Y.1 Y.2.1) rfl hrm.1 hrm.2.1 (hts _ Y.2.2.1) (hts _ hl) Y.2.2.2 hrm.2.2, hts _ hI, hts _ hs⟩ ⟨kt_blind, ?_, fun V hV hWm => ⟨rfl, by rw [hV], by rw [hV]; exact w.1, va_K.moved hWm.alike w.2.1, w.2.2.1.weaken (fun _ _ _ _ => trivial), by rw [hV]; exact kt_U.to U hWm (fun a h1 h2 => w.2.2.2.1.2.1 a h1 h2) (kb_free w)⟩⟩ rfl hn hsz hstack (lv_room hW) hdg ⟨hf.1, hf.2⟩) w.2.2.2.1 (fun q _ h => kb_free w q h) (kb_free w) (fun u t H1 locs1 ht hvm hp hB hz1 hk1 hS => ?_)
  · rw [← hC]
    exact va_recv w.2.1 w.1 hc hq
  · obtain ⟨hP1, hD1⟩ := hB
    rw [ht] at hP1
    exact kk H1 locs1 ⟨hP1, w.2.1, hD1.weaken (fun k q _ h => kb_free w _ h), hS, w.2.2.2.2⟩
theorem kt_callX {y : MethodName} {bytes : ByteArray} {maxL n index b mc ms : Nat} {ret : Option FieldType} {rm : Room} {C E : String} {As st0 : List Value} {ws1 : va_W} {ci q0 : Nat} {q : vw_C} {fs : List Value}
    (S : CallFix p m c cc nL s args Ts own) (w : kb_W D cl tys A s H locs ws) (U : kt_U tx A s s.heap) (hM : ∀ sz, kt_Met l y (Cond.code y bytes maxL ret :: Ts) rm (kt_Pc tx D cl tys sz (.ref b :: As) ws) E (kt_XB D cl sz ws ws1) mc ms (va_A ws sz))
    (Y : kb_Y Ts y bytes maxL ret n) (hI : Cond.instanceMethod y ∈ Ts) (hs : Cond.selects C y y ∈ Ts) (hl : Cond.methodLink own index y ∈ Ts) (hrm : rm.cells = mc ∧ rm.slots = ms ∧ rm.frames + 1 ≤ R.frames ∧ 8 + (maxL + 11) + rm.locals ≤ R.locals)
    (hq : ws[q0]? = some (b, .inr (ci, fs))) (hc : cl[ci]? = some q) (hC : q.1 = C) (hn : As.length = n) (hsz : ls.size = nL) (hstack : st0 = As.reverse ++ .ref b :: rest) (hW : (rest.map fun v => v.category).sum ≤ 8) (hdg : decode cc pc = .ok (.invokevirtual index, 3)) (hf : cells + mc ≤ R.cells ∧ slots + ms ≤ R.slots)
    (kx : ∀ (H1 : Heap) (locs1 : List Loc) (q9 : Addr) (ce : Cell), kb_W D cl tys A s H1 locs1 ws1 → H1[q9]? = some ce → ce.vm = .none → s.vm.findClass E = some ce.cls → kt_W p l e R s m args below meth c H1 locs1 (cells + mc) (slots + ms) Q (F0 m pc ls rest) q9) : W p l e R s m args below meth c H locs cells slots Q (F0 m pc ls st0) := by
  intro T hT X
  have hts := S.2.2.2.2
  obtain ⟨cellB, hcB, hoB, hclB⟩ := va_recv w.2.1 w.1 hc hq
  rw [hC] at hclB
  have hlen : ∀ sig, parseMethodDescriptor y.desc = some sig → As.length = sig.parameters.length := fun sig h => by
    have h2 := Y.2.2.2.2.2
    rw [h] at h2
    exact hn.trans (Option.some.inj h2).symm
  obtain ⟨q9, st₀, t, T', L, ce, h0, X', hL, e1, e2, hXB, hce, hcv, hcl, hst⟩ := kt_callV X S.1 S.2.2.2.1 (hts _ hl) (hts _ hI) (hts _ hs) (hts _ Y.2.2.1) ⟨Y.2.2.2.1, Y.2.2.2.2.1⟩ (hM H.size) kt_blind hrm (pay_in hts (kb_good Y.1 Y.2.1)) List.mem_cons_self (by rw [hT]; exact hcB) hoB hclB
    (g := F0 m pc ls st0) rfl (hsz.trans S.2.2.1.symm) (argsL := As) (rest := rest) hlen hstack (lv_room hW) (by rw [S.2.1]; exact hdg) hf
    (fun vm₁ hWm => ⟨rfl, by show T.heap.size = H.size; rw [hT], by show va_P D cl ws T.heap; rw [hT]; exact w.1, va_K.moved (U := T.setVm vm₁) hWm.alike w.2.1, w.2.2.1.weaken (fun _ _ _ _ => trivial), by
      show kt_U tx (va_A ws H.size) (T.setVm vm₁) T.heap
      rw [hT]
      exact kt_U.to (U := T.setVm vm₁) U hWm (fun a h1 h2 => w.2.2.2.1.2.1 a h1 h2) (kb_free w)⟩)
  obtain ⟨hP1, hD1, hF1⟩ := hXB
  have hS : va_S A s.heap t.heap (locs ++ L) := by
    obtain ⟨f1, f2⟩ := hF1
    rw [h0, hT] at f1 f2
    refine ⟨Nat.le_trans w.2.2.2.1.1 f1, fun q h1 h2 => ?_, fun z hz => ?_⟩
    · rw [f2 q (Nat.lt_of_lt_of_le h1 w.2.2.2.1.1) (fun h => h2 (kb_free w q h))]
      exact w.2.2.2.1.2.1 q h1 h2
    · rcases List.mem_append.mp hz with h | h
      · exact w.2.2.2.1.2.2 z h
      · exact kb_free w _ (hL z h)
  obtain ⟨t2, a1, b1⟩ := kx t.heap (locs ++ L) q9 ce ⟨hP1, w.2.1, hD1.weaken (fun k q _ h => kb_free w _ h), hS, w.2.2.2.2⟩ hce hcv hcl T' e1 X'
  exact ⟨t2, hst.trans a1, b1⟩
theorem kt_out {E : String} {XB : State → State → Prop} {mc ms : Nat} {free : Addr → Prop} {q9 : Addr} {ce : Cell} (hlk : meth.locks = false) (hno : ∀ x ∈ c.exceptionTable.toList, False) (hce : H[q9]? = some ce) (hv : ce.vm = .none) (hcl : s.vm.findClass E = some ce.cls) (hXB : ∀ t : State, t.heap = H → XB s t) (hfr : ∀ z ∈ locs, free z.base) (hm : cells ≤ mc ∧ slots ≤ ms) :
    kt_W p l e R s m args below meth c H locs cells slots (kt_MQ below E XB s mc ms free) (F0 m pc ls rest) q9 := by
  intro T hT X
  obtain ⟨st1, hrun, hend, hW, hsm⟩ := X.leaveThrown q9 (g := F0 m pc ls rest) rfl rfl rfl (fun x hx => (hno x hx).elim) hlk
  exact ⟨_, st1, .threw q9, hrun, hend, q9, rfl, ce, locs, hXB _ hT, by show T.heap[q9]? = some ce; rw [hT]; exact hce, hv, hcl, hW, hsm.mono hm.1 hm.2, hfr⟩
end KTC
