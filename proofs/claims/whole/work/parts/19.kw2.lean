/-! my own layer: a method with a table of rows that take what is thrown -/
section KWC
variable {p : Program} {l : Launch} {e : Env} {R : Room} {s : State} {m : MethodId} {args : Array Value} {below : List Frame} {meth : Method} {c : Code} {H H1 : Heap} {locs locs1 : List Loc} {cells slots : Nat} {Q : State → Prop}
variable {cc : ByteArray} {pc nL : Nat} {ls : Array Slot} {rest : List Value} {D : va_G} {cl : List vw_C} {A : Nat → Prop} {tys tysL : List (ClassId × FieldType)} {ws w1 w2 w3 : va_W} {Ts : List Cond} {own : String} {tx : kt_X}
def kw_tab (c : Code) : List (Nat × Nat × Nat × Nat) := c.exceptionTable.toList.map (fun h => (h.startPc, h.endPc, h.handlerPc, h.catchType))
theorem kw_start {y : MethodName} {wsC ws' : List Cond} {rm : Room} {Qc : Array Value → State → Outcome → State → Prop} {maxL mc ms : Nat} {ret : Option FieldType} {hh : List (Nat × Nat × Nat × Nat)} {av : List Value} {sz : Nat} (hy : plainName y.cls = true) (hw : wsC = Cond.codeWith y cc maxL ret hh :: ws') (hlen : (lg_sl av).length ≤ maxL)
    (body : ∀ (p : Program) (e : Env) (s : State) (m : MethodId) (args : Array Value) (below : List Frame) (meth : Method) (c : Code) (A : Nat → Prop) (ls : Array Slot), CallFix p m c cc maxL s args ws' y.cls → meth.sig.returnType = ret → meth.locks = false → s.heap.size = sz → A = va_A ws sz → kb_W D cl tys A s s.heap [] ws → kt_U tx A s s.heap → kw_tab c = hh → lv_has ls maxL (lv_args 0 av) →
      W p l e rm s m args below meth c s.heap [] 0 0 (MQ below Qc args s mc ms (va_A ws sz)) (F0 m 0 ls [])) : Met l y wsC rm (kt_Pc tx D cl tys sz av ws) Qc mc ms (va_A ws sz) := by
  refine va_MetW (cc := cc) (maxL := maxL) (ret := ret) (hh := hh) hy hw ?_
  intro p e s m args below meth c s₁ B hml hv
  obtain ⟨rfl, hsz, hP, hK, hD0, hU⟩ := hv
  have hts := atoms_spec (ws := wsC) B.pre
  have hown : s.vm.findClass y.cls = some m.cls := findClass_of_methodNamed B.named
  have hcw := hts _ (by rw [hw]; exact List.mem_cons_self)
  obtain ⟨m', meth', c', hn', hm', hc', -, -, htab, -⟩ := Cond.codeWith_spec hcw
  have X := Stand.of_body B
  cases hn'.symm.trans B.named
  cases hm'.symm.trans X.method
  cases hc'.symm.trans X.code
  rw [lg_entry_eq]
  refine body p e s m _ below meth c (va_A ws sz) _ ⟨B.exec, B.bytes, hml, hown, fun w h => hts w (by rw [hw]; exact List.mem_cons_of_mem _ h)⟩ B.returns B.notSynchronized hsz rfl ⟨hP, hK, hD0.self (sz := sz), va_S.rf, ?_⟩ hU htab (lv_entry av hlen)
  intro q h
  rw [hsz] at h
  exact Or.inr h
theorem kw_hit1 {tbl : List ExceptionTableEntry} {a b h ct : Nat} {r : List (Nat × Nat × Nat × Nat)} {pl : Platform} {E nm : String} {ce : Cell} (hpl : pl.magicAccessors = ({} : Platform).magicAccessors) (hown : s.vm.findClass own = some m.cls) (ht : tbl.map (fun h => (h.startPc, h.endPc, h.handlerPc, h.catchType)) = (a, b, h, ct) :: r) (hab : a ≤ pc ∧ pc < b) (h0 : ct ≠ 0) (hl : (Cond.classLink own ct nm).before args s = true) (hc : va_Nw (.castable E nm) s) (hcl : s.vm.findClass E = some ce.cls) : kt_hit pl s m.cls pc ce.cls tbl h := by
  match tbl, ht with
  | x :: t, ht =>
    have hx : (x.startPc, x.endPc, x.handlerPc, x.catchType) = (a, b, h, ct) := (List.cons.inj ht).1
    have e1 : x.startPc = a := congrArg Prod.fst hx
    have e2 : x.endPc = b := congrArg (fun q => q.2.1) hx
    have e3 : x.handlerPc = h := congrArg (fun q => q.2.2.1) hx
    have e4 : x.catchType = ct := congrArg (fun q => q.2.2.2) hx
    obtain ⟨c5, hc5, hcl5⟩ := Cond.classLink_spec hown hl pl hpl
    obtain ⟨c3, c4, hc3, hc4, hasg⟩ := Cond.castable_spec (va_Nw.use (A := args) rfl hc)
    cases Option.some.inj (hc3.symm.trans hcl)
    cases Option.some.inj (hc4.symm.trans hc5)
    refine Or.inr ⟨by simp [covers, e1, e2, hab], by rw [e4]; exact h0, _, by rw [e4]; exact hcl5, Or.inl ⟨hasg, e3.symm⟩⟩
theorem kw_hitN {tbl : List ExceptionTableEntry} {a b h h9 ct : Nat} {r : List (Nat × Nat × Nat × Nat)} {pl : Platform} {E nm : String} {ce : Cell} (hpl : pl.magicAccessors = ({} : Platform).magicAccessors) (hown : s.vm.findClass own = some m.cls) (ht : tbl.map (fun h => (h.startPc, h.endPc, h.handlerPc, h.catchType)) = (a, b, h9, ct) :: r) (hab : a ≤ pc ∧ pc < b) (h0 : ct ≠ 0) (hl : (Cond.classLink own ct nm).before args s = true) (hc : va_Nc E nm s) (hcl : s.vm.findClass E = some ce.cls)
    (hr : ∀ t : List ExceptionTableEntry, t.map (fun h => (h.startPc, h.endPc, h.handlerPc, h.catchType)) = r → kt_hit pl s m.cls pc ce.cls t h) : kt_hit pl s m.cls pc ce.cls tbl h := by
  match tbl, ht with
  | x :: t, ht =>
    have hx : (x.startPc, x.endPc, x.handlerPc, x.catchType) = (a, b, h9, ct) := (List.cons.inj ht).1
    have e1 : x.startPc = a := congrArg Prod.fst hx
    have e2 : x.endPc = b := congrArg (fun q => q.2.1) hx
    have e4 : x.catchType = ct := congrArg (fun q => q.2.2.2) hx
    obtain ⟨c5, hc5, hcl5⟩ := Cond.classLink_spec hown hl pl hpl
    obtain ⟨c3, c4, hc3, hc4, hasg⟩ := hc
    cases Option.some.inj (hc3.symm.trans hcl)
    cases Option.some.inj (hc4.symm.trans hc5)
    refine Or.inr ⟨by simp [covers, e1, e2, hab], by rw [e4]; exact h0, _, by rw [e4]; exact hcl5, Or.inr ⟨hasg, hr t (List.cons.inj ht).2⟩⟩
theorem kw_last (S : CallFix p m c cc nL s args Ts own) (w : kb_W D cl tys A s H locs ws) (q0 t0 : Nat) {a : Nat} {cA : ClassId} {n : Nat} {f : Nat → Int64} {ws1 : va_W} {i : Int32} {x : Int64} (ha : ws[q0]? = some (a, .inl (cA, n, .inr (.inl f)))) (ht : tys[t0]? = some (cA, .long)) (hin : vp_in i n) (hset : ws.set q0 (a, .inl (cA, n, .inr (.inl (vp_updL f i.toNatClampNeg x)))) = ws1) (hdg : decode cc pc = .ok (.lastore, 1))
    (kk : ∀ (H1 : Heap) (locs1 : List Loc), kb_W D cl tys A s H1 locs1 ws1 → W p l e R s m args below meth c H1 locs1 cells slots Q (F0 m (pc + 1) ls rest)) : W p l e R s m args below meth c H locs cells slots Q (F0 m pc ls (.long x :: .int i :: .ref a :: rest)) := by
  refine va_last (D := D) S.1 S.2.1 w.2.1 w.1 w.2.2.1 w.2.2.2.1 q0 t0 ha ht hin hdg (fun H1 locs1 hP hD hS => ?_)
  rw [hset] at hP hD
  exact kk H1 locs1 ⟨hP, w.2.1, hD, hS, w.2.2.2.2⟩
end KWC
/-- the law's own array of one number -/
def oW (cJ : ClassId) (o : Nat) (g : Nat → Int64) : va_W := [(o, .inl (cJ, 1, .inr (.inl g)))]
