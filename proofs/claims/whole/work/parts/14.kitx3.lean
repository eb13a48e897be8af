/-! my own layer: 'throw new E(text)' -/
section KTD
variable {p : Program} {l : Launch} {e : Env} {R : Room} {s : State} {m : MethodId} {args : Array Value} {below : List Frame} {meth : Method} {c : Code} {T : State} {H : Heap} {locs : List Loc} {cells slots : Nat} {Q : State → Prop}
variable {cc : ByteArray} {pc nL : Nat} {ls : Array Slot} {rest : List Value} {D : va_G} {cl : List vw_C} {A : Nat → Prop} {tys : List (ClassId × FieldType)} {ws : va_W} {Ts : List Cond} {own : String} {tx : kt_X}
/-- the same stand, its base moved up to the heap of now -/
theorem kt_rebase (X : Stand p l e R s m args below meth c T locs cells slots) {R' : Room} (hf : R'.frames ≤ R.frames) (hl : R'.locals ≤ R.locals) (hc : cells + R'.cells ≤ R.cells) (hs : slots + R'.slots ≤ R.slots) :
    Stand p l e R' ({ s with heap := T.heap, slotsUsed := T.slotsUsed } : State) m args below meth c T [] 0 0 := by
  have hb := X.book
  have hh := X.heapSize
  have hu := X.used
  refine ⟨X.admits, X.cas, X.clock, X.frames, ?_, X.hears, X.method, X.code, X.here, X.tail, State.WarmedH.of_rootvm (s := s) rfl X.warmed, X.limits, X.bytes, ?_⟩
  · have hr := X.room
    simp only [State.hasRoom, Bool.and_eq_true, decide_eq_true_eq] at hr ⊢
    obtain ⟨⟨⟨⟨r1, r2, r3, r4, r5, r6⟩, r7⟩, r8⟩, -⟩ := hr
    have q1 : ({ s with heap := T.heap, slotsUsed := T.slotsUsed } : State).localsInUse = s.localsInUse := rfl
    have q2 : ({ s with heap := T.heap, slotsUsed := T.slotsUsed } : State).me = s.me := rfl
    have q3 : ({ s with heap := T.heap, slotsUsed := T.slotsUsed } : State).frames = s.frames := rfl
    rw [q1, q2, q3]
    refine ⟨⟨⟨⟨by omega, by omega, by omega, by omega, by omega, r6⟩, ?_⟩, ?_⟩, ?_⟩
    · show T.heap.size + R'.cells ≤ _; omega
    · show T.slotsUsed + R'.slots ≤ _; omega
    · exact hb
  · obtain ⟨e1, -⟩ := X.same
    refine ⟨?_, Nat.le_refl _, Nat.le_refl _, ?_, ?_, fun a c h => ⟨c, h, rfl, rfl, fun _ _ => rfl⟩⟩
    · exact e1
    · show T.slotsUsed = T.slotsUsed + ((T.heap.toList.drop T.heap.size).map (·.slots.size)).sum
      rw [List.drop_eq_nil_of_le (by simp)]
      rfl
    · show ((T.heap.toList.drop T.heap.size).map (·.slots.size)).sum ≤ 0
      rw [List.drop_eq_nil_of_le (by simp)]
      exact Nat.le_refl _
/-- what a throw asks of the tables -/
def kt_N (tx : kt_X) (Ts : List Cond) (own : String) (ik ic : Nat) (E : String) (names : List String) : Prop :=
  Bundle.fit E = true ∧ (∀ n ∈ names, Bundle.fit n = true) ∧ Cond.classLink own ik E ∈ Ts ∧ Cond.initialized E ∈ Ts ∧ Cond.instantiable E 6 ∈ Ts ∧
  (∀ w ∈ Bundle.ownAtoms own ic E names, w ∈ Ts ∨ w = .isRef (.static Bundle.tN "UNASSIGNED_STACK" Bundle.steD) ∨ w = .isRef (.static Bundle.tN "SUPPRESSED_SENTINEL" Bundle.listD) ∨ w = .laysStatic Bundle.tN "UNASSIGNED_STACK" Bundle.steD ∨ w = .laysStatic Bundle.tN "SUPPRESSED_SENTINEL" Bundle.listD ∨ (∃ y ∈ tx.2.2.1, w = .declares y) ∨ ∃ q ∈ tx.2.2.2.1, w = .castable q.1 q.2) ∧
  ∀ w ∈ Ts, (w.onTables && w.keeps) = true ∨ ∃ ty, w = .arrayClass ty
theorem kt_throw {E text : String} {names : List String} {ik ic is mc ms : Nat} {XB : State → State → Prop} {free : Addr → Prop} (S : CallFix p m c cc nL s args Ts own) (hst : l.stackTraces = false) (hlk : meth.locks = false) (w : kb_W D cl tys A s H locs ws) (U : kt_U tx A s s.heap) (hno : ∀ x ∈ c.exceptionTable.toList, False)
    (N : kt_N tx Ts own ik ic E names) (ht : (own, is, text) ∈ tx.1) (hsz : ls.size = nL) (d0 : decode cc pc = .ok (.new ik, 3)) (d3 : decode cc (pc + 3) = .ok (.dup, 1)) (d4 : decode cc (pc + 4) = .ok (.ldc is, 2)) (d6 : decode cc (pc + 6) = .ok (.invokespecial ic, 3)) (d9 : decode cc (pc + 9) = .ok (.athrow, 1))
    (hR : names.length + 3 < R.frames ∧ (rest.map fun v => v.category).sum + (13 * (names.length + 1) + 43) ≤ R.locals ∧ cells + 1 ≤ R.cells ∧ slots + 6 ≤ R.slots) (hm : cells + 1 ≤ mc ∧ slots + 6 ≤ ms)
    (hfr : ∀ z ∈ locs, free z.base) (hXB : ∀ t : State, H.size ≤ t.heap.size → (∀ q : Nat, q < H.size → t.heap[q]? = H[q]?) → XB s t) :
    W p l e R s m args below meth c H locs cells slots (kt_MQ below E XB s mc ms free) (F0 m pc ls rest) := by
  obtain ⟨n1, n2, n3, n4, n5, n6, n7⟩ := N
  intro T hT X
  have htr : e.platform.stackTraces = false := by rw [X.admits.platform]; exact hst
  have X0 := kt_rebase X (R' := { frames := R.frames, cells := 1, slots := 6, locals := R.locals }) (Nat.le_refl _) (Nat.le_refl _) hR.2.2.1 hR.2.2.2
  generalize hS : ({ s with heap := T.heap, slotsUsed := T.slotsUsed } : State) = s0 at X0
  have hvm : s0.vm = s.vm := by rw [← hS]
  have hheap : s0.heap = H := by rw [← hS]; exact hT
  have hW0 : s.WarmedH s0.vm := by rw [hvm]; exact State.WarmedH.refl s
  have hts : ∀ w ∈ Ts, w.before args s0 = true := fun w h => word_at hW0 (n7 w h) (S.2.2.2.2 w h)
  have hown : s0.vm.findClass own = some m.cls := by rw [hvm]; exact S.2.2.2.1
  have U0 : kt_U tx A s0 s0.heap := by
    rw [hheap]
    exact kt_U.to U hW0 (fun a h1 h2 => w.2.2.2.1.2.1 a h1 h2) (fun _ h => h)
  obtain ⟨sa, hstr⟩ := U0.2.2.1 _ ht
  have K : W p l e { frames := R.frames, cells := 1, slots := 6, locals := R.locals } s0 m args below meth c H [] 0 0 (fun t => t.status = .running ∧ Ended t below (.threw H.size) ∧ s0.WarmedH t.vm ∧ s0.sameButNew ({ t with vm := s0.vm } : State) [] 1 6 ∧ ∃ ce, t.heap[H.size]? = some ce ∧ ce.vm = .none ∧ s0.vm.findClass E = some ce.cls) (F0 m pc ls rest) := by
    refine W.newc S.1 S.2.1 (own := own) (C := E) (index := ik) (n := 6) hown (hts _ n3) (hts _ n5) (hts _ n4) (g := F0 m pc ls rest) rfl d0 (Nat.le_refl _) (Nat.le_refl _) (fun cC kC h1 h2 h3 h4 => ?_)
    refine W.eq (g2 := F0 m (pc + 3) ls (.ref H.size :: rest)) rfl ?_
    refine lv_dup S.1 S.2.1 d3 rfl ?_
    refine W.eq (g2 := F0 m (pc + 4) ls (.ref H.size :: .ref H.size :: rest)) rfl ?_
    refine va_ldcS S.1 S.2.1 hown hstr d4 ?_
    refine W.eq (g2 := F0 m (pc + 6) ls (.ref sa :: .ref H.size :: .ref H.size :: rest)) rfl ?_
    intro T1 hT1 X1
    obtain ⟨V, hsteps, hrun, hend, hWV, hsame, ce, hce, hO⟩ := X1.ctorThrowS S.1 htr (own := own) (cls := E) (names := names) (ic := ic) hown n1 n2
      (fun a ha => by
        rcases n6 a ha with h | h | h | h | h | ⟨y, hy, h⟩ | ⟨q, hq, h⟩
        · exact hts a h
        · rw [h]; exact U0.1.ref
        · rw [h]; exact U0.2.1.ref
        · rw [h]; exact U0.1.lays
        · rw [h]; exact U0.2.1.lays
        · rw [h]; exact va_Nw.use rfl (U0.2.2.2.2.1 y hy)
        · rw [h]; exact va_Nw.use rfl (U0.2.2.2.2.2.1 q hq)) (fun x hx => nomatch hx) h1 h2 (a := H.size) (by rw [hT1]; simp [freshCell]) (by rw [hheap]; exact Nat.le_refl _)
      (msg := .ref sa) rfl (g := F0 m (pc + 6) ls (.ref sa :: .ref H.size :: .ref H.size :: rest)) rfl (by rw [hsz]; exact S.2.2.1.symm) rfl rfl (rest := rest) rfl (by rw [S.2.1]; exact d6) (by rw [S.2.1]; exact d9) (fun x hx => (hno x hx).elim) hR.1
      (by
        show 2 * 0 + ((Value.ref H.size :: rest).map fun v => v.category).sum + (13 * (names.length + 1) + 42) ≤ R.locals
        have h9 := hR.2.1
        have h8 : ((Value.ref H.size :: rest).map fun v => v.category).sum = 1 + (rest.map fun v => v.category).sum := by rw [List.map_cons, List.sum_cons]; rfl
        omega) hlk
    exact ⟨V, hsteps, hrun, hend, hWV, hsame, ce, hce, hO.vm, hO.cls⟩
  obtain ⟨t, a1, hrun, hend, hWt, hsm, ce, hce, hcv, hcc⟩ := K T hT X0
  have hWs : s.WarmedH t.vm := State.WarmedH.of_rootvm (s := s0) hvm.symm hWt
  have hh0 : s0.heap.size ≤ t.heap.size := hsm.2.1
  have hcellq : ∀ q : Nat, q < H.size → t.heap[q]? = H[q]? := fun q hq => by
    obtain ⟨-, -, -, -, -, h6⟩ := hsm
    obtain ⟨c9, e1, e2, e3, e4⟩ := h6 q (H[q]) (by rw [hheap]; exact Array.getElem?_eq_getElem hq)
    have e5 : c9.slots = (H[q]).slots := Array.ext_getElem? fun i => e4 i (fun h => nomatch h)
    have e6 : c9 = H[q] := by rw [e5] at e2; exact e2
    have e7 : t.heap[q]? = some c9 := e1
    rw [e7, e6, Array.getElem?_eq_getElem hq]
  have hsame : s.sameButNew ({ t with vm := s.vm } : State) (locs ++ []) (cells + 1) (slots + 6) := by
    refine X.same.trans (t := T.setVm s.vm) ?_
    obtain ⟨f1, f2, f3, f4, f5, f6⟩ := hsm
    subst hS
    refine ⟨?_, f2, f3, f4, f5, f6⟩
    obtain ⟨e1, -⟩ := X.same
    have g1 : ({ t with vm := s.vm } : State) = ({ s.setFrames t.frames with heap := t.heap, slotsUsed := t.slotsUsed } : State) := f1
    have g2 : (T.setVm s.vm).setFrames t.frames = ({ s.setFrames t.frames with heap := T.heap, slotsUsed := T.slotsUsed } : State) := by
      rw [e1]
      show ({ (s.setFrames (T.setVm s.vm).frames).setFrames t.frames with heap := T.heap, slotsUsed := T.slotsUsed } : State) = _
      rw [State.setFrames_setFrames]
    have g3 := congrArg (fun u : State => ({ u with heap := t.heap, slotsUsed := t.slotsUsed } : State)) g2.symm
    exact g1.trans g3
  rw [List.append_nil] at hsame
  rw [hvm] at hcc
  rw [hheap] at hh0
  exact ⟨t, a1, .threw H.size, hrun, hend, H.size, rfl, ce, locs, hXB t hh0 hcellq, hce, hcv, hcc, hWs, hsame.mono hm.1 hm.2, hfr⟩
end KTD
section KTE
variable {p : Program} {l : Launch} {e : Env} {R : Room} {s : State} {m : MethodId} {args : Array Value} {below : List Frame} {meth : Method} {c : Code} {T : State} {H : Heap} {locs : List Loc} {cells slots : Nat} {Q : State → Prop}
variable {cc : ByteArray} {pc nL : Nat} {ls : Array Slot} {rest : List Value} {D : va_G} {cl : List vw_C} {A : Nat → Prop} {tys : List (ClassId × FieldType)} {ws : va_W} {Ts : List Cond} {own : String} {tx : kt_X}
theorem kx_r {σ : Type} {k : Nat} {v r : Int32} {z z' : σ} (h : some (0, v, z) = some (k, r, z')) : some (v, z) = some (r, z') := by
  have q := kx_0 h
  rw [q.2.1, q.2.2]
theorem kx_throw {ws0 : va_W} {σ : Type} (f : σ → va_W) {z z' : σ} {sz k kk : Nat} {r : Int32} {text : String} {names : List String} {ik ic is mc ms : Nat} (S : CallFix p m c cc nL s args Ts own) (hst : l.stackTraces = false) (hlk : meth.locks = false) (hA : A = va_A ws0 sz) (w : kb_W D cl tys A s H locs (f z)) (U : kt_U tx A s s.heap) (hno : ∀ x ∈ c.exceptionTable.toList, False)
    (N : kt_N tx Ts own ik ic (kx_E kk) names) (ht : (own, is, text) ∈ tx.1) (h : some (kk, (0 : Int32), z) = some (k, r, z')) (hsz : ls.size = nL) (d0 : decode cc pc = .ok (.new ik, 3)) (d3 : decode cc (pc + 3) = .ok (.dup, 1)) (d4 : decode cc (pc + 4) = .ok (.ldc is, 2)) (d6 : decode cc (pc + 6) = .ok (.invokespecial ic, 3)) (d9 : decode cc (pc + 9) = .ok (.athrow, 1))
    (hR : names.length + 3 < R.frames ∧ (rest.map fun v => v.category).sum + (13 * (names.length + 1) + 43) ≤ R.locals ∧ cells + 1 ≤ R.cells ∧ slots + 6 ≤ R.slots) (hm : cells + 1 ≤ mc ∧ slots + 6 ≤ ms) :
    W p l e R s m args below meth c H locs cells slots (kt_MQ below (kx_E k) (kt_XB D cl sz ws0 (f z')) s mc ms (va_A ws0 sz)) (F0 m pc ls rest) := by
  obtain ⟨e0, -, e2⟩ := kx_0 h
  subst e0
  subst e2
  subst hA
  exact kt_throw S hst hlk w U hno N ht hsz d0 d3 d4 d6 d9 hR hm (fun z hz => w.2.2.2.1.2.2 z hz) (fun t h1 h2 => ⟨w.1.kept (fun k q hk => h2 _ (va_at.lt (w.1 k q hk))), w.2.2.1, Nat.le_trans w.2.2.2.1.1 h1, fun q h3 h4 => (h2 q (Nat.lt_of_lt_of_le h3 w.2.2.2.1.1)).trans (w.2.2.2.1.2.1 q h3 h4)⟩)
theorem kx_out {ws0 : va_W} {σ : Type} (f : σ → va_W) {z z' : σ} {sz k k' mc ms : Nat} {r : Int32} {q9 : Addr} {ce : Cell} (hlk : meth.locks = false) (hA : A = va_A ws0 sz) (w : kb_W D cl tys A s H locs (f z)) (hno : ∀ x ∈ c.exceptionTable.toList, False) (h : some (k, (0 : Int32), z) = some (k', r, z'))
    (hce : H[q9]? = some ce) (hv : ce.vm = .none) (hcl : s.vm.findClass (kx_E k) = some ce.cls) (hm : cells ≤ mc ∧ slots ≤ ms) :
    kt_W p l e R s m args below meth c H locs cells slots (kt_MQ below (kx_E k') (kt_XB D cl sz ws0 (f z')) s mc ms (va_A ws0 sz)) (F0 m pc ls rest) q9 := by
  obtain ⟨e0, -, e2⟩ := kx_0 h
  subst e0
  subst e2
  subst hA
  exact kt_out hlk hno hce hv hcl (fun t ht => ⟨by rw [ht]; exact w.1, w.2.2.1, w.2.2.2.1.F ht⟩) (fun z hz => w.2.2.2.1.2.2 z hz) hm
end KTE
