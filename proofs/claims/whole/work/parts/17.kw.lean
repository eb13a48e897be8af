/-! my own layer: worlds side by side; calls that use one of them -/
section KWA
variable {D : va_G} {cl : List vw_C} {w1 w2 w3 : va_W} {H H1 : Heap} {A : Nat → Prop}
theorem kw_Pr (h : va_P D cl (w1 ++ w2) H) : va_P D cl w2 H := fun k q hk => h (w1.length + k) q (by rw [List.getElem?_append_right (by omega)]; simpa using hk)
theorem kw_Pl (h : va_P D cl (w1 ++ w2) H) : va_P D cl w1 H := fun k q hk => h k q (by rw [List.getElem?_append_left (List.getElem?_eq_some_iff.mp hk).1]; exact hk)
theorem kw_ir {k : Nat} {q : Nat × va_E} (h : w2[k]? = some q) : (w1 ++ w2)[w1.length + k]? = some q := by rw [List.getElem?_append_right (by omega)]; simpa using h
theorem kw_il {k : Nat} {q : Nat × va_E} (h : w1[k]? = some q) : (w1 ++ w2)[k]? = some q := by rw [List.getElem?_append_left (List.getElem?_eq_some_iff.mp h).1]; exact h
theorem kw_Dr (h : va_D A (w1 ++ w2)) : va_D A w2 := ⟨fun i j p q hi hj e => by have := h.1 _ _ p q (kw_ir (w1 := w1) hi) (kw_ir (w1 := w1) hj) e; omega, fun k q hk => h.2 _ q (kw_ir (w1 := w1) hk)⟩
theorem kw_Dl (h : va_D A (w1 ++ w2)) : va_D A w1 := ⟨fun i j p q hi hj e => h.1 _ _ p q (kw_il hi) (kw_il hj) e, fun k q hk => h.2 _ q (kw_il hk)⟩
theorem kw_dis (h : va_D A (w1 ++ w2)) (i j : Nat) (p q : Nat × va_E) (hi : w1[i]? = some p) (hj : w2[j]? = some q) : p.1 ≠ q.1 := fun e => by
  have h1 := h.1 _ _ p q (kw_il hi) (kw_ir (w1 := w1) hj) e
  have h2 := (List.getElem?_eq_some_iff.mp hi).1
  omega
theorem kw_A {sz : Nat} (q : Nat) (h : va_A w2 sz q) : va_A (w1 ++ w2) sz q := h.elim (fun ⟨k, e, hk⟩ => Or.inl ⟨_, e, kw_ir (w1 := w1) hk⟩) Or.inr
end KWA
section KWB
variable {p : Program} {l : Launch} {e : Env} {R : Room} {s : State} {m : MethodId} {args : Array Value} {below : List Frame} {meth : Method} {c : Code} {H H1 : Heap} {locs locs1 : List Loc} {cells slots : Nat} {Q : State → Prop}
variable {cc : ByteArray} {pc nL : Nat} {ls : Array Slot} {rest : List Value} {D : va_G} {cl : List vw_C} {A : Nat → Prop} {tys tysL : List (ClassId × FieldType)} {w1 w2 w3 : va_W} {Ts : List Cond} {own : String} {tx : kt_X}
theorem kw_join (w : kb_W D cl tys A s H locs (w1 ++ w2)) (hk : ∀ q : Nat, q < H.size → ¬ va_A w2 H.size q → H1[q]? = H[q]?) (hP : va_P D cl w3 H1) (hD : va_D (va_A w2 H.size) w3) (hS : va_S A s.heap H1 locs1) : kb_W D cl tys A s H1 locs1 (w1 ++ w3) := by
  obtain ⟨wP, wK, wD, wS, wA⟩ := w
  have hno : ∀ (i : Nat) (p : Nat × va_E), w1[i]? = some p → p.1 < H.size ∧ ¬ va_A w2 H.size p.1 := fun i p hi => by
    have h1 := va_at.lt (wP i p (kw_il hi))
    refine ⟨h1, ?_⟩
    rintro (⟨k, e, hk⟩ | h)
    · exact kw_dis wD i k p _ hi hk rfl
    · omega
  have hfr : ∀ q, va_A w2 H.size q → A q := by
    rintro q (⟨k, e, h⟩ | h)
    · exact wD.2 _ _ (kw_ir (w1 := w1) h)
    · exact wA q (Nat.le_trans wS.1 h)
  refine ⟨va_P.app ((kw_Pl wP).kept (fun k q hq => hk _ (hno k q hq).1 (hno k q hq).2)) hP, wK, va_D.app (kw_Dl wD) (hD.weaken (fun _ _ _ h => hfr _ h)) (fun i j p q hi hj e => ?_), hS, wA⟩
  exact (hno i p hi).2 (e ▸ hD.2 j q hj)
theorem kw_swap (w : kb_W D cl tys A s H locs (w1 ++ w2)) : kb_W D cl tys A s H locs (w2 ++ w1) := by
  obtain ⟨wP, wK, wD, wS, wA⟩ := w
  exact ⟨va_P.app (kw_Pr wP) (kw_Pl wP), wK, va_D.app (kw_Dr wD) (kw_Dl wD) (fun i j p q hi hj e => kw_dis wD j i q p hj hi e.symm), wS, wA⟩
/-- out, then one world, then the other: the two change places -/
theorem kw_rot (w : kb_W D cl tys A s H locs (w1 ++ (w2 ++ w3))) : kb_W D cl tys A s H locs (w1 ++ (w3 ++ w2)) := by
  obtain ⟨wP, wK, wD, wS, wA⟩ := w
  have p2 := kw_Pr wP
  have d2 := kw_Dr wD
  have e2 : kb_W D cl tys A s H locs (w3 ++ w2) := kw_swap ⟨p2, wK, d2, wS, wA⟩
  refine ⟨va_P.app (kw_Pl wP) e2.1, wK, va_D.app (kw_Dl wD) e2.2.2.1 (fun i j p q hi hj e => ?_), wS, wA⟩
  by_cases h : j < w3.length
  · rw [List.getElem?_append_left h] at hj
    exact kw_dis wD i _ p q hi (kw_ir (w1 := w2) hj) e
  · rw [List.getElem?_append_right (by omega)] at hj
    exact kw_dis wD i _ p q hi (kw_il hj) e
theorem kw_assoc {P : va_W → Prop} (h : P (w1 ++ (w2 ++ w3))) : P ((w1 ++ w2) ++ w3) := by rw [List.append_assoc]; exact h
theorem kw_free (w : kb_W D cl tys A s H locs (w1 ++ w2)) : ∀ q, va_A w2 H.size q → A q := fun q h => kb_free w q (kw_A q h)
theorem kw_calli {y : MethodName} {bytes : ByteArray} {maxL n index b : Nat} {ret : Option FieldType} {rm : Room} {C : String} {As st0 : List Value} {r : Int32} {ci q0 : Nat} {q : vw_C} {fs : List Value}
    (S : CallFix p m c cc nL s args Ts own) (w : kb_W D cl tysL A s H locs (w1 ++ w2)) (is : List Nat) (hty : is.filterMap (fun i => tysL[i]?) = tys) (hM : ∀ sz, Met l y (Cond.code y bytes maxL ret :: Ts) rm (kb_Pc D cl tys sz (.ref b :: As) w2) (kb_Qi D cl sz w2 r w3) 0 0 (va_A w2 sz))
    (Y : kb_Y Ts y bytes maxL ret n) (hI : Cond.instanceMethod y ∈ Ts) (hs : Cond.selects C y y ∈ Ts) (hl : Cond.methodLink own index y ∈ Ts) (hrm : rm.cells = 0 ∧ rm.slots = 0 ∧ rm.frames + 1 ≤ R.frames ∧ 8 + (maxL + 11) + rm.locals ≤ R.locals)
    (hq : w2[q0]? = some (b, .inr (ci, fs))) (hc : cl[ci]? = some q) (hC : q.1 = C) (hn : As.length = n) (hsz : ls.size = nL) (hstack : st0 = As.reverse ++ .ref b :: rest) (hW : (rest.map fun v => v.category).sum ≤ 8) (hdg : decode cc pc = .ok (.invokevirtual index, 3)) (hf : cells ≤ R.cells ∧ slots ≤ R.slots)
    (kk : ∀ (H1 : Heap) (locs1 : List Loc), kb_W D cl tysL A s H1 locs1 (w1 ++ w3) → W p l e R s m args below meth c H1 locs1 cells slots Q (F0 m (pc + 3) ls (.int r :: rest))) : W p l e R s m args below meth c H locs cells slots Q (F0 m pc ls st0) := by
  have hts := S.2.2.2.2
  have hK2 := w.2.1.sub is hty
  refine va_calli (va_runV (As := As) (rest := rest) (C := C) S (hM H.size) ⟨callB_of n hts (kb_good Y.1 Y.2.1) rfl hrm.1 hrm.2.1 (hts _ Y.2.2.1) (hts _ hl) Y.2.2.2 hrm.2.2, hts _ hI, hts _ hs⟩ ⟨kb_blind, ?_, fun U hU hWm => ⟨rfl, by rw [hU], by rw [hU]; exact kw_Pr w.1, va_K.moved hWm.alike hK2, (kw_Dr w.2.2.1).weaken (fun _ _ _ _ => trivial)⟩⟩ rfl hn hsz hstack (lv_room hW) hdg ⟨hf.1, hf.2⟩) w.2.2.2.1 (fun q _ h => kw_free w q h) (kw_free w) (fun r' u t H1 locs1 ht hvm hp hB hz1 hk1 hS => ?_)
  · rw [← hC]
    exact va_recv w.2.1 (kw_Pr w.1) hc hq
  · obtain ⟨hP1, hD1⟩ := hB
    subst hp
    rw [ht] at hP1
    exact kk H1 locs1 (kw_join w hk1 hP1 hD1 hS)
theorem kw_U (w : kb_W D cl tysL A s H locs (w1 ++ w2)) (U : kt_U tx A s s.heap) {V : State} (hV : V.heap = H) (hWm : s.WarmedH V.vm) : kt_U tx (va_A w2 H.size) V V.heap := by
  rw [hV]
  exact kt_U.to U hWm (fun a h1 h2 => w.2.2.2.1.2.1 a h1 h2) (kw_free w)
theorem kw_callt {y : MethodName} {bytes : ByteArray} {maxL n index b : Nat} {ret : Option FieldType} {rm : Room} {C : String} {As st0 : List Value} {r : Int32} {ci q0 : Nat} {q : vw_C} {fs : List Value}
    (S : CallFix p m c cc nL s args Ts own) (w : kb_W D cl tysL A s H locs (w1 ++ w2)) (U : kt_U tx A s s.heap) (is : List Nat) (hty : is.filterMap (fun i => tysL[i]?) = tys) (hM : ∀ sz, Met l y (Cond.code y bytes maxL ret :: Ts) rm (kt_Pc tx D cl tys sz (.ref b :: As) w2) (kb_Qi D cl sz w2 r w3) 0 0 (va_A w2 sz))
    (Y : kb_Y Ts y bytes maxL ret n) (hI : Cond.instanceMethod y ∈ Ts) (hs : Cond.selects C y y ∈ Ts) (hl : Cond.methodLink own index y ∈ Ts) (hrm : rm.cells = 0 ∧ rm.slots = 0 ∧ rm.frames + 1 ≤ R.frames ∧ 8 + (maxL + 11) + rm.locals ≤ R.locals)
    (hq : w2[q0]? = some (b, .inr (ci, fs))) (hc : cl[ci]? = some q) (hC : q.1 = C) (hn : As.length = n) (hsz : ls.size = nL) (hstack : st0 = As.reverse ++ .ref b :: rest) (hW : (rest.map fun v => v.category).sum ≤ 8) (hdg : decode cc pc = .ok (.invokevirtual index, 3)) (hf : cells ≤ R.cells ∧ slots ≤ R.slots)
    (kk : ∀ (H1 : Heap) (locs1 : List Loc), kb_W D cl tysL A s H1 locs1 (w1 ++ w3) → W p l e R s m args below meth c H1 locs1 cells slots Q (F0 m (pc + 3) ls (.int r :: rest))) : W p l e R s m args below meth c H locs cells slots Q (F0 m pc ls st0) := by
  have hts := S.2.2.2.2
  have hK2 := w.2.1.sub is hty
  refine va_calli (va_runV (As := As) (rest := rest) (C := C) S (hM H.size) ⟨callB_of n hts (kb_good Y.1 Y.2.1) rfl hrm.1 hrm.2.1 (hts _ Y.2.2.1) (hts _ hl) Y.2.2.2 hrm.2.2, hts _ hI, hts _ hs⟩ ⟨kt_blind, ?_, fun V hV hWm => ⟨rfl, by rw [hV], by rw [hV]; exact kw_Pr w.1, va_K.moved hWm.alike hK2, (kw_Dr w.2.2.1).weaken (fun _ _ _ _ => trivial), kw_U w U hV hWm⟩⟩ rfl hn hsz hstack (lv_room hW) hdg ⟨hf.1, hf.2⟩) w.2.2.2.1 (fun q _ h => kw_free w q h) (kw_free w) (fun r' u t H1 locs1 ht hvm hp hB hz1 hk1 hS => ?_)
  · rw [← hC]
    exact va_recv w.2.1 (kw_Pr w.1) hc hq
  · obtain ⟨hP1, hD1⟩ := hB
    subst hp
    rw [ht] at hP1
    exact kk H1 locs1 (kw_join w hk1 hP1 hD1 hS)
theorem kw_callX {y : MethodName} {bytes : ByteArray} {maxL n index b mc ms : Nat} {ret : Option FieldType} {rm : Room} {C E : String} {As st0 : List Value} {ci q0 : Nat} {q : vw_C} {fs : List Value}
    (S : CallFix p m c cc nL s args Ts own) (w : kb_W D cl tysL A s H locs (w1 ++ w2)) (U : kt_U tx A s s.heap) (is : List Nat) (hty : is.filterMap (fun i => tysL[i]?) = tys) (hM : ∀ sz, kt_Met l y (Cond.code y bytes maxL ret :: Ts) rm (kt_Pc tx D cl tys sz (.ref b :: As) w2) E (kt_XB D cl sz w2 w3) mc ms (va_A w2 sz))
    (Y : kb_Y Ts y bytes maxL ret n) (hI : Cond.instanceMethod y ∈ Ts) (hs : Cond.selects C y y ∈ Ts) (hl : Cond.methodLink own index y ∈ Ts) (hrm : rm.cells = mc ∧ rm.slots = ms ∧ rm.frames + 1 ≤ R.frames ∧ 8 + (maxL + 11) + rm.locals ≤ R.locals)
    (hq : w2[q0]? = some (b, .inr (ci, fs))) (hc : cl[ci]? = some q) (hC : q.1 = C) (hn : As.length = n) (hsz : ls.size = nL) (hstack : st0 = As.reverse ++ .ref b :: rest) (hW : (rest.map fun v => v.category).sum ≤ 8) (hdg : decode cc pc = .ok (.invokevirtual index, 3)) (hf : cells + mc ≤ R.cells ∧ slots + ms ≤ R.slots)
    (kx : ∀ (H1 : Heap) (locs1 : List Loc) (q9 : Addr) (ce : Cell), kb_W D cl tysL A s H1 locs1 (w1 ++ w3) → H1[q9]? = some ce → ce.vm = .none → s.vm.findClass E = some ce.cls → kt_W p l e R s m args below meth c H1 locs1 (cells + mc) (slots + ms) Q (F0 m pc ls rest) q9) : W p l e R s m args below meth c H locs cells slots Q (F0 m pc ls st0) := by
  intro T hT X
  have hts := S.2.2.2.2
  have hK2 := w.2.1.sub is hty
  obtain ⟨cellB, hcB, hoB, hclB⟩ := va_recv w.2.1 (kw_Pr w.1) hc hq
  rw [hC] at hclB
  have hlen : ∀ sig, parseMethodDescriptor y.desc = some sig → As.length = sig.parameters.length := fun sig h => by
    have h2 := Y.2.2.2.2.2
    rw [h] at h2
    exact hn.trans (Option.some.inj h2).symm
  obtain ⟨q9, st₀, t, T', L, ce, h0, X', hL, e1, e2, hXB, hce, hcv, hcl, hst⟩ := kt_callV X S.1 S.2.2.2.1 (hts _ hl) (hts _ hI) (hts _ hs) (hts _ Y.2.2.1) ⟨Y.2.2.2.1, Y.2.2.2.2.1⟩ (hM H.size) kt_blind hrm (pay_in hts (kb_good Y.1 Y.2.1)) List.mem_cons_self (by rw [hT]; exact hcB) hoB hclB
    (g := F0 m pc ls st0) rfl (hsz.trans S.2.2.1.symm) (argsL := As) (rest := rest) hlen hstack (lv_room hW) (by rw [S.2.1]; exact hdg) hf
    (fun vm₁ hWm => ⟨rfl, by show T.heap.size = H.size; rw [hT], by show va_P D cl w2 T.heap; rw [hT]; exact kw_Pr w.1, va_K.moved (U := T.setVm vm₁) hWm.alike hK2, (kw_Dr w.2.2.1).weaken (fun _ _ _ _ => trivial), kw_U (V := T.setVm vm₁) w U hT hWm⟩)
  obtain ⟨hP1, hD1, f1, f2⟩ := hXB
  rw [h0, hT] at f1 f2
  have hS : va_S A s.heap t.heap (locs ++ L) := by
    refine ⟨Nat.le_trans w.2.2.2.1.1 f1, fun q h1 h2 => ?_, fun z hz => ?_⟩
    · rw [f2 q (Nat.lt_of_lt_of_le h1 w.2.2.2.1.1) (fun h => h2 (kw_free w q h))]
      exact w.2.2.2.1.2.1 q h1 h2
    · rcases List.mem_append.mp hz with h | h
      · exact w.2.2.2.1.2.2 z h
      · exact kw_free w _ (hL z h)
  obtain ⟨t2, a1, b1⟩ := kx t.heap (locs ++ L) q9 ce (kw_join w f2 hP1 hD1 hS) hce hcv hcl T' e1 X'
  exact ⟨t2, hst.trans a1, b1⟩
end KWB
