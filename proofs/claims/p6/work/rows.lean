section
/-! a start that keeps every premise, and from which the law throws: one record more among the records, of kind array of int, with a clone of its own, and FIRST_TIMES in it -/
def kf_R : Class := { start1.cArr "[other" 16 .int with interfaces := #[9], methods := #[Lib.HandJ.method "clone" "()Ljava/lang/Object;" [] (some (.object "java/lang/Object")) 0x1 1 (.mk #[0x2a, 0xbf])] }
def kf_s : State := { start1.about with vm := { start1.about.vm with classes := start1.about.vm.classes.push kf_R }, heap := start1.about.heap.setIfInBounds 3 { cls := 25, slots := #[.int 3, .int 3, .int 6, .int 9, .int 5, .int 2, .int 2, .int 2, .int 12, .int 8, .int 60, .int 3], vm := .none } }
def kf_bot : Frame → Bool
  | .native ⟨⟨0, 0⟩, ⟨[]⟩, 0, ⟨[]⟩, false, none, none, 0⟩ => true
  | _ => false
theorem kf_bot_eq {f : Frame} (h : kf_bot f = true) : [f] = Lib.HandBits.below0 := by
  revert h; unfold kf_bot; split <;> intro h <;> first | rfl | cases h
def kf_low : List Frame → Bool
  | [] => false
  | [b] => kf_bot b
  | _ :: b :: r => kf_low (b :: r)
theorem kf_low_eq : ∀ (l : List Frame), kf_low l = true → ∃ u, l = u ++ Lib.HandBits.below0
  | [], h => by simp [kf_low] at h
  | [b], h => ⟨[], by rw [← kf_bot_eq (f := b) (by simpa [kf_low] using h)]; rfl⟩
  | a :: b :: r, h => by
    obtain ⟨u, hu⟩ := kf_low_eq (b :: r) (by simpa [kf_low] using h)
    exact ⟨a :: u, by rw [hu]; rfl⟩
def kf_in : List Frame → Bool
  | .throwing _ :: [_] => false
  | _ :: b :: r => kf_low (b :: r)
  | _ => false
theorem kf_in_eq {s : State} (h : kf_in s.frames = true) : Within s Lib.HandBits.below0 := by
  revert h
  generalize hl : s.frames = l
  intro h
  unfold kf_in at h
  split at h
  · cases h
  · rename_i a b r hne
    obtain ⟨u, hu⟩ := kf_low_eq (b :: r) h
    refine ⟨a :: u, by rw [hl, hu]; rfl, by simp, ?_⟩
    intro q hq
    injection hq with h1 h2
    subst h1 h2
    have hb : (b :: r) = Lib.HandBits.below0 := hu
    have hr : ∃ w, b :: r = [w] := ⟨_, hb⟩
    obtain ⟨w, hw⟩ := hr
    injection hw with h3 h4
    subst h4
    exact hne q rfl rfl
  · cases h
def kf_on (s : State) : Bool := match s.status, s.curStatus? with
  | .running, some .runnable => s.alone
  | _, _ => false
theorem kf_on_eq {s : State} (h : kf_on s = true) : s.status = .running ∧ s.curStatus? = some .runnable ∧ s.alone = true := by
  unfold kf_on at h
  split at h
  · rename_i h1 h2
    exact ⟨h1, h2, h⟩
  · cases h
def kf_out (s : State) : Bool := match s.frames, s.status with
  | .throwing _ :: [b], .running => kf_bot b
  | _, _ => false
theorem kf_out_eq {s : State} (h : kf_out s = true) : s.status = .running ∧ ∃ a, s.frames = .throwing a :: Lib.HandBits.below0 := by
  unfold kf_out at h
  split at h
  · rename_i a b h1 h2
    exact ⟨h2, a, by rw [h1, kf_bot_eq h]⟩
  · cases h
def kf_run (tb : Tables) (e : Env) : Nat → State → Bool
  | 0, _ => false
  | n + 1, s => match kf_in s.frames && kf_on s with
    | true => kf_run tb e n (stepThread tb e s).1
    | false => kf_out s
theorem kf_sound (tb : Tables) (e : Env) : ∀ (n : Nat) (s : State), kf_run tb e n s = true →
    ∃ k a, (∀ j, j < k → Within (stepsAlone tb e j s) Lib.HandBits.below0) ∧ (stepsAlone tb e k s).status = .running ∧ (stepsAlone tb e k s).frames = .throwing a :: Lib.HandBits.below0 := by
  intro n
  induction n with
  | zero => intro s h; simp [kf_run] at h
  | succ n ih =>
    intro s h
    cases hg : (kf_in s.frames && kf_on s) with
    | false =>
      simp only [kf_run, hg] at h
      obtain ⟨h1, a, h2⟩ := kf_out_eq h
      exact ⟨0, a, fun j hj => absurd hj (Nat.not_lt_zero j), h1, h2⟩
    | true =>
      simp only [kf_run, hg] at h
      rw [Bool.and_eq_true] at hg
      obtain ⟨r1, r2, r3⟩ := kf_on_eq hg.2
      obtain ⟨k, a, w1, w2, w3⟩ := ih _ h
      have hs : ∀ j, stepsAlone tb e (j + 1) s = stepsAlone tb e j (stepThread tb e s).1 := fun j => by
        show (match s.status, s.curStatus?, s.alone with
          | .running, some .runnable, true => stepsAlone tb e j (stepThread tb e s).1
          | _, _, _ => s) = _
        rw [r1, r2, r3]
      refine ⟨k + 1, a, ?_, by rw [hs]; exact w2, by rw [hs]; exact w3⟩
      intro j hj
      cases j with
      | zero => exact kf_in_eq hg.1
      | succ j => rw [hs]; exact w1 j (by omega)
end
section
set_option maxRecDepth 100000 in
theorem kf_runs : kf_run start1.p0.tables start1.e0 400 kf_s = true := by decide +kernel
theorem kf_code {a b : Array Value} {s t : State} {y : MethodName} {bytes : ByteArray} {n : Nat} {r : Option FieldType} (h : (Cond.code y bytes n r).before a s = true)
    (hn : t.methodNamed? y = s.methodNamed? y) (hm : ∀ m, s.methodNamed? y = some m → t.vm.method? m = s.vm.method? m) : (Cond.code y bytes n r).before b t = true := by
  cases hq : s.methodNamed? y with
  | none => simp [Cond.before, Cond.holds, Cond.value, hq] at h
  | some m =>
    rw [hq] at hn
    have hv := hm m hq
    simp only [Cond.before, Cond.holds, Cond.value, hq, hn] at h ⊢
    have hw : (some m).bind t.vm.method? = (some m).bind s.vm.method? := hv
    rw [hw]
    exact h
theorem kf_method {m : MethodId} (h : m.cls < start1.about.vm.classes.size) : kf_s.vm.method? m = start1.about.vm.method? m := by
  have : (start1.about.vm.classes.push kf_R)[m.cls]? = start1.about.vm.classes[m.cls]? := by
    rw [Array.getElem?_push]
    simp [Nat.ne_of_lt h]
  show (do (← (start1.about.vm.classes.push kf_R)[m.cls]?).methods[m.idx]?) = (do (← start1.about.vm.classes[m.cls]?).methods[m.idx]?)
  rw [this]
def kf_named : Jvm.Cond → Bool
  | .code y _ _ _ => match start1.about.methodNamed? y, kf_s.methodNamed? y with
    | some m, some n => Nat.beq m.cls n.cls && (Nat.beq m.idx n.idx && Nat.blt m.cls start1.about.vm.classes.size)
    | _, _ => false
  | _ => true
theorem kf_codes {c : Jvm.Cond} (h : c.before start1.args0 start1.about = true) (hk : su_isCode c = true) (hn : kf_named c = true) : c.before start1.args0 kf_s = true := by
  cases c with
  | code y bytes n r =>
    unfold kf_named at hn
    simp only at hn
    split at hn
    · rename_i m k h1 h2
      simp only [Bool.and_eq_true, Nat.beq_eq, Nat.blt_eq] at hn
      obtain ⟨a1, a2, a3⟩ := hn
      have hmk : m = k := by cases m; cases k; simp_all
      subst hmk
      refine kf_code h (by rw [h1, h2]) fun q hq => ?_
      rw [h1] at hq
      cases hq
      exact kf_method a3
    · cases hn
  | _ => simp [su_isCode] at hk
def kf_ok (c : Jvm.Cond) : Bool := match su_isCode c with
  | true => kf_named c
  | false => c.before start1.args0 kf_s
theorem kf_words {l : List Jvm.Cond} (h : l.all kf_ok = true) (hb : ∀ c ∈ l, c.before start1.args0 start1.about = true) : ∀ c ∈ l, c.before start1.args0 kf_s = true := by
  intro c hc
  have h1 := List.all_eq_true.mp h c hc
  unfold kf_ok at h1
  cases hk : su_isCode c with
  | true => rw [hk] at h1; exact kf_codes (hb c hc) hk h1
  | false => rw [hk] at h1; exact h1
end
section
set_option maxRecDepth 100000 in
theorem kf_t1 : tables_1_1.all kf_ok = true := by decide +kernel
set_option maxRecDepth 100000 in
theorem kf_t2 : tables_1_2.all kf_ok = true := by decide +kernel
set_option maxRecDepth 100000 in
theorem kf_t3 : tables_1_3.all kf_ok = true := by decide +kernel
set_option maxRecDepth 100000 in
theorem kf_t0 : [Cond.code x code maxLocals ret].all kf_ok = true := by decide +kernel
theorem kf_all : ∀ c ∈ (Cond.code x code maxLocals ret :: tables_1), c.before start1.args0 kf_s = true := by
  refine kf_words ?_ start1.words
  have h : ([Cond.code x code maxLocals ret] ++ (tables_1_1 ++ (tables_1_2 ++ tables_1_3))).all kf_ok = true := by
    rw [List.all_append, List.all_append, List.all_append, kf_t0, kf_t1, kf_t2, kf_t3]; rfl
  exact h
set_option maxRecDepth 100000 in
theorem kf_start : AtStart classFile x code maxLocals ret World_1 tables_1 room_1 Calls_1 rest_1 Pre_1 launch0 start1.p0 start1.e0 kf_s ⟨0, 0⟩ start1.args0 Lib.HandBits.below0 :=
  ⟨lists_1, trivial, launch0.admits_env _ _ _, launch0.least_env, fairChoices_fair.cas, fairChoices_fair.clock, rfl, by decide +kernel, by decide +kernel,
    (Spec.applies_iff rfl).mpr ⟨rfl, rfl, rfl, by decide +kernel, by decide +kernel, by decide +kernel, launch0.hasRoom_least _ room_1 (by decide +kernel) (by decide +kernel) (by decide +kernel) (by decide +kernel) (by decide +kernel) (by decide +kernel), atoms_intro kf_all⟩,
    trivial, (show rest_1_c.before start1.args0 kf_s = true by decide +kernel), (show (Cond.and given_1 narrow_1).before start1.args0 kf_s = true by decide +kernel)⟩
/-- the Statement's own form of a refutation, of the first of the two owed -/
theorem kf_refuted : RefutedClaimed_1_1 := by
  obtain ⟨k, a, h1, h2, h3⟩ := kf_sound _ _ _ _ kf_runs
  refine ⟨launch0, start1.p0, start1.e0, kf_s, ⟨0, 0⟩, start1.args0, Lib.HandBits.below0, rfl, kf_start, k, .threw a, h1, h2, h3, ?_⟩
  intro h
  have h4 := h.1
  simp [D.postC, limb_1_1, Cond.holds, Cond.value, Cond.after] at h4
/-- so what is owed is false as written -/
theorem kf_not : ¬ (Claimed_1_1 ∧ Claimed_1_2) := by
  intro hA
  obtain ⟨l, p, e, s, m, args, below, hfl, ⟨hL, hW, had, -, hcas, hclk, hfr, hfit, hheap, happ, hcalls, hrest, hpre⟩, n, o, hin, -, hend, hnot⟩ := kf_refuted
  obtain ⟨k, q, hin', -, hend', hpost⟩ := hA.1 l hfl hL hW p e had hcas hclk s m args below hfr hfit hheap happ ⟨hcalls, hrest, hpre⟩
  obtain ⟨h1, h2⟩ := the_end_unique (f := fun j => stepsAlone p.tables e j s) hin hend hin' hend'
  subst h1
  subst h2
  exact hnot hpost
end
