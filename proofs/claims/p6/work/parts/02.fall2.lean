set_option maxRecDepth 100000 in
theorem kf_runs : kf_run start1.p0.tables start1.e0 400 kf_s = true := by decide +kernel
theorem kf_code {a b : Array Value} {s t : State} {y : MethodName} {bytes : ByteArray} {n : Nat} {r : Option FieldType} (h : (Cond.code y bytes n r).before a s = true)
    (hn : t.methodNamed? y = s.methodNamed? y) (hm : ∀ m, s.methodNamed? y = some m → t.vm.method? m = s.vm.method? m) : (Cond.code y bytes n r).before b t = true := by
  cases hq : s.methodNamed? y with
  | none => simp [Cond.before, Cond.holds, Cond.value, hq] at h
  | some m =>
    rw [hq] at hn
    have hv := hm m hq
    simp only [Cond.before, Cond.holds, Cond.value, hq, hn] at h ⊢
    have hw : (some m).bind t.vm.method? = (some m).bind s.vm.method? := hv
    rw [hw]
    exact h
theorem kf_method {m : MethodId} (h : m.cls < start1.about.vm.classes.size) : kf_s.vm.method? m = start1.about.vm.method? m := by
  have : (start1.about.vm.classes.push kf_R)[m.cls]? = start1.about.vm.classes[m.cls]? := by
    rw [Array.getElem?_push]
    simp [Nat.ne_of_lt h]
  show (do (← (start1.about.vm.classes.push kf_R)[m.cls]?).methods[m.idx]?) = (do (← start1.about.vm.classes[m.cls]?).methods[m.idx]?)
  rw [this]
def kf_named : Jvm.Cond → Bool
  | .code y _ _ _ => match start1.about.methodNamed? y, kf_s.methodNamed? y with
    | some m, some n => Nat.beq m.cls n.cls && (Nat.beq m.idx n.idx && Nat.blt m.cls start1.about.vm.classes.size)
    | _, _ => false
  | _ => true
theorem kf_codes {c : Jvm.Cond} (h : c.before start1.args0 start1.about = true) (hk : su_isCode c = true) (hn : kf_named c = true) : c.before start1.args0 kf_s = true := by
  cases c with
  | code y bytes n r =>
    unfold kf_named at hn
    simp only at hn
    split at hn
    · rename_i m k h1 h2
      simp only [Bool.and_eq_true, Nat.beq_eq, Nat.blt_eq] at hn
      obtain ⟨a1, a2, a3⟩ := hn
      have hmk : m = k := by cases m; cases k; simp_all
      subst hmk
      refine kf_code h (by rw [h1, h2]) fun q hq => ?_
      rw [h1] at hq
      cases hq
      exact kf_method a3
    · cases hn
  | _ => simp [su_isCode] at hk
def kf_ok (c : Jvm.Cond) : Bool := match su_isCode c with
  | true => kf_named c
  | false => c.before start1.args0 kf_s
theorem kf_words {l : List Jvm.Cond} (h : l.all kf_ok = true) (hb : ∀ c ∈ l, c.before start1.args0 start1.about = true) : ∀ c ∈ l, c.before start1.args0 kf_s = true := by
  intro c hc
  have h1 := List.all_eq_true.mp h c hc
  unfold kf_ok at h1
  cases hk : su_isCode c with
  | true => rw [hk] at h1; exact kf_codes (hb c hc) hk h1
  | false => rw [hk] at h1; exact h1
