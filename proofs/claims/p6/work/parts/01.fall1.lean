/-! a start that keeps every premise, and from which the law throws: one record more among the records, of kind array of int, with a clone of its own, and FIRST_TIMES in it -/
def kf_R : Class := { start1.cArr "[other" 16 .int with interfaces := #[9], methods := #[Lib.HandJ.method "clone" "()Ljava/lang/Object;" [] (some (.object "java/lang/Object")) 0x1 1 (.mk #[0x2a, 0xbf])] }
def kf_s : State := { start1.about with vm := { start1.about.vm with classes := start1.about.vm.classes.push kf_R }, heap := start1.about.heap.setIfInBounds 3 { cls := 25, slots := #[.int 3, .int 3, .int 6, .int 9, .int 5, .int 2, .int 2, .int 2, .int 12, .int 8, .int 60, .int 3], vm := .none } }
def kf_bot : Frame → Bool
  | .native ⟨⟨0, 0⟩, ⟨[]⟩, 0, ⟨[]⟩, false, none, none, 0⟩ => true
  | _ => false
theorem kf_bot_eq {f : Frame} (h : kf_bot f = true) : [f] = Lib.HandBits.below0 := by
  revert h; unfold kf_bot; split <;> intro h <;> first | rfl | cases h
def kf_low : List Frame → Bool
  | [] => false
  | [b] => kf_bot b
  | _ :: b :: r => kf_low (b :: r)
theorem kf_low_eq : ∀ (l : List Frame), kf_low l = true → ∃ u, l = u ++ Lib.HandBits.below0
  | [], h => by simp [kf_low] at h
  | [b], h => ⟨[], by rw [← kf_bot_eq (f := b) (by simpa [kf_low] using h)]; rfl⟩
  | a :: b :: r, h => by
    obtain ⟨u, hu⟩ := kf_low_eq (b :: r) (by simpa [kf_low] using h)
    exact ⟨a :: u, by rw [hu]; rfl⟩
def kf_in : List Frame → Bool
  | .throwing _ :: [_] => false
  | _ :: b :: r => kf_low (b :: r)
  | _ => false
theorem kf_in_eq {s : State} (h : kf_in s.frames = true) : Within s Lib.HandBits.below0 := by
  revert h
  generalize hl : s.frames = l
  intro h
  unfold kf_in at h
  split at h
  · cases h
  · rename_i a b r hne
    obtain ⟨u, hu⟩ := kf_low_eq (b :: r) h
    refine ⟨a :: u, by rw [hl, hu]; rfl, by simp, ?_⟩
    intro q hq
    injection hq with h1 h2
    subst h1 h2
    have hb : (b :: r) = Lib.HandBits.below0 := hu
    have hr : ∃ w, b :: r = [w] := ⟨_, hb⟩
    obtain ⟨w, hw⟩ := hr
    injection hw with h3 h4
    subst h4
    exact hne q rfl rfl
  · cases h
def kf_on (s : State) : Bool := match s.status, s.curStatus? with
  | .running, some .runnable => s.alone
  | _, _ => false
theorem kf_on_eq {s : State} (h : kf_on s = true) : s.status = .running ∧ s.curStatus? = some .runnable ∧ s.alone = true := by
  unfold kf_on at h
  split at h
  · rename_i h1 h2
    exact ⟨h1, h2, h⟩
  · cases h
def kf_out (s : State) : Bool := match s.frames, s.status with
  | .throwing _ :: [b], .running => kf_bot b
  | _, _ => false
theorem kf_out_eq {s : State} (h : kf_out s = true) : s.status = .running ∧ ∃ a, s.frames = .throwing a :: Lib.HandBits.below0 := by
  unfold kf_out at h
  split at h
  · rename_i a b h1 h2
    exact ⟨h2, a, by rw [h1, kf_bot_eq h]⟩
  · cases h
def kf_run (tb : Tables) (e : Env) : Nat → State → Bool
  | 0, _ => false
  | n + 1, s => match kf_in s.frames && kf_on s with
    | true => kf_run tb e n (stepThread tb e s).1
    | false => kf_out s
theorem kf_sound (tb : Tables) (e : Env) : ∀ (n : Nat) (s : State), kf_run tb e n s = true →
    ∃ k a, (∀ j, j < k → Within (stepsAlone tb e j s) Lib.HandBits.below0) ∧ (stepsAlone tb e k s).status = .running ∧ (stepsAlone tb e k s).frames = .throwing a :: Lib.HandBits.below0 := by
  intro n
  induction n with
  | zero => intro s h; simp [kf_run] at h
  | succ n ih =>
    intro s h
    cases hg : (kf_in s.frames && kf_on s) with
    | false =>
      simp only [kf_run, hg] at h
      obtain ⟨h1, a, h2⟩ := kf_out_eq h
      exact ⟨0, a, fun j hj => absurd hj (Nat.not_lt_zero j), h1, h2⟩
    | true =>
      simp only [kf_run, hg] at h
      rw [Bool.and_eq_true] at hg
      obtain ⟨r1, r2, r3⟩ := kf_on_eq hg.2
      obtain ⟨k, a, w1, w2, w3⟩ := ih _ h
      have hs : ∀ j, stepsAlone tb e (j + 1) s = stepsAlone tb e j (stepThread tb e s).1 := fun j => by
        show (match s.status, s.curStatus?, s.alone with
          | .running, some .runnable, true => stepsAlone tb e j (stepThread tb e s).1
          | _, _, _ => s) = _
        rw [r1, r2, r3]
      refine ⟨k + 1, a, ?_, by rw [hs]; exact w2, by rw [hs]; exact w3⟩
      intro j hj
      cases j with
      | zero => exact kf_in_eq hg.1
      | succ j => rw [hs]; exact w1 j (by omega)
