set_option maxRecDepth 100000 in
theorem kf_t1 : tables_1_1.all kf_ok = true := by decide +kernel
set_option maxRecDepth 100000 in
theorem kf_t2 : tables_1_2.all kf_ok = true := by decide +kernel
set_option maxRecDepth 100000 in
theorem kf_t3 : tables_1_3.all kf_ok = true := by decide +kernel
set_option maxRecDepth 100000 in
theorem kf_t0 : [Cond.code x code maxLocals ret].all kf_ok = true := by decide +kernel
theorem kf_all : ∀ c ∈ (Cond.code x code maxLocals ret :: tables_1), c.before start1.args0 kf_s = true := by
  refine kf_words ?_ start1.words
  have h : ([Cond.code x code maxLocals ret] ++ (tables_1_1 ++ (tables_1_2 ++ tables_1_3))).all kf_ok = true := by
    rw [List.all_append, List.all_append, List.all_append, kf_t0, kf_t1, kf_t2, kf_t3]; rfl
  exact h
set_option maxRecDepth 100000 in
theorem kf_start : AtStart classFile x code maxLocals ret World_1 tables_1 room_1 Calls_1 rest_1 Pre_1 launch0 start1.p0 start1.e0 kf_s ⟨0, 0⟩ start1.args0 Lib.HandBits.below0 :=
  ⟨lists_1, trivial, launch0.admits_env _ _ _, launch0.least_env, fairChoices_fair.cas, fairChoices_fair.clock, rfl, by decide +kernel, by decide +kernel,
    (Spec.applies_iff rfl).mpr ⟨rfl, rfl, rfl, by decide +kernel, by decide +kernel, by decide +kernel, launch0.hasRoom_least _ room_1 (by decide +kernel) (by decide +kernel) (by decide +kernel) (by decide +kernel) (by decide +kernel) (by decide +kernel), atoms_intro kf_all⟩,
    trivial, (show rest_1_c.before start1.args0 kf_s = true by decide +kernel), (show (Cond.and given_1 narrow_1).before start1.args0 kf_s = true by decide +kernel)⟩
/-- the Statement's own form of a refutation, of the first of the two owed -/
theorem kf_refuted : RefutedClaimed_1_1 := by
  obtain ⟨k, a, h1, h2, h3⟩ := kf_sound _ _ _ _ kf_runs
  refine ⟨launch0, start1.p0, start1.e0, kf_s, ⟨0, 0⟩, start1.args0, Lib.HandBits.below0, rfl, kf_start, k, .threw a, h1, h2, h3, ?_⟩
  intro h
  have h4 := h.1
  simp [D.postC, limb_1_1, Cond.holds, Cond.value, Cond.after] at h4
/-- so what is owed is false as written -/
theorem kf_not : ¬ (Claimed_1_1 ∧ Claimed_1_2) := by
  intro hA
  obtain ⟨l, p, e, s, m, args, below, hfl, ⟨hL, hW, had, -, hcas, hclk, hfr, hfit, hheap, happ, hcalls, hrest, hpre⟩, n, o, hin, -, hend, hnot⟩ := kf_refuted
  obtain ⟨k, q, hin', -, hend', hpost⟩ := hA.1 l hfl hL hW p e had hcas hclk s m args below hfr hfit hheap happ ⟨hcalls, hrest, hpre⟩
  obtain ⟨h1, h2⟩ := the_end_unique (f := fun j => stepsAlone p.tables e j s) hin hend hin' hend'
  subst h1
  subst h2
  exact hnot hpost
