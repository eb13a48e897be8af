/-! names and pure functions of the methods that may throw, laid by wip/whole/layB.py -/
def kt_ts : List (String × Nat × String) := [("BankScheduler", 64, "no such time"), ("BankScheduler", 77, "the time cannot have this value"), ("BankScheduler", 85, "a cycle has gone by"), ("BankScheduler", 103, "n is not 0 .. 2000"), ("BankScheduler", 117, "no such request"), ("BankScheduler", 120, "the request is not done"), ("BankScheduler", 129, "no such bank"), ("BankScheduler", 137, "no such waiting request"), ("BankScheduler", 151, "no such figure"), ("BankScheduler", 153, "no such command"), ("BankScheduler", 161, "no such row"), ("BankScheduler", 169, "n is not 0 .. 1000"), ("BankScheduler", 171, "no such word"), ("BankScheduler", 173, "no place to wait")]
theorem t_B_64 : ("BankScheduler", 64, "no such time") ∈ kt_ts := by decide +kernel
theorem t_B_77 : ("BankScheduler", 77, "the time cannot have this value") ∈ kt_ts := by decide +kernel
theorem t_B_85 : ("BankScheduler", 85, "a cycle has gone by") ∈ kt_ts := by decide +kernel
theorem t_B_103 : ("BankScheduler", 103, "n is not 0 .. 2000") ∈ kt_ts := by decide +kernel
theorem t_B_117 : ("BankScheduler", 117, "no such request") ∈ kt_ts := by decide +kernel
theorem t_B_120 : ("BankScheduler", 120, "the request is not done") ∈ kt_ts := by decide +kernel
theorem t_B_129 : ("BankScheduler", 129, "no such bank") ∈ kt_ts := by decide +kernel
theorem t_B_137 : ("BankScheduler", 137, "no such waiting request") ∈ kt_ts := by decide +kernel
theorem t_B_151 : ("BankScheduler", 151, "no such figure") ∈ kt_ts := by decide +kernel
theorem t_B_153 : ("BankScheduler", 153, "no such command") ∈ kt_ts := by decide +kernel
theorem t_B_161 : ("BankScheduler", 161, "no such row") ∈ kt_ts := by decide +kernel
theorem t_B_169 : ("BankScheduler", 169, "n is not 0 .. 1000") ∈ kt_ts := by decide +kernel
theorem t_B_171 : ("BankScheduler", 171, "no such word") ∈ kt_ts := by decide +kernel
theorem t_B_173 : ("BankScheduler", 173, "no place to wait") ∈ kt_ts := by decide +kernel
def kt_LEAST_TIMES : Nat → Int32 := fun j => ([1, 1, 1, 1, 1, 1, 1, 1, 1, 1, 20, 1] : List Int32).getD j 0
def kt_MOST_TIMES : Nat → Int32 := fun j => ([20, 20, 20, 20, 20, 20, 20, 20, 20, 20, 200, 20] : List Int32).getD j 0
def kt_FIRST_TIMES : Nat → Int32 := fun j => ([3, 3, 6, 9, 5, 2, 2, 2, 12, 8, 60, 3] : List Int32).getD j 0
def kt_tb : List (String × String × Nat × (Nat → Int32)) := [("BankScheduler", "LEAST_TIMES", 12, kt_LEAST_TIMES), ("BankScheduler", "MOST_TIMES", 12, kt_MOST_TIMES), ("BankScheduler", "FIRST_TIMES", 12, kt_FIRST_TIMES)]
theorem kt_in_LEAST_TIMES : ("BankScheduler", "LEAST_TIMES", 12, kt_LEAST_TIMES) ∈ kt_tb := List.mem_of_getElem? (i := 0) rfl
theorem kt_in_MOST_TIMES : ("BankScheduler", "MOST_TIMES", 12, kt_MOST_TIMES) ∈ kt_tb := List.mem_of_getElem? (i := 1) rfl
theorem kt_in_FIRST_TIMES : ("BankScheduler", "FIRST_TIMES", 12, kt_FIRST_TIMES) ∈ kt_tb := List.mem_of_getElem? (i := 2) rfl
def kt_td : List MethodName := [⟨"java/lang/RuntimeException", "<init>", "(Ljava/lang/String;)V"⟩, ⟨"java/lang/Exception", "<init>", "(Ljava/lang/String;)V"⟩, ⟨"java/lang/Throwable", "<init>", "(Ljava/lang/String;)V"⟩]
def kt_tc : List (String × String) := [(kx_E 1, kx_E 1), (kx_E 2, kx_E 2), (kx_E 3, kx_E 3), (kx_E 4, kx_E 4)]
def kt_tn : List (String × String) := [(kx_E 1, kx_E 2), (kx_E 1, kx_E 3), (kx_E 1, kx_E 4), (kx_E 2, kx_E 1), (kx_E 2, kx_E 3), (kx_E 2, kx_E 4), (kx_E 3, kx_E 1), (kx_E 3, kx_E 2), (kx_E 3, kx_E 4), (kx_E 4, kx_E 1), (kx_E 4, kx_E 2), (kx_E 4, kx_E 3)]
def kt_tx : kt_X := (kt_ts, kt_tb, kt_td, kt_tc, kt_tn)
theorem s_B_69 : Cond.fieldLink "BankScheduler" 69 "BankScheduler" "LEAST_TIMES" "[I" ∈ wsB := (kn_2 80 rfl rfl)
theorem s_B_72 : Cond.fieldLink "BankScheduler" 72 "BankScheduler" "MOST_TIMES" "[I" ∈ wsB := (kn_2 82 rfl rfl)
abbrev rmx_B_time : Room := { frames := 6, cells := 1, slots := 6, locals := 90 }
abbrev rmx_B_read : Room := { frames := 7, cells := 1, slots := 6, locals := 113 }
abbrev rmx_B_write : Room := { frames := 7, cells := 1, slots := 6, locals := 113 }
abbrev rmx_B_run : Room := { frames := 6, cells := 1, slots := 6, locals := 132 }
abbrev rmx_B_result : Room := { frames := 6, cells := 1, slots := 6, locals := 90 }
abbrev rmx_B_word : Room := { frames := 7, cells := 1, slots := 6, locals := 113 }
abbrev rmx_B_open : Room := { frames := 6, cells := 1, slots := 6, locals := 90 }
abbrev rmx_B_waiting : Room := { frames := 6, cells := 1, slots := 6, locals := 90 }
abbrev rmx_B_figure : Room := { frames := 6, cells := 1, slots := 6, locals := 90 }
abbrev rmx_B_check : Room := { frames := 6, cells := 1, slots := 6, locals := 90 }
abbrev rmx_B_pause : Room := { frames := 6, cells := 1, slots := 6, locals := 90 }
abbrev rmx_B_refuseNoWord : Room := { frames := 6, cells := 1, slots := 6, locals := 90 }
abbrev rmx_B_refuseFullQueue : Room := { frames := 6, cells := 1, slots := 6, locals := 90 }
set_option maxRecDepth 100000 in
theorem n_B_62_66 : kt_N kt_tx wsB "BankScheduler" 62 66 (kx_E 1) ["java/lang/RuntimeException", "java/lang/Exception"] := by
  refine ⟨by decide +kernel, by decide +kernel, by decide +kernel, by decide +kernel, by decide +kernel, ?_, kn_g⟩
  decide +kernel
set_option maxRecDepth 100000 in
theorem n_B_75_79 : kt_N kt_tx wsB "BankScheduler" 75 79 (kx_E 2) ["java/lang/RuntimeException", "java/lang/Exception"] := by
  refine ⟨by decide +kernel, by decide +kernel, by decide +kernel, by decide +kernel, by decide +kernel, ?_, kn_g⟩
  decide +kernel
set_option maxRecDepth 100000 in
theorem n_B_83_87 : kt_N kt_tx wsB "BankScheduler" 83 87 (kx_E 3) ["java/lang/RuntimeException", "java/lang/Exception"] := by
  refine ⟨by decide +kernel, by decide +kernel, by decide +kernel, by decide +kernel, by decide +kernel, ?_, kn_g⟩
  decide +kernel
set_option maxRecDepth 100000 in
theorem n_B_115_119 : kt_N kt_tx wsB "BankScheduler" 115 119 (kx_E 4) ["java/lang/RuntimeException", "java/lang/Exception"] := by
  refine ⟨by decide +kernel, by decide +kernel, by decide +kernel, by decide +kernel, by decide +kernel, ?_, kn_g⟩
  decide +kernel
noncomputable def pB_time (nb Q : Nat) (L : List Nat) (x1 : Int32) (x2 : Int32) (z0 : kc_S) : Option (Nat × Int32 × kc_S) := kb_br (x1 < 0) (some (1, 0, z0)) (kb_br (x1 < (nI 12)) (kb_ck (vp_in (x1) 12) (kb_br (x2 < (kt_LEAST_TIMES (kb_ix (x1)))) (some (2, 0, z0)) (kb_ck (vp_in (x1) 12) (kb_br (x2 ≤ (kt_MOST_TIMES (kb_ix (x1)))) (kb_br ((z0.1 3 3) = 0) (kb_ck (vp_in (x1) 12) (kb_ck (vp_in (x1) 12) (kb_st (kc_set z0 1 (kb_ix (x1)) (x2)) (fun z5 => some (0, z0.1 1 (kb_ix (x1)), z5))))) (some (3, 0, z0))) (some (2, 0, z0)))))) (some (1, 0, z0)))
noncomputable def pB_refuseNoWord (nb Q : Nat) (L : List Nat) (x1 : Int32) (x2 : Int32) (x3 : Int32) (z0 : kc_S) : Option (Nat × Int32 × kc_S) := kb_cl (pC_hasBank 3 nb Q L x1 z0) (fun r2 z1 => kb_br (r2 = 0) (some (1, 0, z1)) (kb_cl (pB_isRow nb Q L x2 z1) (fun r5 z4 => kb_br (r5 = 0) (some (1, 0, z4)) (kb_br (x3 < 0) (some (1, 0, z4)) (kb_br (x3 < 8) (some (0, 0, z4)) (some (1, 0, z4)))))))
noncomputable def pB_refuseFullQueue (nb Q : Nat) (L : List Nat) (z0 : kc_S) : Option (Nat × Int32 × kc_S) := kb_br ((z0.1 0 1) < (nI Q)) (some (0, 0, z0)) (some (3, 0, z0))
noncomputable def pB_read (nb Q : Nat) (L : List Nat) (x1 : Int32) (x2 : Int32) (x3 : Int32) (z0 : kc_S) : Option (Nat × Int32 × kc_S) := kx_cl (pB_refuseNoWord nb Q L x1 x2 x3 z0) (fun r2 z1 => kx_cl (pB_refuseFullQueue nb Q L  z1) (fun r8 z7 => kb_cl (pB_enqueue nb Q L 2 x1 x2 x3 0 z7) (fun r14 z13 => some (0, r14, z13))))
noncomputable def pB_write (nb Q : Nat) (L : List Nat) (x1 : Int32) (x2 : Int32) (x3 : Int32) (x4 : Int32) (z0 : kc_S) : Option (Nat × Int32 × kc_S) := kx_cl (pB_refuseNoWord nb Q L x1 x2 x3 z0) (fun r2 z1 => kx_cl (pB_refuseFullQueue nb Q L  z1) (fun r8 z7 => kb_cl (pB_enqueue nb Q L 3 x1 x2 x3 x4 z7) (fun r14 z13 => some (0, r14, z13))))
noncomputable def pB_run_L25 (nb Q : Nat) (L : List Nat) : Nat → Int32 → Int32 → Int32 → kc_S → Option (Nat × Int32 × kc_S)
  | 0, _, _, _, _ => none
  | n + 1, x1, x2, x3, z => kb_br (x1 ≤ x3) (some (0, x2, z)) (kb_cl (pB_tick nb Q L  z) (fun r2 z1 => kb_br (r2 = 0) (pB_run_L25 nb Q L n x1 x2 (x3 + 1) z1) (pB_run_L25 nb Q L n x1 (x2 + 1) (x3 + 1) z1)))
noncomputable def pB_run (nb Q : Nat) (L : List Nat) (x1 : Int32) (z0 : kc_S) : Option (Nat × Int32 × kc_S) := kb_br (x1 < 0) (some (2, 0, z0)) (kb_br (x1 ≤ 2000) (pB_run_L25 nb Q L 3000 x1 0 0 z0) (some (2, 0, z0)))
noncomputable def pB_result (nb Q : Nat) (L : List Nat) (x1 : Int32) (z0 : kc_S) : Option (Nat × Int32 × kc_S) := kb_br (x1 < 0) (some (4, 0, z0)) (kb_br ((z0.1 0 2) ≤ x1) (some (4, 0, z0)) (kb_cl (pB_isKept nb Q L x1 z0) (fun r2 z1 => kb_br (r2 = 0) (some (4, 0, z1)) (kb_ck (vp_in (x1 &&& 31) 32) (kb_br ((z1.1 20 (kb_ix (x1 &&& 31))) < (z1.1 3 3)) (kb_ck (vp_in (x1 &&& 31) 32) (some (0, z1.1 19 (kb_ix (x1 &&& 31)), z1))) (some (3, 0, z1)))))))
noncomputable def pB_word (nb Q : Nat) (L : List Nat) (x1 : Int32) (x2 : Int32) (x3 : Int32) (z0 : kc_S) : Option (Nat × Int32 × kc_S) := kx_cl (pB_refuseNoWord nb Q L x1 x2 x3 z0) (fun r2 z1 => kb_cl (pB_wordPlace nb Q L x1 x2 x3 z1) (fun r8 z7 => kb_ck (vp_in (r8) (nb * 128)) (some (0, z7.1 2 (kb_ix (r8)), z7))))
noncomputable def pB_open (nb Q : Nat) (L : List Nat) (x1 : Int32) (z0 : kc_S) : Option (Nat × Int32 × kc_S) := kb_cl (pC_hasBank 3 nb Q L x1 z0) (fun r2 z1 => kb_br (r2 = 0) (some (1, 0, z1)) (kb_ck (vp_in (x1) nb) (some (0, z1.1 4 (kb_ix (x1)), z1))))
noncomputable def pB_waiting (nb Q : Nat) (L : List Nat) (x1 : Int32) (z0 : kc_S) : Option (Nat × Int32 × kc_S) := kb_br (x1 < 0) (some (1, 0, z0)) (kb_br (x1 < (z0.1 0 1)) (kb_ck (vp_in (x1) Q) (kb_ck (z0.2.1 (kb_ix (x1)) ∈ L) (some (0, z0.2.2 (z0.2.1 (kb_ix (x1))) 5, z0)))) (some (1, 0, z0)))
noncomputable def pB_figure (nb Q : Nat) (L : List Nat) (x1 : Int32) (z0 : kc_S) : Option (Nat × Int32 × kc_S) := kb_br ((x1).toInt = 0) (some (0, z0.1 3 3, z0)) (kb_br ((x1).toInt = 1) (kb_ck (vp_in (x1 - 1) 5) (some (0, z0.1 10 (kb_ix (x1 - 1)), z0))) (kb_br ((x1).toInt = 2) (kb_ck (vp_in (x1 - 1) 5) (some (0, z0.1 10 (kb_ix (x1 - 1)), z0))) (kb_br ((x1).toInt = 3) (kb_ck (vp_in (x1 - 1) 5) (some (0, z0.1 10 (kb_ix (x1 - 1)), z0))) (kb_br ((x1).toInt = 4) (kb_ck (vp_in (x1 - 1) 5) (some (0, z0.1 10 (kb_ix (x1 - 1)), z0))) (kb_br ((x1).toInt = 5) (kb_ck (vp_in (x1 - 1) 5) (some (0, z0.1 10 (kb_ix (x1 - 1)), z0))) (kb_br ((x1).toInt = 6) (some (0, z0.1 0 1, z0)) (kb_br ((x1).toInt = 7) (some (0, z0.1 0 3, z0)) (kb_br ((x1).toInt = 8) (some (0, z0.1 3 2, z0)) (some (2, 0, z0))))))))))
noncomputable def pB_check_J96 (nb Q : Nat) (L : List Nat) (x4 : Int32) (z : kc_S) : Option (Nat × Int32 × kc_S) := kb_st (kc_set z 11 3 ((z.1 11 3) + 1)) (fun z7 => some (0, x4, z7))
noncomputable def pB_check_J69 (nb Q : Nat) (L : List Nat) (x1 : Int32) (x2 : Int32) (x3 : Int32) (z : kc_S) : Option (Nat × Int32 × kc_S) := kb_cl (pC_firstBroken 11 nb Q L x1 x2 x3 z) (fun r5 z4 => kb_br (r5 = 0) (kb_cl (pC_give 11 nb Q L x1 x2 x3 z4) (fun r10 z9 => pB_check_J96 nb Q L r5 z9)) (pB_check_J96 nb Q L r5 z4))
noncomputable def pB_check_J45 (nb Q : Nat) (L : List Nat) (x1 : Int32) (x2 : Int32) (x3 : Int32) (z : kc_S) : Option (Nat × Int32 × kc_S) := kb_cl (pB_hasRow nb Q L x1 z) (fun r2 z1 => kb_br (r2 = 0) (pB_check_J69 nb Q L x1 x2 x3 z1) (kb_cl (pB_isRow nb Q L x3 z1) (fun r13 z12 => kb_br (r13 = 0) (some (1, 0, z12)) (pB_check_J69 nb Q L x1 x2 x3 z12))))
noncomputable def pB_check (nb Q : Nat) (L : List Nat) (x1 : Int32) (x2 : Int32) (x3 : Int32) (z0 : kc_S) : Option (Nat × Int32 × kc_S) := kb_br (x1 < 0) (some (1, 0, z0)) (kb_br (x1 < 5) (kb_br (x1 = 4) (pB_check_J45 nb Q L x1 x2 x3 z0) (kb_cl (pC_hasBank 11 nb Q L x2 z0) (fun r16 z15 => kb_br (r16 = 0) (some (1, 0, z15)) (pB_check_J45 nb Q L x1 x2 x3 z15)))) (some (1, 0, z0)))
noncomputable def pB_pause (nb Q : Nat) (L : List Nat) (x1 : Int32) (z0 : kc_S) : Option (Nat × Int32 × kc_S) := kb_br (x1 < 0) (some (2, 0, z0)) (kb_br (x1 ≤ 1000) (kb_st (kc_set z0 11 3 ((z0.1 11 3) + x1)) (fun z1 => some (0, z1.1 11 3, z1))) (some (2, 0, z0)))
