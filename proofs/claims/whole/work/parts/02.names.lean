/-! names, laid by wip/whole/lay.py out of the tables and the listing -/
def RC : String := "BankScheduler$Channel"
def TC : u_T := fun k => match k with
  | 0 => ("BankScheduler$Channel", "times", "[I", true)
  | 1 => ("BankScheduler$Channel", "openRow", "[I", true)
  | 2 => ("BankScheduler$Channel", "lastOpen", "[I", true)
  | 3 => ("BankScheduler$Channel", "lastClose", "[I", true)
  | 4 => ("BankScheduler$Channel", "lastRead", "[I", true)
  | 5 => ("BankScheduler$Channel", "lastWrite", "[I", true)
  | 6 => ("BankScheduler$Channel", "latestOpens", "[I", true)
  | 7 => ("BankScheduler$Channel", "given", "[I", true)
  | 8 => ("BankScheduler$Channel", "nextOpen", "I", false)
  | 9 => ("BankScheduler$Channel", "lastAccess", "I", false)
  | 10 => ("BankScheduler$Channel", "lastRefresh", "I", false)
  | _ => ("BankScheduler$Channel", "cycle", "I", false)
def tyTC : Nat → FieldType := fun k => match k with
  | 0 => .array .int
  | 1 => .array .int
  | 2 => .array .int
  | 3 => .array .int
  | 4 => .array .int
  | 5 => .array .int
  | 6 => .array .int
  | 7 => .array .int
  | 8 => .int
  | 9 => .int
  | 10 => .int
  | _ => .int
theorem nmTC : ∀ a, a < 12 → ∀ b, b < 12 → a ≠ b → (TC a).2.1 ≠ (TC b).2.1 := by decide +kernel
theorem tyTC_ok : ∀ k, k < 12 → parseFieldDescriptor (TC k).2.2.1 = some (tyTC k) := by decide +kernel
def RReq : String := "BankScheduler$Request"
def TR : u_T := fun k => match k with
  | 0 => ("BankScheduler$Request", "command", "I", false)
  | 1 => ("BankScheduler$Request", "bank", "I", false)
  | 2 => ("BankScheduler$Request", "row", "I", false)
  | 3 => ("BankScheduler$Request", "place", "I", false)
  | 4 => ("BankScheduler$Request", "toWrite", "I", false)
  | 5 => ("BankScheduler$Request", "number", "I", false)
  | _ => ("BankScheduler$Request", "cameIn", "I", false)
def tyTR : Nat → FieldType := fun k => match k with
  | 0 => .int
  | 1 => .int
  | 2 => .int
  | 3 => .int
  | 4 => .int
  | 5 => .int
  | _ => .int
theorem nmTR : ∀ a, a < 7 → ∀ b, b < 7 → a ≠ b → (TR a).2.1 ≠ (TR b).2.1 := by decide +kernel
theorem tyTR_ok : ∀ k, k < 7 → parseFieldDescriptor (TR k).2.2.1 = some (tyTR k) := by decide +kernel
def RB : String := "BankScheduler"
def TB : u_T := fun k => match k with
  | 0 => ("BankScheduler", "patience", "I", true)
  | 1 => ("BankScheduler", "times", "[I", true)
  | 2 => ("BankScheduler", "words", "[I", true)
  | 3 => ("BankScheduler", "controller", "LBankScheduler$Channel;", true)
  | 4 => ("BankScheduler", "checker", "LBankScheduler$Channel;", true)
  | 5 => ("BankScheduler", "queue", "[LBankScheduler$Request;", true)
  | 6 => ("BankScheduler", "queued", "I", false)
  | 7 => ("BankScheduler", "requests", "I", false)
  | 8 => ("BankScheduler", "late", "I", false)
  | 9 => ("BankScheduler", "keptNumbers", "[I", true)
  | _ => ("BankScheduler", "keptDone", "[I", true)
def tyTB : Nat → FieldType := fun k => match k with
  | 0 => .int
  | 1 => .array .int
  | 2 => .array .int
  | 3 => .object "BankScheduler$Channel"
  | 4 => .object "BankScheduler$Channel"
  | 5 => .array (.object "BankScheduler$Request")
  | 6 => .int
  | 7 => .int
  | 8 => .int
  | 9 => .array .int
  | _ => .array .int
theorem nmTB : ∀ a, a < 11 → ∀ b, b < 11 → a ≠ b → (TB a).2.1 ≠ (TB b).2.1 := by decide +kernel
theorem tyTB_ok : ∀ k, k < 11 → parseFieldDescriptor (TB k).2.2.1 = some (tyTB k) := by decide +kernel
def RM : String := "BankSchedulerModel"
def TM : u_T := fun k => match k with
  | 0 => ("BankSchedulerModel", "thrown", "I", false)
  | 1 => ("BankSchedulerModel", "banks", "I", true)
  | 2 => ("BankSchedulerModel", "places", "I", true)
  | 3 => ("BankSchedulerModel", "patience", "I", true)
  | 4 => ("BankSchedulerModel", "times", "[I", true)
  | 5 => ("BankSchedulerModel", "rows", "[I", true)
  | 6 => ("BankSchedulerModel", "opened", "[I", true)
  | 7 => ("BankSchedulerModel", "closed", "[I", true)
  | 8 => ("BankSchedulerModel", "readAt", "[I", true)
  | 9 => ("BankSchedulerModel", "writtenAt", "[I", true)
  | 10 => ("BankSchedulerModel", "openings", "[I", true)
  | 11 => ("BankSchedulerModel", "refreshed", "[I", true)
  | 12 => ("BankSchedulerModel", "cycles", "[I", true)
  | 13 => ("BankSchedulerModel", "words", "[I", true)
  | 14 => ("BankSchedulerModel", "waits", "I", false)
  | 15 => ("BankSchedulerModel", "number", "[I", true)
  | 16 => ("BankSchedulerModel", "bankOf", "[I", true)
  | 17 => ("BankSchedulerModel", "rowOf", "[I", true)
  | 18 => ("BankSchedulerModel", "columnOf", "[I", true)
  | 19 => ("BankSchedulerModel", "writes", "[Z", true)
  | 20 => ("BankSchedulerModel", "value", "[I", true)
  | 21 => ("BankSchedulerModel", "came", "[I", true)
  | 22 => ("BankSchedulerModel", "requests", "I", false)
  | 23 => ("BankSchedulerModel", "doneAt", "[I", true)
  | 24 => ("BankSchedulerModel", "results", "[I", true)
  | 25 => ("BankSchedulerModel", "given", "[I", true)
  | _ => ("BankSchedulerModel", "late", "I", false)
def tyTM : Nat → FieldType := fun k => match k with
  | 0 => .int
  | 1 => .int
  | 2 => .int
  | 3 => .int
  | 4 => .array .int
  | 5 => .array .int
  | 6 => .array .int
  | 7 => .array .int
  | 8 => .array .int
  | 9 => .array .int
  | 10 => .array .int
  | 11 => .array .int
  | 12 => .array .int
  | 13 => .array .int
  | 14 => .int
  | 15 => .array .int
  | 16 => .array .int
  | 17 => .array .int
  | 18 => .array .int
  | 19 => .array .boolean
  | 20 => .array .int
  | 21 => .array .int
  | 22 => .int
  | 23 => .array .int
  | 24 => .array .int
  | 25 => .array .int
  | _ => .int
theorem nmTM : ∀ a, a < 27 → ∀ b, b < 27 → a ≠ b → (TM a).2.1 ≠ (TM b).2.1 := by decide +kernel
theorem tyTM_ok : ∀ k, k < 27 → parseFieldDescriptor (TM k).2.2.1 = some (tyTM k) := by decide +kernel
def RL : String := "BankSchedulerLaw"
abbrev vwCl : List vw_C := [(RC, TC, 12), (RReq, TR, 7), (RB, TB, 11), (RM, TM, 27)]
def wsB : List Cond := lw_tbl.filter goodWord
theorem kn_g : ∀ w ∈ wsB, (w.onTables && w.keeps) = true ∨ ∃ ty, w = .arrayClass ty := fun _ h => good_of_word (List.mem_filter.mp h).2
theorem kn_t (i : Nat) {w : Cond} (h : tables_1[i]? = some w) (hg : goodWord w = true) : w ∈ wsB := List.mem_filter.mpr ⟨List.mem_append_right _ (List.mem_of_getElem? h), hg⟩
theorem kn_1 (i : Nat) {w : Cond} (h : tables_1_1[i]? = some w) (hg : goodWord w = true) : w ∈ wsB := List.mem_filter.mpr ⟨List.mem_append_right _ (List.mem_append_left _ (List.mem_of_getElem? h)), hg⟩
theorem kn_2 (i : Nat) {w : Cond} (h : tables_1_2[i]? = some w) (hg : goodWord w = true) : w ∈ wsB := List.mem_filter.mpr ⟨List.mem_append_right _ (List.mem_append_right _ (List.mem_append_left _ (List.mem_of_getElem? h))), hg⟩
theorem kn_3 (i : Nat) {w : Cond} (h : tables_1_3[i]? = some w) (hg : goodWord w = true) : w ∈ wsB := List.mem_filter.mpr ⟨List.mem_append_right _ (List.mem_append_right _ (List.mem_append_right _ (List.mem_of_getElem? h))), hg⟩
theorem kn_s (i : Nat) {w : Cond} (h : (k2_sels lw_privs)[i]? = some w) (hg : goodWord w = true) : w ∈ wsB := List.mem_filter.mpr ⟨List.mem_append_left _ (List.mem_of_getElem? h), hg⟩
set_option maxRecDepth 100000 in
theorem uwTC : ∀ w ∈ u_ws RC TC 12, w ∈ wsB := by decide +kernel
set_option maxRecDepth 100000 in
theorem uwTR : ∀ w ∈ u_ws RReq TR 7, w ∈ wsB := by decide +kernel
set_option maxRecDepth 100000 in
theorem uwTB : ∀ w ∈ u_ws RB TB 11, w ∈ wsB := by decide +kernel
set_option maxRecDepth 100000 in
theorem uwTM : ∀ w ∈ u_ws RM TM 27, w ∈ wsB := by decide +kernel
abbrev c_B_init : ByteArray := prog_1_method_1_code
def y_B_init : MethodName := ⟨"BankScheduler", "<init>", "(III)V"⟩
abbrev c_B_time : ByteArray := prog_1_method_2_code
def y_B_time : MethodName := ⟨"BankScheduler", "time", "(II)I"⟩
abbrev c_B_read : ByteArray := prog_1_method_3_code
def y_B_read : MethodName := ⟨"BankScheduler", "read", "(III)I"⟩
abbrev c_B_write : ByteArray := prog_1_method_4_code
def y_B_write : MethodName := ⟨"BankScheduler", "write", "(IIII)I"⟩
abbrev c_B_tick : ByteArray := prog_1_method_5_code
def y_B_tick : MethodName := ⟨"BankScheduler", "tick", "()I"⟩
abbrev c_B_run : ByteArray := prog_1_method_6_code
def y_B_run : MethodName := ⟨"BankScheduler", "run", "(I)I"⟩
abbrev c_B_result : ByteArray := prog_1_method_7_code
def y_B_result : MethodName := ⟨"BankScheduler", "result", "(I)I"⟩
abbrev c_B_word : ByteArray := prog_1_method_8_code
def y_B_word : MethodName := ⟨"BankScheduler", "word", "(III)I"⟩
abbrev c_B_open : ByteArray := prog_1_method_9_code
def y_B_open : MethodName := ⟨"BankScheduler", "open", "(I)I"⟩
abbrev c_B_waiting : ByteArray := prog_1_method_10_code
def y_B_waiting : MethodName := ⟨"BankScheduler", "waiting", "(I)I"⟩
abbrev c_B_figure : ByteArray := prog_1_method_11_code
def y_B_figure : MethodName := ⟨"BankScheduler", "figure", "(I)I"⟩
abbrev c_B_check : ByteArray := prog_1_method_12_code
def y_B_check : MethodName := ⟨"BankScheduler", "check", "(III)I"⟩
abbrev c_B_pause : ByteArray := prog_1_method_13_code
def y_B_pause : MethodName := ⟨"BankScheduler", "pause", "(I)I"⟩
abbrev c_B_hasRow : ByteArray := prog_1_method_14_code
def y_B_hasRow : MethodName := ⟨"BankScheduler", "hasRow", "(I)Z"⟩
abbrev c_B_isRow : ByteArray := prog_1_method_15_code
def y_B_isRow : MethodName := ⟨"BankScheduler", "isRow", "(I)Z"⟩
abbrev c_B_wordPlace : ByteArray := prog_1_method_16_code
def y_B_wordPlace : MethodName := ⟨"BankScheduler", "wordPlace", "(III)I"⟩
abbrev c_B_refuseNoWord : ByteArray := prog_1_method_17_code
def y_B_refuseNoWord : MethodName := ⟨"BankScheduler", "refuseNoWord", "(III)V"⟩
abbrev c_B_refuseFullQueue : ByteArray := prog_1_method_18_code
def y_B_refuseFullQueue : MethodName := ⟨"BankScheduler", "refuseFullQueue", "()V"⟩
abbrev c_B_isKept : ByteArray := prog_1_method_19_code
def y_B_isKept : MethodName := ⟨"BankScheduler", "isKept", "(I)Z"⟩
abbrev c_B_enqueue : ByteArray := prog_1_method_20_code
def y_B_enqueue : MethodName := ⟨"BankScheduler", "enqueue", "(IIIII)I"⟩
abbrev c_B_giveFirst : ByteArray := prog_1_method_21_code
def y_B_giveFirst : MethodName := ⟨"BankScheduler", "giveFirst", "()I"⟩
abbrev c_B_refreshIsDue : ByteArray := prog_1_method_22_code
def y_B_refreshIsDue : MethodName := ⟨"BankScheduler", "refreshIsDue", "()Z"⟩
abbrev c_B_giveRefreshing : ByteArray := prog_1_method_23_code
def y_B_giveRefreshing : MethodName := ⟨"BankScheduler", "giveRefreshing", "()I"⟩
abbrev c_B_countLookedAt : ByteArray := prog_1_method_24_code
def y_B_countLookedAt : MethodName := ⟨"BankScheduler", "countLookedAt", "()I"⟩
abbrev c_B_hasWaitedLong : ByteArray := prog_1_method_25_code
def y_B_hasWaitedLong : MethodName := ⟨"BankScheduler", "hasWaitedLong", "(LBankScheduler$Request;)Z"⟩
abbrev c_B_findHit : ByteArray := prog_1_method_26_code
def y_B_findHit : MethodName := ⟨"BankScheduler", "findHit", "(I)I"⟩
abbrev c_B_hasOlderForWord : ByteArray := prog_1_method_27_code
def y_B_hasOlderForWord : MethodName := ⟨"BankScheduler", "hasOlderForWord", "(I)Z"⟩
abbrev c_B_giveHit : ByteArray := prog_1_method_28_code
def y_B_giveHit : MethodName := ⟨"BankScheduler", "giveHit", "(I)I"⟩
abbrev c_B_dequeue : ByteArray := prog_1_method_29_code
def y_B_dequeue : MethodName := ⟨"BankScheduler", "dequeue", "(I)V"⟩
abbrev c_B_giveWay : ByteArray := prog_1_method_30_code
def y_B_giveWay : MethodName := ⟨"BankScheduler", "giveWay", "(I)I"⟩
abbrev c_B_hasOlderForBank : ByteArray := prog_1_method_31_code
def y_B_hasOlderForBank : MethodName := ⟨"BankScheduler", "hasOlderForBank", "(I)Z"⟩
abbrev c_B_isWanted : ByteArray := prog_1_method_32_code
def y_B_isWanted : MethodName := ⟨"BankScheduler", "isWanted", "(III)Z"⟩
abbrev c_B_giveCommand : ByteArray := prog_1_method_33_code
def y_B_giveCommand : MethodName := ⟨"BankScheduler", "giveCommand", "(III)I"⟩
abbrev c_M_init : ByteArray := prog_5_method_1_code
def y_M_init : MethodName := ⟨"BankSchedulerModel", "<init>", "(III)V"⟩
abbrev c_M_thrown : ByteArray := prog_5_method_2_code
def y_M_thrown : MethodName := ⟨"BankSchedulerModel", "thrown", "()I"⟩
abbrev c_M_time : ByteArray := prog_5_method_3_code
def y_M_time : MethodName := ⟨"BankSchedulerModel", "time", "(II)I"⟩
abbrev c_M_early : ByteArray := prog_5_method_4_code
def y_M_early : MethodName := ⟨"BankSchedulerModel", "early", "(III)Z"⟩
abbrev c_M_brokenOpen : ByteArray := prog_5_method_5_code
def y_M_brokenOpen : MethodName := ⟨"BankSchedulerModel", "brokenOpen", "(II)I"⟩
abbrev c_M_brokenClose : ByteArray := prog_5_method_6_code
def y_M_brokenClose : MethodName := ⟨"BankSchedulerModel", "brokenClose", "(II)I"⟩
abbrev c_M_brokenUse : ByteArray := prog_5_method_7_code
def y_M_brokenUse : MethodName := ⟨"BankSchedulerModel", "brokenUse", "(III)I"⟩
abbrev c_M_brokenRefresh : ByteArray := prog_5_method_8_code
def y_M_brokenRefresh : MethodName := ⟨"BankSchedulerModel", "brokenRefresh", "(I)I"⟩
abbrev c_M_broken : ByteArray := prog_5_method_9_code
def y_M_broken : MethodName := ⟨"BankSchedulerModel", "broken", "(IIII)I"⟩
abbrev c_M_give : ByteArray := prog_5_method_10_code
def y_M_give : MethodName := ⟨"BankSchedulerModel", "give", "(IIII)V"⟩
abbrev c_M_isBank : ByteArray := prog_5_method_11_code
def y_M_isBank : MethodName := ⟨"BankSchedulerModel", "isBank", "(I)Z"⟩
abbrev c_M_isRow : ByteArray := prog_5_method_12_code
def y_M_isRow : MethodName := ⟨"BankSchedulerModel", "isRow", "(I)Z"⟩
abbrev c_M_isWord : ByteArray := prog_5_method_13_code
def y_M_isWord : MethodName := ⟨"BankSchedulerModel", "isWord", "(III)Z"⟩
abbrev c_M_request : ByteArray := prog_5_method_14_code
def y_M_request : MethodName := ⟨"BankSchedulerModel", "request", "(IIIZI)I"⟩
abbrev c_M_read : ByteArray := prog_5_method_15_code
def y_M_read : MethodName := ⟨"BankSchedulerModel", "read", "(III)I"⟩
abbrev c_M_write : ByteArray := prog_5_method_16_code
def y_M_write : MethodName := ⟨"BankSchedulerModel", "write", "(IIII)I"⟩
abbrev c_M_serve : ByteArray := prog_5_method_17_code
def y_M_serve : MethodName := ⟨"BankSchedulerModel", "serve", "(I)V"⟩
abbrev c_M_told : ByteArray := prog_5_method_18_code
def y_M_told : MethodName := ⟨"BankSchedulerModel", "told", "(III)I"⟩
abbrev c_M_refreshing : ByteArray := prog_5_method_19_code
def y_M_refreshing : MethodName := ⟨"BankSchedulerModel", "refreshing", "()I"⟩
abbrev c_M_hasElder : ByteArray := prog_5_method_20_code
def y_M_hasElder : MethodName := ⟨"BankSchedulerModel", "hasElder", "(I)Z"⟩
abbrev c_M_hit : ByteArray := prog_5_method_21_code
def y_M_hit : MethodName := ⟨"BankSchedulerModel", "hit", "(I)I"⟩
abbrev c_M_asks : ByteArray := prog_5_method_22_code
def y_M_asks : MethodName := ⟨"BankSchedulerModel", "asks", "(III)Z"⟩
abbrev c_M_way : ByteArray := prog_5_method_23_code
def y_M_way : MethodName := ⟨"BankSchedulerModel", "way", "(I)I"⟩
abbrev c_M_cycle : ByteArray := prog_5_method_24_code
def y_M_cycle : MethodName := ⟨"BankSchedulerModel", "cycle", "()I"⟩
abbrev c_M_tick : ByteArray := prog_5_method_25_code
def y_M_tick : MethodName := ⟨"BankSchedulerModel", "tick", "()I"⟩
abbrev c_M_run : ByteArray := prog_5_method_26_code
def y_M_run : MethodName := ⟨"BankSchedulerModel", "run", "(I)I"⟩
abbrev c_M_result : ByteArray := prog_5_method_27_code
def y_M_result : MethodName := ⟨"BankSchedulerModel", "result", "(I)I"⟩
abbrev c_M_word : ByteArray := prog_5_method_28_code
def y_M_word : MethodName := ⟨"BankSchedulerModel", "word", "(III)I"⟩
abbrev c_M_open : ByteArray := prog_5_method_29_code
def y_M_open : MethodName := ⟨"BankSchedulerModel", "open", "(I)I"⟩
abbrev c_M_waiting : ByteArray := prog_5_method_30_code
def y_M_waiting : MethodName := ⟨"BankSchedulerModel", "waiting", "(I)I"⟩
abbrev c_M_figure : ByteArray := prog_5_method_31_code
def y_M_figure : MethodName := ⟨"BankSchedulerModel", "figure", "(I)I"⟩
abbrev c_M_check : ByteArray := prog_5_method_32_code
def y_M_check : MethodName := ⟨"BankSchedulerModel", "check", "(III)I"⟩
abbrev c_M_pause : ByteArray := prog_5_method_33_code
def y_M_pause : MethodName := ⟨"BankSchedulerModel", "pause", "(I)I"⟩
abbrev c_C_init : ByteArray := prog_2_method_1_code
def y_C_init : MethodName := ⟨"BankScheduler$Channel", "<init>", "(I[I)V"⟩
abbrev c_C_hasBank : ByteArray := prog_2_method_2_code
def y_C_hasBank : MethodName := ⟨"BankScheduler$Channel", "hasBank", "(I)Z"⟩
abbrev c_C_firstBroken : ByteArray := prog_2_method_3_code
def y_C_firstBroken : MethodName := ⟨"BankScheduler$Channel", "firstBroken", "(III)I"⟩
abbrev c_C_brokenByOpen : ByteArray := prog_2_method_4_code
def y_C_brokenByOpen : MethodName := ⟨"BankScheduler$Channel", "brokenByOpen", "(I)I"⟩
abbrev c_C_brokenByClose : ByteArray := prog_2_method_5_code
def y_C_brokenByClose : MethodName := ⟨"BankScheduler$Channel", "brokenByClose", "(I)I"⟩
abbrev c_C_brokenByAccess : ByteArray := prog_2_method_6_code
def y_C_brokenByAccess : MethodName := ⟨"BankScheduler$Channel", "brokenByAccess", "(II)I"⟩
abbrev c_C_brokenByRefresh : ByteArray := prog_2_method_7_code
def y_C_brokenByRefresh : MethodName := ⟨"BankScheduler$Channel", "brokenByRefresh", "()I"⟩
abbrev c_C_give : ByteArray := prog_2_method_8_code
def y_C_give : MethodName := ⟨"BankScheduler$Channel", "give", "(III)V"⟩
abbrev c_C_isTooSoonForOthers : ByteArray := prog_2_method_9_code
def y_C_isTooSoonForOthers : MethodName := ⟨"BankScheduler$Channel", "isTooSoonForOthers", "(I)Z"⟩
abbrev c_C_isTooSoon : ByteArray := prog_2_method_10_code
def y_C_isTooSoon : MethodName := ⟨"BankScheduler$Channel", "isTooSoon", "(II)Z"⟩
abbrev c_R_init : ByteArray := prog_3_method_1_code
def y_R_init : MethodName := ⟨"BankScheduler$Request", "<init>", "()V"⟩
abbrev c_L_cell : ByteArray := method_2_code
def y_L_cell : MethodName := ⟨"BankSchedulerLaw", "cell", "([II)I"⟩
abbrev c_L_time : ByteArray := method_3_code
def y_L_time : MethodName := ⟨"BankSchedulerLaw", "time", "(LBankScheduler;II[J)I"⟩
abbrev c_L_read : ByteArray := method_4_code
def y_L_read : MethodName := ⟨"BankSchedulerLaw", "read", "(LBankScheduler;III[J)I"⟩
abbrev c_L_write : ByteArray := method_5_code
def y_L_write : MethodName := ⟨"BankSchedulerLaw", "write", "(LBankScheduler;IIII[J)I"⟩
abbrev c_L_run : ByteArray := method_6_code
def y_L_run : MethodName := ⟨"BankSchedulerLaw", "run", "(LBankScheduler;I[J)I"⟩
abbrev c_L_result : ByteArray := method_7_code
def y_L_result : MethodName := ⟨"BankSchedulerLaw", "result", "(LBankScheduler;I[J)I"⟩
abbrev c_L_word : ByteArray := method_8_code
def y_L_word : MethodName := ⟨"BankSchedulerLaw", "word", "(LBankScheduler;III[J)I"⟩
abbrev c_L_open : ByteArray := method_9_code
def y_L_open : MethodName := ⟨"BankSchedulerLaw", "open", "(LBankScheduler;I[J)I"⟩
abbrev c_L_waiting : ByteArray := method_10_code
def y_L_waiting : MethodName := ⟨"BankSchedulerLaw", "waiting", "(LBankScheduler;I[J)I"⟩
abbrev c_L_figure : ByteArray := method_11_code
def y_L_figure : MethodName := ⟨"BankSchedulerLaw", "figure", "(LBankScheduler;I[J)I"⟩
abbrev c_L_check : ByteArray := method_12_code
def y_L_check : MethodName := ⟨"BankSchedulerLaw", "check", "(LBankScheduler;III[J)I"⟩
abbrev c_L_pause : ByteArray := method_13_code
def y_L_pause : MethodName := ⟨"BankSchedulerLaw", "pause", "(LBankScheduler;I[J)I"⟩
theorem Y_B_time : kb_Y wsB y_B_time c_B_time 4 (some .int) 2 := ⟨kn_g, (kn_2 10 rfl rfl), (kn_1 1 rfl rfl), by decide, by decide, by decide⟩
theorem I_B_time : Cond.instanceMethod y_B_time ∈ wsB := (kn_2 8 rfl rfl)
theorem S_B_time : Cond.selects "BankScheduler" y_B_time y_B_time ∈ wsB := (kn_2 9 rfl rfl)
abbrev rm_B_time : Room := { frames := 6, cells := 0, slots := 0, locals := 90 }
theorem Y_B_read : kb_Y wsB y_B_read c_B_read 4 (some .int) 3 := ⟨kn_g, (kn_2 122 rfl rfl), (kn_1 1 rfl rfl), by decide, by decide, by decide⟩
theorem I_B_read : Cond.instanceMethod y_B_read ∈ wsB := (kn_2 120 rfl rfl)
theorem S_B_read : Cond.selects "BankScheduler" y_B_read y_B_read ∈ wsB := (kn_2 121 rfl rfl)
abbrev rm_B_read : Room := { frames := 7, cells := 0, slots := 0, locals := 113 }
theorem Y_B_write : kb_Y wsB y_B_write c_B_write 5 (some .int) 4 := ⟨kn_g, (kn_2 154 rfl rfl), (kn_1 1 rfl rfl), by decide, by decide, by decide⟩
theorem I_B_write : Cond.instanceMethod y_B_write ∈ wsB := (kn_2 152 rfl rfl)
theorem S_B_write : Cond.selects "BankScheduler" y_B_write y_B_write ∈ wsB := (kn_2 153 rfl rfl)
abbrev rm_B_write : Room := { frames := 7, cells := 0, slots := 0, locals := 113 }
theorem Y_B_tick : kb_Y wsB y_B_tick c_B_tick 2 (some .int) 0 := ⟨kn_g, (kn_1 150 rfl rfl), (kn_1 1 rfl rfl), by decide, by decide, by decide⟩
theorem I_B_tick : Cond.instanceMethod y_B_tick ∈ wsB := (kn_1 148 rfl rfl)
theorem S_B_tick : Cond.selects "BankScheduler" y_B_tick y_B_tick ∈ wsB := (kn_1 149 rfl rfl)
abbrev rm_B_tick : Room := { frames := 5, cells := 0, slots := 0, locals := 111 }
theorem Y_B_run : kb_Y wsB y_B_run c_B_run 4 (some .int) 1 := ⟨kn_g, (kn_2 161 rfl rfl), (kn_1 1 rfl rfl), by decide, by decide, by decide⟩
theorem I_B_run : Cond.instanceMethod y_B_run ∈ wsB := (kn_2 159 rfl rfl)
theorem S_B_run : Cond.selects "BankScheduler" y_B_run y_B_run ∈ wsB := (kn_2 160 rfl rfl)
abbrev rm_B_run : Room := { frames := 6, cells := 0, slots := 0, locals := 132 }
theorem Y_B_result : kb_Y wsB y_B_result c_B_result 3 (some .int) 1 := ⟨kn_g, (kn_2 171 rfl rfl), (kn_1 1 rfl rfl), by decide, by decide, by decide⟩
theorem I_B_result : Cond.instanceMethod y_B_result ∈ wsB := (kn_2 169 rfl rfl)
theorem S_B_result : Cond.selects "BankScheduler" y_B_result y_B_result ∈ wsB := (kn_2 170 rfl rfl)
abbrev rm_B_result : Room := { frames := 6, cells := 0, slots := 0, locals := 90 }
theorem Y_B_word : kb_Y wsB y_B_word c_B_word 4 (some .int) 3 := ⟨kn_g, (kn_2 195 rfl rfl), (kn_1 1 rfl rfl), by decide, by decide, by decide⟩
theorem I_B_word : Cond.instanceMethod y_B_word ∈ wsB := (kn_2 193 rfl rfl)
theorem S_B_word : Cond.selects "BankScheduler" y_B_word y_B_word ∈ wsB := (kn_2 194 rfl rfl)
abbrev rm_B_word : Room := { frames := 7, cells := 0, slots := 0, locals := 113 }
theorem Y_B_open : kb_Y wsB y_B_open c_B_open 2 (some .int) 1 := ⟨kn_g, (kn_2 202 rfl rfl), (kn_1 1 rfl rfl), by decide, by decide, by decide⟩
theorem I_B_open : Cond.instanceMethod y_B_open ∈ wsB := (kn_2 200 rfl rfl)
theorem S_B_open : Cond.selects "BankScheduler" y_B_open y_B_open ∈ wsB := (kn_2 201 rfl rfl)
abbrev rm_B_open : Room := { frames := 6, cells := 0, slots := 0, locals := 90 }
theorem Y_B_waiting : kb_Y wsB y_B_waiting c_B_waiting 2 (some .int) 1 := ⟨kn_g, (kn_2 210 rfl rfl), (kn_1 1 rfl rfl), by decide, by decide, by decide⟩
theorem I_B_waiting : Cond.instanceMethod y_B_waiting ∈ wsB := (kn_2 208 rfl rfl)
theorem S_B_waiting : Cond.selects "BankScheduler" y_B_waiting y_B_waiting ∈ wsB := (kn_2 209 rfl rfl)
abbrev rm_B_waiting : Room := { frames := 6, cells := 0, slots := 0, locals := 90 }
theorem Y_B_figure : kb_Y wsB y_B_figure c_B_figure 2 (some .int) 1 := ⟨kn_g, (kn_2 218 rfl rfl), (kn_1 1 rfl rfl), by decide, by decide, by decide⟩
theorem I_B_figure : Cond.instanceMethod y_B_figure ∈ wsB := (kn_2 216 rfl rfl)
theorem S_B_figure : Cond.selects "BankScheduler" y_B_figure y_B_figure ∈ wsB := (kn_2 217 rfl rfl)
abbrev rm_B_figure : Room := { frames := 6, cells := 0, slots := 0, locals := 90 }
theorem Y_B_check : kb_Y wsB y_B_check c_B_check 5 (some .int) 3 := ⟨kn_g, (kn_2 226 rfl rfl), (kn_1 1 rfl rfl), by decide, by decide, by decide⟩
theorem I_B_check : Cond.instanceMethod y_B_check ∈ wsB := (kn_2 224 rfl rfl)
theorem S_B_check : Cond.selects "BankScheduler" y_B_check y_B_check ∈ wsB := (kn_2 225 rfl rfl)
abbrev rm_B_check : Room := { frames := 6, cells := 0, slots := 0, locals := 90 }
theorem Y_B_pause : kb_Y wsB y_B_pause c_B_pause 2 (some .int) 1 := ⟨kn_g, (kn_3 3 rfl rfl), (kn_1 1 rfl rfl), by decide, by decide, by decide⟩
theorem I_B_pause : Cond.instanceMethod y_B_pause ∈ wsB := (kn_3 1 rfl rfl)
theorem S_B_pause : Cond.selects "BankScheduler" y_B_pause y_B_pause ∈ wsB := (kn_3 2 rfl rfl)
abbrev rm_B_pause : Room := { frames := 6, cells := 0, slots := 0, locals := 90 }
theorem Y_B_hasRow : kb_Y wsB y_B_hasRow c_B_hasRow 1 (some .boolean) 1 := ⟨kn_g, (kn_1 181 rfl rfl), (kn_1 1 rfl rfl), by decide, by decide, by decide⟩
theorem T_B_hasRow : Cond.static y_B_hasRow ∈ wsB := (kn_1 180 rfl rfl)
abbrev rm_B_hasRow : Room := { frames := 0, cells := 0, slots := 0, locals := 0 }
theorem Y_B_isRow : kb_Y wsB y_B_isRow c_B_isRow 1 (some .boolean) 1 := ⟨kn_g, (kn_2 133 rfl rfl), (kn_1 1 rfl rfl), by decide, by decide, by decide⟩
theorem T_B_isRow : Cond.static y_B_isRow ∈ wsB := (kn_2 132 rfl rfl)
abbrev rm_B_isRow : Room := { frames := 0, cells := 0, slots := 0, locals := 0 }
theorem Y_B_wordPlace : kb_Y wsB y_B_wordPlace c_B_wordPlace 3 (some .int) 3 := ⟨kn_g, (kn_2 146 rfl rfl), (kn_1 1 rfl rfl), by decide, by decide, by decide⟩
theorem T_B_wordPlace : Cond.static y_B_wordPlace ∈ wsB := (kn_2 145 rfl rfl)
abbrev rm_B_wordPlace : Room := { frames := 0, cells := 0, slots := 0, locals := 0 }
theorem Y_B_refuseNoWord : kb_Y wsB y_B_refuseNoWord c_B_refuseNoWord 4 none 3 := ⟨kn_g, (kn_2 126 rfl rfl), (kn_1 1 rfl rfl), by decide, by decide, by decide⟩
theorem I_B_refuseNoWord : Cond.instanceMethod y_B_refuseNoWord ∈ wsB := (kn_2 125 rfl rfl)
theorem S_B_refuseNoWord : Cond.selects "BankScheduler" y_B_refuseNoWord y_B_refuseNoWord ∈ wsB := kn_s 17 rfl rfl
abbrev rm_B_refuseNoWord : Room := { frames := 6, cells := 0, slots := 0, locals := 90 }
theorem Y_B_refuseFullQueue : kb_Y wsB y_B_refuseFullQueue c_B_refuseFullQueue 1 none 0 := ⟨kn_g, (kn_2 138 rfl rfl), (kn_1 1 rfl rfl), by decide, by decide, by decide⟩
theorem I_B_refuseFullQueue : Cond.instanceMethod y_B_refuseFullQueue ∈ wsB := (kn_2 137 rfl rfl)
theorem S_B_refuseFullQueue : Cond.selects "BankScheduler" y_B_refuseFullQueue y_B_refuseFullQueue ∈ wsB := kn_s 18 rfl rfl
abbrev rm_B_refuseFullQueue : Room := { frames := 6, cells := 0, slots := 0, locals := 90 }
theorem Y_B_isKept : kb_Y wsB y_B_isKept c_B_isKept 2 (some .boolean) 1 := ⟨kn_g, (kn_1 237 rfl rfl), (kn_1 1 rfl rfl), by decide, by decide, by decide⟩
theorem I_B_isKept : Cond.instanceMethod y_B_isKept ∈ wsB := (kn_1 236 rfl rfl)
theorem S_B_isKept : Cond.selects "BankScheduler" y_B_isKept y_B_isKept ∈ wsB := kn_s 15 rfl rfl
abbrev rm_B_isKept : Room := { frames := 0, cells := 0, slots := 0, locals := 0 }
theorem Y_B_enqueue : kb_Y wsB y_B_enqueue c_B_enqueue 7 (some .int) 5 := ⟨kn_g, (kn_2 143 rfl rfl), (kn_1 1 rfl rfl), by decide, by decide, by decide⟩
theorem I_B_enqueue : Cond.instanceMethod y_B_enqueue ∈ wsB := (kn_2 142 rfl rfl)
theorem S_B_enqueue : Cond.selects "BankScheduler" y_B_enqueue y_B_enqueue ∈ wsB := kn_s 19 rfl rfl
abbrev rm_B_enqueue : Room := { frames := 1, cells := 0, slots := 0, locals := 22 }
theorem Y_B_giveFirst : kb_Y wsB y_B_giveFirst c_B_giveFirst 3 (some .int) 0 := ⟨kn_g, (kn_1 154 rfl rfl), (kn_1 1 rfl rfl), by decide, by decide, by decide⟩
theorem I_B_giveFirst : Cond.instanceMethod y_B_giveFirst ∈ wsB := (kn_1 153 rfl rfl)
theorem S_B_giveFirst : Cond.selects "BankScheduler" y_B_giveFirst y_B_giveFirst ∈ wsB := kn_s 0 rfl rfl
abbrev rm_B_giveFirst : Room := { frames := 4, cells := 0, slots := 0, locals := 89 }
theorem Y_B_refreshIsDue : kb_Y wsB y_B_refreshIsDue c_B_refreshIsDue 2 (some .boolean) 0 := ⟨kn_g, (kn_1 158 rfl rfl), (kn_1 1 rfl rfl), by decide, by decide, by decide⟩
theorem I_B_refreshIsDue : Cond.instanceMethod y_B_refreshIsDue ∈ wsB := (kn_1 157 rfl rfl)
theorem S_B_refreshIsDue : Cond.selects "BankScheduler" y_B_refreshIsDue y_B_refreshIsDue ∈ wsB := kn_s 1 rfl rfl
abbrev rm_B_refreshIsDue : Room := { frames := 0, cells := 0, slots := 0, locals := 0 }
theorem Y_B_giveRefreshing : kb_Y wsB y_B_giveRefreshing c_B_giveRefreshing 2 (some .int) 0 := ⟨kn_g, (kn_1 162 rfl rfl), (kn_1 1 rfl rfl), by decide, by decide, by decide⟩
theorem I_B_giveRefreshing : Cond.instanceMethod y_B_giveRefreshing ∈ wsB := (kn_1 161 rfl rfl)
theorem S_B_giveRefreshing : Cond.selects "BankScheduler" y_B_giveRefreshing y_B_giveRefreshing ∈ wsB := kn_s 2 rfl rfl
abbrev rm_B_giveRefreshing : Room := { frames := 2, cells := 0, slots := 0, locals := 47 }
theorem Y_B_countLookedAt : kb_Y wsB y_B_countLookedAt c_B_countLookedAt 1 (some .int) 0 := ⟨kn_g, (kn_1 189 rfl rfl), (kn_1 1 rfl rfl), by decide, by decide, by decide⟩
theorem I_B_countLookedAt : Cond.instanceMethod y_B_countLookedAt ∈ wsB := (kn_1 188 rfl rfl)
theorem S_B_countLookedAt : Cond.selects "BankScheduler" y_B_countLookedAt y_B_countLookedAt ∈ wsB := kn_s 5 rfl rfl
abbrev rm_B_countLookedAt : Room := { frames := 1, cells := 0, slots := 0, locals := 21 }
theorem Y_B_hasWaitedLong : kb_Y wsB y_B_hasWaitedLong c_B_hasWaitedLong 2 (some .boolean) 1 := ⟨kn_g, (kn_1 193 rfl rfl), (kn_1 1 rfl rfl), by decide, by decide, by decide⟩
theorem I_B_hasWaitedLong : Cond.instanceMethod y_B_hasWaitedLong ∈ wsB := (kn_1 192 rfl rfl)
theorem S_B_hasWaitedLong : Cond.selects "BankScheduler" y_B_hasWaitedLong y_B_hasWaitedLong ∈ wsB := kn_s 6 rfl rfl
abbrev rm_B_hasWaitedLong : Room := { frames := 0, cells := 0, slots := 0, locals := 0 }
theorem Y_B_findHit : kb_Y wsB y_B_findHit c_B_findHit 4 (some .int) 1 := ⟨kn_g, (kn_1 197 rfl rfl), (kn_1 1 rfl rfl), by decide, by decide, by decide⟩
theorem I_B_findHit : Cond.instanceMethod y_B_findHit ∈ wsB := (kn_1 196 rfl rfl)
theorem S_B_findHit : Cond.selects "BankScheduler" y_B_findHit y_B_findHit ∈ wsB := kn_s 7 rfl rfl
abbrev rm_B_findHit : Room := { frames := 2, cells := 0, slots := 0, locals := 44 }
theorem Y_B_hasOlderForWord : kb_Y wsB y_B_hasOlderForWord c_B_hasOlderForWord 3 (some .boolean) 1 := ⟨kn_g, (kn_1 205 rfl rfl), (kn_1 1 rfl rfl), by decide, by decide, by decide⟩
theorem I_B_hasOlderForWord : Cond.instanceMethod y_B_hasOlderForWord ∈ wsB := (kn_1 204 rfl rfl)
theorem S_B_hasOlderForWord : Cond.selects "BankScheduler" y_B_hasOlderForWord y_B_hasOlderForWord ∈ wsB := kn_s 8 rfl rfl
abbrev rm_B_hasOlderForWord : Room := { frames := 0, cells := 0, slots := 0, locals := 0 }
theorem Y_B_giveHit : kb_Y wsB y_B_giveHit c_B_giveHit 4 (some .int) 1 := ⟨kn_g, (kn_1 229 rfl rfl), (kn_1 1 rfl rfl), by decide, by decide, by decide⟩
theorem I_B_giveHit : Cond.instanceMethod y_B_giveHit ∈ wsB := (kn_1 228 rfl rfl)
theorem S_B_giveHit : Cond.selects "BankScheduler" y_B_giveHit y_B_giveHit ∈ wsB := kn_s 13 rfl rfl
abbrev rm_B_giveHit : Room := { frames := 2, cells := 0, slots := 0, locals := 47 }
theorem Y_B_dequeue : kb_Y wsB y_B_dequeue c_B_dequeue 4 none 1 := ⟨kn_g, (kn_1 233 rfl rfl), (kn_1 1 rfl rfl), by decide, by decide, by decide⟩
theorem I_B_dequeue : Cond.instanceMethod y_B_dequeue ∈ wsB := (kn_1 232 rfl rfl)
theorem S_B_dequeue : Cond.selects "BankScheduler" y_B_dequeue y_B_dequeue ∈ wsB := kn_s 14 rfl rfl
abbrev rm_B_dequeue : Room := { frames := 0, cells := 0, slots := 0, locals := 0 }
theorem Y_B_giveWay : kb_Y wsB y_B_giveWay c_B_giveWay 5 (some .int) 1 := ⟨kn_g, (kn_1 209 rfl rfl), (kn_1 1 rfl rfl), by decide, by decide, by decide⟩
theorem I_B_giveWay : Cond.instanceMethod y_B_giveWay ∈ wsB := (kn_1 208 rfl rfl)
theorem S_B_giveWay : Cond.selects "BankScheduler" y_B_giveWay y_B_giveWay ∈ wsB := kn_s 9 rfl rfl
abbrev rm_B_giveWay : Room := { frames := 3, cells := 0, slots := 0, locals := 65 }
theorem Y_B_hasOlderForBank : kb_Y wsB y_B_hasOlderForBank c_B_hasOlderForBank 3 (some .boolean) 1 := ⟨kn_g, (kn_1 213 rfl rfl), (kn_1 1 rfl rfl), by decide, by decide, by decide⟩
theorem I_B_hasOlderForBank : Cond.instanceMethod y_B_hasOlderForBank ∈ wsB := (kn_1 212 rfl rfl)
theorem S_B_hasOlderForBank : Cond.selects "BankScheduler" y_B_hasOlderForBank y_B_hasOlderForBank ∈ wsB := kn_s 10 rfl rfl
abbrev rm_B_hasOlderForBank : Room := { frames := 0, cells := 0, slots := 0, locals := 0 }
theorem Y_B_isWanted : kb_Y wsB y_B_isWanted c_B_isWanted 5 (some .boolean) 3 := ⟨kn_g, (kn_1 225 rfl rfl), (kn_1 1 rfl rfl), by decide, by decide, by decide⟩
theorem I_B_isWanted : Cond.instanceMethod y_B_isWanted ∈ wsB := (kn_1 224 rfl rfl)
theorem S_B_isWanted : Cond.selects "BankScheduler" y_B_isWanted y_B_isWanted ∈ wsB := kn_s 12 rfl rfl
abbrev rm_B_isWanted : Room := { frames := 0, cells := 0, slots := 0, locals := 0 }
theorem Y_B_giveCommand : kb_Y wsB y_B_giveCommand c_B_giveCommand 5 (some .int) 3 := ⟨kn_g, (kn_1 174 rfl rfl), (kn_1 1 rfl rfl), by decide, by decide, by decide⟩
theorem I_B_giveCommand : Cond.instanceMethod y_B_giveCommand ∈ wsB := (kn_1 173 rfl rfl)
theorem S_B_giveCommand : Cond.selects "BankScheduler" y_B_giveCommand y_B_giveCommand ∈ wsB := kn_s 4 rfl rfl
abbrev rm_B_giveCommand : Room := { frames := 1, cells := 0, slots := 0, locals := 23 }
theorem Y_M_thrown : kb_Y wsB y_M_thrown c_M_thrown 1 (some .int) 0 := ⟨kn_g, (kn_3 97 rfl rfl), (kn_1 5 rfl rfl), by decide, by decide, by decide⟩
theorem I_M_thrown : Cond.instanceMethod y_M_thrown ∈ wsB := (kn_3 95 rfl rfl)
theorem S_M_thrown : Cond.selects "BankSchedulerModel" y_M_thrown y_M_thrown ∈ wsB := (kn_3 96 rfl rfl)
abbrev rm_M_thrown : Room := { frames := 0, cells := 0, slots := 0, locals := 0 }
theorem Y_M_time : kb_Y wsB y_M_time c_M_time 6 (some .int) 2 := ⟨kn_g, (kn_3 101 rfl rfl), (kn_1 5 rfl rfl), by decide, by decide, by decide⟩
theorem I_M_time : Cond.instanceMethod y_M_time ∈ wsB := (kn_3 99 rfl rfl)
theorem S_M_time : Cond.selects "BankSchedulerModel" y_M_time y_M_time ∈ wsB := (kn_3 100 rfl rfl)
abbrev rm_M_time : Room := { frames := 0, cells := 0, slots := 0, locals := 0 }
theorem Y_M_early : kb_Y wsB y_M_early c_M_early 4 (some .boolean) 3 := ⟨kn_g, (kn_3 144 rfl rfl), (kn_1 5 rfl rfl), by decide, by decide, by decide⟩
theorem I_M_early : Cond.instanceMethod y_M_early ∈ wsB := (kn_3 143 rfl rfl)
theorem S_M_early : Cond.selects "BankSchedulerModel" y_M_early y_M_early ∈ wsB := kn_s 26 rfl rfl
abbrev rm_M_early : Room := { frames := 0, cells := 0, slots := 0, locals := 0 }
theorem Y_M_brokenOpen : kb_Y wsB y_M_brokenOpen c_M_brokenOpen 7 (some .int) 2 := ⟨kn_g, (kn_3 184 rfl rfl), (kn_1 5 rfl rfl), by decide, by decide, by decide⟩
theorem I_M_brokenOpen : Cond.instanceMethod y_M_brokenOpen ∈ wsB := (kn_3 183 rfl rfl)
theorem S_M_brokenOpen : Cond.selects "BankSchedulerModel" y_M_brokenOpen y_M_brokenOpen ∈ wsB := kn_s 36 rfl rfl
abbrev rm_M_brokenOpen : Room := { frames := 1, cells := 0, slots := 0, locals := 23 }
theorem Y_M_brokenClose : kb_Y wsB y_M_brokenClose c_M_brokenClose 4 (some .int) 2 := ⟨kn_g, (kn_3 156 rfl rfl), (kn_1 5 rfl rfl), by decide, by decide, by decide⟩
theorem I_M_brokenClose : Cond.instanceMethod y_M_brokenClose ∈ wsB := (kn_3 155 rfl rfl)
theorem S_M_brokenClose : Cond.selects "BankSchedulerModel" y_M_brokenClose y_M_brokenClose ∈ wsB := kn_s 29 rfl rfl
abbrev rm_M_brokenClose : Room := { frames := 1, cells := 0, slots := 0, locals := 23 }
theorem Y_M_brokenUse : kb_Y wsB y_M_brokenUse c_M_brokenUse 7 (some .int) 3 := ⟨kn_g, (kn_3 168 rfl rfl), (kn_1 5 rfl rfl), by decide, by decide, by decide⟩
theorem I_M_brokenUse : Cond.instanceMethod y_M_brokenUse ∈ wsB := (kn_3 167 rfl rfl)
theorem S_M_brokenUse : Cond.selects "BankSchedulerModel" y_M_brokenUse y_M_brokenUse ∈ wsB := kn_s 32 rfl rfl
abbrev rm_M_brokenUse : Room := { frames := 1, cells := 0, slots := 0, locals := 23 }
theorem Y_M_brokenRefresh : kb_Y wsB y_M_brokenRefresh c_M_brokenRefresh 5 (some .int) 1 := ⟨kn_g, (kn_3 140 rfl rfl), (kn_1 5 rfl rfl), by decide, by decide, by decide⟩
theorem I_M_brokenRefresh : Cond.instanceMethod y_M_brokenRefresh ∈ wsB := (kn_3 139 rfl rfl)
theorem S_M_brokenRefresh : Cond.selects "BankSchedulerModel" y_M_brokenRefresh y_M_brokenRefresh ∈ wsB := kn_s 25 rfl rfl
abbrev rm_M_brokenRefresh : Room := { frames := 1, cells := 0, slots := 0, locals := 23 }
theorem Y_M_broken : kb_Y wsB y_M_broken c_M_broken 5 (some .int) 4 := ⟨kn_g, (kn_3 216 rfl rfl), (kn_1 5 rfl rfl), by decide, by decide, by decide⟩
theorem I_M_broken : Cond.instanceMethod y_M_broken ∈ wsB := (kn_3 215 rfl rfl)
theorem S_M_broken : Cond.selects "BankSchedulerModel" y_M_broken y_M_broken ∈ wsB := kn_s 37 rfl rfl
abbrev rm_M_broken : Room := { frames := 2, cells := 0, slots := 0, locals := 49 }
theorem Y_M_give : kb_Y wsB y_M_give c_M_give 8 none 4 := ⟨kn_g, (kn_3 152 rfl rfl), (kn_1 5 rfl rfl), by decide, by decide, by decide⟩
theorem I_M_give : Cond.instanceMethod y_M_give ∈ wsB := (kn_3 151 rfl rfl)
theorem S_M_give : Cond.selects "BankSchedulerModel" y_M_give y_M_give ∈ wsB := kn_s 28 rfl rfl
abbrev rm_M_give : Room := { frames := 0, cells := 0, slots := 0, locals := 0 }
theorem Y_M_isBank : kb_Y wsB y_M_isBank c_M_isBank 2 (some .boolean) 1 := ⟨kn_g, (kn_3 117 rfl rfl), (kn_1 5 rfl rfl), by decide, by decide, by decide⟩
theorem I_M_isBank : Cond.instanceMethod y_M_isBank ∈ wsB := (kn_3 116 rfl rfl)
theorem S_M_isBank : Cond.selects "BankSchedulerModel" y_M_isBank y_M_isBank ∈ wsB := kn_s 22 rfl rfl
abbrev rm_M_isBank : Room := { frames := 0, cells := 0, slots := 0, locals := 0 }
theorem Y_M_isRow : kb_Y wsB y_M_isRow c_M_isRow 1 (some .boolean) 1 := ⟨kn_g, (kn_3 120 rfl rfl), (kn_1 5 rfl rfl), by decide, by decide, by decide⟩
theorem T_M_isRow : Cond.static y_M_isRow ∈ wsB := (kn_3 119 rfl rfl)
abbrev rm_M_isRow : Room := { frames := 0, cells := 0, slots := 0, locals := 0 }
theorem Y_M_isWord : kb_Y wsB y_M_isWord c_M_isWord 4 (some .boolean) 3 := ⟨kn_g, (kn_3 113 rfl rfl), (kn_1 5 rfl rfl), by decide, by decide, by decide⟩
theorem I_M_isWord : Cond.instanceMethod y_M_isWord ∈ wsB := (kn_3 112 rfl rfl)
theorem S_M_isWord : Cond.selects "BankSchedulerModel" y_M_isWord y_M_isWord ∈ wsB := kn_s 21 rfl rfl
abbrev rm_M_isWord : Room := { frames := 1, cells := 0, slots := 0, locals := 21 }
theorem Y_M_request : kb_Y wsB y_M_request c_M_request 6 (some .int) 5 := ⟨kn_g, (kn_3 109 rfl rfl), (kn_1 5 rfl rfl), by decide, by decide, by decide⟩
theorem I_M_request : Cond.instanceMethod y_M_request ∈ wsB := (kn_3 108 rfl rfl)
theorem S_M_request : Cond.selects "BankSchedulerModel" y_M_request y_M_request ∈ wsB := kn_s 20 rfl rfl
abbrev rm_M_request : Room := { frames := 2, cells := 0, slots := 0, locals := 44 }
theorem Y_M_read : kb_Y wsB y_M_read c_M_read 4 (some .int) 3 := ⟨kn_g, (kn_3 105 rfl rfl), (kn_1 5 rfl rfl), by decide, by decide, by decide⟩
theorem I_M_read : Cond.instanceMethod y_M_read ∈ wsB := (kn_3 103 rfl rfl)
theorem S_M_read : Cond.selects "BankSchedulerModel" y_M_read y_M_read ∈ wsB := (kn_3 104 rfl rfl)
abbrev rm_M_read : Room := { frames := 3, cells := 0, slots := 0, locals := 69 }
theorem Y_M_write : kb_Y wsB y_M_write c_M_write 5 (some .int) 4 := ⟨kn_g, (kn_3 124 rfl rfl), (kn_1 5 rfl rfl), by decide, by decide, by decide⟩
theorem I_M_write : Cond.instanceMethod y_M_write ∈ wsB := (kn_3 122 rfl rfl)
theorem S_M_write : Cond.selects "BankSchedulerModel" y_M_write y_M_write ∈ wsB := (kn_3 123 rfl rfl)
abbrev rm_M_write : Room := { frames := 3, cells := 0, slots := 0, locals := 69 }
theorem Y_M_serve : kb_Y wsB y_M_serve c_M_serve 5 none 1 := ⟨kn_g, (kn_3 172 rfl rfl), (kn_1 5 rfl rfl), by decide, by decide, by decide⟩
theorem I_M_serve : Cond.instanceMethod y_M_serve ∈ wsB := (kn_3 171 rfl rfl)
theorem S_M_serve : Cond.selects "BankSchedulerModel" y_M_serve y_M_serve ∈ wsB := kn_s 33 rfl rfl
abbrev rm_M_serve : Room := { frames := 0, cells := 0, slots := 0, locals := 0 }
theorem Y_M_told : kb_Y wsB y_M_told c_M_told 4 (some .int) 3 := ⟨kn_g, (kn_3 148 rfl rfl), (kn_1 5 rfl rfl), by decide, by decide, by decide⟩
theorem I_M_told : Cond.instanceMethod y_M_told ∈ wsB := (kn_3 147 rfl rfl)
theorem S_M_told : Cond.selects "BankSchedulerModel" y_M_told y_M_told ∈ wsB := kn_s 27 rfl rfl
abbrev rm_M_told : Room := { frames := 1, cells := 0, slots := 0, locals := 27 }
theorem Y_M_refreshing : kb_Y wsB y_M_refreshing c_M_refreshing 2 (some .int) 0 := ⟨kn_g, (kn_3 136 rfl rfl), (kn_1 5 rfl rfl), by decide, by decide, by decide⟩
theorem I_M_refreshing : Cond.instanceMethod y_M_refreshing ∈ wsB := (kn_3 135 rfl rfl)
theorem S_M_refreshing : Cond.selects "BankSchedulerModel" y_M_refreshing y_M_refreshing ∈ wsB := kn_s 24 rfl rfl
abbrev rm_M_refreshing : Room := { frames := 2, cells := 0, slots := 0, locals := 50 }
theorem Y_M_hasElder : kb_Y wsB y_M_hasElder c_M_hasElder 4 (some .boolean) 1 := ⟨kn_g, (kn_3 164 rfl rfl), (kn_1 5 rfl rfl), by decide, by decide, by decide⟩
theorem I_M_hasElder : Cond.instanceMethod y_M_hasElder ∈ wsB := (kn_3 163 rfl rfl)
theorem S_M_hasElder : Cond.selects "BankSchedulerModel" y_M_hasElder y_M_hasElder ∈ wsB := kn_s 31 rfl rfl
abbrev rm_M_hasElder : Room := { frames := 0, cells := 0, slots := 0, locals := 0 }
theorem Y_M_hit : kb_Y wsB y_M_hit c_M_hit 6 (some .int) 1 := ⟨kn_g, (kn_3 160 rfl rfl), (kn_1 5 rfl rfl), by decide, by decide, by decide⟩
theorem I_M_hit : Cond.instanceMethod y_M_hit ∈ wsB := (kn_3 159 rfl rfl)
theorem S_M_hit : Cond.selects "BankSchedulerModel" y_M_hit y_M_hit ∈ wsB := kn_s 30 rfl rfl
abbrev rm_M_hit : Room := { frames := 2, cells := 0, slots := 0, locals := 50 }
theorem Y_M_asks : kb_Y wsB y_M_asks c_M_asks 6 (some .boolean) 3 := ⟨kn_g, (kn_3 180 rfl rfl), (kn_1 5 rfl rfl), by decide, by decide, by decide⟩
theorem I_M_asks : Cond.instanceMethod y_M_asks ∈ wsB := (kn_3 179 rfl rfl)
theorem S_M_asks : Cond.selects "BankSchedulerModel" y_M_asks y_M_asks ∈ wsB := kn_s 35 rfl rfl
abbrev rm_M_asks : Room := { frames := 0, cells := 0, slots := 0, locals := 0 }
theorem Y_M_way : kb_Y wsB y_M_way c_M_way 6 (some .int) 1 := ⟨kn_g, (kn_3 176 rfl rfl), (kn_1 5 rfl rfl), by decide, by decide, by decide⟩
theorem I_M_way : Cond.instanceMethod y_M_way ∈ wsB := (kn_3 175 rfl rfl)
theorem S_M_way : Cond.selects "BankSchedulerModel" y_M_way y_M_way ∈ wsB := kn_s 34 rfl rfl
abbrev rm_M_way : Room := { frames := 2, cells := 0, slots := 0, locals := 50 }
theorem Y_M_cycle : kb_Y wsB y_M_cycle c_M_cycle 4 (some .int) 0 := ⟨kn_g, (kn_3 132 rfl rfl), (kn_1 5 rfl rfl), by decide, by decide, by decide⟩
theorem I_M_cycle : Cond.instanceMethod y_M_cycle ∈ wsB := (kn_3 131 rfl rfl)
theorem S_M_cycle : Cond.selects "BankSchedulerModel" y_M_cycle y_M_cycle ∈ wsB := kn_s 23 rfl rfl
abbrev rm_M_cycle : Room := { frames := 3, cells := 0, slots := 0, locals := 75 }
theorem Y_M_tick : kb_Y wsB y_M_tick c_M_tick 1 (some .int) 0 := ⟨kn_g, (kn_3 128 rfl rfl), (kn_1 5 rfl rfl), by decide, by decide, by decide⟩
theorem I_M_tick : Cond.instanceMethod y_M_tick ∈ wsB := (kn_3 126 rfl rfl)
theorem S_M_tick : Cond.selects "BankSchedulerModel" y_M_tick y_M_tick ∈ wsB := (kn_3 127 rfl rfl)
abbrev rm_M_tick : Room := { frames := 4, cells := 0, slots := 0, locals := 98 }
theorem Y_M_run : kb_Y wsB y_M_run c_M_run 5 (some .int) 1 := ⟨kn_g, (kn_3 188 rfl rfl), (kn_1 5 rfl rfl), by decide, by decide, by decide⟩
theorem I_M_run : Cond.instanceMethod y_M_run ∈ wsB := (kn_3 186 rfl rfl)
theorem S_M_run : Cond.selects "BankSchedulerModel" y_M_run y_M_run ∈ wsB := (kn_3 187 rfl rfl)
abbrev rm_M_run : Room := { frames := 4, cells := 0, slots := 0, locals := 98 }
theorem Y_M_result : kb_Y wsB y_M_result c_M_result 3 (some .int) 1 := ⟨kn_g, (kn_3 192 rfl rfl), (kn_1 5 rfl rfl), by decide, by decide, by decide⟩
theorem I_M_result : Cond.instanceMethod y_M_result ∈ wsB := (kn_3 190 rfl rfl)
theorem S_M_result : Cond.selects "BankSchedulerModel" y_M_result y_M_result ∈ wsB := (kn_3 191 rfl rfl)
abbrev rm_M_result : Room := { frames := 0, cells := 0, slots := 0, locals := 0 }
theorem Y_M_word : kb_Y wsB y_M_word c_M_word 4 (some .int) 3 := ⟨kn_g, (kn_3 196 rfl rfl), (kn_1 5 rfl rfl), by decide, by decide, by decide⟩
theorem I_M_word : Cond.instanceMethod y_M_word ∈ wsB := (kn_3 194 rfl rfl)
theorem S_M_word : Cond.selects "BankSchedulerModel" y_M_word y_M_word ∈ wsB := (kn_3 195 rfl rfl)
abbrev rm_M_word : Room := { frames := 2, cells := 0, slots := 0, locals := 44 }
theorem Y_M_open : kb_Y wsB y_M_open c_M_open 2 (some .int) 1 := ⟨kn_g, (kn_3 200 rfl rfl), (kn_1 5 rfl rfl), by decide, by decide, by decide⟩
theorem I_M_open : Cond.instanceMethod y_M_open ∈ wsB := (kn_3 198 rfl rfl)
theorem S_M_open : Cond.selects "BankSchedulerModel" y_M_open y_M_open ∈ wsB := (kn_3 199 rfl rfl)
abbrev rm_M_open : Room := { frames := 1, cells := 0, slots := 0, locals := 21 }
theorem Y_M_waiting : kb_Y wsB y_M_waiting c_M_waiting 2 (some .int) 1 := ⟨kn_g, (kn_3 204 rfl rfl), (kn_1 5 rfl rfl), by decide, by decide, by decide⟩
theorem I_M_waiting : Cond.instanceMethod y_M_waiting ∈ wsB := (kn_3 202 rfl rfl)
theorem S_M_waiting : Cond.selects "BankSchedulerModel" y_M_waiting y_M_waiting ∈ wsB := (kn_3 203 rfl rfl)
abbrev rm_M_waiting : Room := { frames := 0, cells := 0, slots := 0, locals := 0 }
theorem Y_M_figure : kb_Y wsB y_M_figure c_M_figure 2 (some .int) 1 := ⟨kn_g, (kn_3 208 rfl rfl), (kn_1 5 rfl rfl), by decide, by decide, by decide⟩
theorem I_M_figure : Cond.instanceMethod y_M_figure ∈ wsB := (kn_3 206 rfl rfl)
theorem S_M_figure : Cond.selects "BankSchedulerModel" y_M_figure y_M_figure ∈ wsB := (kn_3 207 rfl rfl)
abbrev rm_M_figure : Room := { frames := 0, cells := 0, slots := 0, locals := 0 }
theorem Y_M_check : kb_Y wsB y_M_check c_M_check 6 (some .int) 3 := ⟨kn_g, (kn_3 212 rfl rfl), (kn_1 5 rfl rfl), by decide, by decide, by decide⟩
theorem I_M_check : Cond.instanceMethod y_M_check ∈ wsB := (kn_3 210 rfl rfl)
theorem S_M_check : Cond.selects "BankSchedulerModel" y_M_check y_M_check ∈ wsB := (kn_3 211 rfl rfl)
abbrev rm_M_check : Room := { frames := 3, cells := 0, slots := 0, locals := 73 }
theorem Y_M_pause : kb_Y wsB y_M_pause c_M_pause 2 (some .int) 1 := ⟨kn_g, (kn_3 220 rfl rfl), (kn_1 5 rfl rfl), by decide, by decide, by decide⟩
theorem I_M_pause : Cond.instanceMethod y_M_pause ∈ wsB := (kn_3 218 rfl rfl)
theorem S_M_pause : Cond.selects "BankSchedulerModel" y_M_pause y_M_pause ∈ wsB := (kn_3 219 rfl rfl)
abbrev rm_M_pause : Room := { frames := 0, cells := 0, slots := 0, locals := 0 }
theorem Y_C_hasBank : kb_Y wsB y_C_hasBank c_C_hasBank 2 (some .boolean) 1 := ⟨kn_g, (kn_2 130 rfl rfl), (kn_1 3 rfl rfl), by decide, by decide, by decide⟩
theorem I_C_hasBank : Cond.instanceMethod y_C_hasBank ∈ wsB := (kn_2 128 rfl rfl)
theorem S_C_hasBank : Cond.selects "BankScheduler$Channel" y_C_hasBank y_C_hasBank ∈ wsB := (kn_2 129 rfl rfl)
abbrev rm_C_hasBank : Room := { frames := 0, cells := 0, slots := 0, locals := 0 }
theorem Y_C_firstBroken : kb_Y wsB y_C_firstBroken c_C_firstBroken 4 (some .int) 3 := ⟨kn_g, (kn_2 232 rfl rfl), (kn_1 3 rfl rfl), by decide, by decide, by decide⟩
theorem I_C_firstBroken : Cond.instanceMethod y_C_firstBroken ∈ wsB := (kn_2 230 rfl rfl)
theorem S_C_firstBroken : Cond.selects "BankScheduler$Channel" y_C_firstBroken y_C_firstBroken ∈ wsB := (kn_2 231 rfl rfl)
abbrev rm_C_firstBroken : Room := { frames := 3, cells := 0, slots := 0, locals := 65 }
theorem Y_C_brokenByOpen : kb_Y wsB y_C_brokenByOpen c_C_brokenByOpen 2 (some .int) 1 := ⟨kn_g, (kn_1 217 rfl rfl), (kn_1 3 rfl rfl), by decide, by decide, by decide⟩
theorem I_C_brokenByOpen : Cond.instanceMethod y_C_brokenByOpen ∈ wsB := (kn_1 215 rfl rfl)
theorem S_C_brokenByOpen : Cond.selects "BankScheduler$Channel" y_C_brokenByOpen y_C_brokenByOpen ∈ wsB := (kn_1 216 rfl rfl)
abbrev rm_C_brokenByOpen : Room := { frames := 2, cells := 0, slots := 0, locals := 44 }
theorem Y_C_brokenByClose : kb_Y wsB y_C_brokenByClose c_C_brokenByClose 2 (some .int) 1 := ⟨kn_g, (kn_1 185 rfl rfl), (kn_1 3 rfl rfl), by decide, by decide, by decide⟩
theorem I_C_brokenByClose : Cond.instanceMethod y_C_brokenByClose ∈ wsB := (kn_1 183 rfl rfl)
theorem S_C_brokenByClose : Cond.selects "BankScheduler$Channel" y_C_brokenByClose y_C_brokenByClose ∈ wsB := (kn_1 184 rfl rfl)
abbrev rm_C_brokenByClose : Room := { frames := 1, cells := 0, slots := 0, locals := 22 }
theorem Y_C_brokenByAccess : kb_Y wsB y_C_brokenByAccess c_C_brokenByAccess 3 (some .int) 2 := ⟨kn_g, (kn_1 201 rfl rfl), (kn_1 3 rfl rfl), by decide, by decide, by decide⟩
theorem I_C_brokenByAccess : Cond.instanceMethod y_C_brokenByAccess ∈ wsB := (kn_1 199 rfl rfl)
theorem S_C_brokenByAccess : Cond.selects "BankScheduler$Channel" y_C_brokenByAccess y_C_brokenByAccess ∈ wsB := (kn_1 200 rfl rfl)
abbrev rm_C_brokenByAccess : Room := { frames := 1, cells := 0, slots := 0, locals := 22 }
theorem Y_C_brokenByRefresh : kb_Y wsB y_C_brokenByRefresh c_C_brokenByRefresh 2 (some .int) 0 := ⟨kn_g, (kn_1 166 rfl rfl), (kn_1 3 rfl rfl), by decide, by decide, by decide⟩
theorem I_C_brokenByRefresh : Cond.instanceMethod y_C_brokenByRefresh ∈ wsB := (kn_1 164 rfl rfl)
theorem S_C_brokenByRefresh : Cond.selects "BankScheduler$Channel" y_C_brokenByRefresh y_C_brokenByRefresh ∈ wsB := (kn_1 165 rfl rfl)
abbrev rm_C_brokenByRefresh : Room := { frames := 1, cells := 0, slots := 0, locals := 22 }
theorem Y_C_give : kb_Y wsB y_C_give c_C_give 4 none 3 := ⟨kn_g, (kn_1 178 rfl rfl), (kn_1 3 rfl rfl), by decide, by decide, by decide⟩
theorem I_C_give : Cond.instanceMethod y_C_give ∈ wsB := (kn_1 176 rfl rfl)
theorem S_C_give : Cond.selects "BankScheduler$Channel" y_C_give y_C_give ∈ wsB := (kn_1 177 rfl rfl)
abbrev rm_C_give : Room := { frames := 0, cells := 0, slots := 0, locals := 0 }
theorem Y_C_isTooSoonForOthers : kb_Y wsB y_C_isTooSoonForOthers c_C_isTooSoonForOthers 3 (some .boolean) 1 := ⟨kn_g, (kn_1 221 rfl rfl), (kn_1 3 rfl rfl), by decide, by decide, by decide⟩
theorem I_C_isTooSoonForOthers : Cond.instanceMethod y_C_isTooSoonForOthers ∈ wsB := (kn_1 220 rfl rfl)
theorem S_C_isTooSoonForOthers : Cond.selects "BankScheduler$Channel" y_C_isTooSoonForOthers y_C_isTooSoonForOthers ∈ wsB := kn_s 11 rfl rfl
abbrev rm_C_isTooSoonForOthers : Room := { frames := 1, cells := 0, slots := 0, locals := 22 }
theorem Y_C_isTooSoon : kb_Y wsB y_C_isTooSoon c_C_isTooSoon 3 (some .boolean) 2 := ⟨kn_g, (kn_1 170 rfl rfl), (kn_1 3 rfl rfl), by decide, by decide, by decide⟩
theorem I_C_isTooSoon : Cond.instanceMethod y_C_isTooSoon ∈ wsB := (kn_1 169 rfl rfl)
theorem S_C_isTooSoon : Cond.selects "BankScheduler$Channel" y_C_isTooSoon y_C_isTooSoon ∈ wsB := kn_s 3 rfl rfl
abbrev rm_C_isTooSoon : Room := { frames := 0, cells := 0, slots := 0, locals := 0 }
theorem fB_31 : kb_F vwCl wsB "BankScheduler" 31 2 1 := ⟨(RB, TB, 11), rfl, uwTB, by decide, (kn_1 114 rfl rfl), rfl⟩
theorem fB_42 : kb_F vwCl wsB "BankScheduler" 42 2 3 := ⟨(RB, TB, 11), rfl, uwTB, by decide, (kn_1 116 rfl rfl), rfl⟩
theorem fB_80 : kb_F vwCl wsB "BankScheduler" 80 0 11 := ⟨(RC, TC, 12), rfl, uwTC, by decide, (kn_1 56 rfl rfl), rfl⟩
theorem lB_88 : Cond.methodLink "BankScheduler" 88 y_B_refuseNoWord ∈ wsB := (kn_2 123 rfl rfl)
theorem lB_92 : Cond.methodLink "BankScheduler" 92 y_B_refuseFullQueue ∈ wsB := (kn_2 135 rfl rfl)
theorem lB_95 : Cond.methodLink "BankScheduler" 95 y_B_enqueue ∈ wsB := (kn_2 140 rfl rfl)
theorem lB_99 : Cond.methodLink "BankScheduler" 99 y_B_giveFirst ∈ wsB := (kn_1 151 rfl rfl)
theorem gB_80 : kb_FP vwCl wsB "BankScheduler" 80 0 11 .int := ⟨(RC, TC, 12), tyTC, rfl, uwTC, tyTC_ok, nmTC, by decide, (kn_1 56 rfl rfl), rfl, rfl, by decide +kernel⟩
theorem lB_105 : Cond.methodLink "BankScheduler" 105 y_B_tick ∈ wsB := (kn_2 163 rfl rfl)
theorem fB_108 : kb_F vwCl wsB "BankScheduler" 108 2 7 := ⟨(RB, TB, 11), rfl, uwTB, by decide, (kn_1 120 rfl rfl), rfl⟩
theorem lB_111 : Cond.methodLink "BankScheduler" 111 y_B_isKept ∈ wsB := (kn_1 234 rfl rfl)
theorem fB_59 : kb_F vwCl wsB "BankScheduler" 59 2 10 := ⟨(RB, TB, 11), rfl, uwTB, by decide, (kn_1 123 rfl rfl), rfl⟩
theorem fB_56 : kb_F vwCl wsB "BankScheduler" 56 2 9 := ⟨(RB, TB, 11), rfl, uwTB, by decide, (kn_1 122 rfl rfl), rfl⟩
theorem fB_34 : kb_F vwCl wsB "BankScheduler" 34 2 2 := ⟨(RB, TB, 11), rfl, uwTB, by decide, (kn_1 115 rfl rfl), rfl⟩
theorem lB_122 : Cond.methodLink "BankScheduler" 122 y_B_wordPlace ∈ wsB := (kn_2 144 rfl rfl)
theorem lB_126 : Cond.methodLink "BankScheduler" 126 y_C_hasBank ∈ wsB := (kn_2 127 rfl rfl)
theorem fB_131 : kb_F vwCl wsB "BankScheduler" 131 0 1 := ⟨(RC, TC, 12), rfl, uwTC, by decide, (kn_1 44 rfl rfl), rfl⟩
theorem fB_134 : kb_F vwCl wsB "BankScheduler" 134 2 6 := ⟨(RB, TB, 11), rfl, uwTB, by decide, (kn_1 119 rfl rfl), rfl⟩
theorem fB_51 : kb_F vwCl wsB "BankScheduler" 51 2 5 := ⟨(RB, TB, 11), rfl, uwTB, by decide, (kn_1 118 rfl rfl), rfl⟩
theorem fB_139 : kb_F vwCl wsB "BankScheduler" 139 1 5 := ⟨(RReq, TR, 7), rfl, uwTR, by decide, (kn_1 96 rfl rfl), rfl⟩
theorem fB_142 : kb_F vwCl wsB "BankScheduler" 142 0 7 := ⟨(RC, TC, 12), rfl, uwTC, by decide, (kn_1 51 rfl rfl), rfl⟩
theorem fB_145 : kb_F vwCl wsB "BankScheduler" 145 2 8 := ⟨(RB, TB, 11), rfl, uwTB, by decide, (kn_1 121 rfl rfl), rfl⟩
theorem fB_148 : kb_F vwCl wsB "BankScheduler" 148 0 10 := ⟨(RC, TC, 12), rfl, uwTC, by decide, (kn_1 55 rfl rfl), rfl⟩
theorem fB_46 : kb_F vwCl wsB "BankScheduler" 46 2 4 := ⟨(RB, TB, 11), rfl, uwTB, by decide, (kn_1 117 rfl rfl), rfl⟩
theorem lB_155 : Cond.methodLink "BankScheduler" 155 y_B_hasRow ∈ wsB := (kn_1 179 rfl rfl)
theorem lB_158 : Cond.methodLink "BankScheduler" 158 y_B_isRow ∈ wsB := (kn_2 131 rfl rfl)
theorem lB_163 : Cond.methodLink "BankScheduler" 163 y_C_firstBroken ∈ wsB := (kn_2 229 rfl rfl)
theorem lB_166 : Cond.methodLink "BankScheduler" 166 y_C_give ∈ wsB := (kn_1 175 rfl rfl)
theorem gB_175 : kb_FP vwCl wsB "BankScheduler" 175 1 0 .int := ⟨(RReq, TR, 7), tyTR, rfl, uwTR, tyTR_ok, nmTR, by decide, (kn_1 91 rfl rfl), rfl, rfl, by decide +kernel⟩
theorem gB_178 : kb_FP vwCl wsB "BankScheduler" 178 1 1 .int := ⟨(RReq, TR, 7), tyTR, rfl, uwTR, tyTR_ok, nmTR, by decide, (kn_1 92 rfl rfl), rfl, rfl, by decide +kernel⟩
theorem gB_181 : kb_FP vwCl wsB "BankScheduler" 181 1 2 .int := ⟨(RReq, TR, 7), tyTR, rfl, uwTR, tyTR_ok, nmTR, by decide, (kn_1 93 rfl rfl), rfl, rfl, by decide +kernel⟩
theorem gB_184 : kb_FP vwCl wsB "BankScheduler" 184 1 3 .int := ⟨(RReq, TR, 7), tyTR, rfl, uwTR, tyTR_ok, nmTR, by decide, (kn_1 94 rfl rfl), rfl, rfl, by decide +kernel⟩
theorem gB_187 : kb_FP vwCl wsB "BankScheduler" 187 1 4 .int := ⟨(RReq, TR, 7), tyTR, rfl, uwTR, tyTR_ok, nmTR, by decide, (kn_1 95 rfl rfl), rfl, rfl, by decide +kernel⟩
theorem gB_139 : kb_FP vwCl wsB "BankScheduler" 139 1 5 .int := ⟨(RReq, TR, 7), tyTR, rfl, uwTR, tyTR_ok, nmTR, by decide, (kn_1 96 rfl rfl), rfl, rfl, by decide +kernel⟩
theorem gB_190 : kb_FP vwCl wsB "BankScheduler" 190 1 6 .int := ⟨(RReq, TR, 7), tyTR, rfl, uwTR, tyTR_ok, nmTR, by decide, (kn_1 97 rfl rfl), rfl, rfl, by decide +kernel⟩
theorem gB_134 : kb_FP vwCl wsB "BankScheduler" 134 2 6 .int := ⟨(RB, TB, 11), tyTB, rfl, uwTB, tyTB_ok, nmTB, by decide, (kn_1 119 rfl rfl), rfl, rfl, by decide +kernel⟩
theorem gB_108 : kb_FP vwCl wsB "BankScheduler" 108 2 7 .int := ⟨(RB, TB, 11), tyTB, rfl, uwTB, tyTB_ok, nmTB, by decide, (kn_1 120 rfl rfl), rfl, rfl, by decide +kernel⟩
theorem kB_193 : Cond.constant "BankScheduler" 193 2147483647 ∈ wsB := (kn_2 147 rfl rfl)
theorem lB_194 : Cond.methodLink "BankScheduler" 194 y_B_refreshIsDue ∈ wsB := (kn_1 155 rfl rfl)
theorem lB_198 : Cond.methodLink "BankScheduler" 198 y_B_giveRefreshing ∈ wsB := (kn_1 159 rfl rfl)
theorem lB_201 : Cond.methodLink "BankScheduler" 201 y_B_countLookedAt ∈ wsB := (kn_1 186 rfl rfl)
theorem lB_204 : Cond.methodLink "BankScheduler" 204 y_B_findHit ∈ wsB := (kn_1 194 rfl rfl)
theorem lB_208 : Cond.methodLink "BankScheduler" 208 y_B_giveWay ∈ wsB := (kn_1 206 rfl rfl)
theorem lB_211 : Cond.methodLink "BankScheduler" 211 y_B_giveHit ∈ wsB := (kn_1 226 rfl rfl)
theorem lB_214 : Cond.methodLink "BankScheduler" 214 y_C_brokenByRefresh ∈ wsB := (kn_1 163 rfl rfl)
theorem lB_217 : Cond.methodLink "BankScheduler" 217 y_B_giveCommand ∈ wsB := (kn_1 171 rfl rfl)
theorem lB_220 : Cond.methodLink "BankScheduler" 220 y_C_brokenByClose ∈ wsB := (kn_1 182 rfl rfl)
theorem lB_223 : Cond.methodLink "BankScheduler" 223 y_B_hasWaitedLong ∈ wsB := (kn_1 190 rfl rfl)
theorem fB_190 : kb_F vwCl wsB "BankScheduler" 190 1 6 := ⟨(RReq, TR, 7), rfl, uwTR, by decide, (kn_1 97 rfl rfl), rfl⟩
theorem fB_18 : kb_F vwCl wsB "BankScheduler" 18 2 0 := ⟨(RB, TB, 11), rfl, uwTB, by decide, (kn_1 113 rfl rfl), rfl⟩
theorem fB_178 : kb_F vwCl wsB "BankScheduler" 178 1 1 := ⟨(RReq, TR, 7), rfl, uwTR, by decide, (kn_1 92 rfl rfl), rfl⟩
theorem fB_181 : kb_F vwCl wsB "BankScheduler" 181 1 2 := ⟨(RReq, TR, 7), rfl, uwTR, by decide, (kn_1 93 rfl rfl), rfl⟩
theorem lB_227 : Cond.methodLink "BankScheduler" 227 y_C_brokenByAccess ∈ wsB := (kn_1 198 rfl rfl)
theorem lB_230 : Cond.methodLink "BankScheduler" 230 y_B_hasOlderForWord ∈ wsB := (kn_1 202 rfl rfl)
theorem fB_184 : kb_F vwCl wsB "BankScheduler" 184 1 3 := ⟨(RReq, TR, 7), rfl, uwTR, by decide, (kn_1 94 rfl rfl), rfl⟩
theorem lB_233 : Cond.methodLink "BankScheduler" 233 y_B_dequeue ∈ wsB := (kn_1 230 rfl rfl)
theorem gB_145 : kb_FP vwCl wsB "BankScheduler" 145 2 8 .int := ⟨(RB, TB, 11), tyTB, rfl, uwTB, tyTB_ok, nmTB, by decide, (kn_1 121 rfl rfl), rfl, rfl, by decide +kernel⟩
theorem fB_175 : kb_F vwCl wsB "BankScheduler" 175 1 0 := ⟨(RReq, TR, 7), rfl, uwTR, by decide, (kn_1 91 rfl rfl), rfl⟩
theorem fB_187 : kb_F vwCl wsB "BankScheduler" 187 1 4 := ⟨(RReq, TR, 7), rfl, uwTR, by decide, (kn_1 95 rfl rfl), rfl⟩
theorem lB_237 : Cond.methodLink "BankScheduler" 237 y_B_hasOlderForBank ∈ wsB := (kn_1 210 rfl rfl)
theorem lB_240 : Cond.methodLink "BankScheduler" 240 y_C_brokenByOpen ∈ wsB := (kn_1 214 rfl rfl)
theorem lB_243 : Cond.methodLink "BankScheduler" 243 y_B_isWanted ∈ wsB := (kn_1 222 rfl rfl)
theorem fM_81 : kb_F vwCl wsB "BankSchedulerModel" 81 3 0 := ⟨(RM, TM, 27), rfl, uwTM, by decide, (kn_3 11 rfl rfl), rfl⟩
theorem fM_34 : kb_F vwCl wsB "BankSchedulerModel" 34 3 12 := ⟨(RM, TM, 27), rfl, uwTM, by decide, (kn_3 23 rfl rfl), rfl⟩
theorem gM_81 : kb_FP vwCl wsB "BankSchedulerModel" 81 3 0 .int := ⟨(RM, TM, 27), tyTM, rfl, uwTM, tyTM_ok, nmTM, by decide, (kn_3 11 rfl rfl), rfl, rfl, by decide +kernel⟩
theorem fM_7 : kb_F vwCl wsB "BankSchedulerModel" 7 3 4 := ⟨(RM, TM, 27), rfl, uwTM, by decide, (kn_3 15 rfl rfl), rfl⟩
theorem fM_71 : kb_F vwCl wsB "BankSchedulerModel" 71 3 1 := ⟨(RM, TM, 27), rfl, uwTM, by decide, (kn_3 12 rfl rfl), rfl⟩
theorem fM_16 : kb_F vwCl wsB "BankSchedulerModel" 16 3 6 := ⟨(RM, TM, 27), rfl, uwTM, by decide, (kn_3 17 rfl rfl), rfl⟩
theorem fM_13 : kb_F vwCl wsB "BankSchedulerModel" 13 3 5 := ⟨(RM, TM, 27), rfl, uwTM, by decide, (kn_3 16 rfl rfl), rfl⟩
theorem fM_19 : kb_F vwCl wsB "BankSchedulerModel" 19 3 7 := ⟨(RM, TM, 27), rfl, uwTM, by decide, (kn_3 18 rfl rfl), rfl⟩
theorem lM_84 : Cond.methodLink "BankSchedulerModel" 84 y_M_early ∈ wsB := (kn_3 141 rfl rfl)
theorem fM_28 : kb_F vwCl wsB "BankSchedulerModel" 28 3 10 := ⟨(RM, TM, 27), rfl, uwTM, by decide, (kn_3 21 rfl rfl), rfl⟩
theorem fM_31 : kb_F vwCl wsB "BankSchedulerModel" 31 3 11 := ⟨(RM, TM, 27), rfl, uwTM, by decide, (kn_3 22 rfl rfl), rfl⟩
theorem fM_25 : kb_F vwCl wsB "BankSchedulerModel" 25 3 9 := ⟨(RM, TM, 27), rfl, uwTM, by decide, (kn_3 20 rfl rfl), rfl⟩
theorem fM_22 : kb_F vwCl wsB "BankSchedulerModel" 22 3 8 := ⟨(RM, TM, 27), rfl, uwTM, by decide, (kn_3 19 rfl rfl), rfl⟩
theorem lM_88 : Cond.methodLink "BankSchedulerModel" 88 y_M_brokenOpen ∈ wsB := (kn_3 181 rfl rfl)
theorem lM_92 : Cond.methodLink "BankSchedulerModel" 92 y_M_brokenClose ∈ wsB := (kn_3 153 rfl rfl)
theorem lM_95 : Cond.methodLink "BankSchedulerModel" 95 y_M_brokenRefresh ∈ wsB := (kn_3 137 rfl rfl)
theorem lM_99 : Cond.methodLink "BankSchedulerModel" 99 y_M_brokenUse ∈ wsB := (kn_3 165 rfl rfl)
theorem lM_103 : Cond.methodLink "BankSchedulerModel" 103 y_M_isBank ∈ wsB := (kn_3 114 rfl rfl)
theorem lM_107 : Cond.methodLink "BankSchedulerModel" 107 y_M_isRow ∈ wsB := (kn_3 118 rfl rfl)
theorem lM_110 : Cond.methodLink "BankSchedulerModel" 110 y_M_isWord ∈ wsB := (kn_3 110 rfl rfl)
theorem fM_113 : kb_F vwCl wsB "BankSchedulerModel" 113 3 14 := ⟨(RM, TM, 27), rfl, uwTM, by decide, (kn_3 25 rfl rfl), rfl⟩
theorem fM_75 : kb_F vwCl wsB "BankSchedulerModel" 75 3 2 := ⟨(RM, TM, 27), rfl, uwTM, by decide, (kn_3 13 rfl rfl), rfl⟩
theorem fM_40 : kb_F vwCl wsB "BankSchedulerModel" 40 3 15 := ⟨(RM, TM, 27), rfl, uwTM, by decide, (kn_3 26 rfl rfl), rfl⟩
theorem fM_116 : kb_F vwCl wsB "BankSchedulerModel" 116 3 22 := ⟨(RM, TM, 27), rfl, uwTM, by decide, (kn_3 33 rfl rfl), rfl⟩
theorem fM_43 : kb_F vwCl wsB "BankSchedulerModel" 43 3 16 := ⟨(RM, TM, 27), rfl, uwTM, by decide, (kn_3 27 rfl rfl), rfl⟩
theorem fM_46 : kb_F vwCl wsB "BankSchedulerModel" 46 3 17 := ⟨(RM, TM, 27), rfl, uwTM, by decide, (kn_3 28 rfl rfl), rfl⟩
theorem fM_49 : kb_F vwCl wsB "BankSchedulerModel" 49 3 18 := ⟨(RM, TM, 27), rfl, uwTM, by decide, (kn_3 29 rfl rfl), rfl⟩
theorem fM_52 : kb_F vwCl wsB "BankSchedulerModel" 52 3 19 := ⟨(RM, TM, 27), rfl, uwTM, by decide, (kn_3 30 rfl rfl), rfl⟩
theorem fM_56 : kb_F vwCl wsB "BankSchedulerModel" 56 3 20 := ⟨(RM, TM, 27), rfl, uwTM, by decide, (kn_3 31 rfl rfl), rfl⟩
theorem fM_59 : kb_F vwCl wsB "BankSchedulerModel" 59 3 21 := ⟨(RM, TM, 27), rfl, uwTM, by decide, (kn_3 32 rfl rfl), rfl⟩
theorem gM_113 : kb_FP vwCl wsB "BankSchedulerModel" 113 3 14 .int := ⟨(RM, TM, 27), tyTM, rfl, uwTM, tyTM_ok, nmTM, by decide, (kn_3 25 rfl rfl), rfl, rfl, by decide +kernel⟩
theorem fM_62 : kb_F vwCl wsB "BankSchedulerModel" 62 3 23 := ⟨(RM, TM, 27), rfl, uwTM, by decide, (kn_3 34 rfl rfl), rfl⟩
theorem gM_116 : kb_FP vwCl wsB "BankSchedulerModel" 116 3 22 .int := ⟨(RM, TM, 27), tyTM, rfl, uwTM, tyTM_ok, nmTM, by decide, (kn_3 33 rfl rfl), rfl, rfl, by decide +kernel⟩
theorem lM_119 : Cond.methodLink "BankSchedulerModel" 119 y_M_request ∈ wsB := (kn_3 106 rfl rfl)
theorem fM_37 : kb_F vwCl wsB "BankSchedulerModel" 37 3 13 := ⟨(RM, TM, 27), rfl, uwTM, by decide, (kn_3 24 rfl rfl), rfl⟩
theorem fM_78 : kb_F vwCl wsB "BankSchedulerModel" 78 3 3 := ⟨(RM, TM, 27), rfl, uwTM, by decide, (kn_3 14 rfl rfl), rfl⟩
theorem fM_123 : kb_F vwCl wsB "BankSchedulerModel" 123 3 26 := ⟨(RM, TM, 27), rfl, uwTM, by decide, (kn_3 37 rfl rfl), rfl⟩
theorem gM_123 : kb_FP vwCl wsB "BankSchedulerModel" 123 3 26 .int := ⟨(RM, TM, 27), tyTM, rfl, uwTM, tyTM_ok, nmTM, by decide, (kn_3 37 rfl rfl), rfl, rfl, by decide +kernel⟩
theorem fM_65 : kb_F vwCl wsB "BankSchedulerModel" 65 3 24 := ⟨(RM, TM, 27), rfl, uwTM, by decide, (kn_3 35 rfl rfl), rfl⟩
theorem lM_126 : Cond.methodLink "BankSchedulerModel" 126 y_M_give ∈ wsB := (kn_3 149 rfl rfl)
theorem fM_68 : kb_F vwCl wsB "BankSchedulerModel" 68 3 25 := ⟨(RM, TM, 27), rfl, uwTM, by decide, (kn_3 36 rfl rfl), rfl⟩
theorem lM_130 : Cond.methodLink "BankSchedulerModel" 130 y_M_told ∈ wsB := (kn_3 145 rfl rfl)
theorem lM_133 : Cond.methodLink "BankSchedulerModel" 133 y_M_hasElder ∈ wsB := (kn_3 161 rfl rfl)
theorem lM_136 : Cond.methodLink "BankSchedulerModel" 136 y_M_serve ∈ wsB := (kn_3 169 rfl rfl)
theorem lM_140 : Cond.methodLink "BankSchedulerModel" 140 y_M_asks ∈ wsB := (kn_3 177 rfl rfl)
theorem lM_143 : Cond.methodLink "BankSchedulerModel" 143 y_M_refreshing ∈ wsB := (kn_3 133 rfl rfl)
theorem lM_147 : Cond.methodLink "BankSchedulerModel" 147 y_M_hit ∈ wsB := (kn_3 157 rfl rfl)
theorem lM_150 : Cond.methodLink "BankSchedulerModel" 150 y_M_way ∈ wsB := (kn_3 173 rfl rfl)
theorem lM_153 : Cond.methodLink "BankSchedulerModel" 153 y_M_cycle ∈ wsB := (kn_3 129 rfl rfl)
theorem lM_156 : Cond.methodLink "BankSchedulerModel" 156 y_M_broken ∈ wsB := (kn_3 213 rfl rfl)
theorem fC_15 : kb_F vwCl wsB "BankScheduler$Channel" 15 0 1 := ⟨(RC, TC, 12), rfl, uwTC, by decide, (kn_1 43 rfl rfl), rfl⟩
theorem lC_43 : Cond.methodLink "BankScheduler$Channel" 43 y_C_brokenByOpen ∈ wsB := (kn_2 233 rfl rfl)
theorem lC_47 : Cond.methodLink "BankScheduler$Channel" 47 y_C_brokenByClose ∈ wsB := (kn_2 234 rfl rfl)
theorem lC_50 : Cond.methodLink "BankScheduler$Channel" 50 y_C_brokenByRefresh ∈ wsB := (kn_2 235 rfl rfl)
theorem lC_54 : Cond.methodLink "BankScheduler$Channel" 54 y_C_brokenByAccess ∈ wsB := (kn_2 236 rfl rfl)
theorem fC_21 : kb_F vwCl wsB "BankScheduler$Channel" 21 0 3 := ⟨(RC, TC, 12), rfl, uwTC, by decide, (kn_1 46 rfl rfl), rfl⟩
theorem lC_58 : Cond.methodLink "BankScheduler$Channel" 58 y_C_isTooSoon ∈ wsB := (kn_1 167 rfl rfl)
theorem fC_18 : kb_F vwCl wsB "BankScheduler$Channel" 18 0 2 := ⟨(RC, TC, 12), rfl, uwTC, by decide, (kn_1 45 rfl rfl), rfl⟩
theorem lC_62 : Cond.methodLink "BankScheduler$Channel" 62 y_C_isTooSoonForOthers ∈ wsB := (kn_1 218 rfl rfl)
theorem fC_30 : kb_F vwCl wsB "BankScheduler$Channel" 30 0 6 := ⟨(RC, TC, 12), rfl, uwTC, by decide, (kn_1 49 rfl rfl), rfl⟩
theorem fC_66 : kb_F vwCl wsB "BankScheduler$Channel" 66 0 8 := ⟨(RC, TC, 12), rfl, uwTC, by decide, (kn_1 52 rfl rfl), rfl⟩
theorem fC_40 : kb_F vwCl wsB "BankScheduler$Channel" 40 0 10 := ⟨(RC, TC, 12), rfl, uwTC, by decide, (kn_1 54 rfl rfl), rfl⟩
theorem fC_27 : kb_F vwCl wsB "BankScheduler$Channel" 27 0 5 := ⟨(RC, TC, 12), rfl, uwTC, by decide, (kn_1 48 rfl rfl), rfl⟩
theorem fC_24 : kb_F vwCl wsB "BankScheduler$Channel" 24 0 4 := ⟨(RC, TC, 12), rfl, uwTC, by decide, (kn_1 47 rfl rfl), rfl⟩
theorem fC_36 : kb_F vwCl wsB "BankScheduler$Channel" 36 0 9 := ⟨(RC, TC, 12), rfl, uwTC, by decide, (kn_1 53 rfl rfl), rfl⟩
theorem fC_33 : kb_F vwCl wsB "BankScheduler$Channel" 33 0 7 := ⟨(RC, TC, 12), rfl, uwTC, by decide, (kn_1 50 rfl rfl), rfl⟩
theorem fC_69 : kb_F vwCl wsB "BankScheduler$Channel" 69 0 11 := ⟨(RC, TC, 12), rfl, uwTC, by decide, (kn_1 57 rfl rfl), rfl⟩
theorem gC_66 : kb_FP vwCl wsB "BankScheduler$Channel" 66 0 8 .int := ⟨(RC, TC, 12), tyTC, rfl, uwTC, tyTC_ok, nmTC, by decide, (kn_1 52 rfl rfl), rfl, rfl, by decide +kernel⟩
theorem gC_36 : kb_FP vwCl wsB "BankScheduler$Channel" 36 0 9 .int := ⟨(RC, TC, 12), tyTC, rfl, uwTC, tyTC_ok, nmTC, by decide, (kn_1 53 rfl rfl), rfl, rfl, by decide +kernel⟩
theorem gC_40 : kb_FP vwCl wsB "BankScheduler$Channel" 40 0 10 .int := ⟨(RC, TC, 12), tyTC, rfl, uwTC, tyTC_ok, nmTC, by decide, (kn_1 54 rfl rfl), rfl, rfl, by decide +kernel⟩
theorem fC_9 : kb_F vwCl wsB "BankScheduler$Channel" 9 0 0 := ⟨(RC, TC, 12), rfl, uwTC, by decide, (kn_1 42 rfl rfl), rfl⟩
