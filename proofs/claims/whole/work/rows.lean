section
-- ===== PART A: goes FIRST, ahead of the names: the tables' words, and 'selects' of the private methods out of them =====
/-- a private method of a class that the tables say can be made, by its rows of tables_1 -/
def lw_okq (q : MethodName × Nat) : Prop := (q.1.cls ≠ "java/lang/invoke/MethodHandle" ∧ q.1.cls ≠ "java/lang/invoke/VarHandle") ∧ Cond.instantiable q.1.cls q.2 ∈ tables_1 ∧ Cond.privateMethod q.1 ∈ tables_1 ∧ Cond.instanceMethod q.1 ∈ tables_1
theorem lw_p0 : lw_okq (⟨"BankScheduler", "giveFirst", "()I"⟩, 11) := ⟨⟨by decide +kernel, by decide +kernel⟩, List.mem_of_getElem? (i := 14) (by decide +kernel), List.mem_of_getElem? (i := 152) (by decide +kernel), List.mem_of_getElem? (i := 153) (by decide +kernel)⟩
theorem lw_p1 : lw_okq (⟨"BankScheduler", "refreshIsDue", "()Z"⟩, 11) := ⟨⟨by decide +kernel, by decide +kernel⟩, List.mem_of_getElem? (i := 14) (by decide +kernel), List.mem_of_getElem? (i := 156) (by decide +kernel), List.mem_of_getElem? (i := 157) (by decide +kernel)⟩
theorem lw_p2 : lw_okq (⟨"BankScheduler", "giveRefreshing", "()I"⟩, 11) := ⟨⟨by decide +kernel, by decide +kernel⟩, List.mem_of_getElem? (i := 14) (by decide +kernel), List.mem_of_getElem? (i := 160) (by decide +kernel), List.mem_of_getElem? (i := 161) (by decide +kernel)⟩
theorem lw_p3 : lw_okq (⟨"BankScheduler$Channel", "isTooSoon", "(II)Z"⟩, 12) := ⟨⟨by decide +kernel, by decide +kernel⟩, List.mem_of_getElem? (i := 37) (by decide +kernel), List.mem_of_getElem? (i := 168) (by decide +kernel), List.mem_of_getElem? (i := 169) (by decide +kernel)⟩
theorem lw_p4 : lw_okq (⟨"BankScheduler", "giveCommand", "(III)I"⟩, 11) := ⟨⟨by decide +kernel, by decide +kernel⟩, List.mem_of_getElem? (i := 14) (by decide +kernel), List.mem_of_getElem? (i := 172) (by decide +kernel), List.mem_of_getElem? (i := 173) (by decide +kernel)⟩
theorem lw_p5 : lw_okq (⟨"BankScheduler", "countLookedAt", "()I"⟩, 11) := ⟨⟨by decide +kernel, by decide +kernel⟩, List.mem_of_getElem? (i := 14) (by decide +kernel), List.mem_of_getElem? (i := 187) (by decide +kernel), List.mem_of_getElem? (i := 188) (by decide +kernel)⟩
theorem lw_p6 : lw_okq (⟨"BankScheduler", "hasWaitedLong", "(LBankScheduler$Request;)Z"⟩, 11) := ⟨⟨by decide +kernel, by decide +kernel⟩, List.mem_of_getElem? (i := 14) (by decide +kernel), List.mem_of_getElem? (i := 191) (by decide +kernel), List.mem_of_getElem? (i := 192) (by decide +kernel)⟩
theorem lw_p7 : lw_okq (⟨"BankScheduler", "findHit", "(I)I"⟩, 11) := ⟨⟨by decide +kernel, by decide +kernel⟩, List.mem_of_getElem? (i := 14) (by decide +kernel), List.mem_of_getElem? (i := 195) (by decide +kernel), List.mem_of_getElem? (i := 196) (by decide +kernel)⟩
theorem lw_p8 : lw_okq (⟨"BankScheduler", "hasOlderForWord", "(I)Z"⟩, 11) := ⟨⟨by decide +kernel, by decide +kernel⟩, List.mem_of_getElem? (i := 14) (by decide +kernel), List.mem_of_getElem? (i := 203) (by decide +kernel), List.mem_of_getElem? (i := 204) (by decide +kernel)⟩
theorem lw_p9 : lw_okq (⟨"BankScheduler", "giveWay", "(I)I"⟩, 11) := ⟨⟨by decide +kernel, by decide +kernel⟩, List.mem_of_getElem? (i := 14) (by decide +kernel), List.mem_of_getElem? (i := 207) (by decide +kernel), List.mem_of_getElem? (i := 208) (by decide +kernel)⟩
theorem lw_p10 : lw_okq (⟨"BankScheduler", "hasOlderForBank", "(I)Z"⟩, 11) := ⟨⟨by decide +kernel, by decide +kernel⟩, List.mem_of_getElem? (i := 14) (by decide +kernel), List.mem_of_getElem? (i := 211) (by decide +kernel), List.mem_of_getElem? (i := 212) (by decide +kernel)⟩
theorem lw_p11 : lw_okq (⟨"BankScheduler$Channel", "isTooSoonForOthers", "(I)Z"⟩, 12) := ⟨⟨by decide +kernel, by decide +kernel⟩, List.mem_of_getElem? (i := 37) (by decide +kernel), List.mem_of_getElem? (i := 219) (by decide +kernel), List.mem_of_getElem? (i := 220) (by decide +kernel)⟩
theorem lw_p12 : lw_okq (⟨"BankScheduler", "isWanted", "(III)Z"⟩, 11) := ⟨⟨by decide +kernel, by decide +kernel⟩, List.mem_of_getElem? (i := 14) (by decide +kernel), List.mem_of_getElem? (i := 223) (by decide +kernel), List.mem_of_getElem? (i := 224) (by decide +kernel)⟩
theorem lw_p13 : lw_okq (⟨"BankScheduler", "giveHit", "(I)I"⟩, 11) := ⟨⟨by decide +kernel, by decide +kernel⟩, List.mem_of_getElem? (i := 14) (by decide +kernel), List.mem_of_getElem? (i := 227) (by decide +kernel), List.mem_of_getElem? (i := 228) (by decide +kernel)⟩
theorem lw_p14 : lw_okq (⟨"BankScheduler", "dequeue", "(I)V"⟩, 11) := ⟨⟨by decide +kernel, by decide +kernel⟩, List.mem_of_getElem? (i := 14) (by decide +kernel), List.mem_of_getElem? (i := 231) (by decide +kernel), List.mem_of_getElem? (i := 232) (by decide +kernel)⟩
theorem lw_p15 : lw_okq (⟨"BankScheduler", "isKept", "(I)Z"⟩, 11) := ⟨⟨by decide +kernel, by decide +kernel⟩, List.mem_of_getElem? (i := 14) (by decide +kernel), List.mem_of_getElem? (i := 235) (by decide +kernel), List.mem_of_getElem? (i := 236) (by decide +kernel)⟩
def lw_privs_1 : List (MethodName × Nat) := [(⟨"BankScheduler", "giveFirst", "()I"⟩, 11), (⟨"BankScheduler", "refreshIsDue", "()Z"⟩, 11), (⟨"BankScheduler", "giveRefreshing", "()I"⟩, 11), (⟨"BankScheduler$Channel", "isTooSoon", "(II)Z"⟩, 12), (⟨"BankScheduler", "giveCommand", "(III)I"⟩, 11), (⟨"BankScheduler", "countLookedAt", "()I"⟩, 11), (⟨"BankScheduler", "hasWaitedLong", "(LBankScheduler$Request;)Z"⟩, 11), (⟨"BankScheduler", "findHit", "(I)I"⟩, 11), (⟨"BankScheduler", "hasOlderForWord", "(I)Z"⟩, 11), (⟨"BankScheduler", "giveWay", "(I)I"⟩, 11), (⟨"BankScheduler", "hasOlderForBank", "(I)Z"⟩, 11), (⟨"BankScheduler$Channel", "isTooSoonForOthers", "(I)Z"⟩, 12), (⟨"BankScheduler", "isWanted", "(III)Z"⟩, 11), (⟨"BankScheduler", "giveHit", "(I)I"⟩, 11), (⟨"BankScheduler", "dequeue", "(I)V"⟩, 11), (⟨"BankScheduler", "isKept", "(I)Z"⟩, 11)]
theorem lw_r1 : ∀ q ∈ lw_privs_1, lw_okq q := List.forall_mem_cons.mpr ⟨lw_p0, List.forall_mem_cons.mpr ⟨lw_p1, List.forall_mem_cons.mpr ⟨lw_p2, List.forall_mem_cons.mpr ⟨lw_p3, List.forall_mem_cons.mpr ⟨lw_p4, List.forall_mem_cons.mpr ⟨lw_p5, List.forall_mem_cons.mpr ⟨lw_p6, List.forall_mem_cons.mpr ⟨lw_p7, List.forall_mem_cons.mpr ⟨lw_p8, List.forall_mem_cons.mpr ⟨lw_p9, List.forall_mem_cons.mpr ⟨lw_p10, List.forall_mem_cons.mpr ⟨lw_p11, List.forall_mem_cons.mpr ⟨lw_p12, List.forall_mem_cons.mpr ⟨lw_p13, List.forall_mem_cons.mpr ⟨lw_p14, List.forall_mem_cons.mpr ⟨lw_p15, fun _ h => absurd h List.not_mem_nil⟩⟩⟩⟩⟩⟩⟩⟩⟩⟩⟩⟩⟩⟩⟩⟩
theorem lw_p16 : lw_okq (⟨"java/lang/Throwable", "fillInStackTrace", "(I)Ljava/lang/Throwable;"⟩, 6) := ⟨⟨by decide +kernel, by decide +kernel⟩, List.mem_of_getElem? (i := 291) (by decide +kernel), List.mem_of_getElem? (i := 289) (by decide +kernel), List.mem_of_getElem? (i := 290) (by decide +kernel)⟩
theorem lw_p17 : lw_okq (⟨"BankScheduler", "refuseNoWord", "(III)V"⟩, 11) := ⟨⟨by decide +kernel, by decide +kernel⟩, List.mem_of_getElem? (i := 14) (by decide +kernel), List.mem_of_getElem? (i := 364) (by decide +kernel), List.mem_of_getElem? (i := 365) (by decide +kernel)⟩
theorem lw_p18 : lw_okq (⟨"BankScheduler", "refuseFullQueue", "()V"⟩, 11) := ⟨⟨by decide +kernel, by decide +kernel⟩, List.mem_of_getElem? (i := 14) (by decide +kernel), List.mem_of_getElem? (i := 376) (by decide +kernel), List.mem_of_getElem? (i := 377) (by decide +kernel)⟩
theorem lw_p19 : lw_okq (⟨"BankScheduler", "enqueue", "(IIIII)I"⟩, 11) := ⟨⟨by decide +kernel, by decide +kernel⟩, List.mem_of_getElem? (i := 14) (by decide +kernel), List.mem_of_getElem? (i := 381) (by decide +kernel), List.mem_of_getElem? (i := 382) (by decide +kernel)⟩
theorem lw_p20 : lw_okq (⟨"BankSchedulerModel", "request", "(IIIZI)I"⟩, 27) := ⟨⟨by decide +kernel, by decide +kernel⟩, List.mem_of_getElem? (i := 486) (by decide +kernel), List.mem_of_getElem? (i := 587) (by decide +kernel), List.mem_of_getElem? (i := 588) (by decide +kernel)⟩
theorem lw_p21 : lw_okq (⟨"BankSchedulerModel", "isWord", "(III)Z"⟩, 27) := ⟨⟨by decide +kernel, by decide +kernel⟩, List.mem_of_getElem? (i := 486) (by decide +kernel), List.mem_of_getElem? (i := 591) (by decide +kernel), List.mem_of_getElem? (i := 592) (by decide +kernel)⟩
theorem lw_p22 : lw_okq (⟨"BankSchedulerModel", "isBank", "(I)Z"⟩, 27) := ⟨⟨by decide +kernel, by decide +kernel⟩, List.mem_of_getElem? (i := 486) (by decide +kernel), List.mem_of_getElem? (i := 595) (by decide +kernel), List.mem_of_getElem? (i := 596) (by decide +kernel)⟩
theorem lw_p23 : lw_okq (⟨"BankSchedulerModel", "cycle", "()I"⟩, 27) := ⟨⟨by decide +kernel, by decide +kernel⟩, List.mem_of_getElem? (i := 486) (by decide +kernel), List.mem_of_getElem? (i := 610) (by decide +kernel), List.mem_of_getElem? (i := 611) (by decide +kernel)⟩
theorem lw_p24 : lw_okq (⟨"BankSchedulerModel", "refreshing", "()I"⟩, 27) := ⟨⟨by decide +kernel, by decide +kernel⟩, List.mem_of_getElem? (i := 486) (by decide +kernel), List.mem_of_getElem? (i := 614) (by decide +kernel), List.mem_of_getElem? (i := 615) (by decide +kernel)⟩
theorem lw_p25 : lw_okq (⟨"BankSchedulerModel", "brokenRefresh", "(I)I"⟩, 27) := ⟨⟨by decide +kernel, by decide +kernel⟩, List.mem_of_getElem? (i := 486) (by decide +kernel), List.mem_of_getElem? (i := 618) (by decide +kernel), List.mem_of_getElem? (i := 619) (by decide +kernel)⟩
theorem lw_p26 : lw_okq (⟨"BankSchedulerModel", "early", "(III)Z"⟩, 27) := ⟨⟨by decide +kernel, by decide +kernel⟩, List.mem_of_getElem? (i := 486) (by decide +kernel), List.mem_of_getElem? (i := 622) (by decide +kernel), List.mem_of_getElem? (i := 623) (by decide +kernel)⟩
theorem lw_p27 : lw_okq (⟨"BankSchedulerModel", "told", "(III)I"⟩, 27) := ⟨⟨by decide +kernel, by decide +kernel⟩, List.mem_of_getElem? (i := 486) (by decide +kernel), List.mem_of_getElem? (i := 626) (by decide +kernel), List.mem_of_getElem? (i := 627) (by decide +kernel)⟩
theorem lw_p28 : lw_okq (⟨"BankSchedulerModel", "give", "(IIII)V"⟩, 27) := ⟨⟨by decide +kernel, by decide +kernel⟩, List.mem_of_getElem? (i := 486) (by decide +kernel), List.mem_of_getElem? (i := 630) (by decide +kernel), List.mem_of_getElem? (i := 631) (by decide +kernel)⟩
theorem lw_p29 : lw_okq (⟨"BankSchedulerModel", "brokenClose", "(II)I"⟩, 27) := ⟨⟨by decide +kernel, by decide +kernel⟩, List.mem_of_getElem? (i := 486) (by decide +kernel), List.mem_of_getElem? (i := 634) (by decide +kernel), List.mem_of_getElem? (i := 635) (by decide +kernel)⟩
theorem lw_p30 : lw_okq (⟨"BankSchedulerModel", "hit", "(I)I"⟩, 27) := ⟨⟨by decide +kernel, by decide +kernel⟩, List.mem_of_getElem? (i := 486) (by decide +kernel), List.mem_of_getElem? (i := 638) (by decide +kernel), List.mem_of_getElem? (i := 639) (by decide +kernel)⟩
theorem lw_p31 : lw_okq (⟨"BankSchedulerModel", "hasElder", "(I)Z"⟩, 27) := ⟨⟨by decide +kernel, by decide +kernel⟩, List.mem_of_getElem? (i := 486) (by decide +kernel), List.mem_of_getElem? (i := 642) (by decide +kernel), List.mem_of_getElem? (i := 643) (by decide +kernel)⟩
def lw_privs_2 : List (MethodName × Nat) := [(⟨"java/lang/Throwable", "fillInStackTrace", "(I)Ljava/lang/Throwable;"⟩, 6), (⟨"BankScheduler", "refuseNoWord", "(III)V"⟩, 11), (⟨"BankScheduler", "refuseFullQueue", "()V"⟩, 11), (⟨"BankScheduler", "enqueue", "(IIIII)I"⟩, 11), (⟨"BankSchedulerModel", "request", "(IIIZI)I"⟩, 27), (⟨"BankSchedulerModel", "isWord", "(III)Z"⟩, 27), (⟨"BankSchedulerModel", "isBank", "(I)Z"⟩, 27), (⟨"BankSchedulerModel", "cycle", "()I"⟩, 27), (⟨"BankSchedulerModel", "refreshing", "()I"⟩, 27), (⟨"BankSchedulerModel", "brokenRefresh", "(I)I"⟩, 27), (⟨"BankSchedulerModel", "early", "(III)Z"⟩, 27), (⟨"BankSchedulerModel", "told", "(III)I"⟩, 27), (⟨"BankSchedulerModel", "give", "(IIII)V"⟩, 27), (⟨"BankSchedulerModel", "brokenClose", "(II)I"⟩, 27), (⟨"BankSchedulerModel", "hit", "(I)I"⟩, 27), (⟨"BankSchedulerModel", "hasElder", "(I)Z"⟩, 27)]
theorem lw_r2 : ∀ q ∈ lw_privs_2, lw_okq q := List.forall_mem_cons.mpr ⟨lw_p16, List.forall_mem_cons.mpr ⟨lw_p17, List.forall_mem_cons.mpr ⟨lw_p18, List.forall_mem_cons.mpr ⟨lw_p19, List.forall_mem_cons.mpr ⟨lw_p20, List.forall_mem_cons.mpr ⟨lw_p21, List.forall_mem_cons.mpr ⟨lw_p22, List.forall_mem_cons.mpr ⟨lw_p23, List.forall_mem_cons.mpr ⟨lw_p24, List.forall_mem_cons.mpr ⟨lw_p25, List.forall_mem_cons.mpr ⟨lw_p26, List.forall_mem_cons.mpr ⟨lw_p27, List.forall_mem_cons.mpr ⟨lw_p28, List.forall_mem_cons.mpr ⟨lw_p29, List.forall_mem_cons.mpr ⟨lw_p30, List.forall_mem_cons.mpr ⟨lw_p31, fun _ h => absurd h List.not_mem_nil⟩⟩⟩⟩⟩⟩⟩⟩⟩⟩⟩⟩⟩⟩⟩⟩
theorem lw_p32 : lw_okq (⟨"BankSchedulerModel", "brokenUse", "(III)I"⟩, 27) := ⟨⟨by decide +kernel, by decide +kernel⟩, List.mem_of_getElem? (i := 486) (by decide +kernel), List.mem_of_getElem? (i := 646) (by decide +kernel), List.mem_of_getElem? (i := 647) (by decide +kernel)⟩
theorem lw_p33 : lw_okq (⟨"BankSchedulerModel", "serve", "(I)V"⟩, 27) := ⟨⟨by decide +kernel, by decide +kernel⟩, List.mem_of_getElem? (i := 486) (by decide +kernel), List.mem_of_getElem? (i := 650) (by decide +kernel), List.mem_of_getElem? (i := 651) (by decide +kernel)⟩
theorem lw_p34 : lw_okq (⟨"BankSchedulerModel", "way", "(I)I"⟩, 27) := ⟨⟨by decide +kernel, by decide +kernel⟩, List.mem_of_getElem? (i := 486) (by decide +kernel), List.mem_of_getElem? (i := 654) (by decide +kernel), List.mem_of_getElem? (i := 655) (by decide +kernel)⟩
theorem lw_p35 : lw_okq (⟨"BankSchedulerModel", "asks", "(III)Z"⟩, 27) := ⟨⟨by decide +kernel, by decide +kernel⟩, List.mem_of_getElem? (i := 486) (by decide +kernel), List.mem_of_getElem? (i := 658) (by decide +kernel), List.mem_of_getElem? (i := 659) (by decide +kernel)⟩
theorem lw_p36 : lw_okq (⟨"BankSchedulerModel", "brokenOpen", "(II)I"⟩, 27) := ⟨⟨by decide +kernel, by decide +kernel⟩, List.mem_of_getElem? (i := 486) (by decide +kernel), List.mem_of_getElem? (i := 662) (by decide +kernel), List.mem_of_getElem? (i := 663) (by decide +kernel)⟩
theorem lw_p37 : lw_okq (⟨"BankSchedulerModel", "broken", "(IIII)I"⟩, 27) := ⟨⟨by decide +kernel, by decide +kernel⟩, List.mem_of_getElem? (i := 486) (by decide +kernel), List.mem_of_getElem? (i := 694) (by decide +kernel), List.mem_of_getElem? (i := 695) (by decide +kernel)⟩
def lw_privs_3 : List (MethodName × Nat) := [(⟨"BankSchedulerModel", "brokenUse", "(III)I"⟩, 27), (⟨"BankSchedulerModel", "serve", "(I)V"⟩, 27), (⟨"BankSchedulerModel", "way", "(I)I"⟩, 27), (⟨"BankSchedulerModel", "asks", "(III)Z"⟩, 27), (⟨"BankSchedulerModel", "brokenOpen", "(II)I"⟩, 27), (⟨"BankSchedulerModel", "broken", "(IIII)I"⟩, 27)]
theorem lw_r3 : ∀ q ∈ lw_privs_3, lw_okq q := List.forall_mem_cons.mpr ⟨lw_p32, List.forall_mem_cons.mpr ⟨lw_p33, List.forall_mem_cons.mpr ⟨lw_p34, List.forall_mem_cons.mpr ⟨lw_p35, List.forall_mem_cons.mpr ⟨lw_p36, List.forall_mem_cons.mpr ⟨lw_p37, fun _ h => absurd h List.not_mem_nil⟩⟩⟩⟩⟩⟩
def lw_privs : List (MethodName × Nat) := lw_privs_1 ++ (lw_privs_2 ++ (lw_privs_3))
def lw_tbl : List Cond := k2_sels lw_privs ++ tables_1
theorem lw_privs_ok : ∀ q ∈ lw_privs, lw_okq q := by
  show ∀ q ∈ lw_privs_1 ++ (lw_privs_2 ++ (lw_privs_3)), lw_okq q
  exact List.forall_mem_append.mpr ⟨lw_r1, List.forall_mem_append.mpr ⟨lw_r2, lw_r3⟩⟩
end
section
/-! my own layer over the kit: pure control (branches, checks, calls, stores), a bundle for a world, rows of one instruction each -/
noncomputable def kb_br {α : Type} (P : Prop) (x y : Option α) : Option α := @ite _ P (Classical.propDecidable P) x y
theorem kb_brt {α : Type} {P : Prop} {x y : Option α} (h : P) : kb_br P x y = x := by unfold kb_br; exact if_pos h
theorem kb_brf {α : Type} {P : Prop} {x y : Option α} (h : ¬ P) : kb_br P x y = y := by unfold kb_br; exact if_neg h
noncomputable def kb_ck {α : Type} (P : Prop) (x : Option α) : Option α := kb_br P x none
theorem kb_ck_of {α : Type} {P : Prop} {x : Option α} {o : α} (h : kb_ck P x = some o) : P ∧ x = some o := by
  by_cases hp : P
  · exact ⟨hp, (kb_brt hp).symm.trans h⟩
  · exact absurd ((kb_brf (x := x) (y := none) hp).symm.trans h) (by simp)
theorem kb_ckt {α : Type} {P : Prop} {x : Option α} (h : P) : kb_ck P x = x := kb_brt h
def kb_cl {α σ : Type} (o : Option (Int32 × σ)) (k : Int32 → σ → Option α) : Option α := match o with
  | none => none
  | some q => k q.1 q.2
theorem kb_cl_of {α σ : Type} {o : Option (Int32 × σ)} {k : Int32 → σ → Option α} {out : α} (h : kb_cl o k = some out) : ∃ (r : Int32) (z : σ), o = some (r, z) ∧ k r z = some out := by
  cases o with
  | none => exact absurd h (by simp [kb_cl])
  | some q => exact ⟨q.1, q.2, rfl, h⟩
theorem kb_cle {α σ : Type} {o : Option (Int32 × σ)} {k : Int32 → σ → Option α} {r : Int32} {z : σ} (h : o = some (r, z)) : kb_cl o k = k r z := by rw [h]; rfl
def kb_st {α σ : Type} (v : σ) (k : σ → Option α) : Option α := k v
theorem kb_st_of {α σ : Type} {v : σ} {k : σ → Option α} {out : α} (h : kb_st v k = some out) : ∃ z : σ, z = v ∧ k z = some out := ⟨v, rfl, h⟩
abbrev kb_S : Type := Nat → Nat → Int32
def kb_up (M : kb_S) (k j : Nat) (v : Int32) : kb_S := fun k' => if k' = k then upd (M k) j v else M k'
abbrev kb_ix (i : Int32) : Nat := i.toNatClampNeg
def kb_W (D : va_G) (cl : List vw_C) (tys : List (ClassId × FieldType)) (A : Nat → Prop) (s : State) (H : Heap) (locs : List Loc) (ws : va_W) : Prop :=
  va_P D cl ws H ∧ va_K D cl tys s ∧ va_D A ws ∧ va_S A s.heap H locs ∧ ∀ q : Nat, s.heap.size ≤ q → A q
def kb_Pc (D : va_G) (cl : List vw_C) (tys : List (ClassId × FieldType)) (sz : Nat) (av : List Value) (ws : va_W) : Array Value → State → Prop :=
  va_Pc av (fun U => U.heap.size = sz ∧ va_P D cl ws U.heap ∧ va_K D cl tys U ∧ va_D (fun _ => True) ws)
def kb_Qi (D : va_G) (cl : List vw_C) (sz : Nat) (ws : va_W) (r : Int32) (ws' : va_W) : Array Value → State → Outcome → State → Prop :=
  va_Qi (fun x (_ : Unit) => x = r) (fun _ t => va_P D cl ws' t.heap ∧ va_D (va_A ws sz) ws') (va_A ws sz)
def kb_Qv (D : va_G) (cl : List vw_C) (sz : Nat) (ws : va_W) (ws' : va_W) : Array Value → State → Outcome → State → Prop :=
  va_Qv (fun (_ : Unit) => True) (fun _ t => va_P D cl ws' t.heap ∧ va_D (va_A ws sz) ws') (va_A ws sz)
theorem kb_blind {D : va_G} {cl : List vw_C} {tys : List (ClassId × FieldType)} {sz : Nat} {av : List Value} {ws : va_W} : FrameBlind (kb_Pc D cl tys sz av ws) := by
  intro a U g mk q
  obtain ⟨q0, q1, qP, qK, qD⟩ := q
  exact ⟨q0, q1, qP, va_K.moved (u := U) (U := U.calling g mk a) (Vm.Alike.refl U.vm) qK, qD⟩
/-- what a field's instruction asks of the tables -/
def kb_F (cl : List vw_C) (Ts : List Cond) (own : String) (index ci k : Nat) : Prop :=
  ∃ q : vw_C, cl[ci]? = some q ∧ (∀ w ∈ u_ws q.1 q.2.1 q.2.2, w ∈ Ts) ∧ k < q.2.2 ∧ Cond.fieldLink own index q.1 (q.2.1 k).2.1 (q.2.1 k).2.2.1 ∈ Ts ∧ (q.2.1 k).1 = q.1
def kb_FP (cl : List vw_C) (Ts : List Cond) (own : String) (index ci k : Nat) (ty : FieldType) : Prop :=
  ∃ (q : vw_C) (ty0 : Nat → FieldType), cl[ci]? = some q ∧ (∀ w ∈ u_ws q.1 q.2.1 q.2.2, w ∈ Ts) ∧ (∀ k, k < q.2.2 → parseFieldDescriptor (q.2.1 k).2.2.1 = some (ty0 k)) ∧ (∀ a, a < q.2.2 → ∀ b, b < q.2.2 → a ≠ b → (q.2.1 a).2.1 ≠ (q.2.1 b).2.1) ∧ k < q.2.2 ∧ Cond.fieldLink own index q.1 (q.2.1 k).2.1 (q.2.1 k).2.2.1 ∈ Ts ∧ (q.2.1 k).1 = q.1 ∧ (q.2.1 k).2.2.2 = false ∧ parseFieldDescriptor (q.2.1 k).2.2.1 = some ty
/-- what a call asks of the tables -/
def kb_Y (Ts : List Cond) (y : MethodName) (bytes : ByteArray) (maxL : Nat) (ret : Option FieldType) (n : Nat) : Prop :=
  (∀ w ∈ Ts, (w.onTables && w.keeps) = true ∨ ∃ ty, w = .arrayClass ty) ∧ Cond.code y bytes maxL ret ∈ Ts ∧ Cond.initialized y.cls ∈ Ts ∧ (y.cls ≠ "java/lang/invoke/MethodHandle" ∧ y.cls ≠ "java/lang/invoke/VarHandle" ∧ (parseMethodDescriptor y.desc).map (fun d => d.parameters.length) = some n)
theorem kb_good {Ts : List Cond} {w0 : Cond} (hall : ∀ w ∈ Ts, (w.onTables && w.keeps) = true ∨ ∃ ty, w = .arrayClass ty) (hc : w0 ∈ Ts) : GoodIn Ts (w0 :: Ts) := by
  intro w h
  rcases List.mem_cons.mp h with rfl | h
  · exact ⟨hc, hall _ hc⟩
  · exact ⟨h, hall w h⟩
section KBA
variable {p : Program} {l : Launch} {e : Env} {R : Room} {s : State} {m : MethodId} {args : Array Value} {below : List Frame} {meth : Method} {c : Code} {H : Heap} {locs : List Loc} {cells slots : Nat} {Q : State → Prop}
variable {cc : ByteArray} {pc nL : Nat} {ls : Array Slot} {rest : List Value} {D : va_G} {cl : List vw_C} {A : Nat → Prop} {tys : List (ClassId × FieldType)} {ws : va_W} {Ts : List Cond} {own : String}
theorem kb_start {y : MethodName} {wsC ws' : List Cond} {rm : Room} {Qc : Array Value → State → Outcome → State → Prop} {maxL : Nat} {ret : Option FieldType} {av : List Value} {sz : Nat} (hy : plainName y.cls = true) (hw : wsC = Cond.code y cc maxL ret :: ws') (hlen : (lg_sl av).length ≤ maxL)
    (body : ∀ (p : Program) (e : Env) (s : State) (m : MethodId) (args : Array Value) (below : List Frame) (meth : Method) (c : Code) (A : Nat → Prop) (ls : Array Slot), CallFix p m c cc maxL s args ws' y.cls → meth.sig.returnType = ret → meth.locks = false → s.heap.size = sz → A = va_A ws sz → kb_W D cl tys A s s.heap [] ws → lv_has ls maxL (lv_args 0 av) →
      W p l e rm s m args below meth c s.heap [] 0 0 (MQ below Qc args s 0 0 (va_A ws sz)) (F0 m 0 ls [])) : Met l y wsC rm (kb_Pc D cl tys sz av ws) Qc 0 0 (va_A ws sz) := by
  refine Met.ofW (cc := cc) (maxL := maxL) (ret := ret) hy hw ?_
  intro p e s m args below meth c s₁ B hml hv
  obtain ⟨rfl, hsz, hP, hK, hD0⟩ := hv
  have hts := atoms_spec (ws := wsC) B.pre
  have hown : s.vm.findClass y.cls = some m.cls := findClass_of_methodNamed B.named
  rw [lg_entry_eq]
  refine body p e s m _ below meth c (va_A ws sz) _ ⟨B.exec, B.bytes, hml, hown, fun w h => hts w (by rw [hw]; exact List.mem_cons_of_mem _ h)⟩ B.returns B.notSynchronized hsz rfl ⟨hP, hK, hD0.self (sz := sz), va_S.rf, ?_⟩ (lv_entry av hlen)
  intro q h
  rw [hsz] at h
  exact Or.inr h
theorem kb_iret {ws0 : va_W} {sz : Nat} {r v : Int32} {σ : Type} (f : σ → va_W) {z z' : σ} (S : CallFix p m c cc nL s args Ts own) (hr : meth.sig.returnType = some .int) (hlk : meth.locks = false) (hA : A = va_A ws0 sz) (w : kb_W D cl tys A s H locs (f z)) (h : some (v, z) = some (r, z')) (hdg : decode cc pc = .ok (.ireturn, 1)) :
    W p l e R s m args below meth c H locs cells slots (MQ below (kb_Qi D cl sz ws0 r (f z')) args s cells slots (va_A ws0 sz)) (F0 m pc ls [.int v]) := by
  obtain ⟨hP, hK, hD, hS, -⟩ := w
  have e1 : v = r := congrArg Prod.fst (Option.some.inj h)
  have e2 : z = z' := congrArg Prod.snd (Option.some.inj h)
  subst e1
  subst e2
  subst hA
  exact W.iret (v := v) S.1 S.2.1 hr (fun t ht _ => ⟨⟨v, (), rfl, rfl, by rw [ht]; exact hP, hD⟩, hS.F ht⟩) hS.2.2 hdg hlk
theorem kb_zret {ws0 : va_W} {sz : Nat} {r v : Int32} {σ : Type} (f : σ → va_W) {z z' : σ} (S : CallFix p m c cc nL s args Ts own) (hr : meth.sig.returnType = some .boolean) (hlk : meth.locks = false) (hA : A = va_A ws0 sz) (w : kb_W D cl tys A s H locs (f z)) (h : some (v, z) = some (r, z')) (hn : v = 0 ∨ v = 1) (hdg : decode cc pc = .ok (.ireturn, 1)) :
    W p l e R s m args below meth c H locs cells slots (MQ below (kb_Qi D cl sz ws0 r (f z')) args s cells slots (va_A ws0 sz)) (F0 m pc ls [.int v]) := by
  obtain ⟨hP, hK, hD, hS, -⟩ := w
  have e1 : v = r := congrArg Prod.fst (Option.some.inj h)
  have e2 : z = z' := congrArg Prod.snd (Option.some.inj h)
  subst e1
  subst e2
  subst hA
  exact W.zret (v := v) S.1 S.2.1 hr (by rcases hn with rfl | rfl <;> rfl) (fun t ht _ => ⟨⟨v, (), rfl, rfl, by rw [ht]; exact hP, hD⟩, hS.F ht⟩) hS.2.2 hdg hlk
theorem kb_vret {ws0 : va_W} {sz : Nat} {r v : Int32} {σ : Type} (f : σ → va_W) {z z' : σ} (S : CallFix p m c cc nL s args Ts own) (hr : meth.sig.returnType = none) (hlk : meth.locks = false) (hA : A = va_A ws0 sz) (w : kb_W D cl tys A s H locs (f z)) (h : some (v, z) = some (r, z')) (hdg : decode cc pc = .ok (.return_, 1)) :
    W p l e R s m args below meth c H locs cells slots (MQ below (kb_Qv D cl sz ws0 (f z')) args s cells slots (va_A ws0 sz)) (F0 m pc ls []) := by
  obtain ⟨hP, hK, hD, hS, -⟩ := w
  have e2 : z = z' := congrArg Prod.snd (Option.some.inj h)
  subst e2
  subst hA
  exact W.vret S.1 S.2.1 hr (fun t ht _ => ⟨⟨(), rfl, trivial, by rw [ht]; exact hP, hD⟩, hS.F ht⟩) hS.2.2 hdg hlk
theorem kb_get (S : CallFix p m c cc nL s args Ts own) (w : kb_W D cl tys A s H locs ws) (q0 : Nat) {a ci k index : Nat} {fs : List Value} {v : Value} (hw : ws[q0]? = some (a, .inr (ci, fs))) (f : kb_F cl Ts own index ci k) (hv : fs[k]? = some v) (hdg : decode cc pc = .ok (.getfield index, 3))
    (kk : W p l e R s m args below meth c H locs cells slots Q (F0 m (pc + 3) ls (v :: rest))) : W p l e R s m args below meth c H locs cells slots Q (F0 m pc ls (.ref a :: rest)) := by
  obtain ⟨⟨C, T, N⟩, hc, hin, hk, hl, hd⟩ := f
  exact va_get (D := D) (ci := ci) (v := v) (C := C) (T := T) (N := N) S.1 S.2.1 S.2.2.2.2 hin S.2.2.2.1 w.2.1 w.1 q0 hw hc k hk (S.2.2.2.2 _ hl) (fun x h => by dsimp only at hd; rw [hd] at h; exact h) hv hdg kk
theorem kb_puti (S : CallFix p m c cc nL s args Ts own) (w : kb_W D cl tys A s H locs ws) (q0 : Nat) {a ci k index : Nat} {fs : List Value} {x : Int32} {ws1 : va_W} (hw : ws[q0]? = some (a, .inr (ci, fs))) (f : kb_FP cl Ts own index ci k .int) (hlt : k < fs.length) (hset : ws.set q0 (a, .inr (ci, fs.set k (.int x))) = ws1) (hdg : decode cc pc = .ok (.putfield index, 3))
    (kk : ∀ (H1 : Heap) (locs1 : List Loc), kb_W D cl tys A s H1 locs1 ws1 → W p l e R s m args below meth c H1 locs1 cells slots Q (F0 m (pc + 3) ls rest)) : W p l e R s m args below meth c H locs cells slots Q (F0 m pc ls (.int x :: .ref a :: rest)) := by
  obtain ⟨⟨C, T, N⟩, ty0, hc, hin, hty, hnm, hk, hl, hd, hfin, hp⟩ := f
  refine va_put (D := D) (ci := ci) (v := .int x) (ty := .int) (C := C) (T := T) (N := N) S.1 S.2.1 S.2.2.2.2 hin ty0 hty hnm S.2.2.2.1 w.2.1 w.1 w.2.2.1 w.2.2.2.1 q0 hw hc k hk (S.2.2.2.2 _ hl) (fun x h => by dsimp only at hd; rw [hd] at h; exact h) hfin hp rfl rfl hlt hdg (fun H1 locs1 hP hD hS => ?_)
  rw [hset] at hP hD
  exact kk H1 locs1 ⟨hP, w.2.1, hD, hS, w.2.2.2.2⟩
theorem kb_iald (S : CallFix p m c cc nL s args Ts own) (w : kb_W D cl tys A s H locs ws) (q0 t0 : Nat) {a : Nat} {cA : ClassId} {n : Nat} {f : Nat → Int32} (ha : ws[q0]? = some (a, .inl (cA, n, .inl f))) (ht : tys[t0]? = some (cA, .int)) {i : Int32} (hin : vp_in i n) (hdg : decode cc pc = .ok (.iaload, 1))
    (kk : W p l e R s m args below meth c H locs cells slots Q (F0 m (pc + 1) ls (.int (f i.toNatClampNeg) :: rest))) : W p l e R s m args below meth c H locs cells slots Q (F0 m pc ls (.int i :: .ref a :: rest)) :=
  va_iald (D := D) S.1 S.2.1 w.2.1 w.1 q0 t0 ha ht hin hdg kk
theorem kb_zald (S : CallFix p m c cc nL s args Ts own) (w : kb_W D cl tys A s H locs ws) (q0 t0 : Nat) {a : Nat} {cA : ClassId} {n : Nat} {f : Nat → Int32} (ha : ws[q0]? = some (a, .inl (cA, n, .inl f))) (ht : tys[t0]? = some (cA, .boolean)) {i : Int32} (hin : vp_in i n) (hdg : decode cc pc = .ok (.baload, 1))
    (kk : W p l e R s m args below meth c H locs cells slots Q (F0 m (pc + 1) ls (.int (f i.toNatClampNeg) :: rest))) : W p l e R s m args below meth c H locs cells slots Q (F0 m pc ls (.int i :: .ref a :: rest)) :=
  va_zald (D := D) S.1 S.2.1 w.2.1 w.1 q0 t0 ha ht hin hdg kk
theorem kb_iast (S : CallFix p m c cc nL s args Ts own) (w : kb_W D cl tys A s H locs ws) (q0 t0 : Nat) {a : Nat} {cA : ClassId} {n : Nat} {f : Nat → Int32} {ws1 : va_W} {i x : Int32} (ha : ws[q0]? = some (a, .inl (cA, n, .inl f))) (ht : tys[t0]? = some (cA, .int)) (hin : vp_in i n) (hset : ws.set q0 (a, .inl (cA, n, .inl (upd f i.toNatClampNeg x))) = ws1) (hdg : decode cc pc = .ok (.iastore, 1))
    (kk : ∀ (H1 : Heap) (locs1 : List Loc), kb_W D cl tys A s H1 locs1 ws1 → W p l e R s m args below meth c H1 locs1 cells slots Q (F0 m (pc + 1) ls rest)) : W p l e R s m args below meth c H locs cells slots Q (F0 m pc ls (.int x :: .int i :: .ref a :: rest)) := by
  refine va_iast (D := D) S.1 S.2.1 w.2.1 w.1 w.2.2.1 w.2.2.2.1 q0 t0 ha ht hin hdg (fun H1 locs1 hP hD hS => ?_)
  rw [hset] at hP hD
  exact kk H1 locs1 ⟨hP, w.2.1, hD, hS, w.2.2.2.2⟩
theorem kb_zast (S : CallFix p m c cc nL s args Ts own) (w : kb_W D cl tys A s H locs ws) (q0 t0 : Nat) {a : Nat} {cA : ClassId} {n : Nat} {f : Nat → Int32} {ws1 : va_W} {i x : Int32} (ha : ws[q0]? = some (a, .inl (cA, n, .inl f))) (ht : tys[t0]? = some (cA, .boolean)) (hin : vp_in i n) (hset : ws.set q0 (a, .inl (cA, n, .inl (upd f i.toNatClampNeg (vp_nar .boolean x)))) = ws1) (hdg : decode cc pc = .ok (.bastore, 1))
    (kk : ∀ (H1 : Heap) (locs1 : List Loc), kb_W D cl tys A s H1 locs1 ws1 → W p l e R s m args below meth c H1 locs1 cells slots Q (F0 m (pc + 1) ls rest)) : W p l e R s m args below meth c H locs cells slots Q (F0 m pc ls (.int x :: .int i :: .ref a :: rest)) := by
  refine va_zast (D := D) S.1 S.2.1 w.2.1 w.1 w.2.2.1 w.2.2.2.1 q0 t0 ha ht hin hdg (fun H1 locs1 hP hD hS => ?_)
  rw [hset] at hP hD
  exact kk H1 locs1 ⟨hP, w.2.1, hD, hS, w.2.2.2.2⟩
theorem kb_free (w : kb_W D cl tys A s H locs ws) : ∀ q, va_A ws H.size q → A q := by
  rintro q (⟨k, e, h⟩ | h)
  · exact w.2.2.1.2 k _ h
  · exact w.2.2.2.2 q (Nat.le_trans w.2.2.2.1.1 h)
theorem kb_calli {y : MethodName} {bytes : ByteArray} {maxL n index b : Nat} {ret : Option FieldType} {rm : Room} {C : String} {As st0 : List Value} {r : Int32} {ws1 : va_W} {ci q0 : Nat} {q : vw_C} {fs : List Value}
    (S : CallFix p m c cc nL s args Ts own) (w : kb_W D cl tys A s H locs ws) (hM : ∀ sz, Met l y (Cond.code y bytes maxL ret :: Ts) rm (kb_Pc D cl tys sz (.ref b :: As) ws) (kb_Qi D cl sz ws r ws1) 0 0 (va_A ws sz))
    (Y : kb_Y Ts y bytes maxL ret n) (hI : Cond.instanceMethod y ∈ Ts) (hs : Cond.selects C y y ∈ Ts) (hl : Cond.methodLink own index y ∈ Ts) (hrm : rm.cells = 0 ∧ rm.slots = 0 ∧ rm.frames + 1 ≤ R.frames ∧ 8 + (maxL + 11) + rm.locals ≤ R.locals)
    (hq : ws[q0]? = some (b, .inr (ci, fs))) (hc : cl[ci]? = some q) (hC : q.1 = C) (hn : As.length = n) (hsz : ls.size = nL) (hstack : st0 = As.reverse ++ .ref b :: rest) (hW : (rest.map fun v => v.category).sum ≤ 8) (hdg : decode cc pc = .ok (.invokevirtual index, 3)) (hf : cells ≤ R.cells ∧ slots ≤ R.slots)
    (kk : ∀ (H1 : Heap) (locs1 : List Loc), kb_W D cl tys A s H1 locs1 ws1 → W p l e R s m args below meth c H1 locs1 cells slots Q (F0 m (pc + 3) ls (.int r :: rest))) : W p l e R s m args below meth c H locs cells slots Q (F0 m pc ls st0) := by
  have hts := S.2.2.2.2
  refine va_calli (va_runV (As := As) (rest := rest) (C := C) S (hM H.size) ⟨callB_of n hts (kb_good Y.1 Y.2.1) rfl hrm.1 hrm.2.1 (hts _ Y.2.2.1) (hts _ hl) Y.2.2.2 hrm.2.2, hts _ hI, hts _ hs⟩ ⟨kb_blind, ?_, fun U hU hWm => ⟨rfl, by rw [hU], by rw [hU]; exact w.1, va_K.moved hWm.alike w.2.1, w.2.2.1.weaken (fun _ _ _ _ => trivial)⟩⟩ rfl hn hsz hstack (lv_room hW) hdg ⟨hf.1, hf.2⟩) w.2.2.2.1 (fun q _ h => kb_free w q h) (kb_free w) (fun r' u t H1 locs1 ht hvm hp hB hz1 hk1 hS => ?_)
  · rw [← hC]
    exact va_recv w.2.1 w.1 hc hq
  · obtain ⟨hP1, hD1⟩ := hB
    subst hp
    rw [ht] at hP1
    exact kk H1 locs1 ⟨hP1, w.2.1, hD1.weaken (fun k q _ h => kb_free w _ h), hS, w.2.2.2.2⟩
theorem kb_callv {y : MethodName} {bytes : ByteArray} {maxL n index b : Nat} {ret : Option FieldType} {rm : Room} {C : String} {As st0 : List Value} {ws1 : va_W} {ci q0 : Nat} {q : vw_C} {fs : List Value}
    (S : CallFix p m c cc nL s args Ts own) (w : kb_W D cl tys A s H locs ws) (hM : ∀ sz, Met l y (Cond.code y bytes maxL ret :: Ts) rm (kb_Pc D cl tys sz (.ref b :: As) ws) (kb_Qv D cl sz ws ws1) 0 0 (va_A ws sz))
    (Y : kb_Y Ts y bytes maxL ret n) (hI : Cond.instanceMethod y ∈ Ts) (hs : Cond.selects C y y ∈ Ts) (hl : Cond.methodLink own index y ∈ Ts) (hrm : rm.cells = 0 ∧ rm.slots = 0 ∧ rm.frames + 1 ≤ R.frames ∧ 8 + (maxL + 11) + rm.locals ≤ R.locals)
    (hq : ws[q0]? = some (b, .inr (ci, fs))) (hc : cl[ci]? = some q) (hC : q.1 = C) (hn : As.length = n) (hsz : ls.size = nL) (hstack : st0 = As.reverse ++ .ref b :: rest) (hW : (rest.map fun v => v.category).sum ≤ 8) (hdg : decode cc pc = .ok (.invokevirtual index, 3)) (hf : cells ≤ R.cells ∧ slots ≤ R.slots)
    (kk : ∀ (H1 : Heap) (locs1 : List Loc), kb_W D cl tys A s H1 locs1 ws1 → W p l e R s m args below meth c H1 locs1 cells slots Q (F0 m (pc + 3) ls rest)) : W p l e R s m args below meth c H locs cells slots Q (F0 m pc ls st0) := by
  have hts := S.2.2.2.2
  refine va_callv (va_runV (As := As) (rest := rest) (C := C) S (hM H.size) ⟨callB_of n hts (kb_good Y.1 Y.2.1) rfl hrm.1 hrm.2.1 (hts _ Y.2.2.1) (hts _ hl) Y.2.2.2 hrm.2.2, hts _ hI, hts _ hs⟩ ⟨kb_blind, ?_, fun U hU hWm => ⟨rfl, by rw [hU], by rw [hU]; exact w.1, va_K.moved hWm.alike w.2.1, w.2.2.1.weaken (fun _ _ _ _ => trivial)⟩⟩ rfl hn hsz hstack (lv_room hW) hdg ⟨hf.1, hf.2⟩) w.2.2.2.1 (fun q _ h => kb_free w q h) (kb_free w) (fun u t H1 locs1 ht hvm hp hB hz1 hk1 hS => ?_)
  · rw [← hC]
    exact va_recv w.2.1 w.1 hc hq
  · obtain ⟨hP1, hD1⟩ := hB
    rw [ht] at hP1
    exact kk H1 locs1 ⟨hP1, w.2.1, hD1.weaken (fun k q _ h => kb_free w _ h), hS, w.2.2.2.2⟩
theorem kb_callS {y : MethodName} {bytes : ByteArray} {maxL n index : Nat} {ret : Option FieldType} {rm : Room} {As st0 : List Value} {r : Int32} {ws1 : va_W}
    (S : CallFix p m c cc nL s args Ts own) (w : kb_W D cl tys A s H locs ws) (hM : ∀ sz, Met l y (Cond.code y bytes maxL ret :: Ts) rm (kb_Pc D cl tys sz As ws) (kb_Qi D cl sz ws r ws1) 0 0 (va_A ws sz))
    (Y : kb_Y Ts y bytes maxL ret n) (hI : Cond.static y ∈ Ts) (hl : Cond.methodLink own index y ∈ Ts) (hrm : rm.cells = 0 ∧ rm.slots = 0 ∧ rm.frames + 1 ≤ R.frames ∧ 8 + (maxL + 11) + rm.locals ≤ R.locals)
    (hn : As.length = n) (hsz : ls.size = nL) (hstack : st0 = As.reverse ++ rest) (hW : (rest.map fun v => v.category).sum ≤ 8) (hdg : decode cc pc = .ok (.invokestatic index, 3)) (hf : cells ≤ R.cells ∧ slots ≤ R.slots)
    (kk : ∀ (H1 : Heap) (locs1 : List Loc), kb_W D cl tys A s H1 locs1 ws1 → W p l e R s m args below meth c H1 locs1 cells slots Q (F0 m (pc + 3) ls (.int r :: rest))) : W p l e R s m args below meth c H locs cells slots Q (F0 m pc ls st0) := by
  have hts := S.2.2.2.2
  refine va_calli (va_runS (As := As) (rest := rest) S (hM H.size) ⟨callB_of n hts (kb_good Y.1 Y.2.1) rfl hrm.1 hrm.2.1 (hts _ Y.2.2.1) (hts _ hl) Y.2.2.2 hrm.2.2, hts _ hI⟩ ⟨kb_blind, fun U hU hWm => ⟨rfl, by rw [hU], by rw [hU]; exact w.1, va_K.moved hWm.alike w.2.1, w.2.2.1.weaken (fun _ _ _ _ => trivial)⟩⟩ rfl hn hsz hstack (lv_room hW) hdg ⟨hf.1, hf.2⟩) w.2.2.2.1 (fun q _ h => kb_free w q h) (kb_free w) (fun r' u t H1 locs1 ht hvm hp hB hz1 hk1 hS => ?_)
  obtain ⟨hP1, hD1⟩ := hB
  subst hp
  rw [ht] at hP1
  exact kk H1 locs1 ⟨hP1, w.2.1, hD1.weaken (fun k q _ h => kb_free w _ h), hS, w.2.2.2.2⟩
theorem kb_alen (S : CallFix p m c cc nL s args Ts own) (w : kb_W D cl tys A s H locs ws) (q0 t0 : Nat) {a : Nat} {cA : ClassId} {x : vp_A} {ty : FieldType} {v : Int32} (ha : ws[q0]? = some (a, .inl (cA, x))) (ht : tys[t0]? = some (cA, ty)) (hv : Int32.ofNat x.1 = v) (hdg : decode cc pc = .ok (.arraylength, 1))
    (kk : W p l e R s m args below meth c H locs cells slots Q (F0 m (pc + 1) ls (.int v :: rest))) : W p l e R s m args below meth c H locs cells slots Q (F0 m pc ls (.ref a :: rest)) :=
  va_alen (D := D) S.1 S.2.1 w.2.1 w.1 q0 t0 ha ht hv hdg kk
theorem kb_ald (S : CallFix p m c cc nL s args Ts own) (w : kb_W D cl tys A s H locs ws) (q0 t0 : Nat) {a : Nat} {cA : ClassId} {C : String} {n : Nat} {f : Nat → Option Nat} (ha : ws[q0]? = some (a, .inl (cA, n, .inr (.inr (.inr (.inr f)))))) (ht : tys[t0]? = some (cA, .object C)) {i : Int32} (hin : vp_in i n) (hdg : decode cc pc = .ok (.aaload, 1))
    (kk : W p l e R s m args below meth c H locs cells slots Q (F0 m (pc + 1) ls (va_rf (f i.toNatClampNeg) :: rest))) : W p l e R s m args below meth c H locs cells slots Q (F0 m pc ls (.int i :: .ref a :: rest)) :=
  va_aldq (D := D) S.1 S.2.1 w.2.1 w.1 q0 t0 ha ht hin hdg kk
theorem kb_ast (S : CallFix p m c cc nL s args Ts own) (w : kb_W D cl tys A s H locs ws) (q0 t0 qk ci : Nat) {a : Nat} {cA : ClassId} {r : vw_C} {n v : Nat} {vs : List Value} {f : Nat → Option Nat} {ws1 : va_W} {i : Int32} (ha : ws[q0]? = some (a, .inl (cA, n, .inr (.inr (.inr (.inr f)))))) (ht : tys[t0]? = some (cA, .object r.1)) (hv : ws[qk]? = some (v, .inr (ci, vs))) (hc : cl[ci]? = some r) (hin : vp_in i n)
    (hset : ws.set q0 (a, .inl (cA, n, .inr (.inr (.inr (.inr (va_up f i.toNatClampNeg (some v))))))) = ws1) (hdg : decode cc pc = .ok (.aastore, 1))
    (kk : ∀ (H1 : Heap) (locs1 : List Loc), kb_W D cl tys A s H1 locs1 ws1 → W p l e R s m args below meth c H1 locs1 cells slots Q (F0 m (pc + 1) ls rest)) : W p l e R s m args below meth c H locs cells slots Q (F0 m pc ls (.ref v :: .int i :: .ref a :: rest)) := by
  refine va_astq (D := D) S.1 S.2.1 w.2.1 w.1 w.2.2.1 w.2.2.2.1 q0 t0 qk ci ha ht hv hc hin hdg (fun H1 locs1 hP hD hS => ?_)
  rw [hset] at hP hD
  exact kk H1 locs1 ⟨hP, w.2.1, hD, hS, w.2.2.2.2⟩
end KBA
end
