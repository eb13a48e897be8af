section
-- ===== PART A: goes FIRST, ahead of the names: the tables' words, and 'selects' of the private methods out of them =====
/-- a private method of a class that the tables say can be made, by its rows of tables_1 -/
def lw_okq (q : MethodName × Nat) : Prop := (q.1.cls ≠ "java/lang/invoke/MethodHandle" ∧ q.1.cls ≠ "java/lang/invoke/VarHandle") ∧ Cond.instantiable q.1.cls q.2 ∈ tables_1 ∧ Cond.privateMethod q.1 ∈ tables_1 ∧ Cond.instanceMethod q.1 ∈ tables_1
theorem lw_p0 : lw_okq (⟨"BankScheduler", "giveFirst", "()I"⟩, 11) := ⟨⟨by decide +kernel, by decide +kernel⟩, List.mem_of_getElem? (i := 14) (by decide +kernel), List.mem_of_getElem? (i := 152) (by decide +kernel), List.mem_of_getElem? (i := 153) (by decide +kernel)⟩
theorem lw_p1 : lw_okq (⟨"BankScheduler", "refreshIsDue", "()Z"⟩, 11) := ⟨⟨by decide +kernel, by decide +kernel⟩, List.mem_of_getElem? (i := 14) (by decide +kernel), List.mem_of_getElem? (i := 156) (by decide +kernel), List.mem_of_getElem? (i := 157) (by decide +kernel)⟩
theorem lw_p2 : lw_okq (⟨"BankScheduler", "giveRefreshing", "()I"⟩, 11) := ⟨⟨by decide +kernel, by decide +kernel⟩, List.mem_of_getElem? (i := 14) (by decide +kernel), List.mem_of_getElem? (i := 160) (by decide +kernel), List.mem_of_getElem? (i := 161) (by decide +kernel)⟩
theorem lw_p3 : lw_okq (⟨"BankScheduler$Channel", "isTooSoon", "(II)Z"⟩, 12) := ⟨⟨by decide +kernel, by decide +kernel⟩, List.mem_of_getElem? (i := 37) (by decide +kernel), List.mem_of_getElem? (i := 168) (by decide +kernel), List.mem_of_getElem? (i := 169) (by decide +kernel)⟩
theorem lw_p4 : lw_okq (⟨"BankScheduler", "giveCommand", "(III)I"⟩, 11) := ⟨⟨by decide +kernel, by decide +kernel⟩, List.mem_of_getElem? (i := 14) (by decide +kernel), List.mem_of_getElem? (i := 172) (by decide +kernel), List.mem_of_getElem? (i := 173) (by decide +kernel)⟩
theorem lw_p5 : lw_okq (⟨"BankScheduler", "countLookedAt", "()I"⟩, 11) := ⟨⟨by decide +kernel, by decide +kernel⟩, List.mem_of_getElem? (i := 14) (by decide +kernel), List.mem_of_getElem? (i := 187) (by decide +kernel), List.mem_of_getElem? (i := 188) (by decide +kernel)⟩
theorem lw_p6 : lw_okq (⟨"BankScheduler", "hasWaitedLong", "(LBankScheduler$Request;)Z"⟩, 11) := ⟨⟨by decide +kernel, by decide +kernel⟩, List.mem_of_getElem? (i := 14) (by decide +kernel), List.mem_of_getElem? (i := 191) (by decide +kernel), List.mem_of_getElem? (i := 192) (by decide +kernel)⟩
theorem lw_p7 : lw_okq (⟨"BankScheduler", "findHit", "(I)I"⟩, 11) := ⟨⟨by decide +kernel, by decide +kernel⟩, List.mem_of_getElem? (i := 14) (by decide +kernel), List.mem_of_getElem? (i := 195) (by decide +kernel), List.mem_of_getElem? (i := 196) (by decide +kernel)⟩
theorem lw_p8 : lw_okq (⟨"BankScheduler", "hasOlderForWord", "(I)Z"⟩, 11) := ⟨⟨by decide +kernel, by decide +kernel⟩, List.mem_of_getElem? (i := 14) (by decide +kernel), List.mem_of_getElem? (i := 203) (by decide +kernel), List.mem_of_getElem? (i := 204) (by decide +kernel)⟩
theorem lw_p9 : lw_okq (⟨"BankScheduler", "giveWay", "(I)I"⟩, 11) := ⟨⟨by decide +kernel, by decide +kernel⟩, List.mem_of_getElem? (i := 14) (by decide +kernel), List.mem_of_getElem? (i := 207) (by decide +kernel), List.mem_of_getElem? (i := 208) (by decide +kernel)⟩
theorem lw_p10 : lw_okq (⟨"BankScheduler", "hasOlderForBank", "(I)Z"⟩, 11) := ⟨⟨by decide +kernel, by decide +kernel⟩, List.mem_of_getElem? (i := 14) (by decide +kernel), List.mem_of_getElem? (i := 211) (by decide +kernel), List.mem_of_getElem? (i := 212) (by decide +kernel)⟩
theorem lw_p11 : lw_okq (⟨"BankScheduler$Channel", "isTooSoonForOthers", "(I)Z"⟩, 12) := ⟨⟨by decide +kernel, by decide +kernel⟩, List.mem_of_getElem? (i := 37) (by decide +kernel), List.mem_of_getElem? (i := 219) (by decide +kernel), List.mem_of_getElem? (i := 220) (by decide +kernel)⟩
theorem lw_p12 : lw_okq (⟨"BankScheduler", "isWanted", "(III)Z"⟩, 11) := ⟨⟨by decide +kernel, by decide +kernel⟩, List.mem_of_getElem? (i := 14) (by decide +kernel), List.mem_of_getElem? (i := 223) (by decide +kernel), List.mem_of_getElem? (i := 224) (by decide +kernel)⟩
theorem lw_p13 : lw_okq (⟨"BankScheduler", "giveHit", "(I)I"⟩, 11) := ⟨⟨by decide +kernel, by decide +kernel⟩, List.mem_of_getElem? (i := 14) (by decide +kernel), List.mem_of_getElem? (i := 227) (by decide +kernel), List.mem_of_getElem? (i := 228) (by decide +kernel)⟩
theorem lw_p14 : lw_okq (⟨"BankScheduler", "dequeue", "(I)V"⟩, 11) := ⟨⟨by decide +kernel, by decide +kernel⟩, List.mem_of_getElem? (i := 14) (by decide +kernel), List.mem_of_getElem? (i := 231) (by decide +kernel), List.mem_of_getElem? (i := 232) (by decide +kernel)⟩
theorem lw_p15 : lw_okq (⟨"BankScheduler", "isKept", "(I)Z"⟩, 11) := ⟨⟨by decide +kernel, by decide +kernel⟩, List.mem_of_getElem? (i := 14) (by decide +kernel), List.mem_of_getElem? (i := 235) (by decide +kernel), List.mem_of_getElem? (i := 236) (by decide +kernel)⟩
def lw_privs_1 : List (MethodName × Nat) := [(⟨"BankScheduler", "giveFirst", "()I"⟩, 11), (⟨"BankScheduler", "refreshIsDue", "()Z"⟩, 11), (⟨"BankScheduler", "giveRefreshing", "()I"⟩, 11), (⟨"BankScheduler$Channel", "isTooSoon", "(II)Z"⟩, 12), (⟨"BankScheduler", "giveCommand", "(III)I"⟩, 11), (⟨"BankScheduler", "countLookedAt", "()I"⟩, 11), (⟨"BankScheduler", "hasWaitedLong", "(LBankScheduler$Request;)Z"⟩, 11), (⟨"BankScheduler", "findHit", "(I)I"⟩, 11), (⟨"BankScheduler", "hasOlderForWord", "(I)Z"⟩, 11), (⟨"BankScheduler", "giveWay", "(I)I"⟩, 11), (⟨"BankScheduler", "hasOlderForBank", "(I)Z"⟩, 11), (⟨"BankScheduler$Channel", "isTooSoonForOthers", "(I)Z"⟩, 12), (⟨"BankScheduler", "isWanted", "(III)Z"⟩, 11), (⟨"BankScheduler", "giveHit", "(I)I"⟩, 11), (⟨"BankScheduler", "dequeue", "(I)V"⟩, 11), (⟨"BankScheduler", "isKept", "(I)Z"⟩, 11)]
theorem lw_r1 : ∀ q ∈ lw_privs_1, lw_okq q := List.forall_mem_cons.mpr ⟨lw_p0, List.forall_mem_cons.mpr ⟨lw_p1, List.forall_mem_cons.mpr ⟨lw_p2, List.forall_mem_cons.mpr ⟨lw_p3, List.forall_mem_cons.mpr ⟨lw_p4, List.forall_mem_cons.mpr ⟨lw_p5, List.forall_mem_cons.mpr ⟨lw_p6, List.forall_mem_cons.mpr ⟨lw_p7, List.forall_mem_cons.mpr ⟨lw_p8, List.forall_mem_cons.mpr ⟨lw_p9, List.forall_mem_cons.mpr ⟨lw_p10, List.forall_mem_cons.mpr ⟨lw_p11, List.forall_mem_cons.mpr ⟨lw_p12, List.forall_mem_cons.mpr ⟨lw_p13, List.forall_mem_cons.mpr ⟨lw_p14, List.forall_mem_cons.mpr ⟨lw_p15, fun _ h => absurd h List.not_mem_nil⟩⟩⟩⟩⟩⟩⟩⟩⟩⟩⟩⟩⟩⟩⟩⟩
theorem lw_p16 : lw_okq (⟨"java/lang/Throwable", "fillInStackTrace", "(I)Ljava/lang/Throwable;"⟩, 6) := ⟨⟨by decide +kernel, by decide +kernel⟩, List.mem_of_getElem? (i := 291) (by decide +kernel), List.mem_of_getElem? (i := 289) (by decide +kernel), List.mem_of_getElem? (i := 290) (by decide +kernel)⟩
theorem lw_p17 : lw_okq (⟨"BankScheduler", "refuseNoWord", "(III)V"⟩, 11) := ⟨⟨by decide +kernel, by decide +kernel⟩, List.mem_of_getElem? (i := 14) (by decide +kernel), List.mem_of_getElem? (i := 364) (by decide +kernel), List.mem_of_getElem? (i := 365) (by decide +kernel)⟩
theorem lw_p18 : lw_okq (⟨"BankScheduler", "refuseFullQueue", "()V"⟩, 11) := ⟨⟨by decide +kernel, by decide +kernel⟩, List.mem_of_getElem? (i := 14) (by decide +kernel), List.mem_of_getElem? (i := 376) (by decide +kernel), List.mem_of_getElem? (i := 377) (by decide +kernel)⟩
theorem lw_p19 : lw_okq (⟨"BankScheduler", "enqueue", "(IIIII)I"⟩, 11) := ⟨⟨by decide +kernel, by decide +kernel⟩, List.mem_of_getElem? (i := 14) (by decide +kernel), List.mem_of_getElem? (i := 381) (by decide +kernel), List.mem_of_getElem? (i := 382) (by decide +kernel)⟩
theorem lw_p20 : lw_okq (⟨"BankSchedulerModel", "request", "(IIIZI)I"⟩, 27) := ⟨⟨by decide +kernel, by decide +kernel⟩, List.mem_of_getElem? (i := 486) (by decide +kernel), List.mem_of_getElem? (i := 587) (by decide +kernel), List.mem_of_getElem? (i := 588) (by decide +kernel)⟩
theorem lw_p21 : lw_okq (⟨"BankSchedulerModel", "isWord", "(III)Z"⟩, 27) := ⟨⟨by decide +kernel, by decide +kernel⟩, List.mem_of_getElem? (i := 486) (by decide +kernel), List.mem_of_getElem? (i := 591) (by decide +kernel), List.mem_of_getElem? (i := 592) (by decide +kernel)⟩
theorem lw_p22 : lw_okq (⟨"BankSchedulerModel", "isBank", "(I)Z"⟩, 27) := ⟨⟨by decide +kernel, by decide +kernel⟩, List.mem_of_getElem? (i := 486) (by decide +kernel), List.mem_of_getElem? (i := 595) (by decide +kernel), List.mem_of_getElem? (i := 596) (by decide +kernel)⟩
theorem lw_p23 : lw_okq (⟨"BankSchedulerModel", "cycle", "()I"⟩, 27) := ⟨⟨by decide +kernel, by decide +kernel⟩, List.mem_of_getElem? (i := 486) (by decide +kernel), List.mem_of_getElem? (i := 610) (by decide +kernel), List.mem_of_getElem? (i := 611) (by decide +kernel)⟩
theorem lw_p24 : lw_okq (⟨"BankSchedulerModel", "refreshing", "()I"⟩, 27) := ⟨⟨by decide +kernel, by decide +kernel⟩, List.mem_of_getElem? (i := 486) (by decide +kernel), List.mem_of_getElem? (i := 614) (by decide +kernel), List.mem_of_getElem? (i := 615) (by decide +kernel)⟩
theorem lw_p25 : lw_okq (⟨"BankSchedulerModel", "brokenRefresh", "(I)I"⟩, 27) := ⟨⟨by decide +kernel, by decide +kernel⟩, List.mem_of_getElem? (i := 486) (by decide +kernel), List.mem_of_getElem? (i := 618) (by decide +kernel), List.mem_of_getElem? (i := 619) (by decide +kernel)⟩
theorem lw_p26 : lw_okq (⟨"BankSchedulerModel", "early", "(III)Z"⟩, 27) := ⟨⟨by decide +kernel, by decide +kernel⟩, List.mem_of_getElem? (i := 486) (by decide +kernel), List.mem_of_getElem? (i := 622) (by decide +kernel), List.mem_of_getElem? (i := 623) (by decide +kernel)⟩
theorem lw_p27 : lw_okq (⟨"BankSchedulerModel", "told", "(III)I"⟩, 27) := ⟨⟨by decide +kernel, by decide +kernel⟩, List.mem_of_getElem? (i := 486) (by decide +kernel), List.mem_of_getElem? (i := 626) (by decide +kernel), List.mem_of_getElem? (i := 627) (by decide +kernel)⟩
theorem lw_p28 : lw_okq (⟨"BankSchedulerModel", "give", "(IIII)V"⟩, 27) := ⟨⟨by decide +kernel, by decide +kernel⟩, List.mem_of_getElem? (i := 486) (by decide +kernel), List.mem_of_getElem? (i := 630) (by decide +kernel), List.mem_of_getElem? (i := 631) (by decide +kernel)⟩
theorem lw_p29 : lw_okq (⟨"BankSchedulerModel", "brokenClose", "(II)I"⟩, 27) := ⟨⟨by decide +kernel, by decide +kernel⟩, List.mem_of_getElem? (i := 486) (by decide +kernel), List.mem_of_getElem? (i := 634) (by decide +kernel), List.mem_of_getElem? (i := 635) (by decide +kernel)⟩
theorem lw_p30 : lw_okq (⟨"BankSchedulerModel", "hit", "(I)I"⟩, 27) := ⟨⟨by decide +kernel, by decide +kernel⟩, List.mem_of_getElem? (i := 486) (by decide +kernel), List.mem_of_getElem? (i := 638) (by decide +kernel), List.mem_of_getElem? (i := 639) (by decide +kernel)⟩
theorem lw_p31 : lw_okq (⟨"BankSchedulerModel", "hasElder", "(I)Z"⟩, 27) := ⟨⟨by decide +kernel, by decide +kernel⟩, List.mem_of_getElem? (i := 486) (by decide +kernel), List.mem_of_getElem? (i := 642) (by decide +kernel), List.mem_of_getElem? (i := 643) (by decide +kernel)⟩
def lw_privs_2 : List (MethodName × Nat) := [(⟨"java/lang/Throwable", "fillInStackTrace", "(I)Ljava/lang/Throwable;"⟩, 6), (⟨"BankScheduler", "refuseNoWord", "(III)V"⟩, 11), (⟨"BankScheduler", "refuseFullQueue", "()V"⟩, 11), (⟨"BankScheduler", "enqueue", "(IIIII)I"⟩, 11), (⟨"BankSchedulerModel", "request", "(IIIZI)I"⟩, 27), (⟨"BankSchedulerModel", "isWord", "(III)Z"⟩, 27), (⟨"BankSchedulerModel", "isBank", "(I)Z"⟩, 27), (⟨"BankSchedulerModel", "cycle", "()I"⟩, 27), (⟨"BankSchedulerModel", "refreshing", "()I"⟩, 27), (⟨"BankSchedulerModel", "brokenRefresh", "(I)I"⟩, 27), (⟨"BankSchedulerModel", "early", "(III)Z"⟩, 27), (⟨"BankSchedulerModel", "told", "(III)I"⟩, 27), (⟨"BankSchedulerModel", "give", "(IIII)V"⟩, 27), (⟨"BankSchedulerModel", "brokenClose", "(II)I"⟩, 27), (⟨"BankSchedulerModel", "hit", "(I)I"⟩, 27), (⟨"BankSchedulerModel", "hasElder", "(I)Z"⟩, 27)]
theorem lw_r2 : ∀ q ∈ lw_privs_2, lw_okq q := List.forall_mem_cons.mpr ⟨lw_p16, List.forall_mem_cons.mpr ⟨lw_p17, List.forall_mem_cons.mpr ⟨lw_p18, List.forall_mem_cons.mpr ⟨lw_p19, List.forall_mem_cons.mpr ⟨lw_p20, List.forall_mem_cons.mpr ⟨lw_p21, List.forall_mem_cons.mpr ⟨lw_p22, List.forall_mem_cons.mpr ⟨lw_p23, List.forall_mem_cons.mpr ⟨lw_p24, List.forall_mem_cons.mpr ⟨lw_p25, List.forall_mem_cons.mpr ⟨lw_p26, List.forall_mem_cons.mpr ⟨lw_p27, List.forall_mem_cons.mpr ⟨lw_p28, List.forall_mem_cons.mpr ⟨lw_p29, List.forall_mem_cons.mpr ⟨lw_p30, List.forall_mem_cons.mpr ⟨lw_p31, fun _ h => absurd h List.not_mem_nil⟩⟩⟩⟩⟩⟩⟩⟩⟩⟩⟩⟩⟩⟩⟩⟩
theorem lw_p32 : lw_okq (⟨"BankSchedulerModel", "brokenUse", "(III)I"⟩, 27) := ⟨⟨by decide +kernel, by decide +kernel⟩, List.mem_of_getElem? (i := 486) (by decide +kernel), List.mem_of_getElem? (i := 646) (by decide +kernel), List.mem_of_getElem? (i := 647) (by decide +kernel)⟩
theorem lw_p33 : lw_okq (⟨"BankSchedulerModel", "serve", "(I)V"⟩, 27) := ⟨⟨by decide +kernel, by decide +kernel⟩, List.mem_of_getElem? (i := 486) (by decide +kernel), List.mem_of_getElem? (i := 650) (by decide +kernel), List.mem_of_getElem? (i := 651) (by decide +kernel)⟩
theorem lw_p34 : lw_okq (⟨"BankSchedulerModel", "way", "(I)I"⟩, 27) := ⟨⟨by decide +kernel, by decide +kernel⟩, List.mem_of_getElem? (i := 486) (by decide +kernel), List.mem_of_getElem? (i := 654) (by decide +kernel), List.mem_of_getElem? (i := 655) (by decide +kernel)⟩
theorem lw_p35 : lw_okq (⟨"BankSchedulerModel", "asks", "(III)Z"⟩, 27) := ⟨⟨by decide +kernel, by decide +kernel⟩, List.mem_of_getElem? (i := 486) (by decide +kernel), List.mem_of_getElem? (i := 658) (by decide +kernel), List.mem_of_getElem? (i := 659) (by decide +kernel)⟩
theorem lw_p36 : lw_okq (⟨"BankSchedulerModel", "brokenOpen", "(II)I"⟩, 27) := ⟨⟨by decide +kernel, by decide +kernel⟩, List.mem_of_getElem? (i := 486) (by decide +kernel), List.mem_of_getElem? (i := 662) (by decide +kernel), List.mem_of_getElem? (i := 663) (by decide +kernel)⟩
theorem lw_p37 : lw_okq (⟨"BankSchedulerModel", "broken", "(IIII)I"⟩, 27) := ⟨⟨by decide +kernel, by decide +kernel⟩, List.mem_of_getElem? (i := 486) (by decide +kernel), List.mem_of_getElem? (i := 694) (by decide +kernel), List.mem_of_getElem? (i := 695) (by decide +kernel)⟩
def lw_privs_3 : List (MethodName × Nat) := [(⟨"BankSchedulerModel", "brokenUse", "(III)I"⟩, 27), (⟨"BankSchedulerModel", "serve", "(I)V"⟩, 27), (⟨"BankSchedulerModel", "way", "(I)I"⟩, 27), (⟨"BankSchedulerModel", "asks", "(III)Z"⟩, 27), (⟨"BankSchedulerModel", "brokenOpen", "(II)I"⟩, 27), (⟨"BankSchedulerModel", "broken", "(IIII)I"⟩, 27)]
theorem lw_r3 : ∀ q ∈ lw_privs_3, lw_okq q := List.forall_mem_cons.mpr ⟨lw_p32, List.forall_mem_cons.mpr ⟨lw_p33, List.forall_mem_cons.mpr ⟨lw_p34, List.forall_mem_cons.mpr ⟨lw_p35, List.forall_mem_cons.mpr ⟨lw_p36, List.forall_mem_cons.mpr ⟨lw_p37, fun _ h => absurd h List.not_mem_nil⟩⟩⟩⟩⟩⟩
def lw_privs : List (MethodName × Nat) := lw_privs_1 ++ (lw_privs_2 ++ (lw_privs_3))
def lw_tbl : List Cond := k2_sels lw_privs ++ tables_1
theorem lw_privs_ok : ∀ q ∈ lw_privs, lw_okq q := by
  show ∀ q ∈ lw_privs_1 ++ (lw_privs_2 ++ (lw_privs_3)), lw_okq q
  exact List.forall_mem_append.mpr ⟨lw_r1, List.forall_mem_append.mpr ⟨lw_r2, lw_r3⟩⟩
end
section
/-! my own layer over the kit: pure control (branches, checks, calls, stores), a bundle for a world, rows of one instruction each -/
noncomputable def kb_br {α : Type} (P : Prop) (x y : Option α) : Option α := @ite _ P (Classical.propDecidable P) x y
theorem kb_brt {α : Type} {P : Prop} {x y : Option α} (h : P) : kb_br P x y = x := by unfold kb_br; exact if_pos h
theorem kb_brf {α : Type} {P : Prop} {x y : Option α} (h : ¬ P) : kb_br P x y = y := by unfold kb_br; exact if_neg h
noncomputable def kb_ck {α : Type} (P : Prop) (x : Option α) : Option α := kb_br P x none
theorem kb_ck_of {α : Type} {P : Prop} {x : Option α} {o : α} (h : kb_ck P x = some o) : P ∧ x = some o := by
  by_cases hp : P
  · exact ⟨hp, (kb_brt hp).symm.trans h⟩
  · exact absurd ((kb_brf (x := x) (y := none) hp).symm.trans h) (by simp)
theorem kb_ckt {α : Type} {P : Prop} {x : Option α} (h : P) : kb_ck P x = x := kb_brt h
def kb_cl {α σ : Type} (o : Option (Int32 × σ)) (k : Int32 → σ → Option α) : Option α := match o with
  | none => none
  | some q => k q.1 q.2
theorem kb_cl_of {α σ : Type} {o : Option (Int32 × σ)} {k : Int32 → σ → Option α} {out : α} (h : kb_cl o k = some out) : ∃ (r : Int32) (z : σ), o = some (r, z) ∧ k r z = some out := by
  cases o with
  | none => exact absurd h (by simp [kb_cl])
  | some q => exact ⟨q.1, q.2, rfl, h⟩
theorem kb_cle {α σ : Type} {o : Option (Int32 × σ)} {k : Int32 → σ → Option α} {r : Int32} {z : σ} (h : o = some (r, z)) : kb_cl o k = k r z := by rw [h]; rfl
def kb_st {α σ : Type} (v : σ) (k : σ → Option α) : Option α := k v
theorem kb_st_of {α σ : Type} {v : σ} {k : σ → Option α} {out : α} (h : kb_st v k = some out) : ∃ z : σ, z = v ∧ k z = some out := ⟨v, rfl, h⟩
abbrev kb_S : Type := Nat → Nat → Int32
def kb_up (M : kb_S) (k j : Nat) (v : Int32) : kb_S := fun k' => if k' = k then upd (M k) j v else M k'
abbrev kb_ix (i : Int32) : Nat := i.toNatClampNeg
def kb_W (D : va_G) (cl : List vw_C) (tys : List (ClassId × FieldType)) (A : Nat → Prop) (s : State) (H : Heap) (locs : List Loc) (ws : va_W) : Prop :=
  va_P D cl ws H ∧ va_K D cl tys s ∧ va_D A ws ∧ va_S A s.heap H locs ∧ ∀ q : Nat, s.heap.size ≤ q → A q
def kb_Pc (D : va_G) (cl : List vw_C) (tys : List (ClassId × FieldType)) (sz : Nat) (av : List Value) (ws : va_W) : Array Value → State → Prop :=
  va_Pc av (fun U => U.heap.size = sz ∧ va_P D cl ws U.heap ∧ va_K D cl tys U ∧ va_D (fun _ => True) ws)
def kb_Qi (D : va_G) (cl : List vw_C) (sz : Nat) (ws : va_W) (r : Int32) (ws' : va_W) : Array Value → State → Outcome → State → Prop :=
  va_Qi (fun x (_ : Unit) => x = r) (fun _ t => va_P D cl ws' t.heap ∧ va_D (va_A ws sz) ws') (va_A ws sz)
def kb_Qv (D : va_G) (cl : List vw_C) (sz : Nat) (ws : va_W) (ws' : va_W) : Array Value → State → Outcome → State → Prop :=
  va_Qv (fun (_ : Unit) => True) (fun _ t => va_P D cl ws' t.heap ∧ va_D (va_A ws sz) ws') (va_A ws sz)
theorem kb_blind {D : va_G} {cl : List vw_C} {tys : List (ClassId × FieldType)} {sz : Nat} {av : List Value} {ws : va_W} : FrameBlind (kb_Pc D cl tys sz av ws) := by
  intro a U g mk q
  obtain ⟨q0, q1, qP, qK, qD⟩ := q
  exact ⟨q0, q1, qP, va_K.moved (u := U) (U := U.calling g mk a) (Vm.Alike.refl U.vm) qK, qD⟩
/-- what a field's instruction asks of the tables -/
def kb_F (cl : List vw_C) (Ts : List Cond) (own : String) (index ci k : Nat) : Prop :=
  ∃ q : vw_C, cl[ci]? = some q ∧ (∀ w ∈ u_ws q.1 q.2.1 q.2.2, w ∈ Ts) ∧ k < q.2.2 ∧ Cond.fieldLink own index q.1 (q.2.1 k).2.1 (q.2.1 k).2.2.1 ∈ Ts ∧ (q.2.1 k).1 = q.1
def kb_FP (cl : List vw_C) (Ts : List Cond) (own : String) (index ci k : Nat) (ty : FieldType) : Prop :=
  ∃ (q : vw_C) (ty0 : Nat → FieldType), cl[ci]? = some q ∧ (∀ w ∈ u_ws q.1 q.2.1 q.2.2, w ∈ Ts) ∧ (∀ k, k < q.2.2 → parseFieldDescriptor (q.2.1 k).2.2.1 = some (ty0 k)) ∧ (∀ a, a < q.2.2 → ∀ b, b < q.2.2 → a ≠ b → (q.2.1 a).2.1 ≠ (q.2.1 b).2.1) ∧ k < q.2.2 ∧ Cond.fieldLink own index q.1 (q.2.1 k).2.1 (q.2.1 k).2.2.1 ∈ Ts ∧ (q.2.1 k).1 = q.1 ∧ (q.2.1 k).2.2.2 = false ∧ parseFieldDescriptor (q.2.1 k).2.2.1 = some ty
/-- what a call asks of the tables -/
def kb_Y (Ts : List Cond) (y : MethodName) (bytes : ByteArray) (maxL : Nat) (ret : Option FieldType) (n : Nat) : Prop :=
  (∀ w ∈ Ts, (w.onTables && w.keeps) = true ∨ ∃ ty, w = .arrayClass ty) ∧ Cond.code y bytes maxL ret ∈ Ts ∧ Cond.initialized y.cls ∈ Ts ∧ (y.cls ≠ "java/lang/invoke/MethodHandle" ∧ y.cls ≠ "java/lang/invoke/VarHandle" ∧ (parseMethodDescriptor y.desc).map (fun d => d.parameters.length) = some n)
theorem kb_good {Ts : List Cond} {w0 : Cond} (hall : ∀ w ∈ Ts, (w.onTables && w.keeps) = true ∨ ∃ ty, w = .arrayClass ty) (hc : w0 ∈ Ts) : GoodIn Ts (w0 :: Ts) := by
  intro w h
  rcases List.mem_cons.mp h with rfl | h
  · exact ⟨hc, hall _ hc⟩
  · exact ⟨h, hall w h⟩
section KBA
variable {p : Program} {l : Launch} {e : Env} {R : Room} {s : State} {m : MethodId} {args : Array Value} {below : List Frame} {meth : Method} {c : Code} {H : Heap} {locs : List Loc} {cells slots : Nat} {Q : State → Prop}
variable {cc : ByteArray} {pc nL : Nat} {ls : Array Slot} {rest : List Value} {D : va_G} {cl : List vw_C} {A : Nat → Prop} {tys : List (ClassId × FieldType)} {ws : va_W} {Ts : List Cond} {own : String}
theorem kb_start {y : MethodName} {wsC ws' : List Cond} {rm : Room} {Qc : Array Value → State → Outcome → State → Prop} {maxL : Nat} {ret : Option FieldType} {av : List Value} {sz : Nat} (hy : plainName y.cls = true) (hw : wsC = Cond.code y cc maxL ret :: ws') (hlen : (lg_sl av).length ≤ maxL)
    (body : ∀ (p : Program) (e : Env) (s : State) (m : MethodId) (args : Array Value) (below : List Frame) (meth : Method) (c : Code) (A : Nat → Prop) (ls : Array Slot), CallFix p m c cc maxL s args ws' y.cls → meth.sig.returnType = ret → meth.locks = false → s.heap.size = sz → A = va_A ws sz → kb_W D cl tys A s s.heap [] ws → lv_has ls maxL (lv_args 0 av) →
      W p l e rm s m args below meth c s.heap [] 0 0 (MQ below Qc args s 0 0 (va_A ws sz)) (F0 m 0 ls [])) : Met l y wsC rm (kb_Pc D cl tys sz av ws) Qc 0 0 (va_A ws sz) := by
  refine Met.ofW (cc := cc) (maxL := maxL) (ret := ret) hy hw ?_
  intro p e s m args below meth c s₁ B hml hv
  obtain ⟨rfl, hsz, hP, hK, hD0⟩ := hv
  have hts := atoms_spec (ws := wsC) B.pre
  have hown : s.vm.findClass y.cls = some m.cls := findClass_of_methodNamed B.named
  rw [lg_entry_eq]
  refine body p e s m _ below meth c (va_A ws sz) _ ⟨B.exec, B.bytes, hml, hown, fun w h => hts w (by rw [hw]; exact List.mem_cons_of_mem _ h)⟩ B.returns B.notSynchronized hsz rfl ⟨hP, hK, hD0.self (sz := sz), va_S.rf, ?_⟩ (lv_entry av hlen)
  intro q h
  rw [hsz] at h
  exact Or.inr h
theorem kb_iret {ws0 : va_W} {sz : Nat} {r v : Int32} {σ : Type} (f : σ → va_W) {z z' : σ} (S : CallFix p m c cc nL s args Ts own) (hr : meth.sig.returnType = some .int) (hlk : meth.locks = false) (hA : A = va_A ws0 sz) (w : kb_W D cl tys A s H locs (f z)) (h : some (v, z) = some (r, z')) (hdg : decode cc pc = .ok (.ireturn, 1)) :
    W p l e R s m args below meth c H locs cells slots (MQ below (kb_Qi D cl sz ws0 r (f z')) args s cells slots (va_A ws0 sz)) (F0 m pc ls [.int v]) := by
  obtain ⟨hP, hK, hD, hS, -⟩ := w
  have e1 : v = r := congrArg Prod.fst (Option.some.inj h)
  have e2 : z = z' := congrArg Prod.snd (Option.some.inj h)
  subst e1
  subst e2
  subst hA
  exact W.iret (v := v) S.1 S.2.1 hr (fun t ht _ => ⟨⟨v, (), rfl, rfl, by rw [ht]; exact hP, hD⟩, hS.F ht⟩) hS.2.2 hdg hlk
theorem kb_zret {ws0 : va_W} {sz : Nat} {r v : Int32} {σ : Type} (f : σ → va_W) {z z' : σ} (S : CallFix p m c cc nL s args Ts own) (hr : meth.sig.returnType = some .boolean) (hlk : meth.locks = false) (hA : A = va_A ws0 sz) (w : kb_W D cl tys A s H locs (f z)) (h : some (v, z) = some (r, z')) (hn : v = 0 ∨ v = 1) (hdg : decode cc pc = .ok (.ireturn, 1)) :
    W p l e R s m args below meth c H locs cells slots (MQ below (kb_Qi D cl sz ws0 r (f z')) args s cells slots (va_A ws0 sz)) (F0 m pc ls [.int v]) := by
  obtain ⟨hP, hK, hD, hS, -⟩ := w
  have e1 : v = r := congrArg Prod.fst (Option.some.inj h)
  have e2 : z = z' := congrArg Prod.snd (Option.some.inj h)
  subst e1
  subst e2
  subst hA
  exact W.zret (v := v) S.1 S.2.1 hr (by rcases hn with rfl | rfl <;> rfl) (fun t ht _ => ⟨⟨v, (), rfl, rfl, by rw [ht]; exact hP, hD⟩, hS.F ht⟩) hS.2.2 hdg hlk
theorem kb_vret {ws0 : va_W} {sz : Nat} {r v : Int32} {σ : Type} (f : σ → va_W) {z z' : σ} (S : CallFix p m c cc nL s args Ts own) (hr : meth.sig.returnType = none) (hlk : meth.locks = false) (hA : A = va_A ws0 sz) (w : kb_W D cl tys A s H locs (f z)) (h : some (v, z) = some (r, z')) (hdg : decode cc pc = .ok (.return_, 1)) :
    W p l e R s m args below meth c H locs cells slots (MQ below (kb_Qv D cl sz ws0 (f z')) args s cells slots (va_A ws0 sz)) (F0 m pc ls []) := by
  obtain ⟨hP, hK, hD, hS, -⟩ := w
  have e2 : z = z' := congrArg Prod.snd (Option.some.inj h)
  subst e2
  subst hA
  exact W.vret S.1 S.2.1 hr (fun t ht _ => ⟨⟨(), rfl, trivial, by rw [ht]; exact hP, hD⟩, hS.F ht⟩) hS.2.2 hdg hlk
theorem kb_get (S : CallFix p m c cc nL s args Ts own) (w : kb_W D cl tys A s H locs ws) (q0 : Nat) {a ci k index : Nat} {fs : List Value} {v : Value} (hw : ws[q0]? = some (a, .inr (ci, fs))) (f : kb_F cl Ts own index ci k) (hv : fs[k]? = some v) (hdg : decode cc pc = .ok (.getfield index, 3))
    (kk : W p l e R s m args below meth c H locs cells slots Q (F0 m (pc + 3) ls (v :: rest))) : W p l e R s m args below meth c H locs cells slots Q (F0 m pc ls (.ref a :: rest)) := by
  obtain ⟨⟨C, T, N⟩, hc, hin, hk, hl, hd⟩ := f
  exact va_get (D := D) (ci := ci) (v := v) (C := C) (T := T) (N := N) S.1 S.2.1 S.2.2.2.2 hin S.2.2.2.1 w.2.1 w.1 q0 hw hc k hk (S.2.2.2.2 _ hl) (fun x h => by dsimp only at hd; rw [hd] at h; exact h) hv hdg kk
theorem kb_puti (S : CallFix p m c cc nL s args Ts own) (w : kb_W D cl tys A s H locs ws) (q0 : Nat) {a ci k index : Nat} {fs : List Value} {x : Int32} {ws1 : va_W} (hw : ws[q0]? = some (a, .inr (ci, fs))) (f : kb_FP cl Ts own index ci k .int) (hlt : k < fs.length) (hset : ws.set q0 (a, .inr (ci, fs.set k (.int x))) = ws1) (hdg : decode cc pc = .ok (.putfield index, 3))
    (kk : ∀ (H1 : Heap) (locs1 : List Loc), kb_W D cl tys A s H1 locs1 ws1 → W p l e R s m args below meth c H1 locs1 cells slots Q (F0 m (pc + 3) ls rest)) : W p l e R s m args below meth c H locs cells slots Q (F0 m pc ls (.int x :: .ref a :: rest)) := by
  obtain ⟨⟨C, T, N⟩, ty0, hc, hin, hty, hnm, hk, hl, hd, hfin, hp⟩ := f
  refine va_put (D := D) (ci := ci) (v := .int x) (ty := .int) (C := C) (T := T) (N := N) S.1 S.2.1 S.2.2.2.2 hin ty0 hty hnm S.2.2.2.1 w.2.1 w.1 w.2.2.1 w.2.2.2.1 q0 hw hc k hk (S.2.2.2.2 _ hl) (fun x h => by dsimp only at hd; rw [hd] at h; exact h) hfin hp rfl rfl hlt hdg (fun H1 locs1 hP hD hS => ?_)
  rw [hset] at hP hD
  exact kk H1 locs1 ⟨hP, w.2.1, hD, hS, w.2.2.2.2⟩
theorem kb_iald (S : CallFix p m c cc nL s args Ts own) (w : kb_W D cl tys A s H locs ws) (q0 t0 : Nat) {a : Nat} {cA : ClassId} {n : Nat} {f : Nat → Int32} (ha : ws[q0]? = some (a, .inl (cA, n, .inl f))) (ht : tys[t0]? = some (cA, .int)) {i : Int32} (hin : vp_in i n) (hdg : decode cc pc = .ok (.iaload, 1))
    (kk : W p l e R s m args below meth c H locs cells slots Q (F0 m (pc + 1) ls (.int (f i.toNatClampNeg) :: rest))) : W p l e R s m args below meth c H locs cells slots Q (F0 m pc ls (.int i :: .ref a :: rest)) :=
  va_iald (D := D) S.1 S.2.1 w.2.1 w.1 q0 t0 ha ht hin hdg kk
theorem kb_zald (S : CallFix p m c cc nL s args Ts own) (w : kb_W D cl tys A s H locs ws) (q0 t0 : Nat) {a : Nat} {cA : ClassId} {n : Nat} {f : Nat → Int32} (ha : ws[q0]? = some (a, .inl (cA, n, .inl f))) (ht : tys[t0]? = some (cA, .boolean)) {i : Int32} (hin : vp_in i n) (hdg : decode cc pc = .ok (.baload, 1))
    (kk : W p l e R s m args below meth c H locs cells slots Q (F0 m (pc + 1) ls (.int (f i.toNatClampNeg) :: rest))) : W p l e R s m args below meth c H locs cells slots Q (F0 m pc ls (.int i :: .ref a :: rest)) :=
  va_zald (D := D) S.1 S.2.1 w.2.1 w.1 q0 t0 ha ht hin hdg kk
theorem kb_iast (S : CallFix p m c cc nL s args Ts own) (w : kb_W D cl tys A s H locs ws) (q0 t0 : Nat) {a : Nat} {cA : ClassId} {n : Nat} {f : Nat → Int32} {ws1 : va_W} {i x : Int32} (ha : ws[q0]? = some (a, .inl (cA, n, .inl f))) (ht : tys[t0]? = some (cA, .int)) (hin : vp_in i n) (hset : ws.set q0 (a, .inl (cA, n, .inl (upd f i.toNatClampNeg x))) = ws1) (hdg : decode cc pc = .ok (.iastore, 1))
    (kk : ∀ (H1 : Heap) (locs1 : List Loc), kb_W D cl tys A s H1 locs1 ws1 → W p l e R s m args below meth c H1 locs1 cells slots Q (F0 m (pc + 1) ls rest)) : W p l e R s m args below meth c H locs cells slots Q (F0 m pc ls (.int x :: .int i :: .ref a :: rest)) := by
  refine va_iast (D := D) S.1 S.2.1 w.2.1 w.1 w.2.2.1 w.2.2.2.1 q0 t0 ha ht hin hdg (fun H1 locs1 hP hD hS => ?_)
  rw [hset] at hP hD
  exact kk H1 locs1 ⟨hP, w.2.1, hD, hS, w.2.2.2.2⟩
theorem kb_zast (S : CallFix p m c cc nL s args Ts own) (w : kb_W D cl tys A s H locs ws) (q0 t0 : Nat) {a : Nat} {cA : ClassId} {n : Nat} {f : Nat → Int32} {ws1 : va_W} {i x : Int32} (ha : ws[q0]? = some (a, .inl (cA, n, .inl f))) (ht : tys[t0]? = some (cA, .boolean)) (hin : vp_in i n) (hset : ws.set q0 (a, .inl (cA, n, .inl (upd f i.toNatClampNeg (vp_nar .boolean x)))) = ws1) (hdg : decode cc pc = .ok (.bastore, 1))
    (kk : ∀ (H1 : Heap) (locs1 : List Loc), kb_W D cl tys A s H1 locs1 ws1 → W p l e R s m args below meth c H1 locs1 cells slots Q (F0 m (pc + 1) ls rest)) : W p l e R s m args below meth c H locs cells slots Q (F0 m pc ls (.int x :: .int i :: .ref a :: rest)) := by
  refine va_zast (D := D) S.1 S.2.1 w.2.1 w.1 w.2.2.1 w.2.2.2.1 q0 t0 ha ht hin hdg (fun H1 locs1 hP hD hS => ?_)
  rw [hset] at hP hD
  exact kk H1 locs1 ⟨hP, w.2.1, hD, hS, w.2.2.2.2⟩
theorem kb_free (w : kb_W D cl tys A s H locs ws) : ∀ q, va_A ws H.size q → A q := by
  rintro q (⟨k, e, h⟩ | h)
  · exact w.2.2.1.2 k _ h
  · exact w.2.2.2.2 q (Nat.le_trans w.2.2.2.1.1 h)
theorem kb_calli {y : MethodName} {bytes : ByteArray} {maxL n index b : Nat} {ret : Option FieldType} {rm : Room} {C : String} {As st0 : List Value} {r : Int32} {ws1 : va_W} {ci q0 : Nat} {q : vw_C} {fs : List Value}
    (S : CallFix p m c cc nL s args Ts own) (w : kb_W D cl tys A s H locs ws) (hM : ∀ sz, Met l y (Cond.code y bytes maxL ret :: Ts) rm (kb_Pc D cl tys sz (.ref b :: As) ws) (kb_Qi D cl sz ws r ws1) 0 0 (va_A ws sz))
    (Y : kb_Y Ts y bytes maxL ret n) (hI : Cond.instanceMethod y ∈ Ts) (hs : Cond.selects C y y ∈ Ts) (hl : Cond.methodLink own index y ∈ Ts) (hrm : rm.cells = 0 ∧ rm.slots = 0 ∧ rm.frames + 1 ≤ R.frames ∧ 8 + (maxL + 11) + rm.locals ≤ R.locals)
    (hq : ws[q0]? = some (b, .inr (ci, fs))) (hc : cl[ci]? = some q) (hC : q.1 = C) (hn : As.length = n) (hsz : ls.size = nL) (hstack : st0 = As.reverse ++ .ref b :: rest) (hW : (rest.map fun v => v.category).sum ≤ 8) (hdg : decode cc pc = .ok (.invokevirtual index, 3)) (hf : cells ≤ R.cells ∧ slots ≤ R.slots)
    (kk : ∀ (H1 : Heap) (locs1 : List Loc), kb_W D cl tys A s H1 locs1 ws1 → W p l e R s m args below meth c H1 locs1 cells slots Q (F0 m (pc + 3) ls (.int r :: rest))) : W p l e R s m args below meth c H locs cells slots Q (F0 m pc ls st0) := by
  have hts := S.2.2.2.2
  refine va_calli (va_runV (As := As) (rest := rest) (C := C) S (hM H.size) ⟨callB_of n hts (kb_good Y.1 Y.2.1) rfl hrm.1 hrm.2.1 (hts _ Y.2.2.1) (hts _ hl) Y.2.2.2 hrm.2.2, hts _ hI, hts _ hs⟩ ⟨kb_blind, ?_, fun U hU hWm => ⟨rfl, by rw [hU], by rw [hU]; exact w.1, va_K.moved hWm.alike w.2.1, w.2.2.1.weaken (fun _ _ _ _ => trivial)⟩⟩ rfl hn hsz hstack (lv_room hW) hdg ⟨hf.1, hf.2⟩) w.2.2.2.1 (fun q _ h => kb_free w q h) (kb_free w) (fun r' u t H1 locs1 ht hvm hp hB hz1 hk1 hS => ?_)
  · rw [← hC]
    exact va_recv w.2.1 w.1 hc hq
  · obtain ⟨hP1, hD1⟩ := hB
    subst hp
    rw [ht] at hP1
    exact kk H1 locs1 ⟨hP1, w.2.1, hD1.weaken (fun k q _ h => kb_free w _ h), hS, w.2.2.2.2⟩
theorem kb_callv {y : MethodName} {bytes : ByteArray} {maxL n index b : Nat} {ret : Option FieldType} {rm : Room} {C : String} {As st0 : List Value} {ws1 : va_W} {ci q0 : Nat} {q : vw_C} {fs : List Value}
    (S : CallFix p m c cc nL s args Ts own) (w : kb_W D cl tys A s H locs ws) (hM : ∀ sz, Met l y (Cond.code y bytes maxL ret :: Ts) rm (kb_Pc D cl tys sz (.ref b :: As) ws) (kb_Qv D cl sz ws ws1) 0 0 (va_A ws sz))
    (Y : kb_Y Ts y bytes maxL ret n) (hI : Cond.instanceMethod y ∈ Ts) (hs : Cond.selects C y y ∈ Ts) (hl : Cond.methodLink own index y ∈ Ts) (hrm : rm.cells = 0 ∧ rm.slots = 0 ∧ rm.frames + 1 ≤ R.frames ∧ 8 + (maxL + 11) + rm.locals ≤ R.locals)
    (hq : ws[q0]? = some (b, .inr (ci, fs))) (hc : cl[ci]? = some q) (hC : q.1 = C) (hn : As.length = n) (hsz : ls.size = nL) (hstack : st0 = As.reverse ++ .ref b :: rest) (hW : (rest.map fun v => v.category).sum ≤ 8) (hdg : decode cc pc = .ok (.invokevirtual index, 3)) (hf : cells ≤ R.cells ∧ slots ≤ R.slots)
    (kk : ∀ (H1 : Heap) (locs1 : List Loc), kb_W D cl tys A s H1 locs1 ws1 → W p l e R s m args below meth c H1 locs1 cells slots Q (F0 m (pc + 3) ls rest)) : W p l e R s m args below meth c H locs cells slots Q (F0 m pc ls st0) := by
  have hts := S.2.2.2.2
  refine va_callv (va_runV (As := As) (rest := rest) (C := C) S (hM H.size) ⟨callB_of n hts (kb_good Y.1 Y.2.1) rfl hrm.1 hrm.2.1 (hts _ Y.2.2.1) (hts _ hl) Y.2.2.2 hrm.2.2, hts _ hI, hts _ hs⟩ ⟨kb_blind, ?_, fun U hU hWm => ⟨rfl, by rw [hU], by rw [hU]; exact w.1, va_K.moved hWm.alike w.2.1, w.2.2.1.weaken (fun _ _ _ _ => trivial)⟩⟩ rfl hn hsz hstack (lv_room hW) hdg ⟨hf.1, hf.2⟩) w.2.2.2.1 (fun q _ h => kb_free w q h) (kb_free w) (fun u t H1 locs1 ht hvm hp hB hz1 hk1 hS => ?_)
  · rw [← hC]
    exact va_recv w.2.1 w.1 hc hq
  · obtain ⟨hP1, hD1⟩ := hB
    rw [ht] at hP1
    exact kk H1 locs1 ⟨hP1, w.2.1, hD1.weaken (fun k q _ h => kb_free w _ h), hS, w.2.2.2.2⟩
theorem kb_callS {y : MethodName} {bytes : ByteArray} {maxL n index : Nat} {ret : Option FieldType} {rm : Room} {As st0 : List Value} {r : Int32} {ws1 : va_W}
    (S : CallFix p m c cc nL s args Ts own) (w : kb_W D cl tys A s H locs ws) (hM : ∀ sz, Met l y (Cond.code y bytes maxL ret :: Ts) rm (kb_Pc D cl tys sz As ws) (kb_Qi D cl sz ws r ws1) 0 0 (va_A ws sz))
    (Y : kb_Y Ts y bytes maxL ret n) (hI : Cond.static y ∈ Ts) (hl : Cond.methodLink own index y ∈ Ts) (hrm : rm.cells = 0 ∧ rm.slots = 0 ∧ rm.frames + 1 ≤ R.frames ∧ 8 + (maxL + 11) + rm.locals ≤ R.locals)
    (hn : As.length = n) (hsz : ls.size = nL) (hstack : st0 = As.reverse ++ rest) (hW : (rest.map fun v => v.category).sum ≤ 8) (hdg : decode cc pc = .ok (.invokestatic index, 3)) (hf : cells ≤ R.cells ∧ slots ≤ R.slots)
    (kk : ∀ (H1 : Heap) (locs1 : List Loc), kb_W D cl tys A s H1 locs1 ws1 → W p l e R s m args below meth c H1 locs1 cells slots Q (F0 m (pc + 3) ls (.int r :: rest))) : W p l e R s m args below meth c H locs cells slots Q (F0 m pc ls st0) := by
  have hts := S.2.2.2.2
  refine va_calli (va_runS (As := As) (rest := rest) S (hM H.size) ⟨callB_of n hts (kb_good Y.1 Y.2.1) rfl hrm.1 hrm.2.1 (hts _ Y.2.2.1) (hts _ hl) Y.2.2.2 hrm.2.2, hts _ hI⟩ ⟨kb_blind, fun U hU hWm => ⟨rfl, by rw [hU], by rw [hU]; exact w.1, va_K.moved hWm.alike w.2.1, w.2.2.1.weaken (fun _ _ _ _ => trivial)⟩⟩ rfl hn hsz hstack (lv_room hW) hdg ⟨hf.1, hf.2⟩) w.2.2.2.1 (fun q _ h => kb_free w q h) (kb_free w) (fun r' u t H1 locs1 ht hvm hp hB hz1 hk1 hS => ?_)
  obtain ⟨hP1, hD1⟩ := hB
  subst hp
  rw [ht] at hP1
  exact kk H1 locs1 ⟨hP1, w.2.1, hD1.weaken (fun k q _ h => kb_free w _ h), hS, w.2.2.2.2⟩
theorem kb_alen (S : CallFix p m c cc nL s args Ts own) (w : kb_W D cl tys A s H locs ws) (q0 t0 : Nat) {a : Nat} {cA : ClassId} {x : vp_A} {ty : FieldType} {v : Int32} (ha : ws[q0]? = some (a, .inl (cA, x))) (ht : tys[t0]? = some (cA, ty)) (hv : Int32.ofNat x.1 = v) (hdg : decode cc pc = .ok (.arraylength, 1))
    (kk : W p l e R s m args below meth c H locs cells slots Q (F0 m (pc + 1) ls (.int v :: rest))) : W p l e R s m args below meth c H locs cells slots Q (F0 m pc ls (.ref a :: rest)) :=
  va_alen (D := D) S.1 S.2.1 w.2.1 w.1 q0 t0 ha ht hv hdg kk
theorem kb_ald (S : CallFix p m c cc nL s args Ts own) (w : kb_W D cl tys A s H locs ws) (q0 t0 : Nat) {a : Nat} {cA : ClassId} {C : String} {n : Nat} {f : Nat → Option Nat} (ha : ws[q0]? = some (a, .inl (cA, n, .inr (.inr (.inr (.inr f)))))) (ht : tys[t0]? = some (cA, .object C)) {i : Int32} (hin : vp_in i n) (hdg : decode cc pc = .ok (.aaload, 1))
    (kk : W p l e R s m args below meth c H locs cells slots Q (F0 m (pc + 1) ls (va_rf (f i.toNatClampNeg) :: rest))) : W p l e R s m args below meth c H locs cells slots Q (F0 m pc ls (.int i :: .ref a :: rest)) :=
  va_aldq (D := D) S.1 S.2.1 w.2.1 w.1 q0 t0 ha ht hin hdg kk
theorem kb_ast (S : CallFix p m c cc nL s args Ts own) (w : kb_W D cl tys A s H locs ws) (q0 t0 qk ci : Nat) {a : Nat} {cA : ClassId} {r : vw_C} {n v : Nat} {vs : List Value} {f : Nat → Option Nat} {ws1 : va_W} {i : Int32} (ha : ws[q0]? = some (a, .inl (cA, n, .inr (.inr (.inr (.inr f)))))) (ht : tys[t0]? = some (cA, .object r.1)) (hv : ws[qk]? = some (v, .inr (ci, vs))) (hc : cl[ci]? = some r) (hin : vp_in i n)
    (hset : ws.set q0 (a, .inl (cA, n, .inr (.inr (.inr (.inr (va_up f i.toNatClampNeg (some v))))))) = ws1) (hdg : decode cc pc = .ok (.aastore, 1))
    (kk : ∀ (H1 : Heap) (locs1 : List Loc), kb_W D cl tys A s H1 locs1 ws1 → W p l e R s m args below meth c H1 locs1 cells slots Q (F0 m (pc + 1) ls rest)) : W p l e R s m args below meth c H locs cells slots Q (F0 m pc ls (.ref v :: .int i :: .ref a :: rest)) := by
  refine va_astq (D := D) S.1 S.2.1 w.2.1 w.1 w.2.2.1 w.2.2.2.1 q0 t0 qk ci ha ht hv hc hin hdg (fun H1 locs1 hP hD hS => ?_)
  rw [hset] at hP hD
  exact kk H1 locs1 ⟨hP, w.2.1, hD, hS, w.2.2.2.2⟩
end KBA
end
section
/-! names, laid by wip/whole/lay.py out of the tables and the listing -/
def RC : String := "BankScheduler$Channel"
def TC : u_T := fun k => match k with
  | 0 => ("BankScheduler$Channel", "times", "[I", true)
  | 1 => ("BankScheduler$Channel", "openRow", "[I", true)
  | 2 => ("BankScheduler$Channel", "lastOpen", "[I", true)
  | 3 => ("BankScheduler$Channel", "lastClose", "[I", true)
  | 4 => ("BankScheduler$Channel", "lastRead", "[I", true)
  | 5 => ("BankScheduler$Channel", "lastWrite", "[I", true)
  | 6 => ("BankScheduler$Channel", "latestOpens", "[I", true)
  | 7 => ("BankScheduler$Channel", "given", "[I", true)
  | 8 => ("BankScheduler$Channel", "nextOpen", "I", false)
  | 9 => ("BankScheduler$Channel", "lastAccess", "I", false)
  | 10 => ("BankScheduler$Channel", "lastRefresh", "I", false)
  | _ => ("BankScheduler$Channel", "cycle", "I", false)
def tyTC : Nat → FieldType := fun k => match k with
  | 0 => .array .int
  | 1 => .array .int
  | 2 => .array .int
  | 3 => .array .int
  | 4 => .array .int
  | 5 => .array .int
  | 6 => .array .int
  | 7 => .array .int
  | 8 => .int
  | 9 => .int
  | 10 => .int
  | _ => .int
theorem nmTC : ∀ a, a < 12 → ∀ b, b < 12 → a ≠ b → (TC a).2.1 ≠ (TC b).2.1 := by decide +kernel
theorem tyTC_ok : ∀ k, k < 12 → parseFieldDescriptor (TC k).2.2.1 = some (tyTC k) := by decide +kernel
def RReq : String := "BankScheduler$Request"
def TR : u_T := fun k => match k with
  | 0 => ("BankScheduler$Request", "command", "I", false)
  | 1 => ("BankScheduler$Request", "bank", "I", false)
  | 2 => ("BankScheduler$Request", "row", "I", false)
  | 3 => ("BankScheduler$Request", "place", "I", false)
  | 4 => ("BankScheduler$Request", "toWrite", "I", false)
  | 5 => ("BankScheduler$Request", "number", "I", false)
  | _ => ("BankScheduler$Request", "cameIn", "I", false)
def tyTR : Nat → FieldType := fun k => match k with
  | 0 => .int
  | 1 => .int
  | 2 => .int
  | 3 => .int
  | 4 => .int
  | 5 => .int
  | _ => .int
theorem nmTR : ∀ a, a < 7 → ∀ b, b < 7 → a ≠ b → (TR a).2.1 ≠ (TR b).2.1 := by decide +kernel
theorem tyTR_ok : ∀ k, k < 7 → parseFieldDescriptor (TR k).2.2.1 = some (tyTR k) := by decide +kernel
def RB : String := "BankScheduler"
def TB : u_T := fun k => match k with
  | 0 => ("BankScheduler", "patience", "I", true)
  | 1 => ("BankScheduler", "times", "[I", true)
  | 2 => ("BankScheduler", "words", "[I", true)
  | 3 => ("BankScheduler", "controller", "LBankScheduler$Channel;", true)
  | 4 => ("BankScheduler", "checker", "LBankScheduler$Channel;", true)
  | 5 => ("BankScheduler", "queue", "[LBankScheduler$Request;", true)
  | 6 => ("BankScheduler", "queued", "I", false)
  | 7 => ("BankScheduler", "requests", "I", false)
  | 8 => ("BankScheduler", "late", "I", false)
  | 9 => ("BankScheduler", "keptNumbers", "[I", true)
  | _ => ("BankScheduler", "keptDone", "[I", true)
def tyTB : Nat → FieldType := fun k => match k with
  | 0 => .int
  | 1 => .array .int
  | 2 => .array .int
  | 3 => .object "BankScheduler$Channel"
  | 4 => .object "BankScheduler$Channel"
  | 5 => .array (.object "BankScheduler$Request")
  | 6 => .int
  | 7 => .int
  | 8 => .int
  | 9 => .array .int
  | _ => .array .int
theorem nmTB : ∀ a, a < 11 → ∀ b, b < 11 → a ≠ b → (TB a).2.1 ≠ (TB b).2.1 := by decide +kernel
theorem tyTB_ok : ∀ k, k < 11 → parseFieldDescriptor (TB k).2.2.1 = some (tyTB k) := by decide +kernel
def RM : String := "BankSchedulerModel"
def TM : u_T := fun k => match k with
  | 0 => ("BankSchedulerModel", "thrown", "I", false)
  | 1 => ("BankSchedulerModel", "banks", "I", true)
  | 2 => ("BankSchedulerModel", "places", "I", true)
  | 3 => ("BankSchedulerModel", "patience", "I", true)
  | 4 => ("BankSchedulerModel", "times", "[I", true)
  | 5 => ("BankSchedulerModel", "rows", "[I", true)
  | 6 => ("BankSchedulerModel", "opened", "[I", true)
  | 7 => ("BankSchedulerModel", "closed", "[I", true)
  | 8 => ("BankSchedulerModel", "readAt", "[I", true)
  | 9 => ("BankSchedulerModel", "writtenAt", "[I", true)
  | 10 => ("BankSchedulerModel", "openings", "[I", true)
  | 11 => ("BankSchedulerModel", "refreshed", "[I", true)
  | 12 => ("BankSchedulerModel", "cycles", "[I", true)
  | 13 => ("BankSchedulerModel", "words", "[I", true)
  | 14 => ("BankSchedulerModel", "waits", "I", false)
  | 15 => ("BankSchedulerModel", "number", "[I", true)
  | 16 => ("BankSchedulerModel", "bankOf", "[I", true)
  | 17 => ("BankSchedulerModel", "rowOf", "[I", true)
  | 18 => ("BankSchedulerModel", "columnOf", "[I", true)
  | 19 => ("BankSchedulerModel", "writes", "[Z", true)
  | 20 => ("BankSchedulerModel", "value", "[I", true)
  | 21 => ("BankSchedulerModel", "came", "[I", true)
  | 22 => ("BankSchedulerModel", "requests", "I", false)
  | 23 => ("BankSchedulerModel", "doneAt", "[I", true)
  | 24 => ("BankSchedulerModel", "results", "[I", true)
  | 25 => ("BankSchedulerModel", "given", "[I", true)
  | _ => ("BankSchedulerModel", "late", "I", false)
def tyTM : Nat → FieldType := fun k => match k with
  | 0 => .int
  | 1 => .int
  | 2 => .int
  | 3 => .int
  | 4 => .array .int
  | 5 => .array .int
  | 6 => .array .int
  | 7 => .array .int
  | 8 => .array .int
  | 9 => .array .int
  | 10 => .array .int
  | 11 => .array .int
  | 12 => .array .int
  | 13 => .array .int
  | 14 => .int
  | 15 => .array .int
  | 16 => .array .int
  | 17 => .array .int
  | 18 => .array .int
  | 19 => .array .boolean
  | 20 => .array .int
  | 21 => .array .int
  | 22 => .int
  | 23 => .array .int
  | 24 => .array .int
  | 25 => .array .int
  | _ => .int
theorem nmTM : ∀ a, a < 27 → ∀ b, b < 27 → a ≠ b → (TM a).2.1 ≠ (TM b).2.1 := by decide +kernel
theorem tyTM_ok : ∀ k, k < 27 → parseFieldDescriptor (TM k).2.2.1 = some (tyTM k) := by decide +kernel
def RL : String := "BankSchedulerLaw"
abbrev vwCl : List vw_C := [(RC, TC, 12), (RReq, TR, 7), (RB, TB, 11), (RM, TM, 27)]
def wsB : List Cond := lw_tbl.filter goodWord
theorem kn_g : ∀ w ∈ wsB, (w.onTables && w.keeps) = true ∨ ∃ ty, w = .arrayClass ty := fun _ h => good_of_word (List.mem_filter.mp h).2
theorem kn_t (i : Nat) {w : Cond} (h : tables_1[i]? = some w) (hg : goodWord w = true) : w ∈ wsB := List.mem_filter.mpr ⟨List.mem_append_right _ (List.mem_of_getElem? h), hg⟩
theorem kn_1 (i : Nat) {w : Cond} (h : tables_1_1[i]? = some w) (hg : goodWord w = true) : w ∈ wsB := List.mem_filter.mpr ⟨List.mem_append_right _ (List.mem_append_left _ (List.mem_of_getElem? h)), hg⟩
theorem kn_2 (i : Nat) {w : Cond} (h : tables_1_2[i]? = some w) (hg : goodWord w = true) : w ∈ wsB := List.mem_filter.mpr ⟨List.mem_append_right _ (List.mem_append_right _ (List.mem_append_left _ (List.mem_of_getElem? h))), hg⟩
theorem kn_3 (i : Nat) {w : Cond} (h : tables_1_3[i]? = some w) (hg : goodWord w = true) : w ∈ wsB := List.mem_filter.mpr ⟨List.mem_append_right _ (List.mem_append_right _ (List.mem_append_right _ (List.mem_of_getElem? h))), hg⟩
theorem kn_s (i : Nat) {w : Cond} (h : (k2_sels lw_privs)[i]? = some w) (hg : goodWord w = true) : w ∈ wsB := List.mem_filter.mpr ⟨List.mem_append_left _ (List.mem_of_getElem? h), hg⟩
set_option maxRecDepth 100000 in
theorem uwTC : ∀ w ∈ u_ws RC TC 12, w ∈ wsB := by decide +kernel
set_option maxRecDepth 100000 in
theorem uwTR : ∀ w ∈ u_ws RReq TR 7, w ∈ wsB := by decide +kernel
set_option maxRecDepth 100000 in
theorem uwTB : ∀ w ∈ u_ws RB TB 11, w ∈ wsB := by decide +kernel
set_option maxRecDepth 100000 in
theorem uwTM : ∀ w ∈ u_ws RM TM 27, w ∈ wsB := by decide +kernel
abbrev c_B_init : ByteArray := prog_1_method_1_code
def y_B_init : MethodName := ⟨"BankScheduler", "<init>", "(III)V"⟩
abbrev c_B_time : ByteArray := prog_1_method_2_code
def y_B_time : MethodName := ⟨"BankScheduler", "time", "(II)I"⟩
abbrev c_B_read : ByteArray := prog_1_method_3_code
def y_B_read : MethodName := ⟨"BankScheduler", "read", "(III)I"⟩
abbrev c_B_write : ByteArray := prog_1_method_4_code
def y_B_write : MethodName := ⟨"BankScheduler", "write", "(IIII)I"⟩
abbrev c_B_tick : ByteArray := prog_1_method_5_code
def y_B_tick : MethodName := ⟨"BankScheduler", "tick", "()I"⟩
abbrev c_B_run : ByteArray := prog_1_method_6_code
def y_B_run : MethodName := ⟨"BankScheduler", "run", "(I)I"⟩
abbrev c_B_result : ByteArray := prog_1_method_7_code
def y_B_result : MethodName := ⟨"BankScheduler", "result", "(I)I"⟩
abbrev c_B_word : ByteArray := prog_1_method_8_code
def y_B_word : MethodName := ⟨"BankScheduler", "word", "(III)I"⟩
abbrev c_B_open : ByteArray := prog_1_method_9_code
def y_B_open : MethodName := ⟨"BankScheduler", "open", "(I)I"⟩
abbrev c_B_waiting : ByteArray := prog_1_method_10_code
def y_B_waiting : MethodName := ⟨"BankScheduler", "waiting", "(I)I"⟩
abbrev c_B_figure : ByteArray := prog_1_method_11_code
def y_B_figure : MethodName := ⟨"BankScheduler", "figure", "(I)I"⟩
abbrev c_B_check : ByteArray := prog_1_method_12_code
def y_B_check : MethodName := ⟨"BankScheduler", "check", "(III)I"⟩
abbrev c_B_pause : ByteArray := prog_1_method_13_code
def y_B_pause : MethodName := ⟨"BankScheduler", "pause", "(I)I"⟩
abbrev c_B_hasRow : ByteArray := prog_1_method_14_code
def y_B_hasRow : MethodName := ⟨"BankScheduler", "hasRow", "(I)Z"⟩
abbrev c_B_isRow : ByteArray := prog_1_method_15_code
def y_B_isRow : MethodName := ⟨"BankScheduler", "isRow", "(I)Z"⟩
abbrev c_B_wordPlace : ByteArray := prog_1_method_16_code
def y_B_wordPlace : MethodName := ⟨"BankScheduler", "wordPlace", "(III)I"⟩
abbrev c_B_refuseNoWord : ByteArray := prog_1_method_17_code
def y_B_refuseNoWord : MethodName := ⟨"BankScheduler", "refuseNoWord", "(III)V"⟩
abbrev c_B_refuseFullQueue : ByteArray := prog_1_method_18_code
def y_B_refuseFullQueue : MethodName := ⟨"BankScheduler", "refuseFullQueue", "()V"⟩
abbrev c_B_isKept : ByteArray := prog_1_method_19_code
def y_B_isKept : MethodName := ⟨"BankScheduler", "isKept", "(I)Z"⟩
abbrev c_B_enqueue : ByteArray := prog_1_method_20_code
def y_B_enqueue : MethodName := ⟨"BankScheduler", "enqueue", "(IIIII)I"⟩
abbrev c_B_giveFirst : ByteArray := prog_1_method_21_code
def y_B_giveFirst : MethodName := ⟨"BankScheduler", "giveFirst", "()I"⟩
abbrev c_B_refreshIsDue : ByteArray := prog_1_method_22_code
def y_B_refreshIsDue : MethodName := ⟨"BankScheduler", "refreshIsDue", "()Z"⟩
abbrev c_B_giveRefreshing : ByteArray := prog_1_method_23_code
def y_B_giveRefreshing : MethodName := ⟨"BankScheduler", "giveRefreshing", "()I"⟩
abbrev c_B_countLookedAt : ByteArray := prog_1_method_24_code
def y_B_countLookedAt : MethodName := ⟨"BankScheduler", "countLookedAt", "()I"⟩
abbrev c_B_hasWaitedLong : ByteArray := prog_1_method_25_code
def y_B_hasWaitedLong : MethodName := ⟨"BankScheduler", "hasWaitedLong", "(LBankScheduler$Request;)Z"⟩
abbrev c_B_findHit : ByteArray := prog_1_method_26_code
def y_B_findHit : MethodName := ⟨"BankScheduler", "findHit", "(I)I"⟩
abbrev c_B_hasOlderForWord : ByteArray := prog_1_method_27_code
def y_B_hasOlderForWord : MethodName := ⟨"BankScheduler", "hasOlderForWord", "(I)Z"⟩
abbrev c_B_giveHit : ByteArray := prog_1_method_28_code
def y_B_giveHit : MethodName := ⟨"BankScheduler", "giveHit", "(I)I"⟩
abbrev c_B_dequeue : ByteArray := prog_1_method_29_code
def y_B_dequeue : MethodName := ⟨"BankScheduler", "dequeue", "(I)V"⟩
abbrev c_B_giveWay : ByteArray := prog_1_method_30_code
def y_B_giveWay : MethodName := ⟨"BankScheduler", "giveWay", "(I)I"⟩
abbrev c_B_hasOlderForBank : ByteArray := prog_1_method_31_code
def y_B_hasOlderForBank : MethodName := ⟨"BankScheduler", "hasOlderForBank", "(I)Z"⟩
abbrev c_B_isWanted : ByteArray := prog_1_method_32_code
def y_B_isWanted : MethodName := ⟨"BankScheduler", "isWanted", "(III)Z"⟩
abbrev c_B_giveCommand : ByteArray := prog_1_method_33_code
def y_B_giveCommand : MethodName := ⟨"BankScheduler", "giveCommand", "(III)I"⟩
abbrev c_M_init : ByteArray := prog_5_method_1_code
def y_M_init : MethodName := ⟨"BankSchedulerModel", "<init>", "(III)V"⟩
abbrev c_M_thrown : ByteArray := prog_5_method_2_code
def y_M_thrown : MethodName := ⟨"BankSchedulerModel", "thrown", "()I"⟩
abbrev c_M_time : ByteArray := prog_5_method_3_code
def y_M_time : MethodName := ⟨"BankSchedulerModel", "time", "(II)I"⟩
abbrev c_M_early : ByteArray := prog_5_method_4_code
def y_M_early : MethodName := ⟨"BankSchedulerModel", "early", "(III)Z"⟩
abbrev c_M_brokenOpen : ByteArray := prog_5_method_5_code
def y_M_brokenOpen : MethodName := ⟨"BankSchedulerModel", "brokenOpen", "(II)I"⟩
abbrev c_M_brokenClose : ByteArray := prog_5_method_6_code
def y_M_brokenClose : MethodName := ⟨"BankSchedulerModel", "brokenClose", "(II)I"⟩
abbrev c_M_brokenUse : ByteArray := prog_5_method_7_code
def y_M_brokenUse : MethodName := ⟨"BankSchedulerModel", "brokenUse", "(III)I"⟩
abbrev c_M_brokenRefresh : ByteArray := prog_5_method_8_code
def y_M_brokenRefresh : MethodName := ⟨"BankSchedulerModel", "brokenRefresh", "(I)I"⟩
abbrev c_M_broken : ByteArray := prog_5_method_9_code
def y_M_broken : MethodName := ⟨"BankSchedulerModel", "broken", "(IIII)I"⟩
abbrev c_M_give : ByteArray := prog_5_method_10_code
def y_M_give : MethodName := ⟨"BankSchedulerModel", "give", "(IIII)V"⟩
abbrev c_M_isBank : ByteArray := prog_5_method_11_code
def y_M_isBank : MethodName := ⟨"BankSchedulerModel", "isBank", "(I)Z"⟩
abbrev c_M_isRow : ByteArray := prog_5_method_12_code
def y_M_isRow : MethodName := ⟨"BankSchedulerModel", "isRow", "(I)Z"⟩
abbrev c_M_isWord : ByteArray := prog_5_method_13_code
def y_M_isWord : MethodName := ⟨"BankSchedulerModel", "isWord", "(III)Z"⟩
abbrev c_M_request : ByteArray := prog_5_method_14_code
def y_M_request : MethodName := ⟨"BankSchedulerModel", "request", "(IIIZI)I"⟩
abbrev c_M_read : ByteArray := prog_5_method_15_code
def y_M_read : MethodName := ⟨"BankSchedulerModel", "read", "(III)I"⟩
abbrev c_M_write : ByteArray := prog_5_method_16_code
def y_M_write : MethodName := ⟨"BankSchedulerModel", "write", "(IIII)I"⟩
abbrev c_M_serve : ByteArray := prog_5_method_17_code
def y_M_serve : MethodName := ⟨"BankSchedulerModel", "serve", "(I)V"⟩
abbrev c_M_told : ByteArray := prog_5_method_18_code
def y_M_told : MethodName := ⟨"BankSchedulerModel", "told", "(III)I"⟩
abbrev c_M_refreshing : ByteArray := prog_5_method_19_code
def y_M_refreshing : MethodName := ⟨"BankSchedulerModel", "refreshing", "()I"⟩
abbrev c_M_hasElder : ByteArray := prog_5_method_20_code
def y_M_hasElder : MethodName := ⟨"BankSchedulerModel", "hasElder", "(I)Z"⟩
abbrev c_M_hit : ByteArray := prog_5_method_21_code
def y_M_hit : MethodName := ⟨"BankSchedulerModel", "hit", "(I)I"⟩
abbrev c_M_asks : ByteArray := prog_5_method_22_code
def y_M_asks : MethodName := ⟨"BankSchedulerModel", "asks", "(III)Z"⟩
abbrev c_M_way : ByteArray := prog_5_method_23_code
def y_M_way : MethodName := ⟨"BankSchedulerModel", "way", "(I)I"⟩
abbrev c_M_cycle : ByteArray := prog_5_method_24_code
def y_M_cycle : MethodName := ⟨"BankSchedulerModel", "cycle", "()I"⟩
abbrev c_M_tick : ByteArray := prog_5_method_25_code
def y_M_tick : MethodName := ⟨"BankSchedulerModel", "tick", "()I"⟩
abbrev c_M_run : ByteArray := prog_5_method_26_code
def y_M_run : MethodName := ⟨"BankSchedulerModel", "run", "(I)I"⟩
abbrev c_M_result : ByteArray := prog_5_method_27_code
def y_M_result : MethodName := ⟨"BankSchedulerModel", "result", "(I)I"⟩
abbrev c_M_word : ByteArray := prog_5_method_28_code
def y_M_word : MethodName := ⟨"BankSchedulerModel", "word", "(III)I"⟩
abbrev c_M_open : ByteArray := prog_5_method_29_code
def y_M_open : MethodName := ⟨"BankSchedulerModel", "open", "(I)I"⟩
abbrev c_M_waiting : ByteArray := prog_5_method_30_code
def y_M_waiting : MethodName := ⟨"BankSchedulerModel", "waiting", "(I)I"⟩
abbrev c_M_figure : ByteArray := prog_5_method_31_code
def y_M_figure : MethodName := ⟨"BankSchedulerModel", "figure", "(I)I"⟩
abbrev c_M_check : ByteArray := prog_5_method_32_code
def y_M_check : MethodName := ⟨"BankSchedulerModel", "check", "(III)I"⟩
abbrev c_M_pause : ByteArray := prog_5_method_33_code
def y_M_pause : MethodName := ⟨"BankSchedulerModel", "pause", "(I)I"⟩
abbrev c_C_init : ByteArray := prog_2_method_1_code
def y_C_init : MethodName := ⟨"BankScheduler$Channel", "<init>", "(I[I)V"⟩
abbrev c_C_hasBank : ByteArray := prog_2_method_2_code
def y_C_hasBank : MethodName := ⟨"BankScheduler$Channel", "hasBank", "(I)Z"⟩
abbrev c_C_firstBroken : ByteArray := prog_2_method_3_code
def y_C_firstBroken : MethodName := ⟨"BankScheduler$Channel", "firstBroken", "(III)I"⟩
abbrev c_C_brokenByOpen : ByteArray := prog_2_method_4_code
def y_C_brokenByOpen : MethodName := ⟨"BankScheduler$Channel", "brokenByOpen", "(I)I"⟩
abbrev c_C_brokenByClose : ByteArray := prog_2_method_5_code
def y_C_brokenByClose : MethodName := ⟨"BankScheduler$Channel", "brokenByClose", "(I)I"⟩
abbrev c_C_brokenByAccess : ByteArray := prog_2_method_6_code
def y_C_brokenByAccess : MethodName := ⟨"BankScheduler$Channel", "brokenByAccess", "(II)I"⟩
abbrev c_C_brokenByRefresh : ByteArray := prog_2_method_7_code
def y_C_brokenByRefresh : MethodName := ⟨"BankScheduler$Channel", "brokenByRefresh", "()I"⟩
abbrev c_C_give : ByteArray := prog_2_method_8_code
def y_C_give : MethodName := ⟨"BankScheduler$Channel", "give", "(III)V"⟩
abbrev c_C_isTooSoonForOthers : ByteArray := prog_2_method_9_code
def y_C_isTooSoonForOthers : MethodName := ⟨"BankScheduler$Channel", "isTooSoonForOthers", "(I)Z"⟩
abbrev c_C_isTooSoon : ByteArray := prog_2_method_10_code
def y_C_isTooSoon : MethodName := ⟨"BankScheduler$Channel", "isTooSoon", "(II)Z"⟩
abbrev c_R_init : ByteArray := prog_3_method_1_code
def y_R_init : MethodName := ⟨"BankScheduler$Request", "<init>", "()V"⟩
abbrev c_L_cell : ByteArray := method_2_code
def y_L_cell : MethodName := ⟨"BankSchedulerLaw", "cell", "([II)I"⟩
abbrev c_L_time : ByteArray := method_3_code
def y_L_time : MethodName := ⟨"BankSchedulerLaw", "time", "(LBankScheduler;II[J)I"⟩
abbrev c_L_read : ByteArray := method_4_code
def y_L_read : MethodName := ⟨"BankSchedulerLaw", "read", "(LBankScheduler;III[J)I"⟩
abbrev c_L_write : ByteArray := method_5_code
def y_L_write : MethodName := ⟨"BankSchedulerLaw", "write", "(LBankScheduler;IIII[J)I"⟩
abbrev c_L_run : ByteArray := method_6_code
def y_L_run : MethodName := ⟨"BankSchedulerLaw", "run", "(LBankScheduler;I[J)I"⟩
abbrev c_L_result : ByteArray := method_7_code
def y_L_result : MethodName := ⟨"BankSchedulerLaw", "result", "(LBankScheduler;I[J)I"⟩
abbrev c_L_word : ByteArray := method_8_code
def y_L_word : MethodName := ⟨"BankSchedulerLaw", "word", "(LBankScheduler;III[J)I"⟩
abbrev c_L_open : ByteArray := method_9_code
def y_L_open : MethodName := ⟨"BankSchedulerLaw", "open", "(LBankScheduler;I[J)I"⟩
abbrev c_L_waiting : ByteArray := method_10_code
def y_L_waiting : MethodName := ⟨"BankSchedulerLaw", "waiting", "(LBankScheduler;I[J)I"⟩
abbrev c_L_figure : ByteArray := method_11_code
def y_L_figure : MethodName := ⟨"BankSchedulerLaw", "figure", "(LBankScheduler;I[J)I"⟩
abbrev c_L_check : ByteArray := method_12_code
def y_L_check : MethodName := ⟨"BankSchedulerLaw", "check", "(LBankScheduler;III[J)I"⟩
abbrev c_L_pause : ByteArray := method_13_code
def y_L_pause : MethodName := ⟨"BankSchedulerLaw", "pause", "(LBankScheduler;I[J)I"⟩
theorem Y_B_time : kb_Y wsB y_B_time c_B_time 4 (some .int) 2 := ⟨kn_g, (kn_2 10 rfl rfl), (kn_1 1 rfl rfl), by decide, by decide, by decide⟩
theorem I_B_time : Cond.instanceMethod y_B_time ∈ wsB := (kn_2 8 rfl rfl)
theorem S_B_time : Cond.selects "BankScheduler" y_B_time y_B_time ∈ wsB := (kn_2 9 rfl rfl)
abbrev rm_B_time : Room := { frames := 6, cells := 0, slots := 0, locals := 90 }
theorem Y_B_read : kb_Y wsB y_B_read c_B_read 4 (some .int) 3 := ⟨kn_g, (kn_2 122 rfl rfl), (kn_1 1 rfl rfl), by decide, by decide, by decide⟩
theorem I_B_read : Cond.instanceMethod y_B_read ∈ wsB := (kn_2 120 rfl rfl)
theorem S_B_read : Cond.selects "BankScheduler" y_B_read y_B_read ∈ wsB := (kn_2 121 rfl rfl)
abbrev rm_B_read : Room := { frames := 7, cells := 0, slots := 0, locals := 113 }
theorem Y_B_write : kb_Y wsB y_B_write c_B_write 5 (some .int) 4 := ⟨kn_g, (kn_2 154 rfl rfl), (kn_1 1 rfl rfl), by decide, by decide, by decide⟩
theorem I_B_write : Cond.instanceMethod y_B_write ∈ wsB := (kn_2 152 rfl rfl)
theorem S_B_write : Cond.selects "BankScheduler" y_B_write y_B_write ∈ wsB := (kn_2 153 rfl rfl)
abbrev rm_B_write : Room := { frames := 7, cells := 0, slots := 0, locals := 113 }
theorem Y_B_tick : kb_Y wsB y_B_tick c_B_tick 2 (some .int) 0 := ⟨kn_g, (kn_1 150 rfl rfl), (kn_1 1 rfl rfl), by decide, by decide, by decide⟩
theorem I_B_tick : Cond.instanceMethod y_B_tick ∈ wsB := (kn_1 148 rfl rfl)
theorem S_B_tick : Cond.selects "BankScheduler" y_B_tick y_B_tick ∈ wsB := (kn_1 149 rfl rfl)
abbrev rm_B_tick : Room := { frames := 5, cells := 0, slots := 0, locals := 111 }
theorem Y_B_run : kb_Y wsB y_B_run c_B_run 4 (some .int) 1 := ⟨kn_g, (kn_2 161 rfl rfl), (kn_1 1 rfl rfl), by decide, by decide, by decide⟩
theorem I_B_run : Cond.instanceMethod y_B_run ∈ wsB := (kn_2 159 rfl rfl)
theorem S_B_run : Cond.selects "BankScheduler" y_B_run y_B_run ∈ wsB := (kn_2 160 rfl rfl)
abbrev rm_B_run : Room := { frames := 6, cells := 0, slots := 0, locals := 132 }
theorem Y_B_result : kb_Y wsB y_B_result c_B_result 3 (some .int) 1 := ⟨kn_g, (kn_2 171 rfl rfl), (kn_1 1 rfl rfl), by decide, by decide, by decide⟩
theorem I_B_result : Cond.instanceMethod y_B_result ∈ wsB := (kn_2 169 rfl rfl)
theorem S_B_result : Cond.selects "BankScheduler" y_B_result y_B_result ∈ wsB := (kn_2 170 rfl rfl)
abbrev rm_B_result : Room := { frames := 6, cells := 0, slots := 0, locals := 90 }
theorem Y_B_word : kb_Y wsB y_B_word c_B_word 4 (some .int) 3 := ⟨kn_g, (kn_2 195 rfl rfl), (kn_1 1 rfl rfl), by decide, by decide, by decide⟩
theorem I_B_word : Cond.instanceMethod y_B_word ∈ wsB := (kn_2 193 rfl rfl)
theorem S_B_word : Cond.selects "BankScheduler" y_B_word y_B_word ∈ wsB := (kn_2 194 rfl rfl)
abbrev rm_B_word : Room := { frames := 7, cells := 0, slots := 0, locals := 113 }
theorem Y_B_open : kb_Y wsB y_B_open c_B_open 2 (some .int) 1 := ⟨kn_g, (kn_2 202 rfl rfl), (kn_1 1 rfl rfl), by decide, by decide, by decide⟩
theorem I_B_open : Cond.instanceMethod y_B_open ∈ wsB := (kn_2 200 rfl rfl)
theorem S_B_open : Cond.selects "BankScheduler" y_B_open y_B_open ∈ wsB := (kn_2 201 rfl rfl)
abbrev rm_B_open : Room := { frames := 6, cells := 0, slots := 0, locals := 90 }
theorem Y_B_waiting : kb_Y wsB y_B_waiting c_B_waiting 2 (some .int) 1 := ⟨kn_g, (kn_2 210 rfl rfl), (kn_1 1 rfl rfl), by decide, by decide, by decide⟩
theorem I_B_waiting : Cond.instanceMethod y_B_waiting ∈ wsB := (kn_2 208 rfl rfl)
theorem S_B_waiting : Cond.selects "BankScheduler" y_B_waiting y_B_waiting ∈ wsB := (kn_2 209 rfl rfl)
abbrev rm_B_waiting : Room := { frames := 6, cells := 0, slots := 0, locals := 90 }
theorem Y_B_figure : kb_Y wsB y_B_figure c_B_figure 2 (some .int) 1 := ⟨kn_g, (kn_2 218 rfl rfl), (kn_1 1 rfl rfl), by decide, by decide, by decide⟩
theorem I_B_figure : Cond.instanceMethod y_B_figure ∈ wsB := (kn_2 216 rfl rfl)
theorem S_B_figure : Cond.selects "BankScheduler" y_B_figure y_B_figure ∈ wsB := (kn_2 217 rfl rfl)
abbrev rm_B_figure : Room := { frames := 6, cells := 0, slots := 0, locals := 90 }
theorem Y_B_check : kb_Y wsB y_B_check c_B_check 5 (some .int) 3 := ⟨kn_g, (kn_2 226 rfl rfl), (kn_1 1 rfl rfl), by decide, by decide, by decide⟩
theorem I_B_check : Cond.instanceMethod y_B_check ∈ wsB := (kn_2 224 rfl rfl)
theorem S_B_check : Cond.selects "BankScheduler" y_B_check y_B_check ∈ wsB := (kn_2 225 rfl rfl)
abbrev rm_B_check : Room := { frames := 6, cells := 0, slots := 0, locals := 90 }
theorem Y_B_pause : kb_Y wsB y_B_pause c_B_pause 2 (some .int) 1 := ⟨kn_g, (kn_3 3 rfl rfl), (kn_1 1 rfl rfl), by decide, by decide, by decide⟩
theorem I_B_pause : Cond.instanceMethod y_B_pause ∈ wsB := (kn_3 1 rfl rfl)
theorem S_B_pause : Cond.selects "BankScheduler" y_B_pause y_B_pause ∈ wsB := (kn_3 2 rfl rfl)
abbrev rm_B_pause : Room := { frames := 6, cells := 0, slots := 0, locals := 90 }
theorem Y_B_hasRow : kb_Y wsB y_B_hasRow c_B_hasRow 1 (some .boolean) 1 := ⟨kn_g, (kn_1 181 rfl rfl), (kn_1 1 rfl rfl), by decide, by decide, by decide⟩
theorem T_B_hasRow : Cond.static y_B_hasRow ∈ wsB := (kn_1 180 rfl rfl)
abbrev rm_B_hasRow : Room := { frames := 0, cells := 0, slots := 0, locals := 0 }
theorem Y_B_isRow : kb_Y wsB y_B_isRow c_B_isRow 1 (some .boolean) 1 := ⟨kn_g, (kn_2 133 rfl rfl), (kn_1 1 rfl rfl), by decide, by decide, by decide⟩
theorem T_B_isRow : Cond.static y_B_isRow ∈ wsB := (kn_2 132 rfl rfl)
abbrev rm_B_isRow : Room := { frames := 0, cells := 0, slots := 0, locals := 0 }
theorem Y_B_wordPlace : kb_Y wsB y_B_wordPlace c_B_wordPlace 3 (some .int) 3 := ⟨kn_g, (kn_2 146 rfl rfl), (kn_1 1 rfl rfl), by decide, by decide, by decide⟩
theorem T_B_wordPlace : Cond.static y_B_wordPlace ∈ wsB := (kn_2 145 rfl rfl)
abbrev rm_B_wordPlace : Room := { frames := 0, cells := 0, slots := 0, locals := 0 }
theorem Y_B_refuseNoWord : kb_Y wsB y_B_refuseNoWord c_B_refuseNoWord 4 none 3 := ⟨kn_g, (kn_2 126 rfl rfl), (kn_1 1 rfl rfl), by decide, by decide, by decide⟩
theorem I_B_refuseNoWord : Cond.instanceMethod y_B_refuseNoWord ∈ wsB := (kn_2 125 rfl rfl)
theorem S_B_refuseNoWord : Cond.selects "BankScheduler" y_B_refuseNoWord y_B_refuseNoWord ∈ wsB := kn_s 17 rfl rfl
abbrev rm_B_refuseNoWord : Room := { frames := 6, cells := 0, slots := 0, locals := 90 }
theorem Y_B_refuseFullQueue : kb_Y wsB y_B_refuseFullQueue c_B_refuseFullQueue 1 none 0 := ⟨kn_g, (kn_2 138 rfl rfl), (kn_1 1 rfl rfl), by decide, by decide, by decide⟩
theorem I_B_refuseFullQueue : Cond.instanceMethod y_B_refuseFullQueue ∈ wsB := (kn_2 137 rfl rfl)
theorem S_B_refuseFullQueue : Cond.selects "BankScheduler" y_B_refuseFullQueue y_B_refuseFullQueue ∈ wsB := kn_s 18 rfl rfl
abbrev rm_B_refuseFullQueue : Room := { frames := 6, cells := 0, slots := 0, locals := 90 }
theorem Y_B_isKept : kb_Y wsB y_B_isKept c_B_isKept 2 (some .boolean) 1 := ⟨kn_g, (kn_1 237 rfl rfl), (kn_1 1 rfl rfl), by decide, by decide, by decide⟩
theorem I_B_isKept : Cond.instanceMethod y_B_isKept ∈ wsB := (kn_1 236 rfl rfl)
theorem S_B_isKept : Cond.selects "BankScheduler" y_B_isKept y_B_isKept ∈ wsB := kn_s 15 rfl rfl
abbrev rm_B_isKept : Room := { frames := 0, cells := 0, slots := 0, locals := 0 }
theorem Y_B_enqueue : kb_Y wsB y_B_enqueue c_B_enqueue 7 (some .int) 5 := ⟨kn_g, (kn_2 143 rfl rfl), (kn_1 1 rfl rfl), by decide, by decide, by decide⟩
theorem I_B_enqueue : Cond.instanceMethod y_B_enqueue ∈ wsB := (kn_2 142 rfl rfl)
theorem S_B_enqueue : Cond.selects "BankScheduler" y_B_enqueue y_B_enqueue ∈ wsB := kn_s 19 rfl rfl
abbrev rm_B_enqueue : Room := { frames := 1, cells := 0, slots := 0, locals := 22 }
theorem Y_B_giveFirst : kb_Y wsB y_B_giveFirst c_B_giveFirst 3 (some .int) 0 := ⟨kn_g, (kn_1 154 rfl rfl), (kn_1 1 rfl rfl), by decide, by decide, by decide⟩
theorem I_B_giveFirst : Cond.instanceMethod y_B_giveFirst ∈ wsB := (kn_1 153 rfl rfl)
theorem S_B_giveFirst : Cond.selects "BankScheduler" y_B_giveFirst y_B_giveFirst ∈ wsB := kn_s 0 rfl rfl
abbrev rm_B_giveFirst : Room := { frames := 4, cells := 0, slots := 0, locals := 89 }
theorem Y_B_refreshIsDue : kb_Y wsB y_B_refreshIsDue c_B_refreshIsDue 2 (some .boolean) 0 := ⟨kn_g, (kn_1 158 rfl rfl), (kn_1 1 rfl rfl), by decide, by decide, by decide⟩
theorem I_B_refreshIsDue : Cond.instanceMethod y_B_refreshIsDue ∈ wsB := (kn_1 157 rfl rfl)
theorem S_B_refreshIsDue : Cond.selects "BankScheduler" y_B_refreshIsDue y_B_refreshIsDue ∈ wsB := kn_s 1 rfl rfl
abbrev rm_B_refreshIsDue : Room := { frames := 0, cells := 0, slots := 0, locals := 0 }
theorem Y_B_giveRefreshing : kb_Y wsB y_B_giveRefreshing c_B_giveRefreshing 2 (some .int) 0 := ⟨kn_g, (kn_1 162 rfl rfl), (kn_1 1 rfl rfl), by decide, by decide, by decide⟩
theorem I_B_giveRefreshing : Cond.instanceMethod y_B_giveRefreshing ∈ wsB := (kn_1 161 rfl rfl)
theorem S_B_giveRefreshing : Cond.selects "BankScheduler" y_B_giveRefreshing y_B_giveRefreshing ∈ wsB := kn_s 2 rfl rfl
abbrev rm_B_giveRefreshing : Room := { frames := 2, cells := 0, slots := 0, locals := 47 }
theorem Y_B_countLookedAt : kb_Y wsB y_B_countLookedAt c_B_countLookedAt 1 (some .int) 0 := ⟨kn_g, (kn_1 189 rfl rfl), (kn_1 1 rfl rfl), by decide, by decide, by decide⟩
theorem I_B_countLookedAt : Cond.instanceMethod y_B_countLookedAt ∈ wsB := (kn_1 188 rfl rfl)
theorem S_B_countLookedAt : Cond.selects "BankScheduler" y_B_countLookedAt y_B_countLookedAt ∈ wsB := kn_s 5 rfl rfl
abbrev rm_B_countLookedAt : Room := { frames := 1, cells := 0, slots := 0, locals := 21 }
theorem Y_B_hasWaitedLong : kb_Y wsB y_B_hasWaitedLong c_B_hasWaitedLong 2 (some .boolean) 1 := ⟨kn_g, (kn_1 193 rfl rfl), (kn_1 1 rfl rfl), by decide, by decide, by decide⟩
theorem I_B_hasWaitedLong : Cond.instanceMethod y_B_hasWaitedLong ∈ wsB := (kn_1 192 rfl rfl)
theorem S_B_hasWaitedLong : Cond.selects "BankScheduler" y_B_hasWaitedLong y_B_hasWaitedLong ∈ wsB := kn_s 6 rfl rfl
abbrev rm_B_hasWaitedLong : Room := { frames := 0, cells := 0, slots := 0, locals := 0 }
theorem Y_B_findHit : kb_Y wsB y_B_findHit c_B_findHit 4 (some .int) 1 := ⟨kn_g, (kn_1 197 rfl rfl), (kn_1 1 rfl rfl), by decide, by decide, by decide⟩
theorem I_B_findHit : Cond.instanceMethod y_B_findHit ∈ wsB := (kn_1 196 rfl rfl)
theorem S_B_findHit : Cond.selects "BankScheduler" y_B_findHit y_B_findHit ∈ wsB := kn_s 7 rfl rfl
abbrev rm_B_findHit : Room := { frames := 2, cells := 0, slots := 0, locals := 44 }
theorem Y_B_hasOlderForWord : kb_Y wsB y_B_hasOlderForWord c_B_hasOlderForWord 3 (some .boolean) 1 := ⟨kn_g, (kn_1 205 rfl rfl), (kn_1 1 rfl rfl), by decide, by decide, by decide⟩
theorem I_B_hasOlderForWord : Cond.instanceMethod y_B_hasOlderForWord ∈ wsB := (kn_1 204 rfl rfl)
theorem S_B_hasOlderForWord : Cond.selects "BankScheduler" y_B_hasOlderForWord y_B_hasOlderForWord ∈ wsB := kn_s 8 rfl rfl
abbrev rm_B_hasOlderForWord : Room := { frames := 0, cells := 0, slots := 0, locals := 0 }
theorem Y_B_giveHit : kb_Y wsB y_B_giveHit c_B_giveHit 4 (some .int) 1 := ⟨kn_g, (kn_1 229 rfl rfl), (kn_1 1 rfl rfl), by decide, by decide, by decide⟩
theorem I_B_giveHit : Cond.instanceMethod y_B_giveHit ∈ wsB := (kn_1 228 rfl rfl)
theorem S_B_giveHit : Cond.selects "BankScheduler" y_B_giveHit y_B_giveHit ∈ wsB := kn_s 13 rfl rfl
abbrev rm_B_giveHit : Room := { frames := 2, cells := 0, slots := 0, locals := 47 }
theorem Y_B_dequeue : kb_Y wsB y_B_dequeue c_B_dequeue 4 none 1 := ⟨kn_g, (kn_1 233 rfl rfl), (kn_1 1 rfl rfl), by decide, by decide, by decide⟩
theorem I_B_dequeue : Cond.instanceMethod y_B_dequeue ∈ wsB := (kn_1 232 rfl rfl)
theorem S_B_dequeue : Cond.selects "BankScheduler" y_B_dequeue y_B_dequeue ∈ wsB := kn_s 14 rfl rfl
abbrev rm_B_dequeue : Room := { frames := 0, cells := 0, slots := 0, locals := 0 }
theorem Y_B_giveWay : kb_Y wsB y_B_giveWay c_B_giveWay 5 (some .int) 1 := ⟨kn_g, (kn_1 209 rfl rfl), (kn_1 1 rfl rfl), by decide, by decide, by decide⟩
theorem I_B_giveWay : Cond.instanceMethod y_B_giveWay ∈ wsB := (kn_1 208 rfl rfl)
theorem S_B_giveWay : Cond.selects "BankScheduler" y_B_giveWay y_B_giveWay ∈ wsB := kn_s 9 rfl rfl
abbrev rm_B_giveWay : Room := { frames := 3, cells := 0, slots := 0, locals := 65 }
theorem Y_B_hasOlderForBank : kb_Y wsB y_B_hasOlderForBank c_B_hasOlderForBank 3 (some .boolean) 1 := ⟨kn_g, (kn_1 213 rfl rfl), (kn_1 1 rfl rfl), by decide, by decide, by decide⟩
theorem I_B_hasOlderForBank : Cond.instanceMethod y_B_hasOlderForBank ∈ wsB := (kn_1 212 rfl rfl)
theorem S_B_hasOlderForBank : Cond.selects "BankScheduler" y_B_hasOlderForBank y_B_hasOlderForBank ∈ wsB := kn_s 10 rfl rfl
abbrev rm_B_hasOlderForBank : Room := { frames := 0, cells := 0, slots := 0, locals := 0 }
theorem Y_B_isWanted : kb_Y wsB y_B_isWanted c_B_isWanted 5 (some .boolean) 3 := ⟨kn_g, (kn_1 225 rfl rfl), (kn_1 1 rfl rfl), by decide, by decide, by decide⟩
theorem I_B_isWanted : Cond.instanceMethod y_B_isWanted ∈ wsB := (kn_1 224 rfl rfl)
theorem S_B_isWanted : Cond.selects "BankScheduler" y_B_isWanted y_B_isWanted ∈ wsB := kn_s 12 rfl rfl
abbrev rm_B_isWanted : Room := { frames := 0, cells := 0, slots := 0, locals := 0 }
theorem Y_B_giveCommand : kb_Y wsB y_B_giveCommand c_B_giveCommand 5 (some .int) 3 := ⟨kn_g, (kn_1 174 rfl rfl), (kn_1 1 rfl rfl), by decide, by decide, by decide⟩
theorem I_B_giveCommand : Cond.instanceMethod y_B_giveCommand ∈ wsB := (kn_1 173 rfl rfl)
theorem S_B_giveCommand : Cond.selects "BankScheduler" y_B_giveCommand y_B_giveCommand ∈ wsB := kn_s 4 rfl rfl
abbrev rm_B_giveCommand : Room := { frames := 1, cells := 0, slots := 0, locals := 23 }
theorem Y_M_thrown : kb_Y wsB y_M_thrown c_M_thrown 1 (some .int) 0 := ⟨kn_g, (kn_3 97 rfl rfl), (kn_1 5 rfl rfl), by decide, by decide, by decide⟩
theorem I_M_thrown : Cond.instanceMethod y_M_thrown ∈ wsB := (kn_3 95 rfl rfl)
theorem S_M_thrown : Cond.selects "BankSchedulerModel" y_M_thrown y_M_thrown ∈ wsB := (kn_3 96 rfl rfl)
abbrev rm_M_thrown : Room := { frames := 0, cells := 0, slots := 0, locals := 0 }
theorem Y_M_time : kb_Y wsB y_M_time c_M_time 6 (some .int) 2 := ⟨kn_g, (kn_3 101 rfl rfl), (kn_1 5 rfl rfl), by decide, by decide, by decide⟩
theorem I_M_time : Cond.instanceMethod y_M_time ∈ wsB := (kn_3 99 rfl rfl)
theorem S_M_time : Cond.selects "BankSchedulerModel" y_M_time y_M_time ∈ wsB := (kn_3 100 rfl rfl)
abbrev rm_M_time : Room := { frames := 0, cells := 0, slots := 0, locals := 0 }
theorem Y_M_early : kb_Y wsB y_M_early c_M_early 4 (some .boolean) 3 := ⟨kn_g, (kn_3 144 rfl rfl), (kn_1 5 rfl rfl), by decide, by decide, by decide⟩
theorem I_M_early : Cond.instanceMethod y_M_early ∈ wsB := (kn_3 143 rfl rfl)
theorem S_M_early : Cond.selects "BankSchedulerModel" y_M_early y_M_early ∈ wsB := kn_s 26 rfl rfl
abbrev rm_M_early : Room := { frames := 0, cells := 0, slots := 0, locals := 0 }
theorem Y_M_brokenOpen : kb_Y wsB y_M_brokenOpen c_M_brokenOpen 7 (some .int) 2 := ⟨kn_g, (kn_3 184 rfl rfl), (kn_1 5 rfl rfl), by decide, by decide, by decide⟩
theorem I_M_brokenOpen : Cond.instanceMethod y_M_brokenOpen ∈ wsB := (kn_3 183 rfl rfl)
theorem S_M_brokenOpen : Cond.selects "BankSchedulerModel" y_M_brokenOpen y_M_brokenOpen ∈ wsB := kn_s 36 rfl rfl
abbrev rm_M_brokenOpen : Room := { frames := 1, cells := 0, slots := 0, locals := 23 }
theorem Y_M_brokenClose : kb_Y wsB y_M_brokenClose c_M_brokenClose 4 (some .int) 2 := ⟨kn_g, (kn_3 156 rfl rfl), (kn_1 5 rfl rfl), by decide, by decide, by decide⟩
theorem I_M_brokenClose : Cond.instanceMethod y_M_brokenClose ∈ wsB := (kn_3 155 rfl rfl)
theorem S_M_brokenClose : Cond.selects "BankSchedulerModel" y_M_brokenClose y_M_brokenClose ∈ wsB := kn_s 29 rfl rfl
abbrev rm_M_brokenClose : Room := { frames := 1, cells := 0, slots := 0, locals := 23 }
theorem Y_M_brokenUse : kb_Y wsB y_M_brokenUse c_M_brokenUse 7 (some .int) 3 := ⟨kn_g, (kn_3 168 rfl rfl), (kn_1 5 rfl rfl), by decide, by decide, by decide⟩
theorem I_M_brokenUse : Cond.instanceMethod y_M_brokenUse ∈ wsB := (kn_3 167 rfl rfl)
theorem S_M_brokenUse : Cond.selects "BankSchedulerModel" y_M_brokenUse y_M_brokenUse ∈ wsB := kn_s 32 rfl rfl
abbrev rm_M_brokenUse : Room := { frames := 1, cells := 0, slots := 0, locals := 23 }
theorem Y_M_brokenRefresh : kb_Y wsB y_M_brokenRefresh c_M_brokenRefresh 5 (some .int) 1 := ⟨kn_g, (kn_3 140 rfl rfl), (kn_1 5 rfl rfl), by decide, by decide, by decide⟩
theorem I_M_brokenRefresh : Cond.instanceMethod y_M_brokenRefresh ∈ wsB := (kn_3 139 rfl rfl)
theorem S_M_brokenRefresh : Cond.selects "BankSchedulerModel" y_M_brokenRefresh y_M_brokenRefresh ∈ wsB := kn_s 25 rfl rfl
abbrev rm_M_brokenRefresh : Room := { frames := 1, cells := 0, slots := 0, locals := 23 }
theorem Y_M_broken : kb_Y wsB y_M_broken c_M_broken 5 (some .int) 4 := ⟨kn_g, (kn_3 216 rfl rfl), (kn_1 5 rfl rfl), by decide, by decide, by decide⟩
theorem I_M_broken : Cond.instanceMethod y_M_broken ∈ wsB := (kn_3 215 rfl rfl)
theorem S_M_broken : Cond.selects "BankSchedulerModel" y_M_broken y_M_broken ∈ wsB := kn_s 37 rfl rfl
abbrev rm_M_broken : Room := { frames := 2, cells := 0, slots := 0, locals := 49 }
theorem Y_M_give : kb_Y wsB y_M_give c_M_give 8 none 4 := ⟨kn_g, (kn_3 152 rfl rfl), (kn_1 5 rfl rfl), by decide, by decide, by decide⟩
theorem I_M_give : Cond.instanceMethod y_M_give ∈ wsB := (kn_3 151 rfl rfl)
theorem S_M_give : Cond.selects "BankSchedulerModel" y_M_give y_M_give ∈ wsB := kn_s 28 rfl rfl
abbrev rm_M_give : Room := { frames := 0, cells := 0, slots := 0, locals := 0 }
theorem Y_M_isBank : kb_Y wsB y_M_isBank c_M_isBank 2 (some .boolean) 1 := ⟨kn_g, (kn_3 117 rfl rfl), (kn_1 5 rfl rfl), by decide, by decide, by decide⟩
theorem I_M_isBank : Cond.instanceMethod y_M_isBank ∈ wsB := (kn_3 116 rfl rfl)
theorem S_M_isBank : Cond.selects "BankSchedulerModel" y_M_isBank y_M_isBank ∈ wsB := kn_s 22 rfl rfl
abbrev rm_M_isBank : Room := { frames := 0, cells := 0, slots := 0, locals := 0 }
theorem Y_M_isRow : kb_Y wsB y_M_isRow c_M_isRow 1 (some .boolean) 1 := ⟨kn_g, (kn_3 120 rfl rfl), (kn_1 5 rfl rfl), by decide, by decide, by decide⟩
theorem T_M_isRow : Cond.static y_M_isRow ∈ wsB := (kn_3 119 rfl rfl)
abbrev rm_M_isRow : Room := { frames := 0, cells := 0, slots := 0, locals := 0 }
theorem Y_M_isWord : kb_Y wsB y_M_isWord c_M_isWord 4 (some .boolean) 3 := ⟨kn_g, (kn_3 113 rfl rfl), (kn_1 5 rfl rfl), by decide, by decide, by decide⟩
theorem I_M_isWord : Cond.instanceMethod y_M_isWord ∈ wsB := (kn_3 112 rfl rfl)
theorem S_M_isWord : Cond.selects "BankSchedulerModel" y_M_isWord y_M_isWord ∈ wsB := kn_s 21 rfl rfl
abbrev rm_M_isWord : Room := { frames := 1, cells := 0, slots := 0, locals := 21 }
theorem Y_M_request : kb_Y wsB y_M_request c_M_request 6 (some .int) 5 := ⟨kn_g, (kn_3 109 rfl rfl), (kn_1 5 rfl rfl), by decide, by decide, by decide⟩
theorem I_M_request : Cond.instanceMethod y_M_request ∈ wsB := (kn_3 108 rfl rfl)
theorem S_M_request : Cond.selects "BankSchedulerModel" y_M_request y_M_request ∈ wsB := kn_s 20 rfl rfl
abbrev rm_M_request : Room := { frames := 2, cells := 0, slots := 0, locals := 44 }
theorem Y_M_read : kb_Y wsB y_M_read c_M_read 4 (some .int) 3 := ⟨kn_g, (kn_3 105 rfl rfl), (kn_1 5 rfl rfl), by decide, by decide, by decide⟩
theorem I_M_read : Cond.instanceMethod y_M_read ∈ wsB := (kn_3 103 rfl rfl)
theorem S_M_read : Cond.selects "BankSchedulerModel" y_M_read y_M_read ∈ wsB := (kn_3 104 rfl rfl)
abbrev rm_M_read : Room := { frames := 3, cells := 0, slots := 0, locals := 69 }
theorem Y_M_write : kb_Y wsB y_M_write c_M_write 5 (some .int) 4 := ⟨kn_g, (kn_3 124 rfl rfl), (kn_1 5 rfl rfl), by decide, by decide, by decide⟩
theorem I_M_write : Cond.instanceMethod y_M_write ∈ wsB := (kn_3 122 rfl rfl)
theorem S_M_write : Cond.selects "BankSchedulerModel" y_M_write y_M_write ∈ wsB := (kn_3 123 rfl rfl)
abbrev rm_M_write : Room := { frames := 3, cells := 0, slots := 0, locals := 69 }
theorem Y_M_serve : kb_Y wsB y_M_serve c_M_serve 5 none 1 := ⟨kn_g, (kn_3 172 rfl rfl), (kn_1 5 rfl rfl), by decide, by decide, by decide⟩
theorem I_M_serve : Cond.instanceMethod y_M_serve ∈ wsB := (kn_3 171 rfl rfl)
theorem S_M_serve : Cond.selects "BankSchedulerModel" y_M_serve y_M_serve ∈ wsB := kn_s 33 rfl rfl
abbrev rm_M_serve : Room := { frames := 0, cells := 0, slots := 0, locals := 0 }
theorem Y_M_told : kb_Y wsB y_M_told c_M_told 4 (some .int) 3 := ⟨kn_g, (kn_3 148 rfl rfl), (kn_1 5 rfl rfl), by decide, by decide, by decide⟩
theorem I_M_told : Cond.instanceMethod y_M_told ∈ wsB := (kn_3 147 rfl rfl)
theorem S_M_told : Cond.selects "BankSchedulerModel" y_M_told y_M_told ∈ wsB := kn_s 27 rfl rfl
abbrev rm_M_told : Room := { frames := 1, cells := 0, slots := 0, locals := 27 }
theorem Y_M_refreshing : kb_Y wsB y_M_refreshing c_M_refreshing 2 (some .int) 0 := ⟨kn_g, (kn_3 136 rfl rfl), (kn_1 5 rfl rfl), by decide, by decide, by decide⟩
theorem I_M_refreshing : Cond.instanceMethod y_M_refreshing ∈ wsB := (kn_3 135 rfl rfl)
theorem S_M_refreshing : Cond.selects "BankSchedulerModel" y_M_refreshing y_M_refreshing ∈ wsB := kn_s 24 rfl rfl
abbrev rm_M_refreshing : Room := { frames := 2, cells := 0, slots := 0, locals := 50 }
theorem Y_M_hasElder : kb_Y wsB y_M_hasElder c_M_hasElder 4 (some .boolean) 1 := ⟨kn_g, (kn_3 164 rfl rfl), (kn_1 5 rfl rfl), by decide, by decide, by decide⟩
theorem I_M_hasElder : Cond.instanceMethod y_M_hasElder ∈ wsB := (kn_3 163 rfl rfl)
theorem S_M_hasElder : Cond.selects "BankSchedulerModel" y_M_hasElder y_M_hasElder ∈ wsB := kn_s 31 rfl rfl
abbrev rm_M_hasElder : Room := { frames := 0, cells := 0, slots := 0, locals := 0 }
theorem Y_M_hit : kb_Y wsB y_M_hit c_M_hit 6 (some .int) 1 := ⟨kn_g, (kn_3 160 rfl rfl), (kn_1 5 rfl rfl), by decide, by decide, by decide⟩
theorem I_M_hit : Cond.instanceMethod y_M_hit ∈ wsB := (kn_3 159 rfl rfl)
theorem S_M_hit : Cond.selects "BankSchedulerModel" y_M_hit y_M_hit ∈ wsB := kn_s 30 rfl rfl
abbrev rm_M_hit : Room := { frames := 2, cells := 0, slots := 0, locals := 50 }
theorem Y_M_asks : kb_Y wsB y_M_asks c_M_asks 6 (some .boolean) 3 := ⟨kn_g, (kn_3 180 rfl rfl), (kn_1 5 rfl rfl), by decide, by decide, by decide⟩
theorem I_M_asks : Cond.instanceMethod y_M_asks ∈ wsB := (kn_3 179 rfl rfl)
theorem S_M_asks : Cond.selects "BankSchedulerModel" y_M_asks y_M_asks ∈ wsB := kn_s 35 rfl rfl
abbrev rm_M_asks : Room := { frames := 0, cells := 0, slots := 0, locals := 0 }
theorem Y_M_way : kb_Y wsB y_M_way c_M_way 6 (some .int) 1 := ⟨kn_g, (kn_3 176 rfl rfl), (kn_1 5 rfl rfl), by decide, by decide, by decide⟩
theorem I_M_way : Cond.instanceMethod y_M_way ∈ wsB := (kn_3 175 rfl rfl)
theorem S_M_way : Cond.selects "BankSchedulerModel" y_M_way y_M_way ∈ wsB := kn_s 34 rfl rfl
abbrev rm_M_way : Room := { frames := 2, cells := 0, slots := 0, locals := 50 }
theorem Y_M_cycle : kb_Y wsB y_M_cycle c_M_cycle 4 (some .int) 0 := ⟨kn_g, (kn_3 132 rfl rfl), (kn_1 5 rfl rfl), by decide, by decide, by decide⟩
theorem I_M_cycle : Cond.instanceMethod y_M_cycle ∈ wsB := (kn_3 131 rfl rfl)
theorem S_M_cycle : Cond.selects "BankSchedulerModel" y_M_cycle y_M_cycle ∈ wsB := kn_s 23 rfl rfl
abbrev rm_M_cycle : Room := { frames := 3, cells := 0, slots := 0, locals := 75 }
theorem Y_M_tick : kb_Y wsB y_M_tick c_M_tick 1 (some .int) 0 := ⟨kn_g, (kn_3 128 rfl rfl), (kn_1 5 rfl rfl), by decide, by decide, by decide⟩
theorem I_M_tick : Cond.instanceMethod y_M_tick ∈ wsB := (kn_3 126 rfl rfl)
theorem S_M_tick : Cond.selects "BankSchedulerModel" y_M_tick y_M_tick ∈ wsB := (kn_3 127 rfl rfl)
abbrev rm_M_tick : Room := { frames := 4, cells := 0, slots := 0, locals := 98 }
theorem Y_M_run : kb_Y wsB y_M_run c_M_run 5 (some .int) 1 := ⟨kn_g, (kn_3 188 rfl rfl), (kn_1 5 rfl rfl), by decide, by decide, by decide⟩
theorem I_M_run : Cond.instanceMethod y_M_run ∈ wsB := (kn_3 186 rfl rfl)
theorem S_M_run : Cond.selects "BankSchedulerModel" y_M_run y_M_run ∈ wsB := (kn_3 187 rfl rfl)
abbrev rm_M_run : Room := { frames := 4, cells := 0, slots := 0, locals := 98 }
theorem Y_M_result : kb_Y wsB y_M_result c_M_result 3 (some .int) 1 := ⟨kn_g, (kn_3 192 rfl rfl), (kn_1 5 rfl rfl), by decide, by decide, by decide⟩
theorem I_M_result : Cond.instanceMethod y_M_result ∈ wsB := (kn_3 190 rfl rfl)
theorem S_M_result : Cond.selects "BankSchedulerModel" y_M_result y_M_result ∈ wsB := (kn_3 191 rfl rfl)
abbrev rm_M_result : Room := { frames := 0, cells := 0, slots := 0, locals := 0 }
theorem Y_M_word : kb_Y wsB y_M_word c_M_word 4 (some .int) 3 := ⟨kn_g, (kn_3 196 rfl rfl), (kn_1 5 rfl rfl), by decide, by decide, by decide⟩
theorem I_M_word : Cond.instanceMethod y_M_word ∈ wsB := (kn_3 194 rfl rfl)
theorem S_M_word : Cond.selects "BankSchedulerModel" y_M_word y_M_word ∈ wsB := (kn_3 195 rfl rfl)
abbrev rm_M_word : Room := { frames := 2, cells := 0, slots := 0, locals := 44 }
theorem Y_M_open : kb_Y wsB y_M_open c_M_open 2 (some .int) 1 := ⟨kn_g, (kn_3 200 rfl rfl), (kn_1 5 rfl rfl), by decide, by decide, by decide⟩
theorem I_M_open : Cond.instanceMethod y_M_open ∈ wsB := (kn_3 198 rfl rfl)
theorem S_M_open : Cond.selects "BankSchedulerModel" y_M_open y_M_open ∈ wsB := (kn_3 199 rfl rfl)
abbrev rm_M_open : Room := { frames := 1, cells := 0, slots := 0, locals := 21 }
theorem Y_M_waiting : kb_Y wsB y_M_waiting c_M_waiting 2 (some .int) 1 := ⟨kn_g, (kn_3 204 rfl rfl), (kn_1 5 rfl rfl), by decide, by decide, by decide⟩
theorem I_M_waiting : Cond.instanceMethod y_M_waiting ∈ wsB := (kn_3 202 rfl rfl)
theorem S_M_waiting : Cond.selects "BankSchedulerModel" y_M_waiting y_M_waiting ∈ wsB := (kn_3 203 rfl rfl)
abbrev rm_M_waiting : Room := { frames := 0, cells := 0, slots := 0, locals := 0 }
theorem Y_M_figure : kb_Y wsB y_M_figure c_M_figure 2 (some .int) 1 := ⟨kn_g, (kn_3 208 rfl rfl), (kn_1 5 rfl rfl), by decide, by decide, by decide⟩
theorem I_M_figure : Cond.instanceMethod y_M_figure ∈ wsB := (kn_3 206 rfl rfl)
theorem S_M_figure : Cond.selects "BankSchedulerModel" y_M_figure y_M_figure ∈ wsB := (kn_3 207 rfl rfl)
abbrev rm_M_figure : Room := { frames := 0, cells := 0, slots := 0, locals := 0 }
theorem Y_M_check : kb_Y wsB y_M_check c_M_check 6 (some .int) 3 := ⟨kn_g, (kn_3 212 rfl rfl), (kn_1 5 rfl rfl), by decide, by decide, by decide⟩
theorem I_M_check : Cond.instanceMethod y_M_check ∈ wsB := (kn_3 210 rfl rfl)
theorem S_M_check : Cond.selects "BankSchedulerModel" y_M_check y_M_check ∈ wsB := (kn_3 211 rfl rfl)
abbrev rm_M_check : Room := { frames := 3, cells := 0, slots := 0, locals := 73 }
theorem Y_M_pause : kb_Y wsB y_M_pause c_M_pause 2 (some .int) 1 := ⟨kn_g, (kn_3 220 rfl rfl), (kn_1 5 rfl rfl), by decide, by decide, by decide⟩
theorem I_M_pause : Cond.instanceMethod y_M_pause ∈ wsB := (kn_3 218 rfl rfl)
theorem S_M_pause : Cond.selects "BankSchedulerModel" y_M_pause y_M_pause ∈ wsB := (kn_3 219 rfl rfl)
abbrev rm_M_pause : Room := { frames := 0, cells := 0, slots := 0, locals := 0 }
theorem Y_C_hasBank : kb_Y wsB y_C_hasBank c_C_hasBank 2 (some .boolean) 1 := ⟨kn_g, (kn_2 130 rfl rfl), (kn_1 3 rfl rfl), by decide, by decide, by decide⟩
theorem I_C_hasBank : Cond.instanceMethod y_C_hasBank ∈ wsB := (kn_2 128 rfl rfl)
theorem S_C_hasBank : Cond.selects "BankScheduler$Channel" y_C_hasBank y_C_hasBank ∈ wsB := (kn_2 129 rfl rfl)
abbrev rm_C_hasBank : Room := { frames := 0, cells := 0, slots := 0, locals := 0 }
theorem Y_C_firstBroken : kb_Y wsB y_C_firstBroken c_C_firstBroken 4 (some .int) 3 := ⟨kn_g, (kn_2 232 rfl rfl), (kn_1 3 rfl rfl), by decide, by decide, by decide⟩
theorem I_C_firstBroken : Cond.instanceMethod y_C_firstBroken ∈ wsB := (kn_2 230 rfl rfl)
theorem S_C_firstBroken : Cond.selects "BankScheduler$Channel" y_C_firstBroken y_C_firstBroken ∈ wsB := (kn_2 231 rfl rfl)
abbrev rm_C_firstBroken : Room := { frames := 3, cells := 0, slots := 0, locals := 65 }
theorem Y_C_brokenByOpen : kb_Y wsB y_C_brokenByOpen c_C_brokenByOpen 2 (some .int) 1 := ⟨kn_g, (kn_1 217 rfl rfl), (kn_1 3 rfl rfl), by decide, by decide, by decide⟩
theorem I_C_brokenByOpen : Cond.instanceMethod y_C_brokenByOpen ∈ wsB := (kn_1 215 rfl rfl)
theorem S_C_brokenByOpen : Cond.selects "BankScheduler$Channel" y_C_brokenByOpen y_C_brokenByOpen ∈ wsB := (kn_1 216 rfl rfl)
abbrev rm_C_brokenByOpen : Room := { frames := 2, cells := 0, slots := 0, locals := 44 }
theorem Y_C_brokenByClose : kb_Y wsB y_C_brokenByClose c_C_brokenByClose 2 (some .int) 1 := ⟨kn_g, (kn_1 185 rfl rfl), (kn_1 3 rfl rfl), by decide, by decide, by decide⟩
theorem I_C_brokenByClose : Cond.instanceMethod y_C_brokenByClose ∈ wsB := (kn_1 183 rfl rfl)
theorem S_C_brokenByClose : Cond.selects "BankScheduler$Channel" y_C_brokenByClose y_C_brokenByClose ∈ wsB := (kn_1 184 rfl rfl)
abbrev rm_C_brokenByClose : Room := { frames := 1, cells := 0, slots := 0, locals := 22 }
theorem Y_C_brokenByAccess : kb_Y wsB y_C_brokenByAccess c_C_brokenByAccess 3 (some .int) 2 := ⟨kn_g, (kn_1 201 rfl rfl), (kn_1 3 rfl rfl), by decide, by decide, by decide⟩
theorem I_C_brokenByAccess : Cond.instanceMethod y_C_brokenByAccess ∈ wsB := (kn_1 199 rfl rfl)
theorem S_C_brokenByAccess : Cond.selects "BankScheduler$Channel" y_C_brokenByAccess y_C_brokenByAccess ∈ wsB := (kn_1 200 rfl rfl)
abbrev rm_C_brokenByAccess : Room := { frames := 1, cells := 0, slots := 0, locals := 22 }
theorem Y_C_brokenByRefresh : kb_Y wsB y_C_brokenByRefresh c_C_brokenByRefresh 2 (some .int) 0 := ⟨kn_g, (kn_1 166 rfl rfl), (kn_1 3 rfl rfl), by decide, by decide, by decide⟩
theorem I_C_brokenByRefresh : Cond.instanceMethod y_C_brokenByRefresh ∈ wsB := (kn_1 164 rfl rfl)
theorem S_C_brokenByRefresh : Cond.selects "BankScheduler$Channel" y_C_brokenByRefresh y_C_brokenByRefresh ∈ wsB := (kn_1 165 rfl rfl)
abbrev rm_C_brokenByRefresh : Room := { frames := 1, cells := 0, slots := 0, locals := 22 }
theorem Y_C_give : kb_Y wsB y_C_give c_C_give 4 none 3 := ⟨kn_g, (kn_1 178 rfl rfl), (kn_1 3 rfl rfl), by decide, by decide, by decide⟩
theorem I_C_give : Cond.instanceMethod y_C_give ∈ wsB := (kn_1 176 rfl rfl)
theorem S_C_give : Cond.selects "BankScheduler$Channel" y_C_give y_C_give ∈ wsB := (kn_1 177 rfl rfl)
abbrev rm_C_give : Room := { frames := 0, cells := 0, slots := 0, locals := 0 }
theorem Y_C_isTooSoonForOthers : kb_Y wsB y_C_isTooSoonForOthers c_C_isTooSoonForOthers 3 (some .boolean) 1 := ⟨kn_g, (kn_1 221 rfl rfl), (kn_1 3 rfl rfl), by decide, by decide, by decide⟩
theorem I_C_isTooSoonForOthers : Cond.instanceMethod y_C_isTooSoonForOthers ∈ wsB := (kn_1 220 rfl rfl)
theorem S_C_isTooSoonForOthers : Cond.selects "BankScheduler$Channel" y_C_isTooSoonForOthers y_C_isTooSoonForOthers ∈ wsB := kn_s 11 rfl rfl
abbrev rm_C_isTooSoonForOthers : Room := { frames := 1, cells := 0, slots := 0, locals := 22 }
theorem Y_C_isTooSoon : kb_Y wsB y_C_isTooSoon c_C_isTooSoon 3 (some .boolean) 2 := ⟨kn_g, (kn_1 170 rfl rfl), (kn_1 3 rfl rfl), by decide, by decide, by decide⟩
theorem I_C_isTooSoon : Cond.instanceMethod y_C_isTooSoon ∈ wsB := (kn_1 169 rfl rfl)
theorem S_C_isTooSoon : Cond.selects "BankScheduler$Channel" y_C_isTooSoon y_C_isTooSoon ∈ wsB := kn_s 3 rfl rfl
abbrev rm_C_isTooSoon : Room := { frames := 0, cells := 0, slots := 0, locals := 0 }
theorem fB_31 : kb_F vwCl wsB "BankScheduler" 31 2 1 := ⟨(RB, TB, 11), rfl, uwTB, by decide, (kn_1 114 rfl rfl), rfl⟩
theorem fB_42 : kb_F vwCl wsB "BankScheduler" 42 2 3 := ⟨(RB, TB, 11), rfl, uwTB, by decide, (kn_1 116 rfl rfl), rfl⟩
theorem fB_80 : kb_F vwCl wsB "BankScheduler" 80 0 11 := ⟨(RC, TC, 12), rfl, uwTC, by decide, (kn_1 56 rfl rfl), rfl⟩
theorem lB_88 : Cond.methodLink "BankScheduler" 88 y_B_refuseNoWord ∈ wsB := (kn_2 123 rfl rfl)
theorem lB_92 : Cond.methodLink "BankScheduler" 92 y_B_refuseFullQueue ∈ wsB := (kn_2 135 rfl rfl)
theorem lB_95 : Cond.methodLink "BankScheduler" 95 y_B_enqueue ∈ wsB := (kn_2 140 rfl rfl)
theorem lB_99 : Cond.methodLink "BankScheduler" 99 y_B_giveFirst ∈ wsB := (kn_1 151 rfl rfl)
theorem gB_80 : kb_FP vwCl wsB "BankScheduler" 80 0 11 .int := ⟨(RC, TC, 12), tyTC, rfl, uwTC, tyTC_ok, nmTC, by decide, (kn_1 56 rfl rfl), rfl, rfl, by decide +kernel⟩
theorem lB_105 : Cond.methodLink "BankScheduler" 105 y_B_tick ∈ wsB := (kn_2 163 rfl rfl)
theorem fB_108 : kb_F vwCl wsB "BankScheduler" 108 2 7 := ⟨(RB, TB, 11), rfl, uwTB, by decide, (kn_1 120 rfl rfl), rfl⟩
theorem lB_111 : Cond.methodLink "BankScheduler" 111 y_B_isKept ∈ wsB := (kn_1 234 rfl rfl)
theorem fB_59 : kb_F vwCl wsB "BankScheduler" 59 2 10 := ⟨(RB, TB, 11), rfl, uwTB, by decide, (kn_1 123 rfl rfl), rfl⟩
theorem fB_56 : kb_F vwCl wsB "BankScheduler" 56 2 9 := ⟨(RB, TB, 11), rfl, uwTB, by decide, (kn_1 122 rfl rfl), rfl⟩
theorem fB_34 : kb_F vwCl wsB "BankScheduler" 34 2 2 := ⟨(RB, TB, 11), rfl, uwTB, by decide, (kn_1 115 rfl rfl), rfl⟩
theorem lB_122 : Cond.methodLink "BankScheduler" 122 y_B_wordPlace ∈ wsB := (kn_2 144 rfl rfl)
theorem lB_126 : Cond.methodLink "BankScheduler" 126 y_C_hasBank ∈ wsB := (kn_2 127 rfl rfl)
theorem fB_131 : kb_F vwCl wsB "BankScheduler" 131 0 1 := ⟨(RC, TC, 12), rfl, uwTC, by decide, (kn_1 44 rfl rfl), rfl⟩
theorem fB_134 : kb_F vwCl wsB "BankScheduler" 134 2 6 := ⟨(RB, TB, 11), rfl, uwTB, by decide, (kn_1 119 rfl rfl), rfl⟩
theorem fB_51 : kb_F vwCl wsB "BankScheduler" 51 2 5 := ⟨(RB, TB, 11), rfl, uwTB, by decide, (kn_1 118 rfl rfl), rfl⟩
theorem fB_139 : kb_F vwCl wsB "BankScheduler" 139 1 5 := ⟨(RReq, TR, 7), rfl, uwTR, by decide, (kn_1 96 rfl rfl), rfl⟩
theorem fB_142 : kb_F vwCl wsB "BankScheduler" 142 0 7 := ⟨(RC, TC, 12), rfl, uwTC, by decide, (kn_1 51 rfl rfl), rfl⟩
theorem fB_145 : kb_F vwCl wsB "BankScheduler" 145 2 8 := ⟨(RB, TB, 11), rfl, uwTB, by decide, (kn_1 121 rfl rfl), rfl⟩
theorem fB_148 : kb_F vwCl wsB "BankScheduler" 148 0 10 := ⟨(RC, TC, 12), rfl, uwTC, by decide, (kn_1 55 rfl rfl), rfl⟩
theorem fB_46 : kb_F vwCl wsB "BankScheduler" 46 2 4 := ⟨(RB, TB, 11), rfl, uwTB, by decide, (kn_1 117 rfl rfl), rfl⟩
theorem lB_155 : Cond.methodLink "BankScheduler" 155 y_B_hasRow ∈ wsB := (kn_1 179 rfl rfl)
theorem lB_158 : Cond.methodLink "BankScheduler" 158 y_B_isRow ∈ wsB := (kn_2 131 rfl rfl)
theorem lB_163 : Cond.methodLink "BankScheduler" 163 y_C_firstBroken ∈ wsB := (kn_2 229 rfl rfl)
theorem lB_166 : Cond.methodLink "BankScheduler" 166 y_C_give ∈ wsB := (kn_1 175 rfl rfl)
theorem gB_175 : kb_FP vwCl wsB "BankScheduler" 175 1 0 .int := ⟨(RReq, TR, 7), tyTR, rfl, uwTR, tyTR_ok, nmTR, by decide, (kn_1 91 rfl rfl), rfl, rfl, by decide +kernel⟩
theorem gB_178 : kb_FP vwCl wsB "BankScheduler" 178 1 1 .int := ⟨(RReq, TR, 7), tyTR, rfl, uwTR, tyTR_ok, nmTR, by decide, (kn_1 92 rfl rfl), rfl, rfl, by decide +kernel⟩
theorem gB_181 : kb_FP vwCl wsB "BankScheduler" 181 1 2 .int := ⟨(RReq, TR, 7), tyTR, rfl, uwTR, tyTR_ok, nmTR, by decide, (kn_1 93 rfl rfl), rfl, rfl, by decide +kernel⟩
theorem gB_184 : kb_FP vwCl wsB "BankScheduler" 184 1 3 .int := ⟨(RReq, TR, 7), tyTR, rfl, uwTR, tyTR_ok, nmTR, by decide, (kn_1 94 rfl rfl), rfl, rfl, by decide +kernel⟩
theorem gB_187 : kb_FP vwCl wsB "BankScheduler" 187 1 4 .int := ⟨(RReq, TR, 7), tyTR, rfl, uwTR, tyTR_ok, nmTR, by decide, (kn_1 95 rfl rfl), rfl, rfl, by decide +kernel⟩
theorem gB_139 : kb_FP vwCl wsB "BankScheduler" 139 1 5 .int := ⟨(RReq, TR, 7), tyTR, rfl, uwTR, tyTR_ok, nmTR, by decide, (kn_1 96 rfl rfl), rfl, rfl, by decide +kernel⟩
theorem gB_190 : kb_FP vwCl wsB "BankScheduler" 190 1 6 .int := ⟨(RReq, TR, 7), tyTR, rfl, uwTR, tyTR_ok, nmTR, by decide, (kn_1 97 rfl rfl), rfl, rfl, by decide +kernel⟩
theorem gB_134 : kb_FP vwCl wsB "BankScheduler" 134 2 6 .int := ⟨(RB, TB, 11), tyTB, rfl, uwTB, tyTB_ok, nmTB, by decide, (kn_1 119 rfl rfl), rfl, rfl, by decide +kernel⟩
theorem gB_108 : kb_FP vwCl wsB "BankScheduler" 108 2 7 .int := ⟨(RB, TB, 11), tyTB, rfl, uwTB, tyTB_ok, nmTB, by decide, (kn_1 120 rfl rfl), rfl, rfl, by decide +kernel⟩
theorem kB_193 : Cond.constant "BankScheduler" 193 2147483647 ∈ wsB := (kn_2 147 rfl rfl)
theorem lB_194 : Cond.methodLink "BankScheduler" 194 y_B_refreshIsDue ∈ wsB := (kn_1 155 rfl rfl)
theorem lB_198 : Cond.methodLink "BankScheduler" 198 y_B_giveRefreshing ∈ wsB := (kn_1 159 rfl rfl)
theorem lB_201 : Cond.methodLink "BankScheduler" 201 y_B_countLookedAt ∈ wsB := (kn_1 186 rfl rfl)
theorem lB_204 : Cond.methodLink "BankScheduler" 204 y_B_findHit ∈ wsB := (kn_1 194 rfl rfl)
theorem lB_208 : Cond.methodLink "BankScheduler" 208 y_B_giveWay ∈ wsB := (kn_1 206 rfl rfl)
theorem lB_211 : Cond.methodLink "BankScheduler" 211 y_B_giveHit ∈ wsB := (kn_1 226 rfl rfl)
theorem lB_214 : Cond.methodLink "BankScheduler" 214 y_C_brokenByRefresh ∈ wsB := (kn_1 163 rfl rfl)
theorem lB_217 : Cond.methodLink "BankScheduler" 217 y_B_giveCommand ∈ wsB := (kn_1 171 rfl rfl)
theorem lB_220 : Cond.methodLink "BankScheduler" 220 y_C_brokenByClose ∈ wsB := (kn_1 182 rfl rfl)
theorem lB_223 : Cond.methodLink "BankScheduler" 223 y_B_hasWaitedLong ∈ wsB := (kn_1 190 rfl rfl)
theorem fB_190 : kb_F vwCl wsB "BankScheduler" 190 1 6 := ⟨(RReq, TR, 7), rfl, uwTR, by decide, (kn_1 97 rfl rfl), rfl⟩
theorem fB_18 : kb_F vwCl wsB "BankScheduler" 18 2 0 := ⟨(RB, TB, 11), rfl, uwTB, by decide, (kn_1 113 rfl rfl), rfl⟩
theorem fB_178 : kb_F vwCl wsB "BankScheduler" 178 1 1 := ⟨(RReq, TR, 7), rfl, uwTR, by decide, (kn_1 92 rfl rfl), rfl⟩
theorem fB_181 : kb_F vwCl wsB "BankScheduler" 181 1 2 := ⟨(RReq, TR, 7), rfl, uwTR, by decide, (kn_1 93 rfl rfl), rfl⟩
theorem lB_227 : Cond.methodLink "BankScheduler" 227 y_C_brokenByAccess ∈ wsB := (kn_1 198 rfl rfl)
theorem lB_230 : Cond.methodLink "BankScheduler" 230 y_B_hasOlderForWord ∈ wsB := (kn_1 202 rfl rfl)
theorem fB_184 : kb_F vwCl wsB "BankScheduler" 184 1 3 := ⟨(RReq, TR, 7), rfl, uwTR, by decide, (kn_1 94 rfl rfl), rfl⟩
theorem lB_233 : Cond.methodLink "BankScheduler" 233 y_B_dequeue ∈ wsB := (kn_1 230 rfl rfl)
theorem gB_145 : kb_FP vwCl wsB "BankScheduler" 145 2 8 .int := ⟨(RB, TB, 11), tyTB, rfl, uwTB, tyTB_ok, nmTB, by decide, (kn_1 121 rfl rfl), rfl, rfl, by decide +kernel⟩
theorem fB_175 : kb_F vwCl wsB "BankScheduler" 175 1 0 := ⟨(RReq, TR, 7), rfl, uwTR, by decide, (kn_1 91 rfl rfl), rfl⟩
theorem fB_187 : kb_F vwCl wsB "BankScheduler" 187 1 4 := ⟨(RReq, TR, 7), rfl, uwTR, by decide, (kn_1 95 rfl rfl), rfl⟩
theorem lB_237 : Cond.methodLink "BankScheduler" 237 y_B_hasOlderForBank ∈ wsB := (kn_1 210 rfl rfl)
theorem lB_240 : Cond.methodLink "BankScheduler" 240 y_C_brokenByOpen ∈ wsB := (kn_1 214 rfl rfl)
theorem lB_243 : Cond.methodLink "BankScheduler" 243 y_B_isWanted ∈ wsB := (kn_1 222 rfl rfl)
theorem fM_81 : kb_F vwCl wsB "BankSchedulerModel" 81 3 0 := ⟨(RM, TM, 27), rfl, uwTM, by decide, (kn_3 11 rfl rfl), rfl⟩
theorem fM_34 : kb_F vwCl wsB "BankSchedulerModel" 34 3 12 := ⟨(RM, TM, 27), rfl, uwTM, by decide, (kn_3 23 rfl rfl), rfl⟩
theorem gM_81 : kb_FP vwCl wsB "BankSchedulerModel" 81 3 0 .int := ⟨(RM, TM, 27), tyTM, rfl, uwTM, tyTM_ok, nmTM, by decide, (kn_3 11 rfl rfl), rfl, rfl, by decide +kernel⟩
theorem fM_7 : kb_F vwCl wsB "BankSchedulerModel" 7 3 4 := ⟨(RM, TM, 27), rfl, uwTM, by decide, (kn_3 15 rfl rfl), rfl⟩
theorem fM_71 : kb_F vwCl wsB "BankSchedulerModel" 71 3 1 := ⟨(RM, TM, 27), rfl, uwTM, by decide, (kn_3 12 rfl rfl), rfl⟩
theorem fM_16 : kb_F vwCl wsB "BankSchedulerModel" 16 3 6 := ⟨(RM, TM, 27), rfl, uwTM, by decide, (kn_3 17 rfl rfl), rfl⟩
theorem fM_13 : kb_F vwCl wsB "BankSchedulerModel" 13 3 5 := ⟨(RM, TM, 27), rfl, uwTM, by decide, (kn_3 16 rfl rfl), rfl⟩
theorem fM_19 : kb_F vwCl wsB "BankSchedulerModel" 19 3 7 := ⟨(RM, TM, 27), rfl, uwTM, by decide, (kn_3 18 rfl rfl), rfl⟩
theorem lM_84 : Cond.methodLink "BankSchedulerModel" 84 y_M_early ∈ wsB := (kn_3 141 rfl rfl)
theorem fM_28 : kb_F vwCl wsB "BankSchedulerModel" 28 3 10 := ⟨(RM, TM, 27), rfl, uwTM, by decide, (kn_3 21 rfl rfl), rfl⟩
theorem fM_31 : kb_F vwCl wsB "BankSchedulerModel" 31 3 11 := ⟨(RM, TM, 27), rfl, uwTM, by decide, (kn_3 22 rfl rfl), rfl⟩
theorem fM_25 : kb_F vwCl wsB "BankSchedulerModel" 25 3 9 := ⟨(RM, TM, 27), rfl, uwTM, by decide, (kn_3 20 rfl rfl), rfl⟩
theorem fM_22 : kb_F vwCl wsB "BankSchedulerModel" 22 3 8 := ⟨(RM, TM, 27), rfl, uwTM, by decide, (kn_3 19 rfl rfl), rfl⟩
theorem lM_88 : Cond.methodLink "BankSchedulerModel" 88 y_M_brokenOpen ∈ wsB := (kn_3 181 rfl rfl)
theorem lM_92 : Cond.methodLink "BankSchedulerModel" 92 y_M_brokenClose ∈ wsB := (kn_3 153 rfl rfl)
theorem lM_95 : Cond.methodLink "BankSchedulerModel" 95 y_M_brokenRefresh ∈ wsB := (kn_3 137 rfl rfl)
theorem lM_99 : Cond.methodLink "BankSchedulerModel" 99 y_M_brokenUse ∈ wsB := (kn_3 165 rfl rfl)
theorem lM_103 : Cond.methodLink "BankSchedulerModel" 103 y_M_isBank ∈ wsB := (kn_3 114 rfl rfl)
theorem lM_107 : Cond.methodLink "BankSchedulerModel" 107 y_M_isRow ∈ wsB := (kn_3 118 rfl rfl)
theorem lM_110 : Cond.methodLink "BankSchedulerModel" 110 y_M_isWord ∈ wsB := (kn_3 110 rfl rfl)
theorem fM_113 : kb_F vwCl wsB "BankSchedulerModel" 113 3 14 := ⟨(RM, TM, 27), rfl, uwTM, by decide, (kn_3 25 rfl rfl), rfl⟩
theorem fM_75 : kb_F vwCl wsB "BankSchedulerModel" 75 3 2 := ⟨(RM, TM, 27), rfl, uwTM, by decide, (kn_3 13 rfl rfl), rfl⟩
theorem fM_40 : kb_F vwCl wsB "BankSchedulerModel" 40 3 15 := ⟨(RM, TM, 27), rfl, uwTM, by decide, (kn_3 26 rfl rfl), rfl⟩
theorem fM_116 : kb_F vwCl wsB "BankSchedulerModel" 116 3 22 := ⟨(RM, TM, 27), rfl, uwTM, by decide, (kn_3 33 rfl rfl), rfl⟩
theorem fM_43 : kb_F vwCl wsB "BankSchedulerModel" 43 3 16 := ⟨(RM, TM, 27), rfl, uwTM, by decide, (kn_3 27 rfl rfl), rfl⟩
theorem fM_46 : kb_F vwCl wsB "BankSchedulerModel" 46 3 17 := ⟨(RM, TM, 27), rfl, uwTM, by decide, (kn_3 28 rfl rfl), rfl⟩
theorem fM_49 : kb_F vwCl wsB "BankSchedulerModel" 49 3 18 := ⟨(RM, TM, 27), rfl, uwTM, by decide, (kn_3 29 rfl rfl), rfl⟩
theorem fM_52 : kb_F vwCl wsB "BankSchedulerModel" 52 3 19 := ⟨(RM, TM, 27), rfl, uwTM, by decide, (kn_3 30 rfl rfl), rfl⟩
theorem fM_56 : kb_F vwCl wsB "BankSchedulerModel" 56 3 20 := ⟨(RM, TM, 27), rfl, uwTM, by decide, (kn_3 31 rfl rfl), rfl⟩
theorem fM_59 : kb_F vwCl wsB "BankSchedulerModel" 59 3 21 := ⟨(RM, TM, 27), rfl, uwTM, by decide, (kn_3 32 rfl rfl), rfl⟩
theorem gM_113 : kb_FP vwCl wsB "BankSchedulerModel" 113 3 14 .int := ⟨(RM, TM, 27), tyTM, rfl, uwTM, tyTM_ok, nmTM, by decide, (kn_3 25 rfl rfl), rfl, rfl, by decide +kernel⟩
theorem fM_62 : kb_F vwCl wsB "BankSchedulerModel" 62 3 23 := ⟨(RM, TM, 27), rfl, uwTM, by decide, (kn_3 34 rfl rfl), rfl⟩
theorem gM_116 : kb_FP vwCl wsB "BankSchedulerModel" 116 3 22 .int := ⟨(RM, TM, 27), tyTM, rfl, uwTM, tyTM_ok, nmTM, by decide, (kn_3 33 rfl rfl), rfl, rfl, by decide +kernel⟩
theorem lM_119 : Cond.methodLink "BankSchedulerModel" 119 y_M_request ∈ wsB := (kn_3 106 rfl rfl)
theorem fM_37 : kb_F vwCl wsB "BankSchedulerModel" 37 3 13 := ⟨(RM, TM, 27), rfl, uwTM, by decide, (kn_3 24 rfl rfl), rfl⟩
theorem fM_78 : kb_F vwCl wsB "BankSchedulerModel" 78 3 3 := ⟨(RM, TM, 27), rfl, uwTM, by decide, (kn_3 14 rfl rfl), rfl⟩
theorem fM_123 : kb_F vwCl wsB "BankSchedulerModel" 123 3 26 := ⟨(RM, TM, 27), rfl, uwTM, by decide, (kn_3 37 rfl rfl), rfl⟩
theorem gM_123 : kb_FP vwCl wsB "BankSchedulerModel" 123 3 26 .int := ⟨(RM, TM, 27), tyTM, rfl, uwTM, tyTM_ok, nmTM, by decide, (kn_3 37 rfl rfl), rfl, rfl, by decide +kernel⟩
theorem fM_65 : kb_F vwCl wsB "BankSchedulerModel" 65 3 24 := ⟨(RM, TM, 27), rfl, uwTM, by decide, (kn_3 35 rfl rfl), rfl⟩
theorem lM_126 : Cond.methodLink "BankSchedulerModel" 126 y_M_give ∈ wsB := (kn_3 149 rfl rfl)
theorem fM_68 : kb_F vwCl wsB "BankSchedulerModel" 68 3 25 := ⟨(RM, TM, 27), rfl, uwTM, by decide, (kn_3 36 rfl rfl), rfl⟩
theorem lM_130 : Cond.methodLink "BankSchedulerModel" 130 y_M_told ∈ wsB := (kn_3 145 rfl rfl)
theorem lM_133 : Cond.methodLink "BankSchedulerModel" 133 y_M_hasElder ∈ wsB := (kn_3 161 rfl rfl)
theorem lM_136 : Cond.methodLink "BankSchedulerModel" 136 y_M_serve ∈ wsB := (kn_3 169 rfl rfl)
theorem lM_140 : Cond.methodLink "BankSchedulerModel" 140 y_M_asks ∈ wsB := (kn_3 177 rfl rfl)
theorem lM_143 : Cond.methodLink "BankSchedulerModel" 143 y_M_refreshing ∈ wsB := (kn_3 133 rfl rfl)
theorem lM_147 : Cond.methodLink "BankSchedulerModel" 147 y_M_hit ∈ wsB := (kn_3 157 rfl rfl)
theorem lM_150 : Cond.methodLink "BankSchedulerModel" 150 y_M_way ∈ wsB := (kn_3 173 rfl rfl)
theorem lM_153 : Cond.methodLink "BankSchedulerModel" 153 y_M_cycle ∈ wsB := (kn_3 129 rfl rfl)
theorem lM_156 : Cond.methodLink "BankSchedulerModel" 156 y_M_broken ∈ wsB := (kn_3 213 rfl rfl)
theorem fC_15 : kb_F vwCl wsB "BankScheduler$Channel" 15 0 1 := ⟨(RC, TC, 12), rfl, uwTC, by decide, (kn_1 43 rfl rfl), rfl⟩
theorem lC_43 : Cond.methodLink "BankScheduler$Channel" 43 y_C_brokenByOpen ∈ wsB := (kn_2 233 rfl rfl)
theorem lC_47 : Cond.methodLink "BankScheduler$Channel" 47 y_C_brokenByClose ∈ wsB := (kn_2 234 rfl rfl)
theorem lC_50 : Cond.methodLink "BankScheduler$Channel" 50 y_C_brokenByRefresh ∈ wsB := (kn_2 235 rfl rfl)
theorem lC_54 : Cond.methodLink "BankScheduler$Channel" 54 y_C_brokenByAccess ∈ wsB := (kn_2 236 rfl rfl)
theorem fC_21 : kb_F vwCl wsB "BankScheduler$Channel" 21 0 3 := ⟨(RC, TC, 12), rfl, uwTC, by decide, (kn_1 46 rfl rfl), rfl⟩
theorem lC_58 : Cond.methodLink "BankScheduler$Channel" 58 y_C_isTooSoon ∈ wsB := (kn_1 167 rfl rfl)
theorem fC_18 : kb_F vwCl wsB "BankScheduler$Channel" 18 0 2 := ⟨(RC, TC, 12), rfl, uwTC, by decide, (kn_1 45 rfl rfl), rfl⟩
theorem lC_62 : Cond.methodLink "BankScheduler$Channel" 62 y_C_isTooSoonForOthers ∈ wsB := (kn_1 218 rfl rfl)
theorem fC_30 : kb_F vwCl wsB "BankScheduler$Channel" 30 0 6 := ⟨(RC, TC, 12), rfl, uwTC, by decide, (kn_1 49 rfl rfl), rfl⟩
theorem fC_66 : kb_F vwCl wsB "BankScheduler$Channel" 66 0 8 := ⟨(RC, TC, 12), rfl, uwTC, by decide, (kn_1 52 rfl rfl), rfl⟩
theorem fC_40 : kb_F vwCl wsB "BankScheduler$Channel" 40 0 10 := ⟨(RC, TC, 12), rfl, uwTC, by decide, (kn_1 54 rfl rfl), rfl⟩
theorem fC_27 : kb_F vwCl wsB "BankScheduler$Channel" 27 0 5 := ⟨(RC, TC, 12), rfl, uwTC, by decide, (kn_1 48 rfl rfl), rfl⟩
theorem fC_24 : kb_F vwCl wsB "BankScheduler$Channel" 24 0 4 := ⟨(RC, TC, 12), rfl, uwTC, by decide, (kn_1 47 rfl rfl), rfl⟩
theorem fC_36 : kb_F vwCl wsB "BankScheduler$Channel" 36 0 9 := ⟨(RC, TC, 12), rfl, uwTC, by decide, (kn_1 53 rfl rfl), rfl⟩
theorem fC_33 : kb_F vwCl wsB "BankScheduler$Channel" 33 0 7 := ⟨(RC, TC, 12), rfl, uwTC, by decide, (kn_1 50 rfl rfl), rfl⟩
theorem fC_69 : kb_F vwCl wsB "BankScheduler$Channel" 69 0 11 := ⟨(RC, TC, 12), rfl, uwTC, by decide, (kn_1 57 rfl rfl), rfl⟩
theorem gC_66 : kb_FP vwCl wsB "BankScheduler$Channel" 66 0 8 .int := ⟨(RC, TC, 12), tyTC, rfl, uwTC, tyTC_ok, nmTC, by decide, (kn_1 52 rfl rfl), rfl, rfl, by decide +kernel⟩
theorem gC_36 : kb_FP vwCl wsB "BankScheduler$Channel" 36 0 9 .int := ⟨(RC, TC, 12), tyTC, rfl, uwTC, tyTC_ok, nmTC, by decide, (kn_1 53 rfl rfl), rfl, rfl, by decide +kernel⟩
theorem gC_40 : kb_FP vwCl wsB "BankScheduler$Channel" 40 0 10 .int := ⟨(RC, TC, 12), tyTC, rfl, uwTC, tyTC_ok, nmTC, by decide, (kn_1 54 rfl rfl), rfl, rfl, by decide +kernel⟩
theorem fC_9 : kb_F vwCl wsB "BankScheduler$Channel" 9 0 0 := ⟨(RC, TC, 12), rfl, uwTC, by decide, (kn_1 42 rfl rfl), rfl⟩
end
section
theorem dM_thrown_0 : decode c_M_thrown 0 = .ok (.aload_n 0, 1) := by decide +kernel
theorem dM_thrown_1 : decode c_M_thrown 1 = .ok (.getfield 81, 3) := by decide +kernel
theorem dM_thrown_4 : decode c_M_thrown 4 = .ok (.ireturn, 1) := by decide +kernel
theorem dM_time_0 : decode c_M_time 0 = .ok (.iload_n 1, 1) := by decide +kernel
theorem dM_time_1 : decode c_M_time 1 = .ok (.ifCond .lt 13, 3) := by decide +kernel
theorem dM_time_4 : decode c_M_time 4 = .ok (.iload_n 1, 1) := by decide +kernel
theorem dM_time_5 : decode c_M_time 5 = .ok (.bipush 12, 2) := by decide +kernel
theorem dM_time_7 : decode c_M_time 7 = .ok (.if_icmp .ge 7, 3) := by decide +kernel
theorem dM_time_10 : decode c_M_time 10 = .ok (.iconst 1, 1) := by decide +kernel
theorem dM_time_11 : decode c_M_time 11 = .ok (.goto 4, 3) := by decide +kernel
theorem dM_time_14 : decode c_M_time 14 = .ok (.iconst 0, 1) := by decide +kernel
theorem dM_time_15 : decode c_M_time 15 = .ok (.istore_n 3, 1) := by decide +kernel
theorem dM_time_16 : decode c_M_time 16 = .ok (.iload_n 1, 1) := by decide +kernel
theorem dM_time_17 : decode c_M_time 17 = .ok (.bipush 10, 2) := by decide +kernel
theorem dM_time_19 : decode c_M_time 19 = .ok (.if_icmp .ne 24, 3) := by decide +kernel
theorem dM_time_22 : decode c_M_time 22 = .ok (.iload_n 2, 1) := by decide +kernel
theorem dM_time_23 : decode c_M_time 23 = .ok (.bipush 20, 2) := by decide +kernel
theorem dM_time_25 : decode c_M_time 25 = .ok (.if_icmp .lt 14, 3) := by decide +kernel
theorem dM_time_28 : decode c_M_time 28 = .ok (.iload_n 2, 1) := by decide +kernel
theorem dM_time_29 : decode c_M_time 29 = .ok (.sipush 200, 3) := by decide +kernel
theorem dM_time_32 : decode c_M_time 32 = .ok (.if_icmp .gt 7, 3) := by decide +kernel
theorem dM_time_35 : decode c_M_time 35 = .ok (.iconst 1, 1) := by decide +kernel
theorem dM_time_36 : decode c_M_time 36 = .ok (.goto 23, 3) := by decide +kernel
theorem dM_time_39 : decode c_M_time 39 = .ok (.iconst 0, 1) := by decide +kernel
theorem dM_time_40 : decode c_M_time 40 = .ok (.goto 19, 3) := by decide +kernel
theorem dM_time_43 : decode c_M_time 43 = .ok (.iload_n 2, 1) := by decide +kernel
theorem dM_time_44 : decode c_M_time 44 = .ok (.iconst 1, 1) := by decide +kernel
theorem dM_time_45 : decode c_M_time 45 = .ok (.if_icmp .lt 13, 3) := by decide +kernel
theorem dM_time_48 : decode c_M_time 48 = .ok (.iload_n 2, 1) := by decide +kernel
theorem dM_time_49 : decode c_M_time 49 = .ok (.bipush 20, 2) := by decide +kernel
theorem dM_time_51 : decode c_M_time 51 = .ok (.if_icmp .gt 7, 3) := by decide +kernel
theorem dM_time_54 : decode c_M_time 54 = .ok (.iconst 1, 1) := by decide +kernel
theorem dM_time_55 : decode c_M_time 55 = .ok (.goto 4, 3) := by decide +kernel
theorem dM_time_58 : decode c_M_time 58 = .ok (.iconst 0, 1) := by decide +kernel
theorem dM_time_59 : decode c_M_time 59 = .ok (.istore 4, 2) := by decide +kernel
theorem dM_time_61 : decode c_M_time 61 = .ok (.aload_n 0, 1) := by decide +kernel
theorem dM_time_62 : decode c_M_time 62 = .ok (.iload_n 3, 1) := by decide +kernel
theorem dM_time_63 : decode c_M_time 63 = .ok (.ifCond .ne 7, 3) := by decide +kernel
theorem dM_time_66 : decode c_M_time 66 = .ok (.iconst 1, 1) := by decide +kernel
theorem dM_time_67 : decode c_M_time 67 = .ok (.goto 26, 3) := by decide +kernel
theorem dM_time_70 : decode c_M_time 70 = .ok (.iload 4, 2) := by decide +kernel
theorem dM_time_72 : decode c_M_time 72 = .ok (.ifCond .ne 7, 3) := by decide +kernel
theorem dM_time_75 : decode c_M_time 75 = .ok (.iconst 2, 1) := by decide +kernel
theorem dM_time_76 : decode c_M_time 76 = .ok (.goto 17, 3) := by decide +kernel
theorem dM_time_79 : decode c_M_time 79 = .ok (.aload_n 0, 1) := by decide +kernel
theorem dM_time_80 : decode c_M_time 80 = .ok (.getfield 34, 3) := by decide +kernel
theorem dM_time_83 : decode c_M_time 83 = .ok (.iconst 0, 1) := by decide +kernel
theorem dM_time_84 : decode c_M_time 84 = .ok (.iaload, 1) := by decide +kernel
theorem dM_time_85 : decode c_M_time 85 = .ok (.ifCond .le 7, 3) := by decide +kernel
theorem dM_time_88 : decode c_M_time 88 = .ok (.iconst 3, 1) := by decide +kernel
theorem dM_time_89 : decode c_M_time 89 = .ok (.goto 4, 3) := by decide +kernel
theorem dM_time_92 : decode c_M_time 92 = .ok (.iconst 0, 1) := by decide +kernel
theorem dM_time_93 : decode c_M_time 93 = .ok (.putfield 81, 3) := by decide +kernel
theorem dM_time_96 : decode c_M_time 96 = .ok (.aload_n 0, 1) := by decide +kernel
theorem dM_time_97 : decode c_M_time 97 = .ok (.getfield 81, 3) := by decide +kernel
theorem dM_time_100 : decode c_M_time 100 = .ok (.ifCond .eq 5, 3) := by decide +kernel
theorem dM_time_103 : decode c_M_time 103 = .ok (.iconst 0, 1) := by decide +kernel
theorem dM_time_104 : decode c_M_time 104 = .ok (.ireturn, 1) := by decide +kernel
theorem dM_time_105 : decode c_M_time 105 = .ok (.aload_n 0, 1) := by decide +kernel
theorem dM_time_106 : decode c_M_time 106 = .ok (.getfield 7, 3) := by decide +kernel
theorem dM_time_109 : decode c_M_time 109 = .ok (.iload_n 1, 1) := by decide +kernel
theorem dM_time_110 : decode c_M_time 110 = .ok (.iaload, 1) := by decide +kernel
theorem dM_time_111 : decode c_M_time 111 = .ok (.istore 5, 2) := by decide +kernel
theorem dM_time_113 : decode c_M_time 113 = .ok (.aload_n 0, 1) := by decide +kernel
theorem dM_time_114 : decode c_M_time 114 = .ok (.getfield 7, 3) := by decide +kernel
theorem dM_time_117 : decode c_M_time 117 = .ok (.iload_n 1, 1) := by decide +kernel
theorem dM_time_118 : decode c_M_time 118 = .ok (.iload_n 2, 1) := by decide +kernel
theorem dM_time_119 : decode c_M_time 119 = .ok (.iastore, 1) := by decide +kernel
theorem dM_time_120 : decode c_M_time 120 = .ok (.iload 5, 2) := by decide +kernel
theorem dM_time_122 : decode c_M_time 122 = .ok (.ireturn, 1) := by decide +kernel
theorem dM_early_0 : decode c_M_early 0 = .ok (.iload_n 2, 1) := by decide +kernel
theorem dM_early_1 : decode c_M_early 1 = .ok (.ifCond .lt 24, 3) := by decide +kernel
theorem dM_early_4 : decode c_M_early 4 = .ok (.aload_n 0, 1) := by decide +kernel
theorem dM_early_5 : decode c_M_early 5 = .ok (.getfield 34, 3) := by decide +kernel
theorem dM_early_8 : decode c_M_early 8 = .ok (.iload_n 1, 1) := by decide +kernel
theorem dM_early_9 : decode c_M_early 9 = .ok (.iaload, 1) := by decide +kernel
theorem dM_early_10 : decode c_M_early 10 = .ok (.iload_n 2, 1) := by decide +kernel
theorem dM_early_11 : decode c_M_early 11 = .ok (.isub, 1) := by decide +kernel
theorem dM_early_12 : decode c_M_early 12 = .ok (.aload_n 0, 1) := by decide +kernel
theorem dM_early_13 : decode c_M_early 13 = .ok (.getfield 7, 3) := by decide +kernel
theorem dM_early_16 : decode c_M_early 16 = .ok (.iload_n 3, 1) := by decide +kernel
theorem dM_early_17 : decode c_M_early 17 = .ok (.iaload, 1) := by decide +kernel
theorem dM_early_18 : decode c_M_early 18 = .ok (.if_icmp .ge 7, 3) := by decide +kernel
theorem dM_early_21 : decode c_M_early 21 = .ok (.iconst 1, 1) := by decide +kernel
theorem dM_early_22 : decode c_M_early 22 = .ok (.goto 4, 3) := by decide +kernel
theorem dM_early_25 : decode c_M_early 25 = .ok (.iconst 0, 1) := by decide +kernel
theorem dM_early_26 : decode c_M_early 26 = .ok (.ireturn, 1) := by decide +kernel
theorem dM_brokenOpen_0 : decode c_M_brokenOpen 0 = .ok (.bipush 8, 2) := by decide +kernel
theorem dM_brokenOpen_2 : decode c_M_brokenOpen 2 = .ok (.iload_n 1, 1) := by decide +kernel
theorem dM_brokenOpen_3 : decode c_M_brokenOpen 3 = .ok (.imul, 1) := by decide +kernel
theorem dM_brokenOpen_4 : decode c_M_brokenOpen 4 = .ok (.iload_n 2, 1) := by decide +kernel
theorem dM_brokenOpen_5 : decode c_M_brokenOpen 5 = .ok (.iadd, 1) := by decide +kernel
theorem dM_brokenOpen_6 : decode c_M_brokenOpen 6 = .ok (.istore_n 3, 1) := by decide +kernel
theorem dM_brokenOpen_7 : decode c_M_brokenOpen 7 = .ok (.iconst (-1), 1) := by decide +kernel
theorem dM_brokenOpen_8 : decode c_M_brokenOpen 8 = .ok (.istore 4, 2) := by decide +kernel
theorem dM_brokenOpen_10 : decode c_M_brokenOpen 10 = .ok (.iconst 0, 1) := by decide +kernel
theorem dM_brokenOpen_11 : decode c_M_brokenOpen 11 = .ok (.istore 5, 2) := by decide +kernel
theorem dM_brokenOpen_13 : decode c_M_brokenOpen 13 = .ok (.iload 5, 2) := by decide +kernel
theorem dM_brokenOpen_15 : decode c_M_brokenOpen 15 = .ok (.aload_n 0, 1) := by decide +kernel
theorem dM_brokenOpen_16 : decode c_M_brokenOpen 16 = .ok (.getfield 71, 3) := by decide +kernel
theorem dM_brokenOpen_19 : decode c_M_brokenOpen 19 = .ok (.if_icmp .ge 45, 3) := by decide +kernel
theorem dM_brokenOpen_22 : decode c_M_brokenOpen 22 = .ok (.aload_n 0, 1) := by decide +kernel
theorem dM_brokenOpen_23 : decode c_M_brokenOpen 23 = .ok (.getfield 16, 3) := by decide +kernel
theorem dM_brokenOpen_26 : decode c_M_brokenOpen 26 = .ok (.bipush 8, 2) := by decide +kernel
theorem dM_brokenOpen_28 : decode c_M_brokenOpen 28 = .ok (.iload_n 1, 1) := by decide +kernel
theorem dM_brokenOpen_29 : decode c_M_brokenOpen 29 = .ok (.imul, 1) := by decide +kernel
theorem dM_brokenOpen_30 : decode c_M_brokenOpen 30 = .ok (.iload 5, 2) := by decide +kernel
theorem dM_brokenOpen_32 : decode c_M_brokenOpen 32 = .ok (.iadd, 1) := by decide +kernel
theorem dM_brokenOpen_33 : decode c_M_brokenOpen 33 = .ok (.iaload, 1) := by decide +kernel
theorem dM_brokenOpen_34 : decode c_M_brokenOpen 34 = .ok (.istore 6, 2) := by decide +kernel
theorem dM_brokenOpen_36 : decode c_M_brokenOpen 36 = .ok (.iload 5, 2) := by decide +kernel
theorem dM_brokenOpen_38 : decode c_M_brokenOpen 38 = .ok (.iload_n 2, 1) := by decide +kernel
theorem dM_brokenOpen_39 : decode c_M_brokenOpen 39 = .ok (.if_icmp .eq 15, 3) := by decide +kernel
theorem dM_brokenOpen_42 : decode c_M_brokenOpen 42 = .ok (.iload 6, 2) := by decide +kernel
theorem dM_brokenOpen_44 : decode c_M_brokenOpen 44 = .ok (.iload 4, 2) := by decide +kernel
theorem dM_brokenOpen_46 : decode c_M_brokenOpen 46 = .ok (.if_icmp .le 8, 3) := by decide +kernel
theorem dM_brokenOpen_49 : decode c_M_brokenOpen 49 = .ok (.iload 6, 2) := by decide +kernel
theorem dM_brokenOpen_51 : decode c_M_brokenOpen 51 = .ok (.goto 5, 3) := by decide +kernel
theorem dM_brokenOpen_54 : decode c_M_brokenOpen 54 = .ok (.iload 4, 2) := by decide +kernel
theorem dM_brokenOpen_56 : decode c_M_brokenOpen 56 = .ok (.istore 4, 2) := by decide +kernel
theorem dM_brokenOpen_58 : decode c_M_brokenOpen 58 = .ok (.iinc 5 1, 3) := by decide +kernel
theorem dM_brokenOpen_61 : decode c_M_brokenOpen 61 = .ok (.goto (-48), 3) := by decide +kernel
theorem dM_brokenOpen_64 : decode c_M_brokenOpen 64 = .ok (.aload_n 0, 1) := by decide +kernel
theorem dM_brokenOpen_65 : decode c_M_brokenOpen 65 = .ok (.getfield 13, 3) := by decide +kernel
theorem dM_brokenOpen_68 : decode c_M_brokenOpen 68 = .ok (.iload_n 3, 1) := by decide +kernel
theorem dM_brokenOpen_69 : decode c_M_brokenOpen 69 = .ok (.iaload, 1) := by decide +kernel
theorem dM_brokenOpen_70 : decode c_M_brokenOpen 70 = .ok (.ifCond .lt 5, 3) := by decide +kernel
theorem dM_brokenOpen_73 : decode c_M_brokenOpen 73 = .ok (.iconst 1, 1) := by decide +kernel
theorem dM_brokenOpen_74 : decode c_M_brokenOpen 74 = .ok (.ireturn, 1) := by decide +kernel
theorem dM_brokenOpen_75 : decode c_M_brokenOpen 75 = .ok (.aload_n 0, 1) := by decide +kernel
theorem dM_brokenOpen_76 : decode c_M_brokenOpen 76 = .ok (.iload_n 1, 1) := by decide +kernel
theorem dM_brokenOpen_77 : decode c_M_brokenOpen 77 = .ok (.aload_n 0, 1) := by decide +kernel
theorem dM_brokenOpen_78 : decode c_M_brokenOpen 78 = .ok (.getfield 19, 3) := by decide +kernel
theorem dM_brokenOpen_81 : decode c_M_brokenOpen 81 = .ok (.iload_n 3, 1) := by decide +kernel
theorem dM_brokenOpen_82 : decode c_M_brokenOpen 82 = .ok (.iaload, 1) := by decide +kernel
theorem dM_brokenOpen_83 : decode c_M_brokenOpen 83 = .ok (.iconst 1, 1) := by decide +kernel
theorem dM_brokenOpen_84 : decode c_M_brokenOpen 84 = .ok (.invokevirtual 84, 3) := by decide +kernel
theorem dM_brokenOpen_87 : decode c_M_brokenOpen 87 = .ok (.ifCond .eq 5, 3) := by decide +kernel
theorem dM_brokenOpen_90 : decode c_M_brokenOpen 90 = .ok (.iconst 2, 1) := by decide +kernel
theorem dM_brokenOpen_91 : decode c_M_brokenOpen 91 = .ok (.ireturn, 1) := by decide +kernel
theorem dM_brokenOpen_92 : decode c_M_brokenOpen 92 = .ok (.aload_n 0, 1) := by decide +kernel
theorem dM_brokenOpen_93 : decode c_M_brokenOpen 93 = .ok (.iload_n 1, 1) := by decide +kernel
theorem dM_brokenOpen_94 : decode c_M_brokenOpen 94 = .ok (.aload_n 0, 1) := by decide +kernel
theorem dM_brokenOpen_95 : decode c_M_brokenOpen 95 = .ok (.getfield 16, 3) := by decide +kernel
theorem dM_brokenOpen_98 : decode c_M_brokenOpen 98 = .ok (.iload_n 3, 1) := by decide +kernel
theorem dM_brokenOpen_99 : decode c_M_brokenOpen 99 = .ok (.iaload, 1) := by decide +kernel
theorem dM_brokenOpen_100 : decode c_M_brokenOpen 100 = .ok (.iconst 3, 1) := by decide +kernel
theorem dM_brokenOpen_101 : decode c_M_brokenOpen 101 = .ok (.invokevirtual 84, 3) := by decide +kernel
theorem dM_brokenOpen_104 : decode c_M_brokenOpen 104 = .ok (.ifCond .eq 5, 3) := by decide +kernel
theorem dM_brokenOpen_107 : decode c_M_brokenOpen 107 = .ok (.iconst 3, 1) := by decide +kernel
theorem dM_brokenOpen_108 : decode c_M_brokenOpen 108 = .ok (.ireturn, 1) := by decide +kernel
theorem dM_brokenOpen_109 : decode c_M_brokenOpen 109 = .ok (.aload_n 0, 1) := by decide +kernel
theorem dM_brokenOpen_110 : decode c_M_brokenOpen 110 = .ok (.iload_n 1, 1) := by decide +kernel
theorem dM_brokenOpen_111 : decode c_M_brokenOpen 111 = .ok (.iload 4, 2) := by decide +kernel
theorem dM_brokenOpen_113 : decode c_M_brokenOpen 113 = .ok (.bipush 7, 2) := by decide +kernel
theorem dM_brokenOpen_115 : decode c_M_brokenOpen 115 = .ok (.invokevirtual 84, 3) := by decide +kernel
theorem dM_brokenOpen_118 : decode c_M_brokenOpen 118 = .ok (.ifCond .eq 5, 3) := by decide +kernel
theorem dM_brokenOpen_121 : decode c_M_brokenOpen 121 = .ok (.iconst 4, 1) := by decide +kernel
theorem dM_brokenOpen_122 : decode c_M_brokenOpen 122 = .ok (.ireturn, 1) := by decide +kernel
theorem dM_brokenOpen_123 : decode c_M_brokenOpen 123 = .ok (.aload_n 0, 1) := by decide +kernel
theorem dM_brokenOpen_124 : decode c_M_brokenOpen 124 = .ok (.iload_n 1, 1) := by decide +kernel
theorem dM_brokenOpen_125 : decode c_M_brokenOpen 125 = .ok (.aload_n 0, 1) := by decide +kernel
theorem dM_brokenOpen_126 : decode c_M_brokenOpen 126 = .ok (.getfield 28, 3) := by decide +kernel
theorem dM_brokenOpen_129 : decode c_M_brokenOpen 129 = .ok (.iconst 4, 1) := by decide +kernel
theorem dM_brokenOpen_130 : decode c_M_brokenOpen 130 = .ok (.iload_n 1, 1) := by decide +kernel
theorem dM_brokenOpen_131 : decode c_M_brokenOpen 131 = .ok (.imul, 1) := by decide +kernel
theorem dM_brokenOpen_132 : decode c_M_brokenOpen 132 = .ok (.iconst 3, 1) := by decide +kernel
theorem dM_brokenOpen_133 : decode c_M_brokenOpen 133 = .ok (.iadd, 1) := by decide +kernel
theorem dM_brokenOpen_134 : decode c_M_brokenOpen 134 = .ok (.iaload, 1) := by decide +kernel
theorem dM_brokenOpen_135 : decode c_M_brokenOpen 135 = .ok (.bipush 8, 2) := by decide +kernel
theorem dM_brokenOpen_137 : decode c_M_brokenOpen 137 = .ok (.invokevirtual 84, 3) := by decide +kernel
theorem dM_brokenOpen_140 : decode c_M_brokenOpen 140 = .ok (.ifCond .eq 5, 3) := by decide +kernel
theorem dM_brokenOpen_143 : decode c_M_brokenOpen 143 = .ok (.iconst 5, 1) := by decide +kernel
theorem dM_brokenOpen_144 : decode c_M_brokenOpen 144 = .ok (.ireturn, 1) := by decide +kernel
theorem dM_brokenOpen_145 : decode c_M_brokenOpen 145 = .ok (.aload_n 0, 1) := by decide +kernel
theorem dM_brokenOpen_146 : decode c_M_brokenOpen 146 = .ok (.iload_n 1, 1) := by decide +kernel
theorem dM_brokenOpen_147 : decode c_M_brokenOpen 147 = .ok (.aload_n 0, 1) := by decide +kernel
theorem dM_brokenOpen_148 : decode c_M_brokenOpen 148 = .ok (.getfield 31, 3) := by decide +kernel
theorem dM_brokenOpen_151 : decode c_M_brokenOpen 151 = .ok (.iload_n 1, 1) := by decide +kernel
theorem dM_brokenOpen_152 : decode c_M_brokenOpen 152 = .ok (.iaload, 1) := by decide +kernel
theorem dM_brokenOpen_153 : decode c_M_brokenOpen 153 = .ok (.bipush 9, 2) := by decide +kernel
theorem dM_brokenOpen_155 : decode c_M_brokenOpen 155 = .ok (.invokevirtual 84, 3) := by decide +kernel
theorem dM_brokenOpen_158 : decode c_M_brokenOpen 158 = .ok (.ifCond .eq 8, 3) := by decide +kernel
theorem dM_brokenOpen_161 : decode c_M_brokenOpen 161 = .ok (.bipush 6, 2) := by decide +kernel
theorem dM_brokenOpen_163 : decode c_M_brokenOpen 163 = .ok (.goto 4, 3) := by decide +kernel
theorem dM_brokenOpen_166 : decode c_M_brokenOpen 166 = .ok (.iconst 0, 1) := by decide +kernel
theorem dM_brokenOpen_167 : decode c_M_brokenOpen 167 = .ok (.ireturn, 1) := by decide +kernel
theorem dM_brokenClose_0 : decode c_M_brokenClose 0 = .ok (.bipush 8, 2) := by decide +kernel
theorem dM_brokenClose_2 : decode c_M_brokenClose 2 = .ok (.iload_n 1, 1) := by decide +kernel
theorem dM_brokenClose_3 : decode c_M_brokenClose 3 = .ok (.imul, 1) := by decide +kernel
theorem dM_brokenClose_4 : decode c_M_brokenClose 4 = .ok (.iload_n 2, 1) := by decide +kernel
theorem dM_brokenClose_5 : decode c_M_brokenClose 5 = .ok (.iadd, 1) := by decide +kernel
theorem dM_brokenClose_6 : decode c_M_brokenClose 6 = .ok (.istore_n 3, 1) := by decide +kernel
theorem dM_brokenClose_7 : decode c_M_brokenClose 7 = .ok (.aload_n 0, 1) := by decide +kernel
theorem dM_brokenClose_8 : decode c_M_brokenClose 8 = .ok (.getfield 13, 3) := by decide +kernel
theorem dM_brokenClose_11 : decode c_M_brokenClose 11 = .ok (.iload_n 3, 1) := by decide +kernel
theorem dM_brokenClose_12 : decode c_M_brokenClose 12 = .ok (.iaload, 1) := by decide +kernel
theorem dM_brokenClose_13 : decode c_M_brokenClose 13 = .ok (.ifCond .ge 6, 3) := by decide +kernel
theorem dM_brokenClose_16 : decode c_M_brokenClose 16 = .ok (.bipush 7, 2) := by decide +kernel
theorem dM_brokenClose_18 : decode c_M_brokenClose 18 = .ok (.ireturn, 1) := by decide +kernel
theorem dM_brokenClose_19 : decode c_M_brokenClose 19 = .ok (.aload_n 0, 1) := by decide +kernel
theorem dM_brokenClose_20 : decode c_M_brokenClose 20 = .ok (.iload_n 1, 1) := by decide +kernel
theorem dM_brokenClose_21 : decode c_M_brokenClose 21 = .ok (.aload_n 0, 1) := by decide +kernel
theorem dM_brokenClose_22 : decode c_M_brokenClose 22 = .ok (.getfield 16, 3) := by decide +kernel
theorem dM_brokenClose_25 : decode c_M_brokenClose 25 = .ok (.iload_n 3, 1) := by decide +kernel
theorem dM_brokenClose_26 : decode c_M_brokenClose 26 = .ok (.iaload, 1) := by decide +kernel
theorem dM_brokenClose_27 : decode c_M_brokenClose 27 = .ok (.iconst 2, 1) := by decide +kernel
theorem dM_brokenClose_28 : decode c_M_brokenClose 28 = .ok (.invokevirtual 84, 3) := by decide +kernel
theorem dM_brokenClose_31 : decode c_M_brokenClose 31 = .ok (.ifCond .eq 6, 3) := by decide +kernel
theorem dM_brokenClose_34 : decode c_M_brokenClose 34 = .ok (.bipush 8, 2) := by decide +kernel
theorem dM_brokenClose_36 : decode c_M_brokenClose 36 = .ok (.ireturn, 1) := by decide +kernel
theorem dM_brokenClose_37 : decode c_M_brokenClose 37 = .ok (.aload_n 0, 1) := by decide +kernel
theorem dM_brokenClose_38 : decode c_M_brokenClose 38 = .ok (.iload_n 1, 1) := by decide +kernel
theorem dM_brokenClose_39 : decode c_M_brokenClose 39 = .ok (.aload_n 0, 1) := by decide +kernel
theorem dM_brokenClose_40 : decode c_M_brokenClose 40 = .ok (.getfield 25, 3) := by decide +kernel
theorem dM_brokenClose_43 : decode c_M_brokenClose 43 = .ok (.iload_n 3, 1) := by decide +kernel
theorem dM_brokenClose_44 : decode c_M_brokenClose 44 = .ok (.iaload, 1) := by decide +kernel
theorem dM_brokenClose_45 : decode c_M_brokenClose 45 = .ok (.iconst 4, 1) := by decide +kernel
theorem dM_brokenClose_46 : decode c_M_brokenClose 46 = .ok (.invokevirtual 84, 3) := by decide +kernel
theorem dM_brokenClose_49 : decode c_M_brokenClose 49 = .ok (.ifCond .eq 6, 3) := by decide +kernel
theorem dM_brokenClose_52 : decode c_M_brokenClose 52 = .ok (.bipush 9, 2) := by decide +kernel
theorem dM_brokenClose_54 : decode c_M_brokenClose 54 = .ok (.ireturn, 1) := by decide +kernel
theorem dM_brokenClose_55 : decode c_M_brokenClose 55 = .ok (.aload_n 0, 1) := by decide +kernel
theorem dM_brokenClose_56 : decode c_M_brokenClose 56 = .ok (.iload_n 1, 1) := by decide +kernel
theorem dM_brokenClose_57 : decode c_M_brokenClose 57 = .ok (.aload_n 0, 1) := by decide +kernel
theorem dM_brokenClose_58 : decode c_M_brokenClose 58 = .ok (.getfield 22, 3) := by decide +kernel
theorem dM_brokenClose_61 : decode c_M_brokenClose 61 = .ok (.iload_n 3, 1) := by decide +kernel
theorem dM_brokenClose_62 : decode c_M_brokenClose 62 = .ok (.iaload, 1) := by decide +kernel
theorem dM_brokenClose_63 : decode c_M_brokenClose 63 = .ok (.iconst 5, 1) := by decide +kernel
theorem dM_brokenClose_64 : decode c_M_brokenClose 64 = .ok (.invokevirtual 84, 3) := by decide +kernel
theorem dM_brokenClose_67 : decode c_M_brokenClose 67 = .ok (.ifCond .eq 8, 3) := by decide +kernel
theorem dM_brokenClose_70 : decode c_M_brokenClose 70 = .ok (.bipush 10, 2) := by decide +kernel
theorem dM_brokenClose_72 : decode c_M_brokenClose 72 = .ok (.goto 4, 3) := by decide +kernel
theorem dM_brokenClose_75 : decode c_M_brokenClose 75 = .ok (.iconst 0, 1) := by decide +kernel
theorem dM_brokenClose_76 : decode c_M_brokenClose 76 = .ok (.ireturn, 1) := by decide +kernel
theorem dM_brokenUse_0 : decode c_M_brokenUse 0 = .ok (.bipush 8, 2) := by decide +kernel
theorem dM_brokenUse_2 : decode c_M_brokenUse 2 = .ok (.iload_n 1, 1) := by decide +kernel
theorem dM_brokenUse_3 : decode c_M_brokenUse 3 = .ok (.imul, 1) := by decide +kernel
theorem dM_brokenUse_4 : decode c_M_brokenUse 4 = .ok (.iload_n 2, 1) := by decide +kernel
theorem dM_brokenUse_5 : decode c_M_brokenUse 5 = .ok (.iadd, 1) := by decide +kernel
theorem dM_brokenUse_6 : decode c_M_brokenUse 6 = .ok (.istore 4, 2) := by decide +kernel
theorem dM_brokenUse_8 : decode c_M_brokenUse 8 = .ok (.iconst (-1), 1) := by decide +kernel
theorem dM_brokenUse_9 : decode c_M_brokenUse 9 = .ok (.istore 5, 2) := by decide +kernel
theorem dM_brokenUse_11 : decode c_M_brokenUse 11 = .ok (.bipush 8, 2) := by decide +kernel
theorem dM_brokenUse_13 : decode c_M_brokenUse 13 = .ok (.iload_n 1, 1) := by decide +kernel
theorem dM_brokenUse_14 : decode c_M_brokenUse 14 = .ok (.imul, 1) := by decide +kernel
theorem dM_brokenUse_15 : decode c_M_brokenUse 15 = .ok (.istore 6, 2) := by decide +kernel
theorem dM_brokenUse_17 : decode c_M_brokenUse 17 = .ok (.iload 6, 2) := by decide +kernel
theorem dM_brokenUse_19 : decode c_M_brokenUse 19 = .ok (.bipush 8, 2) := by decide +kernel
theorem dM_brokenUse_21 : decode c_M_brokenUse 21 = .ok (.iload_n 1, 1) := by decide +kernel
theorem dM_brokenUse_22 : decode c_M_brokenUse 22 = .ok (.imul, 1) := by decide +kernel
theorem dM_brokenUse_23 : decode c_M_brokenUse 23 = .ok (.bipush 8, 2) := by decide +kernel
theorem dM_brokenUse_25 : decode c_M_brokenUse 25 = .ok (.iadd, 1) := by decide +kernel
theorem dM_brokenUse_26 : decode c_M_brokenUse 26 = .ok (.if_icmp .ge 61, 3) := by decide +kernel
theorem dM_brokenUse_29 : decode c_M_brokenUse 29 = .ok (.aload_n 0, 1) := by decide +kernel
theorem dM_brokenUse_30 : decode c_M_brokenUse 30 = .ok (.getfield 22, 3) := by decide +kernel
theorem dM_brokenUse_33 : decode c_M_brokenUse 33 = .ok (.iload 6, 2) := by decide +kernel
theorem dM_brokenUse_35 : decode c_M_brokenUse 35 = .ok (.iaload, 1) := by decide +kernel
theorem dM_brokenUse_36 : decode c_M_brokenUse 36 = .ok (.iload 5, 2) := by decide +kernel
theorem dM_brokenUse_38 : decode c_M_brokenUse 38 = .ok (.if_icmp .le 13, 3) := by decide +kernel
theorem dM_brokenUse_41 : decode c_M_brokenUse 41 = .ok (.aload_n 0, 1) := by decide +kernel
theorem dM_brokenUse_42 : decode c_M_brokenUse 42 = .ok (.getfield 22, 3) := by decide +kernel
theorem dM_brokenUse_45 : decode c_M_brokenUse 45 = .ok (.iload 6, 2) := by decide +kernel
theorem dM_brokenUse_47 : decode c_M_brokenUse 47 = .ok (.iaload, 1) := by decide +kernel
theorem dM_brokenUse_48 : decode c_M_brokenUse 48 = .ok (.goto 5, 3) := by decide +kernel
theorem dM_brokenUse_51 : decode c_M_brokenUse 51 = .ok (.iload 5, 2) := by decide +kernel
theorem dM_brokenUse_53 : decode c_M_brokenUse 53 = .ok (.istore 5, 2) := by decide +kernel
theorem dM_brokenUse_55 : decode c_M_brokenUse 55 = .ok (.aload_n 0, 1) := by decide +kernel
theorem dM_brokenUse_56 : decode c_M_brokenUse 56 = .ok (.getfield 25, 3) := by decide +kernel
theorem dM_brokenUse_59 : decode c_M_brokenUse 59 = .ok (.iload 6, 2) := by decide +kernel
theorem dM_brokenUse_61 : decode c_M_brokenUse 61 = .ok (.iaload, 1) := by decide +kernel
theorem dM_brokenUse_62 : decode c_M_brokenUse 62 = .ok (.iload 5, 2) := by decide +kernel
theorem dM_brokenUse_64 : decode c_M_brokenUse 64 = .ok (.if_icmp .le 13, 3) := by decide +kernel
theorem dM_brokenUse_67 : decode c_M_brokenUse 67 = .ok (.aload_n 0, 1) := by decide +kernel
theorem dM_brokenUse_68 : decode c_M_brokenUse 68 = .ok (.getfield 25, 3) := by decide +kernel
theorem dM_brokenUse_71 : decode c_M_brokenUse 71 = .ok (.iload 6, 2) := by decide +kernel
theorem dM_brokenUse_73 : decode c_M_brokenUse 73 = .ok (.iaload, 1) := by decide +kernel
theorem dM_brokenUse_74 : decode c_M_brokenUse 74 = .ok (.goto 5, 3) := by decide +kernel
theorem dM_brokenUse_77 : decode c_M_brokenUse 77 = .ok (.iload 5, 2) := by decide +kernel
theorem dM_brokenUse_79 : decode c_M_brokenUse 79 = .ok (.istore 5, 2) := by decide +kernel
theorem dM_brokenUse_81 : decode c_M_brokenUse 81 = .ok (.iinc 6 1, 3) := by decide +kernel
theorem dM_brokenUse_84 : decode c_M_brokenUse 84 = .ok (.goto (-67), 3) := by decide +kernel
theorem dM_brokenUse_87 : decode c_M_brokenUse 87 = .ok (.aload_n 0, 1) := by decide +kernel
theorem dM_brokenUse_88 : decode c_M_brokenUse 88 = .ok (.getfield 13, 3) := by decide +kernel
theorem dM_brokenUse_91 : decode c_M_brokenUse 91 = .ok (.iload 4, 2) := by decide +kernel
theorem dM_brokenUse_93 : decode c_M_brokenUse 93 = .ok (.iaload, 1) := by decide +kernel
theorem dM_brokenUse_94 : decode c_M_brokenUse 94 = .ok (.iload_n 3, 1) := by decide +kernel
theorem dM_brokenUse_95 : decode c_M_brokenUse 95 = .ok (.if_icmp .eq 6, 3) := by decide +kernel
theorem dM_brokenUse_98 : decode c_M_brokenUse 98 = .ok (.bipush 11, 2) := by decide +kernel
theorem dM_brokenUse_100 : decode c_M_brokenUse 100 = .ok (.ireturn, 1) := by decide +kernel
theorem dM_brokenUse_101 : decode c_M_brokenUse 101 = .ok (.aload_n 0, 1) := by decide +kernel
theorem dM_brokenUse_102 : decode c_M_brokenUse 102 = .ok (.iload_n 1, 1) := by decide +kernel
theorem dM_brokenUse_103 : decode c_M_brokenUse 103 = .ok (.aload_n 0, 1) := by decide +kernel
theorem dM_brokenUse_104 : decode c_M_brokenUse 104 = .ok (.getfield 16, 3) := by decide +kernel
theorem dM_brokenUse_107 : decode c_M_brokenUse 107 = .ok (.iload 4, 2) := by decide +kernel
theorem dM_brokenUse_109 : decode c_M_brokenUse 109 = .ok (.iaload, 1) := by decide +kernel
theorem dM_brokenUse_110 : decode c_M_brokenUse 110 = .ok (.iconst 0, 1) := by decide +kernel
theorem dM_brokenUse_111 : decode c_M_brokenUse 111 = .ok (.invokevirtual 84, 3) := by decide +kernel
theorem dM_brokenUse_114 : decode c_M_brokenUse 114 = .ok (.ifCond .eq 6, 3) := by decide +kernel
theorem dM_brokenUse_117 : decode c_M_brokenUse 117 = .ok (.bipush 12, 2) := by decide +kernel
theorem dM_brokenUse_119 : decode c_M_brokenUse 119 = .ok (.ireturn, 1) := by decide +kernel
theorem dM_brokenUse_120 : decode c_M_brokenUse 120 = .ok (.aload_n 0, 1) := by decide +kernel
theorem dM_brokenUse_121 : decode c_M_brokenUse 121 = .ok (.iload_n 1, 1) := by decide +kernel
theorem dM_brokenUse_122 : decode c_M_brokenUse 122 = .ok (.iload 5, 2) := by decide +kernel
theorem dM_brokenUse_124 : decode c_M_brokenUse 124 = .ok (.bipush 6, 2) := by decide +kernel
theorem dM_brokenUse_126 : decode c_M_brokenUse 126 = .ok (.invokevirtual 84, 3) := by decide +kernel
theorem dM_brokenUse_129 : decode c_M_brokenUse 129 = .ok (.ifCond .eq 8, 3) := by decide +kernel
theorem dM_brokenUse_132 : decode c_M_brokenUse 132 = .ok (.bipush 13, 2) := by decide +kernel
theorem dM_brokenUse_134 : decode c_M_brokenUse 134 = .ok (.goto 4, 3) := by decide +kernel
theorem dM_brokenUse_137 : decode c_M_brokenUse 137 = .ok (.iconst 0, 1) := by decide +kernel
theorem dM_brokenUse_138 : decode c_M_brokenUse 138 = .ok (.ireturn, 1) := by decide +kernel
theorem dM_brokenRefresh_0 : decode c_M_brokenRefresh 0 = .ok (.iconst 0, 1) := by decide +kernel
theorem dM_brokenRefresh_1 : decode c_M_brokenRefresh 1 = .ok (.istore_n 2, 1) := by decide +kernel
theorem dM_brokenRefresh_2 : decode c_M_brokenRefresh 2 = .ok (.iconst 0, 1) := by decide +kernel
theorem dM_brokenRefresh_3 : decode c_M_brokenRefresh 3 = .ok (.istore_n 3, 1) := by decide +kernel
theorem dM_brokenRefresh_4 : decode c_M_brokenRefresh 4 = .ok (.bipush 8, 2) := by decide +kernel
theorem dM_brokenRefresh_6 : decode c_M_brokenRefresh 6 = .ok (.iload_n 1, 1) := by decide +kernel
theorem dM_brokenRefresh_7 : decode c_M_brokenRefresh 7 = .ok (.imul, 1) := by decide +kernel
theorem dM_brokenRefresh_8 : decode c_M_brokenRefresh 8 = .ok (.istore 4, 2) := by decide +kernel
theorem dM_brokenRefresh_10 : decode c_M_brokenRefresh 10 = .ok (.iload 4, 2) := by decide +kernel
theorem dM_brokenRefresh_12 : decode c_M_brokenRefresh 12 = .ok (.bipush 8, 2) := by decide +kernel
theorem dM_brokenRefresh_14 : decode c_M_brokenRefresh 14 = .ok (.iload_n 1, 1) := by decide +kernel
theorem dM_brokenRefresh_15 : decode c_M_brokenRefresh 15 = .ok (.imul, 1) := by decide +kernel
theorem dM_brokenRefresh_16 : decode c_M_brokenRefresh 16 = .ok (.bipush 8, 2) := by decide +kernel
theorem dM_brokenRefresh_18 : decode c_M_brokenRefresh 18 = .ok (.iadd, 1) := by decide +kernel
theorem dM_brokenRefresh_19 : decode c_M_brokenRefresh 19 = .ok (.if_icmp .ge 55, 3) := by decide +kernel
theorem dM_brokenRefresh_22 : decode c_M_brokenRefresh 22 = .ok (.iload_n 2, 1) := by decide +kernel
theorem dM_brokenRefresh_23 : decode c_M_brokenRefresh 23 = .ok (.ifCond .ne 13, 3) := by decide +kernel
theorem dM_brokenRefresh_26 : decode c_M_brokenRefresh 26 = .ok (.aload_n 0, 1) := by decide +kernel
theorem dM_brokenRefresh_27 : decode c_M_brokenRefresh 27 = .ok (.getfield 13, 3) := by decide +kernel
theorem dM_brokenRefresh_30 : decode c_M_brokenRefresh 30 = .ok (.iload 4, 2) := by decide +kernel
theorem dM_brokenRefresh_32 : decode c_M_brokenRefresh 32 = .ok (.iaload, 1) := by decide +kernel
theorem dM_brokenRefresh_33 : decode c_M_brokenRefresh 33 = .ok (.ifCond .lt 7, 3) := by decide +kernel
theorem dM_brokenRefresh_36 : decode c_M_brokenRefresh 36 = .ok (.iconst 1, 1) := by decide +kernel
theorem dM_brokenRefresh_37 : decode c_M_brokenRefresh 37 = .ok (.goto 4, 3) := by decide +kernel
theorem dM_brokenRefresh_40 : decode c_M_brokenRefresh 40 = .ok (.iconst 0, 1) := by decide +kernel
theorem dM_brokenRefresh_41 : decode c_M_brokenRefresh 41 = .ok (.istore_n 2, 1) := by decide +kernel
theorem dM_brokenRefresh_42 : decode c_M_brokenRefresh 42 = .ok (.iload_n 3, 1) := by decide +kernel
theorem dM_brokenRefresh_43 : decode c_M_brokenRefresh 43 = .ok (.ifCond .ne 19, 3) := by decide +kernel
theorem dM_brokenRefresh_46 : decode c_M_brokenRefresh 46 = .ok (.aload_n 0, 1) := by decide +kernel
theorem dM_brokenRefresh_47 : decode c_M_brokenRefresh 47 = .ok (.iload_n 1, 1) := by decide +kernel
theorem dM_brokenRefresh_48 : decode c_M_brokenRefresh 48 = .ok (.aload_n 0, 1) := by decide +kernel
theorem dM_brokenRefresh_49 : decode c_M_brokenRefresh 49 = .ok (.getfield 19, 3) := by decide +kernel
theorem dM_brokenRefresh_52 : decode c_M_brokenRefresh 52 = .ok (.iload 4, 2) := by decide +kernel
theorem dM_brokenRefresh_54 : decode c_M_brokenRefresh 54 = .ok (.iaload, 1) := by decide +kernel
theorem dM_brokenRefresh_55 : decode c_M_brokenRefresh 55 = .ok (.iconst 1, 1) := by decide +kernel
theorem dM_brokenRefresh_56 : decode c_M_brokenRefresh 56 = .ok (.invokevirtual 84, 3) := by decide +kernel
theorem dM_brokenRefresh_59 : decode c_M_brokenRefresh 59 = .ok (.ifCond .eq 7, 3) := by decide +kernel
theorem dM_brokenRefresh_62 : decode c_M_brokenRefresh 62 = .ok (.iconst 1, 1) := by decide +kernel
theorem dM_brokenRefresh_63 : decode c_M_brokenRefresh 63 = .ok (.goto 4, 3) := by decide +kernel
theorem dM_brokenRefresh_66 : decode c_M_brokenRefresh 66 = .ok (.iconst 0, 1) := by decide +kernel
theorem dM_brokenRefresh_67 : decode c_M_brokenRefresh 67 = .ok (.istore_n 3, 1) := by decide +kernel
theorem dM_brokenRefresh_68 : decode c_M_brokenRefresh 68 = .ok (.iinc 4 1, 3) := by decide +kernel
theorem dM_brokenRefresh_71 : decode c_M_brokenRefresh 71 = .ok (.goto (-61), 3) := by decide +kernel
theorem dM_brokenRefresh_74 : decode c_M_brokenRefresh 74 = .ok (.iload_n 2, 1) := by decide +kernel
theorem dM_brokenRefresh_75 : decode c_M_brokenRefresh 75 = .ok (.ifCond .eq 8, 3) := by decide +kernel
theorem dM_brokenRefresh_78 : decode c_M_brokenRefresh 78 = .ok (.bipush 14, 2) := by decide +kernel
theorem dM_brokenRefresh_80 : decode c_M_brokenRefresh 80 = .ok (.goto 34, 3) := by decide +kernel
theorem dM_brokenRefresh_83 : decode c_M_brokenRefresh 83 = .ok (.iload_n 3, 1) := by decide +kernel
theorem dM_brokenRefresh_84 : decode c_M_brokenRefresh 84 = .ok (.ifCond .eq 8, 3) := by decide +kernel
theorem dM_brokenRefresh_87 : decode c_M_brokenRefresh 87 = .ok (.bipush 15, 2) := by decide +kernel
theorem dM_brokenRefresh_89 : decode c_M_brokenRefresh 89 = .ok (.goto 25, 3) := by decide +kernel
theorem dM_brokenRefresh_92 : decode c_M_brokenRefresh 92 = .ok (.aload_n 0, 1) := by decide +kernel
theorem dM_brokenRefresh_93 : decode c_M_brokenRefresh 93 = .ok (.iload_n 1, 1) := by decide +kernel
theorem dM_brokenRefresh_94 : decode c_M_brokenRefresh 94 = .ok (.aload_n 0, 1) := by decide +kernel
theorem dM_brokenRefresh_95 : decode c_M_brokenRefresh 95 = .ok (.getfield 31, 3) := by decide +kernel
theorem dM_brokenRefresh_98 : decode c_M_brokenRefresh 98 = .ok (.iload_n 1, 1) := by decide +kernel
theorem dM_brokenRefresh_99 : decode c_M_brokenRefresh 99 = .ok (.iaload, 1) := by decide +kernel
theorem dM_brokenRefresh_100 : decode c_M_brokenRefresh 100 = .ok (.bipush 9, 2) := by decide +kernel
theorem dM_brokenRefresh_102 : decode c_M_brokenRefresh 102 = .ok (.invokevirtual 84, 3) := by decide +kernel
theorem dM_brokenRefresh_105 : decode c_M_brokenRefresh 105 = .ok (.ifCond .eq 8, 3) := by decide +kernel
theorem dM_brokenRefresh_108 : decode c_M_brokenRefresh 108 = .ok (.bipush 16, 2) := by decide +kernel
theorem dM_brokenRefresh_110 : decode c_M_brokenRefresh 110 = .ok (.goto 4, 3) := by decide +kernel
theorem dM_brokenRefresh_113 : decode c_M_brokenRefresh 113 = .ok (.iconst 0, 1) := by decide +kernel
theorem dM_brokenRefresh_114 : decode c_M_brokenRefresh 114 = .ok (.ireturn, 1) := by decide +kernel
theorem dM_broken_0 : decode c_M_broken 0 = .ok (.iload_n 2, 1) := by decide +kernel
theorem dM_broken_1 : decode c_M_broken 1 = .ok (.tableswitch 55 0 4 #[35, 42, 55, 55, 49], 35) := by decide +kernel
theorem dM_broken_36 : decode c_M_broken 36 = .ok (.aload_n 0, 1) := by decide +kernel
theorem dM_broken_37 : decode c_M_broken 37 = .ok (.iload_n 1, 1) := by decide +kernel
theorem dM_broken_38 : decode c_M_broken 38 = .ok (.iload_n 3, 1) := by decide +kernel
theorem dM_broken_39 : decode c_M_broken 39 = .ok (.invokevirtual 88, 3) := by decide +kernel
theorem dM_broken_42 : decode c_M_broken 42 = .ok (.ireturn, 1) := by decide +kernel
theorem dM_broken_43 : decode c_M_broken 43 = .ok (.aload_n 0, 1) := by decide +kernel
theorem dM_broken_44 : decode c_M_broken 44 = .ok (.iload_n 1, 1) := by decide +kernel
theorem dM_broken_45 : decode c_M_broken 45 = .ok (.iload_n 3, 1) := by decide +kernel
theorem dM_broken_46 : decode c_M_broken 46 = .ok (.invokevirtual 92, 3) := by decide +kernel
theorem dM_broken_49 : decode c_M_broken 49 = .ok (.ireturn, 1) := by decide +kernel
theorem dM_broken_50 : decode c_M_broken 50 = .ok (.aload_n 0, 1) := by decide +kernel
theorem dM_broken_51 : decode c_M_broken 51 = .ok (.iload_n 1, 1) := by decide +kernel
theorem dM_broken_52 : decode c_M_broken 52 = .ok (.invokevirtual 95, 3) := by decide +kernel
theorem dM_broken_55 : decode c_M_broken 55 = .ok (.ireturn, 1) := by decide +kernel
theorem dM_broken_56 : decode c_M_broken 56 = .ok (.aload_n 0, 1) := by decide +kernel
theorem dM_broken_57 : decode c_M_broken 57 = .ok (.iload_n 1, 1) := by decide +kernel
theorem dM_broken_58 : decode c_M_broken 58 = .ok (.iload_n 3, 1) := by decide +kernel
theorem dM_broken_59 : decode c_M_broken 59 = .ok (.iload 4, 2) := by decide +kernel
theorem dM_broken_61 : decode c_M_broken 61 = .ok (.invokevirtual 99, 3) := by decide +kernel
theorem dM_broken_64 : decode c_M_broken 64 = .ok (.ireturn, 1) := by decide +kernel
theorem dM_give_0 : decode c_M_give 0 = .ok (.bipush 8, 2) := by decide +kernel
theorem dM_give_2 : decode c_M_give 2 = .ok (.iload_n 1, 1) := by decide +kernel
theorem dM_give_3 : decode c_M_give 3 = .ok (.imul, 1) := by decide +kernel
theorem dM_give_4 : decode c_M_give 4 = .ok (.iload_n 3, 1) := by decide +kernel
theorem dM_give_5 : decode c_M_give 5 = .ok (.iadd, 1) := by decide +kernel
theorem dM_give_6 : decode c_M_give 6 = .ok (.istore 5, 2) := by decide +kernel
theorem dM_give_8 : decode c_M_give 8 = .ok (.aload_n 0, 1) := by decide +kernel
theorem dM_give_9 : decode c_M_give 9 = .ok (.getfield 34, 3) := by decide +kernel
theorem dM_give_12 : decode c_M_give 12 = .ok (.iload_n 1, 1) := by decide +kernel
theorem dM_give_13 : decode c_M_give 13 = .ok (.iaload, 1) := by decide +kernel
theorem dM_give_14 : decode c_M_give 14 = .ok (.istore 6, 2) := by decide +kernel
theorem dM_give_16 : decode c_M_give 16 = .ok (.iload_n 2, 1) := by decide +kernel
theorem dM_give_17 : decode c_M_give 17 = .ok (.tableswitch 144 0 3 #[31, 100, 120, 132], 31) := by decide +kernel
theorem dM_give_48 : decode c_M_give 48 = .ok (.aload_n 0, 1) := by decide +kernel
theorem dM_give_49 : decode c_M_give 49 = .ok (.getfield 13, 3) := by decide +kernel
theorem dM_give_52 : decode c_M_give 52 = .ok (.iload 5, 2) := by decide +kernel
theorem dM_give_54 : decode c_M_give 54 = .ok (.iload 4, 2) := by decide +kernel
theorem dM_give_56 : decode c_M_give 56 = .ok (.iastore, 1) := by decide +kernel
theorem dM_give_57 : decode c_M_give 57 = .ok (.aload_n 0, 1) := by decide +kernel
theorem dM_give_58 : decode c_M_give 58 = .ok (.getfield 16, 3) := by decide +kernel
theorem dM_give_61 : decode c_M_give 61 = .ok (.iload 5, 2) := by decide +kernel
theorem dM_give_63 : decode c_M_give 63 = .ok (.iload 6, 2) := by decide +kernel
theorem dM_give_65 : decode c_M_give 65 = .ok (.iastore, 1) := by decide +kernel
theorem dM_give_66 : decode c_M_give 66 = .ok (.iconst 3, 1) := by decide +kernel
theorem dM_give_67 : decode c_M_give 67 = .ok (.istore 7, 2) := by decide +kernel
theorem dM_give_69 : decode c_M_give 69 = .ok (.iload 7, 2) := by decide +kernel
theorem dM_give_71 : decode c_M_give 71 = .ok (.ifCond .le 33, 3) := by decide +kernel
theorem dM_give_74 : decode c_M_give 74 = .ok (.aload_n 0, 1) := by decide +kernel
theorem dM_give_75 : decode c_M_give 75 = .ok (.getfield 28, 3) := by decide +kernel
theorem dM_give_78 : decode c_M_give 78 = .ok (.iconst 4, 1) := by decide +kernel
theorem dM_give_79 : decode c_M_give 79 = .ok (.iload_n 1, 1) := by decide +kernel
theorem dM_give_80 : decode c_M_give 80 = .ok (.imul, 1) := by decide +kernel
theorem dM_give_81 : decode c_M_give 81 = .ok (.iload 7, 2) := by decide +kernel
theorem dM_give_83 : decode c_M_give 83 = .ok (.iadd, 1) := by decide +kernel
theorem dM_give_84 : decode c_M_give 84 = .ok (.aload_n 0, 1) := by decide +kernel
theorem dM_give_85 : decode c_M_give 85 = .ok (.getfield 28, 3) := by decide +kernel
theorem dM_give_88 : decode c_M_give 88 = .ok (.iconst 4, 1) := by decide +kernel
theorem dM_give_89 : decode c_M_give 89 = .ok (.iload_n 1, 1) := by decide +kernel
theorem dM_give_90 : decode c_M_give 90 = .ok (.imul, 1) := by decide +kernel
theorem dM_give_91 : decode c_M_give 91 = .ok (.iload 7, 2) := by decide +kernel
theorem dM_give_93 : decode c_M_give 93 = .ok (.iadd, 1) := by decide +kernel
theorem dM_give_94 : decode c_M_give 94 = .ok (.iconst 1, 1) := by decide +kernel
theorem dM_give_95 : decode c_M_give 95 = .ok (.isub, 1) := by decide +kernel
theorem dM_give_96 : decode c_M_give 96 = .ok (.iaload, 1) := by decide +kernel
theorem dM_give_97 : decode c_M_give 97 = .ok (.iastore, 1) := by decide +kernel
theorem dM_give_98 : decode c_M_give 98 = .ok (.iinc 7 (-1), 3) := by decide +kernel
theorem dM_give_101 : decode c_M_give 101 = .ok (.goto (-32), 3) := by decide +kernel
theorem dM_give_104 : decode c_M_give 104 = .ok (.aload_n 0, 1) := by decide +kernel
theorem dM_give_105 : decode c_M_give 105 = .ok (.getfield 28, 3) := by decide +kernel
theorem dM_give_108 : decode c_M_give 108 = .ok (.iconst 4, 1) := by decide +kernel
theorem dM_give_109 : decode c_M_give 109 = .ok (.iload_n 1, 1) := by decide +kernel
theorem dM_give_110 : decode c_M_give 110 = .ok (.imul, 1) := by decide +kernel
theorem dM_give_111 : decode c_M_give 111 = .ok (.iload 6, 2) := by decide +kernel
theorem dM_give_113 : decode c_M_give 113 = .ok (.iastore, 1) := by decide +kernel
theorem dM_give_114 : decode c_M_give 114 = .ok (.goto 55, 3) := by decide +kernel
theorem dM_give_117 : decode c_M_give 117 = .ok (.aload_n 0, 1) := by decide +kernel
theorem dM_give_118 : decode c_M_give 118 = .ok (.getfield 13, 3) := by decide +kernel
theorem dM_give_121 : decode c_M_give 121 = .ok (.iload 5, 2) := by decide +kernel
theorem dM_give_123 : decode c_M_give 123 = .ok (.iconst (-1), 1) := by decide +kernel
theorem dM_give_124 : decode c_M_give 124 = .ok (.iastore, 1) := by decide +kernel
theorem dM_give_125 : decode c_M_give 125 = .ok (.aload_n 0, 1) := by decide +kernel
theorem dM_give_126 : decode c_M_give 126 = .ok (.getfield 19, 3) := by decide +kernel
theorem dM_give_129 : decode c_M_give 129 = .ok (.iload 5, 2) := by decide +kernel
theorem dM_give_131 : decode c_M_give 131 = .ok (.iload 6, 2) := by decide +kernel
theorem dM_give_133 : decode c_M_give 133 = .ok (.iastore, 1) := by decide +kernel
theorem dM_give_134 : decode c_M_give 134 = .ok (.goto 35, 3) := by decide +kernel
theorem dM_give_137 : decode c_M_give 137 = .ok (.aload_n 0, 1) := by decide +kernel
theorem dM_give_138 : decode c_M_give 138 = .ok (.getfield 22, 3) := by decide +kernel
theorem dM_give_141 : decode c_M_give 141 = .ok (.iload 5, 2) := by decide +kernel
theorem dM_give_143 : decode c_M_give 143 = .ok (.iload 6, 2) := by decide +kernel
theorem dM_give_145 : decode c_M_give 145 = .ok (.iastore, 1) := by decide +kernel
theorem dM_give_146 : decode c_M_give 146 = .ok (.goto 23, 3) := by decide +kernel
theorem dM_give_149 : decode c_M_give 149 = .ok (.aload_n 0, 1) := by decide +kernel
theorem dM_give_150 : decode c_M_give 150 = .ok (.getfield 25, 3) := by decide +kernel
theorem dM_give_153 : decode c_M_give 153 = .ok (.iload 5, 2) := by decide +kernel
theorem dM_give_155 : decode c_M_give 155 = .ok (.iload 6, 2) := by decide +kernel
theorem dM_give_157 : decode c_M_give 157 = .ok (.iastore, 1) := by decide +kernel
theorem dM_give_158 : decode c_M_give 158 = .ok (.goto 11, 3) := by decide +kernel
theorem dM_give_161 : decode c_M_give 161 = .ok (.aload_n 0, 1) := by decide +kernel
theorem dM_give_162 : decode c_M_give 162 = .ok (.getfield 31, 3) := by decide +kernel
theorem dM_give_165 : decode c_M_give 165 = .ok (.iload_n 1, 1) := by decide +kernel
theorem dM_give_166 : decode c_M_give 166 = .ok (.iload 6, 2) := by decide +kernel
theorem dM_give_168 : decode c_M_give 168 = .ok (.iastore, 1) := by decide +kernel
theorem dM_give_169 : decode c_M_give 169 = .ok (.return_, 1) := by decide +kernel
theorem dM_isBank_0 : decode c_M_isBank 0 = .ok (.iload_n 1, 1) := by decide +kernel
theorem dM_isBank_1 : decode c_M_isBank 1 = .ok (.ifCond .lt 15, 3) := by decide +kernel
theorem dM_isBank_4 : decode c_M_isBank 4 = .ok (.iload_n 1, 1) := by decide +kernel
theorem dM_isBank_5 : decode c_M_isBank 5 = .ok (.aload_n 0, 1) := by decide +kernel
theorem dM_isBank_6 : decode c_M_isBank 6 = .ok (.getfield 71, 3) := by decide +kernel
theorem dM_isBank_9 : decode c_M_isBank 9 = .ok (.if_icmp .ge 7, 3) := by decide +kernel
theorem dM_isBank_12 : decode c_M_isBank 12 = .ok (.iconst 1, 1) := by decide +kernel
theorem dM_isBank_13 : decode c_M_isBank 13 = .ok (.goto 4, 3) := by decide +kernel
theorem dM_isBank_16 : decode c_M_isBank 16 = .ok (.iconst 0, 1) := by decide +kernel
theorem dM_isBank_17 : decode c_M_isBank 17 = .ok (.ireturn, 1) := by decide +kernel
theorem dM_isRow_0 : decode c_M_isRow 0 = .ok (.iload_n 0, 1) := by decide +kernel
theorem dM_isRow_1 : decode c_M_isRow 1 = .ok (.ifCond .lt 13, 3) := by decide +kernel
theorem dM_isRow_4 : decode c_M_isRow 4 = .ok (.iload_n 0, 1) := by decide +kernel
theorem dM_isRow_5 : decode c_M_isRow 5 = .ok (.bipush 16, 2) := by decide +kernel
theorem dM_isRow_7 : decode c_M_isRow 7 = .ok (.if_icmp .ge 7, 3) := by decide +kernel
theorem dM_isRow_10 : decode c_M_isRow 10 = .ok (.iconst 1, 1) := by decide +kernel
theorem dM_isRow_11 : decode c_M_isRow 11 = .ok (.goto 4, 3) := by decide +kernel
theorem dM_isRow_14 : decode c_M_isRow 14 = .ok (.iconst 0, 1) := by decide +kernel
theorem dM_isRow_15 : decode c_M_isRow 15 = .ok (.ireturn, 1) := by decide +kernel
theorem dM_isWord_0 : decode c_M_isWord 0 = .ok (.aload_n 0, 1) := by decide +kernel
theorem dM_isWord_1 : decode c_M_isWord 1 = .ok (.iload_n 1, 1) := by decide +kernel
theorem dM_isWord_2 : decode c_M_isWord 2 = .ok (.invokevirtual 103, 3) := by decide +kernel
theorem dM_isWord_5 : decode c_M_isWord 5 = .ok (.ifCond .eq 24, 3) := by decide +kernel
theorem dM_isWord_8 : decode c_M_isWord 8 = .ok (.iload_n 2, 1) := by decide +kernel
theorem dM_isWord_9 : decode c_M_isWord 9 = .ok (.invokestatic 107, 3) := by decide +kernel
theorem dM_isWord_12 : decode c_M_isWord 12 = .ok (.ifCond .eq 17, 3) := by decide +kernel
theorem dM_isWord_15 : decode c_M_isWord 15 = .ok (.iload_n 3, 1) := by decide +kernel
theorem dM_isWord_16 : decode c_M_isWord 16 = .ok (.ifCond .lt 13, 3) := by decide +kernel
theorem dM_isWord_19 : decode c_M_isWord 19 = .ok (.iload_n 3, 1) := by decide +kernel
theorem dM_isWord_20 : decode c_M_isWord 20 = .ok (.bipush 8, 2) := by decide +kernel
theorem dM_isWord_22 : decode c_M_isWord 22 = .ok (.if_icmp .ge 7, 3) := by decide +kernel
theorem dM_isWord_25 : decode c_M_isWord 25 = .ok (.iconst 1, 1) := by decide +kernel
theorem dM_isWord_26 : decode c_M_isWord 26 = .ok (.goto 4, 3) := by decide +kernel
theorem dM_isWord_29 : decode c_M_isWord 29 = .ok (.iconst 0, 1) := by decide +kernel
theorem dM_isWord_30 : decode c_M_isWord 30 = .ok (.ireturn, 1) := by decide +kernel
theorem dM_request_0 : decode c_M_request 0 = .ok (.aload_n 0, 1) := by decide +kernel
theorem dM_request_1 : decode c_M_request 1 = .ok (.aload_n 0, 1) := by decide +kernel
theorem dM_request_2 : decode c_M_request 2 = .ok (.iload_n 1, 1) := by decide +kernel
theorem dM_request_3 : decode c_M_request 3 = .ok (.iload_n 2, 1) := by decide +kernel
theorem dM_request_4 : decode c_M_request 4 = .ok (.iload_n 3, 1) := by decide +kernel
theorem dM_request_5 : decode c_M_request 5 = .ok (.invokevirtual 110, 3) := by decide +kernel
theorem dM_request_8 : decode c_M_request 8 = .ok (.ifCond .ne 7, 3) := by decide +kernel
theorem dM_request_11 : decode c_M_request 11 = .ok (.iconst 1, 1) := by decide +kernel
theorem dM_request_12 : decode c_M_request 12 = .ok (.goto 19, 3) := by decide +kernel
theorem dM_request_15 : decode c_M_request 15 = .ok (.aload_n 0, 1) := by decide +kernel
theorem dM_request_16 : decode c_M_request 16 = .ok (.getfield 113, 3) := by decide +kernel
theorem dM_request_19 : decode c_M_request 19 = .ok (.aload_n 0, 1) := by decide +kernel
theorem dM_request_20 : decode c_M_request 20 = .ok (.getfield 75, 3) := by decide +kernel
theorem dM_request_23 : decode c_M_request 23 = .ok (.if_icmp .ne 7, 3) := by decide +kernel
theorem dM_request_26 : decode c_M_request 26 = .ok (.iconst 2, 1) := by decide +kernel
theorem dM_request_27 : decode c_M_request 27 = .ok (.goto 4, 3) := by decide +kernel
theorem dM_request_30 : decode c_M_request 30 = .ok (.iconst 0, 1) := by decide +kernel
theorem dM_request_31 : decode c_M_request 31 = .ok (.putfield 81, 3) := by decide +kernel
theorem dM_request_34 : decode c_M_request 34 = .ok (.aload_n 0, 1) := by decide +kernel
theorem dM_request_35 : decode c_M_request 35 = .ok (.getfield 81, 3) := by decide +kernel
theorem dM_request_38 : decode c_M_request 38 = .ok (.ifCond .eq 5, 3) := by decide +kernel
theorem dM_request_41 : decode c_M_request 41 = .ok (.iconst 0, 1) := by decide +kernel
theorem dM_request_42 : decode c_M_request 42 = .ok (.ireturn, 1) := by decide +kernel
theorem dM_request_43 : decode c_M_request 43 = .ok (.aload_n 0, 1) := by decide +kernel
theorem dM_request_44 : decode c_M_request 44 = .ok (.getfield 40, 3) := by decide +kernel
theorem dM_request_47 : decode c_M_request 47 = .ok (.aload_n 0, 1) := by decide +kernel
theorem dM_request_48 : decode c_M_request 48 = .ok (.getfield 113, 3) := by decide +kernel
theorem dM_request_51 : decode c_M_request 51 = .ok (.aload_n 0, 1) := by decide +kernel
theorem dM_request_52 : decode c_M_request 52 = .ok (.getfield 116, 3) := by decide +kernel
theorem dM_request_55 : decode c_M_request 55 = .ok (.iastore, 1) := by decide +kernel
theorem dM_request_56 : decode c_M_request 56 = .ok (.aload_n 0, 1) := by decide +kernel
theorem dM_request_57 : decode c_M_request 57 = .ok (.getfield 43, 3) := by decide +kernel
theorem dM_request_60 : decode c_M_request 60 = .ok (.aload_n 0, 1) := by decide +kernel
theorem dM_request_61 : decode c_M_request 61 = .ok (.getfield 113, 3) := by decide +kernel
theorem dM_request_64 : decode c_M_request 64 = .ok (.iload_n 1, 1) := by decide +kernel
theorem dM_request_65 : decode c_M_request 65 = .ok (.iastore, 1) := by decide +kernel
theorem dM_request_66 : decode c_M_request 66 = .ok (.aload_n 0, 1) := by decide +kernel
theorem dM_request_67 : decode c_M_request 67 = .ok (.getfield 46, 3) := by decide +kernel
theorem dM_request_70 : decode c_M_request 70 = .ok (.aload_n 0, 1) := by decide +kernel
theorem dM_request_71 : decode c_M_request 71 = .ok (.getfield 113, 3) := by decide +kernel
theorem dM_request_74 : decode c_M_request 74 = .ok (.iload_n 2, 1) := by decide +kernel
theorem dM_request_75 : decode c_M_request 75 = .ok (.iastore, 1) := by decide +kernel
theorem dM_request_76 : decode c_M_request 76 = .ok (.aload_n 0, 1) := by decide +kernel
theorem dM_request_77 : decode c_M_request 77 = .ok (.getfield 49, 3) := by decide +kernel
theorem dM_request_80 : decode c_M_request 80 = .ok (.aload_n 0, 1) := by decide +kernel
theorem dM_request_81 : decode c_M_request 81 = .ok (.getfield 113, 3) := by decide +kernel
theorem dM_request_84 : decode c_M_request 84 = .ok (.iload_n 3, 1) := by decide +kernel
theorem dM_request_85 : decode c_M_request 85 = .ok (.iastore, 1) := by decide +kernel
theorem dM_request_86 : decode c_M_request 86 = .ok (.aload_n 0, 1) := by decide +kernel
theorem dM_request_87 : decode c_M_request 87 = .ok (.getfield 52, 3) := by decide +kernel
theorem dM_request_90 : decode c_M_request 90 = .ok (.aload_n 0, 1) := by decide +kernel
theorem dM_request_91 : decode c_M_request 91 = .ok (.getfield 113, 3) := by decide +kernel
theorem dM_request_94 : decode c_M_request 94 = .ok (.iload 4, 2) := by decide +kernel
theorem dM_request_96 : decode c_M_request 96 = .ok (.bastore, 1) := by decide +kernel
theorem dM_request_97 : decode c_M_request 97 = .ok (.aload_n 0, 1) := by decide +kernel
theorem dM_request_98 : decode c_M_request 98 = .ok (.getfield 56, 3) := by decide +kernel
theorem dM_request_101 : decode c_M_request 101 = .ok (.aload_n 0, 1) := by decide +kernel
theorem dM_request_102 : decode c_M_request 102 = .ok (.getfield 113, 3) := by decide +kernel
theorem dM_request_105 : decode c_M_request 105 = .ok (.iload 5, 2) := by decide +kernel
theorem dM_request_107 : decode c_M_request 107 = .ok (.iastore, 1) := by decide +kernel
theorem dM_request_108 : decode c_M_request 108 = .ok (.aload_n 0, 1) := by decide +kernel
theorem dM_request_109 : decode c_M_request 109 = .ok (.getfield 59, 3) := by decide +kernel
theorem dM_request_112 : decode c_M_request 112 = .ok (.aload_n 0, 1) := by decide +kernel
theorem dM_request_113 : decode c_M_request 113 = .ok (.getfield 113, 3) := by decide +kernel
theorem dM_request_116 : decode c_M_request 116 = .ok (.aload_n 0, 1) := by decide +kernel
theorem dM_request_117 : decode c_M_request 117 = .ok (.getfield 34, 3) := by decide +kernel
theorem dM_request_120 : decode c_M_request 120 = .ok (.iconst 0, 1) := by decide +kernel
theorem dM_request_121 : decode c_M_request 121 = .ok (.iaload, 1) := by decide +kernel
theorem dM_request_122 : decode c_M_request 122 = .ok (.iastore, 1) := by decide +kernel
theorem dM_request_123 : decode c_M_request 123 = .ok (.aload_n 0, 1) := by decide +kernel
theorem dM_request_124 : decode c_M_request 124 = .ok (.dup, 1) := by decide +kernel
theorem dM_request_125 : decode c_M_request 125 = .ok (.getfield 113, 3) := by decide +kernel
theorem dM_request_128 : decode c_M_request 128 = .ok (.iconst 1, 1) := by decide +kernel
theorem dM_request_129 : decode c_M_request 129 = .ok (.iadd, 1) := by decide +kernel
theorem dM_request_130 : decode c_M_request 130 = .ok (.putfield 113, 3) := by decide +kernel
theorem dM_request_133 : decode c_M_request 133 = .ok (.aload_n 0, 1) := by decide +kernel
theorem dM_request_134 : decode c_M_request 134 = .ok (.getfield 62, 3) := by decide +kernel
theorem dM_request_137 : decode c_M_request 137 = .ok (.aload_n 0, 1) := by decide +kernel
theorem dM_request_138 : decode c_M_request 138 = .ok (.getfield 116, 3) := by decide +kernel
theorem dM_request_141 : decode c_M_request 141 = .ok (.bipush 32, 2) := by decide +kernel
theorem dM_request_143 : decode c_M_request 143 = .ok (.irem, 1) := by decide +kernel
theorem dM_request_144 : decode c_M_request 144 = .ok (.iconst (-1), 1) := by decide +kernel
theorem dM_request_145 : decode c_M_request 145 = .ok (.iastore, 1) := by decide +kernel
theorem dM_request_146 : decode c_M_request 146 = .ok (.aload_n 0, 1) := by decide +kernel
theorem dM_request_147 : decode c_M_request 147 = .ok (.dup, 1) := by decide +kernel
theorem dM_request_148 : decode c_M_request 148 = .ok (.getfield 116, 3) := by decide +kernel
theorem dM_request_151 : decode c_M_request 151 = .ok (.iconst 1, 1) := by decide +kernel
theorem dM_request_152 : decode c_M_request 152 = .ok (.iadd, 1) := by decide +kernel
theorem dM_request_153 : decode c_M_request 153 = .ok (.putfield 116, 3) := by decide +kernel
theorem dM_request_156 : decode c_M_request 156 = .ok (.aload_n 0, 1) := by decide +kernel
theorem dM_request_157 : decode c_M_request 157 = .ok (.getfield 116, 3) := by decide +kernel
theorem dM_request_160 : decode c_M_request 160 = .ok (.iconst 1, 1) := by decide +kernel
theorem dM_request_161 : decode c_M_request 161 = .ok (.isub, 1) := by decide +kernel
theorem dM_request_162 : decode c_M_request 162 = .ok (.ireturn, 1) := by decide +kernel
theorem dM_read_0 : decode c_M_read 0 = .ok (.aload_n 0, 1) := by decide +kernel
theorem dM_read_1 : decode c_M_read 1 = .ok (.iload_n 1, 1) := by decide +kernel
theorem dM_read_2 : decode c_M_read 2 = .ok (.iload_n 2, 1) := by decide +kernel
theorem dM_read_3 : decode c_M_read 3 = .ok (.iload_n 3, 1) := by decide +kernel
theorem dM_read_4 : decode c_M_read 4 = .ok (.iconst 0, 1) := by decide +kernel
theorem dM_read_5 : decode c_M_read 5 = .ok (.iconst 0, 1) := by decide +kernel
theorem dM_read_6 : decode c_M_read 6 = .ok (.invokevirtual 119, 3) := by decide +kernel
theorem dM_read_9 : decode c_M_read 9 = .ok (.ireturn, 1) := by decide +kernel
theorem dM_write_0 : decode c_M_write 0 = .ok (.aload_n 0, 1) := by decide +kernel
theorem dM_write_1 : decode c_M_write 1 = .ok (.iload_n 1, 1) := by decide +kernel
theorem dM_write_2 : decode c_M_write 2 = .ok (.iload_n 2, 1) := by decide +kernel
theorem dM_write_3 : decode c_M_write 3 = .ok (.iload_n 3, 1) := by decide +kernel
theorem dM_write_4 : decode c_M_write 4 = .ok (.iconst 1, 1) := by decide +kernel
theorem dM_write_5 : decode c_M_write 5 = .ok (.iload 4, 2) := by decide +kernel
theorem dM_write_7 : decode c_M_write 7 = .ok (.invokevirtual 119, 3) := by decide +kernel
theorem dM_write_10 : decode c_M_write 10 = .ok (.ireturn, 1) := by decide +kernel
theorem dM_serve_0 : decode c_M_serve 0 = .ok (.sipush 128, 3) := by decide +kernel
theorem dM_serve_3 : decode c_M_serve 3 = .ok (.aload_n 0, 1) := by decide +kernel
theorem dM_serve_4 : decode c_M_serve 4 = .ok (.getfield 43, 3) := by decide +kernel
theorem dM_serve_7 : decode c_M_serve 7 = .ok (.iload_n 1, 1) := by decide +kernel
theorem dM_serve_8 : decode c_M_serve 8 = .ok (.iaload, 1) := by decide +kernel
theorem dM_serve_9 : decode c_M_serve 9 = .ok (.imul, 1) := by decide +kernel
theorem dM_serve_10 : decode c_M_serve 10 = .ok (.bipush 8, 2) := by decide +kernel
theorem dM_serve_12 : decode c_M_serve 12 = .ok (.aload_n 0, 1) := by decide +kernel
theorem dM_serve_13 : decode c_M_serve 13 = .ok (.getfield 46, 3) := by decide +kernel
theorem dM_serve_16 : decode c_M_serve 16 = .ok (.iload_n 1, 1) := by decide +kernel
theorem dM_serve_17 : decode c_M_serve 17 = .ok (.iaload, 1) := by decide +kernel
theorem dM_serve_18 : decode c_M_serve 18 = .ok (.imul, 1) := by decide +kernel
theorem dM_serve_19 : decode c_M_serve 19 = .ok (.iadd, 1) := by decide +kernel
theorem dM_serve_20 : decode c_M_serve 20 = .ok (.aload_n 0, 1) := by decide +kernel
theorem dM_serve_21 : decode c_M_serve 21 = .ok (.getfield 49, 3) := by decide +kernel
theorem dM_serve_24 : decode c_M_serve 24 = .ok (.iload_n 1, 1) := by decide +kernel
theorem dM_serve_25 : decode c_M_serve 25 = .ok (.iaload, 1) := by decide +kernel
theorem dM_serve_26 : decode c_M_serve 26 = .ok (.iadd, 1) := by decide +kernel
theorem dM_serve_27 : decode c_M_serve 27 = .ok (.istore_n 2, 1) := by decide +kernel
theorem dM_serve_28 : decode c_M_serve 28 = .ok (.aload_n 0, 1) := by decide +kernel
theorem dM_serve_29 : decode c_M_serve 29 = .ok (.getfield 34, 3) := by decide +kernel
theorem dM_serve_32 : decode c_M_serve 32 = .ok (.iconst 0, 1) := by decide +kernel
theorem dM_serve_33 : decode c_M_serve 33 = .ok (.iaload, 1) := by decide +kernel
theorem dM_serve_34 : decode c_M_serve 34 = .ok (.istore_n 3, 1) := by decide +kernel
theorem dM_serve_35 : decode c_M_serve 35 = .ok (.aload_n 0, 1) := by decide +kernel
theorem dM_serve_36 : decode c_M_serve 36 = .ok (.getfield 37, 3) := by decide +kernel
theorem dM_serve_39 : decode c_M_serve 39 = .ok (.iload_n 2, 1) := by decide +kernel
theorem dM_serve_40 : decode c_M_serve 40 = .ok (.aload_n 0, 1) := by decide +kernel
theorem dM_serve_41 : decode c_M_serve 41 = .ok (.getfield 52, 3) := by decide +kernel
theorem dM_serve_44 : decode c_M_serve 44 = .ok (.iload_n 1, 1) := by decide +kernel
theorem dM_serve_45 : decode c_M_serve 45 = .ok (.baload, 1) := by decide +kernel
theorem dM_serve_46 : decode c_M_serve 46 = .ok (.ifCond .eq 12, 3) := by decide +kernel
theorem dM_serve_49 : decode c_M_serve 49 = .ok (.aload_n 0, 1) := by decide +kernel
theorem dM_serve_50 : decode c_M_serve 50 = .ok (.getfield 56, 3) := by decide +kernel
theorem dM_serve_53 : decode c_M_serve 53 = .ok (.iload_n 1, 1) := by decide +kernel
theorem dM_serve_54 : decode c_M_serve 54 = .ok (.iaload, 1) := by decide +kernel
theorem dM_serve_55 : decode c_M_serve 55 = .ok (.goto 9, 3) := by decide +kernel
theorem dM_serve_58 : decode c_M_serve 58 = .ok (.aload_n 0, 1) := by decide +kernel
theorem dM_serve_59 : decode c_M_serve 59 = .ok (.getfield 37, 3) := by decide +kernel
theorem dM_serve_62 : decode c_M_serve 62 = .ok (.iload_n 2, 1) := by decide +kernel
theorem dM_serve_63 : decode c_M_serve 63 = .ok (.iaload, 1) := by decide +kernel
theorem dM_serve_64 : decode c_M_serve 64 = .ok (.iastore, 1) := by decide +kernel
theorem dM_serve_65 : decode c_M_serve 65 = .ok (.aload_n 0, 1) := by decide +kernel
theorem dM_serve_66 : decode c_M_serve 66 = .ok (.iload_n 3, 1) := by decide +kernel
theorem dM_serve_67 : decode c_M_serve 67 = .ok (.aload_n 0, 1) := by decide +kernel
theorem dM_serve_68 : decode c_M_serve 68 = .ok (.getfield 59, 3) := by decide +kernel
theorem dM_serve_71 : decode c_M_serve 71 = .ok (.iload_n 1, 1) := by decide +kernel
theorem dM_serve_72 : decode c_M_serve 72 = .ok (.iaload, 1) := by decide +kernel
theorem dM_serve_73 : decode c_M_serve 73 = .ok (.isub, 1) := by decide +kernel
theorem dM_serve_74 : decode c_M_serve 74 = .ok (.aload_n 0, 1) := by decide +kernel
theorem dM_serve_75 : decode c_M_serve 75 = .ok (.getfield 78, 3) := by decide +kernel
theorem dM_serve_78 : decode c_M_serve 78 = .ok (.if_icmp .lt 12, 3) := by decide +kernel
theorem dM_serve_81 : decode c_M_serve 81 = .ok (.aload_n 0, 1) := by decide +kernel
theorem dM_serve_82 : decode c_M_serve 82 = .ok (.getfield 123, 3) := by decide +kernel
theorem dM_serve_85 : decode c_M_serve 85 = .ok (.iconst 1, 1) := by decide +kernel
theorem dM_serve_86 : decode c_M_serve 86 = .ok (.iadd, 1) := by decide +kernel
theorem dM_serve_87 : decode c_M_serve 87 = .ok (.goto 7, 3) := by decide +kernel
theorem dM_serve_90 : decode c_M_serve 90 = .ok (.aload_n 0, 1) := by decide +kernel
theorem dM_serve_91 : decode c_M_serve 91 = .ok (.getfield 123, 3) := by decide +kernel
theorem dM_serve_94 : decode c_M_serve 94 = .ok (.putfield 123, 3) := by decide +kernel
theorem dM_serve_97 : decode c_M_serve 97 = .ok (.aload_n 0, 1) := by decide +kernel
theorem dM_serve_98 : decode c_M_serve 98 = .ok (.getfield 116, 3) := by decide +kernel
theorem dM_serve_101 : decode c_M_serve 101 = .ok (.aload_n 0, 1) := by decide +kernel
theorem dM_serve_102 : decode c_M_serve 102 = .ok (.getfield 40, 3) := by decide +kernel
theorem dM_serve_105 : decode c_M_serve 105 = .ok (.iload_n 1, 1) := by decide +kernel
theorem dM_serve_106 : decode c_M_serve 106 = .ok (.iaload, 1) := by decide +kernel
theorem dM_serve_107 : decode c_M_serve 107 = .ok (.isub, 1) := by decide +kernel
theorem dM_serve_108 : decode c_M_serve 108 = .ok (.bipush 32, 2) := by decide +kernel
theorem dM_serve_110 : decode c_M_serve 110 = .ok (.if_icmp .gt 59, 3) := by decide +kernel
theorem dM_serve_113 : decode c_M_serve 113 = .ok (.aload_n 0, 1) := by decide +kernel
theorem dM_serve_114 : decode c_M_serve 114 = .ok (.getfield 62, 3) := by decide +kernel
theorem dM_serve_117 : decode c_M_serve 117 = .ok (.aload_n 0, 1) := by decide +kernel
theorem dM_serve_118 : decode c_M_serve 118 = .ok (.getfield 40, 3) := by decide +kernel
theorem dM_serve_121 : decode c_M_serve 121 = .ok (.iload_n 1, 1) := by decide +kernel
theorem dM_serve_122 : decode c_M_serve 122 = .ok (.iaload, 1) := by decide +kernel
theorem dM_serve_123 : decode c_M_serve 123 = .ok (.bipush 32, 2) := by decide +kernel
theorem dM_serve_125 : decode c_M_serve 125 = .ok (.irem, 1) := by decide +kernel
theorem dM_serve_126 : decode c_M_serve 126 = .ok (.aload_n 0, 1) := by decide +kernel
theorem dM_serve_127 : decode c_M_serve 127 = .ok (.getfield 52, 3) := by decide +kernel
theorem dM_serve_130 : decode c_M_serve 130 = .ok (.iload_n 1, 1) := by decide +kernel
theorem dM_serve_131 : decode c_M_serve 131 = .ok (.baload, 1) := by decide +kernel
theorem dM_serve_132 : decode c_M_serve 132 = .ok (.ifCond .eq 7, 3) := by decide +kernel
theorem dM_serve_135 : decode c_M_serve 135 = .ok (.iload_n 3, 1) := by decide +kernel
theorem dM_serve_136 : decode c_M_serve 136 = .ok (.goto 12, 3) := by decide +kernel
theorem dM_serve_139 : decode c_M_serve 139 = .ok (.iload_n 3, 1) := by decide +kernel
theorem dM_serve_140 : decode c_M_serve 140 = .ok (.aload_n 0, 1) := by decide +kernel
theorem dM_serve_141 : decode c_M_serve 141 = .ok (.getfield 7, 3) := by decide +kernel
theorem dM_serve_144 : decode c_M_serve 144 = .ok (.bipush 11, 2) := by decide +kernel
theorem dM_serve_146 : decode c_M_serve 146 = .ok (.iaload, 1) := by decide +kernel
theorem dM_serve_147 : decode c_M_serve 147 = .ok (.iadd, 1) := by decide +kernel
theorem dM_serve_148 : decode c_M_serve 148 = .ok (.iastore, 1) := by decide +kernel
theorem dM_serve_149 : decode c_M_serve 149 = .ok (.aload_n 0, 1) := by decide +kernel
theorem dM_serve_150 : decode c_M_serve 150 = .ok (.getfield 65, 3) := by decide +kernel
theorem dM_serve_153 : decode c_M_serve 153 = .ok (.aload_n 0, 1) := by decide +kernel
theorem dM_serve_154 : decode c_M_serve 154 = .ok (.getfield 40, 3) := by decide +kernel
theorem dM_serve_157 : decode c_M_serve 157 = .ok (.iload_n 1, 1) := by decide +kernel
theorem dM_serve_158 : decode c_M_serve 158 = .ok (.iaload, 1) := by decide +kernel
theorem dM_serve_159 : decode c_M_serve 159 = .ok (.bipush 32, 2) := by decide +kernel
theorem dM_serve_161 : decode c_M_serve 161 = .ok (.irem, 1) := by decide +kernel
theorem dM_serve_162 : decode c_M_serve 162 = .ok (.aload_n 0, 1) := by decide +kernel
theorem dM_serve_163 : decode c_M_serve 163 = .ok (.getfield 37, 3) := by decide +kernel
theorem dM_serve_166 : decode c_M_serve 166 = .ok (.iload_n 2, 1) := by decide +kernel
theorem dM_serve_167 : decode c_M_serve 167 = .ok (.iaload, 1) := by decide +kernel
theorem dM_serve_168 : decode c_M_serve 168 = .ok (.iastore, 1) := by decide +kernel
theorem dM_serve_169 : decode c_M_serve 169 = .ok (.aload_n 0, 1) := by decide +kernel
theorem dM_serve_170 : decode c_M_serve 170 = .ok (.dup, 1) := by decide +kernel
theorem dM_serve_171 : decode c_M_serve 171 = .ok (.getfield 113, 3) := by decide +kernel
theorem dM_serve_174 : decode c_M_serve 174 = .ok (.iconst 1, 1) := by decide +kernel
theorem dM_serve_175 : decode c_M_serve 175 = .ok (.isub, 1) := by decide +kernel
theorem dM_serve_176 : decode c_M_serve 176 = .ok (.putfield 113, 3) := by decide +kernel
theorem dM_serve_179 : decode c_M_serve 179 = .ok (.iload_n 1, 1) := by decide +kernel
theorem dM_serve_180 : decode c_M_serve 180 = .ok (.istore 4, 2) := by decide +kernel
theorem dM_serve_182 : decode c_M_serve 182 = .ok (.iload 4, 2) := by decide +kernel
theorem dM_serve_184 : decode c_M_serve 184 = .ok (.aload_n 0, 1) := by decide +kernel
theorem dM_serve_185 : decode c_M_serve 185 = .ok (.getfield 113, 3) := by decide +kernel
theorem dM_serve_188 : decode c_M_serve 188 = .ok (.if_icmp .ge 121, 3) := by decide +kernel
theorem dM_serve_191 : decode c_M_serve 191 = .ok (.aload_n 0, 1) := by decide +kernel
theorem dM_serve_192 : decode c_M_serve 192 = .ok (.getfield 40, 3) := by decide +kernel
theorem dM_serve_195 : decode c_M_serve 195 = .ok (.iload 4, 2) := by decide +kernel
theorem dM_serve_197 : decode c_M_serve 197 = .ok (.aload_n 0, 1) := by decide +kernel
theorem dM_serve_198 : decode c_M_serve 198 = .ok (.getfield 40, 3) := by decide +kernel
theorem dM_serve_201 : decode c_M_serve 201 = .ok (.iload 4, 2) := by decide +kernel
theorem dM_serve_203 : decode c_M_serve 203 = .ok (.iconst 1, 1) := by decide +kernel
theorem dM_serve_204 : decode c_M_serve 204 = .ok (.iadd, 1) := by decide +kernel
theorem dM_serve_205 : decode c_M_serve 205 = .ok (.iaload, 1) := by decide +kernel
theorem dM_serve_206 : decode c_M_serve 206 = .ok (.iastore, 1) := by decide +kernel
theorem dM_serve_207 : decode c_M_serve 207 = .ok (.aload_n 0, 1) := by decide +kernel
theorem dM_serve_208 : decode c_M_serve 208 = .ok (.getfield 43, 3) := by decide +kernel
theorem dM_serve_211 : decode c_M_serve 211 = .ok (.iload 4, 2) := by decide +kernel
theorem dM_serve_213 : decode c_M_serve 213 = .ok (.aload_n 0, 1) := by decide +kernel
theorem dM_serve_214 : decode c_M_serve 214 = .ok (.getfield 43, 3) := by decide +kernel
theorem dM_serve_217 : decode c_M_serve 217 = .ok (.iload 4, 2) := by decide +kernel
theorem dM_serve_219 : decode c_M_serve 219 = .ok (.iconst 1, 1) := by decide +kernel
theorem dM_serve_220 : decode c_M_serve 220 = .ok (.iadd, 1) := by decide +kernel
theorem dM_serve_221 : decode c_M_serve 221 = .ok (.iaload, 1) := by decide +kernel
theorem dM_serve_222 : decode c_M_serve 222 = .ok (.iastore, 1) := by decide +kernel
theorem dM_serve_223 : decode c_M_serve 223 = .ok (.aload_n 0, 1) := by decide +kernel
theorem dM_serve_224 : decode c_M_serve 224 = .ok (.getfield 46, 3) := by decide +kernel
theorem dM_serve_227 : decode c_M_serve 227 = .ok (.iload 4, 2) := by decide +kernel
theorem dM_serve_229 : decode c_M_serve 229 = .ok (.aload_n 0, 1) := by decide +kernel
theorem dM_serve_230 : decode c_M_serve 230 = .ok (.getfield 46, 3) := by decide +kernel
theorem dM_serve_233 : decode c_M_serve 233 = .ok (.iload 4, 2) := by decide +kernel
theorem dM_serve_235 : decode c_M_serve 235 = .ok (.iconst 1, 1) := by decide +kernel
theorem dM_serve_236 : decode c_M_serve 236 = .ok (.iadd, 1) := by decide +kernel
theorem dM_serve_237 : decode c_M_serve 237 = .ok (.iaload, 1) := by decide +kernel
theorem dM_serve_238 : decode c_M_serve 238 = .ok (.iastore, 1) := by decide +kernel
theorem dM_serve_239 : decode c_M_serve 239 = .ok (.aload_n 0, 1) := by decide +kernel
theorem dM_serve_240 : decode c_M_serve 240 = .ok (.getfield 49, 3) := by decide +kernel
theorem dM_serve_243 : decode c_M_serve 243 = .ok (.iload 4, 2) := by decide +kernel
theorem dM_serve_245 : decode c_M_serve 245 = .ok (.aload_n 0, 1) := by decide +kernel
theorem dM_serve_246 : decode c_M_serve 246 = .ok (.getfield 49, 3) := by decide +kernel
theorem dM_serve_249 : decode c_M_serve 249 = .ok (.iload 4, 2) := by decide +kernel
theorem dM_serve_251 : decode c_M_serve 251 = .ok (.iconst 1, 1) := by decide +kernel
theorem dM_serve_252 : decode c_M_serve 252 = .ok (.iadd, 1) := by decide +kernel
theorem dM_serve_253 : decode c_M_serve 253 = .ok (.iaload, 1) := by decide +kernel
theorem dM_serve_254 : decode c_M_serve 254 = .ok (.iastore, 1) := by decide +kernel
theorem dM_serve_255 : decode c_M_serve 255 = .ok (.aload_n 0, 1) := by decide +kernel
theorem dM_serve_256 : decode c_M_serve 256 = .ok (.getfield 52, 3) := by decide +kernel
theorem dM_serve_259 : decode c_M_serve 259 = .ok (.iload 4, 2) := by decide +kernel
theorem dM_serve_261 : decode c_M_serve 261 = .ok (.aload_n 0, 1) := by decide +kernel
theorem dM_serve_262 : decode c_M_serve 262 = .ok (.getfield 52, 3) := by decide +kernel
theorem dM_serve_265 : decode c_M_serve 265 = .ok (.iload 4, 2) := by decide +kernel
theorem dM_serve_267 : decode c_M_serve 267 = .ok (.iconst 1, 1) := by decide +kernel
theorem dM_serve_268 : decode c_M_serve 268 = .ok (.iadd, 1) := by decide +kernel
theorem dM_serve_269 : decode c_M_serve 269 = .ok (.baload, 1) := by decide +kernel
theorem dM_serve_270 : decode c_M_serve 270 = .ok (.bastore, 1) := by decide +kernel
theorem dM_serve_271 : decode c_M_serve 271 = .ok (.aload_n 0, 1) := by decide +kernel
theorem dM_serve_272 : decode c_M_serve 272 = .ok (.getfield 56, 3) := by decide +kernel
theorem dM_serve_275 : decode c_M_serve 275 = .ok (.iload 4, 2) := by decide +kernel
theorem dM_serve_277 : decode c_M_serve 277 = .ok (.aload_n 0, 1) := by decide +kernel
theorem dM_serve_278 : decode c_M_serve 278 = .ok (.getfield 56, 3) := by decide +kernel
theorem dM_serve_281 : decode c_M_serve 281 = .ok (.iload 4, 2) := by decide +kernel
theorem dM_serve_283 : decode c_M_serve 283 = .ok (.iconst 1, 1) := by decide +kernel
theorem dM_serve_284 : decode c_M_serve 284 = .ok (.iadd, 1) := by decide +kernel
theorem dM_serve_285 : decode c_M_serve 285 = .ok (.iaload, 1) := by decide +kernel
theorem dM_serve_286 : decode c_M_serve 286 = .ok (.iastore, 1) := by decide +kernel
theorem dM_serve_287 : decode c_M_serve 287 = .ok (.aload_n 0, 1) := by decide +kernel
theorem dM_serve_288 : decode c_M_serve 288 = .ok (.getfield 59, 3) := by decide +kernel
theorem dM_serve_291 : decode c_M_serve 291 = .ok (.iload 4, 2) := by decide +kernel
theorem dM_serve_293 : decode c_M_serve 293 = .ok (.aload_n 0, 1) := by decide +kernel
theorem dM_serve_294 : decode c_M_serve 294 = .ok (.getfield 59, 3) := by decide +kernel
theorem dM_serve_297 : decode c_M_serve 297 = .ok (.iload 4, 2) := by decide +kernel
theorem dM_serve_299 : decode c_M_serve 299 = .ok (.iconst 1, 1) := by decide +kernel
theorem dM_serve_300 : decode c_M_serve 300 = .ok (.iadd, 1) := by decide +kernel
theorem dM_serve_301 : decode c_M_serve 301 = .ok (.iaload, 1) := by decide +kernel
theorem dM_serve_302 : decode c_M_serve 302 = .ok (.iastore, 1) := by decide +kernel
theorem dM_serve_303 : decode c_M_serve 303 = .ok (.iinc 4 1, 3) := by decide +kernel
theorem dM_serve_306 : decode c_M_serve 306 = .ok (.goto (-124), 3) := by decide +kernel
theorem dM_serve_309 : decode c_M_serve 309 = .ok (.return_, 1) := by decide +kernel
theorem dM_told_0 : decode c_M_told 0 = .ok (.aload_n 0, 1) := by decide +kernel
theorem dM_told_1 : decode c_M_told 1 = .ok (.iconst 0, 1) := by decide +kernel
theorem dM_told_2 : decode c_M_told 2 = .ok (.iload_n 1, 1) := by decide +kernel
theorem dM_told_3 : decode c_M_told 3 = .ok (.iload_n 2, 1) := by decide +kernel
theorem dM_told_4 : decode c_M_told 4 = .ok (.iload_n 3, 1) := by decide +kernel
theorem dM_told_5 : decode c_M_told 5 = .ok (.invokevirtual 126, 3) := by decide +kernel
theorem dM_told_8 : decode c_M_told 8 = .ok (.aload_n 0, 1) := by decide +kernel
theorem dM_told_9 : decode c_M_told 9 = .ok (.getfield 68, 3) := by decide +kernel
theorem dM_told_12 : decode c_M_told 12 = .ok (.iload_n 1, 1) := by decide +kernel
theorem dM_told_13 : decode c_M_told 13 = .ok (.dup2, 1) := by decide +kernel
theorem dM_told_14 : decode c_M_told 14 = .ok (.iaload, 1) := by decide +kernel
theorem dM_told_15 : decode c_M_told 15 = .ok (.iconst 1, 1) := by decide +kernel
theorem dM_told_16 : decode c_M_told 16 = .ok (.iadd, 1) := by decide +kernel
theorem dM_told_17 : decode c_M_told 17 = .ok (.iastore, 1) := by decide +kernel
theorem dM_told_18 : decode c_M_told 18 = .ok (.sipush 1000, 3) := by decide +kernel
theorem dM_told_21 : decode c_M_told 21 = .ok (.iload_n 1, 1) := by decide +kernel
theorem dM_told_22 : decode c_M_told 22 = .ok (.iconst 1, 1) := by decide +kernel
theorem dM_told_23 : decode c_M_told 23 = .ok (.iadd, 1) := by decide +kernel
theorem dM_told_24 : decode c_M_told 24 = .ok (.imul, 1) := by decide +kernel
theorem dM_told_25 : decode c_M_told 25 = .ok (.iload_n 1, 1) := by decide +kernel
theorem dM_told_26 : decode c_M_told 26 = .ok (.iconst 4, 1) := by decide +kernel
theorem dM_told_27 : decode c_M_told 27 = .ok (.if_icmp .ne 7, 3) := by decide +kernel
theorem dM_told_30 : decode c_M_told 30 = .ok (.iconst 0, 1) := by decide +kernel
theorem dM_told_31 : decode c_M_told 31 = .ok (.goto 7, 3) := by decide +kernel
theorem dM_told_34 : decode c_M_told 34 = .ok (.bipush 100, 2) := by decide +kernel
theorem dM_told_36 : decode c_M_told 36 = .ok (.iload_n 2, 1) := by decide +kernel
theorem dM_told_37 : decode c_M_told 37 = .ok (.imul, 1) := by decide +kernel
theorem dM_told_38 : decode c_M_told 38 = .ok (.iadd, 1) := by decide +kernel
theorem dM_told_39 : decode c_M_told 39 = .ok (.iload_n 1, 1) := by decide +kernel
theorem dM_told_40 : decode c_M_told 40 = .ok (.iconst 4, 1) := by decide +kernel
theorem dM_told_41 : decode c_M_told 41 = .ok (.if_icmp .eq 8, 3) := by decide +kernel
theorem dM_told_44 : decode c_M_told 44 = .ok (.iload_n 1, 1) := by decide +kernel
theorem dM_told_45 : decode c_M_told 45 = .ok (.iconst 1, 1) := by decide +kernel
theorem dM_told_46 : decode c_M_told 46 = .ok (.if_icmp .ne 7, 3) := by decide +kernel
theorem dM_told_49 : decode c_M_told 49 = .ok (.iconst 0, 1) := by decide +kernel
theorem dM_told_50 : decode c_M_told 50 = .ok (.goto 4, 3) := by decide +kernel
theorem dM_told_53 : decode c_M_told 53 = .ok (.iload_n 3, 1) := by decide +kernel
theorem dM_told_54 : decode c_M_told 54 = .ok (.iadd, 1) := by decide +kernel
theorem dM_told_55 : decode c_M_told 55 = .ok (.ireturn, 1) := by decide +kernel
theorem dM_refreshing_0 : decode c_M_refreshing 0 = .ok (.aload_n 0, 1) := by decide +kernel
theorem dM_refreshing_1 : decode c_M_refreshing 1 = .ok (.iconst 0, 1) := by decide +kernel
theorem dM_refreshing_2 : decode c_M_refreshing 2 = .ok (.invokevirtual 95, 3) := by decide +kernel
theorem dM_refreshing_5 : decode c_M_refreshing 5 = .ok (.ifCond .ne 11, 3) := by decide +kernel
theorem dM_refreshing_8 : decode c_M_refreshing 8 = .ok (.aload_n 0, 1) := by decide +kernel
theorem dM_refreshing_9 : decode c_M_refreshing 9 = .ok (.iconst 4, 1) := by decide +kernel
theorem dM_refreshing_10 : decode c_M_refreshing 10 = .ok (.iconst 0, 1) := by decide +kernel
theorem dM_refreshing_11 : decode c_M_refreshing 11 = .ok (.iconst 0, 1) := by decide +kernel
theorem dM_refreshing_12 : decode c_M_refreshing 12 = .ok (.invokevirtual 130, 3) := by decide +kernel
theorem dM_refreshing_15 : decode c_M_refreshing 15 = .ok (.ireturn, 1) := by decide +kernel
theorem dM_refreshing_16 : decode c_M_refreshing 16 = .ok (.iconst 0, 1) := by decide +kernel
theorem dM_refreshing_17 : decode c_M_refreshing 17 = .ok (.istore_n 1, 1) := by decide +kernel
theorem dM_refreshing_18 : decode c_M_refreshing 18 = .ok (.iload_n 1, 1) := by decide +kernel
theorem dM_refreshing_19 : decode c_M_refreshing 19 = .ok (.aload_n 0, 1) := by decide +kernel
theorem dM_refreshing_20 : decode c_M_refreshing 20 = .ok (.getfield 71, 3) := by decide +kernel
theorem dM_refreshing_23 : decode c_M_refreshing 23 = .ok (.if_icmp .ge 26, 3) := by decide +kernel
theorem dM_refreshing_26 : decode c_M_refreshing 26 = .ok (.aload_n 0, 1) := by decide +kernel
theorem dM_refreshing_27 : decode c_M_refreshing 27 = .ok (.iconst 0, 1) := by decide +kernel
theorem dM_refreshing_28 : decode c_M_refreshing 28 = .ok (.iload_n 1, 1) := by decide +kernel
theorem dM_refreshing_29 : decode c_M_refreshing 29 = .ok (.invokevirtual 92, 3) := by decide +kernel
theorem dM_refreshing_32 : decode c_M_refreshing 32 = .ok (.ifCond .ne 11, 3) := by decide +kernel
theorem dM_refreshing_35 : decode c_M_refreshing 35 = .ok (.aload_n 0, 1) := by decide +kernel
theorem dM_refreshing_36 : decode c_M_refreshing 36 = .ok (.iconst 1, 1) := by decide +kernel
theorem dM_refreshing_37 : decode c_M_refreshing 37 = .ok (.iload_n 1, 1) := by decide +kernel
theorem dM_refreshing_38 : decode c_M_refreshing 38 = .ok (.iconst 0, 1) := by decide +kernel
theorem dM_refreshing_39 : decode c_M_refreshing 39 = .ok (.invokevirtual 130, 3) := by decide +kernel
theorem dM_refreshing_42 : decode c_M_refreshing 42 = .ok (.ireturn, 1) := by decide +kernel
theorem dM_refreshing_43 : decode c_M_refreshing 43 = .ok (.iinc 1 1, 3) := by decide +kernel
theorem dM_refreshing_46 : decode c_M_refreshing 46 = .ok (.goto (-28), 3) := by decide +kernel
theorem dM_refreshing_49 : decode c_M_refreshing 49 = .ok (.iconst 0, 1) := by decide +kernel
theorem dM_refreshing_50 : decode c_M_refreshing 50 = .ok (.ireturn, 1) := by decide +kernel
theorem dM_hasElder_0 : decode c_M_hasElder 0 = .ok (.iconst 0, 1) := by decide +kernel
theorem dM_hasElder_1 : decode c_M_hasElder 1 = .ok (.istore_n 2, 1) := by decide +kernel
theorem dM_hasElder_2 : decode c_M_hasElder 2 = .ok (.iconst 0, 1) := by decide +kernel
theorem dM_hasElder_3 : decode c_M_hasElder 3 = .ok (.istore_n 3, 1) := by decide +kernel
theorem dM_hasElder_4 : decode c_M_hasElder 4 = .ok (.iload_n 3, 1) := by decide +kernel
theorem dM_hasElder_5 : decode c_M_hasElder 5 = .ok (.iload_n 1, 1) := by decide +kernel
theorem dM_hasElder_6 : decode c_M_hasElder 6 = .ok (.if_icmp .ge 64, 3) := by decide +kernel
theorem dM_hasElder_9 : decode c_M_hasElder 9 = .ok (.iload_n 2, 1) := by decide +kernel
theorem dM_hasElder_10 : decode c_M_hasElder 10 = .ok (.ifCond .ne 48, 3) := by decide +kernel
theorem dM_hasElder_13 : decode c_M_hasElder 13 = .ok (.aload_n 0, 1) := by decide +kernel
theorem dM_hasElder_14 : decode c_M_hasElder 14 = .ok (.getfield 43, 3) := by decide +kernel
theorem dM_hasElder_17 : decode c_M_hasElder 17 = .ok (.iload_n 3, 1) := by decide +kernel
theorem dM_hasElder_18 : decode c_M_hasElder 18 = .ok (.iaload, 1) := by decide +kernel
theorem dM_hasElder_19 : decode c_M_hasElder 19 = .ok (.aload_n 0, 1) := by decide +kernel
theorem dM_hasElder_20 : decode c_M_hasElder 20 = .ok (.getfield 43, 3) := by decide +kernel
theorem dM_hasElder_23 : decode c_M_hasElder 23 = .ok (.iload_n 1, 1) := by decide +kernel
theorem dM_hasElder_24 : decode c_M_hasElder 24 = .ok (.iaload, 1) := by decide +kernel
theorem dM_hasElder_25 : decode c_M_hasElder 25 = .ok (.if_icmp .ne 37, 3) := by decide +kernel
theorem dM_hasElder_28 : decode c_M_hasElder 28 = .ok (.aload_n 0, 1) := by decide +kernel
theorem dM_hasElder_29 : decode c_M_hasElder 29 = .ok (.getfield 46, 3) := by decide +kernel
theorem dM_hasElder_32 : decode c_M_hasElder 32 = .ok (.iload_n 3, 1) := by decide +kernel
theorem dM_hasElder_33 : decode c_M_hasElder 33 = .ok (.iaload, 1) := by decide +kernel
theorem dM_hasElder_34 : decode c_M_hasElder 34 = .ok (.aload_n 0, 1) := by decide +kernel
theorem dM_hasElder_35 : decode c_M_hasElder 35 = .ok (.getfield 46, 3) := by decide +kernel
theorem dM_hasElder_38 : decode c_M_hasElder 38 = .ok (.iload_n 1, 1) := by decide +kernel
theorem dM_hasElder_39 : decode c_M_hasElder 39 = .ok (.iaload, 1) := by decide +kernel
theorem dM_hasElder_40 : decode c_M_hasElder 40 = .ok (.if_icmp .ne 22, 3) := by decide +kernel
theorem dM_hasElder_43 : decode c_M_hasElder 43 = .ok (.aload_n 0, 1) := by decide +kernel
theorem dM_hasElder_44 : decode c_M_hasElder 44 = .ok (.getfield 49, 3) := by decide +kernel
theorem dM_hasElder_47 : decode c_M_hasElder 47 = .ok (.iload_n 3, 1) := by decide +kernel
theorem dM_hasElder_48 : decode c_M_hasElder 48 = .ok (.iaload, 1) := by decide +kernel
theorem dM_hasElder_49 : decode c_M_hasElder 49 = .ok (.aload_n 0, 1) := by decide +kernel
theorem dM_hasElder_50 : decode c_M_hasElder 50 = .ok (.getfield 49, 3) := by decide +kernel
theorem dM_hasElder_53 : decode c_M_hasElder 53 = .ok (.iload_n 1, 1) := by decide +kernel
theorem dM_hasElder_54 : decode c_M_hasElder 54 = .ok (.iaload, 1) := by decide +kernel
theorem dM_hasElder_55 : decode c_M_hasElder 55 = .ok (.if_icmp .ne 7, 3) := by decide +kernel
theorem dM_hasElder_58 : decode c_M_hasElder 58 = .ok (.iconst 1, 1) := by decide +kernel
theorem dM_hasElder_59 : decode c_M_hasElder 59 = .ok (.goto 4, 3) := by decide +kernel
theorem dM_hasElder_62 : decode c_M_hasElder 62 = .ok (.iconst 0, 1) := by decide +kernel
theorem dM_hasElder_63 : decode c_M_hasElder 63 = .ok (.istore_n 2, 1) := by decide +kernel
theorem dM_hasElder_64 : decode c_M_hasElder 64 = .ok (.iinc 3 1, 3) := by decide +kernel
theorem dM_hasElder_67 : decode c_M_hasElder 67 = .ok (.goto (-63), 3) := by decide +kernel
theorem dM_hasElder_70 : decode c_M_hasElder 70 = .ok (.iload_n 2, 1) := by decide +kernel
theorem dM_hasElder_71 : decode c_M_hasElder 71 = .ok (.ireturn, 1) := by decide +kernel
theorem dM_hit_0 : decode c_M_hit 0 = .ok (.iconst 0, 1) := by decide +kernel
theorem dM_hit_1 : decode c_M_hit 1 = .ok (.istore_n 2, 1) := by decide +kernel
theorem dM_hit_2 : decode c_M_hit 2 = .ok (.iload_n 2, 1) := by decide +kernel
theorem dM_hit_3 : decode c_M_hit 3 = .ok (.iload_n 1, 1) := by decide +kernel
theorem dM_hit_4 : decode c_M_hit 4 = .ok (.if_icmp .ge 83, 3) := by decide +kernel
theorem dM_hit_7 : decode c_M_hit 7 = .ok (.aload_n 0, 1) := by decide +kernel
theorem dM_hit_8 : decode c_M_hit 8 = .ok (.iload_n 2, 1) := by decide +kernel
theorem dM_hit_9 : decode c_M_hit 9 = .ok (.invokevirtual 133, 3) := by decide +kernel
theorem dM_hit_12 : decode c_M_hit 12 = .ok (.ifCond .ne 69, 3) := by decide +kernel
theorem dM_hit_15 : decode c_M_hit 15 = .ok (.aload_n 0, 1) := by decide +kernel
theorem dM_hit_16 : decode c_M_hit 16 = .ok (.iconst 0, 1) := by decide +kernel
theorem dM_hit_17 : decode c_M_hit 17 = .ok (.aload_n 0, 1) := by decide +kernel
theorem dM_hit_18 : decode c_M_hit 18 = .ok (.getfield 43, 3) := by decide +kernel
theorem dM_hit_21 : decode c_M_hit 21 = .ok (.iload_n 2, 1) := by decide +kernel
theorem dM_hit_22 : decode c_M_hit 22 = .ok (.iaload, 1) := by decide +kernel
theorem dM_hit_23 : decode c_M_hit 23 = .ok (.aload_n 0, 1) := by decide +kernel
theorem dM_hit_24 : decode c_M_hit 24 = .ok (.getfield 46, 3) := by decide +kernel
theorem dM_hit_27 : decode c_M_hit 27 = .ok (.iload_n 2, 1) := by decide +kernel
theorem dM_hit_28 : decode c_M_hit 28 = .ok (.iaload, 1) := by decide +kernel
theorem dM_hit_29 : decode c_M_hit 29 = .ok (.invokevirtual 99, 3) := by decide +kernel
theorem dM_hit_32 : decode c_M_hit 32 = .ok (.ifCond .ne 49, 3) := by decide +kernel
theorem dM_hit_35 : decode c_M_hit 35 = .ok (.aload_n 0, 1) := by decide +kernel
theorem dM_hit_36 : decode c_M_hit 36 = .ok (.getfield 43, 3) := by decide +kernel
theorem dM_hit_39 : decode c_M_hit 39 = .ok (.iload_n 2, 1) := by decide +kernel
theorem dM_hit_40 : decode c_M_hit 40 = .ok (.iaload, 1) := by decide +kernel
theorem dM_hit_41 : decode c_M_hit 41 = .ok (.istore_n 3, 1) := by decide +kernel
theorem dM_hit_42 : decode c_M_hit 42 = .ok (.aload_n 0, 1) := by decide +kernel
theorem dM_hit_43 : decode c_M_hit 43 = .ok (.getfield 46, 3) := by decide +kernel
theorem dM_hit_46 : decode c_M_hit 46 = .ok (.iload_n 2, 1) := by decide +kernel
theorem dM_hit_47 : decode c_M_hit 47 = .ok (.iaload, 1) := by decide +kernel
theorem dM_hit_48 : decode c_M_hit 48 = .ok (.istore 4, 2) := by decide +kernel
theorem dM_hit_50 : decode c_M_hit 50 = .ok (.aload_n 0, 1) := by decide +kernel
theorem dM_hit_51 : decode c_M_hit 51 = .ok (.getfield 52, 3) := by decide +kernel
theorem dM_hit_54 : decode c_M_hit 54 = .ok (.iload_n 2, 1) := by decide +kernel
theorem dM_hit_55 : decode c_M_hit 55 = .ok (.baload, 1) := by decide +kernel
theorem dM_hit_56 : decode c_M_hit 56 = .ok (.istore 5, 2) := by decide +kernel
theorem dM_hit_58 : decode c_M_hit 58 = .ok (.aload_n 0, 1) := by decide +kernel
theorem dM_hit_59 : decode c_M_hit 59 = .ok (.iload_n 2, 1) := by decide +kernel
theorem dM_hit_60 : decode c_M_hit 60 = .ok (.invokevirtual 136, 3) := by decide +kernel
theorem dM_hit_63 : decode c_M_hit 63 = .ok (.aload_n 0, 1) := by decide +kernel
theorem dM_hit_64 : decode c_M_hit 64 = .ok (.iload 5, 2) := by decide +kernel
theorem dM_hit_66 : decode c_M_hit 66 = .ok (.ifCond .eq 7, 3) := by decide +kernel
theorem dM_hit_69 : decode c_M_hit 69 = .ok (.iconst 3, 1) := by decide +kernel
theorem dM_hit_70 : decode c_M_hit 70 = .ok (.goto 4, 3) := by decide +kernel
theorem dM_hit_73 : decode c_M_hit 73 = .ok (.iconst 2, 1) := by decide +kernel
theorem dM_hit_74 : decode c_M_hit 74 = .ok (.iload_n 3, 1) := by decide +kernel
theorem dM_hit_75 : decode c_M_hit 75 = .ok (.iload 4, 2) := by decide +kernel
theorem dM_hit_77 : decode c_M_hit 77 = .ok (.invokevirtual 130, 3) := by decide +kernel
theorem dM_hit_80 : decode c_M_hit 80 = .ok (.ireturn, 1) := by decide +kernel
theorem dM_hit_81 : decode c_M_hit 81 = .ok (.iinc 2 1, 3) := by decide +kernel
theorem dM_hit_84 : decode c_M_hit 84 = .ok (.goto (-82), 3) := by decide +kernel
theorem dM_hit_87 : decode c_M_hit 87 = .ok (.iconst 0, 1) := by decide +kernel
theorem dM_hit_88 : decode c_M_hit 88 = .ok (.ireturn, 1) := by decide +kernel
theorem dM_asks_0 : decode c_M_asks 0 = .ok (.iconst 0, 1) := by decide +kernel
theorem dM_asks_1 : decode c_M_asks 1 = .ok (.istore 4, 2) := by decide +kernel
theorem dM_asks_3 : decode c_M_asks 3 = .ok (.iconst 0, 1) := by decide +kernel
theorem dM_asks_4 : decode c_M_asks 4 = .ok (.istore 5, 2) := by decide +kernel
theorem dM_asks_6 : decode c_M_asks 6 = .ok (.iload 5, 2) := by decide +kernel
theorem dM_asks_8 : decode c_M_asks 8 = .ok (.iload_n 1, 1) := by decide +kernel
theorem dM_asks_9 : decode c_M_asks 9 = .ok (.if_icmp .ge 47, 3) := by decide +kernel
theorem dM_asks_12 : decode c_M_asks 12 = .ok (.iload 4, 2) := by decide +kernel
theorem dM_asks_14 : decode c_M_asks 14 = .ok (.ifCond .ne 29, 3) := by decide +kernel
theorem dM_asks_17 : decode c_M_asks 17 = .ok (.aload_n 0, 1) := by decide +kernel
theorem dM_asks_18 : decode c_M_asks 18 = .ok (.getfield 43, 3) := by decide +kernel
theorem dM_asks_21 : decode c_M_asks 21 = .ok (.iload 5, 2) := by decide +kernel
theorem dM_asks_23 : decode c_M_asks 23 = .ok (.iaload, 1) := by decide +kernel
theorem dM_asks_24 : decode c_M_asks 24 = .ok (.iload_n 2, 1) := by decide +kernel
theorem dM_asks_25 : decode c_M_asks 25 = .ok (.if_icmp .ne 22, 3) := by decide +kernel
theorem dM_asks_28 : decode c_M_asks 28 = .ok (.iload_n 3, 1) := by decide +kernel
theorem dM_asks_29 : decode c_M_asks 29 = .ok (.ifCond .lt 14, 3) := by decide +kernel
theorem dM_asks_32 : decode c_M_asks 32 = .ok (.aload_n 0, 1) := by decide +kernel
theorem dM_asks_33 : decode c_M_asks 33 = .ok (.getfield 46, 3) := by decide +kernel
theorem dM_asks_36 : decode c_M_asks 36 = .ok (.iload 5, 2) := by decide +kernel
theorem dM_asks_38 : decode c_M_asks 38 = .ok (.iaload, 1) := by decide +kernel
theorem dM_asks_39 : decode c_M_asks 39 = .ok (.iload_n 3, 1) := by decide +kernel
theorem dM_asks_40 : decode c_M_asks 40 = .ok (.if_icmp .ne 7, 3) := by decide +kernel
theorem dM_asks_43 : decode c_M_asks 43 = .ok (.iconst 1, 1) := by decide +kernel
theorem dM_asks_44 : decode c_M_asks 44 = .ok (.goto 4, 3) := by decide +kernel
theorem dM_asks_47 : decode c_M_asks 47 = .ok (.iconst 0, 1) := by decide +kernel
theorem dM_asks_48 : decode c_M_asks 48 = .ok (.istore 4, 2) := by decide +kernel
theorem dM_asks_50 : decode c_M_asks 50 = .ok (.iinc 5 1, 3) := by decide +kernel
theorem dM_asks_53 : decode c_M_asks 53 = .ok (.goto (-47), 3) := by decide +kernel
theorem dM_asks_56 : decode c_M_asks 56 = .ok (.iload 4, 2) := by decide +kernel
theorem dM_asks_58 : decode c_M_asks 58 = .ok (.ireturn, 1) := by decide +kernel
theorem dM_way_0 : decode c_M_way 0 = .ok (.iconst 0, 1) := by decide +kernel
theorem dM_way_1 : decode c_M_way 1 = .ok (.istore_n 2, 1) := by decide +kernel
theorem dM_way_2 : decode c_M_way 2 = .ok (.iload_n 2, 1) := by decide +kernel
theorem dM_way_3 : decode c_M_way 3 = .ok (.iload_n 1, 1) := by decide +kernel
theorem dM_way_4 : decode c_M_way 4 = .ok (.if_icmp .ge 130, 3) := by decide +kernel
theorem dM_way_7 : decode c_M_way 7 = .ok (.aload_n 0, 1) := by decide +kernel
theorem dM_way_8 : decode c_M_way 8 = .ok (.getfield 43, 3) := by decide +kernel
theorem dM_way_11 : decode c_M_way 11 = .ok (.iload_n 2, 1) := by decide +kernel
theorem dM_way_12 : decode c_M_way 12 = .ok (.iaload, 1) := by decide +kernel
theorem dM_way_13 : decode c_M_way 13 = .ok (.istore_n 3, 1) := by decide +kernel
theorem dM_way_14 : decode c_M_way 14 = .ok (.aload_n 0, 1) := by decide +kernel
theorem dM_way_15 : decode c_M_way 15 = .ok (.getfield 46, 3) := by decide +kernel
theorem dM_way_18 : decode c_M_way 18 = .ok (.iload_n 2, 1) := by decide +kernel
theorem dM_way_19 : decode c_M_way 19 = .ok (.iaload, 1) := by decide +kernel
theorem dM_way_20 : decode c_M_way 20 = .ok (.istore 4, 2) := by decide +kernel
theorem dM_way_22 : decode c_M_way 22 = .ok (.aload_n 0, 1) := by decide +kernel
theorem dM_way_23 : decode c_M_way 23 = .ok (.iload_n 2, 1) := by decide +kernel
theorem dM_way_24 : decode c_M_way 24 = .ok (.iload_n 3, 1) := by decide +kernel
theorem dM_way_25 : decode c_M_way 25 = .ok (.iconst (-1), 1) := by decide +kernel
theorem dM_way_26 : decode c_M_way 26 = .ok (.invokevirtual 140, 3) := by decide +kernel
theorem dM_way_29 : decode c_M_way 29 = .ok (.ifCond .ne 7, 3) := by decide +kernel
theorem dM_way_32 : decode c_M_way 32 = .ok (.iconst 1, 1) := by decide +kernel
theorem dM_way_33 : decode c_M_way 33 = .ok (.goto 4, 3) := by decide +kernel
theorem dM_way_36 : decode c_M_way 36 = .ok (.iconst 0, 1) := by decide +kernel
theorem dM_way_37 : decode c_M_way 37 = .ok (.istore 5, 2) := by decide +kernel
theorem dM_way_39 : decode c_M_way 39 = .ok (.iload 5, 2) := by decide +kernel
theorem dM_way_41 : decode c_M_way 41 = .ok (.ifCond .eq 30, 3) := by decide +kernel
theorem dM_way_44 : decode c_M_way 44 = .ok (.aload_n 0, 1) := by decide +kernel
theorem dM_way_45 : decode c_M_way 45 = .ok (.getfield 13, 3) := by decide +kernel
theorem dM_way_48 : decode c_M_way 48 = .ok (.iload_n 3, 1) := by decide +kernel
theorem dM_way_49 : decode c_M_way 49 = .ok (.iaload, 1) := by decide +kernel
theorem dM_way_50 : decode c_M_way 50 = .ok (.ifCond .ge 21, 3) := by decide +kernel
theorem dM_way_53 : decode c_M_way 53 = .ok (.aload_n 0, 1) := by decide +kernel
theorem dM_way_54 : decode c_M_way 54 = .ok (.iconst 0, 1) := by decide +kernel
theorem dM_way_55 : decode c_M_way 55 = .ok (.iload_n 3, 1) := by decide +kernel
theorem dM_way_56 : decode c_M_way 56 = .ok (.invokevirtual 88, 3) := by decide +kernel
theorem dM_way_59 : decode c_M_way 59 = .ok (.ifCond .ne 12, 3) := by decide +kernel
theorem dM_way_62 : decode c_M_way 62 = .ok (.aload_n 0, 1) := by decide +kernel
theorem dM_way_63 : decode c_M_way 63 = .ok (.iconst 0, 1) := by decide +kernel
theorem dM_way_64 : decode c_M_way 64 = .ok (.iload_n 3, 1) := by decide +kernel
theorem dM_way_65 : decode c_M_way 65 = .ok (.iload 4, 2) := by decide +kernel
theorem dM_way_67 : decode c_M_way 67 = .ok (.invokevirtual 130, 3) := by decide +kernel
theorem dM_way_70 : decode c_M_way 70 = .ok (.ireturn, 1) := by decide +kernel
theorem dM_way_71 : decode c_M_way 71 = .ok (.iload 5, 2) := by decide +kernel
theorem dM_way_73 : decode c_M_way 73 = .ok (.ifCond .eq 55, 3) := by decide +kernel
theorem dM_way_76 : decode c_M_way 76 = .ok (.aload_n 0, 1) := by decide +kernel
theorem dM_way_77 : decode c_M_way 77 = .ok (.getfield 13, 3) := by decide +kernel
theorem dM_way_80 : decode c_M_way 80 = .ok (.iload_n 3, 1) := by decide +kernel
theorem dM_way_81 : decode c_M_way 81 = .ok (.iaload, 1) := by decide +kernel
theorem dM_way_82 : decode c_M_way 82 = .ok (.ifCond .lt 46, 3) := by decide +kernel
theorem dM_way_85 : decode c_M_way 85 = .ok (.aload_n 0, 1) := by decide +kernel
theorem dM_way_86 : decode c_M_way 86 = .ok (.getfield 13, 3) := by decide +kernel
theorem dM_way_89 : decode c_M_way 89 = .ok (.iload_n 3, 1) := by decide +kernel
theorem dM_way_90 : decode c_M_way 90 = .ok (.iaload, 1) := by decide +kernel
theorem dM_way_91 : decode c_M_way 91 = .ok (.iload 4, 2) := by decide +kernel
theorem dM_way_93 : decode c_M_way 93 = .ok (.if_icmp .eq 35, 3) := by decide +kernel
theorem dM_way_96 : decode c_M_way 96 = .ok (.aload_n 0, 1) := by decide +kernel
theorem dM_way_97 : decode c_M_way 97 = .ok (.iconst 0, 1) := by decide +kernel
theorem dM_way_98 : decode c_M_way 98 = .ok (.iload_n 3, 1) := by decide +kernel
theorem dM_way_99 : decode c_M_way 99 = .ok (.invokevirtual 92, 3) := by decide +kernel
theorem dM_way_102 : decode c_M_way 102 = .ok (.ifCond .ne 26, 3) := by decide +kernel
theorem dM_way_105 : decode c_M_way 105 = .ok (.aload_n 0, 1) := by decide +kernel
theorem dM_way_106 : decode c_M_way 106 = .ok (.iload_n 1, 1) := by decide +kernel
theorem dM_way_107 : decode c_M_way 107 = .ok (.iload_n 3, 1) := by decide +kernel
theorem dM_way_108 : decode c_M_way 108 = .ok (.aload_n 0, 1) := by decide +kernel
theorem dM_way_109 : decode c_M_way 109 = .ok (.getfield 13, 3) := by decide +kernel
theorem dM_way_112 : decode c_M_way 112 = .ok (.iload_n 3, 1) := by decide +kernel
theorem dM_way_113 : decode c_M_way 113 = .ok (.iaload, 1) := by decide +kernel
theorem dM_way_114 : decode c_M_way 114 = .ok (.invokevirtual 140, 3) := by decide +kernel
theorem dM_way_117 : decode c_M_way 117 = .ok (.ifCond .ne 11, 3) := by decide +kernel
theorem dM_way_120 : decode c_M_way 120 = .ok (.aload_n 0, 1) := by decide +kernel
theorem dM_way_121 : decode c_M_way 121 = .ok (.iconst 1, 1) := by decide +kernel
theorem dM_way_122 : decode c_M_way 122 = .ok (.iload_n 3, 1) := by decide +kernel
theorem dM_way_123 : decode c_M_way 123 = .ok (.iconst 0, 1) := by decide +kernel
theorem dM_way_124 : decode c_M_way 124 = .ok (.invokevirtual 130, 3) := by decide +kernel
theorem dM_way_127 : decode c_M_way 127 = .ok (.ireturn, 1) := by decide +kernel
theorem dM_way_128 : decode c_M_way 128 = .ok (.iinc 2 1, 3) := by decide +kernel
theorem dM_way_131 : decode c_M_way 131 = .ok (.goto (-129), 3) := by decide +kernel
theorem dM_way_134 : decode c_M_way 134 = .ok (.iconst 0, 1) := by decide +kernel
theorem dM_way_135 : decode c_M_way 135 = .ok (.ireturn, 1) := by decide +kernel
theorem dM_cycle_0 : decode c_M_cycle 0 = .ok (.aload_n 0, 1) := by decide +kernel
theorem dM_cycle_1 : decode c_M_cycle 1 = .ok (.getfield 31, 3) := by decide +kernel
theorem dM_cycle_4 : decode c_M_cycle 4 = .ok (.iconst 0, 1) := by decide +kernel
theorem dM_cycle_5 : decode c_M_cycle 5 = .ok (.iaload, 1) := by decide +kernel
theorem dM_cycle_6 : decode c_M_cycle 6 = .ok (.ifCond .ge 7, 3) := by decide +kernel
theorem dM_cycle_9 : decode c_M_cycle 9 = .ok (.iconst 0, 1) := by decide +kernel
theorem dM_cycle_10 : decode c_M_cycle 10 = .ok (.goto 9, 3) := by decide +kernel
theorem dM_cycle_13 : decode c_M_cycle 13 = .ok (.aload_n 0, 1) := by decide +kernel
theorem dM_cycle_14 : decode c_M_cycle 14 = .ok (.getfield 31, 3) := by decide +kernel
theorem dM_cycle_17 : decode c_M_cycle 17 = .ok (.iconst 0, 1) := by decide +kernel
theorem dM_cycle_18 : decode c_M_cycle 18 = .ok (.iaload, 1) := by decide +kernel
theorem dM_cycle_19 : decode c_M_cycle 19 = .ok (.istore_n 1, 1) := by decide +kernel
theorem dM_cycle_20 : decode c_M_cycle 20 = .ok (.iconst 0, 1) := by decide +kernel
theorem dM_cycle_21 : decode c_M_cycle 21 = .ok (.istore_n 2, 1) := by decide +kernel
theorem dM_cycle_22 : decode c_M_cycle 22 = .ok (.aload_n 0, 1) := by decide +kernel
theorem dM_cycle_23 : decode c_M_cycle 23 = .ok (.getfield 34, 3) := by decide +kernel
theorem dM_cycle_26 : decode c_M_cycle 26 = .ok (.iconst 0, 1) := by decide +kernel
theorem dM_cycle_27 : decode c_M_cycle 27 = .ok (.iaload, 1) := by decide +kernel
theorem dM_cycle_28 : decode c_M_cycle 28 = .ok (.iload_n 1, 1) := by decide +kernel
theorem dM_cycle_29 : decode c_M_cycle 29 = .ok (.isub, 1) := by decide +kernel
theorem dM_cycle_30 : decode c_M_cycle 30 = .ok (.aload_n 0, 1) := by decide +kernel
theorem dM_cycle_31 : decode c_M_cycle 31 = .ok (.getfield 7, 3) := by decide +kernel
theorem dM_cycle_34 : decode c_M_cycle 34 = .ok (.bipush 10, 2) := by decide +kernel
theorem dM_cycle_36 : decode c_M_cycle 36 = .ok (.iaload, 1) := by decide +kernel
theorem dM_cycle_37 : decode c_M_cycle 37 = .ok (.if_icmp .lt 11, 3) := by decide +kernel
theorem dM_cycle_40 : decode c_M_cycle 40 = .ok (.aload_n 0, 1) := by decide +kernel
theorem dM_cycle_41 : decode c_M_cycle 41 = .ok (.invokevirtual 143, 3) := by decide +kernel
theorem dM_cycle_44 : decode c_M_cycle 44 = .ok (.istore_n 2, 1) := by decide +kernel
theorem dM_cycle_45 : decode c_M_cycle 45 = .ok (.goto 59, 3) := by decide +kernel
theorem dM_cycle_48 : decode c_M_cycle 48 = .ok (.aload_n 0, 1) := by decide +kernel
theorem dM_cycle_49 : decode c_M_cycle 49 = .ok (.getfield 113, 3) := by decide +kernel
theorem dM_cycle_52 : decode c_M_cycle 52 = .ok (.ifCond .le 27, 3) := by decide +kernel
theorem dM_cycle_55 : decode c_M_cycle 55 = .ok (.aload_n 0, 1) := by decide +kernel
theorem dM_cycle_56 : decode c_M_cycle 56 = .ok (.getfield 34, 3) := by decide +kernel
theorem dM_cycle_59 : decode c_M_cycle 59 = .ok (.iconst 0, 1) := by decide +kernel
theorem dM_cycle_60 : decode c_M_cycle 60 = .ok (.iaload, 1) := by decide +kernel
theorem dM_cycle_61 : decode c_M_cycle 61 = .ok (.aload_n 0, 1) := by decide +kernel
theorem dM_cycle_62 : decode c_M_cycle 62 = .ok (.getfield 59, 3) := by decide +kernel
theorem dM_cycle_65 : decode c_M_cycle 65 = .ok (.iconst 0, 1) := by decide +kernel
theorem dM_cycle_66 : decode c_M_cycle 66 = .ok (.iaload, 1) := by decide +kernel
theorem dM_cycle_67 : decode c_M_cycle 67 = .ok (.isub, 1) := by decide +kernel
theorem dM_cycle_68 : decode c_M_cycle 68 = .ok (.aload_n 0, 1) := by decide +kernel
theorem dM_cycle_69 : decode c_M_cycle 69 = .ok (.getfield 78, 3) := by decide +kernel
theorem dM_cycle_72 : decode c_M_cycle 72 = .ok (.if_icmp .lt 7, 3) := by decide +kernel
theorem dM_cycle_75 : decode c_M_cycle 75 = .ok (.iconst 1, 1) := by decide +kernel
theorem dM_cycle_76 : decode c_M_cycle 76 = .ok (.goto 7, 3) := by decide +kernel
theorem dM_cycle_79 : decode c_M_cycle 79 = .ok (.aload_n 0, 1) := by decide +kernel
theorem dM_cycle_80 : decode c_M_cycle 80 = .ok (.getfield 113, 3) := by decide +kernel
theorem dM_cycle_83 : decode c_M_cycle 83 = .ok (.istore_n 3, 1) := by decide +kernel
theorem dM_cycle_84 : decode c_M_cycle 84 = .ok (.aload_n 0, 1) := by decide +kernel
theorem dM_cycle_85 : decode c_M_cycle 85 = .ok (.iload_n 3, 1) := by decide +kernel
theorem dM_cycle_86 : decode c_M_cycle 86 = .ok (.invokevirtual 147, 3) := by decide +kernel
theorem dM_cycle_89 : decode c_M_cycle 89 = .ok (.istore_n 2, 1) := by decide +kernel
theorem dM_cycle_90 : decode c_M_cycle 90 = .ok (.iload_n 2, 1) := by decide +kernel
theorem dM_cycle_91 : decode c_M_cycle 91 = .ok (.ifCond .ne 11, 3) := by decide +kernel
theorem dM_cycle_94 : decode c_M_cycle 94 = .ok (.aload_n 0, 1) := by decide +kernel
theorem dM_cycle_95 : decode c_M_cycle 95 = .ok (.iload_n 3, 1) := by decide +kernel
theorem dM_cycle_96 : decode c_M_cycle 96 = .ok (.invokevirtual 150, 3) := by decide +kernel
theorem dM_cycle_99 : decode c_M_cycle 99 = .ok (.goto 4, 3) := by decide +kernel
theorem dM_cycle_102 : decode c_M_cycle 102 = .ok (.iload_n 2, 1) := by decide +kernel
theorem dM_cycle_103 : decode c_M_cycle 103 = .ok (.istore_n 2, 1) := by decide +kernel
theorem dM_cycle_104 : decode c_M_cycle 104 = .ok (.aload_n 0, 1) := by decide +kernel
theorem dM_cycle_105 : decode c_M_cycle 105 = .ok (.getfield 34, 3) := by decide +kernel
theorem dM_cycle_108 : decode c_M_cycle 108 = .ok (.iconst 0, 1) := by decide +kernel
theorem dM_cycle_109 : decode c_M_cycle 109 = .ok (.dup2, 1) := by decide +kernel
theorem dM_cycle_110 : decode c_M_cycle 110 = .ok (.iaload, 1) := by decide +kernel
theorem dM_cycle_111 : decode c_M_cycle 111 = .ok (.iconst 1, 1) := by decide +kernel
theorem dM_cycle_112 : decode c_M_cycle 112 = .ok (.iadd, 1) := by decide +kernel
theorem dM_cycle_113 : decode c_M_cycle 113 = .ok (.iastore, 1) := by decide +kernel
theorem dM_cycle_114 : decode c_M_cycle 114 = .ok (.iload_n 2, 1) := by decide +kernel
theorem dM_cycle_115 : decode c_M_cycle 115 = .ok (.ireturn, 1) := by decide +kernel
theorem dM_tick_0 : decode c_M_tick 0 = .ok (.aload_n 0, 1) := by decide +kernel
theorem dM_tick_1 : decode c_M_tick 1 = .ok (.iconst 0, 1) := by decide +kernel
theorem dM_tick_2 : decode c_M_tick 2 = .ok (.putfield 81, 3) := by decide +kernel
theorem dM_tick_5 : decode c_M_tick 5 = .ok (.aload_n 0, 1) := by decide +kernel
theorem dM_tick_6 : decode c_M_tick 6 = .ok (.invokevirtual 153, 3) := by decide +kernel
theorem dM_tick_9 : decode c_M_tick 9 = .ok (.ireturn, 1) := by decide +kernel
theorem dM_run_0 : decode c_M_run 0 = .ok (.aload_n 0, 1) := by decide +kernel
theorem dM_run_1 : decode c_M_run 1 = .ok (.iload_n 1, 1) := by decide +kernel
theorem dM_run_2 : decode c_M_run 2 = .ok (.ifCond .lt 10, 3) := by decide +kernel
theorem dM_run_5 : decode c_M_run 5 = .ok (.iload_n 1, 1) := by decide +kernel
theorem dM_run_6 : decode c_M_run 6 = .ok (.sipush 2000, 3) := by decide +kernel
theorem dM_run_9 : decode c_M_run 9 = .ok (.if_icmp .le 7, 3) := by decide +kernel
theorem dM_run_12 : decode c_M_run 12 = .ok (.iconst 1, 1) := by decide +kernel
theorem dM_run_13 : decode c_M_run 13 = .ok (.goto 4, 3) := by decide +kernel
theorem dM_run_16 : decode c_M_run 16 = .ok (.iconst 0, 1) := by decide +kernel
theorem dM_run_17 : decode c_M_run 17 = .ok (.putfield 81, 3) := by decide +kernel
theorem dM_run_20 : decode c_M_run 20 = .ok (.iconst 0, 1) := by decide +kernel
theorem dM_run_21 : decode c_M_run 21 = .ok (.istore_n 2, 1) := by decide +kernel
theorem dM_run_22 : decode c_M_run 22 = .ok (.iconst 0, 1) := by decide +kernel
theorem dM_run_23 : decode c_M_run 23 = .ok (.istore_n 3, 1) := by decide +kernel
theorem dM_run_24 : decode c_M_run 24 = .ok (.iload_n 3, 1) := by decide +kernel
theorem dM_run_25 : decode c_M_run 25 = .ok (.iload_n 1, 1) := by decide +kernel
theorem dM_run_26 : decode c_M_run 26 = .ok (.if_icmp .ge 35, 3) := by decide +kernel
theorem dM_run_29 : decode c_M_run 29 = .ok (.aload_n 0, 1) := by decide +kernel
theorem dM_run_30 : decode c_M_run 30 = .ok (.getfield 81, 3) := by decide +kernel
theorem dM_run_33 : decode c_M_run 33 = .ok (.ifCond .ne 28, 3) := by decide +kernel
theorem dM_run_36 : decode c_M_run 36 = .ok (.aload_n 0, 1) := by decide +kernel
theorem dM_run_37 : decode c_M_run 37 = .ok (.invokevirtual 153, 3) := by decide +kernel
theorem dM_run_40 : decode c_M_run 40 = .ok (.istore 4, 2) := by decide +kernel
theorem dM_run_42 : decode c_M_run 42 = .ok (.iload 4, 2) := by decide +kernel
theorem dM_run_44 : decode c_M_run 44 = .ok (.ifCond .le 9, 3) := by decide +kernel
theorem dM_run_47 : decode c_M_run 47 = .ok (.iload_n 2, 1) := by decide +kernel
theorem dM_run_48 : decode c_M_run 48 = .ok (.iconst 1, 1) := by decide +kernel
theorem dM_run_49 : decode c_M_run 49 = .ok (.iadd, 1) := by decide +kernel
theorem dM_run_50 : decode c_M_run 50 = .ok (.goto 4, 3) := by decide +kernel
theorem dM_run_53 : decode c_M_run 53 = .ok (.iload_n 2, 1) := by decide +kernel
theorem dM_run_54 : decode c_M_run 54 = .ok (.istore_n 2, 1) := by decide +kernel
theorem dM_run_55 : decode c_M_run 55 = .ok (.iinc 3 1, 3) := by decide +kernel
theorem dM_run_58 : decode c_M_run 58 = .ok (.goto (-34), 3) := by decide +kernel
theorem dM_run_61 : decode c_M_run 61 = .ok (.iload_n 2, 1) := by decide +kernel
theorem dM_run_62 : decode c_M_run 62 = .ok (.ireturn, 1) := by decide +kernel
theorem dM_result_0 : decode c_M_result 0 = .ok (.aload_n 0, 1) := by decide +kernel
theorem dM_result_1 : decode c_M_result 1 = .ok (.iload_n 1, 1) := by decide +kernel
theorem dM_result_2 : decode c_M_result 2 = .ok (.ifCond .lt 22, 3) := by decide +kernel
theorem dM_result_5 : decode c_M_result 5 = .ok (.iload_n 1, 1) := by decide +kernel
theorem dM_result_6 : decode c_M_result 6 = .ok (.aload_n 0, 1) := by decide +kernel
theorem dM_result_7 : decode c_M_result 7 = .ok (.getfield 116, 3) := by decide +kernel
theorem dM_result_10 : decode c_M_result 10 = .ok (.if_icmp .ge 14, 3) := by decide +kernel
theorem dM_result_13 : decode c_M_result 13 = .ok (.aload_n 0, 1) := by decide +kernel
theorem dM_result_14 : decode c_M_result 14 = .ok (.getfield 116, 3) := by decide +kernel
theorem dM_result_17 : decode c_M_result 17 = .ok (.iload_n 1, 1) := by decide +kernel
theorem dM_result_18 : decode c_M_result 18 = .ok (.isub, 1) := by decide +kernel
theorem dM_result_19 : decode c_M_result 19 = .ok (.bipush 32, 2) := by decide +kernel
theorem dM_result_21 : decode c_M_result 21 = .ok (.if_icmp .le 7, 3) := by decide +kernel
theorem dM_result_24 : decode c_M_result 24 = .ok (.iconst 1, 1) := by decide +kernel
theorem dM_result_25 : decode c_M_result 25 = .ok (.goto 4, 3) := by decide +kernel
theorem dM_result_28 : decode c_M_result 28 = .ok (.iconst 0, 1) := by decide +kernel
theorem dM_result_29 : decode c_M_result 29 = .ok (.putfield 81, 3) := by decide +kernel
theorem dM_result_32 : decode c_M_result 32 = .ok (.aload_n 0, 1) := by decide +kernel
theorem dM_result_33 : decode c_M_result 33 = .ok (.getfield 81, 3) := by decide +kernel
theorem dM_result_36 : decode c_M_result 36 = .ok (.ifCond .eq 5, 3) := by decide +kernel
theorem dM_result_39 : decode c_M_result 39 = .ok (.iconst 0, 1) := by decide +kernel
theorem dM_result_40 : decode c_M_result 40 = .ok (.ireturn, 1) := by decide +kernel
theorem dM_result_41 : decode c_M_result 41 = .ok (.aload_n 0, 1) := by decide +kernel
theorem dM_result_42 : decode c_M_result 42 = .ok (.getfield 62, 3) := by decide +kernel
theorem dM_result_45 : decode c_M_result 45 = .ok (.iload_n 1, 1) := by decide +kernel
theorem dM_result_46 : decode c_M_result 46 = .ok (.bipush 32, 2) := by decide +kernel
theorem dM_result_48 : decode c_M_result 48 = .ok (.irem, 1) := by decide +kernel
theorem dM_result_49 : decode c_M_result 49 = .ok (.iaload, 1) := by decide +kernel
theorem dM_result_50 : decode c_M_result 50 = .ok (.istore_n 2, 1) := by decide +kernel
theorem dM_result_51 : decode c_M_result 51 = .ok (.aload_n 0, 1) := by decide +kernel
theorem dM_result_52 : decode c_M_result 52 = .ok (.iload_n 2, 1) := by decide +kernel
theorem dM_result_53 : decode c_M_result 53 = .ok (.ifCond .lt 13, 3) := by decide +kernel
theorem dM_result_56 : decode c_M_result 56 = .ok (.aload_n 0, 1) := by decide +kernel
theorem dM_result_57 : decode c_M_result 57 = .ok (.getfield 34, 3) := by decide +kernel
theorem dM_result_60 : decode c_M_result 60 = .ok (.iconst 0, 1) := by decide +kernel
theorem dM_result_61 : decode c_M_result 61 = .ok (.iaload, 1) := by decide +kernel
theorem dM_result_62 : decode c_M_result 62 = .ok (.iload_n 2, 1) := by decide +kernel
theorem dM_result_63 : decode c_M_result 63 = .ok (.if_icmp .gt 7, 3) := by decide +kernel
theorem dM_result_66 : decode c_M_result 66 = .ok (.iconst 2, 1) := by decide +kernel
theorem dM_result_67 : decode c_M_result 67 = .ok (.goto 4, 3) := by decide +kernel
theorem dM_result_70 : decode c_M_result 70 = .ok (.iconst 0, 1) := by decide +kernel
theorem dM_result_71 : decode c_M_result 71 = .ok (.putfield 81, 3) := by decide +kernel
theorem dM_result_74 : decode c_M_result 74 = .ok (.aload_n 0, 1) := by decide +kernel
theorem dM_result_75 : decode c_M_result 75 = .ok (.getfield 81, 3) := by decide +kernel
theorem dM_result_78 : decode c_M_result 78 = .ok (.ifCond .ne 15, 3) := by decide +kernel
theorem dM_result_81 : decode c_M_result 81 = .ok (.aload_n 0, 1) := by decide +kernel
theorem dM_result_82 : decode c_M_result 82 = .ok (.getfield 65, 3) := by decide +kernel
theorem dM_result_85 : decode c_M_result 85 = .ok (.iload_n 1, 1) := by decide +kernel
theorem dM_result_86 : decode c_M_result 86 = .ok (.bipush 32, 2) := by decide +kernel
theorem dM_result_88 : decode c_M_result 88 = .ok (.irem, 1) := by decide +kernel
theorem dM_result_89 : decode c_M_result 89 = .ok (.iaload, 1) := by decide +kernel
theorem dM_result_90 : decode c_M_result 90 = .ok (.goto 4, 3) := by decide +kernel
theorem dM_result_93 : decode c_M_result 93 = .ok (.iconst 0, 1) := by decide +kernel
theorem dM_result_94 : decode c_M_result 94 = .ok (.ireturn, 1) := by decide +kernel
theorem dM_word_0 : decode c_M_word 0 = .ok (.aload_n 0, 1) := by decide +kernel
theorem dM_word_1 : decode c_M_word 1 = .ok (.aload_n 0, 1) := by decide +kernel
theorem dM_word_2 : decode c_M_word 2 = .ok (.iload_n 1, 1) := by decide +kernel
theorem dM_word_3 : decode c_M_word 3 = .ok (.iload_n 2, 1) := by decide +kernel
theorem dM_word_4 : decode c_M_word 4 = .ok (.iload_n 3, 1) := by decide +kernel
theorem dM_word_5 : decode c_M_word 5 = .ok (.invokevirtual 110, 3) := by decide +kernel
theorem dM_word_8 : decode c_M_word 8 = .ok (.ifCond .eq 7, 3) := by decide +kernel
theorem dM_word_11 : decode c_M_word 11 = .ok (.iconst 0, 1) := by decide +kernel
theorem dM_word_12 : decode c_M_word 12 = .ok (.goto 4, 3) := by decide +kernel
theorem dM_word_15 : decode c_M_word 15 = .ok (.iconst 1, 1) := by decide +kernel
theorem dM_word_16 : decode c_M_word 16 = .ok (.putfield 81, 3) := by decide +kernel
theorem dM_word_19 : decode c_M_word 19 = .ok (.aload_n 0, 1) := by decide +kernel
theorem dM_word_20 : decode c_M_word 20 = .ok (.getfield 81, 3) := by decide +kernel
theorem dM_word_23 : decode c_M_word 23 = .ok (.ifCond .ne 23, 3) := by decide +kernel
theorem dM_word_26 : decode c_M_word 26 = .ok (.aload_n 0, 1) := by decide +kernel
theorem dM_word_27 : decode c_M_word 27 = .ok (.getfield 37, 3) := by decide +kernel
theorem dM_word_30 : decode c_M_word 30 = .ok (.sipush 128, 3) := by decide +kernel
theorem dM_word_33 : decode c_M_word 33 = .ok (.iload_n 1, 1) := by decide +kernel
theorem dM_word_34 : decode c_M_word 34 = .ok (.imul, 1) := by decide +kernel
theorem dM_word_35 : decode c_M_word 35 = .ok (.bipush 8, 2) := by decide +kernel
theorem dM_word_37 : decode c_M_word 37 = .ok (.iload_n 2, 1) := by decide +kernel
theorem dM_word_38 : decode c_M_word 38 = .ok (.imul, 1) := by decide +kernel
theorem dM_word_39 : decode c_M_word 39 = .ok (.iadd, 1) := by decide +kernel
theorem dM_word_40 : decode c_M_word 40 = .ok (.iload_n 3, 1) := by decide +kernel
theorem dM_word_41 : decode c_M_word 41 = .ok (.iadd, 1) := by decide +kernel
theorem dM_word_42 : decode c_M_word 42 = .ok (.iaload, 1) := by decide +kernel
theorem dM_word_43 : decode c_M_word 43 = .ok (.goto 4, 3) := by decide +kernel
theorem dM_word_46 : decode c_M_word 46 = .ok (.iconst 0, 1) := by decide +kernel
theorem dM_word_47 : decode c_M_word 47 = .ok (.ireturn, 1) := by decide +kernel
theorem dM_open_0 : decode c_M_open 0 = .ok (.aload_n 0, 1) := by decide +kernel
theorem dM_open_1 : decode c_M_open 1 = .ok (.aload_n 0, 1) := by decide +kernel
theorem dM_open_2 : decode c_M_open 2 = .ok (.iload_n 1, 1) := by decide +kernel
theorem dM_open_3 : decode c_M_open 3 = .ok (.invokevirtual 103, 3) := by decide +kernel
theorem dM_open_6 : decode c_M_open 6 = .ok (.ifCond .eq 7, 3) := by decide +kernel
theorem dM_open_9 : decode c_M_open 9 = .ok (.iconst 0, 1) := by decide +kernel
theorem dM_open_10 : decode c_M_open 10 = .ok (.goto 4, 3) := by decide +kernel
theorem dM_open_13 : decode c_M_open 13 = .ok (.iconst 1, 1) := by decide +kernel
theorem dM_open_14 : decode c_M_open 14 = .ok (.putfield 81, 3) := by decide +kernel
theorem dM_open_17 : decode c_M_open 17 = .ok (.aload_n 0, 1) := by decide +kernel
theorem dM_open_18 : decode c_M_open 18 = .ok (.getfield 81, 3) := by decide +kernel
theorem dM_open_21 : decode c_M_open 21 = .ok (.ifCond .ne 12, 3) := by decide +kernel
theorem dM_open_24 : decode c_M_open 24 = .ok (.aload_n 0, 1) := by decide +kernel
theorem dM_open_25 : decode c_M_open 25 = .ok (.getfield 13, 3) := by decide +kernel
theorem dM_open_28 : decode c_M_open 28 = .ok (.iload_n 1, 1) := by decide +kernel
theorem dM_open_29 : decode c_M_open 29 = .ok (.iaload, 1) := by decide +kernel
theorem dM_open_30 : decode c_M_open 30 = .ok (.goto 4, 3) := by decide +kernel
theorem dM_open_33 : decode c_M_open 33 = .ok (.iconst 0, 1) := by decide +kernel
theorem dM_open_34 : decode c_M_open 34 = .ok (.ireturn, 1) := by decide +kernel
theorem dM_waiting_0 : decode c_M_waiting 0 = .ok (.aload_n 0, 1) := by decide +kernel
theorem dM_waiting_1 : decode c_M_waiting 1 = .ok (.iload_n 1, 1) := by decide +kernel
theorem dM_waiting_2 : decode c_M_waiting 2 = .ok (.ifCond .lt 15, 3) := by decide +kernel
theorem dM_waiting_5 : decode c_M_waiting 5 = .ok (.iload_n 1, 1) := by decide +kernel
theorem dM_waiting_6 : decode c_M_waiting 6 = .ok (.aload_n 0, 1) := by decide +kernel
theorem dM_waiting_7 : decode c_M_waiting 7 = .ok (.getfield 113, 3) := by decide +kernel
theorem dM_waiting_10 : decode c_M_waiting 10 = .ok (.if_icmp .ge 7, 3) := by decide +kernel
theorem dM_waiting_13 : decode c_M_waiting 13 = .ok (.iconst 0, 1) := by decide +kernel
theorem dM_waiting_14 : decode c_M_waiting 14 = .ok (.goto 4, 3) := by decide +kernel
theorem dM_waiting_17 : decode c_M_waiting 17 = .ok (.iconst 1, 1) := by decide +kernel
theorem dM_waiting_18 : decode c_M_waiting 18 = .ok (.putfield 81, 3) := by decide +kernel
theorem dM_waiting_21 : decode c_M_waiting 21 = .ok (.aload_n 0, 1) := by decide +kernel
theorem dM_waiting_22 : decode c_M_waiting 22 = .ok (.getfield 81, 3) := by decide +kernel
theorem dM_waiting_25 : decode c_M_waiting 25 = .ok (.ifCond .ne 12, 3) := by decide +kernel
theorem dM_waiting_28 : decode c_M_waiting 28 = .ok (.aload_n 0, 1) := by decide +kernel
theorem dM_waiting_29 : decode c_M_waiting 29 = .ok (.getfield 40, 3) := by decide +kernel
theorem dM_waiting_32 : decode c_M_waiting 32 = .ok (.iload_n 1, 1) := by decide +kernel
theorem dM_waiting_33 : decode c_M_waiting 33 = .ok (.iaload, 1) := by decide +kernel
theorem dM_waiting_34 : decode c_M_waiting 34 = .ok (.goto 4, 3) := by decide +kernel
theorem dM_waiting_37 : decode c_M_waiting 37 = .ok (.iconst 0, 1) := by decide +kernel
theorem dM_waiting_38 : decode c_M_waiting 38 = .ok (.ireturn, 1) := by decide +kernel
theorem dM_figure_0 : decode c_M_figure 0 = .ok (.aload_n 0, 1) := by decide +kernel
theorem dM_figure_1 : decode c_M_figure 1 = .ok (.iload_n 1, 1) := by decide +kernel
theorem dM_figure_2 : decode c_M_figure 2 = .ok (.ifCond .lt 9, 3) := by decide +kernel
theorem dM_figure_5 : decode c_M_figure 5 = .ok (.iload_n 1, 1) := by decide +kernel
theorem dM_figure_6 : decode c_M_figure 6 = .ok (.bipush 8, 2) := by decide +kernel
theorem dM_figure_8 : decode c_M_figure 8 = .ok (.if_icmp .le 7, 3) := by decide +kernel
theorem dM_figure_11 : decode c_M_figure 11 = .ok (.iconst 1, 1) := by decide +kernel
theorem dM_figure_12 : decode c_M_figure 12 = .ok (.goto 4, 3) := by decide +kernel
theorem dM_figure_15 : decode c_M_figure 15 = .ok (.iconst 0, 1) := by decide +kernel
theorem dM_figure_16 : decode c_M_figure 16 = .ok (.putfield 81, 3) := by decide +kernel
theorem dM_figure_19 : decode c_M_figure 19 = .ok (.aload_n 0, 1) := by decide +kernel
theorem dM_figure_20 : decode c_M_figure 20 = .ok (.getfield 81, 3) := by decide +kernel
theorem dM_figure_23 : decode c_M_figure 23 = .ok (.ifCond .eq 5, 3) := by decide +kernel
theorem dM_figure_26 : decode c_M_figure 26 = .ok (.iconst 0, 1) := by decide +kernel
theorem dM_figure_27 : decode c_M_figure 27 = .ok (.ireturn, 1) := by decide +kernel
theorem dM_figure_28 : decode c_M_figure 28 = .ok (.iload_n 1, 1) := by decide +kernel
theorem dM_figure_29 : decode c_M_figure 29 = .ok (.ifCond .ne 12, 3) := by decide +kernel
theorem dM_figure_32 : decode c_M_figure 32 = .ok (.aload_n 0, 1) := by decide +kernel
theorem dM_figure_33 : decode c_M_figure 33 = .ok (.getfield 34, 3) := by decide +kernel
theorem dM_figure_36 : decode c_M_figure 36 = .ok (.iconst 0, 1) := by decide +kernel
theorem dM_figure_37 : decode c_M_figure 37 = .ok (.iaload, 1) := by decide +kernel
theorem dM_figure_38 : decode c_M_figure 38 = .ok (.goto 52, 3) := by decide +kernel
theorem dM_figure_41 : decode c_M_figure 41 = .ok (.iload_n 1, 1) := by decide +kernel
theorem dM_figure_42 : decode c_M_figure 42 = .ok (.bipush 6, 2) := by decide +kernel
theorem dM_figure_44 : decode c_M_figure 44 = .ok (.if_icmp .ge 14, 3) := by decide +kernel
theorem dM_figure_47 : decode c_M_figure 47 = .ok (.aload_n 0, 1) := by decide +kernel
theorem dM_figure_48 : decode c_M_figure 48 = .ok (.getfield 68, 3) := by decide +kernel
theorem dM_figure_51 : decode c_M_figure 51 = .ok (.iload_n 1, 1) := by decide +kernel
theorem dM_figure_52 : decode c_M_figure 52 = .ok (.iconst 1, 1) := by decide +kernel
theorem dM_figure_53 : decode c_M_figure 53 = .ok (.isub, 1) := by decide +kernel
theorem dM_figure_54 : decode c_M_figure 54 = .ok (.iaload, 1) := by decide +kernel
theorem dM_figure_55 : decode c_M_figure 55 = .ok (.goto 35, 3) := by decide +kernel
theorem dM_figure_58 : decode c_M_figure 58 = .ok (.iload_n 1, 1) := by decide +kernel
theorem dM_figure_59 : decode c_M_figure 59 = .ok (.bipush 6, 2) := by decide +kernel
theorem dM_figure_61 : decode c_M_figure 61 = .ok (.if_icmp .ne 10, 3) := by decide +kernel
theorem dM_figure_64 : decode c_M_figure 64 = .ok (.aload_n 0, 1) := by decide +kernel
theorem dM_figure_65 : decode c_M_figure 65 = .ok (.getfield 113, 3) := by decide +kernel
theorem dM_figure_68 : decode c_M_figure 68 = .ok (.goto 22, 3) := by decide +kernel
theorem dM_figure_71 : decode c_M_figure 71 = .ok (.iload_n 1, 1) := by decide +kernel
theorem dM_figure_72 : decode c_M_figure 72 = .ok (.bipush 7, 2) := by decide +kernel
theorem dM_figure_74 : decode c_M_figure 74 = .ok (.if_icmp .ne 10, 3) := by decide +kernel
theorem dM_figure_77 : decode c_M_figure 77 = .ok (.aload_n 0, 1) := by decide +kernel
theorem dM_figure_78 : decode c_M_figure 78 = .ok (.getfield 123, 3) := by decide +kernel
theorem dM_figure_81 : decode c_M_figure 81 = .ok (.goto 9, 3) := by decide +kernel
theorem dM_figure_84 : decode c_M_figure 84 = .ok (.aload_n 0, 1) := by decide +kernel
theorem dM_figure_85 : decode c_M_figure 85 = .ok (.getfield 31, 3) := by decide +kernel
theorem dM_figure_88 : decode c_M_figure 88 = .ok (.iconst 0, 1) := by decide +kernel
theorem dM_figure_89 : decode c_M_figure 89 = .ok (.iaload, 1) := by decide +kernel
theorem dM_figure_90 : decode c_M_figure 90 = .ok (.ireturn, 1) := by decide +kernel
theorem dM_check_0 : decode c_M_check 0 = .ok (.iload_n 1, 1) := by decide +kernel
theorem dM_check_1 : decode c_M_check 1 = .ok (.ifCond .lt 42, 3) := by decide +kernel
theorem dM_check_4 : decode c_M_check 4 = .ok (.iload_n 1, 1) := by decide +kernel
theorem dM_check_5 : decode c_M_check 5 = .ok (.iconst 4, 1) := by decide +kernel
theorem dM_check_6 : decode c_M_check 6 = .ok (.if_icmp .gt 37, 3) := by decide +kernel
theorem dM_check_9 : decode c_M_check 9 = .ok (.iload_n 1, 1) := by decide +kernel
theorem dM_check_10 : decode c_M_check 10 = .ok (.iconst 4, 1) := by decide +kernel
theorem dM_check_11 : decode c_M_check 11 = .ok (.if_icmp .eq 11, 3) := by decide +kernel
theorem dM_check_14 : decode c_M_check 14 = .ok (.aload_n 0, 1) := by decide +kernel
theorem dM_check_15 : decode c_M_check 15 = .ok (.iload_n 2, 1) := by decide +kernel
theorem dM_check_16 : decode c_M_check 16 = .ok (.invokevirtual 103, 3) := by decide +kernel
theorem dM_check_19 : decode c_M_check 19 = .ok (.ifCond .eq 24, 3) := by decide +kernel
theorem dM_check_22 : decode c_M_check 22 = .ok (.iload_n 1, 1) := by decide +kernel
theorem dM_check_23 : decode c_M_check 23 = .ok (.iconst 4, 1) := by decide +kernel
theorem dM_check_24 : decode c_M_check 24 = .ok (.if_icmp .eq 15, 3) := by decide +kernel
theorem dM_check_27 : decode c_M_check 27 = .ok (.iload_n 1, 1) := by decide +kernel
theorem dM_check_28 : decode c_M_check 28 = .ok (.iconst 1, 1) := by decide +kernel
theorem dM_check_29 : decode c_M_check 29 = .ok (.if_icmp .eq 10, 3) := by decide +kernel
theorem dM_check_32 : decode c_M_check 32 = .ok (.iload_n 3, 1) := by decide +kernel
theorem dM_check_33 : decode c_M_check 33 = .ok (.invokestatic 107, 3) := by decide +kernel
theorem dM_check_36 : decode c_M_check 36 = .ok (.ifCond .eq 7, 3) := by decide +kernel
theorem dM_check_39 : decode c_M_check 39 = .ok (.iconst 1, 1) := by decide +kernel
theorem dM_check_40 : decode c_M_check 40 = .ok (.goto 4, 3) := by decide +kernel
theorem dM_check_43 : decode c_M_check 43 = .ok (.iconst 0, 1) := by decide +kernel
theorem dM_check_44 : decode c_M_check 44 = .ok (.istore 4, 2) := by decide +kernel
theorem dM_check_46 : decode c_M_check 46 = .ok (.aload_n 0, 1) := by decide +kernel
theorem dM_check_47 : decode c_M_check 47 = .ok (.iload 4, 2) := by decide +kernel
theorem dM_check_49 : decode c_M_check 49 = .ok (.ifCond .eq 7, 3) := by decide +kernel
theorem dM_check_52 : decode c_M_check 52 = .ok (.iconst 0, 1) := by decide +kernel
theorem dM_check_53 : decode c_M_check 53 = .ok (.goto 4, 3) := by decide +kernel
theorem dM_check_56 : decode c_M_check 56 = .ok (.iconst 1, 1) := by decide +kernel
theorem dM_check_57 : decode c_M_check 57 = .ok (.putfield 81, 3) := by decide +kernel
theorem dM_check_60 : decode c_M_check 60 = .ok (.aload_n 0, 1) := by decide +kernel
theorem dM_check_61 : decode c_M_check 61 = .ok (.getfield 81, 3) := by decide +kernel
theorem dM_check_64 : decode c_M_check 64 = .ok (.ifCond .eq 5, 3) := by decide +kernel
theorem dM_check_67 : decode c_M_check 67 = .ok (.iconst 0, 1) := by decide +kernel
theorem dM_check_68 : decode c_M_check 68 = .ok (.ireturn, 1) := by decide +kernel
theorem dM_check_69 : decode c_M_check 69 = .ok (.aload_n 0, 1) := by decide +kernel
theorem dM_check_70 : decode c_M_check 70 = .ok (.iconst 1, 1) := by decide +kernel
theorem dM_check_71 : decode c_M_check 71 = .ok (.iload_n 1, 1) := by decide +kernel
theorem dM_check_72 : decode c_M_check 72 = .ok (.iload_n 1, 1) := by decide +kernel
theorem dM_check_73 : decode c_M_check 73 = .ok (.iconst 4, 1) := by decide +kernel
theorem dM_check_74 : decode c_M_check 74 = .ok (.if_icmp .ne 7, 3) := by decide +kernel
theorem dM_check_77 : decode c_M_check 77 = .ok (.iconst 0, 1) := by decide +kernel
theorem dM_check_78 : decode c_M_check 78 = .ok (.goto 4, 3) := by decide +kernel
theorem dM_check_81 : decode c_M_check 81 = .ok (.iload_n 2, 1) := by decide +kernel
theorem dM_check_82 : decode c_M_check 82 = .ok (.iload_n 3, 1) := by decide +kernel
theorem dM_check_83 : decode c_M_check 83 = .ok (.invokevirtual 156, 3) := by decide +kernel
theorem dM_check_86 : decode c_M_check 86 = .ok (.istore 5, 2) := by decide +kernel
theorem dM_check_88 : decode c_M_check 88 = .ok (.iload 5, 2) := by decide +kernel
theorem dM_check_90 : decode c_M_check 90 = .ok (.ifCond .ne 20, 3) := by decide +kernel
theorem dM_check_93 : decode c_M_check 93 = .ok (.aload_n 0, 1) := by decide +kernel
theorem dM_check_94 : decode c_M_check 94 = .ok (.iconst 1, 1) := by decide +kernel
theorem dM_check_95 : decode c_M_check 95 = .ok (.iload_n 1, 1) := by decide +kernel
theorem dM_check_96 : decode c_M_check 96 = .ok (.iload_n 1, 1) := by decide +kernel
theorem dM_check_97 : decode c_M_check 97 = .ok (.iconst 4, 1) := by decide +kernel
theorem dM_check_98 : decode c_M_check 98 = .ok (.if_icmp .ne 7, 3) := by decide +kernel
theorem dM_check_101 : decode c_M_check 101 = .ok (.iconst 0, 1) := by decide +kernel
theorem dM_check_102 : decode c_M_check 102 = .ok (.goto 4, 3) := by decide +kernel
theorem dM_check_105 : decode c_M_check 105 = .ok (.iload_n 2, 1) := by decide +kernel
theorem dM_check_106 : decode c_M_check 106 = .ok (.iload_n 3, 1) := by decide +kernel
theorem dM_check_107 : decode c_M_check 107 = .ok (.invokevirtual 126, 3) := by decide +kernel
theorem dM_check_110 : decode c_M_check 110 = .ok (.aload_n 0, 1) := by decide +kernel
theorem dM_check_111 : decode c_M_check 111 = .ok (.getfield 34, 3) := by decide +kernel
theorem dM_check_114 : decode c_M_check 114 = .ok (.iconst 1, 1) := by decide +kernel
theorem dM_check_115 : decode c_M_check 115 = .ok (.dup2, 1) := by decide +kernel
theorem dM_check_116 : decode c_M_check 116 = .ok (.iaload, 1) := by decide +kernel
theorem dM_check_117 : decode c_M_check 117 = .ok (.iconst 1, 1) := by decide +kernel
theorem dM_check_118 : decode c_M_check 118 = .ok (.iadd, 1) := by decide +kernel
theorem dM_check_119 : decode c_M_check 119 = .ok (.iastore, 1) := by decide +kernel
theorem dM_check_120 : decode c_M_check 120 = .ok (.iload 5, 2) := by decide +kernel
theorem dM_check_122 : decode c_M_check 122 = .ok (.ireturn, 1) := by decide +kernel
theorem dM_pause_0 : decode c_M_pause 0 = .ok (.aload_n 0, 1) := by decide +kernel
theorem dM_pause_1 : decode c_M_pause 1 = .ok (.iload_n 1, 1) := by decide +kernel
theorem dM_pause_2 : decode c_M_pause 2 = .ok (.ifCond .lt 10, 3) := by decide +kernel
theorem dM_pause_5 : decode c_M_pause 5 = .ok (.iload_n 1, 1) := by decide +kernel
theorem dM_pause_6 : decode c_M_pause 6 = .ok (.sipush 1000, 3) := by decide +kernel
theorem dM_pause_9 : decode c_M_pause 9 = .ok (.if_icmp .le 7, 3) := by decide +kernel
theorem dM_pause_12 : decode c_M_pause 12 = .ok (.iconst 1, 1) := by decide +kernel
theorem dM_pause_13 : decode c_M_pause 13 = .ok (.goto 4, 3) := by decide +kernel
theorem dM_pause_16 : decode c_M_pause 16 = .ok (.iconst 0, 1) := by decide +kernel
theorem dM_pause_17 : decode c_M_pause 17 = .ok (.putfield 81, 3) := by decide +kernel
theorem dM_pause_20 : decode c_M_pause 20 = .ok (.aload_n 0, 1) := by decide +kernel
theorem dM_pause_21 : decode c_M_pause 21 = .ok (.getfield 81, 3) := by decide +kernel
theorem dM_pause_24 : decode c_M_pause 24 = .ok (.ifCond .eq 5, 3) := by decide +kernel
theorem dM_pause_27 : decode c_M_pause 27 = .ok (.iconst 0, 1) := by decide +kernel
theorem dM_pause_28 : decode c_M_pause 28 = .ok (.ireturn, 1) := by decide +kernel
theorem dM_pause_29 : decode c_M_pause 29 = .ok (.aload_n 0, 1) := by decide +kernel
theorem dM_pause_30 : decode c_M_pause 30 = .ok (.getfield 34, 3) := by decide +kernel
theorem dM_pause_33 : decode c_M_pause 33 = .ok (.iconst 1, 1) := by decide +kernel
theorem dM_pause_34 : decode c_M_pause 34 = .ok (.aload_n 0, 1) := by decide +kernel
theorem dM_pause_35 : decode c_M_pause 35 = .ok (.getfield 34, 3) := by decide +kernel
theorem dM_pause_38 : decode c_M_pause 38 = .ok (.iconst 1, 1) := by decide +kernel
theorem dM_pause_39 : decode c_M_pause 39 = .ok (.iaload, 1) := by decide +kernel
theorem dM_pause_40 : decode c_M_pause 40 = .ok (.iload_n 1, 1) := by decide +kernel
theorem dM_pause_41 : decode c_M_pause 41 = .ok (.iadd, 1) := by decide +kernel
theorem dM_pause_42 : decode c_M_pause 42 = .ok (.iastore, 1) := by decide +kernel
theorem dM_pause_43 : decode c_M_pause 43 = .ok (.aload_n 0, 1) := by decide +kernel
theorem dM_pause_44 : decode c_M_pause 44 = .ok (.getfield 34, 3) := by decide +kernel
theorem dM_pause_47 : decode c_M_pause 47 = .ok (.iconst 1, 1) := by decide +kernel
theorem dM_pause_48 : decode c_M_pause 48 = .ok (.iaload, 1) := by decide +kernel
theorem dM_pause_49 : decode c_M_pause 49 = .ok (.ireturn, 1) := by decide +kernel
end
section
theorem dC_hasBank_0 : decode c_C_hasBank 0 = .ok (.iload_n 1, 1) := by decide +kernel
theorem dC_hasBank_1 : decode c_C_hasBank 1 = .ok (.ifCond .lt 16, 3) := by decide +kernel
theorem dC_hasBank_4 : decode c_C_hasBank 4 = .ok (.iload_n 1, 1) := by decide +kernel
theorem dC_hasBank_5 : decode c_C_hasBank 5 = .ok (.aload_n 0, 1) := by decide +kernel
theorem dC_hasBank_6 : decode c_C_hasBank 6 = .ok (.getfield 15, 3) := by decide +kernel
theorem dC_hasBank_9 : decode c_C_hasBank 9 = .ok (.arraylength, 1) := by decide +kernel
theorem dC_hasBank_10 : decode c_C_hasBank 10 = .ok (.if_icmp .ge 7, 3) := by decide +kernel
theorem dC_hasBank_13 : decode c_C_hasBank 13 = .ok (.iconst 1, 1) := by decide +kernel
theorem dC_hasBank_14 : decode c_C_hasBank 14 = .ok (.goto 4, 3) := by decide +kernel
theorem dC_hasBank_17 : decode c_C_hasBank 17 = .ok (.iconst 0, 1) := by decide +kernel
theorem dC_hasBank_18 : decode c_C_hasBank 18 = .ok (.ireturn, 1) := by decide +kernel
theorem dC_firstBroken_0 : decode c_C_firstBroken 0 = .ok (.iload_n 1, 1) := by decide +kernel
theorem dC_firstBroken_1 : decode c_C_firstBroken 1 = .ok (.tableswitch 52 0 4 #[35, 41, 52, 52, 47], 35) := by decide +kernel
theorem dC_firstBroken_36 : decode c_C_firstBroken 36 = .ok (.aload_n 0, 1) := by decide +kernel
theorem dC_firstBroken_37 : decode c_C_firstBroken 37 = .ok (.iload_n 2, 1) := by decide +kernel
theorem dC_firstBroken_38 : decode c_C_firstBroken 38 = .ok (.invokevirtual 43, 3) := by decide +kernel
theorem dC_firstBroken_41 : decode c_C_firstBroken 41 = .ok (.ireturn, 1) := by decide +kernel
theorem dC_firstBroken_42 : decode c_C_firstBroken 42 = .ok (.aload_n 0, 1) := by decide +kernel
theorem dC_firstBroken_43 : decode c_C_firstBroken 43 = .ok (.iload_n 2, 1) := by decide +kernel
theorem dC_firstBroken_44 : decode c_C_firstBroken 44 = .ok (.invokevirtual 47, 3) := by decide +kernel
theorem dC_firstBroken_47 : decode c_C_firstBroken 47 = .ok (.ireturn, 1) := by decide +kernel
theorem dC_firstBroken_48 : decode c_C_firstBroken 48 = .ok (.aload_n 0, 1) := by decide +kernel
theorem dC_firstBroken_49 : decode c_C_firstBroken 49 = .ok (.invokevirtual 50, 3) := by decide +kernel
theorem dC_firstBroken_52 : decode c_C_firstBroken 52 = .ok (.ireturn, 1) := by decide +kernel
theorem dC_firstBroken_53 : decode c_C_firstBroken 53 = .ok (.aload_n 0, 1) := by decide +kernel
theorem dC_firstBroken_54 : decode c_C_firstBroken 54 = .ok (.iload_n 2, 1) := by decide +kernel
theorem dC_firstBroken_55 : decode c_C_firstBroken 55 = .ok (.iload_n 3, 1) := by decide +kernel
theorem dC_firstBroken_56 : decode c_C_firstBroken 56 = .ok (.invokevirtual 54, 3) := by decide +kernel
theorem dC_firstBroken_59 : decode c_C_firstBroken 59 = .ok (.ireturn, 1) := by decide +kernel
theorem dC_brokenByOpen_0 : decode c_C_brokenByOpen 0 = .ok (.aload_n 0, 1) := by decide +kernel
theorem dC_brokenByOpen_1 : decode c_C_brokenByOpen 1 = .ok (.getfield 15, 3) := by decide +kernel
theorem dC_brokenByOpen_4 : decode c_C_brokenByOpen 4 = .ok (.iload_n 1, 1) := by decide +kernel
theorem dC_brokenByOpen_5 : decode c_C_brokenByOpen 5 = .ok (.iaload, 1) := by decide +kernel
theorem dC_brokenByOpen_6 : decode c_C_brokenByOpen 6 = .ok (.iconst (-1), 1) := by decide +kernel
theorem dC_brokenByOpen_7 : decode c_C_brokenByOpen 7 = .ok (.if_icmp .eq 5, 3) := by decide +kernel
theorem dC_brokenByOpen_10 : decode c_C_brokenByOpen 10 = .ok (.iconst 1, 1) := by decide +kernel
theorem dC_brokenByOpen_11 : decode c_C_brokenByOpen 11 = .ok (.ireturn, 1) := by decide +kernel
theorem dC_brokenByOpen_12 : decode c_C_brokenByOpen 12 = .ok (.aload_n 0, 1) := by decide +kernel
theorem dC_brokenByOpen_13 : decode c_C_brokenByOpen 13 = .ok (.iconst 1, 1) := by decide +kernel
theorem dC_brokenByOpen_14 : decode c_C_brokenByOpen 14 = .ok (.aload_n 0, 1) := by decide +kernel
theorem dC_brokenByOpen_15 : decode c_C_brokenByOpen 15 = .ok (.getfield 21, 3) := by decide +kernel
theorem dC_brokenByOpen_18 : decode c_C_brokenByOpen 18 = .ok (.iload_n 1, 1) := by decide +kernel
theorem dC_brokenByOpen_19 : decode c_C_brokenByOpen 19 = .ok (.iaload, 1) := by decide +kernel
theorem dC_brokenByOpen_20 : decode c_C_brokenByOpen 20 = .ok (.invokevirtual 58, 3) := by decide +kernel
theorem dC_brokenByOpen_23 : decode c_C_brokenByOpen 23 = .ok (.ifCond .eq 5, 3) := by decide +kernel
theorem dC_brokenByOpen_26 : decode c_C_brokenByOpen 26 = .ok (.iconst 2, 1) := by decide +kernel
theorem dC_brokenByOpen_27 : decode c_C_brokenByOpen 27 = .ok (.ireturn, 1) := by decide +kernel
theorem dC_brokenByOpen_28 : decode c_C_brokenByOpen 28 = .ok (.aload_n 0, 1) := by decide +kernel
theorem dC_brokenByOpen_29 : decode c_C_brokenByOpen 29 = .ok (.iconst 3, 1) := by decide +kernel
theorem dC_brokenByOpen_30 : decode c_C_brokenByOpen 30 = .ok (.aload_n 0, 1) := by decide +kernel
theorem dC_brokenByOpen_31 : decode c_C_brokenByOpen 31 = .ok (.getfield 18, 3) := by decide +kernel
theorem dC_brokenByOpen_34 : decode c_C_brokenByOpen 34 = .ok (.iload_n 1, 1) := by decide +kernel
theorem dC_brokenByOpen_35 : decode c_C_brokenByOpen 35 = .ok (.iaload, 1) := by decide +kernel
theorem dC_brokenByOpen_36 : decode c_C_brokenByOpen 36 = .ok (.invokevirtual 58, 3) := by decide +kernel
theorem dC_brokenByOpen_39 : decode c_C_brokenByOpen 39 = .ok (.ifCond .eq 5, 3) := by decide +kernel
theorem dC_brokenByOpen_42 : decode c_C_brokenByOpen 42 = .ok (.iconst 3, 1) := by decide +kernel
theorem dC_brokenByOpen_43 : decode c_C_brokenByOpen 43 = .ok (.ireturn, 1) := by decide +kernel
theorem dC_brokenByOpen_44 : decode c_C_brokenByOpen 44 = .ok (.aload_n 0, 1) := by decide +kernel
theorem dC_brokenByOpen_45 : decode c_C_brokenByOpen 45 = .ok (.iload_n 1, 1) := by decide +kernel
theorem dC_brokenByOpen_46 : decode c_C_brokenByOpen 46 = .ok (.invokevirtual 62, 3) := by decide +kernel
theorem dC_brokenByOpen_49 : decode c_C_brokenByOpen 49 = .ok (.ifCond .eq 5, 3) := by decide +kernel
theorem dC_brokenByOpen_52 : decode c_C_brokenByOpen 52 = .ok (.iconst 4, 1) := by decide +kernel
theorem dC_brokenByOpen_53 : decode c_C_brokenByOpen 53 = .ok (.ireturn, 1) := by decide +kernel
theorem dC_brokenByOpen_54 : decode c_C_brokenByOpen 54 = .ok (.aload_n 0, 1) := by decide +kernel
theorem dC_brokenByOpen_55 : decode c_C_brokenByOpen 55 = .ok (.bipush 8, 2) := by decide +kernel
theorem dC_brokenByOpen_57 : decode c_C_brokenByOpen 57 = .ok (.aload_n 0, 1) := by decide +kernel
theorem dC_brokenByOpen_58 : decode c_C_brokenByOpen 58 = .ok (.getfield 30, 3) := by decide +kernel
theorem dC_brokenByOpen_61 : decode c_C_brokenByOpen 61 = .ok (.aload_n 0, 1) := by decide +kernel
theorem dC_brokenByOpen_62 : decode c_C_brokenByOpen 62 = .ok (.getfield 66, 3) := by decide +kernel
theorem dC_brokenByOpen_65 : decode c_C_brokenByOpen 65 = .ok (.iaload, 1) := by decide +kernel
theorem dC_brokenByOpen_66 : decode c_C_brokenByOpen 66 = .ok (.invokevirtual 58, 3) := by decide +kernel
theorem dC_brokenByOpen_69 : decode c_C_brokenByOpen 69 = .ok (.ifCond .eq 5, 3) := by decide +kernel
theorem dC_brokenByOpen_72 : decode c_C_brokenByOpen 72 = .ok (.iconst 5, 1) := by decide +kernel
theorem dC_brokenByOpen_73 : decode c_C_brokenByOpen 73 = .ok (.ireturn, 1) := by decide +kernel
theorem dC_brokenByOpen_74 : decode c_C_brokenByOpen 74 = .ok (.aload_n 0, 1) := by decide +kernel
theorem dC_brokenByOpen_75 : decode c_C_brokenByOpen 75 = .ok (.bipush 9, 2) := by decide +kernel
theorem dC_brokenByOpen_77 : decode c_C_brokenByOpen 77 = .ok (.aload_n 0, 1) := by decide +kernel
theorem dC_brokenByOpen_78 : decode c_C_brokenByOpen 78 = .ok (.getfield 40, 3) := by decide +kernel
theorem dC_brokenByOpen_81 : decode c_C_brokenByOpen 81 = .ok (.invokevirtual 58, 3) := by decide +kernel
theorem dC_brokenByOpen_84 : decode c_C_brokenByOpen 84 = .ok (.ifCond .eq 8, 3) := by decide +kernel
theorem dC_brokenByOpen_87 : decode c_C_brokenByOpen 87 = .ok (.bipush 6, 2) := by decide +kernel
theorem dC_brokenByOpen_89 : decode c_C_brokenByOpen 89 = .ok (.goto 4, 3) := by decide +kernel
theorem dC_brokenByOpen_92 : decode c_C_brokenByOpen 92 = .ok (.iconst 0, 1) := by decide +kernel
theorem dC_brokenByOpen_93 : decode c_C_brokenByOpen 93 = .ok (.ireturn, 1) := by decide +kernel
theorem dC_brokenByClose_0 : decode c_C_brokenByClose 0 = .ok (.aload_n 0, 1) := by decide +kernel
theorem dC_brokenByClose_1 : decode c_C_brokenByClose 1 = .ok (.getfield 15, 3) := by decide +kernel
theorem dC_brokenByClose_4 : decode c_C_brokenByClose 4 = .ok (.iload_n 1, 1) := by decide +kernel
theorem dC_brokenByClose_5 : decode c_C_brokenByClose 5 = .ok (.iaload, 1) := by decide +kernel
theorem dC_brokenByClose_6 : decode c_C_brokenByClose 6 = .ok (.iconst (-1), 1) := by decide +kernel
theorem dC_brokenByClose_7 : decode c_C_brokenByClose 7 = .ok (.if_icmp .ne 6, 3) := by decide +kernel
theorem dC_brokenByClose_10 : decode c_C_brokenByClose 10 = .ok (.bipush 7, 2) := by decide +kernel
theorem dC_brokenByClose_12 : decode c_C_brokenByClose 12 = .ok (.ireturn, 1) := by decide +kernel
theorem dC_brokenByClose_13 : decode c_C_brokenByClose 13 = .ok (.aload_n 0, 1) := by decide +kernel
theorem dC_brokenByClose_14 : decode c_C_brokenByClose 14 = .ok (.iconst 2, 1) := by decide +kernel
theorem dC_brokenByClose_15 : decode c_C_brokenByClose 15 = .ok (.aload_n 0, 1) := by decide +kernel
theorem dC_brokenByClose_16 : decode c_C_brokenByClose 16 = .ok (.getfield 18, 3) := by decide +kernel
theorem dC_brokenByClose_19 : decode c_C_brokenByClose 19 = .ok (.iload_n 1, 1) := by decide +kernel
theorem dC_brokenByClose_20 : decode c_C_brokenByClose 20 = .ok (.iaload, 1) := by decide +kernel
theorem dC_brokenByClose_21 : decode c_C_brokenByClose 21 = .ok (.invokevirtual 58, 3) := by decide +kernel
theorem dC_brokenByClose_24 : decode c_C_brokenByClose 24 = .ok (.ifCond .eq 6, 3) := by decide +kernel
theorem dC_brokenByClose_27 : decode c_C_brokenByClose 27 = .ok (.bipush 8, 2) := by decide +kernel
theorem dC_brokenByClose_29 : decode c_C_brokenByClose 29 = .ok (.ireturn, 1) := by decide +kernel
theorem dC_brokenByClose_30 : decode c_C_brokenByClose 30 = .ok (.aload_n 0, 1) := by decide +kernel
theorem dC_brokenByClose_31 : decode c_C_brokenByClose 31 = .ok (.iconst 4, 1) := by decide +kernel
theorem dC_brokenByClose_32 : decode c_C_brokenByClose 32 = .ok (.aload_n 0, 1) := by decide +kernel
theorem dC_brokenByClose_33 : decode c_C_brokenByClose 33 = .ok (.getfield 27, 3) := by decide +kernel
theorem dC_brokenByClose_36 : decode c_C_brokenByClose 36 = .ok (.iload_n 1, 1) := by decide +kernel
theorem dC_brokenByClose_37 : decode c_C_brokenByClose 37 = .ok (.iaload, 1) := by decide +kernel
theorem dC_brokenByClose_38 : decode c_C_brokenByClose 38 = .ok (.invokevirtual 58, 3) := by decide +kernel
theorem dC_brokenByClose_41 : decode c_C_brokenByClose 41 = .ok (.ifCond .eq 6, 3) := by decide +kernel
theorem dC_brokenByClose_44 : decode c_C_brokenByClose 44 = .ok (.bipush 9, 2) := by decide +kernel
theorem dC_brokenByClose_46 : decode c_C_brokenByClose 46 = .ok (.ireturn, 1) := by decide +kernel
theorem dC_brokenByClose_47 : decode c_C_brokenByClose 47 = .ok (.aload_n 0, 1) := by decide +kernel
theorem dC_brokenByClose_48 : decode c_C_brokenByClose 48 = .ok (.iconst 5, 1) := by decide +kernel
theorem dC_brokenByClose_49 : decode c_C_brokenByClose 49 = .ok (.aload_n 0, 1) := by decide +kernel
theorem dC_brokenByClose_50 : decode c_C_brokenByClose 50 = .ok (.getfield 24, 3) := by decide +kernel
theorem dC_brokenByClose_53 : decode c_C_brokenByClose 53 = .ok (.iload_n 1, 1) := by decide +kernel
theorem dC_brokenByClose_54 : decode c_C_brokenByClose 54 = .ok (.iaload, 1) := by decide +kernel
theorem dC_brokenByClose_55 : decode c_C_brokenByClose 55 = .ok (.invokevirtual 58, 3) := by decide +kernel
theorem dC_brokenByClose_58 : decode c_C_brokenByClose 58 = .ok (.ifCond .eq 8, 3) := by decide +kernel
theorem dC_brokenByClose_61 : decode c_C_brokenByClose 61 = .ok (.bipush 10, 2) := by decide +kernel
theorem dC_brokenByClose_63 : decode c_C_brokenByClose 63 = .ok (.goto 4, 3) := by decide +kernel
theorem dC_brokenByClose_66 : decode c_C_brokenByClose 66 = .ok (.iconst 0, 1) := by decide +kernel
theorem dC_brokenByClose_67 : decode c_C_brokenByClose 67 = .ok (.ireturn, 1) := by decide +kernel
theorem dC_brokenByAccess_0 : decode c_C_brokenByAccess 0 = .ok (.aload_n 0, 1) := by decide +kernel
theorem dC_brokenByAccess_1 : decode c_C_brokenByAccess 1 = .ok (.getfield 15, 3) := by decide +kernel
theorem dC_brokenByAccess_4 : decode c_C_brokenByAccess 4 = .ok (.iload_n 1, 1) := by decide +kernel
theorem dC_brokenByAccess_5 : decode c_C_brokenByAccess 5 = .ok (.iaload, 1) := by decide +kernel
theorem dC_brokenByAccess_6 : decode c_C_brokenByAccess 6 = .ok (.iload_n 2, 1) := by decide +kernel
theorem dC_brokenByAccess_7 : decode c_C_brokenByAccess 7 = .ok (.if_icmp .eq 6, 3) := by decide +kernel
theorem dC_brokenByAccess_10 : decode c_C_brokenByAccess 10 = .ok (.bipush 11, 2) := by decide +kernel
theorem dC_brokenByAccess_12 : decode c_C_brokenByAccess 12 = .ok (.ireturn, 1) := by decide +kernel
theorem dC_brokenByAccess_13 : decode c_C_brokenByAccess 13 = .ok (.aload_n 0, 1) := by decide +kernel
theorem dC_brokenByAccess_14 : decode c_C_brokenByAccess 14 = .ok (.iconst 0, 1) := by decide +kernel
theorem dC_brokenByAccess_15 : decode c_C_brokenByAccess 15 = .ok (.aload_n 0, 1) := by decide +kernel
theorem dC_brokenByAccess_16 : decode c_C_brokenByAccess 16 = .ok (.getfield 18, 3) := by decide +kernel
theorem dC_brokenByAccess_19 : decode c_C_brokenByAccess 19 = .ok (.iload_n 1, 1) := by decide +kernel
theorem dC_brokenByAccess_20 : decode c_C_brokenByAccess 20 = .ok (.iaload, 1) := by decide +kernel
theorem dC_brokenByAccess_21 : decode c_C_brokenByAccess 21 = .ok (.invokevirtual 58, 3) := by decide +kernel
theorem dC_brokenByAccess_24 : decode c_C_brokenByAccess 24 = .ok (.ifCond .eq 6, 3) := by decide +kernel
theorem dC_brokenByAccess_27 : decode c_C_brokenByAccess 27 = .ok (.bipush 12, 2) := by decide +kernel
theorem dC_brokenByAccess_29 : decode c_C_brokenByAccess 29 = .ok (.ireturn, 1) := by decide +kernel
theorem dC_brokenByAccess_30 : decode c_C_brokenByAccess 30 = .ok (.aload_n 0, 1) := by decide +kernel
theorem dC_brokenByAccess_31 : decode c_C_brokenByAccess 31 = .ok (.bipush 6, 2) := by decide +kernel
theorem dC_brokenByAccess_33 : decode c_C_brokenByAccess 33 = .ok (.aload_n 0, 1) := by decide +kernel
theorem dC_brokenByAccess_34 : decode c_C_brokenByAccess 34 = .ok (.getfield 36, 3) := by decide +kernel
theorem dC_brokenByAccess_37 : decode c_C_brokenByAccess 37 = .ok (.invokevirtual 58, 3) := by decide +kernel
theorem dC_brokenByAccess_40 : decode c_C_brokenByAccess 40 = .ok (.ifCond .eq 8, 3) := by decide +kernel
theorem dC_brokenByAccess_43 : decode c_C_brokenByAccess 43 = .ok (.bipush 13, 2) := by decide +kernel
theorem dC_brokenByAccess_45 : decode c_C_brokenByAccess 45 = .ok (.goto 4, 3) := by decide +kernel
theorem dC_brokenByAccess_48 : decode c_C_brokenByAccess 48 = .ok (.iconst 0, 1) := by decide +kernel
theorem dC_brokenByAccess_49 : decode c_C_brokenByAccess 49 = .ok (.ireturn, 1) := by decide +kernel
theorem dC_brokenByRefresh_0 : decode c_C_brokenByRefresh 0 = .ok (.iconst 0, 1) := by decide +kernel
theorem dC_brokenByRefresh_1 : decode c_C_brokenByRefresh 1 = .ok (.istore_n 1, 1) := by decide +kernel
theorem dC_brokenByRefresh_2 : decode c_C_brokenByRefresh 2 = .ok (.iload_n 1, 1) := by decide +kernel
theorem dC_brokenByRefresh_3 : decode c_C_brokenByRefresh 3 = .ok (.aload_n 0, 1) := by decide +kernel
theorem dC_brokenByRefresh_4 : decode c_C_brokenByRefresh 4 = .ok (.getfield 15, 3) := by decide +kernel
theorem dC_brokenByRefresh_7 : decode c_C_brokenByRefresh 7 = .ok (.arraylength, 1) := by decide +kernel
theorem dC_brokenByRefresh_8 : decode c_C_brokenByRefresh 8 = .ok (.if_icmp .ge 22, 3) := by decide +kernel
theorem dC_brokenByRefresh_11 : decode c_C_brokenByRefresh 11 = .ok (.aload_n 0, 1) := by decide +kernel
theorem dC_brokenByRefresh_12 : decode c_C_brokenByRefresh 12 = .ok (.getfield 15, 3) := by decide +kernel
theorem dC_brokenByRefresh_15 : decode c_C_brokenByRefresh 15 = .ok (.iload_n 1, 1) := by decide +kernel
theorem dC_brokenByRefresh_16 : decode c_C_brokenByRefresh 16 = .ok (.iaload, 1) := by decide +kernel
theorem dC_brokenByRefresh_17 : decode c_C_brokenByRefresh 17 = .ok (.iconst (-1), 1) := by decide +kernel
theorem dC_brokenByRefresh_18 : decode c_C_brokenByRefresh 18 = .ok (.if_icmp .eq 6, 3) := by decide +kernel
theorem dC_brokenByRefresh_21 : decode c_C_brokenByRefresh 21 = .ok (.bipush 14, 2) := by decide +kernel
theorem dC_brokenByRefresh_23 : decode c_C_brokenByRefresh 23 = .ok (.ireturn, 1) := by decide +kernel
theorem dC_brokenByRefresh_24 : decode c_C_brokenByRefresh 24 = .ok (.iinc 1 1, 3) := by decide +kernel
theorem dC_brokenByRefresh_27 : decode c_C_brokenByRefresh 27 = .ok (.goto (-25), 3) := by decide +kernel
theorem dC_brokenByRefresh_30 : decode c_C_brokenByRefresh 30 = .ok (.iconst 0, 1) := by decide +kernel
theorem dC_brokenByRefresh_31 : decode c_C_brokenByRefresh 31 = .ok (.istore_n 1, 1) := by decide +kernel
theorem dC_brokenByRefresh_32 : decode c_C_brokenByRefresh 32 = .ok (.iload_n 1, 1) := by decide +kernel
theorem dC_brokenByRefresh_33 : decode c_C_brokenByRefresh 33 = .ok (.aload_n 0, 1) := by decide +kernel
theorem dC_brokenByRefresh_34 : decode c_C_brokenByRefresh 34 = .ok (.getfield 15, 3) := by decide +kernel
theorem dC_brokenByRefresh_37 : decode c_C_brokenByRefresh 37 = .ok (.arraylength, 1) := by decide +kernel
theorem dC_brokenByRefresh_38 : decode c_C_brokenByRefresh 38 = .ok (.if_icmp .ge 26, 3) := by decide +kernel
theorem dC_brokenByRefresh_41 : decode c_C_brokenByRefresh 41 = .ok (.aload_n 0, 1) := by decide +kernel
theorem dC_brokenByRefresh_42 : decode c_C_brokenByRefresh 42 = .ok (.iconst 1, 1) := by decide +kernel
theorem dC_brokenByRefresh_43 : decode c_C_brokenByRefresh 43 = .ok (.aload_n 0, 1) := by decide +kernel
theorem dC_brokenByRefresh_44 : decode c_C_brokenByRefresh 44 = .ok (.getfield 21, 3) := by decide +kernel
theorem dC_brokenByRefresh_47 : decode c_C_brokenByRefresh 47 = .ok (.iload_n 1, 1) := by decide +kernel
theorem dC_brokenByRefresh_48 : decode c_C_brokenByRefresh 48 = .ok (.iaload, 1) := by decide +kernel
theorem dC_brokenByRefresh_49 : decode c_C_brokenByRefresh 49 = .ok (.invokevirtual 58, 3) := by decide +kernel
theorem dC_brokenByRefresh_52 : decode c_C_brokenByRefresh 52 = .ok (.ifCond .eq 6, 3) := by decide +kernel
theorem dC_brokenByRefresh_55 : decode c_C_brokenByRefresh 55 = .ok (.bipush 15, 2) := by decide +kernel
theorem dC_brokenByRefresh_57 : decode c_C_brokenByRefresh 57 = .ok (.ireturn, 1) := by decide +kernel
theorem dC_brokenByRefresh_58 : decode c_C_brokenByRefresh 58 = .ok (.iinc 1 1, 3) := by decide +kernel
theorem dC_brokenByRefresh_61 : decode c_C_brokenByRefresh 61 = .ok (.goto (-29), 3) := by decide +kernel
theorem dC_brokenByRefresh_64 : decode c_C_brokenByRefresh 64 = .ok (.aload_n 0, 1) := by decide +kernel
theorem dC_brokenByRefresh_65 : decode c_C_brokenByRefresh 65 = .ok (.bipush 9, 2) := by decide +kernel
theorem dC_brokenByRefresh_67 : decode c_C_brokenByRefresh 67 = .ok (.aload_n 0, 1) := by decide +kernel
theorem dC_brokenByRefresh_68 : decode c_C_brokenByRefresh 68 = .ok (.getfield 40, 3) := by decide +kernel
theorem dC_brokenByRefresh_71 : decode c_C_brokenByRefresh 71 = .ok (.invokevirtual 58, 3) := by decide +kernel
theorem dC_brokenByRefresh_74 : decode c_C_brokenByRefresh 74 = .ok (.ifCond .eq 8, 3) := by decide +kernel
theorem dC_brokenByRefresh_77 : decode c_C_brokenByRefresh 77 = .ok (.bipush 16, 2) := by decide +kernel
theorem dC_brokenByRefresh_79 : decode c_C_brokenByRefresh 79 = .ok (.goto 4, 3) := by decide +kernel
theorem dC_brokenByRefresh_82 : decode c_C_brokenByRefresh 82 = .ok (.iconst 0, 1) := by decide +kernel
theorem dC_brokenByRefresh_83 : decode c_C_brokenByRefresh 83 = .ok (.ireturn, 1) := by decide +kernel
theorem dC_give_0 : decode c_C_give 0 = .ok (.aload_n 0, 1) := by decide +kernel
theorem dC_give_1 : decode c_C_give 1 = .ok (.getfield 33, 3) := by decide +kernel
theorem dC_give_4 : decode c_C_give 4 = .ok (.iload_n 1, 1) := by decide +kernel
theorem dC_give_5 : decode c_C_give 5 = .ok (.dup2, 1) := by decide +kernel
theorem dC_give_6 : decode c_C_give 6 = .ok (.iaload, 1) := by decide +kernel
theorem dC_give_7 : decode c_C_give 7 = .ok (.iconst 1, 1) := by decide +kernel
theorem dC_give_8 : decode c_C_give 8 = .ok (.iadd, 1) := by decide +kernel
theorem dC_give_9 : decode c_C_give 9 = .ok (.iastore, 1) := by decide +kernel
theorem dC_give_10 : decode c_C_give 10 = .ok (.iload_n 1, 1) := by decide +kernel
theorem dC_give_11 : decode c_C_give 11 = .ok (.tableswitch 136 0 3 #[29, 74, 94, 115], 29) := by decide +kernel
theorem dC_give_40 : decode c_C_give 40 = .ok (.aload_n 0, 1) := by decide +kernel
theorem dC_give_41 : decode c_C_give 41 = .ok (.getfield 30, 3) := by decide +kernel
theorem dC_give_44 : decode c_C_give 44 = .ok (.aload_n 0, 1) := by decide +kernel
theorem dC_give_45 : decode c_C_give 45 = .ok (.getfield 66, 3) := by decide +kernel
theorem dC_give_48 : decode c_C_give 48 = .ok (.aload_n 0, 1) := by decide +kernel
theorem dC_give_49 : decode c_C_give 49 = .ok (.getfield 69, 3) := by decide +kernel
theorem dC_give_52 : decode c_C_give 52 = .ok (.iastore, 1) := by decide +kernel
theorem dC_give_53 : decode c_C_give 53 = .ok (.aload_n 0, 1) := by decide +kernel
theorem dC_give_54 : decode c_C_give 54 = .ok (.aload_n 0, 1) := by decide +kernel
theorem dC_give_55 : decode c_C_give 55 = .ok (.getfield 66, 3) := by decide +kernel
theorem dC_give_58 : decode c_C_give 58 = .ok (.iconst 1, 1) := by decide +kernel
theorem dC_give_59 : decode c_C_give 59 = .ok (.iadd, 1) := by decide +kernel
theorem dC_give_60 : decode c_C_give 60 = .ok (.iconst 4, 1) := by decide +kernel
theorem dC_give_61 : decode c_C_give 61 = .ok (.irem, 1) := by decide +kernel
theorem dC_give_62 : decode c_C_give 62 = .ok (.putfield 66, 3) := by decide +kernel
theorem dC_give_65 : decode c_C_give 65 = .ok (.aload_n 0, 1) := by decide +kernel
theorem dC_give_66 : decode c_C_give 66 = .ok (.getfield 18, 3) := by decide +kernel
theorem dC_give_69 : decode c_C_give 69 = .ok (.iload_n 2, 1) := by decide +kernel
theorem dC_give_70 : decode c_C_give 70 = .ok (.aload_n 0, 1) := by decide +kernel
theorem dC_give_71 : decode c_C_give 71 = .ok (.getfield 69, 3) := by decide +kernel
theorem dC_give_74 : decode c_C_give 74 = .ok (.iastore, 1) := by decide +kernel
theorem dC_give_75 : decode c_C_give 75 = .ok (.aload_n 0, 1) := by decide +kernel
theorem dC_give_76 : decode c_C_give 76 = .ok (.getfield 15, 3) := by decide +kernel
theorem dC_give_79 : decode c_C_give 79 = .ok (.iload_n 2, 1) := by decide +kernel
theorem dC_give_80 : decode c_C_give 80 = .ok (.iload_n 3, 1) := by decide +kernel
theorem dC_give_81 : decode c_C_give 81 = .ok (.iastore, 1) := by decide +kernel
theorem dC_give_82 : decode c_C_give 82 = .ok (.goto 73, 3) := by decide +kernel
theorem dC_give_85 : decode c_C_give 85 = .ok (.aload_n 0, 1) := by decide +kernel
theorem dC_give_86 : decode c_C_give 86 = .ok (.getfield 21, 3) := by decide +kernel
theorem dC_give_89 : decode c_C_give 89 = .ok (.iload_n 2, 1) := by decide +kernel
theorem dC_give_90 : decode c_C_give 90 = .ok (.aload_n 0, 1) := by decide +kernel
theorem dC_give_91 : decode c_C_give 91 = .ok (.getfield 69, 3) := by decide +kernel
theorem dC_give_94 : decode c_C_give 94 = .ok (.iastore, 1) := by decide +kernel
theorem dC_give_95 : decode c_C_give 95 = .ok (.aload_n 0, 1) := by decide +kernel
theorem dC_give_96 : decode c_C_give 96 = .ok (.getfield 15, 3) := by decide +kernel
theorem dC_give_99 : decode c_C_give 99 = .ok (.iload_n 2, 1) := by decide +kernel
theorem dC_give_100 : decode c_C_give 100 = .ok (.iconst (-1), 1) := by decide +kernel
theorem dC_give_101 : decode c_C_give 101 = .ok (.iastore, 1) := by decide +kernel
theorem dC_give_102 : decode c_C_give 102 = .ok (.goto 53, 3) := by decide +kernel
theorem dC_give_105 : decode c_C_give 105 = .ok (.aload_n 0, 1) := by decide +kernel
theorem dC_give_106 : decode c_C_give 106 = .ok (.getfield 24, 3) := by decide +kernel
theorem dC_give_109 : decode c_C_give 109 = .ok (.iload_n 2, 1) := by decide +kernel
theorem dC_give_110 : decode c_C_give 110 = .ok (.aload_n 0, 1) := by decide +kernel
theorem dC_give_111 : decode c_C_give 111 = .ok (.getfield 69, 3) := by decide +kernel
theorem dC_give_114 : decode c_C_give 114 = .ok (.iastore, 1) := by decide +kernel
theorem dC_give_115 : decode c_C_give 115 = .ok (.aload_n 0, 1) := by decide +kernel
theorem dC_give_116 : decode c_C_give 116 = .ok (.aload_n 0, 1) := by decide +kernel
theorem dC_give_117 : decode c_C_give 117 = .ok (.getfield 69, 3) := by decide +kernel
theorem dC_give_120 : decode c_C_give 120 = .ok (.putfield 36, 3) := by decide +kernel
theorem dC_give_123 : decode c_C_give 123 = .ok (.goto 32, 3) := by decide +kernel
theorem dC_give_126 : decode c_C_give 126 = .ok (.aload_n 0, 1) := by decide +kernel
theorem dC_give_127 : decode c_C_give 127 = .ok (.getfield 27, 3) := by decide +kernel
theorem dC_give_130 : decode c_C_give 130 = .ok (.iload_n 2, 1) := by decide +kernel
theorem dC_give_131 : decode c_C_give 131 = .ok (.aload_n 0, 1) := by decide +kernel
theorem dC_give_132 : decode c_C_give 132 = .ok (.getfield 69, 3) := by decide +kernel
theorem dC_give_135 : decode c_C_give 135 = .ok (.iastore, 1) := by decide +kernel
theorem dC_give_136 : decode c_C_give 136 = .ok (.aload_n 0, 1) := by decide +kernel
theorem dC_give_137 : decode c_C_give 137 = .ok (.aload_n 0, 1) := by decide +kernel
theorem dC_give_138 : decode c_C_give 138 = .ok (.getfield 69, 3) := by decide +kernel
theorem dC_give_141 : decode c_C_give 141 = .ok (.putfield 36, 3) := by decide +kernel
theorem dC_give_144 : decode c_C_give 144 = .ok (.goto 11, 3) := by decide +kernel
theorem dC_give_147 : decode c_C_give 147 = .ok (.aload_n 0, 1) := by decide +kernel
theorem dC_give_148 : decode c_C_give 148 = .ok (.aload_n 0, 1) := by decide +kernel
theorem dC_give_149 : decode c_C_give 149 = .ok (.getfield 69, 3) := by decide +kernel
theorem dC_give_152 : decode c_C_give 152 = .ok (.putfield 40, 3) := by decide +kernel
theorem dC_give_155 : decode c_C_give 155 = .ok (.return_, 1) := by decide +kernel
theorem dC_isTooSoonForOthers_0 : decode c_C_isTooSoonForOthers 0 = .ok (.iconst 0, 1) := by decide +kernel
theorem dC_isTooSoonForOthers_1 : decode c_C_isTooSoonForOthers 1 = .ok (.istore_n 2, 1) := by decide +kernel
theorem dC_isTooSoonForOthers_2 : decode c_C_isTooSoonForOthers 2 = .ok (.iload_n 2, 1) := by decide +kernel
theorem dC_isTooSoonForOthers_3 : decode c_C_isTooSoonForOthers 3 = .ok (.aload_n 0, 1) := by decide +kernel
theorem dC_isTooSoonForOthers_4 : decode c_C_isTooSoonForOthers 4 = .ok (.getfield 18, 3) := by decide +kernel
theorem dC_isTooSoonForOthers_7 : decode c_C_isTooSoonForOthers 7 = .ok (.arraylength, 1) := by decide +kernel
theorem dC_isTooSoonForOthers_8 : decode c_C_isTooSoonForOthers 8 = .ok (.if_icmp .ge 31, 3) := by decide +kernel
theorem dC_isTooSoonForOthers_11 : decode c_C_isTooSoonForOthers 11 = .ok (.iload_n 2, 1) := by decide +kernel
theorem dC_isTooSoonForOthers_12 : decode c_C_isTooSoonForOthers 12 = .ok (.iload_n 1, 1) := by decide +kernel
theorem dC_isTooSoonForOthers_13 : decode c_C_isTooSoonForOthers 13 = .ok (.if_icmp .eq 20, 3) := by decide +kernel
theorem dC_isTooSoonForOthers_16 : decode c_C_isTooSoonForOthers 16 = .ok (.aload_n 0, 1) := by decide +kernel
theorem dC_isTooSoonForOthers_17 : decode c_C_isTooSoonForOthers 17 = .ok (.bipush 7, 2) := by decide +kernel
theorem dC_isTooSoonForOthers_19 : decode c_C_isTooSoonForOthers 19 = .ok (.aload_n 0, 1) := by decide +kernel
theorem dC_isTooSoonForOthers_20 : decode c_C_isTooSoonForOthers 20 = .ok (.getfield 18, 3) := by decide +kernel
theorem dC_isTooSoonForOthers_23 : decode c_C_isTooSoonForOthers 23 = .ok (.iload_n 2, 1) := by decide +kernel
theorem dC_isTooSoonForOthers_24 : decode c_C_isTooSoonForOthers 24 = .ok (.iaload, 1) := by decide +kernel
theorem dC_isTooSoonForOthers_25 : decode c_C_isTooSoonForOthers 25 = .ok (.invokevirtual 58, 3) := by decide +kernel
theorem dC_isTooSoonForOthers_28 : decode c_C_isTooSoonForOthers 28 = .ok (.ifCond .eq 5, 3) := by decide +kernel
theorem dC_isTooSoonForOthers_31 : decode c_C_isTooSoonForOthers 31 = .ok (.iconst 1, 1) := by decide +kernel
theorem dC_isTooSoonForOthers_32 : decode c_C_isTooSoonForOthers 32 = .ok (.ireturn, 1) := by decide +kernel
theorem dC_isTooSoonForOthers_33 : decode c_C_isTooSoonForOthers 33 = .ok (.iinc 2 1, 3) := by decide +kernel
theorem dC_isTooSoonForOthers_36 : decode c_C_isTooSoonForOthers 36 = .ok (.goto (-34), 3) := by decide +kernel
theorem dC_isTooSoonForOthers_39 : decode c_C_isTooSoonForOthers 39 = .ok (.iconst 0, 1) := by decide +kernel
theorem dC_isTooSoonForOthers_40 : decode c_C_isTooSoonForOthers 40 = .ok (.ireturn, 1) := by decide +kernel
theorem dC_isTooSoon_0 : decode c_C_isTooSoon 0 = .ok (.iload_n 2, 1) := by decide +kernel
theorem dC_isTooSoon_1 : decode c_C_isTooSoon 1 = .ok (.iconst (-1), 1) := by decide +kernel
theorem dC_isTooSoon_2 : decode c_C_isTooSoon 2 = .ok (.if_icmp .eq 22, 3) := by decide +kernel
theorem dC_isTooSoon_5 : decode c_C_isTooSoon 5 = .ok (.aload_n 0, 1) := by decide +kernel
theorem dC_isTooSoon_6 : decode c_C_isTooSoon 6 = .ok (.getfield 69, 3) := by decide +kernel
theorem dC_isTooSoon_9 : decode c_C_isTooSoon 9 = .ok (.iload_n 2, 1) := by decide +kernel
theorem dC_isTooSoon_10 : decode c_C_isTooSoon 10 = .ok (.isub, 1) := by decide +kernel
theorem dC_isTooSoon_11 : decode c_C_isTooSoon 11 = .ok (.aload_n 0, 1) := by decide +kernel
theorem dC_isTooSoon_12 : decode c_C_isTooSoon 12 = .ok (.getfield 9, 3) := by decide +kernel
theorem dC_isTooSoon_15 : decode c_C_isTooSoon 15 = .ok (.iload_n 1, 1) := by decide +kernel
theorem dC_isTooSoon_16 : decode c_C_isTooSoon 16 = .ok (.iaload, 1) := by decide +kernel
theorem dC_isTooSoon_17 : decode c_C_isTooSoon 17 = .ok (.if_icmp .ge 7, 3) := by decide +kernel
theorem dC_isTooSoon_20 : decode c_C_isTooSoon 20 = .ok (.iconst 1, 1) := by decide +kernel
theorem dC_isTooSoon_21 : decode c_C_isTooSoon 21 = .ok (.goto 4, 3) := by decide +kernel
theorem dC_isTooSoon_24 : decode c_C_isTooSoon 24 = .ok (.iconst 0, 1) := by decide +kernel
theorem dC_isTooSoon_25 : decode c_C_isTooSoon 25 = .ok (.ireturn, 1) := by decide +kernel
end
section
theorem dB_time_0 : decode c_B_time 0 = .ok (.iload_n 1, 1) := by decide +kernel
theorem dB_time_1 : decode c_B_time 1 = .ok (.ifCond .lt 12, 3) := by decide +kernel
theorem dB_time_4 : decode c_B_time 4 = .ok (.iload_n 1, 1) := by decide +kernel
theorem dB_time_5 : decode c_B_time 5 = .ok (.aload_n 0, 1) := by decide +kernel
theorem dB_time_6 : decode c_B_time 6 = .ok (.getfield 31, 3) := by decide +kernel
theorem dB_time_9 : decode c_B_time 9 = .ok (.arraylength, 1) := by decide +kernel
theorem dB_time_10 : decode c_B_time 10 = .ok (.if_icmp .lt 13, 3) := by decide +kernel
theorem dB_time_13 : decode c_B_time 13 = .ok (.new 62, 3) := by decide +kernel
theorem dB_time_16 : decode c_B_time 16 = .ok (.dup, 1) := by decide +kernel
theorem dB_time_17 : decode c_B_time 17 = .ok (.ldc 64, 2) := by decide +kernel
theorem dB_time_19 : decode c_B_time 19 = .ok (.invokespecial 66, 3) := by decide +kernel
theorem dB_time_22 : decode c_B_time 22 = .ok (.athrow, 1) := by decide +kernel
theorem dB_time_23 : decode c_B_time 23 = .ok (.iload_n 2, 1) := by decide +kernel
theorem dB_time_24 : decode c_B_time 24 = .ok (.getstatic 69, 3) := by decide +kernel
theorem dB_time_27 : decode c_B_time 27 = .ok (.iload_n 1, 1) := by decide +kernel
theorem dB_time_28 : decode c_B_time 28 = .ok (.iaload, 1) := by decide +kernel
theorem dB_time_29 : decode c_B_time 29 = .ok (.if_icmp .lt 12, 3) := by decide +kernel
theorem dB_time_32 : decode c_B_time 32 = .ok (.iload_n 2, 1) := by decide +kernel
theorem dB_time_33 : decode c_B_time 33 = .ok (.getstatic 72, 3) := by decide +kernel
theorem dB_time_36 : decode c_B_time 36 = .ok (.iload_n 1, 1) := by decide +kernel
theorem dB_time_37 : decode c_B_time 37 = .ok (.iaload, 1) := by decide +kernel
theorem dB_time_38 : decode c_B_time 38 = .ok (.if_icmp .le 13, 3) := by decide +kernel
theorem dB_time_41 : decode c_B_time 41 = .ok (.new 75, 3) := by decide +kernel
theorem dB_time_44 : decode c_B_time 44 = .ok (.dup, 1) := by decide +kernel
theorem dB_time_45 : decode c_B_time 45 = .ok (.ldc 77, 2) := by decide +kernel
theorem dB_time_47 : decode c_B_time 47 = .ok (.invokespecial 79, 3) := by decide +kernel
theorem dB_time_50 : decode c_B_time 50 = .ok (.athrow, 1) := by decide +kernel
theorem dB_time_51 : decode c_B_time 51 = .ok (.aload_n 0, 1) := by decide +kernel
theorem dB_time_52 : decode c_B_time 52 = .ok (.getfield 42, 3) := by decide +kernel
theorem dB_time_55 : decode c_B_time 55 = .ok (.getfield 80, 3) := by decide +kernel
theorem dB_time_58 : decode c_B_time 58 = .ok (.ifCond .eq 13, 3) := by decide +kernel
theorem dB_time_61 : decode c_B_time 61 = .ok (.new 83, 3) := by decide +kernel
theorem dB_time_64 : decode c_B_time 64 = .ok (.dup, 1) := by decide +kernel
theorem dB_time_65 : decode c_B_time 65 = .ok (.ldc 85, 2) := by decide +kernel
theorem dB_time_67 : decode c_B_time 67 = .ok (.invokespecial 87, 3) := by decide +kernel
theorem dB_time_70 : decode c_B_time 70 = .ok (.athrow, 1) := by decide +kernel
theorem dB_time_71 : decode c_B_time 71 = .ok (.aload_n 0, 1) := by decide +kernel
theorem dB_time_72 : decode c_B_time 72 = .ok (.getfield 31, 3) := by decide +kernel
theorem dB_time_75 : decode c_B_time 75 = .ok (.iload_n 1, 1) := by decide +kernel
theorem dB_time_76 : decode c_B_time 76 = .ok (.iaload, 1) := by decide +kernel
theorem dB_time_77 : decode c_B_time 77 = .ok (.istore_n 3, 1) := by decide +kernel
theorem dB_time_78 : decode c_B_time 78 = .ok (.aload_n 0, 1) := by decide +kernel
theorem dB_time_79 : decode c_B_time 79 = .ok (.getfield 31, 3) := by decide +kernel
theorem dB_time_82 : decode c_B_time 82 = .ok (.iload_n 1, 1) := by decide +kernel
theorem dB_time_83 : decode c_B_time 83 = .ok (.iload_n 2, 1) := by decide +kernel
theorem dB_time_84 : decode c_B_time 84 = .ok (.iastore, 1) := by decide +kernel
theorem dB_time_85 : decode c_B_time 85 = .ok (.iload_n 3, 1) := by decide +kernel
theorem dB_time_86 : decode c_B_time 86 = .ok (.ireturn, 1) := by decide +kernel
theorem dB_read_0 : decode c_B_read 0 = .ok (.aload_n 0, 1) := by decide +kernel
theorem dB_read_1 : decode c_B_read 1 = .ok (.iload_n 1, 1) := by decide +kernel
theorem dB_read_2 : decode c_B_read 2 = .ok (.iload_n 2, 1) := by decide +kernel
theorem dB_read_3 : decode c_B_read 3 = .ok (.iload_n 3, 1) := by decide +kernel
theorem dB_read_4 : decode c_B_read 4 = .ok (.invokevirtual 88, 3) := by decide +kernel
theorem dB_read_7 : decode c_B_read 7 = .ok (.aload_n 0, 1) := by decide +kernel
theorem dB_read_8 : decode c_B_read 8 = .ok (.invokevirtual 92, 3) := by decide +kernel
theorem dB_read_11 : decode c_B_read 11 = .ok (.aload_n 0, 1) := by decide +kernel
theorem dB_read_12 : decode c_B_read 12 = .ok (.iconst 2, 1) := by decide +kernel
theorem dB_read_13 : decode c_B_read 13 = .ok (.iload_n 1, 1) := by decide +kernel
theorem dB_read_14 : decode c_B_read 14 = .ok (.iload_n 2, 1) := by decide +kernel
theorem dB_read_15 : decode c_B_read 15 = .ok (.iload_n 3, 1) := by decide +kernel
theorem dB_read_16 : decode c_B_read 16 = .ok (.iconst 0, 1) := by decide +kernel
theorem dB_read_17 : decode c_B_read 17 = .ok (.invokevirtual 95, 3) := by decide +kernel
theorem dB_read_20 : decode c_B_read 20 = .ok (.ireturn, 1) := by decide +kernel
theorem dB_write_0 : decode c_B_write 0 = .ok (.aload_n 0, 1) := by decide +kernel
theorem dB_write_1 : decode c_B_write 1 = .ok (.iload_n 1, 1) := by decide +kernel
theorem dB_write_2 : decode c_B_write 2 = .ok (.iload_n 2, 1) := by decide +kernel
theorem dB_write_3 : decode c_B_write 3 = .ok (.iload_n 3, 1) := by decide +kernel
theorem dB_write_4 : decode c_B_write 4 = .ok (.invokevirtual 88, 3) := by decide +kernel
theorem dB_write_7 : decode c_B_write 7 = .ok (.aload_n 0, 1) := by decide +kernel
theorem dB_write_8 : decode c_B_write 8 = .ok (.invokevirtual 92, 3) := by decide +kernel
theorem dB_write_11 : decode c_B_write 11 = .ok (.aload_n 0, 1) := by decide +kernel
theorem dB_write_12 : decode c_B_write 12 = .ok (.iconst 3, 1) := by decide +kernel
theorem dB_write_13 : decode c_B_write 13 = .ok (.iload_n 1, 1) := by decide +kernel
theorem dB_write_14 : decode c_B_write 14 = .ok (.iload_n 2, 1) := by decide +kernel
theorem dB_write_15 : decode c_B_write 15 = .ok (.iload_n 3, 1) := by decide +kernel
theorem dB_write_16 : decode c_B_write 16 = .ok (.iload 4, 2) := by decide +kernel
theorem dB_write_18 : decode c_B_write 18 = .ok (.invokevirtual 95, 3) := by decide +kernel
theorem dB_write_21 : decode c_B_write 21 = .ok (.ireturn, 1) := by decide +kernel
theorem dB_tick_0 : decode c_B_tick 0 = .ok (.aload_n 0, 1) := by decide +kernel
theorem dB_tick_1 : decode c_B_tick 1 = .ok (.invokevirtual 99, 3) := by decide +kernel
theorem dB_tick_4 : decode c_B_tick 4 = .ok (.istore_n 1, 1) := by decide +kernel
theorem dB_tick_5 : decode c_B_tick 5 = .ok (.aload_n 0, 1) := by decide +kernel
theorem dB_tick_6 : decode c_B_tick 6 = .ok (.getfield 42, 3) := by decide +kernel
theorem dB_tick_9 : decode c_B_tick 9 = .ok (.dup, 1) := by decide +kernel
theorem dB_tick_10 : decode c_B_tick 10 = .ok (.getfield 80, 3) := by decide +kernel
theorem dB_tick_13 : decode c_B_tick 13 = .ok (.iconst 1, 1) := by decide +kernel
theorem dB_tick_14 : decode c_B_tick 14 = .ok (.iadd, 1) := by decide +kernel
theorem dB_tick_15 : decode c_B_tick 15 = .ok (.putfield 80, 3) := by decide +kernel
theorem dB_tick_18 : decode c_B_tick 18 = .ok (.iload_n 1, 1) := by decide +kernel
theorem dB_tick_19 : decode c_B_tick 19 = .ok (.ireturn, 1) := by decide +kernel
theorem dB_run_0 : decode c_B_run 0 = .ok (.iload_n 1, 1) := by decide +kernel
theorem dB_run_1 : decode c_B_run 1 = .ok (.ifCond .lt 10, 3) := by decide +kernel
theorem dB_run_4 : decode c_B_run 4 = .ok (.iload_n 1, 1) := by decide +kernel
theorem dB_run_5 : decode c_B_run 5 = .ok (.sipush 2000, 3) := by decide +kernel
theorem dB_run_8 : decode c_B_run 8 = .ok (.if_icmp .le 13, 3) := by decide +kernel
theorem dB_run_11 : decode c_B_run 11 = .ok (.new 75, 3) := by decide +kernel
theorem dB_run_14 : decode c_B_run 14 = .ok (.dup, 1) := by decide +kernel
theorem dB_run_15 : decode c_B_run 15 = .ok (.ldc 103, 2) := by decide +kernel
theorem dB_run_17 : decode c_B_run 17 = .ok (.invokespecial 79, 3) := by decide +kernel
theorem dB_run_20 : decode c_B_run 20 = .ok (.athrow, 1) := by decide +kernel
theorem dB_run_21 : decode c_B_run 21 = .ok (.iconst 0, 1) := by decide +kernel
theorem dB_run_22 : decode c_B_run 22 = .ok (.istore_n 2, 1) := by decide +kernel
theorem dB_run_23 : decode c_B_run 23 = .ok (.iconst 0, 1) := by decide +kernel
theorem dB_run_24 : decode c_B_run 24 = .ok (.istore_n 3, 1) := by decide +kernel
theorem dB_run_25 : decode c_B_run 25 = .ok (.iload_n 3, 1) := by decide +kernel
theorem dB_run_26 : decode c_B_run 26 = .ok (.iload_n 1, 1) := by decide +kernel
theorem dB_run_27 : decode c_B_run 27 = .ok (.if_icmp .ge 19, 3) := by decide +kernel
theorem dB_run_30 : decode c_B_run 30 = .ok (.aload_n 0, 1) := by decide +kernel
theorem dB_run_31 : decode c_B_run 31 = .ok (.invokevirtual 105, 3) := by decide +kernel
theorem dB_run_34 : decode c_B_run 34 = .ok (.ifCond .eq 6, 3) := by decide +kernel
theorem dB_run_37 : decode c_B_run 37 = .ok (.iinc 2 1, 3) := by decide +kernel
theorem dB_run_40 : decode c_B_run 40 = .ok (.iinc 3 1, 3) := by decide +kernel
theorem dB_run_43 : decode c_B_run 43 = .ok (.goto (-18), 3) := by decide +kernel
theorem dB_run_46 : decode c_B_run 46 = .ok (.iload_n 2, 1) := by decide +kernel
theorem dB_run_47 : decode c_B_run 47 = .ok (.ireturn, 1) := by decide +kernel
theorem dB_result_0 : decode c_B_result 0 = .ok (.iload_n 1, 1) := by decide +kernel
theorem dB_result_1 : decode c_B_result 1 = .ok (.ifCond .lt 19, 3) := by decide +kernel
theorem dB_result_4 : decode c_B_result 4 = .ok (.iload_n 1, 1) := by decide +kernel
theorem dB_result_5 : decode c_B_result 5 = .ok (.aload_n 0, 1) := by decide +kernel
theorem dB_result_6 : decode c_B_result 6 = .ok (.getfield 108, 3) := by decide +kernel
theorem dB_result_9 : decode c_B_result 9 = .ok (.if_icmp .ge 11, 3) := by decide +kernel
theorem dB_result_12 : decode c_B_result 12 = .ok (.aload_n 0, 1) := by decide +kernel
theorem dB_result_13 : decode c_B_result 13 = .ok (.iload_n 1, 1) := by decide +kernel
theorem dB_result_14 : decode c_B_result 14 = .ok (.invokevirtual 111, 3) := by decide +kernel
theorem dB_result_17 : decode c_B_result 17 = .ok (.ifCond .ne 13, 3) := by decide +kernel
theorem dB_result_20 : decode c_B_result 20 = .ok (.new 115, 3) := by decide +kernel
theorem dB_result_23 : decode c_B_result 23 = .ok (.dup, 1) := by decide +kernel
theorem dB_result_24 : decode c_B_result 24 = .ok (.ldc 117, 2) := by decide +kernel
theorem dB_result_26 : decode c_B_result 26 = .ok (.invokespecial 119, 3) := by decide +kernel
theorem dB_result_29 : decode c_B_result 29 = .ok (.athrow, 1) := by decide +kernel
theorem dB_result_30 : decode c_B_result 30 = .ok (.iload_n 1, 1) := by decide +kernel
theorem dB_result_31 : decode c_B_result 31 = .ok (.bipush 31, 2) := by decide +kernel
theorem dB_result_33 : decode c_B_result 33 = .ok (.iand, 1) := by decide +kernel
theorem dB_result_34 : decode c_B_result 34 = .ok (.istore_n 2, 1) := by decide +kernel
theorem dB_result_35 : decode c_B_result 35 = .ok (.aload_n 0, 1) := by decide +kernel
theorem dB_result_36 : decode c_B_result 36 = .ok (.getfield 42, 3) := by decide +kernel
theorem dB_result_39 : decode c_B_result 39 = .ok (.getfield 80, 3) := by decide +kernel
theorem dB_result_42 : decode c_B_result 42 = .ok (.aload_n 0, 1) := by decide +kernel
theorem dB_result_43 : decode c_B_result 43 = .ok (.getfield 59, 3) := by decide +kernel
theorem dB_result_46 : decode c_B_result 46 = .ok (.iload_n 2, 1) := by decide +kernel
theorem dB_result_47 : decode c_B_result 47 = .ok (.iaload, 1) := by decide +kernel
theorem dB_result_48 : decode c_B_result 48 = .ok (.if_icmp .gt 13, 3) := by decide +kernel
theorem dB_result_51 : decode c_B_result 51 = .ok (.new 83, 3) := by decide +kernel
theorem dB_result_54 : decode c_B_result 54 = .ok (.dup, 1) := by decide +kernel
theorem dB_result_55 : decode c_B_result 55 = .ok (.ldc 120, 2) := by decide +kernel
theorem dB_result_57 : decode c_B_result 57 = .ok (.invokespecial 87, 3) := by decide +kernel
theorem dB_result_60 : decode c_B_result 60 = .ok (.athrow, 1) := by decide +kernel
theorem dB_result_61 : decode c_B_result 61 = .ok (.aload_n 0, 1) := by decide +kernel
theorem dB_result_62 : decode c_B_result 62 = .ok (.getfield 56, 3) := by decide +kernel
theorem dB_result_65 : decode c_B_result 65 = .ok (.iload_n 2, 1) := by decide +kernel
theorem dB_result_66 : decode c_B_result 66 = .ok (.iaload, 1) := by decide +kernel
theorem dB_result_67 : decode c_B_result 67 = .ok (.ireturn, 1) := by decide +kernel
theorem dB_word_0 : decode c_B_word 0 = .ok (.aload_n 0, 1) := by decide +kernel
theorem dB_word_1 : decode c_B_word 1 = .ok (.iload_n 1, 1) := by decide +kernel
theorem dB_word_2 : decode c_B_word 2 = .ok (.iload_n 2, 1) := by decide +kernel
theorem dB_word_3 : decode c_B_word 3 = .ok (.iload_n 3, 1) := by decide +kernel
theorem dB_word_4 : decode c_B_word 4 = .ok (.invokevirtual 88, 3) := by decide +kernel
theorem dB_word_7 : decode c_B_word 7 = .ok (.aload_n 0, 1) := by decide +kernel
theorem dB_word_8 : decode c_B_word 8 = .ok (.getfield 34, 3) := by decide +kernel
theorem dB_word_11 : decode c_B_word 11 = .ok (.iload_n 1, 1) := by decide +kernel
theorem dB_word_12 : decode c_B_word 12 = .ok (.iload_n 2, 1) := by decide +kernel
theorem dB_word_13 : decode c_B_word 13 = .ok (.iload_n 3, 1) := by decide +kernel
theorem dB_word_14 : decode c_B_word 14 = .ok (.invokestatic 122, 3) := by decide +kernel
theorem dB_word_17 : decode c_B_word 17 = .ok (.iaload, 1) := by decide +kernel
theorem dB_word_18 : decode c_B_word 18 = .ok (.ireturn, 1) := by decide +kernel
theorem dB_open_0 : decode c_B_open 0 = .ok (.aload_n 0, 1) := by decide +kernel
theorem dB_open_1 : decode c_B_open 1 = .ok (.getfield 42, 3) := by decide +kernel
theorem dB_open_4 : decode c_B_open 4 = .ok (.iload_n 1, 1) := by decide +kernel
theorem dB_open_5 : decode c_B_open 5 = .ok (.invokevirtual 126, 3) := by decide +kernel
theorem dB_open_8 : decode c_B_open 8 = .ok (.ifCond .ne 13, 3) := by decide +kernel
theorem dB_open_11 : decode c_B_open 11 = .ok (.new 62, 3) := by decide +kernel
theorem dB_open_14 : decode c_B_open 14 = .ok (.dup, 1) := by decide +kernel
theorem dB_open_15 : decode c_B_open 15 = .ok (.ldc 129, 2) := by decide +kernel
theorem dB_open_17 : decode c_B_open 17 = .ok (.invokespecial 66, 3) := by decide +kernel
theorem dB_open_20 : decode c_B_open 20 = .ok (.athrow, 1) := by decide +kernel
theorem dB_open_21 : decode c_B_open 21 = .ok (.aload_n 0, 1) := by decide +kernel
theorem dB_open_22 : decode c_B_open 22 = .ok (.getfield 42, 3) := by decide +kernel
theorem dB_open_25 : decode c_B_open 25 = .ok (.getfield 131, 3) := by decide +kernel
theorem dB_open_28 : decode c_B_open 28 = .ok (.iload_n 1, 1) := by decide +kernel
theorem dB_open_29 : decode c_B_open 29 = .ok (.iaload, 1) := by decide +kernel
theorem dB_open_30 : decode c_B_open 30 = .ok (.ireturn, 1) := by decide +kernel
theorem dB_waiting_0 : decode c_B_waiting 0 = .ok (.iload_n 1, 1) := by decide +kernel
theorem dB_waiting_1 : decode c_B_waiting 1 = .ok (.ifCond .lt 11, 3) := by decide +kernel
theorem dB_waiting_4 : decode c_B_waiting 4 = .ok (.iload_n 1, 1) := by decide +kernel
theorem dB_waiting_5 : decode c_B_waiting 5 = .ok (.aload_n 0, 1) := by decide +kernel
theorem dB_waiting_6 : decode c_B_waiting 6 = .ok (.getfield 134, 3) := by decide +kernel
theorem dB_waiting_9 : decode c_B_waiting 9 = .ok (.if_icmp .lt 13, 3) := by decide +kernel
theorem dB_waiting_12 : decode c_B_waiting 12 = .ok (.new 62, 3) := by decide +kernel
theorem dB_waiting_15 : decode c_B_waiting 15 = .ok (.dup, 1) := by decide +kernel
theorem dB_waiting_16 : decode c_B_waiting 16 = .ok (.ldc 137, 2) := by decide +kernel
theorem dB_waiting_18 : decode c_B_waiting 18 = .ok (.invokespecial 66, 3) := by decide +kernel
theorem dB_waiting_21 : decode c_B_waiting 21 = .ok (.athrow, 1) := by decide +kernel
theorem dB_waiting_22 : decode c_B_waiting 22 = .ok (.aload_n 0, 1) := by decide +kernel
theorem dB_waiting_23 : decode c_B_waiting 23 = .ok (.getfield 51, 3) := by decide +kernel
theorem dB_waiting_26 : decode c_B_waiting 26 = .ok (.iload_n 1, 1) := by decide +kernel
theorem dB_waiting_27 : decode c_B_waiting 27 = .ok (.aaload, 1) := by decide +kernel
theorem dB_waiting_28 : decode c_B_waiting 28 = .ok (.getfield 139, 3) := by decide +kernel
theorem dB_waiting_31 : decode c_B_waiting 31 = .ok (.ireturn, 1) := by decide +kernel
theorem dB_figure_0 : decode c_B_figure 0 = .ok (.iload_n 1, 1) := by decide +kernel
theorem dB_figure_1 : decode c_B_figure 1 = .ok (.tableswitch 89 0 8 #[51, 59, 59, 59, 59, 59, 71, 76, 81], 51) := by decide +kernel
theorem dB_figure_52 : decode c_B_figure 52 = .ok (.aload_n 0, 1) := by decide +kernel
theorem dB_figure_53 : decode c_B_figure 53 = .ok (.getfield 42, 3) := by decide +kernel
theorem dB_figure_56 : decode c_B_figure 56 = .ok (.getfield 80, 3) := by decide +kernel
theorem dB_figure_59 : decode c_B_figure 59 = .ok (.ireturn, 1) := by decide +kernel
theorem dB_figure_60 : decode c_B_figure 60 = .ok (.aload_n 0, 1) := by decide +kernel
theorem dB_figure_61 : decode c_B_figure 61 = .ok (.getfield 42, 3) := by decide +kernel
theorem dB_figure_64 : decode c_B_figure 64 = .ok (.getfield 142, 3) := by decide +kernel
theorem dB_figure_67 : decode c_B_figure 67 = .ok (.iload_n 1, 1) := by decide +kernel
theorem dB_figure_68 : decode c_B_figure 68 = .ok (.iconst 1, 1) := by decide +kernel
theorem dB_figure_69 : decode c_B_figure 69 = .ok (.isub, 1) := by decide +kernel
theorem dB_figure_70 : decode c_B_figure 70 = .ok (.iaload, 1) := by decide +kernel
theorem dB_figure_71 : decode c_B_figure 71 = .ok (.ireturn, 1) := by decide +kernel
theorem dB_figure_72 : decode c_B_figure 72 = .ok (.aload_n 0, 1) := by decide +kernel
theorem dB_figure_73 : decode c_B_figure 73 = .ok (.getfield 134, 3) := by decide +kernel
theorem dB_figure_76 : decode c_B_figure 76 = .ok (.ireturn, 1) := by decide +kernel
theorem dB_figure_77 : decode c_B_figure 77 = .ok (.aload_n 0, 1) := by decide +kernel
theorem dB_figure_78 : decode c_B_figure 78 = .ok (.getfield 145, 3) := by decide +kernel
theorem dB_figure_81 : decode c_B_figure 81 = .ok (.ireturn, 1) := by decide +kernel
theorem dB_figure_82 : decode c_B_figure 82 = .ok (.aload_n 0, 1) := by decide +kernel
theorem dB_figure_83 : decode c_B_figure 83 = .ok (.getfield 42, 3) := by decide +kernel
theorem dB_figure_86 : decode c_B_figure 86 = .ok (.getfield 148, 3) := by decide +kernel
theorem dB_figure_89 : decode c_B_figure 89 = .ok (.ireturn, 1) := by decide +kernel
theorem dB_figure_90 : decode c_B_figure 90 = .ok (.new 75, 3) := by decide +kernel
theorem dB_figure_93 : decode c_B_figure 93 = .ok (.dup, 1) := by decide +kernel
theorem dB_figure_94 : decode c_B_figure 94 = .ok (.ldc 151, 2) := by decide +kernel
theorem dB_figure_96 : decode c_B_figure 96 = .ok (.invokespecial 79, 3) := by decide +kernel
theorem dB_figure_99 : decode c_B_figure 99 = .ok (.athrow, 1) := by decide +kernel
theorem dB_check_0 : decode c_B_check 0 = .ok (.iload_n 1, 1) := by decide +kernel
theorem dB_check_1 : decode c_B_check 1 = .ok (.ifCond .lt 8, 3) := by decide +kernel
theorem dB_check_4 : decode c_B_check 4 = .ok (.iload_n 1, 1) := by decide +kernel
theorem dB_check_5 : decode c_B_check 5 = .ok (.iconst 5, 1) := by decide +kernel
theorem dB_check_6 : decode c_B_check 6 = .ok (.if_icmp .lt 13, 3) := by decide +kernel
theorem dB_check_9 : decode c_B_check 9 = .ok (.new 62, 3) := by decide +kernel
theorem dB_check_12 : decode c_B_check 12 = .ok (.dup, 1) := by decide +kernel
theorem dB_check_13 : decode c_B_check 13 = .ok (.ldc 153, 2) := by decide +kernel
theorem dB_check_15 : decode c_B_check 15 = .ok (.invokespecial 66, 3) := by decide +kernel
theorem dB_check_18 : decode c_B_check 18 = .ok (.athrow, 1) := by decide +kernel
theorem dB_check_19 : decode c_B_check 19 = .ok (.iload_n 1, 1) := by decide +kernel
theorem dB_check_20 : decode c_B_check 20 = .ok (.iconst 4, 1) := by decide +kernel
theorem dB_check_21 : decode c_B_check 21 = .ok (.if_icmp .eq 24, 3) := by decide +kernel
theorem dB_check_24 : decode c_B_check 24 = .ok (.aload_n 0, 1) := by decide +kernel
theorem dB_check_25 : decode c_B_check 25 = .ok (.getfield 46, 3) := by decide +kernel
theorem dB_check_28 : decode c_B_check 28 = .ok (.iload_n 2, 1) := by decide +kernel
theorem dB_check_29 : decode c_B_check 29 = .ok (.invokevirtual 126, 3) := by decide +kernel
theorem dB_check_32 : decode c_B_check 32 = .ok (.ifCond .ne 13, 3) := by decide +kernel
theorem dB_check_35 : decode c_B_check 35 = .ok (.new 62, 3) := by decide +kernel
theorem dB_check_38 : decode c_B_check 38 = .ok (.dup, 1) := by decide +kernel
theorem dB_check_39 : decode c_B_check 39 = .ok (.ldc 129, 2) := by decide +kernel
theorem dB_check_41 : decode c_B_check 41 = .ok (.invokespecial 66, 3) := by decide +kernel
theorem dB_check_44 : decode c_B_check 44 = .ok (.athrow, 1) := by decide +kernel
theorem dB_check_45 : decode c_B_check 45 = .ok (.iload_n 1, 1) := by decide +kernel
theorem dB_check_46 : decode c_B_check 46 = .ok (.invokestatic 155, 3) := by decide +kernel
theorem dB_check_49 : decode c_B_check 49 = .ok (.ifCond .eq 20, 3) := by decide +kernel
theorem dB_check_52 : decode c_B_check 52 = .ok (.iload_n 3, 1) := by decide +kernel
theorem dB_check_53 : decode c_B_check 53 = .ok (.invokestatic 158, 3) := by decide +kernel
theorem dB_check_56 : decode c_B_check 56 = .ok (.ifCond .ne 13, 3) := by decide +kernel
theorem dB_check_59 : decode c_B_check 59 = .ok (.new 62, 3) := by decide +kernel
theorem dB_check_62 : decode c_B_check 62 = .ok (.dup, 1) := by decide +kernel
theorem dB_check_63 : decode c_B_check 63 = .ok (.ldc 161, 2) := by decide +kernel
theorem dB_check_65 : decode c_B_check 65 = .ok (.invokespecial 66, 3) := by decide +kernel
theorem dB_check_68 : decode c_B_check 68 = .ok (.athrow, 1) := by decide +kernel
theorem dB_check_69 : decode c_B_check 69 = .ok (.aload_n 0, 1) := by decide +kernel
theorem dB_check_70 : decode c_B_check 70 = .ok (.getfield 46, 3) := by decide +kernel
theorem dB_check_73 : decode c_B_check 73 = .ok (.iload_n 1, 1) := by decide +kernel
theorem dB_check_74 : decode c_B_check 74 = .ok (.iload_n 2, 1) := by decide +kernel
theorem dB_check_75 : decode c_B_check 75 = .ok (.iload_n 3, 1) := by decide +kernel
theorem dB_check_76 : decode c_B_check 76 = .ok (.invokevirtual 163, 3) := by decide +kernel
theorem dB_check_79 : decode c_B_check 79 = .ok (.istore 4, 2) := by decide +kernel
theorem dB_check_81 : decode c_B_check 81 = .ok (.iload 4, 2) := by decide +kernel
theorem dB_check_83 : decode c_B_check 83 = .ok (.ifCond .ne 13, 3) := by decide +kernel
theorem dB_check_86 : decode c_B_check 86 = .ok (.aload_n 0, 1) := by decide +kernel
theorem dB_check_87 : decode c_B_check 87 = .ok (.getfield 46, 3) := by decide +kernel
theorem dB_check_90 : decode c_B_check 90 = .ok (.iload_n 1, 1) := by decide +kernel
theorem dB_check_91 : decode c_B_check 91 = .ok (.iload_n 2, 1) := by decide +kernel
theorem dB_check_92 : decode c_B_check 92 = .ok (.iload_n 3, 1) := by decide +kernel
theorem dB_check_93 : decode c_B_check 93 = .ok (.invokevirtual 166, 3) := by decide +kernel
theorem dB_check_96 : decode c_B_check 96 = .ok (.aload_n 0, 1) := by decide +kernel
theorem dB_check_97 : decode c_B_check 97 = .ok (.getfield 46, 3) := by decide +kernel
theorem dB_check_100 : decode c_B_check 100 = .ok (.dup, 1) := by decide +kernel
theorem dB_check_101 : decode c_B_check 101 = .ok (.getfield 80, 3) := by decide +kernel
theorem dB_check_104 : decode c_B_check 104 = .ok (.iconst 1, 1) := by decide +kernel
theorem dB_check_105 : decode c_B_check 105 = .ok (.iadd, 1) := by decide +kernel
theorem dB_check_106 : decode c_B_check 106 = .ok (.putfield 80, 3) := by decide +kernel
theorem dB_check_109 : decode c_B_check 109 = .ok (.iload 4, 2) := by decide +kernel
theorem dB_check_111 : decode c_B_check 111 = .ok (.ireturn, 1) := by decide +kernel
theorem dB_pause_0 : decode c_B_pause 0 = .ok (.iload_n 1, 1) := by decide +kernel
theorem dB_pause_1 : decode c_B_pause 1 = .ok (.ifCond .lt 10, 3) := by decide +kernel
theorem dB_pause_4 : decode c_B_pause 4 = .ok (.iload_n 1, 1) := by decide +kernel
theorem dB_pause_5 : decode c_B_pause 5 = .ok (.sipush 1000, 3) := by decide +kernel
theorem dB_pause_8 : decode c_B_pause 8 = .ok (.if_icmp .le 13, 3) := by decide +kernel
theorem dB_pause_11 : decode c_B_pause 11 = .ok (.new 75, 3) := by decide +kernel
theorem dB_pause_14 : decode c_B_pause 14 = .ok (.dup, 1) := by decide +kernel
theorem dB_pause_15 : decode c_B_pause 15 = .ok (.ldc 169, 2) := by decide +kernel
theorem dB_pause_17 : decode c_B_pause 17 = .ok (.invokespecial 79, 3) := by decide +kernel
theorem dB_pause_20 : decode c_B_pause 20 = .ok (.athrow, 1) := by decide +kernel
theorem dB_pause_21 : decode c_B_pause 21 = .ok (.aload_n 0, 1) := by decide +kernel
theorem dB_pause_22 : decode c_B_pause 22 = .ok (.getfield 46, 3) := by decide +kernel
theorem dB_pause_25 : decode c_B_pause 25 = .ok (.dup, 1) := by decide +kernel
theorem dB_pause_26 : decode c_B_pause 26 = .ok (.getfield 80, 3) := by decide +kernel
theorem dB_pause_29 : decode c_B_pause 29 = .ok (.iload_n 1, 1) := by decide +kernel
theorem dB_pause_30 : decode c_B_pause 30 = .ok (.iadd, 1) := by decide +kernel
theorem dB_pause_31 : decode c_B_pause 31 = .ok (.putfield 80, 3) := by decide +kernel
theorem dB_pause_34 : decode c_B_pause 34 = .ok (.aload_n 0, 1) := by decide +kernel
theorem dB_pause_35 : decode c_B_pause 35 = .ok (.getfield 46, 3) := by decide +kernel
theorem dB_pause_38 : decode c_B_pause 38 = .ok (.getfield 80, 3) := by decide +kernel
theorem dB_pause_41 : decode c_B_pause 41 = .ok (.ireturn, 1) := by decide +kernel
theorem dB_hasRow_0 : decode c_B_hasRow 0 = .ok (.iload_n 0, 1) := by decide +kernel
theorem dB_hasRow_1 : decode c_B_hasRow 1 = .ok (.ifCond .eq 13, 3) := by decide +kernel
theorem dB_hasRow_4 : decode c_B_hasRow 4 = .ok (.iload_n 0, 1) := by decide +kernel
theorem dB_hasRow_5 : decode c_B_hasRow 5 = .ok (.iconst 2, 1) := by decide +kernel
theorem dB_hasRow_6 : decode c_B_hasRow 6 = .ok (.if_icmp .eq 8, 3) := by decide +kernel
theorem dB_hasRow_9 : decode c_B_hasRow 9 = .ok (.iload_n 0, 1) := by decide +kernel
theorem dB_hasRow_10 : decode c_B_hasRow 10 = .ok (.iconst 3, 1) := by decide +kernel
theorem dB_hasRow_11 : decode c_B_hasRow 11 = .ok (.if_icmp .ne 7, 3) := by decide +kernel
theorem dB_hasRow_14 : decode c_B_hasRow 14 = .ok (.iconst 1, 1) := by decide +kernel
theorem dB_hasRow_15 : decode c_B_hasRow 15 = .ok (.goto 4, 3) := by decide +kernel
theorem dB_hasRow_18 : decode c_B_hasRow 18 = .ok (.iconst 0, 1) := by decide +kernel
theorem dB_hasRow_19 : decode c_B_hasRow 19 = .ok (.ireturn, 1) := by decide +kernel
theorem dB_isRow_0 : decode c_B_isRow 0 = .ok (.iload_n 0, 1) := by decide +kernel
theorem dB_isRow_1 : decode c_B_isRow 1 = .ok (.ifCond .lt 13, 3) := by decide +kernel
theorem dB_isRow_4 : decode c_B_isRow 4 = .ok (.iload_n 0, 1) := by decide +kernel
theorem dB_isRow_5 : decode c_B_isRow 5 = .ok (.bipush 16, 2) := by decide +kernel
theorem dB_isRow_7 : decode c_B_isRow 7 = .ok (.if_icmp .ge 7, 3) := by decide +kernel
theorem dB_isRow_10 : decode c_B_isRow 10 = .ok (.iconst 1, 1) := by decide +kernel
theorem dB_isRow_11 : decode c_B_isRow 11 = .ok (.goto 4, 3) := by decide +kernel
theorem dB_isRow_14 : decode c_B_isRow 14 = .ok (.iconst 0, 1) := by decide +kernel
theorem dB_isRow_15 : decode c_B_isRow 15 = .ok (.ireturn, 1) := by decide +kernel
theorem dB_wordPlace_0 : decode c_B_wordPlace 0 = .ok (.iload_n 0, 1) := by decide +kernel
theorem dB_wordPlace_1 : decode c_B_wordPlace 1 = .ok (.bipush 16, 2) := by decide +kernel
theorem dB_wordPlace_3 : decode c_B_wordPlace 3 = .ok (.imul, 1) := by decide +kernel
theorem dB_wordPlace_4 : decode c_B_wordPlace 4 = .ok (.iload_n 1, 1) := by decide +kernel
theorem dB_wordPlace_5 : decode c_B_wordPlace 5 = .ok (.iadd, 1) := by decide +kernel
theorem dB_wordPlace_6 : decode c_B_wordPlace 6 = .ok (.bipush 8, 2) := by decide +kernel
theorem dB_wordPlace_8 : decode c_B_wordPlace 8 = .ok (.imul, 1) := by decide +kernel
theorem dB_wordPlace_9 : decode c_B_wordPlace 9 = .ok (.iload_n 2, 1) := by decide +kernel
theorem dB_wordPlace_10 : decode c_B_wordPlace 10 = .ok (.iadd, 1) := by decide +kernel
theorem dB_wordPlace_11 : decode c_B_wordPlace 11 = .ok (.ireturn, 1) := by decide +kernel
theorem dB_refuseNoWord_0 : decode c_B_refuseNoWord 0 = .ok (.aload_n 0, 1) := by decide +kernel
theorem dB_refuseNoWord_1 : decode c_B_refuseNoWord 1 = .ok (.getfield 42, 3) := by decide +kernel
theorem dB_refuseNoWord_4 : decode c_B_refuseNoWord 4 = .ok (.iload_n 1, 1) := by decide +kernel
theorem dB_refuseNoWord_5 : decode c_B_refuseNoWord 5 = .ok (.invokevirtual 126, 3) := by decide +kernel
theorem dB_refuseNoWord_8 : decode c_B_refuseNoWord 8 = .ok (.ifCond .eq 20, 3) := by decide +kernel
theorem dB_refuseNoWord_11 : decode c_B_refuseNoWord 11 = .ok (.iload_n 2, 1) := by decide +kernel
theorem dB_refuseNoWord_12 : decode c_B_refuseNoWord 12 = .ok (.invokestatic 158, 3) := by decide +kernel
theorem dB_refuseNoWord_15 : decode c_B_refuseNoWord 15 = .ok (.ifCond .eq 13, 3) := by decide +kernel
theorem dB_refuseNoWord_18 : decode c_B_refuseNoWord 18 = .ok (.iload_n 3, 1) := by decide +kernel
theorem dB_refuseNoWord_19 : decode c_B_refuseNoWord 19 = .ok (.ifCond .lt 9, 3) := by decide +kernel
theorem dB_refuseNoWord_22 : decode c_B_refuseNoWord 22 = .ok (.iload_n 3, 1) := by decide +kernel
theorem dB_refuseNoWord_23 : decode c_B_refuseNoWord 23 = .ok (.bipush 8, 2) := by decide +kernel
theorem dB_refuseNoWord_25 : decode c_B_refuseNoWord 25 = .ok (.if_icmp .lt 13, 3) := by decide +kernel
theorem dB_refuseNoWord_28 : decode c_B_refuseNoWord 28 = .ok (.new 62, 3) := by decide +kernel
theorem dB_refuseNoWord_31 : decode c_B_refuseNoWord 31 = .ok (.dup, 1) := by decide +kernel
theorem dB_refuseNoWord_32 : decode c_B_refuseNoWord 32 = .ok (.ldc 171, 2) := by decide +kernel
theorem dB_refuseNoWord_34 : decode c_B_refuseNoWord 34 = .ok (.invokespecial 66, 3) := by decide +kernel
theorem dB_refuseNoWord_37 : decode c_B_refuseNoWord 37 = .ok (.athrow, 1) := by decide +kernel
theorem dB_refuseNoWord_38 : decode c_B_refuseNoWord 38 = .ok (.return_, 1) := by decide +kernel
theorem dB_refuseFullQueue_0 : decode c_B_refuseFullQueue 0 = .ok (.aload_n 0, 1) := by decide +kernel
theorem dB_refuseFullQueue_1 : decode c_B_refuseFullQueue 1 = .ok (.getfield 134, 3) := by decide +kernel
theorem dB_refuseFullQueue_4 : decode c_B_refuseFullQueue 4 = .ok (.aload_n 0, 1) := by decide +kernel
theorem dB_refuseFullQueue_5 : decode c_B_refuseFullQueue 5 = .ok (.getfield 51, 3) := by decide +kernel
theorem dB_refuseFullQueue_8 : decode c_B_refuseFullQueue 8 = .ok (.arraylength, 1) := by decide +kernel
theorem dB_refuseFullQueue_9 : decode c_B_refuseFullQueue 9 = .ok (.if_icmp .lt 13, 3) := by decide +kernel
theorem dB_refuseFullQueue_12 : decode c_B_refuseFullQueue 12 = .ok (.new 83, 3) := by decide +kernel
theorem dB_refuseFullQueue_15 : decode c_B_refuseFullQueue 15 = .ok (.dup, 1) := by decide +kernel
theorem dB_refuseFullQueue_16 : decode c_B_refuseFullQueue 16 = .ok (.ldc 173, 2) := by decide +kernel
theorem dB_refuseFullQueue_18 : decode c_B_refuseFullQueue 18 = .ok (.invokespecial 87, 3) := by decide +kernel
theorem dB_refuseFullQueue_21 : decode c_B_refuseFullQueue 21 = .ok (.athrow, 1) := by decide +kernel
theorem dB_refuseFullQueue_22 : decode c_B_refuseFullQueue 22 = .ok (.return_, 1) := by decide +kernel
theorem dB_isKept_0 : decode c_B_isKept 0 = .ok (.aload_n 0, 1) := by decide +kernel
theorem dB_isKept_1 : decode c_B_isKept 1 = .ok (.getfield 108, 3) := by decide +kernel
theorem dB_isKept_4 : decode c_B_isKept 4 = .ok (.iload_n 1, 1) := by decide +kernel
theorem dB_isKept_5 : decode c_B_isKept 5 = .ok (.isub, 1) := by decide +kernel
theorem dB_isKept_6 : decode c_B_isKept 6 = .ok (.bipush 32, 2) := by decide +kernel
theorem dB_isKept_8 : decode c_B_isKept 8 = .ok (.if_icmp .gt 7, 3) := by decide +kernel
theorem dB_isKept_11 : decode c_B_isKept 11 = .ok (.iconst 1, 1) := by decide +kernel
theorem dB_isKept_12 : decode c_B_isKept 12 = .ok (.goto 4, 3) := by decide +kernel
theorem dB_isKept_15 : decode c_B_isKept 15 = .ok (.iconst 0, 1) := by decide +kernel
theorem dB_isKept_16 : decode c_B_isKept 16 = .ok (.ireturn, 1) := by decide +kernel
theorem dB_enqueue_0 : decode c_B_enqueue 0 = .ok (.aload_n 0, 1) := by decide +kernel
theorem dB_enqueue_1 : decode c_B_enqueue 1 = .ok (.getfield 51, 3) := by decide +kernel
theorem dB_enqueue_4 : decode c_B_enqueue 4 = .ok (.aload_n 0, 1) := by decide +kernel
theorem dB_enqueue_5 : decode c_B_enqueue 5 = .ok (.getfield 134, 3) := by decide +kernel
theorem dB_enqueue_8 : decode c_B_enqueue 8 = .ok (.aaload, 1) := by decide +kernel
theorem dB_enqueue_9 : decode c_B_enqueue 9 = .ok (.astore 6, 2) := by decide +kernel
theorem dB_enqueue_11 : decode c_B_enqueue 11 = .ok (.aload 6, 2) := by decide +kernel
theorem dB_enqueue_13 : decode c_B_enqueue 13 = .ok (.iload_n 1, 1) := by decide +kernel
theorem dB_enqueue_14 : decode c_B_enqueue 14 = .ok (.putfield 175, 3) := by decide +kernel
theorem dB_enqueue_17 : decode c_B_enqueue 17 = .ok (.aload 6, 2) := by decide +kernel
theorem dB_enqueue_19 : decode c_B_enqueue 19 = .ok (.iload_n 2, 1) := by decide +kernel
theorem dB_enqueue_20 : decode c_B_enqueue 20 = .ok (.putfield 178, 3) := by decide +kernel
theorem dB_enqueue_23 : decode c_B_enqueue 23 = .ok (.aload 6, 2) := by decide +kernel
theorem dB_enqueue_25 : decode c_B_enqueue 25 = .ok (.iload_n 3, 1) := by decide +kernel
theorem dB_enqueue_26 : decode c_B_enqueue 26 = .ok (.putfield 181, 3) := by decide +kernel
theorem dB_enqueue_29 : decode c_B_enqueue 29 = .ok (.aload 6, 2) := by decide +kernel
theorem dB_enqueue_31 : decode c_B_enqueue 31 = .ok (.iload_n 2, 1) := by decide +kernel
theorem dB_enqueue_32 : decode c_B_enqueue 32 = .ok (.iload_n 3, 1) := by decide +kernel
theorem dB_enqueue_33 : decode c_B_enqueue 33 = .ok (.iload 4, 2) := by decide +kernel
theorem dB_enqueue_35 : decode c_B_enqueue 35 = .ok (.invokestatic 122, 3) := by decide +kernel
theorem dB_enqueue_38 : decode c_B_enqueue 38 = .ok (.putfield 184, 3) := by decide +kernel
theorem dB_enqueue_41 : decode c_B_enqueue 41 = .ok (.aload 6, 2) := by decide +kernel
theorem dB_enqueue_43 : decode c_B_enqueue 43 = .ok (.iload 5, 2) := by decide +kernel
theorem dB_enqueue_45 : decode c_B_enqueue 45 = .ok (.putfield 187, 3) := by decide +kernel
theorem dB_enqueue_48 : decode c_B_enqueue 48 = .ok (.aload 6, 2) := by decide +kernel
theorem dB_enqueue_50 : decode c_B_enqueue 50 = .ok (.aload_n 0, 1) := by decide +kernel
theorem dB_enqueue_51 : decode c_B_enqueue 51 = .ok (.getfield 108, 3) := by decide +kernel
theorem dB_enqueue_54 : decode c_B_enqueue 54 = .ok (.putfield 139, 3) := by decide +kernel
theorem dB_enqueue_57 : decode c_B_enqueue 57 = .ok (.aload 6, 2) := by decide +kernel
theorem dB_enqueue_59 : decode c_B_enqueue 59 = .ok (.aload_n 0, 1) := by decide +kernel
theorem dB_enqueue_60 : decode c_B_enqueue 60 = .ok (.getfield 42, 3) := by decide +kernel
theorem dB_enqueue_63 : decode c_B_enqueue 63 = .ok (.getfield 80, 3) := by decide +kernel
theorem dB_enqueue_66 : decode c_B_enqueue 66 = .ok (.putfield 190, 3) := by decide +kernel
theorem dB_enqueue_69 : decode c_B_enqueue 69 = .ok (.aload_n 0, 1) := by decide +kernel
theorem dB_enqueue_70 : decode c_B_enqueue 70 = .ok (.dup, 1) := by decide +kernel
theorem dB_enqueue_71 : decode c_B_enqueue 71 = .ok (.getfield 134, 3) := by decide +kernel
theorem dB_enqueue_74 : decode c_B_enqueue 74 = .ok (.iconst 1, 1) := by decide +kernel
theorem dB_enqueue_75 : decode c_B_enqueue 75 = .ok (.iadd, 1) := by decide +kernel
theorem dB_enqueue_76 : decode c_B_enqueue 76 = .ok (.putfield 134, 3) := by decide +kernel
theorem dB_enqueue_79 : decode c_B_enqueue 79 = .ok (.aload_n 0, 1) := by decide +kernel
theorem dB_enqueue_80 : decode c_B_enqueue 80 = .ok (.dup, 1) := by decide +kernel
theorem dB_enqueue_81 : decode c_B_enqueue 81 = .ok (.getfield 108, 3) := by decide +kernel
theorem dB_enqueue_84 : decode c_B_enqueue 84 = .ok (.iconst 1, 1) := by decide +kernel
theorem dB_enqueue_85 : decode c_B_enqueue 85 = .ok (.iadd, 1) := by decide +kernel
theorem dB_enqueue_86 : decode c_B_enqueue 86 = .ok (.putfield 108, 3) := by decide +kernel
theorem dB_enqueue_89 : decode c_B_enqueue 89 = .ok (.aload_n 0, 1) := by decide +kernel
theorem dB_enqueue_90 : decode c_B_enqueue 90 = .ok (.getfield 59, 3) := by decide +kernel
theorem dB_enqueue_93 : decode c_B_enqueue 93 = .ok (.aload 6, 2) := by decide +kernel
theorem dB_enqueue_95 : decode c_B_enqueue 95 = .ok (.getfield 139, 3) := by decide +kernel
theorem dB_enqueue_98 : decode c_B_enqueue 98 = .ok (.bipush 31, 2) := by decide +kernel
theorem dB_enqueue_100 : decode c_B_enqueue 100 = .ok (.iand, 1) := by decide +kernel
theorem dB_enqueue_101 : decode c_B_enqueue 101 = .ok (.ldc 193, 2) := by decide +kernel
theorem dB_enqueue_103 : decode c_B_enqueue 103 = .ok (.iastore, 1) := by decide +kernel
theorem dB_enqueue_104 : decode c_B_enqueue 104 = .ok (.aload 6, 2) := by decide +kernel
theorem dB_enqueue_106 : decode c_B_enqueue 106 = .ok (.getfield 139, 3) := by decide +kernel
theorem dB_enqueue_109 : decode c_B_enqueue 109 = .ok (.ireturn, 1) := by decide +kernel
theorem dB_giveFirst_0 : decode c_B_giveFirst 0 = .ok (.aload_n 0, 1) := by decide +kernel
theorem dB_giveFirst_1 : decode c_B_giveFirst 1 = .ok (.invokevirtual 194, 3) := by decide +kernel
theorem dB_giveFirst_4 : decode c_B_giveFirst 4 = .ok (.ifCond .eq 8, 3) := by decide +kernel
theorem dB_giveFirst_7 : decode c_B_giveFirst 7 = .ok (.aload_n 0, 1) := by decide +kernel
theorem dB_giveFirst_8 : decode c_B_giveFirst 8 = .ok (.invokevirtual 198, 3) := by decide +kernel
theorem dB_giveFirst_11 : decode c_B_giveFirst 11 = .ok (.ireturn, 1) := by decide +kernel
theorem dB_giveFirst_12 : decode c_B_giveFirst 12 = .ok (.aload_n 0, 1) := by decide +kernel
theorem dB_giveFirst_13 : decode c_B_giveFirst 13 = .ok (.invokevirtual 201, 3) := by decide +kernel
theorem dB_giveFirst_16 : decode c_B_giveFirst 16 = .ok (.istore_n 1, 1) := by decide +kernel
theorem dB_giveFirst_17 : decode c_B_giveFirst 17 = .ok (.aload_n 0, 1) := by decide +kernel
theorem dB_giveFirst_18 : decode c_B_giveFirst 18 = .ok (.iload_n 1, 1) := by decide +kernel
theorem dB_giveFirst_19 : decode c_B_giveFirst 19 = .ok (.invokevirtual 204, 3) := by decide +kernel
theorem dB_giveFirst_22 : decode c_B_giveFirst 22 = .ok (.istore_n 2, 1) := by decide +kernel
theorem dB_giveFirst_23 : decode c_B_giveFirst 23 = .ok (.iload_n 2, 1) := by decide +kernel
theorem dB_giveFirst_24 : decode c_B_giveFirst 24 = .ok (.iconst (-1), 1) := by decide +kernel
theorem dB_giveFirst_25 : decode c_B_giveFirst 25 = .ok (.if_icmp .ne 11, 3) := by decide +kernel
theorem dB_giveFirst_28 : decode c_B_giveFirst 28 = .ok (.aload_n 0, 1) := by decide +kernel
theorem dB_giveFirst_29 : decode c_B_giveFirst 29 = .ok (.iload_n 1, 1) := by decide +kernel
theorem dB_giveFirst_30 : decode c_B_giveFirst 30 = .ok (.invokevirtual 208, 3) := by decide +kernel
theorem dB_giveFirst_33 : decode c_B_giveFirst 33 = .ok (.goto 8, 3) := by decide +kernel
theorem dB_giveFirst_36 : decode c_B_giveFirst 36 = .ok (.aload_n 0, 1) := by decide +kernel
theorem dB_giveFirst_37 : decode c_B_giveFirst 37 = .ok (.iload_n 2, 1) := by decide +kernel
theorem dB_giveFirst_38 : decode c_B_giveFirst 38 = .ok (.invokevirtual 211, 3) := by decide +kernel
theorem dB_giveFirst_41 : decode c_B_giveFirst 41 = .ok (.ireturn, 1) := by decide +kernel
theorem dB_refreshIsDue_0 : decode c_B_refreshIsDue 0 = .ok (.aload_n 0, 1) := by decide +kernel
theorem dB_refreshIsDue_1 : decode c_B_refreshIsDue 1 = .ok (.getfield 42, 3) := by decide +kernel
theorem dB_refreshIsDue_4 : decode c_B_refreshIsDue 4 = .ok (.getfield 148, 3) := by decide +kernel
theorem dB_refreshIsDue_7 : decode c_B_refreshIsDue 7 = .ok (.iconst (-1), 1) := by decide +kernel
theorem dB_refreshIsDue_8 : decode c_B_refreshIsDue 8 = .ok (.if_icmp .ne 7, 3) := by decide +kernel
theorem dB_refreshIsDue_11 : decode c_B_refreshIsDue 11 = .ok (.iconst 0, 1) := by decide +kernel
theorem dB_refreshIsDue_12 : decode c_B_refreshIsDue 12 = .ok (.goto 10, 3) := by decide +kernel
theorem dB_refreshIsDue_15 : decode c_B_refreshIsDue 15 = .ok (.aload_n 0, 1) := by decide +kernel
theorem dB_refreshIsDue_16 : decode c_B_refreshIsDue 16 = .ok (.getfield 42, 3) := by decide +kernel
theorem dB_refreshIsDue_19 : decode c_B_refreshIsDue 19 = .ok (.getfield 148, 3) := by decide +kernel
theorem dB_refreshIsDue_22 : decode c_B_refreshIsDue 22 = .ok (.istore_n 1, 1) := by decide +kernel
theorem dB_refreshIsDue_23 : decode c_B_refreshIsDue 23 = .ok (.aload_n 0, 1) := by decide +kernel
theorem dB_refreshIsDue_24 : decode c_B_refreshIsDue 24 = .ok (.getfield 42, 3) := by decide +kernel
theorem dB_refreshIsDue_27 : decode c_B_refreshIsDue 27 = .ok (.getfield 80, 3) := by decide +kernel
theorem dB_refreshIsDue_30 : decode c_B_refreshIsDue 30 = .ok (.iload_n 1, 1) := by decide +kernel
theorem dB_refreshIsDue_31 : decode c_B_refreshIsDue 31 = .ok (.isub, 1) := by decide +kernel
theorem dB_refreshIsDue_32 : decode c_B_refreshIsDue 32 = .ok (.aload_n 0, 1) := by decide +kernel
theorem dB_refreshIsDue_33 : decode c_B_refreshIsDue 33 = .ok (.getfield 31, 3) := by decide +kernel
theorem dB_refreshIsDue_36 : decode c_B_refreshIsDue 36 = .ok (.bipush 10, 2) := by decide +kernel
theorem dB_refreshIsDue_38 : decode c_B_refreshIsDue 38 = .ok (.iaload, 1) := by decide +kernel
theorem dB_refreshIsDue_39 : decode c_B_refreshIsDue 39 = .ok (.if_icmp .lt 7, 3) := by decide +kernel
theorem dB_refreshIsDue_42 : decode c_B_refreshIsDue 42 = .ok (.iconst 1, 1) := by decide +kernel
theorem dB_refreshIsDue_43 : decode c_B_refreshIsDue 43 = .ok (.goto 4, 3) := by decide +kernel
theorem dB_refreshIsDue_46 : decode c_B_refreshIsDue 46 = .ok (.iconst 0, 1) := by decide +kernel
theorem dB_refreshIsDue_47 : decode c_B_refreshIsDue 47 = .ok (.ireturn, 1) := by decide +kernel
theorem dB_giveRefreshing_0 : decode c_B_giveRefreshing 0 = .ok (.aload_n 0, 1) := by decide +kernel
theorem dB_giveRefreshing_1 : decode c_B_giveRefreshing 1 = .ok (.getfield 42, 3) := by decide +kernel
theorem dB_giveRefreshing_4 : decode c_B_giveRefreshing 4 = .ok (.invokevirtual 214, 3) := by decide +kernel
theorem dB_giveRefreshing_7 : decode c_B_giveRefreshing 7 = .ok (.ifCond .ne 11, 3) := by decide +kernel
theorem dB_giveRefreshing_10 : decode c_B_giveRefreshing 10 = .ok (.aload_n 0, 1) := by decide +kernel
theorem dB_giveRefreshing_11 : decode c_B_giveRefreshing 11 = .ok (.iconst 4, 1) := by decide +kernel
theorem dB_giveRefreshing_12 : decode c_B_giveRefreshing 12 = .ok (.iconst 0, 1) := by decide +kernel
theorem dB_giveRefreshing_13 : decode c_B_giveRefreshing 13 = .ok (.iconst 0, 1) := by decide +kernel
theorem dB_giveRefreshing_14 : decode c_B_giveRefreshing 14 = .ok (.invokevirtual 217, 3) := by decide +kernel
theorem dB_giveRefreshing_17 : decode c_B_giveRefreshing 17 = .ok (.ireturn, 1) := by decide +kernel
theorem dB_giveRefreshing_18 : decode c_B_giveRefreshing 18 = .ok (.iconst 0, 1) := by decide +kernel
theorem dB_giveRefreshing_19 : decode c_B_giveRefreshing 19 = .ok (.istore_n 1, 1) := by decide +kernel
theorem dB_giveRefreshing_20 : decode c_B_giveRefreshing 20 = .ok (.iload_n 1, 1) := by decide +kernel
theorem dB_giveRefreshing_21 : decode c_B_giveRefreshing 21 = .ok (.aload_n 0, 1) := by decide +kernel
theorem dB_giveRefreshing_22 : decode c_B_giveRefreshing 22 = .ok (.getfield 42, 3) := by decide +kernel
theorem dB_giveRefreshing_25 : decode c_B_giveRefreshing 25 = .ok (.getfield 131, 3) := by decide +kernel
theorem dB_giveRefreshing_28 : decode c_B_giveRefreshing 28 = .ok (.arraylength, 1) := by decide +kernel
theorem dB_giveRefreshing_29 : decode c_B_giveRefreshing 29 = .ok (.if_icmp .ge 28, 3) := by decide +kernel
theorem dB_giveRefreshing_32 : decode c_B_giveRefreshing 32 = .ok (.aload_n 0, 1) := by decide +kernel
theorem dB_giveRefreshing_33 : decode c_B_giveRefreshing 33 = .ok (.getfield 42, 3) := by decide +kernel
theorem dB_giveRefreshing_36 : decode c_B_giveRefreshing 36 = .ok (.iload_n 1, 1) := by decide +kernel
theorem dB_giveRefreshing_37 : decode c_B_giveRefreshing 37 = .ok (.invokevirtual 220, 3) := by decide +kernel
theorem dB_giveRefreshing_40 : decode c_B_giveRefreshing 40 = .ok (.ifCond .ne 11, 3) := by decide +kernel
theorem dB_giveRefreshing_43 : decode c_B_giveRefreshing 43 = .ok (.aload_n 0, 1) := by decide +kernel
theorem dB_giveRefreshing_44 : decode c_B_giveRefreshing 44 = .ok (.iconst 1, 1) := by decide +kernel
theorem dB_giveRefreshing_45 : decode c_B_giveRefreshing 45 = .ok (.iload_n 1, 1) := by decide +kernel
theorem dB_giveRefreshing_46 : decode c_B_giveRefreshing 46 = .ok (.iconst 0, 1) := by decide +kernel
theorem dB_giveRefreshing_47 : decode c_B_giveRefreshing 47 = .ok (.invokevirtual 217, 3) := by decide +kernel
theorem dB_giveRefreshing_50 : decode c_B_giveRefreshing 50 = .ok (.ireturn, 1) := by decide +kernel
theorem dB_giveRefreshing_51 : decode c_B_giveRefreshing 51 = .ok (.iinc 1 1, 3) := by decide +kernel
theorem dB_giveRefreshing_54 : decode c_B_giveRefreshing 54 = .ok (.goto (-34), 3) := by decide +kernel
theorem dB_giveRefreshing_57 : decode c_B_giveRefreshing 57 = .ok (.iconst 0, 1) := by decide +kernel
theorem dB_giveRefreshing_58 : decode c_B_giveRefreshing 58 = .ok (.ireturn, 1) := by decide +kernel
theorem dB_countLookedAt_0 : decode c_B_countLookedAt 0 = .ok (.aload_n 0, 1) := by decide +kernel
theorem dB_countLookedAt_1 : decode c_B_countLookedAt 1 = .ok (.getfield 134, 3) := by decide +kernel
theorem dB_countLookedAt_4 : decode c_B_countLookedAt 4 = .ok (.ifCond .le 20, 3) := by decide +kernel
theorem dB_countLookedAt_7 : decode c_B_countLookedAt 7 = .ok (.aload_n 0, 1) := by decide +kernel
theorem dB_countLookedAt_8 : decode c_B_countLookedAt 8 = .ok (.aload_n 0, 1) := by decide +kernel
theorem dB_countLookedAt_9 : decode c_B_countLookedAt 9 = .ok (.getfield 51, 3) := by decide +kernel
theorem dB_countLookedAt_12 : decode c_B_countLookedAt 12 = .ok (.iconst 0, 1) := by decide +kernel
theorem dB_countLookedAt_13 : decode c_B_countLookedAt 13 = .ok (.aaload, 1) := by decide +kernel
theorem dB_countLookedAt_14 : decode c_B_countLookedAt 14 = .ok (.invokevirtual 223, 3) := by decide +kernel
theorem dB_countLookedAt_17 : decode c_B_countLookedAt 17 = .ok (.ifCond .eq 7, 3) := by decide +kernel
theorem dB_countLookedAt_20 : decode c_B_countLookedAt 20 = .ok (.iconst 1, 1) := by decide +kernel
theorem dB_countLookedAt_21 : decode c_B_countLookedAt 21 = .ok (.goto 7, 3) := by decide +kernel
theorem dB_countLookedAt_24 : decode c_B_countLookedAt 24 = .ok (.aload_n 0, 1) := by decide +kernel
theorem dB_countLookedAt_25 : decode c_B_countLookedAt 25 = .ok (.getfield 134, 3) := by decide +kernel
theorem dB_countLookedAt_28 : decode c_B_countLookedAt 28 = .ok (.ireturn, 1) := by decide +kernel
theorem dB_hasWaitedLong_0 : decode c_B_hasWaitedLong 0 = .ok (.aload_n 0, 1) := by decide +kernel
theorem dB_hasWaitedLong_1 : decode c_B_hasWaitedLong 1 = .ok (.getfield 42, 3) := by decide +kernel
theorem dB_hasWaitedLong_4 : decode c_B_hasWaitedLong 4 = .ok (.getfield 80, 3) := by decide +kernel
theorem dB_hasWaitedLong_7 : decode c_B_hasWaitedLong 7 = .ok (.aload_n 1, 1) := by decide +kernel
theorem dB_hasWaitedLong_8 : decode c_B_hasWaitedLong 8 = .ok (.getfield 190, 3) := by decide +kernel
theorem dB_hasWaitedLong_11 : decode c_B_hasWaitedLong 11 = .ok (.isub, 1) := by decide +kernel
theorem dB_hasWaitedLong_12 : decode c_B_hasWaitedLong 12 = .ok (.aload_n 0, 1) := by decide +kernel
theorem dB_hasWaitedLong_13 : decode c_B_hasWaitedLong 13 = .ok (.getfield 18, 3) := by decide +kernel
theorem dB_hasWaitedLong_16 : decode c_B_hasWaitedLong 16 = .ok (.if_icmp .lt 7, 3) := by decide +kernel
theorem dB_hasWaitedLong_19 : decode c_B_hasWaitedLong 19 = .ok (.iconst 1, 1) := by decide +kernel
theorem dB_hasWaitedLong_20 : decode c_B_hasWaitedLong 20 = .ok (.goto 4, 3) := by decide +kernel
theorem dB_hasWaitedLong_23 : decode c_B_hasWaitedLong 23 = .ok (.iconst 0, 1) := by decide +kernel
theorem dB_hasWaitedLong_24 : decode c_B_hasWaitedLong 24 = .ok (.ireturn, 1) := by decide +kernel
theorem dB_findHit_0 : decode c_B_findHit 0 = .ok (.iconst 0, 1) := by decide +kernel
theorem dB_findHit_1 : decode c_B_findHit 1 = .ok (.istore_n 2, 1) := by decide +kernel
theorem dB_findHit_2 : decode c_B_findHit 2 = .ok (.iload_n 2, 1) := by decide +kernel
theorem dB_findHit_3 : decode c_B_findHit 3 = .ok (.iload_n 1, 1) := by decide +kernel
theorem dB_findHit_4 : decode c_B_findHit 4 = .ok (.if_icmp .ge 44, 3) := by decide +kernel
theorem dB_findHit_7 : decode c_B_findHit 7 = .ok (.aload_n 0, 1) := by decide +kernel
theorem dB_findHit_8 : decode c_B_findHit 8 = .ok (.getfield 51, 3) := by decide +kernel
theorem dB_findHit_11 : decode c_B_findHit 11 = .ok (.iload_n 2, 1) := by decide +kernel
theorem dB_findHit_12 : decode c_B_findHit 12 = .ok (.aaload, 1) := by decide +kernel
theorem dB_findHit_13 : decode c_B_findHit 13 = .ok (.astore_n 3, 1) := by decide +kernel
theorem dB_findHit_14 : decode c_B_findHit 14 = .ok (.aload_n 0, 1) := by decide +kernel
theorem dB_findHit_15 : decode c_B_findHit 15 = .ok (.getfield 42, 3) := by decide +kernel
theorem dB_findHit_18 : decode c_B_findHit 18 = .ok (.aload_n 3, 1) := by decide +kernel
theorem dB_findHit_19 : decode c_B_findHit 19 = .ok (.getfield 178, 3) := by decide +kernel
theorem dB_findHit_22 : decode c_B_findHit 22 = .ok (.aload_n 3, 1) := by decide +kernel
theorem dB_findHit_23 : decode c_B_findHit 23 = .ok (.getfield 181, 3) := by decide +kernel
theorem dB_findHit_26 : decode c_B_findHit 26 = .ok (.invokevirtual 227, 3) := by decide +kernel
theorem dB_findHit_29 : decode c_B_findHit 29 = .ok (.ifCond .ne 13, 3) := by decide +kernel
theorem dB_findHit_32 : decode c_B_findHit 32 = .ok (.aload_n 0, 1) := by decide +kernel
theorem dB_findHit_33 : decode c_B_findHit 33 = .ok (.iload_n 2, 1) := by decide +kernel
theorem dB_findHit_34 : decode c_B_findHit 34 = .ok (.invokevirtual 230, 3) := by decide +kernel
theorem dB_findHit_37 : decode c_B_findHit 37 = .ok (.ifCond .ne 5, 3) := by decide +kernel
theorem dB_findHit_40 : decode c_B_findHit 40 = .ok (.iload_n 2, 1) := by decide +kernel
theorem dB_findHit_41 : decode c_B_findHit 41 = .ok (.ireturn, 1) := by decide +kernel
theorem dB_findHit_42 : decode c_B_findHit 42 = .ok (.iinc 2 1, 3) := by decide +kernel
theorem dB_findHit_45 : decode c_B_findHit 45 = .ok (.goto (-43), 3) := by decide +kernel
theorem dB_findHit_48 : decode c_B_findHit 48 = .ok (.iconst (-1), 1) := by decide +kernel
theorem dB_findHit_49 : decode c_B_findHit 49 = .ok (.ireturn, 1) := by decide +kernel
theorem dB_hasOlderForWord_0 : decode c_B_hasOlderForWord 0 = .ok (.iconst 0, 1) := by decide +kernel
theorem dB_hasOlderForWord_1 : decode c_B_hasOlderForWord 1 = .ok (.istore_n 2, 1) := by decide +kernel
theorem dB_hasOlderForWord_2 : decode c_B_hasOlderForWord 2 = .ok (.iload_n 2, 1) := by decide +kernel
theorem dB_hasOlderForWord_3 : decode c_B_hasOlderForWord 3 = .ok (.iload_n 1, 1) := by decide +kernel
theorem dB_hasOlderForWord_4 : decode c_B_hasOlderForWord 4 = .ok (.if_icmp .ge 32, 3) := by decide +kernel
theorem dB_hasOlderForWord_7 : decode c_B_hasOlderForWord 7 = .ok (.aload_n 0, 1) := by decide +kernel
theorem dB_hasOlderForWord_8 : decode c_B_hasOlderForWord 8 = .ok (.getfield 51, 3) := by decide +kernel
theorem dB_hasOlderForWord_11 : decode c_B_hasOlderForWord 11 = .ok (.iload_n 2, 1) := by decide +kernel
theorem dB_hasOlderForWord_12 : decode c_B_hasOlderForWord 12 = .ok (.aaload, 1) := by decide +kernel
theorem dB_hasOlderForWord_13 : decode c_B_hasOlderForWord 13 = .ok (.getfield 184, 3) := by decide +kernel
theorem dB_hasOlderForWord_16 : decode c_B_hasOlderForWord 16 = .ok (.aload_n 0, 1) := by decide +kernel
theorem dB_hasOlderForWord_17 : decode c_B_hasOlderForWord 17 = .ok (.getfield 51, 3) := by decide +kernel
theorem dB_hasOlderForWord_20 : decode c_B_hasOlderForWord 20 = .ok (.iload_n 1, 1) := by decide +kernel
theorem dB_hasOlderForWord_21 : decode c_B_hasOlderForWord 21 = .ok (.aaload, 1) := by decide +kernel
theorem dB_hasOlderForWord_22 : decode c_B_hasOlderForWord 22 = .ok (.getfield 184, 3) := by decide +kernel
theorem dB_hasOlderForWord_25 : decode c_B_hasOlderForWord 25 = .ok (.if_icmp .ne 5, 3) := by decide +kernel
theorem dB_hasOlderForWord_28 : decode c_B_hasOlderForWord 28 = .ok (.iconst 1, 1) := by decide +kernel
theorem dB_hasOlderForWord_29 : decode c_B_hasOlderForWord 29 = .ok (.ireturn, 1) := by decide +kernel
theorem dB_hasOlderForWord_30 : decode c_B_hasOlderForWord 30 = .ok (.iinc 2 1, 3) := by decide +kernel
theorem dB_hasOlderForWord_33 : decode c_B_hasOlderForWord 33 = .ok (.goto (-31), 3) := by decide +kernel
theorem dB_hasOlderForWord_36 : decode c_B_hasOlderForWord 36 = .ok (.iconst 0, 1) := by decide +kernel
theorem dB_hasOlderForWord_37 : decode c_B_hasOlderForWord 37 = .ok (.ireturn, 1) := by decide +kernel
theorem dB_giveHit_0 : decode c_B_giveHit 0 = .ok (.aload_n 0, 1) := by decide +kernel
theorem dB_giveHit_1 : decode c_B_giveHit 1 = .ok (.getfield 51, 3) := by decide +kernel
theorem dB_giveHit_4 : decode c_B_giveHit 4 = .ok (.iload_n 1, 1) := by decide +kernel
theorem dB_giveHit_5 : decode c_B_giveHit 5 = .ok (.aaload, 1) := by decide +kernel
theorem dB_giveHit_6 : decode c_B_giveHit 6 = .ok (.astore_n 2, 1) := by decide +kernel
theorem dB_giveHit_7 : decode c_B_giveHit 7 = .ok (.aload_n 0, 1) := by decide +kernel
theorem dB_giveHit_8 : decode c_B_giveHit 8 = .ok (.iload_n 1, 1) := by decide +kernel
theorem dB_giveHit_9 : decode c_B_giveHit 9 = .ok (.invokevirtual 233, 3) := by decide +kernel
theorem dB_giveHit_12 : decode c_B_giveHit 12 = .ok (.aload_n 0, 1) := by decide +kernel
theorem dB_giveHit_13 : decode c_B_giveHit 13 = .ok (.aload_n 2, 1) := by decide +kernel
theorem dB_giveHit_14 : decode c_B_giveHit 14 = .ok (.invokevirtual 223, 3) := by decide +kernel
theorem dB_giveHit_17 : decode c_B_giveHit 17 = .ok (.ifCond .eq 13, 3) := by decide +kernel
theorem dB_giveHit_20 : decode c_B_giveHit 20 = .ok (.aload_n 0, 1) := by decide +kernel
theorem dB_giveHit_21 : decode c_B_giveHit 21 = .ok (.dup, 1) := by decide +kernel
theorem dB_giveHit_22 : decode c_B_giveHit 22 = .ok (.getfield 145, 3) := by decide +kernel
theorem dB_giveHit_25 : decode c_B_giveHit 25 = .ok (.iconst 1, 1) := by decide +kernel
theorem dB_giveHit_26 : decode c_B_giveHit 26 = .ok (.iadd, 1) := by decide +kernel
theorem dB_giveHit_27 : decode c_B_giveHit 27 = .ok (.putfield 145, 3) := by decide +kernel
theorem dB_giveHit_30 : decode c_B_giveHit 30 = .ok (.aload_n 0, 1) := by decide +kernel
theorem dB_giveHit_31 : decode c_B_giveHit 31 = .ok (.getfield 42, 3) := by decide +kernel
theorem dB_giveHit_34 : decode c_B_giveHit 34 = .ok (.getfield 80, 3) := by decide +kernel
theorem dB_giveHit_37 : decode c_B_giveHit 37 = .ok (.istore_n 3, 1) := by decide +kernel
theorem dB_giveHit_38 : decode c_B_giveHit 38 = .ok (.aload_n 2, 1) := by decide +kernel
theorem dB_giveHit_39 : decode c_B_giveHit 39 = .ok (.getfield 175, 3) := by decide +kernel
theorem dB_giveHit_42 : decode c_B_giveHit 42 = .ok (.iconst 3, 1) := by decide +kernel
theorem dB_giveHit_43 : decode c_B_giveHit 43 = .ok (.if_icmp .ne 19, 3) := by decide +kernel
theorem dB_giveHit_46 : decode c_B_giveHit 46 = .ok (.aload_n 0, 1) := by decide +kernel
theorem dB_giveHit_47 : decode c_B_giveHit 47 = .ok (.getfield 34, 3) := by decide +kernel
theorem dB_giveHit_50 : decode c_B_giveHit 50 = .ok (.aload_n 2, 1) := by decide +kernel
theorem dB_giveHit_51 : decode c_B_giveHit 51 = .ok (.getfield 184, 3) := by decide +kernel
theorem dB_giveHit_54 : decode c_B_giveHit 54 = .ok (.aload_n 2, 1) := by decide +kernel
theorem dB_giveHit_55 : decode c_B_giveHit 55 = .ok (.getfield 187, 3) := by decide +kernel
theorem dB_giveHit_58 : decode c_B_giveHit 58 = .ok (.iastore, 1) := by decide +kernel
theorem dB_giveHit_59 : decode c_B_giveHit 59 = .ok (.goto 13, 3) := by decide +kernel
theorem dB_giveHit_62 : decode c_B_giveHit 62 = .ok (.iload_n 3, 1) := by decide +kernel
theorem dB_giveHit_63 : decode c_B_giveHit 63 = .ok (.aload_n 0, 1) := by decide +kernel
theorem dB_giveHit_64 : decode c_B_giveHit 64 = .ok (.getfield 31, 3) := by decide +kernel
theorem dB_giveHit_67 : decode c_B_giveHit 67 = .ok (.bipush 11, 2) := by decide +kernel
theorem dB_giveHit_69 : decode c_B_giveHit 69 = .ok (.iaload, 1) := by decide +kernel
theorem dB_giveHit_70 : decode c_B_giveHit 70 = .ok (.iadd, 1) := by decide +kernel
theorem dB_giveHit_71 : decode c_B_giveHit 71 = .ok (.istore_n 3, 1) := by decide +kernel
theorem dB_giveHit_72 : decode c_B_giveHit 72 = .ok (.aload_n 0, 1) := by decide +kernel
theorem dB_giveHit_73 : decode c_B_giveHit 73 = .ok (.aload_n 2, 1) := by decide +kernel
theorem dB_giveHit_74 : decode c_B_giveHit 74 = .ok (.getfield 139, 3) := by decide +kernel
theorem dB_giveHit_77 : decode c_B_giveHit 77 = .ok (.invokevirtual 111, 3) := by decide +kernel
theorem dB_giveHit_80 : decode c_B_giveHit 80 = .ok (.ifCond .eq 37, 3) := by decide +kernel
theorem dB_giveHit_83 : decode c_B_giveHit 83 = .ok (.aload_n 0, 1) := by decide +kernel
theorem dB_giveHit_84 : decode c_B_giveHit 84 = .ok (.getfield 56, 3) := by decide +kernel
theorem dB_giveHit_87 : decode c_B_giveHit 87 = .ok (.aload_n 2, 1) := by decide +kernel
theorem dB_giveHit_88 : decode c_B_giveHit 88 = .ok (.getfield 139, 3) := by decide +kernel
theorem dB_giveHit_91 : decode c_B_giveHit 91 = .ok (.bipush 31, 2) := by decide +kernel
theorem dB_giveHit_93 : decode c_B_giveHit 93 = .ok (.iand, 1) := by decide +kernel
theorem dB_giveHit_94 : decode c_B_giveHit 94 = .ok (.aload_n 0, 1) := by decide +kernel
theorem dB_giveHit_95 : decode c_B_giveHit 95 = .ok (.getfield 34, 3) := by decide +kernel
theorem dB_giveHit_98 : decode c_B_giveHit 98 = .ok (.aload_n 2, 1) := by decide +kernel
theorem dB_giveHit_99 : decode c_B_giveHit 99 = .ok (.getfield 184, 3) := by decide +kernel
theorem dB_giveHit_102 : decode c_B_giveHit 102 = .ok (.iaload, 1) := by decide +kernel
theorem dB_giveHit_103 : decode c_B_giveHit 103 = .ok (.iastore, 1) := by decide +kernel
theorem dB_giveHit_104 : decode c_B_giveHit 104 = .ok (.aload_n 0, 1) := by decide +kernel
theorem dB_giveHit_105 : decode c_B_giveHit 105 = .ok (.getfield 59, 3) := by decide +kernel
theorem dB_giveHit_108 : decode c_B_giveHit 108 = .ok (.aload_n 2, 1) := by decide +kernel
theorem dB_giveHit_109 : decode c_B_giveHit 109 = .ok (.getfield 139, 3) := by decide +kernel
theorem dB_giveHit_112 : decode c_B_giveHit 112 = .ok (.bipush 31, 2) := by decide +kernel
theorem dB_giveHit_114 : decode c_B_giveHit 114 = .ok (.iand, 1) := by decide +kernel
theorem dB_giveHit_115 : decode c_B_giveHit 115 = .ok (.iload_n 3, 1) := by decide +kernel
theorem dB_giveHit_116 : decode c_B_giveHit 116 = .ok (.iastore, 1) := by decide +kernel
theorem dB_giveHit_117 : decode c_B_giveHit 117 = .ok (.aload_n 0, 1) := by decide +kernel
theorem dB_giveHit_118 : decode c_B_giveHit 118 = .ok (.aload_n 2, 1) := by decide +kernel
theorem dB_giveHit_119 : decode c_B_giveHit 119 = .ok (.getfield 175, 3) := by decide +kernel
theorem dB_giveHit_122 : decode c_B_giveHit 122 = .ok (.aload_n 2, 1) := by decide +kernel
theorem dB_giveHit_123 : decode c_B_giveHit 123 = .ok (.getfield 178, 3) := by decide +kernel
theorem dB_giveHit_126 : decode c_B_giveHit 126 = .ok (.aload_n 2, 1) := by decide +kernel
theorem dB_giveHit_127 : decode c_B_giveHit 127 = .ok (.getfield 181, 3) := by decide +kernel
theorem dB_giveHit_130 : decode c_B_giveHit 130 = .ok (.invokevirtual 217, 3) := by decide +kernel
theorem dB_giveHit_133 : decode c_B_giveHit 133 = .ok (.ireturn, 1) := by decide +kernel
theorem dB_dequeue_0 : decode c_B_dequeue 0 = .ok (.aload_n 0, 1) := by decide +kernel
theorem dB_dequeue_1 : decode c_B_dequeue 1 = .ok (.getfield 51, 3) := by decide +kernel
theorem dB_dequeue_4 : decode c_B_dequeue 4 = .ok (.iload_n 1, 1) := by decide +kernel
theorem dB_dequeue_5 : decode c_B_dequeue 5 = .ok (.aaload, 1) := by decide +kernel
theorem dB_dequeue_6 : decode c_B_dequeue 6 = .ok (.astore_n 2, 1) := by decide +kernel
theorem dB_dequeue_7 : decode c_B_dequeue 7 = .ok (.iload_n 1, 1) := by decide +kernel
theorem dB_dequeue_8 : decode c_B_dequeue 8 = .ok (.iconst 1, 1) := by decide +kernel
theorem dB_dequeue_9 : decode c_B_dequeue 9 = .ok (.iadd, 1) := by decide +kernel
theorem dB_dequeue_10 : decode c_B_dequeue 10 = .ok (.istore_n 3, 1) := by decide +kernel
theorem dB_dequeue_11 : decode c_B_dequeue 11 = .ok (.iload_n 3, 1) := by decide +kernel
theorem dB_dequeue_12 : decode c_B_dequeue 12 = .ok (.aload_n 0, 1) := by decide +kernel
theorem dB_dequeue_13 : decode c_B_dequeue 13 = .ok (.getfield 134, 3) := by decide +kernel
theorem dB_dequeue_16 : decode c_B_dequeue 16 = .ok (.if_icmp .ge 23, 3) := by decide +kernel
theorem dB_dequeue_19 : decode c_B_dequeue 19 = .ok (.aload_n 0, 1) := by decide +kernel
theorem dB_dequeue_20 : decode c_B_dequeue 20 = .ok (.getfield 51, 3) := by decide +kernel
theorem dB_dequeue_23 : decode c_B_dequeue 23 = .ok (.iload_n 3, 1) := by decide +kernel
theorem dB_dequeue_24 : decode c_B_dequeue 24 = .ok (.iconst 1, 1) := by decide +kernel
theorem dB_dequeue_25 : decode c_B_dequeue 25 = .ok (.isub, 1) := by decide +kernel
theorem dB_dequeue_26 : decode c_B_dequeue 26 = .ok (.aload_n 0, 1) := by decide +kernel
theorem dB_dequeue_27 : decode c_B_dequeue 27 = .ok (.getfield 51, 3) := by decide +kernel
theorem dB_dequeue_30 : decode c_B_dequeue 30 = .ok (.iload_n 3, 1) := by decide +kernel
theorem dB_dequeue_31 : decode c_B_dequeue 31 = .ok (.aaload, 1) := by decide +kernel
theorem dB_dequeue_32 : decode c_B_dequeue 32 = .ok (.aastore, 1) := by decide +kernel
theorem dB_dequeue_33 : decode c_B_dequeue 33 = .ok (.iinc 3 1, 3) := by decide +kernel
theorem dB_dequeue_36 : decode c_B_dequeue 36 = .ok (.goto (-25), 3) := by decide +kernel
theorem dB_dequeue_39 : decode c_B_dequeue 39 = .ok (.aload_n 0, 1) := by decide +kernel
theorem dB_dequeue_40 : decode c_B_dequeue 40 = .ok (.dup, 1) := by decide +kernel
theorem dB_dequeue_41 : decode c_B_dequeue 41 = .ok (.getfield 134, 3) := by decide +kernel
theorem dB_dequeue_44 : decode c_B_dequeue 44 = .ok (.iconst 1, 1) := by decide +kernel
theorem dB_dequeue_45 : decode c_B_dequeue 45 = .ok (.isub, 1) := by decide +kernel
theorem dB_dequeue_46 : decode c_B_dequeue 46 = .ok (.putfield 134, 3) := by decide +kernel
theorem dB_dequeue_49 : decode c_B_dequeue 49 = .ok (.aload_n 0, 1) := by decide +kernel
theorem dB_dequeue_50 : decode c_B_dequeue 50 = .ok (.getfield 51, 3) := by decide +kernel
theorem dB_dequeue_53 : decode c_B_dequeue 53 = .ok (.aload_n 0, 1) := by decide +kernel
theorem dB_dequeue_54 : decode c_B_dequeue 54 = .ok (.getfield 134, 3) := by decide +kernel
theorem dB_dequeue_57 : decode c_B_dequeue 57 = .ok (.aload_n 2, 1) := by decide +kernel
theorem dB_dequeue_58 : decode c_B_dequeue 58 = .ok (.aastore, 1) := by decide +kernel
theorem dB_dequeue_59 : decode c_B_dequeue 59 = .ok (.return_, 1) := by decide +kernel
theorem dB_giveWay_0 : decode c_B_giveWay 0 = .ok (.iconst 0, 1) := by decide +kernel
theorem dB_giveWay_1 : decode c_B_giveWay 1 = .ok (.istore_n 2, 1) := by decide +kernel
theorem dB_giveWay_2 : decode c_B_giveWay 2 = .ok (.iload_n 2, 1) := by decide +kernel
theorem dB_giveWay_3 : decode c_B_giveWay 3 = .ok (.iload_n 1, 1) := by decide +kernel
theorem dB_giveWay_4 : decode c_B_giveWay 4 = .ok (.if_icmp .ge 114, 3) := by decide +kernel
theorem dB_giveWay_7 : decode c_B_giveWay 7 = .ok (.aload_n 0, 1) := by decide +kernel
theorem dB_giveWay_8 : decode c_B_giveWay 8 = .ok (.getfield 51, 3) := by decide +kernel
theorem dB_giveWay_11 : decode c_B_giveWay 11 = .ok (.iload_n 2, 1) := by decide +kernel
theorem dB_giveWay_12 : decode c_B_giveWay 12 = .ok (.aaload, 1) := by decide +kernel
theorem dB_giveWay_13 : decode c_B_giveWay 13 = .ok (.astore_n 3, 1) := by decide +kernel
theorem dB_giveWay_14 : decode c_B_giveWay 14 = .ok (.aload_n 0, 1) := by decide +kernel
theorem dB_giveWay_15 : decode c_B_giveWay 15 = .ok (.iload_n 2, 1) := by decide +kernel
theorem dB_giveWay_16 : decode c_B_giveWay 16 = .ok (.invokevirtual 237, 3) := by decide +kernel
theorem dB_giveWay_19 : decode c_B_giveWay 19 = .ok (.ifCond .eq 6, 3) := by decide +kernel
theorem dB_giveWay_22 : decode c_B_giveWay 22 = .ok (.goto 90, 3) := by decide +kernel
theorem dB_giveWay_25 : decode c_B_giveWay 25 = .ok (.aload_n 0, 1) := by decide +kernel
theorem dB_giveWay_26 : decode c_B_giveWay 26 = .ok (.getfield 42, 3) := by decide +kernel
theorem dB_giveWay_29 : decode c_B_giveWay 29 = .ok (.getfield 131, 3) := by decide +kernel
theorem dB_giveWay_32 : decode c_B_giveWay 32 = .ok (.aload_n 3, 1) := by decide +kernel
theorem dB_giveWay_33 : decode c_B_giveWay 33 = .ok (.getfield 178, 3) := by decide +kernel
theorem dB_giveWay_36 : decode c_B_giveWay 36 = .ok (.iaload, 1) := by decide +kernel
theorem dB_giveWay_37 : decode c_B_giveWay 37 = .ok (.istore 4, 2) := by decide +kernel
theorem dB_giveWay_39 : decode c_B_giveWay 39 = .ok (.iload 4, 2) := by decide +kernel
theorem dB_giveWay_41 : decode c_B_giveWay 41 = .ok (.iconst (-1), 1) := by decide +kernel
theorem dB_giveWay_42 : decode c_B_giveWay 42 = .ok (.if_icmp .ne 31, 3) := by decide +kernel
theorem dB_giveWay_45 : decode c_B_giveWay 45 = .ok (.aload_n 0, 1) := by decide +kernel
theorem dB_giveWay_46 : decode c_B_giveWay 46 = .ok (.getfield 42, 3) := by decide +kernel
theorem dB_giveWay_49 : decode c_B_giveWay 49 = .ok (.aload_n 3, 1) := by decide +kernel
theorem dB_giveWay_50 : decode c_B_giveWay 50 = .ok (.getfield 178, 3) := by decide +kernel
theorem dB_giveWay_53 : decode c_B_giveWay 53 = .ok (.invokevirtual 240, 3) := by decide +kernel
theorem dB_giveWay_56 : decode c_B_giveWay 56 = .ok (.ifCond .ne 56, 3) := by decide +kernel
theorem dB_giveWay_59 : decode c_B_giveWay 59 = .ok (.aload_n 0, 1) := by decide +kernel
theorem dB_giveWay_60 : decode c_B_giveWay 60 = .ok (.iconst 0, 1) := by decide +kernel
theorem dB_giveWay_61 : decode c_B_giveWay 61 = .ok (.aload_n 3, 1) := by decide +kernel
theorem dB_giveWay_62 : decode c_B_giveWay 62 = .ok (.getfield 178, 3) := by decide +kernel
theorem dB_giveWay_65 : decode c_B_giveWay 65 = .ok (.aload_n 3, 1) := by decide +kernel
theorem dB_giveWay_66 : decode c_B_giveWay 66 = .ok (.getfield 181, 3) := by decide +kernel
theorem dB_giveWay_69 : decode c_B_giveWay 69 = .ok (.invokevirtual 217, 3) := by decide +kernel
theorem dB_giveWay_72 : decode c_B_giveWay 72 = .ok (.ireturn, 1) := by decide +kernel
theorem dB_giveWay_73 : decode c_B_giveWay 73 = .ok (.aload_n 0, 1) := by decide +kernel
theorem dB_giveWay_74 : decode c_B_giveWay 74 = .ok (.aload_n 3, 1) := by decide +kernel
theorem dB_giveWay_75 : decode c_B_giveWay 75 = .ok (.getfield 178, 3) := by decide +kernel
theorem dB_giveWay_78 : decode c_B_giveWay 78 = .ok (.iload 4, 2) := by decide +kernel
theorem dB_giveWay_80 : decode c_B_giveWay 80 = .ok (.iload_n 1, 1) := by decide +kernel
theorem dB_giveWay_81 : decode c_B_giveWay 81 = .ok (.invokevirtual 243, 3) := by decide +kernel
theorem dB_giveWay_84 : decode c_B_giveWay 84 = .ok (.ifCond .ne 28, 3) := by decide +kernel
theorem dB_giveWay_87 : decode c_B_giveWay 87 = .ok (.aload_n 0, 1) := by decide +kernel
theorem dB_giveWay_88 : decode c_B_giveWay 88 = .ok (.getfield 42, 3) := by decide +kernel
theorem dB_giveWay_91 : decode c_B_giveWay 91 = .ok (.aload_n 3, 1) := by decide +kernel
theorem dB_giveWay_92 : decode c_B_giveWay 92 = .ok (.getfield 178, 3) := by decide +kernel
theorem dB_giveWay_95 : decode c_B_giveWay 95 = .ok (.invokevirtual 220, 3) := by decide +kernel
theorem dB_giveWay_98 : decode c_B_giveWay 98 = .ok (.ifCond .ne 14, 3) := by decide +kernel
theorem dB_giveWay_101 : decode c_B_giveWay 101 = .ok (.aload_n 0, 1) := by decide +kernel
theorem dB_giveWay_102 : decode c_B_giveWay 102 = .ok (.iconst 1, 1) := by decide +kernel
theorem dB_giveWay_103 : decode c_B_giveWay 103 = .ok (.aload_n 3, 1) := by decide +kernel
theorem dB_giveWay_104 : decode c_B_giveWay 104 = .ok (.getfield 178, 3) := by decide +kernel
theorem dB_giveWay_107 : decode c_B_giveWay 107 = .ok (.iconst 0, 1) := by decide +kernel
theorem dB_giveWay_108 : decode c_B_giveWay 108 = .ok (.invokevirtual 217, 3) := by decide +kernel
theorem dB_giveWay_111 : decode c_B_giveWay 111 = .ok (.ireturn, 1) := by decide +kernel
theorem dB_giveWay_112 : decode c_B_giveWay 112 = .ok (.iinc 2 1, 3) := by decide +kernel
theorem dB_giveWay_115 : decode c_B_giveWay 115 = .ok (.goto (-113), 3) := by decide +kernel
theorem dB_giveWay_118 : decode c_B_giveWay 118 = .ok (.iconst 0, 1) := by decide +kernel
theorem dB_giveWay_119 : decode c_B_giveWay 119 = .ok (.ireturn, 1) := by decide +kernel
theorem dB_hasOlderForBank_0 : decode c_B_hasOlderForBank 0 = .ok (.iconst 0, 1) := by decide +kernel
theorem dB_hasOlderForBank_1 : decode c_B_hasOlderForBank 1 = .ok (.istore_n 2, 1) := by decide +kernel
theorem dB_hasOlderForBank_2 : decode c_B_hasOlderForBank 2 = .ok (.iload_n 2, 1) := by decide +kernel
theorem dB_hasOlderForBank_3 : decode c_B_hasOlderForBank 3 = .ok (.iload_n 1, 1) := by decide +kernel
theorem dB_hasOlderForBank_4 : decode c_B_hasOlderForBank 4 = .ok (.if_icmp .ge 32, 3) := by decide +kernel
theorem dB_hasOlderForBank_7 : decode c_B_hasOlderForBank 7 = .ok (.aload_n 0, 1) := by decide +kernel
theorem dB_hasOlderForBank_8 : decode c_B_hasOlderForBank 8 = .ok (.getfield 51, 3) := by decide +kernel
theorem dB_hasOlderForBank_11 : decode c_B_hasOlderForBank 11 = .ok (.iload_n 2, 1) := by decide +kernel
theorem dB_hasOlderForBank_12 : decode c_B_hasOlderForBank 12 = .ok (.aaload, 1) := by decide +kernel
theorem dB_hasOlderForBank_13 : decode c_B_hasOlderForBank 13 = .ok (.getfield 178, 3) := by decide +kernel
theorem dB_hasOlderForBank_16 : decode c_B_hasOlderForBank 16 = .ok (.aload_n 0, 1) := by decide +kernel
theorem dB_hasOlderForBank_17 : decode c_B_hasOlderForBank 17 = .ok (.getfield 51, 3) := by decide +kernel
theorem dB_hasOlderForBank_20 : decode c_B_hasOlderForBank 20 = .ok (.iload_n 1, 1) := by decide +kernel
theorem dB_hasOlderForBank_21 : decode c_B_hasOlderForBank 21 = .ok (.aaload, 1) := by decide +kernel
theorem dB_hasOlderForBank_22 : decode c_B_hasOlderForBank 22 = .ok (.getfield 178, 3) := by decide +kernel
theorem dB_hasOlderForBank_25 : decode c_B_hasOlderForBank 25 = .ok (.if_icmp .ne 5, 3) := by decide +kernel
theorem dB_hasOlderForBank_28 : decode c_B_hasOlderForBank 28 = .ok (.iconst 1, 1) := by decide +kernel
theorem dB_hasOlderForBank_29 : decode c_B_hasOlderForBank 29 = .ok (.ireturn, 1) := by decide +kernel
theorem dB_hasOlderForBank_30 : decode c_B_hasOlderForBank 30 = .ok (.iinc 2 1, 3) := by decide +kernel
theorem dB_hasOlderForBank_33 : decode c_B_hasOlderForBank 33 = .ok (.goto (-31), 3) := by decide +kernel
theorem dB_hasOlderForBank_36 : decode c_B_hasOlderForBank 36 = .ok (.iconst 0, 1) := by decide +kernel
theorem dB_hasOlderForBank_37 : decode c_B_hasOlderForBank 37 = .ok (.ireturn, 1) := by decide +kernel
theorem dB_isWanted_0 : decode c_B_isWanted 0 = .ok (.iconst 0, 1) := by decide +kernel
theorem dB_isWanted_1 : decode c_B_isWanted 1 = .ok (.istore 4, 2) := by decide +kernel
theorem dB_isWanted_3 : decode c_B_isWanted 3 = .ok (.iload 4, 2) := by decide +kernel
theorem dB_isWanted_5 : decode c_B_isWanted 5 = .ok (.iload_n 3, 1) := by decide +kernel
theorem dB_isWanted_6 : decode c_B_isWanted 6 = .ok (.if_icmp .ge 39, 3) := by decide +kernel
theorem dB_isWanted_9 : decode c_B_isWanted 9 = .ok (.aload_n 0, 1) := by decide +kernel
theorem dB_isWanted_10 : decode c_B_isWanted 10 = .ok (.getfield 51, 3) := by decide +kernel
theorem dB_isWanted_13 : decode c_B_isWanted 13 = .ok (.iload 4, 2) := by decide +kernel
theorem dB_isWanted_15 : decode c_B_isWanted 15 = .ok (.aaload, 1) := by decide +kernel
theorem dB_isWanted_16 : decode c_B_isWanted 16 = .ok (.getfield 178, 3) := by decide +kernel
theorem dB_isWanted_19 : decode c_B_isWanted 19 = .ok (.iload_n 1, 1) := by decide +kernel
theorem dB_isWanted_20 : decode c_B_isWanted 20 = .ok (.if_icmp .ne 19, 3) := by decide +kernel
theorem dB_isWanted_23 : decode c_B_isWanted 23 = .ok (.aload_n 0, 1) := by decide +kernel
theorem dB_isWanted_24 : decode c_B_isWanted 24 = .ok (.getfield 51, 3) := by decide +kernel
theorem dB_isWanted_27 : decode c_B_isWanted 27 = .ok (.iload 4, 2) := by decide +kernel
theorem dB_isWanted_29 : decode c_B_isWanted 29 = .ok (.aaload, 1) := by decide +kernel
theorem dB_isWanted_30 : decode c_B_isWanted 30 = .ok (.getfield 181, 3) := by decide +kernel
theorem dB_isWanted_33 : decode c_B_isWanted 33 = .ok (.iload_n 2, 1) := by decide +kernel
theorem dB_isWanted_34 : decode c_B_isWanted 34 = .ok (.if_icmp .ne 5, 3) := by decide +kernel
theorem dB_isWanted_37 : decode c_B_isWanted 37 = .ok (.iconst 1, 1) := by decide +kernel
theorem dB_isWanted_38 : decode c_B_isWanted 38 = .ok (.ireturn, 1) := by decide +kernel
theorem dB_isWanted_39 : decode c_B_isWanted 39 = .ok (.iinc 4 1, 3) := by decide +kernel
theorem dB_isWanted_42 : decode c_B_isWanted 42 = .ok (.goto (-39), 3) := by decide +kernel
theorem dB_isWanted_45 : decode c_B_isWanted 45 = .ok (.iconst 0, 1) := by decide +kernel
theorem dB_isWanted_46 : decode c_B_isWanted 46 = .ok (.ireturn, 1) := by decide +kernel
theorem dB_giveCommand_0 : decode c_B_giveCommand 0 = .ok (.aload_n 0, 1) := by decide +kernel
theorem dB_giveCommand_1 : decode c_B_giveCommand 1 = .ok (.getfield 42, 3) := by decide +kernel
theorem dB_giveCommand_4 : decode c_B_giveCommand 4 = .ok (.iload_n 1, 1) := by decide +kernel
theorem dB_giveCommand_5 : decode c_B_giveCommand 5 = .ok (.iload_n 2, 1) := by decide +kernel
theorem dB_giveCommand_6 : decode c_B_giveCommand 6 = .ok (.iload_n 3, 1) := by decide +kernel
theorem dB_giveCommand_7 : decode c_B_giveCommand 7 = .ok (.invokevirtual 166, 3) := by decide +kernel
theorem dB_giveCommand_10 : decode c_B_giveCommand 10 = .ok (.sipush 1000, 3) := by decide +kernel
theorem dB_giveCommand_13 : decode c_B_giveCommand 13 = .ok (.iload_n 1, 1) := by decide +kernel
theorem dB_giveCommand_14 : decode c_B_giveCommand 14 = .ok (.iconst 1, 1) := by decide +kernel
theorem dB_giveCommand_15 : decode c_B_giveCommand 15 = .ok (.iadd, 1) := by decide +kernel
theorem dB_giveCommand_16 : decode c_B_giveCommand 16 = .ok (.imul, 1) := by decide +kernel
theorem dB_giveCommand_17 : decode c_B_giveCommand 17 = .ok (.istore 4, 2) := by decide +kernel
theorem dB_giveCommand_19 : decode c_B_giveCommand 19 = .ok (.iload_n 1, 1) := by decide +kernel
theorem dB_giveCommand_20 : decode c_B_giveCommand 20 = .ok (.iconst 4, 1) := by decide +kernel
theorem dB_giveCommand_21 : decode c_B_giveCommand 21 = .ok (.if_icmp .eq 12, 3) := by decide +kernel
theorem dB_giveCommand_24 : decode c_B_giveCommand 24 = .ok (.iload 4, 2) := by decide +kernel
theorem dB_giveCommand_26 : decode c_B_giveCommand 26 = .ok (.bipush 100, 2) := by decide +kernel
theorem dB_giveCommand_28 : decode c_B_giveCommand 28 = .ok (.iload_n 2, 1) := by decide +kernel
theorem dB_giveCommand_29 : decode c_B_giveCommand 29 = .ok (.imul, 1) := by decide +kernel
theorem dB_giveCommand_30 : decode c_B_giveCommand 30 = .ok (.iadd, 1) := by decide +kernel
theorem dB_giveCommand_31 : decode c_B_giveCommand 31 = .ok (.istore 4, 2) := by decide +kernel
theorem dB_giveCommand_33 : decode c_B_giveCommand 33 = .ok (.iload_n 1, 1) := by decide +kernel
theorem dB_giveCommand_34 : decode c_B_giveCommand 34 = .ok (.invokestatic 155, 3) := by decide +kernel
theorem dB_giveCommand_37 : decode c_B_giveCommand 37 = .ok (.ifCond .eq 9, 3) := by decide +kernel
theorem dB_giveCommand_40 : decode c_B_giveCommand 40 = .ok (.iload 4, 2) := by decide +kernel
theorem dB_giveCommand_42 : decode c_B_giveCommand 42 = .ok (.iload_n 3, 1) := by decide +kernel
theorem dB_giveCommand_43 : decode c_B_giveCommand 43 = .ok (.iadd, 1) := by decide +kernel
theorem dB_giveCommand_44 : decode c_B_giveCommand 44 = .ok (.istore 4, 2) := by decide +kernel
theorem dB_giveCommand_46 : decode c_B_giveCommand 46 = .ok (.iload 4, 2) := by decide +kernel
theorem dB_giveCommand_48 : decode c_B_giveCommand 48 = .ok (.ireturn, 1) := by decide +kernel
end
section
/-! the pure functions of the reference, laid by wip/whole/layM.py -/
def mW (cI cZ : ClassId) (a : Nat → Nat) (z : kb_S) : va_W := [(a 0, .inr (3, [.int (z 0 0), .int (z 0 1), .int (z 0 2), .int (z 0 3), .ref (a 1), .ref (a 2), .ref (a 3), .ref (a 4), .ref (a 5), .ref (a 6), .ref (a 7), .ref (a 8), .ref (a 9), .ref (a 10), .int (z 0 4), .ref (a 11), .ref (a 12), .ref (a 13), .ref (a 14), .ref (a 15), .ref (a 16), .ref (a 17), .int (z 0 5), .ref (a 18), .ref (a 19), .ref (a 20), .int (z 0 6)])),
  (a 1, .inl (cI, 12, .inl (z 1))),
  (a 2, .inl (cI, 16, .inl (z 2))),
  (a 3, .inl (cI, 16, .inl (z 3))),
  (a 4, .inl (cI, 16, .inl (z 4))),
  (a 5, .inl (cI, 16, .inl (z 5))),
  (a 6, .inl (cI, 16, .inl (z 6))),
  (a 7, .inl (cI, 8, .inl (z 7))),
  (a 8, .inl (cI, 2, .inl (z 8))),
  (a 9, .inl (cI, 2, .inl (z 9))),
  (a 10, .inl (cI, 1024, .inl (z 10))),
  (a 11, .inl (cI, 12, .inl (z 11))),
  (a 12, .inl (cI, 12, .inl (z 12))),
  (a 13, .inl (cI, 12, .inl (z 13))),
  (a 14, .inl (cI, 12, .inl (z 14))),
  (a 15, .inl (cZ, 12, .inl (z 15))),
  (a 16, .inl (cI, 12, .inl (z 16))),
  (a 17, .inl (cI, 12, .inl (z 17))),
  (a 18, .inl (cI, 32, .inl (z 18))),
  (a 19, .inl (cI, 32, .inl (z 19))),
  (a 20, .inl (cI, 5, .inl (z 20)))]
noncomputable def pM_thrown (z0 : kb_S) : Option (Int32 × kb_S) := some (z0 0 0, z0)
noncomputable def pM_time_J93 (x1 : Int32) (x2 : Int32) (s0 : Int32) (z : kb_S) : Option (Int32 × kb_S) := kb_st (kb_up z 0 0 (s0)) (fun z2 => kb_br ((z2 0 0) = 0) (kb_ck (vp_in (x1) 12) (kb_ck (vp_in (x1) 12) (kb_st (kb_up z2 1 (kb_ix (x1)) (x2)) (fun z6 => some (z2 1 (kb_ix (x1)), z6))))) (some (0, z2)))
noncomputable def pM_time_J59 (x1 : Int32) (x2 : Int32) (x3 : Int32) (s0 : Int32) (z : kb_S) : Option (Int32 × kb_S) := kb_br (x3 = 0) (pM_time_J93 x1 x2 1 z) (kb_br (s0 = 0) (pM_time_J93 x1 x2 2 z) (kb_ck (vp_in (0) 2) (kb_br ((z 9 (kb_ix (0))) ≤ 0) (pM_time_J93 x1 x2 0 z) (pM_time_J93 x1 x2 3 z))))
noncomputable def pM_time_J58 (x1 : Int32) (x2 : Int32) (x3 : Int32) (z : kb_S) : Option (Int32 × kb_S) := pM_time_J59 x1 x2 x3 0 z
noncomputable def pM_time_J39 (x1 : Int32) (x2 : Int32) (x3 : Int32) (z : kb_S) : Option (Int32 × kb_S) := pM_time_J59 x1 x2 x3 0 z
noncomputable def pM_time_J15 (x1 : Int32) (x2 : Int32) (s0 : Int32) (z : kb_S) : Option (Int32 × kb_S) := kb_br (x1 = 10) (kb_br (x2 < 20) (pM_time_J39 x1 x2 s0 z) (kb_br (200 < x2) (pM_time_J39 x1 x2 s0 z) (pM_time_J59 x1 x2 s0 1 z))) (kb_br (x2 < 1) (pM_time_J58 x1 x2 s0 z) (kb_br (20 < x2) (pM_time_J58 x1 x2 s0 z) (pM_time_J59 x1 x2 s0 1 z)))
noncomputable def pM_time_J14 (x1 : Int32) (x2 : Int32) (z : kb_S) : Option (Int32 × kb_S) := pM_time_J15 x1 x2 0 z
noncomputable def pM_time (x1 : Int32) (x2 : Int32) (z0 : kb_S) : Option (Int32 × kb_S) := kb_br (x1 < 0) (pM_time_J14 x1 x2 z0) (kb_br (12 ≤ x1) (pM_time_J14 x1 x2 z0) (pM_time_J15 x1 x2 1 z0))
noncomputable def pM_early (x1 : Int32) (x2 : Int32) (x3 : Int32) (z0 : kb_S) : Option (Int32 × kb_S) := kb_br (x2 < 0) (some (0, z0)) (kb_ck (vp_in (x1) 2) (kb_ck (vp_in (x3) 12) (kb_br ((z0 1 (kb_ix (x3))) ≤ ((z0 9 (kb_ix (x1))) - x2)) (some (0, z0)) (some (1, z0)))))
noncomputable def pM_brokenOpen_L13 : Nat → Int32 → Int32 → Int32 → Int32 → Int32 → kb_S → Option (Int32 × kb_S)
  | 0, _, _, _, _, _, _ => none
  | n + 1, x1, x2, x3, x4, x5, z => kb_br ((z 0 1) ≤ x5) (kb_ck (vp_in (x3) 16) (kb_br ((z 2 (kb_ix (x3))) < 0) (kb_ck (vp_in (x3) 16) (kb_cl (pM_early x1 (z 4 (kb_ix (x3))) 1 z) (fun r4 z3 => kb_br (r4 = 0) (kb_ck (vp_in (x3) 16) (kb_cl (pM_early x1 (z3 3 (kb_ix (x3))) 3 z3) (fun r8 z7 => kb_br (r8 = 0) (kb_cl (pM_early x1 x4 7 z7) (fun r11 z10 => kb_br (r11 = 0) (kb_ck (vp_in ((4 * x1) + 3) 8) (kb_cl (pM_early x1 (z10 7 (kb_ix ((4 * x1) + 3))) 8 z10) (fun r15 z14 => kb_br (r15 = 0) (kb_ck (vp_in (x1) 2) (kb_cl (pM_early x1 (z14 8 (kb_ix (x1))) 9 z14) (fun r19 z18 => kb_br (r19 = 0) (some (0, z18)) (some (6, z18))))) (some (5, z14))))) (some (4, z10)))) (some (3, z7))))) (some (2, z3))))) (some (1, z)))) (kb_ck (vp_in ((8 * x1) + x5) 16) (kb_br (x5 = x2) (pM_brokenOpen_L13 n x1 x2 x3 x4 (x5 + 1) z) (kb_br ((z 3 (kb_ix ((8 * x1) + x5))) ≤ x4) (pM_brokenOpen_L13 n x1 x2 x3 x4 (x5 + 1) z) (pM_brokenOpen_L13 n x1 x2 x3 (z 3 (kb_ix ((8 * x1) + x5))) (x5 + 1) z))))
noncomputable def pM_brokenOpen (x1 : Int32) (x2 : Int32) (z0 : kb_S) : Option (Int32 × kb_S) := pM_brokenOpen_L13 3000 x1 x2 ((8 * x1) + x2) (-1) 0 z0
noncomputable def pM_brokenClose (x1 : Int32) (x2 : Int32) (z0 : kb_S) : Option (Int32 × kb_S) := kb_ck (vp_in ((8 * x1) + x2) 16) (kb_br (0 ≤ (z0 2 (kb_ix ((8 * x1) + x2)))) (kb_ck (vp_in ((8 * x1) + x2) 16) (kb_cl (pM_early x1 (z0 3 (kb_ix ((8 * x1) + x2))) 2 z0) (fun r4 z3 => kb_br (r4 = 0) (kb_ck (vp_in ((8 * x1) + x2) 16) (kb_cl (pM_early x1 (z3 6 (kb_ix ((8 * x1) + x2))) 4 z3) (fun r8 z7 => kb_br (r8 = 0) (kb_ck (vp_in ((8 * x1) + x2) 16) (kb_cl (pM_early x1 (z7 5 (kb_ix ((8 * x1) + x2))) 5 z7) (fun r12 z11 => kb_br (r12 = 0) (some (0, z11)) (some (10, z11))))) (some (9, z7))))) (some (8, z3))))) (some (7, z0)))
noncomputable def pM_brokenUse_L17 : Nat → Int32 → Int32 → Int32 → Int32 → Int32 → kb_S → Option (Int32 × kb_S)
  | 0, _, _, _, _, _, _ => none
  | n + 1, x1, x3, x4, x5, x6, z => kb_br (((8 * x1) + 8) ≤ x6) (kb_ck (vp_in (x4) 16) (kb_br ((z 2 (kb_ix (x4))) = x3) (kb_ck (vp_in (x4) 16) (kb_cl (pM_early x1 (z 3 (kb_ix (x4))) 0 z) (fun r4 z3 => kb_br (r4 = 0) (kb_cl (pM_early x1 x5 6 z3) (fun r7 z6 => kb_br (r7 = 0) (some (0, z6)) (some (13, z6)))) (some (12, z3))))) (some (11, z)))) (kb_ck (vp_in (x6) 16) (kb_br ((z 5 (kb_ix (x6))) ≤ x5) (kb_ck (vp_in (x6) 16) (kb_br ((z 6 (kb_ix (x6))) ≤ x5) (pM_brokenUse_L17 n x1 x3 x4 x5 (x6 + 1) z) (kb_ck (vp_in (x6) 16) (pM_brokenUse_L17 n x1 x3 x4 (z 6 (kb_ix (x6))) (x6 + 1) z)))) (kb_ck (vp_in (x6) 16) (kb_ck (vp_in (x6) 16) (kb_br ((z 6 (kb_ix (x6))) ≤ (z 5 (kb_ix (x6)))) (pM_brokenUse_L17 n x1 x3 x4 (z 5 (kb_ix (x6))) (x6 + 1) z) (kb_ck (vp_in (x6) 16) (pM_brokenUse_L17 n x1 x3 x4 (z 6 (kb_ix (x6))) (x6 + 1) z)))))))
noncomputable def pM_brokenUse (x1 : Int32) (x2 : Int32) (x3 : Int32) (z0 : kb_S) : Option (Int32 × kb_S) := pM_brokenUse_L17 3000 x1 x3 ((8 * x1) + x2) (-1) (8 * x1) z0
noncomputable def pM_brokenRefresh_L10 : Nat → Int32 → Int32 → Int32 → Int32 → kb_S → Option (Int32 × kb_S)
  | 0, _, _, _, _, _ => none
  | n + 1, x1, x2, x3, x4, z => kb_br (((8 * x1) + 8) ≤ x4) (kb_br (x2 = 0) (kb_br (x3 = 0) (kb_ck (vp_in (x1) 2) (kb_cl (pM_early x1 (z 8 (kb_ix (x1))) 9 z) (fun r3 z2 => kb_br (r3 = 0) (some (0, z2)) (some (16, z2))))) (some (15, z))) (some (14, z))) (kb_br (x2 = 0) (kb_ck (vp_in (x4) 16) (kb_br ((z 2 (kb_ix (x4))) < 0) (kb_br (x3 = 0) (kb_ck (vp_in (x4) 16) (kb_cl (pM_early x1 (z 4 (kb_ix (x4))) 1 z) (fun r12 z11 => kb_br (r12 = 0) (pM_brokenRefresh_L10 n x1 0 0 (x4 + 1) z11) (pM_brokenRefresh_L10 n x1 0 1 (x4 + 1) z11)))) (pM_brokenRefresh_L10 n x1 0 1 (x4 + 1) z)) (kb_br (x3 = 0) (kb_ck (vp_in (x4) 16) (kb_cl (pM_early x1 (z 4 (kb_ix (x4))) 1 z) (fun r16 z15 => kb_br (r16 = 0) (pM_brokenRefresh_L10 n x1 1 0 (x4 + 1) z15) (pM_brokenRefresh_L10 n x1 1 1 (x4 + 1) z15)))) (pM_brokenRefresh_L10 n x1 1 1 (x4 + 1) z)))) (kb_br (x3 = 0) (kb_ck (vp_in (x4) 16) (kb_cl (pM_early x1 (z 4 (kb_ix (x4))) 1 z) (fun r7 z6 => kb_br (r7 = 0) (pM_brokenRefresh_L10 n x1 1 0 (x4 + 1) z6) (pM_brokenRefresh_L10 n x1 1 1 (x4 + 1) z6)))) (pM_brokenRefresh_L10 n x1 1 1 (x4 + 1) z)))
noncomputable def pM_brokenRefresh (x1 : Int32) (z0 : kb_S) : Option (Int32 × kb_S) := pM_brokenRefresh_L10 3000 x1 0 0 (8 * x1) z0
noncomputable def pM_broken (x1 : Int32) (x2 : Int32) (x3 : Int32) (x4 : Int32) (z0 : kb_S) : Option (Int32 × kb_S) := kb_br ((x2).toInt = 0) (kb_cl (pM_brokenOpen x1 x3 z0) (fun r2 z1 => some (r2, z1))) (kb_br ((x2).toInt = 1) (kb_cl (pM_brokenClose x1 x3 z0) (fun r5 z4 => some (r5, z4))) (kb_br ((x2).toInt = 2) (kb_cl (pM_brokenUse x1 x3 x4 z0) (fun r8 z7 => some (r8, z7))) (kb_br ((x2).toInt = 3) (kb_cl (pM_brokenUse x1 x3 x4 z0) (fun r11 z10 => some (r11, z10))) (kb_br ((x2).toInt = 4) (kb_cl (pM_brokenRefresh x1 z0) (fun r14 z13 => some (r14, z13))) (kb_cl (pM_brokenUse x1 x3 x4 z0) (fun r17 z16 => some (r17, z16)))))))
noncomputable def pM_give_L69 : Nat → Int32 → Int32 → Int32 → kb_S → Option (Int32 × kb_S)
  | 0, _, _, _, _ => none
  | n + 1, x1, x6, x7, z => kb_br (x7 ≤ 0) (kb_ck (vp_in (4 * x1) 8) (kb_st (kb_up z 7 (kb_ix (4 * x1)) (x6)) (fun z9 => some (0, z9)))) (kb_ck (vp_in (((4 * x1) + x7) - 1) 8) (kb_ck (vp_in ((4 * x1) + x7) 8) (kb_st (kb_up z 7 (kb_ix ((4 * x1) + x7)) (z 7 (kb_ix (((4 * x1) + x7) - 1)))) (fun z13 => pM_give_L69 n x1 x6 (x7 + (-1)) z13))))
noncomputable def pM_give (x1 : Int32) (x2 : Int32) (x3 : Int32) (x4 : Int32) (z0 : kb_S) : Option (Int32 × kb_S) := kb_ck (vp_in (x1) 2) (kb_br ((x2).toInt = 0) (kb_ck (vp_in ((8 * x1) + x3) 16) (kb_st (kb_up z0 2 (kb_ix ((8 * x1) + x3)) (x4)) (fun z3 => kb_ck (vp_in ((8 * x1) + x3) 16) (kb_st (kb_up z3 3 (kb_ix ((8 * x1) + x3)) (z0 9 (kb_ix (x1)))) (fun z6 => pM_give_L69 3000 x1 (z0 9 (kb_ix (x1))) 3 z6))))) (kb_br ((x2).toInt = 1) (kb_ck (vp_in ((8 * x1) + x3) 16) (kb_st (kb_up z0 2 (kb_ix ((8 * x1) + x3)) ((-1))) (fun z16 => kb_ck (vp_in ((8 * x1) + x3) 16) (kb_st (kb_up z16 4 (kb_ix ((8 * x1) + x3)) (z0 9 (kb_ix (x1)))) (fun z19 => some (0, z19)))))) (kb_br ((x2).toInt = 2) (kb_ck (vp_in ((8 * x1) + x3) 16) (kb_st (kb_up z0 5 (kb_ix ((8 * x1) + x3)) (z0 9 (kb_ix (x1)))) (fun z22 => some (0, z22)))) (kb_br ((x2).toInt = 3) (kb_ck (vp_in ((8 * x1) + x3) 16) (kb_st (kb_up z0 6 (kb_ix ((8 * x1) + x3)) (z0 9 (kb_ix (x1)))) (fun z25 => some (0, z25)))) (kb_ck (vp_in (x1) 2) (kb_st (kb_up z0 8 (kb_ix (x1)) (z0 9 (kb_ix (x1)))) (fun z28 => some (0, z28))))))))
noncomputable def pM_isBank (x1 : Int32) (z0 : kb_S) : Option (Int32 × kb_S) := kb_br (x1 < 0) (some (0, z0)) (kb_br ((z0 0 1) ≤ x1) (some (0, z0)) (some (1, z0)))
noncomputable def pM_isRow (x0 : Int32) (z0 : kb_S) : Option (Int32 × kb_S) := kb_br (x0 < 0) (some (0, z0)) (kb_br (16 ≤ x0) (some (0, z0)) (some (1, z0)))
noncomputable def pM_isWord (x1 : Int32) (x2 : Int32) (x3 : Int32) (z0 : kb_S) : Option (Int32 × kb_S) := kb_cl (pM_isBank x1 z0) (fun r2 z1 => kb_br (r2 = 0) (some (0, z1)) (kb_cl (pM_isRow x2 z1) (fun r5 z4 => kb_br (r5 = 0) (some (0, z4)) (kb_br (x3 < 0) (some (0, z4)) (kb_br (8 ≤ x3) (some (0, z4)) (some (1, z4)))))))
noncomputable def pM_request_J31 (x1 : Int32) (x2 : Int32) (x3 : Int32) (x4 : Int32) (x5 : Int32) (s0 : Int32) (z : kb_S) : Option (Int32 × kb_S) := kb_st (kb_up z 0 0 (s0)) (fun z4 => kb_br ((z4 0 0) = 0) (kb_ck (vp_in (z4 0 4) 12) (kb_st (kb_up z4 11 (kb_ix (z4 0 4)) (z4 0 5)) (fun z7 => kb_ck (vp_in (z7 0 4) 12) (kb_st (kb_up z7 12 (kb_ix (z7 0 4)) (x1)) (fun z10 => kb_ck (vp_in (z10 0 4) 12) (kb_st (kb_up z10 13 (kb_ix (z10 0 4)) (x2)) (fun z13 => kb_ck (vp_in (z13 0 4) 12) (kb_st (kb_up z13 14 (kb_ix (z13 0 4)) (x3)) (fun z16 => kb_ck (vp_in (z16 0 4) 12) (kb_st (kb_up z16 15 (kb_ix (z16 0 4)) (vp_nar .boolean (x4))) (fun z19 => kb_ck (vp_in (z19 0 4) 12) (kb_st (kb_up z19 16 (kb_ix (z19 0 4)) (x5)) (fun z22 => kb_ck (vp_in (0) 2) (kb_ck (vp_in (z22 0 4) 12) (kb_st (kb_up z22 17 (kb_ix (z22 0 4)) (z22 9 (kb_ix (0)))) (fun z26 => kb_st (kb_up z26 0 4 ((z26 0 4) + 1)) (fun z28 => kb_ck (vp_in ((z28 0 5) - (z28 0 5) / 32 * 32) 32) (kb_st (kb_up z28 18 (kb_ix ((z28 0 5) - (z28 0 5) / 32 * 32)) ((-1))) (fun z31 => kb_st (kb_up z31 0 5 ((z31 0 5) + 1)) (fun z33 => some ((z33 0 5) - 1, z33))))))))))))))))))))) (some (0, z4)))
noncomputable def pM_request (x1 : Int32) (x2 : Int32) (x3 : Int32) (x4 : Int32) (x5 : Int32) (z0 : kb_S) : Option (Int32 × kb_S) := kb_cl (pM_isWord x1 x2 x3 z0) (fun r2 z1 => kb_br (r2 = 0) (pM_request_J31 x1 x2 x3 x4 x5 1 z1) (kb_br ((z1 0 4) = (z1 0 2)) (pM_request_J31 x1 x2 x3 x4 x5 2 z1) (pM_request_J31 x1 x2 x3 x4 x5 0 z1)))
noncomputable def pM_read (x1 : Int32) (x2 : Int32) (x3 : Int32) (z0 : kb_S) : Option (Int32 × kb_S) := kb_cl (pM_request x1 x2 x3 0 0 z0) (fun r2 z1 => some (r2, z1))
noncomputable def pM_write (x1 : Int32) (x2 : Int32) (x3 : Int32) (x4 : Int32) (z0 : kb_S) : Option (Int32 × kb_S) := kb_cl (pM_request x1 x2 x3 1 x4 z0) (fun r2 z1 => some (r2, z1))
noncomputable def pM_serve_L182 : Nat → Int32 → kb_S → Option (Int32 × kb_S)
  | 0, _, _ => none
  | n + 1, x4, z => kb_br ((z 0 4) ≤ x4) (some (0, z)) (kb_ck (vp_in (x4 + 1) 12) (kb_ck (vp_in (x4) 12) (kb_st (kb_up z 11 (kb_ix (x4)) (z 11 (kb_ix (x4 + 1)))) (fun z18 => kb_ck (vp_in (x4 + 1) 12) (kb_ck (vp_in (x4) 12) (kb_st (kb_up z18 12 (kb_ix (x4)) (z18 12 (kb_ix (x4 + 1)))) (fun z22 => kb_ck (vp_in (x4 + 1) 12) (kb_ck (vp_in (x4) 12) (kb_st (kb_up z22 13 (kb_ix (x4)) (z22 13 (kb_ix (x4 + 1)))) (fun z26 => kb_ck (vp_in (x4 + 1) 12) (kb_ck (vp_in (x4) 12) (kb_st (kb_up z26 14 (kb_ix (x4)) (z26 14 (kb_ix (x4 + 1)))) (fun z30 => kb_ck (vp_in (x4 + 1) 12) (kb_ck (vp_in (x4) 12) (kb_st (kb_up z30 15 (kb_ix (x4)) (vp_nar .boolean (z30 15 (kb_ix (x4 + 1))))) (fun z34 => kb_ck (vp_in (x4 + 1) 12) (kb_ck (vp_in (x4) 12) (kb_st (kb_up z34 16 (kb_ix (x4)) (z34 16 (kb_ix (x4 + 1)))) (fun z38 => kb_ck (vp_in (x4 + 1) 12) (kb_ck (vp_in (x4) 12) (kb_st (kb_up z38 17 (kb_ix (x4)) (z38 17 (kb_ix (x4 + 1)))) (fun z42 => pM_serve_L182 n (x4 + 1) z42))))))))))))))))))))))
noncomputable def pM_serve_J169 (x1 : Int32) (z : kb_S) : Option (Int32 × kb_S) := kb_st (kb_up z 0 4 ((z 0 4) - 1)) (fun z14 => pM_serve_L182 3000 x1 z14)
noncomputable def pM_serve_J148 (x1 : Int32) (x2 : Int32) (s0 : Int32) (s1 : Int32) (z : kb_S) : Option (Int32 × kb_S) := kb_ck (vp_in (s1) 32) (kb_st (kb_up z 18 (kb_ix (s1)) (s0)) (fun z48 => kb_ck (vp_in (x1) 12) (kb_ck (vp_in (x2) 1024) (kb_ck (vp_in ((z48 11 (kb_ix (x1))) - (z48 11 (kb_ix (x1))) / 32 * 32) 32) (kb_st (kb_up z48 19 (kb_ix ((z48 11 (kb_ix (x1))) - (z48 11 (kb_ix (x1))) / 32 * 32)) (z48 10 (kb_ix (x2)))) (fun z53 => pM_serve_J169 x1 z53))))))
noncomputable def pM_serve_J94 (x1 : Int32) (x2 : Int32) (x3 : Int32) (s0 : Int32) (z : kb_S) : Option (Int32 × kb_S) := kb_st (kb_up z 0 6 (s0)) (fun z11 => kb_ck (vp_in (x1) 12) (kb_br (32 < ((z11 0 5) - (z11 11 (kb_ix (x1))))) (pM_serve_J169 x1 z11) (kb_ck (vp_in (x1) 12) (kb_ck (vp_in (x1) 12) (kb_br ((z11 15 (kb_ix (x1))) = 0) (kb_ck (vp_in (11) 12) (pM_serve_J148 x1 x2 (x3 + (z11 1 (kb_ix (11)))) ((z11 11 (kb_ix (x1))) - (z11 11 (kb_ix (x1))) / 32 * 32) z11)) (pM_serve_J148 x1 x2 x3 ((z11 11 (kb_ix (x1))) - (z11 11 (kb_ix (x1))) / 32 * 32) z11))))))
noncomputable def pM_serve_J64 (x1 : Int32) (x2 : Int32) (x3 : Int32) (s0 : Int32) (s1 : Int32) (z : kb_S) : Option (Int32 × kb_S) := kb_ck (vp_in (s1) 1024) (kb_st (kb_up z 10 (kb_ix (s1)) (s0)) (fun z8 => kb_ck (vp_in (x1) 12) (kb_br ((x3 - (z8 17 (kb_ix (x1)))) < (z8 0 3)) (pM_serve_J94 x1 x2 x3 (z8 0 6) z8) (pM_serve_J94 x1 x2 x3 ((z8 0 6) + 1) z8))))
noncomputable def pM_serve (x1 : Int32) (z0 : kb_S) : Option (Int32 × kb_S) := kb_ck (vp_in (x1) 12) (kb_ck (vp_in (x1) 12) (kb_ck (vp_in (x1) 12) (kb_ck (vp_in (0) 2) (kb_ck (vp_in (x1) 12) (kb_br ((z0 15 (kb_ix (x1))) = 0) (kb_ck (vp_in (((128 * (z0 12 (kb_ix (x1)))) + (8 * (z0 13 (kb_ix (x1))))) + (z0 14 (kb_ix (x1)))) 1024) (pM_serve_J64 x1 (((128 * (z0 12 (kb_ix (x1)))) + (8 * (z0 13 (kb_ix (x1))))) + (z0 14 (kb_ix (x1)))) (z0 9 (kb_ix (0))) (z0 10 (kb_ix (((128 * (z0 12 (kb_ix (x1)))) + (8 * (z0 13 (kb_ix (x1))))) + (z0 14 (kb_ix (x1)))))) (((128 * (z0 12 (kb_ix (x1)))) + (8 * (z0 13 (kb_ix (x1))))) + (z0 14 (kb_ix (x1)))) z0)) (kb_ck (vp_in (x1) 12) (pM_serve_J64 x1 (((128 * (z0 12 (kb_ix (x1)))) + (8 * (z0 13 (kb_ix (x1))))) + (z0 14 (kb_ix (x1)))) (z0 9 (kb_ix (0))) (z0 16 (kb_ix (x1))) (((128 * (z0 12 (kb_ix (x1)))) + (8 * (z0 13 (kb_ix (x1))))) + (z0 14 (kb_ix (x1)))) z0)))))))
noncomputable def pM_told_J38 (x1 : Int32) (x3 : Int32) (s0 : Int32) (s1 : Int32) (z : kb_S) : Option (Int32 × kb_S) := kb_br (x1 = 4) (some ((s1 + s0) + 0, z)) (kb_br (x1 = 1) (some ((s1 + s0) + 0, z)) (some ((s1 + s0) + x3, z)))
noncomputable def pM_told (x1 : Int32) (x2 : Int32) (x3 : Int32) (z0 : kb_S) : Option (Int32 × kb_S) := kb_cl (pM_give 0 x1 x2 x3 z0) (fun r2 z1 => kb_ck (vp_in (x1) 5) (kb_ck (vp_in (x1) 5) (kb_st (kb_up z1 20 (kb_ix (x1)) ((z1 20 (kb_ix (x1))) + 1)) (fun z6 => kb_br (x1 = 4) (pM_told_J38 x1 x3 0 (1000 * (x1 + 1)) z6) (pM_told_J38 x1 x3 (100 * x2) (1000 * (x1 + 1)) z6)))))
noncomputable def pM_refreshing_L18 : Nat → Int32 → kb_S → Option (Int32 × kb_S)
  | 0, _, _ => none
  | n + 1, x1, z => kb_br ((z 0 1) ≤ x1) (some (0, z)) (kb_cl (pM_brokenClose 0 x1 z) (fun r5 z4 => kb_br (r5 = 0) (kb_cl (pM_told 1 x1 0 z4) (fun r8 z7 => some (r8, z7))) (pM_refreshing_L18 n (x1 + 1) z4)))
noncomputable def pM_refreshing (z0 : kb_S) : Option (Int32 × kb_S) := kb_cl (pM_brokenRefresh 0 z0) (fun r2 z1 => kb_br (r2 = 0) (kb_cl (pM_told 4 0 0 z1) (fun r11 z10 => some (r11, z10))) (pM_refreshing_L18 3000 0 z1))
noncomputable def pM_hasElder_L4 : Nat → Int32 → Int32 → Int32 → kb_S → Option (Int32 × kb_S)
  | 0, _, _, _, _ => none
  | n + 1, x1, x2, x3, z => kb_br (x1 ≤ x3) (kb_ck (x2 = 0 ∨ x2 = 1) (some (x2, z))) (kb_br (x2 = 0) (kb_ck (vp_in (x3) 12) (kb_ck (vp_in (x1) 12) (kb_br ((z 12 (kb_ix (x3))) = (z 12 (kb_ix (x1)))) (kb_ck (vp_in (x3) 12) (kb_ck (vp_in (x1) 12) (kb_br ((z 13 (kb_ix (x3))) = (z 13 (kb_ix (x1)))) (kb_ck (vp_in (x3) 12) (kb_ck (vp_in (x1) 12) (kb_br ((z 14 (kb_ix (x3))) = (z 14 (kb_ix (x1)))) (pM_hasElder_L4 n x1 1 (x3 + 1) z) (pM_hasElder_L4 n x1 0 (x3 + 1) z)))) (pM_hasElder_L4 n x1 0 (x3 + 1) z)))) (pM_hasElder_L4 n x1 0 (x3 + 1) z)))) (pM_hasElder_L4 n x1 1 (x3 + 1) z))
noncomputable def pM_hasElder (x1 : Int32) (z0 : kb_S) : Option (Int32 × kb_S) := pM_hasElder_L4 3000 x1 0 0 z0
noncomputable def pM_hit_L2 : Nat → Int32 → Int32 → kb_S → Option (Int32 × kb_S)
  | 0, _, _, _ => none
  | n + 1, x1, x2, z => kb_br (x1 ≤ x2) (some (0, z)) (kb_cl (pM_hasElder x2 z) (fun r2 z1 => kb_br (r2 = 0) (kb_ck (vp_in (x2) 12) (kb_ck (vp_in (x2) 12) (kb_cl (pM_brokenUse 0 (z1 12 (kb_ix (x2))) (z1 13 (kb_ix (x2))) z1) (fun r7 z6 => kb_br (r7 = 0) (kb_ck (vp_in (x2) 12) (kb_ck (vp_in (x2) 12) (kb_ck (vp_in (x2) 12) (kb_cl (pM_serve x2 z6) (fun r13 z12 => kb_br ((z6 15 (kb_ix (x2))) = 0) (kb_cl (pM_told 2 (z6 12 (kb_ix (x2))) (z6 13 (kb_ix (x2))) z12) (fun r16 z15 => some (r16, z15))) (kb_cl (pM_told 3 (z6 12 (kb_ix (x2))) (z6 13 (kb_ix (x2))) z12) (fun r19 z18 => some (r19, z18)))))))) (pM_hit_L2 n x1 (x2 + 1) z6))))) (pM_hit_L2 n x1 (x2 + 1) z1)))
noncomputable def pM_hit (x1 : Int32) (z0 : kb_S) : Option (Int32 × kb_S) := pM_hit_L2 3000 x1 0 z0
noncomputable def pM_asks_L6 : Nat → Int32 → Int32 → Int32 → Int32 → Int32 → kb_S → Option (Int32 × kb_S)
  | 0, _, _, _, _, _, _ => none
  | n + 1, x1, x2, x3, x4, x5, z => kb_br (x1 ≤ x5) (kb_ck (x4 = 0 ∨ x4 = 1) (some (x4, z))) (kb_br (x4 = 0) (kb_ck (vp_in (x5) 12) (kb_br ((z 12 (kb_ix (x5))) = x2) (kb_br (x3 < 0) (pM_asks_L6 n x1 x2 x3 1 (x5 + 1) z) (kb_ck (vp_in (x5) 12) (kb_br ((z 13 (kb_ix (x5))) = x3) (pM_asks_L6 n x1 x2 x3 1 (x5 + 1) z) (pM_asks_L6 n x1 x2 x3 0 (x5 + 1) z)))) (pM_asks_L6 n x1 x2 x3 0 (x5 + 1) z))) (pM_asks_L6 n x1 x2 x3 1 (x5 + 1) z))
noncomputable def pM_asks (x1 : Int32) (x2 : Int32) (x3 : Int32) (z0 : kb_S) : Option (Int32 × kb_S) := pM_asks_L6 3000 x1 x2 x3 0 0 z0
noncomputable def pM_way_L2 : Nat → Int32 → Int32 → kb_S → Option (Int32 × kb_S)
  | 0, _, _, _ => none
  | n + 1, x1, x2, z => kb_br (x1 ≤ x2) (some (0, z)) (kb_ck (vp_in (x2) 12) (kb_ck (vp_in (x2) 12) (kb_cl (pM_asks x2 (z 12 (kb_ix (x2))) (-1) z) (fun r4 z3 => kb_br (r4 = 0) (kb_ck (vp_in (z 12 (kb_ix (x2))) 16) (kb_br (0 ≤ (z3 2 (kb_ix (z 12 (kb_ix (x2)))))) (kb_ck (vp_in (z 12 (kb_ix (x2))) 16) (kb_br ((z3 2 (kb_ix (z 12 (kb_ix (x2))))) < 0) (pM_way_L2 n x1 (x2 + 1) z3) (kb_ck (vp_in (z 12 (kb_ix (x2))) 16) (kb_br ((z3 2 (kb_ix (z 12 (kb_ix (x2))))) = (z 13 (kb_ix (x2)))) (pM_way_L2 n x1 (x2 + 1) z3) (kb_cl (pM_brokenClose 0 (z 12 (kb_ix (x2))) z3) (fun r10 z9 => kb_br (r10 = 0) (kb_ck (vp_in (z 12 (kb_ix (x2))) 16) (kb_cl (pM_asks x1 (z 12 (kb_ix (x2))) (z9 2 (kb_ix (z 12 (kb_ix (x2))))) z9) (fun r14 z13 => kb_br (r14 = 0) (kb_cl (pM_told 1 (z 12 (kb_ix (x2))) 0 z13) (fun r17 z16 => some (r17, z16))) (pM_way_L2 n x1 (x2 + 1) z13)))) (pM_way_L2 n x1 (x2 + 1) z9))))))) (kb_cl (pM_brokenOpen 0 (z 12 (kb_ix (x2))) z3) (fun r20 z19 => kb_br (r20 = 0) (kb_cl (pM_told 0 (z 12 (kb_ix (x2))) (z 13 (kb_ix (x2))) z19) (fun r35 z34 => some (r35, z34))) (kb_ck (vp_in (z 12 (kb_ix (x2))) 16) (kb_br ((z19 2 (kb_ix (z 12 (kb_ix (x2))))) < 0) (pM_way_L2 n x1 (x2 + 1) z19) (kb_ck (vp_in (z 12 (kb_ix (x2))) 16) (kb_br ((z19 2 (kb_ix (z 12 (kb_ix (x2))))) = (z 13 (kb_ix (x2)))) (pM_way_L2 n x1 (x2 + 1) z19) (kb_cl (pM_brokenClose 0 (z 12 (kb_ix (x2))) z19) (fun r25 z24 => kb_br (r25 = 0) (kb_ck (vp_in (z 12 (kb_ix (x2))) 16) (kb_cl (pM_asks x1 (z 12 (kb_ix (x2))) (z24 2 (kb_ix (z 12 (kb_ix (x2))))) z24) (fun r29 z28 => kb_br (r29 = 0) (kb_cl (pM_told 1 (z 12 (kb_ix (x2))) 0 z28) (fun r32 z31 => some (r32, z31))) (pM_way_L2 n x1 (x2 + 1) z28)))) (pM_way_L2 n x1 (x2 + 1) z24))))))))))) (pM_way_L2 n x1 (x2 + 1) z3)))))
noncomputable def pM_way (x1 : Int32) (z0 : kb_S) : Option (Int32 × kb_S) := pM_way_L2 3000 x1 0 z0
noncomputable def pM_cycle_J104 (x2 : Int32) (z : kb_S) : Option (Int32 × kb_S) := kb_ck (vp_in (0) 2) (kb_ck (vp_in (0) 2) (kb_st (kb_up z 9 (kb_ix (0)) ((z 9 (kb_ix (0))) + 1)) (fun z10 => some (x2, z10))))
noncomputable def pM_cycle_J103 (s0 : Int32) (z : kb_S) : Option (Int32 × kb_S) := pM_cycle_J104 s0 z
noncomputable def pM_cycle_J83 (s0 : Int32) (z : kb_S) : Option (Int32 × kb_S) := kb_cl (pM_hit s0 z) (fun r6 z5 => kb_br (r6 = 0) (kb_cl (pM_way s0 z5) (fun r13 z12 => pM_cycle_J103 r13 z12)) (pM_cycle_J103 r6 z5))
noncomputable def pM_cycle_J79 (z : kb_S) : Option (Int32 × kb_S) := pM_cycle_J83 (z 0 4) z
noncomputable def pM_cycle_J19 (s0 : Int32) (z : kb_S) : Option (Int32 × kb_S) := kb_ck (vp_in (0) 2) (kb_ck (vp_in (10) 12) (kb_br (((z 9 (kb_ix (0))) - s0) < (z 1 (kb_ix (10)))) (kb_br ((z 0 4) ≤ 0) (pM_cycle_J79  z) (kb_ck (vp_in (0) 2) (kb_ck (vp_in (0) 12) (kb_br (((z 9 (kb_ix (0))) - (z 17 (kb_ix (0)))) < (z 0 3)) (pM_cycle_J79  z) (pM_cycle_J83 1 z))))) (kb_cl (pM_refreshing  z) (fun r18 z17 => pM_cycle_J104 r18 z17))))
noncomputable def pM_cycle (z0 : kb_S) : Option (Int32 × kb_S) := kb_ck (vp_in (0) 2) (kb_br (0 ≤ (z0 8 (kb_ix (0)))) (kb_ck (vp_in (0) 2) (pM_cycle_J19 (z0 8 (kb_ix (0))) z0)) (pM_cycle_J19 0 z0))
noncomputable def pM_tick (z0 : kb_S) : Option (Int32 × kb_S) := kb_st (kb_up z0 0 0 (0)) (fun z1 => kb_cl (pM_cycle  z1) (fun r4 z3 => some (r4, z3)))
noncomputable def pM_run_L24 : Nat → Int32 → Int32 → Int32 → kb_S → Option (Int32 × kb_S)
  | 0, _, _, _, _ => none
  | n + 1, x1, x2, x3, z => kb_br (x1 ≤ x3) (some (x2, z)) (kb_br ((z 0 0) = 0) (kb_cl (pM_cycle  z) (fun r4 z3 => kb_br (r4 ≤ 0) (pM_run_L24 n x1 x2 (x3 + 1) z3) (pM_run_L24 n x1 (x2 + 1) (x3 + 1) z3))) (some (x2, z)))
noncomputable def pM_run (x1 : Int32) (z0 : kb_S) : Option (Int32 × kb_S) := kb_br (x1 < 0) (kb_st (kb_up z0 0 0 (1)) (fun z1 => pM_run_L24 3000 x1 0 0 z1)) (kb_br (x1 ≤ 2000) (kb_st (kb_up z0 0 0 (0)) (fun z6 => pM_run_L24 3000 x1 0 0 z6)) (kb_st (kb_up z0 0 0 (1)) (fun z8 => pM_run_L24 3000 x1 0 0 z8)))
noncomputable def pM_result_J71 (x1 : Int32) (s0 : Int32) (z : kb_S) : Option (Int32 × kb_S) := kb_st (kb_up z 0 0 (s0)) (fun z4 => kb_br ((z4 0 0) = 0) (kb_ck (vp_in (x1 - x1 / 32 * 32) 32) (some (z4 19 (kb_ix (x1 - x1 / 32 * 32)), z4))) (some (0, z4)))
noncomputable def pM_result_J66 (x1 : Int32) (z : kb_S) : Option (Int32 × kb_S) := pM_result_J71 x1 2 z
noncomputable def pM_result_J29 (x1 : Int32) (s0 : Int32) (z : kb_S) : Option (Int32 × kb_S) := kb_st (kb_up z 0 0 (s0)) (fun z1 => kb_br ((z1 0 0) = 0) (kb_ck (vp_in (x1 - x1 / 32 * 32) 32) (kb_br ((z1 18 (kb_ix (x1 - x1 / 32 * 32))) < 0) (pM_result_J66 x1 z1) (kb_ck (vp_in (0) 2) (kb_br ((z1 18 (kb_ix (x1 - x1 / 32 * 32))) < (z1 9 (kb_ix (0)))) (pM_result_J71 x1 0 z1) (pM_result_J66 x1 z1))))) (some (0, z1)))
noncomputable def pM_result_J24 (x1 : Int32) (z : kb_S) : Option (Int32 × kb_S) := pM_result_J29 x1 1 z
noncomputable def pM_result (x1 : Int32) (z0 : kb_S) : Option (Int32 × kb_S) := kb_br (x1 < 0) (pM_result_J24 x1 z0) (kb_br ((z0 0 5) ≤ x1) (pM_result_J24 x1 z0) (kb_br (((z0 0 5) - x1) ≤ 32) (pM_result_J29 x1 0 z0) (pM_result_J24 x1 z0)))
noncomputable def pM_word_J16 (x1 : Int32) (x2 : Int32) (x3 : Int32) (s0 : Int32) (z : kb_S) : Option (Int32 × kb_S) := kb_st (kb_up z 0 0 (s0)) (fun z4 => kb_br ((z4 0 0) = 0) (kb_ck (vp_in (((128 * x1) + (8 * x2)) + x3) 1024) (some (z4 10 (kb_ix (((128 * x1) + (8 * x2)) + x3)), z4))) (some (0, z4)))
noncomputable def pM_word (x1 : Int32) (x2 : Int32) (x3 : Int32) (z0 : kb_S) : Option (Int32 × kb_S) := kb_cl (pM_isWord x1 x2 x3 z0) (fun r2 z1 => kb_br (r2 = 0) (pM_word_J16 x1 x2 x3 1 z1) (pM_word_J16 x1 x2 x3 0 z1))
noncomputable def pM_open_J14 (x1 : Int32) (s0 : Int32) (z : kb_S) : Option (Int32 × kb_S) := kb_st (kb_up z 0 0 (s0)) (fun z4 => kb_br ((z4 0 0) = 0) (kb_ck (vp_in (x1) 16) (some (z4 2 (kb_ix (x1)), z4))) (some (0, z4)))
noncomputable def pM_open (x1 : Int32) (z0 : kb_S) : Option (Int32 × kb_S) := kb_cl (pM_isBank x1 z0) (fun r2 z1 => kb_br (r2 = 0) (pM_open_J14 x1 1 z1) (pM_open_J14 x1 0 z1))
noncomputable def pM_waiting_J18 (x1 : Int32) (s0 : Int32) (z : kb_S) : Option (Int32 × kb_S) := kb_st (kb_up z 0 0 (s0)) (fun z1 => kb_br ((z1 0 0) = 0) (kb_ck (vp_in (x1) 12) (some (z1 11 (kb_ix (x1)), z1))) (some (0, z1)))
noncomputable def pM_waiting_J17 (x1 : Int32) (z : kb_S) : Option (Int32 × kb_S) := pM_waiting_J18 x1 1 z
noncomputable def pM_waiting (x1 : Int32) (z0 : kb_S) : Option (Int32 × kb_S) := kb_br (x1 < 0) (pM_waiting_J17 x1 z0) (kb_br ((z0 0 4) ≤ x1) (pM_waiting_J17 x1 z0) (pM_waiting_J18 x1 0 z0))
noncomputable def pM_figure_J16 (x1 : Int32) (s0 : Int32) (z : kb_S) : Option (Int32 × kb_S) := kb_st (kb_up z 0 0 (s0)) (fun z1 => kb_br ((z1 0 0) = 0) (kb_br (x1 = 0) (kb_ck (vp_in (0) 2) (some (z1 9 (kb_ix (0)), z1))) (kb_br (6 ≤ x1) (kb_br (x1 = 6) (some (z1 0 4, z1)) (kb_br (x1 = 7) (some (z1 0 6, z1)) (kb_ck (vp_in (0) 2) (some (z1 8 (kb_ix (0)), z1))))) (kb_ck (vp_in (x1 - 1) 5) (some (z1 20 (kb_ix (x1 - 1)), z1))))) (some (0, z1)))
noncomputable def pM_figure_J11 (x1 : Int32) (z : kb_S) : Option (Int32 × kb_S) := pM_figure_J16 x1 1 z
noncomputable def pM_figure (x1 : Int32) (z0 : kb_S) : Option (Int32 × kb_S) := kb_br (x1 < 0) (pM_figure_J11 x1 z0) (kb_br (x1 ≤ 8) (pM_figure_J16 x1 0 z0) (pM_figure_J11 x1 z0))
noncomputable def pM_check_J110 (x5 : Int32) (z : kb_S) : Option (Int32 × kb_S) := kb_ck (vp_in (1) 2) (kb_ck (vp_in (1) 2) (kb_st (kb_up z 9 (kb_ix (1)) ((z 9 (kb_ix (1))) + 1)) (fun z8 => some (x5, z8))))
noncomputable def pM_check_J106 (x3 : Int32) (x5 : Int32) (s0 : Int32) (s1 : Int32) (s2 : Int32) (z : kb_S) : Option (Int32 × kb_S) := kb_cl (pM_give s2 s1 s0 x3 z) (fun r11 z10 => pM_check_J110 x5 z10)
noncomputable def pM_check_J82 (x1 : Int32) (x2 : Int32) (x3 : Int32) (s0 : Int32) (s1 : Int32) (s2 : Int32) (z : kb_S) : Option (Int32 × kb_S) := kb_cl (pM_broken s2 s1 s0 x3 z) (fun r4 z3 => kb_br (r4 = 0) (kb_br (x1 = 4) (pM_check_J106 x3 r4 0 x1 1 z3) (pM_check_J106 x3 r4 x2 x1 1 z3)) (pM_check_J110 r4 z3))
noncomputable def pM_check_J57 (x1 : Int32) (x2 : Int32) (x3 : Int32) (s0 : Int32) (z : kb_S) : Option (Int32 × kb_S) := kb_st (kb_up z 0 0 (s0)) (fun z1 => kb_br ((z1 0 0) = 0) (kb_br (x1 = 4) (pM_check_J82 x1 x2 x3 0 x1 1 z1) (pM_check_J82 x1 x2 x3 x2 x1 1 z1)) (some (0, z1)))
noncomputable def pM_check_J44 (x1 : Int32) (x2 : Int32) (x3 : Int32) (s0 : Int32) (z : kb_S) : Option (Int32 × kb_S) := kb_br (s0 = 0) (pM_check_J57 x1 x2 x3 1 z) (pM_check_J57 x1 x2 x3 0 z)
noncomputable def pM_check_J43 (x1 : Int32) (x2 : Int32) (x3 : Int32) (z : kb_S) : Option (Int32 × kb_S) := pM_check_J44 x1 x2 x3 0 z
noncomputable def pM_check_J39 (x1 : Int32) (x2 : Int32) (x3 : Int32) (z : kb_S) : Option (Int32 × kb_S) := pM_check_J44 x1 x2 x3 1 z
noncomputable def pM_check_J22 (x1 : Int32) (x2 : Int32) (x3 : Int32) (z : kb_S) : Option (Int32 × kb_S) := kb_br (x1 = 4) (pM_check_J39 x1 x2 x3 z) (kb_br (x1 = 1) (pM_check_J39 x1 x2 x3 z) (kb_cl (pM_isRow x3 z) (fun r14 z13 => kb_br (r14 = 0) (pM_check_J43 x1 x2 x3 z13) (pM_check_J39 x1 x2 x3 z13))))
noncomputable def pM_check (x1 : Int32) (x2 : Int32) (x3 : Int32) (z0 : kb_S) : Option (Int32 × kb_S) := kb_br (x1 < 0) (pM_check_J43 x1 x2 x3 z0) (kb_br (4 < x1) (pM_check_J43 x1 x2 x3 z0) (kb_br (x1 = 4) (pM_check_J22 x1 x2 x3 z0) (kb_cl (pM_isBank x2 z0) (fun r17 z16 => kb_br (r17 = 0) (pM_check_J43 x1 x2 x3 z16) (pM_check_J22 x1 x2 x3 z16)))))
noncomputable def pM_pause_J17 (x1 : Int32) (s0 : Int32) (z : kb_S) : Option (Int32 × kb_S) := kb_st (kb_up z 0 0 (s0)) (fun z1 => kb_br ((z1 0 0) = 0) (kb_ck (vp_in (1) 2) (kb_ck (vp_in (1) 2) (kb_st (kb_up z1 9 (kb_ix (1)) ((z1 9 (kb_ix (1))) + x1)) (fun z5 => kb_ck (vp_in (1) 2) (some (z5 9 (kb_ix (1)), z5)))))) (some (0, z1)))
noncomputable def pM_pause_J12 (x1 : Int32) (z : kb_S) : Option (Int32 × kb_S) := pM_pause_J17 x1 1 z
noncomputable def pM_pause (x1 : Int32) (z0 : kb_S) : Option (Int32 × kb_S) := kb_br (x1 < 0) (pM_pause_J12 x1 z0) (kb_br (x1 ≤ 1000) (pM_pause_J17 x1 0 z0) (pM_pause_J12 x1 z0))
end
section
set_option maxHeartbeats 4000000 in
set_option maxRecDepth 100000 in
theorem cM_thrown (l : Launch) (D : va_G) (cI cZ : ClassId) (a : Nat → Nat) (z0 z' : kb_S) (r : Int32) (sz : Nat) (h : pM_thrown  z0 = some (r, z')) : Met l y_M_thrown (Cond.code y_M_thrown c_M_thrown 1 (some .int) :: wsB) rm_M_thrown (kb_Pc D vwCl [(cI, .int), (cZ, .boolean)] sz [.ref (a 0)] (mW cI cZ a z0)) (kb_Qi D vwCl sz (mW cI cZ a z0) r (mW cI cZ a z')) 0 0 (va_A (mW cI cZ a z0) sz) := by
  refine kb_start (by decide) rfl (Nat.le_of_ble_eq_true rfl) ?_
  intro p e s m args below meth c A ls S hr hlk hsz hA w hl
  have hl : lv_has ls 1 [(0, .ref (a 0))] := hl
  unfold pM_thrown at h
  refine lv_aload_n S.1 S.2.1 dM_thrown_0 rfl (lv_at hl 0 rfl) ?_
  refine kb_get S w 0 rfl fM_81 rfl dM_thrown_1 ?_
  refine W.eq (g2 := F0 m 4 ls [.int (z0 0 0)]) rfl ?_
  exact kb_iret (mW cI cZ a) S hr hlk hA w h dM_thrown_4
set_option maxHeartbeats 4000000 in
set_option maxRecDepth 100000 in
theorem cM_time (l : Launch) (D : va_G) (cI cZ : ClassId) (a : Nat → Nat) (z0 z' : kb_S) (r : Int32) (sz : Nat) (x1 : Int32) (x2 : Int32) (h : pM_time x1 x2 z0 = some (r, z')) : Met l y_M_time (Cond.code y_M_time c_M_time 6 (some .int) :: wsB) rm_M_time (kb_Pc D vwCl [(cI, .int), (cZ, .boolean)] sz [.ref (a 0), .int x1, .int x2] (mW cI cZ a z0)) (kb_Qi D vwCl sz (mW cI cZ a z0) r (mW cI cZ a z')) 0 0 (va_A (mW cI cZ a z0) sz) := by
  refine kb_start (by decide) rfl (Nat.le_of_ble_eq_true rfl) ?_
  intro p e s m args below meth c A ls S hr hlk hsz hA w hl
  have hl : lv_has ls 6 [(0, .ref (a 0)), (1, .int x1), (2, .int x2)] := hl
  unfold pM_time at h
  have J93 : ∀ (x1 : Int32) (x2 : Int32) (s0 : Int32) (z : kb_S) (H : Heap) (locs : List Loc) (ls : Array Slot), lv_has ls 6 [(0, .ref (a 0)), (1, .int x1), (2, .int x2)] → kb_W D vwCl [(cI, .int), (cZ, .boolean)] A s H locs (mW cI cZ a z) → pM_time_J93 x1 x2 s0 z = some (r, z') → W p l e rm_M_time s m args below meth c H locs 0 0 (MQ below (kb_Qi D vwCl sz (mW cI cZ a z0) r (mW cI cZ a z')) args s 0 0 (va_A (mW cI cZ a z0) sz)) (F0 m 93 ls [.int s0, .ref (a 0)]) := by
    intro x1 x2 s0 z H locs ls hl w h
    unfold pM_time_J93 at h
    obtain ⟨z2, hz3, h⟩ := kb_st_of h
    refine kb_puti S w 0 rfl gM_81 (Nat.le_of_ble_eq_true rfl) (ws1 := mW cI cZ a z2) (by rw [hz3]; rfl) dM_time_93 (fun H locs w => ?_)
    refine lv_aload_n S.1 S.2.1 dM_time_96 rfl (lv_at hl 0 rfl) ?_
    refine kb_get S w 0 rfl fM_81 rfl dM_time_97 ?_
    refine W.eq (g2 := F0 m 100 ls [.int (z2 0 0)]) rfl ?_
    refine lv_if_eq (tgt := 105) S.1 S.2.1 dM_time_100 (by decide) (fun hc => ?_) (fun hc => ?_)
    · have h := (kb_brt hc).symm.trans h
      refine lv_aload_n S.1 S.2.1 dM_time_105 rfl (lv_at hl 0 rfl) ?_
      refine kb_get S w 0 rfl fM_7 rfl dM_time_106 ?_
      refine W.eq (g2 := F0 m 109 ls [.ref (a 1)]) rfl ?_
      refine lv_iload_n S.1 S.2.1 dM_time_109 rfl (lv_at hl 1 rfl) ?_
      obtain ⟨hi4, h⟩ := kb_ck_of h
      refine kb_iald S w 1 0 rfl rfl hi4 dM_time_110 ?_
      refine W.eq (g2 := F0 m 111 ls [.int (z2 1 (kb_ix (x1)))]) rfl ?_
      refine lv_istore S.1 S.2.1 dM_time_111 hl (by decide) rfl (fun ls hl => ?_)
      have hl : lv_has ls 6 [(5, .int (z2 1 (kb_ix (x1)))), (0, .ref (a 0)), (1, .int x1), (2, .int x2)] := hl
      refine lv_aload_n S.1 S.2.1 dM_time_113 rfl (lv_at hl 1 rfl) ?_
      refine kb_get S w 0 rfl fM_7 rfl dM_time_114 ?_
      refine W.eq (g2 := F0 m 117 ls [.ref (a 1)]) rfl ?_
      refine lv_iload_n S.1 S.2.1 dM_time_117 rfl (lv_at hl 2 rfl) ?_
      refine lv_iload_n S.1 S.2.1 dM_time_118 rfl (lv_at hl 3 rfl) ?_
      obtain ⟨hi5, h⟩ := kb_ck_of h
      obtain ⟨z6, hz7, h⟩ := kb_st_of h
      refine kb_iast S w 1 0 rfl rfl hi5 (ws1 := mW cI cZ a z6) (by rw [hz7]; rfl) dM_time_119 (fun H locs w => ?_)
      refine lv_iload S.1 S.2.1 dM_time_120 (lv_at hl 0 rfl) ?_
      exact kb_iret (mW cI cZ a) S hr hlk hA w h dM_time_122
    · have h := (kb_brf hc).symm.trans h
      refine lv_iconst (v := 0) S.1 S.2.1 dM_time_103 (by decide) ?_
      exact kb_iret (mW cI cZ a) S hr hlk hA w h dM_time_104
  have J59 : ∀ (x1 : Int32) (x2 : Int32) (x3 : Int32) (s0 : Int32) (z : kb_S) (H : Heap) (locs : List Loc) (ls : Array Slot), lv_has ls 6 [(0, .ref (a 0)), (1, .int x1), (2, .int x2), (3, .int x3)] → kb_W D vwCl [(cI, .int), (cZ, .boolean)] A s H locs (mW cI cZ a z) → pM_time_J59 x1 x2 x3 s0 z = some (r, z') → W p l e rm_M_time s m args below meth c H locs 0 0 (MQ below (kb_Qi D vwCl sz (mW cI cZ a z0) r (mW cI cZ a z')) args s 0 0 (va_A (mW cI cZ a z0) sz)) (F0 m 59 ls [.int s0]) := by
    intro x1 x2 x3 s0 z H locs ls hl w h
    unfold pM_time_J59 at h
    refine lv_istore S.1 S.2.1 dM_time_59 hl (by decide) rfl (fun ls hl => ?_)
    have hl : lv_has ls 6 [(4, .int s0), (0, .ref (a 0)), (1, .int x1), (2, .int x2), (3, .int x3)] := hl
    refine lv_aload_n S.1 S.2.1 dM_time_61 rfl (lv_at hl 1 rfl) ?_
    refine lv_iload_n S.1 S.2.1 dM_time_62 rfl (lv_at hl 4 rfl) ?_
    refine lv_if_ne (tgt := 70) S.1 S.2.1 dM_time_63 (by decide) (fun hc => ?_) (fun hc => ?_)
    · have h := (kb_brf hc).symm.trans h
      refine lv_iload S.1 S.2.1 dM_time_70 (lv_at hl 0 rfl) ?_
      refine lv_if_ne (tgt := 79) S.1 S.2.1 dM_time_72 (by decide) (fun hc => ?_) (fun hc => ?_)
      · have h := (kb_brf hc).symm.trans h
        refine lv_aload_n S.1 S.2.1 dM_time_79 rfl (lv_at hl 1 rfl) ?_
        refine kb_get S w 0 rfl fM_34 rfl dM_time_80 ?_
        refine W.eq (g2 := F0 m 83 ls [.ref (a 9), .ref (a 0)]) rfl ?_
        refine lv_iconst (v := 0) S.1 S.2.1 dM_time_83 (by decide) ?_
        obtain ⟨hi1, h⟩ := kb_ck_of h
        refine kb_iald S w 9 0 rfl rfl hi1 dM_time_84 ?_
        refine W.eq (g2 := F0 m 85 ls [.int (z 9 (kb_ix (0))), .ref (a 0)]) rfl ?_
        refine lv_if_le (tgt := 92) S.1 S.2.1 dM_time_85 (by decide) (fun hc => ?_) (fun hc => ?_)
        · have h := (kb_brt hc).symm.trans h
          refine lv_iconst (v := 0) S.1 S.2.1 dM_time_92 (by decide) ?_
          exact J93 x1 x2 0 z _ _ _ (lv_sub hl [1, 2, 3] rfl) w h
        · have h := (kb_brf hc).symm.trans h
          refine lv_iconst (v := 3) S.1 S.2.1 dM_time_88 (by decide) ?_
          refine lv_goto (tgt := 93) S.1 S.2.1 dM_time_89 (by decide) ?_
          exact J93 x1 x2 3 z _ _ _ (lv_sub hl [1, 2, 3] rfl) w h
      · have h := (kb_brt hc).symm.trans h
        refine lv_iconst (v := 2) S.1 S.2.1 dM_time_75 (by decide) ?_
        refine lv_goto (tgt := 93) S.1 S.2.1 dM_time_76 (by decide) ?_
        exact J93 x1 x2 2 z _ _ _ (lv_sub hl [1, 2, 3] rfl) w h
    · have h := (kb_brt hc).symm.trans h
      refine lv_iconst (v := 1) S.1 S.2.1 dM_time_66 (by decide) ?_
      refine lv_goto (tgt := 93) S.1 S.2.1 dM_time_67 (by decide) ?_
      exact J93 x1 x2 1 z _ _ _ (lv_sub hl [1, 2, 3] rfl) w h
  have J58 : ∀ (x1 : Int32) (x2 : Int32) (x3 : Int32) (z : kb_S) (H : Heap) (locs : List Loc) (ls : Array Slot), lv_has ls 6 [(0, .ref (a 0)), (1, .int x1), (2, .int x2), (3, .int x3)] → kb_W D vwCl [(cI, .int), (cZ, .boolean)] A s H locs (mW cI cZ a z) → pM_time_J58 x1 x2 x3 z = some (r, z') → W p l e rm_M_time s m args below meth c H locs 0 0 (MQ below (kb_Qi D vwCl sz (mW cI cZ a z0) r (mW cI cZ a z')) args s 0 0 (va_A (mW cI cZ a z0) sz)) (F0 m 58 ls []) := by
    intro x1 x2 x3 z H locs ls hl w h
    unfold pM_time_J58 at h
    refine lv_iconst (v := 0) S.1 S.2.1 dM_time_58 (by decide) ?_
    exact J59 x1 x2 x3 0 z _ _ _ (lv_sub hl [0, 1, 2, 3] rfl) w h
  have J39 : ∀ (x1 : Int32) (x2 : Int32) (x3 : Int32) (z : kb_S) (H : Heap) (locs : List Loc) (ls : Array Slot), lv_has ls 6 [(0, .ref (a 0)), (1, .int x1), (2, .int x2), (3, .int x3)] → kb_W D vwCl [(cI, .int), (cZ, .boolean)] A s H locs (mW cI cZ a z) → pM_time_J39 x1 x2 x3 z = some (r, z') → W p l e rm_M_time s m args below meth c H locs 0 0 (MQ below (kb_Qi D vwCl sz (mW cI cZ a z0) r (mW cI cZ a z')) args s 0 0 (va_A (mW cI cZ a z0) sz)) (F0 m 39 ls []) := by
    intro x1 x2 x3 z H locs ls hl w h
    unfold pM_time_J39 at h
    refine lv_iconst (v := 0) S.1 S.2.1 dM_time_39 (by decide) ?_
    refine lv_goto (tgt := 59) S.1 S.2.1 dM_time_40 (by decide) ?_
    exact J59 x1 x2 x3 0 z _ _ _ (lv_sub hl [0, 1, 2, 3] rfl) w h
  have J15 : ∀ (x1 : Int32) (x2 : Int32) (s0 : Int32) (z : kb_S) (H : Heap) (locs : List Loc) (ls : Array Slot), lv_has ls 6 [(0, .ref (a 0)), (1, .int x1), (2, .int x2)] → kb_W D vwCl [(cI, .int), (cZ, .boolean)] A s H locs (mW cI cZ a z) → pM_time_J15 x1 x2 s0 z = some (r, z') → W p l e rm_M_time s m args below meth c H locs 0 0 (MQ below (kb_Qi D vwCl sz (mW cI cZ a z0) r (mW cI cZ a z')) args s 0 0 (va_A (mW cI cZ a z0) sz)) (F0 m 15 ls [.int s0]) := by
    intro x1 x2 s0 z H locs ls hl w h
    unfold pM_time_J15 at h
    refine lv_istore_n S.1 S.2.1 dM_time_15 rfl hl (by decide) rfl (fun ls hl => ?_)
    have hl : lv_has ls 6 [(3, .int s0), (0, .ref (a 0)), (1, .int x1), (2, .int x2)] := hl
    refine lv_iload_n S.1 S.2.1 dM_time_16 rfl (lv_at hl 2 rfl) ?_
    refine lv_bipush (v := 10) S.1 S.2.1 dM_time_17 (by decide) ?_
    refine lv_icmp_ne (tgt := 43) S.1 S.2.1 dM_time_19 (by decide) (fun hc => ?_) (fun hc => ?_)
    · have h := (kb_brf hc).symm.trans h
      refine lv_iload_n S.1 S.2.1 dM_time_43 rfl (lv_at hl 3 rfl) ?_
      refine lv_iconst (v := 1) S.1 S.2.1 dM_time_44 (by decide) ?_
      refine lv_icmp_lt (tgt := 58) S.1 S.2.1 dM_time_45 (by decide) (fun hc => ?_) (fun hc => ?_)
      · have h := (kb_brt hc).symm.trans h
        exact J58 x1 x2 s0 z _ _ _ (lv_sub hl [1, 2, 3, 0] rfl) w h
      · have h := (kb_brf hc).symm.trans h
        refine lv_iload_n S.1 S.2.1 dM_time_48 rfl (lv_at hl 3 rfl) ?_
        refine lv_bipush (v := 20) S.1 S.2.1 dM_time_49 (by decide) ?_
        refine lv_icmp_gt (tgt := 58) S.1 S.2.1 dM_time_51 (by decide) (fun hc => ?_) (fun hc => ?_)
        · have h := (kb_brt hc).symm.trans h
          exact J58 x1 x2 s0 z _ _ _ (lv_sub hl [1, 2, 3, 0] rfl) w h
        · have h := (kb_brf hc).symm.trans h
          refine lv_iconst (v := 1) S.1 S.2.1 dM_time_54 (by decide) ?_
          refine lv_goto (tgt := 59) S.1 S.2.1 dM_time_55 (by decide) ?_
          exact J59 x1 x2 s0 1 z _ _ _ (lv_sub hl [1, 2, 3, 0] rfl) w h
    · have h := (kb_brt hc).symm.trans h
      refine lv_iload_n S.1 S.2.1 dM_time_22 rfl (lv_at hl 3 rfl) ?_
      refine lv_bipush (v := 20) S.1 S.2.1 dM_time_23 (by decide) ?_
      refine lv_icmp_lt (tgt := 39) S.1 S.2.1 dM_time_25 (by decide) (fun hc => ?_) (fun hc => ?_)
      · have h := (kb_brt hc).symm.trans h
        exact J39 x1 x2 s0 z _ _ _ (lv_sub hl [1, 2, 3, 0] rfl) w h
      · have h := (kb_brf hc).symm.trans h
        refine lv_iload_n S.1 S.2.1 dM_time_28 rfl (lv_at hl 3 rfl) ?_
        refine lv_sipush (v := 200) S.1 S.2.1 dM_time_29 (by decide) ?_
        refine lv_icmp_gt (tgt := 39) S.1 S.2.1 dM_time_32 (by decide) (fun hc => ?_) (fun hc => ?_)
        · have h := (kb_brt hc).symm.trans h
          exact J39 x1 x2 s0 z _ _ _ (lv_sub hl [1, 2, 3, 0] rfl) w h
        · have h := (kb_brf hc).symm.trans h
          refine lv_iconst (v := 1) S.1 S.2.1 dM_time_35 (by decide) ?_
          refine lv_goto (tgt := 59) S.1 S.2.1 dM_time_36 (by decide) ?_
          exact J59 x1 x2 s0 1 z _ _ _ (lv_sub hl [1, 2, 3, 0] rfl) w h
  have J14 : ∀ (x1 : Int32) (x2 : Int32) (z : kb_S) (H : Heap) (locs : List Loc) (ls : Array Slot), lv_has ls 6 [(0, .ref (a 0)), (1, .int x1), (2, .int x2)] → kb_W D vwCl [(cI, .int), (cZ, .boolean)] A s H locs (mW cI cZ a z) → pM_time_J14 x1 x2 z = some (r, z') → W p l e rm_M_time s m args below meth c H locs 0 0 (MQ below (kb_Qi D vwCl sz (mW cI cZ a z0) r (mW cI cZ a z')) args s 0 0 (va_A (mW cI cZ a z0) sz)) (F0 m 14 ls []) := by
    intro x1 x2 z H locs ls hl w h
    unfold pM_time_J14 at h
    refine lv_iconst (v := 0) S.1 S.2.1 dM_time_14 (by decide) ?_
    exact J15 x1 x2 0 z _ _ _ (lv_sub hl [0, 1, 2] rfl) w h
  refine lv_iload_n S.1 S.2.1 dM_time_0 rfl (lv_at hl 1 rfl) ?_
  refine lv_if_lt (tgt := 14) S.1 S.2.1 dM_time_1 (by decide) (fun hc => ?_) (fun hc => ?_)
  · have h := (kb_brt hc).symm.trans h
    exact J14 x1 x2 z0 _ _ _ (lv_sub hl [0, 1, 2] rfl) w h
  · have h := (kb_brf hc).symm.trans h
    refine lv_iload_n S.1 S.2.1 dM_time_4 rfl (lv_at hl 1 rfl) ?_
    refine lv_bipush (v := 12) S.1 S.2.1 dM_time_5 (by decide) ?_
    refine lv_icmp_ge (tgt := 14) S.1 S.2.1 dM_time_7 (by decide) (fun hc => ?_) (fun hc => ?_)
    · have h := (kb_brt hc).symm.trans h
      exact J14 x1 x2 z0 _ _ _ (lv_sub hl [0, 1, 2] rfl) w h
    · have h := (kb_brf hc).symm.trans h
      refine lv_iconst (v := 1) S.1 S.2.1 dM_time_10 (by decide) ?_
      refine lv_goto (tgt := 15) S.1 S.2.1 dM_time_11 (by decide) ?_
      exact J15 x1 x2 1 z0 _ _ _ (lv_sub hl [0, 1, 2] rfl) w h
set_option maxHeartbeats 4000000 in
set_option maxRecDepth 100000 in
theorem cM_early (l : Launch) (D : va_G) (cI cZ : ClassId) (a : Nat → Nat) (z0 z' : kb_S) (r : Int32) (sz : Nat) (x1 : Int32) (x2 : Int32) (x3 : Int32) (h : pM_early x1 x2 x3 z0 = some (r, z')) : Met l y_M_early (Cond.code y_M_early c_M_early 4 (some .boolean) :: wsB) rm_M_early (kb_Pc D vwCl [(cI, .int), (cZ, .boolean)] sz [.ref (a 0), .int x1, .int x2, .int x3] (mW cI cZ a z0)) (kb_Qi D vwCl sz (mW cI cZ a z0) r (mW cI cZ a z')) 0 0 (va_A (mW cI cZ a z0) sz) := by
  refine kb_start (by decide) rfl (Nat.le_of_ble_eq_true rfl) ?_
  intro p e s m args below meth c A ls S hr hlk hsz hA w hl
  have hl : lv_has ls 4 [(0, .ref (a 0)), (1, .int x1), (2, .int x2), (3, .int x3)] := hl
  unfold pM_early at h
  refine lv_iload_n S.1 S.2.1 dM_early_0 rfl (lv_at hl 2 rfl) ?_
  refine lv_if_lt (tgt := 25) S.1 S.2.1 dM_early_1 (by decide) (fun hc => ?_) (fun hc => ?_)
  · have h := (kb_brt hc).symm.trans h
    refine lv_iconst (v := 0) S.1 S.2.1 dM_early_25 (by decide) ?_
    exact kb_zret (mW cI cZ a) S hr hlk hA w h (by decide) dM_early_26
  · have h := (kb_brf hc).symm.trans h
    refine lv_aload_n S.1 S.2.1 dM_early_4 rfl (lv_at hl 0 rfl) ?_
    refine kb_get S w 0 rfl fM_34 rfl dM_early_5 ?_
    refine W.eq (g2 := F0 m 8 ls [.ref (a 9)]) rfl ?_
    refine lv_iload_n S.1 S.2.1 dM_early_8 rfl (lv_at hl 1 rfl) ?_
    obtain ⟨hi1, h⟩ := kb_ck_of h
    refine kb_iald S w 9 0 rfl rfl hi1 dM_early_9 ?_
    refine W.eq (g2 := F0 m 10 ls [.int (z0 9 (kb_ix (x1)))]) rfl ?_
    refine lv_iload_n S.1 S.2.1 dM_early_10 rfl (lv_at hl 2 rfl) ?_
    refine lv_isub S.1 S.2.1 dM_early_11 ?_
    refine lv_aload_n S.1 S.2.1 dM_early_12 rfl (lv_at hl 0 rfl) ?_
    refine kb_get S w 0 rfl fM_7 rfl dM_early_13 ?_
    refine W.eq (g2 := F0 m 16 ls [.ref (a 1), .int ((z0 9 (kb_ix (x1))) - x2)]) rfl ?_
    refine lv_iload_n S.1 S.2.1 dM_early_16 rfl (lv_at hl 3 rfl) ?_
    obtain ⟨hi2, h⟩ := kb_ck_of h
    refine kb_iald S w 1 0 rfl rfl hi2 dM_early_17 ?_
    refine W.eq (g2 := F0 m 18 ls [.int (z0 1 (kb_ix (x3))), .int ((z0 9 (kb_ix (x1))) - x2)]) rfl ?_
    refine lv_icmp_ge (tgt := 25) S.1 S.2.1 dM_early_18 (by decide) (fun hc => ?_) (fun hc => ?_)
    · have h := (kb_brt hc).symm.trans h
      refine lv_iconst (v := 0) S.1 S.2.1 dM_early_25 (by decide) ?_
      exact kb_zret (mW cI cZ a) S hr hlk hA w h (by decide) dM_early_26
    · have h := (kb_brf hc).symm.trans h
      refine lv_iconst (v := 1) S.1 S.2.1 dM_early_21 (by decide) ?_
      refine lv_goto (tgt := 26) S.1 S.2.1 dM_early_22 (by decide) ?_
      exact kb_zret (mW cI cZ a) S hr hlk hA w h (by decide) dM_early_26
set_option maxHeartbeats 4000000 in
set_option maxRecDepth 100000 in
theorem cM_brokenOpen (l : Launch) (D : va_G) (cI cZ : ClassId) (a : Nat → Nat) (z0 z' : kb_S) (r : Int32) (sz : Nat) (x1 : Int32) (x2 : Int32) (h : pM_brokenOpen x1 x2 z0 = some (r, z')) : Met l y_M_brokenOpen (Cond.code y_M_brokenOpen c_M_brokenOpen 7 (some .int) :: wsB) rm_M_brokenOpen (kb_Pc D vwCl [(cI, .int), (cZ, .boolean)] sz [.ref (a 0), .int x1, .int x2] (mW cI cZ a z0)) (kb_Qi D vwCl sz (mW cI cZ a z0) r (mW cI cZ a z')) 0 0 (va_A (mW cI cZ a z0) sz) := by
  refine kb_start (by decide) rfl (Nat.le_of_ble_eq_true rfl) ?_
  intro p e s m args below meth c A ls S hr hlk hsz hA w hl
  have hl : lv_has ls 7 [(0, .ref (a 0)), (1, .int x1), (2, .int x2)] := hl
  unfold pM_brokenOpen at h
  have L13 : ∀ (n : Nat) (x1 : Int32) (x2 : Int32) (x3 : Int32) (x4 : Int32) (x5 : Int32) (z : kb_S) (H : Heap) (locs : List Loc) (ls : Array Slot), lv_has ls 7 [(0, .ref (a 0)), (1, .int x1), (2, .int x2), (3, .int x3), (4, .int x4), (5, .int x5)] → kb_W D vwCl [(cI, .int), (cZ, .boolean)] A s H locs (mW cI cZ a z) → pM_brokenOpen_L13 n x1 x2 x3 x4 x5 z = some (r, z') → W p l e rm_M_brokenOpen s m args below meth c H locs 0 0 (MQ below (kb_Qi D vwCl sz (mW cI cZ a z0) r (mW cI cZ a z')) args s 0 0 (va_A (mW cI cZ a z0) sz)) (F0 m 13 ls []) := by
    intro n
    induction n with
    | zero =>
      intro x1 x2 x3 x4 x5 z H locs ls hl w h
      exact absurd h (by simp [pM_brokenOpen_L13])
    | succ n ih =>
      intro x1 x2 x3 x4 x5 z H locs ls hl w h
      rw [pM_brokenOpen_L13] at h
      refine lv_iload S.1 S.2.1 dM_brokenOpen_13 (lv_at hl 5 rfl) ?_
      refine lv_aload_n S.1 S.2.1 dM_brokenOpen_15 rfl (lv_at hl 0 rfl) ?_
      refine kb_get S w 0 rfl fM_71 rfl dM_brokenOpen_16 ?_
      refine W.eq (g2 := F0 m 19 ls [.int (z 0 1), .int x5]) rfl ?_
      refine lv_icmp_ge (tgt := 64) S.1 S.2.1 dM_brokenOpen_19 (by decide) (fun hc => ?_) (fun hc => ?_)
      · have h := (kb_brt hc).symm.trans h
        refine lv_aload_n S.1 S.2.1 dM_brokenOpen_64 rfl (lv_at hl 0 rfl) ?_
        refine kb_get S w 0 rfl fM_13 rfl dM_brokenOpen_65 ?_
        refine W.eq (g2 := F0 m 68 ls [.ref (a 2)]) rfl ?_
        refine lv_iload_n S.1 S.2.1 dM_brokenOpen_68 rfl (lv_at hl 3 rfl) ?_
        obtain ⟨hi1, h⟩ := kb_ck_of h
        refine kb_iald S w 2 0 rfl rfl hi1 dM_brokenOpen_69 ?_
        refine W.eq (g2 := F0 m 70 ls [.int (z 2 (kb_ix (x3)))]) rfl ?_
        refine lv_if_lt (tgt := 75) S.1 S.2.1 dM_brokenOpen_70 (by decide) (fun hc => ?_) (fun hc => ?_)
        · have h := (kb_brt hc).symm.trans h
          refine lv_aload_n S.1 S.2.1 dM_brokenOpen_75 rfl (lv_at hl 0 rfl) ?_
          refine lv_iload_n S.1 S.2.1 dM_brokenOpen_76 rfl (lv_at hl 1 rfl) ?_
          refine lv_aload_n S.1 S.2.1 dM_brokenOpen_77 rfl (lv_at hl 0 rfl) ?_
          refine kb_get S w 0 rfl fM_19 rfl dM_brokenOpen_78 ?_
          refine W.eq (g2 := F0 m 81 ls [.ref (a 4), .int x1, .ref (a 0)]) rfl ?_
          refine lv_iload_n S.1 S.2.1 dM_brokenOpen_81 rfl (lv_at hl 3 rfl) ?_
          obtain ⟨hi2, h⟩ := kb_ck_of h
          refine kb_iald S w 4 0 rfl rfl hi2 dM_brokenOpen_82 ?_
          refine W.eq (g2 := F0 m 83 ls [.int (z 4 (kb_ix (x3))), .int x1, .ref (a 0)]) rfl ?_
          refine lv_iconst (v := 1) S.1 S.2.1 dM_brokenOpen_83 (by decide) ?_
          obtain ⟨r4, z3, hc5, h⟩ := kb_cl_of h
          refine kb_calli (As := [.int x1, .int (z 4 (kb_ix (x3))), .int 1]) (rest := []) (q0 := 0) (ci := 3) S w (fun sz => cM_early l D cI cZ a _ _ _ sz x1 (z 4 (kb_ix (x3))) 1 hc5) Y_M_early I_M_early S_M_early lM_84 ⟨rfl, rfl, Nat.le_of_ble_eq_true rfl, Nat.le_of_ble_eq_true rfl⟩ rfl rfl rfl rfl hl.1 rfl (Nat.le_of_ble_eq_true rfl) dM_brokenOpen_84 ⟨Nat.le_of_ble_eq_true rfl, Nat.le_of_ble_eq_true rfl⟩ (fun H locs w => ?_)
          refine lv_if_eq (tgt := 92) S.1 S.2.1 dM_brokenOpen_87 (by decide) (fun hc => ?_) (fun hc => ?_)
          · have h := (kb_brt hc).symm.trans h
            refine lv_aload_n S.1 S.2.1 dM_brokenOpen_92 rfl (lv_at hl 0 rfl) ?_
            refine lv_iload_n S.1 S.2.1 dM_brokenOpen_93 rfl (lv_at hl 1 rfl) ?_
            refine lv_aload_n S.1 S.2.1 dM_brokenOpen_94 rfl (lv_at hl 0 rfl) ?_
            refine kb_get S w 0 rfl fM_16 rfl dM_brokenOpen_95 ?_
            refine W.eq (g2 := F0 m 98 ls [.ref (a 3), .int x1, .ref (a 0)]) rfl ?_
            refine lv_iload_n S.1 S.2.1 dM_brokenOpen_98 rfl (lv_at hl 3 rfl) ?_
            obtain ⟨hi6, h⟩ := kb_ck_of h
            refine kb_iald S w 3 0 rfl rfl hi6 dM_brokenOpen_99 ?_
            refine W.eq (g2 := F0 m 100 ls [.int (z3 3 (kb_ix (x3))), .int x1, .ref (a 0)]) rfl ?_
            refine lv_iconst (v := 3) S.1 S.2.1 dM_brokenOpen_100 (by decide) ?_
            obtain ⟨r8, z7, hc9, h⟩ := kb_cl_of h
            refine kb_calli (As := [.int x1, .int (z3 3 (kb_ix (x3))), .int 3]) (rest := []) (q0 := 0) (ci := 3) S w (fun sz => cM_early l D cI cZ a _ _ _ sz x1 (z3 3 (kb_ix (x3))) 3 hc9) Y_M_early I_M_early S_M_early lM_84 ⟨rfl, rfl, Nat.le_of_ble_eq_true rfl, Nat.le_of_ble_eq_true rfl⟩ rfl rfl rfl rfl hl.1 rfl (Nat.le_of_ble_eq_true rfl) dM_brokenOpen_101 ⟨Nat.le_of_ble_eq_true rfl, Nat.le_of_ble_eq_true rfl⟩ (fun H locs w => ?_)
            refine lv_if_eq (tgt := 109) S.1 S.2.1 dM_brokenOpen_104 (by decide) (fun hc => ?_) (fun hc => ?_)
            · have h := (kb_brt hc).symm.trans h
              refine lv_aload_n S.1 S.2.1 dM_brokenOpen_109 rfl (lv_at hl 0 rfl) ?_
              refine lv_iload_n S.1 S.2.1 dM_brokenOpen_110 rfl (lv_at hl 1 rfl) ?_
              refine lv_iload S.1 S.2.1 dM_brokenOpen_111 (lv_at hl 4 rfl) ?_
              refine lv_bipush (v := 7) S.1 S.2.1 dM_brokenOpen_113 (by decide) ?_
              obtain ⟨r11, z10, hc12, h⟩ := kb_cl_of h
              refine kb_calli (As := [.int x1, .int x4, .int 7]) (rest := []) (q0 := 0) (ci := 3) S w (fun sz => cM_early l D cI cZ a _ _ _ sz x1 x4 7 hc12) Y_M_early I_M_early S_M_early lM_84 ⟨rfl, rfl, Nat.le_of_ble_eq_true rfl, Nat.le_of_ble_eq_true rfl⟩ rfl rfl rfl rfl hl.1 rfl (Nat.le_of_ble_eq_true rfl) dM_brokenOpen_115 ⟨Nat.le_of_ble_eq_true rfl, Nat.le_of_ble_eq_true rfl⟩ (fun H locs w => ?_)
              refine lv_if_eq (tgt := 123) S.1 S.2.1 dM_brokenOpen_118 (by decide) (fun hc => ?_) (fun hc => ?_)
              · have h := (kb_brt hc).symm.trans h
                refine lv_aload_n S.1 S.2.1 dM_brokenOpen_123 rfl (lv_at hl 0 rfl) ?_
                refine lv_iload_n S.1 S.2.1 dM_brokenOpen_124 rfl (lv_at hl 1 rfl) ?_
                refine lv_aload_n S.1 S.2.1 dM_brokenOpen_125 rfl (lv_at hl 0 rfl) ?_
                refine kb_get S w 0 rfl fM_28 rfl dM_brokenOpen_126 ?_
                refine W.eq (g2 := F0 m 129 ls [.ref (a 7), .int x1, .ref (a 0)]) rfl ?_
                refine lv_iconst (v := 4) S.1 S.2.1 dM_brokenOpen_129 (by decide) ?_
                refine lv_iload_n S.1 S.2.1 dM_brokenOpen_130 rfl (lv_at hl 1 rfl) ?_
                refine lv_imul S.1 S.2.1 dM_brokenOpen_131 ?_
                refine lv_iconst (v := 3) S.1 S.2.1 dM_brokenOpen_132 (by decide) ?_
                refine lv_iadd S.1 S.2.1 dM_brokenOpen_133 ?_
                obtain ⟨hi13, h⟩ := kb_ck_of h
                refine kb_iald S w 7 0 rfl rfl hi13 dM_brokenOpen_134 ?_
                refine W.eq (g2 := F0 m 135 ls [.int (z10 7 (kb_ix ((4 * x1) + 3))), .int x1, .ref (a 0)]) rfl ?_
                refine lv_bipush (v := 8) S.1 S.2.1 dM_brokenOpen_135 (by decide) ?_
                obtain ⟨r15, z14, hc16, h⟩ := kb_cl_of h
                refine kb_calli (As := [.int x1, .int (z10 7 (kb_ix ((4 * x1) + 3))), .int 8]) (rest := []) (q0 := 0) (ci := 3) S w (fun sz => cM_early l D cI cZ a _ _ _ sz x1 (z10 7 (kb_ix ((4 * x1) + 3))) 8 hc16) Y_M_early I_M_early S_M_early lM_84 ⟨rfl, rfl, Nat.le_of_ble_eq_true rfl, Nat.le_of_ble_eq_true rfl⟩ rfl rfl rfl rfl hl.1 rfl (Nat.le_of_ble_eq_true rfl) dM_brokenOpen_137 ⟨Nat.le_of_ble_eq_true rfl, Nat.le_of_ble_eq_true rfl⟩ (fun H locs w => ?_)
                refine lv_if_eq (tgt := 145) S.1 S.2.1 dM_brokenOpen_140 (by decide) (fun hc => ?_) (fun hc => ?_)
                · have h := (kb_brt hc).symm.trans h
                  refine lv_aload_n S.1 S.2.1 dM_brokenOpen_145 rfl (lv_at hl 0 rfl) ?_
                  refine lv_iload_n S.1 S.2.1 dM_brokenOpen_146 rfl (lv_at hl 1 rfl) ?_
                  refine lv_aload_n S.1 S.2.1 dM_brokenOpen_147 rfl (lv_at hl 0 rfl) ?_
                  refine kb_get S w 0 rfl fM_31 rfl dM_brokenOpen_148 ?_
                  refine W.eq (g2 := F0 m 151 ls [.ref (a 8), .int x1, .ref (a 0)]) rfl ?_
                  refine lv_iload_n S.1 S.2.1 dM_brokenOpen_151 rfl (lv_at hl 1 rfl) ?_
                  obtain ⟨hi17, h⟩ := kb_ck_of h
                  refine kb_iald S w 8 0 rfl rfl hi17 dM_brokenOpen_152 ?_
                  refine W.eq (g2 := F0 m 153 ls [.int (z14 8 (kb_ix (x1))), .int x1, .ref (a 0)]) rfl ?_
                  refine lv_bipush (v := 9) S.1 S.2.1 dM_brokenOpen_153 (by decide) ?_
                  obtain ⟨r19, z18, hc20, h⟩ := kb_cl_of h
                  refine kb_calli (As := [.int x1, .int (z14 8 (kb_ix (x1))), .int 9]) (rest := []) (q0 := 0) (ci := 3) S w (fun sz => cM_early l D cI cZ a _ _ _ sz x1 (z14 8 (kb_ix (x1))) 9 hc20) Y_M_early I_M_early S_M_early lM_84 ⟨rfl, rfl, Nat.le_of_ble_eq_true rfl, Nat.le_of_ble_eq_true rfl⟩ rfl rfl rfl rfl hl.1 rfl (Nat.le_of_ble_eq_true rfl) dM_brokenOpen_155 ⟨Nat.le_of_ble_eq_true rfl, Nat.le_of_ble_eq_true rfl⟩ (fun H locs w => ?_)
                  refine lv_if_eq (tgt := 166) S.1 S.2.1 dM_brokenOpen_158 (by decide) (fun hc => ?_) (fun hc => ?_)
                  · have h := (kb_brt hc).symm.trans h
                    refine lv_iconst (v := 0) S.1 S.2.1 dM_brokenOpen_166 (by decide) ?_
                    exact kb_iret (mW cI cZ a) S hr hlk hA w h dM_brokenOpen_167
                  · have h := (kb_brf hc).symm.trans h
                    refine lv_bipush (v := 6) S.1 S.2.1 dM_brokenOpen_161 (by decide) ?_
                    refine lv_goto (tgt := 167) S.1 S.2.1 dM_brokenOpen_163 (by decide) ?_
                    exact kb_iret (mW cI cZ a) S hr hlk hA w h dM_brokenOpen_167
                · have h := (kb_brf hc).symm.trans h
                  refine lv_iconst (v := 5) S.1 S.2.1 dM_brokenOpen_143 (by decide) ?_
                  exact kb_iret (mW cI cZ a) S hr hlk hA w h dM_brokenOpen_144
              · have h := (kb_brf hc).symm.trans h
                refine lv_iconst (v := 4) S.1 S.2.1 dM_brokenOpen_121 (by decide) ?_
                exact kb_iret (mW cI cZ a) S hr hlk hA w h dM_brokenOpen_122
            · have h := (kb_brf hc).symm.trans h
              refine lv_iconst (v := 3) S.1 S.2.1 dM_brokenOpen_107 (by decide) ?_
              exact kb_iret (mW cI cZ a) S hr hlk hA w h dM_brokenOpen_108
          · have h := (kb_brf hc).symm.trans h
            refine lv_iconst (v := 2) S.1 S.2.1 dM_brokenOpen_90 (by decide) ?_
            exact kb_iret (mW cI cZ a) S hr hlk hA w h dM_brokenOpen_91
        · have h := (kb_brf hc).symm.trans h
          refine lv_iconst (v := 1) S.1 S.2.1 dM_brokenOpen_73 (by decide) ?_
          exact kb_iret (mW cI cZ a) S hr hlk hA w h dM_brokenOpen_74
      · have h := (kb_brf hc).symm.trans h
        refine lv_aload_n S.1 S.2.1 dM_brokenOpen_22 rfl (lv_at hl 0 rfl) ?_
        refine kb_get S w 0 rfl fM_16 rfl dM_brokenOpen_23 ?_
        refine W.eq (g2 := F0 m 26 ls [.ref (a 3)]) rfl ?_
        refine lv_bipush (v := 8) S.1 S.2.1 dM_brokenOpen_26 (by decide) ?_
        refine lv_iload_n S.1 S.2.1 dM_brokenOpen_28 rfl (lv_at hl 1 rfl) ?_
        refine lv_imul S.1 S.2.1 dM_brokenOpen_29 ?_
        refine lv_iload S.1 S.2.1 dM_brokenOpen_30 (lv_at hl 5 rfl) ?_
        refine lv_iadd S.1 S.2.1 dM_brokenOpen_32 ?_
        obtain ⟨hi21, h⟩ := kb_ck_of h
        refine kb_iald S w 3 0 rfl rfl hi21 dM_brokenOpen_33 ?_
        refine W.eq (g2 := F0 m 34 ls [.int (z 3 (kb_ix ((8 * x1) + x5)))]) rfl ?_
        refine lv_istore S.1 S.2.1 dM_brokenOpen_34 hl (by decide) rfl (fun ls hl => ?_)
        have hl : lv_has ls 7 [(6, .int (z 3 (kb_ix ((8 * x1) + x5)))), (0, .ref (a 0)), (1, .int x1), (2, .int x2), (3, .int x3), (4, .int x4), (5, .int x5)] := hl
        refine lv_iload S.1 S.2.1 dM_brokenOpen_36 (lv_at hl 6 rfl) ?_
        refine lv_iload_n S.1 S.2.1 dM_brokenOpen_38 rfl (lv_at hl 3 rfl) ?_
        refine lv_icmp_eq (tgt := 54) S.1 S.2.1 dM_brokenOpen_39 (by decide) (fun hc => ?_) (fun hc => ?_)
        · have h := (kb_brt hc).symm.trans h
          refine lv_iload S.1 S.2.1 dM_brokenOpen_54 (lv_at hl 5 rfl) ?_
          refine lv_istore S.1 S.2.1 dM_brokenOpen_56 hl (by decide) rfl (fun ls hl => ?_)
          have hl : lv_has ls 7 [(4, .int x4), (6, .int (z 3 (kb_ix ((8 * x1) + x5)))), (0, .ref (a 0)), (1, .int x1), (2, .int x2), (3, .int x3), (5, .int x5)] := hl
          refine lv_iinc (v := x5 + 1) (k := 6) S.1 S.2.1 dM_brokenOpen_58 hl rfl rfl (by decide) rfl (fun ls hl => ?_)
          have hl : lv_has ls 7 [(5, .int (x5 + 1)), (4, .int x4), (6, .int (z 3 (kb_ix ((8 * x1) + x5)))), (0, .ref (a 0)), (1, .int x1), (2, .int x2), (3, .int x3)] := hl
          refine lv_goto (tgt := 13) S.1 S.2.1 dM_brokenOpen_61 (by decide) ?_
          exact ih x1 x2 x3 x4 (x5 + 1) z _ _ _ (lv_sub hl [3, 4, 5, 6, 1, 0] rfl) w h
        · have h := (kb_brf hc).symm.trans h
          refine lv_iload S.1 S.2.1 dM_brokenOpen_42 (lv_at hl 0 rfl) ?_
          refine lv_iload S.1 S.2.1 dM_brokenOpen_44 (lv_at hl 5 rfl) ?_
          refine lv_icmp_le (tgt := 54) S.1 S.2.1 dM_brokenOpen_46 (by decide) (fun hc => ?_) (fun hc => ?_)
          · have h := (kb_brt hc).symm.trans h
            refine lv_iload S.1 S.2.1 dM_brokenOpen_54 (lv_at hl 5 rfl) ?_
            refine lv_istore S.1 S.2.1 dM_brokenOpen_56 hl (by decide) rfl (fun ls hl => ?_)
            have hl : lv_has ls 7 [(4, .int x4), (6, .int (z 3 (kb_ix ((8 * x1) + x5)))), (0, .ref (a 0)), (1, .int x1), (2, .int x2), (3, .int x3), (5, .int x5)] := hl
            refine lv_iinc (v := x5 + 1) (k := 6) S.1 S.2.1 dM_brokenOpen_58 hl rfl rfl (by decide) rfl (fun ls hl => ?_)
            have hl : lv_has ls 7 [(5, .int (x5 + 1)), (4, .int x4), (6, .int (z 3 (kb_ix ((8 * x1) + x5)))), (0, .ref (a 0)), (1, .int x1), (2, .int x2), (3, .int x3)] := hl
            refine lv_goto (tgt := 13) S.1 S.2.1 dM_brokenOpen_61 (by decide) ?_
            exact ih x1 x2 x3 x4 (x5 + 1) z _ _ _ (lv_sub hl [3, 4, 5, 6, 1, 0] rfl) w h
          · have h := (kb_brf hc).symm.trans h
            refine lv_iload S.1 S.2.1 dM_brokenOpen_49 (lv_at hl 0 rfl) ?_
            refine lv_goto (tgt := 56) S.1 S.2.1 dM_brokenOpen_51 (by decide) ?_
            refine lv_istore S.1 S.2.1 dM_brokenOpen_56 hl (by decide) rfl (fun ls hl => ?_)
            have hl : lv_has ls 7 [(4, .int (z 3 (kb_ix ((8 * x1) + x5)))), (6, .int (z 3 (kb_ix ((8 * x1) + x5)))), (0, .ref (a 0)), (1, .int x1), (2, .int x2), (3, .int x3), (5, .int x5)] := hl
            refine lv_iinc (v := x5 + 1) (k := 6) S.1 S.2.1 dM_brokenOpen_58 hl rfl rfl (by decide) rfl (fun ls hl => ?_)
            have hl : lv_has ls 7 [(5, .int (x5 + 1)), (4, .int (z 3 (kb_ix ((8 * x1) + x5)))), (6, .int (z 3 (kb_ix ((8 * x1) + x5)))), (0, .ref (a 0)), (1, .int x1), (2, .int x2), (3, .int x3)] := hl
            refine lv_goto (tgt := 13) S.1 S.2.1 dM_brokenOpen_61 (by decide) ?_
            exact ih x1 x2 x3 (z 3 (kb_ix ((8 * x1) + x5))) (x5 + 1) z _ _ _ (lv_sub hl [3, 4, 5, 6, 1, 0] rfl) w h
  refine lv_bipush (v := 8) S.1 S.2.1 dM_brokenOpen_0 (by decide) ?_
  refine lv_iload_n S.1 S.2.1 dM_brokenOpen_2 rfl (lv_at hl 1 rfl) ?_
  refine lv_imul S.1 S.2.1 dM_brokenOpen_3 ?_
  refine lv_iload_n S.1 S.2.1 dM_brokenOpen_4 rfl (lv_at hl 2 rfl) ?_
  refine lv_iadd S.1 S.2.1 dM_brokenOpen_5 ?_
  refine lv_istore_n S.1 S.2.1 dM_brokenOpen_6 rfl hl (by decide) rfl (fun ls hl => ?_)
  have hl : lv_has ls 7 [(3, .int ((8 * x1) + x2)), (0, .ref (a 0)), (1, .int x1), (2, .int x2)] := hl
  refine lv_iconst (v := (-1)) S.1 S.2.1 dM_brokenOpen_7 (by decide) ?_
  refine lv_istore S.1 S.2.1 dM_brokenOpen_8 hl (by decide) rfl (fun ls hl => ?_)
  have hl : lv_has ls 7 [(4, .int ((-1))), (3, .int ((8 * x1) + x2)), (0, .ref (a 0)), (1, .int x1), (2, .int x2)] := hl
  refine lv_iconst (v := 0) S.1 S.2.1 dM_brokenOpen_10 (by decide) ?_
  refine lv_istore S.1 S.2.1 dM_brokenOpen_11 hl (by decide) rfl (fun ls hl => ?_)
  have hl : lv_has ls 7 [(5, .int 0), (4, .int ((-1))), (3, .int ((8 * x1) + x2)), (0, .ref (a 0)), (1, .int x1), (2, .int x2)] := hl
  exact L13 3000 x1 x2 ((8 * x1) + x2) (-1) 0 z0 _ _ _ (lv_sub hl [3, 4, 5, 2, 1, 0] rfl) w h
set_option maxHeartbeats 4000000 in
set_option maxRecDepth 100000 in
theorem cM_brokenClose (l : Launch) (D : va_G) (cI cZ : ClassId) (a : Nat → Nat) (z0 z' : kb_S) (r : Int32) (sz : Nat) (x1 : Int32) (x2 : Int32) (h : pM_brokenClose x1 x2 z0 = some (r, z')) : Met l y_M_brokenClose (Cond.code y_M_brokenClose c_M_brokenClose 4 (some .int) :: wsB) rm_M_brokenClose (kb_Pc D vwCl [(cI, .int), (cZ, .boolean)] sz [.ref (a 0), .int x1, .int x2] (mW cI cZ a z0)) (kb_Qi D vwCl sz (mW cI cZ a z0) r (mW cI cZ a z')) 0 0 (va_A (mW cI cZ a z0) sz) := by
  refine kb_start (by decide) rfl (Nat.le_of_ble_eq_true rfl) ?_
  intro p e s m args below meth c A ls S hr hlk hsz hA w hl
  have hl : lv_has ls 4 [(0, .ref (a 0)), (1, .int x1), (2, .int x2)] := hl
  unfold pM_brokenClose at h
  refine lv_bipush (v := 8) S.1 S.2.1 dM_brokenClose_0 (by decide) ?_
  refine lv_iload_n S.1 S.2.1 dM_brokenClose_2 rfl (lv_at hl 1 rfl) ?_
  refine lv_imul S.1 S.2.1 dM_brokenClose_3 ?_
  refine lv_iload_n S.1 S.2.1 dM_brokenClose_4 rfl (lv_at hl 2 rfl) ?_
  refine lv_iadd S.1 S.2.1 dM_brokenClose_5 ?_
  refine lv_istore_n S.1 S.2.1 dM_brokenClose_6 rfl hl (by decide) rfl (fun ls hl => ?_)
  have hl : lv_has ls 4 [(3, .int ((8 * x1) + x2)), (0, .ref (a 0)), (1, .int x1), (2, .int x2)] := hl
  refine lv_aload_n S.1 S.2.1 dM_brokenClose_7 rfl (lv_at hl 1 rfl) ?_
  refine kb_get S w 0 rfl fM_13 rfl dM_brokenClose_8 ?_
  refine W.eq (g2 := F0 m 11 ls [.ref (a 2)]) rfl ?_
  refine lv_iload_n S.1 S.2.1 dM_brokenClose_11 rfl (lv_at hl 0 rfl) ?_
  obtain ⟨hi1, h⟩ := kb_ck_of h
  refine kb_iald S w 2 0 rfl rfl hi1 dM_brokenClose_12 ?_
  refine W.eq (g2 := F0 m 13 ls [.int (z0 2 (kb_ix ((8 * x1) + x2)))]) rfl ?_
  refine lv_if_ge (tgt := 19) S.1 S.2.1 dM_brokenClose_13 (by decide) (fun hc => ?_) (fun hc => ?_)
  · have h := (kb_brt hc).symm.trans h
    refine lv_aload_n S.1 S.2.1 dM_brokenClose_19 rfl (lv_at hl 1 rfl) ?_
    refine lv_iload_n S.1 S.2.1 dM_brokenClose_20 rfl (lv_at hl 2 rfl) ?_
    refine lv_aload_n S.1 S.2.1 dM_brokenClose_21 rfl (lv_at hl 1 rfl) ?_
    refine kb_get S w 0 rfl fM_16 rfl dM_brokenClose_22 ?_
    refine W.eq (g2 := F0 m 25 ls [.ref (a 3), .int x1, .ref (a 0)]) rfl ?_
    refine lv_iload_n S.1 S.2.1 dM_brokenClose_25 rfl (lv_at hl 0 rfl) ?_
    obtain ⟨hi2, h⟩ := kb_ck_of h
    refine kb_iald S w 3 0 rfl rfl hi2 dM_brokenClose_26 ?_
    refine W.eq (g2 := F0 m 27 ls [.int (z0 3 (kb_ix ((8 * x1) + x2))), .int x1, .ref (a 0)]) rfl ?_
    refine lv_iconst (v := 2) S.1 S.2.1 dM_brokenClose_27 (by decide) ?_
    obtain ⟨r4, z3, hc5, h⟩ := kb_cl_of h
    refine kb_calli (As := [.int x1, .int (z0 3 (kb_ix ((8 * x1) + x2))), .int 2]) (rest := []) (q0 := 0) (ci := 3) S w (fun sz => cM_early l D cI cZ a _ _ _ sz x1 (z0 3 (kb_ix ((8 * x1) + x2))) 2 hc5) Y_M_early I_M_early S_M_early lM_84 ⟨rfl, rfl, Nat.le_of_ble_eq_true rfl, Nat.le_of_ble_eq_true rfl⟩ rfl rfl rfl rfl hl.1 rfl (Nat.le_of_ble_eq_true rfl) dM_brokenClose_28 ⟨Nat.le_of_ble_eq_true rfl, Nat.le_of_ble_eq_true rfl⟩ (fun H locs w => ?_)
    refine lv_if_eq (tgt := 37) S.1 S.2.1 dM_brokenClose_31 (by decide) (fun hc => ?_) (fun hc => ?_)
    · have h := (kb_brt hc).symm.trans h
      refine lv_aload_n S.1 S.2.1 dM_brokenClose_37 rfl (lv_at hl 1 rfl) ?_
      refine lv_iload_n S.1 S.2.1 dM_brokenClose_38 rfl (lv_at hl 2 rfl) ?_
      refine lv_aload_n S.1 S.2.1 dM_brokenClose_39 rfl (lv_at hl 1 rfl) ?_
      refine kb_get S w 0 rfl fM_25 rfl dM_brokenClose_40 ?_
      refine W.eq (g2 := F0 m 43 ls [.ref (a 6), .int x1, .ref (a 0)]) rfl ?_
      refine lv_iload_n S.1 S.2.1 dM_brokenClose_43 rfl (lv_at hl 0 rfl) ?_
      obtain ⟨hi6, h⟩ := kb_ck_of h
      refine kb_iald S w 6 0 rfl rfl hi6 dM_brokenClose_44 ?_
      refine W.eq (g2 := F0 m 45 ls [.int (z3 6 (kb_ix ((8 * x1) + x2))), .int x1, .ref (a 0)]) rfl ?_
      refine lv_iconst (v := 4) S.1 S.2.1 dM_brokenClose_45 (by decide) ?_
      obtain ⟨r8, z7, hc9, h⟩ := kb_cl_of h
      refine kb_calli (As := [.int x1, .int (z3 6 (kb_ix ((8 * x1) + x2))), .int 4]) (rest := []) (q0 := 0) (ci := 3) S w (fun sz => cM_early l D cI cZ a _ _ _ sz x1 (z3 6 (kb_ix ((8 * x1) + x2))) 4 hc9) Y_M_early I_M_early S_M_early lM_84 ⟨rfl, rfl, Nat.le_of_ble_eq_true rfl, Nat.le_of_ble_eq_true rfl⟩ rfl rfl rfl rfl hl.1 rfl (Nat.le_of_ble_eq_true rfl) dM_brokenClose_46 ⟨Nat.le_of_ble_eq_true rfl, Nat.le_of_ble_eq_true rfl⟩ (fun H locs w => ?_)
      refine lv_if_eq (tgt := 55) S.1 S.2.1 dM_brokenClose_49 (by decide) (fun hc => ?_) (fun hc => ?_)
      · have h := (kb_brt hc).symm.trans h
        refine lv_aload_n S.1 S.2.1 dM_brokenClose_55 rfl (lv_at hl 1 rfl) ?_
        refine lv_iload_n S.1 S.2.1 dM_brokenClose_56 rfl (lv_at hl 2 rfl) ?_
        refine lv_aload_n S.1 S.2.1 dM_brokenClose_57 rfl (lv_at hl 1 rfl) ?_
        refine kb_get S w 0 rfl fM_22 rfl dM_brokenClose_58 ?_
        refine W.eq (g2 := F0 m 61 ls [.ref (a 5), .int x1, .ref (a 0)]) rfl ?_
        refine lv_iload_n S.1 S.2.1 dM_brokenClose_61 rfl (lv_at hl 0 rfl) ?_
        obtain ⟨hi10, h⟩ := kb_ck_of h
        refine kb_iald S w 5 0 rfl rfl hi10 dM_brokenClose_62 ?_
        refine W.eq (g2 := F0 m 63 ls [.int (z7 5 (kb_ix ((8 * x1) + x2))), .int x1, .ref (a 0)]) rfl ?_
        refine lv_iconst (v := 5) S.1 S.2.1 dM_brokenClose_63 (by decide) ?_
        obtain ⟨r12, z11, hc13, h⟩ := kb_cl_of h
        refine kb_calli (As := [.int x1, .int (z7 5 (kb_ix ((8 * x1) + x2))), .int 5]) (rest := []) (q0 := 0) (ci := 3) S w (fun sz => cM_early l D cI cZ a _ _ _ sz x1 (z7 5 (kb_ix ((8 * x1) + x2))) 5 hc13) Y_M_early I_M_early S_M_early lM_84 ⟨rfl, rfl, Nat.le_of_ble_eq_true rfl, Nat.le_of_ble_eq_true rfl⟩ rfl rfl rfl rfl hl.1 rfl (Nat.le_of_ble_eq_true rfl) dM_brokenClose_64 ⟨Nat.le_of_ble_eq_true rfl, Nat.le_of_ble_eq_true rfl⟩ (fun H locs w => ?_)
        refine lv_if_eq (tgt := 75) S.1 S.2.1 dM_brokenClose_67 (by decide) (fun hc => ?_) (fun hc => ?_)
        · have h := (kb_brt hc).symm.trans h
          refine lv_iconst (v := 0) S.1 S.2.1 dM_brokenClose_75 (by decide) ?_
          exact kb_iret (mW cI cZ a) S hr hlk hA w h dM_brokenClose_76
        · have h := (kb_brf hc).symm.trans h
          refine lv_bipush (v := 10) S.1 S.2.1 dM_brokenClose_70 (by decide) ?_
          refine lv_goto (tgt := 76) S.1 S.2.1 dM_brokenClose_72 (by decide) ?_
          exact kb_iret (mW cI cZ a) S hr hlk hA w h dM_brokenClose_76
      · have h := (kb_brf hc).symm.trans h
        refine lv_bipush (v := 9) S.1 S.2.1 dM_brokenClose_52 (by decide) ?_
        exact kb_iret (mW cI cZ a) S hr hlk hA w h dM_brokenClose_54
    · have h := (kb_brf hc).symm.trans h
      refine lv_bipush (v := 8) S.1 S.2.1 dM_brokenClose_34 (by decide) ?_
      exact kb_iret (mW cI cZ a) S hr hlk hA w h dM_brokenClose_36
  · have h := (kb_brf hc).symm.trans h
    refine lv_bipush (v := 7) S.1 S.2.1 dM_brokenClose_16 (by decide) ?_
    exact kb_iret (mW cI cZ a) S hr hlk hA w h dM_brokenClose_18
set_option maxHeartbeats 4000000 in
set_option maxRecDepth 100000 in
theorem cM_brokenUse (l : Launch) (D : va_G) (cI cZ : ClassId) (a : Nat → Nat) (z0 z' : kb_S) (r : Int32) (sz : Nat) (x1 : Int32) (x2 : Int32) (x3 : Int32) (h : pM_brokenUse x1 x2 x3 z0 = some (r, z')) : Met l y_M_brokenUse (Cond.code y_M_brokenUse c_M_brokenUse 7 (some .int) :: wsB) rm_M_brokenUse (kb_Pc D vwCl [(cI, .int), (cZ, .boolean)] sz [.ref (a 0), .int x1, .int x2, .int x3] (mW cI cZ a z0)) (kb_Qi D vwCl sz (mW cI cZ a z0) r (mW cI cZ a z')) 0 0 (va_A (mW cI cZ a z0) sz) := by
  refine kb_start (by decide) rfl (Nat.le_of_ble_eq_true rfl) ?_
  intro p e s m args below meth c A ls S hr hlk hsz hA w hl
  have hl : lv_has ls 7 [(0, .ref (a 0)), (1, .int x1), (2, .int x2), (3, .int x3)] := hl
  unfold pM_brokenUse at h
  have L17 : ∀ (n : Nat) (x1 : Int32) (x3 : Int32) (x4 : Int32) (x5 : Int32) (x6 : Int32) (z : kb_S) (H : Heap) (locs : List Loc) (ls : Array Slot), lv_has ls 7 [(0, .ref (a 0)), (1, .int x1), (3, .int x3), (4, .int x4), (5, .int x5), (6, .int x6)] → kb_W D vwCl [(cI, .int), (cZ, .boolean)] A s H locs (mW cI cZ a z) → pM_brokenUse_L17 n x1 x3 x4 x5 x6 z = some (r, z') → W p l e rm_M_brokenUse s m args below meth c H locs 0 0 (MQ below (kb_Qi D vwCl sz (mW cI cZ a z0) r (mW cI cZ a z')) args s 0 0 (va_A (mW cI cZ a z0) sz)) (F0 m 17 ls []) := by
    intro n
    induction n with
    | zero =>
      intro x1 x3 x4 x5 x6 z H locs ls hl w h
      exact absurd h (by simp [pM_brokenUse_L17])
    | succ n ih =>
      intro x1 x3 x4 x5 x6 z H locs ls hl w h
      rw [pM_brokenUse_L17] at h
      refine lv_iload S.1 S.2.1 dM_brokenUse_17 (lv_at hl 5 rfl) ?_
      refine lv_bipush (v := 8) S.1 S.2.1 dM_brokenUse_19 (by decide) ?_
      refine lv_iload_n S.1 S.2.1 dM_brokenUse_21 rfl (lv_at hl 1 rfl) ?_
      refine lv_imul S.1 S.2.1 dM_brokenUse_22 ?_
      refine lv_bipush (v := 8) S.1 S.2.1 dM_brokenUse_23 (by decide) ?_
      refine lv_iadd S.1 S.2.1 dM_brokenUse_25 ?_
      refine lv_icmp_ge (tgt := 87) S.1 S.2.1 dM_brokenUse_26 (by decide) (fun hc => ?_) (fun hc => ?_)
      · have h := (kb_brt hc).symm.trans h
        refine lv_aload_n S.1 S.2.1 dM_brokenUse_87 rfl (lv_at hl 0 rfl) ?_
        refine kb_get S w 0 rfl fM_13 rfl dM_brokenUse_88 ?_
        refine W.eq (g2 := F0 m 91 ls [.ref (a 2)]) rfl ?_
        refine lv_iload S.1 S.2.1 dM_brokenUse_91 (lv_at hl 3 rfl) ?_
        obtain ⟨hi1, h⟩ := kb_ck_of h
        refine kb_iald S w 2 0 rfl rfl hi1 dM_brokenUse_93 ?_
        refine W.eq (g2 := F0 m 94 ls [.int (z 2 (kb_ix (x4)))]) rfl ?_
        refine lv_iload_n S.1 S.2.1 dM_brokenUse_94 rfl (lv_at hl 2 rfl) ?_
        refine lv_icmp_eq (tgt := 101) S.1 S.2.1 dM_brokenUse_95 (by decide) (fun hc => ?_) (fun hc => ?_)
        · have h := (kb_brt hc).symm.trans h
          refine lv_aload_n S.1 S.2.1 dM_brokenUse_101 rfl (lv_at hl 0 rfl) ?_
          refine lv_iload_n S.1 S.2.1 dM_brokenUse_102 rfl (lv_at hl 1 rfl) ?_
          refine lv_aload_n S.1 S.2.1 dM_brokenUse_103 rfl (lv_at hl 0 rfl) ?_
          refine kb_get S w 0 rfl fM_16 rfl dM_brokenUse_104 ?_
          refine W.eq (g2 := F0 m 107 ls [.ref (a 3), .int x1, .ref (a 0)]) rfl ?_
          refine lv_iload S.1 S.2.1 dM_brokenUse_107 (lv_at hl 3 rfl) ?_
          obtain ⟨hi2, h⟩ := kb_ck_of h
          refine kb_iald S w 3 0 rfl rfl hi2 dM_brokenUse_109 ?_
          refine W.eq (g2 := F0 m 110 ls [.int (z 3 (kb_ix (x4))), .int x1, .ref (a 0)]) rfl ?_
          refine lv_iconst (v := 0) S.1 S.2.1 dM_brokenUse_110 (by decide) ?_
          obtain ⟨r4, z3, hc5, h⟩ := kb_cl_of h
          refine kb_calli (As := [.int x1, .int (z 3 (kb_ix (x4))), .int 0]) (rest := []) (q0 := 0) (ci := 3) S w (fun sz => cM_early l D cI cZ a _ _ _ sz x1 (z 3 (kb_ix (x4))) 0 hc5) Y_M_early I_M_early S_M_early lM_84 ⟨rfl, rfl, Nat.le_of_ble_eq_true rfl, Nat.le_of_ble_eq_true rfl⟩ rfl rfl rfl rfl hl.1 rfl (Nat.le_of_ble_eq_true rfl) dM_brokenUse_111 ⟨Nat.le_of_ble_eq_true rfl, Nat.le_of_ble_eq_true rfl⟩ (fun H locs w => ?_)
          refine lv_if_eq (tgt := 120) S.1 S.2.1 dM_brokenUse_114 (by decide) (fun hc => ?_) (fun hc => ?_)
          · have h := (kb_brt hc).symm.trans h
            refine lv_aload_n S.1 S.2.1 dM_brokenUse_120 rfl (lv_at hl 0 rfl) ?_
            refine lv_iload_n S.1 S.2.1 dM_brokenUse_121 rfl (lv_at hl 1 rfl) ?_
            refine lv_iload S.1 S.2.1 dM_brokenUse_122 (lv_at hl 4 rfl) ?_
            refine lv_bipush (v := 6) S.1 S.2.1 dM_brokenUse_124 (by decide) ?_
            obtain ⟨r7, z6, hc8, h⟩ := kb_cl_of h
            refine kb_calli (As := [.int x1, .int x5, .int 6]) (rest := []) (q0 := 0) (ci := 3) S w (fun sz => cM_early l D cI cZ a _ _ _ sz x1 x5 6 hc8) Y_M_early I_M_early S_M_early lM_84 ⟨rfl, rfl, Nat.le_of_ble_eq_true rfl, Nat.le_of_ble_eq_true rfl⟩ rfl rfl rfl rfl hl.1 rfl (Nat.le_of_ble_eq_true rfl) dM_brokenUse_126 ⟨Nat.le_of_ble_eq_true rfl, Nat.le_of_ble_eq_true rfl⟩ (fun H locs w => ?_)
            refine lv_if_eq (tgt := 137) S.1 S.2.1 dM_brokenUse_129 (by decide) (fun hc => ?_) (fun hc => ?_)
            · have h := (kb_brt hc).symm.trans h
              refine lv_iconst (v := 0) S.1 S.2.1 dM_brokenUse_137 (by decide) ?_
              exact kb_iret (mW cI cZ a) S hr hlk hA w h dM_brokenUse_138
            · have h := (kb_brf hc).symm.trans h
              refine lv_bipush (v := 13) S.1 S.2.1 dM_brokenUse_132 (by decide) ?_
              refine lv_goto (tgt := 138) S.1 S.2.1 dM_brokenUse_134 (by decide) ?_
              exact kb_iret (mW cI cZ a) S hr hlk hA w h dM_brokenUse_138
          · have h := (kb_brf hc).symm.trans h
            refine lv_bipush (v := 12) S.1 S.2.1 dM_brokenUse_117 (by decide) ?_
            exact kb_iret (mW cI cZ a) S hr hlk hA w h dM_brokenUse_119
        · have h := (kb_brf hc).symm.trans h
          refine lv_bipush (v := 11) S.1 S.2.1 dM_brokenUse_98 (by decide) ?_
          exact kb_iret (mW cI cZ a) S hr hlk hA w h dM_brokenUse_100
      · have h := (kb_brf hc).symm.trans h
        refine lv_aload_n S.1 S.2.1 dM_brokenUse_29 rfl (lv_at hl 0 rfl) ?_
        refine kb_get S w 0 rfl fM_22 rfl dM_brokenUse_30 ?_
        refine W.eq (g2 := F0 m 33 ls [.ref (a 5)]) rfl ?_
        refine lv_iload S.1 S.2.1 dM_brokenUse_33 (lv_at hl 5 rfl) ?_
        obtain ⟨hi9, h⟩ := kb_ck_of h
        refine kb_iald S w 5 0 rfl rfl hi9 dM_brokenUse_35 ?_
        refine W.eq (g2 := F0 m 36 ls [.int (z 5 (kb_ix (x6)))]) rfl ?_
        refine lv_iload S.1 S.2.1 dM_brokenUse_36 (lv_at hl 4 rfl) ?_
        refine lv_icmp_le (tgt := 51) S.1 S.2.1 dM_brokenUse_38 (by decide) (fun hc => ?_) (fun hc => ?_)
        · have h := (kb_brt hc).symm.trans h
          refine lv_iload S.1 S.2.1 dM_brokenUse_51 (lv_at hl 4 rfl) ?_
          refine lv_istore S.1 S.2.1 dM_brokenUse_53 hl (by decide) rfl (fun ls hl => ?_)
          have hl : lv_has ls 7 [(5, .int x5), (0, .ref (a 0)), (1, .int x1), (3, .int x3), (4, .int x4), (6, .int x6)] := hl
          refine lv_aload_n S.1 S.2.1 dM_brokenUse_55 rfl (lv_at hl 1 rfl) ?_
          refine kb_get S w 0 rfl fM_25 rfl dM_brokenUse_56 ?_
          refine W.eq (g2 := F0 m 59 ls [.ref (a 6)]) rfl ?_
          refine lv_iload S.1 S.2.1 dM_brokenUse_59 (lv_at hl 5 rfl) ?_
          obtain ⟨hi10, h⟩ := kb_ck_of h
          refine kb_iald S w 6 0 rfl rfl hi10 dM_brokenUse_61 ?_
          refine W.eq (g2 := F0 m 62 ls [.int (z 6 (kb_ix (x6)))]) rfl ?_
          refine lv_iload S.1 S.2.1 dM_brokenUse_62 (lv_at hl 0 rfl) ?_
          refine lv_icmp_le (tgt := 77) S.1 S.2.1 dM_brokenUse_64 (by decide) (fun hc => ?_) (fun hc => ?_)
          · have h := (kb_brt hc).symm.trans h
            refine lv_iload S.1 S.2.1 dM_brokenUse_77 (lv_at hl 0 rfl) ?_
            refine lv_istore S.1 S.2.1 dM_brokenUse_79 hl (by decide) rfl (fun ls hl => ?_)
            have hl : lv_has ls 7 [(5, .int x5), (0, .ref (a 0)), (1, .int x1), (3, .int x3), (4, .int x4), (6, .int x6)] := hl
            refine lv_iinc (v := x6 + 1) (k := 5) S.1 S.2.1 dM_brokenUse_81 hl rfl rfl (by decide) rfl (fun ls hl => ?_)
            have hl : lv_has ls 7 [(6, .int (x6 + 1)), (5, .int x5), (0, .ref (a 0)), (1, .int x1), (3, .int x3), (4, .int x4)] := hl
            refine lv_goto (tgt := 17) S.1 S.2.1 dM_brokenUse_84 (by decide) ?_
            exact ih x1 x3 x4 x5 (x6 + 1) z _ _ _ (lv_sub hl [2, 3, 4, 5, 1, 0] rfl) w h
          · have h := (kb_brf hc).symm.trans h
            refine lv_aload_n S.1 S.2.1 dM_brokenUse_67 rfl (lv_at hl 1 rfl) ?_
            refine kb_get S w 0 rfl fM_25 rfl dM_brokenUse_68 ?_
            refine W.eq (g2 := F0 m 71 ls [.ref (a 6)]) rfl ?_
            refine lv_iload S.1 S.2.1 dM_brokenUse_71 (lv_at hl 5 rfl) ?_
            obtain ⟨hi11, h⟩ := kb_ck_of h
            refine kb_iald S w 6 0 rfl rfl hi11 dM_brokenUse_73 ?_
            refine W.eq (g2 := F0 m 74 ls [.int (z 6 (kb_ix (x6)))]) rfl ?_
            refine lv_goto (tgt := 79) S.1 S.2.1 dM_brokenUse_74 (by decide) ?_
            refine lv_istore S.1 S.2.1 dM_brokenUse_79 hl (by decide) rfl (fun ls hl => ?_)
            have hl : lv_has ls 7 [(5, .int (z 6 (kb_ix (x6)))), (0, .ref (a 0)), (1, .int x1), (3, .int x3), (4, .int x4), (6, .int x6)] := hl
            refine lv_iinc (v := x6 + 1) (k := 5) S.1 S.2.1 dM_brokenUse_81 hl rfl rfl (by decide) rfl (fun ls hl => ?_)
            have hl : lv_has ls 7 [(6, .int (x6 + 1)), (5, .int (z 6 (kb_ix (x6)))), (0, .ref (a 0)), (1, .int x1), (3, .int x3), (4, .int x4)] := hl
            refine lv_goto (tgt := 17) S.1 S.2.1 dM_brokenUse_84 (by decide) ?_
            exact ih x1 x3 x4 (z 6 (kb_ix (x6))) (x6 + 1) z _ _ _ (lv_sub hl [2, 3, 4, 5, 1, 0] rfl) w h
        · have h := (kb_brf hc).symm.trans h
          refine lv_aload_n S.1 S.2.1 dM_brokenUse_41 rfl (lv_at hl 0 rfl) ?_
          refine kb_get S w 0 rfl fM_22 rfl dM_brokenUse_42 ?_
          refine W.eq (g2 := F0 m 45 ls [.ref (a 5)]) rfl ?_
          refine lv_iload S.1 S.2.1 dM_brokenUse_45 (lv_at hl 5 rfl) ?_
          obtain ⟨hi12, h⟩ := kb_ck_of h
          refine kb_iald S w 5 0 rfl rfl hi12 dM_brokenUse_47 ?_
          refine W.eq (g2 := F0 m 48 ls [.int (z 5 (kb_ix (x6)))]) rfl ?_
          refine lv_goto (tgt := 53) S.1 S.2.1 dM_brokenUse_48 (by decide) ?_
          refine lv_istore S.1 S.2.1 dM_brokenUse_53 hl (by decide) rfl (fun ls hl => ?_)
          have hl : lv_has ls 7 [(5, .int (z 5 (kb_ix (x6)))), (0, .ref (a 0)), (1, .int x1), (3, .int x3), (4, .int x4), (6, .int x6)] := hl
          refine lv_aload_n S.1 S.2.1 dM_brokenUse_55 rfl (lv_at hl 1 rfl) ?_
          refine kb_get S w 0 rfl fM_25 rfl dM_brokenUse_56 ?_
          refine W.eq (g2 := F0 m 59 ls [.ref (a 6)]) rfl ?_
          refine lv_iload S.1 S.2.1 dM_brokenUse_59 (lv_at hl 5 rfl) ?_
          obtain ⟨hi13, h⟩ := kb_ck_of h
          refine kb_iald S w 6 0 rfl rfl hi13 dM_brokenUse_61 ?_
          refine W.eq (g2 := F0 m 62 ls [.int (z 6 (kb_ix (x6)))]) rfl ?_
          refine lv_iload S.1 S.2.1 dM_brokenUse_62 (lv_at hl 0 rfl) ?_
          refine lv_icmp_le (tgt := 77) S.1 S.2.1 dM_brokenUse_64 (by decide) (fun hc => ?_) (fun hc => ?_)
          · have h := (kb_brt hc).symm.trans h
            refine lv_iload S.1 S.2.1 dM_brokenUse_77 (lv_at hl 0 rfl) ?_
            refine lv_istore S.1 S.2.1 dM_brokenUse_79 hl (by decide) rfl (fun ls hl => ?_)
            have hl : lv_has ls 7 [(5, .int (z 5 (kb_ix (x6)))), (0, .ref (a 0)), (1, .int x1), (3, .int x3), (4, .int x4), (6, .int x6)] := hl
            refine lv_iinc (v := x6 + 1) (k := 5) S.1 S.2.1 dM_brokenUse_81 hl rfl rfl (by decide) rfl (fun ls hl => ?_)
            have hl : lv_has ls 7 [(6, .int (x6 + 1)), (5, .int (z 5 (kb_ix (x6)))), (0, .ref (a 0)), (1, .int x1), (3, .int x3), (4, .int x4)] := hl
            refine lv_goto (tgt := 17) S.1 S.2.1 dM_brokenUse_84 (by decide) ?_
            exact ih x1 x3 x4 (z 5 (kb_ix (x6))) (x6 + 1) z _ _ _ (lv_sub hl [2, 3, 4, 5, 1, 0] rfl) w h
          · have h := (kb_brf hc).symm.trans h
            refine lv_aload_n S.1 S.2.1 dM_brokenUse_67 rfl (lv_at hl 1 rfl) ?_
            refine kb_get S w 0 rfl fM_25 rfl dM_brokenUse_68 ?_
            refine W.eq (g2 := F0 m 71 ls [.ref (a 6)]) rfl ?_
            refine lv_iload S.1 S.2.1 dM_brokenUse_71 (lv_at hl 5 rfl) ?_
            obtain ⟨hi14, h⟩ := kb_ck_of h
            refine kb_iald S w 6 0 rfl rfl hi14 dM_brokenUse_73 ?_
            refine W.eq (g2 := F0 m 74 ls [.int (z 6 (kb_ix (x6)))]) rfl ?_
            refine lv_goto (tgt := 79) S.1 S.2.1 dM_brokenUse_74 (by decide) ?_
            refine lv_istore S.1 S.2.1 dM_brokenUse_79 hl (by decide) rfl (fun ls hl => ?_)
            have hl : lv_has ls 7 [(5, .int (z 6 (kb_ix (x6)))), (0, .ref (a 0)), (1, .int x1), (3, .int x3), (4, .int x4), (6, .int x6)] := hl
            refine lv_iinc (v := x6 + 1) (k := 5) S.1 S.2.1 dM_brokenUse_81 hl rfl rfl (by decide) rfl (fun ls hl => ?_)
            have hl : lv_has ls 7 [(6, .int (x6 + 1)), (5, .int (z 6 (kb_ix (x6)))), (0, .ref (a 0)), (1, .int x1), (3, .int x3), (4, .int x4)] := hl
            refine lv_goto (tgt := 17) S.1 S.2.1 dM_brokenUse_84 (by decide) ?_
            exact ih x1 x3 x4 (z 6 (kb_ix (x6))) (x6 + 1) z _ _ _ (lv_sub hl [2, 3, 4, 5, 1, 0] rfl) w h
  refine lv_bipush (v := 8) S.1 S.2.1 dM_brokenUse_0 (by decide) ?_
  refine lv_iload_n S.1 S.2.1 dM_brokenUse_2 rfl (lv_at hl 1 rfl) ?_
  refine lv_imul S.1 S.2.1 dM_brokenUse_3 ?_
  refine lv_iload_n S.1 S.2.1 dM_brokenUse_4 rfl (lv_at hl 2 rfl) ?_
  refine lv_iadd S.1 S.2.1 dM_brokenUse_5 ?_
  refine lv_istore S.1 S.2.1 dM_brokenUse_6 hl (by decide) rfl (fun ls hl => ?_)
  have hl : lv_has ls 7 [(4, .int ((8 * x1) + x2)), (0, .ref (a 0)), (1, .int x1), (2, .int x2), (3, .int x3)] := hl
  refine lv_iconst (v := (-1)) S.1 S.2.1 dM_brokenUse_8 (by decide) ?_
  refine lv_istore S.1 S.2.1 dM_brokenUse_9 hl (by decide) rfl (fun ls hl => ?_)
  have hl : lv_has ls 7 [(5, .int ((-1))), (4, .int ((8 * x1) + x2)), (0, .ref (a 0)), (1, .int x1), (2, .int x2), (3, .int x3)] := hl
  refine lv_bipush (v := 8) S.1 S.2.1 dM_brokenUse_11 (by decide) ?_
  refine lv_iload_n S.1 S.2.1 dM_brokenUse_13 rfl (lv_at hl 3 rfl) ?_
  refine lv_imul S.1 S.2.1 dM_brokenUse_14 ?_
  refine lv_istore S.1 S.2.1 dM_brokenUse_15 hl (by decide) rfl (fun ls hl => ?_)
  have hl : lv_has ls 7 [(6, .int (8 * x1)), (5, .int ((-1))), (4, .int ((8 * x1) + x2)), (0, .ref (a 0)), (1, .int x1), (2, .int x2), (3, .int x3)] := hl
  exact L17 3000 x1 x3 ((8 * x1) + x2) (-1) (8 * x1) z0 _ _ _ (lv_sub hl [3, 4, 6, 2, 1, 0] rfl) w h
set_option maxHeartbeats 4000000 in
set_option maxRecDepth 100000 in
theorem cM_brokenRefresh (l : Launch) (D : va_G) (cI cZ : ClassId) (a : Nat → Nat) (z0 z' : kb_S) (r : Int32) (sz : Nat) (x1 : Int32) (h : pM_brokenRefresh x1 z0 = some (r, z')) : Met l y_M_brokenRefresh (Cond.code y_M_brokenRefresh c_M_brokenRefresh 5 (some .int) :: wsB) rm_M_brokenRefresh (kb_Pc D vwCl [(cI, .int), (cZ, .boolean)] sz [.ref (a 0), .int x1] (mW cI cZ a z0)) (kb_Qi D vwCl sz (mW cI cZ a z0) r (mW cI cZ a z')) 0 0 (va_A (mW cI cZ a z0) sz) := by
  refine kb_start (by decide) rfl (Nat.le_of_ble_eq_true rfl) ?_
  intro p e s m args below meth c A ls S hr hlk hsz hA w hl
  have hl : lv_has ls 5 [(0, .ref (a 0)), (1, .int x1)] := hl
  unfold pM_brokenRefresh at h
  have L10 : ∀ (n : Nat) (x1 : Int32) (x2 : Int32) (x3 : Int32) (x4 : Int32) (z : kb_S) (H : Heap) (locs : List Loc) (ls : Array Slot), lv_has ls 5 [(0, .ref (a 0)), (1, .int x1), (2, .int x2), (3, .int x3), (4, .int x4)] → kb_W D vwCl [(cI, .int), (cZ, .boolean)] A s H locs (mW cI cZ a z) → pM_brokenRefresh_L10 n x1 x2 x3 x4 z = some (r, z') → W p l e rm_M_brokenRefresh s m args below meth c H locs 0 0 (MQ below (kb_Qi D vwCl sz (mW cI cZ a z0) r (mW cI cZ a z')) args s 0 0 (va_A (mW cI cZ a z0) sz)) (F0 m 10 ls []) := by
    intro n
    induction n with
    | zero =>
      intro x1 x2 x3 x4 z H locs ls hl w h
      exact absurd h (by simp [pM_brokenRefresh_L10])
    | succ n ih =>
      intro x1 x2 x3 x4 z H locs ls hl w h
      rw [pM_brokenRefresh_L10] at h
      refine lv_iload S.1 S.2.1 dM_brokenRefresh_10 (lv_at hl 4 rfl) ?_
      refine lv_bipush (v := 8) S.1 S.2.1 dM_brokenRefresh_12 (by decide) ?_
      refine lv_iload_n S.1 S.2.1 dM_brokenRefresh_14 rfl (lv_at hl 1 rfl) ?_
      refine lv_imul S.1 S.2.1 dM_brokenRefresh_15 ?_
      refine lv_bipush (v := 8) S.1 S.2.1 dM_brokenRefresh_16 (by decide) ?_
      refine lv_iadd S.1 S.2.1 dM_brokenRefresh_18 ?_
      refine lv_icmp_ge (tgt := 74) S.1 S.2.1 dM_brokenRefresh_19 (by decide) (fun hc => ?_) (fun hc => ?_)
      · have h := (kb_brt hc).symm.trans h
        refine lv_iload_n S.1 S.2.1 dM_brokenRefresh_74 rfl (lv_at hl 2 rfl) ?_
        refine lv_if_eq (tgt := 83) S.1 S.2.1 dM_brokenRefresh_75 (by decide) (fun hc => ?_) (fun hc => ?_)
        · have h := (kb_brt hc).symm.trans h
          refine lv_iload_n S.1 S.2.1 dM_brokenRefresh_83 rfl (lv_at hl 3 rfl) ?_
          refine lv_if_eq (tgt := 92) S.1 S.2.1 dM_brokenRefresh_84 (by decide) (fun hc => ?_) (fun hc => ?_)
          · have h := (kb_brt hc).symm.trans h
            refine lv_aload_n S.1 S.2.1 dM_brokenRefresh_92 rfl (lv_at hl 0 rfl) ?_
            refine lv_iload_n S.1 S.2.1 dM_brokenRefresh_93 rfl (lv_at hl 1 rfl) ?_
            refine lv_aload_n S.1 S.2.1 dM_brokenRefresh_94 rfl (lv_at hl 0 rfl) ?_
            refine kb_get S w 0 rfl fM_31 rfl dM_brokenRefresh_95 ?_
            refine W.eq (g2 := F0 m 98 ls [.ref (a 8), .int x1, .ref (a 0)]) rfl ?_
            refine lv_iload_n S.1 S.2.1 dM_brokenRefresh_98 rfl (lv_at hl 1 rfl) ?_
            obtain ⟨hi1, h⟩ := kb_ck_of h
            refine kb_iald S w 8 0 rfl rfl hi1 dM_brokenRefresh_99 ?_
            refine W.eq (g2 := F0 m 100 ls [.int (z 8 (kb_ix (x1))), .int x1, .ref (a 0)]) rfl ?_
            refine lv_bipush (v := 9) S.1 S.2.1 dM_brokenRefresh_100 (by decide) ?_
            obtain ⟨r3, z2, hc4, h⟩ := kb_cl_of h
            refine kb_calli (As := [.int x1, .int (z 8 (kb_ix (x1))), .int 9]) (rest := []) (q0 := 0) (ci := 3) S w (fun sz => cM_early l D cI cZ a _ _ _ sz x1 (z 8 (kb_ix (x1))) 9 hc4) Y_M_early I_M_early S_M_early lM_84 ⟨rfl, rfl, Nat.le_of_ble_eq_true rfl, Nat.le_of_ble_eq_true rfl⟩ rfl rfl rfl rfl hl.1 rfl (Nat.le_of_ble_eq_true rfl) dM_brokenRefresh_102 ⟨Nat.le_of_ble_eq_true rfl, Nat.le_of_ble_eq_true rfl⟩ (fun H locs w => ?_)
            refine lv_if_eq (tgt := 113) S.1 S.2.1 dM_brokenRefresh_105 (by decide) (fun hc => ?_) (fun hc => ?_)
            · have h := (kb_brt hc).symm.trans h
              refine lv_iconst (v := 0) S.1 S.2.1 dM_brokenRefresh_113 (by decide) ?_
              exact kb_iret (mW cI cZ a) S hr hlk hA w h dM_brokenRefresh_114
            · have h := (kb_brf hc).symm.trans h
              refine lv_bipush (v := 16) S.1 S.2.1 dM_brokenRefresh_108 (by decide) ?_
              refine lv_goto (tgt := 114) S.1 S.2.1 dM_brokenRefresh_110 (by decide) ?_
              exact kb_iret (mW cI cZ a) S hr hlk hA w h dM_brokenRefresh_114
          · have h := (kb_brf hc).symm.trans h
            refine lv_bipush (v := 15) S.1 S.2.1 dM_brokenRefresh_87 (by decide) ?_
            refine lv_goto (tgt := 114) S.1 S.2.1 dM_brokenRefresh_89 (by decide) ?_
            exact kb_iret (mW cI cZ a) S hr hlk hA w h dM_brokenRefresh_114
        · have h := (kb_brf hc).symm.trans h
          refine lv_bipush (v := 14) S.1 S.2.1 dM_brokenRefresh_78 (by decide) ?_
          refine lv_goto (tgt := 114) S.1 S.2.1 dM_brokenRefresh_80 (by decide) ?_
          exact kb_iret (mW cI cZ a) S hr hlk hA w h dM_brokenRefresh_114
      · have h := (kb_brf hc).symm.trans h
        refine lv_iload_n S.1 S.2.1 dM_brokenRefresh_22 rfl (lv_at hl 2 rfl) ?_
        refine lv_if_ne (tgt := 36) S.1 S.2.1 dM_brokenRefresh_23 (by decide) (fun hc => ?_) (fun hc => ?_)
        · have h := (kb_brf hc).symm.trans h
          refine lv_iconst (v := 1) S.1 S.2.1 dM_brokenRefresh_36 (by decide) ?_
          refine lv_goto (tgt := 41) S.1 S.2.1 dM_brokenRefresh_37 (by decide) ?_
          refine lv_istore_n S.1 S.2.1 dM_brokenRefresh_41 rfl hl (by decide) rfl (fun ls hl => ?_)
          have hl : lv_has ls 5 [(2, .int 1), (0, .ref (a 0)), (1, .int x1), (3, .int x3), (4, .int x4)] := hl
          refine lv_iload_n S.1 S.2.1 dM_brokenRefresh_42 rfl (lv_at hl 3 rfl) ?_
          refine lv_if_ne (tgt := 62) S.1 S.2.1 dM_brokenRefresh_43 (by decide) (fun hc => ?_) (fun hc => ?_)
          · have h := (kb_brf hc).symm.trans h
            refine lv_iconst (v := 1) S.1 S.2.1 dM_brokenRefresh_62 (by decide) ?_
            refine lv_goto (tgt := 67) S.1 S.2.1 dM_brokenRefresh_63 (by decide) ?_
            refine lv_istore_n S.1 S.2.1 dM_brokenRefresh_67 rfl hl (by decide) rfl (fun ls hl => ?_)
            have hl : lv_has ls 5 [(3, .int 1), (2, .int 1), (0, .ref (a 0)), (1, .int x1), (4, .int x4)] := hl
            refine lv_iinc (v := x4 + 1) (k := 4) S.1 S.2.1 dM_brokenRefresh_68 hl rfl rfl (by decide) rfl (fun ls hl => ?_)
            have hl : lv_has ls 5 [(4, .int (x4 + 1)), (3, .int 1), (2, .int 1), (0, .ref (a 0)), (1, .int x1)] := hl
            refine lv_goto (tgt := 10) S.1 S.2.1 dM_brokenRefresh_71 (by decide) ?_
            exact ih x1 1 1 (x4 + 1) z _ _ _ (lv_sub hl [3, 4, 2, 1, 0] rfl) w h
          · have h := (kb_brt hc).symm.trans h
            refine lv_aload_n S.1 S.2.1 dM_brokenRefresh_46 rfl (lv_at hl 1 rfl) ?_
            refine lv_iload_n S.1 S.2.1 dM_brokenRefresh_47 rfl (lv_at hl 2 rfl) ?_
            refine lv_aload_n S.1 S.2.1 dM_brokenRefresh_48 rfl (lv_at hl 1 rfl) ?_
            refine kb_get S w 0 rfl fM_19 rfl dM_brokenRefresh_49 ?_
            refine W.eq (g2 := F0 m 52 ls [.ref (a 4), .int x1, .ref (a 0)]) rfl ?_
            refine lv_iload S.1 S.2.1 dM_brokenRefresh_52 (lv_at hl 4 rfl) ?_
            obtain ⟨hi5, h⟩ := kb_ck_of h
            refine kb_iald S w 4 0 rfl rfl hi5 dM_brokenRefresh_54 ?_
            refine W.eq (g2 := F0 m 55 ls [.int (z 4 (kb_ix (x4))), .int x1, .ref (a 0)]) rfl ?_
            refine lv_iconst (v := 1) S.1 S.2.1 dM_brokenRefresh_55 (by decide) ?_
            obtain ⟨r7, z6, hc8, h⟩ := kb_cl_of h
            refine kb_calli (As := [.int x1, .int (z 4 (kb_ix (x4))), .int 1]) (rest := []) (q0 := 0) (ci := 3) S w (fun sz => cM_early l D cI cZ a _ _ _ sz x1 (z 4 (kb_ix (x4))) 1 hc8) Y_M_early I_M_early S_M_early lM_84 ⟨rfl, rfl, Nat.le_of_ble_eq_true rfl, Nat.le_of_ble_eq_true rfl⟩ rfl rfl rfl rfl hl.1 rfl (Nat.le_of_ble_eq_true rfl) dM_brokenRefresh_56 ⟨Nat.le_of_ble_eq_true rfl, Nat.le_of_ble_eq_true rfl⟩ (fun H locs w => ?_)
            refine lv_if_eq (tgt := 66) S.1 S.2.1 dM_brokenRefresh_59 (by decide) (fun hc => ?_) (fun hc => ?_)
            · have h := (kb_brt hc).symm.trans h
              refine lv_iconst (v := 0) S.1 S.2.1 dM_brokenRefresh_66 (by decide) ?_
              refine lv_istore_n S.1 S.2.1 dM_brokenRefresh_67 rfl hl (by decide) rfl (fun ls hl => ?_)
              have hl : lv_has ls 5 [(3, .int 0), (2, .int 1), (0, .ref (a 0)), (1, .int x1), (4, .int x4)] := hl
              refine lv_iinc (v := x4 + 1) (k := 4) S.1 S.2.1 dM_brokenRefresh_68 hl rfl rfl (by decide) rfl (fun ls hl => ?_)
              have hl : lv_has ls 5 [(4, .int (x4 + 1)), (3, .int 0), (2, .int 1), (0, .ref (a 0)), (1, .int x1)] := hl
              refine lv_goto (tgt := 10) S.1 S.2.1 dM_brokenRefresh_71 (by decide) ?_
              exact ih x1 1 0 (x4 + 1) z6 _ _ _ (lv_sub hl [3, 4, 2, 1, 0] rfl) w h
            · have h := (kb_brf hc).symm.trans h
              refine lv_iconst (v := 1) S.1 S.2.1 dM_brokenRefresh_62 (by decide) ?_
              refine lv_goto (tgt := 67) S.1 S.2.1 dM_brokenRefresh_63 (by decide) ?_
              refine lv_istore_n S.1 S.2.1 dM_brokenRefresh_67 rfl hl (by decide) rfl (fun ls hl => ?_)
              have hl : lv_has ls 5 [(3, .int 1), (2, .int 1), (0, .ref (a 0)), (1, .int x1), (4, .int x4)] := hl
              refine lv_iinc (v := x4 + 1) (k := 4) S.1 S.2.1 dM_brokenRefresh_68 hl rfl rfl (by decide) rfl (fun ls hl => ?_)
              have hl : lv_has ls 5 [(4, .int (x4 + 1)), (3, .int 1), (2, .int 1), (0, .ref (a 0)), (1, .int x1)] := hl
              refine lv_goto (tgt := 10) S.1 S.2.1 dM_brokenRefresh_71 (by decide) ?_
              exact ih x1 1 1 (x4 + 1) z6 _ _ _ (lv_sub hl [3, 4, 2, 1, 0] rfl) w h
        · have h := (kb_brt hc).symm.trans h
          refine lv_aload_n S.1 S.2.1 dM_brokenRefresh_26 rfl (lv_at hl 0 rfl) ?_
          refine kb_get S w 0 rfl fM_13 rfl dM_brokenRefresh_27 ?_
          refine W.eq (g2 := F0 m 30 ls [.ref (a 2)]) rfl ?_
          refine lv_iload S.1 S.2.1 dM_brokenRefresh_30 (lv_at hl 4 rfl) ?_
          obtain ⟨hi9, h⟩ := kb_ck_of h
          refine kb_iald S w 2 0 rfl rfl hi9 dM_brokenRefresh_32 ?_
          refine W.eq (g2 := F0 m 33 ls [.int (z 2 (kb_ix (x4)))]) rfl ?_
          refine lv_if_lt (tgt := 40) S.1 S.2.1 dM_brokenRefresh_33 (by decide) (fun hc => ?_) (fun hc => ?_)
          · have h := (kb_brt hc).symm.trans h
            refine lv_iconst (v := 0) S.1 S.2.1 dM_brokenRefresh_40 (by decide) ?_
            refine lv_istore_n S.1 S.2.1 dM_brokenRefresh_41 rfl hl (by decide) rfl (fun ls hl => ?_)
            have hl : lv_has ls 5 [(2, .int 0), (0, .ref (a 0)), (1, .int x1), (3, .int x3), (4, .int x4)] := hl
            refine lv_iload_n S.1 S.2.1 dM_brokenRefresh_42 rfl (lv_at hl 3 rfl) ?_
            refine lv_if_ne (tgt := 62) S.1 S.2.1 dM_brokenRefresh_43 (by decide) (fun hc => ?_) (fun hc => ?_)
            · have h := (kb_brf hc).symm.trans h
              refine lv_iconst (v := 1) S.1 S.2.1 dM_brokenRefresh_62 (by decide) ?_
              refine lv_goto (tgt := 67) S.1 S.2.1 dM_brokenRefresh_63 (by decide) ?_
              refine lv_istore_n S.1 S.2.1 dM_brokenRefresh_67 rfl hl (by decide) rfl (fun ls hl => ?_)
              have hl : lv_has ls 5 [(3, .int 1), (2, .int 0), (0, .ref (a 0)), (1, .int x1), (4, .int x4)] := hl
              refine lv_iinc (v := x4 + 1) (k := 4) S.1 S.2.1 dM_brokenRefresh_68 hl rfl rfl (by decide) rfl (fun ls hl => ?_)
              have hl : lv_has ls 5 [(4, .int (x4 + 1)), (3, .int 1), (2, .int 0), (0, .ref (a 0)), (1, .int x1)] := hl
              refine lv_goto (tgt := 10) S.1 S.2.1 dM_brokenRefresh_71 (by decide) ?_
              exact ih x1 0 1 (x4 + 1) z _ _ _ (lv_sub hl [3, 4, 2, 1, 0] rfl) w h
            · have h := (kb_brt hc).symm.trans h
              refine lv_aload_n S.1 S.2.1 dM_brokenRefresh_46 rfl (lv_at hl 1 rfl) ?_
              refine lv_iload_n S.1 S.2.1 dM_brokenRefresh_47 rfl (lv_at hl 2 rfl) ?_
              refine lv_aload_n S.1 S.2.1 dM_brokenRefresh_48 rfl (lv_at hl 1 rfl) ?_
              refine kb_get S w 0 rfl fM_19 rfl dM_brokenRefresh_49 ?_
              refine W.eq (g2 := F0 m 52 ls [.ref (a 4), .int x1, .ref (a 0)]) rfl ?_
              refine lv_iload S.1 S.2.1 dM_brokenRefresh_52 (lv_at hl 4 rfl) ?_
              obtain ⟨hi10, h⟩ := kb_ck_of h
              refine kb_iald S w 4 0 rfl rfl hi10 dM_brokenRefresh_54 ?_
              refine W.eq (g2 := F0 m 55 ls [.int (z 4 (kb_ix (x4))), .int x1, .ref (a 0)]) rfl ?_
              refine lv_iconst (v := 1) S.1 S.2.1 dM_brokenRefresh_55 (by decide) ?_
              obtain ⟨r12, z11, hc13, h⟩ := kb_cl_of h
              refine kb_calli (As := [.int x1, .int (z 4 (kb_ix (x4))), .int 1]) (rest := []) (q0 := 0) (ci := 3) S w (fun sz => cM_early l D cI cZ a _ _ _ sz x1 (z 4 (kb_ix (x4))) 1 hc13) Y_M_early I_M_early S_M_early lM_84 ⟨rfl, rfl, Nat.le_of_ble_eq_true rfl, Nat.le_of_ble_eq_true rfl⟩ rfl rfl rfl rfl hl.1 rfl (Nat.le_of_ble_eq_true rfl) dM_brokenRefresh_56 ⟨Nat.le_of_ble_eq_true rfl, Nat.le_of_ble_eq_true rfl⟩ (fun H locs w => ?_)
              refine lv_if_eq (tgt := 66) S.1 S.2.1 dM_brokenRefresh_59 (by decide) (fun hc => ?_) (fun hc => ?_)
              · have h := (kb_brt hc).symm.trans h
                refine lv_iconst (v := 0) S.1 S.2.1 dM_brokenRefresh_66 (by decide) ?_
                refine lv_istore_n S.1 S.2.1 dM_brokenRefresh_67 rfl hl (by decide) rfl (fun ls hl => ?_)
                have hl : lv_has ls 5 [(3, .int 0), (2, .int 0), (0, .ref (a 0)), (1, .int x1), (4, .int x4)] := hl
                refine lv_iinc (v := x4 + 1) (k := 4) S.1 S.2.1 dM_brokenRefresh_68 hl rfl rfl (by decide) rfl (fun ls hl => ?_)
                have hl : lv_has ls 5 [(4, .int (x4 + 1)), (3, .int 0), (2, .int 0), (0, .ref (a 0)), (1, .int x1)] := hl
                refine lv_goto (tgt := 10) S.1 S.2.1 dM_brokenRefresh_71 (by decide) ?_
                exact ih x1 0 0 (x4 + 1) z11 _ _ _ (lv_sub hl [3, 4, 2, 1, 0] rfl) w h
              · have h := (kb_brf hc).symm.trans h
                refine lv_iconst (v := 1) S.1 S.2.1 dM_brokenRefresh_62 (by decide) ?_
                refine lv_goto (tgt := 67) S.1 S.2.1 dM_brokenRefresh_63 (by decide) ?_
                refine lv_istore_n S.1 S.2.1 dM_brokenRefresh_67 rfl hl (by decide) rfl (fun ls hl => ?_)
                have hl : lv_has ls 5 [(3, .int 1), (2, .int 0), (0, .ref (a 0)), (1, .int x1), (4, .int x4)] := hl
                refine lv_iinc (v := x4 + 1) (k := 4) S.1 S.2.1 dM_brokenRefresh_68 hl rfl rfl (by decide) rfl (fun ls hl => ?_)
                have hl : lv_has ls 5 [(4, .int (x4 + 1)), (3, .int 1), (2, .int 0), (0, .ref (a 0)), (1, .int x1)] := hl
                refine lv_goto (tgt := 10) S.1 S.2.1 dM_brokenRefresh_71 (by decide) ?_
                exact ih x1 0 1 (x4 + 1) z11 _ _ _ (lv_sub hl [3, 4, 2, 1, 0] rfl) w h
          · have h := (kb_brf hc).symm.trans h
            refine lv_iconst (v := 1) S.1 S.2.1 dM_brokenRefresh_36 (by decide) ?_
            refine lv_goto (tgt := 41) S.1 S.2.1 dM_brokenRefresh_37 (by decide) ?_
            refine lv_istore_n S.1 S.2.1 dM_brokenRefresh_41 rfl hl (by decide) rfl (fun ls hl => ?_)
            have hl : lv_has ls 5 [(2, .int 1), (0, .ref (a 0)), (1, .int x1), (3, .int x3), (4, .int x4)] := hl
            refine lv_iload_n S.1 S.2.1 dM_brokenRefresh_42 rfl (lv_at hl 3 rfl) ?_
            refine lv_if_ne (tgt := 62) S.1 S.2.1 dM_brokenRefresh_43 (by decide) (fun hc => ?_) (fun hc => ?_)
            · have h := (kb_brf hc).symm.trans h
              refine lv_iconst (v := 1) S.1 S.2.1 dM_brokenRefresh_62 (by decide) ?_
              refine lv_goto (tgt := 67) S.1 S.2.1 dM_brokenRefresh_63 (by decide) ?_
              refine lv_istore_n S.1 S.2.1 dM_brokenRefresh_67 rfl hl (by decide) rfl (fun ls hl => ?_)
              have hl : lv_has ls 5 [(3, .int 1), (2, .int 1), (0, .ref (a 0)), (1, .int x1), (4, .int x4)] := hl
              refine lv_iinc (v := x4 + 1) (k := 4) S.1 S.2.1 dM_brokenRefresh_68 hl rfl rfl (by decide) rfl (fun ls hl => ?_)
              have hl : lv_has ls 5 [(4, .int (x4 + 1)), (3, .int 1), (2, .int 1), (0, .ref (a 0)), (1, .int x1)] := hl
              refine lv_goto (tgt := 10) S.1 S.2.1 dM_brokenRefresh_71 (by decide) ?_
              exact ih x1 1 1 (x4 + 1) z _ _ _ (lv_sub hl [3, 4, 2, 1, 0] rfl) w h
            · have h := (kb_brt hc).symm.trans h
              refine lv_aload_n S.1 S.2.1 dM_brokenRefresh_46 rfl (lv_at hl 1 rfl) ?_
              refine lv_iload_n S.1 S.2.1 dM_brokenRefresh_47 rfl (lv_at hl 2 rfl) ?_
              refine lv_aload_n S.1 S.2.1 dM_brokenRefresh_48 rfl (lv_at hl 1 rfl) ?_
              refine kb_get S w 0 rfl fM_19 rfl dM_brokenRefresh_49 ?_
              refine W.eq (g2 := F0 m 52 ls [.ref (a 4), .int x1, .ref (a 0)]) rfl ?_
              refine lv_iload S.1 S.2.1 dM_brokenRefresh_52 (lv_at hl 4 rfl) ?_
              obtain ⟨hi14, h⟩ := kb_ck_of h
              refine kb_iald S w 4 0 rfl rfl hi14 dM_brokenRefresh_54 ?_
              refine W.eq (g2 := F0 m 55 ls [.int (z 4 (kb_ix (x4))), .int x1, .ref (a 0)]) rfl ?_
              refine lv_iconst (v := 1) S.1 S.2.1 dM_brokenRefresh_55 (by decide) ?_
              obtain ⟨r16, z15, hc17, h⟩ := kb_cl_of h
              refine kb_calli (As := [.int x1, .int (z 4 (kb_ix (x4))), .int 1]) (rest := []) (q0 := 0) (ci := 3) S w (fun sz => cM_early l D cI cZ a _ _ _ sz x1 (z 4 (kb_ix (x4))) 1 hc17) Y_M_early I_M_early S_M_early lM_84 ⟨rfl, rfl, Nat.le_of_ble_eq_true rfl, Nat.le_of_ble_eq_true rfl⟩ rfl rfl rfl rfl hl.1 rfl (Nat.le_of_ble_eq_true rfl) dM_brokenRefresh_56 ⟨Nat.le_of_ble_eq_true rfl, Nat.le_of_ble_eq_true rfl⟩ (fun H locs w => ?_)
              refine lv_if_eq (tgt := 66) S.1 S.2.1 dM_brokenRefresh_59 (by decide) (fun hc => ?_) (fun hc => ?_)
              · have h := (kb_brt hc).symm.trans h
                refine lv_iconst (v := 0) S.1 S.2.1 dM_brokenRefresh_66 (by decide) ?_
                refine lv_istore_n S.1 S.2.1 dM_brokenRefresh_67 rfl hl (by decide) rfl (fun ls hl => ?_)
                have hl : lv_has ls 5 [(3, .int 0), (2, .int 1), (0, .ref (a 0)), (1, .int x1), (4, .int x4)] := hl
                refine lv_iinc (v := x4 + 1) (k := 4) S.1 S.2.1 dM_brokenRefresh_68 hl rfl rfl (by decide) rfl (fun ls hl => ?_)
                have hl : lv_has ls 5 [(4, .int (x4 + 1)), (3, .int 0), (2, .int 1), (0, .ref (a 0)), (1, .int x1)] := hl
                refine lv_goto (tgt := 10) S.1 S.2.1 dM_brokenRefresh_71 (by decide) ?_
                exact ih x1 1 0 (x4 + 1) z15 _ _ _ (lv_sub hl [3, 4, 2, 1, 0] rfl) w h
              · have h := (kb_brf hc).symm.trans h
                refine lv_iconst (v := 1) S.1 S.2.1 dM_brokenRefresh_62 (by decide) ?_
                refine lv_goto (tgt := 67) S.1 S.2.1 dM_brokenRefresh_63 (by decide) ?_
                refine lv_istore_n S.1 S.2.1 dM_brokenRefresh_67 rfl hl (by decide) rfl (fun ls hl => ?_)
                have hl : lv_has ls 5 [(3, .int 1), (2, .int 1), (0, .ref (a 0)), (1, .int x1), (4, .int x4)] := hl
                refine lv_iinc (v := x4 + 1) (k := 4) S.1 S.2.1 dM_brokenRefresh_68 hl rfl rfl (by decide) rfl (fun ls hl => ?_)
                have hl : lv_has ls 5 [(4, .int (x4 + 1)), (3, .int 1), (2, .int 1), (0, .ref (a 0)), (1, .int x1)] := hl
                refine lv_goto (tgt := 10) S.1 S.2.1 dM_brokenRefresh_71 (by decide) ?_
                exact ih x1 1 1 (x4 + 1) z15 _ _ _ (lv_sub hl [3, 4, 2, 1, 0] rfl) w h
  refine lv_iconst (v := 0) S.1 S.2.1 dM_brokenRefresh_0 (by decide) ?_
  refine lv_istore_n S.1 S.2.1 dM_brokenRefresh_1 rfl hl (by decide) rfl (fun ls hl => ?_)
  have hl : lv_has ls 5 [(2, .int 0), (0, .ref (a 0)), (1, .int x1)] := hl
  refine lv_iconst (v := 0) S.1 S.2.1 dM_brokenRefresh_2 (by decide) ?_
  refine lv_istore_n S.1 S.2.1 dM_brokenRefresh_3 rfl hl (by decide) rfl (fun ls hl => ?_)
  have hl : lv_has ls 5 [(3, .int 0), (2, .int 0), (0, .ref (a 0)), (1, .int x1)] := hl
  refine lv_bipush (v := 8) S.1 S.2.1 dM_brokenRefresh_4 (by decide) ?_
  refine lv_iload_n S.1 S.2.1 dM_brokenRefresh_6 rfl (lv_at hl 3 rfl) ?_
  refine lv_imul S.1 S.2.1 dM_brokenRefresh_7 ?_
  refine lv_istore S.1 S.2.1 dM_brokenRefresh_8 hl (by decide) rfl (fun ls hl => ?_)
  have hl : lv_has ls 5 [(4, .int (8 * x1)), (3, .int 0), (2, .int 0), (0, .ref (a 0)), (1, .int x1)] := hl
  exact L10 3000 x1 0 0 (8 * x1) z0 _ _ _ (lv_sub hl [3, 4, 2, 1, 0] rfl) w h
end
section
set_option maxHeartbeats 4000000 in
set_option maxRecDepth 100000 in
theorem cM_broken (l : Launch) (D : va_G) (cI cZ : ClassId) (a : Nat → Nat) (z0 z' : kb_S) (r : Int32) (sz : Nat) (x1 : Int32) (x2 : Int32) (x3 : Int32) (x4 : Int32) (h : pM_broken x1 x2 x3 x4 z0 = some (r, z')) : Met l y_M_broken (Cond.code y_M_broken c_M_broken 5 (some .int) :: wsB) rm_M_broken (kb_Pc D vwCl [(cI, .int), (cZ, .boolean)] sz [.ref (a 0), .int x1, .int x2, .int x3, .int x4] (mW cI cZ a z0)) (kb_Qi D vwCl sz (mW cI cZ a z0) r (mW cI cZ a z')) 0 0 (va_A (mW cI cZ a z0) sz) := by
  refine kb_start (by decide) rfl (Nat.le_of_ble_eq_true rfl) ?_
  intro p e s m args below meth c A ls S hr hlk hsz hA w hl
  have hl : lv_has ls 5 [(0, .ref (a 0)), (1, .int x1), (2, .int x2), (3, .int x3), (4, .int x4)] := hl
  unfold pM_broken at h
  refine lv_iload_n S.1 S.2.1 dM_broken_0 rfl (lv_at hl 2 rfl) ?_
  by_cases hs1_0 : (x2).toInt = 0
  · have h := (kb_brt hs1_0).symm.trans h
    refine lv_tableIn (tgt := 36) S.1 S.2.1 dM_broken_1 (by omega) (by omega) (by rw [hs1_0]; rfl) (by decide) ?_
    refine lv_aload_n S.1 S.2.1 dM_broken_36 rfl (lv_at hl 0 rfl) ?_
    refine lv_iload_n S.1 S.2.1 dM_broken_37 rfl (lv_at hl 1 rfl) ?_
    refine lv_iload_n S.1 S.2.1 dM_broken_38 rfl (lv_at hl 3 rfl) ?_
    obtain ⟨r2, z1, hc3, h⟩ := kb_cl_of h
    refine kb_calli (As := [.int x1, .int x3]) (rest := []) (q0 := 0) (ci := 3) S w (fun sz => cM_brokenOpen l D cI cZ a _ _ _ sz x1 x3 hc3) Y_M_brokenOpen I_M_brokenOpen S_M_brokenOpen lM_88 ⟨rfl, rfl, Nat.le_of_ble_eq_true rfl, Nat.le_of_ble_eq_true rfl⟩ rfl rfl rfl rfl hl.1 rfl (Nat.le_of_ble_eq_true rfl) dM_broken_39 ⟨Nat.le_of_ble_eq_true rfl, Nat.le_of_ble_eq_true rfl⟩ (fun H locs w => ?_)
    exact kb_iret (mW cI cZ a) S hr hlk hA w h dM_broken_42
  · have h := (kb_brf hs1_0).symm.trans h
    by_cases hs1_1 : (x2).toInt = 1
    · have h := (kb_brt hs1_1).symm.trans h
      refine lv_tableIn (tgt := 43) S.1 S.2.1 dM_broken_1 (by omega) (by omega) (by rw [hs1_1]; rfl) (by decide) ?_
      refine lv_aload_n S.1 S.2.1 dM_broken_43 rfl (lv_at hl 0 rfl) ?_
      refine lv_iload_n S.1 S.2.1 dM_broken_44 rfl (lv_at hl 1 rfl) ?_
      refine lv_iload_n S.1 S.2.1 dM_broken_45 rfl (lv_at hl 3 rfl) ?_
      obtain ⟨r5, z4, hc6, h⟩ := kb_cl_of h
      refine kb_calli (As := [.int x1, .int x3]) (rest := []) (q0 := 0) (ci := 3) S w (fun sz => cM_brokenClose l D cI cZ a _ _ _ sz x1 x3 hc6) Y_M_brokenClose I_M_brokenClose S_M_brokenClose lM_92 ⟨rfl, rfl, Nat.le_of_ble_eq_true rfl, Nat.le_of_ble_eq_true rfl⟩ rfl rfl rfl rfl hl.1 rfl (Nat.le_of_ble_eq_true rfl) dM_broken_46 ⟨Nat.le_of_ble_eq_true rfl, Nat.le_of_ble_eq_true rfl⟩ (fun H locs w => ?_)
      exact kb_iret (mW cI cZ a) S hr hlk hA w h dM_broken_49
    · have h := (kb_brf hs1_1).symm.trans h
      by_cases hs1_2 : (x2).toInt = 2
      · have h := (kb_brt hs1_2).symm.trans h
        refine lv_tableIn (tgt := 56) S.1 S.2.1 dM_broken_1 (by omega) (by omega) (by rw [hs1_2]; rfl) (by decide) ?_
        refine lv_aload_n S.1 S.2.1 dM_broken_56 rfl (lv_at hl 0 rfl) ?_
        refine lv_iload_n S.1 S.2.1 dM_broken_57 rfl (lv_at hl 1 rfl) ?_
        refine lv_iload_n S.1 S.2.1 dM_broken_58 rfl (lv_at hl 3 rfl) ?_
        refine lv_iload S.1 S.2.1 dM_broken_59 (lv_at hl 4 rfl) ?_
        obtain ⟨r8, z7, hc9, h⟩ := kb_cl_of h
        refine kb_calli (As := [.int x1, .int x3, .int x4]) (rest := []) (q0 := 0) (ci := 3) S w (fun sz => cM_brokenUse l D cI cZ a _ _ _ sz x1 x3 x4 hc9) Y_M_brokenUse I_M_brokenUse S_M_brokenUse lM_99 ⟨rfl, rfl, Nat.le_of_ble_eq_true rfl, Nat.le_of_ble_eq_true rfl⟩ rfl rfl rfl rfl hl.1 rfl (Nat.le_of_ble_eq_true rfl) dM_broken_61 ⟨Nat.le_of_ble_eq_true rfl, Nat.le_of_ble_eq_true rfl⟩ (fun H locs w => ?_)
        exact kb_iret (mW cI cZ a) S hr hlk hA w h dM_broken_64
      · have h := (kb_brf hs1_2).symm.trans h
        by_cases hs1_3 : (x2).toInt = 3
        · have h := (kb_brt hs1_3).symm.trans h
          refine lv_tableIn (tgt := 56) S.1 S.2.1 dM_broken_1 (by omega) (by omega) (by rw [hs1_3]; rfl) (by decide) ?_
          refine lv_aload_n S.1 S.2.1 dM_broken_56 rfl (lv_at hl 0 rfl) ?_
          refine lv_iload_n S.1 S.2.1 dM_broken_57 rfl (lv_at hl 1 rfl) ?_
          refine lv_iload_n S.1 S.2.1 dM_broken_58 rfl (lv_at hl 3 rfl) ?_
          refine lv_iload S.1 S.2.1 dM_broken_59 (lv_at hl 4 rfl) ?_
          obtain ⟨r11, z10, hc12, h⟩ := kb_cl_of h
          refine kb_calli (As := [.int x1, .int x3, .int x4]) (rest := []) (q0 := 0) (ci := 3) S w (fun sz => cM_brokenUse l D cI cZ a _ _ _ sz x1 x3 x4 hc12) Y_M_brokenUse I_M_brokenUse S_M_brokenUse lM_99 ⟨rfl, rfl, Nat.le_of_ble_eq_true rfl, Nat.le_of_ble_eq_true rfl⟩ rfl rfl rfl rfl hl.1 rfl (Nat.le_of_ble_eq_true rfl) dM_broken_61 ⟨Nat.le_of_ble_eq_true rfl, Nat.le_of_ble_eq_true rfl⟩ (fun H locs w => ?_)
          exact kb_iret (mW cI cZ a) S hr hlk hA w h dM_broken_64
        · have h := (kb_brf hs1_3).symm.trans h
          by_cases hs1_4 : (x2).toInt = 4
          · have h := (kb_brt hs1_4).symm.trans h
            refine lv_tableIn (tgt := 50) S.1 S.2.1 dM_broken_1 (by omega) (by omega) (by rw [hs1_4]; rfl) (by decide) ?_
            refine lv_aload_n S.1 S.2.1 dM_broken_50 rfl (lv_at hl 0 rfl) ?_
            refine lv_iload_n S.1 S.2.1 dM_broken_51 rfl (lv_at hl 1 rfl) ?_
            obtain ⟨r14, z13, hc15, h⟩ := kb_cl_of h
            refine kb_calli (As := [.int x1]) (rest := []) (q0 := 0) (ci := 3) S w (fun sz => cM_brokenRefresh l D cI cZ a _ _ _ sz x1 hc15) Y_M_brokenRefresh I_M_brokenRefresh S_M_brokenRefresh lM_95 ⟨rfl, rfl, Nat.le_of_ble_eq_true rfl, Nat.le_of_ble_eq_true rfl⟩ rfl rfl rfl rfl hl.1 rfl (Nat.le_of_ble_eq_true rfl) dM_broken_52 ⟨Nat.le_of_ble_eq_true rfl, Nat.le_of_ble_eq_true rfl⟩ (fun H locs w => ?_)
            exact kb_iret (mW cI cZ a) S hr hlk hA w h dM_broken_55
          · have h := (kb_brf hs1_4).symm.trans h
            refine lv_tableOut (tgt := 56) S.1 S.2.1 dM_broken_1 (by omega) (by decide) ?_
            refine lv_aload_n S.1 S.2.1 dM_broken_56 rfl (lv_at hl 0 rfl) ?_
            refine lv_iload_n S.1 S.2.1 dM_broken_57 rfl (lv_at hl 1 rfl) ?_
            refine lv_iload_n S.1 S.2.1 dM_broken_58 rfl (lv_at hl 3 rfl) ?_
            refine lv_iload S.1 S.2.1 dM_broken_59 (lv_at hl 4 rfl) ?_
            obtain ⟨r17, z16, hc18, h⟩ := kb_cl_of h
            refine kb_calli (As := [.int x1, .int x3, .int x4]) (rest := []) (q0 := 0) (ci := 3) S w (fun sz => cM_brokenUse l D cI cZ a _ _ _ sz x1 x3 x4 hc18) Y_M_brokenUse I_M_brokenUse S_M_brokenUse lM_99 ⟨rfl, rfl, Nat.le_of_ble_eq_true rfl, Nat.le_of_ble_eq_true rfl⟩ rfl rfl rfl rfl hl.1 rfl (Nat.le_of_ble_eq_true rfl) dM_broken_61 ⟨Nat.le_of_ble_eq_true rfl, Nat.le_of_ble_eq_true rfl⟩ (fun H locs w => ?_)
            exact kb_iret (mW cI cZ a) S hr hlk hA w h dM_broken_64
set_option maxHeartbeats 4000000 in
set_option maxRecDepth 100000 in
theorem cM_give (l : Launch) (D : va_G) (cI cZ : ClassId) (a : Nat → Nat) (z0 z' : kb_S) (r : Int32) (sz : Nat) (x1 : Int32) (x2 : Int32) (x3 : Int32) (x4 : Int32) (h : pM_give x1 x2 x3 x4 z0 = some (r, z')) : Met l y_M_give (Cond.code y_M_give c_M_give 8 none :: wsB) rm_M_give (kb_Pc D vwCl [(cI, .int), (cZ, .boolean)] sz [.ref (a 0), .int x1, .int x2, .int x3, .int x4] (mW cI cZ a z0)) (kb_Qv D vwCl sz (mW cI cZ a z0) (mW cI cZ a z')) 0 0 (va_A (mW cI cZ a z0) sz) := by
  refine kb_start (by decide) rfl (Nat.le_of_ble_eq_true rfl) ?_
  intro p e s m args below meth c A ls S hr hlk hsz hA w hl
  have hl : lv_has ls 8 [(0, .ref (a 0)), (1, .int x1), (2, .int x2), (3, .int x3), (4, .int x4)] := hl
  unfold pM_give at h
  have L69 : ∀ (n : Nat) (x1 : Int32) (x6 : Int32) (x7 : Int32) (z : kb_S) (H : Heap) (locs : List Loc) (ls : Array Slot), lv_has ls 8 [(0, .ref (a 0)), (1, .int x1), (6, .int x6), (7, .int x7)] → kb_W D vwCl [(cI, .int), (cZ, .boolean)] A s H locs (mW cI cZ a z) → pM_give_L69 n x1 x6 x7 z = some (r, z') → W p l e rm_M_give s m args below meth c H locs 0 0 (MQ below (kb_Qv D vwCl sz (mW cI cZ a z0) (mW cI cZ a z')) args s 0 0 (va_A (mW cI cZ a z0) sz)) (F0 m 69 ls []) := by
    intro n
    induction n with
    | zero =>
      intro x1 x6 x7 z H locs ls hl w h
      exact absurd h (by simp [pM_give_L69])
    | succ n ih =>
      intro x1 x6 x7 z H locs ls hl w h
      rw [pM_give_L69] at h
      refine lv_iload S.1 S.2.1 dM_give_69 (lv_at hl 3 rfl) ?_
      refine lv_if_le (tgt := 104) S.1 S.2.1 dM_give_71 (by decide) (fun hc => ?_) (fun hc => ?_)
      · have h := (kb_brt hc).symm.trans h
        refine lv_aload_n S.1 S.2.1 dM_give_104 rfl (lv_at hl 0 rfl) ?_
        refine kb_get S w 0 rfl fM_28 rfl dM_give_105 ?_
        refine W.eq (g2 := F0 m 108 ls [.ref (a 7)]) rfl ?_
        refine lv_iconst (v := 4) S.1 S.2.1 dM_give_108 (by decide) ?_
        refine lv_iload_n S.1 S.2.1 dM_give_109 rfl (lv_at hl 1 rfl) ?_
        refine lv_imul S.1 S.2.1 dM_give_110 ?_
        refine lv_iload S.1 S.2.1 dM_give_111 (lv_at hl 2 rfl) ?_
        obtain ⟨hi8, h⟩ := kb_ck_of h
        obtain ⟨z9, hz10, h⟩ := kb_st_of h
        refine kb_iast S w 7 0 rfl rfl hi8 (ws1 := mW cI cZ a z9) (by rw [hz10]; rfl) dM_give_113 (fun H locs w => ?_)
        refine lv_goto (tgt := 169) S.1 S.2.1 dM_give_114 (by decide) ?_
        exact kb_vret (mW cI cZ a) (v := 0) (r := r) S hr hlk hA w h dM_give_169
      · have h := (kb_brf hc).symm.trans h
        refine lv_aload_n S.1 S.2.1 dM_give_74 rfl (lv_at hl 0 rfl) ?_
        refine kb_get S w 0 rfl fM_28 rfl dM_give_75 ?_
        refine W.eq (g2 := F0 m 78 ls [.ref (a 7)]) rfl ?_
        refine lv_iconst (v := 4) S.1 S.2.1 dM_give_78 (by decide) ?_
        refine lv_iload_n S.1 S.2.1 dM_give_79 rfl (lv_at hl 1 rfl) ?_
        refine lv_imul S.1 S.2.1 dM_give_80 ?_
        refine lv_iload S.1 S.2.1 dM_give_81 (lv_at hl 3 rfl) ?_
        refine lv_iadd S.1 S.2.1 dM_give_83 ?_
        refine lv_aload_n S.1 S.2.1 dM_give_84 rfl (lv_at hl 0 rfl) ?_
        refine kb_get S w 0 rfl fM_28 rfl dM_give_85 ?_
        refine W.eq (g2 := F0 m 88 ls [.ref (a 7), .int ((4 * x1) + x7), .ref (a 7)]) rfl ?_
        refine lv_iconst (v := 4) S.1 S.2.1 dM_give_88 (by decide) ?_
        refine lv_iload_n S.1 S.2.1 dM_give_89 rfl (lv_at hl 1 rfl) ?_
        refine lv_imul S.1 S.2.1 dM_give_90 ?_
        refine lv_iload S.1 S.2.1 dM_give_91 (lv_at hl 3 rfl) ?_
        refine lv_iadd S.1 S.2.1 dM_give_93 ?_
        refine lv_iconst (v := 1) S.1 S.2.1 dM_give_94 (by decide) ?_
        refine lv_isub S.1 S.2.1 dM_give_95 ?_
        obtain ⟨hi11, h⟩ := kb_ck_of h
        refine kb_iald S w 7 0 rfl rfl hi11 dM_give_96 ?_
        refine W.eq (g2 := F0 m 97 ls [.int (z 7 (kb_ix (((4 * x1) + x7) - 1))), .int ((4 * x1) + x7), .ref (a 7)]) rfl ?_
        obtain ⟨hi12, h⟩ := kb_ck_of h
        obtain ⟨z13, hz14, h⟩ := kb_st_of h
        refine kb_iast S w 7 0 rfl rfl hi12 (ws1 := mW cI cZ a z13) (by rw [hz14]; rfl) dM_give_97 (fun H locs w => ?_)
        refine lv_iinc (v := x7 + (-1)) (k := 3) S.1 S.2.1 dM_give_98 hl rfl rfl (by decide) rfl (fun ls hl => ?_)
        have hl : lv_has ls 8 [(7, .int (x7 + (-1))), (0, .ref (a 0)), (1, .int x1), (6, .int x6)] := hl
        refine lv_goto (tgt := 69) S.1 S.2.1 dM_give_101 (by decide) ?_
        exact ih x1 x6 (x7 + (-1)) z13 _ _ _ (lv_sub hl [1, 2, 3, 0] rfl) w h
  refine lv_bipush (v := 8) S.1 S.2.1 dM_give_0 (by decide) ?_
  refine lv_iload_n S.1 S.2.1 dM_give_2 rfl (lv_at hl 1 rfl) ?_
  refine lv_imul S.1 S.2.1 dM_give_3 ?_
  refine lv_iload_n S.1 S.2.1 dM_give_4 rfl (lv_at hl 3 rfl) ?_
  refine lv_iadd S.1 S.2.1 dM_give_5 ?_
  refine lv_istore S.1 S.2.1 dM_give_6 hl (by decide) rfl (fun ls hl => ?_)
  have hl : lv_has ls 8 [(5, .int ((8 * x1) + x3)), (0, .ref (a 0)), (1, .int x1), (2, .int x2), (3, .int x3), (4, .int x4)] := hl
  refine lv_aload_n S.1 S.2.1 dM_give_8 rfl (lv_at hl 1 rfl) ?_
  refine kb_get S w 0 rfl fM_34 rfl dM_give_9 ?_
  refine W.eq (g2 := F0 m 12 ls [.ref (a 9)]) rfl ?_
  refine lv_iload_n S.1 S.2.1 dM_give_12 rfl (lv_at hl 2 rfl) ?_
  obtain ⟨hi1, h⟩ := kb_ck_of h
  refine kb_iald S w 9 0 rfl rfl hi1 dM_give_13 ?_
  refine W.eq (g2 := F0 m 14 ls [.int (z0 9 (kb_ix (x1)))]) rfl ?_
  refine lv_istore S.1 S.2.1 dM_give_14 hl (by decide) rfl (fun ls hl => ?_)
  have hl : lv_has ls 8 [(6, .int (z0 9 (kb_ix (x1)))), (5, .int ((8 * x1) + x3)), (0, .ref (a 0)), (1, .int x1), (2, .int x2), (3, .int x3), (4, .int x4)] := hl
  refine lv_iload_n S.1 S.2.1 dM_give_16 rfl (lv_at hl 4 rfl) ?_
  by_cases hs17_0 : (x2).toInt = 0
  · have h := (kb_brt hs17_0).symm.trans h
    refine lv_tableIn (tgt := 48) S.1 S.2.1 dM_give_17 (by omega) (by omega) (by rw [hs17_0]; rfl) (by decide) ?_
    refine lv_aload_n S.1 S.2.1 dM_give_48 rfl (lv_at hl 2 rfl) ?_
    refine kb_get S w 0 rfl fM_13 rfl dM_give_49 ?_
    refine W.eq (g2 := F0 m 52 ls [.ref (a 2)]) rfl ?_
    refine lv_iload S.1 S.2.1 dM_give_52 (lv_at hl 1 rfl) ?_
    refine lv_iload S.1 S.2.1 dM_give_54 (lv_at hl 6 rfl) ?_
    obtain ⟨hi2, h⟩ := kb_ck_of h
    obtain ⟨z3, hz4, h⟩ := kb_st_of h
    refine kb_iast S w 2 0 rfl rfl hi2 (ws1 := mW cI cZ a z3) (by rw [hz4]; rfl) dM_give_56 (fun H locs w => ?_)
    refine lv_aload_n S.1 S.2.1 dM_give_57 rfl (lv_at hl 2 rfl) ?_
    refine kb_get S w 0 rfl fM_16 rfl dM_give_58 ?_
    refine W.eq (g2 := F0 m 61 ls [.ref (a 3)]) rfl ?_
    refine lv_iload S.1 S.2.1 dM_give_61 (lv_at hl 1 rfl) ?_
    refine lv_iload S.1 S.2.1 dM_give_63 (lv_at hl 0 rfl) ?_
    obtain ⟨hi5, h⟩ := kb_ck_of h
    obtain ⟨z6, hz7, h⟩ := kb_st_of h
    refine kb_iast S w 3 0 rfl rfl hi5 (ws1 := mW cI cZ a z6) (by rw [hz7]; rfl) dM_give_65 (fun H locs w => ?_)
    refine lv_iconst (v := 3) S.1 S.2.1 dM_give_66 (by decide) ?_
    refine lv_istore S.1 S.2.1 dM_give_67 hl (by decide) rfl (fun ls hl => ?_)
    have hl : lv_has ls 8 [(7, .int 3), (6, .int (z0 9 (kb_ix (x1)))), (5, .int ((8 * x1) + x3)), (0, .ref (a 0)), (1, .int x1), (2, .int x2), (3, .int x3), (4, .int x4)] := hl
    exact L69 3000 x1 (z0 9 (kb_ix (x1))) 3 z6 _ _ _ (lv_sub hl [3, 4, 1, 0] rfl) w h
  · have h := (kb_brf hs17_0).symm.trans h
    by_cases hs17_1 : (x2).toInt = 1
    · have h := (kb_brt hs17_1).symm.trans h
      refine lv_tableIn (tgt := 117) S.1 S.2.1 dM_give_17 (by omega) (by omega) (by rw [hs17_1]; rfl) (by decide) ?_
      refine lv_aload_n S.1 S.2.1 dM_give_117 rfl (lv_at hl 2 rfl) ?_
      refine kb_get S w 0 rfl fM_13 rfl dM_give_118 ?_
      refine W.eq (g2 := F0 m 121 ls [.ref (a 2)]) rfl ?_
      refine lv_iload S.1 S.2.1 dM_give_121 (lv_at hl 1 rfl) ?_
      refine lv_iconst (v := (-1)) S.1 S.2.1 dM_give_123 (by decide) ?_
      obtain ⟨hi15, h⟩ := kb_ck_of h
      obtain ⟨z16, hz17, h⟩ := kb_st_of h
      refine kb_iast S w 2 0 rfl rfl hi15 (ws1 := mW cI cZ a z16) (by rw [hz17]; rfl) dM_give_124 (fun H locs w => ?_)
      refine lv_aload_n S.1 S.2.1 dM_give_125 rfl (lv_at hl 2 rfl) ?_
      refine kb_get S w 0 rfl fM_19 rfl dM_give_126 ?_
      refine W.eq (g2 := F0 m 129 ls [.ref (a 4)]) rfl ?_
      refine lv_iload S.1 S.2.1 dM_give_129 (lv_at hl 1 rfl) ?_
      refine lv_iload S.1 S.2.1 dM_give_131 (lv_at hl 0 rfl) ?_
      obtain ⟨hi18, h⟩ := kb_ck_of h
      obtain ⟨z19, hz20, h⟩ := kb_st_of h
      refine kb_iast S w 4 0 rfl rfl hi18 (ws1 := mW cI cZ a z19) (by rw [hz20]; rfl) dM_give_133 (fun H locs w => ?_)
      refine lv_goto (tgt := 169) S.1 S.2.1 dM_give_134 (by decide) ?_
      exact kb_vret (mW cI cZ a) (v := 0) (r := r) S hr hlk hA w h dM_give_169
    · have h := (kb_brf hs17_1).symm.trans h
      by_cases hs17_2 : (x2).toInt = 2
      · have h := (kb_brt hs17_2).symm.trans h
        refine lv_tableIn (tgt := 137) S.1 S.2.1 dM_give_17 (by omega) (by omega) (by rw [hs17_2]; rfl) (by decide) ?_
        refine lv_aload_n S.1 S.2.1 dM_give_137 rfl (lv_at hl 2 rfl) ?_
        refine kb_get S w 0 rfl fM_22 rfl dM_give_138 ?_
        refine W.eq (g2 := F0 m 141 ls [.ref (a 5)]) rfl ?_
        refine lv_iload S.1 S.2.1 dM_give_141 (lv_at hl 1 rfl) ?_
        refine lv_iload S.1 S.2.1 dM_give_143 (lv_at hl 0 rfl) ?_
        obtain ⟨hi21, h⟩ := kb_ck_of h
        obtain ⟨z22, hz23, h⟩ := kb_st_of h
        refine kb_iast S w 5 0 rfl rfl hi21 (ws1 := mW cI cZ a z22) (by rw [hz23]; rfl) dM_give_145 (fun H locs w => ?_)
        refine lv_goto (tgt := 169) S.1 S.2.1 dM_give_146 (by decide) ?_
        exact kb_vret (mW cI cZ a) (v := 0) (r := r) S hr hlk hA w h dM_give_169
      · have h := (kb_brf hs17_2).symm.trans h
        by_cases hs17_3 : (x2).toInt = 3
        · have h := (kb_brt hs17_3).symm.trans h
          refine lv_tableIn (tgt := 149) S.1 S.2.1 dM_give_17 (by omega) (by omega) (by rw [hs17_3]; rfl) (by decide) ?_
          refine lv_aload_n S.1 S.2.1 dM_give_149 rfl (lv_at hl 2 rfl) ?_
          refine kb_get S w 0 rfl fM_25 rfl dM_give_150 ?_
          refine W.eq (g2 := F0 m 153 ls [.ref (a 6)]) rfl ?_
          refine lv_iload S.1 S.2.1 dM_give_153 (lv_at hl 1 rfl) ?_
          refine lv_iload S.1 S.2.1 dM_give_155 (lv_at hl 0 rfl) ?_
          obtain ⟨hi24, h⟩ := kb_ck_of h
          obtain ⟨z25, hz26, h⟩ := kb_st_of h
          refine kb_iast S w 6 0 rfl rfl hi24 (ws1 := mW cI cZ a z25) (by rw [hz26]; rfl) dM_give_157 (fun H locs w => ?_)
          refine lv_goto (tgt := 169) S.1 S.2.1 dM_give_158 (by decide) ?_
          exact kb_vret (mW cI cZ a) (v := 0) (r := r) S hr hlk hA w h dM_give_169
        · have h := (kb_brf hs17_3).symm.trans h
          refine lv_tableOut (tgt := 161) S.1 S.2.1 dM_give_17 (by omega) (by decide) ?_
          refine lv_aload_n S.1 S.2.1 dM_give_161 rfl (lv_at hl 2 rfl) ?_
          refine kb_get S w 0 rfl fM_31 rfl dM_give_162 ?_
          refine W.eq (g2 := F0 m 165 ls [.ref (a 8)]) rfl ?_
          refine lv_iload_n S.1 S.2.1 dM_give_165 rfl (lv_at hl 3 rfl) ?_
          refine lv_iload S.1 S.2.1 dM_give_166 (lv_at hl 0 rfl) ?_
          obtain ⟨hi27, h⟩ := kb_ck_of h
          obtain ⟨z28, hz29, h⟩ := kb_st_of h
          refine kb_iast S w 8 0 rfl rfl hi27 (ws1 := mW cI cZ a z28) (by rw [hz29]; rfl) dM_give_168 (fun H locs w => ?_)
          exact kb_vret (mW cI cZ a) (v := 0) (r := r) S hr hlk hA w h dM_give_169
set_option maxHeartbeats 4000000 in
set_option maxRecDepth 100000 in
theorem cM_isBank (l : Launch) (D : va_G) (cI cZ : ClassId) (a : Nat → Nat) (z0 z' : kb_S) (r : Int32) (sz : Nat) (x1 : Int32) (h : pM_isBank x1 z0 = some (r, z')) : Met l y_M_isBank (Cond.code y_M_isBank c_M_isBank 2 (some .boolean) :: wsB) rm_M_isBank (kb_Pc D vwCl [(cI, .int), (cZ, .boolean)] sz [.ref (a 0), .int x1] (mW cI cZ a z0)) (kb_Qi D vwCl sz (mW cI cZ a z0) r (mW cI cZ a z')) 0 0 (va_A (mW cI cZ a z0) sz) := by
  refine kb_start (by decide) rfl (Nat.le_of_ble_eq_true rfl) ?_
  intro p e s m args below meth c A ls S hr hlk hsz hA w hl
  have hl : lv_has ls 2 [(0, .ref (a 0)), (1, .int x1)] := hl
  unfold pM_isBank at h
  refine lv_iload_n S.1 S.2.1 dM_isBank_0 rfl (lv_at hl 1 rfl) ?_
  refine lv_if_lt (tgt := 16) S.1 S.2.1 dM_isBank_1 (by decide) (fun hc => ?_) (fun hc => ?_)
  · have h := (kb_brt hc).symm.trans h
    refine lv_iconst (v := 0) S.1 S.2.1 dM_isBank_16 (by decide) ?_
    exact kb_zret (mW cI cZ a) S hr hlk hA w h (by decide) dM_isBank_17
  · have h := (kb_brf hc).symm.trans h
    refine lv_iload_n S.1 S.2.1 dM_isBank_4 rfl (lv_at hl 1 rfl) ?_
    refine lv_aload_n S.1 S.2.1 dM_isBank_5 rfl (lv_at hl 0 rfl) ?_
    refine kb_get S w 0 rfl fM_71 rfl dM_isBank_6 ?_
    refine W.eq (g2 := F0 m 9 ls [.int (z0 0 1), .int x1]) rfl ?_
    refine lv_icmp_ge (tgt := 16) S.1 S.2.1 dM_isBank_9 (by decide) (fun hc => ?_) (fun hc => ?_)
    · have h := (kb_brt hc).symm.trans h
      refine lv_iconst (v := 0) S.1 S.2.1 dM_isBank_16 (by decide) ?_
      exact kb_zret (mW cI cZ a) S hr hlk hA w h (by decide) dM_isBank_17
    · have h := (kb_brf hc).symm.trans h
      refine lv_iconst (v := 1) S.1 S.2.1 dM_isBank_12 (by decide) ?_
      refine lv_goto (tgt := 17) S.1 S.2.1 dM_isBank_13 (by decide) ?_
      exact kb_zret (mW cI cZ a) S hr hlk hA w h (by decide) dM_isBank_17
set_option maxHeartbeats 4000000 in
set_option maxRecDepth 100000 in
theorem cM_isRow (l : Launch) (D : va_G) (cI cZ : ClassId) (a : Nat → Nat) (z0 z' : kb_S) (r : Int32) (sz : Nat) (x0 : Int32) (h : pM_isRow x0 z0 = some (r, z')) : Met l y_M_isRow (Cond.code y_M_isRow c_M_isRow 1 (some .boolean) :: wsB) rm_M_isRow (kb_Pc D vwCl [(cI, .int), (cZ, .boolean)] sz [.int x0] (mW cI cZ a z0)) (kb_Qi D vwCl sz (mW cI cZ a z0) r (mW cI cZ a z')) 0 0 (va_A (mW cI cZ a z0) sz) := by
  refine kb_start (by decide) rfl (Nat.le_of_ble_eq_true rfl) ?_
  intro p e s m args below meth c A ls S hr hlk hsz hA w hl
  have hl : lv_has ls 1 [(0, .int x0)] := hl
  unfold pM_isRow at h
  refine lv_iload_n S.1 S.2.1 dM_isRow_0 rfl (lv_at hl 0 rfl) ?_
  refine lv_if_lt (tgt := 14) S.1 S.2.1 dM_isRow_1 (by decide) (fun hc => ?_) (fun hc => ?_)
  · have h := (kb_brt hc).symm.trans h
    refine lv_iconst (v := 0) S.1 S.2.1 dM_isRow_14 (by decide) ?_
    exact kb_zret (mW cI cZ a) S hr hlk hA w h (by decide) dM_isRow_15
  · have h := (kb_brf hc).symm.trans h
    refine lv_iload_n S.1 S.2.1 dM_isRow_4 rfl (lv_at hl 0 rfl) ?_
    refine lv_bipush (v := 16) S.1 S.2.1 dM_isRow_5 (by decide) ?_
    refine lv_icmp_ge (tgt := 14) S.1 S.2.1 dM_isRow_7 (by decide) (fun hc => ?_) (fun hc => ?_)
    · have h := (kb_brt hc).symm.trans h
      refine lv_iconst (v := 0) S.1 S.2.1 dM_isRow_14 (by decide) ?_
      exact kb_zret (mW cI cZ a) S hr hlk hA w h (by decide) dM_isRow_15
    · have h := (kb_brf hc).symm.trans h
      refine lv_iconst (v := 1) S.1 S.2.1 dM_isRow_10 (by decide) ?_
      refine lv_goto (tgt := 15) S.1 S.2.1 dM_isRow_11 (by decide) ?_
      exact kb_zret (mW cI cZ a) S hr hlk hA w h (by decide) dM_isRow_15
set_option maxHeartbeats 4000000 in
set_option maxRecDepth 100000 in
theorem cM_isWord (l : Launch) (D : va_G) (cI cZ : ClassId) (a : Nat → Nat) (z0 z' : kb_S) (r : Int32) (sz : Nat) (x1 : Int32) (x2 : Int32) (x3 : Int32) (h : pM_isWord x1 x2 x3 z0 = some (r, z')) : Met l y_M_isWord (Cond.code y_M_isWord c_M_isWord 4 (some .boolean) :: wsB) rm_M_isWord (kb_Pc D vwCl [(cI, .int), (cZ, .boolean)] sz [.ref (a 0), .int x1, .int x2, .int x3] (mW cI cZ a z0)) (kb_Qi D vwCl sz (mW cI cZ a z0) r (mW cI cZ a z')) 0 0 (va_A (mW cI cZ a z0) sz) := by
  refine kb_start (by decide) rfl (Nat.le_of_ble_eq_true rfl) ?_
  intro p e s m args below meth c A ls S hr hlk hsz hA w hl
  have hl : lv_has ls 4 [(0, .ref (a 0)), (1, .int x1), (2, .int x2), (3, .int x3)] := hl
  unfold pM_isWord at h
  refine lv_aload_n S.1 S.2.1 dM_isWord_0 rfl (lv_at hl 0 rfl) ?_
  refine lv_iload_n S.1 S.2.1 dM_isWord_1 rfl (lv_at hl 1 rfl) ?_
  obtain ⟨r2, z1, hc3, h⟩ := kb_cl_of h
  refine kb_calli (As := [.int x1]) (rest := []) (q0 := 0) (ci := 3) S w (fun sz => cM_isBank l D cI cZ a _ _ _ sz x1 hc3) Y_M_isBank I_M_isBank S_M_isBank lM_103 ⟨rfl, rfl, Nat.le_of_ble_eq_true rfl, Nat.le_of_ble_eq_true rfl⟩ rfl rfl rfl rfl hl.1 rfl (Nat.le_of_ble_eq_true rfl) dM_isWord_2 ⟨Nat.le_of_ble_eq_true rfl, Nat.le_of_ble_eq_true rfl⟩ (fun H locs w => ?_)
  refine lv_if_eq (tgt := 29) S.1 S.2.1 dM_isWord_5 (by decide) (fun hc => ?_) (fun hc => ?_)
  · have h := (kb_brt hc).symm.trans h
    refine lv_iconst (v := 0) S.1 S.2.1 dM_isWord_29 (by decide) ?_
    exact kb_zret (mW cI cZ a) S hr hlk hA w h (by decide) dM_isWord_30
  · have h := (kb_brf hc).symm.trans h
    refine lv_iload_n S.1 S.2.1 dM_isWord_8 rfl (lv_at hl 2 rfl) ?_
    obtain ⟨r5, z4, hc6, h⟩ := kb_cl_of h
    refine kb_callS (As := [.int x2]) (rest := []) S w (fun sz => cM_isRow l D cI cZ a _ _ _ sz x2 hc6) Y_M_isRow T_M_isRow lM_107 ⟨rfl, rfl, Nat.le_of_ble_eq_true rfl, Nat.le_of_ble_eq_true rfl⟩ rfl hl.1 rfl (Nat.le_of_ble_eq_true rfl) dM_isWord_9 ⟨Nat.le_of_ble_eq_true rfl, Nat.le_of_ble_eq_true rfl⟩ (fun H locs w => ?_)
    refine lv_if_eq (tgt := 29) S.1 S.2.1 dM_isWord_12 (by decide) (fun hc => ?_) (fun hc => ?_)
    · have h := (kb_brt hc).symm.trans h
      refine lv_iconst (v := 0) S.1 S.2.1 dM_isWord_29 (by decide) ?_
      exact kb_zret (mW cI cZ a) S hr hlk hA w h (by decide) dM_isWord_30
    · have h := (kb_brf hc).symm.trans h
      refine lv_iload_n S.1 S.2.1 dM_isWord_15 rfl (lv_at hl 3 rfl) ?_
      refine lv_if_lt (tgt := 29) S.1 S.2.1 dM_isWord_16 (by decide) (fun hc => ?_) (fun hc => ?_)
      · have h := (kb_brt hc).symm.trans h
        refine lv_iconst (v := 0) S.1 S.2.1 dM_isWord_29 (by decide) ?_
        exact kb_zret (mW cI cZ a) S hr hlk hA w h (by decide) dM_isWord_30
      · have h := (kb_brf hc).symm.trans h
        refine lv_iload_n S.1 S.2.1 dM_isWord_19 rfl (lv_at hl 3 rfl) ?_
        refine lv_bipush (v := 8) S.1 S.2.1 dM_isWord_20 (by decide) ?_
        refine lv_icmp_ge (tgt := 29) S.1 S.2.1 dM_isWord_22 (by decide) (fun hc => ?_) (fun hc => ?_)
        · have h := (kb_brt hc).symm.trans h
          refine lv_iconst (v := 0) S.1 S.2.1 dM_isWord_29 (by decide) ?_
          exact kb_zret (mW cI cZ a) S hr hlk hA w h (by decide) dM_isWord_30
        · have h := (kb_brf hc).symm.trans h
          refine lv_iconst (v := 1) S.1 S.2.1 dM_isWord_25 (by decide) ?_
          refine lv_goto (tgt := 30) S.1 S.2.1 dM_isWord_26 (by decide) ?_
          exact kb_zret (mW cI cZ a) S hr hlk hA w h (by decide) dM_isWord_30
set_option maxHeartbeats 4000000 in
set_option maxRecDepth 100000 in
theorem cM_request (l : Launch) (D : va_G) (cI cZ : ClassId) (a : Nat → Nat) (z0 z' : kb_S) (r : Int32) (sz : Nat) (x1 : Int32) (x2 : Int32) (x3 : Int32) (x4 : Int32) (x5 : Int32) (h : pM_request x1 x2 x3 x4 x5 z0 = some (r, z')) : Met l y_M_request (Cond.code y_M_request c_M_request 6 (some .int) :: wsB) rm_M_request (kb_Pc D vwCl [(cI, .int), (cZ, .boolean)] sz [.ref (a 0), .int x1, .int x2, .int x3, .int x4, .int x5] (mW cI cZ a z0)) (kb_Qi D vwCl sz (mW cI cZ a z0) r (mW cI cZ a z')) 0 0 (va_A (mW cI cZ a z0) sz) := by
  refine kb_start (by decide) rfl (Nat.le_of_ble_eq_true rfl) ?_
  intro p e s m args below meth c A ls S hr hlk hsz hA w hl
  have hl : lv_has ls 6 [(0, .ref (a 0)), (1, .int x1), (2, .int x2), (3, .int x3), (4, .int x4), (5, .int x5)] := hl
  unfold pM_request at h
  have J31 : ∀ (x1 : Int32) (x2 : Int32) (x3 : Int32) (x4 : Int32) (x5 : Int32) (s0 : Int32) (z : kb_S) (H : Heap) (locs : List Loc) (ls : Array Slot), lv_has ls 6 [(0, .ref (a 0)), (1, .int x1), (2, .int x2), (3, .int x3), (4, .int x4), (5, .int x5)] → kb_W D vwCl [(cI, .int), (cZ, .boolean)] A s H locs (mW cI cZ a z) → pM_request_J31 x1 x2 x3 x4 x5 s0 z = some (r, z') → W p l e rm_M_request s m args below meth c H locs 0 0 (MQ below (kb_Qi D vwCl sz (mW cI cZ a z0) r (mW cI cZ a z')) args s 0 0 (va_A (mW cI cZ a z0) sz)) (F0 m 31 ls [.int s0, .ref (a 0)]) := by
    intro x1 x2 x3 x4 x5 s0 z H locs ls hl w h
    unfold pM_request_J31 at h
    obtain ⟨z4, hz5, h⟩ := kb_st_of h
    refine kb_puti S w 0 rfl gM_81 (Nat.le_of_ble_eq_true rfl) (ws1 := mW cI cZ a z4) (by rw [hz5]; rfl) dM_request_31 (fun H locs w => ?_)
    refine lv_aload_n S.1 S.2.1 dM_request_34 rfl (lv_at hl 0 rfl) ?_
    refine kb_get S w 0 rfl fM_81 rfl dM_request_35 ?_
    refine W.eq (g2 := F0 m 38 ls [.int (z4 0 0)]) rfl ?_
    refine lv_if_eq (tgt := 43) S.1 S.2.1 dM_request_38 (by decide) (fun hc => ?_) (fun hc => ?_)
    · have h := (kb_brt hc).symm.trans h
      refine lv_aload_n S.1 S.2.1 dM_request_43 rfl (lv_at hl 0 rfl) ?_
      refine kb_get S w 0 rfl fM_40 rfl dM_request_44 ?_
      refine W.eq (g2 := F0 m 47 ls [.ref (a 11)]) rfl ?_
      refine lv_aload_n S.1 S.2.1 dM_request_47 rfl (lv_at hl 0 rfl) ?_
      refine kb_get S w 0 rfl fM_113 rfl dM_request_48 ?_
      refine W.eq (g2 := F0 m 51 ls [.int (z4 0 4), .ref (a 11)]) rfl ?_
      refine lv_aload_n S.1 S.2.1 dM_request_51 rfl (lv_at hl 0 rfl) ?_
      refine kb_get S w 0 rfl fM_116 rfl dM_request_52 ?_
      refine W.eq (g2 := F0 m 55 ls [.int (z4 0 5), .int (z4 0 4), .ref (a 11)]) rfl ?_
      obtain ⟨hi6, h⟩ := kb_ck_of h
      obtain ⟨z7, hz8, h⟩ := kb_st_of h
      refine kb_iast S w 11 0 rfl rfl hi6 (ws1 := mW cI cZ a z7) (by rw [hz8]; rfl) dM_request_55 (fun H locs w => ?_)
      refine lv_aload_n S.1 S.2.1 dM_request_56 rfl (lv_at hl 0 rfl) ?_
      refine kb_get S w 0 rfl fM_43 rfl dM_request_57 ?_
      refine W.eq (g2 := F0 m 60 ls [.ref (a 12)]) rfl ?_
      refine lv_aload_n S.1 S.2.1 dM_request_60 rfl (lv_at hl 0 rfl) ?_
      refine kb_get S w 0 rfl fM_113 rfl dM_request_61 ?_
      refine W.eq (g2 := F0 m 64 ls [.int (z7 0 4), .ref (a 12)]) rfl ?_
      refine lv_iload_n S.1 S.2.1 dM_request_64 rfl (lv_at hl 1 rfl) ?_
      obtain ⟨hi9, h⟩ := kb_ck_of h
      obtain ⟨z10, hz11, h⟩ := kb_st_of h
      refine kb_iast S w 12 0 rfl rfl hi9 (ws1 := mW cI cZ a z10) (by rw [hz11]; rfl) dM_request_65 (fun H locs w => ?_)
      refine lv_aload_n S.1 S.2.1 dM_request_66 rfl (lv_at hl 0 rfl) ?_
      refine kb_get S w 0 rfl fM_46 rfl dM_request_67 ?_
      refine W.eq (g2 := F0 m 70 ls [.ref (a 13)]) rfl ?_
      refine lv_aload_n S.1 S.2.1 dM_request_70 rfl (lv_at hl 0 rfl) ?_
      refine kb_get S w 0 rfl fM_113 rfl dM_request_71 ?_
      refine W.eq (g2 := F0 m 74 ls [.int (z10 0 4), .ref (a 13)]) rfl ?_
      refine lv_iload_n S.1 S.2.1 dM_request_74 rfl (lv_at hl 2 rfl) ?_
      obtain ⟨hi12, h⟩ := kb_ck_of h
      obtain ⟨z13, hz14, h⟩ := kb_st_of h
      refine kb_iast S w 13 0 rfl rfl hi12 (ws1 := mW cI cZ a z13) (by rw [hz14]; rfl) dM_request_75 (fun H locs w => ?_)
      refine lv_aload_n S.1 S.2.1 dM_request_76 rfl (lv_at hl 0 rfl) ?_
      refine kb_get S w 0 rfl fM_49 rfl dM_request_77 ?_
      refine W.eq (g2 := F0 m 80 ls [.ref (a 14)]) rfl ?_
      refine lv_aload_n S.1 S.2.1 dM_request_80 rfl (lv_at hl 0 rfl) ?_
      refine kb_get S w 0 rfl fM_113 rfl dM_request_81 ?_
      refine W.eq (g2 := F0 m 84 ls [.int (z13 0 4), .ref (a 14)]) rfl ?_
      refine lv_iload_n S.1 S.2.1 dM_request_84 rfl (lv_at hl 3 rfl) ?_
      obtain ⟨hi15, h⟩ := kb_ck_of h
      obtain ⟨z16, hz17, h⟩ := kb_st_of h
      refine kb_iast S w 14 0 rfl rfl hi15 (ws1 := mW cI cZ a z16) (by rw [hz17]; rfl) dM_request_85 (fun H locs w => ?_)
      refine lv_aload_n S.1 S.2.1 dM_request_86 rfl (lv_at hl 0 rfl) ?_
      refine kb_get S w 0 rfl fM_52 rfl dM_request_87 ?_
      refine W.eq (g2 := F0 m 90 ls [.ref (a 15)]) rfl ?_
      refine lv_aload_n S.1 S.2.1 dM_request_90 rfl (lv_at hl 0 rfl) ?_
      refine kb_get S w 0 rfl fM_113 rfl dM_request_91 ?_
      refine W.eq (g2 := F0 m 94 ls [.int (z16 0 4), .ref (a 15)]) rfl ?_
      refine lv_iload S.1 S.2.1 dM_request_94 (lv_at hl 4 rfl) ?_
      obtain ⟨hi18, h⟩ := kb_ck_of h
      obtain ⟨z19, hz20, h⟩ := kb_st_of h
      refine kb_zast S w 15 1 rfl rfl hi18 (ws1 := mW cI cZ a z19) (by rw [hz20]; rfl) dM_request_96 (fun H locs w => ?_)
      refine lv_aload_n S.1 S.2.1 dM_request_97 rfl (lv_at hl 0 rfl) ?_
      refine kb_get S w 0 rfl fM_56 rfl dM_request_98 ?_
      refine W.eq (g2 := F0 m 101 ls [.ref (a 16)]) rfl ?_
      refine lv_aload_n S.1 S.2.1 dM_request_101 rfl (lv_at hl 0 rfl) ?_
      refine kb_get S w 0 rfl fM_113 rfl dM_request_102 ?_
      refine W.eq (g2 := F0 m 105 ls [.int (z19 0 4), .ref (a 16)]) rfl ?_
      refine lv_iload S.1 S.2.1 dM_request_105 (lv_at hl 5 rfl) ?_
      obtain ⟨hi21, h⟩ := kb_ck_of h
      obtain ⟨z22, hz23, h⟩ := kb_st_of h
      refine kb_iast S w 16 0 rfl rfl hi21 (ws1 := mW cI cZ a z22) (by rw [hz23]; rfl) dM_request_107 (fun H locs w => ?_)
      refine lv_aload_n S.1 S.2.1 dM_request_108 rfl (lv_at hl 0 rfl) ?_
      refine kb_get S w 0 rfl fM_59 rfl dM_request_109 ?_
      refine W.eq (g2 := F0 m 112 ls [.ref (a 17)]) rfl ?_
      refine lv_aload_n S.1 S.2.1 dM_request_112 rfl (lv_at hl 0 rfl) ?_
      refine kb_get S w 0 rfl fM_113 rfl dM_request_113 ?_
      refine W.eq (g2 := F0 m 116 ls [.int (z22 0 4), .ref (a 17)]) rfl ?_
      refine lv_aload_n S.1 S.2.1 dM_request_116 rfl (lv_at hl 0 rfl) ?_
      refine kb_get S w 0 rfl fM_34 rfl dM_request_117 ?_
      refine W.eq (g2 := F0 m 120 ls [.ref (a 9), .int (z22 0 4), .ref (a 17)]) rfl ?_
      refine lv_iconst (v := 0) S.1 S.2.1 dM_request_120 (by decide) ?_
      obtain ⟨hi24, h⟩ := kb_ck_of h
      refine kb_iald S w 9 0 rfl rfl hi24 dM_request_121 ?_
      refine W.eq (g2 := F0 m 122 ls [.int (z22 9 (kb_ix (0))), .int (z22 0 4), .ref (a 17)]) rfl ?_
      obtain ⟨hi25, h⟩ := kb_ck_of h
      obtain ⟨z26, hz27, h⟩ := kb_st_of h
      refine kb_iast S w 17 0 rfl rfl hi25 (ws1 := mW cI cZ a z26) (by rw [hz27]; rfl) dM_request_122 (fun H locs w => ?_)
      refine lv_aload_n S.1 S.2.1 dM_request_123 rfl (lv_at hl 0 rfl) ?_
      refine lv_dup S.1 S.2.1 dM_request_124 rfl ?_
      refine kb_get S w 0 rfl fM_113 rfl dM_request_125 ?_
      refine W.eq (g2 := F0 m 128 ls [.int (z26 0 4), .ref (a 0)]) rfl ?_
      refine lv_iconst (v := 1) S.1 S.2.1 dM_request_128 (by decide) ?_
      refine lv_iadd S.1 S.2.1 dM_request_129 ?_
      obtain ⟨z28, hz29, h⟩ := kb_st_of h
      refine kb_puti S w 0 rfl gM_113 (Nat.le_of_ble_eq_true rfl) (ws1 := mW cI cZ a z28) (by rw [hz29]; rfl) dM_request_130 (fun H locs w => ?_)
      refine lv_aload_n S.1 S.2.1 dM_request_133 rfl (lv_at hl 0 rfl) ?_
      refine kb_get S w 0 rfl fM_62 rfl dM_request_134 ?_
      refine W.eq (g2 := F0 m 137 ls [.ref (a 18)]) rfl ?_
      refine lv_aload_n S.1 S.2.1 dM_request_137 rfl (lv_at hl 0 rfl) ?_
      refine kb_get S w 0 rfl fM_116 rfl dM_request_138 ?_
      refine W.eq (g2 := F0 m 141 ls [.int (z28 0 5), .ref (a 18)]) rfl ?_
      refine lv_bipush (v := 32) S.1 S.2.1 dM_request_141 (by decide) ?_
      refine lv_irem S.1 S.2.1 dM_request_143 (by decide) ?_
      refine lv_iconst (v := (-1)) S.1 S.2.1 dM_request_144 (by decide) ?_
      obtain ⟨hi30, h⟩ := kb_ck_of h
      obtain ⟨z31, hz32, h⟩ := kb_st_of h
      refine kb_iast S w 18 0 rfl rfl hi30 (ws1 := mW cI cZ a z31) (by rw [hz32]; rfl) dM_request_145 (fun H locs w => ?_)
      refine lv_aload_n S.1 S.2.1 dM_request_146 rfl (lv_at hl 0 rfl) ?_
      refine lv_dup S.1 S.2.1 dM_request_147 rfl ?_
      refine kb_get S w 0 rfl fM_116 rfl dM_request_148 ?_
      refine W.eq (g2 := F0 m 151 ls [.int (z31 0 5), .ref (a 0)]) rfl ?_
      refine lv_iconst (v := 1) S.1 S.2.1 dM_request_151 (by decide) ?_
      refine lv_iadd S.1 S.2.1 dM_request_152 ?_
      obtain ⟨z33, hz34, h⟩ := kb_st_of h
      refine kb_puti S w 0 rfl gM_116 (Nat.le_of_ble_eq_true rfl) (ws1 := mW cI cZ a z33) (by rw [hz34]; rfl) dM_request_153 (fun H locs w => ?_)
      refine lv_aload_n S.1 S.2.1 dM_request_156 rfl (lv_at hl 0 rfl) ?_
      refine kb_get S w 0 rfl fM_116 rfl dM_request_157 ?_
      refine W.eq (g2 := F0 m 160 ls [.int (z33 0 5)]) rfl ?_
      refine lv_iconst (v := 1) S.1 S.2.1 dM_request_160 (by decide) ?_
      refine lv_isub S.1 S.2.1 dM_request_161 ?_
      exact kb_iret (mW cI cZ a) S hr hlk hA w h dM_request_162
    · have h := (kb_brf hc).symm.trans h
      refine lv_iconst (v := 0) S.1 S.2.1 dM_request_41 (by decide) ?_
      exact kb_iret (mW cI cZ a) S hr hlk hA w h dM_request_42
  refine lv_aload_n S.1 S.2.1 dM_request_0 rfl (lv_at hl 0 rfl) ?_
  refine lv_aload_n S.1 S.2.1 dM_request_1 rfl (lv_at hl 0 rfl) ?_
  refine lv_iload_n S.1 S.2.1 dM_request_2 rfl (lv_at hl 1 rfl) ?_
  refine lv_iload_n S.1 S.2.1 dM_request_3 rfl (lv_at hl 2 rfl) ?_
  refine lv_iload_n S.1 S.2.1 dM_request_4 rfl (lv_at hl 3 rfl) ?_
  obtain ⟨r2, z1, hc3, h⟩ := kb_cl_of h
  refine kb_calli (As := [.int x1, .int x2, .int x3]) (rest := [.ref (a 0)]) (q0 := 0) (ci := 3) S w (fun sz => cM_isWord l D cI cZ a _ _ _ sz x1 x2 x3 hc3) Y_M_isWord I_M_isWord S_M_isWord lM_110 ⟨rfl, rfl, Nat.le_of_ble_eq_true rfl, Nat.le_of_ble_eq_true rfl⟩ rfl rfl rfl rfl hl.1 rfl (Nat.le_of_ble_eq_true rfl) dM_request_5 ⟨Nat.le_of_ble_eq_true rfl, Nat.le_of_ble_eq_true rfl⟩ (fun H locs w => ?_)
  refine lv_if_ne (tgt := 15) S.1 S.2.1 dM_request_8 (by decide) (fun hc => ?_) (fun hc => ?_)
  · have h := (kb_brf hc).symm.trans h
    refine lv_aload_n S.1 S.2.1 dM_request_15 rfl (lv_at hl 0 rfl) ?_
    refine kb_get S w 0 rfl fM_113 rfl dM_request_16 ?_
    refine W.eq (g2 := F0 m 19 ls [.int (z1 0 4), .ref (a 0)]) rfl ?_
    refine lv_aload_n S.1 S.2.1 dM_request_19 rfl (lv_at hl 0 rfl) ?_
    refine kb_get S w 0 rfl fM_75 rfl dM_request_20 ?_
    refine W.eq (g2 := F0 m 23 ls [.int (z1 0 2), .int (z1 0 4), .ref (a 0)]) rfl ?_
    refine lv_icmp_ne (tgt := 30) S.1 S.2.1 dM_request_23 (by decide) (fun hc => ?_) (fun hc => ?_)
    · have h := (kb_brf hc).symm.trans h
      refine lv_iconst (v := 0) S.1 S.2.1 dM_request_30 (by decide) ?_
      exact J31 x1 x2 x3 x4 x5 0 z1 _ _ _ (lv_sub hl [0, 1, 2, 3, 4, 5] rfl) w h
    · have h := (kb_brt hc).symm.trans h
      refine lv_iconst (v := 2) S.1 S.2.1 dM_request_26 (by decide) ?_
      refine lv_goto (tgt := 31) S.1 S.2.1 dM_request_27 (by decide) ?_
      exact J31 x1 x2 x3 x4 x5 2 z1 _ _ _ (lv_sub hl [0, 1, 2, 3, 4, 5] rfl) w h
  · have h := (kb_brt hc).symm.trans h
    refine lv_iconst (v := 1) S.1 S.2.1 dM_request_11 (by decide) ?_
    refine lv_goto (tgt := 31) S.1 S.2.1 dM_request_12 (by decide) ?_
    exact J31 x1 x2 x3 x4 x5 1 z1 _ _ _ (lv_sub hl [0, 1, 2, 3, 4, 5] rfl) w h
set_option maxHeartbeats 4000000 in
set_option maxRecDepth 100000 in
theorem cM_read (l : Launch) (D : va_G) (cI cZ : ClassId) (a : Nat → Nat) (z0 z' : kb_S) (r : Int32) (sz : Nat) (x1 : Int32) (x2 : Int32) (x3 : Int32) (h : pM_read x1 x2 x3 z0 = some (r, z')) : Met l y_M_read (Cond.code y_M_read c_M_read 4 (some .int) :: wsB) rm_M_read (kb_Pc D vwCl [(cI, .int), (cZ, .boolean)] sz [.ref (a 0), .int x1, .int x2, .int x3] (mW cI cZ a z0)) (kb_Qi D vwCl sz (mW cI cZ a z0) r (mW cI cZ a z')) 0 0 (va_A (mW cI cZ a z0) sz) := by
  refine kb_start (by decide) rfl (Nat.le_of_ble_eq_true rfl) ?_
  intro p e s m args below meth c A ls S hr hlk hsz hA w hl
  have hl : lv_has ls 4 [(0, .ref (a 0)), (1, .int x1), (2, .int x2), (3, .int x3)] := hl
  unfold pM_read at h
  refine lv_aload_n S.1 S.2.1 dM_read_0 rfl (lv_at hl 0 rfl) ?_
  refine lv_iload_n S.1 S.2.1 dM_read_1 rfl (lv_at hl 1 rfl) ?_
  refine lv_iload_n S.1 S.2.1 dM_read_2 rfl (lv_at hl 2 rfl) ?_
  refine lv_iload_n S.1 S.2.1 dM_read_3 rfl (lv_at hl 3 rfl) ?_
  refine lv_iconst (v := 0) S.1 S.2.1 dM_read_4 (by decide) ?_
  refine lv_iconst (v := 0) S.1 S.2.1 dM_read_5 (by decide) ?_
  obtain ⟨r2, z1, hc3, h⟩ := kb_cl_of h
  refine kb_calli (As := [.int x1, .int x2, .int x3, .int 0, .int 0]) (rest := []) (q0 := 0) (ci := 3) S w (fun sz => cM_request l D cI cZ a _ _ _ sz x1 x2 x3 0 0 hc3) Y_M_request I_M_request S_M_request lM_119 ⟨rfl, rfl, Nat.le_of_ble_eq_true rfl, Nat.le_of_ble_eq_true rfl⟩ rfl rfl rfl rfl hl.1 rfl (Nat.le_of_ble_eq_true rfl) dM_read_6 ⟨Nat.le_of_ble_eq_true rfl, Nat.le_of_ble_eq_true rfl⟩ (fun H locs w => ?_)
  exact kb_iret (mW cI cZ a) S hr hlk hA w h dM_read_9
set_option maxHeartbeats 4000000 in
set_option maxRecDepth 100000 in
theorem cM_write (l : Launch) (D : va_G) (cI cZ : ClassId) (a : Nat → Nat) (z0 z' : kb_S) (r : Int32) (sz : Nat) (x1 : Int32) (x2 : Int32) (x3 : Int32) (x4 : Int32) (h : pM_write x1 x2 x3 x4 z0 = some (r, z')) : Met l y_M_write (Cond.code y_M_write c_M_write 5 (some .int) :: wsB) rm_M_write (kb_Pc D vwCl [(cI, .int), (cZ, .boolean)] sz [.ref (a 0), .int x1, .int x2, .int x3, .int x4] (mW cI cZ a z0)) (kb_Qi D vwCl sz (mW cI cZ a z0) r (mW cI cZ a z')) 0 0 (va_A (mW cI cZ a z0) sz) := by
  refine kb_start (by decide) rfl (Nat.le_of_ble_eq_true rfl) ?_
  intro p e s m args below meth c A ls S hr hlk hsz hA w hl
  have hl : lv_has ls 5 [(0, .ref (a 0)), (1, .int x1), (2, .int x2), (3, .int x3), (4, .int x4)] := hl
  unfold pM_write at h
  refine lv_aload_n S.1 S.2.1 dM_write_0 rfl (lv_at hl 0 rfl) ?_
  refine lv_iload_n S.1 S.2.1 dM_write_1 rfl (lv_at hl 1 rfl) ?_
  refine lv_iload_n S.1 S.2.1 dM_write_2 rfl (lv_at hl 2 rfl) ?_
  refine lv_iload_n S.1 S.2.1 dM_write_3 rfl (lv_at hl 3 rfl) ?_
  refine lv_iconst (v := 1) S.1 S.2.1 dM_write_4 (by decide) ?_
  refine lv_iload S.1 S.2.1 dM_write_5 (lv_at hl 4 rfl) ?_
  obtain ⟨r2, z1, hc3, h⟩ := kb_cl_of h
  refine kb_calli (As := [.int x1, .int x2, .int x3, .int 1, .int x4]) (rest := []) (q0 := 0) (ci := 3) S w (fun sz => cM_request l D cI cZ a _ _ _ sz x1 x2 x3 1 x4 hc3) Y_M_request I_M_request S_M_request lM_119 ⟨rfl, rfl, Nat.le_of_ble_eq_true rfl, Nat.le_of_ble_eq_true rfl⟩ rfl rfl rfl rfl hl.1 rfl (Nat.le_of_ble_eq_true rfl) dM_write_7 ⟨Nat.le_of_ble_eq_true rfl, Nat.le_of_ble_eq_true rfl⟩ (fun H locs w => ?_)
  exact kb_iret (mW cI cZ a) S hr hlk hA w h dM_write_10
set_option maxHeartbeats 4000000 in
set_option maxRecDepth 100000 in
theorem cM_serve (l : Launch) (D : va_G) (cI cZ : ClassId) (a : Nat → Nat) (z0 z' : kb_S) (r : Int32) (sz : Nat) (x1 : Int32) (h : pM_serve x1 z0 = some (r, z')) : Met l y_M_serve (Cond.code y_M_serve c_M_serve 5 none :: wsB) rm_M_serve (kb_Pc D vwCl [(cI, .int), (cZ, .boolean)] sz [.ref (a 0), .int x1] (mW cI cZ a z0)) (kb_Qv D vwCl sz (mW cI cZ a z0) (mW cI cZ a z')) 0 0 (va_A (mW cI cZ a z0) sz) := by
  refine kb_start (by decide) rfl (Nat.le_of_ble_eq_true rfl) ?_
  intro p e s m args below meth c A ls S hr hlk hsz hA w hl
  have hl : lv_has ls 5 [(0, .ref (a 0)), (1, .int x1)] := hl
  unfold pM_serve at h
  have L182 : ∀ (n : Nat) (x4 : Int32) (z : kb_S) (H : Heap) (locs : List Loc) (ls : Array Slot), lv_has ls 5 [(0, .ref (a 0)), (4, .int x4)] → kb_W D vwCl [(cI, .int), (cZ, .boolean)] A s H locs (mW cI cZ a z) → pM_serve_L182 n x4 z = some (r, z') → W p l e rm_M_serve s m args below meth c H locs 0 0 (MQ below (kb_Qv D vwCl sz (mW cI cZ a z0) (mW cI cZ a z')) args s 0 0 (va_A (mW cI cZ a z0) sz)) (F0 m 182 ls []) := by
    intro n
    induction n with
    | zero =>
      intro x4 z H locs ls hl w h
      exact absurd h (by simp [pM_serve_L182])
    | succ n ih =>
      intro x4 z H locs ls hl w h
      rw [pM_serve_L182] at h
      refine lv_iload S.1 S.2.1 dM_serve_182 (lv_at hl 1 rfl) ?_
      refine lv_aload_n S.1 S.2.1 dM_serve_184 rfl (lv_at hl 0 rfl) ?_
      refine kb_get S w 0 rfl fM_113 rfl dM_serve_185 ?_
      refine W.eq (g2 := F0 m 188 ls [.int (z 0 4), .int x4]) rfl ?_
      refine lv_icmp_ge (tgt := 309) S.1 S.2.1 dM_serve_188 (by decide) (fun hc => ?_) (fun hc => ?_)
      · have h := (kb_brt hc).symm.trans h
        exact kb_vret (mW cI cZ a) (v := 0) (r := r) S hr hlk hA w h dM_serve_309
      · have h := (kb_brf hc).symm.trans h
        refine lv_aload_n S.1 S.2.1 dM_serve_191 rfl (lv_at hl 0 rfl) ?_
        refine kb_get S w 0 rfl fM_40 rfl dM_serve_192 ?_
        refine W.eq (g2 := F0 m 195 ls [.ref (a 11)]) rfl ?_
        refine lv_iload S.1 S.2.1 dM_serve_195 (lv_at hl 1 rfl) ?_
        refine lv_aload_n S.1 S.2.1 dM_serve_197 rfl (lv_at hl 0 rfl) ?_
        refine kb_get S w 0 rfl fM_40 rfl dM_serve_198 ?_
        refine W.eq (g2 := F0 m 201 ls [.ref (a 11), .int x4, .ref (a 11)]) rfl ?_
        refine lv_iload S.1 S.2.1 dM_serve_201 (lv_at hl 1 rfl) ?_
        refine lv_iconst (v := 1) S.1 S.2.1 dM_serve_203 (by decide) ?_
        refine lv_iadd S.1 S.2.1 dM_serve_204 ?_
        obtain ⟨hi16, h⟩ := kb_ck_of h
        refine kb_iald S w 11 0 rfl rfl hi16 dM_serve_205 ?_
        refine W.eq (g2 := F0 m 206 ls [.int (z 11 (kb_ix (x4 + 1))), .int x4, .ref (a 11)]) rfl ?_
        obtain ⟨hi17, h⟩ := kb_ck_of h
        obtain ⟨z18, hz19, h⟩ := kb_st_of h
        refine kb_iast S w 11 0 rfl rfl hi17 (ws1 := mW cI cZ a z18) (by rw [hz19]; rfl) dM_serve_206 (fun H locs w => ?_)
        refine lv_aload_n S.1 S.2.1 dM_serve_207 rfl (lv_at hl 0 rfl) ?_
        refine kb_get S w 0 rfl fM_43 rfl dM_serve_208 ?_
        refine W.eq (g2 := F0 m 211 ls [.ref (a 12)]) rfl ?_
        refine lv_iload S.1 S.2.1 dM_serve_211 (lv_at hl 1 rfl) ?_
        refine lv_aload_n S.1 S.2.1 dM_serve_213 rfl (lv_at hl 0 rfl) ?_
        refine kb_get S w 0 rfl fM_43 rfl dM_serve_214 ?_
        refine W.eq (g2 := F0 m 217 ls [.ref (a 12), .int x4, .ref (a 12)]) rfl ?_
        refine lv_iload S.1 S.2.1 dM_serve_217 (lv_at hl 1 rfl) ?_
        refine lv_iconst (v := 1) S.1 S.2.1 dM_serve_219 (by decide) ?_
        refine lv_iadd S.1 S.2.1 dM_serve_220 ?_
        obtain ⟨hi20, h⟩ := kb_ck_of h
        refine kb_iald S w 12 0 rfl rfl hi20 dM_serve_221 ?_
        refine W.eq (g2 := F0 m 222 ls [.int (z18 12 (kb_ix (x4 + 1))), .int x4, .ref (a 12)]) rfl ?_
        obtain ⟨hi21, h⟩ := kb_ck_of h
        obtain ⟨z22, hz23, h⟩ := kb_st_of h
        refine kb_iast S w 12 0 rfl rfl hi21 (ws1 := mW cI cZ a z22) (by rw [hz23]; rfl) dM_serve_222 (fun H locs w => ?_)
        refine lv_aload_n S.1 S.2.1 dM_serve_223 rfl (lv_at hl 0 rfl) ?_
        refine kb_get S w 0 rfl fM_46 rfl dM_serve_224 ?_
        refine W.eq (g2 := F0 m 227 ls [.ref (a 13)]) rfl ?_
        refine lv_iload S.1 S.2.1 dM_serve_227 (lv_at hl 1 rfl) ?_
        refine lv_aload_n S.1 S.2.1 dM_serve_229 rfl (lv_at hl 0 rfl) ?_
        refine kb_get S w 0 rfl fM_46 rfl dM_serve_230 ?_
        refine W.eq (g2 := F0 m 233 ls [.ref (a 13), .int x4, .ref (a 13)]) rfl ?_
        refine lv_iload S.1 S.2.1 dM_serve_233 (lv_at hl 1 rfl) ?_
        refine lv_iconst (v := 1) S.1 S.2.1 dM_serve_235 (by decide) ?_
        refine lv_iadd S.1 S.2.1 dM_serve_236 ?_
        obtain ⟨hi24, h⟩ := kb_ck_of h
        refine kb_iald S w 13 0 rfl rfl hi24 dM_serve_237 ?_
        refine W.eq (g2 := F0 m 238 ls [.int (z22 13 (kb_ix (x4 + 1))), .int x4, .ref (a 13)]) rfl ?_
        obtain ⟨hi25, h⟩ := kb_ck_of h
        obtain ⟨z26, hz27, h⟩ := kb_st_of h
        refine kb_iast S w 13 0 rfl rfl hi25 (ws1 := mW cI cZ a z26) (by rw [hz27]; rfl) dM_serve_238 (fun H locs w => ?_)
        refine lv_aload_n S.1 S.2.1 dM_serve_239 rfl (lv_at hl 0 rfl) ?_
        refine kb_get S w 0 rfl fM_49 rfl dM_serve_240 ?_
        refine W.eq (g2 := F0 m 243 ls [.ref (a 14)]) rfl ?_
        refine lv_iload S.1 S.2.1 dM_serve_243 (lv_at hl 1 rfl) ?_
        refine lv_aload_n S.1 S.2.1 dM_serve_245 rfl (lv_at hl 0 rfl) ?_
        refine kb_get S w 0 rfl fM_49 rfl dM_serve_246 ?_
        refine W.eq (g2 := F0 m 249 ls [.ref (a 14), .int x4, .ref (a 14)]) rfl ?_
        refine lv_iload S.1 S.2.1 dM_serve_249 (lv_at hl 1 rfl) ?_
        refine lv_iconst (v := 1) S.1 S.2.1 dM_serve_251 (by decide) ?_
        refine lv_iadd S.1 S.2.1 dM_serve_252 ?_
        obtain ⟨hi28, h⟩ := kb_ck_of h
        refine kb_iald S w 14 0 rfl rfl hi28 dM_serve_253 ?_
        refine W.eq (g2 := F0 m 254 ls [.int (z26 14 (kb_ix (x4 + 1))), .int x4, .ref (a 14)]) rfl ?_
        obtain ⟨hi29, h⟩ := kb_ck_of h
        obtain ⟨z30, hz31, h⟩ := kb_st_of h
        refine kb_iast S w 14 0 rfl rfl hi29 (ws1 := mW cI cZ a z30) (by rw [hz31]; rfl) dM_serve_254 (fun H locs w => ?_)
        refine lv_aload_n S.1 S.2.1 dM_serve_255 rfl (lv_at hl 0 rfl) ?_
        refine kb_get S w 0 rfl fM_52 rfl dM_serve_256 ?_
        refine W.eq (g2 := F0 m 259 ls [.ref (a 15)]) rfl ?_
        refine lv_iload S.1 S.2.1 dM_serve_259 (lv_at hl 1 rfl) ?_
        refine lv_aload_n S.1 S.2.1 dM_serve_261 rfl (lv_at hl 0 rfl) ?_
        refine kb_get S w 0 rfl fM_52 rfl dM_serve_262 ?_
        refine W.eq (g2 := F0 m 265 ls [.ref (a 15), .int x4, .ref (a 15)]) rfl ?_
        refine lv_iload S.1 S.2.1 dM_serve_265 (lv_at hl 1 rfl) ?_
        refine lv_iconst (v := 1) S.1 S.2.1 dM_serve_267 (by decide) ?_
        refine lv_iadd S.1 S.2.1 dM_serve_268 ?_
        obtain ⟨hi32, h⟩ := kb_ck_of h
        refine kb_zald S w 15 1 rfl rfl hi32 dM_serve_269 ?_
        refine W.eq (g2 := F0 m 270 ls [.int (z30 15 (kb_ix (x4 + 1))), .int x4, .ref (a 15)]) rfl ?_
        obtain ⟨hi33, h⟩ := kb_ck_of h
        obtain ⟨z34, hz35, h⟩ := kb_st_of h
        refine kb_zast S w 15 1 rfl rfl hi33 (ws1 := mW cI cZ a z34) (by rw [hz35]; rfl) dM_serve_270 (fun H locs w => ?_)
        refine lv_aload_n S.1 S.2.1 dM_serve_271 rfl (lv_at hl 0 rfl) ?_
        refine kb_get S w 0 rfl fM_56 rfl dM_serve_272 ?_
        refine W.eq (g2 := F0 m 275 ls [.ref (a 16)]) rfl ?_
        refine lv_iload S.1 S.2.1 dM_serve_275 (lv_at hl 1 rfl) ?_
        refine lv_aload_n S.1 S.2.1 dM_serve_277 rfl (lv_at hl 0 rfl) ?_
        refine kb_get S w 0 rfl fM_56 rfl dM_serve_278 ?_
        refine W.eq (g2 := F0 m 281 ls [.ref (a 16), .int x4, .ref (a 16)]) rfl ?_
        refine lv_iload S.1 S.2.1 dM_serve_281 (lv_at hl 1 rfl) ?_
        refine lv_iconst (v := 1) S.1 S.2.1 dM_serve_283 (by decide) ?_
        refine lv_iadd S.1 S.2.1 dM_serve_284 ?_
        obtain ⟨hi36, h⟩ := kb_ck_of h
        refine kb_iald S w 16 0 rfl rfl hi36 dM_serve_285 ?_
        refine W.eq (g2 := F0 m 286 ls [.int (z34 16 (kb_ix (x4 + 1))), .int x4, .ref (a 16)]) rfl ?_
        obtain ⟨hi37, h⟩ := kb_ck_of h
        obtain ⟨z38, hz39, h⟩ := kb_st_of h
        refine kb_iast S w 16 0 rfl rfl hi37 (ws1 := mW cI cZ a z38) (by rw [hz39]; rfl) dM_serve_286 (fun H locs w => ?_)
        refine lv_aload_n S.1 S.2.1 dM_serve_287 rfl (lv_at hl 0 rfl) ?_
        refine kb_get S w 0 rfl fM_59 rfl dM_serve_288 ?_
        refine W.eq (g2 := F0 m 291 ls [.ref (a 17)]) rfl ?_
        refine lv_iload S.1 S.2.1 dM_serve_291 (lv_at hl 1 rfl) ?_
        refine lv_aload_n S.1 S.2.1 dM_serve_293 rfl (lv_at hl 0 rfl) ?_
        refine kb_get S w 0 rfl fM_59 rfl dM_serve_294 ?_
        refine W.eq (g2 := F0 m 297 ls [.ref (a 17), .int x4, .ref (a 17)]) rfl ?_
        refine lv_iload S.1 S.2.1 dM_serve_297 (lv_at hl 1 rfl) ?_
        refine lv_iconst (v := 1) S.1 S.2.1 dM_serve_299 (by decide) ?_
        refine lv_iadd S.1 S.2.1 dM_serve_300 ?_
        obtain ⟨hi40, h⟩ := kb_ck_of h
        refine kb_iald S w 17 0 rfl rfl hi40 dM_serve_301 ?_
        refine W.eq (g2 := F0 m 302 ls [.int (z38 17 (kb_ix (x4 + 1))), .int x4, .ref (a 17)]) rfl ?_
        obtain ⟨hi41, h⟩ := kb_ck_of h
        obtain ⟨z42, hz43, h⟩ := kb_st_of h
        refine kb_iast S w 17 0 rfl rfl hi41 (ws1 := mW cI cZ a z42) (by rw [hz43]; rfl) dM_serve_302 (fun H locs w => ?_)
        refine lv_iinc (v := x4 + 1) (k := 1) S.1 S.2.1 dM_serve_303 hl rfl rfl (by decide) rfl (fun ls hl => ?_)
        have hl : lv_has ls 5 [(4, .int (x4 + 1)), (0, .ref (a 0))] := hl
        refine lv_goto (tgt := 182) S.1 S.2.1 dM_serve_306 (by decide) ?_
        exact ih (x4 + 1) z42 _ _ _ (lv_sub hl [1, 0] rfl) w h
  have J169 : ∀ (x1 : Int32) (z : kb_S) (H : Heap) (locs : List Loc) (ls : Array Slot), lv_has ls 5 [(0, .ref (a 0)), (1, .int x1)] → kb_W D vwCl [(cI, .int), (cZ, .boolean)] A s H locs (mW cI cZ a z) → pM_serve_J169 x1 z = some (r, z') → W p l e rm_M_serve s m args below meth c H locs 0 0 (MQ below (kb_Qv D vwCl sz (mW cI cZ a z0) (mW cI cZ a z')) args s 0 0 (va_A (mW cI cZ a z0) sz)) (F0 m 169 ls []) := by
    intro x1 z H locs ls hl w h
    unfold pM_serve_J169 at h
    refine lv_aload_n S.1 S.2.1 dM_serve_169 rfl (lv_at hl 0 rfl) ?_
    refine lv_dup S.1 S.2.1 dM_serve_170 rfl ?_
    refine kb_get S w 0 rfl fM_113 rfl dM_serve_171 ?_
    refine W.eq (g2 := F0 m 174 ls [.int (z 0 4), .ref (a 0)]) rfl ?_
    refine lv_iconst (v := 1) S.1 S.2.1 dM_serve_174 (by decide) ?_
    refine lv_isub S.1 S.2.1 dM_serve_175 ?_
    obtain ⟨z14, hz15, h⟩ := kb_st_of h
    refine kb_puti S w 0 rfl gM_113 (Nat.le_of_ble_eq_true rfl) (ws1 := mW cI cZ a z14) (by rw [hz15]; rfl) dM_serve_176 (fun H locs w => ?_)
    refine lv_iload_n S.1 S.2.1 dM_serve_179 rfl (lv_at hl 1 rfl) ?_
    refine lv_istore S.1 S.2.1 dM_serve_180 hl (by decide) rfl (fun ls hl => ?_)
    have hl : lv_has ls 5 [(4, .int x1), (0, .ref (a 0)), (1, .int x1)] := hl
    exact L182 3000 x1 z14 _ _ _ (lv_sub hl [1, 0] rfl) w h
  have J148 : ∀ (x1 : Int32) (x2 : Int32) (s0 : Int32) (s1 : Int32) (z : kb_S) (H : Heap) (locs : List Loc) (ls : Array Slot), lv_has ls 5 [(0, .ref (a 0)), (1, .int x1), (2, .int x2)] → kb_W D vwCl [(cI, .int), (cZ, .boolean)] A s H locs (mW cI cZ a z) → pM_serve_J148 x1 x2 s0 s1 z = some (r, z') → W p l e rm_M_serve s m args below meth c H locs 0 0 (MQ below (kb_Qv D vwCl sz (mW cI cZ a z0) (mW cI cZ a z')) args s 0 0 (va_A (mW cI cZ a z0) sz)) (F0 m 148 ls [.int s0, .int s1, .ref (a 18)]) := by
    intro x1 x2 s0 s1 z H locs ls hl w h
    unfold pM_serve_J148 at h
    obtain ⟨hi47, h⟩ := kb_ck_of h
    obtain ⟨z48, hz49, h⟩ := kb_st_of h
    refine kb_iast S w 18 0 rfl rfl hi47 (ws1 := mW cI cZ a z48) (by rw [hz49]; rfl) dM_serve_148 (fun H locs w => ?_)
    refine lv_aload_n S.1 S.2.1 dM_serve_149 rfl (lv_at hl 0 rfl) ?_
    refine kb_get S w 0 rfl fM_65 rfl dM_serve_150 ?_
    refine W.eq (g2 := F0 m 153 ls [.ref (a 19)]) rfl ?_
    refine lv_aload_n S.1 S.2.1 dM_serve_153 rfl (lv_at hl 0 rfl) ?_
    refine kb_get S w 0 rfl fM_40 rfl dM_serve_154 ?_
    refine W.eq (g2 := F0 m 157 ls [.ref (a 11), .ref (a 19)]) rfl ?_
    refine lv_iload_n S.1 S.2.1 dM_serve_157 rfl (lv_at hl 1 rfl) ?_
    obtain ⟨hi50, h⟩ := kb_ck_of h
    refine kb_iald S w 11 0 rfl rfl hi50 dM_serve_158 ?_
    refine W.eq (g2 := F0 m 159 ls [.int (z48 11 (kb_ix (x1))), .ref (a 19)]) rfl ?_
    refine lv_bipush (v := 32) S.1 S.2.1 dM_serve_159 (by decide) ?_
    refine lv_irem S.1 S.2.1 dM_serve_161 (by decide) ?_
    refine lv_aload_n S.1 S.2.1 dM_serve_162 rfl (lv_at hl 0 rfl) ?_
    refine kb_get S w 0 rfl fM_37 rfl dM_serve_163 ?_
    refine W.eq (g2 := F0 m 166 ls [.ref (a 10), .int ((z48 11 (kb_ix (x1))) - (z48 11 (kb_ix (x1))) / 32 * 32), .ref (a 19)]) rfl ?_
    refine lv_iload_n S.1 S.2.1 dM_serve_166 rfl (lv_at hl 2 rfl) ?_
    obtain ⟨hi51, h⟩ := kb_ck_of h
    refine kb_iald S w 10 0 rfl rfl hi51 dM_serve_167 ?_
    refine W.eq (g2 := F0 m 168 ls [.int (z48 10 (kb_ix (x2))), .int ((z48 11 (kb_ix (x1))) - (z48 11 (kb_ix (x1))) / 32 * 32), .ref (a 19)]) rfl ?_
    obtain ⟨hi52, h⟩ := kb_ck_of h
    obtain ⟨z53, hz54, h⟩ := kb_st_of h
    refine kb_iast S w 19 0 rfl rfl hi52 (ws1 := mW cI cZ a z53) (by rw [hz54]; rfl) dM_serve_168 (fun H locs w => ?_)
    exact J169 x1 z53 _ _ _ (lv_sub hl [0, 1] rfl) w h
  have J94 : ∀ (x1 : Int32) (x2 : Int32) (x3 : Int32) (s0 : Int32) (z : kb_S) (H : Heap) (locs : List Loc) (ls : Array Slot), lv_has ls 5 [(0, .ref (a 0)), (1, .int x1), (2, .int x2), (3, .int x3)] → kb_W D vwCl [(cI, .int), (cZ, .boolean)] A s H locs (mW cI cZ a z) → pM_serve_J94 x1 x2 x3 s0 z = some (r, z') → W p l e rm_M_serve s m args below meth c H locs 0 0 (MQ below (kb_Qv D vwCl sz (mW cI cZ a z0) (mW cI cZ a z')) args s 0 0 (va_A (mW cI cZ a z0) sz)) (F0 m 94 ls [.int s0, .ref (a 0)]) := by
    intro x1 x2 x3 s0 z H locs ls hl w h
    unfold pM_serve_J94 at h
    obtain ⟨z11, hz12, h⟩ := kb_st_of h
    refine kb_puti S w 0 rfl gM_123 (Nat.le_of_ble_eq_true rfl) (ws1 := mW cI cZ a z11) (by rw [hz12]; rfl) dM_serve_94 (fun H locs w => ?_)
    refine lv_aload_n S.1 S.2.1 dM_serve_97 rfl (lv_at hl 0 rfl) ?_
    refine kb_get S w 0 rfl fM_116 rfl dM_serve_98 ?_
    refine W.eq (g2 := F0 m 101 ls [.int (z11 0 5)]) rfl ?_
    refine lv_aload_n S.1 S.2.1 dM_serve_101 rfl (lv_at hl 0 rfl) ?_
    refine kb_get S w 0 rfl fM_40 rfl dM_serve_102 ?_
    refine W.eq (g2 := F0 m 105 ls [.ref (a 11), .int (z11 0 5)]) rfl ?_
    refine lv_iload_n S.1 S.2.1 dM_serve_105 rfl (lv_at hl 1 rfl) ?_
    obtain ⟨hi13, h⟩ := kb_ck_of h
    refine kb_iald S w 11 0 rfl rfl hi13 dM_serve_106 ?_
    refine W.eq (g2 := F0 m 107 ls [.int (z11 11 (kb_ix (x1))), .int (z11 0 5)]) rfl ?_
    refine lv_isub S.1 S.2.1 dM_serve_107 ?_
    refine lv_bipush (v := 32) S.1 S.2.1 dM_serve_108 (by decide) ?_
    refine lv_icmp_gt (tgt := 169) S.1 S.2.1 dM_serve_110 (by decide) (fun hc => ?_) (fun hc => ?_)
    · have h := (kb_brt hc).symm.trans h
      exact J169 x1 z11 _ _ _ (lv_sub hl [0, 1] rfl) w h
    · have h := (kb_brf hc).symm.trans h
      refine lv_aload_n S.1 S.2.1 dM_serve_113 rfl (lv_at hl 0 rfl) ?_
      refine kb_get S w 0 rfl fM_62 rfl dM_serve_114 ?_
      refine W.eq (g2 := F0 m 117 ls [.ref (a 18)]) rfl ?_
      refine lv_aload_n S.1 S.2.1 dM_serve_117 rfl (lv_at hl 0 rfl) ?_
      refine kb_get S w 0 rfl fM_40 rfl dM_serve_118 ?_
      refine W.eq (g2 := F0 m 121 ls [.ref (a 11), .ref (a 18)]) rfl ?_
      refine lv_iload_n S.1 S.2.1 dM_serve_121 rfl (lv_at hl 1 rfl) ?_
      obtain ⟨hi44, h⟩ := kb_ck_of h
      refine kb_iald S w 11 0 rfl rfl hi44 dM_serve_122 ?_
      refine W.eq (g2 := F0 m 123 ls [.int (z11 11 (kb_ix (x1))), .ref (a 18)]) rfl ?_
      refine lv_bipush (v := 32) S.1 S.2.1 dM_serve_123 (by decide) ?_
      refine lv_irem S.1 S.2.1 dM_serve_125 (by decide) ?_
      refine lv_aload_n S.1 S.2.1 dM_serve_126 rfl (lv_at hl 0 rfl) ?_
      refine kb_get S w 0 rfl fM_52 rfl dM_serve_127 ?_
      refine W.eq (g2 := F0 m 130 ls [.ref (a 15), .int ((z11 11 (kb_ix (x1))) - (z11 11 (kb_ix (x1))) / 32 * 32), .ref (a 18)]) rfl ?_
      refine lv_iload_n S.1 S.2.1 dM_serve_130 rfl (lv_at hl 1 rfl) ?_
      obtain ⟨hi45, h⟩ := kb_ck_of h
      refine kb_zald S w 15 1 rfl rfl hi45 dM_serve_131 ?_
      refine W.eq (g2 := F0 m 132 ls [.int (z11 15 (kb_ix (x1))), .int ((z11 11 (kb_ix (x1))) - (z11 11 (kb_ix (x1))) / 32 * 32), .ref (a 18)]) rfl ?_
      refine lv_if_eq (tgt := 139) S.1 S.2.1 dM_serve_132 (by decide) (fun hc => ?_) (fun hc => ?_)
      · have h := (kb_brt hc).symm.trans h
        refine lv_iload_n S.1 S.2.1 dM_serve_139 rfl (lv_at hl 3 rfl) ?_
        refine lv_aload_n S.1 S.2.1 dM_serve_140 rfl (lv_at hl 0 rfl) ?_
        refine kb_get S w 0 rfl fM_7 rfl dM_serve_141 ?_
        refine W.eq (g2 := F0 m 144 ls [.ref (a 1), .int x3, .int ((z11 11 (kb_ix (x1))) - (z11 11 (kb_ix (x1))) / 32 * 32), .ref (a 18)]) rfl ?_
        refine lv_bipush (v := 11) S.1 S.2.1 dM_serve_144 (by decide) ?_
        obtain ⟨hi46, h⟩ := kb_ck_of h
        refine kb_iald S w 1 0 rfl rfl hi46 dM_serve_146 ?_
        refine W.eq (g2 := F0 m 147 ls [.int (z11 1 (kb_ix (11))), .int x3, .int ((z11 11 (kb_ix (x1))) - (z11 11 (kb_ix (x1))) / 32 * 32), .ref (a 18)]) rfl ?_
        refine lv_iadd S.1 S.2.1 dM_serve_147 ?_
        exact J148 x1 x2 (x3 + (z11 1 (kb_ix (11)))) ((z11 11 (kb_ix (x1))) - (z11 11 (kb_ix (x1))) / 32 * 32) z11 _ _ _ (lv_sub hl [0, 1, 2] rfl) w h
      · have h := (kb_brf hc).symm.trans h
        refine lv_iload_n S.1 S.2.1 dM_serve_135 rfl (lv_at hl 3 rfl) ?_
        refine lv_goto (tgt := 148) S.1 S.2.1 dM_serve_136 (by decide) ?_
        exact J148 x1 x2 x3 ((z11 11 (kb_ix (x1))) - (z11 11 (kb_ix (x1))) / 32 * 32) z11 _ _ _ (lv_sub hl [0, 1, 2] rfl) w h
  have J64 : ∀ (x1 : Int32) (x2 : Int32) (x3 : Int32) (s0 : Int32) (s1 : Int32) (z : kb_S) (H : Heap) (locs : List Loc) (ls : Array Slot), lv_has ls 5 [(0, .ref (a 0)), (1, .int x1), (2, .int x2), (3, .int x3)] → kb_W D vwCl [(cI, .int), (cZ, .boolean)] A s H locs (mW cI cZ a z) → pM_serve_J64 x1 x2 x3 s0 s1 z = some (r, z') → W p l e rm_M_serve s m args below meth c H locs 0 0 (MQ below (kb_Qv D vwCl sz (mW cI cZ a z0) (mW cI cZ a z')) args s 0 0 (va_A (mW cI cZ a z0) sz)) (F0 m 64 ls [.int s0, .int s1, .ref (a 10)]) := by
    intro x1 x2 x3 s0 s1 z H locs ls hl w h
    unfold pM_serve_J64 at h
    obtain ⟨hi7, h⟩ := kb_ck_of h
    obtain ⟨z8, hz9, h⟩ := kb_st_of h
    refine kb_iast S w 10 0 rfl rfl hi7 (ws1 := mW cI cZ a z8) (by rw [hz9]; rfl) dM_serve_64 (fun H locs w => ?_)
    refine lv_aload_n S.1 S.2.1 dM_serve_65 rfl (lv_at hl 0 rfl) ?_
    refine lv_iload_n S.1 S.2.1 dM_serve_66 rfl (lv_at hl 3 rfl) ?_
    refine lv_aload_n S.1 S.2.1 dM_serve_67 rfl (lv_at hl 0 rfl) ?_
    refine kb_get S w 0 rfl fM_59 rfl dM_serve_68 ?_
    refine W.eq (g2 := F0 m 71 ls [.ref (a 17), .int x3, .ref (a 0)]) rfl ?_
    refine lv_iload_n S.1 S.2.1 dM_serve_71 rfl (lv_at hl 1 rfl) ?_
    obtain ⟨hi10, h⟩ := kb_ck_of h
    refine kb_iald S w 17 0 rfl rfl hi10 dM_serve_72 ?_
    refine W.eq (g2 := F0 m 73 ls [.int (z8 17 (kb_ix (x1))), .int x3, .ref (a 0)]) rfl ?_
    refine lv_isub S.1 S.2.1 dM_serve_73 ?_
    refine lv_aload_n S.1 S.2.1 dM_serve_74 rfl (lv_at hl 0 rfl) ?_
    refine kb_get S w 0 rfl fM_78 rfl dM_serve_75 ?_
    refine W.eq (g2 := F0 m 78 ls [.int (z8 0 3), .int (x3 - (z8 17 (kb_ix (x1)))), .ref (a 0)]) rfl ?_
    refine lv_icmp_lt (tgt := 90) S.1 S.2.1 dM_serve_78 (by decide) (fun hc => ?_) (fun hc => ?_)
    · have h := (kb_brt hc).symm.trans h
      refine lv_aload_n S.1 S.2.1 dM_serve_90 rfl (lv_at hl 0 rfl) ?_
      refine kb_get S w 0 rfl fM_123 rfl dM_serve_91 ?_
      refine W.eq (g2 := F0 m 94 ls [.int (z8 0 6), .ref (a 0)]) rfl ?_
      exact J94 x1 x2 x3 (z8 0 6) z8 _ _ _ (lv_sub hl [0, 1, 2, 3] rfl) w h
    · have h := (kb_brf hc).symm.trans h
      refine lv_aload_n S.1 S.2.1 dM_serve_81 rfl (lv_at hl 0 rfl) ?_
      refine kb_get S w 0 rfl fM_123 rfl dM_serve_82 ?_
      refine W.eq (g2 := F0 m 85 ls [.int (z8 0 6), .ref (a 0)]) rfl ?_
      refine lv_iconst (v := 1) S.1 S.2.1 dM_serve_85 (by decide) ?_
      refine lv_iadd S.1 S.2.1 dM_serve_86 ?_
      refine lv_goto (tgt := 94) S.1 S.2.1 dM_serve_87 (by decide) ?_
      exact J94 x1 x2 x3 ((z8 0 6) + 1) z8 _ _ _ (lv_sub hl [0, 1, 2, 3] rfl) w h
  refine lv_sipush (v := 128) S.1 S.2.1 dM_serve_0 (by decide) ?_
  refine lv_aload_n S.1 S.2.1 dM_serve_3 rfl (lv_at hl 0 rfl) ?_
  refine kb_get S w 0 rfl fM_43 rfl dM_serve_4 ?_
  refine W.eq (g2 := F0 m 7 ls [.ref (a 12), .int 128]) rfl ?_
  refine lv_iload_n S.1 S.2.1 dM_serve_7 rfl (lv_at hl 1 rfl) ?_
  obtain ⟨hi1, h⟩ := kb_ck_of h
  refine kb_iald S w 12 0 rfl rfl hi1 dM_serve_8 ?_
  refine W.eq (g2 := F0 m 9 ls [.int (z0 12 (kb_ix (x1))), .int 128]) rfl ?_
  refine lv_imul S.1 S.2.1 dM_serve_9 ?_
  refine lv_bipush (v := 8) S.1 S.2.1 dM_serve_10 (by decide) ?_
  refine lv_aload_n S.1 S.2.1 dM_serve_12 rfl (lv_at hl 0 rfl) ?_
  refine kb_get S w 0 rfl fM_46 rfl dM_serve_13 ?_
  refine W.eq (g2 := F0 m 16 ls [.ref (a 13), .int 8, .int (128 * (z0 12 (kb_ix (x1))))]) rfl ?_
  refine lv_iload_n S.1 S.2.1 dM_serve_16 rfl (lv_at hl 1 rfl) ?_
  obtain ⟨hi2, h⟩ := kb_ck_of h
  refine kb_iald S w 13 0 rfl rfl hi2 dM_serve_17 ?_
  refine W.eq (g2 := F0 m 18 ls [.int (z0 13 (kb_ix (x1))), .int 8, .int (128 * (z0 12 (kb_ix (x1))))]) rfl ?_
  refine lv_imul S.1 S.2.1 dM_serve_18 ?_
  refine lv_iadd S.1 S.2.1 dM_serve_19 ?_
  refine lv_aload_n S.1 S.2.1 dM_serve_20 rfl (lv_at hl 0 rfl) ?_
  refine kb_get S w 0 rfl fM_49 rfl dM_serve_21 ?_
  refine W.eq (g2 := F0 m 24 ls [.ref (a 14), .int ((128 * (z0 12 (kb_ix (x1)))) + (8 * (z0 13 (kb_ix (x1)))))]) rfl ?_
  refine lv_iload_n S.1 S.2.1 dM_serve_24 rfl (lv_at hl 1 rfl) ?_
  obtain ⟨hi3, h⟩ := kb_ck_of h
  refine kb_iald S w 14 0 rfl rfl hi3 dM_serve_25 ?_
  refine W.eq (g2 := F0 m 26 ls [.int (z0 14 (kb_ix (x1))), .int ((128 * (z0 12 (kb_ix (x1)))) + (8 * (z0 13 (kb_ix (x1)))))]) rfl ?_
  refine lv_iadd S.1 S.2.1 dM_serve_26 ?_
  refine lv_istore_n S.1 S.2.1 dM_serve_27 rfl hl (by decide) rfl (fun ls hl => ?_)
  have hl : lv_has ls 5 [(2, .int (((128 * (z0 12 (kb_ix (x1)))) + (8 * (z0 13 (kb_ix (x1))))) + (z0 14 (kb_ix (x1))))), (0, .ref (a 0)), (1, .int x1)] := hl
  refine lv_aload_n S.1 S.2.1 dM_serve_28 rfl (lv_at hl 1 rfl) ?_
  refine kb_get S w 0 rfl fM_34 rfl dM_serve_29 ?_
  refine W.eq (g2 := F0 m 32 ls [.ref (a 9)]) rfl ?_
  refine lv_iconst (v := 0) S.1 S.2.1 dM_serve_32 (by decide) ?_
  obtain ⟨hi4, h⟩ := kb_ck_of h
  refine kb_iald S w 9 0 rfl rfl hi4 dM_serve_33 ?_
  refine W.eq (g2 := F0 m 34 ls [.int (z0 9 (kb_ix (0)))]) rfl ?_
  refine lv_istore_n S.1 S.2.1 dM_serve_34 rfl hl (by decide) rfl (fun ls hl => ?_)
  have hl : lv_has ls 5 [(3, .int (z0 9 (kb_ix (0)))), (2, .int (((128 * (z0 12 (kb_ix (x1)))) + (8 * (z0 13 (kb_ix (x1))))) + (z0 14 (kb_ix (x1))))), (0, .ref (a 0)), (1, .int x1)] := hl
  refine lv_aload_n S.1 S.2.1 dM_serve_35 rfl (lv_at hl 2 rfl) ?_
  refine kb_get S w 0 rfl fM_37 rfl dM_serve_36 ?_
  refine W.eq (g2 := F0 m 39 ls [.ref (a 10)]) rfl ?_
  refine lv_iload_n S.1 S.2.1 dM_serve_39 rfl (lv_at hl 1 rfl) ?_
  refine lv_aload_n S.1 S.2.1 dM_serve_40 rfl (lv_at hl 2 rfl) ?_
  refine kb_get S w 0 rfl fM_52 rfl dM_serve_41 ?_
  refine W.eq (g2 := F0 m 44 ls [.ref (a 15), .int (((128 * (z0 12 (kb_ix (x1)))) + (8 * (z0 13 (kb_ix (x1))))) + (z0 14 (kb_ix (x1)))), .ref (a 10)]) rfl ?_
  refine lv_iload_n S.1 S.2.1 dM_serve_44 rfl (lv_at hl 3 rfl) ?_
  obtain ⟨hi5, h⟩ := kb_ck_of h
  refine kb_zald S w 15 1 rfl rfl hi5 dM_serve_45 ?_
  refine W.eq (g2 := F0 m 46 ls [.int (z0 15 (kb_ix (x1))), .int (((128 * (z0 12 (kb_ix (x1)))) + (8 * (z0 13 (kb_ix (x1))))) + (z0 14 (kb_ix (x1)))), .ref (a 10)]) rfl ?_
  refine lv_if_eq (tgt := 58) S.1 S.2.1 dM_serve_46 (by decide) (fun hc => ?_) (fun hc => ?_)
  · have h := (kb_brt hc).symm.trans h
    refine lv_aload_n S.1 S.2.1 dM_serve_58 rfl (lv_at hl 2 rfl) ?_
    refine kb_get S w 0 rfl fM_37 rfl dM_serve_59 ?_
    refine W.eq (g2 := F0 m 62 ls [.ref (a 10), .int (((128 * (z0 12 (kb_ix (x1)))) + (8 * (z0 13 (kb_ix (x1))))) + (z0 14 (kb_ix (x1)))), .ref (a 10)]) rfl ?_
    refine lv_iload_n S.1 S.2.1 dM_serve_62 rfl (lv_at hl 1 rfl) ?_
    obtain ⟨hi6, h⟩ := kb_ck_of h
    refine kb_iald S w 10 0 rfl rfl hi6 dM_serve_63 ?_
    refine W.eq (g2 := F0 m 64 ls [.int (z0 10 (kb_ix (((128 * (z0 12 (kb_ix (x1)))) + (8 * (z0 13 (kb_ix (x1))))) + (z0 14 (kb_ix (x1)))))), .int (((128 * (z0 12 (kb_ix (x1)))) + (8 * (z0 13 (kb_ix (x1))))) + (z0 14 (kb_ix (x1)))), .ref (a 10)]) rfl ?_
    exact J64 x1 (((128 * (z0 12 (kb_ix (x1)))) + (8 * (z0 13 (kb_ix (x1))))) + (z0 14 (kb_ix (x1)))) (z0 9 (kb_ix (0))) (z0 10 (kb_ix (((128 * (z0 12 (kb_ix (x1)))) + (8 * (z0 13 (kb_ix (x1))))) + (z0 14 (kb_ix (x1)))))) (((128 * (z0 12 (kb_ix (x1)))) + (8 * (z0 13 (kb_ix (x1))))) + (z0 14 (kb_ix (x1)))) z0 _ _ _ (lv_sub hl [2, 3, 1, 0] rfl) w h
  · have h := (kb_brf hc).symm.trans h
    refine lv_aload_n S.1 S.2.1 dM_serve_49 rfl (lv_at hl 2 rfl) ?_
    refine kb_get S w 0 rfl fM_56 rfl dM_serve_50 ?_
    refine W.eq (g2 := F0 m 53 ls [.ref (a 16), .int (((128 * (z0 12 (kb_ix (x1)))) + (8 * (z0 13 (kb_ix (x1))))) + (z0 14 (kb_ix (x1)))), .ref (a 10)]) rfl ?_
    refine lv_iload_n S.1 S.2.1 dM_serve_53 rfl (lv_at hl 3 rfl) ?_
    obtain ⟨hi55, h⟩ := kb_ck_of h
    refine kb_iald S w 16 0 rfl rfl hi55 dM_serve_54 ?_
    refine W.eq (g2 := F0 m 55 ls [.int (z0 16 (kb_ix (x1))), .int (((128 * (z0 12 (kb_ix (x1)))) + (8 * (z0 13 (kb_ix (x1))))) + (z0 14 (kb_ix (x1)))), .ref (a 10)]) rfl ?_
    refine lv_goto (tgt := 64) S.1 S.2.1 dM_serve_55 (by decide) ?_
    exact J64 x1 (((128 * (z0 12 (kb_ix (x1)))) + (8 * (z0 13 (kb_ix (x1))))) + (z0 14 (kb_ix (x1)))) (z0 9 (kb_ix (0))) (z0 16 (kb_ix (x1))) (((128 * (z0 12 (kb_ix (x1)))) + (8 * (z0 13 (kb_ix (x1))))) + (z0 14 (kb_ix (x1)))) z0 _ _ _ (lv_sub hl [2, 3, 1, 0] rfl) w h
end
section
set_option maxHeartbeats 4000000 in
set_option maxRecDepth 100000 in
theorem cM_told (l : Launch) (D : va_G) (cI cZ : ClassId) (a : Nat → Nat) (z0 z' : kb_S) (r : Int32) (sz : Nat) (x1 : Int32) (x2 : Int32) (x3 : Int32) (h : pM_told x1 x2 x3 z0 = some (r, z')) : Met l y_M_told (Cond.code y_M_told c_M_told 4 (some .int) :: wsB) rm_M_told (kb_Pc D vwCl [(cI, .int), (cZ, .boolean)] sz [.ref (a 0), .int x1, .int x2, .int x3] (mW cI cZ a z0)) (kb_Qi D vwCl sz (mW cI cZ a z0) r (mW cI cZ a z')) 0 0 (va_A (mW cI cZ a z0) sz) := by
  refine kb_start (by decide) rfl (Nat.le_of_ble_eq_true rfl) ?_
  intro p e s m args below meth c A ls S hr hlk hsz hA w hl
  have hl : lv_has ls 4 [(0, .ref (a 0)), (1, .int x1), (2, .int x2), (3, .int x3)] := hl
  unfold pM_told at h
  have J38 : ∀ (x1 : Int32) (x3 : Int32) (s0 : Int32) (s1 : Int32) (z : kb_S) (H : Heap) (locs : List Loc) (ls : Array Slot), lv_has ls 4 [(1, .int x1), (3, .int x3)] → kb_W D vwCl [(cI, .int), (cZ, .boolean)] A s H locs (mW cI cZ a z) → pM_told_J38 x1 x3 s0 s1 z = some (r, z') → W p l e rm_M_told s m args below meth c H locs 0 0 (MQ below (kb_Qi D vwCl sz (mW cI cZ a z0) r (mW cI cZ a z')) args s 0 0 (va_A (mW cI cZ a z0) sz)) (F0 m 38 ls [.int s0, .int s1]) := by
    intro x1 x3 s0 s1 z H locs ls hl w h
    unfold pM_told_J38 at h
    refine lv_iadd S.1 S.2.1 dM_told_38 ?_
    refine lv_iload_n S.1 S.2.1 dM_told_39 rfl (lv_at hl 0 rfl) ?_
    refine lv_iconst (v := 4) S.1 S.2.1 dM_told_40 (by decide) ?_
    refine lv_icmp_eq (tgt := 49) S.1 S.2.1 dM_told_41 (by decide) (fun hc => ?_) (fun hc => ?_)
    · have h := (kb_brt hc).symm.trans h
      refine lv_iconst (v := 0) S.1 S.2.1 dM_told_49 (by decide) ?_
      refine lv_goto (tgt := 54) S.1 S.2.1 dM_told_50 (by decide) ?_
      refine lv_iadd S.1 S.2.1 dM_told_54 ?_
      exact kb_iret (mW cI cZ a) S hr hlk hA w h dM_told_55
    · have h := (kb_brf hc).symm.trans h
      refine lv_iload_n S.1 S.2.1 dM_told_44 rfl (lv_at hl 0 rfl) ?_
      refine lv_iconst (v := 1) S.1 S.2.1 dM_told_45 (by decide) ?_
      refine lv_icmp_ne (tgt := 53) S.1 S.2.1 dM_told_46 (by decide) (fun hc => ?_) (fun hc => ?_)
      · have h := (kb_brf hc).symm.trans h
        refine lv_iload_n S.1 S.2.1 dM_told_53 rfl (lv_at hl 1 rfl) ?_
        refine lv_iadd S.1 S.2.1 dM_told_54 ?_
        exact kb_iret (mW cI cZ a) S hr hlk hA w h dM_told_55
      · have h := (kb_brt hc).symm.trans h
        refine lv_iconst (v := 0) S.1 S.2.1 dM_told_49 (by decide) ?_
        refine lv_goto (tgt := 54) S.1 S.2.1 dM_told_50 (by decide) ?_
        refine lv_iadd S.1 S.2.1 dM_told_54 ?_
        exact kb_iret (mW cI cZ a) S hr hlk hA w h dM_told_55
  refine lv_aload_n S.1 S.2.1 dM_told_0 rfl (lv_at hl 0 rfl) ?_
  refine lv_iconst (v := 0) S.1 S.2.1 dM_told_1 (by decide) ?_
  refine lv_iload_n S.1 S.2.1 dM_told_2 rfl (lv_at hl 1 rfl) ?_
  refine lv_iload_n S.1 S.2.1 dM_told_3 rfl (lv_at hl 2 rfl) ?_
  refine lv_iload_n S.1 S.2.1 dM_told_4 rfl (lv_at hl 3 rfl) ?_
  obtain ⟨r2, z1, hc3, h⟩ := kb_cl_of h
  refine kb_callv (As := [.int 0, .int x1, .int x2, .int x3]) (rest := []) (q0 := 0) (ci := 3) S w (fun sz => cM_give l D cI cZ a _ _ _ sz 0 x1 x2 x3 hc3) Y_M_give I_M_give S_M_give lM_126 ⟨rfl, rfl, Nat.le_of_ble_eq_true rfl, Nat.le_of_ble_eq_true rfl⟩ rfl rfl rfl rfl hl.1 rfl (Nat.le_of_ble_eq_true rfl) dM_told_5 ⟨Nat.le_of_ble_eq_true rfl, Nat.le_of_ble_eq_true rfl⟩ (fun H locs w => ?_)
  refine lv_aload_n S.1 S.2.1 dM_told_8 rfl (lv_at hl 0 rfl) ?_
  refine kb_get S w 0 rfl fM_68 rfl dM_told_9 ?_
  refine W.eq (g2 := F0 m 12 ls [.ref (a 20)]) rfl ?_
  refine lv_iload_n S.1 S.2.1 dM_told_12 rfl (lv_at hl 1 rfl) ?_
  refine lv_dup2_11 S.1 S.2.1 dM_told_13 rfl rfl ?_
  obtain ⟨hi4, h⟩ := kb_ck_of h
  refine kb_iald S w 20 0 rfl rfl hi4 dM_told_14 ?_
  refine W.eq (g2 := F0 m 15 ls [.int (z1 20 (kb_ix (x1))), .int x1, .ref (a 20)]) rfl ?_
  refine lv_iconst (v := 1) S.1 S.2.1 dM_told_15 (by decide) ?_
  refine lv_iadd S.1 S.2.1 dM_told_16 ?_
  obtain ⟨hi5, h⟩ := kb_ck_of h
  obtain ⟨z6, hz7, h⟩ := kb_st_of h
  refine kb_iast S w 20 0 rfl rfl hi5 (ws1 := mW cI cZ a z6) (by rw [hz7]; rfl) dM_told_17 (fun H locs w => ?_)
  refine lv_sipush (v := 1000) S.1 S.2.1 dM_told_18 (by decide) ?_
  refine lv_iload_n S.1 S.2.1 dM_told_21 rfl (lv_at hl 1 rfl) ?_
  refine lv_iconst (v := 1) S.1 S.2.1 dM_told_22 (by decide) ?_
  refine lv_iadd S.1 S.2.1 dM_told_23 ?_
  refine lv_imul S.1 S.2.1 dM_told_24 ?_
  refine lv_iload_n S.1 S.2.1 dM_told_25 rfl (lv_at hl 1 rfl) ?_
  refine lv_iconst (v := 4) S.1 S.2.1 dM_told_26 (by decide) ?_
  refine lv_icmp_ne (tgt := 34) S.1 S.2.1 dM_told_27 (by decide) (fun hc => ?_) (fun hc => ?_)
  · have h := (kb_brf hc).symm.trans h
    refine lv_bipush (v := 100) S.1 S.2.1 dM_told_34 (by decide) ?_
    refine lv_iload_n S.1 S.2.1 dM_told_36 rfl (lv_at hl 2 rfl) ?_
    refine lv_imul S.1 S.2.1 dM_told_37 ?_
    exact J38 x1 x3 (100 * x2) (1000 * (x1 + 1)) z6 _ _ _ (lv_sub hl [1, 3] rfl) w h
  · have h := (kb_brt hc).symm.trans h
    refine lv_iconst (v := 0) S.1 S.2.1 dM_told_30 (by decide) ?_
    refine lv_goto (tgt := 38) S.1 S.2.1 dM_told_31 (by decide) ?_
    exact J38 x1 x3 0 (1000 * (x1 + 1)) z6 _ _ _ (lv_sub hl [1, 3] rfl) w h
set_option maxHeartbeats 4000000 in
set_option maxRecDepth 100000 in
theorem cM_refreshing (l : Launch) (D : va_G) (cI cZ : ClassId) (a : Nat → Nat) (z0 z' : kb_S) (r : Int32) (sz : Nat) (h : pM_refreshing  z0 = some (r, z')) : Met l y_M_refreshing (Cond.code y_M_refreshing c_M_refreshing 2 (some .int) :: wsB) rm_M_refreshing (kb_Pc D vwCl [(cI, .int), (cZ, .boolean)] sz [.ref (a 0)] (mW cI cZ a z0)) (kb_Qi D vwCl sz (mW cI cZ a z0) r (mW cI cZ a z')) 0 0 (va_A (mW cI cZ a z0) sz) := by
  refine kb_start (by decide) rfl (Nat.le_of_ble_eq_true rfl) ?_
  intro p e s m args below meth c A ls S hr hlk hsz hA w hl
  have hl : lv_has ls 2 [(0, .ref (a 0))] := hl
  unfold pM_refreshing at h
  have L18 : ∀ (n : Nat) (x1 : Int32) (z : kb_S) (H : Heap) (locs : List Loc) (ls : Array Slot), lv_has ls 2 [(0, .ref (a 0)), (1, .int x1)] → kb_W D vwCl [(cI, .int), (cZ, .boolean)] A s H locs (mW cI cZ a z) → pM_refreshing_L18 n x1 z = some (r, z') → W p l e rm_M_refreshing s m args below meth c H locs 0 0 (MQ below (kb_Qi D vwCl sz (mW cI cZ a z0) r (mW cI cZ a z')) args s 0 0 (va_A (mW cI cZ a z0) sz)) (F0 m 18 ls []) := by
    intro n
    induction n with
    | zero =>
      intro x1 z H locs ls hl w h
      exact absurd h (by simp [pM_refreshing_L18])
    | succ n ih =>
      intro x1 z H locs ls hl w h
      rw [pM_refreshing_L18] at h
      refine lv_iload_n S.1 S.2.1 dM_refreshing_18 rfl (lv_at hl 1 rfl) ?_
      refine lv_aload_n S.1 S.2.1 dM_refreshing_19 rfl (lv_at hl 0 rfl) ?_
      refine kb_get S w 0 rfl fM_71 rfl dM_refreshing_20 ?_
      refine W.eq (g2 := F0 m 23 ls [.int (z 0 1), .int x1]) rfl ?_
      refine lv_icmp_ge (tgt := 49) S.1 S.2.1 dM_refreshing_23 (by decide) (fun hc => ?_) (fun hc => ?_)
      · have h := (kb_brt hc).symm.trans h
        refine lv_iconst (v := 0) S.1 S.2.1 dM_refreshing_49 (by decide) ?_
        exact kb_iret (mW cI cZ a) S hr hlk hA w h dM_refreshing_50
      · have h := (kb_brf hc).symm.trans h
        refine lv_aload_n S.1 S.2.1 dM_refreshing_26 rfl (lv_at hl 0 rfl) ?_
        refine lv_iconst (v := 0) S.1 S.2.1 dM_refreshing_27 (by decide) ?_
        refine lv_iload_n S.1 S.2.1 dM_refreshing_28 rfl (lv_at hl 1 rfl) ?_
        obtain ⟨r5, z4, hc6, h⟩ := kb_cl_of h
        refine kb_calli (As := [.int 0, .int x1]) (rest := []) (q0 := 0) (ci := 3) S w (fun sz => cM_brokenClose l D cI cZ a _ _ _ sz 0 x1 hc6) Y_M_brokenClose I_M_brokenClose S_M_brokenClose lM_92 ⟨rfl, rfl, Nat.le_of_ble_eq_true rfl, Nat.le_of_ble_eq_true rfl⟩ rfl rfl rfl rfl hl.1 rfl (Nat.le_of_ble_eq_true rfl) dM_refreshing_29 ⟨Nat.le_of_ble_eq_true rfl, Nat.le_of_ble_eq_true rfl⟩ (fun H locs w => ?_)
        refine lv_if_ne (tgt := 43) S.1 S.2.1 dM_refreshing_32 (by decide) (fun hc => ?_) (fun hc => ?_)
        · have h := (kb_brf hc).symm.trans h
          refine lv_iinc (v := x1 + 1) (k := 1) S.1 S.2.1 dM_refreshing_43 hl rfl rfl (by decide) rfl (fun ls hl => ?_)
          have hl : lv_has ls 2 [(1, .int (x1 + 1)), (0, .ref (a 0))] := hl
          refine lv_goto (tgt := 18) S.1 S.2.1 dM_refreshing_46 (by decide) ?_
          exact ih (x1 + 1) z4 _ _ _ (lv_sub hl [1, 0] rfl) w h
        · have h := (kb_brt hc).symm.trans h
          refine lv_aload_n S.1 S.2.1 dM_refreshing_35 rfl (lv_at hl 0 rfl) ?_
          refine lv_iconst (v := 1) S.1 S.2.1 dM_refreshing_36 (by decide) ?_
          refine lv_iload_n S.1 S.2.1 dM_refreshing_37 rfl (lv_at hl 1 rfl) ?_
          refine lv_iconst (v := 0) S.1 S.2.1 dM_refreshing_38 (by decide) ?_
          obtain ⟨r8, z7, hc9, h⟩ := kb_cl_of h
          refine kb_calli (As := [.int 1, .int x1, .int 0]) (rest := []) (q0 := 0) (ci := 3) S w (fun sz => cM_told l D cI cZ a _ _ _ sz 1 x1 0 hc9) Y_M_told I_M_told S_M_told lM_130 ⟨rfl, rfl, Nat.le_of_ble_eq_true rfl, Nat.le_of_ble_eq_true rfl⟩ rfl rfl rfl rfl hl.1 rfl (Nat.le_of_ble_eq_true rfl) dM_refreshing_39 ⟨Nat.le_of_ble_eq_true rfl, Nat.le_of_ble_eq_true rfl⟩ (fun H locs w => ?_)
          exact kb_iret (mW cI cZ a) S hr hlk hA w h dM_refreshing_42
  refine lv_aload_n S.1 S.2.1 dM_refreshing_0 rfl (lv_at hl 0 rfl) ?_
  refine lv_iconst (v := 0) S.1 S.2.1 dM_refreshing_1 (by decide) ?_
  obtain ⟨r2, z1, hc3, h⟩ := kb_cl_of h
  refine kb_calli (As := [.int 0]) (rest := []) (q0 := 0) (ci := 3) S w (fun sz => cM_brokenRefresh l D cI cZ a _ _ _ sz 0 hc3) Y_M_brokenRefresh I_M_brokenRefresh S_M_brokenRefresh lM_95 ⟨rfl, rfl, Nat.le_of_ble_eq_true rfl, Nat.le_of_ble_eq_true rfl⟩ rfl rfl rfl rfl hl.1 rfl (Nat.le_of_ble_eq_true rfl) dM_refreshing_2 ⟨Nat.le_of_ble_eq_true rfl, Nat.le_of_ble_eq_true rfl⟩ (fun H locs w => ?_)
  refine lv_if_ne (tgt := 16) S.1 S.2.1 dM_refreshing_5 (by decide) (fun hc => ?_) (fun hc => ?_)
  · have h := (kb_brf hc).symm.trans h
    refine lv_iconst (v := 0) S.1 S.2.1 dM_refreshing_16 (by decide) ?_
    refine lv_istore_n S.1 S.2.1 dM_refreshing_17 rfl hl (by decide) rfl (fun ls hl => ?_)
    have hl : lv_has ls 2 [(1, .int 0), (0, .ref (a 0))] := hl
    exact L18 3000 0 z1 _ _ _ (lv_sub hl [1, 0] rfl) w h
  · have h := (kb_brt hc).symm.trans h
    refine lv_aload_n S.1 S.2.1 dM_refreshing_8 rfl (lv_at hl 0 rfl) ?_
    refine lv_iconst (v := 4) S.1 S.2.1 dM_refreshing_9 (by decide) ?_
    refine lv_iconst (v := 0) S.1 S.2.1 dM_refreshing_10 (by decide) ?_
    refine lv_iconst (v := 0) S.1 S.2.1 dM_refreshing_11 (by decide) ?_
    obtain ⟨r11, z10, hc12, h⟩ := kb_cl_of h
    refine kb_calli (As := [.int 4, .int 0, .int 0]) (rest := []) (q0 := 0) (ci := 3) S w (fun sz => cM_told l D cI cZ a _ _ _ sz 4 0 0 hc12) Y_M_told I_M_told S_M_told lM_130 ⟨rfl, rfl, Nat.le_of_ble_eq_true rfl, Nat.le_of_ble_eq_true rfl⟩ rfl rfl rfl rfl hl.1 rfl (Nat.le_of_ble_eq_true rfl) dM_refreshing_12 ⟨Nat.le_of_ble_eq_true rfl, Nat.le_of_ble_eq_true rfl⟩ (fun H locs w => ?_)
    exact kb_iret (mW cI cZ a) S hr hlk hA w h dM_refreshing_15
set_option maxHeartbeats 4000000 in
set_option maxRecDepth 100000 in
theorem cM_hasElder (l : Launch) (D : va_G) (cI cZ : ClassId) (a : Nat → Nat) (z0 z' : kb_S) (r : Int32) (sz : Nat) (x1 : Int32) (h : pM_hasElder x1 z0 = some (r, z')) : Met l y_M_hasElder (Cond.code y_M_hasElder c_M_hasElder 4 (some .boolean) :: wsB) rm_M_hasElder (kb_Pc D vwCl [(cI, .int), (cZ, .boolean)] sz [.ref (a 0), .int x1] (mW cI cZ a z0)) (kb_Qi D vwCl sz (mW cI cZ a z0) r (mW cI cZ a z')) 0 0 (va_A (mW cI cZ a z0) sz) := by
  refine kb_start (by decide) rfl (Nat.le_of_ble_eq_true rfl) ?_
  intro p e s m args below meth c A ls S hr hlk hsz hA w hl
  have hl : lv_has ls 4 [(0, .ref (a 0)), (1, .int x1)] := hl
  unfold pM_hasElder at h
  have L4 : ∀ (n : Nat) (x1 : Int32) (x2 : Int32) (x3 : Int32) (z : kb_S) (H : Heap) (locs : List Loc) (ls : Array Slot), lv_has ls 4 [(0, .ref (a 0)), (1, .int x1), (2, .int x2), (3, .int x3)] → kb_W D vwCl [(cI, .int), (cZ, .boolean)] A s H locs (mW cI cZ a z) → pM_hasElder_L4 n x1 x2 x3 z = some (r, z') → W p l e rm_M_hasElder s m args below meth c H locs 0 0 (MQ below (kb_Qi D vwCl sz (mW cI cZ a z0) r (mW cI cZ a z')) args s 0 0 (va_A (mW cI cZ a z0) sz)) (F0 m 4 ls []) := by
    intro n
    induction n with
    | zero =>
      intro x1 x2 x3 z H locs ls hl w h
      exact absurd h (by simp [pM_hasElder_L4])
    | succ n ih =>
      intro x1 x2 x3 z H locs ls hl w h
      rw [pM_hasElder_L4] at h
      refine lv_iload_n S.1 S.2.1 dM_hasElder_4 rfl (lv_at hl 3 rfl) ?_
      refine lv_iload_n S.1 S.2.1 dM_hasElder_5 rfl (lv_at hl 1 rfl) ?_
      refine lv_icmp_ge (tgt := 70) S.1 S.2.1 dM_hasElder_6 (by decide) (fun hc => ?_) (fun hc => ?_)
      · have h := (kb_brt hc).symm.trans h
        refine lv_iload_n S.1 S.2.1 dM_hasElder_70 rfl (lv_at hl 2 rfl) ?_
        obtain ⟨hb1, h⟩ := kb_ck_of h
        exact kb_zret (mW cI cZ a) S hr hlk hA w h hb1 dM_hasElder_71
      · have h := (kb_brf hc).symm.trans h
        refine lv_iload_n S.1 S.2.1 dM_hasElder_9 rfl (lv_at hl 2 rfl) ?_
        refine lv_if_ne (tgt := 58) S.1 S.2.1 dM_hasElder_10 (by decide) (fun hc => ?_) (fun hc => ?_)
        · have h := (kb_brf hc).symm.trans h
          refine lv_iconst (v := 1) S.1 S.2.1 dM_hasElder_58 (by decide) ?_
          refine lv_goto (tgt := 63) S.1 S.2.1 dM_hasElder_59 (by decide) ?_
          refine lv_istore_n S.1 S.2.1 dM_hasElder_63 rfl hl (by decide) rfl (fun ls hl => ?_)
          have hl : lv_has ls 4 [(2, .int 1), (0, .ref (a 0)), (1, .int x1), (3, .int x3)] := hl
          refine lv_iinc (v := x3 + 1) (k := 3) S.1 S.2.1 dM_hasElder_64 hl rfl rfl (by decide) rfl (fun ls hl => ?_)
          have hl : lv_has ls 4 [(3, .int (x3 + 1)), (2, .int 1), (0, .ref (a 0)), (1, .int x1)] := hl
          refine lv_goto (tgt := 4) S.1 S.2.1 dM_hasElder_67 (by decide) ?_
          exact ih x1 1 (x3 + 1) z _ _ _ (lv_sub hl [2, 3, 1, 0] rfl) w h
        · have h := (kb_brt hc).symm.trans h
          refine lv_aload_n S.1 S.2.1 dM_hasElder_13 rfl (lv_at hl 0 rfl) ?_
          refine kb_get S w 0 rfl fM_43 rfl dM_hasElder_14 ?_
          refine W.eq (g2 := F0 m 17 ls [.ref (a 12)]) rfl ?_
          refine lv_iload_n S.1 S.2.1 dM_hasElder_17 rfl (lv_at hl 3 rfl) ?_
          obtain ⟨hi2, h⟩ := kb_ck_of h
          refine kb_iald S w 12 0 rfl rfl hi2 dM_hasElder_18 ?_
          refine W.eq (g2 := F0 m 19 ls [.int (z 12 (kb_ix (x3)))]) rfl ?_
          refine lv_aload_n S.1 S.2.1 dM_hasElder_19 rfl (lv_at hl 0 rfl) ?_
          refine kb_get S w 0 rfl fM_43 rfl dM_hasElder_20 ?_
          refine W.eq (g2 := F0 m 23 ls [.ref (a 12), .int (z 12 (kb_ix (x3)))]) rfl ?_
          refine lv_iload_n S.1 S.2.1 dM_hasElder_23 rfl (lv_at hl 1 rfl) ?_
          obtain ⟨hi3, h⟩ := kb_ck_of h
          refine kb_iald S w 12 0 rfl rfl hi3 dM_hasElder_24 ?_
          refine W.eq (g2 := F0 m 25 ls [.int (z 12 (kb_ix (x1))), .int (z 12 (kb_ix (x3)))]) rfl ?_
          refine lv_icmp_ne (tgt := 62) S.1 S.2.1 dM_hasElder_25 (by decide) (fun hc => ?_) (fun hc => ?_)
          · have h := (kb_brf hc).symm.trans h
            refine lv_iconst (v := 0) S.1 S.2.1 dM_hasElder_62 (by decide) ?_
            refine lv_istore_n S.1 S.2.1 dM_hasElder_63 rfl hl (by decide) rfl (fun ls hl => ?_)
            have hl : lv_has ls 4 [(2, .int 0), (0, .ref (a 0)), (1, .int x1), (3, .int x3)] := hl
            refine lv_iinc (v := x3 + 1) (k := 3) S.1 S.2.1 dM_hasElder_64 hl rfl rfl (by decide) rfl (fun ls hl => ?_)
            have hl : lv_has ls 4 [(3, .int (x3 + 1)), (2, .int 0), (0, .ref (a 0)), (1, .int x1)] := hl
            refine lv_goto (tgt := 4) S.1 S.2.1 dM_hasElder_67 (by decide) ?_
            exact ih x1 0 (x3 + 1) z _ _ _ (lv_sub hl [2, 3, 1, 0] rfl) w h
          · have h := (kb_brt hc).symm.trans h
            refine lv_aload_n S.1 S.2.1 dM_hasElder_28 rfl (lv_at hl 0 rfl) ?_
            refine kb_get S w 0 rfl fM_46 rfl dM_hasElder_29 ?_
            refine W.eq (g2 := F0 m 32 ls [.ref (a 13)]) rfl ?_
            refine lv_iload_n S.1 S.2.1 dM_hasElder_32 rfl (lv_at hl 3 rfl) ?_
            obtain ⟨hi4, h⟩ := kb_ck_of h
            refine kb_iald S w 13 0 rfl rfl hi4 dM_hasElder_33 ?_
            refine W.eq (g2 := F0 m 34 ls [.int (z 13 (kb_ix (x3)))]) rfl ?_
            refine lv_aload_n S.1 S.2.1 dM_hasElder_34 rfl (lv_at hl 0 rfl) ?_
            refine kb_get S w 0 rfl fM_46 rfl dM_hasElder_35 ?_
            refine W.eq (g2 := F0 m 38 ls [.ref (a 13), .int (z 13 (kb_ix (x3)))]) rfl ?_
            refine lv_iload_n S.1 S.2.1 dM_hasElder_38 rfl (lv_at hl 1 rfl) ?_
            obtain ⟨hi5, h⟩ := kb_ck_of h
            refine kb_iald S w 13 0 rfl rfl hi5 dM_hasElder_39 ?_
            refine W.eq (g2 := F0 m 40 ls [.int (z 13 (kb_ix (x1))), .int (z 13 (kb_ix (x3)))]) rfl ?_
            refine lv_icmp_ne (tgt := 62) S.1 S.2.1 dM_hasElder_40 (by decide) (fun hc => ?_) (fun hc => ?_)
            · have h := (kb_brf hc).symm.trans h
              refine lv_iconst (v := 0) S.1 S.2.1 dM_hasElder_62 (by decide) ?_
              refine lv_istore_n S.1 S.2.1 dM_hasElder_63 rfl hl (by decide) rfl (fun ls hl => ?_)
              have hl : lv_has ls 4 [(2, .int 0), (0, .ref (a 0)), (1, .int x1), (3, .int x3)] := hl
              refine lv_iinc (v := x3 + 1) (k := 3) S.1 S.2.1 dM_hasElder_64 hl rfl rfl (by decide) rfl (fun ls hl => ?_)
              have hl : lv_has ls 4 [(3, .int (x3 + 1)), (2, .int 0), (0, .ref (a 0)), (1, .int x1)] := hl
              refine lv_goto (tgt := 4) S.1 S.2.1 dM_hasElder_67 (by decide) ?_
              exact ih x1 0 (x3 + 1) z _ _ _ (lv_sub hl [2, 3, 1, 0] rfl) w h
            · have h := (kb_brt hc).symm.trans h
              refine lv_aload_n S.1 S.2.1 dM_hasElder_43 rfl (lv_at hl 0 rfl) ?_
              refine kb_get S w 0 rfl fM_49 rfl dM_hasElder_44 ?_
              refine W.eq (g2 := F0 m 47 ls [.ref (a 14)]) rfl ?_
              refine lv_iload_n S.1 S.2.1 dM_hasElder_47 rfl (lv_at hl 3 rfl) ?_
              obtain ⟨hi6, h⟩ := kb_ck_of h
              refine kb_iald S w 14 0 rfl rfl hi6 dM_hasElder_48 ?_
              refine W.eq (g2 := F0 m 49 ls [.int (z 14 (kb_ix (x3)))]) rfl ?_
              refine lv_aload_n S.1 S.2.1 dM_hasElder_49 rfl (lv_at hl 0 rfl) ?_
              refine kb_get S w 0 rfl fM_49 rfl dM_hasElder_50 ?_
              refine W.eq (g2 := F0 m 53 ls [.ref (a 14), .int (z 14 (kb_ix (x3)))]) rfl ?_
              refine lv_iload_n S.1 S.2.1 dM_hasElder_53 rfl (lv_at hl 1 rfl) ?_
              obtain ⟨hi7, h⟩ := kb_ck_of h
              refine kb_iald S w 14 0 rfl rfl hi7 dM_hasElder_54 ?_
              refine W.eq (g2 := F0 m 55 ls [.int (z 14 (kb_ix (x1))), .int (z 14 (kb_ix (x3)))]) rfl ?_
              refine lv_icmp_ne (tgt := 62) S.1 S.2.1 dM_hasElder_55 (by decide) (fun hc => ?_) (fun hc => ?_)
              · have h := (kb_brf hc).symm.trans h
                refine lv_iconst (v := 0) S.1 S.2.1 dM_hasElder_62 (by decide) ?_
                refine lv_istore_n S.1 S.2.1 dM_hasElder_63 rfl hl (by decide) rfl (fun ls hl => ?_)
                have hl : lv_has ls 4 [(2, .int 0), (0, .ref (a 0)), (1, .int x1), (3, .int x3)] := hl
                refine lv_iinc (v := x3 + 1) (k := 3) S.1 S.2.1 dM_hasElder_64 hl rfl rfl (by decide) rfl (fun ls hl => ?_)
                have hl : lv_has ls 4 [(3, .int (x3 + 1)), (2, .int 0), (0, .ref (a 0)), (1, .int x1)] := hl
                refine lv_goto (tgt := 4) S.1 S.2.1 dM_hasElder_67 (by decide) ?_
                exact ih x1 0 (x3 + 1) z _ _ _ (lv_sub hl [2, 3, 1, 0] rfl) w h
              · have h := (kb_brt hc).symm.trans h
                refine lv_iconst (v := 1) S.1 S.2.1 dM_hasElder_58 (by decide) ?_
                refine lv_goto (tgt := 63) S.1 S.2.1 dM_hasElder_59 (by decide) ?_
                refine lv_istore_n S.1 S.2.1 dM_hasElder_63 rfl hl (by decide) rfl (fun ls hl => ?_)
                have hl : lv_has ls 4 [(2, .int 1), (0, .ref (a 0)), (1, .int x1), (3, .int x3)] := hl
                refine lv_iinc (v := x3 + 1) (k := 3) S.1 S.2.1 dM_hasElder_64 hl rfl rfl (by decide) rfl (fun ls hl => ?_)
                have hl : lv_has ls 4 [(3, .int (x3 + 1)), (2, .int 1), (0, .ref (a 0)), (1, .int x1)] := hl
                refine lv_goto (tgt := 4) S.1 S.2.1 dM_hasElder_67 (by decide) ?_
                exact ih x1 1 (x3 + 1) z _ _ _ (lv_sub hl [2, 3, 1, 0] rfl) w h
  refine lv_iconst (v := 0) S.1 S.2.1 dM_hasElder_0 (by decide) ?_
  refine lv_istore_n S.1 S.2.1 dM_hasElder_1 rfl hl (by decide) rfl (fun ls hl => ?_)
  have hl : lv_has ls 4 [(2, .int 0), (0, .ref (a 0)), (1, .int x1)] := hl
  refine lv_iconst (v := 0) S.1 S.2.1 dM_hasElder_2 (by decide) ?_
  refine lv_istore_n S.1 S.2.1 dM_hasElder_3 rfl hl (by decide) rfl (fun ls hl => ?_)
  have hl : lv_has ls 4 [(3, .int 0), (2, .int 0), (0, .ref (a 0)), (1, .int x1)] := hl
  exact L4 3000 x1 0 0 z0 _ _ _ (lv_sub hl [2, 3, 1, 0] rfl) w h
set_option maxHeartbeats 4000000 in
set_option maxRecDepth 100000 in
theorem cM_hit (l : Launch) (D : va_G) (cI cZ : ClassId) (a : Nat → Nat) (z0 z' : kb_S) (r : Int32) (sz : Nat) (x1 : Int32) (h : pM_hit x1 z0 = some (r, z')) : Met l y_M_hit (Cond.code y_M_hit c_M_hit 6 (some .int) :: wsB) rm_M_hit (kb_Pc D vwCl [(cI, .int), (cZ, .boolean)] sz [.ref (a 0), .int x1] (mW cI cZ a z0)) (kb_Qi D vwCl sz (mW cI cZ a z0) r (mW cI cZ a z')) 0 0 (va_A (mW cI cZ a z0) sz) := by
  refine kb_start (by decide) rfl (Nat.le_of_ble_eq_true rfl) ?_
  intro p e s m args below meth c A ls S hr hlk hsz hA w hl
  have hl : lv_has ls 6 [(0, .ref (a 0)), (1, .int x1)] := hl
  unfold pM_hit at h
  have L2 : ∀ (n : Nat) (x1 : Int32) (x2 : Int32) (z : kb_S) (H : Heap) (locs : List Loc) (ls : Array Slot), lv_has ls 6 [(0, .ref (a 0)), (1, .int x1), (2, .int x2)] → kb_W D vwCl [(cI, .int), (cZ, .boolean)] A s H locs (mW cI cZ a z) → pM_hit_L2 n x1 x2 z = some (r, z') → W p l e rm_M_hit s m args below meth c H locs 0 0 (MQ below (kb_Qi D vwCl sz (mW cI cZ a z0) r (mW cI cZ a z')) args s 0 0 (va_A (mW cI cZ a z0) sz)) (F0 m 2 ls []) := by
    intro n
    induction n with
    | zero =>
      intro x1 x2 z H locs ls hl w h
      exact absurd h (by simp [pM_hit_L2])
    | succ n ih =>
      intro x1 x2 z H locs ls hl w h
      rw [pM_hit_L2] at h
      refine lv_iload_n S.1 S.2.1 dM_hit_2 rfl (lv_at hl 2 rfl) ?_
      refine lv_iload_n S.1 S.2.1 dM_hit_3 rfl (lv_at hl 1 rfl) ?_
      refine lv_icmp_ge (tgt := 87) S.1 S.2.1 dM_hit_4 (by decide) (fun hc => ?_) (fun hc => ?_)
      · have h := (kb_brt hc).symm.trans h
        refine lv_iconst (v := 0) S.1 S.2.1 dM_hit_87 (by decide) ?_
        exact kb_iret (mW cI cZ a) S hr hlk hA w h dM_hit_88
      · have h := (kb_brf hc).symm.trans h
        refine lv_aload_n S.1 S.2.1 dM_hit_7 rfl (lv_at hl 0 rfl) ?_
        refine lv_iload_n S.1 S.2.1 dM_hit_8 rfl (lv_at hl 2 rfl) ?_
        obtain ⟨r2, z1, hc3, h⟩ := kb_cl_of h
        refine kb_calli (As := [.int x2]) (rest := []) (q0 := 0) (ci := 3) S w (fun sz => cM_hasElder l D cI cZ a _ _ _ sz x2 hc3) Y_M_hasElder I_M_hasElder S_M_hasElder lM_133 ⟨rfl, rfl, Nat.le_of_ble_eq_true rfl, Nat.le_of_ble_eq_true rfl⟩ rfl rfl rfl rfl hl.1 rfl (Nat.le_of_ble_eq_true rfl) dM_hit_9 ⟨Nat.le_of_ble_eq_true rfl, Nat.le_of_ble_eq_true rfl⟩ (fun H locs w => ?_)
        refine lv_if_ne (tgt := 81) S.1 S.2.1 dM_hit_12 (by decide) (fun hc => ?_) (fun hc => ?_)
        · have h := (kb_brf hc).symm.trans h
          refine lv_iinc (v := x2 + 1) (k := 2) S.1 S.2.1 dM_hit_81 hl rfl rfl (by decide) rfl (fun ls hl => ?_)
          have hl : lv_has ls 6 [(2, .int (x2 + 1)), (0, .ref (a 0)), (1, .int x1)] := hl
          refine lv_goto (tgt := 2) S.1 S.2.1 dM_hit_84 (by decide) ?_
          exact ih x1 (x2 + 1) z1 _ _ _ (lv_sub hl [1, 2, 0] rfl) w h
        · have h := (kb_brt hc).symm.trans h
          refine lv_aload_n S.1 S.2.1 dM_hit_15 rfl (lv_at hl 0 rfl) ?_
          refine lv_iconst (v := 0) S.1 S.2.1 dM_hit_16 (by decide) ?_
          refine lv_aload_n S.1 S.2.1 dM_hit_17 rfl (lv_at hl 0 rfl) ?_
          refine kb_get S w 0 rfl fM_43 rfl dM_hit_18 ?_
          refine W.eq (g2 := F0 m 21 ls [.ref (a 12), .int 0, .ref (a 0)]) rfl ?_
          refine lv_iload_n S.1 S.2.1 dM_hit_21 rfl (lv_at hl 2 rfl) ?_
          obtain ⟨hi4, h⟩ := kb_ck_of h
          refine kb_iald S w 12 0 rfl rfl hi4 dM_hit_22 ?_
          refine W.eq (g2 := F0 m 23 ls [.int (z1 12 (kb_ix (x2))), .int 0, .ref (a 0)]) rfl ?_
          refine lv_aload_n S.1 S.2.1 dM_hit_23 rfl (lv_at hl 0 rfl) ?_
          refine kb_get S w 0 rfl fM_46 rfl dM_hit_24 ?_
          refine W.eq (g2 := F0 m 27 ls [.ref (a 13), .int (z1 12 (kb_ix (x2))), .int 0, .ref (a 0)]) rfl ?_
          refine lv_iload_n S.1 S.2.1 dM_hit_27 rfl (lv_at hl 2 rfl) ?_
          obtain ⟨hi5, h⟩ := kb_ck_of h
          refine kb_iald S w 13 0 rfl rfl hi5 dM_hit_28 ?_
          refine W.eq (g2 := F0 m 29 ls [.int (z1 13 (kb_ix (x2))), .int (z1 12 (kb_ix (x2))), .int 0, .ref (a 0)]) rfl ?_
          obtain ⟨r7, z6, hc8, h⟩ := kb_cl_of h
          refine kb_calli (As := [.int 0, .int (z1 12 (kb_ix (x2))), .int (z1 13 (kb_ix (x2)))]) (rest := []) (q0 := 0) (ci := 3) S w (fun sz => cM_brokenUse l D cI cZ a _ _ _ sz 0 (z1 12 (kb_ix (x2))) (z1 13 (kb_ix (x2))) hc8) Y_M_brokenUse I_M_brokenUse S_M_brokenUse lM_99 ⟨rfl, rfl, Nat.le_of_ble_eq_true rfl, Nat.le_of_ble_eq_true rfl⟩ rfl rfl rfl rfl hl.1 rfl (Nat.le_of_ble_eq_true rfl) dM_hit_29 ⟨Nat.le_of_ble_eq_true rfl, Nat.le_of_ble_eq_true rfl⟩ (fun H locs w => ?_)
          refine lv_if_ne (tgt := 81) S.1 S.2.1 dM_hit_32 (by decide) (fun hc => ?_) (fun hc => ?_)
          · have h := (kb_brf hc).symm.trans h
            refine lv_iinc (v := x2 + 1) (k := 2) S.1 S.2.1 dM_hit_81 hl rfl rfl (by decide) rfl (fun ls hl => ?_)
            have hl : lv_has ls 6 [(2, .int (x2 + 1)), (0, .ref (a 0)), (1, .int x1)] := hl
            refine lv_goto (tgt := 2) S.1 S.2.1 dM_hit_84 (by decide) ?_
            exact ih x1 (x2 + 1) z6 _ _ _ (lv_sub hl [1, 2, 0] rfl) w h
          · have h := (kb_brt hc).symm.trans h
            refine lv_aload_n S.1 S.2.1 dM_hit_35 rfl (lv_at hl 0 rfl) ?_
            refine kb_get S w 0 rfl fM_43 rfl dM_hit_36 ?_
            refine W.eq (g2 := F0 m 39 ls [.ref (a 12)]) rfl ?_
            refine lv_iload_n S.1 S.2.1 dM_hit_39 rfl (lv_at hl 2 rfl) ?_
            obtain ⟨hi9, h⟩ := kb_ck_of h
            refine kb_iald S w 12 0 rfl rfl hi9 dM_hit_40 ?_
            refine W.eq (g2 := F0 m 41 ls [.int (z6 12 (kb_ix (x2)))]) rfl ?_
            refine lv_istore_n S.1 S.2.1 dM_hit_41 rfl hl (by decide) rfl (fun ls hl => ?_)
            have hl : lv_has ls 6 [(3, .int (z6 12 (kb_ix (x2)))), (0, .ref (a 0)), (1, .int x1), (2, .int x2)] := hl
            refine lv_aload_n S.1 S.2.1 dM_hit_42 rfl (lv_at hl 1 rfl) ?_
            refine kb_get S w 0 rfl fM_46 rfl dM_hit_43 ?_
            refine W.eq (g2 := F0 m 46 ls [.ref (a 13)]) rfl ?_
            refine lv_iload_n S.1 S.2.1 dM_hit_46 rfl (lv_at hl 3 rfl) ?_
            obtain ⟨hi10, h⟩ := kb_ck_of h
            refine kb_iald S w 13 0 rfl rfl hi10 dM_hit_47 ?_
            refine W.eq (g2 := F0 m 48 ls [.int (z6 13 (kb_ix (x2)))]) rfl ?_
            refine lv_istore S.1 S.2.1 dM_hit_48 hl (by decide) rfl (fun ls hl => ?_)
            have hl : lv_has ls 6 [(4, .int (z6 13 (kb_ix (x2)))), (3, .int (z6 12 (kb_ix (x2)))), (0, .ref (a 0)), (1, .int x1), (2, .int x2)] := hl
            refine lv_aload_n S.1 S.2.1 dM_hit_50 rfl (lv_at hl 2 rfl) ?_
            refine kb_get S w 0 rfl fM_52 rfl dM_hit_51 ?_
            refine W.eq (g2 := F0 m 54 ls [.ref (a 15)]) rfl ?_
            refine lv_iload_n S.1 S.2.1 dM_hit_54 rfl (lv_at hl 4 rfl) ?_
            obtain ⟨hi11, h⟩ := kb_ck_of h
            refine kb_zald S w 15 1 rfl rfl hi11 dM_hit_55 ?_
            refine W.eq (g2 := F0 m 56 ls [.int (z6 15 (kb_ix (x2)))]) rfl ?_
            refine lv_istore S.1 S.2.1 dM_hit_56 hl (by decide) rfl (fun ls hl => ?_)
            have hl : lv_has ls 6 [(5, .int (z6 15 (kb_ix (x2)))), (4, .int (z6 13 (kb_ix (x2)))), (3, .int (z6 12 (kb_ix (x2)))), (0, .ref (a 0)), (1, .int x1), (2, .int x2)] := hl
            refine lv_aload_n S.1 S.2.1 dM_hit_58 rfl (lv_at hl 3 rfl) ?_
            refine lv_iload_n S.1 S.2.1 dM_hit_59 rfl (lv_at hl 5 rfl) ?_
            obtain ⟨r13, z12, hc14, h⟩ := kb_cl_of h
            refine kb_callv (As := [.int x2]) (rest := []) (q0 := 0) (ci := 3) S w (fun sz => cM_serve l D cI cZ a _ _ _ sz x2 hc14) Y_M_serve I_M_serve S_M_serve lM_136 ⟨rfl, rfl, Nat.le_of_ble_eq_true rfl, Nat.le_of_ble_eq_true rfl⟩ rfl rfl rfl rfl hl.1 rfl (Nat.le_of_ble_eq_true rfl) dM_hit_60 ⟨Nat.le_of_ble_eq_true rfl, Nat.le_of_ble_eq_true rfl⟩ (fun H locs w => ?_)
            refine lv_aload_n S.1 S.2.1 dM_hit_63 rfl (lv_at hl 3 rfl) ?_
            refine lv_iload S.1 S.2.1 dM_hit_64 (lv_at hl 0 rfl) ?_
            refine lv_if_eq (tgt := 73) S.1 S.2.1 dM_hit_66 (by decide) (fun hc => ?_) (fun hc => ?_)
            · have h := (kb_brt hc).symm.trans h
              refine lv_iconst (v := 2) S.1 S.2.1 dM_hit_73 (by decide) ?_
              refine lv_iload_n S.1 S.2.1 dM_hit_74 rfl (lv_at hl 2 rfl) ?_
              refine lv_iload S.1 S.2.1 dM_hit_75 (lv_at hl 1 rfl) ?_
              obtain ⟨r16, z15, hc17, h⟩ := kb_cl_of h
              refine kb_calli (As := [.int 2, .int (z6 12 (kb_ix (x2))), .int (z6 13 (kb_ix (x2)))]) (rest := []) (q0 := 0) (ci := 3) S w (fun sz => cM_told l D cI cZ a _ _ _ sz 2 (z6 12 (kb_ix (x2))) (z6 13 (kb_ix (x2))) hc17) Y_M_told I_M_told S_M_told lM_130 ⟨rfl, rfl, Nat.le_of_ble_eq_true rfl, Nat.le_of_ble_eq_true rfl⟩ rfl rfl rfl rfl hl.1 rfl (Nat.le_of_ble_eq_true rfl) dM_hit_77 ⟨Nat.le_of_ble_eq_true rfl, Nat.le_of_ble_eq_true rfl⟩ (fun H locs w => ?_)
              exact kb_iret (mW cI cZ a) S hr hlk hA w h dM_hit_80
            · have h := (kb_brf hc).symm.trans h
              refine lv_iconst (v := 3) S.1 S.2.1 dM_hit_69 (by decide) ?_
              refine lv_goto (tgt := 74) S.1 S.2.1 dM_hit_70 (by decide) ?_
              refine lv_iload_n S.1 S.2.1 dM_hit_74 rfl (lv_at hl 2 rfl) ?_
              refine lv_iload S.1 S.2.1 dM_hit_75 (lv_at hl 1 rfl) ?_
              obtain ⟨r19, z18, hc20, h⟩ := kb_cl_of h
              refine kb_calli (As := [.int 3, .int (z6 12 (kb_ix (x2))), .int (z6 13 (kb_ix (x2)))]) (rest := []) (q0 := 0) (ci := 3) S w (fun sz => cM_told l D cI cZ a _ _ _ sz 3 (z6 12 (kb_ix (x2))) (z6 13 (kb_ix (x2))) hc20) Y_M_told I_M_told S_M_told lM_130 ⟨rfl, rfl, Nat.le_of_ble_eq_true rfl, Nat.le_of_ble_eq_true rfl⟩ rfl rfl rfl rfl hl.1 rfl (Nat.le_of_ble_eq_true rfl) dM_hit_77 ⟨Nat.le_of_ble_eq_true rfl, Nat.le_of_ble_eq_true rfl⟩ (fun H locs w => ?_)
              exact kb_iret (mW cI cZ a) S hr hlk hA w h dM_hit_80
  refine lv_iconst (v := 0) S.1 S.2.1 dM_hit_0 (by decide) ?_
  refine lv_istore_n S.1 S.2.1 dM_hit_1 rfl hl (by decide) rfl (fun ls hl => ?_)
  have hl : lv_has ls 6 [(2, .int 0), (0, .ref (a 0)), (1, .int x1)] := hl
  exact L2 3000 x1 0 z0 _ _ _ (lv_sub hl [1, 2, 0] rfl) w h
set_option maxHeartbeats 4000000 in
set_option maxRecDepth 100000 in
theorem cM_asks (l : Launch) (D : va_G) (cI cZ : ClassId) (a : Nat → Nat) (z0 z' : kb_S) (r : Int32) (sz : Nat) (x1 : Int32) (x2 : Int32) (x3 : Int32) (h : pM_asks x1 x2 x3 z0 = some (r, z')) : Met l y_M_asks (Cond.code y_M_asks c_M_asks 6 (some .boolean) :: wsB) rm_M_asks (kb_Pc D vwCl [(cI, .int), (cZ, .boolean)] sz [.ref (a 0), .int x1, .int x2, .int x3] (mW cI cZ a z0)) (kb_Qi D vwCl sz (mW cI cZ a z0) r (mW cI cZ a z')) 0 0 (va_A (mW cI cZ a z0) sz) := by
  refine kb_start (by decide) rfl (Nat.le_of_ble_eq_true rfl) ?_
  intro p e s m args below meth c A ls S hr hlk hsz hA w hl
  have hl : lv_has ls 6 [(0, .ref (a 0)), (1, .int x1), (2, .int x2), (3, .int x3)] := hl
  unfold pM_asks at h
  have L6 : ∀ (n : Nat) (x1 : Int32) (x2 : Int32) (x3 : Int32) (x4 : Int32) (x5 : Int32) (z : kb_S) (H : Heap) (locs : List Loc) (ls : Array Slot), lv_has ls 6 [(0, .ref (a 0)), (1, .int x1), (2, .int x2), (3, .int x3), (4, .int x4), (5, .int x5)] → kb_W D vwCl [(cI, .int), (cZ, .boolean)] A s H locs (mW cI cZ a z) → pM_asks_L6 n x1 x2 x3 x4 x5 z = some (r, z') → W p l e rm_M_asks s m args below meth c H locs 0 0 (MQ below (kb_Qi D vwCl sz (mW cI cZ a z0) r (mW cI cZ a z')) args s 0 0 (va_A (mW cI cZ a z0) sz)) (F0 m 6 ls []) := by
    intro n
    induction n with
    | zero =>
      intro x1 x2 x3 x4 x5 z H locs ls hl w h
      exact absurd h (by simp [pM_asks_L6])
    | succ n ih =>
      intro x1 x2 x3 x4 x5 z H locs ls hl w h
      rw [pM_asks_L6] at h
      refine lv_iload S.1 S.2.1 dM_asks_6 (lv_at hl 5 rfl) ?_
      refine lv_iload_n S.1 S.2.1 dM_asks_8 rfl (lv_at hl 1 rfl) ?_
      refine lv_icmp_ge (tgt := 56) S.1 S.2.1 dM_asks_9 (by decide) (fun hc => ?_) (fun hc => ?_)
      · have h := (kb_brt hc).symm.trans h
        refine lv_iload S.1 S.2.1 dM_asks_56 (lv_at hl 4 rfl) ?_
        obtain ⟨hb1, h⟩ := kb_ck_of h
        exact kb_zret (mW cI cZ a) S hr hlk hA w h hb1 dM_asks_58
      · have h := (kb_brf hc).symm.trans h
        refine lv_iload S.1 S.2.1 dM_asks_12 (lv_at hl 4 rfl) ?_
        refine lv_if_ne (tgt := 43) S.1 S.2.1 dM_asks_14 (by decide) (fun hc => ?_) (fun hc => ?_)
        · have h := (kb_brf hc).symm.trans h
          refine lv_iconst (v := 1) S.1 S.2.1 dM_asks_43 (by decide) ?_
          refine lv_goto (tgt := 48) S.1 S.2.1 dM_asks_44 (by decide) ?_
          refine lv_istore S.1 S.2.1 dM_asks_48 hl (by decide) rfl (fun ls hl => ?_)
          have hl : lv_has ls 6 [(4, .int 1), (0, .ref (a 0)), (1, .int x1), (2, .int x2), (3, .int x3), (5, .int x5)] := hl
          refine lv_iinc (v := x5 + 1) (k := 5) S.1 S.2.1 dM_asks_50 hl rfl rfl (by decide) rfl (fun ls hl => ?_)
          have hl : lv_has ls 6 [(5, .int (x5 + 1)), (4, .int 1), (0, .ref (a 0)), (1, .int x1), (2, .int x2), (3, .int x3)] := hl
          refine lv_goto (tgt := 6) S.1 S.2.1 dM_asks_53 (by decide) ?_
          exact ih x1 x2 x3 1 (x5 + 1) z _ _ _ (lv_sub hl [2, 3, 4, 5, 1, 0] rfl) w h
        · have h := (kb_brt hc).symm.trans h
          refine lv_aload_n S.1 S.2.1 dM_asks_17 rfl (lv_at hl 0 rfl) ?_
          refine kb_get S w 0 rfl fM_43 rfl dM_asks_18 ?_
          refine W.eq (g2 := F0 m 21 ls [.ref (a 12)]) rfl ?_
          refine lv_iload S.1 S.2.1 dM_asks_21 (lv_at hl 5 rfl) ?_
          obtain ⟨hi2, h⟩ := kb_ck_of h
          refine kb_iald S w 12 0 rfl rfl hi2 dM_asks_23 ?_
          refine W.eq (g2 := F0 m 24 ls [.int (z 12 (kb_ix (x5)))]) rfl ?_
          refine lv_iload_n S.1 S.2.1 dM_asks_24 rfl (lv_at hl 2 rfl) ?_
          refine lv_icmp_ne (tgt := 47) S.1 S.2.1 dM_asks_25 (by decide) (fun hc => ?_) (fun hc => ?_)
          · have h := (kb_brf hc).symm.trans h
            refine lv_iconst (v := 0) S.1 S.2.1 dM_asks_47 (by decide) ?_
            refine lv_istore S.1 S.2.1 dM_asks_48 hl (by decide) rfl (fun ls hl => ?_)
            have hl : lv_has ls 6 [(4, .int 0), (0, .ref (a 0)), (1, .int x1), (2, .int x2), (3, .int x3), (5, .int x5)] := hl
            refine lv_iinc (v := x5 + 1) (k := 5) S.1 S.2.1 dM_asks_50 hl rfl rfl (by decide) rfl (fun ls hl => ?_)
            have hl : lv_has ls 6 [(5, .int (x5 + 1)), (4, .int 0), (0, .ref (a 0)), (1, .int x1), (2, .int x2), (3, .int x3)] := hl
            refine lv_goto (tgt := 6) S.1 S.2.1 dM_asks_53 (by decide) ?_
            exact ih x1 x2 x3 0 (x5 + 1) z _ _ _ (lv_sub hl [2, 3, 4, 5, 1, 0] rfl) w h
          · have h := (kb_brt hc).symm.trans h
            refine lv_iload_n S.1 S.2.1 dM_asks_28 rfl (lv_at hl 3 rfl) ?_
            refine lv_if_lt (tgt := 43) S.1 S.2.1 dM_asks_29 (by decide) (fun hc => ?_) (fun hc => ?_)
            · have h := (kb_brt hc).symm.trans h
              refine lv_iconst (v := 1) S.1 S.2.1 dM_asks_43 (by decide) ?_
              refine lv_goto (tgt := 48) S.1 S.2.1 dM_asks_44 (by decide) ?_
              refine lv_istore S.1 S.2.1 dM_asks_48 hl (by decide) rfl (fun ls hl => ?_)
              have hl : lv_has ls 6 [(4, .int 1), (0, .ref (a 0)), (1, .int x1), (2, .int x2), (3, .int x3), (5, .int x5)] := hl
              refine lv_iinc (v := x5 + 1) (k := 5) S.1 S.2.1 dM_asks_50 hl rfl rfl (by decide) rfl (fun ls hl => ?_)
              have hl : lv_has ls 6 [(5, .int (x5 + 1)), (4, .int 1), (0, .ref (a 0)), (1, .int x1), (2, .int x2), (3, .int x3)] := hl
              refine lv_goto (tgt := 6) S.1 S.2.1 dM_asks_53 (by decide) ?_
              exact ih x1 x2 x3 1 (x5 + 1) z _ _ _ (lv_sub hl [2, 3, 4, 5, 1, 0] rfl) w h
            · have h := (kb_brf hc).symm.trans h
              refine lv_aload_n S.1 S.2.1 dM_asks_32 rfl (lv_at hl 0 rfl) ?_
              refine kb_get S w 0 rfl fM_46 rfl dM_asks_33 ?_
              refine W.eq (g2 := F0 m 36 ls [.ref (a 13)]) rfl ?_
              refine lv_iload S.1 S.2.1 dM_asks_36 (lv_at hl 5 rfl) ?_
              obtain ⟨hi3, h⟩ := kb_ck_of h
              refine kb_iald S w 13 0 rfl rfl hi3 dM_asks_38 ?_
              refine W.eq (g2 := F0 m 39 ls [.int (z 13 (kb_ix (x5)))]) rfl ?_
              refine lv_iload_n S.1 S.2.1 dM_asks_39 rfl (lv_at hl 3 rfl) ?_
              refine lv_icmp_ne (tgt := 47) S.1 S.2.1 dM_asks_40 (by decide) (fun hc => ?_) (fun hc => ?_)
              · have h := (kb_brf hc).symm.trans h
                refine lv_iconst (v := 0) S.1 S.2.1 dM_asks_47 (by decide) ?_
                refine lv_istore S.1 S.2.1 dM_asks_48 hl (by decide) rfl (fun ls hl => ?_)
                have hl : lv_has ls 6 [(4, .int 0), (0, .ref (a 0)), (1, .int x1), (2, .int x2), (3, .int x3), (5, .int x5)] := hl
                refine lv_iinc (v := x5 + 1) (k := 5) S.1 S.2.1 dM_asks_50 hl rfl rfl (by decide) rfl (fun ls hl => ?_)
                have hl : lv_has ls 6 [(5, .int (x5 + 1)), (4, .int 0), (0, .ref (a 0)), (1, .int x1), (2, .int x2), (3, .int x3)] := hl
                refine lv_goto (tgt := 6) S.1 S.2.1 dM_asks_53 (by decide) ?_
                exact ih x1 x2 x3 0 (x5 + 1) z _ _ _ (lv_sub hl [2, 3, 4, 5, 1, 0] rfl) w h
              · have h := (kb_brt hc).symm.trans h
                refine lv_iconst (v := 1) S.1 S.2.1 dM_asks_43 (by decide) ?_
                refine lv_goto (tgt := 48) S.1 S.2.1 dM_asks_44 (by decide) ?_
                refine lv_istore S.1 S.2.1 dM_asks_48 hl (by decide) rfl (fun ls hl => ?_)
                have hl : lv_has ls 6 [(4, .int 1), (0, .ref (a 0)), (1, .int x1), (2, .int x2), (3, .int x3), (5, .int x5)] := hl
                refine lv_iinc (v := x5 + 1) (k := 5) S.1 S.2.1 dM_asks_50 hl rfl rfl (by decide) rfl (fun ls hl => ?_)
                have hl : lv_has ls 6 [(5, .int (x5 + 1)), (4, .int 1), (0, .ref (a 0)), (1, .int x1), (2, .int x2), (3, .int x3)] := hl
                refine lv_goto (tgt := 6) S.1 S.2.1 dM_asks_53 (by decide) ?_
                exact ih x1 x2 x3 1 (x5 + 1) z _ _ _ (lv_sub hl [2, 3, 4, 5, 1, 0] rfl) w h
  refine lv_iconst (v := 0) S.1 S.2.1 dM_asks_0 (by decide) ?_
  refine lv_istore S.1 S.2.1 dM_asks_1 hl (by decide) rfl (fun ls hl => ?_)
  have hl : lv_has ls 6 [(4, .int 0), (0, .ref (a 0)), (1, .int x1), (2, .int x2), (3, .int x3)] := hl
  refine lv_iconst (v := 0) S.1 S.2.1 dM_asks_3 (by decide) ?_
  refine lv_istore S.1 S.2.1 dM_asks_4 hl (by decide) rfl (fun ls hl => ?_)
  have hl : lv_has ls 6 [(5, .int 0), (4, .int 0), (0, .ref (a 0)), (1, .int x1), (2, .int x2), (3, .int x3)] := hl
  exact L6 3000 x1 x2 x3 0 0 z0 _ _ _ (lv_sub hl [2, 3, 4, 5, 1, 0] rfl) w h
set_option maxHeartbeats 4000000 in
set_option maxRecDepth 100000 in
theorem cM_way (l : Launch) (D : va_G) (cI cZ : ClassId) (a : Nat → Nat) (z0 z' : kb_S) (r : Int32) (sz : Nat) (x1 : Int32) (h : pM_way x1 z0 = some (r, z')) : Met l y_M_way (Cond.code y_M_way c_M_way 6 (some .int) :: wsB) rm_M_way (kb_Pc D vwCl [(cI, .int), (cZ, .boolean)] sz [.ref (a 0), .int x1] (mW cI cZ a z0)) (kb_Qi D vwCl sz (mW cI cZ a z0) r (mW cI cZ a z')) 0 0 (va_A (mW cI cZ a z0) sz) := by
  refine kb_start (by decide) rfl (Nat.le_of_ble_eq_true rfl) ?_
  intro p e s m args below meth c A ls S hr hlk hsz hA w hl
  have hl : lv_has ls 6 [(0, .ref (a 0)), (1, .int x1)] := hl
  unfold pM_way at h
  have L2 : ∀ (n : Nat) (x1 : Int32) (x2 : Int32) (z : kb_S) (H : Heap) (locs : List Loc) (ls : Array Slot), lv_has ls 6 [(0, .ref (a 0)), (1, .int x1), (2, .int x2)] → kb_W D vwCl [(cI, .int), (cZ, .boolean)] A s H locs (mW cI cZ a z) → pM_way_L2 n x1 x2 z = some (r, z') → W p l e rm_M_way s m args below meth c H locs 0 0 (MQ below (kb_Qi D vwCl sz (mW cI cZ a z0) r (mW cI cZ a z')) args s 0 0 (va_A (mW cI cZ a z0) sz)) (F0 m 2 ls []) := by
    intro n
    induction n with
    | zero =>
      intro x1 x2 z H locs ls hl w h
      exact absurd h (by simp [pM_way_L2])
    | succ n ih =>
      intro x1 x2 z H locs ls hl w h
      rw [pM_way_L2] at h
      refine lv_iload_n S.1 S.2.1 dM_way_2 rfl (lv_at hl 2 rfl) ?_
      refine lv_iload_n S.1 S.2.1 dM_way_3 rfl (lv_at hl 1 rfl) ?_
      refine lv_icmp_ge (tgt := 134) S.1 S.2.1 dM_way_4 (by decide) (fun hc => ?_) (fun hc => ?_)
      · have h := (kb_brt hc).symm.trans h
        refine lv_iconst (v := 0) S.1 S.2.1 dM_way_134 (by decide) ?_
        exact kb_iret (mW cI cZ a) S hr hlk hA w h dM_way_135
      · have h := (kb_brf hc).symm.trans h
        refine lv_aload_n S.1 S.2.1 dM_way_7 rfl (lv_at hl 0 rfl) ?_
        refine kb_get S w 0 rfl fM_43 rfl dM_way_8 ?_
        refine W.eq (g2 := F0 m 11 ls [.ref (a 12)]) rfl ?_
        refine lv_iload_n S.1 S.2.1 dM_way_11 rfl (lv_at hl 2 rfl) ?_
        obtain ⟨hi1, h⟩ := kb_ck_of h
        refine kb_iald S w 12 0 rfl rfl hi1 dM_way_12 ?_
        refine W.eq (g2 := F0 m 13 ls [.int (z 12 (kb_ix (x2)))]) rfl ?_
        refine lv_istore_n S.1 S.2.1 dM_way_13 rfl hl (by decide) rfl (fun ls hl => ?_)
        have hl : lv_has ls 6 [(3, .int (z 12 (kb_ix (x2)))), (0, .ref (a 0)), (1, .int x1), (2, .int x2)] := hl
        refine lv_aload_n S.1 S.2.1 dM_way_14 rfl (lv_at hl 1 rfl) ?_
        refine kb_get S w 0 rfl fM_46 rfl dM_way_15 ?_
        refine W.eq (g2 := F0 m 18 ls [.ref (a 13)]) rfl ?_
        refine lv_iload_n S.1 S.2.1 dM_way_18 rfl (lv_at hl 3 rfl) ?_
        obtain ⟨hi2, h⟩ := kb_ck_of h
        refine kb_iald S w 13 0 rfl rfl hi2 dM_way_19 ?_
        refine W.eq (g2 := F0 m 20 ls [.int (z 13 (kb_ix (x2)))]) rfl ?_
        refine lv_istore S.1 S.2.1 dM_way_20 hl (by decide) rfl (fun ls hl => ?_)
        have hl : lv_has ls 6 [(4, .int (z 13 (kb_ix (x2)))), (3, .int (z 12 (kb_ix (x2)))), (0, .ref (a 0)), (1, .int x1), (2, .int x2)] := hl
        refine lv_aload_n S.1 S.2.1 dM_way_22 rfl (lv_at hl 2 rfl) ?_
        refine lv_iload_n S.1 S.2.1 dM_way_23 rfl (lv_at hl 4 rfl) ?_
        refine lv_iload_n S.1 S.2.1 dM_way_24 rfl (lv_at hl 1 rfl) ?_
        refine lv_iconst (v := (-1)) S.1 S.2.1 dM_way_25 (by decide) ?_
        obtain ⟨r4, z3, hc5, h⟩ := kb_cl_of h
        refine kb_calli (As := [.int x2, .int (z 12 (kb_ix (x2))), .int ((-1))]) (rest := []) (q0 := 0) (ci := 3) S w (fun sz => cM_asks l D cI cZ a _ _ _ sz x2 (z 12 (kb_ix (x2))) (-1) hc5) Y_M_asks I_M_asks S_M_asks lM_140 ⟨rfl, rfl, Nat.le_of_ble_eq_true rfl, Nat.le_of_ble_eq_true rfl⟩ rfl rfl rfl rfl hl.1 rfl (Nat.le_of_ble_eq_true rfl) dM_way_26 ⟨Nat.le_of_ble_eq_true rfl, Nat.le_of_ble_eq_true rfl⟩ (fun H locs w => ?_)
        refine lv_if_ne (tgt := 36) S.1 S.2.1 dM_way_29 (by decide) (fun hc => ?_) (fun hc => ?_)
        · have h := (kb_brf hc).symm.trans h
          refine lv_iconst (v := 0) S.1 S.2.1 dM_way_36 (by decide) ?_
          refine lv_istore S.1 S.2.1 dM_way_37 hl (by decide) rfl (fun ls hl => ?_)
          have hl : lv_has ls 6 [(5, .int 0), (4, .int (z 13 (kb_ix (x2)))), (3, .int (z 12 (kb_ix (x2)))), (0, .ref (a 0)), (1, .int x1), (2, .int x2)] := hl
          refine lv_iload S.1 S.2.1 dM_way_39 (lv_at hl 0 rfl) ?_
          refine lv_if_eq (tgt := 71) S.1 S.2.1 dM_way_41 (by decide) (fun _ => ?_) (fun hc => absurd hc (by decide))
          refine lv_iload S.1 S.2.1 dM_way_71 (lv_at hl 0 rfl) ?_
          refine lv_if_eq (tgt := 128) S.1 S.2.1 dM_way_73 (by decide) (fun _ => ?_) (fun hc => absurd hc (by decide))
          refine lv_iinc (v := x2 + 1) (k := 5) S.1 S.2.1 dM_way_128 hl rfl rfl (by decide) rfl (fun ls hl => ?_)
          have hl : lv_has ls 6 [(2, .int (x2 + 1)), (5, .int 0), (4, .int (z 13 (kb_ix (x2)))), (3, .int (z 12 (kb_ix (x2)))), (0, .ref (a 0)), (1, .int x1)] := hl
          refine lv_goto (tgt := 2) S.1 S.2.1 dM_way_131 (by decide) ?_
          exact ih x1 (x2 + 1) z3 _ _ _ (lv_sub hl [4, 5, 0] rfl) w h
        · have h := (kb_brt hc).symm.trans h
          refine lv_iconst (v := 1) S.1 S.2.1 dM_way_32 (by decide) ?_
          refine lv_goto (tgt := 37) S.1 S.2.1 dM_way_33 (by decide) ?_
          refine lv_istore S.1 S.2.1 dM_way_37 hl (by decide) rfl (fun ls hl => ?_)
          have hl : lv_has ls 6 [(5, .int 1), (4, .int (z 13 (kb_ix (x2)))), (3, .int (z 12 (kb_ix (x2)))), (0, .ref (a 0)), (1, .int x1), (2, .int x2)] := hl
          refine lv_iload S.1 S.2.1 dM_way_39 (lv_at hl 0 rfl) ?_
          refine lv_if_eq (tgt := 71) S.1 S.2.1 dM_way_41 (by decide) (fun hc => absurd hc (by decide)) (fun _ => ?_)
          refine lv_aload_n S.1 S.2.1 dM_way_44 rfl (lv_at hl 3 rfl) ?_
          refine kb_get S w 0 rfl fM_13 rfl dM_way_45 ?_
          refine W.eq (g2 := F0 m 48 ls [.ref (a 2)]) rfl ?_
          refine lv_iload_n S.1 S.2.1 dM_way_48 rfl (lv_at hl 2 rfl) ?_
          obtain ⟨hi6, h⟩ := kb_ck_of h
          refine kb_iald S w 2 0 rfl rfl hi6 dM_way_49 ?_
          refine W.eq (g2 := F0 m 50 ls [.int (z3 2 (kb_ix (z 12 (kb_ix (x2)))))]) rfl ?_
          refine lv_if_ge (tgt := 71) S.1 S.2.1 dM_way_50 (by decide) (fun hc => ?_) (fun hc => ?_)
          · have h := (kb_brt hc).symm.trans h
            refine lv_iload S.1 S.2.1 dM_way_71 (lv_at hl 0 rfl) ?_
            refine lv_if_eq (tgt := 128) S.1 S.2.1 dM_way_73 (by decide) (fun hc => absurd hc (by decide)) (fun _ => ?_)
            refine lv_aload_n S.1 S.2.1 dM_way_76 rfl (lv_at hl 3 rfl) ?_
            refine kb_get S w 0 rfl fM_13 rfl dM_way_77 ?_
            refine W.eq (g2 := F0 m 80 ls [.ref (a 2)]) rfl ?_
            refine lv_iload_n S.1 S.2.1 dM_way_80 rfl (lv_at hl 2 rfl) ?_
            obtain ⟨hi7, h⟩ := kb_ck_of h
            refine kb_iald S w 2 0 rfl rfl hi7 dM_way_81 ?_
            refine W.eq (g2 := F0 m 82 ls [.int (z3 2 (kb_ix (z 12 (kb_ix (x2)))))]) rfl ?_
            refine lv_if_lt (tgt := 128) S.1 S.2.1 dM_way_82 (by decide) (fun hc => ?_) (fun hc => ?_)
            · have h := (kb_brt hc).symm.trans h
              refine lv_iinc (v := x2 + 1) (k := 5) S.1 S.2.1 dM_way_128 hl rfl rfl (by decide) rfl (fun ls hl => ?_)
              have hl : lv_has ls 6 [(2, .int (x2 + 1)), (5, .int 1), (4, .int (z 13 (kb_ix (x2)))), (3, .int (z 12 (kb_ix (x2)))), (0, .ref (a 0)), (1, .int x1)] := hl
              refine lv_goto (tgt := 2) S.1 S.2.1 dM_way_131 (by decide) ?_
              exact ih x1 (x2 + 1) z3 _ _ _ (lv_sub hl [4, 5, 0] rfl) w h
            · have h := (kb_brf hc).symm.trans h
              refine lv_aload_n S.1 S.2.1 dM_way_85 rfl (lv_at hl 3 rfl) ?_
              refine kb_get S w 0 rfl fM_13 rfl dM_way_86 ?_
              refine W.eq (g2 := F0 m 89 ls [.ref (a 2)]) rfl ?_
              refine lv_iload_n S.1 S.2.1 dM_way_89 rfl (lv_at hl 2 rfl) ?_
              obtain ⟨hi8, h⟩ := kb_ck_of h
              refine kb_iald S w 2 0 rfl rfl hi8 dM_way_90 ?_
              refine W.eq (g2 := F0 m 91 ls [.int (z3 2 (kb_ix (z 12 (kb_ix (x2)))))]) rfl ?_
              refine lv_iload S.1 S.2.1 dM_way_91 (lv_at hl 1 rfl) ?_
              refine lv_icmp_eq (tgt := 128) S.1 S.2.1 dM_way_93 (by decide) (fun hc => ?_) (fun hc => ?_)
              · have h := (kb_brt hc).symm.trans h
                refine lv_iinc (v := x2 + 1) (k := 5) S.1 S.2.1 dM_way_128 hl rfl rfl (by decide) rfl (fun ls hl => ?_)
                have hl : lv_has ls 6 [(2, .int (x2 + 1)), (5, .int 1), (4, .int (z 13 (kb_ix (x2)))), (3, .int (z 12 (kb_ix (x2)))), (0, .ref (a 0)), (1, .int x1)] := hl
                refine lv_goto (tgt := 2) S.1 S.2.1 dM_way_131 (by decide) ?_
                exact ih x1 (x2 + 1) z3 _ _ _ (lv_sub hl [4, 5, 0] rfl) w h
              · have h := (kb_brf hc).symm.trans h
                refine lv_aload_n S.1 S.2.1 dM_way_96 rfl (lv_at hl 3 rfl) ?_
                refine lv_iconst (v := 0) S.1 S.2.1 dM_way_97 (by decide) ?_
                refine lv_iload_n S.1 S.2.1 dM_way_98 rfl (lv_at hl 2 rfl) ?_
                obtain ⟨r10, z9, hc11, h⟩ := kb_cl_of h
                refine kb_calli (As := [.int 0, .int (z 12 (kb_ix (x2)))]) (rest := []) (q0 := 0) (ci := 3) S w (fun sz => cM_brokenClose l D cI cZ a _ _ _ sz 0 (z 12 (kb_ix (x2))) hc11) Y_M_brokenClose I_M_brokenClose S_M_brokenClose lM_92 ⟨rfl, rfl, Nat.le_of_ble_eq_true rfl, Nat.le_of_ble_eq_true rfl⟩ rfl rfl rfl rfl hl.1 rfl (Nat.le_of_ble_eq_true rfl) dM_way_99 ⟨Nat.le_of_ble_eq_true rfl, Nat.le_of_ble_eq_true rfl⟩ (fun H locs w => ?_)
                refine lv_if_ne (tgt := 128) S.1 S.2.1 dM_way_102 (by decide) (fun hc => ?_) (fun hc => ?_)
                · have h := (kb_brf hc).symm.trans h
                  refine lv_iinc (v := x2 + 1) (k := 5) S.1 S.2.1 dM_way_128 hl rfl rfl (by decide) rfl (fun ls hl => ?_)
                  have hl : lv_has ls 6 [(2, .int (x2 + 1)), (5, .int 1), (4, .int (z 13 (kb_ix (x2)))), (3, .int (z 12 (kb_ix (x2)))), (0, .ref (a 0)), (1, .int x1)] := hl
                  refine lv_goto (tgt := 2) S.1 S.2.1 dM_way_131 (by decide) ?_
                  exact ih x1 (x2 + 1) z9 _ _ _ (lv_sub hl [4, 5, 0] rfl) w h
                · have h := (kb_brt hc).symm.trans h
                  refine lv_aload_n S.1 S.2.1 dM_way_105 rfl (lv_at hl 3 rfl) ?_
                  refine lv_iload_n S.1 S.2.1 dM_way_106 rfl (lv_at hl 4 rfl) ?_
                  refine lv_iload_n S.1 S.2.1 dM_way_107 rfl (lv_at hl 2 rfl) ?_
                  refine lv_aload_n S.1 S.2.1 dM_way_108 rfl (lv_at hl 3 rfl) ?_
                  refine kb_get S w 0 rfl fM_13 rfl dM_way_109 ?_
                  refine W.eq (g2 := F0 m 112 ls [.ref (a 2), .int (z 12 (kb_ix (x2))), .int x1, .ref (a 0)]) rfl ?_
                  refine lv_iload_n S.1 S.2.1 dM_way_112 rfl (lv_at hl 2 rfl) ?_
                  obtain ⟨hi12, h⟩ := kb_ck_of h
                  refine kb_iald S w 2 0 rfl rfl hi12 dM_way_113 ?_
                  refine W.eq (g2 := F0 m 114 ls [.int (z9 2 (kb_ix (z 12 (kb_ix (x2))))), .int (z 12 (kb_ix (x2))), .int x1, .ref (a 0)]) rfl ?_
                  obtain ⟨r14, z13, hc15, h⟩ := kb_cl_of h
                  refine kb_calli (As := [.int x1, .int (z 12 (kb_ix (x2))), .int (z9 2 (kb_ix (z 12 (kb_ix (x2)))))]) (rest := []) (q0 := 0) (ci := 3) S w (fun sz => cM_asks l D cI cZ a _ _ _ sz x1 (z 12 (kb_ix (x2))) (z9 2 (kb_ix (z 12 (kb_ix (x2))))) hc15) Y_M_asks I_M_asks S_M_asks lM_140 ⟨rfl, rfl, Nat.le_of_ble_eq_true rfl, Nat.le_of_ble_eq_true rfl⟩ rfl rfl rfl rfl hl.1 rfl (Nat.le_of_ble_eq_true rfl) dM_way_114 ⟨Nat.le_of_ble_eq_true rfl, Nat.le_of_ble_eq_true rfl⟩ (fun H locs w => ?_)
                  refine lv_if_ne (tgt := 128) S.1 S.2.1 dM_way_117 (by decide) (fun hc => ?_) (fun hc => ?_)
                  · have h := (kb_brf hc).symm.trans h
                    refine lv_iinc (v := x2 + 1) (k := 5) S.1 S.2.1 dM_way_128 hl rfl rfl (by decide) rfl (fun ls hl => ?_)
                    have hl : lv_has ls 6 [(2, .int (x2 + 1)), (5, .int 1), (4, .int (z 13 (kb_ix (x2)))), (3, .int (z 12 (kb_ix (x2)))), (0, .ref (a 0)), (1, .int x1)] := hl
                    refine lv_goto (tgt := 2) S.1 S.2.1 dM_way_131 (by decide) ?_
                    exact ih x1 (x2 + 1) z13 _ _ _ (lv_sub hl [4, 5, 0] rfl) w h
                  · have h := (kb_brt hc).symm.trans h
                    refine lv_aload_n S.1 S.2.1 dM_way_120 rfl (lv_at hl 3 rfl) ?_
                    refine lv_iconst (v := 1) S.1 S.2.1 dM_way_121 (by decide) ?_
                    refine lv_iload_n S.1 S.2.1 dM_way_122 rfl (lv_at hl 2 rfl) ?_
                    refine lv_iconst (v := 0) S.1 S.2.1 dM_way_123 (by decide) ?_
                    obtain ⟨r17, z16, hc18, h⟩ := kb_cl_of h
                    refine kb_calli (As := [.int 1, .int (z 12 (kb_ix (x2))), .int 0]) (rest := []) (q0 := 0) (ci := 3) S w (fun sz => cM_told l D cI cZ a _ _ _ sz 1 (z 12 (kb_ix (x2))) 0 hc18) Y_M_told I_M_told S_M_told lM_130 ⟨rfl, rfl, Nat.le_of_ble_eq_true rfl, Nat.le_of_ble_eq_true rfl⟩ rfl rfl rfl rfl hl.1 rfl (Nat.le_of_ble_eq_true rfl) dM_way_124 ⟨Nat.le_of_ble_eq_true rfl, Nat.le_of_ble_eq_true rfl⟩ (fun H locs w => ?_)
                    exact kb_iret (mW cI cZ a) S hr hlk hA w h dM_way_127
          · have h := (kb_brf hc).symm.trans h
            refine lv_aload_n S.1 S.2.1 dM_way_53 rfl (lv_at hl 3 rfl) ?_
            refine lv_iconst (v := 0) S.1 S.2.1 dM_way_54 (by decide) ?_
            refine lv_iload_n S.1 S.2.1 dM_way_55 rfl (lv_at hl 2 rfl) ?_
            obtain ⟨r20, z19, hc21, h⟩ := kb_cl_of h
            refine kb_calli (As := [.int 0, .int (z 12 (kb_ix (x2)))]) (rest := []) (q0 := 0) (ci := 3) S w (fun sz => cM_brokenOpen l D cI cZ a _ _ _ sz 0 (z 12 (kb_ix (x2))) hc21) Y_M_brokenOpen I_M_brokenOpen S_M_brokenOpen lM_88 ⟨rfl, rfl, Nat.le_of_ble_eq_true rfl, Nat.le_of_ble_eq_true rfl⟩ rfl rfl rfl rfl hl.1 rfl (Nat.le_of_ble_eq_true rfl) dM_way_56 ⟨Nat.le_of_ble_eq_true rfl, Nat.le_of_ble_eq_true rfl⟩ (fun H locs w => ?_)
            refine lv_if_ne (tgt := 71) S.1 S.2.1 dM_way_59 (by decide) (fun hc => ?_) (fun hc => ?_)
            · have h := (kb_brf hc).symm.trans h
              refine lv_iload S.1 S.2.1 dM_way_71 (lv_at hl 0 rfl) ?_
              refine lv_if_eq (tgt := 128) S.1 S.2.1 dM_way_73 (by decide) (fun hc => absurd hc (by decide)) (fun _ => ?_)
              refine lv_aload_n S.1 S.2.1 dM_way_76 rfl (lv_at hl 3 rfl) ?_
              refine kb_get S w 0 rfl fM_13 rfl dM_way_77 ?_
              refine W.eq (g2 := F0 m 80 ls [.ref (a 2)]) rfl ?_
              refine lv_iload_n S.1 S.2.1 dM_way_80 rfl (lv_at hl 2 rfl) ?_
              obtain ⟨hi22, h⟩ := kb_ck_of h
              refine kb_iald S w 2 0 rfl rfl hi22 dM_way_81 ?_
              refine W.eq (g2 := F0 m 82 ls [.int (z19 2 (kb_ix (z 12 (kb_ix (x2)))))]) rfl ?_
              refine lv_if_lt (tgt := 128) S.1 S.2.1 dM_way_82 (by decide) (fun hc => ?_) (fun hc => ?_)
              · have h := (kb_brt hc).symm.trans h
                refine lv_iinc (v := x2 + 1) (k := 5) S.1 S.2.1 dM_way_128 hl rfl rfl (by decide) rfl (fun ls hl => ?_)
                have hl : lv_has ls 6 [(2, .int (x2 + 1)), (5, .int 1), (4, .int (z 13 (kb_ix (x2)))), (3, .int (z 12 (kb_ix (x2)))), (0, .ref (a 0)), (1, .int x1)] := hl
                refine lv_goto (tgt := 2) S.1 S.2.1 dM_way_131 (by decide) ?_
                exact ih x1 (x2 + 1) z19 _ _ _ (lv_sub hl [4, 5, 0] rfl) w h
              · have h := (kb_brf hc).symm.trans h
                refine lv_aload_n S.1 S.2.1 dM_way_85 rfl (lv_at hl 3 rfl) ?_
                refine kb_get S w 0 rfl fM_13 rfl dM_way_86 ?_
                refine W.eq (g2 := F0 m 89 ls [.ref (a 2)]) rfl ?_
                refine lv_iload_n S.1 S.2.1 dM_way_89 rfl (lv_at hl 2 rfl) ?_
                obtain ⟨hi23, h⟩ := kb_ck_of h
                refine kb_iald S w 2 0 rfl rfl hi23 dM_way_90 ?_
                refine W.eq (g2 := F0 m 91 ls [.int (z19 2 (kb_ix (z 12 (kb_ix (x2)))))]) rfl ?_
                refine lv_iload S.1 S.2.1 dM_way_91 (lv_at hl 1 rfl) ?_
                refine lv_icmp_eq (tgt := 128) S.1 S.2.1 dM_way_93 (by decide) (fun hc => ?_) (fun hc => ?_)
                · have h := (kb_brt hc).symm.trans h
                  refine lv_iinc (v := x2 + 1) (k := 5) S.1 S.2.1 dM_way_128 hl rfl rfl (by decide) rfl (fun ls hl => ?_)
                  have hl : lv_has ls 6 [(2, .int (x2 + 1)), (5, .int 1), (4, .int (z 13 (kb_ix (x2)))), (3, .int (z 12 (kb_ix (x2)))), (0, .ref (a 0)), (1, .int x1)] := hl
                  refine lv_goto (tgt := 2) S.1 S.2.1 dM_way_131 (by decide) ?_
                  exact ih x1 (x2 + 1) z19 _ _ _ (lv_sub hl [4, 5, 0] rfl) w h
                · have h := (kb_brf hc).symm.trans h
                  refine lv_aload_n S.1 S.2.1 dM_way_96 rfl (lv_at hl 3 rfl) ?_
                  refine lv_iconst (v := 0) S.1 S.2.1 dM_way_97 (by decide) ?_
                  refine lv_iload_n S.1 S.2.1 dM_way_98 rfl (lv_at hl 2 rfl) ?_
                  obtain ⟨r25, z24, hc26, h⟩ := kb_cl_of h
                  refine kb_calli (As := [.int 0, .int (z 12 (kb_ix (x2)))]) (rest := []) (q0 := 0) (ci := 3) S w (fun sz => cM_brokenClose l D cI cZ a _ _ _ sz 0 (z 12 (kb_ix (x2))) hc26) Y_M_brokenClose I_M_brokenClose S_M_brokenClose lM_92 ⟨rfl, rfl, Nat.le_of_ble_eq_true rfl, Nat.le_of_ble_eq_true rfl⟩ rfl rfl rfl rfl hl.1 rfl (Nat.le_of_ble_eq_true rfl) dM_way_99 ⟨Nat.le_of_ble_eq_true rfl, Nat.le_of_ble_eq_true rfl⟩ (fun H locs w => ?_)
                  refine lv_if_ne (tgt := 128) S.1 S.2.1 dM_way_102 (by decide) (fun hc => ?_) (fun hc => ?_)
                  · have h := (kb_brf hc).symm.trans h
                    refine lv_iinc (v := x2 + 1) (k := 5) S.1 S.2.1 dM_way_128 hl rfl rfl (by decide) rfl (fun ls hl => ?_)
                    have hl : lv_has ls 6 [(2, .int (x2 + 1)), (5, .int 1), (4, .int (z 13 (kb_ix (x2)))), (3, .int (z 12 (kb_ix (x2)))), (0, .ref (a 0)), (1, .int x1)] := hl
                    refine lv_goto (tgt := 2) S.1 S.2.1 dM_way_131 (by decide) ?_
                    exact ih x1 (x2 + 1) z24 _ _ _ (lv_sub hl [4, 5, 0] rfl) w h
                  · have h := (kb_brt hc).symm.trans h
                    refine lv_aload_n S.1 S.2.1 dM_way_105 rfl (lv_at hl 3 rfl) ?_
                    refine lv_iload_n S.1 S.2.1 dM_way_106 rfl (lv_at hl 4 rfl) ?_
                    refine lv_iload_n S.1 S.2.1 dM_way_107 rfl (lv_at hl 2 rfl) ?_
                    refine lv_aload_n S.1 S.2.1 dM_way_108 rfl (lv_at hl 3 rfl) ?_
                    refine kb_get S w 0 rfl fM_13 rfl dM_way_109 ?_
                    refine W.eq (g2 := F0 m 112 ls [.ref (a 2), .int (z 12 (kb_ix (x2))), .int x1, .ref (a 0)]) rfl ?_
                    refine lv_iload_n S.1 S.2.1 dM_way_112 rfl (lv_at hl 2 rfl) ?_
                    obtain ⟨hi27, h⟩ := kb_ck_of h
                    refine kb_iald S w 2 0 rfl rfl hi27 dM_way_113 ?_
                    refine W.eq (g2 := F0 m 114 ls [.int (z24 2 (kb_ix (z 12 (kb_ix (x2))))), .int (z 12 (kb_ix (x2))), .int x1, .ref (a 0)]) rfl ?_
                    obtain ⟨r29, z28, hc30, h⟩ := kb_cl_of h
                    refine kb_calli (As := [.int x1, .int (z 12 (kb_ix (x2))), .int (z24 2 (kb_ix (z 12 (kb_ix (x2)))))]) (rest := []) (q0 := 0) (ci := 3) S w (fun sz => cM_asks l D cI cZ a _ _ _ sz x1 (z 12 (kb_ix (x2))) (z24 2 (kb_ix (z 12 (kb_ix (x2))))) hc30) Y_M_asks I_M_asks S_M_asks lM_140 ⟨rfl, rfl, Nat.le_of_ble_eq_true rfl, Nat.le_of_ble_eq_true rfl⟩ rfl rfl rfl rfl hl.1 rfl (Nat.le_of_ble_eq_true rfl) dM_way_114 ⟨Nat.le_of_ble_eq_true rfl, Nat.le_of_ble_eq_true rfl⟩ (fun H locs w => ?_)
                    refine lv_if_ne (tgt := 128) S.1 S.2.1 dM_way_117 (by decide) (fun hc => ?_) (fun hc => ?_)
                    · have h := (kb_brf hc).symm.trans h
                      refine lv_iinc (v := x2 + 1) (k := 5) S.1 S.2.1 dM_way_128 hl rfl rfl (by decide) rfl (fun ls hl => ?_)
                      have hl : lv_has ls 6 [(2, .int (x2 + 1)), (5, .int 1), (4, .int (z 13 (kb_ix (x2)))), (3, .int (z 12 (kb_ix (x2)))), (0, .ref (a 0)), (1, .int x1)] := hl
                      refine lv_goto (tgt := 2) S.1 S.2.1 dM_way_131 (by decide) ?_
                      exact ih x1 (x2 + 1) z28 _ _ _ (lv_sub hl [4, 5, 0] rfl) w h
                    · have h := (kb_brt hc).symm.trans h
                      refine lv_aload_n S.1 S.2.1 dM_way_120 rfl (lv_at hl 3 rfl) ?_
                      refine lv_iconst (v := 1) S.1 S.2.1 dM_way_121 (by decide) ?_
                      refine lv_iload_n S.1 S.2.1 dM_way_122 rfl (lv_at hl 2 rfl) ?_
                      refine lv_iconst (v := 0) S.1 S.2.1 dM_way_123 (by decide) ?_
                      obtain ⟨r32, z31, hc33, h⟩ := kb_cl_of h
                      refine kb_calli (As := [.int 1, .int (z 12 (kb_ix (x2))), .int 0]) (rest := []) (q0 := 0) (ci := 3) S w (fun sz => cM_told l D cI cZ a _ _ _ sz 1 (z 12 (kb_ix (x2))) 0 hc33) Y_M_told I_M_told S_M_told lM_130 ⟨rfl, rfl, Nat.le_of_ble_eq_true rfl, Nat.le_of_ble_eq_true rfl⟩ rfl rfl rfl rfl hl.1 rfl (Nat.le_of_ble_eq_true rfl) dM_way_124 ⟨Nat.le_of_ble_eq_true rfl, Nat.le_of_ble_eq_true rfl⟩ (fun H locs w => ?_)
                      exact kb_iret (mW cI cZ a) S hr hlk hA w h dM_way_127
            · have h := (kb_brt hc).symm.trans h
              refine lv_aload_n S.1 S.2.1 dM_way_62 rfl (lv_at hl 3 rfl) ?_
              refine lv_iconst (v := 0) S.1 S.2.1 dM_way_63 (by decide) ?_
              refine lv_iload_n S.1 S.2.1 dM_way_64 rfl (lv_at hl 2 rfl) ?_
              refine lv_iload S.1 S.2.1 dM_way_65 (lv_at hl 1 rfl) ?_
              obtain ⟨r35, z34, hc36, h⟩ := kb_cl_of h
              refine kb_calli (As := [.int 0, .int (z 12 (kb_ix (x2))), .int (z 13 (kb_ix (x2)))]) (rest := []) (q0 := 0) (ci := 3) S w (fun sz => cM_told l D cI cZ a _ _ _ sz 0 (z 12 (kb_ix (x2))) (z 13 (kb_ix (x2))) hc36) Y_M_told I_M_told S_M_told lM_130 ⟨rfl, rfl, Nat.le_of_ble_eq_true rfl, Nat.le_of_ble_eq_true rfl⟩ rfl rfl rfl rfl hl.1 rfl (Nat.le_of_ble_eq_true rfl) dM_way_67 ⟨Nat.le_of_ble_eq_true rfl, Nat.le_of_ble_eq_true rfl⟩ (fun H locs w => ?_)
              exact kb_iret (mW cI cZ a) S hr hlk hA w h dM_way_70
  refine lv_iconst (v := 0) S.1 S.2.1 dM_way_0 (by decide) ?_
  refine lv_istore_n S.1 S.2.1 dM_way_1 rfl hl (by decide) rfl (fun ls hl => ?_)
  have hl : lv_has ls 6 [(2, .int 0), (0, .ref (a 0)), (1, .int x1)] := hl
  exact L2 3000 x1 0 z0 _ _ _ (lv_sub hl [1, 2, 0] rfl) w h
set_option maxHeartbeats 4000000 in
set_option maxRecDepth 100000 in
theorem cM_cycle (l : Launch) (D : va_G) (cI cZ : ClassId) (a : Nat → Nat) (z0 z' : kb_S) (r : Int32) (sz : Nat) (h : pM_cycle  z0 = some (r, z')) : Met l y_M_cycle (Cond.code y_M_cycle c_M_cycle 4 (some .int) :: wsB) rm_M_cycle (kb_Pc D vwCl [(cI, .int), (cZ, .boolean)] sz [.ref (a 0)] (mW cI cZ a z0)) (kb_Qi D vwCl sz (mW cI cZ a z0) r (mW cI cZ a z')) 0 0 (va_A (mW cI cZ a z0) sz) := by
  refine kb_start (by decide) rfl (Nat.le_of_ble_eq_true rfl) ?_
  intro p e s m args below meth c A ls S hr hlk hsz hA w hl
  have hl : lv_has ls 4 [(0, .ref (a 0))] := hl
  unfold pM_cycle at h
  have J104 : ∀ (x2 : Int32) (z : kb_S) (H : Heap) (locs : List Loc) (ls : Array Slot), lv_has ls 4 [(0, .ref (a 0)), (2, .int x2)] → kb_W D vwCl [(cI, .int), (cZ, .boolean)] A s H locs (mW cI cZ a z) → pM_cycle_J104 x2 z = some (r, z') → W p l e rm_M_cycle s m args below meth c H locs 0 0 (MQ below (kb_Qi D vwCl sz (mW cI cZ a z0) r (mW cI cZ a z')) args s 0 0 (va_A (mW cI cZ a z0) sz)) (F0 m 104 ls []) := by
    intro x2 z H locs ls hl w h
    unfold pM_cycle_J104 at h
    refine lv_aload_n S.1 S.2.1 dM_cycle_104 rfl (lv_at hl 0 rfl) ?_
    refine kb_get S w 0 rfl fM_34 rfl dM_cycle_105 ?_
    refine W.eq (g2 := F0 m 108 ls [.ref (a 9)]) rfl ?_
    refine lv_iconst (v := 0) S.1 S.2.1 dM_cycle_108 (by decide) ?_
    refine lv_dup2_11 S.1 S.2.1 dM_cycle_109 rfl rfl ?_
    obtain ⟨hi8, h⟩ := kb_ck_of h
    refine kb_iald S w 9 0 rfl rfl hi8 dM_cycle_110 ?_
    refine W.eq (g2 := F0 m 111 ls [.int (z 9 (kb_ix (0))), .int 0, .ref (a 9)]) rfl ?_
    refine lv_iconst (v := 1) S.1 S.2.1 dM_cycle_111 (by decide) ?_
    refine lv_iadd S.1 S.2.1 dM_cycle_112 ?_
    obtain ⟨hi9, h⟩ := kb_ck_of h
    obtain ⟨z10, hz11, h⟩ := kb_st_of h
    refine kb_iast S w 9 0 rfl rfl hi9 (ws1 := mW cI cZ a z10) (by rw [hz11]; rfl) dM_cycle_113 (fun H locs w => ?_)
    refine lv_iload_n S.1 S.2.1 dM_cycle_114 rfl (lv_at hl 1 rfl) ?_
    exact kb_iret (mW cI cZ a) S hr hlk hA w h dM_cycle_115
  have J103 : ∀ (s0 : Int32) (z : kb_S) (H : Heap) (locs : List Loc) (ls : Array Slot), lv_has ls 4 [(0, .ref (a 0))] → kb_W D vwCl [(cI, .int), (cZ, .boolean)] A s H locs (mW cI cZ a z) → pM_cycle_J103 s0 z = some (r, z') → W p l e rm_M_cycle s m args below meth c H locs 0 0 (MQ below (kb_Qi D vwCl sz (mW cI cZ a z0) r (mW cI cZ a z')) args s 0 0 (va_A (mW cI cZ a z0) sz)) (F0 m 103 ls [.int s0]) := by
    intro s0 z H locs ls hl w h
    unfold pM_cycle_J103 at h
    refine lv_istore_n S.1 S.2.1 dM_cycle_103 rfl hl (by decide) rfl (fun ls hl => ?_)
    have hl : lv_has ls 4 [(2, .int s0), (0, .ref (a 0))] := hl
    exact J104 s0 z _ _ _ (lv_sub hl [1, 0] rfl) w h
  have J83 : ∀ (s0 : Int32) (z : kb_S) (H : Heap) (locs : List Loc) (ls : Array Slot), lv_has ls 4 [(0, .ref (a 0))] → kb_W D vwCl [(cI, .int), (cZ, .boolean)] A s H locs (mW cI cZ a z) → pM_cycle_J83 s0 z = some (r, z') → W p l e rm_M_cycle s m args below meth c H locs 0 0 (MQ below (kb_Qi D vwCl sz (mW cI cZ a z0) r (mW cI cZ a z')) args s 0 0 (va_A (mW cI cZ a z0) sz)) (F0 m 83 ls [.int s0]) := by
    intro s0 z H locs ls hl w h
    unfold pM_cycle_J83 at h
    refine lv_istore_n S.1 S.2.1 dM_cycle_83 rfl hl (by decide) rfl (fun ls hl => ?_)
    have hl : lv_has ls 4 [(3, .int s0), (0, .ref (a 0))] := hl
    refine lv_aload_n S.1 S.2.1 dM_cycle_84 rfl (lv_at hl 1 rfl) ?_
    refine lv_iload_n S.1 S.2.1 dM_cycle_85 rfl (lv_at hl 0 rfl) ?_
    obtain ⟨r6, z5, hc7, h⟩ := kb_cl_of h
    refine kb_calli (As := [.int s0]) (rest := []) (q0 := 0) (ci := 3) S w (fun sz => cM_hit l D cI cZ a _ _ _ sz s0 hc7) Y_M_hit I_M_hit S_M_hit lM_147 ⟨rfl, rfl, Nat.le_of_ble_eq_true rfl, Nat.le_of_ble_eq_true rfl⟩ rfl rfl rfl rfl hl.1 rfl (Nat.le_of_ble_eq_true rfl) dM_cycle_86 ⟨Nat.le_of_ble_eq_true rfl, Nat.le_of_ble_eq_true rfl⟩ (fun H locs w => ?_)
    refine lv_istore_n S.1 S.2.1 dM_cycle_89 rfl hl (by decide) rfl (fun ls hl => ?_)
    have hl : lv_has ls 4 [(2, .int r6), (3, .int s0), (0, .ref (a 0))] := hl
    refine lv_iload_n S.1 S.2.1 dM_cycle_90 rfl (lv_at hl 0 rfl) ?_
    refine lv_if_ne (tgt := 102) S.1 S.2.1 dM_cycle_91 (by decide) (fun hc => ?_) (fun hc => ?_)
    · have h := (kb_brf hc).symm.trans h
      refine lv_iload_n S.1 S.2.1 dM_cycle_102 rfl (lv_at hl 0 rfl) ?_
      exact J103 r6 z5 _ _ _ (lv_sub hl [2] rfl) w h
    · have h := (kb_brt hc).symm.trans h
      refine lv_aload_n S.1 S.2.1 dM_cycle_94 rfl (lv_at hl 2 rfl) ?_
      refine lv_iload_n S.1 S.2.1 dM_cycle_95 rfl (lv_at hl 1 rfl) ?_
      obtain ⟨r13, z12, hc14, h⟩ := kb_cl_of h
      refine kb_calli (As := [.int s0]) (rest := []) (q0 := 0) (ci := 3) S w (fun sz => cM_way l D cI cZ a _ _ _ sz s0 hc14) Y_M_way I_M_way S_M_way lM_150 ⟨rfl, rfl, Nat.le_of_ble_eq_true rfl, Nat.le_of_ble_eq_true rfl⟩ rfl rfl rfl rfl hl.1 rfl (Nat.le_of_ble_eq_true rfl) dM_cycle_96 ⟨Nat.le_of_ble_eq_true rfl, Nat.le_of_ble_eq_true rfl⟩ (fun H locs w => ?_)
      refine lv_goto (tgt := 103) S.1 S.2.1 dM_cycle_99 (by decide) ?_
      exact J103 r13 z12 _ _ _ (lv_sub hl [2] rfl) w h
  have J79 : ∀ (z : kb_S) (H : Heap) (locs : List Loc) (ls : Array Slot), lv_has ls 4 [(0, .ref (a 0))] → kb_W D vwCl [(cI, .int), (cZ, .boolean)] A s H locs (mW cI cZ a z) → pM_cycle_J79  z = some (r, z') → W p l e rm_M_cycle s m args below meth c H locs 0 0 (MQ below (kb_Qi D vwCl sz (mW cI cZ a z0) r (mW cI cZ a z')) args s 0 0 (va_A (mW cI cZ a z0) sz)) (F0 m 79 ls []) := by
    intro  z H locs ls hl w h
    unfold pM_cycle_J79 at h
    refine lv_aload_n S.1 S.2.1 dM_cycle_79 rfl (lv_at hl 0 rfl) ?_
    refine kb_get S w 0 rfl fM_113 rfl dM_cycle_80 ?_
    refine W.eq (g2 := F0 m 83 ls [.int (z 0 4)]) rfl ?_
    exact J83 (z 0 4) z _ _ _ (lv_sub hl [0] rfl) w h
  have J19 : ∀ (s0 : Int32) (z : kb_S) (H : Heap) (locs : List Loc) (ls : Array Slot), lv_has ls 4 [(0, .ref (a 0))] → kb_W D vwCl [(cI, .int), (cZ, .boolean)] A s H locs (mW cI cZ a z) → pM_cycle_J19 s0 z = some (r, z') → W p l e rm_M_cycle s m args below meth c H locs 0 0 (MQ below (kb_Qi D vwCl sz (mW cI cZ a z0) r (mW cI cZ a z')) args s 0 0 (va_A (mW cI cZ a z0) sz)) (F0 m 19 ls [.int s0]) := by
    intro s0 z H locs ls hl w h
    unfold pM_cycle_J19 at h
    refine lv_istore_n S.1 S.2.1 dM_cycle_19 rfl hl (by decide) rfl (fun ls hl => ?_)
    have hl : lv_has ls 4 [(1, .int s0), (0, .ref (a 0))] := hl
    refine lv_iconst (v := 0) S.1 S.2.1 dM_cycle_20 (by decide) ?_
    refine lv_istore_n S.1 S.2.1 dM_cycle_21 rfl hl (by decide) rfl (fun ls hl => ?_)
    have hl : lv_has ls 4 [(2, .int 0), (1, .int s0), (0, .ref (a 0))] := hl
    refine lv_aload_n S.1 S.2.1 dM_cycle_22 rfl (lv_at hl 2 rfl) ?_
    refine kb_get S w 0 rfl fM_34 rfl dM_cycle_23 ?_
    refine W.eq (g2 := F0 m 26 ls [.ref (a 9)]) rfl ?_
    refine lv_iconst (v := 0) S.1 S.2.1 dM_cycle_26 (by decide) ?_
    obtain ⟨hi3, h⟩ := kb_ck_of h
    refine kb_iald S w 9 0 rfl rfl hi3 dM_cycle_27 ?_
    refine W.eq (g2 := F0 m 28 ls [.int (z 9 (kb_ix (0)))]) rfl ?_
    refine lv_iload_n S.1 S.2.1 dM_cycle_28 rfl (lv_at hl 1 rfl) ?_
    refine lv_isub S.1 S.2.1 dM_cycle_29 ?_
    refine lv_aload_n S.1 S.2.1 dM_cycle_30 rfl (lv_at hl 2 rfl) ?_
    refine kb_get S w 0 rfl fM_7 rfl dM_cycle_31 ?_
    refine W.eq (g2 := F0 m 34 ls [.ref (a 1), .int ((z 9 (kb_ix (0))) - s0)]) rfl ?_
    refine lv_bipush (v := 10) S.1 S.2.1 dM_cycle_34 (by decide) ?_
    obtain ⟨hi4, h⟩ := kb_ck_of h
    refine kb_iald S w 1 0 rfl rfl hi4 dM_cycle_36 ?_
    refine W.eq (g2 := F0 m 37 ls [.int (z 1 (kb_ix (10))), .int ((z 9 (kb_ix (0))) - s0)]) rfl ?_
    refine lv_icmp_lt (tgt := 48) S.1 S.2.1 dM_cycle_37 (by decide) (fun hc => ?_) (fun hc => ?_)
    · have h := (kb_brt hc).symm.trans h
      refine lv_aload_n S.1 S.2.1 dM_cycle_48 rfl (lv_at hl 2 rfl) ?_
      refine kb_get S w 0 rfl fM_113 rfl dM_cycle_49 ?_
      refine W.eq (g2 := F0 m 52 ls [.int (z 0 4)]) rfl ?_
      refine lv_if_le (tgt := 79) S.1 S.2.1 dM_cycle_52 (by decide) (fun hc => ?_) (fun hc => ?_)
      · have h := (kb_brt hc).symm.trans h
        exact J79  z _ _ _ (lv_sub hl [2] rfl) w h
      · have h := (kb_brf hc).symm.trans h
        refine lv_aload_n S.1 S.2.1 dM_cycle_55 rfl (lv_at hl 2 rfl) ?_
        refine kb_get S w 0 rfl fM_34 rfl dM_cycle_56 ?_
        refine W.eq (g2 := F0 m 59 ls [.ref (a 9)]) rfl ?_
        refine lv_iconst (v := 0) S.1 S.2.1 dM_cycle_59 (by decide) ?_
        obtain ⟨hi15, h⟩ := kb_ck_of h
        refine kb_iald S w 9 0 rfl rfl hi15 dM_cycle_60 ?_
        refine W.eq (g2 := F0 m 61 ls [.int (z 9 (kb_ix (0)))]) rfl ?_
        refine lv_aload_n S.1 S.2.1 dM_cycle_61 rfl (lv_at hl 2 rfl) ?_
        refine kb_get S w 0 rfl fM_59 rfl dM_cycle_62 ?_
        refine W.eq (g2 := F0 m 65 ls [.ref (a 17), .int (z 9 (kb_ix (0)))]) rfl ?_
        refine lv_iconst (v := 0) S.1 S.2.1 dM_cycle_65 (by decide) ?_
        obtain ⟨hi16, h⟩ := kb_ck_of h
        refine kb_iald S w 17 0 rfl rfl hi16 dM_cycle_66 ?_
        refine W.eq (g2 := F0 m 67 ls [.int (z 17 (kb_ix (0))), .int (z 9 (kb_ix (0)))]) rfl ?_
        refine lv_isub S.1 S.2.1 dM_cycle_67 ?_
        refine lv_aload_n S.1 S.2.1 dM_cycle_68 rfl (lv_at hl 2 rfl) ?_
        refine kb_get S w 0 rfl fM_78 rfl dM_cycle_69 ?_
        refine W.eq (g2 := F0 m 72 ls [.int (z 0 3), .int ((z 9 (kb_ix (0))) - (z 17 (kb_ix (0))))]) rfl ?_
        refine lv_icmp_lt (tgt := 79) S.1 S.2.1 dM_cycle_72 (by decide) (fun hc => ?_) (fun hc => ?_)
        · have h := (kb_brt hc).symm.trans h
          exact J79  z _ _ _ (lv_sub hl [2] rfl) w h
        · have h := (kb_brf hc).symm.trans h
          refine lv_iconst (v := 1) S.1 S.2.1 dM_cycle_75 (by decide) ?_
          refine lv_goto (tgt := 83) S.1 S.2.1 dM_cycle_76 (by decide) ?_
          exact J83 1 z _ _ _ (lv_sub hl [2] rfl) w h
    · have h := (kb_brf hc).symm.trans h
      refine lv_aload_n S.1 S.2.1 dM_cycle_40 rfl (lv_at hl 2 rfl) ?_
      obtain ⟨r18, z17, hc19, h⟩ := kb_cl_of h
      refine kb_calli (As := []) (rest := []) (q0 := 0) (ci := 3) S w (fun sz => cM_refreshing l D cI cZ a _ _ _ sz  hc19) Y_M_refreshing I_M_refreshing S_M_refreshing lM_143 ⟨rfl, rfl, Nat.le_of_ble_eq_true rfl, Nat.le_of_ble_eq_true rfl⟩ rfl rfl rfl rfl hl.1 rfl (Nat.le_of_ble_eq_true rfl) dM_cycle_41 ⟨Nat.le_of_ble_eq_true rfl, Nat.le_of_ble_eq_true rfl⟩ (fun H locs w => ?_)
      refine lv_istore_n S.1 S.2.1 dM_cycle_44 rfl hl (by decide) rfl (fun ls hl => ?_)
      have hl : lv_has ls 4 [(2, .int r18), (1, .int s0), (0, .ref (a 0))] := hl
      refine lv_goto (tgt := 104) S.1 S.2.1 dM_cycle_45 (by decide) ?_
      exact J104 r18 z17 _ _ _ (lv_sub hl [2, 0] rfl) w h
  refine lv_aload_n S.1 S.2.1 dM_cycle_0 rfl (lv_at hl 0 rfl) ?_
  refine kb_get S w 0 rfl fM_31 rfl dM_cycle_1 ?_
  refine W.eq (g2 := F0 m 4 ls [.ref (a 8)]) rfl ?_
  refine lv_iconst (v := 0) S.1 S.2.1 dM_cycle_4 (by decide) ?_
  obtain ⟨hi1, h⟩ := kb_ck_of h
  refine kb_iald S w 8 0 rfl rfl hi1 dM_cycle_5 ?_
  refine W.eq (g2 := F0 m 6 ls [.int (z0 8 (kb_ix (0)))]) rfl ?_
  refine lv_if_ge (tgt := 13) S.1 S.2.1 dM_cycle_6 (by decide) (fun hc => ?_) (fun hc => ?_)
  · have h := (kb_brt hc).symm.trans h
    refine lv_aload_n S.1 S.2.1 dM_cycle_13 rfl (lv_at hl 0 rfl) ?_
    refine kb_get S w 0 rfl fM_31 rfl dM_cycle_14 ?_
    refine W.eq (g2 := F0 m 17 ls [.ref (a 8)]) rfl ?_
    refine lv_iconst (v := 0) S.1 S.2.1 dM_cycle_17 (by decide) ?_
    obtain ⟨hi2, h⟩ := kb_ck_of h
    refine kb_iald S w 8 0 rfl rfl hi2 dM_cycle_18 ?_
    refine W.eq (g2 := F0 m 19 ls [.int (z0 8 (kb_ix (0)))]) rfl ?_
    exact J19 (z0 8 (kb_ix (0))) z0 _ _ _ (lv_sub hl [0] rfl) w h
  · have h := (kb_brf hc).symm.trans h
    refine lv_iconst (v := 0) S.1 S.2.1 dM_cycle_9 (by decide) ?_
    refine lv_goto (tgt := 19) S.1 S.2.1 dM_cycle_10 (by decide) ?_
    exact J19 0 z0 _ _ _ (lv_sub hl [0] rfl) w h
end
section
set_option maxHeartbeats 4000000 in
set_option maxRecDepth 100000 in
theorem cM_tick (l : Launch) (D : va_G) (cI cZ : ClassId) (a : Nat → Nat) (z0 z' : kb_S) (r : Int32) (sz : Nat) (h : pM_tick  z0 = some (r, z')) : Met l y_M_tick (Cond.code y_M_tick c_M_tick 1 (some .int) :: wsB) rm_M_tick (kb_Pc D vwCl [(cI, .int), (cZ, .boolean)] sz [.ref (a 0)] (mW cI cZ a z0)) (kb_Qi D vwCl sz (mW cI cZ a z0) r (mW cI cZ a z')) 0 0 (va_A (mW cI cZ a z0) sz) := by
  refine kb_start (by decide) rfl (Nat.le_of_ble_eq_true rfl) ?_
  intro p e s m args below meth c A ls S hr hlk hsz hA w hl
  have hl : lv_has ls 1 [(0, .ref (a 0))] := hl
  unfold pM_tick at h
  refine lv_aload_n S.1 S.2.1 dM_tick_0 rfl (lv_at hl 0 rfl) ?_
  refine lv_iconst (v := 0) S.1 S.2.1 dM_tick_1 (by decide) ?_
  obtain ⟨z1, hz2, h⟩ := kb_st_of h
  refine kb_puti S w 0 rfl gM_81 (Nat.le_of_ble_eq_true rfl) (ws1 := mW cI cZ a z1) (by rw [hz2]; rfl) dM_tick_2 (fun H locs w => ?_)
  refine lv_aload_n S.1 S.2.1 dM_tick_5 rfl (lv_at hl 0 rfl) ?_
  obtain ⟨r4, z3, hc5, h⟩ := kb_cl_of h
  refine kb_calli (As := []) (rest := []) (q0 := 0) (ci := 3) S w (fun sz => cM_cycle l D cI cZ a _ _ _ sz  hc5) Y_M_cycle I_M_cycle S_M_cycle lM_153 ⟨rfl, rfl, Nat.le_of_ble_eq_true rfl, Nat.le_of_ble_eq_true rfl⟩ rfl rfl rfl rfl hl.1 rfl (Nat.le_of_ble_eq_true rfl) dM_tick_6 ⟨Nat.le_of_ble_eq_true rfl, Nat.le_of_ble_eq_true rfl⟩ (fun H locs w => ?_)
  exact kb_iret (mW cI cZ a) S hr hlk hA w h dM_tick_9
set_option maxHeartbeats 4000000 in
set_option maxRecDepth 100000 in
theorem cM_run (l : Launch) (D : va_G) (cI cZ : ClassId) (a : Nat → Nat) (z0 z' : kb_S) (r : Int32) (sz : Nat) (x1 : Int32) (h : pM_run x1 z0 = some (r, z')) : Met l y_M_run (Cond.code y_M_run c_M_run 5 (some .int) :: wsB) rm_M_run (kb_Pc D vwCl [(cI, .int), (cZ, .boolean)] sz [.ref (a 0), .int x1] (mW cI cZ a z0)) (kb_Qi D vwCl sz (mW cI cZ a z0) r (mW cI cZ a z')) 0 0 (va_A (mW cI cZ a z0) sz) := by
  refine kb_start (by decide) rfl (Nat.le_of_ble_eq_true rfl) ?_
  intro p e s m args below meth c A ls S hr hlk hsz hA w hl
  have hl : lv_has ls 5 [(0, .ref (a 0)), (1, .int x1)] := hl
  unfold pM_run at h
  have L24 : ∀ (n : Nat) (x1 : Int32) (x2 : Int32) (x3 : Int32) (z : kb_S) (H : Heap) (locs : List Loc) (ls : Array Slot), lv_has ls 5 [(0, .ref (a 0)), (1, .int x1), (2, .int x2), (3, .int x3)] → kb_W D vwCl [(cI, .int), (cZ, .boolean)] A s H locs (mW cI cZ a z) → pM_run_L24 n x1 x2 x3 z = some (r, z') → W p l e rm_M_run s m args below meth c H locs 0 0 (MQ below (kb_Qi D vwCl sz (mW cI cZ a z0) r (mW cI cZ a z')) args s 0 0 (va_A (mW cI cZ a z0) sz)) (F0 m 24 ls []) := by
    intro n
    induction n with
    | zero =>
      intro x1 x2 x3 z H locs ls hl w h
      exact absurd h (by simp [pM_run_L24])
    | succ n ih =>
      intro x1 x2 x3 z H locs ls hl w h
      rw [pM_run_L24] at h
      refine lv_iload_n S.1 S.2.1 dM_run_24 rfl (lv_at hl 3 rfl) ?_
      refine lv_iload_n S.1 S.2.1 dM_run_25 rfl (lv_at hl 1 rfl) ?_
      refine lv_icmp_ge (tgt := 61) S.1 S.2.1 dM_run_26 (by decide) (fun hc => ?_) (fun hc => ?_)
      · have h := (kb_brt hc).symm.trans h
        refine lv_iload_n S.1 S.2.1 dM_run_61 rfl (lv_at hl 2 rfl) ?_
        exact kb_iret (mW cI cZ a) S hr hlk hA w h dM_run_62
      · have h := (kb_brf hc).symm.trans h
        refine lv_aload_n S.1 S.2.1 dM_run_29 rfl (lv_at hl 0 rfl) ?_
        refine kb_get S w 0 rfl fM_81 rfl dM_run_30 ?_
        refine W.eq (g2 := F0 m 33 ls [.int (z 0 0)]) rfl ?_
        refine lv_if_ne (tgt := 61) S.1 S.2.1 dM_run_33 (by decide) (fun hc => ?_) (fun hc => ?_)
        · have h := (kb_brf hc).symm.trans h
          refine lv_iload_n S.1 S.2.1 dM_run_61 rfl (lv_at hl 2 rfl) ?_
          exact kb_iret (mW cI cZ a) S hr hlk hA w h dM_run_62
        · have h := (kb_brt hc).symm.trans h
          refine lv_aload_n S.1 S.2.1 dM_run_36 rfl (lv_at hl 0 rfl) ?_
          obtain ⟨r4, z3, hc5, h⟩ := kb_cl_of h
          refine kb_calli (As := []) (rest := []) (q0 := 0) (ci := 3) S w (fun sz => cM_cycle l D cI cZ a _ _ _ sz  hc5) Y_M_cycle I_M_cycle S_M_cycle lM_153 ⟨rfl, rfl, Nat.le_of_ble_eq_true rfl, Nat.le_of_ble_eq_true rfl⟩ rfl rfl rfl rfl hl.1 rfl (Nat.le_of_ble_eq_true rfl) dM_run_37 ⟨Nat.le_of_ble_eq_true rfl, Nat.le_of_ble_eq_true rfl⟩ (fun H locs w => ?_)
          refine lv_istore S.1 S.2.1 dM_run_40 hl (by decide) rfl (fun ls hl => ?_)
          have hl : lv_has ls 5 [(4, .int r4), (0, .ref (a 0)), (1, .int x1), (2, .int x2), (3, .int x3)] := hl
          refine lv_iload S.1 S.2.1 dM_run_42 (lv_at hl 0 rfl) ?_
          refine lv_if_le (tgt := 53) S.1 S.2.1 dM_run_44 (by decide) (fun hc => ?_) (fun hc => ?_)
          · have h := (kb_brt hc).symm.trans h
            refine lv_iload_n S.1 S.2.1 dM_run_53 rfl (lv_at hl 3 rfl) ?_
            refine lv_istore_n S.1 S.2.1 dM_run_54 rfl hl (by decide) rfl (fun ls hl => ?_)
            have hl : lv_has ls 5 [(2, .int x2), (4, .int r4), (0, .ref (a 0)), (1, .int x1), (3, .int x3)] := hl
            refine lv_iinc (v := x3 + 1) (k := 4) S.1 S.2.1 dM_run_55 hl rfl rfl (by decide) rfl (fun ls hl => ?_)
            have hl : lv_has ls 5 [(3, .int (x3 + 1)), (2, .int x2), (4, .int r4), (0, .ref (a 0)), (1, .int x1)] := hl
            refine lv_goto (tgt := 24) S.1 S.2.1 dM_run_58 (by decide) ?_
            exact ih x1 x2 (x3 + 1) z3 _ _ _ (lv_sub hl [3, 4, 1, 0] rfl) w h
          · have h := (kb_brf hc).symm.trans h
            refine lv_iload_n S.1 S.2.1 dM_run_47 rfl (lv_at hl 3 rfl) ?_
            refine lv_iconst (v := 1) S.1 S.2.1 dM_run_48 (by decide) ?_
            refine lv_iadd S.1 S.2.1 dM_run_49 ?_
            refine lv_goto (tgt := 54) S.1 S.2.1 dM_run_50 (by decide) ?_
            refine lv_istore_n S.1 S.2.1 dM_run_54 rfl hl (by decide) rfl (fun ls hl => ?_)
            have hl : lv_has ls 5 [(2, .int (x2 + 1)), (4, .int r4), (0, .ref (a 0)), (1, .int x1), (3, .int x3)] := hl
            refine lv_iinc (v := x3 + 1) (k := 4) S.1 S.2.1 dM_run_55 hl rfl rfl (by decide) rfl (fun ls hl => ?_)
            have hl : lv_has ls 5 [(3, .int (x3 + 1)), (2, .int (x2 + 1)), (4, .int r4), (0, .ref (a 0)), (1, .int x1)] := hl
            refine lv_goto (tgt := 24) S.1 S.2.1 dM_run_58 (by decide) ?_
            exact ih x1 (x2 + 1) (x3 + 1) z3 _ _ _ (lv_sub hl [3, 4, 1, 0] rfl) w h
  refine lv_aload_n S.1 S.2.1 dM_run_0 rfl (lv_at hl 0 rfl) ?_
  refine lv_iload_n S.1 S.2.1 dM_run_1 rfl (lv_at hl 1 rfl) ?_
  refine lv_if_lt (tgt := 12) S.1 S.2.1 dM_run_2 (by decide) (fun hc => ?_) (fun hc => ?_)
  · have h := (kb_brt hc).symm.trans h
    refine lv_iconst (v := 1) S.1 S.2.1 dM_run_12 (by decide) ?_
    refine lv_goto (tgt := 17) S.1 S.2.1 dM_run_13 (by decide) ?_
    obtain ⟨z1, hz2, h⟩ := kb_st_of h
    refine kb_puti S w 0 rfl gM_81 (Nat.le_of_ble_eq_true rfl) (ws1 := mW cI cZ a z1) (by rw [hz2]; rfl) dM_run_17 (fun H locs w => ?_)
    refine lv_iconst (v := 0) S.1 S.2.1 dM_run_20 (by decide) ?_
    refine lv_istore_n S.1 S.2.1 dM_run_21 rfl hl (by decide) rfl (fun ls hl => ?_)
    have hl : lv_has ls 5 [(2, .int 0), (0, .ref (a 0)), (1, .int x1)] := hl
    refine lv_iconst (v := 0) S.1 S.2.1 dM_run_22 (by decide) ?_
    refine lv_istore_n S.1 S.2.1 dM_run_23 rfl hl (by decide) rfl (fun ls hl => ?_)
    have hl : lv_has ls 5 [(3, .int 0), (2, .int 0), (0, .ref (a 0)), (1, .int x1)] := hl
    exact L24 3000 x1 0 0 z1 _ _ _ (lv_sub hl [2, 3, 1, 0] rfl) w h
  · have h := (kb_brf hc).symm.trans h
    refine lv_iload_n S.1 S.2.1 dM_run_5 rfl (lv_at hl 1 rfl) ?_
    refine lv_sipush (v := 2000) S.1 S.2.1 dM_run_6 (by decide) ?_
    refine lv_icmp_le (tgt := 16) S.1 S.2.1 dM_run_9 (by decide) (fun hc => ?_) (fun hc => ?_)
    · have h := (kb_brt hc).symm.trans h
      refine lv_iconst (v := 0) S.1 S.2.1 dM_run_16 (by decide) ?_
      obtain ⟨z6, hz7, h⟩ := kb_st_of h
      refine kb_puti S w 0 rfl gM_81 (Nat.le_of_ble_eq_true rfl) (ws1 := mW cI cZ a z6) (by rw [hz7]; rfl) dM_run_17 (fun H locs w => ?_)
      refine lv_iconst (v := 0) S.1 S.2.1 dM_run_20 (by decide) ?_
      refine lv_istore_n S.1 S.2.1 dM_run_21 rfl hl (by decide) rfl (fun ls hl => ?_)
      have hl : lv_has ls 5 [(2, .int 0), (0, .ref (a 0)), (1, .int x1)] := hl
      refine lv_iconst (v := 0) S.1 S.2.1 dM_run_22 (by decide) ?_
      refine lv_istore_n S.1 S.2.1 dM_run_23 rfl hl (by decide) rfl (fun ls hl => ?_)
      have hl : lv_has ls 5 [(3, .int 0), (2, .int 0), (0, .ref (a 0)), (1, .int x1)] := hl
      exact L24 3000 x1 0 0 z6 _ _ _ (lv_sub hl [2, 3, 1, 0] rfl) w h
    · have h := (kb_brf hc).symm.trans h
      refine lv_iconst (v := 1) S.1 S.2.1 dM_run_12 (by decide) ?_
      refine lv_goto (tgt := 17) S.1 S.2.1 dM_run_13 (by decide) ?_
      obtain ⟨z8, hz9, h⟩ := kb_st_of h
      refine kb_puti S w 0 rfl gM_81 (Nat.le_of_ble_eq_true rfl) (ws1 := mW cI cZ a z8) (by rw [hz9]; rfl) dM_run_17 (fun H locs w => ?_)
      refine lv_iconst (v := 0) S.1 S.2.1 dM_run_20 (by decide) ?_
      refine lv_istore_n S.1 S.2.1 dM_run_21 rfl hl (by decide) rfl (fun ls hl => ?_)
      have hl : lv_has ls 5 [(2, .int 0), (0, .ref (a 0)), (1, .int x1)] := hl
      refine lv_iconst (v := 0) S.1 S.2.1 dM_run_22 (by decide) ?_
      refine lv_istore_n S.1 S.2.1 dM_run_23 rfl hl (by decide) rfl (fun ls hl => ?_)
      have hl : lv_has ls 5 [(3, .int 0), (2, .int 0), (0, .ref (a 0)), (1, .int x1)] := hl
      exact L24 3000 x1 0 0 z8 _ _ _ (lv_sub hl [2, 3, 1, 0] rfl) w h
set_option maxHeartbeats 4000000 in
set_option maxRecDepth 100000 in
theorem cM_result (l : Launch) (D : va_G) (cI cZ : ClassId) (a : Nat → Nat) (z0 z' : kb_S) (r : Int32) (sz : Nat) (x1 : Int32) (h : pM_result x1 z0 = some (r, z')) : Met l y_M_result (Cond.code y_M_result c_M_result 3 (some .int) :: wsB) rm_M_result (kb_Pc D vwCl [(cI, .int), (cZ, .boolean)] sz [.ref (a 0), .int x1] (mW cI cZ a z0)) (kb_Qi D vwCl sz (mW cI cZ a z0) r (mW cI cZ a z')) 0 0 (va_A (mW cI cZ a z0) sz) := by
  refine kb_start (by decide) rfl (Nat.le_of_ble_eq_true rfl) ?_
  intro p e s m args below meth c A ls S hr hlk hsz hA w hl
  have hl : lv_has ls 3 [(0, .ref (a 0)), (1, .int x1)] := hl
  unfold pM_result at h
  have J71 : ∀ (x1 : Int32) (s0 : Int32) (z : kb_S) (H : Heap) (locs : List Loc) (ls : Array Slot), lv_has ls 3 [(0, .ref (a 0)), (1, .int x1)] → kb_W D vwCl [(cI, .int), (cZ, .boolean)] A s H locs (mW cI cZ a z) → pM_result_J71 x1 s0 z = some (r, z') → W p l e rm_M_result s m args below meth c H locs 0 0 (MQ below (kb_Qi D vwCl sz (mW cI cZ a z0) r (mW cI cZ a z')) args s 0 0 (va_A (mW cI cZ a z0) sz)) (F0 m 71 ls [.int s0, .ref (a 0)]) := by
    intro x1 s0 z H locs ls hl w h
    unfold pM_result_J71 at h
    obtain ⟨z4, hz5, h⟩ := kb_st_of h
    refine kb_puti S w 0 rfl gM_81 (Nat.le_of_ble_eq_true rfl) (ws1 := mW cI cZ a z4) (by rw [hz5]; rfl) dM_result_71 (fun H locs w => ?_)
    refine lv_aload_n S.1 S.2.1 dM_result_74 rfl (lv_at hl 0 rfl) ?_
    refine kb_get S w 0 rfl fM_81 rfl dM_result_75 ?_
    refine W.eq (g2 := F0 m 78 ls [.int (z4 0 0)]) rfl ?_
    refine lv_if_ne (tgt := 93) S.1 S.2.1 dM_result_78 (by decide) (fun hc => ?_) (fun hc => ?_)
    · have h := (kb_brf hc).symm.trans h
      refine lv_iconst (v := 0) S.1 S.2.1 dM_result_93 (by decide) ?_
      exact kb_iret (mW cI cZ a) S hr hlk hA w h dM_result_94
    · have h := (kb_brt hc).symm.trans h
      refine lv_aload_n S.1 S.2.1 dM_result_81 rfl (lv_at hl 0 rfl) ?_
      refine kb_get S w 0 rfl fM_65 rfl dM_result_82 ?_
      refine W.eq (g2 := F0 m 85 ls [.ref (a 19)]) rfl ?_
      refine lv_iload_n S.1 S.2.1 dM_result_85 rfl (lv_at hl 1 rfl) ?_
      refine lv_bipush (v := 32) S.1 S.2.1 dM_result_86 (by decide) ?_
      refine lv_irem S.1 S.2.1 dM_result_88 (by decide) ?_
      obtain ⟨hi6, h⟩ := kb_ck_of h
      refine kb_iald S w 19 0 rfl rfl hi6 dM_result_89 ?_
      refine W.eq (g2 := F0 m 90 ls [.int (z4 19 (kb_ix (x1 - x1 / 32 * 32)))]) rfl ?_
      refine lv_goto (tgt := 94) S.1 S.2.1 dM_result_90 (by decide) ?_
      exact kb_iret (mW cI cZ a) S hr hlk hA w h dM_result_94
  have J66 : ∀ (x1 : Int32) (z : kb_S) (H : Heap) (locs : List Loc) (ls : Array Slot), lv_has ls 3 [(0, .ref (a 0)), (1, .int x1)] → kb_W D vwCl [(cI, .int), (cZ, .boolean)] A s H locs (mW cI cZ a z) → pM_result_J66 x1 z = some (r, z') → W p l e rm_M_result s m args below meth c H locs 0 0 (MQ below (kb_Qi D vwCl sz (mW cI cZ a z0) r (mW cI cZ a z')) args s 0 0 (va_A (mW cI cZ a z0) sz)) (F0 m 66 ls [.ref (a 0)]) := by
    intro x1 z H locs ls hl w h
    unfold pM_result_J66 at h
    refine lv_iconst (v := 2) S.1 S.2.1 dM_result_66 (by decide) ?_
    refine lv_goto (tgt := 71) S.1 S.2.1 dM_result_67 (by decide) ?_
    exact J71 x1 2 z _ _ _ (lv_sub hl [0, 1] rfl) w h
  have J29 : ∀ (x1 : Int32) (s0 : Int32) (z : kb_S) (H : Heap) (locs : List Loc) (ls : Array Slot), lv_has ls 3 [(0, .ref (a 0)), (1, .int x1)] → kb_W D vwCl [(cI, .int), (cZ, .boolean)] A s H locs (mW cI cZ a z) → pM_result_J29 x1 s0 z = some (r, z') → W p l e rm_M_result s m args below meth c H locs 0 0 (MQ below (kb_Qi D vwCl sz (mW cI cZ a z0) r (mW cI cZ a z')) args s 0 0 (va_A (mW cI cZ a z0) sz)) (F0 m 29 ls [.int s0, .ref (a 0)]) := by
    intro x1 s0 z H locs ls hl w h
    unfold pM_result_J29 at h
    obtain ⟨z1, hz2, h⟩ := kb_st_of h
    refine kb_puti S w 0 rfl gM_81 (Nat.le_of_ble_eq_true rfl) (ws1 := mW cI cZ a z1) (by rw [hz2]; rfl) dM_result_29 (fun H locs w => ?_)
    refine lv_aload_n S.1 S.2.1 dM_result_32 rfl (lv_at hl 0 rfl) ?_
    refine kb_get S w 0 rfl fM_81 rfl dM_result_33 ?_
    refine W.eq (g2 := F0 m 36 ls [.int (z1 0 0)]) rfl ?_
    refine lv_if_eq (tgt := 41) S.1 S.2.1 dM_result_36 (by decide) (fun hc => ?_) (fun hc => ?_)
    · have h := (kb_brt hc).symm.trans h
      refine lv_aload_n S.1 S.2.1 dM_result_41 rfl (lv_at hl 0 rfl) ?_
      refine kb_get S w 0 rfl fM_62 rfl dM_result_42 ?_
      refine W.eq (g2 := F0 m 45 ls [.ref (a 18)]) rfl ?_
      refine lv_iload_n S.1 S.2.1 dM_result_45 rfl (lv_at hl 1 rfl) ?_
      refine lv_bipush (v := 32) S.1 S.2.1 dM_result_46 (by decide) ?_
      refine lv_irem S.1 S.2.1 dM_result_48 (by decide) ?_
      obtain ⟨hi3, h⟩ := kb_ck_of h
      refine kb_iald S w 18 0 rfl rfl hi3 dM_result_49 ?_
      refine W.eq (g2 := F0 m 50 ls [.int (z1 18 (kb_ix (x1 - x1 / 32 * 32)))]) rfl ?_
      refine lv_istore_n S.1 S.2.1 dM_result_50 rfl hl (by decide) rfl (fun ls hl => ?_)
      have hl : lv_has ls 3 [(2, .int (z1 18 (kb_ix (x1 - x1 / 32 * 32)))), (0, .ref (a 0)), (1, .int x1)] := hl
      refine lv_aload_n S.1 S.2.1 dM_result_51 rfl (lv_at hl 1 rfl) ?_
      refine lv_iload_n S.1 S.2.1 dM_result_52 rfl (lv_at hl 0 rfl) ?_
      refine lv_if_lt (tgt := 66) S.1 S.2.1 dM_result_53 (by decide) (fun hc => ?_) (fun hc => ?_)
      · have h := (kb_brt hc).symm.trans h
        exact J66 x1 z1 _ _ _ (lv_sub hl [1, 2] rfl) w h
      · have h := (kb_brf hc).symm.trans h
        refine lv_aload_n S.1 S.2.1 dM_result_56 rfl (lv_at hl 1 rfl) ?_
        refine kb_get S w 0 rfl fM_34 rfl dM_result_57 ?_
        refine W.eq (g2 := F0 m 60 ls [.ref (a 9), .ref (a 0)]) rfl ?_
        refine lv_iconst (v := 0) S.1 S.2.1 dM_result_60 (by decide) ?_
        obtain ⟨hi7, h⟩ := kb_ck_of h
        refine kb_iald S w 9 0 rfl rfl hi7 dM_result_61 ?_
        refine W.eq (g2 := F0 m 62 ls [.int (z1 9 (kb_ix (0))), .ref (a 0)]) rfl ?_
        refine lv_iload_n S.1 S.2.1 dM_result_62 rfl (lv_at hl 0 rfl) ?_
        refine lv_icmp_gt (tgt := 70) S.1 S.2.1 dM_result_63 (by decide) (fun hc => ?_) (fun hc => ?_)
        · have h := (kb_brt hc).symm.trans h
          refine lv_iconst (v := 0) S.1 S.2.1 dM_result_70 (by decide) ?_
          exact J71 x1 0 z1 _ _ _ (lv_sub hl [1, 2] rfl) w h
        · have h := (kb_brf hc).symm.trans h
          exact J66 x1 z1 _ _ _ (lv_sub hl [1, 2] rfl) w h
    · have h := (kb_brf hc).symm.trans h
      refine lv_iconst (v := 0) S.1 S.2.1 dM_result_39 (by decide) ?_
      exact kb_iret (mW cI cZ a) S hr hlk hA w h dM_result_40
  have J24 : ∀ (x1 : Int32) (z : kb_S) (H : Heap) (locs : List Loc) (ls : Array Slot), lv_has ls 3 [(0, .ref (a 0)), (1, .int x1)] → kb_W D vwCl [(cI, .int), (cZ, .boolean)] A s H locs (mW cI cZ a z) → pM_result_J24 x1 z = some (r, z') → W p l e rm_M_result s m args below meth c H locs 0 0 (MQ below (kb_Qi D vwCl sz (mW cI cZ a z0) r (mW cI cZ a z')) args s 0 0 (va_A (mW cI cZ a z0) sz)) (F0 m 24 ls [.ref (a 0)]) := by
    intro x1 z H locs ls hl w h
    unfold pM_result_J24 at h
    refine lv_iconst (v := 1) S.1 S.2.1 dM_result_24 (by decide) ?_
    refine lv_goto (tgt := 29) S.1 S.2.1 dM_result_25 (by decide) ?_
    exact J29 x1 1 z _ _ _ (lv_sub hl [0, 1] rfl) w h
  refine lv_aload_n S.1 S.2.1 dM_result_0 rfl (lv_at hl 0 rfl) ?_
  refine lv_iload_n S.1 S.2.1 dM_result_1 rfl (lv_at hl 1 rfl) ?_
  refine lv_if_lt (tgt := 24) S.1 S.2.1 dM_result_2 (by decide) (fun hc => ?_) (fun hc => ?_)
  · have h := (kb_brt hc).symm.trans h
    exact J24 x1 z0 _ _ _ (lv_sub hl [0, 1] rfl) w h
  · have h := (kb_brf hc).symm.trans h
    refine lv_iload_n S.1 S.2.1 dM_result_5 rfl (lv_at hl 1 rfl) ?_
    refine lv_aload_n S.1 S.2.1 dM_result_6 rfl (lv_at hl 0 rfl) ?_
    refine kb_get S w 0 rfl fM_116 rfl dM_result_7 ?_
    refine W.eq (g2 := F0 m 10 ls [.int (z0 0 5), .int x1, .ref (a 0)]) rfl ?_
    refine lv_icmp_ge (tgt := 24) S.1 S.2.1 dM_result_10 (by decide) (fun hc => ?_) (fun hc => ?_)
    · have h := (kb_brt hc).symm.trans h
      exact J24 x1 z0 _ _ _ (lv_sub hl [0, 1] rfl) w h
    · have h := (kb_brf hc).symm.trans h
      refine lv_aload_n S.1 S.2.1 dM_result_13 rfl (lv_at hl 0 rfl) ?_
      refine kb_get S w 0 rfl fM_116 rfl dM_result_14 ?_
      refine W.eq (g2 := F0 m 17 ls [.int (z0 0 5), .ref (a 0)]) rfl ?_
      refine lv_iload_n S.1 S.2.1 dM_result_17 rfl (lv_at hl 1 rfl) ?_
      refine lv_isub S.1 S.2.1 dM_result_18 ?_
      refine lv_bipush (v := 32) S.1 S.2.1 dM_result_19 (by decide) ?_
      refine lv_icmp_le (tgt := 28) S.1 S.2.1 dM_result_21 (by decide) (fun hc => ?_) (fun hc => ?_)
      · have h := (kb_brt hc).symm.trans h
        refine lv_iconst (v := 0) S.1 S.2.1 dM_result_28 (by decide) ?_
        exact J29 x1 0 z0 _ _ _ (lv_sub hl [0, 1] rfl) w h
      · have h := (kb_brf hc).symm.trans h
        exact J24 x1 z0 _ _ _ (lv_sub hl [0, 1] rfl) w h
set_option maxHeartbeats 4000000 in
set_option maxRecDepth 100000 in
theorem cM_word (l : Launch) (D : va_G) (cI cZ : ClassId) (a : Nat → Nat) (z0 z' : kb_S) (r : Int32) (sz : Nat) (x1 : Int32) (x2 : Int32) (x3 : Int32) (h : pM_word x1 x2 x3 z0 = some (r, z')) : Met l y_M_word (Cond.code y_M_word c_M_word 4 (some .int) :: wsB) rm_M_word (kb_Pc D vwCl [(cI, .int), (cZ, .boolean)] sz [.ref (a 0), .int x1, .int x2, .int x3] (mW cI cZ a z0)) (kb_Qi D vwCl sz (mW cI cZ a z0) r (mW cI cZ a z')) 0 0 (va_A (mW cI cZ a z0) sz) := by
  refine kb_start (by decide) rfl (Nat.le_of_ble_eq_true rfl) ?_
  intro p e s m args below meth c A ls S hr hlk hsz hA w hl
  have hl : lv_has ls 4 [(0, .ref (a 0)), (1, .int x1), (2, .int x2), (3, .int x3)] := hl
  unfold pM_word at h
  have J16 : ∀ (x1 : Int32) (x2 : Int32) (x3 : Int32) (s0 : Int32) (z : kb_S) (H : Heap) (locs : List Loc) (ls : Array Slot), lv_has ls 4 [(0, .ref (a 0)), (1, .int x1), (2, .int x2), (3, .int x3)] → kb_W D vwCl [(cI, .int), (cZ, .boolean)] A s H locs (mW cI cZ a z) → pM_word_J16 x1 x2 x3 s0 z = some (r, z') → W p l e rm_M_word s m args below meth c H locs 0 0 (MQ below (kb_Qi D vwCl sz (mW cI cZ a z0) r (mW cI cZ a z')) args s 0 0 (va_A (mW cI cZ a z0) sz)) (F0 m 16 ls [.int s0, .ref (a 0)]) := by
    intro x1 x2 x3 s0 z H locs ls hl w h
    unfold pM_word_J16 at h
    obtain ⟨z4, hz5, h⟩ := kb_st_of h
    refine kb_puti S w 0 rfl gM_81 (Nat.le_of_ble_eq_true rfl) (ws1 := mW cI cZ a z4) (by rw [hz5]; rfl) dM_word_16 (fun H locs w => ?_)
    refine lv_aload_n S.1 S.2.1 dM_word_19 rfl (lv_at hl 0 rfl) ?_
    refine kb_get S w 0 rfl fM_81 rfl dM_word_20 ?_
    refine W.eq (g2 := F0 m 23 ls [.int (z4 0 0)]) rfl ?_
    refine lv_if_ne (tgt := 46) S.1 S.2.1 dM_word_23 (by decide) (fun hc => ?_) (fun hc => ?_)
    · have h := (kb_brf hc).symm.trans h
      refine lv_iconst (v := 0) S.1 S.2.1 dM_word_46 (by decide) ?_
      exact kb_iret (mW cI cZ a) S hr hlk hA w h dM_word_47
    · have h := (kb_brt hc).symm.trans h
      refine lv_aload_n S.1 S.2.1 dM_word_26 rfl (lv_at hl 0 rfl) ?_
      refine kb_get S w 0 rfl fM_37 rfl dM_word_27 ?_
      refine W.eq (g2 := F0 m 30 ls [.ref (a 10)]) rfl ?_
      refine lv_sipush (v := 128) S.1 S.2.1 dM_word_30 (by decide) ?_
      refine lv_iload_n S.1 S.2.1 dM_word_33 rfl (lv_at hl 1 rfl) ?_
      refine lv_imul S.1 S.2.1 dM_word_34 ?_
      refine lv_bipush (v := 8) S.1 S.2.1 dM_word_35 (by decide) ?_
      refine lv_iload_n S.1 S.2.1 dM_word_37 rfl (lv_at hl 2 rfl) ?_
      refine lv_imul S.1 S.2.1 dM_word_38 ?_
      refine lv_iadd S.1 S.2.1 dM_word_39 ?_
      refine lv_iload_n S.1 S.2.1 dM_word_40 rfl (lv_at hl 3 rfl) ?_
      refine lv_iadd S.1 S.2.1 dM_word_41 ?_
      obtain ⟨hi6, h⟩ := kb_ck_of h
      refine kb_iald S w 10 0 rfl rfl hi6 dM_word_42 ?_
      refine W.eq (g2 := F0 m 43 ls [.int (z4 10 (kb_ix (((128 * x1) + (8 * x2)) + x3)))]) rfl ?_
      refine lv_goto (tgt := 47) S.1 S.2.1 dM_word_43 (by decide) ?_
      exact kb_iret (mW cI cZ a) S hr hlk hA w h dM_word_47
  refine lv_aload_n S.1 S.2.1 dM_word_0 rfl (lv_at hl 0 rfl) ?_
  refine lv_aload_n S.1 S.2.1 dM_word_1 rfl (lv_at hl 0 rfl) ?_
  refine lv_iload_n S.1 S.2.1 dM_word_2 rfl (lv_at hl 1 rfl) ?_
  refine lv_iload_n S.1 S.2.1 dM_word_3 rfl (lv_at hl 2 rfl) ?_
  refine lv_iload_n S.1 S.2.1 dM_word_4 rfl (lv_at hl 3 rfl) ?_
  obtain ⟨r2, z1, hc3, h⟩ := kb_cl_of h
  refine kb_calli (As := [.int x1, .int x2, .int x3]) (rest := [.ref (a 0)]) (q0 := 0) (ci := 3) S w (fun sz => cM_isWord l D cI cZ a _ _ _ sz x1 x2 x3 hc3) Y_M_isWord I_M_isWord S_M_isWord lM_110 ⟨rfl, rfl, Nat.le_of_ble_eq_true rfl, Nat.le_of_ble_eq_true rfl⟩ rfl rfl rfl rfl hl.1 rfl (Nat.le_of_ble_eq_true rfl) dM_word_5 ⟨Nat.le_of_ble_eq_true rfl, Nat.le_of_ble_eq_true rfl⟩ (fun H locs w => ?_)
  refine lv_if_eq (tgt := 15) S.1 S.2.1 dM_word_8 (by decide) (fun hc => ?_) (fun hc => ?_)
  · have h := (kb_brt hc).symm.trans h
    refine lv_iconst (v := 1) S.1 S.2.1 dM_word_15 (by decide) ?_
    exact J16 x1 x2 x3 1 z1 _ _ _ (lv_sub hl [0, 1, 2, 3] rfl) w h
  · have h := (kb_brf hc).symm.trans h
    refine lv_iconst (v := 0) S.1 S.2.1 dM_word_11 (by decide) ?_
    refine lv_goto (tgt := 16) S.1 S.2.1 dM_word_12 (by decide) ?_
    exact J16 x1 x2 x3 0 z1 _ _ _ (lv_sub hl [0, 1, 2, 3] rfl) w h
set_option maxHeartbeats 4000000 in
set_option maxRecDepth 100000 in
theorem cM_open (l : Launch) (D : va_G) (cI cZ : ClassId) (a : Nat → Nat) (z0 z' : kb_S) (r : Int32) (sz : Nat) (x1 : Int32) (h : pM_open x1 z0 = some (r, z')) : Met l y_M_open (Cond.code y_M_open c_M_open 2 (some .int) :: wsB) rm_M_open (kb_Pc D vwCl [(cI, .int), (cZ, .boolean)] sz [.ref (a 0), .int x1] (mW cI cZ a z0)) (kb_Qi D vwCl sz (mW cI cZ a z0) r (mW cI cZ a z')) 0 0 (va_A (mW cI cZ a z0) sz) := by
  refine kb_start (by decide) rfl (Nat.le_of_ble_eq_true rfl) ?_
  intro p e s m args below meth c A ls S hr hlk hsz hA w hl
  have hl : lv_has ls 2 [(0, .ref (a 0)), (1, .int x1)] := hl
  unfold pM_open at h
  have J14 : ∀ (x1 : Int32) (s0 : Int32) (z : kb_S) (H : Heap) (locs : List Loc) (ls : Array Slot), lv_has ls 2 [(0, .ref (a 0)), (1, .int x1)] → kb_W D vwCl [(cI, .int), (cZ, .boolean)] A s H locs (mW cI cZ a z) → pM_open_J14 x1 s0 z = some (r, z') → W p l e rm_M_open s m args below meth c H locs 0 0 (MQ below (kb_Qi D vwCl sz (mW cI cZ a z0) r (mW cI cZ a z')) args s 0 0 (va_A (mW cI cZ a z0) sz)) (F0 m 14 ls [.int s0, .ref (a 0)]) := by
    intro x1 s0 z H locs ls hl w h
    unfold pM_open_J14 at h
    obtain ⟨z4, hz5, h⟩ := kb_st_of h
    refine kb_puti S w 0 rfl gM_81 (Nat.le_of_ble_eq_true rfl) (ws1 := mW cI cZ a z4) (by rw [hz5]; rfl) dM_open_14 (fun H locs w => ?_)
    refine lv_aload_n S.1 S.2.1 dM_open_17 rfl (lv_at hl 0 rfl) ?_
    refine kb_get S w 0 rfl fM_81 rfl dM_open_18 ?_
    refine W.eq (g2 := F0 m 21 ls [.int (z4 0 0)]) rfl ?_
    refine lv_if_ne (tgt := 33) S.1 S.2.1 dM_open_21 (by decide) (fun hc => ?_) (fun hc => ?_)
    · have h := (kb_brf hc).symm.trans h
      refine lv_iconst (v := 0) S.1 S.2.1 dM_open_33 (by decide) ?_
      exact kb_iret (mW cI cZ a) S hr hlk hA w h dM_open_34
    · have h := (kb_brt hc).symm.trans h
      refine lv_aload_n S.1 S.2.1 dM_open_24 rfl (lv_at hl 0 rfl) ?_
      refine kb_get S w 0 rfl fM_13 rfl dM_open_25 ?_
      refine W.eq (g2 := F0 m 28 ls [.ref (a 2)]) rfl ?_
      refine lv_iload_n S.1 S.2.1 dM_open_28 rfl (lv_at hl 1 rfl) ?_
      obtain ⟨hi6, h⟩ := kb_ck_of h
      refine kb_iald S w 2 0 rfl rfl hi6 dM_open_29 ?_
      refine W.eq (g2 := F0 m 30 ls [.int (z4 2 (kb_ix (x1)))]) rfl ?_
      refine lv_goto (tgt := 34) S.1 S.2.1 dM_open_30 (by decide) ?_
      exact kb_iret (mW cI cZ a) S hr hlk hA w h dM_open_34
  refine lv_aload_n S.1 S.2.1 dM_open_0 rfl (lv_at hl 0 rfl) ?_
  refine lv_aload_n S.1 S.2.1 dM_open_1 rfl (lv_at hl 0 rfl) ?_
  refine lv_iload_n S.1 S.2.1 dM_open_2 rfl (lv_at hl 1 rfl) ?_
  obtain ⟨r2, z1, hc3, h⟩ := kb_cl_of h
  refine kb_calli (As := [.int x1]) (rest := [.ref (a 0)]) (q0 := 0) (ci := 3) S w (fun sz => cM_isBank l D cI cZ a _ _ _ sz x1 hc3) Y_M_isBank I_M_isBank S_M_isBank lM_103 ⟨rfl, rfl, Nat.le_of_ble_eq_true rfl, Nat.le_of_ble_eq_true rfl⟩ rfl rfl rfl rfl hl.1 rfl (Nat.le_of_ble_eq_true rfl) dM_open_3 ⟨Nat.le_of_ble_eq_true rfl, Nat.le_of_ble_eq_true rfl⟩ (fun H locs w => ?_)
  refine lv_if_eq (tgt := 13) S.1 S.2.1 dM_open_6 (by decide) (fun hc => ?_) (fun hc => ?_)
  · have h := (kb_brt hc).symm.trans h
    refine lv_iconst (v := 1) S.1 S.2.1 dM_open_13 (by decide) ?_
    exact J14 x1 1 z1 _ _ _ (lv_sub hl [0, 1] rfl) w h
  · have h := (kb_brf hc).symm.trans h
    refine lv_iconst (v := 0) S.1 S.2.1 dM_open_9 (by decide) ?_
    refine lv_goto (tgt := 14) S.1 S.2.1 dM_open_10 (by decide) ?_
    exact J14 x1 0 z1 _ _ _ (lv_sub hl [0, 1] rfl) w h
set_option maxHeartbeats 4000000 in
set_option maxRecDepth 100000 in
theorem cM_waiting (l : Launch) (D : va_G) (cI cZ : ClassId) (a : Nat → Nat) (z0 z' : kb_S) (r : Int32) (sz : Nat) (x1 : Int32) (h : pM_waiting x1 z0 = some (r, z')) : Met l y_M_waiting (Cond.code y_M_waiting c_M_waiting 2 (some .int) :: wsB) rm_M_waiting (kb_Pc D vwCl [(cI, .int), (cZ, .boolean)] sz [.ref (a 0), .int x1] (mW cI cZ a z0)) (kb_Qi D vwCl sz (mW cI cZ a z0) r (mW cI cZ a z')) 0 0 (va_A (mW cI cZ a z0) sz) := by
  refine kb_start (by decide) rfl (Nat.le_of_ble_eq_true rfl) ?_
  intro p e s m args below meth c A ls S hr hlk hsz hA w hl
  have hl : lv_has ls 2 [(0, .ref (a 0)), (1, .int x1)] := hl
  unfold pM_waiting at h
  have J18 : ∀ (x1 : Int32) (s0 : Int32) (z : kb_S) (H : Heap) (locs : List Loc) (ls : Array Slot), lv_has ls 2 [(0, .ref (a 0)), (1, .int x1)] → kb_W D vwCl [(cI, .int), (cZ, .boolean)] A s H locs (mW cI cZ a z) → pM_waiting_J18 x1 s0 z = some (r, z') → W p l e rm_M_waiting s m args below meth c H locs 0 0 (MQ below (kb_Qi D vwCl sz (mW cI cZ a z0) r (mW cI cZ a z')) args s 0 0 (va_A (mW cI cZ a z0) sz)) (F0 m 18 ls [.int s0, .ref (a 0)]) := by
    intro x1 s0 z H locs ls hl w h
    unfold pM_waiting_J18 at h
    obtain ⟨z1, hz2, h⟩ := kb_st_of h
    refine kb_puti S w 0 rfl gM_81 (Nat.le_of_ble_eq_true rfl) (ws1 := mW cI cZ a z1) (by rw [hz2]; rfl) dM_waiting_18 (fun H locs w => ?_)
    refine lv_aload_n S.1 S.2.1 dM_waiting_21 rfl (lv_at hl 0 rfl) ?_
    refine kb_get S w 0 rfl fM_81 rfl dM_waiting_22 ?_
    refine W.eq (g2 := F0 m 25 ls [.int (z1 0 0)]) rfl ?_
    refine lv_if_ne (tgt := 37) S.1 S.2.1 dM_waiting_25 (by decide) (fun hc => ?_) (fun hc => ?_)
    · have h := (kb_brf hc).symm.trans h
      refine lv_iconst (v := 0) S.1 S.2.1 dM_waiting_37 (by decide) ?_
      exact kb_iret (mW cI cZ a) S hr hlk hA w h dM_waiting_38
    · have h := (kb_brt hc).symm.trans h
      refine lv_aload_n S.1 S.2.1 dM_waiting_28 rfl (lv_at hl 0 rfl) ?_
      refine kb_get S w 0 rfl fM_40 rfl dM_waiting_29 ?_
      refine W.eq (g2 := F0 m 32 ls [.ref (a 11)]) rfl ?_
      refine lv_iload_n S.1 S.2.1 dM_waiting_32 rfl (lv_at hl 1 rfl) ?_
      obtain ⟨hi3, h⟩ := kb_ck_of h
      refine kb_iald S w 11 0 rfl rfl hi3 dM_waiting_33 ?_
      refine W.eq (g2 := F0 m 34 ls [.int (z1 11 (kb_ix (x1)))]) rfl ?_
      refine lv_goto (tgt := 38) S.1 S.2.1 dM_waiting_34 (by decide) ?_
      exact kb_iret (mW cI cZ a) S hr hlk hA w h dM_waiting_38
  have J17 : ∀ (x1 : Int32) (z : kb_S) (H : Heap) (locs : List Loc) (ls : Array Slot), lv_has ls 2 [(0, .ref (a 0)), (1, .int x1)] → kb_W D vwCl [(cI, .int), (cZ, .boolean)] A s H locs (mW cI cZ a z) → pM_waiting_J17 x1 z = some (r, z') → W p l e rm_M_waiting s m args below meth c H locs 0 0 (MQ below (kb_Qi D vwCl sz (mW cI cZ a z0) r (mW cI cZ a z')) args s 0 0 (va_A (mW cI cZ a z0) sz)) (F0 m 17 ls [.ref (a 0)]) := by
    intro x1 z H locs ls hl w h
    unfold pM_waiting_J17 at h
    refine lv_iconst (v := 1) S.1 S.2.1 dM_waiting_17 (by decide) ?_
    exact J18 x1 1 z _ _ _ (lv_sub hl [0, 1] rfl) w h
  refine lv_aload_n S.1 S.2.1 dM_waiting_0 rfl (lv_at hl 0 rfl) ?_
  refine lv_iload_n S.1 S.2.1 dM_waiting_1 rfl (lv_at hl 1 rfl) ?_
  refine lv_if_lt (tgt := 17) S.1 S.2.1 dM_waiting_2 (by decide) (fun hc => ?_) (fun hc => ?_)
  · have h := (kb_brt hc).symm.trans h
    exact J17 x1 z0 _ _ _ (lv_sub hl [0, 1] rfl) w h
  · have h := (kb_brf hc).symm.trans h
    refine lv_iload_n S.1 S.2.1 dM_waiting_5 rfl (lv_at hl 1 rfl) ?_
    refine lv_aload_n S.1 S.2.1 dM_waiting_6 rfl (lv_at hl 0 rfl) ?_
    refine kb_get S w 0 rfl fM_113 rfl dM_waiting_7 ?_
    refine W.eq (g2 := F0 m 10 ls [.int (z0 0 4), .int x1, .ref (a 0)]) rfl ?_
    refine lv_icmp_ge (tgt := 17) S.1 S.2.1 dM_waiting_10 (by decide) (fun hc => ?_) (fun hc => ?_)
    · have h := (kb_brt hc).symm.trans h
      exact J17 x1 z0 _ _ _ (lv_sub hl [0, 1] rfl) w h
    · have h := (kb_brf hc).symm.trans h
      refine lv_iconst (v := 0) S.1 S.2.1 dM_waiting_13 (by decide) ?_
      refine lv_goto (tgt := 18) S.1 S.2.1 dM_waiting_14 (by decide) ?_
      exact J18 x1 0 z0 _ _ _ (lv_sub hl [0, 1] rfl) w h
set_option maxHeartbeats 4000000 in
set_option maxRecDepth 100000 in
theorem cM_figure (l : Launch) (D : va_G) (cI cZ : ClassId) (a : Nat → Nat) (z0 z' : kb_S) (r : Int32) (sz : Nat) (x1 : Int32) (h : pM_figure x1 z0 = some (r, z')) : Met l y_M_figure (Cond.code y_M_figure c_M_figure 2 (some .int) :: wsB) rm_M_figure (kb_Pc D vwCl [(cI, .int), (cZ, .boolean)] sz [.ref (a 0), .int x1] (mW cI cZ a z0)) (kb_Qi D vwCl sz (mW cI cZ a z0) r (mW cI cZ a z')) 0 0 (va_A (mW cI cZ a z0) sz) := by
  refine kb_start (by decide) rfl (Nat.le_of_ble_eq_true rfl) ?_
  intro p e s m args below meth c A ls S hr hlk hsz hA w hl
  have hl : lv_has ls 2 [(0, .ref (a 0)), (1, .int x1)] := hl
  unfold pM_figure at h
  have J16 : ∀ (x1 : Int32) (s0 : Int32) (z : kb_S) (H : Heap) (locs : List Loc) (ls : Array Slot), lv_has ls 2 [(0, .ref (a 0)), (1, .int x1)] → kb_W D vwCl [(cI, .int), (cZ, .boolean)] A s H locs (mW cI cZ a z) → pM_figure_J16 x1 s0 z = some (r, z') → W p l e rm_M_figure s m args below meth c H locs 0 0 (MQ below (kb_Qi D vwCl sz (mW cI cZ a z0) r (mW cI cZ a z')) args s 0 0 (va_A (mW cI cZ a z0) sz)) (F0 m 16 ls [.int s0, .ref (a 0)]) := by
    intro x1 s0 z H locs ls hl w h
    unfold pM_figure_J16 at h
    obtain ⟨z1, hz2, h⟩ := kb_st_of h
    refine kb_puti S w 0 rfl gM_81 (Nat.le_of_ble_eq_true rfl) (ws1 := mW cI cZ a z1) (by rw [hz2]; rfl) dM_figure_16 (fun H locs w => ?_)
    refine lv_aload_n S.1 S.2.1 dM_figure_19 rfl (lv_at hl 0 rfl) ?_
    refine kb_get S w 0 rfl fM_81 rfl dM_figure_20 ?_
    refine W.eq (g2 := F0 m 23 ls [.int (z1 0 0)]) rfl ?_
    refine lv_if_eq (tgt := 28) S.1 S.2.1 dM_figure_23 (by decide) (fun hc => ?_) (fun hc => ?_)
    · have h := (kb_brt hc).symm.trans h
      refine lv_iload_n S.1 S.2.1 dM_figure_28 rfl (lv_at hl 1 rfl) ?_
      refine lv_if_ne (tgt := 41) S.1 S.2.1 dM_figure_29 (by decide) (fun hc => ?_) (fun hc => ?_)
      · have h := (kb_brf hc).symm.trans h
        refine lv_iload_n S.1 S.2.1 dM_figure_41 rfl (lv_at hl 1 rfl) ?_
        refine lv_bipush (v := 6) S.1 S.2.1 dM_figure_42 (by decide) ?_
        refine lv_icmp_ge (tgt := 58) S.1 S.2.1 dM_figure_44 (by decide) (fun hc => ?_) (fun hc => ?_)
        · have h := (kb_brt hc).symm.trans h
          refine lv_iload_n S.1 S.2.1 dM_figure_58 rfl (lv_at hl 1 rfl) ?_
          refine lv_bipush (v := 6) S.1 S.2.1 dM_figure_59 (by decide) ?_
          refine lv_icmp_ne (tgt := 71) S.1 S.2.1 dM_figure_61 (by decide) (fun hc => ?_) (fun hc => ?_)
          · have h := (kb_brf hc).symm.trans h
            refine lv_iload_n S.1 S.2.1 dM_figure_71 rfl (lv_at hl 1 rfl) ?_
            refine lv_bipush (v := 7) S.1 S.2.1 dM_figure_72 (by decide) ?_
            refine lv_icmp_ne (tgt := 84) S.1 S.2.1 dM_figure_74 (by decide) (fun hc => ?_) (fun hc => ?_)
            · have h := (kb_brf hc).symm.trans h
              refine lv_aload_n S.1 S.2.1 dM_figure_84 rfl (lv_at hl 0 rfl) ?_
              refine kb_get S w 0 rfl fM_31 rfl dM_figure_85 ?_
              refine W.eq (g2 := F0 m 88 ls [.ref (a 8)]) rfl ?_
              refine lv_iconst (v := 0) S.1 S.2.1 dM_figure_88 (by decide) ?_
              obtain ⟨hi3, h⟩ := kb_ck_of h
              refine kb_iald S w 8 0 rfl rfl hi3 dM_figure_89 ?_
              refine W.eq (g2 := F0 m 90 ls [.int (z1 8 (kb_ix (0)))]) rfl ?_
              exact kb_iret (mW cI cZ a) S hr hlk hA w h dM_figure_90
            · have h := (kb_brt hc).symm.trans h
              refine lv_aload_n S.1 S.2.1 dM_figure_77 rfl (lv_at hl 0 rfl) ?_
              refine kb_get S w 0 rfl fM_123 rfl dM_figure_78 ?_
              refine W.eq (g2 := F0 m 81 ls [.int (z1 0 6)]) rfl ?_
              refine lv_goto (tgt := 90) S.1 S.2.1 dM_figure_81 (by decide) ?_
              exact kb_iret (mW cI cZ a) S hr hlk hA w h dM_figure_90
          · have h := (kb_brt hc).symm.trans h
            refine lv_aload_n S.1 S.2.1 dM_figure_64 rfl (lv_at hl 0 rfl) ?_
            refine kb_get S w 0 rfl fM_113 rfl dM_figure_65 ?_
            refine W.eq (g2 := F0 m 68 ls [.int (z1 0 4)]) rfl ?_
            refine lv_goto (tgt := 90) S.1 S.2.1 dM_figure_68 (by decide) ?_
            exact kb_iret (mW cI cZ a) S hr hlk hA w h dM_figure_90
        · have h := (kb_brf hc).symm.trans h
          refine lv_aload_n S.1 S.2.1 dM_figure_47 rfl (lv_at hl 0 rfl) ?_
          refine kb_get S w 0 rfl fM_68 rfl dM_figure_48 ?_
          refine W.eq (g2 := F0 m 51 ls [.ref (a 20)]) rfl ?_
          refine lv_iload_n S.1 S.2.1 dM_figure_51 rfl (lv_at hl 1 rfl) ?_
          refine lv_iconst (v := 1) S.1 S.2.1 dM_figure_52 (by decide) ?_
          refine lv_isub S.1 S.2.1 dM_figure_53 ?_
          obtain ⟨hi4, h⟩ := kb_ck_of h
          refine kb_iald S w 20 0 rfl rfl hi4 dM_figure_54 ?_
          refine W.eq (g2 := F0 m 55 ls [.int (z1 20 (kb_ix (x1 - 1)))]) rfl ?_
          refine lv_goto (tgt := 90) S.1 S.2.1 dM_figure_55 (by decide) ?_
          exact kb_iret (mW cI cZ a) S hr hlk hA w h dM_figure_90
      · have h := (kb_brt hc).symm.trans h
        refine lv_aload_n S.1 S.2.1 dM_figure_32 rfl (lv_at hl 0 rfl) ?_
        refine kb_get S w 0 rfl fM_34 rfl dM_figure_33 ?_
        refine W.eq (g2 := F0 m 36 ls [.ref (a 9)]) rfl ?_
        refine lv_iconst (v := 0) S.1 S.2.1 dM_figure_36 (by decide) ?_
        obtain ⟨hi5, h⟩ := kb_ck_of h
        refine kb_iald S w 9 0 rfl rfl hi5 dM_figure_37 ?_
        refine W.eq (g2 := F0 m 38 ls [.int (z1 9 (kb_ix (0)))]) rfl ?_
        refine lv_goto (tgt := 90) S.1 S.2.1 dM_figure_38 (by decide) ?_
        exact kb_iret (mW cI cZ a) S hr hlk hA w h dM_figure_90
    · have h := (kb_brf hc).symm.trans h
      refine lv_iconst (v := 0) S.1 S.2.1 dM_figure_26 (by decide) ?_
      exact kb_iret (mW cI cZ a) S hr hlk hA w h dM_figure_27
  have J11 : ∀ (x1 : Int32) (z : kb_S) (H : Heap) (locs : List Loc) (ls : Array Slot), lv_has ls 2 [(0, .ref (a 0)), (1, .int x1)] → kb_W D vwCl [(cI, .int), (cZ, .boolean)] A s H locs (mW cI cZ a z) → pM_figure_J11 x1 z = some (r, z') → W p l e rm_M_figure s m args below meth c H locs 0 0 (MQ below (kb_Qi D vwCl sz (mW cI cZ a z0) r (mW cI cZ a z')) args s 0 0 (va_A (mW cI cZ a z0) sz)) (F0 m 11 ls [.ref (a 0)]) := by
    intro x1 z H locs ls hl w h
    unfold pM_figure_J11 at h
    refine lv_iconst (v := 1) S.1 S.2.1 dM_figure_11 (by decide) ?_
    refine lv_goto (tgt := 16) S.1 S.2.1 dM_figure_12 (by decide) ?_
    exact J16 x1 1 z _ _ _ (lv_sub hl [0, 1] rfl) w h
  refine lv_aload_n S.1 S.2.1 dM_figure_0 rfl (lv_at hl 0 rfl) ?_
  refine lv_iload_n S.1 S.2.1 dM_figure_1 rfl (lv_at hl 1 rfl) ?_
  refine lv_if_lt (tgt := 11) S.1 S.2.1 dM_figure_2 (by decide) (fun hc => ?_) (fun hc => ?_)
  · have h := (kb_brt hc).symm.trans h
    exact J11 x1 z0 _ _ _ (lv_sub hl [0, 1] rfl) w h
  · have h := (kb_brf hc).symm.trans h
    refine lv_iload_n S.1 S.2.1 dM_figure_5 rfl (lv_at hl 1 rfl) ?_
    refine lv_bipush (v := 8) S.1 S.2.1 dM_figure_6 (by decide) ?_
    refine lv_icmp_le (tgt := 15) S.1 S.2.1 dM_figure_8 (by decide) (fun hc => ?_) (fun hc => ?_)
    · have h := (kb_brt hc).symm.trans h
      refine lv_iconst (v := 0) S.1 S.2.1 dM_figure_15 (by decide) ?_
      exact J16 x1 0 z0 _ _ _ (lv_sub hl [0, 1] rfl) w h
    · have h := (kb_brf hc).symm.trans h
      exact J11 x1 z0 _ _ _ (lv_sub hl [0, 1] rfl) w h
set_option maxHeartbeats 4000000 in
set_option maxRecDepth 100000 in
theorem cM_check (l : Launch) (D : va_G) (cI cZ : ClassId) (a : Nat → Nat) (z0 z' : kb_S) (r : Int32) (sz : Nat) (x1 : Int32) (x2 : Int32) (x3 : Int32) (h : pM_check x1 x2 x3 z0 = some (r, z')) : Met l y_M_check (Cond.code y_M_check c_M_check 6 (some .int) :: wsB) rm_M_check (kb_Pc D vwCl [(cI, .int), (cZ, .boolean)] sz [.ref (a 0), .int x1, .int x2, .int x3] (mW cI cZ a z0)) (kb_Qi D vwCl sz (mW cI cZ a z0) r (mW cI cZ a z')) 0 0 (va_A (mW cI cZ a z0) sz) := by
  refine kb_start (by decide) rfl (Nat.le_of_ble_eq_true rfl) ?_
  intro p e s m args below meth c A ls S hr hlk hsz hA w hl
  have hl : lv_has ls 6 [(0, .ref (a 0)), (1, .int x1), (2, .int x2), (3, .int x3)] := hl
  unfold pM_check at h
  have J110 : ∀ (x5 : Int32) (z : kb_S) (H : Heap) (locs : List Loc) (ls : Array Slot), lv_has ls 6 [(0, .ref (a 0)), (5, .int x5)] → kb_W D vwCl [(cI, .int), (cZ, .boolean)] A s H locs (mW cI cZ a z) → pM_check_J110 x5 z = some (r, z') → W p l e rm_M_check s m args below meth c H locs 0 0 (MQ below (kb_Qi D vwCl sz (mW cI cZ a z0) r (mW cI cZ a z')) args s 0 0 (va_A (mW cI cZ a z0) sz)) (F0 m 110 ls []) := by
    intro x5 z H locs ls hl w h
    unfold pM_check_J110 at h
    refine lv_aload_n S.1 S.2.1 dM_check_110 rfl (lv_at hl 0 rfl) ?_
    refine kb_get S w 0 rfl fM_34 rfl dM_check_111 ?_
    refine W.eq (g2 := F0 m 114 ls [.ref (a 9)]) rfl ?_
    refine lv_iconst (v := 1) S.1 S.2.1 dM_check_114 (by decide) ?_
    refine lv_dup2_11 S.1 S.2.1 dM_check_115 rfl rfl ?_
    obtain ⟨hi6, h⟩ := kb_ck_of h
    refine kb_iald S w 9 0 rfl rfl hi6 dM_check_116 ?_
    refine W.eq (g2 := F0 m 117 ls [.int (z 9 (kb_ix (1))), .int 1, .ref (a 9)]) rfl ?_
    refine lv_iconst (v := 1) S.1 S.2.1 dM_check_117 (by decide) ?_
    refine lv_iadd S.1 S.2.1 dM_check_118 ?_
    obtain ⟨hi7, h⟩ := kb_ck_of h
    obtain ⟨z8, hz9, h⟩ := kb_st_of h
    refine kb_iast S w 9 0 rfl rfl hi7 (ws1 := mW cI cZ a z8) (by rw [hz9]; rfl) dM_check_119 (fun H locs w => ?_)
    refine lv_iload S.1 S.2.1 dM_check_120 (lv_at hl 1 rfl) ?_
    exact kb_iret (mW cI cZ a) S hr hlk hA w h dM_check_122
  have J106 : ∀ (x3 : Int32) (x5 : Int32) (s0 : Int32) (s1 : Int32) (s2 : Int32) (z : kb_S) (H : Heap) (locs : List Loc) (ls : Array Slot), lv_has ls 6 [(0, .ref (a 0)), (3, .int x3), (5, .int x5)] → kb_W D vwCl [(cI, .int), (cZ, .boolean)] A s H locs (mW cI cZ a z) → pM_check_J106 x3 x5 s0 s1 s2 z = some (r, z') → W p l e rm_M_check s m args below meth c H locs 0 0 (MQ below (kb_Qi D vwCl sz (mW cI cZ a z0) r (mW cI cZ a z')) args s 0 0 (va_A (mW cI cZ a z0) sz)) (F0 m 106 ls [.int s0, .int s1, .int s2, .ref (a 0)]) := by
    intro x3 x5 s0 s1 s2 z H locs ls hl w h
    unfold pM_check_J106 at h
    refine lv_iload_n S.1 S.2.1 dM_check_106 rfl (lv_at hl 1 rfl) ?_
    obtain ⟨r11, z10, hc12, h⟩ := kb_cl_of h
    refine kb_callv (As := [.int s2, .int s1, .int s0, .int x3]) (rest := []) (q0 := 0) (ci := 3) S w (fun sz => cM_give l D cI cZ a _ _ _ sz s2 s1 s0 x3 hc12) Y_M_give I_M_give S_M_give lM_126 ⟨rfl, rfl, Nat.le_of_ble_eq_true rfl, Nat.le_of_ble_eq_true rfl⟩ rfl rfl rfl rfl hl.1 rfl (Nat.le_of_ble_eq_true rfl) dM_check_107 ⟨Nat.le_of_ble_eq_true rfl, Nat.le_of_ble_eq_true rfl⟩ (fun H locs w => ?_)
    exact J110 x5 z10 _ _ _ (lv_sub hl [0, 2] rfl) w h
  have J82 : ∀ (x1 : Int32) (x2 : Int32) (x3 : Int32) (s0 : Int32) (s1 : Int32) (s2 : Int32) (z : kb_S) (H : Heap) (locs : List Loc) (ls : Array Slot), lv_has ls 6 [(0, .ref (a 0)), (1, .int x1), (2, .int x2), (3, .int x3)] → kb_W D vwCl [(cI, .int), (cZ, .boolean)] A s H locs (mW cI cZ a z) → pM_check_J82 x1 x2 x3 s0 s1 s2 z = some (r, z') → W p l e rm_M_check s m args below meth c H locs 0 0 (MQ below (kb_Qi D vwCl sz (mW cI cZ a z0) r (mW cI cZ a z')) args s 0 0 (va_A (mW cI cZ a z0) sz)) (F0 m 82 ls [.int s0, .int s1, .int s2, .ref (a 0)]) := by
    intro x1 x2 x3 s0 s1 s2 z H locs ls hl w h
    unfold pM_check_J82 at h
    refine lv_iload_n S.1 S.2.1 dM_check_82 rfl (lv_at hl 3 rfl) ?_
    obtain ⟨r4, z3, hc5, h⟩ := kb_cl_of h
    refine kb_calli (As := [.int s2, .int s1, .int s0, .int x3]) (rest := []) (q0 := 0) (ci := 3) S w (fun sz => cM_broken l D cI cZ a _ _ _ sz s2 s1 s0 x3 hc5) Y_M_broken I_M_broken S_M_broken lM_156 ⟨rfl, rfl, Nat.le_of_ble_eq_true rfl, Nat.le_of_ble_eq_true rfl⟩ rfl rfl rfl rfl hl.1 rfl (Nat.le_of_ble_eq_true rfl) dM_check_83 ⟨Nat.le_of_ble_eq_true rfl, Nat.le_of_ble_eq_true rfl⟩ (fun H locs w => ?_)
    refine lv_istore S.1 S.2.1 dM_check_86 hl (by decide) rfl (fun ls hl => ?_)
    have hl : lv_has ls 6 [(5, .int r4), (0, .ref (a 0)), (1, .int x1), (2, .int x2), (3, .int x3)] := hl
    refine lv_iload S.1 S.2.1 dM_check_88 (lv_at hl 0 rfl) ?_
    refine lv_if_ne (tgt := 110) S.1 S.2.1 dM_check_90 (by decide) (fun hc => ?_) (fun hc => ?_)
    · have h := (kb_brf hc).symm.trans h
      exact J110 r4 z3 _ _ _ (lv_sub hl [1, 0] rfl) w h
    · have h := (kb_brt hc).symm.trans h
      refine lv_aload_n S.1 S.2.1 dM_check_93 rfl (lv_at hl 1 rfl) ?_
      refine lv_iconst (v := 1) S.1 S.2.1 dM_check_94 (by decide) ?_
      refine lv_iload_n S.1 S.2.1 dM_check_95 rfl (lv_at hl 2 rfl) ?_
      refine lv_iload_n S.1 S.2.1 dM_check_96 rfl (lv_at hl 2 rfl) ?_
      refine lv_iconst (v := 4) S.1 S.2.1 dM_check_97 (by decide) ?_
      refine lv_icmp_ne (tgt := 105) S.1 S.2.1 dM_check_98 (by decide) (fun hc => ?_) (fun hc => ?_)
      · have h := (kb_brf hc).symm.trans h
        refine lv_iload_n S.1 S.2.1 dM_check_105 rfl (lv_at hl 3 rfl) ?_
        exact J106 x3 r4 x2 x1 1 z3 _ _ _ (lv_sub hl [1, 4, 0] rfl) w h
      · have h := (kb_brt hc).symm.trans h
        refine lv_iconst (v := 0) S.1 S.2.1 dM_check_101 (by decide) ?_
        refine lv_goto (tgt := 106) S.1 S.2.1 dM_check_102 (by decide) ?_
        exact J106 x3 r4 0 x1 1 z3 _ _ _ (lv_sub hl [1, 4, 0] rfl) w h
  have J57 : ∀ (x1 : Int32) (x2 : Int32) (x3 : Int32) (s0 : Int32) (z : kb_S) (H : Heap) (locs : List Loc) (ls : Array Slot), lv_has ls 6 [(0, .ref (a 0)), (1, .int x1), (2, .int x2), (3, .int x3)] → kb_W D vwCl [(cI, .int), (cZ, .boolean)] A s H locs (mW cI cZ a z) → pM_check_J57 x1 x2 x3 s0 z = some (r, z') → W p l e rm_M_check s m args below meth c H locs 0 0 (MQ below (kb_Qi D vwCl sz (mW cI cZ a z0) r (mW cI cZ a z')) args s 0 0 (va_A (mW cI cZ a z0) sz)) (F0 m 57 ls [.int s0, .ref (a 0)]) := by
    intro x1 x2 x3 s0 z H locs ls hl w h
    unfold pM_check_J57 at h
    obtain ⟨z1, hz2, h⟩ := kb_st_of h
    refine kb_puti S w 0 rfl gM_81 (Nat.le_of_ble_eq_true rfl) (ws1 := mW cI cZ a z1) (by rw [hz2]; rfl) dM_check_57 (fun H locs w => ?_)
    refine lv_aload_n S.1 S.2.1 dM_check_60 rfl (lv_at hl 0 rfl) ?_
    refine kb_get S w 0 rfl fM_81 rfl dM_check_61 ?_
    refine W.eq (g2 := F0 m 64 ls [.int (z1 0 0)]) rfl ?_
    refine lv_if_eq (tgt := 69) S.1 S.2.1 dM_check_64 (by decide) (fun hc => ?_) (fun hc => ?_)
    · have h := (kb_brt hc).symm.trans h
      refine lv_aload_n S.1 S.2.1 dM_check_69 rfl (lv_at hl 0 rfl) ?_
      refine lv_iconst (v := 1) S.1 S.2.1 dM_check_70 (by decide) ?_
      refine lv_iload_n S.1 S.2.1 dM_check_71 rfl (lv_at hl 1 rfl) ?_
      refine lv_iload_n S.1 S.2.1 dM_check_72 rfl (lv_at hl 1 rfl) ?_
      refine lv_iconst (v := 4) S.1 S.2.1 dM_check_73 (by decide) ?_
      refine lv_icmp_ne (tgt := 81) S.1 S.2.1 dM_check_74 (by decide) (fun hc => ?_) (fun hc => ?_)
      · have h := (kb_brf hc).symm.trans h
        refine lv_iload_n S.1 S.2.1 dM_check_81 rfl (lv_at hl 2 rfl) ?_
        exact J82 x1 x2 x3 x2 x1 1 z1 _ _ _ (lv_sub hl [0, 1, 2, 3] rfl) w h
      · have h := (kb_brt hc).symm.trans h
        refine lv_iconst (v := 0) S.1 S.2.1 dM_check_77 (by decide) ?_
        refine lv_goto (tgt := 82) S.1 S.2.1 dM_check_78 (by decide) ?_
        exact J82 x1 x2 x3 0 x1 1 z1 _ _ _ (lv_sub hl [0, 1, 2, 3] rfl) w h
    · have h := (kb_brf hc).symm.trans h
      refine lv_iconst (v := 0) S.1 S.2.1 dM_check_67 (by decide) ?_
      exact kb_iret (mW cI cZ a) S hr hlk hA w h dM_check_68
  have J44 : ∀ (x1 : Int32) (x2 : Int32) (x3 : Int32) (s0 : Int32) (z : kb_S) (H : Heap) (locs : List Loc) (ls : Array Slot), lv_has ls 6 [(0, .ref (a 0)), (1, .int x1), (2, .int x2), (3, .int x3)] → kb_W D vwCl [(cI, .int), (cZ, .boolean)] A s H locs (mW cI cZ a z) → pM_check_J44 x1 x2 x3 s0 z = some (r, z') → W p l e rm_M_check s m args below meth c H locs 0 0 (MQ below (kb_Qi D vwCl sz (mW cI cZ a z0) r (mW cI cZ a z')) args s 0 0 (va_A (mW cI cZ a z0) sz)) (F0 m 44 ls [.int s0]) := by
    intro x1 x2 x3 s0 z H locs ls hl w h
    unfold pM_check_J44 at h
    refine lv_istore S.1 S.2.1 dM_check_44 hl (by decide) rfl (fun ls hl => ?_)
    have hl : lv_has ls 6 [(4, .int s0), (0, .ref (a 0)), (1, .int x1), (2, .int x2), (3, .int x3)] := hl
    refine lv_aload_n S.1 S.2.1 dM_check_46 rfl (lv_at hl 1 rfl) ?_
    refine lv_iload S.1 S.2.1 dM_check_47 (lv_at hl 0 rfl) ?_
    refine lv_if_eq (tgt := 56) S.1 S.2.1 dM_check_49 (by decide) (fun hc => ?_) (fun hc => ?_)
    · have h := (kb_brt hc).symm.trans h
      refine lv_iconst (v := 1) S.1 S.2.1 dM_check_56 (by decide) ?_
      exact J57 x1 x2 x3 1 z _ _ _ (lv_sub hl [1, 2, 3, 4] rfl) w h
    · have h := (kb_brf hc).symm.trans h
      refine lv_iconst (v := 0) S.1 S.2.1 dM_check_52 (by decide) ?_
      refine lv_goto (tgt := 57) S.1 S.2.1 dM_check_53 (by decide) ?_
      exact J57 x1 x2 x3 0 z _ _ _ (lv_sub hl [1, 2, 3, 4] rfl) w h
  have J43 : ∀ (x1 : Int32) (x2 : Int32) (x3 : Int32) (z : kb_S) (H : Heap) (locs : List Loc) (ls : Array Slot), lv_has ls 6 [(0, .ref (a 0)), (1, .int x1), (2, .int x2), (3, .int x3)] → kb_W D vwCl [(cI, .int), (cZ, .boolean)] A s H locs (mW cI cZ a z) → pM_check_J43 x1 x2 x3 z = some (r, z') → W p l e rm_M_check s m args below meth c H locs 0 0 (MQ below (kb_Qi D vwCl sz (mW cI cZ a z0) r (mW cI cZ a z')) args s 0 0 (va_A (mW cI cZ a z0) sz)) (F0 m 43 ls []) := by
    intro x1 x2 x3 z H locs ls hl w h
    unfold pM_check_J43 at h
    refine lv_iconst (v := 0) S.1 S.2.1 dM_check_43 (by decide) ?_
    exact J44 x1 x2 x3 0 z _ _ _ (lv_sub hl [0, 1, 2, 3] rfl) w h
  have J39 : ∀ (x1 : Int32) (x2 : Int32) (x3 : Int32) (z : kb_S) (H : Heap) (locs : List Loc) (ls : Array Slot), lv_has ls 6 [(0, .ref (a 0)), (1, .int x1), (2, .int x2), (3, .int x3)] → kb_W D vwCl [(cI, .int), (cZ, .boolean)] A s H locs (mW cI cZ a z) → pM_check_J39 x1 x2 x3 z = some (r, z') → W p l e rm_M_check s m args below meth c H locs 0 0 (MQ below (kb_Qi D vwCl sz (mW cI cZ a z0) r (mW cI cZ a z')) args s 0 0 (va_A (mW cI cZ a z0) sz)) (F0 m 39 ls []) := by
    intro x1 x2 x3 z H locs ls hl w h
    unfold pM_check_J39 at h
    refine lv_iconst (v := 1) S.1 S.2.1 dM_check_39 (by decide) ?_
    refine lv_goto (tgt := 44) S.1 S.2.1 dM_check_40 (by decide) ?_
    exact J44 x1 x2 x3 1 z _ _ _ (lv_sub hl [0, 1, 2, 3] rfl) w h
  have J22 : ∀ (x1 : Int32) (x2 : Int32) (x3 : Int32) (z : kb_S) (H : Heap) (locs : List Loc) (ls : Array Slot), lv_has ls 6 [(0, .ref (a 0)), (1, .int x1), (2, .int x2), (3, .int x3)] → kb_W D vwCl [(cI, .int), (cZ, .boolean)] A s H locs (mW cI cZ a z) → pM_check_J22 x1 x2 x3 z = some (r, z') → W p l e rm_M_check s m args below meth c H locs 0 0 (MQ below (kb_Qi D vwCl sz (mW cI cZ a z0) r (mW cI cZ a z')) args s 0 0 (va_A (mW cI cZ a z0) sz)) (F0 m 22 ls []) := by
    intro x1 x2 x3 z H locs ls hl w h
    unfold pM_check_J22 at h
    refine lv_iload_n S.1 S.2.1 dM_check_22 rfl (lv_at hl 1 rfl) ?_
    refine lv_iconst (v := 4) S.1 S.2.1 dM_check_23 (by decide) ?_
    refine lv_icmp_eq (tgt := 39) S.1 S.2.1 dM_check_24 (by decide) (fun hc => ?_) (fun hc => ?_)
    · have h := (kb_brt hc).symm.trans h
      exact J39 x1 x2 x3 z _ _ _ (lv_sub hl [0, 1, 2, 3] rfl) w h
    · have h := (kb_brf hc).symm.trans h
      refine lv_iload_n S.1 S.2.1 dM_check_27 rfl (lv_at hl 1 rfl) ?_
      refine lv_iconst (v := 1) S.1 S.2.1 dM_check_28 (by decide) ?_
      refine lv_icmp_eq (tgt := 39) S.1 S.2.1 dM_check_29 (by decide) (fun hc => ?_) (fun hc => ?_)
      · have h := (kb_brt hc).symm.trans h
        exact J39 x1 x2 x3 z _ _ _ (lv_sub hl [0, 1, 2, 3] rfl) w h
      · have h := (kb_brf hc).symm.trans h
        refine lv_iload_n S.1 S.2.1 dM_check_32 rfl (lv_at hl 3 rfl) ?_
        obtain ⟨r14, z13, hc15, h⟩ := kb_cl_of h
        refine kb_callS (As := [.int x3]) (rest := []) S w (fun sz => cM_isRow l D cI cZ a _ _ _ sz x3 hc15) Y_M_isRow T_M_isRow lM_107 ⟨rfl, rfl, Nat.le_of_ble_eq_true rfl, Nat.le_of_ble_eq_true rfl⟩ rfl hl.1 rfl (Nat.le_of_ble_eq_true rfl) dM_check_33 ⟨Nat.le_of_ble_eq_true rfl, Nat.le_of_ble_eq_true rfl⟩ (fun H locs w => ?_)
        refine lv_if_eq (tgt := 43) S.1 S.2.1 dM_check_36 (by decide) (fun hc => ?_) (fun hc => ?_)
        · have h := (kb_brt hc).symm.trans h
          exact J43 x1 x2 x3 z13 _ _ _ (lv_sub hl [0, 1, 2, 3] rfl) w h
        · have h := (kb_brf hc).symm.trans h
          exact J39 x1 x2 x3 z13 _ _ _ (lv_sub hl [0, 1, 2, 3] rfl) w h
  refine lv_iload_n S.1 S.2.1 dM_check_0 rfl (lv_at hl 1 rfl) ?_
  refine lv_if_lt (tgt := 43) S.1 S.2.1 dM_check_1 (by decide) (fun hc => ?_) (fun hc => ?_)
  · have h := (kb_brt hc).symm.trans h
    exact J43 x1 x2 x3 z0 _ _ _ (lv_sub hl [0, 1, 2, 3] rfl) w h
  · have h := (kb_brf hc).symm.trans h
    refine lv_iload_n S.1 S.2.1 dM_check_4 rfl (lv_at hl 1 rfl) ?_
    refine lv_iconst (v := 4) S.1 S.2.1 dM_check_5 (by decide) ?_
    refine lv_icmp_gt (tgt := 43) S.1 S.2.1 dM_check_6 (by decide) (fun hc => ?_) (fun hc => ?_)
    · have h := (kb_brt hc).symm.trans h
      exact J43 x1 x2 x3 z0 _ _ _ (lv_sub hl [0, 1, 2, 3] rfl) w h
    · have h := (kb_brf hc).symm.trans h
      refine lv_iload_n S.1 S.2.1 dM_check_9 rfl (lv_at hl 1 rfl) ?_
      refine lv_iconst (v := 4) S.1 S.2.1 dM_check_10 (by decide) ?_
      refine lv_icmp_eq (tgt := 22) S.1 S.2.1 dM_check_11 (by decide) (fun hc => ?_) (fun hc => ?_)
      · have h := (kb_brt hc).symm.trans h
        exact J22 x1 x2 x3 z0 _ _ _ (lv_sub hl [0, 1, 2, 3] rfl) w h
      · have h := (kb_brf hc).symm.trans h
        refine lv_aload_n S.1 S.2.1 dM_check_14 rfl (lv_at hl 0 rfl) ?_
        refine lv_iload_n S.1 S.2.1 dM_check_15 rfl (lv_at hl 2 rfl) ?_
        obtain ⟨r17, z16, hc18, h⟩ := kb_cl_of h
        refine kb_calli (As := [.int x2]) (rest := []) (q0 := 0) (ci := 3) S w (fun sz => cM_isBank l D cI cZ a _ _ _ sz x2 hc18) Y_M_isBank I_M_isBank S_M_isBank lM_103 ⟨rfl, rfl, Nat.le_of_ble_eq_true rfl, Nat.le_of_ble_eq_true rfl⟩ rfl rfl rfl rfl hl.1 rfl (Nat.le_of_ble_eq_true rfl) dM_check_16 ⟨Nat.le_of_ble_eq_true rfl, Nat.le_of_ble_eq_true rfl⟩ (fun H locs w => ?_)
        refine lv_if_eq (tgt := 43) S.1 S.2.1 dM_check_19 (by decide) (fun hc => ?_) (fun hc => ?_)
        · have h := (kb_brt hc).symm.trans h
          exact J43 x1 x2 x3 z16 _ _ _ (lv_sub hl [0, 1, 2, 3] rfl) w h
        · have h := (kb_brf hc).symm.trans h
          exact J22 x1 x2 x3 z16 _ _ _ (lv_sub hl [0, 1, 2, 3] rfl) w h
set_option maxHeartbeats 4000000 in
set_option maxRecDepth 100000 in
theorem cM_pause (l : Launch) (D : va_G) (cI cZ : ClassId) (a : Nat → Nat) (z0 z' : kb_S) (r : Int32) (sz : Nat) (x1 : Int32) (h : pM_pause x1 z0 = some (r, z')) : Met l y_M_pause (Cond.code y_M_pause c_M_pause 2 (some .int) :: wsB) rm_M_pause (kb_Pc D vwCl [(cI, .int), (cZ, .boolean)] sz [.ref (a 0), .int x1] (mW cI cZ a z0)) (kb_Qi D vwCl sz (mW cI cZ a z0) r (mW cI cZ a z')) 0 0 (va_A (mW cI cZ a z0) sz) := by
  refine kb_start (by decide) rfl (Nat.le_of_ble_eq_true rfl) ?_
  intro p e s m args below meth c A ls S hr hlk hsz hA w hl
  have hl : lv_has ls 2 [(0, .ref (a 0)), (1, .int x1)] := hl
  unfold pM_pause at h
  have J17 : ∀ (x1 : Int32) (s0 : Int32) (z : kb_S) (H : Heap) (locs : List Loc) (ls : Array Slot), lv_has ls 2 [(0, .ref (a 0)), (1, .int x1)] → kb_W D vwCl [(cI, .int), (cZ, .boolean)] A s H locs (mW cI cZ a z) → pM_pause_J17 x1 s0 z = some (r, z') → W p l e rm_M_pause s m args below meth c H locs 0 0 (MQ below (kb_Qi D vwCl sz (mW cI cZ a z0) r (mW cI cZ a z')) args s 0 0 (va_A (mW cI cZ a z0) sz)) (F0 m 17 ls [.int s0, .ref (a 0)]) := by
    intro x1 s0 z H locs ls hl w h
    unfold pM_pause_J17 at h
    obtain ⟨z1, hz2, h⟩ := kb_st_of h
    refine kb_puti S w 0 rfl gM_81 (Nat.le_of_ble_eq_true rfl) (ws1 := mW cI cZ a z1) (by rw [hz2]; rfl) dM_pause_17 (fun H locs w => ?_)
    refine lv_aload_n S.1 S.2.1 dM_pause_20 rfl (lv_at hl 0 rfl) ?_
    refine kb_get S w 0 rfl fM_81 rfl dM_pause_21 ?_
    refine W.eq (g2 := F0 m 24 ls [.int (z1 0 0)]) rfl ?_
    refine lv_if_eq (tgt := 29) S.1 S.2.1 dM_pause_24 (by decide) (fun hc => ?_) (fun hc => ?_)
    · have h := (kb_brt hc).symm.trans h
      refine lv_aload_n S.1 S.2.1 dM_pause_29 rfl (lv_at hl 0 rfl) ?_
      refine kb_get S w 0 rfl fM_34 rfl dM_pause_30 ?_
      refine W.eq (g2 := F0 m 33 ls [.ref (a 9)]) rfl ?_
      refine lv_iconst (v := 1) S.1 S.2.1 dM_pause_33 (by decide) ?_
      refine lv_aload_n S.1 S.2.1 dM_pause_34 rfl (lv_at hl 0 rfl) ?_
      refine kb_get S w 0 rfl fM_34 rfl dM_pause_35 ?_
      refine W.eq (g2 := F0 m 38 ls [.ref (a 9), .int 1, .ref (a 9)]) rfl ?_
      refine lv_iconst (v := 1) S.1 S.2.1 dM_pause_38 (by decide) ?_
      obtain ⟨hi3, h⟩ := kb_ck_of h
      refine kb_iald S w 9 0 rfl rfl hi3 dM_pause_39 ?_
      refine W.eq (g2 := F0 m 40 ls [.int (z1 9 (kb_ix (1))), .int 1, .ref (a 9)]) rfl ?_
      refine lv_iload_n S.1 S.2.1 dM_pause_40 rfl (lv_at hl 1 rfl) ?_
      refine lv_iadd S.1 S.2.1 dM_pause_41 ?_
      obtain ⟨hi4, h⟩ := kb_ck_of h
      obtain ⟨z5, hz6, h⟩ := kb_st_of h
      refine kb_iast S w 9 0 rfl rfl hi4 (ws1 := mW cI cZ a z5) (by rw [hz6]; rfl) dM_pause_42 (fun H locs w => ?_)
      refine lv_aload_n S.1 S.2.1 dM_pause_43 rfl (lv_at hl 0 rfl) ?_
      refine kb_get S w 0 rfl fM_34 rfl dM_pause_44 ?_
      refine W.eq (g2 := F0 m 47 ls [.ref (a 9)]) rfl ?_
      refine lv_iconst (v := 1) S.1 S.2.1 dM_pause_47 (by decide) ?_
      obtain ⟨hi7, h⟩ := kb_ck_of h
      refine kb_iald S w 9 0 rfl rfl hi7 dM_pause_48 ?_
      refine W.eq (g2 := F0 m 49 ls [.int (z5 9 (kb_ix (1)))]) rfl ?_
      exact kb_iret (mW cI cZ a) S hr hlk hA w h dM_pause_49
    · have h := (kb_brf hc).symm.trans h
      refine lv_iconst (v := 0) S.1 S.2.1 dM_pause_27 (by decide) ?_
      exact kb_iret (mW cI cZ a) S hr hlk hA w h dM_pause_28
  have J12 : ∀ (x1 : Int32) (z : kb_S) (H : Heap) (locs : List Loc) (ls : Array Slot), lv_has ls 2 [(0, .ref (a 0)), (1, .int x1)] → kb_W D vwCl [(cI, .int), (cZ, .boolean)] A s H locs (mW cI cZ a z) → pM_pause_J12 x1 z = some (r, z') → W p l e rm_M_pause s m args below meth c H locs 0 0 (MQ below (kb_Qi D vwCl sz (mW cI cZ a z0) r (mW cI cZ a z')) args s 0 0 (va_A (mW cI cZ a z0) sz)) (F0 m 12 ls [.ref (a 0)]) := by
    intro x1 z H locs ls hl w h
    unfold pM_pause_J12 at h
    refine lv_iconst (v := 1) S.1 S.2.1 dM_pause_12 (by decide) ?_
    refine lv_goto (tgt := 17) S.1 S.2.1 dM_pause_13 (by decide) ?_
    exact J17 x1 1 z _ _ _ (lv_sub hl [0, 1] rfl) w h
  refine lv_aload_n S.1 S.2.1 dM_pause_0 rfl (lv_at hl 0 rfl) ?_
  refine lv_iload_n S.1 S.2.1 dM_pause_1 rfl (lv_at hl 1 rfl) ?_
  refine lv_if_lt (tgt := 12) S.1 S.2.1 dM_pause_2 (by decide) (fun hc => ?_) (fun hc => ?_)
  · have h := (kb_brt hc).symm.trans h
    exact J12 x1 z0 _ _ _ (lv_sub hl [0, 1] rfl) w h
  · have h := (kb_brf hc).symm.trans h
    refine lv_iload_n S.1 S.2.1 dM_pause_5 rfl (lv_at hl 1 rfl) ?_
    refine lv_sipush (v := 1000) S.1 S.2.1 dM_pause_6 (by decide) ?_
    refine lv_icmp_le (tgt := 16) S.1 S.2.1 dM_pause_9 (by decide) (fun hc => ?_) (fun hc => ?_)
    · have h := (kb_brt hc).symm.trans h
      refine lv_iconst (v := 0) S.1 S.2.1 dM_pause_16 (by decide) ?_
      exact J17 x1 0 z0 _ _ _ (lv_sub hl [0, 1] rfl) w h
    · have h := (kb_brf hc).symm.trans h
      exact J12 x1 z0 _ _ _ (lv_sub hl [0, 1] rfl) w h
end
section
/-! the pure functions of the class, laid by wip/whole/layB.py -/
abbrev kc_S : Type := (Nat → Nat → Int32) × (Nat → Nat) × (Nat → Nat → Int32)
def kc_set (z : kc_S) (k j : Nat) (v : Int32) : kc_S := (kb_up z.1 k j v, z.2)
def kc_setQ (z : kc_S) (k v : Nat) : kc_S := (z.1, va_up z.2.1 k v, z.2.2)
def kc_upR (rq : Nat → Nat → Int32) (x j : Nat) (v : Int32) : Nat → Nat → Int32 := fun y => if y = x then upd (rq x) j v else rq y
def kc_setR (z : kc_S) (x j : Nat) (v : Int32) : kc_S := (z.1, z.2.1, kc_upR z.2.2 x j v)
def kc_F (rq : Nat → Nat → Int32) : Nat → va_E := fun x => .inr (1, [.int (rq x 0), .int (rq x 1), .int (rq x 2), .int (rq x 3), .int (rq x 4), .int (rq x 5), .int (rq x 6)])
def bX (cI cQ : ClassId) (a : Nat → Nat) (nb Q : Nat) (z : kc_S) : va_W := [(a 0, .inr (2, [.int (z.1 0 0), .ref (a 1), .ref (a 2), .ref (a 3), .ref (a 11), .ref (a 21), .int (z.1 0 1), .int (z.1 0 2), .int (z.1 0 3), .ref (a 19), .ref (a 20)])),
  (a 1, .inl (cI, 12, .inl (z.1 1))),
  (a 2, .inl (cI, nb * 128, .inl (z.1 2))),
  (a 3, .inr (0, [.ref (a 1), .ref (a 4), .ref (a 5), .ref (a 6), .ref (a 7), .ref (a 8), .ref (a 9), .ref (a 10), .int (z.1 3 0), .int (z.1 3 1), .int (z.1 3 2), .int (z.1 3 3)])),
  (a 4, .inl (cI, nb, .inl (z.1 4))),
  (a 5, .inl (cI, nb, .inl (z.1 5))),
  (a 6, .inl (cI, nb, .inl (z.1 6))),
  (a 7, .inl (cI, nb, .inl (z.1 7))),
  (a 8, .inl (cI, nb, .inl (z.1 8))),
  (a 9, .inl (cI, 4, .inl (z.1 9))),
  (a 10, .inl (cI, 5, .inl (z.1 10))),
  (a 11, .inr (0, [.ref (a 1), .ref (a 12), .ref (a 13), .ref (a 14), .ref (a 15), .ref (a 16), .ref (a 17), .ref (a 18), .int (z.1 11 0), .int (z.1 11 1), .int (z.1 11 2), .int (z.1 11 3)])),
  (a 12, .inl (cI, nb, .inl (z.1 12))),
  (a 13, .inl (cI, nb, .inl (z.1 13))),
  (a 14, .inl (cI, nb, .inl (z.1 14))),
  (a 15, .inl (cI, nb, .inl (z.1 15))),
  (a 16, .inl (cI, nb, .inl (z.1 16))),
  (a 17, .inl (cI, 4, .inl (z.1 17))),
  (a 18, .inl (cI, 5, .inl (z.1 18))),
  (a 19, .inl (cI, 32, .inl (z.1 19))),
  (a 20, .inl (cI, 32, .inl (z.1 20))),
  (a 21, .inl (cQ, Q, .inr (.inr (.inr (.inr (fun i => some (z.2.1 i)))))))]
abbrev bW (cI cQ : ClassId) (a : Nat → Nat) (nb Q : Nat) (L : List Nat) (z : kc_S) : va_W := bX cI cQ a nb Q z ++ va_pl L (kc_F z.2.2)
theorem kc_setQ_eq {cI cQ : ClassId} {a : Nat → Nat} {nb Q : Nat} {L : List Nat} {z : kc_S} {k v : Nat} : (bW cI cQ a nb Q L z).set 21 (a 21, .inl (cQ, Q, .inr (.inr (.inr (.inr (va_up (fun i => some (z.2.1 i)) k (some v))))))) = bW cI cQ a nb Q L (kc_setQ z k v) := by
  have e : va_up (fun i => some (z.2.1 i)) k (some v) = fun i => some (va_up z.2.1 k v i) := by
    funext i
    unfold va_up
    split <;> rfl
  rw [e]
  rfl
theorem kc_F_put {rq : Nat → Nat → Int32} {x j : Nat} {v : Int32} (hj : j < 7) : va_up (kc_F rq) x (.inr (1, [.int (rq x 0), .int (rq x 1), .int (rq x 2), .int (rq x 3), .int (rq x 4), .int (rq x 5), .int (rq x 6)].set j (.int v))) = kc_F (kc_upR rq x j v) := by
  funext y
  by_cases h : y = x
  · subst h
    have hj' : j = 0 ∨ j = 1 ∨ j = 2 ∨ j = 3 ∨ j = 4 ∨ j = 5 ∨ j = 6 := by omega
    rcases hj' with rfl | rfl | rfl | rfl | rfl | rfl | rfl <;> simp [va_up, kc_F, kc_upR, upd]
  · simp [va_up, kc_F, kc_upR, h]
theorem kc_put {cI cQ : ClassId} {a : Nat → Nat} {nb Q : Nat} {L : List Nat} {z : kc_S} {A : Nat → Prop} {x k j : Nat} {v : Int32} (hj : j < 7) (hD : va_D A (bW cI cQ a nb Q L z)) (hm : x ∈ L) (hk : (bX cI cQ a nb Q z ++ va_pl L (kc_F z.2.2))[k]? = some (x, kc_F z.2.2 x)) :
    (bW cI cQ a nb Q L z).set k (x, .inr (1, [.int (z.2.2 x 0), .int (z.2.2 x 1), .int (z.2.2 x 2), .int (z.2.2 x 3), .int (z.2.2 x 4), .int (z.2.2 x 5), .int (z.2.2 x 6)].set j (.int v))) = bW cI cQ a nb Q L (kc_setR z x j v) := by
  have h := va_pl_set (e := .inr (1, [.int (z.2.2 x 0), .int (z.2.2 x 1), .int (z.2.2 x 2), .int (z.2.2 x 3), .int (z.2.2 x 4), .int (z.2.2 x 5), .int (z.2.2 x 6)].set j (.int v))) hD hm hk
  rw [kc_F_put hj] at h
  exact h
noncomputable def pC_hasBank (b nb Q : Nat) (L : List Nat) (x1 : Int32) (z0 : kc_S) : Option (Int32 × kc_S) := kb_br (x1 < 0) (some (0, z0)) (kb_br ((nI nb) ≤ x1) (some (0, z0)) (some (1, z0)))
noncomputable def pB_isRow (nb Q : Nat) (L : List Nat) (x0 : Int32) (z0 : kc_S) : Option (Int32 × kc_S) := kb_br (x0 < 0) (some (0, z0)) (kb_br (16 ≤ x0) (some (0, z0)) (some (1, z0)))
noncomputable def pB_wordPlace (nb Q : Nat) (L : List Nat) (x0 : Int32) (x1 : Int32) (x2 : Int32) (z0 : kc_S) : Option (Int32 × kc_S) := some ((((x0 * 16) + x1) * 8) + x2, z0)
noncomputable def pB_enqueue (nb Q : Nat) (L : List Nat) (x1 : Int32) (x2 : Int32) (x3 : Int32) (x4 : Int32) (x5 : Int32) (z0 : kc_S) : Option (Int32 × kc_S) := kb_ck (vp_in (z0.1 0 1) Q) (kb_ck (z0.2.1 (kb_ix (z0.1 0 1)) ∈ L) (kb_st (kc_setR z0 (z0.2.1 (kb_ix (z0.1 0 1))) 0 (x1)) (fun z2 => kb_ck (z0.2.1 (kb_ix (z0.1 0 1)) ∈ L) (kb_st (kc_setR z2 (z0.2.1 (kb_ix (z0.1 0 1))) 1 (x2)) (fun z7 => kb_ck (z0.2.1 (kb_ix (z0.1 0 1)) ∈ L) (kb_st (kc_setR z7 (z0.2.1 (kb_ix (z0.1 0 1))) 2 (x3)) (fun z12 => kb_cl (pB_wordPlace nb Q L x2 x3 x4 z12) (fun r18 z17 => kb_ck (z0.2.1 (kb_ix (z0.1 0 1)) ∈ L) (kb_st (kc_setR z17 (z0.2.1 (kb_ix (z0.1 0 1))) 3 (r18)) (fun z20 => kb_ck (z0.2.1 (kb_ix (z0.1 0 1)) ∈ L) (kb_st (kc_setR z20 (z0.2.1 (kb_ix (z0.1 0 1))) 4 (x5)) (fun z25 => kb_ck (z0.2.1 (kb_ix (z0.1 0 1)) ∈ L) (kb_st (kc_setR z25 (z0.2.1 (kb_ix (z0.1 0 1))) 5 (z25.1 0 2)) (fun z30 => kb_ck (z0.2.1 (kb_ix (z0.1 0 1)) ∈ L) (kb_st (kc_setR z30 (z0.2.1 (kb_ix (z0.1 0 1))) 6 (z30.1 3 3)) (fun z35 => kb_st (kc_set z35 0 1 ((z35.1 0 1) + 1)) (fun z40 => kb_st (kc_set z40 0 2 ((z40.1 0 2) + 1)) (fun z42 => kb_ck (z0.2.1 (kb_ix (z0.1 0 1)) ∈ L) (kb_ck (vp_in ((z42.2.2 (z0.2.1 (kb_ix (z0.1 0 1))) 5) &&& 31) 32) (kb_st (kc_set z42 20 (kb_ix ((z42.2.2 (z0.2.1 (kb_ix (z0.1 0 1))) 5) &&& 31)) (2147483647)) (fun z48 => kb_ck (z0.2.1 (kb_ix (z0.1 0 1)) ∈ L) (some (z48.2.2 (z0.2.1 (kb_ix (z0.1 0 1))) 5, z48)))))))))))))))))))))))
noncomputable def pB_refreshIsDue_J22 (nb Q : Nat) (L : List Nat) (s0 : Int32) (z : kc_S) : Option (Int32 × kc_S) := kb_ck (vp_in (10) 12) (kb_br (((z.1 3 3) - s0) < (z.1 1 (kb_ix (10)))) (some (0, z)) (some (1, z)))
noncomputable def pB_refreshIsDue (nb Q : Nat) (L : List Nat) (z0 : kc_S) : Option (Int32 × kc_S) := kb_br ((z0.1 3 2) = (-1)) (pB_refreshIsDue_J22 nb Q L 0 z0) (pB_refreshIsDue_J22 nb Q L (z0.1 3 2) z0)
noncomputable def pC_isTooSoon (b nb Q : Nat) (L : List Nat) (x1 : Int32) (x2 : Int32) (z0 : kc_S) : Option (Int32 × kc_S) := kb_br (x2 = (-1)) (some (0, z0)) (kb_ck (vp_in (x1) 12) (kb_br ((z0.1 1 (kb_ix (x1))) ≤ ((z0.1 b 3) - x2)) (some (0, z0)) (some (1, z0))))
noncomputable def pC_brokenByRefresh_L32 (b nb Q : Nat) (L : List Nat) : Nat → Int32 → kc_S → Option (Int32 × kc_S)
  | 0, _, _ => none
  | n + 1, x1, z => kb_br ((nI nb) ≤ x1) (kb_cl (pC_isTooSoon b nb Q L 9 (z.1 b 2) z) (fun r2 z1 => kb_br (r2 = 0) (some (0, z1)) (some (16, z1)))) (kb_ck (vp_in (x1) nb) (kb_cl (pC_isTooSoon b nb Q L 1 (z.1 (b + 3) (kb_ix (x1))) z) (fun r6 z5 => kb_br (r6 = 0) (pC_brokenByRefresh_L32 b nb Q L n (x1 + 1) z5) (some (15, z5)))))
noncomputable def pC_brokenByRefresh_L2 (b nb Q : Nat) (L : List Nat) : Nat → Int32 → kc_S → Option (Int32 × kc_S)
  | 0, _, _ => none
  | n + 1, x1, z => kb_br ((nI nb) ≤ x1) (pC_brokenByRefresh_L32 b nb Q L 3000 0 z) (kb_ck (vp_in (x1) nb) (kb_br ((z.1 (b + 1) (kb_ix (x1))) = (-1)) (pC_brokenByRefresh_L2 b nb Q L n (x1 + 1) z) (some (14, z))))
noncomputable def pC_brokenByRefresh (b nb Q : Nat) (L : List Nat) (z0 : kc_S) : Option (Int32 × kc_S) := pC_brokenByRefresh_L2 b nb Q L 3000 0 z0
noncomputable def pC_give (b nb Q : Nat) (L : List Nat) (x1 : Int32) (x2 : Int32) (x3 : Int32) (z0 : kc_S) : Option (Int32 × kc_S) := kb_ck (vp_in (x1) 5) (kb_ck (vp_in (x1) 5) (kb_st (kc_set z0 (b + 7) (kb_ix (x1)) ((z0.1 (b + 7) (kb_ix (x1))) + 1)) (fun z3 => kb_br ((x1).toInt = 0) (kb_ck (vp_in (z3.1 b 0) 4) (kb_st (kc_set z3 (b + 6) (kb_ix (z3.1 b 0)) (z3.1 b 3)) (fun z6 => kb_st (kc_set z6 b 0 (((z6.1 b 0) + 1) - ((z6.1 b 0) + 1) / 4 * 4)) (fun z8 => kb_ck (vp_in (x2) nb) (kb_st (kc_set z8 (b + 2) (kb_ix (x2)) (z8.1 b 3)) (fun z11 => kb_ck (vp_in (x2) nb) (kb_st (kc_set z11 (b + 1) (kb_ix (x2)) (x3)) (fun z14 => some (0, z14))))))))) (kb_br ((x1).toInt = 1) (kb_ck (vp_in (x2) nb) (kb_st (kc_set z3 (b + 3) (kb_ix (x2)) (z3.1 b 3)) (fun z17 => kb_ck (vp_in (x2) nb) (kb_st (kc_set z17 (b + 1) (kb_ix (x2)) ((-1))) (fun z20 => some (0, z20)))))) (kb_br ((x1).toInt = 2) (kb_ck (vp_in (x2) nb) (kb_st (kc_set z3 (b + 4) (kb_ix (x2)) (z3.1 b 3)) (fun z23 => kb_st (kc_set z23 b 1 (z23.1 b 3)) (fun z25 => some (0, z25))))) (kb_br ((x1).toInt = 3) (kb_ck (vp_in (x2) nb) (kb_st (kc_set z3 (b + 5) (kb_ix (x2)) (z3.1 b 3)) (fun z28 => kb_st (kc_set z28 b 1 (z28.1 b 3)) (fun z30 => some (0, z30))))) (kb_st (kc_set z3 b 2 (z3.1 b 3)) (fun z32 => some (0, z32)))))))))
noncomputable def pB_hasRow (nb Q : Nat) (L : List Nat) (x0 : Int32) (z0 : kc_S) : Option (Int32 × kc_S) := kb_br (x0 = 0) (some (1, z0)) (kb_br (x0 = 2) (some (1, z0)) (kb_br (x0 = 3) (some (1, z0)) (some (0, z0))))
noncomputable def pB_giveCommand_J33 (nb Q : Nat) (L : List Nat) (x1 : Int32) (x3 : Int32) (x4 : Int32) (z : kc_S) : Option (Int32 × kc_S) := kb_cl (pB_hasRow nb Q L x1 z) (fun r5 z4 => kb_br (r5 = 0) (some (x4, z4)) (some (x4 + x3, z4)))
noncomputable def pB_giveCommand (nb Q : Nat) (L : List Nat) (x1 : Int32) (x2 : Int32) (x3 : Int32) (z0 : kc_S) : Option (Int32 × kc_S) := kb_cl (pC_give 3 nb Q L x1 x2 x3 z0) (fun r2 z1 => kb_br (x1 = 4) (pB_giveCommand_J33 nb Q L x1 x3 (1000 * (x1 + 1)) z1) (pB_giveCommand_J33 nb Q L x1 x3 ((1000 * (x1 + 1)) + (100 * x2)) z1))
noncomputable def pC_brokenByClose (b nb Q : Nat) (L : List Nat) (x1 : Int32) (z0 : kc_S) : Option (Int32 × kc_S) := kb_ck (vp_in (x1) nb) (kb_br ((z0.1 (b + 1) (kb_ix (x1))) = (-1)) (some (7, z0)) (kb_ck (vp_in (x1) nb) (kb_cl (pC_isTooSoon b nb Q L 2 (z0.1 (b + 2) (kb_ix (x1))) z0) (fun r4 z3 => kb_br (r4 = 0) (kb_ck (vp_in (x1) nb) (kb_cl (pC_isTooSoon b nb Q L 4 (z3.1 (b + 5) (kb_ix (x1))) z3) (fun r8 z7 => kb_br (r8 = 0) (kb_ck (vp_in (x1) nb) (kb_cl (pC_isTooSoon b nb Q L 5 (z7.1 (b + 4) (kb_ix (x1))) z7) (fun r12 z11 => kb_br (r12 = 0) (some (0, z11)) (some (10, z11))))) (some (9, z7))))) (some (8, z3))))))
noncomputable def pB_giveRefreshing_L20 (nb Q : Nat) (L : List Nat) : Nat → Int32 → kc_S → Option (Int32 × kc_S)
  | 0, _, _ => none
  | n + 1, x1, z => kb_br ((nI nb) ≤ x1) (some (0, z)) (kb_cl (pC_brokenByClose 3 nb Q L x1 z) (fun r5 z4 => kb_br (r5 = 0) (kb_cl (pB_giveCommand nb Q L 1 x1 0 z4) (fun r8 z7 => some (r8, z7))) (pB_giveRefreshing_L20 nb Q L n (x1 + 1) z4)))
noncomputable def pB_giveRefreshing (nb Q : Nat) (L : List Nat) (z0 : kc_S) : Option (Int32 × kc_S) := kb_cl (pC_brokenByRefresh 3 nb Q L  z0) (fun r2 z1 => kb_br (r2 = 0) (kb_cl (pB_giveCommand nb Q L 4 0 0 z1) (fun r11 z10 => some (r11, z10))) (pB_giveRefreshing_L20 nb Q L 3000 0 z1))
noncomputable def pB_hasWaitedLong (nb Q : Nat) (L : List Nat) (x1 : Nat) (z0 : kc_S) : Option (Int32 × kc_S) := kb_ck (x1 ∈ L) (kb_br (((z0.1 3 3) - (z0.2.2 x1 6)) < (z0.1 0 0)) (some (0, z0)) (some (1, z0)))
noncomputable def pB_countLookedAt (nb Q : Nat) (L : List Nat) (z0 : kc_S) : Option (Int32 × kc_S) := kb_br ((z0.1 0 1) ≤ 0) (some (z0.1 0 1, z0)) (kb_ck (vp_in (0) Q) (kb_cl (pB_hasWaitedLong nb Q L (z0.2.1 (kb_ix (0))) z0) (fun r3 z2 => kb_br (r3 = 0) (some (z2.1 0 1, z2)) (some (1, z2)))))
noncomputable def pC_brokenByAccess (b nb Q : Nat) (L : List Nat) (x1 : Int32) (x2 : Int32) (z0 : kc_S) : Option (Int32 × kc_S) := kb_ck (vp_in (x1) nb) (kb_br ((z0.1 (b + 1) (kb_ix (x1))) = x2) (kb_ck (vp_in (x1) nb) (kb_cl (pC_isTooSoon b nb Q L 0 (z0.1 (b + 2) (kb_ix (x1))) z0) (fun r4 z3 => kb_br (r4 = 0) (kb_cl (pC_isTooSoon b nb Q L 6 (z3.1 b 1) z3) (fun r7 z6 => kb_br (r7 = 0) (some (0, z6)) (some (13, z6)))) (some (12, z3))))) (some (11, z0)))
noncomputable def pB_hasOlderForWord_L2 (nb Q : Nat) (L : List Nat) : Nat → Int32 → Int32 → kc_S → Option (Int32 × kc_S)
  | 0, _, _, _ => none
  | n + 1, x1, x2, z => kb_br (x1 ≤ x2) (some (0, z)) (kb_ck (vp_in (x2) Q) (kb_ck (z.2.1 (kb_ix (x2)) ∈ L) (kb_ck (vp_in (x1) Q) (kb_ck (z.2.1 (kb_ix (x1)) ∈ L) (kb_br ((z.2.2 (z.2.1 (kb_ix (x2))) 3) = (z.2.2 (z.2.1 (kb_ix (x1))) 3)) (some (1, z)) (pB_hasOlderForWord_L2 nb Q L n x1 (x2 + 1) z))))))
noncomputable def pB_hasOlderForWord (nb Q : Nat) (L : List Nat) (x1 : Int32) (z0 : kc_S) : Option (Int32 × kc_S) := pB_hasOlderForWord_L2 nb Q L 3000 x1 0 z0
noncomputable def pB_findHit_L2 (nb Q : Nat) (L : List Nat) : Nat → Int32 → Int32 → kc_S → Option (Int32 × kc_S)
  | 0, _, _, _ => none
  | n + 1, x1, x2, z => kb_br (x1 ≤ x2) (some ((-1), z)) (kb_ck (vp_in (x2) Q) (kb_ck (z.2.1 (kb_ix (x2)) ∈ L) (kb_ck (z.2.1 (kb_ix (x2)) ∈ L) (kb_cl (pC_brokenByAccess 3 nb Q L (z.2.2 (z.2.1 (kb_ix (x2))) 1) (z.2.2 (z.2.1 (kb_ix (x2))) 2) z) (fun r9 z8 => kb_br (r9 = 0) (kb_cl (pB_hasOlderForWord nb Q L x2 z8) (fun r12 z11 => kb_br (r12 = 0) (some (x2, z11)) (pB_findHit_L2 nb Q L n x1 (x2 + 1) z11))) (pB_findHit_L2 nb Q L n x1 (x2 + 1) z8))))))
noncomputable def pB_findHit (nb Q : Nat) (L : List Nat) (x1 : Int32) (z0 : kc_S) : Option (Int32 × kc_S) := pB_findHit_L2 nb Q L 3000 x1 0 z0
noncomputable def pB_hasOlderForBank_L2 (nb Q : Nat) (L : List Nat) : Nat → Int32 → Int32 → kc_S → Option (Int32 × kc_S)
  | 0, _, _, _ => none
  | n + 1, x1, x2, z => kb_br (x1 ≤ x2) (some (0, z)) (kb_ck (vp_in (x2) Q) (kb_ck (z.2.1 (kb_ix (x2)) ∈ L) (kb_ck (vp_in (x1) Q) (kb_ck (z.2.1 (kb_ix (x1)) ∈ L) (kb_br ((z.2.2 (z.2.1 (kb_ix (x2))) 1) = (z.2.2 (z.2.1 (kb_ix (x1))) 1)) (some (1, z)) (pB_hasOlderForBank_L2 nb Q L n x1 (x2 + 1) z))))))
noncomputable def pB_hasOlderForBank (nb Q : Nat) (L : List Nat) (x1 : Int32) (z0 : kc_S) : Option (Int32 × kc_S) := pB_hasOlderForBank_L2 nb Q L 3000 x1 0 z0
noncomputable def pC_isTooSoonForOthers_L2 (b nb Q : Nat) (L : List Nat) : Nat → Int32 → Int32 → kc_S → Option (Int32 × kc_S)
  | 0, _, _, _ => none
  | n + 1, x1, x2, z => kb_br ((nI nb) ≤ x2) (some (0, z)) (kb_br (x2 = x1) (pC_isTooSoonForOthers_L2 b nb Q L n x1 (x2 + 1) z) (kb_ck (vp_in (x2) nb) (kb_cl (pC_isTooSoon b nb Q L 7 (z.1 (b + 2) (kb_ix (x2))) z) (fun r3 z2 => kb_br (r3 = 0) (pC_isTooSoonForOthers_L2 b nb Q L n x1 (x2 + 1) z2) (some (1, z2))))))
noncomputable def pC_isTooSoonForOthers (b nb Q : Nat) (L : List Nat) (x1 : Int32) (z0 : kc_S) : Option (Int32 × kc_S) := pC_isTooSoonForOthers_L2 b nb Q L 3000 x1 0 z0
noncomputable def pC_brokenByOpen (b nb Q : Nat) (L : List Nat) (x1 : Int32) (z0 : kc_S) : Option (Int32 × kc_S) := kb_ck (vp_in (x1) nb) (kb_br ((z0.1 (b + 1) (kb_ix (x1))) = (-1)) (kb_ck (vp_in (x1) nb) (kb_cl (pC_isTooSoon b nb Q L 1 (z0.1 (b + 3) (kb_ix (x1))) z0) (fun r4 z3 => kb_br (r4 = 0) (kb_ck (vp_in (x1) nb) (kb_cl (pC_isTooSoon b nb Q L 3 (z3.1 (b + 2) (kb_ix (x1))) z3) (fun r8 z7 => kb_br (r8 = 0) (kb_cl (pC_isTooSoonForOthers b nb Q L x1 z7) (fun r11 z10 => kb_br (r11 = 0) (kb_ck (vp_in (z10.1 b 0) 4) (kb_cl (pC_isTooSoon b nb Q L 8 (z10.1 (b + 6) (kb_ix (z10.1 b 0))) z10) (fun r15 z14 => kb_br (r15 = 0) (kb_cl (pC_isTooSoon b nb Q L 9 (z14.1 b 2) z14) (fun r18 z17 => kb_br (r18 = 0) (some (0, z17)) (some (6, z17)))) (some (5, z14))))) (some (4, z10)))) (some (3, z7))))) (some (2, z3))))) (some (1, z0)))
noncomputable def pB_isWanted_L3 (nb Q : Nat) (L : List Nat) : Nat → Int32 → Int32 → Int32 → Int32 → kc_S → Option (Int32 × kc_S)
  | 0, _, _, _, _, _ => none
  | n + 1, x1, x2, x3, x4, z => kb_br (x3 ≤ x4) (some (0, z)) (kb_ck (vp_in (x4) Q) (kb_ck (z.2.1 (kb_ix (x4)) ∈ L) (kb_br ((z.2.2 (z.2.1 (kb_ix (x4))) 1) = x1) (kb_ck (vp_in (x4) Q) (kb_ck (z.2.1 (kb_ix (x4)) ∈ L) (kb_br ((z.2.2 (z.2.1 (kb_ix (x4))) 2) = x2) (some (1, z)) (pB_isWanted_L3 nb Q L n x1 x2 x3 (x4 + 1) z)))) (pB_isWanted_L3 nb Q L n x1 x2 x3 (x4 + 1) z))))
noncomputable def pB_isWanted (nb Q : Nat) (L : List Nat) (x1 : Int32) (x2 : Int32) (x3 : Int32) (z0 : kc_S) : Option (Int32 × kc_S) := pB_isWanted_L3 nb Q L 3000 x1 x2 x3 0 z0
noncomputable def pB_giveWay_L2 (nb Q : Nat) (L : List Nat) : Nat → Int32 → Int32 → kc_S → Option (Int32 × kc_S)
  | 0, _, _, _ => none
  | n + 1, x1, x2, z => kb_br (x1 ≤ x2) (some (0, z)) (kb_ck (vp_in (x2) Q) (kb_cl (pB_hasOlderForBank nb Q L x2 z) (fun r3 z2 => kb_br (r3 = 0) (kb_ck (z.2.1 (kb_ix (x2)) ∈ L) (kb_ck (vp_in (z2.2.2 (z.2.1 (kb_ix (x2))) 1) nb) (kb_br ((z2.1 4 (kb_ix (z2.2.2 (z.2.1 (kb_ix (x2))) 1))) = (-1)) (kb_ck (z.2.1 (kb_ix (x2)) ∈ L) (kb_cl (pC_brokenByOpen 3 nb Q L (z2.2.2 (z.2.1 (kb_ix (x2))) 1) z2) (fun r31 z30 => kb_br (r31 = 0) (kb_ck (z.2.1 (kb_ix (x2)) ∈ L) (kb_ck (z.2.1 (kb_ix (x2)) ∈ L) (kb_cl (pB_giveCommand nb Q L 0 (z30.2.2 (z.2.1 (kb_ix (x2))) 1) (z30.2.2 (z.2.1 (kb_ix (x2))) 2) z30) (fun r40 z39 => some (r40, z39))))) (pB_giveWay_L2 nb Q L n x1 (x2 + 1) z30)))) (kb_ck (z.2.1 (kb_ix (x2)) ∈ L) (kb_cl (pB_isWanted nb Q L (z2.2.2 (z.2.1 (kb_ix (x2))) 1) (z2.1 4 (kb_ix (z2.2.2 (z.2.1 (kb_ix (x2))) 1))) x1 z2) (fun r13 z12 => kb_br (r13 = 0) (kb_ck (z.2.1 (kb_ix (x2)) ∈ L) (kb_cl (pC_brokenByClose 3 nb Q L (z12.2.2 (z.2.1 (kb_ix (x2))) 1) z12) (fun r19 z18 => kb_br (r19 = 0) (kb_ck (z.2.1 (kb_ix (x2)) ∈ L) (kb_cl (pB_giveCommand nb Q L 1 (z18.2.2 (z.2.1 (kb_ix (x2))) 1) 0 z18) (fun r25 z24 => some (r25, z24)))) (pB_giveWay_L2 nb Q L n x1 (x2 + 1) z18)))) (pB_giveWay_L2 nb Q L n x1 (x2 + 1) z12))))))) (pB_giveWay_L2 nb Q L n x1 (x2 + 1) z2))))
noncomputable def pB_giveWay (nb Q : Nat) (L : List Nat) (x1 : Int32) (z0 : kc_S) : Option (Int32 × kc_S) := pB_giveWay_L2 nb Q L 3000 x1 0 z0
noncomputable def pB_dequeue_L11 (nb Q : Nat) (L : List Nat) : Nat → Nat → Int32 → kc_S → Option (Int32 × kc_S)
  | 0, _, _, _ => none
  | n + 1, x2, x3, z => kb_br ((z.1 0 1) ≤ x3) (kb_st (kc_set z 0 1 ((z.1 0 1) - 1)) (fun z2 => kb_ck (vp_in (z2.1 0 1) Q) (kb_ck (x2 ∈ L) (kb_st (kc_setQ z2 (kb_ix (z2.1 0 1)) (x2)) (fun z5 => some (0, z5)))))) (kb_ck (vp_in (x3) Q) (kb_ck (vp_in (x3 - 1) Q) (kb_ck (z.2.1 (kb_ix (x3)) ∈ L) (kb_st (kc_setQ z (kb_ix (x3 - 1)) (z.2.1 (kb_ix (x3)))) (fun z12 => pB_dequeue_L11 nb Q L n x2 (x3 + 1) z12)))))
noncomputable def pB_dequeue (nb Q : Nat) (L : List Nat) (x1 : Int32) (z0 : kc_S) : Option (Int32 × kc_S) := kb_ck (vp_in (x1) Q) (pB_dequeue_L11 nb Q L 3000 (z0.2.1 (kb_ix (x1))) (x1 + 1) z0)
noncomputable def pB_isKept (nb Q : Nat) (L : List Nat) (x1 : Int32) (z0 : kc_S) : Option (Int32 × kc_S) := kb_br (32 < ((z0.1 0 2) - x1)) (some (0, z0)) (some (1, z0))
noncomputable def pB_giveHit_J117 (nb Q : Nat) (L : List Nat) (x2 : Nat) (z : kc_S) : Option (Int32 × kc_S) := kb_ck (x2 ∈ L) (kb_ck (x2 ∈ L) (kb_ck (x2 ∈ L) (kb_cl (pB_giveCommand nb Q L (z.2.2 x2 0) (z.2.2 x2 1) (z.2.2 x2 2) z) (fun r28 z27 => some (r28, z27)))))
noncomputable def pB_giveHit_J72 (nb Q : Nat) (L : List Nat) (x2 : Nat) (x3 : Int32) (z : kc_S) : Option (Int32 × kc_S) := kb_ck (x2 ∈ L) (kb_cl (pB_isKept nb Q L (z.2.2 x2 5) z) (fun r16 z15 => kb_br (r16 = 0) (pB_giveHit_J117 nb Q L x2 z15) (kb_ck (x2 ∈ L) (kb_ck (x2 ∈ L) (kb_ck (vp_in (z15.2.2 x2 3) (nb * 128)) (kb_ck (vp_in ((z15.2.2 x2 5) &&& 31) 32) (kb_st (kc_set z15 19 (kb_ix ((z15.2.2 x2 5) &&& 31)) (z15.1 2 (kb_ix (z15.2.2 x2 3)))) (fun z38 => kb_ck (x2 ∈ L) (kb_ck (vp_in ((z38.2.2 x2 5) &&& 31) 32) (kb_st (kc_set z38 20 (kb_ix ((z38.2.2 x2 5) &&& 31)) (x3)) (fun z44 => pB_giveHit_J117 nb Q L x2 z44)))))))))))
noncomputable def pB_giveHit_J30 (nb Q : Nat) (L : List Nat) (x2 : Nat) (z : kc_S) : Option (Int32 × kc_S) := kb_ck (x2 ∈ L) (kb_br ((z.2.2 x2 0) = 3) (kb_ck (x2 ∈ L) (kb_ck (x2 ∈ L) (kb_ck (vp_in (z.2.2 x2 3) (nb * 128)) (kb_st (kc_set z 2 (kb_ix (z.2.2 x2 3)) (z.2.2 x2 4)) (fun z53 => pB_giveHit_J72 nb Q L x2 (z.1 3 3) z53))))) (kb_ck (vp_in (11) 12) (pB_giveHit_J72 nb Q L x2 ((z.1 3 3) + (z.1 1 (kb_ix (11)))) z)))
noncomputable def pB_giveHit (nb Q : Nat) (L : List Nat) (x1 : Int32) (z0 : kc_S) : Option (Int32 × kc_S) := kb_ck (vp_in (x1) Q) (kb_cl (pB_dequeue nb Q L x1 z0) (fun r3 z2 => kb_cl (pB_hasWaitedLong nb Q L (z0.2.1 (kb_ix (x1))) z2) (fun r6 z5 => kb_br (r6 = 0) (pB_giveHit_J30 nb Q L (z0.2.1 (kb_ix (x1))) z5) (kb_st (kc_set z5 0 3 ((z5.1 0 3) + 1)) (fun z55 => pB_giveHit_J30 nb Q L (z0.2.1 (kb_ix (x1))) z55)))))
noncomputable def pB_giveFirst (nb Q : Nat) (L : List Nat) (z0 : kc_S) : Option (Int32 × kc_S) := kb_cl (pB_refreshIsDue nb Q L  z0) (fun r2 z1 => kb_br (r2 = 0) (kb_cl (pB_countLookedAt nb Q L  z1) (fun r5 z4 => kb_cl (pB_findHit nb Q L r5 z4) (fun r8 z7 => kb_br (r8 = (-1)) (kb_cl (pB_giveWay nb Q L r5 z7) (fun r14 z13 => some (r14, z13))) (kb_cl (pB_giveHit nb Q L r8 z7) (fun r11 z10 => some (r11, z10)))))) (kb_cl (pB_giveRefreshing nb Q L  z1) (fun r17 z16 => some (r17, z16))))
noncomputable def pB_tick (nb Q : Nat) (L : List Nat) (z0 : kc_S) : Option (Int32 × kc_S) := kb_cl (pB_giveFirst nb Q L  z0) (fun r2 z1 => kb_st (kc_set z1 3 3 ((z1.1 3 3) + 1)) (fun z4 => some (r2, z4)))
noncomputable def pC_firstBroken (b nb Q : Nat) (L : List Nat) (x1 : Int32) (x2 : Int32) (x3 : Int32) (z0 : kc_S) : Option (Int32 × kc_S) := kb_br ((x1).toInt = 0) (kb_cl (pC_brokenByOpen b nb Q L x2 z0) (fun r2 z1 => some (r2, z1))) (kb_br ((x1).toInt = 1) (kb_cl (pC_brokenByClose b nb Q L x2 z0) (fun r5 z4 => some (r5, z4))) (kb_br ((x1).toInt = 2) (kb_cl (pC_brokenByAccess b nb Q L x2 x3 z0) (fun r8 z7 => some (r8, z7))) (kb_br ((x1).toInt = 3) (kb_cl (pC_brokenByAccess b nb Q L x2 x3 z0) (fun r11 z10 => some (r11, z10))) (kb_br ((x1).toInt = 4) (kb_cl (pC_brokenByRefresh b nb Q L  z0) (fun r14 z13 => some (r14, z13))) (kb_cl (pC_brokenByAccess b nb Q L x2 x3 z0) (fun r17 z16 => some (r17, z16)))))))
end
section
set_option maxHeartbeats 4000000 in
set_option maxRecDepth 100000 in
theorem cC_hasBank_3 (l : Launch) (D : va_G) (cI cQ : ClassId) (a : Nat → Nat) (nb Q : Nat) (L : List Nat) (z0 z' : kc_S) (r : Int32) (sz : Nat) (x1 : Int32) (h : pC_hasBank 3 nb Q L x1 z0 = some (r, z')) : Met l y_C_hasBank (Cond.code y_C_hasBank c_C_hasBank 2 (some .boolean) :: wsB) rm_C_hasBank (kb_Pc D vwCl [(cI, .int), (cQ, .object RReq)] sz [.ref (a 3), .int x1] (bW cI cQ a nb Q L z0)) (kb_Qi D vwCl sz (bW cI cQ a nb Q L z0) r (bW cI cQ a nb Q L z')) 0 0 (va_A (bW cI cQ a nb Q L z0) sz) := by
  refine kb_start (by decide) rfl (Nat.le_of_ble_eq_true rfl) ?_
  intro p e s m args below meth c A ls S hr hlk hsz hA w hl
  have hl : lv_has ls 2 [(0, .ref (a 3)), (1, .int x1)] := hl
  unfold pC_hasBank at h
  refine lv_iload_n S.1 S.2.1 dC_hasBank_0 rfl (lv_at hl 1 rfl) ?_
  refine lv_if_lt (tgt := 17) S.1 S.2.1 dC_hasBank_1 (by decide) (fun hc => ?_) (fun hc => ?_)
  · have h := (kb_brt hc).symm.trans h
    refine lv_iconst (v := 0) S.1 S.2.1 dC_hasBank_17 (by decide) ?_
    exact kb_zret (bW cI cQ a nb Q L) S hr hlk hA w h (by decide) dC_hasBank_18
  · have h := (kb_brf hc).symm.trans h
    refine lv_iload_n S.1 S.2.1 dC_hasBank_4 rfl (lv_at hl 1 rfl) ?_
    refine lv_aload_n S.1 S.2.1 dC_hasBank_5 rfl (lv_at hl 0 rfl) ?_
    refine kb_get S w 3 rfl fC_15 rfl dC_hasBank_6 ?_
    refine W.eq (g2 := F0 m 9 ls [.ref (a 4), .int x1]) rfl ?_
    refine kb_alen S w 4 0 rfl rfl rfl dC_hasBank_9 ?_
    refine W.eq (g2 := F0 m 10 ls [.int (nI nb), .int x1]) rfl ?_
    refine lv_icmp_ge (tgt := 17) S.1 S.2.1 dC_hasBank_10 (by decide) (fun hc => ?_) (fun hc => ?_)
    · have h := (kb_brt hc).symm.trans h
      refine lv_iconst (v := 0) S.1 S.2.1 dC_hasBank_17 (by decide) ?_
      exact kb_zret (bW cI cQ a nb Q L) S hr hlk hA w h (by decide) dC_hasBank_18
    · have h := (kb_brf hc).symm.trans h
      refine lv_iconst (v := 1) S.1 S.2.1 dC_hasBank_13 (by decide) ?_
      refine lv_goto (tgt := 18) S.1 S.2.1 dC_hasBank_14 (by decide) ?_
      exact kb_zret (bW cI cQ a nb Q L) S hr hlk hA w h (by decide) dC_hasBank_18
set_option maxHeartbeats 4000000 in
set_option maxRecDepth 100000 in
theorem cC_hasBank_11 (l : Launch) (D : va_G) (cI cQ : ClassId) (a : Nat → Nat) (nb Q : Nat) (L : List Nat) (z0 z' : kc_S) (r : Int32) (sz : Nat) (x1 : Int32) (h : pC_hasBank 11 nb Q L x1 z0 = some (r, z')) : Met l y_C_hasBank (Cond.code y_C_hasBank c_C_hasBank 2 (some .boolean) :: wsB) rm_C_hasBank (kb_Pc D vwCl [(cI, .int), (cQ, .object RReq)] sz [.ref (a 11), .int x1] (bW cI cQ a nb Q L z0)) (kb_Qi D vwCl sz (bW cI cQ a nb Q L z0) r (bW cI cQ a nb Q L z')) 0 0 (va_A (bW cI cQ a nb Q L z0) sz) := by
  refine kb_start (by decide) rfl (Nat.le_of_ble_eq_true rfl) ?_
  intro p e s m args below meth c A ls S hr hlk hsz hA w hl
  have hl : lv_has ls 2 [(0, .ref (a 11)), (1, .int x1)] := hl
  unfold pC_hasBank at h
  refine lv_iload_n S.1 S.2.1 dC_hasBank_0 rfl (lv_at hl 1 rfl) ?_
  refine lv_if_lt (tgt := 17) S.1 S.2.1 dC_hasBank_1 (by decide) (fun hc => ?_) (fun hc => ?_)
  · have h := (kb_brt hc).symm.trans h
    refine lv_iconst (v := 0) S.1 S.2.1 dC_hasBank_17 (by decide) ?_
    exact kb_zret (bW cI cQ a nb Q L) S hr hlk hA w h (by decide) dC_hasBank_18
  · have h := (kb_brf hc).symm.trans h
    refine lv_iload_n S.1 S.2.1 dC_hasBank_4 rfl (lv_at hl 1 rfl) ?_
    refine lv_aload_n S.1 S.2.1 dC_hasBank_5 rfl (lv_at hl 0 rfl) ?_
    refine kb_get S w 11 rfl fC_15 rfl dC_hasBank_6 ?_
    refine W.eq (g2 := F0 m 9 ls [.ref (a 12), .int x1]) rfl ?_
    refine kb_alen S w 12 0 rfl rfl rfl dC_hasBank_9 ?_
    refine W.eq (g2 := F0 m 10 ls [.int (nI nb), .int x1]) rfl ?_
    refine lv_icmp_ge (tgt := 17) S.1 S.2.1 dC_hasBank_10 (by decide) (fun hc => ?_) (fun hc => ?_)
    · have h := (kb_brt hc).symm.trans h
      refine lv_iconst (v := 0) S.1 S.2.1 dC_hasBank_17 (by decide) ?_
      exact kb_zret (bW cI cQ a nb Q L) S hr hlk hA w h (by decide) dC_hasBank_18
    · have h := (kb_brf hc).symm.trans h
      refine lv_iconst (v := 1) S.1 S.2.1 dC_hasBank_13 (by decide) ?_
      refine lv_goto (tgt := 18) S.1 S.2.1 dC_hasBank_14 (by decide) ?_
      exact kb_zret (bW cI cQ a nb Q L) S hr hlk hA w h (by decide) dC_hasBank_18
set_option maxHeartbeats 4000000 in
set_option maxRecDepth 100000 in
theorem cB_isRow (l : Launch) (D : va_G) (cI cQ : ClassId) (a : Nat → Nat) (nb Q : Nat) (L : List Nat) (z0 z' : kc_S) (r : Int32) (sz : Nat) (x0 : Int32) (h : pB_isRow nb Q L x0 z0 = some (r, z')) : Met l y_B_isRow (Cond.code y_B_isRow c_B_isRow 1 (some .boolean) :: wsB) rm_B_isRow (kb_Pc D vwCl [(cI, .int), (cQ, .object RReq)] sz [.int x0] (bW cI cQ a nb Q L z0)) (kb_Qi D vwCl sz (bW cI cQ a nb Q L z0) r (bW cI cQ a nb Q L z')) 0 0 (va_A (bW cI cQ a nb Q L z0) sz) := by
  refine kb_start (by decide) rfl (Nat.le_of_ble_eq_true rfl) ?_
  intro p e s m args below meth c A ls S hr hlk hsz hA w hl
  have hl : lv_has ls 1 [(0, .int x0)] := hl
  unfold pB_isRow at h
  refine lv_iload_n S.1 S.2.1 dB_isRow_0 rfl (lv_at hl 0 rfl) ?_
  refine lv_if_lt (tgt := 14) S.1 S.2.1 dB_isRow_1 (by decide) (fun hc => ?_) (fun hc => ?_)
  · have h := (kb_brt hc).symm.trans h
    refine lv_iconst (v := 0) S.1 S.2.1 dB_isRow_14 (by decide) ?_
    exact kb_zret (bW cI cQ a nb Q L) S hr hlk hA w h (by decide) dB_isRow_15
  · have h := (kb_brf hc).symm.trans h
    refine lv_iload_n S.1 S.2.1 dB_isRow_4 rfl (lv_at hl 0 rfl) ?_
    refine lv_bipush (v := 16) S.1 S.2.1 dB_isRow_5 (by decide) ?_
    refine lv_icmp_ge (tgt := 14) S.1 S.2.1 dB_isRow_7 (by decide) (fun hc => ?_) (fun hc => ?_)
    · have h := (kb_brt hc).symm.trans h
      refine lv_iconst (v := 0) S.1 S.2.1 dB_isRow_14 (by decide) ?_
      exact kb_zret (bW cI cQ a nb Q L) S hr hlk hA w h (by decide) dB_isRow_15
    · have h := (kb_brf hc).symm.trans h
      refine lv_iconst (v := 1) S.1 S.2.1 dB_isRow_10 (by decide) ?_
      refine lv_goto (tgt := 15) S.1 S.2.1 dB_isRow_11 (by decide) ?_
      exact kb_zret (bW cI cQ a nb Q L) S hr hlk hA w h (by decide) dB_isRow_15
set_option maxHeartbeats 4000000 in
set_option maxRecDepth 100000 in
theorem cB_wordPlace (l : Launch) (D : va_G) (cI cQ : ClassId) (a : Nat → Nat) (nb Q : Nat) (L : List Nat) (z0 z' : kc_S) (r : Int32) (sz : Nat) (x0 : Int32) (x1 : Int32) (x2 : Int32) (h : pB_wordPlace nb Q L x0 x1 x2 z0 = some (r, z')) : Met l y_B_wordPlace (Cond.code y_B_wordPlace c_B_wordPlace 3 (some .int) :: wsB) rm_B_wordPlace (kb_Pc D vwCl [(cI, .int), (cQ, .object RReq)] sz [.int x0, .int x1, .int x2] (bW cI cQ a nb Q L z0)) (kb_Qi D vwCl sz (bW cI cQ a nb Q L z0) r (bW cI cQ a nb Q L z')) 0 0 (va_A (bW cI cQ a nb Q L z0) sz) := by
  refine kb_start (by decide) rfl (Nat.le_of_ble_eq_true rfl) ?_
  intro p e s m args below meth c A ls S hr hlk hsz hA w hl
  have hl : lv_has ls 3 [(0, .int x0), (1, .int x1), (2, .int x2)] := hl
  unfold pB_wordPlace at h
  refine lv_iload_n S.1 S.2.1 dB_wordPlace_0 rfl (lv_at hl 0 rfl) ?_
  refine lv_bipush (v := 16) S.1 S.2.1 dB_wordPlace_1 (by decide) ?_
  refine lv_imul S.1 S.2.1 dB_wordPlace_3 ?_
  refine lv_iload_n S.1 S.2.1 dB_wordPlace_4 rfl (lv_at hl 1 rfl) ?_
  refine lv_iadd S.1 S.2.1 dB_wordPlace_5 ?_
  refine lv_bipush (v := 8) S.1 S.2.1 dB_wordPlace_6 (by decide) ?_
  refine lv_imul S.1 S.2.1 dB_wordPlace_8 ?_
  refine lv_iload_n S.1 S.2.1 dB_wordPlace_9 rfl (lv_at hl 2 rfl) ?_
  refine lv_iadd S.1 S.2.1 dB_wordPlace_10 ?_
  exact kb_iret (bW cI cQ a nb Q L) S hr hlk hA w h dB_wordPlace_11
set_option maxHeartbeats 4000000 in
set_option maxRecDepth 100000 in
theorem cB_enqueue (l : Launch) (D : va_G) (cI cQ : ClassId) (a : Nat → Nat) (nb Q : Nat) (L : List Nat) (z0 z' : kc_S) (r : Int32) (sz : Nat) (x1 : Int32) (x2 : Int32) (x3 : Int32) (x4 : Int32) (x5 : Int32) (h : pB_enqueue nb Q L x1 x2 x3 x4 x5 z0 = some (r, z')) : Met l y_B_enqueue (Cond.code y_B_enqueue c_B_enqueue 7 (some .int) :: wsB) rm_B_enqueue (kb_Pc D vwCl [(cI, .int), (cQ, .object RReq)] sz [.ref (a 0), .int x1, .int x2, .int x3, .int x4, .int x5] (bW cI cQ a nb Q L z0)) (kb_Qi D vwCl sz (bW cI cQ a nb Q L z0) r (bW cI cQ a nb Q L z')) 0 0 (va_A (bW cI cQ a nb Q L z0) sz) := by
  refine kb_start (by decide) rfl (Nat.le_of_ble_eq_true rfl) ?_
  intro p e s m args below meth c A ls S hr hlk hsz hA w hl
  have hl : lv_has ls 7 [(0, .ref (a 0)), (1, .int x1), (2, .int x2), (3, .int x3), (4, .int x4), (5, .int x5)] := hl
  unfold pB_enqueue at h
  refine lv_aload_n S.1 S.2.1 dB_enqueue_0 rfl (lv_at hl 0 rfl) ?_
  refine kb_get S w 0 rfl fB_51 rfl dB_enqueue_1 ?_
  refine W.eq (g2 := F0 m 4 ls [.ref (a 21)]) rfl ?_
  refine lv_aload_n S.1 S.2.1 dB_enqueue_4 rfl (lv_at hl 0 rfl) ?_
  refine kb_get S w 0 rfl fB_134 rfl dB_enqueue_5 ?_
  refine W.eq (g2 := F0 m 8 ls [.int (z0.1 0 1), .ref (a 21)]) rfl ?_
  obtain ⟨hi1, h⟩ := kb_ck_of h
  refine kb_ald S w 21 1 rfl rfl hi1 dB_enqueue_8 ?_
  refine W.eq (g2 := F0 m 9 ls [.ref (z0.2.1 (kb_ix (z0.1 0 1)))]) rfl ?_
  refine lv_astore S.1 S.2.1 dB_enqueue_9 hl (by decide) rfl (fun ls hl => ?_)
  have hl : lv_has ls 7 [(6, .ref (z0.2.1 (kb_ix (z0.1 0 1)))), (0, .ref (a 0)), (1, .int x1), (2, .int x2), (3, .int x3), (4, .int x4), (5, .int x5)] := hl
  refine lv_aload S.1 S.2.1 dB_enqueue_11 (lv_at hl 0 rfl) ?_
  refine lv_iload_n S.1 S.2.1 dB_enqueue_13 rfl (lv_at hl 2 rfl) ?_
  obtain ⟨hm4, h⟩ := kb_ck_of h
  obtain ⟨k5, hq6⟩ := va_pl_get (X := bX cI cQ a nb Q z0) (f := kc_F z0.2.2) hm4
  obtain ⟨z2, hz3, h⟩ := kb_st_of h
  refine kb_puti S w k5 hq6 gB_175 (Nat.le_of_ble_eq_true rfl) (ws1 := bW cI cQ a nb Q L z2) (by rw [hz3]; exact kc_put (by decide) w.2.2.1 hm4 hq6) dB_enqueue_14 (fun H locs w => ?_)
  refine lv_aload S.1 S.2.1 dB_enqueue_17 (lv_at hl 0 rfl) ?_
  refine lv_iload_n S.1 S.2.1 dB_enqueue_19 rfl (lv_at hl 3 rfl) ?_
  obtain ⟨hm9, h⟩ := kb_ck_of h
  obtain ⟨k10, hq11⟩ := va_pl_get (X := bX cI cQ a nb Q z2) (f := kc_F z2.2.2) hm9
  obtain ⟨z7, hz8, h⟩ := kb_st_of h
  refine kb_puti S w k10 hq11 gB_178 (Nat.le_of_ble_eq_true rfl) (ws1 := bW cI cQ a nb Q L z7) (by rw [hz8]; exact kc_put (by decide) w.2.2.1 hm9 hq11) dB_enqueue_20 (fun H locs w => ?_)
  refine lv_aload S.1 S.2.1 dB_enqueue_23 (lv_at hl 0 rfl) ?_
  refine lv_iload_n S.1 S.2.1 dB_enqueue_25 rfl (lv_at hl 4 rfl) ?_
  obtain ⟨hm14, h⟩ := kb_ck_of h
  obtain ⟨k15, hq16⟩ := va_pl_get (X := bX cI cQ a nb Q z7) (f := kc_F z7.2.2) hm14
  obtain ⟨z12, hz13, h⟩ := kb_st_of h
  refine kb_puti S w k15 hq16 gB_181 (Nat.le_of_ble_eq_true rfl) (ws1 := bW cI cQ a nb Q L z12) (by rw [hz13]; exact kc_put (by decide) w.2.2.1 hm14 hq16) dB_enqueue_26 (fun H locs w => ?_)
  refine lv_aload S.1 S.2.1 dB_enqueue_29 (lv_at hl 0 rfl) ?_
  refine lv_iload_n S.1 S.2.1 dB_enqueue_31 rfl (lv_at hl 3 rfl) ?_
  refine lv_iload_n S.1 S.2.1 dB_enqueue_32 rfl (lv_at hl 4 rfl) ?_
  refine lv_iload S.1 S.2.1 dB_enqueue_33 (lv_at hl 5 rfl) ?_
  obtain ⟨r18, z17, hc19, h⟩ := kb_cl_of h
  refine kb_callS (As := [.int x2, .int x3, .int x4]) (rest := [.ref (z0.2.1 (kb_ix (z0.1 0 1)))]) S w (fun sz => cB_wordPlace l D cI cQ a nb Q L _ _ _ sz x2 x3 x4 hc19) Y_B_wordPlace T_B_wordPlace lB_122 ⟨rfl, rfl, Nat.le_of_ble_eq_true rfl, Nat.le_of_ble_eq_true rfl⟩ rfl hl.1 rfl (Nat.le_of_ble_eq_true rfl) dB_enqueue_35 ⟨Nat.le_of_ble_eq_true rfl, Nat.le_of_ble_eq_true rfl⟩ (fun H locs w => ?_)
  obtain ⟨hm22, h⟩ := kb_ck_of h
  obtain ⟨k23, hq24⟩ := va_pl_get (X := bX cI cQ a nb Q z17) (f := kc_F z17.2.2) hm22
  obtain ⟨z20, hz21, h⟩ := kb_st_of h
  refine kb_puti S w k23 hq24 gB_184 (Nat.le_of_ble_eq_true rfl) (ws1 := bW cI cQ a nb Q L z20) (by rw [hz21]; exact kc_put (by decide) w.2.2.1 hm22 hq24) dB_enqueue_38 (fun H locs w => ?_)
  refine lv_aload S.1 S.2.1 dB_enqueue_41 (lv_at hl 0 rfl) ?_
  refine lv_iload S.1 S.2.1 dB_enqueue_43 (lv_at hl 6 rfl) ?_
  obtain ⟨hm27, h⟩ := kb_ck_of h
  obtain ⟨k28, hq29⟩ := va_pl_get (X := bX cI cQ a nb Q z20) (f := kc_F z20.2.2) hm27
  obtain ⟨z25, hz26, h⟩ := kb_st_of h
  refine kb_puti S w k28 hq29 gB_187 (Nat.le_of_ble_eq_true rfl) (ws1 := bW cI cQ a nb Q L z25) (by rw [hz26]; exact kc_put (by decide) w.2.2.1 hm27 hq29) dB_enqueue_45 (fun H locs w => ?_)
  refine lv_aload S.1 S.2.1 dB_enqueue_48 (lv_at hl 0 rfl) ?_
  refine lv_aload_n S.1 S.2.1 dB_enqueue_50 rfl (lv_at hl 1 rfl) ?_
  refine kb_get S w 0 rfl fB_108 rfl dB_enqueue_51 ?_
  refine W.eq (g2 := F0 m 54 ls [.int (z25.1 0 2), .ref (z0.2.1 (kb_ix (z0.1 0 1)))]) rfl ?_
  obtain ⟨hm32, h⟩ := kb_ck_of h
  obtain ⟨k33, hq34⟩ := va_pl_get (X := bX cI cQ a nb Q z25) (f := kc_F z25.2.2) hm32
  obtain ⟨z30, hz31, h⟩ := kb_st_of h
  refine kb_puti S w k33 hq34 gB_139 (Nat.le_of_ble_eq_true rfl) (ws1 := bW cI cQ a nb Q L z30) (by rw [hz31]; exact kc_put (by decide) w.2.2.1 hm32 hq34) dB_enqueue_54 (fun H locs w => ?_)
  refine lv_aload S.1 S.2.1 dB_enqueue_57 (lv_at hl 0 rfl) ?_
  refine lv_aload_n S.1 S.2.1 dB_enqueue_59 rfl (lv_at hl 1 rfl) ?_
  refine kb_get S w 0 rfl fB_42 rfl dB_enqueue_60 ?_
  refine W.eq (g2 := F0 m 63 ls [.ref (a 3), .ref (z0.2.1 (kb_ix (z0.1 0 1)))]) rfl ?_
  refine kb_get S w 3 rfl fB_80 rfl dB_enqueue_63 ?_
  refine W.eq (g2 := F0 m 66 ls [.int (z30.1 3 3), .ref (z0.2.1 (kb_ix (z0.1 0 1)))]) rfl ?_
  obtain ⟨hm37, h⟩ := kb_ck_of h
  obtain ⟨k38, hq39⟩ := va_pl_get (X := bX cI cQ a nb Q z30) (f := kc_F z30.2.2) hm37
  obtain ⟨z35, hz36, h⟩ := kb_st_of h
  refine kb_puti S w k38 hq39 gB_190 (Nat.le_of_ble_eq_true rfl) (ws1 := bW cI cQ a nb Q L z35) (by rw [hz36]; exact kc_put (by decide) w.2.2.1 hm37 hq39) dB_enqueue_66 (fun H locs w => ?_)
  refine lv_aload_n S.1 S.2.1 dB_enqueue_69 rfl (lv_at hl 1 rfl) ?_
  refine lv_dup S.1 S.2.1 dB_enqueue_70 rfl ?_
  refine kb_get S w 0 rfl fB_134 rfl dB_enqueue_71 ?_
  refine W.eq (g2 := F0 m 74 ls [.int (z35.1 0 1), .ref (a 0)]) rfl ?_
  refine lv_iconst (v := 1) S.1 S.2.1 dB_enqueue_74 (by decide) ?_
  refine lv_iadd S.1 S.2.1 dB_enqueue_75 ?_
  obtain ⟨z40, hz41, h⟩ := kb_st_of h
  refine kb_puti S w 0 rfl gB_134 (Nat.le_of_ble_eq_true rfl) (ws1 := bW cI cQ a nb Q L z40) (by rw [hz41]; rfl) dB_enqueue_76 (fun H locs w => ?_)
  refine lv_aload_n S.1 S.2.1 dB_enqueue_79 rfl (lv_at hl 1 rfl) ?_
  refine lv_dup S.1 S.2.1 dB_enqueue_80 rfl ?_
  refine kb_get S w 0 rfl fB_108 rfl dB_enqueue_81 ?_
  refine W.eq (g2 := F0 m 84 ls [.int (z40.1 0 2), .ref (a 0)]) rfl ?_
  refine lv_iconst (v := 1) S.1 S.2.1 dB_enqueue_84 (by decide) ?_
  refine lv_iadd S.1 S.2.1 dB_enqueue_85 ?_
  obtain ⟨z42, hz43, h⟩ := kb_st_of h
  refine kb_puti S w 0 rfl gB_108 (Nat.le_of_ble_eq_true rfl) (ws1 := bW cI cQ a nb Q L z42) (by rw [hz43]; rfl) dB_enqueue_86 (fun H locs w => ?_)
  refine lv_aload_n S.1 S.2.1 dB_enqueue_89 rfl (lv_at hl 1 rfl) ?_
  refine kb_get S w 0 rfl fB_59 rfl dB_enqueue_90 ?_
  refine W.eq (g2 := F0 m 93 ls [.ref (a 20)]) rfl ?_
  refine lv_aload S.1 S.2.1 dB_enqueue_93 (lv_at hl 0 rfl) ?_
  obtain ⟨hm44, h⟩ := kb_ck_of h
  obtain ⟨k45, hq46⟩ := va_pl_get (X := bX cI cQ a nb Q z42) (f := kc_F z42.2.2) hm44
  refine kb_get S w k45 hq46 fB_139 rfl dB_enqueue_95 ?_
  refine W.eq (g2 := F0 m 98 ls [.int (z42.2.2 (z0.2.1 (kb_ix (z0.1 0 1))) 5), .ref (a 20)]) rfl ?_
  refine lv_bipush (v := 31) S.1 S.2.1 dB_enqueue_98 (by decide) ?_
  refine lv_iand S.1 S.2.1 dB_enqueue_100 ?_
  refine lv_ldc (v := 2147483647) S.1 S.2.1 S.2.2.2.1 (S.2.2.2.2 _ kB_193) dB_enqueue_101 ?_
  obtain ⟨hi47, h⟩ := kb_ck_of h
  obtain ⟨z48, hz49, h⟩ := kb_st_of h
  refine kb_iast S w 20 0 rfl rfl hi47 (ws1 := bW cI cQ a nb Q L z48) (by rw [hz49]; rfl) dB_enqueue_103 (fun H locs w => ?_)
  refine lv_aload S.1 S.2.1 dB_enqueue_104 (lv_at hl 0 rfl) ?_
  obtain ⟨hm50, h⟩ := kb_ck_of h
  obtain ⟨k51, hq52⟩ := va_pl_get (X := bX cI cQ a nb Q z48) (f := kc_F z48.2.2) hm50
  refine kb_get S w k51 hq52 fB_139 rfl dB_enqueue_106 ?_
  refine W.eq (g2 := F0 m 109 ls [.int (z48.2.2 (z0.2.1 (kb_ix (z0.1 0 1))) 5)]) rfl ?_
  exact kb_iret (bW cI cQ a nb Q L) S hr hlk hA w h dB_enqueue_109
set_option maxHeartbeats 4000000 in
set_option maxRecDepth 100000 in
theorem cB_refreshIsDue (l : Launch) (D : va_G) (cI cQ : ClassId) (a : Nat → Nat) (nb Q : Nat) (L : List Nat) (z0 z' : kc_S) (r : Int32) (sz : Nat) (h : pB_refreshIsDue nb Q L  z0 = some (r, z')) : Met l y_B_refreshIsDue (Cond.code y_B_refreshIsDue c_B_refreshIsDue 2 (some .boolean) :: wsB) rm_B_refreshIsDue (kb_Pc D vwCl [(cI, .int), (cQ, .object RReq)] sz [.ref (a 0)] (bW cI cQ a nb Q L z0)) (kb_Qi D vwCl sz (bW cI cQ a nb Q L z0) r (bW cI cQ a nb Q L z')) 0 0 (va_A (bW cI cQ a nb Q L z0) sz) := by
  refine kb_start (by decide) rfl (Nat.le_of_ble_eq_true rfl) ?_
  intro p e s m args below meth c A ls S hr hlk hsz hA w hl
  have hl : lv_has ls 2 [(0, .ref (a 0))] := hl
  unfold pB_refreshIsDue at h
  have J22 : ∀ (s0 : Int32) (z : kc_S) (H : Heap) (locs : List Loc) (ls : Array Slot), lv_has ls 2 [(0, .ref (a 0))] → kb_W D vwCl [(cI, .int), (cQ, .object RReq)] A s H locs (bW cI cQ a nb Q L z) → pB_refreshIsDue_J22 nb Q L s0 z = some (r, z') → W p l e rm_B_refreshIsDue s m args below meth c H locs 0 0 (MQ below (kb_Qi D vwCl sz (bW cI cQ a nb Q L z0) r (bW cI cQ a nb Q L z')) args s 0 0 (va_A (bW cI cQ a nb Q L z0) sz)) (F0 m 22 ls [.int s0]) := by
    intro s0 z H locs ls hl w h
    unfold pB_refreshIsDue_J22 at h
    refine lv_istore_n S.1 S.2.1 dB_refreshIsDue_22 rfl hl (by decide) rfl (fun ls hl => ?_)
    have hl : lv_has ls 2 [(1, .int s0), (0, .ref (a 0))] := hl
    refine lv_aload_n S.1 S.2.1 dB_refreshIsDue_23 rfl (lv_at hl 1 rfl) ?_
    refine kb_get S w 0 rfl fB_42 rfl dB_refreshIsDue_24 ?_
    refine W.eq (g2 := F0 m 27 ls [.ref (a 3)]) rfl ?_
    refine kb_get S w 3 rfl fB_80 rfl dB_refreshIsDue_27 ?_
    refine W.eq (g2 := F0 m 30 ls [.int (z.1 3 3)]) rfl ?_
    refine lv_iload_n S.1 S.2.1 dB_refreshIsDue_30 rfl (lv_at hl 0 rfl) ?_
    refine lv_isub S.1 S.2.1 dB_refreshIsDue_31 ?_
    refine lv_aload_n S.1 S.2.1 dB_refreshIsDue_32 rfl (lv_at hl 1 rfl) ?_
    refine kb_get S w 0 rfl fB_31 rfl dB_refreshIsDue_33 ?_
    refine W.eq (g2 := F0 m 36 ls [.ref (a 1), .int ((z.1 3 3) - s0)]) rfl ?_
    refine lv_bipush (v := 10) S.1 S.2.1 dB_refreshIsDue_36 (by decide) ?_
    obtain ⟨hi1, h⟩ := kb_ck_of h
    refine kb_iald S w 1 0 rfl rfl hi1 dB_refreshIsDue_38 ?_
    refine W.eq (g2 := F0 m 39 ls [.int (z.1 1 (kb_ix (10))), .int ((z.1 3 3) - s0)]) rfl ?_
    refine lv_icmp_lt (tgt := 46) S.1 S.2.1 dB_refreshIsDue_39 (by decide) (fun hc => ?_) (fun hc => ?_)
    · have h := (kb_brt hc).symm.trans h
      refine lv_iconst (v := 0) S.1 S.2.1 dB_refreshIsDue_46 (by decide) ?_
      exact kb_zret (bW cI cQ a nb Q L) S hr hlk hA w h (by decide) dB_refreshIsDue_47
    · have h := (kb_brf hc).symm.trans h
      refine lv_iconst (v := 1) S.1 S.2.1 dB_refreshIsDue_42 (by decide) ?_
      refine lv_goto (tgt := 47) S.1 S.2.1 dB_refreshIsDue_43 (by decide) ?_
      exact kb_zret (bW cI cQ a nb Q L) S hr hlk hA w h (by decide) dB_refreshIsDue_47
  refine lv_aload_n S.1 S.2.1 dB_refreshIsDue_0 rfl (lv_at hl 0 rfl) ?_
  refine kb_get S w 0 rfl fB_42 rfl dB_refreshIsDue_1 ?_
  refine W.eq (g2 := F0 m 4 ls [.ref (a 3)]) rfl ?_
  refine kb_get S w 3 rfl fB_148 rfl dB_refreshIsDue_4 ?_
  refine W.eq (g2 := F0 m 7 ls [.int (z0.1 3 2)]) rfl ?_
  refine lv_iconst (v := (-1)) S.1 S.2.1 dB_refreshIsDue_7 (by decide) ?_
  refine lv_icmp_ne (tgt := 15) S.1 S.2.1 dB_refreshIsDue_8 (by decide) (fun hc => ?_) (fun hc => ?_)
  · have h := (kb_brf hc).symm.trans h
    refine lv_aload_n S.1 S.2.1 dB_refreshIsDue_15 rfl (lv_at hl 0 rfl) ?_
    refine kb_get S w 0 rfl fB_42 rfl dB_refreshIsDue_16 ?_
    refine W.eq (g2 := F0 m 19 ls [.ref (a 3)]) rfl ?_
    refine kb_get S w 3 rfl fB_148 rfl dB_refreshIsDue_19 ?_
    refine W.eq (g2 := F0 m 22 ls [.int (z0.1 3 2)]) rfl ?_
    exact J22 (z0.1 3 2) z0 _ _ _ (lv_sub hl [0] rfl) w h
  · have h := (kb_brt hc).symm.trans h
    refine lv_iconst (v := 0) S.1 S.2.1 dB_refreshIsDue_11 (by decide) ?_
    refine lv_goto (tgt := 22) S.1 S.2.1 dB_refreshIsDue_12 (by decide) ?_
    exact J22 0 z0 _ _ _ (lv_sub hl [0] rfl) w h
set_option maxHeartbeats 4000000 in
set_option maxRecDepth 100000 in
theorem cC_isTooSoon_3 (l : Launch) (D : va_G) (cI cQ : ClassId) (a : Nat → Nat) (nb Q : Nat) (L : List Nat) (z0 z' : kc_S) (r : Int32) (sz : Nat) (x1 : Int32) (x2 : Int32) (h : pC_isTooSoon 3 nb Q L x1 x2 z0 = some (r, z')) : Met l y_C_isTooSoon (Cond.code y_C_isTooSoon c_C_isTooSoon 3 (some .boolean) :: wsB) rm_C_isTooSoon (kb_Pc D vwCl [(cI, .int), (cQ, .object RReq)] sz [.ref (a 3), .int x1, .int x2] (bW cI cQ a nb Q L z0)) (kb_Qi D vwCl sz (bW cI cQ a nb Q L z0) r (bW cI cQ a nb Q L z')) 0 0 (va_A (bW cI cQ a nb Q L z0) sz) := by
  refine kb_start (by decide) rfl (Nat.le_of_ble_eq_true rfl) ?_
  intro p e s m args below meth c A ls S hr hlk hsz hA w hl
  have hl : lv_has ls 3 [(0, .ref (a 3)), (1, .int x1), (2, .int x2)] := hl
  unfold pC_isTooSoon at h
  refine lv_iload_n S.1 S.2.1 dC_isTooSoon_0 rfl (lv_at hl 2 rfl) ?_
  refine lv_iconst (v := (-1)) S.1 S.2.1 dC_isTooSoon_1 (by decide) ?_
  refine lv_icmp_eq (tgt := 24) S.1 S.2.1 dC_isTooSoon_2 (by decide) (fun hc => ?_) (fun hc => ?_)
  · have h := (kb_brt hc).symm.trans h
    refine lv_iconst (v := 0) S.1 S.2.1 dC_isTooSoon_24 (by decide) ?_
    exact kb_zret (bW cI cQ a nb Q L) S hr hlk hA w h (by decide) dC_isTooSoon_25
  · have h := (kb_brf hc).symm.trans h
    refine lv_aload_n S.1 S.2.1 dC_isTooSoon_5 rfl (lv_at hl 0 rfl) ?_
    refine kb_get S w 3 rfl fC_69 rfl dC_isTooSoon_6 ?_
    refine W.eq (g2 := F0 m 9 ls [.int (z0.1 3 3)]) rfl ?_
    refine lv_iload_n S.1 S.2.1 dC_isTooSoon_9 rfl (lv_at hl 2 rfl) ?_
    refine lv_isub S.1 S.2.1 dC_isTooSoon_10 ?_
    refine lv_aload_n S.1 S.2.1 dC_isTooSoon_11 rfl (lv_at hl 0 rfl) ?_
    refine kb_get S w 3 rfl fC_9 rfl dC_isTooSoon_12 ?_
    refine W.eq (g2 := F0 m 15 ls [.ref (a 1), .int ((z0.1 3 3) - x2)]) rfl ?_
    refine lv_iload_n S.1 S.2.1 dC_isTooSoon_15 rfl (lv_at hl 1 rfl) ?_
    obtain ⟨hi1, h⟩ := kb_ck_of h
    refine kb_iald S w 1 0 rfl rfl hi1 dC_isTooSoon_16 ?_
    refine W.eq (g2 := F0 m 17 ls [.int (z0.1 1 (kb_ix (x1))), .int ((z0.1 3 3) - x2)]) rfl ?_
    refine lv_icmp_ge (tgt := 24) S.1 S.2.1 dC_isTooSoon_17 (by decide) (fun hc => ?_) (fun hc => ?_)
    · have h := (kb_brt hc).symm.trans h
      refine lv_iconst (v := 0) S.1 S.2.1 dC_isTooSoon_24 (by decide) ?_
      exact kb_zret (bW cI cQ a nb Q L) S hr hlk hA w h (by decide) dC_isTooSoon_25
    · have h := (kb_brf hc).symm.trans h
      refine lv_iconst (v := 1) S.1 S.2.1 dC_isTooSoon_20 (by decide) ?_
      refine lv_goto (tgt := 25) S.1 S.2.1 dC_isTooSoon_21 (by decide) ?_
      exact kb_zret (bW cI cQ a nb Q L) S hr hlk hA w h (by decide) dC_isTooSoon_25
set_option maxHeartbeats 4000000 in
set_option maxRecDepth 100000 in
theorem cC_isTooSoon_11 (l : Launch) (D : va_G) (cI cQ : ClassId) (a : Nat → Nat) (nb Q : Nat) (L : List Nat) (z0 z' : kc_S) (r : Int32) (sz : Nat) (x1 : Int32) (x2 : Int32) (h : pC_isTooSoon 11 nb Q L x1 x2 z0 = some (r, z')) : Met l y_C_isTooSoon (Cond.code y_C_isTooSoon c_C_isTooSoon 3 (some .boolean) :: wsB) rm_C_isTooSoon (kb_Pc D vwCl [(cI, .int), (cQ, .object RReq)] sz [.ref (a 11), .int x1, .int x2] (bW cI cQ a nb Q L z0)) (kb_Qi D vwCl sz (bW cI cQ a nb Q L z0) r (bW cI cQ a nb Q L z')) 0 0 (va_A (bW cI cQ a nb Q L z0) sz) := by
  refine kb_start (by decide) rfl (Nat.le_of_ble_eq_true rfl) ?_
  intro p e s m args below meth c A ls S hr hlk hsz hA w hl
  have hl : lv_has ls 3 [(0, .ref (a 11)), (1, .int x1), (2, .int x2)] := hl
  unfold pC_isTooSoon at h
  refine lv_iload_n S.1 S.2.1 dC_isTooSoon_0 rfl (lv_at hl 2 rfl) ?_
  refine lv_iconst (v := (-1)) S.1 S.2.1 dC_isTooSoon_1 (by decide) ?_
  refine lv_icmp_eq (tgt := 24) S.1 S.2.1 dC_isTooSoon_2 (by decide) (fun hc => ?_) (fun hc => ?_)
  · have h := (kb_brt hc).symm.trans h
    refine lv_iconst (v := 0) S.1 S.2.1 dC_isTooSoon_24 (by decide) ?_
    exact kb_zret (bW cI cQ a nb Q L) S hr hlk hA w h (by decide) dC_isTooSoon_25
  · have h := (kb_brf hc).symm.trans h
    refine lv_aload_n S.1 S.2.1 dC_isTooSoon_5 rfl (lv_at hl 0 rfl) ?_
    refine kb_get S w 11 rfl fC_69 rfl dC_isTooSoon_6 ?_
    refine W.eq (g2 := F0 m 9 ls [.int (z0.1 11 3)]) rfl ?_
    refine lv_iload_n S.1 S.2.1 dC_isTooSoon_9 rfl (lv_at hl 2 rfl) ?_
    refine lv_isub S.1 S.2.1 dC_isTooSoon_10 ?_
    refine lv_aload_n S.1 S.2.1 dC_isTooSoon_11 rfl (lv_at hl 0 rfl) ?_
    refine kb_get S w 11 rfl fC_9 rfl dC_isTooSoon_12 ?_
    refine W.eq (g2 := F0 m 15 ls [.ref (a 1), .int ((z0.1 11 3) - x2)]) rfl ?_
    refine lv_iload_n S.1 S.2.1 dC_isTooSoon_15 rfl (lv_at hl 1 rfl) ?_
    obtain ⟨hi1, h⟩ := kb_ck_of h
    refine kb_iald S w 1 0 rfl rfl hi1 dC_isTooSoon_16 ?_
    refine W.eq (g2 := F0 m 17 ls [.int (z0.1 1 (kb_ix (x1))), .int ((z0.1 11 3) - x2)]) rfl ?_
    refine lv_icmp_ge (tgt := 24) S.1 S.2.1 dC_isTooSoon_17 (by decide) (fun hc => ?_) (fun hc => ?_)
    · have h := (kb_brt hc).symm.trans h
      refine lv_iconst (v := 0) S.1 S.2.1 dC_isTooSoon_24 (by decide) ?_
      exact kb_zret (bW cI cQ a nb Q L) S hr hlk hA w h (by decide) dC_isTooSoon_25
    · have h := (kb_brf hc).symm.trans h
      refine lv_iconst (v := 1) S.1 S.2.1 dC_isTooSoon_20 (by decide) ?_
      refine lv_goto (tgt := 25) S.1 S.2.1 dC_isTooSoon_21 (by decide) ?_
      exact kb_zret (bW cI cQ a nb Q L) S hr hlk hA w h (by decide) dC_isTooSoon_25
set_option maxHeartbeats 4000000 in
set_option maxRecDepth 100000 in
theorem cC_brokenByRefresh_3 (l : Launch) (D : va_G) (cI cQ : ClassId) (a : Nat → Nat) (nb Q : Nat) (L : List Nat) (z0 z' : kc_S) (r : Int32) (sz : Nat) (h : pC_brokenByRefresh 3 nb Q L  z0 = some (r, z')) : Met l y_C_brokenByRefresh (Cond.code y_C_brokenByRefresh c_C_brokenByRefresh 2 (some .int) :: wsB) rm_C_brokenByRefresh (kb_Pc D vwCl [(cI, .int), (cQ, .object RReq)] sz [.ref (a 3)] (bW cI cQ a nb Q L z0)) (kb_Qi D vwCl sz (bW cI cQ a nb Q L z0) r (bW cI cQ a nb Q L z')) 0 0 (va_A (bW cI cQ a nb Q L z0) sz) := by
  refine kb_start (by decide) rfl (Nat.le_of_ble_eq_true rfl) ?_
  intro p e s m args below meth c A ls S hr hlk hsz hA w hl
  have hl : lv_has ls 2 [(0, .ref (a 3))] := hl
  unfold pC_brokenByRefresh at h
  have L32 : ∀ (n : Nat) (x1 : Int32) (z : kc_S) (H : Heap) (locs : List Loc) (ls : Array Slot), lv_has ls 2 [(0, .ref (a 3)), (1, .int x1)] → kb_W D vwCl [(cI, .int), (cQ, .object RReq)] A s H locs (bW cI cQ a nb Q L z) → pC_brokenByRefresh_L32 3 nb Q L n x1 z = some (r, z') → W p l e rm_C_brokenByRefresh s m args below meth c H locs 0 0 (MQ below (kb_Qi D vwCl sz (bW cI cQ a nb Q L z0) r (bW cI cQ a nb Q L z')) args s 0 0 (va_A (bW cI cQ a nb Q L z0) sz)) (F0 m 32 ls []) := by
    intro n
    induction n with
    | zero =>
      intro x1 z H locs ls hl w h
      exact absurd h (by simp [pC_brokenByRefresh_L32])
    | succ n ih =>
      intro x1 z H locs ls hl w h
      rw [pC_brokenByRefresh_L32] at h
      refine lv_iload_n S.1 S.2.1 dC_brokenByRefresh_32 rfl (lv_at hl 1 rfl) ?_
      refine lv_aload_n S.1 S.2.1 dC_brokenByRefresh_33 rfl (lv_at hl 0 rfl) ?_
      refine kb_get S w 3 rfl fC_15 rfl dC_brokenByRefresh_34 ?_
      refine W.eq (g2 := F0 m 37 ls [.ref (a 4), .int x1]) rfl ?_
      refine kb_alen S w 4 0 rfl rfl rfl dC_brokenByRefresh_37 ?_
      refine W.eq (g2 := F0 m 38 ls [.int (nI nb), .int x1]) rfl ?_
      refine lv_icmp_ge (tgt := 64) S.1 S.2.1 dC_brokenByRefresh_38 (by decide) (fun hc => ?_) (fun hc => ?_)
      · have h := (kb_brt hc).symm.trans h
        refine lv_aload_n S.1 S.2.1 dC_brokenByRefresh_64 rfl (lv_at hl 0 rfl) ?_
        refine lv_bipush (v := 9) S.1 S.2.1 dC_brokenByRefresh_65 (by decide) ?_
        refine lv_aload_n S.1 S.2.1 dC_brokenByRefresh_67 rfl (lv_at hl 0 rfl) ?_
        refine kb_get S w 3 rfl fC_40 rfl dC_brokenByRefresh_68 ?_
        refine W.eq (g2 := F0 m 71 ls [.int (z.1 3 2), .int 9, .ref (a 3)]) rfl ?_
        obtain ⟨r2, z1, hc3, h⟩ := kb_cl_of h
        refine kb_calli (As := [.int 9, .int (z.1 3 2)]) (rest := []) (q0 := 3) (ci := 0) S w (fun sz => cC_isTooSoon_3 l D cI cQ a nb Q L _ _ _ sz 9 (z.1 3 2) hc3) Y_C_isTooSoon I_C_isTooSoon S_C_isTooSoon lC_58 ⟨rfl, rfl, Nat.le_of_ble_eq_true rfl, Nat.le_of_ble_eq_true rfl⟩ rfl rfl rfl rfl hl.1 rfl (Nat.le_of_ble_eq_true rfl) dC_brokenByRefresh_71 ⟨Nat.le_of_ble_eq_true rfl, Nat.le_of_ble_eq_true rfl⟩ (fun H locs w => ?_)
        refine lv_if_eq (tgt := 82) S.1 S.2.1 dC_brokenByRefresh_74 (by decide) (fun hc => ?_) (fun hc => ?_)
        · have h := (kb_brt hc).symm.trans h
          refine lv_iconst (v := 0) S.1 S.2.1 dC_brokenByRefresh_82 (by decide) ?_
          exact kb_iret (bW cI cQ a nb Q L) S hr hlk hA w h dC_brokenByRefresh_83
        · have h := (kb_brf hc).symm.trans h
          refine lv_bipush (v := 16) S.1 S.2.1 dC_brokenByRefresh_77 (by decide) ?_
          refine lv_goto (tgt := 83) S.1 S.2.1 dC_brokenByRefresh_79 (by decide) ?_
          exact kb_iret (bW cI cQ a nb Q L) S hr hlk hA w h dC_brokenByRefresh_83
      · have h := (kb_brf hc).symm.trans h
        refine lv_aload_n S.1 S.2.1 dC_brokenByRefresh_41 rfl (lv_at hl 0 rfl) ?_
        refine lv_iconst (v := 1) S.1 S.2.1 dC_brokenByRefresh_42 (by decide) ?_
        refine lv_aload_n S.1 S.2.1 dC_brokenByRefresh_43 rfl (lv_at hl 0 rfl) ?_
        refine kb_get S w 3 rfl fC_21 rfl dC_brokenByRefresh_44 ?_
        refine W.eq (g2 := F0 m 47 ls [.ref (a 6), .int 1, .ref (a 3)]) rfl ?_
        refine lv_iload_n S.1 S.2.1 dC_brokenByRefresh_47 rfl (lv_at hl 1 rfl) ?_
        obtain ⟨hi4, h⟩ := kb_ck_of h
        refine kb_iald S w 6 0 rfl rfl hi4 dC_brokenByRefresh_48 ?_
        refine W.eq (g2 := F0 m 49 ls [.int (z.1 6 (kb_ix (x1))), .int 1, .ref (a 3)]) rfl ?_
        obtain ⟨r6, z5, hc7, h⟩ := kb_cl_of h
        refine kb_calli (As := [.int 1, .int (z.1 6 (kb_ix (x1)))]) (rest := []) (q0 := 3) (ci := 0) S w (fun sz => cC_isTooSoon_3 l D cI cQ a nb Q L _ _ _ sz 1 (z.1 6 (kb_ix (x1))) hc7) Y_C_isTooSoon I_C_isTooSoon S_C_isTooSoon lC_58 ⟨rfl, rfl, Nat.le_of_ble_eq_true rfl, Nat.le_of_ble_eq_true rfl⟩ rfl rfl rfl rfl hl.1 rfl (Nat.le_of_ble_eq_true rfl) dC_brokenByRefresh_49 ⟨Nat.le_of_ble_eq_true rfl, Nat.le_of_ble_eq_true rfl⟩ (fun H locs w => ?_)
        refine lv_if_eq (tgt := 58) S.1 S.2.1 dC_brokenByRefresh_52 (by decide) (fun hc => ?_) (fun hc => ?_)
        · have h := (kb_brt hc).symm.trans h
          refine lv_iinc (v := x1 + 1) (k := 1) S.1 S.2.1 dC_brokenByRefresh_58 hl rfl rfl (by decide) rfl (fun ls hl => ?_)
          have hl : lv_has ls 2 [(1, .int (x1 + 1)), (0, .ref (a 3))] := hl
          refine lv_goto (tgt := 32) S.1 S.2.1 dC_brokenByRefresh_61 (by decide) ?_
          exact ih (x1 + 1) z5 _ _ _ (lv_sub hl [1, 0] rfl) w h
        · have h := (kb_brf hc).symm.trans h
          refine lv_bipush (v := 15) S.1 S.2.1 dC_brokenByRefresh_55 (by decide) ?_
          exact kb_iret (bW cI cQ a nb Q L) S hr hlk hA w h dC_brokenByRefresh_57
  have L2 : ∀ (n : Nat) (x1 : Int32) (z : kc_S) (H : Heap) (locs : List Loc) (ls : Array Slot), lv_has ls 2 [(0, .ref (a 3)), (1, .int x1)] → kb_W D vwCl [(cI, .int), (cQ, .object RReq)] A s H locs (bW cI cQ a nb Q L z) → pC_brokenByRefresh_L2 3 nb Q L n x1 z = some (r, z') → W p l e rm_C_brokenByRefresh s m args below meth c H locs 0 0 (MQ below (kb_Qi D vwCl sz (bW cI cQ a nb Q L z0) r (bW cI cQ a nb Q L z')) args s 0 0 (va_A (bW cI cQ a nb Q L z0) sz)) (F0 m 2 ls []) := by
    intro n
    induction n with
    | zero =>
      intro x1 z H locs ls hl w h
      exact absurd h (by simp [pC_brokenByRefresh_L2])
    | succ n ih =>
      intro x1 z H locs ls hl w h
      rw [pC_brokenByRefresh_L2] at h
      refine lv_iload_n S.1 S.2.1 dC_brokenByRefresh_2 rfl (lv_at hl 1 rfl) ?_
      refine lv_aload_n S.1 S.2.1 dC_brokenByRefresh_3 rfl (lv_at hl 0 rfl) ?_
      refine kb_get S w 3 rfl fC_15 rfl dC_brokenByRefresh_4 ?_
      refine W.eq (g2 := F0 m 7 ls [.ref (a 4), .int x1]) rfl ?_
      refine kb_alen S w 4 0 rfl rfl rfl dC_brokenByRefresh_7 ?_
      refine W.eq (g2 := F0 m 8 ls [.int (nI nb), .int x1]) rfl ?_
      refine lv_icmp_ge (tgt := 30) S.1 S.2.1 dC_brokenByRefresh_8 (by decide) (fun hc => ?_) (fun hc => ?_)
      · have h := (kb_brt hc).symm.trans h
        refine lv_iconst (v := 0) S.1 S.2.1 dC_brokenByRefresh_30 (by decide) ?_
        refine lv_istore_n S.1 S.2.1 dC_brokenByRefresh_31 rfl hl (by decide) rfl (fun ls hl => ?_)
        have hl : lv_has ls 2 [(1, .int 0), (0, .ref (a 3))] := hl
        exact L32 3000 0 z _ _ _ (lv_sub hl [1, 0] rfl) w h
      · have h := (kb_brf hc).symm.trans h
        refine lv_aload_n S.1 S.2.1 dC_brokenByRefresh_11 rfl (lv_at hl 0 rfl) ?_
        refine kb_get S w 3 rfl fC_15 rfl dC_brokenByRefresh_12 ?_
        refine W.eq (g2 := F0 m 15 ls [.ref (a 4)]) rfl ?_
        refine lv_iload_n S.1 S.2.1 dC_brokenByRefresh_15 rfl (lv_at hl 1 rfl) ?_
        obtain ⟨hi8, h⟩ := kb_ck_of h
        refine kb_iald S w 4 0 rfl rfl hi8 dC_brokenByRefresh_16 ?_
        refine W.eq (g2 := F0 m 17 ls [.int (z.1 4 (kb_ix (x1)))]) rfl ?_
        refine lv_iconst (v := (-1)) S.1 S.2.1 dC_brokenByRefresh_17 (by decide) ?_
        refine lv_icmp_eq (tgt := 24) S.1 S.2.1 dC_brokenByRefresh_18 (by decide) (fun hc => ?_) (fun hc => ?_)
        · have h := (kb_brt hc).symm.trans h
          refine lv_iinc (v := x1 + 1) (k := 1) S.1 S.2.1 dC_brokenByRefresh_24 hl rfl rfl (by decide) rfl (fun ls hl => ?_)
          have hl : lv_has ls 2 [(1, .int (x1 + 1)), (0, .ref (a 3))] := hl
          refine lv_goto (tgt := 2) S.1 S.2.1 dC_brokenByRefresh_27 (by decide) ?_
          exact ih (x1 + 1) z _ _ _ (lv_sub hl [1, 0] rfl) w h
        · have h := (kb_brf hc).symm.trans h
          refine lv_bipush (v := 14) S.1 S.2.1 dC_brokenByRefresh_21 (by decide) ?_
          exact kb_iret (bW cI cQ a nb Q L) S hr hlk hA w h dC_brokenByRefresh_23
  refine lv_iconst (v := 0) S.1 S.2.1 dC_brokenByRefresh_0 (by decide) ?_
  refine lv_istore_n S.1 S.2.1 dC_brokenByRefresh_1 rfl hl (by decide) rfl (fun ls hl => ?_)
  have hl : lv_has ls 2 [(1, .int 0), (0, .ref (a 3))] := hl
  exact L2 3000 0 z0 _ _ _ (lv_sub hl [1, 0] rfl) w h
set_option maxHeartbeats 4000000 in
set_option maxRecDepth 100000 in
theorem cC_brokenByRefresh_11 (l : Launch) (D : va_G) (cI cQ : ClassId) (a : Nat → Nat) (nb Q : Nat) (L : List Nat) (z0 z' : kc_S) (r : Int32) (sz : Nat) (h : pC_brokenByRefresh 11 nb Q L  z0 = some (r, z')) : Met l y_C_brokenByRefresh (Cond.code y_C_brokenByRefresh c_C_brokenByRefresh 2 (some .int) :: wsB) rm_C_brokenByRefresh (kb_Pc D vwCl [(cI, .int), (cQ, .object RReq)] sz [.ref (a 11)] (bW cI cQ a nb Q L z0)) (kb_Qi D vwCl sz (bW cI cQ a nb Q L z0) r (bW cI cQ a nb Q L z')) 0 0 (va_A (bW cI cQ a nb Q L z0) sz) := by
  refine kb_start (by decide) rfl (Nat.le_of_ble_eq_true rfl) ?_
  intro p e s m args below meth c A ls S hr hlk hsz hA w hl
  have hl : lv_has ls 2 [(0, .ref (a 11))] := hl
  unfold pC_brokenByRefresh at h
  have L32 : ∀ (n : Nat) (x1 : Int32) (z : kc_S) (H : Heap) (locs : List Loc) (ls : Array Slot), lv_has ls 2 [(0, .ref (a 11)), (1, .int x1)] → kb_W D vwCl [(cI, .int), (cQ, .object RReq)] A s H locs (bW cI cQ a nb Q L z) → pC_brokenByRefresh_L32 11 nb Q L n x1 z = some (r, z') → W p l e rm_C_brokenByRefresh s m args below meth c H locs 0 0 (MQ below (kb_Qi D vwCl sz (bW cI cQ a nb Q L z0) r (bW cI cQ a nb Q L z')) args s 0 0 (va_A (bW cI cQ a nb Q L z0) sz)) (F0 m 32 ls []) := by
    intro n
    induction n with
    | zero =>
      intro x1 z H locs ls hl w h
      exact absurd h (by simp [pC_brokenByRefresh_L32])
    | succ n ih =>
      intro x1 z H locs ls hl w h
      rw [pC_brokenByRefresh_L32] at h
      refine lv_iload_n S.1 S.2.1 dC_brokenByRefresh_32 rfl (lv_at hl 1 rfl) ?_
      refine lv_aload_n S.1 S.2.1 dC_brokenByRefresh_33 rfl (lv_at hl 0 rfl) ?_
      refine kb_get S w 11 rfl fC_15 rfl dC_brokenByRefresh_34 ?_
      refine W.eq (g2 := F0 m 37 ls [.ref (a 12), .int x1]) rfl ?_
      refine kb_alen S w 12 0 rfl rfl rfl dC_brokenByRefresh_37 ?_
      refine W.eq (g2 := F0 m 38 ls [.int (nI nb), .int x1]) rfl ?_
      refine lv_icmp_ge (tgt := 64) S.1 S.2.1 dC_brokenByRefresh_38 (by decide) (fun hc => ?_) (fun hc => ?_)
      · have h := (kb_brt hc).symm.trans h
        refine lv_aload_n S.1 S.2.1 dC_brokenByRefresh_64 rfl (lv_at hl 0 rfl) ?_
        refine lv_bipush (v := 9) S.1 S.2.1 dC_brokenByRefresh_65 (by decide) ?_
        refine lv_aload_n S.1 S.2.1 dC_brokenByRefresh_67 rfl (lv_at hl 0 rfl) ?_
        refine kb_get S w 11 rfl fC_40 rfl dC_brokenByRefresh_68 ?_
        refine W.eq (g2 := F0 m 71 ls [.int (z.1 11 2), .int 9, .ref (a 11)]) rfl ?_
        obtain ⟨r2, z1, hc3, h⟩ := kb_cl_of h
        refine kb_calli (As := [.int 9, .int (z.1 11 2)]) (rest := []) (q0 := 11) (ci := 0) S w (fun sz => cC_isTooSoon_11 l D cI cQ a nb Q L _ _ _ sz 9 (z.1 11 2) hc3) Y_C_isTooSoon I_C_isTooSoon S_C_isTooSoon lC_58 ⟨rfl, rfl, Nat.le_of_ble_eq_true rfl, Nat.le_of_ble_eq_true rfl⟩ rfl rfl rfl rfl hl.1 rfl (Nat.le_of_ble_eq_true rfl) dC_brokenByRefresh_71 ⟨Nat.le_of_ble_eq_true rfl, Nat.le_of_ble_eq_true rfl⟩ (fun H locs w => ?_)
        refine lv_if_eq (tgt := 82) S.1 S.2.1 dC_brokenByRefresh_74 (by decide) (fun hc => ?_) (fun hc => ?_)
        · have h := (kb_brt hc).symm.trans h
          refine lv_iconst (v := 0) S.1 S.2.1 dC_brokenByRefresh_82 (by decide) ?_
          exact kb_iret (bW cI cQ a nb Q L) S hr hlk hA w h dC_brokenByRefresh_83
        · have h := (kb_brf hc).symm.trans h
          refine lv_bipush (v := 16) S.1 S.2.1 dC_brokenByRefresh_77 (by decide) ?_
          refine lv_goto (tgt := 83) S.1 S.2.1 dC_brokenByRefresh_79 (by decide) ?_
          exact kb_iret (bW cI cQ a nb Q L) S hr hlk hA w h dC_brokenByRefresh_83
      · have h := (kb_brf hc).symm.trans h
        refine lv_aload_n S.1 S.2.1 dC_brokenByRefresh_41 rfl (lv_at hl 0 rfl) ?_
        refine lv_iconst (v := 1) S.1 S.2.1 dC_brokenByRefresh_42 (by decide) ?_
        refine lv_aload_n S.1 S.2.1 dC_brokenByRefresh_43 rfl (lv_at hl 0 rfl) ?_
        refine kb_get S w 11 rfl fC_21 rfl dC_brokenByRefresh_44 ?_
        refine W.eq (g2 := F0 m 47 ls [.ref (a 14), .int 1, .ref (a 11)]) rfl ?_
        refine lv_iload_n S.1 S.2.1 dC_brokenByRefresh_47 rfl (lv_at hl 1 rfl) ?_
        obtain ⟨hi4, h⟩ := kb_ck_of h
        refine kb_iald S w 14 0 rfl rfl hi4 dC_brokenByRefresh_48 ?_
        refine W.eq (g2 := F0 m 49 ls [.int (z.1 14 (kb_ix (x1))), .int 1, .ref (a 11)]) rfl ?_
        obtain ⟨r6, z5, hc7, h⟩ := kb_cl_of h
        refine kb_calli (As := [.int 1, .int (z.1 14 (kb_ix (x1)))]) (rest := []) (q0 := 11) (ci := 0) S w (fun sz => cC_isTooSoon_11 l D cI cQ a nb Q L _ _ _ sz 1 (z.1 14 (kb_ix (x1))) hc7) Y_C_isTooSoon I_C_isTooSoon S_C_isTooSoon lC_58 ⟨rfl, rfl, Nat.le_of_ble_eq_true rfl, Nat.le_of_ble_eq_true rfl⟩ rfl rfl rfl rfl hl.1 rfl (Nat.le_of_ble_eq_true rfl) dC_brokenByRefresh_49 ⟨Nat.le_of_ble_eq_true rfl, Nat.le_of_ble_eq_true rfl⟩ (fun H locs w => ?_)
        refine lv_if_eq (tgt := 58) S.1 S.2.1 dC_brokenByRefresh_52 (by decide) (fun hc => ?_) (fun hc => ?_)
        · have h := (kb_brt hc).symm.trans h
          refine lv_iinc (v := x1 + 1) (k := 1) S.1 S.2.1 dC_brokenByRefresh_58 hl rfl rfl (by decide) rfl (fun ls hl => ?_)
          have hl : lv_has ls 2 [(1, .int (x1 + 1)), (0, .ref (a 11))] := hl
          refine lv_goto (tgt := 32) S.1 S.2.1 dC_brokenByRefresh_61 (by decide) ?_
          exact ih (x1 + 1) z5 _ _ _ (lv_sub hl [1, 0] rfl) w h
        · have h := (kb_brf hc).symm.trans h
          refine lv_bipush (v := 15) S.1 S.2.1 dC_brokenByRefresh_55 (by decide) ?_
          exact kb_iret (bW cI cQ a nb Q L) S hr hlk hA w h dC_brokenByRefresh_57
  have L2 : ∀ (n : Nat) (x1 : Int32) (z : kc_S) (H : Heap) (locs : List Loc) (ls : Array Slot), lv_has ls 2 [(0, .ref (a 11)), (1, .int x1)] → kb_W D vwCl [(cI, .int), (cQ, .object RReq)] A s H locs (bW cI cQ a nb Q L z) → pC_brokenByRefresh_L2 11 nb Q L n x1 z = some (r, z') → W p l e rm_C_brokenByRefresh s m args below meth c H locs 0 0 (MQ below (kb_Qi D vwCl sz (bW cI cQ a nb Q L z0) r (bW cI cQ a nb Q L z')) args s 0 0 (va_A (bW cI cQ a nb Q L z0) sz)) (F0 m 2 ls []) := by
    intro n
    induction n with
    | zero =>
      intro x1 z H locs ls hl w h
      exact absurd h (by simp [pC_brokenByRefresh_L2])
    | succ n ih =>
      intro x1 z H locs ls hl w h
      rw [pC_brokenByRefresh_L2] at h
      refine lv_iload_n S.1 S.2.1 dC_brokenByRefresh_2 rfl (lv_at hl 1 rfl) ?_
      refine lv_aload_n S.1 S.2.1 dC_brokenByRefresh_3 rfl (lv_at hl 0 rfl) ?_
      refine kb_get S w 11 rfl fC_15 rfl dC_brokenByRefresh_4 ?_
      refine W.eq (g2 := F0 m 7 ls [.ref (a 12), .int x1]) rfl ?_
      refine kb_alen S w 12 0 rfl rfl rfl dC_brokenByRefresh_7 ?_
      refine W.eq (g2 := F0 m 8 ls [.int (nI nb), .int x1]) rfl ?_
      refine lv_icmp_ge (tgt := 30) S.1 S.2.1 dC_brokenByRefresh_8 (by decide) (fun hc => ?_) (fun hc => ?_)
      · have h := (kb_brt hc).symm.trans h
        refine lv_iconst (v := 0) S.1 S.2.1 dC_brokenByRefresh_30 (by decide) ?_
        refine lv_istore_n S.1 S.2.1 dC_brokenByRefresh_31 rfl hl (by decide) rfl (fun ls hl => ?_)
        have hl : lv_has ls 2 [(1, .int 0), (0, .ref (a 11))] := hl
        exact L32 3000 0 z _ _ _ (lv_sub hl [1, 0] rfl) w h
      · have h := (kb_brf hc).symm.trans h
        refine lv_aload_n S.1 S.2.1 dC_brokenByRefresh_11 rfl (lv_at hl 0 rfl) ?_
        refine kb_get S w 11 rfl fC_15 rfl dC_brokenByRefresh_12 ?_
        refine W.eq (g2 := F0 m 15 ls [.ref (a 12)]) rfl ?_
        refine lv_iload_n S.1 S.2.1 dC_brokenByRefresh_15 rfl (lv_at hl 1 rfl) ?_
        obtain ⟨hi8, h⟩ := kb_ck_of h
        refine kb_iald S w 12 0 rfl rfl hi8 dC_brokenByRefresh_16 ?_
        refine W.eq (g2 := F0 m 17 ls [.int (z.1 12 (kb_ix (x1)))]) rfl ?_
        refine lv_iconst (v := (-1)) S.1 S.2.1 dC_brokenByRefresh_17 (by decide) ?_
        refine lv_icmp_eq (tgt := 24) S.1 S.2.1 dC_brokenByRefresh_18 (by decide) (fun hc => ?_) (fun hc => ?_)
        · have h := (kb_brt hc).symm.trans h
          refine lv_iinc (v := x1 + 1) (k := 1) S.1 S.2.1 dC_brokenByRefresh_24 hl rfl rfl (by decide) rfl (fun ls hl => ?_)
          have hl : lv_has ls 2 [(1, .int (x1 + 1)), (0, .ref (a 11))] := hl
          refine lv_goto (tgt := 2) S.1 S.2.1 dC_brokenByRefresh_27 (by decide) ?_
          exact ih (x1 + 1) z _ _ _ (lv_sub hl [1, 0] rfl) w h
        · have h := (kb_brf hc).symm.trans h
          refine lv_bipush (v := 14) S.1 S.2.1 dC_brokenByRefresh_21 (by decide) ?_
          exact kb_iret (bW cI cQ a nb Q L) S hr hlk hA w h dC_brokenByRefresh_23
  refine lv_iconst (v := 0) S.1 S.2.1 dC_brokenByRefresh_0 (by decide) ?_
  refine lv_istore_n S.1 S.2.1 dC_brokenByRefresh_1 rfl hl (by decide) rfl (fun ls hl => ?_)
  have hl : lv_has ls 2 [(1, .int 0), (0, .ref (a 11))] := hl
  exact L2 3000 0 z0 _ _ _ (lv_sub hl [1, 0] rfl) w h
set_option maxHeartbeats 4000000 in
set_option maxRecDepth 100000 in
theorem cC_give_3 (l : Launch) (D : va_G) (cI cQ : ClassId) (a : Nat → Nat) (nb Q : Nat) (L : List Nat) (z0 z' : kc_S) (r : Int32) (sz : Nat) (x1 : Int32) (x2 : Int32) (x3 : Int32) (h : pC_give 3 nb Q L x1 x2 x3 z0 = some (r, z')) : Met l y_C_give (Cond.code y_C_give c_C_give 4 none :: wsB) rm_C_give (kb_Pc D vwCl [(cI, .int), (cQ, .object RReq)] sz [.ref (a 3), .int x1, .int x2, .int x3] (bW cI cQ a nb Q L z0)) (kb_Qv D vwCl sz (bW cI cQ a nb Q L z0) (bW cI cQ a nb Q L z')) 0 0 (va_A (bW cI cQ a nb Q L z0) sz) := by
  refine kb_start (by decide) rfl (Nat.le_of_ble_eq_true rfl) ?_
  intro p e s m args below meth c A ls S hr hlk hsz hA w hl
  have hl : lv_has ls 4 [(0, .ref (a 3)), (1, .int x1), (2, .int x2), (3, .int x3)] := hl
  unfold pC_give at h
  refine lv_aload_n S.1 S.2.1 dC_give_0 rfl (lv_at hl 0 rfl) ?_
  refine kb_get S w 3 rfl fC_33 rfl dC_give_1 ?_
  refine W.eq (g2 := F0 m 4 ls [.ref (a 10)]) rfl ?_
  refine lv_iload_n S.1 S.2.1 dC_give_4 rfl (lv_at hl 1 rfl) ?_
  refine lv_dup2_11 S.1 S.2.1 dC_give_5 rfl rfl ?_
  obtain ⟨hi1, h⟩ := kb_ck_of h
  refine kb_iald S w 10 0 rfl rfl hi1 dC_give_6 ?_
  refine W.eq (g2 := F0 m 7 ls [.int (z0.1 10 (kb_ix (x1))), .int x1, .ref (a 10)]) rfl ?_
  refine lv_iconst (v := 1) S.1 S.2.1 dC_give_7 (by decide) ?_
  refine lv_iadd S.1 S.2.1 dC_give_8 ?_
  obtain ⟨hi2, h⟩ := kb_ck_of h
  obtain ⟨z3, hz4, h⟩ := kb_st_of h
  refine kb_iast S w 10 0 rfl rfl hi2 (ws1 := bW cI cQ a nb Q L z3) (by rw [hz4]; rfl) dC_give_9 (fun H locs w => ?_)
  refine lv_iload_n S.1 S.2.1 dC_give_10 rfl (lv_at hl 1 rfl) ?_
  by_cases hs11_0 : (x1).toInt = 0
  · have h := (kb_brt hs11_0).symm.trans h
    refine lv_tableIn (tgt := 40) S.1 S.2.1 dC_give_11 (by omega) (by omega) (by rw [hs11_0]; rfl) (by decide) ?_
    refine lv_aload_n S.1 S.2.1 dC_give_40 rfl (lv_at hl 0 rfl) ?_
    refine kb_get S w 3 rfl fC_30 rfl dC_give_41 ?_
    refine W.eq (g2 := F0 m 44 ls [.ref (a 9)]) rfl ?_
    refine lv_aload_n S.1 S.2.1 dC_give_44 rfl (lv_at hl 0 rfl) ?_
    refine kb_get S w 3 rfl fC_66 rfl dC_give_45 ?_
    refine W.eq (g2 := F0 m 48 ls [.int (z3.1 3 0), .ref (a 9)]) rfl ?_
    refine lv_aload_n S.1 S.2.1 dC_give_48 rfl (lv_at hl 0 rfl) ?_
    refine kb_get S w 3 rfl fC_69 rfl dC_give_49 ?_
    refine W.eq (g2 := F0 m 52 ls [.int (z3.1 3 3), .int (z3.1 3 0), .ref (a 9)]) rfl ?_
    obtain ⟨hi5, h⟩ := kb_ck_of h
    obtain ⟨z6, hz7, h⟩ := kb_st_of h
    refine kb_iast S w 9 0 rfl rfl hi5 (ws1 := bW cI cQ a nb Q L z6) (by rw [hz7]; rfl) dC_give_52 (fun H locs w => ?_)
    refine lv_aload_n S.1 S.2.1 dC_give_53 rfl (lv_at hl 0 rfl) ?_
    refine lv_aload_n S.1 S.2.1 dC_give_54 rfl (lv_at hl 0 rfl) ?_
    refine kb_get S w 3 rfl fC_66 rfl dC_give_55 ?_
    refine W.eq (g2 := F0 m 58 ls [.int (z6.1 3 0), .ref (a 3)]) rfl ?_
    refine lv_iconst (v := 1) S.1 S.2.1 dC_give_58 (by decide) ?_
    refine lv_iadd S.1 S.2.1 dC_give_59 ?_
    refine lv_iconst (v := 4) S.1 S.2.1 dC_give_60 (by decide) ?_
    refine lv_irem S.1 S.2.1 dC_give_61 (by decide) ?_
    obtain ⟨z8, hz9, h⟩ := kb_st_of h
    refine kb_puti S w 3 rfl gC_66 (Nat.le_of_ble_eq_true rfl) (ws1 := bW cI cQ a nb Q L z8) (by rw [hz9]; rfl) dC_give_62 (fun H locs w => ?_)
    refine lv_aload_n S.1 S.2.1 dC_give_65 rfl (lv_at hl 0 rfl) ?_
    refine kb_get S w 3 rfl fC_18 rfl dC_give_66 ?_
    refine W.eq (g2 := F0 m 69 ls [.ref (a 5)]) rfl ?_
    refine lv_iload_n S.1 S.2.1 dC_give_69 rfl (lv_at hl 2 rfl) ?_
    refine lv_aload_n S.1 S.2.1 dC_give_70 rfl (lv_at hl 0 rfl) ?_
    refine kb_get S w 3 rfl fC_69 rfl dC_give_71 ?_
    refine W.eq (g2 := F0 m 74 ls [.int (z8.1 3 3), .int x2, .ref (a 5)]) rfl ?_
    obtain ⟨hi10, h⟩ := kb_ck_of h
    obtain ⟨z11, hz12, h⟩ := kb_st_of h
    refine kb_iast S w 5 0 rfl rfl hi10 (ws1 := bW cI cQ a nb Q L z11) (by rw [hz12]; rfl) dC_give_74 (fun H locs w => ?_)
    refine lv_aload_n S.1 S.2.1 dC_give_75 rfl (lv_at hl 0 rfl) ?_
    refine kb_get S w 3 rfl fC_15 rfl dC_give_76 ?_
    refine W.eq (g2 := F0 m 79 ls [.ref (a 4)]) rfl ?_
    refine lv_iload_n S.1 S.2.1 dC_give_79 rfl (lv_at hl 2 rfl) ?_
    refine lv_iload_n S.1 S.2.1 dC_give_80 rfl (lv_at hl 3 rfl) ?_
    obtain ⟨hi13, h⟩ := kb_ck_of h
    obtain ⟨z14, hz15, h⟩ := kb_st_of h
    refine kb_iast S w 4 0 rfl rfl hi13 (ws1 := bW cI cQ a nb Q L z14) (by rw [hz15]; rfl) dC_give_81 (fun H locs w => ?_)
    refine lv_goto (tgt := 155) S.1 S.2.1 dC_give_82 (by decide) ?_
    exact kb_vret (bW cI cQ a nb Q L) (v := 0) (r := r) S hr hlk hA w h dC_give_155
  · have h := (kb_brf hs11_0).symm.trans h
    by_cases hs11_1 : (x1).toInt = 1
    · have h := (kb_brt hs11_1).symm.trans h
      refine lv_tableIn (tgt := 85) S.1 S.2.1 dC_give_11 (by omega) (by omega) (by rw [hs11_1]; rfl) (by decide) ?_
      refine lv_aload_n S.1 S.2.1 dC_give_85 rfl (lv_at hl 0 rfl) ?_
      refine kb_get S w 3 rfl fC_21 rfl dC_give_86 ?_
      refine W.eq (g2 := F0 m 89 ls [.ref (a 6)]) rfl ?_
      refine lv_iload_n S.1 S.2.1 dC_give_89 rfl (lv_at hl 2 rfl) ?_
      refine lv_aload_n S.1 S.2.1 dC_give_90 rfl (lv_at hl 0 rfl) ?_
      refine kb_get S w 3 rfl fC_69 rfl dC_give_91 ?_
      refine W.eq (g2 := F0 m 94 ls [.int (z3.1 3 3), .int x2, .ref (a 6)]) rfl ?_
      obtain ⟨hi16, h⟩ := kb_ck_of h
      obtain ⟨z17, hz18, h⟩ := kb_st_of h
      refine kb_iast S w 6 0 rfl rfl hi16 (ws1 := bW cI cQ a nb Q L z17) (by rw [hz18]; rfl) dC_give_94 (fun H locs w => ?_)
      refine lv_aload_n S.1 S.2.1 dC_give_95 rfl (lv_at hl 0 rfl) ?_
      refine kb_get S w 3 rfl fC_15 rfl dC_give_96 ?_
      refine W.eq (g2 := F0 m 99 ls [.ref (a 4)]) rfl ?_
      refine lv_iload_n S.1 S.2.1 dC_give_99 rfl (lv_at hl 2 rfl) ?_
      refine lv_iconst (v := (-1)) S.1 S.2.1 dC_give_100 (by decide) ?_
      obtain ⟨hi19, h⟩ := kb_ck_of h
      obtain ⟨z20, hz21, h⟩ := kb_st_of h
      refine kb_iast S w 4 0 rfl rfl hi19 (ws1 := bW cI cQ a nb Q L z20) (by rw [hz21]; rfl) dC_give_101 (fun H locs w => ?_)
      refine lv_goto (tgt := 155) S.1 S.2.1 dC_give_102 (by decide) ?_
      exact kb_vret (bW cI cQ a nb Q L) (v := 0) (r := r) S hr hlk hA w h dC_give_155
    · have h := (kb_brf hs11_1).symm.trans h
      by_cases hs11_2 : (x1).toInt = 2
      · have h := (kb_brt hs11_2).symm.trans h
        refine lv_tableIn (tgt := 105) S.1 S.2.1 dC_give_11 (by omega) (by omega) (by rw [hs11_2]; rfl) (by decide) ?_
        refine lv_aload_n S.1 S.2.1 dC_give_105 rfl (lv_at hl 0 rfl) ?_
        refine kb_get S w 3 rfl fC_24 rfl dC_give_106 ?_
        refine W.eq (g2 := F0 m 109 ls [.ref (a 7)]) rfl ?_
        refine lv_iload_n S.1 S.2.1 dC_give_109 rfl (lv_at hl 2 rfl) ?_
        refine lv_aload_n S.1 S.2.1 dC_give_110 rfl (lv_at hl 0 rfl) ?_
        refine kb_get S w 3 rfl fC_69 rfl dC_give_111 ?_
        refine W.eq (g2 := F0 m 114 ls [.int (z3.1 3 3), .int x2, .ref (a 7)]) rfl ?_
        obtain ⟨hi22, h⟩ := kb_ck_of h
        obtain ⟨z23, hz24, h⟩ := kb_st_of h
        refine kb_iast S w 7 0 rfl rfl hi22 (ws1 := bW cI cQ a nb Q L z23) (by rw [hz24]; rfl) dC_give_114 (fun H locs w => ?_)
        refine lv_aload_n S.1 S.2.1 dC_give_115 rfl (lv_at hl 0 rfl) ?_
        refine lv_aload_n S.1 S.2.1 dC_give_116 rfl (lv_at hl 0 rfl) ?_
        refine kb_get S w 3 rfl fC_69 rfl dC_give_117 ?_
        refine W.eq (g2 := F0 m 120 ls [.int (z23.1 3 3), .ref (a 3)]) rfl ?_
        obtain ⟨z25, hz26, h⟩ := kb_st_of h
        refine kb_puti S w 3 rfl gC_36 (Nat.le_of_ble_eq_true rfl) (ws1 := bW cI cQ a nb Q L z25) (by rw [hz26]; rfl) dC_give_120 (fun H locs w => ?_)
        refine lv_goto (tgt := 155) S.1 S.2.1 dC_give_123 (by decide) ?_
        exact kb_vret (bW cI cQ a nb Q L) (v := 0) (r := r) S hr hlk hA w h dC_give_155
      · have h := (kb_brf hs11_2).symm.trans h
        by_cases hs11_3 : (x1).toInt = 3
        · have h := (kb_brt hs11_3).symm.trans h
          refine lv_tableIn (tgt := 126) S.1 S.2.1 dC_give_11 (by omega) (by omega) (by rw [hs11_3]; rfl) (by decide) ?_
          refine lv_aload_n S.1 S.2.1 dC_give_126 rfl (lv_at hl 0 rfl) ?_
          refine kb_get S w 3 rfl fC_27 rfl dC_give_127 ?_
          refine W.eq (g2 := F0 m 130 ls [.ref (a 8)]) rfl ?_
          refine lv_iload_n S.1 S.2.1 dC_give_130 rfl (lv_at hl 2 rfl) ?_
          refine lv_aload_n S.1 S.2.1 dC_give_131 rfl (lv_at hl 0 rfl) ?_
          refine kb_get S w 3 rfl fC_69 rfl dC_give_132 ?_
          refine W.eq (g2 := F0 m 135 ls [.int (z3.1 3 3), .int x2, .ref (a 8)]) rfl ?_
          obtain ⟨hi27, h⟩ := kb_ck_of h
          obtain ⟨z28, hz29, h⟩ := kb_st_of h
          refine kb_iast S w 8 0 rfl rfl hi27 (ws1 := bW cI cQ a nb Q L z28) (by rw [hz29]; rfl) dC_give_135 (fun H locs w => ?_)
          refine lv_aload_n S.1 S.2.1 dC_give_136 rfl (lv_at hl 0 rfl) ?_
          refine lv_aload_n S.1 S.2.1 dC_give_137 rfl (lv_at hl 0 rfl) ?_
          refine kb_get S w 3 rfl fC_69 rfl dC_give_138 ?_
          refine W.eq (g2 := F0 m 141 ls [.int (z28.1 3 3), .ref (a 3)]) rfl ?_
          obtain ⟨z30, hz31, h⟩ := kb_st_of h
          refine kb_puti S w 3 rfl gC_36 (Nat.le_of_ble_eq_true rfl) (ws1 := bW cI cQ a nb Q L z30) (by rw [hz31]; rfl) dC_give_141 (fun H locs w => ?_)
          refine lv_goto (tgt := 155) S.1 S.2.1 dC_give_144 (by decide) ?_
          exact kb_vret (bW cI cQ a nb Q L) (v := 0) (r := r) S hr hlk hA w h dC_give_155
        · have h := (kb_brf hs11_3).symm.trans h
          refine lv_tableOut (tgt := 147) S.1 S.2.1 dC_give_11 (by omega) (by decide) ?_
          refine lv_aload_n S.1 S.2.1 dC_give_147 rfl (lv_at hl 0 rfl) ?_
          refine lv_aload_n S.1 S.2.1 dC_give_148 rfl (lv_at hl 0 rfl) ?_
          refine kb_get S w 3 rfl fC_69 rfl dC_give_149 ?_
          refine W.eq (g2 := F0 m 152 ls [.int (z3.1 3 3), .ref (a 3)]) rfl ?_
          obtain ⟨z32, hz33, h⟩ := kb_st_of h
          refine kb_puti S w 3 rfl gC_40 (Nat.le_of_ble_eq_true rfl) (ws1 := bW cI cQ a nb Q L z32) (by rw [hz33]; rfl) dC_give_152 (fun H locs w => ?_)
          exact kb_vret (bW cI cQ a nb Q L) (v := 0) (r := r) S hr hlk hA w h dC_give_155
set_option maxHeartbeats 4000000 in
set_option maxRecDepth 100000 in
theorem cC_give_11 (l : Launch) (D : va_G) (cI cQ : ClassId) (a : Nat → Nat) (nb Q : Nat) (L : List Nat) (z0 z' : kc_S) (r : Int32) (sz : Nat) (x1 : Int32) (x2 : Int32) (x3 : Int32) (h : pC_give 11 nb Q L x1 x2 x3 z0 = some (r, z')) : Met l y_C_give (Cond.code y_C_give c_C_give 4 none :: wsB) rm_C_give (kb_Pc D vwCl [(cI, .int), (cQ, .object RReq)] sz [.ref (a 11), .int x1, .int x2, .int x3] (bW cI cQ a nb Q L z0)) (kb_Qv D vwCl sz (bW cI cQ a nb Q L z0) (bW cI cQ a nb Q L z')) 0 0 (va_A (bW cI cQ a nb Q L z0) sz) := by
  refine kb_start (by decide) rfl (Nat.le_of_ble_eq_true rfl) ?_
  intro p e s m args below meth c A ls S hr hlk hsz hA w hl
  have hl : lv_has ls 4 [(0, .ref (a 11)), (1, .int x1), (2, .int x2), (3, .int x3)] := hl
  unfold pC_give at h
  refine lv_aload_n S.1 S.2.1 dC_give_0 rfl (lv_at hl 0 rfl) ?_
  refine kb_get S w 11 rfl fC_33 rfl dC_give_1 ?_
  refine W.eq (g2 := F0 m 4 ls [.ref (a 18)]) rfl ?_
  refine lv_iload_n S.1 S.2.1 dC_give_4 rfl (lv_at hl 1 rfl) ?_
  refine lv_dup2_11 S.1 S.2.1 dC_give_5 rfl rfl ?_
  obtain ⟨hi1, h⟩ := kb_ck_of h
  refine kb_iald S w 18 0 rfl rfl hi1 dC_give_6 ?_
  refine W.eq (g2 := F0 m 7 ls [.int (z0.1 18 (kb_ix (x1))), .int x1, .ref (a 18)]) rfl ?_
  refine lv_iconst (v := 1) S.1 S.2.1 dC_give_7 (by decide) ?_
  refine lv_iadd S.1 S.2.1 dC_give_8 ?_
  obtain ⟨hi2, h⟩ := kb_ck_of h
  obtain ⟨z3, hz4, h⟩ := kb_st_of h
  refine kb_iast S w 18 0 rfl rfl hi2 (ws1 := bW cI cQ a nb Q L z3) (by rw [hz4]; rfl) dC_give_9 (fun H locs w => ?_)
  refine lv_iload_n S.1 S.2.1 dC_give_10 rfl (lv_at hl 1 rfl) ?_
  by_cases hs11_0 : (x1).toInt = 0
  · have h := (kb_brt hs11_0).symm.trans h
    refine lv_tableIn (tgt := 40) S.1 S.2.1 dC_give_11 (by omega) (by omega) (by rw [hs11_0]; rfl) (by decide) ?_
    refine lv_aload_n S.1 S.2.1 dC_give_40 rfl (lv_at hl 0 rfl) ?_
    refine kb_get S w 11 rfl fC_30 rfl dC_give_41 ?_
    refine W.eq (g2 := F0 m 44 ls [.ref (a 17)]) rfl ?_
    refine lv_aload_n S.1 S.2.1 dC_give_44 rfl (lv_at hl 0 rfl) ?_
    refine kb_get S w 11 rfl fC_66 rfl dC_give_45 ?_
    refine W.eq (g2 := F0 m 48 ls [.int (z3.1 11 0), .ref (a 17)]) rfl ?_
    refine lv_aload_n S.1 S.2.1 dC_give_48 rfl (lv_at hl 0 rfl) ?_
    refine kb_get S w 11 rfl fC_69 rfl dC_give_49 ?_
    refine W.eq (g2 := F0 m 52 ls [.int (z3.1 11 3), .int (z3.1 11 0), .ref (a 17)]) rfl ?_
    obtain ⟨hi5, h⟩ := kb_ck_of h
    obtain ⟨z6, hz7, h⟩ := kb_st_of h
    refine kb_iast S w 17 0 rfl rfl hi5 (ws1 := bW cI cQ a nb Q L z6) (by rw [hz7]; rfl) dC_give_52 (fun H locs w => ?_)
    refine lv_aload_n S.1 S.2.1 dC_give_53 rfl (lv_at hl 0 rfl) ?_
    refine lv_aload_n S.1 S.2.1 dC_give_54 rfl (lv_at hl 0 rfl) ?_
    refine kb_get S w 11 rfl fC_66 rfl dC_give_55 ?_
    refine W.eq (g2 := F0 m 58 ls [.int (z6.1 11 0), .ref (a 11)]) rfl ?_
    refine lv_iconst (v := 1) S.1 S.2.1 dC_give_58 (by decide) ?_
    refine lv_iadd S.1 S.2.1 dC_give_59 ?_
    refine lv_iconst (v := 4) S.1 S.2.1 dC_give_60 (by decide) ?_
    refine lv_irem S.1 S.2.1 dC_give_61 (by decide) ?_
    obtain ⟨z8, hz9, h⟩ := kb_st_of h
    refine kb_puti S w 11 rfl gC_66 (Nat.le_of_ble_eq_true rfl) (ws1 := bW cI cQ a nb Q L z8) (by rw [hz9]; rfl) dC_give_62 (fun H locs w => ?_)
    refine lv_aload_n S.1 S.2.1 dC_give_65 rfl (lv_at hl 0 rfl) ?_
    refine kb_get S w 11 rfl fC_18 rfl dC_give_66 ?_
    refine W.eq (g2 := F0 m 69 ls [.ref (a 13)]) rfl ?_
    refine lv_iload_n S.1 S.2.1 dC_give_69 rfl (lv_at hl 2 rfl) ?_
    refine lv_aload_n S.1 S.2.1 dC_give_70 rfl (lv_at hl 0 rfl) ?_
    refine kb_get S w 11 rfl fC_69 rfl dC_give_71 ?_
    refine W.eq (g2 := F0 m 74 ls [.int (z8.1 11 3), .int x2, .ref (a 13)]) rfl ?_
    obtain ⟨hi10, h⟩ := kb_ck_of h
    obtain ⟨z11, hz12, h⟩ := kb_st_of h
    refine kb_iast S w 13 0 rfl rfl hi10 (ws1 := bW cI cQ a nb Q L z11) (by rw [hz12]; rfl) dC_give_74 (fun H locs w => ?_)
    refine lv_aload_n S.1 S.2.1 dC_give_75 rfl (lv_at hl 0 rfl) ?_
    refine kb_get S w 11 rfl fC_15 rfl dC_give_76 ?_
    refine W.eq (g2 := F0 m 79 ls [.ref (a 12)]) rfl ?_
    refine lv_iload_n S.1 S.2.1 dC_give_79 rfl (lv_at hl 2 rfl) ?_
    refine lv_iload_n S.1 S.2.1 dC_give_80 rfl (lv_at hl 3 rfl) ?_
    obtain ⟨hi13, h⟩ := kb_ck_of h
    obtain ⟨z14, hz15, h⟩ := kb_st_of h
    refine kb_iast S w 12 0 rfl rfl hi13 (ws1 := bW cI cQ a nb Q L z14) (by rw [hz15]; rfl) dC_give_81 (fun H locs w => ?_)
    refine lv_goto (tgt := 155) S.1 S.2.1 dC_give_82 (by decide) ?_
    exact kb_vret (bW cI cQ a nb Q L) (v := 0) (r := r) S hr hlk hA w h dC_give_155
  · have h := (kb_brf hs11_0).symm.trans h
    by_cases hs11_1 : (x1).toInt = 1
    · have h := (kb_brt hs11_1).symm.trans h
      refine lv_tableIn (tgt := 85) S.1 S.2.1 dC_give_11 (by omega) (by omega) (by rw [hs11_1]; rfl) (by decide) ?_
      refine lv_aload_n S.1 S.2.1 dC_give_85 rfl (lv_at hl 0 rfl) ?_
      refine kb_get S w 11 rfl fC_21 rfl dC_give_86 ?_
      refine W.eq (g2 := F0 m 89 ls [.ref (a 14)]) rfl ?_
      refine lv_iload_n S.1 S.2.1 dC_give_89 rfl (lv_at hl 2 rfl) ?_
      refine lv_aload_n S.1 S.2.1 dC_give_90 rfl (lv_at hl 0 rfl) ?_
      refine kb_get S w 11 rfl fC_69 rfl dC_give_91 ?_
      refine W.eq (g2 := F0 m 94 ls [.int (z3.1 11 3), .int x2, .ref (a 14)]) rfl ?_
      obtain ⟨hi16, h⟩ := kb_ck_of h
      obtain ⟨z17, hz18, h⟩ := kb_st_of h
      refine kb_iast S w 14 0 rfl rfl hi16 (ws1 := bW cI cQ a nb Q L z17) (by rw [hz18]; rfl) dC_give_94 (fun H locs w => ?_)
      refine lv_aload_n S.1 S.2.1 dC_give_95 rfl (lv_at hl 0 rfl) ?_
      refine kb_get S w 11 rfl fC_15 rfl dC_give_96 ?_
      refine W.eq (g2 := F0 m 99 ls [.ref (a 12)]) rfl ?_
      refine lv_iload_n S.1 S.2.1 dC_give_99 rfl (lv_at hl 2 rfl) ?_
      refine lv_iconst (v := (-1)) S.1 S.2.1 dC_give_100 (by decide) ?_
      obtain ⟨hi19, h⟩ := kb_ck_of h
      obtain ⟨z20, hz21, h⟩ := kb_st_of h
      refine kb_iast S w 12 0 rfl rfl hi19 (ws1 := bW cI cQ a nb Q L z20) (by rw [hz21]; rfl) dC_give_101 (fun H locs w => ?_)
      refine lv_goto (tgt := 155) S.1 S.2.1 dC_give_102 (by decide) ?_
      exact kb_vret (bW cI cQ a nb Q L) (v := 0) (r := r) S hr hlk hA w h dC_give_155
    · have h := (kb_brf hs11_1).symm.trans h
      by_cases hs11_2 : (x1).toInt = 2
      · have h := (kb_brt hs11_2).symm.trans h
        refine lv_tableIn (tgt := 105) S.1 S.2.1 dC_give_11 (by omega) (by omega) (by rw [hs11_2]; rfl) (by decide) ?_
        refine lv_aload_n S.1 S.2.1 dC_give_105 rfl (lv_at hl 0 rfl) ?_
        refine kb_get S w 11 rfl fC_24 rfl dC_give_106 ?_
        refine W.eq (g2 := F0 m 109 ls [.ref (a 15)]) rfl ?_
        refine lv_iload_n S.1 S.2.1 dC_give_109 rfl (lv_at hl 2 rfl) ?_
        refine lv_aload_n S.1 S.2.1 dC_give_110 rfl (lv_at hl 0 rfl) ?_
        refine kb_get S w 11 rfl fC_69 rfl dC_give_111 ?_
        refine W.eq (g2 := F0 m 114 ls [.int (z3.1 11 3), .int x2, .ref (a 15)]) rfl ?_
        obtain ⟨hi22, h⟩ := kb_ck_of h
        obtain ⟨z23, hz24, h⟩ := kb_st_of h
        refine kb_iast S w 15 0 rfl rfl hi22 (ws1 := bW cI cQ a nb Q L z23) (by rw [hz24]; rfl) dC_give_114 (fun H locs w => ?_)
        refine lv_aload_n S.1 S.2.1 dC_give_115 rfl (lv_at hl 0 rfl) ?_
        refine lv_aload_n S.1 S.2.1 dC_give_116 rfl (lv_at hl 0 rfl) ?_
        refine kb_get S w 11 rfl fC_69 rfl dC_give_117 ?_
        refine W.eq (g2 := F0 m 120 ls [.int (z23.1 11 3), .ref (a 11)]) rfl ?_
        obtain ⟨z25, hz26, h⟩ := kb_st_of h
        refine kb_puti S w 11 rfl gC_36 (Nat.le_of_ble_eq_true rfl) (ws1 := bW cI cQ a nb Q L z25) (by rw [hz26]; rfl) dC_give_120 (fun H locs w => ?_)
        refine lv_goto (tgt := 155) S.1 S.2.1 dC_give_123 (by decide) ?_
        exact kb_vret (bW cI cQ a nb Q L) (v := 0) (r := r) S hr hlk hA w h dC_give_155
      · have h := (kb_brf hs11_2).symm.trans h
        by_cases hs11_3 : (x1).toInt = 3
        · have h := (kb_brt hs11_3).symm.trans h
          refine lv_tableIn (tgt := 126) S.1 S.2.1 dC_give_11 (by omega) (by omega) (by rw [hs11_3]; rfl) (by decide) ?_
          refine lv_aload_n S.1 S.2.1 dC_give_126 rfl (lv_at hl 0 rfl) ?_
          refine kb_get S w 11 rfl fC_27 rfl dC_give_127 ?_
          refine W.eq (g2 := F0 m 130 ls [.ref (a 16)]) rfl ?_
          refine lv_iload_n S.1 S.2.1 dC_give_130 rfl (lv_at hl 2 rfl) ?_
          refine lv_aload_n S.1 S.2.1 dC_give_131 rfl (lv_at hl 0 rfl) ?_
          refine kb_get S w 11 rfl fC_69 rfl dC_give_132 ?_
          refine W.eq (g2 := F0 m 135 ls [.int (z3.1 11 3), .int x2, .ref (a 16)]) rfl ?_
          obtain ⟨hi27, h⟩ := kb_ck_of h
          obtain ⟨z28, hz29, h⟩ := kb_st_of h
          refine kb_iast S w 16 0 rfl rfl hi27 (ws1 := bW cI cQ a nb Q L z28) (by rw [hz29]; rfl) dC_give_135 (fun H locs w => ?_)
          refine lv_aload_n S.1 S.2.1 dC_give_136 rfl (lv_at hl 0 rfl) ?_
          refine lv_aload_n S.1 S.2.1 dC_give_137 rfl (lv_at hl 0 rfl) ?_
          refine kb_get S w 11 rfl fC_69 rfl dC_give_138 ?_
          refine W.eq (g2 := F0 m 141 ls [.int (z28.1 11 3), .ref (a 11)]) rfl ?_
          obtain ⟨z30, hz31, h⟩ := kb_st_of h
          refine kb_puti S w 11 rfl gC_36 (Nat.le_of_ble_eq_true rfl) (ws1 := bW cI cQ a nb Q L z30) (by rw [hz31]; rfl) dC_give_141 (fun H locs w => ?_)
          refine lv_goto (tgt := 155) S.1 S.2.1 dC_give_144 (by decide) ?_
          exact kb_vret (bW cI cQ a nb Q L) (v := 0) (r := r) S hr hlk hA w h dC_give_155
        · have h := (kb_brf hs11_3).symm.trans h
          refine lv_tableOut (tgt := 147) S.1 S.2.1 dC_give_11 (by omega) (by decide) ?_
          refine lv_aload_n S.1 S.2.1 dC_give_147 rfl (lv_at hl 0 rfl) ?_
          refine lv_aload_n S.1 S.2.1 dC_give_148 rfl (lv_at hl 0 rfl) ?_
          refine kb_get S w 11 rfl fC_69 rfl dC_give_149 ?_
          refine W.eq (g2 := F0 m 152 ls [.int (z3.1 11 3), .ref (a 11)]) rfl ?_
          obtain ⟨z32, hz33, h⟩ := kb_st_of h
          refine kb_puti S w 11 rfl gC_40 (Nat.le_of_ble_eq_true rfl) (ws1 := bW cI cQ a nb Q L z32) (by rw [hz33]; rfl) dC_give_152 (fun H locs w => ?_)
          exact kb_vret (bW cI cQ a nb Q L) (v := 0) (r := r) S hr hlk hA w h dC_give_155
end
section
set_option maxHeartbeats 4000000 in
set_option maxRecDepth 100000 in
theorem cB_hasRow (l : Launch) (D : va_G) (cI cQ : ClassId) (a : Nat → Nat) (nb Q : Nat) (L : List Nat) (z0 z' : kc_S) (r : Int32) (sz : Nat) (x0 : Int32) (h : pB_hasRow nb Q L x0 z0 = some (r, z')) : Met l y_B_hasRow (Cond.code y_B_hasRow c_B_hasRow 1 (some .boolean) :: wsB) rm_B_hasRow (kb_Pc D vwCl [(cI, .int), (cQ, .object RReq)] sz [.int x0] (bW cI cQ a nb Q L z0)) (kb_Qi D vwCl sz (bW cI cQ a nb Q L z0) r (bW cI cQ a nb Q L z')) 0 0 (va_A (bW cI cQ a nb Q L z0) sz) := by
  refine kb_start (by decide) rfl (Nat.le_of_ble_eq_true rfl) ?_
  intro p e s m args below meth c A ls S hr hlk hsz hA w hl
  have hl : lv_has ls 1 [(0, .int x0)] := hl
  unfold pB_hasRow at h
  refine lv_iload_n S.1 S.2.1 dB_hasRow_0 rfl (lv_at hl 0 rfl) ?_
  refine lv_if_eq (tgt := 14) S.1 S.2.1 dB_hasRow_1 (by decide) (fun hc => ?_) (fun hc => ?_)
  · have h := (kb_brt hc).symm.trans h
    refine lv_iconst (v := 1) S.1 S.2.1 dB_hasRow_14 (by decide) ?_
    refine lv_goto (tgt := 19) S.1 S.2.1 dB_hasRow_15 (by decide) ?_
    exact kb_zret (bW cI cQ a nb Q L) S hr hlk hA w h (by decide) dB_hasRow_19
  · have h := (kb_brf hc).symm.trans h
    refine lv_iload_n S.1 S.2.1 dB_hasRow_4 rfl (lv_at hl 0 rfl) ?_
    refine lv_iconst (v := 2) S.1 S.2.1 dB_hasRow_5 (by decide) ?_
    refine lv_icmp_eq (tgt := 14) S.1 S.2.1 dB_hasRow_6 (by decide) (fun hc => ?_) (fun hc => ?_)
    · have h := (kb_brt hc).symm.trans h
      refine lv_iconst (v := 1) S.1 S.2.1 dB_hasRow_14 (by decide) ?_
      refine lv_goto (tgt := 19) S.1 S.2.1 dB_hasRow_15 (by decide) ?_
      exact kb_zret (bW cI cQ a nb Q L) S hr hlk hA w h (by decide) dB_hasRow_19
    · have h := (kb_brf hc).symm.trans h
      refine lv_iload_n S.1 S.2.1 dB_hasRow_9 rfl (lv_at hl 0 rfl) ?_
      refine lv_iconst (v := 3) S.1 S.2.1 dB_hasRow_10 (by decide) ?_
      refine lv_icmp_ne (tgt := 18) S.1 S.2.1 dB_hasRow_11 (by decide) (fun hc => ?_) (fun hc => ?_)
      · have h := (kb_brf hc).symm.trans h
        refine lv_iconst (v := 0) S.1 S.2.1 dB_hasRow_18 (by decide) ?_
        exact kb_zret (bW cI cQ a nb Q L) S hr hlk hA w h (by decide) dB_hasRow_19
      · have h := (kb_brt hc).symm.trans h
        refine lv_iconst (v := 1) S.1 S.2.1 dB_hasRow_14 (by decide) ?_
        refine lv_goto (tgt := 19) S.1 S.2.1 dB_hasRow_15 (by decide) ?_
        exact kb_zret (bW cI cQ a nb Q L) S hr hlk hA w h (by decide) dB_hasRow_19
set_option maxHeartbeats 4000000 in
set_option maxRecDepth 100000 in
theorem cB_giveCommand (l : Launch) (D : va_G) (cI cQ : ClassId) (a : Nat → Nat) (nb Q : Nat) (L : List Nat) (z0 z' : kc_S) (r : Int32) (sz : Nat) (x1 : Int32) (x2 : Int32) (x3 : Int32) (h : pB_giveCommand nb Q L x1 x2 x3 z0 = some (r, z')) : Met l y_B_giveCommand (Cond.code y_B_giveCommand c_B_giveCommand 5 (some .int) :: wsB) rm_B_giveCommand (kb_Pc D vwCl [(cI, .int), (cQ, .object RReq)] sz [.ref (a 0), .int x1, .int x2, .int x3] (bW cI cQ a nb Q L z0)) (kb_Qi D vwCl sz (bW cI cQ a nb Q L z0) r (bW cI cQ a nb Q L z')) 0 0 (va_A (bW cI cQ a nb Q L z0) sz) := by
  refine kb_start (by decide) rfl (Nat.le_of_ble_eq_true rfl) ?_
  intro p e s m args below meth c A ls S hr hlk hsz hA w hl
  have hl : lv_has ls 5 [(0, .ref (a 0)), (1, .int x1), (2, .int x2), (3, .int x3)] := hl
  unfold pB_giveCommand at h
  have J33 : ∀ (x1 : Int32) (x3 : Int32) (x4 : Int32) (z : kc_S) (H : Heap) (locs : List Loc) (ls : Array Slot), lv_has ls 5 [(1, .int x1), (3, .int x3), (4, .int x4)] → kb_W D vwCl [(cI, .int), (cQ, .object RReq)] A s H locs (bW cI cQ a nb Q L z) → pB_giveCommand_J33 nb Q L x1 x3 x4 z = some (r, z') → W p l e rm_B_giveCommand s m args below meth c H locs 0 0 (MQ below (kb_Qi D vwCl sz (bW cI cQ a nb Q L z0) r (bW cI cQ a nb Q L z')) args s 0 0 (va_A (bW cI cQ a nb Q L z0) sz)) (F0 m 33 ls []) := by
    intro x1 x3 x4 z H locs ls hl w h
    unfold pB_giveCommand_J33 at h
    refine lv_iload_n S.1 S.2.1 dB_giveCommand_33 rfl (lv_at hl 0 rfl) ?_
    obtain ⟨r5, z4, hc6, h⟩ := kb_cl_of h
    refine kb_callS (As := [.int x1]) (rest := []) S w (fun sz => cB_hasRow l D cI cQ a nb Q L _ _ _ sz x1 hc6) Y_B_hasRow T_B_hasRow lB_155 ⟨rfl, rfl, Nat.le_of_ble_eq_true rfl, Nat.le_of_ble_eq_true rfl⟩ rfl hl.1 rfl (Nat.le_of_ble_eq_true rfl) dB_giveCommand_34 ⟨Nat.le_of_ble_eq_true rfl, Nat.le_of_ble_eq_true rfl⟩ (fun H locs w => ?_)
    refine lv_if_eq (tgt := 46) S.1 S.2.1 dB_giveCommand_37 (by decide) (fun hc => ?_) (fun hc => ?_)
    · have h := (kb_brt hc).symm.trans h
      refine lv_iload S.1 S.2.1 dB_giveCommand_46 (lv_at hl 2 rfl) ?_
      exact kb_iret (bW cI cQ a nb Q L) S hr hlk hA w h dB_giveCommand_48
    · have h := (kb_brf hc).symm.trans h
      refine lv_iload S.1 S.2.1 dB_giveCommand_40 (lv_at hl 2 rfl) ?_
      refine lv_iload_n S.1 S.2.1 dB_giveCommand_42 rfl (lv_at hl 1 rfl) ?_
      refine lv_iadd S.1 S.2.1 dB_giveCommand_43 ?_
      refine lv_istore S.1 S.2.1 dB_giveCommand_44 hl (by decide) rfl (fun ls hl => ?_)
      have hl : lv_has ls 5 [(4, .int (x4 + x3)), (1, .int x1), (3, .int x3)] := hl
      refine lv_iload S.1 S.2.1 dB_giveCommand_46 (lv_at hl 0 rfl) ?_
      exact kb_iret (bW cI cQ a nb Q L) S hr hlk hA w h dB_giveCommand_48
  refine lv_aload_n S.1 S.2.1 dB_giveCommand_0 rfl (lv_at hl 0 rfl) ?_
  refine kb_get S w 0 rfl fB_42 rfl dB_giveCommand_1 ?_
  refine W.eq (g2 := F0 m 4 ls [.ref (a 3)]) rfl ?_
  refine lv_iload_n S.1 S.2.1 dB_giveCommand_4 rfl (lv_at hl 1 rfl) ?_
  refine lv_iload_n S.1 S.2.1 dB_giveCommand_5 rfl (lv_at hl 2 rfl) ?_
  refine lv_iload_n S.1 S.2.1 dB_giveCommand_6 rfl (lv_at hl 3 rfl) ?_
  obtain ⟨r2, z1, hc3, h⟩ := kb_cl_of h
  refine kb_callv (As := [.int x1, .int x2, .int x3]) (rest := []) (q0 := 3) (ci := 0) S w (fun sz => cC_give_3 l D cI cQ a nb Q L _ _ _ sz x1 x2 x3 hc3) Y_C_give I_C_give S_C_give lB_166 ⟨rfl, rfl, Nat.le_of_ble_eq_true rfl, Nat.le_of_ble_eq_true rfl⟩ rfl rfl rfl rfl hl.1 rfl (Nat.le_of_ble_eq_true rfl) dB_giveCommand_7 ⟨Nat.le_of_ble_eq_true rfl, Nat.le_of_ble_eq_true rfl⟩ (fun H locs w => ?_)
  refine lv_sipush (v := 1000) S.1 S.2.1 dB_giveCommand_10 (by decide) ?_
  refine lv_iload_n S.1 S.2.1 dB_giveCommand_13 rfl (lv_at hl 1 rfl) ?_
  refine lv_iconst (v := 1) S.1 S.2.1 dB_giveCommand_14 (by decide) ?_
  refine lv_iadd S.1 S.2.1 dB_giveCommand_15 ?_
  refine lv_imul S.1 S.2.1 dB_giveCommand_16 ?_
  refine lv_istore S.1 S.2.1 dB_giveCommand_17 hl (by decide) rfl (fun ls hl => ?_)
  have hl : lv_has ls 5 [(4, .int (1000 * (x1 + 1))), (0, .ref (a 0)), (1, .int x1), (2, .int x2), (3, .int x3)] := hl
  refine lv_iload_n S.1 S.2.1 dB_giveCommand_19 rfl (lv_at hl 2 rfl) ?_
  refine lv_iconst (v := 4) S.1 S.2.1 dB_giveCommand_20 (by decide) ?_
  refine lv_icmp_eq (tgt := 33) S.1 S.2.1 dB_giveCommand_21 (by decide) (fun hc => ?_) (fun hc => ?_)
  · have h := (kb_brt hc).symm.trans h
    exact J33 x1 x3 (1000 * (x1 + 1)) z1 _ _ _ (lv_sub hl [2, 4, 0] rfl) w h
  · have h := (kb_brf hc).symm.trans h
    refine lv_iload S.1 S.2.1 dB_giveCommand_24 (lv_at hl 0 rfl) ?_
    refine lv_bipush (v := 100) S.1 S.2.1 dB_giveCommand_26 (by decide) ?_
    refine lv_iload_n S.1 S.2.1 dB_giveCommand_28 rfl (lv_at hl 3 rfl) ?_
    refine lv_imul S.1 S.2.1 dB_giveCommand_29 ?_
    refine lv_iadd S.1 S.2.1 dB_giveCommand_30 ?_
    refine lv_istore S.1 S.2.1 dB_giveCommand_31 hl (by decide) rfl (fun ls hl => ?_)
    have hl : lv_has ls 5 [(4, .int ((1000 * (x1 + 1)) + (100 * x2))), (0, .ref (a 0)), (1, .int x1), (2, .int x2), (3, .int x3)] := hl
    exact J33 x1 x3 ((1000 * (x1 + 1)) + (100 * x2)) z1 _ _ _ (lv_sub hl [2, 4, 0] rfl) w h
set_option maxHeartbeats 4000000 in
set_option maxRecDepth 100000 in
theorem cC_brokenByClose_3 (l : Launch) (D : va_G) (cI cQ : ClassId) (a : Nat → Nat) (nb Q : Nat) (L : List Nat) (z0 z' : kc_S) (r : Int32) (sz : Nat) (x1 : Int32) (h : pC_brokenByClose 3 nb Q L x1 z0 = some (r, z')) : Met l y_C_brokenByClose (Cond.code y_C_brokenByClose c_C_brokenByClose 2 (some .int) :: wsB) rm_C_brokenByClose (kb_Pc D vwCl [(cI, .int), (cQ, .object RReq)] sz [.ref (a 3), .int x1] (bW cI cQ a nb Q L z0)) (kb_Qi D vwCl sz (bW cI cQ a nb Q L z0) r (bW cI cQ a nb Q L z')) 0 0 (va_A (bW cI cQ a nb Q L z0) sz) := by
  refine kb_start (by decide) rfl (Nat.le_of_ble_eq_true rfl) ?_
  intro p e s m args below meth c A ls S hr hlk hsz hA w hl
  have hl : lv_has ls 2 [(0, .ref (a 3)), (1, .int x1)] := hl
  unfold pC_brokenByClose at h
  refine lv_aload_n S.1 S.2.1 dC_brokenByClose_0 rfl (lv_at hl 0 rfl) ?_
  refine kb_get S w 3 rfl fC_15 rfl dC_brokenByClose_1 ?_
  refine W.eq (g2 := F0 m 4 ls [.ref (a 4)]) rfl ?_
  refine lv_iload_n S.1 S.2.1 dC_brokenByClose_4 rfl (lv_at hl 1 rfl) ?_
  obtain ⟨hi1, h⟩ := kb_ck_of h
  refine kb_iald S w 4 0 rfl rfl hi1 dC_brokenByClose_5 ?_
  refine W.eq (g2 := F0 m 6 ls [.int (z0.1 4 (kb_ix (x1)))]) rfl ?_
  refine lv_iconst (v := (-1)) S.1 S.2.1 dC_brokenByClose_6 (by decide) ?_
  refine lv_icmp_ne (tgt := 13) S.1 S.2.1 dC_brokenByClose_7 (by decide) (fun hc => ?_) (fun hc => ?_)
  · have h := (kb_brf hc).symm.trans h
    refine lv_aload_n S.1 S.2.1 dC_brokenByClose_13 rfl (lv_at hl 0 rfl) ?_
    refine lv_iconst (v := 2) S.1 S.2.1 dC_brokenByClose_14 (by decide) ?_
    refine lv_aload_n S.1 S.2.1 dC_brokenByClose_15 rfl (lv_at hl 0 rfl) ?_
    refine kb_get S w 3 rfl fC_18 rfl dC_brokenByClose_16 ?_
    refine W.eq (g2 := F0 m 19 ls [.ref (a 5), .int 2, .ref (a 3)]) rfl ?_
    refine lv_iload_n S.1 S.2.1 dC_brokenByClose_19 rfl (lv_at hl 1 rfl) ?_
    obtain ⟨hi2, h⟩ := kb_ck_of h
    refine kb_iald S w 5 0 rfl rfl hi2 dC_brokenByClose_20 ?_
    refine W.eq (g2 := F0 m 21 ls [.int (z0.1 5 (kb_ix (x1))), .int 2, .ref (a 3)]) rfl ?_
    obtain ⟨r4, z3, hc5, h⟩ := kb_cl_of h
    refine kb_calli (As := [.int 2, .int (z0.1 5 (kb_ix (x1)))]) (rest := []) (q0 := 3) (ci := 0) S w (fun sz => cC_isTooSoon_3 l D cI cQ a nb Q L _ _ _ sz 2 (z0.1 5 (kb_ix (x1))) hc5) Y_C_isTooSoon I_C_isTooSoon S_C_isTooSoon lC_58 ⟨rfl, rfl, Nat.le_of_ble_eq_true rfl, Nat.le_of_ble_eq_true rfl⟩ rfl rfl rfl rfl hl.1 rfl (Nat.le_of_ble_eq_true rfl) dC_brokenByClose_21 ⟨Nat.le_of_ble_eq_true rfl, Nat.le_of_ble_eq_true rfl⟩ (fun H locs w => ?_)
    refine lv_if_eq (tgt := 30) S.1 S.2.1 dC_brokenByClose_24 (by decide) (fun hc => ?_) (fun hc => ?_)
    · have h := (kb_brt hc).symm.trans h
      refine lv_aload_n S.1 S.2.1 dC_brokenByClose_30 rfl (lv_at hl 0 rfl) ?_
      refine lv_iconst (v := 4) S.1 S.2.1 dC_brokenByClose_31 (by decide) ?_
      refine lv_aload_n S.1 S.2.1 dC_brokenByClose_32 rfl (lv_at hl 0 rfl) ?_
      refine kb_get S w 3 rfl fC_27 rfl dC_brokenByClose_33 ?_
      refine W.eq (g2 := F0 m 36 ls [.ref (a 8), .int 4, .ref (a 3)]) rfl ?_
      refine lv_iload_n S.1 S.2.1 dC_brokenByClose_36 rfl (lv_at hl 1 rfl) ?_
      obtain ⟨hi6, h⟩ := kb_ck_of h
      refine kb_iald S w 8 0 rfl rfl hi6 dC_brokenByClose_37 ?_
      refine W.eq (g2 := F0 m 38 ls [.int (z3.1 8 (kb_ix (x1))), .int 4, .ref (a 3)]) rfl ?_
      obtain ⟨r8, z7, hc9, h⟩ := kb_cl_of h
      refine kb_calli (As := [.int 4, .int (z3.1 8 (kb_ix (x1)))]) (rest := []) (q0 := 3) (ci := 0) S w (fun sz => cC_isTooSoon_3 l D cI cQ a nb Q L _ _ _ sz 4 (z3.1 8 (kb_ix (x1))) hc9) Y_C_isTooSoon I_C_isTooSoon S_C_isTooSoon lC_58 ⟨rfl, rfl, Nat.le_of_ble_eq_true rfl, Nat.le_of_ble_eq_true rfl⟩ rfl rfl rfl rfl hl.1 rfl (Nat.le_of_ble_eq_true rfl) dC_brokenByClose_38 ⟨Nat.le_of_ble_eq_true rfl, Nat.le_of_ble_eq_true rfl⟩ (fun H locs w => ?_)
      refine lv_if_eq (tgt := 47) S.1 S.2.1 dC_brokenByClose_41 (by decide) (fun hc => ?_) (fun hc => ?_)
      · have h := (kb_brt hc).symm.trans h
        refine lv_aload_n S.1 S.2.1 dC_brokenByClose_47 rfl (lv_at hl 0 rfl) ?_
        refine lv_iconst (v := 5) S.1 S.2.1 dC_brokenByClose_48 (by decide) ?_
        refine lv_aload_n S.1 S.2.1 dC_brokenByClose_49 rfl (lv_at hl 0 rfl) ?_
        refine kb_get S w 3 rfl fC_24 rfl dC_brokenByClose_50 ?_
        refine W.eq (g2 := F0 m 53 ls [.ref (a 7), .int 5, .ref (a 3)]) rfl ?_
        refine lv_iload_n S.1 S.2.1 dC_brokenByClose_53 rfl (lv_at hl 1 rfl) ?_
        obtain ⟨hi10, h⟩ := kb_ck_of h
        refine kb_iald S w 7 0 rfl rfl hi10 dC_brokenByClose_54 ?_
        refine W.eq (g2 := F0 m 55 ls [.int (z7.1 7 (kb_ix (x1))), .int 5, .ref (a 3)]) rfl ?_
        obtain ⟨r12, z11, hc13, h⟩ := kb_cl_of h
        refine kb_calli (As := [.int 5, .int (z7.1 7 (kb_ix (x1)))]) (rest := []) (q0 := 3) (ci := 0) S w (fun sz => cC_isTooSoon_3 l D cI cQ a nb Q L _ _ _ sz 5 (z7.1 7 (kb_ix (x1))) hc13) Y_C_isTooSoon I_C_isTooSoon S_C_isTooSoon lC_58 ⟨rfl, rfl, Nat.le_of_ble_eq_true rfl, Nat.le_of_ble_eq_true rfl⟩ rfl rfl rfl rfl hl.1 rfl (Nat.le_of_ble_eq_true rfl) dC_brokenByClose_55 ⟨Nat.le_of_ble_eq_true rfl, Nat.le_of_ble_eq_true rfl⟩ (fun H locs w => ?_)
        refine lv_if_eq (tgt := 66) S.1 S.2.1 dC_brokenByClose_58 (by decide) (fun hc => ?_) (fun hc => ?_)
        · have h := (kb_brt hc).symm.trans h
          refine lv_iconst (v := 0) S.1 S.2.1 dC_brokenByClose_66 (by decide) ?_
          exact kb_iret (bW cI cQ a nb Q L) S hr hlk hA w h dC_brokenByClose_67
        · have h := (kb_brf hc).symm.trans h
          refine lv_bipush (v := 10) S.1 S.2.1 dC_brokenByClose_61 (by decide) ?_
          refine lv_goto (tgt := 67) S.1 S.2.1 dC_brokenByClose_63 (by decide) ?_
          exact kb_iret (bW cI cQ a nb Q L) S hr hlk hA w h dC_brokenByClose_67
      · have h := (kb_brf hc).symm.trans h
        refine lv_bipush (v := 9) S.1 S.2.1 dC_brokenByClose_44 (by decide) ?_
        exact kb_iret (bW cI cQ a nb Q L) S hr hlk hA w h dC_brokenByClose_46
    · have h := (kb_brf hc).symm.trans h
      refine lv_bipush (v := 8) S.1 S.2.1 dC_brokenByClose_27 (by decide) ?_
      exact kb_iret (bW cI cQ a nb Q L) S hr hlk hA w h dC_brokenByClose_29
  · have h := (kb_brt hc).symm.trans h
    refine lv_bipush (v := 7) S.1 S.2.1 dC_brokenByClose_10 (by decide) ?_
    exact kb_iret (bW cI cQ a nb Q L) S hr hlk hA w h dC_brokenByClose_12
set_option maxHeartbeats 4000000 in
set_option maxRecDepth 100000 in
theorem cC_brokenByClose_11 (l : Launch) (D : va_G) (cI cQ : ClassId) (a : Nat → Nat) (nb Q : Nat) (L : List Nat) (z0 z' : kc_S) (r : Int32) (sz : Nat) (x1 : Int32) (h : pC_brokenByClose 11 nb Q L x1 z0 = some (r, z')) : Met l y_C_brokenByClose (Cond.code y_C_brokenByClose c_C_brokenByClose 2 (some .int) :: wsB) rm_C_brokenByClose (kb_Pc D vwCl [(cI, .int), (cQ, .object RReq)] sz [.ref (a 11), .int x1] (bW cI cQ a nb Q L z0)) (kb_Qi D vwCl sz (bW cI cQ a nb Q L z0) r (bW cI cQ a nb Q L z')) 0 0 (va_A (bW cI cQ a nb Q L z0) sz) := by
  refine kb_start (by decide) rfl (Nat.le_of_ble_eq_true rfl) ?_
  intro p e s m args below meth c A ls S hr hlk hsz hA w hl
  have hl : lv_has ls 2 [(0, .ref (a 11)), (1, .int x1)] := hl
  unfold pC_brokenByClose at h
  refine lv_aload_n S.1 S.2.1 dC_brokenByClose_0 rfl (lv_at hl 0 rfl) ?_
  refine kb_get S w 11 rfl fC_15 rfl dC_brokenByClose_1 ?_
  refine W.eq (g2 := F0 m 4 ls [.ref (a 12)]) rfl ?_
  refine lv_iload_n S.1 S.2.1 dC_brokenByClose_4 rfl (lv_at hl 1 rfl) ?_
  obtain ⟨hi1, h⟩ := kb_ck_of h
  refine kb_iald S w 12 0 rfl rfl hi1 dC_brokenByClose_5 ?_
  refine W.eq (g2 := F0 m 6 ls [.int (z0.1 12 (kb_ix (x1)))]) rfl ?_
  refine lv_iconst (v := (-1)) S.1 S.2.1 dC_brokenByClose_6 (by decide) ?_
  refine lv_icmp_ne (tgt := 13) S.1 S.2.1 dC_brokenByClose_7 (by decide) (fun hc => ?_) (fun hc => ?_)
  · have h := (kb_brf hc).symm.trans h
    refine lv_aload_n S.1 S.2.1 dC_brokenByClose_13 rfl (lv_at hl 0 rfl) ?_
    refine lv_iconst (v := 2) S.1 S.2.1 dC_brokenByClose_14 (by decide) ?_
    refine lv_aload_n S.1 S.2.1 dC_brokenByClose_15 rfl (lv_at hl 0 rfl) ?_
    refine kb_get S w 11 rfl fC_18 rfl dC_brokenByClose_16 ?_
    refine W.eq (g2 := F0 m 19 ls [.ref (a 13), .int 2, .ref (a 11)]) rfl ?_
    refine lv_iload_n S.1 S.2.1 dC_brokenByClose_19 rfl (lv_at hl 1 rfl) ?_
    obtain ⟨hi2, h⟩ := kb_ck_of h
    refine kb_iald S w 13 0 rfl rfl hi2 dC_brokenByClose_20 ?_
    refine W.eq (g2 := F0 m 21 ls [.int (z0.1 13 (kb_ix (x1))), .int 2, .ref (a 11)]) rfl ?_
    obtain ⟨r4, z3, hc5, h⟩ := kb_cl_of h
    refine kb_calli (As := [.int 2, .int (z0.1 13 (kb_ix (x1)))]) (rest := []) (q0 := 11) (ci := 0) S w (fun sz => cC_isTooSoon_11 l D cI cQ a nb Q L _ _ _ sz 2 (z0.1 13 (kb_ix (x1))) hc5) Y_C_isTooSoon I_C_isTooSoon S_C_isTooSoon lC_58 ⟨rfl, rfl, Nat.le_of_ble_eq_true rfl, Nat.le_of_ble_eq_true rfl⟩ rfl rfl rfl rfl hl.1 rfl (Nat.le_of_ble_eq_true rfl) dC_brokenByClose_21 ⟨Nat.le_of_ble_eq_true rfl, Nat.le_of_ble_eq_true rfl⟩ (fun H locs w => ?_)
    refine lv_if_eq (tgt := 30) S.1 S.2.1 dC_brokenByClose_24 (by decide) (fun hc => ?_) (fun hc => ?_)
    · have h := (kb_brt hc).symm.trans h
      refine lv_aload_n S.1 S.2.1 dC_brokenByClose_30 rfl (lv_at hl 0 rfl) ?_
      refine lv_iconst (v := 4) S.1 S.2.1 dC_brokenByClose_31 (by decide) ?_
      refine lv_aload_n S.1 S.2.1 dC_brokenByClose_32 rfl (lv_at hl 0 rfl) ?_
      refine kb_get S w 11 rfl fC_27 rfl dC_brokenByClose_33 ?_
      refine W.eq (g2 := F0 m 36 ls [.ref (a 16), .int 4, .ref (a 11)]) rfl ?_
      refine lv_iload_n S.1 S.2.1 dC_brokenByClose_36 rfl (lv_at hl 1 rfl) ?_
      obtain ⟨hi6, h⟩ := kb_ck_of h
      refine kb_iald S w 16 0 rfl rfl hi6 dC_brokenByClose_37 ?_
      refine W.eq (g2 := F0 m 38 ls [.int (z3.1 16 (kb_ix (x1))), .int 4, .ref (a 11)]) rfl ?_
      obtain ⟨r8, z7, hc9, h⟩ := kb_cl_of h
      refine kb_calli (As := [.int 4, .int (z3.1 16 (kb_ix (x1)))]) (rest := []) (q0 := 11) (ci := 0) S w (fun sz => cC_isTooSoon_11 l D cI cQ a nb Q L _ _ _ sz 4 (z3.1 16 (kb_ix (x1))) hc9) Y_C_isTooSoon I_C_isTooSoon S_C_isTooSoon lC_58 ⟨rfl, rfl, Nat.le_of_ble_eq_true rfl, Nat.le_of_ble_eq_true rfl⟩ rfl rfl rfl rfl hl.1 rfl (Nat.le_of_ble_eq_true rfl) dC_brokenByClose_38 ⟨Nat.le_of_ble_eq_true rfl, Nat.le_of_ble_eq_true rfl⟩ (fun H locs w => ?_)
      refine lv_if_eq (tgt := 47) S.1 S.2.1 dC_brokenByClose_41 (by decide) (fun hc => ?_) (fun hc => ?_)
      · have h := (kb_brt hc).symm.trans h
        refine lv_aload_n S.1 S.2.1 dC_brokenByClose_47 rfl (lv_at hl 0 rfl) ?_
        refine lv_iconst (v := 5) S.1 S.2.1 dC_brokenByClose_48 (by decide) ?_
        refine lv_aload_n S.1 S.2.1 dC_brokenByClose_49 rfl (lv_at hl 0 rfl) ?_
        refine kb_get S w 11 rfl fC_24 rfl dC_brokenByClose_50 ?_
        refine W.eq (g2 := F0 m 53 ls [.ref (a 15), .int 5, .ref (a 11)]) rfl ?_
        refine lv_iload_n S.1 S.2.1 dC_brokenByClose_53 rfl (lv_at hl 1 rfl) ?_
        obtain ⟨hi10, h⟩ := kb_ck_of h
        refine kb_iald S w 15 0 rfl rfl hi10 dC_brokenByClose_54 ?_
        refine W.eq (g2 := F0 m 55 ls [.int (z7.1 15 (kb_ix (x1))), .int 5, .ref (a 11)]) rfl ?_
        obtain ⟨r12, z11, hc13, h⟩ := kb_cl_of h
        refine kb_calli (As := [.int 5, .int (z7.1 15 (kb_ix (x1)))]) (rest := []) (q0 := 11) (ci := 0) S w (fun sz => cC_isTooSoon_11 l D cI cQ a nb Q L _ _ _ sz 5 (z7.1 15 (kb_ix (x1))) hc13) Y_C_isTooSoon I_C_isTooSoon S_C_isTooSoon lC_58 ⟨rfl, rfl, Nat.le_of_ble_eq_true rfl, Nat.le_of_ble_eq_true rfl⟩ rfl rfl rfl rfl hl.1 rfl (Nat.le_of_ble_eq_true rfl) dC_brokenByClose_55 ⟨Nat.le_of_ble_eq_true rfl, Nat.le_of_ble_eq_true rfl⟩ (fun H locs w => ?_)
        refine lv_if_eq (tgt := 66) S.1 S.2.1 dC_brokenByClose_58 (by decide) (fun hc => ?_) (fun hc => ?_)
        · have h := (kb_brt hc).symm.trans h
          refine lv_iconst (v := 0) S.1 S.2.1 dC_brokenByClose_66 (by decide) ?_
          exact kb_iret (bW cI cQ a nb Q L) S hr hlk hA w h dC_brokenByClose_67
        · have h := (kb_brf hc).symm.trans h
          refine lv_bipush (v := 10) S.1 S.2.1 dC_brokenByClose_61 (by decide) ?_
          refine lv_goto (tgt := 67) S.1 S.2.1 dC_brokenByClose_63 (by decide) ?_
          exact kb_iret (bW cI cQ a nb Q L) S hr hlk hA w h dC_brokenByClose_67
      · have h := (kb_brf hc).symm.trans h
        refine lv_bipush (v := 9) S.1 S.2.1 dC_brokenByClose_44 (by decide) ?_
        exact kb_iret (bW cI cQ a nb Q L) S hr hlk hA w h dC_brokenByClose_46
    · have h := (kb_brf hc).symm.trans h
      refine lv_bipush (v := 8) S.1 S.2.1 dC_brokenByClose_27 (by decide) ?_
      exact kb_iret (bW cI cQ a nb Q L) S hr hlk hA w h dC_brokenByClose_29
  · have h := (kb_brt hc).symm.trans h
    refine lv_bipush (v := 7) S.1 S.2.1 dC_brokenByClose_10 (by decide) ?_
    exact kb_iret (bW cI cQ a nb Q L) S hr hlk hA w h dC_brokenByClose_12
set_option maxHeartbeats 4000000 in
set_option maxRecDepth 100000 in
theorem cB_giveRefreshing (l : Launch) (D : va_G) (cI cQ : ClassId) (a : Nat → Nat) (nb Q : Nat) (L : List Nat) (z0 z' : kc_S) (r : Int32) (sz : Nat) (h : pB_giveRefreshing nb Q L  z0 = some (r, z')) : Met l y_B_giveRefreshing (Cond.code y_B_giveRefreshing c_B_giveRefreshing 2 (some .int) :: wsB) rm_B_giveRefreshing (kb_Pc D vwCl [(cI, .int), (cQ, .object RReq)] sz [.ref (a 0)] (bW cI cQ a nb Q L z0)) (kb_Qi D vwCl sz (bW cI cQ a nb Q L z0) r (bW cI cQ a nb Q L z')) 0 0 (va_A (bW cI cQ a nb Q L z0) sz) := by
  refine kb_start (by decide) rfl (Nat.le_of_ble_eq_true rfl) ?_
  intro p e s m args below meth c A ls S hr hlk hsz hA w hl
  have hl : lv_has ls 2 [(0, .ref (a 0))] := hl
  unfold pB_giveRefreshing at h
  have L20 : ∀ (n : Nat) (x1 : Int32) (z : kc_S) (H : Heap) (locs : List Loc) (ls : Array Slot), lv_has ls 2 [(0, .ref (a 0)), (1, .int x1)] → kb_W D vwCl [(cI, .int), (cQ, .object RReq)] A s H locs (bW cI cQ a nb Q L z) → pB_giveRefreshing_L20 nb Q L n x1 z = some (r, z') → W p l e rm_B_giveRefreshing s m args below meth c H locs 0 0 (MQ below (kb_Qi D vwCl sz (bW cI cQ a nb Q L z0) r (bW cI cQ a nb Q L z')) args s 0 0 (va_A (bW cI cQ a nb Q L z0) sz)) (F0 m 20 ls []) := by
    intro n
    induction n with
    | zero =>
      intro x1 z H locs ls hl w h
      exact absurd h (by simp [pB_giveRefreshing_L20])
    | succ n ih =>
      intro x1 z H locs ls hl w h
      rw [pB_giveRefreshing_L20] at h
      refine lv_iload_n S.1 S.2.1 dB_giveRefreshing_20 rfl (lv_at hl 1 rfl) ?_
      refine lv_aload_n S.1 S.2.1 dB_giveRefreshing_21 rfl (lv_at hl 0 rfl) ?_
      refine kb_get S w 0 rfl fB_42 rfl dB_giveRefreshing_22 ?_
      refine W.eq (g2 := F0 m 25 ls [.ref (a 3), .int x1]) rfl ?_
      refine kb_get S w 3 rfl fB_131 rfl dB_giveRefreshing_25 ?_
      refine W.eq (g2 := F0 m 28 ls [.ref (a 4), .int x1]) rfl ?_
      refine kb_alen S w 4 0 rfl rfl rfl dB_giveRefreshing_28 ?_
      refine W.eq (g2 := F0 m 29 ls [.int (nI nb), .int x1]) rfl ?_
      refine lv_icmp_ge (tgt := 57) S.1 S.2.1 dB_giveRefreshing_29 (by decide) (fun hc => ?_) (fun hc => ?_)
      · have h := (kb_brt hc).symm.trans h
        refine lv_iconst (v := 0) S.1 S.2.1 dB_giveRefreshing_57 (by decide) ?_
        exact kb_iret (bW cI cQ a nb Q L) S hr hlk hA w h dB_giveRefreshing_58
      · have h := (kb_brf hc).symm.trans h
        refine lv_aload_n S.1 S.2.1 dB_giveRefreshing_32 rfl (lv_at hl 0 rfl) ?_
        refine kb_get S w 0 rfl fB_42 rfl dB_giveRefreshing_33 ?_
        refine W.eq (g2 := F0 m 36 ls [.ref (a 3)]) rfl ?_
        refine lv_iload_n S.1 S.2.1 dB_giveRefreshing_36 rfl (lv_at hl 1 rfl) ?_
        obtain ⟨r5, z4, hc6, h⟩ := kb_cl_of h
        refine kb_calli (As := [.int x1]) (rest := []) (q0 := 3) (ci := 0) S w (fun sz => cC_brokenByClose_3 l D cI cQ a nb Q L _ _ _ sz x1 hc6) Y_C_brokenByClose I_C_brokenByClose S_C_brokenByClose lB_220 ⟨rfl, rfl, Nat.le_of_ble_eq_true rfl, Nat.le_of_ble_eq_true rfl⟩ rfl rfl rfl rfl hl.1 rfl (Nat.le_of_ble_eq_true rfl) dB_giveRefreshing_37 ⟨Nat.le_of_ble_eq_true rfl, Nat.le_of_ble_eq_true rfl⟩ (fun H locs w => ?_)
        refine lv_if_ne (tgt := 51) S.1 S.2.1 dB_giveRefreshing_40 (by decide) (fun hc => ?_) (fun hc => ?_)
        · have h := (kb_brf hc).symm.trans h
          refine lv_iinc (v := x1 + 1) (k := 1) S.1 S.2.1 dB_giveRefreshing_51 hl rfl rfl (by decide) rfl (fun ls hl => ?_)
          have hl : lv_has ls 2 [(1, .int (x1 + 1)), (0, .ref (a 0))] := hl
          refine lv_goto (tgt := 20) S.1 S.2.1 dB_giveRefreshing_54 (by decide) ?_
          exact ih (x1 + 1) z4 _ _ _ (lv_sub hl [1, 0] rfl) w h
        · have h := (kb_brt hc).symm.trans h
          refine lv_aload_n S.1 S.2.1 dB_giveRefreshing_43 rfl (lv_at hl 0 rfl) ?_
          refine lv_iconst (v := 1) S.1 S.2.1 dB_giveRefreshing_44 (by decide) ?_
          refine lv_iload_n S.1 S.2.1 dB_giveRefreshing_45 rfl (lv_at hl 1 rfl) ?_
          refine lv_iconst (v := 0) S.1 S.2.1 dB_giveRefreshing_46 (by decide) ?_
          obtain ⟨r8, z7, hc9, h⟩ := kb_cl_of h
          refine kb_calli (As := [.int 1, .int x1, .int 0]) (rest := []) (q0 := 0) (ci := 2) S w (fun sz => cB_giveCommand l D cI cQ a nb Q L _ _ _ sz 1 x1 0 hc9) Y_B_giveCommand I_B_giveCommand S_B_giveCommand lB_217 ⟨rfl, rfl, Nat.le_of_ble_eq_true rfl, Nat.le_of_ble_eq_true rfl⟩ rfl rfl rfl rfl hl.1 rfl (Nat.le_of_ble_eq_true rfl) dB_giveRefreshing_47 ⟨Nat.le_of_ble_eq_true rfl, Nat.le_of_ble_eq_true rfl⟩ (fun H locs w => ?_)
          exact kb_iret (bW cI cQ a nb Q L) S hr hlk hA w h dB_giveRefreshing_50
  refine lv_aload_n S.1 S.2.1 dB_giveRefreshing_0 rfl (lv_at hl 0 rfl) ?_
  refine kb_get S w 0 rfl fB_42 rfl dB_giveRefreshing_1 ?_
  refine W.eq (g2 := F0 m 4 ls [.ref (a 3)]) rfl ?_
  obtain ⟨r2, z1, hc3, h⟩ := kb_cl_of h
  refine kb_calli (As := []) (rest := []) (q0 := 3) (ci := 0) S w (fun sz => cC_brokenByRefresh_3 l D cI cQ a nb Q L _ _ _ sz  hc3) Y_C_brokenByRefresh I_C_brokenByRefresh S_C_brokenByRefresh lB_214 ⟨rfl, rfl, Nat.le_of_ble_eq_true rfl, Nat.le_of_ble_eq_true rfl⟩ rfl rfl rfl rfl hl.1 rfl (Nat.le_of_ble_eq_true rfl) dB_giveRefreshing_4 ⟨Nat.le_of_ble_eq_true rfl, Nat.le_of_ble_eq_true rfl⟩ (fun H locs w => ?_)
  refine lv_if_ne (tgt := 18) S.1 S.2.1 dB_giveRefreshing_7 (by decide) (fun hc => ?_) (fun hc => ?_)
  · have h := (kb_brf hc).symm.trans h
    refine lv_iconst (v := 0) S.1 S.2.1 dB_giveRefreshing_18 (by decide) ?_
    refine lv_istore_n S.1 S.2.1 dB_giveRefreshing_19 rfl hl (by decide) rfl (fun ls hl => ?_)
    have hl : lv_has ls 2 [(1, .int 0), (0, .ref (a 0))] := hl
    exact L20 3000 0 z1 _ _ _ (lv_sub hl [1, 0] rfl) w h
  · have h := (kb_brt hc).symm.trans h
    refine lv_aload_n S.1 S.2.1 dB_giveRefreshing_10 rfl (lv_at hl 0 rfl) ?_
    refine lv_iconst (v := 4) S.1 S.2.1 dB_giveRefreshing_11 (by decide) ?_
    refine lv_iconst (v := 0) S.1 S.2.1 dB_giveRefreshing_12 (by decide) ?_
    refine lv_iconst (v := 0) S.1 S.2.1 dB_giveRefreshing_13 (by decide) ?_
    obtain ⟨r11, z10, hc12, h⟩ := kb_cl_of h
    refine kb_calli (As := [.int 4, .int 0, .int 0]) (rest := []) (q0 := 0) (ci := 2) S w (fun sz => cB_giveCommand l D cI cQ a nb Q L _ _ _ sz 4 0 0 hc12) Y_B_giveCommand I_B_giveCommand S_B_giveCommand lB_217 ⟨rfl, rfl, Nat.le_of_ble_eq_true rfl, Nat.le_of_ble_eq_true rfl⟩ rfl rfl rfl rfl hl.1 rfl (Nat.le_of_ble_eq_true rfl) dB_giveRefreshing_14 ⟨Nat.le_of_ble_eq_true rfl, Nat.le_of_ble_eq_true rfl⟩ (fun H locs w => ?_)
    exact kb_iret (bW cI cQ a nb Q L) S hr hlk hA w h dB_giveRefreshing_17
set_option maxHeartbeats 4000000 in
set_option maxRecDepth 100000 in
theorem cB_hasWaitedLong (l : Launch) (D : va_G) (cI cQ : ClassId) (a : Nat → Nat) (nb Q : Nat) (L : List Nat) (z0 z' : kc_S) (r : Int32) (sz : Nat) (x1 : Nat) (h : pB_hasWaitedLong nb Q L x1 z0 = some (r, z')) : Met l y_B_hasWaitedLong (Cond.code y_B_hasWaitedLong c_B_hasWaitedLong 2 (some .boolean) :: wsB) rm_B_hasWaitedLong (kb_Pc D vwCl [(cI, .int), (cQ, .object RReq)] sz [.ref (a 0), .ref (x1)] (bW cI cQ a nb Q L z0)) (kb_Qi D vwCl sz (bW cI cQ a nb Q L z0) r (bW cI cQ a nb Q L z')) 0 0 (va_A (bW cI cQ a nb Q L z0) sz) := by
  refine kb_start (by decide) rfl (Nat.le_of_ble_eq_true rfl) ?_
  intro p e s m args below meth c A ls S hr hlk hsz hA w hl
  have hl : lv_has ls 2 [(0, .ref (a 0)), (1, .ref (x1))] := hl
  unfold pB_hasWaitedLong at h
  refine lv_aload_n S.1 S.2.1 dB_hasWaitedLong_0 rfl (lv_at hl 0 rfl) ?_
  refine kb_get S w 0 rfl fB_42 rfl dB_hasWaitedLong_1 ?_
  refine W.eq (g2 := F0 m 4 ls [.ref (a 3)]) rfl ?_
  refine kb_get S w 3 rfl fB_80 rfl dB_hasWaitedLong_4 ?_
  refine W.eq (g2 := F0 m 7 ls [.int (z0.1 3 3)]) rfl ?_
  refine lv_aload_n S.1 S.2.1 dB_hasWaitedLong_7 rfl (lv_at hl 1 rfl) ?_
  obtain ⟨hm1, h⟩ := kb_ck_of h
  obtain ⟨k2, hq3⟩ := va_pl_get (X := bX cI cQ a nb Q z0) (f := kc_F z0.2.2) hm1
  refine kb_get S w k2 hq3 fB_190 rfl dB_hasWaitedLong_8 ?_
  refine W.eq (g2 := F0 m 11 ls [.int (z0.2.2 x1 6), .int (z0.1 3 3)]) rfl ?_
  refine lv_isub S.1 S.2.1 dB_hasWaitedLong_11 ?_
  refine lv_aload_n S.1 S.2.1 dB_hasWaitedLong_12 rfl (lv_at hl 0 rfl) ?_
  refine kb_get S w 0 rfl fB_18 rfl dB_hasWaitedLong_13 ?_
  refine W.eq (g2 := F0 m 16 ls [.int (z0.1 0 0), .int ((z0.1 3 3) - (z0.2.2 x1 6))]) rfl ?_
  refine lv_icmp_lt (tgt := 23) S.1 S.2.1 dB_hasWaitedLong_16 (by decide) (fun hc => ?_) (fun hc => ?_)
  · have h := (kb_brt hc).symm.trans h
    refine lv_iconst (v := 0) S.1 S.2.1 dB_hasWaitedLong_23 (by decide) ?_
    exact kb_zret (bW cI cQ a nb Q L) S hr hlk hA w h (by decide) dB_hasWaitedLong_24
  · have h := (kb_brf hc).symm.trans h
    refine lv_iconst (v := 1) S.1 S.2.1 dB_hasWaitedLong_19 (by decide) ?_
    refine lv_goto (tgt := 24) S.1 S.2.1 dB_hasWaitedLong_20 (by decide) ?_
    exact kb_zret (bW cI cQ a nb Q L) S hr hlk hA w h (by decide) dB_hasWaitedLong_24
set_option maxHeartbeats 4000000 in
set_option maxRecDepth 100000 in
theorem cB_countLookedAt (l : Launch) (D : va_G) (cI cQ : ClassId) (a : Nat → Nat) (nb Q : Nat) (L : List Nat) (z0 z' : kc_S) (r : Int32) (sz : Nat) (h : pB_countLookedAt nb Q L  z0 = some (r, z')) : Met l y_B_countLookedAt (Cond.code y_B_countLookedAt c_B_countLookedAt 1 (some .int) :: wsB) rm_B_countLookedAt (kb_Pc D vwCl [(cI, .int), (cQ, .object RReq)] sz [.ref (a 0)] (bW cI cQ a nb Q L z0)) (kb_Qi D vwCl sz (bW cI cQ a nb Q L z0) r (bW cI cQ a nb Q L z')) 0 0 (va_A (bW cI cQ a nb Q L z0) sz) := by
  refine kb_start (by decide) rfl (Nat.le_of_ble_eq_true rfl) ?_
  intro p e s m args below meth c A ls S hr hlk hsz hA w hl
  have hl : lv_has ls 1 [(0, .ref (a 0))] := hl
  unfold pB_countLookedAt at h
  refine lv_aload_n S.1 S.2.1 dB_countLookedAt_0 rfl (lv_at hl 0 rfl) ?_
  refine kb_get S w 0 rfl fB_134 rfl dB_countLookedAt_1 ?_
  refine W.eq (g2 := F0 m 4 ls [.int (z0.1 0 1)]) rfl ?_
  refine lv_if_le (tgt := 24) S.1 S.2.1 dB_countLookedAt_4 (by decide) (fun hc => ?_) (fun hc => ?_)
  · have h := (kb_brt hc).symm.trans h
    refine lv_aload_n S.1 S.2.1 dB_countLookedAt_24 rfl (lv_at hl 0 rfl) ?_
    refine kb_get S w 0 rfl fB_134 rfl dB_countLookedAt_25 ?_
    refine W.eq (g2 := F0 m 28 ls [.int (z0.1 0 1)]) rfl ?_
    exact kb_iret (bW cI cQ a nb Q L) S hr hlk hA w h dB_countLookedAt_28
  · have h := (kb_brf hc).symm.trans h
    refine lv_aload_n S.1 S.2.1 dB_countLookedAt_7 rfl (lv_at hl 0 rfl) ?_
    refine lv_aload_n S.1 S.2.1 dB_countLookedAt_8 rfl (lv_at hl 0 rfl) ?_
    refine kb_get S w 0 rfl fB_51 rfl dB_countLookedAt_9 ?_
    refine W.eq (g2 := F0 m 12 ls [.ref (a 21), .ref (a 0)]) rfl ?_
    refine lv_iconst (v := 0) S.1 S.2.1 dB_countLookedAt_12 (by decide) ?_
    obtain ⟨hi1, h⟩ := kb_ck_of h
    refine kb_ald S w 21 1 rfl rfl hi1 dB_countLookedAt_13 ?_
    refine W.eq (g2 := F0 m 14 ls [.ref (z0.2.1 (kb_ix (0))), .ref (a 0)]) rfl ?_
    obtain ⟨r3, z2, hc4, h⟩ := kb_cl_of h
    refine kb_calli (As := [.ref (z0.2.1 (kb_ix (0)))]) (rest := []) (q0 := 0) (ci := 2) S w (fun sz => cB_hasWaitedLong l D cI cQ a nb Q L _ _ _ sz (z0.2.1 (kb_ix (0))) hc4) Y_B_hasWaitedLong I_B_hasWaitedLong S_B_hasWaitedLong lB_223 ⟨rfl, rfl, Nat.le_of_ble_eq_true rfl, Nat.le_of_ble_eq_true rfl⟩ rfl rfl rfl rfl hl.1 rfl (Nat.le_of_ble_eq_true rfl) dB_countLookedAt_14 ⟨Nat.le_of_ble_eq_true rfl, Nat.le_of_ble_eq_true rfl⟩ (fun H locs w => ?_)
    refine lv_if_eq (tgt := 24) S.1 S.2.1 dB_countLookedAt_17 (by decide) (fun hc => ?_) (fun hc => ?_)
    · have h := (kb_brt hc).symm.trans h
      refine lv_aload_n S.1 S.2.1 dB_countLookedAt_24 rfl (lv_at hl 0 rfl) ?_
      refine kb_get S w 0 rfl fB_134 rfl dB_countLookedAt_25 ?_
      refine W.eq (g2 := F0 m 28 ls [.int (z2.1 0 1)]) rfl ?_
      exact kb_iret (bW cI cQ a nb Q L) S hr hlk hA w h dB_countLookedAt_28
    · have h := (kb_brf hc).symm.trans h
      refine lv_iconst (v := 1) S.1 S.2.1 dB_countLookedAt_20 (by decide) ?_
      refine lv_goto (tgt := 28) S.1 S.2.1 dB_countLookedAt_21 (by decide) ?_
      exact kb_iret (bW cI cQ a nb Q L) S hr hlk hA w h dB_countLookedAt_28
set_option maxHeartbeats 4000000 in
set_option maxRecDepth 100000 in
theorem cC_brokenByAccess_3 (l : Launch) (D : va_G) (cI cQ : ClassId) (a : Nat → Nat) (nb Q : Nat) (L : List Nat) (z0 z' : kc_S) (r : Int32) (sz : Nat) (x1 : Int32) (x2 : Int32) (h : pC_brokenByAccess 3 nb Q L x1 x2 z0 = some (r, z')) : Met l y_C_brokenByAccess (Cond.code y_C_brokenByAccess c_C_brokenByAccess 3 (some .int) :: wsB) rm_C_brokenByAccess (kb_Pc D vwCl [(cI, .int), (cQ, .object RReq)] sz [.ref (a 3), .int x1, .int x2] (bW cI cQ a nb Q L z0)) (kb_Qi D vwCl sz (bW cI cQ a nb Q L z0) r (bW cI cQ a nb Q L z')) 0 0 (va_A (bW cI cQ a nb Q L z0) sz) := by
  refine kb_start (by decide) rfl (Nat.le_of_ble_eq_true rfl) ?_
  intro p e s m args below meth c A ls S hr hlk hsz hA w hl
  have hl : lv_has ls 3 [(0, .ref (a 3)), (1, .int x1), (2, .int x2)] := hl
  unfold pC_brokenByAccess at h
  refine lv_aload_n S.1 S.2.1 dC_brokenByAccess_0 rfl (lv_at hl 0 rfl) ?_
  refine kb_get S w 3 rfl fC_15 rfl dC_brokenByAccess_1 ?_
  refine W.eq (g2 := F0 m 4 ls [.ref (a 4)]) rfl ?_
  refine lv_iload_n S.1 S.2.1 dC_brokenByAccess_4 rfl (lv_at hl 1 rfl) ?_
  obtain ⟨hi1, h⟩ := kb_ck_of h
  refine kb_iald S w 4 0 rfl rfl hi1 dC_brokenByAccess_5 ?_
  refine W.eq (g2 := F0 m 6 ls [.int (z0.1 4 (kb_ix (x1)))]) rfl ?_
  refine lv_iload_n S.1 S.2.1 dC_brokenByAccess_6 rfl (lv_at hl 2 rfl) ?_
  refine lv_icmp_eq (tgt := 13) S.1 S.2.1 dC_brokenByAccess_7 (by decide) (fun hc => ?_) (fun hc => ?_)
  · have h := (kb_brt hc).symm.trans h
    refine lv_aload_n S.1 S.2.1 dC_brokenByAccess_13 rfl (lv_at hl 0 rfl) ?_
    refine lv_iconst (v := 0) S.1 S.2.1 dC_brokenByAccess_14 (by decide) ?_
    refine lv_aload_n S.1 S.2.1 dC_brokenByAccess_15 rfl (lv_at hl 0 rfl) ?_
    refine kb_get S w 3 rfl fC_18 rfl dC_brokenByAccess_16 ?_
    refine W.eq (g2 := F0 m 19 ls [.ref (a 5), .int 0, .ref (a 3)]) rfl ?_
    refine lv_iload_n S.1 S.2.1 dC_brokenByAccess_19 rfl (lv_at hl 1 rfl) ?_
    obtain ⟨hi2, h⟩ := kb_ck_of h
    refine kb_iald S w 5 0 rfl rfl hi2 dC_brokenByAccess_20 ?_
    refine W.eq (g2 := F0 m 21 ls [.int (z0.1 5 (kb_ix (x1))), .int 0, .ref (a 3)]) rfl ?_
    obtain ⟨r4, z3, hc5, h⟩ := kb_cl_of h
    refine kb_calli (As := [.int 0, .int (z0.1 5 (kb_ix (x1)))]) (rest := []) (q0 := 3) (ci := 0) S w (fun sz => cC_isTooSoon_3 l D cI cQ a nb Q L _ _ _ sz 0 (z0.1 5 (kb_ix (x1))) hc5) Y_C_isTooSoon I_C_isTooSoon S_C_isTooSoon lC_58 ⟨rfl, rfl, Nat.le_of_ble_eq_true rfl, Nat.le_of_ble_eq_true rfl⟩ rfl rfl rfl rfl hl.1 rfl (Nat.le_of_ble_eq_true rfl) dC_brokenByAccess_21 ⟨Nat.le_of_ble_eq_true rfl, Nat.le_of_ble_eq_true rfl⟩ (fun H locs w => ?_)
    refine lv_if_eq (tgt := 30) S.1 S.2.1 dC_brokenByAccess_24 (by decide) (fun hc => ?_) (fun hc => ?_)
    · have h := (kb_brt hc).symm.trans h
      refine lv_aload_n S.1 S.2.1 dC_brokenByAccess_30 rfl (lv_at hl 0 rfl) ?_
      refine lv_bipush (v := 6) S.1 S.2.1 dC_brokenByAccess_31 (by decide) ?_
      refine lv_aload_n S.1 S.2.1 dC_brokenByAccess_33 rfl (lv_at hl 0 rfl) ?_
      refine kb_get S w 3 rfl fC_36 rfl dC_brokenByAccess_34 ?_
      refine W.eq (g2 := F0 m 37 ls [.int (z3.1 3 1), .int 6, .ref (a 3)]) rfl ?_
      obtain ⟨r7, z6, hc8, h⟩ := kb_cl_of h
      refine kb_calli (As := [.int 6, .int (z3.1 3 1)]) (rest := []) (q0 := 3) (ci := 0) S w (fun sz => cC_isTooSoon_3 l D cI cQ a nb Q L _ _ _ sz 6 (z3.1 3 1) hc8) Y_C_isTooSoon I_C_isTooSoon S_C_isTooSoon lC_58 ⟨rfl, rfl, Nat.le_of_ble_eq_true rfl, Nat.le_of_ble_eq_true rfl⟩ rfl rfl rfl rfl hl.1 rfl (Nat.le_of_ble_eq_true rfl) dC_brokenByAccess_37 ⟨Nat.le_of_ble_eq_true rfl, Nat.le_of_ble_eq_true rfl⟩ (fun H locs w => ?_)
      refine lv_if_eq (tgt := 48) S.1 S.2.1 dC_brokenByAccess_40 (by decide) (fun hc => ?_) (fun hc => ?_)
      · have h := (kb_brt hc).symm.trans h
        refine lv_iconst (v := 0) S.1 S.2.1 dC_brokenByAccess_48 (by decide) ?_
        exact kb_iret (bW cI cQ a nb Q L) S hr hlk hA w h dC_brokenByAccess_49
      · have h := (kb_brf hc).symm.trans h
        refine lv_bipush (v := 13) S.1 S.2.1 dC_brokenByAccess_43 (by decide) ?_
        refine lv_goto (tgt := 49) S.1 S.2.1 dC_brokenByAccess_45 (by decide) ?_
        exact kb_iret (bW cI cQ a nb Q L) S hr hlk hA w h dC_brokenByAccess_49
    · have h := (kb_brf hc).symm.trans h
      refine lv_bipush (v := 12) S.1 S.2.1 dC_brokenByAccess_27 (by decide) ?_
      exact kb_iret (bW cI cQ a nb Q L) S hr hlk hA w h dC_brokenByAccess_29
  · have h := (kb_brf hc).symm.trans h
    refine lv_bipush (v := 11) S.1 S.2.1 dC_brokenByAccess_10 (by decide) ?_
    exact kb_iret (bW cI cQ a nb Q L) S hr hlk hA w h dC_brokenByAccess_12
set_option maxHeartbeats 4000000 in
set_option maxRecDepth 100000 in
theorem cC_brokenByAccess_11 (l : Launch) (D : va_G) (cI cQ : ClassId) (a : Nat → Nat) (nb Q : Nat) (L : List Nat) (z0 z' : kc_S) (r : Int32) (sz : Nat) (x1 : Int32) (x2 : Int32) (h : pC_brokenByAccess 11 nb Q L x1 x2 z0 = some (r, z')) : Met l y_C_brokenByAccess (Cond.code y_C_brokenByAccess c_C_brokenByAccess 3 (some .int) :: wsB) rm_C_brokenByAccess (kb_Pc D vwCl [(cI, .int), (cQ, .object RReq)] sz [.ref (a 11), .int x1, .int x2] (bW cI cQ a nb Q L z0)) (kb_Qi D vwCl sz (bW cI cQ a nb Q L z0) r (bW cI cQ a nb Q L z')) 0 0 (va_A (bW cI cQ a nb Q L z0) sz) := by
  refine kb_start (by decide) rfl (Nat.le_of_ble_eq_true rfl) ?_
  intro p e s m args below meth c A ls S hr hlk hsz hA w hl
  have hl : lv_has ls 3 [(0, .ref (a 11)), (1, .int x1), (2, .int x2)] := hl
  unfold pC_brokenByAccess at h
  refine lv_aload_n S.1 S.2.1 dC_brokenByAccess_0 rfl (lv_at hl 0 rfl) ?_
  refine kb_get S w 11 rfl fC_15 rfl dC_brokenByAccess_1 ?_
  refine W.eq (g2 := F0 m 4 ls [.ref (a 12)]) rfl ?_
  refine lv_iload_n S.1 S.2.1 dC_brokenByAccess_4 rfl (lv_at hl 1 rfl) ?_
  obtain ⟨hi1, h⟩ := kb_ck_of h
  refine kb_iald S w 12 0 rfl rfl hi1 dC_brokenByAccess_5 ?_
  refine W.eq (g2 := F0 m 6 ls [.int (z0.1 12 (kb_ix (x1)))]) rfl ?_
  refine lv_iload_n S.1 S.2.1 dC_brokenByAccess_6 rfl (lv_at hl 2 rfl) ?_
  refine lv_icmp_eq (tgt := 13) S.1 S.2.1 dC_brokenByAccess_7 (by decide) (fun hc => ?_) (fun hc => ?_)
  · have h := (kb_brt hc).symm.trans h
    refine lv_aload_n S.1 S.2.1 dC_brokenByAccess_13 rfl (lv_at hl 0 rfl) ?_
    refine lv_iconst (v := 0) S.1 S.2.1 dC_brokenByAccess_14 (by decide) ?_
    refine lv_aload_n S.1 S.2.1 dC_brokenByAccess_15 rfl (lv_at hl 0 rfl) ?_
    refine kb_get S w 11 rfl fC_18 rfl dC_brokenByAccess_16 ?_
    refine W.eq (g2 := F0 m 19 ls [.ref (a 13), .int 0, .ref (a 11)]) rfl ?_
    refine lv_iload_n S.1 S.2.1 dC_brokenByAccess_19 rfl (lv_at hl 1 rfl) ?_
    obtain ⟨hi2, h⟩ := kb_ck_of h
    refine kb_iald S w 13 0 rfl rfl hi2 dC_brokenByAccess_20 ?_
    refine W.eq (g2 := F0 m 21 ls [.int (z0.1 13 (kb_ix (x1))), .int 0, .ref (a 11)]) rfl ?_
    obtain ⟨r4, z3, hc5, h⟩ := kb_cl_of h
    refine kb_calli (As := [.int 0, .int (z0.1 13 (kb_ix (x1)))]) (rest := []) (q0 := 11) (ci := 0) S w (fun sz => cC_isTooSoon_11 l D cI cQ a nb Q L _ _ _ sz 0 (z0.1 13 (kb_ix (x1))) hc5) Y_C_isTooSoon I_C_isTooSoon S_C_isTooSoon lC_58 ⟨rfl, rfl, Nat.le_of_ble_eq_true rfl, Nat.le_of_ble_eq_true rfl⟩ rfl rfl rfl rfl hl.1 rfl (Nat.le_of_ble_eq_true rfl) dC_brokenByAccess_21 ⟨Nat.le_of_ble_eq_true rfl, Nat.le_of_ble_eq_true rfl⟩ (fun H locs w => ?_)
    refine lv_if_eq (tgt := 30) S.1 S.2.1 dC_brokenByAccess_24 (by decide) (fun hc => ?_) (fun hc => ?_)
    · have h := (kb_brt hc).symm.trans h
      refine lv_aload_n S.1 S.2.1 dC_brokenByAccess_30 rfl (lv_at hl 0 rfl) ?_
      refine lv_bipush (v := 6) S.1 S.2.1 dC_brokenByAccess_31 (by decide) ?_
      refine lv_aload_n S.1 S.2.1 dC_brokenByAccess_33 rfl (lv_at hl 0 rfl) ?_
      refine kb_get S w 11 rfl fC_36 rfl dC_brokenByAccess_34 ?_
      refine W.eq (g2 := F0 m 37 ls [.int (z3.1 11 1), .int 6, .ref (a 11)]) rfl ?_
      obtain ⟨r7, z6, hc8, h⟩ := kb_cl_of h
      refine kb_calli (As := [.int 6, .int (z3.1 11 1)]) (rest := []) (q0 := 11) (ci := 0) S w (fun sz => cC_isTooSoon_11 l D cI cQ a nb Q L _ _ _ sz 6 (z3.1 11 1) hc8) Y_C_isTooSoon I_C_isTooSoon S_C_isTooSoon lC_58 ⟨rfl, rfl, Nat.le_of_ble_eq_true rfl, Nat.le_of_ble_eq_true rfl⟩ rfl rfl rfl rfl hl.1 rfl (Nat.le_of_ble_eq_true rfl) dC_brokenByAccess_37 ⟨Nat.le_of_ble_eq_true rfl, Nat.le_of_ble_eq_true rfl⟩ (fun H locs w => ?_)
      refine lv_if_eq (tgt := 48) S.1 S.2.1 dC_brokenByAccess_40 (by decide) (fun hc => ?_) (fun hc => ?_)
      · have h := (kb_brt hc).symm.trans h
        refine lv_iconst (v := 0) S.1 S.2.1 dC_brokenByAccess_48 (by decide) ?_
        exact kb_iret (bW cI cQ a nb Q L) S hr hlk hA w h dC_brokenByAccess_49
      · have h := (kb_brf hc).symm.trans h
        refine lv_bipush (v := 13) S.1 S.2.1 dC_brokenByAccess_43 (by decide) ?_
        refine lv_goto (tgt := 49) S.1 S.2.1 dC_brokenByAccess_45 (by decide) ?_
        exact kb_iret (bW cI cQ a nb Q L) S hr hlk hA w h dC_brokenByAccess_49
    · have h := (kb_brf hc).symm.trans h
      refine lv_bipush (v := 12) S.1 S.2.1 dC_brokenByAccess_27 (by decide) ?_
      exact kb_iret (bW cI cQ a nb Q L) S hr hlk hA w h dC_brokenByAccess_29
  · have h := (kb_brf hc).symm.trans h
    refine lv_bipush (v := 11) S.1 S.2.1 dC_brokenByAccess_10 (by decide) ?_
    exact kb_iret (bW cI cQ a nb Q L) S hr hlk hA w h dC_brokenByAccess_12
set_option maxHeartbeats 4000000 in
set_option maxRecDepth 100000 in
theorem cB_hasOlderForWord (l : Launch) (D : va_G) (cI cQ : ClassId) (a : Nat → Nat) (nb Q : Nat) (L : List Nat) (z0 z' : kc_S) (r : Int32) (sz : Nat) (x1 : Int32) (h : pB_hasOlderForWord nb Q L x1 z0 = some (r, z')) : Met l y_B_hasOlderForWord (Cond.code y_B_hasOlderForWord c_B_hasOlderForWord 3 (some .boolean) :: wsB) rm_B_hasOlderForWord (kb_Pc D vwCl [(cI, .int), (cQ, .object RReq)] sz [.ref (a 0), .int x1] (bW cI cQ a nb Q L z0)) (kb_Qi D vwCl sz (bW cI cQ a nb Q L z0) r (bW cI cQ a nb Q L z')) 0 0 (va_A (bW cI cQ a nb Q L z0) sz) := by
  refine kb_start (by decide) rfl (Nat.le_of_ble_eq_true rfl) ?_
  intro p e s m args below meth c A ls S hr hlk hsz hA w hl
  have hl : lv_has ls 3 [(0, .ref (a 0)), (1, .int x1)] := hl
  unfold pB_hasOlderForWord at h
  have L2 : ∀ (n : Nat) (x1 : Int32) (x2 : Int32) (z : kc_S) (H : Heap) (locs : List Loc) (ls : Array Slot), lv_has ls 3 [(0, .ref (a 0)), (1, .int x1), (2, .int x2)] → kb_W D vwCl [(cI, .int), (cQ, .object RReq)] A s H locs (bW cI cQ a nb Q L z) → pB_hasOlderForWord_L2 nb Q L n x1 x2 z = some (r, z') → W p l e rm_B_hasOlderForWord s m args below meth c H locs 0 0 (MQ below (kb_Qi D vwCl sz (bW cI cQ a nb Q L z0) r (bW cI cQ a nb Q L z')) args s 0 0 (va_A (bW cI cQ a nb Q L z0) sz)) (F0 m 2 ls []) := by
    intro n
    induction n with
    | zero =>
      intro x1 x2 z H locs ls hl w h
      exact absurd h (by simp [pB_hasOlderForWord_L2])
    | succ n ih =>
      intro x1 x2 z H locs ls hl w h
      rw [pB_hasOlderForWord_L2] at h
      refine lv_iload_n S.1 S.2.1 dB_hasOlderForWord_2 rfl (lv_at hl 2 rfl) ?_
      refine lv_iload_n S.1 S.2.1 dB_hasOlderForWord_3 rfl (lv_at hl 1 rfl) ?_
      refine lv_icmp_ge (tgt := 36) S.1 S.2.1 dB_hasOlderForWord_4 (by decide) (fun hc => ?_) (fun hc => ?_)
      · have h := (kb_brt hc).symm.trans h
        refine lv_iconst (v := 0) S.1 S.2.1 dB_hasOlderForWord_36 (by decide) ?_
        exact kb_zret (bW cI cQ a nb Q L) S hr hlk hA w h (by decide) dB_hasOlderForWord_37
      · have h := (kb_brf hc).symm.trans h
        refine lv_aload_n S.1 S.2.1 dB_hasOlderForWord_7 rfl (lv_at hl 0 rfl) ?_
        refine kb_get S w 0 rfl fB_51 rfl dB_hasOlderForWord_8 ?_
        refine W.eq (g2 := F0 m 11 ls [.ref (a 21)]) rfl ?_
        refine lv_iload_n S.1 S.2.1 dB_hasOlderForWord_11 rfl (lv_at hl 2 rfl) ?_
        obtain ⟨hi1, h⟩ := kb_ck_of h
        refine kb_ald S w 21 1 rfl rfl hi1 dB_hasOlderForWord_12 ?_
        refine W.eq (g2 := F0 m 13 ls [.ref (z.2.1 (kb_ix (x2)))]) rfl ?_
        obtain ⟨hm2, h⟩ := kb_ck_of h
        obtain ⟨k3, hq4⟩ := va_pl_get (X := bX cI cQ a nb Q z) (f := kc_F z.2.2) hm2
        refine kb_get S w k3 hq4 fB_184 rfl dB_hasOlderForWord_13 ?_
        refine W.eq (g2 := F0 m 16 ls [.int (z.2.2 (z.2.1 (kb_ix (x2))) 3)]) rfl ?_
        refine lv_aload_n S.1 S.2.1 dB_hasOlderForWord_16 rfl (lv_at hl 0 rfl) ?_
        refine kb_get S w 0 rfl fB_51 rfl dB_hasOlderForWord_17 ?_
        refine W.eq (g2 := F0 m 20 ls [.ref (a 21), .int (z.2.2 (z.2.1 (kb_ix (x2))) 3)]) rfl ?_
        refine lv_iload_n S.1 S.2.1 dB_hasOlderForWord_20 rfl (lv_at hl 1 rfl) ?_
        obtain ⟨hi5, h⟩ := kb_ck_of h
        refine kb_ald S w 21 1 rfl rfl hi5 dB_hasOlderForWord_21 ?_
        refine W.eq (g2 := F0 m 22 ls [.ref (z.2.1 (kb_ix (x1))), .int (z.2.2 (z.2.1 (kb_ix (x2))) 3)]) rfl ?_
        obtain ⟨hm6, h⟩ := kb_ck_of h
        obtain ⟨k7, hq8⟩ := va_pl_get (X := bX cI cQ a nb Q z) (f := kc_F z.2.2) hm6
        refine kb_get S w k7 hq8 fB_184 rfl dB_hasOlderForWord_22 ?_
        refine W.eq (g2 := F0 m 25 ls [.int (z.2.2 (z.2.1 (kb_ix (x1))) 3), .int (z.2.2 (z.2.1 (kb_ix (x2))) 3)]) rfl ?_
        refine lv_icmp_ne (tgt := 30) S.1 S.2.1 dB_hasOlderForWord_25 (by decide) (fun hc => ?_) (fun hc => ?_)
        · have h := (kb_brf hc).symm.trans h
          refine lv_iinc (v := x2 + 1) (k := 2) S.1 S.2.1 dB_hasOlderForWord_30 hl rfl rfl (by decide) rfl (fun ls hl => ?_)
          have hl : lv_has ls 3 [(2, .int (x2 + 1)), (0, .ref (a 0)), (1, .int x1)] := hl
          refine lv_goto (tgt := 2) S.1 S.2.1 dB_hasOlderForWord_33 (by decide) ?_
          exact ih x1 (x2 + 1) z _ _ _ (lv_sub hl [1, 2, 0] rfl) w h
        · have h := (kb_brt hc).symm.trans h
          refine lv_iconst (v := 1) S.1 S.2.1 dB_hasOlderForWord_28 (by decide) ?_
          exact kb_zret (bW cI cQ a nb Q L) S hr hlk hA w h (by decide) dB_hasOlderForWord_29
  refine lv_iconst (v := 0) S.1 S.2.1 dB_hasOlderForWord_0 (by decide) ?_
  refine lv_istore_n S.1 S.2.1 dB_hasOlderForWord_1 rfl hl (by decide) rfl (fun ls hl => ?_)
  have hl : lv_has ls 3 [(2, .int 0), (0, .ref (a 0)), (1, .int x1)] := hl
  exact L2 3000 x1 0 z0 _ _ _ (lv_sub hl [1, 2, 0] rfl) w h
set_option maxHeartbeats 4000000 in
set_option maxRecDepth 100000 in
theorem cB_findHit (l : Launch) (D : va_G) (cI cQ : ClassId) (a : Nat → Nat) (nb Q : Nat) (L : List Nat) (z0 z' : kc_S) (r : Int32) (sz : Nat) (x1 : Int32) (h : pB_findHit nb Q L x1 z0 = some (r, z')) : Met l y_B_findHit (Cond.code y_B_findHit c_B_findHit 4 (some .int) :: wsB) rm_B_findHit (kb_Pc D vwCl [(cI, .int), (cQ, .object RReq)] sz [.ref (a 0), .int x1] (bW cI cQ a nb Q L z0)) (kb_Qi D vwCl sz (bW cI cQ a nb Q L z0) r (bW cI cQ a nb Q L z')) 0 0 (va_A (bW cI cQ a nb Q L z0) sz) := by
  refine kb_start (by decide) rfl (Nat.le_of_ble_eq_true rfl) ?_
  intro p e s m args below meth c A ls S hr hlk hsz hA w hl
  have hl : lv_has ls 4 [(0, .ref (a 0)), (1, .int x1)] := hl
  unfold pB_findHit at h
  have L2 : ∀ (n : Nat) (x1 : Int32) (x2 : Int32) (z : kc_S) (H : Heap) (locs : List Loc) (ls : Array Slot), lv_has ls 4 [(0, .ref (a 0)), (1, .int x1), (2, .int x2)] → kb_W D vwCl [(cI, .int), (cQ, .object RReq)] A s H locs (bW cI cQ a nb Q L z) → pB_findHit_L2 nb Q L n x1 x2 z = some (r, z') → W p l e rm_B_findHit s m args below meth c H locs 0 0 (MQ below (kb_Qi D vwCl sz (bW cI cQ a nb Q L z0) r (bW cI cQ a nb Q L z')) args s 0 0 (va_A (bW cI cQ a nb Q L z0) sz)) (F0 m 2 ls []) := by
    intro n
    induction n with
    | zero =>
      intro x1 x2 z H locs ls hl w h
      exact absurd h (by simp [pB_findHit_L2])
    | succ n ih =>
      intro x1 x2 z H locs ls hl w h
      rw [pB_findHit_L2] at h
      refine lv_iload_n S.1 S.2.1 dB_findHit_2 rfl (lv_at hl 2 rfl) ?_
      refine lv_iload_n S.1 S.2.1 dB_findHit_3 rfl (lv_at hl 1 rfl) ?_
      refine lv_icmp_ge (tgt := 48) S.1 S.2.1 dB_findHit_4 (by decide) (fun hc => ?_) (fun hc => ?_)
      · have h := (kb_brt hc).symm.trans h
        refine lv_iconst (v := (-1)) S.1 S.2.1 dB_findHit_48 (by decide) ?_
        exact kb_iret (bW cI cQ a nb Q L) S hr hlk hA w h dB_findHit_49
      · have h := (kb_brf hc).symm.trans h
        refine lv_aload_n S.1 S.2.1 dB_findHit_7 rfl (lv_at hl 0 rfl) ?_
        refine kb_get S w 0 rfl fB_51 rfl dB_findHit_8 ?_
        refine W.eq (g2 := F0 m 11 ls [.ref (a 21)]) rfl ?_
        refine lv_iload_n S.1 S.2.1 dB_findHit_11 rfl (lv_at hl 2 rfl) ?_
        obtain ⟨hi1, h⟩ := kb_ck_of h
        refine kb_ald S w 21 1 rfl rfl hi1 dB_findHit_12 ?_
        refine W.eq (g2 := F0 m 13 ls [.ref (z.2.1 (kb_ix (x2)))]) rfl ?_
        refine lv_astore_n S.1 S.2.1 dB_findHit_13 rfl hl (by decide) rfl (fun ls hl => ?_)
        have hl : lv_has ls 4 [(3, .ref (z.2.1 (kb_ix (x2)))), (0, .ref (a 0)), (1, .int x1), (2, .int x2)] := hl
        refine lv_aload_n S.1 S.2.1 dB_findHit_14 rfl (lv_at hl 1 rfl) ?_
        refine kb_get S w 0 rfl fB_42 rfl dB_findHit_15 ?_
        refine W.eq (g2 := F0 m 18 ls [.ref (a 3)]) rfl ?_
        refine lv_aload_n S.1 S.2.1 dB_findHit_18 rfl (lv_at hl 0 rfl) ?_
        obtain ⟨hm2, h⟩ := kb_ck_of h
        obtain ⟨k3, hq4⟩ := va_pl_get (X := bX cI cQ a nb Q z) (f := kc_F z.2.2) hm2
        refine kb_get S w k3 hq4 fB_178 rfl dB_findHit_19 ?_
        refine W.eq (g2 := F0 m 22 ls [.int (z.2.2 (z.2.1 (kb_ix (x2))) 1), .ref (a 3)]) rfl ?_
        refine lv_aload_n S.1 S.2.1 dB_findHit_22 rfl (lv_at hl 0 rfl) ?_
        obtain ⟨hm5, h⟩ := kb_ck_of h
        obtain ⟨k6, hq7⟩ := va_pl_get (X := bX cI cQ a nb Q z) (f := kc_F z.2.2) hm5
        refine kb_get S w k6 hq7 fB_181 rfl dB_findHit_23 ?_
        refine W.eq (g2 := F0 m 26 ls [.int (z.2.2 (z.2.1 (kb_ix (x2))) 2), .int (z.2.2 (z.2.1 (kb_ix (x2))) 1), .ref (a 3)]) rfl ?_
        obtain ⟨r9, z8, hc10, h⟩ := kb_cl_of h
        refine kb_calli (As := [.int (z.2.2 (z.2.1 (kb_ix (x2))) 1), .int (z.2.2 (z.2.1 (kb_ix (x2))) 2)]) (rest := []) (q0 := 3) (ci := 0) S w (fun sz => cC_brokenByAccess_3 l D cI cQ a nb Q L _ _ _ sz (z.2.2 (z.2.1 (kb_ix (x2))) 1) (z.2.2 (z.2.1 (kb_ix (x2))) 2) hc10) Y_C_brokenByAccess I_C_brokenByAccess S_C_brokenByAccess lB_227 ⟨rfl, rfl, Nat.le_of_ble_eq_true rfl, Nat.le_of_ble_eq_true rfl⟩ rfl rfl rfl rfl hl.1 rfl (Nat.le_of_ble_eq_true rfl) dB_findHit_26 ⟨Nat.le_of_ble_eq_true rfl, Nat.le_of_ble_eq_true rfl⟩ (fun H locs w => ?_)
        refine lv_if_ne (tgt := 42) S.1 S.2.1 dB_findHit_29 (by decide) (fun hc => ?_) (fun hc => ?_)
        · have h := (kb_brf hc).symm.trans h
          refine lv_iinc (v := x2 + 1) (k := 3) S.1 S.2.1 dB_findHit_42 hl rfl rfl (by decide) rfl (fun ls hl => ?_)
          have hl : lv_has ls 4 [(2, .int (x2 + 1)), (3, .ref (z.2.1 (kb_ix (x2)))), (0, .ref (a 0)), (1, .int x1)] := hl
          refine lv_goto (tgt := 2) S.1 S.2.1 dB_findHit_45 (by decide) ?_
          exact ih x1 (x2 + 1) z8 _ _ _ (lv_sub hl [2, 3, 0] rfl) w h
        · have h := (kb_brt hc).symm.trans h
          refine lv_aload_n S.1 S.2.1 dB_findHit_32 rfl (lv_at hl 1 rfl) ?_
          refine lv_iload_n S.1 S.2.1 dB_findHit_33 rfl (lv_at hl 3 rfl) ?_
          obtain ⟨r12, z11, hc13, h⟩ := kb_cl_of h
          refine kb_calli (As := [.int x2]) (rest := []) (q0 := 0) (ci := 2) S w (fun sz => cB_hasOlderForWord l D cI cQ a nb Q L _ _ _ sz x2 hc13) Y_B_hasOlderForWord I_B_hasOlderForWord S_B_hasOlderForWord lB_230 ⟨rfl, rfl, Nat.le_of_ble_eq_true rfl, Nat.le_of_ble_eq_true rfl⟩ rfl rfl rfl rfl hl.1 rfl (Nat.le_of_ble_eq_true rfl) dB_findHit_34 ⟨Nat.le_of_ble_eq_true rfl, Nat.le_of_ble_eq_true rfl⟩ (fun H locs w => ?_)
          refine lv_if_ne (tgt := 42) S.1 S.2.1 dB_findHit_37 (by decide) (fun hc => ?_) (fun hc => ?_)
          · have h := (kb_brf hc).symm.trans h
            refine lv_iinc (v := x2 + 1) (k := 3) S.1 S.2.1 dB_findHit_42 hl rfl rfl (by decide) rfl (fun ls hl => ?_)
            have hl : lv_has ls 4 [(2, .int (x2 + 1)), (3, .ref (z.2.1 (kb_ix (x2)))), (0, .ref (a 0)), (1, .int x1)] := hl
            refine lv_goto (tgt := 2) S.1 S.2.1 dB_findHit_45 (by decide) ?_
            exact ih x1 (x2 + 1) z11 _ _ _ (lv_sub hl [2, 3, 0] rfl) w h
          · have h := (kb_brt hc).symm.trans h
            refine lv_iload_n S.1 S.2.1 dB_findHit_40 rfl (lv_at hl 3 rfl) ?_
            exact kb_iret (bW cI cQ a nb Q L) S hr hlk hA w h dB_findHit_41
  refine lv_iconst (v := 0) S.1 S.2.1 dB_findHit_0 (by decide) ?_
  refine lv_istore_n S.1 S.2.1 dB_findHit_1 rfl hl (by decide) rfl (fun ls hl => ?_)
  have hl : lv_has ls 4 [(2, .int 0), (0, .ref (a 0)), (1, .int x1)] := hl
  exact L2 3000 x1 0 z0 _ _ _ (lv_sub hl [1, 2, 0] rfl) w h
set_option maxHeartbeats 4000000 in
set_option maxRecDepth 100000 in
theorem cB_hasOlderForBank (l : Launch) (D : va_G) (cI cQ : ClassId) (a : Nat → Nat) (nb Q : Nat) (L : List Nat) (z0 z' : kc_S) (r : Int32) (sz : Nat) (x1 : Int32) (h : pB_hasOlderForBank nb Q L x1 z0 = some (r, z')) : Met l y_B_hasOlderForBank (Cond.code y_B_hasOlderForBank c_B_hasOlderForBank 3 (some .boolean) :: wsB) rm_B_hasOlderForBank (kb_Pc D vwCl [(cI, .int), (cQ, .object RReq)] sz [.ref (a 0), .int x1] (bW cI cQ a nb Q L z0)) (kb_Qi D vwCl sz (bW cI cQ a nb Q L z0) r (bW cI cQ a nb Q L z')) 0 0 (va_A (bW cI cQ a nb Q L z0) sz) := by
  refine kb_start (by decide) rfl (Nat.le_of_ble_eq_true rfl) ?_
  intro p e s m args below meth c A ls S hr hlk hsz hA w hl
  have hl : lv_has ls 3 [(0, .ref (a 0)), (1, .int x1)] := hl
  unfold pB_hasOlderForBank at h
  have L2 : ∀ (n : Nat) (x1 : Int32) (x2 : Int32) (z : kc_S) (H : Heap) (locs : List Loc) (ls : Array Slot), lv_has ls 3 [(0, .ref (a 0)), (1, .int x1), (2, .int x2)] → kb_W D vwCl [(cI, .int), (cQ, .object RReq)] A s H locs (bW cI cQ a nb Q L z) → pB_hasOlderForBank_L2 nb Q L n x1 x2 z = some (r, z') → W p l e rm_B_hasOlderForBank s m args below meth c H locs 0 0 (MQ below (kb_Qi D vwCl sz (bW cI cQ a nb Q L z0) r (bW cI cQ a nb Q L z')) args s 0 0 (va_A (bW cI cQ a nb Q L z0) sz)) (F0 m 2 ls []) := by
    intro n
    induction n with
    | zero =>
      intro x1 x2 z H locs ls hl w h
      exact absurd h (by simp [pB_hasOlderForBank_L2])
    | succ n ih =>
      intro x1 x2 z H locs ls hl w h
      rw [pB_hasOlderForBank_L2] at h
      refine lv_iload_n S.1 S.2.1 dB_hasOlderForBank_2 rfl (lv_at hl 2 rfl) ?_
      refine lv_iload_n S.1 S.2.1 dB_hasOlderForBank_3 rfl (lv_at hl 1 rfl) ?_
      refine lv_icmp_ge (tgt := 36) S.1 S.2.1 dB_hasOlderForBank_4 (by decide) (fun hc => ?_) (fun hc => ?_)
      · have h := (kb_brt hc).symm.trans h
        refine lv_iconst (v := 0) S.1 S.2.1 dB_hasOlderForBank_36 (by decide) ?_
        exact kb_zret (bW cI cQ a nb Q L) S hr hlk hA w h (by decide) dB_hasOlderForBank_37
      · have h := (kb_brf hc).symm.trans h
        refine lv_aload_n S.1 S.2.1 dB_hasOlderForBank_7 rfl (lv_at hl 0 rfl) ?_
        refine kb_get S w 0 rfl fB_51 rfl dB_hasOlderForBank_8 ?_
        refine W.eq (g2 := F0 m 11 ls [.ref (a 21)]) rfl ?_
        refine lv_iload_n S.1 S.2.1 dB_hasOlderForBank_11 rfl (lv_at hl 2 rfl) ?_
        obtain ⟨hi1, h⟩ := kb_ck_of h
        refine kb_ald S w 21 1 rfl rfl hi1 dB_hasOlderForBank_12 ?_
        refine W.eq (g2 := F0 m 13 ls [.ref (z.2.1 (kb_ix (x2)))]) rfl ?_
        obtain ⟨hm2, h⟩ := kb_ck_of h
        obtain ⟨k3, hq4⟩ := va_pl_get (X := bX cI cQ a nb Q z) (f := kc_F z.2.2) hm2
        refine kb_get S w k3 hq4 fB_178 rfl dB_hasOlderForBank_13 ?_
        refine W.eq (g2 := F0 m 16 ls [.int (z.2.2 (z.2.1 (kb_ix (x2))) 1)]) rfl ?_
        refine lv_aload_n S.1 S.2.1 dB_hasOlderForBank_16 rfl (lv_at hl 0 rfl) ?_
        refine kb_get S w 0 rfl fB_51 rfl dB_hasOlderForBank_17 ?_
        refine W.eq (g2 := F0 m 20 ls [.ref (a 21), .int (z.2.2 (z.2.1 (kb_ix (x2))) 1)]) rfl ?_
        refine lv_iload_n S.1 S.2.1 dB_hasOlderForBank_20 rfl (lv_at hl 1 rfl) ?_
        obtain ⟨hi5, h⟩ := kb_ck_of h
        refine kb_ald S w 21 1 rfl rfl hi5 dB_hasOlderForBank_21 ?_
        refine W.eq (g2 := F0 m 22 ls [.ref (z.2.1 (kb_ix (x1))), .int (z.2.2 (z.2.1 (kb_ix (x2))) 1)]) rfl ?_
        obtain ⟨hm6, h⟩ := kb_ck_of h
        obtain ⟨k7, hq8⟩ := va_pl_get (X := bX cI cQ a nb Q z) (f := kc_F z.2.2) hm6
        refine kb_get S w k7 hq8 fB_178 rfl dB_hasOlderForBank_22 ?_
        refine W.eq (g2 := F0 m 25 ls [.int (z.2.2 (z.2.1 (kb_ix (x1))) 1), .int (z.2.2 (z.2.1 (kb_ix (x2))) 1)]) rfl ?_
        refine lv_icmp_ne (tgt := 30) S.1 S.2.1 dB_hasOlderForBank_25 (by decide) (fun hc => ?_) (fun hc => ?_)
        · have h := (kb_brf hc).symm.trans h
          refine lv_iinc (v := x2 + 1) (k := 2) S.1 S.2.1 dB_hasOlderForBank_30 hl rfl rfl (by decide) rfl (fun ls hl => ?_)
          have hl : lv_has ls 3 [(2, .int (x2 + 1)), (0, .ref (a 0)), (1, .int x1)] := hl
          refine lv_goto (tgt := 2) S.1 S.2.1 dB_hasOlderForBank_33 (by decide) ?_
          exact ih x1 (x2 + 1) z _ _ _ (lv_sub hl [1, 2, 0] rfl) w h
        · have h := (kb_brt hc).symm.trans h
          refine lv_iconst (v := 1) S.1 S.2.1 dB_hasOlderForBank_28 (by decide) ?_
          exact kb_zret (bW cI cQ a nb Q L) S hr hlk hA w h (by decide) dB_hasOlderForBank_29
  refine lv_iconst (v := 0) S.1 S.2.1 dB_hasOlderForBank_0 (by decide) ?_
  refine lv_istore_n S.1 S.2.1 dB_hasOlderForBank_1 rfl hl (by decide) rfl (fun ls hl => ?_)
  have hl : lv_has ls 3 [(2, .int 0), (0, .ref (a 0)), (1, .int x1)] := hl
  exact L2 3000 x1 0 z0 _ _ _ (lv_sub hl [1, 2, 0] rfl) w h
set_option maxHeartbeats 4000000 in
set_option maxRecDepth 100000 in
theorem cC_isTooSoonForOthers_3 (l : Launch) (D : va_G) (cI cQ : ClassId) (a : Nat → Nat) (nb Q : Nat) (L : List Nat) (z0 z' : kc_S) (r : Int32) (sz : Nat) (x1 : Int32) (h : pC_isTooSoonForOthers 3 nb Q L x1 z0 = some (r, z')) : Met l y_C_isTooSoonForOthers (Cond.code y_C_isTooSoonForOthers c_C_isTooSoonForOthers 3 (some .boolean) :: wsB) rm_C_isTooSoonForOthers (kb_Pc D vwCl [(cI, .int), (cQ, .object RReq)] sz [.ref (a 3), .int x1] (bW cI cQ a nb Q L z0)) (kb_Qi D vwCl sz (bW cI cQ a nb Q L z0) r (bW cI cQ a nb Q L z')) 0 0 (va_A (bW cI cQ a nb Q L z0) sz) := by
  refine kb_start (by decide) rfl (Nat.le_of_ble_eq_true rfl) ?_
  intro p e s m args below meth c A ls S hr hlk hsz hA w hl
  have hl : lv_has ls 3 [(0, .ref (a 3)), (1, .int x1)] := hl
  unfold pC_isTooSoonForOthers at h
  have L2 : ∀ (n : Nat) (x1 : Int32) (x2 : Int32) (z : kc_S) (H : Heap) (locs : List Loc) (ls : Array Slot), lv_has ls 3 [(0, .ref (a 3)), (1, .int x1), (2, .int x2)] → kb_W D vwCl [(cI, .int), (cQ, .object RReq)] A s H locs (bW cI cQ a nb Q L z) → pC_isTooSoonForOthers_L2 3 nb Q L n x1 x2 z = some (r, z') → W p l e rm_C_isTooSoonForOthers s m args below meth c H locs 0 0 (MQ below (kb_Qi D vwCl sz (bW cI cQ a nb Q L z0) r (bW cI cQ a nb Q L z')) args s 0 0 (va_A (bW cI cQ a nb Q L z0) sz)) (F0 m 2 ls []) := by
    intro n
    induction n with
    | zero =>
      intro x1 x2 z H locs ls hl w h
      exact absurd h (by simp [pC_isTooSoonForOthers_L2])
    | succ n ih =>
      intro x1 x2 z H locs ls hl w h
      rw [pC_isTooSoonForOthers_L2] at h
      refine lv_iload_n S.1 S.2.1 dC_isTooSoonForOthers_2 rfl (lv_at hl 2 rfl) ?_
      refine lv_aload_n S.1 S.2.1 dC_isTooSoonForOthers_3 rfl (lv_at hl 0 rfl) ?_
      refine kb_get S w 3 rfl fC_18 rfl dC_isTooSoonForOthers_4 ?_
      refine W.eq (g2 := F0 m 7 ls [.ref (a 5), .int x2]) rfl ?_
      refine kb_alen S w 5 0 rfl rfl rfl dC_isTooSoonForOthers_7 ?_
      refine W.eq (g2 := F0 m 8 ls [.int (nI nb), .int x2]) rfl ?_
      refine lv_icmp_ge (tgt := 39) S.1 S.2.1 dC_isTooSoonForOthers_8 (by decide) (fun hc => ?_) (fun hc => ?_)
      · have h := (kb_brt hc).symm.trans h
        refine lv_iconst (v := 0) S.1 S.2.1 dC_isTooSoonForOthers_39 (by decide) ?_
        exact kb_zret (bW cI cQ a nb Q L) S hr hlk hA w h (by decide) dC_isTooSoonForOthers_40
      · have h := (kb_brf hc).symm.trans h
        refine lv_iload_n S.1 S.2.1 dC_isTooSoonForOthers_11 rfl (lv_at hl 2 rfl) ?_
        refine lv_iload_n S.1 S.2.1 dC_isTooSoonForOthers_12 rfl (lv_at hl 1 rfl) ?_
        refine lv_icmp_eq (tgt := 33) S.1 S.2.1 dC_isTooSoonForOthers_13 (by decide) (fun hc => ?_) (fun hc => ?_)
        · have h := (kb_brt hc).symm.trans h
          refine lv_iinc (v := x2 + 1) (k := 2) S.1 S.2.1 dC_isTooSoonForOthers_33 hl rfl rfl (by decide) rfl (fun ls hl => ?_)
          have hl : lv_has ls 3 [(2, .int (x2 + 1)), (0, .ref (a 3)), (1, .int x1)] := hl
          refine lv_goto (tgt := 2) S.1 S.2.1 dC_isTooSoonForOthers_36 (by decide) ?_
          exact ih x1 (x2 + 1) z _ _ _ (lv_sub hl [1, 2, 0] rfl) w h
        · have h := (kb_brf hc).symm.trans h
          refine lv_aload_n S.1 S.2.1 dC_isTooSoonForOthers_16 rfl (lv_at hl 0 rfl) ?_
          refine lv_bipush (v := 7) S.1 S.2.1 dC_isTooSoonForOthers_17 (by decide) ?_
          refine lv_aload_n S.1 S.2.1 dC_isTooSoonForOthers_19 rfl (lv_at hl 0 rfl) ?_
          refine kb_get S w 3 rfl fC_18 rfl dC_isTooSoonForOthers_20 ?_
          refine W.eq (g2 := F0 m 23 ls [.ref (a 5), .int 7, .ref (a 3)]) rfl ?_
          refine lv_iload_n S.1 S.2.1 dC_isTooSoonForOthers_23 rfl (lv_at hl 2 rfl) ?_
          obtain ⟨hi1, h⟩ := kb_ck_of h
          refine kb_iald S w 5 0 rfl rfl hi1 dC_isTooSoonForOthers_24 ?_
          refine W.eq (g2 := F0 m 25 ls [.int (z.1 5 (kb_ix (x2))), .int 7, .ref (a 3)]) rfl ?_
          obtain ⟨r3, z2, hc4, h⟩ := kb_cl_of h
          refine kb_calli (As := [.int 7, .int (z.1 5 (kb_ix (x2)))]) (rest := []) (q0 := 3) (ci := 0) S w (fun sz => cC_isTooSoon_3 l D cI cQ a nb Q L _ _ _ sz 7 (z.1 5 (kb_ix (x2))) hc4) Y_C_isTooSoon I_C_isTooSoon S_C_isTooSoon lC_58 ⟨rfl, rfl, Nat.le_of_ble_eq_true rfl, Nat.le_of_ble_eq_true rfl⟩ rfl rfl rfl rfl hl.1 rfl (Nat.le_of_ble_eq_true rfl) dC_isTooSoonForOthers_25 ⟨Nat.le_of_ble_eq_true rfl, Nat.le_of_ble_eq_true rfl⟩ (fun H locs w => ?_)
          refine lv_if_eq (tgt := 33) S.1 S.2.1 dC_isTooSoonForOthers_28 (by decide) (fun hc => ?_) (fun hc => ?_)
          · have h := (kb_brt hc).symm.trans h
            refine lv_iinc (v := x2 + 1) (k := 2) S.1 S.2.1 dC_isTooSoonForOthers_33 hl rfl rfl (by decide) rfl (fun ls hl => ?_)
            have hl : lv_has ls 3 [(2, .int (x2 + 1)), (0, .ref (a 3)), (1, .int x1)] := hl
            refine lv_goto (tgt := 2) S.1 S.2.1 dC_isTooSoonForOthers_36 (by decide) ?_
            exact ih x1 (x2 + 1) z2 _ _ _ (lv_sub hl [1, 2, 0] rfl) w h
          · have h := (kb_brf hc).symm.trans h
            refine lv_iconst (v := 1) S.1 S.2.1 dC_isTooSoonForOthers_31 (by decide) ?_
            exact kb_zret (bW cI cQ a nb Q L) S hr hlk hA w h (by decide) dC_isTooSoonForOthers_32
  refine lv_iconst (v := 0) S.1 S.2.1 dC_isTooSoonForOthers_0 (by decide) ?_
  refine lv_istore_n S.1 S.2.1 dC_isTooSoonForOthers_1 rfl hl (by decide) rfl (fun ls hl => ?_)
  have hl : lv_has ls 3 [(2, .int 0), (0, .ref (a 3)), (1, .int x1)] := hl
  exact L2 3000 x1 0 z0 _ _ _ (lv_sub hl [1, 2, 0] rfl) w h
set_option maxHeartbeats 4000000 in
set_option maxRecDepth 100000 in
theorem cC_isTooSoonForOthers_11 (l : Launch) (D : va_G) (cI cQ : ClassId) (a : Nat → Nat) (nb Q : Nat) (L : List Nat) (z0 z' : kc_S) (r : Int32) (sz : Nat) (x1 : Int32) (h : pC_isTooSoonForOthers 11 nb Q L x1 z0 = some (r, z')) : Met l y_C_isTooSoonForOthers (Cond.code y_C_isTooSoonForOthers c_C_isTooSoonForOthers 3 (some .boolean) :: wsB) rm_C_isTooSoonForOthers (kb_Pc D vwCl [(cI, .int), (cQ, .object RReq)] sz [.ref (a 11), .int x1] (bW cI cQ a nb Q L z0)) (kb_Qi D vwCl sz (bW cI cQ a nb Q L z0) r (bW cI cQ a nb Q L z')) 0 0 (va_A (bW cI cQ a nb Q L z0) sz) := by
  refine kb_start (by decide) rfl (Nat.le_of_ble_eq_true rfl) ?_
  intro p e s m args below meth c A ls S hr hlk hsz hA w hl
  have hl : lv_has ls 3 [(0, .ref (a 11)), (1, .int x1)] := hl
  unfold pC_isTooSoonForOthers at h
  have L2 : ∀ (n : Nat) (x1 : Int32) (x2 : Int32) (z : kc_S) (H : Heap) (locs : List Loc) (ls : Array Slot), lv_has ls 3 [(0, .ref (a 11)), (1, .int x1), (2, .int x2)] → kb_W D vwCl [(cI, .int), (cQ, .object RReq)] A s H locs (bW cI cQ a nb Q L z) → pC_isTooSoonForOthers_L2 11 nb Q L n x1 x2 z = some (r, z') → W p l e rm_C_isTooSoonForOthers s m args below meth c H locs 0 0 (MQ below (kb_Qi D vwCl sz (bW cI cQ a nb Q L z0) r (bW cI cQ a nb Q L z')) args s 0 0 (va_A (bW cI cQ a nb Q L z0) sz)) (F0 m 2 ls []) := by
    intro n
    induction n with
    | zero =>
      intro x1 x2 z H locs ls hl w h
      exact absurd h (by simp [pC_isTooSoonForOthers_L2])
    | succ n ih =>
      intro x1 x2 z H locs ls hl w h
      rw [pC_isTooSoonForOthers_L2] at h
      refine lv_iload_n S.1 S.2.1 dC_isTooSoonForOthers_2 rfl (lv_at hl 2 rfl) ?_
      refine lv_aload_n S.1 S.2.1 dC_isTooSoonForOthers_3 rfl (lv_at hl 0 rfl) ?_
      refine kb_get S w 11 rfl fC_18 rfl dC_isTooSoonForOthers_4 ?_
      refine W.eq (g2 := F0 m 7 ls [.ref (a 13), .int x2]) rfl ?_
      refine kb_alen S w 13 0 rfl rfl rfl dC_isTooSoonForOthers_7 ?_
      refine W.eq (g2 := F0 m 8 ls [.int (nI nb), .int x2]) rfl ?_
      refine lv_icmp_ge (tgt := 39) S.1 S.2.1 dC_isTooSoonForOthers_8 (by decide) (fun hc => ?_) (fun hc => ?_)
      · have h := (kb_brt hc).symm.trans h
        refine lv_iconst (v := 0) S.1 S.2.1 dC_isTooSoonForOthers_39 (by decide) ?_
        exact kb_zret (bW cI cQ a nb Q L) S hr hlk hA w h (by decide) dC_isTooSoonForOthers_40
      · have h := (kb_brf hc).symm.trans h
        refine lv_iload_n S.1 S.2.1 dC_isTooSoonForOthers_11 rfl (lv_at hl 2 rfl) ?_
        refine lv_iload_n S.1 S.2.1 dC_isTooSoonForOthers_12 rfl (lv_at hl 1 rfl) ?_
        refine lv_icmp_eq (tgt := 33) S.1 S.2.1 dC_isTooSoonForOthers_13 (by decide) (fun hc => ?_) (fun hc => ?_)
        · have h := (kb_brt hc).symm.trans h
          refine lv_iinc (v := x2 + 1) (k := 2) S.1 S.2.1 dC_isTooSoonForOthers_33 hl rfl rfl (by decide) rfl (fun ls hl => ?_)
          have hl : lv_has ls 3 [(2, .int (x2 + 1)), (0, .ref (a 11)), (1, .int x1)] := hl
          refine lv_goto (tgt := 2) S.1 S.2.1 dC_isTooSoonForOthers_36 (by decide) ?_
          exact ih x1 (x2 + 1) z _ _ _ (lv_sub hl [1, 2, 0] rfl) w h
        · have h := (kb_brf hc).symm.trans h
          refine lv_aload_n S.1 S.2.1 dC_isTooSoonForOthers_16 rfl (lv_at hl 0 rfl) ?_
          refine lv_bipush (v := 7) S.1 S.2.1 dC_isTooSoonForOthers_17 (by decide) ?_
          refine lv_aload_n S.1 S.2.1 dC_isTooSoonForOthers_19 rfl (lv_at hl 0 rfl) ?_
          refine kb_get S w 11 rfl fC_18 rfl dC_isTooSoonForOthers_20 ?_
          refine W.eq (g2 := F0 m 23 ls [.ref (a 13), .int 7, .ref (a 11)]) rfl ?_
          refine lv_iload_n S.1 S.2.1 dC_isTooSoonForOthers_23 rfl (lv_at hl 2 rfl) ?_
          obtain ⟨hi1, h⟩ := kb_ck_of h
          refine kb_iald S w 13 0 rfl rfl hi1 dC_isTooSoonForOthers_24 ?_
          refine W.eq (g2 := F0 m 25 ls [.int (z.1 13 (kb_ix (x2))), .int 7, .ref (a 11)]) rfl ?_
          obtain ⟨r3, z2, hc4, h⟩ := kb_cl_of h
          refine kb_calli (As := [.int 7, .int (z.1 13 (kb_ix (x2)))]) (rest := []) (q0 := 11) (ci := 0) S w (fun sz => cC_isTooSoon_11 l D cI cQ a nb Q L _ _ _ sz 7 (z.1 13 (kb_ix (x2))) hc4) Y_C_isTooSoon I_C_isTooSoon S_C_isTooSoon lC_58 ⟨rfl, rfl, Nat.le_of_ble_eq_true rfl, Nat.le_of_ble_eq_true rfl⟩ rfl rfl rfl rfl hl.1 rfl (Nat.le_of_ble_eq_true rfl) dC_isTooSoonForOthers_25 ⟨Nat.le_of_ble_eq_true rfl, Nat.le_of_ble_eq_true rfl⟩ (fun H locs w => ?_)
          refine lv_if_eq (tgt := 33) S.1 S.2.1 dC_isTooSoonForOthers_28 (by decide) (fun hc => ?_) (fun hc => ?_)
          · have h := (kb_brt hc).symm.trans h
            refine lv_iinc (v := x2 + 1) (k := 2) S.1 S.2.1 dC_isTooSoonForOthers_33 hl rfl rfl (by decide) rfl (fun ls hl => ?_)
            have hl : lv_has ls 3 [(2, .int (x2 + 1)), (0, .ref (a 11)), (1, .int x1)] := hl
            refine lv_goto (tgt := 2) S.1 S.2.1 dC_isTooSoonForOthers_36 (by decide) ?_
            exact ih x1 (x2 + 1) z2 _ _ _ (lv_sub hl [1, 2, 0] rfl) w h
          · have h := (kb_brf hc).symm.trans h
            refine lv_iconst (v := 1) S.1 S.2.1 dC_isTooSoonForOthers_31 (by decide) ?_
            exact kb_zret (bW cI cQ a nb Q L) S hr hlk hA w h (by decide) dC_isTooSoonForOthers_32
  refine lv_iconst (v := 0) S.1 S.2.1 dC_isTooSoonForOthers_0 (by decide) ?_
  refine lv_istore_n S.1 S.2.1 dC_isTooSoonForOthers_1 rfl hl (by decide) rfl (fun ls hl => ?_)
  have hl : lv_has ls 3 [(2, .int 0), (0, .ref (a 11)), (1, .int x1)] := hl
  exact L2 3000 x1 0 z0 _ _ _ (lv_sub hl [1, 2, 0] rfl) w h
end
section
set_option maxHeartbeats 4000000 in
set_option maxRecDepth 100000 in
theorem cC_brokenByOpen_3 (l : Launch) (D : va_G) (cI cQ : ClassId) (a : Nat → Nat) (nb Q : Nat) (L : List Nat) (z0 z' : kc_S) (r : Int32) (sz : Nat) (x1 : Int32) (h : pC_brokenByOpen 3 nb Q L x1 z0 = some (r, z')) : Met l y_C_brokenByOpen (Cond.code y_C_brokenByOpen c_C_brokenByOpen 2 (some .int) :: wsB) rm_C_brokenByOpen (kb_Pc D vwCl [(cI, .int), (cQ, .object RReq)] sz [.ref (a 3), .int x1] (bW cI cQ a nb Q L z0)) (kb_Qi D vwCl sz (bW cI cQ a nb Q L z0) r (bW cI cQ a nb Q L z')) 0 0 (va_A (bW cI cQ a nb Q L z0) sz) := by
  refine kb_start (by decide) rfl (Nat.le_of_ble_eq_true rfl) ?_
  intro p e s m args below meth c A ls S hr hlk hsz hA w hl
  have hl : lv_has ls 2 [(0, .ref (a 3)), (1, .int x1)] := hl
  unfold pC_brokenByOpen at h
  refine lv_aload_n S.1 S.2.1 dC_brokenByOpen_0 rfl (lv_at hl 0 rfl) ?_
  refine kb_get S w 3 rfl fC_15 rfl dC_brokenByOpen_1 ?_
  refine W.eq (g2 := F0 m 4 ls [.ref (a 4)]) rfl ?_
  refine lv_iload_n S.1 S.2.1 dC_brokenByOpen_4 rfl (lv_at hl 1 rfl) ?_
  obtain ⟨hi1, h⟩ := kb_ck_of h
  refine kb_iald S w 4 0 rfl rfl hi1 dC_brokenByOpen_5 ?_
  refine W.eq (g2 := F0 m 6 ls [.int (z0.1 4 (kb_ix (x1)))]) rfl ?_
  refine lv_iconst (v := (-1)) S.1 S.2.1 dC_brokenByOpen_6 (by decide) ?_
  refine lv_icmp_eq (tgt := 12) S.1 S.2.1 dC_brokenByOpen_7 (by decide) (fun hc => ?_) (fun hc => ?_)
  · have h := (kb_brt hc).symm.trans h
    refine lv_aload_n S.1 S.2.1 dC_brokenByOpen_12 rfl (lv_at hl 0 rfl) ?_
    refine lv_iconst (v := 1) S.1 S.2.1 dC_brokenByOpen_13 (by decide) ?_
    refine lv_aload_n S.1 S.2.1 dC_brokenByOpen_14 rfl (lv_at hl 0 rfl) ?_
    refine kb_get S w 3 rfl fC_21 rfl dC_brokenByOpen_15 ?_
    refine W.eq (g2 := F0 m 18 ls [.ref (a 6), .int 1, .ref (a 3)]) rfl ?_
    refine lv_iload_n S.1 S.2.1 dC_brokenByOpen_18 rfl (lv_at hl 1 rfl) ?_
    obtain ⟨hi2, h⟩ := kb_ck_of h
    refine kb_iald S w 6 0 rfl rfl hi2 dC_brokenByOpen_19 ?_
    refine W.eq (g2 := F0 m 20 ls [.int (z0.1 6 (kb_ix (x1))), .int 1, .ref (a 3)]) rfl ?_
    obtain ⟨r4, z3, hc5, h⟩ := kb_cl_of h
    refine kb_calli (As := [.int 1, .int (z0.1 6 (kb_ix (x1)))]) (rest := []) (q0 := 3) (ci := 0) S w (fun sz => cC_isTooSoon_3 l D cI cQ a nb Q L _ _ _ sz 1 (z0.1 6 (kb_ix (x1))) hc5) Y_C_isTooSoon I_C_isTooSoon S_C_isTooSoon lC_58 ⟨rfl, rfl, Nat.le_of_ble_eq_true rfl, Nat.le_of_ble_eq_true rfl⟩ rfl rfl rfl rfl hl.1 rfl (Nat.le_of_ble_eq_true rfl) dC_brokenByOpen_20 ⟨Nat.le_of_ble_eq_true rfl, Nat.le_of_ble_eq_true rfl⟩ (fun H locs w => ?_)
    refine lv_if_eq (tgt := 28) S.1 S.2.1 dC_brokenByOpen_23 (by decide) (fun hc => ?_) (fun hc => ?_)
    · have h := (kb_brt hc).symm.trans h
      refine lv_aload_n S.1 S.2.1 dC_brokenByOpen_28 rfl (lv_at hl 0 rfl) ?_
      refine lv_iconst (v := 3) S.1 S.2.1 dC_brokenByOpen_29 (by decide) ?_
      refine lv_aload_n S.1 S.2.1 dC_brokenByOpen_30 rfl (lv_at hl 0 rfl) ?_
      refine kb_get S w 3 rfl fC_18 rfl dC_brokenByOpen_31 ?_
      refine W.eq (g2 := F0 m 34 ls [.ref (a 5), .int 3, .ref (a 3)]) rfl ?_
      refine lv_iload_n S.1 S.2.1 dC_brokenByOpen_34 rfl (lv_at hl 1 rfl) ?_
      obtain ⟨hi6, h⟩ := kb_ck_of h
      refine kb_iald S w 5 0 rfl rfl hi6 dC_brokenByOpen_35 ?_
      refine W.eq (g2 := F0 m 36 ls [.int (z3.1 5 (kb_ix (x1))), .int 3, .ref (a 3)]) rfl ?_
      obtain ⟨r8, z7, hc9, h⟩ := kb_cl_of h
      refine kb_calli (As := [.int 3, .int (z3.1 5 (kb_ix (x1)))]) (rest := []) (q0 := 3) (ci := 0) S w (fun sz => cC_isTooSoon_3 l D cI cQ a nb Q L _ _ _ sz 3 (z3.1 5 (kb_ix (x1))) hc9) Y_C_isTooSoon I_C_isTooSoon S_C_isTooSoon lC_58 ⟨rfl, rfl, Nat.le_of_ble_eq_true rfl, Nat.le_of_ble_eq_true rfl⟩ rfl rfl rfl rfl hl.1 rfl (Nat.le_of_ble_eq_true rfl) dC_brokenByOpen_36 ⟨Nat.le_of_ble_eq_true rfl, Nat.le_of_ble_eq_true rfl⟩ (fun H locs w => ?_)
      refine lv_if_eq (tgt := 44) S.1 S.2.1 dC_brokenByOpen_39 (by decide) (fun hc => ?_) (fun hc => ?_)
      · have h := (kb_brt hc).symm.trans h
        refine lv_aload_n S.1 S.2.1 dC_brokenByOpen_44 rfl (lv_at hl 0 rfl) ?_
        refine lv_iload_n S.1 S.2.1 dC_brokenByOpen_45 rfl (lv_at hl 1 rfl) ?_
        obtain ⟨r11, z10, hc12, h⟩ := kb_cl_of h
        refine kb_calli (As := [.int x1]) (rest := []) (q0 := 3) (ci := 0) S w (fun sz => cC_isTooSoonForOthers_3 l D cI cQ a nb Q L _ _ _ sz x1 hc12) Y_C_isTooSoonForOthers I_C_isTooSoonForOthers S_C_isTooSoonForOthers lC_62 ⟨rfl, rfl, Nat.le_of_ble_eq_true rfl, Nat.le_of_ble_eq_true rfl⟩ rfl rfl rfl rfl hl.1 rfl (Nat.le_of_ble_eq_true rfl) dC_brokenByOpen_46 ⟨Nat.le_of_ble_eq_true rfl, Nat.le_of_ble_eq_true rfl⟩ (fun H locs w => ?_)
        refine lv_if_eq (tgt := 54) S.1 S.2.1 dC_brokenByOpen_49 (by decide) (fun hc => ?_) (fun hc => ?_)
        · have h := (kb_brt hc).symm.trans h
          refine lv_aload_n S.1 S.2.1 dC_brokenByOpen_54 rfl (lv_at hl 0 rfl) ?_
          refine lv_bipush (v := 8) S.1 S.2.1 dC_brokenByOpen_55 (by decide) ?_
          refine lv_aload_n S.1 S.2.1 dC_brokenByOpen_57 rfl (lv_at hl 0 rfl) ?_
          refine kb_get S w 3 rfl fC_30 rfl dC_brokenByOpen_58 ?_
          refine W.eq (g2 := F0 m 61 ls [.ref (a 9), .int 8, .ref (a 3)]) rfl ?_
          refine lv_aload_n S.1 S.2.1 dC_brokenByOpen_61 rfl (lv_at hl 0 rfl) ?_
          refine kb_get S w 3 rfl fC_66 rfl dC_brokenByOpen_62 ?_
          refine W.eq (g2 := F0 m 65 ls [.int (z10.1 3 0), .ref (a 9), .int 8, .ref (a 3)]) rfl ?_
          obtain ⟨hi13, h⟩ := kb_ck_of h
          refine kb_iald S w 9 0 rfl rfl hi13 dC_brokenByOpen_65 ?_
          refine W.eq (g2 := F0 m 66 ls [.int (z10.1 9 (kb_ix (z10.1 3 0))), .int 8, .ref (a 3)]) rfl ?_
          obtain ⟨r15, z14, hc16, h⟩ := kb_cl_of h
          refine kb_calli (As := [.int 8, .int (z10.1 9 (kb_ix (z10.1 3 0)))]) (rest := []) (q0 := 3) (ci := 0) S w (fun sz => cC_isTooSoon_3 l D cI cQ a nb Q L _ _ _ sz 8 (z10.1 9 (kb_ix (z10.1 3 0))) hc16) Y_C_isTooSoon I_C_isTooSoon S_C_isTooSoon lC_58 ⟨rfl, rfl, Nat.le_of_ble_eq_true rfl, Nat.le_of_ble_eq_true rfl⟩ rfl rfl rfl rfl hl.1 rfl (Nat.le_of_ble_eq_true rfl) dC_brokenByOpen_66 ⟨Nat.le_of_ble_eq_true rfl, Nat.le_of_ble_eq_true rfl⟩ (fun H locs w => ?_)
          refine lv_if_eq (tgt := 74) S.1 S.2.1 dC_brokenByOpen_69 (by decide) (fun hc => ?_) (fun hc => ?_)
          · have h := (kb_brt hc).symm.trans h
            refine lv_aload_n S.1 S.2.1 dC_brokenByOpen_74 rfl (lv_at hl 0 rfl) ?_
            refine lv_bipush (v := 9) S.1 S.2.1 dC_brokenByOpen_75 (by decide) ?_
            refine lv_aload_n S.1 S.2.1 dC_brokenByOpen_77 rfl (lv_at hl 0 rfl) ?_
            refine kb_get S w 3 rfl fC_40 rfl dC_brokenByOpen_78 ?_
            refine W.eq (g2 := F0 m 81 ls [.int (z14.1 3 2), .int 9, .ref (a 3)]) rfl ?_
            obtain ⟨r18, z17, hc19, h⟩ := kb_cl_of h
            refine kb_calli (As := [.int 9, .int (z14.1 3 2)]) (rest := []) (q0 := 3) (ci := 0) S w (fun sz => cC_isTooSoon_3 l D cI cQ a nb Q L _ _ _ sz 9 (z14.1 3 2) hc19) Y_C_isTooSoon I_C_isTooSoon S_C_isTooSoon lC_58 ⟨rfl, rfl, Nat.le_of_ble_eq_true rfl, Nat.le_of_ble_eq_true rfl⟩ rfl rfl rfl rfl hl.1 rfl (Nat.le_of_ble_eq_true rfl) dC_brokenByOpen_81 ⟨Nat.le_of_ble_eq_true rfl, Nat.le_of_ble_eq_true rfl⟩ (fun H locs w => ?_)
            refine lv_if_eq (tgt := 92) S.1 S.2.1 dC_brokenByOpen_84 (by decide) (fun hc => ?_) (fun hc => ?_)
            · have h := (kb_brt hc).symm.trans h
              refine lv_iconst (v := 0) S.1 S.2.1 dC_brokenByOpen_92 (by decide) ?_
              exact kb_iret (bW cI cQ a nb Q L) S hr hlk hA w h dC_brokenByOpen_93
            · have h := (kb_brf hc).symm.trans h
              refine lv_bipush (v := 6) S.1 S.2.1 dC_brokenByOpen_87 (by decide) ?_
              refine lv_goto (tgt := 93) S.1 S.2.1 dC_brokenByOpen_89 (by decide) ?_
              exact kb_iret (bW cI cQ a nb Q L) S hr hlk hA w h dC_brokenByOpen_93
          · have h := (kb_brf hc).symm.trans h
            refine lv_iconst (v := 5) S.1 S.2.1 dC_brokenByOpen_72 (by decide) ?_
            exact kb_iret (bW cI cQ a nb Q L) S hr hlk hA w h dC_brokenByOpen_73
        · have h := (kb_brf hc).symm.trans h
          refine lv_iconst (v := 4) S.1 S.2.1 dC_brokenByOpen_52 (by decide) ?_
          exact kb_iret (bW cI cQ a nb Q L) S hr hlk hA w h dC_brokenByOpen_53
      · have h := (kb_brf hc).symm.trans h
        refine lv_iconst (v := 3) S.1 S.2.1 dC_brokenByOpen_42 (by decide) ?_
        exact kb_iret (bW cI cQ a nb Q L) S hr hlk hA w h dC_brokenByOpen_43
    · have h := (kb_brf hc).symm.trans h
      refine lv_iconst (v := 2) S.1 S.2.1 dC_brokenByOpen_26 (by decide) ?_
      exact kb_iret (bW cI cQ a nb Q L) S hr hlk hA w h dC_brokenByOpen_27
  · have h := (kb_brf hc).symm.trans h
    refine lv_iconst (v := 1) S.1 S.2.1 dC_brokenByOpen_10 (by decide) ?_
    exact kb_iret (bW cI cQ a nb Q L) S hr hlk hA w h dC_brokenByOpen_11
set_option maxHeartbeats 4000000 in
set_option maxRecDepth 100000 in
theorem cC_brokenByOpen_11 (l : Launch) (D : va_G) (cI cQ : ClassId) (a : Nat → Nat) (nb Q : Nat) (L : List Nat) (z0 z' : kc_S) (r : Int32) (sz : Nat) (x1 : Int32) (h : pC_brokenByOpen 11 nb Q L x1 z0 = some (r, z')) : Met l y_C_brokenByOpen (Cond.code y_C_brokenByOpen c_C_brokenByOpen 2 (some .int) :: wsB) rm_C_brokenByOpen (kb_Pc D vwCl [(cI, .int), (cQ, .object RReq)] sz [.ref (a 11), .int x1] (bW cI cQ a nb Q L z0)) (kb_Qi D vwCl sz (bW cI cQ a nb Q L z0) r (bW cI cQ a nb Q L z')) 0 0 (va_A (bW cI cQ a nb Q L z0) sz) := by
  refine kb_start (by decide) rfl (Nat.le_of_ble_eq_true rfl) ?_
  intro p e s m args below meth c A ls S hr hlk hsz hA w hl
  have hl : lv_has ls 2 [(0, .ref (a 11)), (1, .int x1)] := hl
  unfold pC_brokenByOpen at h
  refine lv_aload_n S.1 S.2.1 dC_brokenByOpen_0 rfl (lv_at hl 0 rfl) ?_
  refine kb_get S w 11 rfl fC_15 rfl dC_brokenByOpen_1 ?_
  refine W.eq (g2 := F0 m 4 ls [.ref (a 12)]) rfl ?_
  refine lv_iload_n S.1 S.2.1 dC_brokenByOpen_4 rfl (lv_at hl 1 rfl) ?_
  obtain ⟨hi1, h⟩ := kb_ck_of h
  refine kb_iald S w 12 0 rfl rfl hi1 dC_brokenByOpen_5 ?_
  refine W.eq (g2 := F0 m 6 ls [.int (z0.1 12 (kb_ix (x1)))]) rfl ?_
  refine lv_iconst (v := (-1)) S.1 S.2.1 dC_brokenByOpen_6 (by decide) ?_
  refine lv_icmp_eq (tgt := 12) S.1 S.2.1 dC_brokenByOpen_7 (by decide) (fun hc => ?_) (fun hc => ?_)
  · have h := (kb_brt hc).symm.trans h
    refine lv_aload_n S.1 S.2.1 dC_brokenByOpen_12 rfl (lv_at hl 0 rfl) ?_
    refine lv_iconst (v := 1) S.1 S.2.1 dC_brokenByOpen_13 (by decide) ?_
    refine lv_aload_n S.1 S.2.1 dC_brokenByOpen_14 rfl (lv_at hl 0 rfl) ?_
    refine kb_get S w 11 rfl fC_21 rfl dC_brokenByOpen_15 ?_
    refine W.eq (g2 := F0 m 18 ls [.ref (a 14), .int 1, .ref (a 11)]) rfl ?_
    refine lv_iload_n S.1 S.2.1 dC_brokenByOpen_18 rfl (lv_at hl 1 rfl) ?_
    obtain ⟨hi2, h⟩ := kb_ck_of h
    refine kb_iald S w 14 0 rfl rfl hi2 dC_brokenByOpen_19 ?_
    refine W.eq (g2 := F0 m 20 ls [.int (z0.1 14 (kb_ix (x1))), .int 1, .ref (a 11)]) rfl ?_
    obtain ⟨r4, z3, hc5, h⟩ := kb_cl_of h
    refine kb_calli (As := [.int 1, .int (z0.1 14 (kb_ix (x1)))]) (rest := []) (q0 := 11) (ci := 0) S w (fun sz => cC_isTooSoon_11 l D cI cQ a nb Q L _ _ _ sz 1 (z0.1 14 (kb_ix (x1))) hc5) Y_C_isTooSoon I_C_isTooSoon S_C_isTooSoon lC_58 ⟨rfl, rfl, Nat.le_of_ble_eq_true rfl, Nat.le_of_ble_eq_true rfl⟩ rfl rfl rfl rfl hl.1 rfl (Nat.le_of_ble_eq_true rfl) dC_brokenByOpen_20 ⟨Nat.le_of_ble_eq_true rfl, Nat.le_of_ble_eq_true rfl⟩ (fun H locs w => ?_)
    refine lv_if_eq (tgt := 28) S.1 S.2.1 dC_brokenByOpen_23 (by decide) (fun hc => ?_) (fun hc => ?_)
    · have h := (kb_brt hc).symm.trans h
      refine lv_aload_n S.1 S.2.1 dC_brokenByOpen_28 rfl (lv_at hl 0 rfl) ?_
      refine lv_iconst (v := 3) S.1 S.2.1 dC_brokenByOpen_29 (by decide) ?_
      refine lv_aload_n S.1 S.2.1 dC_brokenByOpen_30 rfl (lv_at hl 0 rfl) ?_
      refine kb_get S w 11 rfl fC_18 rfl dC_brokenByOpen_31 ?_
      refine W.eq (g2 := F0 m 34 ls [.ref (a 13), .int 3, .ref (a 11)]) rfl ?_
      refine lv_iload_n S.1 S.2.1 dC_brokenByOpen_34 rfl (lv_at hl 1 rfl) ?_
      obtain ⟨hi6, h⟩ := kb_ck_of h
      refine kb_iald S w 13 0 rfl rfl hi6 dC_brokenByOpen_35 ?_
      refine W.eq (g2 := F0 m 36 ls [.int (z3.1 13 (kb_ix (x1))), .int 3, .ref (a 11)]) rfl ?_
      obtain ⟨r8, z7, hc9, h⟩ := kb_cl_of h
      refine kb_calli (As := [.int 3, .int (z3.1 13 (kb_ix (x1)))]) (rest := []) (q0 := 11) (ci := 0) S w (fun sz => cC_isTooSoon_11 l D cI cQ a nb Q L _ _ _ sz 3 (z3.1 13 (kb_ix (x1))) hc9) Y_C_isTooSoon I_C_isTooSoon S_C_isTooSoon lC_58 ⟨rfl, rfl, Nat.le_of_ble_eq_true rfl, Nat.le_of_ble_eq_true rfl⟩ rfl rfl rfl rfl hl.1 rfl (Nat.le_of_ble_eq_true rfl) dC_brokenByOpen_36 ⟨Nat.le_of_ble_eq_true rfl, Nat.le_of_ble_eq_true rfl⟩ (fun H locs w => ?_)
      refine lv_if_eq (tgt := 44) S.1 S.2.1 dC_brokenByOpen_39 (by decide) (fun hc => ?_) (fun hc => ?_)
      · have h := (kb_brt hc).symm.trans h
        refine lv_aload_n S.1 S.2.1 dC_brokenByOpen_44 rfl (lv_at hl 0 rfl) ?_
        refine lv_iload_n S.1 S.2.1 dC_brokenByOpen_45 rfl (lv_at hl 1 rfl) ?_
        obtain ⟨r11, z10, hc12, h⟩ := kb_cl_of h
        refine kb_calli (As := [.int x1]) (rest := []) (q0 := 11) (ci := 0) S w (fun sz => cC_isTooSoonForOthers_11 l D cI cQ a nb Q L _ _ _ sz x1 hc12) Y_C_isTooSoonForOthers I_C_isTooSoonForOthers S_C_isTooSoonForOthers lC_62 ⟨rfl, rfl, Nat.le_of_ble_eq_true rfl, Nat.le_of_ble_eq_true rfl⟩ rfl rfl rfl rfl hl.1 rfl (Nat.le_of_ble_eq_true rfl) dC_brokenByOpen_46 ⟨Nat.le_of_ble_eq_true rfl, Nat.le_of_ble_eq_true rfl⟩ (fun H locs w => ?_)
        refine lv_if_eq (tgt := 54) S.1 S.2.1 dC_brokenByOpen_49 (by decide) (fun hc => ?_) (fun hc => ?_)
        · have h := (kb_brt hc).symm.trans h
          refine lv_aload_n S.1 S.2.1 dC_brokenByOpen_54 rfl (lv_at hl 0 rfl) ?_
          refine lv_bipush (v := 8) S.1 S.2.1 dC_brokenByOpen_55 (by decide) ?_
          refine lv_aload_n S.1 S.2.1 dC_brokenByOpen_57 rfl (lv_at hl 0 rfl) ?_
          refine kb_get S w 11 rfl fC_30 rfl dC_brokenByOpen_58 ?_
          refine W.eq (g2 := F0 m 61 ls [.ref (a 17), .int 8, .ref (a 11)]) rfl ?_
          refine lv_aload_n S.1 S.2.1 dC_brokenByOpen_61 rfl (lv_at hl 0 rfl) ?_
          refine kb_get S w 11 rfl fC_66 rfl dC_brokenByOpen_62 ?_
          refine W.eq (g2 := F0 m 65 ls [.int (z10.1 11 0), .ref (a 17), .int 8, .ref (a 11)]) rfl ?_
          obtain ⟨hi13, h⟩ := kb_ck_of h
          refine kb_iald S w 17 0 rfl rfl hi13 dC_brokenByOpen_65 ?_
          refine W.eq (g2 := F0 m 66 ls [.int (z10.1 17 (kb_ix (z10.1 11 0))), .int 8, .ref (a 11)]) rfl ?_
          obtain ⟨r15, z14, hc16, h⟩ := kb_cl_of h
          refine kb_calli (As := [.int 8, .int (z10.1 17 (kb_ix (z10.1 11 0)))]) (rest := []) (q0 := 11) (ci := 0) S w (fun sz => cC_isTooSoon_11 l D cI cQ a nb Q L _ _ _ sz 8 (z10.1 17 (kb_ix (z10.1 11 0))) hc16) Y_C_isTooSoon I_C_isTooSoon S_C_isTooSoon lC_58 ⟨rfl, rfl, Nat.le_of_ble_eq_true rfl, Nat.le_of_ble_eq_true rfl⟩ rfl rfl rfl rfl hl.1 rfl (Nat.le_of_ble_eq_true rfl) dC_brokenByOpen_66 ⟨Nat.le_of_ble_eq_true rfl, Nat.le_of_ble_eq_true rfl⟩ (fun H locs w => ?_)
          refine lv_if_eq (tgt := 74) S.1 S.2.1 dC_brokenByOpen_69 (by decide) (fun hc => ?_) (fun hc => ?_)
          · have h := (kb_brt hc).symm.trans h
            refine lv_aload_n S.1 S.2.1 dC_brokenByOpen_74 rfl (lv_at hl 0 rfl) ?_
            refine lv_bipush (v := 9) S.1 S.2.1 dC_brokenByOpen_75 (by decide) ?_
            refine lv_aload_n S.1 S.2.1 dC_brokenByOpen_77 rfl (lv_at hl 0 rfl) ?_
            refine kb_get S w 11 rfl fC_40 rfl dC_brokenByOpen_78 ?_
            refine W.eq (g2 := F0 m 81 ls [.int (z14.1 11 2), .int 9, .ref (a 11)]) rfl ?_
            obtain ⟨r18, z17, hc19, h⟩ := kb_cl_of h
            refine kb_calli (As := [.int 9, .int (z14.1 11 2)]) (rest := []) (q0 := 11) (ci := 0) S w (fun sz => cC_isTooSoon_11 l D cI cQ a nb Q L _ _ _ sz 9 (z14.1 11 2) hc19) Y_C_isTooSoon I_C_isTooSoon S_C_isTooSoon lC_58 ⟨rfl, rfl, Nat.le_of_ble_eq_true rfl, Nat.le_of_ble_eq_true rfl⟩ rfl rfl rfl rfl hl.1 rfl (Nat.le_of_ble_eq_true rfl) dC_brokenByOpen_81 ⟨Nat.le_of_ble_eq_true rfl, Nat.le_of_ble_eq_true rfl⟩ (fun H locs w => ?_)
            refine lv_if_eq (tgt := 92) S.1 S.2.1 dC_brokenByOpen_84 (by decide) (fun hc => ?_) (fun hc => ?_)
            · have h := (kb_brt hc).symm.trans h
              refine lv_iconst (v := 0) S.1 S.2.1 dC_brokenByOpen_92 (by decide) ?_
              exact kb_iret (bW cI cQ a nb Q L) S hr hlk hA w h dC_brokenByOpen_93
            · have h := (kb_brf hc).symm.trans h
              refine lv_bipush (v := 6) S.1 S.2.1 dC_brokenByOpen_87 (by decide) ?_
              refine lv_goto (tgt := 93) S.1 S.2.1 dC_brokenByOpen_89 (by decide) ?_
              exact kb_iret (bW cI cQ a nb Q L) S hr hlk hA w h dC_brokenByOpen_93
          · have h := (kb_brf hc).symm.trans h
            refine lv_iconst (v := 5) S.1 S.2.1 dC_brokenByOpen_72 (by decide) ?_
            exact kb_iret (bW cI cQ a nb Q L) S hr hlk hA w h dC_brokenByOpen_73
        · have h := (kb_brf hc).symm.trans h
          refine lv_iconst (v := 4) S.1 S.2.1 dC_brokenByOpen_52 (by decide) ?_
          exact kb_iret (bW cI cQ a nb Q L) S hr hlk hA w h dC_brokenByOpen_53
      · have h := (kb_brf hc).symm.trans h
        refine lv_iconst (v := 3) S.1 S.2.1 dC_brokenByOpen_42 (by decide) ?_
        exact kb_iret (bW cI cQ a nb Q L) S hr hlk hA w h dC_brokenByOpen_43
    · have h := (kb_brf hc).symm.trans h
      refine lv_iconst (v := 2) S.1 S.2.1 dC_brokenByOpen_26 (by decide) ?_
      exact kb_iret (bW cI cQ a nb Q L) S hr hlk hA w h dC_brokenByOpen_27
  · have h := (kb_brf hc).symm.trans h
    refine lv_iconst (v := 1) S.1 S.2.1 dC_brokenByOpen_10 (by decide) ?_
    exact kb_iret (bW cI cQ a nb Q L) S hr hlk hA w h dC_brokenByOpen_11
set_option maxHeartbeats 4000000 in
set_option maxRecDepth 100000 in
theorem cB_isWanted (l : Launch) (D : va_G) (cI cQ : ClassId) (a : Nat → Nat) (nb Q : Nat) (L : List Nat) (z0 z' : kc_S) (r : Int32) (sz : Nat) (x1 : Int32) (x2 : Int32) (x3 : Int32) (h : pB_isWanted nb Q L x1 x2 x3 z0 = some (r, z')) : Met l y_B_isWanted (Cond.code y_B_isWanted c_B_isWanted 5 (some .boolean) :: wsB) rm_B_isWanted (kb_Pc D vwCl [(cI, .int), (cQ, .object RReq)] sz [.ref (a 0), .int x1, .int x2, .int x3] (bW cI cQ a nb Q L z0)) (kb_Qi D vwCl sz (bW cI cQ a nb Q L z0) r (bW cI cQ a nb Q L z')) 0 0 (va_A (bW cI cQ a nb Q L z0) sz) := by
  refine kb_start (by decide) rfl (Nat.le_of_ble_eq_true rfl) ?_
  intro p e s m args below meth c A ls S hr hlk hsz hA w hl
  have hl : lv_has ls 5 [(0, .ref (a 0)), (1, .int x1), (2, .int x2), (3, .int x3)] := hl
  unfold pB_isWanted at h
  have L3 : ∀ (n : Nat) (x1 : Int32) (x2 : Int32) (x3 : Int32) (x4 : Int32) (z : kc_S) (H : Heap) (locs : List Loc) (ls : Array Slot), lv_has ls 5 [(0, .ref (a 0)), (1, .int x1), (2, .int x2), (3, .int x3), (4, .int x4)] → kb_W D vwCl [(cI, .int), (cQ, .object RReq)] A s H locs (bW cI cQ a nb Q L z) → pB_isWanted_L3 nb Q L n x1 x2 x3 x4 z = some (r, z') → W p l e rm_B_isWanted s m args below meth c H locs 0 0 (MQ below (kb_Qi D vwCl sz (bW cI cQ a nb Q L z0) r (bW cI cQ a nb Q L z')) args s 0 0 (va_A (bW cI cQ a nb Q L z0) sz)) (F0 m 3 ls []) := by
    intro n
    induction n with
    | zero =>
      intro x1 x2 x3 x4 z H locs ls hl w h
      exact absurd h (by simp [pB_isWanted_L3])
    | succ n ih =>
      intro x1 x2 x3 x4 z H locs ls hl w h
      rw [pB_isWanted_L3] at h
      refine lv_iload S.1 S.2.1 dB_isWanted_3 (lv_at hl 4 rfl) ?_
      refine lv_iload_n S.1 S.2.1 dB_isWanted_5 rfl (lv_at hl 3 rfl) ?_
      refine lv_icmp_ge (tgt := 45) S.1 S.2.1 dB_isWanted_6 (by decide) (fun hc => ?_) (fun hc => ?_)
      · have h := (kb_brt hc).symm.trans h
        refine lv_iconst (v := 0) S.1 S.2.1 dB_isWanted_45 (by decide) ?_
        exact kb_zret (bW cI cQ a nb Q L) S hr hlk hA w h (by decide) dB_isWanted_46
      · have h := (kb_brf hc).symm.trans h
        refine lv_aload_n S.1 S.2.1 dB_isWanted_9 rfl (lv_at hl 0 rfl) ?_
        refine kb_get S w 0 rfl fB_51 rfl dB_isWanted_10 ?_
        refine W.eq (g2 := F0 m 13 ls [.ref (a 21)]) rfl ?_
        refine lv_iload S.1 S.2.1 dB_isWanted_13 (lv_at hl 4 rfl) ?_
        obtain ⟨hi1, h⟩ := kb_ck_of h
        refine kb_ald S w 21 1 rfl rfl hi1 dB_isWanted_15 ?_
        refine W.eq (g2 := F0 m 16 ls [.ref (z.2.1 (kb_ix (x4)))]) rfl ?_
        obtain ⟨hm2, h⟩ := kb_ck_of h
        obtain ⟨k3, hq4⟩ := va_pl_get (X := bX cI cQ a nb Q z) (f := kc_F z.2.2) hm2
        refine kb_get S w k3 hq4 fB_178 rfl dB_isWanted_16 ?_
        refine W.eq (g2 := F0 m 19 ls [.int (z.2.2 (z.2.1 (kb_ix (x4))) 1)]) rfl ?_
        refine lv_iload_n S.1 S.2.1 dB_isWanted_19 rfl (lv_at hl 1 rfl) ?_
        refine lv_icmp_ne (tgt := 39) S.1 S.2.1 dB_isWanted_20 (by decide) (fun hc => ?_) (fun hc => ?_)
        · have h := (kb_brf hc).symm.trans h
          refine lv_iinc (v := x4 + 1) (k := 4) S.1 S.2.1 dB_isWanted_39 hl rfl rfl (by decide) rfl (fun ls hl => ?_)
          have hl : lv_has ls 5 [(4, .int (x4 + 1)), (0, .ref (a 0)), (1, .int x1), (2, .int x2), (3, .int x3)] := hl
          refine lv_goto (tgt := 3) S.1 S.2.1 dB_isWanted_42 (by decide) ?_
          exact ih x1 x2 x3 (x4 + 1) z _ _ _ (lv_sub hl [1, 2, 3, 4, 0] rfl) w h
        · have h := (kb_brt hc).symm.trans h
          refine lv_aload_n S.1 S.2.1 dB_isWanted_23 rfl (lv_at hl 0 rfl) ?_
          refine kb_get S w 0 rfl fB_51 rfl dB_isWanted_24 ?_
          refine W.eq (g2 := F0 m 27 ls [.ref (a 21)]) rfl ?_
          refine lv_iload S.1 S.2.1 dB_isWanted_27 (lv_at hl 4 rfl) ?_
          obtain ⟨hi5, h⟩ := kb_ck_of h
          refine kb_ald S w 21 1 rfl rfl hi5 dB_isWanted_29 ?_
          refine W.eq (g2 := F0 m 30 ls [.ref (z.2.1 (kb_ix (x4)))]) rfl ?_
          obtain ⟨hm6, h⟩ := kb_ck_of h
          obtain ⟨k7, hq8⟩ := va_pl_get (X := bX cI cQ a nb Q z) (f := kc_F z.2.2) hm6
          refine kb_get S w k7 hq8 fB_181 rfl dB_isWanted_30 ?_
          refine W.eq (g2 := F0 m 33 ls [.int (z.2.2 (z.2.1 (kb_ix (x4))) 2)]) rfl ?_
          refine lv_iload_n S.1 S.2.1 dB_isWanted_33 rfl (lv_at hl 2 rfl) ?_
          refine lv_icmp_ne (tgt := 39) S.1 S.2.1 dB_isWanted_34 (by decide) (fun hc => ?_) (fun hc => ?_)
          · have h := (kb_brf hc).symm.trans h
            refine lv_iinc (v := x4 + 1) (k := 4) S.1 S.2.1 dB_isWanted_39 hl rfl rfl (by decide) rfl (fun ls hl => ?_)
            have hl : lv_has ls 5 [(4, .int (x4 + 1)), (0, .ref (a 0)), (1, .int x1), (2, .int x2), (3, .int x3)] := hl
            refine lv_goto (tgt := 3) S.1 S.2.1 dB_isWanted_42 (by decide) ?_
            exact ih x1 x2 x3 (x4 + 1) z _ _ _ (lv_sub hl [1, 2, 3, 4, 0] rfl) w h
          · have h := (kb_brt hc).symm.trans h
            refine lv_iconst (v := 1) S.1 S.2.1 dB_isWanted_37 (by decide) ?_
            exact kb_zret (bW cI cQ a nb Q L) S hr hlk hA w h (by decide) dB_isWanted_38
  refine lv_iconst (v := 0) S.1 S.2.1 dB_isWanted_0 (by decide) ?_
  refine lv_istore S.1 S.2.1 dB_isWanted_1 hl (by decide) rfl (fun ls hl => ?_)
  have hl : lv_has ls 5 [(4, .int 0), (0, .ref (a 0)), (1, .int x1), (2, .int x2), (3, .int x3)] := hl
  exact L3 3000 x1 x2 x3 0 z0 _ _ _ (lv_sub hl [1, 2, 3, 4, 0] rfl) w h
set_option maxHeartbeats 4000000 in
set_option maxRecDepth 100000 in
theorem cB_giveWay (l : Launch) (D : va_G) (cI cQ : ClassId) (a : Nat → Nat) (nb Q : Nat) (L : List Nat) (z0 z' : kc_S) (r : Int32) (sz : Nat) (x1 : Int32) (h : pB_giveWay nb Q L x1 z0 = some (r, z')) : Met l y_B_giveWay (Cond.code y_B_giveWay c_B_giveWay 5 (some .int) :: wsB) rm_B_giveWay (kb_Pc D vwCl [(cI, .int), (cQ, .object RReq)] sz [.ref (a 0), .int x1] (bW cI cQ a nb Q L z0)) (kb_Qi D vwCl sz (bW cI cQ a nb Q L z0) r (bW cI cQ a nb Q L z')) 0 0 (va_A (bW cI cQ a nb Q L z0) sz) := by
  refine kb_start (by decide) rfl (Nat.le_of_ble_eq_true rfl) ?_
  intro p e s m args below meth c A ls S hr hlk hsz hA w hl
  have hl : lv_has ls 5 [(0, .ref (a 0)), (1, .int x1)] := hl
  unfold pB_giveWay at h
  have L2 : ∀ (n : Nat) (x1 : Int32) (x2 : Int32) (z : kc_S) (H : Heap) (locs : List Loc) (ls : Array Slot), lv_has ls 5 [(0, .ref (a 0)), (1, .int x1), (2, .int x2)] → kb_W D vwCl [(cI, .int), (cQ, .object RReq)] A s H locs (bW cI cQ a nb Q L z) → pB_giveWay_L2 nb Q L n x1 x2 z = some (r, z') → W p l e rm_B_giveWay s m args below meth c H locs 0 0 (MQ below (kb_Qi D vwCl sz (bW cI cQ a nb Q L z0) r (bW cI cQ a nb Q L z')) args s 0 0 (va_A (bW cI cQ a nb Q L z0) sz)) (F0 m 2 ls []) := by
    intro n
    induction n with
    | zero =>
      intro x1 x2 z H locs ls hl w h
      exact absurd h (by simp [pB_giveWay_L2])
    | succ n ih =>
      intro x1 x2 z H locs ls hl w h
      rw [pB_giveWay_L2] at h
      refine lv_iload_n S.1 S.2.1 dB_giveWay_2 rfl (lv_at hl 2 rfl) ?_
      refine lv_iload_n S.1 S.2.1 dB_giveWay_3 rfl (lv_at hl 1 rfl) ?_
      refine lv_icmp_ge (tgt := 118) S.1 S.2.1 dB_giveWay_4 (by decide) (fun hc => ?_) (fun hc => ?_)
      · have h := (kb_brt hc).symm.trans h
        refine lv_iconst (v := 0) S.1 S.2.1 dB_giveWay_118 (by decide) ?_
        exact kb_iret (bW cI cQ a nb Q L) S hr hlk hA w h dB_giveWay_119
      · have h := (kb_brf hc).symm.trans h
        refine lv_aload_n S.1 S.2.1 dB_giveWay_7 rfl (lv_at hl 0 rfl) ?_
        refine kb_get S w 0 rfl fB_51 rfl dB_giveWay_8 ?_
        refine W.eq (g2 := F0 m 11 ls [.ref (a 21)]) rfl ?_
        refine lv_iload_n S.1 S.2.1 dB_giveWay_11 rfl (lv_at hl 2 rfl) ?_
        obtain ⟨hi1, h⟩ := kb_ck_of h
        refine kb_ald S w 21 1 rfl rfl hi1 dB_giveWay_12 ?_
        refine W.eq (g2 := F0 m 13 ls [.ref (z.2.1 (kb_ix (x2)))]) rfl ?_
        refine lv_astore_n S.1 S.2.1 dB_giveWay_13 rfl hl (by decide) rfl (fun ls hl => ?_)
        have hl : lv_has ls 5 [(3, .ref (z.2.1 (kb_ix (x2)))), (0, .ref (a 0)), (1, .int x1), (2, .int x2)] := hl
        refine lv_aload_n S.1 S.2.1 dB_giveWay_14 rfl (lv_at hl 1 rfl) ?_
        refine lv_iload_n S.1 S.2.1 dB_giveWay_15 rfl (lv_at hl 3 rfl) ?_
        obtain ⟨r3, z2, hc4, h⟩ := kb_cl_of h
        refine kb_calli (As := [.int x2]) (rest := []) (q0 := 0) (ci := 2) S w (fun sz => cB_hasOlderForBank l D cI cQ a nb Q L _ _ _ sz x2 hc4) Y_B_hasOlderForBank I_B_hasOlderForBank S_B_hasOlderForBank lB_237 ⟨rfl, rfl, Nat.le_of_ble_eq_true rfl, Nat.le_of_ble_eq_true rfl⟩ rfl rfl rfl rfl hl.1 rfl (Nat.le_of_ble_eq_true rfl) dB_giveWay_16 ⟨Nat.le_of_ble_eq_true rfl, Nat.le_of_ble_eq_true rfl⟩ (fun H locs w => ?_)
        refine lv_if_eq (tgt := 25) S.1 S.2.1 dB_giveWay_19 (by decide) (fun hc => ?_) (fun hc => ?_)
        · have h := (kb_brt hc).symm.trans h
          refine lv_aload_n S.1 S.2.1 dB_giveWay_25 rfl (lv_at hl 1 rfl) ?_
          refine kb_get S w 0 rfl fB_42 rfl dB_giveWay_26 ?_
          refine W.eq (g2 := F0 m 29 ls [.ref (a 3)]) rfl ?_
          refine kb_get S w 3 rfl fB_131 rfl dB_giveWay_29 ?_
          refine W.eq (g2 := F0 m 32 ls [.ref (a 4)]) rfl ?_
          refine lv_aload_n S.1 S.2.1 dB_giveWay_32 rfl (lv_at hl 0 rfl) ?_
          obtain ⟨hm5, h⟩ := kb_ck_of h
          obtain ⟨k6, hq7⟩ := va_pl_get (X := bX cI cQ a nb Q z2) (f := kc_F z2.2.2) hm5
          refine kb_get S w k6 hq7 fB_178 rfl dB_giveWay_33 ?_
          refine W.eq (g2 := F0 m 36 ls [.int (z2.2.2 (z.2.1 (kb_ix (x2))) 1), .ref (a 4)]) rfl ?_
          obtain ⟨hi8, h⟩ := kb_ck_of h
          refine kb_iald S w 4 0 rfl rfl hi8 dB_giveWay_36 ?_
          refine W.eq (g2 := F0 m 37 ls [.int (z2.1 4 (kb_ix (z2.2.2 (z.2.1 (kb_ix (x2))) 1)))]) rfl ?_
          refine lv_istore S.1 S.2.1 dB_giveWay_37 hl (by decide) rfl (fun ls hl => ?_)
          have hl : lv_has ls 5 [(4, .int (z2.1 4 (kb_ix (z2.2.2 (z.2.1 (kb_ix (x2))) 1)))), (3, .ref (z.2.1 (kb_ix (x2)))), (0, .ref (a 0)), (1, .int x1), (2, .int x2)] := hl
          refine lv_iload S.1 S.2.1 dB_giveWay_39 (lv_at hl 0 rfl) ?_
          refine lv_iconst (v := (-1)) S.1 S.2.1 dB_giveWay_41 (by decide) ?_
          refine lv_icmp_ne (tgt := 73) S.1 S.2.1 dB_giveWay_42 (by decide) (fun hc => ?_) (fun hc => ?_)
          · have h := (kb_brf hc).symm.trans h
            refine lv_aload_n S.1 S.2.1 dB_giveWay_73 rfl (lv_at hl 2 rfl) ?_
            refine lv_aload_n S.1 S.2.1 dB_giveWay_74 rfl (lv_at hl 1 rfl) ?_
            obtain ⟨hm9, h⟩ := kb_ck_of h
            obtain ⟨k10, hq11⟩ := va_pl_get (X := bX cI cQ a nb Q z2) (f := kc_F z2.2.2) hm9
            refine kb_get S w k10 hq11 fB_178 rfl dB_giveWay_75 ?_
            refine W.eq (g2 := F0 m 78 ls [.int (z2.2.2 (z.2.1 (kb_ix (x2))) 1), .ref (a 0)]) rfl ?_
            refine lv_iload S.1 S.2.1 dB_giveWay_78 (lv_at hl 0 rfl) ?_
            refine lv_iload_n S.1 S.2.1 dB_giveWay_80 rfl (lv_at hl 3 rfl) ?_
            obtain ⟨r13, z12, hc14, h⟩ := kb_cl_of h
            refine kb_calli (As := [.int (z2.2.2 (z.2.1 (kb_ix (x2))) 1), .int (z2.1 4 (kb_ix (z2.2.2 (z.2.1 (kb_ix (x2))) 1))), .int x1]) (rest := []) (q0 := 0) (ci := 2) S w (fun sz => cB_isWanted l D cI cQ a nb Q L _ _ _ sz (z2.2.2 (z.2.1 (kb_ix (x2))) 1) (z2.1 4 (kb_ix (z2.2.2 (z.2.1 (kb_ix (x2))) 1))) x1 hc14) Y_B_isWanted I_B_isWanted S_B_isWanted lB_243 ⟨rfl, rfl, Nat.le_of_ble_eq_true rfl, Nat.le_of_ble_eq_true rfl⟩ rfl rfl rfl rfl hl.1 rfl (Nat.le_of_ble_eq_true rfl) dB_giveWay_81 ⟨Nat.le_of_ble_eq_true rfl, Nat.le_of_ble_eq_true rfl⟩ (fun H locs w => ?_)
            refine lv_if_ne (tgt := 112) S.1 S.2.1 dB_giveWay_84 (by decide) (fun hc => ?_) (fun hc => ?_)
            · have h := (kb_brf hc).symm.trans h
              refine lv_iinc (v := x2 + 1) (k := 4) S.1 S.2.1 dB_giveWay_112 hl rfl rfl (by decide) rfl (fun ls hl => ?_)
              have hl : lv_has ls 5 [(2, .int (x2 + 1)), (4, .int (z2.1 4 (kb_ix (z2.2.2 (z.2.1 (kb_ix (x2))) 1)))), (3, .ref (z.2.1 (kb_ix (x2)))), (0, .ref (a 0)), (1, .int x1)] := hl
              refine lv_goto (tgt := 2) S.1 S.2.1 dB_giveWay_115 (by decide) ?_
              exact ih x1 (x2 + 1) z12 _ _ _ (lv_sub hl [3, 4, 0] rfl) w h
            · have h := (kb_brt hc).symm.trans h
              refine lv_aload_n S.1 S.2.1 dB_giveWay_87 rfl (lv_at hl 2 rfl) ?_
              refine kb_get S w 0 rfl fB_42 rfl dB_giveWay_88 ?_
              refine W.eq (g2 := F0 m 91 ls [.ref (a 3)]) rfl ?_
              refine lv_aload_n S.1 S.2.1 dB_giveWay_91 rfl (lv_at hl 1 rfl) ?_
              obtain ⟨hm15, h⟩ := kb_ck_of h
              obtain ⟨k16, hq17⟩ := va_pl_get (X := bX cI cQ a nb Q z12) (f := kc_F z12.2.2) hm15
              refine kb_get S w k16 hq17 fB_178 rfl dB_giveWay_92 ?_
              refine W.eq (g2 := F0 m 95 ls [.int (z12.2.2 (z.2.1 (kb_ix (x2))) 1), .ref (a 3)]) rfl ?_
              obtain ⟨r19, z18, hc20, h⟩ := kb_cl_of h
              refine kb_calli (As := [.int (z12.2.2 (z.2.1 (kb_ix (x2))) 1)]) (rest := []) (q0 := 3) (ci := 0) S w (fun sz => cC_brokenByClose_3 l D cI cQ a nb Q L _ _ _ sz (z12.2.2 (z.2.1 (kb_ix (x2))) 1) hc20) Y_C_brokenByClose I_C_brokenByClose S_C_brokenByClose lB_220 ⟨rfl, rfl, Nat.le_of_ble_eq_true rfl, Nat.le_of_ble_eq_true rfl⟩ rfl rfl rfl rfl hl.1 rfl (Nat.le_of_ble_eq_true rfl) dB_giveWay_95 ⟨Nat.le_of_ble_eq_true rfl, Nat.le_of_ble_eq_true rfl⟩ (fun H locs w => ?_)
              refine lv_if_ne (tgt := 112) S.1 S.2.1 dB_giveWay_98 (by decide) (fun hc => ?_) (fun hc => ?_)
              · have h := (kb_brf hc).symm.trans h
                refine lv_iinc (v := x2 + 1) (k := 4) S.1 S.2.1 dB_giveWay_112 hl rfl rfl (by decide) rfl (fun ls hl => ?_)
                have hl : lv_has ls 5 [(2, .int (x2 + 1)), (4, .int (z2.1 4 (kb_ix (z2.2.2 (z.2.1 (kb_ix (x2))) 1)))), (3, .ref (z.2.1 (kb_ix (x2)))), (0, .ref (a 0)), (1, .int x1)] := hl
                refine lv_goto (tgt := 2) S.1 S.2.1 dB_giveWay_115 (by decide) ?_
                exact ih x1 (x2 + 1) z18 _ _ _ (lv_sub hl [3, 4, 0] rfl) w h
              · have h := (kb_brt hc).symm.trans h
                refine lv_aload_n S.1 S.2.1 dB_giveWay_101 rfl (lv_at hl 2 rfl) ?_
                refine lv_iconst (v := 1) S.1 S.2.1 dB_giveWay_102 (by decide) ?_
                refine lv_aload_n S.1 S.2.1 dB_giveWay_103 rfl (lv_at hl 1 rfl) ?_
                obtain ⟨hm21, h⟩ := kb_ck_of h
                obtain ⟨k22, hq23⟩ := va_pl_get (X := bX cI cQ a nb Q z18) (f := kc_F z18.2.2) hm21
                refine kb_get S w k22 hq23 fB_178 rfl dB_giveWay_104 ?_
                refine W.eq (g2 := F0 m 107 ls [.int (z18.2.2 (z.2.1 (kb_ix (x2))) 1), .int 1, .ref (a 0)]) rfl ?_
                refine lv_iconst (v := 0) S.1 S.2.1 dB_giveWay_107 (by decide) ?_
                obtain ⟨r25, z24, hc26, h⟩ := kb_cl_of h
                refine kb_calli (As := [.int 1, .int (z18.2.2 (z.2.1 (kb_ix (x2))) 1), .int 0]) (rest := []) (q0 := 0) (ci := 2) S w (fun sz => cB_giveCommand l D cI cQ a nb Q L _ _ _ sz 1 (z18.2.2 (z.2.1 (kb_ix (x2))) 1) 0 hc26) Y_B_giveCommand I_B_giveCommand S_B_giveCommand lB_217 ⟨rfl, rfl, Nat.le_of_ble_eq_true rfl, Nat.le_of_ble_eq_true rfl⟩ rfl rfl rfl rfl hl.1 rfl (Nat.le_of_ble_eq_true rfl) dB_giveWay_108 ⟨Nat.le_of_ble_eq_true rfl, Nat.le_of_ble_eq_true rfl⟩ (fun H locs w => ?_)
                exact kb_iret (bW cI cQ a nb Q L) S hr hlk hA w h dB_giveWay_111
          · have h := (kb_brt hc).symm.trans h
            refine lv_aload_n S.1 S.2.1 dB_giveWay_45 rfl (lv_at hl 2 rfl) ?_
            refine kb_get S w 0 rfl fB_42 rfl dB_giveWay_46 ?_
            refine W.eq (g2 := F0 m 49 ls [.ref (a 3)]) rfl ?_
            refine lv_aload_n S.1 S.2.1 dB_giveWay_49 rfl (lv_at hl 1 rfl) ?_
            obtain ⟨hm27, h⟩ := kb_ck_of h
            obtain ⟨k28, hq29⟩ := va_pl_get (X := bX cI cQ a nb Q z2) (f := kc_F z2.2.2) hm27
            refine kb_get S w k28 hq29 fB_178 rfl dB_giveWay_50 ?_
            refine W.eq (g2 := F0 m 53 ls [.int (z2.2.2 (z.2.1 (kb_ix (x2))) 1), .ref (a 3)]) rfl ?_
            obtain ⟨r31, z30, hc32, h⟩ := kb_cl_of h
            refine kb_calli (As := [.int (z2.2.2 (z.2.1 (kb_ix (x2))) 1)]) (rest := []) (q0 := 3) (ci := 0) S w (fun sz => cC_brokenByOpen_3 l D cI cQ a nb Q L _ _ _ sz (z2.2.2 (z.2.1 (kb_ix (x2))) 1) hc32) Y_C_brokenByOpen I_C_brokenByOpen S_C_brokenByOpen lB_240 ⟨rfl, rfl, Nat.le_of_ble_eq_true rfl, Nat.le_of_ble_eq_true rfl⟩ rfl rfl rfl rfl hl.1 rfl (Nat.le_of_ble_eq_true rfl) dB_giveWay_53 ⟨Nat.le_of_ble_eq_true rfl, Nat.le_of_ble_eq_true rfl⟩ (fun H locs w => ?_)
            refine lv_if_ne (tgt := 112) S.1 S.2.1 dB_giveWay_56 (by decide) (fun hc => ?_) (fun hc => ?_)
            · have h := (kb_brf hc).symm.trans h
              refine lv_iinc (v := x2 + 1) (k := 4) S.1 S.2.1 dB_giveWay_112 hl rfl rfl (by decide) rfl (fun ls hl => ?_)
              have hl : lv_has ls 5 [(2, .int (x2 + 1)), (4, .int (z2.1 4 (kb_ix (z2.2.2 (z.2.1 (kb_ix (x2))) 1)))), (3, .ref (z.2.1 (kb_ix (x2)))), (0, .ref (a 0)), (1, .int x1)] := hl
              refine lv_goto (tgt := 2) S.1 S.2.1 dB_giveWay_115 (by decide) ?_
              exact ih x1 (x2 + 1) z30 _ _ _ (lv_sub hl [3, 4, 0] rfl) w h
            · have h := (kb_brt hc).symm.trans h
              refine lv_aload_n S.1 S.2.1 dB_giveWay_59 rfl (lv_at hl 2 rfl) ?_
              refine lv_iconst (v := 0) S.1 S.2.1 dB_giveWay_60 (by decide) ?_
              refine lv_aload_n S.1 S.2.1 dB_giveWay_61 rfl (lv_at hl 1 rfl) ?_
              obtain ⟨hm33, h⟩ := kb_ck_of h
              obtain ⟨k34, hq35⟩ := va_pl_get (X := bX cI cQ a nb Q z30) (f := kc_F z30.2.2) hm33
              refine kb_get S w k34 hq35 fB_178 rfl dB_giveWay_62 ?_
              refine W.eq (g2 := F0 m 65 ls [.int (z30.2.2 (z.2.1 (kb_ix (x2))) 1), .int 0, .ref (a 0)]) rfl ?_
              refine lv_aload_n S.1 S.2.1 dB_giveWay_65 rfl (lv_at hl 1 rfl) ?_
              obtain ⟨hm36, h⟩ := kb_ck_of h
              obtain ⟨k37, hq38⟩ := va_pl_get (X := bX cI cQ a nb Q z30) (f := kc_F z30.2.2) hm36
              refine kb_get S w k37 hq38 fB_181 rfl dB_giveWay_66 ?_
              refine W.eq (g2 := F0 m 69 ls [.int (z30.2.2 (z.2.1 (kb_ix (x2))) 2), .int (z30.2.2 (z.2.1 (kb_ix (x2))) 1), .int 0, .ref (a 0)]) rfl ?_
              obtain ⟨r40, z39, hc41, h⟩ := kb_cl_of h
              refine kb_calli (As := [.int 0, .int (z30.2.2 (z.2.1 (kb_ix (x2))) 1), .int (z30.2.2 (z.2.1 (kb_ix (x2))) 2)]) (rest := []) (q0 := 0) (ci := 2) S w (fun sz => cB_giveCommand l D cI cQ a nb Q L _ _ _ sz 0 (z30.2.2 (z.2.1 (kb_ix (x2))) 1) (z30.2.2 (z.2.1 (kb_ix (x2))) 2) hc41) Y_B_giveCommand I_B_giveCommand S_B_giveCommand lB_217 ⟨rfl, rfl, Nat.le_of_ble_eq_true rfl, Nat.le_of_ble_eq_true rfl⟩ rfl rfl rfl rfl hl.1 rfl (Nat.le_of_ble_eq_true rfl) dB_giveWay_69 ⟨Nat.le_of_ble_eq_true rfl, Nat.le_of_ble_eq_true rfl⟩ (fun H locs w => ?_)
              exact kb_iret (bW cI cQ a nb Q L) S hr hlk hA w h dB_giveWay_72
        · have h := (kb_brf hc).symm.trans h
          refine lv_goto (tgt := 112) S.1 S.2.1 dB_giveWay_22 (by decide) ?_
          refine lv_iinc (v := x2 + 1) (k := 3) S.1 S.2.1 dB_giveWay_112 hl rfl rfl (by decide) rfl (fun ls hl => ?_)
          have hl : lv_has ls 5 [(2, .int (x2 + 1)), (3, .ref (z.2.1 (kb_ix (x2)))), (0, .ref (a 0)), (1, .int x1)] := hl
          refine lv_goto (tgt := 2) S.1 S.2.1 dB_giveWay_115 (by decide) ?_
          exact ih x1 (x2 + 1) z2 _ _ _ (lv_sub hl [2, 3, 0] rfl) w h
  refine lv_iconst (v := 0) S.1 S.2.1 dB_giveWay_0 (by decide) ?_
  refine lv_istore_n S.1 S.2.1 dB_giveWay_1 rfl hl (by decide) rfl (fun ls hl => ?_)
  have hl : lv_has ls 5 [(2, .int 0), (0, .ref (a 0)), (1, .int x1)] := hl
  exact L2 3000 x1 0 z0 _ _ _ (lv_sub hl [1, 2, 0] rfl) w h
set_option maxHeartbeats 4000000 in
set_option maxRecDepth 100000 in
theorem cB_dequeue (l : Launch) (D : va_G) (cI cQ : ClassId) (a : Nat → Nat) (nb Q : Nat) (L : List Nat) (z0 z' : kc_S) (r : Int32) (sz : Nat) (x1 : Int32) (h : pB_dequeue nb Q L x1 z0 = some (r, z')) : Met l y_B_dequeue (Cond.code y_B_dequeue c_B_dequeue 4 none :: wsB) rm_B_dequeue (kb_Pc D vwCl [(cI, .int), (cQ, .object RReq)] sz [.ref (a 0), .int x1] (bW cI cQ a nb Q L z0)) (kb_Qv D vwCl sz (bW cI cQ a nb Q L z0) (bW cI cQ a nb Q L z')) 0 0 (va_A (bW cI cQ a nb Q L z0) sz) := by
  refine kb_start (by decide) rfl (Nat.le_of_ble_eq_true rfl) ?_
  intro p e s m args below meth c A ls S hr hlk hsz hA w hl
  have hl : lv_has ls 4 [(0, .ref (a 0)), (1, .int x1)] := hl
  unfold pB_dequeue at h
  have L11 : ∀ (n : Nat) (x2 : Nat) (x3 : Int32) (z : kc_S) (H : Heap) (locs : List Loc) (ls : Array Slot), lv_has ls 4 [(0, .ref (a 0)), (2, .ref (x2)), (3, .int x3)] → kb_W D vwCl [(cI, .int), (cQ, .object RReq)] A s H locs (bW cI cQ a nb Q L z) → pB_dequeue_L11 nb Q L n x2 x3 z = some (r, z') → W p l e rm_B_dequeue s m args below meth c H locs 0 0 (MQ below (kb_Qv D vwCl sz (bW cI cQ a nb Q L z0) (bW cI cQ a nb Q L z')) args s 0 0 (va_A (bW cI cQ a nb Q L z0) sz)) (F0 m 11 ls []) := by
    intro n
    induction n with
    | zero =>
      intro x2 x3 z H locs ls hl w h
      exact absurd h (by simp [pB_dequeue_L11])
    | succ n ih =>
      intro x2 x3 z H locs ls hl w h
      rw [pB_dequeue_L11] at h
      refine lv_iload_n S.1 S.2.1 dB_dequeue_11 rfl (lv_at hl 2 rfl) ?_
      refine lv_aload_n S.1 S.2.1 dB_dequeue_12 rfl (lv_at hl 0 rfl) ?_
      refine kb_get S w 0 rfl fB_134 rfl dB_dequeue_13 ?_
      refine W.eq (g2 := F0 m 16 ls [.int (z.1 0 1), .int x3]) rfl ?_
      refine lv_icmp_ge (tgt := 39) S.1 S.2.1 dB_dequeue_16 (by decide) (fun hc => ?_) (fun hc => ?_)
      · have h := (kb_brt hc).symm.trans h
        refine lv_aload_n S.1 S.2.1 dB_dequeue_39 rfl (lv_at hl 0 rfl) ?_
        refine lv_dup S.1 S.2.1 dB_dequeue_40 rfl ?_
        refine kb_get S w 0 rfl fB_134 rfl dB_dequeue_41 ?_
        refine W.eq (g2 := F0 m 44 ls [.int (z.1 0 1), .ref (a 0)]) rfl ?_
        refine lv_iconst (v := 1) S.1 S.2.1 dB_dequeue_44 (by decide) ?_
        refine lv_isub S.1 S.2.1 dB_dequeue_45 ?_
        obtain ⟨z2, hz3, h⟩ := kb_st_of h
        refine kb_puti S w 0 rfl gB_134 (Nat.le_of_ble_eq_true rfl) (ws1 := bW cI cQ a nb Q L z2) (by rw [hz3]; rfl) dB_dequeue_46 (fun H locs w => ?_)
        refine lv_aload_n S.1 S.2.1 dB_dequeue_49 rfl (lv_at hl 0 rfl) ?_
        refine kb_get S w 0 rfl fB_51 rfl dB_dequeue_50 ?_
        refine W.eq (g2 := F0 m 53 ls [.ref (a 21)]) rfl ?_
        refine lv_aload_n S.1 S.2.1 dB_dequeue_53 rfl (lv_at hl 0 rfl) ?_
        refine kb_get S w 0 rfl fB_134 rfl dB_dequeue_54 ?_
        refine W.eq (g2 := F0 m 57 ls [.int (z2.1 0 1), .ref (a 21)]) rfl ?_
        refine lv_aload_n S.1 S.2.1 dB_dequeue_57 rfl (lv_at hl 1 rfl) ?_
        obtain ⟨hi4, h⟩ := kb_ck_of h
        obtain ⟨hm7, h⟩ := kb_ck_of h
        obtain ⟨z5, hz6, h⟩ := kb_st_of h
        obtain ⟨k8, hq9⟩ := va_pl_get (X := bX cI cQ a nb Q z2) (f := kc_F z2.2.2) hm7
        refine kb_ast S w 21 1 k8 1 rfl rfl hq9 rfl hi4 (ws1 := bW cI cQ a nb Q L z5) (by rw [hz6]; exact kc_setQ_eq) dB_dequeue_58 (fun H locs w => ?_)
        exact kb_vret (bW cI cQ a nb Q L) (v := 0) (r := r) S hr hlk hA w h dB_dequeue_59
      · have h := (kb_brf hc).symm.trans h
        refine lv_aload_n S.1 S.2.1 dB_dequeue_19 rfl (lv_at hl 0 rfl) ?_
        refine kb_get S w 0 rfl fB_51 rfl dB_dequeue_20 ?_
        refine W.eq (g2 := F0 m 23 ls [.ref (a 21)]) rfl ?_
        refine lv_iload_n S.1 S.2.1 dB_dequeue_23 rfl (lv_at hl 2 rfl) ?_
        refine lv_iconst (v := 1) S.1 S.2.1 dB_dequeue_24 (by decide) ?_
        refine lv_isub S.1 S.2.1 dB_dequeue_25 ?_
        refine lv_aload_n S.1 S.2.1 dB_dequeue_26 rfl (lv_at hl 0 rfl) ?_
        refine kb_get S w 0 rfl fB_51 rfl dB_dequeue_27 ?_
        refine W.eq (g2 := F0 m 30 ls [.ref (a 21), .int (x3 - 1), .ref (a 21)]) rfl ?_
        refine lv_iload_n S.1 S.2.1 dB_dequeue_30 rfl (lv_at hl 2 rfl) ?_
        obtain ⟨hi10, h⟩ := kb_ck_of h
        refine kb_ald S w 21 1 rfl rfl hi10 dB_dequeue_31 ?_
        refine W.eq (g2 := F0 m 32 ls [.ref (z.2.1 (kb_ix (x3))), .int (x3 - 1), .ref (a 21)]) rfl ?_
        obtain ⟨hi11, h⟩ := kb_ck_of h
        obtain ⟨hm14, h⟩ := kb_ck_of h
        obtain ⟨z12, hz13, h⟩ := kb_st_of h
        obtain ⟨k15, hq16⟩ := va_pl_get (X := bX cI cQ a nb Q z) (f := kc_F z.2.2) hm14
        refine kb_ast S w 21 1 k15 1 rfl rfl hq16 rfl hi11 (ws1 := bW cI cQ a nb Q L z12) (by rw [hz13]; exact kc_setQ_eq) dB_dequeue_32 (fun H locs w => ?_)
        refine lv_iinc (v := x3 + 1) (k := 2) S.1 S.2.1 dB_dequeue_33 hl rfl rfl (by decide) rfl (fun ls hl => ?_)
        have hl : lv_has ls 4 [(3, .int (x3 + 1)), (0, .ref (a 0)), (2, .ref (x2))] := hl
        refine lv_goto (tgt := 11) S.1 S.2.1 dB_dequeue_36 (by decide) ?_
        exact ih x2 (x3 + 1) z12 _ _ _ (lv_sub hl [1, 2, 0] rfl) w h
  refine lv_aload_n S.1 S.2.1 dB_dequeue_0 rfl (lv_at hl 0 rfl) ?_
  refine kb_get S w 0 rfl fB_51 rfl dB_dequeue_1 ?_
  refine W.eq (g2 := F0 m 4 ls [.ref (a 21)]) rfl ?_
  refine lv_iload_n S.1 S.2.1 dB_dequeue_4 rfl (lv_at hl 1 rfl) ?_
  obtain ⟨hi1, h⟩ := kb_ck_of h
  refine kb_ald S w 21 1 rfl rfl hi1 dB_dequeue_5 ?_
  refine W.eq (g2 := F0 m 6 ls [.ref (z0.2.1 (kb_ix (x1)))]) rfl ?_
  refine lv_astore_n S.1 S.2.1 dB_dequeue_6 rfl hl (by decide) rfl (fun ls hl => ?_)
  have hl : lv_has ls 4 [(2, .ref (z0.2.1 (kb_ix (x1)))), (0, .ref (a 0)), (1, .int x1)] := hl
  refine lv_iload_n S.1 S.2.1 dB_dequeue_7 rfl (lv_at hl 2 rfl) ?_
  refine lv_iconst (v := 1) S.1 S.2.1 dB_dequeue_8 (by decide) ?_
  refine lv_iadd S.1 S.2.1 dB_dequeue_9 ?_
  refine lv_istore_n S.1 S.2.1 dB_dequeue_10 rfl hl (by decide) rfl (fun ls hl => ?_)
  have hl : lv_has ls 4 [(3, .int (x1 + 1)), (2, .ref (z0.2.1 (kb_ix (x1)))), (0, .ref (a 0)), (1, .int x1)] := hl
  exact L11 3000 (z0.2.1 (kb_ix (x1))) (x1 + 1) z0 _ _ _ (lv_sub hl [2, 1, 0] rfl) w h
set_option maxHeartbeats 4000000 in
set_option maxRecDepth 100000 in
theorem cB_isKept (l : Launch) (D : va_G) (cI cQ : ClassId) (a : Nat → Nat) (nb Q : Nat) (L : List Nat) (z0 z' : kc_S) (r : Int32) (sz : Nat) (x1 : Int32) (h : pB_isKept nb Q L x1 z0 = some (r, z')) : Met l y_B_isKept (Cond.code y_B_isKept c_B_isKept 2 (some .boolean) :: wsB) rm_B_isKept (kb_Pc D vwCl [(cI, .int), (cQ, .object RReq)] sz [.ref (a 0), .int x1] (bW cI cQ a nb Q L z0)) (kb_Qi D vwCl sz (bW cI cQ a nb Q L z0) r (bW cI cQ a nb Q L z')) 0 0 (va_A (bW cI cQ a nb Q L z0) sz) := by
  refine kb_start (by decide) rfl (Nat.le_of_ble_eq_true rfl) ?_
  intro p e s m args below meth c A ls S hr hlk hsz hA w hl
  have hl : lv_has ls 2 [(0, .ref (a 0)), (1, .int x1)] := hl
  unfold pB_isKept at h
  refine lv_aload_n S.1 S.2.1 dB_isKept_0 rfl (lv_at hl 0 rfl) ?_
  refine kb_get S w 0 rfl fB_108 rfl dB_isKept_1 ?_
  refine W.eq (g2 := F0 m 4 ls [.int (z0.1 0 2)]) rfl ?_
  refine lv_iload_n S.1 S.2.1 dB_isKept_4 rfl (lv_at hl 1 rfl) ?_
  refine lv_isub S.1 S.2.1 dB_isKept_5 ?_
  refine lv_bipush (v := 32) S.1 S.2.1 dB_isKept_6 (by decide) ?_
  refine lv_icmp_gt (tgt := 15) S.1 S.2.1 dB_isKept_8 (by decide) (fun hc => ?_) (fun hc => ?_)
  · have h := (kb_brt hc).symm.trans h
    refine lv_iconst (v := 0) S.1 S.2.1 dB_isKept_15 (by decide) ?_
    exact kb_zret (bW cI cQ a nb Q L) S hr hlk hA w h (by decide) dB_isKept_16
  · have h := (kb_brf hc).symm.trans h
    refine lv_iconst (v := 1) S.1 S.2.1 dB_isKept_11 (by decide) ?_
    refine lv_goto (tgt := 16) S.1 S.2.1 dB_isKept_12 (by decide) ?_
    exact kb_zret (bW cI cQ a nb Q L) S hr hlk hA w h (by decide) dB_isKept_16
set_option maxHeartbeats 4000000 in
set_option maxRecDepth 100000 in
theorem cB_giveHit (l : Launch) (D : va_G) (cI cQ : ClassId) (a : Nat → Nat) (nb Q : Nat) (L : List Nat) (z0 z' : kc_S) (r : Int32) (sz : Nat) (x1 : Int32) (h : pB_giveHit nb Q L x1 z0 = some (r, z')) : Met l y_B_giveHit (Cond.code y_B_giveHit c_B_giveHit 4 (some .int) :: wsB) rm_B_giveHit (kb_Pc D vwCl [(cI, .int), (cQ, .object RReq)] sz [.ref (a 0), .int x1] (bW cI cQ a nb Q L z0)) (kb_Qi D vwCl sz (bW cI cQ a nb Q L z0) r (bW cI cQ a nb Q L z')) 0 0 (va_A (bW cI cQ a nb Q L z0) sz) := by
  refine kb_start (by decide) rfl (Nat.le_of_ble_eq_true rfl) ?_
  intro p e s m args below meth c A ls S hr hlk hsz hA w hl
  have hl : lv_has ls 4 [(0, .ref (a 0)), (1, .int x1)] := hl
  unfold pB_giveHit at h
  have J117 : ∀ (x2 : Nat) (z : kc_S) (H : Heap) (locs : List Loc) (ls : Array Slot), lv_has ls 4 [(0, .ref (a 0)), (2, .ref (x2))] → kb_W D vwCl [(cI, .int), (cQ, .object RReq)] A s H locs (bW cI cQ a nb Q L z) → pB_giveHit_J117 nb Q L x2 z = some (r, z') → W p l e rm_B_giveHit s m args below meth c H locs 0 0 (MQ below (kb_Qi D vwCl sz (bW cI cQ a nb Q L z0) r (bW cI cQ a nb Q L z')) args s 0 0 (va_A (bW cI cQ a nb Q L z0) sz)) (F0 m 117 ls []) := by
    intro x2 z H locs ls hl w h
    unfold pB_giveHit_J117 at h
    refine lv_aload_n S.1 S.2.1 dB_giveHit_117 rfl (lv_at hl 0 rfl) ?_
    refine lv_aload_n S.1 S.2.1 dB_giveHit_118 rfl (lv_at hl 1 rfl) ?_
    obtain ⟨hm18, h⟩ := kb_ck_of h
    obtain ⟨k19, hq20⟩ := va_pl_get (X := bX cI cQ a nb Q z) (f := kc_F z.2.2) hm18
    refine kb_get S w k19 hq20 fB_175 rfl dB_giveHit_119 ?_
    refine W.eq (g2 := F0 m 122 ls [.int (z.2.2 x2 0), .ref (a 0)]) rfl ?_
    refine lv_aload_n S.1 S.2.1 dB_giveHit_122 rfl (lv_at hl 1 rfl) ?_
    obtain ⟨hm21, h⟩ := kb_ck_of h
    obtain ⟨k22, hq23⟩ := va_pl_get (X := bX cI cQ a nb Q z) (f := kc_F z.2.2) hm21
    refine kb_get S w k22 hq23 fB_178 rfl dB_giveHit_123 ?_
    refine W.eq (g2 := F0 m 126 ls [.int (z.2.2 x2 1), .int (z.2.2 x2 0), .ref (a 0)]) rfl ?_
    refine lv_aload_n S.1 S.2.1 dB_giveHit_126 rfl (lv_at hl 1 rfl) ?_
    obtain ⟨hm24, h⟩ := kb_ck_of h
    obtain ⟨k25, hq26⟩ := va_pl_get (X := bX cI cQ a nb Q z) (f := kc_F z.2.2) hm24
    refine kb_get S w k25 hq26 fB_181 rfl dB_giveHit_127 ?_
    refine W.eq (g2 := F0 m 130 ls [.int (z.2.2 x2 2), .int (z.2.2 x2 1), .int (z.2.2 x2 0), .ref (a 0)]) rfl ?_
    obtain ⟨r28, z27, hc29, h⟩ := kb_cl_of h
    refine kb_calli (As := [.int (z.2.2 x2 0), .int (z.2.2 x2 1), .int (z.2.2 x2 2)]) (rest := []) (q0 := 0) (ci := 2) S w (fun sz => cB_giveCommand l D cI cQ a nb Q L _ _ _ sz (z.2.2 x2 0) (z.2.2 x2 1) (z.2.2 x2 2) hc29) Y_B_giveCommand I_B_giveCommand S_B_giveCommand lB_217 ⟨rfl, rfl, Nat.le_of_ble_eq_true rfl, Nat.le_of_ble_eq_true rfl⟩ rfl rfl rfl rfl hl.1 rfl (Nat.le_of_ble_eq_true rfl) dB_giveHit_130 ⟨Nat.le_of_ble_eq_true rfl, Nat.le_of_ble_eq_true rfl⟩ (fun H locs w => ?_)
    exact kb_iret (bW cI cQ a nb Q L) S hr hlk hA w h dB_giveHit_133
  have J72 : ∀ (x2 : Nat) (x3 : Int32) (z : kc_S) (H : Heap) (locs : List Loc) (ls : Array Slot), lv_has ls 4 [(0, .ref (a 0)), (2, .ref (x2)), (3, .int x3)] → kb_W D vwCl [(cI, .int), (cQ, .object RReq)] A s H locs (bW cI cQ a nb Q L z) → pB_giveHit_J72 nb Q L x2 x3 z = some (r, z') → W p l e rm_B_giveHit s m args below meth c H locs 0 0 (MQ below (kb_Qi D vwCl sz (bW cI cQ a nb Q L z0) r (bW cI cQ a nb Q L z')) args s 0 0 (va_A (bW cI cQ a nb Q L z0) sz)) (F0 m 72 ls []) := by
    intro x2 x3 z H locs ls hl w h
    unfold pB_giveHit_J72 at h
    refine lv_aload_n S.1 S.2.1 dB_giveHit_72 rfl (lv_at hl 0 rfl) ?_
    refine lv_aload_n S.1 S.2.1 dB_giveHit_73 rfl (lv_at hl 1 rfl) ?_
    obtain ⟨hm12, h⟩ := kb_ck_of h
    obtain ⟨k13, hq14⟩ := va_pl_get (X := bX cI cQ a nb Q z) (f := kc_F z.2.2) hm12
    refine kb_get S w k13 hq14 fB_139 rfl dB_giveHit_74 ?_
    refine W.eq (g2 := F0 m 77 ls [.int (z.2.2 x2 5), .ref (a 0)]) rfl ?_
    obtain ⟨r16, z15, hc17, h⟩ := kb_cl_of h
    refine kb_calli (As := [.int (z.2.2 x2 5)]) (rest := []) (q0 := 0) (ci := 2) S w (fun sz => cB_isKept l D cI cQ a nb Q L _ _ _ sz (z.2.2 x2 5) hc17) Y_B_isKept I_B_isKept S_B_isKept lB_111 ⟨rfl, rfl, Nat.le_of_ble_eq_true rfl, Nat.le_of_ble_eq_true rfl⟩ rfl rfl rfl rfl hl.1 rfl (Nat.le_of_ble_eq_true rfl) dB_giveHit_77 ⟨Nat.le_of_ble_eq_true rfl, Nat.le_of_ble_eq_true rfl⟩ (fun H locs w => ?_)
    refine lv_if_eq (tgt := 117) S.1 S.2.1 dB_giveHit_80 (by decide) (fun hc => ?_) (fun hc => ?_)
    · have h := (kb_brt hc).symm.trans h
      exact J117 x2 z15 _ _ _ (lv_sub hl [0, 1] rfl) w h
    · have h := (kb_brf hc).symm.trans h
      refine lv_aload_n S.1 S.2.1 dB_giveHit_83 rfl (lv_at hl 0 rfl) ?_
      refine kb_get S w 0 rfl fB_56 rfl dB_giveHit_84 ?_
      refine W.eq (g2 := F0 m 87 ls [.ref (a 19)]) rfl ?_
      refine lv_aload_n S.1 S.2.1 dB_giveHit_87 rfl (lv_at hl 1 rfl) ?_
      obtain ⟨hm30, h⟩ := kb_ck_of h
      obtain ⟨k31, hq32⟩ := va_pl_get (X := bX cI cQ a nb Q z15) (f := kc_F z15.2.2) hm30
      refine kb_get S w k31 hq32 fB_139 rfl dB_giveHit_88 ?_
      refine W.eq (g2 := F0 m 91 ls [.int (z15.2.2 x2 5), .ref (a 19)]) rfl ?_
      refine lv_bipush (v := 31) S.1 S.2.1 dB_giveHit_91 (by decide) ?_
      refine lv_iand S.1 S.2.1 dB_giveHit_93 ?_
      refine lv_aload_n S.1 S.2.1 dB_giveHit_94 rfl (lv_at hl 0 rfl) ?_
      refine kb_get S w 0 rfl fB_34 rfl dB_giveHit_95 ?_
      refine W.eq (g2 := F0 m 98 ls [.ref (a 2), .int ((z15.2.2 x2 5) &&& 31), .ref (a 19)]) rfl ?_
      refine lv_aload_n S.1 S.2.1 dB_giveHit_98 rfl (lv_at hl 1 rfl) ?_
      obtain ⟨hm33, h⟩ := kb_ck_of h
      obtain ⟨k34, hq35⟩ := va_pl_get (X := bX cI cQ a nb Q z15) (f := kc_F z15.2.2) hm33
      refine kb_get S w k34 hq35 fB_184 rfl dB_giveHit_99 ?_
      refine W.eq (g2 := F0 m 102 ls [.int (z15.2.2 x2 3), .ref (a 2), .int ((z15.2.2 x2 5) &&& 31), .ref (a 19)]) rfl ?_
      obtain ⟨hi36, h⟩ := kb_ck_of h
      refine kb_iald S w 2 0 rfl rfl hi36 dB_giveHit_102 ?_
      refine W.eq (g2 := F0 m 103 ls [.int (z15.1 2 (kb_ix (z15.2.2 x2 3))), .int ((z15.2.2 x2 5) &&& 31), .ref (a 19)]) rfl ?_
      obtain ⟨hi37, h⟩ := kb_ck_of h
      obtain ⟨z38, hz39, h⟩ := kb_st_of h
      refine kb_iast S w 19 0 rfl rfl hi37 (ws1 := bW cI cQ a nb Q L z38) (by rw [hz39]; rfl) dB_giveHit_103 (fun H locs w => ?_)
      refine lv_aload_n S.1 S.2.1 dB_giveHit_104 rfl (lv_at hl 0 rfl) ?_
      refine kb_get S w 0 rfl fB_59 rfl dB_giveHit_105 ?_
      refine W.eq (g2 := F0 m 108 ls [.ref (a 20)]) rfl ?_
      refine lv_aload_n S.1 S.2.1 dB_giveHit_108 rfl (lv_at hl 1 rfl) ?_
      obtain ⟨hm40, h⟩ := kb_ck_of h
      obtain ⟨k41, hq42⟩ := va_pl_get (X := bX cI cQ a nb Q z38) (f := kc_F z38.2.2) hm40
      refine kb_get S w k41 hq42 fB_139 rfl dB_giveHit_109 ?_
      refine W.eq (g2 := F0 m 112 ls [.int (z38.2.2 x2 5), .ref (a 20)]) rfl ?_
      refine lv_bipush (v := 31) S.1 S.2.1 dB_giveHit_112 (by decide) ?_
      refine lv_iand S.1 S.2.1 dB_giveHit_114 ?_
      refine lv_iload_n S.1 S.2.1 dB_giveHit_115 rfl (lv_at hl 2 rfl) ?_
      obtain ⟨hi43, h⟩ := kb_ck_of h
      obtain ⟨z44, hz45, h⟩ := kb_st_of h
      refine kb_iast S w 20 0 rfl rfl hi43 (ws1 := bW cI cQ a nb Q L z44) (by rw [hz45]; rfl) dB_giveHit_116 (fun H locs w => ?_)
      exact J117 x2 z44 _ _ _ (lv_sub hl [0, 1] rfl) w h
  have J30 : ∀ (x2 : Nat) (z : kc_S) (H : Heap) (locs : List Loc) (ls : Array Slot), lv_has ls 4 [(0, .ref (a 0)), (2, .ref (x2))] → kb_W D vwCl [(cI, .int), (cQ, .object RReq)] A s H locs (bW cI cQ a nb Q L z) → pB_giveHit_J30 nb Q L x2 z = some (r, z') → W p l e rm_B_giveHit s m args below meth c H locs 0 0 (MQ below (kb_Qi D vwCl sz (bW cI cQ a nb Q L z0) r (bW cI cQ a nb Q L z')) args s 0 0 (va_A (bW cI cQ a nb Q L z0) sz)) (F0 m 30 ls []) := by
    intro x2 z H locs ls hl w h
    unfold pB_giveHit_J30 at h
    refine lv_aload_n S.1 S.2.1 dB_giveHit_30 rfl (lv_at hl 0 rfl) ?_
    refine kb_get S w 0 rfl fB_42 rfl dB_giveHit_31 ?_
    refine W.eq (g2 := F0 m 34 ls [.ref (a 3)]) rfl ?_
    refine kb_get S w 3 rfl fB_80 rfl dB_giveHit_34 ?_
    refine W.eq (g2 := F0 m 37 ls [.int (z.1 3 3)]) rfl ?_
    refine lv_istore_n S.1 S.2.1 dB_giveHit_37 rfl hl (by decide) rfl (fun ls hl => ?_)
    have hl : lv_has ls 4 [(3, .int (z.1 3 3)), (0, .ref (a 0)), (2, .ref (x2))] := hl
    refine lv_aload_n S.1 S.2.1 dB_giveHit_38 rfl (lv_at hl 2 rfl) ?_
    obtain ⟨hm8, h⟩ := kb_ck_of h
    obtain ⟨k9, hq10⟩ := va_pl_get (X := bX cI cQ a nb Q z) (f := kc_F z.2.2) hm8
    refine kb_get S w k9 hq10 fB_175 rfl dB_giveHit_39 ?_
    refine W.eq (g2 := F0 m 42 ls [.int (z.2.2 x2 0)]) rfl ?_
    refine lv_iconst (v := 3) S.1 S.2.1 dB_giveHit_42 (by decide) ?_
    refine lv_icmp_ne (tgt := 62) S.1 S.2.1 dB_giveHit_43 (by decide) (fun hc => ?_) (fun hc => ?_)
    · have h := (kb_brf hc).symm.trans h
      refine lv_iload_n S.1 S.2.1 dB_giveHit_62 rfl (lv_at hl 0 rfl) ?_
      refine lv_aload_n S.1 S.2.1 dB_giveHit_63 rfl (lv_at hl 1 rfl) ?_
      refine kb_get S w 0 rfl fB_31 rfl dB_giveHit_64 ?_
      refine W.eq (g2 := F0 m 67 ls [.ref (a 1), .int (z.1 3 3)]) rfl ?_
      refine lv_bipush (v := 11) S.1 S.2.1 dB_giveHit_67 (by decide) ?_
      obtain ⟨hi11, h⟩ := kb_ck_of h
      refine kb_iald S w 1 0 rfl rfl hi11 dB_giveHit_69 ?_
      refine W.eq (g2 := F0 m 70 ls [.int (z.1 1 (kb_ix (11))), .int (z.1 3 3)]) rfl ?_
      refine lv_iadd S.1 S.2.1 dB_giveHit_70 ?_
      refine lv_istore_n S.1 S.2.1 dB_giveHit_71 rfl hl (by decide) rfl (fun ls hl => ?_)
      have hl : lv_has ls 4 [(3, .int ((z.1 3 3) + (z.1 1 (kb_ix (11))))), (0, .ref (a 0)), (2, .ref (x2))] := hl
      exact J72 x2 ((z.1 3 3) + (z.1 1 (kb_ix (11)))) z _ _ _ (lv_sub hl [1, 2, 0] rfl) w h
    · have h := (kb_brt hc).symm.trans h
      refine lv_aload_n S.1 S.2.1 dB_giveHit_46 rfl (lv_at hl 1 rfl) ?_
      refine kb_get S w 0 rfl fB_34 rfl dB_giveHit_47 ?_
      refine W.eq (g2 := F0 m 50 ls [.ref (a 2)]) rfl ?_
      refine lv_aload_n S.1 S.2.1 dB_giveHit_50 rfl (lv_at hl 2 rfl) ?_
      obtain ⟨hm46, h⟩ := kb_ck_of h
      obtain ⟨k47, hq48⟩ := va_pl_get (X := bX cI cQ a nb Q z) (f := kc_F z.2.2) hm46
      refine kb_get S w k47 hq48 fB_184 rfl dB_giveHit_51 ?_
      refine W.eq (g2 := F0 m 54 ls [.int (z.2.2 x2 3), .ref (a 2)]) rfl ?_
      refine lv_aload_n S.1 S.2.1 dB_giveHit_54 rfl (lv_at hl 2 rfl) ?_
      obtain ⟨hm49, h⟩ := kb_ck_of h
      obtain ⟨k50, hq51⟩ := va_pl_get (X := bX cI cQ a nb Q z) (f := kc_F z.2.2) hm49
      refine kb_get S w k50 hq51 fB_187 rfl dB_giveHit_55 ?_
      refine W.eq (g2 := F0 m 58 ls [.int (z.2.2 x2 4), .int (z.2.2 x2 3), .ref (a 2)]) rfl ?_
      obtain ⟨hi52, h⟩ := kb_ck_of h
      obtain ⟨z53, hz54, h⟩ := kb_st_of h
      refine kb_iast S w 2 0 rfl rfl hi52 (ws1 := bW cI cQ a nb Q L z53) (by rw [hz54]; rfl) dB_giveHit_58 (fun H locs w => ?_)
      refine lv_goto (tgt := 72) S.1 S.2.1 dB_giveHit_59 (by decide) ?_
      exact J72 x2 (z.1 3 3) z53 _ _ _ (lv_sub hl [1, 2, 0] rfl) w h
  refine lv_aload_n S.1 S.2.1 dB_giveHit_0 rfl (lv_at hl 0 rfl) ?_
  refine kb_get S w 0 rfl fB_51 rfl dB_giveHit_1 ?_
  refine W.eq (g2 := F0 m 4 ls [.ref (a 21)]) rfl ?_
  refine lv_iload_n S.1 S.2.1 dB_giveHit_4 rfl (lv_at hl 1 rfl) ?_
  obtain ⟨hi1, h⟩ := kb_ck_of h
  refine kb_ald S w 21 1 rfl rfl hi1 dB_giveHit_5 ?_
  refine W.eq (g2 := F0 m 6 ls [.ref (z0.2.1 (kb_ix (x1)))]) rfl ?_
  refine lv_astore_n S.1 S.2.1 dB_giveHit_6 rfl hl (by decide) rfl (fun ls hl => ?_)
  have hl : lv_has ls 4 [(2, .ref (z0.2.1 (kb_ix (x1)))), (0, .ref (a 0)), (1, .int x1)] := hl
  refine lv_aload_n S.1 S.2.1 dB_giveHit_7 rfl (lv_at hl 1 rfl) ?_
  refine lv_iload_n S.1 S.2.1 dB_giveHit_8 rfl (lv_at hl 2 rfl) ?_
  obtain ⟨r3, z2, hc4, h⟩ := kb_cl_of h
  refine kb_callv (As := [.int x1]) (rest := []) (q0 := 0) (ci := 2) S w (fun sz => cB_dequeue l D cI cQ a nb Q L _ _ _ sz x1 hc4) Y_B_dequeue I_B_dequeue S_B_dequeue lB_233 ⟨rfl, rfl, Nat.le_of_ble_eq_true rfl, Nat.le_of_ble_eq_true rfl⟩ rfl rfl rfl rfl hl.1 rfl (Nat.le_of_ble_eq_true rfl) dB_giveHit_9 ⟨Nat.le_of_ble_eq_true rfl, Nat.le_of_ble_eq_true rfl⟩ (fun H locs w => ?_)
  refine lv_aload_n S.1 S.2.1 dB_giveHit_12 rfl (lv_at hl 1 rfl) ?_
  refine lv_aload_n S.1 S.2.1 dB_giveHit_13 rfl (lv_at hl 0 rfl) ?_
  obtain ⟨r6, z5, hc7, h⟩ := kb_cl_of h
  refine kb_calli (As := [.ref (z0.2.1 (kb_ix (x1)))]) (rest := []) (q0 := 0) (ci := 2) S w (fun sz => cB_hasWaitedLong l D cI cQ a nb Q L _ _ _ sz (z0.2.1 (kb_ix (x1))) hc7) Y_B_hasWaitedLong I_B_hasWaitedLong S_B_hasWaitedLong lB_223 ⟨rfl, rfl, Nat.le_of_ble_eq_true rfl, Nat.le_of_ble_eq_true rfl⟩ rfl rfl rfl rfl hl.1 rfl (Nat.le_of_ble_eq_true rfl) dB_giveHit_14 ⟨Nat.le_of_ble_eq_true rfl, Nat.le_of_ble_eq_true rfl⟩ (fun H locs w => ?_)
  refine lv_if_eq (tgt := 30) S.1 S.2.1 dB_giveHit_17 (by decide) (fun hc => ?_) (fun hc => ?_)
  · have h := (kb_brt hc).symm.trans h
    exact J30 (z0.2.1 (kb_ix (x1))) z5 _ _ _ (lv_sub hl [1, 0] rfl) w h
  · have h := (kb_brf hc).symm.trans h
    refine lv_aload_n S.1 S.2.1 dB_giveHit_20 rfl (lv_at hl 1 rfl) ?_
    refine lv_dup S.1 S.2.1 dB_giveHit_21 rfl ?_
    refine kb_get S w 0 rfl fB_145 rfl dB_giveHit_22 ?_
    refine W.eq (g2 := F0 m 25 ls [.int (z5.1 0 3), .ref (a 0)]) rfl ?_
    refine lv_iconst (v := 1) S.1 S.2.1 dB_giveHit_25 (by decide) ?_
    refine lv_iadd S.1 S.2.1 dB_giveHit_26 ?_
    obtain ⟨z55, hz56, h⟩ := kb_st_of h
    refine kb_puti S w 0 rfl gB_145 (Nat.le_of_ble_eq_true rfl) (ws1 := bW cI cQ a nb Q L z55) (by rw [hz56]; rfl) dB_giveHit_27 (fun H locs w => ?_)
    exact J30 (z0.2.1 (kb_ix (x1))) z55 _ _ _ (lv_sub hl [1, 0] rfl) w h
set_option maxHeartbeats 4000000 in
set_option maxRecDepth 100000 in
theorem cB_giveFirst (l : Launch) (D : va_G) (cI cQ : ClassId) (a : Nat → Nat) (nb Q : Nat) (L : List Nat) (z0 z' : kc_S) (r : Int32) (sz : Nat) (h : pB_giveFirst nb Q L  z0 = some (r, z')) : Met l y_B_giveFirst (Cond.code y_B_giveFirst c_B_giveFirst 3 (some .int) :: wsB) rm_B_giveFirst (kb_Pc D vwCl [(cI, .int), (cQ, .object RReq)] sz [.ref (a 0)] (bW cI cQ a nb Q L z0)) (kb_Qi D vwCl sz (bW cI cQ a nb Q L z0) r (bW cI cQ a nb Q L z')) 0 0 (va_A (bW cI cQ a nb Q L z0) sz) := by
  refine kb_start (by decide) rfl (Nat.le_of_ble_eq_true rfl) ?_
  intro p e s m args below meth c A ls S hr hlk hsz hA w hl
  have hl : lv_has ls 3 [(0, .ref (a 0))] := hl
  unfold pB_giveFirst at h
  refine lv_aload_n S.1 S.2.1 dB_giveFirst_0 rfl (lv_at hl 0 rfl) ?_
  obtain ⟨r2, z1, hc3, h⟩ := kb_cl_of h
  refine kb_calli (As := []) (rest := []) (q0 := 0) (ci := 2) S w (fun sz => cB_refreshIsDue l D cI cQ a nb Q L _ _ _ sz  hc3) Y_B_refreshIsDue I_B_refreshIsDue S_B_refreshIsDue lB_194 ⟨rfl, rfl, Nat.le_of_ble_eq_true rfl, Nat.le_of_ble_eq_true rfl⟩ rfl rfl rfl rfl hl.1 rfl (Nat.le_of_ble_eq_true rfl) dB_giveFirst_1 ⟨Nat.le_of_ble_eq_true rfl, Nat.le_of_ble_eq_true rfl⟩ (fun H locs w => ?_)
  refine lv_if_eq (tgt := 12) S.1 S.2.1 dB_giveFirst_4 (by decide) (fun hc => ?_) (fun hc => ?_)
  · have h := (kb_brt hc).symm.trans h
    refine lv_aload_n S.1 S.2.1 dB_giveFirst_12 rfl (lv_at hl 0 rfl) ?_
    obtain ⟨r5, z4, hc6, h⟩ := kb_cl_of h
    refine kb_calli (As := []) (rest := []) (q0 := 0) (ci := 2) S w (fun sz => cB_countLookedAt l D cI cQ a nb Q L _ _ _ sz  hc6) Y_B_countLookedAt I_B_countLookedAt S_B_countLookedAt lB_201 ⟨rfl, rfl, Nat.le_of_ble_eq_true rfl, Nat.le_of_ble_eq_true rfl⟩ rfl rfl rfl rfl hl.1 rfl (Nat.le_of_ble_eq_true rfl) dB_giveFirst_13 ⟨Nat.le_of_ble_eq_true rfl, Nat.le_of_ble_eq_true rfl⟩ (fun H locs w => ?_)
    refine lv_istore_n S.1 S.2.1 dB_giveFirst_16 rfl hl (by decide) rfl (fun ls hl => ?_)
    have hl : lv_has ls 3 [(1, .int r5), (0, .ref (a 0))] := hl
    refine lv_aload_n S.1 S.2.1 dB_giveFirst_17 rfl (lv_at hl 1 rfl) ?_
    refine lv_iload_n S.1 S.2.1 dB_giveFirst_18 rfl (lv_at hl 0 rfl) ?_
    obtain ⟨r8, z7, hc9, h⟩ := kb_cl_of h
    refine kb_calli (As := [.int r5]) (rest := []) (q0 := 0) (ci := 2) S w (fun sz => cB_findHit l D cI cQ a nb Q L _ _ _ sz r5 hc9) Y_B_findHit I_B_findHit S_B_findHit lB_204 ⟨rfl, rfl, Nat.le_of_ble_eq_true rfl, Nat.le_of_ble_eq_true rfl⟩ rfl rfl rfl rfl hl.1 rfl (Nat.le_of_ble_eq_true rfl) dB_giveFirst_19 ⟨Nat.le_of_ble_eq_true rfl, Nat.le_of_ble_eq_true rfl⟩ (fun H locs w => ?_)
    refine lv_istore_n S.1 S.2.1 dB_giveFirst_22 rfl hl (by decide) rfl (fun ls hl => ?_)
    have hl : lv_has ls 3 [(2, .int r8), (1, .int r5), (0, .ref (a 0))] := hl
    refine lv_iload_n S.1 S.2.1 dB_giveFirst_23 rfl (lv_at hl 0 rfl) ?_
    refine lv_iconst (v := (-1)) S.1 S.2.1 dB_giveFirst_24 (by decide) ?_
    refine lv_icmp_ne (tgt := 36) S.1 S.2.1 dB_giveFirst_25 (by decide) (fun hc => ?_) (fun hc => ?_)
    · have h := (kb_brf hc).symm.trans h
      refine lv_aload_n S.1 S.2.1 dB_giveFirst_36 rfl (lv_at hl 2 rfl) ?_
      refine lv_iload_n S.1 S.2.1 dB_giveFirst_37 rfl (lv_at hl 0 rfl) ?_
      obtain ⟨r11, z10, hc12, h⟩ := kb_cl_of h
      refine kb_calli (As := [.int r8]) (rest := []) (q0 := 0) (ci := 2) S w (fun sz => cB_giveHit l D cI cQ a nb Q L _ _ _ sz r8 hc12) Y_B_giveHit I_B_giveHit S_B_giveHit lB_211 ⟨rfl, rfl, Nat.le_of_ble_eq_true rfl, Nat.le_of_ble_eq_true rfl⟩ rfl rfl rfl rfl hl.1 rfl (Nat.le_of_ble_eq_true rfl) dB_giveFirst_38 ⟨Nat.le_of_ble_eq_true rfl, Nat.le_of_ble_eq_true rfl⟩ (fun H locs w => ?_)
      exact kb_iret (bW cI cQ a nb Q L) S hr hlk hA w h dB_giveFirst_41
    · have h := (kb_brt hc).symm.trans h
      refine lv_aload_n S.1 S.2.1 dB_giveFirst_28 rfl (lv_at hl 2 rfl) ?_
      refine lv_iload_n S.1 S.2.1 dB_giveFirst_29 rfl (lv_at hl 1 rfl) ?_
      obtain ⟨r14, z13, hc15, h⟩ := kb_cl_of h
      refine kb_calli (As := [.int r5]) (rest := []) (q0 := 0) (ci := 2) S w (fun sz => cB_giveWay l D cI cQ a nb Q L _ _ _ sz r5 hc15) Y_B_giveWay I_B_giveWay S_B_giveWay lB_208 ⟨rfl, rfl, Nat.le_of_ble_eq_true rfl, Nat.le_of_ble_eq_true rfl⟩ rfl rfl rfl rfl hl.1 rfl (Nat.le_of_ble_eq_true rfl) dB_giveFirst_30 ⟨Nat.le_of_ble_eq_true rfl, Nat.le_of_ble_eq_true rfl⟩ (fun H locs w => ?_)
      refine lv_goto (tgt := 41) S.1 S.2.1 dB_giveFirst_33 (by decide) ?_
      exact kb_iret (bW cI cQ a nb Q L) S hr hlk hA w h dB_giveFirst_41
  · have h := (kb_brf hc).symm.trans h
    refine lv_aload_n S.1 S.2.1 dB_giveFirst_7 rfl (lv_at hl 0 rfl) ?_
    obtain ⟨r17, z16, hc18, h⟩ := kb_cl_of h
    refine kb_calli (As := []) (rest := []) (q0 := 0) (ci := 2) S w (fun sz => cB_giveRefreshing l D cI cQ a nb Q L _ _ _ sz  hc18) Y_B_giveRefreshing I_B_giveRefreshing S_B_giveRefreshing lB_198 ⟨rfl, rfl, Nat.le_of_ble_eq_true rfl, Nat.le_of_ble_eq_true rfl⟩ rfl rfl rfl rfl hl.1 rfl (Nat.le_of_ble_eq_true rfl) dB_giveFirst_8 ⟨Nat.le_of_ble_eq_true rfl, Nat.le_of_ble_eq_true rfl⟩ (fun H locs w => ?_)
    exact kb_iret (bW cI cQ a nb Q L) S hr hlk hA w h dB_giveFirst_11
end
section
set_option maxHeartbeats 4000000 in
set_option maxRecDepth 100000 in
theorem cB_tick (l : Launch) (D : va_G) (cI cQ : ClassId) (a : Nat → Nat) (nb Q : Nat) (L : List Nat) (z0 z' : kc_S) (r : Int32) (sz : Nat) (h : pB_tick nb Q L  z0 = some (r, z')) : Met l y_B_tick (Cond.code y_B_tick c_B_tick 2 (some .int) :: wsB) rm_B_tick (kb_Pc D vwCl [(cI, .int), (cQ, .object RReq)] sz [.ref (a 0)] (bW cI cQ a nb Q L z0)) (kb_Qi D vwCl sz (bW cI cQ a nb Q L z0) r (bW cI cQ a nb Q L z')) 0 0 (va_A (bW cI cQ a nb Q L z0) sz) := by
  refine kb_start (by decide) rfl (Nat.le_of_ble_eq_true rfl) ?_
  intro p e s m args below meth c A ls S hr hlk hsz hA w hl
  have hl : lv_has ls 2 [(0, .ref (a 0))] := hl
  unfold pB_tick at h
  refine lv_aload_n S.1 S.2.1 dB_tick_0 rfl (lv_at hl 0 rfl) ?_
  obtain ⟨r2, z1, hc3, h⟩ := kb_cl_of h
  refine kb_calli (As := []) (rest := []) (q0 := 0) (ci := 2) S w (fun sz => cB_giveFirst l D cI cQ a nb Q L _ _ _ sz  hc3) Y_B_giveFirst I_B_giveFirst S_B_giveFirst lB_99 ⟨rfl, rfl, Nat.le_of_ble_eq_true rfl, Nat.le_of_ble_eq_true rfl⟩ rfl rfl rfl rfl hl.1 rfl (Nat.le_of_ble_eq_true rfl) dB_tick_1 ⟨Nat.le_of_ble_eq_true rfl, Nat.le_of_ble_eq_true rfl⟩ (fun H locs w => ?_)
  refine lv_istore_n S.1 S.2.1 dB_tick_4 rfl hl (by decide) rfl (fun ls hl => ?_)
  have hl : lv_has ls 2 [(1, .int r2), (0, .ref (a 0))] := hl
  refine lv_aload_n S.1 S.2.1 dB_tick_5 rfl (lv_at hl 1 rfl) ?_
  refine kb_get S w 0 rfl fB_42 rfl dB_tick_6 ?_
  refine W.eq (g2 := F0 m 9 ls [.ref (a 3)]) rfl ?_
  refine lv_dup S.1 S.2.1 dB_tick_9 rfl ?_
  refine kb_get S w 3 rfl fB_80 rfl dB_tick_10 ?_
  refine W.eq (g2 := F0 m 13 ls [.int (z1.1 3 3), .ref (a 3)]) rfl ?_
  refine lv_iconst (v := 1) S.1 S.2.1 dB_tick_13 (by decide) ?_
  refine lv_iadd S.1 S.2.1 dB_tick_14 ?_
  obtain ⟨z4, hz5, h⟩ := kb_st_of h
  refine kb_puti S w 3 rfl gB_80 (Nat.le_of_ble_eq_true rfl) (ws1 := bW cI cQ a nb Q L z4) (by rw [hz5]; rfl) dB_tick_15 (fun H locs w => ?_)
  refine lv_iload_n S.1 S.2.1 dB_tick_18 rfl (lv_at hl 0 rfl) ?_
  exact kb_iret (bW cI cQ a nb Q L) S hr hlk hA w h dB_tick_19
set_option maxHeartbeats 4000000 in
set_option maxRecDepth 100000 in
theorem cC_firstBroken_3 (l : Launch) (D : va_G) (cI cQ : ClassId) (a : Nat → Nat) (nb Q : Nat) (L : List Nat) (z0 z' : kc_S) (r : Int32) (sz : Nat) (x1 : Int32) (x2 : Int32) (x3 : Int32) (h : pC_firstBroken 3 nb Q L x1 x2 x3 z0 = some (r, z')) : Met l y_C_firstBroken (Cond.code y_C_firstBroken c_C_firstBroken 4 (some .int) :: wsB) rm_C_firstBroken (kb_Pc D vwCl [(cI, .int), (cQ, .object RReq)] sz [.ref (a 3), .int x1, .int x2, .int x3] (bW cI cQ a nb Q L z0)) (kb_Qi D vwCl sz (bW cI cQ a nb Q L z0) r (bW cI cQ a nb Q L z')) 0 0 (va_A (bW cI cQ a nb Q L z0) sz) := by
  refine kb_start (by decide) rfl (Nat.le_of_ble_eq_true rfl) ?_
  intro p e s m args below meth c A ls S hr hlk hsz hA w hl
  have hl : lv_has ls 4 [(0, .ref (a 3)), (1, .int x1), (2, .int x2), (3, .int x3)] := hl
  unfold pC_firstBroken at h
  refine lv_iload_n S.1 S.2.1 dC_firstBroken_0 rfl (lv_at hl 1 rfl) ?_
  by_cases hs1_0 : (x1).toInt = 0
  · have h := (kb_brt hs1_0).symm.trans h
    refine lv_tableIn (tgt := 36) S.1 S.2.1 dC_firstBroken_1 (by omega) (by omega) (by rw [hs1_0]; rfl) (by decide) ?_
    refine lv_aload_n S.1 S.2.1 dC_firstBroken_36 rfl (lv_at hl 0 rfl) ?_
    refine lv_iload_n S.1 S.2.1 dC_firstBroken_37 rfl (lv_at hl 2 rfl) ?_
    obtain ⟨r2, z1, hc3, h⟩ := kb_cl_of h
    refine kb_calli (As := [.int x2]) (rest := []) (q0 := 3) (ci := 0) S w (fun sz => cC_brokenByOpen_3 l D cI cQ a nb Q L _ _ _ sz x2 hc3) Y_C_brokenByOpen I_C_brokenByOpen S_C_brokenByOpen lC_43 ⟨rfl, rfl, Nat.le_of_ble_eq_true rfl, Nat.le_of_ble_eq_true rfl⟩ rfl rfl rfl rfl hl.1 rfl (Nat.le_of_ble_eq_true rfl) dC_firstBroken_38 ⟨Nat.le_of_ble_eq_true rfl, Nat.le_of_ble_eq_true rfl⟩ (fun H locs w => ?_)
    exact kb_iret (bW cI cQ a nb Q L) S hr hlk hA w h dC_firstBroken_41
  · have h := (kb_brf hs1_0).symm.trans h
    by_cases hs1_1 : (x1).toInt = 1
    · have h := (kb_brt hs1_1).symm.trans h
      refine lv_tableIn (tgt := 42) S.1 S.2.1 dC_firstBroken_1 (by omega) (by omega) (by rw [hs1_1]; rfl) (by decide) ?_
      refine lv_aload_n S.1 S.2.1 dC_firstBroken_42 rfl (lv_at hl 0 rfl) ?_
      refine lv_iload_n S.1 S.2.1 dC_firstBroken_43 rfl (lv_at hl 2 rfl) ?_
      obtain ⟨r5, z4, hc6, h⟩ := kb_cl_of h
      refine kb_calli (As := [.int x2]) (rest := []) (q0 := 3) (ci := 0) S w (fun sz => cC_brokenByClose_3 l D cI cQ a nb Q L _ _ _ sz x2 hc6) Y_C_brokenByClose I_C_brokenByClose S_C_brokenByClose lC_47 ⟨rfl, rfl, Nat.le_of_ble_eq_true rfl, Nat.le_of_ble_eq_true rfl⟩ rfl rfl rfl rfl hl.1 rfl (Nat.le_of_ble_eq_true rfl) dC_firstBroken_44 ⟨Nat.le_of_ble_eq_true rfl, Nat.le_of_ble_eq_true rfl⟩ (fun H locs w => ?_)
      exact kb_iret (bW cI cQ a nb Q L) S hr hlk hA w h dC_firstBroken_47
    · have h := (kb_brf hs1_1).symm.trans h
      by_cases hs1_2 : (x1).toInt = 2
      · have h := (kb_brt hs1_2).symm.trans h
        refine lv_tableIn (tgt := 53) S.1 S.2.1 dC_firstBroken_1 (by omega) (by omega) (by rw [hs1_2]; rfl) (by decide) ?_
        refine lv_aload_n S.1 S.2.1 dC_firstBroken_53 rfl (lv_at hl 0 rfl) ?_
        refine lv_iload_n S.1 S.2.1 dC_firstBroken_54 rfl (lv_at hl 2 rfl) ?_
        refine lv_iload_n S.1 S.2.1 dC_firstBroken_55 rfl (lv_at hl 3 rfl) ?_
        obtain ⟨r8, z7, hc9, h⟩ := kb_cl_of h
        refine kb_calli (As := [.int x2, .int x3]) (rest := []) (q0 := 3) (ci := 0) S w (fun sz => cC_brokenByAccess_3 l D cI cQ a nb Q L _ _ _ sz x2 x3 hc9) Y_C_brokenByAccess I_C_brokenByAccess S_C_brokenByAccess lC_54 ⟨rfl, rfl, Nat.le_of_ble_eq_true rfl, Nat.le_of_ble_eq_true rfl⟩ rfl rfl rfl rfl hl.1 rfl (Nat.le_of_ble_eq_true rfl) dC_firstBroken_56 ⟨Nat.le_of_ble_eq_true rfl, Nat.le_of_ble_eq_true rfl⟩ (fun H locs w => ?_)
        exact kb_iret (bW cI cQ a nb Q L) S hr hlk hA w h dC_firstBroken_59
      · have h := (kb_brf hs1_2).symm.trans h
        by_cases hs1_3 : (x1).toInt = 3
        · have h := (kb_brt hs1_3).symm.trans h
          refine lv_tableIn (tgt := 53) S.1 S.2.1 dC_firstBroken_1 (by omega) (by omega) (by rw [hs1_3]; rfl) (by decide) ?_
          refine lv_aload_n S.1 S.2.1 dC_firstBroken_53 rfl (lv_at hl 0 rfl) ?_
          refine lv_iload_n S.1 S.2.1 dC_firstBroken_54 rfl (lv_at hl 2 rfl) ?_
          refine lv_iload_n S.1 S.2.1 dC_firstBroken_55 rfl (lv_at hl 3 rfl) ?_
          obtain ⟨r11, z10, hc12, h⟩ := kb_cl_of h
          refine kb_calli (As := [.int x2, .int x3]) (rest := []) (q0 := 3) (ci := 0) S w (fun sz => cC_brokenByAccess_3 l D cI cQ a nb Q L _ _ _ sz x2 x3 hc12) Y_C_brokenByAccess I_C_brokenByAccess S_C_brokenByAccess lC_54 ⟨rfl, rfl, Nat.le_of_ble_eq_true rfl, Nat.le_of_ble_eq_true rfl⟩ rfl rfl rfl rfl hl.1 rfl (Nat.le_of_ble_eq_true rfl) dC_firstBroken_56 ⟨Nat.le_of_ble_eq_true rfl, Nat.le_of_ble_eq_true rfl⟩ (fun H locs w => ?_)
          exact kb_iret (bW cI cQ a nb Q L) S hr hlk hA w h dC_firstBroken_59
        · have h := (kb_brf hs1_3).symm.trans h
          by_cases hs1_4 : (x1).toInt = 4
          · have h := (kb_brt hs1_4).symm.trans h
            refine lv_tableIn (tgt := 48) S.1 S.2.1 dC_firstBroken_1 (by omega) (by omega) (by rw [hs1_4]; rfl) (by decide) ?_
            refine lv_aload_n S.1 S.2.1 dC_firstBroken_48 rfl (lv_at hl 0 rfl) ?_
            obtain ⟨r14, z13, hc15, h⟩ := kb_cl_of h
            refine kb_calli (As := []) (rest := []) (q0 := 3) (ci := 0) S w (fun sz => cC_brokenByRefresh_3 l D cI cQ a nb Q L _ _ _ sz  hc15) Y_C_brokenByRefresh I_C_brokenByRefresh S_C_brokenByRefresh lC_50 ⟨rfl, rfl, Nat.le_of_ble_eq_true rfl, Nat.le_of_ble_eq_true rfl⟩ rfl rfl rfl rfl hl.1 rfl (Nat.le_of_ble_eq_true rfl) dC_firstBroken_49 ⟨Nat.le_of_ble_eq_true rfl, Nat.le_of_ble_eq_true rfl⟩ (fun H locs w => ?_)
            exact kb_iret (bW cI cQ a nb Q L) S hr hlk hA w h dC_firstBroken_52
          · have h := (kb_brf hs1_4).symm.trans h
            refine lv_tableOut (tgt := 53) S.1 S.2.1 dC_firstBroken_1 (by omega) (by decide) ?_
            refine lv_aload_n S.1 S.2.1 dC_firstBroken_53 rfl (lv_at hl 0 rfl) ?_
            refine lv_iload_n S.1 S.2.1 dC_firstBroken_54 rfl (lv_at hl 2 rfl) ?_
            refine lv_iload_n S.1 S.2.1 dC_firstBroken_55 rfl (lv_at hl 3 rfl) ?_
            obtain ⟨r17, z16, hc18, h⟩ := kb_cl_of h
            refine kb_calli (As := [.int x2, .int x3]) (rest := []) (q0 := 3) (ci := 0) S w (fun sz => cC_brokenByAccess_3 l D cI cQ a nb Q L _ _ _ sz x2 x3 hc18) Y_C_brokenByAccess I_C_brokenByAccess S_C_brokenByAccess lC_54 ⟨rfl, rfl, Nat.le_of_ble_eq_true rfl, Nat.le_of_ble_eq_true rfl⟩ rfl rfl rfl rfl hl.1 rfl (Nat.le_of_ble_eq_true rfl) dC_firstBroken_56 ⟨Nat.le_of_ble_eq_true rfl, Nat.le_of_ble_eq_true rfl⟩ (fun H locs w => ?_)
            exact kb_iret (bW cI cQ a nb Q L) S hr hlk hA w h dC_firstBroken_59
set_option maxHeartbeats 4000000 in
set_option maxRecDepth 100000 in
theorem cC_firstBroken_11 (l : Launch) (D : va_G) (cI cQ : ClassId) (a : Nat → Nat) (nb Q : Nat) (L : List Nat) (z0 z' : kc_S) (r : Int32) (sz : Nat) (x1 : Int32) (x2 : Int32) (x3 : Int32) (h : pC_firstBroken 11 nb Q L x1 x2 x3 z0 = some (r, z')) : Met l y_C_firstBroken (Cond.code y_C_firstBroken c_C_firstBroken 4 (some .int) :: wsB) rm_C_firstBroken (kb_Pc D vwCl [(cI, .int), (cQ, .object RReq)] sz [.ref (a 11), .int x1, .int x2, .int x3] (bW cI cQ a nb Q L z0)) (kb_Qi D vwCl sz (bW cI cQ a nb Q L z0) r (bW cI cQ a nb Q L z')) 0 0 (va_A (bW cI cQ a nb Q L z0) sz) := by
  refine kb_start (by decide) rfl (Nat.le_of_ble_eq_true rfl) ?_
  intro p e s m args below meth c A ls S hr hlk hsz hA w hl
  have hl : lv_has ls 4 [(0, .ref (a 11)), (1, .int x1), (2, .int x2), (3, .int x3)] := hl
  unfold pC_firstBroken at h
  refine lv_iload_n S.1 S.2.1 dC_firstBroken_0 rfl (lv_at hl 1 rfl) ?_
  by_cases hs1_0 : (x1).toInt = 0
  · have h := (kb_brt hs1_0).symm.trans h
    refine lv_tableIn (tgt := 36) S.1 S.2.1 dC_firstBroken_1 (by omega) (by omega) (by rw [hs1_0]; rfl) (by decide) ?_
    refine lv_aload_n S.1 S.2.1 dC_firstBroken_36 rfl (lv_at hl 0 rfl) ?_
    refine lv_iload_n S.1 S.2.1 dC_firstBroken_37 rfl (lv_at hl 2 rfl) ?_
    obtain ⟨r2, z1, hc3, h⟩ := kb_cl_of h
    refine kb_calli (As := [.int x2]) (rest := []) (q0 := 11) (ci := 0) S w (fun sz => cC_brokenByOpen_11 l D cI cQ a nb Q L _ _ _ sz x2 hc3) Y_C_brokenByOpen I_C_brokenByOpen S_C_brokenByOpen lC_43 ⟨rfl, rfl, Nat.le_of_ble_eq_true rfl, Nat.le_of_ble_eq_true rfl⟩ rfl rfl rfl rfl hl.1 rfl (Nat.le_of_ble_eq_true rfl) dC_firstBroken_38 ⟨Nat.le_of_ble_eq_true rfl, Nat.le_of_ble_eq_true rfl⟩ (fun H locs w => ?_)
    exact kb_iret (bW cI cQ a nb Q L) S hr hlk hA w h dC_firstBroken_41
  · have h := (kb_brf hs1_0).symm.trans h
    by_cases hs1_1 : (x1).toInt = 1
    · have h := (kb_brt hs1_1).symm.trans h
      refine lv_tableIn (tgt := 42) S.1 S.2.1 dC_firstBroken_1 (by omega) (by omega) (by rw [hs1_1]; rfl) (by decide) ?_
      refine lv_aload_n S.1 S.2.1 dC_firstBroken_42 rfl (lv_at hl 0 rfl) ?_
      refine lv_iload_n S.1 S.2.1 dC_firstBroken_43 rfl (lv_at hl 2 rfl) ?_
      obtain ⟨r5, z4, hc6, h⟩ := kb_cl_of h
      refine kb_calli (As := [.int x2]) (rest := []) (q0 := 11) (ci := 0) S w (fun sz => cC_brokenByClose_11 l D cI cQ a nb Q L _ _ _ sz x2 hc6) Y_C_brokenByClose I_C_brokenByClose S_C_brokenByClose lC_47 ⟨rfl, rfl, Nat.le_of_ble_eq_true rfl, Nat.le_of_ble_eq_true rfl⟩ rfl rfl rfl rfl hl.1 rfl (Nat.le_of_ble_eq_true rfl) dC_firstBroken_44 ⟨Nat.le_of_ble_eq_true rfl, Nat.le_of_ble_eq_true rfl⟩ (fun H locs w => ?_)
      exact kb_iret (bW cI cQ a nb Q L) S hr hlk hA w h dC_firstBroken_47
    · have h := (kb_brf hs1_1).symm.trans h
      by_cases hs1_2 : (x1).toInt = 2
      · have h := (kb_brt hs1_2).symm.trans h
        refine lv_tableIn (tgt := 53) S.1 S.2.1 dC_firstBroken_1 (by omega) (by omega) (by rw [hs1_2]; rfl) (by decide) ?_
        refine lv_aload_n S.1 S.2.1 dC_firstBroken_53 rfl (lv_at hl 0 rfl) ?_
        refine lv_iload_n S.1 S.2.1 dC_firstBroken_54 rfl (lv_at hl 2 rfl) ?_
        refine lv_iload_n S.1 S.2.1 dC_firstBroken_55 rfl (lv_at hl 3 rfl) ?_
        obtain ⟨r8, z7, hc9, h⟩ := kb_cl_of h
        refine kb_calli (As := [.int x2, .int x3]) (rest := []) (q0 := 11) (ci := 0) S w (fun sz => cC_brokenByAccess_11 l D cI cQ a nb Q L _ _ _ sz x2 x3 hc9) Y_C_brokenByAccess I_C_brokenByAccess S_C_brokenByAccess lC_54 ⟨rfl, rfl, Nat.le_of_ble_eq_true rfl, Nat.le_of_ble_eq_true rfl⟩ rfl rfl rfl rfl hl.1 rfl (Nat.le_of_ble_eq_true rfl) dC_firstBroken_56 ⟨Nat.le_of_ble_eq_true rfl, Nat.le_of_ble_eq_true rfl⟩ (fun H locs w => ?_)
        exact kb_iret (bW cI cQ a nb Q L) S hr hlk hA w h dC_firstBroken_59
      · have h := (kb_brf hs1_2).symm.trans h
        by_cases hs1_3 : (x1).toInt = 3
        · have h := (kb_brt hs1_3).symm.trans h
          refine lv_tableIn (tgt := 53) S.1 S.2.1 dC_firstBroken_1 (by omega) (by omega) (by rw [hs1_3]; rfl) (by decide) ?_
          refine lv_aload_n S.1 S.2.1 dC_firstBroken_53 rfl (lv_at hl 0 rfl) ?_
          refine lv_iload_n S.1 S.2.1 dC_firstBroken_54 rfl (lv_at hl 2 rfl) ?_
          refine lv_iload_n S.1 S.2.1 dC_firstBroken_55 rfl (lv_at hl 3 rfl) ?_
          obtain ⟨r11, z10, hc12, h⟩ := kb_cl_of h
          refine kb_calli (As := [.int x2, .int x3]) (rest := []) (q0 := 11) (ci := 0) S w (fun sz => cC_brokenByAccess_11 l D cI cQ a nb Q L _ _ _ sz x2 x3 hc12) Y_C_brokenByAccess I_C_brokenByAccess S_C_brokenByAccess lC_54 ⟨rfl, rfl, Nat.le_of_ble_eq_true rfl, Nat.le_of_ble_eq_true rfl⟩ rfl rfl rfl rfl hl.1 rfl (Nat.le_of_ble_eq_true rfl) dC_firstBroken_56 ⟨Nat.le_of_ble_eq_true rfl, Nat.le_of_ble_eq_true rfl⟩ (fun H locs w => ?_)
          exact kb_iret (bW cI cQ a nb Q L) S hr hlk hA w h dC_firstBroken_59
        · have h := (kb_brf hs1_3).symm.trans h
          by_cases hs1_4 : (x1).toInt = 4
          · have h := (kb_brt hs1_4).symm.trans h
            refine lv_tableIn (tgt := 48) S.1 S.2.1 dC_firstBroken_1 (by omega) (by omega) (by rw [hs1_4]; rfl) (by decide) ?_
            refine lv_aload_n S.1 S.2.1 dC_firstBroken_48 rfl (lv_at hl 0 rfl) ?_
            obtain ⟨r14, z13, hc15, h⟩ := kb_cl_of h
            refine kb_calli (As := []) (rest := []) (q0 := 11) (ci := 0) S w (fun sz => cC_brokenByRefresh_11 l D cI cQ a nb Q L _ _ _ sz  hc15) Y_C_brokenByRefresh I_C_brokenByRefresh S_C_brokenByRefresh lC_50 ⟨rfl, rfl, Nat.le_of_ble_eq_true rfl, Nat.le_of_ble_eq_true rfl⟩ rfl rfl rfl rfl hl.1 rfl (Nat.le_of_ble_eq_true rfl) dC_firstBroken_49 ⟨Nat.le_of_ble_eq_true rfl, Nat.le_of_ble_eq_true rfl⟩ (fun H locs w => ?_)
            exact kb_iret (bW cI cQ a nb Q L) S hr hlk hA w h dC_firstBroken_52
          · have h := (kb_brf hs1_4).symm.trans h
            refine lv_tableOut (tgt := 53) S.1 S.2.1 dC_firstBroken_1 (by omega) (by decide) ?_
            refine lv_aload_n S.1 S.2.1 dC_firstBroken_53 rfl (lv_at hl 0 rfl) ?_
            refine lv_iload_n S.1 S.2.1 dC_firstBroken_54 rfl (lv_at hl 2 rfl) ?_
            refine lv_iload_n S.1 S.2.1 dC_firstBroken_55 rfl (lv_at hl 3 rfl) ?_
            obtain ⟨r17, z16, hc18, h⟩ := kb_cl_of h
            refine kb_calli (As := [.int x2, .int x3]) (rest := []) (q0 := 11) (ci := 0) S w (fun sz => cC_brokenByAccess_11 l D cI cQ a nb Q L _ _ _ sz x2 x3 hc18) Y_C_brokenByAccess I_C_brokenByAccess S_C_brokenByAccess lC_54 ⟨rfl, rfl, Nat.le_of_ble_eq_true rfl, Nat.le_of_ble_eq_true rfl⟩ rfl rfl rfl rfl hl.1 rfl (Nat.le_of_ble_eq_true rfl) dC_firstBroken_56 ⟨Nat.le_of_ble_eq_true rfl, Nat.le_of_ble_eq_true rfl⟩ (fun H locs w => ?_)
            exact kb_iret (bW cI cQ a nb Q L) S hr hlk hA w h dC_firstBroken_59
end
section
/-! pure layer 1: numbers, what is too soon, the four rules' numbers over a channel's rows -/
noncomputable def kd_b (P : Prop) : Int32 := @ite _ P (Classical.propDecidable P) 1 0
theorem kd_bt {P : Prop} (h : P) : kd_b P = 1 := by unfold kd_b; exact if_pos h
theorem kd_bf {P : Prop} (h : ¬ P) : kd_b P = 0 := by unfold kd_b; exact if_neg h
theorem kd_b0 {P : Prop} : kd_b P = 0 ↔ ¬ P := by
  by_cases h : P
  · rw [kd_bt h]; exact ⟨fun q => absurd q (by decide), fun q => absurd h q⟩
  · rw [kd_bf h]; exact ⟨fun _ => h, fun _ => rfl⟩
noncomputable def kd_if (P : Prop) (x y : Int32) : Int32 := @ite _ P (Classical.propDecidable P) x y
theorem kd_ift {P : Prop} {x y : Int32} (h : P) : kd_if P x y = x := by unfold kd_if; exact if_pos h
theorem kd_iff {P : Prop} {x y : Int32} (h : ¬ P) : kd_if P x y = y := by unfold kd_if; exact if_neg h
theorem kd_ifc {P P' : Prop} {x y y' : Int32} (hP : P ↔ P') (hy : y = y') : kd_if P x y = kd_if P' x y' := by
  by_cases h : P
  · rw [kd_ift h, kd_ift (hP.mp h)]
  · rw [kd_iff h, kd_iff (fun q => h (hP.mpr q)), hy]
theorem kd_ifx {P : Prop} {x x' y : Int32} (hx : x = x') : kd_if P x y = kd_if P x' y := by rw [hx]
/-- a branch on a call's answer that is 0 or 1 -/
theorem kd_br0 {α : Type} {P : Prop} {x y : Option α} : kb_br (kd_b P = 0) x y = kb_br P y x := by
  by_cases h : P
  · rw [kb_brt h, kb_brf (fun q => (kd_b0.mp q) h)]
  · rw [kb_brf h, kb_brt (kd_b0.mpr h)]
theorem kd_brs {σ : Type} {P : Prop} {x y : Int32} {z : σ} : kb_br P (some (x, z)) (some (y, z)) = some (kd_if P x y, z) := by
  by_cases h : P
  · rw [kb_brt h, kd_ift h]
  · rw [kb_brf h, kd_iff h]
theorem kd_brn {α : Type} {P : Prop} {x y : Option α} : kb_br (¬ P) x y = kb_br P y x := by
  by_cases h : P
  · rw [kb_brt h, kb_brf (fun q => q h)]
  · rw [kb_brf h, kb_brt h]
theorem kd_cl {α σ : Type} {r : Int32} {z : σ} {k : Int32 → σ → Option α} : kb_cl (some (r, z)) k = k r z := rfl
theorem kd_st {α σ : Type} {v : σ} {k : σ → Option α} : kb_st v k = k v := rfl
def kd_er (T x t : Int32) : Prop := ¬ x < 0 ∧ ¬ t ≤ T - x
theorem kd_in {i : Int32} {k n : Nat} (h : i = nI k) (hk : k < n) (hn : n < 2 ^ 31) : vp_in i n := by rw [h]; exact vp_in_nI hk hn
theorem kd_ix {i : Int32} {k : Nat} (h : i = nI k) (hk : k < 2 ^ 31) : kb_ix i = k := by rw [h]; exact nI_clamp hk
theorem pd_early {z : kb_S} {s w : Nat} {x1 x2 x3 : Int32} (h1 : x1 = nI s) (hs : s < 2) (h3 : x3 = nI w) (hw : w < 12) : pM_early x1 x2 x3 z = some (kd_b (kd_er (z 9 s) x2 (z 1 w)), z) := by
  unfold pM_early
  by_cases h : x2 < 0
  · rw [kb_brt h, kd_bf (fun q => q.1 h)]
  · rw [kb_brf h, kb_ckt (kd_in h1 hs (by decide)), kb_ckt (kd_in h3 hw (by decide)), kd_ix h1 (by omega), kd_ix h3 (by omega)]
    by_cases h2 : z 1 w ≤ z 9 s - x2
    · rw [kb_brt h2, kd_bf (fun q => q.2 h2)]
    · rw [kb_brf h2, kd_bt ⟨h, h2⟩]
theorem pd_soon {b nb Q : Nat} {L : List Nat} {z : kc_S} {w : Nat} {x1 x2 : Int32} (h1 : x1 = nI w) (hw : w < 12) (hx : x2 = -1 ∨ ¬ x2 < 0) : pC_isTooSoon b nb Q L x1 x2 z = some (kd_b (kd_er (z.1 b 3) x2 (z.1 1 w)), z) := by
  unfold pC_isTooSoon
  by_cases h : x2 = -1
  · rw [kb_brt h, kd_bf (fun q => q.1 (by rw [h]; decide))]
  · have h0 : ¬ x2 < 0 := hx.resolve_left h
    rw [kb_brf h, kb_ckt (kd_in h1 hw (by decide)), kd_ix h1 (by omega)]
    by_cases h2 : z.1 1 w ≤ z.1 b 3 - x2
    · rw [kb_brt h2, kd_bf (fun q => q.2 h2)]
    · rw [kb_brf h2, kd_bt ⟨h0, h2⟩]
theorem kd_mono {T x y t : Int32} (hxy : x ≤ y) (hy : y ≤ T) (h : kd_er T x t) : kd_er T y t := by
  obtain ⟨h0, h1⟩ := h
  have hy0 : ¬ y < 0 := fun q => h0 (Int32.lt_of_le_of_lt hxy q)
  have hT0 : ¬ T < 0 := fun q => hy0 (Int32.lt_of_le_of_lt hy q)
  obtain ⟨i, hi, rfl⟩ := nI_of h0
  obtain ⟨j, hj, rfl⟩ := nI_of hy0
  obtain ⟨k, hk, rfl⟩ := nI_of hT0
  have a := (nI_leI hi hj).mp hxy
  have b := (nI_leI hj hk).mp hy
  refine ⟨hy0, fun q => h1 (Int32.le_trans q ?_)⟩
  rw [pk_sub b, pk_sub (Nat.le_trans a b)]
  exact nI_le (by omega) (by omega)
def kd_mo (f : Nat → Int32) (b : Nat) : Nat → Nat → Int32 → Int32
  | 0, _, acc => acc
  | j + 1, i, acc => kd_mo f b j (i + 1) (if i = b then acc else if f i ≤ acc then acc else f i)
theorem kd_mo_er {f : Nat → Int32} {b : Nat} {T t : Int32} : ∀ (j i : Nat) (acc : Int32), acc ≤ T → (∀ k, i ≤ k → k < i + j → f k ≤ T) → (kd_er T (kd_mo f b j i acc) t ↔ kd_er T acc t ∨ ∃ k, i ≤ k ∧ k < i + j ∧ k ≠ b ∧ kd_er T (f k) t) := by
  intro j
  induction j with
  | zero =>
    intro i acc _ _
    constructor
    · intro h; exact Or.inl h
    · rintro (h | ⟨k, h1, h2, -⟩)
      · exact h
      · omega
  | succ j ih =>
    intro i acc ha hf
    have hfi := hf i (Nat.le_refl _) (by omega)
    have hn : (if i = b then acc else if f i ≤ acc then acc else f i) ≤ T := by
      split
      · exact ha
      · split
        · exact ha
        · exact hfi
    show kd_er T (kd_mo f b j (i + 1) (if i = b then acc else if f i ≤ acc then acc else f i)) t ↔ _
    rw [ih (i + 1) _ hn (fun k h1 h2 => hf k (by omega) (by omega))]
    constructor
    · rintro (h | ⟨k, h1, h2, h3, h4⟩)
      · by_cases hb : i = b
        · rw [if_pos hb] at h; exact Or.inl h
        · rw [if_neg hb] at h
          by_cases hl : f i ≤ acc
          · rw [if_pos hl] at h; exact Or.inl h
          · rw [if_neg hl] at h; exact Or.inr ⟨i, Nat.le_refl _, by omega, hb, h⟩
      · exact Or.inr ⟨k, by omega, by omega, h3, h4⟩
    · rintro (h | ⟨k, h1, h2, h3, h4⟩)
      · left
        by_cases hb : i = b
        · rw [if_pos hb]; exact h
        · rw [if_neg hb]
          by_cases hl : f i ≤ acc
          · rw [if_pos hl]; exact h
          · rw [if_neg hl]; exact kd_mono (Int32.le_of_lt (Int32.not_le.mp hl)) hfi h
      · by_cases hk : k = i
        · subst hk
          left
          rw [if_neg h3]
          by_cases hl : f k ≤ acc
          · rw [if_pos hl]; exact kd_mono hl ha h4
          · rw [if_neg hl]; exact h4
        · exact Or.inr ⟨k, by omega, by omega, h3, h4⟩
noncomputable def sp_open (nb b : Nat) (rows opened closed : Nat → Int32) (o4 rf T : Int32) (t : Nat → Int32) : Int32 :=
  kd_if (rows b < 0) (kd_if (kd_er T (closed b) (t 1)) 2 (kd_if (kd_er T (opened b) (t 3)) 3 (kd_if (∃ k, k < nb ∧ k ≠ b ∧ kd_er T (opened k) (t 7)) 4 (kd_if (kd_er T o4 (t 8)) 5 (kd_if (kd_er T rf (t 9)) 6 0))))) 1
noncomputable def sp_close (b : Nat) (rows opened readAt writtenAt : Nat → Int32) (T : Int32) (t : Nat → Int32) : Int32 :=
  kd_if (rows b < 0) 7 (kd_if (kd_er T (opened b) (t 2)) 8 (kd_if (kd_er T (writtenAt b) (t 4)) 9 (kd_if (kd_er T (readAt b) (t 5)) 10 0)))
noncomputable def sp_use (b : Nat) (row : Int32) (rows opened : Nat → Int32) (la T : Int32) (t : Nat → Int32) : Int32 :=
  kd_if (rows b = row) (kd_if (kd_er T (opened b) (t 0)) 12 (kd_if (kd_er T la (t 6)) 13 0)) 11
noncomputable def sp_refresh (nb : Nat) (rows closed : Nat → Int32) (rf T : Int32) (t : Nat → Int32) : Int32 :=
  kd_if (∃ k, k < nb ∧ ¬ rows k < 0) 14 (kd_if (∃ k, k < nb ∧ kd_er T (closed k) (t 1)) 15 (kd_if (kd_er T rf (t 9)) 16 0))
theorem kd_br_if {σ : Type} {P : Prop} {x : Int32} {z : σ} {y : Int32} {X Y : Option (Int32 × σ)} (hx : X = some (x, z)) (hy : Y = some (y, z)) : kb_br P X Y = some (kd_if P x y, z) := by rw [hx, hy]; exact kd_brs
theorem kd_8 (s b : Nat) : (8 : Int32) * nI s + nI b = nI (8 * s + b) := by rw [show (8 : Int32) = nI 8 from rfl, pk_mul, nI_add]
theorem kd_8' (s : Nat) : (8 : Int32) * nI s = nI (8 * s) := by rw [show (8 : Int32) = nI 8 from rfl, pk_mul]
theorem kd_88 (s : Nat) : (8 : Int32) * nI s + 8 = nI (8 * s + 8) := by rw [show (8 : Int32) = nI 8 from rfl, pk_mul, nI_add]
theorem kd_43 (s : Nat) : (4 : Int32) * nI s + 3 = nI (4 * s + 3) := by rw [show (4 : Int32) = nI 4 from rfl, pk_mul, show (3 : Int32) = nI 3 from rfl, nI_add]
theorem pd_bopen_L {z : kb_S} {s b nb : Nat} (hs : s < 2) (hb : b < 8) (hnb : z 0 1 = nI nb) (h8 : nb ≤ 8) : ∀ (j n i : Nat) (x4 : Int32), i + j = nb → j < n →
    pM_brokenOpen_L13 n (nI s) (nI b) (nI (8 * s + b)) x4 (nI i) z = some (kd_if (z 2 (8 * s + b) < 0) (kd_if (kd_er (z 9 s) (z 4 (8 * s + b)) (z 1 1)) 2 (kd_if (kd_er (z 9 s) (z 3 (8 * s + b)) (z 1 3)) 3 (kd_if (kd_er (z 9 s) (kd_mo (fun k => z 3 (8 * s + k)) b j i x4) (z 1 7)) 4 (kd_if (kd_er (z 9 s) (z 7 (4 * s + 3)) (z 1 8)) 5 (kd_if (kd_er (z 9 s) (z 8 s) (z 1 9)) 6 0))))) 1, z) := by
  intro j
  induction j with
  | zero =>
    intro n i x4 hi hn
    obtain ⟨n, rfl⟩ : ∃ q, n = q + 1 := ⟨n - 1, by omega⟩
    have hin : vp_in (nI (8 * s + b)) 16 := vp_in_nI (by omega) (by decide)
    rw [pM_brokenOpen_L13, kb_brt (by rw [hnb]; exact nI_le (by omega) (by omega)), kb_ckt hin, kd_ix rfl (by omega)]
    refine kd_br_if ?_ rfl
    rw [kb_ckt hin, pd_early rfl hs (show (1 : Int32) = nI 1 from rfl) (by decide), kd_cl, kd_br0]
    refine kd_br_if rfl ?_
    rw [kb_ckt hin, pd_early rfl hs (show (3 : Int32) = nI 3 from rfl) (by decide), kd_cl, kd_br0]
    refine kd_br_if rfl ?_
    rw [pd_early rfl hs (show (7 : Int32) = nI 7 from rfl) (by decide), kd_cl, kd_br0]
    refine kd_br_if rfl ?_
    rw [kd_43, kb_ckt (vp_in_nI (by omega) (by decide)), kd_ix rfl (by omega), pd_early rfl hs (show (8 : Int32) = nI 8 from rfl) (by decide), kd_cl, kd_br0]
    refine kd_br_if rfl ?_
    rw [kb_ckt (vp_in_nI hs (by decide)), kd_ix rfl (by omega), pd_early rfl hs (show (9 : Int32) = nI 9 from rfl) (by decide), kd_cl, kd_br0]
    exact kd_br_if rfl rfl
  | succ j ih =>
    intro n i x4 hi hn
    obtain ⟨n, rfl⟩ : ∃ q, n = q + 1 := ⟨n - 1, by omega⟩
    rw [pM_brokenOpen_L13, kb_brf (by rw [hnb]; exact nI_ge (by omega) (by omega)), kd_8, kb_ckt (vp_in_nI (by omega) (by decide)), kd_ix rfl (by omega), nI_1]
    by_cases hib : i = b
    · rw [kb_brt (by rw [hib]), ih n (i + 1) _ (by omega) (by omega)]
      rw [kd_mo, if_pos hib]
    · rw [kb_brf (fun q => hib ((nI_eq (by omega) (by omega)).mp q))]
      by_cases hl : z 3 (8 * s + i) ≤ x4
      · rw [kb_brt hl, ih n (i + 1) _ (by omega) (by omega)]
        rw [kd_mo, if_neg hib, if_pos hl]
      · rw [kb_brf hl, ih n (i + 1) _ (by omega) (by omega)]
        rw [kd_mo, if_neg hib, if_neg hl]
theorem pd_bopen {z : kb_S} {s b nb : Nat} (hs : s < 2) (hb : b < 8) (hnb : z 0 1 = nI nb) (h8 : nb ≤ 8) (hT : ¬ z 9 s < 0) (hbd : ∀ k, k < nb → z 3 (8 * s + k) ≤ z 9 s) : pM_brokenOpen (nI s) (nI b) z = some (sp_open nb b (fun k => z 2 (8 * s + k)) (fun k => z 3 (8 * s + k)) (fun k => z 4 (8 * s + k)) (z 7 (4 * s + 3)) (z 8 s) (z 9 s) (z 1), z) := by
  unfold pM_brokenOpen
  rw [kd_8, show (0 : Int32) = nI 0 from rfl, pd_bopen_L hs hb hnb h8 nb 3000 0 (-1) (by omega) (by omega)]
  unfold sp_open
  have hm : (-1 : Int32) ≤ z 9 s := Int32.le_trans (by decide) (Int32.not_lt.mp hT)
  have e := kd_mo_er (f := fun k => z 3 (8 * s + k)) (b := b) (T := z 9 s) (t := z 1 7) nb 0 (-1) hm (fun k _ h => hbd k (by omega))
  congr 2
  refine kd_ifx (kd_ifc Iff.rfl (kd_ifc Iff.rfl (kd_ifc (e.trans ?_) rfl)))
  constructor
  · rintro (h | ⟨k, -, h1, h2, h3⟩)
    · exact absurd (show (-1 : Int32) < 0 by decide) h.1
    · exact ⟨k, by omega, h2, h3⟩
  · rintro ⟨k, h1, h2, h3⟩
    exact Or.inr ⟨k, by omega, by omega, h2, h3⟩
theorem kd_lt0 {x : Int32} : ¬ x < 0 ↔ 0 ≤ x := Int32.not_lt
theorem pd_bclose {z : kb_S} {s b : Nat} (hs : s < 2) (hb : b < 8) : pM_brokenClose (nI s) (nI b) z = some (sp_close b (fun k => z 2 (8 * s + k)) (fun k => z 3 (8 * s + k)) (fun k => z 5 (8 * s + k)) (fun k => z 6 (8 * s + k)) (z 9 s) (z 1), z) := by
  unfold pM_brokenClose sp_close
  have hin : vp_in (nI (8 * s + b)) 16 := vp_in_nI (by omega) (by decide)
  simp only [kd_8]
  rw [kb_ckt hin, kd_ix rfl (by omega)]
  by_cases h : z 2 (8 * s + b) < 0
  · rw [kb_brf (fun q => (kd_lt0.mpr q) h), kd_ift h]
  · rw [kb_brt (kd_lt0.mp h), kd_iff h]
    rw [kb_ckt hin, pd_early rfl hs (show (2 : Int32) = nI 2 from rfl) (by decide), kd_cl, kd_br0]
    refine kd_br_if rfl ?_
    rw [kb_ckt hin, pd_early rfl hs (show (4 : Int32) = nI 4 from rfl) (by decide), kd_cl, kd_br0]
    refine kd_br_if rfl ?_
    rw [kb_ckt hin, pd_early rfl hs (show (5 : Int32) = nI 5 from rfl) (by decide), kd_cl, kd_br0]
    exact kd_br_if rfl rfl
def kd_mx (f g : Nat → Int32) : Nat → Nat → Int32 → Int32
  | 0, _, acc => acc
  | j + 1, i, acc => kd_mx f g j (i + 1) (if g i ≤ (if f i ≤ acc then acc else f i) then (if f i ≤ acc then acc else f i) else g i)
theorem pd_buse_L {z : kb_S} {s b : Nat} {row : Int32} (hs : s < 2) (hb : b < 8) : ∀ (j n i : Nat) (x5 : Int32), i + j = 8 → j < n →
    pM_brokenUse_L17 n (nI s) row (nI (8 * s + b)) x5 (nI (8 * s + i)) z = some (sp_use b row (fun k => z 2 (8 * s + k)) (fun k => z 3 (8 * s + k)) (kd_mx (fun k => z 5 (8 * s + k)) (fun k => z 6 (8 * s + k)) j i x5) (z 9 s) (z 1), z) := by
  intro j
  induction j with
  | zero =>
    intro n i x5 hi hn
    obtain ⟨n, rfl⟩ : ∃ q, n = q + 1 := ⟨n - 1, by omega⟩
    have hin : vp_in (nI (8 * s + b)) 16 := vp_in_nI (by omega) (by decide)
    rw [pM_brokenUse_L17, kd_88, kb_brt (nI_le (by omega) (by omega)), kb_ckt hin, kd_ix rfl (by omega)]
    unfold sp_use
    refine kd_br_if ?_ rfl
    rw [kb_ckt hin, pd_early rfl hs (show (0 : Int32) = nI 0 from rfl) (by decide), kd_cl, kd_br0]
    refine kd_br_if rfl ?_
    rw [pd_early rfl hs (show (6 : Int32) = nI 6 from rfl) (by decide), kd_cl, kd_br0]
    exact kd_br_if rfl rfl
  | succ j ih =>
    intro n i x5 hi hn
    obtain ⟨n, rfl⟩ : ∃ q, n = q + 1 := ⟨n - 1, by omega⟩
    have hin : vp_in (nI (8 * s + i)) 16 := vp_in_nI (by omega) (by decide)
    rw [pM_brokenUse_L17, kd_88, kb_brf (nI_ge (by omega) (by omega))]
    simp only [kb_ckt hin, nI_1, kd_ix (rfl : nI (8 * s + i) = nI (8 * s + i)) (by omega : 8 * s + i < 2 ^ 31), Nat.add_assoc]
    rw [kd_mx]
    by_cases h1 : z 5 (8 * s + i) ≤ x5
    · rw [kb_brt h1]
      simp only [if_pos h1]
      by_cases h2 : z 6 (8 * s + i) ≤ x5
      · rw [kb_brt h2, ih n (i + 1) _ (by omega) (by omega)]
        simp only [if_pos h2]
      · rw [kb_brf h2, ih n (i + 1) _ (by omega) (by omega)]
        simp only [if_neg h2]
    · rw [kb_brf h1]
      simp only [if_neg h1]
      by_cases h2 : z 6 (8 * s + i) ≤ z 5 (8 * s + i)
      · rw [kb_brt h2, ih n (i + 1) _ (by omega) (by omega)]
        simp only [if_pos h2]
      · rw [kb_brf h2, ih n (i + 1) _ (by omega) (by omega)]
        simp only [if_neg h2]
theorem pd_buse {z : kb_S} {s b : Nat} {row : Int32} (hs : s < 2) (hb : b < 8) : pM_brokenUse (nI s) (nI b) row z = some (sp_use b row (fun k => z 2 (8 * s + k)) (fun k => z 3 (8 * s + k)) (kd_mx (fun k => z 5 (8 * s + k)) (fun k => z 6 (8 * s + k)) 8 0 (-1)) (z 9 s) (z 1), z) := by
  unfold pM_brokenUse
  rw [kd_8, kd_8']
  exact pd_buse_L hs hb 8 3000 0 (-1) (by omega) (by omega)
theorem pd_bref_L {z : kb_S} {s : Nat} (hs : s < 2) : ∀ (j n i : Nat) (P R : Prop), i + j = 8 → j < n →
    pM_brokenRefresh_L10 n (nI s) (kd_b P) (kd_b R) (nI (8 * s + i)) z = some (kd_if (P ∨ ∃ k, i ≤ k ∧ k < 8 ∧ ¬ z 2 (8 * s + k) < 0) 14 (kd_if (R ∨ ∃ k, i ≤ k ∧ k < 8 ∧ kd_er (z 9 s) (z 4 (8 * s + k)) (z 1 1)) 15 (kd_if (kd_er (z 9 s) (z 8 s) (z 1 9)) 16 0)), z) := by
  intro j
  induction j with
  | zero =>
    intro n i P R hi hn
    obtain ⟨n, rfl⟩ : ∃ q, n = q + 1 := ⟨n - 1, by omega⟩
    rw [pM_brokenRefresh_L10, kd_88, kb_brt (nI_le (by omega) (by omega)), kd_br0, kd_br0]
    have e1 : (P ∨ ∃ k, i ≤ k ∧ k < 8 ∧ ¬ z 2 (8 * s + k) < 0) ↔ P := ⟨fun h => h.elim id (fun ⟨k, a, b, _⟩ => by omega), Or.inl⟩
    have e2 : (R ∨ ∃ k, i ≤ k ∧ k < 8 ∧ kd_er (z 9 s) (z 4 (8 * s + k)) (z 1 1)) ↔ R := ⟨fun h => h.elim id (fun ⟨k, a, b, _⟩ => by omega), Or.inl⟩
    rw [kd_ifc e1 (kd_ifc e2 rfl)]
    refine kd_br_if rfl (kd_br_if rfl ?_)
    rw [kb_ckt (vp_in_nI hs (by decide)), kd_ix rfl (by omega), pd_early rfl hs (show (9 : Int32) = nI 9 from rfl) (by decide), kd_cl, kd_br0]
    exact kd_br_if rfl rfl
  | succ j ih =>
    intro n i P R hi hn
    obtain ⟨n, rfl⟩ : ∃ q, n = q + 1 := ⟨n - 1, by omega⟩
    have hin : vp_in (nI (8 * s + i)) 16 := vp_in_nI (by omega) (by decide)
    have key : pM_brokenRefresh_L10 (n + 1) (nI s) (kd_b P) (kd_b R) (nI (8 * s + i)) z = pM_brokenRefresh_L10 n (nI s) (kd_b (P ∨ ¬ z 2 (8 * s + i) < 0)) (kd_b (R ∨ kd_er (z 9 s) (z 4 (8 * s + i)) (z 1 1))) (nI (8 * s + (i + 1))) z := by
      rw [pM_brokenRefresh_L10, kd_88, kb_brf (nI_ge (by omega) (by omega))]
      simp only [kb_ckt hin, nI_1, kd_ix (rfl : nI (8 * s + i) = nI (8 * s + i)) (by omega : 8 * s + i < 2 ^ 31), Nat.add_assoc, pd_early (rfl : nI s = nI s) hs (show (1 : Int32) = nI 1 from rfl) (by decide), kd_cl, kd_br0]
      by_cases hP : P
      · rw [kb_brt hP, kd_bt (Or.inl hP)]
        by_cases hR : R
        · rw [kb_brt hR, kd_bt (Or.inl hR)]
        · rw [kb_brf hR]
          by_cases hE : kd_er (z 9 s) (z 4 (8 * s + i)) (z 1 1)
          · rw [kb_brt hE, kd_bt (Or.inr hE)]
          · rw [kb_brf hE, kd_bf (fun h => h.elim hR hE)]
      · rw [kb_brf hP]
        by_cases hZ : z 2 (8 * s + i) < 0
        · rw [kb_brt hZ, kd_bf (fun h => h.elim hP (fun q => q hZ))]
          by_cases hR : R
          · rw [kb_brt hR, kd_bt (Or.inl hR)]
          · rw [kb_brf hR]
            by_cases hE : kd_er (z 9 s) (z 4 (8 * s + i)) (z 1 1)
            · rw [kb_brt hE, kd_bt (Or.inr hE)]
            · rw [kb_brf hE, kd_bf (fun h => h.elim hR hE)]
        · rw [kb_brf hZ, kd_bt (Or.inr hZ)]
          by_cases hR : R
          · rw [kb_brt hR, kd_bt (Or.inl hR)]
          · rw [kb_brf hR]
            by_cases hE : kd_er (z 9 s) (z 4 (8 * s + i)) (z 1 1)
            · rw [kb_brt hE, kd_bt (Or.inr hE)]
            · rw [kb_brf hE, kd_bf (fun h => h.elim hR hE)]
    rw [key, ih n (i + 1) _ _ (by omega) (by omega)]
    have e3 : ∀ (A : Prop) (B : Nat → Prop), ((A ∨ B i) ∨ ∃ k, i + 1 ≤ k ∧ k < 8 ∧ B k) ↔ (A ∨ ∃ k, i ≤ k ∧ k < 8 ∧ B k) := by
      intro A B
      constructor
      · rintro ((h | h) | ⟨k, h1, h2, h3⟩)
        · exact Or.inl h
        · exact Or.inr ⟨i, Nat.le_refl _, by omega, h⟩
        · exact Or.inr ⟨k, by omega, h2, h3⟩
      · rintro (h | ⟨k, h1, h2, h3⟩)
        · exact Or.inl (Or.inl h)
        · by_cases hk : k = i
          · subst hk; exact Or.inl (Or.inr h3)
          · exact Or.inr ⟨k, by omega, h2, h3⟩
    rw [kd_ifc (e3 P (fun k => ¬ z 2 (8 * s + k) < 0)) (kd_ifc (e3 R (fun k => kd_er (z 9 s) (z 4 (8 * s + k)) (z 1 1))) rfl)]
theorem pd_bref {z : kb_S} {s : Nat} (hs : s < 2) : pM_brokenRefresh (nI s) z = some (sp_refresh 8 (fun k => z 2 (8 * s + k)) (fun k => z 4 (8 * s + k)) (z 8 s) (z 9 s) (z 1), z) := by
  unfold pM_brokenRefresh sp_refresh
  have h := pd_bref_L (z := z) hs 8 3000 0 False False (by omega) (by omega)
  rw [kd_bf (fun q : False => q)] at h
  rw [kd_8']
  refine h.trans ?_
  have e3 : ∀ B : Nat → Prop, (False ∨ ∃ k, 0 ≤ k ∧ k < 8 ∧ B k) ↔ ∃ k, k < 8 ∧ B k := fun B => ⟨fun h => h.elim (fun q => q.elim) (fun ⟨k, _, a, b⟩ => ⟨k, a, b⟩), fun ⟨k, a, b⟩ => Or.inr ⟨k, by omega, a, b⟩⟩
  rw [kd_ifc (e3 (fun k => ¬ z 2 (8 * s + k) < 0)) (kd_ifc (e3 (fun k => kd_er (z 9 s) (z 4 (8 * s + k)) (z 1 1))) rfl)]
def kd_ok (x : Int32) : Prop := x = -1 ∨ ¬ x < 0
theorem kd_okn {x : Int32} (h : kd_ok x) : x = -1 ↔ x < 0 := ⟨fun q => by rw [q]; decide, fun q => h.resolve_right (fun r => r q)⟩
theorem pd_others_L {t nb Q b : Nat} {L : List Nat} {z : kc_S} (h8 : nb ≤ 8) (hb : b < nb) (hok : ∀ k, k < nb → kd_ok (z.1 (t + 2) k)) : ∀ (j n i : Nat), i + j = nb → j < n →
    pC_isTooSoonForOthers_L2 t nb Q L n (nI b) (nI i) z = some (kd_b (∃ k, i ≤ k ∧ k < nb ∧ k ≠ b ∧ kd_er (z.1 t 3) (z.1 (t + 2) k) (z.1 1 7)), z) := by
  intro j
  induction j with
  | zero =>
    intro n i hi hn
    obtain ⟨n, rfl⟩ : ∃ q, n = q + 1 := ⟨n - 1, by omega⟩
    rw [pC_isTooSoonForOthers_L2, kb_brt (nI_le (by omega) (by omega)), kd_bf (fun ⟨k, a, b, _⟩ => by omega)]
  | succ j ih =>
    intro n i hi hn
    obtain ⟨n, rfl⟩ : ∃ q, n = q + 1 := ⟨n - 1, by omega⟩
    rw [pC_isTooSoonForOthers_L2, kb_brf (nI_ge (by omega) (by omega)), nI_1]
    by_cases hib : i = b
    · rw [kb_brt (by rw [hib]), ih n (i + 1) (by omega) (by omega)]
      congr 3
      refine propext ⟨fun ⟨k, a1, a2, a3, a4⟩ => ⟨k, by omega, a2, a3, a4⟩, fun ⟨k, a1, a2, a3, a4⟩ => ⟨k, by omega, a2, a3, a4⟩⟩
    · rw [kb_brf (fun q => hib ((nI_eq (by omega) (by omega)).mp q)), kb_ckt (vp_in_nI (by omega) (by omega)), kd_ix rfl (by omega), pd_soon (show (7 : Int32) = nI 7 from rfl) (by decide) (hok i (by omega)), kd_cl, kd_br0]
      by_cases hE : kd_er (z.1 t 3) (z.1 (t + 2) i) (z.1 1 7)
      · rw [kb_brt hE, kd_bt ⟨i, Nat.le_refl _, by omega, hib, hE⟩]
      · rw [kb_brf hE, ih n (i + 1) (by omega) (by omega)]
        congr 3
        refine propext ⟨fun ⟨k, a1, a2, a3, a4⟩ => ⟨k, by omega, a2, a3, a4⟩, fun ⟨k, a1, a2, a3, a4⟩ => ⟨k, ?_, a2, a3, a4⟩⟩
        by_cases hk : k = i
        · exact absurd (hk ▸ a4) hE
        · omega
theorem pd_copen {t nb Q b nx : Nat} {L : List Nat} {z : kc_S} (h8 : nb ≤ 8) (hb : b < nb) (hr : ∀ k, k < nb → kd_ok (z.1 (t + 1) k)) (ho : ∀ k, k < nb → kd_ok (z.1 (t + 2) k)) (hc : ∀ k, k < nb → kd_ok (z.1 (t + 3) k)) (hnx : z.1 t 0 = nI nx) (hnx4 : nx < 4) (h4 : kd_ok (z.1 (t + 6) nx)) (hrf : kd_ok (z.1 t 2)) :
    pC_brokenByOpen t nb Q L (nI b) z = some (sp_open nb b (z.1 (t + 1)) (z.1 (t + 2)) (z.1 (t + 3)) (z.1 (t + 6) nx) (z.1 t 2) (z.1 t 3) (z.1 1), z) := by
  unfold pC_brokenByOpen sp_open
  have hin : vp_in (nI b) nb := vp_in_nI hb (by omega)
  rw [kb_ckt hin, kd_ix rfl (by omega)]
  have e0 := kd_okn (hr b hb)
  by_cases h : z.1 (t + 1) b < 0
  · rw [kb_brt (e0.mpr h), kd_ift h]
    rw [kb_ckt hin, pd_soon (show (1 : Int32) = nI 1 from rfl) (by decide) (hc b hb), kd_cl, kd_br0]
    refine kd_br_if rfl ?_
    rw [kb_ckt hin, pd_soon (show (3 : Int32) = nI 3 from rfl) (by decide) (ho b hb), kd_cl, kd_br0]
    refine kd_br_if rfl ?_
    unfold pC_isTooSoonForOthers
    rw [show (0 : Int32) = nI 0 from rfl, pd_others_L h8 hb ho nb 3000 0 (by omega) (by omega), kd_cl, show nI 0 = (0 : Int32) from rfl, kd_br0]
    have e3 : (∃ k, 0 ≤ k ∧ k < nb ∧ k ≠ b ∧ kd_er (z.1 t 3) (z.1 (t + 2) k) (z.1 1 7)) ↔ (∃ k, k < nb ∧ k ≠ b ∧ kd_er (z.1 t 3) (z.1 (t + 2) k) (z.1 1 7)) := ⟨fun ⟨k, _, h⟩ => ⟨k, h⟩, fun ⟨k, h⟩ => ⟨k, Nat.zero_le _, h⟩⟩
    rw [kd_ifc e3.symm rfl]
    refine kd_br_if rfl ?_
    rw [hnx, kb_ckt (vp_in_nI hnx4 (by decide)), kd_ix rfl (by omega), pd_soon (show (8 : Int32) = nI 8 from rfl) (by decide) h4, kd_cl, kd_br0]
    refine kd_br_if rfl ?_
    rw [pd_soon (show (9 : Int32) = nI 9 from rfl) (by decide) hrf, kd_cl, kd_br0]
    exact kd_br_if rfl rfl
  · rw [kb_brf (fun q => h (e0.mp q)), kd_iff h]
theorem pd_cclose {t nb Q b : Nat} {L : List Nat} {z : kc_S} (h8 : nb ≤ 8) (hb : b < nb) (hr : ∀ k, k < nb → kd_ok (z.1 (t + 1) k)) (ho : ∀ k, k < nb → kd_ok (z.1 (t + 2) k)) (hd : ∀ k, k < nb → kd_ok (z.1 (t + 4) k)) (hw : ∀ k, k < nb → kd_ok (z.1 (t + 5) k)) :
    pC_brokenByClose t nb Q L (nI b) z = some (sp_close b (z.1 (t + 1)) (z.1 (t + 2)) (z.1 (t + 4)) (z.1 (t + 5)) (z.1 t 3) (z.1 1), z) := by
  unfold pC_brokenByClose sp_close
  have hin : vp_in (nI b) nb := vp_in_nI hb (by omega)
  rw [kb_ckt hin, kd_ix rfl (by omega)]
  have e0 := kd_okn (hr b hb)
  by_cases h : z.1 (t + 1) b < 0
  · rw [kb_brt (e0.mpr h), kd_ift h]
  · rw [kb_brf (fun q => h (e0.mp q)), kd_iff h]
    rw [kb_ckt hin, pd_soon (show (2 : Int32) = nI 2 from rfl) (by decide) (ho b hb), kd_cl, kd_br0]
    refine kd_br_if rfl ?_
    rw [kb_ckt hin, pd_soon (show (4 : Int32) = nI 4 from rfl) (by decide) (hw b hb), kd_cl, kd_br0]
    refine kd_br_if rfl ?_
    rw [kb_ckt hin, pd_soon (show (5 : Int32) = nI 5 from rfl) (by decide) (hd b hb), kd_cl, kd_br0]
    exact kd_br_if rfl rfl
theorem pd_cuse {t nb Q b : Nat} {L : List Nat} {z : kc_S} {row : Int32} (h8 : nb ≤ 8) (hb : b < nb) (ho : ∀ k, k < nb → kd_ok (z.1 (t + 2) k)) (hla : kd_ok (z.1 t 1)) :
    pC_brokenByAccess t nb Q L (nI b) row z = some (sp_use b row (z.1 (t + 1)) (z.1 (t + 2)) (z.1 t 1) (z.1 t 3) (z.1 1), z) := by
  unfold pC_brokenByAccess sp_use
  have hin : vp_in (nI b) nb := vp_in_nI hb (by omega)
  rw [kb_ckt hin, kd_ix rfl (by omega)]
  refine kd_br_if ?_ rfl
  rw [kb_ckt hin, pd_soon (show (0 : Int32) = nI 0 from rfl) (by decide) (ho b hb), kd_cl, kd_br0]
  refine kd_br_if rfl ?_
  rw [pd_soon (show (6 : Int32) = nI 6 from rfl) (by decide) hla, kd_cl, kd_br0]
  exact kd_br_if rfl rfl
theorem pd_cref_L2 {t nb Q : Nat} {L : List Nat} {z : kc_S} (h8 : nb ≤ 8) (hc : ∀ k, k < nb → kd_ok (z.1 (t + 3) k)) (hrf : kd_ok (z.1 t 2)) : ∀ (j n i : Nat), i + j = nb → j < n →
    pC_brokenByRefresh_L32 t nb Q L n (nI i) z = some (kd_if (∃ k, i ≤ k ∧ k < nb ∧ kd_er (z.1 t 3) (z.1 (t + 3) k) (z.1 1 1)) 15 (kd_if (kd_er (z.1 t 3) (z.1 t 2) (z.1 1 9)) 16 0), z) := by
  intro j
  induction j with
  | zero =>
    intro n i hi hn
    obtain ⟨n, rfl⟩ : ∃ q, n = q + 1 := ⟨n - 1, by omega⟩
    rw [pC_brokenByRefresh_L32, kb_brt (nI_le (by omega) (by omega)), pd_soon (show (9 : Int32) = nI 9 from rfl) (by decide) hrf, kd_cl, kd_br0, kd_iff (P := ∃ k, i ≤ k ∧ k < nb ∧ kd_er (z.1 t 3) (z.1 (t + 3) k) (z.1 1 1)) (fun ⟨k, a, b, _⟩ => by omega)]
    exact kd_br_if rfl rfl
  | succ j ih =>
    intro n i hi hn
    obtain ⟨n, rfl⟩ : ∃ q, n = q + 1 := ⟨n - 1, by omega⟩
    rw [pC_brokenByRefresh_L32, kb_brf (nI_ge (by omega) (by omega)), nI_1, kb_ckt (vp_in_nI (by omega) (by omega)), kd_ix rfl (by omega), pd_soon (show (1 : Int32) = nI 1 from rfl) (by decide) (hc i (by omega)), kd_cl, kd_br0]
    by_cases hE : kd_er (z.1 t 3) (z.1 (t + 3) i) (z.1 1 1)
    · rw [kb_brt hE, kd_ift (P := ∃ k, i ≤ k ∧ k < nb ∧ kd_er (z.1 t 3) (z.1 (t + 3) k) (z.1 1 1)) ⟨i, Nat.le_refl _, by omega, hE⟩]
    · rw [kb_brf hE, ih n (i + 1) (by omega) (by omega)]
      refine congrArg (fun q => some (q, z)) (kd_ifc ⟨fun ⟨k, a1, a2, a3⟩ => ⟨k, by omega, a2, a3⟩, fun ⟨k, a1, a2, a3⟩ => ⟨k, ?_, a2, a3⟩⟩ rfl)
      by_cases hk : k = i
      · exact absurd (hk ▸ a3) hE
      · omega
theorem pd_cref_L1 {t nb Q : Nat} {L : List Nat} {z : kc_S} (h8 : nb ≤ 8) (hr : ∀ k, k < nb → kd_ok (z.1 (t + 1) k)) (hc : ∀ k, k < nb → kd_ok (z.1 (t + 3) k)) (hrf : kd_ok (z.1 t 2)) : ∀ (j n i : Nat), i + j = nb → j < n →
    pC_brokenByRefresh_L2 t nb Q L n (nI i) z = some (kd_if (∃ k, i ≤ k ∧ k < nb ∧ ¬ z.1 (t + 1) k < 0) 14 (kd_if (∃ k, 0 ≤ k ∧ k < nb ∧ kd_er (z.1 t 3) (z.1 (t + 3) k) (z.1 1 1)) 15 (kd_if (kd_er (z.1 t 3) (z.1 t 2) (z.1 1 9)) 16 0)), z) := by
  intro j
  induction j with
  | zero =>
    intro n i hi hn
    obtain ⟨n, rfl⟩ : ∃ q, n = q + 1 := ⟨n - 1, by omega⟩
    rw [pC_brokenByRefresh_L2, kb_brt (nI_le (by omega) (by omega)), kd_iff (P := ∃ k, i ≤ k ∧ k < nb ∧ ¬ z.1 (t + 1) k < 0) (fun ⟨k, a, b, _⟩ => by omega)]
    exact pd_cref_L2 h8 hc hrf nb 3000 0 (by omega) (by omega)
  | succ j ih =>
    intro n i hi hn
    obtain ⟨n, rfl⟩ : ∃ q, n = q + 1 := ⟨n - 1, by omega⟩
    have e0 := kd_okn (hr i (by omega))
    rw [pC_brokenByRefresh_L2, kb_brf (nI_ge (by omega) (by omega)), nI_1, kb_ckt (vp_in_nI (by omega) (by omega)), kd_ix rfl (by omega)]
    by_cases hE : z.1 (t + 1) i < 0
    · rw [kb_brt (e0.mpr hE), ih n (i + 1) (by omega) (by omega)]
      refine congrArg (fun q => some (q, z)) (kd_ifc ⟨fun ⟨k, a1, a2, a3⟩ => ⟨k, by omega, a2, a3⟩, fun ⟨k, a1, a2, a3⟩ => ⟨k, ?_, a2, a3⟩⟩ rfl)
      by_cases hk : k = i
      · exact absurd (hk ▸ hE) a3
      · omega
    · rw [kb_brf (fun q => hE (e0.mp q)), kd_ift (P := ∃ k, i ≤ k ∧ k < nb ∧ ¬ z.1 (t + 1) k < 0) ⟨i, Nat.le_refl _, by omega, hE⟩]
theorem pd_cref {t nb Q : Nat} {L : List Nat} {z : kc_S} (h8 : nb ≤ 8) (hr : ∀ k, k < nb → kd_ok (z.1 (t + 1) k)) (hc : ∀ k, k < nb → kd_ok (z.1 (t + 3) k)) (hrf : kd_ok (z.1 t 2)) :
    pC_brokenByRefresh t nb Q L z = some (sp_refresh nb (z.1 (t + 1)) (z.1 (t + 3)) (z.1 t 2) (z.1 t 3) (z.1 1), z) := by
  unfold pC_brokenByRefresh sp_refresh
  have h := pd_cref_L1 (L := L) (Q := Q) h8 hr hc hrf nb 3000 0 (by omega) (by omega)
  refine h.trans ?_
  have e3 : ∀ B : Nat → Prop, (∃ k, 0 ≤ k ∧ k < nb ∧ B k) ↔ ∃ k, k < nb ∧ B k := fun B => ⟨fun ⟨k, _, a, b⟩ => ⟨k, a, b⟩, fun ⟨k, a, b⟩ => ⟨k, Nat.zero_le _, a, b⟩⟩
  rw [kd_ifc (e3 (fun k => ¬ z.1 (t + 1) k < 0)) (kd_ifc (e3 (fun k => kd_er (z.1 t 3) (z.1 (t + 3) k) (z.1 1 1))) rfl)]
end
section
/-! pure layer 2: the searches over the waiting ones -/
theorem kd_b01 (P : Prop) : kd_b P = 0 ∨ kd_b P = 1 := by
  by_cases h : P
  · exact Or.inr (kd_bt h)
  · exact Or.inl (kd_bf h)
theorem kd_bc {P P' : Prop} (h : P ↔ P') : kd_b P = kd_b P' := by rw [propext h]
/-- one step of a search upward -/
theorem kd_ex {i e : Nat} {B : Nat → Prop} (A : Prop) (hi : i < e) : ((A ∨ B i) ∨ ∃ k, i + 1 ≤ k ∧ k < e ∧ B k) ↔ (A ∨ ∃ k, i ≤ k ∧ k < e ∧ B k) := by
  constructor
  · rintro ((h | h) | ⟨k, h1, h2, h3⟩)
    · exact Or.inl h
    · exact Or.inr ⟨i, Nat.le_refl _, hi, h⟩
    · exact Or.inr ⟨k, by omega, h2, h3⟩
  · rintro (h | ⟨k, h1, h2, h3⟩)
    · exact Or.inl (Or.inl h)
    · by_cases hk : k = i
      · subst hk; exact Or.inl (Or.inr h3)
      · exact Or.inr ⟨k, by omega, h2, h3⟩
theorem kd_ex0 {i e : Nat} {B : Nat → Prop} (A : Prop) (hi : e ≤ i) : (A ∨ ∃ k, i ≤ k ∧ k < e ∧ B k) ↔ A := ⟨fun h => h.elim id (fun ⟨k, a, b, _⟩ => by omega), Or.inl⟩
theorem kd_exF {e : Nat} {B : Nat → Prop} : (False ∨ ∃ k, 0 ≤ k ∧ k < e ∧ B k) ↔ ∃ k, k < e ∧ B k := ⟨fun h => h.elim (fun q => q.elim) (fun ⟨k, _, a, b⟩ => ⟨k, a, b⟩), fun ⟨k, a, b⟩ => Or.inr ⟨k, Nat.zero_le _, a, b⟩⟩
theorem pd_elder_L {z : kb_S} {c : Nat} (hc : c < 12) : ∀ (j n i : Nat) (P : Prop), i + j = c → j < n →
    pM_hasElder_L4 n (nI c) (kd_b P) (nI i) z = some (kd_b (P ∨ ∃ k, i ≤ k ∧ k < c ∧ (z 12 k = z 12 c ∧ z 13 k = z 13 c ∧ z 14 k = z 14 c)), z) := by
  intro j
  induction j with
  | zero =>
    intro n i P hi hn
    obtain ⟨n, rfl⟩ : ∃ q, n = q + 1 := ⟨n - 1, by omega⟩
    rw [pM_hasElder_L4, kb_brt (nI_le (by omega) (by omega)), kb_ckt (kd_b01 P), kd_bc (kd_ex0 P (by omega))]
  | succ j ih =>
    intro n i P hi hn
    obtain ⟨n, rfl⟩ : ∃ q, n = q + 1 := ⟨n - 1, by omega⟩
    have hi2 : vp_in (nI i) 12 := vp_in_nI (by omega) (by decide)
    have hc2 : vp_in (nI c) 12 := vp_in_nI hc (by decide)
    have key : pM_hasElder_L4 (n + 1) (nI c) (kd_b P) (nI i) z = pM_hasElder_L4 n (nI c) (kd_b (P ∨ (z 12 i = z 12 c ∧ z 13 i = z 13 c ∧ z 14 i = z 14 c))) (nI (i + 1)) z := by
      rw [pM_hasElder_L4, kb_brf (nI_ge (by omega) (by omega)), kd_br0]
      simp only [kb_ckt hi2, kb_ckt hc2, nI_1, kd_ix (rfl : nI i = nI i) (by omega : i < 2 ^ 31), kd_ix (rfl : nI c = nI c) (by omega : c < 2 ^ 31)]
      by_cases hP : P
      · rw [kb_brt hP, kd_bt (Or.inl hP)]
      · rw [kb_brf hP]
        by_cases h1 : z 12 i = z 12 c
        · rw [kb_brt h1]
          by_cases h2 : z 13 i = z 13 c
          · rw [kb_brt h2]
            by_cases h3 : z 14 i = z 14 c
            · rw [kb_brt h3, kd_bt (Or.inr ⟨h1, h2, h3⟩)]
            · rw [kb_brf h3, kd_bf (fun h => h.elim hP (fun q => h3 q.2.2))]
          · rw [kb_brf h2, kd_bf (fun h => h.elim hP (fun q => h2 q.2.1))]
        · rw [kb_brf h1, kd_bf (fun h => h.elim hP (fun q => h1 q.1))]
    rw [key, ih n (i + 1) _ (by omega) (by omega), kd_bc (kd_ex (B := fun k => z 12 k = z 12 c ∧ z 13 k = z 13 c ∧ z 14 k = z 14 c) P (by omega))]
theorem pd_elder {z : kb_S} {c : Nat} (hc : c < 12) : pM_hasElder (nI c) z = some (kd_b (∃ k, k < c ∧ (z 12 k = z 12 c ∧ z 13 k = z 13 c ∧ z 14 k = z 14 c)), z) := by
  unfold pM_hasElder
  have h := pd_elder_L (z := z) hc c 3000 0 False (by omega) (by omega)
  rw [kd_bf (fun q : False => q), kd_bc kd_exF] at h
  exact h
theorem pd_asks_L {z : kb_S} {c : Nat} {b row : Int32} (hc : c ≤ 12) : ∀ (j n i : Nat) (P : Prop), i + j = c → j < n →
    pM_asks_L6 n (nI c) b row (kd_b P) (nI i) z = some (kd_b (P ∨ ∃ k, i ≤ k ∧ k < c ∧ (z 12 k = b ∧ (row < 0 ∨ z 13 k = row))), z) := by
  intro j
  induction j with
  | zero =>
    intro n i P hi hn
    obtain ⟨n, rfl⟩ : ∃ q, n = q + 1 := ⟨n - 1, by omega⟩
    rw [pM_asks_L6, kb_brt (nI_le (by omega) (by omega)), kb_ckt (kd_b01 P), kd_bc (kd_ex0 P (by omega))]
  | succ j ih =>
    intro n i P hi hn
    obtain ⟨n, rfl⟩ : ∃ q, n = q + 1 := ⟨n - 1, by omega⟩
    have hi2 : vp_in (nI i) 12 := vp_in_nI (by omega) (by decide)
    have key : pM_asks_L6 (n + 1) (nI c) b row (kd_b P) (nI i) z = pM_asks_L6 n (nI c) b row (kd_b (P ∨ (z 12 i = b ∧ (row < 0 ∨ z 13 i = row)))) (nI (i + 1)) z := by
      rw [pM_asks_L6, kb_brf (nI_ge (by omega) (by omega)), kd_br0]
      simp only [kb_ckt hi2, nI_1, kd_ix (rfl : nI i = nI i) (by omega : i < 2 ^ 31)]
      by_cases hP : P
      · rw [kb_brt hP, kd_bt (Or.inl hP)]
      · rw [kb_brf hP]
        by_cases h1 : z 12 i = b
        · rw [kb_brt h1]
          by_cases h2 : row < 0
          · rw [kb_brt h2, kd_bt (Or.inr ⟨h1, Or.inl h2⟩)]
          · rw [kb_brf h2]
            by_cases h3 : z 13 i = row
            · rw [kb_brt h3, kd_bt (Or.inr ⟨h1, Or.inr h3⟩)]
            · rw [kb_brf h3, kd_bf (fun h => h.elim hP (fun q => q.2.elim h2 h3))]
        · rw [kb_brf h1, kd_bf (fun h => h.elim hP (fun q => h1 q.1))]
    rw [key, ih n (i + 1) _ (by omega) (by omega), kd_bc (kd_ex (B := fun k => z 12 k = b ∧ (row < 0 ∨ z 13 k = row)) P (by omega))]
theorem pd_asks {z : kb_S} {c : Nat} {b row : Int32} (hc : c ≤ 12) : pM_asks (nI c) b row z = some (kd_b (∃ k, k < c ∧ (z 12 k = b ∧ (row < 0 ∨ z 13 k = row))), z) := by
  unfold pM_asks
  have h := pd_asks_L (z := z) (b := b) (row := row) hc c 3000 0 False (by omega) (by omega)
  rw [kd_bf (fun q : False => q), kd_bc kd_exF] at h
  exact h
/-- a search that answers 1 at the first that is found -/
theorem kd_ex1 {i e : Nat} {B : Nat → Prop} (hi : i < e) (hB : ¬ B i) : (∃ k, i + 1 ≤ k ∧ k < e ∧ B k) ↔ (∃ k, i ≤ k ∧ k < e ∧ B k) := by
  constructor
  · rintro ⟨k, h1, h2, h3⟩
    exact ⟨k, by omega, h2, h3⟩
  · rintro ⟨k, h1, h2, h3⟩
    by_cases hk : k = i
    · exact absurd (hk ▸ h3) hB
    · exact ⟨k, by omega, h2, h3⟩
theorem kd_exz {e : Nat} {B : Nat → Prop} : (∃ k, 0 ≤ k ∧ k < e ∧ B k) ↔ ∃ k, k < e ∧ B k := ⟨fun ⟨k, _, a, b⟩ => ⟨k, a, b⟩, fun ⟨k, a, b⟩ => ⟨k, Nat.zero_le _, a, b⟩⟩
theorem pd_word_L {nb Q c : Nat} {L : List Nat} {z : kc_S} (hQ : Q ≤ 12) (hc : c < Q) (hL : ∀ i, i < Q → z.2.1 i ∈ L) : ∀ (j n i : Nat), i + j = c → j < n →
    pB_hasOlderForWord_L2 nb Q L n (nI c) (nI i) z = some (kd_b (∃ k, i ≤ k ∧ k < c ∧ z.2.2 (z.2.1 k) 3 = z.2.2 (z.2.1 c) 3), z) := by
  intro j
  induction j with
  | zero =>
    intro n i hi hn
    obtain ⟨n, rfl⟩ : ∃ q, n = q + 1 := ⟨n - 1, by omega⟩
    rw [pB_hasOlderForWord_L2, kb_brt (nI_le (by omega) (by omega)), kd_bf (fun ⟨k, a, b, _⟩ => by omega)]
  | succ j ih =>
    intro n i hi hn
    obtain ⟨n, rfl⟩ : ∃ q, n = q + 1 := ⟨n - 1, by omega⟩
    rw [pB_hasOlderForWord_L2, kb_brf (nI_ge (by omega) (by omega))]
    simp only [kb_ckt (vp_in_nI (by omega : i < Q) (by omega : Q < 2 ^ 31)), kb_ckt (vp_in_nI hc (by omega : Q < 2 ^ 31)), nI_1, kd_ix (rfl : nI i = nI i) (by omega : i < 2 ^ 31), kd_ix (rfl : nI c = nI c) (by omega : c < 2 ^ 31), kb_ckt (hL i (by omega)), kb_ckt (hL c hc)]
    by_cases hE : z.2.2 (z.2.1 i) 3 = z.2.2 (z.2.1 c) 3
    · rw [kb_brt hE, kd_bt ⟨i, Nat.le_refl _, by omega, hE⟩]
    · rw [kb_brf hE, ih n (i + 1) (by omega) (by omega), kd_bc (kd_ex1 (by omega) hE)]
theorem pd_word {nb Q c : Nat} {L : List Nat} {z : kc_S} (hQ : Q ≤ 12) (hc : c < Q) (hL : ∀ i, i < Q → z.2.1 i ∈ L) : pB_hasOlderForWord nb Q L (nI c) z = some (kd_b (∃ k, k < c ∧ z.2.2 (z.2.1 k) 3 = z.2.2 (z.2.1 c) 3), z) := by
  unfold pB_hasOlderForWord
  have h := pd_word_L (nb := nb) hQ hc hL c 3000 0 (by omega) (by omega)
  rw [kd_bc kd_exz] at h
  exact h
theorem pd_bank_L {nb Q c : Nat} {L : List Nat} {z : kc_S} (hQ : Q ≤ 12) (hc : c < Q) (hL : ∀ i, i < Q → z.2.1 i ∈ L) : ∀ (j n i : Nat), i + j = c → j < n →
    pB_hasOlderForBank_L2 nb Q L n (nI c) (nI i) z = some (kd_b (∃ k, i ≤ k ∧ k < c ∧ z.2.2 (z.2.1 k) 1 = z.2.2 (z.2.1 c) 1), z) := by
  intro j
  induction j with
  | zero =>
    intro n i hi hn
    obtain ⟨n, rfl⟩ : ∃ q, n = q + 1 := ⟨n - 1, by omega⟩
    rw [pB_hasOlderForBank_L2, kb_brt (nI_le (by omega) (by omega)), kd_bf (fun ⟨k, a, b, _⟩ => by omega)]
  | succ j ih =>
    intro n i hi hn
    obtain ⟨n, rfl⟩ : ∃ q, n = q + 1 := ⟨n - 1, by omega⟩
    rw [pB_hasOlderForBank_L2, kb_brf (nI_ge (by omega) (by omega))]
    simp only [kb_ckt (vp_in_nI (by omega : i < Q) (by omega : Q < 2 ^ 31)), kb_ckt (vp_in_nI hc (by omega : Q < 2 ^ 31)), nI_1, kd_ix (rfl : nI i = nI i) (by omega : i < 2 ^ 31), kd_ix (rfl : nI c = nI c) (by omega : c < 2 ^ 31), kb_ckt (hL i (by omega)), kb_ckt (hL c hc)]
    by_cases hE : z.2.2 (z.2.1 i) 1 = z.2.2 (z.2.1 c) 1
    · rw [kb_brt hE, kd_bt ⟨i, Nat.le_refl _, by omega, hE⟩]
    · rw [kb_brf hE, ih n (i + 1) (by omega) (by omega), kd_bc (kd_ex1 (by omega) hE)]
theorem pd_bank {nb Q c : Nat} {L : List Nat} {z : kc_S} (hQ : Q ≤ 12) (hc : c < Q) (hL : ∀ i, i < Q → z.2.1 i ∈ L) : pB_hasOlderForBank nb Q L (nI c) z = some (kd_b (∃ k, k < c ∧ z.2.2 (z.2.1 k) 1 = z.2.2 (z.2.1 c) 1), z) := by
  unfold pB_hasOlderForBank
  have h := pd_bank_L (nb := nb) hQ hc hL c 3000 0 (by omega) (by omega)
  rw [kd_bc kd_exz] at h
  exact h
theorem pd_want_L {nb Q c : Nat} {L : List Nat} {z : kc_S} {b row : Int32} (hQ : Q ≤ 12) (hc : c ≤ Q) (hL : ∀ i, i < Q → z.2.1 i ∈ L) : ∀ (j n i : Nat), i + j = c → j < n →
    pB_isWanted_L3 nb Q L n b row (nI c) (nI i) z = some (kd_b (∃ k, i ≤ k ∧ k < c ∧ (z.2.2 (z.2.1 k) 1 = b ∧ z.2.2 (z.2.1 k) 2 = row)), z) := by
  intro j
  induction j with
  | zero =>
    intro n i hi hn
    obtain ⟨n, rfl⟩ : ∃ q, n = q + 1 := ⟨n - 1, by omega⟩
    rw [pB_isWanted_L3, kb_brt (nI_le (by omega) (by omega)), kd_bf (fun ⟨k, a, b, _⟩ => by omega)]
  | succ j ih =>
    intro n i hi hn
    obtain ⟨n, rfl⟩ : ∃ q, n = q + 1 := ⟨n - 1, by omega⟩
    rw [pB_isWanted_L3, kb_brf (nI_ge (by omega) (by omega))]
    simp only [kb_ckt (vp_in_nI (by omega : i < Q) (by omega : Q < 2 ^ 31)), nI_1, kd_ix (rfl : nI i = nI i) (by omega : i < 2 ^ 31), kb_ckt (hL i (by omega))]
    by_cases h1 : z.2.2 (z.2.1 i) 1 = b
    · rw [kb_brt h1]
      by_cases h2 : z.2.2 (z.2.1 i) 2 = row
      · rw [kb_brt h2, kd_bt ⟨i, Nat.le_refl _, by omega, h1, h2⟩]
      · rw [kb_brf h2, ih n (i + 1) (by omega) (by omega), kd_bc (kd_ex1 (by omega) (fun q => h2 q.2))]
    · rw [kb_brf h1, ih n (i + 1) (by omega) (by omega), kd_bc (kd_ex1 (by omega) (fun q => h1 q.1))]
theorem pd_want {nb Q c : Nat} {L : List Nat} {z : kc_S} {b row : Int32} (hQ : Q ≤ 12) (hc : c ≤ Q) (hL : ∀ i, i < Q → z.2.1 i ∈ L) : pB_isWanted nb Q L b row (nI c) z = some (kd_b (∃ k, k < c ∧ (z.2.2 (z.2.1 k) 1 = b ∧ z.2.2 (z.2.1 k) 2 = row)), z) := by
  unfold pB_isWanted
  have h := pd_want_L (nb := nb) (b := b) (row := row) hQ hc hL c 3000 0 (by omega) (by omega)
  rw [kd_bc kd_exz] at h
  exact h
end
section
/-! my own layer: what is thrown (launches without stack traces): the search through a table whose classes may be cold, a call that throws, a throw, a catch -/
section KTA
theorem kt_go {Q : Handler → Pre} {E : CtlPost} {e : Env} {d : Bool} {acts : List Action} {S : State} {f : JFrame} {a : Addr} {x : ExceptionTableEntry} {t : List ExceptionTableEntry} {c : ClassId} {cell : Cell}
    (hx : covers x f.pc = true) (h0 : x.catchType ≠ 0) (hl : S.vm.ClassLinks e.platform f.method.cls x.catchType c) (hcell : S.heap[a]? = some cell) (hobj : ∀ k, cell.vm ≠ .statics k)
    (hk : ∃ k, S.vm.classes[cell.cls]? = some k) (hc : ∃ k, S.vm.classes[c]? = some k) :
    wp (findHandler.go f a (x :: t)) Q E e d acts S ↔ if S.vm.assignable cell.cls c = true then Q (.found x.handlerPc) d acts (S.setVm (S.vm.noted f.method.cls x.catchType (.cls c))) else wp (findHandler.go f a t) Q E e d acts (S.setVm (S.vm.noted f.method.cls x.catchType (.cls c))) := by
  simp only [covers] at hx
  obtain ⟨ha, ht⟩ := (resolveClass_links e.toSetting hl).op (op := VmOp.resolveClass f.method.cls x.catchType) rfl
  have hal : S.vm.Alike (S.vm.noted f.method.cls x.catchType (.cls c)) := (Vm.Alike.refl S.vm).noted _ _ _
  obtain ⟨k1, hk1⟩ := hk
  obtain ⟨k2, hk2⟩ := hc
  obtain ⟨k3, hk3, -⟩ := hal.2.2 _ _ hk1
  obtain ⟨k4, hk4, -⟩ := hal.2.2 _ _ hk2
  have hb : (S.vm.noted f.method.cls x.catchType (.cls c)).assignable cell.cls c = S.vm.assignable cell.cls c := by rw [hal.assignable]
  cases hfit : S.vm.assignable cell.cls c <;> rw [hfit] at hb <;> simp [findHandler.go, hx, h0, ha, ht, hcell, hobj, hk3, hk4, hb, VmOp.dirties, VmOp.acts]
/-- the row of the table that takes an object of the kind th, thrown at pc -/
def kt_hit (pl : Platform) (s0 : State) (d : ClassId) (pc : Nat) (th : ClassId) : List ExceptionTableEntry → Nat → Prop
  | [], _ => False
  | x :: t, h => (covers x pc = false ∧ kt_hit pl s0 d pc th t h) ∨ (covers x pc = true ∧ x.catchType ≠ 0 ∧ ∃ c, s0.vm.ClassLinks pl d x.catchType c ∧ ((s0.vm.assignable th c = true ∧ h = x.handlerPc) ∨ (s0.vm.assignable th c = false ∧ kt_hit pl s0 d pc th t h)))
theorem kt_search {e : Env} {s0 : State} {f : JFrame} {a : Addr} {cell : Cell} {h : Nat} (hobj : ∀ k, cell.vm ≠ .statics k) (hk0 : ∃ k, s0.vm.classes[cell.cls]? = some k) : ∀ (tbl : List ExceptionTableEntry) (S : State), s0.WarmedH S.vm → S.heap[a]? = some cell → kt_hit e.platform s0 f.method.cls f.pc cell.cls tbl h →
    ∃ vm', s0.WarmedH vm' ∧ ∀ (Q : Handler → Pre) (E : CtlPost) (d : Bool) (acts : List Action), wp (findHandler.go f a tbl) Q E e d acts S ↔ Q (.found h) d acts (S.setVm vm') := by
  obtain ⟨k0, hk0⟩ := hk0
  intro tbl
  induction tbl with
  | nil => intro S _ _ hh; exact hh.elim
  | cons x t ih =>
    intro S hW hcell hh
    rcases hh with ⟨hx, hh⟩ | ⟨hx, h0, c, hl, hh⟩
    · obtain ⟨vm', hW', hq⟩ := ih S hW hcell hh
      exact ⟨vm', hW', fun Q E d acts => by rw [W.findHandler_go_skip hx]; exact hq Q E d acts⟩
    · obtain ⟨dk, _, _, kt, hd, _, _, _, _, hkt, _, hopen⟩ := hl.here
      obtain ⟨kt1, hkt1, -⟩ := hW.alike.2.2 _ _ hkt
      obtain ⟨k01, hk01, -⟩ := hW.alike.2.2 _ _ hk0
      have hW2 : s0.WarmedH (S.vm.noted f.method.cls x.catchType (.cls c)) := hW.noted hd hopen (State.rightAt_cls hl)
      have hg : ∀ (Q : Handler → Pre) (E : CtlPost) (d : Bool) (acts : List Action), _ := fun Q E d acts => kt_go (Q := Q) (E := E) (d := d) (acts := acts) (t := t) hx h0 (hW.classLinks hl) hcell hobj ⟨k01, hk01⟩ ⟨kt1, hkt1⟩
      rcases hh with ⟨hy, rfl⟩ | ⟨hn, hh⟩
      · have hy' : S.vm.assignable cell.cls c = true := by rw [hW.alike.assignable]; exact hy
        exact ⟨_, hW2, fun Q E d acts => by rw [hg Q E d acts, if_pos hy']⟩
      · have hn' : ¬ S.vm.assignable cell.cls c = true := by rw [hW.alike.assignable, hn]; decide
        obtain ⟨vm', hW', hq⟩ := ih (S.setVm (S.vm.noted f.method.cls x.catchType (.cls c))) hW2 hcell hh
        exact ⟨vm', hW', fun Q E d acts => by rw [hg Q E d acts, if_neg hn']; exact hq Q E d acts⟩
/-- one step: the row of the table goes on -/
theorem kt_step {e : Env} {S : State} {a : Addr} {f : JFrame} {r : List Frame} {h : Nat} {vm' : Vm} (hf : ∀ (Q : Handler → Pre) (E : CtlPost) (d : Bool) (acts : List Action), wp (findHandler f a) Q E e d acts S ↔ Q (.found h) d acts (S.setVm vm')) :
    (stepThrowing e S a (.java f :: r)).Is ((S.setVm vm').setFrames (.java { f with pc := h, stack := [.ref a] } :: r)) [] := by
  simp only [stepThrowing, searchFrame, vmDo]
  generalize hr : Sem.go _ e false [] S = res
  obtain ⟨as, rfl, ha⟩ := Sem.eq_ok_of hr (a := Handler.found h) (s' := S.setVm vm') (acts' := []) (by simp [hf _ _ _ _])
  exact ⟨rfl, ha⟩
variable {p : Program} {l : Launch} {e : Env} {R : Room} {s : State} {m : MethodId} {args : Array Value} {below : List Frame} {meth : Method} {c : Code} {T : State} {H : Heap} {locs : List Loc} {cells slots : Nat} {Q : State → Prop}
/-- the frame g, with q thrown over it -/
def kt_W (p : Program) (l : Launch) (e : Env) (R : Room) (s : State) (m : MethodId) (args : Array Value) (below : List Frame) (meth : Method) (c : Code) (H : Heap) (locs : List Loc) (cells slots : Nat) (Q : State → Prop) (g : JFrame) (q : Addr) : Prop :=
  ∀ T : State, T.heap = H → Stand p l e R s m args below meth c T locs cells slots → ∃ t, Steps p.tables e below ((T.setTop g).pushFrame (.throwing q)) t ∧ Q t
theorem kt_catch {q : Addr} {ce : Cell} {pc h : Nat} {ls : Array Slot} {st : List Value} (hcell : H[q]? = some ce) (hv : ce.vm = .none) (hk0 : ∃ k, s.vm.classes[ce.cls]? = some k) (hh : ∀ pl : Platform, pl.magicAccessors = ({} : Platform).magicAccessors → kt_hit pl s m.cls pc ce.cls c.exceptionTable.toList h)
    (kk : W p l e R s m args below meth c H locs cells slots Q (F0 m h ls [.ref q])) : kt_W p l e R s m args below meth c H locs cells slots Q (F0 m pc ls st) q := by
  intro T hT X
  have hpl : e.platform.magicAccessors = ({} : Platform).magicAccessors := by rw [X.admits.platform]
  have hobj : ∀ k, ce.vm ≠ .statics k := fun k hk => by rw [hv] at hk; cases hk
  obtain ⟨vm', hW', hq⟩ := kt_search (e := e) (s0 := s) (f := F0 m pc ls st) (a := q) (h := h) hobj hk0 c.exceptionTable.toList ((T.setTop (F0 m pc ls st)).pushFrame (.throwing q)) X.warmed (by show T.heap[q]? = some ce; rw [hT]; exact hcell) (hh e.platform hpl)
  obtain ⟨t, a1, b1⟩ := kk (T.setVm vm') hT (X.noted hW')
  refine ⟨t, ?_, b1⟩
  have h0 : At T (F0 m pc ls st).method c below := X.here
  obtain ⟨hgo, hw⟩ := h0.throwing q
  refine Steps.head hgo hw ?_
  rw [stepThread_throwing (frames_entered h0.top _), (kt_step (S := (T.setTop (F0 m pc ls st)).pushFrame (.throwing q)) (fun Q E d acts => by rw [W.findHandler_eq (meth := meth) (code := c) X.method' X.code]; exact hq Q E d acts)).1]
  obtain ⟨g₀, hg⟩ := Option.isSome_iff_exists.mp h0.top
  obtain ⟨r, hr⟩ := State.topJava?_eq_some.mp hg
  have hr' : (T.setVm vm').frames = .java g₀ :: r := hr
  rw [State.setTop_of_frames _ hr'] at a1
  have e1 : ∀ (u : State) (F G : List Frame), ((u.setFrames F).setVm vm').setFrames G = (u.setVm vm').setFrames G := fun u F G => by
    have h1 : (u.setFrames F).setVm vm' = (u.setVm vm').setFrames F := rfl
    rw [h1, State.setFrames_setFrames]
  rw [hr, List.tail_cons, State.pushFrame, e1, State.setTop_of_frames _ hr, e1]
  exact a1
/-- where a method has thrown q: its kind by name, the cell, what was written, the world -/
def kt_T (E : String) (XB : State → State → Prop) (st : State) (q : Addr) (t : State) (mc ms : Nat) (free : Addr → Prop) : Prop :=
  ∃ (ce : Cell) (L : List Loc), XB st t ∧ t.heap[q]? = some ce ∧ ce.vm = .none ∧ st.vm.findClass E = some ce.cls ∧ st.WarmedH t.vm ∧ st.sameButNew ({ t with vm := st.vm } : State) L mc ms ∧ ∀ z ∈ L, free z.base
/-- a method that throws, from this start -/
def kt_Met (l : Launch) (y : MethodName) (ws : List Cond) (rm : Room) (Pc : Array Value → State → Prop) (E : String) (XB : State → State → Prop) (mc ms : Nat) (free : Addr → Prop) : Prop :=
  MetFree l y (headSpec ws rm) Pc (fun _ _ _ _ _ => True) (fun _ st o t => ∃ q, o = .threw q ∧ kt_T E XB st q t mc ms free)
theorem kt_callV (X : Stand p l e R s m args below meth c T locs cells slots) (hexec : p.tables.exec = Jvm.exec) {own C E : String} {index mc ms maxL : Nat} {y : MethodName} {bytes : ByteArray} {ret : Option FieldType} {ws : List Cond} {rm : Room} {Pc : Array Value → State → Prop} {XB : State → State → Prop} {free : Addr → Prop}
    (hown : s.vm.findClass own = some m.cls) (hlink : (Cond.methodLink own index y).before args s = true) (hinst : (Cond.instanceMethod y).before args s = true) (hsel : (Cond.selects C y y).before args s = true) (hini : (Cond.initialized y.cls).before args s = true)
    (hy : y.cls ≠ "java/lang/invoke/MethodHandle" ∧ y.cls ≠ "java/lang/invoke/VarHandle") (hM : kt_Met l y ws rm Pc E XB mc ms free) (hbl : FrameBlind Pc) (hrm : rm.cells = mc ∧ rm.slots = ms ∧ rm.frames + 1 ≤ R.frames ∧ 8 + (maxL + 11) + rm.locals ≤ R.locals)
    (hws : ∀ w ∈ ws, ∀ (a' : Array Value) (U : State), s.WarmedH U.vm → w.before a' U = true) (hcw : Cond.code y bytes maxL ret ∈ ws)
    {b : Addr} {cellB : Cell} (hcell : T.heap[b]? = some cellB) (hobj : cellB.vm.isStatics = false) (hcls : s.vm.findClass C = some cellB.cls)
    {g : JFrame} (hg : g.method = m) (hsize : g.locals.size = c.maxLocals) {argsL rest : List Value} (hlen : ∀ sig, parseMethodDescriptor y.desc = some sig → argsL.length = sig.parameters.length)
    (hstack : g.stack = argsL.reverse ++ .ref b :: rest) (hW : 2 * g.monitorRoom + (rest.map fun v => v.category).sum ≤ 8) (hdg : decode c.code g.pc = .ok (.invokevirtual index, 3)) (hf : cells + mc ≤ R.cells ∧ slots + ms ≤ R.slots)
    (hpre : ∀ vm₁, s.WarmedH vm₁ → Pc (Value.ref b :: argsL).toArray (T.setVm vm₁)) :
    ∃ (q : Addr) (st₀ t T' : State) (L : List Loc) (ce : Cell), st₀.heap = T.heap ∧ Stand p l e R s m args below meth c T' (locs ++ L) (cells + mc) (slots + ms) ∧ (∀ z ∈ L, free z.base) ∧ T'.heap = t.heap ∧ T'.vm = t.vm ∧ XB st₀ t ∧ t.heap[q]? = some ce ∧ ce.vm = .none ∧ s.vm.findClass E = some ce.cls ∧
      Steps p.tables e below (T.setTop g) ((T'.setTop { g with stack := rest }).pushFrame (.throwing q)) := by
  obtain ⟨mk, methM, hnamed, hmethM, hstM, habM⟩ := Cond.instanceMethod_spec hinst
  have hcode : (Cond.code y bytes maxL ret).before args s = true := by
    have h9 := hws _ hcw args s (State.WarmedH.refl s)
    exact h9
  obtain ⟨methM', cM, hmethM', -, -, -, -, -, -, hsigM⟩ := Cond.code_spec hnamed hcode
  cases hmethM.symm.trans hmethM'
  obtain ⟨c2, r2, m2, q1, q2, q3, q4, kP, hkP, hkPi⟩ := Cond.selects_spec hsel
  cases hcls.symm.trans q1
  cases (State.methodFound?_of_named hnamed hy).symm.trans q2
  cases hnamed.symm.trans q3
  have hselP : selectMethod e.platform s.vm cellB.cls mk = .method mk := by rw [Launch.admits_selectMethod X.admits]; exact q4
  obtain ⟨vm₁, X₁, hstep₁⟩ := X.invokevirtual hexec hown hlink hnamed hmethM hstM hkP hkPi hy (a := b) (cell := cellB) hcell
    (fun z h => by rw [h] at hobj; cases hobj) hselP hmethM habM hkP hkPi (g := g) hg (argsL := argsL) (rest := rest) (hlen _ hsigM) hstack hdg
  obtain ⟨hrc, hrs, hframes, hlocals⟩ := hrm
  have hn := X₁.named hnamed
  have h1 : (headSpec ws rm).pre.before (Value.ref b :: argsL).toArray (T.setVm vm₁) = true := atoms_intro fun w hw => hws w hw _ _ X₁.warmed
  have h2 : (Cond.code y bytes maxL ret).before (Value.ref b :: argsL).toArray (T.setVm vm₁) = true := hws _ hcw _ _ X₁.warmed
  have h3 : (Cond.initialized y.cls).before (Value.ref b :: argsL).toArray (T.setVm vm₁) = true := word_at X₁.warmed (Or.inl (by first | rfl | simp [Cond.onTables, Cond.keeps, Cond.steady])) hini
  have h4 : cells + (headSpec ws rm).room.cells ≤ R.cells := by rw [show (headSpec ws rm).room.cells = mc from hrc]; exact hf.1
  have h5 : slots + (headSpec ws rm).room.slots ≤ R.slots := by rw [show (headSpec ws rm).room.slots = ms from hrs]; exact hf.2
  have hP0 := hpre vm₁ X₁.warmed
  generalize hU : T.setVm vm₁ = U at X₁ hstep₁ hn h1 h2 h3 hP0
  have hUh : U.heap = T.heap := by rw [← hU]; rfl
  obtain ⟨methY, cY, hmY, hcY, -, hlY, -, -, -, -⟩ := Cond.code_spec hn h2
  obtain ⟨kY, hkY, -⟩ := className_of_methodNamed hn
  have hinitY : kY.init = .initialized := Cond.initialized_spec (findClass_of_methodNamed hn) hkY h3
  have h : At U ({ g with stack := rest } : JFrame).method c below := by
    show At U g.method c below
    rw [hg]; exact X₁.here
  have hlocals9 : 8 + (maxL + 11) + (headSpec ws rm).room.locals ≤ R.locals := hlocals
  have happ : (headSpec ws rm).appliesLoose y e.platform (U.calling { g with stack := rest } mk (Value.ref b :: argsL).toArray) = true :=
    Spec.appliesLoose_calling (g := { g with stack := rest }) h hdg hn hkY hinitY
      (X₁.room_calling (g := { g with stack := rest }) (R' := (headSpec ws rm).room) hsize hmY hcY hframes (by rw [hlY]; have hW9 : 2 * ({ g with stack := rest } : JFrame).monitorRoom + (({ g with stack := rest } : JFrame).stack.map fun v => v.category).sum ≤ 8 := hW; omega) h4 h5) h1
  obtain ⟨mid, hmid⟩ := h.above
  have hfr : (U.setTop { g with stack := rest }).frames = (.java { g with stack := rest } :: mid) ++ below := by rw [State.frames_setTop' _ h.top, hmid]; rfl
  obtain ⟨o, s₂, hsteps, -, hend, hq⟩ := Steps.callFree hM p X₁.admits X₁.cas X₁.clock (acts := []) hfr happ (hbl _ _ _ _ hP0) trivial
  obtain ⟨q, rfl, ce, L, hXB, hce, hcv, hcc, hW₂, hsame⟩ := hq
  obtain ⟨⟨e2, n2, n3, n4, n5, n6⟩, hL⟩ := hsame
  rw [State.frames_setTop' _ h.top] at hend
  have hend : s₂.frames = .throwing q :: .java { g with stack := rest } :: U.frames.tail := hend
  have hW' : U.WarmedH s₂.vm := hW₂
  have e3 : s₂ = ({ (U.calling { g with stack := rest } mk (Value.ref b :: argsL).toArray).setFrames s₂.frames with heap := s₂.heap, slotsUsed := s₂.slotsUsed } : State).setVm s₂.vm := by
    have e4 : ({ s₂ with vm := (U.calling { g with stack := rest } mk (Value.ref b :: argsL).toArray).vm } : State) = ({ (U.calling { g with stack := rest } mk (Value.ref b :: argsL).toArray).setFrames s₂.frames with heap := s₂.heap, slotsUsed := s₂.slotsUsed } : State) := e2
    have e5 := congrArg (fun u : State => u.setVm s₂.vm) e4
    exact e5
  obtain ⟨g₀, hg0⟩ := Option.isSome_iff_exists.mp h.top
  obtain ⟨r, hr⟩ := State.topJava?_eq_some.mp hg0
  have hr' : (({ U with heap := s₂.heap, slotsUsed := s₂.slotsUsed } : State).setVm s₂.vm).frames = .java g₀ :: r := hr
  have hs₂ : s₂ = ((({ U with heap := s₂.heap, slotsUsed := s₂.slotsUsed } : State).setVm s₂.vm).setTop { g with stack := rest }).pushFrame (.throwing q) := by
    refine e3.trans ?_
    rw [hend, State.calling_eq h.top, State.setFrames_setFrames, State.pushFrame, State.frames_setTop _ hr', State.setTop_of_frames _ hr', State.setFrames_setFrames, hr]
    rfl
  have hsm : U.sameButNew ({ U with heap := s₂.heap, slotsUsed := s₂.slotsUsed } : State) L mc ms := by
    refine ⟨?_, n2, n3, n4, n5, n6⟩
    obtain ⟨t, ht, -⟩ := State.frames_cons hr
    show ({ U with heap := s₂.heap, slotsUsed := s₂.slotsUsed } : State) = { U.setFrames U.frames with heap := s₂.heap, slotsUsed := s₂.slotsUsed }
    rw [State.setFrames_self ht]
  subst hg
  refine ⟨q, U.calling { g with stack := rest } mk (Value.ref b :: argsL).toArray, s₂, (({ U with heap := s₂.heap, slotsUsed := s₂.slotsUsed } : State).setVm s₂.vm), L, ce, hUh, ⟨X₁.admits, X₁.cas, X₁.clock, X₁.frames, X₁.room, X₁.hears, X₁.method, X₁.code, (X₁.here.setHeapUsed s₂.heap s₂.slotsUsed).setVm hW'.alike, X₁.tail, State.WarmedH.trans X₁.warmed hW', X₁.limits, X₁.bytes, X₁.same.trans (hsm.setVm s.vm)⟩, hL, rfl, rfl, hXB, hce, hcv, ?_, ?_⟩
  · have h7 : U.vm.findClass E = some ce.cls := hcc
    rw [X₁.warmed.alike.findClass] at h7
    exact h7
  · refine hstep₁ _ fun acts => ?_
    rw [doInvoke_state]
    show Steps p.tables e below _ (((({ U with heap := s₂.heap, slotsUsed := s₂.slotsUsed } : State).setVm s₂.vm).setTop { g with stack := rest }).pushFrame (.throwing q))
    rw [← hs₂]
    exact hsteps
end KTA
section KTB
/-- a static that holds a reference, its cell outside A -/
def kt_S (O f d : String) (A : Nat → Prop) (U : State) (H : Heap) : Prop := ∃ (c : ClassId) (k : Class) (i : Nat) (fd : Field) (a : Nat) (cell : Cell) (v : Value), U.vm.findClass O = some c ∧ U.fieldFound? O f d = some (c, k, i, fd) ∧ fd.isStatic = true ∧ k.statics = some a ∧ H[a]? = some cell ∧ cell.vm.isStatics = true ∧ cell.cls = c ∧ fd.slot < cell.slots.size ∧ k.staticTypes[fd.slot]? = some fd.type ∧ cell.slots[fd.slot]? = some v ∧ v.isRef = true ∧ ¬ A a
theorem kt_S.moved {O f d : String} {A : Nat → Prop} {u U : State} {H : Heap} (hvm : u.vm.Alike U.vm) (h : kt_S O f d A u H) : kt_S O f d A U H := by
  obtain ⟨c, k, i, fd, a, cell, v, h0, h1, h2, h3, h4, h5, h6, h7, h8, h9⟩ := h
  obtain ⟨k', hi', he⟩ := State.fieldFound?_setVm hvm h1
  exact ⟨c, k', i, fd, a, cell, v, by rw [hvm.findClass]; exact h0, hi', h2, by rw [he]; exact h3, h4, h5, h6, h7, by rw [he]; exact h8, h9⟩
theorem kt_S.kept {O f d : String} {A : Nat → Prop} {U : State} {H H1 : Heap} (h : kt_S O f d A U H) (hq : ∀ a : Nat, a < H.size → ¬ A a → H1[a]? = H[a]?) : kt_S O f d A U H1 := by
  obtain ⟨c, k, i, fd, a, cell, v, h0, h1, h2, h3, h4, h5, h6, h7, h8, h9, h10, h11⟩ := h
  exact ⟨c, k, i, fd, a, cell, v, h0, h1, h2, h3, by rw [hq a (Array.getElem?_eq_some_iff.mp h4).1 h11]; exact h4, h5, h6, h7, h8, h9, h10, h11⟩
theorem kt_S.narrow {O f d : String} {A B : Nat → Prop} {U : State} {H : Heap} (h : kt_S O f d A U H) (hAB : ∀ q, B q → A q) : kt_S O f d B U H := by
  obtain ⟨c, k, i, fd, a, cell, v, h0, h1, h2, h3, h4, h5, h6, h7, h8, h9, h10, h11⟩ := h
  exact ⟨c, k, i, fd, a, cell, v, h0, h1, h2, h3, h4, h5, h6, h7, h8, h9, h10, fun q => h11 (hAB _ q)⟩
theorem kt_S.of {O f d : String} {A : Nat → Prop} {args : Array Value} {s : State} (hl : (Cond.laysStatic O f d).before args s = true) (h : (Cond.isRef (.static O f d)).before args s = true) (hA : ∀ a : Nat, a < s.heap.size → ¬ A a) : kt_S O f d A s s.heap := by
  obtain ⟨c, k, i, fd, a, cell, h0, h1, h2, h3, h4, h5, h6, h7, h8⟩ := Cond.laysStatic_spec hl
  have hv : cell.slots[fd.slot]? = some cell.slots[fd.slot] := Array.getElem?_eq_getElem h7
  have he : (Term.static O f d).eval args s none [] s = some cell.slots[fd.slot] := Term.static_eval h1 h2 h3 h4 h5 hv
  have hr : (cell.slots[fd.slot]).isRef = true := by
    simp only [Cond.before, Cond.holds, Cond.value, he] at h
    cases hw : cell.slots[fd.slot] <;> simp [hw, Value.isRef] at h ⊢
  exact ⟨c, k, i, fd, a, cell, _, h0, h1, h2, h3, h4, h5, h6, h7, h8, hv, hr, hA a (Array.getElem?_eq_some_iff.mp h4).1⟩
theorem kt_S.lays {O f d : String} {A : Nat → Prop} {args : Array Value} {s : State} (h : kt_S O f d A s s.heap) : (Cond.laysStatic O f d).before args s = true := by
  obtain ⟨c, k, i, fd, a, cell, v, h0, h1, h2, h3, h4, h5, h6, h7, h8, h9, h10, h11⟩ := h
  simp [Cond.before, Cond.holds, Cond.value, h0, h1, h2, h3, h4, h5, h6, h7, h8]
theorem kt_S.ref {O f d : String} {A : Nat → Prop} {args : Array Value} {s : State} (h : kt_S O f d A s s.heap) : (Cond.isRef (.static O f d)).before args s = true := by
  obtain ⟨c, k, i, fd, a, cell, v, h0, h1, h2, h3, h4, h5, h6, h7, h8, h9, h10, h11⟩ := h
  have he : (Term.static O f d).eval args s none [] s = some v := Term.static_eval h1 h2 h3 h4 h5 h9
  simp only [Cond.before, Cond.holds, Cond.value, he]
  cases v <;> simp [Value.isRef] at h10 ⊢
end KTB
end
section
/-! my own layer: methods that may throw, over a world -/
def kx_E : Nat → String
  | 1 => "java/lang/IndexOutOfBoundsException"
  | 2 => "java/lang/IllegalArgumentException"
  | 3 => "java/lang/IllegalStateException"
  | _ => "java/lang/UnsupportedOperationException"
def kx_cl {σ : Type} (o : Option (Nat × Int32 × σ)) (k : Int32 → σ → Option (Nat × Int32 × σ)) : Option (Nat × Int32 × σ) := match o with
  | none => none
  | some (0, r, z) => k r z
  | some (c + 1, _, z) => some (c + 1, 0, z)
theorem kx_cl_of {σ : Type} {o : Option (Nat × Int32 × σ)} {k : Int32 → σ → Option (Nat × Int32 × σ)} {out : Nat × Int32 × σ} (h : kx_cl o k = some out) : ∃ (c : Nat) (r : Int32) (z : σ), o = some (c, r, z) ∧ (c = 0 → k r z = some out) ∧ (c ≠ 0 → some (c, (0 : Int32), z) = some out) := by
  match o, h with
  | none, h => exact absurd h (by simp [kx_cl])
  | some (0, r, z), h => exact ⟨0, r, z, rfl, fun _ => h, fun q => absurd rfl q⟩
  | some (c + 1, r, z), h => exact ⟨c + 1, r, z, rfl, fun q => absurd q (by omega), fun _ => h⟩
theorem kx_0 {σ : Type} {k c : Nat} {v r : Int32} {z z' : σ} (h : some (k, v, z) = some (c, r, z')) : k = c ∧ v = r ∧ z = z' := by
  have h1 := Option.some.inj h
  exact ⟨congrArg Prod.fst h1, congrArg (fun q => q.2.1) h1, congrArg (fun q => q.2.2) h1⟩
/-- texts, tables of numbers, methods that are declared, kinds that can be cast -/
abbrev kt_X : Type := List (String × Nat × String) × List (String × String × Nat × (Nat → Int32)) × List MethodName × List (String × String)
/-- what a throw and the tables need of the start -/
def kt_U (tx : kt_X) (A : Nat → Prop) (U : State) (H : Heap) : Prop :=
  kt_S Bundle.tN "UNASSIGNED_STACK" Bundle.steD A U H ∧ kt_S Bundle.tN "SUPPRESSED_SENTINEL" Bundle.listD A U H ∧ (∀ q ∈ tx.1, ∃ sa, vk_R q.1 q.2.1 q.2.2 sa U) ∧ (∀ q ∈ tx.2.1, ∃ t, va_Z q.1 q.2.1 "[I" (.ref t) A U H ∧ va_T .int t q.2.2.1 (fun j => .int (q.2.2.2 j)) A U H) ∧ (∀ y ∈ tx.2.2.1, va_Nw (.declares y) U) ∧ ∀ q ∈ tx.2.2.2, va_Nw (.castable q.1 q.2) U
theorem kt_U.to {tx : kt_X} {A B : Nat → Prop} {s U : State} {H H1 : Heap} (h : kt_U tx A s H) (hW : s.WarmedH U.vm) (hq : ∀ a : Nat, a < H.size → ¬ A a → H1[a]? = H[a]?) (hAB : ∀ q, B q → A q) : kt_U tx B U H1 := by
  refine ⟨((h.1.moved hW.alike).kept hq).narrow hAB, ((h.2.1.moved hW.alike).kept hq).narrow hAB, fun q hm => ?_, fun q hm => ?_, fun y hy => va_Nw.warmD hW (h.2.2.2.2.1 y hy), fun q hm => va_Nw.warmC hW (h.2.2.2.2.2 q hm)⟩
  · obtain ⟨sa, hs⟩ := h.2.2.1 q hm
    exact ⟨sa, vk_R.warm hW hs⟩
  · obtain ⟨t, h1, h2⟩ := h.2.2.2.1 q hm
    exact ⟨t, (va_Z.kept (va_Z.moved hW.alike h1) hq).narrow hAB, (va_T.kept (va_T.moved hW.alike h2) hq).narrow hAB⟩
def kt_Pc (tx : kt_X) (D : va_G) (cl : List vw_C) (tys : List (ClassId × FieldType)) (sz : Nat) (av : List Value) (ws : va_W) : Array Value → State → Prop :=
  va_Pc av (fun U => U.heap.size = sz ∧ va_P D cl ws U.heap ∧ va_K D cl tys U ∧ va_D (fun _ => True) ws ∧ kt_U tx (va_A ws sz) U U.heap)
theorem kt_blind {tx : kt_X} {D : va_G} {cl : List vw_C} {tys : List (ClassId × FieldType)} {sz : Nat} {av : List Value} {ws : va_W} : FrameBlind (kt_Pc tx D cl tys sz av ws) := by
  intro a U g mk q
  obtain ⟨q0, q1, qP, qK, qD, qU⟩ := q
  refine ⟨q0, q1, qP, va_K.moved (u := U) (U := U.calling g mk a) (Vm.Alike.refl U.vm) qK, qD, ?_⟩
  exact kt_U.to (U := U.calling g mk a) qU (State.WarmedH.refl U) (fun _ _ _ => rfl) (fun _ h => h)
def kt_XB (D : va_G) (cl : List vw_C) (sz : Nat) (ws ws' : va_W) : State → State → Prop := fun st t => va_P D cl ws' t.heap ∧ va_D (va_A ws sz) ws' ∧ va_F (va_A ws sz) st t
def kt_MQ (below : List Frame) (E : String) (XB : State → State → Prop) (s : State) (mc ms : Nat) (free : Addr → Prop) : State → Prop := fun t =>
  ∃ o, t.status = .running ∧ Ended t below o ∧ ∃ q, o = .threw q ∧ kt_T E XB s q t mc ms free
section KTC
variable {p : Program} {l : Launch} {e : Env} {R : Room} {s : State} {m : MethodId} {args : Array Value} {below : List Frame} {meth : Method} {c : Code} {H : Heap} {locs : List Loc} {cells slots : Nat} {Q : State → Prop}
variable {cc : ByteArray} {pc nL : Nat} {ls : Array Slot} {rest : List Value} {D : va_G} {cl : List vw_C} {A : Nat → Prop} {tys : List (ClassId × FieldType)} {ws : va_W} {Ts : List Cond} {own : String} {tx : kt_X}
theorem kt_start {y : MethodName} {wsC ws' : List Cond} {rm : Room} {Qc : Array Value → State → Outcome → State → Prop} {maxL : Nat} {ret : Option FieldType} {av : List Value} {sz : Nat} (hy : plainName y.cls = true) (hw : wsC = Cond.code y cc maxL ret :: ws') (hlen : (lg_sl av).length ≤ maxL)
    (body : ∀ (p : Program) (e : Env) (s : State) (m : MethodId) (args : Array Value) (below : List Frame) (meth : Method) (c : Code) (A : Nat → Prop) (ls : Array Slot), CallFix p m c cc maxL s args ws' y.cls → meth.sig.returnType = ret → meth.locks = false → s.heap.size = sz → A = va_A ws sz → kb_W D cl tys A s s.heap [] ws → kt_U tx A s s.heap → lv_has ls maxL (lv_args 0 av) →
      W p l e rm s m args below meth c s.heap [] 0 0 (MQ below Qc args s 0 0 (va_A ws sz)) (F0 m 0 ls [])) : Met l y wsC rm (kt_Pc tx D cl tys sz av ws) Qc 0 0 (va_A ws sz) := by
  refine Met.ofW (cc := cc) (maxL := maxL) (ret := ret) hy hw ?_
  intro p e s m args below meth c s₁ B hml hv
  obtain ⟨rfl, hsz, hP, hK, hD0, hU⟩ := hv
  have hts := atoms_spec (ws := wsC) B.pre
  have hown : s.vm.findClass y.cls = some m.cls := findClass_of_methodNamed B.named
  rw [lg_entry_eq]
  refine body p e s m _ below meth c (va_A ws sz) _ ⟨B.exec, B.bytes, hml, hown, fun w h => hts w (by rw [hw]; exact List.mem_cons_of_mem _ h)⟩ B.returns B.notSynchronized hsz rfl ⟨hP, hK, hD0.self (sz := sz), va_S.rf, ?_⟩ hU (lv_entry av hlen)
  intro q h
  rw [hsz] at h
  exact Or.inr h
theorem kt_startX {y : MethodName} {wsC ws' : List Cond} {rm : Room} {E : String} {XB : State → State → Prop} {maxL mc ms : Nat} {ret : Option FieldType} {av : List Value} {sz : Nat} (hy : plainName y.cls = true) (hw : wsC = Cond.code y cc maxL ret :: ws') (hlen : (lg_sl av).length ≤ maxL)
    (body : ∀ (p : Program) (e : Env) (s : State) (m : MethodId) (args : Array Value) (below : List Frame) (meth : Method) (c : Code) (A : Nat → Prop) (ls : Array Slot), CallFix p m c cc maxL s args ws' y.cls → meth.sig.returnType = ret → meth.locks = false → s.heap.size = sz → A = va_A ws sz → kb_W D cl tys A s s.heap [] ws → kt_U tx A s s.heap → (∀ x ∈ c.exceptionTable.toList, False) → lv_has ls maxL (lv_args 0 av) →
      W p l e rm s m args below meth c s.heap [] 0 0 (kt_MQ below E XB s mc ms (va_A ws sz)) (F0 m 0 ls [])) : kt_Met l y wsC rm (kt_Pc tx D cl tys sz av ws) E XB mc ms (va_A ws sz) := by
  refine MetFree.of_bodyS (code := cc) (maxLocals := maxL) (ret := ret) hy ?_ ?_
  · intro args s m h hn
    obtain ⟨meth, c, h1, h2, h3, h4, h5, h6, -, -⟩ := Cond.code_spec hn (atoms_spec (ws := wsC) h _ (by rw [hw]; exact List.mem_cons_self))
    exact ⟨meth, c, h1, h2, h3, h4, h5, h6⟩
  · intro p e s m args below meth c s₁ B hml hv _
    obtain ⟨rfl, hsz, hP, hK, hD0, hU⟩ := hv
    have hts := atoms_spec (ws := wsC) B.pre
    have hown : s.vm.findClass y.cls = some m.cls := findClass_of_methodNamed B.named
    have hcw := hts _ (by rw [hw]; exact List.mem_cons_self)
    obtain ⟨meth', c', hm', hc', -, -, -, -, hempty, -⟩ := Cond.code_spec B.named hcw
    have X := Stand.of_body B
    cases hm'.symm.trans X.method
    cases hc'.symm.trans X.code
    have hno : ∀ x ∈ c.exceptionTable.toList, False := by
      have h0 : c.exceptionTable.size = 0 := by simpa [Array.isEmpty] using hempty
      have h1 : c.exceptionTable.toList = [] := List.eq_nil_of_length_eq_zero (by simpa using h0)
      intro x hx
      rw [h1] at hx
      cases hx
    have hh0 : s₁.heap = s.heap := by rw [B.state]; rfl
    have K := body p e s m _ below meth c (va_A ws sz) _ ⟨B.exec, B.bytes, hml, hown, fun w h => hts w (by rw [hw]; exact List.mem_cons_of_mem _ h)⟩ B.returns B.notSynchronized hsz rfl ⟨hP, hK, hD0.self (sz := sz), va_S.rf, fun q h => by rw [hsz] at h; exact Or.inr h⟩ hU hno (lv_entry av hlen)
    obtain ⟨t, a1, o, b1, b2, b3⟩ := K s₁ hh0 X
    rw [← lg_entry_eq] at a1
    exact ⟨t, o, a1, b1, b2, b3⟩
theorem kt_callv0 {y : MethodName} {bytes : ByteArray} {maxL n index b : Nat} {ret : Option FieldType} {rm : Room} {C : String} {As st0 : List Value} {ws1 : va_W} {ci q0 : Nat} {q : vw_C} {fs : List Value}
    (S : CallFix p m c cc nL s args Ts own) (w : kb_W D cl tys A s H locs ws) (U : kt_U tx A s s.heap) (hM : ∀ sz, Met l y (Cond.code y bytes maxL ret :: Ts) rm (kt_Pc tx D cl tys sz (.ref b :: As) ws) (kb_Qv D cl sz ws ws1) 0 0 (va_A ws sz))
    (Y : kb_Y Ts y bytes maxL ret n) (hI : Cond.instanceMethod y ∈ Ts) (hs : Cond.selects C y y ∈ Ts) (hl : Cond.methodLink own index y ∈ Ts) (hrm : rm.cells = 0 ∧ rm.slots = 0 ∧ rm.frames + 1 ≤ R.frames ∧ 8 + (maxL + 11) + rm.locals ≤ R.locals)
    (hq : ws[q0]? = some (b, .inr (ci, fs))) (hc : cl[ci]? = some q) (hC : q.1 = C) (hn : As.length = n) (hsz : ls.size = nL) (hstack : st0 = As.reverse ++ .ref b :: rest) (hW : (rest.map fun v => v.category).sum ≤ 8) (hdg : decode cc pc = .ok (.invokevirtual index, 3)) (hf : cells ≤ R.cells ∧ slots ≤ R.slots)
    (kk : ∀ (H1 : Heap) (locs1 : List Loc), kb_W D cl tys A s H1 locs1 ws1 → W p l e R s m args below meth c H1 locs1 cells slots Q (F0 m (pc + 3) ls rest)) : W p l e R s m args below meth c H locs cells slots Q (F0 m pc ls st0) := by
  have hts := S.2.2.2.2
  refine va_callv (va_runV (As := As) (rest := rest) (C := C) S (hM H.size) ⟨callB_of n hts (kb_good Y.1 Y.2.1) rfl hrm.1 hrm.2.1 (hts _ Y.2.2.1) (hts _ hl) Y.2.2.2 hrm.2.2, hts _ hI, hts _ hs⟩ ⟨kt_blind, ?_, fun V hV hWm => ⟨rfl, by rw [hV], by rw [hV]; exact w.1, va_K.moved hWm.alike w.2.1, w.2.2.1.weaken (fun _ _ _ _ => trivial), by rw [hV]; exact kt_U.to U hWm (fun a h1 h2 => w.2.2.2.1.2.1 a h1 h2) (kb_free w)⟩⟩ rfl hn hsz hstack (lv_room hW) hdg ⟨hf.1, hf.2⟩) w.2.2.2.1 (fun q _ h => kb_free w q h) (kb_free w) (fun u t H1 locs1 ht hvm hp hB hz1 hk1 hS => ?_)
  · rw [← hC]
    exact va_recv w.2.1 w.1 hc hq
  · obtain ⟨hP1, hD1⟩ := hB
    rw [ht] at hP1
    exact kk H1 locs1 ⟨hP1, w.2.1, hD1.weaken (fun k q _ h => kb_free w _ h), hS, w.2.2.2.2⟩
theorem kt_callX {y : MethodName} {bytes : ByteArray} {maxL n index b mc ms : Nat} {ret : Option FieldType} {rm : Room} {C E : String} {As st0 : List Value} {ws1 : va_W} {ci q0 : Nat} {q : vw_C} {fs : List Value}
    (S : CallFix p m c cc nL s args Ts own) (w : kb_W D cl tys A s H locs ws) (U : kt_U tx A s s.heap) (hM : ∀ sz, kt_Met l y (Cond.code y bytes maxL ret :: Ts) rm (kt_Pc tx D cl tys sz (.ref b :: As) ws) E (kt_XB D cl sz ws ws1) mc ms (va_A ws sz))
    (Y : kb_Y Ts y bytes maxL ret n) (hI : Cond.instanceMethod y ∈ Ts) (hs : Cond.selects C y y ∈ Ts) (hl : Cond.methodLink own index y ∈ Ts) (hrm : rm.cells = mc ∧ rm.slots = ms ∧ rm.frames + 1 ≤ R.frames ∧ 8 + (maxL + 11) + rm.locals ≤ R.locals)
    (hq : ws[q0]? = some (b, .inr (ci, fs))) (hc : cl[ci]? = some q) (hC : q.1 = C) (hn : As.length = n) (hsz : ls.size = nL) (hstack : st0 = As.reverse ++ .ref b :: rest) (hW : (rest.map fun v => v.category).sum ≤ 8) (hdg : decode cc pc = .ok (.invokevirtual index, 3)) (hf : cells + mc ≤ R.cells ∧ slots + ms ≤ R.slots)
    (kx : ∀ (H1 : Heap) (locs1 : List Loc) (q9 : Addr) (ce : Cell), kb_W D cl tys A s H1 locs1 ws1 → H1[q9]? = some ce → ce.vm = .none → s.vm.findClass E = some ce.cls → kt_W p l e R s m args below meth c H1 locs1 (cells + mc) (slots + ms) Q (F0 m pc ls rest) q9) : W p l e R s m args below meth c H locs cells slots Q (F0 m pc ls st0) := by
  intro T hT X
  have hts := S.2.2.2.2
  obtain ⟨cellB, hcB, hoB, hclB⟩ := va_recv w.2.1 w.1 hc hq
  rw [hC] at hclB
  have hlen : ∀ sig, parseMethodDescriptor y.desc = some sig → As.length = sig.parameters.length := fun sig h => by
    have h2 := Y.2.2.2.2.2
    rw [h] at h2
    exact hn.trans (Option.some.inj h2).symm
  obtain ⟨q9, st₀, t, T', L, ce, h0, X', hL, e1, e2, hXB, hce, hcv, hcl, hst⟩ := kt_callV X S.1 S.2.2.2.1 (hts _ hl) (hts _ hI) (hts _ hs) (hts _ Y.2.2.1) ⟨Y.2.2.2.1, Y.2.2.2.2.1⟩ (hM H.size) kt_blind hrm (pay_in hts (kb_good Y.1 Y.2.1)) List.mem_cons_self (by rw [hT]; exact hcB) hoB hclB
    (g := F0 m pc ls st0) rfl (hsz.trans S.2.2.1.symm) (argsL := As) (rest := rest) hlen hstack (lv_room hW) (by rw [S.2.1]; exact hdg) hf
    (fun vm₁ hWm => ⟨rfl, by show T.heap.size = H.size; rw [hT], by show va_P D cl ws T.heap; rw [hT]; exact w.1, va_K.moved (U := T.setVm vm₁) hWm.alike w.2.1, w.2.2.1.weaken (fun _ _ _ _ => trivial), by
      show kt_U tx (va_A ws H.size) (T.setVm vm₁) T.heap
      rw [hT]
      exact kt_U.to (U := T.setVm vm₁) U hWm (fun a h1 h2 => w.2.2.2.1.2.1 a h1 h2) (kb_free w)⟩)
  obtain ⟨hP1, hD1, hF1⟩ := hXB
  have hS : va_S A s.heap t.heap (locs ++ L) := by
    obtain ⟨f1, f2⟩ := hF1
    rw [h0, hT] at f1 f2
    refine ⟨Nat.le_trans w.2.2.2.1.1 f1, fun q h1 h2 => ?_, fun z hz => ?_⟩
    · rw [f2 q (Nat.lt_of_lt_of_le h1 w.2.2.2.1.1) (fun h => h2 (kb_free w q h))]
      exact w.2.2.2.1.2.1 q h1 h2
    · rcases List.mem_append.mp hz with h | h
      · exact w.2.2.2.1.2.2 z h
      · exact kb_free w _ (hL z h)
  obtain ⟨t2, a1, b1⟩ := kx t.heap (locs ++ L) q9 ce ⟨hP1, w.2.1, hD1.weaken (fun k q _ h => kb_free w _ h), hS, w.2.2.2.2⟩ hce hcv hcl T' e1 X'
  exact ⟨t2, hst.trans a1, b1⟩
theorem kt_out {E : String} {XB : State → State → Prop} {mc ms : Nat} {free : Addr → Prop} {q9 : Addr} {ce : Cell} (hlk : meth.locks = false) (hno : ∀ x ∈ c.exceptionTable.toList, False) (hce : H[q9]? = some ce) (hv : ce.vm = .none) (hcl : s.vm.findClass E = some ce.cls) (hXB : ∀ t : State, t.heap = H → XB s t) (hfr : ∀ z ∈ locs, free z.base) (hm : cells ≤ mc ∧ slots ≤ ms) :
    kt_W p l e R s m args below meth c H locs cells slots (kt_MQ below E XB s mc ms free) (F0 m pc ls rest) q9 := by
  intro T hT X
  obtain ⟨st1, hrun, hend, hW, hsm⟩ := X.leaveThrown q9 (g := F0 m pc ls rest) rfl rfl rfl (fun x hx => (hno x hx).elim) hlk
  exact ⟨_, st1, .threw q9, hrun, hend, q9, rfl, ce, locs, hXB _ hT, by show T.heap[q9]? = some ce; rw [hT]; exact hce, hv, hcl, hW, hsm.mono hm.1 hm.2, hfr⟩
end KTC
end
section
/-! my own layer: 'throw new E(text)' -/
section KTD
variable {p : Program} {l : Launch} {e : Env} {R : Room} {s : State} {m : MethodId} {args : Array Value} {below : List Frame} {meth : Method} {c : Code} {T : State} {H : Heap} {locs : List Loc} {cells slots : Nat} {Q : State → Prop}
variable {cc : ByteArray} {pc nL : Nat} {ls : Array Slot} {rest : List Value} {D : va_G} {cl : List vw_C} {A : Nat → Prop} {tys : List (ClassId × FieldType)} {ws : va_W} {Ts : List Cond} {own : String} {tx : kt_X}
/-- the same stand, its base moved up to the heap of now -/
theorem kt_rebase (X : Stand p l e R s m args below meth c T locs cells slots) {R' : Room} (hf : R'.frames ≤ R.frames) (hl : R'.locals ≤ R.locals) (hc : cells + R'.cells ≤ R.cells) (hs : slots + R'.slots ≤ R.slots) :
    Stand p l e R' ({ s with heap := T.heap, slotsUsed := T.slotsUsed } : State) m args below meth c T [] 0 0 := by
  have hb := X.book
  have hh := X.heapSize
  have hu := X.used
  refine ⟨X.admits, X.cas, X.clock, X.frames, ?_, X.hears, X.method, X.code, X.here, X.tail, State.WarmedH.of_rootvm (s := s) rfl X.warmed, X.limits, X.bytes, ?_⟩
  · have hr := X.room
    simp only [State.hasRoom, Bool.and_eq_true, decide_eq_true_eq] at hr ⊢
    obtain ⟨⟨⟨⟨r1, r2, r3, r4, r5, r6⟩, r7⟩, r8⟩, -⟩ := hr
    have q1 : ({ s with heap := T.heap, slotsUsed := T.slotsUsed } : State).localsInUse = s.localsInUse := rfl
    have q2 : ({ s with heap := T.heap, slotsUsed := T.slotsUsed } : State).me = s.me := rfl
    have q3 : ({ s with heap := T.heap, slotsUsed := T.slotsUsed } : State).frames = s.frames := rfl
    rw [q1, q2, q3]
    refine ⟨⟨⟨⟨by omega, by omega, by omega, by omega, by omega, r6⟩, ?_⟩, ?_⟩, ?_⟩
    · show T.heap.size + R'.cells ≤ _; omega
    · show T.slotsUsed + R'.slots ≤ _; omega
    · exact hb
  · obtain ⟨e1, -⟩ := X.same
    refine ⟨?_, Nat.le_refl _, Nat.le_refl _, ?_, ?_, fun a c h => ⟨c, h, rfl, rfl, fun _ _ => rfl⟩⟩
    · exact e1
    · show T.slotsUsed = T.slotsUsed + ((T.heap.toList.drop T.heap.size).map (·.slots.size)).sum
      rw [List.drop_eq_nil_of_le (by simp)]
      rfl
    · show ((T.heap.toList.drop T.heap.size).map (·.slots.size)).sum ≤ 0
      rw [List.drop_eq_nil_of_le (by simp)]
      exact Nat.le_refl _
/-- what a throw asks of the tables -/
def kt_N (tx : kt_X) (Ts : List Cond) (own : String) (ik ic : Nat) (E : String) (names : List String) : Prop :=
  Bundle.fit E = true ∧ (∀ n ∈ names, Bundle.fit n = true) ∧ Cond.classLink own ik E ∈ Ts ∧ Cond.initialized E ∈ Ts ∧ Cond.instantiable E 6 ∈ Ts ∧
  (∀ w ∈ Bundle.ownAtoms own ic E names, w ∈ Ts ∨ w = .isRef (.static Bundle.tN "UNASSIGNED_STACK" Bundle.steD) ∨ w = .isRef (.static Bundle.tN "SUPPRESSED_SENTINEL" Bundle.listD) ∨ w = .laysStatic Bundle.tN "UNASSIGNED_STACK" Bundle.steD ∨ w = .laysStatic Bundle.tN "SUPPRESSED_SENTINEL" Bundle.listD ∨ (∃ y ∈ tx.2.2.1, w = .declares y) ∨ ∃ q ∈ tx.2.2.2, w = .castable q.1 q.2) ∧
  ∀ w ∈ Ts, (w.onTables && w.keeps) = true ∨ ∃ ty, w = .arrayClass ty
theorem kt_throw {E text : String} {names : List String} {ik ic is mc ms : Nat} {XB : State → State → Prop} {free : Addr → Prop} (S : CallFix p m c cc nL s args Ts own) (hst : l.stackTraces = false) (hlk : meth.locks = false) (w : kb_W D cl tys A s H locs ws) (U : kt_U tx A s s.heap) (hno : ∀ x ∈ c.exceptionTable.toList, False)
    (N : kt_N tx Ts own ik ic E names) (ht : (own, is, text) ∈ tx.1) (hsz : ls.size = nL) (d0 : decode cc pc = .ok (.new ik, 3)) (d3 : decode cc (pc + 3) = .ok (.dup, 1)) (d4 : decode cc (pc + 4) = .ok (.ldc is, 2)) (d6 : decode cc (pc + 6) = .ok (.invokespecial ic, 3)) (d9 : decode cc (pc + 9) = .ok (.athrow, 1))
    (hR : names.length + 3 < R.frames ∧ (rest.map fun v => v.category).sum + (13 * (names.length + 1) + 43) ≤ R.locals ∧ cells + 1 ≤ R.cells ∧ slots + 6 ≤ R.slots) (hm : cells + 1 ≤ mc ∧ slots + 6 ≤ ms)
    (hfr : ∀ z ∈ locs, free z.base) (hXB : ∀ t : State, H.size ≤ t.heap.size → (∀ q : Nat, q < H.size → t.heap[q]? = H[q]?) → XB s t) :
    W p l e R s m args below meth c H locs cells slots (kt_MQ below E XB s mc ms free) (F0 m pc ls rest) := by
  obtain ⟨n1, n2, n3, n4, n5, n6, n7⟩ := N
  intro T hT X
  have htr : e.platform.stackTraces = false := by rw [X.admits.platform]; exact hst
  have X0 := kt_rebase X (R' := { frames := R.frames, cells := 1, slots := 6, locals := R.locals }) (Nat.le_refl _) (Nat.le_refl _) hR.2.2.1 hR.2.2.2
  generalize hS : ({ s with heap := T.heap, slotsUsed := T.slotsUsed } : State) = s0 at X0
  have hvm : s0.vm = s.vm := by rw [← hS]
  have hheap : s0.heap = H := by rw [← hS]; exact hT
  have hW0 : s.WarmedH s0.vm := by rw [hvm]; exact State.WarmedH.refl s
  have hts : ∀ w ∈ Ts, w.before args s0 = true := fun w h => word_at hW0 (n7 w h) (S.2.2.2.2 w h)
  have hown : s0.vm.findClass own = some m.cls := by rw [hvm]; exact S.2.2.2.1
  have U0 : kt_U tx A s0 s0.heap := by
    rw [hheap]
    exact kt_U.to U hW0 (fun a h1 h2 => w.2.2.2.1.2.1 a h1 h2) (fun _ h => h)
  obtain ⟨sa, hstr⟩ := U0.2.2.1 _ ht
  have K : W p l e { frames := R.frames, cells := 1, slots := 6, locals := R.locals } s0 m args below meth c H [] 0 0 (fun t => t.status = .running ∧ Ended t below (.threw H.size) ∧ s0.WarmedH t.vm ∧ s0.sameButNew ({ t with vm := s0.vm } : State) [] 1 6 ∧ ∃ ce, t.heap[H.size]? = some ce ∧ ce.vm = .none ∧ s0.vm.findClass E = some ce.cls) (F0 m pc ls rest) := by
    refine W.newc S.1 S.2.1 (own := own) (C := E) (index := ik) (n := 6) hown (hts _ n3) (hts _ n5) (hts _ n4) (g := F0 m pc ls rest) rfl d0 (Nat.le_refl _) (Nat.le_refl _) (fun cC kC h1 h2 h3 h4 => ?_)
    refine W.eq (g2 := F0 m (pc + 3) ls (.ref H.size :: rest)) rfl ?_
    refine lv_dup S.1 S.2.1 d3 rfl ?_
    refine W.eq (g2 := F0 m (pc + 4) ls (.ref H.size :: .ref H.size :: rest)) rfl ?_
    refine va_ldcS S.1 S.2.1 hown hstr d4 ?_
    refine W.eq (g2 := F0 m (pc + 6) ls (.ref sa :: .ref H.size :: .ref H.size :: rest)) rfl ?_
    intro T1 hT1 X1
    obtain ⟨V, hsteps, hrun, hend, hWV, hsame, ce, hce, hO⟩ := X1.ctorThrowS S.1 htr (own := own) (cls := E) (names := names) (ic := ic) hown n1 n2
      (fun a ha => by
        rcases n6 a ha with h | h | h | h | h | ⟨y, hy, h⟩ | ⟨q, hq, h⟩
        · exact hts a h
        · rw [h]; exact U0.1.ref
        · rw [h]; exact U0.2.1.ref
        · rw [h]; exact U0.1.lays
        · rw [h]; exact U0.2.1.lays
        · rw [h]; exact va_Nw.use rfl (U0.2.2.2.2.1 y hy)
        · rw [h]; exact va_Nw.use rfl (U0.2.2.2.2.2 q hq)) (fun x hx => nomatch hx) h1 h2 (a := H.size) (by rw [hT1]; simp [freshCell]) (by rw [hheap]; exact Nat.le_refl _)
      (msg := .ref sa) rfl (g := F0 m (pc + 6) ls (.ref sa :: .ref H.size :: .ref H.size :: rest)) rfl (by rw [hsz]; exact S.2.2.1.symm) rfl rfl (rest := rest) rfl (by rw [S.2.1]; exact d6) (by rw [S.2.1]; exact d9) (fun x hx => (hno x hx).elim) hR.1
      (by
        show 2 * 0 + ((Value.ref H.size :: rest).map fun v => v.category).sum + (13 * (names.length + 1) + 42) ≤ R.locals
        have h9 := hR.2.1
        have h8 : ((Value.ref H.size :: rest).map fun v => v.category).sum = 1 + (rest.map fun v => v.category).sum := by rw [List.map_cons, List.sum_cons]; rfl
        omega) hlk
    exact ⟨V, hsteps, hrun, hend, hWV, hsame, ce, hce, hO.vm, hO.cls⟩
  obtain ⟨t, a1, hrun, hend, hWt, hsm, ce, hce, hcv, hcc⟩ := K T hT X0
  have hWs : s.WarmedH t.vm := State.WarmedH.of_rootvm (s := s0) hvm.symm hWt
  have hh0 : s0.heap.size ≤ t.heap.size := hsm.2.1
  have hcellq : ∀ q : Nat, q < H.size → t.heap[q]? = H[q]? := fun q hq => by
    obtain ⟨-, -, -, -, -, h6⟩ := hsm
    obtain ⟨c9, e1, e2, e3, e4⟩ := h6 q (H[q]) (by rw [hheap]; exact Array.getElem?_eq_getElem hq)
    have e5 : c9.slots = (H[q]).slots := Array.ext_getElem? fun i => e4 i (fun h => nomatch h)
    have e6 : c9 = H[q] := by rw [e5] at e2; exact e2
    have e7 : t.heap[q]? = some c9 := e1
    rw [e7, e6, Array.getElem?_eq_getElem hq]
  have hsame : s.sameButNew ({ t with vm := s.vm } : State) (locs ++ []) (cells + 1) (slots + 6) := by
    refine X.same.trans (t := T.setVm s.vm) ?_
    obtain ⟨f1, f2, f3, f4, f5, f6⟩ := hsm
    subst hS
    refine ⟨?_, f2, f3, f4, f5, f6⟩
    obtain ⟨e1, -⟩ := X.same
    have g1 : ({ t with vm := s.vm } : State) = ({ s.setFrames t.frames with heap := t.heap, slotsUsed := t.slotsUsed } : State) := f1
    have g2 : (T.setVm s.vm).setFrames t.frames = ({ s.setFrames t.frames with heap := T.heap, slotsUsed := T.slotsUsed } : State) := by
      rw [e1]
      show ({ (s.setFrames (T.setVm s.vm).frames).setFrames t.frames with heap := T.heap, slotsUsed := T.slotsUsed } : State) = _
      rw [State.setFrames_setFrames]
    have g3 := congrArg (fun u : State => ({ u with heap := t.heap, slotsUsed := t.slotsUsed } : State)) g2.symm
    exact g1.trans g3
  rw [List.append_nil] at hsame
  rw [hvm] at hcc
  rw [hheap] at hh0
  exact ⟨t, a1, .threw H.size, hrun, hend, H.size, rfl, ce, locs, hXB t hh0 hcellq, hce, hcv, hcc, hWs, hsame.mono hm.1 hm.2, hfr⟩
end KTD
section KTE
variable {p : Program} {l : Launch} {e : Env} {R : Room} {s : State} {m : MethodId} {args : Array Value} {below : List Frame} {meth : Method} {c : Code} {T : State} {H : Heap} {locs : List Loc} {cells slots : Nat} {Q : State → Prop}
variable {cc : ByteArray} {pc nL : Nat} {ls : Array Slot} {rest : List Value} {D : va_G} {cl : List vw_C} {A : Nat → Prop} {tys : List (ClassId × FieldType)} {ws : va_W} {Ts : List Cond} {own : String} {tx : kt_X}
theorem kx_r {σ : Type} {k : Nat} {v r : Int32} {z z' : σ} (h : some (0, v, z) = some (k, r, z')) : some (v, z) = some (r, z') := by
  have q := kx_0 h
  rw [q.2.1, q.2.2]
theorem kx_throw {ws0 : va_W} {σ : Type} (f : σ → va_W) {z z' : σ} {sz k kk : Nat} {r : Int32} {text : String} {names : List String} {ik ic is mc ms : Nat} (S : CallFix p m c cc nL s args Ts own) (hst : l.stackTraces = false) (hlk : meth.locks = false) (hA : A = va_A ws0 sz) (w : kb_W D cl tys A s H locs (f z)) (U : kt_U tx A s s.heap) (hno : ∀ x ∈ c.exceptionTable.toList, False)
    (N : kt_N tx Ts own ik ic (kx_E kk) names) (ht : (own, is, text) ∈ tx.1) (h : some (kk, (0 : Int32), z) = some (k, r, z')) (hsz : ls.size = nL) (d0 : decode cc pc = .ok (.new ik, 3)) (d3 : decode cc (pc + 3) = .ok (.dup, 1)) (d4 : decode cc (pc + 4) = .ok (.ldc is, 2)) (d6 : decode cc (pc + 6) = .ok (.invokespecial ic, 3)) (d9 : decode cc (pc + 9) = .ok (.athrow, 1))
    (hR : names.length + 3 < R.frames ∧ (rest.map fun v => v.category).sum + (13 * (names.length + 1) + 43) ≤ R.locals ∧ cells + 1 ≤ R.cells ∧ slots + 6 ≤ R.slots) (hm : cells + 1 ≤ mc ∧ slots + 6 ≤ ms) :
    W p l e R s m args below meth c H locs cells slots (kt_MQ below (kx_E k) (kt_XB D cl sz ws0 (f z')) s mc ms (va_A ws0 sz)) (F0 m pc ls rest) := by
  obtain ⟨e0, -, e2⟩ := kx_0 h
  subst e0
  subst e2
  subst hA
  exact kt_throw S hst hlk w U hno N ht hsz d0 d3 d4 d6 d9 hR hm (fun z hz => w.2.2.2.1.2.2 z hz) (fun t h1 h2 => ⟨w.1.kept (fun k q hk => h2 _ (va_at.lt (w.1 k q hk))), w.2.2.1, Nat.le_trans w.2.2.2.1.1 h1, fun q h3 h4 => (h2 q (Nat.lt_of_lt_of_le h3 w.2.2.2.1.1)).trans (w.2.2.2.1.2.1 q h3 h4)⟩)
theorem kx_out {ws0 : va_W} {σ : Type} (f : σ → va_W) {z z' : σ} {sz k k' mc ms : Nat} {r : Int32} {q9 : Addr} {ce : Cell} (hlk : meth.locks = false) (hA : A = va_A ws0 sz) (w : kb_W D cl tys A s H locs (f z)) (hno : ∀ x ∈ c.exceptionTable.toList, False) (h : some (k, (0 : Int32), z) = some (k', r, z'))
    (hce : H[q9]? = some ce) (hv : ce.vm = .none) (hcl : s.vm.findClass (kx_E k) = some ce.cls) (hm : cells ≤ mc ∧ slots ≤ ms) :
    kt_W p l e R s m args below meth c H locs cells slots (kt_MQ below (kx_E k') (kt_XB D cl sz ws0 (f z')) s mc ms (va_A ws0 sz)) (F0 m pc ls rest) q9 := by
  obtain ⟨e0, -, e2⟩ := kx_0 h
  subst e0
  subst e2
  subst hA
  exact kt_out hlk hno hce hv hcl (fun t ht => ⟨by rw [ht]; exact w.1, w.2.2.1, w.2.2.2.1.F ht⟩) (fun z hz => w.2.2.2.1.2.2 z hz) hm
end KTE
end
section
/-! names and pure functions of the methods that may throw, laid by wip/whole/layB.py -/
def kt_ts : List (String × Nat × String) := [("BankScheduler", 64, "no such time"), ("BankScheduler", 77, "the time cannot have this value"), ("BankScheduler", 85, "a cycle has gone by"), ("BankScheduler", 103, "n is not 0 .. 2000"), ("BankScheduler", 117, "no such request"), ("BankScheduler", 120, "the request is not done"), ("BankScheduler", 129, "no such bank"), ("BankScheduler", 137, "no such waiting request"), ("BankScheduler", 151, "no such figure"), ("BankScheduler", 153, "no such command"), ("BankScheduler", 161, "no such row"), ("BankScheduler", 169, "n is not 0 .. 1000"), ("BankScheduler", 171, "no such word"), ("BankScheduler", 173, "no place to wait")]
theorem t_B_64 : ("BankScheduler", 64, "no such time") ∈ kt_ts := by decide +kernel
theorem t_B_77 : ("BankScheduler", 77, "the time cannot have this value") ∈ kt_ts := by decide +kernel
theorem t_B_85 : ("BankScheduler", 85, "a cycle has gone by") ∈ kt_ts := by decide +kernel
theorem t_B_103 : ("BankScheduler", 103, "n is not 0 .. 2000") ∈ kt_ts := by decide +kernel
theorem t_B_117 : ("BankScheduler", 117, "no such request") ∈ kt_ts := by decide +kernel
theorem t_B_120 : ("BankScheduler", 120, "the request is not done") ∈ kt_ts := by decide +kernel
theorem t_B_129 : ("BankScheduler", 129, "no such bank") ∈ kt_ts := by decide +kernel
theorem t_B_137 : ("BankScheduler", 137, "no such waiting request") ∈ kt_ts := by decide +kernel
theorem t_B_151 : ("BankScheduler", 151, "no such figure") ∈ kt_ts := by decide +kernel
theorem t_B_153 : ("BankScheduler", 153, "no such command") ∈ kt_ts := by decide +kernel
theorem t_B_161 : ("BankScheduler", 161, "no such row") ∈ kt_ts := by decide +kernel
theorem t_B_169 : ("BankScheduler", 169, "n is not 0 .. 1000") ∈ kt_ts := by decide +kernel
theorem t_B_171 : ("BankScheduler", 171, "no such word") ∈ kt_ts := by decide +kernel
theorem t_B_173 : ("BankScheduler", 173, "no place to wait") ∈ kt_ts := by decide +kernel
def kt_LEAST_TIMES : Nat → Int32 := fun j => ([1, 1, 1, 1, 1, 1, 1, 1, 1, 1, 20, 1] : List Int32).getD j 0
def kt_MOST_TIMES : Nat → Int32 := fun j => ([20, 20, 20, 20, 20, 20, 20, 20, 20, 20, 200, 20] : List Int32).getD j 0
def kt_FIRST_TIMES : Nat → Int32 := fun j => ([3, 3, 6, 9, 5, 2, 2, 2, 12, 8, 60, 3] : List Int32).getD j 0
def kt_tb : List (String × String × Nat × (Nat → Int32)) := [("BankScheduler", "LEAST_TIMES", 12, kt_LEAST_TIMES), ("BankScheduler", "MOST_TIMES", 12, kt_MOST_TIMES), ("BankScheduler", "FIRST_TIMES", 12, kt_FIRST_TIMES)]
theorem kt_in_LEAST_TIMES : ("BankScheduler", "LEAST_TIMES", 12, kt_LEAST_TIMES) ∈ kt_tb := List.mem_of_getElem? (i := 0) rfl
theorem kt_in_MOST_TIMES : ("BankScheduler", "MOST_TIMES", 12, kt_MOST_TIMES) ∈ kt_tb := List.mem_of_getElem? (i := 1) rfl
theorem kt_in_FIRST_TIMES : ("BankScheduler", "FIRST_TIMES", 12, kt_FIRST_TIMES) ∈ kt_tb := List.mem_of_getElem? (i := 2) rfl
def kt_td : List MethodName := [⟨"java/lang/RuntimeException", "<init>", "(Ljava/lang/String;)V"⟩, ⟨"java/lang/Exception", "<init>", "(Ljava/lang/String;)V"⟩, ⟨"java/lang/Throwable", "<init>", "(Ljava/lang/String;)V"⟩]
def kt_tc : List (String × String) := [(kx_E 1, kx_E 1), (kx_E 2, kx_E 2), (kx_E 3, kx_E 3), (kx_E 4, kx_E 4)]
def kt_tx : kt_X := (kt_ts, kt_tb, kt_td, kt_tc)
theorem s_B_69 : Cond.fieldLink "BankScheduler" 69 "BankScheduler" "LEAST_TIMES" "[I" ∈ wsB := (kn_2 80 rfl rfl)
theorem s_B_72 : Cond.fieldLink "BankScheduler" 72 "BankScheduler" "MOST_TIMES" "[I" ∈ wsB := (kn_2 82 rfl rfl)
abbrev rmx_B_time : Room := { frames := 6, cells := 1, slots := 6, locals := 90 }
abbrev rmx_B_read : Room := { frames := 7, cells := 1, slots := 6, locals := 113 }
abbrev rmx_B_write : Room := { frames := 7, cells := 1, slots := 6, locals := 113 }
abbrev rmx_B_run : Room := { frames := 6, cells := 1, slots := 6, locals := 132 }
abbrev rmx_B_result : Room := { frames := 6, cells := 1, slots := 6, locals := 90 }
abbrev rmx_B_word : Room := { frames := 7, cells := 1, slots := 6, locals := 113 }
abbrev rmx_B_open : Room := { frames := 6, cells := 1, slots := 6, locals := 90 }
abbrev rmx_B_waiting : Room := { frames := 6, cells := 1, slots := 6, locals := 90 }
abbrev rmx_B_figure : Room := { frames := 6, cells := 1, slots := 6, locals := 90 }
abbrev rmx_B_check : Room := { frames := 6, cells := 1, slots := 6, locals := 90 }
abbrev rmx_B_pause : Room := { frames := 6, cells := 1, slots := 6, locals := 90 }
abbrev rmx_B_refuseNoWord : Room := { frames := 6, cells := 1, slots := 6, locals := 90 }
abbrev rmx_B_refuseFullQueue : Room := { frames := 6, cells := 1, slots := 6, locals := 90 }
set_option maxRecDepth 100000 in
theorem n_B_62_66 : kt_N kt_tx wsB "BankScheduler" 62 66 (kx_E 1) ["java/lang/RuntimeException", "java/lang/Exception"] := by
  refine ⟨by decide +kernel, by decide +kernel, by decide +kernel, by decide +kernel, by decide +kernel, ?_, kn_g⟩
  decide +kernel
set_option maxRecDepth 100000 in
theorem n_B_75_79 : kt_N kt_tx wsB "BankScheduler" 75 79 (kx_E 2) ["java/lang/RuntimeException", "java/lang/Exception"] := by
  refine ⟨by decide +kernel, by decide +kernel, by decide +kernel, by decide +kernel, by decide +kernel, ?_, kn_g⟩
  decide +kernel
set_option maxRecDepth 100000 in
theorem n_B_83_87 : kt_N kt_tx wsB "BankScheduler" 83 87 (kx_E 3) ["java/lang/RuntimeException", "java/lang/Exception"] := by
  refine ⟨by decide +kernel, by decide +kernel, by decide +kernel, by decide +kernel, by decide +kernel, ?_, kn_g⟩
  decide +kernel
set_option maxRecDepth 100000 in
theorem n_B_115_119 : kt_N kt_tx wsB "BankScheduler" 115 119 (kx_E 4) ["java/lang/RuntimeException", "java/lang/Exception"] := by
  refine ⟨by decide +kernel, by decide +kernel, by decide +kernel, by decide +kernel, by decide +kernel, ?_, kn_g⟩
  decide +kernel
noncomputable def pB_time (nb Q : Nat) (L : List Nat) (x1 : Int32) (x2 : Int32) (z0 : kc_S) : Option (Nat × Int32 × kc_S) := kb_br (x1 < 0) (some (1, 0, z0)) (kb_br (x1 < (nI 12)) (kb_ck (vp_in (x1) 12) (kb_br (x2 < (kt_LEAST_TIMES (kb_ix (x1)))) (some (2, 0, z0)) (kb_ck (vp_in (x1) 12) (kb_br (x2 ≤ (kt_MOST_TIMES (kb_ix (x1)))) (kb_br ((z0.1 3 3) = 0) (kb_ck (vp_in (x1) 12) (kb_ck (vp_in (x1) 12) (kb_st (kc_set z0 1 (kb_ix (x1)) (x2)) (fun z5 => some (0, z0.1 1 (kb_ix (x1)), z5))))) (some (3, 0, z0))) (some (2, 0, z0)))))) (some (1, 0, z0)))
noncomputable def pB_refuseNoWord (nb Q : Nat) (L : List Nat) (x1 : Int32) (x2 : Int32) (x3 : Int32) (z0 : kc_S) : Option (Nat × Int32 × kc_S) := kb_cl (pC_hasBank 3 nb Q L x1 z0) (fun r2 z1 => kb_br (r2 = 0) (some (1, 0, z1)) (kb_cl (pB_isRow nb Q L x2 z1) (fun r5 z4 => kb_br (r5 = 0) (some (1, 0, z4)) (kb_br (x3 < 0) (some (1, 0, z4)) (kb_br (x3 < 8) (some (0, 0, z4)) (some (1, 0, z4)))))))
noncomputable def pB_refuseFullQueue (nb Q : Nat) (L : List Nat) (z0 : kc_S) : Option (Nat × Int32 × kc_S) := kb_br ((z0.1 0 1) < (nI Q)) (some (0, 0, z0)) (some (3, 0, z0))
noncomputable def pB_read (nb Q : Nat) (L : List Nat) (x1 : Int32) (x2 : Int32) (x3 : Int32) (z0 : kc_S) : Option (Nat × Int32 × kc_S) := kx_cl (pB_refuseNoWord nb Q L x1 x2 x3 z0) (fun r2 z1 => kx_cl (pB_refuseFullQueue nb Q L  z1) (fun r8 z7 => kb_cl (pB_enqueue nb Q L 2 x1 x2 x3 0 z7) (fun r14 z13 => some (0, r14, z13))))
noncomputable def pB_write (nb Q : Nat) (L : List Nat) (x1 : Int32) (x2 : Int32) (x3 : Int32) (x4 : Int32) (z0 : kc_S) : Option (Nat × Int32 × kc_S) := kx_cl (pB_refuseNoWord nb Q L x1 x2 x3 z0) (fun r2 z1 => kx_cl (pB_refuseFullQueue nb Q L  z1) (fun r8 z7 => kb_cl (pB_enqueue nb Q L 3 x1 x2 x3 x4 z7) (fun r14 z13 => some (0, r14, z13))))
noncomputable def pB_run_L25 (nb Q : Nat) (L : List Nat) : Nat → Int32 → Int32 → Int32 → kc_S → Option (Nat × Int32 × kc_S)
  | 0, _, _, _, _ => none
  | n + 1, x1, x2, x3, z => kb_br (x1 ≤ x3) (some (0, x2, z)) (kb_cl (pB_tick nb Q L  z) (fun r2 z1 => kb_br (r2 = 0) (pB_run_L25 nb Q L n x1 x2 (x3 + 1) z1) (pB_run_L25 nb Q L n x1 (x2 + 1) (x3 + 1) z1)))
noncomputable def pB_run (nb Q : Nat) (L : List Nat) (x1 : Int32) (z0 : kc_S) : Option (Nat × Int32 × kc_S) := kb_br (x1 < 0) (some (2, 0, z0)) (kb_br (x1 ≤ 2000) (pB_run_L25 nb Q L 3000 x1 0 0 z0) (some (2, 0, z0)))
noncomputable def pB_result (nb Q : Nat) (L : List Nat) (x1 : Int32) (z0 : kc_S) : Option (Nat × Int32 × kc_S) := kb_br (x1 < 0) (some (4, 0, z0)) (kb_br ((z0.1 0 2) ≤ x1) (some (4, 0, z0)) (kb_cl (pB_isKept nb Q L x1 z0) (fun r2 z1 => kb_br (r2 = 0) (some (4, 0, z1)) (kb_ck (vp_in (x1 &&& 31) 32) (kb_br ((z1.1 20 (kb_ix (x1 &&& 31))) < (z1.1 3 3)) (kb_ck (vp_in (x1 &&& 31) 32) (some (0, z1.1 19 (kb_ix (x1 &&& 31)), z1))) (some (3, 0, z1)))))))
noncomputable def pB_word (nb Q : Nat) (L : List Nat) (x1 : Int32) (x2 : Int32) (x3 : Int32) (z0 : kc_S) : Option (Nat × Int32 × kc_S) := kx_cl (pB_refuseNoWord nb Q L x1 x2 x3 z0) (fun r2 z1 => kb_cl (pB_wordPlace nb Q L x1 x2 x3 z1) (fun r8 z7 => kb_ck (vp_in (r8) (nb * 128)) (some (0, z7.1 2 (kb_ix (r8)), z7))))
noncomputable def pB_open (nb Q : Nat) (L : List Nat) (x1 : Int32) (z0 : kc_S) : Option (Nat × Int32 × kc_S) := kb_cl (pC_hasBank 3 nb Q L x1 z0) (fun r2 z1 => kb_br (r2 = 0) (some (1, 0, z1)) (kb_ck (vp_in (x1) nb) (some (0, z1.1 4 (kb_ix (x1)), z1))))
noncomputable def pB_waiting (nb Q : Nat) (L : List Nat) (x1 : Int32) (z0 : kc_S) : Option (Nat × Int32 × kc_S) := kb_br (x1 < 0) (some (1, 0, z0)) (kb_br (x1 < (z0.1 0 1)) (kb_ck (vp_in (x1) Q) (kb_ck (z0.2.1 (kb_ix (x1)) ∈ L) (some (0, z0.2.2 (z0.2.1 (kb_ix (x1))) 5, z0)))) (some (1, 0, z0)))
noncomputable def pB_figure (nb Q : Nat) (L : List Nat) (x1 : Int32) (z0 : kc_S) : Option (Nat × Int32 × kc_S) := kb_br ((x1).toInt = 0) (some (0, z0.1 3 3, z0)) (kb_br ((x1).toInt = 1) (kb_ck (vp_in (x1 - 1) 5) (some (0, z0.1 10 (kb_ix (x1 - 1)), z0))) (kb_br ((x1).toInt = 2) (kb_ck (vp_in (x1 - 1) 5) (some (0, z0.1 10 (kb_ix (x1 - 1)), z0))) (kb_br ((x1).toInt = 3) (kb_ck (vp_in (x1 - 1) 5) (some (0, z0.1 10 (kb_ix (x1 - 1)), z0))) (kb_br ((x1).toInt = 4) (kb_ck (vp_in (x1 - 1) 5) (some (0, z0.1 10 (kb_ix (x1 - 1)), z0))) (kb_br ((x1).toInt = 5) (kb_ck (vp_in (x1 - 1) 5) (some (0, z0.1 10 (kb_ix (x1 - 1)), z0))) (kb_br ((x1).toInt = 6) (some (0, z0.1 0 1, z0)) (kb_br ((x1).toInt = 7) (some (0, z0.1 0 3, z0)) (kb_br ((x1).toInt = 8) (some (0, z0.1 3 2, z0)) (some (2, 0, z0))))))))))
noncomputable def pB_check_J96 (nb Q : Nat) (L : List Nat) (x4 : Int32) (z : kc_S) : Option (Nat × Int32 × kc_S) := kb_st (kc_set z 11 3 ((z.1 11 3) + 1)) (fun z7 => some (0, x4, z7))
noncomputable def pB_check_J69 (nb Q : Nat) (L : List Nat) (x1 : Int32) (x2 : Int32) (x3 : Int32) (z : kc_S) : Option (Nat × Int32 × kc_S) := kb_cl (pC_firstBroken 11 nb Q L x1 x2 x3 z) (fun r5 z4 => kb_br (r5 = 0) (kb_cl (pC_give 11 nb Q L x1 x2 x3 z4) (fun r10 z9 => pB_check_J96 nb Q L r5 z9)) (pB_check_J96 nb Q L r5 z4))
noncomputable def pB_check_J45 (nb Q : Nat) (L : List Nat) (x1 : Int32) (x2 : Int32) (x3 : Int32) (z : kc_S) : Option (Nat × Int32 × kc_S) := kb_cl (pB_hasRow nb Q L x1 z) (fun r2 z1 => kb_br (r2 = 0) (pB_check_J69 nb Q L x1 x2 x3 z1) (kb_cl (pB_isRow nb Q L x3 z1) (fun r13 z12 => kb_br (r13 = 0) (some (1, 0, z12)) (pB_check_J69 nb Q L x1 x2 x3 z12))))
noncomputable def pB_check (nb Q : Nat) (L : List Nat) (x1 : Int32) (x2 : Int32) (x3 : Int32) (z0 : kc_S) : Option (Nat × Int32 × kc_S) := kb_br (x1 < 0) (some (1, 0, z0)) (kb_br (x1 < 5) (kb_br (x1 = 4) (pB_check_J45 nb Q L x1 x2 x3 z0) (kb_cl (pC_hasBank 11 nb Q L x2 z0) (fun r16 z15 => kb_br (r16 = 0) (some (1, 0, z15)) (pB_check_J45 nb Q L x1 x2 x3 z15)))) (some (1, 0, z0)))
noncomputable def pB_pause (nb Q : Nat) (L : List Nat) (x1 : Int32) (z0 : kc_S) : Option (Nat × Int32 × kc_S) := kb_br (x1 < 0) (some (2, 0, z0)) (kb_br (x1 ≤ 1000) (kb_st (kc_set z0 11 3 ((z0.1 11 3) + x1)) (fun z1 => some (0, z1.1 11 3, z1))) (some (2, 0, z0)))
end
