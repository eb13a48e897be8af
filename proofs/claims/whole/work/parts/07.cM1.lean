set_option maxHeartbeats 4000000 in
set_option maxRecDepth 100000 in
theorem cM_thrown (l : Launch) (D : va_G) (cI cZ : ClassId) (a : Nat → Nat) (z0 z' : kb_S) (r : Int32) (sz : Nat) (h : pM_thrown  z0 = some (r, z')) : Met l y_M_thrown (Cond.code y_M_thrown c_M_thrown 1 (some .int) :: wsB) rm_M_thrown (kb_Pc D vwCl [(cI, .int), (cZ, .boolean)] sz [.ref (a 0)] (mW cI cZ a z0)) (kb_Qi D vwCl sz (mW cI cZ a z0) r (mW cI cZ a z')) 0 0 (va_A (mW cI cZ a z0) sz) := by
  refine kb_start (by decide) rfl (Nat.le_of_ble_eq_true rfl) ?_
  intro p e s m args below meth c A ls S hr hlk hsz hA w hl
  have hl : lv_has ls 1 [(0, .ref (a 0))] := hl
  unfold pM_thrown at h
  refine lv_aload_n S.1 S.2.1 dM_thrown_0 rfl (lv_at hl 0 rfl) ?_
  refine kb_get S w 0 rfl fM_81 rfl dM_thrown_1 ?_
  refine W.eq (g2 := F0 m 4 ls [.int (z0 0 0)]) rfl ?_
  exact kb_iret (mW cI cZ a) S hr hlk hA w h dM_thrown_4
set_option maxHeartbeats 4000000 in
set_option maxRecDepth 100000 in
theorem cM_time (l : Launch) (D : va_G) (cI cZ : ClassId) (a : Nat → Nat) (z0 z' : kb_S) (r : Int32) (sz : Nat) (x1 : Int32) (x2 : Int32) (h : pM_time x1 x2 z0 = some (r, z')) : Met l y_M_time (Cond.code y_M_time c_M_time 6 (some .int) :: wsB) rm_M_time (kb_Pc D vwCl [(cI, .int), (cZ, .boolean)] sz [.ref (a 0), .int x1, .int x2] (mW cI cZ a z0)) (kb_Qi D vwCl sz (mW cI cZ a z0) r (mW cI cZ a z')) 0 0 (va_A (mW cI cZ a z0) sz) := by
  refine kb_start (by decide) rfl (Nat.le_of_ble_eq_true rfl) ?_
  intro p e s m args below meth c A ls S hr hlk hsz hA w hl
  have hl : lv_has ls 6 [(0, .ref (a 0)), (1, .int x1), (2, .int x2)] := hl
  unfold pM_time at h
  have J93 : ∀ (x1 : Int32) (x2 : Int32) (s0 : Int32) (z : kb_S) (H : Heap) (locs : List Loc) (ls : Array Slot), lv_has ls 6 [(0, .ref (a 0)), (1, .int x1), (2, .int x2)] → kb_W D vwCl [(cI, .int), (cZ, .boolean)] A s H locs (mW cI cZ a z) → pM_time_J93 x1 x2 s0 z = some (r, z') → W p l e rm_M_time s m args below meth c H locs 0 0 (MQ below (kb_Qi D vwCl sz (mW cI cZ a z0) r (mW cI cZ a z')) args s 0 0 (va_A (mW cI cZ a z0) sz)) (F0 m 93 ls [.int s0, .ref (a 0)]) := by
    intro x1 x2 s0 z H locs ls hl w h
    unfold pM_time_J93 at h
    obtain ⟨z2, hz3, h⟩ := kb_st_of h
    refine kb_puti S w 0 rfl gM_81 (Nat.le_of_ble_eq_true rfl) (ws1 := mW cI cZ a z2) (by rw [hz3]; rfl) dM_time_93 (fun H locs w => ?_)
    refine lv_aload_n S.1 S.2.1 dM_time_96 rfl (lv_at hl 0 rfl) ?_
    refine kb_get S w 0 rfl fM_81 rfl dM_time_97 ?_
    refine W.eq (g2 := F0 m 100 ls [.int (z2 0 0)]) rfl ?_
    refine lv_if_eq (tgt := 105) S.1 S.2.1 dM_time_100 (by decide) (fun hc => ?_) (fun hc => ?_)
    · have h := (kb_brt hc).symm.trans h
      refine lv_aload_n S.1 S.2.1 dM_time_105 rfl (lv_at hl 0 rfl) ?_
      refine kb_get S w 0 rfl fM_7 rfl dM_time_106 ?_
      refine W.eq (g2 := F0 m 109 ls [.ref (a 1)]) rfl ?_
      refine lv_iload_n S.1 S.2.1 dM_time_109 rfl (lv_at hl 1 rfl) ?_
      obtain ⟨hi4, h⟩ := kb_ck_of h
      refine kb_iald S w 1 0 rfl rfl hi4 dM_time_110 ?_
      refine W.eq (g2 := F0 m 111 ls [.int (z2 1 (kb_ix (x1)))]) rfl ?_
      refine lv_istore S.1 S.2.1 dM_time_111 hl (by decide) rfl (fun ls hl => ?_)
      have hl : lv_has ls 6 [(5, .int (z2 1 (kb_ix (x1)))), (0, .ref (a 0)), (1, .int x1), (2, .int x2)] := hl
      refine lv_aload_n S.1 S.2.1 dM_time_113 rfl (lv_at hl 1 rfl) ?_
      refine kb_get S w 0 rfl fM_7 rfl dM_time_114 ?_
      refine W.eq (g2 := F0 m 117 ls [.ref (a 1)]) rfl ?_
      refine lv_iload_n S.1 S.2.1 dM_time_117 rfl (lv_at hl 2 rfl) ?_
      refine lv_iload_n S.1 S.2.1 dM_time_118 rfl (lv_at hl 3 rfl) ?_
      obtain ⟨hi5, h⟩ := kb_ck_of h
      obtain ⟨z6, hz7, h⟩ := kb_st_of h
      refine kb_iast S w 1 0 rfl rfl hi5 (ws1 := mW cI cZ a z6) (by rw [hz7]; rfl) dM_time_119 (fun H locs w => ?_)
      refine lv_iload S.1 S.2.1 dM_time_120 (lv_at hl 0 rfl) ?_
      exact kb_iret (mW cI cZ a) S hr hlk hA w h dM_time_122
    · have h := (kb_brf hc).symm.trans h
      refine lv_iconst (v := 0) S.1 S.2.1 dM_time_103 (by decide) ?_
      exact kb_iret (mW cI cZ a) S hr hlk hA w h dM_time_104
  have J59 : ∀ (x1 : Int32) (x2 : Int32) (x3 : Int32) (s0 : Int32) (z : kb_S) (H : Heap) (locs : List Loc) (ls : Array Slot), lv_has ls 6 [(0, .ref (a 0)), (1, .int x1), (2, .int x2), (3, .int x3)] → kb_W D vwCl [(cI, .int), (cZ, .boolean)] A s H locs (mW cI cZ a z) → pM_time_J59 x1 x2 x3 s0 z = some (r, z') → W p l e rm_M_time s m args below meth c H locs 0 0 (MQ below (kb_Qi D vwCl sz (mW cI cZ a z0) r (mW cI cZ a z')) args s 0 0 (va_A (mW cI cZ a z0) sz)) (F0 m 59 ls [.int s0]) := by
    intro x1 x2 x3 s0 z H locs ls hl w h
    unfold pM_time_J59 at h
    refine lv_istore S.1 S.2.1 dM_time_59 hl (by decide) rfl (fun ls hl => ?_)
    have hl : lv_has ls 6 [(4, .int s0), (0, .ref (a 0)), (1, .int x1), (2, .int x2), (3, .int x3)] := hl
    refine lv_aload_n S.1 S.2.1 dM_time_61 rfl (lv_at hl 1 rfl) ?_
    refine lv_iload_n S.1 S.2.1 dM_time_62 rfl (lv_at hl 4 rfl) ?_
    refine lv_if_ne (tgt := 70) S.1 S.2.1 dM_time_63 (by decide) (fun hc => ?_) (fun hc => ?_)
    · have h := (kb_brf hc).symm.trans h
      refine lv_iload S.1 S.2.1 dM_time_70 (lv_at hl 0 rfl) ?_
      refine lv_if_ne (tgt := 79) S.1 S.2.1 dM_time_72 (by decide) (fun hc => ?_) (fun hc => ?_)
      · have h := (kb_brf hc).symm.trans h
        refine lv_aload_n S.1 S.2.1 dM_time_79 rfl (lv_at hl 1 rfl) ?_
        refine kb_get S w 0 rfl fM_34 rfl dM_time_80 ?_
        refine W.eq (g2 := F0 m 83 ls [.ref (a 9), .ref (a 0)]) rfl ?_
        refine lv_iconst (v := 0) S.1 S.2.1 dM_time_83 (by decide) ?_
        obtain ⟨hi1, h⟩ := kb_ck_of h
        refine kb_iald S w 9 0 rfl rfl hi1 dM_time_84 ?_
        refine W.eq (g2 := F0 m 85 ls [.int (z 9 (kb_ix (0))), .ref (a 0)]) rfl ?_
        refine lv_if_le (tgt := 92) S.1 S.2.1 dM_time_85 (by decide) (fun hc => ?_) (fun hc => ?_)
        · have h := (kb_brt hc).symm.trans h
          refine lv_iconst (v := 0) S.1 S.2.1 dM_time_92 (by decide) ?_
          exact J93 x1 x2 0 z _ _ _ (lv_sub hl [1, 2, 3] rfl) w h
        · have h := (kb_brf hc).symm.trans h
          refine lv_iconst (v := 3) S.1 S.2.1 dM_time_88 (by decide) ?_
          refine lv_goto (tgt := 93) S.1 S.2.1 dM_time_89 (by decide) ?_
          exact J93 x1 x2 3 z _ _ _ (lv_sub hl [1, 2, 3] rfl) w h
      · have h := (kb_brt hc).symm.trans h
        refine lv_iconst (v := 2) S.1 S.2.1 dM_time_75 (by decide) ?_
        refine lv_goto (tgt := 93) S.1 S.2.1 dM_time_76 (by decide) ?_
        exact J93 x1 x2 2 z _ _ _ (lv_sub hl [1, 2, 3] rfl) w h
    · have h := (kb_brt hc).symm.trans h
      refine lv_iconst (v := 1) S.1 S.2.1 dM_time_66 (by decide) ?_
      refine lv_goto (tgt := 93) S.1 S.2.1 dM_time_67 (by decide) ?_
      exact J93 x1 x2 1 z _ _ _ (lv_sub hl [1, 2, 3] rfl) w h
  have J58 : ∀ (x1 : Int32) (x2 : Int32) (x3 : Int32) (z : kb_S) (H : Heap) (locs : List Loc) (ls : Array Slot), lv_has ls 6 [(0, .ref (a 0)), (1, .int x1), (2, .int x2), (3, .int x3)] → kb_W D vwCl [(cI, .int), (cZ, .boolean)] A s H locs (mW cI cZ a z) → pM_time_J58 x1 x2 x3 z = some (r, z') → W p l e rm_M_time s m args below meth c H locs 0 0 (MQ below (kb_Qi D vwCl sz (mW cI cZ a z0) r (mW cI cZ a z')) args s 0 0 (va_A (mW cI cZ a z0) sz)) (F0 m 58 ls []) := by
    intro x1 x2 x3 z H locs ls hl w h
    unfold pM_time_J58 at h
    refine lv_iconst (v := 0) S.1 S.2.1 dM_time_58 (by decide) ?_
    exact J59 x1 x2 x3 0 z _ _ _ (lv_sub hl [0, 1, 2, 3] rfl) w h
  have J39 : ∀ (x1 : Int32) (x2 : Int32) (x3 : Int32) (z : kb_S) (H : Heap) (locs : List Loc) (ls : Array Slot), lv_has ls 6 [(0, .ref (a 0)), (1, .int x1), (2, .int x2), (3, .int x3)] → kb_W D vwCl [(cI, .int), (cZ, .boolean)] A s H locs (mW cI cZ a z) → pM_time_J39 x1 x2 x3 z = some (r, z') → W p l e rm_M_time s m args below meth c H locs 0 0 (MQ below (kb_Qi D vwCl sz (mW cI cZ a z0) r (mW cI cZ a z')) args s 0 0 (va_A (mW cI cZ a z0) sz)) (F0 m 39 ls []) := by
    intro x1 x2 x3 z H locs ls hl w h
    unfold pM_time_J39 at h
    refine lv_iconst (v := 0) S.1 S.2.1 dM_time_39 (by decide) ?_
    refine lv_goto (tgt := 59) S.1 S.2.1 dM_time_40 (by decide) ?_
    exact J59 x1 x2 x3 0 z _ _ _ (lv_sub hl [0, 1, 2, 3] rfl) w h
  have J15 : ∀ (x1 : Int32) (x2 : Int32) (s0 : Int32) (z : kb_S) (H : Heap) (locs : List Loc) (ls : Array Slot), lv_has ls 6 [(0, .ref (a 0)), (1, .int x1), (2, .int x2)] → kb_W D vwCl [(cI, .int), (cZ, .boolean)] A s H locs (mW cI cZ a z) → pM_time_J15 x1 x2 s0 z = some (r, z') → W p l e rm_M_time s m args below meth c H locs 0 0 (MQ below (kb_Qi D vwCl sz (mW cI cZ a z0) r (mW cI cZ a z')) args s 0 0 (va_A (mW cI cZ a z0) sz)) (F0 m 15 ls [.int s0]) := by
    intro x1 x2 s0 z H locs ls hl w h
    unfold pM_time_J15 at h
    refine lv_istore_n S.1 S.2.1 dM_time_15 rfl hl (by decide) rfl (fun ls hl => ?_)
    have hl : lv_has ls 6 [(3, .int s0), (0, .ref (a 0)), (1, .int x1), (2, .int x2)] := hl
    refine lv_iload_n S.1 S.2.1 dM_time_16 rfl (lv_at hl 2 rfl) ?_
    refine lv_bipush (v := 10) S.1 S.2.1 dM_time_17 (by decide) ?_
    refine lv_icmp_ne (tgt := 43) S.1 S.2.1 dM_time_19 (by decide) (fun hc => ?_) (fun hc => ?_)
    · have h := (kb_brf hc).symm.trans h
      refine lv_iload_n S.1 S.2.1 dM_time_43 rfl (lv_at hl 3 rfl) ?_
      refine lv_iconst (v := 1) S.1 S.2.1 dM_time_44 (by decide) ?_
      refine lv_icmp_lt (tgt := 58) S.1 S.2.1 dM_time_45 (by decide) (fun hc => ?_) (fun hc => ?_)
      · have h := (kb_brt hc).symm.trans h
        exact J58 x1 x2 s0 z _ _ _ (lv_sub hl [1, 2, 3, 0] rfl) w h
      · have h := (kb_brf hc).symm.trans h
        refine lv_iload_n S.1 S.2.1 dM_time_48 rfl (lv_at hl 3 rfl) ?_
        refine lv_bipush (v := 20) S.1 S.2.1 dM_time_49 (by decide) ?_
        refine lv_icmp_gt (tgt := 58) S.1 S.2.1 dM_time_51 (by decide) (fun hc => ?_) (fun hc => ?_)
        · have h := (kb_brt hc).symm.trans h
          exact J58 x1 x2 s0 z _ _ _ (lv_sub hl [1, 2, 3, 0] rfl) w h
        · have h := (kb_brf hc).symm.trans h
          refine lv_iconst (v := 1) S.1 S.2.1 dM_time_54 (by decide) ?_
          refine lv_goto (tgt := 59) S.1 S.2.1 dM_time_55 (by decide) ?_
          exact J59 x1 x2 s0 1 z _ _ _ (lv_sub hl [1, 2, 3, 0] rfl) w h
    · have h := (kb_brt hc).symm.trans h
      refine lv_iload_n S.1 S.2.1 dM_time_22 rfl (lv_at hl 3 rfl) ?_
      refine lv_bipush (v := 20) S.1 S.2.1 dM_time_23 (by decide) ?_
      refine lv_icmp_lt (tgt := 39) S.1 S.2.1 dM_time_25 (by decide) (fun hc => ?_) (fun hc => ?_)
      · have h := (kb_brt hc).symm.trans h
        exact J39 x1 x2 s0 z _ _ _ (lv_sub hl [1, 2, 3, 0] rfl) w h
      · have h := (kb_brf hc).symm.trans h
        refine lv_iload_n S.1 S.2.1 dM_time_28 rfl (lv_at hl 3 rfl) ?_
        refine lv_sipush (v := 200) S.1 S.2.1 dM_time_29 (by decide) ?_
        refine lv_icmp_gt (tgt := 39) S.1 S.2.1 dM_time_32 (by decide) (fun hc => ?_) (fun hc => ?_)
        · have h := (kb_brt hc).symm.trans h
          exact J39 x1 x2 s0 z _ _ _ (lv_sub hl [1, 2, 3, 0] rfl) w h
        · have h := (kb_brf hc).symm.trans h
          refine lv_iconst (v := 1) S.1 S.2.1 dM_time_35 (by decide) ?_
          refine lv_goto (tgt := 59) S.1 S.2.1 dM_time_36 (by decide) ?_
          exact J59 x1 x2 s0 1 z _ _ _ (lv_sub hl [1, 2, 3, 0] rfl) w h
  have J14 : ∀ (x1 : Int32) (x2 : Int32) (z : kb_S) (H : Heap) (locs : List Loc) (ls : Array Slot), lv_has ls 6 [(0, .ref (a 0)), (1, .int x1), (2, .int x2)] → kb_W D vwCl [(cI, .int), (cZ, .boolean)] A s H locs (mW cI cZ a z) → pM_time_J14 x1 x2 z = some (r, z') → W p l e rm_M_time s m args below meth c H locs 0 0 (MQ below (kb_Qi D vwCl sz (mW cI cZ a z0) r (mW cI cZ a z')) args s 0 0 (va_A (mW cI cZ a z0) sz)) (F0 m 14 ls []) := by
    intro x1 x2 z H locs ls hl w h
    unfold pM_time_J14 at h
    refine lv_iconst (v := 0) S.1 S.2.1 dM_time_14 (by decide) ?_
    exact J15 x1 x2 0 z _ _ _ (lv_sub hl [0, 1, 2] rfl) w h
  refine lv_iload_n S.1 S.2.1 dM_time_0 rfl (lv_at hl 1 rfl) ?_
  refine lv_if_lt (tgt := 14) S.1 S.2.1 dM_time_1 (by decide) (fun hc => ?_) (fun hc => ?_)
  · have h := (kb_brt hc).symm.trans h
    exact J14 x1 x2 z0 _ _ _ (lv_sub hl [0, 1, 2] rfl) w h
  · have h := (kb_brf hc).symm.trans h
    refine lv_iload_n S.1 S.2.1 dM_time_4 rfl (lv_at hl 1 rfl) ?_
    refine lv_bipush (v := 12) S.1 S.2.1 dM_time_5 (by decide) ?_
    refine lv_icmp_ge (tgt := 14) S.1 S.2.1 dM_time_7 (by decide) (fun hc => ?_) (fun hc => ?_)
    · have h := (kb_brt hc).symm.trans h
      exact J14 x1 x2 z0 _ _ _ (lv_sub hl [0, 1, 2] rfl) w h
    · have h := (kb_brf hc).symm.trans h
      refine lv_iconst (v := 1) S.1 S.2.1 dM_time_10 (by decide) ?_
      refine lv_goto (tgt := 15) S.1 S.2.1 dM_time_11 (by decide) ?_
      exact J15 x1 x2 1 z0 _ _ _ (lv_sub hl [0, 1, 2] rfl) w h
set_option maxHeartbeats 4000000 in
set_option maxRecDepth 100000 in
theorem cM_early (l : Launch) (D : va_G) (cI cZ : ClassId) (a : Nat → Nat) (z0 z' : kb_S) (r : Int32) (sz : Nat) (x1 : Int32) (x2 : Int32) (x3 : Int32) (h : pM_early x1 x2 x3 z0 = some (r, z')) : Met l y_M_early (Cond.code y_M_early c_M_early 4 (some .boolean) :: wsB) rm_M_early (kb_Pc D vwCl [(cI, .int), (cZ, .boolean)] sz [.ref (a 0), .int x1, .int x2, .int x3] (mW cI cZ a z0)) (kb_Qi D vwCl sz (mW cI cZ a z0) r (mW cI cZ a z')) 0 0 (va_A (mW cI cZ a z0) sz) := by
  refine kb_start (by decide) rfl (Nat.le_of_ble_eq_true rfl) ?_
  intro p e s m args below meth c A ls S hr hlk hsz hA w hl
  have hl : lv_has ls 4 [(0, .ref (a 0)), (1, .int x1), (2, .int x2), (3, .int x3)] := hl
  unfold pM_early at h
  refine lv_iload_n S.1 S.2.1 dM_early_0 rfl (lv_at hl 2 rfl) ?_
  refine lv_if_lt (tgt := 25) S.1 S.2.1 dM_early_1 (by decide) (fun hc => ?_) (fun hc => ?_)
  · have h := (kb_brt hc).symm.trans h
    refine lv_iconst (v := 0) S.1 S.2.1 dM_early_25 (by decide) ?_
    exact kb_zret (mW cI cZ a) S hr hlk hA w h (by decide) dM_early_26
  · have h := (kb_brf hc).symm.trans h
    refine lv_aload_n S.1 S.2.1 dM_early_4 rfl (lv_at hl 0 rfl) ?_
    refine kb_get S w 0 rfl fM_34 rfl dM_early_5 ?_
    refine W.eq (g2 := F0 m 8 ls [.ref (a 9)]) rfl ?_
    refine lv_iload_n S.1 S.2.1 dM_early_8 rfl (lv_at hl 1 rfl) ?_
    obtain ⟨hi1, h⟩ := kb_ck_of h
    refine kb_iald S w 9 0 rfl rfl hi1 dM_early_9 ?_
    refine W.eq (g2 := F0 m 10 ls [.int (z0 9 (kb_ix (x1)))]) rfl ?_
    refine lv_iload_n S.1 S.2.1 dM_early_10 rfl (lv_at hl 2 rfl) ?_
    refine lv_isub S.1 S.2.1 dM_early_11 ?_
    refine lv_aload_n S.1 S.2.1 dM_early_12 rfl (lv_at hl 0 rfl) ?_
    refine kb_get S w 0 rfl fM_7 rfl dM_early_13 ?_
    refine W.eq (g2 := F0 m 16 ls [.ref (a 1), .int ((z0 9 (kb_ix (x1))) - x2)]) rfl ?_
    refine lv_iload_n S.1 S.2.1 dM_early_16 rfl (lv_at hl 3 rfl) ?_
    obtain ⟨hi2, h⟩ := kb_ck_of h
    refine kb_iald S w 1 0 rfl rfl hi2 dM_early_17 ?_
    refine W.eq (g2 := F0 m 18 ls [.int (z0 1 (kb_ix (x3))), .int ((z0 9 (kb_ix (x1))) - x2)]) rfl ?_
    refine lv_icmp_ge (tgt := 25) S.1 S.2.1 dM_early_18 (by decide) (fun hc => ?_) (fun hc => ?_)
    · have h := (kb_brt hc).symm.trans h
      refine lv_iconst (v := 0) S.1 S.2.1 dM_early_25 (by decide) ?_
      exact kb_zret (mW cI cZ a) S hr hlk hA w h (by decide) dM_early_26
    · have h := (kb_brf hc).symm.trans h
      refine lv_iconst (v := 1) S.1 S.2.1 dM_early_21 (by decide) ?_
      refine lv_goto (tgt := 26) S.1 S.2.1 dM_early_22 (by decide) ?_
      exact kb_zret (mW cI cZ a) S hr hlk hA w h (by decide) dM_early_26
set_option maxHeartbeats 4000000 in
set_option maxRecDepth 100000 in
theorem cM_brokenOpen (l : Launch) (D : va_G) (cI cZ : ClassId) (a : Nat → Nat) (z0 z' : kb_S) (r : Int32) (sz : Nat) (x1 : Int32) (x2 : Int32) (h : pM_brokenOpen x1 x2 z0 = some (r, z')) : Met l y_M_brokenOpen (Cond.code y_M_brokenOpen c_M_brokenOpen 7 (some .int) :: wsB) rm_M_brokenOpen (kb_Pc D vwCl [(cI, .int), (cZ, .boolean)] sz [.ref (a 0), .int x1, .int x2] (mW cI cZ a z0)) (kb_Qi D vwCl sz (mW cI cZ a z0) r (mW cI cZ a z')) 0 0 (va_A (mW cI cZ a z0) sz) := by
  refine kb_start (by decide) rfl (Nat.le_of_ble_eq_true rfl) ?_
  intro p e s m args below meth c A ls S hr hlk hsz hA w hl
  have hl : lv_has ls 7 [(0, .ref (a 0)), (1, .int x1), (2, .int x2)] := hl
  unfold pM_brokenOpen at h
  have L13 : ∀ (n : Nat) (x1 : Int32) (x2 : Int32) (x3 : Int32) (x4 : Int32) (x5 : Int32) (z : kb_S) (H : Heap) (locs : List Loc) (ls : Array Slot), lv_has ls 7 [(0, .ref (a 0)), (1, .int x1), (2, .int x2), (3, .int x3), (4, .int x4), (5, .int x5)] → kb_W D vwCl [(cI, .int), (cZ, .boolean)] A s H locs (mW cI cZ a z) → pM_brokenOpen_L13 n x1 x2 x3 x4 x5 z = some (r, z') → W p l e rm_M_brokenOpen s m args below meth c H locs 0 0 (MQ below (kb_Qi D vwCl sz (mW cI cZ a z0) r (mW cI cZ a z')) args s 0 0 (va_A (mW cI cZ a z0) sz)) (F0 m 13 ls []) := by
    intro n
    induction n with
    | zero =>
      intro x1 x2 x3 x4 x5 z H locs ls hl w h
      exact absurd h (by simp [pM_brokenOpen_L13])
    | succ n ih =>
      intro x1 x2 x3 x4 x5 z H locs ls hl w h
      rw [pM_brokenOpen_L13] at h
      refine lv_iload S.1 S.2.1 dM_brokenOpen_13 (lv_at hl 5 rfl) ?_
      refine lv_aload_n S.1 S.2.1 dM_brokenOpen_15 rfl (lv_at hl 0 rfl) ?_
      refine kb_get S w 0 rfl fM_71 rfl dM_brokenOpen_16 ?_
      refine W.eq (g2 := F0 m 19 ls [.int (z 0 1), .int x5]) rfl ?_
      refine lv_icmp_ge (tgt := 64) S.1 S.2.1 dM_brokenOpen_19 (by decide) (fun hc => ?_) (fun hc => ?_)
      · have h := (kb_brt hc).symm.trans h
        refine lv_aload_n S.1 S.2.1 dM_brokenOpen_64 rfl (lv_at hl 0 rfl) ?_
        refine kb_get S w 0 rfl fM_13 rfl dM_brokenOpen_65 ?_
        refine W.eq (g2 := F0 m 68 ls [.ref (a 2)]) rfl ?_
        refine lv_iload_n S.1 S.2.1 dM_brokenOpen_68 rfl (lv_at hl 3 rfl) ?_
        obtain ⟨hi1, h⟩ := kb_ck_of h
        refine kb_iald S w 2 0 rfl rfl hi1 dM_brokenOpen_69 ?_
        refine W.eq (g2 := F0 m 70 ls [.int (z 2 (kb_ix (x3)))]) rfl ?_
        refine lv_if_lt (tgt := 75) S.1 S.2.1 dM_brokenOpen_70 (by decide) (fun hc => ?_) (fun hc => ?_)
        · have h := (kb_brt hc).symm.trans h
          refine lv_aload_n S.1 S.2.1 dM_brokenOpen_75 rfl (lv_at hl 0 rfl) ?_
          refine lv_iload_n S.1 S.2.1 dM_brokenOpen_76 rfl (lv_at hl 1 rfl) ?_
          refine lv_aload_n S.1 S.2.1 dM_brokenOpen_77 rfl (lv_at hl 0 rfl) ?_
          refine kb_get S w 0 rfl fM_19 rfl dM_brokenOpen_78 ?_
          refine W.eq (g2 := F0 m 81 ls [.ref (a 4), .int x1, .ref (a 0)]) rfl ?_
          refine lv_iload_n S.1 S.2.1 dM_brokenOpen_81 rfl (lv_at hl 3 rfl) ?_
          obtain ⟨hi2, h⟩ := kb_ck_of h
          refine kb_iald S w 4 0 rfl rfl hi2 dM_brokenOpen_82 ?_
          refine W.eq (g2 := F0 m 83 ls [.int (z 4 (kb_ix (x3))), .int x1, .ref (a 0)]) rfl ?_
          refine lv_iconst (v := 1) S.1 S.2.1 dM_brokenOpen_83 (by decide) ?_
          obtain ⟨r4, z3, hc5, h⟩ := kb_cl_of h
          refine kb_calli (As := [.int x1, .int (z 4 (kb_ix (x3))), .int 1]) (rest := []) (q0 := 0) (ci := 3) S w (fun sz => cM_early l D cI cZ a _ _ _ sz x1 (z 4 (kb_ix (x3))) 1 hc5) Y_M_early I_M_early S_M_early lM_84 ⟨rfl, rfl, Nat.le_of_ble_eq_true rfl, Nat.le_of_ble_eq_true rfl⟩ rfl rfl rfl rfl hl.1 rfl (Nat.le_of_ble_eq_true rfl) dM_brokenOpen_84 ⟨Nat.le_of_ble_eq_true rfl, Nat.le_of_ble_eq_true rfl⟩ (fun H locs w => ?_)
          refine lv_if_eq (tgt := 92) S.1 S.2.1 dM_brokenOpen_87 (by decide) (fun hc => ?_) (fun hc => ?_)
          · have h := (kb_brt hc).symm.trans h
            refine lv_aload_n S.1 S.2.1 dM_brokenOpen_92 rfl (lv_at hl 0 rfl) ?_
            refine lv_iload_n S.1 S.2.1 dM_brokenOpen_93 rfl (lv_at hl 1 rfl) ?_
            refine lv_aload_n S.1 S.2.1 dM_brokenOpen_94 rfl (lv_at hl 0 rfl) ?_
            refine kb_get S w 0 rfl fM_16 rfl dM_brokenOpen_95 ?_
            refine W.eq (g2 := F0 m 98 ls [.ref (a 3), .int x1, .ref (a 0)]) rfl ?_
            refine lv_iload_n S.1 S.2.1 dM_brokenOpen_98 rfl (lv_at hl 3 rfl) ?_
            obtain ⟨hi6, h⟩ := kb_ck_of h
            refine kb_iald S w 3 0 rfl rfl hi6 dM_brokenOpen_99 ?_
            refine W.eq (g2 := F0 m 100 ls [.int (z3 3 (kb_ix (x3))), .int x1, .ref (a 0)]) rfl ?_
            refine lv_iconst (v := 3) S.1 S.2.1 dM_brokenOpen_100 (by decide) ?_
            obtain ⟨r8, z7, hc9, h⟩ := kb_cl_of h
            refine kb_calli (As := [.int x1, .int (z3 3 (kb_ix (x3))), .int 3]) (rest := []) (q0 := 0) (ci := 3) S w (fun sz => cM_early l D cI cZ a _ _ _ sz x1 (z3 3 (kb_ix (x3))) 3 hc9) Y_M_early I_M_early S_M_early lM_84 ⟨rfl, rfl, Nat.le_of_ble_eq_true rfl, Nat.le_of_ble_eq_true rfl⟩ rfl rfl rfl rfl hl.1 rfl (Nat.le_of_ble_eq_true rfl) dM_brokenOpen_101 ⟨Nat.le_of_ble_eq_true rfl, Nat.le_of_ble_eq_true rfl⟩ (fun H locs w => ?_)
            refine lv_if_eq (tgt := 109) S.1 S.2.1 dM_brokenOpen_104 (by decide) (fun hc => ?_) (fun hc => ?_)
            · have h := (kb_brt hc).symm.trans h
              refine lv_aload_n S.1 S.2.1 dM_brokenOpen_109 rfl (lv_at hl 0 rfl) ?_
              refine lv_iload_n S.1 S.2.1 dM_brokenOpen_110 rfl (lv_at hl 1 rfl) ?_
              refine lv_iload S.1 S.2.1 dM_brokenOpen_111 (lv_at hl 4 rfl) ?_
              refine lv_bipush (v := 7) S.1 S.2.1 dM_brokenOpen_113 (by decide) ?_
              obtain ⟨r11, z10, hc12, h⟩ := kb_cl_of h
              refine kb_calli (As := [.int x1, .int x4, .int 7]) (rest := []) (q0 := 0) (ci := 3) S w (fun sz => cM_early l D cI cZ a _ _ _ sz x1 x4 7 hc12) Y_M_early I_M_early S_M_early lM_84 ⟨rfl, rfl, Nat.le_of_ble_eq_true rfl, Nat.le_of_ble_eq_true rfl⟩ rfl rfl rfl rfl hl.1 rfl (Nat.le_of_ble_eq_true rfl) dM_brokenOpen_115 ⟨Nat.le_of_ble_eq_true rfl, Nat.le_of_ble_eq_true rfl⟩ (fun H locs w => ?_)
              refine lv_if_eq (tgt := 123) S.1 S.2.1 dM_brokenOpen_118 (by decide) (fun hc => ?_) (fun hc => ?_)
              · have h := (kb_brt hc).symm.trans h
                refine lv_aload_n S.1 S.2.1 dM_brokenOpen_123 rfl (lv_at hl 0 rfl) ?_
                refine lv_iload_n S.1 S.2.1 dM_brokenOpen_124 rfl (lv_at hl 1 rfl) ?_
                refine lv_aload_n S.1 S.2.1 dM_brokenOpen_125 rfl (lv_at hl 0 rfl) ?_
                refine kb_get S w 0 rfl fM_28 rfl dM_brokenOpen_126 ?_
                refine W.eq (g2 := F0 m 129 ls [.ref (a 7), .int x1, .ref (a 0)]) rfl ?_
                refine lv_iconst (v := 4) S.1 S.2.1 dM_brokenOpen_129 (by decide) ?_
                refine lv_iload_n S.1 S.2.1 dM_brokenOpen_130 rfl (lv_at hl 1 rfl) ?_
                refine lv_imul S.1 S.2.1 dM_brokenOpen_131 ?_
                refine lv_iconst (v := 3) S.1 S.2.1 dM_brokenOpen_132 (by decide) ?_
                refine lv_iadd S.1 S.2.1 dM_brokenOpen_133 ?_
                obtain ⟨hi13, h⟩ := kb_ck_of h
                refine kb_iald S w 7 0 rfl rfl hi13 dM_brokenOpen_134 ?_
                refine W.eq (g2 := F0 m 135 ls [.int (z10 7 (kb_ix ((4 * x1) + 3))), .int x1, .ref (a 0)]) rfl ?_
                refine lv_bipush (v := 8) S.1 S.2.1 dM_brokenOpen_135 (by decide) ?_
                obtain ⟨r15, z14, hc16, h⟩ := kb_cl_of h
                refine kb_calli (As := [.int x1, .int (z10 7 (kb_ix ((4 * x1) + 3))), .int 8]) (rest := []) (q0 := 0) (ci := 3) S w (fun sz => cM_early l D cI cZ a _ _ _ sz x1 (z10 7 (kb_ix ((4 * x1) + 3))) 8 hc16) Y_M_early I_M_early S_M_early lM_84 ⟨rfl, rfl, Nat.le_of_ble_eq_true rfl, Nat.le_of_ble_eq_true rfl⟩ rfl rfl rfl rfl hl.1 rfl (Nat.le_of_ble_eq_true rfl) dM_brokenOpen_137 ⟨Nat.le_of_ble_eq_true rfl, Nat.le_of_ble_eq_true rfl⟩ (fun H locs w => ?_)
                refine lv_if_eq (tgt := 145) S.1 S.2.1 dM_brokenOpen_140 (by decide) (fun hc => ?_) (fun hc => ?_)
                · have h := (kb_brt hc).symm.trans h
                  refine lv_aload_n S.1 S.2.1 dM_brokenOpen_145 rfl (lv_at hl 0 rfl) ?_
                  refine lv_iload_n S.1 S.2.1 dM_brokenOpen_146 rfl (lv_at hl 1 rfl) ?_
                  refine lv_aload_n S.1 S.2.1 dM_brokenOpen_147 rfl (lv_at hl 0 rfl) ?_
                  refine kb_get S w 0 rfl fM_31 rfl dM_brokenOpen_148 ?_
                  refine W.eq (g2 := F0 m 151 ls [.ref (a 8), .int x1, .ref (a 0)]) rfl ?_
                  refine lv_iload_n S.1 S.2.1 dM_brokenOpen_151 rfl (lv_at hl 1 rfl) ?_
                  obtain ⟨hi17, h⟩ := kb_ck_of h
                  refine kb_iald S w 8 0 rfl rfl hi17 dM_brokenOpen_152 ?_
                  refine W.eq (g2 := F0 m 153 ls [.int (z14 8 (kb_ix (x1))), .int x1, .ref (a 0)]) rfl ?_
                  refine lv_bipush (v := 9) S.1 S.2.1 dM_brokenOpen_153 (by decide) ?_
                  obtain ⟨r19, z18, hc20, h⟩ := kb_cl_of h
                  refine kb_calli (As := [.int x1, .int (z14 8 (kb_ix (x1))), .int 9]) (rest := []) (q0 := 0) (ci := 3) S w (fun sz => cM_early l D cI cZ a _ _ _ sz x1 (z14 8 (kb_ix (x1))) 9 hc20) Y_M_early I_M_early S_M_early lM_84 ⟨rfl, rfl, Nat.le_of_ble_eq_true rfl, Nat.le_of_ble_eq_true rfl⟩ rfl rfl rfl rfl hl.1 rfl (Nat.le_of_ble_eq_true rfl) dM_brokenOpen_155 ⟨Nat.le_of_ble_eq_true rfl, Nat.le_of_ble_eq_true rfl⟩ (fun H locs w => ?_)
                  refine lv_if_eq (tgt := 166) S.1 S.2.1 dM_brokenOpen_158 (by decide) (fun hc => ?_) (fun hc => ?_)
                  · have h := (kb_brt hc).symm.trans h
                    refine lv_iconst (v := 0) S.1 S.2.1 dM_brokenOpen_166 (by decide) ?_
                    exact kb_iret (mW cI cZ a) S hr hlk hA w h dM_brokenOpen_167
                  · have h := (kb_brf hc).symm.trans h
                    refine lv_bipush (v := 6) S.1 S.2.1 dM_brokenOpen_161 (by decide) ?_
                    refine lv_goto (tgt := 167) S.1 S.2.1 dM_brokenOpen_163 (by decide) ?_
                    exact kb_iret (mW cI cZ a) S hr hlk hA w h dM_brokenOpen_167
                · have h := (kb_brf hc).symm.trans h
                  refine lv_iconst (v := 5) S.1 S.2.1 dM_brokenOpen_143 (by decide) ?_
                  exact kb_iret (mW cI cZ a) S hr hlk hA w h dM_brokenOpen_144
              · have h := (kb_brf hc).symm.trans h
                refine lv_iconst (v := 4) S.1 S.2.1 dM_brokenOpen_121 (by decide) ?_
                exact kb_iret (mW cI cZ a) S hr hlk hA w h dM_brokenOpen_122
            · have h := (kb_brf hc).symm.trans h
              refine lv_iconst (v := 3) S.1 S.2.1 dM_brokenOpen_107 (by decide) ?_
              exact kb_iret (mW cI cZ a) S hr hlk hA w h dM_brokenOpen_108
          · have h := (kb_brf hc).symm.trans h
            refine lv_iconst (v := 2) S.1 S.2.1 dM_brokenOpen_90 (by decide) ?_
            exact kb_iret (mW cI cZ a) S hr hlk hA w h dM_brokenOpen_91
        · have h := (kb_brf hc).symm.trans h
          refine lv_iconst (v := 1) S.1 S.2.1 dM_brokenOpen_73 (by decide) ?_
          exact kb_iret (mW cI cZ a) S hr hlk hA w h dM_brokenOpen_74
      · have h := (kb_brf hc).symm.trans h
        refine lv_aload_n S.1 S.2.1 dM_brokenOpen_22 rfl (lv_at hl 0 rfl) ?_
        refine kb_get S w 0 rfl fM_16 rfl dM_brokenOpen_23 ?_
        refine W.eq (g2 := F0 m 26 ls [.ref (a 3)]) rfl ?_
        refine lv_bipush (v := 8) S.1 S.2.1 dM_brokenOpen_26 (by decide) ?_
        refine lv_iload_n S.1 S.2.1 dM_brokenOpen_28 rfl (lv_at hl 1 rfl) ?_
        refine lv_imul S.1 S.2.1 dM_brokenOpen_29 ?_
        refine lv_iload S.1 S.2.1 dM_brokenOpen_30 (lv_at hl 5 rfl) ?_
        refine lv_iadd S.1 S.2.1 dM_brokenOpen_32 ?_
        obtain ⟨hi21, h⟩ := kb_ck_of h
        refine kb_iald S w 3 0 rfl rfl hi21 dM_brokenOpen_33 ?_
        refine W.eq (g2 := F0 m 34 ls [.int (z 3 (kb_ix ((8 * x1) + x5)))]) rfl ?_
        refine lv_istore S.1 S.2.1 dM_brokenOpen_34 hl (by decide) rfl (fun ls hl => ?_)
        have hl : lv_has ls 7 [(6, .int (z 3 (kb_ix ((8 * x1) + x5)))), (0, .ref (a 0)), (1, .int x1), (2, .int x2), (3, .int x3), (4, .int x4), (5, .int x5)] := hl
        refine lv_iload S.1 S.2.1 dM_brokenOpen_36 (lv_at hl 6 rfl) ?_
        refine lv_iload_n S.1 S.2.1 dM_brokenOpen_38 rfl (lv_at hl 3 rfl) ?_
        refine lv_icmp_eq (tgt := 54) S.1 S.2.1 dM_brokenOpen_39 (by decide) (fun hc => ?_) (fun hc => ?_)
        · have h := (kb_brt hc).symm.trans h
          refine lv_iload S.1 S.2.1 dM_brokenOpen_54 (lv_at hl 5 rfl) ?_
          refine lv_istore S.1 S.2.1 dM_brokenOpen_56 hl (by decide) rfl (fun ls hl => ?_)
          have hl : lv_has ls 7 [(4, .int x4), (6, .int (z 3 (kb_ix ((8 * x1) + x5)))), (0, .ref (a 0)), (1, .int x1), (2, .int x2), (3, .int x3), (5, .int x5)] := hl
          refine lv_iinc (v := x5 + 1) (k := 6) S.1 S.2.1 dM_brokenOpen_58 hl rfl rfl (by decide) rfl (fun ls hl => ?_)
          have hl : lv_has ls 7 [(5, .int (x5 + 1)), (4, .int x4), (6, .int (z 3 (kb_ix ((8 * x1) + x5)))), (0, .ref (a 0)), (1, .int x1), (2, .int x2), (3, .int x3)] := hl
          refine lv_goto (tgt := 13) S.1 S.2.1 dM_brokenOpen_61 (by decide) ?_
          exact ih x1 x2 x3 x4 (x5 + 1) z _ _ _ (lv_sub hl [3, 4, 5, 6, 1, 0] rfl) w h
        · have h := (kb_brf hc).symm.trans h
          refine lv_iload S.1 S.2.1 dM_brokenOpen_42 (lv_at hl 0 rfl) ?_
          refine lv_iload S.1 S.2.1 dM_brokenOpen_44 (lv_at hl 5 rfl) ?_
          refine lv_icmp_le (tgt := 54) S.1 S.2.1 dM_brokenOpen_46 (by decide) (fun hc => ?_) (fun hc => ?_)
          · have h := (kb_brt hc).symm.trans h
            refine lv_iload S.1 S.2.1 dM_brokenOpen_54 (lv_at hl 5 rfl) ?_
            refine lv_istore S.1 S.2.1 dM_brokenOpen_56 hl (by decide) rfl (fun ls hl => ?_)
            have hl : lv_has ls 7 [(4, .int x4), (6, .int (z 3 (kb_ix ((8 * x1) + x5)))), (0, .ref (a 0)), (1, .int x1), (2, .int x2), (3, .int x3), (5, .int x5)] := hl
            refine lv_iinc (v := x5 + 1) (k := 6) S.1 S.2.1 dM_brokenOpen_58 hl rfl rfl (by decide) rfl (fun ls hl => ?_)
            have hl : lv_has ls 7 [(5, .int (x5 + 1)), (4, .int x4), (6, .int (z 3 (kb_ix ((8 * x1) + x5)))), (0, .ref (a 0)), (1, .int x1), (2, .int x2), (3, .int x3)] := hl
            refine lv_goto (tgt := 13) S.1 S.2.1 dM_brokenOpen_61 (by decide) ?_
            exact ih x1 x2 x3 x4 (x5 + 1) z _ _ _ (lv_sub hl [3, 4, 5, 6, 1, 0] rfl) w h
          · have h := (kb_brf hc).symm.trans h
            refine lv_iload S.1 S.2.1 dM_brokenOpen_49 (lv_at hl 0 rfl) ?_
            refine lv_goto (tgt := 56) S.1 S.2.1 dM_brokenOpen_51 (by decide) ?_
            refine lv_istore S.1 S.2.1 dM_brokenOpen_56 hl (by decide) rfl (fun ls hl => ?_)
            have hl : lv_has ls 7 [(4, .int (z 3 (kb_ix ((8 * x1) + x5)))), (6, .int (z 3 (kb_ix ((8 * x1) + x5)))), (0, .ref (a 0)), (1, .int x1), (2, .int x2), (3, .int x3), (5, .int x5)] := hl
            refine lv_iinc (v := x5 + 1) (k := 6) S.1 S.2.1 dM_brokenOpen_58 hl rfl rfl (by decide) rfl (fun ls hl => ?_)
            have hl : lv_has ls 7 [(5, .int (x5 + 1)), (4, .int (z 3 (kb_ix ((8 * x1) + x5)))), (6, .int (z 3 (kb_ix ((8 * x1) + x5)))), (0, .ref (a 0)), (1, .int x1), (2, .int x2), (3, .int x3)] := hl
            refine lv_goto (tgt := 13) S.1 S.2.1 dM_brokenOpen_61 (by decide) ?_
            exact ih x1 x2 x3 (z 3 (kb_ix ((8 * x1) + x5))) (x5 + 1) z _ _ _ (lv_sub hl [3, 4, 5, 6, 1, 0] rfl) w h
  refine lv_bipush (v := 8) S.1 S.2.1 dM_brokenOpen_0 (by decide) ?_
  refine lv_iload_n S.1 S.2.1 dM_brokenOpen_2 rfl (lv_at hl 1 rfl) ?_
  refine lv_imul S.1 S.2.1 dM_brokenOpen_3 ?_
  refine lv_iload_n S.1 S.2.1 dM_brokenOpen_4 rfl (lv_at hl 2 rfl) ?_
  refine lv_iadd S.1 S.2.1 dM_brokenOpen_5 ?_
  refine lv_istore_n S.1 S.2.1 dM_brokenOpen_6 rfl hl (by decide) rfl (fun ls hl => ?_)
  have hl : lv_has ls 7 [(3, .int ((8 * x1) + x2)), (0, .ref (a 0)), (1, .int x1), (2, .int x2)] := hl
  refine lv_iconst (v := (-1)) S.1 S.2.1 dM_brokenOpen_7 (by decide) ?_
  refine lv_istore S.1 S.2.1 dM_brokenOpen_8 hl (by decide) rfl (fun ls hl => ?_)
  have hl : lv_has ls 7 [(4, .int ((-1))), (3, .int ((8 * x1) + x2)), (0, .ref (a 0)), (1, .int x1), (2, .int x2)] := hl
  refine lv_iconst (v := 0) S.1 S.2.1 dM_brokenOpen_10 (by decide) ?_
  refine lv_istore S.1 S.2.1 dM_brokenOpen_11 hl (by decide) rfl (fun ls hl => ?_)
  have hl : lv_has ls 7 [(5, .int 0), (4, .int ((-1))), (3, .int ((8 * x1) + x2)), (0, .ref (a 0)), (1, .int x1), (2, .int x2)] := hl
  exact L13 3000 x1 x2 ((8 * x1) + x2) (-1) 0 z0 _ _ _ (lv_sub hl [3, 4, 5, 2, 1, 0] rfl) w h
set_option maxHeartbeats 4000000 in
set_option maxRecDepth 100000 in
theorem cM_brokenClose (l : Launch) (D : va_G) (cI cZ : ClassId) (a : Nat → Nat) (z0 z' : kb_S) (r : Int32) (sz : Nat) (x1 : Int32) (x2 : Int32) (h : pM_brokenClose x1 x2 z0 = some (r, z')) : Met l y_M_brokenClose (Cond.code y_M_brokenClose c_M_brokenClose 4 (some .int) :: wsB) rm_M_brokenClose (kb_Pc D vwCl [(cI, .int), (cZ, .boolean)] sz [.ref (a 0), .int x1, .int x2] (mW cI cZ a z0)) (kb_Qi D vwCl sz (mW cI cZ a z0) r (mW cI cZ a z')) 0 0 (va_A (mW cI cZ a z0) sz) := by
  refine kb_start (by decide) rfl (Nat.le_of_ble_eq_true rfl) ?_
  intro p e s m args below meth c A ls S hr hlk hsz hA w hl
  have hl : lv_has ls 4 [(0, .ref (a 0)), (1, .int x1), (2, .int x2)] := hl
  unfold pM_brokenClose at h
  refine lv_bipush (v := 8) S.1 S.2.1 dM_brokenClose_0 (by decide) ?_
  refine lv_iload_n S.1 S.2.1 dM_brokenClose_2 rfl (lv_at hl 1 rfl) ?_
  refine lv_imul S.1 S.2.1 dM_brokenClose_3 ?_
  refine lv_iload_n S.1 S.2.1 dM_brokenClose_4 rfl (lv_at hl 2 rfl) ?_
  refine lv_iadd S.1 S.2.1 dM_brokenClose_5 ?_
  refine lv_istore_n S.1 S.2.1 dM_brokenClose_6 rfl hl (by decide) rfl (fun ls hl => ?_)
  have hl : lv_has ls 4 [(3, .int ((8 * x1) + x2)), (0, .ref (a 0)), (1, .int x1), (2, .int x2)] := hl
  refine lv_aload_n S.1 S.2.1 dM_brokenClose_7 rfl (lv_at hl 1 rfl) ?_
  refine kb_get S w 0 rfl fM_13 rfl dM_brokenClose_8 ?_
  refine W.eq (g2 := F0 m 11 ls [.ref (a 2)]) rfl ?_
  refine lv_iload_n S.1 S.2.1 dM_brokenClose_11 rfl (lv_at hl 0 rfl) ?_
  obtain ⟨hi1, h⟩ := kb_ck_of h
  refine kb_iald S w 2 0 rfl rfl hi1 dM_brokenClose_12 ?_
  refine W.eq (g2 := F0 m 13 ls [.int (z0 2 (kb_ix ((8 * x1) + x2)))]) rfl ?_
  refine lv_if_ge (tgt := 19) S.1 S.2.1 dM_brokenClose_13 (by decide) (fun hc => ?_) (fun hc => ?_)
  · have h := (kb_brt hc).symm.trans h
    refine lv_aload_n S.1 S.2.1 dM_brokenClose_19 rfl (lv_at hl 1 rfl) ?_
    refine lv_iload_n S.1 S.2.1 dM_brokenClose_20 rfl (lv_at hl 2 rfl) ?_
    refine lv_aload_n S.1 S.2.1 dM_brokenClose_21 rfl (lv_at hl 1 rfl) ?_
    refine kb_get S w 0 rfl fM_16 rfl dM_brokenClose_22 ?_
    refine W.eq (g2 := F0 m 25 ls [.ref (a 3), .int x1, .ref (a 0)]) rfl ?_
    refine lv_iload_n S.1 S.2.1 dM_brokenClose_25 rfl (lv_at hl 0 rfl) ?_
    obtain ⟨hi2, h⟩ := kb_ck_of h
    refine kb_iald S w 3 0 rfl rfl hi2 dM_brokenClose_26 ?_
    refine W.eq (g2 := F0 m 27 ls [.int (z0 3 (kb_ix ((8 * x1) + x2))), .int x1, .ref (a 0)]) rfl ?_
    refine lv_iconst (v := 2) S.1 S.2.1 dM_brokenClose_27 (by decide) ?_
    obtain ⟨r4, z3, hc5, h⟩ := kb_cl_of h
    refine kb_calli (As := [.int x1, .int (z0 3 (kb_ix ((8 * x1) + x2))), .int 2]) (rest := []) (q0 := 0) (ci := 3) S w (fun sz => cM_early l D cI cZ a _ _ _ sz x1 (z0 3 (kb_ix ((8 * x1) + x2))) 2 hc5) Y_M_early I_M_early S_M_early lM_84 ⟨rfl, rfl, Nat.le_of_ble_eq_true rfl, Nat.le_of_ble_eq_true rfl⟩ rfl rfl rfl rfl hl.1 rfl (Nat.le_of_ble_eq_true rfl) dM_brokenClose_28 ⟨Nat.le_of_ble_eq_true rfl, Nat.le_of_ble_eq_true rfl⟩ (fun H locs w => ?_)
    refine lv_if_eq (tgt := 37) S.1 S.2.1 dM_brokenClose_31 (by decide) (fun hc => ?_) (fun hc => ?_)
    · have h := (kb_brt hc).symm.trans h
      refine lv_aload_n S.1 S.2.1 dM_brokenClose_37 rfl (lv_at hl 1 rfl) ?_
      refine lv_iload_n S.1 S.2.1 dM_brokenClose_38 rfl (lv_at hl 2 rfl) ?_
      refine lv_aload_n S.1 S.2.1 dM_brokenClose_39 rfl (lv_at hl 1 rfl) ?_
      refine kb_get S w 0 rfl fM_25 rfl dM_brokenClose_40 ?_
      refine W.eq (g2 := F0 m 43 ls [.ref (a 6), .int x1, .ref (a 0)]) rfl ?_
      refine lv_iload_n S.1 S.2.1 dM_brokenClose_43 rfl (lv_at hl 0 rfl) ?_
      obtain ⟨hi6, h⟩ := kb_ck_of h
      refine kb_iald S w 6 0 rfl rfl hi6 dM_brokenClose_44 ?_
      refine W.eq (g2 := F0 m 45 ls [.int (z3 6 (kb_ix ((8 * x1) + x2))), .int x1, .ref (a 0)]) rfl ?_
      refine lv_iconst (v := 4) S.1 S.2.1 dM_brokenClose_45 (by decide) ?_
      obtain ⟨r8, z7, hc9, h⟩ := kb_cl_of h
      refine kb_calli (As := [.int x1, .int (z3 6 (kb_ix ((8 * x1) + x2))), .int 4]) (rest := []) (q0 := 0) (ci := 3) S w (fun sz => cM_early l D cI cZ a _ _ _ sz x1 (z3 6 (kb_ix ((8 * x1) + x2))) 4 hc9) Y_M_early I_M_early S_M_early lM_84 ⟨rfl, rfl, Nat.le_of_ble_eq_true rfl, Nat.le_of_ble_eq_true rfl⟩ rfl rfl rfl rfl hl.1 rfl (Nat.le_of_ble_eq_true rfl) dM_brokenClose_46 ⟨Nat.le_of_ble_eq_true rfl, Nat.le_of_ble_eq_true rfl⟩ (fun H locs w => ?_)
      refine lv_if_eq (tgt := 55) S.1 S.2.1 dM_brokenClose_49 (by decide) (fun hc => ?_) (fun hc => ?_)
      · have h := (kb_brt hc).symm.trans h
        refine lv_aload_n S.1 S.2.1 dM_brokenClose_55 rfl (lv_at hl 1 rfl) ?_
        refine lv_iload_n S.1 S.2.1 dM_brokenClose_56 rfl (lv_at hl 2 rfl) ?_
        refine lv_aload_n S.1 S.2.1 dM_brokenClose_57 rfl (lv_at hl 1 rfl) ?_
        refine kb_get S w 0 rfl fM_22 rfl dM_brokenClose_58 ?_
        refine W.eq (g2 := F0 m 61 ls [.ref (a 5), .int x1, .ref (a 0)]) rfl ?_
        refine lv_iload_n S.1 S.2.1 dM_brokenClose_61 rfl (lv_at hl 0 rfl) ?_
        obtain ⟨hi10, h⟩ := kb_ck_of h
        refine kb_iald S w 5 0 rfl rfl hi10 dM_brokenClose_62 ?_
        refine W.eq (g2 := F0 m 63 ls [.int (z7 5 (kb_ix ((8 * x1) + x2))), .int x1, .ref (a 0)]) rfl ?_
        refine lv_iconst (v := 5) S.1 S.2.1 dM_brokenClose_63 (by decide) ?_
        obtain ⟨r12, z11, hc13, h⟩ := kb_cl_of h
        refine kb_calli (As := [.int x1, .int (z7 5 (kb_ix ((8 * x1) + x2))), .int 5]) (rest := []) (q0 := 0) (ci := 3) S w (fun sz => cM_early l D cI cZ a _ _ _ sz x1 (z7 5 (kb_ix ((8 * x1) + x2))) 5 hc13) Y_M_early I_M_early S_M_early lM_84 ⟨rfl, rfl, Nat.le_of_ble_eq_true rfl, Nat.le_of_ble_eq_true rfl⟩ rfl rfl rfl rfl hl.1 rfl (Nat.le_of_ble_eq_true rfl) dM_brokenClose_64 ⟨Nat.le_of_ble_eq_true rfl, Nat.le_of_ble_eq_true rfl⟩ (fun H locs w => ?_)
        refine lv_if_eq (tgt := 75) S.1 S.2.1 dM_brokenClose_67 (by decide) (fun hc => ?_) (fun hc => ?_)
        · have h := (kb_brt hc).symm.trans h
          refine lv_iconst (v := 0) S.1 S.2.1 dM_brokenClose_75 (by decide) ?_
          exact kb_iret (mW cI cZ a) S hr hlk hA w h dM_brokenClose_76
        · have h := (kb_brf hc).symm.trans h
          refine lv_bipush (v := 10) S.1 S.2.1 dM_brokenClose_70 (by decide) ?_
          refine lv_goto (tgt := 76) S.1 S.2.1 dM_brokenClose_72 (by decide) ?_
          exact kb_iret (mW cI cZ a) S hr hlk hA w h dM_brokenClose_76
      · have h := (kb_brf hc).symm.trans h
        refine lv_bipush (v := 9) S.1 S.2.1 dM_brokenClose_52 (by decide) ?_
        exact kb_iret (mW cI cZ a) S hr hlk hA w h dM_brokenClose_54
    · have h := (kb_brf hc).symm.trans h
      refine lv_bipush (v := 8) S.1 S.2.1 dM_brokenClose_34 (by decide) ?_
      exact kb_iret (mW cI cZ a) S hr hlk hA w h dM_brokenClose_36
  · have h := (kb_brf hc).symm.trans h
    refine lv_bipush (v := 7) S.1 S.2.1 dM_brokenClose_16 (by decide) ?_
    exact kb_iret (mW cI cZ a) S hr hlk hA w h dM_brokenClose_18
set_option maxHeartbeats 4000000 in
set_option maxRecDepth 100000 in
theorem cM_brokenUse (l : Launch) (D : va_G) (cI cZ : ClassId) (a : Nat → Nat) (z0 z' : kb_S) (r : Int32) (sz : Nat) (x1 : Int32) (x2 : Int32) (x3 : Int32) (h : pM_brokenUse x1 x2 x3 z0 = some (r, z')) : Met l y_M_brokenUse (Cond.code y_M_brokenUse c_M_brokenUse 7 (some .int) :: wsB) rm_M_brokenUse (kb_Pc D vwCl [(cI, .int), (cZ, .boolean)] sz [.ref (a 0), .int x1, .int x2, .int x3] (mW cI cZ a z0)) (kb_Qi D vwCl sz (mW cI cZ a z0) r (mW cI cZ a z')) 0 0 (va_A (mW cI cZ a z0) sz) := by
  refine kb_start (by decide) rfl (Nat.le_of_ble_eq_true rfl) ?_
  intro p e s m args below meth c A ls S hr hlk hsz hA w hl
  have hl : lv_has ls 7 [(0, .ref (a 0)), (1, .int x1), (2, .int x2), (3, .int x3)] := hl
  unfold pM_brokenUse at h
  have L17 : ∀ (n : Nat) (x1 : Int32) (x3 : Int32) (x4 : Int32) (x5 : Int32) (x6 : Int32) (z : kb_S) (H : Heap) (locs : List Loc) (ls : Array Slot), lv_has ls 7 [(0, .ref (a 0)), (1, .int x1), (3, .int x3), (4, .int x4), (5, .int x5), (6, .int x6)] → kb_W D vwCl [(cI, .int), (cZ, .boolean)] A s H locs (mW cI cZ a z) → pM_brokenUse_L17 n x1 x3 x4 x5 x6 z = some (r, z') → W p l e rm_M_brokenUse s m args below meth c H locs 0 0 (MQ below (kb_Qi D vwCl sz (mW cI cZ a z0) r (mW cI cZ a z')) args s 0 0 (va_A (mW cI cZ a z0) sz)) (F0 m 17 ls []) := by
    intro n
    induction n with
    | zero =>
      intro x1 x3 x4 x5 x6 z H locs ls hl w h
      exact absurd h (by simp [pM_brokenUse_L17])
    | succ n ih =>
      intro x1 x3 x4 x5 x6 z H locs ls hl w h
      rw [pM_brokenUse_L17] at h
      refine lv_iload S.1 S.2.1 dM_brokenUse_17 (lv_at hl 5 rfl) ?_
      refine lv_bipush (v := 8) S.1 S.2.1 dM_brokenUse_19 (by decide) ?_
      refine lv_iload_n S.1 S.2.1 dM_brokenUse_21 rfl (lv_at hl 1 rfl) ?_
      refine lv_imul S.1 S.2.1 dM_brokenUse_22 ?_
      refine lv_bipush (v := 8) S.1 S.2.1 dM_brokenUse_23 (by decide) ?_
      refine lv_iadd S.1 S.2.1 dM_brokenUse_25 ?_
      refine lv_icmp_ge (tgt := 87) S.1 S.2.1 dM_brokenUse_26 (by decide) (fun hc => ?_) (fun hc => ?_)
      · have h := (kb_brt hc).symm.trans h
        refine lv_aload_n S.1 S.2.1 dM_brokenUse_87 rfl (lv_at hl 0 rfl) ?_
        refine kb_get S w 0 rfl fM_13 rfl dM_brokenUse_88 ?_
        refine W.eq (g2 := F0 m 91 ls [.ref (a 2)]) rfl ?_
        refine lv_iload S.1 S.2.1 dM_brokenUse_91 (lv_at hl 3 rfl) ?_
        obtain ⟨hi1, h⟩ := kb_ck_of h
        refine kb_iald S w 2 0 rfl rfl hi1 dM_brokenUse_93 ?_
        refine W.eq (g2 := F0 m 94 ls [.int (z 2 (kb_ix (x4)))]) rfl ?_
        refine lv_iload_n S.1 S.2.1 dM_brokenUse_94 rfl (lv_at hl 2 rfl) ?_
        refine lv_icmp_eq (tgt := 101) S.1 S.2.1 dM_brokenUse_95 (by decide) (fun hc => ?_) (fun hc => ?_)
        · have h := (kb_brt hc).symm.trans h
          refine lv_aload_n S.1 S.2.1 dM_brokenUse_101 rfl (lv_at hl 0 rfl) ?_
          refine lv_iload_n S.1 S.2.1 dM_brokenUse_102 rfl (lv_at hl 1 rfl) ?_
          refine lv_aload_n S.1 S.2.1 dM_brokenUse_103 rfl (lv_at hl 0 rfl) ?_
          refine kb_get S w 0 rfl fM_16 rfl dM_brokenUse_104 ?_
          refine W.eq (g2 := F0 m 107 ls [.ref (a 3), .int x1, .ref (a 0)]) rfl ?_
          refine lv_iload S.1 S.2.1 dM_brokenUse_107 (lv_at hl 3 rfl) ?_
          obtain ⟨hi2, h⟩ := kb_ck_of h
          refine kb_iald S w 3 0 rfl rfl hi2 dM_brokenUse_109 ?_
          refine W.eq (g2 := F0 m 110 ls [.int (z 3 (kb_ix (x4))), .int x1, .ref (a 0)]) rfl ?_
          refine lv_iconst (v := 0) S.1 S.2.1 dM_brokenUse_110 (by decide) ?_
          obtain ⟨r4, z3, hc5, h⟩ := kb_cl_of h
          refine kb_calli (As := [.int x1, .int (z 3 (kb_ix (x4))), .int 0]) (rest := []) (q0 := 0) (ci := 3) S w (fun sz => cM_early l D cI cZ a _ _ _ sz x1 (z 3 (kb_ix (x4))) 0 hc5) Y_M_early I_M_early S_M_early lM_84 ⟨rfl, rfl, Nat.le_of_ble_eq_true rfl, Nat.le_of_ble_eq_true rfl⟩ rfl rfl rfl rfl hl.1 rfl (Nat.le_of_ble_eq_true rfl) dM_brokenUse_111 ⟨Nat.le_of_ble_eq_true rfl, Nat.le_of_ble_eq_true rfl⟩ (fun H locs w => ?_)
          refine lv_if_eq (tgt := 120) S.1 S.2.1 dM_brokenUse_114 (by decide) (fun hc => ?_) (fun hc => ?_)
          · have h := (kb_brt hc).symm.trans h
            refine lv_aload_n S.1 S.2.1 dM_brokenUse_120 rfl (lv_at hl 0 rfl) ?_
            refine lv_iload_n S.1 S.2.1 dM_brokenUse_121 rfl (lv_at hl 1 rfl) ?_
            refine lv_iload S.1 S.2.1 dM_brokenUse_122 (lv_at hl 4 rfl) ?_
            refine lv_bipush (v := 6) S.1 S.2.1 dM_brokenUse_124 (by decide) ?_
            obtain ⟨r7, z6, hc8, h⟩ := kb_cl_of h
            refine kb_calli (As := [.int x1, .int x5, .int 6]) (rest := []) (q0 := 0) (ci := 3) S w (fun sz => cM_early l D cI cZ a _ _ _ sz x1 x5 6 hc8) Y_M_early I_M_early S_M_early lM_84 ⟨rfl, rfl, Nat.le_of_ble_eq_true rfl, Nat.le_of_ble_eq_true rfl⟩ rfl rfl rfl rfl hl.1 rfl (Nat.le_of_ble_eq_true rfl) dM_brokenUse_126 ⟨Nat.le_of_ble_eq_true rfl, Nat.le_of_ble_eq_true rfl⟩ (fun H locs w => ?_)
            refine lv_if_eq (tgt := 137) S.1 S.2.1 dM_brokenUse_129 (by decide) (fun hc => ?_) (fun hc => ?_)
            · have h := (kb_brt hc).symm.trans h
              refine lv_iconst (v := 0) S.1 S.2.1 dM_brokenUse_137 (by decide) ?_
              exact kb_iret (mW cI cZ a) S hr hlk hA w h dM_brokenUse_138
            · have h := (kb_brf hc).symm.trans h
              refine lv_bipush (v := 13) S.1 S.2.1 dM_brokenUse_132 (by decide) ?_
              refine lv_goto (tgt := 138) S.1 S.2.1 dM_brokenUse_134 (by decide) ?_
              exact kb_iret (mW cI cZ a) S hr hlk hA w h dM_brokenUse_138
          · have h := (kb_brf hc).symm.trans h
            refine lv_bipush (v := 12) S.1 S.2.1 dM_brokenUse_117 (by decide) ?_
            exact kb_iret (mW cI cZ a) S hr hlk hA w h dM_brokenUse_119
        · have h := (kb_brf hc).symm.trans h
          refine lv_bipush (v := 11) S.1 S.2.1 dM_brokenUse_98 (by decide) ?_
          exact kb_iret (mW cI cZ a) S hr hlk hA w h dM_brokenUse_100
      · have h := (kb_brf hc).symm.trans h
        refine lv_aload_n S.1 S.2.1 dM_brokenUse_29 rfl (lv_at hl 0 rfl) ?_
        refine kb_get S w 0 rfl fM_22 rfl dM_brokenUse_30 ?_
        refine W.eq (g2 := F0 m 33 ls [.ref (a 5)]) rfl ?_
        refine lv_iload S.1 S.2.1 dM_brokenUse_33 (lv_at hl 5 rfl) ?_
        obtain ⟨hi9, h⟩ := kb_ck_of h
        refine kb_iald S w 5 0 rfl rfl hi9 dM_brokenUse_35 ?_
        refine W.eq (g2 := F0 m 36 ls [.int (z 5 (kb_ix (x6)))]) rfl ?_
        refine lv_iload S.1 S.2.1 dM_brokenUse_36 (lv_at hl 4 rfl) ?_
        refine lv_icmp_le (tgt := 51) S.1 S.2.1 dM_brokenUse_38 (by decide) (fun hc => ?_) (fun hc => ?_)
        · have h := (kb_brt hc).symm.trans h
          refine lv_iload S.1 S.2.1 dM_brokenUse_51 (lv_at hl 4 rfl) ?_
          refine lv_istore S.1 S.2.1 dM_brokenUse_53 hl (by decide) rfl (fun ls hl => ?_)
          have hl : lv_has ls 7 [(5, .int x5), (0, .ref (a 0)), (1, .int x1), (3, .int x3), (4, .int x4), (6, .int x6)] := hl
          refine lv_aload_n S.1 S.2.1 dM_brokenUse_55 rfl (lv_at hl 1 rfl) ?_
          refine kb_get S w 0 rfl fM_25 rfl dM_brokenUse_56 ?_
          refine W.eq (g2 := F0 m 59 ls [.ref (a 6)]) rfl ?_
          refine lv_iload S.1 S.2.1 dM_brokenUse_59 (lv_at hl 5 rfl) ?_
          obtain ⟨hi10, h⟩ := kb_ck_of h
          refine kb_iald S w 6 0 rfl rfl hi10 dM_brokenUse_61 ?_
          refine W.eq (g2 := F0 m 62 ls [.int (z 6 (kb_ix (x6)))]) rfl ?_
          refine lv_iload S.1 S.2.1 dM_brokenUse_62 (lv_at hl 0 rfl) ?_
          refine lv_icmp_le (tgt := 77) S.1 S.2.1 dM_brokenUse_64 (by decide) (fun hc => ?_) (fun hc => ?_)
          · have h := (kb_brt hc).symm.trans h
            refine lv_iload S.1 S.2.1 dM_brokenUse_77 (lv_at hl 0 rfl) ?_
            refine lv_istore S.1 S.2.1 dM_brokenUse_79 hl (by decide) rfl (fun ls hl => ?_)
            have hl : lv_has ls 7 [(5, .int x5), (0, .ref (a 0)), (1, .int x1), (3, .int x3), (4, .int x4), (6, .int x6)] := hl
            refine lv_iinc (v := x6 + 1) (k := 5) S.1 S.2.1 dM_brokenUse_81 hl rfl rfl (by decide) rfl (fun ls hl => ?_)
            have hl : lv_has ls 7 [(6, .int (x6 + 1)), (5, .int x5), (0, .ref (a 0)), (1, .int x1), (3, .int x3), (4, .int x4)] := hl
            refine lv_goto (tgt := 17) S.1 S.2.1 dM_brokenUse_84 (by decide) ?_
            exact ih x1 x3 x4 x5 (x6 + 1) z _ _ _ (lv_sub hl [2, 3, 4, 5, 1, 0] rfl) w h
          · have h := (kb_brf hc).symm.trans h
            refine lv_aload_n S.1 S.2.1 dM_brokenUse_67 rfl (lv_at hl 1 rfl) ?_
            refine kb_get S w 0 rfl fM_25 rfl dM_brokenUse_68 ?_
            refine W.eq (g2 := F0 m 71 ls [.ref (a 6)]) rfl ?_
            refine lv_iload S.1 S.2.1 dM_brokenUse_71 (lv_at hl 5 rfl) ?_
            obtain ⟨hi11, h⟩ := kb_ck_of h
            refine kb_iald S w 6 0 rfl rfl hi11 dM_brokenUse_73 ?_
            refine W.eq (g2 := F0 m 74 ls [.int (z 6 (kb_ix (x6)))]) rfl ?_
            refine lv_goto (tgt := 79) S.1 S.2.1 dM_brokenUse_74 (by decide) ?_
            refine lv_istore S.1 S.2.1 dM_brokenUse_79 hl (by decide) rfl (fun ls hl => ?_)
            have hl : lv_has ls 7 [(5, .int (z 6 (kb_ix (x6)))), (0, .ref (a 0)), (1, .int x1), (3, .int x3), (4, .int x4), (6, .int x6)] := hl
            refine lv_iinc (v := x6 + 1) (k := 5) S.1 S.2.1 dM_brokenUse_81 hl rfl rfl (by decide) rfl (fun ls hl => ?_)
            have hl : lv_has ls 7 [(6, .int (x6 + 1)), (5, .int (z 6 (kb_ix (x6)))), (0, .ref (a 0)), (1, .int x1), (3, .int x3), (4, .int x4)] := hl
            refine lv_goto (tgt := 17) S.1 S.2.1 dM_brokenUse_84 (by decide) ?_
            exact ih x1 x3 x4 (z 6 (kb_ix (x6))) (x6 + 1) z _ _ _ (lv_sub hl [2, 3, 4, 5, 1, 0] rfl) w h
        · have h := (kb_brf hc).symm.trans h
          refine lv_aload_n S.1 S.2.1 dM_brokenUse_41 rfl (lv_at hl 0 rfl) ?_
          refine kb_get S w 0 rfl fM_22 rfl dM_brokenUse_42 ?_
          refine W.eq (g2 := F0 m 45 ls [.ref (a 5)]) rfl ?_
          refine lv_iload S.1 S.2.1 dM_brokenUse_45 (lv_at hl 5 rfl) ?_
          obtain ⟨hi12, h⟩ := kb_ck_of h
          refine kb_iald S w 5 0 rfl rfl hi12 dM_brokenUse_47 ?_
          refine W.eq (g2 := F0 m 48 ls [.int (z 5 (kb_ix (x6)))]) rfl ?_
          refine lv_goto (tgt := 53) S.1 S.2.1 dM_brokenUse_48 (by decide) ?_
          refine lv_istore S.1 S.2.1 dM_brokenUse_53 hl (by decide) rfl (fun ls hl => ?_)
          have hl : lv_has ls 7 [(5, .int (z 5 (kb_ix (x6)))), (0, .ref (a 0)), (1, .int x1), (3, .int x3), (4, .int x4), (6, .int x6)] := hl
          refine lv_aload_n S.1 S.2.1 dM_brokenUse_55 rfl (lv_at hl 1 rfl) ?_
          refine kb_get S w 0 rfl fM_25 rfl dM_brokenUse_56 ?_
          refine W.eq (g2 := F0 m 59 ls [.ref (a 6)]) rfl ?_
          refine lv_iload S.1 S.2.1 dM_brokenUse_59 (lv_at hl 5 rfl) ?_
          obtain ⟨hi13, h⟩ := kb_ck_of h
          refine kb_iald S w 6 0 rfl rfl hi13 dM_brokenUse_61 ?_
          refine W.eq (g2 := F0 m 62 ls [.int (z 6 (kb_ix (x6)))]) rfl ?_
          refine lv_iload S.1 S.2.1 dM_brokenUse_62 (lv_at hl 0 rfl) ?_
          refine lv_icmp_le (tgt := 77) S.1 S.2.1 dM_brokenUse_64 (by decide) (fun hc => ?_) (fun hc => ?_)
          · have h := (kb_brt hc).symm.trans h
            refine lv_iload S.1 S.2.1 dM_brokenUse_77 (lv_at hl 0 rfl) ?_
            refine lv_istore S.1 S.2.1 dM_brokenUse_79 hl (by decide) rfl (fun ls hl => ?_)
            have hl : lv_has ls 7 [(5, .int (z 5 (kb_ix (x6)))), (0, .ref (a 0)), (1, .int x1), (3, .int x3), (4, .int x4), (6, .int x6)] := hl
            refine lv_iinc (v := x6 + 1) (k := 5) S.1 S.2.1 dM_brokenUse_81 hl rfl rfl (by decide) rfl (fun ls hl => ?_)
            have hl : lv_has ls 7 [(6, .int (x6 + 1)), (5, .int (z 5 (kb_ix (x6)))), (0, .ref (a 0)), (1, .int x1), (3, .int x3), (4, .int x4)] := hl
            refine lv_goto (tgt := 17) S.1 S.2.1 dM_brokenUse_84 (by decide) ?_
            exact ih x1 x3 x4 (z 5 (kb_ix (x6))) (x6 + 1) z _ _ _ (lv_sub hl [2, 3, 4, 5, 1, 0] rfl) w h
          · have h := (kb_brf hc).symm.trans h
            refine lv_aload_n S.1 S.2.1 dM_brokenUse_67 rfl (lv_at hl 1 rfl) ?_
            refine kb_get S w 0 rfl fM_25 rfl dM_brokenUse_68 ?_
            refine W.eq (g2 := F0 m 71 ls [.ref (a 6)]) rfl ?_
            refine lv_iload S.1 S.2.1 dM_brokenUse_71 (lv_at hl 5 rfl) ?_
            obtain ⟨hi14, h⟩ := kb_ck_of h
            refine kb_iald S w 6 0 rfl rfl hi14 dM_brokenUse_73 ?_
            refine W.eq (g2 := F0 m 74 ls [.int (z 6 (kb_ix (x6)))]) rfl ?_
            refine lv_goto (tgt := 79) S.1 S.2.1 dM_brokenUse_74 (by decide) ?_
            refine lv_istore S.1 S.2.1 dM_brokenUse_79 hl (by decide) rfl (fun ls hl => ?_)
            have hl : lv_has ls 7 [(5, .int (z 6 (kb_ix (x6)))), (0, .ref (a 0)), (1, .int x1), (3, .int x3), (4, .int x4), (6, .int x6)] := hl
            refine lv_iinc (v := x6 + 1) (k := 5) S.1 S.2.1 dM_brokenUse_81 hl rfl rfl (by decide) rfl (fun ls hl => ?_)
            have hl : lv_has ls 7 [(6, .int (x6 + 1)), (5, .int (z 6 (kb_ix (x6)))), (0, .ref (a 0)), (1, .int x1), (3, .int x3), (4, .int x4)] := hl
            refine lv_goto (tgt := 17) S.1 S.2.1 dM_brokenUse_84 (by decide) ?_
            exact ih x1 x3 x4 (z 6 (kb_ix (x6))) (x6 + 1) z _ _ _ (lv_sub hl [2, 3, 4, 5, 1, 0] rfl) w h
  refine lv_bipush (v := 8) S.1 S.2.1 dM_brokenUse_0 (by decide) ?_
  refine lv_iload_n S.1 S.2.1 dM_brokenUse_2 rfl (lv_at hl 1 rfl) ?_
  refine lv_imul S.1 S.2.1 dM_brokenUse_3 ?_
  refine lv_iload_n S.1 S.2.1 dM_brokenUse_4 rfl (lv_at hl 2 rfl) ?_
  refine lv_iadd S.1 S.2.1 dM_brokenUse_5 ?_
  refine lv_istore S.1 S.2.1 dM_brokenUse_6 hl (by decide) rfl (fun ls hl => ?_)
  have hl : lv_has ls 7 [(4, .int ((8 * x1) + x2)), (0, .ref (a 0)), (1, .int x1), (2, .int x2), (3, .int x3)] := hl
  refine lv_iconst (v := (-1)) S.1 S.2.1 dM_brokenUse_8 (by decide) ?_
  refine lv_istore S.1 S.2.1 dM_brokenUse_9 hl (by decide) rfl (fun ls hl => ?_)
  have hl : lv_has ls 7 [(5, .int ((-1))), (4, .int ((8 * x1) + x2)), (0, .ref (a 0)), (1, .int x1), (2, .int x2), (3, .int x3)] := hl
  refine lv_bipush (v := 8) S.1 S.2.1 dM_brokenUse_11 (by decide) ?_
  refine lv_iload_n S.1 S.2.1 dM_brokenUse_13 rfl (lv_at hl 3 rfl) ?_
  refine lv_imul S.1 S.2.1 dM_brokenUse_14 ?_
  refine lv_istore S.1 S.2.1 dM_brokenUse_15 hl (by decide) rfl (fun ls hl => ?_)
  have hl : lv_has ls 7 [(6, .int (8 * x1)), (5, .int ((-1))), (4, .int ((8 * x1) + x2)), (0, .ref (a 0)), (1, .int x1), (2, .int x2), (3, .int x3)] := hl
  exact L17 3000 x1 x3 ((8 * x1) + x2) (-1) (8 * x1) z0 _ _ _ (lv_sub hl [3, 4, 6, 2, 1, 0] rfl) w h
set_option maxHeartbeats 4000000 in
set_option maxRecDepth 100000 in
theorem cM_brokenRefresh (l : Launch) (D : va_G) (cI cZ : ClassId) (a : Nat → Nat) (z0 z' : kb_S) (r : Int32) (sz : Nat) (x1 : Int32) (h : pM_brokenRefresh x1 z0 = some (r, z')) : Met l y_M_brokenRefresh (Cond.code y_M_brokenRefresh c_M_brokenRefresh 5 (some .int) :: wsB) rm_M_brokenRefresh (kb_Pc D vwCl [(cI, .int), (cZ, .boolean)] sz [.ref (a 0), .int x1] (mW cI cZ a z0)) (kb_Qi D vwCl sz (mW cI cZ a z0) r (mW cI cZ a z')) 0 0 (va_A (mW cI cZ a z0) sz) := by
  refine kb_start (by decide) rfl (Nat.le_of_ble_eq_true rfl) ?_
  intro p e s m args below meth c A ls S hr hlk hsz hA w hl
  have hl : lv_has ls 5 [(0, .ref (a 0)), (1, .int x1)] := hl
  unfold pM_brokenRefresh at h
  have L10 : ∀ (n : Nat) (x1 : Int32) (x2 : Int32) (x3 : Int32) (x4 : Int32) (z : kb_S) (H : Heap) (locs : List Loc) (ls : Array Slot), lv_has ls 5 [(0, .ref (a 0)), (1, .int x1), (2, .int x2), (3, .int x3), (4, .int x4)] → kb_W D vwCl [(cI, .int), (cZ, .boolean)] A s H locs (mW cI cZ a z) → pM_brokenRefresh_L10 n x1 x2 x3 x4 z = some (r, z') → W p l e rm_M_brokenRefresh s m args below meth c H locs 0 0 (MQ below (kb_Qi D vwCl sz (mW cI cZ a z0) r (mW cI cZ a z')) args s 0 0 (va_A (mW cI cZ a z0) sz)) (F0 m 10 ls []) := by
    intro n
    induction n with
    | zero =>
      intro x1 x2 x3 x4 z H locs ls hl w h
      exact absurd h (by simp [pM_brokenRefresh_L10])
    | succ n ih =>
      intro x1 x2 x3 x4 z H locs ls hl w h
      rw [pM_brokenRefresh_L10] at h
      refine lv_iload S.1 S.2.1 dM_brokenRefresh_10 (lv_at hl 4 rfl) ?_
      refine lv_bipush (v := 8) S.1 S.2.1 dM_brokenRefresh_12 (by decide) ?_
      refine lv_iload_n S.1 S.2.1 dM_brokenRefresh_14 rfl (lv_at hl 1 rfl) ?_
      refine lv_imul S.1 S.2.1 dM_brokenRefresh_15 ?_
      refine lv_bipush (v := 8) S.1 S.2.1 dM_brokenRefresh_16 (by decide) ?_
      refine lv_iadd S.1 S.2.1 dM_brokenRefresh_18 ?_
      refine lv_icmp_ge (tgt := 74) S.1 S.2.1 dM_brokenRefresh_19 (by decide) (fun hc => ?_) (fun hc => ?_)
      · have h := (kb_brt hc).symm.trans h
        refine lv_iload_n S.1 S.2.1 dM_brokenRefresh_74 rfl (lv_at hl 2 rfl) ?_
        refine lv_if_eq (tgt := 83) S.1 S.2.1 dM_brokenRefresh_75 (by decide) (fun hc => ?_) (fun hc => ?_)
        · have h := (kb_brt hc).symm.trans h
          refine lv_iload_n S.1 S.2.1 dM_brokenRefresh_83 rfl (lv_at hl 3 rfl) ?_
          refine lv_if_eq (tgt := 92) S.1 S.2.1 dM_brokenRefresh_84 (by decide) (fun hc => ?_) (fun hc => ?_)
          · have h := (kb_brt hc).symm.trans h
            refine lv_aload_n S.1 S.2.1 dM_brokenRefresh_92 rfl (lv_at hl 0 rfl) ?_
            refine lv_iload_n S.1 S.2.1 dM_brokenRefresh_93 rfl (lv_at hl 1 rfl) ?_
            refine lv_aload_n S.1 S.2.1 dM_brokenRefresh_94 rfl (lv_at hl 0 rfl) ?_
            refine kb_get S w 0 rfl fM_31 rfl dM_brokenRefresh_95 ?_
            refine W.eq (g2 := F0 m 98 ls [.ref (a 8), .int x1, .ref (a 0)]) rfl ?_
            refine lv_iload_n S.1 S.2.1 dM_brokenRefresh_98 rfl (lv_at hl 1 rfl) ?_
            obtain ⟨hi1, h⟩ := kb_ck_of h
            refine kb_iald S w 8 0 rfl rfl hi1 dM_brokenRefresh_99 ?_
            refine W.eq (g2 := F0 m 100 ls [.int (z 8 (kb_ix (x1))), .int x1, .ref (a 0)]) rfl ?_
            refine lv_bipush (v := 9) S.1 S.2.1 dM_brokenRefresh_100 (by decide) ?_
            obtain ⟨r3, z2, hc4, h⟩ := kb_cl_of h
            refine kb_calli (As := [.int x1, .int (z 8 (kb_ix (x1))), .int 9]) (rest := []) (q0 := 0) (ci := 3) S w (fun sz => cM_early l D cI cZ a _ _ _ sz x1 (z 8 (kb_ix (x1))) 9 hc4) Y_M_early I_M_early S_M_early lM_84 ⟨rfl, rfl, Nat.le_of_ble_eq_true rfl, Nat.le_of_ble_eq_true rfl⟩ rfl rfl rfl rfl hl.1 rfl (Nat.le_of_ble_eq_true rfl) dM_brokenRefresh_102 ⟨Nat.le_of_ble_eq_true rfl, Nat.le_of_ble_eq_true rfl⟩ (fun H locs w => ?_)
            refine lv_if_eq (tgt := 113) S.1 S.2.1 dM_brokenRefresh_105 (by decide) (fun hc => ?_) (fun hc => ?_)
            · have h := (kb_brt hc).symm.trans h
              refine lv_iconst (v := 0) S.1 S.2.1 dM_brokenRefresh_113 (by decide) ?_
              exact kb_iret (mW cI cZ a) S hr hlk hA w h dM_brokenRefresh_114
            · have h := (kb_brf hc).symm.trans h
              refine lv_bipush (v := 16) S.1 S.2.1 dM_brokenRefresh_108 (by decide) ?_
              refine lv_goto (tgt := 114) S.1 S.2.1 dM_brokenRefresh_110 (by decide) ?_
              exact kb_iret (mW cI cZ a) S hr hlk hA w h dM_brokenRefresh_114
          · have h := (kb_brf hc).symm.trans h
            refine lv_bipush (v := 15) S.1 S.2.1 dM_brokenRefresh_87 (by decide) ?_
            refine lv_goto (tgt := 114) S.1 S.2.1 dM_brokenRefresh_89 (by decide) ?_
            exact kb_iret (mW cI cZ a) S hr hlk hA w h dM_brokenRefresh_114
        · have h := (kb_brf hc).symm.trans h
          refine lv_bipush (v := 14) S.1 S.2.1 dM_brokenRefresh_78 (by decide) ?_
          refine lv_goto (tgt := 114) S.1 S.2.1 dM_brokenRefresh_80 (by decide) ?_
          exact kb_iret (mW cI cZ a) S hr hlk hA w h dM_brokenRefresh_114
      · have h := (kb_brf hc).symm.trans h
        refine lv_iload_n S.1 S.2.1 dM_brokenRefresh_22 rfl (lv_at hl 2 rfl) ?_
        refine lv_if_ne (tgt := 36) S.1 S.2.1 dM_brokenRefresh_23 (by decide) (fun hc => ?_) (fun hc => ?_)
        · have h := (kb_brf hc).symm.trans h
          refine lv_iconst (v := 1) S.1 S.2.1 dM_brokenRefresh_36 (by decide) ?_
          refine lv_goto (tgt := 41) S.1 S.2.1 dM_brokenRefresh_37 (by decide) ?_
          refine lv_istore_n S.1 S.2.1 dM_brokenRefresh_41 rfl hl (by decide) rfl (fun ls hl => ?_)
          have hl : lv_has ls 5 [(2, .int 1), (0, .ref (a 0)), (1, .int x1), (3, .int x3), (4, .int x4)] := hl
          refine lv_iload_n S.1 S.2.1 dM_brokenRefresh_42 rfl (lv_at hl 3 rfl) ?_
          refine lv_if_ne (tgt := 62) S.1 S.2.1 dM_brokenRefresh_43 (by decide) (fun hc => ?_) (fun hc => ?_)
          · have h := (kb_brf hc).symm.trans h
            refine lv_iconst (v := 1) S.1 S.2.1 dM_brokenRefresh_62 (by decide) ?_
            refine lv_goto (tgt := 67) S.1 S.2.1 dM_brokenRefresh_63 (by decide) ?_
            refine lv_istore_n S.1 S.2.1 dM_brokenRefresh_67 rfl hl (by decide) rfl (fun ls hl => ?_)
            have hl : lv_has ls 5 [(3, .int 1), (2, .int 1), (0, .ref (a 0)), (1, .int x1), (4, .int x4)] := hl
            refine lv_iinc (v := x4 + 1) (k := 4) S.1 S.2.1 dM_brokenRefresh_68 hl rfl rfl (by decide) rfl (fun ls hl => ?_)
            have hl : lv_has ls 5 [(4, .int (x4 + 1)), (3, .int 1), (2, .int 1), (0, .ref (a 0)), (1, .int x1)] := hl
            refine lv_goto (tgt := 10) S.1 S.2.1 dM_brokenRefresh_71 (by decide) ?_
            exact ih x1 1 1 (x4 + 1) z _ _ _ (lv_sub hl [3, 4, 2, 1, 0] rfl) w h
          · have h := (kb_brt hc).symm.trans h
            refine lv_aload_n S.1 S.2.1 dM_brokenRefresh_46 rfl (lv_at hl 1 rfl) ?_
            refine lv_iload_n S.1 S.2.1 dM_brokenRefresh_47 rfl (lv_at hl 2 rfl) ?_
            refine lv_aload_n S.1 S.2.1 dM_brokenRefresh_48 rfl (lv_at hl 1 rfl) ?_
            refine kb_get S w 0 rfl fM_19 rfl dM_brokenRefresh_49 ?_
            refine W.eq (g2 := F0 m 52 ls [.ref (a 4), .int x1, .ref (a 0)]) rfl ?_
            refine lv_iload S.1 S.2.1 dM_brokenRefresh_52 (lv_at hl 4 rfl) ?_
            obtain ⟨hi5, h⟩ := kb_ck_of h
            refine kb_iald S w 4 0 rfl rfl hi5 dM_brokenRefresh_54 ?_
            refine W.eq (g2 := F0 m 55 ls [.int (z 4 (kb_ix (x4))), .int x1, .ref (a 0)]) rfl ?_
            refine lv_iconst (v := 1) S.1 S.2.1 dM_brokenRefresh_55 (by decide) ?_
            obtain ⟨r7, z6, hc8, h⟩ := kb_cl_of h
            refine kb_calli (As := [.int x1, .int (z 4 (kb_ix (x4))), .int 1]) (rest := []) (q0 := 0) (ci := 3) S w (fun sz => cM_early l D cI cZ a _ _ _ sz x1 (z 4 (kb_ix (x4))) 1 hc8) Y_M_early I_M_early S_M_early lM_84 ⟨rfl, rfl, Nat.le_of_ble_eq_true rfl, Nat.le_of_ble_eq_true rfl⟩ rfl rfl rfl rfl hl.1 rfl (Nat.le_of_ble_eq_true rfl) dM_brokenRefresh_56 ⟨Nat.le_of_ble_eq_true rfl, Nat.le_of_ble_eq_true rfl⟩ (fun H locs w => ?_)
            refine lv_if_eq (tgt := 66) S.1 S.2.1 dM_brokenRefresh_59 (by decide) (fun hc => ?_) (fun hc => ?_)
            · have h := (kb_brt hc).symm.trans h
              refine lv_iconst (v := 0) S.1 S.2.1 dM_brokenRefresh_66 (by decide) ?_
              refine lv_istore_n S.1 S.2.1 dM_brokenRefresh_67 rfl hl (by decide) rfl (fun ls hl => ?_)
              have hl : lv_has ls 5 [(3, .int 0), (2, .int 1), (0, .ref (a 0)), (1, .int x1), (4, .int x4)] := hl
              refine lv_iinc (v := x4 + 1) (k := 4) S.1 S.2.1 dM_brokenRefresh_68 hl rfl rfl (by decide) rfl (fun ls hl => ?_)
              have hl : lv_has ls 5 [(4, .int (x4 + 1)), (3, .int 0), (2, .int 1), (0, .ref (a 0)), (1, .int x1)] := hl
              refine lv_goto (tgt := 10) S.1 S.2.1 dM_brokenRefresh_71 (by decide) ?_
              exact ih x1 1 0 (x4 + 1) z6 _ _ _ (lv_sub hl [3, 4, 2, 1, 0] rfl) w h
            · have h := (kb_brf hc).symm.trans h
              refine lv_iconst (v := 1) S.1 S.2.1 dM_brokenRefresh_62 (by decide) ?_
              refine lv_goto (tgt := 67) S.1 S.2.1 dM_brokenRefresh_63 (by decide) ?_
              refine lv_istore_n S.1 S.2.1 dM_brokenRefresh_67 rfl hl (by decide) rfl (fun ls hl => ?_)
              have hl : lv_has ls 5 [(3, .int 1), (2, .int 1), (0, .ref (a 0)), (1, .int x1), (4, .int x4)] := hl
              refine lv_iinc (v := x4 + 1) (k := 4) S.1 S.2.1 dM_brokenRefresh_68 hl rfl rfl (by decide) rfl (fun ls hl => ?_)
              have hl : lv_has ls 5 [(4, .int (x4 + 1)), (3, .int 1), (2, .int 1), (0, .ref (a 0)), (1, .int x1)] := hl
              refine lv_goto (tgt := 10) S.1 S.2.1 dM_brokenRefresh_71 (by decide) ?_
              exact ih x1 1 1 (x4 + 1) z6 _ _ _ (lv_sub hl [3, 4, 2, 1, 0] rfl) w h
        · have h := (kb_brt hc).symm.trans h
          refine lv_aload_n S.1 S.2.1 dM_brokenRefresh_26 rfl (lv_at hl 0 rfl) ?_
          refine kb_get S w 0 rfl fM_13 rfl dM_brokenRefresh_27 ?_
          refine W.eq (g2 := F0 m 30 ls [.ref (a 2)]) rfl ?_
          refine lv_iload S.1 S.2.1 dM_brokenRefresh_30 (lv_at hl 4 rfl) ?_
          obtain ⟨hi9, h⟩ := kb_ck_of h
          refine kb_iald S w 2 0 rfl rfl hi9 dM_brokenRefresh_32 ?_
          refine W.eq (g2 := F0 m 33 ls [.int (z 2 (kb_ix (x4)))]) rfl ?_
          refine lv_if_lt (tgt := 40) S.1 S.2.1 dM_brokenRefresh_33 (by decide) (fun hc => ?_) (fun hc => ?_)
          · have h := (kb_brt hc).symm.trans h
            refine lv_iconst (v := 0) S.1 S.2.1 dM_brokenRefresh_40 (by decide) ?_
            refine lv_istore_n S.1 S.2.1 dM_brokenRefresh_41 rfl hl (by decide) rfl (fun ls hl => ?_)
            have hl : lv_has ls 5 [(2, .int 0), (0, .ref (a 0)), (1, .int x1), (3, .int x3), (4, .int x4)] := hl
            refine lv_iload_n S.1 S.2.1 dM_brokenRefresh_42 rfl (lv_at hl 3 rfl) ?_
            refine lv_if_ne (tgt := 62) S.1 S.2.1 dM_brokenRefresh_43 (by decide) (fun hc => ?_) (fun hc => ?_)
            · have h := (kb_brf hc).symm.trans h
              refine lv_iconst (v := 1) S.1 S.2.1 dM_brokenRefresh_62 (by decide) ?_
              refine lv_goto (tgt := 67) S.1 S.2.1 dM_brokenRefresh_63 (by decide) ?_
              refine lv_istore_n S.1 S.2.1 dM_brokenRefresh_67 rfl hl (by decide) rfl (fun ls hl => ?_)
              have hl : lv_has ls 5 [(3, .int 1), (2, .int 0), (0, .ref (a 0)), (1, .int x1), (4, .int x4)] := hl
              refine lv_iinc (v := x4 + 1) (k := 4) S.1 S.2.1 dM_brokenRefresh_68 hl rfl rfl (by decide) rfl (fun ls hl => ?_)
              have hl : lv_has ls 5 [(4, .int (x4 + 1)), (3, .int 1), (2, .int 0), (0, .ref (a 0)), (1, .int x1)] := hl
              refine lv_goto (tgt := 10) S.1 S.2.1 dM_brokenRefresh_71 (by decide) ?_
              exact ih x1 0 1 (x4 + 1) z _ _ _ (lv_sub hl [3, 4, 2, 1, 0] rfl) w h
            · have h := (kb_brt hc).symm.trans h
              refine lv_aload_n S.1 S.2.1 dM_brokenRefresh_46 rfl (lv_at hl 1 rfl) ?_
              refine lv_iload_n S.1 S.2.1 dM_brokenRefresh_47 rfl (lv_at hl 2 rfl) ?_
              refine lv_aload_n S.1 S.2.1 dM_brokenRefresh_48 rfl (lv_at hl 1 rfl) ?_
              refine kb_get S w 0 rfl fM_19 rfl dM_brokenRefresh_49 ?_
              refine W.eq (g2 := F0 m 52 ls [.ref (a 4), .int x1, .ref (a 0)]) rfl ?_
              refine lv_iload S.1 S.2.1 dM_brokenRefresh_52 (lv_at hl 4 rfl) ?_
              obtain ⟨hi10, h⟩ := kb_ck_of h
              refine kb_iald S w 4 0 rfl rfl hi10 dM_brokenRefresh_54 ?_
              refine W.eq (g2 := F0 m 55 ls [.int (z 4 (kb_ix (x4))), .int x1, .ref (a 0)]) rfl ?_
              refine lv_iconst (v := 1) S.1 S.2.1 dM_brokenRefresh_55 (by decide) ?_
              obtain ⟨r12, z11, hc13, h⟩ := kb_cl_of h
              refine kb_calli (As := [.int x1, .int (z 4 (kb_ix (x4))), .int 1]) (rest := []) (q0 := 0) (ci := 3) S w (fun sz => cM_early l D cI cZ a _ _ _ sz x1 (z 4 (kb_ix (x4))) 1 hc13) Y_M_early I_M_early S_M_early lM_84 ⟨rfl, rfl, Nat.le_of_ble_eq_true rfl, Nat.le_of_ble_eq_true rfl⟩ rfl rfl rfl rfl hl.1 rfl (Nat.le_of_ble_eq_true rfl) dM_brokenRefresh_56 ⟨Nat.le_of_ble_eq_true rfl, Nat.le_of_ble_eq_true rfl⟩ (fun H locs w => ?_)
              refine lv_if_eq (tgt := 66) S.1 S.2.1 dM_brokenRefresh_59 (by decide) (fun hc => ?_) (fun hc => ?_)
              · have h := (kb_brt hc).symm.trans h
                refine lv_iconst (v := 0) S.1 S.2.1 dM_brokenRefresh_66 (by decide) ?_
                refine lv_istore_n S.1 S.2.1 dM_brokenRefresh_67 rfl hl (by decide) rfl (fun ls hl => ?_)
                have hl : lv_has ls 5 [(3, .int 0), (2, .int 0), (0, .ref (a 0)), (1, .int x1), (4, .int x4)] := hl
                refine lv_iinc (v := x4 + 1) (k := 4) S.1 S.2.1 dM_brokenRefresh_68 hl rfl rfl (by decide) rfl (fun ls hl => ?_)
                have hl : lv_has ls 5 [(4, .int (x4 + 1)), (3, .int 0), (2, .int 0), (0, .ref (a 0)), (1, .int x1)] := hl
                refine lv_goto (tgt := 10) S.1 S.2.1 dM_brokenRefresh_71 (by decide) ?_
                exact ih x1 0 0 (x4 + 1) z11 _ _ _ (lv_sub hl [3, 4, 2, 1, 0] rfl) w h
              · have h := (kb_brf hc).symm.trans h
                refine lv_iconst (v := 1) S.1 S.2.1 dM_brokenRefresh_62 (by decide) ?_
                refine lv_goto (tgt := 67) S.1 S.2.1 dM_brokenRefresh_63 (by decide) ?_
                refine lv_istore_n S.1 S.2.1 dM_brokenRefresh_67 rfl hl (by decide) rfl (fun ls hl => ?_)
                have hl : lv_has ls 5 [(3, .int 1), (2, .int 0), (0, .ref (a 0)), (1, .int x1), (4, .int x4)] := hl
                refine lv_iinc (v := x4 + 1) (k := 4) S.1 S.2.1 dM_brokenRefresh_68 hl rfl rfl (by decide) rfl (fun ls hl => ?_)
                have hl : lv_has ls 5 [(4, .int (x4 + 1)), (3, .int 1), (2, .int 0), (0, .ref (a 0)), (1, .int x1)] := hl
                refine lv_goto (tgt := 10) S.1 S.2.1 dM_brokenRefresh_71 (by decide) ?_
                exact ih x1 0 1 (x4 + 1) z11 _ _ _ (lv_sub hl [3, 4, 2, 1, 0] rfl) w h
          · have h := (kb_brf hc).symm.trans h
            refine lv_iconst (v := 1) S.1 S.2.1 dM_brokenRefresh_36 (by decide) ?_
            refine lv_goto (tgt := 41) S.1 S.2.1 dM_brokenRefresh_37 (by decide) ?_
            refine lv_istore_n S.1 S.2.1 dM_brokenRefresh_41 rfl hl (by decide) rfl (fun ls hl => ?_)
            have hl : lv_has ls 5 [(2, .int 1), (0, .ref (a 0)), (1, .int x1), (3, .int x3), (4, .int x4)] := hl
            refine lv_iload_n S.1 S.2.1 dM_brokenRefresh_42 rfl (lv_at hl 3 rfl) ?_
            refine lv_if_ne (tgt := 62) S.1 S.2.1 dM_brokenRefresh_43 (by decide) (fun hc => ?_) (fun hc => ?_)
            · have h := (kb_brf hc).symm.trans h
              refine lv_iconst (v := 1) S.1 S.2.1 dM_brokenRefresh_62 (by decide) ?_
              refine lv_goto (tgt := 67) S.1 S.2.1 dM_brokenRefresh_63 (by decide) ?_
              refine lv_istore_n S.1 S.2.1 dM_brokenRefresh_67 rfl hl (by decide) rfl (fun ls hl => ?_)
              have hl : lv_has ls 5 [(3, .int 1), (2, .int 1), (0, .ref (a 0)), (1, .int x1), (4, .int x4)] := hl
              refine lv_iinc (v := x4 + 1) (k := 4) S.1 S.2.1 dM_brokenRefresh_68 hl rfl rfl (by decide) rfl (fun ls hl => ?_)
              have hl : lv_has ls 5 [(4, .int (x4 + 1)), (3, .int 1), (2, .int 1), (0, .ref (a 0)), (1, .int x1)] := hl
              refine lv_goto (tgt := 10) S.1 S.2.1 dM_brokenRefresh_71 (by decide) ?_
              exact ih x1 1 1 (x4 + 1) z _ _ _ (lv_sub hl [3, 4, 2, 1, 0] rfl) w h
            · have h := (kb_brt hc).symm.trans h
              refine lv_aload_n S.1 S.2.1 dM_brokenRefresh_46 rfl (lv_at hl 1 rfl) ?_
              refine lv_iload_n S.1 S.2.1 dM_brokenRefresh_47 rfl (lv_at hl 2 rfl) ?_
              refine lv_aload_n S.1 S.2.1 dM_brokenRefresh_48 rfl (lv_at hl 1 rfl) ?_
              refine kb_get S w 0 rfl fM_19 rfl dM_brokenRefresh_49 ?_
              refine W.eq (g2 := F0 m 52 ls [.ref (a 4), .int x1, .ref (a 0)]) rfl ?_
              refine lv_iload S.1 S.2.1 dM_brokenRefresh_52 (lv_at hl 4 rfl) ?_
              obtain ⟨hi14, h⟩ := kb_ck_of h
              refine kb_iald S w 4 0 rfl rfl hi14 dM_brokenRefresh_54 ?_
              refine W.eq (g2 := F0 m 55 ls [.int (z 4 (kb_ix (x4))), .int x1, .ref (a 0)]) rfl ?_
              refine lv_iconst (v := 1) S.1 S.2.1 dM_brokenRefresh_55 (by decide) ?_
              obtain ⟨r16, z15, hc17, h⟩ := kb_cl_of h
              refine kb_calli (As := [.int x1, .int (z 4 (kb_ix (x4))), .int 1]) (rest := []) (q0 := 0) (ci := 3) S w (fun sz => cM_early l D cI cZ a _ _ _ sz x1 (z 4 (kb_ix (x4))) 1 hc17) Y_M_early I_M_early S_M_early lM_84 ⟨rfl, rfl, Nat.le_of_ble_eq_true rfl, Nat.le_of_ble_eq_true rfl⟩ rfl rfl rfl rfl hl.1 rfl (Nat.le_of_ble_eq_true rfl) dM_brokenRefresh_56 ⟨Nat.le_of_ble_eq_true rfl, Nat.le_of_ble_eq_true rfl⟩ (fun H locs w => ?_)
              refine lv_if_eq (tgt := 66) S.1 S.2.1 dM_brokenRefresh_59 (by decide) (fun hc => ?_) (fun hc => ?_)
              · have h := (kb_brt hc).symm.trans h
                refine lv_iconst (v := 0) S.1 S.2.1 dM_brokenRefresh_66 (by decide) ?_
                refine lv_istore_n S.1 S.2.1 dM_brokenRefresh_67 rfl hl (by decide) rfl (fun ls hl => ?_)
                have hl : lv_has ls 5 [(3, .int 0), (2, .int 1), (0, .ref (a 0)), (1, .int x1), (4, .int x4)] := hl
                refine lv_iinc (v := x4 + 1) (k := 4) S.1 S.2.1 dM_brokenRefresh_68 hl rfl rfl (by decide) rfl (fun ls hl => ?_)
                have hl : lv_has ls 5 [(4, .int (x4 + 1)), (3, .int 0), (2, .int 1), (0, .ref (a 0)), (1, .int x1)] := hl
                refine lv_goto (tgt := 10) S.1 S.2.1 dM_brokenRefresh_71 (by decide) ?_
                exact ih x1 1 0 (x4 + 1) z15 _ _ _ (lv_sub hl [3, 4, 2, 1, 0] rfl) w h
              · have h := (kb_brf hc).symm.trans h
                refine lv_iconst (v := 1) S.1 S.2.1 dM_brokenRefresh_62 (by decide) ?_
                refine lv_goto (tgt := 67) S.1 S.2.1 dM_brokenRefresh_63 (by decide) ?_
                refine lv_istore_n S.1 S.2.1 dM_brokenRefresh_67 rfl hl (by decide) rfl (fun ls hl => ?_)
                have hl : lv_has ls 5 [(3, .int 1), (2, .int 1), (0, .ref (a 0)), (1, .int x1), (4, .int x4)] := hl
                refine lv_iinc (v := x4 + 1) (k := 4) S.1 S.2.1 dM_brokenRefresh_68 hl rfl rfl (by decide) rfl (fun ls hl => ?_)
                have hl : lv_has ls 5 [(4, .int (x4 + 1)), (3, .int 1), (2, .int 1), (0, .ref (a 0)), (1, .int x1)] := hl
                refine lv_goto (tgt := 10) S.1 S.2.1 dM_brokenRefresh_71 (by decide) ?_
                exact ih x1 1 1 (x4 + 1) z15 _ _ _ (lv_sub hl [3, 4, 2, 1, 0] rfl) w h
  refine lv_iconst (v := 0) S.1 S.2.1 dM_brokenRefresh_0 (by decide) ?_
  refine lv_istore_n S.1 S.2.1 dM_brokenRefresh_1 rfl hl (by decide) rfl (fun ls hl => ?_)
  have hl : lv_has ls 5 [(2, .int 0), (0, .ref (a 0)), (1, .int x1)] := hl
  refine lv_iconst (v := 0) S.1 S.2.1 dM_brokenRefresh_2 (by decide) ?_
  refine lv_istore_n S.1 S.2.1 dM_brokenRefresh_3 rfl hl (by decide) rfl (fun ls hl => ?_)
  have hl : lv_has ls 5 [(3, .int 0), (2, .int 0), (0, .ref (a 0)), (1, .int x1)] := hl
  refine lv_bipush (v := 8) S.1 S.2.1 dM_brokenRefresh_4 (by decide) ?_
  refine lv_iload_n S.1 S.2.1 dM_brokenRefresh_6 rfl (lv_at hl 3 rfl) ?_
  refine lv_imul S.1 S.2.1 dM_brokenRefresh_7 ?_
  refine lv_istore S.1 S.2.1 dM_brokenRefresh_8 hl (by decide) rfl (fun ls hl => ?_)
  have hl : lv_has ls 5 [(4, .int (8 * x1)), (3, .int 0), (2, .int 0), (0, .ref (a 0)), (1, .int x1)] := hl
  exact L10 3000 x1 0 0 (8 * x1) z0 _ _ _ (lv_sub hl [3, 4, 2, 1, 0] rfl) w h
