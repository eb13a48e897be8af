set_option maxHeartbeats 4000000 in
set_option maxRecDepth 100000 in
theorem cM_told (l : Launch) (D : va_G) (cI cZ : ClassId) (a : Nat → Nat) (z0 z' : kb_S) (r : Int32) (sz : Nat) (x1 : Int32) (x2 : Int32) (x3 : Int32) (h : pM_told x1 x2 x3 z0 = some (r, z')) : Met l y_M_told (Cond.code y_M_told c_M_told 4 (some .int) :: wsB) rm_M_told (kb_Pc D vwCl [(cI, .int), (cZ, .boolean)] sz [.ref (a 0), .int x1, .int x2, .int x3] (mW cI cZ a z0)) (kb_Qi D vwCl sz (mW cI cZ a z0) r (mW cI cZ a z')) 0 0 (va_A (mW cI cZ a z0) sz) := by
  refine kb_start (by decide) rfl (Nat.le_of_ble_eq_true rfl) ?_
  intro p e s m args below meth c A ls S hr hlk hsz hA w hl
  have hl : lv_has ls 4 [(0, .ref (a 0)), (1, .int x1), (2, .int x2), (3, .int x3)] := hl
  unfold pM_told at h
  have J38 : ∀ (x1 : Int32) (x3 : Int32) (s0 : Int32) (s1 : Int32) (z : kb_S) (H : Heap) (locs : List Loc) (ls : Array Slot), lv_has ls 4 [(1, .int x1), (3, .int x3)] → kb_W D vwCl [(cI, .int), (cZ, .boolean)] A s H locs (mW cI cZ a z) → pM_told_J38 x1 x3 s0 s1 z = some (r, z') → W p l e rm_M_told s m args below meth c H locs 0 0 (MQ below (kb_Qi D vwCl sz (mW cI cZ a z0) r (mW cI cZ a z')) args s 0 0 (va_A (mW cI cZ a z0) sz)) (F0 m 38 ls [.int s0, .int s1]) := by
    intro x1 x3 s0 s1 z H locs ls hl w h
    unfold pM_told_J38 at h
    refine lv_iadd S.1 S.2.1 dM_told_38 ?_
    refine lv_iload_n S.1 S.2.1 dM_told_39 rfl (lv_at hl 0 rfl) ?_
    refine lv_iconst (v := 4) S.1 S.2.1 dM_told_40 (by decide) ?_
    refine lv_icmp_eq (tgt := 49) S.1 S.2.1 dM_told_41 (by decide) (fun hc => ?_) (fun hc => ?_)
    · have h := (kb_brt hc).symm.trans h
      refine lv_iconst (v := 0) S.1 S.2.1 dM_told_49 (by decide) ?_
      refine lv_goto (tgt := 54) S.1 S.2.1 dM_told_50 (by decide) ?_
      refine lv_iadd S.1 S.2.1 dM_told_54 ?_
      exact kb_iret (mW cI cZ a) S hr hlk hA w h dM_told_55
    · have h := (kb_brf hc).symm.trans h
      refine lv_iload_n S.1 S.2.1 dM_told_44 rfl (lv_at hl 0 rfl) ?_
      refine lv_iconst (v := 1) S.1 S.2.1 dM_told_45 (by decide) ?_
      refine lv_icmp_ne (tgt := 53) S.1 S.2.1 dM_told_46 (by decide) (fun hc => ?_) (fun hc => ?_)
      · have h := (kb_brf hc).symm.trans h
        refine lv_iload_n S.1 S.2.1 dM_told_53 rfl (lv_at hl 1 rfl) ?_
        refine lv_iadd S.1 S.2.1 dM_told_54 ?_
        exact kb_iret (mW cI cZ a) S hr hlk hA w h dM_told_55
      · have h := (kb_brt hc).symm.trans h
        refine lv_iconst (v := 0) S.1 S.2.1 dM_told_49 (by decide) ?_
        refine lv_goto (tgt := 54) S.1 S.2.1 dM_told_50 (by decide) ?_
        refine lv_iadd S.1 S.2.1 dM_told_54 ?_
        exact kb_iret (mW cI cZ a) S hr hlk hA w h dM_told_55
  refine lv_aload_n S.1 S.2.1 dM_told_0 rfl (lv_at hl 0 rfl) ?_
  refine lv_iconst (v := 0) S.1 S.2.1 dM_told_1 (by decide) ?_
  refine lv_iload_n S.1 S.2.1 dM_told_2 rfl (lv_at hl 1 rfl) ?_
  refine lv_iload_n S.1 S.2.1 dM_told_3 rfl (lv_at hl 2 rfl) ?_
  refine lv_iload_n S.1 S.2.1 dM_told_4 rfl (lv_at hl 3 rfl) ?_
  obtain ⟨r2, z1, hc3, h⟩ := kb_cl_of h
  refine kb_callv (As := [.int 0, .int x1, .int x2, .int x3]) (rest := []) (q0 := 0) (ci := 3) S w (fun sz => cM_give l D cI cZ a _ _ _ sz 0 x1 x2 x3 hc3) Y_M_give I_M_give S_M_give lM_126 ⟨rfl, rfl, Nat.le_of_ble_eq_true rfl, Nat.le_of_ble_eq_true rfl⟩ rfl rfl rfl rfl hl.1 rfl (Nat.le_of_ble_eq_true rfl) dM_told_5 ⟨Nat.le_of_ble_eq_true rfl, Nat.le_of_ble_eq_true rfl⟩ (fun H locs w => ?_)
  refine lv_aload_n S.1 S.2.1 dM_told_8 rfl (lv_at hl 0 rfl) ?_
  refine kb_get S w 0 rfl fM_68 rfl dM_told_9 ?_
  refine W.eq (g2 := F0 m 12 ls [.ref (a 20)]) rfl ?_
  refine lv_iload_n S.1 S.2.1 dM_told_12 rfl (lv_at hl 1 rfl) ?_
  refine lv_dup2_11 S.1 S.2.1 dM_told_13 rfl rfl ?_
  obtain ⟨hi4, h⟩ := kb_ck_of h
  refine kb_iald S w 20 0 rfl rfl hi4 dM_told_14 ?_
  refine W.eq (g2 := F0 m 15 ls [.int (z1 20 (kb_ix (x1))), .int x1, .ref (a 20)]) rfl ?_
  refine lv_iconst (v := 1) S.1 S.2.1 dM_told_15 (by decide) ?_
  refine lv_iadd S.1 S.2.1 dM_told_16 ?_
  obtain ⟨hi5, h⟩ := kb_ck_of h
  obtain ⟨z6, hz7, h⟩ := kb_st_of h
  refine kb_iast S w 20 0 rfl rfl hi5 (ws1 := mW cI cZ a z6) (by rw [hz7]; rfl) dM_told_17 (fun H locs w => ?_)
  refine lv_sipush (v := 1000) S.1 S.2.1 dM_told_18 (by decide) ?_
  refine lv_iload_n S.1 S.2.1 dM_told_21 rfl (lv_at hl 1 rfl) ?_
  refine lv_iconst (v := 1) S.1 S.2.1 dM_told_22 (by decide) ?_
  refine lv_iadd S.1 S.2.1 dM_told_23 ?_
  refine lv_imul S.1 S.2.1 dM_told_24 ?_
  refine lv_iload_n S.1 S.2.1 dM_told_25 rfl (lv_at hl 1 rfl) ?_
  refine lv_iconst (v := 4) S.1 S.2.1 dM_told_26 (by decide) ?_
  refine lv_icmp_ne (tgt := 34) S.1 S.2.1 dM_told_27 (by decide) (fun hc => ?_) (fun hc => ?_)
  · have h := (kb_brf hc).symm.trans h
    refine lv_bipush (v := 100) S.1 S.2.1 dM_told_34 (by decide) ?_
    refine lv_iload_n S.1 S.2.1 dM_told_36 rfl (lv_at hl 2 rfl) ?_
    refine lv_imul S.1 S.2.1 dM_told_37 ?_
    exact J38 x1 x3 (100 * x2) (1000 * (x1 + 1)) z6 _ _ _ (lv_sub hl [1, 3] rfl) w h
  · have h := (kb_brt hc).symm.trans h
    refine lv_iconst (v := 0) S.1 S.2.1 dM_told_30 (by decide) ?_
    refine lv_goto (tgt := 38) S.1 S.2.1 dM_told_31 (by decide) ?_
    exact J38 x1 x3 0 (1000 * (x1 + 1)) z6 _ _ _ (lv_sub hl [1, 3] rfl) w h
set_option maxHeartbeats 4000000 in
set_option maxRecDepth 100000 in
theorem cM_refreshing (l : Launch) (D : va_G) (cI cZ : ClassId) (a : Nat → Nat) (z0 z' : kb_S) (r : Int32) (sz : Nat) (h : pM_refreshing  z0 = some (r, z')) : Met l y_M_refreshing (Cond.code y_M_refreshing c_M_refreshing 2 (some .int) :: wsB) rm_M_refreshing (kb_Pc D vwCl [(cI, .int), (cZ, .boolean)] sz [.ref (a 0)] (mW cI cZ a z0)) (kb_Qi D vwCl sz (mW cI cZ a z0) r (mW cI cZ a z')) 0 0 (va_A (mW cI cZ a z0) sz) := by
  refine kb_start (by decide) rfl (Nat.le_of_ble_eq_true rfl) ?_
  intro p e s m args below meth c A ls S hr hlk hsz hA w hl
  have hl : lv_has ls 2 [(0, .ref (a 0))] := hl
  unfold pM_refreshing at h
  have L18 : ∀ (n : Nat) (x1 : Int32) (z : kb_S) (H : Heap) (locs : List Loc) (ls : Array Slot), lv_has ls 2 [(0, .ref (a 0)), (1, .int x1)] → kb_W D vwCl [(cI, .int), (cZ, .boolean)] A s H locs (mW cI cZ a z) → pM_refreshing_L18 n x1 z = some (r, z') → W p l e rm_M_refreshing s m args below meth c H locs 0 0 (MQ below (kb_Qi D vwCl sz (mW cI cZ a z0) r (mW cI cZ a z')) args s 0 0 (va_A (mW cI cZ a z0) sz)) (F0 m 18 ls []) := by
    intro n
    induction n with
    | zero =>
      intro x1 z H locs ls hl w h
      exact absurd h (by simp [pM_refreshing_L18])
    | succ n ih =>
      intro x1 z H locs ls hl w h
      rw [pM_refreshing_L18] at h
      refine lv_iload_n S.1 S.2.1 dM_refreshing_18 rfl (lv_at hl 1 rfl) ?_
      refine lv_aload_n S.1 S.2.1 dM_refreshing_19 rfl (lv_at hl 0 rfl) ?_
      refine kb_get S w 0 rfl fM_71 rfl dM_refreshing_20 ?_
      refine W.eq (g2 := F0 m 23 ls [.int (z 0 1), .int x1]) rfl ?_
      refine lv_icmp_ge (tgt := 49) S.1 S.2.1 dM_refreshing_23 (by decide) (fun hc => ?_) (fun hc => ?_)
      · have h := (kb_brt hc).symm.trans h
        refine lv_iconst (v := 0) S.1 S.2.1 dM_refreshing_49 (by decide) ?_
        exact kb_iret (mW cI cZ a) S hr hlk hA w h dM_refreshing_50
      · have h := (kb_brf hc).symm.trans h
        refine lv_aload_n S.1 S.2.1 dM_refreshing_26 rfl (lv_at hl 0 rfl) ?_
        refine lv_iconst (v := 0) S.1 S.2.1 dM_refreshing_27 (by decide) ?_
        refine lv_iload_n S.1 S.2.1 dM_refreshing_28 rfl (lv_at hl 1 rfl) ?_
        obtain ⟨r5, z4, hc6, h⟩ := kb_cl_of h
        refine kb_calli (As := [.int 0, .int x1]) (rest := []) (q0 := 0) (ci := 3) S w (fun sz => cM_brokenClose l D cI cZ a _ _ _ sz 0 x1 hc6) Y_M_brokenClose I_M_brokenClose S_M_brokenClose lM_92 ⟨rfl, rfl, Nat.le_of_ble_eq_true rfl, Nat.le_of_ble_eq_true rfl⟩ rfl rfl rfl rfl hl.1 rfl (Nat.le_of_ble_eq_true rfl) dM_refreshing_29 ⟨Nat.le_of_ble_eq_true rfl, Nat.le_of_ble_eq_true rfl⟩ (fun H locs w => ?_)
        refine lv_if_ne (tgt := 43) S.1 S.2.1 dM_refreshing_32 (by decide) (fun hc => ?_) (fun hc => ?_)
        · have h := (kb_brf hc).symm.trans h
          refine lv_iinc (v := x1 + 1) (k := 1) S.1 S.2.1 dM_refreshing_43 hl rfl rfl (by decide) rfl (fun ls hl => ?_)
          have hl : lv_has ls 2 [(1, .int (x1 + 1)), (0, .ref (a 0))] := hl
          refine lv_goto (tgt := 18) S.1 S.2.1 dM_refreshing_46 (by decide) ?_
          exact ih (x1 + 1) z4 _ _ _ (lv_sub hl [1, 0] rfl) w h
        · have h := (kb_brt hc).symm.trans h
          refine lv_aload_n S.1 S.2.1 dM_refreshing_35 rfl (lv_at hl 0 rfl) ?_
          refine lv_iconst (v := 1) S.1 S.2.1 dM_refreshing_36 (by decide) ?_
          refine lv_iload_n S.1 S.2.1 dM_refreshing_37 rfl (lv_at hl 1 rfl) ?_
          refine lv_iconst (v := 0) S.1 S.2.1 dM_refreshing_38 (by decide) ?_
          obtain ⟨r8, z7, hc9, h⟩ := kb_cl_of h
          refine kb_calli (As := [.int 1, .int x1, .int 0]) (rest := []) (q0 := 0) (ci := 3) S w (fun sz => cM_told l D cI cZ a _ _ _ sz 1 x1 0 hc9) Y_M_told I_M_told S_M_told lM_130 ⟨rfl, rfl, Nat.le_of_ble_eq_true rfl, Nat.le_of_ble_eq_true rfl⟩ rfl rfl rfl rfl hl.1 rfl (Nat.le_of_ble_eq_true rfl) dM_refreshing_39 ⟨Nat.le_of_ble_eq_true rfl, Nat.le_of_ble_eq_true rfl⟩ (fun H locs w => ?_)
          exact kb_iret (mW cI cZ a) S hr hlk hA w h dM_refreshing_42
  refine lv_aload_n S.1 S.2.1 dM_refreshing_0 rfl (lv_at hl 0 rfl) ?_
  refine lv_iconst (v := 0) S.1 S.2.1 dM_refreshing_1 (by decide) ?_
  obtain ⟨r2, z1, hc3, h⟩ := kb_cl_of h
  refine kb_calli (As := [.int 0]) (rest := []) (q0 := 0) (ci := 3) S w (fun sz => cM_brokenRefresh l D cI cZ a _ _ _ sz 0 hc3) Y_M_brokenRefresh I_M_brokenRefresh S_M_brokenRefresh lM_95 ⟨rfl, rfl, Nat.le_of_ble_eq_true rfl, Nat.le_of_ble_eq_true rfl⟩ rfl rfl rfl rfl hl.1 rfl (Nat.le_of_ble_eq_true rfl) dM_refreshing_2 ⟨Nat.le_of_ble_eq_true rfl, Nat.le_of_ble_eq_true rfl⟩ (fun H locs w => ?_)
  refine lv_if_ne (tgt := 16) S.1 S.2.1 dM_refreshing_5 (by decide) (fun hc => ?_) (fun hc => ?_)
  · have h := (kb_brf hc).symm.trans h
    refine lv_iconst (v := 0) S.1 S.2.1 dM_refreshing_16 (by decide) ?_
    refine lv_istore_n S.1 S.2.1 dM_refreshing_17 rfl hl (by decide) rfl (fun ls hl => ?_)
    have hl : lv_has ls 2 [(1, .int 0), (0, .ref (a 0))] := hl
    exact L18 3000 0 z1 _ _ _ (lv_sub hl [1, 0] rfl) w h
  · have h := (kb_brt hc).symm.trans h
    refine lv_aload_n S.1 S.2.1 dM_refreshing_8 rfl (lv_at hl 0 rfl) ?_
    refine lv_iconst (v := 4) S.1 S.2.1 dM_refreshing_9 (by decide) ?_
    refine lv_iconst (v := 0) S.1 S.2.1 dM_refreshing_10 (by decide) ?_
    refine lv_iconst (v := 0) S.1 S.2.1 dM_refreshing_11 (by decide) ?_
    obtain ⟨r11, z10, hc12, h⟩ := kb_cl_of h
    refine kb_calli (As := [.int 4, .int 0, .int 0]) (rest := []) (q0 := 0) (ci := 3) S w (fun sz => cM_told l D cI cZ a _ _ _ sz 4 0 0 hc12) Y_M_told I_M_told S_M_told lM_130 ⟨rfl, rfl, Nat.le_of_ble_eq_true rfl, Nat.le_of_ble_eq_true rfl⟩ rfl rfl rfl rfl hl.1 rfl (Nat.le_of_ble_eq_true rfl) dM_refreshing_12 ⟨Nat.le_of_ble_eq_true rfl, Nat.le_of_ble_eq_true rfl⟩ (fun H locs w => ?_)
    exact kb_iret (mW cI cZ a) S hr hlk hA w h dM_refreshing_15
set_option maxHeartbeats 4000000 in
set_option maxRecDepth 100000 in
theorem cM_hasElder (l : Launch) (D : va_G) (cI cZ : ClassId) (a : Nat → Nat) (z0 z' : kb_S) (r : Int32) (sz : Nat) (x1 : Int32) (h : pM_hasElder x1 z0 = some (r, z')) : Met l y_M_hasElder (Cond.code y_M_hasElder c_M_hasElder 4 (some .boolean) :: wsB) rm_M_hasElder (kb_Pc D vwCl [(cI, .int), (cZ, .boolean)] sz [.ref (a 0), .int x1] (mW cI cZ a z0)) (kb_Qi D vwCl sz (mW cI cZ a z0) r (mW cI cZ a z')) 0 0 (va_A (mW cI cZ a z0) sz) := by
  refine kb_start (by decide) rfl (Nat.le_of_ble_eq_true rfl) ?_
  intro p e s m args below meth c A ls S hr hlk hsz hA w hl
  have hl : lv_has ls 4 [(0, .ref (a 0)), (1, .int x1)] := hl
  unfold pM_hasElder at h
  have L4 : ∀ (n : Nat) (x1 : Int32) (x2 : Int32) (x3 : Int32) (z : kb_S) (H : Heap) (locs : List Loc) (ls : Array Slot), lv_has ls 4 [(0, .ref (a 0)), (1, .int x1), (2, .int x2), (3, .int x3)] → kb_W D vwCl [(cI, .int), (cZ, .boolean)] A s H locs (mW cI cZ a z) → pM_hasElder_L4 n x1 x2 x3 z = some (r, z') → W p l e rm_M_hasElder s m args below meth c H locs 0 0 (MQ below (kb_Qi D vwCl sz (mW cI cZ a z0) r (mW cI cZ a z')) args s 0 0 (va_A (mW cI cZ a z0) sz)) (F0 m 4 ls []) := by
    intro n
    induction n with
    | zero =>
      intro x1 x2 x3 z H locs ls hl w h
      exact absurd h (by simp [pM_hasElder_L4])
    | succ n ih =>
      intro x1 x2 x3 z H locs ls hl w h
      rw [pM_hasElder_L4] at h
      refine lv_iload_n S.1 S.2.1 dM_hasElder_4 rfl (lv_at hl 3 rfl) ?_
      refine lv_iload_n S.1 S.2.1 dM_hasElder_5 rfl (lv_at hl 1 rfl) ?_
      refine lv_icmp_ge (tgt := 70) S.1 S.2.1 dM_hasElder_6 (by decide) (fun hc => ?_) (fun hc => ?_)
      · have h := (kb_brt hc).symm.trans h
        refine lv_iload_n S.1 S.2.1 dM_hasElder_70 rfl (lv_at hl 2 rfl) ?_
        obtain ⟨hb1, h⟩ := kb_ck_of h
        exact kb_zret (mW cI cZ a) S hr hlk hA w h hb1 dM_hasElder_71
      · have h := (kb_brf hc).symm.trans h
        refine lv_iload_n S.1 S.2.1 dM_hasElder_9 rfl (lv_at hl 2 rfl) ?_
        refine lv_if_ne (tgt := 58) S.1 S.2.1 dM_hasElder_10 (by decide) (fun hc => ?_) (fun hc => ?_)
        · have h := (kb_brf hc).symm.trans h
          refine lv_iconst (v := 1) S.1 S.2.1 dM_hasElder_58 (by decide) ?_
          refine lv_goto (tgt := 63) S.1 S.2.1 dM_hasElder_59 (by decide) ?_
          refine lv_istore_n S.1 S.2.1 dM_hasElder_63 rfl hl (by decide) rfl (fun ls hl => ?_)
          have hl : lv_has ls 4 [(2, .int 1), (0, .ref (a 0)), (1, .int x1), (3, .int x3)] := hl
          refine lv_iinc (v := x3 + 1) (k := 3) S.1 S.2.1 dM_hasElder_64 hl rfl rfl (by decide) rfl (fun ls hl => ?_)
          have hl : lv_has ls 4 [(3, .int (x3 + 1)), (2, .int 1), (0, .ref (a 0)), (1, .int x1)] := hl
          refine lv_goto (tgt := 4) S.1 S.2.1 dM_hasElder_67 (by decide) ?_
          exact ih x1 1 (x3 + 1) z _ _ _ (lv_sub hl [2, 3, 1, 0] rfl) w h
        · have h := (kb_brt hc).symm.trans h
          refine lv_aload_n S.1 S.2.1 dM_hasElder_13 rfl (lv_at hl 0 rfl) ?_
          refine kb_get S w 0 rfl fM_43 rfl dM_hasElder_14 ?_
          refine W.eq (g2 := F0 m 17 ls [.ref (a 12)]) rfl ?_
          refine lv_iload_n S.1 S.2.1 dM_hasElder_17 rfl (lv_at hl 3 rfl) ?_
          obtain ⟨hi2, h⟩ := kb_ck_of h
          refine kb_iald S w 12 0 rfl rfl hi2 dM_hasElder_18 ?_
          refine W.eq (g2 := F0 m 19 ls [.int (z 12 (kb_ix (x3)))]) rfl ?_
          refine lv_aload_n S.1 S.2.1 dM_hasElder_19 rfl (lv_at hl 0 rfl) ?_
          refine kb_get S w 0 rfl fM_43 rfl dM_hasElder_20 ?_
          refine W.eq (g2 := F0 m 23 ls [.ref (a 12), .int (z 12 (kb_ix (x3)))]) rfl ?_
          refine lv_iload_n S.1 S.2.1 dM_hasElder_23 rfl (lv_at hl 1 rfl) ?_
          obtain ⟨hi3, h⟩ := kb_ck_of h
          refine kb_iald S w 12 0 rfl rfl hi3 dM_hasElder_24 ?_
          refine W.eq (g2 := F0 m 25 ls [.int (z 12 (kb_ix (x1))), .int (z 12 (kb_ix (x3)))]) rfl ?_
          refine lv_icmp_ne (tgt := 62) S.1 S.2.1 dM_hasElder_25 (by decide) (fun hc => ?_) (fun hc => ?_)
          · have h := (kb_brf hc).symm.trans h
            refine lv_iconst (v := 0) S.1 S.2.1 dM_hasElder_62 (by decide) ?_
            refine lv_istore_n S.1 S.2.1 dM_hasElder_63 rfl hl (by decide) rfl (fun ls hl => ?_)
            have hl : lv_has ls 4 [(2, .int 0), (0, .ref (a 0)), (1, .int x1), (3, .int x3)] := hl
            refine lv_iinc (v := x3 + 1) (k := 3) S.1 S.2.1 dM_hasElder_64 hl rfl rfl (by decide) rfl (fun ls hl => ?_)
            have hl : lv_has ls 4 [(3, .int (x3 + 1)), (2, .int 0), (0, .ref (a 0)), (1, .int x1)] := hl
            refine lv_goto (tgt := 4) S.1 S.2.1 dM_hasElder_67 (by decide) ?_
            exact ih x1 0 (x3 + 1) z _ _ _ (lv_sub hl [2, 3, 1, 0] rfl) w h
          · have h := (kb_brt hc).symm.trans h
            refine lv_aload_n S.1 S.2.1 dM_hasElder_28 rfl (lv_at hl 0 rfl) ?_
            refine kb_get S w 0 rfl fM_46 rfl dM_hasElder_29 ?_
            refine W.eq (g2 := F0 m 32 ls [.ref (a 13)]) rfl ?_
            refine lv_iload_n S.1 S.2.1 dM_hasElder_32 rfl (lv_at hl 3 rfl) ?_
            obtain ⟨hi4, h⟩ := kb_ck_of h
            refine kb_iald S w 13 0 rfl rfl hi4 dM_hasElder_33 ?_
            refine W.eq (g2 := F0 m 34 ls [.int (z 13 (kb_ix (x3)))]) rfl ?_
            refine lv_aload_n S.1 S.2.1 dM_hasElder_34 rfl (lv_at hl 0 rfl) ?_
            refine kb_get S w 0 rfl fM_46 rfl dM_hasElder_35 ?_
            refine W.eq (g2 := F0 m 38 ls [.ref (a 13), .int (z 13 (kb_ix (x3)))]) rfl ?_
            refine lv_iload_n S.1 S.2.1 dM_hasElder_38 rfl (lv_at hl 1 rfl) ?_
            obtain ⟨hi5, h⟩ := kb_ck_of h
            refine kb_iald S w 13 0 rfl rfl hi5 dM_hasElder_39 ?_
            refine W.eq (g2 := F0 m 40 ls [.int (z 13 (kb_ix (x1))), .int (z 13 (kb_ix (x3)))]) rfl ?_
            refine lv_icmp_ne (tgt := 62) S.1 S.2.1 dM_hasElder_40 (by decide) (fun hc => ?_) (fun hc => ?_)
            · have h := (kb_brf hc).symm.trans h
              refine lv_iconst (v := 0) S.1 S.2.1 dM_hasElder_62 (by decide) ?_
              refine lv_istore_n S.1 S.2.1 dM_hasElder_63 rfl hl (by decide) rfl (fun ls hl => ?_)
              have hl : lv_has ls 4 [(2, .int 0), (0, .ref (a 0)), (1, .int x1), (3, .int x3)] := hl
              refine lv_iinc (v := x3 + 1) (k := 3) S.1 S.2.1 dM_hasElder_64 hl rfl rfl (by decide) rfl (fun ls hl => ?_)
              have hl : lv_has ls 4 [(3, .int (x3 + 1)), (2, .int 0), (0, .ref (a 0)), (1, .int x1)] := hl
              refine lv_goto (tgt := 4) S.1 S.2.1 dM_hasElder_67 (by decide) ?_
              exact ih x1 0 (x3 + 1) z _ _ _ (lv_sub hl [2, 3, 1, 0] rfl) w h
            · have h := (kb_brt hc).symm.trans h
              refine lv_aload_n S.1 S.2.1 dM_hasElder_43 rfl (lv_at hl 0 rfl) ?_
              refine kb_get S w 0 rfl fM_49 rfl dM_hasElder_44 ?_
              refine W.eq (g2 := F0 m 47 ls [.ref (a 14)]) rfl ?_
              refine lv_iload_n S.1 S.2.1 dM_hasElder_47 rfl (lv_at hl 3 rfl) ?_
              obtain ⟨hi6, h⟩ := kb_ck_of h
              refine kb_iald S w 14 0 rfl rfl hi6 dM_hasElder_48 ?_
              refine W.eq (g2 := F0 m 49 ls [.int (z 14 (kb_ix (x3)))]) rfl ?_
              refine lv_aload_n S.1 S.2.1 dM_hasElder_49 rfl (lv_at hl 0 rfl) ?_
              refine kb_get S w 0 rfl fM_49 rfl dM_hasElder_50 ?_
              refine W.eq (g2 := F0 m 53 ls [.ref (a 14), .int (z 14 (kb_ix (x3)))]) rfl ?_
              refine lv_iload_n S.1 S.2.1 dM_hasElder_53 rfl (lv_at hl 1 rfl) ?_
              obtain ⟨hi7, h⟩ := kb_ck_of h
              refine kb_iald S w 14 0 rfl rfl hi7 dM_hasElder_54 ?_
              refine W.eq (g2 := F0 m 55 ls [.int (z 14 (kb_ix (x1))), .int (z 14 (kb_ix (x3)))]) rfl ?_
              refine lv_icmp_ne (tgt := 62) S.1 S.2.1 dM_hasElder_55 (by decide) (fun hc => ?_) (fun hc => ?_)
              · have h := (kb_brf hc).symm.trans h
                refine lv_iconst (v := 0) S.1 S.2.1 dM_hasElder_62 (by decide) ?_
                refine lv_istore_n S.1 S.2.1 dM_hasElder_63 rfl hl (by decide) rfl (fun ls hl => ?_)
                have hl : lv_has ls 4 [(2, .int 0), (0, .ref (a 0)), (1, .int x1), (3, .int x3)] := hl
                refine lv_iinc (v := x3 + 1) (k := 3) S.1 S.2.1 dM_hasElder_64 hl rfl rfl (by decide) rfl (fun ls hl => ?_)
                have hl : lv_has ls 4 [(3, .int (x3 + 1)), (2, .int 0), (0, .ref (a 0)), (1, .int x1)] := hl
                refine lv_goto (tgt := 4) S.1 S.2.1 dM_hasElder_67 (by decide) ?_
                exact ih x1 0 (x3 + 1) z _ _ _ (lv_sub hl [2, 3, 1, 0] rfl) w h
              · have h := (kb_brt hc).symm.trans h
                refine lv_iconst (v := 1) S.1 S.2.1 dM_hasElder_58 (by decide) ?_
                refine lv_goto (tgt := 63) S.1 S.2.1 dM_hasElder_59 (by decide) ?_
                refine lv_istore_n S.1 S.2.1 dM_hasElder_63 rfl hl (by decide) rfl (fun ls hl => ?_)
                have hl : lv_has ls 4 [(2, .int 1), (0, .ref (a 0)), (1, .int x1), (3, .int x3)] := hl
                refine lv_iinc (v := x3 + 1) (k := 3) S.1 S.2.1 dM_hasElder_64 hl rfl rfl (by decide) rfl (fun ls hl => ?_)
                have hl : lv_has ls 4 [(3, .int (x3 + 1)), (2, .int 1), (0, .ref (a 0)), (1, .int x1)] := hl
                refine lv_goto (tgt := 4) S.1 S.2.1 dM_hasElder_67 (by decide) ?_
                exact ih x1 1 (x3 + 1) z _ _ _ (lv_sub hl [2, 3, 1, 0] rfl) w h
  refine lv_iconst (v := 0) S.1 S.2.1 dM_hasElder_0 (by decide) ?_
  refine lv_istore_n S.1 S.2.1 dM_hasElder_1 rfl hl (by decide) rfl (fun ls hl => ?_)
  have hl : lv_has ls 4 [(2, .int 0), (0, .ref (a 0)), (1, .int x1)] := hl
  refine lv_iconst (v := 0) S.1 S.2.1 dM_hasElder_2 (by decide) ?_
  refine lv_istore_n S.1 S.2.1 dM_hasElder_3 rfl hl (by decide) rfl (fun ls hl => ?_)
  have hl : lv_has ls 4 [(3, .int 0), (2, .int 0), (0, .ref (a 0)), (1, .int x1)] := hl
  exact L4 3000 x1 0 0 z0 _ _ _ (lv_sub hl [2, 3, 1, 0] rfl) w h
set_option maxHeartbeats 4000000 in
set_option maxRecDepth 100000 in
theorem cM_hit (l : Launch) (D : va_G) (cI cZ : ClassId) (a : Nat → Nat) (z0 z' : kb_S) (r : Int32) (sz : Nat) (x1 : Int32) (h : pM_hit x1 z0 = some (r, z')) : Met l y_M_hit (Cond.code y_M_hit c_M_hit 6 (some .int) :: wsB) rm_M_hit (kb_Pc D vwCl [(cI, .int), (cZ, .boolean)] sz [.ref (a 0), .int x1] (mW cI cZ a z0)) (kb_Qi D vwCl sz (mW cI cZ a z0) r (mW cI cZ a z')) 0 0 (va_A (mW cI cZ a z0) sz) := by
  refine kb_start (by decide) rfl (Nat.le_of_ble_eq_true rfl) ?_
  intro p e s m args below meth c A ls S hr hlk hsz hA w hl
  have hl : lv_has ls 6 [(0, .ref (a 0)), (1, .int x1)] := hl
  unfold pM_hit at h
  have L2 : ∀ (n : Nat) (x1 : Int32) (x2 : Int32) (z : kb_S) (H : Heap) (locs : List Loc) (ls : Array Slot), lv_has ls 6 [(0, .ref (a 0)), (1, .int x1), (2, .int x2)] → kb_W D vwCl [(cI, .int), (cZ, .boolean)] A s H locs (mW cI cZ a z) → pM_hit_L2 n x1 x2 z = some (r, z') → W p l e rm_M_hit s m args below meth c H locs 0 0 (MQ below (kb_Qi D vwCl sz (mW cI cZ a z0) r (mW cI cZ a z')) args s 0 0 (va_A (mW cI cZ a z0) sz)) (F0 m 2 ls []) := by
    intro n
    induction n with
    | zero =>
      intro x1 x2 z H locs ls hl w h
      exact absurd h (by simp [pM_hit_L2])
    | succ n ih =>
      intro x1 x2 z H locs ls hl w h
      rw [pM_hit_L2] at h
      refine lv_iload_n S.1 S.2.1 dM_hit_2 rfl (lv_at hl 2 rfl) ?_
      refine lv_iload_n S.1 S.2.1 dM_hit_3 rfl (lv_at hl 1 rfl) ?_
      refine lv_icmp_ge (tgt := 87) S.1 S.2.1 dM_hit_4 (by decide) (fun hc => ?_) (fun hc => ?_)
      · have h := (kb_brt hc).symm.trans h
        refine lv_iconst (v := 0) S.1 S.2.1 dM_hit_87 (by decide) ?_
        exact kb_iret (mW cI cZ a) S hr hlk hA w h dM_hit_88
      · have h := (kb_brf hc).symm.trans h
        refine lv_aload_n S.1 S.2.1 dM_hit_7 rfl (lv_at hl 0 rfl) ?_
        refine lv_iload_n S.1 S.2.1 dM_hit_8 rfl (lv_at hl 2 rfl) ?_
        obtain ⟨r2, z1, hc3, h⟩ := kb_cl_of h
        refine kb_calli (As := [.int x2]) (rest := []) (q0 := 0) (ci := 3) S w (fun sz => cM_hasElder l D cI cZ a _ _ _ sz x2 hc3) Y_M_hasElder I_M_hasElder S_M_hasElder lM_133 ⟨rfl, rfl, Nat.le_of_ble_eq_true rfl, Nat.le_of_ble_eq_true rfl⟩ rfl rfl rfl rfl hl.1 rfl (Nat.le_of_ble_eq_true rfl) dM_hit_9 ⟨Nat.le_of_ble_eq_true rfl, Nat.le_of_ble_eq_true rfl⟩ (fun H locs w => ?_)
        refine lv_if_ne (tgt := 81) S.1 S.2.1 dM_hit_12 (by decide) (fun hc => ?_) (fun hc => ?_)
        · have h := (kb_brf hc).symm.trans h
          refine lv_iinc (v := x2 + 1) (k := 2) S.1 S.2.1 dM_hit_81 hl rfl rfl (by decide) rfl (fun ls hl => ?_)
          have hl : lv_has ls 6 [(2, .int (x2 + 1)), (0, .ref (a 0)), (1, .int x1)] := hl
          refine lv_goto (tgt := 2) S.1 S.2.1 dM_hit_84 (by decide) ?_
          exact ih x1 (x2 + 1) z1 _ _ _ (lv_sub hl [1, 2, 0] rfl) w h
        · have h := (kb_brt hc).symm.trans h
          refine lv_aload_n S.1 S.2.1 dM_hit_15 rfl (lv_at hl 0 rfl) ?_
          refine lv_iconst (v := 0) S.1 S.2.1 dM_hit_16 (by decide) ?_
          refine lv_aload_n S.1 S.2.1 dM_hit_17 rfl (lv_at hl 0 rfl) ?_
          refine kb_get S w 0 rfl fM_43 rfl dM_hit_18 ?_
          refine W.eq (g2 := F0 m 21 ls [.ref (a 12), .int 0, .ref (a 0)]) rfl ?_
          refine lv_iload_n S.1 S.2.1 dM_hit_21 rfl (lv_at hl 2 rfl) ?_
          obtain ⟨hi4, h⟩ := kb_ck_of h
          refine kb_iald S w 12 0 rfl rfl hi4 dM_hit_22 ?_
          refine W.eq (g2 := F0 m 23 ls [.int (z1 12 (kb_ix (x2))), .int 0, .ref (a 0)]) rfl ?_
          refine lv_aload_n S.1 S.2.1 dM_hit_23 rfl (lv_at hl 0 rfl) ?_
          refine kb_get S w 0 rfl fM_46 rfl dM_hit_24 ?_
          refine W.eq (g2 := F0 m 27 ls [.ref (a 13), .int (z1 12 (kb_ix (x2))), .int 0, .ref (a 0)]) rfl ?_
          refine lv_iload_n S.1 S.2.1 dM_hit_27 rfl (lv_at hl 2 rfl) ?_
          obtain ⟨hi5, h⟩ := kb_ck_of h
          refine kb_iald S w 13 0 rfl rfl hi5 dM_hit_28 ?_
          refine W.eq (g2 := F0 m 29 ls [.int (z1 13 (kb_ix (x2))), .int (z1 12 (kb_ix (x2))), .int 0, .ref (a 0)]) rfl ?_
          obtain ⟨r7, z6, hc8, h⟩ := kb_cl_of h
          refine kb_calli (As := [.int 0, .int (z1 12 (kb_ix (x2))), .int (z1 13 (kb_ix (x2)))]) (rest := []) (q0 := 0) (ci := 3) S w (fun sz => cM_brokenUse l D cI cZ a _ _ _ sz 0 (z1 12 (kb_ix (x2))) (z1 13 (kb_ix (x2))) hc8) Y_M_brokenUse I_M_brokenUse S_M_brokenUse lM_99 ⟨rfl, rfl, Nat.le_of_ble_eq_true rfl, Nat.le_of_ble_eq_true rfl⟩ rfl rfl rfl rfl hl.1 rfl (Nat.le_of_ble_eq_true rfl) dM_hit_29 ⟨Nat.le_of_ble_eq_true rfl, Nat.le_of_ble_eq_true rfl⟩ (fun H locs w => ?_)
          refine lv_if_ne (tgt := 81) S.1 S.2.1 dM_hit_32 (by decide) (fun hc => ?_) (fun hc => ?_)
          · have h := (kb_brf hc).symm.trans h
            refine lv_iinc (v := x2 + 1) (k := 2) S.1 S.2.1 dM_hit_81 hl rfl rfl (by decide) rfl (fun ls hl => ?_)
            have hl : lv_has ls 6 [(2, .int (x2 + 1)), (0, .ref (a 0)), (1, .int x1)] := hl
            refine lv_goto (tgt := 2) S.1 S.2.1 dM_hit_84 (by decide) ?_
            exact ih x1 (x2 + 1) z6 _ _ _ (lv_sub hl [1, 2, 0] rfl) w h
          · have h := (kb_brt hc).symm.trans h
            refine lv_aload_n S.1 S.2.1 dM_hit_35 rfl (lv_at hl 0 rfl) ?_
            refine kb_get S w 0 rfl fM_43 rfl dM_hit_36 ?_
            refine W.eq (g2 := F0 m 39 ls [.ref (a 12)]) rfl ?_
            refine lv_iload_n S.1 S.2.1 dM_hit_39 rfl (lv_at hl 2 rfl) ?_
            obtain ⟨hi9, h⟩ := kb_ck_of h
            refine kb_iald S w 12 0 rfl rfl hi9 dM_hit_40 ?_
            refine W.eq (g2 := F0 m 41 ls [.int (z6 12 (kb_ix (x2)))]) rfl ?_
            refine lv_istore_n S.1 S.2.1 dM_hit_41 rfl hl (by decide) rfl (fun ls hl => ?_)
            have hl : lv_has ls 6 [(3, .int (z6 12 (kb_ix (x2)))), (0, .ref (a 0)), (1, .int x1), (2, .int x2)] := hl
            refine lv_aload_n S.1 S.2.1 dM_hit_42 rfl (lv_at hl 1 rfl) ?_
            refine kb_get S w 0 rfl fM_46 rfl dM_hit_43 ?_
            refine W.eq (g2 := F0 m 46 ls [.ref (a 13)]) rfl ?_
            refine lv_iload_n S.1 S.2.1 dM_hit_46 rfl (lv_at hl 3 rfl) ?_
            obtain ⟨hi10, h⟩ := kb_ck_of h
            refine kb_iald S w 13 0 rfl rfl hi10 dM_hit_47 ?_
            refine W.eq (g2 := F0 m 48 ls [.int (z6 13 (kb_ix (x2)))]) rfl ?_
            refine lv_istore S.1 S.2.1 dM_hit_48 hl (by decide) rfl (fun ls hl => ?_)
            have hl : lv_has ls 6 [(4, .int (z6 13 (kb_ix (x2)))), (3, .int (z6 12 (kb_ix (x2)))), (0, .ref (a 0)), (1, .int x1), (2, .int x2)] := hl
            refine lv_aload_n S.1 S.2.1 dM_hit_50 rfl (lv_at hl 2 rfl) ?_
            refine kb_get S w 0 rfl fM_52 rfl dM_hit_51 ?_
            refine W.eq (g2 := F0 m 54 ls [.ref (a 15)]) rfl ?_
            refine lv_iload_n S.1 S.2.1 dM_hit_54 rfl (lv_at hl 4 rfl) ?_
            obtain ⟨hi11, h⟩ := kb_ck_of h
            refine kb_zald S w 15 1 rfl rfl hi11 dM_hit_55 ?_
            refine W.eq (g2 := F0 m 56 ls [.int (z6 15 (kb_ix (x2)))]) rfl ?_
            refine lv_istore S.1 S.2.1 dM_hit_56 hl (by decide) rfl (fun ls hl => ?_)
            have hl : lv_has ls 6 [(5, .int (z6 15 (kb_ix (x2)))), (4, .int (z6 13 (kb_ix (x2)))), (3, .int (z6 12 (kb_ix (x2)))), (0, .ref (a 0)), (1, .int x1), (2, .int x2)] := hl
            refine lv_aload_n S.1 S.2.1 dM_hit_58 rfl (lv_at hl 3 rfl) ?_
            refine lv_iload_n S.1 S.2.1 dM_hit_59 rfl (lv_at hl 5 rfl) ?_
            obtain ⟨r13, z12, hc14, h⟩ := kb_cl_of h
            refine kb_callv (As := [.int x2]) (rest := []) (q0 := 0) (ci := 3) S w (fun sz => cM_serve l D cI cZ a _ _ _ sz x2 hc14) Y_M_serve I_M_serve S_M_serve lM_136 ⟨rfl, rfl, Nat.le_of_ble_eq_true rfl, Nat.le_of_ble_eq_true rfl⟩ rfl rfl rfl rfl hl.1 rfl (Nat.le_of_ble_eq_true rfl) dM_hit_60 ⟨Nat.le_of_ble_eq_true rfl, Nat.le_of_ble_eq_true rfl⟩ (fun H locs w => ?_)
            refine lv_aload_n S.1 S.2.1 dM_hit_63 rfl (lv_at hl 3 rfl) ?_
            refine lv_iload S.1 S.2.1 dM_hit_64 (lv_at hl 0 rfl) ?_
            refine lv_if_eq (tgt := 73) S.1 S.2.1 dM_hit_66 (by decide) (fun hc => ?_) (fun hc => ?_)
            · have h := (kb_brt hc).symm.trans h
              refine lv_iconst (v := 2) S.1 S.2.1 dM_hit_73 (by decide) ?_
              refine lv_iload_n S.1 S.2.1 dM_hit_74 rfl (lv_at hl 2 rfl) ?_
              refine lv_iload S.1 S.2.1 dM_hit_75 (lv_at hl 1 rfl) ?_
              obtain ⟨r16, z15, hc17, h⟩ := kb_cl_of h
              refine kb_calli (As := [.int 2, .int (z6 12 (kb_ix (x2))), .int (z6 13 (kb_ix (x2)))]) (rest := []) (q0 := 0) (ci := 3) S w (fun sz => cM_told l D cI cZ a _ _ _ sz 2 (z6 12 (kb_ix (x2))) (z6 13 (kb_ix (x2))) hc17) Y_M_told I_M_told S_M_told lM_130 ⟨rfl, rfl, Nat.le_of_ble_eq_true rfl, Nat.le_of_ble_eq_true rfl⟩ rfl rfl rfl rfl hl.1 rfl (Nat.le_of_ble_eq_true rfl) dM_hit_77 ⟨Nat.le_of_ble_eq_true rfl, Nat.le_of_ble_eq_true rfl⟩ (fun H locs w => ?_)
              exact kb_iret (mW cI cZ a) S hr hlk hA w h dM_hit_80
            · have h := (kb_brf hc).symm.trans h
              refine lv_iconst (v := 3) S.1 S.2.1 dM_hit_69 (by decide) ?_
              refine lv_goto (tgt := 74) S.1 S.2.1 dM_hit_70 (by decide) ?_
              refine lv_iload_n S.1 S.2.1 dM_hit_74 rfl (lv_at hl 2 rfl) ?_
              refine lv_iload S.1 S.2.1 dM_hit_75 (lv_at hl 1 rfl) ?_
              obtain ⟨r19, z18, hc20, h⟩ := kb_cl_of h
              refine kb_calli (As := [.int 3, .int (z6 12 (kb_ix (x2))), .int (z6 13 (kb_ix (x2)))]) (rest := []) (q0 := 0) (ci := 3) S w (fun sz => cM_told l D cI cZ a _ _ _ sz 3 (z6 12 (kb_ix (x2))) (z6 13 (kb_ix (x2))) hc20) Y_M_told I_M_told S_M_told lM_130 ⟨rfl, rfl, Nat.le_of_ble_eq_true rfl, Nat.le_of_ble_eq_true rfl⟩ rfl rfl rfl rfl hl.1 rfl (Nat.le_of_ble_eq_true rfl) dM_hit_77 ⟨Nat.le_of_ble_eq_true rfl, Nat.le_of_ble_eq_true rfl⟩ (fun H locs w => ?_)
              exact kb_iret (mW cI cZ a) S hr hlk hA w h dM_hit_80
  refine lv_iconst (v := 0) S.1 S.2.1 dM_hit_0 (by decide) ?_
  refine lv_istore_n S.1 S.2.1 dM_hit_1 rfl hl (by decide) rfl (fun ls hl => ?_)
  have hl : lv_has ls 6 [(2, .int 0), (0, .ref (a 0)), (1, .int x1)] := hl
  exact L2 3000 x1 0 z0 _ _ _ (lv_sub hl [1, 2, 0] rfl) w h
set_option maxHeartbeats 4000000 in
set_option maxRecDepth 100000 in
theorem cM_asks (l : Launch) (D : va_G) (cI cZ : ClassId) (a : Nat → Nat) (z0 z' : kb_S) (r : Int32) (sz : Nat) (x1 : Int32) (x2 : Int32) (x3 : Int32) (h : pM_asks x1 x2 x3 z0 = some (r, z')) : Met l y_M_asks (Cond.code y_M_asks c_M_asks 6 (some .boolean) :: wsB) rm_M_asks (kb_Pc D vwCl [(cI, .int), (cZ, .boolean)] sz [.ref (a 0), .int x1, .int x2, .int x3] (mW cI cZ a z0)) (kb_Qi D vwCl sz (mW cI cZ a z0) r (mW cI cZ a z')) 0 0 (va_A (mW cI cZ a z0) sz) := by
  refine kb_start (by decide) rfl (Nat.le_of_ble_eq_true rfl) ?_
  intro p e s m args below meth c A ls S hr hlk hsz hA w hl
  have hl : lv_has ls 6 [(0, .ref (a 0)), (1, .int x1), (2, .int x2), (3, .int x3)] := hl
  unfold pM_asks at h
  have L6 : ∀ (n : Nat) (x1 : Int32) (x2 : Int32) (x3 : Int32) (x4 : Int32) (x5 : Int32) (z : kb_S) (H : Heap) (locs : List Loc) (ls : Array Slot), lv_has ls 6 [(0, .ref (a 0)), (1, .int x1), (2, .int x2), (3, .int x3), (4, .int x4), (5, .int x5)] → kb_W D vwCl [(cI, .int), (cZ, .boolean)] A s H locs (mW cI cZ a z) → pM_asks_L6 n x1 x2 x3 x4 x5 z = some (r, z') → W p l e rm_M_asks s m args below meth c H locs 0 0 (MQ below (kb_Qi D vwCl sz (mW cI cZ a z0) r (mW cI cZ a z')) args s 0 0 (va_A (mW cI cZ a z0) sz)) (F0 m 6 ls []) := by
    intro n
    induction n with
    | zero =>
      intro x1 x2 x3 x4 x5 z H locs ls hl w h
      exact absurd h (by simp [pM_asks_L6])
    | succ n ih =>
      intro x1 x2 x3 x4 x5 z H locs ls hl w h
      rw [pM_asks_L6] at h
      refine lv_iload S.1 S.2.1 dM_asks_6 (lv_at hl 5 rfl) ?_
      refine lv_iload_n S.1 S.2.1 dM_asks_8 rfl (lv_at hl 1 rfl) ?_
      refine lv_icmp_ge (tgt := 56) S.1 S.2.1 dM_asks_9 (by decide) (fun hc => ?_) (fun hc => ?_)
      · have h := (kb_brt hc).symm.trans h
        refine lv_iload S.1 S.2.1 dM_asks_56 (lv_at hl 4 rfl) ?_
        obtain ⟨hb1, h⟩ := kb_ck_of h
        exact kb_zret (mW cI cZ a) S hr hlk hA w h hb1 dM_asks_58
      · have h := (kb_brf hc).symm.trans h
        refine lv_iload S.1 S.2.1 dM_asks_12 (lv_at hl 4 rfl) ?_
        refine lv_if_ne (tgt := 43) S.1 S.2.1 dM_asks_14 (by decide) (fun hc => ?_) (fun hc => ?_)
        · have h := (kb_brf hc).symm.trans h
          refine lv_iconst (v := 1) S.1 S.2.1 dM_asks_43 (by decide) ?_
          refine lv_goto (tgt := 48) S.1 S.2.1 dM_asks_44 (by decide) ?_
          refine lv_istore S.1 S.2.1 dM_asks_48 hl (by decide) rfl (fun ls hl => ?_)
          have hl : lv_has ls 6 [(4, .int 1), (0, .ref (a 0)), (1, .int x1), (2, .int x2), (3, .int x3), (5, .int x5)] := hl
          refine lv_iinc (v := x5 + 1) (k := 5) S.1 S.2.1 dM_asks_50 hl rfl rfl (by decide) rfl (fun ls hl => ?_)
          have hl : lv_has ls 6 [(5, .int (x5 + 1)), (4, .int 1), (0, .ref (a 0)), (1, .int x1), (2, .int x2), (3, .int x3)] := hl
          refine lv_goto (tgt := 6) S.1 S.2.1 dM_asks_53 (by decide) ?_
          exact ih x1 x2 x3 1 (x5 + 1) z _ _ _ (lv_sub hl [2, 3, 4, 5, 1, 0] rfl) w h
        · have h := (kb_brt hc).symm.trans h
          refine lv_aload_n S.1 S.2.1 dM_asks_17 rfl (lv_at hl 0 rfl) ?_
          refine kb_get S w 0 rfl fM_43 rfl dM_asks_18 ?_
          refine W.eq (g2 := F0 m 21 ls [.ref (a 12)]) rfl ?_
          refine lv_iload S.1 S.2.1 dM_asks_21 (lv_at hl 5 rfl) ?_
          obtain ⟨hi2, h⟩ := kb_ck_of h
          refine kb_iald S w 12 0 rfl rfl hi2 dM_asks_23 ?_
          refine W.eq (g2 := F0 m 24 ls [.int (z 12 (kb_ix (x5)))]) rfl ?_
          refine lv_iload_n S.1 S.2.1 dM_asks_24 rfl (lv_at hl 2 rfl) ?_
          refine lv_icmp_ne (tgt := 47) S.1 S.2.1 dM_asks_25 (by decide) (fun hc => ?_) (fun hc => ?_)
          · have h := (kb_brf hc).symm.trans h
            refine lv_iconst (v := 0) S.1 S.2.1 dM_asks_47 (by decide) ?_
            refine lv_istore S.1 S.2.1 dM_asks_48 hl (by decide) rfl (fun ls hl => ?_)
            have hl : lv_has ls 6 [(4, .int 0), (0, .ref (a 0)), (1, .int x1), (2, .int x2), (3, .int x3), (5, .int x5)] := hl
            refine lv_iinc (v := x5 + 1) (k := 5) S.1 S.2.1 dM_asks_50 hl rfl rfl (by decide) rfl (fun ls hl => ?_)
            have hl : lv_has ls 6 [(5, .int (x5 + 1)), (4, .int 0), (0, .ref (a 0)), (1, .int x1), (2, .int x2), (3, .int x3)] := hl
            refine lv_goto (tgt := 6) S.1 S.2.1 dM_asks_53 (by decide) ?_
            exact ih x1 x2 x3 0 (x5 + 1) z _ _ _ (lv_sub hl [2, 3, 4, 5, 1, 0] rfl) w h
          · have h := (kb_brt hc).symm.trans h
            refine lv_iload_n S.1 S.2.1 dM_asks_28 rfl (lv_at hl 3 rfl) ?_
            refine lv_if_lt (tgt := 43) S.1 S.2.1 dM_asks_29 (by decide) (fun hc => ?_) (fun hc => ?_)
            · have h := (kb_brt hc).symm.trans h
              refine lv_iconst (v := 1) S.1 S.2.1 dM_asks_43 (by decide) ?_
              refine lv_goto (tgt := 48) S.1 S.2.1 dM_asks_44 (by decide) ?_
              refine lv_istore S.1 S.2.1 dM_asks_48 hl (by decide) rfl (fun ls hl => ?_)
              have hl : lv_has ls 6 [(4, .int 1), (0, .ref (a 0)), (1, .int x1), (2, .int x2), (3, .int x3), (5, .int x5)] := hl
              refine lv_iinc (v := x5 + 1) (k := 5) S.1 S.2.1 dM_asks_50 hl rfl rfl (by decide) rfl (fun ls hl => ?_)
              have hl : lv_has ls 6 [(5, .int (x5 + 1)), (4, .int 1), (0, .ref (a 0)), (1, .int x1), (2, .int x2), (3, .int x3)] := hl
              refine lv_goto (tgt := 6) S.1 S.2.1 dM_asks_53 (by decide) ?_
              exact ih x1 x2 x3 1 (x5 + 1) z _ _ _ (lv_sub hl [2, 3, 4, 5, 1, 0] rfl) w h
            · have h := (kb_brf hc).symm.trans h
              refine lv_aload_n S.1 S.2.1 dM_asks_32 rfl (lv_at hl 0 rfl) ?_
              refine kb_get S w 0 rfl fM_46 rfl dM_asks_33 ?_
              refine W.eq (g2 := F0 m 36 ls [.ref (a 13)]) rfl ?_
              refine lv_iload S.1 S.2.1 dM_asks_36 (lv_at hl 5 rfl) ?_
              obtain ⟨hi3, h⟩ := kb_ck_of h
              refine kb_iald S w 13 0 rfl rfl hi3 dM_asks_38 ?_
              refine W.eq (g2 := F0 m 39 ls [.int (z 13 (kb_ix (x5)))]) rfl ?_
              refine lv_iload_n S.1 S.2.1 dM_asks_39 rfl (lv_at hl 3 rfl) ?_
              refine lv_icmp_ne (tgt := 47) S.1 S.2.1 dM_asks_40 (by decide) (fun hc => ?_) (fun hc => ?_)
              · have h := (kb_brf hc).symm.trans h
                refine lv_iconst (v := 0) S.1 S.2.1 dM_asks_47 (by decide) ?_
                refine lv_istore S.1 S.2.1 dM_asks_48 hl (by decide) rfl (fun ls hl => ?_)
                have hl : lv_has ls 6 [(4, .int 0), (0, .ref (a 0)), (1, .int x1), (2, .int x2), (3, .int x3), (5, .int x5)] := hl
                refine lv_iinc (v := x5 + 1) (k := 5) S.1 S.2.1 dM_asks_50 hl rfl rfl (by decide) rfl (fun ls hl => ?_)
                have hl : lv_has ls 6 [(5, .int (x5 + 1)), (4, .int 0), (0, .ref (a 0)), (1, .int x1), (2, .int x2), (3, .int x3)] := hl
                refine lv_goto (tgt := 6) S.1 S.2.1 dM_asks_53 (by decide) ?_
                exact ih x1 x2 x3 0 (x5 + 1) z _ _ _ (lv_sub hl [2, 3, 4, 5, 1, 0] rfl) w h
              · have h := (kb_brt hc).symm.trans h
                refine lv_iconst (v := 1) S.1 S.2.1 dM_asks_43 (by decide) ?_
                refine lv_goto (tgt := 48) S.1 S.2.1 dM_asks_44 (by decide) ?_
                refine lv_istore S.1 S.2.1 dM_asks_48 hl (by decide) rfl (fun ls hl => ?_)
                have hl : lv_has ls 6 [(4, .int 1), (0, .ref (a 0)), (1, .int x1), (2, .int x2), (3, .int x3), (5, .int x5)] := hl
                refine lv_iinc (v := x5 + 1) (k := 5) S.1 S.2.1 dM_asks_50 hl rfl rfl (by decide) rfl (fun ls hl => ?_)
                have hl : lv_has ls 6 [(5, .int (x5 + 1)), (4, .int 1), (0, .ref (a 0)), (1, .int x1), (2, .int x2), (3, .int x3)] := hl
                refine lv_goto (tgt := 6) S.1 S.2.1 dM_asks_53 (by decide) ?_
                exact ih x1 x2 x3 1 (x5 + 1) z _ _ _ (lv_sub hl [2, 3, 4, 5, 1, 0] rfl) w h
  refine lv_iconst (v := 0) S.1 S.2.1 dM_asks_0 (by decide) ?_
  refine lv_istore S.1 S.2.1 dM_asks_1 hl (by decide) rfl (fun ls hl => ?_)
  have hl : lv_has ls 6 [(4, .int 0), (0, .ref (a 0)), (1, .int x1), (2, .int x2), (3, .int x3)] := hl
  refine lv_iconst (v := 0) S.1 S.2.1 dM_asks_3 (by decide) ?_
  refine lv_istore S.1 S.2.1 dM_asks_4 hl (by decide) rfl (fun ls hl => ?_)
  have hl : lv_has ls 6 [(5, .int 0), (4, .int 0), (0, .ref (a 0)), (1, .int x1), (2, .int x2), (3, .int x3)] := hl
  exact L6 3000 x1 x2 x3 0 0 z0 _ _ _ (lv_sub hl [2, 3, 4, 5, 1, 0] rfl) w h
set_option maxHeartbeats 4000000 in
set_option maxRecDepth 100000 in
theorem cM_way (l : Launch) (D : va_G) (cI cZ : ClassId) (a : Nat → Nat) (z0 z' : kb_S) (r : Int32) (sz : Nat) (x1 : Int32) (h : pM_way x1 z0 = some (r, z')) : Met l y_M_way (Cond.code y_M_way c_M_way 6 (some .int) :: wsB) rm_M_way (kb_Pc D vwCl [(cI, .int), (cZ, .boolean)] sz [.ref (a 0), .int x1] (mW cI cZ a z0)) (kb_Qi D vwCl sz (mW cI cZ a z0) r (mW cI cZ a z')) 0 0 (va_A (mW cI cZ a z0) sz) := by
  refine kb_start (by decide) rfl (Nat.le_of_ble_eq_true rfl) ?_
  intro p e s m args below meth c A ls S hr hlk hsz hA w hl
  have hl : lv_has ls 6 [(0, .ref (a 0)), (1, .int x1)] := hl
  unfold pM_way at h
  have L2 : ∀ (n : Nat) (x1 : Int32) (x2 : Int32) (z : kb_S) (H : Heap) (locs : List Loc) (ls : Array Slot), lv_has ls 6 [(0, .ref (a 0)), (1, .int x1), (2, .int x2)] → kb_W D vwCl [(cI, .int), (cZ, .boolean)] A s H locs (mW cI cZ a z) → pM_way_L2 n x1 x2 z = some (r, z') → W p l e rm_M_way s m args below meth c H locs 0 0 (MQ below (kb_Qi D vwCl sz (mW cI cZ a z0) r (mW cI cZ a z')) args s 0 0 (va_A (mW cI cZ a z0) sz)) (F0 m 2 ls []) := by
    intro n
    induction n with
    | zero =>
      intro x1 x2 z H locs ls hl w h
      exact absurd h (by simp [pM_way_L2])
    | succ n ih =>
      intro x1 x2 z H locs ls hl w h
      rw [pM_way_L2] at h
      refine lv_iload_n S.1 S.2.1 dM_way_2 rfl (lv_at hl 2 rfl) ?_
      refine lv_iload_n S.1 S.2.1 dM_way_3 rfl (lv_at hl 1 rfl) ?_
      refine lv_icmp_ge (tgt := 134) S.1 S.2.1 dM_way_4 (by decide) (fun hc => ?_) (fun hc => ?_)
      · have h := (kb_brt hc).symm.trans h
        refine lv_iconst (v := 0) S.1 S.2.1 dM_way_134 (by decide) ?_
        exact kb_iret (mW cI cZ a) S hr hlk hA w h dM_way_135
      · have h := (kb_brf hc).symm.trans h
        refine lv_aload_n S.1 S.2.1 dM_way_7 rfl (lv_at hl 0 rfl) ?_
        refine kb_get S w 0 rfl fM_43 rfl dM_way_8 ?_
        refine W.eq (g2 := F0 m 11 ls [.ref (a 12)]) rfl ?_
        refine lv_iload_n S.1 S.2.1 dM_way_11 rfl (lv_at hl 2 rfl) ?_
        obtain ⟨hi1, h⟩ := kb_ck_of h
        refine kb_iald S w 12 0 rfl rfl hi1 dM_way_12 ?_
        refine W.eq (g2 := F0 m 13 ls [.int (z 12 (kb_ix (x2)))]) rfl ?_
        refine lv_istore_n S.1 S.2.1 dM_way_13 rfl hl (by decide) rfl (fun ls hl => ?_)
        have hl : lv_has ls 6 [(3, .int (z 12 (kb_ix (x2)))), (0, .ref (a 0)), (1, .int x1), (2, .int x2)] := hl
        refine lv_aload_n S.1 S.2.1 dM_way_14 rfl (lv_at hl 1 rfl) ?_
        refine kb_get S w 0 rfl fM_46 rfl dM_way_15 ?_
        refine W.eq (g2 := F0 m 18 ls [.ref (a 13)]) rfl ?_
        refine lv_iload_n S.1 S.2.1 dM_way_18 rfl (lv_at hl 3 rfl) ?_
        obtain ⟨hi2, h⟩ := kb_ck_of h
        refine kb_iald S w 13 0 rfl rfl hi2 dM_way_19 ?_
        refine W.eq (g2 := F0 m 20 ls [.int (z 13 (kb_ix (x2)))]) rfl ?_
        refine lv_istore S.1 S.2.1 dM_way_20 hl (by decide) rfl (fun ls hl => ?_)
        have hl : lv_has ls 6 [(4, .int (z 13 (kb_ix (x2)))), (3, .int (z 12 (kb_ix (x2)))), (0, .ref (a 0)), (1, .int x1), (2, .int x2)] := hl
        refine lv_aload_n S.1 S.2.1 dM_way_22 rfl (lv_at hl 2 rfl) ?_
        refine lv_iload_n S.1 S.2.1 dM_way_23 rfl (lv_at hl 4 rfl) ?_
        refine lv_iload_n S.1 S.2.1 dM_way_24 rfl (lv_at hl 1 rfl) ?_
        refine lv_iconst (v := (-1)) S.1 S.2.1 dM_way_25 (by decide) ?_
        obtain ⟨r4, z3, hc5, h⟩ := kb_cl_of h
        refine kb_calli (As := [.int x2, .int (z 12 (kb_ix (x2))), .int ((-1))]) (rest := []) (q0 := 0) (ci := 3) S w (fun sz => cM_asks l D cI cZ a _ _ _ sz x2 (z 12 (kb_ix (x2))) (-1) hc5) Y_M_asks I_M_asks S_M_asks lM_140 ⟨rfl, rfl, Nat.le_of_ble_eq_true rfl, Nat.le_of_ble_eq_true rfl⟩ rfl rfl rfl rfl hl.1 rfl (Nat.le_of_ble_eq_true rfl) dM_way_26 ⟨Nat.le_of_ble_eq_true rfl, Nat.le_of_ble_eq_true rfl⟩ (fun H locs w => ?_)
        refine lv_if_ne (tgt := 36) S.1 S.2.1 dM_way_29 (by decide) (fun hc => ?_) (fun hc => ?_)
        · have h := (kb_brf hc).symm.trans h
          refine lv_iconst (v := 0) S.1 S.2.1 dM_way_36 (by decide) ?_
          refine lv_istore S.1 S.2.1 dM_way_37 hl (by decide) rfl (fun ls hl => ?_)
          have hl : lv_has ls 6 [(5, .int 0), (4, .int (z 13 (kb_ix (x2)))), (3, .int (z 12 (kb_ix (x2)))), (0, .ref (a 0)), (1, .int x1), (2, .int x2)] := hl
          refine lv_iload S.1 S.2.1 dM_way_39 (lv_at hl 0 rfl) ?_
          refine lv_if_eq (tgt := 71) S.1 S.2.1 dM_way_41 (by decide) (fun _ => ?_) (fun hc => absurd hc (by decide))
          refine lv_iload S.1 S.2.1 dM_way_71 (lv_at hl 0 rfl) ?_
          refine lv_if_eq (tgt := 128) S.1 S.2.1 dM_way_73 (by decide) (fun _ => ?_) (fun hc => absurd hc (by decide))
          refine lv_iinc (v := x2 + 1) (k := 5) S.1 S.2.1 dM_way_128 hl rfl rfl (by decide) rfl (fun ls hl => ?_)
          have hl : lv_has ls 6 [(2, .int (x2 + 1)), (5, .int 0), (4, .int (z 13 (kb_ix (x2)))), (3, .int (z 12 (kb_ix (x2)))), (0, .ref (a 0)), (1, .int x1)] := hl
          refine lv_goto (tgt := 2) S.1 S.2.1 dM_way_131 (by decide) ?_
          exact ih x1 (x2 + 1) z3 _ _ _ (lv_sub hl [4, 5, 0] rfl) w h
        · have h := (kb_brt hc).symm.trans h
          refine lv_iconst (v := 1) S.1 S.2.1 dM_way_32 (by decide) ?_
          refine lv_goto (tgt := 37) S.1 S.2.1 dM_way_33 (by decide) ?_
          refine lv_istore S.1 S.2.1 dM_way_37 hl (by decide) rfl (fun ls hl => ?_)
          have hl : lv_has ls 6 [(5, .int 1), (4, .int (z 13 (kb_ix (x2)))), (3, .int (z 12 (kb_ix (x2)))), (0, .ref (a 0)), (1, .int x1), (2, .int x2)] := hl
          refine lv_iload S.1 S.2.1 dM_way_39 (lv_at hl 0 rfl) ?_
          refine lv_if_eq (tgt := 71) S.1 S.2.1 dM_way_41 (by decide) (fun hc => absurd hc (by decide)) (fun _ => ?_)
          refine lv_aload_n S.1 S.2.1 dM_way_44 rfl (lv_at hl 3 rfl) ?_
          refine kb_get S w 0 rfl fM_13 rfl dM_way_45 ?_
          refine W.eq (g2 := F0 m 48 ls [.ref (a 2)]) rfl ?_
          refine lv_iload_n S.1 S.2.1 dM_way_48 rfl (lv_at hl 2 rfl) ?_
          obtain ⟨hi6, h⟩ := kb_ck_of h
          refine kb_iald S w 2 0 rfl rfl hi6 dM_way_49 ?_
          refine W.eq (g2 := F0 m 50 ls [.int (z3 2 (kb_ix (z 12 (kb_ix (x2)))))]) rfl ?_
          refine lv_if_ge (tgt := 71) S.1 S.2.1 dM_way_50 (by decide) (fun hc => ?_) (fun hc => ?_)
          · have h := (kb_brt hc).symm.trans h
            refine lv_iload S.1 S.2.1 dM_way_71 (lv_at hl 0 rfl) ?_
            refine lv_if_eq (tgt := 128) S.1 S.2.1 dM_way_73 (by decide) (fun hc => absurd hc (by decide)) (fun _ => ?_)
            refine lv_aload_n S.1 S.2.1 dM_way_76 rfl (lv_at hl 3 rfl) ?_
            refine kb_get S w 0 rfl fM_13 rfl dM_way_77 ?_
            refine W.eq (g2 := F0 m 80 ls [.ref (a 2)]) rfl ?_
            refine lv_iload_n S.1 S.2.1 dM_way_80 rfl (lv_at hl 2 rfl) ?_
            obtain ⟨hi7, h⟩ := kb_ck_of h
            refine kb_iald S w 2 0 rfl rfl hi7 dM_way_81 ?_
            refine W.eq (g2 := F0 m 82 ls [.int (z3 2 (kb_ix (z 12 (kb_ix (x2)))))]) rfl ?_
            refine lv_if_lt (tgt := 128) S.1 S.2.1 dM_way_82 (by decide) (fun hc => ?_) (fun hc => ?_)
            · have h := (kb_brt hc).symm.trans h
              refine lv_iinc (v := x2 + 1) (k := 5) S.1 S.2.1 dM_way_128 hl rfl rfl (by decide) rfl (fun ls hl => ?_)
              have hl : lv_has ls 6 [(2, .int (x2 + 1)), (5, .int 1), (4, .int (z 13 (kb_ix (x2)))), (3, .int (z 12 (kb_ix (x2)))), (0, .ref (a 0)), (1, .int x1)] := hl
              refine lv_goto (tgt := 2) S.1 S.2.1 dM_way_131 (by decide) ?_
              exact ih x1 (x2 + 1) z3 _ _ _ (lv_sub hl [4, 5, 0] rfl) w h
            · have h := (kb_brf hc).symm.trans h
              refine lv_aload_n S.1 S.2.1 dM_way_85 rfl (lv_at hl 3 rfl) ?_
              refine kb_get S w 0 rfl fM_13 rfl dM_way_86 ?_
              refine W.eq (g2 := F0 m 89 ls [.ref (a 2)]) rfl ?_
              refine lv_iload_n S.1 S.2.1 dM_way_89 rfl (lv_at hl 2 rfl) ?_
              obtain ⟨hi8, h⟩ := kb_ck_of h
              refine kb_iald S w 2 0 rfl rfl hi8 dM_way_90 ?_
              refine W.eq (g2 := F0 m 91 ls [.int (z3 2 (kb_ix (z 12 (kb_ix (x2)))))]) rfl ?_
              refine lv_iload S.1 S.2.1 dM_way_91 (lv_at hl 1 rfl) ?_
              refine lv_icmp_eq (tgt := 128) S.1 S.2.1 dM_way_93 (by decide) (fun hc => ?_) (fun hc => ?_)
              · have h := (kb_brt hc).symm.trans h
                refine lv_iinc (v := x2 + 1) (k := 5) S.1 S.2.1 dM_way_128 hl rfl rfl (by decide) rfl (fun ls hl => ?_)
                have hl : lv_has ls 6 [(2, .int (x2 + 1)), (5, .int 1), (4, .int (z 13 (kb_ix (x2)))), (3, .int (z 12 (kb_ix (x2)))), (0, .ref (a 0)), (1, .int x1)] := hl
                refine lv_goto (tgt := 2) S.1 S.2.1 dM_way_131 (by decide) ?_
                exact ih x1 (x2 + 1) z3 _ _ _ (lv_sub hl [4, 5, 0] rfl) w h
              · have h := (kb_brf hc).symm.trans h
                refine lv_aload_n S.1 S.2.1 dM_way_96 rfl (lv_at hl 3 rfl) ?_
                refine lv_iconst (v := 0) S.1 S.2.1 dM_way_97 (by decide) ?_
                refine lv_iload_n S.1 S.2.1 dM_way_98 rfl (lv_at hl 2 rfl) ?_
                obtain ⟨r10, z9, hc11, h⟩ := kb_cl_of h
                refine kb_calli (As := [.int 0, .int (z 12 (kb_ix (x2)))]) (rest := []) (q0 := 0) (ci := 3) S w (fun sz => cM_brokenClose l D cI cZ a _ _ _ sz 0 (z 12 (kb_ix (x2))) hc11) Y_M_brokenClose I_M_brokenClose S_M_brokenClose lM_92 ⟨rfl, rfl, Nat.le_of_ble_eq_true rfl, Nat.le_of_ble_eq_true rfl⟩ rfl rfl rfl rfl hl.1 rfl (Nat.le_of_ble_eq_true rfl) dM_way_99 ⟨Nat.le_of_ble_eq_true rfl, Nat.le_of_ble_eq_true rfl⟩ (fun H locs w => ?_)
                refine lv_if_ne (tgt := 128) S.1 S.2.1 dM_way_102 (by decide) (fun hc => ?_) (fun hc => ?_)
                · have h := (kb_brf hc).symm.trans h
                  refine lv_iinc (v := x2 + 1) (k := 5) S.1 S.2.1 dM_way_128 hl rfl rfl (by decide) rfl (fun ls hl => ?_)
                  have hl : lv_has ls 6 [(2, .int (x2 + 1)), (5, .int 1), (4, .int (z 13 (kb_ix (x2)))), (3, .int (z 12 (kb_ix (x2)))), (0, .ref (a 0)), (1, .int x1)] := hl
                  refine lv_goto (tgt := 2) S.1 S.2.1 dM_way_131 (by decide) ?_
                  exact ih x1 (x2 + 1) z9 _ _ _ (lv_sub hl [4, 5, 0] rfl) w h
                · have h := (kb_brt hc).symm.trans h
                  refine lv_aload_n S.1 S.2.1 dM_way_105 rfl (lv_at hl 3 rfl) ?_
                  refine lv_iload_n S.1 S.2.1 dM_way_106 rfl (lv_at hl 4 rfl) ?_
                  refine lv_iload_n S.1 S.2.1 dM_way_107 rfl (lv_at hl 2 rfl) ?_
                  refine lv_aload_n S.1 S.2.1 dM_way_108 rfl (lv_at hl 3 rfl) ?_
                  refine kb_get S w 0 rfl fM_13 rfl dM_way_109 ?_
                  refine W.eq (g2 := F0 m 112 ls [.ref (a 2), .int (z 12 (kb_ix (x2))), .int x1, .ref (a 0)]) rfl ?_
                  refine lv_iload_n S.1 S.2.1 dM_way_112 rfl (lv_at hl 2 rfl) ?_
                  obtain ⟨hi12, h⟩ := kb_ck_of h
                  refine kb_iald S w 2 0 rfl rfl hi12 dM_way_113 ?_
                  refine W.eq (g2 := F0 m 114 ls [.int (z9 2 (kb_ix (z 12 (kb_ix (x2))))), .int (z 12 (kb_ix (x2))), .int x1, .ref (a 0)]) rfl ?_
                  obtain ⟨r14, z13, hc15, h⟩ := kb_cl_of h
                  refine kb_calli (As := [.int x1, .int (z 12 (kb_ix (x2))), .int (z9 2 (kb_ix (z 12 (kb_ix (x2)))))]) (rest := []) (q0 := 0) (ci := 3) S w (fun sz => cM_asks l D cI cZ a _ _ _ sz x1 (z 12 (kb_ix (x2))) (z9 2 (kb_ix (z 12 (kb_ix (x2))))) hc15) Y_M_asks I_M_asks S_M_asks lM_140 ⟨rfl, rfl, Nat.le_of_ble_eq_true rfl, Nat.le_of_ble_eq_true rfl⟩ rfl rfl rfl rfl hl.1 rfl (Nat.le_of_ble_eq_true rfl) dM_way_114 ⟨Nat.le_of_ble_eq_true rfl, Nat.le_of_ble_eq_true rfl⟩ (fun H locs w => ?_)
                  refine lv_if_ne (tgt := 128) S.1 S.2.1 dM_way_117 (by decide) (fun hc => ?_) (fun hc => ?_)
                  · have h := (kb_brf hc).symm.trans h
                    refine lv_iinc (v := x2 + 1) (k := 5) S.1 S.2.1 dM_way_128 hl rfl rfl (by decide) rfl (fun ls hl => ?_)
                    have hl : lv_has ls 6 [(2, .int (x2 + 1)), (5, .int 1), (4, .int (z 13 (kb_ix (x2)))), (3, .int (z 12 (kb_ix (x2)))), (0, .ref (a 0)), (1, .int x1)] := hl
                    refine lv_goto (tgt := 2) S.1 S.2.1 dM_way_131 (by decide) ?_
                    exact ih x1 (x2 + 1) z13 _ _ _ (lv_sub hl [4, 5, 0] rfl) w h
                  · have h := (kb_brt hc).symm.trans h
                    refine lv_aload_n S.1 S.2.1 dM_way_120 rfl (lv_at hl 3 rfl) ?_
                    refine lv_iconst (v := 1) S.1 S.2.1 dM_way_121 (by decide) ?_
                    refine lv_iload_n S.1 S.2.1 dM_way_122 rfl (lv_at hl 2 rfl) ?_
                    refine lv_iconst (v := 0) S.1 S.2.1 dM_way_123 (by decide) ?_
                    obtain ⟨r17, z16, hc18, h⟩ := kb_cl_of h
                    refine kb_calli (As := [.int 1, .int (z 12 (kb_ix (x2))), .int 0]) (rest := []) (q0 := 0) (ci := 3) S w (fun sz => cM_told l D cI cZ a _ _ _ sz 1 (z 12 (kb_ix (x2))) 0 hc18) Y_M_told I_M_told S_M_told lM_130 ⟨rfl, rfl, Nat.le_of_ble_eq_true rfl, Nat.le_of_ble_eq_true rfl⟩ rfl rfl rfl rfl hl.1 rfl (Nat.le_of_ble_eq_true rfl) dM_way_124 ⟨Nat.le_of_ble_eq_true rfl, Nat.le_of_ble_eq_true rfl⟩ (fun H locs w => ?_)
                    exact kb_iret (mW cI cZ a) S hr hlk hA w h dM_way_127
          · have h := (kb_brf hc).symm.trans h
            refine lv_aload_n S.1 S.2.1 dM_way_53 rfl (lv_at hl 3 rfl) ?_
            refine lv_iconst (v := 0) S.1 S.2.1 dM_way_54 (by decide) ?_
            refine lv_iload_n S.1 S.2.1 dM_way_55 rfl (lv_at hl 2 rfl) ?_
            obtain ⟨r20, z19, hc21, h⟩ := kb_cl_of h
            refine kb_calli (As := [.int 0, .int (z 12 (kb_ix (x2)))]) (rest := []) (q0 := 0) (ci := 3) S w (fun sz => cM_brokenOpen l D cI cZ a _ _ _ sz 0 (z 12 (kb_ix (x2))) hc21) Y_M_brokenOpen I_M_brokenOpen S_M_brokenOpen lM_88 ⟨rfl, rfl, Nat.le_of_ble_eq_true rfl, Nat.le_of_ble_eq_true rfl⟩ rfl rfl rfl rfl hl.1 rfl (Nat.le_of_ble_eq_true rfl) dM_way_56 ⟨Nat.le_of_ble_eq_true rfl, Nat.le_of_ble_eq_true rfl⟩ (fun H locs w => ?_)
            refine lv_if_ne (tgt := 71) S.1 S.2.1 dM_way_59 (by decide) (fun hc => ?_) (fun hc => ?_)
            · have h := (kb_brf hc).symm.trans h
              refine lv_iload S.1 S.2.1 dM_way_71 (lv_at hl 0 rfl) ?_
              refine lv_if_eq (tgt := 128) S.1 S.2.1 dM_way_73 (by decide) (fun hc => absurd hc (by decide)) (fun _ => ?_)
              refine lv_aload_n S.1 S.2.1 dM_way_76 rfl (lv_at hl 3 rfl) ?_
              refine kb_get S w 0 rfl fM_13 rfl dM_way_77 ?_
              refine W.eq (g2 := F0 m 80 ls [.ref (a 2)]) rfl ?_
              refine lv_iload_n S.1 S.2.1 dM_way_80 rfl (lv_at hl 2 rfl) ?_
              obtain ⟨hi22, h⟩ := kb_ck_of h
              refine kb_iald S w 2 0 rfl rfl hi22 dM_way_81 ?_
              refine W.eq (g2 := F0 m 82 ls [.int (z19 2 (kb_ix (z 12 (kb_ix (x2)))))]) rfl ?_
              refine lv_if_lt (tgt := 128) S.1 S.2.1 dM_way_82 (by decide) (fun hc => ?_) (fun hc => ?_)
              · have h := (kb_brt hc).symm.trans h
                refine lv_iinc (v := x2 + 1) (k := 5) S.1 S.2.1 dM_way_128 hl rfl rfl (by decide) rfl (fun ls hl => ?_)
                have hl : lv_has ls 6 [(2, .int (x2 + 1)), (5, .int 1), (4, .int (z 13 (kb_ix (x2)))), (3, .int (z 12 (kb_ix (x2)))), (0, .ref (a 0)), (1, .int x1)] := hl
                refine lv_goto (tgt := 2) S.1 S.2.1 dM_way_131 (by decide) ?_
                exact ih x1 (x2 + 1) z19 _ _ _ (lv_sub hl [4, 5, 0] rfl) w h
              · have h := (kb_brf hc).symm.trans h
                refine lv_aload_n S.1 S.2.1 dM_way_85 rfl (lv_at hl 3 rfl) ?_
                refine kb_get S w 0 rfl fM_13 rfl dM_way_86 ?_
                refine W.eq (g2 := F0 m 89 ls [.ref (a 2)]) rfl ?_
                refine lv_iload_n S.1 S.2.1 dM_way_89 rfl (lv_at hl 2 rfl) ?_
                obtain ⟨hi23, h⟩ := kb_ck_of h
                refine kb_iald S w 2 0 rfl rfl hi23 dM_way_90 ?_
                refine W.eq (g2 := F0 m 91 ls [.int (z19 2 (kb_ix (z 12 (kb_ix (x2)))))]) rfl ?_
                refine lv_iload S.1 S.2.1 dM_way_91 (lv_at hl 1 rfl) ?_
                refine lv_icmp_eq (tgt := 128) S.1 S.2.1 dM_way_93 (by decide) (fun hc => ?_) (fun hc => ?_)
                · have h := (kb_brt hc).symm.trans h
                  refine lv_iinc (v := x2 + 1) (k := 5) S.1 S.2.1 dM_way_128 hl rfl rfl (by decide) rfl (fun ls hl => ?_)
                  have hl : lv_has ls 6 [(2, .int (x2 + 1)), (5, .int 1), (4, .int (z 13 (kb_ix (x2)))), (3, .int (z 12 (kb_ix (x2)))), (0, .ref (a 0)), (1, .int x1)] := hl
                  refine lv_goto (tgt := 2) S.1 S.2.1 dM_way_131 (by decide) ?_
                  exact ih x1 (x2 + 1) z19 _ _ _ (lv_sub hl [4, 5, 0] rfl) w h
                · have h := (kb_brf hc).symm.trans h
                  refine lv_aload_n S.1 S.2.1 dM_way_96 rfl (lv_at hl 3 rfl) ?_
                  refine lv_iconst (v := 0) S.1 S.2.1 dM_way_97 (by decide) ?_
                  refine lv_iload_n S.1 S.2.1 dM_way_98 rfl (lv_at hl 2 rfl) ?_
                  obtain ⟨r25, z24, hc26, h⟩ := kb_cl_of h
                  refine kb_calli (As := [.int 0, .int (z 12 (kb_ix (x2)))]) (rest := []) (q0 := 0) (ci := 3) S w (fun sz => cM_brokenClose l D cI cZ a _ _ _ sz 0 (z 12 (kb_ix (x2))) hc26) Y_M_brokenClose I_M_brokenClose S_M_brokenClose lM_92 ⟨rfl, rfl, Nat.le_of_ble_eq_true rfl, Nat.le_of_ble_eq_true rfl⟩ rfl rfl rfl rfl hl.1 rfl (Nat.le_of_ble_eq_true rfl) dM_way_99 ⟨Nat.le_of_ble_eq_true rfl, Nat.le_of_ble_eq_true rfl⟩ (fun H locs w => ?_)
                  refine lv_if_ne (tgt := 128) S.1 S.2.1 dM_way_102 (by decide) (fun hc => ?_) (fun hc => ?_)
                  · have h := (kb_brf hc).symm.trans h
                    refine lv_iinc (v := x2 + 1) (k := 5) S.1 S.2.1 dM_way_128 hl rfl rfl (by decide) rfl (fun ls hl => ?_)
                    have hl : lv_has ls 6 [(2, .int (x2 + 1)), (5, .int 1), (4, .int (z 13 (kb_ix (x2)))), (3, .int (z 12 (kb_ix (x2)))), (0, .ref (a 0)), (1, .int x1)] := hl
                    refine lv_goto (tgt := 2) S.1 S.2.1 dM_way_131 (by decide) ?_
                    exact ih x1 (x2 + 1) z24 _ _ _ (lv_sub hl [4, 5, 0] rfl) w h
                  · have h := (kb_brt hc).symm.trans h
                    refine lv_aload_n S.1 S.2.1 dM_way_105 rfl (lv_at hl 3 rfl) ?_
                    refine lv_iload_n S.1 S.2.1 dM_way_106 rfl (lv_at hl 4 rfl) ?_
                    refine lv_iload_n S.1 S.2.1 dM_way_107 rfl (lv_at hl 2 rfl) ?_
                    refine lv_aload_n S.1 S.2.1 dM_way_108 rfl (lv_at hl 3 rfl) ?_
                    refine kb_get S w 0 rfl fM_13 rfl dM_way_109 ?_
                    refine W.eq (g2 := F0 m 112 ls [.ref (a 2), .int (z 12 (kb_ix (x2))), .int x1, .ref (a 0)]) rfl ?_
                    refine lv_iload_n S.1 S.2.1 dM_way_112 rfl (lv_at hl 2 rfl) ?_
                    obtain ⟨hi27, h⟩ := kb_ck_of h
                    refine kb_iald S w 2 0 rfl rfl hi27 dM_way_113 ?_
                    refine W.eq (g2 := F0 m 114 ls [.int (z24 2 (kb_ix (z 12 (kb_ix (x2))))), .int (z 12 (kb_ix (x2))), .int x1, .ref (a 0)]) rfl ?_
                    obtain ⟨r29, z28, hc30, h⟩ := kb_cl_of h
                    refine kb_calli (As := [.int x1, .int (z 12 (kb_ix (x2))), .int (z24 2 (kb_ix (z 12 (kb_ix (x2)))))]) (rest := []) (q0 := 0) (ci := 3) S w (fun sz => cM_asks l D cI cZ a _ _ _ sz x1 (z 12 (kb_ix (x2))) (z24 2 (kb_ix (z 12 (kb_ix (x2))))) hc30) Y_M_asks I_M_asks S_M_asks lM_140 ⟨rfl, rfl, Nat.le_of_ble_eq_true rfl, Nat.le_of_ble_eq_true rfl⟩ rfl rfl rfl rfl hl.1 rfl (Nat.le_of_ble_eq_true rfl) dM_way_114 ⟨Nat.le_of_ble_eq_true rfl, Nat.le_of_ble_eq_true rfl⟩ (fun H locs w => ?_)
                    refine lv_if_ne (tgt := 128) S.1 S.2.1 dM_way_117 (by decide) (fun hc => ?_) (fun hc => ?_)
                    · have h := (kb_brf hc).symm.trans h
                      refine lv_iinc (v := x2 + 1) (k := 5) S.1 S.2.1 dM_way_128 hl rfl rfl (by decide) rfl (fun ls hl => ?_)
                      have hl : lv_has ls 6 [(2, .int (x2 + 1)), (5, .int 1), (4, .int (z 13 (kb_ix (x2)))), (3, .int (z 12 (kb_ix (x2)))), (0, .ref (a 0)), (1, .int x1)] := hl
                      refine lv_goto (tgt := 2) S.1 S.2.1 dM_way_131 (by decide) ?_
                      exact ih x1 (x2 + 1) z28 _ _ _ (lv_sub hl [4, 5, 0] rfl) w h
                    · have h := (kb_brt hc).symm.trans h
                      refine lv_aload_n S.1 S.2.1 dM_way_120 rfl (lv_at hl 3 rfl) ?_
                      refine lv_iconst (v := 1) S.1 S.2.1 dM_way_121 (by decide) ?_
                      refine lv_iload_n S.1 S.2.1 dM_way_122 rfl (lv_at hl 2 rfl) ?_
                      refine lv_iconst (v := 0) S.1 S.2.1 dM_way_123 (by decide) ?_
                      obtain ⟨r32, z31, hc33, h⟩ := kb_cl_of h
                      refine kb_calli (As := [.int 1, .int (z 12 (kb_ix (x2))), .int 0]) (rest := []) (q0 := 0) (ci := 3) S w (fun sz => cM_told l D cI cZ a _ _ _ sz 1 (z 12 (kb_ix (x2))) 0 hc33) Y_M_told I_M_told S_M_told lM_130 ⟨rfl, rfl, Nat.le_of_ble_eq_true rfl, Nat.le_of_ble_eq_true rfl⟩ rfl rfl rfl rfl hl.1 rfl (Nat.le_of_ble_eq_true rfl) dM_way_124 ⟨Nat.le_of_ble_eq_true rfl, Nat.le_of_ble_eq_true rfl⟩ (fun H locs w => ?_)
                      exact kb_iret (mW cI cZ a) S hr hlk hA w h dM_way_127
            · have h := (kb_brt hc).symm.trans h
              refine lv_aload_n S.1 S.2.1 dM_way_62 rfl (lv_at hl 3 rfl) ?_
              refine lv_iconst (v := 0) S.1 S.2.1 dM_way_63 (by decide) ?_
              refine lv_iload_n S.1 S.2.1 dM_way_64 rfl (lv_at hl 2 rfl) ?_
              refine lv_iload S.1 S.2.1 dM_way_65 (lv_at hl 1 rfl) ?_
              obtain ⟨r35, z34, hc36, h⟩ := kb_cl_of h
              refine kb_calli (As := [.int 0, .int (z 12 (kb_ix (x2))), .int (z 13 (kb_ix (x2)))]) (rest := []) (q0 := 0) (ci := 3) S w (fun sz => cM_told l D cI cZ a _ _ _ sz 0 (z 12 (kb_ix (x2))) (z 13 (kb_ix (x2))) hc36) Y_M_told I_M_told S_M_told lM_130 ⟨rfl, rfl, Nat.le_of_ble_eq_true rfl, Nat.le_of_ble_eq_true rfl⟩ rfl rfl rfl rfl hl.1 rfl (Nat.le_of_ble_eq_true rfl) dM_way_67 ⟨Nat.le_of_ble_eq_true rfl, Nat.le_of_ble_eq_true rfl⟩ (fun H locs w => ?_)
              exact kb_iret (mW cI cZ a) S hr hlk hA w h dM_way_70
  refine lv_iconst (v := 0) S.1 S.2.1 dM_way_0 (by decide) ?_
  refine lv_istore_n S.1 S.2.1 dM_way_1 rfl hl (by decide) rfl (fun ls hl => ?_)
  have hl : lv_has ls 6 [(2, .int 0), (0, .ref (a 0)), (1, .int x1)] := hl
  exact L2 3000 x1 0 z0 _ _ _ (lv_sub hl [1, 2, 0] rfl) w h
set_option maxHeartbeats 4000000 in
set_option maxRecDepth 100000 in
theorem cM_cycle (l : Launch) (D : va_G) (cI cZ : ClassId) (a : Nat → Nat) (z0 z' : kb_S) (r : Int32) (sz : Nat) (h : pM_cycle  z0 = some (r, z')) : Met l y_M_cycle (Cond.code y_M_cycle c_M_cycle 4 (some .int) :: wsB) rm_M_cycle (kb_Pc D vwCl [(cI, .int), (cZ, .boolean)] sz [.ref (a 0)] (mW cI cZ a z0)) (kb_Qi D vwCl sz (mW cI cZ a z0) r (mW cI cZ a z')) 0 0 (va_A (mW cI cZ a z0) sz) := by
  refine kb_start (by decide) rfl (Nat.le_of_ble_eq_true rfl) ?_
  intro p e s m args below meth c A ls S hr hlk hsz hA w hl
  have hl : lv_has ls 4 [(0, .ref (a 0))] := hl
  unfold pM_cycle at h
  have J104 : ∀ (x2 : Int32) (z : kb_S) (H : Heap) (locs : List Loc) (ls : Array Slot), lv_has ls 4 [(0, .ref (a 0)), (2, .int x2)] → kb_W D vwCl [(cI, .int), (cZ, .boolean)] A s H locs (mW cI cZ a z) → pM_cycle_J104 x2 z = some (r, z') → W p l e rm_M_cycle s m args below meth c H locs 0 0 (MQ below (kb_Qi D vwCl sz (mW cI cZ a z0) r (mW cI cZ a z')) args s 0 0 (va_A (mW cI cZ a z0) sz)) (F0 m 104 ls []) := by
    intro x2 z H locs ls hl w h
    unfold pM_cycle_J104 at h
    refine lv_aload_n S.1 S.2.1 dM_cycle_104 rfl (lv_at hl 0 rfl) ?_
    refine kb_get S w 0 rfl fM_34 rfl dM_cycle_105 ?_
    refine W.eq (g2 := F0 m 108 ls [.ref (a 9)]) rfl ?_
    refine lv_iconst (v := 0) S.1 S.2.1 dM_cycle_108 (by decide) ?_
    refine lv_dup2_11 S.1 S.2.1 dM_cycle_109 rfl rfl ?_
    obtain ⟨hi8, h⟩ := kb_ck_of h
    refine kb_iald S w 9 0 rfl rfl hi8 dM_cycle_110 ?_
    refine W.eq (g2 := F0 m 111 ls [.int (z 9 (kb_ix (0))), .int 0, .ref (a 9)]) rfl ?_
    refine lv_iconst (v := 1) S.1 S.2.1 dM_cycle_111 (by decide) ?_
    refine lv_iadd S.1 S.2.1 dM_cycle_112 ?_
    obtain ⟨hi9, h⟩ := kb_ck_of h
    obtain ⟨z10, hz11, h⟩ := kb_st_of h
    refine kb_iast S w 9 0 rfl rfl hi9 (ws1 := mW cI cZ a z10) (by rw [hz11]; rfl) dM_cycle_113 (fun H locs w => ?_)
    refine lv_iload_n S.1 S.2.1 dM_cycle_114 rfl (lv_at hl 1 rfl) ?_
    exact kb_iret (mW cI cZ a) S hr hlk hA w h dM_cycle_115
  have J103 : ∀ (s0 : Int32) (z : kb_S) (H : Heap) (locs : List Loc) (ls : Array Slot), lv_has ls 4 [(0, .ref (a 0))] → kb_W D vwCl [(cI, .int), (cZ, .boolean)] A s H locs (mW cI cZ a z) → pM_cycle_J103 s0 z = some (r, z') → W p l e rm_M_cycle s m args below meth c H locs 0 0 (MQ below (kb_Qi D vwCl sz (mW cI cZ a z0) r (mW cI cZ a z')) args s 0 0 (va_A (mW cI cZ a z0) sz)) (F0 m 103 ls [.int s0]) := by
    intro s0 z H locs ls hl w h
    unfold pM_cycle_J103 at h
    refine lv_istore_n S.1 S.2.1 dM_cycle_103 rfl hl (by decide) rfl (fun ls hl => ?_)
    have hl : lv_has ls 4 [(2, .int s0), (0, .ref (a 0))] := hl
    exact J104 s0 z _ _ _ (lv_sub hl [1, 0] rfl) w h
  have J83 : ∀ (s0 : Int32) (z : kb_S) (H : Heap) (locs : List Loc) (ls : Array Slot), lv_has ls 4 [(0, .ref (a 0))] → kb_W D vwCl [(cI, .int), (cZ, .boolean)] A s H locs (mW cI cZ a z) → pM_cycle_J83 s0 z = some (r, z') → W p l e rm_M_cycle s m args below meth c H locs 0 0 (MQ below (kb_Qi D vwCl sz (mW cI cZ a z0) r (mW cI cZ a z')) args s 0 0 (va_A (mW cI cZ a z0) sz)) (F0 m 83 ls [.int s0]) := by
    intro s0 z H locs ls hl w h
    unfold pM_cycle_J83 at h
    refine lv_istore_n S.1 S.2.1 dM_cycle_83 rfl hl (by decide) rfl (fun ls hl => ?_)
    have hl : lv_has ls 4 [(3, .int s0), (0, .ref (a 0))] := hl
    refine lv_aload_n S.1 S.2.1 dM_cycle_84 rfl (lv_at hl 1 rfl) ?_
    refine lv_iload_n S.1 S.2.1 dM_cycle_85 rfl (lv_at hl 0 rfl) ?_
    obtain ⟨r6, z5, hc7, h⟩ := kb_cl_of h
    refine kb_calli (As := [.int s0]) (rest := []) (q0 := 0) (ci := 3) S w (fun sz => cM_hit l D cI cZ a _ _ _ sz s0 hc7) Y_M_hit I_M_hit S_M_hit lM_147 ⟨rfl, rfl, Nat.le_of_ble_eq_true rfl, Nat.le_of_ble_eq_true rfl⟩ rfl rfl rfl rfl hl.1 rfl (Nat.le_of_ble_eq_true rfl) dM_cycle_86 ⟨Nat.le_of_ble_eq_true rfl, Nat.le_of_ble_eq_true rfl⟩ (fun H locs w => ?_)
    refine lv_istore_n S.1 S.2.1 dM_cycle_89 rfl hl (by decide) rfl (fun ls hl => ?_)
    have hl : lv_has ls 4 [(2, .int r6), (3, .int s0), (0, .ref (a 0))] := hl
    refine lv_iload_n S.1 S.2.1 dM_cycle_90 rfl (lv_at hl 0 rfl) ?_
    refine lv_if_ne (tgt := 102) S.1 S.2.1 dM_cycle_91 (by decide) (fun hc => ?_) (fun hc => ?_)
    · have h := (kb_brf hc).symm.trans h
      refine lv_iload_n S.1 S.2.1 dM_cycle_102 rfl (lv_at hl 0 rfl) ?_
      exact J103 r6 z5 _ _ _ (lv_sub hl [2] rfl) w h
    · have h := (kb_brt hc).symm.trans h
      refine lv_aload_n S.1 S.2.1 dM_cycle_94 rfl (lv_at hl 2 rfl) ?_
      refine lv_iload_n S.1 S.2.1 dM_cycle_95 rfl (lv_at hl 1 rfl) ?_
      obtain ⟨r13, z12, hc14, h⟩ := kb_cl_of h
      refine kb_calli (As := [.int s0]) (rest := []) (q0 := 0) (ci := 3) S w (fun sz => cM_way l D cI cZ a _ _ _ sz s0 hc14) Y_M_way I_M_way S_M_way lM_150 ⟨rfl, rfl, Nat.le_of_ble_eq_true rfl, Nat.le_of_ble_eq_true rfl⟩ rfl rfl rfl rfl hl.1 rfl (Nat.le_of_ble_eq_true rfl) dM_cycle_96 ⟨Nat.le_of_ble_eq_true rfl, Nat.le_of_ble_eq_true rfl⟩ (fun H locs w => ?_)
      refine lv_goto (tgt := 103) S.1 S.2.1 dM_cycle_99 (by decide) ?_
      exact J103 r13 z12 _ _ _ (lv_sub hl [2] rfl) w h
  have J79 : ∀ (z : kb_S) (H : Heap) (locs : List Loc) (ls : Array Slot), lv_has ls 4 [(0, .ref (a 0))] → kb_W D vwCl [(cI, .int), (cZ, .boolean)] A s H locs (mW cI cZ a z) → pM_cycle_J79  z = some (r, z') → W p l e rm_M_cycle s m args below meth c H locs 0 0 (MQ below (kb_Qi D vwCl sz (mW cI cZ a z0) r (mW cI cZ a z')) args s 0 0 (va_A (mW cI cZ a z0) sz)) (F0 m 79 ls []) := by
    intro  z H locs ls hl w h
    unfold pM_cycle_J79 at h
    refine lv_aload_n S.1 S.2.1 dM_cycle_79 rfl (lv_at hl 0 rfl) ?_
    refine kb_get S w 0 rfl fM_113 rfl dM_cycle_80 ?_
    refine W.eq (g2 := F0 m 83 ls [.int (z 0 4)]) rfl ?_
    exact J83 (z 0 4) z _ _ _ (lv_sub hl [0] rfl) w h
  have J19 : ∀ (s0 : Int32) (z : kb_S) (H : Heap) (locs : List Loc) (ls : Array Slot), lv_has ls 4 [(0, .ref (a 0))] → kb_W D vwCl [(cI, .int), (cZ, .boolean)] A s H locs (mW cI cZ a z) → pM_cycle_J19 s0 z = some (r, z') → W p l e rm_M_cycle s m args below meth c H locs 0 0 (MQ below (kb_Qi D vwCl sz (mW cI cZ a z0) r (mW cI cZ a z')) args s 0 0 (va_A (mW cI cZ a z0) sz)) (F0 m 19 ls [.int s0]) := by
    intro s0 z H locs ls hl w h
    unfold pM_cycle_J19 at h
    refine lv_istore_n S.1 S.2.1 dM_cycle_19 rfl hl (by decide) rfl (fun ls hl => ?_)
    have hl : lv_has ls 4 [(1, .int s0), (0, .ref (a 0))] := hl
    refine lv_iconst (v := 0) S.1 S.2.1 dM_cycle_20 (by decide) ?_
    refine lv_istore_n S.1 S.2.1 dM_cycle_21 rfl hl (by decide) rfl (fun ls hl => ?_)
    have hl : lv_has ls 4 [(2, .int 0), (1, .int s0), (0, .ref (a 0))] := hl
    refine lv_aload_n S.1 S.2.1 dM_cycle_22 rfl (lv_at hl 2 rfl) ?_
    refine kb_get S w 0 rfl fM_34 rfl dM_cycle_23 ?_
    refine W.eq (g2 := F0 m 26 ls [.ref (a 9)]) rfl ?_
    refine lv_iconst (v := 0) S.1 S.2.1 dM_cycle_26 (by decide) ?_
    obtain ⟨hi3, h⟩ := kb_ck_of h
    refine kb_iald S w 9 0 rfl rfl hi3 dM_cycle_27 ?_
    refine W.eq (g2 := F0 m 28 ls [.int (z 9 (kb_ix (0)))]) rfl ?_
    refine lv_iload_n S.1 S.2.1 dM_cycle_28 rfl (lv_at hl 1 rfl) ?_
    refine lv_isub S.1 S.2.1 dM_cycle_29 ?_
    refine lv_aload_n S.1 S.2.1 dM_cycle_30 rfl (lv_at hl 2 rfl) ?_
    refine kb_get S w 0 rfl fM_7 rfl dM_cycle_31 ?_
    refine W.eq (g2 := F0 m 34 ls [.ref (a 1), .int ((z 9 (kb_ix (0))) - s0)]) rfl ?_
    refine lv_bipush (v := 10) S.1 S.2.1 dM_cycle_34 (by decide) ?_
    obtain ⟨hi4, h⟩ := kb_ck_of h
    refine kb_iald S w 1 0 rfl rfl hi4 dM_cycle_36 ?_
    refine W.eq (g2 := F0 m 37 ls [.int (z 1 (kb_ix (10))), .int ((z 9 (kb_ix (0))) - s0)]) rfl ?_
    refine lv_icmp_lt (tgt := 48) S.1 S.2.1 dM_cycle_37 (by decide) (fun hc => ?_) (fun hc => ?_)
    · have h := (kb_brt hc).symm.trans h
      refine lv_aload_n S.1 S.2.1 dM_cycle_48 rfl (lv_at hl 2 rfl) ?_
      refine kb_get S w 0 rfl fM_113 rfl dM_cycle_49 ?_
      refine W.eq (g2 := F0 m 52 ls [.int (z 0 4)]) rfl ?_
      refine lv_if_le (tgt := 79) S.1 S.2.1 dM_cycle_52 (by decide) (fun hc => ?_) (fun hc => ?_)
      · have h := (kb_brt hc).symm.trans h
        exact J79  z _ _ _ (lv_sub hl [2] rfl) w h
      · have h := (kb_brf hc).symm.trans h
        refine lv_aload_n S.1 S.2.1 dM_cycle_55 rfl (lv_at hl 2 rfl) ?_
        refine kb_get S w 0 rfl fM_34 rfl dM_cycle_56 ?_
        refine W.eq (g2 := F0 m 59 ls [.ref (a 9)]) rfl ?_
        refine lv_iconst (v := 0) S.1 S.2.1 dM_cycle_59 (by decide) ?_
        obtain ⟨hi15, h⟩ := kb_ck_of h
        refine kb_iald S w 9 0 rfl rfl hi15 dM_cycle_60 ?_
        refine W.eq (g2 := F0 m 61 ls [.int (z 9 (kb_ix (0)))]) rfl ?_
        refine lv_aload_n S.1 S.2.1 dM_cycle_61 rfl (lv_at hl 2 rfl) ?_
        refine kb_get S w 0 rfl fM_59 rfl dM_cycle_62 ?_
        refine W.eq (g2 := F0 m 65 ls [.ref (a 17), .int (z 9 (kb_ix (0)))]) rfl ?_
        refine lv_iconst (v := 0) S.1 S.2.1 dM_cycle_65 (by decide) ?_
        obtain ⟨hi16, h⟩ := kb_ck_of h
        refine kb_iald S w 17 0 rfl rfl hi16 dM_cycle_66 ?_
        refine W.eq (g2 := F0 m 67 ls [.int (z 17 (kb_ix (0))), .int (z 9 (kb_ix (0)))]) rfl ?_
        refine lv_isub S.1 S.2.1 dM_cycle_67 ?_
        refine lv_aload_n S.1 S.2.1 dM_cycle_68 rfl (lv_at hl 2 rfl) ?_
        refine kb_get S w 0 rfl fM_78 rfl dM_cycle_69 ?_
        refine W.eq (g2 := F0 m 72 ls [.int (z 0 3), .int ((z 9 (kb_ix (0))) - (z 17 (kb_ix (0))))]) rfl ?_
        refine lv_icmp_lt (tgt := 79) S.1 S.2.1 dM_cycle_72 (by decide) (fun hc => ?_) (fun hc => ?_)
        · have h := (kb_brt hc).symm.trans h
          exact J79  z _ _ _ (lv_sub hl [2] rfl) w h
        · have h := (kb_brf hc).symm.trans h
          refine lv_iconst (v := 1) S.1 S.2.1 dM_cycle_75 (by decide) ?_
          refine lv_goto (tgt := 83) S.1 S.2.1 dM_cycle_76 (by decide) ?_
          exact J83 1 z _ _ _ (lv_sub hl [2] rfl) w h
    · have h := (kb_brf hc).symm.trans h
      refine lv_aload_n S.1 S.2.1 dM_cycle_40 rfl (lv_at hl 2 rfl) ?_
      obtain ⟨r18, z17, hc19, h⟩ := kb_cl_of h
      refine kb_calli (As := []) (rest := []) (q0 := 0) (ci := 3) S w (fun sz => cM_refreshing l D cI cZ a _ _ _ sz  hc19) Y_M_refreshing I_M_refreshing S_M_refreshing lM_143 ⟨rfl, rfl, Nat.le_of_ble_eq_true rfl, Nat.le_of_ble_eq_true rfl⟩ rfl rfl rfl rfl hl.1 rfl (Nat.le_of_ble_eq_true rfl) dM_cycle_41 ⟨Nat.le_of_ble_eq_true rfl, Nat.le_of_ble_eq_true rfl⟩ (fun H locs w => ?_)
      refine lv_istore_n S.1 S.2.1 dM_cycle_44 rfl hl (by decide) rfl (fun ls hl => ?_)
      have hl : lv_has ls 4 [(2, .int r18), (1, .int s0), (0, .ref (a 0))] := hl
      refine lv_goto (tgt := 104) S.1 S.2.1 dM_cycle_45 (by decide) ?_
      exact J104 r18 z17 _ _ _ (lv_sub hl [2, 0] rfl) w h
  refine lv_aload_n S.1 S.2.1 dM_cycle_0 rfl (lv_at hl 0 rfl) ?_
  refine kb_get S w 0 rfl fM_31 rfl dM_cycle_1 ?_
  refine W.eq (g2 := F0 m 4 ls [.ref (a 8)]) rfl ?_
  refine lv_iconst (v := 0) S.1 S.2.1 dM_cycle_4 (by decide) ?_
  obtain ⟨hi1, h⟩ := kb_ck_of h
  refine kb_iald S w 8 0 rfl rfl hi1 dM_cycle_5 ?_
  refine W.eq (g2 := F0 m 6 ls [.int (z0 8 (kb_ix (0)))]) rfl ?_
  refine lv_if_ge (tgt := 13) S.1 S.2.1 dM_cycle_6 (by decide) (fun hc => ?_) (fun hc => ?_)
  · have h := (kb_brt hc).symm.trans h
    refine lv_aload_n S.1 S.2.1 dM_cycle_13 rfl (lv_at hl 0 rfl) ?_
    refine kb_get S w 0 rfl fM_31 rfl dM_cycle_14 ?_
    refine W.eq (g2 := F0 m 17 ls [.ref (a 8)]) rfl ?_
    refine lv_iconst (v := 0) S.1 S.2.1 dM_cycle_17 (by decide) ?_
    obtain ⟨hi2, h⟩ := kb_ck_of h
    refine kb_iald S w 8 0 rfl rfl hi2 dM_cycle_18 ?_
    refine W.eq (g2 := F0 m 19 ls [.int (z0 8 (kb_ix (0)))]) rfl ?_
    exact J19 (z0 8 (kb_ix (0))) z0 _ _ _ (lv_sub hl [0] rfl) w h
  · have h := (kb_brf hc).symm.trans h
    refine lv_iconst (v := 0) S.1 S.2.1 dM_cycle_9 (by decide) ?_
    refine lv_goto (tgt := 19) S.1 S.2.1 dM_cycle_10 (by decide) ?_
    exact J19 0 z0 _ _ _ (lv_sub hl [0] rfl) w h
