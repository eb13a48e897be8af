set_option maxHeartbeats 4000000 in
set_option maxRecDepth 100000 in
theorem cB_tick (l : Launch) (D : va_G) (cI cQ : ClassId) (a : Nat → Nat) (nb Q : Nat) (L : List Nat) (z0 z' : kc_S) (r : Int32) (sz : Nat) (h : pB_tick nb Q L  z0 = some (r, z')) : Met l y_B_tick (Cond.code y_B_tick c_B_tick 2 (some .int) :: wsB) rm_B_tick (kb_Pc D vwCl [(cI, .int), (cQ, .object RReq)] sz [.ref (a 0)] (bW cI cQ a nb Q L z0)) (kb_Qi D vwCl sz (bW cI cQ a nb Q L z0) r (bW cI cQ a nb Q L z')) 0 0 (va_A (bW cI cQ a nb Q L z0) sz) := by
  refine kb_start (by decide) rfl (Nat.le_of_ble_eq_true rfl) ?_
  intro p e s m args below meth c A ls S hr hlk hsz hA w hl
  have hl : lv_has ls 2 [(0, .ref (a 0))] := hl
  unfold pB_tick at h
  refine lv_aload_n S.1 S.2.1 dB_tick_0 rfl (lv_at hl 0 rfl) ?_
  obtain ⟨r2, z1, hc3, h⟩ := kb_cl_of h
  refine kb_calli (As := []) (rest := []) (q0 := 0) (ci := 2) S w (fun sz => cB_giveFirst l D cI cQ a nb Q L _ _ _ sz  hc3) Y_B_giveFirst I_B_giveFirst S_B_giveFirst lB_99 ⟨rfl, rfl, Nat.le_of_ble_eq_true rfl, Nat.le_of_ble_eq_true rfl⟩ rfl rfl rfl rfl hl.1 rfl (Nat.le_of_ble_eq_true rfl) dB_tick_1 ⟨Nat.le_of_ble_eq_true rfl, Nat.le_of_ble_eq_true rfl⟩ (fun H locs w => ?_)
  refine lv_istore_n S.1 S.2.1 dB_tick_4 rfl hl (by decide) rfl (fun ls hl => ?_)
  have hl : lv_has ls 2 [(1, .int r2), (0, .ref (a 0))] := hl
  refine lv_aload_n S.1 S.2.1 dB_tick_5 rfl (lv_at hl 1 rfl) ?_
  refine kb_get S w 0 rfl fB_42 rfl dB_tick_6 ?_
  refine W.eq (g2 := F0 m 9 ls [.ref (a 3)]) rfl ?_
  refine lv_dup S.1 S.2.1 dB_tick_9 rfl ?_
  refine kb_get S w 3 rfl fB_80 rfl dB_tick_10 ?_
  refine W.eq (g2 := F0 m 13 ls [.int (z1.1 3 3), .ref (a 3)]) rfl ?_
  refine lv_iconst (v := 1) S.1 S.2.1 dB_tick_13 (by decide) ?_
  refine lv_iadd S.1 S.2.1 dB_tick_14 ?_
  obtain ⟨z4, hz5, h⟩ := kb_st_of h
  refine kb_puti S w 3 rfl gB_80 (Nat.le_of_ble_eq_true rfl) (ws1 := bW cI cQ a nb Q L z4) (by rw [hz5]; rfl) dB_tick_15 (fun H locs w => ?_)
  refine lv_iload_n S.1 S.2.1 dB_tick_18 rfl (lv_at hl 0 rfl) ?_
  exact kb_iret (bW cI cQ a nb Q L) S hr hlk hA w h dB_tick_19
set_option maxHeartbeats 4000000 in
set_option maxRecDepth 100000 in
theorem cC_firstBroken_3 (l : Launch) (D : va_G) (cI cQ : ClassId) (a : Nat → Nat) (nb Q : Nat) (L : List Nat) (z0 z' : kc_S) (r : Int32) (sz : Nat) (x1 : Int32) (x2 : Int32) (x3 : Int32) (h : pC_firstBroken 3 nb Q L x1 x2 x3 z0 = some (r, z')) : Met l y_C_firstBroken (Cond.code y_C_firstBroken c_C_firstBroken 4 (some .int) :: wsB) rm_C_firstBroken (kb_Pc D vwCl [(cI, .int), (cQ, .object RReq)] sz [.ref (a 3), .int x1, .int x2, .int x3] (bW cI cQ a nb Q L z0)) (kb_Qi D vwCl sz (bW cI cQ a nb Q L z0) r (bW cI cQ a nb Q L z')) 0 0 (va_A (bW cI cQ a nb Q L z0) sz) := by
  refine kb_start (by decide) rfl (Nat.le_of_ble_eq_true rfl) ?_
  intro p e s m args below meth c A ls S hr hlk hsz hA w hl
  have hl : lv_has ls 4 [(0, .ref (a 3)), (1, .int x1), (2, .int x2), (3, .int x3)] := hl
  unfold pC_firstBroken at h
  refine lv_iload_n S.1 S.2.1 dC_firstBroken_0 rfl (lv_at hl 1 rfl) ?_
  by_cases hs1_0 : (x1).toInt = 0
  · have h := (kb_brt hs1_0).symm.trans h
    refine lv_tableIn (tgt := 36) S.1 S.2.1 dC_firstBroken_1 (by omega) (by omega) (by rw [hs1_0]; rfl) (by decide) ?_
    refine lv_aload_n S.1 S.2.1 dC_firstBroken_36 rfl (lv_at hl 0 rfl) ?_
    refine lv_iload_n S.1 S.2.1 dC_firstBroken_37 rfl (lv_at hl 2 rfl) ?_
    obtain ⟨r2, z1, hc3, h⟩ := kb_cl_of h
    refine kb_calli (As := [.int x2]) (rest := []) (q0 := 3) (ci := 0) S w (fun sz => cC_brokenByOpen_3 l D cI cQ a nb Q L _ _ _ sz x2 hc3) Y_C_brokenByOpen I_C_brokenByOpen S_C_brokenByOpen lC_43 ⟨rfl, rfl, Nat.le_of_ble_eq_true rfl, Nat.le_of_ble_eq_true rfl⟩ rfl rfl rfl rfl hl.1 rfl (Nat.le_of_ble_eq_true rfl) dC_firstBroken_38 ⟨Nat.le_of_ble_eq_true rfl, Nat.le_of_ble_eq_true rfl⟩ (fun H locs w => ?_)
    exact kb_iret (bW cI cQ a nb Q L) S hr hlk hA w h dC_firstBroken_41
  · have h := (kb_brf hs1_0).symm.trans h
    by_cases hs1_1 : (x1).toInt = 1
    · have h := (kb_brt hs1_1).symm.trans h
      refine lv_tableIn (tgt := 42) S.1 S.2.1 dC_firstBroken_1 (by omega) (by omega) (by rw [hs1_1]; rfl) (by decide) ?_
      refine lv_aload_n S.1 S.2.1 dC_firstBroken_42 rfl (lv_at hl 0 rfl) ?_
      refine lv_iload_n S.1 S.2.1 dC_firstBroken_43 rfl (lv_at hl 2 rfl) ?_
      obtain ⟨r5, z4, hc6, h⟩ := kb_cl_of h
      refine kb_calli (As := [.int x2]) (rest := []) (q0 := 3) (ci := 0) S w (fun sz => cC_brokenByClose_3 l D cI cQ a nb Q L _ _ _ sz x2 hc6) Y_C_brokenByClose I_C_brokenByClose S_C_brokenByClose lC_47 ⟨rfl, rfl, Nat.le_of_ble_eq_true rfl, Nat.le_of_ble_eq_true rfl⟩ rfl rfl rfl rfl hl.1 rfl (Nat.le_of_ble_eq_true rfl) dC_firstBroken_44 ⟨Nat.le_of_ble_eq_true rfl, Nat.le_of_ble_eq_true rfl⟩ (fun H locs w => ?_)
      exact kb_iret (bW cI cQ a nb Q L) S hr hlk hA w h dC_firstBroken_47
    · have h := (kb_brf hs1_1).symm.trans h
      by_cases hs1_2 : (x1).toInt = 2
      · have h := (kb_brt hs1_2).symm.trans h
        refine lv_tableIn (tgt := 53) S.1 S.2.1 dC_firstBroken_1 (by omega) (by omega) (by rw [hs1_2]; rfl) (by decide) ?_
        refine lv_aload_n S.1 S.2.1 dC_firstBroken_53 rfl (lv_at hl 0 rfl) ?_
        refine lv_iload_n S.1 S.2.1 dC_firstBroken_54 rfl (lv_at hl 2 rfl) ?_
        refine lv_iload_n S.1 S.2.1 dC_firstBroken_55 rfl (lv_at hl 3 rfl) ?_
        obtain ⟨r8, z7, hc9, h⟩ := kb_cl_of h
        refine kb_calli (As := [.int x2, .int x3]) (rest := []) (q0 := 3) (ci := 0) S w (fun sz => cC_brokenByAccess_3 l D cI cQ a nb Q L _ _ _ sz x2 x3 hc9) Y_C_brokenByAccess I_C_brokenByAccess S_C_brokenByAccess lC_54 ⟨rfl, rfl, Nat.le_of_ble_eq_true rfl, Nat.le_of_ble_eq_true rfl⟩ rfl rfl rfl rfl hl.1 rfl (Nat.le_of_ble_eq_true rfl) dC_firstBroken_56 ⟨Nat.le_of_ble_eq_true rfl, Nat.le_of_ble_eq_true rfl⟩ (fun H locs w => ?_)
        exact kb_iret (bW cI cQ a nb Q L) S hr hlk hA w h dC_firstBroken_59
      · have h := (kb_brf hs1_2).symm.trans h
        by_cases hs1_3 : (x1).toInt = 3
        · have h := (kb_brt hs1_3).symm.trans h
          refine lv_tableIn (tgt := 53) S.1 S.2.1 dC_firstBroken_1 (by omega) (by omega) (by rw [hs1_3]; rfl) (by decide) ?_
          refine lv_aload_n S.1 S.2.1 dC_firstBroken_53 rfl (lv_at hl 0 rfl) ?_
          refine lv_iload_n S.1 S.2.1 dC_firstBroken_54 rfl (lv_at hl 2 rfl) ?_
          refine lv_iload_n S.1 S.2.1 dC_firstBroken_55 rfl (lv_at hl 3 rfl) ?_
          obtain ⟨r11, z10, hc12, h⟩ := kb_cl_of h
          refine kb_calli (As := [.int x2, .int x3]) (rest := []) (q0 := 3) (ci := 0) S w (fun sz => cC_brokenByAccess_3 l D cI cQ a nb Q L _ _ _ sz x2 x3 hc12) Y_C_brokenByAccess I_C_brokenByAccess S_C_brokenByAccess lC_54 ⟨rfl, rfl, Nat.le_of_ble_eq_true rfl, Nat.le_of_ble_eq_true rfl⟩ rfl rfl rfl rfl hl.1 rfl (Nat.le_of_ble_eq_true rfl) dC_firstBroken_56 ⟨Nat.le_of_ble_eq_true rfl, Nat.le_of_ble_eq_true rfl⟩ (fun H locs w => ?_)
          exact kb_iret (bW cI cQ a nb Q L) S hr hlk hA w h dC_firstBroken_59
        · have h := (kb_brf hs1_3).symm.trans h
          by_cases hs1_4 : (x1).toInt = 4
          · have h := (kb_brt hs1_4).symm.trans h
            refine lv_tableIn (tgt := 48) S.1 S.2.1 dC_firstBroken_1 (by omega) (by omega) (by rw [hs1_4]; rfl) (by decide) ?_
            refine lv_aload_n S.1 S.2.1 dC_firstBroken_48 rfl (lv_at hl 0 rfl) ?_
            obtain ⟨r14, z13, hc15, h⟩ := kb_cl_of h
            refine kb_calli (As := []) (rest := []) (q0 := 3) (ci := 0) S w (fun sz => cC_brokenByRefresh_3 l D cI cQ a nb Q L _ _ _ sz  hc15) Y_C_brokenByRefresh I_C_brokenByRefresh S_C_brokenByRefresh lC_50 ⟨rfl, rfl, Nat.le_of_ble_eq_true rfl, Nat.le_of_ble_eq_true rfl⟩ rfl rfl rfl rfl hl.1 rfl (Nat.le_of_ble_eq_true rfl) dC_firstBroken_49 ⟨Nat.le_of_ble_eq_true rfl, Nat.le_of_ble_eq_true rfl⟩ (fun H locs w => ?_)
            exact kb_iret (bW cI cQ a nb Q L) S hr hlk hA w h dC_firstBroken_52
          · have h := (kb_brf hs1_4).symm.trans h
            refine lv_tableOut (tgt := 53) S.1 S.2.1 dC_firstBroken_1 (by omega) (by decide) ?_
            refine lv_aload_n S.1 S.2.1 dC_firstBroken_53 rfl (lv_at hl 0 rfl) ?_
            refine lv_iload_n S.1 S.2.1 dC_firstBroken_54 rfl (lv_at hl 2 rfl) ?_
            refine lv_iload_n S.1 S.2.1 dC_firstBroken_55 rfl (lv_at hl 3 rfl) ?_
            obtain ⟨r17, z16, hc18, h⟩ := kb_cl_of h
            refine kb_calli (As := [.int x2, .int x3]) (rest := []) (q0 := 3) (ci := 0) S w (fun sz => cC_brokenByAccess_3 l D cI cQ a nb Q L _ _ _ sz x2 x3 hc18) Y_C_brokenByAccess I_C_brokenByAccess S_C_brokenByAccess lC_54 ⟨rfl, rfl, Nat.le_of_ble_eq_true rfl, Nat.le_of_ble_eq_true rfl⟩ rfl rfl rfl rfl hl.1 rfl (Nat.le_of_ble_eq_true rfl) dC_firstBroken_56 ⟨Nat.le_of_ble_eq_true rfl, Nat.le_of_ble_eq_true rfl⟩ (fun H locs w => ?_)
            exact kb_iret (bW cI cQ a nb Q L) S hr hlk hA w h dC_firstBroken_59
set_option maxHeartbeats 4000000 in
set_option maxRecDepth 100000 in
theorem cC_firstBroken_11 (l : Launch) (D : va_G) (cI cQ : ClassId) (a : Nat → Nat) (nb Q : Nat) (L : List Nat) (z0 z' : kc_S) (r : Int32) (sz : Nat) (x1 : Int32) (x2 : Int32) (x3 : Int32) (h : pC_firstBroken 11 nb Q L x1 x2 x3 z0 = some (r, z')) : Met l y_C_firstBroken (Cond.code y_C_firstBroken c_C_firstBroken 4 (some .int) :: wsB) rm_C_firstBroken (kb_Pc D vwCl [(cI, .int), (cQ, .object RReq)] sz [.ref (a 11), .int x1, .int x2, .int x3] (bW cI cQ a nb Q L z0)) (kb_Qi D vwCl sz (bW cI cQ a nb Q L z0) r (bW cI cQ a nb Q L z')) 0 0 (va_A (bW cI cQ a nb Q L z0) sz) := by
  refine kb_start (by decide) rfl (Nat.le_of_ble_eq_true rfl) ?_
  intro p e s m args below meth c A ls S hr hlk hsz hA w hl
  have hl : lv_has ls 4 [(0, .ref (a 11)), (1, .int x1), (2, .int x2), (3, .int x3)] := hl
  unfold pC_firstBroken at h
  refine lv_iload_n S.1 S.2.1 dC_firstBroken_0 rfl (lv_at hl 1 rfl) ?_
  by_cases hs1_0 : (x1).toInt = 0
  · have h := (kb_brt hs1_0).symm.trans h
    refine lv_tableIn (tgt := 36) S.1 S.2.1 dC_firstBroken_1 (by omega) (by omega) (by rw [hs1_0]; rfl) (by decide) ?_
    refine lv_aload_n S.1 S.2.1 dC_firstBroken_36 rfl (lv_at hl 0 rfl) ?_
    refine lv_iload_n S.1 S.2.1 dC_firstBroken_37 rfl (lv_at hl 2 rfl) ?_
    obtain ⟨r2, z1, hc3, h⟩ := kb_cl_of h
    refine kb_calli (As := [.int x2]) (rest := []) (q0 := 11) (ci := 0) S w (fun sz => cC_brokenByOpen_11 l D cI cQ a nb Q L _ _ _ sz x2 hc3) Y_C_brokenByOpen I_C_brokenByOpen S_C_brokenByOpen lC_43 ⟨rfl, rfl, Nat.le_of_ble_eq_true rfl, Nat.le_of_ble_eq_true rfl⟩ rfl rfl rfl rfl hl.1 rfl (Nat.le_of_ble_eq_true rfl) dC_firstBroken_38 ⟨Nat.le_of_ble_eq_true rfl, Nat.le_of_ble_eq_true rfl⟩ (fun H locs w => ?_)
    exact kb_iret (bW cI cQ a nb Q L) S hr hlk hA w h dC_firstBroken_41
  · have h := (kb_brf hs1_0).symm.trans h
    by_cases hs1_1 : (x1).toInt = 1
    · have h := (kb_brt hs1_1).symm.trans h
      refine lv_tableIn (tgt := 42) S.1 S.2.1 dC_firstBroken_1 (by omega) (by omega) (by rw [hs1_1]; rfl) (by decide) ?_
      refine lv_aload_n S.1 S.2.1 dC_firstBroken_42 rfl (lv_at hl 0 rfl) ?_
      refine lv_iload_n S.1 S.2.1 dC_firstBroken_43 rfl (lv_at hl 2 rfl) ?_
      obtain ⟨r5, z4, hc6, h⟩ := kb_cl_of h
      refine kb_calli (As := [.int x2]) (rest := []) (q0 := 11) (ci := 0) S w (fun sz => cC_brokenByClose_11 l D cI cQ a nb Q L _ _ _ sz x2 hc6) Y_C_brokenByClose I_C_brokenByClose S_C_brokenByClose lC_47 ⟨rfl, rfl, Nat.le_of_ble_eq_true rfl, Nat.le_of_ble_eq_true rfl⟩ rfl rfl rfl rfl hl.1 rfl (Nat.le_of_ble_eq_true rfl) dC_firstBroken_44 ⟨Nat.le_of_ble_eq_true rfl, Nat.le_of_ble_eq_true rfl⟩ (fun H locs w => ?_)
      exact kb_iret (bW cI cQ a nb Q L) S hr hlk hA w h dC_firstBroken_47
    · have h := (kb_brf hs1_1).symm.trans h
      by_cases hs1_2 : (x1).toInt = 2
      · have h := (kb_brt hs1_2).symm.trans h
        refine lv_tableIn (tgt := 53) S.1 S.2.1 dC_firstBroken_1 (by omega) (by omega) (by rw [hs1_2]; rfl) (by decide) ?_
        refine lv_aload_n S.1 S.2.1 dC_firstBroken_53 rfl (lv_at hl 0 rfl) ?_
        refine lv_iload_n S.1 S.2.1 dC_firstBroken_54 rfl (lv_at hl 2 rfl) ?_
        refine lv_iload_n S.1 S.2.1 dC_firstBroken_55 rfl (lv_at hl 3 rfl) ?_
        obtain ⟨r8, z7, hc9, h⟩ := kb_cl_of h
        refine kb_calli (As := [.int x2, .int x3]) (rest := []) (q0 := 11) (ci := 0) S w (fun sz => cC_brokenByAccess_11 l D cI cQ a nb Q L _ _ _ sz x2 x3 hc9) Y_C_brokenByAccess I_C_brokenByAccess S_C_brokenByAccess lC_54 ⟨rfl, rfl, Nat.le_of_ble_eq_true rfl, Nat.le_of_ble_eq_true rfl⟩ rfl rfl rfl rfl hl.1 rfl (Nat.le_of_ble_eq_true rfl) dC_firstBroken_56 ⟨Nat.le_of_ble_eq_true rfl, Nat.le_of_ble_eq_true rfl⟩ (fun H locs w => ?_)
        exact kb_iret (bW cI cQ a nb Q L) S hr hlk hA w h dC_firstBroken_59
      · have h := (kb_brf hs1_2).symm.trans h
        by_cases hs1_3 : (x1).toInt = 3
        · have h := (kb_brt hs1_3).symm.trans h
          refine lv_tableIn (tgt := 53) S.1 S.2.1 dC_firstBroken_1 (by omega) (by omega) (by rw [hs1_3]; rfl) (by decide) ?_
          refine lv_aload_n S.1 S.2.1 dC_firstBroken_53 rfl (lv_at hl 0 rfl) ?_
          refine lv_iload_n S.1 S.2.1 dC_firstBroken_54 rfl (lv_at hl 2 rfl) ?_
          refine lv_iload_n S.1 S.2.1 dC_firstBroken_55 rfl (lv_at hl 3 rfl) ?_
          obtain ⟨r11, z10, hc12, h⟩ := kb_cl_of h
          refine kb_calli (As := [.int x2, .int x3]) (rest := []) (q0 := 11) (ci := 0) S w (fun sz => cC_brokenByAccess_11 l D cI cQ a nb Q L _ _ _ sz x2 x3 hc12) Y_C_brokenByAccess I_C_brokenByAccess S_C_brokenByAccess lC_54 ⟨rfl, rfl, Nat.le_of_ble_eq_true rfl, Nat.le_of_ble_eq_true rfl⟩ rfl rfl rfl rfl hl.1 rfl (Nat.le_of_ble_eq_true rfl) dC_firstBroken_56 ⟨Nat.le_of_ble_eq_true rfl, Nat.le_of_ble_eq_true rfl⟩ (fun H locs w => ?_)
          exact kb_iret (bW cI cQ a nb Q L) S hr hlk hA w h dC_firstBroken_59
        · have h := (kb_brf hs1_3).symm.trans h
          by_cases hs1_4 : (x1).toInt = 4
          · have h := (kb_brt hs1_4).symm.trans h
            refine lv_tableIn (tgt := 48) S.1 S.2.1 dC_firstBroken_1 (by omega) (by omega) (by rw [hs1_4]; rfl) (by decide) ?_
            refine lv_aload_n S.1 S.2.1 dC_firstBroken_48 rfl (lv_at hl 0 rfl) ?_
            obtain ⟨r14, z13, hc15, h⟩ := kb_cl_of h
            refine kb_calli (As := []) (rest := []) (q0 := 11) (ci := 0) S w (fun sz => cC_brokenByRefresh_11 l D cI cQ a nb Q L _ _ _ sz  hc15) Y_C_brokenByRefresh I_C_brokenByRefresh S_C_brokenByRefresh lC_50 ⟨rfl, rfl, Nat.le_of_ble_eq_true rfl, Nat.le_of_ble_eq_true rfl⟩ rfl rfl rfl rfl hl.1 rfl (Nat.le_of_ble_eq_true rfl) dC_firstBroken_49 ⟨Nat.le_of_ble_eq_true rfl, Nat.le_of_ble_eq_true rfl⟩ (fun H locs w => ?_)
            exact kb_iret (bW cI cQ a nb Q L) S hr hlk hA w h dC_firstBroken_52
          · have h := (kb_brf hs1_4).symm.trans h
            refine lv_tableOut (tgt := 53) S.1 S.2.1 dC_firstBroken_1 (by omega) (by decide) ?_
            refine lv_aload_n S.1 S.2.1 dC_firstBroken_53 rfl (lv_at hl 0 rfl) ?_
            refine lv_iload_n S.1 S.2.1 dC_firstBroken_54 rfl (lv_at hl 2 rfl) ?_
            refine lv_iload_n S.1 S.2.1 dC_firstBroken_55 rfl (lv_at hl 3 rfl) ?_
            obtain ⟨r17, z16, hc18, h⟩ := kb_cl_of h
            refine kb_calli (As := [.int x2, .int x3]) (rest := []) (q0 := 11) (ci := 0) S w (fun sz => cC_brokenByAccess_11 l D cI cQ a nb Q L _ _ _ sz x2 x3 hc18) Y_C_brokenByAccess I_C_brokenByAccess S_C_brokenByAccess lC_54 ⟨rfl, rfl, Nat.le_of_ble_eq_true rfl, Nat.le_of_ble_eq_true rfl⟩ rfl rfl rfl rfl hl.1 rfl (Nat.le_of_ble_eq_true rfl) dC_firstBroken_56 ⟨Nat.le_of_ble_eq_true rfl, Nat.le_of_ble_eq_true rfl⟩ (fun H locs w => ?_)
            exact kb_iret (bW cI cQ a nb Q L) S hr hlk hA w h dC_firstBroken_59
