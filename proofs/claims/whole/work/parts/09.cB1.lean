set_option maxHeartbeats 4000000 in
set_option maxRecDepth 100000 in
theorem cC_hasBank_3 (l : Launch) (D : va_G) (cI cQ : ClassId) (a : Nat → Nat) (nb Q : Nat) (L : List Nat) (z0 z' : kc_S) (r : Int32) (sz : Nat) (x1 : Int32) (h : pC_hasBank 3 nb Q L x1 z0 = some (r, z')) : Met l y_C_hasBank (Cond.code y_C_hasBank c_C_hasBank 2 (some .boolean) :: wsB) rm_C_hasBank (kb_Pc D vwCl [(cI, .int), (cQ, .object RReq)] sz [.ref (a 3), .int x1] (bW cI cQ a nb Q L z0)) (kb_Qi D vwCl sz (bW cI cQ a nb Q L z0) r (bW cI cQ a nb Q L z')) 0 0 (va_A (bW cI cQ a nb Q L z0) sz) := by
  refine kb_start (by decide) rfl (Nat.le_of_ble_eq_true rfl) ?_
  intro p e s m args below meth c A ls S hr hlk hsz hA w hl
  have hl : lv_has ls 2 [(0, .ref (a 3)), (1, .int x1)] := hl
  unfold pC_hasBank at h
  refine lv_iload_n S.1 S.2.1 dC_hasBank_0 rfl (lv_at hl 1 rfl) ?_
  refine lv_if_lt (tgt := 17) S.1 S.2.1 dC_hasBank_1 (by decide) (fun hc => ?_) (fun hc => ?_)
  · have h := (kb_brt hc).symm.trans h
    refine lv_iconst (v := 0) S.1 S.2.1 dC_hasBank_17 (by decide) ?_
    exact kb_zret (bW cI cQ a nb Q L) S hr hlk hA w h (by decide) dC_hasBank_18
  · have h := (kb_brf hc).symm.trans h
    refine lv_iload_n S.1 S.2.1 dC_hasBank_4 rfl (lv_at hl 1 rfl) ?_
    refine lv_aload_n S.1 S.2.1 dC_hasBank_5 rfl (lv_at hl 0 rfl) ?_
    refine kb_get S w 3 rfl fC_15 rfl dC_hasBank_6 ?_
    refine W.eq (g2 := F0 m 9 ls [.ref (a 4), .int x1]) rfl ?_
    refine kb_alen S w 4 0 rfl rfl rfl dC_hasBank_9 ?_
    refine W.eq (g2 := F0 m 10 ls [.int (nI nb), .int x1]) rfl ?_
    refine lv_icmp_ge (tgt := 17) S.1 S.2.1 dC_hasBank_10 (by decide) (fun hc => ?_) (fun hc => ?_)
    · have h := (kb_brt hc).symm.trans h
      refine lv_iconst (v := 0) S.1 S.2.1 dC_hasBank_17 (by decide) ?_
      exact kb_zret (bW cI cQ a nb Q L) S hr hlk hA w h (by decide) dC_hasBank_18
    · have h := (kb_brf hc).symm.trans h
      refine lv_iconst (v := 1) S.1 S.2.1 dC_hasBank_13 (by decide) ?_
      refine lv_goto (tgt := 18) S.1 S.2.1 dC_hasBank_14 (by decide) ?_
      exact kb_zret (bW cI cQ a nb Q L) S hr hlk hA w h (by decide) dC_hasBank_18
set_option maxHeartbeats 4000000 in
set_option maxRecDepth 100000 in
theorem cC_hasBank_11 (l : Launch) (D : va_G) (cI cQ : ClassId) (a : Nat → Nat) (nb Q : Nat) (L : List Nat) (z0 z' : kc_S) (r : Int32) (sz : Nat) (x1 : Int32) (h : pC_hasBank 11 nb Q L x1 z0 = some (r, z')) : Met l y_C_hasBank (Cond.code y_C_hasBank c_C_hasBank 2 (some .boolean) :: wsB) rm_C_hasBank (kb_Pc D vwCl [(cI, .int), (cQ, .object RReq)] sz [.ref (a 11), .int x1] (bW cI cQ a nb Q L z0)) (kb_Qi D vwCl sz (bW cI cQ a nb Q L z0) r (bW cI cQ a nb Q L z')) 0 0 (va_A (bW cI cQ a nb Q L z0) sz) := by
  refine kb_start (by decide) rfl (Nat.le_of_ble_eq_true rfl) ?_
  intro p e s m args below meth c A ls S hr hlk hsz hA w hl
  have hl : lv_has ls 2 [(0, .ref (a 11)), (1, .int x1)] := hl
  unfold pC_hasBank at h
  refine lv_iload_n S.1 S.2.1 dC_hasBank_0 rfl (lv_at hl 1 rfl) ?_
  refine lv_if_lt (tgt := 17) S.1 S.2.1 dC_hasBank_1 (by decide) (fun hc => ?_) (fun hc => ?_)
  · have h := (kb_brt hc).symm.trans h
    refine lv_iconst (v := 0) S.1 S.2.1 dC_hasBank_17 (by decide) ?_
    exact kb_zret (bW cI cQ a nb Q L) S hr hlk hA w h (by decide) dC_hasBank_18
  · have h := (kb_brf hc).symm.trans h
    refine lv_iload_n S.1 S.2.1 dC_hasBank_4 rfl (lv_at hl 1 rfl) ?_
    refine lv_aload_n S.1 S.2.1 dC_hasBank_5 rfl (lv_at hl 0 rfl) ?_
    refine kb_get S w 11 rfl fC_15 rfl dC_hasBank_6 ?_
    refine W.eq (g2 := F0 m 9 ls [.ref (a 12), .int x1]) rfl ?_
    refine kb_alen S w 12 0 rfl rfl rfl dC_hasBank_9 ?_
    refine W.eq (g2 := F0 m 10 ls [.int (nI nb), .int x1]) rfl ?_
    refine lv_icmp_ge (tgt := 17) S.1 S.2.1 dC_hasBank_10 (by decide) (fun hc => ?_) (fun hc => ?_)
    · have h := (kb_brt hc).symm.trans h
      refine lv_iconst (v := 0) S.1 S.2.1 dC_hasBank_17 (by decide) ?_
      exact kb_zret (bW cI cQ a nb Q L) S hr hlk hA w h (by decide) dC_hasBank_18
    · have h := (kb_brf hc).symm.trans h
      refine lv_iconst (v := 1) S.1 S.2.1 dC_hasBank_13 (by decide) ?_
      refine lv_goto (tgt := 18) S.1 S.2.1 dC_hasBank_14 (by decide) ?_
      exact kb_zret (bW cI cQ a nb Q L) S hr hlk hA w h (by decide) dC_hasBank_18
set_option maxHeartbeats 4000000 in
set_option maxRecDepth 100000 in
theorem cB_isRow (l : Launch) (D : va_G) (cI cQ : ClassId) (a : Nat → Nat) (nb Q : Nat) (L : List Nat) (z0 z' : kc_S) (r : Int32) (sz : Nat) (x0 : Int32) (h : pB_isRow nb Q L x0 z0 = some (r, z')) : Met l y_B_isRow (Cond.code y_B_isRow c_B_isRow 1 (some .boolean) :: wsB) rm_B_isRow (kb_Pc D vwCl [(cI, .int), (cQ, .object RReq)] sz [.int x0] (bW cI cQ a nb Q L z0)) (kb_Qi D vwCl sz (bW cI cQ a nb Q L z0) r (bW cI cQ a nb Q L z')) 0 0 (va_A (bW cI cQ a nb Q L z0) sz) := by
  refine kb_start (by decide) rfl (Nat.le_of_ble_eq_true rfl) ?_
  intro p e s m args below meth c A ls S hr hlk hsz hA w hl
  have hl : lv_has ls 1 [(0, .int x0)] := hl
  unfold pB_isRow at h
  refine lv_iload_n S.1 S.2.1 dB_isRow_0 rfl (lv_at hl 0 rfl) ?_
  refine lv_if_lt (tgt := 14) S.1 S.2.1 dB_isRow_1 (by decide) (fun hc => ?_) (fun hc => ?_)
  · have h := (kb_brt hc).symm.trans h
    refine lv_iconst (v := 0) S.1 S.2.1 dB_isRow_14 (by decide) ?_
    exact kb_zret (bW cI cQ a nb Q L) S hr hlk hA w h (by decide) dB_isRow_15
  · have h := (kb_brf hc).symm.trans h
    refine lv_iload_n S.1 S.2.1 dB_isRow_4 rfl (lv_at hl 0 rfl) ?_
    refine lv_bipush (v := 16) S.1 S.2.1 dB_isRow_5 (by decide) ?_
    refine lv_icmp_ge (tgt := 14) S.1 S.2.1 dB_isRow_7 (by decide) (fun hc => ?_) (fun hc => ?_)
    · have h := (kb_brt hc).symm.trans h
      refine lv_iconst (v := 0) S.1 S.2.1 dB_isRow_14 (by decide) ?_
      exact kb_zret (bW cI cQ a nb Q L) S hr hlk hA w h (by decide) dB_isRow_15
    · have h := (kb_brf hc).symm.trans h
      refine lv_iconst (v := 1) S.1 S.2.1 dB_isRow_10 (by decide) ?_
      refine lv_goto (tgt := 15) S.1 S.2.1 dB_isRow_11 (by decide) ?_
      exact kb_zret (bW cI cQ a nb Q L) S hr hlk hA w h (by decide) dB_isRow_15
set_option maxHeartbeats 4000000 in
set_option maxRecDepth 100000 in
theorem cB_wordPlace (l : Launch) (D : va_G) (cI cQ : ClassId) (a : Nat → Nat) (nb Q : Nat) (L : List Nat) (z0 z' : kc_S) (r : Int32) (sz : Nat) (x0 : Int32) (x1 : Int32) (x2 : Int32) (h : pB_wordPlace nb Q L x0 x1 x2 z0 = some (r, z')) : Met l y_B_wordPlace (Cond.code y_B_wordPlace c_B_wordPlace 3 (some .int) :: wsB) rm_B_wordPlace (kb_Pc D vwCl [(cI, .int), (cQ, .object RReq)] sz [.int x0, .int x1, .int x2] (bW cI cQ a nb Q L z0)) (kb_Qi D vwCl sz (bW cI cQ a nb Q L z0) r (bW cI cQ a nb Q L z')) 0 0 (va_A (bW cI cQ a nb Q L z0) sz) := by
  refine kb_start (by decide) rfl (Nat.le_of_ble_eq_true rfl) ?_
  intro p e s m args below meth c A ls S hr hlk hsz hA w hl
  have hl : lv_has ls 3 [(0, .int x0), (1, .int x1), (2, .int x2)] := hl
  unfold pB_wordPlace at h
  refine lv_iload_n S.1 S.2.1 dB_wordPlace_0 rfl (lv_at hl 0 rfl) ?_
  refine lv_bipush (v := 16) S.1 S.2.1 dB_wordPlace_1 (by decide) ?_
  refine lv_imul S.1 S.2.1 dB_wordPlace_3 ?_
  refine lv_iload_n S.1 S.2.1 dB_wordPlace_4 rfl (lv_at hl 1 rfl) ?_
  refine lv_iadd S.1 S.2.1 dB_wordPlace_5 ?_
  refine lv_bipush (v := 8) S.1 S.2.1 dB_wordPlace_6 (by decide) ?_
  refine lv_imul S.1 S.2.1 dB_wordPlace_8 ?_
  refine lv_iload_n S.1 S.2.1 dB_wordPlace_9 rfl (lv_at hl 2 rfl) ?_
  refine lv_iadd S.1 S.2.1 dB_wordPlace_10 ?_
  exact kb_iret (bW cI cQ a nb Q L) S hr hlk hA w h dB_wordPlace_11
set_option maxHeartbeats 4000000 in
set_option maxRecDepth 100000 in
theorem cB_enqueue (l : Launch) (D : va_G) (cI cQ : ClassId) (a : Nat → Nat) (nb Q : Nat) (L : List Nat) (z0 z' : kc_S) (r : Int32) (sz : Nat) (x1 : Int32) (x2 : Int32) (x3 : Int32) (x4 : Int32) (x5 : Int32) (h : pB_enqueue nb Q L x1 x2 x3 x4 x5 z0 = some (r, z')) : Met l y_B_enqueue (Cond.code y_B_enqueue c_B_enqueue 7 (some .int) :: wsB) rm_B_enqueue (kb_Pc D vwCl [(cI, .int), (cQ, .object RReq)] sz [.ref (a 0), .int x1, .int x2, .int x3, .int x4, .int x5] (bW cI cQ a nb Q L z0)) (kb_Qi D vwCl sz (bW cI cQ a nb Q L z0) r (bW cI cQ a nb Q L z')) 0 0 (va_A (bW cI cQ a nb Q L z0) sz) := by
  refine kb_start (by decide) rfl (Nat.le_of_ble_eq_true rfl) ?_
  intro p e s m args below meth c A ls S hr hlk hsz hA w hl
  have hl : lv_has ls 7 [(0, .ref (a 0)), (1, .int x1), (2, .int x2), (3, .int x3), (4, .int x4), (5, .int x5)] := hl
  unfold pB_enqueue at h
  refine lv_aload_n S.1 S.2.1 dB_enqueue_0 rfl (lv_at hl 0 rfl) ?_
  refine kb_get S w 0 rfl fB_51 rfl dB_enqueue_1 ?_
  refine W.eq (g2 := F0 m 4 ls [.ref (a 21)]) rfl ?_
  refine lv_aload_n S.1 S.2.1 dB_enqueue_4 rfl (lv_at hl 0 rfl) ?_
  refine kb_get S w 0 rfl fB_134 rfl dB_enqueue_5 ?_
  refine W.eq (g2 := F0 m 8 ls [.int (z0.1 0 1), .ref (a 21)]) rfl ?_
  obtain ⟨hi1, h⟩ := kb_ck_of h
  refine kb_ald S w 21 1 rfl rfl hi1 dB_enqueue_8 ?_
  refine W.eq (g2 := F0 m 9 ls [.ref (z0.2.1 (kb_ix (z0.1 0 1)))]) rfl ?_
  refine lv_astore S.1 S.2.1 dB_enqueue_9 hl (by decide) rfl (fun ls hl => ?_)
  have hl : lv_has ls 7 [(6, .ref (z0.2.1 (kb_ix (z0.1 0 1)))), (0, .ref (a 0)), (1, .int x1), (2, .int x2), (3, .int x3), (4, .int x4), (5, .int x5)] := hl
  refine lv_aload S.1 S.2.1 dB_enqueue_11 (lv_at hl 0 rfl) ?_
  refine lv_iload_n S.1 S.2.1 dB_enqueue_13 rfl (lv_at hl 2 rfl) ?_
  obtain ⟨hm4, h⟩ := kb_ck_of h
  obtain ⟨k5, hq6⟩ := va_pl_get (X := bX cI cQ a nb Q z0) (f := kc_F z0.2.2) hm4
  obtain ⟨z2, hz3, h⟩ := kb_st_of h
  refine kb_puti S w k5 hq6 gB_175 (Nat.le_of_ble_eq_true rfl) (ws1 := bW cI cQ a nb Q L z2) (by rw [hz3]; exact kc_put (by decide) w.2.2.1 hm4 hq6) dB_enqueue_14 (fun H locs w => ?_)
  refine lv_aload S.1 S.2.1 dB_enqueue_17 (lv_at hl 0 rfl) ?_
  refine lv_iload_n S.1 S.2.1 dB_enqueue_19 rfl (lv_at hl 3 rfl) ?_
  obtain ⟨hm9, h⟩ := kb_ck_of h
  obtain ⟨k10, hq11⟩ := va_pl_get (X := bX cI cQ a nb Q z2) (f := kc_F z2.2.2) hm9
  obtain ⟨z7, hz8, h⟩ := kb_st_of h
  refine kb_puti S w k10 hq11 gB_178 (Nat.le_of_ble_eq_true rfl) (ws1 := bW cI cQ a nb Q L z7) (by rw [hz8]; exact kc_put (by decide) w.2.2.1 hm9 hq11) dB_enqueue_20 (fun H locs w => ?_)
  refine lv_aload S.1 S.2.1 dB_enqueue_23 (lv_at hl 0 rfl) ?_
  refine lv_iload_n S.1 S.2.1 dB_enqueue_25 rfl (lv_at hl 4 rfl) ?_
  obtain ⟨hm14, h⟩ := kb_ck_of h
  obtain ⟨k15, hq16⟩ := va_pl_get (X := bX cI cQ a nb Q z7) (f := kc_F z7.2.2) hm14
  obtain ⟨z12, hz13, h⟩ := kb_st_of h
  refine kb_puti S w k15 hq16 gB_181 (Nat.le_of_ble_eq_true rfl) (ws1 := bW cI cQ a nb Q L z12) (by rw [hz13]; exact kc_put (by decide) w.2.2.1 hm14 hq16) dB_enqueue_26 (fun H locs w => ?_)
  refine lv_aload S.1 S.2.1 dB_enqueue_29 (lv_at hl 0 rfl) ?_
  refine lv_iload_n S.1 S.2.1 dB_enqueue_31 rfl (lv_at hl 3 rfl) ?_
  refine lv_iload_n S.1 S.2.1 dB_enqueue_32 rfl (lv_at hl 4 rfl) ?_
  refine lv_iload S.1 S.2.1 dB_enqueue_33 (lv_at hl 5 rfl) ?_
  obtain ⟨r18, z17, hc19, h⟩ := kb_cl_of h
  refine kb_callS (As := [.int x2, .int x3, .int x4]) (rest := [.ref (z0.2.1 (kb_ix (z0.1 0 1)))]) S w (fun sz => cB_wordPlace l D cI cQ a nb Q L _ _ _ sz x2 x3 x4 hc19) Y_B_wordPlace T_B_wordPlace lB_122 ⟨rfl, rfl, Nat.le_of_ble_eq_true rfl, Nat.le_of_ble_eq_true rfl⟩ rfl hl.1 rfl (Nat.le_of_ble_eq_true rfl) dB_enqueue_35 ⟨Nat.le_of_ble_eq_true rfl, Nat.le_of_ble_eq_true rfl⟩ (fun H locs w => ?_)
  obtain ⟨hm22, h⟩ := kb_ck_of h
  obtain ⟨k23, hq24⟩ := va_pl_get (X := bX cI cQ a nb Q z17) (f := kc_F z17.2.2) hm22
  obtain ⟨z20, hz21, h⟩ := kb_st_of h
  refine kb_puti S w k23 hq24 gB_184 (Nat.le_of_ble_eq_true rfl) (ws1 := bW cI cQ a nb Q L z20) (by rw [hz21]; exact kc_put (by decide) w.2.2.1 hm22 hq24) dB_enqueue_38 (fun H locs w => ?_)
  refine lv_aload S.1 S.2.1 dB_enqueue_41 (lv_at hl 0 rfl) ?_
  refine lv_iload S.1 S.2.1 dB_enqueue_43 (lv_at hl 6 rfl) ?_
  obtain ⟨hm27, h⟩ := kb_ck_of h
  obtain ⟨k28, hq29⟩ := va_pl_get (X := bX cI cQ a nb Q z20) (f := kc_F z20.2.2) hm27
  obtain ⟨z25, hz26, h⟩ := kb_st_of h
  refine kb_puti S w k28 hq29 gB_187 (Nat.le_of_ble_eq_true rfl) (ws1 := bW cI cQ a nb Q L z25) (by rw [hz26]; exact kc_put (by decide) w.2.2.1 hm27 hq29) dB_enqueue_45 (fun H locs w => ?_)
  refine lv_aload S.1 S.2.1 dB_enqueue_48 (lv_at hl 0 rfl) ?_
  refine lv_aload_n S.1 S.2.1 dB_enqueue_50 rfl (lv_at hl 1 rfl) ?_
  refine kb_get S w 0 rfl fB_108 rfl dB_enqueue_51 ?_
  refine W.eq (g2 := F0 m 54 ls [.int (z25.1 0 2), .ref (z0.2.1 (kb_ix (z0.1 0 1)))]) rfl ?_
  obtain ⟨hm32, h⟩ := kb_ck_of h
  obtain ⟨k33, hq34⟩ := va_pl_get (X := bX cI cQ a nb Q z25) (f := kc_F z25.2.2) hm32
  obtain ⟨z30, hz31, h⟩ := kb_st_of h
  refine kb_puti S w k33 hq34 gB_139 (Nat.le_of_ble_eq_true rfl) (ws1 := bW cI cQ a nb Q L z30) (by rw [hz31]; exact kc_put (by decide) w.2.2.1 hm32 hq34) dB_enqueue_54 (fun H locs w => ?_)
  refine lv_aload S.1 S.2.1 dB_enqueue_57 (lv_at hl 0 rfl) ?_
  refine lv_aload_n S.1 S.2.1 dB_enqueue_59 rfl (lv_at hl 1 rfl) ?_
  refine kb_get S w 0 rfl fB_42 rfl dB_enqueue_60 ?_
  refine W.eq (g2 := F0 m 63 ls [.ref (a 3), .ref (z0.2.1 (kb_ix (z0.1 0 1)))]) rfl ?_
  refine kb_get S w 3 rfl fB_80 rfl dB_enqueue_63 ?_
  refine W.eq (g2 := F0 m 66 ls [.int (z30.1 3 3), .ref (z0.2.1 (kb_ix (z0.1 0 1)))]) rfl ?_
  obtain ⟨hm37, h⟩ := kb_ck_of h
  obtain ⟨k38, hq39⟩ := va_pl_get (X := bX cI cQ a nb Q z30) (f := kc_F z30.2.2) hm37
  obtain ⟨z35, hz36, h⟩ := kb_st_of h
  refine kb_puti S w k38 hq39 gB_190 (Nat.le_of_ble_eq_true rfl) (ws1 := bW cI cQ a nb Q L z35) (by rw [hz36]; exact kc_put (by decide) w.2.2.1 hm37 hq39) dB_enqueue_66 (fun H locs w => ?_)
  refine lv_aload_n S.1 S.2.1 dB_enqueue_69 rfl (lv_at hl 1 rfl) ?_
  refine lv_dup S.1 S.2.1 dB_enqueue_70 rfl ?_
  refine kb_get S w 0 rfl fB_134 rfl dB_enqueue_71 ?_
  refine W.eq (g2 := F0 m 74 ls [.int (z35.1 0 1), .ref (a 0)]) rfl ?_
  refine lv_iconst (v := 1) S.1 S.2.1 dB_enqueue_74 (by decide) ?_
  refine lv_iadd S.1 S.2.1 dB_enqueue_75 ?_
  obtain ⟨z40, hz41, h⟩ := kb_st_of h
  refine kb_puti S w 0 rfl gB_134 (Nat.le_of_ble_eq_true rfl) (ws1 := bW cI cQ a nb Q L z40) (by rw [hz41]; rfl) dB_enqueue_76 (fun H locs w => ?_)
  refine lv_aload_n S.1 S.2.1 dB_enqueue_79 rfl (lv_at hl 1 rfl) ?_
  refine lv_dup S.1 S.2.1 dB_enqueue_80 rfl ?_
  refine kb_get S w 0 rfl fB_108 rfl dB_enqueue_81 ?_
  refine W.eq (g2 := F0 m 84 ls [.int (z40.1 0 2), .ref (a 0)]) rfl ?_
  refine lv_iconst (v := 1) S.1 S.2.1 dB_enqueue_84 (by decide) ?_
  refine lv_iadd S.1 S.2.1 dB_enqueue_85 ?_
  obtain ⟨z42, hz43, h⟩ := kb_st_of h
  refine kb_puti S w 0 rfl gB_108 (Nat.le_of_ble_eq_true rfl) (ws1 := bW cI cQ a nb Q L z42) (by rw [hz43]; rfl) dB_enqueue_86 (fun H locs w => ?_)
  refine lv_aload_n S.1 S.2.1 dB_enqueue_89 rfl (lv_at hl 1 rfl) ?_
  refine kb_get S w 0 rfl fB_59 rfl dB_enqueue_90 ?_
  refine W.eq (g2 := F0 m 93 ls [.ref (a 20)]) rfl ?_
  refine lv_aload S.1 S.2.1 dB_enqueue_93 (lv_at hl 0 rfl) ?_
  obtain ⟨hm44, h⟩ := kb_ck_of h
  obtain ⟨k45, hq46⟩ := va_pl_get (X := bX cI cQ a nb Q z42) (f := kc_F z42.2.2) hm44
  refine kb_get S w k45 hq46 fB_139 rfl dB_enqueue_95 ?_
  refine W.eq (g2 := F0 m 98 ls [.int (z42.2.2 (z0.2.1 (kb_ix (z0.1 0 1))) 5), .ref (a 20)]) rfl ?_
  refine lv_bipush (v := 31) S.1 S.2.1 dB_enqueue_98 (by decide) ?_
  refine lv_iand S.1 S.2.1 dB_enqueue_100 ?_
  refine lv_ldc (v := 2147483647) S.1 S.2.1 S.2.2.2.1 (S.2.2.2.2 _ kB_193) dB_enqueue_101 ?_
  obtain ⟨hi47, h⟩ := kb_ck_of h
  obtain ⟨z48, hz49, h⟩ := kb_st_of h
  refine kb_iast S w 20 0 rfl rfl hi47 (ws1 := bW cI cQ a nb Q L z48) (by rw [hz49]; rfl) dB_enqueue_103 (fun H locs w => ?_)
  refine lv_aload S.1 S.2.1 dB_enqueue_104 (lv_at hl 0 rfl) ?_
  obtain ⟨hm50, h⟩ := kb_ck_of h
  obtain ⟨k51, hq52⟩ := va_pl_get (X := bX cI cQ a nb Q z48) (f := kc_F z48.2.2) hm50
  refine kb_get S w k51 hq52 fB_139 rfl dB_enqueue_106 ?_
  refine W.eq (g2 := F0 m 109 ls [.int (z48.2.2 (z0.2.1 (kb_ix (z0.1 0 1))) 5)]) rfl ?_
  exact kb_iret (bW cI cQ a nb Q L) S hr hlk hA w h dB_enqueue_109
set_option maxHeartbeats 4000000 in
set_option maxRecDepth 100000 in
theorem cB_refreshIsDue (l : Launch) (D : va_G) (cI cQ : ClassId) (a : Nat → Nat) (nb Q : Nat) (L : List Nat) (z0 z' : kc_S) (r : Int32) (sz : Nat) (h : pB_refreshIsDue nb Q L  z0 = some (r, z')) : Met l y_B_refreshIsDue (Cond.code y_B_refreshIsDue c_B_refreshIsDue 2 (some .boolean) :: wsB) rm_B_refreshIsDue (kb_Pc D vwCl [(cI, .int), (cQ, .object RReq)] sz [.ref (a 0)] (bW cI cQ a nb Q L z0)) (kb_Qi D vwCl sz (bW cI cQ a nb Q L z0) r (bW cI cQ a nb Q L z')) 0 0 (va_A (bW cI cQ a nb Q L z0) sz) := by
  refine kb_start (by decide) rfl (Nat.le_of_ble_eq_true rfl) ?_
  intro p e s m args below meth c A ls S hr hlk hsz hA w hl
  have hl : lv_has ls 2 [(0, .ref (a 0))] := hl
  unfold pB_refreshIsDue at h
  have J22 : ∀ (s0 : Int32) (z : kc_S) (H : Heap) (locs : List Loc) (ls : Array Slot), lv_has ls 2 [(0, .ref (a 0))] → kb_W D vwCl [(cI, .int), (cQ, .object RReq)] A s H locs (bW cI cQ a nb Q L z) → pB_refreshIsDue_J22 nb Q L s0 z = some (r, z') → W p l e rm_B_refreshIsDue s m args below meth c H locs 0 0 (MQ below (kb_Qi D vwCl sz (bW cI cQ a nb Q L z0) r (bW cI cQ a nb Q L z')) args s 0 0 (va_A (bW cI cQ a nb Q L z0) sz)) (F0 m 22 ls [.int s0]) := by
    intro s0 z H locs ls hl w h
    unfold pB_refreshIsDue_J22 at h
    refine lv_istore_n S.1 S.2.1 dB_refreshIsDue_22 rfl hl (by decide) rfl (fun ls hl => ?_)
    have hl : lv_has ls 2 [(1, .int s0), (0, .ref (a 0))] := hl
    refine lv_aload_n S.1 S.2.1 dB_refreshIsDue_23 rfl (lv_at hl 1 rfl) ?_
    refine kb_get S w 0 rfl fB_42 rfl dB_refreshIsDue_24 ?_
    refine W.eq (g2 := F0 m 27 ls [.ref (a 3)]) rfl ?_
    refine kb_get S w 3 rfl fB_80 rfl dB_refreshIsDue_27 ?_
    refine W.eq (g2 := F0 m 30 ls [.int (z.1 3 3)]) rfl ?_
    refine lv_iload_n S.1 S.2.1 dB_refreshIsDue_30 rfl (lv_at hl 0 rfl) ?_
    refine lv_isub S.1 S.2.1 dB_refreshIsDue_31 ?_
    refine lv_aload_n S.1 S.2.1 dB_refreshIsDue_32 rfl (lv_at hl 1 rfl) ?_
    refine kb_get S w 0 rfl fB_31 rfl dB_refreshIsDue_33 ?_
    refine W.eq (g2 := F0 m 36 ls [.ref (a 1), .int ((z.1 3 3) - s0)]) rfl ?_
    refine lv_bipush (v := 10) S.1 S.2.1 dB_refreshIsDue_36 (by decide) ?_
    obtain ⟨hi1, h⟩ := kb_ck_of h
    refine kb_iald S w 1 0 rfl rfl hi1 dB_refreshIsDue_38 ?_
    refine W.eq (g2 := F0 m 39 ls [.int (z.1 1 (kb_ix (10))), .int ((z.1 3 3) - s0)]) rfl ?_
    refine lv_icmp_lt (tgt := 46) S.1 S.2.1 dB_refreshIsDue_39 (by decide) (fun hc => ?_) (fun hc => ?_)
    · have h := (kb_brt hc).symm.trans h
      refine lv_iconst (v := 0) S.1 S.2.1 dB_refreshIsDue_46 (by decide) ?_
      exact kb_zret (bW cI cQ a nb Q L) S hr hlk hA w h (by decide) dB_refreshIsDue_47
    · have h := (kb_brf hc).symm.trans h
      refine lv_iconst (v := 1) S.1 S.2.1 dB_refreshIsDue_42 (by decide) ?_
      refine lv_goto (tgt := 47) S.1 S.2.1 dB_refreshIsDue_43 (by decide) ?_
      exact kb_zret (bW cI cQ a nb Q L) S hr hlk hA w h (by decide) dB_refreshIsDue_47
  refine lv_aload_n S.1 S.2.1 dB_refreshIsDue_0 rfl (lv_at hl 0 rfl) ?_
  refine kb_get S w 0 rfl fB_42 rfl dB_refreshIsDue_1 ?_
  refine W.eq (g2 := F0 m 4 ls [.ref (a 3)]) rfl ?_
  refine kb_get S w 3 rfl fB_148 rfl dB_refreshIsDue_4 ?_
  refine W.eq (g2 := F0 m 7 ls [.int (z0.1 3 2)]) rfl ?_
  refine lv_iconst (v := (-1)) S.1 S.2.1 dB_refreshIsDue_7 (by decide) ?_
  refine lv_icmp_ne (tgt := 15) S.1 S.2.1 dB_refreshIsDue_8 (by decide) (fun hc => ?_) (fun hc => ?_)
  · have h := (kb_brf hc).symm.trans h
    refine lv_aload_n S.1 S.2.1 dB_refreshIsDue_15 rfl (lv_at hl 0 rfl) ?_
    refine kb_get S w 0 rfl fB_42 rfl dB_refreshIsDue_16 ?_
    refine W.eq (g2 := F0 m 19 ls [.ref (a 3)]) rfl ?_
    refine kb_get S w 3 rfl fB_148 rfl dB_refreshIsDue_19 ?_
    refine W.eq (g2 := F0 m 22 ls [.int (z0.1 3 2)]) rfl ?_
    exact J22 (z0.1 3 2) z0 _ _ _ (lv_sub hl [0] rfl) w h
  · have h := (kb_brt hc).symm.trans h
    refine lv_iconst (v := 0) S.1 S.2.1 dB_refreshIsDue_11 (by decide) ?_
    refine lv_goto (tgt := 22) S.1 S.2.1 dB_refreshIsDue_12 (by decide) ?_
    exact J22 0 z0 _ _ _ (lv_sub hl [0] rfl) w h
set_option maxHeartbeats 4000000 in
set_option maxRecDepth 100000 in
theorem cC_isTooSoon_3 (l : Launch) (D : va_G) (cI cQ : ClassId) (a : Nat → Nat) (nb Q : Nat) (L : List Nat) (z0 z' : kc_S) (r : Int32) (sz : Nat) (x1 : Int32) (x2 : Int32) (h : pC_isTooSoon 3 nb Q L x1 x2 z0 = some (r, z')) : Met l y_C_isTooSoon (Cond.code y_C_isTooSoon c_C_isTooSoon 3 (some .boolean) :: wsB) rm_C_isTooSoon (kb_Pc D vwCl [(cI, .int), (cQ, .object RReq)] sz [.ref (a 3), .int x1, .int x2] (bW cI cQ a nb Q L z0)) (kb_Qi D vwCl sz (bW cI cQ a nb Q L z0) r (bW cI cQ a nb Q L z')) 0 0 (va_A (bW cI cQ a nb Q L z0) sz) := by
  refine kb_start (by decide) rfl (Nat.le_of_ble_eq_true rfl) ?_
  intro p e s m args below meth c A ls S hr hlk hsz hA w hl
  have hl : lv_has ls 3 [(0, .ref (a 3)), (1, .int x1), (2, .int x2)] := hl
  unfold pC_isTooSoon at h
  refine lv_iload_n S.1 S.2.1 dC_isTooSoon_0 rfl (lv_at hl 2 rfl) ?_
  refine lv_iconst (v := (-1)) S.1 S.2.1 dC_isTooSoon_1 (by decide) ?_
  refine lv_icmp_eq (tgt := 24) S.1 S.2.1 dC_isTooSoon_2 (by decide) (fun hc => ?_) (fun hc => ?_)
  · have h := (kb_brt hc).symm.trans h
    refine lv_iconst (v := 0) S.1 S.2.1 dC_isTooSoon_24 (by decide) ?_
    exact kb_zret (bW cI cQ a nb Q L) S hr hlk hA w h (by decide) dC_isTooSoon_25
  · have h := (kb_brf hc).symm.trans h
    refine lv_aload_n S.1 S.2.1 dC_isTooSoon_5 rfl (lv_at hl 0 rfl) ?_
    refine kb_get S w 3 rfl fC_69 rfl dC_isTooSoon_6 ?_
    refine W.eq (g2 := F0 m 9 ls [.int (z0.1 3 3)]) rfl ?_
    refine lv_iload_n S.1 S.2.1 dC_isTooSoon_9 rfl (lv_at hl 2 rfl) ?_
    refine lv_isub S.1 S.2.1 dC_isTooSoon_10 ?_
    refine lv_aload_n S.1 S.2.1 dC_isTooSoon_11 rfl (lv_at hl 0 rfl) ?_
    refine kb_get S w 3 rfl fC_9 rfl dC_isTooSoon_12 ?_
    refine W.eq (g2 := F0 m 15 ls [.ref (a 1), .int ((z0.1 3 3) - x2)]) rfl ?_
    refine lv_iload_n S.1 S.2.1 dC_isTooSoon_15 rfl (lv_at hl 1 rfl) ?_
    obtain ⟨hi1, h⟩ := kb_ck_of h
    refine kb_iald S w 1 0 rfl rfl hi1 dC_isTooSoon_16 ?_
    refine W.eq (g2 := F0 m 17 ls [.int (z0.1 1 (kb_ix (x1))), .int ((z0.1 3 3) - x2)]) rfl ?_
    refine lv_icmp_ge (tgt := 24) S.1 S.2.1 dC_isTooSoon_17 (by decide) (fun hc => ?_) (fun hc => ?_)
    · have h := (kb_brt hc).symm.trans h
      refine lv_iconst (v := 0) S.1 S.2.1 dC_isTooSoon_24 (by decide) ?_
      exact kb_zret (bW cI cQ a nb Q L) S hr hlk hA w h (by decide) dC_isTooSoon_25
    · have h := (kb_brf hc).symm.trans h
      refine lv_iconst (v := 1) S.1 S.2.1 dC_isTooSoon_20 (by decide) ?_
      refine lv_goto (tgt := 25) S.1 S.2.1 dC_isTooSoon_21 (by decide) ?_
      exact kb_zret (bW cI cQ a nb Q L) S hr hlk hA w h (by decide) dC_isTooSoon_25
set_option maxHeartbeats 4000000 in
set_option maxRecDepth 100000 in
theorem cC_isTooSoon_11 (l : Launch) (D : va_G) (cI cQ : ClassId) (a : Nat → Nat) (nb Q : Nat) (L : List Nat) (z0 z' : kc_S) (r : Int32) (sz : Nat) (x1 : Int32) (x2 : Int32) (h : pC_isTooSoon 11 nb Q L x1 x2 z0 = some (r, z')) : Met l y_C_isTooSoon (Cond.code y_C_isTooSoon c_C_isTooSoon 3 (some .boolean) :: wsB) rm_C_isTooSoon (kb_Pc D vwCl [(cI, .int), (cQ, .object RReq)] sz [.ref (a 11), .int x1, .int x2] (bW cI cQ a nb Q L z0)) (kb_Qi D vwCl sz (bW cI cQ a nb Q L z0) r (bW cI cQ a nb Q L z')) 0 0 (va_A (bW cI cQ a nb Q L z0) sz) := by
  refine kb_start (by decide) rfl (Nat.le_of_ble_eq_true rfl) ?_
  intro p e s m args below meth c A ls S hr hlk hsz hA w hl
  have hl : lv_has ls 3 [(0, .ref (a 11)), (1, .int x1), (2, .int x2)] := hl
  unfold pC_isTooSoon at h
  refine lv_iload_n S.1 S.2.1 dC_isTooSoon_0 rfl (lv_at hl 2 rfl) ?_
  refine lv_iconst (v := (-1)) S.1 S.2.1 dC_isTooSoon_1 (by decide) ?_
  refine lv_icmp_eq (tgt := 24) S.1 S.2.1 dC_isTooSoon_2 (by decide) (fun hc => ?_) (fun hc => ?_)
  · have h := (kb_brt hc).symm.trans h
    refine lv_iconst (v := 0) S.1 S.2.1 dC_isTooSoon_24 (by decide) ?_
    exact kb_zret (bW cI cQ a nb Q L) S hr hlk hA w h (by decide) dC_isTooSoon_25
  · have h := (kb_brf hc).symm.trans h
    refine lv_aload_n S.1 S.2.1 dC_isTooSoon_5 rfl (lv_at hl 0 rfl) ?_
    refine kb_get S w 11 rfl fC_69 rfl dC_isTooSoon_6 ?_
    refine W.eq (g2 := F0 m 9 ls [.int (z0.1 11 3)]) rfl ?_
    refine lv_iload_n S.1 S.2.1 dC_isTooSoon_9 rfl (lv_at hl 2 rfl) ?_
    refine lv_isub S.1 S.2.1 dC_isTooSoon_10 ?_
    refine lv_aload_n S.1 S.2.1 dC_isTooSoon_11 rfl (lv_at hl 0 rfl) ?_
    refine kb_get S w 11 rfl fC_9 rfl dC_isTooSoon_12 ?_
    refine W.eq (g2 := F0 m 15 ls [.ref (a 1), .int ((z0.1 11 3) - x2)]) rfl ?_
    refine lv_iload_n S.1 S.2.1 dC_isTooSoon_15 rfl (lv_at hl 1 rfl) ?_
    obtain ⟨hi1, h⟩ := kb_ck_of h
    refine kb_iald S w 1 0 rfl rfl hi1 dC_isTooSoon_16 ?_
    refine W.eq (g2 := F0 m 17 ls [.int (z0.1 1 (kb_ix (x1))), .int ((z0.1 11 3) - x2)]) rfl ?_
    refine lv_icmp_ge (tgt := 24) S.1 S.2.1 dC_isTooSoon_17 (by decide) (fun hc => ?_) (fun hc => ?_)
    · have h := (kb_brt hc).symm.trans h
      refine lv_iconst (v := 0) S.1 S.2.1 dC_isTooSoon_24 (by decide) ?_
      exact kb_zret (bW cI cQ a nb Q L) S hr hlk hA w h (by decide) dC_isTooSoon_25
    · have h := (kb_brf hc).symm.trans h
      refine lv_iconst (v := 1) S.1 S.2.1 dC_isTooSoon_20 (by decide) ?_
      refine lv_goto (tgt := 25) S.1 S.2.1 dC_isTooSoon_21 (by decide) ?_
      exact kb_zret (bW cI cQ a nb Q L) S hr hlk hA w h (by decide) dC_isTooSoon_25
set_option maxHeartbeats 4000000 in
set_option maxRecDepth 100000 in
theorem cC_brokenByRefresh_3 (l : Launch) (D : va_G) (cI cQ : ClassId) (a : Nat → Nat) (nb Q : Nat) (L : List Nat) (z0 z' : kc_S) (r : Int32) (sz : Nat) (h : pC_brokenByRefresh 3 nb Q L  z0 = some (r, z')) : Met l y_C_brokenByRefresh (Cond.code y_C_brokenByRefresh c_C_brokenByRefresh 2 (some .int) :: wsB) rm_C_brokenByRefresh (kb_Pc D vwCl [(cI, .int), (cQ, .object RReq)] sz [.ref (a 3)] (bW cI cQ a nb Q L z0)) (kb_Qi D vwCl sz (bW cI cQ a nb Q L z0) r (bW cI cQ a nb Q L z')) 0 0 (va_A (bW cI cQ a nb Q L z0) sz) := by
  refine kb_start (by decide) rfl (Nat.le_of_ble_eq_true rfl) ?_
  intro p e s m args below meth c A ls S hr hlk hsz hA w hl
  have hl : lv_has ls 2 [(0, .ref (a 3))] := hl
  unfold pC_brokenByRefresh at h
  have L32 : ∀ (n : Nat) (x1 : Int32) (z : kc_S) (H : Heap) (locs : List Loc) (ls : Array Slot), lv_has ls 2 [(0, .ref (a 3)), (1, .int x1)] → kb_W D vwCl [(cI, .int), (cQ, .object RReq)] A s H locs (bW cI cQ a nb Q L z) → pC_brokenByRefresh_L32 3 nb Q L n x1 z = some (r, z') → W p l e rm_C_brokenByRefresh s m args below meth c H locs 0 0 (MQ below (kb_Qi D vwCl sz (bW cI cQ a nb Q L z0) r (bW cI cQ a nb Q L z')) args s 0 0 (va_A (bW cI cQ a nb Q L z0) sz)) (F0 m 32 ls []) := by
    intro n
    induction n with
    | zero =>
      intro x1 z H locs ls hl w h
      exact absurd h (by simp [pC_brokenByRefresh_L32])
    | succ n ih =>
      intro x1 z H locs ls hl w h
      rw [pC_brokenByRefresh_L32] at h
      refine lv_iload_n S.1 S.2.1 dC_brokenByRefresh_32 rfl (lv_at hl 1 rfl) ?_
      refine lv_aload_n S.1 S.2.1 dC_brokenByRefresh_33 rfl (lv_at hl 0 rfl) ?_
      refine kb_get S w 3 rfl fC_15 rfl dC_brokenByRefresh_34 ?_
      refine W.eq (g2 := F0 m 37 ls [.ref (a 4), .int x1]) rfl ?_
      refine kb_alen S w 4 0 rfl rfl rfl dC_brokenByRefresh_37 ?_
      refine W.eq (g2 := F0 m 38 ls [.int (nI nb), .int x1]) rfl ?_
      refine lv_icmp_ge (tgt := 64) S.1 S.2.1 dC_brokenByRefresh_38 (by decide) (fun hc => ?_) (fun hc => ?_)
      · have h := (kb_brt hc).symm.trans h
        refine lv_aload_n S.1 S.2.1 dC_brokenByRefresh_64 rfl (lv_at hl 0 rfl) ?_
        refine lv_bipush (v := 9) S.1 S.2.1 dC_brokenByRefresh_65 (by decide) ?_
        refine lv_aload_n S.1 S.2.1 dC_brokenByRefresh_67 rfl (lv_at hl 0 rfl) ?_
        refine kb_get S w 3 rfl fC_40 rfl dC_brokenByRefresh_68 ?_
        refine W.eq (g2 := F0 m 71 ls [.int (z.1 3 2), .int 9, .ref (a 3)]) rfl ?_
        obtain ⟨r2, z1, hc3, h⟩ := kb_cl_of h
        refine kb_calli (As := [.int 9, .int (z.1 3 2)]) (rest := []) (q0 := 3) (ci := 0) S w (fun sz => cC_isTooSoon_3 l D cI cQ a nb Q L _ _ _ sz 9 (z.1 3 2) hc3) Y_C_isTooSoon I_C_isTooSoon S_C_isTooSoon lC_58 ⟨rfl, rfl, Nat.le_of_ble_eq_true rfl, Nat.le_of_ble_eq_true rfl⟩ rfl rfl rfl rfl hl.1 rfl (Nat.le_of_ble_eq_true rfl) dC_brokenByRefresh_71 ⟨Nat.le_of_ble_eq_true rfl, Nat.le_of_ble_eq_true rfl⟩ (fun H locs w => ?_)
        refine lv_if_eq (tgt := 82) S.1 S.2.1 dC_brokenByRefresh_74 (by decide) (fun hc => ?_) (fun hc => ?_)
        · have h := (kb_brt hc).symm.trans h
          refine lv_iconst (v := 0) S.1 S.2.1 dC_brokenByRefresh_82 (by decide) ?_
          exact kb_iret (bW cI cQ a nb Q L) S hr hlk hA w h dC_brokenByRefresh_83
        · have h := (kb_brf hc).symm.trans h
          refine lv_bipush (v := 16) S.1 S.2.1 dC_brokenByRefresh_77 (by decide) ?_
          refine lv_goto (tgt := 83) S.1 S.2.1 dC_brokenByRefresh_79 (by decide) ?_
          exact kb_iret (bW cI cQ a nb Q L) S hr hlk hA w h dC_brokenByRefresh_83
      · have h := (kb_brf hc).symm.trans h
        refine lv_aload_n S.1 S.2.1 dC_brokenByRefresh_41 rfl (lv_at hl 0 rfl) ?_
        refine lv_iconst (v := 1) S.1 S.2.1 dC_brokenByRefresh_42 (by decide) ?_
        refine lv_aload_n S.1 S.2.1 dC_brokenByRefresh_43 rfl (lv_at hl 0 rfl) ?_
        refine kb_get S w 3 rfl fC_21 rfl dC_brokenByRefresh_44 ?_
        refine W.eq (g2 := F0 m 47 ls [.ref (a 6), .int 1, .ref (a 3)]) rfl ?_
        refine lv_iload_n S.1 S.2.1 dC_brokenByRefresh_47 rfl (lv_at hl 1 rfl) ?_
        obtain ⟨hi4, h⟩ := kb_ck_of h
        refine kb_iald S w 6 0 rfl rfl hi4 dC_brokenByRefresh_48 ?_
        refine W.eq (g2 := F0 m 49 ls [.int (z.1 6 (kb_ix (x1))), .int 1, .ref (a 3)]) rfl ?_
        obtain ⟨r6, z5, hc7, h⟩ := kb_cl_of h
        refine kb_calli (As := [.int 1, .int (z.1 6 (kb_ix (x1)))]) (rest := []) (q0 := 3) (ci := 0) S w (fun sz => cC_isTooSoon_3 l D cI cQ a nb Q L _ _ _ sz 1 (z.1 6 (kb_ix (x1))) hc7) Y_C_isTooSoon I_C_isTooSoon S_C_isTooSoon lC_58 ⟨rfl, rfl, Nat.le_of_ble_eq_true rfl, Nat.le_of_ble_eq_true rfl⟩ rfl rfl rfl rfl hl.1 rfl (Nat.le_of_ble_eq_true rfl) dC_brokenByRefresh_49 ⟨Nat.le_of_ble_eq_true rfl, Nat.le_of_ble_eq_true rfl⟩ (fun H locs w => ?_)
        refine lv_if_eq (tgt := 58) S.1 S.2.1 dC_brokenByRefresh_52 (by decide) (fun hc => ?_) (fun hc => ?_)
        · have h := (kb_brt hc).symm.trans h
          refine lv_iinc (v := x1 + 1) (k := 1) S.1 S.2.1 dC_brokenByRefresh_58 hl rfl rfl (by decide) rfl (fun ls hl => ?_)
          have hl : lv_has ls 2 [(1, .int (x1 + 1)), (0, .ref (a 3))] := hl
          refine lv_goto (tgt := 32) S.1 S.2.1 dC_brokenByRefresh_61 (by decide) ?_
          exact ih (x1 + 1) z5 _ _ _ (lv_sub hl [1, 0] rfl) w h
        · have h := (kb_brf hc).symm.trans h
          refine lv_bipush (v := 15) S.1 S.2.1 dC_brokenByRefresh_55 (by decide) ?_
          exact kb_iret (bW cI cQ a nb Q L) S hr hlk hA w h dC_brokenByRefresh_57
  have L2 : ∀ (n : Nat) (x1 : Int32) (z : kc_S) (H : Heap) (locs : List Loc) (ls : Array Slot), lv_has ls 2 [(0, .ref (a 3)), (1, .int x1)] → kb_W D vwCl [(cI, .int), (cQ, .object RReq)] A s H locs (bW cI cQ a nb Q L z) → pC_brokenByRefresh_L2 3 nb Q L n x1 z = some (r, z') → W p l e rm_C_brokenByRefresh s m args below meth c H locs 0 0 (MQ below (kb_Qi D vwCl sz (bW cI cQ a nb Q L z0) r (bW cI cQ a nb Q L z')) args s 0 0 (va_A (bW cI cQ a nb Q L z0) sz)) (F0 m 2 ls []) := by
    intro n
    induction n with
    | zero =>
      intro x1 z H locs ls hl w h
      exact absurd h (by simp [pC_brokenByRefresh_L2])
    | succ n ih =>
      intro x1 z H locs ls hl w h
      rw [pC_brokenByRefresh_L2] at h
      refine lv_iload_n S.1 S.2.1 dC_brokenByRefresh_2 rfl (lv_at hl 1 rfl) ?_
      refine lv_aload_n S.1 S.2.1 dC_brokenByRefresh_3 rfl (lv_at hl 0 rfl) ?_
      refine kb_get S w 3 rfl fC_15 rfl dC_brokenByRefresh_4 ?_
      refine W.eq (g2 := F0 m 7 ls [.ref (a 4), .int x1]) rfl ?_
      refine kb_alen S w 4 0 rfl rfl rfl dC_brokenByRefresh_7 ?_
      refine W.eq (g2 := F0 m 8 ls [.int (nI nb), .int x1]) rfl ?_
      refine lv_icmp_ge (tgt := 30) S.1 S.2.1 dC_brokenByRefresh_8 (by decide) (fun hc => ?_) (fun hc => ?_)
      · have h := (kb_brt hc).symm.trans h
        refine lv_iconst (v := 0) S.1 S.2.1 dC_brokenByRefresh_30 (by decide) ?_
        refine lv_istore_n S.1 S.2.1 dC_brokenByRefresh_31 rfl hl (by decide) rfl (fun ls hl => ?_)
        have hl : lv_has ls 2 [(1, .int 0), (0, .ref (a 3))] := hl
        exact L32 3000 0 z _ _ _ (lv_sub hl [1, 0] rfl) w h
      · have h := (kb_brf hc).symm.trans h
        refine lv_aload_n S.1 S.2.1 dC_brokenByRefresh_11 rfl (lv_at hl 0 rfl) ?_
        refine kb_get S w 3 rfl fC_15 rfl dC_brokenByRefresh_12 ?_
        refine W.eq (g2 := F0 m 15 ls [.ref (a 4)]) rfl ?_
        refine lv_iload_n S.1 S.2.1 dC_brokenByRefresh_15 rfl (lv_at hl 1 rfl) ?_
        obtain ⟨hi8, h⟩ := kb_ck_of h
        refine kb_iald S w 4 0 rfl rfl hi8 dC_brokenByRefresh_16 ?_
        refine W.eq (g2 := F0 m 17 ls [.int (z.1 4 (kb_ix (x1)))]) rfl ?_
        refine lv_iconst (v := (-1)) S.1 S.2.1 dC_brokenByRefresh_17 (by decide) ?_
        refine lv_icmp_eq (tgt := 24) S.1 S.2.1 dC_brokenByRefresh_18 (by decide) (fun hc => ?_) (fun hc => ?_)
        · have h := (kb_brt hc).symm.trans h
          refine lv_iinc (v := x1 + 1) (k := 1) S.1 S.2.1 dC_brokenByRefresh_24 hl rfl rfl (by decide) rfl (fun ls hl => ?_)
          have hl : lv_has ls 2 [(1, .int (x1 + 1)), (0, .ref (a 3))] := hl
          refine lv_goto (tgt := 2) S.1 S.2.1 dC_brokenByRefresh_27 (by decide) ?_
          exact ih (x1 + 1) z _ _ _ (lv_sub hl [1, 0] rfl) w h
        · have h := (kb_brf hc).symm.trans h
          refine lv_bipush (v := 14) S.1 S.2.1 dC_brokenByRefresh_21 (by decide) ?_
          exact kb_iret (bW cI cQ a nb Q L) S hr hlk hA w h dC_brokenByRefresh_23
  refine lv_iconst (v := 0) S.1 S.2.1 dC_brokenByRefresh_0 (by decide) ?_
  refine lv_istore_n S.1 S.2.1 dC_brokenByRefresh_1 rfl hl (by decide) rfl (fun ls hl => ?_)
  have hl : lv_has ls 2 [(1, .int 0), (0, .ref (a 3))] := hl
  exact L2 3000 0 z0 _ _ _ (lv_sub hl [1, 0] rfl) w h
set_option maxHeartbeats 4000000 in
set_option maxRecDepth 100000 in
theorem cC_brokenByRefresh_11 (l : Launch) (D : va_G) (cI cQ : ClassId) (a : Nat → Nat) (nb Q : Nat) (L : List Nat) (z0 z' : kc_S) (r : Int32) (sz : Nat) (h : pC_brokenByRefresh 11 nb Q L  z0 = some (r, z')) : Met l y_C_brokenByRefresh (Cond.code y_C_brokenByRefresh c_C_brokenByRefresh 2 (some .int) :: wsB) rm_C_brokenByRefresh (kb_Pc D vwCl [(cI, .int), (cQ, .object RReq)] sz [.ref (a 11)] (bW cI cQ a nb Q L z0)) (kb_Qi D vwCl sz (bW cI cQ a nb Q L z0) r (bW cI cQ a nb Q L z')) 0 0 (va_A (bW cI cQ a nb Q L z0) sz) := by
  refine kb_start (by decide) rfl (Nat.le_of_ble_eq_true rfl) ?_
  intro p e s m args below meth c A ls S hr hlk hsz hA w hl
  have hl : lv_has ls 2 [(0, .ref (a 11))] := hl
  unfold pC_brokenByRefresh at h
  have L32 : ∀ (n : Nat) (x1 : Int32) (z : kc_S) (H : Heap) (locs : List Loc) (ls : Array Slot), lv_has ls 2 [(0, .ref (a 11)), (1, .int x1)] → kb_W D vwCl [(cI, .int), (cQ, .object RReq)] A s H locs (bW cI cQ a nb Q L z) → pC_brokenByRefresh_L32 11 nb Q L n x1 z = some (r, z') → W p l e rm_C_brokenByRefresh s m args below meth c H locs 0 0 (MQ below (kb_Qi D vwCl sz (bW cI cQ a nb Q L z0) r (bW cI cQ a nb Q L z')) args s 0 0 (va_A (bW cI cQ a nb Q L z0) sz)) (F0 m 32 ls []) := by
    intro n
    induction n with
    | zero =>
      intro x1 z H locs ls hl w h
      exact absurd h (by simp [pC_brokenByRefresh_L32])
    | succ n ih =>
      intro x1 z H locs ls hl w h
      rw [pC_brokenByRefresh_L32] at h
      refine lv_iload_n S.1 S.2.1 dC_brokenByRefresh_32 rfl (lv_at hl 1 rfl) ?_
      refine lv_aload_n S.1 S.2.1 dC_brokenByRefresh_33 rfl (lv_at hl 0 rfl) ?_
      refine kb_get S w 11 rfl fC_15 rfl dC_brokenByRefresh_34 ?_
      refine W.eq (g2 := F0 m 37 ls [.ref (a 12), .int x1]) rfl ?_
      refine kb_alen S w 12 0 rfl rfl rfl dC_brokenByRefresh_37 ?_
      refine W.eq (g2 := F0 m 38 ls [.int (nI nb), .int x1]) rfl ?_
      refine lv_icmp_ge (tgt := 64) S.1 S.2.1 dC_brokenByRefresh_38 (by decide) (fun hc => ?_) (fun hc => ?_)
      · have h := (kb_brt hc).symm.trans h
        refine lv_aload_n S.1 S.2.1 dC_brokenByRefresh_64 rfl (lv_at hl 0 rfl) ?_
        refine lv_bipush (v := 9) S.1 S.2.1 dC_brokenByRefresh_65 (by decide) ?_
        refine lv_aload_n S.1 S.2.1 dC_brokenByRefresh_67 rfl (lv_at hl 0 rfl) ?_
        refine kb_get S w 11 rfl fC_40 rfl dC_brokenByRefresh_68 ?_
        refine W.eq (g2 := F0 m 71 ls [.int (z.1 11 2), .int 9, .ref (a 11)]) rfl ?_
        obtain ⟨r2, z1, hc3, h⟩ := kb_cl_of h
        refine kb_calli (As := [.int 9, .int (z.1 11 2)]) (rest := []) (q0 := 11) (ci := 0) S w (fun sz => cC_isTooSoon_11 l D cI cQ a nb Q L _ _ _ sz 9 (z.1 11 2) hc3) Y_C_isTooSoon I_C_isTooSoon S_C_isTooSoon lC_58 ⟨rfl, rfl, Nat.le_of_ble_eq_true rfl, Nat.le_of_ble_eq_true rfl⟩ rfl rfl rfl rfl hl.1 rfl (Nat.le_of_ble_eq_true rfl) dC_brokenByRefresh_71 ⟨Nat.le_of_ble_eq_true rfl, Nat.le_of_ble_eq_true rfl⟩ (fun H locs w => ?_)
        refine lv_if_eq (tgt := 82) S.1 S.2.1 dC_brokenByRefresh_74 (by decide) (fun hc => ?_) (fun hc => ?_)
        · have h := (kb_brt hc).symm.trans h
          refine lv_iconst (v := 0) S.1 S.2.1 dC_brokenByRefresh_82 (by decide) ?_
          exact kb_iret (bW cI cQ a nb Q L) S hr hlk hA w h dC_brokenByRefresh_83
        · have h := (kb_brf hc).symm.trans h
          refine lv_bipush (v := 16) S.1 S.2.1 dC_brokenByRefresh_77 (by decide) ?_
          refine lv_goto (tgt := 83) S.1 S.2.1 dC_brokenByRefresh_79 (by decide) ?_
          exact kb_iret (bW cI cQ a nb Q L) S hr hlk hA w h dC_brokenByRefresh_83
      · have h := (kb_brf hc).symm.trans h
        refine lv_aload_n S.1 S.2.1 dC_brokenByRefresh_41 rfl (lv_at hl 0 rfl) ?_
        refine lv_iconst (v := 1) S.1 S.2.1 dC_brokenByRefresh_42 (by decide) ?_
        refine lv_aload_n S.1 S.2.1 dC_brokenByRefresh_43 rfl (lv_at hl 0 rfl) ?_
        refine kb_get S w 11 rfl fC_21 rfl dC_brokenByRefresh_44 ?_
        refine W.eq (g2 := F0 m 47 ls [.ref (a 14), .int 1, .ref (a 11)]) rfl ?_
        refine lv_iload_n S.1 S.2.1 dC_brokenByRefresh_47 rfl (lv_at hl 1 rfl) ?_
        obtain ⟨hi4, h⟩ := kb_ck_of h
        refine kb_iald S w 14 0 rfl rfl hi4 dC_brokenByRefresh_48 ?_
        refine W.eq (g2 := F0 m 49 ls [.int (z.1 14 (kb_ix (x1))), .int 1, .ref (a 11)]) rfl ?_
        obtain ⟨r6, z5, hc7, h⟩ := kb_cl_of h
        refine kb_calli (As := [.int 1, .int (z.1 14 (kb_ix (x1)))]) (rest := []) (q0 := 11) (ci := 0) S w (fun sz => cC_isTooSoon_11 l D cI cQ a nb Q L _ _ _ sz 1 (z.1 14 (kb_ix (x1))) hc7) Y_C_isTooSoon I_C_isTooSoon S_C_isTooSoon lC_58 ⟨rfl, rfl, Nat.le_of_ble_eq_true rfl, Nat.le_of_ble_eq_true rfl⟩ rfl rfl rfl rfl hl.1 rfl (Nat.le_of_ble_eq_true rfl) dC_brokenByRefresh_49 ⟨Nat.le_of_ble_eq_true rfl, Nat.le_of_ble_eq_true rfl⟩ (fun H locs w => ?_)
        refine lv_if_eq (tgt := 58) S.1 S.2.1 dC_brokenByRefresh_52 (by decide) (fun hc => ?_) (fun hc => ?_)
        · have h := (kb_brt hc).symm.trans h
          refine lv_iinc (v := x1 + 1) (k := 1) S.1 S.2.1 dC_brokenByRefresh_58 hl rfl rfl (by decide) rfl (fun ls hl => ?_)
          have hl : lv_has ls 2 [(1, .int (x1 + 1)), (0, .ref (a 11))] := hl
          refine lv_goto (tgt := 32) S.1 S.2.1 dC_brokenByRefresh_61 (by decide) ?_
          exact ih (x1 + 1) z5 _ _ _ (lv_sub hl [1, 0] rfl) w h
        · have h := (kb_brf hc).symm.trans h
          refine lv_bipush (v := 15) S.1 S.2.1 dC_brokenByRefresh_55 (by decide) ?_
          exact kb_iret (bW cI cQ a nb Q L) S hr hlk hA w h dC_brokenByRefresh_57
  have L2 : ∀ (n : Nat) (x1 : Int32) (z : kc_S) (H : Heap) (locs : List Loc) (ls : Array Slot), lv_has ls 2 [(0, .ref (a 11)), (1, .int x1)] → kb_W D vwCl [(cI, .int), (cQ, .object RReq)] A s H locs (bW cI cQ a nb Q L z) → pC_brokenByRefresh_L2 11 nb Q L n x1 z = some (r, z') → W p l e rm_C_brokenByRefresh s m args below meth c H locs 0 0 (MQ below (kb_Qi D vwCl sz (bW cI cQ a nb Q L z0) r (bW cI cQ a nb Q L z')) args s 0 0 (va_A (bW cI cQ a nb Q L z0) sz)) (F0 m 2 ls []) := by
    intro n
    induction n with
    | zero =>
      intro x1 z H locs ls hl w h
      exact absurd h (by simp [pC_brokenByRefresh_L2])
    | succ n ih =>
      intro x1 z H locs ls hl w h
      rw [pC_brokenByRefresh_L2] at h
      refine lv_iload_n S.1 S.2.1 dC_brokenByRefresh_2 rfl (lv_at hl 1 rfl) ?_
      refine lv_aload_n S.1 S.2.1 dC_brokenByRefresh_3 rfl (lv_at hl 0 rfl) ?_
      refine kb_get S w 11 rfl fC_15 rfl dC_brokenByRefresh_4 ?_
      refine W.eq (g2 := F0 m 7 ls [.ref (a 12), .int x1]) rfl ?_
      refine kb_alen S w 12 0 rfl rfl rfl dC_brokenByRefresh_7 ?_
      refine W.eq (g2 := F0 m 8 ls [.int (nI nb), .int x1]) rfl ?_
      refine lv_icmp_ge (tgt := 30) S.1 S.2.1 dC_brokenByRefresh_8 (by decide) (fun hc => ?_) (fun hc => ?_)
      · have h := (kb_brt hc).symm.trans h
        refine lv_iconst (v := 0) S.1 S.2.1 dC_brokenByRefresh_30 (by decide) ?_
        refine lv_istore_n S.1 S.2.1 dC_brokenByRefresh_31 rfl hl (by decide) rfl (fun ls hl => ?_)
        have hl : lv_has ls 2 [(1, .int 0), (0, .ref (a 11))] := hl
        exact L32 3000 0 z _ _ _ (lv_sub hl [1, 0] rfl) w h
      · have h := (kb_brf hc).symm.trans h
        refine lv_aload_n S.1 S.2.1 dC_brokenByRefresh_11 rfl (lv_at hl 0 rfl) ?_
        refine kb_get S w 11 rfl fC_15 rfl dC_brokenByRefresh_12 ?_
        refine W.eq (g2 := F0 m 15 ls [.ref (a 12)]) rfl ?_
        refine lv_iload_n S.1 S.2.1 dC_brokenByRefresh_15 rfl (lv_at hl 1 rfl) ?_
        obtain ⟨hi8, h⟩ := kb_ck_of h
        refine kb_iald S w 12 0 rfl rfl hi8 dC_brokenByRefresh_16 ?_
        refine W.eq (g2 := F0 m 17 ls [.int (z.1 12 (kb_ix (x1)))]) rfl ?_
        refine lv_iconst (v := (-1)) S.1 S.2.1 dC_brokenByRefresh_17 (by decide) ?_
        refine lv_icmp_eq (tgt := 24) S.1 S.2.1 dC_brokenByRefresh_18 (by decide) (fun hc => ?_) (fun hc => ?_)
        · have h := (kb_brt hc).symm.trans h
          refine lv_iinc (v := x1 + 1) (k := 1) S.1 S.2.1 dC_brokenByRefresh_24 hl rfl rfl (by decide) rfl (fun ls hl => ?_)
          have hl : lv_has ls 2 [(1, .int (x1 + 1)), (0, .ref (a 11))] := hl
          refine lv_goto (tgt := 2) S.1 S.2.1 dC_brokenByRefresh_27 (by decide) ?_
          exact ih (x1 + 1) z _ _ _ (lv_sub hl [1, 0] rfl) w h
        · have h := (kb_brf hc).symm.trans h
          refine lv_bipush (v := 14) S.1 S.2.1 dC_brokenByRefresh_21 (by decide) ?_
          exact kb_iret (bW cI cQ a nb Q L) S hr hlk hA w h dC_brokenByRefresh_23
  refine lv_iconst (v := 0) S.1 S.2.1 dC_brokenByRefresh_0 (by decide) ?_
  refine lv_istore_n S.1 S.2.1 dC_brokenByRefresh_1 rfl hl (by decide) rfl (fun ls hl => ?_)
  have hl : lv_has ls 2 [(1, .int 0), (0, .ref (a 11))] := hl
  exact L2 3000 0 z0 _ _ _ (lv_sub hl [1, 0] rfl) w h
set_option maxHeartbeats 4000000 in
set_option maxRecDepth 100000 in
theorem cC_give_3 (l : Launch) (D : va_G) (cI cQ : ClassId) (a : Nat → Nat) (nb Q : Nat) (L : List Nat) (z0 z' : kc_S) (r : Int32) (sz : Nat) (x1 : Int32) (x2 : Int32) (x3 : Int32) (h : pC_give 3 nb Q L x1 x2 x3 z0 = some (r, z')) : Met l y_C_give (Cond.code y_C_give c_C_give 4 none :: wsB) rm_C_give (kb_Pc D vwCl [(cI, .int), (cQ, .object RReq)] sz [.ref (a 3), .int x1, .int x2, .int x3] (bW cI cQ a nb Q L z0)) (kb_Qv D vwCl sz (bW cI cQ a nb Q L z0) (bW cI cQ a nb Q L z')) 0 0 (va_A (bW cI cQ a nb Q L z0) sz) := by
  refine kb_start (by decide) rfl (Nat.le_of_ble_eq_true rfl) ?_
  intro p e s m args below meth c A ls S hr hlk hsz hA w hl
  have hl : lv_has ls 4 [(0, .ref (a 3)), (1, .int x1), (2, .int x2), (3, .int x3)] := hl
  unfold pC_give at h
  refine lv_aload_n S.1 S.2.1 dC_give_0 rfl (lv_at hl 0 rfl) ?_
  refine kb_get S w 3 rfl fC_33 rfl dC_give_1 ?_
  refine W.eq (g2 := F0 m 4 ls [.ref (a 10)]) rfl ?_
  refine lv_iload_n S.1 S.2.1 dC_give_4 rfl (lv_at hl 1 rfl) ?_
  refine lv_dup2_11 S.1 S.2.1 dC_give_5 rfl rfl ?_
  obtain ⟨hi1, h⟩ := kb_ck_of h
  refine kb_iald S w 10 0 rfl rfl hi1 dC_give_6 ?_
  refine W.eq (g2 := F0 m 7 ls [.int (z0.1 10 (kb_ix (x1))), .int x1, .ref (a 10)]) rfl ?_
  refine lv_iconst (v := 1) S.1 S.2.1 dC_give_7 (by decide) ?_
  refine lv_iadd S.1 S.2.1 dC_give_8 ?_
  obtain ⟨hi2, h⟩ := kb_ck_of h
  obtain ⟨z3, hz4, h⟩ := kb_st_of h
  refine kb_iast S w 10 0 rfl rfl hi2 (ws1 := bW cI cQ a nb Q L z3) (by rw [hz4]; rfl) dC_give_9 (fun H locs w => ?_)
  refine lv_iload_n S.1 S.2.1 dC_give_10 rfl (lv_at hl 1 rfl) ?_
  by_cases hs11_0 : (x1).toInt = 0
  · have h := (kb_brt hs11_0).symm.trans h
    refine lv_tableIn (tgt := 40) S.1 S.2.1 dC_give_11 (by omega) (by omega) (by rw [hs11_0]; rfl) (by decide) ?_
    refine lv_aload_n S.1 S.2.1 dC_give_40 rfl (lv_at hl 0 rfl) ?_
    refine kb_get S w 3 rfl fC_30 rfl dC_give_41 ?_
    refine W.eq (g2 := F0 m 44 ls [.ref (a 9)]) rfl ?_
    refine lv_aload_n S.1 S.2.1 dC_give_44 rfl (lv_at hl 0 rfl) ?_
    refine kb_get S w 3 rfl fC_66 rfl dC_give_45 ?_
    refine W.eq (g2 := F0 m 48 ls [.int (z3.1 3 0), .ref (a 9)]) rfl ?_
    refine lv_aload_n S.1 S.2.1 dC_give_48 rfl (lv_at hl 0 rfl) ?_
    refine kb_get S w 3 rfl fC_69 rfl dC_give_49 ?_
    refine W.eq (g2 := F0 m 52 ls [.int (z3.1 3 3), .int (z3.1 3 0), .ref (a 9)]) rfl ?_
    obtain ⟨hi5, h⟩ := kb_ck_of h
    obtain ⟨z6, hz7, h⟩ := kb_st_of h
    refine kb_iast S w 9 0 rfl rfl hi5 (ws1 := bW cI cQ a nb Q L z6) (by rw [hz7]; rfl) dC_give_52 (fun H locs w => ?_)
    refine lv_aload_n S.1 S.2.1 dC_give_53 rfl (lv_at hl 0 rfl) ?_
    refine lv_aload_n S.1 S.2.1 dC_give_54 rfl (lv_at hl 0 rfl) ?_
    refine kb_get S w 3 rfl fC_66 rfl dC_give_55 ?_
    refine W.eq (g2 := F0 m 58 ls [.int (z6.1 3 0), .ref (a 3)]) rfl ?_
    refine lv_iconst (v := 1) S.1 S.2.1 dC_give_58 (by decide) ?_
    refine lv_iadd S.1 S.2.1 dC_give_59 ?_
    refine lv_iconst (v := 4) S.1 S.2.1 dC_give_60 (by decide) ?_
    refine lv_irem S.1 S.2.1 dC_give_61 (by decide) ?_
    obtain ⟨z8, hz9, h⟩ := kb_st_of h
    refine kb_puti S w 3 rfl gC_66 (Nat.le_of_ble_eq_true rfl) (ws1 := bW cI cQ a nb Q L z8) (by rw [hz9]; rfl) dC_give_62 (fun H locs w => ?_)
    refine lv_aload_n S.1 S.2.1 dC_give_65 rfl (lv_at hl 0 rfl) ?_
    refine kb_get S w 3 rfl fC_18 rfl dC_give_66 ?_
    refine W.eq (g2 := F0 m 69 ls [.ref (a 5)]) rfl ?_
    refine lv_iload_n S.1 S.2.1 dC_give_69 rfl (lv_at hl 2 rfl) ?_
    refine lv_aload_n S.1 S.2.1 dC_give_70 rfl (lv_at hl 0 rfl) ?_
    refine kb_get S w 3 rfl fC_69 rfl dC_give_71 ?_
    refine W.eq (g2 := F0 m 74 ls [.int (z8.1 3 3), .int x2, .ref (a 5)]) rfl ?_
    obtain ⟨hi10, h⟩ := kb_ck_of h
    obtain ⟨z11, hz12, h⟩ := kb_st_of h
    refine kb_iast S w 5 0 rfl rfl hi10 (ws1 := bW cI cQ a nb Q L z11) (by rw [hz12]; rfl) dC_give_74 (fun H locs w => ?_)
    refine lv_aload_n S.1 S.2.1 dC_give_75 rfl (lv_at hl 0 rfl) ?_
    refine kb_get S w 3 rfl fC_15 rfl dC_give_76 ?_
    refine W.eq (g2 := F0 m 79 ls [.ref (a 4)]) rfl ?_
    refine lv_iload_n S.1 S.2.1 dC_give_79 rfl (lv_at hl 2 rfl) ?_
    refine lv_iload_n S.1 S.2.1 dC_give_80 rfl (lv_at hl 3 rfl) ?_
    obtain ⟨hi13, h⟩ := kb_ck_of h
    obtain ⟨z14, hz15, h⟩ := kb_st_of h
    refine kb_iast S w 4 0 rfl rfl hi13 (ws1 := bW cI cQ a nb Q L z14) (by rw [hz15]; rfl) dC_give_81 (fun H locs w => ?_)
    refine lv_goto (tgt := 155) S.1 S.2.1 dC_give_82 (by decide) ?_
    exact kb_vret (bW cI cQ a nb Q L) (v := 0) (r := r) S hr hlk hA w h dC_give_155
  · have h := (kb_brf hs11_0).symm.trans h
    by_cases hs11_1 : (x1).toInt = 1
    · have h := (kb_brt hs11_1).symm.trans h
      refine lv_tableIn (tgt := 85) S.1 S.2.1 dC_give_11 (by omega) (by omega) (by rw [hs11_1]; rfl) (by decide) ?_
      refine lv_aload_n S.1 S.2.1 dC_give_85 rfl (lv_at hl 0 rfl) ?_
      refine kb_get S w 3 rfl fC_21 rfl dC_give_86 ?_
      refine W.eq (g2 := F0 m 89 ls [.ref (a 6)]) rfl ?_
      refine lv_iload_n S.1 S.2.1 dC_give_89 rfl (lv_at hl 2 rfl) ?_
      refine lv_aload_n S.1 S.2.1 dC_give_90 rfl (lv_at hl 0 rfl) ?_
      refine kb_get S w 3 rfl fC_69 rfl dC_give_91 ?_
      refine W.eq (g2 := F0 m 94 ls [.int (z3.1 3 3), .int x2, .ref (a 6)]) rfl ?_
      obtain ⟨hi16, h⟩ := kb_ck_of h
      obtain ⟨z17, hz18, h⟩ := kb_st_of h
      refine kb_iast S w 6 0 rfl rfl hi16 (ws1 := bW cI cQ a nb Q L z17) (by rw [hz18]; rfl) dC_give_94 (fun H locs w => ?_)
      refine lv_aload_n S.1 S.2.1 dC_give_95 rfl (lv_at hl 0 rfl) ?_
      refine kb_get S w 3 rfl fC_15 rfl dC_give_96 ?_
      refine W.eq (g2 := F0 m 99 ls [.ref (a 4)]) rfl ?_
      refine lv_iload_n S.1 S.2.1 dC_give_99 rfl (lv_at hl 2 rfl) ?_
      refine lv_iconst (v := (-1)) S.1 S.2.1 dC_give_100 (by decide) ?_
      obtain ⟨hi19, h⟩ := kb_ck_of h
      obtain ⟨z20, hz21, h⟩ := kb_st_of h
      refine kb_iast S w 4 0 rfl rfl hi19 (ws1 := bW cI cQ a nb Q L z20) (by rw [hz21]; rfl) dC_give_101 (fun H locs w => ?_)
      refine lv_goto (tgt := 155) S.1 S.2.1 dC_give_102 (by decide) ?_
      exact kb_vret (bW cI cQ a nb Q L) (v := 0) (r := r) S hr hlk hA w h dC_give_155
    · have h := (kb_brf hs11_1).symm.trans h
      by_cases hs11_2 : (x1).toInt = 2
      · have h := (kb_brt hs11_2).symm.trans h
        refine lv_tableIn (tgt := 105) S.1 S.2.1 dC_give_11 (by omega) (by omega) (by rw [hs11_2]; rfl) (by decide) ?_
        refine lv_aload_n S.1 S.2.1 dC_give_105 rfl (lv_at hl 0 rfl) ?_
        refine kb_get S w 3 rfl fC_24 rfl dC_give_106 ?_
        refine W.eq (g2 := F0 m 109 ls [.ref (a 7)]) rfl ?_
        refine lv_iload_n S.1 S.2.1 dC_give_109 rfl (lv_at hl 2 rfl) ?_
        refine lv_aload_n S.1 S.2.1 dC_give_110 rfl (lv_at hl 0 rfl) ?_
        refine kb_get S w 3 rfl fC_69 rfl dC_give_111 ?_
        refine W.eq (g2 := F0 m 114 ls [.int (z3.1 3 3), .int x2, .ref (a 7)]) rfl ?_
        obtain ⟨hi22, h⟩ := kb_ck_of h
        obtain ⟨z23, hz24, h⟩ := kb_st_of h
        refine kb_iast S w 7 0 rfl rfl hi22 (ws1 := bW cI cQ a nb Q L z23) (by rw [hz24]; rfl) dC_give_114 (fun H locs w => ?_)
        refine lv_aload_n S.1 S.2.1 dC_give_115 rfl (lv_at hl 0 rfl) ?_
        refine lv_aload_n S.1 S.2.1 dC_give_116 rfl (lv_at hl 0 rfl) ?_
        refine kb_get S w 3 rfl fC_69 rfl dC_give_117 ?_
        refine W.eq (g2 := F0 m 120 ls [.int (z23.1 3 3), .ref (a 3)]) rfl ?_
        obtain ⟨z25, hz26, h⟩ := kb_st_of h
        refine kb_puti S w 3 rfl gC_36 (Nat.le_of_ble_eq_true rfl) (ws1 := bW cI cQ a nb Q L z25) (by rw [hz26]; rfl) dC_give_120 (fun H locs w => ?_)
        refine lv_goto (tgt := 155) S.1 S.2.1 dC_give_123 (by decide) ?_
        exact kb_vret (bW cI cQ a nb Q L) (v := 0) (r := r) S hr hlk hA w h dC_give_155
      · have h := (kb_brf hs11_2).symm.trans h
        by_cases hs11_3 : (x1).toInt = 3
        · have h := (kb_brt hs11_3).symm.trans h
          refine lv_tableIn (tgt := 126) S.1 S.2.1 dC_give_11 (by omega) (by omega) (by rw [hs11_3]; rfl) (by decide) ?_
          refine lv_aload_n S.1 S.2.1 dC_give_126 rfl (lv_at hl 0 rfl) ?_
          refine kb_get S w 3 rfl fC_27 rfl dC_give_127 ?_
          refine W.eq (g2 := F0 m 130 ls [.ref (a 8)]) rfl ?_
          refine lv_iload_n S.1 S.2.1 dC_give_130 rfl (lv_at hl 2 rfl) ?_
          refine lv_aload_n S.1 S.2.1 dC_give_131 rfl (lv_at hl 0 rfl) ?_
          refine kb_get S w 3 rfl fC_69 rfl dC_give_132 ?_
          refine W.eq (g2 := F0 m 135 ls [.int (z3.1 3 3), .int x2, .ref (a 8)]) rfl ?_
          obtain ⟨hi27, h⟩ := kb_ck_of h
          obtain ⟨z28, hz29, h⟩ := kb_st_of h
          refine kb_iast S w 8 0 rfl rfl hi27 (ws1 := bW cI cQ a nb Q L z28) (by rw [hz29]; rfl) dC_give_135 (fun H locs w => ?_)
          refine lv_aload_n S.1 S.2.1 dC_give_136 rfl (lv_at hl 0 rfl) ?_
          refine lv_aload_n S.1 S.2.1 dC_give_137 rfl (lv_at hl 0 rfl) ?_
          refine kb_get S w 3 rfl fC_69 rfl dC_give_138 ?_
          refine W.eq (g2 := F0 m 141 ls [.int (z28.1 3 3), .ref (a 3)]) rfl ?_
          obtain ⟨z30, hz31, h⟩ := kb_st_of h
          refine kb_puti S w 3 rfl gC_36 (Nat.le_of_ble_eq_true rfl) (ws1 := bW cI cQ a nb Q L z30) (by rw [hz31]; rfl) dC_give_141 (fun H locs w => ?_)
          refine lv_goto (tgt := 155) S.1 S.2.1 dC_give_144 (by decide) ?_
          exact kb_vret (bW cI cQ a nb Q L) (v := 0) (r := r) S hr hlk hA w h dC_give_155
        · have h := (kb_brf hs11_3).symm.trans h
          refine lv_tableOut (tgt := 147) S.1 S.2.1 dC_give_11 (by omega) (by decide) ?_
          refine lv_aload_n S.1 S.2.1 dC_give_147 rfl (lv_at hl 0 rfl) ?_
          refine lv_aload_n S.1 S.2.1 dC_give_148 rfl (lv_at hl 0 rfl) ?_
          refine kb_get S w 3 rfl fC_69 rfl dC_give_149 ?_
          refine W.eq (g2 := F0 m 152 ls [.int (z3.1 3 3), .ref (a 3)]) rfl ?_
          obtain ⟨z32, hz33, h⟩ := kb_st_of h
          refine kb_puti S w 3 rfl gC_40 (Nat.le_of_ble_eq_true rfl) (ws1 := bW cI cQ a nb Q L z32) (by rw [hz33]; rfl) dC_give_152 (fun H locs w => ?_)
          exact kb_vret (bW cI cQ a nb Q L) (v := 0) (r := r) S hr hlk hA w h dC_give_155
set_option maxHeartbeats 4000000 in
set_option maxRecDepth 100000 in
theorem cC_give_11 (l : Launch) (D : va_G) (cI cQ : ClassId) (a : Nat → Nat) (nb Q : Nat) (L : List Nat) (z0 z' : kc_S) (r : Int32) (sz : Nat) (x1 : Int32) (x2 : Int32) (x3 : Int32) (h : pC_give 11 nb Q L x1 x2 x3 z0 = some (r, z')) : Met l y_C_give (Cond.code y_C_give c_C_give 4 none :: wsB) rm_C_give (kb_Pc D vwCl [(cI, .int), (cQ, .object RReq)] sz [.ref (a 11), .int x1, .int x2, .int x3] (bW cI cQ a nb Q L z0)) (kb_Qv D vwCl sz (bW cI cQ a nb Q L z0) (bW cI cQ a nb Q L z')) 0 0 (va_A (bW cI cQ a nb Q L z0) sz) := by
  refine kb_start (by decide) rfl (Nat.le_of_ble_eq_true rfl) ?_
  intro p e s m args below meth c A ls S hr hlk hsz hA w hl
  have hl : lv_has ls 4 [(0, .ref (a 11)), (1, .int x1), (2, .int x2), (3, .int x3)] := hl
  unfold pC_give at h
  refine lv_aload_n S.1 S.2.1 dC_give_0 rfl (lv_at hl 0 rfl) ?_
  refine kb_get S w 11 rfl fC_33 rfl dC_give_1 ?_
  refine W.eq (g2 := F0 m 4 ls [.ref (a 18)]) rfl ?_
  refine lv_iload_n S.1 S.2.1 dC_give_4 rfl (lv_at hl 1 rfl) ?_
  refine lv_dup2_11 S.1 S.2.1 dC_give_5 rfl rfl ?_
  obtain ⟨hi1, h⟩ := kb_ck_of h
  refine kb_iald S w 18 0 rfl rfl hi1 dC_give_6 ?_
  refine W.eq (g2 := F0 m 7 ls [.int (z0.1 18 (kb_ix (x1))), .int x1, .ref (a 18)]) rfl ?_
  refine lv_iconst (v := 1) S.1 S.2.1 dC_give_7 (by decide) ?_
  refine lv_iadd S.1 S.2.1 dC_give_8 ?_
  obtain ⟨hi2, h⟩ := kb_ck_of h
  obtain ⟨z3, hz4, h⟩ := kb_st_of h
  refine kb_iast S w 18 0 rfl rfl hi2 (ws1 := bW cI cQ a nb Q L z3) (by rw [hz4]; rfl) dC_give_9 (fun H locs w => ?_)
  refine lv_iload_n S.1 S.2.1 dC_give_10 rfl (lv_at hl 1 rfl) ?_
  by_cases hs11_0 : (x1).toInt = 0
  · have h := (kb_brt hs11_0).symm.trans h
    refine lv_tableIn (tgt := 40) S.1 S.2.1 dC_give_11 (by omega) (by omega) (by rw [hs11_0]; rfl) (by decide) ?_
    refine lv_aload_n S.1 S.2.1 dC_give_40 rfl (lv_at hl 0 rfl) ?_
    refine kb_get S w 11 rfl fC_30 rfl dC_give_41 ?_
    refine W.eq (g2 := F0 m 44 ls [.ref (a 17)]) rfl ?_
    refine lv_aload_n S.1 S.2.1 dC_give_44 rfl (lv_at hl 0 rfl) ?_
    refine kb_get S w 11 rfl fC_66 rfl dC_give_45 ?_
    refine W.eq (g2 := F0 m 48 ls [.int (z3.1 11 0), .ref (a 17)]) rfl ?_
    refine lv_aload_n S.1 S.2.1 dC_give_48 rfl (lv_at hl 0 rfl) ?_
    refine kb_get S w 11 rfl fC_69 rfl dC_give_49 ?_
    refine W.eq (g2 := F0 m 52 ls [.int (z3.1 11 3), .int (z3.1 11 0), .ref (a 17)]) rfl ?_
    obtain ⟨hi5, h⟩ := kb_ck_of h
    obtain ⟨z6, hz7, h⟩ := kb_st_of h
    refine kb_iast S w 17 0 rfl rfl hi5 (ws1 := bW cI cQ a nb Q L z6) (by rw [hz7]; rfl) dC_give_52 (fun H locs w => ?_)
    refine lv_aload_n S.1 S.2.1 dC_give_53 rfl (lv_at hl 0 rfl) ?_
    refine lv_aload_n S.1 S.2.1 dC_give_54 rfl (lv_at hl 0 rfl) ?_
    refine kb_get S w 11 rfl fC_66 rfl dC_give_55 ?_
    refine W.eq (g2 := F0 m 58 ls [.int (z6.1 11 0), .ref (a 11)]) rfl ?_
    refine lv_iconst (v := 1) S.1 S.2.1 dC_give_58 (by decide) ?_
    refine lv_iadd S.1 S.2.1 dC_give_59 ?_
    refine lv_iconst (v := 4) S.1 S.2.1 dC_give_60 (by decide) ?_
    refine lv_irem S.1 S.2.1 dC_give_61 (by decide) ?_
    obtain ⟨z8, hz9, h⟩ := kb_st_of h
    refine kb_puti S w 11 rfl gC_66 (Nat.le_of_ble_eq_true rfl) (ws1 := bW cI cQ a nb Q L z8) (by rw [hz9]; rfl) dC_give_62 (fun H locs w => ?_)
    refine lv_aload_n S.1 S.2.1 dC_give_65 rfl (lv_at hl 0 rfl) ?_
    refine kb_get S w 11 rfl fC_18 rfl dC_give_66 ?_
    refine W.eq (g2 := F0 m 69 ls [.ref (a 13)]) rfl ?_
    refine lv_iload_n S.1 S.2.1 dC_give_69 rfl (lv_at hl 2 rfl) ?_
    refine lv_aload_n S.1 S.2.1 dC_give_70 rfl (lv_at hl 0 rfl) ?_
    refine kb_get S w 11 rfl fC_69 rfl dC_give_71 ?_
    refine W.eq (g2 := F0 m 74 ls [.int (z8.1 11 3), .int x2, .ref (a 13)]) rfl ?_
    obtain ⟨hi10, h⟩ := kb_ck_of h
    obtain ⟨z11, hz12, h⟩ := kb_st_of h
    refine kb_iast S w 13 0 rfl rfl hi10 (ws1 := bW cI cQ a nb Q L z11) (by rw [hz12]; rfl) dC_give_74 (fun H locs w => ?_)
    refine lv_aload_n S.1 S.2.1 dC_give_75 rfl (lv_at hl 0 rfl) ?_
    refine kb_get S w 11 rfl fC_15 rfl dC_give_76 ?_
    refine W.eq (g2 := F0 m 79 ls [.ref (a 12)]) rfl ?_
    refine lv_iload_n S.1 S.2.1 dC_give_79 rfl (lv_at hl 2 rfl) ?_
    refine lv_iload_n S.1 S.2.1 dC_give_80 rfl (lv_at hl 3 rfl) ?_
    obtain ⟨hi13, h⟩ := kb_ck_of h
    obtain ⟨z14, hz15, h⟩ := kb_st_of h
    refine kb_iast S w 12 0 rfl rfl hi13 (ws1 := bW cI cQ a nb Q L z14) (by rw [hz15]; rfl) dC_give_81 (fun H locs w => ?_)
    refine lv_goto (tgt := 155) S.1 S.2.1 dC_give_82 (by decide) ?_
    exact kb_vret (bW cI cQ a nb Q L) (v := 0) (r := r) S hr hlk hA w h dC_give_155
  · have h := (kb_brf hs11_0).symm.trans h
    by_cases hs11_1 : (x1).toInt = 1
    · have h := (kb_brt hs11_1).symm.trans h
      refine lv_tableIn (tgt := 85) S.1 S.2.1 dC_give_11 (by omega) (by omega) (by rw [hs11_1]; rfl) (by decide) ?_
      refine lv_aload_n S.1 S.2.1 dC_give_85 rfl (lv_at hl 0 rfl) ?_
      refine kb_get S w 11 rfl fC_21 rfl dC_give_86 ?_
      refine W.eq (g2 := F0 m 89 ls [.ref (a 14)]) rfl ?_
      refine lv_iload_n S.1 S.2.1 dC_give_89 rfl (lv_at hl 2 rfl) ?_
      refine lv_aload_n S.1 S.2.1 dC_give_90 rfl (lv_at hl 0 rfl) ?_
      refine kb_get S w 11 rfl fC_69 rfl dC_give_91 ?_
      refine W.eq (g2 := F0 m 94 ls [.int (z3.1 11 3), .int x2, .ref (a 14)]) rfl ?_
      obtain ⟨hi16, h⟩ := kb_ck_of h
      obtain ⟨z17, hz18, h⟩ := kb_st_of h
      refine kb_iast S w 14 0 rfl rfl hi16 (ws1 := bW cI cQ a nb Q L z17) (by rw [hz18]; rfl) dC_give_94 (fun H locs w => ?_)
      refine lv_aload_n S.1 S.2.1 dC_give_95 rfl (lv_at hl 0 rfl) ?_
      refine kb_get S w 11 rfl fC_15 rfl dC_give_96 ?_
      refine W.eq (g2 := F0 m 99 ls [.ref (a 12)]) rfl ?_
      refine lv_iload_n S.1 S.2.1 dC_give_99 rfl (lv_at hl 2 rfl) ?_
      refine lv_iconst (v := (-1)) S.1 S.2.1 dC_give_100 (by decide) ?_
      obtain ⟨hi19, h⟩ := kb_ck_of h
      obtain ⟨z20, hz21, h⟩ := kb_st_of h
      refine kb_iast S w 12 0 rfl rfl hi19 (ws1 := bW cI cQ a nb Q L z20) (by rw [hz21]; rfl) dC_give_101 (fun H locs w => ?_)
      refine lv_goto (tgt := 155) S.1 S.2.1 dC_give_102 (by decide) ?_
      exact kb_vret (bW cI cQ a nb Q L) (v := 0) (r := r) S hr hlk hA w h dC_give_155
    · have h := (kb_brf hs11_1).symm.trans h
      by_cases hs11_2 : (x1).toInt = 2
      · have h := (kb_brt hs11_2).symm.trans h
        refine lv_tableIn (tgt := 105) S.1 S.2.1 dC_give_11 (by omega) (by omega) (by rw [hs11_2]; rfl) (by decide) ?_
        refine lv_aload_n S.1 S.2.1 dC_give_105 rfl (lv_at hl 0 rfl) ?_
        refine kb_get S w 11 rfl fC_24 rfl dC_give_106 ?_
        refine W.eq (g2 := F0 m 109 ls [.ref (a 15)]) rfl ?_
        refine lv_iload_n S.1 S.2.1 dC_give_109 rfl (lv_at hl 2 rfl) ?_
        refine lv_aload_n S.1 S.2.1 dC_give_110 rfl (lv_at hl 0 rfl) ?_
        refine kb_get S w 11 rfl fC_69 rfl dC_give_111 ?_
        refine W.eq (g2 := F0 m 114 ls [.int (z3.1 11 3), .int x2, .ref (a 15)]) rfl ?_
        obtain ⟨hi22, h⟩ := kb_ck_of h
        obtain ⟨z23, hz24, h⟩ := kb_st_of h
        refine kb_iast S w 15 0 rfl rfl hi22 (ws1 := bW cI cQ a nb Q L z23) (by rw [hz24]; rfl) dC_give_114 (fun H locs w => ?_)
        refine lv_aload_n S.1 S.2.1 dC_give_115 rfl (lv_at hl 0 rfl) ?_
        refine lv_aload_n S.1 S.2.1 dC_give_116 rfl (lv_at hl 0 rfl) ?_
        refine kb_get S w 11 rfl fC_69 rfl dC_give_117 ?_
        refine W.eq (g2 := F0 m 120 ls [.int (z23.1 11 3), .ref (a 11)]) rfl ?_
        obtain ⟨z25, hz26, h⟩ := kb_st_of h
        refine kb_puti S w 11 rfl gC_36 (Nat.le_of_ble_eq_true rfl) (ws1 := bW cI cQ a nb Q L z25) (by rw [hz26]; rfl) dC_give_120 (fun H locs w => ?_)
        refine lv_goto (tgt := 155) S.1 S.2.1 dC_give_123 (by decide) ?_
        exact kb_vret (bW cI cQ a nb Q L) (v := 0) (r := r) S hr hlk hA w h dC_give_155
      · have h := (kb_brf hs11_2).symm.trans h
        by_cases hs11_3 : (x1).toInt = 3
        · have h := (kb_brt hs11_3).symm.trans h
          refine lv_tableIn (tgt := 126) S.1 S.2.1 dC_give_11 (by omega) (by omega) (by rw [hs11_3]; rfl) (by decide) ?_
          refine lv_aload_n S.1 S.2.1 dC_give_126 rfl (lv_at hl 0 rfl) ?_
          refine kb_get S w 11 rfl fC_27 rfl dC_give_127 ?_
          refine W.eq (g2 := F0 m 130 ls [.ref (a 16)]) rfl ?_
          refine lv_iload_n S.1 S.2.1 dC_give_130 rfl (lv_at hl 2 rfl) ?_
          refine lv_aload_n S.1 S.2.1 dC_give_131 rfl (lv_at hl 0 rfl) ?_
          refine kb_get S w 11 rfl fC_69 rfl dC_give_132 ?_
          refine W.eq (g2 := F0 m 135 ls [.int (z3.1 11 3), .int x2, .ref (a 16)]) rfl ?_
          obtain ⟨hi27, h⟩ := kb_ck_of h
          obtain ⟨z28, hz29, h⟩ := kb_st_of h
          refine kb_iast S w 16 0 rfl rfl hi27 (ws1 := bW cI cQ a nb Q L z28) (by rw [hz29]; rfl) dC_give_135 (fun H locs w => ?_)
          refine lv_aload_n S.1 S.2.1 dC_give_136 rfl (lv_at hl 0 rfl) ?_
          refine lv_aload_n S.1 S.2.1 dC_give_137 rfl (lv_at hl 0 rfl) ?_
          refine kb_get S w 11 rfl fC_69 rfl dC_give_138 ?_
          refine W.eq (g2 := F0 m 141 ls [.int (z28.1 11 3), .ref (a 11)]) rfl ?_
          obtain ⟨z30, hz31, h⟩ := kb_st_of h
          refine kb_puti S w 11 rfl gC_36 (Nat.le_of_ble_eq_true rfl) (ws1 := bW cI cQ a nb Q L z30) (by rw [hz31]; rfl) dC_give_141 (fun H locs w => ?_)
          refine lv_goto (tgt := 155) S.1 S.2.1 dC_give_144 (by decide) ?_
          exact kb_vret (bW cI cQ a nb Q L) (v := 0) (r := r) S hr hlk hA w h dC_give_155
        · have h := (kb_brf hs11_3).symm.trans h
          refine lv_tableOut (tgt := 147) S.1 S.2.1 dC_give_11 (by omega) (by decide) ?_
          refine lv_aload_n S.1 S.2.1 dC_give_147 rfl (lv_at hl 0 rfl) ?_
          refine lv_aload_n S.1 S.2.1 dC_give_148 rfl (lv_at hl 0 rfl) ?_
          refine kb_get S w 11 rfl fC_69 rfl dC_give_149 ?_
          refine W.eq (g2 := F0 m 152 ls [.int (z3.1 11 3), .ref (a 11)]) rfl ?_
          obtain ⟨z32, hz33, h⟩ := kb_st_of h
          refine kb_puti S w 11 rfl gC_40 (Nat.le_of_ble_eq_true rfl) (ws1 := bW cI cQ a nb Q L z32) (by rw [hz33]; rfl) dC_give_152 (fun H locs w => ?_)
          exact kb_vret (bW cI cQ a nb Q L) (v := 0) (r := r) S hr hlk hA w h dC_give_155
