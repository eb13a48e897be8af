set_option maxHeartbeats 4000000 in
set_option maxRecDepth 100000 in
theorem cB_time (l : Launch) (D : va_G) (cI cQ : ClassId) (a : Nat → Nat) (nb Q : Nat) (L : List Nat) (z0 z' : kc_S) (r : Int32) (sz : Nat) (x1 : Int32) (x2 : Int32) (h : pB_time nb Q L x1 x2 z0 = some (0, r, z')) : Met l y_B_time (Cond.code y_B_time c_B_time 4 (some .int) :: wsB) rm_B_time (kt_Pc kt_tx D vwCl [(cI, .int), (cQ, .object RReq)] sz [.ref (a 0), .int x1, .int x2] (bW cI cQ a nb Q L z0)) (kb_Qi D vwCl sz (bW cI cQ a nb Q L z0) r (bW cI cQ a nb Q L z')) 0 0 (va_A (bW cI cQ a nb Q L z0) sz) := by
  refine kt_start (by decide) rfl (Nat.le_of_ble_eq_true rfl) ?_
  intro p e s m args below meth c A ls S hr hlk hsz hA w U hl
  have hl : lv_has ls 4 [(0, .ref (a 0)), (1, .int x1), (2, .int x2)] := hl
  unfold pB_time at h
  refine lv_iload_n S.1 S.2.1 dB_time_0 rfl (lv_at hl 1 rfl) ?_
  refine lv_if_lt (tgt := 13) S.1 S.2.1 dB_time_1 (by decide) (fun hc => ?_) (fun hc => ?_)
  · have h := (kb_brt hc).symm.trans h
    exact absurd (kx_0 h).1 (by decide)
  · have h := (kb_brf hc).symm.trans h
    refine lv_iload_n S.1 S.2.1 dB_time_4 rfl (lv_at hl 1 rfl) ?_
    refine lv_aload_n S.1 S.2.1 dB_time_5 rfl (lv_at hl 0 rfl) ?_
    refine kb_get S w 0 rfl fB_31 rfl dB_time_6 ?_
    refine W.eq (g2 := F0 m 9 ls [.ref (a 1), .int x1]) rfl ?_
    refine kb_alen S w 1 0 rfl rfl rfl dB_time_9 ?_
    refine W.eq (g2 := F0 m 10 ls [.int (nI 12), .int x1]) rfl ?_
    refine lv_icmp_lt (tgt := 23) S.1 S.2.1 dB_time_10 (by decide) (fun hc => ?_) (fun hc => ?_)
    · have h := (kb_brt hc).symm.trans h
      refine lv_iload_n S.1 S.2.1 dB_time_23 rfl (lv_at hl 2 rfl) ?_
      obtain ⟨t_LEAST_TIMES, hZ_LEAST_TIMES, hT_LEAST_TIMES⟩ := U.2.2.2.1 _ kt_in_LEAST_TIMES
      refine va_gets S.1 S.2.1 hZ_LEAST_TIMES w.2.2.2.1 S.2.2.2.1 (S.2.2.2.2 _ s_B_69) (fun _ h9 => h9) dB_time_24 ?_
      refine W.eq (g2 := F0 m 27 ls [.ref t_LEAST_TIMES, .int x2]) rfl ?_
      refine lv_iload_n S.1 S.2.1 dB_time_27 rfl (lv_at hl 1 rfl) ?_
      obtain ⟨hi1, h⟩ := kb_ck_of h
      refine va_ti S.1 S.2.1 hT_LEAST_TIMES w.2.2.2.1 hi1 rfl dB_time_28 ?_
      refine W.eq (g2 := F0 m 29 ls [.int (kt_LEAST_TIMES (kb_ix (x1))), .int x2]) rfl ?_
      refine lv_icmp_lt (tgt := 41) S.1 S.2.1 dB_time_29 (by decide) (fun hc => ?_) (fun hc => ?_)
      · have h := (kb_brt hc).symm.trans h
        exact absurd (kx_0 h).1 (by decide)
      · have h := (kb_brf hc).symm.trans h
        refine lv_iload_n S.1 S.2.1 dB_time_32 rfl (lv_at hl 2 rfl) ?_
        obtain ⟨t_MOST_TIMES, hZ_MOST_TIMES, hT_MOST_TIMES⟩ := U.2.2.2.1 _ kt_in_MOST_TIMES
        refine va_gets S.1 S.2.1 hZ_MOST_TIMES w.2.2.2.1 S.2.2.2.1 (S.2.2.2.2 _ s_B_72) (fun _ h9 => h9) dB_time_33 ?_
        refine W.eq (g2 := F0 m 36 ls [.ref t_MOST_TIMES, .int x2]) rfl ?_
        refine lv_iload_n S.1 S.2.1 dB_time_36 rfl (lv_at hl 1 rfl) ?_
        obtain ⟨hi2, h⟩ := kb_ck_of h
        refine va_ti S.1 S.2.1 hT_MOST_TIMES w.2.2.2.1 hi2 rfl dB_time_37 ?_
        refine W.eq (g2 := F0 m 38 ls [.int (kt_MOST_TIMES (kb_ix (x1))), .int x2]) rfl ?_
        refine lv_icmp_le (tgt := 51) S.1 S.2.1 dB_time_38 (by decide) (fun hc => ?_) (fun hc => ?_)
        · have h := (kb_brt hc).symm.trans h
          refine lv_aload_n S.1 S.2.1 dB_time_51 rfl (lv_at hl 0 rfl) ?_
          refine kb_get S w 0 rfl fB_42 rfl dB_time_52 ?_
          refine W.eq (g2 := F0 m 55 ls [.ref (a 3)]) rfl ?_
          refine kb_get S w 3 rfl fB_80 rfl dB_time_55 ?_
          refine W.eq (g2 := F0 m 58 ls [.int (z0.1 3 3)]) rfl ?_
          refine lv_if_eq (tgt := 71) S.1 S.2.1 dB_time_58 (by decide) (fun hc => ?_) (fun hc => ?_)
          · have h := (kb_brt hc).symm.trans h
            refine lv_aload_n S.1 S.2.1 dB_time_71 rfl (lv_at hl 0 rfl) ?_
            refine kb_get S w 0 rfl fB_31 rfl dB_time_72 ?_
            refine W.eq (g2 := F0 m 75 ls [.ref (a 1)]) rfl ?_
            refine lv_iload_n S.1 S.2.1 dB_time_75 rfl (lv_at hl 1 rfl) ?_
            obtain ⟨hi3, h⟩ := kb_ck_of h
            refine kb_iald S w 1 0 rfl rfl hi3 dB_time_76 ?_
            refine W.eq (g2 := F0 m 77 ls [.int (z0.1 1 (kb_ix (x1)))]) rfl ?_
            refine lv_istore_n S.1 S.2.1 dB_time_77 rfl hl (by decide) rfl (fun ls hl => ?_)
            have hl : lv_has ls 4 [(3, .int (z0.1 1 (kb_ix (x1)))), (0, .ref (a 0)), (1, .int x1), (2, .int x2)] := hl
            refine lv_aload_n S.1 S.2.1 dB_time_78 rfl (lv_at hl 1 rfl) ?_
            refine kb_get S w 0 rfl fB_31 rfl dB_time_79 ?_
            refine W.eq (g2 := F0 m 82 ls [.ref (a 1)]) rfl ?_
            refine lv_iload_n S.1 S.2.1 dB_time_82 rfl (lv_at hl 2 rfl) ?_
            refine lv_iload_n S.1 S.2.1 dB_time_83 rfl (lv_at hl 3 rfl) ?_
            obtain ⟨hi4, h⟩ := kb_ck_of h
            obtain ⟨z5, hz6, h⟩ := kb_st_of h
            refine kb_iast S w 1 0 rfl rfl hi4 (ws1 := bW cI cQ a nb Q L z5) (by rw [hz6]; rfl) dB_time_84 (fun H locs w => ?_)
            refine lv_iload_n S.1 S.2.1 dB_time_85 rfl (lv_at hl 0 rfl) ?_
            exact kb_iret (bW cI cQ a nb Q L) S hr hlk hA w (kx_r h) dB_time_86
          · have h := (kb_brf hc).symm.trans h
            exact absurd (kx_0 h).1 (by decide)
        · have h := (kb_brf hc).symm.trans h
          exact absurd (kx_0 h).1 (by decide)
    · have h := (kb_brf hc).symm.trans h
      exact absurd (kx_0 h).1 (by decide)
set_option maxHeartbeats 4000000 in
set_option maxRecDepth 100000 in
theorem xB_time (l : Launch) (hst : l.stackTraces = false) (D : va_G) (cI cQ : ClassId) (a : Nat → Nat) (nb Q : Nat) (L : List Nat) (z0 z' : kc_S) (kt : Nat) (r : Int32) (sz : Nat) (x1 : Int32) (x2 : Int32) (hk0 : kt ≠ 0) (h : pB_time nb Q L x1 x2 z0 = some (kt, r, z')) : kt_Met l y_B_time (Cond.code y_B_time c_B_time 4 (some .int) :: wsB) rmx_B_time (kt_Pc kt_tx D vwCl [(cI, .int), (cQ, .object RReq)] sz [.ref (a 0), .int x1, .int x2] (bW cI cQ a nb Q L z0)) (kx_E kt) (kt_XB D vwCl sz (bW cI cQ a nb Q L z0) (bW cI cQ a nb Q L z')) 1 6 (va_A (bW cI cQ a nb Q L z0) sz) := by
  refine kt_startX (by decide) rfl (Nat.le_of_ble_eq_true rfl) ?_
  intro p e s m args below meth c A ls S hr hlk hsz hA w U hno hl
  have hl : lv_has ls 4 [(0, .ref (a 0)), (1, .int x1), (2, .int x2)] := hl
  unfold pB_time at h
  refine lv_iload_n S.1 S.2.1 dB_time_0 rfl (lv_at hl 1 rfl) ?_
  refine lv_if_lt (tgt := 13) S.1 S.2.1 dB_time_1 (by decide) (fun hc => ?_) (fun hc => ?_)
  · have h := (kb_brt hc).symm.trans h
    exact kx_throw (kk := 1) (bW cI cQ a nb Q L) S hst hlk hA w U hno n_B_62_66 t_B_64 h hl.1 dB_time_13 dB_time_16 dB_time_17 dB_time_19 dB_time_22 ⟨Nat.le_of_ble_eq_true rfl, Nat.le_of_ble_eq_true rfl, Nat.le_of_ble_eq_true rfl, Nat.le_of_ble_eq_true rfl⟩ ⟨Nat.le_of_ble_eq_true rfl, Nat.le_of_ble_eq_true rfl⟩
  · have h := (kb_brf hc).symm.trans h
    refine lv_iload_n S.1 S.2.1 dB_time_4 rfl (lv_at hl 1 rfl) ?_
    refine lv_aload_n S.1 S.2.1 dB_time_5 rfl (lv_at hl 0 rfl) ?_
    refine kb_get S w 0 rfl fB_31 rfl dB_time_6 ?_
    refine W.eq (g2 := F0 m 9 ls [.ref (a 1), .int x1]) rfl ?_
    refine kb_alen S w 1 0 rfl rfl rfl dB_time_9 ?_
    refine W.eq (g2 := F0 m 10 ls [.int (nI 12), .int x1]) rfl ?_
    refine lv_icmp_lt (tgt := 23) S.1 S.2.1 dB_time_10 (by decide) (fun hc => ?_) (fun hc => ?_)
    · have h := (kb_brt hc).symm.trans h
      refine lv_iload_n S.1 S.2.1 dB_time_23 rfl (lv_at hl 2 rfl) ?_
      obtain ⟨t_LEAST_TIMES, hZ_LEAST_TIMES, hT_LEAST_TIMES⟩ := U.2.2.2.1 _ kt_in_LEAST_TIMES
      refine va_gets S.1 S.2.1 hZ_LEAST_TIMES w.2.2.2.1 S.2.2.2.1 (S.2.2.2.2 _ s_B_69) (fun _ h9 => h9) dB_time_24 ?_
      refine W.eq (g2 := F0 m 27 ls [.ref t_LEAST_TIMES, .int x2]) rfl ?_
      refine lv_iload_n S.1 S.2.1 dB_time_27 rfl (lv_at hl 1 rfl) ?_
      obtain ⟨hi1, h⟩ := kb_ck_of h
      refine va_ti S.1 S.2.1 hT_LEAST_TIMES w.2.2.2.1 hi1 rfl dB_time_28 ?_
      refine W.eq (g2 := F0 m 29 ls [.int (kt_LEAST_TIMES (kb_ix (x1))), .int x2]) rfl ?_
      refine lv_icmp_lt (tgt := 41) S.1 S.2.1 dB_time_29 (by decide) (fun hc => ?_) (fun hc => ?_)
      · have h := (kb_brt hc).symm.trans h
        exact kx_throw (kk := 2) (bW cI cQ a nb Q L) S hst hlk hA w U hno n_B_75_79 t_B_77 h hl.1 dB_time_41 dB_time_44 dB_time_45 dB_time_47 dB_time_50 ⟨Nat.le_of_ble_eq_true rfl, Nat.le_of_ble_eq_true rfl, Nat.le_of_ble_eq_true rfl, Nat.le_of_ble_eq_true rfl⟩ ⟨Nat.le_of_ble_eq_true rfl, Nat.le_of_ble_eq_true rfl⟩
      · have h := (kb_brf hc).symm.trans h
        refine lv_iload_n S.1 S.2.1 dB_time_32 rfl (lv_at hl 2 rfl) ?_
        obtain ⟨t_MOST_TIMES, hZ_MOST_TIMES, hT_MOST_TIMES⟩ := U.2.2.2.1 _ kt_in_MOST_TIMES
        refine va_gets S.1 S.2.1 hZ_MOST_TIMES w.2.2.2.1 S.2.2.2.1 (S.2.2.2.2 _ s_B_72) (fun _ h9 => h9) dB_time_33 ?_
        refine W.eq (g2 := F0 m 36 ls [.ref t_MOST_TIMES, .int x2]) rfl ?_
        refine lv_iload_n S.1 S.2.1 dB_time_36 rfl (lv_at hl 1 rfl) ?_
        obtain ⟨hi2, h⟩ := kb_ck_of h
        refine va_ti S.1 S.2.1 hT_MOST_TIMES w.2.2.2.1 hi2 rfl dB_time_37 ?_
        refine W.eq (g2 := F0 m 38 ls [.int (kt_MOST_TIMES (kb_ix (x1))), .int x2]) rfl ?_
        refine lv_icmp_le (tgt := 51) S.1 S.2.1 dB_time_38 (by decide) (fun hc => ?_) (fun hc => ?_)
        · have h := (kb_brt hc).symm.trans h
          refine lv_aload_n S.1 S.2.1 dB_time_51 rfl (lv_at hl 0 rfl) ?_
          refine kb_get S w 0 rfl fB_42 rfl dB_time_52 ?_
          refine W.eq (g2 := F0 m 55 ls [.ref (a 3)]) rfl ?_
          refine kb_get S w 3 rfl fB_80 rfl dB_time_55 ?_
          refine W.eq (g2 := F0 m 58 ls [.int (z0.1 3 3)]) rfl ?_
          refine lv_if_eq (tgt := 71) S.1 S.2.1 dB_time_58 (by decide) (fun hc => ?_) (fun hc => ?_)
          · have h := (kb_brt hc).symm.trans h
            refine lv_aload_n S.1 S.2.1 dB_time_71 rfl (lv_at hl 0 rfl) ?_
            refine kb_get S w 0 rfl fB_31 rfl dB_time_72 ?_
            refine W.eq (g2 := F0 m 75 ls [.ref (a 1)]) rfl ?_
            refine lv_iload_n S.1 S.2.1 dB_time_75 rfl (lv_at hl 1 rfl) ?_
            obtain ⟨hi3, h⟩ := kb_ck_of h
            refine kb_iald S w 1 0 rfl rfl hi3 dB_time_76 ?_
            refine W.eq (g2 := F0 m 77 ls [.int (z0.1 1 (kb_ix (x1)))]) rfl ?_
            refine lv_istore_n S.1 S.2.1 dB_time_77 rfl hl (by decide) rfl (fun ls hl => ?_)
            have hl : lv_has ls 4 [(3, .int (z0.1 1 (kb_ix (x1)))), (0, .ref (a 0)), (1, .int x1), (2, .int x2)] := hl
            refine lv_aload_n S.1 S.2.1 dB_time_78 rfl (lv_at hl 1 rfl) ?_
            refine kb_get S w 0 rfl fB_31 rfl dB_time_79 ?_
            refine W.eq (g2 := F0 m 82 ls [.ref (a 1)]) rfl ?_
            refine lv_iload_n S.1 S.2.1 dB_time_82 rfl (lv_at hl 2 rfl) ?_
            refine lv_iload_n S.1 S.2.1 dB_time_83 rfl (lv_at hl 3 rfl) ?_
            obtain ⟨hi4, h⟩ := kb_ck_of h
            obtain ⟨z5, hz6, h⟩ := kb_st_of h
            refine kb_iast S w 1 0 rfl rfl hi4 (ws1 := bW cI cQ a nb Q L z5) (by rw [hz6]; rfl) dB_time_84 (fun H locs w => ?_)
            refine lv_iload_n S.1 S.2.1 dB_time_85 rfl (lv_at hl 0 rfl) ?_
            exact absurd (kx_0 h).1.symm hk0
          · have h := (kb_brf hc).symm.trans h
            exact kx_throw (kk := 3) (bW cI cQ a nb Q L) S hst hlk hA w U hno n_B_83_87 t_B_85 h hl.1 dB_time_61 dB_time_64 dB_time_65 dB_time_67 dB_time_70 ⟨Nat.le_of_ble_eq_true rfl, Nat.le_of_ble_eq_true rfl, Nat.le_of_ble_eq_true rfl, Nat.le_of_ble_eq_true rfl⟩ ⟨Nat.le_of_ble_eq_true rfl, Nat.le_of_ble_eq_true rfl⟩
        · have h := (kb_brf hc).symm.trans h
          exact kx_throw (kk := 2) (bW cI cQ a nb Q L) S hst hlk hA w U hno n_B_75_79 t_B_77 h hl.1 dB_time_41 dB_time_44 dB_time_45 dB_time_47 dB_time_50 ⟨Nat.le_of_ble_eq_true rfl, Nat.le_of_ble_eq_true rfl, Nat.le_of_ble_eq_true rfl, Nat.le_of_ble_eq_true rfl⟩ ⟨Nat.le_of_ble_eq_true rfl, Nat.le_of_ble_eq_true rfl⟩
    · have h := (kb_brf hc).symm.trans h
      exact kx_throw (kk := 1) (bW cI cQ a nb Q L) S hst hlk hA w U hno n_B_62_66 t_B_64 h hl.1 dB_time_13 dB_time_16 dB_time_17 dB_time_19 dB_time_22 ⟨Nat.le_of_ble_eq_true rfl, Nat.le_of_ble_eq_true rfl, Nat.le_of_ble_eq_true rfl, Nat.le_of_ble_eq_true rfl⟩ ⟨Nat.le_of_ble_eq_true rfl, Nat.le_of_ble_eq_true rfl⟩
set_option maxHeartbeats 4000000 in
set_option maxRecDepth 100000 in
theorem cB_refuseNoWord (l : Launch) (D : va_G) (cI cQ : ClassId) (a : Nat → Nat) (nb Q : Nat) (L : List Nat) (z0 z' : kc_S) (r : Int32) (sz : Nat) (x1 : Int32) (x2 : Int32) (x3 : Int32) (h : pB_refuseNoWord nb Q L x1 x2 x3 z0 = some (0, r, z')) : Met l y_B_refuseNoWord (Cond.code y_B_refuseNoWord c_B_refuseNoWord 4 none :: wsB) rm_B_refuseNoWord (kt_Pc kt_tx D vwCl [(cI, .int), (cQ, .object RReq)] sz [.ref (a 0), .int x1, .int x2, .int x3] (bW cI cQ a nb Q L z0)) (kb_Qv D vwCl sz (bW cI cQ a nb Q L z0) (bW cI cQ a nb Q L z')) 0 0 (va_A (bW cI cQ a nb Q L z0) sz) := by
  refine kt_start (by decide) rfl (Nat.le_of_ble_eq_true rfl) ?_
  intro p e s m args below meth c A ls S hr hlk hsz hA w U hl
  have hl : lv_has ls 4 [(0, .ref (a 0)), (1, .int x1), (2, .int x2), (3, .int x3)] := hl
  unfold pB_refuseNoWord at h
  refine lv_aload_n S.1 S.2.1 dB_refuseNoWord_0 rfl (lv_at hl 0 rfl) ?_
  refine kb_get S w 0 rfl fB_42 rfl dB_refuseNoWord_1 ?_
  refine W.eq (g2 := F0 m 4 ls [.ref (a 3)]) rfl ?_
  refine lv_iload_n S.1 S.2.1 dB_refuseNoWord_4 rfl (lv_at hl 1 rfl) ?_
  obtain ⟨r2, z1, hc3, h⟩ := kb_cl_of h
  refine kb_calli (As := [.int x1]) (rest := []) (q0 := 3) (ci := 0) S w (fun sz => cC_hasBank_3 l D cI cQ a nb Q L _ _ _ sz x1 hc3) Y_C_hasBank I_C_hasBank S_C_hasBank lB_126 ⟨rfl, rfl, Nat.le_of_ble_eq_true rfl, Nat.le_of_ble_eq_true rfl⟩ rfl rfl rfl rfl hl.1 rfl (Nat.le_of_ble_eq_true rfl) dB_refuseNoWord_5 ⟨Nat.le_of_ble_eq_true rfl, Nat.le_of_ble_eq_true rfl⟩ (fun H locs w => ?_)
  refine lv_if_eq (tgt := 28) S.1 S.2.1 dB_refuseNoWord_8 (by decide) (fun hc => ?_) (fun hc => ?_)
  · have h := (kb_brt hc).symm.trans h
    exact absurd (kx_0 h).1 (by decide)
  · have h := (kb_brf hc).symm.trans h
    refine lv_iload_n S.1 S.2.1 dB_refuseNoWord_11 rfl (lv_at hl 2 rfl) ?_
    obtain ⟨r5, z4, hc6, h⟩ := kb_cl_of h
    refine kb_callS (As := [.int x2]) (rest := []) S w (fun sz => cB_isRow l D cI cQ a nb Q L _ _ _ sz x2 hc6) Y_B_isRow T_B_isRow lB_158 ⟨rfl, rfl, Nat.le_of_ble_eq_true rfl, Nat.le_of_ble_eq_true rfl⟩ rfl hl.1 rfl (Nat.le_of_ble_eq_true rfl) dB_refuseNoWord_12 ⟨Nat.le_of_ble_eq_true rfl, Nat.le_of_ble_eq_true rfl⟩ (fun H locs w => ?_)
    refine lv_if_eq (tgt := 28) S.1 S.2.1 dB_refuseNoWord_15 (by decide) (fun hc => ?_) (fun hc => ?_)
    · have h := (kb_brt hc).symm.trans h
      exact absurd (kx_0 h).1 (by decide)
    · have h := (kb_brf hc).symm.trans h
      refine lv_iload_n S.1 S.2.1 dB_refuseNoWord_18 rfl (lv_at hl 3 rfl) ?_
      refine lv_if_lt (tgt := 28) S.1 S.2.1 dB_refuseNoWord_19 (by decide) (fun hc => ?_) (fun hc => ?_)
      · have h := (kb_brt hc).symm.trans h
        exact absurd (kx_0 h).1 (by decide)
      · have h := (kb_brf hc).symm.trans h
        refine lv_iload_n S.1 S.2.1 dB_refuseNoWord_22 rfl (lv_at hl 3 rfl) ?_
        refine lv_bipush (v := 8) S.1 S.2.1 dB_refuseNoWord_23 (by decide) ?_
        refine lv_icmp_lt (tgt := 38) S.1 S.2.1 dB_refuseNoWord_25 (by decide) (fun hc => ?_) (fun hc => ?_)
        · have h := (kb_brt hc).symm.trans h
          exact kb_vret (bW cI cQ a nb Q L) (v := 0) (r := r) S hr hlk hA w (kx_r h) dB_refuseNoWord_38
        · have h := (kb_brf hc).symm.trans h
          exact absurd (kx_0 h).1 (by decide)
set_option maxHeartbeats 4000000 in
set_option maxRecDepth 100000 in
theorem xB_refuseNoWord (l : Launch) (hst : l.stackTraces = false) (D : va_G) (cI cQ : ClassId) (a : Nat → Nat) (nb Q : Nat) (L : List Nat) (z0 z' : kc_S) (kt : Nat) (r : Int32) (sz : Nat) (x1 : Int32) (x2 : Int32) (x3 : Int32) (hk0 : kt ≠ 0) (h : pB_refuseNoWord nb Q L x1 x2 x3 z0 = some (kt, r, z')) : kt_Met l y_B_refuseNoWord (Cond.code y_B_refuseNoWord c_B_refuseNoWord 4 none :: wsB) rmx_B_refuseNoWord (kt_Pc kt_tx D vwCl [(cI, .int), (cQ, .object RReq)] sz [.ref (a 0), .int x1, .int x2, .int x3] (bW cI cQ a nb Q L z0)) (kx_E kt) (kt_XB D vwCl sz (bW cI cQ a nb Q L z0) (bW cI cQ a nb Q L z')) 1 6 (va_A (bW cI cQ a nb Q L z0) sz) := by
  refine kt_startX (by decide) rfl (Nat.le_of_ble_eq_true rfl) ?_
  intro p e s m args below meth c A ls S hr hlk hsz hA w U hno hl
  have hl : lv_has ls 4 [(0, .ref (a 0)), (1, .int x1), (2, .int x2), (3, .int x3)] := hl
  unfold pB_refuseNoWord at h
  refine lv_aload_n S.1 S.2.1 dB_refuseNoWord_0 rfl (lv_at hl 0 rfl) ?_
  refine kb_get S w 0 rfl fB_42 rfl dB_refuseNoWord_1 ?_
  refine W.eq (g2 := F0 m 4 ls [.ref (a 3)]) rfl ?_
  refine lv_iload_n S.1 S.2.1 dB_refuseNoWord_4 rfl (lv_at hl 1 rfl) ?_
  obtain ⟨r2, z1, hc3, h⟩ := kb_cl_of h
  refine kb_calli (As := [.int x1]) (rest := []) (q0 := 3) (ci := 0) S w (fun sz => cC_hasBank_3 l D cI cQ a nb Q L _ _ _ sz x1 hc3) Y_C_hasBank I_C_hasBank S_C_hasBank lB_126 ⟨rfl, rfl, Nat.le_of_ble_eq_true rfl, Nat.le_of_ble_eq_true rfl⟩ rfl rfl rfl rfl hl.1 rfl (Nat.le_of_ble_eq_true rfl) dB_refuseNoWord_5 ⟨Nat.le_of_ble_eq_true rfl, Nat.le_of_ble_eq_true rfl⟩ (fun H locs w => ?_)
  refine lv_if_eq (tgt := 28) S.1 S.2.1 dB_refuseNoWord_8 (by decide) (fun hc => ?_) (fun hc => ?_)
  · have h := (kb_brt hc).symm.trans h
    exact kx_throw (kk := 1) (bW cI cQ a nb Q L) S hst hlk hA w U hno n_B_62_66 t_B_171 h hl.1 dB_refuseNoWord_28 dB_refuseNoWord_31 dB_refuseNoWord_32 dB_refuseNoWord_34 dB_refuseNoWord_37 ⟨Nat.le_of_ble_eq_true rfl, Nat.le_of_ble_eq_true rfl, Nat.le_of_ble_eq_true rfl, Nat.le_of_ble_eq_true rfl⟩ ⟨Nat.le_of_ble_eq_true rfl, Nat.le_of_ble_eq_true rfl⟩
  · have h := (kb_brf hc).symm.trans h
    refine lv_iload_n S.1 S.2.1 dB_refuseNoWord_11 rfl (lv_at hl 2 rfl) ?_
    obtain ⟨r5, z4, hc6, h⟩ := kb_cl_of h
    refine kb_callS (As := [.int x2]) (rest := []) S w (fun sz => cB_isRow l D cI cQ a nb Q L _ _ _ sz x2 hc6) Y_B_isRow T_B_isRow lB_158 ⟨rfl, rfl, Nat.le_of_ble_eq_true rfl, Nat.le_of_ble_eq_true rfl⟩ rfl hl.1 rfl (Nat.le_of_ble_eq_true rfl) dB_refuseNoWord_12 ⟨Nat.le_of_ble_eq_true rfl, Nat.le_of_ble_eq_true rfl⟩ (fun H locs w => ?_)
    refine lv_if_eq (tgt := 28) S.1 S.2.1 dB_refuseNoWord_15 (by decide) (fun hc => ?_) (fun hc => ?_)
    · have h := (kb_brt hc).symm.trans h
      exact kx_throw (kk := 1) (bW cI cQ a nb Q L) S hst hlk hA w U hno n_B_62_66 t_B_171 h hl.1 dB_refuseNoWord_28 dB_refuseNoWord_31 dB_refuseNoWord_32 dB_refuseNoWord_34 dB_refuseNoWord_37 ⟨Nat.le_of_ble_eq_true rfl, Nat.le_of_ble_eq_true rfl, Nat.le_of_ble_eq_true rfl, Nat.le_of_ble_eq_true rfl⟩ ⟨Nat.le_of_ble_eq_true rfl, Nat.le_of_ble_eq_true rfl⟩
    · have h := (kb_brf hc).symm.trans h
      refine lv_iload_n S.1 S.2.1 dB_refuseNoWord_18 rfl (lv_at hl 3 rfl) ?_
      refine lv_if_lt (tgt := 28) S.1 S.2.1 dB_refuseNoWord_19 (by decide) (fun hc => ?_) (fun hc => ?_)
      · have h := (kb_brt hc).symm.trans h
        exact kx_throw (kk := 1) (bW cI cQ a nb Q L) S hst hlk hA w U hno n_B_62_66 t_B_171 h hl.1 dB_refuseNoWord_28 dB_refuseNoWord_31 dB_refuseNoWord_32 dB_refuseNoWord_34 dB_refuseNoWord_37 ⟨Nat.le_of_ble_eq_true rfl, Nat.le_of_ble_eq_true rfl, Nat.le_of_ble_eq_true rfl, Nat.le_of_ble_eq_true rfl⟩ ⟨Nat.le_of_ble_eq_true rfl, Nat.le_of_ble_eq_true rfl⟩
      · have h := (kb_brf hc).symm.trans h
        refine lv_iload_n S.1 S.2.1 dB_refuseNoWord_22 rfl (lv_at hl 3 rfl) ?_
        refine lv_bipush (v := 8) S.1 S.2.1 dB_refuseNoWord_23 (by decide) ?_
        refine lv_icmp_lt (tgt := 38) S.1 S.2.1 dB_refuseNoWord_25 (by decide) (fun hc => ?_) (fun hc => ?_)
        · have h := (kb_brt hc).symm.trans h
          exact absurd (kx_0 h).1.symm hk0
        · have h := (kb_brf hc).symm.trans h
          exact kx_throw (kk := 1) (bW cI cQ a nb Q L) S hst hlk hA w U hno n_B_62_66 t_B_171 h hl.1 dB_refuseNoWord_28 dB_refuseNoWord_31 dB_refuseNoWord_32 dB_refuseNoWord_34 dB_refuseNoWord_37 ⟨Nat.le_of_ble_eq_true rfl, Nat.le_of_ble_eq_true rfl, Nat.le_of_ble_eq_true rfl, Nat.le_of_ble_eq_true rfl⟩ ⟨Nat.le_of_ble_eq_true rfl, Nat.le_of_ble_eq_true rfl⟩
set_option maxHeartbeats 4000000 in
set_option maxRecDepth 100000 in
theorem cB_refuseFullQueue (l : Launch) (D : va_G) (cI cQ : ClassId) (a : Nat → Nat) (nb Q : Nat) (L : List Nat) (z0 z' : kc_S) (r : Int32) (sz : Nat) (h : pB_refuseFullQueue nb Q L  z0 = some (0, r, z')) : Met l y_B_refuseFullQueue (Cond.code y_B_refuseFullQueue c_B_refuseFullQueue 1 none :: wsB) rm_B_refuseFullQueue (kt_Pc kt_tx D vwCl [(cI, .int), (cQ, .object RReq)] sz [.ref (a 0)] (bW cI cQ a nb Q L z0)) (kb_Qv D vwCl sz (bW cI cQ a nb Q L z0) (bW cI cQ a nb Q L z')) 0 0 (va_A (bW cI cQ a nb Q L z0) sz) := by
  refine kt_start (by decide) rfl (Nat.le_of_ble_eq_true rfl) ?_
  intro p e s m args below meth c A ls S hr hlk hsz hA w U hl
  have hl : lv_has ls 1 [(0, .ref (a 0))] := hl
  unfold pB_refuseFullQueue at h
  refine lv_aload_n S.1 S.2.1 dB_refuseFullQueue_0 rfl (lv_at hl 0 rfl) ?_
  refine kb_get S w 0 rfl fB_134 rfl dB_refuseFullQueue_1 ?_
  refine W.eq (g2 := F0 m 4 ls [.int (z0.1 0 1)]) rfl ?_
  refine lv_aload_n S.1 S.2.1 dB_refuseFullQueue_4 rfl (lv_at hl 0 rfl) ?_
  refine kb_get S w 0 rfl fB_51 rfl dB_refuseFullQueue_5 ?_
  refine W.eq (g2 := F0 m 8 ls [.ref (a 21), .int (z0.1 0 1)]) rfl ?_
  refine kb_alen S w 21 1 rfl rfl rfl dB_refuseFullQueue_8 ?_
  refine W.eq (g2 := F0 m 9 ls [.int (nI Q), .int (z0.1 0 1)]) rfl ?_
  refine lv_icmp_lt (tgt := 22) S.1 S.2.1 dB_refuseFullQueue_9 (by decide) (fun hc => ?_) (fun hc => ?_)
  · have h := (kb_brt hc).symm.trans h
    exact kb_vret (bW cI cQ a nb Q L) (v := 0) (r := r) S hr hlk hA w (kx_r h) dB_refuseFullQueue_22
  · have h := (kb_brf hc).symm.trans h
    exact absurd (kx_0 h).1 (by decide)
set_option maxHeartbeats 4000000 in
set_option maxRecDepth 100000 in
theorem xB_refuseFullQueue (l : Launch) (hst : l.stackTraces = false) (D : va_G) (cI cQ : ClassId) (a : Nat → Nat) (nb Q : Nat) (L : List Nat) (z0 z' : kc_S) (kt : Nat) (r : Int32) (sz : Nat) (hk0 : kt ≠ 0) (h : pB_refuseFullQueue nb Q L  z0 = some (kt, r, z')) : kt_Met l y_B_refuseFullQueue (Cond.code y_B_refuseFullQueue c_B_refuseFullQueue 1 none :: wsB) rmx_B_refuseFullQueue (kt_Pc kt_tx D vwCl [(cI, .int), (cQ, .object RReq)] sz [.ref (a 0)] (bW cI cQ a nb Q L z0)) (kx_E kt) (kt_XB D vwCl sz (bW cI cQ a nb Q L z0) (bW cI cQ a nb Q L z')) 1 6 (va_A (bW cI cQ a nb Q L z0) sz) := by
  refine kt_startX (by decide) rfl (Nat.le_of_ble_eq_true rfl) ?_
  intro p e s m args below meth c A ls S hr hlk hsz hA w U hno hl
  have hl : lv_has ls 1 [(0, .ref (a 0))] := hl
  unfold pB_refuseFullQueue at h
  refine lv_aload_n S.1 S.2.1 dB_refuseFullQueue_0 rfl (lv_at hl 0 rfl) ?_
  refine kb_get S w 0 rfl fB_134 rfl dB_refuseFullQueue_1 ?_
  refine W.eq (g2 := F0 m 4 ls [.int (z0.1 0 1)]) rfl ?_
  refine lv_aload_n S.1 S.2.1 dB_refuseFullQueue_4 rfl (lv_at hl 0 rfl) ?_
  refine kb_get S w 0 rfl fB_51 rfl dB_refuseFullQueue_5 ?_
  refine W.eq (g2 := F0 m 8 ls [.ref (a 21), .int (z0.1 0 1)]) rfl ?_
  refine kb_alen S w 21 1 rfl rfl rfl dB_refuseFullQueue_8 ?_
  refine W.eq (g2 := F0 m 9 ls [.int (nI Q), .int (z0.1 0 1)]) rfl ?_
  refine lv_icmp_lt (tgt := 22) S.1 S.2.1 dB_refuseFullQueue_9 (by decide) (fun hc => ?_) (fun hc => ?_)
  · have h := (kb_brt hc).symm.trans h
    exact absurd (kx_0 h).1.symm hk0
  · have h := (kb_brf hc).symm.trans h
    exact kx_throw (kk := 3) (bW cI cQ a nb Q L) S hst hlk hA w U hno n_B_83_87 t_B_173 h hl.1 dB_refuseFullQueue_12 dB_refuseFullQueue_15 dB_refuseFullQueue_16 dB_refuseFullQueue_18 dB_refuseFullQueue_21 ⟨Nat.le_of_ble_eq_true rfl, Nat.le_of_ble_eq_true rfl, Nat.le_of_ble_eq_true rfl, Nat.le_of_ble_eq_true rfl⟩ ⟨Nat.le_of_ble_eq_true rfl, Nat.le_of_ble_eq_true rfl⟩
set_option maxHeartbeats 4000000 in
set_option maxRecDepth 100000 in
theorem cB_read (l : Launch) (D : va_G) (cI cQ : ClassId) (a : Nat → Nat) (nb Q : Nat) (L : List Nat) (z0 z' : kc_S) (r : Int32) (sz : Nat) (x1 : Int32) (x2 : Int32) (x3 : Int32) (h : pB_read nb Q L x1 x2 x3 z0 = some (0, r, z')) : Met l y_B_read (Cond.code y_B_read c_B_read 4 (some .int) :: wsB) rm_B_read (kt_Pc kt_tx D vwCl [(cI, .int), (cQ, .object RReq)] sz [.ref (a 0), .int x1, .int x2, .int x3] (bW cI cQ a nb Q L z0)) (kb_Qi D vwCl sz (bW cI cQ a nb Q L z0) r (bW cI cQ a nb Q L z')) 0 0 (va_A (bW cI cQ a nb Q L z0) sz) := by
  refine kt_start (by decide) rfl (Nat.le_of_ble_eq_true rfl) ?_
  intro p e s m args below meth c A ls S hr hlk hsz hA w U hl
  have hl : lv_has ls 4 [(0, .ref (a 0)), (1, .int x1), (2, .int x2), (3, .int x3)] := hl
  unfold pB_read at h
  refine lv_aload_n S.1 S.2.1 dB_read_0 rfl (lv_at hl 0 rfl) ?_
  refine lv_iload_n S.1 S.2.1 dB_read_1 rfl (lv_at hl 1 rfl) ?_
  refine lv_iload_n S.1 S.2.1 dB_read_2 rfl (lv_at hl 2 rfl) ?_
  refine lv_iload_n S.1 S.2.1 dB_read_3 rfl (lv_at hl 3 rfl) ?_
  obtain ⟨kc4, r2, z1, hc3, h5, h6⟩ := kx_cl_of h
  by_cases hk : kc4 = 0
  · have h := h5 hk
    rw [hk] at hc3
    refine kt_callv0 (As := [.int x1, .int x2, .int x3]) (rest := []) (q0 := 0) (ci := 2) S w U (fun sz => cB_refuseNoWord l D cI cQ a nb Q L _ _ _ sz x1 x2 x3 hc3) Y_B_refuseNoWord I_B_refuseNoWord S_B_refuseNoWord lB_88 ⟨rfl, rfl, Nat.le_of_ble_eq_true rfl, Nat.le_of_ble_eq_true rfl⟩ rfl rfl rfl rfl hl.1 rfl (Nat.le_of_ble_eq_true rfl) dB_read_4 ⟨Nat.le_of_ble_eq_true rfl, Nat.le_of_ble_eq_true rfl⟩ (fun H locs w => ?_)
    refine lv_aload_n S.1 S.2.1 dB_read_7 rfl (lv_at hl 0 rfl) ?_
    obtain ⟨kc10, r8, z7, hc9, h11, h12⟩ := kx_cl_of h
    by_cases hk : kc10 = 0
    · have h := h11 hk
      rw [hk] at hc9
      refine kt_callv0 (As := []) (rest := []) (q0 := 0) (ci := 2) S w U (fun sz => cB_refuseFullQueue l D cI cQ a nb Q L _ _ _ sz  hc9) Y_B_refuseFullQueue I_B_refuseFullQueue S_B_refuseFullQueue lB_92 ⟨rfl, rfl, Nat.le_of_ble_eq_true rfl, Nat.le_of_ble_eq_true rfl⟩ rfl rfl rfl rfl hl.1 rfl (Nat.le_of_ble_eq_true rfl) dB_read_8 ⟨Nat.le_of_ble_eq_true rfl, Nat.le_of_ble_eq_true rfl⟩ (fun H locs w => ?_)
      refine lv_aload_n S.1 S.2.1 dB_read_11 rfl (lv_at hl 0 rfl) ?_
      refine lv_iconst (v := 2) S.1 S.2.1 dB_read_12 (by decide) ?_
      refine lv_iload_n S.1 S.2.1 dB_read_13 rfl (lv_at hl 1 rfl) ?_
      refine lv_iload_n S.1 S.2.1 dB_read_14 rfl (lv_at hl 2 rfl) ?_
      refine lv_iload_n S.1 S.2.1 dB_read_15 rfl (lv_at hl 3 rfl) ?_
      refine lv_iconst (v := 0) S.1 S.2.1 dB_read_16 (by decide) ?_
      obtain ⟨r14, z13, hc15, h⟩ := kb_cl_of h
      refine kb_calli (As := [.int 2, .int x1, .int x2, .int x3, .int 0]) (rest := []) (q0 := 0) (ci := 2) S w (fun sz => cB_enqueue l D cI cQ a nb Q L _ _ _ sz 2 x1 x2 x3 0 hc15) Y_B_enqueue I_B_enqueue S_B_enqueue lB_95 ⟨rfl, rfl, Nat.le_of_ble_eq_true rfl, Nat.le_of_ble_eq_true rfl⟩ rfl rfl rfl rfl hl.1 rfl (Nat.le_of_ble_eq_true rfl) dB_read_17 ⟨Nat.le_of_ble_eq_true rfl, Nat.le_of_ble_eq_true rfl⟩ (fun H locs w => ?_)
      exact kb_iret (bW cI cQ a nb Q L) S hr hlk hA w (kx_r h) dB_read_20
    · exact absurd (kx_0 (h12 hk)).1 hk
  · exact absurd (kx_0 (h6 hk)).1 hk
set_option maxHeartbeats 4000000 in
set_option maxRecDepth 100000 in
theorem xB_read (l : Launch) (hst : l.stackTraces = false) (D : va_G) (cI cQ : ClassId) (a : Nat → Nat) (nb Q : Nat) (L : List Nat) (z0 z' : kc_S) (kt : Nat) (r : Int32) (sz : Nat) (x1 : Int32) (x2 : Int32) (x3 : Int32) (hk0 : kt ≠ 0) (h : pB_read nb Q L x1 x2 x3 z0 = some (kt, r, z')) : kt_Met l y_B_read (Cond.code y_B_read c_B_read 4 (some .int) :: wsB) rmx_B_read (kt_Pc kt_tx D vwCl [(cI, .int), (cQ, .object RReq)] sz [.ref (a 0), .int x1, .int x2, .int x3] (bW cI cQ a nb Q L z0)) (kx_E kt) (kt_XB D vwCl sz (bW cI cQ a nb Q L z0) (bW cI cQ a nb Q L z')) 1 6 (va_A (bW cI cQ a nb Q L z0) sz) := by
  refine kt_startX (by decide) rfl (Nat.le_of_ble_eq_true rfl) ?_
  intro p e s m args below meth c A ls S hr hlk hsz hA w U hno hl
  have hl : lv_has ls 4 [(0, .ref (a 0)), (1, .int x1), (2, .int x2), (3, .int x3)] := hl
  unfold pB_read at h
  refine lv_aload_n S.1 S.2.1 dB_read_0 rfl (lv_at hl 0 rfl) ?_
  refine lv_iload_n S.1 S.2.1 dB_read_1 rfl (lv_at hl 1 rfl) ?_
  refine lv_iload_n S.1 S.2.1 dB_read_2 rfl (lv_at hl 2 rfl) ?_
  refine lv_iload_n S.1 S.2.1 dB_read_3 rfl (lv_at hl 3 rfl) ?_
  obtain ⟨kc4, r2, z1, hc3, h5, h6⟩ := kx_cl_of h
  by_cases hk : kc4 = 0
  · have h := h5 hk
    rw [hk] at hc3
    refine kt_callv0 (As := [.int x1, .int x2, .int x3]) (rest := []) (q0 := 0) (ci := 2) S w U (fun sz => cB_refuseNoWord l D cI cQ a nb Q L _ _ _ sz x1 x2 x3 hc3) Y_B_refuseNoWord I_B_refuseNoWord S_B_refuseNoWord lB_88 ⟨rfl, rfl, Nat.le_of_ble_eq_true rfl, Nat.le_of_ble_eq_true rfl⟩ rfl rfl rfl rfl hl.1 rfl (Nat.le_of_ble_eq_true rfl) dB_read_4 ⟨Nat.le_of_ble_eq_true rfl, Nat.le_of_ble_eq_true rfl⟩ (fun H locs w => ?_)
    refine lv_aload_n S.1 S.2.1 dB_read_7 rfl (lv_at hl 0 rfl) ?_
    obtain ⟨kc10, r8, z7, hc9, h11, h12⟩ := kx_cl_of h
    by_cases hk : kc10 = 0
    · have h := h11 hk
      rw [hk] at hc9
      refine kt_callv0 (As := []) (rest := []) (q0 := 0) (ci := 2) S w U (fun sz => cB_refuseFullQueue l D cI cQ a nb Q L _ _ _ sz  hc9) Y_B_refuseFullQueue I_B_refuseFullQueue S_B_refuseFullQueue lB_92 ⟨rfl, rfl, Nat.le_of_ble_eq_true rfl, Nat.le_of_ble_eq_true rfl⟩ rfl rfl rfl rfl hl.1 rfl (Nat.le_of_ble_eq_true rfl) dB_read_8 ⟨Nat.le_of_ble_eq_true rfl, Nat.le_of_ble_eq_true rfl⟩ (fun H locs w => ?_)
      refine lv_aload_n S.1 S.2.1 dB_read_11 rfl (lv_at hl 0 rfl) ?_
      refine lv_iconst (v := 2) S.1 S.2.1 dB_read_12 (by decide) ?_
      refine lv_iload_n S.1 S.2.1 dB_read_13 rfl (lv_at hl 1 rfl) ?_
      refine lv_iload_n S.1 S.2.1 dB_read_14 rfl (lv_at hl 2 rfl) ?_
      refine lv_iload_n S.1 S.2.1 dB_read_15 rfl (lv_at hl 3 rfl) ?_
      refine lv_iconst (v := 0) S.1 S.2.1 dB_read_16 (by decide) ?_
      obtain ⟨r14, z13, hc15, h⟩ := kb_cl_of h
      refine kb_calli (As := [.int 2, .int x1, .int x2, .int x3, .int 0]) (rest := []) (q0 := 0) (ci := 2) S w (fun sz => cB_enqueue l D cI cQ a nb Q L _ _ _ sz 2 x1 x2 x3 0 hc15) Y_B_enqueue I_B_enqueue S_B_enqueue lB_95 ⟨rfl, rfl, Nat.le_of_ble_eq_true rfl, Nat.le_of_ble_eq_true rfl⟩ rfl rfl rfl rfl hl.1 rfl (Nat.le_of_ble_eq_true rfl) dB_read_17 ⟨Nat.le_of_ble_eq_true rfl, Nat.le_of_ble_eq_true rfl⟩ (fun H locs w => ?_)
      exact absurd (kx_0 h).1.symm hk0
    · refine kt_callX (E := kx_E kc10) (As := []) (rest := []) (q0 := 0) (ci := 2) S w U (fun sz => xB_refuseFullQueue l hst D cI cQ a nb Q L _ _ _ _ sz  hk hc9) Y_B_refuseFullQueue I_B_refuseFullQueue S_B_refuseFullQueue lB_92 ⟨rfl, rfl, Nat.le_of_ble_eq_true rfl, Nat.le_of_ble_eq_true rfl⟩ rfl rfl rfl rfl hl.1 rfl (Nat.le_of_ble_eq_true rfl) dB_read_8 ⟨Nat.le_of_ble_eq_true rfl, Nat.le_of_ble_eq_true rfl⟩ (fun H locs q9 ce w hce hv hcl => ?_)
      exact kx_out (bW cI cQ a nb Q L) hlk hA w hno (h12 hk) hce hv hcl ⟨Nat.le_of_ble_eq_true rfl, Nat.le_of_ble_eq_true rfl⟩
  · refine kt_callX (E := kx_E kc4) (As := [.int x1, .int x2, .int x3]) (rest := []) (q0 := 0) (ci := 2) S w U (fun sz => xB_refuseNoWord l hst D cI cQ a nb Q L _ _ _ _ sz x1 x2 x3 hk hc3) Y_B_refuseNoWord I_B_refuseNoWord S_B_refuseNoWord lB_88 ⟨rfl, rfl, Nat.le_of_ble_eq_true rfl, Nat.le_of_ble_eq_true rfl⟩ rfl rfl rfl rfl hl.1 rfl (Nat.le_of_ble_eq_true rfl) dB_read_4 ⟨Nat.le_of_ble_eq_true rfl, Nat.le_of_ble_eq_true rfl⟩ (fun H locs q9 ce w hce hv hcl => ?_)
    exact kx_out (bW cI cQ a nb Q L) hlk hA w hno (h6 hk) hce hv hcl ⟨Nat.le_of_ble_eq_true rfl, Nat.le_of_ble_eq_true rfl⟩
set_option maxHeartbeats 4000000 in
set_option maxRecDepth 100000 in
theorem cB_write (l : Launch) (D : va_G) (cI cQ : ClassId) (a : Nat → Nat) (nb Q : Nat) (L : List Nat) (z0 z' : kc_S) (r : Int32) (sz : Nat) (x1 : Int32) (x2 : Int32) (x3 : Int32) (x4 : Int32) (h : pB_write nb Q L x1 x2 x3 x4 z0 = some (0, r, z')) : Met l y_B_write (Cond.code y_B_write c_B_write 5 (some .int) :: wsB) rm_B_write (kt_Pc kt_tx D vwCl [(cI, .int), (cQ, .object RReq)] sz [.ref (a 0), .int x1, .int x2, .int x3, .int x4] (bW cI cQ a nb Q L z0)) (kb_Qi D vwCl sz (bW cI cQ a nb Q L z0) r (bW cI cQ a nb Q L z')) 0 0 (va_A (bW cI cQ a nb Q L z0) sz) := by
  refine kt_start (by decide) rfl (Nat.le_of_ble_eq_true rfl) ?_
  intro p e s m args below meth c A ls S hr hlk hsz hA w U hl
  have hl : lv_has ls 5 [(0, .ref (a 0)), (1, .int x1), (2, .int x2), (3, .int x3), (4, .int x4)] := hl
  unfold pB_write at h
  refine lv_aload_n S.1 S.2.1 dB_write_0 rfl (lv_at hl 0 rfl) ?_
  refine lv_iload_n S.1 S.2.1 dB_write_1 rfl (lv_at hl 1 rfl) ?_
  refine lv_iload_n S.1 S.2.1 dB_write_2 rfl (lv_at hl 2 rfl) ?_
  refine lv_iload_n S.1 S.2.1 dB_write_3 rfl (lv_at hl 3 rfl) ?_
  obtain ⟨kc4, r2, z1, hc3, h5, h6⟩ := kx_cl_of h
  by_cases hk : kc4 = 0
  · have h := h5 hk
    rw [hk] at hc3
    refine kt_callv0 (As := [.int x1, .int x2, .int x3]) (rest := []) (q0 := 0) (ci := 2) S w U (fun sz => cB_refuseNoWord l D cI cQ a nb Q L _ _ _ sz x1 x2 x3 hc3) Y_B_refuseNoWord I_B_refuseNoWord S_B_refuseNoWord lB_88 ⟨rfl, rfl, Nat.le_of_ble_eq_true rfl, Nat.le_of_ble_eq_true rfl⟩ rfl rfl rfl rfl hl.1 rfl (Nat.le_of_ble_eq_true rfl) dB_write_4 ⟨Nat.le_of_ble_eq_true rfl, Nat.le_of_ble_eq_true rfl⟩ (fun H locs w => ?_)
    refine lv_aload_n S.1 S.2.1 dB_write_7 rfl (lv_at hl 0 rfl) ?_
    obtain ⟨kc10, r8, z7, hc9, h11, h12⟩ := kx_cl_of h
    by_cases hk : kc10 = 0
    · have h := h11 hk
      rw [hk] at hc9
      refine kt_callv0 (As := []) (rest := []) (q0 := 0) (ci := 2) S w U (fun sz => cB_refuseFullQueue l D cI cQ a nb Q L _ _ _ sz  hc9) Y_B_refuseFullQueue I_B_refuseFullQueue S_B_refuseFullQueue lB_92 ⟨rfl, rfl, Nat.le_of_ble_eq_true rfl, Nat.le_of_ble_eq_true rfl⟩ rfl rfl rfl rfl hl.1 rfl (Nat.le_of_ble_eq_true rfl) dB_write_8 ⟨Nat.le_of_ble_eq_true rfl, Nat.le_of_ble_eq_true rfl⟩ (fun H locs w => ?_)
      refine lv_aload_n S.1 S.2.1 dB_write_11 rfl (lv_at hl 0 rfl) ?_
      refine lv_iconst (v := 3) S.1 S.2.1 dB_write_12 (by decide) ?_
      refine lv_iload_n S.1 S.2.1 dB_write_13 rfl (lv_at hl 1 rfl) ?_
      refine lv_iload_n S.1 S.2.1 dB_write_14 rfl (lv_at hl 2 rfl) ?_
      refine lv_iload_n S.1 S.2.1 dB_write_15 rfl (lv_at hl 3 rfl) ?_
      refine lv_iload S.1 S.2.1 dB_write_16 (lv_at hl 4 rfl) ?_
      obtain ⟨r14, z13, hc15, h⟩ := kb_cl_of h
      refine kb_calli (As := [.int 3, .int x1, .int x2, .int x3, .int x4]) (rest := []) (q0 := 0) (ci := 2) S w (fun sz => cB_enqueue l D cI cQ a nb Q L _ _ _ sz 3 x1 x2 x3 x4 hc15) Y_B_enqueue I_B_enqueue S_B_enqueue lB_95 ⟨rfl, rfl, Nat.le_of_ble_eq_true rfl, Nat.le_of_ble_eq_true rfl⟩ rfl rfl rfl rfl hl.1 rfl (Nat.le_of_ble_eq_true rfl) dB_write_18 ⟨Nat.le_of_ble_eq_true rfl, Nat.le_of_ble_eq_true rfl⟩ (fun H locs w => ?_)
      exact kb_iret (bW cI cQ a nb Q L) S hr hlk hA w (kx_r h) dB_write_21
    · exact absurd (kx_0 (h12 hk)).1 hk
  · exact absurd (kx_0 (h6 hk)).1 hk
set_option maxHeartbeats 4000000 in
set_option maxRecDepth 100000 in
theorem xB_write (l : Launch) (hst : l.stackTraces = false) (D : va_G) (cI cQ : ClassId) (a : Nat → Nat) (nb Q : Nat) (L : List Nat) (z0 z' : kc_S) (kt : Nat) (r : Int32) (sz : Nat) (x1 : Int32) (x2 : Int32) (x3 : Int32) (x4 : Int32) (hk0 : kt ≠ 0) (h : pB_write nb Q L x1 x2 x3 x4 z0 = some (kt, r, z')) : kt_Met l y_B_write (Cond.code y_B_write c_B_write 5 (some .int) :: wsB) rmx_B_write (kt_Pc kt_tx D vwCl [(cI, .int), (cQ, .object RReq)] sz [.ref (a 0), .int x1, .int x2, .int x3, .int x4] (bW cI cQ a nb Q L z0)) (kx_E kt) (kt_XB D vwCl sz (bW cI cQ a nb Q L z0) (bW cI cQ a nb Q L z')) 1 6 (va_A (bW cI cQ a nb Q L z0) sz) := by
  refine kt_startX (by decide) rfl (Nat.le_of_ble_eq_true rfl) ?_
  intro p e s m args below meth c A ls S hr hlk hsz hA w U hno hl
  have hl : lv_has ls 5 [(0, .ref (a 0)), (1, .int x1), (2, .int x2), (3, .int x3), (4, .int x4)] := hl
  unfold pB_write at h
  refine lv_aload_n S.1 S.2.1 dB_write_0 rfl (lv_at hl 0 rfl) ?_
  refine lv_iload_n S.1 S.2.1 dB_write_1 rfl (lv_at hl 1 rfl) ?_
  refine lv_iload_n S.1 S.2.1 dB_write_2 rfl (lv_at hl 2 rfl) ?_
  refine lv_iload_n S.1 S.2.1 dB_write_3 rfl (lv_at hl 3 rfl) ?_
  obtain ⟨kc4, r2, z1, hc3, h5, h6⟩ := kx_cl_of h
  by_cases hk : kc4 = 0
  · have h := h5 hk
    rw [hk] at hc3
    refine kt_callv0 (As := [.int x1, .int x2, .int x3]) (rest := []) (q0 := 0) (ci := 2) S w U (fun sz => cB_refuseNoWord l D cI cQ a nb Q L _ _ _ sz x1 x2 x3 hc3) Y_B_refuseNoWord I_B_refuseNoWord S_B_refuseNoWord lB_88 ⟨rfl, rfl, Nat.le_of_ble_eq_true rfl, Nat.le_of_ble_eq_true rfl⟩ rfl rfl rfl rfl hl.1 rfl (Nat.le_of_ble_eq_true rfl) dB_write_4 ⟨Nat.le_of_ble_eq_true rfl, Nat.le_of_ble_eq_true rfl⟩ (fun H locs w => ?_)
    refine lv_aload_n S.1 S.2.1 dB_write_7 rfl (lv_at hl 0 rfl) ?_
    obtain ⟨kc10, r8, z7, hc9, h11, h12⟩ := kx_cl_of h
    by_cases hk : kc10 = 0
    · have h := h11 hk
      rw [hk] at hc9
      refine kt_callv0 (As := []) (rest := []) (q0 := 0) (ci := 2) S w U (fun sz => cB_refuseFullQueue l D cI cQ a nb Q L _ _ _ sz  hc9) Y_B_refuseFullQueue I_B_refuseFullQueue S_B_refuseFullQueue lB_92 ⟨rfl, rfl, Nat.le_of_ble_eq_true rfl, Nat.le_of_ble_eq_true rfl⟩ rfl rfl rfl rfl hl.1 rfl (Nat.le_of_ble_eq_true rfl) dB_write_8 ⟨Nat.le_of_ble_eq_true rfl, Nat.le_of_ble_eq_true rfl⟩ (fun H locs w => ?_)
      refine lv_aload_n S.1 S.2.1 dB_write_11 rfl (lv_at hl 0 rfl) ?_
      refine lv_iconst (v := 3) S.1 S.2.1 dB_write_12 (by decide) ?_
      refine lv_iload_n S.1 S.2.1 dB_write_13 rfl (lv_at hl 1 rfl) ?_
      refine lv_iload_n S.1 S.2.1 dB_write_14 rfl (lv_at hl 2 rfl) ?_
      refine lv_iload_n S.1 S.2.1 dB_write_15 rfl (lv_at hl 3 rfl) ?_
      refine lv_iload S.1 S.2.1 dB_write_16 (lv_at hl 4 rfl) ?_
      obtain ⟨r14, z13, hc15, h⟩ := kb_cl_of h
      refine kb_calli (As := [.int 3, .int x1, .int x2, .int x3, .int x4]) (rest := []) (q0 := 0) (ci := 2) S w (fun sz => cB_enqueue l D cI cQ a nb Q L _ _ _ sz 3 x1 x2 x3 x4 hc15) Y_B_enqueue I_B_enqueue S_B_enqueue lB_95 ⟨rfl, rfl, Nat.le_of_ble_eq_true rfl, Nat.le_of_ble_eq_true rfl⟩ rfl rfl rfl rfl hl.1 rfl (Nat.le_of_ble_eq_true rfl) dB_write_18 ⟨Nat.le_of_ble_eq_true rfl, Nat.le_of_ble_eq_true rfl⟩ (fun H locs w => ?_)
      exact absurd (kx_0 h).1.symm hk0
    · refine kt_callX (E := kx_E kc10) (As := []) (rest := []) (q0 := 0) (ci := 2) S w U (fun sz => xB_refuseFullQueue l hst D cI cQ a nb Q L _ _ _ _ sz  hk hc9) Y_B_refuseFullQueue I_B_refuseFullQueue S_B_refuseFullQueue lB_92 ⟨rfl, rfl, Nat.le_of_ble_eq_true rfl, Nat.le_of_ble_eq_true rfl⟩ rfl rfl rfl rfl hl.1 rfl (Nat.le_of_ble_eq_true rfl) dB_write_8 ⟨Nat.le_of_ble_eq_true rfl, Nat.le_of_ble_eq_true rfl⟩ (fun H locs q9 ce w hce hv hcl => ?_)
      exact kx_out (bW cI cQ a nb Q L) hlk hA w hno (h12 hk) hce hv hcl ⟨Nat.le_of_ble_eq_true rfl, Nat.le_of_ble_eq_true rfl⟩
  · refine kt_callX (E := kx_E kc4) (As := [.int x1, .int x2, .int x3]) (rest := []) (q0 := 0) (ci := 2) S w U (fun sz => xB_refuseNoWord l hst D cI cQ a nb Q L _ _ _ _ sz x1 x2 x3 hk hc3) Y_B_refuseNoWord I_B_refuseNoWord S_B_refuseNoWord lB_88 ⟨rfl, rfl, Nat.le_of_ble_eq_true rfl, Nat.le_of_ble_eq_true rfl⟩ rfl rfl rfl rfl hl.1 rfl (Nat.le_of_ble_eq_true rfl) dB_write_4 ⟨Nat.le_of_ble_eq_true rfl, Nat.le_of_ble_eq_true rfl⟩ (fun H locs q9 ce w hce hv hcl => ?_)
    exact kx_out (bW cI cQ a nb Q L) hlk hA w hno (h6 hk) hce hv hcl ⟨Nat.le_of_ble_eq_true rfl, Nat.le_of_ble_eq_true rfl⟩
set_option maxHeartbeats 4000000 in
set_option maxRecDepth 100000 in
theorem cB_run (l : Launch) (D : va_G) (cI cQ : ClassId) (a : Nat → Nat) (nb Q : Nat) (L : List Nat) (z0 z' : kc_S) (r : Int32) (sz : Nat) (x1 : Int32) (h : pB_run nb Q L x1 z0 = some (0, r, z')) : Met l y_B_run (Cond.code y_B_run c_B_run 4 (some .int) :: wsB) rm_B_run (kt_Pc kt_tx D vwCl [(cI, .int), (cQ, .object RReq)] sz [.ref (a 0), .int x1] (bW cI cQ a nb Q L z0)) (kb_Qi D vwCl sz (bW cI cQ a nb Q L z0) r (bW cI cQ a nb Q L z')) 0 0 (va_A (bW cI cQ a nb Q L z0) sz) := by
  refine kt_start (by decide) rfl (Nat.le_of_ble_eq_true rfl) ?_
  intro p e s m args below meth c A ls S hr hlk hsz hA w U hl
  have hl : lv_has ls 4 [(0, .ref (a 0)), (1, .int x1)] := hl
  unfold pB_run at h
  have L25 : ∀ (n : Nat) (x1 : Int32) (x2 : Int32) (x3 : Int32) (z : kc_S) (H : Heap) (locs : List Loc) (ls : Array Slot), lv_has ls 4 [(0, .ref (a 0)), (1, .int x1), (2, .int x2), (3, .int x3)] → kb_W D vwCl [(cI, .int), (cQ, .object RReq)] A s H locs (bW cI cQ a nb Q L z) → pB_run_L25 nb Q L n x1 x2 x3 z = some (0, r, z') → W p l e rm_B_run s m args below meth c H locs 0 0 (MQ below (kb_Qi D vwCl sz (bW cI cQ a nb Q L z0) r (bW cI cQ a nb Q L z')) args s 0 0 (va_A (bW cI cQ a nb Q L z0) sz)) (F0 m 25 ls []) := by
    intro n
    induction n with
    | zero =>
      intro x1 x2 x3 z H locs ls hl w h
      exact absurd h (by simp [pB_run_L25])
    | succ n ih =>
      intro x1 x2 x3 z H locs ls hl w h
      rw [pB_run_L25] at h
      refine lv_iload_n S.1 S.2.1 dB_run_25 rfl (lv_at hl 3 rfl) ?_
      refine lv_iload_n S.1 S.2.1 dB_run_26 rfl (lv_at hl 1 rfl) ?_
      refine lv_icmp_ge (tgt := 46) S.1 S.2.1 dB_run_27 (by decide) (fun hc => ?_) (fun hc => ?_)
      · have h := (kb_brt hc).symm.trans h
        refine lv_iload_n S.1 S.2.1 dB_run_46 rfl (lv_at hl 2 rfl) ?_
        exact kb_iret (bW cI cQ a nb Q L) S hr hlk hA w (kx_r h) dB_run_47
      · have h := (kb_brf hc).symm.trans h
        refine lv_aload_n S.1 S.2.1 dB_run_30 rfl (lv_at hl 0 rfl) ?_
        obtain ⟨r2, z1, hc3, h⟩ := kb_cl_of h
        refine kb_calli (As := []) (rest := []) (q0 := 0) (ci := 2) S w (fun sz => cB_tick l D cI cQ a nb Q L _ _ _ sz  hc3) Y_B_tick I_B_tick S_B_tick lB_105 ⟨rfl, rfl, Nat.le_of_ble_eq_true rfl, Nat.le_of_ble_eq_true rfl⟩ rfl rfl rfl rfl hl.1 rfl (Nat.le_of_ble_eq_true rfl) dB_run_31 ⟨Nat.le_of_ble_eq_true rfl, Nat.le_of_ble_eq_true rfl⟩ (fun H locs w => ?_)
        refine lv_if_eq (tgt := 40) S.1 S.2.1 dB_run_34 (by decide) (fun hc => ?_) (fun hc => ?_)
        · have h := (kb_brt hc).symm.trans h
          refine lv_iinc (v := x3 + 1) (k := 3) S.1 S.2.1 dB_run_40 hl rfl rfl (by decide) rfl (fun ls hl => ?_)
          have hl : lv_has ls 4 [(3, .int (x3 + 1)), (0, .ref (a 0)), (1, .int x1), (2, .int x2)] := hl
          refine lv_goto (tgt := 25) S.1 S.2.1 dB_run_43 (by decide) ?_
          exact ih x1 x2 (x3 + 1) z1 _ _ _ (lv_sub hl [1, 2, 3, 0] rfl) w h
        · have h := (kb_brf hc).symm.trans h
          refine lv_iinc (v := x2 + 1) (k := 2) S.1 S.2.1 dB_run_37 hl rfl rfl (by decide) rfl (fun ls hl => ?_)
          have hl : lv_has ls 4 [(2, .int (x2 + 1)), (0, .ref (a 0)), (1, .int x1), (3, .int x3)] := hl
          refine lv_iinc (v := x3 + 1) (k := 3) S.1 S.2.1 dB_run_40 hl rfl rfl (by decide) rfl (fun ls hl => ?_)
          have hl : lv_has ls 4 [(3, .int (x3 + 1)), (2, .int (x2 + 1)), (0, .ref (a 0)), (1, .int x1)] := hl
          refine lv_goto (tgt := 25) S.1 S.2.1 dB_run_43 (by decide) ?_
          exact ih x1 (x2 + 1) (x3 + 1) z1 _ _ _ (lv_sub hl [2, 3, 1, 0] rfl) w h
  refine lv_iload_n S.1 S.2.1 dB_run_0 rfl (lv_at hl 1 rfl) ?_
  refine lv_if_lt (tgt := 11) S.1 S.2.1 dB_run_1 (by decide) (fun hc => ?_) (fun hc => ?_)
  · have h := (kb_brt hc).symm.trans h
    exact absurd (kx_0 h).1 (by decide)
  · have h := (kb_brf hc).symm.trans h
    refine lv_iload_n S.1 S.2.1 dB_run_4 rfl (lv_at hl 1 rfl) ?_
    refine lv_sipush (v := 2000) S.1 S.2.1 dB_run_5 (by decide) ?_
    refine lv_icmp_le (tgt := 21) S.1 S.2.1 dB_run_8 (by decide) (fun hc => ?_) (fun hc => ?_)
    · have h := (kb_brt hc).symm.trans h
      refine lv_iconst (v := 0) S.1 S.2.1 dB_run_21 (by decide) ?_
      refine lv_istore_n S.1 S.2.1 dB_run_22 rfl hl (by decide) rfl (fun ls hl => ?_)
      have hl : lv_has ls 4 [(2, .int 0), (0, .ref (a 0)), (1, .int x1)] := hl
      refine lv_iconst (v := 0) S.1 S.2.1 dB_run_23 (by decide) ?_
      refine lv_istore_n S.1 S.2.1 dB_run_24 rfl hl (by decide) rfl (fun ls hl => ?_)
      have hl : lv_has ls 4 [(3, .int 0), (2, .int 0), (0, .ref (a 0)), (1, .int x1)] := hl
      exact L25 3000 x1 0 0 z0 _ _ _ (lv_sub hl [2, 3, 1, 0] rfl) w h
    · have h := (kb_brf hc).symm.trans h
      exact absurd (kx_0 h).1 (by decide)
set_option maxHeartbeats 4000000 in
set_option maxRecDepth 100000 in
theorem xB_run (l : Launch) (hst : l.stackTraces = false) (D : va_G) (cI cQ : ClassId) (a : Nat → Nat) (nb Q : Nat) (L : List Nat) (z0 z' : kc_S) (kt : Nat) (r : Int32) (sz : Nat) (x1 : Int32) (hk0 : kt ≠ 0) (h : pB_run nb Q L x1 z0 = some (kt, r, z')) : kt_Met l y_B_run (Cond.code y_B_run c_B_run 4 (some .int) :: wsB) rmx_B_run (kt_Pc kt_tx D vwCl [(cI, .int), (cQ, .object RReq)] sz [.ref (a 0), .int x1] (bW cI cQ a nb Q L z0)) (kx_E kt) (kt_XB D vwCl sz (bW cI cQ a nb Q L z0) (bW cI cQ a nb Q L z')) 1 6 (va_A (bW cI cQ a nb Q L z0) sz) := by
  refine kt_startX (by decide) rfl (Nat.le_of_ble_eq_true rfl) ?_
  intro p e s m args below meth c A ls S hr hlk hsz hA w U hno hl
  have hl : lv_has ls 4 [(0, .ref (a 0)), (1, .int x1)] := hl
  unfold pB_run at h
  have L25 : ∀ (n : Nat) (x1 : Int32) (x2 : Int32) (x3 : Int32) (z : kc_S) (H : Heap) (locs : List Loc) (ls : Array Slot), lv_has ls 4 [(0, .ref (a 0)), (1, .int x1), (2, .int x2), (3, .int x3)] → kb_W D vwCl [(cI, .int), (cQ, .object RReq)] A s H locs (bW cI cQ a nb Q L z) → pB_run_L25 nb Q L n x1 x2 x3 z = some (kt, r, z') → W p l e rmx_B_run s m args below meth c H locs 0 0 (kt_MQ below (kx_E kt) (kt_XB D vwCl sz (bW cI cQ a nb Q L z0) (bW cI cQ a nb Q L z')) s 1 6 (va_A (bW cI cQ a nb Q L z0) sz)) (F0 m 25 ls []) := by
    intro n
    induction n with
    | zero =>
      intro x1 x2 x3 z H locs ls hl w h
      exact absurd h (by simp [pB_run_L25])
    | succ n ih =>
      intro x1 x2 x3 z H locs ls hl w h
      rw [pB_run_L25] at h
      refine lv_iload_n S.1 S.2.1 dB_run_25 rfl (lv_at hl 3 rfl) ?_
      refine lv_iload_n S.1 S.2.1 dB_run_26 rfl (lv_at hl 1 rfl) ?_
      refine lv_icmp_ge (tgt := 46) S.1 S.2.1 dB_run_27 (by decide) (fun hc => ?_) (fun hc => ?_)
      · have h := (kb_brt hc).symm.trans h
        refine lv_iload_n S.1 S.2.1 dB_run_46 rfl (lv_at hl 2 rfl) ?_
        exact absurd (kx_0 h).1.symm hk0
      · have h := (kb_brf hc).symm.trans h
        refine lv_aload_n S.1 S.2.1 dB_run_30 rfl (lv_at hl 0 rfl) ?_
        obtain ⟨r2, z1, hc3, h⟩ := kb_cl_of h
        refine kb_calli (As := []) (rest := []) (q0 := 0) (ci := 2) S w (fun sz => cB_tick l D cI cQ a nb Q L _ _ _ sz  hc3) Y_B_tick I_B_tick S_B_tick lB_105 ⟨rfl, rfl, Nat.le_of_ble_eq_true rfl, Nat.le_of_ble_eq_true rfl⟩ rfl rfl rfl rfl hl.1 rfl (Nat.le_of_ble_eq_true rfl) dB_run_31 ⟨Nat.le_of_ble_eq_true rfl, Nat.le_of_ble_eq_true rfl⟩ (fun H locs w => ?_)
        refine lv_if_eq (tgt := 40) S.1 S.2.1 dB_run_34 (by decide) (fun hc => ?_) (fun hc => ?_)
        · have h := (kb_brt hc).symm.trans h
          refine lv_iinc (v := x3 + 1) (k := 3) S.1 S.2.1 dB_run_40 hl rfl rfl (by decide) rfl (fun ls hl => ?_)
          have hl : lv_has ls 4 [(3, .int (x3 + 1)), (0, .ref (a 0)), (1, .int x1), (2, .int x2)] := hl
          refine lv_goto (tgt := 25) S.1 S.2.1 dB_run_43 (by decide) ?_
          exact ih x1 x2 (x3 + 1) z1 _ _ _ (lv_sub hl [1, 2, 3, 0] rfl) w h
        · have h := (kb_brf hc).symm.trans h
          refine lv_iinc (v := x2 + 1) (k := 2) S.1 S.2.1 dB_run_37 hl rfl rfl (by decide) rfl (fun ls hl => ?_)
          have hl : lv_has ls 4 [(2, .int (x2 + 1)), (0, .ref (a 0)), (1, .int x1), (3, .int x3)] := hl
          refine lv_iinc (v := x3 + 1) (k := 3) S.1 S.2.1 dB_run_40 hl rfl rfl (by decide) rfl (fun ls hl => ?_)
          have hl : lv_has ls 4 [(3, .int (x3 + 1)), (2, .int (x2 + 1)), (0, .ref (a 0)), (1, .int x1)] := hl
          refine lv_goto (tgt := 25) S.1 S.2.1 dB_run_43 (by decide) ?_
          exact ih x1 (x2 + 1) (x3 + 1) z1 _ _ _ (lv_sub hl [2, 3, 1, 0] rfl) w h
  refine lv_iload_n S.1 S.2.1 dB_run_0 rfl (lv_at hl 1 rfl) ?_
  refine lv_if_lt (tgt := 11) S.1 S.2.1 dB_run_1 (by decide) (fun hc => ?_) (fun hc => ?_)
  · have h := (kb_brt hc).symm.trans h
    exact kx_throw (kk := 2) (bW cI cQ a nb Q L) S hst hlk hA w U hno n_B_75_79 t_B_103 h hl.1 dB_run_11 dB_run_14 dB_run_15 dB_run_17 dB_run_20 ⟨Nat.le_of_ble_eq_true rfl, Nat.le_of_ble_eq_true rfl, Nat.le_of_ble_eq_true rfl, Nat.le_of_ble_eq_true rfl⟩ ⟨Nat.le_of_ble_eq_true rfl, Nat.le_of_ble_eq_true rfl⟩
  · have h := (kb_brf hc).symm.trans h
    refine lv_iload_n S.1 S.2.1 dB_run_4 rfl (lv_at hl 1 rfl) ?_
    refine lv_sipush (v := 2000) S.1 S.2.1 dB_run_5 (by decide) ?_
    refine lv_icmp_le (tgt := 21) S.1 S.2.1 dB_run_8 (by decide) (fun hc => ?_) (fun hc => ?_)
    · have h := (kb_brt hc).symm.trans h
      refine lv_iconst (v := 0) S.1 S.2.1 dB_run_21 (by decide) ?_
      refine lv_istore_n S.1 S.2.1 dB_run_22 rfl hl (by decide) rfl (fun ls hl => ?_)
      have hl : lv_has ls 4 [(2, .int 0), (0, .ref (a 0)), (1, .int x1)] := hl
      refine lv_iconst (v := 0) S.1 S.2.1 dB_run_23 (by decide) ?_
      refine lv_istore_n S.1 S.2.1 dB_run_24 rfl hl (by decide) rfl (fun ls hl => ?_)
      have hl : lv_has ls 4 [(3, .int 0), (2, .int 0), (0, .ref (a 0)), (1, .int x1)] := hl
      exact L25 3000 x1 0 0 z0 _ _ _ (lv_sub hl [2, 3, 1, 0] rfl) w h
    · have h := (kb_brf hc).symm.trans h
      exact kx_throw (kk := 2) (bW cI cQ a nb Q L) S hst hlk hA w U hno n_B_75_79 t_B_103 h hl.1 dB_run_11 dB_run_14 dB_run_15 dB_run_17 dB_run_20 ⟨Nat.le_of_ble_eq_true rfl, Nat.le_of_ble_eq_true rfl, Nat.le_of_ble_eq_true rfl, Nat.le_of_ble_eq_true rfl⟩ ⟨Nat.le_of_ble_eq_true rfl, Nat.le_of_ble_eq_true rfl⟩
set_option maxHeartbeats 4000000 in
set_option maxRecDepth 100000 in
theorem cB_result (l : Launch) (D : va_G) (cI cQ : ClassId) (a : Nat → Nat) (nb Q : Nat) (L : List Nat) (z0 z' : kc_S) (r : Int32) (sz : Nat) (x1 : Int32) (h : pB_result nb Q L x1 z0 = some (0, r, z')) : Met l y_B_result (Cond.code y_B_result c_B_result 3 (some .int) :: wsB) rm_B_result (kt_Pc kt_tx D vwCl [(cI, .int), (cQ, .object RReq)] sz [.ref (a 0), .int x1] (bW cI cQ a nb Q L z0)) (kb_Qi D vwCl sz (bW cI cQ a nb Q L z0) r (bW cI cQ a nb Q L z')) 0 0 (va_A (bW cI cQ a nb Q L z0) sz) := by
  refine kt_start (by decide) rfl (Nat.le_of_ble_eq_true rfl) ?_
  intro p e s m args below meth c A ls S hr hlk hsz hA w U hl
  have hl : lv_has ls 3 [(0, .ref (a 0)), (1, .int x1)] := hl
  unfold pB_result at h
  refine lv_iload_n S.1 S.2.1 dB_result_0 rfl (lv_at hl 1 rfl) ?_
  refine lv_if_lt (tgt := 20) S.1 S.2.1 dB_result_1 (by decide) (fun hc => ?_) (fun hc => ?_)
  · have h := (kb_brt hc).symm.trans h
    exact absurd (kx_0 h).1 (by decide)
  · have h := (kb_brf hc).symm.trans h
    refine lv_iload_n S.1 S.2.1 dB_result_4 rfl (lv_at hl 1 rfl) ?_
    refine lv_aload_n S.1 S.2.1 dB_result_5 rfl (lv_at hl 0 rfl) ?_
    refine kb_get S w 0 rfl fB_108 rfl dB_result_6 ?_
    refine W.eq (g2 := F0 m 9 ls [.int (z0.1 0 2), .int x1]) rfl ?_
    refine lv_icmp_ge (tgt := 20) S.1 S.2.1 dB_result_9 (by decide) (fun hc => ?_) (fun hc => ?_)
    · have h := (kb_brt hc).symm.trans h
      exact absurd (kx_0 h).1 (by decide)
    · have h := (kb_brf hc).symm.trans h
      refine lv_aload_n S.1 S.2.1 dB_result_12 rfl (lv_at hl 0 rfl) ?_
      refine lv_iload_n S.1 S.2.1 dB_result_13 rfl (lv_at hl 1 rfl) ?_
      obtain ⟨r2, z1, hc3, h⟩ := kb_cl_of h
      refine kb_calli (As := [.int x1]) (rest := []) (q0 := 0) (ci := 2) S w (fun sz => cB_isKept l D cI cQ a nb Q L _ _ _ sz x1 hc3) Y_B_isKept I_B_isKept S_B_isKept lB_111 ⟨rfl, rfl, Nat.le_of_ble_eq_true rfl, Nat.le_of_ble_eq_true rfl⟩ rfl rfl rfl rfl hl.1 rfl (Nat.le_of_ble_eq_true rfl) dB_result_14 ⟨Nat.le_of_ble_eq_true rfl, Nat.le_of_ble_eq_true rfl⟩ (fun H locs w => ?_)
      refine lv_if_ne (tgt := 30) S.1 S.2.1 dB_result_17 (by decide) (fun hc => ?_) (fun hc => ?_)
      · have h := (kb_brf hc).symm.trans h
        refine lv_iload_n S.1 S.2.1 dB_result_30 rfl (lv_at hl 1 rfl) ?_
        refine lv_bipush (v := 31) S.1 S.2.1 dB_result_31 (by decide) ?_
        refine lv_iand S.1 S.2.1 dB_result_33 ?_
        refine lv_istore_n S.1 S.2.1 dB_result_34 rfl hl (by decide) rfl (fun ls hl => ?_)
        have hl : lv_has ls 3 [(2, .int (x1 &&& 31)), (0, .ref (a 0)), (1, .int x1)] := hl
        refine lv_aload_n S.1 S.2.1 dB_result_35 rfl (lv_at hl 1 rfl) ?_
        refine kb_get S w 0 rfl fB_42 rfl dB_result_36 ?_
        refine W.eq (g2 := F0 m 39 ls [.ref (a 3)]) rfl ?_
        refine kb_get S w 3 rfl fB_80 rfl dB_result_39 ?_
        refine W.eq (g2 := F0 m 42 ls [.int (z1.1 3 3)]) rfl ?_
        refine lv_aload_n S.1 S.2.1 dB_result_42 rfl (lv_at hl 1 rfl) ?_
        refine kb_get S w 0 rfl fB_59 rfl dB_result_43 ?_
        refine W.eq (g2 := F0 m 46 ls [.ref (a 20), .int (z1.1 3 3)]) rfl ?_
        refine lv_iload_n S.1 S.2.1 dB_result_46 rfl (lv_at hl 0 rfl) ?_
        obtain ⟨hi4, h⟩ := kb_ck_of h
        refine kb_iald S w 20 0 rfl rfl hi4 dB_result_47 ?_
        refine W.eq (g2 := F0 m 48 ls [.int (z1.1 20 (kb_ix (x1 &&& 31))), .int (z1.1 3 3)]) rfl ?_
        refine lv_icmp_gt (tgt := 61) S.1 S.2.1 dB_result_48 (by decide) (fun hc => ?_) (fun hc => ?_)
        · have h := (kb_brt hc).symm.trans h
          refine lv_aload_n S.1 S.2.1 dB_result_61 rfl (lv_at hl 1 rfl) ?_
          refine kb_get S w 0 rfl fB_56 rfl dB_result_62 ?_
          refine W.eq (g2 := F0 m 65 ls [.ref (a 19)]) rfl ?_
          refine lv_iload_n S.1 S.2.1 dB_result_65 rfl (lv_at hl 0 rfl) ?_
          obtain ⟨hi5, h⟩ := kb_ck_of h
          refine kb_iald S w 19 0 rfl rfl hi5 dB_result_66 ?_
          refine W.eq (g2 := F0 m 67 ls [.int (z1.1 19 (kb_ix (x1 &&& 31)))]) rfl ?_
          exact kb_iret (bW cI cQ a nb Q L) S hr hlk hA w (kx_r h) dB_result_67
        · have h := (kb_brf hc).symm.trans h
          exact absurd (kx_0 h).1 (by decide)
      · have h := (kb_brt hc).symm.trans h
        exact absurd (kx_0 h).1 (by decide)
set_option maxHeartbeats 4000000 in
set_option maxRecDepth 100000 in
theorem xB_result (l : Launch) (hst : l.stackTraces = false) (D : va_G) (cI cQ : ClassId) (a : Nat → Nat) (nb Q : Nat) (L : List Nat) (z0 z' : kc_S) (kt : Nat) (r : Int32) (sz : Nat) (x1 : Int32) (hk0 : kt ≠ 0) (h : pB_result nb Q L x1 z0 = some (kt, r, z')) : kt_Met l y_B_result (Cond.code y_B_result c_B_result 3 (some .int) :: wsB) rmx_B_result (kt_Pc kt_tx D vwCl [(cI, .int), (cQ, .object RReq)] sz [.ref (a 0), .int x1] (bW cI cQ a nb Q L z0)) (kx_E kt) (kt_XB D vwCl sz (bW cI cQ a nb Q L z0) (bW cI cQ a nb Q L z')) 1 6 (va_A (bW cI cQ a nb Q L z0) sz) := by
  refine kt_startX (by decide) rfl (Nat.le_of_ble_eq_true rfl) ?_
  intro p e s m args below meth c A ls S hr hlk hsz hA w U hno hl
  have hl : lv_has ls 3 [(0, .ref (a 0)), (1, .int x1)] := hl
  unfold pB_result at h
  refine lv_iload_n S.1 S.2.1 dB_result_0 rfl (lv_at hl 1 rfl) ?_
  refine lv_if_lt (tgt := 20) S.1 S.2.1 dB_result_1 (by decide) (fun hc => ?_) (fun hc => ?_)
  · have h := (kb_brt hc).symm.trans h
    exact kx_throw (kk := 4) (bW cI cQ a nb Q L) S hst hlk hA w U hno n_B_115_119 t_B_117 h hl.1 dB_result_20 dB_result_23 dB_result_24 dB_result_26 dB_result_29 ⟨Nat.le_of_ble_eq_true rfl, Nat.le_of_ble_eq_true rfl, Nat.le_of_ble_eq_true rfl, Nat.le_of_ble_eq_true rfl⟩ ⟨Nat.le_of_ble_eq_true rfl, Nat.le_of_ble_eq_true rfl⟩
  · have h := (kb_brf hc).symm.trans h
    refine lv_iload_n S.1 S.2.1 dB_result_4 rfl (lv_at hl 1 rfl) ?_
    refine lv_aload_n S.1 S.2.1 dB_result_5 rfl (lv_at hl 0 rfl) ?_
    refine kb_get S w 0 rfl fB_108 rfl dB_result_6 ?_
    refine W.eq (g2 := F0 m 9 ls [.int (z0.1 0 2), .int x1]) rfl ?_
    refine lv_icmp_ge (tgt := 20) S.1 S.2.1 dB_result_9 (by decide) (fun hc => ?_) (fun hc => ?_)
    · have h := (kb_brt hc).symm.trans h
      exact kx_throw (kk := 4) (bW cI cQ a nb Q L) S hst hlk hA w U hno n_B_115_119 t_B_117 h hl.1 dB_result_20 dB_result_23 dB_result_24 dB_result_26 dB_result_29 ⟨Nat.le_of_ble_eq_true rfl, Nat.le_of_ble_eq_true rfl, Nat.le_of_ble_eq_true rfl, Nat.le_of_ble_eq_true rfl⟩ ⟨Nat.le_of_ble_eq_true rfl, Nat.le_of_ble_eq_true rfl⟩
    · have h := (kb_brf hc).symm.trans h
      refine lv_aload_n S.1 S.2.1 dB_result_12 rfl (lv_at hl 0 rfl) ?_
      refine lv_iload_n S.1 S.2.1 dB_result_13 rfl (lv_at hl 1 rfl) ?_
      obtain ⟨r2, z1, hc3, h⟩ := kb_cl_of h
      refine kb_calli (As := [.int x1]) (rest := []) (q0 := 0) (ci := 2) S w (fun sz => cB_isKept l D cI cQ a nb Q L _ _ _ sz x1 hc3) Y_B_isKept I_B_isKept S_B_isKept lB_111 ⟨rfl, rfl, Nat.le_of_ble_eq_true rfl, Nat.le_of_ble_eq_true rfl⟩ rfl rfl rfl rfl hl.1 rfl (Nat.le_of_ble_eq_true rfl) dB_result_14 ⟨Nat.le_of_ble_eq_true rfl, Nat.le_of_ble_eq_true rfl⟩ (fun H locs w => ?_)
      refine lv_if_ne (tgt := 30) S.1 S.2.1 dB_result_17 (by decide) (fun hc => ?_) (fun hc => ?_)
      · have h := (kb_brf hc).symm.trans h
        refine lv_iload_n S.1 S.2.1 dB_result_30 rfl (lv_at hl 1 rfl) ?_
        refine lv_bipush (v := 31) S.1 S.2.1 dB_result_31 (by decide) ?_
        refine lv_iand S.1 S.2.1 dB_result_33 ?_
        refine lv_istore_n S.1 S.2.1 dB_result_34 rfl hl (by decide) rfl (fun ls hl => ?_)
        have hl : lv_has ls 3 [(2, .int (x1 &&& 31)), (0, .ref (a 0)), (1, .int x1)] := hl
        refine lv_aload_n S.1 S.2.1 dB_result_35 rfl (lv_at hl 1 rfl) ?_
        refine kb_get S w 0 rfl fB_42 rfl dB_result_36 ?_
        refine W.eq (g2 := F0 m 39 ls [.ref (a 3)]) rfl ?_
        refine kb_get S w 3 rfl fB_80 rfl dB_result_39 ?_
        refine W.eq (g2 := F0 m 42 ls [.int (z1.1 3 3)]) rfl ?_
        refine lv_aload_n S.1 S.2.1 dB_result_42 rfl (lv_at hl 1 rfl) ?_
        refine kb_get S w 0 rfl fB_59 rfl dB_result_43 ?_
        refine W.eq (g2 := F0 m 46 ls [.ref (a 20), .int (z1.1 3 3)]) rfl ?_
        refine lv_iload_n S.1 S.2.1 dB_result_46 rfl (lv_at hl 0 rfl) ?_
        obtain ⟨hi4, h⟩ := kb_ck_of h
        refine kb_iald S w 20 0 rfl rfl hi4 dB_result_47 ?_
        refine W.eq (g2 := F0 m 48 ls [.int (z1.1 20 (kb_ix (x1 &&& 31))), .int (z1.1 3 3)]) rfl ?_
        refine lv_icmp_gt (tgt := 61) S.1 S.2.1 dB_result_48 (by decide) (fun hc => ?_) (fun hc => ?_)
        · have h := (kb_brt hc).symm.trans h
          refine lv_aload_n S.1 S.2.1 dB_result_61 rfl (lv_at hl 1 rfl) ?_
          refine kb_get S w 0 rfl fB_56 rfl dB_result_62 ?_
          refine W.eq (g2 := F0 m 65 ls [.ref (a 19)]) rfl ?_
          refine lv_iload_n S.1 S.2.1 dB_result_65 rfl (lv_at hl 0 rfl) ?_
          obtain ⟨hi5, h⟩ := kb_ck_of h
          refine kb_iald S w 19 0 rfl rfl hi5 dB_result_66 ?_
          refine W.eq (g2 := F0 m 67 ls [.int (z1.1 19 (kb_ix (x1 &&& 31)))]) rfl ?_
          exact absurd (kx_0 h).1.symm hk0
        · have h := (kb_brf hc).symm.trans h
          exact kx_throw (kk := 3) (bW cI cQ a nb Q L) S hst hlk hA w U hno n_B_83_87 t_B_120 h hl.1 dB_result_51 dB_result_54 dB_result_55 dB_result_57 dB_result_60 ⟨Nat.le_of_ble_eq_true rfl, Nat.le_of_ble_eq_true rfl, Nat.le_of_ble_eq_true rfl, Nat.le_of_ble_eq_true rfl⟩ ⟨Nat.le_of_ble_eq_true rfl, Nat.le_of_ble_eq_true rfl⟩
      · have h := (kb_brt hc).symm.trans h
        exact kx_throw (kk := 4) (bW cI cQ a nb Q L) S hst hlk hA w U hno n_B_115_119 t_B_117 h hl.1 dB_result_20 dB_result_23 dB_result_24 dB_result_26 dB_result_29 ⟨Nat.le_of_ble_eq_true rfl, Nat.le_of_ble_eq_true rfl, Nat.le_of_ble_eq_true rfl, Nat.le_of_ble_eq_true rfl⟩ ⟨Nat.le_of_ble_eq_true rfl, Nat.le_of_ble_eq_true rfl⟩
set_option maxHeartbeats 4000000 in
set_option maxRecDepth 100000 in
theorem cB_word (l : Launch) (D : va_G) (cI cQ : ClassId) (a : Nat → Nat) (nb Q : Nat) (L : List Nat) (z0 z' : kc_S) (r : Int32) (sz : Nat) (x1 : Int32) (x2 : Int32) (x3 : Int32) (h : pB_word nb Q L x1 x2 x3 z0 = some (0, r, z')) : Met l y_B_word (Cond.code y_B_word c_B_word 4 (some .int) :: wsB) rm_B_word (kt_Pc kt_tx D vwCl [(cI, .int), (cQ, .object RReq)] sz [.ref (a 0), .int x1, .int x2, .int x3] (bW cI cQ a nb Q L z0)) (kb_Qi D vwCl sz (bW cI cQ a nb Q L z0) r (bW cI cQ a nb Q L z')) 0 0 (va_A (bW cI cQ a nb Q L z0) sz) := by
  refine kt_start (by decide) rfl (Nat.le_of_ble_eq_true rfl) ?_
  intro p e s m args below meth c A ls S hr hlk hsz hA w U hl
  have hl : lv_has ls 4 [(0, .ref (a 0)), (1, .int x1), (2, .int x2), (3, .int x3)] := hl
  unfold pB_word at h
  refine lv_aload_n S.1 S.2.1 dB_word_0 rfl (lv_at hl 0 rfl) ?_
  refine lv_iload_n S.1 S.2.1 dB_word_1 rfl (lv_at hl 1 rfl) ?_
  refine lv_iload_n S.1 S.2.1 dB_word_2 rfl (lv_at hl 2 rfl) ?_
  refine lv_iload_n S.1 S.2.1 dB_word_3 rfl (lv_at hl 3 rfl) ?_
  obtain ⟨kc4, r2, z1, hc3, h5, h6⟩ := kx_cl_of h
  by_cases hk : kc4 = 0
  · have h := h5 hk
    rw [hk] at hc3
    refine kt_callv0 (As := [.int x1, .int x2, .int x3]) (rest := []) (q0 := 0) (ci := 2) S w U (fun sz => cB_refuseNoWord l D cI cQ a nb Q L _ _ _ sz x1 x2 x3 hc3) Y_B_refuseNoWord I_B_refuseNoWord S_B_refuseNoWord lB_88 ⟨rfl, rfl, Nat.le_of_ble_eq_true rfl, Nat.le_of_ble_eq_true rfl⟩ rfl rfl rfl rfl hl.1 rfl (Nat.le_of_ble_eq_true rfl) dB_word_4 ⟨Nat.le_of_ble_eq_true rfl, Nat.le_of_ble_eq_true rfl⟩ (fun H locs w => ?_)
    refine lv_aload_n S.1 S.2.1 dB_word_7 rfl (lv_at hl 0 rfl) ?_
    refine kb_get S w 0 rfl fB_34 rfl dB_word_8 ?_
    refine W.eq (g2 := F0 m 11 ls [.ref (a 2)]) rfl ?_
    refine lv_iload_n S.1 S.2.1 dB_word_11 rfl (lv_at hl 1 rfl) ?_
    refine lv_iload_n S.1 S.2.1 dB_word_12 rfl (lv_at hl 2 rfl) ?_
    refine lv_iload_n S.1 S.2.1 dB_word_13 rfl (lv_at hl 3 rfl) ?_
    obtain ⟨r8, z7, hc9, h⟩ := kb_cl_of h
    refine kb_callS (As := [.int x1, .int x2, .int x3]) (rest := [.ref (a 2)]) S w (fun sz => cB_wordPlace l D cI cQ a nb Q L _ _ _ sz x1 x2 x3 hc9) Y_B_wordPlace T_B_wordPlace lB_122 ⟨rfl, rfl, Nat.le_of_ble_eq_true rfl, Nat.le_of_ble_eq_true rfl⟩ rfl hl.1 rfl (Nat.le_of_ble_eq_true rfl) dB_word_14 ⟨Nat.le_of_ble_eq_true rfl, Nat.le_of_ble_eq_true rfl⟩ (fun H locs w => ?_)
    obtain ⟨hi10, h⟩ := kb_ck_of h
    refine kb_iald S w 2 0 rfl rfl hi10 dB_word_17 ?_
    refine W.eq (g2 := F0 m 18 ls [.int (z7.1 2 (kb_ix (r8)))]) rfl ?_
    exact kb_iret (bW cI cQ a nb Q L) S hr hlk hA w (kx_r h) dB_word_18
  · exact absurd (kx_0 (h6 hk)).1 hk
set_option maxHeartbeats 4000000 in
set_option maxRecDepth 100000 in
theorem xB_word (l : Launch) (hst : l.stackTraces = false) (D : va_G) (cI cQ : ClassId) (a : Nat → Nat) (nb Q : Nat) (L : List Nat) (z0 z' : kc_S) (kt : Nat) (r : Int32) (sz : Nat) (x1 : Int32) (x2 : Int32) (x3 : Int32) (hk0 : kt ≠ 0) (h : pB_word nb Q L x1 x2 x3 z0 = some (kt, r, z')) : kt_Met l y_B_word (Cond.code y_B_word c_B_word 4 (some .int) :: wsB) rmx_B_word (kt_Pc kt_tx D vwCl [(cI, .int), (cQ, .object RReq)] sz [.ref (a 0), .int x1, .int x2, .int x3] (bW cI cQ a nb Q L z0)) (kx_E kt) (kt_XB D vwCl sz (bW cI cQ a nb Q L z0) (bW cI cQ a nb Q L z')) 1 6 (va_A (bW cI cQ a nb Q L z0) sz) := by
  refine kt_startX (by decide) rfl (Nat.le_of_ble_eq_true rfl) ?_
  intro p e s m args below meth c A ls S hr hlk hsz hA w U hno hl
  have hl : lv_has ls 4 [(0, .ref (a 0)), (1, .int x1), (2, .int x2), (3, .int x3)] := hl
  unfold pB_word at h
  refine lv_aload_n S.1 S.2.1 dB_word_0 rfl (lv_at hl 0 rfl) ?_
  refine lv_iload_n S.1 S.2.1 dB_word_1 rfl (lv_at hl 1 rfl) ?_
  refine lv_iload_n S.1 S.2.1 dB_word_2 rfl (lv_at hl 2 rfl) ?_
  refine lv_iload_n S.1 S.2.1 dB_word_3 rfl (lv_at hl 3 rfl) ?_
  obtain ⟨kc4, r2, z1, hc3, h5, h6⟩ := kx_cl_of h
  by_cases hk : kc4 = 0
  · have h := h5 hk
    rw [hk] at hc3
    refine kt_callv0 (As := [.int x1, .int x2, .int x3]) (rest := []) (q0 := 0) (ci := 2) S w U (fun sz => cB_refuseNoWord l D cI cQ a nb Q L _ _ _ sz x1 x2 x3 hc3) Y_B_refuseNoWord I_B_refuseNoWord S_B_refuseNoWord lB_88 ⟨rfl, rfl, Nat.le_of_ble_eq_true rfl, Nat.le_of_ble_eq_true rfl⟩ rfl rfl rfl rfl hl.1 rfl (Nat.le_of_ble_eq_true rfl) dB_word_4 ⟨Nat.le_of_ble_eq_true rfl, Nat.le_of_ble_eq_true rfl⟩ (fun H locs w => ?_)
    refine lv_aload_n S.1 S.2.1 dB_word_7 rfl (lv_at hl 0 rfl) ?_
    refine kb_get S w 0 rfl fB_34 rfl dB_word_8 ?_
    refine W.eq (g2 := F0 m 11 ls [.ref (a 2)]) rfl ?_
    refine lv_iload_n S.1 S.2.1 dB_word_11 rfl (lv_at hl 1 rfl) ?_
    refine lv_iload_n S.1 S.2.1 dB_word_12 rfl (lv_at hl 2 rfl) ?_
    refine lv_iload_n S.1 S.2.1 dB_word_13 rfl (lv_at hl 3 rfl) ?_
    obtain ⟨r8, z7, hc9, h⟩ := kb_cl_of h
    refine kb_callS (As := [.int x1, .int x2, .int x3]) (rest := [.ref (a 2)]) S w (fun sz => cB_wordPlace l D cI cQ a nb Q L _ _ _ sz x1 x2 x3 hc9) Y_B_wordPlace T_B_wordPlace lB_122 ⟨rfl, rfl, Nat.le_of_ble_eq_true rfl, Nat.le_of_ble_eq_true rfl⟩ rfl hl.1 rfl (Nat.le_of_ble_eq_true rfl) dB_word_14 ⟨Nat.le_of_ble_eq_true rfl, Nat.le_of_ble_eq_true rfl⟩ (fun H locs w => ?_)
    obtain ⟨hi10, h⟩ := kb_ck_of h
    refine kb_iald S w 2 0 rfl rfl hi10 dB_word_17 ?_
    refine W.eq (g2 := F0 m 18 ls [.int (z7.1 2 (kb_ix (r8)))]) rfl ?_
    exact absurd (kx_0 h).1.symm hk0
  · refine kt_callX (E := kx_E kc4) (As := [.int x1, .int x2, .int x3]) (rest := []) (q0 := 0) (ci := 2) S w U (fun sz => xB_refuseNoWord l hst D cI cQ a nb Q L _ _ _ _ sz x1 x2 x3 hk hc3) Y_B_refuseNoWord I_B_refuseNoWord S_B_refuseNoWord lB_88 ⟨rfl, rfl, Nat.le_of_ble_eq_true rfl, Nat.le_of_ble_eq_true rfl⟩ rfl rfl rfl rfl hl.1 rfl (Nat.le_of_ble_eq_true rfl) dB_word_4 ⟨Nat.le_of_ble_eq_true rfl, Nat.le_of_ble_eq_true rfl⟩ (fun H locs q9 ce w hce hv hcl => ?_)
    exact kx_out (bW cI cQ a nb Q L) hlk hA w hno (h6 hk) hce hv hcl ⟨Nat.le_of_ble_eq_true rfl, Nat.le_of_ble_eq_true rfl⟩
set_option maxHeartbeats 4000000 in
set_option maxRecDepth 100000 in
theorem cB_open (l : Launch) (D : va_G) (cI cQ : ClassId) (a : Nat → Nat) (nb Q : Nat) (L : List Nat) (z0 z' : kc_S) (r : Int32) (sz : Nat) (x1 : Int32) (h : pB_open nb Q L x1 z0 = some (0, r, z')) : Met l y_B_open (Cond.code y_B_open c_B_open 2 (some .int) :: wsB) rm_B_open (kt_Pc kt_tx D vwCl [(cI, .int), (cQ, .object RReq)] sz [.ref (a 0), .int x1] (bW cI cQ a nb Q L z0)) (kb_Qi D vwCl sz (bW cI cQ a nb Q L z0) r (bW cI cQ a nb Q L z')) 0 0 (va_A (bW cI cQ a nb Q L z0) sz) := by
  refine kt_start (by decide) rfl (Nat.le_of_ble_eq_true rfl) ?_
  intro p e s m args below meth c A ls S hr hlk hsz hA w U hl
  have hl : lv_has ls 2 [(0, .ref (a 0)), (1, .int x1)] := hl
  unfold pB_open at h
  refine lv_aload_n S.1 S.2.1 dB_open_0 rfl (lv_at hl 0 rfl) ?_
  refine kb_get S w 0 rfl fB_42 rfl dB_open_1 ?_
  refine W.eq (g2 := F0 m 4 ls [.ref (a 3)]) rfl ?_
  refine lv_iload_n S.1 S.2.1 dB_open_4 rfl (lv_at hl 1 rfl) ?_
  obtain ⟨r2, z1, hc3, h⟩ := kb_cl_of h
  refine kb_calli (As := [.int x1]) (rest := []) (q0 := 3) (ci := 0) S w (fun sz => cC_hasBank_3 l D cI cQ a nb Q L _ _ _ sz x1 hc3) Y_C_hasBank I_C_hasBank S_C_hasBank lB_126 ⟨rfl, rfl, Nat.le_of_ble_eq_true rfl, Nat.le_of_ble_eq_true rfl⟩ rfl rfl rfl rfl hl.1 rfl (Nat.le_of_ble_eq_true rfl) dB_open_5 ⟨Nat.le_of_ble_eq_true rfl, Nat.le_of_ble_eq_true rfl⟩ (fun H locs w => ?_)
  refine lv_if_ne (tgt := 21) S.1 S.2.1 dB_open_8 (by decide) (fun hc => ?_) (fun hc => ?_)
  · have h := (kb_brf hc).symm.trans h
    refine lv_aload_n S.1 S.2.1 dB_open_21 rfl (lv_at hl 0 rfl) ?_
    refine kb_get S w 0 rfl fB_42 rfl dB_open_22 ?_
    refine W.eq (g2 := F0 m 25 ls [.ref (a 3)]) rfl ?_
    refine kb_get S w 3 rfl fB_131 rfl dB_open_25 ?_
    refine W.eq (g2 := F0 m 28 ls [.ref (a 4)]) rfl ?_
    refine lv_iload_n S.1 S.2.1 dB_open_28 rfl (lv_at hl 1 rfl) ?_
    obtain ⟨hi4, h⟩ := kb_ck_of h
    refine kb_iald S w 4 0 rfl rfl hi4 dB_open_29 ?_
    refine W.eq (g2 := F0 m 30 ls [.int (z1.1 4 (kb_ix (x1)))]) rfl ?_
    exact kb_iret (bW cI cQ a nb Q L) S hr hlk hA w (kx_r h) dB_open_30
  · have h := (kb_brt hc).symm.trans h
    exact absurd (kx_0 h).1 (by decide)
set_option maxHeartbeats 4000000 in
set_option maxRecDepth 100000 in
theorem xB_open (l : Launch) (hst : l.stackTraces = false) (D : va_G) (cI cQ : ClassId) (a : Nat → Nat) (nb Q : Nat) (L : List Nat) (z0 z' : kc_S) (kt : Nat) (r : Int32) (sz : Nat) (x1 : Int32) (hk0 : kt ≠ 0) (h : pB_open nb Q L x1 z0 = some (kt, r, z')) : kt_Met l y_B_open (Cond.code y_B_open c_B_open 2 (some .int) :: wsB) rmx_B_open (kt_Pc kt_tx D vwCl [(cI, .int), (cQ, .object RReq)] sz [.ref (a 0), .int x1] (bW cI cQ a nb Q L z0)) (kx_E kt) (kt_XB D vwCl sz (bW cI cQ a nb Q L z0) (bW cI cQ a nb Q L z')) 1 6 (va_A (bW cI cQ a nb Q L z0) sz) := by
  refine kt_startX (by decide) rfl (Nat.le_of_ble_eq_true rfl) ?_
  intro p e s m args below meth c A ls S hr hlk hsz hA w U hno hl
  have hl : lv_has ls 2 [(0, .ref (a 0)), (1, .int x1)] := hl
  unfold pB_open at h
  refine lv_aload_n S.1 S.2.1 dB_open_0 rfl (lv_at hl 0 rfl) ?_
  refine kb_get S w 0 rfl fB_42 rfl dB_open_1 ?_
  refine W.eq (g2 := F0 m 4 ls [.ref (a 3)]) rfl ?_
  refine lv_iload_n S.1 S.2.1 dB_open_4 rfl (lv_at hl 1 rfl) ?_
  obtain ⟨r2, z1, hc3, h⟩ := kb_cl_of h
  refine kb_calli (As := [.int x1]) (rest := []) (q0 := 3) (ci := 0) S w (fun sz => cC_hasBank_3 l D cI cQ a nb Q L _ _ _ sz x1 hc3) Y_C_hasBank I_C_hasBank S_C_hasBank lB_126 ⟨rfl, rfl, Nat.le_of_ble_eq_true rfl, Nat.le_of_ble_eq_true rfl⟩ rfl rfl rfl rfl hl.1 rfl (Nat.le_of_ble_eq_true rfl) dB_open_5 ⟨Nat.le_of_ble_eq_true rfl, Nat.le_of_ble_eq_true rfl⟩ (fun H locs w => ?_)
  refine lv_if_ne (tgt := 21) S.1 S.2.1 dB_open_8 (by decide) (fun hc => ?_) (fun hc => ?_)
  · have h := (kb_brf hc).symm.trans h
    refine lv_aload_n S.1 S.2.1 dB_open_21 rfl (lv_at hl 0 rfl) ?_
    refine kb_get S w 0 rfl fB_42 rfl dB_open_22 ?_
    refine W.eq (g2 := F0 m 25 ls [.ref (a 3)]) rfl ?_
    refine kb_get S w 3 rfl fB_131 rfl dB_open_25 ?_
    refine W.eq (g2 := F0 m 28 ls [.ref (a 4)]) rfl ?_
    refine lv_iload_n S.1 S.2.1 dB_open_28 rfl (lv_at hl 1 rfl) ?_
    obtain ⟨hi4, h⟩ := kb_ck_of h
    refine kb_iald S w 4 0 rfl rfl hi4 dB_open_29 ?_
    refine W.eq (g2 := F0 m 30 ls [.int (z1.1 4 (kb_ix (x1)))]) rfl ?_
    exact absurd (kx_0 h).1.symm hk0
  · have h := (kb_brt hc).symm.trans h
    exact kx_throw (kk := 1) (bW cI cQ a nb Q L) S hst hlk hA w U hno n_B_62_66 t_B_129 h hl.1 dB_open_11 dB_open_14 dB_open_15 dB_open_17 dB_open_20 ⟨Nat.le_of_ble_eq_true rfl, Nat.le_of_ble_eq_true rfl, Nat.le_of_ble_eq_true rfl, Nat.le_of_ble_eq_true rfl⟩ ⟨Nat.le_of_ble_eq_true rfl, Nat.le_of_ble_eq_true rfl⟩
