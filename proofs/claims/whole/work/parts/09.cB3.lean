set_option maxHeartbeats 4000000 in
set_option maxRecDepth 100000 in
theorem cC_brokenByOpen_3 (l : Launch) (D : va_G) (cI cQ : ClassId) (a : Nat → Nat) (nb Q : Nat) (L : List Nat) (z0 z' : kc_S) (r : Int32) (sz : Nat) (x1 : Int32) (h : pC_brokenByOpen 3 nb Q L x1 z0 = some (r, z')) : Met l y_C_brokenByOpen (Cond.code y_C_brokenByOpen c_C_brokenByOpen 2 (some .int) :: wsB) rm_C_brokenByOpen (kb_Pc D vwCl [(cI, .int), (cQ, .object RReq)] sz [.ref (a 3), .int x1] (bW cI cQ a nb Q L z0)) (kb_Qi D vwCl sz (bW cI cQ a nb Q L z0) r (bW cI cQ a nb Q L z')) 0 0 (va_A (bW cI cQ a nb Q L z0) sz) := by
  refine kb_start (by decide) rfl (Nat.le_of_ble_eq_true rfl) ?_
  intro p e s m args below meth c A ls S hr hlk hsz hA w hl
  have hl : lv_has ls 2 [(0, .ref (a 3)), (1, .int x1)] := hl
  unfold pC_brokenByOpen at h
  refine lv_aload_n S.1 S.2.1 dC_brokenByOpen_0 rfl (lv_at hl 0 rfl) ?_
  refine kb_get S w 3 rfl fC_15 rfl dC_brokenByOpen_1 ?_
  refine W.eq (g2 := F0 m 4 ls [.ref (a 4)]) rfl ?_
  refine lv_iload_n S.1 S.2.1 dC_brokenByOpen_4 rfl (lv_at hl 1 rfl) ?_
  obtain ⟨hi1, h⟩ := kb_ck_of h
  refine kb_iald S w 4 0 rfl rfl hi1 dC_brokenByOpen_5 ?_
  refine W.eq (g2 := F0 m 6 ls [.int (z0.1 4 (kb_ix (x1)))]) rfl ?_
  refine lv_iconst (v := (-1)) S.1 S.2.1 dC_brokenByOpen_6 (by decide) ?_
  refine lv_icmp_eq (tgt := 12) S.1 S.2.1 dC_brokenByOpen_7 (by decide) (fun hc => ?_) (fun hc => ?_)
  · have h := (kb_brt hc).symm.trans h
    refine lv_aload_n S.1 S.2.1 dC_brokenByOpen_12 rfl (lv_at hl 0 rfl) ?_
    refine lv_iconst (v := 1) S.1 S.2.1 dC_brokenByOpen_13 (by decide) ?_
    refine lv_aload_n S.1 S.2.1 dC_brokenByOpen_14 rfl (lv_at hl 0 rfl) ?_
    refine kb_get S w 3 rfl fC_21 rfl dC_brokenByOpen_15 ?_
    refine W.eq (g2 := F0 m 18 ls [.ref (a 6), .int 1, .ref (a 3)]) rfl ?_
    refine lv_iload_n S.1 S.2.1 dC_brokenByOpen_18 rfl (lv_at hl 1 rfl) ?_
    obtain ⟨hi2, h⟩ := kb_ck_of h
    refine kb_iald S w 6 0 rfl rfl hi2 dC_brokenByOpen_19 ?_
    refine W.eq (g2 := F0 m 20 ls [.int (z0.1 6 (kb_ix (x1))), .int 1, .ref (a 3)]) rfl ?_
    obtain ⟨r4, z3, hc5, h⟩ := kb_cl_of h
    refine kb_calli (As := [.int 1, .int (z0.1 6 (kb_ix (x1)))]) (rest := []) (q0 := 3) (ci := 0) S w (fun sz => cC_isTooSoon_3 l D cI cQ a nb Q L _ _ _ sz 1 (z0.1 6 (kb_ix (x1))) hc5) Y_C_isTooSoon I_C_isTooSoon S_C_isTooSoon lC_58 ⟨rfl, rfl, Nat.le_of_ble_eq_true rfl, Nat.le_of_ble_eq_true rfl⟩ rfl rfl rfl rfl hl.1 rfl (Nat.le_of_ble_eq_true rfl) dC_brokenByOpen_20 ⟨Nat.le_of_ble_eq_true rfl, Nat.le_of_ble_eq_true rfl⟩ (fun H locs w => ?_)
    refine lv_if_eq (tgt := 28) S.1 S.2.1 dC_brokenByOpen_23 (by decide) (fun hc => ?_) (fun hc => ?_)
    · have h := (kb_brt hc).symm.trans h
      refine lv_aload_n S.1 S.2.1 dC_brokenByOpen_28 rfl (lv_at hl 0 rfl) ?_
      refine lv_iconst (v := 3) S.1 S.2.1 dC_brokenByOpen_29 (by decide) ?_
      refine lv_aload_n S.1 S.2.1 dC_brokenByOpen_30 rfl (lv_at hl 0 rfl) ?_
      refine kb_get S w 3 rfl fC_18 rfl dC_brokenByOpen_31 ?_
      refine W.eq (g2 := F0 m 34 ls [.ref (a 5), .int 3, .ref (a 3)]) rfl ?_
      refine lv_iload_n S.1 S.2.1 dC_brokenByOpen_34 rfl (lv_at hl 1 rfl) ?_
      obtain ⟨hi6, h⟩ := kb_ck_of h
      refine kb_iald S w 5 0 rfl rfl hi6 dC_brokenByOpen_35 ?_
      refine W.eq (g2 := F0 m 36 ls [.int (z3.1 5 (kb_ix (x1))), .int 3, .ref (a 3)]) rfl ?_
      obtain ⟨r8, z7, hc9, h⟩ := kb_cl_of h
      refine kb_calli (As := [.int 3, .int (z3.1 5 (kb_ix (x1)))]) (rest := []) (q0 := 3) (ci := 0) S w (fun sz => cC_isTooSoon_3 l D cI cQ a nb Q L _ _ _ sz 3 (z3.1 5 (kb_ix (x1))) hc9) Y_C_isTooSoon I_C_isTooSoon S_C_isTooSoon lC_58 ⟨rfl, rfl, Nat.le_of_ble_eq_true rfl, Nat.le_of_ble_eq_true rfl⟩ rfl rfl rfl rfl hl.1 rfl (Nat.le_of_ble_eq_true rfl) dC_brokenByOpen_36 ⟨Nat.le_of_ble_eq_true rfl, Nat.le_of_ble_eq_true rfl⟩ (fun H locs w => ?_)
      refine lv_if_eq (tgt := 44) S.1 S.2.1 dC_brokenByOpen_39 (by decide) (fun hc => ?_) (fun hc => ?_)
      · have h := (kb_brt hc).symm.trans h
        refine lv_aload_n S.1 S.2.1 dC_brokenByOpen_44 rfl (lv_at hl 0 rfl) ?_
        refine lv_iload_n S.1 S.2.1 dC_brokenByOpen_45 rfl (lv_at hl 1 rfl) ?_
        obtain ⟨r11, z10, hc12, h⟩ := kb_cl_of h
        refine kb_calli (As := [.int x1]) (rest := []) (q0 := 3) (ci := 0) S w (fun sz => cC_isTooSoonForOthers_3 l D cI cQ a nb Q L _ _ _ sz x1 hc12) Y_C_isTooSoonForOthers I_C_isTooSoonForOthers S_C_isTooSoonForOthers lC_62 ⟨rfl, rfl, Nat.le_of_ble_eq_true rfl, Nat.le_of_ble_eq_true rfl⟩ rfl rfl rfl rfl hl.1 rfl (Nat.le_of_ble_eq_true rfl) dC_brokenByOpen_46 ⟨Nat.le_of_ble_eq_true rfl, Nat.le_of_ble_eq_true rfl⟩ (fun H locs w => ?_)
        refine lv_if_eq (tgt := 54) S.1 S.2.1 dC_brokenByOpen_49 (by decide) (fun hc => ?_) (fun hc => ?_)
        · have h := (kb_brt hc).symm.trans h
          refine lv_aload_n S.1 S.2.1 dC_brokenByOpen_54 rfl (lv_at hl 0 rfl) ?_
          refine lv_bipush (v := 8) S.1 S.2.1 dC_brokenByOpen_55 (by decide) ?_
          refine lv_aload_n S.1 S.2.1 dC_brokenByOpen_57 rfl (lv_at hl 0 rfl) ?_
          refine kb_get S w 3 rfl fC_30 rfl dC_brokenByOpen_58 ?_
          refine W.eq (g2 := F0 m 61 ls [.ref (a 9), .int 8, .ref (a 3)]) rfl ?_
          refine lv_aload_n S.1 S.2.1 dC_brokenByOpen_61 rfl (lv_at hl 0 rfl) ?_
          refine kb_get S w 3 rfl fC_66 rfl dC_brokenByOpen_62 ?_
          refine W.eq (g2 := F0 m 65 ls [.int (z10.1 3 0), .ref (a 9), .int 8, .ref (a 3)]) rfl ?_
          obtain ⟨hi13, h⟩ := kb_ck_of h
          refine kb_iald S w 9 0 rfl rfl hi13 dC_brokenByOpen_65 ?_
          refine W.eq (g2 := F0 m 66 ls [.int (z10.1 9 (kb_ix (z10.1 3 0))), .int 8, .ref (a 3)]) rfl ?_
          obtain ⟨r15, z14, hc16, h⟩ := kb_cl_of h
          refine kb_calli (As := [.int 8, .int (z10.1 9 (kb_ix (z10.1 3 0)))]) (rest := []) (q0 := 3) (ci := 0) S w (fun sz => cC_isTooSoon_3 l D cI cQ a nb Q L _ _ _ sz 8 (z10.1 9 (kb_ix (z10.1 3 0))) hc16) Y_C_isTooSoon I_C_isTooSoon S_C_isTooSoon lC_58 ⟨rfl, rfl, Nat.le_of_ble_eq_true rfl, Nat.le_of_ble_eq_true rfl⟩ rfl rfl rfl rfl hl.1 rfl (Nat.le_of_ble_eq_true rfl) dC_brokenByOpen_66 ⟨Nat.le_of_ble_eq_true rfl, Nat.le_of_ble_eq_true rfl⟩ (fun H locs w => ?_)
          refine lv_if_eq (tgt := 74) S.1 S.2.1 dC_brokenByOpen_69 (by decide) (fun hc => ?_) (fun hc => ?_)
          · have h := (kb_brt hc).symm.trans h
            refine lv_aload_n S.1 S.2.1 dC_brokenByOpen_74 rfl (lv_at hl 0 rfl) ?_
            refine lv_bipush (v := 9) S.1 S.2.1 dC_brokenByOpen_75 (by decide) ?_
            refine lv_aload_n S.1 S.2.1 dC_brokenByOpen_77 rfl (lv_at hl 0 rfl) ?_
            refine kb_get S w 3 rfl fC_40 rfl dC_brokenByOpen_78 ?_
            refine W.eq (g2 := F0 m 81 ls [.int (z14.1 3 2), .int 9, .ref (a 3)]) rfl ?_
            obtain ⟨r18, z17, hc19, h⟩ := kb_cl_of h
            refine kb_calli (As := [.int 9, .int (z14.1 3 2)]) (rest := []) (q0 := 3) (ci := 0) S w (fun sz => cC_isTooSoon_3 l D cI cQ a nb Q L _ _ _ sz 9 (z14.1 3 2) hc19) Y_C_isTooSoon I_C_isTooSoon S_C_isTooSoon lC_58 ⟨rfl, rfl, Nat.le_of_ble_eq_true rfl, Nat.le_of_ble_eq_true rfl⟩ rfl rfl rfl rfl hl.1 rfl (Nat.le_of_ble_eq_true rfl) dC_brokenByOpen_81 ⟨Nat.le_of_ble_eq_true rfl, Nat.le_of_ble_eq_true rfl⟩ (fun H locs w => ?_)
            refine lv_if_eq (tgt := 92) S.1 S.2.1 dC_brokenByOpen_84 (by decide) (fun hc => ?_) (fun hc => ?_)
            · have h := (kb_brt hc).symm.trans h
              refine lv_iconst (v := 0) S.1 S.2.1 dC_brokenByOpen_92 (by decide) ?_
              exact kb_iret (bW cI cQ a nb Q L) S hr hlk hA w h dC_brokenByOpen_93
            · have h := (kb_brf hc).symm.trans h
              refine lv_bipush (v := 6) S.1 S.2.1 dC_brokenByOpen_87 (by decide) ?_
              refine lv_goto (tgt := 93) S.1 S.2.1 dC_brokenByOpen_89 (by decide) ?_
              exact kb_iret (bW cI cQ a nb Q L) S hr hlk hA w h dC_brokenByOpen_93
          · have h := (kb_brf hc).symm.trans h
            refine lv_iconst (v := 5) S.1 S.2.1 dC_brokenByOpen_72 (by decide) ?_
            exact kb_iret (bW cI cQ a nb Q L) S hr hlk hA w h dC_brokenByOpen_73
        · have h := (kb_brf hc).symm.trans h
          refine lv_iconst (v := 4) S.1 S.2.1 dC_brokenByOpen_52 (by decide) ?_
          exact kb_iret (bW cI cQ a nb Q L) S hr hlk hA w h dC_brokenByOpen_53
      · have h := (kb_brf hc).symm.trans h
        refine lv_iconst (v := 3) S.1 S.2.1 dC_brokenByOpen_42 (by decide) ?_
        exact kb_iret (bW cI cQ a nb Q L) S hr hlk hA w h dC_brokenByOpen_43
    · have h := (kb_brf hc).symm.trans h
      refine lv_iconst (v := 2) S.1 S.2.1 dC_brokenByOpen_26 (by decide) ?_
      exact kb_iret (bW cI cQ a nb Q L) S hr hlk hA w h dC_brokenByOpen_27
  · have h := (kb_brf hc).symm.trans h
    refine lv_iconst (v := 1) S.1 S.2.1 dC_brokenByOpen_10 (by decide) ?_
    exact kb_iret (bW cI cQ a nb Q L) S hr hlk hA w h dC_brokenByOpen_11
set_option maxHeartbeats 4000000 in
set_option maxRecDepth 100000 in
theorem cC_brokenByOpen_11 (l : Launch) (D : va_G) (cI cQ : ClassId) (a : Nat → Nat) (nb Q : Nat) (L : List Nat) (z0 z' : kc_S) (r : Int32) (sz : Nat) (x1 : Int32) (h : pC_brokenByOpen 11 nb Q L x1 z0 = some (r, z')) : Met l y_C_brokenByOpen (Cond.code y_C_brokenByOpen c_C_brokenByOpen 2 (some .int) :: wsB) rm_C_brokenByOpen (kb_Pc D vwCl [(cI, .int), (cQ, .object RReq)] sz [.ref (a 11), .int x1] (bW cI cQ a nb Q L z0)) (kb_Qi D vwCl sz (bW cI cQ a nb Q L z0) r (bW cI cQ a nb Q L z')) 0 0 (va_A (bW cI cQ a nb Q L z0) sz) := by
  refine kb_start (by decide) rfl (Nat.le_of_ble_eq_true rfl) ?_
  intro p e s m args below meth c A ls S hr hlk hsz hA w hl
  have hl : lv_has ls 2 [(0, .ref (a 11)), (1, .int x1)] := hl
  unfold pC_brokenByOpen at h
  refine lv_aload_n S.1 S.2.1 dC_brokenByOpen_0 rfl (lv_at hl 0 rfl) ?_
  refine kb_get S w 11 rfl fC_15 rfl dC_brokenByOpen_1 ?_
  refine W.eq (g2 := F0 m 4 ls [.ref (a 12)]) rfl ?_
  refine lv_iload_n S.1 S.2.1 dC_brokenByOpen_4 rfl (lv_at hl 1 rfl) ?_
  obtain ⟨hi1, h⟩ := kb_ck_of h
  refine kb_iald S w 12 0 rfl rfl hi1 dC_brokenByOpen_5 ?_
  refine W.eq (g2 := F0 m 6 ls [.int (z0.1 12 (kb_ix (x1)))]) rfl ?_
  refine lv_iconst (v := (-1)) S.1 S.2.1 dC_brokenByOpen_6 (by decide) ?_
  refine lv_icmp_eq (tgt := 12) S.1 S.2.1 dC_brokenByOpen_7 (by decide) (fun hc => ?_) (fun hc => ?_)
  · have h := (kb_brt hc).symm.trans h
    refine lv_aload_n S.1 S.2.1 dC_brokenByOpen_12 rfl (lv_at hl 0 rfl) ?_
    refine lv_iconst (v := 1) S.1 S.2.1 dC_brokenByOpen_13 (by decide) ?_
    refine lv_aload_n S.1 S.2.1 dC_brokenByOpen_14 rfl (lv_at hl 0 rfl) ?_
    refine kb_get S w 11 rfl fC_21 rfl dC_brokenByOpen_15 ?_
    refine W.eq (g2 := F0 m 18 ls [.ref (a 14), .int 1, .ref (a 11)]) rfl ?_
    refine lv_iload_n S.1 S.2.1 dC_brokenByOpen_18 rfl (lv_at hl 1 rfl) ?_
    obtain ⟨hi2, h⟩ := kb_ck_of h
    refine kb_iald S w 14 0 rfl rfl hi2 dC_brokenByOpen_19 ?_
    refine W.eq (g2 := F0 m 20 ls [.int (z0.1 14 (kb_ix (x1))), .int 1, .ref (a 11)]) rfl ?_
    obtain ⟨r4, z3, hc5, h⟩ := kb_cl_of h
    refine kb_calli (As := [.int 1, .int (z0.1 14 (kb_ix (x1)))]) (rest := []) (q0 := 11) (ci := 0) S w (fun sz => cC_isTooSoon_11 l D cI cQ a nb Q L _ _ _ sz 1 (z0.1 14 (kb_ix (x1))) hc5) Y_C_isTooSoon I_C_isTooSoon S_C_isTooSoon lC_58 ⟨rfl, rfl, Nat.le_of_ble_eq_true rfl, Nat.le_of_ble_eq_true rfl⟩ rfl rfl rfl rfl hl.1 rfl (Nat.le_of_ble_eq_true rfl) dC_brokenByOpen_20 ⟨Nat.le_of_ble_eq_true rfl, Nat.le_of_ble_eq_true rfl⟩ (fun H locs w => ?_)
    refine lv_if_eq (tgt := 28) S.1 S.2.1 dC_brokenByOpen_23 (by decide) (fun hc => ?_) (fun hc => ?_)
    · have h := (kb_brt hc).symm.trans h
      refine lv_aload_n S.1 S.2.1 dC_brokenByOpen_28 rfl (lv_at hl 0 rfl) ?_
      refine lv_iconst (v := 3) S.1 S.2.1 dC_brokenByOpen_29 (by decide) ?_
      refine lv_aload_n S.1 S.2.1 dC_brokenByOpen_30 rfl (lv_at hl 0 rfl) ?_
      refine kb_get S w 11 rfl fC_18 rfl dC_brokenByOpen_31 ?_
      refine W.eq (g2 := F0 m 34 ls [.ref (a 13), .int 3, .ref (a 11)]) rfl ?_
      refine lv_iload_n S.1 S.2.1 dC_brokenByOpen_34 rfl (lv_at hl 1 rfl) ?_
      obtain ⟨hi6, h⟩ := kb_ck_of h
      refine kb_iald S w 13 0 rfl rfl hi6 dC_brokenByOpen_35 ?_
      refine W.eq (g2 := F0 m 36 ls [.int (z3.1 13 (kb_ix (x1))), .int 3, .ref (a 11)]) rfl ?_
      obtain ⟨r8, z7, hc9, h⟩ := kb_cl_of h
      refine kb_calli (As := [.int 3, .int (z3.1 13 (kb_ix (x1)))]) (rest := []) (q0 := 11) (ci := 0) S w (fun sz => cC_isTooSoon_11 l D cI cQ a nb Q L _ _ _ sz 3 (z3.1 13 (kb_ix (x1))) hc9) Y_C_isTooSoon I_C_isTooSoon S_C_isTooSoon lC_58 ⟨rfl, rfl, Nat.le_of_ble_eq_true rfl, Nat.le_of_ble_eq_true rfl⟩ rfl rfl rfl rfl hl.1 rfl (Nat.le_of_ble_eq_true rfl) dC_brokenByOpen_36 ⟨Nat.le_of_ble_eq_true rfl, Nat.le_of_ble_eq_true rfl⟩ (fun H locs w => ?_)
      refine lv_if_eq (tgt := 44) S.1 S.2.1 dC_brokenByOpen_39 (by decide) (fun hc => ?_) (fun hc => ?_)
      · have h := (kb_brt hc).symm.trans h
        refine lv_aload_n S.1 S.2.1 dC_brokenByOpen_44 rfl (lv_at hl 0 rfl) ?_
        refine lv_iload_n S.1 S.2.1 dC_brokenByOpen_45 rfl (lv_at hl 1 rfl) ?_
        obtain ⟨r11, z10, hc12, h⟩ := kb_cl_of h
        refine kb_calli (As := [.int x1]) (rest := []) (q0 := 11) (ci := 0) S w (fun sz => cC_isTooSoonForOthers_11 l D cI cQ a nb Q L _ _ _ sz x1 hc12) Y_C_isTooSoonForOthers I_C_isTooSoonForOthers S_C_isTooSoonForOthers lC_62 ⟨rfl, rfl, Nat.le_of_ble_eq_true rfl, Nat.le_of_ble_eq_true rfl⟩ rfl rfl rfl rfl hl.1 rfl (Nat.le_of_ble_eq_true rfl) dC_brokenByOpen_46 ⟨Nat.le_of_ble_eq_true rfl, Nat.le_of_ble_eq_true rfl⟩ (fun H locs w => ?_)
        refine lv_if_eq (tgt := 54) S.1 S.2.1 dC_brokenByOpen_49 (by decide) (fun hc => ?_) (fun hc => ?_)
        · have h := (kb_brt hc).symm.trans h
          refine lv_aload_n S.1 S.2.1 dC_brokenByOpen_54 rfl (lv_at hl 0 rfl) ?_
          refine lv_bipush (v := 8) S.1 S.2.1 dC_brokenByOpen_55 (by decide) ?_
          refine lv_aload_n S.1 S.2.1 dC_brokenByOpen_57 rfl (lv_at hl 0 rfl) ?_
          refine kb_get S w 11 rfl fC_30 rfl dC_brokenByOpen_58 ?_
          refine W.eq (g2 := F0 m 61 ls [.ref (a 17), .int 8, .ref (a 11)]) rfl ?_
          refine lv_aload_n S.1 S.2.1 dC_brokenByOpen_61 rfl (lv_at hl 0 rfl) ?_
          refine kb_get S w 11 rfl fC_66 rfl dC_brokenByOpen_62 ?_
          refine W.eq (g2 := F0 m 65 ls [.int (z10.1 11 0), .ref (a 17), .int 8, .ref (a 11)]) rfl ?_
          obtain ⟨hi13, h⟩ := kb_ck_of h
          refine kb_iald S w 17 0 rfl rfl hi13 dC_brokenByOpen_65 ?_
          refine W.eq (g2 := F0 m 66 ls [.int (z10.1 17 (kb_ix (z10.1 11 0))), .int 8, .ref (a 11)]) rfl ?_
          obtain ⟨r15, z14, hc16, h⟩ := kb_cl_of h
          refine kb_calli (As := [.int 8, .int (z10.1 17 (kb_ix (z10.1 11 0)))]) (rest := []) (q0 := 11) (ci := 0) S w (fun sz => cC_isTooSoon_11 l D cI cQ a nb Q L _ _ _ sz 8 (z10.1 17 (kb_ix (z10.1 11 0))) hc16) Y_C_isTooSoon I_C_isTooSoon S_C_isTooSoon lC_58 ⟨rfl, rfl, Nat.le_of_ble_eq_true rfl, Nat.le_of_ble_eq_true rfl⟩ rfl rfl rfl rfl hl.1 rfl (Nat.le_of_ble_eq_true rfl) dC_brokenByOpen_66 ⟨Nat.le_of_ble_eq_true rfl, Nat.le_of_ble_eq_true rfl⟩ (fun H locs w => ?_)
          refine lv_if_eq (tgt := 74) S.1 S.2.1 dC_brokenByOpen_69 (by decide) (fun hc => ?_) (fun hc => ?_)
          · have h := (kb_brt hc).symm.trans h
            refine lv_aload_n S.1 S.2.1 dC_brokenByOpen_74 rfl (lv_at hl 0 rfl) ?_
            refine lv_bipush (v := 9) S.1 S.2.1 dC_brokenByOpen_75 (by decide) ?_
            refine lv_aload_n S.1 S.2.1 dC_brokenByOpen_77 rfl (lv_at hl 0 rfl) ?_
            refine kb_get S w 11 rfl fC_40 rfl dC_brokenByOpen_78 ?_
            refine W.eq (g2 := F0 m 81 ls [.int (z14.1 11 2), .int 9, .ref (a 11)]) rfl ?_
            obtain ⟨r18, z17, hc19, h⟩ := kb_cl_of h
            refine kb_calli (As := [.int 9, .int (z14.1 11 2)]) (rest := []) (q0 := 11) (ci := 0) S w (fun sz => cC_isTooSoon_11 l D cI cQ a nb Q L _ _ _ sz 9 (z14.1 11 2) hc19) Y_C_isTooSoon I_C_isTooSoon S_C_isTooSoon lC_58 ⟨rfl, rfl, Nat.le_of_ble_eq_true rfl, Nat.le_of_ble_eq_true rfl⟩ rfl rfl rfl rfl hl.1 rfl (Nat.le_of_ble_eq_true rfl) dC_brokenByOpen_81 ⟨Nat.le_of_ble_eq_true rfl, Nat.le_of_ble_eq_true rfl⟩ (fun H locs w => ?_)
            refine lv_if_eq (tgt := 92) S.1 S.2.1 dC_brokenByOpen_84 (by decide) (fun hc => ?_) (fun hc => ?_)
            · have h := (kb_brt hc).symm.trans h
              refine lv_iconst (v := 0) S.1 S.2.1 dC_brokenByOpen_92 (by decide) ?_
              exact kb_iret (bW cI cQ a nb Q L) S hr hlk hA w h dC_brokenByOpen_93
            · have h := (kb_brf hc).symm.trans h
              refine lv_bipush (v := 6) S.1 S.2.1 dC_brokenByOpen_87 (by decide) ?_
              refine lv_goto (tgt := 93) S.1 S.2.1 dC_brokenByOpen_89 (by decide) ?_
              exact kb_iret (bW cI cQ a nb Q L) S hr hlk hA w h dC_brokenByOpen_93
          · have h := (kb_brf hc).symm.trans h
            refine lv_iconst (v := 5) S.1 S.2.1 dC_brokenByOpen_72 (by decide) ?_
            exact kb_iret (bW cI cQ a nb Q L) S hr hlk hA w h dC_brokenByOpen_73
        · have h := (kb_brf hc).symm.trans h
          refine lv_iconst (v := 4) S.1 S.2.1 dC_brokenByOpen_52 (by decide) ?_
          exact kb_iret (bW cI cQ a nb Q L) S hr hlk hA w h dC_brokenByOpen_53
      · have h := (kb_brf hc).symm.trans h
        refine lv_iconst (v := 3) S.1 S.2.1 dC_brokenByOpen_42 (by decide) ?_
        exact kb_iret (bW cI cQ a nb Q L) S hr hlk hA w h dC_brokenByOpen_43
    · have h := (kb_brf hc).symm.trans h
      refine lv_iconst (v := 2) S.1 S.2.1 dC_brokenByOpen_26 (by decide) ?_
      exact kb_iret (bW cI cQ a nb Q L) S hr hlk hA w h dC_brokenByOpen_27
  · have h := (kb_brf hc).symm.trans h
    refine lv_iconst (v := 1) S.1 S.2.1 dC_brokenByOpen_10 (by decide) ?_
    exact kb_iret (bW cI cQ a nb Q L) S hr hlk hA w h dC_brokenByOpen_11
set_option maxHeartbeats 4000000 in
set_option maxRecDepth 100000 in
theorem cB_isWanted (l : Launch) (D : va_G) (cI cQ : ClassId) (a : Nat → Nat) (nb Q : Nat) (L : List Nat) (z0 z' : kc_S) (r : Int32) (sz : Nat) (x1 : Int32) (x2 : Int32) (x3 : Int32) (h : pB_isWanted nb Q L x1 x2 x3 z0 = some (r, z')) : Met l y_B_isWanted (Cond.code y_B_isWanted c_B_isWanted 5 (some .boolean) :: wsB) rm_B_isWanted (kb_Pc D vwCl [(cI, .int), (cQ, .object RReq)] sz [.ref (a 0), .int x1, .int x2, .int x3] (bW cI cQ a nb Q L z0)) (kb_Qi D vwCl sz (bW cI cQ a nb Q L z0) r (bW cI cQ a nb Q L z')) 0 0 (va_A (bW cI cQ a nb Q L z0) sz) := by
  refine kb_start (by decide) rfl (Nat.le_of_ble_eq_true rfl) ?_
  intro p e s m args below meth c A ls S hr hlk hsz hA w hl
  have hl : lv_has ls 5 [(0, .ref (a 0)), (1, .int x1), (2, .int x2), (3, .int x3)] := hl
  unfold pB_isWanted at h
  have L3 : ∀ (n : Nat) (x1 : Int32) (x2 : Int32) (x3 : Int32) (x4 : Int32) (z : kc_S) (H : Heap) (locs : List Loc) (ls : Array Slot), lv_has ls 5 [(0, .ref (a 0)), (1, .int x1), (2, .int x2), (3, .int x3), (4, .int x4)] → kb_W D vwCl [(cI, .int), (cQ, .object RReq)] A s H locs (bW cI cQ a nb Q L z) → pB_isWanted_L3 nb Q L n x1 x2 x3 x4 z = some (r, z') → W p l e rm_B_isWanted s m args below meth c H locs 0 0 (MQ below (kb_Qi D vwCl sz (bW cI cQ a nb Q L z0) r (bW cI cQ a nb Q L z')) args s 0 0 (va_A (bW cI cQ a nb Q L z0) sz)) (F0 m 3 ls []) := by
    intro n
    induction n with
    | zero =>
      intro x1 x2 x3 x4 z H locs ls hl w h
      exact absurd h (by simp [pB_isWanted_L3])
    | succ n ih =>
      intro x1 x2 x3 x4 z H locs ls hl w h
      rw [pB_isWanted_L3] at h
      refine lv_iload S.1 S.2.1 dB_isWanted_3 (lv_at hl 4 rfl) ?_
      refine lv_iload_n S.1 S.2.1 dB_isWanted_5 rfl (lv_at hl 3 rfl) ?_
      refine lv_icmp_ge (tgt := 45) S.1 S.2.1 dB_isWanted_6 (by decide) (fun hc => ?_) (fun hc => ?_)
      · have h := (kb_brt hc).symm.trans h
        refine lv_iconst (v := 0) S.1 S.2.1 dB_isWanted_45 (by decide) ?_
        exact kb_zret (bW cI cQ a nb Q L) S hr hlk hA w h (by decide) dB_isWanted_46
      · have h := (kb_brf hc).symm.trans h
        refine lv_aload_n S.1 S.2.1 dB_isWanted_9 rfl (lv_at hl 0 rfl) ?_
        refine kb_get S w 0 rfl fB_51 rfl dB_isWanted_10 ?_
        refine W.eq (g2 := F0 m 13 ls [.ref (a 21)]) rfl ?_
        refine lv_iload S.1 S.2.1 dB_isWanted_13 (lv_at hl 4 rfl) ?_
        obtain ⟨hi1, h⟩ := kb_ck_of h
        refine kb_ald S w 21 1 rfl rfl hi1 dB_isWanted_15 ?_
        refine W.eq (g2 := F0 m 16 ls [.ref (z.2.1 (kb_ix (x4)))]) rfl ?_
        obtain ⟨hm2, h⟩ := kb_ck_of h
        obtain ⟨k3, hq4⟩ := va_pl_get (X := bX cI cQ a nb Q z) (f := kc_F z.2.2) hm2
        refine kb_get S w k3 hq4 fB_178 rfl dB_isWanted_16 ?_
        refine W.eq (g2 := F0 m 19 ls [.int (z.2.2 (z.2.1 (kb_ix (x4))) 1)]) rfl ?_
        refine lv_iload_n S.1 S.2.1 dB_isWanted_19 rfl (lv_at hl 1 rfl) ?_
        refine lv_icmp_ne (tgt := 39) S.1 S.2.1 dB_isWanted_20 (by decide) (fun hc => ?_) (fun hc => ?_)
        · have h := (kb_brf hc).symm.trans h
          refine lv_iinc (v := x4 + 1) (k := 4) S.1 S.2.1 dB_isWanted_39 hl rfl rfl (by decide) rfl (fun ls hl => ?_)
          have hl : lv_has ls 5 [(4, .int (x4 + 1)), (0, .ref (a 0)), (1, .int x1), (2, .int x2), (3, .int x3)] := hl
          refine lv_goto (tgt := 3) S.1 S.2.1 dB_isWanted_42 (by decide) ?_
          exact ih x1 x2 x3 (x4 + 1) z _ _ _ (lv_sub hl [1, 2, 3, 4, 0] rfl) w h
        · have h := (kb_brt hc).symm.trans h
          refine lv_aload_n S.1 S.2.1 dB_isWanted_23 rfl (lv_at hl 0 rfl) ?_
          refine kb_get S w 0 rfl fB_51 rfl dB_isWanted_24 ?_
          refine W.eq (g2 := F0 m 27 ls [.ref (a 21)]) rfl ?_
          refine lv_iload S.1 S.2.1 dB_isWanted_27 (lv_at hl 4 rfl) ?_
          obtain ⟨hi5, h⟩ := kb_ck_of h
          refine kb_ald S w 21 1 rfl rfl hi5 dB_isWanted_29 ?_
          refine W.eq (g2 := F0 m 30 ls [.ref (z.2.1 (kb_ix (x4)))]) rfl ?_
          obtain ⟨hm6, h⟩ := kb_ck_of h
          obtain ⟨k7, hq8⟩ := va_pl_get (X := bX cI cQ a nb Q z) (f := kc_F z.2.2) hm6
          refine kb_get S w k7 hq8 fB_181 rfl dB_isWanted_30 ?_
          refine W.eq (g2 := F0 m 33 ls [.int (z.2.2 (z.2.1 (kb_ix (x4))) 2)]) rfl ?_
          refine lv_iload_n S.1 S.2.1 dB_isWanted_33 rfl (lv_at hl 2 rfl) ?_
          refine lv_icmp_ne (tgt := 39) S.1 S.2.1 dB_isWanted_34 (by decide) (fun hc => ?_) (fun hc => ?_)
          · have h := (kb_brf hc).symm.trans h
            refine lv_iinc (v := x4 + 1) (k := 4) S.1 S.2.1 dB_isWanted_39 hl rfl rfl (by decide) rfl (fun ls hl => ?_)
            have hl : lv_has ls 5 [(4, .int (x4 + 1)), (0, .ref (a 0)), (1, .int x1), (2, .int x2), (3, .int x3)] := hl
            refine lv_goto (tgt := 3) S.1 S.2.1 dB_isWanted_42 (by decide) ?_
            exact ih x1 x2 x3 (x4 + 1) z _ _ _ (lv_sub hl [1, 2, 3, 4, 0] rfl) w h
          · have h := (kb_brt hc).symm.trans h
            refine lv_iconst (v := 1) S.1 S.2.1 dB_isWanted_37 (by decide) ?_
            exact kb_zret (bW cI cQ a nb Q L) S hr hlk hA w h (by decide) dB_isWanted_38
  refine lv_iconst (v := 0) S.1 S.2.1 dB_isWanted_0 (by decide) ?_
  refine lv_istore S.1 S.2.1 dB_isWanted_1 hl (by decide) rfl (fun ls hl => ?_)
  have hl : lv_has ls 5 [(4, .int 0), (0, .ref (a 0)), (1, .int x1), (2, .int x2), (3, .int x3)] := hl
  exact L3 3000 x1 x2 x3 0 z0 _ _ _ (lv_sub hl [1, 2, 3, 4, 0] rfl) w h
set_option maxHeartbeats 4000000 in
set_option maxRecDepth 100000 in
theorem cB_giveWay (l : Launch) (D : va_G) (cI cQ : ClassId) (a : Nat → Nat) (nb Q : Nat) (L : List Nat) (z0 z' : kc_S) (r : Int32) (sz : Nat) (x1 : Int32) (h : pB_giveWay nb Q L x1 z0 = some (r, z')) : Met l y_B_giveWay (Cond.code y_B_giveWay c_B_giveWay 5 (some .int) :: wsB) rm_B_giveWay (kb_Pc D vwCl [(cI, .int), (cQ, .object RReq)] sz [.ref (a 0), .int x1] (bW cI cQ a nb Q L z0)) (kb_Qi D vwCl sz (bW cI cQ a nb Q L z0) r (bW cI cQ a nb Q L z')) 0 0 (va_A (bW cI cQ a nb Q L z0) sz) := by
  refine kb_start (by decide) rfl (Nat.le_of_ble_eq_true rfl) ?_
  intro p e s m args below meth c A ls S hr hlk hsz hA w hl
  have hl : lv_has ls 5 [(0, .ref (a 0)), (1, .int x1)] := hl
  unfold pB_giveWay at h
  have L2 : ∀ (n : Nat) (x1 : Int32) (x2 : Int32) (z : kc_S) (H : Heap) (locs : List Loc) (ls : Array Slot), lv_has ls 5 [(0, .ref (a 0)), (1, .int x1), (2, .int x2)] → kb_W D vwCl [(cI, .int), (cQ, .object RReq)] A s H locs (bW cI cQ a nb Q L z) → pB_giveWay_L2 nb Q L n x1 x2 z = some (r, z') → W p l e rm_B_giveWay s m args below meth c H locs 0 0 (MQ below (kb_Qi D vwCl sz (bW cI cQ a nb Q L z0) r (bW cI cQ a nb Q L z')) args s 0 0 (va_A (bW cI cQ a nb Q L z0) sz)) (F0 m 2 ls []) := by
    intro n
    induction n with
    | zero =>
      intro x1 x2 z H locs ls hl w h
      exact absurd h (by simp [pB_giveWay_L2])
    | succ n ih =>
      intro x1 x2 z H locs ls hl w h
      rw [pB_giveWay_L2] at h
      refine lv_iload_n S.1 S.2.1 dB_giveWay_2 rfl (lv_at hl 2 rfl) ?_
      refine lv_iload_n S.1 S.2.1 dB_giveWay_3 rfl (lv_at hl 1 rfl) ?_
      refine lv_icmp_ge (tgt := 118) S.1 S.2.1 dB_giveWay_4 (by decide) (fun hc => ?_) (fun hc => ?_)
      · have h := (kb_brt hc).symm.trans h
        refine lv_iconst (v := 0) S.1 S.2.1 dB_giveWay_118 (by decide) ?_
        exact kb_iret (bW cI cQ a nb Q L) S hr hlk hA w h dB_giveWay_119
      · have h := (kb_brf hc).symm.trans h
        refine lv_aload_n S.1 S.2.1 dB_giveWay_7 rfl (lv_at hl 0 rfl) ?_
        refine kb_get S w 0 rfl fB_51 rfl dB_giveWay_8 ?_
        refine W.eq (g2 := F0 m 11 ls [.ref (a 21)]) rfl ?_
        refine lv_iload_n S.1 S.2.1 dB_giveWay_11 rfl (lv_at hl 2 rfl) ?_
        obtain ⟨hi1, h⟩ := kb_ck_of h
        refine kb_ald S w 21 1 rfl rfl hi1 dB_giveWay_12 ?_
        refine W.eq (g2 := F0 m 13 ls [.ref (z.2.1 (kb_ix (x2)))]) rfl ?_
        refine lv_astore_n S.1 S.2.1 dB_giveWay_13 rfl hl (by decide) rfl (fun ls hl => ?_)
        have hl : lv_has ls 5 [(3, .ref (z.2.1 (kb_ix (x2)))), (0, .ref (a 0)), (1, .int x1), (2, .int x2)] := hl
        refine lv_aload_n S.1 S.2.1 dB_giveWay_14 rfl (lv_at hl 1 rfl) ?_
        refine lv_iload_n S.1 S.2.1 dB_giveWay_15 rfl (lv_at hl 3 rfl) ?_
        obtain ⟨r3, z2, hc4, h⟩ := kb_cl_of h
        refine kb_calli (As := [.int x2]) (rest := []) (q0 := 0) (ci := 2) S w (fun sz => cB_hasOlderForBank l D cI cQ a nb Q L _ _ _ sz x2 hc4) Y_B_hasOlderForBank I_B_hasOlderForBank S_B_hasOlderForBank lB_237 ⟨rfl, rfl, Nat.le_of_ble_eq_true rfl, Nat.le_of_ble_eq_true rfl⟩ rfl rfl rfl rfl hl.1 rfl (Nat.le_of_ble_eq_true rfl) dB_giveWay_16 ⟨Nat.le_of_ble_eq_true rfl, Nat.le_of_ble_eq_true rfl⟩ (fun H locs w => ?_)
        refine lv_if_eq (tgt := 25) S.1 S.2.1 dB_giveWay_19 (by decide) (fun hc => ?_) (fun hc => ?_)
        · have h := (kb_brt hc).symm.trans h
          refine lv_aload_n S.1 S.2.1 dB_giveWay_25 rfl (lv_at hl 1 rfl) ?_
          refine kb_get S w 0 rfl fB_42 rfl dB_giveWay_26 ?_
          refine W.eq (g2 := F0 m 29 ls [.ref (a 3)]) rfl ?_
          refine kb_get S w 3 rfl fB_131 rfl dB_giveWay_29 ?_
          refine W.eq (g2 := F0 m 32 ls [.ref (a 4)]) rfl ?_
          refine lv_aload_n S.1 S.2.1 dB_giveWay_32 rfl (lv_at hl 0 rfl) ?_
          obtain ⟨hm5, h⟩ := kb_ck_of h
          obtain ⟨k6, hq7⟩ := va_pl_get (X := bX cI cQ a nb Q z2) (f := kc_F z2.2.2) hm5
          refine kb_get S w k6 hq7 fB_178 rfl dB_giveWay_33 ?_
          refine W.eq (g2 := F0 m 36 ls [.int (z2.2.2 (z.2.1 (kb_ix (x2))) 1), .ref (a 4)]) rfl ?_
          obtain ⟨hi8, h⟩ := kb_ck_of h
          refine kb_iald S w 4 0 rfl rfl hi8 dB_giveWay_36 ?_
          refine W.eq (g2 := F0 m 37 ls [.int (z2.1 4 (kb_ix (z2.2.2 (z.2.1 (kb_ix (x2))) 1)))]) rfl ?_
          refine lv_istore S.1 S.2.1 dB_giveWay_37 hl (by decide) rfl (fun ls hl => ?_)
          have hl : lv_has ls 5 [(4, .int (z2.1 4 (kb_ix (z2.2.2 (z.2.1 (kb_ix (x2))) 1)))), (3, .ref (z.2.1 (kb_ix (x2)))), (0, .ref (a 0)), (1, .int x1), (2, .int x2)] := hl
          refine lv_iload S.1 S.2.1 dB_giveWay_39 (lv_at hl 0 rfl) ?_
          refine lv_iconst (v := (-1)) S.1 S.2.1 dB_giveWay_41 (by decide) ?_
          refine lv_icmp_ne (tgt := 73) S.1 S.2.1 dB_giveWay_42 (by decide) (fun hc => ?_) (fun hc => ?_)
          · have h := (kb_brf hc).symm.trans h
            refine lv_aload_n S.1 S.2.1 dB_giveWay_73 rfl (lv_at hl 2 rfl) ?_
            refine lv_aload_n S.1 S.2.1 dB_giveWay_74 rfl (lv_at hl 1 rfl) ?_
            obtain ⟨hm9, h⟩ := kb_ck_of h
            obtain ⟨k10, hq11⟩ := va_pl_get (X := bX cI cQ a nb Q z2) (f := kc_F z2.2.2) hm9
            refine kb_get S w k10 hq11 fB_178 rfl dB_giveWay_75 ?_
            refine W.eq (g2 := F0 m 78 ls [.int (z2.2.2 (z.2.1 (kb_ix (x2))) 1), .ref (a 0)]) rfl ?_
            refine lv_iload S.1 S.2.1 dB_giveWay_78 (lv_at hl 0 rfl) ?_
            refine lv_iload_n S.1 S.2.1 dB_giveWay_80 rfl (lv_at hl 3 rfl) ?_
            obtain ⟨r13, z12, hc14, h⟩ := kb_cl_of h
            refine kb_calli (As := [.int (z2.2.2 (z.2.1 (kb_ix (x2))) 1), .int (z2.1 4 (kb_ix (z2.2.2 (z.2.1 (kb_ix (x2))) 1))), .int x1]) (rest := []) (q0 := 0) (ci := 2) S w (fun sz => cB_isWanted l D cI cQ a nb Q L _ _ _ sz (z2.2.2 (z.2.1 (kb_ix (x2))) 1) (z2.1 4 (kb_ix (z2.2.2 (z.2.1 (kb_ix (x2))) 1))) x1 hc14) Y_B_isWanted I_B_isWanted S_B_isWanted lB_243 ⟨rfl, rfl, Nat.le_of_ble_eq_true rfl, Nat.le_of_ble_eq_true rfl⟩ rfl rfl rfl rfl hl.1 rfl (Nat.le_of_ble_eq_true rfl) dB_giveWay_81 ⟨Nat.le_of_ble_eq_true rfl, Nat.le_of_ble_eq_true rfl⟩ (fun H locs w => ?_)
            refine lv_if_ne (tgt := 112) S.1 S.2.1 dB_giveWay_84 (by decide) (fun hc => ?_) (fun hc => ?_)
            · have h := (kb_brf hc).symm.trans h
              refine lv_iinc (v := x2 + 1) (k := 4) S.1 S.2.1 dB_giveWay_112 hl rfl rfl (by decide) rfl (fun ls hl => ?_)
              have hl : lv_has ls 5 [(2, .int (x2 + 1)), (4, .int (z2.1 4 (kb_ix (z2.2.2 (z.2.1 (kb_ix (x2))) 1)))), (3, .ref (z.2.1 (kb_ix (x2)))), (0, .ref (a 0)), (1, .int x1)] := hl
              refine lv_goto (tgt := 2) S.1 S.2.1 dB_giveWay_115 (by decide) ?_
              exact ih x1 (x2 + 1) z12 _ _ _ (lv_sub hl [3, 4, 0] rfl) w h
            · have h := (kb_brt hc).symm.trans h
              refine lv_aload_n S.1 S.2.1 dB_giveWay_87 rfl (lv_at hl 2 rfl) ?_
              refine kb_get S w 0 rfl fB_42 rfl dB_giveWay_88 ?_
              refine W.eq (g2 := F0 m 91 ls [.ref (a 3)]) rfl ?_
              refine lv_aload_n S.1 S.2.1 dB_giveWay_91 rfl (lv_at hl 1 rfl) ?_
              obtain ⟨hm15, h⟩ := kb_ck_of h
              obtain ⟨k16, hq17⟩ := va_pl_get (X := bX cI cQ a nb Q z12) (f := kc_F z12.2.2) hm15
              refine kb_get S w k16 hq17 fB_178 rfl dB_giveWay_92 ?_
              refine W.eq (g2 := F0 m 95 ls [.int (z12.2.2 (z.2.1 (kb_ix (x2))) 1), .ref (a 3)]) rfl ?_
              obtain ⟨r19, z18, hc20, h⟩ := kb_cl_of h
              refine kb_calli (As := [.int (z12.2.2 (z.2.1 (kb_ix (x2))) 1)]) (rest := []) (q0 := 3) (ci := 0) S w (fun sz => cC_brokenByClose_3 l D cI cQ a nb Q L _ _ _ sz (z12.2.2 (z.2.1 (kb_ix (x2))) 1) hc20) Y_C_brokenByClose I_C_brokenByClose S_C_brokenByClose lB_220 ⟨rfl, rfl, Nat.le_of_ble_eq_true rfl, Nat.le_of_ble_eq_true rfl⟩ rfl rfl rfl rfl hl.1 rfl (Nat.le_of_ble_eq_true rfl) dB_giveWay_95 ⟨Nat.le_of_ble_eq_true rfl, Nat.le_of_ble_eq_true rfl⟩ (fun H locs w => ?_)
              refine lv_if_ne (tgt := 112) S.1 S.2.1 dB_giveWay_98 (by decide) (fun hc => ?_) (fun hc => ?_)
              · have h := (kb_brf hc).symm.trans h
                refine lv_iinc (v := x2 + 1) (k := 4) S.1 S.2.1 dB_giveWay_112 hl rfl rfl (by decide) rfl (fun ls hl => ?_)
                have hl : lv_has ls 5 [(2, .int (x2 + 1)), (4, .int (z2.1 4 (kb_ix (z2.2.2 (z.2.1 (kb_ix (x2))) 1)))), (3, .ref (z.2.1 (kb_ix (x2)))), (0, .ref (a 0)), (1, .int x1)] := hl
                refine lv_goto (tgt := 2) S.1 S.2.1 dB_giveWay_115 (by decide) ?_
                exact ih x1 (x2 + 1) z18 _ _ _ (lv_sub hl [3, 4, 0] rfl) w h
              · have h := (kb_brt hc).symm.trans h
                refine lv_aload_n S.1 S.2.1 dB_giveWay_101 rfl (lv_at hl 2 rfl) ?_
                refine lv_iconst (v := 1) S.1 S.2.1 dB_giveWay_102 (by decide) ?_
                refine lv_aload_n S.1 S.2.1 dB_giveWay_103 rfl (lv_at hl 1 rfl) ?_
                obtain ⟨hm21, h⟩ := kb_ck_of h
                obtain ⟨k22, hq23⟩ := va_pl_get (X := bX cI cQ a nb Q z18) (f := kc_F z18.2.2) hm21
                refine kb_get S w k22 hq23 fB_178 rfl dB_giveWay_104 ?_
                refine W.eq (g2 := F0 m 107 ls [.int (z18.2.2 (z.2.1 (kb_ix (x2))) 1), .int 1, .ref (a 0)]) rfl ?_
                refine lv_iconst (v := 0) S.1 S.2.1 dB_giveWay_107 (by decide) ?_
                obtain ⟨r25, z24, hc26, h⟩ := kb_cl_of h
                refine kb_calli (As := [.int 1, .int (z18.2.2 (z.2.1 (kb_ix (x2))) 1), .int 0]) (rest := []) (q0 := 0) (ci := 2) S w (fun sz => cB_giveCommand l D cI cQ a nb Q L _ _ _ sz 1 (z18.2.2 (z.2.1 (kb_ix (x2))) 1) 0 hc26) Y_B_giveCommand I_B_giveCommand S_B_giveCommand lB_217 ⟨rfl, rfl, Nat.le_of_ble_eq_true rfl, Nat.le_of_ble_eq_true rfl⟩ rfl rfl rfl rfl hl.1 rfl (Nat.le_of_ble_eq_true rfl) dB_giveWay_108 ⟨Nat.le_of_ble_eq_true rfl, Nat.le_of_ble_eq_true rfl⟩ (fun H locs w => ?_)
                exact kb_iret (bW cI cQ a nb Q L) S hr hlk hA w h dB_giveWay_111
          · have h := (kb_brt hc).symm.trans h
            refine lv_aload_n S.1 S.2.1 dB_giveWay_45 rfl (lv_at hl 2 rfl) ?_
            refine kb_get S w 0 rfl fB_42 rfl dB_giveWay_46 ?_
            refine W.eq (g2 := F0 m 49 ls [.ref (a 3)]) rfl ?_
            refine lv_aload_n S.1 S.2.1 dB_giveWay_49 rfl (lv_at hl 1 rfl) ?_
            obtain ⟨hm27, h⟩ := kb_ck_of h
            obtain ⟨k28, hq29⟩ := va_pl_get (X := bX cI cQ a nb Q z2) (f := kc_F z2.2.2) hm27
            refine kb_get S w k28 hq29 fB_178 rfl dB_giveWay_50 ?_
            refine W.eq (g2 := F0 m 53 ls [.int (z2.2.2 (z.2.1 (kb_ix (x2))) 1), .ref (a 3)]) rfl ?_
            obtain ⟨r31, z30, hc32, h⟩ := kb_cl_of h
            refine kb_calli (As := [.int (z2.2.2 (z.2.1 (kb_ix (x2))) 1)]) (rest := []) (q0 := 3) (ci := 0) S w (fun sz => cC_brokenByOpen_3 l D cI cQ a nb Q L _ _ _ sz (z2.2.2 (z.2.1 (kb_ix (x2))) 1) hc32) Y_C_brokenByOpen I_C_brokenByOpen S_C_brokenByOpen lB_240 ⟨rfl, rfl, Nat.le_of_ble_eq_true rfl, Nat.le_of_ble_eq_true rfl⟩ rfl rfl rfl rfl hl.1 rfl (Nat.le_of_ble_eq_true rfl) dB_giveWay_53 ⟨Nat.le_of_ble_eq_true rfl, Nat.le_of_ble_eq_true rfl⟩ (fun H locs w => ?_)
            refine lv_if_ne (tgt := 112) S.1 S.2.1 dB_giveWay_56 (by decide) (fun hc => ?_) (fun hc => ?_)
            · have h := (kb_brf hc).symm.trans h
              refine lv_iinc (v := x2 + 1) (k := 4) S.1 S.2.1 dB_giveWay_112 hl rfl rfl (by decide) rfl (fun ls hl => ?_)
              have hl : lv_has ls 5 [(2, .int (x2 + 1)), (4, .int (z2.1 4 (kb_ix (z2.2.2 (z.2.1 (kb_ix (x2))) 1)))), (3, .ref (z.2.1 (kb_ix (x2)))), (0, .ref (a 0)), (1, .int x1)] := hl
              refine lv_goto (tgt := 2) S.1 S.2.1 dB_giveWay_115 (by decide) ?_
              exact ih x1 (x2 + 1) z30 _ _ _ (lv_sub hl [3, 4, 0] rfl) w h
            · have h := (kb_brt hc).symm.trans h
              refine lv_aload_n S.1 S.2.1 dB_giveWay_59 rfl (lv_at hl 2 rfl) ?_
              refine lv_iconst (v := 0) S.1 S.2.1 dB_giveWay_60 (by decide) ?_
              refine lv_aload_n S.1 S.2.1 dB_giveWay_61 rfl (lv_at hl 1 rfl) ?_
              obtain ⟨hm33, h⟩ := kb_ck_of h
              obtain ⟨k34, hq35⟩ := va_pl_get (X := bX cI cQ a nb Q z30) (f := kc_F z30.2.2) hm33
              refine kb_get S w k34 hq35 fB_178 rfl dB_giveWay_62 ?_
              refine W.eq (g2 := F0 m 65 ls [.int (z30.2.2 (z.2.1 (kb_ix (x2))) 1), .int 0, .ref (a 0)]) rfl ?_
              refine lv_aload_n S.1 S.2.1 dB_giveWay_65 rfl (lv_at hl 1 rfl) ?_
              obtain ⟨hm36, h⟩ := kb_ck_of h
              obtain ⟨k37, hq38⟩ := va_pl_get (X := bX cI cQ a nb Q z30) (f := kc_F z30.2.2) hm36
              refine kb_get S w k37 hq38 fB_181 rfl dB_giveWay_66 ?_
              refine W.eq (g2 := F0 m 69 ls [.int (z30.2.2 (z.2.1 (kb_ix (x2))) 2), .int (z30.2.2 (z.2.1 (kb_ix (x2))) 1), .int 0, .ref (a 0)]) rfl ?_
              obtain ⟨r40, z39, hc41, h⟩ := kb_cl_of h
              refine kb_calli (As := [.int 0, .int (z30.2.2 (z.2.1 (kb_ix (x2))) 1), .int (z30.2.2 (z.2.1 (kb_ix (x2))) 2)]) (rest := []) (q0 := 0) (ci := 2) S w (fun sz => cB_giveCommand l D cI cQ a nb Q L _ _ _ sz 0 (z30.2.2 (z.2.1 (kb_ix (x2))) 1) (z30.2.2 (z.2.1 (kb_ix (x2))) 2) hc41) Y_B_giveCommand I_B_giveCommand S_B_giveCommand lB_217 ⟨rfl, rfl, Nat.le_of_ble_eq_true rfl, Nat.le_of_ble_eq_true rfl⟩ rfl rfl rfl rfl hl.1 rfl (Nat.le_of_ble_eq_true rfl) dB_giveWay_69 ⟨Nat.le_of_ble_eq_true rfl, Nat.le_of_ble_eq_true rfl⟩ (fun H locs w => ?_)
              exact kb_iret (bW cI cQ a nb Q L) S hr hlk hA w h dB_giveWay_72
        · have h := (kb_brf hc).symm.trans h
          refine lv_goto (tgt := 112) S.1 S.2.1 dB_giveWay_22 (by decide) ?_
          refine lv_iinc (v := x2 + 1) (k := 3) S.1 S.2.1 dB_giveWay_112 hl rfl rfl (by decide) rfl (fun ls hl => ?_)
          have hl : lv_has ls 5 [(2, .int (x2 + 1)), (3, .ref (z.2.1 (kb_ix (x2)))), (0, .ref (a 0)), (1, .int x1)] := hl
          refine lv_goto (tgt := 2) S.1 S.2.1 dB_giveWay_115 (by decide) ?_
          exact ih x1 (x2 + 1) z2 _ _ _ (lv_sub hl [2, 3, 0] rfl) w h
  refine lv_iconst (v := 0) S.1 S.2.1 dB_giveWay_0 (by decide) ?_
  refine lv_istore_n S.1 S.2.1 dB_giveWay_1 rfl hl (by decide) rfl (fun ls hl => ?_)
  have hl : lv_has ls 5 [(2, .int 0), (0, .ref (a 0)), (1, .int x1)] := hl
  exact L2 3000 x1 0 z0 _ _ _ (lv_sub hl [1, 2, 0] rfl) w h
set_option maxHeartbeats 4000000 in
set_option maxRecDepth 100000 in
theorem cB_dequeue (l : Launch) (D : va_G) (cI cQ : ClassId) (a : Nat → Nat) (nb Q : Nat) (L : List Nat) (z0 z' : kc_S) (r : Int32) (sz : Nat) (x1 : Int32) (h : pB_dequeue nb Q L x1 z0 = some (r, z')) : Met l y_B_dequeue (Cond.code y_B_dequeue c_B_dequeue 4 none :: wsB) rm_B_dequeue (kb_Pc D vwCl [(cI, .int), (cQ, .object RReq)] sz [.ref (a 0), .int x1] (bW cI cQ a nb Q L z0)) (kb_Qv D vwCl sz (bW cI cQ a nb Q L z0) (bW cI cQ a nb Q L z')) 0 0 (va_A (bW cI cQ a nb Q L z0) sz) := by
  refine kb_start (by decide) rfl (Nat.le_of_ble_eq_true rfl) ?_
  intro p e s m args below meth c A ls S hr hlk hsz hA w hl
  have hl : lv_has ls 4 [(0, .ref (a 0)), (1, .int x1)] := hl
  unfold pB_dequeue at h
  have L11 : ∀ (n : Nat) (x2 : Nat) (x3 : Int32) (z : kc_S) (H : Heap) (locs : List Loc) (ls : Array Slot), lv_has ls 4 [(0, .ref (a 0)), (2, .ref (x2)), (3, .int x3)] → kb_W D vwCl [(cI, .int), (cQ, .object RReq)] A s H locs (bW cI cQ a nb Q L z) → pB_dequeue_L11 nb Q L n x2 x3 z = some (r, z') → W p l e rm_B_dequeue s m args below meth c H locs 0 0 (MQ below (kb_Qv D vwCl sz (bW cI cQ a nb Q L z0) (bW cI cQ a nb Q L z')) args s 0 0 (va_A (bW cI cQ a nb Q L z0) sz)) (F0 m 11 ls []) := by
    intro n
    induction n with
    | zero =>
      intro x2 x3 z H locs ls hl w h
      exact absurd h (by simp [pB_dequeue_L11])
    | succ n ih =>
      intro x2 x3 z H locs ls hl w h
      rw [pB_dequeue_L11] at h
      refine lv_iload_n S.1 S.2.1 dB_dequeue_11 rfl (lv_at hl 2 rfl) ?_
      refine lv_aload_n S.1 S.2.1 dB_dequeue_12 rfl (lv_at hl 0 rfl) ?_
      refine kb_get S w 0 rfl fB_134 rfl dB_dequeue_13 ?_
      refine W.eq (g2 := F0 m 16 ls [.int (z.1 0 1), .int x3]) rfl ?_
      refine lv_icmp_ge (tgt := 39) S.1 S.2.1 dB_dequeue_16 (by decide) (fun hc => ?_) (fun hc => ?_)
      · have h := (kb_brt hc).symm.trans h
        refine lv_aload_n S.1 S.2.1 dB_dequeue_39 rfl (lv_at hl 0 rfl) ?_
        refine lv_dup S.1 S.2.1 dB_dequeue_40 rfl ?_
        refine kb_get S w 0 rfl fB_134 rfl dB_dequeue_41 ?_
        refine W.eq (g2 := F0 m 44 ls [.int (z.1 0 1), .ref (a 0)]) rfl ?_
        refine lv_iconst (v := 1) S.1 S.2.1 dB_dequeue_44 (by decide) ?_
        refine lv_isub S.1 S.2.1 dB_dequeue_45 ?_
        obtain ⟨z2, hz3, h⟩ := kb_st_of h
        refine kb_puti S w 0 rfl gB_134 (Nat.le_of_ble_eq_true rfl) (ws1 := bW cI cQ a nb Q L z2) (by rw [hz3]; rfl) dB_dequeue_46 (fun H locs w => ?_)
        refine lv_aload_n S.1 S.2.1 dB_dequeue_49 rfl (lv_at hl 0 rfl) ?_
        refine kb_get S w 0 rfl fB_51 rfl dB_dequeue_50 ?_
        refine W.eq (g2 := F0 m 53 ls [.ref (a 21)]) rfl ?_
        refine lv_aload_n S.1 S.2.1 dB_dequeue_53 rfl (lv_at hl 0 rfl) ?_
        refine kb_get S w 0 rfl fB_134 rfl dB_dequeue_54 ?_
        refine W.eq (g2 := F0 m 57 ls [.int (z2.1 0 1), .ref (a 21)]) rfl ?_
        refine lv_aload_n S.1 S.2.1 dB_dequeue_57 rfl (lv_at hl 1 rfl) ?_
        obtain ⟨hi4, h⟩ := kb_ck_of h
        obtain ⟨hm7, h⟩ := kb_ck_of h
        obtain ⟨z5, hz6, h⟩ := kb_st_of h
        obtain ⟨k8, hq9⟩ := va_pl_get (X := bX cI cQ a nb Q z2) (f := kc_F z2.2.2) hm7
        refine kb_ast S w 21 1 k8 1 rfl rfl hq9 rfl hi4 (ws1 := bW cI cQ a nb Q L z5) (by rw [hz6]; exact kc_setQ_eq) dB_dequeue_58 (fun H locs w => ?_)
        exact kb_vret (bW cI cQ a nb Q L) (v := 0) (r := r) S hr hlk hA w h dB_dequeue_59
      · have h := (kb_brf hc).symm.trans h
        refine lv_aload_n S.1 S.2.1 dB_dequeue_19 rfl (lv_at hl 0 rfl) ?_
        refine kb_get S w 0 rfl fB_51 rfl dB_dequeue_20 ?_
        refine W.eq (g2 := F0 m 23 ls [.ref (a 21)]) rfl ?_
        refine lv_iload_n S.1 S.2.1 dB_dequeue_23 rfl (lv_at hl 2 rfl) ?_
        refine lv_iconst (v := 1) S.1 S.2.1 dB_dequeue_24 (by decide) ?_
        refine lv_isub S.1 S.2.1 dB_dequeue_25 ?_
        refine lv_aload_n S.1 S.2.1 dB_dequeue_26 rfl (lv_at hl 0 rfl) ?_
        refine kb_get S w 0 rfl fB_51 rfl dB_dequeue_27 ?_
        refine W.eq (g2 := F0 m 30 ls [.ref (a 21), .int (x3 - 1), .ref (a 21)]) rfl ?_
        refine lv_iload_n S.1 S.2.1 dB_dequeue_30 rfl (lv_at hl 2 rfl) ?_
        obtain ⟨hi10, h⟩ := kb_ck_of h
        refine kb_ald S w 21 1 rfl rfl hi10 dB_dequeue_31 ?_
        refine W.eq (g2 := F0 m 32 ls [.ref (z.2.1 (kb_ix (x3))), .int (x3 - 1), .ref (a 21)]) rfl ?_
        obtain ⟨hi11, h⟩ := kb_ck_of h
        obtain ⟨hm14, h⟩ := kb_ck_of h
        obtain ⟨z12, hz13, h⟩ := kb_st_of h
        obtain ⟨k15, hq16⟩ := va_pl_get (X := bX cI cQ a nb Q z) (f := kc_F z.2.2) hm14
        refine kb_ast S w 21 1 k15 1 rfl rfl hq16 rfl hi11 (ws1 := bW cI cQ a nb Q L z12) (by rw [hz13]; exact kc_setQ_eq) dB_dequeue_32 (fun H locs w => ?_)
        refine lv_iinc (v := x3 + 1) (k := 2) S.1 S.2.1 dB_dequeue_33 hl rfl rfl (by decide) rfl (fun ls hl => ?_)
        have hl : lv_has ls 4 [(3, .int (x3 + 1)), (0, .ref (a 0)), (2, .ref (x2))] := hl
        refine lv_goto (tgt := 11) S.1 S.2.1 dB_dequeue_36 (by decide) ?_
        exact ih x2 (x3 + 1) z12 _ _ _ (lv_sub hl [1, 2, 0] rfl) w h
  refine lv_aload_n S.1 S.2.1 dB_dequeue_0 rfl (lv_at hl 0 rfl) ?_
  refine kb_get S w 0 rfl fB_51 rfl dB_dequeue_1 ?_
  refine W.eq (g2 := F0 m 4 ls [.ref (a 21)]) rfl ?_
  refine lv_iload_n S.1 S.2.1 dB_dequeue_4 rfl (lv_at hl 1 rfl) ?_
  obtain ⟨hi1, h⟩ := kb_ck_of h
  refine kb_ald S w 21 1 rfl rfl hi1 dB_dequeue_5 ?_
  refine W.eq (g2 := F0 m 6 ls [.ref (z0.2.1 (kb_ix (x1)))]) rfl ?_
  refine lv_astore_n S.1 S.2.1 dB_dequeue_6 rfl hl (by decide) rfl (fun ls hl => ?_)
  have hl : lv_has ls 4 [(2, .ref (z0.2.1 (kb_ix (x1)))), (0, .ref (a 0)), (1, .int x1)] := hl
  refine lv_iload_n S.1 S.2.1 dB_dequeue_7 rfl (lv_at hl 2 rfl) ?_
  refine lv_iconst (v := 1) S.1 S.2.1 dB_dequeue_8 (by decide) ?_
  refine lv_iadd S.1 S.2.1 dB_dequeue_9 ?_
  refine lv_istore_n S.1 S.2.1 dB_dequeue_10 rfl hl (by decide) rfl (fun ls hl => ?_)
  have hl : lv_has ls 4 [(3, .int (x1 + 1)), (2, .ref (z0.2.1 (kb_ix (x1)))), (0, .ref (a 0)), (1, .int x1)] := hl
  exact L11 3000 (z0.2.1 (kb_ix (x1))) (x1 + 1) z0 _ _ _ (lv_sub hl [2, 1, 0] rfl) w h
set_option maxHeartbeats 4000000 in
set_option maxRecDepth 100000 in
theorem cB_isKept (l : Launch) (D : va_G) (cI cQ : ClassId) (a : Nat → Nat) (nb Q : Nat) (L : List Nat) (z0 z' : kc_S) (r : Int32) (sz : Nat) (x1 : Int32) (h : pB_isKept nb Q L x1 z0 = some (r, z')) : Met l y_B_isKept (Cond.code y_B_isKept c_B_isKept 2 (some .boolean) :: wsB) rm_B_isKept (kb_Pc D vwCl [(cI, .int), (cQ, .object RReq)] sz [.ref (a 0), .int x1] (bW cI cQ a nb Q L z0)) (kb_Qi D vwCl sz (bW cI cQ a nb Q L z0) r (bW cI cQ a nb Q L z')) 0 0 (va_A (bW cI cQ a nb Q L z0) sz) := by
  refine kb_start (by decide) rfl (Nat.le_of_ble_eq_true rfl) ?_
  intro p e s m args below meth c A ls S hr hlk hsz hA w hl
  have hl : lv_has ls 2 [(0, .ref (a 0)), (1, .int x1)] := hl
  unfold pB_isKept at h
  refine lv_aload_n S.1 S.2.1 dB_isKept_0 rfl (lv_at hl 0 rfl) ?_
  refine kb_get S w 0 rfl fB_108 rfl dB_isKept_1 ?_
  refine W.eq (g2 := F0 m 4 ls [.int (z0.1 0 2)]) rfl ?_
  refine lv_iload_n S.1 S.2.1 dB_isKept_4 rfl (lv_at hl 1 rfl) ?_
  refine lv_isub S.1 S.2.1 dB_isKept_5 ?_
  refine lv_bipush (v := 32) S.1 S.2.1 dB_isKept_6 (by decide) ?_
  refine lv_icmp_gt (tgt := 15) S.1 S.2.1 dB_isKept_8 (by decide) (fun hc => ?_) (fun hc => ?_)
  · have h := (kb_brt hc).symm.trans h
    refine lv_iconst (v := 0) S.1 S.2.1 dB_isKept_15 (by decide) ?_
    exact kb_zret (bW cI cQ a nb Q L) S hr hlk hA w h (by decide) dB_isKept_16
  · have h := (kb_brf hc).symm.trans h
    refine lv_iconst (v := 1) S.1 S.2.1 dB_isKept_11 (by decide) ?_
    refine lv_goto (tgt := 16) S.1 S.2.1 dB_isKept_12 (by decide) ?_
    exact kb_zret (bW cI cQ a nb Q L) S hr hlk hA w h (by decide) dB_isKept_16
set_option maxHeartbeats 4000000 in
set_option maxRecDepth 100000 in
theorem cB_giveHit (l : Launch) (D : va_G) (cI cQ : ClassId) (a : Nat → Nat) (nb Q : Nat) (L : List Nat) (z0 z' : kc_S) (r : Int32) (sz : Nat) (x1 : Int32) (h : pB_giveHit nb Q L x1 z0 = some (r, z')) : Met l y_B_giveHit (Cond.code y_B_giveHit c_B_giveHit 4 (some .int) :: wsB) rm_B_giveHit (kb_Pc D vwCl [(cI, .int), (cQ, .object RReq)] sz [.ref (a 0), .int x1] (bW cI cQ a nb Q L z0)) (kb_Qi D vwCl sz (bW cI cQ a nb Q L z0) r (bW cI cQ a nb Q L z')) 0 0 (va_A (bW cI cQ a nb Q L z0) sz) := by
  refine kb_start (by decide) rfl (Nat.le_of_ble_eq_true rfl) ?_
  intro p e s m args below meth c A ls S hr hlk hsz hA w hl
  have hl : lv_has ls 4 [(0, .ref (a 0)), (1, .int x1)] := hl
  unfold pB_giveHit at h
  have J117 : ∀ (x2 : Nat) (z : kc_S) (H : Heap) (locs : List Loc) (ls : Array Slot), lv_has ls 4 [(0, .ref (a 0)), (2, .ref (x2))] → kb_W D vwCl [(cI, .int), (cQ, .object RReq)] A s H locs (bW cI cQ a nb Q L z) → pB_giveHit_J117 nb Q L x2 z = some (r, z') → W p l e rm_B_giveHit s m args below meth c H locs 0 0 (MQ below (kb_Qi D vwCl sz (bW cI cQ a nb Q L z0) r (bW cI cQ a nb Q L z')) args s 0 0 (va_A (bW cI cQ a nb Q L z0) sz)) (F0 m 117 ls []) := by
    intro x2 z H locs ls hl w h
    unfold pB_giveHit_J117 at h
    refine lv_aload_n S.1 S.2.1 dB_giveHit_117 rfl (lv_at hl 0 rfl) ?_
    refine lv_aload_n S.1 S.2.1 dB_giveHit_118 rfl (lv_at hl 1 rfl) ?_
    obtain ⟨hm18, h⟩ := kb_ck_of h
    obtain ⟨k19, hq20⟩ := va_pl_get (X := bX cI cQ a nb Q z) (f := kc_F z.2.2) hm18
    refine kb_get S w k19 hq20 fB_175 rfl dB_giveHit_119 ?_
    refine W.eq (g2 := F0 m 122 ls [.int (z.2.2 x2 0), .ref (a 0)]) rfl ?_
    refine lv_aload_n S.1 S.2.1 dB_giveHit_122 rfl (lv_at hl 1 rfl) ?_
    obtain ⟨hm21, h⟩ := kb_ck_of h
    obtain ⟨k22, hq23⟩ := va_pl_get (X := bX cI cQ a nb Q z) (f := kc_F z.2.2) hm21
    refine kb_get S w k22 hq23 fB_178 rfl dB_giveHit_123 ?_
    refine W.eq (g2 := F0 m 126 ls [.int (z.2.2 x2 1), .int (z.2.2 x2 0), .ref (a 0)]) rfl ?_
    refine lv_aload_n S.1 S.2.1 dB_giveHit_126 rfl (lv_at hl 1 rfl) ?_
    obtain ⟨hm24, h⟩ := kb_ck_of h
    obtain ⟨k25, hq26⟩ := va_pl_get (X := bX cI cQ a nb Q z) (f := kc_F z.2.2) hm24
    refine kb_get S w k25 hq26 fB_181 rfl dB_giveHit_127 ?_
    refine W.eq (g2 := F0 m 130 ls [.int (z.2.2 x2 2), .int (z.2.2 x2 1), .int (z.2.2 x2 0), .ref (a 0)]) rfl ?_
    obtain ⟨r28, z27, hc29, h⟩ := kb_cl_of h
    refine kb_calli (As := [.int (z.2.2 x2 0), .int (z.2.2 x2 1), .int (z.2.2 x2 2)]) (rest := []) (q0 := 0) (ci := 2) S w (fun sz => cB_giveCommand l D cI cQ a nb Q L _ _ _ sz (z.2.2 x2 0) (z.2.2 x2 1) (z.2.2 x2 2) hc29) Y_B_giveCommand I_B_giveCommand S_B_giveCommand lB_217 ⟨rfl, rfl, Nat.le_of_ble_eq_true rfl, Nat.le_of_ble_eq_true rfl⟩ rfl rfl rfl rfl hl.1 rfl (Nat.le_of_ble_eq_true rfl) dB_giveHit_130 ⟨Nat.le_of_ble_eq_true rfl, Nat.le_of_ble_eq_true rfl⟩ (fun H locs w => ?_)
    exact kb_iret (bW cI cQ a nb Q L) S hr hlk hA w h dB_giveHit_133
  have J72 : ∀ (x2 : Nat) (x3 : Int32) (z : kc_S) (H : Heap) (locs : List Loc) (ls : Array Slot), lv_has ls 4 [(0, .ref (a 0)), (2, .ref (x2)), (3, .int x3)] → kb_W D vwCl [(cI, .int), (cQ, .object RReq)] A s H locs (bW cI cQ a nb Q L z) → pB_giveHit_J72 nb Q L x2 x3 z = some (r, z') → W p l e rm_B_giveHit s m args below meth c H locs 0 0 (MQ below (kb_Qi D vwCl sz (bW cI cQ a nb Q L z0) r (bW cI cQ a nb Q L z')) args s 0 0 (va_A (bW cI cQ a nb Q L z0) sz)) (F0 m 72 ls []) := by
    intro x2 x3 z H locs ls hl w h
    unfold pB_giveHit_J72 at h
    refine lv_aload_n S.1 S.2.1 dB_giveHit_72 rfl (lv_at hl 0 rfl) ?_
    refine lv_aload_n S.1 S.2.1 dB_giveHit_73 rfl (lv_at hl 1 rfl) ?_
    obtain ⟨hm12, h⟩ := kb_ck_of h
    obtain ⟨k13, hq14⟩ := va_pl_get (X := bX cI cQ a nb Q z) (f := kc_F z.2.2) hm12
    refine kb_get S w k13 hq14 fB_139 rfl dB_giveHit_74 ?_
    refine W.eq (g2 := F0 m 77 ls [.int (z.2.2 x2 5), .ref (a 0)]) rfl ?_
    obtain ⟨r16, z15, hc17, h⟩ := kb_cl_of h
    refine kb_calli (As := [.int (z.2.2 x2 5)]) (rest := []) (q0 := 0) (ci := 2) S w (fun sz => cB_isKept l D cI cQ a nb Q L _ _ _ sz (z.2.2 x2 5) hc17) Y_B_isKept I_B_isKept S_B_isKept lB_111 ⟨rfl, rfl, Nat.le_of_ble_eq_true rfl, Nat.le_of_ble_eq_true rfl⟩ rfl rfl rfl rfl hl.1 rfl (Nat.le_of_ble_eq_true rfl) dB_giveHit_77 ⟨Nat.le_of_ble_eq_true rfl, Nat.le_of_ble_eq_true rfl⟩ (fun H locs w => ?_)
    refine lv_if_eq (tgt := 117) S.1 S.2.1 dB_giveHit_80 (by decide) (fun hc => ?_) (fun hc => ?_)
    · have h := (kb_brt hc).symm.trans h
      exact J117 x2 z15 _ _ _ (lv_sub hl [0, 1] rfl) w h
    · have h := (kb_brf hc).symm.trans h
      refine lv_aload_n S.1 S.2.1 dB_giveHit_83 rfl (lv_at hl 0 rfl) ?_
      refine kb_get S w 0 rfl fB_56 rfl dB_giveHit_84 ?_
      refine W.eq (g2 := F0 m 87 ls [.ref (a 19)]) rfl ?_
      refine lv_aload_n S.1 S.2.1 dB_giveHit_87 rfl (lv_at hl 1 rfl) ?_
      obtain ⟨hm30, h⟩ := kb_ck_of h
      obtain ⟨k31, hq32⟩ := va_pl_get (X := bX cI cQ a nb Q z15) (f := kc_F z15.2.2) hm30
      refine kb_get S w k31 hq32 fB_139 rfl dB_giveHit_88 ?_
      refine W.eq (g2 := F0 m 91 ls [.int (z15.2.2 x2 5), .ref (a 19)]) rfl ?_
      refine lv_bipush (v := 31) S.1 S.2.1 dB_giveHit_91 (by decide) ?_
      refine lv_iand S.1 S.2.1 dB_giveHit_93 ?_
      refine lv_aload_n S.1 S.2.1 dB_giveHit_94 rfl (lv_at hl 0 rfl) ?_
      refine kb_get S w 0 rfl fB_34 rfl dB_giveHit_95 ?_
      refine W.eq (g2 := F0 m 98 ls [.ref (a 2), .int ((z15.2.2 x2 5) &&& 31), .ref (a 19)]) rfl ?_
      refine lv_aload_n S.1 S.2.1 dB_giveHit_98 rfl (lv_at hl 1 rfl) ?_
      obtain ⟨hm33, h⟩ := kb_ck_of h
      obtain ⟨k34, hq35⟩ := va_pl_get (X := bX cI cQ a nb Q z15) (f := kc_F z15.2.2) hm33
      refine kb_get S w k34 hq35 fB_184 rfl dB_giveHit_99 ?_
      refine W.eq (g2 := F0 m 102 ls [.int (z15.2.2 x2 3), .ref (a 2), .int ((z15.2.2 x2 5) &&& 31), .ref (a 19)]) rfl ?_
      obtain ⟨hi36, h⟩ := kb_ck_of h
      refine kb_iald S w 2 0 rfl rfl hi36 dB_giveHit_102 ?_
      refine W.eq (g2 := F0 m 103 ls [.int (z15.1 2 (kb_ix (z15.2.2 x2 3))), .int ((z15.2.2 x2 5) &&& 31), .ref (a 19)]) rfl ?_
      obtain ⟨hi37, h⟩ := kb_ck_of h
      obtain ⟨z38, hz39, h⟩ := kb_st_of h
      refine kb_iast S w 19 0 rfl rfl hi37 (ws1 := bW cI cQ a nb Q L z38) (by rw [hz39]; rfl) dB_giveHit_103 (fun H locs w => ?_)
      refine lv_aload_n S.1 S.2.1 dB_giveHit_104 rfl (lv_at hl 0 rfl) ?_
      refine kb_get S w 0 rfl fB_59 rfl dB_giveHit_105 ?_
      refine W.eq (g2 := F0 m 108 ls [.ref (a 20)]) rfl ?_
      refine lv_aload_n S.1 S.2.1 dB_giveHit_108 rfl (lv_at hl 1 rfl) ?_
      obtain ⟨hm40, h⟩ := kb_ck_of h
      obtain ⟨k41, hq42⟩ := va_pl_get (X := bX cI cQ a nb Q z38) (f := kc_F z38.2.2) hm40
      refine kb_get S w k41 hq42 fB_139 rfl dB_giveHit_109 ?_
      refine W.eq (g2 := F0 m 112 ls [.int (z38.2.2 x2 5), .ref (a 20)]) rfl ?_
      refine lv_bipush (v := 31) S.1 S.2.1 dB_giveHit_112 (by decide) ?_
      refine lv_iand S.1 S.2.1 dB_giveHit_114 ?_
      refine lv_iload_n S.1 S.2.1 dB_giveHit_115 rfl (lv_at hl 2 rfl) ?_
      obtain ⟨hi43, h⟩ := kb_ck_of h
      obtain ⟨z44, hz45, h⟩ := kb_st_of h
      refine kb_iast S w 20 0 rfl rfl hi43 (ws1 := bW cI cQ a nb Q L z44) (by rw [hz45]; rfl) dB_giveHit_116 (fun H locs w => ?_)
      exact J117 x2 z44 _ _ _ (lv_sub hl [0, 1] rfl) w h
  have J30 : ∀ (x2 : Nat) (z : kc_S) (H : Heap) (locs : List Loc) (ls : Array Slot), lv_has ls 4 [(0, .ref (a 0)), (2, .ref (x2))] → kb_W D vwCl [(cI, .int), (cQ, .object RReq)] A s H locs (bW cI cQ a nb Q L z) → pB_giveHit_J30 nb Q L x2 z = some (r, z') → W p l e rm_B_giveHit s m args below meth c H locs 0 0 (MQ below (kb_Qi D vwCl sz (bW cI cQ a nb Q L z0) r (bW cI cQ a nb Q L z')) args s 0 0 (va_A (bW cI cQ a nb Q L z0) sz)) (F0 m 30 ls []) := by
    intro x2 z H locs ls hl w h
    unfold pB_giveHit_J30 at h
    refine lv_aload_n S.1 S.2.1 dB_giveHit_30 rfl (lv_at hl 0 rfl) ?_
    refine kb_get S w 0 rfl fB_42 rfl dB_giveHit_31 ?_
    refine W.eq (g2 := F0 m 34 ls [.ref (a 3)]) rfl ?_
    refine kb_get S w 3 rfl fB_80 rfl dB_giveHit_34 ?_
    refine W.eq (g2 := F0 m 37 ls [.int (z.1 3 3)]) rfl ?_
    refine lv_istore_n S.1 S.2.1 dB_giveHit_37 rfl hl (by decide) rfl (fun ls hl => ?_)
    have hl : lv_has ls 4 [(3, .int (z.1 3 3)), (0, .ref (a 0)), (2, .ref (x2))] := hl
    refine lv_aload_n S.1 S.2.1 dB_giveHit_38 rfl (lv_at hl 2 rfl) ?_
    obtain ⟨hm8, h⟩ := kb_ck_of h
    obtain ⟨k9, hq10⟩ := va_pl_get (X := bX cI cQ a nb Q z) (f := kc_F z.2.2) hm8
    refine kb_get S w k9 hq10 fB_175 rfl dB_giveHit_39 ?_
    refine W.eq (g2 := F0 m 42 ls [.int (z.2.2 x2 0)]) rfl ?_
    refine lv_iconst (v := 3) S.1 S.2.1 dB_giveHit_42 (by decide) ?_
    refine lv_icmp_ne (tgt := 62) S.1 S.2.1 dB_giveHit_43 (by decide) (fun hc => ?_) (fun hc => ?_)
    · have h := (kb_brf hc).symm.trans h
      refine lv_iload_n S.1 S.2.1 dB_giveHit_62 rfl (lv_at hl 0 rfl) ?_
      refine lv_aload_n S.1 S.2.1 dB_giveHit_63 rfl (lv_at hl 1 rfl) ?_
      refine kb_get S w 0 rfl fB_31 rfl dB_giveHit_64 ?_
      refine W.eq (g2 := F0 m 67 ls [.ref (a 1), .int (z.1 3 3)]) rfl ?_
      refine lv_bipush (v := 11) S.1 S.2.1 dB_giveHit_67 (by decide) ?_
      obtain ⟨hi11, h⟩ := kb_ck_of h
      refine kb_iald S w 1 0 rfl rfl hi11 dB_giveHit_69 ?_
      refine W.eq (g2 := F0 m 70 ls [.int (z.1 1 (kb_ix (11))), .int (z.1 3 3)]) rfl ?_
      refine lv_iadd S.1 S.2.1 dB_giveHit_70 ?_
      refine lv_istore_n S.1 S.2.1 dB_giveHit_71 rfl hl (by decide) rfl (fun ls hl => ?_)
      have hl : lv_has ls 4 [(3, .int ((z.1 3 3) + (z.1 1 (kb_ix (11))))), (0, .ref (a 0)), (2, .ref (x2))] := hl
      exact J72 x2 ((z.1 3 3) + (z.1 1 (kb_ix (11)))) z _ _ _ (lv_sub hl [1, 2, 0] rfl) w h
    · have h := (kb_brt hc).symm.trans h
      refine lv_aload_n S.1 S.2.1 dB_giveHit_46 rfl (lv_at hl 1 rfl) ?_
      refine kb_get S w 0 rfl fB_34 rfl dB_giveHit_47 ?_
      refine W.eq (g2 := F0 m 50 ls [.ref (a 2)]) rfl ?_
      refine lv_aload_n S.1 S.2.1 dB_giveHit_50 rfl (lv_at hl 2 rfl) ?_
      obtain ⟨hm46, h⟩ := kb_ck_of h
      obtain ⟨k47, hq48⟩ := va_pl_get (X := bX cI cQ a nb Q z) (f := kc_F z.2.2) hm46
      refine kb_get S w k47 hq48 fB_184 rfl dB_giveHit_51 ?_
      refine W.eq (g2 := F0 m 54 ls [.int (z.2.2 x2 3), .ref (a 2)]) rfl ?_
      refine lv_aload_n S.1 S.2.1 dB_giveHit_54 rfl (lv_at hl 2 rfl) ?_
      obtain ⟨hm49, h⟩ := kb_ck_of h
      obtain ⟨k50, hq51⟩ := va_pl_get (X := bX cI cQ a nb Q z) (f := kc_F z.2.2) hm49
      refine kb_get S w k50 hq51 fB_187 rfl dB_giveHit_55 ?_
      refine W.eq (g2 := F0 m 58 ls [.int (z.2.2 x2 4), .int (z.2.2 x2 3), .ref (a 2)]) rfl ?_
      obtain ⟨hi52, h⟩ := kb_ck_of h
      obtain ⟨z53, hz54, h⟩ := kb_st_of h
      refine kb_iast S w 2 0 rfl rfl hi52 (ws1 := bW cI cQ a nb Q L z53) (by rw [hz54]; rfl) dB_giveHit_58 (fun H locs w => ?_)
      refine lv_goto (tgt := 72) S.1 S.2.1 dB_giveHit_59 (by decide) ?_
      exact J72 x2 (z.1 3 3) z53 _ _ _ (lv_sub hl [1, 2, 0] rfl) w h
  refine lv_aload_n S.1 S.2.1 dB_giveHit_0 rfl (lv_at hl 0 rfl) ?_
  refine kb_get S w 0 rfl fB_51 rfl dB_giveHit_1 ?_
  refine W.eq (g2 := F0 m 4 ls [.ref (a 21)]) rfl ?_
  refine lv_iload_n S.1 S.2.1 dB_giveHit_4 rfl (lv_at hl 1 rfl) ?_
  obtain ⟨hi1, h⟩ := kb_ck_of h
  refine kb_ald S w 21 1 rfl rfl hi1 dB_giveHit_5 ?_
  refine W.eq (g2 := F0 m 6 ls [.ref (z0.2.1 (kb_ix (x1)))]) rfl ?_
  refine lv_astore_n S.1 S.2.1 dB_giveHit_6 rfl hl (by decide) rfl (fun ls hl => ?_)
  have hl : lv_has ls 4 [(2, .ref (z0.2.1 (kb_ix (x1)))), (0, .ref (a 0)), (1, .int x1)] := hl
  refine lv_aload_n S.1 S.2.1 dB_giveHit_7 rfl (lv_at hl 1 rfl) ?_
  refine lv_iload_n S.1 S.2.1 dB_giveHit_8 rfl (lv_at hl 2 rfl) ?_
  obtain ⟨r3, z2, hc4, h⟩ := kb_cl_of h
  refine kb_callv (As := [.int x1]) (rest := []) (q0 := 0) (ci := 2) S w (fun sz => cB_dequeue l D cI cQ a nb Q L _ _ _ sz x1 hc4) Y_B_dequeue I_B_dequeue S_B_dequeue lB_233 ⟨rfl, rfl, Nat.le_of_ble_eq_true rfl, Nat.le_of_ble_eq_true rfl⟩ rfl rfl rfl rfl hl.1 rfl (Nat.le_of_ble_eq_true rfl) dB_giveHit_9 ⟨Nat.le_of_ble_eq_true rfl, Nat.le_of_ble_eq_true rfl⟩ (fun H locs w => ?_)
  refine lv_aload_n S.1 S.2.1 dB_giveHit_12 rfl (lv_at hl 1 rfl) ?_
  refine lv_aload_n S.1 S.2.1 dB_giveHit_13 rfl (lv_at hl 0 rfl) ?_
  obtain ⟨r6, z5, hc7, h⟩ := kb_cl_of h
  refine kb_calli (As := [.ref (z0.2.1 (kb_ix (x1)))]) (rest := []) (q0 := 0) (ci := 2) S w (fun sz => cB_hasWaitedLong l D cI cQ a nb Q L _ _ _ sz (z0.2.1 (kb_ix (x1))) hc7) Y_B_hasWaitedLong I_B_hasWaitedLong S_B_hasWaitedLong lB_223 ⟨rfl, rfl, Nat.le_of_ble_eq_true rfl, Nat.le_of_ble_eq_true rfl⟩ rfl rfl rfl rfl hl.1 rfl (Nat.le_of_ble_eq_true rfl) dB_giveHit_14 ⟨Nat.le_of_ble_eq_true rfl, Nat.le_of_ble_eq_true rfl⟩ (fun H locs w => ?_)
  refine lv_if_eq (tgt := 30) S.1 S.2.1 dB_giveHit_17 (by decide) (fun hc => ?_) (fun hc => ?_)
  · have h := (kb_brt hc).symm.trans h
    exact J30 (z0.2.1 (kb_ix (x1))) z5 _ _ _ (lv_sub hl [1, 0] rfl) w h
  · have h := (kb_brf hc).symm.trans h
    refine lv_aload_n S.1 S.2.1 dB_giveHit_20 rfl (lv_at hl 1 rfl) ?_
    refine lv_dup S.1 S.2.1 dB_giveHit_21 rfl ?_
    refine kb_get S w 0 rfl fB_145 rfl dB_giveHit_22 ?_
    refine W.eq (g2 := F0 m 25 ls [.int (z5.1 0 3), .ref (a 0)]) rfl ?_
    refine lv_iconst (v := 1) S.1 S.2.1 dB_giveHit_25 (by decide) ?_
    refine lv_iadd S.1 S.2.1 dB_giveHit_26 ?_
    obtain ⟨z55, hz56, h⟩ := kb_st_of h
    refine kb_puti S w 0 rfl gB_145 (Nat.le_of_ble_eq_true rfl) (ws1 := bW cI cQ a nb Q L z55) (by rw [hz56]; rfl) dB_giveHit_27 (fun H locs w => ?_)
    exact J30 (z0.2.1 (kb_ix (x1))) z55 _ _ _ (lv_sub hl [1, 0] rfl) w h
set_option maxHeartbeats 4000000 in
set_option maxRecDepth 100000 in
theorem cB_giveFirst (l : Launch) (D : va_G) (cI cQ : ClassId) (a : Nat → Nat) (nb Q : Nat) (L : List Nat) (z0 z' : kc_S) (r : Int32) (sz : Nat) (h : pB_giveFirst nb Q L  z0 = some (r, z')) : Met l y_B_giveFirst (Cond.code y_B_giveFirst c_B_giveFirst 3 (some .int) :: wsB) rm_B_giveFirst (kb_Pc D vwCl [(cI, .int), (cQ, .object RReq)] sz [.ref (a 0)] (bW cI cQ a nb Q L z0)) (kb_Qi D vwCl sz (bW cI cQ a nb Q L z0) r (bW cI cQ a nb Q L z')) 0 0 (va_A (bW cI cQ a nb Q L z0) sz) := by
  refine kb_start (by decide) rfl (Nat.le_of_ble_eq_true rfl) ?_
  intro p e s m args below meth c A ls S hr hlk hsz hA w hl
  have hl : lv_has ls 3 [(0, .ref (a 0))] := hl
  unfold pB_giveFirst at h
  refine lv_aload_n S.1 S.2.1 dB_giveFirst_0 rfl (lv_at hl 0 rfl) ?_
  obtain ⟨r2, z1, hc3, h⟩ := kb_cl_of h
  refine kb_calli (As := []) (rest := []) (q0 := 0) (ci := 2) S w (fun sz => cB_refreshIsDue l D cI cQ a nb Q L _ _ _ sz  hc3) Y_B_refreshIsDue I_B_refreshIsDue S_B_refreshIsDue lB_194 ⟨rfl, rfl, Nat.le_of_ble_eq_true rfl, Nat.le_of_ble_eq_true rfl⟩ rfl rfl rfl rfl hl.1 rfl (Nat.le_of_ble_eq_true rfl) dB_giveFirst_1 ⟨Nat.le_of_ble_eq_true rfl, Nat.le_of_ble_eq_true rfl⟩ (fun H locs w => ?_)
  refine lv_if_eq (tgt := 12) S.1 S.2.1 dB_giveFirst_4 (by decide) (fun hc => ?_) (fun hc => ?_)
  · have h := (kb_brt hc).symm.trans h
    refine lv_aload_n S.1 S.2.1 dB_giveFirst_12 rfl (lv_at hl 0 rfl) ?_
    obtain ⟨r5, z4, hc6, h⟩ := kb_cl_of h
    refine kb_calli (As := []) (rest := []) (q0 := 0) (ci := 2) S w (fun sz => cB_countLookedAt l D cI cQ a nb Q L _ _ _ sz  hc6) Y_B_countLookedAt I_B_countLookedAt S_B_countLookedAt lB_201 ⟨rfl, rfl, Nat.le_of_ble_eq_true rfl, Nat.le_of_ble_eq_true rfl⟩ rfl rfl rfl rfl hl.1 rfl (Nat.le_of_ble_eq_true rfl) dB_giveFirst_13 ⟨Nat.le_of_ble_eq_true rfl, Nat.le_of_ble_eq_true rfl⟩ (fun H locs w => ?_)
    refine lv_istore_n S.1 S.2.1 dB_giveFirst_16 rfl hl (by decide) rfl (fun ls hl => ?_)
    have hl : lv_has ls 3 [(1, .int r5), (0, .ref (a 0))] := hl
    refine lv_aload_n S.1 S.2.1 dB_giveFirst_17 rfl (lv_at hl 1 rfl) ?_
    refine lv_iload_n S.1 S.2.1 dB_giveFirst_18 rfl (lv_at hl 0 rfl) ?_
    obtain ⟨r8, z7, hc9, h⟩ := kb_cl_of h
    refine kb_calli (As := [.int r5]) (rest := []) (q0 := 0) (ci := 2) S w (fun sz => cB_findHit l D cI cQ a nb Q L _ _ _ sz r5 hc9) Y_B_findHit I_B_findHit S_B_findHit lB_204 ⟨rfl, rfl, Nat.le_of_ble_eq_true rfl, Nat.le_of_ble_eq_true rfl⟩ rfl rfl rfl rfl hl.1 rfl (Nat.le_of_ble_eq_true rfl) dB_giveFirst_19 ⟨Nat.le_of_ble_eq_true rfl, Nat.le_of_ble_eq_true rfl⟩ (fun H locs w => ?_)
    refine lv_istore_n S.1 S.2.1 dB_giveFirst_22 rfl hl (by decide) rfl (fun ls hl => ?_)
    have hl : lv_has ls 3 [(2, .int r8), (1, .int r5), (0, .ref (a 0))] := hl
    refine lv_iload_n S.1 S.2.1 dB_giveFirst_23 rfl (lv_at hl 0 rfl) ?_
    refine lv_iconst (v := (-1)) S.1 S.2.1 dB_giveFirst_24 (by decide) ?_
    refine lv_icmp_ne (tgt := 36) S.1 S.2.1 dB_giveFirst_25 (by decide) (fun hc => ?_) (fun hc => ?_)
    · have h := (kb_brf hc).symm.trans h
      refine lv_aload_n S.1 S.2.1 dB_giveFirst_36 rfl (lv_at hl 2 rfl) ?_
      refine lv_iload_n S.1 S.2.1 dB_giveFirst_37 rfl (lv_at hl 0 rfl) ?_
      obtain ⟨r11, z10, hc12, h⟩ := kb_cl_of h
      refine kb_calli (As := [.int r8]) (rest := []) (q0 := 0) (ci := 2) S w (fun sz => cB_giveHit l D cI cQ a nb Q L _ _ _ sz r8 hc12) Y_B_giveHit I_B_giveHit S_B_giveHit lB_211 ⟨rfl, rfl, Nat.le_of_ble_eq_true rfl, Nat.le_of_ble_eq_true rfl⟩ rfl rfl rfl rfl hl.1 rfl (Nat.le_of_ble_eq_true rfl) dB_giveFirst_38 ⟨Nat.le_of_ble_eq_true rfl, Nat.le_of_ble_eq_true rfl⟩ (fun H locs w => ?_)
      exact kb_iret (bW cI cQ a nb Q L) S hr hlk hA w h dB_giveFirst_41
    · have h := (kb_brt hc).symm.trans h
      refine lv_aload_n S.1 S.2.1 dB_giveFirst_28 rfl (lv_at hl 2 rfl) ?_
      refine lv_iload_n S.1 S.2.1 dB_giveFirst_29 rfl (lv_at hl 1 rfl) ?_
      obtain ⟨r14, z13, hc15, h⟩ := kb_cl_of h
      refine kb_calli (As := [.int r5]) (rest := []) (q0 := 0) (ci := 2) S w (fun sz => cB_giveWay l D cI cQ a nb Q L _ _ _ sz r5 hc15) Y_B_giveWay I_B_giveWay S_B_giveWay lB_208 ⟨rfl, rfl, Nat.le_of_ble_eq_true rfl, Nat.le_of_ble_eq_true rfl⟩ rfl rfl rfl rfl hl.1 rfl (Nat.le_of_ble_eq_true rfl) dB_giveFirst_30 ⟨Nat.le_of_ble_eq_true rfl, Nat.le_of_ble_eq_true rfl⟩ (fun H locs w => ?_)
      refine lv_goto (tgt := 41) S.1 S.2.1 dB_giveFirst_33 (by decide) ?_
      exact kb_iret (bW cI cQ a nb Q L) S hr hlk hA w h dB_giveFirst_41
  · have h := (kb_brf hc).symm.trans h
    refine lv_aload_n S.1 S.2.1 dB_giveFirst_7 rfl (lv_at hl 0 rfl) ?_
    obtain ⟨r17, z16, hc18, h⟩ := kb_cl_of h
    refine kb_calli (As := []) (rest := []) (q0 := 0) (ci := 2) S w (fun sz => cB_giveRefreshing l D cI cQ a nb Q L _ _ _ sz  hc18) Y_B_giveRefreshing I_B_giveRefreshing S_B_giveRefreshing lB_198 ⟨rfl, rfl, Nat.le_of_ble_eq_true rfl, Nat.le_of_ble_eq_true rfl⟩ rfl rfl rfl rfl hl.1 rfl (Nat.le_of_ble_eq_true rfl) dB_giveFirst_8 ⟨Nat.le_of_ble_eq_true rfl, Nat.le_of_ble_eq_true rfl⟩ (fun H locs w => ?_)
    exact kb_iret (bW cI cQ a nb Q L) S hr hlk hA w h dB_giveFirst_11
