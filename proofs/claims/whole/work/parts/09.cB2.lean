set_option maxHeartbeats 4000000 in
set_option maxRecDepth 100000 in
theorem cB_hasRow (l : Launch) (D : va_G) (cI cQ : ClassId) (a : Nat → Nat) (nb Q : Nat) (L : List Nat) (z0 z' : kc_S) (r : Int32) (sz : Nat) (x0 : Int32) (h : pB_hasRow nb Q L x0 z0 = some (r, z')) : Met l y_B_hasRow (Cond.code y_B_hasRow c_B_hasRow 1 (some .boolean) :: wsB) rm_B_hasRow (kb_Pc D vwCl [(cI, .int), (cQ, .object RReq)] sz [.int x0] (bW cI cQ a nb Q L z0)) (kb_Qi D vwCl sz (bW cI cQ a nb Q L z0) r (bW cI cQ a nb Q L z')) 0 0 (va_A (bW cI cQ a nb Q L z0) sz) := by
  refine kb_start (by decide) rfl (Nat.le_of_ble_eq_true rfl) ?_
  intro p e s m args below meth c A ls S hr hlk hsz hA w hl
  have hl : lv_has ls 1 [(0, .int x0)] := hl
  unfold pB_hasRow at h
  refine lv_iload_n S.1 S.2.1 dB_hasRow_0 rfl (lv_at hl 0 rfl) ?_
  refine lv_if_eq (tgt := 14) S.1 S.2.1 dB_hasRow_1 (by decide) (fun hc => ?_) (fun hc => ?_)
  · have h := (kb_brt hc).symm.trans h
    refine lv_iconst (v := 1) S.1 S.2.1 dB_hasRow_14 (by decide) ?_
    refine lv_goto (tgt := 19) S.1 S.2.1 dB_hasRow_15 (by decide) ?_
    exact kb_zret (bW cI cQ a nb Q L) S hr hlk hA w h (by decide) dB_hasRow_19
  · have h := (kb_brf hc).symm.trans h
    refine lv_iload_n S.1 S.2.1 dB_hasRow_4 rfl (lv_at hl 0 rfl) ?_
    refine lv_iconst (v := 2) S.1 S.2.1 dB_hasRow_5 (by decide) ?_
    refine lv_icmp_eq (tgt := 14) S.1 S.2.1 dB_hasRow_6 (by decide) (fun hc => ?_) (fun hc => ?_)
    · have h := (kb_brt hc).symm.trans h
      refine lv_iconst (v := 1) S.1 S.2.1 dB_hasRow_14 (by decide) ?_
      refine lv_goto (tgt := 19) S.1 S.2.1 dB_hasRow_15 (by decide) ?_
      exact kb_zret (bW cI cQ a nb Q L) S hr hlk hA w h (by decide) dB_hasRow_19
    · have h := (kb_brf hc).symm.trans h
      refine lv_iload_n S.1 S.2.1 dB_hasRow_9 rfl (lv_at hl 0 rfl) ?_
      refine lv_iconst (v := 3) S.1 S.2.1 dB_hasRow_10 (by decide) ?_
      refine lv_icmp_ne (tgt := 18) S.1 S.2.1 dB_hasRow_11 (by decide) (fun hc => ?_) (fun hc => ?_)
      · have h := (kb_brf hc).symm.trans h
        refine lv_iconst (v := 0) S.1 S.2.1 dB_hasRow_18 (by decide) ?_
        exact kb_zret (bW cI cQ a nb Q L) S hr hlk hA w h (by decide) dB_hasRow_19
      · have h := (kb_brt hc).symm.trans h
        refine lv_iconst (v := 1) S.1 S.2.1 dB_hasRow_14 (by decide) ?_
        refine lv_goto (tgt := 19) S.1 S.2.1 dB_hasRow_15 (by decide) ?_
        exact kb_zret (bW cI cQ a nb Q L) S hr hlk hA w h (by decide) dB_hasRow_19
set_option maxHeartbeats 4000000 in
set_option maxRecDepth 100000 in
theorem cB_giveCommand (l : Launch) (D : va_G) (cI cQ : ClassId) (a : Nat → Nat) (nb Q : Nat) (L : List Nat) (z0 z' : kc_S) (r : Int32) (sz : Nat) (x1 : Int32) (x2 : Int32) (x3 : Int32) (h : pB_giveCommand nb Q L x1 x2 x3 z0 = some (r, z')) : Met l y_B_giveCommand (Cond.code y_B_giveCommand c_B_giveCommand 5 (some .int) :: wsB) rm_B_giveCommand (kb_Pc D vwCl [(cI, .int), (cQ, .object RReq)] sz [.ref (a 0), .int x1, .int x2, .int x3] (bW cI cQ a nb Q L z0)) (kb_Qi D vwCl sz (bW cI cQ a nb Q L z0) r (bW cI cQ a nb Q L z')) 0 0 (va_A (bW cI cQ a nb Q L z0) sz) := by
  refine kb_start (by decide) rfl (Nat.le_of_ble_eq_true rfl) ?_
  intro p e s m args below meth c A ls S hr hlk hsz hA w hl
  have hl : lv_has ls 5 [(0, .ref (a 0)), (1, .int x1), (2, .int x2), (3, .int x3)] := hl
  unfold pB_giveCommand at h
  have J33 : ∀ (x1 : Int32) (x3 : Int32) (x4 : Int32) (z : kc_S) (H : Heap) (locs : List Loc) (ls : Array Slot), lv_has ls 5 [(1, .int x1), (3, .int x3), (4, .int x4)] → kb_W D vwCl [(cI, .int), (cQ, .object RReq)] A s H locs (bW cI cQ a nb Q L z) → pB_giveCommand_J33 nb Q L x1 x3 x4 z = some (r, z') → W p l e rm_B_giveCommand s m args below meth c H locs 0 0 (MQ below (kb_Qi D vwCl sz (bW cI cQ a nb Q L z0) r (bW cI cQ a nb Q L z')) args s 0 0 (va_A (bW cI cQ a nb Q L z0) sz)) (F0 m 33 ls []) := by
    intro x1 x3 x4 z H locs ls hl w h
    unfold pB_giveCommand_J33 at h
    refine lv_iload_n S.1 S.2.1 dB_giveCommand_33 rfl (lv_at hl 0 rfl) ?_
    obtain ⟨r5, z4, hc6, h⟩ := kb_cl_of h
    refine kb_callS (As := [.int x1]) (rest := []) S w (fun sz => cB_hasRow l D cI cQ a nb Q L _ _ _ sz x1 hc6) Y_B_hasRow T_B_hasRow lB_155 ⟨rfl, rfl, Nat.le_of_ble_eq_true rfl, Nat.le_of_ble_eq_true rfl⟩ rfl hl.1 rfl (Nat.le_of_ble_eq_true rfl) dB_giveCommand_34 ⟨Nat.le_of_ble_eq_true rfl, Nat.le_of_ble_eq_true rfl⟩ (fun H locs w => ?_)
    refine lv_if_eq (tgt := 46) S.1 S.2.1 dB_giveCommand_37 (by decide) (fun hc => ?_) (fun hc => ?_)
    · have h := (kb_brt hc).symm.trans h
      refine lv_iload S.1 S.2.1 dB_giveCommand_46 (lv_at hl 2 rfl) ?_
      exact kb_iret (bW cI cQ a nb Q L) S hr hlk hA w h dB_giveCommand_48
    · have h := (kb_brf hc).symm.trans h
      refine lv_iload S.1 S.2.1 dB_giveCommand_40 (lv_at hl 2 rfl) ?_
      refine lv_iload_n S.1 S.2.1 dB_giveCommand_42 rfl (lv_at hl 1 rfl) ?_
      refine lv_iadd S.1 S.2.1 dB_giveCommand_43 ?_
      refine lv_istore S.1 S.2.1 dB_giveCommand_44 hl (by decide) rfl (fun ls hl => ?_)
      have hl : lv_has ls 5 [(4, .int (x4 + x3)), (1, .int x1), (3, .int x3)] := hl
      refine lv_iload S.1 S.2.1 dB_giveCommand_46 (lv_at hl 0 rfl) ?_
      exact kb_iret (bW cI cQ a nb Q L) S hr hlk hA w h dB_giveCommand_48
  refine lv_aload_n S.1 S.2.1 dB_giveCommand_0 rfl (lv_at hl 0 rfl) ?_
  refine kb_get S w 0 rfl fB_42 rfl dB_giveCommand_1 ?_
  refine W.eq (g2 := F0 m 4 ls [.ref (a 3)]) rfl ?_
  refine lv_iload_n S.1 S.2.1 dB_giveCommand_4 rfl (lv_at hl 1 rfl) ?_
  refine lv_iload_n S.1 S.2.1 dB_giveCommand_5 rfl (lv_at hl 2 rfl) ?_
  refine lv_iload_n S.1 S.2.1 dB_giveCommand_6 rfl (lv_at hl 3 rfl) ?_
  obtain ⟨r2, z1, hc3, h⟩ := kb_cl_of h
  refine kb_callv (As := [.int x1, .int x2, .int x3]) (rest := []) (q0 := 3) (ci := 0) S w (fun sz => cC_give_3 l D cI cQ a nb Q L _ _ _ sz x1 x2 x3 hc3) Y_C_give I_C_give S_C_give lB_166 ⟨rfl, rfl, Nat.le_of_ble_eq_true rfl, Nat.le_of_ble_eq_true rfl⟩ rfl rfl rfl rfl hl.1 rfl (Nat.le_of_ble_eq_true rfl) dB_giveCommand_7 ⟨Nat.le_of_ble_eq_true rfl, Nat.le_of_ble_eq_true rfl⟩ (fun H locs w => ?_)
  refine lv_sipush (v := 1000) S.1 S.2.1 dB_giveCommand_10 (by decide) ?_
  refine lv_iload_n S.1 S.2.1 dB_giveCommand_13 rfl (lv_at hl 1 rfl) ?_
  refine lv_iconst (v := 1) S.1 S.2.1 dB_giveCommand_14 (by decide) ?_
  refine lv_iadd S.1 S.2.1 dB_giveCommand_15 ?_
  refine lv_imul S.1 S.2.1 dB_giveCommand_16 ?_
  refine lv_istore S.1 S.2.1 dB_giveCommand_17 hl (by decide) rfl (fun ls hl => ?_)
  have hl : lv_has ls 5 [(4, .int (1000 * (x1 + 1))), (0, .ref (a 0)), (1, .int x1), (2, .int x2), (3, .int x3)] := hl
  refine lv_iload_n S.1 S.2.1 dB_giveCommand_19 rfl (lv_at hl 2 rfl) ?_
  refine lv_iconst (v := 4) S.1 S.2.1 dB_giveCommand_20 (by decide) ?_
  refine lv_icmp_eq (tgt := 33) S.1 S.2.1 dB_giveCommand_21 (by decide) (fun hc => ?_) (fun hc => ?_)
  · have h := (kb_brt hc).symm.trans h
    exact J33 x1 x3 (1000 * (x1 + 1)) z1 _ _ _ (lv_sub hl [2, 4, 0] rfl) w h
  · have h := (kb_brf hc).symm.trans h
    refine lv_iload S.1 S.2.1 dB_giveCommand_24 (lv_at hl 0 rfl) ?_
    refine lv_bipush (v := 100) S.1 S.2.1 dB_giveCommand_26 (by decide) ?_
    refine lv_iload_n S.1 S.2.1 dB_giveCommand_28 rfl (lv_at hl 3 rfl) ?_
    refine lv_imul S.1 S.2.1 dB_giveCommand_29 ?_
    refine lv_iadd S.1 S.2.1 dB_giveCommand_30 ?_
    refine lv_istore S.1 S.2.1 dB_giveCommand_31 hl (by decide) rfl (fun ls hl => ?_)
    have hl : lv_has ls 5 [(4, .int ((1000 * (x1 + 1)) + (100 * x2))), (0, .ref (a 0)), (1, .int x1), (2, .int x2), (3, .int x3)] := hl
    exact J33 x1 x3 ((1000 * (x1 + 1)) + (100 * x2)) z1 _ _ _ (lv_sub hl [2, 4, 0] rfl) w h
set_option maxHeartbeats 4000000 in
set_option maxRecDepth 100000 in
theorem cC_brokenByClose_3 (l : Launch) (D : va_G) (cI cQ : ClassId) (a : Nat → Nat) (nb Q : Nat) (L : List Nat) (z0 z' : kc_S) (r : Int32) (sz : Nat) (x1 : Int32) (h : pC_brokenByClose 3 nb Q L x1 z0 = some (r, z')) : Met l y_C_brokenByClose (Cond.code y_C_brokenByClose c_C_brokenByClose 2 (some .int) :: wsB) rm_C_brokenByClose (kb_Pc D vwCl [(cI, .int), (cQ, .object RReq)] sz [.ref (a 3), .int x1] (bW cI cQ a nb Q L z0)) (kb_Qi D vwCl sz (bW cI cQ a nb Q L z0) r (bW cI cQ a nb Q L z')) 0 0 (va_A (bW cI cQ a nb Q L z0) sz) := by
  refine kb_start (by decide) rfl (Nat.le_of_ble_eq_true rfl) ?_
  intro p e s m args below meth c A ls S hr hlk hsz hA w hl
  have hl : lv_has ls 2 [(0, .ref (a 3)), (1, .int x1)] := hl
  unfold pC_brokenByClose at h
  refine lv_aload_n S.1 S.2.1 dC_brokenByClose_0 rfl (lv_at hl 0 rfl) ?_
  refine kb_get S w 3 rfl fC_15 rfl dC_brokenByClose_1 ?_
  refine W.eq (g2 := F0 m 4 ls [.ref (a 4)]) rfl ?_
  refine lv_iload_n S.1 S.2.1 dC_brokenByClose_4 rfl (lv_at hl 1 rfl) ?_
  obtain ⟨hi1, h⟩ := kb_ck_of h
  refine kb_iald S w 4 0 rfl rfl hi1 dC_brokenByClose_5 ?_
  refine W.eq (g2 := F0 m 6 ls [.int (z0.1 4 (kb_ix (x1)))]) rfl ?_
  refine lv_iconst (v := (-1)) S.1 S.2.1 dC_brokenByClose_6 (by decide) ?_
  refine lv_icmp_ne (tgt := 13) S.1 S.2.1 dC_brokenByClose_7 (by decide) (fun hc => ?_) (fun hc => ?_)
  · have h := (kb_brf hc).symm.trans h
    refine lv_aload_n S.1 S.2.1 dC_brokenByClose_13 rfl (lv_at hl 0 rfl) ?_
    refine lv_iconst (v := 2) S.1 S.2.1 dC_brokenByClose_14 (by decide) ?_
    refine lv_aload_n S.1 S.2.1 dC_brokenByClose_15 rfl (lv_at hl 0 rfl) ?_
    refine kb_get S w 3 rfl fC_18 rfl dC_brokenByClose_16 ?_
    refine W.eq (g2 := F0 m 19 ls [.ref (a 5), .int 2, .ref (a 3)]) rfl ?_
    refine lv_iload_n S.1 S.2.1 dC_brokenByClose_19 rfl (lv_at hl 1 rfl) ?_
    obtain ⟨hi2, h⟩ := kb_ck_of h
    refine kb_iald S w 5 0 rfl rfl hi2 dC_brokenByClose_20 ?_
    refine W.eq (g2 := F0 m 21 ls [.int (z0.1 5 (kb_ix (x1))), .int 2, .ref (a 3)]) rfl ?_
    obtain ⟨r4, z3, hc5, h⟩ := kb_cl_of h
    refine kb_calli (As := [.int 2, .int (z0.1 5 (kb_ix (x1)))]) (rest := []) (q0 := 3) (ci := 0) S w (fun sz => cC_isTooSoon_3 l D cI cQ a nb Q L _ _ _ sz 2 (z0.1 5 (kb_ix (x1))) hc5) Y_C_isTooSoon I_C_isTooSoon S_C_isTooSoon lC_58 ⟨rfl, rfl, Nat.le_of_ble_eq_true rfl, Nat.le_of_ble_eq_true rfl⟩ rfl rfl rfl rfl hl.1 rfl (Nat.le_of_ble_eq_true rfl) dC_brokenByClose_21 ⟨Nat.le_of_ble_eq_true rfl, Nat.le_of_ble_eq_true rfl⟩ (fun H locs w => ?_)
    refine lv_if_eq (tgt := 30) S.1 S.2.1 dC_brokenByClose_24 (by decide) (fun hc => ?_) (fun hc => ?_)
    · have h := (kb_brt hc).symm.trans h
      refine lv_aload_n S.1 S.2.1 dC_brokenByClose_30 rfl (lv_at hl 0 rfl) ?_
      refine lv_iconst (v := 4) S.1 S.2.1 dC_brokenByClose_31 (by decide) ?_
      refine lv_aload_n S.1 S.2.1 dC_brokenByClose_32 rfl (lv_at hl 0 rfl) ?_
      refine kb_get S w 3 rfl fC_27 rfl dC_brokenByClose_33 ?_
      refine W.eq (g2 := F0 m 36 ls [.ref (a 8), .int 4, .ref (a 3)]) rfl ?_
      refine lv_iload_n S.1 S.2.1 dC_brokenByClose_36 rfl (lv_at hl 1 rfl) ?_
      obtain ⟨hi6, h⟩ := kb_ck_of h
      refine kb_iald S w 8 0 rfl rfl hi6 dC_brokenByClose_37 ?_
      refine W.eq (g2 := F0 m 38 ls [.int (z3.1 8 (kb_ix (x1))), .int 4, .ref (a 3)]) rfl ?_
      obtain ⟨r8, z7, hc9, h⟩ := kb_cl_of h
      refine kb_calli (As := [.int 4, .int (z3.1 8 (kb_ix (x1)))]) (rest := []) (q0 := 3) (ci := 0) S w (fun sz => cC_isTooSoon_3 l D cI cQ a nb Q L _ _ _ sz 4 (z3.1 8 (kb_ix (x1))) hc9) Y_C_isTooSoon I_C_isTooSoon S_C_isTooSoon lC_58 ⟨rfl, rfl, Nat.le_of_ble_eq_true rfl, Nat.le_of_ble_eq_true rfl⟩ rfl rfl rfl rfl hl.1 rfl (Nat.le_of_ble_eq_true rfl) dC_brokenByClose_38 ⟨Nat.le_of_ble_eq_true rfl, Nat.le_of_ble_eq_true rfl⟩ (fun H locs w => ?_)
      refine lv_if_eq (tgt := 47) S.1 S.2.1 dC_brokenByClose_41 (by decide) (fun hc => ?_) (fun hc => ?_)
      · have h := (kb_brt hc).symm.trans h
        refine lv_aload_n S.1 S.2.1 dC_brokenByClose_47 rfl (lv_at hl 0 rfl) ?_
        refine lv_iconst (v := 5) S.1 S.2.1 dC_brokenByClose_48 (by decide) ?_
        refine lv_aload_n S.1 S.2.1 dC_brokenByClose_49 rfl (lv_at hl 0 rfl) ?_
        refine kb_get S w 3 rfl fC_24 rfl dC_brokenByClose_50 ?_
        refine W.eq (g2 := F0 m 53 ls [.ref (a 7), .int 5, .ref (a 3)]) rfl ?_
        refine lv_iload_n S.1 S.2.1 dC_brokenByClose_53 rfl (lv_at hl 1 rfl) ?_
        obtain ⟨hi10, h⟩ := kb_ck_of h
        refine kb_iald S w 7 0 rfl rfl hi10 dC_brokenByClose_54 ?_
        refine W.eq (g2 := F0 m 55 ls [.int (z7.1 7 (kb_ix (x1))), .int 5, .ref (a 3)]) rfl ?_
        obtain ⟨r12, z11, hc13, h⟩ := kb_cl_of h
        refine kb_calli (As := [.int 5, .int (z7.1 7 (kb_ix (x1)))]) (rest := []) (q0 := 3) (ci := 0) S w (fun sz => cC_isTooSoon_3 l D cI cQ a nb Q L _ _ _ sz 5 (z7.1 7 (kb_ix (x1))) hc13) Y_C_isTooSoon I_C_isTooSoon S_C_isTooSoon lC_58 ⟨rfl, rfl, Nat.le_of_ble_eq_true rfl, Nat.le_of_ble_eq_true rfl⟩ rfl rfl rfl rfl hl.1 rfl (Nat.le_of_ble_eq_true rfl) dC_brokenByClose_55 ⟨Nat.le_of_ble_eq_true rfl, Nat.le_of_ble_eq_true rfl⟩ (fun H locs w => ?_)
        refine lv_if_eq (tgt := 66) S.1 S.2.1 dC_brokenByClose_58 (by decide) (fun hc => ?_) (fun hc => ?_)
        · have h := (kb_brt hc).symm.trans h
          refine lv_iconst (v := 0) S.1 S.2.1 dC_brokenByClose_66 (by decide) ?_
          exact kb_iret (bW cI cQ a nb Q L) S hr hlk hA w h dC_brokenByClose_67
        · have h := (kb_brf hc).symm.trans h
          refine lv_bipush (v := 10) S.1 S.2.1 dC_brokenByClose_61 (by decide) ?_
          refine lv_goto (tgt := 67) S.1 S.2.1 dC_brokenByClose_63 (by decide) ?_
          exact kb_iret (bW cI cQ a nb Q L) S hr hlk hA w h dC_brokenByClose_67
      · have h := (kb_brf hc).symm.trans h
        refine lv_bipush (v := 9) S.1 S.2.1 dC_brokenByClose_44 (by decide) ?_
        exact kb_iret (bW cI cQ a nb Q L) S hr hlk hA w h dC_brokenByClose_46
    · have h := (kb_brf hc).symm.trans h
      refine lv_bipush (v := 8) S.1 S.2.1 dC_brokenByClose_27 (by decide) ?_
      exact kb_iret (bW cI cQ a nb Q L) S hr hlk hA w h dC_brokenByClose_29
  · have h := (kb_brt hc).symm.trans h
    refine lv_bipush (v := 7) S.1 S.2.1 dC_brokenByClose_10 (by decide) ?_
    exact kb_iret (bW cI cQ a nb Q L) S hr hlk hA w h dC_brokenByClose_12
set_option maxHeartbeats 4000000 in
set_option maxRecDepth 100000 in
theorem cC_brokenByClose_11 (l : Launch) (D : va_G) (cI cQ : ClassId) (a : Nat → Nat) (nb Q : Nat) (L : List Nat) (z0 z' : kc_S) (r : Int32) (sz : Nat) (x1 : Int32) (h : pC_brokenByClose 11 nb Q L x1 z0 = some (r, z')) : Met l y_C_brokenByClose (Cond.code y_C_brokenByClose c_C_brokenByClose 2 (some .int) :: wsB) rm_C_brokenByClose (kb_Pc D vwCl [(cI, .int), (cQ, .object RReq)] sz [.ref (a 11), .int x1] (bW cI cQ a nb Q L z0)) (kb_Qi D vwCl sz (bW cI cQ a nb Q L z0) r (bW cI cQ a nb Q L z')) 0 0 (va_A (bW cI cQ a nb Q L z0) sz) := by
  refine kb_start (by decide) rfl (Nat.le_of_ble_eq_true rfl) ?_
  intro p e s m args below meth c A ls S hr hlk hsz hA w hl
  have hl : lv_has ls 2 [(0, .ref (a 11)), (1, .int x1)] := hl
  unfold pC_brokenByClose at h
  refine lv_aload_n S.1 S.2.1 dC_brokenByClose_0 rfl (lv_at hl 0 rfl) ?_
  refine kb_get S w 11 rfl fC_15 rfl dC_brokenByClose_1 ?_
  refine W.eq (g2 := F0 m 4 ls [.ref (a 12)]) rfl ?_
  refine lv_iload_n S.1 S.2.1 dC_brokenByClose_4 rfl (lv_at hl 1 rfl) ?_
  obtain ⟨hi1, h⟩ := kb_ck_of h
  refine kb_iald S w 12 0 rfl rfl hi1 dC_brokenByClose_5 ?_
  refine W.eq (g2 := F0 m 6 ls [.int (z0.1 12 (kb_ix (x1)))]) rfl ?_
  refine lv_iconst (v := (-1)) S.1 S.2.1 dC_brokenByClose_6 (by decide) ?_
  refine lv_icmp_ne (tgt := 13) S.1 S.2.1 dC_brokenByClose_7 (by decide) (fun hc => ?_) (fun hc => ?_)
  · have h := (kb_brf hc).symm.trans h
    refine lv_aload_n S.1 S.2.1 dC_brokenByClose_13 rfl (lv_at hl 0 rfl) ?_
    refine lv_iconst (v := 2) S.1 S.2.1 dC_brokenByClose_14 (by decide) ?_
    refine lv_aload_n S.1 S.2.1 dC_brokenByClose_15 rfl (lv_at hl 0 rfl) ?_
    refine kb_get S w 11 rfl fC_18 rfl dC_brokenByClose_16 ?_
    refine W.eq (g2 := F0 m 19 ls [.ref (a 13), .int 2, .ref (a 11)]) rfl ?_
    refine lv_iload_n S.1 S.2.1 dC_brokenByClose_19 rfl (lv_at hl 1 rfl) ?_
    obtain ⟨hi2, h⟩ := kb_ck_of h
    refine kb_iald S w 13 0 rfl rfl hi2 dC_brokenByClose_20 ?_
    refine W.eq (g2 := F0 m 21 ls [.int (z0.1 13 (kb_ix (x1))), .int 2, .ref (a 11)]) rfl ?_
    obtain ⟨r4, z3, hc5, h⟩ := kb_cl_of h
    refine kb_calli (As := [.int 2, .int (z0.1 13 (kb_ix (x1)))]) (rest := []) (q0 := 11) (ci := 0) S w (fun sz => cC_isTooSoon_11 l D cI cQ a nb Q L _ _ _ sz 2 (z0.1 13 (kb_ix (x1))) hc5) Y_C_isTooSoon I_C_isTooSoon S_C_isTooSoon lC_58 ⟨rfl, rfl, Nat.le_of_ble_eq_true rfl, Nat.le_of_ble_eq_true rfl⟩ rfl rfl rfl rfl hl.1 rfl (Nat.le_of_ble_eq_true rfl) dC_brokenByClose_21 ⟨Nat.le_of_ble_eq_true rfl, Nat.le_of_ble_eq_true rfl⟩ (fun H locs w => ?_)
    refine lv_if_eq (tgt := 30) S.1 S.2.1 dC_brokenByClose_24 (by decide) (fun hc => ?_) (fun hc => ?_)
    · have h := (kb_brt hc).symm.trans h
      refine lv_aload_n S.1 S.2.1 dC_brokenByClose_30 rfl (lv_at hl 0 rfl) ?_
      refine lv_iconst (v := 4) S.1 S.2.1 dC_brokenByClose_31 (by decide) ?_
      refine lv_aload_n S.1 S.2.1 dC_brokenByClose_32 rfl (lv_at hl 0 rfl) ?_
      refine kb_get S w 11 rfl fC_27 rfl dC_brokenByClose_33 ?_
      refine W.eq (g2 := F0 m 36 ls [.ref (a 16), .int 4, .ref (a 11)]) rfl ?_
      refine lv_iload_n S.1 S.2.1 dC_brokenByClose_36 rfl (lv_at hl 1 rfl) ?_
      obtain ⟨hi6, h⟩ := kb_ck_of h
      refine kb_iald S w 16 0 rfl rfl hi6 dC_brokenByClose_37 ?_
      refine W.eq (g2 := F0 m 38 ls [.int (z3.1 16 (kb_ix (x1))), .int 4, .ref (a 11)]) rfl ?_
      obtain ⟨r8, z7, hc9, h⟩ := kb_cl_of h
      refine kb_calli (As := [.int 4, .int (z3.1 16 (kb_ix (x1)))]) (rest := []) (q0 := 11) (ci := 0) S w (fun sz => cC_isTooSoon_11 l D cI cQ a nb Q L _ _ _ sz 4 (z3.1 16 (kb_ix (x1))) hc9) Y_C_isTooSoon I_C_isTooSoon S_C_isTooSoon lC_58 ⟨rfl, rfl, Nat.le_of_ble_eq_true rfl, Nat.le_of_ble_eq_true rfl⟩ rfl rfl rfl rfl hl.1 rfl (Nat.le_of_ble_eq_true rfl) dC_brokenByClose_38 ⟨Nat.le_of_ble_eq_true rfl, Nat.le_of_ble_eq_true rfl⟩ (fun H locs w => ?_)
      refine lv_if_eq (tgt := 47) S.1 S.2.1 dC_brokenByClose_41 (by decide) (fun hc => ?_) (fun hc => ?_)
      · have h := (kb_brt hc).symm.trans h
        refine lv_aload_n S.1 S.2.1 dC_brokenByClose_47 rfl (lv_at hl 0 rfl) ?_
        refine lv_iconst (v := 5) S.1 S.2.1 dC_brokenByClose_48 (by decide) ?_
        refine lv_aload_n S.1 S.2.1 dC_brokenByClose_49 rfl (lv_at hl 0 rfl) ?_
        refine kb_get S w 11 rfl fC_24 rfl dC_brokenByClose_50 ?_
        refine W.eq (g2 := F0 m 53 ls [.ref (a 15), .int 5, .ref (a 11)]) rfl ?_
        refine lv_iload_n S.1 S.2.1 dC_brokenByClose_53 rfl (lv_at hl 1 rfl) ?_
        obtain ⟨hi10, h⟩ := kb_ck_of h
        refine kb_iald S w 15 0 rfl rfl hi10 dC_brokenByClose_54 ?_
        refine W.eq (g2 := F0 m 55 ls [.int (z7.1 15 (kb_ix (x1))), .int 5, .ref (a 11)]) rfl ?_
        obtain ⟨r12, z11, hc13, h⟩ := kb_cl_of h
        refine kb_calli (As := [.int 5, .int (z7.1 15 (kb_ix (x1)))]) (rest := []) (q0 := 11) (ci := 0) S w (fun sz => cC_isTooSoon_11 l D cI cQ a nb Q L _ _ _ sz 5 (z7.1 15 (kb_ix (x1))) hc13) Y_C_isTooSoon I_C_isTooSoon S_C_isTooSoon lC_58 ⟨rfl, rfl, Nat.le_of_ble_eq_true rfl, Nat.le_of_ble_eq_true rfl⟩ rfl rfl rfl rfl hl.1 rfl (Nat.le_of_ble_eq_true rfl) dC_brokenByClose_55 ⟨Nat.le_of_ble_eq_true rfl, Nat.le_of_ble_eq_true rfl⟩ (fun H locs w => ?_)
        refine lv_if_eq (tgt := 66) S.1 S.2.1 dC_brokenByClose_58 (by decide) (fun hc => ?_) (fun hc => ?_)
        · have h := (kb_brt hc).symm.trans h
          refine lv_iconst (v := 0) S.1 S.2.1 dC_brokenByClose_66 (by decide) ?_
          exact kb_iret (bW cI cQ a nb Q L) S hr hlk hA w h dC_brokenByClose_67
        · have h := (kb_brf hc).symm.trans h
          refine lv_bipush (v := 10) S.1 S.2.1 dC_brokenByClose_61 (by decide) ?_
          refine lv_goto (tgt := 67) S.1 S.2.1 dC_brokenByClose_63 (by decide) ?_
          exact kb_iret (bW cI cQ a nb Q L) S hr hlk hA w h dC_brokenByClose_67
      · have h := (kb_brf hc).symm.trans h
        refine lv_bipush (v := 9) S.1 S.2.1 dC_brokenByClose_44 (by decide) ?_
        exact kb_iret (bW cI cQ a nb Q L) S hr hlk hA w h dC_brokenByClose_46
    · have h := (kb_brf hc).symm.trans h
      refine lv_bipush (v := 8) S.1 S.2.1 dC_brokenByClose_27 (by decide) ?_
      exact kb_iret (bW cI cQ a nb Q L) S hr hlk hA w h dC_brokenByClose_29
  · have h := (kb_brt hc).symm.trans h
    refine lv_bipush (v := 7) S.1 S.2.1 dC_brokenByClose_10 (by decide) ?_
    exact kb_iret (bW cI cQ a nb Q L) S hr hlk hA w h dC_brokenByClose_12
set_option maxHeartbeats 4000000 in
set_option maxRecDepth 100000 in
theorem cB_giveRefreshing (l : Launch) (D : va_G) (cI cQ : ClassId) (a : Nat → Nat) (nb Q : Nat) (L : List Nat) (z0 z' : kc_S) (r : Int32) (sz : Nat) (h : pB_giveRefreshing nb Q L  z0 = some (r, z')) : Met l y_B_giveRefreshing (Cond.code y_B_giveRefreshing c_B_giveRefreshing 2 (some .int) :: wsB) rm_B_giveRefreshing (kb_Pc D vwCl [(cI, .int), (cQ, .object RReq)] sz [.ref (a 0)] (bW cI cQ a nb Q L z0)) (kb_Qi D vwCl sz (bW cI cQ a nb Q L z0) r (bW cI cQ a nb Q L z')) 0 0 (va_A (bW cI cQ a nb Q L z0) sz) := by
  refine kb_start (by decide) rfl (Nat.le_of_ble_eq_true rfl) ?_
  intro p e s m args below meth c A ls S hr hlk hsz hA w hl
  have hl : lv_has ls 2 [(0, .ref (a 0))] := hl
  unfold pB_giveRefreshing at h
  have L20 : ∀ (n : Nat) (x1 : Int32) (z : kc_S) (H : Heap) (locs : List Loc) (ls : Array Slot), lv_has ls 2 [(0, .ref (a 0)), (1, .int x1)] → kb_W D vwCl [(cI, .int), (cQ, .object RReq)] A s H locs (bW cI cQ a nb Q L z) → pB_giveRefreshing_L20 nb Q L n x1 z = some (r, z') → W p l e rm_B_giveRefreshing s m args below meth c H locs 0 0 (MQ below (kb_Qi D vwCl sz (bW cI cQ a nb Q L z0) r (bW cI cQ a nb Q L z')) args s 0 0 (va_A (bW cI cQ a nb Q L z0) sz)) (F0 m 20 ls []) := by
    intro n
    induction n with
    | zero =>
      intro x1 z H locs ls hl w h
      exact absurd h (by simp [pB_giveRefreshing_L20])
    | succ n ih =>
      intro x1 z H locs ls hl w h
      rw [pB_giveRefreshing_L20] at h
      refine lv_iload_n S.1 S.2.1 dB_giveRefreshing_20 rfl (lv_at hl 1 rfl) ?_
      refine lv_aload_n S.1 S.2.1 dB_giveRefreshing_21 rfl (lv_at hl 0 rfl) ?_
      refine kb_get S w 0 rfl fB_42 rfl dB_giveRefreshing_22 ?_
      refine W.eq (g2 := F0 m 25 ls [.ref (a 3), .int x1]) rfl ?_
      refine kb_get S w 3 rfl fB_131 rfl dB_giveRefreshing_25 ?_
      refine W.eq (g2 := F0 m 28 ls [.ref (a 4), .int x1]) rfl ?_
      refine kb_alen S w 4 0 rfl rfl rfl dB_giveRefreshing_28 ?_
      refine W.eq (g2 := F0 m 29 ls [.int (nI nb), .int x1]) rfl ?_
      refine lv_icmp_ge (tgt := 57) S.1 S.2.1 dB_giveRefreshing_29 (by decide) (fun hc => ?_) (fun hc => ?_)
      · have h := (kb_brt hc).symm.trans h
        refine lv_iconst (v := 0) S.1 S.2.1 dB_giveRefreshing_57 (by decide) ?_
        exact kb_iret (bW cI cQ a nb Q L) S hr hlk hA w h dB_giveRefreshing_58
      · have h := (kb_brf hc).symm.trans h
        refine lv_aload_n S.1 S.2.1 dB_giveRefreshing_32 rfl (lv_at hl 0 rfl) ?_
        refine kb_get S w 0 rfl fB_42 rfl dB_giveRefreshing_33 ?_
        refine W.eq (g2 := F0 m 36 ls [.ref (a 3)]) rfl ?_
        refine lv_iload_n S.1 S.2.1 dB_giveRefreshing_36 rfl (lv_at hl 1 rfl) ?_
        obtain ⟨r5, z4, hc6, h⟩ := kb_cl_of h
        refine kb_calli (As := [.int x1]) (rest := []) (q0 := 3) (ci := 0) S w (fun sz => cC_brokenByClose_3 l D cI cQ a nb Q L _ _ _ sz x1 hc6) Y_C_brokenByClose I_C_brokenByClose S_C_brokenByClose lB_220 ⟨rfl, rfl, Nat.le_of_ble_eq_true rfl, Nat.le_of_ble_eq_true rfl⟩ rfl rfl rfl rfl hl.1 rfl (Nat.le_of_ble_eq_true rfl) dB_giveRefreshing_37 ⟨Nat.le_of_ble_eq_true rfl, Nat.le_of_ble_eq_true rfl⟩ (fun H locs w => ?_)
        refine lv_if_ne (tgt := 51) S.1 S.2.1 dB_giveRefreshing_40 (by decide) (fun hc => ?_) (fun hc => ?_)
        · have h := (kb_brf hc).symm.trans h
          refine lv_iinc (v := x1 + 1) (k := 1) S.1 S.2.1 dB_giveRefreshing_51 hl rfl rfl (by decide) rfl (fun ls hl => ?_)
          have hl : lv_has ls 2 [(1, .int (x1 + 1)), (0, .ref (a 0))] := hl
          refine lv_goto (tgt := 20) S.1 S.2.1 dB_giveRefreshing_54 (by decide) ?_
          exact ih (x1 + 1) z4 _ _ _ (lv_sub hl [1, 0] rfl) w h
        · have h := (kb_brt hc).symm.trans h
          refine lv_aload_n S.1 S.2.1 dB_giveRefreshing_43 rfl (lv_at hl 0 rfl) ?_
          refine lv_iconst (v := 1) S.1 S.2.1 dB_giveRefreshing_44 (by decide) ?_
          refine lv_iload_n S.1 S.2.1 dB_giveRefreshing_45 rfl (lv_at hl 1 rfl) ?_
          refine lv_iconst (v := 0) S.1 S.2.1 dB_giveRefreshing_46 (by decide) ?_
          obtain ⟨r8, z7, hc9, h⟩ := kb_cl_of h
          refine kb_calli (As := [.int 1, .int x1, .int 0]) (rest := []) (q0 := 0) (ci := 2) S w (fun sz => cB_giveCommand l D cI cQ a nb Q L _ _ _ sz 1 x1 0 hc9) Y_B_giveCommand I_B_giveCommand S_B_giveCommand lB_217 ⟨rfl, rfl, Nat.le_of_ble_eq_true rfl, Nat.le_of_ble_eq_true rfl⟩ rfl rfl rfl rfl hl.1 rfl (Nat.le_of_ble_eq_true rfl) dB_giveRefreshing_47 ⟨Nat.le_of_ble_eq_true rfl, Nat.le_of_ble_eq_true rfl⟩ (fun H locs w => ?_)
          exact kb_iret (bW cI cQ a nb Q L) S hr hlk hA w h dB_giveRefreshing_50
  refine lv_aload_n S.1 S.2.1 dB_giveRefreshing_0 rfl (lv_at hl 0 rfl) ?_
  refine kb_get S w 0 rfl fB_42 rfl dB_giveRefreshing_1 ?_
  refine W.eq (g2 := F0 m 4 ls [.ref (a 3)]) rfl ?_
  obtain ⟨r2, z1, hc3, h⟩ := kb_cl_of h
  refine kb_calli (As := []) (rest := []) (q0 := 3) (ci := 0) S w (fun sz => cC_brokenByRefresh_3 l D cI cQ a nb Q L _ _ _ sz  hc3) Y_C_brokenByRefresh I_C_brokenByRefresh S_C_brokenByRefresh lB_214 ⟨rfl, rfl, Nat.le_of_ble_eq_true rfl, Nat.le_of_ble_eq_true rfl⟩ rfl rfl rfl rfl hl.1 rfl (Nat.le_of_ble_eq_true rfl) dB_giveRefreshing_4 ⟨Nat.le_of_ble_eq_true rfl, Nat.le_of_ble_eq_true rfl⟩ (fun H locs w => ?_)
  refine lv_if_ne (tgt := 18) S.1 S.2.1 dB_giveRefreshing_7 (by decide) (fun hc => ?_) (fun hc => ?_)
  · have h := (kb_brf hc).symm.trans h
    refine lv_iconst (v := 0) S.1 S.2.1 dB_giveRefreshing_18 (by decide) ?_
    refine lv_istore_n S.1 S.2.1 dB_giveRefreshing_19 rfl hl (by decide) rfl (fun ls hl => ?_)
    have hl : lv_has ls 2 [(1, .int 0), (0, .ref (a 0))] := hl
    exact L20 3000 0 z1 _ _ _ (lv_sub hl [1, 0] rfl) w h
  · have h := (kb_brt hc).symm.trans h
    refine lv_aload_n S.1 S.2.1 dB_giveRefreshing_10 rfl (lv_at hl 0 rfl) ?_
    refine lv_iconst (v := 4) S.1 S.2.1 dB_giveRefreshing_11 (by decide) ?_
    refine lv_iconst (v := 0) S.1 S.2.1 dB_giveRefreshing_12 (by decide) ?_
    refine lv_iconst (v := 0) S.1 S.2.1 dB_giveRefreshing_13 (by decide) ?_
    obtain ⟨r11, z10, hc12, h⟩ := kb_cl_of h
    refine kb_calli (As := [.int 4, .int 0, .int 0]) (rest := []) (q0 := 0) (ci := 2) S w (fun sz => cB_giveCommand l D cI cQ a nb Q L _ _ _ sz 4 0 0 hc12) Y_B_giveCommand I_B_giveCommand S_B_giveCommand lB_217 ⟨rfl, rfl, Nat.le_of_ble_eq_true rfl, Nat.le_of_ble_eq_true rfl⟩ rfl rfl rfl rfl hl.1 rfl (Nat.le_of_ble_eq_true rfl) dB_giveRefreshing_14 ⟨Nat.le_of_ble_eq_true rfl, Nat.le_of_ble_eq_true rfl⟩ (fun H locs w => ?_)
    exact kb_iret (bW cI cQ a nb Q L) S hr hlk hA w h dB_giveRefreshing_17
set_option maxHeartbeats 4000000 in
set_option maxRecDepth 100000 in
theorem cB_hasWaitedLong (l : Launch) (D : va_G) (cI cQ : ClassId) (a : Nat → Nat) (nb Q : Nat) (L : List Nat) (z0 z' : kc_S) (r : Int32) (sz : Nat) (x1 : Nat) (h : pB_hasWaitedLong nb Q L x1 z0 = some (r, z')) : Met l y_B_hasWaitedLong (Cond.code y_B_hasWaitedLong c_B_hasWaitedLong 2 (some .boolean) :: wsB) rm_B_hasWaitedLong (kb_Pc D vwCl [(cI, .int), (cQ, .object RReq)] sz [.ref (a 0), .ref (x1)] (bW cI cQ a nb Q L z0)) (kb_Qi D vwCl sz (bW cI cQ a nb Q L z0) r (bW cI cQ a nb Q L z')) 0 0 (va_A (bW cI cQ a nb Q L z0) sz) := by
  refine kb_start (by decide) rfl (Nat.le_of_ble_eq_true rfl) ?_
  intro p e s m args below meth c A ls S hr hlk hsz hA w hl
  have hl : lv_has ls 2 [(0, .ref (a 0)), (1, .ref (x1))] := hl
  unfold pB_hasWaitedLong at h
  refine lv_aload_n S.1 S.2.1 dB_hasWaitedLong_0 rfl (lv_at hl 0 rfl) ?_
  refine kb_get S w 0 rfl fB_42 rfl dB_hasWaitedLong_1 ?_
  refine W.eq (g2 := F0 m 4 ls [.ref (a 3)]) rfl ?_
  refine kb_get S w 3 rfl fB_80 rfl dB_hasWaitedLong_4 ?_
  refine W.eq (g2 := F0 m 7 ls [.int (z0.1 3 3)]) rfl ?_
  refine lv_aload_n S.1 S.2.1 dB_hasWaitedLong_7 rfl (lv_at hl 1 rfl) ?_
  obtain ⟨hm1, h⟩ := kb_ck_of h
  obtain ⟨k2, hq3⟩ := va_pl_get (X := bX cI cQ a nb Q z0) (f := kc_F z0.2.2) hm1
  refine kb_get S w k2 hq3 fB_190 rfl dB_hasWaitedLong_8 ?_
  refine W.eq (g2 := F0 m 11 ls [.int (z0.2.2 x1 6), .int (z0.1 3 3)]) rfl ?_
  refine lv_isub S.1 S.2.1 dB_hasWaitedLong_11 ?_
  refine lv_aload_n S.1 S.2.1 dB_hasWaitedLong_12 rfl (lv_at hl 0 rfl) ?_
  refine kb_get S w 0 rfl fB_18 rfl dB_hasWaitedLong_13 ?_
  refine W.eq (g2 := F0 m 16 ls [.int (z0.1 0 0), .int ((z0.1 3 3) - (z0.2.2 x1 6))]) rfl ?_
  refine lv_icmp_lt (tgt := 23) S.1 S.2.1 dB_hasWaitedLong_16 (by decide) (fun hc => ?_) (fun hc => ?_)
  · have h := (kb_brt hc).symm.trans h
    refine lv_iconst (v := 0) S.1 S.2.1 dB_hasWaitedLong_23 (by decide) ?_
    exact kb_zret (bW cI cQ a nb Q L) S hr hlk hA w h (by decide) dB_hasWaitedLong_24
  · have h := (kb_brf hc).symm.trans h
    refine lv_iconst (v := 1) S.1 S.2.1 dB_hasWaitedLong_19 (by decide) ?_
    refine lv_goto (tgt := 24) S.1 S.2.1 dB_hasWaitedLong_20 (by decide) ?_
    exact kb_zret (bW cI cQ a nb Q L) S hr hlk hA w h (by decide) dB_hasWaitedLong_24
set_option maxHeartbeats 4000000 in
set_option maxRecDepth 100000 in
theorem cB_countLookedAt (l : Launch) (D : va_G) (cI cQ : ClassId) (a : Nat → Nat) (nb Q : Nat) (L : List Nat) (z0 z' : kc_S) (r : Int32) (sz : Nat) (h : pB_countLookedAt nb Q L  z0 = some (r, z')) : Met l y_B_countLookedAt (Cond.code y_B_countLookedAt c_B_countLookedAt 1 (some .int) :: wsB) rm_B_countLookedAt (kb_Pc D vwCl [(cI, .int), (cQ, .object RReq)] sz [.ref (a 0)] (bW cI cQ a nb Q L z0)) (kb_Qi D vwCl sz (bW cI cQ a nb Q L z0) r (bW cI cQ a nb Q L z')) 0 0 (va_A (bW cI cQ a nb Q L z0) sz) := by
  refine kb_start (by decide) rfl (Nat.le_of_ble_eq_true rfl) ?_
  intro p e s m args below meth c A ls S hr hlk hsz hA w hl
  have hl : lv_has ls 1 [(0, .ref (a 0))] := hl
  unfold pB_countLookedAt at h
  refine lv_aload_n S.1 S.2.1 dB_countLookedAt_0 rfl (lv_at hl 0 rfl) ?_
  refine kb_get S w 0 rfl fB_134 rfl dB_countLookedAt_1 ?_
  refine W.eq (g2 := F0 m 4 ls [.int (z0.1 0 1)]) rfl ?_
  refine lv_if_le (tgt := 24) S.1 S.2.1 dB_countLookedAt_4 (by decide) (fun hc => ?_) (fun hc => ?_)
  · have h := (kb_brt hc).symm.trans h
    refine lv_aload_n S.1 S.2.1 dB_countLookedAt_24 rfl (lv_at hl 0 rfl) ?_
    refine kb_get S w 0 rfl fB_134 rfl dB_countLookedAt_25 ?_
    refine W.eq (g2 := F0 m 28 ls [.int (z0.1 0 1)]) rfl ?_
    exact kb_iret (bW cI cQ a nb Q L) S hr hlk hA w h dB_countLookedAt_28
  · have h := (kb_brf hc).symm.trans h
    refine lv_aload_n S.1 S.2.1 dB_countLookedAt_7 rfl (lv_at hl 0 rfl) ?_
    refine lv_aload_n S.1 S.2.1 dB_countLookedAt_8 rfl (lv_at hl 0 rfl) ?_
    refine kb_get S w 0 rfl fB_51 rfl dB_countLookedAt_9 ?_
    refine W.eq (g2 := F0 m 12 ls [.ref (a 21), .ref (a 0)]) rfl ?_
    refine lv_iconst (v := 0) S.1 S.2.1 dB_countLookedAt_12 (by decide) ?_
    obtain ⟨hi1, h⟩ := kb_ck_of h
    refine kb_ald S w 21 1 rfl rfl hi1 dB_countLookedAt_13 ?_
    refine W.eq (g2 := F0 m 14 ls [.ref (z0.2.1 (kb_ix (0))), .ref (a 0)]) rfl ?_
    obtain ⟨r3, z2, hc4, h⟩ := kb_cl_of h
    refine kb_calli (As := [.ref (z0.2.1 (kb_ix (0)))]) (rest := []) (q0 := 0) (ci := 2) S w (fun sz => cB_hasWaitedLong l D cI cQ a nb Q L _ _ _ sz (z0.2.1 (kb_ix (0))) hc4) Y_B_hasWaitedLong I_B_hasWaitedLong S_B_hasWaitedLong lB_223 ⟨rfl, rfl, Nat.le_of_ble_eq_true rfl, Nat.le_of_ble_eq_true rfl⟩ rfl rfl rfl rfl hl.1 rfl (Nat.le_of_ble_eq_true rfl) dB_countLookedAt_14 ⟨Nat.le_of_ble_eq_true rfl, Nat.le_of_ble_eq_true rfl⟩ (fun H locs w => ?_)
    refine lv_if_eq (tgt := 24) S.1 S.2.1 dB_countLookedAt_17 (by decide) (fun hc => ?_) (fun hc => ?_)
    · have h := (kb_brt hc).symm.trans h
      refine lv_aload_n S.1 S.2.1 dB_countLookedAt_24 rfl (lv_at hl 0 rfl) ?_
      refine kb_get S w 0 rfl fB_134 rfl dB_countLookedAt_25 ?_
      refine W.eq (g2 := F0 m 28 ls [.int (z2.1 0 1)]) rfl ?_
      exact kb_iret (bW cI cQ a nb Q L) S hr hlk hA w h dB_countLookedAt_28
    · have h := (kb_brf hc).symm.trans h
      refine lv_iconst (v := 1) S.1 S.2.1 dB_countLookedAt_20 (by decide) ?_
      refine lv_goto (tgt := 28) S.1 S.2.1 dB_countLookedAt_21 (by decide) ?_
      exact kb_iret (bW cI cQ a nb Q L) S hr hlk hA w h dB_countLookedAt_28
set_option maxHeartbeats 4000000 in
set_option maxRecDepth 100000 in
theorem cC_brokenByAccess_3 (l : Launch) (D : va_G) (cI cQ : ClassId) (a : Nat → Nat) (nb Q : Nat) (L : List Nat) (z0 z' : kc_S) (r : Int32) (sz : Nat) (x1 : Int32) (x2 : Int32) (h : pC_brokenByAccess 3 nb Q L x1 x2 z0 = some (r, z')) : Met l y_C_brokenByAccess (Cond.code y_C_brokenByAccess c_C_brokenByAccess 3 (some .int) :: wsB) rm_C_brokenByAccess (kb_Pc D vwCl [(cI, .int), (cQ, .object RReq)] sz [.ref (a 3), .int x1, .int x2] (bW cI cQ a nb Q L z0)) (kb_Qi D vwCl sz (bW cI cQ a nb Q L z0) r (bW cI cQ a nb Q L z')) 0 0 (va_A (bW cI cQ a nb Q L z0) sz) := by
  refine kb_start (by decide) rfl (Nat.le_of_ble_eq_true rfl) ?_
  intro p e s m args below meth c A ls S hr hlk hsz hA w hl
  have hl : lv_has ls 3 [(0, .ref (a 3)), (1, .int x1), (2, .int x2)] := hl
  unfold pC_brokenByAccess at h
  refine lv_aload_n S.1 S.2.1 dC_brokenByAccess_0 rfl (lv_at hl 0 rfl) ?_
  refine kb_get S w 3 rfl fC_15 rfl dC_brokenByAccess_1 ?_
  refine W.eq (g2 := F0 m 4 ls [.ref (a 4)]) rfl ?_
  refine lv_iload_n S.1 S.2.1 dC_brokenByAccess_4 rfl (lv_at hl 1 rfl) ?_
  obtain ⟨hi1, h⟩ := kb_ck_of h
  refine kb_iald S w 4 0 rfl rfl hi1 dC_brokenByAccess_5 ?_
  refine W.eq (g2 := F0 m 6 ls [.int (z0.1 4 (kb_ix (x1)))]) rfl ?_
  refine lv_iload_n S.1 S.2.1 dC_brokenByAccess_6 rfl (lv_at hl 2 rfl) ?_
  refine lv_icmp_eq (tgt := 13) S.1 S.2.1 dC_brokenByAccess_7 (by decide) (fun hc => ?_) (fun hc => ?_)
  · have h := (kb_brt hc).symm.trans h
    refine lv_aload_n S.1 S.2.1 dC_brokenByAccess_13 rfl (lv_at hl 0 rfl) ?_
    refine lv_iconst (v := 0) S.1 S.2.1 dC_brokenByAccess_14 (by decide) ?_
    refine lv_aload_n S.1 S.2.1 dC_brokenByAccess_15 rfl (lv_at hl 0 rfl) ?_
    refine kb_get S w 3 rfl fC_18 rfl dC_brokenByAccess_16 ?_
    refine W.eq (g2 := F0 m 19 ls [.ref (a 5), .int 0, .ref (a 3)]) rfl ?_
    refine lv_iload_n S.1 S.2.1 dC_brokenByAccess_19 rfl (lv_at hl 1 rfl) ?_
    obtain ⟨hi2, h⟩ := kb_ck_of h
    refine kb_iald S w 5 0 rfl rfl hi2 dC_brokenByAccess_20 ?_
    refine W.eq (g2 := F0 m 21 ls [.int (z0.1 5 (kb_ix (x1))), .int 0, .ref (a 3)]) rfl ?_
    obtain ⟨r4, z3, hc5, h⟩ := kb_cl_of h
    refine kb_calli (As := [.int 0, .int (z0.1 5 (kb_ix (x1)))]) (rest := []) (q0 := 3) (ci := 0) S w (fun sz => cC_isTooSoon_3 l D cI cQ a nb Q L _ _ _ sz 0 (z0.1 5 (kb_ix (x1))) hc5) Y_C_isTooSoon I_C_isTooSoon S_C_isTooSoon lC_58 ⟨rfl, rfl, Nat.le_of_ble_eq_true rfl, Nat.le_of_ble_eq_true rfl⟩ rfl rfl rfl rfl hl.1 rfl (Nat.le_of_ble_eq_true rfl) dC_brokenByAccess_21 ⟨Nat.le_of_ble_eq_true rfl, Nat.le_of_ble_eq_true rfl⟩ (fun H locs w => ?_)
    refine lv_if_eq (tgt := 30) S.1 S.2.1 dC_brokenByAccess_24 (by decide) (fun hc => ?_) (fun hc => ?_)
    · have h := (kb_brt hc).symm.trans h
      refine lv_aload_n S.1 S.2.1 dC_brokenByAccess_30 rfl (lv_at hl 0 rfl) ?_
      refine lv_bipush (v := 6) S.1 S.2.1 dC_brokenByAccess_31 (by decide) ?_
      refine lv_aload_n S.1 S.2.1 dC_brokenByAccess_33 rfl (lv_at hl 0 rfl) ?_
      refine kb_get S w 3 rfl fC_36 rfl dC_brokenByAccess_34 ?_
      refine W.eq (g2 := F0 m 37 ls [.int (z3.1 3 1), .int 6, .ref (a 3)]) rfl ?_
      obtain ⟨r7, z6, hc8, h⟩ := kb_cl_of h
      refine kb_calli (As := [.int 6, .int (z3.1 3 1)]) (rest := []) (q0 := 3) (ci := 0) S w (fun sz => cC_isTooSoon_3 l D cI cQ a nb Q L _ _ _ sz 6 (z3.1 3 1) hc8) Y_C_isTooSoon I_C_isTooSoon S_C_isTooSoon lC_58 ⟨rfl, rfl, Nat.le_of_ble_eq_true rfl, Nat.le_of_ble_eq_true rfl⟩ rfl rfl rfl rfl hl.1 rfl (Nat.le_of_ble_eq_true rfl) dC_brokenByAccess_37 ⟨Nat.le_of_ble_eq_true rfl, Nat.le_of_ble_eq_true rfl⟩ (fun H locs w => ?_)
      refine lv_if_eq (tgt := 48) S.1 S.2.1 dC_brokenByAccess_40 (by decide) (fun hc => ?_) (fun hc => ?_)
      · have h := (kb_brt hc).symm.trans h
        refine lv_iconst (v := 0) S.1 S.2.1 dC_brokenByAccess_48 (by decide) ?_
        exact kb_iret (bW cI cQ a nb Q L) S hr hlk hA w h dC_brokenByAccess_49
      · have h := (kb_brf hc).symm.trans h
        refine lv_bipush (v := 13) S.1 S.2.1 dC_brokenByAccess_43 (by decide) ?_
        refine lv_goto (tgt := 49) S.1 S.2.1 dC_brokenByAccess_45 (by decide) ?_
        exact kb_iret (bW cI cQ a nb Q L) S hr hlk hA w h dC_brokenByAccess_49
    · have h := (kb_brf hc).symm.trans h
      refine lv_bipush (v := 12) S.1 S.2.1 dC_brokenByAccess_27 (by decide) ?_
      exact kb_iret (bW cI cQ a nb Q L) S hr hlk hA w h dC_brokenByAccess_29
  · have h := (kb_brf hc).symm.trans h
    refine lv_bipush (v := 11) S.1 S.2.1 dC_brokenByAccess_10 (by decide) ?_
    exact kb_iret (bW cI cQ a nb Q L) S hr hlk hA w h dC_brokenByAccess_12
set_option maxHeartbeats 4000000 in
set_option maxRecDepth 100000 in
theorem cC_brokenByAccess_11 (l : Launch) (D : va_G) (cI cQ : ClassId) (a : Nat → Nat) (nb Q : Nat) (L : List Nat) (z0 z' : kc_S) (r : Int32) (sz : Nat) (x1 : Int32) (x2 : Int32) (h : pC_brokenByAccess 11 nb Q L x1 x2 z0 = some (r, z')) : Met l y_C_brokenByAccess (Cond.code y_C_brokenByAccess c_C_brokenByAccess 3 (some .int) :: wsB) rm_C_brokenByAccess (kb_Pc D vwCl [(cI, .int), (cQ, .object RReq)] sz [.ref (a 11), .int x1, .int x2] (bW cI cQ a nb Q L z0)) (kb_Qi D vwCl sz (bW cI cQ a nb Q L z0) r (bW cI cQ a nb Q L z')) 0 0 (va_A (bW cI cQ a nb Q L z0) sz) := by
  refine kb_start (by decide) rfl (Nat.le_of_ble_eq_true rfl) ?_
  intro p e s m args below meth c A ls S hr hlk hsz hA w hl
  have hl : lv_has ls 3 [(0, .ref (a 11)), (1, .int x1), (2, .int x2)] := hl
  unfold pC_brokenByAccess at h
  refine lv_aload_n S.1 S.2.1 dC_brokenByAccess_0 rfl (lv_at hl 0 rfl) ?_
  refine kb_get S w 11 rfl fC_15 rfl dC_brokenByAccess_1 ?_
  refine W.eq (g2 := F0 m 4 ls [.ref (a 12)]) rfl ?_
  refine lv_iload_n S.1 S.2.1 dC_brokenByAccess_4 rfl (lv_at hl 1 rfl) ?_
  obtain ⟨hi1, h⟩ := kb_ck_of h
  refine kb_iald S w 12 0 rfl rfl hi1 dC_brokenByAccess_5 ?_
  refine W.eq (g2 := F0 m 6 ls [.int (z0.1 12 (kb_ix (x1)))]) rfl ?_
  refine lv_iload_n S.1 S.2.1 dC_brokenByAccess_6 rfl (lv_at hl 2 rfl) ?_
  refine lv_icmp_eq (tgt := 13) S.1 S.2.1 dC_brokenByAccess_7 (by decide) (fun hc => ?_) (fun hc => ?_)
  · have h := (kb_brt hc).symm.trans h
    refine lv_aload_n S.1 S.2.1 dC_brokenByAccess_13 rfl (lv_at hl 0 rfl) ?_
    refine lv_iconst (v := 0) S.1 S.2.1 dC_brokenByAccess_14 (by decide) ?_
    refine lv_aload_n S.1 S.2.1 dC_brokenByAccess_15 rfl (lv_at hl 0 rfl) ?_
    refine kb_get S w 11 rfl fC_18 rfl dC_brokenByAccess_16 ?_
    refine W.eq (g2 := F0 m 19 ls [.ref (a 13), .int 0, .ref (a 11)]) rfl ?_
    refine lv_iload_n S.1 S.2.1 dC_brokenByAccess_19 rfl (lv_at hl 1 rfl) ?_
    obtain ⟨hi2, h⟩ := kb_ck_of h
    refine kb_iald S w 13 0 rfl rfl hi2 dC_brokenByAccess_20 ?_
    refine W.eq (g2 := F0 m 21 ls [.int (z0.1 13 (kb_ix (x1))), .int 0, .ref (a 11)]) rfl ?_
    obtain ⟨r4, z3, hc5, h⟩ := kb_cl_of h
    refine kb_calli (As := [.int 0, .int (z0.1 13 (kb_ix (x1)))]) (rest := []) (q0 := 11) (ci := 0) S w (fun sz => cC_isTooSoon_11 l D cI cQ a nb Q L _ _ _ sz 0 (z0.1 13 (kb_ix (x1))) hc5) Y_C_isTooSoon I_C_isTooSoon S_C_isTooSoon lC_58 ⟨rfl, rfl, Nat.le_of_ble_eq_true rfl, Nat.le_of_ble_eq_true rfl⟩ rfl rfl rfl rfl hl.1 rfl (Nat.le_of_ble_eq_true rfl) dC_brokenByAccess_21 ⟨Nat.le_of_ble_eq_true rfl, Nat.le_of_ble_eq_true rfl⟩ (fun H locs w => ?_)
    refine lv_if_eq (tgt := 30) S.1 S.2.1 dC_brokenByAccess_24 (by decide) (fun hc => ?_) (fun hc => ?_)
    · have h := (kb_brt hc).symm.trans h
      refine lv_aload_n S.1 S.2.1 dC_brokenByAccess_30 rfl (lv_at hl 0 rfl) ?_
      refine lv_bipush (v := 6) S.1 S.2.1 dC_brokenByAccess_31 (by decide) ?_
      refine lv_aload_n S.1 S.2.1 dC_brokenByAccess_33 rfl (lv_at hl 0 rfl) ?_
      refine kb_get S w 11 rfl fC_36 rfl dC_brokenByAccess_34 ?_
      refine W.eq (g2 := F0 m 37 ls [.int (z3.1 11 1), .int 6, .ref (a 11)]) rfl ?_
      obtain ⟨r7, z6, hc8, h⟩ := kb_cl_of h
      refine kb_calli (As := [.int 6, .int (z3.1 11 1)]) (rest := []) (q0 := 11) (ci := 0) S w (fun sz => cC_isTooSoon_11 l D cI cQ a nb Q L _ _ _ sz 6 (z3.1 11 1) hc8) Y_C_isTooSoon I_C_isTooSoon S_C_isTooSoon lC_58 ⟨rfl, rfl, Nat.le_of_ble_eq_true rfl, Nat.le_of_ble_eq_true rfl⟩ rfl rfl rfl rfl hl.1 rfl (Nat.le_of_ble_eq_true rfl) dC_brokenByAccess_37 ⟨Nat.le_of_ble_eq_true rfl, Nat.le_of_ble_eq_true rfl⟩ (fun H locs w => ?_)
      refine lv_if_eq (tgt := 48) S.1 S.2.1 dC_brokenByAccess_40 (by decide) (fun hc => ?_) (fun hc => ?_)
      · have h := (kb_brt hc).symm.trans h
        refine lv_iconst (v := 0) S.1 S.2.1 dC_brokenByAccess_48 (by decide) ?_
        exact kb_iret (bW cI cQ a nb Q L) S hr hlk hA w h dC_brokenByAccess_49
      · have h := (kb_brf hc).symm.trans h
        refine lv_bipush (v := 13) S.1 S.2.1 dC_brokenByAccess_43 (by decide) ?_
        refine lv_goto (tgt := 49) S.1 S.2.1 dC_brokenByAccess_45 (by decide) ?_
        exact kb_iret (bW cI cQ a nb Q L) S hr hlk hA w h dC_brokenByAccess_49
    · have h := (kb_brf hc).symm.trans h
      refine lv_bipush (v := 12) S.1 S.2.1 dC_brokenByAccess_27 (by decide) ?_
      exact kb_iret (bW cI cQ a nb Q L) S hr hlk hA w h dC_brokenByAccess_29
  · have h := (kb_brf hc).symm.trans h
    refine lv_bipush (v := 11) S.1 S.2.1 dC_brokenByAccess_10 (by decide) ?_
    exact kb_iret (bW cI cQ a nb Q L) S hr hlk hA w h dC_brokenByAccess_12
set_option maxHeartbeats 4000000 in
set_option maxRecDepth 100000 in
theorem cB_hasOlderForWord (l : Launch) (D : va_G) (cI cQ : ClassId) (a : Nat → Nat) (nb Q : Nat) (L : List Nat) (z0 z' : kc_S) (r : Int32) (sz : Nat) (x1 : Int32) (h : pB_hasOlderForWord nb Q L x1 z0 = some (r, z')) : Met l y_B_hasOlderForWord (Cond.code y_B_hasOlderForWord c_B_hasOlderForWord 3 (some .boolean) :: wsB) rm_B_hasOlderForWord (kb_Pc D vwCl [(cI, .int), (cQ, .object RReq)] sz [.ref (a 0), .int x1] (bW cI cQ a nb Q L z0)) (kb_Qi D vwCl sz (bW cI cQ a nb Q L z0) r (bW cI cQ a nb Q L z')) 0 0 (va_A (bW cI cQ a nb Q L z0) sz) := by
  refine kb_start (by decide) rfl (Nat.le_of_ble_eq_true rfl) ?_
  intro p e s m args below meth c A ls S hr hlk hsz hA w hl
  have hl : lv_has ls 3 [(0, .ref (a 0)), (1, .int x1)] := hl
  unfold pB_hasOlderForWord at h
  have L2 : ∀ (n : Nat) (x1 : Int32) (x2 : Int32) (z : kc_S) (H : Heap) (locs : List Loc) (ls : Array Slot), lv_has ls 3 [(0, .ref (a 0)), (1, .int x1), (2, .int x2)] → kb_W D vwCl [(cI, .int), (cQ, .object RReq)] A s H locs (bW cI cQ a nb Q L z) → pB_hasOlderForWord_L2 nb Q L n x1 x2 z = some (r, z') → W p l e rm_B_hasOlderForWord s m args below meth c H locs 0 0 (MQ below (kb_Qi D vwCl sz (bW cI cQ a nb Q L z0) r (bW cI cQ a nb Q L z')) args s 0 0 (va_A (bW cI cQ a nb Q L z0) sz)) (F0 m 2 ls []) := by
    intro n
    induction n with
    | zero =>
      intro x1 x2 z H locs ls hl w h
      exact absurd h (by simp [pB_hasOlderForWord_L2])
    | succ n ih =>
      intro x1 x2 z H locs ls hl w h
      rw [pB_hasOlderForWord_L2] at h
      refine lv_iload_n S.1 S.2.1 dB_hasOlderForWord_2 rfl (lv_at hl 2 rfl) ?_
      refine lv_iload_n S.1 S.2.1 dB_hasOlderForWord_3 rfl (lv_at hl 1 rfl) ?_
      refine lv_icmp_ge (tgt := 36) S.1 S.2.1 dB_hasOlderForWord_4 (by decide) (fun hc => ?_) (fun hc => ?_)
      · have h := (kb_brt hc).symm.trans h
        refine lv_iconst (v := 0) S.1 S.2.1 dB_hasOlderForWord_36 (by decide) ?_
        exact kb_zret (bW cI cQ a nb Q L) S hr hlk hA w h (by decide) dB_hasOlderForWord_37
      · have h := (kb_brf hc).symm.trans h
        refine lv_aload_n S.1 S.2.1 dB_hasOlderForWord_7 rfl (lv_at hl 0 rfl) ?_
        refine kb_get S w 0 rfl fB_51 rfl dB_hasOlderForWord_8 ?_
        refine W.eq (g2 := F0 m 11 ls [.ref (a 21)]) rfl ?_
        refine lv_iload_n S.1 S.2.1 dB_hasOlderForWord_11 rfl (lv_at hl 2 rfl) ?_
        obtain ⟨hi1, h⟩ := kb_ck_of h
        refine kb_ald S w 21 1 rfl rfl hi1 dB_hasOlderForWord_12 ?_
        refine W.eq (g2 := F0 m 13 ls [.ref (z.2.1 (kb_ix (x2)))]) rfl ?_
        obtain ⟨hm2, h⟩ := kb_ck_of h
        obtain ⟨k3, hq4⟩ := va_pl_get (X := bX cI cQ a nb Q z) (f := kc_F z.2.2) hm2
        refine kb_get S w k3 hq4 fB_184 rfl dB_hasOlderForWord_13 ?_
        refine W.eq (g2 := F0 m 16 ls [.int (z.2.2 (z.2.1 (kb_ix (x2))) 3)]) rfl ?_
        refine lv_aload_n S.1 S.2.1 dB_hasOlderForWord_16 rfl (lv_at hl 0 rfl) ?_
        refine kb_get S w 0 rfl fB_51 rfl dB_hasOlderForWord_17 ?_
        refine W.eq (g2 := F0 m 20 ls [.ref (a 21), .int (z.2.2 (z.2.1 (kb_ix (x2))) 3)]) rfl ?_
        refine lv_iload_n S.1 S.2.1 dB_hasOlderForWord_20 rfl (lv_at hl 1 rfl) ?_
        obtain ⟨hi5, h⟩ := kb_ck_of h
        refine kb_ald S w 21 1 rfl rfl hi5 dB_hasOlderForWord_21 ?_
        refine W.eq (g2 := F0 m 22 ls [.ref (z.2.1 (kb_ix (x1))), .int (z.2.2 (z.2.1 (kb_ix (x2))) 3)]) rfl ?_
        obtain ⟨hm6, h⟩ := kb_ck_of h
        obtain ⟨k7, hq8⟩ := va_pl_get (X := bX cI cQ a nb Q z) (f := kc_F z.2.2) hm6
        refine kb_get S w k7 hq8 fB_184 rfl dB_hasOlderForWord_22 ?_
        refine W.eq (g2 := F0 m 25 ls [.int (z.2.2 (z.2.1 (kb_ix (x1))) 3), .int (z.2.2 (z.2.1 (kb_ix (x2))) 3)]) rfl ?_
        refine lv_icmp_ne (tgt := 30) S.1 S.2.1 dB_hasOlderForWord_25 (by decide) (fun hc => ?_) (fun hc => ?_)
        · have h := (kb_brf hc).symm.trans h
          refine lv_iinc (v := x2 + 1) (k := 2) S.1 S.2.1 dB_hasOlderForWord_30 hl rfl rfl (by decide) rfl (fun ls hl => ?_)
          have hl : lv_has ls 3 [(2, .int (x2 + 1)), (0, .ref (a 0)), (1, .int x1)] := hl
          refine lv_goto (tgt := 2) S.1 S.2.1 dB_hasOlderForWord_33 (by decide) ?_
          exact ih x1 (x2 + 1) z _ _ _ (lv_sub hl [1, 2, 0] rfl) w h
        · have h := (kb_brt hc).symm.trans h
          refine lv_iconst (v := 1) S.1 S.2.1 dB_hasOlderForWord_28 (by decide) ?_
          exact kb_zret (bW cI cQ a nb Q L) S hr hlk hA w h (by decide) dB_hasOlderForWord_29
  refine lv_iconst (v := 0) S.1 S.2.1 dB_hasOlderForWord_0 (by decide) ?_
  refine lv_istore_n S.1 S.2.1 dB_hasOlderForWord_1 rfl hl (by decide) rfl (fun ls hl => ?_)
  have hl : lv_has ls 3 [(2, .int 0), (0, .ref (a 0)), (1, .int x1)] := hl
  exact L2 3000 x1 0 z0 _ _ _ (lv_sub hl [1, 2, 0] rfl) w h
set_option maxHeartbeats 4000000 in
set_option maxRecDepth 100000 in
theorem cB_findHit (l : Launch) (D : va_G) (cI cQ : ClassId) (a : Nat → Nat) (nb Q : Nat) (L : List Nat) (z0 z' : kc_S) (r : Int32) (sz : Nat) (x1 : Int32) (h : pB_findHit nb Q L x1 z0 = some (r, z')) : Met l y_B_findHit (Cond.code y_B_findHit c_B_findHit 4 (some .int) :: wsB) rm_B_findHit (kb_Pc D vwCl [(cI, .int), (cQ, .object RReq)] sz [.ref (a 0), .int x1] (bW cI cQ a nb Q L z0)) (kb_Qi D vwCl sz (bW cI cQ a nb Q L z0) r (bW cI cQ a nb Q L z')) 0 0 (va_A (bW cI cQ a nb Q L z0) sz) := by
  refine kb_start (by decide) rfl (Nat.le_of_ble_eq_true rfl) ?_
  intro p e s m args below meth c A ls S hr hlk hsz hA w hl
  have hl : lv_has ls 4 [(0, .ref (a 0)), (1, .int x1)] := hl
  unfold pB_findHit at h
  have L2 : ∀ (n : Nat) (x1 : Int32) (x2 : Int32) (z : kc_S) (H : Heap) (locs : List Loc) (ls : Array Slot), lv_has ls 4 [(0, .ref (a 0)), (1, .int x1), (2, .int x2)] → kb_W D vwCl [(cI, .int), (cQ, .object RReq)] A s H locs (bW cI cQ a nb Q L z) → pB_findHit_L2 nb Q L n x1 x2 z = some (r, z') → W p l e rm_B_findHit s m args below meth c H locs 0 0 (MQ below (kb_Qi D vwCl sz (bW cI cQ a nb Q L z0) r (bW cI cQ a nb Q L z')) args s 0 0 (va_A (bW cI cQ a nb Q L z0) sz)) (F0 m 2 ls []) := by
    intro n
    induction n with
    | zero =>
      intro x1 x2 z H locs ls hl w h
      exact absurd h (by simp [pB_findHit_L2])
    | succ n ih =>
      intro x1 x2 z H locs ls hl w h
      rw [pB_findHit_L2] at h
      refine lv_iload_n S.1 S.2.1 dB_findHit_2 rfl (lv_at hl 2 rfl) ?_
      refine lv_iload_n S.1 S.2.1 dB_findHit_3 rfl (lv_at hl 1 rfl) ?_
      refine lv_icmp_ge (tgt := 48) S.1 S.2.1 dB_findHit_4 (by decide) (fun hc => ?_) (fun hc => ?_)
      · have h := (kb_brt hc).symm.trans h
        refine lv_iconst (v := (-1)) S.1 S.2.1 dB_findHit_48 (by decide) ?_
        exact kb_iret (bW cI cQ a nb Q L) S hr hlk hA w h dB_findHit_49
      · have h := (kb_brf hc).symm.trans h
        refine lv_aload_n S.1 S.2.1 dB_findHit_7 rfl (lv_at hl 0 rfl) ?_
        refine kb_get S w 0 rfl fB_51 rfl dB_findHit_8 ?_
        refine W.eq (g2 := F0 m 11 ls [.ref (a 21)]) rfl ?_
        refine lv_iload_n S.1 S.2.1 dB_findHit_11 rfl (lv_at hl 2 rfl) ?_
        obtain ⟨hi1, h⟩ := kb_ck_of h
        refine kb_ald S w 21 1 rfl rfl hi1 dB_findHit_12 ?_
        refine W.eq (g2 := F0 m 13 ls [.ref (z.2.1 (kb_ix (x2)))]) rfl ?_
        refine lv_astore_n S.1 S.2.1 dB_findHit_13 rfl hl (by decide) rfl (fun ls hl => ?_)
        have hl : lv_has ls 4 [(3, .ref (z.2.1 (kb_ix (x2)))), (0, .ref (a 0)), (1, .int x1), (2, .int x2)] := hl
        refine lv_aload_n S.1 S.2.1 dB_findHit_14 rfl (lv_at hl 1 rfl) ?_
        refine kb_get S w 0 rfl fB_42 rfl dB_findHit_15 ?_
        refine W.eq (g2 := F0 m 18 ls [.ref (a 3)]) rfl ?_
        refine lv_aload_n S.1 S.2.1 dB_findHit_18 rfl (lv_at hl 0 rfl) ?_
        obtain ⟨hm2, h⟩ := kb_ck_of h
        obtain ⟨k3, hq4⟩ := va_pl_get (X := bX cI cQ a nb Q z) (f := kc_F z.2.2) hm2
        refine kb_get S w k3 hq4 fB_178 rfl dB_findHit_19 ?_
        refine W.eq (g2 := F0 m 22 ls [.int (z.2.2 (z.2.1 (kb_ix (x2))) 1), .ref (a 3)]) rfl ?_
        refine lv_aload_n S.1 S.2.1 dB_findHit_22 rfl (lv_at hl 0 rfl) ?_
        obtain ⟨hm5, h⟩ := kb_ck_of h
        obtain ⟨k6, hq7⟩ := va_pl_get (X := bX cI cQ a nb Q z) (f := kc_F z.2.2) hm5
        refine kb_get S w k6 hq7 fB_181 rfl dB_findHit_23 ?_
        refine W.eq (g2 := F0 m 26 ls [.int (z.2.2 (z.2.1 (kb_ix (x2))) 2), .int (z.2.2 (z.2.1 (kb_ix (x2))) 1), .ref (a 3)]) rfl ?_
        obtain ⟨r9, z8, hc10, h⟩ := kb_cl_of h
        refine kb_calli (As := [.int (z.2.2 (z.2.1 (kb_ix (x2))) 1), .int (z.2.2 (z.2.1 (kb_ix (x2))) 2)]) (rest := []) (q0 := 3) (ci := 0) S w (fun sz => cC_brokenByAccess_3 l D cI cQ a nb Q L _ _ _ sz (z.2.2 (z.2.1 (kb_ix (x2))) 1) (z.2.2 (z.2.1 (kb_ix (x2))) 2) hc10) Y_C_brokenByAccess I_C_brokenByAccess S_C_brokenByAccess lB_227 ⟨rfl, rfl, Nat.le_of_ble_eq_true rfl, Nat.le_of_ble_eq_true rfl⟩ rfl rfl rfl rfl hl.1 rfl (Nat.le_of_ble_eq_true rfl) dB_findHit_26 ⟨Nat.le_of_ble_eq_true rfl, Nat.le_of_ble_eq_true rfl⟩ (fun H locs w => ?_)
        refine lv_if_ne (tgt := 42) S.1 S.2.1 dB_findHit_29 (by decide) (fun hc => ?_) (fun hc => ?_)
        · have h := (kb_brf hc).symm.trans h
          refine lv_iinc (v := x2 + 1) (k := 3) S.1 S.2.1 dB_findHit_42 hl rfl rfl (by decide) rfl (fun ls hl => ?_)
          have hl : lv_has ls 4 [(2, .int (x2 + 1)), (3, .ref (z.2.1 (kb_ix (x2)))), (0, .ref (a 0)), (1, .int x1)] := hl
          refine lv_goto (tgt := 2) S.1 S.2.1 dB_findHit_45 (by decide) ?_
          exact ih x1 (x2 + 1) z8 _ _ _ (lv_sub hl [2, 3, 0] rfl) w h
        · have h := (kb_brt hc).symm.trans h
          refine lv_aload_n S.1 S.2.1 dB_findHit_32 rfl (lv_at hl 1 rfl) ?_
          refine lv_iload_n S.1 S.2.1 dB_findHit_33 rfl (lv_at hl 3 rfl) ?_
          obtain ⟨r12, z11, hc13, h⟩ := kb_cl_of h
          refine kb_calli (As := [.int x2]) (rest := []) (q0 := 0) (ci := 2) S w (fun sz => cB_hasOlderForWord l D cI cQ a nb Q L _ _ _ sz x2 hc13) Y_B_hasOlderForWord I_B_hasOlderForWord S_B_hasOlderForWord lB_230 ⟨rfl, rfl, Nat.le_of_ble_eq_true rfl, Nat.le_of_ble_eq_true rfl⟩ rfl rfl rfl rfl hl.1 rfl (Nat.le_of_ble_eq_true rfl) dB_findHit_34 ⟨Nat.le_of_ble_eq_true rfl, Nat.le_of_ble_eq_true rfl⟩ (fun H locs w => ?_)
          refine lv_if_ne (tgt := 42) S.1 S.2.1 dB_findHit_37 (by decide) (fun hc => ?_) (fun hc => ?_)
          · have h := (kb_brf hc).symm.trans h
            refine lv_iinc (v := x2 + 1) (k := 3) S.1 S.2.1 dB_findHit_42 hl rfl rfl (by decide) rfl (fun ls hl => ?_)
            have hl : lv_has ls 4 [(2, .int (x2 + 1)), (3, .ref (z.2.1 (kb_ix (x2)))), (0, .ref (a 0)), (1, .int x1)] := hl
            refine lv_goto (tgt := 2) S.1 S.2.1 dB_findHit_45 (by decide) ?_
            exact ih x1 (x2 + 1) z11 _ _ _ (lv_sub hl [2, 3, 0] rfl) w h
          · have h := (kb_brt hc).symm.trans h
            refine lv_iload_n S.1 S.2.1 dB_findHit_40 rfl (lv_at hl 3 rfl) ?_
            exact kb_iret (bW cI cQ a nb Q L) S hr hlk hA w h dB_findHit_41
  refine lv_iconst (v := 0) S.1 S.2.1 dB_findHit_0 (by decide) ?_
  refine lv_istore_n S.1 S.2.1 dB_findHit_1 rfl hl (by decide) rfl (fun ls hl => ?_)
  have hl : lv_has ls 4 [(2, .int 0), (0, .ref (a 0)), (1, .int x1)] := hl
  exact L2 3000 x1 0 z0 _ _ _ (lv_sub hl [1, 2, 0] rfl) w h
set_option maxHeartbeats 4000000 in
set_option maxRecDepth 100000 in
theorem cB_hasOlderForBank (l : Launch) (D : va_G) (cI cQ : ClassId) (a : Nat → Nat) (nb Q : Nat) (L : List Nat) (z0 z' : kc_S) (r : Int32) (sz : Nat) (x1 : Int32) (h : pB_hasOlderForBank nb Q L x1 z0 = some (r, z')) : Met l y_B_hasOlderForBank (Cond.code y_B_hasOlderForBank c_B_hasOlderForBank 3 (some .boolean) :: wsB) rm_B_hasOlderForBank (kb_Pc D vwCl [(cI, .int), (cQ, .object RReq)] sz [.ref (a 0), .int x1] (bW cI cQ a nb Q L z0)) (kb_Qi D vwCl sz (bW cI cQ a nb Q L z0) r (bW cI cQ a nb Q L z')) 0 0 (va_A (bW cI cQ a nb Q L z0) sz) := by
  refine kb_start (by decide) rfl (Nat.le_of_ble_eq_true rfl) ?_
  intro p e s m args below meth c A ls S hr hlk hsz hA w hl
  have hl : lv_has ls 3 [(0, .ref (a 0)), (1, .int x1)] := hl
  unfold pB_hasOlderForBank at h
  have L2 : ∀ (n : Nat) (x1 : Int32) (x2 : Int32) (z : kc_S) (H : Heap) (locs : List Loc) (ls : Array Slot), lv_has ls 3 [(0, .ref (a 0)), (1, .int x1), (2, .int x2)] → kb_W D vwCl [(cI, .int), (cQ, .object RReq)] A s H locs (bW cI cQ a nb Q L z) → pB_hasOlderForBank_L2 nb Q L n x1 x2 z = some (r, z') → W p l e rm_B_hasOlderForBank s m args below meth c H locs 0 0 (MQ below (kb_Qi D vwCl sz (bW cI cQ a nb Q L z0) r (bW cI cQ a nb Q L z')) args s 0 0 (va_A (bW cI cQ a nb Q L z0) sz)) (F0 m 2 ls []) := by
    intro n
    induction n with
    | zero =>
      intro x1 x2 z H locs ls hl w h
      exact absurd h (by simp [pB_hasOlderForBank_L2])
    | succ n ih =>
      intro x1 x2 z H locs ls hl w h
      rw [pB_hasOlderForBank_L2] at h
      refine lv_iload_n S.1 S.2.1 dB_hasOlderForBank_2 rfl (lv_at hl 2 rfl) ?_
      refine lv_iload_n S.1 S.2.1 dB_hasOlderForBank_3 rfl (lv_at hl 1 rfl) ?_
      refine lv_icmp_ge (tgt := 36) S.1 S.2.1 dB_hasOlderForBank_4 (by decide) (fun hc => ?_) (fun hc => ?_)
      · have h := (kb_brt hc).symm.trans h
        refine lv_iconst (v := 0) S.1 S.2.1 dB_hasOlderForBank_36 (by decide) ?_
        exact kb_zret (bW cI cQ a nb Q L) S hr hlk hA w h (by decide) dB_hasOlderForBank_37
      · have h := (kb_brf hc).symm.trans h
        refine lv_aload_n S.1 S.2.1 dB_hasOlderForBank_7 rfl (lv_at hl 0 rfl) ?_
        refine kb_get S w 0 rfl fB_51 rfl dB_hasOlderForBank_8 ?_
        refine W.eq (g2 := F0 m 11 ls [.ref (a 21)]) rfl ?_
        refine lv_iload_n S.1 S.2.1 dB_hasOlderForBank_11 rfl (lv_at hl 2 rfl) ?_
        obtain ⟨hi1, h⟩ := kb_ck_of h
        refine kb_ald S w 21 1 rfl rfl hi1 dB_hasOlderForBank_12 ?_
        refine W.eq (g2 := F0 m 13 ls [.ref (z.2.1 (kb_ix (x2)))]) rfl ?_
        obtain ⟨hm2, h⟩ := kb_ck_of h
        obtain ⟨k3, hq4⟩ := va_pl_get (X := bX cI cQ a nb Q z) (f := kc_F z.2.2) hm2
        refine kb_get S w k3 hq4 fB_178 rfl dB_hasOlderForBank_13 ?_
        refine W.eq (g2 := F0 m 16 ls [.int (z.2.2 (z.2.1 (kb_ix (x2))) 1)]) rfl ?_
        refine lv_aload_n S.1 S.2.1 dB_hasOlderForBank_16 rfl (lv_at hl 0 rfl) ?_
        refine kb_get S w 0 rfl fB_51 rfl dB_hasOlderForBank_17 ?_
        refine W.eq (g2 := F0 m 20 ls [.ref (a 21), .int (z.2.2 (z.2.1 (kb_ix (x2))) 1)]) rfl ?_
        refine lv_iload_n S.1 S.2.1 dB_hasOlderForBank_20 rfl (lv_at hl 1 rfl) ?_
        obtain ⟨hi5, h⟩ := kb_ck_of h
        refine kb_ald S w 21 1 rfl rfl hi5 dB_hasOlderForBank_21 ?_
        refine W.eq (g2 := F0 m 22 ls [.ref (z.2.1 (kb_ix (x1))), .int (z.2.2 (z.2.1 (kb_ix (x2))) 1)]) rfl ?_
        obtain ⟨hm6, h⟩ := kb_ck_of h
        obtain ⟨k7, hq8⟩ := va_pl_get (X := bX cI cQ a nb Q z) (f := kc_F z.2.2) hm6
        refine kb_get S w k7 hq8 fB_178 rfl dB_hasOlderForBank_22 ?_
        refine W.eq (g2 := F0 m 25 ls [.int (z.2.2 (z.2.1 (kb_ix (x1))) 1), .int (z.2.2 (z.2.1 (kb_ix (x2))) 1)]) rfl ?_
        refine lv_icmp_ne (tgt := 30) S.1 S.2.1 dB_hasOlderForBank_25 (by decide) (fun hc => ?_) (fun hc => ?_)
        · have h := (kb_brf hc).symm.trans h
          refine lv_iinc (v := x2 + 1) (k := 2) S.1 S.2.1 dB_hasOlderForBank_30 hl rfl rfl (by decide) rfl (fun ls hl => ?_)
          have hl : lv_has ls 3 [(2, .int (x2 + 1)), (0, .ref (a 0)), (1, .int x1)] := hl
          refine lv_goto (tgt := 2) S.1 S.2.1 dB_hasOlderForBank_33 (by decide) ?_
          exact ih x1 (x2 + 1) z _ _ _ (lv_sub hl [1, 2, 0] rfl) w h
        · have h := (kb_brt hc).symm.trans h
          refine lv_iconst (v := 1) S.1 S.2.1 dB_hasOlderForBank_28 (by decide) ?_
          exact kb_zret (bW cI cQ a nb Q L) S hr hlk hA w h (by decide) dB_hasOlderForBank_29
  refine lv_iconst (v := 0) S.1 S.2.1 dB_hasOlderForBank_0 (by decide) ?_
  refine lv_istore_n S.1 S.2.1 dB_hasOlderForBank_1 rfl hl (by decide) rfl (fun ls hl => ?_)
  have hl : lv_has ls 3 [(2, .int 0), (0, .ref (a 0)), (1, .int x1)] := hl
  exact L2 3000 x1 0 z0 _ _ _ (lv_sub hl [1, 2, 0] rfl) w h
set_option maxHeartbeats 4000000 in
set_option maxRecDepth 100000 in
theorem cC_isTooSoonForOthers_3 (l : Launch) (D : va_G) (cI cQ : ClassId) (a : Nat → Nat) (nb Q : Nat) (L : List Nat) (z0 z' : kc_S) (r : Int32) (sz : Nat) (x1 : Int32) (h : pC_isTooSoonForOthers 3 nb Q L x1 z0 = some (r, z')) : Met l y_C_isTooSoonForOthers (Cond.code y_C_isTooSoonForOthers c_C_isTooSoonForOthers 3 (some .boolean) :: wsB) rm_C_isTooSoonForOthers (kb_Pc D vwCl [(cI, .int), (cQ, .object RReq)] sz [.ref (a 3), .int x1] (bW cI cQ a nb Q L z0)) (kb_Qi D vwCl sz (bW cI cQ a nb Q L z0) r (bW cI cQ a nb Q L z')) 0 0 (va_A (bW cI cQ a nb Q L z0) sz) := by
  refine kb_start (by decide) rfl (Nat.le_of_ble_eq_true rfl) ?_
  intro p e s m args below meth c A ls S hr hlk hsz hA w hl
  have hl : lv_has ls 3 [(0, .ref (a 3)), (1, .int x1)] := hl
  unfold pC_isTooSoonForOthers at h
  have L2 : ∀ (n : Nat) (x1 : Int32) (x2 : Int32) (z : kc_S) (H : Heap) (locs : List Loc) (ls : Array Slot), lv_has ls 3 [(0, .ref (a 3)), (1, .int x1), (2, .int x2)] → kb_W D vwCl [(cI, .int), (cQ, .object RReq)] A s H locs (bW cI cQ a nb Q L z) → pC_isTooSoonForOthers_L2 3 nb Q L n x1 x2 z = some (r, z') → W p l e rm_C_isTooSoonForOthers s m args below meth c H locs 0 0 (MQ below (kb_Qi D vwCl sz (bW cI cQ a nb Q L z0) r (bW cI cQ a nb Q L z')) args s 0 0 (va_A (bW cI cQ a nb Q L z0) sz)) (F0 m 2 ls []) := by
    intro n
    induction n with
    | zero =>
      intro x1 x2 z H locs ls hl w h
      exact absurd h (by simp [pC_isTooSoonForOthers_L2])
    | succ n ih =>
      intro x1 x2 z H locs ls hl w h
      rw [pC_isTooSoonForOthers_L2] at h
      refine lv_iload_n S.1 S.2.1 dC_isTooSoonForOthers_2 rfl (lv_at hl 2 rfl) ?_
      refine lv_aload_n S.1 S.2.1 dC_isTooSoonForOthers_3 rfl (lv_at hl 0 rfl) ?_
      refine kb_get S w 3 rfl fC_18 rfl dC_isTooSoonForOthers_4 ?_
      refine W.eq (g2 := F0 m 7 ls [.ref (a 5), .int x2]) rfl ?_
      refine kb_alen S w 5 0 rfl rfl rfl dC_isTooSoonForOthers_7 ?_
      refine W.eq (g2 := F0 m 8 ls [.int (nI nb), .int x2]) rfl ?_
      refine lv_icmp_ge (tgt := 39) S.1 S.2.1 dC_isTooSoonForOthers_8 (by decide) (fun hc => ?_) (fun hc => ?_)
      · have h := (kb_brt hc).symm.trans h
        refine lv_iconst (v := 0) S.1 S.2.1 dC_isTooSoonForOthers_39 (by decide) ?_
        exact kb_zret (bW cI cQ a nb Q L) S hr hlk hA w h (by decide) dC_isTooSoonForOthers_40
      · have h := (kb_brf hc).symm.trans h
        refine lv_iload_n S.1 S.2.1 dC_isTooSoonForOthers_11 rfl (lv_at hl 2 rfl) ?_
        refine lv_iload_n S.1 S.2.1 dC_isTooSoonForOthers_12 rfl (lv_at hl 1 rfl) ?_
        refine lv_icmp_eq (tgt := 33) S.1 S.2.1 dC_isTooSoonForOthers_13 (by decide) (fun hc => ?_) (fun hc => ?_)
        · have h := (kb_brt hc).symm.trans h
          refine lv_iinc (v := x2 + 1) (k := 2) S.1 S.2.1 dC_isTooSoonForOthers_33 hl rfl rfl (by decide) rfl (fun ls hl => ?_)
          have hl : lv_has ls 3 [(2, .int (x2 + 1)), (0, .ref (a 3)), (1, .int x1)] := hl
          refine lv_goto (tgt := 2) S.1 S.2.1 dC_isTooSoonForOthers_36 (by decide) ?_
          exact ih x1 (x2 + 1) z _ _ _ (lv_sub hl [1, 2, 0] rfl) w h
        · have h := (kb_brf hc).symm.trans h
          refine lv_aload_n S.1 S.2.1 dC_isTooSoonForOthers_16 rfl (lv_at hl 0 rfl) ?_
          refine lv_bipush (v := 7) S.1 S.2.1 dC_isTooSoonForOthers_17 (by decide) ?_
          refine lv_aload_n S.1 S.2.1 dC_isTooSoonForOthers_19 rfl (lv_at hl 0 rfl) ?_
          refine kb_get S w 3 rfl fC_18 rfl dC_isTooSoonForOthers_20 ?_
          refine W.eq (g2 := F0 m 23 ls [.ref (a 5), .int 7, .ref (a 3)]) rfl ?_
          refine lv_iload_n S.1 S.2.1 dC_isTooSoonForOthers_23 rfl (lv_at hl 2 rfl) ?_
          obtain ⟨hi1, h⟩ := kb_ck_of h
          refine kb_iald S w 5 0 rfl rfl hi1 dC_isTooSoonForOthers_24 ?_
          refine W.eq (g2 := F0 m 25 ls [.int (z.1 5 (kb_ix (x2))), .int 7, .ref (a 3)]) rfl ?_
          obtain ⟨r3, z2, hc4, h⟩ := kb_cl_of h
          refine kb_calli (As := [.int 7, .int (z.1 5 (kb_ix (x2)))]) (rest := []) (q0 := 3) (ci := 0) S w (fun sz => cC_isTooSoon_3 l D cI cQ a nb Q L _ _ _ sz 7 (z.1 5 (kb_ix (x2))) hc4) Y_C_isTooSoon I_C_isTooSoon S_C_isTooSoon lC_58 ⟨rfl, rfl, Nat.le_of_ble_eq_true rfl, Nat.le_of_ble_eq_true rfl⟩ rfl rfl rfl rfl hl.1 rfl (Nat.le_of_ble_eq_true rfl) dC_isTooSoonForOthers_25 ⟨Nat.le_of_ble_eq_true rfl, Nat.le_of_ble_eq_true rfl⟩ (fun H locs w => ?_)
          refine lv_if_eq (tgt := 33) S.1 S.2.1 dC_isTooSoonForOthers_28 (by decide) (fun hc => ?_) (fun hc => ?_)
          · have h := (kb_brt hc).symm.trans h
            refine lv_iinc (v := x2 + 1) (k := 2) S.1 S.2.1 dC_isTooSoonForOthers_33 hl rfl rfl (by decide) rfl (fun ls hl => ?_)
            have hl : lv_has ls 3 [(2, .int (x2 + 1)), (0, .ref (a 3)), (1, .int x1)] := hl
            refine lv_goto (tgt := 2) S.1 S.2.1 dC_isTooSoonForOthers_36 (by decide) ?_
            exact ih x1 (x2 + 1) z2 _ _ _ (lv_sub hl [1, 2, 0] rfl) w h
          · have h := (kb_brf hc).symm.trans h
            refine lv_iconst (v := 1) S.1 S.2.1 dC_isTooSoonForOthers_31 (by decide) ?_
            exact kb_zret (bW cI cQ a nb Q L) S hr hlk hA w h (by decide) dC_isTooSoonForOthers_32
  refine lv_iconst (v := 0) S.1 S.2.1 dC_isTooSoonForOthers_0 (by decide) ?_
  refine lv_istore_n S.1 S.2.1 dC_isTooSoonForOthers_1 rfl hl (by decide) rfl (fun ls hl => ?_)
  have hl : lv_has ls 3 [(2, .int 0), (0, .ref (a 3)), (1, .int x1)] := hl
  exact L2 3000 x1 0 z0 _ _ _ (lv_sub hl [1, 2, 0] rfl) w h
set_option maxHeartbeats 4000000 in
set_option maxRecDepth 100000 in
theorem cC_isTooSoonForOthers_11 (l : Launch) (D : va_G) (cI cQ : ClassId) (a : Nat → Nat) (nb Q : Nat) (L : List Nat) (z0 z' : kc_S) (r : Int32) (sz : Nat) (x1 : Int32) (h : pC_isTooSoonForOthers 11 nb Q L x1 z0 = some (r, z')) : Met l y_C_isTooSoonForOthers (Cond.code y_C_isTooSoonForOthers c_C_isTooSoonForOthers 3 (some .boolean) :: wsB) rm_C_isTooSoonForOthers (kb_Pc D vwCl [(cI, .int), (cQ, .object RReq)] sz [.ref (a 11), .int x1] (bW cI cQ a nb Q L z0)) (kb_Qi D vwCl sz (bW cI cQ a nb Q L z0) r (bW cI cQ a nb Q L z')) 0 0 (va_A (bW cI cQ a nb Q L z0) sz) := by
  refine kb_start (by decide) rfl (Nat.le_of_ble_eq_true rfl) ?_
  intro p e s m args below meth c A ls S hr hlk hsz hA w hl
  have hl : lv_has ls 3 [(0, .ref (a 11)), (1, .int x1)] := hl
  unfold pC_isTooSoonForOthers at h
  have L2 : ∀ (n : Nat) (x1 : Int32) (x2 : Int32) (z : kc_S) (H : Heap) (locs : List Loc) (ls : Array Slot), lv_has ls 3 [(0, .ref (a 11)), (1, .int x1), (2, .int x2)] → kb_W D vwCl [(cI, .int), (cQ, .object RReq)] A s H locs (bW cI cQ a nb Q L z) → pC_isTooSoonForOthers_L2 11 nb Q L n x1 x2 z = some (r, z') → W p l e rm_C_isTooSoonForOthers s m args below meth c H locs 0 0 (MQ below (kb_Qi D vwCl sz (bW cI cQ a nb Q L z0) r (bW cI cQ a nb Q L z')) args s 0 0 (va_A (bW cI cQ a nb Q L z0) sz)) (F0 m 2 ls []) := by
    intro n
    induction n with
    | zero =>
      intro x1 x2 z H locs ls hl w h
      exact absurd h (by simp [pC_isTooSoonForOthers_L2])
    | succ n ih =>
      intro x1 x2 z H locs ls hl w h
      rw [pC_isTooSoonForOthers_L2] at h
      refine lv_iload_n S.1 S.2.1 dC_isTooSoonForOthers_2 rfl (lv_at hl 2 rfl) ?_
      refine lv_aload_n S.1 S.2.1 dC_isTooSoonForOthers_3 rfl (lv_at hl 0 rfl) ?_
      refine kb_get S w 11 rfl fC_18 rfl dC_isTooSoonForOthers_4 ?_
      refine W.eq (g2 := F0 m 7 ls [.ref (a 13), .int x2]) rfl ?_
      refine kb_alen S w 13 0 rfl rfl rfl dC_isTooSoonForOthers_7 ?_
      refine W.eq (g2 := F0 m 8 ls [.int (nI nb), .int x2]) rfl ?_
      refine lv_icmp_ge (tgt := 39) S.1 S.2.1 dC_isTooSoonForOthers_8 (by decide) (fun hc => ?_) (fun hc => ?_)
      · have h := (kb_brt hc).symm.trans h
        refine lv_iconst (v := 0) S.1 S.2.1 dC_isTooSoonForOthers_39 (by decide) ?_
        exact kb_zret (bW cI cQ a nb Q L) S hr hlk hA w h (by decide) dC_isTooSoonForOthers_40
      · have h := (kb_brf hc).symm.trans h
        refine lv_iload_n S.1 S.2.1 dC_isTooSoonForOthers_11 rfl (lv_at hl 2 rfl) ?_
        refine lv_iload_n S.1 S.2.1 dC_isTooSoonForOthers_12 rfl (lv_at hl 1 rfl) ?_
        refine lv_icmp_eq (tgt := 33) S.1 S.2.1 dC_isTooSoonForOthers_13 (by decide) (fun hc => ?_) (fun hc => ?_)
        · have h := (kb_brt hc).symm.trans h
          refine lv_iinc (v := x2 + 1) (k := 2) S.1 S.2.1 dC_isTooSoonForOthers_33 hl rfl rfl (by decide) rfl (fun ls hl => ?_)
          have hl : lv_has ls 3 [(2, .int (x2 + 1)), (0, .ref (a 11)), (1, .int x1)] := hl
          refine lv_goto (tgt := 2) S.1 S.2.1 dC_isTooSoonForOthers_36 (by decide) ?_
          exact ih x1 (x2 + 1) z _ _ _ (lv_sub hl [1, 2, 0] rfl) w h
        · have h := (kb_brf hc).symm.trans h
          refine lv_aload_n S.1 S.2.1 dC_isTooSoonForOthers_16 rfl (lv_at hl 0 rfl) ?_
          refine lv_bipush (v := 7) S.1 S.2.1 dC_isTooSoonForOthers_17 (by decide) ?_
          refine lv_aload_n S.1 S.2.1 dC_isTooSoonForOthers_19 rfl (lv_at hl 0 rfl) ?_
          refine kb_get S w 11 rfl fC_18 rfl dC_isTooSoonForOthers_20 ?_
          refine W.eq (g2 := F0 m 23 ls [.ref (a 13), .int 7, .ref (a 11)]) rfl ?_
          refine lv_iload_n S.1 S.2.1 dC_isTooSoonForOthers_23 rfl (lv_at hl 2 rfl) ?_
          obtain ⟨hi1, h⟩ := kb_ck_of h
          refine kb_iald S w 13 0 rfl rfl hi1 dC_isTooSoonForOthers_24 ?_
          refine W.eq (g2 := F0 m 25 ls [.int (z.1 13 (kb_ix (x2))), .int 7, .ref (a 11)]) rfl ?_
          obtain ⟨r3, z2, hc4, h⟩ := kb_cl_of h
          refine kb_calli (As := [.int 7, .int (z.1 13 (kb_ix (x2)))]) (rest := []) (q0 := 11) (ci := 0) S w (fun sz => cC_isTooSoon_11 l D cI cQ a nb Q L _ _ _ sz 7 (z.1 13 (kb_ix (x2))) hc4) Y_C_isTooSoon I_C_isTooSoon S_C_isTooSoon lC_58 ⟨rfl, rfl, Nat.le_of_ble_eq_true rfl, Nat.le_of_ble_eq_true rfl⟩ rfl rfl rfl rfl hl.1 rfl (Nat.le_of_ble_eq_true rfl) dC_isTooSoonForOthers_25 ⟨Nat.le_of_ble_eq_true rfl, Nat.le_of_ble_eq_true rfl⟩ (fun H locs w => ?_)
          refine lv_if_eq (tgt := 33) S.1 S.2.1 dC_isTooSoonForOthers_28 (by decide) (fun hc => ?_) (fun hc => ?_)
          · have h := (kb_brt hc).symm.trans h
            refine lv_iinc (v := x2 + 1) (k := 2) S.1 S.2.1 dC_isTooSoonForOthers_33 hl rfl rfl (by decide) rfl (fun ls hl => ?_)
            have hl : lv_has ls 3 [(2, .int (x2 + 1)), (0, .ref (a 11)), (1, .int x1)] := hl
            refine lv_goto (tgt := 2) S.1 S.2.1 dC_isTooSoonForOthers_36 (by decide) ?_
            exact ih x1 (x2 + 1) z2 _ _ _ (lv_sub hl [1, 2, 0] rfl) w h
          · have h := (kb_brf hc).symm.trans h
            refine lv_iconst (v := 1) S.1 S.2.1 dC_isTooSoonForOthers_31 (by decide) ?_
            exact kb_zret (bW cI cQ a nb Q L) S hr hlk hA w h (by decide) dC_isTooSoonForOthers_32
  refine lv_iconst (v := 0) S.1 S.2.1 dC_isTooSoonForOthers_0 (by decide) ?_
  refine lv_istore_n S.1 S.2.1 dC_isTooSoonForOthers_1 rfl hl (by decide) rfl (fun ls hl => ?_)
  have hl : lv_has ls 3 [(2, .int 0), (0, .ref (a 11)), (1, .int x1)] := hl
  exact L2 3000 x1 0 z0 _ _ _ (lv_sub hl [1, 2, 0] rfl) w h
