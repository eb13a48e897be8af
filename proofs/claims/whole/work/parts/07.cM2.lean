set_option maxHeartbeats 4000000 in
set_option maxRecDepth 100000 in
theorem cM_broken (l : Launch) (D : va_G) (cI cZ : ClassId) (a : Nat → Nat) (z0 z' : kb_S) (r : Int32) (sz : Nat) (x1 : Int32) (x2 : Int32) (x3 : Int32) (x4 : Int32) (h : pM_broken x1 x2 x3 x4 z0 = some (r, z')) : Met l y_M_broken (Cond.code y_M_broken c_M_broken 5 (some .int) :: wsB) rm_M_broken (kb_Pc D vwCl [(cI, .int), (cZ, .boolean)] sz [.ref (a 0), .int x1, .int x2, .int x3, .int x4] (mW cI cZ a z0)) (kb_Qi D vwCl sz (mW cI cZ a z0) r (mW cI cZ a z')) 0 0 (va_A (mW cI cZ a z0) sz) := by
  refine kb_start (by decide) rfl (Nat.le_of_ble_eq_true rfl) ?_
  intro p e s m args below meth c A ls S hr hlk hsz hA w hl
  have hl : lv_has ls 5 [(0, .ref (a 0)), (1, .int x1), (2, .int x2), (3, .int x3), (4, .int x4)] := hl
  unfold pM_broken at h
  refine lv_iload_n S.1 S.2.1 dM_broken_0 rfl (lv_at hl 2 rfl) ?_
  by_cases hs1_0 : (x2).toInt = 0
  · have h := (kb_brt hs1_0).symm.trans h
    refine lv_tableIn (tgt := 36) S.1 S.2.1 dM_broken_1 (by omega) (by omega) (by rw [hs1_0]; rfl) (by decide) ?_
    refine lv_aload_n S.1 S.2.1 dM_broken_36 rfl (lv_at hl 0 rfl) ?_
    refine lv_iload_n S.1 S.2.1 dM_broken_37 rfl (lv_at hl 1 rfl) ?_
    refine lv_iload_n S.1 S.2.1 dM_broken_38 rfl (lv_at hl 3 rfl) ?_
    obtain ⟨r2, z1, hc3, h⟩ := kb_cl_of h
    refine kb_calli (As := [.int x1, .int x3]) (rest := []) (q0 := 0) (ci := 3) S w (fun sz => cM_brokenOpen l D cI cZ a _ _ _ sz x1 x3 hc3) Y_M_brokenOpen I_M_brokenOpen S_M_brokenOpen lM_88 ⟨rfl, rfl, Nat.le_of_ble_eq_true rfl, Nat.le_of_ble_eq_true rfl⟩ rfl rfl rfl rfl hl.1 rfl (Nat.le_of_ble_eq_true rfl) dM_broken_39 ⟨Nat.le_of_ble_eq_true rfl, Nat.le_of_ble_eq_true rfl⟩ (fun H locs w => ?_)
    exact kb_iret (mW cI cZ a) S hr hlk hA w h dM_broken_42
  · have h := (kb_brf hs1_0).symm.trans h
    by_cases hs1_1 : (x2).toInt = 1
    · have h := (kb_brt hs1_1).symm.trans h
      refine lv_tableIn (tgt := 43) S.1 S.2.1 dM_broken_1 (by omega) (by omega) (by rw [hs1_1]; rfl) (by decide) ?_
      refine lv_aload_n S.1 S.2.1 dM_broken_43 rfl (lv_at hl 0 rfl) ?_
      refine lv_iload_n S.1 S.2.1 dM_broken_44 rfl (lv_at hl 1 rfl) ?_
      refine lv_iload_n S.1 S.2.1 dM_broken_45 rfl (lv_at hl 3 rfl) ?_
      obtain ⟨r5, z4, hc6, h⟩ := kb_cl_of h
      refine kb_calli (As := [.int x1, .int x3]) (rest := []) (q0 := 0) (ci := 3) S w (fun sz => cM_brokenClose l D cI cZ a _ _ _ sz x1 x3 hc6) Y_M_brokenClose I_M_brokenClose S_M_brokenClose lM_92 ⟨rfl, rfl, Nat.le_of_ble_eq_true rfl, Nat.le_of_ble_eq_true rfl⟩ rfl rfl rfl rfl hl.1 rfl (Nat.le_of_ble_eq_true rfl) dM_broken_46 ⟨Nat.le_of_ble_eq_true rfl, Nat.le_of_ble_eq_true rfl⟩ (fun H locs w => ?_)
      exact kb_iret (mW cI cZ a) S hr hlk hA w h dM_broken_49
    · have h := (kb_brf hs1_1).symm.trans h
      by_cases hs1_2 : (x2).toInt = 2
      · have h := (kb_brt hs1_2).symm.trans h
        refine lv_tableIn (tgt := 56) S.1 S.2.1 dM_broken_1 (by omega) (by omega) (by rw [hs1_2]; rfl) (by decide) ?_
        refine lv_aload_n S.1 S.2.1 dM_broken_56 rfl (lv_at hl 0 rfl) ?_
        refine lv_iload_n S.1 S.2.1 dM_broken_57 rfl (lv_at hl 1 rfl) ?_
        refine lv_iload_n S.1 S.2.1 dM_broken_58 rfl (lv_at hl 3 rfl) ?_
        refine lv_iload S.1 S.2.1 dM_broken_59 (lv_at hl 4 rfl) ?_
        obtain ⟨r8, z7, hc9, h⟩ := kb_cl_of h
        refine kb_calli (As := [.int x1, .int x3, .int x4]) (rest := []) (q0 := 0) (ci := 3) S w (fun sz => cM_brokenUse l D cI cZ a _ _ _ sz x1 x3 x4 hc9) Y_M_brokenUse I_M_brokenUse S_M_brokenUse lM_99 ⟨rfl, rfl, Nat.le_of_ble_eq_true rfl, Nat.le_of_ble_eq_true rfl⟩ rfl rfl rfl rfl hl.1 rfl (Nat.le_of_ble_eq_true rfl) dM_broken_61 ⟨Nat.le_of_ble_eq_true rfl, Nat.le_of_ble_eq_true rfl⟩ (fun H locs w => ?_)
        exact kb_iret (mW cI cZ a) S hr hlk hA w h dM_broken_64
      · have h := (kb_brf hs1_2).symm.trans h
        by_cases hs1_3 : (x2).toInt = 3
        · have h := (kb_brt hs1_3).symm.trans h
          refine lv_tableIn (tgt := 56) S.1 S.2.1 dM_broken_1 (by omega) (by omega) (by rw [hs1_3]; rfl) (by decide) ?_
          refine lv_aload_n S.1 S.2.1 dM_broken_56 rfl (lv_at hl 0 rfl) ?_
          refine lv_iload_n S.1 S.2.1 dM_broken_57 rfl (lv_at hl 1 rfl) ?_
          refine lv_iload_n S.1 S.2.1 dM_broken_58 rfl (lv_at hl 3 rfl) ?_
          refine lv_iload S.1 S.2.1 dM_broken_59 (lv_at hl 4 rfl) ?_
          obtain ⟨r11, z10, hc12, h⟩ := kb_cl_of h
          refine kb_calli (As := [.int x1, .int x3, .int x4]) (rest := []) (q0 := 0) (ci := 3) S w (fun sz => cM_brokenUse l D cI cZ a _ _ _ sz x1 x3 x4 hc12) Y_M_brokenUse I_M_brokenUse S_M_brokenUse lM_99 ⟨rfl, rfl, Nat.le_of_ble_eq_true rfl, Nat.le_of_ble_eq_true rfl⟩ rfl rfl rfl rfl hl.1 rfl (Nat.le_of_ble_eq_true rfl) dM_broken_61 ⟨Nat.le_of_ble_eq_true rfl, Nat.le_of_ble_eq_true rfl⟩ (fun H locs w => ?_)
          exact kb_iret (mW cI cZ a) S hr hlk hA w h dM_broken_64
        · have h := (kb_brf hs1_3).symm.trans h
          by_cases hs1_4 : (x2).toInt = 4
          · have h := (kb_brt hs1_4).symm.trans h
            refine lv_tableIn (tgt := 50) S.1 S.2.1 dM_broken_1 (by omega) (by omega) (by rw [hs1_4]; rfl) (by decide) ?_
            refine lv_aload_n S.1 S.2.1 dM_broken_50 rfl (lv_at hl 0 rfl) ?_
            refine lv_iload_n S.1 S.2.1 dM_broken_51 rfl (lv_at hl 1 rfl) ?_
            obtain ⟨r14, z13, hc15, h⟩ := kb_cl_of h
            refine kb_calli (As := [.int x1]) (rest := []) (q0 := 0) (ci := 3) S w (fun sz => cM_brokenRefresh l D cI cZ a _ _ _ sz x1 hc15) Y_M_brokenRefresh I_M_brokenRefresh S_M_brokenRefresh lM_95 ⟨rfl, rfl, Nat.le_of_ble_eq_true rfl, Nat.le_of_ble_eq_true rfl⟩ rfl rfl rfl rfl hl.1 rfl (Nat.le_of_ble_eq_true rfl) dM_broken_52 ⟨Nat.le_of_ble_eq_true rfl, Nat.le_of_ble_eq_true rfl⟩ (fun H locs w => ?_)
            exact kb_iret (mW cI cZ a) S hr hlk hA w h dM_broken_55
          · have h := (kb_brf hs1_4).symm.trans h
            refine lv_tableOut (tgt := 56) S.1 S.2.1 dM_broken_1 (by omega) (by decide) ?_
            refine lv_aload_n S.1 S.2.1 dM_broken_56 rfl (lv_at hl 0 rfl) ?_
            refine lv_iload_n S.1 S.2.1 dM_broken_57 rfl (lv_at hl 1 rfl) ?_
            refine lv_iload_n S.1 S.2.1 dM_broken_58 rfl (lv_at hl 3 rfl) ?_
            refine lv_iload S.1 S.2.1 dM_broken_59 (lv_at hl 4 rfl) ?_
            obtain ⟨r17, z16, hc18, h⟩ := kb_cl_of h
            refine kb_calli (As := [.int x1, .int x3, .int x4]) (rest := []) (q0 := 0) (ci := 3) S w (fun sz => cM_brokenUse l D cI cZ a _ _ _ sz x1 x3 x4 hc18) Y_M_brokenUse I_M_brokenUse S_M_brokenUse lM_99 ⟨rfl, rfl, Nat.le_of_ble_eq_true rfl, Nat.le_of_ble_eq_true rfl⟩ rfl rfl rfl rfl hl.1 rfl (Nat.le_of_ble_eq_true rfl) dM_broken_61 ⟨Nat.le_of_ble_eq_true rfl, Nat.le_of_ble_eq_true rfl⟩ (fun H locs w => ?_)
            exact kb_iret (mW cI cZ a) S hr hlk hA w h dM_broken_64
set_option maxHeartbeats 4000000 in
set_option maxRecDepth 100000 in
theorem cM_give (l : Launch) (D : va_G) (cI cZ : ClassId) (a : Nat → Nat) (z0 z' : kb_S) (r : Int32) (sz : Nat) (x1 : Int32) (x2 : Int32) (x3 : Int32) (x4 : Int32) (h : pM_give x1 x2 x3 x4 z0 = some (r, z')) : Met l y_M_give (Cond.code y_M_give c_M_give 8 none :: wsB) rm_M_give (kb_Pc D vwCl [(cI, .int), (cZ, .boolean)] sz [.ref (a 0), .int x1, .int x2, .int x3, .int x4] (mW cI cZ a z0)) (kb_Qv D vwCl sz (mW cI cZ a z0) (mW cI cZ a z')) 0 0 (va_A (mW cI cZ a z0) sz) := by
  refine kb_start (by decide) rfl (Nat.le_of_ble_eq_true rfl) ?_
  intro p e s m args below meth c A ls S hr hlk hsz hA w hl
  have hl : lv_has ls 8 [(0, .ref (a 0)), (1, .int x1), (2, .int x2), (3, .int x3), (4, .int x4)] := hl
  unfold pM_give at h
  have L69 : ∀ (n : Nat) (x1 : Int32) (x6 : Int32) (x7 : Int32) (z : kb_S) (H : Heap) (locs : List Loc) (ls : Array Slot), lv_has ls 8 [(0, .ref (a 0)), (1, .int x1), (6, .int x6), (7, .int x7)] → kb_W D vwCl [(cI, .int), (cZ, .boolean)] A s H locs (mW cI cZ a z) → pM_give_L69 n x1 x6 x7 z = some (r, z') → W p l e rm_M_give s m args below meth c H locs 0 0 (MQ below (kb_Qv D vwCl sz (mW cI cZ a z0) (mW cI cZ a z')) args s 0 0 (va_A (mW cI cZ a z0) sz)) (F0 m 69 ls []) := by
    intro n
    induction n with
    | zero =>
      intro x1 x6 x7 z H locs ls hl w h
      exact absurd h (by simp [pM_give_L69])
    | succ n ih =>
      intro x1 x6 x7 z H locs ls hl w h
      rw [pM_give_L69] at h
      refine lv_iload S.1 S.2.1 dM_give_69 (lv_at hl 3 rfl) ?_
      refine lv_if_le (tgt := 104) S.1 S.2.1 dM_give_71 (by decide) (fun hc => ?_) (fun hc => ?_)
      · have h := (kb_brt hc).symm.trans h
        refine lv_aload_n S.1 S.2.1 dM_give_104 rfl (lv_at hl 0 rfl) ?_
        refine kb_get S w 0 rfl fM_28 rfl dM_give_105 ?_
        refine W.eq (g2 := F0 m 108 ls [.ref (a 7)]) rfl ?_
        refine lv_iconst (v := 4) S.1 S.2.1 dM_give_108 (by decide) ?_
        refine lv_iload_n S.1 S.2.1 dM_give_109 rfl (lv_at hl 1 rfl) ?_
        refine lv_imul S.1 S.2.1 dM_give_110 ?_
        refine lv_iload S.1 S.2.1 dM_give_111 (lv_at hl 2 rfl) ?_
        obtain ⟨hi8, h⟩ := kb_ck_of h
        obtain ⟨z9, hz10, h⟩ := kb_st_of h
        refine kb_iast S w 7 0 rfl rfl hi8 (ws1 := mW cI cZ a z9) (by rw [hz10]; rfl) dM_give_113 (fun H locs w => ?_)
        refine lv_goto (tgt := 169) S.1 S.2.1 dM_give_114 (by decide) ?_
        exact kb_vret (mW cI cZ a) (v := 0) (r := r) S hr hlk hA w h dM_give_169
      · have h := (kb_brf hc).symm.trans h
        refine lv_aload_n S.1 S.2.1 dM_give_74 rfl (lv_at hl 0 rfl) ?_
        refine kb_get S w 0 rfl fM_28 rfl dM_give_75 ?_
        refine W.eq (g2 := F0 m 78 ls [.ref (a 7)]) rfl ?_
        refine lv_iconst (v := 4) S.1 S.2.1 dM_give_78 (by decide) ?_
        refine lv_iload_n S.1 S.2.1 dM_give_79 rfl (lv_at hl 1 rfl) ?_
        refine lv_imul S.1 S.2.1 dM_give_80 ?_
        refine lv_iload S.1 S.2.1 dM_give_81 (lv_at hl 3 rfl) ?_
        refine lv_iadd S.1 S.2.1 dM_give_83 ?_
        refine lv_aload_n S.1 S.2.1 dM_give_84 rfl (lv_at hl 0 rfl) ?_
        refine kb_get S w 0 rfl fM_28 rfl dM_give_85 ?_
        refine W.eq (g2 := F0 m 88 ls [.ref (a 7), .int ((4 * x1) + x7), .ref (a 7)]) rfl ?_
        refine lv_iconst (v := 4) S.1 S.2.1 dM_give_88 (by decide) ?_
        refine lv_iload_n S.1 S.2.1 dM_give_89 rfl (lv_at hl 1 rfl) ?_
        refine lv_imul S.1 S.2.1 dM_give_90 ?_
        refine lv_iload S.1 S.2.1 dM_give_91 (lv_at hl 3 rfl) ?_
        refine lv_iadd S.1 S.2.1 dM_give_93 ?_
        refine lv_iconst (v := 1) S.1 S.2.1 dM_give_94 (by decide) ?_
        refine lv_isub S.1 S.2.1 dM_give_95 ?_
        obtain ⟨hi11, h⟩ := kb_ck_of h
        refine kb_iald S w 7 0 rfl rfl hi11 dM_give_96 ?_
        refine W.eq (g2 := F0 m 97 ls [.int (z 7 (kb_ix (((4 * x1) + x7) - 1))), .int ((4 * x1) + x7), .ref (a 7)]) rfl ?_
        obtain ⟨hi12, h⟩ := kb_ck_of h
        obtain ⟨z13, hz14, h⟩ := kb_st_of h
        refine kb_iast S w 7 0 rfl rfl hi12 (ws1 := mW cI cZ a z13) (by rw [hz14]; rfl) dM_give_97 (fun H locs w => ?_)
        refine lv_iinc (v := x7 + (-1)) (k := 3) S.1 S.2.1 dM_give_98 hl rfl rfl (by decide) rfl (fun ls hl => ?_)
        have hl : lv_has ls 8 [(7, .int (x7 + (-1))), (0, .ref (a 0)), (1, .int x1), (6, .int x6)] := hl
        refine lv_goto (tgt := 69) S.1 S.2.1 dM_give_101 (by decide) ?_
        exact ih x1 x6 (x7 + (-1)) z13 _ _ _ (lv_sub hl [1, 2, 3, 0] rfl) w h
  refine lv_bipush (v := 8) S.1 S.2.1 dM_give_0 (by decide) ?_
  refine lv_iload_n S.1 S.2.1 dM_give_2 rfl (lv_at hl 1 rfl) ?_
  refine lv_imul S.1 S.2.1 dM_give_3 ?_
  refine lv_iload_n S.1 S.2.1 dM_give_4 rfl (lv_at hl 3 rfl) ?_
  refine lv_iadd S.1 S.2.1 dM_give_5 ?_
  refine lv_istore S.1 S.2.1 dM_give_6 hl (by decide) rfl (fun ls hl => ?_)
  have hl : lv_has ls 8 [(5, .int ((8 * x1) + x3)), (0, .ref (a 0)), (1, .int x1), (2, .int x2), (3, .int x3), (4, .int x4)] := hl
  refine lv_aload_n S.1 S.2.1 dM_give_8 rfl (lv_at hl 1 rfl) ?_
  refine kb_get S w 0 rfl fM_34 rfl dM_give_9 ?_
  refine W.eq (g2 := F0 m 12 ls [.ref (a 9)]) rfl ?_
  refine lv_iload_n S.1 S.2.1 dM_give_12 rfl (lv_at hl 2 rfl) ?_
  obtain ⟨hi1, h⟩ := kb_ck_of h
  refine kb_iald S w 9 0 rfl rfl hi1 dM_give_13 ?_
  refine W.eq (g2 := F0 m 14 ls [.int (z0 9 (kb_ix (x1)))]) rfl ?_
  refine lv_istore S.1 S.2.1 dM_give_14 hl (by decide) rfl (fun ls hl => ?_)
  have hl : lv_has ls 8 [(6, .int (z0 9 (kb_ix (x1)))), (5, .int ((8 * x1) + x3)), (0, .ref (a 0)), (1, .int x1), (2, .int x2), (3, .int x3), (4, .int x4)] := hl
  refine lv_iload_n S.1 S.2.1 dM_give_16 rfl (lv_at hl 4 rfl) ?_
  by_cases hs17_0 : (x2).toInt = 0
  · have h := (kb_brt hs17_0).symm.trans h
    refine lv_tableIn (tgt := 48) S.1 S.2.1 dM_give_17 (by omega) (by omega) (by rw [hs17_0]; rfl) (by decide) ?_
    refine lv_aload_n S.1 S.2.1 dM_give_48 rfl (lv_at hl 2 rfl) ?_
    refine kb_get S w 0 rfl fM_13 rfl dM_give_49 ?_
    refine W.eq (g2 := F0 m 52 ls [.ref (a 2)]) rfl ?_
    refine lv_iload S.1 S.2.1 dM_give_52 (lv_at hl 1 rfl) ?_
    refine lv_iload S.1 S.2.1 dM_give_54 (lv_at hl 6 rfl) ?_
    obtain ⟨hi2, h⟩ := kb_ck_of h
    obtain ⟨z3, hz4, h⟩ := kb_st_of h
    refine kb_iast S w 2 0 rfl rfl hi2 (ws1 := mW cI cZ a z3) (by rw [hz4]; rfl) dM_give_56 (fun H locs w => ?_)
    refine lv_aload_n S.1 S.2.1 dM_give_57 rfl (lv_at hl 2 rfl) ?_
    refine kb_get S w 0 rfl fM_16 rfl dM_give_58 ?_
    refine W.eq (g2 := F0 m 61 ls [.ref (a 3)]) rfl ?_
    refine lv_iload S.1 S.2.1 dM_give_61 (lv_at hl 1 rfl) ?_
    refine lv_iload S.1 S.2.1 dM_give_63 (lv_at hl 0 rfl) ?_
    obtain ⟨hi5, h⟩ := kb_ck_of h
    obtain ⟨z6, hz7, h⟩ := kb_st_of h
    refine kb_iast S w 3 0 rfl rfl hi5 (ws1 := mW cI cZ a z6) (by rw [hz7]; rfl) dM_give_65 (fun H locs w => ?_)
    refine lv_iconst (v := 3) S.1 S.2.1 dM_give_66 (by decide) ?_
    refine lv_istore S.1 S.2.1 dM_give_67 hl (by decide) rfl (fun ls hl => ?_)
    have hl : lv_has ls 8 [(7, .int 3), (6, .int (z0 9 (kb_ix (x1)))), (5, .int ((8 * x1) + x3)), (0, .ref (a 0)), (1, .int x1), (2, .int x2), (3, .int x3), (4, .int x4)] := hl
    exact L69 3000 x1 (z0 9 (kb_ix (x1))) 3 z6 _ _ _ (lv_sub hl [3, 4, 1, 0] rfl) w h
  · have h := (kb_brf hs17_0).symm.trans h
    by_cases hs17_1 : (x2).toInt = 1
    · have h := (kb_brt hs17_1).symm.trans h
      refine lv_tableIn (tgt := 117) S.1 S.2.1 dM_give_17 (by omega) (by omega) (by rw [hs17_1]; rfl) (by decide) ?_
      refine lv_aload_n S.1 S.2.1 dM_give_117 rfl (lv_at hl 2 rfl) ?_
      refine kb_get S w 0 rfl fM_13 rfl dM_give_118 ?_
      refine W.eq (g2 := F0 m 121 ls [.ref (a 2)]) rfl ?_
      refine lv_iload S.1 S.2.1 dM_give_121 (lv_at hl 1 rfl) ?_
      refine lv_iconst (v := (-1)) S.1 S.2.1 dM_give_123 (by decide) ?_
      obtain ⟨hi15, h⟩ := kb_ck_of h
      obtain ⟨z16, hz17, h⟩ := kb_st_of h
      refine kb_iast S w 2 0 rfl rfl hi15 (ws1 := mW cI cZ a z16) (by rw [hz17]; rfl) dM_give_124 (fun H locs w => ?_)
      refine lv_aload_n S.1 S.2.1 dM_give_125 rfl (lv_at hl 2 rfl) ?_
      refine kb_get S w 0 rfl fM_19 rfl dM_give_126 ?_
      refine W.eq (g2 := F0 m 129 ls [.ref (a 4)]) rfl ?_
      refine lv_iload S.1 S.2.1 dM_give_129 (lv_at hl 1 rfl) ?_
      refine lv_iload S.1 S.2.1 dM_give_131 (lv_at hl 0 rfl) ?_
      obtain ⟨hi18, h⟩ := kb_ck_of h
      obtain ⟨z19, hz20, h⟩ := kb_st_of h
      refine kb_iast S w 4 0 rfl rfl hi18 (ws1 := mW cI cZ a z19) (by rw [hz20]; rfl) dM_give_133 (fun H locs w => ?_)
      refine lv_goto (tgt := 169) S.1 S.2.1 dM_give_134 (by decide) ?_
      exact kb_vret (mW cI cZ a) (v := 0) (r := r) S hr hlk hA w h dM_give_169
    · have h := (kb_brf hs17_1).symm.trans h
      by_cases hs17_2 : (x2).toInt = 2
      · have h := (kb_brt hs17_2).symm.trans h
        refine lv_tableIn (tgt := 137) S.1 S.2.1 dM_give_17 (by omega) (by omega) (by rw [hs17_2]; rfl) (by decide) ?_
        refine lv_aload_n S.1 S.2.1 dM_give_137 rfl (lv_at hl 2 rfl) ?_
        refine kb_get S w 0 rfl fM_22 rfl dM_give_138 ?_
        refine W.eq (g2 := F0 m 141 ls [.ref (a 5)]) rfl ?_
        refine lv_iload S.1 S.2.1 dM_give_141 (lv_at hl 1 rfl) ?_
        refine lv_iload S.1 S.2.1 dM_give_143 (lv_at hl 0 rfl) ?_
        obtain ⟨hi21, h⟩ := kb_ck_of h
        obtain ⟨z22, hz23, h⟩ := kb_st_of h
        refine kb_iast S w 5 0 rfl rfl hi21 (ws1 := mW cI cZ a z22) (by rw [hz23]; rfl) dM_give_145 (fun H locs w => ?_)
        refine lv_goto (tgt := 169) S.1 S.2.1 dM_give_146 (by decide) ?_
        exact kb_vret (mW cI cZ a) (v := 0) (r := r) S hr hlk hA w h dM_give_169
      · have h := (kb_brf hs17_2).symm.trans h
        by_cases hs17_3 : (x2).toInt = 3
        · have h := (kb_brt hs17_3).symm.trans h
          refine lv_tableIn (tgt := 149) S.1 S.2.1 dM_give_17 (by omega) (by omega) (by rw [hs17_3]; rfl) (by decide) ?_
          refine lv_aload_n S.1 S.2.1 dM_give_149 rfl (lv_at hl 2 rfl) ?_
          refine kb_get S w 0 rfl fM_25 rfl dM_give_150 ?_
          refine W.eq (g2 := F0 m 153 ls [.ref (a 6)]) rfl ?_
          refine lv_iload S.1 S.2.1 dM_give_153 (lv_at hl 1 rfl) ?_
          refine lv_iload S.1 S.2.1 dM_give_155 (lv_at hl 0 rfl) ?_
          obtain ⟨hi24, h⟩ := kb_ck_of h
          obtain ⟨z25, hz26, h⟩ := kb_st_of h
          refine kb_iast S w 6 0 rfl rfl hi24 (ws1 := mW cI cZ a z25) (by rw [hz26]; rfl) dM_give_157 (fun H locs w => ?_)
          refine lv_goto (tgt := 169) S.1 S.2.1 dM_give_158 (by decide) ?_
          exact kb_vret (mW cI cZ a) (v := 0) (r := r) S hr hlk hA w h dM_give_169
        · have h := (kb_brf hs17_3).symm.trans h
          refine lv_tableOut (tgt := 161) S.1 S.2.1 dM_give_17 (by omega) (by decide) ?_
          refine lv_aload_n S.1 S.2.1 dM_give_161 rfl (lv_at hl 2 rfl) ?_
          refine kb_get S w 0 rfl fM_31 rfl dM_give_162 ?_
          refine W.eq (g2 := F0 m 165 ls [.ref (a 8)]) rfl ?_
          refine lv_iload_n S.1 S.2.1 dM_give_165 rfl (lv_at hl 3 rfl) ?_
          refine lv_iload S.1 S.2.1 dM_give_166 (lv_at hl 0 rfl) ?_
          obtain ⟨hi27, h⟩ := kb_ck_of h
          obtain ⟨z28, hz29, h⟩ := kb_st_of h
          refine kb_iast S w 8 0 rfl rfl hi27 (ws1 := mW cI cZ a z28) (by rw [hz29]; rfl) dM_give_168 (fun H locs w => ?_)
          exact kb_vret (mW cI cZ a) (v := 0) (r := r) S hr hlk hA w h dM_give_169
set_option maxHeartbeats 4000000 in
set_option maxRecDepth 100000 in
theorem cM_isBank (l : Launch) (D : va_G) (cI cZ : ClassId) (a : Nat → Nat) (z0 z' : kb_S) (r : Int32) (sz : Nat) (x1 : Int32) (h : pM_isBank x1 z0 = some (r, z')) : Met l y_M_isBank (Cond.code y_M_isBank c_M_isBank 2 (some .boolean) :: wsB) rm_M_isBank (kb_Pc D vwCl [(cI, .int), (cZ, .boolean)] sz [.ref (a 0), .int x1] (mW cI cZ a z0)) (kb_Qi D vwCl sz (mW cI cZ a z0) r (mW cI cZ a z')) 0 0 (va_A (mW cI cZ a z0) sz) := by
  refine kb_start (by decide) rfl (Nat.le_of_ble_eq_true rfl) ?_
  intro p e s m args below meth c A ls S hr hlk hsz hA w hl
  have hl : lv_has ls 2 [(0, .ref (a 0)), (1, .int x1)] := hl
  unfold pM_isBank at h
  refine lv_iload_n S.1 S.2.1 dM_isBank_0 rfl (lv_at hl 1 rfl) ?_
  refine lv_if_lt (tgt := 16) S.1 S.2.1 dM_isBank_1 (by decide) (fun hc => ?_) (fun hc => ?_)
  · have h := (kb_brt hc).symm.trans h
    refine lv_iconst (v := 0) S.1 S.2.1 dM_isBank_16 (by decide) ?_
    exact kb_zret (mW cI cZ a) S hr hlk hA w h (by decide) dM_isBank_17
  · have h := (kb_brf hc).symm.trans h
    refine lv_iload_n S.1 S.2.1 dM_isBank_4 rfl (lv_at hl 1 rfl) ?_
    refine lv_aload_n S.1 S.2.1 dM_isBank_5 rfl (lv_at hl 0 rfl) ?_
    refine kb_get S w 0 rfl fM_71 rfl dM_isBank_6 ?_
    refine W.eq (g2 := F0 m 9 ls [.int (z0 0 1), .int x1]) rfl ?_
    refine lv_icmp_ge (tgt := 16) S.1 S.2.1 dM_isBank_9 (by decide) (fun hc => ?_) (fun hc => ?_)
    · have h := (kb_brt hc).symm.trans h
      refine lv_iconst (v := 0) S.1 S.2.1 dM_isBank_16 (by decide) ?_
      exact kb_zret (mW cI cZ a) S hr hlk hA w h (by decide) dM_isBank_17
    · have h := (kb_brf hc).symm.trans h
      refine lv_iconst (v := 1) S.1 S.2.1 dM_isBank_12 (by decide) ?_
      refine lv_goto (tgt := 17) S.1 S.2.1 dM_isBank_13 (by decide) ?_
      exact kb_zret (mW cI cZ a) S hr hlk hA w h (by decide) dM_isBank_17
set_option maxHeartbeats 4000000 in
set_option maxRecDepth 100000 in
theorem cM_isRow (l : Launch) (D : va_G) (cI cZ : ClassId) (a : Nat → Nat) (z0 z' : kb_S) (r : Int32) (sz : Nat) (x0 : Int32) (h : pM_isRow x0 z0 = some (r, z')) : Met l y_M_isRow (Cond.code y_M_isRow c_M_isRow 1 (some .boolean) :: wsB) rm_M_isRow (kb_Pc D vwCl [(cI, .int), (cZ, .boolean)] sz [.int x0] (mW cI cZ a z0)) (kb_Qi D vwCl sz (mW cI cZ a z0) r (mW cI cZ a z')) 0 0 (va_A (mW cI cZ a z0) sz) := by
  refine kb_start (by decide) rfl (Nat.le_of_ble_eq_true rfl) ?_
  intro p e s m args below meth c A ls S hr hlk hsz hA w hl
  have hl : lv_has ls 1 [(0, .int x0)] := hl
  unfold pM_isRow at h
  refine lv_iload_n S.1 S.2.1 dM_isRow_0 rfl (lv_at hl 0 rfl) ?_
  refine lv_if_lt (tgt := 14) S.1 S.2.1 dM_isRow_1 (by decide) (fun hc => ?_) (fun hc => ?_)
  · have h := (kb_brt hc).symm.trans h
    refine lv_iconst (v := 0) S.1 S.2.1 dM_isRow_14 (by decide) ?_
    exact kb_zret (mW cI cZ a) S hr hlk hA w h (by decide) dM_isRow_15
  · have h := (kb_brf hc).symm.trans h
    refine lv_iload_n S.1 S.2.1 dM_isRow_4 rfl (lv_at hl 0 rfl) ?_
    refine lv_bipush (v := 16) S.1 S.2.1 dM_isRow_5 (by decide) ?_
    refine lv_icmp_ge (tgt := 14) S.1 S.2.1 dM_isRow_7 (by decide) (fun hc => ?_) (fun hc => ?_)
    · have h := (kb_brt hc).symm.trans h
      refine lv_iconst (v := 0) S.1 S.2.1 dM_isRow_14 (by decide) ?_
      exact kb_zret (mW cI cZ a) S hr hlk hA w h (by decide) dM_isRow_15
    · have h := (kb_brf hc).symm.trans h
      refine lv_iconst (v := 1) S.1 S.2.1 dM_isRow_10 (by decide) ?_
      refine lv_goto (tgt := 15) S.1 S.2.1 dM_isRow_11 (by decide) ?_
      exact kb_zret (mW cI cZ a) S hr hlk hA w h (by decide) dM_isRow_15
set_option maxHeartbeats 4000000 in
set_option maxRecDepth 100000 in
theorem cM_isWord (l : Launch) (D : va_G) (cI cZ : ClassId) (a : Nat → Nat) (z0 z' : kb_S) (r : Int32) (sz : Nat) (x1 : Int32) (x2 : Int32) (x3 : Int32) (h : pM_isWord x1 x2 x3 z0 = some (r, z')) : Met l y_M_isWord (Cond.code y_M_isWord c_M_isWord 4 (some .boolean) :: wsB) rm_M_isWord (kb_Pc D vwCl [(cI, .int), (cZ, .boolean)] sz [.ref (a 0), .int x1, .int x2, .int x3] (mW cI cZ a z0)) (kb_Qi D vwCl sz (mW cI cZ a z0) r (mW cI cZ a z')) 0 0 (va_A (mW cI cZ a z0) sz) := by
  refine kb_start (by decide) rfl (Nat.le_of_ble_eq_true rfl) ?_
  intro p e s m args below meth c A ls S hr hlk hsz hA w hl
  have hl : lv_has ls 4 [(0, .ref (a 0)), (1, .int x1), (2, .int x2), (3, .int x3)] := hl
  unfold pM_isWord at h
  refine lv_aload_n S.1 S.2.1 dM_isWord_0 rfl (lv_at hl 0 rfl) ?_
  refine lv_iload_n S.1 S.2.1 dM_isWord_1 rfl (lv_at hl 1 rfl) ?_
  obtain ⟨r2, z1, hc3, h⟩ := kb_cl_of h
  refine kb_calli (As := [.int x1]) (rest := []) (q0 := 0) (ci := 3) S w (fun sz => cM_isBank l D cI cZ a _ _ _ sz x1 hc3) Y_M_isBank I_M_isBank S_M_isBank lM_103 ⟨rfl, rfl, Nat.le_of_ble_eq_true rfl, Nat.le_of_ble_eq_true rfl⟩ rfl rfl rfl rfl hl.1 rfl (Nat.le_of_ble_eq_true rfl) dM_isWord_2 ⟨Nat.le_of_ble_eq_true rfl, Nat.le_of_ble_eq_true rfl⟩ (fun H locs w => ?_)
  refine lv_if_eq (tgt := 29) S.1 S.2.1 dM_isWord_5 (by decide) (fun hc => ?_) (fun hc => ?_)
  · have h := (kb_brt hc).symm.trans h
    refine lv_iconst (v := 0) S.1 S.2.1 dM_isWord_29 (by decide) ?_
    exact kb_zret (mW cI cZ a) S hr hlk hA w h (by decide) dM_isWord_30
  · have h := (kb_brf hc).symm.trans h
    refine lv_iload_n S.1 S.2.1 dM_isWord_8 rfl (lv_at hl 2 rfl) ?_
    obtain ⟨r5, z4, hc6, h⟩ := kb_cl_of h
    refine kb_callS (As := [.int x2]) (rest := []) S w (fun sz => cM_isRow l D cI cZ a _ _ _ sz x2 hc6) Y_M_isRow T_M_isRow lM_107 ⟨rfl, rfl, Nat.le_of_ble_eq_true rfl, Nat.le_of_ble_eq_true rfl⟩ rfl hl.1 rfl (Nat.le_of_ble_eq_true rfl) dM_isWord_9 ⟨Nat.le_of_ble_eq_true rfl, Nat.le_of_ble_eq_true rfl⟩ (fun H locs w => ?_)
    refine lv_if_eq (tgt := 29) S.1 S.2.1 dM_isWord_12 (by decide) (fun hc => ?_) (fun hc => ?_)
    · have h := (kb_brt hc).symm.trans h
      refine lv_iconst (v := 0) S.1 S.2.1 dM_isWord_29 (by decide) ?_
      exact kb_zret (mW cI cZ a) S hr hlk hA w h (by decide) dM_isWord_30
    · have h := (kb_brf hc).symm.trans h
      refine lv_iload_n S.1 S.2.1 dM_isWord_15 rfl (lv_at hl 3 rfl) ?_
      refine lv_if_lt (tgt := 29) S.1 S.2.1 dM_isWord_16 (by decide) (fun hc => ?_) (fun hc => ?_)
      · have h := (kb_brt hc).symm.trans h
        refine lv_iconst (v := 0) S.1 S.2.1 dM_isWord_29 (by decide) ?_
        exact kb_zret (mW cI cZ a) S hr hlk hA w h (by decide) dM_isWord_30
      · have h := (kb_brf hc).symm.trans h
        refine lv_iload_n S.1 S.2.1 dM_isWord_19 rfl (lv_at hl 3 rfl) ?_
        refine lv_bipush (v := 8) S.1 S.2.1 dM_isWord_20 (by decide) ?_
        refine lv_icmp_ge (tgt := 29) S.1 S.2.1 dM_isWord_22 (by decide) (fun hc => ?_) (fun hc => ?_)
        · have h := (kb_brt hc).symm.trans h
          refine lv_iconst (v := 0) S.1 S.2.1 dM_isWord_29 (by decide) ?_
          exact kb_zret (mW cI cZ a) S hr hlk hA w h (by decide) dM_isWord_30
        · have h := (kb_brf hc).symm.trans h
          refine lv_iconst (v := 1) S.1 S.2.1 dM_isWord_25 (by decide) ?_
          refine lv_goto (tgt := 30) S.1 S.2.1 dM_isWord_26 (by decide) ?_
          exact kb_zret (mW cI cZ a) S hr hlk hA w h (by decide) dM_isWord_30
set_option maxHeartbeats 4000000 in
set_option maxRecDepth 100000 in
theorem cM_request (l : Launch) (D : va_G) (cI cZ : ClassId) (a : Nat → Nat) (z0 z' : kb_S) (r : Int32) (sz : Nat) (x1 : Int32) (x2 : Int32) (x3 : Int32) (x4 : Int32) (x5 : Int32) (h : pM_request x1 x2 x3 x4 x5 z0 = some (r, z')) : Met l y_M_request (Cond.code y_M_request c_M_request 6 (some .int) :: wsB) rm_M_request (kb_Pc D vwCl [(cI, .int), (cZ, .boolean)] sz [.ref (a 0), .int x1, .int x2, .int x3, .int x4, .int x5] (mW cI cZ a z0)) (kb_Qi D vwCl sz (mW cI cZ a z0) r (mW cI cZ a z')) 0 0 (va_A (mW cI cZ a z0) sz) := by
  refine kb_start (by decide) rfl (Nat.le_of_ble_eq_true rfl) ?_
  intro p e s m args below meth c A ls S hr hlk hsz hA w hl
  have hl : lv_has ls 6 [(0, .ref (a 0)), (1, .int x1), (2, .int x2), (3, .int x3), (4, .int x4), (5, .int x5)] := hl
  unfold pM_request at h
  have J31 : ∀ (x1 : Int32) (x2 : Int32) (x3 : Int32) (x4 : Int32) (x5 : Int32) (s0 : Int32) (z : kb_S) (H : Heap) (locs : List Loc) (ls : Array Slot), lv_has ls 6 [(0, .ref (a 0)), (1, .int x1), (2, .int x2), (3, .int x3), (4, .int x4), (5, .int x5)] → kb_W D vwCl [(cI, .int), (cZ, .boolean)] A s H locs (mW cI cZ a z) → pM_request_J31 x1 x2 x3 x4 x5 s0 z = some (r, z') → W p l e rm_M_request s m args below meth c H locs 0 0 (MQ below (kb_Qi D vwCl sz (mW cI cZ a z0) r (mW cI cZ a z')) args s 0 0 (va_A (mW cI cZ a z0) sz)) (F0 m 31 ls [.int s0, .ref (a 0)]) := by
    intro x1 x2 x3 x4 x5 s0 z H locs ls hl w h
    unfold pM_request_J31 at h
    obtain ⟨z4, hz5, h⟩ := kb_st_of h
    refine kb_puti S w 0 rfl gM_81 (Nat.le_of_ble_eq_true rfl) (ws1 := mW cI cZ a z4) (by rw [hz5]; rfl) dM_request_31 (fun H locs w => ?_)
    refine lv_aload_n S.1 S.2.1 dM_request_34 rfl (lv_at hl 0 rfl) ?_
    refine kb_get S w 0 rfl fM_81 rfl dM_request_35 ?_
    refine W.eq (g2 := F0 m 38 ls [.int (z4 0 0)]) rfl ?_
    refine lv_if_eq (tgt := 43) S.1 S.2.1 dM_request_38 (by decide) (fun hc => ?_) (fun hc => ?_)
    · have h := (kb_brt hc).symm.trans h
      refine lv_aload_n S.1 S.2.1 dM_request_43 rfl (lv_at hl 0 rfl) ?_
      refine kb_get S w 0 rfl fM_40 rfl dM_request_44 ?_
      refine W.eq (g2 := F0 m 47 ls [.ref (a 11)]) rfl ?_
      refine lv_aload_n S.1 S.2.1 dM_request_47 rfl (lv_at hl 0 rfl) ?_
      refine kb_get S w 0 rfl fM_113 rfl dM_request_48 ?_
      refine W.eq (g2 := F0 m 51 ls [.int (z4 0 4), .ref (a 11)]) rfl ?_
      refine lv_aload_n S.1 S.2.1 dM_request_51 rfl (lv_at hl 0 rfl) ?_
      refine kb_get S w 0 rfl fM_116 rfl dM_request_52 ?_
      refine W.eq (g2 := F0 m 55 ls [.int (z4 0 5), .int (z4 0 4), .ref (a 11)]) rfl ?_
      obtain ⟨hi6, h⟩ := kb_ck_of h
      obtain ⟨z7, hz8, h⟩ := kb_st_of h
      refine kb_iast S w 11 0 rfl rfl hi6 (ws1 := mW cI cZ a z7) (by rw [hz8]; rfl) dM_request_55 (fun H locs w => ?_)
      refine lv_aload_n S.1 S.2.1 dM_request_56 rfl (lv_at hl 0 rfl) ?_
      refine kb_get S w 0 rfl fM_43 rfl dM_request_57 ?_
      refine W.eq (g2 := F0 m 60 ls [.ref (a 12)]) rfl ?_
      refine lv_aload_n S.1 S.2.1 dM_request_60 rfl (lv_at hl 0 rfl) ?_
      refine kb_get S w 0 rfl fM_113 rfl dM_request_61 ?_
      refine W.eq (g2 := F0 m 64 ls [.int (z7 0 4), .ref (a 12)]) rfl ?_
      refine lv_iload_n S.1 S.2.1 dM_request_64 rfl (lv_at hl 1 rfl) ?_
      obtain ⟨hi9, h⟩ := kb_ck_of h
      obtain ⟨z10, hz11, h⟩ := kb_st_of h
      refine kb_iast S w 12 0 rfl rfl hi9 (ws1 := mW cI cZ a z10) (by rw [hz11]; rfl) dM_request_65 (fun H locs w => ?_)
      refine lv_aload_n S.1 S.2.1 dM_request_66 rfl (lv_at hl 0 rfl) ?_
      refine kb_get S w 0 rfl fM_46 rfl dM_request_67 ?_
      refine W.eq (g2 := F0 m 70 ls [.ref (a 13)]) rfl ?_
      refine lv_aload_n S.1 S.2.1 dM_request_70 rfl (lv_at hl 0 rfl) ?_
      refine kb_get S w 0 rfl fM_113 rfl dM_request_71 ?_
      refine W.eq (g2 := F0 m 74 ls [.int (z10 0 4), .ref (a 13)]) rfl ?_
      refine lv_iload_n S.1 S.2.1 dM_request_74 rfl (lv_at hl 2 rfl) ?_
      obtain ⟨hi12, h⟩ := kb_ck_of h
      obtain ⟨z13, hz14, h⟩ := kb_st_of h
      refine kb_iast S w 13 0 rfl rfl hi12 (ws1 := mW cI cZ a z13) (by rw [hz14]; rfl) dM_request_75 (fun H locs w => ?_)
      refine lv_aload_n S.1 S.2.1 dM_request_76 rfl (lv_at hl 0 rfl) ?_
      refine kb_get S w 0 rfl fM_49 rfl dM_request_77 ?_
      refine W.eq (g2 := F0 m 80 ls [.ref (a 14)]) rfl ?_
      refine lv_aload_n S.1 S.2.1 dM_request_80 rfl (lv_at hl 0 rfl) ?_
      refine kb_get S w 0 rfl fM_113 rfl dM_request_81 ?_
      refine W.eq (g2 := F0 m 84 ls [.int (z13 0 4), .ref (a 14)]) rfl ?_
      refine lv_iload_n S.1 S.2.1 dM_request_84 rfl (lv_at hl 3 rfl) ?_
      obtain ⟨hi15, h⟩ := kb_ck_of h
      obtain ⟨z16, hz17, h⟩ := kb_st_of h
      refine kb_iast S w 14 0 rfl rfl hi15 (ws1 := mW cI cZ a z16) (by rw [hz17]; rfl) dM_request_85 (fun H locs w => ?_)
      refine lv_aload_n S.1 S.2.1 dM_request_86 rfl (lv_at hl 0 rfl) ?_
      refine kb_get S w 0 rfl fM_52 rfl dM_request_87 ?_
      refine W.eq (g2 := F0 m 90 ls [.ref (a 15)]) rfl ?_
      refine lv_aload_n S.1 S.2.1 dM_request_90 rfl (lv_at hl 0 rfl) ?_
      refine kb_get S w 0 rfl fM_113 rfl dM_request_91 ?_
      refine W.eq (g2 := F0 m 94 ls [.int (z16 0 4), .ref (a 15)]) rfl ?_
      refine lv_iload S.1 S.2.1 dM_request_94 (lv_at hl 4 rfl) ?_
      obtain ⟨hi18, h⟩ := kb_ck_of h
      obtain ⟨z19, hz20, h⟩ := kb_st_of h
      refine kb_zast S w 15 1 rfl rfl hi18 (ws1 := mW cI cZ a z19) (by rw [hz20]; rfl) dM_request_96 (fun H locs w => ?_)
      refine lv_aload_n S.1 S.2.1 dM_request_97 rfl (lv_at hl 0 rfl) ?_
      refine kb_get S w 0 rfl fM_56 rfl dM_request_98 ?_
      refine W.eq (g2 := F0 m 101 ls [.ref (a 16)]) rfl ?_
      refine lv_aload_n S.1 S.2.1 dM_request_101 rfl (lv_at hl 0 rfl) ?_
      refine kb_get S w 0 rfl fM_113 rfl dM_request_102 ?_
      refine W.eq (g2 := F0 m 105 ls [.int (z19 0 4), .ref (a 16)]) rfl ?_
      refine lv_iload S.1 S.2.1 dM_request_105 (lv_at hl 5 rfl) ?_
      obtain ⟨hi21, h⟩ := kb_ck_of h
      obtain ⟨z22, hz23, h⟩ := kb_st_of h
      refine kb_iast S w 16 0 rfl rfl hi21 (ws1 := mW cI cZ a z22) (by rw [hz23]; rfl) dM_request_107 (fun H locs w => ?_)
      refine lv_aload_n S.1 S.2.1 dM_request_108 rfl (lv_at hl 0 rfl) ?_
      refine kb_get S w 0 rfl fM_59 rfl dM_request_109 ?_
      refine W.eq (g2 := F0 m 112 ls [.ref (a 17)]) rfl ?_
      refine lv_aload_n S.1 S.2.1 dM_request_112 rfl (lv_at hl 0 rfl) ?_
      refine kb_get S w 0 rfl fM_113 rfl dM_request_113 ?_
      refine W.eq (g2 := F0 m 116 ls [.int (z22 0 4), .ref (a 17)]) rfl ?_
      refine lv_aload_n S.1 S.2.1 dM_request_116 rfl (lv_at hl 0 rfl) ?_
      refine kb_get S w 0 rfl fM_34 rfl dM_request_117 ?_
      refine W.eq (g2 := F0 m 120 ls [.ref (a 9), .int (z22 0 4), .ref (a 17)]) rfl ?_
      refine lv_iconst (v := 0) S.1 S.2.1 dM_request_120 (by decide) ?_
      obtain ⟨hi24, h⟩ := kb_ck_of h
      refine kb_iald S w 9 0 rfl rfl hi24 dM_request_121 ?_
      refine W.eq (g2 := F0 m 122 ls [.int (z22 9 (kb_ix (0))), .int (z22 0 4), .ref (a 17)]) rfl ?_
      obtain ⟨hi25, h⟩ := kb_ck_of h
      obtain ⟨z26, hz27, h⟩ := kb_st_of h
      refine kb_iast S w 17 0 rfl rfl hi25 (ws1 := mW cI cZ a z26) (by rw [hz27]; rfl) dM_request_122 (fun H locs w => ?_)
      refine lv_aload_n S.1 S.2.1 dM_request_123 rfl (lv_at hl 0 rfl) ?_
      refine lv_dup S.1 S.2.1 dM_request_124 rfl ?_
      refine kb_get S w 0 rfl fM_113 rfl dM_request_125 ?_
      refine W.eq (g2 := F0 m 128 ls [.int (z26 0 4), .ref (a 0)]) rfl ?_
      refine lv_iconst (v := 1) S.1 S.2.1 dM_request_128 (by decide) ?_
      refine lv_iadd S.1 S.2.1 dM_request_129 ?_
      obtain ⟨z28, hz29, h⟩ := kb_st_of h
      refine kb_puti S w 0 rfl gM_113 (Nat.le_of_ble_eq_true rfl) (ws1 := mW cI cZ a z28) (by rw [hz29]; rfl) dM_request_130 (fun H locs w => ?_)
      refine lv_aload_n S.1 S.2.1 dM_request_133 rfl (lv_at hl 0 rfl) ?_
      refine kb_get S w 0 rfl fM_62 rfl dM_request_134 ?_
      refine W.eq (g2 := F0 m 137 ls [.ref (a 18)]) rfl ?_
      refine lv_aload_n S.1 S.2.1 dM_request_137 rfl (lv_at hl 0 rfl) ?_
      refine kb_get S w 0 rfl fM_116 rfl dM_request_138 ?_
      refine W.eq (g2 := F0 m 141 ls [.int (z28 0 5), .ref (a 18)]) rfl ?_
      refine lv_bipush (v := 32) S.1 S.2.1 dM_request_141 (by decide) ?_
      refine lv_irem S.1 S.2.1 dM_request_143 (by decide) ?_
      refine lv_iconst (v := (-1)) S.1 S.2.1 dM_request_144 (by decide) ?_
      obtain ⟨hi30, h⟩ := kb_ck_of h
      obtain ⟨z31, hz32, h⟩ := kb_st_of h
      refine kb_iast S w 18 0 rfl rfl hi30 (ws1 := mW cI cZ a z31) (by rw [hz32]; rfl) dM_request_145 (fun H locs w => ?_)
      refine lv_aload_n S.1 S.2.1 dM_request_146 rfl (lv_at hl 0 rfl) ?_
      refine lv_dup S.1 S.2.1 dM_request_147 rfl ?_
      refine kb_get S w 0 rfl fM_116 rfl dM_request_148 ?_
      refine W.eq (g2 := F0 m 151 ls [.int (z31 0 5), .ref (a 0)]) rfl ?_
      refine lv_iconst (v := 1) S.1 S.2.1 dM_request_151 (by decide) ?_
      refine lv_iadd S.1 S.2.1 dM_request_152 ?_
      obtain ⟨z33, hz34, h⟩ := kb_st_of h
      refine kb_puti S w 0 rfl gM_116 (Nat.le_of_ble_eq_true rfl) (ws1 := mW cI cZ a z33) (by rw [hz34]; rfl) dM_request_153 (fun H locs w => ?_)
      refine lv_aload_n S.1 S.2.1 dM_request_156 rfl (lv_at hl 0 rfl) ?_
      refine kb_get S w 0 rfl fM_116 rfl dM_request_157 ?_
      refine W.eq (g2 := F0 m 160 ls [.int (z33 0 5)]) rfl ?_
      refine lv_iconst (v := 1) S.1 S.2.1 dM_request_160 (by decide) ?_
      refine lv_isub S.1 S.2.1 dM_request_161 ?_
      exact kb_iret (mW cI cZ a) S hr hlk hA w h dM_request_162
    · have h := (kb_brf hc).symm.trans h
      refine lv_iconst (v := 0) S.1 S.2.1 dM_request_41 (by decide) ?_
      exact kb_iret (mW cI cZ a) S hr hlk hA w h dM_request_42
  refine lv_aload_n S.1 S.2.1 dM_request_0 rfl (lv_at hl 0 rfl) ?_
  refine lv_aload_n S.1 S.2.1 dM_request_1 rfl (lv_at hl 0 rfl) ?_
  refine lv_iload_n S.1 S.2.1 dM_request_2 rfl (lv_at hl 1 rfl) ?_
  refine lv_iload_n S.1 S.2.1 dM_request_3 rfl (lv_at hl 2 rfl) ?_
  refine lv_iload_n S.1 S.2.1 dM_request_4 rfl (lv_at hl 3 rfl) ?_
  obtain ⟨r2, z1, hc3, h⟩ := kb_cl_of h
  refine kb_calli (As := [.int x1, .int x2, .int x3]) (rest := [.ref (a 0)]) (q0 := 0) (ci := 3) S w (fun sz => cM_isWord l D cI cZ a _ _ _ sz x1 x2 x3 hc3) Y_M_isWord I_M_isWord S_M_isWord lM_110 ⟨rfl, rfl, Nat.le_of_ble_eq_true rfl, Nat.le_of_ble_eq_true rfl⟩ rfl rfl rfl rfl hl.1 rfl (Nat.le_of_ble_eq_true rfl) dM_request_5 ⟨Nat.le_of_ble_eq_true rfl, Nat.le_of_ble_eq_true rfl⟩ (fun H locs w => ?_)
  refine lv_if_ne (tgt := 15) S.1 S.2.1 dM_request_8 (by decide) (fun hc => ?_) (fun hc => ?_)
  · have h := (kb_brf hc).symm.trans h
    refine lv_aload_n S.1 S.2.1 dM_request_15 rfl (lv_at hl 0 rfl) ?_
    refine kb_get S w 0 rfl fM_113 rfl dM_request_16 ?_
    refine W.eq (g2 := F0 m 19 ls [.int (z1 0 4), .ref (a 0)]) rfl ?_
    refine lv_aload_n S.1 S.2.1 dM_request_19 rfl (lv_at hl 0 rfl) ?_
    refine kb_get S w 0 rfl fM_75 rfl dM_request_20 ?_
    refine W.eq (g2 := F0 m 23 ls [.int (z1 0 2), .int (z1 0 4), .ref (a 0)]) rfl ?_
    refine lv_icmp_ne (tgt := 30) S.1 S.2.1 dM_request_23 (by decide) (fun hc => ?_) (fun hc => ?_)
    · have h := (kb_brf hc).symm.trans h
      refine lv_iconst (v := 0) S.1 S.2.1 dM_request_30 (by decide) ?_
      exact J31 x1 x2 x3 x4 x5 0 z1 _ _ _ (lv_sub hl [0, 1, 2, 3, 4, 5] rfl) w h
    · have h := (kb_brt hc).symm.trans h
      refine lv_iconst (v := 2) S.1 S.2.1 dM_request_26 (by decide) ?_
      refine lv_goto (tgt := 31) S.1 S.2.1 dM_request_27 (by decide) ?_
      exact J31 x1 x2 x3 x4 x5 2 z1 _ _ _ (lv_sub hl [0, 1, 2, 3, 4, 5] rfl) w h
  · have h := (kb_brt hc).symm.trans h
    refine lv_iconst (v := 1) S.1 S.2.1 dM_request_11 (by decide) ?_
    refine lv_goto (tgt := 31) S.1 S.2.1 dM_request_12 (by decide) ?_
    exact J31 x1 x2 x3 x4 x5 1 z1 _ _ _ (lv_sub hl [0, 1, 2, 3, 4, 5] rfl) w h
set_option maxHeartbeats 4000000 in
set_option maxRecDepth 100000 in
theorem cM_read (l : Launch) (D : va_G) (cI cZ : ClassId) (a : Nat → Nat) (z0 z' : kb_S) (r : Int32) (sz : Nat) (x1 : Int32) (x2 : Int32) (x3 : Int32) (h : pM_read x1 x2 x3 z0 = some (r, z')) : Met l y_M_read (Cond.code y_M_read c_M_read 4 (some .int) :: wsB) rm_M_read (kb_Pc D vwCl [(cI, .int), (cZ, .boolean)] sz [.ref (a 0), .int x1, .int x2, .int x3] (mW cI cZ a z0)) (kb_Qi D vwCl sz (mW cI cZ a z0) r (mW cI cZ a z')) 0 0 (va_A (mW cI cZ a z0) sz) := by
  refine kb_start (by decide) rfl (Nat.le_of_ble_eq_true rfl) ?_
  intro p e s m args below meth c A ls S hr hlk hsz hA w hl
  have hl : lv_has ls 4 [(0, .ref (a 0)), (1, .int x1), (2, .int x2), (3, .int x3)] := hl
  unfold pM_read at h
  refine lv_aload_n S.1 S.2.1 dM_read_0 rfl (lv_at hl 0 rfl) ?_
  refine lv_iload_n S.1 S.2.1 dM_read_1 rfl (lv_at hl 1 rfl) ?_
  refine lv_iload_n S.1 S.2.1 dM_read_2 rfl (lv_at hl 2 rfl) ?_
  refine lv_iload_n S.1 S.2.1 dM_read_3 rfl (lv_at hl 3 rfl) ?_
  refine lv_iconst (v := 0) S.1 S.2.1 dM_read_4 (by decide) ?_
  refine lv_iconst (v := 0) S.1 S.2.1 dM_read_5 (by decide) ?_
  obtain ⟨r2, z1, hc3, h⟩ := kb_cl_of h
  refine kb_calli (As := [.int x1, .int x2, .int x3, .int 0, .int 0]) (rest := []) (q0 := 0) (ci := 3) S w (fun sz => cM_request l D cI cZ a _ _ _ sz x1 x2 x3 0 0 hc3) Y_M_request I_M_request S_M_request lM_119 ⟨rfl, rfl, Nat.le_of_ble_eq_true rfl, Nat.le_of_ble_eq_true rfl⟩ rfl rfl rfl rfl hl.1 rfl (Nat.le_of_ble_eq_true rfl) dM_read_6 ⟨Nat.le_of_ble_eq_true rfl, Nat.le_of_ble_eq_true rfl⟩ (fun H locs w => ?_)
  exact kb_iret (mW cI cZ a) S hr hlk hA w h dM_read_9
set_option maxHeartbeats 4000000 in
set_option maxRecDepth 100000 in
theorem cM_write (l : Launch) (D : va_G) (cI cZ : ClassId) (a : Nat → Nat) (z0 z' : kb_S) (r : Int32) (sz : Nat) (x1 : Int32) (x2 : Int32) (x3 : Int32) (x4 : Int32) (h : pM_write x1 x2 x3 x4 z0 = some (r, z')) : Met l y_M_write (Cond.code y_M_write c_M_write 5 (some .int) :: wsB) rm_M_write (kb_Pc D vwCl [(cI, .int), (cZ, .boolean)] sz [.ref (a 0), .int x1, .int x2, .int x3, .int x4] (mW cI cZ a z0)) (kb_Qi D vwCl sz (mW cI cZ a z0) r (mW cI cZ a z')) 0 0 (va_A (mW cI cZ a z0) sz) := by
  refine kb_start (by decide) rfl (Nat.le_of_ble_eq_true rfl) ?_
  intro p e s m args below meth c A ls S hr hlk hsz hA w hl
  have hl : lv_has ls 5 [(0, .ref (a 0)), (1, .int x1), (2, .int x2), (3, .int x3), (4, .int x4)] := hl
  unfold pM_write at h
  refine lv_aload_n S.1 S.2.1 dM_write_0 rfl (lv_at hl 0 rfl) ?_
  refine lv_iload_n S.1 S.2.1 dM_write_1 rfl (lv_at hl 1 rfl) ?_
  refine lv_iload_n S.1 S.2.1 dM_write_2 rfl (lv_at hl 2 rfl) ?_
  refine lv_iload_n S.1 S.2.1 dM_write_3 rfl (lv_at hl 3 rfl) ?_
  refine lv_iconst (v := 1) S.1 S.2.1 dM_write_4 (by decide) ?_
  refine lv_iload S.1 S.2.1 dM_write_5 (lv_at hl 4 rfl) ?_
  obtain ⟨r2, z1, hc3, h⟩ := kb_cl_of h
  refine kb_calli (As := [.int x1, .int x2, .int x3, .int 1, .int x4]) (rest := []) (q0 := 0) (ci := 3) S w (fun sz => cM_request l D cI cZ a _ _ _ sz x1 x2 x3 1 x4 hc3) Y_M_request I_M_request S_M_request lM_119 ⟨rfl, rfl, Nat.le_of_ble_eq_true rfl, Nat.le_of_ble_eq_true rfl⟩ rfl rfl rfl rfl hl.1 rfl (Nat.le_of_ble_eq_true rfl) dM_write_7 ⟨Nat.le_of_ble_eq_true rfl, Nat.le_of_ble_eq_true rfl⟩ (fun H locs w => ?_)
  exact kb_iret (mW cI cZ a) S hr hlk hA w h dM_write_10
set_option maxHeartbeats 4000000 in
set_option maxRecDepth 100000 in
theorem cM_serve (l : Launch) (D : va_G) (cI cZ : ClassId) (a : Nat → Nat) (z0 z' : kb_S) (r : Int32) (sz : Nat) (x1 : Int32) (h : pM_serve x1 z0 = some (r, z')) : Met l y_M_serve (Cond.code y_M_serve c_M_serve 5 none :: wsB) rm_M_serve (kb_Pc D vwCl [(cI, .int), (cZ, .boolean)] sz [.ref (a 0), .int x1] (mW cI cZ a z0)) (kb_Qv D vwCl sz (mW cI cZ a z0) (mW cI cZ a z')) 0 0 (va_A (mW cI cZ a z0) sz) := by
  refine kb_start (by decide) rfl (Nat.le_of_ble_eq_true rfl) ?_
  intro p e s m args below meth c A ls S hr hlk hsz hA w hl
  have hl : lv_has ls 5 [(0, .ref (a 0)), (1, .int x1)] := hl
  unfold pM_serve at h
  have L182 : ∀ (n : Nat) (x4 : Int32) (z : kb_S) (H : Heap) (locs : List Loc) (ls : Array Slot), lv_has ls 5 [(0, .ref (a 0)), (4, .int x4)] → kb_W D vwCl [(cI, .int), (cZ, .boolean)] A s H locs (mW cI cZ a z) → pM_serve_L182 n x4 z = some (r, z') → W p l e rm_M_serve s m args below meth c H locs 0 0 (MQ below (kb_Qv D vwCl sz (mW cI cZ a z0) (mW cI cZ a z')) args s 0 0 (va_A (mW cI cZ a z0) sz)) (F0 m 182 ls []) := by
    intro n
    induction n with
    | zero =>
      intro x4 z H locs ls hl w h
      exact absurd h (by simp [pM_serve_L182])
    | succ n ih =>
      intro x4 z H locs ls hl w h
      rw [pM_serve_L182] at h
      refine lv_iload S.1 S.2.1 dM_serve_182 (lv_at hl 1 rfl) ?_
      refine lv_aload_n S.1 S.2.1 dM_serve_184 rfl (lv_at hl 0 rfl) ?_
      refine kb_get S w 0 rfl fM_113 rfl dM_serve_185 ?_
      refine W.eq (g2 := F0 m 188 ls [.int (z 0 4), .int x4]) rfl ?_
      refine lv_icmp_ge (tgt := 309) S.1 S.2.1 dM_serve_188 (by decide) (fun hc => ?_) (fun hc => ?_)
      · have h := (kb_brt hc).symm.trans h
        exact kb_vret (mW cI cZ a) (v := 0) (r := r) S hr hlk hA w h dM_serve_309
      · have h := (kb_brf hc).symm.trans h
        refine lv_aload_n S.1 S.2.1 dM_serve_191 rfl (lv_at hl 0 rfl) ?_
        refine kb_get S w 0 rfl fM_40 rfl dM_serve_192 ?_
        refine W.eq (g2 := F0 m 195 ls [.ref (a 11)]) rfl ?_
        refine lv_iload S.1 S.2.1 dM_serve_195 (lv_at hl 1 rfl) ?_
        refine lv_aload_n S.1 S.2.1 dM_serve_197 rfl (lv_at hl 0 rfl) ?_
        refine kb_get S w 0 rfl fM_40 rfl dM_serve_198 ?_
        refine W.eq (g2 := F0 m 201 ls [.ref (a 11), .int x4, .ref (a 11)]) rfl ?_
        refine lv_iload S.1 S.2.1 dM_serve_201 (lv_at hl 1 rfl) ?_
        refine lv_iconst (v := 1) S.1 S.2.1 dM_serve_203 (by decide) ?_
        refine lv_iadd S.1 S.2.1 dM_serve_204 ?_
        obtain ⟨hi16, h⟩ := kb_ck_of h
        refine kb_iald S w 11 0 rfl rfl hi16 dM_serve_205 ?_
        refine W.eq (g2 := F0 m 206 ls [.int (z 11 (kb_ix (x4 + 1))), .int x4, .ref (a 11)]) rfl ?_
        obtain ⟨hi17, h⟩ := kb_ck_of h
        obtain ⟨z18, hz19, h⟩ := kb_st_of h
        refine kb_iast S w 11 0 rfl rfl hi17 (ws1 := mW cI cZ a z18) (by rw [hz19]; rfl) dM_serve_206 (fun H locs w => ?_)
        refine lv_aload_n S.1 S.2.1 dM_serve_207 rfl (lv_at hl 0 rfl) ?_
        refine kb_get S w 0 rfl fM_43 rfl dM_serve_208 ?_
        refine W.eq (g2 := F0 m 211 ls [.ref (a 12)]) rfl ?_
        refine lv_iload S.1 S.2.1 dM_serve_211 (lv_at hl 1 rfl) ?_
        refine lv_aload_n S.1 S.2.1 dM_serve_213 rfl (lv_at hl 0 rfl) ?_
        refine kb_get S w 0 rfl fM_43 rfl dM_serve_214 ?_
        refine W.eq (g2 := F0 m 217 ls [.ref (a 12), .int x4, .ref (a 12)]) rfl ?_
        refine lv_iload S.1 S.2.1 dM_serve_217 (lv_at hl 1 rfl) ?_
        refine lv_iconst (v := 1) S.1 S.2.1 dM_serve_219 (by decide) ?_
        refine lv_iadd S.1 S.2.1 dM_serve_220 ?_
        obtain ⟨hi20, h⟩ := kb_ck_of h
        refine kb_iald S w 12 0 rfl rfl hi20 dM_serve_221 ?_
        refine W.eq (g2 := F0 m 222 ls [.int (z18 12 (kb_ix (x4 + 1))), .int x4, .ref (a 12)]) rfl ?_
        obtain ⟨hi21, h⟩ := kb_ck_of h
        obtain ⟨z22, hz23, h⟩ := kb_st_of h
        refine kb_iast S w 12 0 rfl rfl hi21 (ws1 := mW cI cZ a z22) (by rw [hz23]; rfl) dM_serve_222 (fun H locs w => ?_)
        refine lv_aload_n S.1 S.2.1 dM_serve_223 rfl (lv_at hl 0 rfl) ?_
        refine kb_get S w 0 rfl fM_46 rfl dM_serve_224 ?_
        refine W.eq (g2 := F0 m 227 ls [.ref (a 13)]) rfl ?_
        refine lv_iload S.1 S.2.1 dM_serve_227 (lv_at hl 1 rfl) ?_
        refine lv_aload_n S.1 S.2.1 dM_serve_229 rfl (lv_at hl 0 rfl) ?_
        refine kb_get S w 0 rfl fM_46 rfl dM_serve_230 ?_
        refine W.eq (g2 := F0 m 233 ls [.ref (a 13), .int x4, .ref (a 13)]) rfl ?_
        refine lv_iload S.1 S.2.1 dM_serve_233 (lv_at hl 1 rfl) ?_
        refine lv_iconst (v := 1) S.1 S.2.1 dM_serve_235 (by decide) ?_
        refine lv_iadd S.1 S.2.1 dM_serve_236 ?_
        obtain ⟨hi24, h⟩ := kb_ck_of h
        refine kb_iald S w 13 0 rfl rfl hi24 dM_serve_237 ?_
        refine W.eq (g2 := F0 m 238 ls [.int (z22 13 (kb_ix (x4 + 1))), .int x4, .ref (a 13)]) rfl ?_
        obtain ⟨hi25, h⟩ := kb_ck_of h
        obtain ⟨z26, hz27, h⟩ := kb_st_of h
        refine kb_iast S w 13 0 rfl rfl hi25 (ws1 := mW cI cZ a z26) (by rw [hz27]; rfl) dM_serve_238 (fun H locs w => ?_)
        refine lv_aload_n S.1 S.2.1 dM_serve_239 rfl (lv_at hl 0 rfl) ?_
        refine kb_get S w 0 rfl fM_49 rfl dM_serve_240 ?_
        refine W.eq (g2 := F0 m 243 ls [.ref (a 14)]) rfl ?_
        refine lv_iload S.1 S.2.1 dM_serve_243 (lv_at hl 1 rfl) ?_
        refine lv_aload_n S.1 S.2.1 dM_serve_245 rfl (lv_at hl 0 rfl) ?_
        refine kb_get S w 0 rfl fM_49 rfl dM_serve_246 ?_
        refine W.eq (g2 := F0 m 249 ls [.ref (a 14), .int x4, .ref (a 14)]) rfl ?_
        refine lv_iload S.1 S.2.1 dM_serve_249 (lv_at hl 1 rfl) ?_
        refine lv_iconst (v := 1) S.1 S.2.1 dM_serve_251 (by decide) ?_
        refine lv_iadd S.1 S.2.1 dM_serve_252 ?_
        obtain ⟨hi28, h⟩ := kb_ck_of h
        refine kb_iald S w 14 0 rfl rfl hi28 dM_serve_253 ?_
        refine W.eq (g2 := F0 m 254 ls [.int (z26 14 (kb_ix (x4 + 1))), .int x4, .ref (a 14)]) rfl ?_
        obtain ⟨hi29, h⟩ := kb_ck_of h
        obtain ⟨z30, hz31, h⟩ := kb_st_of h
        refine kb_iast S w 14 0 rfl rfl hi29 (ws1 := mW cI cZ a z30) (by rw [hz31]; rfl) dM_serve_254 (fun H locs w => ?_)
        refine lv_aload_n S.1 S.2.1 dM_serve_255 rfl (lv_at hl 0 rfl) ?_
        refine kb_get S w 0 rfl fM_52 rfl dM_serve_256 ?_
        refine W.eq (g2 := F0 m 259 ls [.ref (a 15)]) rfl ?_
        refine lv_iload S.1 S.2.1 dM_serve_259 (lv_at hl 1 rfl) ?_
        refine lv_aload_n S.1 S.2.1 dM_serve_261 rfl (lv_at hl 0 rfl) ?_
        refine kb_get S w 0 rfl fM_52 rfl dM_serve_262 ?_
        refine W.eq (g2 := F0 m 265 ls [.ref (a 15), .int x4, .ref (a 15)]) rfl ?_
        refine lv_iload S.1 S.2.1 dM_serve_265 (lv_at hl 1 rfl) ?_
        refine lv_iconst (v := 1) S.1 S.2.1 dM_serve_267 (by decide) ?_
        refine lv_iadd S.1 S.2.1 dM_serve_268 ?_
        obtain ⟨hi32, h⟩ := kb_ck_of h
        refine kb_zald S w 15 1 rfl rfl hi32 dM_serve_269 ?_
        refine W.eq (g2 := F0 m 270 ls [.int (z30 15 (kb_ix (x4 + 1))), .int x4, .ref (a 15)]) rfl ?_
        obtain ⟨hi33, h⟩ := kb_ck_of h
        obtain ⟨z34, hz35, h⟩ := kb_st_of h
        refine kb_zast S w 15 1 rfl rfl hi33 (ws1 := mW cI cZ a z34) (by rw [hz35]; rfl) dM_serve_270 (fun H locs w => ?_)
        refine lv_aload_n S.1 S.2.1 dM_serve_271 rfl (lv_at hl 0 rfl) ?_
        refine kb_get S w 0 rfl fM_56 rfl dM_serve_272 ?_
        refine W.eq (g2 := F0 m 275 ls [.ref (a 16)]) rfl ?_
        refine lv_iload S.1 S.2.1 dM_serve_275 (lv_at hl 1 rfl) ?_
        refine lv_aload_n S.1 S.2.1 dM_serve_277 rfl (lv_at hl 0 rfl) ?_
        refine kb_get S w 0 rfl fM_56 rfl dM_serve_278 ?_
        refine W.eq (g2 := F0 m 281 ls [.ref (a 16), .int x4, .ref (a 16)]) rfl ?_
        refine lv_iload S.1 S.2.1 dM_serve_281 (lv_at hl 1 rfl) ?_
        refine lv_iconst (v := 1) S.1 S.2.1 dM_serve_283 (by decide) ?_
        refine lv_iadd S.1 S.2.1 dM_serve_284 ?_
        obtain ⟨hi36, h⟩ := kb_ck_of h
        refine kb_iald S w 16 0 rfl rfl hi36 dM_serve_285 ?_
        refine W.eq (g2 := F0 m 286 ls [.int (z34 16 (kb_ix (x4 + 1))), .int x4, .ref (a 16)]) rfl ?_
        obtain ⟨hi37, h⟩ := kb_ck_of h
        obtain ⟨z38, hz39, h⟩ := kb_st_of h
        refine kb_iast S w 16 0 rfl rfl hi37 (ws1 := mW cI cZ a z38) (by rw [hz39]; rfl) dM_serve_286 (fun H locs w => ?_)
        refine lv_aload_n S.1 S.2.1 dM_serve_287 rfl (lv_at hl 0 rfl) ?_
        refine kb_get S w 0 rfl fM_59 rfl dM_serve_288 ?_
        refine W.eq (g2 := F0 m 291 ls [.ref (a 17)]) rfl ?_
        refine lv_iload S.1 S.2.1 dM_serve_291 (lv_at hl 1 rfl) ?_
        refine lv_aload_n S.1 S.2.1 dM_serve_293 rfl (lv_at hl 0 rfl) ?_
        refine kb_get S w 0 rfl fM_59 rfl dM_serve_294 ?_
        refine W.eq (g2 := F0 m 297 ls [.ref (a 17), .int x4, .ref (a 17)]) rfl ?_
        refine lv_iload S.1 S.2.1 dM_serve_297 (lv_at hl 1 rfl) ?_
        refine lv_iconst (v := 1) S.1 S.2.1 dM_serve_299 (by decide) ?_
        refine lv_iadd S.1 S.2.1 dM_serve_300 ?_
        obtain ⟨hi40, h⟩ := kb_ck_of h
        refine kb_iald S w 17 0 rfl rfl hi40 dM_serve_301 ?_
        refine W.eq (g2 := F0 m 302 ls [.int (z38 17 (kb_ix (x4 + 1))), .int x4, .ref (a 17)]) rfl ?_
        obtain ⟨hi41, h⟩ := kb_ck_of h
        obtain ⟨z42, hz43, h⟩ := kb_st_of h
        refine kb_iast S w 17 0 rfl rfl hi41 (ws1 := mW cI cZ a z42) (by rw [hz43]; rfl) dM_serve_302 (fun H locs w => ?_)
        refine lv_iinc (v := x4 + 1) (k := 1) S.1 S.2.1 dM_serve_303 hl rfl rfl (by decide) rfl (fun ls hl => ?_)
        have hl : lv_has ls 5 [(4, .int (x4 + 1)), (0, .ref (a 0))] := hl
        refine lv_goto (tgt := 182) S.1 S.2.1 dM_serve_306 (by decide) ?_
        exact ih (x4 + 1) z42 _ _ _ (lv_sub hl [1, 0] rfl) w h
  have J169 : ∀ (x1 : Int32) (z : kb_S) (H : Heap) (locs : List Loc) (ls : Array Slot), lv_has ls 5 [(0, .ref (a 0)), (1, .int x1)] → kb_W D vwCl [(cI, .int), (cZ, .boolean)] A s H locs (mW cI cZ a z) → pM_serve_J169 x1 z = some (r, z') → W p l e rm_M_serve s m args below meth c H locs 0 0 (MQ below (kb_Qv D vwCl sz (mW cI cZ a z0) (mW cI cZ a z')) args s 0 0 (va_A (mW cI cZ a z0) sz)) (F0 m 169 ls []) := by
    intro x1 z H locs ls hl w h
    unfold pM_serve_J169 at h
    refine lv_aload_n S.1 S.2.1 dM_serve_169 rfl (lv_at hl 0 rfl) ?_
    refine lv_dup S.1 S.2.1 dM_serve_170 rfl ?_
    refine kb_get S w 0 rfl fM_113 rfl dM_serve_171 ?_
    refine W.eq (g2 := F0 m 174 ls [.int (z 0 4), .ref (a 0)]) rfl ?_
    refine lv_iconst (v := 1) S.1 S.2.1 dM_serve_174 (by decide) ?_
    refine lv_isub S.1 S.2.1 dM_serve_175 ?_
    obtain ⟨z14, hz15, h⟩ := kb_st_of h
    refine kb_puti S w 0 rfl gM_113 (Nat.le_of_ble_eq_true rfl) (ws1 := mW cI cZ a z14) (by rw [hz15]; rfl) dM_serve_176 (fun H locs w => ?_)
    refine lv_iload_n S.1 S.2.1 dM_serve_179 rfl (lv_at hl 1 rfl) ?_
    refine lv_istore S.1 S.2.1 dM_serve_180 hl (by decide) rfl (fun ls hl => ?_)
    have hl : lv_has ls 5 [(4, .int x1), (0, .ref (a 0)), (1, .int x1)] := hl
    exact L182 3000 x1 z14 _ _ _ (lv_sub hl [1, 0] rfl) w h
  have J148 : ∀ (x1 : Int32) (x2 : Int32) (s0 : Int32) (s1 : Int32) (z : kb_S) (H : Heap) (locs : List Loc) (ls : Array Slot), lv_has ls 5 [(0, .ref (a 0)), (1, .int x1), (2, .int x2)] → kb_W D vwCl [(cI, .int), (cZ, .boolean)] A s H locs (mW cI cZ a z) → pM_serve_J148 x1 x2 s0 s1 z = some (r, z') → W p l e rm_M_serve s m args below meth c H locs 0 0 (MQ below (kb_Qv D vwCl sz (mW cI cZ a z0) (mW cI cZ a z')) args s 0 0 (va_A (mW cI cZ a z0) sz)) (F0 m 148 ls [.int s0, .int s1, .ref (a 18)]) := by
    intro x1 x2 s0 s1 z H locs ls hl w h
    unfold pM_serve_J148 at h
    obtain ⟨hi47, h⟩ := kb_ck_of h
    obtain ⟨z48, hz49, h⟩ := kb_st_of h
    refine kb_iast S w 18 0 rfl rfl hi47 (ws1 := mW cI cZ a z48) (by rw [hz49]; rfl) dM_serve_148 (fun H locs w => ?_)
    refine lv_aload_n S.1 S.2.1 dM_serve_149 rfl (lv_at hl 0 rfl) ?_
    refine kb_get S w 0 rfl fM_65 rfl dM_serve_150 ?_
    refine W.eq (g2 := F0 m 153 ls [.ref (a 19)]) rfl ?_
    refine lv_aload_n S.1 S.2.1 dM_serve_153 rfl (lv_at hl 0 rfl) ?_
    refine kb_get S w 0 rfl fM_40 rfl dM_serve_154 ?_
    refine W.eq (g2 := F0 m 157 ls [.ref (a 11), .ref (a 19)]) rfl ?_
    refine lv_iload_n S.1 S.2.1 dM_serve_157 rfl (lv_at hl 1 rfl) ?_
    obtain ⟨hi50, h⟩ := kb_ck_of h
    refine kb_iald S w 11 0 rfl rfl hi50 dM_serve_158 ?_
    refine W.eq (g2 := F0 m 159 ls [.int (z48 11 (kb_ix (x1))), .ref (a 19)]) rfl ?_
    refine lv_bipush (v := 32) S.1 S.2.1 dM_serve_159 (by decide) ?_
    refine lv_irem S.1 S.2.1 dM_serve_161 (by decide) ?_
    refine lv_aload_n S.1 S.2.1 dM_serve_162 rfl (lv_at hl 0 rfl) ?_
    refine kb_get S w 0 rfl fM_37 rfl dM_serve_163 ?_
    refine W.eq (g2 := F0 m 166 ls [.ref (a 10), .int ((z48 11 (kb_ix (x1))) - (z48 11 (kb_ix (x1))) / 32 * 32), .ref (a 19)]) rfl ?_
    refine lv_iload_n S.1 S.2.1 dM_serve_166 rfl (lv_at hl 2 rfl) ?_
    obtain ⟨hi51, h⟩ := kb_ck_of h
    refine kb_iald S w 10 0 rfl rfl hi51 dM_serve_167 ?_
    refine W.eq (g2 := F0 m 168 ls [.int (z48 10 (kb_ix (x2))), .int ((z48 11 (kb_ix (x1))) - (z48 11 (kb_ix (x1))) / 32 * 32), .ref (a 19)]) rfl ?_
    obtain ⟨hi52, h⟩ := kb_ck_of h
    obtain ⟨z53, hz54, h⟩ := kb_st_of h
    refine kb_iast S w 19 0 rfl rfl hi52 (ws1 := mW cI cZ a z53) (by rw [hz54]; rfl) dM_serve_168 (fun H locs w => ?_)
    exact J169 x1 z53 _ _ _ (lv_sub hl [0, 1] rfl) w h
  have J94 : ∀ (x1 : Int32) (x2 : Int32) (x3 : Int32) (s0 : Int32) (z : kb_S) (H : Heap) (locs : List Loc) (ls : Array Slot), lv_has ls 5 [(0, .ref (a 0)), (1, .int x1), (2, .int x2), (3, .int x3)] → kb_W D vwCl [(cI, .int), (cZ, .boolean)] A s H locs (mW cI cZ a z) → pM_serve_J94 x1 x2 x3 s0 z = some (r, z') → W p l e rm_M_serve s m args below meth c H locs 0 0 (MQ below (kb_Qv D vwCl sz (mW cI cZ a z0) (mW cI cZ a z')) args s 0 0 (va_A (mW cI cZ a z0) sz)) (F0 m 94 ls [.int s0, .ref (a 0)]) := by
    intro x1 x2 x3 s0 z H locs ls hl w h
    unfold pM_serve_J94 at h
    obtain ⟨z11, hz12, h⟩ := kb_st_of h
    refine kb_puti S w 0 rfl gM_123 (Nat.le_of_ble_eq_true rfl) (ws1 := mW cI cZ a z11) (by rw [hz12]; rfl) dM_serve_94 (fun H locs w => ?_)
    refine lv_aload_n S.1 S.2.1 dM_serve_97 rfl (lv_at hl 0 rfl) ?_
    refine kb_get S w 0 rfl fM_116 rfl dM_serve_98 ?_
    refine W.eq (g2 := F0 m 101 ls [.int (z11 0 5)]) rfl ?_
    refine lv_aload_n S.1 S.2.1 dM_serve_101 rfl (lv_at hl 0 rfl) ?_
    refine kb_get S w 0 rfl fM_40 rfl dM_serve_102 ?_
    refine W.eq (g2 := F0 m 105 ls [.ref (a 11), .int (z11 0 5)]) rfl ?_
    refine lv_iload_n S.1 S.2.1 dM_serve_105 rfl (lv_at hl 1 rfl) ?_
    obtain ⟨hi13, h⟩ := kb_ck_of h
    refine kb_iald S w 11 0 rfl rfl hi13 dM_serve_106 ?_
    refine W.eq (g2 := F0 m 107 ls [.int (z11 11 (kb_ix (x1))), .int (z11 0 5)]) rfl ?_
    refine lv_isub S.1 S.2.1 dM_serve_107 ?_
    refine lv_bipush (v := 32) S.1 S.2.1 dM_serve_108 (by decide) ?_
    refine lv_icmp_gt (tgt := 169) S.1 S.2.1 dM_serve_110 (by decide) (fun hc => ?_) (fun hc => ?_)
    · have h := (kb_brt hc).symm.trans h
      exact J169 x1 z11 _ _ _ (lv_sub hl [0, 1] rfl) w h
    · have h := (kb_brf hc).symm.trans h
      refine lv_aload_n S.1 S.2.1 dM_serve_113 rfl (lv_at hl 0 rfl) ?_
      refine kb_get S w 0 rfl fM_62 rfl dM_serve_114 ?_
      refine W.eq (g2 := F0 m 117 ls [.ref (a 18)]) rfl ?_
      refine lv_aload_n S.1 S.2.1 dM_serve_117 rfl (lv_at hl 0 rfl) ?_
      refine kb_get S w 0 rfl fM_40 rfl dM_serve_118 ?_
      refine W.eq (g2 := F0 m 121 ls [.ref (a 11), .ref (a 18)]) rfl ?_
      refine lv_iload_n S.1 S.2.1 dM_serve_121 rfl (lv_at hl 1 rfl) ?_
      obtain ⟨hi44, h⟩ := kb_ck_of h
      refine kb_iald S w 11 0 rfl rfl hi44 dM_serve_122 ?_
      refine W.eq (g2 := F0 m 123 ls [.int (z11 11 (kb_ix (x1))), .ref (a 18)]) rfl ?_
      refine lv_bipush (v := 32) S.1 S.2.1 dM_serve_123 (by decide) ?_
      refine lv_irem S.1 S.2.1 dM_serve_125 (by decide) ?_
      refine lv_aload_n S.1 S.2.1 dM_serve_126 rfl (lv_at hl 0 rfl) ?_
      refine kb_get S w 0 rfl fM_52 rfl dM_serve_127 ?_
      refine W.eq (g2 := F0 m 130 ls [.ref (a 15), .int ((z11 11 (kb_ix (x1))) - (z11 11 (kb_ix (x1))) / 32 * 32), .ref (a 18)]) rfl ?_
      refine lv_iload_n S.1 S.2.1 dM_serve_130 rfl (lv_at hl 1 rfl) ?_
      obtain ⟨hi45, h⟩ := kb_ck_of h
      refine kb_zald S w 15 1 rfl rfl hi45 dM_serve_131 ?_
      refine W.eq (g2 := F0 m 132 ls [.int (z11 15 (kb_ix (x1))), .int ((z11 11 (kb_ix (x1))) - (z11 11 (kb_ix (x1))) / 32 * 32), .ref (a 18)]) rfl ?_
      refine lv_if_eq (tgt := 139) S.1 S.2.1 dM_serve_132 (by decide) (fun hc => ?_) (fun hc => ?_)
      · have h := (kb_brt hc).symm.trans h
        refine lv_iload_n S.1 S.2.1 dM_serve_139 rfl (lv_at hl 3 rfl) ?_
        refine lv_aload_n S.1 S.2.1 dM_serve_140 rfl (lv_at hl 0 rfl) ?_
        refine kb_get S w 0 rfl fM_7 rfl dM_serve_141 ?_
        refine W.eq (g2 := F0 m 144 ls [.ref (a 1), .int x3, .int ((z11 11 (kb_ix (x1))) - (z11 11 (kb_ix (x1))) / 32 * 32), .ref (a 18)]) rfl ?_
        refine lv_bipush (v := 11) S.1 S.2.1 dM_serve_144 (by decide) ?_
        obtain ⟨hi46, h⟩ := kb_ck_of h
        refine kb_iald S w 1 0 rfl rfl hi46 dM_serve_146 ?_
        refine W.eq (g2 := F0 m 147 ls [.int (z11 1 (kb_ix (11))), .int x3, .int ((z11 11 (kb_ix (x1))) - (z11 11 (kb_ix (x1))) / 32 * 32), .ref (a 18)]) rfl ?_
        refine lv_iadd S.1 S.2.1 dM_serve_147 ?_
        exact J148 x1 x2 (x3 + (z11 1 (kb_ix (11)))) ((z11 11 (kb_ix (x1))) - (z11 11 (kb_ix (x1))) / 32 * 32) z11 _ _ _ (lv_sub hl [0, 1, 2] rfl) w h
      · have h := (kb_brf hc).symm.trans h
        refine lv_iload_n S.1 S.2.1 dM_serve_135 rfl (lv_at hl 3 rfl) ?_
        refine lv_goto (tgt := 148) S.1 S.2.1 dM_serve_136 (by decide) ?_
        exact J148 x1 x2 x3 ((z11 11 (kb_ix (x1))) - (z11 11 (kb_ix (x1))) / 32 * 32) z11 _ _ _ (lv_sub hl [0, 1, 2] rfl) w h
  have J64 : ∀ (x1 : Int32) (x2 : Int32) (x3 : Int32) (s0 : Int32) (s1 : Int32) (z : kb_S) (H : Heap) (locs : List Loc) (ls : Array Slot), lv_has ls 5 [(0, .ref (a 0)), (1, .int x1), (2, .int x2), (3, .int x3)] → kb_W D vwCl [(cI, .int), (cZ, .boolean)] A s H locs (mW cI cZ a z) → pM_serve_J64 x1 x2 x3 s0 s1 z = some (r, z') → W p l e rm_M_serve s m args below meth c H locs 0 0 (MQ below (kb_Qv D vwCl sz (mW cI cZ a z0) (mW cI cZ a z')) args s 0 0 (va_A (mW cI cZ a z0) sz)) (F0 m 64 ls [.int s0, .int s1, .ref (a 10)]) := by
    intro x1 x2 x3 s0 s1 z H locs ls hl w h
    unfold pM_serve_J64 at h
    obtain ⟨hi7, h⟩ := kb_ck_of h
    obtain ⟨z8, hz9, h⟩ := kb_st_of h
    refine kb_iast S w 10 0 rfl rfl hi7 (ws1 := mW cI cZ a z8) (by rw [hz9]; rfl) dM_serve_64 (fun H locs w => ?_)
    refine lv_aload_n S.1 S.2.1 dM_serve_65 rfl (lv_at hl 0 rfl) ?_
    refine lv_iload_n S.1 S.2.1 dM_serve_66 rfl (lv_at hl 3 rfl) ?_
    refine lv_aload_n S.1 S.2.1 dM_serve_67 rfl (lv_at hl 0 rfl) ?_
    refine kb_get S w 0 rfl fM_59 rfl dM_serve_68 ?_
    refine W.eq (g2 := F0 m 71 ls [.ref (a 17), .int x3, .ref (a 0)]) rfl ?_
    refine lv_iload_n S.1 S.2.1 dM_serve_71 rfl (lv_at hl 1 rfl) ?_
    obtain ⟨hi10, h⟩ := kb_ck_of h
    refine kb_iald S w 17 0 rfl rfl hi10 dM_serve_72 ?_
    refine W.eq (g2 := F0 m 73 ls [.int (z8 17 (kb_ix (x1))), .int x3, .ref (a 0)]) rfl ?_
    refine lv_isub S.1 S.2.1 dM_serve_73 ?_
    refine lv_aload_n S.1 S.2.1 dM_serve_74 rfl (lv_at hl 0 rfl) ?_
    refine kb_get S w 0 rfl fM_78 rfl dM_serve_75 ?_
    refine W.eq (g2 := F0 m 78 ls [.int (z8 0 3), .int (x3 - (z8 17 (kb_ix (x1)))), .ref (a 0)]) rfl ?_
    refine lv_icmp_lt (tgt := 90) S.1 S.2.1 dM_serve_78 (by decide) (fun hc => ?_) (fun hc => ?_)
    · have h := (kb_brt hc).symm.trans h
      refine lv_aload_n S.1 S.2.1 dM_serve_90 rfl (lv_at hl 0 rfl) ?_
      refine kb_get S w 0 rfl fM_123 rfl dM_serve_91 ?_
      refine W.eq (g2 := F0 m 94 ls [.int (z8 0 6), .ref (a 0)]) rfl ?_
      exact J94 x1 x2 x3 (z8 0 6) z8 _ _ _ (lv_sub hl [0, 1, 2, 3] rfl) w h
    · have h := (kb_brf hc).symm.trans h
      refine lv_aload_n S.1 S.2.1 dM_serve_81 rfl (lv_at hl 0 rfl) ?_
      refine kb_get S w 0 rfl fM_123 rfl dM_serve_82 ?_
      refine W.eq (g2 := F0 m 85 ls [.int (z8 0 6), .ref (a 0)]) rfl ?_
      refine lv_iconst (v := 1) S.1 S.2.1 dM_serve_85 (by decide) ?_
      refine lv_iadd S.1 S.2.1 dM_serve_86 ?_
      refine lv_goto (tgt := 94) S.1 S.2.1 dM_serve_87 (by decide) ?_
      exact J94 x1 x2 x3 ((z8 0 6) + 1) z8 _ _ _ (lv_sub hl [0, 1, 2, 3] rfl) w h
  refine lv_sipush (v := 128) S.1 S.2.1 dM_serve_0 (by decide) ?_
  refine lv_aload_n S.1 S.2.1 dM_serve_3 rfl (lv_at hl 0 rfl) ?_
  refine kb_get S w 0 rfl fM_43 rfl dM_serve_4 ?_
  refine W.eq (g2 := F0 m 7 ls [.ref (a 12), .int 128]) rfl ?_
  refine lv_iload_n S.1 S.2.1 dM_serve_7 rfl (lv_at hl 1 rfl) ?_
  obtain ⟨hi1, h⟩ := kb_ck_of h
  refine kb_iald S w 12 0 rfl rfl hi1 dM_serve_8 ?_
  refine W.eq (g2 := F0 m 9 ls [.int (z0 12 (kb_ix (x1))), .int 128]) rfl ?_
  refine lv_imul S.1 S.2.1 dM_serve_9 ?_
  refine lv_bipush (v := 8) S.1 S.2.1 dM_serve_10 (by decide) ?_
  refine lv_aload_n S.1 S.2.1 dM_serve_12 rfl (lv_at hl 0 rfl) ?_
  refine kb_get S w 0 rfl fM_46 rfl dM_serve_13 ?_
  refine W.eq (g2 := F0 m 16 ls [.ref (a 13), .int 8, .int (128 * (z0 12 (kb_ix (x1))))]) rfl ?_
  refine lv_iload_n S.1 S.2.1 dM_serve_16 rfl (lv_at hl 1 rfl) ?_
  obtain ⟨hi2, h⟩ := kb_ck_of h
  refine kb_iald S w 13 0 rfl rfl hi2 dM_serve_17 ?_
  refine W.eq (g2 := F0 m 18 ls [.int (z0 13 (kb_ix (x1))), .int 8, .int (128 * (z0 12 (kb_ix (x1))))]) rfl ?_
  refine lv_imul S.1 S.2.1 dM_serve_18 ?_
  refine lv_iadd S.1 S.2.1 dM_serve_19 ?_
  refine lv_aload_n S.1 S.2.1 dM_serve_20 rfl (lv_at hl 0 rfl) ?_
  refine kb_get S w 0 rfl fM_49 rfl dM_serve_21 ?_
  refine W.eq (g2 := F0 m 24 ls [.ref (a 14), .int ((128 * (z0 12 (kb_ix (x1)))) + (8 * (z0 13 (kb_ix (x1)))))]) rfl ?_
  refine lv_iload_n S.1 S.2.1 dM_serve_24 rfl (lv_at hl 1 rfl) ?_
  obtain ⟨hi3, h⟩ := kb_ck_of h
  refine kb_iald S w 14 0 rfl rfl hi3 dM_serve_25 ?_
  refine W.eq (g2 := F0 m 26 ls [.int (z0 14 (kb_ix (x1))), .int ((128 * (z0 12 (kb_ix (x1)))) + (8 * (z0 13 (kb_ix (x1)))))]) rfl ?_
  refine lv_iadd S.1 S.2.1 dM_serve_26 ?_
  refine lv_istore_n S.1 S.2.1 dM_serve_27 rfl hl (by decide) rfl (fun ls hl => ?_)
  have hl : lv_has ls 5 [(2, .int (((128 * (z0 12 (kb_ix (x1)))) + (8 * (z0 13 (kb_ix (x1))))) + (z0 14 (kb_ix (x1))))), (0, .ref (a 0)), (1, .int x1)] := hl
  refine lv_aload_n S.1 S.2.1 dM_serve_28 rfl (lv_at hl 1 rfl) ?_
  refine kb_get S w 0 rfl fM_34 rfl dM_serve_29 ?_
  refine W.eq (g2 := F0 m 32 ls [.ref (a 9)]) rfl ?_
  refine lv_iconst (v := 0) S.1 S.2.1 dM_serve_32 (by decide) ?_
  obtain ⟨hi4, h⟩ := kb_ck_of h
  refine kb_iald S w 9 0 rfl rfl hi4 dM_serve_33 ?_
  refine W.eq (g2 := F0 m 34 ls [.int (z0 9 (kb_ix (0)))]) rfl ?_
  refine lv_istore_n S.1 S.2.1 dM_serve_34 rfl hl (by decide) rfl (fun ls hl => ?_)
  have hl : lv_has ls 5 [(3, .int (z0 9 (kb_ix (0)))), (2, .int (((128 * (z0 12 (kb_ix (x1)))) + (8 * (z0 13 (kb_ix (x1))))) + (z0 14 (kb_ix (x1))))), (0, .ref (a 0)), (1, .int x1)] := hl
  refine lv_aload_n S.1 S.2.1 dM_serve_35 rfl (lv_at hl 2 rfl) ?_
  refine kb_get S w 0 rfl fM_37 rfl dM_serve_36 ?_
  refine W.eq (g2 := F0 m 39 ls [.ref (a 10)]) rfl ?_
  refine lv_iload_n S.1 S.2.1 dM_serve_39 rfl (lv_at hl 1 rfl) ?_
  refine lv_aload_n S.1 S.2.1 dM_serve_40 rfl (lv_at hl 2 rfl) ?_
  refine kb_get S w 0 rfl fM_52 rfl dM_serve_41 ?_
  refine W.eq (g2 := F0 m 44 ls [.ref (a 15), .int (((128 * (z0 12 (kb_ix (x1)))) + (8 * (z0 13 (kb_ix (x1))))) + (z0 14 (kb_ix (x1)))), .ref (a 10)]) rfl ?_
  refine lv_iload_n S.1 S.2.1 dM_serve_44 rfl (lv_at hl 3 rfl) ?_
  obtain ⟨hi5, h⟩ := kb_ck_of h
  refine kb_zald S w 15 1 rfl rfl hi5 dM_serve_45 ?_
  refine W.eq (g2 := F0 m 46 ls [.int (z0 15 (kb_ix (x1))), .int (((128 * (z0 12 (kb_ix (x1)))) + (8 * (z0 13 (kb_ix (x1))))) + (z0 14 (kb_ix (x1)))), .ref (a 10)]) rfl ?_
  refine lv_if_eq (tgt := 58) S.1 S.2.1 dM_serve_46 (by decide) (fun hc => ?_) (fun hc => ?_)
  · have h := (kb_brt hc).symm.trans h
    refine lv_aload_n S.1 S.2.1 dM_serve_58 rfl (lv_at hl 2 rfl) ?_
    refine kb_get S w 0 rfl fM_37 rfl dM_serve_59 ?_
    refine W.eq (g2 := F0 m 62 ls [.ref (a 10), .int (((128 * (z0 12 (kb_ix (x1)))) + (8 * (z0 13 (kb_ix (x1))))) + (z0 14 (kb_ix (x1)))), .ref (a 10)]) rfl ?_
    refine lv_iload_n S.1 S.2.1 dM_serve_62 rfl (lv_at hl 1 rfl) ?_
    obtain ⟨hi6, h⟩ := kb_ck_of h
    refine kb_iald S w 10 0 rfl rfl hi6 dM_serve_63 ?_
    refine W.eq (g2 := F0 m 64 ls [.int (z0 10 (kb_ix (((128 * (z0 12 (kb_ix (x1)))) + (8 * (z0 13 (kb_ix (x1))))) + (z0 14 (kb_ix (x1)))))), .int (((128 * (z0 12 (kb_ix (x1)))) + (8 * (z0 13 (kb_ix (x1))))) + (z0 14 (kb_ix (x1)))), .ref (a 10)]) rfl ?_
    exact J64 x1 (((128 * (z0 12 (kb_ix (x1)))) + (8 * (z0 13 (kb_ix (x1))))) + (z0 14 (kb_ix (x1)))) (z0 9 (kb_ix (0))) (z0 10 (kb_ix (((128 * (z0 12 (kb_ix (x1)))) + (8 * (z0 13 (kb_ix (x1))))) + (z0 14 (kb_ix (x1)))))) (((128 * (z0 12 (kb_ix (x1)))) + (8 * (z0 13 (kb_ix (x1))))) + (z0 14 (kb_ix (x1)))) z0 _ _ _ (lv_sub hl [2, 3, 1, 0] rfl) w h
  · have h := (kb_brf hc).symm.trans h
    refine lv_aload_n S.1 S.2.1 dM_serve_49 rfl (lv_at hl 2 rfl) ?_
    refine kb_get S w 0 rfl fM_56 rfl dM_serve_50 ?_
    refine W.eq (g2 := F0 m 53 ls [.ref (a 16), .int (((128 * (z0 12 (kb_ix (x1)))) + (8 * (z0 13 (kb_ix (x1))))) + (z0 14 (kb_ix (x1)))), .ref (a 10)]) rfl ?_
    refine lv_iload_n S.1 S.2.1 dM_serve_53 rfl (lv_at hl 3 rfl) ?_
    obtain ⟨hi55, h⟩ := kb_ck_of h
    refine kb_iald S w 16 0 rfl rfl hi55 dM_serve_54 ?_
    refine W.eq (g2 := F0 m 55 ls [.int (z0 16 (kb_ix (x1))), .int (((128 * (z0 12 (kb_ix (x1)))) + (8 * (z0 13 (kb_ix (x1))))) + (z0 14 (kb_ix (x1)))), .ref (a 10)]) rfl ?_
    refine lv_goto (tgt := 64) S.1 S.2.1 dM_serve_55 (by decide) ?_
    exact J64 x1 (((128 * (z0 12 (kb_ix (x1)))) + (8 * (z0 13 (kb_ix (x1))))) + (z0 14 (kb_ix (x1)))) (z0 9 (kb_ix (0))) (z0 16 (kb_ix (x1))) (((128 * (z0 12 (kb_ix (x1)))) + (8 * (z0 13 (kb_ix (x1))))) + (z0 14 (kb_ix (x1)))) z0 _ _ _ (lv_sub hl [2, 3, 1, 0] rfl) w h
