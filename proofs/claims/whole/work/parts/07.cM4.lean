set_option maxHeartbeats 4000000 in
set_option maxRecDepth 100000 in
theorem cM_tick (l : Launch) (D : va_G) (cI cZ : ClassId) (a : Nat → Nat) (z0 z' : kb_S) (r : Int32) (sz : Nat) (h : pM_tick  z0 = some (r, z')) : Met l y_M_tick (Cond.code y_M_tick c_M_tick 1 (some .int) :: wsB) rm_M_tick (kb_Pc D vwCl [(cI, .int), (cZ, .boolean)] sz [.ref (a 0)] (mW cI cZ a z0)) (kb_Qi D vwCl sz (mW cI cZ a z0) r (mW cI cZ a z')) 0 0 (va_A (mW cI cZ a z0) sz) := by
  refine kb_start (by decide) rfl (Nat.le_of_ble_eq_true rfl) ?_
  intro p e s m args below meth c A ls S hr hlk hsz hA w hl
  have hl : lv_has ls 1 [(0, .ref (a 0))] := hl
  unfold pM_tick at h
  refine lv_aload_n S.1 S.2.1 dM_tick_0 rfl (lv_at hl 0 rfl) ?_
  refine lv_iconst (v := 0) S.1 S.2.1 dM_tick_1 (by decide) ?_
  obtain ⟨z1, hz2, h⟩ := kb_st_of h
  refine kb_puti S w 0 rfl gM_81 (Nat.le_of_ble_eq_true rfl) (ws1 := mW cI cZ a z1) (by rw [hz2]; rfl) dM_tick_2 (fun H locs w => ?_)
  refine lv_aload_n S.1 S.2.1 dM_tick_5 rfl (lv_at hl 0 rfl) ?_
  obtain ⟨r4, z3, hc5, h⟩ := kb_cl_of h
  refine kb_calli (As := []) (rest := []) (q0 := 0) (ci := 3) S w (fun sz => cM_cycle l D cI cZ a _ _ _ sz  hc5) Y_M_cycle I_M_cycle S_M_cycle lM_153 ⟨rfl, rfl, Nat.le_of_ble_eq_true rfl, Nat.le_of_ble_eq_true rfl⟩ rfl rfl rfl rfl hl.1 rfl (Nat.le_of_ble_eq_true rfl) dM_tick_6 ⟨Nat.le_of_ble_eq_true rfl, Nat.le_of_ble_eq_true rfl⟩ (fun H locs w => ?_)
  exact kb_iret (mW cI cZ a) S hr hlk hA w h dM_tick_9
set_option maxHeartbeats 4000000 in
set_option maxRecDepth 100000 in
theorem cM_run (l : Launch) (D : va_G) (cI cZ : ClassId) (a : Nat → Nat) (z0 z' : kb_S) (r : Int32) (sz : Nat) (x1 : Int32) (h : pM_run x1 z0 = some (r, z')) : Met l y_M_run (Cond.code y_M_run c_M_run 5 (some .int) :: wsB) rm_M_run (kb_Pc D vwCl [(cI, .int), (cZ, .boolean)] sz [.ref (a 0), .int x1] (mW cI cZ a z0)) (kb_Qi D vwCl sz (mW cI cZ a z0) r (mW cI cZ a z')) 0 0 (va_A (mW cI cZ a z0) sz) := by
  refine kb_start (by decide) rfl (Nat.le_of_ble_eq_true rfl) ?_
  intro p e s m args below meth c A ls S hr hlk hsz hA w hl
  have hl : lv_has ls 5 [(0, .ref (a 0)), (1, .int x1)] := hl
  unfold pM_run at h
  have L24 : ∀ (n : Nat) (x1 : Int32) (x2 : Int32) (x3 : Int32) (z : kb_S) (H : Heap) (locs : List Loc) (ls : Array Slot), lv_has ls 5 [(0, .ref (a 0)), (1, .int x1), (2, .int x2), (3, .int x3)] → kb_W D vwCl [(cI, .int), (cZ, .boolean)] A s H locs (mW cI cZ a z) → pM_run_L24 n x1 x2 x3 z = some (r, z') → W p l e rm_M_run s m args below meth c H locs 0 0 (MQ below (kb_Qi D vwCl sz (mW cI cZ a z0) r (mW cI cZ a z')) args s 0 0 (va_A (mW cI cZ a z0) sz)) (F0 m 24 ls []) := by
    intro n
    induction n with
    | zero =>
      intro x1 x2 x3 z H locs ls hl w h
      exact absurd h (by simp [pM_run_L24])
    | succ n ih =>
      intro x1 x2 x3 z H locs ls hl w h
      rw [pM_run_L24] at h
      refine lv_iload_n S.1 S.2.1 dM_run_24 rfl (lv_at hl 3 rfl) ?_
      refine lv_iload_n S.1 S.2.1 dM_run_25 rfl (lv_at hl 1 rfl) ?_
      refine lv_icmp_ge (tgt := 61) S.1 S.2.1 dM_run_26 (by decide) (fun hc => ?_) (fun hc => ?_)
      · have h := (kb_brt hc).symm.trans h
        refine lv_iload_n S.1 S.2.1 dM_run_61 rfl (lv_at hl 2 rfl) ?_
        exact kb_iret (mW cI cZ a) S hr hlk hA w h dM_run_62
      · have h := (kb_brf hc).symm.trans h
        refine lv_aload_n S.1 S.2.1 dM_run_29 rfl (lv_at hl 0 rfl) ?_
        refine kb_get S w 0 rfl fM_81 rfl dM_run_30 ?_
        refine W.eq (g2 := F0 m 33 ls [.int (z 0 0)]) rfl ?_
        refine lv_if_ne (tgt := 61) S.1 S.2.1 dM_run_33 (by decide) (fun hc => ?_) (fun hc => ?_)
        · have h := (kb_brf hc).symm.trans h
          refine lv_iload_n S.1 S.2.1 dM_run_61 rfl (lv_at hl 2 rfl) ?_
          exact kb_iret (mW cI cZ a) S hr hlk hA w h dM_run_62
        · have h := (kb_brt hc).symm.trans h
          refine lv_aload_n S.1 S.2.1 dM_run_36 rfl (lv_at hl 0 rfl) ?_
          obtain ⟨r4, z3, hc5, h⟩ := kb_cl_of h
          refine kb_calli (As := []) (rest := []) (q0 := 0) (ci := 3) S w (fun sz => cM_cycle l D cI cZ a _ _ _ sz  hc5) Y_M_cycle I_M_cycle S_M_cycle lM_153 ⟨rfl, rfl, Nat.le_of_ble_eq_true rfl, Nat.le_of_ble_eq_true rfl⟩ rfl rfl rfl rfl hl.1 rfl (Nat.le_of_ble_eq_true rfl) dM_run_37 ⟨Nat.le_of_ble_eq_true rfl, Nat.le_of_ble_eq_true rfl⟩ (fun H locs w => ?_)
          refine lv_istore S.1 S.2.1 dM_run_40 hl (by decide) rfl (fun ls hl => ?_)
          have hl : lv_has ls 5 [(4, .int r4), (0, .ref (a 0)), (1, .int x1), (2, .int x2), (3, .int x3)] := hl
          refine lv_iload S.1 S.2.1 dM_run_42 (lv_at hl 0 rfl) ?_
          refine lv_if_le (tgt := 53) S.1 S.2.1 dM_run_44 (by decide) (fun hc => ?_) (fun hc => ?_)
          · have h := (kb_brt hc).symm.trans h
            refine lv_iload_n S.1 S.2.1 dM_run_53 rfl (lv_at hl 3 rfl) ?_
            refine lv_istore_n S.1 S.2.1 dM_run_54 rfl hl (by decide) rfl (fun ls hl => ?_)
            have hl : lv_has ls 5 [(2, .int x2), (4, .int r4), (0, .ref (a 0)), (1, .int x1), (3, .int x3)] := hl
            refine lv_iinc (v := x3 + 1) (k := 4) S.1 S.2.1 dM_run_55 hl rfl rfl (by decide) rfl (fun ls hl => ?_)
            have hl : lv_has ls 5 [(3, .int (x3 + 1)), (2, .int x2), (4, .int r4), (0, .ref (a 0)), (1, .int x1)] := hl
            refine lv_goto (tgt := 24) S.1 S.2.1 dM_run_58 (by decide) ?_
            exact ih x1 x2 (x3 + 1) z3 _ _ _ (lv_sub hl [3, 4, 1, 0] rfl) w h
          · have h := (kb_brf hc).symm.trans h
            refine lv_iload_n S.1 S.2.1 dM_run_47 rfl (lv_at hl 3 rfl) ?_
            refine lv_iconst (v := 1) S.1 S.2.1 dM_run_48 (by decide) ?_
            refine lv_iadd S.1 S.2.1 dM_run_49 ?_
            refine lv_goto (tgt := 54) S.1 S.2.1 dM_run_50 (by decide) ?_
            refine lv_istore_n S.1 S.2.1 dM_run_54 rfl hl (by decide) rfl (fun ls hl => ?_)
            have hl : lv_has ls 5 [(2, .int (x2 + 1)), (4, .int r4), (0, .ref (a 0)), (1, .int x1), (3, .int x3)] := hl
            refine lv_iinc (v := x3 + 1) (k := 4) S.1 S.2.1 dM_run_55 hl rfl rfl (by decide) rfl (fun ls hl => ?_)
            have hl : lv_has ls 5 [(3, .int (x3 + 1)), (2, .int (x2 + 1)), (4, .int r4), (0, .ref (a 0)), (1, .int x1)] := hl
            refine lv_goto (tgt := 24) S.1 S.2.1 dM_run_58 (by decide) ?_
            exact ih x1 (x2 + 1) (x3 + 1) z3 _ _ _ (lv_sub hl [3, 4, 1, 0] rfl) w h
  refine lv_aload_n S.1 S.2.1 dM_run_0 rfl (lv_at hl 0 rfl) ?_
  refine lv_iload_n S.1 S.2.1 dM_run_1 rfl (lv_at hl 1 rfl) ?_
  refine lv_if_lt (tgt := 12) S.1 S.2.1 dM_run_2 (by decide) (fun hc => ?_) (fun hc => ?_)
  · have h := (kb_brt hc).symm.trans h
    refine lv_iconst (v := 1) S.1 S.2.1 dM_run_12 (by decide) ?_
    refine lv_goto (tgt := 17) S.1 S.2.1 dM_run_13 (by decide) ?_
    obtain ⟨z1, hz2, h⟩ := kb_st_of h
    refine kb_puti S w 0 rfl gM_81 (Nat.le_of_ble_eq_true rfl) (ws1 := mW cI cZ a z1) (by rw [hz2]; rfl) dM_run_17 (fun H locs w => ?_)
    refine lv_iconst (v := 0) S.1 S.2.1 dM_run_20 (by decide) ?_
    refine lv_istore_n S.1 S.2.1 dM_run_21 rfl hl (by decide) rfl (fun ls hl => ?_)
    have hl : lv_has ls 5 [(2, .int 0), (0, .ref (a 0)), (1, .int x1)] := hl
    refine lv_iconst (v := 0) S.1 S.2.1 dM_run_22 (by decide) ?_
    refine lv_istore_n S.1 S.2.1 dM_run_23 rfl hl (by decide) rfl (fun ls hl => ?_)
    have hl : lv_has ls 5 [(3, .int 0), (2, .int 0), (0, .ref (a 0)), (1, .int x1)] := hl
    exact L24 3000 x1 0 0 z1 _ _ _ (lv_sub hl [2, 3, 1, 0] rfl) w h
  · have h := (kb_brf hc).symm.trans h
    refine lv_iload_n S.1 S.2.1 dM_run_5 rfl (lv_at hl 1 rfl) ?_
    refine lv_sipush (v := 2000) S.1 S.2.1 dM_run_6 (by decide) ?_
    refine lv_icmp_le (tgt := 16) S.1 S.2.1 dM_run_9 (by decide) (fun hc => ?_) (fun hc => ?_)
    · have h := (kb_brt hc).symm.trans h
      refine lv_iconst (v := 0) S.1 S.2.1 dM_run_16 (by decide) ?_
      obtain ⟨z6, hz7, h⟩ := kb_st_of h
      refine kb_puti S w 0 rfl gM_81 (Nat.le_of_ble_eq_true rfl) (ws1 := mW cI cZ a z6) (by rw [hz7]; rfl) dM_run_17 (fun H locs w => ?_)
      refine lv_iconst (v := 0) S.1 S.2.1 dM_run_20 (by decide) ?_
      refine lv_istore_n S.1 S.2.1 dM_run_21 rfl hl (by decide) rfl (fun ls hl => ?_)
      have hl : lv_has ls 5 [(2, .int 0), (0, .ref (a 0)), (1, .int x1)] := hl
      refine lv_iconst (v := 0) S.1 S.2.1 dM_run_22 (by decide) ?_
      refine lv_istore_n S.1 S.2.1 dM_run_23 rfl hl (by decide) rfl (fun ls hl => ?_)
      have hl : lv_has ls 5 [(3, .int 0), (2, .int 0), (0, .ref (a 0)), (1, .int x1)] := hl
      exact L24 3000 x1 0 0 z6 _ _ _ (lv_sub hl [2, 3, 1, 0] rfl) w h
    · have h := (kb_brf hc).symm.trans h
      refine lv_iconst (v := 1) S.1 S.2.1 dM_run_12 (by decide) ?_
      refine lv_goto (tgt := 17) S.1 S.2.1 dM_run_13 (by decide) ?_
      obtain ⟨z8, hz9, h⟩ := kb_st_of h
      refine kb_puti S w 0 rfl gM_81 (Nat.le_of_ble_eq_true rfl) (ws1 := mW cI cZ a z8) (by rw [hz9]; rfl) dM_run_17 (fun H locs w => ?_)
      refine lv_iconst (v := 0) S.1 S.2.1 dM_run_20 (by decide) ?_
      refine lv_istore_n S.1 S.2.1 dM_run_21 rfl hl (by decide) rfl (fun ls hl => ?_)
      have hl : lv_has ls 5 [(2, .int 0), (0, .ref (a 0)), (1, .int x1)] := hl
      refine lv_iconst (v := 0) S.1 S.2.1 dM_run_22 (by decide) ?_
      refine lv_istore_n S.1 S.2.1 dM_run_23 rfl hl (by decide) rfl (fun ls hl => ?_)
      have hl : lv_has ls 5 [(3, .int 0), (2, .int 0), (0, .ref (a 0)), (1, .int x1)] := hl
      exact L24 3000 x1 0 0 z8 _ _ _ (lv_sub hl [2, 3, 1, 0] rfl) w h
set_option maxHeartbeats 4000000 in
set_option maxRecDepth 100000 in
theorem cM_result (l : Launch) (D : va_G) (cI cZ : ClassId) (a : Nat → Nat) (z0 z' : kb_S) (r : Int32) (sz : Nat) (x1 : Int32) (h : pM_result x1 z0 = some (r, z')) : Met l y_M_result (Cond.code y_M_result c_M_result 3 (some .int) :: wsB) rm_M_result (kb_Pc D vwCl [(cI, .int), (cZ, .boolean)] sz [.ref (a 0), .int x1] (mW cI cZ a z0)) (kb_Qi D vwCl sz (mW cI cZ a z0) r (mW cI cZ a z')) 0 0 (va_A (mW cI cZ a z0) sz) := by
  refine kb_start (by decide) rfl (Nat.le_of_ble_eq_true rfl) ?_
  intro p e s m args below meth c A ls S hr hlk hsz hA w hl
  have hl : lv_has ls 3 [(0, .ref (a 0)), (1, .int x1)] := hl
  unfold pM_result at h
  have J71 : ∀ (x1 : Int32) (s0 : Int32) (z : kb_S) (H : Heap) (locs : List Loc) (ls : Array Slot), lv_has ls 3 [(0, .ref (a 0)), (1, .int x1)] → kb_W D vwCl [(cI, .int), (cZ, .boolean)] A s H locs (mW cI cZ a z) → pM_result_J71 x1 s0 z = some (r, z') → W p l e rm_M_result s m args below meth c H locs 0 0 (MQ below (kb_Qi D vwCl sz (mW cI cZ a z0) r (mW cI cZ a z')) args s 0 0 (va_A (mW cI cZ a z0) sz)) (F0 m 71 ls [.int s0, .ref (a 0)]) := by
    intro x1 s0 z H locs ls hl w h
    unfold pM_result_J71 at h
    obtain ⟨z4, hz5, h⟩ := kb_st_of h
    refine kb_puti S w 0 rfl gM_81 (Nat.le_of_ble_eq_true rfl) (ws1 := mW cI cZ a z4) (by rw [hz5]; rfl) dM_result_71 (fun H locs w => ?_)
    refine lv_aload_n S.1 S.2.1 dM_result_74 rfl (lv_at hl 0 rfl) ?_
    refine kb_get S w 0 rfl fM_81 rfl dM_result_75 ?_
    refine W.eq (g2 := F0 m 78 ls [.int (z4 0 0)]) rfl ?_
    refine lv_if_ne (tgt := 93) S.1 S.2.1 dM_result_78 (by decide) (fun hc => ?_) (fun hc => ?_)
    · have h := (kb_brf hc).symm.trans h
      refine lv_iconst (v := 0) S.1 S.2.1 dM_result_93 (by decide) ?_
      exact kb_iret (mW cI cZ a) S hr hlk hA w h dM_result_94
    · have h := (kb_brt hc).symm.trans h
      refine lv_aload_n S.1 S.2.1 dM_result_81 rfl (lv_at hl 0 rfl) ?_
      refine kb_get S w 0 rfl fM_65 rfl dM_result_82 ?_
      refine W.eq (g2 := F0 m 85 ls [.ref (a 19)]) rfl ?_
      refine lv_iload_n S.1 S.2.1 dM_result_85 rfl (lv_at hl 1 rfl) ?_
      refine lv_bipush (v := 32) S.1 S.2.1 dM_result_86 (by decide) ?_
      refine lv_irem S.1 S.2.1 dM_result_88 (by decide) ?_
      obtain ⟨hi6, h⟩ := kb_ck_of h
      refine kb_iald S w 19 0 rfl rfl hi6 dM_result_89 ?_
      refine W.eq (g2 := F0 m 90 ls [.int (z4 19 (kb_ix (x1 - x1 / 32 * 32)))]) rfl ?_
      refine lv_goto (tgt := 94) S.1 S.2.1 dM_result_90 (by decide) ?_
      exact kb_iret (mW cI cZ a) S hr hlk hA w h dM_result_94
  have J66 : ∀ (x1 : Int32) (z : kb_S) (H : Heap) (locs : List Loc) (ls : Array Slot), lv_has ls 3 [(0, .ref (a 0)), (1, .int x1)] → kb_W D vwCl [(cI, .int), (cZ, .boolean)] A s H locs (mW cI cZ a z) → pM_result_J66 x1 z = some (r, z') → W p l e rm_M_result s m args below meth c H locs 0 0 (MQ below (kb_Qi D vwCl sz (mW cI cZ a z0) r (mW cI cZ a z')) args s 0 0 (va_A (mW cI cZ a z0) sz)) (F0 m 66 ls [.ref (a 0)]) := by
    intro x1 z H locs ls hl w h
    unfold pM_result_J66 at h
    refine lv_iconst (v := 2) S.1 S.2.1 dM_result_66 (by decide) ?_
    refine lv_goto (tgt := 71) S.1 S.2.1 dM_result_67 (by decide) ?_
    exact J71 x1 2 z _ _ _ (lv_sub hl [0, 1] rfl) w h
  have J29 : ∀ (x1 : Int32) (s0 : Int32) (z : kb_S) (H : Heap) (locs : List Loc) (ls : Array Slot), lv_has ls 3 [(0, .ref (a 0)), (1, .int x1)] → kb_W D vwCl [(cI, .int), (cZ, .boolean)] A s H locs (mW cI cZ a z) → pM_result_J29 x1 s0 z = some (r, z') → W p l e rm_M_result s m args below meth c H locs 0 0 (MQ below (kb_Qi D vwCl sz (mW cI cZ a z0) r (mW cI cZ a z')) args s 0 0 (va_A (mW cI cZ a z0) sz)) (F0 m 29 ls [.int s0, .ref (a 0)]) := by
    intro x1 s0 z H locs ls hl w h
    unfold pM_result_J29 at h
    obtain ⟨z1, hz2, h⟩ := kb_st_of h
    refine kb_puti S w 0 rfl gM_81 (Nat.le_of_ble_eq_true rfl) (ws1 := mW cI cZ a z1) (by rw [hz2]; rfl) dM_result_29 (fun H locs w => ?_)
    refine lv_aload_n S.1 S.2.1 dM_result_32 rfl (lv_at hl 0 rfl) ?_
    refine kb_get S w 0 rfl fM_81 rfl dM_result_33 ?_
    refine W.eq (g2 := F0 m 36 ls [.int (z1 0 0)]) rfl ?_
    refine lv_if_eq (tgt := 41) S.1 S.2.1 dM_result_36 (by decide) (fun hc => ?_) (fun hc => ?_)
    · have h := (kb_brt hc).symm.trans h
      refine lv_aload_n S.1 S.2.1 dM_result_41 rfl (lv_at hl 0 rfl) ?_
      refine kb_get S w 0 rfl fM_62 rfl dM_result_42 ?_
      refine W.eq (g2 := F0 m 45 ls [.ref (a 18)]) rfl ?_
      refine lv_iload_n S.1 S.2.1 dM_result_45 rfl (lv_at hl 1 rfl) ?_
      refine lv_bipush (v := 32) S.1 S.2.1 dM_result_46 (by decide) ?_
      refine lv_irem S.1 S.2.1 dM_result_48 (by decide) ?_
      obtain ⟨hi3, h⟩ := kb_ck_of h
      refine kb_iald S w 18 0 rfl rfl hi3 dM_result_49 ?_
      refine W.eq (g2 := F0 m 50 ls [.int (z1 18 (kb_ix (x1 - x1 / 32 * 32)))]) rfl ?_
      refine lv_istore_n S.1 S.2.1 dM_result_50 rfl hl (by decide) rfl (fun ls hl => ?_)
      have hl : lv_has ls 3 [(2, .int (z1 18 (kb_ix (x1 - x1 / 32 * 32)))), (0, .ref (a 0)), (1, .int x1)] := hl
      refine lv_aload_n S.1 S.2.1 dM_result_51 rfl (lv_at hl 1 rfl) ?_
      refine lv_iload_n S.1 S.2.1 dM_result_52 rfl (lv_at hl 0 rfl) ?_
      refine lv_if_lt (tgt := 66) S.1 S.2.1 dM_result_53 (by decide) (fun hc => ?_) (fun hc => ?_)
      · have h := (kb_brt hc).symm.trans h
        exact J66 x1 z1 _ _ _ (lv_sub hl [1, 2] rfl) w h
      · have h := (kb_brf hc).symm.trans h
        refine lv_aload_n S.1 S.2.1 dM_result_56 rfl (lv_at hl 1 rfl) ?_
        refine kb_get S w 0 rfl fM_34 rfl dM_result_57 ?_
        refine W.eq (g2 := F0 m 60 ls [.ref (a 9), .ref (a 0)]) rfl ?_
        refine lv_iconst (v := 0) S.1 S.2.1 dM_result_60 (by decide) ?_
        obtain ⟨hi7, h⟩ := kb_ck_of h
        refine kb_iald S w 9 0 rfl rfl hi7 dM_result_61 ?_
        refine W.eq (g2 := F0 m 62 ls [.int (z1 9 (kb_ix (0))), .ref (a 0)]) rfl ?_
        refine lv_iload_n S.1 S.2.1 dM_result_62 rfl (lv_at hl 0 rfl) ?_
        refine lv_icmp_gt (tgt := 70) S.1 S.2.1 dM_result_63 (by decide) (fun hc => ?_) (fun hc => ?_)
        · have h := (kb_brt hc).symm.trans h
          refine lv_iconst (v := 0) S.1 S.2.1 dM_result_70 (by decide) ?_
          exact J71 x1 0 z1 _ _ _ (lv_sub hl [1, 2] rfl) w h
        · have h := (kb_brf hc).symm.trans h
          exact J66 x1 z1 _ _ _ (lv_sub hl [1, 2] rfl) w h
    · have h := (kb_brf hc).symm.trans h
      refine lv_iconst (v := 0) S.1 S.2.1 dM_result_39 (by decide) ?_
      exact kb_iret (mW cI cZ a) S hr hlk hA w h dM_result_40
  have J24 : ∀ (x1 : Int32) (z : kb_S) (H : Heap) (locs : List Loc) (ls : Array Slot), lv_has ls 3 [(0, .ref (a 0)), (1, .int x1)] → kb_W D vwCl [(cI, .int), (cZ, .boolean)] A s H locs (mW cI cZ a z) → pM_result_J24 x1 z = some (r, z') → W p l e rm_M_result s m args below meth c H locs 0 0 (MQ below (kb_Qi D vwCl sz (mW cI cZ a z0) r (mW cI cZ a z')) args s 0 0 (va_A (mW cI cZ a z0) sz)) (F0 m 24 ls [.ref (a 0)]) := by
    intro x1 z H locs ls hl w h
    unfold pM_result_J24 at h
    refine lv_iconst (v := 1) S.1 S.2.1 dM_result_24 (by decide) ?_
    refine lv_goto (tgt := 29) S.1 S.2.1 dM_result_25 (by decide) ?_
    exact J29 x1 1 z _ _ _ (lv_sub hl [0, 1] rfl) w h
  refine lv_aload_n S.1 S.2.1 dM_result_0 rfl (lv_at hl 0 rfl) ?_
  refine lv_iload_n S.1 S.2.1 dM_result_1 rfl (lv_at hl 1 rfl) ?_
  refine lv_if_lt (tgt := 24) S.1 S.2.1 dM_result_2 (by decide) (fun hc => ?_) (fun hc => ?_)
  · have h := (kb_brt hc).symm.trans h
    exact J24 x1 z0 _ _ _ (lv_sub hl [0, 1] rfl) w h
  · have h := (kb_brf hc).symm.trans h
    refine lv_iload_n S.1 S.2.1 dM_result_5 rfl (lv_at hl 1 rfl) ?_
    refine lv_aload_n S.1 S.2.1 dM_result_6 rfl (lv_at hl 0 rfl) ?_
    refine kb_get S w 0 rfl fM_116 rfl dM_result_7 ?_
    refine W.eq (g2 := F0 m 10 ls [.int (z0 0 5), .int x1, .ref (a 0)]) rfl ?_
    refine lv_icmp_ge (tgt := 24) S.1 S.2.1 dM_result_10 (by decide) (fun hc => ?_) (fun hc => ?_)
    · have h := (kb_brt hc).symm.trans h
      exact J24 x1 z0 _ _ _ (lv_sub hl [0, 1] rfl) w h
    · have h := (kb_brf hc).symm.trans h
      refine lv_aload_n S.1 S.2.1 dM_result_13 rfl (lv_at hl 0 rfl) ?_
      refine kb_get S w 0 rfl fM_116 rfl dM_result_14 ?_
      refine W.eq (g2 := F0 m 17 ls [.int (z0 0 5), .ref (a 0)]) rfl ?_
      refine lv_iload_n S.1 S.2.1 dM_result_17 rfl (lv_at hl 1 rfl) ?_
      refine lv_isub S.1 S.2.1 dM_result_18 ?_
      refine lv_bipush (v := 32) S.1 S.2.1 dM_result_19 (by decide) ?_
      refine lv_icmp_le (tgt := 28) S.1 S.2.1 dM_result_21 (by decide) (fun hc => ?_) (fun hc => ?_)
      · have h := (kb_brt hc).symm.trans h
        refine lv_iconst (v := 0) S.1 S.2.1 dM_result_28 (by decide) ?_
        exact J29 x1 0 z0 _ _ _ (lv_sub hl [0, 1] rfl) w h
      · have h := (kb_brf hc).symm.trans h
        exact J24 x1 z0 _ _ _ (lv_sub hl [0, 1] rfl) w h
set_option maxHeartbeats 4000000 in
set_option maxRecDepth 100000 in
theorem cM_word (l : Launch) (D : va_G) (cI cZ : ClassId) (a : Nat → Nat) (z0 z' : kb_S) (r : Int32) (sz : Nat) (x1 : Int32) (x2 : Int32) (x3 : Int32) (h : pM_word x1 x2 x3 z0 = some (r, z')) : Met l y_M_word (Cond.code y_M_word c_M_word 4 (some .int) :: wsB) rm_M_word (kb_Pc D vwCl [(cI, .int), (cZ, .boolean)] sz [.ref (a 0), .int x1, .int x2, .int x3] (mW cI cZ a z0)) (kb_Qi D vwCl sz (mW cI cZ a z0) r (mW cI cZ a z')) 0 0 (va_A (mW cI cZ a z0) sz) := by
  refine kb_start (by decide) rfl (Nat.le_of_ble_eq_true rfl) ?_
  intro p e s m args below meth c A ls S hr hlk hsz hA w hl
  have hl : lv_has ls 4 [(0, .ref (a 0)), (1, .int x1), (2, .int x2), (3, .int x3)] := hl
  unfold pM_word at h
  have J16 : ∀ (x1 : Int32) (x2 : Int32) (x3 : Int32) (s0 : Int32) (z : kb_S) (H : Heap) (locs : List Loc) (ls : Array Slot), lv_has ls 4 [(0, .ref (a 0)), (1, .int x1), (2, .int x2), (3, .int x3)] → kb_W D vwCl [(cI, .int), (cZ, .boolean)] A s H locs (mW cI cZ a z) → pM_word_J16 x1 x2 x3 s0 z = some (r, z') → W p l e rm_M_word s m args below meth c H locs 0 0 (MQ below (kb_Qi D vwCl sz (mW cI cZ a z0) r (mW cI cZ a z')) args s 0 0 (va_A (mW cI cZ a z0) sz)) (F0 m 16 ls [.int s0, .ref (a 0)]) := by
    intro x1 x2 x3 s0 z H locs ls hl w h
    unfold pM_word_J16 at h
    obtain ⟨z4, hz5, h⟩ := kb_st_of h
    refine kb_puti S w 0 rfl gM_81 (Nat.le_of_ble_eq_true rfl) (ws1 := mW cI cZ a z4) (by rw [hz5]; rfl) dM_word_16 (fun H locs w => ?_)
    refine lv_aload_n S.1 S.2.1 dM_word_19 rfl (lv_at hl 0 rfl) ?_
    refine kb_get S w 0 rfl fM_81 rfl dM_word_20 ?_
    refine W.eq (g2 := F0 m 23 ls [.int (z4 0 0)]) rfl ?_
    refine lv_if_ne (tgt := 46) S.1 S.2.1 dM_word_23 (by decide) (fun hc => ?_) (fun hc => ?_)
    · have h := (kb_brf hc).symm.trans h
      refine lv_iconst (v := 0) S.1 S.2.1 dM_word_46 (by decide) ?_
      exact kb_iret (mW cI cZ a) S hr hlk hA w h dM_word_47
    · have h := (kb_brt hc).symm.trans h
      refine lv_aload_n S.1 S.2.1 dM_word_26 rfl (lv_at hl 0 rfl) ?_
      refine kb_get S w 0 rfl fM_37 rfl dM_word_27 ?_
      refine W.eq (g2 := F0 m 30 ls [.ref (a 10)]) rfl ?_
      refine lv_sipush (v := 128) S.1 S.2.1 dM_word_30 (by decide) ?_
      refine lv_iload_n S.1 S.2.1 dM_word_33 rfl (lv_at hl 1 rfl) ?_
      refine lv_imul S.1 S.2.1 dM_word_34 ?_
      refine lv_bipush (v := 8) S.1 S.2.1 dM_word_35 (by decide) ?_
      refine lv_iload_n S.1 S.2.1 dM_word_37 rfl (lv_at hl 2 rfl) ?_
      refine lv_imul S.1 S.2.1 dM_word_38 ?_
      refine lv_iadd S.1 S.2.1 dM_word_39 ?_
      refine lv_iload_n S.1 S.2.1 dM_word_40 rfl (lv_at hl 3 rfl) ?_
      refine lv_iadd S.1 S.2.1 dM_word_41 ?_
      obtain ⟨hi6, h⟩ := kb_ck_of h
      refine kb_iald S w 10 0 rfl rfl hi6 dM_word_42 ?_
      refine W.eq (g2 := F0 m 43 ls [.int (z4 10 (kb_ix (((128 * x1) + (8 * x2)) + x3)))]) rfl ?_
      refine lv_goto (tgt := 47) S.1 S.2.1 dM_word_43 (by decide) ?_
      exact kb_iret (mW cI cZ a) S hr hlk hA w h dM_word_47
  refine lv_aload_n S.1 S.2.1 dM_word_0 rfl (lv_at hl 0 rfl) ?_
  refine lv_aload_n S.1 S.2.1 dM_word_1 rfl (lv_at hl 0 rfl) ?_
  refine lv_iload_n S.1 S.2.1 dM_word_2 rfl (lv_at hl 1 rfl) ?_
  refine lv_iload_n S.1 S.2.1 dM_word_3 rfl (lv_at hl 2 rfl) ?_
  refine lv_iload_n S.1 S.2.1 dM_word_4 rfl (lv_at hl 3 rfl) ?_
  obtain ⟨r2, z1, hc3, h⟩ := kb_cl_of h
  refine kb_calli (As := [.int x1, .int x2, .int x3]) (rest := [.ref (a 0)]) (q0 := 0) (ci := 3) S w (fun sz => cM_isWord l D cI cZ a _ _ _ sz x1 x2 x3 hc3) Y_M_isWord I_M_isWord S_M_isWord lM_110 ⟨rfl, rfl, Nat.le_of_ble_eq_true rfl, Nat.le_of_ble_eq_true rfl⟩ rfl rfl rfl rfl hl.1 rfl (Nat.le_of_ble_eq_true rfl) dM_word_5 ⟨Nat.le_of_ble_eq_true rfl, Nat.le_of_ble_eq_true rfl⟩ (fun H locs w => ?_)
  refine lv_if_eq (tgt := 15) S.1 S.2.1 dM_word_8 (by decide) (fun hc => ?_) (fun hc => ?_)
  · have h := (kb_brt hc).symm.trans h
    refine lv_iconst (v := 1) S.1 S.2.1 dM_word_15 (by decide) ?_
    exact J16 x1 x2 x3 1 z1 _ _ _ (lv_sub hl [0, 1, 2, 3] rfl) w h
  · have h := (kb_brf hc).symm.trans h
    refine lv_iconst (v := 0) S.1 S.2.1 dM_word_11 (by decide) ?_
    refine lv_goto (tgt := 16) S.1 S.2.1 dM_word_12 (by decide) ?_
    exact J16 x1 x2 x3 0 z1 _ _ _ (lv_sub hl [0, 1, 2, 3] rfl) w h
set_option maxHeartbeats 4000000 in
set_option maxRecDepth 100000 in
theorem cM_open (l : Launch) (D : va_G) (cI cZ : ClassId) (a : Nat → Nat) (z0 z' : kb_S) (r : Int32) (sz : Nat) (x1 : Int32) (h : pM_open x1 z0 = some (r, z')) : Met l y_M_open (Cond.code y_M_open c_M_open 2 (some .int) :: wsB) rm_M_open (kb_Pc D vwCl [(cI, .int), (cZ, .boolean)] sz [.ref (a 0), .int x1] (mW cI cZ a z0)) (kb_Qi D vwCl sz (mW cI cZ a z0) r (mW cI cZ a z')) 0 0 (va_A (mW cI cZ a z0) sz) := by
  refine kb_start (by decide) rfl (Nat.le_of_ble_eq_true rfl) ?_
  intro p e s m args below meth c A ls S hr hlk hsz hA w hl
  have hl : lv_has ls 2 [(0, .ref (a 0)), (1, .int x1)] := hl
  unfold pM_open at h
  have J14 : ∀ (x1 : Int32) (s0 : Int32) (z : kb_S) (H : Heap) (locs : List Loc) (ls : Array Slot), lv_has ls 2 [(0, .ref (a 0)), (1, .int x1)] → kb_W D vwCl [(cI, .int), (cZ, .boolean)] A s H locs (mW cI cZ a z) → pM_open_J14 x1 s0 z = some (r, z') → W p l e rm_M_open s m args below meth c H locs 0 0 (MQ below (kb_Qi D vwCl sz (mW cI cZ a z0) r (mW cI cZ a z')) args s 0 0 (va_A (mW cI cZ a z0) sz)) (F0 m 14 ls [.int s0, .ref (a 0)]) := by
    intro x1 s0 z H locs ls hl w h
    unfold pM_open_J14 at h
    obtain ⟨z4, hz5, h⟩ := kb_st_of h
    refine kb_puti S w 0 rfl gM_81 (Nat.le_of_ble_eq_true rfl) (ws1 := mW cI cZ a z4) (by rw [hz5]; rfl) dM_open_14 (fun H locs w => ?_)
    refine lv_aload_n S.1 S.2.1 dM_open_17 rfl (lv_at hl 0 rfl) ?_
    refine kb_get S w 0 rfl fM_81 rfl dM_open_18 ?_
    refine W.eq (g2 := F0 m 21 ls [.int (z4 0 0)]) rfl ?_
    refine lv_if_ne (tgt := 33) S.1 S.2.1 dM_open_21 (by decide) (fun hc => ?_) (fun hc => ?_)
    · have h := (kb_brf hc).symm.trans h
      refine lv_iconst (v := 0) S.1 S.2.1 dM_open_33 (by decide) ?_
      exact kb_iret (mW cI cZ a) S hr hlk hA w h dM_open_34
    · have h := (kb_brt hc).symm.trans h
      refine lv_aload_n S.1 S.2.1 dM_open_24 rfl (lv_at hl 0 rfl) ?_
      refine kb_get S w 0 rfl fM_13 rfl dM_open_25 ?_
      refine W.eq (g2 := F0 m 28 ls [.ref (a 2)]) rfl ?_
      refine lv_iload_n S.1 S.2.1 dM_open_28 rfl (lv_at hl 1 rfl) ?_
      obtain ⟨hi6, h⟩ := kb_ck_of h
      refine kb_iald S w 2 0 rfl rfl hi6 dM_open_29 ?_
      refine W.eq (g2 := F0 m 30 ls [.int (z4 2 (kb_ix (x1)))]) rfl ?_
      refine lv_goto (tgt := 34) S.1 S.2.1 dM_open_30 (by decide) ?_
      exact kb_iret (mW cI cZ a) S hr hlk hA w h dM_open_34
  refine lv_aload_n S.1 S.2.1 dM_open_0 rfl (lv_at hl 0 rfl) ?_
  refine lv_aload_n S.1 S.2.1 dM_open_1 rfl (lv_at hl 0 rfl) ?_
  refine lv_iload_n S.1 S.2.1 dM_open_2 rfl (lv_at hl 1 rfl) ?_
  obtain ⟨r2, z1, hc3, h⟩ := kb_cl_of h
  refine kb_calli (As := [.int x1]) (rest := [.ref (a 0)]) (q0 := 0) (ci := 3) S w (fun sz => cM_isBank l D cI cZ a _ _ _ sz x1 hc3) Y_M_isBank I_M_isBank S_M_isBank lM_103 ⟨rfl, rfl, Nat.le_of_ble_eq_true rfl, Nat.le_of_ble_eq_true rfl⟩ rfl rfl rfl rfl hl.1 rfl (Nat.le_of_ble_eq_true rfl) dM_open_3 ⟨Nat.le_of_ble_eq_true rfl, Nat.le_of_ble_eq_true rfl⟩ (fun H locs w => ?_)
  refine lv_if_eq (tgt := 13) S.1 S.2.1 dM_open_6 (by decide) (fun hc => ?_) (fun hc => ?_)
  · have h := (kb_brt hc).symm.trans h
    refine lv_iconst (v := 1) S.1 S.2.1 dM_open_13 (by decide) ?_
    exact J14 x1 1 z1 _ _ _ (lv_sub hl [0, 1] rfl) w h
  · have h := (kb_brf hc).symm.trans h
    refine lv_iconst (v := 0) S.1 S.2.1 dM_open_9 (by decide) ?_
    refine lv_goto (tgt := 14) S.1 S.2.1 dM_open_10 (by decide) ?_
    exact J14 x1 0 z1 _ _ _ (lv_sub hl [0, 1] rfl) w h
set_option maxHeartbeats 4000000 in
set_option maxRecDepth 100000 in
theorem cM_waiting (l : Launch) (D : va_G) (cI cZ : ClassId) (a : Nat → Nat) (z0 z' : kb_S) (r : Int32) (sz : Nat) (x1 : Int32) (h : pM_waiting x1 z0 = some (r, z')) : Met l y_M_waiting (Cond.code y_M_waiting c_M_waiting 2 (some .int) :: wsB) rm_M_waiting (kb_Pc D vwCl [(cI, .int), (cZ, .boolean)] sz [.ref (a 0), .int x1] (mW cI cZ a z0)) (kb_Qi D vwCl sz (mW cI cZ a z0) r (mW cI cZ a z')) 0 0 (va_A (mW cI cZ a z0) sz) := by
  refine kb_start (by decide) rfl (Nat.le_of_ble_eq_true rfl) ?_
  intro p e s m args below meth c A ls S hr hlk hsz hA w hl
  have hl : lv_has ls 2 [(0, .ref (a 0)), (1, .int x1)] := hl
  unfold pM_waiting at h
  have J18 : ∀ (x1 : Int32) (s0 : Int32) (z : kb_S) (H : Heap) (locs : List Loc) (ls : Array Slot), lv_has ls 2 [(0, .ref (a 0)), (1, .int x1)] → kb_W D vwCl [(cI, .int), (cZ, .boolean)] A s H locs (mW cI cZ a z) → pM_waiting_J18 x1 s0 z = some (r, z') → W p l e rm_M_waiting s m args below meth c H locs 0 0 (MQ below (kb_Qi D vwCl sz (mW cI cZ a z0) r (mW cI cZ a z')) args s 0 0 (va_A (mW cI cZ a z0) sz)) (F0 m 18 ls [.int s0, .ref (a 0)]) := by
    intro x1 s0 z H locs ls hl w h
    unfold pM_waiting_J18 at h
    obtain ⟨z1, hz2, h⟩ := kb_st_of h
    refine kb_puti S w 0 rfl gM_81 (Nat.le_of_ble_eq_true rfl) (ws1 := mW cI cZ a z1) (by rw [hz2]; rfl) dM_waiting_18 (fun H locs w => ?_)
    refine lv_aload_n S.1 S.2.1 dM_waiting_21 rfl (lv_at hl 0 rfl) ?_
    refine kb_get S w 0 rfl fM_81 rfl dM_waiting_22 ?_
    refine W.eq (g2 := F0 m 25 ls [.int (z1 0 0)]) rfl ?_
    refine lv_if_ne (tgt := 37) S.1 S.2.1 dM_waiting_25 (by decide) (fun hc => ?_) (fun hc => ?_)
    · have h := (kb_brf hc).symm.trans h
      refine lv_iconst (v := 0) S.1 S.2.1 dM_waiting_37 (by decide) ?_
      exact kb_iret (mW cI cZ a) S hr hlk hA w h dM_waiting_38
    · have h := (kb_brt hc).symm.trans h
      refine lv_aload_n S.1 S.2.1 dM_waiting_28 rfl (lv_at hl 0 rfl) ?_
      refine kb_get S w 0 rfl fM_40 rfl dM_waiting_29 ?_
      refine W.eq (g2 := F0 m 32 ls [.ref (a 11)]) rfl ?_
      refine lv_iload_n S.1 S.2.1 dM_waiting_32 rfl (lv_at hl 1 rfl) ?_
      obtain ⟨hi3, h⟩ := kb_ck_of h
      refine kb_iald S w 11 0 rfl rfl hi3 dM_waiting_33 ?_
      refine W.eq (g2 := F0 m 34 ls [.int (z1 11 (kb_ix (x1)))]) rfl ?_
      refine lv_goto (tgt := 38) S.1 S.2.1 dM_waiting_34 (by decide) ?_
      exact kb_iret (mW cI cZ a) S hr hlk hA w h dM_waiting_38
  have J17 : ∀ (x1 : Int32) (z : kb_S) (H : Heap) (locs : List Loc) (ls : Array Slot), lv_has ls 2 [(0, .ref (a 0)), (1, .int x1)] → kb_W D vwCl [(cI, .int), (cZ, .boolean)] A s H locs (mW cI cZ a z) → pM_waiting_J17 x1 z = some (r, z') → W p l e rm_M_waiting s m args below meth c H locs 0 0 (MQ below (kb_Qi D vwCl sz (mW cI cZ a z0) r (mW cI cZ a z')) args s 0 0 (va_A (mW cI cZ a z0) sz)) (F0 m 17 ls [.ref (a 0)]) := by
    intro x1 z H locs ls hl w h
    unfold pM_waiting_J17 at h
    refine lv_iconst (v := 1) S.1 S.2.1 dM_waiting_17 (by decide) ?_
    exact J18 x1 1 z _ _ _ (lv_sub hl [0, 1] rfl) w h
  refine lv_aload_n S.1 S.2.1 dM_waiting_0 rfl (lv_at hl 0 rfl) ?_
  refine lv_iload_n S.1 S.2.1 dM_waiting_1 rfl (lv_at hl 1 rfl) ?_
  refine lv_if_lt (tgt := 17) S.1 S.2.1 dM_waiting_2 (by decide) (fun hc => ?_) (fun hc => ?_)
  · have h := (kb_brt hc).symm.trans h
    exact J17 x1 z0 _ _ _ (lv_sub hl [0, 1] rfl) w h
  · have h := (kb_brf hc).symm.trans h
    refine lv_iload_n S.1 S.2.1 dM_waiting_5 rfl (lv_at hl 1 rfl) ?_
    refine lv_aload_n S.1 S.2.1 dM_waiting_6 rfl (lv_at hl 0 rfl) ?_
    refine kb_get S w 0 rfl fM_113 rfl dM_waiting_7 ?_
    refine W.eq (g2 := F0 m 10 ls [.int (z0 0 4), .int x1, .ref (a 0)]) rfl ?_
    refine lv_icmp_ge (tgt := 17) S.1 S.2.1 dM_waiting_10 (by decide) (fun hc => ?_) (fun hc => ?_)
    · have h := (kb_brt hc).symm.trans h
      exact J17 x1 z0 _ _ _ (lv_sub hl [0, 1] rfl) w h
    · have h := (kb_brf hc).symm.trans h
      refine lv_iconst (v := 0) S.1 S.2.1 dM_waiting_13 (by decide) ?_
      refine lv_goto (tgt := 18) S.1 S.2.1 dM_waiting_14 (by decide) ?_
      exact J18 x1 0 z0 _ _ _ (lv_sub hl [0, 1] rfl) w h
set_option maxHeartbeats 4000000 in
set_option maxRecDepth 100000 in
theorem cM_figure (l : Launch) (D : va_G) (cI cZ : ClassId) (a : Nat → Nat) (z0 z' : kb_S) (r : Int32) (sz : Nat) (x1 : Int32) (h : pM_figure x1 z0 = some (r, z')) : Met l y_M_figure (Cond.code y_M_figure c_M_figure 2 (some .int) :: wsB) rm_M_figure (kb_Pc D vwCl [(cI, .int), (cZ, .boolean)] sz [.ref (a 0), .int x1] (mW cI cZ a z0)) (kb_Qi D vwCl sz (mW cI cZ a z0) r (mW cI cZ a z')) 0 0 (va_A (mW cI cZ a z0) sz) := by
  refine kb_start (by decide) rfl (Nat.le_of_ble_eq_true rfl) ?_
  intro p e s m args below meth c A ls S hr hlk hsz hA w hl
  have hl : lv_has ls 2 [(0, .ref (a 0)), (1, .int x1)] := hl
  unfold pM_figure at h
  have J16 : ∀ (x1 : Int32) (s0 : Int32) (z : kb_S) (H : Heap) (locs : List Loc) (ls : Array Slot), lv_has ls 2 [(0, .ref (a 0)), (1, .int x1)] → kb_W D vwCl [(cI, .int), (cZ, .boolean)] A s H locs (mW cI cZ a z) → pM_figure_J16 x1 s0 z = some (r, z') → W p l e rm_M_figure s m args below meth c H locs 0 0 (MQ below (kb_Qi D vwCl sz (mW cI cZ a z0) r (mW cI cZ a z')) args s 0 0 (va_A (mW cI cZ a z0) sz)) (F0 m 16 ls [.int s0, .ref (a 0)]) := by
    intro x1 s0 z H locs ls hl w h
    unfold pM_figure_J16 at h
    obtain ⟨z1, hz2, h⟩ := kb_st_of h
    refine kb_puti S w 0 rfl gM_81 (Nat.le_of_ble_eq_true rfl) (ws1 := mW cI cZ a z1) (by rw [hz2]; rfl) dM_figure_16 (fun H locs w => ?_)
    refine lv_aload_n S.1 S.2.1 dM_figure_19 rfl (lv_at hl 0 rfl) ?_
    refine kb_get S w 0 rfl fM_81 rfl dM_figure_20 ?_
    refine W.eq (g2 := F0 m 23 ls [.int (z1 0 0)]) rfl ?_
    refine lv_if_eq (tgt := 28) S.1 S.2.1 dM_figure_23 (by decide) (fun hc => ?_) (fun hc => ?_)
    · have h := (kb_brt hc).symm.trans h
      refine lv_iload_n S.1 S.2.1 dM_figure_28 rfl (lv_at hl 1 rfl) ?_
      refine lv_if_ne (tgt := 41) S.1 S.2.1 dM_figure_29 (by decide) (fun hc => ?_) (fun hc => ?_)
      · have h := (kb_brf hc).symm.trans h
        refine lv_iload_n S.1 S.2.1 dM_figure_41 rfl (lv_at hl 1 rfl) ?_
        refine lv_bipush (v := 6) S.1 S.2.1 dM_figure_42 (by decide) ?_
        refine lv_icmp_ge (tgt := 58) S.1 S.2.1 dM_figure_44 (by decide) (fun hc => ?_) (fun hc => ?_)
        · have h := (kb_brt hc).symm.trans h
          refine lv_iload_n S.1 S.2.1 dM_figure_58 rfl (lv_at hl 1 rfl) ?_
          refine lv_bipush (v := 6) S.1 S.2.1 dM_figure_59 (by decide) ?_
          refine lv_icmp_ne (tgt := 71) S.1 S.2.1 dM_figure_61 (by decide) (fun hc => ?_) (fun hc => ?_)
          · have h := (kb_brf hc).symm.trans h
            refine lv_iload_n S.1 S.2.1 dM_figure_71 rfl (lv_at hl 1 rfl) ?_
            refine lv_bipush (v := 7) S.1 S.2.1 dM_figure_72 (by decide) ?_
            refine lv_icmp_ne (tgt := 84) S.1 S.2.1 dM_figure_74 (by decide) (fun hc => ?_) (fun hc => ?_)
            · have h := (kb_brf hc).symm.trans h
              refine lv_aload_n S.1 S.2.1 dM_figure_84 rfl (lv_at hl 0 rfl) ?_
              refine kb_get S w 0 rfl fM_31 rfl dM_figure_85 ?_
              refine W.eq (g2 := F0 m 88 ls [.ref (a 8)]) rfl ?_
              refine lv_iconst (v := 0) S.1 S.2.1 dM_figure_88 (by decide) ?_
              obtain ⟨hi3, h⟩ := kb_ck_of h
              refine kb_iald S w 8 0 rfl rfl hi3 dM_figure_89 ?_
              refine W.eq (g2 := F0 m 90 ls [.int (z1 8 (kb_ix (0)))]) rfl ?_
              exact kb_iret (mW cI cZ a) S hr hlk hA w h dM_figure_90
            · have h := (kb_brt hc).symm.trans h
              refine lv_aload_n S.1 S.2.1 dM_figure_77 rfl (lv_at hl 0 rfl) ?_
              refine kb_get S w 0 rfl fM_123 rfl dM_figure_78 ?_
              refine W.eq (g2 := F0 m 81 ls [.int (z1 0 6)]) rfl ?_
              refine lv_goto (tgt := 90) S.1 S.2.1 dM_figure_81 (by decide) ?_
              exact kb_iret (mW cI cZ a) S hr hlk hA w h dM_figure_90
          · have h := (kb_brt hc).symm.trans h
            refine lv_aload_n S.1 S.2.1 dM_figure_64 rfl (lv_at hl 0 rfl) ?_
            refine kb_get S w 0 rfl fM_113 rfl dM_figure_65 ?_
            refine W.eq (g2 := F0 m 68 ls [.int (z1 0 4)]) rfl ?_
            refine lv_goto (tgt := 90) S.1 S.2.1 dM_figure_68 (by decide) ?_
            exact kb_iret (mW cI cZ a) S hr hlk hA w h dM_figure_90
        · have h := (kb_brf hc).symm.trans h
          refine lv_aload_n S.1 S.2.1 dM_figure_47 rfl (lv_at hl 0 rfl) ?_
          refine kb_get S w 0 rfl fM_68 rfl dM_figure_48 ?_
          refine W.eq (g2 := F0 m 51 ls [.ref (a 20)]) rfl ?_
          refine lv_iload_n S.1 S.2.1 dM_figure_51 rfl (lv_at hl 1 rfl) ?_
          refine lv_iconst (v := 1) S.1 S.2.1 dM_figure_52 (by decide) ?_
          refine lv_isub S.1 S.2.1 dM_figure_53 ?_
          obtain ⟨hi4, h⟩ := kb_ck_of h
          refine kb_iald S w 20 0 rfl rfl hi4 dM_figure_54 ?_
          refine W.eq (g2 := F0 m 55 ls [.int (z1 20 (kb_ix (x1 - 1)))]) rfl ?_
          refine lv_goto (tgt := 90) S.1 S.2.1 dM_figure_55 (by decide) ?_
          exact kb_iret (mW cI cZ a) S hr hlk hA w h dM_figure_90
      · have h := (kb_brt hc).symm.trans h
        refine lv_aload_n S.1 S.2.1 dM_figure_32 rfl (lv_at hl 0 rfl) ?_
        refine kb_get S w 0 rfl fM_34 rfl dM_figure_33 ?_
        refine W.eq (g2 := F0 m 36 ls [.ref (a 9)]) rfl ?_
        refine lv_iconst (v := 0) S.1 S.2.1 dM_figure_36 (by decide) ?_
        obtain ⟨hi5, h⟩ := kb_ck_of h
        refine kb_iald S w 9 0 rfl rfl hi5 dM_figure_37 ?_
        refine W.eq (g2 := F0 m 38 ls [.int (z1 9 (kb_ix (0)))]) rfl ?_
        refine lv_goto (tgt := 90) S.1 S.2.1 dM_figure_38 (by decide) ?_
        exact kb_iret (mW cI cZ a) S hr hlk hA w h dM_figure_90
    · have h := (kb_brf hc).symm.trans h
      refine lv_iconst (v := 0) S.1 S.2.1 dM_figure_26 (by decide) ?_
      exact kb_iret (mW cI cZ a) S hr hlk hA w h dM_figure_27
  have J11 : ∀ (x1 : Int32) (z : kb_S) (H : Heap) (locs : List Loc) (ls : Array Slot), lv_has ls 2 [(0, .ref (a 0)), (1, .int x1)] → kb_W D vwCl [(cI, .int), (cZ, .boolean)] A s H locs (mW cI cZ a z) → pM_figure_J11 x1 z = some (r, z') → W p l e rm_M_figure s m args below meth c H locs 0 0 (MQ below (kb_Qi D vwCl sz (mW cI cZ a z0) r (mW cI cZ a z')) args s 0 0 (va_A (mW cI cZ a z0) sz)) (F0 m 11 ls [.ref (a 0)]) := by
    intro x1 z H locs ls hl w h
    unfold pM_figure_J11 at h
    refine lv_iconst (v := 1) S.1 S.2.1 dM_figure_11 (by decide) ?_
    refine lv_goto (tgt := 16) S.1 S.2.1 dM_figure_12 (by decide) ?_
    exact J16 x1 1 z _ _ _ (lv_sub hl [0, 1] rfl) w h
  refine lv_aload_n S.1 S.2.1 dM_figure_0 rfl (lv_at hl 0 rfl) ?_
  refine lv_iload_n S.1 S.2.1 dM_figure_1 rfl (lv_at hl 1 rfl) ?_
  refine lv_if_lt (tgt := 11) S.1 S.2.1 dM_figure_2 (by decide) (fun hc => ?_) (fun hc => ?_)
  · have h := (kb_brt hc).symm.trans h
    exact J11 x1 z0 _ _ _ (lv_sub hl [0, 1] rfl) w h
  · have h := (kb_brf hc).symm.trans h
    refine lv_iload_n S.1 S.2.1 dM_figure_5 rfl (lv_at hl 1 rfl) ?_
    refine lv_bipush (v := 8) S.1 S.2.1 dM_figure_6 (by decide) ?_
    refine lv_icmp_le (tgt := 15) S.1 S.2.1 dM_figure_8 (by decide) (fun hc => ?_) (fun hc => ?_)
    · have h := (kb_brt hc).symm.trans h
      refine lv_iconst (v := 0) S.1 S.2.1 dM_figure_15 (by decide) ?_
      exact J16 x1 0 z0 _ _ _ (lv_sub hl [0, 1] rfl) w h
    · have h := (kb_brf hc).symm.trans h
      exact J11 x1 z0 _ _ _ (lv_sub hl [0, 1] rfl) w h
set_option maxHeartbeats 4000000 in
set_option maxRecDepth 100000 in
theorem cM_check (l : Launch) (D : va_G) (cI cZ : ClassId) (a : Nat → Nat) (z0 z' : kb_S) (r : Int32) (sz : Nat) (x1 : Int32) (x2 : Int32) (x3 : Int32) (h : pM_check x1 x2 x3 z0 = some (r, z')) : Met l y_M_check (Cond.code y_M_check c_M_check 6 (some .int) :: wsB) rm_M_check (kb_Pc D vwCl [(cI, .int), (cZ, .boolean)] sz [.ref (a 0), .int x1, .int x2, .int x3] (mW cI cZ a z0)) (kb_Qi D vwCl sz (mW cI cZ a z0) r (mW cI cZ a z')) 0 0 (va_A (mW cI cZ a z0) sz) := by
  refine kb_start (by decide) rfl (Nat.le_of_ble_eq_true rfl) ?_
  intro p e s m args below meth c A ls S hr hlk hsz hA w hl
  have hl : lv_has ls 6 [(0, .ref (a 0)), (1, .int x1), (2, .int x2), (3, .int x3)] := hl
  unfold pM_check at h
  have J110 : ∀ (x5 : Int32) (z : kb_S) (H : Heap) (locs : List Loc) (ls : Array Slot), lv_has ls 6 [(0, .ref (a 0)), (5, .int x5)] → kb_W D vwCl [(cI, .int), (cZ, .boolean)] A s H locs (mW cI cZ a z) → pM_check_J110 x5 z = some (r, z') → W p l e rm_M_check s m args below meth c H locs 0 0 (MQ below (kb_Qi D vwCl sz (mW cI cZ a z0) r (mW cI cZ a z')) args s 0 0 (va_A (mW cI cZ a z0) sz)) (F0 m 110 ls []) := by
    intro x5 z H locs ls hl w h
    unfold pM_check_J110 at h
    refine lv_aload_n S.1 S.2.1 dM_check_110 rfl (lv_at hl 0 rfl) ?_
    refine kb_get S w 0 rfl fM_34 rfl dM_check_111 ?_
    refine W.eq (g2 := F0 m 114 ls [.ref (a 9)]) rfl ?_
    refine lv_iconst (v := 1) S.1 S.2.1 dM_check_114 (by decide) ?_
    refine lv_dup2_11 S.1 S.2.1 dM_check_115 rfl rfl ?_
    obtain ⟨hi6, h⟩ := kb_ck_of h
    refine kb_iald S w 9 0 rfl rfl hi6 dM_check_116 ?_
    refine W.eq (g2 := F0 m 117 ls [.int (z 9 (kb_ix (1))), .int 1, .ref (a 9)]) rfl ?_
    refine lv_iconst (v := 1) S.1 S.2.1 dM_check_117 (by decide) ?_
    refine lv_iadd S.1 S.2.1 dM_check_118 ?_
    obtain ⟨hi7, h⟩ := kb_ck_of h
    obtain ⟨z8, hz9, h⟩ := kb_st_of h
    refine kb_iast S w 9 0 rfl rfl hi7 (ws1 := mW cI cZ a z8) (by rw [hz9]; rfl) dM_check_119 (fun H locs w => ?_)
    refine lv_iload S.1 S.2.1 dM_check_120 (lv_at hl 1 rfl) ?_
    exact kb_iret (mW cI cZ a) S hr hlk hA w h dM_check_122
  have J106 : ∀ (x3 : Int32) (x5 : Int32) (s0 : Int32) (s1 : Int32) (s2 : Int32) (z : kb_S) (H : Heap) (locs : List Loc) (ls : Array Slot), lv_has ls 6 [(0, .ref (a 0)), (3, .int x3), (5, .int x5)] → kb_W D vwCl [(cI, .int), (cZ, .boolean)] A s H locs (mW cI cZ a z) → pM_check_J106 x3 x5 s0 s1 s2 z = some (r, z') → W p l e rm_M_check s m args below meth c H locs 0 0 (MQ below (kb_Qi D vwCl sz (mW cI cZ a z0) r (mW cI cZ a z')) args s 0 0 (va_A (mW cI cZ a z0) sz)) (F0 m 106 ls [.int s0, .int s1, .int s2, .ref (a 0)]) := by
    intro x3 x5 s0 s1 s2 z H locs ls hl w h
    unfold pM_check_J106 at h
    refine lv_iload_n S.1 S.2.1 dM_check_106 rfl (lv_at hl 1 rfl) ?_
    obtain ⟨r11, z10, hc12, h⟩ := kb_cl_of h
    refine kb_callv (As := [.int s2, .int s1, .int s0, .int x3]) (rest := []) (q0 := 0) (ci := 3) S w (fun sz => cM_give l D cI cZ a _ _ _ sz s2 s1 s0 x3 hc12) Y_M_give I_M_give S_M_give lM_126 ⟨rfl, rfl, Nat.le_of_ble_eq_true rfl, Nat.le_of_ble_eq_true rfl⟩ rfl rfl rfl rfl hl.1 rfl (Nat.le_of_ble_eq_true rfl) dM_check_107 ⟨Nat.le_of_ble_eq_true rfl, Nat.le_of_ble_eq_true rfl⟩ (fun H locs w => ?_)
    exact J110 x5 z10 _ _ _ (lv_sub hl [0, 2] rfl) w h
  have J82 : ∀ (x1 : Int32) (x2 : Int32) (x3 : Int32) (s0 : Int32) (s1 : Int32) (s2 : Int32) (z : kb_S) (H : Heap) (locs : List Loc) (ls : Array Slot), lv_has ls 6 [(0, .ref (a 0)), (1, .int x1), (2, .int x2), (3, .int x3)] → kb_W D vwCl [(cI, .int), (cZ, .boolean)] A s H locs (mW cI cZ a z) → pM_check_J82 x1 x2 x3 s0 s1 s2 z = some (r, z') → W p l e rm_M_check s m args below meth c H locs 0 0 (MQ below (kb_Qi D vwCl sz (mW cI cZ a z0) r (mW cI cZ a z')) args s 0 0 (va_A (mW cI cZ a z0) sz)) (F0 m 82 ls [.int s0, .int s1, .int s2, .ref (a 0)]) := by
    intro x1 x2 x3 s0 s1 s2 z H locs ls hl w h
    unfold pM_check_J82 at h
    refine lv_iload_n S.1 S.2.1 dM_check_82 rfl (lv_at hl 3 rfl) ?_
    obtain ⟨r4, z3, hc5, h⟩ := kb_cl_of h
    refine kb_calli (As := [.int s2, .int s1, .int s0, .int x3]) (rest := []) (q0 := 0) (ci := 3) S w (fun sz => cM_broken l D cI cZ a _ _ _ sz s2 s1 s0 x3 hc5) Y_M_broken I_M_broken S_M_broken lM_156 ⟨rfl, rfl, Nat.le_of_ble_eq_true rfl, Nat.le_of_ble_eq_true rfl⟩ rfl rfl rfl rfl hl.1 rfl (Nat.le_of_ble_eq_true rfl) dM_check_83 ⟨Nat.le_of_ble_eq_true rfl, Nat.le_of_ble_eq_true rfl⟩ (fun H locs w => ?_)
    refine lv_istore S.1 S.2.1 dM_check_86 hl (by decide) rfl (fun ls hl => ?_)
    have hl : lv_has ls 6 [(5, .int r4), (0, .ref (a 0)), (1, .int x1), (2, .int x2), (3, .int x3)] := hl
    refine lv_iload S.1 S.2.1 dM_check_88 (lv_at hl 0 rfl) ?_
    refine lv_if_ne (tgt := 110) S.1 S.2.1 dM_check_90 (by decide) (fun hc => ?_) (fun hc => ?_)
    · have h := (kb_brf hc).symm.trans h
      exact J110 r4 z3 _ _ _ (lv_sub hl [1, 0] rfl) w h
    · have h := (kb_brt hc).symm.trans h
      refine lv_aload_n S.1 S.2.1 dM_check_93 rfl (lv_at hl 1 rfl) ?_
      refine lv_iconst (v := 1) S.1 S.2.1 dM_check_94 (by decide) ?_
      refine lv_iload_n S.1 S.2.1 dM_check_95 rfl (lv_at hl 2 rfl) ?_
      refine lv_iload_n S.1 S.2.1 dM_check_96 rfl (lv_at hl 2 rfl) ?_
      refine lv_iconst (v := 4) S.1 S.2.1 dM_check_97 (by decide) ?_
      refine lv_icmp_ne (tgt := 105) S.1 S.2.1 dM_check_98 (by decide) (fun hc => ?_) (fun hc => ?_)
      · have h := (kb_brf hc).symm.trans h
        refine lv_iload_n S.1 S.2.1 dM_check_105 rfl (lv_at hl 3 rfl) ?_
        exact J106 x3 r4 x2 x1 1 z3 _ _ _ (lv_sub hl [1, 4, 0] rfl) w h
      · have h := (kb_brt hc).symm.trans h
        refine lv_iconst (v := 0) S.1 S.2.1 dM_check_101 (by decide) ?_
        refine lv_goto (tgt := 106) S.1 S.2.1 dM_check_102 (by decide) ?_
        exact J106 x3 r4 0 x1 1 z3 _ _ _ (lv_sub hl [1, 4, 0] rfl) w h
  have J57 : ∀ (x1 : Int32) (x2 : Int32) (x3 : Int32) (s0 : Int32) (z : kb_S) (H : Heap) (locs : List Loc) (ls : Array Slot), lv_has ls 6 [(0, .ref (a 0)), (1, .int x1), (2, .int x2), (3, .int x3)] → kb_W D vwCl [(cI, .int), (cZ, .boolean)] A s H locs (mW cI cZ a z) → pM_check_J57 x1 x2 x3 s0 z = some (r, z') → W p l e rm_M_check s m args below meth c H locs 0 0 (MQ below (kb_Qi D vwCl sz (mW cI cZ a z0) r (mW cI cZ a z')) args s 0 0 (va_A (mW cI cZ a z0) sz)) (F0 m 57 ls [.int s0, .ref (a 0)]) := by
    intro x1 x2 x3 s0 z H locs ls hl w h
    unfold pM_check_J57 at h
    obtain ⟨z1, hz2, h⟩ := kb_st_of h
    refine kb_puti S w 0 rfl gM_81 (Nat.le_of_ble_eq_true rfl) (ws1 := mW cI cZ a z1) (by rw [hz2]; rfl) dM_check_57 (fun H locs w => ?_)
    refine lv_aload_n S.1 S.2.1 dM_check_60 rfl (lv_at hl 0 rfl) ?_
    refine kb_get S w 0 rfl fM_81 rfl dM_check_61 ?_
    refine W.eq (g2 := F0 m 64 ls [.int (z1 0 0)]) rfl ?_
    refine lv_if_eq (tgt := 69) S.1 S.2.1 dM_check_64 (by decide) (fun hc => ?_) (fun hc => ?_)
    · have h := (kb_brt hc).symm.trans h
      refine lv_aload_n S.1 S.2.1 dM_check_69 rfl (lv_at hl 0 rfl) ?_
      refine lv_iconst (v := 1) S.1 S.2.1 dM_check_70 (by decide) ?_
      refine lv_iload_n S.1 S.2.1 dM_check_71 rfl (lv_at hl 1 rfl) ?_
      refine lv_iload_n S.1 S.2.1 dM_check_72 rfl (lv_at hl 1 rfl) ?_
      refine lv_iconst (v := 4) S.1 S.2.1 dM_check_73 (by decide) ?_
      refine lv_icmp_ne (tgt := 81) S.1 S.2.1 dM_check_74 (by decide) (fun hc => ?_) (fun hc => ?_)
      · have h := (kb_brf hc).symm.trans h
        refine lv_iload_n S.1 S.2.1 dM_check_81 rfl (lv_at hl 2 rfl) ?_
        exact J82 x1 x2 x3 x2 x1 1 z1 _ _ _ (lv_sub hl [0, 1, 2, 3] rfl) w h
      · have h := (kb_brt hc).symm.trans h
        refine lv_iconst (v := 0) S.1 S.2.1 dM_check_77 (by decide) ?_
        refine lv_goto (tgt := 82) S.1 S.2.1 dM_check_78 (by decide) ?_
        exact J82 x1 x2 x3 0 x1 1 z1 _ _ _ (lv_sub hl [0, 1, 2, 3] rfl) w h
    · have h := (kb_brf hc).symm.trans h
      refine lv_iconst (v := 0) S.1 S.2.1 dM_check_67 (by decide) ?_
      exact kb_iret (mW cI cZ a) S hr hlk hA w h dM_check_68
  have J44 : ∀ (x1 : Int32) (x2 : Int32) (x3 : Int32) (s0 : Int32) (z : kb_S) (H : Heap) (locs : List Loc) (ls : Array Slot), lv_has ls 6 [(0, .ref (a 0)), (1, .int x1), (2, .int x2), (3, .int x3)] → kb_W D vwCl [(cI, .int), (cZ, .boolean)] A s H locs (mW cI cZ a z) → pM_check_J44 x1 x2 x3 s0 z = some (r, z') → W p l e rm_M_check s m args below meth c H locs 0 0 (MQ below (kb_Qi D vwCl sz (mW cI cZ a z0) r (mW cI cZ a z')) args s 0 0 (va_A (mW cI cZ a z0) sz)) (F0 m 44 ls [.int s0]) := by
    intro x1 x2 x3 s0 z H locs ls hl w h
    unfold pM_check_J44 at h
    refine lv_istore S.1 S.2.1 dM_check_44 hl (by decide) rfl (fun ls hl => ?_)
    have hl : lv_has ls 6 [(4, .int s0), (0, .ref (a 0)), (1, .int x1), (2, .int x2), (3, .int x3)] := hl
    refine lv_aload_n S.1 S.2.1 dM_check_46 rfl (lv_at hl 1 rfl) ?_
    refine lv_iload S.1 S.2.1 dM_check_47 (lv_at hl 0 rfl) ?_
    refine lv_if_eq (tgt := 56) S.1 S.2.1 dM_check_49 (by decide) (fun hc => ?_) (fun hc => ?_)
    · have h := (kb_brt hc).symm.trans h
      refine lv_iconst (v := 1) S.1 S.2.1 dM_check_56 (by decide) ?_
      exact J57 x1 x2 x3 1 z _ _ _ (lv_sub hl [1, 2, 3, 4] rfl) w h
    · have h := (kb_brf hc).symm.trans h
      refine lv_iconst (v := 0) S.1 S.2.1 dM_check_52 (by decide) ?_
      refine lv_goto (tgt := 57) S.1 S.2.1 dM_check_53 (by decide) ?_
      exact J57 x1 x2 x3 0 z _ _ _ (lv_sub hl [1, 2, 3, 4] rfl) w h
  have J43 : ∀ (x1 : Int32) (x2 : Int32) (x3 : Int32) (z : kb_S) (H : Heap) (locs : List Loc) (ls : Array Slot), lv_has ls 6 [(0, .ref (a 0)), (1, .int x1), (2, .int x2), (3, .int x3)] → kb_W D vwCl [(cI, .int), (cZ, .boolean)] A s H locs (mW cI cZ a z) → pM_check_J43 x1 x2 x3 z = some (r, z') → W p l e rm_M_check s m args below meth c H locs 0 0 (MQ below (kb_Qi D vwCl sz (mW cI cZ a z0) r (mW cI cZ a z')) args s 0 0 (va_A (mW cI cZ a z0) sz)) (F0 m 43 ls []) := by
    intro x1 x2 x3 z H locs ls hl w h
    unfold pM_check_J43 at h
    refine lv_iconst (v := 0) S.1 S.2.1 dM_check_43 (by decide) ?_
    exact J44 x1 x2 x3 0 z _ _ _ (lv_sub hl [0, 1, 2, 3] rfl) w h
  have J39 : ∀ (x1 : Int32) (x2 : Int32) (x3 : Int32) (z : kb_S) (H : Heap) (locs : List Loc) (ls : Array Slot), lv_has ls 6 [(0, .ref (a 0)), (1, .int x1), (2, .int x2), (3, .int x3)] → kb_W D vwCl [(cI, .int), (cZ, .boolean)] A s H locs (mW cI cZ a z) → pM_check_J39 x1 x2 x3 z = some (r, z') → W p l e rm_M_check s m args below meth c H locs 0 0 (MQ below (kb_Qi D vwCl sz (mW cI cZ a z0) r (mW cI cZ a z')) args s 0 0 (va_A (mW cI cZ a z0) sz)) (F0 m 39 ls []) := by
    intro x1 x2 x3 z H locs ls hl w h
    unfold pM_check_J39 at h
    refine lv_iconst (v := 1) S.1 S.2.1 dM_check_39 (by decide) ?_
    refine lv_goto (tgt := 44) S.1 S.2.1 dM_check_40 (by decide) ?_
    exact J44 x1 x2 x3 1 z _ _ _ (lv_sub hl [0, 1, 2, 3] rfl) w h
  have J22 : ∀ (x1 : Int32) (x2 : Int32) (x3 : Int32) (z : kb_S) (H : Heap) (locs : List Loc) (ls : Array Slot), lv_has ls 6 [(0, .ref (a 0)), (1, .int x1), (2, .int x2), (3, .int x3)] → kb_W D vwCl [(cI, .int), (cZ, .boolean)] A s H locs (mW cI cZ a z) → pM_check_J22 x1 x2 x3 z = some (r, z') → W p l e rm_M_check s m args below meth c H locs 0 0 (MQ below (kb_Qi D vwCl sz (mW cI cZ a z0) r (mW cI cZ a z')) args s 0 0 (va_A (mW cI cZ a z0) sz)) (F0 m 22 ls []) := by
    intro x1 x2 x3 z H locs ls hl w h
    unfold pM_check_J22 at h
    refine lv_iload_n S.1 S.2.1 dM_check_22 rfl (lv_at hl 1 rfl) ?_
    refine lv_iconst (v := 4) S.1 S.2.1 dM_check_23 (by decide) ?_
    refine lv_icmp_eq (tgt := 39) S.1 S.2.1 dM_check_24 (by decide) (fun hc => ?_) (fun hc => ?_)
    · have h := (kb_brt hc).symm.trans h
      exact J39 x1 x2 x3 z _ _ _ (lv_sub hl [0, 1, 2, 3] rfl) w h
    · have h := (kb_brf hc).symm.trans h
      refine lv_iload_n S.1 S.2.1 dM_check_27 rfl (lv_at hl 1 rfl) ?_
      refine lv_iconst (v := 1) S.1 S.2.1 dM_check_28 (by decide) ?_
      refine lv_icmp_eq (tgt := 39) S.1 S.2.1 dM_check_29 (by decide) (fun hc => ?_) (fun hc => ?_)
      · have h := (kb_brt hc).symm.trans h
        exact J39 x1 x2 x3 z _ _ _ (lv_sub hl [0, 1, 2, 3] rfl) w h
      · have h := (kb_brf hc).symm.trans h
        refine lv_iload_n S.1 S.2.1 dM_check_32 rfl (lv_at hl 3 rfl) ?_
        obtain ⟨r14, z13, hc15, h⟩ := kb_cl_of h
        refine kb_callS (As := [.int x3]) (rest := []) S w (fun sz => cM_isRow l D cI cZ a _ _ _ sz x3 hc15) Y_M_isRow T_M_isRow lM_107 ⟨rfl, rfl, Nat.le_of_ble_eq_true rfl, Nat.le_of_ble_eq_true rfl⟩ rfl hl.1 rfl (Nat.le_of_ble_eq_true rfl) dM_check_33 ⟨Nat.le_of_ble_eq_true rfl, Nat.le_of_ble_eq_true rfl⟩ (fun H locs w => ?_)
        refine lv_if_eq (tgt := 43) S.1 S.2.1 dM_check_36 (by decide) (fun hc => ?_) (fun hc => ?_)
        · have h := (kb_brt hc).symm.trans h
          exact J43 x1 x2 x3 z13 _ _ _ (lv_sub hl [0, 1, 2, 3] rfl) w h
        · have h := (kb_brf hc).symm.trans h
          exact J39 x1 x2 x3 z13 _ _ _ (lv_sub hl [0, 1, 2, 3] rfl) w h
  refine lv_iload_n S.1 S.2.1 dM_check_0 rfl (lv_at hl 1 rfl) ?_
  refine lv_if_lt (tgt := 43) S.1 S.2.1 dM_check_1 (by decide) (fun hc => ?_) (fun hc => ?_)
  · have h := (kb_brt hc).symm.trans h
    exact J43 x1 x2 x3 z0 _ _ _ (lv_sub hl [0, 1, 2, 3] rfl) w h
  · have h := (kb_brf hc).symm.trans h
    refine lv_iload_n S.1 S.2.1 dM_check_4 rfl (lv_at hl 1 rfl) ?_
    refine lv_iconst (v := 4) S.1 S.2.1 dM_check_5 (by decide) ?_
    refine lv_icmp_gt (tgt := 43) S.1 S.2.1 dM_check_6 (by decide) (fun hc => ?_) (fun hc => ?_)
    · have h := (kb_brt hc).symm.trans h
      exact J43 x1 x2 x3 z0 _ _ _ (lv_sub hl [0, 1, 2, 3] rfl) w h
    · have h := (kb_brf hc).symm.trans h
      refine lv_iload_n S.1 S.2.1 dM_check_9 rfl (lv_at hl 1 rfl) ?_
      refine lv_iconst (v := 4) S.1 S.2.1 dM_check_10 (by decide) ?_
      refine lv_icmp_eq (tgt := 22) S.1 S.2.1 dM_check_11 (by decide) (fun hc => ?_) (fun hc => ?_)
      · have h := (kb_brt hc).symm.trans h
        exact J22 x1 x2 x3 z0 _ _ _ (lv_sub hl [0, 1, 2, 3] rfl) w h
      · have h := (kb_brf hc).symm.trans h
        refine lv_aload_n S.1 S.2.1 dM_check_14 rfl (lv_at hl 0 rfl) ?_
        refine lv_iload_n S.1 S.2.1 dM_check_15 rfl (lv_at hl 2 rfl) ?_
        obtain ⟨r17, z16, hc18, h⟩ := kb_cl_of h
        refine kb_calli (As := [.int x2]) (rest := []) (q0 := 0) (ci := 3) S w (fun sz => cM_isBank l D cI cZ a _ _ _ sz x2 hc18) Y_M_isBank I_M_isBank S_M_isBank lM_103 ⟨rfl, rfl, Nat.le_of_ble_eq_true rfl, Nat.le_of_ble_eq_true rfl⟩ rfl rfl rfl rfl hl.1 rfl (Nat.le_of_ble_eq_true rfl) dM_check_16 ⟨Nat.le_of_ble_eq_true rfl, Nat.le_of_ble_eq_true rfl⟩ (fun H locs w => ?_)
        refine lv_if_eq (tgt := 43) S.1 S.2.1 dM_check_19 (by decide) (fun hc => ?_) (fun hc => ?_)
        · have h := (kb_brt hc).symm.trans h
          exact J43 x1 x2 x3 z16 _ _ _ (lv_sub hl [0, 1, 2, 3] rfl) w h
        · have h := (kb_brf hc).symm.trans h
          exact J22 x1 x2 x3 z16 _ _ _ (lv_sub hl [0, 1, 2, 3] rfl) w h
set_option maxHeartbeats 4000000 in
set_option maxRecDepth 100000 in
theorem cM_pause (l : Launch) (D : va_G) (cI cZ : ClassId) (a : Nat → Nat) (z0 z' : kb_S) (r : Int32) (sz : Nat) (x1 : Int32) (h : pM_pause x1 z0 = some (r, z')) : Met l y_M_pause (Cond.code y_M_pause c_M_pause 2 (some .int) :: wsB) rm_M_pause (kb_Pc D vwCl [(cI, .int), (cZ, .boolean)] sz [.ref (a 0), .int x1] (mW cI cZ a z0)) (kb_Qi D vwCl sz (mW cI cZ a z0) r (mW cI cZ a z')) 0 0 (va_A (mW cI cZ a z0) sz) := by
  refine kb_start (by decide) rfl (Nat.le_of_ble_eq_true rfl) ?_
  intro p e s m args below meth c A ls S hr hlk hsz hA w hl
  have hl : lv_has ls 2 [(0, .ref (a 0)), (1, .int x1)] := hl
  unfold pM_pause at h
  have J17 : ∀ (x1 : Int32) (s0 : Int32) (z : kb_S) (H : Heap) (locs : List Loc) (ls : Array Slot), lv_has ls 2 [(0, .ref (a 0)), (1, .int x1)] → kb_W D vwCl [(cI, .int), (cZ, .boolean)] A s H locs (mW cI cZ a z) → pM_pause_J17 x1 s0 z = some (r, z') → W p l e rm_M_pause s m args below meth c H locs 0 0 (MQ below (kb_Qi D vwCl sz (mW cI cZ a z0) r (mW cI cZ a z')) args s 0 0 (va_A (mW cI cZ a z0) sz)) (F0 m 17 ls [.int s0, .ref (a 0)]) := by
    intro x1 s0 z H locs ls hl w h
    unfold pM_pause_J17 at h
    obtain ⟨z1, hz2, h⟩ := kb_st_of h
    refine kb_puti S w 0 rfl gM_81 (Nat.le_of_ble_eq_true rfl) (ws1 := mW cI cZ a z1) (by rw [hz2]; rfl) dM_pause_17 (fun H locs w => ?_)
    refine lv_aload_n S.1 S.2.1 dM_pause_20 rfl (lv_at hl 0 rfl) ?_
    refine kb_get S w 0 rfl fM_81 rfl dM_pause_21 ?_
    refine W.eq (g2 := F0 m 24 ls [.int (z1 0 0)]) rfl ?_
    refine lv_if_eq (tgt := 29) S.1 S.2.1 dM_pause_24 (by decide) (fun hc => ?_) (fun hc => ?_)
    · have h := (kb_brt hc).symm.trans h
      refine lv_aload_n S.1 S.2.1 dM_pause_29 rfl (lv_at hl 0 rfl) ?_
      refine kb_get S w 0 rfl fM_34 rfl dM_pause_30 ?_
      refine W.eq (g2 := F0 m 33 ls [.ref (a 9)]) rfl ?_
      refine lv_iconst (v := 1) S.1 S.2.1 dM_pause_33 (by decide) ?_
      refine lv_aload_n S.1 S.2.1 dM_pause_34 rfl (lv_at hl 0 rfl) ?_
      refine kb_get S w 0 rfl fM_34 rfl dM_pause_35 ?_
      refine W.eq (g2 := F0 m 38 ls [.ref (a 9), .int 1, .ref (a 9)]) rfl ?_
      refine lv_iconst (v := 1) S.1 S.2.1 dM_pause_38 (by decide) ?_
      obtain ⟨hi3, h⟩ := kb_ck_of h
      refine kb_iald S w 9 0 rfl rfl hi3 dM_pause_39 ?_
      refine W.eq (g2 := F0 m 40 ls [.int (z1 9 (kb_ix (1))), .int 1, .ref (a 9)]) rfl ?_
      refine lv_iload_n S.1 S.2.1 dM_pause_40 rfl (lv_at hl 1 rfl) ?_
      refine lv_iadd S.1 S.2.1 dM_pause_41 ?_
      obtain ⟨hi4, h⟩ := kb_ck_of h
      obtain ⟨z5, hz6, h⟩ := kb_st_of h
      refine kb_iast S w 9 0 rfl rfl hi4 (ws1 := mW cI cZ a z5) (by rw [hz6]; rfl) dM_pause_42 (fun H locs w => ?_)
      refine lv_aload_n S.1 S.2.1 dM_pause_43 rfl (lv_at hl 0 rfl) ?_
      refine kb_get S w 0 rfl fM_34 rfl dM_pause_44 ?_
      refine W.eq (g2 := F0 m 47 ls [.ref (a 9)]) rfl ?_
      refine lv_iconst (v := 1) S.1 S.2.1 dM_pause_47 (by decide) ?_
      obtain ⟨hi7, h⟩ := kb_ck_of h
      refine kb_iald S w 9 0 rfl rfl hi7 dM_pause_48 ?_
      refine W.eq (g2 := F0 m 49 ls [.int (z5 9 (kb_ix (1)))]) rfl ?_
      exact kb_iret (mW cI cZ a) S hr hlk hA w h dM_pause_49
    · have h := (kb_brf hc).symm.trans h
      refine lv_iconst (v := 0) S.1 S.2.1 dM_pause_27 (by decide) ?_
      exact kb_iret (mW cI cZ a) S hr hlk hA w h dM_pause_28
  have J12 : ∀ (x1 : Int32) (z : kb_S) (H : Heap) (locs : List Loc) (ls : Array Slot), lv_has ls 2 [(0, .ref (a 0)), (1, .int x1)] → kb_W D vwCl [(cI, .int), (cZ, .boolean)] A s H locs (mW cI cZ a z) → pM_pause_J12 x1 z = some (r, z') → W p l e rm_M_pause s m args below meth c H locs 0 0 (MQ below (kb_Qi D vwCl sz (mW cI cZ a z0) r (mW cI cZ a z')) args s 0 0 (va_A (mW cI cZ a z0) sz)) (F0 m 12 ls [.ref (a 0)]) := by
    intro x1 z H locs ls hl w h
    unfold pM_pause_J12 at h
    refine lv_iconst (v := 1) S.1 S.2.1 dM_pause_12 (by decide) ?_
    refine lv_goto (tgt := 17) S.1 S.2.1 dM_pause_13 (by decide) ?_
    exact J17 x1 1 z _ _ _ (lv_sub hl [0, 1] rfl) w h
  refine lv_aload_n S.1 S.2.1 dM_pause_0 rfl (lv_at hl 0 rfl) ?_
  refine lv_iload_n S.1 S.2.1 dM_pause_1 rfl (lv_at hl 1 rfl) ?_
  refine lv_if_lt (tgt := 12) S.1 S.2.1 dM_pause_2 (by decide) (fun hc => ?_) (fun hc => ?_)
  · have h := (kb_brt hc).symm.trans h
    exact J12 x1 z0 _ _ _ (lv_sub hl [0, 1] rfl) w h
  · have h := (kb_brf hc).symm.trans h
    refine lv_iload_n S.1 S.2.1 dM_pause_5 rfl (lv_at hl 1 rfl) ?_
    refine lv_sipush (v := 1000) S.1 S.2.1 dM_pause_6 (by decide) ?_
    refine lv_icmp_le (tgt := 16) S.1 S.2.1 dM_pause_9 (by decide) (fun hc => ?_) (fun hc => ?_)
    · have h := (kb_brt hc).symm.trans h
      refine lv_iconst (v := 0) S.1 S.2.1 dM_pause_16 (by decide) ?_
      exact J17 x1 0 z0 _ _ _ (lv_sub hl [0, 1] rfl) w h
    · have h := (kb_brf hc).symm.trans h
      exact J12 x1 z0 _ _ _ (lv_sub hl [0, 1] rfl) w h
