set_option maxHeartbeats 4000000 in
set_option maxRecDepth 100000 in
theorem cL_time (l : Launch) (D : va_G) (cI cQ cJ : ClassId) (a : Nat → Nat) (nb Q : Nat) (L : List Nat) (o : Nat) (g : Nat → Int64) (z0 z' : kc_S) (r : Int32) (sz : Nat) (x1 : Int32) (x2 : Int32) (h : pB_time nb Q L x1 x2 z0 = some (0, r, z')) : Met l y_L_time (Cond.codeWith y_L_time c_L_time 5 (some .int) hh_L_time :: wsB) rm_L_time (kt_Pc kt_tx D vwCl [(cI, .int), (cQ, .object RReq), (cJ, .long)] sz [.ref (a 0), .int x1, .int x2, .ref o] (oW cJ o g ++ bW cI cQ a nb Q L z0)) (kb_Qi D vwCl sz (oW cJ o g ++ bW cI cQ a nb Q L z0) 0 (oW cJ o (vp_updL g 0 r.toInt64) ++ bW cI cQ a nb Q L z')) 0 0 (va_A (oW cJ o g ++ bW cI cQ a nb Q L z0) sz) := by
  refine kw_start (by decide) rfl (Nat.le_of_ble_eq_true rfl) ?_
  intro p e s m args below meth c A ls S hr hlk hsz hA w U htab hl
  have hl : lv_has ls 5 [(0, .ref (a 0)), (1, .int x1), (2, .int x2), (3, .ref o)] := hl
  refine lv_aload_n S.1 S.2.1 dL_time_0 rfl (lv_at hl 3 rfl) ?_
  refine lv_iconst (v := 0) S.1 S.2.1 dL_time_1 (by decide) ?_
  refine lv_aload_n S.1 S.2.1 dL_time_2 rfl (lv_at hl 0 rfl) ?_
  refine lv_iload_n S.1 S.2.1 dL_time_3 rfl (lv_at hl 1 rfl) ?_
  refine lv_iload_n S.1 S.2.1 dL_time_4 rfl (lv_at hl 2 rfl) ?_
  refine kw_callt (As := [.int x1, .int x2]) (rest := [.int 0, .ref o]) (q0 := 0) (ci := 2) S w U [0, 1] rfl (fun sz => cB_time l D cI cQ a nb Q L _ _ _ sz x1 x2 h) Y_B_time I_B_time S_B_time lL_7 ⟨rfl, rfl, Nat.le_of_ble_eq_true rfl, Nat.le_of_ble_eq_true rfl⟩ rfl rfl rfl rfl hl.1 rfl (Nat.le_of_ble_eq_true rfl) dL_time_5 ⟨Nat.le_of_ble_eq_true rfl, Nat.le_of_ble_eq_true rfl⟩ (fun H locs w => ?_)
  refine lv_i2l S.1 S.2.1 dL_time_8 rfl ?_
  refine kw_last S w 0 2 rfl rfl (by unfold vp_in; decide) (ws1 := oW cJ o (vp_updL g 0 r.toInt64) ++ bW cI cQ a nb Q L z') rfl dL_time_9 (fun H locs w => ?_)
  refine lv_goto (tgt := 25) S.1 S.2.1 dL_time_10 (by decide) ?_
  refine lv_iconst (v := 0) S.1 S.2.1 dL_time_25 (by decide) ?_
  exact kb_iret (fun q : (Nat → Int64) × kc_S => oW cJ o q.1 ++ bW cI cQ a nb Q L q.2) (z := (vp_updL g 0 r.toInt64, z')) (z' := (vp_updL g 0 r.toInt64, z')) S hr hlk hA w rfl dL_time_26
set_option maxHeartbeats 4000000 in
set_option maxRecDepth 100000 in
theorem xL_time_1 (l : Launch) (hst : l.stackTraces = false) (D : va_G) (cI cQ cJ : ClassId) (a : Nat → Nat) (nb Q : Nat) (L : List Nat) (o : Nat) (g : Nat → Int64) (z0 z' : kc_S) (r : Int32) (sz : Nat) (x1 : Int32) (x2 : Int32) (h : pB_time nb Q L x1 x2 z0 = some (1, r, z')) : Met l y_L_time (Cond.codeWith y_L_time c_L_time 5 (some .int) hh_L_time :: wsB) rmx_L_time (kt_Pc kt_tx D vwCl [(cI, .int), (cQ, .object RReq), (cJ, .long)] sz [.ref (a 0), .int x1, .int x2, .ref o] (oW cJ o g ++ bW cI cQ a nb Q L z0)) (kb_Qi D vwCl sz (oW cJ o g ++ bW cI cQ a nb Q L z0) 1 (oW cJ o g ++ bW cI cQ a nb Q L z')) 1 6 (va_A (oW cJ o g ++ bW cI cQ a nb Q L z0) sz) := by
  refine kw_start (by decide) rfl (Nat.le_of_ble_eq_true rfl) ?_
  intro p e s m args below meth c A ls S hr hlk hsz hA w U htab hl
  have hl : lv_has ls 5 [(0, .ref (a 0)), (1, .int x1), (2, .int x2), (3, .ref o)] := hl
  refine lv_aload_n S.1 S.2.1 dL_time_0 rfl (lv_at hl 3 rfl) ?_
  refine lv_iconst (v := 0) S.1 S.2.1 dL_time_1 (by decide) ?_
  refine lv_aload_n S.1 S.2.1 dL_time_2 rfl (lv_at hl 0 rfl) ?_
  refine lv_iload_n S.1 S.2.1 dL_time_3 rfl (lv_at hl 1 rfl) ?_
  refine lv_iload_n S.1 S.2.1 dL_time_4 rfl (lv_at hl 2 rfl) ?_
  refine kw_callX (E := kx_E 1) (As := [.int x1, .int x2]) (rest := [.int 0, .ref o]) (q0 := 0) (ci := 2) S w U [0, 1] rfl (fun sz => xB_time l hst D cI cQ a nb Q L _ _ _ _ sz x1 x2 (by decide) h) Y_B_time I_B_time S_B_time lL_7 ⟨rfl, rfl, Nat.le_of_ble_eq_true rfl, Nat.le_of_ble_eq_true rfl⟩ rfl rfl rfl rfl hl.1 rfl (Nat.le_of_ble_eq_true rfl) dL_time_5 ⟨Nat.le_of_ble_eq_true rfl, Nat.le_of_ble_eq_true rfl⟩ (fun H locs q9 ce w hce hv hcl => ?_)
  refine kt_catch (h := 13) hce hv (Vm.classAt_of_findClass hcl) (fun pl hpl => kw_hit1 (own := "BankSchedulerLaw") (nm := "java/lang/IndexOutOfBoundsException") hpl S.2.2.2.1 htab (by decide) (by decide) (S.2.2.2.2 _ jL_13) (U.2.2.2.2.2.1 (kx_E 1, kx_E 1) (by decide +kernel)) hcl) ?_
  refine lv_astore S.1 S.2.1 dL_time_13 hl (by decide) rfl (fun ls hl => ?_)
  refine lv_iconst (v := 1) S.1 S.2.1 dL_time_15 (by decide) ?_
  exact kb_iret (fun q : (Nat → Int64) × kc_S => oW cJ o q.1 ++ bW cI cQ a nb Q L q.2) (z := (g, z')) (z' := (g, z')) S hr hlk hA w rfl dL_time_16
set_option maxHeartbeats 4000000 in
set_option maxRecDepth 100000 in
theorem xL_time_2 (l : Launch) (hst : l.stackTraces = false) (D : va_G) (cI cQ cJ : ClassId) (a : Nat → Nat) (nb Q : Nat) (L : List Nat) (o : Nat) (g : Nat → Int64) (z0 z' : kc_S) (r : Int32) (sz : Nat) (x1 : Int32) (x2 : Int32) (h : pB_time nb Q L x1 x2 z0 = some (2, r, z')) : Met l y_L_time (Cond.codeWith y_L_time c_L_time 5 (some .int) hh_L_time :: wsB) rmx_L_time (kt_Pc kt_tx D vwCl [(cI, .int), (cQ, .object RReq), (cJ, .long)] sz [.ref (a 0), .int x1, .int x2, .ref o] (oW cJ o g ++ bW cI cQ a nb Q L z0)) (kb_Qi D vwCl sz (oW cJ o g ++ bW cI cQ a nb Q L z0) 2 (oW cJ o g ++ bW cI cQ a nb Q L z')) 1 6 (va_A (oW cJ o g ++ bW cI cQ a nb Q L z0) sz) := by
  refine kw_start (by decide) rfl (Nat.le_of_ble_eq_true rfl) ?_
  intro p e s m args below meth c A ls S hr hlk hsz hA w U htab hl
  have hl : lv_has ls 5 [(0, .ref (a 0)), (1, .int x1), (2, .int x2), (3, .ref o)] := hl
  refine lv_aload_n S.1 S.2.1 dL_time_0 rfl (lv_at hl 3 rfl) ?_
  refine lv_iconst (v := 0) S.1 S.2.1 dL_time_1 (by decide) ?_
  refine lv_aload_n S.1 S.2.1 dL_time_2 rfl (lv_at hl 0 rfl) ?_
  refine lv_iload_n S.1 S.2.1 dL_time_3 rfl (lv_at hl 1 rfl) ?_
  refine lv_iload_n S.1 S.2.1 dL_time_4 rfl (lv_at hl 2 rfl) ?_
  refine kw_callX (E := kx_E 2) (As := [.int x1, .int x2]) (rest := [.int 0, .ref o]) (q0 := 0) (ci := 2) S w U [0, 1] rfl (fun sz => xB_time l hst D cI cQ a nb Q L _ _ _ _ sz x1 x2 (by decide) h) Y_B_time I_B_time S_B_time lL_7 ⟨rfl, rfl, Nat.le_of_ble_eq_true rfl, Nat.le_of_ble_eq_true rfl⟩ rfl rfl rfl rfl hl.1 rfl (Nat.le_of_ble_eq_true rfl) dL_time_5 ⟨Nat.le_of_ble_eq_true rfl, Nat.le_of_ble_eq_true rfl⟩ (fun H locs q9 ce w hce hv hcl => ?_)
  refine kt_catch (h := 17) hce hv (Vm.classAt_of_findClass hcl) (fun pl hpl => kw_hitN (own := "BankSchedulerLaw") (nm := "java/lang/IndexOutOfBoundsException") hpl S.2.2.2.1 htab (by decide) (by decide) (S.2.2.2.2 _ jL_13) (U.2.2.2.2.2.2 (kx_E 2, kx_E 1) (by decide +kernel)) hcl (fun t0 ht0 => kw_hit1 (own := "BankSchedulerLaw") (nm := "java/lang/IllegalArgumentException") hpl S.2.2.2.1 ht0 (by decide) (by decide) (S.2.2.2.2 _ jL_15) (U.2.2.2.2.2.1 (kx_E 2, kx_E 2) (by decide +kernel)) hcl)) ?_
  refine lv_astore S.1 S.2.1 dL_time_17 hl (by decide) rfl (fun ls hl => ?_)
  refine lv_iconst (v := 2) S.1 S.2.1 dL_time_19 (by decide) ?_
  exact kb_iret (fun q : (Nat → Int64) × kc_S => oW cJ o q.1 ++ bW cI cQ a nb Q L q.2) (z := (g, z')) (z' := (g, z')) S hr hlk hA w rfl dL_time_20
set_option maxHeartbeats 4000000 in
set_option maxRecDepth 100000 in
theorem xL_time_3 (l : Launch) (hst : l.stackTraces = false) (D : va_G) (cI cQ cJ : ClassId) (a : Nat → Nat) (nb Q : Nat) (L : List Nat) (o : Nat) (g : Nat → Int64) (z0 z' : kc_S) (r : Int32) (sz : Nat) (x1 : Int32) (x2 : Int32) (h : pB_time nb Q L x1 x2 z0 = some (3, r, z')) : Met l y_L_time (Cond.codeWith y_L_time c_L_time 5 (some .int) hh_L_time :: wsB) rmx_L_time (kt_Pc kt_tx D vwCl [(cI, .int), (cQ, .object RReq), (cJ, .long)] sz [.ref (a 0), .int x1, .int x2, .ref o] (oW cJ o g ++ bW cI cQ a nb Q L z0)) (kb_Qi D vwCl sz (oW cJ o g ++ bW cI cQ a nb Q L z0) 3 (oW cJ o g ++ bW cI cQ a nb Q L z')) 1 6 (va_A (oW cJ o g ++ bW cI cQ a nb Q L z0) sz) := by
  refine kw_start (by decide) rfl (Nat.le_of_ble_eq_true rfl) ?_
  intro p e s m args below meth c A ls S hr hlk hsz hA w U htab hl
  have hl : lv_has ls 5 [(0, .ref (a 0)), (1, .int x1), (2, .int x2), (3, .ref o)] := hl
  refine lv_aload_n S.1 S.2.1 dL_time_0 rfl (lv_at hl 3 rfl) ?_
  refine lv_iconst (v := 0) S.1 S.2.1 dL_time_1 (by decide) ?_
  refine lv_aload_n S.1 S.2.1 dL_time_2 rfl (lv_at hl 0 rfl) ?_
  refine lv_iload_n S.1 S.2.1 dL_time_3 rfl (lv_at hl 1 rfl) ?_
  refine lv_iload_n S.1 S.2.1 dL_time_4 rfl (lv_at hl 2 rfl) ?_
  refine kw_callX (E := kx_E 3) (As := [.int x1, .int x2]) (rest := [.int 0, .ref o]) (q0 := 0) (ci := 2) S w U [0, 1] rfl (fun sz => xB_time l hst D cI cQ a nb Q L _ _ _ _ sz x1 x2 (by decide) h) Y_B_time I_B_time S_B_time lL_7 ⟨rfl, rfl, Nat.le_of_ble_eq_true rfl, Nat.le_of_ble_eq_true rfl⟩ rfl rfl rfl rfl hl.1 rfl (Nat.le_of_ble_eq_true rfl) dL_time_5 ⟨Nat.le_of_ble_eq_true rfl, Nat.le_of_ble_eq_true rfl⟩ (fun H locs q9 ce w hce hv hcl => ?_)
  refine kt_catch (h := 21) hce hv (Vm.classAt_of_findClass hcl) (fun pl hpl => kw_hitN (own := "BankSchedulerLaw") (nm := "java/lang/IndexOutOfBoundsException") hpl S.2.2.2.1 htab (by decide) (by decide) (S.2.2.2.2 _ jL_13) (U.2.2.2.2.2.2 (kx_E 3, kx_E 1) (by decide +kernel)) hcl (fun t0 ht0 => kw_hitN (own := "BankSchedulerLaw") (nm := "java/lang/IllegalArgumentException") hpl S.2.2.2.1 ht0 (by decide) (by decide) (S.2.2.2.2 _ jL_15) (U.2.2.2.2.2.2 (kx_E 3, kx_E 2) (by decide +kernel)) hcl (fun t1 ht1 => kw_hit1 (own := "BankSchedulerLaw") (nm := "java/lang/IllegalStateException") hpl S.2.2.2.1 ht1 (by decide) (by decide) (S.2.2.2.2 _ jL_17) (U.2.2.2.2.2.1 (kx_E 3, kx_E 3) (by decide +kernel)) hcl))) ?_
  refine lv_astore S.1 S.2.1 dL_time_21 hl (by decide) rfl (fun ls hl => ?_)
  refine lv_iconst (v := 3) S.1 S.2.1 dL_time_23 (by decide) ?_
  exact kb_iret (fun q : (Nat → Int64) × kc_S => oW cJ o q.1 ++ bW cI cQ a nb Q L q.2) (z := (g, z')) (z' := (g, z')) S hr hlk hA w rfl dL_time_24
set_option maxHeartbeats 4000000 in
set_option maxRecDepth 100000 in
theorem cL_read (l : Launch) (D : va_G) (cI cQ cJ : ClassId) (a : Nat → Nat) (nb Q : Nat) (L : List Nat) (o : Nat) (g : Nat → Int64) (z0 z' : kc_S) (r : Int32) (sz : Nat) (x1 : Int32) (x2 : Int32) (x3 : Int32) (h : pB_read nb Q L x1 x2 x3 z0 = some (0, r, z')) : Met l y_L_read (Cond.codeWith y_L_read c_L_read 6 (some .int) hh_L_read :: wsB) rm_L_read (kt_Pc kt_tx D vwCl [(cI, .int), (cQ, .object RReq), (cJ, .long)] sz [.ref (a 0), .int x1, .int x2, .int x3, .ref o] (oW cJ o g ++ bW cI cQ a nb Q L z0)) (kb_Qi D vwCl sz (oW cJ o g ++ bW cI cQ a nb Q L z0) 0 (oW cJ o (vp_updL g 0 r.toInt64) ++ bW cI cQ a nb Q L z')) 0 0 (va_A (oW cJ o g ++ bW cI cQ a nb Q L z0) sz) := by
  refine kw_start (by decide) rfl (Nat.le_of_ble_eq_true rfl) ?_
  intro p e s m args below meth c A ls S hr hlk hsz hA w U htab hl
  have hl : lv_has ls 6 [(0, .ref (a 0)), (1, .int x1), (2, .int x2), (3, .int x3), (4, .ref o)] := hl
  refine lv_aload S.1 S.2.1 dL_read_0 (lv_at hl 4 rfl) ?_
  refine lv_iconst (v := 0) S.1 S.2.1 dL_read_2 (by decide) ?_
  refine lv_aload_n S.1 S.2.1 dL_read_3 rfl (lv_at hl 0 rfl) ?_
  refine lv_iload_n S.1 S.2.1 dL_read_4 rfl (lv_at hl 1 rfl) ?_
  refine lv_iload_n S.1 S.2.1 dL_read_5 rfl (lv_at hl 2 rfl) ?_
  refine lv_iload_n S.1 S.2.1 dL_read_6 rfl (lv_at hl 3 rfl) ?_
  refine kw_callt (As := [.int x1, .int x2, .int x3]) (rest := [.int 0, .ref o]) (q0 := 0) (ci := 2) S w U [0, 1] rfl (fun sz => cB_read l D cI cQ a nb Q L _ _ _ sz x1 x2 x3 h) Y_B_read I_B_read S_B_read lL_19 ⟨rfl, rfl, Nat.le_of_ble_eq_true rfl, Nat.le_of_ble_eq_true rfl⟩ rfl rfl rfl rfl hl.1 rfl (Nat.le_of_ble_eq_true rfl) dL_read_7 ⟨Nat.le_of_ble_eq_true rfl, Nat.le_of_ble_eq_true rfl⟩ (fun H locs w => ?_)
  refine lv_i2l S.1 S.2.1 dL_read_10 rfl ?_
  refine kw_last S w 0 2 rfl rfl (by unfold vp_in; decide) (ws1 := oW cJ o (vp_updL g 0 r.toInt64) ++ bW cI cQ a nb Q L z') rfl dL_read_11 (fun H locs w => ?_)
  refine lv_goto (tgt := 23) S.1 S.2.1 dL_read_12 (by decide) ?_
  refine lv_iconst (v := 0) S.1 S.2.1 dL_read_23 (by decide) ?_
  exact kb_iret (fun q : (Nat → Int64) × kc_S => oW cJ o q.1 ++ bW cI cQ a nb Q L q.2) (z := (vp_updL g 0 r.toInt64, z')) (z' := (vp_updL g 0 r.toInt64, z')) S hr hlk hA w rfl dL_read_24
set_option maxHeartbeats 4000000 in
set_option maxRecDepth 100000 in
theorem xL_read_1 (l : Launch) (hst : l.stackTraces = false) (D : va_G) (cI cQ cJ : ClassId) (a : Nat → Nat) (nb Q : Nat) (L : List Nat) (o : Nat) (g : Nat → Int64) (z0 z' : kc_S) (r : Int32) (sz : Nat) (x1 : Int32) (x2 : Int32) (x3 : Int32) (h : pB_read nb Q L x1 x2 x3 z0 = some (1, r, z')) : Met l y_L_read (Cond.codeWith y_L_read c_L_read 6 (some .int) hh_L_read :: wsB) rmx_L_read (kt_Pc kt_tx D vwCl [(cI, .int), (cQ, .object RReq), (cJ, .long)] sz [.ref (a 0), .int x1, .int x2, .int x3, .ref o] (oW cJ o g ++ bW cI cQ a nb Q L z0)) (kb_Qi D vwCl sz (oW cJ o g ++ bW cI cQ a nb Q L z0) 1 (oW cJ o g ++ bW cI cQ a nb Q L z')) 1 6 (va_A (oW cJ o g ++ bW cI cQ a nb Q L z0) sz) := by
  refine kw_start (by decide) rfl (Nat.le_of_ble_eq_true rfl) ?_
  intro p e s m args below meth c A ls S hr hlk hsz hA w U htab hl
  have hl : lv_has ls 6 [(0, .ref (a 0)), (1, .int x1), (2, .int x2), (3, .int x3), (4, .ref o)] := hl
  refine lv_aload S.1 S.2.1 dL_read_0 (lv_at hl 4 rfl) ?_
  refine lv_iconst (v := 0) S.1 S.2.1 dL_read_2 (by decide) ?_
  refine lv_aload_n S.1 S.2.1 dL_read_3 rfl (lv_at hl 0 rfl) ?_
  refine lv_iload_n S.1 S.2.1 dL_read_4 rfl (lv_at hl 1 rfl) ?_
  refine lv_iload_n S.1 S.2.1 dL_read_5 rfl (lv_at hl 2 rfl) ?_
  refine lv_iload_n S.1 S.2.1 dL_read_6 rfl (lv_at hl 3 rfl) ?_
  refine kw_callX (E := kx_E 1) (As := [.int x1, .int x2, .int x3]) (rest := [.int 0, .ref o]) (q0 := 0) (ci := 2) S w U [0, 1] rfl (fun sz => xB_read l hst D cI cQ a nb Q L _ _ _ _ sz x1 x2 x3 (by decide) h) Y_B_read I_B_read S_B_read lL_19 ⟨rfl, rfl, Nat.le_of_ble_eq_true rfl, Nat.le_of_ble_eq_true rfl⟩ rfl rfl rfl rfl hl.1 rfl (Nat.le_of_ble_eq_true rfl) dL_read_7 ⟨Nat.le_of_ble_eq_true rfl, Nat.le_of_ble_eq_true rfl⟩ (fun H locs q9 ce w hce hv hcl => ?_)
  refine kt_catch (h := 15) hce hv (Vm.classAt_of_findClass hcl) (fun pl hpl => kw_hit1 (own := "BankSchedulerLaw") (nm := "java/lang/IndexOutOfBoundsException") hpl S.2.2.2.1 htab (by decide) (by decide) (S.2.2.2.2 _ jL_13) (U.2.2.2.2.2.1 (kx_E 1, kx_E 1) (by decide +kernel)) hcl) ?_
  refine lv_astore S.1 S.2.1 dL_read_15 hl (by decide) rfl (fun ls hl => ?_)
  refine lv_iconst (v := 1) S.1 S.2.1 dL_read_17 (by decide) ?_
  exact kb_iret (fun q : (Nat → Int64) × kc_S => oW cJ o q.1 ++ bW cI cQ a nb Q L q.2) (z := (g, z')) (z' := (g, z')) S hr hlk hA w rfl dL_read_18
set_option maxHeartbeats 4000000 in
set_option maxRecDepth 100000 in
theorem xL_read_3 (l : Launch) (hst : l.stackTraces = false) (D : va_G) (cI cQ cJ : ClassId) (a : Nat → Nat) (nb Q : Nat) (L : List Nat) (o : Nat) (g : Nat → Int64) (z0 z' : kc_S) (r : Int32) (sz : Nat) (x1 : Int32) (x2 : Int32) (x3 : Int32) (h : pB_read nb Q L x1 x2 x3 z0 = some (3, r, z')) : Met l y_L_read (Cond.codeWith y_L_read c_L_read 6 (some .int) hh_L_read :: wsB) rmx_L_read (kt_Pc kt_tx D vwCl [(cI, .int), (cQ, .object RReq), (cJ, .long)] sz [.ref (a 0), .int x1, .int x2, .int x3, .ref o] (oW cJ o g ++ bW cI cQ a nb Q L z0)) (kb_Qi D vwCl sz (oW cJ o g ++ bW cI cQ a nb Q L z0) 2 (oW cJ o g ++ bW cI cQ a nb Q L z')) 1 6 (va_A (oW cJ o g ++ bW cI cQ a nb Q L z0) sz) := by
  refine kw_start (by decide) rfl (Nat.le_of_ble_eq_true rfl) ?_
  intro p e s m args below meth c A ls S hr hlk hsz hA w U htab hl
  have hl : lv_has ls 6 [(0, .ref (a 0)), (1, .int x1), (2, .int x2), (3, .int x3), (4, .ref o)] := hl
  refine lv_aload S.1 S.2.1 dL_read_0 (lv_at hl 4 rfl) ?_
  refine lv_iconst (v := 0) S.1 S.2.1 dL_read_2 (by decide) ?_
  refine lv_aload_n S.1 S.2.1 dL_read_3 rfl (lv_at hl 0 rfl) ?_
  refine lv_iload_n S.1 S.2.1 dL_read_4 rfl (lv_at hl 1 rfl) ?_
  refine lv_iload_n S.1 S.2.1 dL_read_5 rfl (lv_at hl 2 rfl) ?_
  refine lv_iload_n S.1 S.2.1 dL_read_6 rfl (lv_at hl 3 rfl) ?_
  refine kw_callX (E := kx_E 3) (As := [.int x1, .int x2, .int x3]) (rest := [.int 0, .ref o]) (q0 := 0) (ci := 2) S w U [0, 1] rfl (fun sz => xB_read l hst D cI cQ a nb Q L _ _ _ _ sz x1 x2 x3 (by decide) h) Y_B_read I_B_read S_B_read lL_19 ⟨rfl, rfl, Nat.le_of_ble_eq_true rfl, Nat.le_of_ble_eq_true rfl⟩ rfl rfl rfl rfl hl.1 rfl (Nat.le_of_ble_eq_true rfl) dL_read_7 ⟨Nat.le_of_ble_eq_true rfl, Nat.le_of_ble_eq_true rfl⟩ (fun H locs q9 ce w hce hv hcl => ?_)
  refine kt_catch (h := 19) hce hv (Vm.classAt_of_findClass hcl) (fun pl hpl => kw_hitN (own := "BankSchedulerLaw") (nm := "java/lang/IndexOutOfBoundsException") hpl S.2.2.2.1 htab (by decide) (by decide) (S.2.2.2.2 _ jL_13) (U.2.2.2.2.2.2 (kx_E 3, kx_E 1) (by decide +kernel)) hcl (fun t0 ht0 => kw_hit1 (own := "BankSchedulerLaw") (nm := "java/lang/IllegalStateException") hpl S.2.2.2.1 ht0 (by decide) (by decide) (S.2.2.2.2 _ jL_17) (U.2.2.2.2.2.1 (kx_E 3, kx_E 3) (by decide +kernel)) hcl)) ?_
  refine lv_astore S.1 S.2.1 dL_read_19 hl (by decide) rfl (fun ls hl => ?_)
  refine lv_iconst (v := 2) S.1 S.2.1 dL_read_21 (by decide) ?_
  exact kb_iret (fun q : (Nat → Int64) × kc_S => oW cJ o q.1 ++ bW cI cQ a nb Q L q.2) (z := (g, z')) (z' := (g, z')) S hr hlk hA w rfl dL_read_22
set_option maxHeartbeats 4000000 in
set_option maxRecDepth 100000 in
theorem cL_write (l : Launch) (D : va_G) (cI cQ cJ : ClassId) (a : Nat → Nat) (nb Q : Nat) (L : List Nat) (o : Nat) (g : Nat → Int64) (z0 z' : kc_S) (r : Int32) (sz : Nat) (x1 : Int32) (x2 : Int32) (x3 : Int32) (x4 : Int32) (h : pB_write nb Q L x1 x2 x3 x4 z0 = some (0, r, z')) : Met l y_L_write (Cond.codeWith y_L_write c_L_write 7 (some .int) hh_L_write :: wsB) rm_L_write (kt_Pc kt_tx D vwCl [(cI, .int), (cQ, .object RReq), (cJ, .long)] sz [.ref (a 0), .int x1, .int x2, .int x3, .int x4, .ref o] (oW cJ o g ++ bW cI cQ a nb Q L z0)) (kb_Qi D vwCl sz (oW cJ o g ++ bW cI cQ a nb Q L z0) 0 (oW cJ o (vp_updL g 0 r.toInt64) ++ bW cI cQ a nb Q L z')) 0 0 (va_A (oW cJ o g ++ bW cI cQ a nb Q L z0) sz) := by
  refine kw_start (by decide) rfl (Nat.le_of_ble_eq_true rfl) ?_
  intro p e s m args below meth c A ls S hr hlk hsz hA w U htab hl
  have hl : lv_has ls 7 [(0, .ref (a 0)), (1, .int x1), (2, .int x2), (3, .int x3), (4, .int x4), (5, .ref o)] := hl
  refine lv_aload S.1 S.2.1 dL_write_0 (lv_at hl 5 rfl) ?_
  refine lv_iconst (v := 0) S.1 S.2.1 dL_write_2 (by decide) ?_
  refine lv_aload_n S.1 S.2.1 dL_write_3 rfl (lv_at hl 0 rfl) ?_
  refine lv_iload_n S.1 S.2.1 dL_write_4 rfl (lv_at hl 1 rfl) ?_
  refine lv_iload_n S.1 S.2.1 dL_write_5 rfl (lv_at hl 2 rfl) ?_
  refine lv_iload_n S.1 S.2.1 dL_write_6 rfl (lv_at hl 3 rfl) ?_
  refine lv_iload S.1 S.2.1 dL_write_7 (lv_at hl 4 rfl) ?_
  refine kw_callt (As := [.int x1, .int x2, .int x3, .int x4]) (rest := [.int 0, .ref o]) (q0 := 0) (ci := 2) S w U [0, 1] rfl (fun sz => cB_write l D cI cQ a nb Q L _ _ _ sz x1 x2 x3 x4 h) Y_B_write I_B_write S_B_write lL_23 ⟨rfl, rfl, Nat.le_of_ble_eq_true rfl, Nat.le_of_ble_eq_true rfl⟩ rfl rfl rfl rfl hl.1 rfl (Nat.le_of_ble_eq_true rfl) dL_write_9 ⟨Nat.le_of_ble_eq_true rfl, Nat.le_of_ble_eq_true rfl⟩ (fun H locs w => ?_)
  refine lv_i2l S.1 S.2.1 dL_write_12 rfl ?_
  refine kw_last S w 0 2 rfl rfl (by unfold vp_in; decide) (ws1 := oW cJ o (vp_updL g 0 r.toInt64) ++ bW cI cQ a nb Q L z') rfl dL_write_13 (fun H locs w => ?_)
  refine lv_goto (tgt := 25) S.1 S.2.1 dL_write_14 (by decide) ?_
  refine lv_iconst (v := 0) S.1 S.2.1 dL_write_25 (by decide) ?_
  exact kb_iret (fun q : (Nat → Int64) × kc_S => oW cJ o q.1 ++ bW cI cQ a nb Q L q.2) (z := (vp_updL g 0 r.toInt64, z')) (z' := (vp_updL g 0 r.toInt64, z')) S hr hlk hA w rfl dL_write_26
set_option maxHeartbeats 4000000 in
set_option maxRecDepth 100000 in
theorem xL_write_1 (l : Launch) (hst : l.stackTraces = false) (D : va_G) (cI cQ cJ : ClassId) (a : Nat → Nat) (nb Q : Nat) (L : List Nat) (o : Nat) (g : Nat → Int64) (z0 z' : kc_S) (r : Int32) (sz : Nat) (x1 : Int32) (x2 : Int32) (x3 : Int32) (x4 : Int32) (h : pB_write nb Q L x1 x2 x3 x4 z0 = some (1, r, z')) : Met l y_L_write (Cond.codeWith y_L_write c_L_write 7 (some .int) hh_L_write :: wsB) rmx_L_write (kt_Pc kt_tx D vwCl [(cI, .int), (cQ, .object RReq), (cJ, .long)] sz [.ref (a 0), .int x1, .int x2, .int x3, .int x4, .ref o] (oW cJ o g ++ bW cI cQ a nb Q L z0)) (kb_Qi D vwCl sz (oW cJ o g ++ bW cI cQ a nb Q L z0) 1 (oW cJ o g ++ bW cI cQ a nb Q L z')) 1 6 (va_A (oW cJ o g ++ bW cI cQ a nb Q L z0) sz) := by
  refine kw_start (by decide) rfl (Nat.le_of_ble_eq_true rfl) ?_
  intro p e s m args below meth c A ls S hr hlk hsz hA w U htab hl
  have hl : lv_has ls 7 [(0, .ref (a 0)), (1, .int x1), (2, .int x2), (3, .int x3), (4, .int x4), (5, .ref o)] := hl
  refine lv_aload S.1 S.2.1 dL_write_0 (lv_at hl 5 rfl) ?_
  refine lv_iconst (v := 0) S.1 S.2.1 dL_write_2 (by decide) ?_
  refine lv_aload_n S.1 S.2.1 dL_write_3 rfl (lv_at hl 0 rfl) ?_
  refine lv_iload_n S.1 S.2.1 dL_write_4 rfl (lv_at hl 1 rfl) ?_
  refine lv_iload_n S.1 S.2.1 dL_write_5 rfl (lv_at hl 2 rfl) ?_
  refine lv_iload_n S.1 S.2.1 dL_write_6 rfl (lv_at hl 3 rfl) ?_
  refine lv_iload S.1 S.2.1 dL_write_7 (lv_at hl 4 rfl) ?_
  refine kw_callX (E := kx_E 1) (As := [.int x1, .int x2, .int x3, .int x4]) (rest := [.int 0, .ref o]) (q0 := 0) (ci := 2) S w U [0, 1] rfl (fun sz => xB_write l hst D cI cQ a nb Q L _ _ _ _ sz x1 x2 x3 x4 (by decide) h) Y_B_write I_B_write S_B_write lL_23 ⟨rfl, rfl, Nat.le_of_ble_eq_true rfl, Nat.le_of_ble_eq_true rfl⟩ rfl rfl rfl rfl hl.1 rfl (Nat.le_of_ble_eq_true rfl) dL_write_9 ⟨Nat.le_of_ble_eq_true rfl, Nat.le_of_ble_eq_true rfl⟩ (fun H locs q9 ce w hce hv hcl => ?_)
  refine kt_catch (h := 17) hce hv (Vm.classAt_of_findClass hcl) (fun pl hpl => kw_hit1 (own := "BankSchedulerLaw") (nm := "java/lang/IndexOutOfBoundsException") hpl S.2.2.2.1 htab (by decide) (by decide) (S.2.2.2.2 _ jL_13) (U.2.2.2.2.2.1 (kx_E 1, kx_E 1) (by decide +kernel)) hcl) ?_
  refine lv_astore S.1 S.2.1 dL_write_17 hl (by decide) rfl (fun ls hl => ?_)
  refine lv_iconst (v := 1) S.1 S.2.1 dL_write_19 (by decide) ?_
  exact kb_iret (fun q : (Nat → Int64) × kc_S => oW cJ o q.1 ++ bW cI cQ a nb Q L q.2) (z := (g, z')) (z' := (g, z')) S hr hlk hA w rfl dL_write_20
set_option maxHeartbeats 4000000 in
set_option maxRecDepth 100000 in
theorem xL_write_3 (l : Launch) (hst : l.stackTraces = false) (D : va_G) (cI cQ cJ : ClassId) (a : Nat → Nat) (nb Q : Nat) (L : List Nat) (o : Nat) (g : Nat → Int64) (z0 z' : kc_S) (r : Int32) (sz : Nat) (x1 : Int32) (x2 : Int32) (x3 : Int32) (x4 : Int32) (h : pB_write nb Q L x1 x2 x3 x4 z0 = some (3, r, z')) : Met l y_L_write (Cond.codeWith y_L_write c_L_write 7 (some .int) hh_L_write :: wsB) rmx_L_write (kt_Pc kt_tx D vwCl [(cI, .int), (cQ, .object RReq), (cJ, .long)] sz [.ref (a 0), .int x1, .int x2, .int x3, .int x4, .ref o] (oW cJ o g ++ bW cI cQ a nb Q L z0)) (kb_Qi D vwCl sz (oW cJ o g ++ bW cI cQ a nb Q L z0) 2 (oW cJ o g ++ bW cI cQ a nb Q L z')) 1 6 (va_A (oW cJ o g ++ bW cI cQ a nb Q L z0) sz) := by
  refine kw_start (by decide) rfl (Nat.le_of_ble_eq_true rfl) ?_
  intro p e s m args below meth c A ls S hr hlk hsz hA w U htab hl
  have hl : lv_has ls 7 [(0, .ref (a 0)), (1, .int x1), (2, .int x2), (3, .int x3), (4, .int x4), (5, .ref o)] := hl
  refine lv_aload S.1 S.2.1 dL_write_0 (lv_at hl 5 rfl) ?_
  refine lv_iconst (v := 0) S.1 S.2.1 dL_write_2 (by decide) ?_
  refine lv_aload_n S.1 S.2.1 dL_write_3 rfl (lv_at hl 0 rfl) ?_
  refine lv_iload_n S.1 S.2.1 dL_write_4 rfl (lv_at hl 1 rfl) ?_
  refine lv_iload_n S.1 S.2.1 dL_write_5 rfl (lv_at hl 2 rfl) ?_
  refine lv_iload_n S.1 S.2.1 dL_write_6 rfl (lv_at hl 3 rfl) ?_
  refine lv_iload S.1 S.2.1 dL_write_7 (lv_at hl 4 rfl) ?_
  refine kw_callX (E := kx_E 3) (As := [.int x1, .int x2, .int x3, .int x4]) (rest := [.int 0, .ref o]) (q0 := 0) (ci := 2) S w U [0, 1] rfl (fun sz => xB_write l hst D cI cQ a nb Q L _ _ _ _ sz x1 x2 x3 x4 (by decide) h) Y_B_write I_B_write S_B_write lL_23 ⟨rfl, rfl, Nat.le_of_ble_eq_true rfl, Nat.le_of_ble_eq_true rfl⟩ rfl rfl rfl rfl hl.1 rfl (Nat.le_of_ble_eq_true rfl) dL_write_9 ⟨Nat.le_of_ble_eq_true rfl, Nat.le_of_ble_eq_true rfl⟩ (fun H locs q9 ce w hce hv hcl => ?_)
  refine kt_catch (h := 21) hce hv (Vm.classAt_of_findClass hcl) (fun pl hpl => kw_hitN (own := "BankSchedulerLaw") (nm := "java/lang/IndexOutOfBoundsException") hpl S.2.2.2.1 htab (by decide) (by decide) (S.2.2.2.2 _ jL_13) (U.2.2.2.2.2.2 (kx_E 3, kx_E 1) (by decide +kernel)) hcl (fun t0 ht0 => kw_hit1 (own := "BankSchedulerLaw") (nm := "java/lang/IllegalStateException") hpl S.2.2.2.1 ht0 (by decide) (by decide) (S.2.2.2.2 _ jL_17) (U.2.2.2.2.2.1 (kx_E 3, kx_E 3) (by decide +kernel)) hcl)) ?_
  refine lv_astore S.1 S.2.1 dL_write_21 hl (by decide) rfl (fun ls hl => ?_)
  refine lv_iconst (v := 2) S.1 S.2.1 dL_write_23 (by decide) ?_
  exact kb_iret (fun q : (Nat → Int64) × kc_S => oW cJ o q.1 ++ bW cI cQ a nb Q L q.2) (z := (g, z')) (z' := (g, z')) S hr hlk hA w rfl dL_write_24
set_option maxHeartbeats 4000000 in
set_option maxRecDepth 100000 in
theorem cL_run (l : Launch) (D : va_G) (cI cQ cJ : ClassId) (a : Nat → Nat) (nb Q : Nat) (L : List Nat) (o : Nat) (g : Nat → Int64) (z0 z' : kc_S) (r : Int32) (sz : Nat) (x1 : Int32) (h : pB_run nb Q L x1 z0 = some (0, r, z')) : Met l y_L_run (Cond.codeWith y_L_run c_L_run 4 (some .int) hh_L_run :: wsB) rm_L_run (kt_Pc kt_tx D vwCl [(cI, .int), (cQ, .object RReq), (cJ, .long)] sz [.ref (a 0), .int x1, .ref o] (oW cJ o g ++ bW cI cQ a nb Q L z0)) (kb_Qi D vwCl sz (oW cJ o g ++ bW cI cQ a nb Q L z0) 0 (oW cJ o (vp_updL g 0 r.toInt64) ++ bW cI cQ a nb Q L z')) 0 0 (va_A (oW cJ o g ++ bW cI cQ a nb Q L z0) sz) := by
  refine kw_start (by decide) rfl (Nat.le_of_ble_eq_true rfl) ?_
  intro p e s m args below meth c A ls S hr hlk hsz hA w U htab hl
  have hl : lv_has ls 4 [(0, .ref (a 0)), (1, .int x1), (2, .ref o)] := hl
  refine lv_aload_n S.1 S.2.1 dL_run_0 rfl (lv_at hl 2 rfl) ?_
  refine lv_iconst (v := 0) S.1 S.2.1 dL_run_1 (by decide) ?_
  refine lv_aload_n S.1 S.2.1 dL_run_2 rfl (lv_at hl 0 rfl) ?_
  refine lv_iload_n S.1 S.2.1 dL_run_3 rfl (lv_at hl 1 rfl) ?_
  refine kw_callt (As := [.int x1]) (rest := [.int 0, .ref o]) (q0 := 0) (ci := 2) S w U [0, 1] rfl (fun sz => cB_run l D cI cQ a nb Q L _ _ _ sz x1 h) Y_B_run I_B_run S_B_run lL_27 ⟨rfl, rfl, Nat.le_of_ble_eq_true rfl, Nat.le_of_ble_eq_true rfl⟩ rfl rfl rfl rfl hl.1 rfl (Nat.le_of_ble_eq_true rfl) dL_run_4 ⟨Nat.le_of_ble_eq_true rfl, Nat.le_of_ble_eq_true rfl⟩ (fun H locs w => ?_)
  refine lv_i2l S.1 S.2.1 dL_run_7 rfl ?_
  refine kw_last S w 0 2 rfl rfl (by unfold vp_in; decide) (ws1 := oW cJ o (vp_updL g 0 r.toInt64) ++ bW cI cQ a nb Q L z') rfl dL_run_8 (fun H locs w => ?_)
  refine lv_goto (tgt := 15) S.1 S.2.1 dL_run_9 (by decide) ?_
  refine lv_iconst (v := 0) S.1 S.2.1 dL_run_15 (by decide) ?_
  exact kb_iret (fun q : (Nat → Int64) × kc_S => oW cJ o q.1 ++ bW cI cQ a nb Q L q.2) (z := (vp_updL g 0 r.toInt64, z')) (z' := (vp_updL g 0 r.toInt64, z')) S hr hlk hA w rfl dL_run_16
set_option maxHeartbeats 4000000 in
set_option maxRecDepth 100000 in
theorem xL_run_2 (l : Launch) (hst : l.stackTraces = false) (D : va_G) (cI cQ cJ : ClassId) (a : Nat → Nat) (nb Q : Nat) (L : List Nat) (o : Nat) (g : Nat → Int64) (z0 z' : kc_S) (r : Int32) (sz : Nat) (x1 : Int32) (h : pB_run nb Q L x1 z0 = some (2, r, z')) : Met l y_L_run (Cond.codeWith y_L_run c_L_run 4 (some .int) hh_L_run :: wsB) rmx_L_run (kt_Pc kt_tx D vwCl [(cI, .int), (cQ, .object RReq), (cJ, .long)] sz [.ref (a 0), .int x1, .ref o] (oW cJ o g ++ bW cI cQ a nb Q L z0)) (kb_Qi D vwCl sz (oW cJ o g ++ bW cI cQ a nb Q L z0) 1 (oW cJ o g ++ bW cI cQ a nb Q L z')) 1 6 (va_A (oW cJ o g ++ bW cI cQ a nb Q L z0) sz) := by
  refine kw_start (by decide) rfl (Nat.le_of_ble_eq_true rfl) ?_
  intro p e s m args below meth c A ls S hr hlk hsz hA w U htab hl
  have hl : lv_has ls 4 [(0, .ref (a 0)), (1, .int x1), (2, .ref o)] := hl
  refine lv_aload_n S.1 S.2.1 dL_run_0 rfl (lv_at hl 2 rfl) ?_
  refine lv_iconst (v := 0) S.1 S.2.1 dL_run_1 (by decide) ?_
  refine lv_aload_n S.1 S.2.1 dL_run_2 rfl (lv_at hl 0 rfl) ?_
  refine lv_iload_n S.1 S.2.1 dL_run_3 rfl (lv_at hl 1 rfl) ?_
  refine kw_callX (E := kx_E 2) (As := [.int x1]) (rest := [.int 0, .ref o]) (q0 := 0) (ci := 2) S w U [0, 1] rfl (fun sz => xB_run l hst D cI cQ a nb Q L _ _ _ _ sz x1 (by decide) h) Y_B_run I_B_run S_B_run lL_27 ⟨rfl, rfl, Nat.le_of_ble_eq_true rfl, Nat.le_of_ble_eq_true rfl⟩ rfl rfl rfl rfl hl.1 rfl (Nat.le_of_ble_eq_true rfl) dL_run_4 ⟨Nat.le_of_ble_eq_true rfl, Nat.le_of_ble_eq_true rfl⟩ (fun H locs q9 ce w hce hv hcl => ?_)
  refine kt_catch (h := 12) hce hv (Vm.classAt_of_findClass hcl) (fun pl hpl => kw_hit1 (own := "BankSchedulerLaw") (nm := "java/lang/IllegalArgumentException") hpl S.2.2.2.1 htab (by decide) (by decide) (S.2.2.2.2 _ jL_15) (U.2.2.2.2.2.1 (kx_E 2, kx_E 2) (by decide +kernel)) hcl) ?_
  refine lv_astore_n S.1 S.2.1 dL_run_12 rfl hl (by decide) rfl (fun ls hl => ?_)
  refine lv_iconst (v := 1) S.1 S.2.1 dL_run_13 (by decide) ?_
  exact kb_iret (fun q : (Nat → Int64) × kc_S => oW cJ o q.1 ++ bW cI cQ a nb Q L q.2) (z := (g, z')) (z' := (g, z')) S hr hlk hA w rfl dL_run_14
set_option maxHeartbeats 4000000 in
set_option maxRecDepth 100000 in
theorem cL_result (l : Launch) (D : va_G) (cI cQ cJ : ClassId) (a : Nat → Nat) (nb Q : Nat) (L : List Nat) (o : Nat) (g : Nat → Int64) (z0 z' : kc_S) (r : Int32) (sz : Nat) (x1 : Int32) (h : pB_result nb Q L x1 z0 = some (0, r, z')) : Met l y_L_result (Cond.codeWith y_L_result c_L_result 4 (some .int) hh_L_result :: wsB) rm_L_result (kt_Pc kt_tx D vwCl [(cI, .int), (cQ, .object RReq), (cJ, .long)] sz [.ref (a 0), .int x1, .ref o] (oW cJ o g ++ bW cI cQ a nb Q L z0)) (kb_Qi D vwCl sz (oW cJ o g ++ bW cI cQ a nb Q L z0) 0 (oW cJ o (vp_updL g 0 r.toInt64) ++ bW cI cQ a nb Q L z')) 0 0 (va_A (oW cJ o g ++ bW cI cQ a nb Q L z0) sz) := by
  refine kw_start (by decide) rfl (Nat.le_of_ble_eq_true rfl) ?_
  intro p e s m args below meth c A ls S hr hlk hsz hA w U htab hl
  have hl : lv_has ls 4 [(0, .ref (a 0)), (1, .int x1), (2, .ref o)] := hl
  refine lv_aload_n S.1 S.2.1 dL_result_0 rfl (lv_at hl 2 rfl) ?_
  refine lv_iconst (v := 0) S.1 S.2.1 dL_result_1 (by decide) ?_
  refine lv_aload_n S.1 S.2.1 dL_result_2 rfl (lv_at hl 0 rfl) ?_
  refine lv_iload_n S.1 S.2.1 dL_result_3 rfl (lv_at hl 1 rfl) ?_
  refine kw_callt (As := [.int x1]) (rest := [.int 0, .ref o]) (q0 := 0) (ci := 2) S w U [0, 1] rfl (fun sz => cB_result l D cI cQ a nb Q L _ _ _ sz x1 h) Y_B_result I_B_result S_B_result lL_31 ⟨rfl, rfl, Nat.le_of_ble_eq_true rfl, Nat.le_of_ble_eq_true rfl⟩ rfl rfl rfl rfl hl.1 rfl (Nat.le_of_ble_eq_true rfl) dL_result_4 ⟨Nat.le_of_ble_eq_true rfl, Nat.le_of_ble_eq_true rfl⟩ (fun H locs w => ?_)
  refine lv_i2l S.1 S.2.1 dL_result_7 rfl ?_
  refine kw_last S w 0 2 rfl rfl (by unfold vp_in; decide) (ws1 := oW cJ o (vp_updL g 0 r.toInt64) ++ bW cI cQ a nb Q L z') rfl dL_result_8 (fun H locs w => ?_)
  refine lv_goto (tgt := 18) S.1 S.2.1 dL_result_9 (by decide) ?_
  refine lv_iconst (v := 0) S.1 S.2.1 dL_result_18 (by decide) ?_
  exact kb_iret (fun q : (Nat → Int64) × kc_S => oW cJ o q.1 ++ bW cI cQ a nb Q L q.2) (z := (vp_updL g 0 r.toInt64, z')) (z' := (vp_updL g 0 r.toInt64, z')) S hr hlk hA w rfl dL_result_19
set_option maxHeartbeats 4000000 in
set_option maxRecDepth 100000 in
theorem xL_result_4 (l : Launch) (hst : l.stackTraces = false) (D : va_G) (cI cQ cJ : ClassId) (a : Nat → Nat) (nb Q : Nat) (L : List Nat) (o : Nat) (g : Nat → Int64) (z0 z' : kc_S) (r : Int32) (sz : Nat) (x1 : Int32) (h : pB_result nb Q L x1 z0 = some (4, r, z')) : Met l y_L_result (Cond.codeWith y_L_result c_L_result 4 (some .int) hh_L_result :: wsB) rmx_L_result (kt_Pc kt_tx D vwCl [(cI, .int), (cQ, .object RReq), (cJ, .long)] sz [.ref (a 0), .int x1, .ref o] (oW cJ o g ++ bW cI cQ a nb Q L z0)) (kb_Qi D vwCl sz (oW cJ o g ++ bW cI cQ a nb Q L z0) 1 (oW cJ o g ++ bW cI cQ a nb Q L z')) 1 6 (va_A (oW cJ o g ++ bW cI cQ a nb Q L z0) sz) := by
  refine kw_start (by decide) rfl (Nat.le_of_ble_eq_true rfl) ?_
  intro p e s m args below meth c A ls S hr hlk hsz hA w U htab hl
  have hl : lv_has ls 4 [(0, .ref (a 0)), (1, .int x1), (2, .ref o)] := hl
  refine lv_aload_n S.1 S.2.1 dL_result_0 rfl (lv_at hl 2 rfl) ?_
  refine lv_iconst (v := 0) S.1 S.2.1 dL_result_1 (by decide) ?_
  refine lv_aload_n S.1 S.2.1 dL_result_2 rfl (lv_at hl 0 rfl) ?_
  refine lv_iload_n S.1 S.2.1 dL_result_3 rfl (lv_at hl 1 rfl) ?_
  refine kw_callX (E := kx_E 4) (As := [.int x1]) (rest := [.int 0, .ref o]) (q0 := 0) (ci := 2) S w U [0, 1] rfl (fun sz => xB_result l hst D cI cQ a nb Q L _ _ _ _ sz x1 (by decide) h) Y_B_result I_B_result S_B_result lL_31 ⟨rfl, rfl, Nat.le_of_ble_eq_true rfl, Nat.le_of_ble_eq_true rfl⟩ rfl rfl rfl rfl hl.1 rfl (Nat.le_of_ble_eq_true rfl) dL_result_4 ⟨Nat.le_of_ble_eq_true rfl, Nat.le_of_ble_eq_true rfl⟩ (fun H locs q9 ce w hce hv hcl => ?_)
  refine kt_catch (h := 12) hce hv (Vm.classAt_of_findClass hcl) (fun pl hpl => kw_hit1 (own := "BankSchedulerLaw") (nm := "java/lang/UnsupportedOperationException") hpl S.2.2.2.1 htab (by decide) (by decide) (S.2.2.2.2 _ jL_34) (U.2.2.2.2.2.1 (kx_E 4, kx_E 4) (by decide +kernel)) hcl) ?_
  refine lv_astore_n S.1 S.2.1 dL_result_12 rfl hl (by decide) rfl (fun ls hl => ?_)
  refine lv_iconst (v := 1) S.1 S.2.1 dL_result_13 (by decide) ?_
  exact kb_iret (fun q : (Nat → Int64) × kc_S => oW cJ o q.1 ++ bW cI cQ a nb Q L q.2) (z := (g, z')) (z' := (g, z')) S hr hlk hA w rfl dL_result_14
set_option maxHeartbeats 4000000 in
set_option maxRecDepth 100000 in
theorem xL_result_3 (l : Launch) (hst : l.stackTraces = false) (D : va_G) (cI cQ cJ : ClassId) (a : Nat → Nat) (nb Q : Nat) (L : List Nat) (o : Nat) (g : Nat → Int64) (z0 z' : kc_S) (r : Int32) (sz : Nat) (x1 : Int32) (h : pB_result nb Q L x1 z0 = some (3, r, z')) : Met l y_L_result (Cond.codeWith y_L_result c_L_result 4 (some .int) hh_L_result :: wsB) rmx_L_result (kt_Pc kt_tx D vwCl [(cI, .int), (cQ, .object RReq), (cJ, .long)] sz [.ref (a 0), .int x1, .ref o] (oW cJ o g ++ bW cI cQ a nb Q L z0)) (kb_Qi D vwCl sz (oW cJ o g ++ bW cI cQ a nb Q L z0) 2 (oW cJ o g ++ bW cI cQ a nb Q L z')) 1 6 (va_A (oW cJ o g ++ bW cI cQ a nb Q L z0) sz) := by
  refine kw_start (by decide) rfl (Nat.le_of_ble_eq_true rfl) ?_
  intro p e s m args below meth c A ls S hr hlk hsz hA w U htab hl
  have hl : lv_has ls 4 [(0, .ref (a 0)), (1, .int x1), (2, .ref o)] := hl
  refine lv_aload_n S.1 S.2.1 dL_result_0 rfl (lv_at hl 2 rfl) ?_
  refine lv_iconst (v := 0) S.1 S.2.1 dL_result_1 (by decide) ?_
  refine lv_aload_n S.1 S.2.1 dL_result_2 rfl (lv_at hl 0 rfl) ?_
  refine lv_iload_n S.1 S.2.1 dL_result_3 rfl (lv_at hl 1 rfl) ?_
  refine kw_callX (E := kx_E 3) (As := [.int x1]) (rest := [.int 0, .ref o]) (q0 := 0) (ci := 2) S w U [0, 1] rfl (fun sz => xB_result l hst D cI cQ a nb Q L _ _ _ _ sz x1 (by decide) h) Y_B_result I_B_result S_B_result lL_31 ⟨rfl, rfl, Nat.le_of_ble_eq_true rfl, Nat.le_of_ble_eq_true rfl⟩ rfl rfl rfl rfl hl.1 rfl (Nat.le_of_ble_eq_true rfl) dL_result_4 ⟨Nat.le_of_ble_eq_true rfl, Nat.le_of_ble_eq_true rfl⟩ (fun H locs q9 ce w hce hv hcl => ?_)
  refine kt_catch (h := 15) hce hv (Vm.classAt_of_findClass hcl) (fun pl hpl => kw_hitN (own := "BankSchedulerLaw") (nm := "java/lang/UnsupportedOperationException") hpl S.2.2.2.1 htab (by decide) (by decide) (S.2.2.2.2 _ jL_34) (U.2.2.2.2.2.2 (kx_E 3, kx_E 4) (by decide +kernel)) hcl (fun t0 ht0 => kw_hit1 (own := "BankSchedulerLaw") (nm := "java/lang/IllegalStateException") hpl S.2.2.2.1 ht0 (by decide) (by decide) (S.2.2.2.2 _ jL_17) (U.2.2.2.2.2.1 (kx_E 3, kx_E 3) (by decide +kernel)) hcl)) ?_
  refine lv_astore_n S.1 S.2.1 dL_result_15 rfl hl (by decide) rfl (fun ls hl => ?_)
  refine lv_iconst (v := 2) S.1 S.2.1 dL_result_16 (by decide) ?_
  exact kb_iret (fun q : (Nat → Int64) × kc_S => oW cJ o q.1 ++ bW cI cQ a nb Q L q.2) (z := (g, z')) (z' := (g, z')) S hr hlk hA w rfl dL_result_17
set_option maxHeartbeats 4000000 in
set_option maxRecDepth 100000 in
theorem cL_word (l : Launch) (D : va_G) (cI cQ cJ : ClassId) (a : Nat → Nat) (nb Q : Nat) (L : List Nat) (o : Nat) (g : Nat → Int64) (z0 z' : kc_S) (r : Int32) (sz : Nat) (x1 : Int32) (x2 : Int32) (x3 : Int32) (h : pB_word nb Q L x1 x2 x3 z0 = some (0, r, z')) : Met l y_L_word (Cond.codeWith y_L_word c_L_word 6 (some .int) hh_L_word :: wsB) rm_L_word (kt_Pc kt_tx D vwCl [(cI, .int), (cQ, .object RReq), (cJ, .long)] sz [.ref (a 0), .int x1, .int x2, .int x3, .ref o] (oW cJ o g ++ bW cI cQ a nb Q L z0)) (kb_Qi D vwCl sz (oW cJ o g ++ bW cI cQ a nb Q L z0) 0 (oW cJ o (vp_updL g 0 r.toInt64) ++ bW cI cQ a nb Q L z')) 0 0 (va_A (oW cJ o g ++ bW cI cQ a nb Q L z0) sz) := by
  refine kw_start (by decide) rfl (Nat.le_of_ble_eq_true rfl) ?_
  intro p e s m args below meth c A ls S hr hlk hsz hA w U htab hl
  have hl : lv_has ls 6 [(0, .ref (a 0)), (1, .int x1), (2, .int x2), (3, .int x3), (4, .ref o)] := hl
  refine lv_aload S.1 S.2.1 dL_word_0 (lv_at hl 4 rfl) ?_
  refine lv_iconst (v := 0) S.1 S.2.1 dL_word_2 (by decide) ?_
  refine lv_aload_n S.1 S.2.1 dL_word_3 rfl (lv_at hl 0 rfl) ?_
  refine lv_iload_n S.1 S.2.1 dL_word_4 rfl (lv_at hl 1 rfl) ?_
  refine lv_iload_n S.1 S.2.1 dL_word_5 rfl (lv_at hl 2 rfl) ?_
  refine lv_iload_n S.1 S.2.1 dL_word_6 rfl (lv_at hl 3 rfl) ?_
  refine kw_callt (As := [.int x1, .int x2, .int x3]) (rest := [.int 0, .ref o]) (q0 := 0) (ci := 2) S w U [0, 1] rfl (fun sz => cB_word l D cI cQ a nb Q L _ _ _ sz x1 x2 x3 h) Y_B_word I_B_word S_B_word lL_36 ⟨rfl, rfl, Nat.le_of_ble_eq_true rfl, Nat.le_of_ble_eq_true rfl⟩ rfl rfl rfl rfl hl.1 rfl (Nat.le_of_ble_eq_true rfl) dL_word_7 ⟨Nat.le_of_ble_eq_true rfl, Nat.le_of_ble_eq_true rfl⟩ (fun H locs w => ?_)
  refine lv_i2l S.1 S.2.1 dL_word_10 rfl ?_
  refine kw_last S w 0 2 rfl rfl (by unfold vp_in; decide) (ws1 := oW cJ o (vp_updL g 0 r.toInt64) ++ bW cI cQ a nb Q L z') rfl dL_word_11 (fun H locs w => ?_)
  refine lv_goto (tgt := 19) S.1 S.2.1 dL_word_12 (by decide) ?_
  refine lv_iconst (v := 0) S.1 S.2.1 dL_word_19 (by decide) ?_
  exact kb_iret (fun q : (Nat → Int64) × kc_S => oW cJ o q.1 ++ bW cI cQ a nb Q L q.2) (z := (vp_updL g 0 r.toInt64, z')) (z' := (vp_updL g 0 r.toInt64, z')) S hr hlk hA w rfl dL_word_20
set_option maxHeartbeats 4000000 in
set_option maxRecDepth 100000 in
theorem xL_word_1 (l : Launch) (hst : l.stackTraces = false) (D : va_G) (cI cQ cJ : ClassId) (a : Nat → Nat) (nb Q : Nat) (L : List Nat) (o : Nat) (g : Nat → Int64) (z0 z' : kc_S) (r : Int32) (sz : Nat) (x1 : Int32) (x2 : Int32) (x3 : Int32) (h : pB_word nb Q L x1 x2 x3 z0 = some (1, r, z')) : Met l y_L_word (Cond.codeWith y_L_word c_L_word 6 (some .int) hh_L_word :: wsB) rmx_L_word (kt_Pc kt_tx D vwCl [(cI, .int), (cQ, .object RReq), (cJ, .long)] sz [.ref (a 0), .int x1, .int x2, .int x3, .ref o] (oW cJ o g ++ bW cI cQ a nb Q L z0)) (kb_Qi D vwCl sz (oW cJ o g ++ bW cI cQ a nb Q L z0) 1 (oW cJ o g ++ bW cI cQ a nb Q L z')) 1 6 (va_A (oW cJ o g ++ bW cI cQ a nb Q L z0) sz) := by
  refine kw_start (by decide) rfl (Nat.le_of_ble_eq_true rfl) ?_
  intro p e s m args below meth c A ls S hr hlk hsz hA w U htab hl
  have hl : lv_has ls 6 [(0, .ref (a 0)), (1, .int x1), (2, .int x2), (3, .int x3), (4, .ref o)] := hl
  refine lv_aload S.1 S.2.1 dL_word_0 (lv_at hl 4 rfl) ?_
  refine lv_iconst (v := 0) S.1 S.2.1 dL_word_2 (by decide) ?_
  refine lv_aload_n S.1 S.2.1 dL_word_3 rfl (lv_at hl 0 rfl) ?_
  refine lv_iload_n S.1 S.2.1 dL_word_4 rfl (lv_at hl 1 rfl) ?_
  refine lv_iload_n S.1 S.2.1 dL_word_5 rfl (lv_at hl 2 rfl) ?_
  refine lv_iload_n S.1 S.2.1 dL_word_6 rfl (lv_at hl 3 rfl) ?_
  refine kw_callX (E := kx_E 1) (As := [.int x1, .int x2, .int x3]) (rest := [.int 0, .ref o]) (q0 := 0) (ci := 2) S w U [0, 1] rfl (fun sz => xB_word l hst D cI cQ a nb Q L _ _ _ _ sz x1 x2 x3 (by decide) h) Y_B_word I_B_word S_B_word lL_36 ⟨rfl, rfl, Nat.le_of_ble_eq_true rfl, Nat.le_of_ble_eq_true rfl⟩ rfl rfl rfl rfl hl.1 rfl (Nat.le_of_ble_eq_true rfl) dL_word_7 ⟨Nat.le_of_ble_eq_true rfl, Nat.le_of_ble_eq_true rfl⟩ (fun H locs q9 ce w hce hv hcl => ?_)
  refine kt_catch (h := 15) hce hv (Vm.classAt_of_findClass hcl) (fun pl hpl => kw_hit1 (own := "BankSchedulerLaw") (nm := "java/lang/IndexOutOfBoundsException") hpl S.2.2.2.1 htab (by decide) (by decide) (S.2.2.2.2 _ jL_13) (U.2.2.2.2.2.1 (kx_E 1, kx_E 1) (by decide +kernel)) hcl) ?_
  refine lv_astore S.1 S.2.1 dL_word_15 hl (by decide) rfl (fun ls hl => ?_)
  refine lv_iconst (v := 1) S.1 S.2.1 dL_word_17 (by decide) ?_
  exact kb_iret (fun q : (Nat → Int64) × kc_S => oW cJ o q.1 ++ bW cI cQ a nb Q L q.2) (z := (g, z')) (z' := (g, z')) S hr hlk hA w rfl dL_word_18
set_option maxHeartbeats 4000000 in
set_option maxRecDepth 100000 in
theorem cL_open (l : Launch) (D : va_G) (cI cQ cJ : ClassId) (a : Nat → Nat) (nb Q : Nat) (L : List Nat) (o : Nat) (g : Nat → Int64) (z0 z' : kc_S) (r : Int32) (sz : Nat) (x1 : Int32) (h : pB_open nb Q L x1 z0 = some (0, r, z')) : Met l y_L_open (Cond.codeWith y_L_open c_L_open 4 (some .int) hh_L_open :: wsB) rm_L_open (kt_Pc kt_tx D vwCl [(cI, .int), (cQ, .object RReq), (cJ, .long)] sz [.ref (a 0), .int x1, .ref o] (oW cJ o g ++ bW cI cQ a nb Q L z0)) (kb_Qi D vwCl sz (oW cJ o g ++ bW cI cQ a nb Q L z0) 0 (oW cJ o (vp_updL g 0 r.toInt64) ++ bW cI cQ a nb Q L z')) 0 0 (va_A (oW cJ o g ++ bW cI cQ a nb Q L z0) sz) := by
  refine kw_start (by decide) rfl (Nat.le_of_ble_eq_true rfl) ?_
  intro p e s m args below meth c A ls S hr hlk hsz hA w U htab hl
  have hl : lv_has ls 4 [(0, .ref (a 0)), (1, .int x1), (2, .ref o)] := hl
  refine lv_aload_n S.1 S.2.1 dL_open_0 rfl (lv_at hl 2 rfl) ?_
  refine lv_iconst (v := 0) S.1 S.2.1 dL_open_1 (by decide) ?_
  refine lv_aload_n S.1 S.2.1 dL_open_2 rfl (lv_at hl 0 rfl) ?_
  refine lv_iload_n S.1 S.2.1 dL_open_3 rfl (lv_at hl 1 rfl) ?_
  refine kw_callt (As := [.int x1]) (rest := [.int 0, .ref o]) (q0 := 0) (ci := 2) S w U [0, 1] rfl (fun sz => cB_open l D cI cQ a nb Q L _ _ _ sz x1 h) Y_B_open I_B_open S_B_open lL_39 ⟨rfl, rfl, Nat.le_of_ble_eq_true rfl, Nat.le_of_ble_eq_true rfl⟩ rfl rfl rfl rfl hl.1 rfl (Nat.le_of_ble_eq_true rfl) dL_open_4 ⟨Nat.le_of_ble_eq_true rfl, Nat.le_of_ble_eq_true rfl⟩ (fun H locs w => ?_)
  refine lv_i2l S.1 S.2.1 dL_open_7 rfl ?_
  refine kw_last S w 0 2 rfl rfl (by unfold vp_in; decide) (ws1 := oW cJ o (vp_updL g 0 r.toInt64) ++ bW cI cQ a nb Q L z') rfl dL_open_8 (fun H locs w => ?_)
  refine lv_goto (tgt := 15) S.1 S.2.1 dL_open_9 (by decide) ?_
  refine lv_iconst (v := 0) S.1 S.2.1 dL_open_15 (by decide) ?_
  exact kb_iret (fun q : (Nat → Int64) × kc_S => oW cJ o q.1 ++ bW cI cQ a nb Q L q.2) (z := (vp_updL g 0 r.toInt64, z')) (z' := (vp_updL g 0 r.toInt64, z')) S hr hlk hA w rfl dL_open_16
set_option maxHeartbeats 4000000 in
set_option maxRecDepth 100000 in
theorem xL_open_1 (l : Launch) (hst : l.stackTraces = false) (D : va_G) (cI cQ cJ : ClassId) (a : Nat → Nat) (nb Q : Nat) (L : List Nat) (o : Nat) (g : Nat → Int64) (z0 z' : kc_S) (r : Int32) (sz : Nat) (x1 : Int32) (h : pB_open nb Q L x1 z0 = some (1, r, z')) : Met l y_L_open (Cond.codeWith y_L_open c_L_open 4 (some .int) hh_L_open :: wsB) rmx_L_open (kt_Pc kt_tx D vwCl [(cI, .int), (cQ, .object RReq), (cJ, .long)] sz [.ref (a 0), .int x1, .ref o] (oW cJ o g ++ bW cI cQ a nb Q L z0)) (kb_Qi D vwCl sz (oW cJ o g ++ bW cI cQ a nb Q L z0) 1 (oW cJ o g ++ bW cI cQ a nb Q L z')) 1 6 (va_A (oW cJ o g ++ bW cI cQ a nb Q L z0) sz) := by
  refine kw_start (by decide) rfl (Nat.le_of_ble_eq_true rfl) ?_
  intro p e s m args below meth c A ls S hr hlk hsz hA w U htab hl
  have hl : lv_has ls 4 [(0, .ref (a 0)), (1, .int x1), (2, .ref o)] := hl
  refine lv_aload_n S.1 S.2.1 dL_open_0 rfl (lv_at hl 2 rfl) ?_
  refine lv_iconst (v := 0) S.1 S.2.1 dL_open_1 (by decide) ?_
  refine lv_aload_n S.1 S.2.1 dL_open_2 rfl (lv_at hl 0 rfl) ?_
  refine lv_iload_n S.1 S.2.1 dL_open_3 rfl (lv_at hl 1 rfl) ?_
  refine kw_callX (E := kx_E 1) (As := [.int x1]) (rest := [.int 0, .ref o]) (q0 := 0) (ci := 2) S w U [0, 1] rfl (fun sz => xB_open l hst D cI cQ a nb Q L _ _ _ _ sz x1 (by decide) h) Y_B_open I_B_open S_B_open lL_39 ⟨rfl, rfl, Nat.le_of_ble_eq_true rfl, Nat.le_of_ble_eq_true rfl⟩ rfl rfl rfl rfl hl.1 rfl (Nat.le_of_ble_eq_true rfl) dL_open_4 ⟨Nat.le_of_ble_eq_true rfl, Nat.le_of_ble_eq_true rfl⟩ (fun H locs q9 ce w hce hv hcl => ?_)
  refine kt_catch (h := 12) hce hv (Vm.classAt_of_findClass hcl) (fun pl hpl => kw_hit1 (own := "BankSchedulerLaw") (nm := "java/lang/IndexOutOfBoundsException") hpl S.2.2.2.1 htab (by decide) (by decide) (S.2.2.2.2 _ jL_13) (U.2.2.2.2.2.1 (kx_E 1, kx_E 1) (by decide +kernel)) hcl) ?_
  refine lv_astore_n S.1 S.2.1 dL_open_12 rfl hl (by decide) rfl (fun ls hl => ?_)
  refine lv_iconst (v := 1) S.1 S.2.1 dL_open_13 (by decide) ?_
  exact kb_iret (fun q : (Nat → Int64) × kc_S => oW cJ o q.1 ++ bW cI cQ a nb Q L q.2) (z := (g, z')) (z' := (g, z')) S hr hlk hA w rfl dL_open_14
set_option maxHeartbeats 4000000 in
set_option maxRecDepth 100000 in
theorem cL_waiting (l : Launch) (D : va_G) (cI cQ cJ : ClassId) (a : Nat → Nat) (nb Q : Nat) (L : List Nat) (o : Nat) (g : Nat → Int64) (z0 z' : kc_S) (r : Int32) (sz : Nat) (x1 : Int32) (h : pB_waiting nb Q L x1 z0 = some (0, r, z')) : Met l y_L_waiting (Cond.codeWith y_L_waiting c_L_waiting 4 (some .int) hh_L_waiting :: wsB) rm_L_waiting (kt_Pc kt_tx D vwCl [(cI, .int), (cQ, .object RReq), (cJ, .long)] sz [.ref (a 0), .int x1, .ref o] (oW cJ o g ++ bW cI cQ a nb Q L z0)) (kb_Qi D vwCl sz (oW cJ o g ++ bW cI cQ a nb Q L z0) 0 (oW cJ o (vp_updL g 0 r.toInt64) ++ bW cI cQ a nb Q L z')) 0 0 (va_A (oW cJ o g ++ bW cI cQ a nb Q L z0) sz) := by
  refine kw_start (by decide) rfl (Nat.le_of_ble_eq_true rfl) ?_
  intro p e s m args below meth c A ls S hr hlk hsz hA w U htab hl
  have hl : lv_has ls 4 [(0, .ref (a 0)), (1, .int x1), (2, .ref o)] := hl
  refine lv_aload_n S.1 S.2.1 dL_waiting_0 rfl (lv_at hl 2 rfl) ?_
  refine lv_iconst (v := 0) S.1 S.2.1 dL_waiting_1 (by decide) ?_
  refine lv_aload_n S.1 S.2.1 dL_waiting_2 rfl (lv_at hl 0 rfl) ?_
  refine lv_iload_n S.1 S.2.1 dL_waiting_3 rfl (lv_at hl 1 rfl) ?_
  refine kw_callt (As := [.int x1]) (rest := [.int 0, .ref o]) (q0 := 0) (ci := 2) S w U [0, 1] rfl (fun sz => cB_waiting l D cI cQ a nb Q L _ _ _ sz x1 h) Y_B_waiting I_B_waiting S_B_waiting lL_42 ⟨rfl, rfl, Nat.le_of_ble_eq_true rfl, Nat.le_of_ble_eq_true rfl⟩ rfl rfl rfl rfl hl.1 rfl (Nat.le_of_ble_eq_true rfl) dL_waiting_4 ⟨Nat.le_of_ble_eq_true rfl, Nat.le_of_ble_eq_true rfl⟩ (fun H locs w => ?_)
  refine lv_i2l S.1 S.2.1 dL_waiting_7 rfl ?_
  refine kw_last S w 0 2 rfl rfl (by unfold vp_in; decide) (ws1 := oW cJ o (vp_updL g 0 r.toInt64) ++ bW cI cQ a nb Q L z') rfl dL_waiting_8 (fun H locs w => ?_)
  refine lv_goto (tgt := 15) S.1 S.2.1 dL_waiting_9 (by decide) ?_
  refine lv_iconst (v := 0) S.1 S.2.1 dL_waiting_15 (by decide) ?_
  exact kb_iret (fun q : (Nat → Int64) × kc_S => oW cJ o q.1 ++ bW cI cQ a nb Q L q.2) (z := (vp_updL g 0 r.toInt64, z')) (z' := (vp_updL g 0 r.toInt64, z')) S hr hlk hA w rfl dL_waiting_16
set_option maxHeartbeats 4000000 in
set_option maxRecDepth 100000 in
theorem xL_waiting_1 (l : Launch) (hst : l.stackTraces = false) (D : va_G) (cI cQ cJ : ClassId) (a : Nat → Nat) (nb Q : Nat) (L : List Nat) (o : Nat) (g : Nat → Int64) (z0 z' : kc_S) (r : Int32) (sz : Nat) (x1 : Int32) (h : pB_waiting nb Q L x1 z0 = some (1, r, z')) : Met l y_L_waiting (Cond.codeWith y_L_waiting c_L_waiting 4 (some .int) hh_L_waiting :: wsB) rmx_L_waiting (kt_Pc kt_tx D vwCl [(cI, .int), (cQ, .object RReq), (cJ, .long)] sz [.ref (a 0), .int x1, .ref o] (oW cJ o g ++ bW cI cQ a nb Q L z0)) (kb_Qi D vwCl sz (oW cJ o g ++ bW cI cQ a nb Q L z0) 1 (oW cJ o g ++ bW cI cQ a nb Q L z')) 1 6 (va_A (oW cJ o g ++ bW cI cQ a nb Q L z0) sz) := by
  refine kw_start (by decide) rfl (Nat.le_of_ble_eq_true rfl) ?_
  intro p e s m args below meth c A ls S hr hlk hsz hA w U htab hl
  have hl : lv_has ls 4 [(0, .ref (a 0)), (1, .int x1), (2, .ref o)] := hl
  refine lv_aload_n S.1 S.2.1 dL_waiting_0 rfl (lv_at hl 2 rfl) ?_
  refine lv_iconst (v := 0) S.1 S.2.1 dL_waiting_1 (by decide) ?_
  refine lv_aload_n S.1 S.2.1 dL_waiting_2 rfl (lv_at hl 0 rfl) ?_
  refine lv_iload_n S.1 S.2.1 dL_waiting_3 rfl (lv_at hl 1 rfl) ?_
  refine kw_callX (E := kx_E 1) (As := [.int x1]) (rest := [.int 0, .ref o]) (q0 := 0) (ci := 2) S w U [0, 1] rfl (fun sz => xB_waiting l hst D cI cQ a nb Q L _ _ _ _ sz x1 (by decide) h) Y_B_waiting I_B_waiting S_B_waiting lL_42 ⟨rfl, rfl, Nat.le_of_ble_eq_true rfl, Nat.le_of_ble_eq_true rfl⟩ rfl rfl rfl rfl hl.1 rfl (Nat.le_of_ble_eq_true rfl) dL_waiting_4 ⟨Nat.le_of_ble_eq_true rfl, Nat.le_of_ble_eq_true rfl⟩ (fun H locs q9 ce w hce hv hcl => ?_)
  refine kt_catch (h := 12) hce hv (Vm.classAt_of_findClass hcl) (fun pl hpl => kw_hit1 (own := "BankSchedulerLaw") (nm := "java/lang/IndexOutOfBoundsException") hpl S.2.2.2.1 htab (by decide) (by decide) (S.2.2.2.2 _ jL_13) (U.2.2.2.2.2.1 (kx_E 1, kx_E 1) (by decide +kernel)) hcl) ?_
  refine lv_astore_n S.1 S.2.1 dL_waiting_12 rfl hl (by decide) rfl (fun ls hl => ?_)
  refine lv_iconst (v := 1) S.1 S.2.1 dL_waiting_13 (by decide) ?_
  exact kb_iret (fun q : (Nat → Int64) × kc_S => oW cJ o q.1 ++ bW cI cQ a nb Q L q.2) (z := (g, z')) (z' := (g, z')) S hr hlk hA w rfl dL_waiting_14
set_option maxHeartbeats 4000000 in
set_option maxRecDepth 100000 in
theorem cL_figure (l : Launch) (D : va_G) (cI cQ cJ : ClassId) (a : Nat → Nat) (nb Q : Nat) (L : List Nat) (o : Nat) (g : Nat → Int64) (z0 z' : kc_S) (r : Int32) (sz : Nat) (x1 : Int32) (h : pB_figure nb Q L x1 z0 = some (0, r, z')) : Met l y_L_figure (Cond.codeWith y_L_figure c_L_figure 4 (some .int) hh_L_figure :: wsB) rm_L_figure (kt_Pc kt_tx D vwCl [(cI, .int), (cQ, .object RReq), (cJ, .long)] sz [.ref (a 0), .int x1, .ref o] (oW cJ o g ++ bW cI cQ a nb Q L z0)) (kb_Qi D vwCl sz (oW cJ o g ++ bW cI cQ a nb Q L z0) 0 (oW cJ o (vp_updL g 0 r.toInt64) ++ bW cI cQ a nb Q L z')) 0 0 (va_A (oW cJ o g ++ bW cI cQ a nb Q L z0) sz) := by
  refine kw_start (by decide) rfl (Nat.le_of_ble_eq_true rfl) ?_
  intro p e s m args below meth c A ls S hr hlk hsz hA w U htab hl
  have hl : lv_has ls 4 [(0, .ref (a 0)), (1, .int x1), (2, .ref o)] := hl
  refine lv_aload_n S.1 S.2.1 dL_figure_0 rfl (lv_at hl 2 rfl) ?_
  refine lv_iconst (v := 0) S.1 S.2.1 dL_figure_1 (by decide) ?_
  refine lv_aload_n S.1 S.2.1 dL_figure_2 rfl (lv_at hl 0 rfl) ?_
  refine lv_iload_n S.1 S.2.1 dL_figure_3 rfl (lv_at hl 1 rfl) ?_
  refine kw_callt (As := [.int x1]) (rest := [.int 0, .ref o]) (q0 := 0) (ci := 2) S w U [0, 1] rfl (fun sz => cB_figure l D cI cQ a nb Q L _ _ _ sz x1 h) Y_B_figure I_B_figure S_B_figure lL_45 ⟨rfl, rfl, Nat.le_of_ble_eq_true rfl, Nat.le_of_ble_eq_true rfl⟩ rfl rfl rfl rfl hl.1 rfl (Nat.le_of_ble_eq_true rfl) dL_figure_4 ⟨Nat.le_of_ble_eq_true rfl, Nat.le_of_ble_eq_true rfl⟩ (fun H locs w => ?_)
  refine lv_i2l S.1 S.2.1 dL_figure_7 rfl ?_
  refine kw_last S w 0 2 rfl rfl (by unfold vp_in; decide) (ws1 := oW cJ o (vp_updL g 0 r.toInt64) ++ bW cI cQ a nb Q L z') rfl dL_figure_8 (fun H locs w => ?_)
  refine lv_goto (tgt := 15) S.1 S.2.1 dL_figure_9 (by decide) ?_
  refine lv_iconst (v := 0) S.1 S.2.1 dL_figure_15 (by decide) ?_
  exact kb_iret (fun q : (Nat → Int64) × kc_S => oW cJ o q.1 ++ bW cI cQ a nb Q L q.2) (z := (vp_updL g 0 r.toInt64, z')) (z' := (vp_updL g 0 r.toInt64, z')) S hr hlk hA w rfl dL_figure_16
set_option maxHeartbeats 4000000 in
set_option maxRecDepth 100000 in
theorem xL_figure_2 (l : Launch) (hst : l.stackTraces = false) (D : va_G) (cI cQ cJ : ClassId) (a : Nat → Nat) (nb Q : Nat) (L : List Nat) (o : Nat) (g : Nat → Int64) (z0 z' : kc_S) (r : Int32) (sz : Nat) (x1 : Int32) (h : pB_figure nb Q L x1 z0 = some (2, r, z')) : Met l y_L_figure (Cond.codeWith y_L_figure c_L_figure 4 (some .int) hh_L_figure :: wsB) rmx_L_figure (kt_Pc kt_tx D vwCl [(cI, .int), (cQ, .object RReq), (cJ, .long)] sz [.ref (a 0), .int x1, .ref o] (oW cJ o g ++ bW cI cQ a nb Q L z0)) (kb_Qi D vwCl sz (oW cJ o g ++ bW cI cQ a nb Q L z0) 1 (oW cJ o g ++ bW cI cQ a nb Q L z')) 1 6 (va_A (oW cJ o g ++ bW cI cQ a nb Q L z0) sz) := by
  refine kw_start (by decide) rfl (Nat.le_of_ble_eq_true rfl) ?_
  intro p e s m args below meth c A ls S hr hlk hsz hA w U htab hl
  have hl : lv_has ls 4 [(0, .ref (a 0)), (1, .int x1), (2, .ref o)] := hl
  refine lv_aload_n S.1 S.2.1 dL_figure_0 rfl (lv_at hl 2 rfl) ?_
  refine lv_iconst (v := 0) S.1 S.2.1 dL_figure_1 (by decide) ?_
  refine lv_aload_n S.1 S.2.1 dL_figure_2 rfl (lv_at hl 0 rfl) ?_
  refine lv_iload_n S.1 S.2.1 dL_figure_3 rfl (lv_at hl 1 rfl) ?_
  refine kw_callX (E := kx_E 2) (As := [.int x1]) (rest := [.int 0, .ref o]) (q0 := 0) (ci := 2) S w U [0, 1] rfl (fun sz => xB_figure l hst D cI cQ a nb Q L _ _ _ _ sz x1 (by decide) h) Y_B_figure I_B_figure S_B_figure lL_45 ⟨rfl, rfl, Nat.le_of_ble_eq_true rfl, Nat.le_of_ble_eq_true rfl⟩ rfl rfl rfl rfl hl.1 rfl (Nat.le_of_ble_eq_true rfl) dL_figure_4 ⟨Nat.le_of_ble_eq_true rfl, Nat.le_of_ble_eq_true rfl⟩ (fun H locs q9 ce w hce hv hcl => ?_)
  refine kt_catch (h := 12) hce hv (Vm.classAt_of_findClass hcl) (fun pl hpl => kw_hit1 (own := "BankSchedulerLaw") (nm := "java/lang/IllegalArgumentException") hpl S.2.2.2.1 htab (by decide) (by decide) (S.2.2.2.2 _ jL_15) (U.2.2.2.2.2.1 (kx_E 2, kx_E 2) (by decide +kernel)) hcl) ?_
  refine lv_astore_n S.1 S.2.1 dL_figure_12 rfl hl (by decide) rfl (fun ls hl => ?_)
  refine lv_iconst (v := 1) S.1 S.2.1 dL_figure_13 (by decide) ?_
  exact kb_iret (fun q : (Nat → Int64) × kc_S => oW cJ o q.1 ++ bW cI cQ a nb Q L q.2) (z := (g, z')) (z' := (g, z')) S hr hlk hA w rfl dL_figure_14
set_option maxHeartbeats 4000000 in
set_option maxRecDepth 100000 in
theorem cL_check (l : Launch) (D : va_G) (cI cQ cJ : ClassId) (a : Nat → Nat) (nb Q : Nat) (L : List Nat) (o : Nat) (g : Nat → Int64) (z0 z' : kc_S) (r : Int32) (sz : Nat) (x1 : Int32) (x2 : Int32) (x3 : Int32) (h : pB_check nb Q L x1 x2 x3 z0 = some (0, r, z')) : Met l y_L_check (Cond.codeWith y_L_check c_L_check 6 (some .int) hh_L_check :: wsB) rm_L_check (kt_Pc kt_tx D vwCl [(cI, .int), (cQ, .object RReq), (cJ, .long)] sz [.ref (a 0), .int x1, .int x2, .int x3, .ref o] (oW cJ o g ++ bW cI cQ a nb Q L z0)) (kb_Qi D vwCl sz (oW cJ o g ++ bW cI cQ a nb Q L z0) 0 (oW cJ o (vp_updL g 0 r.toInt64) ++ bW cI cQ a nb Q L z')) 0 0 (va_A (oW cJ o g ++ bW cI cQ a nb Q L z0) sz) := by
  refine kw_start (by decide) rfl (Nat.le_of_ble_eq_true rfl) ?_
  intro p e s m args below meth c A ls S hr hlk hsz hA w U htab hl
  have hl : lv_has ls 6 [(0, .ref (a 0)), (1, .int x1), (2, .int x2), (3, .int x3), (4, .ref o)] := hl
  refine lv_aload S.1 S.2.1 dL_check_0 (lv_at hl 4 rfl) ?_
  refine lv_iconst (v := 0) S.1 S.2.1 dL_check_2 (by decide) ?_
  refine lv_aload_n S.1 S.2.1 dL_check_3 rfl (lv_at hl 0 rfl) ?_
  refine lv_iload_n S.1 S.2.1 dL_check_4 rfl (lv_at hl 1 rfl) ?_
  refine lv_iload_n S.1 S.2.1 dL_check_5 rfl (lv_at hl 2 rfl) ?_
  refine lv_iload_n S.1 S.2.1 dL_check_6 rfl (lv_at hl 3 rfl) ?_
  refine kw_callt (As := [.int x1, .int x2, .int x3]) (rest := [.int 0, .ref o]) (q0 := 0) (ci := 2) S w U [0, 1] rfl (fun sz => cB_check l D cI cQ a nb Q L _ _ _ sz x1 x2 x3 h) Y_B_check I_B_check S_B_check lL_48 ⟨rfl, rfl, Nat.le_of_ble_eq_true rfl, Nat.le_of_ble_eq_true rfl⟩ rfl rfl rfl rfl hl.1 rfl (Nat.le_of_ble_eq_true rfl) dL_check_7 ⟨Nat.le_of_ble_eq_true rfl, Nat.le_of_ble_eq_true rfl⟩ (fun H locs w => ?_)
  refine lv_i2l S.1 S.2.1 dL_check_10 rfl ?_
  refine kw_last S w 0 2 rfl rfl (by unfold vp_in; decide) (ws1 := oW cJ o (vp_updL g 0 r.toInt64) ++ bW cI cQ a nb Q L z') rfl dL_check_11 (fun H locs w => ?_)
  refine lv_goto (tgt := 19) S.1 S.2.1 dL_check_12 (by decide) ?_
  refine lv_iconst (v := 0) S.1 S.2.1 dL_check_19 (by decide) ?_
  exact kb_iret (fun q : (Nat → Int64) × kc_S => oW cJ o q.1 ++ bW cI cQ a nb Q L q.2) (z := (vp_updL g 0 r.toInt64, z')) (z' := (vp_updL g 0 r.toInt64, z')) S hr hlk hA w rfl dL_check_20
set_option maxHeartbeats 4000000 in
set_option maxRecDepth 100000 in
theorem xL_check_1 (l : Launch) (hst : l.stackTraces = false) (D : va_G) (cI cQ cJ : ClassId) (a : Nat → Nat) (nb Q : Nat) (L : List Nat) (o : Nat) (g : Nat → Int64) (z0 z' : kc_S) (r : Int32) (sz : Nat) (x1 : Int32) (x2 : Int32) (x3 : Int32) (h : pB_check nb Q L x1 x2 x3 z0 = some (1, r, z')) : Met l y_L_check (Cond.codeWith y_L_check c_L_check 6 (some .int) hh_L_check :: wsB) rmx_L_check (kt_Pc kt_tx D vwCl [(cI, .int), (cQ, .object RReq), (cJ, .long)] sz [.ref (a 0), .int x1, .int x2, .int x3, .ref o] (oW cJ o g ++ bW cI cQ a nb Q L z0)) (kb_Qi D vwCl sz (oW cJ o g ++ bW cI cQ a nb Q L z0) 1 (oW cJ o g ++ bW cI cQ a nb Q L z')) 1 6 (va_A (oW cJ o g ++ bW cI cQ a nb Q L z0) sz) := by
  refine kw_start (by decide) rfl (Nat.le_of_ble_eq_true rfl) ?_
  intro p e s m args below meth c A ls S hr hlk hsz hA w U htab hl
  have hl : lv_has ls 6 [(0, .ref (a 0)), (1, .int x1), (2, .int x2), (3, .int x3), (4, .ref o)] := hl
  refine lv_aload S.1 S.2.1 dL_check_0 (lv_at hl 4 rfl) ?_
  refine lv_iconst (v := 0) S.1 S.2.1 dL_check_2 (by decide) ?_
  refine lv_aload_n S.1 S.2.1 dL_check_3 rfl (lv_at hl 0 rfl) ?_
  refine lv_iload_n S.1 S.2.1 dL_check_4 rfl (lv_at hl 1 rfl) ?_
  refine lv_iload_n S.1 S.2.1 dL_check_5 rfl (lv_at hl 2 rfl) ?_
  refine lv_iload_n S.1 S.2.1 dL_check_6 rfl (lv_at hl 3 rfl) ?_
  refine kw_callX (E := kx_E 1) (As := [.int x1, .int x2, .int x3]) (rest := [.int 0, .ref o]) (q0 := 0) (ci := 2) S w U [0, 1] rfl (fun sz => xB_check l hst D cI cQ a nb Q L _ _ _ _ sz x1 x2 x3 (by decide) h) Y_B_check I_B_check S_B_check lL_48 ⟨rfl, rfl, Nat.le_of_ble_eq_true rfl, Nat.le_of_ble_eq_true rfl⟩ rfl rfl rfl rfl hl.1 rfl (Nat.le_of_ble_eq_true rfl) dL_check_7 ⟨Nat.le_of_ble_eq_true rfl, Nat.le_of_ble_eq_true rfl⟩ (fun H locs q9 ce w hce hv hcl => ?_)
  refine kt_catch (h := 15) hce hv (Vm.classAt_of_findClass hcl) (fun pl hpl => kw_hit1 (own := "BankSchedulerLaw") (nm := "java/lang/IndexOutOfBoundsException") hpl S.2.2.2.1 htab (by decide) (by decide) (S.2.2.2.2 _ jL_13) (U.2.2.2.2.2.1 (kx_E 1, kx_E 1) (by decide +kernel)) hcl) ?_
  refine lv_astore S.1 S.2.1 dL_check_15 hl (by decide) rfl (fun ls hl => ?_)
  refine lv_iconst (v := 1) S.1 S.2.1 dL_check_17 (by decide) ?_
  exact kb_iret (fun q : (Nat → Int64) × kc_S => oW cJ o q.1 ++ bW cI cQ a nb Q L q.2) (z := (g, z')) (z' := (g, z')) S hr hlk hA w rfl dL_check_18
set_option maxHeartbeats 4000000 in
set_option maxRecDepth 100000 in
theorem cL_pause (l : Launch) (D : va_G) (cI cQ cJ : ClassId) (a : Nat → Nat) (nb Q : Nat) (L : List Nat) (o : Nat) (g : Nat → Int64) (z0 z' : kc_S) (r : Int32) (sz : Nat) (x1 : Int32) (h : pB_pause nb Q L x1 z0 = some (0, r, z')) : Met l y_L_pause (Cond.codeWith y_L_pause c_L_pause 4 (some .int) hh_L_pause :: wsB) rm_L_pause (kt_Pc kt_tx D vwCl [(cI, .int), (cQ, .object RReq), (cJ, .long)] sz [.ref (a 0), .int x1, .ref o] (oW cJ o g ++ bW cI cQ a nb Q L z0)) (kb_Qi D vwCl sz (oW cJ o g ++ bW cI cQ a nb Q L z0) 0 (oW cJ o (vp_updL g 0 r.toInt64) ++ bW cI cQ a nb Q L z')) 0 0 (va_A (oW cJ o g ++ bW cI cQ a nb Q L z0) sz) := by
  refine kw_start (by decide) rfl (Nat.le_of_ble_eq_true rfl) ?_
  intro p e s m args below meth c A ls S hr hlk hsz hA w U htab hl
  have hl : lv_has ls 4 [(0, .ref (a 0)), (1, .int x1), (2, .ref o)] := hl
  refine lv_aload_n S.1 S.2.1 dL_pause_0 rfl (lv_at hl 2 rfl) ?_
  refine lv_iconst (v := 0) S.1 S.2.1 dL_pause_1 (by decide) ?_
  refine lv_aload_n S.1 S.2.1 dL_pause_2 rfl (lv_at hl 0 rfl) ?_
  refine lv_iload_n S.1 S.2.1 dL_pause_3 rfl (lv_at hl 1 rfl) ?_
  refine kw_callt (As := [.int x1]) (rest := [.int 0, .ref o]) (q0 := 0) (ci := 2) S w U [0, 1] rfl (fun sz => cB_pause l D cI cQ a nb Q L _ _ _ sz x1 h) Y_B_pause I_B_pause S_B_pause lL_51 ⟨rfl, rfl, Nat.le_of_ble_eq_true rfl, Nat.le_of_ble_eq_true rfl⟩ rfl rfl rfl rfl hl.1 rfl (Nat.le_of_ble_eq_true rfl) dL_pause_4 ⟨Nat.le_of_ble_eq_true rfl, Nat.le_of_ble_eq_true rfl⟩ (fun H locs w => ?_)
  refine lv_i2l S.1 S.2.1 dL_pause_7 rfl ?_
  refine kw_last S w 0 2 rfl rfl (by unfold vp_in; decide) (ws1 := oW cJ o (vp_updL g 0 r.toInt64) ++ bW cI cQ a nb Q L z') rfl dL_pause_8 (fun H locs w => ?_)
  refine lv_goto (tgt := 15) S.1 S.2.1 dL_pause_9 (by decide) ?_
  refine lv_iconst (v := 0) S.1 S.2.1 dL_pause_15 (by decide) ?_
  exact kb_iret (fun q : (Nat → Int64) × kc_S => oW cJ o q.1 ++ bW cI cQ a nb Q L q.2) (z := (vp_updL g 0 r.toInt64, z')) (z' := (vp_updL g 0 r.toInt64, z')) S hr hlk hA w rfl dL_pause_16
set_option maxHeartbeats 4000000 in
set_option maxRecDepth 100000 in
theorem xL_pause_2 (l : Launch) (hst : l.stackTraces = false) (D : va_G) (cI cQ cJ : ClassId) (a : Nat → Nat) (nb Q : Nat) (L : List Nat) (o : Nat) (g : Nat → Int64) (z0 z' : kc_S) (r : Int32) (sz : Nat) (x1 : Int32) (h : pB_pause nb Q L x1 z0 = some (2, r, z')) : Met l y_L_pause (Cond.codeWith y_L_pause c_L_pause 4 (some .int) hh_L_pause :: wsB) rmx_L_pause (kt_Pc kt_tx D vwCl [(cI, .int), (cQ, .object RReq), (cJ, .long)] sz [.ref (a 0), .int x1, .ref o] (oW cJ o g ++ bW cI cQ a nb Q L z0)) (kb_Qi D vwCl sz (oW cJ o g ++ bW cI cQ a nb Q L z0) 1 (oW cJ o g ++ bW cI cQ a nb Q L z')) 1 6 (va_A (oW cJ o g ++ bW cI cQ a nb Q L z0) sz) := by
  refine kw_start (by decide) rfl (Nat.le_of_ble_eq_true rfl) ?_
  intro p e s m args below meth c A ls S hr hlk hsz hA w U htab hl
  have hl : lv_has ls 4 [(0, .ref (a 0)), (1, .int x1), (2, .ref o)] := hl
  refine lv_aload_n S.1 S.2.1 dL_pause_0 rfl (lv_at hl 2 rfl) ?_
  refine lv_iconst (v := 0) S.1 S.2.1 dL_pause_1 (by decide) ?_
  refine lv_aload_n S.1 S.2.1 dL_pause_2 rfl (lv_at hl 0 rfl) ?_
  refine lv_iload_n S.1 S.2.1 dL_pause_3 rfl (lv_at hl 1 rfl) ?_
  refine kw_callX (E := kx_E 2) (As := [.int x1]) (rest := [.int 0, .ref o]) (q0 := 0) (ci := 2) S w U [0, 1] rfl (fun sz => xB_pause l hst D cI cQ a nb Q L _ _ _ _ sz x1 (by decide) h) Y_B_pause I_B_pause S_B_pause lL_51 ⟨rfl, rfl, Nat.le_of_ble_eq_true rfl, Nat.le_of_ble_eq_true rfl⟩ rfl rfl rfl rfl hl.1 rfl (Nat.le_of_ble_eq_true rfl) dL_pause_4 ⟨Nat.le_of_ble_eq_true rfl, Nat.le_of_ble_eq_true rfl⟩ (fun H locs q9 ce w hce hv hcl => ?_)
  refine kt_catch (h := 12) hce hv (Vm.classAt_of_findClass hcl) (fun pl hpl => kw_hit1 (own := "BankSchedulerLaw") (nm := "java/lang/IllegalArgumentException") hpl S.2.2.2.1 htab (by decide) (by decide) (S.2.2.2.2 _ jL_15) (U.2.2.2.2.2.1 (kx_E 2, kx_E 2) (by decide +kernel)) hcl) ?_
  refine lv_astore_n S.1 S.2.1 dL_pause_12 rfl hl (by decide) rfl (fun ls hl => ?_)
  refine lv_iconst (v := 1) S.1 S.2.1 dL_pause_13 (by decide) ?_
  exact kb_iret (fun q : (Nat → Int64) × kc_S => oW cJ o q.1 ++ bW cI cQ a nb Q L q.2) (z := (g, z')) (z' := (g, z')) S hr hlk hA w rfl dL_pause_14
