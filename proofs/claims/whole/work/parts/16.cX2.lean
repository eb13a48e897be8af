set_option maxHeartbeats 4000000 in
set_option maxRecDepth 100000 in
theorem cB_waiting (l : Launch) (D : va_G) (cI cQ : ClassId) (a : Nat → Nat) (nb Q : Nat) (L : List Nat) (z0 z' : kc_S) (r : Int32) (sz : Nat) (x1 : Int32) (h : pB_waiting nb Q L x1 z0 = some (0, r, z')) : Met l y_B_waiting (Cond.code y_B_waiting c_B_waiting 2 (some .int) :: wsB) rm_B_waiting (kt_Pc kt_tx D vwCl [(cI, .int), (cQ, .object RReq)] sz [.ref (a 0), .int x1] (bW cI cQ a nb Q L z0)) (kb_Qi D vwCl sz (bW cI cQ a nb Q L z0) r (bW cI cQ a nb Q L z')) 0 0 (va_A (bW cI cQ a nb Q L z0) sz) := by
  refine kt_start (by decide) rfl (Nat.le_of_ble_eq_true rfl) ?_
  intro p e s m args below meth c A ls S hr hlk hsz hA w U hl
  have hl : lv_has ls 2 [(0, .ref (a 0)), (1, .int x1)] := hl
  unfold pB_waiting at h
  refine lv_iload_n S.1 S.2.1 dB_waiting_0 rfl (lv_at hl 1 rfl) ?_
  refine lv_if_lt (tgt := 12) S.1 S.2.1 dB_waiting_1 (by decide) (fun hc => ?_) (fun hc => ?_)
  · have h := (kb_brt hc).symm.trans h
    exact absurd (kx_0 h).1 (by decide)
  · have h := (kb_brf hc).symm.trans h
    refine lv_iload_n S.1 S.2.1 dB_waiting_4 rfl (lv_at hl 1 rfl) ?_
    refine lv_aload_n S.1 S.2.1 dB_waiting_5 rfl (lv_at hl 0 rfl) ?_
    refine kb_get S w 0 rfl fB_134 rfl dB_waiting_6 ?_
    refine W.eq (g2 := F0 m 9 ls [.int (z0.1 0 1), .int x1]) rfl ?_
    refine lv_icmp_lt (tgt := 22) S.1 S.2.1 dB_waiting_9 (by decide) (fun hc => ?_) (fun hc => ?_)
    · have h := (kb_brt hc).symm.trans h
      refine lv_aload_n S.1 S.2.1 dB_waiting_22 rfl (lv_at hl 0 rfl) ?_
      refine kb_get S w 0 rfl fB_51 rfl dB_waiting_23 ?_
      refine W.eq (g2 := F0 m 26 ls [.ref (a 21)]) rfl ?_
      refine lv_iload_n S.1 S.2.1 dB_waiting_26 rfl (lv_at hl 1 rfl) ?_
      obtain ⟨hi1, h⟩ := kb_ck_of h
      refine kb_ald S w 21 1 rfl rfl hi1 dB_waiting_27 ?_
      refine W.eq (g2 := F0 m 28 ls [.ref (z0.2.1 (kb_ix (x1)))]) rfl ?_
      obtain ⟨hm2, h⟩ := kb_ck_of h
      obtain ⟨k3, hq4⟩ := va_pl_get (X := bX cI cQ a nb Q z0) (f := kc_F z0.2.2) hm2
      refine kb_get S w k3 hq4 fB_139 rfl dB_waiting_28 ?_
      refine W.eq (g2 := F0 m 31 ls [.int (z0.2.2 (z0.2.1 (kb_ix (x1))) 5)]) rfl ?_
      exact kb_iret (bW cI cQ a nb Q L) S hr hlk hA w (kx_r h) dB_waiting_31
    · have h := (kb_brf hc).symm.trans h
      exact absurd (kx_0 h).1 (by decide)
set_option maxHeartbeats 4000000 in
set_option maxRecDepth 100000 in
theorem xB_waiting (l : Launch) (hst : l.stackTraces = false) (D : va_G) (cI cQ : ClassId) (a : Nat → Nat) (nb Q : Nat) (L : List Nat) (z0 z' : kc_S) (kt : Nat) (r : Int32) (sz : Nat) (x1 : Int32) (hk0 : kt ≠ 0) (h : pB_waiting nb Q L x1 z0 = some (kt, r, z')) : kt_Met l y_B_waiting (Cond.code y_B_waiting c_B_waiting 2 (some .int) :: wsB) rmx_B_waiting (kt_Pc kt_tx D vwCl [(cI, .int), (cQ, .object RReq)] sz [.ref (a 0), .int x1] (bW cI cQ a nb Q L z0)) (kx_E kt) (kt_XB D vwCl sz (bW cI cQ a nb Q L z0) (bW cI cQ a nb Q L z')) 1 6 (va_A (bW cI cQ a nb Q L z0) sz) := by
  refine kt_startX (by decide) rfl (Nat.le_of_ble_eq_true rfl) ?_
  intro p e s m args below meth c A ls S hr hlk hsz hA w U hno hl
  have hl : lv_has ls 2 [(0, .ref (a 0)), (1, .int x1)] := hl
  unfold pB_waiting at h
  refine lv_iload_n S.1 S.2.1 dB_waiting_0 rfl (lv_at hl 1 rfl) ?_
  refine lv_if_lt (tgt := 12) S.1 S.2.1 dB_waiting_1 (by decide) (fun hc => ?_) (fun hc => ?_)
  · have h := (kb_brt hc).symm.trans h
    exact kx_throw (kk := 1) (bW cI cQ a nb Q L) S hst hlk hA w U hno n_B_62_66 t_B_137 h hl.1 dB_waiting_12 dB_waiting_15 dB_waiting_16 dB_waiting_18 dB_waiting_21 ⟨Nat.le_of_ble_eq_true rfl, Nat.le_of_ble_eq_true rfl, Nat.le_of_ble_eq_true rfl, Nat.le_of_ble_eq_true rfl⟩ ⟨Nat.le_of_ble_eq_true rfl, Nat.le_of_ble_eq_true rfl⟩
  · have h := (kb_brf hc).symm.trans h
    refine lv_iload_n S.1 S.2.1 dB_waiting_4 rfl (lv_at hl 1 rfl) ?_
    refine lv_aload_n S.1 S.2.1 dB_waiting_5 rfl (lv_at hl 0 rfl) ?_
    refine kb_get S w 0 rfl fB_134 rfl dB_waiting_6 ?_
    refine W.eq (g2 := F0 m 9 ls [.int (z0.1 0 1), .int x1]) rfl ?_
    refine lv_icmp_lt (tgt := 22) S.1 S.2.1 dB_waiting_9 (by decide) (fun hc => ?_) (fun hc => ?_)
    · have h := (kb_brt hc).symm.trans h
      refine lv_aload_n S.1 S.2.1 dB_waiting_22 rfl (lv_at hl 0 rfl) ?_
      refine kb_get S w 0 rfl fB_51 rfl dB_waiting_23 ?_
      refine W.eq (g2 := F0 m 26 ls [.ref (a 21)]) rfl ?_
      refine lv_iload_n S.1 S.2.1 dB_waiting_26 rfl (lv_at hl 1 rfl) ?_
      obtain ⟨hi1, h⟩ := kb_ck_of h
      refine kb_ald S w 21 1 rfl rfl hi1 dB_waiting_27 ?_
      refine W.eq (g2 := F0 m 28 ls [.ref (z0.2.1 (kb_ix (x1)))]) rfl ?_
      obtain ⟨hm2, h⟩ := kb_ck_of h
      obtain ⟨k3, hq4⟩ := va_pl_get (X := bX cI cQ a nb Q z0) (f := kc_F z0.2.2) hm2
      refine kb_get S w k3 hq4 fB_139 rfl dB_waiting_28 ?_
      refine W.eq (g2 := F0 m 31 ls [.int (z0.2.2 (z0.2.1 (kb_ix (x1))) 5)]) rfl ?_
      exact absurd (kx_0 h).1.symm hk0
    · have h := (kb_brf hc).symm.trans h
      exact kx_throw (kk := 1) (bW cI cQ a nb Q L) S hst hlk hA w U hno n_B_62_66 t_B_137 h hl.1 dB_waiting_12 dB_waiting_15 dB_waiting_16 dB_waiting_18 dB_waiting_21 ⟨Nat.le_of_ble_eq_true rfl, Nat.le_of_ble_eq_true rfl, Nat.le_of_ble_eq_true rfl, Nat.le_of_ble_eq_true rfl⟩ ⟨Nat.le_of_ble_eq_true rfl, Nat.le_of_ble_eq_true rfl⟩
set_option maxHeartbeats 4000000 in
set_option maxRecDepth 100000 in
theorem cB_figure (l : Launch) (D : va_G) (cI cQ : ClassId) (a : Nat → Nat) (nb Q : Nat) (L : List Nat) (z0 z' : kc_S) (r : Int32) (sz : Nat) (x1 : Int32) (h : pB_figure nb Q L x1 z0 = some (0, r, z')) : Met l y_B_figure (Cond.code y_B_figure c_B_figure 2 (some .int) :: wsB) rm_B_figure (kt_Pc kt_tx D vwCl [(cI, .int), (cQ, .object RReq)] sz [.ref (a 0), .int x1] (bW cI cQ a nb Q L z0)) (kb_Qi D vwCl sz (bW cI cQ a nb Q L z0) r (bW cI cQ a nb Q L z')) 0 0 (va_A (bW cI cQ a nb Q L z0) sz) := by
  refine kt_start (by decide) rfl (Nat.le_of_ble_eq_true rfl) ?_
  intro p e s m args below meth c A ls S hr hlk hsz hA w U hl
  have hl : lv_has ls 2 [(0, .ref (a 0)), (1, .int x1)] := hl
  unfold pB_figure at h
  refine lv_iload_n S.1 S.2.1 dB_figure_0 rfl (lv_at hl 1 rfl) ?_
  by_cases hs1_0 : (x1).toInt = 0
  · have h := (kb_brt hs1_0).symm.trans h
    refine lv_tableIn (tgt := 52) S.1 S.2.1 dB_figure_1 (by omega) (by omega) (by rw [hs1_0]; rfl) (by decide) ?_
    refine lv_aload_n S.1 S.2.1 dB_figure_52 rfl (lv_at hl 0 rfl) ?_
    refine kb_get S w 0 rfl fB_42 rfl dB_figure_53 ?_
    refine W.eq (g2 := F0 m 56 ls [.ref (a 3)]) rfl ?_
    refine kb_get S w 3 rfl fB_80 rfl dB_figure_56 ?_
    refine W.eq (g2 := F0 m 59 ls [.int (z0.1 3 3)]) rfl ?_
    exact kb_iret (bW cI cQ a nb Q L) S hr hlk hA w (kx_r h) dB_figure_59
  · have h := (kb_brf hs1_0).symm.trans h
    by_cases hs1_1 : (x1).toInt = 1
    · have h := (kb_brt hs1_1).symm.trans h
      refine lv_tableIn (tgt := 60) S.1 S.2.1 dB_figure_1 (by omega) (by omega) (by rw [hs1_1]; rfl) (by decide) ?_
      refine lv_aload_n S.1 S.2.1 dB_figure_60 rfl (lv_at hl 0 rfl) ?_
      refine kb_get S w 0 rfl fB_42 rfl dB_figure_61 ?_
      refine W.eq (g2 := F0 m 64 ls [.ref (a 3)]) rfl ?_
      refine kb_get S w 3 rfl fB_142 rfl dB_figure_64 ?_
      refine W.eq (g2 := F0 m 67 ls [.ref (a 10)]) rfl ?_
      refine lv_iload_n S.1 S.2.1 dB_figure_67 rfl (lv_at hl 1 rfl) ?_
      refine lv_iconst (v := 1) S.1 S.2.1 dB_figure_68 (by decide) ?_
      refine lv_isub S.1 S.2.1 dB_figure_69 ?_
      obtain ⟨hi1, h⟩ := kb_ck_of h
      refine kb_iald S w 10 0 rfl rfl hi1 dB_figure_70 ?_
      refine W.eq (g2 := F0 m 71 ls [.int (z0.1 10 (kb_ix (x1 - 1)))]) rfl ?_
      exact kb_iret (bW cI cQ a nb Q L) S hr hlk hA w (kx_r h) dB_figure_71
    · have h := (kb_brf hs1_1).symm.trans h
      by_cases hs1_2 : (x1).toInt = 2
      · have h := (kb_brt hs1_2).symm.trans h
        refine lv_tableIn (tgt := 60) S.1 S.2.1 dB_figure_1 (by omega) (by omega) (by rw [hs1_2]; rfl) (by decide) ?_
        refine lv_aload_n S.1 S.2.1 dB_figure_60 rfl (lv_at hl 0 rfl) ?_
        refine kb_get S w 0 rfl fB_42 rfl dB_figure_61 ?_
        refine W.eq (g2 := F0 m 64 ls [.ref (a 3)]) rfl ?_
        refine kb_get S w 3 rfl fB_142 rfl dB_figure_64 ?_
        refine W.eq (g2 := F0 m 67 ls [.ref (a 10)]) rfl ?_
        refine lv_iload_n S.1 S.2.1 dB_figure_67 rfl (lv_at hl 1 rfl) ?_
        refine lv_iconst (v := 1) S.1 S.2.1 dB_figure_68 (by decide) ?_
        refine lv_isub S.1 S.2.1 dB_figure_69 ?_
        obtain ⟨hi2, h⟩ := kb_ck_of h
        refine kb_iald S w 10 0 rfl rfl hi2 dB_figure_70 ?_
        refine W.eq (g2 := F0 m 71 ls [.int (z0.1 10 (kb_ix (x1 - 1)))]) rfl ?_
        exact kb_iret (bW cI cQ a nb Q L) S hr hlk hA w (kx_r h) dB_figure_71
      · have h := (kb_brf hs1_2).symm.trans h
        by_cases hs1_3 : (x1).toInt = 3
        · have h := (kb_brt hs1_3).symm.trans h
          refine lv_tableIn (tgt := 60) S.1 S.2.1 dB_figure_1 (by omega) (by omega) (by rw [hs1_3]; rfl) (by decide) ?_
          refine lv_aload_n S.1 S.2.1 dB_figure_60 rfl (lv_at hl 0 rfl) ?_
          refine kb_get S w 0 rfl fB_42 rfl dB_figure_61 ?_
          refine W.eq (g2 := F0 m 64 ls [.ref (a 3)]) rfl ?_
          refine kb_get S w 3 rfl fB_142 rfl dB_figure_64 ?_
          refine W.eq (g2 := F0 m 67 ls [.ref (a 10)]) rfl ?_
          refine lv_iload_n S.1 S.2.1 dB_figure_67 rfl (lv_at hl 1 rfl) ?_
          refine lv_iconst (v := 1) S.1 S.2.1 dB_figure_68 (by decide) ?_
          refine lv_isub S.1 S.2.1 dB_figure_69 ?_
          obtain ⟨hi3, h⟩ := kb_ck_of h
          refine kb_iald S w 10 0 rfl rfl hi3 dB_figure_70 ?_
          refine W.eq (g2 := F0 m 71 ls [.int (z0.1 10 (kb_ix (x1 - 1)))]) rfl ?_
          exact kb_iret (bW cI cQ a nb Q L) S hr hlk hA w (kx_r h) dB_figure_71
        · have h := (kb_brf hs1_3).symm.trans h
          by_cases hs1_4 : (x1).toInt = 4
          · have h := (kb_brt hs1_4).symm.trans h
            refine lv_tableIn (tgt := 60) S.1 S.2.1 dB_figure_1 (by omega) (by omega) (by rw [hs1_4]; rfl) (by decide) ?_
            refine lv_aload_n S.1 S.2.1 dB_figure_60 rfl (lv_at hl 0 rfl) ?_
            refine kb_get S w 0 rfl fB_42 rfl dB_figure_61 ?_
            refine W.eq (g2 := F0 m 64 ls [.ref (a 3)]) rfl ?_
            refine kb_get S w 3 rfl fB_142 rfl dB_figure_64 ?_
            refine W.eq (g2 := F0 m 67 ls [.ref (a 10)]) rfl ?_
            refine lv_iload_n S.1 S.2.1 dB_figure_67 rfl (lv_at hl 1 rfl) ?_
            refine lv_iconst (v := 1) S.1 S.2.1 dB_figure_68 (by decide) ?_
            refine lv_isub S.1 S.2.1 dB_figure_69 ?_
            obtain ⟨hi4, h⟩ := kb_ck_of h
            refine kb_iald S w 10 0 rfl rfl hi4 dB_figure_70 ?_
            refine W.eq (g2 := F0 m 71 ls [.int (z0.1 10 (kb_ix (x1 - 1)))]) rfl ?_
            exact kb_iret (bW cI cQ a nb Q L) S hr hlk hA w (kx_r h) dB_figure_71
          · have h := (kb_brf hs1_4).symm.trans h
            by_cases hs1_5 : (x1).toInt = 5
            · have h := (kb_brt hs1_5).symm.trans h
              refine lv_tableIn (tgt := 60) S.1 S.2.1 dB_figure_1 (by omega) (by omega) (by rw [hs1_5]; rfl) (by decide) ?_
              refine lv_aload_n S.1 S.2.1 dB_figure_60 rfl (lv_at hl 0 rfl) ?_
              refine kb_get S w 0 rfl fB_42 rfl dB_figure_61 ?_
              refine W.eq (g2 := F0 m 64 ls [.ref (a 3)]) rfl ?_
              refine kb_get S w 3 rfl fB_142 rfl dB_figure_64 ?_
              refine W.eq (g2 := F0 m 67 ls [.ref (a 10)]) rfl ?_
              refine lv_iload_n S.1 S.2.1 dB_figure_67 rfl (lv_at hl 1 rfl) ?_
              refine lv_iconst (v := 1) S.1 S.2.1 dB_figure_68 (by decide) ?_
              refine lv_isub S.1 S.2.1 dB_figure_69 ?_
              obtain ⟨hi5, h⟩ := kb_ck_of h
              refine kb_iald S w 10 0 rfl rfl hi5 dB_figure_70 ?_
              refine W.eq (g2 := F0 m 71 ls [.int (z0.1 10 (kb_ix (x1 - 1)))]) rfl ?_
              exact kb_iret (bW cI cQ a nb Q L) S hr hlk hA w (kx_r h) dB_figure_71
            · have h := (kb_brf hs1_5).symm.trans h
              by_cases hs1_6 : (x1).toInt = 6
              · have h := (kb_brt hs1_6).symm.trans h
                refine lv_tableIn (tgt := 72) S.1 S.2.1 dB_figure_1 (by omega) (by omega) (by rw [hs1_6]; rfl) (by decide) ?_
                refine lv_aload_n S.1 S.2.1 dB_figure_72 rfl (lv_at hl 0 rfl) ?_
                refine kb_get S w 0 rfl fB_134 rfl dB_figure_73 ?_
                refine W.eq (g2 := F0 m 76 ls [.int (z0.1 0 1)]) rfl ?_
                exact kb_iret (bW cI cQ a nb Q L) S hr hlk hA w (kx_r h) dB_figure_76
              · have h := (kb_brf hs1_6).symm.trans h
                by_cases hs1_7 : (x1).toInt = 7
                · have h := (kb_brt hs1_7).symm.trans h
                  refine lv_tableIn (tgt := 77) S.1 S.2.1 dB_figure_1 (by omega) (by omega) (by rw [hs1_7]; rfl) (by decide) ?_
                  refine lv_aload_n S.1 S.2.1 dB_figure_77 rfl (lv_at hl 0 rfl) ?_
                  refine kb_get S w 0 rfl fB_145 rfl dB_figure_78 ?_
                  refine W.eq (g2 := F0 m 81 ls [.int (z0.1 0 3)]) rfl ?_
                  exact kb_iret (bW cI cQ a nb Q L) S hr hlk hA w (kx_r h) dB_figure_81
                · have h := (kb_brf hs1_7).symm.trans h
                  by_cases hs1_8 : (x1).toInt = 8
                  · have h := (kb_brt hs1_8).symm.trans h
                    refine lv_tableIn (tgt := 82) S.1 S.2.1 dB_figure_1 (by omega) (by omega) (by rw [hs1_8]; rfl) (by decide) ?_
                    refine lv_aload_n S.1 S.2.1 dB_figure_82 rfl (lv_at hl 0 rfl) ?_
                    refine kb_get S w 0 rfl fB_42 rfl dB_figure_83 ?_
                    refine W.eq (g2 := F0 m 86 ls [.ref (a 3)]) rfl ?_
                    refine kb_get S w 3 rfl fB_148 rfl dB_figure_86 ?_
                    refine W.eq (g2 := F0 m 89 ls [.int (z0.1 3 2)]) rfl ?_
                    exact kb_iret (bW cI cQ a nb Q L) S hr hlk hA w (kx_r h) dB_figure_89
                  · have h := (kb_brf hs1_8).symm.trans h
                    refine lv_tableOut (tgt := 90) S.1 S.2.1 dB_figure_1 (by omega) (by decide) ?_
                    exact absurd (kx_0 h).1 (by decide)
set_option maxHeartbeats 4000000 in
set_option maxRecDepth 100000 in
theorem xB_figure (l : Launch) (hst : l.stackTraces = false) (D : va_G) (cI cQ : ClassId) (a : Nat → Nat) (nb Q : Nat) (L : List Nat) (z0 z' : kc_S) (kt : Nat) (r : Int32) (sz : Nat) (x1 : Int32) (hk0 : kt ≠ 0) (h : pB_figure nb Q L x1 z0 = some (kt, r, z')) : kt_Met l y_B_figure (Cond.code y_B_figure c_B_figure 2 (some .int) :: wsB) rmx_B_figure (kt_Pc kt_tx D vwCl [(cI, .int), (cQ, .object RReq)] sz [.ref (a 0), .int x1] (bW cI cQ a nb Q L z0)) (kx_E kt) (kt_XB D vwCl sz (bW cI cQ a nb Q L z0) (bW cI cQ a nb Q L z')) 1 6 (va_A (bW cI cQ a nb Q L z0) sz) := by
  refine kt_startX (by decide) rfl (Nat.le_of_ble_eq_true rfl) ?_
  intro p e s m args below meth c A ls S hr hlk hsz hA w U hno hl
  have hl : lv_has ls 2 [(0, .ref (a 0)), (1, .int x1)] := hl
  unfold pB_figure at h
  refine lv_iload_n S.1 S.2.1 dB_figure_0 rfl (lv_at hl 1 rfl) ?_
  by_cases hs1_0 : (x1).toInt = 0
  · have h := (kb_brt hs1_0).symm.trans h
    refine lv_tableIn (tgt := 52) S.1 S.2.1 dB_figure_1 (by omega) (by omega) (by rw [hs1_0]; rfl) (by decide) ?_
    refine lv_aload_n S.1 S.2.1 dB_figure_52 rfl (lv_at hl 0 rfl) ?_
    refine kb_get S w 0 rfl fB_42 rfl dB_figure_53 ?_
    refine W.eq (g2 := F0 m 56 ls [.ref (a 3)]) rfl ?_
    refine kb_get S w 3 rfl fB_80 rfl dB_figure_56 ?_
    refine W.eq (g2 := F0 m 59 ls [.int (z0.1 3 3)]) rfl ?_
    exact absurd (kx_0 h).1.symm hk0
  · have h := (kb_brf hs1_0).symm.trans h
    by_cases hs1_1 : (x1).toInt = 1
    · have h := (kb_brt hs1_1).symm.trans h
      refine lv_tableIn (tgt := 60) S.1 S.2.1 dB_figure_1 (by omega) (by omega) (by rw [hs1_1]; rfl) (by decide) ?_
      refine lv_aload_n S.1 S.2.1 dB_figure_60 rfl (lv_at hl 0 rfl) ?_
      refine kb_get S w 0 rfl fB_42 rfl dB_figure_61 ?_
      refine W.eq (g2 := F0 m 64 ls [.ref (a 3)]) rfl ?_
      refine kb_get S w 3 rfl fB_142 rfl dB_figure_64 ?_
      refine W.eq (g2 := F0 m 67 ls [.ref (a 10)]) rfl ?_
      refine lv_iload_n S.1 S.2.1 dB_figure_67 rfl (lv_at hl 1 rfl) ?_
      refine lv_iconst (v := 1) S.1 S.2.1 dB_figure_68 (by decide) ?_
      refine lv_isub S.1 S.2.1 dB_figure_69 ?_
      obtain ⟨hi1, h⟩ := kb_ck_of h
      refine kb_iald S w 10 0 rfl rfl hi1 dB_figure_70 ?_
      refine W.eq (g2 := F0 m 71 ls [.int (z0.1 10 (kb_ix (x1 - 1)))]) rfl ?_
      exact absurd (kx_0 h).1.symm hk0
    · have h := (kb_brf hs1_1).symm.trans h
      by_cases hs1_2 : (x1).toInt = 2
      · have h := (kb_brt hs1_2).symm.trans h
        refine lv_tableIn (tgt := 60) S.1 S.2.1 dB_figure_1 (by omega) (by omega) (by rw [hs1_2]; rfl) (by decide) ?_
        refine lv_aload_n S.1 S.2.1 dB_figure_60 rfl (lv_at hl 0 rfl) ?_
        refine kb_get S w 0 rfl fB_42 rfl dB_figure_61 ?_
        refine W.eq (g2 := F0 m 64 ls [.ref (a 3)]) rfl ?_
        refine kb_get S w 3 rfl fB_142 rfl dB_figure_64 ?_
        refine W.eq (g2 := F0 m 67 ls [.ref (a 10)]) rfl ?_
        refine lv_iload_n S.1 S.2.1 dB_figure_67 rfl (lv_at hl 1 rfl) ?_
        refine lv_iconst (v := 1) S.1 S.2.1 dB_figure_68 (by decide) ?_
        refine lv_isub S.1 S.2.1 dB_figure_69 ?_
        obtain ⟨hi2, h⟩ := kb_ck_of h
        refine kb_iald S w 10 0 rfl rfl hi2 dB_figure_70 ?_
        refine W.eq (g2 := F0 m 71 ls [.int (z0.1 10 (kb_ix (x1 - 1)))]) rfl ?_
        exact absurd (kx_0 h).1.symm hk0
      · have h := (kb_brf hs1_2).symm.trans h
        by_cases hs1_3 : (x1).toInt = 3
        · have h := (kb_brt hs1_3).symm.trans h
          refine lv_tableIn (tgt := 60) S.1 S.2.1 dB_figure_1 (by omega) (by omega) (by rw [hs1_3]; rfl) (by decide) ?_
          refine lv_aload_n S.1 S.2.1 dB_figure_60 rfl (lv_at hl 0 rfl) ?_
          refine kb_get S w 0 rfl fB_42 rfl dB_figure_61 ?_
          refine W.eq (g2 := F0 m 64 ls [.ref (a 3)]) rfl ?_
          refine kb_get S w 3 rfl fB_142 rfl dB_figure_64 ?_
          refine W.eq (g2 := F0 m 67 ls [.ref (a 10)]) rfl ?_
          refine lv_iload_n S.1 S.2.1 dB_figure_67 rfl (lv_at hl 1 rfl) ?_
          refine lv_iconst (v := 1) S.1 S.2.1 dB_figure_68 (by decide) ?_
          refine lv_isub S.1 S.2.1 dB_figure_69 ?_
          obtain ⟨hi3, h⟩ := kb_ck_of h
          refine kb_iald S w 10 0 rfl rfl hi3 dB_figure_70 ?_
          refine W.eq (g2 := F0 m 71 ls [.int (z0.1 10 (kb_ix (x1 - 1)))]) rfl ?_
          exact absurd (kx_0 h).1.symm hk0
        · have h := (kb_brf hs1_3).symm.trans h
          by_cases hs1_4 : (x1).toInt = 4
          · have h := (kb_brt hs1_4).symm.trans h
            refine lv_tableIn (tgt := 60) S.1 S.2.1 dB_figure_1 (by omega) (by omega) (by rw [hs1_4]; rfl) (by decide) ?_
            refine lv_aload_n S.1 S.2.1 dB_figure_60 rfl (lv_at hl 0 rfl) ?_
            refine kb_get S w 0 rfl fB_42 rfl dB_figure_61 ?_
            refine W.eq (g2 := F0 m 64 ls [.ref (a 3)]) rfl ?_
            refine kb_get S w 3 rfl fB_142 rfl dB_figure_64 ?_
            refine W.eq (g2 := F0 m 67 ls [.ref (a 10)]) rfl ?_
            refine lv_iload_n S.1 S.2.1 dB_figure_67 rfl (lv_at hl 1 rfl) ?_
            refine lv_iconst (v := 1) S.1 S.2.1 dB_figure_68 (by decide) ?_
            refine lv_isub S.1 S.2.1 dB_figure_69 ?_
            obtain ⟨hi4, h⟩ := kb_ck_of h
            refine kb_iald S w 10 0 rfl rfl hi4 dB_figure_70 ?_
            refine W.eq (g2 := F0 m 71 ls [.int (z0.1 10 (kb_ix (x1 - 1)))]) rfl ?_
            exact absurd (kx_0 h).1.symm hk0
          · have h := (kb_brf hs1_4).symm.trans h
            by_cases hs1_5 : (x1).toInt = 5
            · have h := (kb_brt hs1_5).symm.trans h
              refine lv_tableIn (tgt := 60) S.1 S.2.1 dB_figure_1 (by omega) (by omega) (by rw [hs1_5]; rfl) (by decide) ?_
              refine lv_aload_n S.1 S.2.1 dB_figure_60 rfl (lv_at hl 0 rfl) ?_
              refine kb_get S w 0 rfl fB_42 rfl dB_figure_61 ?_
              refine W.eq (g2 := F0 m 64 ls [.ref (a 3)]) rfl ?_
              refine kb_get S w 3 rfl fB_142 rfl dB_figure_64 ?_
              refine W.eq (g2 := F0 m 67 ls [.ref (a 10)]) rfl ?_
              refine lv_iload_n S.1 S.2.1 dB_figure_67 rfl (lv_at hl 1 rfl) ?_
              refine lv_iconst (v := 1) S.1 S.2.1 dB_figure_68 (by decide) ?_
              refine lv_isub S.1 S.2.1 dB_figure_69 ?_
              obtain ⟨hi5, h⟩ := kb_ck_of h
              refine kb_iald S w 10 0 rfl rfl hi5 dB_figure_70 ?_
              refine W.eq (g2 := F0 m 71 ls [.int (z0.1 10 (kb_ix (x1 - 1)))]) rfl ?_
              exact absurd (kx_0 h).1.symm hk0
            · have h := (kb_brf hs1_5).symm.trans h
              by_cases hs1_6 : (x1).toInt = 6
              · have h := (kb_brt hs1_6).symm.trans h
                refine lv_tableIn (tgt := 72) S.1 S.2.1 dB_figure_1 (by omega) (by omega) (by rw [hs1_6]; rfl) (by decide) ?_
                refine lv_aload_n S.1 S.2.1 dB_figure_72 rfl (lv_at hl 0 rfl) ?_
                refine kb_get S w 0 rfl fB_134 rfl dB_figure_73 ?_
                refine W.eq (g2 := F0 m 76 ls [.int (z0.1 0 1)]) rfl ?_
                exact absurd (kx_0 h).1.symm hk0
              · have h := (kb_brf hs1_6).symm.trans h
                by_cases hs1_7 : (x1).toInt = 7
                · have h := (kb_brt hs1_7).symm.trans h
                  refine lv_tableIn (tgt := 77) S.1 S.2.1 dB_figure_1 (by omega) (by omega) (by rw [hs1_7]; rfl) (by decide) ?_
                  refine lv_aload_n S.1 S.2.1 dB_figure_77 rfl (lv_at hl 0 rfl) ?_
                  refine kb_get S w 0 rfl fB_145 rfl dB_figure_78 ?_
                  refine W.eq (g2 := F0 m 81 ls [.int (z0.1 0 3)]) rfl ?_
                  exact absurd (kx_0 h).1.symm hk0
                · have h := (kb_brf hs1_7).symm.trans h
                  by_cases hs1_8 : (x1).toInt = 8
                  · have h := (kb_brt hs1_8).symm.trans h
                    refine lv_tableIn (tgt := 82) S.1 S.2.1 dB_figure_1 (by omega) (by omega) (by rw [hs1_8]; rfl) (by decide) ?_
                    refine lv_aload_n S.1 S.2.1 dB_figure_82 rfl (lv_at hl 0 rfl) ?_
                    refine kb_get S w 0 rfl fB_42 rfl dB_figure_83 ?_
                    refine W.eq (g2 := F0 m 86 ls [.ref (a 3)]) rfl ?_
                    refine kb_get S w 3 rfl fB_148 rfl dB_figure_86 ?_
                    refine W.eq (g2 := F0 m 89 ls [.int (z0.1 3 2)]) rfl ?_
                    exact absurd (kx_0 h).1.symm hk0
                  · have h := (kb_brf hs1_8).symm.trans h
                    refine lv_tableOut (tgt := 90) S.1 S.2.1 dB_figure_1 (by omega) (by decide) ?_
                    exact kx_throw (kk := 2) (bW cI cQ a nb Q L) S hst hlk hA w U hno n_B_75_79 t_B_151 h hl.1 dB_figure_90 dB_figure_93 dB_figure_94 dB_figure_96 dB_figure_99 ⟨Nat.le_of_ble_eq_true rfl, Nat.le_of_ble_eq_true rfl, Nat.le_of_ble_eq_true rfl, Nat.le_of_ble_eq_true rfl⟩ ⟨Nat.le_of_ble_eq_true rfl, Nat.le_of_ble_eq_true rfl⟩
set_option maxHeartbeats 4000000 in
set_option maxRecDepth 100000 in
theorem cB_check (l : Launch) (D : va_G) (cI cQ : ClassId) (a : Nat → Nat) (nb Q : Nat) (L : List Nat) (z0 z' : kc_S) (r : Int32) (sz : Nat) (x1 : Int32) (x2 : Int32) (x3 : Int32) (h : pB_check nb Q L x1 x2 x3 z0 = some (0, r, z')) : Met l y_B_check (Cond.code y_B_check c_B_check 5 (some .int) :: wsB) rm_B_check (kt_Pc kt_tx D vwCl [(cI, .int), (cQ, .object RReq)] sz [.ref (a 0), .int x1, .int x2, .int x3] (bW cI cQ a nb Q L z0)) (kb_Qi D vwCl sz (bW cI cQ a nb Q L z0) r (bW cI cQ a nb Q L z')) 0 0 (va_A (bW cI cQ a nb Q L z0) sz) := by
  refine kt_start (by decide) rfl (Nat.le_of_ble_eq_true rfl) ?_
  intro p e s m args below meth c A ls S hr hlk hsz hA w U hl
  have hl : lv_has ls 5 [(0, .ref (a 0)), (1, .int x1), (2, .int x2), (3, .int x3)] := hl
  unfold pB_check at h
  have J96 : ∀ (x4 : Int32) (z : kc_S) (H : Heap) (locs : List Loc) (ls : Array Slot), lv_has ls 5 [(0, .ref (a 0)), (4, .int x4)] → kb_W D vwCl [(cI, .int), (cQ, .object RReq)] A s H locs (bW cI cQ a nb Q L z) → pB_check_J96 nb Q L x4 z = some (0, r, z') → W p l e rm_B_check s m args below meth c H locs 0 0 (MQ below (kb_Qi D vwCl sz (bW cI cQ a nb Q L z0) r (bW cI cQ a nb Q L z')) args s 0 0 (va_A (bW cI cQ a nb Q L z0) sz)) (F0 m 96 ls []) := by
    intro x4 z H locs ls hl w h
    unfold pB_check_J96 at h
    refine lv_aload_n S.1 S.2.1 dB_check_96 rfl (lv_at hl 0 rfl) ?_
    refine kb_get S w 0 rfl fB_46 rfl dB_check_97 ?_
    refine W.eq (g2 := F0 m 100 ls [.ref (a 11)]) rfl ?_
    refine lv_dup S.1 S.2.1 dB_check_100 rfl ?_
    refine kb_get S w 11 rfl fB_80 rfl dB_check_101 ?_
    refine W.eq (g2 := F0 m 104 ls [.int (z.1 11 3), .ref (a 11)]) rfl ?_
    refine lv_iconst (v := 1) S.1 S.2.1 dB_check_104 (by decide) ?_
    refine lv_iadd S.1 S.2.1 dB_check_105 ?_
    obtain ⟨z7, hz8, h⟩ := kb_st_of h
    refine kb_puti S w 11 rfl gB_80 (Nat.le_of_ble_eq_true rfl) (ws1 := bW cI cQ a nb Q L z7) (by rw [hz8]; rfl) dB_check_106 (fun H locs w => ?_)
    refine lv_iload S.1 S.2.1 dB_check_109 (lv_at hl 1 rfl) ?_
    exact kb_iret (bW cI cQ a nb Q L) S hr hlk hA w (kx_r h) dB_check_111
  have J69 : ∀ (x1 : Int32) (x2 : Int32) (x3 : Int32) (z : kc_S) (H : Heap) (locs : List Loc) (ls : Array Slot), lv_has ls 5 [(0, .ref (a 0)), (1, .int x1), (2, .int x2), (3, .int x3)] → kb_W D vwCl [(cI, .int), (cQ, .object RReq)] A s H locs (bW cI cQ a nb Q L z) → pB_check_J69 nb Q L x1 x2 x3 z = some (0, r, z') → W p l e rm_B_check s m args below meth c H locs 0 0 (MQ below (kb_Qi D vwCl sz (bW cI cQ a nb Q L z0) r (bW cI cQ a nb Q L z')) args s 0 0 (va_A (bW cI cQ a nb Q L z0) sz)) (F0 m 69 ls []) := by
    intro x1 x2 x3 z H locs ls hl w h
    unfold pB_check_J69 at h
    refine lv_aload_n S.1 S.2.1 dB_check_69 rfl (lv_at hl 0 rfl) ?_
    refine kb_get S w 0 rfl fB_46 rfl dB_check_70 ?_
    refine W.eq (g2 := F0 m 73 ls [.ref (a 11)]) rfl ?_
    refine lv_iload_n S.1 S.2.1 dB_check_73 rfl (lv_at hl 1 rfl) ?_
    refine lv_iload_n S.1 S.2.1 dB_check_74 rfl (lv_at hl 2 rfl) ?_
    refine lv_iload_n S.1 S.2.1 dB_check_75 rfl (lv_at hl 3 rfl) ?_
    obtain ⟨r5, z4, hc6, h⟩ := kb_cl_of h
    refine kb_calli (As := [.int x1, .int x2, .int x3]) (rest := []) (q0 := 11) (ci := 0) S w (fun sz => cC_firstBroken_11 l D cI cQ a nb Q L _ _ _ sz x1 x2 x3 hc6) Y_C_firstBroken I_C_firstBroken S_C_firstBroken lB_163 ⟨rfl, rfl, Nat.le_of_ble_eq_true rfl, Nat.le_of_ble_eq_true rfl⟩ rfl rfl rfl rfl hl.1 rfl (Nat.le_of_ble_eq_true rfl) dB_check_76 ⟨Nat.le_of_ble_eq_true rfl, Nat.le_of_ble_eq_true rfl⟩ (fun H locs w => ?_)
    refine lv_istore S.1 S.2.1 dB_check_79 hl (by decide) rfl (fun ls hl => ?_)
    have hl : lv_has ls 5 [(4, .int r5), (0, .ref (a 0)), (1, .int x1), (2, .int x2), (3, .int x3)] := hl
    refine lv_iload S.1 S.2.1 dB_check_81 (lv_at hl 0 rfl) ?_
    refine lv_if_ne (tgt := 96) S.1 S.2.1 dB_check_83 (by decide) (fun hc => ?_) (fun hc => ?_)
    · have h := (kb_brf hc).symm.trans h
      exact J96 r5 z4 _ _ _ (lv_sub hl [1, 0] rfl) w h
    · have h := (kb_brt hc).symm.trans h
      refine lv_aload_n S.1 S.2.1 dB_check_86 rfl (lv_at hl 1 rfl) ?_
      refine kb_get S w 0 rfl fB_46 rfl dB_check_87 ?_
      refine W.eq (g2 := F0 m 90 ls [.ref (a 11)]) rfl ?_
      refine lv_iload_n S.1 S.2.1 dB_check_90 rfl (lv_at hl 2 rfl) ?_
      refine lv_iload_n S.1 S.2.1 dB_check_91 rfl (lv_at hl 3 rfl) ?_
      refine lv_iload_n S.1 S.2.1 dB_check_92 rfl (lv_at hl 4 rfl) ?_
      obtain ⟨r10, z9, hc11, h⟩ := kb_cl_of h
      refine kb_callv (As := [.int x1, .int x2, .int x3]) (rest := []) (q0 := 11) (ci := 0) S w (fun sz => cC_give_11 l D cI cQ a nb Q L _ _ _ sz x1 x2 x3 hc11) Y_C_give I_C_give S_C_give lB_166 ⟨rfl, rfl, Nat.le_of_ble_eq_true rfl, Nat.le_of_ble_eq_true rfl⟩ rfl rfl rfl rfl hl.1 rfl (Nat.le_of_ble_eq_true rfl) dB_check_93 ⟨Nat.le_of_ble_eq_true rfl, Nat.le_of_ble_eq_true rfl⟩ (fun H locs w => ?_)
      exact J96 r5 z9 _ _ _ (lv_sub hl [1, 0] rfl) w h
  have J45 : ∀ (x1 : Int32) (x2 : Int32) (x3 : Int32) (z : kc_S) (H : Heap) (locs : List Loc) (ls : Array Slot), lv_has ls 5 [(0, .ref (a 0)), (1, .int x1), (2, .int x2), (3, .int x3)] → kb_W D vwCl [(cI, .int), (cQ, .object RReq)] A s H locs (bW cI cQ a nb Q L z) → pB_check_J45 nb Q L x1 x2 x3 z = some (0, r, z') → W p l e rm_B_check s m args below meth c H locs 0 0 (MQ below (kb_Qi D vwCl sz (bW cI cQ a nb Q L z0) r (bW cI cQ a nb Q L z')) args s 0 0 (va_A (bW cI cQ a nb Q L z0) sz)) (F0 m 45 ls []) := by
    intro x1 x2 x3 z H locs ls hl w h
    unfold pB_check_J45 at h
    refine lv_iload_n S.1 S.2.1 dB_check_45 rfl (lv_at hl 1 rfl) ?_
    obtain ⟨r2, z1, hc3, h⟩ := kb_cl_of h
    refine kb_callS (As := [.int x1]) (rest := []) S w (fun sz => cB_hasRow l D cI cQ a nb Q L _ _ _ sz x1 hc3) Y_B_hasRow T_B_hasRow lB_155 ⟨rfl, rfl, Nat.le_of_ble_eq_true rfl, Nat.le_of_ble_eq_true rfl⟩ rfl hl.1 rfl (Nat.le_of_ble_eq_true rfl) dB_check_46 ⟨Nat.le_of_ble_eq_true rfl, Nat.le_of_ble_eq_true rfl⟩ (fun H locs w => ?_)
    refine lv_if_eq (tgt := 69) S.1 S.2.1 dB_check_49 (by decide) (fun hc => ?_) (fun hc => ?_)
    · have h := (kb_brt hc).symm.trans h
      exact J69 x1 x2 x3 z1 _ _ _ (lv_sub hl [0, 1, 2, 3] rfl) w h
    · have h := (kb_brf hc).symm.trans h
      refine lv_iload_n S.1 S.2.1 dB_check_52 rfl (lv_at hl 3 rfl) ?_
      obtain ⟨r13, z12, hc14, h⟩ := kb_cl_of h
      refine kb_callS (As := [.int x3]) (rest := []) S w (fun sz => cB_isRow l D cI cQ a nb Q L _ _ _ sz x3 hc14) Y_B_isRow T_B_isRow lB_158 ⟨rfl, rfl, Nat.le_of_ble_eq_true rfl, Nat.le_of_ble_eq_true rfl⟩ rfl hl.1 rfl (Nat.le_of_ble_eq_true rfl) dB_check_53 ⟨Nat.le_of_ble_eq_true rfl, Nat.le_of_ble_eq_true rfl⟩ (fun H locs w => ?_)
      refine lv_if_ne (tgt := 69) S.1 S.2.1 dB_check_56 (by decide) (fun hc => ?_) (fun hc => ?_)
      · have h := (kb_brf hc).symm.trans h
        exact J69 x1 x2 x3 z12 _ _ _ (lv_sub hl [0, 1, 2, 3] rfl) w h
      · have h := (kb_brt hc).symm.trans h
        exact absurd (kx_0 h).1 (by decide)
  refine lv_iload_n S.1 S.2.1 dB_check_0 rfl (lv_at hl 1 rfl) ?_
  refine lv_if_lt (tgt := 9) S.1 S.2.1 dB_check_1 (by decide) (fun hc => ?_) (fun hc => ?_)
  · have h := (kb_brt hc).symm.trans h
    exact absurd (kx_0 h).1 (by decide)
  · have h := (kb_brf hc).symm.trans h
    refine lv_iload_n S.1 S.2.1 dB_check_4 rfl (lv_at hl 1 rfl) ?_
    refine lv_iconst (v := 5) S.1 S.2.1 dB_check_5 (by decide) ?_
    refine lv_icmp_lt (tgt := 19) S.1 S.2.1 dB_check_6 (by decide) (fun hc => ?_) (fun hc => ?_)
    · have h := (kb_brt hc).symm.trans h
      refine lv_iload_n S.1 S.2.1 dB_check_19 rfl (lv_at hl 1 rfl) ?_
      refine lv_iconst (v := 4) S.1 S.2.1 dB_check_20 (by decide) ?_
      refine lv_icmp_eq (tgt := 45) S.1 S.2.1 dB_check_21 (by decide) (fun hc => ?_) (fun hc => ?_)
      · have h := (kb_brt hc).symm.trans h
        exact J45 x1 x2 x3 z0 _ _ _ (lv_sub hl [0, 1, 2, 3] rfl) w h
      · have h := (kb_brf hc).symm.trans h
        refine lv_aload_n S.1 S.2.1 dB_check_24 rfl (lv_at hl 0 rfl) ?_
        refine kb_get S w 0 rfl fB_46 rfl dB_check_25 ?_
        refine W.eq (g2 := F0 m 28 ls [.ref (a 11)]) rfl ?_
        refine lv_iload_n S.1 S.2.1 dB_check_28 rfl (lv_at hl 2 rfl) ?_
        obtain ⟨r16, z15, hc17, h⟩ := kb_cl_of h
        refine kb_calli (As := [.int x2]) (rest := []) (q0 := 11) (ci := 0) S w (fun sz => cC_hasBank_11 l D cI cQ a nb Q L _ _ _ sz x2 hc17) Y_C_hasBank I_C_hasBank S_C_hasBank lB_126 ⟨rfl, rfl, Nat.le_of_ble_eq_true rfl, Nat.le_of_ble_eq_true rfl⟩ rfl rfl rfl rfl hl.1 rfl (Nat.le_of_ble_eq_true rfl) dB_check_29 ⟨Nat.le_of_ble_eq_true rfl, Nat.le_of_ble_eq_true rfl⟩ (fun H locs w => ?_)
        refine lv_if_ne (tgt := 45) S.1 S.2.1 dB_check_32 (by decide) (fun hc => ?_) (fun hc => ?_)
        · have h := (kb_brf hc).symm.trans h
          exact J45 x1 x2 x3 z15 _ _ _ (lv_sub hl [0, 1, 2, 3] rfl) w h
        · have h := (kb_brt hc).symm.trans h
          exact absurd (kx_0 h).1 (by decide)
    · have h := (kb_brf hc).symm.trans h
      exact absurd (kx_0 h).1 (by decide)
set_option maxHeartbeats 4000000 in
set_option maxRecDepth 100000 in
theorem xB_check (l : Launch) (hst : l.stackTraces = false) (D : va_G) (cI cQ : ClassId) (a : Nat → Nat) (nb Q : Nat) (L : List Nat) (z0 z' : kc_S) (kt : Nat) (r : Int32) (sz : Nat) (x1 : Int32) (x2 : Int32) (x3 : Int32) (hk0 : kt ≠ 0) (h : pB_check nb Q L x1 x2 x3 z0 = some (kt, r, z')) : kt_Met l y_B_check (Cond.code y_B_check c_B_check 5 (some .int) :: wsB) rmx_B_check (kt_Pc kt_tx D vwCl [(cI, .int), (cQ, .object RReq)] sz [.ref (a 0), .int x1, .int x2, .int x3] (bW cI cQ a nb Q L z0)) (kx_E kt) (kt_XB D vwCl sz (bW cI cQ a nb Q L z0) (bW cI cQ a nb Q L z')) 1 6 (va_A (bW cI cQ a nb Q L z0) sz) := by
  refine kt_startX (by decide) rfl (Nat.le_of_ble_eq_true rfl) ?_
  intro p e s m args below meth c A ls S hr hlk hsz hA w U hno hl
  have hl : lv_has ls 5 [(0, .ref (a 0)), (1, .int x1), (2, .int x2), (3, .int x3)] := hl
  unfold pB_check at h
  have J96 : ∀ (x4 : Int32) (z : kc_S) (H : Heap) (locs : List Loc) (ls : Array Slot), lv_has ls 5 [(0, .ref (a 0)), (4, .int x4)] → kb_W D vwCl [(cI, .int), (cQ, .object RReq)] A s H locs (bW cI cQ a nb Q L z) → pB_check_J96 nb Q L x4 z = some (kt, r, z') → W p l e rmx_B_check s m args below meth c H locs 0 0 (kt_MQ below (kx_E kt) (kt_XB D vwCl sz (bW cI cQ a nb Q L z0) (bW cI cQ a nb Q L z')) s 1 6 (va_A (bW cI cQ a nb Q L z0) sz)) (F0 m 96 ls []) := by
    intro x4 z H locs ls hl w h
    unfold pB_check_J96 at h
    refine lv_aload_n S.1 S.2.1 dB_check_96 rfl (lv_at hl 0 rfl) ?_
    refine kb_get S w 0 rfl fB_46 rfl dB_check_97 ?_
    refine W.eq (g2 := F0 m 100 ls [.ref (a 11)]) rfl ?_
    refine lv_dup S.1 S.2.1 dB_check_100 rfl ?_
    refine kb_get S w 11 rfl fB_80 rfl dB_check_101 ?_
    refine W.eq (g2 := F0 m 104 ls [.int (z.1 11 3), .ref (a 11)]) rfl ?_
    refine lv_iconst (v := 1) S.1 S.2.1 dB_check_104 (by decide) ?_
    refine lv_iadd S.1 S.2.1 dB_check_105 ?_
    obtain ⟨z7, hz8, h⟩ := kb_st_of h
    refine kb_puti S w 11 rfl gB_80 (Nat.le_of_ble_eq_true rfl) (ws1 := bW cI cQ a nb Q L z7) (by rw [hz8]; rfl) dB_check_106 (fun H locs w => ?_)
    refine lv_iload S.1 S.2.1 dB_check_109 (lv_at hl 1 rfl) ?_
    exact absurd (kx_0 h).1.symm hk0
  have J69 : ∀ (x1 : Int32) (x2 : Int32) (x3 : Int32) (z : kc_S) (H : Heap) (locs : List Loc) (ls : Array Slot), lv_has ls 5 [(0, .ref (a 0)), (1, .int x1), (2, .int x2), (3, .int x3)] → kb_W D vwCl [(cI, .int), (cQ, .object RReq)] A s H locs (bW cI cQ a nb Q L z) → pB_check_J69 nb Q L x1 x2 x3 z = some (kt, r, z') → W p l e rmx_B_check s m args below meth c H locs 0 0 (kt_MQ below (kx_E kt) (kt_XB D vwCl sz (bW cI cQ a nb Q L z0) (bW cI cQ a nb Q L z')) s 1 6 (va_A (bW cI cQ a nb Q L z0) sz)) (F0 m 69 ls []) := by
    intro x1 x2 x3 z H locs ls hl w h
    unfold pB_check_J69 at h
    refine lv_aload_n S.1 S.2.1 dB_check_69 rfl (lv_at hl 0 rfl) ?_
    refine kb_get S w 0 rfl fB_46 rfl dB_check_70 ?_
    refine W.eq (g2 := F0 m 73 ls [.ref (a 11)]) rfl ?_
    refine lv_iload_n S.1 S.2.1 dB_check_73 rfl (lv_at hl 1 rfl) ?_
    refine lv_iload_n S.1 S.2.1 dB_check_74 rfl (lv_at hl 2 rfl) ?_
    refine lv_iload_n S.1 S.2.1 dB_check_75 rfl (lv_at hl 3 rfl) ?_
    obtain ⟨r5, z4, hc6, h⟩ := kb_cl_of h
    refine kb_calli (As := [.int x1, .int x2, .int x3]) (rest := []) (q0 := 11) (ci := 0) S w (fun sz => cC_firstBroken_11 l D cI cQ a nb Q L _ _ _ sz x1 x2 x3 hc6) Y_C_firstBroken I_C_firstBroken S_C_firstBroken lB_163 ⟨rfl, rfl, Nat.le_of_ble_eq_true rfl, Nat.le_of_ble_eq_true rfl⟩ rfl rfl rfl rfl hl.1 rfl (Nat.le_of_ble_eq_true rfl) dB_check_76 ⟨Nat.le_of_ble_eq_true rfl, Nat.le_of_ble_eq_true rfl⟩ (fun H locs w => ?_)
    refine lv_istore S.1 S.2.1 dB_check_79 hl (by decide) rfl (fun ls hl => ?_)
    have hl : lv_has ls 5 [(4, .int r5), (0, .ref (a 0)), (1, .int x1), (2, .int x2), (3, .int x3)] := hl
    refine lv_iload S.1 S.2.1 dB_check_81 (lv_at hl 0 rfl) ?_
    refine lv_if_ne (tgt := 96) S.1 S.2.1 dB_check_83 (by decide) (fun hc => ?_) (fun hc => ?_)
    · have h := (kb_brf hc).symm.trans h
      exact J96 r5 z4 _ _ _ (lv_sub hl [1, 0] rfl) w h
    · have h := (kb_brt hc).symm.trans h
      refine lv_aload_n S.1 S.2.1 dB_check_86 rfl (lv_at hl 1 rfl) ?_
      refine kb_get S w 0 rfl fB_46 rfl dB_check_87 ?_
      refine W.eq (g2 := F0 m 90 ls [.ref (a 11)]) rfl ?_
      refine lv_iload_n S.1 S.2.1 dB_check_90 rfl (lv_at hl 2 rfl) ?_
      refine lv_iload_n S.1 S.2.1 dB_check_91 rfl (lv_at hl 3 rfl) ?_
      refine lv_iload_n S.1 S.2.1 dB_check_92 rfl (lv_at hl 4 rfl) ?_
      obtain ⟨r10, z9, hc11, h⟩ := kb_cl_of h
      refine kb_callv (As := [.int x1, .int x2, .int x3]) (rest := []) (q0 := 11) (ci := 0) S w (fun sz => cC_give_11 l D cI cQ a nb Q L _ _ _ sz x1 x2 x3 hc11) Y_C_give I_C_give S_C_give lB_166 ⟨rfl, rfl, Nat.le_of_ble_eq_true rfl, Nat.le_of_ble_eq_true rfl⟩ rfl rfl rfl rfl hl.1 rfl (Nat.le_of_ble_eq_true rfl) dB_check_93 ⟨Nat.le_of_ble_eq_true rfl, Nat.le_of_ble_eq_true rfl⟩ (fun H locs w => ?_)
      exact J96 r5 z9 _ _ _ (lv_sub hl [1, 0] rfl) w h
  have J45 : ∀ (x1 : Int32) (x2 : Int32) (x3 : Int32) (z : kc_S) (H : Heap) (locs : List Loc) (ls : Array Slot), lv_has ls 5 [(0, .ref (a 0)), (1, .int x1), (2, .int x2), (3, .int x3)] → kb_W D vwCl [(cI, .int), (cQ, .object RReq)] A s H locs (bW cI cQ a nb Q L z) → pB_check_J45 nb Q L x1 x2 x3 z = some (kt, r, z') → W p l e rmx_B_check s m args below meth c H locs 0 0 (kt_MQ below (kx_E kt) (kt_XB D vwCl sz (bW cI cQ a nb Q L z0) (bW cI cQ a nb Q L z')) s 1 6 (va_A (bW cI cQ a nb Q L z0) sz)) (F0 m 45 ls []) := by
    intro x1 x2 x3 z H locs ls hl w h
    unfold pB_check_J45 at h
    refine lv_iload_n S.1 S.2.1 dB_check_45 rfl (lv_at hl 1 rfl) ?_
    obtain ⟨r2, z1, hc3, h⟩ := kb_cl_of h
    refine kb_callS (As := [.int x1]) (rest := []) S w (fun sz => cB_hasRow l D cI cQ a nb Q L _ _ _ sz x1 hc3) Y_B_hasRow T_B_hasRow lB_155 ⟨rfl, rfl, Nat.le_of_ble_eq_true rfl, Nat.le_of_ble_eq_true rfl⟩ rfl hl.1 rfl (Nat.le_of_ble_eq_true rfl) dB_check_46 ⟨Nat.le_of_ble_eq_true rfl, Nat.le_of_ble_eq_true rfl⟩ (fun H locs w => ?_)
    refine lv_if_eq (tgt := 69) S.1 S.2.1 dB_check_49 (by decide) (fun hc => ?_) (fun hc => ?_)
    · have h := (kb_brt hc).symm.trans h
      exact J69 x1 x2 x3 z1 _ _ _ (lv_sub hl [0, 1, 2, 3] rfl) w h
    · have h := (kb_brf hc).symm.trans h
      refine lv_iload_n S.1 S.2.1 dB_check_52 rfl (lv_at hl 3 rfl) ?_
      obtain ⟨r13, z12, hc14, h⟩ := kb_cl_of h
      refine kb_callS (As := [.int x3]) (rest := []) S w (fun sz => cB_isRow l D cI cQ a nb Q L _ _ _ sz x3 hc14) Y_B_isRow T_B_isRow lB_158 ⟨rfl, rfl, Nat.le_of_ble_eq_true rfl, Nat.le_of_ble_eq_true rfl⟩ rfl hl.1 rfl (Nat.le_of_ble_eq_true rfl) dB_check_53 ⟨Nat.le_of_ble_eq_true rfl, Nat.le_of_ble_eq_true rfl⟩ (fun H locs w => ?_)
      refine lv_if_ne (tgt := 69) S.1 S.2.1 dB_check_56 (by decide) (fun hc => ?_) (fun hc => ?_)
      · have h := (kb_brf hc).symm.trans h
        exact J69 x1 x2 x3 z12 _ _ _ (lv_sub hl [0, 1, 2, 3] rfl) w h
      · have h := (kb_brt hc).symm.trans h
        exact kx_throw (kk := 1) (bW cI cQ a nb Q L) S hst hlk hA w U hno n_B_62_66 t_B_161 h hl.1 dB_check_59 dB_check_62 dB_check_63 dB_check_65 dB_check_68 ⟨Nat.le_of_ble_eq_true rfl, Nat.le_of_ble_eq_true rfl, Nat.le_of_ble_eq_true rfl, Nat.le_of_ble_eq_true rfl⟩ ⟨Nat.le_of_ble_eq_true rfl, Nat.le_of_ble_eq_true rfl⟩
  refine lv_iload_n S.1 S.2.1 dB_check_0 rfl (lv_at hl 1 rfl) ?_
  refine lv_if_lt (tgt := 9) S.1 S.2.1 dB_check_1 (by decide) (fun hc => ?_) (fun hc => ?_)
  · have h := (kb_brt hc).symm.trans h
    exact kx_throw (kk := 1) (bW cI cQ a nb Q L) S hst hlk hA w U hno n_B_62_66 t_B_153 h hl.1 dB_check_9 dB_check_12 dB_check_13 dB_check_15 dB_check_18 ⟨Nat.le_of_ble_eq_true rfl, Nat.le_of_ble_eq_true rfl, Nat.le_of_ble_eq_true rfl, Nat.le_of_ble_eq_true rfl⟩ ⟨Nat.le_of_ble_eq_true rfl, Nat.le_of_ble_eq_true rfl⟩
  · have h := (kb_brf hc).symm.trans h
    refine lv_iload_n S.1 S.2.1 dB_check_4 rfl (lv_at hl 1 rfl) ?_
    refine lv_iconst (v := 5) S.1 S.2.1 dB_check_5 (by decide) ?_
    refine lv_icmp_lt (tgt := 19) S.1 S.2.1 dB_check_6 (by decide) (fun hc => ?_) (fun hc => ?_)
    · have h := (kb_brt hc).symm.trans h
      refine lv_iload_n S.1 S.2.1 dB_check_19 rfl (lv_at hl 1 rfl) ?_
      refine lv_iconst (v := 4) S.1 S.2.1 dB_check_20 (by decide) ?_
      refine lv_icmp_eq (tgt := 45) S.1 S.2.1 dB_check_21 (by decide) (fun hc => ?_) (fun hc => ?_)
      · have h := (kb_brt hc).symm.trans h
        exact J45 x1 x2 x3 z0 _ _ _ (lv_sub hl [0, 1, 2, 3] rfl) w h
      · have h := (kb_brf hc).symm.trans h
        refine lv_aload_n S.1 S.2.1 dB_check_24 rfl (lv_at hl 0 rfl) ?_
        refine kb_get S w 0 rfl fB_46 rfl dB_check_25 ?_
        refine W.eq (g2 := F0 m 28 ls [.ref (a 11)]) rfl ?_
        refine lv_iload_n S.1 S.2.1 dB_check_28 rfl (lv_at hl 2 rfl) ?_
        obtain ⟨r16, z15, hc17, h⟩ := kb_cl_of h
        refine kb_calli (As := [.int x2]) (rest := []) (q0 := 11) (ci := 0) S w (fun sz => cC_hasBank_11 l D cI cQ a nb Q L _ _ _ sz x2 hc17) Y_C_hasBank I_C_hasBank S_C_hasBank lB_126 ⟨rfl, rfl, Nat.le_of_ble_eq_true rfl, Nat.le_of_ble_eq_true rfl⟩ rfl rfl rfl rfl hl.1 rfl (Nat.le_of_ble_eq_true rfl) dB_check_29 ⟨Nat.le_of_ble_eq_true rfl, Nat.le_of_ble_eq_true rfl⟩ (fun H locs w => ?_)
        refine lv_if_ne (tgt := 45) S.1 S.2.1 dB_check_32 (by decide) (fun hc => ?_) (fun hc => ?_)
        · have h := (kb_brf hc).symm.trans h
          exact J45 x1 x2 x3 z15 _ _ _ (lv_sub hl [0, 1, 2, 3] rfl) w h
        · have h := (kb_brt hc).symm.trans h
          exact kx_throw (kk := 1) (bW cI cQ a nb Q L) S hst hlk hA w U hno n_B_62_66 t_B_129 h hl.1 dB_check_35 dB_check_38 dB_check_39 dB_check_41 dB_check_44 ⟨Nat.le_of_ble_eq_true rfl, Nat.le_of_ble_eq_true rfl, Nat.le_of_ble_eq_true rfl, Nat.le_of_ble_eq_true rfl⟩ ⟨Nat.le_of_ble_eq_true rfl, Nat.le_of_ble_eq_true rfl⟩
    · have h := (kb_brf hc).symm.trans h
      exact kx_throw (kk := 1) (bW cI cQ a nb Q L) S hst hlk hA w U hno n_B_62_66 t_B_153 h hl.1 dB_check_9 dB_check_12 dB_check_13 dB_check_15 dB_check_18 ⟨Nat.le_of_ble_eq_true rfl, Nat.le_of_ble_eq_true rfl, Nat.le_of_ble_eq_true rfl, Nat.le_of_ble_eq_true rfl⟩ ⟨Nat.le_of_ble_eq_true rfl, Nat.le_of_ble_eq_true rfl⟩
set_option maxHeartbeats 4000000 in
set_option maxRecDepth 100000 in
theorem cB_pause (l : Launch) (D : va_G) (cI cQ : ClassId) (a : Nat → Nat) (nb Q : Nat) (L : List Nat) (z0 z' : kc_S) (r : Int32) (sz : Nat) (x1 : Int32) (h : pB_pause nb Q L x1 z0 = some (0, r, z')) : Met l y_B_pause (Cond.code y_B_pause c_B_pause 2 (some .int) :: wsB) rm_B_pause (kt_Pc kt_tx D vwCl [(cI, .int), (cQ, .object RReq)] sz [.ref (a 0), .int x1] (bW cI cQ a nb Q L z0)) (kb_Qi D vwCl sz (bW cI cQ a nb Q L z0) r (bW cI cQ a nb Q L z')) 0 0 (va_A (bW cI cQ a nb Q L z0) sz) := by
  refine kt_start (by decide) rfl (Nat.le_of_ble_eq_true rfl) ?_
  intro p e s m args below meth c A ls S hr hlk hsz hA w U hl
  have hl : lv_has ls 2 [(0, .ref (a 0)), (1, .int x1)] := hl
  unfold pB_pause at h
  refine lv_iload_n S.1 S.2.1 dB_pause_0 rfl (lv_at hl 1 rfl) ?_
  refine lv_if_lt (tgt := 11) S.1 S.2.1 dB_pause_1 (by decide) (fun hc => ?_) (fun hc => ?_)
  · have h := (kb_brt hc).symm.trans h
    exact absurd (kx_0 h).1 (by decide)
  · have h := (kb_brf hc).symm.trans h
    refine lv_iload_n S.1 S.2.1 dB_pause_4 rfl (lv_at hl 1 rfl) ?_
    refine lv_sipush (v := 1000) S.1 S.2.1 dB_pause_5 (by decide) ?_
    refine lv_icmp_le (tgt := 21) S.1 S.2.1 dB_pause_8 (by decide) (fun hc => ?_) (fun hc => ?_)
    · have h := (kb_brt hc).symm.trans h
      refine lv_aload_n S.1 S.2.1 dB_pause_21 rfl (lv_at hl 0 rfl) ?_
      refine kb_get S w 0 rfl fB_46 rfl dB_pause_22 ?_
      refine W.eq (g2 := F0 m 25 ls [.ref (a 11)]) rfl ?_
      refine lv_dup S.1 S.2.1 dB_pause_25 rfl ?_
      refine kb_get S w 11 rfl fB_80 rfl dB_pause_26 ?_
      refine W.eq (g2 := F0 m 29 ls [.int (z0.1 11 3), .ref (a 11)]) rfl ?_
      refine lv_iload_n S.1 S.2.1 dB_pause_29 rfl (lv_at hl 1 rfl) ?_
      refine lv_iadd S.1 S.2.1 dB_pause_30 ?_
      obtain ⟨z1, hz2, h⟩ := kb_st_of h
      refine kb_puti S w 11 rfl gB_80 (Nat.le_of_ble_eq_true rfl) (ws1 := bW cI cQ a nb Q L z1) (by rw [hz2]; rfl) dB_pause_31 (fun H locs w => ?_)
      refine lv_aload_n S.1 S.2.1 dB_pause_34 rfl (lv_at hl 0 rfl) ?_
      refine kb_get S w 0 rfl fB_46 rfl dB_pause_35 ?_
      refine W.eq (g2 := F0 m 38 ls [.ref (a 11)]) rfl ?_
      refine kb_get S w 11 rfl fB_80 rfl dB_pause_38 ?_
      refine W.eq (g2 := F0 m 41 ls [.int (z1.1 11 3)]) rfl ?_
      exact kb_iret (bW cI cQ a nb Q L) S hr hlk hA w (kx_r h) dB_pause_41
    · have h := (kb_brf hc).symm.trans h
      exact absurd (kx_0 h).1 (by decide)
set_option maxHeartbeats 4000000 in
set_option maxRecDepth 100000 in
theorem xB_pause (l : Launch) (hst : l.stackTraces = false) (D : va_G) (cI cQ : ClassId) (a : Nat → Nat) (nb Q : Nat) (L : List Nat) (z0 z' : kc_S) (kt : Nat) (r : Int32) (sz : Nat) (x1 : Int32) (hk0 : kt ≠ 0) (h : pB_pause nb Q L x1 z0 = some (kt, r, z')) : kt_Met l y_B_pause (Cond.code y_B_pause c_B_pause 2 (some .int) :: wsB) rmx_B_pause (kt_Pc kt_tx D vwCl [(cI, .int), (cQ, .object RReq)] sz [.ref (a 0), .int x1] (bW cI cQ a nb Q L z0)) (kx_E kt) (kt_XB D vwCl sz (bW cI cQ a nb Q L z0) (bW cI cQ a nb Q L z')) 1 6 (va_A (bW cI cQ a nb Q L z0) sz) := by
  refine kt_startX (by decide) rfl (Nat.le_of_ble_eq_true rfl) ?_
  intro p e s m args below meth c A ls S hr hlk hsz hA w U hno hl
  have hl : lv_has ls 2 [(0, .ref (a 0)), (1, .int x1)] := hl
  unfold pB_pause at h
  refine lv_iload_n S.1 S.2.1 dB_pause_0 rfl (lv_at hl 1 rfl) ?_
  refine lv_if_lt (tgt := 11) S.1 S.2.1 dB_pause_1 (by decide) (fun hc => ?_) (fun hc => ?_)
  · have h := (kb_brt hc).symm.trans h
    exact kx_throw (kk := 2) (bW cI cQ a nb Q L) S hst hlk hA w U hno n_B_75_79 t_B_169 h hl.1 dB_pause_11 dB_pause_14 dB_pause_15 dB_pause_17 dB_pause_20 ⟨Nat.le_of_ble_eq_true rfl, Nat.le_of_ble_eq_true rfl, Nat.le_of_ble_eq_true rfl, Nat.le_of_ble_eq_true rfl⟩ ⟨Nat.le_of_ble_eq_true rfl, Nat.le_of_ble_eq_true rfl⟩
  · have h := (kb_brf hc).symm.trans h
    refine lv_iload_n S.1 S.2.1 dB_pause_4 rfl (lv_at hl 1 rfl) ?_
    refine lv_sipush (v := 1000) S.1 S.2.1 dB_pause_5 (by decide) ?_
    refine lv_icmp_le (tgt := 21) S.1 S.2.1 dB_pause_8 (by decide) (fun hc => ?_) (fun hc => ?_)
    · have h := (kb_brt hc).symm.trans h
      refine lv_aload_n S.1 S.2.1 dB_pause_21 rfl (lv_at hl 0 rfl) ?_
      refine kb_get S w 0 rfl fB_46 rfl dB_pause_22 ?_
      refine W.eq (g2 := F0 m 25 ls [.ref (a 11)]) rfl ?_
      refine lv_dup S.1 S.2.1 dB_pause_25 rfl ?_
      refine kb_get S w 11 rfl fB_80 rfl dB_pause_26 ?_
      refine W.eq (g2 := F0 m 29 ls [.int (z0.1 11 3), .ref (a 11)]) rfl ?_
      refine lv_iload_n S.1 S.2.1 dB_pause_29 rfl (lv_at hl 1 rfl) ?_
      refine lv_iadd S.1 S.2.1 dB_pause_30 ?_
      obtain ⟨z1, hz2, h⟩ := kb_st_of h
      refine kb_puti S w 11 rfl gB_80 (Nat.le_of_ble_eq_true rfl) (ws1 := bW cI cQ a nb Q L z1) (by rw [hz2]; rfl) dB_pause_31 (fun H locs w => ?_)
      refine lv_aload_n S.1 S.2.1 dB_pause_34 rfl (lv_at hl 0 rfl) ?_
      refine kb_get S w 0 rfl fB_46 rfl dB_pause_35 ?_
      refine W.eq (g2 := F0 m 38 ls [.ref (a 11)]) rfl ?_
      refine kb_get S w 11 rfl fB_80 rfl dB_pause_38 ?_
      refine W.eq (g2 := F0 m 41 ls [.int (z1.1 11 3)]) rfl ?_
      exact absurd (kx_0 h).1.symm hk0
    · have h := (kb_brf hc).symm.trans h
      exact kx_throw (kk := 2) (bW cI cQ a nb Q L) S hst hlk hA w U hno n_B_75_79 t_B_169 h hl.1 dB_pause_11 dB_pause_14 dB_pause_15 dB_pause_17 dB_pause_20 ⟨Nat.le_of_ble_eq_true rfl, Nat.le_of_ble_eq_true rfl, Nat.le_of_ble_eq_true rfl, Nat.le_of_ble_eq_true rfl⟩ ⟨Nat.le_of_ble_eq_true rfl, Nat.le_of_ble_eq_true rfl⟩
