theorem dC_init_0 : decode c_C_init 0 = .ok (.aload_n 0, 1) := by decide +kernel
theorem dC_init_1 : decode c_C_init 1 = .ok (.invokespecial 3, 3) := by decide +kernel
theorem dC_init_4 : decode c_C_init 4 = .ok (.aload_n 0, 1) := by decide +kernel
theorem dC_init_5 : decode c_C_init 5 = .ok (.aload_n 2, 1) := by decide +kernel
theorem dC_init_6 : decode c_C_init 6 = .ok (.putfield 9, 3) := by decide +kernel
theorem dC_init_9 : decode c_C_init 9 = .ok (.aload_n 0, 1) := by decide +kernel
theorem dC_init_10 : decode c_C_init 10 = .ok (.iload_n 1, 1) := by decide +kernel
theorem dC_init_11 : decode c_C_init 11 = .ok (.newarray .int, 2) := by decide +kernel
theorem dC_init_13 : decode c_C_init 13 = .ok (.putfield 15, 3) := by decide +kernel
theorem dC_init_16 : decode c_C_init 16 = .ok (.aload_n 0, 1) := by decide +kernel
theorem dC_init_17 : decode c_C_init 17 = .ok (.iload_n 1, 1) := by decide +kernel
theorem dC_init_18 : decode c_C_init 18 = .ok (.newarray .int, 2) := by decide +kernel
theorem dC_init_20 : decode c_C_init 20 = .ok (.putfield 18, 3) := by decide +kernel
theorem dC_init_23 : decode c_C_init 23 = .ok (.aload_n 0, 1) := by decide +kernel
theorem dC_init_24 : decode c_C_init 24 = .ok (.iload_n 1, 1) := by decide +kernel
theorem dC_init_25 : decode c_C_init 25 = .ok (.newarray .int, 2) := by decide +kernel
theorem dC_init_27 : decode c_C_init 27 = .ok (.putfield 21, 3) := by decide +kernel
theorem dC_init_30 : decode c_C_init 30 = .ok (.aload_n 0, 1) := by decide +kernel
theorem dC_init_31 : decode c_C_init 31 = .ok (.iload_n 1, 1) := by decide +kernel
theorem dC_init_32 : decode c_C_init 32 = .ok (.newarray .int, 2) := by decide +kernel
theorem dC_init_34 : decode c_C_init 34 = .ok (.putfield 24, 3) := by decide +kernel
theorem dC_init_37 : decode c_C_init 37 = .ok (.aload_n 0, 1) := by decide +kernel
theorem dC_init_38 : decode c_C_init 38 = .ok (.iload_n 1, 1) := by decide +kernel
theorem dC_init_39 : decode c_C_init 39 = .ok (.newarray .int, 2) := by decide +kernel
theorem dC_init_41 : decode c_C_init 41 = .ok (.putfield 27, 3) := by decide +kernel
theorem dC_init_44 : decode c_C_init 44 = .ok (.aload_n 0, 1) := by decide +kernel
theorem dC_init_45 : decode c_C_init 45 = .ok (.iconst 4, 1) := by decide +kernel
theorem dC_init_46 : decode c_C_init 46 = .ok (.newarray .int, 2) := by decide +kernel
theorem dC_init_48 : decode c_C_init 48 = .ok (.putfield 30, 3) := by decide +kernel
theorem dC_init_51 : decode c_C_init 51 = .ok (.aload_n 0, 1) := by decide +kernel
theorem dC_init_52 : decode c_C_init 52 = .ok (.iconst 5, 1) := by decide +kernel
theorem dC_init_53 : decode c_C_init 53 = .ok (.newarray .int, 2) := by decide +kernel
theorem dC_init_55 : decode c_C_init 55 = .ok (.putfield 33, 3) := by decide +kernel
theorem dC_init_58 : decode c_C_init 58 = .ok (.iconst 0, 1) := by decide +kernel
theorem dC_init_59 : decode c_C_init 59 = .ok (.istore_n 3, 1) := by decide +kernel
theorem dC_init_60 : decode c_C_init 60 = .ok (.iload_n 3, 1) := by decide +kernel
theorem dC_init_61 : decode c_C_init 61 = .ok (.iload_n 1, 1) := by decide +kernel
theorem dC_init_62 : decode c_C_init 62 = .ok (.if_icmp .ge 44, 3) := by decide +kernel
theorem dC_init_65 : decode c_C_init 65 = .ok (.aload_n 0, 1) := by decide +kernel
theorem dC_init_66 : decode c_C_init 66 = .ok (.getfield 15, 3) := by decide +kernel
theorem dC_init_69 : decode c_C_init 69 = .ok (.iload_n 3, 1) := by decide +kernel
theorem dC_init_70 : decode c_C_init 70 = .ok (.iconst (-1), 1) := by decide +kernel
theorem dC_init_71 : decode c_C_init 71 = .ok (.iastore, 1) := by decide +kernel
theorem dC_init_72 : decode c_C_init 72 = .ok (.aload_n 0, 1) := by decide +kernel
theorem dC_init_73 : decode c_C_init 73 = .ok (.getfield 18, 3) := by decide +kernel
theorem dC_init_76 : decode c_C_init 76 = .ok (.iload_n 3, 1) := by decide +kernel
theorem dC_init_77 : decode c_C_init 77 = .ok (.iconst (-1), 1) := by decide +kernel
theorem dC_init_78 : decode c_C_init 78 = .ok (.iastore, 1) := by decide +kernel
theorem dC_init_79 : decode c_C_init 79 = .ok (.aload_n 0, 1) := by decide +kernel
theorem dC_init_80 : decode c_C_init 80 = .ok (.getfield 21, 3) := by decide +kernel
theorem dC_init_83 : decode c_C_init 83 = .ok (.iload_n 3, 1) := by decide +kernel
theorem dC_init_84 : decode c_C_init 84 = .ok (.iconst (-1), 1) := by decide +kernel
theorem dC_init_85 : decode c_C_init 85 = .ok (.iastore, 1) := by decide +kernel
theorem dC_init_86 : decode c_C_init 86 = .ok (.aload_n 0, 1) := by decide +kernel
theorem dC_init_87 : decode c_C_init 87 = .ok (.getfield 24, 3) := by decide +kernel
theorem dC_init_90 : decode c_C_init 90 = .ok (.iload_n 3, 1) := by decide +kernel
theorem dC_init_91 : decode c_C_init 91 = .ok (.iconst (-1), 1) := by decide +kernel
theorem dC_init_92 : decode c_C_init 92 = .ok (.iastore, 1) := by decide +kernel
theorem dC_init_93 : decode c_C_init 93 = .ok (.aload_n 0, 1) := by decide +kernel
theorem dC_init_94 : decode c_C_init 94 = .ok (.getfield 27, 3) := by decide +kernel
theorem dC_init_97 : decode c_C_init 97 = .ok (.iload_n 3, 1) := by decide +kernel
theorem dC_init_98 : decode c_C_init 98 = .ok (.iconst (-1), 1) := by decide +kernel
theorem dC_init_99 : decode c_C_init 99 = .ok (.iastore, 1) := by decide +kernel
theorem dC_init_100 : decode c_C_init 100 = .ok (.iinc 3 1, 3) := by decide +kernel
theorem dC_init_103 : decode c_C_init 103 = .ok (.goto (-43), 3) := by decide +kernel
theorem dC_init_106 : decode c_C_init 106 = .ok (.iconst 0, 1) := by decide +kernel
theorem dC_init_107 : decode c_C_init 107 = .ok (.istore_n 3, 1) := by decide +kernel
theorem dC_init_108 : decode c_C_init 108 = .ok (.iload_n 3, 1) := by decide +kernel
theorem dC_init_109 : decode c_C_init 109 = .ok (.iconst 4, 1) := by decide +kernel
theorem dC_init_110 : decode c_C_init 110 = .ok (.if_icmp .ge 16, 3) := by decide +kernel
theorem dC_init_113 : decode c_C_init 113 = .ok (.aload_n 0, 1) := by decide +kernel
theorem dC_init_114 : decode c_C_init 114 = .ok (.getfield 30, 3) := by decide +kernel
theorem dC_init_117 : decode c_C_init 117 = .ok (.iload_n 3, 1) := by decide +kernel
theorem dC_init_118 : decode c_C_init 118 = .ok (.iconst (-1), 1) := by decide +kernel
theorem dC_init_119 : decode c_C_init 119 = .ok (.iastore, 1) := by decide +kernel
theorem dC_init_120 : decode c_C_init 120 = .ok (.iinc 3 1, 3) := by decide +kernel
theorem dC_init_123 : decode c_C_init 123 = .ok (.goto (-15), 3) := by decide +kernel
theorem dC_init_126 : decode c_C_init 126 = .ok (.aload_n 0, 1) := by decide +kernel
theorem dC_init_127 : decode c_C_init 127 = .ok (.iconst (-1), 1) := by decide +kernel
theorem dC_init_128 : decode c_C_init 128 = .ok (.putfield 36, 3) := by decide +kernel
theorem dC_init_131 : decode c_C_init 131 = .ok (.aload_n 0, 1) := by decide +kernel
theorem dC_init_132 : decode c_C_init 132 = .ok (.iconst (-1), 1) := by decide +kernel
theorem dC_init_133 : decode c_C_init 133 = .ok (.putfield 40, 3) := by decide +kernel
theorem dC_init_136 : decode c_C_init 136 = .ok (.return_, 1) := by decide +kernel
theorem gFC_9 : kb_FPF vwCl wsB "BankScheduler$Channel" 9 0 0 (.array .int) := ⟨(RC, TC, 12), tyTC, rfl, uwTC, tyTC_ok, nmTC, by decide, (kn_1 42 rfl rfl), rfl, rfl, rfl, by decide +kernel⟩
theorem gFC_15 : kb_FPF vwCl wsB "BankScheduler$Channel" 15 0 1 (.array .int) := ⟨(RC, TC, 12), tyTC, rfl, uwTC, tyTC_ok, nmTC, by decide, (kn_1 43 rfl rfl), rfl, rfl, rfl, by decide +kernel⟩
theorem gFC_18 : kb_FPF vwCl wsB "BankScheduler$Channel" 18 0 2 (.array .int) := ⟨(RC, TC, 12), tyTC, rfl, uwTC, tyTC_ok, nmTC, by decide, (kn_1 45 rfl rfl), rfl, rfl, rfl, by decide +kernel⟩
theorem gFC_21 : kb_FPF vwCl wsB "BankScheduler$Channel" 21 0 3 (.array .int) := ⟨(RC, TC, 12), tyTC, rfl, uwTC, tyTC_ok, nmTC, by decide, (kn_1 46 rfl rfl), rfl, rfl, rfl, by decide +kernel⟩
theorem gFC_24 : kb_FPF vwCl wsB "BankScheduler$Channel" 24 0 4 (.array .int) := ⟨(RC, TC, 12), tyTC, rfl, uwTC, tyTC_ok, nmTC, by decide, (kn_1 47 rfl rfl), rfl, rfl, rfl, by decide +kernel⟩
theorem gFC_27 : kb_FPF vwCl wsB "BankScheduler$Channel" 27 0 5 (.array .int) := ⟨(RC, TC, 12), tyTC, rfl, uwTC, tyTC_ok, nmTC, by decide, (kn_1 48 rfl rfl), rfl, rfl, rfl, by decide +kernel⟩
theorem gFC_30 : kb_FPF vwCl wsB "BankScheduler$Channel" 30 0 6 (.array .int) := ⟨(RC, TC, 12), tyTC, rfl, uwTC, tyTC_ok, nmTC, by decide, (kn_1 49 rfl rfl), rfl, rfl, rfl, by decide +kernel⟩
theorem gFC_33 : kb_FPF vwCl wsB "BankScheduler$Channel" 33 0 7 (.array .int) := ⟨(RC, TC, 12), tyTC, rfl, uwTC, tyTC_ok, nmTC, by decide, (kn_1 50 rfl rfl), rfl, rfl, rfl, by decide +kernel⟩
theorem Y_C_init : kb_Y wsB y_C_init c_C_init 4 none 2 := ⟨kn_g, (kn_1 40 rfl rfl), (kn_1 3 rfl rfl), by decide, by decide, by decide +kernel⟩
theorem I_C_init : Cond.instanceMethod y_C_init ∈ wsB := (kn_1 39 rfl rfl)
def chW (cI : ClassId) (nb : Nat) (a : Nat → Nat) (z : kb_S) : va_W := [(a 0, .inr (0, [.ref (a 1), .ref (a 2), .ref (a 3), .ref (a 4), .ref (a 5), .ref (a 6), .ref (a 7), .ref (a 8), .int (z 0 0), .int (z 0 1), .int (z 0 2), .int (z 0 3)])),
  (a 1, .inl (cI, 12, .inl (z 1))),
  (a 2, .inl (cI, nb, .inl (z 2))),
  (a 3, .inl (cI, nb, .inl (z 3))),
  (a 4, .inl (cI, nb, .inl (z 4))),
  (a 5, .inl (cI, nb, .inl (z 5))),
  (a 6, .inl (cI, nb, .inl (z 6))),
  (a 7, .inl (cI, 4, .inl (z 7))),
  (a 8, .inl (cI, 5, .inl (z 8)))]
def kzC (tf : Nat → Int32) : kb_S := fun k => if k = 1 then tf else fun _ => 0
abbrev rm_C_init (nb : Nat) : Room := { frames := 1, cells := 7, slots := 5 * nb + 9, locals := 12 }
noncomputable def pC_init_L108 (nb : Nat) : Nat → Int32 → kb_S → Option (Int32 × kb_S)
  | 0, _, _ => none
  | n + 1, x3, z => kb_br (4 ≤ x3) (kb_st (kb_up z 0 1 ((-1))) (fun z1 => kb_st (kb_up z1 0 2 ((-1))) (fun z3 => some (0, z3)))) (kb_ck (vp_in (x3) 4) (kb_st (kb_up z 7 (kb_ix (x3)) ((-1))) (fun z6 => pC_init_L108 nb n (x3 + 1) z6)))
noncomputable def pC_init_L60 (nb : Nat) : Nat → Int32 → Int32 → kb_S → Option (Int32 × kb_S)
  | 0, _, _, _ => none
  | n + 1, x1, x3, z => kb_br (x1 ≤ x3) (pC_init_L108 nb 3000 0 z) (kb_ck (vp_in (x3) nb) (kb_st (kb_up z 2 (kb_ix (x3)) ((-1))) (fun z9 => kb_ck (vp_in (x3) nb) (kb_st (kb_up z9 3 (kb_ix (x3)) ((-1))) (fun z12 => kb_ck (vp_in (x3) nb) (kb_st (kb_up z12 4 (kb_ix (x3)) ((-1))) (fun z15 => kb_ck (vp_in (x3) nb) (kb_st (kb_up z15 5 (kb_ix (x3)) ((-1))) (fun z18 => kb_ck (vp_in (x3) nb) (kb_st (kb_up z18 6 (kb_ix (x3)) ((-1))) (fun z21 => pC_init_L60 nb n x1 (x3 + 1) z21)))))))))))
noncomputable def pC_init (nb : Nat) (tf : Nat → Int32) : Option (Int32 × kb_S) := pC_init_L60 nb 3000 (nI nb) 0 (kzC tf)
set_option maxHeartbeats 8000000 in
set_option maxRecDepth 100000 in
theorem cC_init (l : Launch) (D : va_G) (cI : ClassId) (h0 t : Nat) (tf : Nat → Int32) (nb : Nat) (hnb : nb ≤ 8) (sz : Nat) (z' : kb_S) (h : pC_init nb tf = some (0, z')) : Met l y_C_init (Cond.code y_C_init c_C_init 4 none :: wsB) (rm_C_init nb) (kb_Pc D vwCl [(cI, .int)] sz [.ref h0, .int (nI nb), .ref t] [(h0, .inr (0, [.null, .null, .null, .null, .null, .null, .null, .null, .int 0, .int 0, .int 0, .int 0])), (t, .inl (cI, 12, .inl tf))]) (kc_Q D vwCl sz [(h0, .inr (0, [.null, .null, .null, .null, .null, .null, .null, .null, .int 0, .int 0, .int 0, .int 0])), (t, .inl (cI, 12, .inl tf))] (fun a : Nat → Nat => a 0 = h0 ∧ a 1 = t) (fun a : Nat → Nat => chW cI nb a z')) 7 (5 * nb + 9) (va_A [(h0, .inr (0, [.null, .null, .null, .null, .null, .null, .null, .null, .int 0, .int 0, .int 0, .int 0])), (t, .inl (cI, 12, .inl tf))] sz) := by
  refine kc_start (by decide) rfl rfl (Nat.le_of_ble_eq_true rfl) ?_
  intro p e s m args below meth c A ls S hr hlk hsz hA w hin hl
  have hl : lv_has ls 4 [(0, .ref h0), (1, .int (nI nb)), (2, .ref t)] := hl
  refine lv_aload_n S.1 S.2.1 dC_init_0 rfl (lv_at hl 0 rfl) ?_
  refine kb_oi S oi_C hl.1 dC_init_1 ⟨Nat.le_of_ble_eq_true rfl, Nat.le_of_ble_eq_true rfl⟩ ?_
  refine lv_aload_n S.1 S.2.1 dC_init_4 rfl (lv_at hl 0 rfl) ?_
  refine lv_aload_n S.1 S.2.1 dC_init_5 rfl (lv_at hl 2 rfl) ?_
  refine kb_putF S hin w 0 rfl gFC_9 rfl rfl (Nat.le_of_ble_eq_true rfl) (ws1 := [(h0, .inr (0, [.ref t, .null, .null, .null, .null, .null, .null, .null, .int 0, .int 0, .int 0, .int 0])), (t, .inl (cI, 12, .inl tf))]) rfl dC_init_6 (fun H locs w => ?_)
  refine lv_aload_n S.1 S.2.1 dC_init_9 rfl (lv_at hl 0 rfl) ?_
  refine lv_iload_n S.1 S.2.1 dC_init_10 rfl (lv_at hl 1 rfl) ?_
  refine kb_newI S w 0 rfl (N := nb) (nI_pos (by omega)) (nI_clamp (by omega)) (by omega) (Nat.le_of_ble_eq_true rfl) (by show _ ≤ 5 * nb + 9; omega) dC_init_11 (fun q1 H w => ?_)
  refine kb_putF S hin w 0 rfl gFC_15 rfl rfl (Nat.le_of_ble_eq_true rfl) (ws1 := [(h0, .inr (0, [.ref t, .ref q1, .null, .null, .null, .null, .null, .null, .int 0, .int 0, .int 0, .int 0])), (t, .inl (cI, 12, .inl tf)), (q1, .inl (cI, nb, .inl (fun _ => 0)))]) rfl dC_init_13 (fun H locs w => ?_)
  refine lv_aload_n S.1 S.2.1 dC_init_16 rfl (lv_at hl 0 rfl) ?_
  refine lv_iload_n S.1 S.2.1 dC_init_17 rfl (lv_at hl 1 rfl) ?_
  refine kb_newI S w 0 rfl (N := nb) (nI_pos (by omega)) (nI_clamp (by omega)) (by omega) (Nat.le_of_ble_eq_true rfl) (by show _ ≤ 5 * nb + 9; omega) dC_init_18 (fun q2 H w => ?_)
  refine kb_putF S hin w 0 rfl gFC_18 rfl rfl (Nat.le_of_ble_eq_true rfl) (ws1 := [(h0, .inr (0, [.ref t, .ref q1, .ref q2, .null, .null, .null, .null, .null, .int 0, .int 0, .int 0, .int 0])), (t, .inl (cI, 12, .inl tf)), (q1, .inl (cI, nb, .inl (fun _ => 0))), (q2, .inl (cI, nb, .inl (fun _ => 0)))]) rfl dC_init_20 (fun H locs w => ?_)
  refine lv_aload_n S.1 S.2.1 dC_init_23 rfl (lv_at hl 0 rfl) ?_
  refine lv_iload_n S.1 S.2.1 dC_init_24 rfl (lv_at hl 1 rfl) ?_
  refine kb_newI S w 0 rfl (N := nb) (nI_pos (by omega)) (nI_clamp (by omega)) (by omega) (Nat.le_of_ble_eq_true rfl) (by show _ ≤ 5 * nb + 9; omega) dC_init_25 (fun q3 H w => ?_)
  refine kb_putF S hin w 0 rfl gFC_21 rfl rfl (Nat.le_of_ble_eq_true rfl) (ws1 := [(h0, .inr (0, [.ref t, .ref q1, .ref q2, .ref q3, .null, .null, .null, .null, .int 0, .int 0, .int 0, .int 0])), (t, .inl (cI, 12, .inl tf)), (q1, .inl (cI, nb, .inl (fun _ => 0))), (q2, .inl (cI, nb, .inl (fun _ => 0))), (q3, .inl (cI, nb, .inl (fun _ => 0)))]) rfl dC_init_27 (fun H locs w => ?_)
  refine lv_aload_n S.1 S.2.1 dC_init_30 rfl (lv_at hl 0 rfl) ?_
  refine lv_iload_n S.1 S.2.1 dC_init_31 rfl (lv_at hl 1 rfl) ?_
  refine kb_newI S w 0 rfl (N := nb) (nI_pos (by omega)) (nI_clamp (by omega)) (by omega) (Nat.le_of_ble_eq_true rfl) (by show _ ≤ 5 * nb + 9; omega) dC_init_32 (fun q4 H w => ?_)
  refine kb_putF S hin w 0 rfl gFC_24 rfl rfl (Nat.le_of_ble_eq_true rfl) (ws1 := [(h0, .inr (0, [.ref t, .ref q1, .ref q2, .ref q3, .ref q4, .null, .null, .null, .int 0, .int 0, .int 0, .int 0])), (t, .inl (cI, 12, .inl tf)), (q1, .inl (cI, nb, .inl (fun _ => 0))), (q2, .inl (cI, nb, .inl (fun _ => 0))), (q3, .inl (cI, nb, .inl (fun _ => 0))), (q4, .inl (cI, nb, .inl (fun _ => 0)))]) rfl dC_init_34 (fun H locs w => ?_)
  refine lv_aload_n S.1 S.2.1 dC_init_37 rfl (lv_at hl 0 rfl) ?_
  refine lv_iload_n S.1 S.2.1 dC_init_38 rfl (lv_at hl 1 rfl) ?_
  refine kb_newI S w 0 rfl (N := nb) (nI_pos (by omega)) (nI_clamp (by omega)) (by omega) (Nat.le_of_ble_eq_true rfl) (by show _ ≤ 5 * nb + 9; omega) dC_init_39 (fun q5 H w => ?_)
  refine kb_putF S hin w 0 rfl gFC_27 rfl rfl (Nat.le_of_ble_eq_true rfl) (ws1 := [(h0, .inr (0, [.ref t, .ref q1, .ref q2, .ref q3, .ref q4, .ref q5, .null, .null, .int 0, .int 0, .int 0, .int 0])), (t, .inl (cI, 12, .inl tf)), (q1, .inl (cI, nb, .inl (fun _ => 0))), (q2, .inl (cI, nb, .inl (fun _ => 0))), (q3, .inl (cI, nb, .inl (fun _ => 0))), (q4, .inl (cI, nb, .inl (fun _ => 0))), (q5, .inl (cI, nb, .inl (fun _ => 0)))]) rfl dC_init_41 (fun H locs w => ?_)
  refine lv_aload_n S.1 S.2.1 dC_init_44 rfl (lv_at hl 0 rfl) ?_
  refine lv_iconst (v := 4) S.1 S.2.1 dC_init_45 (by decide) ?_
  refine kb_newI S w 0 rfl (N := 4) (by decide) (by decide) (by decide) (Nat.le_of_ble_eq_true rfl) (by show _ ≤ 5 * nb + 9; omega) dC_init_46 (fun q6 H w => ?_)
  refine kb_putF S hin w 0 rfl gFC_30 rfl rfl (Nat.le_of_ble_eq_true rfl) (ws1 := [(h0, .inr (0, [.ref t, .ref q1, .ref q2, .ref q3, .ref q4, .ref q5, .ref q6, .null, .int 0, .int 0, .int 0, .int 0])), (t, .inl (cI, 12, .inl tf)), (q1, .inl (cI, nb, .inl (fun _ => 0))), (q2, .inl (cI, nb, .inl (fun _ => 0))), (q3, .inl (cI, nb, .inl (fun _ => 0))), (q4, .inl (cI, nb, .inl (fun _ => 0))), (q5, .inl (cI, nb, .inl (fun _ => 0))), (q6, .inl (cI, 4, .inl (fun _ => 0)))]) rfl dC_init_48 (fun H locs w => ?_)
  refine lv_aload_n S.1 S.2.1 dC_init_51 rfl (lv_at hl 0 rfl) ?_
  refine lv_iconst (v := 5) S.1 S.2.1 dC_init_52 (by decide) ?_
  refine kb_newI S w 0 rfl (N := 5) (by decide) (by decide) (by decide) (Nat.le_of_ble_eq_true rfl) (by show _ ≤ 5 * nb + 9; omega) dC_init_53 (fun q7 H w => ?_)
  refine kb_putF S hin w 0 rfl gFC_33 rfl rfl (Nat.le_of_ble_eq_true rfl) (ws1 := [(h0, .inr (0, [.ref t, .ref q1, .ref q2, .ref q3, .ref q4, .ref q5, .ref q6, .ref q7, .int 0, .int 0, .int 0, .int 0])), (t, .inl (cI, 12, .inl tf)), (q1, .inl (cI, nb, .inl (fun _ => 0))), (q2, .inl (cI, nb, .inl (fun _ => 0))), (q3, .inl (cI, nb, .inl (fun _ => 0))), (q4, .inl (cI, nb, .inl (fun _ => 0))), (q5, .inl (cI, nb, .inl (fun _ => 0))), (q6, .inl (cI, 4, .inl (fun _ => 0))), (q7, .inl (cI, 5, .inl (fun _ => 0)))]) rfl dC_init_55 (fun H locs w => ?_)
  refine W.widen (k := 7) (n := (5 * nb + 9)) (by decide) (by omega) ?_
  obtain ⟨a, ha⟩ : ∃ a : Nat → Nat, a = fun k => ([h0, t, q1, q2, q3, q4, q5, q6, q7] : List Nat).getD k 0 := ⟨_, rfl⟩
  have w : kb_W D vwCl [(cI, .int)] A s H locs (chW cI nb a (kzC tf)) := by rw [ha]; exact w
  have h0a : a 0 = h0 := by rw [ha]; rfl
  have h1a : a 1 = t := by rw [ha]; rfl
  have hl : lv_has ls 4 [(0, .ref (a 0)), (1, .int (nI nb)), (2, .ref (a 1))] := by rw [h0a, h1a]; exact hl
  unfold pC_init at h
  have L108 : ∀ (n : Nat) (x3 : Int32) (z : kb_S) (H : Heap) (locs : List Loc) (ls : Array Slot), lv_has ls 4 [(0, .ref (a 0)), (3, .int x3)] → kb_W D vwCl [(cI, .int)] A s H locs (chW cI nb a z) → pC_init_L108 nb n x3 z = some (0, z') → W p l e (rm_C_init nb) s m args below meth c H locs 7 (5 * nb + 9) (MQ below (kc_Q D vwCl sz [(h0, .inr (0, [.null, .null, .null, .null, .null, .null, .null, .null, .int 0, .int 0, .int 0, .int 0])), (t, .inl (cI, 12, .inl tf))] (fun a : Nat → Nat => a 0 = h0 ∧ a 1 = t) (fun a : Nat → Nat => chW cI nb a z')) args s 7 (5 * nb + 9) (va_A [(h0, .inr (0, [.null, .null, .null, .null, .null, .null, .null, .null, .int 0, .int 0, .int 0, .int 0])), (t, .inl (cI, 12, .inl tf))] sz)) (F0 m 108 ls []) := by
    intro n
    induction n with
    | zero =>
      intro x3 z H locs ls hl w h
      exact absurd h (by simp [pC_init_L108])
    | succ n ih =>
      intro x3 z H locs ls hl w h
      rw [pC_init_L108] at h
      refine lv_iload_n S.1 S.2.1 dC_init_108 rfl (lv_at hl 1 rfl) ?_
      refine lv_iconst (v := 4) S.1 S.2.1 dC_init_109 (by decide) ?_
      refine lv_icmp_ge (tgt := 126) S.1 S.2.1 dC_init_110 (by decide) (fun hc => ?_) (fun hc => ?_)
      · have h := (kb_brt hc).symm.trans h
        refine lv_aload_n S.1 S.2.1 dC_init_126 rfl (lv_at hl 0 rfl) ?_
        refine lv_iconst (v := (-1)) S.1 S.2.1 dC_init_127 (by decide) ?_
        obtain ⟨z1, hz2, h⟩ := kb_st_of h
        refine kb_puti S w 0 rfl gC_36 (Nat.le_of_ble_eq_true rfl) (ws1 := chW cI nb a z1) (by rw [hz2]; rfl) dC_init_128 (fun H locs w => ?_)
        refine lv_aload_n S.1 S.2.1 dC_init_131 rfl (lv_at hl 0 rfl) ?_
        refine lv_iconst (v := (-1)) S.1 S.2.1 dC_init_132 (by decide) ?_
        obtain ⟨z3, hz4, h⟩ := kb_st_of h
        refine kb_puti S w 0 rfl gC_40 (Nat.le_of_ble_eq_true rfl) (ws1 := chW cI nb a z3) (by rw [hz4]; rfl) dC_init_133 (fun H locs w => ?_)
        exact kc_ret (a := a) (ok := (fun a : Nat → Nat => a 0 = h0 ∧ a 1 = t)) (f := (fun a : Nat → Nat => chW cI nb a z')) S hr hlk hA (by rw [← kc_e h]; exact w) ⟨h0a, h1a⟩ dC_init_136
      · have h := (kb_brf hc).symm.trans h
        refine lv_aload_n S.1 S.2.1 dC_init_113 rfl (lv_at hl 0 rfl) ?_
        refine kb_get S w 0 rfl fC_30 rfl dC_init_114 ?_
        refine W.eq (g2 := F0 m 117 ls [.ref (a 7)]) rfl ?_
        refine lv_iload_n S.1 S.2.1 dC_init_117 rfl (lv_at hl 1 rfl) ?_
        refine lv_iconst (v := (-1)) S.1 S.2.1 dC_init_118 (by decide) ?_
        obtain ⟨hi5, h⟩ := kb_ck_of h
        obtain ⟨z6, hz7, h⟩ := kb_st_of h
        refine kb_iast S w 7 0 rfl rfl hi5 (ws1 := chW cI nb a z6) (by rw [hz7]; rfl) dC_init_119 (fun H locs w => ?_)
        refine lv_iinc (v := x3 + 1) (k := 1) S.1 S.2.1 dC_init_120 hl rfl rfl (by decide) rfl (fun ls hl => ?_)
        have hl : lv_has ls 4 [(3, .int (x3 + 1)), (0, .ref (a 0))] := hl
        refine lv_goto (tgt := 108) S.1 S.2.1 dC_init_123 (by decide) ?_
        exact ih (x3 + 1) z6 _ _ _ (lv_sub hl [1, 0] rfl) w h
  have L60 : ∀ (n : Nat) (x1 : Int32) (x3 : Int32) (z : kb_S) (H : Heap) (locs : List Loc) (ls : Array Slot), lv_has ls 4 [(0, .ref (a 0)), (1, .int x1), (3, .int x3)] → kb_W D vwCl [(cI, .int)] A s H locs (chW cI nb a z) → pC_init_L60 nb n x1 x3 z = some (0, z') → W p l e (rm_C_init nb) s m args below meth c H locs 7 (5 * nb + 9) (MQ below (kc_Q D vwCl sz [(h0, .inr (0, [.null, .null, .null, .null, .null, .null, .null, .null, .int 0, .int 0, .int 0, .int 0])), (t, .inl (cI, 12, .inl tf))] (fun a : Nat → Nat => a 0 = h0 ∧ a 1 = t) (fun a : Nat → Nat => chW cI nb a z')) args s 7 (5 * nb + 9) (va_A [(h0, .inr (0, [.null, .null, .null, .null, .null, .null, .null, .null, .int 0, .int 0, .int 0, .int 0])), (t, .inl (cI, 12, .inl tf))] sz)) (F0 m 60 ls []) := by
    intro n
    induction n with
    | zero =>
      intro x1 x3 z H locs ls hl w h
      exact absurd h (by simp [pC_init_L60])
    | succ n ih =>
      intro x1 x3 z H locs ls hl w h
      rw [pC_init_L60] at h
      refine lv_iload_n S.1 S.2.1 dC_init_60 rfl (lv_at hl 2 rfl) ?_
      refine lv_iload_n S.1 S.2.1 dC_init_61 rfl (lv_at hl 1 rfl) ?_
      refine lv_icmp_ge (tgt := 106) S.1 S.2.1 dC_init_62 (by decide) (fun hc => ?_) (fun hc => ?_)
      · have h := (kb_brt hc).symm.trans h
        refine lv_iconst (v := 0) S.1 S.2.1 dC_init_106 (by decide) ?_
        refine lv_istore_n S.1 S.2.1 dC_init_107 rfl hl (by decide) rfl (fun ls hl => ?_)
        have hl : lv_has ls 4 [(3, .int 0), (0, .ref (a 0)), (1, .int x1)] := hl
        exact L108 3000 0 z _ _ _ (lv_sub hl [1, 0] rfl) w h
      · have h := (kb_brf hc).symm.trans h
        refine lv_aload_n S.1 S.2.1 dC_init_65 rfl (lv_at hl 0 rfl) ?_
        refine kb_get S w 0 rfl fC_15 rfl dC_init_66 ?_
        refine W.eq (g2 := F0 m 69 ls [.ref (a 2)]) rfl ?_
        refine lv_iload_n S.1 S.2.1 dC_init_69 rfl (lv_at hl 2 rfl) ?_
        refine lv_iconst (v := (-1)) S.1 S.2.1 dC_init_70 (by decide) ?_
        obtain ⟨hi8, h⟩ := kb_ck_of h
        obtain ⟨z9, hz10, h⟩ := kb_st_of h
        refine kb_iast S w 2 0 rfl rfl hi8 (ws1 := chW cI nb a z9) (by rw [hz10]; rfl) dC_init_71 (fun H locs w => ?_)
        refine lv_aload_n S.1 S.2.1 dC_init_72 rfl (lv_at hl 0 rfl) ?_
        refine kb_get S w 0 rfl fC_18 rfl dC_init_73 ?_
        refine W.eq (g2 := F0 m 76 ls [.ref (a 3)]) rfl ?_
        refine lv_iload_n S.1 S.2.1 dC_init_76 rfl (lv_at hl 2 rfl) ?_
        refine lv_iconst (v := (-1)) S.1 S.2.1 dC_init_77 (by decide) ?_
        obtain ⟨hi11, h⟩ := kb_ck_of h
        obtain ⟨z12, hz13, h⟩ := kb_st_of h
        refine kb_iast S w 3 0 rfl rfl hi11 (ws1 := chW cI nb a z12) (by rw [hz13]; rfl) dC_init_78 (fun H locs w => ?_)
        refine lv_aload_n S.1 S.2.1 dC_init_79 rfl (lv_at hl 0 rfl) ?_
        refine kb_get S w 0 rfl fC_21 rfl dC_init_80 ?_
        refine W.eq (g2 := F0 m 83 ls [.ref (a 4)]) rfl ?_
        refine lv_iload_n S.1 S.2.1 dC_init_83 rfl (lv_at hl 2 rfl) ?_
        refine lv_iconst (v := (-1)) S.1 S.2.1 dC_init_84 (by decide) ?_
        obtain ⟨hi14, h⟩ := kb_ck_of h
        obtain ⟨z15, hz16, h⟩ := kb_st_of h
        refine kb_iast S w 4 0 rfl rfl hi14 (ws1 := chW cI nb a z15) (by rw [hz16]; rfl) dC_init_85 (fun H locs w => ?_)
        refine lv_aload_n S.1 S.2.1 dC_init_86 rfl (lv_at hl 0 rfl) ?_
        refine kb_get S w 0 rfl fC_24 rfl dC_init_87 ?_
        refine W.eq (g2 := F0 m 90 ls [.ref (a 5)]) rfl ?_
        refine lv_iload_n S.1 S.2.1 dC_init_90 rfl (lv_at hl 2 rfl) ?_
        refine lv_iconst (v := (-1)) S.1 S.2.1 dC_init_91 (by decide) ?_
        obtain ⟨hi17, h⟩ := kb_ck_of h
        obtain ⟨z18, hz19, h⟩ := kb_st_of h
        refine kb_iast S w 5 0 rfl rfl hi17 (ws1 := chW cI nb a z18) (by rw [hz19]; rfl) dC_init_92 (fun H locs w => ?_)
        refine lv_aload_n S.1 S.2.1 dC_init_93 rfl (lv_at hl 0 rfl) ?_
        refine kb_get S w 0 rfl fC_27 rfl dC_init_94 ?_
        refine W.eq (g2 := F0 m 97 ls [.ref (a 6)]) rfl ?_
        refine lv_iload_n S.1 S.2.1 dC_init_97 rfl (lv_at hl 2 rfl) ?_
        refine lv_iconst (v := (-1)) S.1 S.2.1 dC_init_98 (by decide) ?_
        obtain ⟨hi20, h⟩ := kb_ck_of h
        obtain ⟨z21, hz22, h⟩ := kb_st_of h
        refine kb_iast S w 6 0 rfl rfl hi20 (ws1 := chW cI nb a z21) (by rw [hz22]; rfl) dC_init_99 (fun H locs w => ?_)
        refine lv_iinc (v := x3 + 1) (k := 2) S.1 S.2.1 dC_init_100 hl rfl rfl (by decide) rfl (fun ls hl => ?_)
        have hl : lv_has ls 4 [(3, .int (x3 + 1)), (0, .ref (a 0)), (1, .int x1)] := hl
        refine lv_goto (tgt := 60) S.1 S.2.1 dC_init_103 (by decide) ?_
        exact ih x1 (x3 + 1) z21 _ _ _ (lv_sub hl [1, 2, 0] rfl) w h
  refine lv_iconst (v := 0) S.1 S.2.1 dC_init_58 (by decide) ?_
  refine lv_istore_n S.1 S.2.1 dC_init_59 rfl hl (by decide) rfl (fun ls hl => ?_)
  have hl : lv_has ls 4 [(3, .int 0), (0, .ref (a 0)), (1, .int (nI nb)), (2, .ref (a 1))] := hl
  exact L60 3000 (nI nb) 0 (kzC tf) _ _ _ (lv_sub hl [1, 2, 0] rfl) w h
