/-! the pure functions of the class, laid by wip/whole/layB.py -/
abbrev kc_S : Type := (Nat → Nat → Int32) × (Nat → Nat) × (Nat → Nat → Int32)
def kc_set (z : kc_S) (k j : Nat) (v : Int32) : kc_S := (kb_up z.1 k j v, z.2)
def kc_setQ (z : kc_S) (k v : Nat) : kc_S := (z.1, va_up z.2.1 k v, z.2.2)
def kc_upR (rq : Nat → Nat → Int32) (x j : Nat) (v : Int32) : Nat → Nat → Int32 := fun y => if y = x then upd (rq x) j v else rq y
def kc_setR (z : kc_S) (x j : Nat) (v : Int32) : kc_S := (z.1, z.2.1, kc_upR z.2.2 x j v)
def kc_F (rq : Nat → Nat → Int32) : Nat → va_E := fun x => .inr (1, [.int (rq x 0), .int (rq x 1), .int (rq x 2), .int (rq x 3), .int (rq x 4), .int (rq x 5), .int (rq x 6)])
def bX (cI cQ : ClassId) (a : Nat → Nat) (nb Q : Nat) (z : kc_S) : va_W := [(a 0, .inr (2, [.int (z.1 0 0), .ref (a 1), .ref (a 2), .ref (a 3), .ref (a 11), .ref (a 21), .int (z.1 0 1), .int (z.1 0 2), .int (z.1 0 3), .ref (a 19), .ref (a 20)])),
  (a 1, .inl (cI, 12, .inl (z.1 1))),
  (a 2, .inl (cI, nb * 128, .inl (z.1 2))),
  (a 3, .inr (0, [.ref (a 1), .ref (a 4), .ref (a 5), .ref (a 6), .ref (a 7), .ref (a 8), .ref (a 9), .ref (a 10), .int (z.1 3 0), .int (z.1 3 1), .int (z.1 3 2), .int (z.1 3 3)])),
  (a 4, .inl (cI, nb, .inl (z.1 4))),
  (a 5, .inl (cI, nb, .inl (z.1 5))),
  (a 6, .inl (cI, nb, .inl (z.1 6))),
  (a 7, .inl (cI, nb, .inl (z.1 7))),
  (a 8, .inl (cI, nb, .inl (z.1 8))),
  (a 9, .inl (cI, 4, .inl (z.1 9))),
  (a 10, .inl (cI, 5, .inl (z.1 10))),
  (a 11, .inr (0, [.ref (a 1), .ref (a 12), .ref (a 13), .ref (a 14), .ref (a 15), .ref (a 16), .ref (a 17), .ref (a 18), .int (z.1 11 0), .int (z.1 11 1), .int (z.1 11 2), .int (z.1 11 3)])),
  (a 12, .inl (cI, nb, .inl (z.1 12))),
  (a 13, .inl (cI, nb, .inl (z.1 13))),
  (a 14, .inl (cI, nb, .inl (z.1 14))),
  (a 15, .inl (cI, nb, .inl (z.1 15))),
  (a 16, .inl (cI, nb, .inl (z.1 16))),
  (a 17, .inl (cI, 4, .inl (z.1 17))),
  (a 18, .inl (cI, 5, .inl (z.1 18))),
  (a 19, .inl (cI, 32, .inl (z.1 19))),
  (a 20, .inl (cI, 32, .inl (z.1 20))),
  (a 21, .inl (cQ, Q, .inr (.inr (.inr (.inr (fun i => some (z.2.1 i)))))))]
abbrev bW (cI cQ : ClassId) (a : Nat → Nat) (nb Q : Nat) (L : List Nat) (z : kc_S) : va_W := bX cI cQ a nb Q z ++ va_pl L (kc_F z.2.2)
theorem kc_setQ_eq {cI cQ : ClassId} {a : Nat → Nat} {nb Q : Nat} {L : List Nat} {z : kc_S} {k v : Nat} : (bW cI cQ a nb Q L z).set 21 (a 21, .inl (cQ, Q, .inr (.inr (.inr (.inr (va_up (fun i => some (z.2.1 i)) k (some v))))))) = bW cI cQ a nb Q L (kc_setQ z k v) := by
  have e : va_up (fun i => some (z.2.1 i)) k (some v) = fun i => some (va_up z.2.1 k v i) := by
    funext i
    unfold va_up
    split <;> rfl
  rw [e]
  rfl
theorem kc_F_put {rq : Nat → Nat → Int32} {x j : Nat} {v : Int32} (hj : j < 7) : va_up (kc_F rq) x (.inr (1, [.int (rq x 0), .int (rq x 1), .int (rq x 2), .int (rq x 3), .int (rq x 4), .int (rq x 5), .int (rq x 6)].set j (.int v))) = kc_F (kc_upR rq x j v) := by
  funext y
  by_cases h : y = x
  · subst h
    have hj' : j = 0 ∨ j = 1 ∨ j = 2 ∨ j = 3 ∨ j = 4 ∨ j = 5 ∨ j = 6 := by omega
    rcases hj' with rfl | rfl | rfl | rfl | rfl | rfl | rfl <;> simp [va_up, kc_F, kc_upR, upd]
  · simp [va_up, kc_F, kc_upR, h]
theorem kc_put {cI cQ : ClassId} {a : Nat → Nat} {nb Q : Nat} {L : List Nat} {z : kc_S} {A : Nat → Prop} {x k j : Nat} {v : Int32} (hj : j < 7) (hD : va_D A (bW cI cQ a nb Q L z)) (hm : x ∈ L) (hk : (bX cI cQ a nb Q z ++ va_pl L (kc_F z.2.2))[k]? = some (x, kc_F z.2.2 x)) :
    (bW cI cQ a nb Q L z).set k (x, .inr (1, [.int (z.2.2 x 0), .int (z.2.2 x 1), .int (z.2.2 x 2), .int (z.2.2 x 3), .int (z.2.2 x 4), .int (z.2.2 x 5), .int (z.2.2 x 6)].set j (.int v))) = bW cI cQ a nb Q L (kc_setR z x j v) := by
  have h := va_pl_set (e := .inr (1, [.int (z.2.2 x 0), .int (z.2.2 x 1), .int (z.2.2 x 2), .int (z.2.2 x 3), .int (z.2.2 x 4), .int (z.2.2 x 5), .int (z.2.2 x 6)].set j (.int v))) hD hm hk
  rw [kc_F_put hj] at h
  exact h
noncomputable def pC_hasBank (b nb Q : Nat) (L : List Nat) (x1 : Int32) (z0 : kc_S) : Option (Int32 × kc_S) := kb_br (x1 < 0) (some (0, z0)) (kb_br ((nI nb) ≤ x1) (some (0, z0)) (some (1, z0)))
noncomputable def pB_isRow (nb Q : Nat) (L : List Nat) (x0 : Int32) (z0 : kc_S) : Option (Int32 × kc_S) := kb_br (x0 < 0) (some (0, z0)) (kb_br (16 ≤ x0) (some (0, z0)) (some (1, z0)))
noncomputable def pB_wordPlace (nb Q : Nat) (L : List Nat) (x0 : Int32) (x1 : Int32) (x2 : Int32) (z0 : kc_S) : Option (Int32 × kc_S) := some ((((x0 * 16) + x1) * 8) + x2, z0)
noncomputable def pB_enqueue (nb Q : Nat) (L : List Nat) (x1 : Int32) (x2 : Int32) (x3 : Int32) (x4 : Int32) (x5 : Int32) (z0 : kc_S) : Option (Int32 × kc_S) := kb_ck (vp_in (z0.1 0 1) Q) (kb_ck (z0.2.1 (kb_ix (z0.1 0 1)) ∈ L) (kb_st (kc_setR z0 (z0.2.1 (kb_ix (z0.1 0 1))) 0 (x1)) (fun z2 => kb_ck (z0.2.1 (kb_ix (z0.1 0 1)) ∈ L) (kb_st (kc_setR z2 (z0.2.1 (kb_ix (z0.1 0 1))) 1 (x2)) (fun z7 => kb_ck (z0.2.1 (kb_ix (z0.1 0 1)) ∈ L) (kb_st (kc_setR z7 (z0.2.1 (kb_ix (z0.1 0 1))) 2 (x3)) (fun z12 => kb_cl (pB_wordPlace nb Q L x2 x3 x4 z12) (fun r18 z17 => kb_ck (z0.2.1 (kb_ix (z0.1 0 1)) ∈ L) (kb_st (kc_setR z17 (z0.2.1 (kb_ix (z0.1 0 1))) 3 (r18)) (fun z20 => kb_ck (z0.2.1 (kb_ix (z0.1 0 1)) ∈ L) (kb_st (kc_setR z20 (z0.2.1 (kb_ix (z0.1 0 1))) 4 (x5)) (fun z25 => kb_ck (z0.2.1 (kb_ix (z0.1 0 1)) ∈ L) (kb_st (kc_setR z25 (z0.2.1 (kb_ix (z0.1 0 1))) 5 (z25.1 0 2)) (fun z30 => kb_ck (z0.2.1 (kb_ix (z0.1 0 1)) ∈ L) (kb_st (kc_setR z30 (z0.2.1 (kb_ix (z0.1 0 1))) 6 (z30.1 3 3)) (fun z35 => kb_st (kc_set z35 0 1 ((z35.1 0 1) + 1)) (fun z40 => kb_st (kc_set z40 0 2 ((z40.1 0 2) + 1)) (fun z42 => kb_ck (z0.2.1 (kb_ix (z0.1 0 1)) ∈ L) (kb_ck (vp_in ((z42.2.2 (z0.2.1 (kb_ix (z0.1 0 1))) 5) &&& 31) 32) (kb_st (kc_set z42 20 (kb_ix ((z42.2.2 (z0.2.1 (kb_ix (z0.1 0 1))) 5) &&& 31)) (2147483647)) (fun z48 => kb_ck (z0.2.1 (kb_ix (z0.1 0 1)) ∈ L) (some (z48.2.2 (z0.2.1 (kb_ix (z0.1 0 1))) 5, z48)))))))))))))))))))))))
noncomputable def pB_refreshIsDue_J22 (nb Q : Nat) (L : List Nat) (s0 : Int32) (z : kc_S) : Option (Int32 × kc_S) := kb_ck (vp_in (10) 12) (kb_br (((z.1 3 3) - s0) < (z.1 1 (kb_ix (10)))) (some (0, z)) (some (1, z)))
noncomputable def pB_refreshIsDue (nb Q : Nat) (L : List Nat) (z0 : kc_S) : Option (Int32 × kc_S) := kb_br ((z0.1 3 2) = (-1)) (pB_refreshIsDue_J22 nb Q L 0 z0) (pB_refreshIsDue_J22 nb Q L (z0.1 3 2) z0)
noncomputable def pC_isTooSoon (b nb Q : Nat) (L : List Nat) (x1 : Int32) (x2 : Int32) (z0 : kc_S) : Option (Int32 × kc_S) := kb_br (x2 = (-1)) (some (0, z0)) (kb_ck (vp_in (x1) 12) (kb_br ((z0.1 1 (kb_ix (x1))) ≤ ((z0.1 b 3) - x2)) (some (0, z0)) (some (1, z0))))
noncomputable def pC_brokenByRefresh_L32 (b nb Q : Nat) (L : List Nat) : Nat → Int32 → kc_S → Option (Int32 × kc_S)
  | 0, _, _ => none
  | n + 1, x1, z => kb_br ((nI nb) ≤ x1) (kb_cl (pC_isTooSoon b nb Q L 9 (z.1 b 2) z) (fun r2 z1 => kb_br (r2 = 0) (some (0, z1)) (some (16, z1)))) (kb_ck (vp_in (x1) nb) (kb_cl (pC_isTooSoon b nb Q L 1 (z.1 (b + 3) (kb_ix (x1))) z) (fun r6 z5 => kb_br (r6 = 0) (pC_brokenByRefresh_L32 b nb Q L n (x1 + 1) z5) (some (15, z5)))))
noncomputable def pC_brokenByRefresh_L2 (b nb Q : Nat) (L : List Nat) : Nat → Int32 → kc_S → Option (Int32 × kc_S)
  | 0, _, _ => none
  | n + 1, x1, z => kb_br ((nI nb) ≤ x1) (pC_brokenByRefresh_L32 b nb Q L 3000 0 z) (kb_ck (vp_in (x1) nb) (kb_br ((z.1 (b + 1) (kb_ix (x1))) = (-1)) (pC_brokenByRefresh_L2 b nb Q L n (x1 + 1) z) (some (14, z))))
noncomputable def pC_brokenByRefresh (b nb Q : Nat) (L : List Nat) (z0 : kc_S) : Option (Int32 × kc_S) := pC_brokenByRefresh_L2 b nb Q L 3000 0 z0
noncomputable def pC_give (b nb Q : Nat) (L : List Nat) (x1 : Int32) (x2 : Int32) (x3 : Int32) (z0 : kc_S) : Option (Int32 × kc_S) := kb_ck (vp_in (x1) 5) (kb_ck (vp_in (x1) 5) (kb_st (kc_set z0 (b + 7) (kb_ix (x1)) ((z0.1 (b + 7) (kb_ix (x1))) + 1)) (fun z3 => kb_br ((x1).toInt = 0) (kb_ck (vp_in (z3.1 b 0) 4) (kb_st (kc_set z3 (b + 6) (kb_ix (z3.1 b 0)) (z3.1 b 3)) (fun z6 => kb_st (kc_set z6 b 0 (((z6.1 b 0) + 1) - ((z6.1 b 0) + 1) / 4 * 4)) (fun z8 => kb_ck (vp_in (x2) nb) (kb_st (kc_set z8 (b + 2) (kb_ix (x2)) (z8.1 b 3)) (fun z11 => kb_ck (vp_in (x2) nb) (kb_st (kc_set z11 (b + 1) (kb_ix (x2)) (x3)) (fun z14 => some (0, z14))))))))) (kb_br ((x1).toInt = 1) (kb_ck (vp_in (x2) nb) (kb_st (kc_set z3 (b + 3) (kb_ix (x2)) (z3.1 b 3)) (fun z17 => kb_ck (vp_in (x2) nb) (kb_st (kc_set z17 (b + 1) (kb_ix (x2)) ((-1))) (fun z20 => some (0, z20)))))) (kb_br ((x1).toInt = 2) (kb_ck (vp_in (x2) nb) (kb_st (kc_set z3 (b + 4) (kb_ix (x2)) (z3.1 b 3)) (fun z23 => kb_st (kc_set z23 b 1 (z23.1 b 3)) (fun z25 => some (0, z25))))) (kb_br ((x1).toInt = 3) (kb_ck (vp_in (x2) nb) (kb_st (kc_set z3 (b + 5) (kb_ix (x2)) (z3.1 b 3)) (fun z28 => kb_st (kc_set z28 b 1 (z28.1 b 3)) (fun z30 => some (0, z30))))) (kb_st (kc_set z3 b 2 (z3.1 b 3)) (fun z32 => some (0, z32)))))))))
noncomputable def pB_hasRow (nb Q : Nat) (L : List Nat) (x0 : Int32) (z0 : kc_S) : Option (Int32 × kc_S) := kb_br (x0 = 0) (some (1, z0)) (kb_br (x0 = 2) (some (1, z0)) (kb_br (x0 = 3) (some (1, z0)) (some (0, z0))))
noncomputable def pB_giveCommand_J33 (nb Q : Nat) (L : List Nat) (x1 : Int32) (x3 : Int32) (x4 : Int32) (z : kc_S) : Option (Int32 × kc_S) := kb_cl (pB_hasRow nb Q L x1 z) (fun r5 z4 => kb_br (r5 = 0) (some (x4, z4)) (some (x4 + x3, z4)))
noncomputable def pB_giveCommand (nb Q : Nat) (L : List Nat) (x1 : Int32) (x2 : Int32) (x3 : Int32) (z0 : kc_S) : Option (Int32 × kc_S) := kb_cl (pC_give 3 nb Q L x1 x2 x3 z0) (fun r2 z1 => kb_br (x1 = 4) (pB_giveCommand_J33 nb Q L x1 x3 (1000 * (x1 + 1)) z1) (pB_giveCommand_J33 nb Q L x1 x3 ((1000 * (x1 + 1)) + (100 * x2)) z1))
noncomputable def pC_brokenByClose (b nb Q : Nat) (L : List Nat) (x1 : Int32) (z0 : kc_S) : Option (Int32 × kc_S) := kb_ck (vp_in (x1) nb) (kb_br ((z0.1 (b + 1) (kb_ix (x1))) = (-1)) (some (7, z0)) (kb_ck (vp_in (x1) nb) (kb_cl (pC_isTooSoon b nb Q L 2 (z0.1 (b + 2) (kb_ix (x1))) z0) (fun r4 z3 => kb_br (r4 = 0) (kb_ck (vp_in (x1) nb) (kb_cl (pC_isTooSoon b nb Q L 4 (z3.1 (b + 5) (kb_ix (x1))) z3) (fun r8 z7 => kb_br (r8 = 0) (kb_ck (vp_in (x1) nb) (kb_cl (pC_isTooSoon b nb Q L 5 (z7.1 (b + 4) (kb_ix (x1))) z7) (fun r12 z11 => kb_br (r12 = 0) (some (0, z11)) (some (10, z11))))) (some (9, z7))))) (some (8, z3))))))
noncomputable def pB_giveRefreshing_L20 (nb Q : Nat) (L : List Nat) : Nat → Int32 → kc_S → Option (Int32 × kc_S)
  | 0, _, _ => none
  | n + 1, x1, z => kb_br ((nI nb) ≤ x1) (some (0, z)) (kb_cl (pC_brokenByClose 3 nb Q L x1 z) (fun r5 z4 => kb_br (r5 = 0) (kb_cl (pB_giveCommand nb Q L 1 x1 0 z4) (fun r8 z7 => some (r8, z7))) (pB_giveRefreshing_L20 nb Q L n (x1 + 1) z4)))
noncomputable def pB_giveRefreshing (nb Q : Nat) (L : List Nat) (z0 : kc_S) : Option (Int32 × kc_S) := kb_cl (pC_brokenByRefresh 3 nb Q L  z0) (fun r2 z1 => kb_br (r2 = 0) (kb_cl (pB_giveCommand nb Q L 4 0 0 z1) (fun r11 z10 => some (r11, z10))) (pB_giveRefreshing_L20 nb Q L 3000 0 z1))
noncomputable def pB_hasWaitedLong (nb Q : Nat) (L : List Nat) (x1 : Nat) (z0 : kc_S) : Option (Int32 × kc_S) := kb_ck (x1 ∈ L) (kb_br (((z0.1 3 3) - (z0.2.2 x1 6)) < (z0.1 0 0)) (some (0, z0)) (some (1, z0)))
noncomputable def pB_countLookedAt (nb Q : Nat) (L : List Nat) (z0 : kc_S) : Option (Int32 × kc_S) := kb_br ((z0.1 0 1) ≤ 0) (some (z0.1 0 1, z0)) (kb_ck (vp_in (0) Q) (kb_cl (pB_hasWaitedLong nb Q L (z0.2.1 (kb_ix (0))) z0) (fun r3 z2 => kb_br (r3 = 0) (some (z2.1 0 1, z2)) (some (1, z2)))))
noncomputable def pC_brokenByAccess (b nb Q : Nat) (L : List Nat) (x1 : Int32) (x2 : Int32) (z0 : kc_S) : Option (Int32 × kc_S) := kb_ck (vp_in (x1) nb) (kb_br ((z0.1 (b + 1) (kb_ix (x1))) = x2) (kb_ck (vp_in (x1) nb) (kb_cl (pC_isTooSoon b nb Q L 0 (z0.1 (b + 2) (kb_ix (x1))) z0) (fun r4 z3 => kb_br (r4 = 0) (kb_cl (pC_isTooSoon b nb Q L 6 (z3.1 b 1) z3) (fun r7 z6 => kb_br (r7 = 0) (some (0, z6)) (some (13, z6)))) (some (12, z3))))) (some (11, z0)))
noncomputable def pB_hasOlderForWord_L2 (nb Q : Nat) (L : List Nat) : Nat → Int32 → Int32 → kc_S → Option (Int32 × kc_S)
  | 0, _, _, _ => none
  | n + 1, x1, x2, z => kb_br (x1 ≤ x2) (some (0, z)) (kb_ck (vp_in (x2) Q) (kb_ck (z.2.1 (kb_ix (x2)) ∈ L) (kb_ck (vp_in (x1) Q) (kb_ck (z.2.1 (kb_ix (x1)) ∈ L) (kb_br ((z.2.2 (z.2.1 (kb_ix (x2))) 3) = (z.2.2 (z.2.1 (kb_ix (x1))) 3)) (some (1, z)) (pB_hasOlderForWord_L2 nb Q L n x1 (x2 + 1) z))))))
noncomputable def pB_hasOlderForWord (nb Q : Nat) (L : List Nat) (x1 : Int32) (z0 : kc_S) : Option (Int32 × kc_S) := pB_hasOlderForWord_L2 nb Q L 3000 x1 0 z0
noncomputable def pB_findHit_L2 (nb Q : Nat) (L : List Nat) : Nat → Int32 → Int32 → kc_S → Option (Int32 × kc_S)
  | 0, _, _, _ => none
  | n + 1, x1, x2, z => kb_br (x1 ≤ x2) (some ((-1), z)) (kb_ck (vp_in (x2) Q) (kb_ck (z.2.1 (kb_ix (x2)) ∈ L) (kb_ck (z.2.1 (kb_ix (x2)) ∈ L) (kb_cl (pC_brokenByAccess 3 nb Q L (z.2.2 (z.2.1 (kb_ix (x2))) 1) (z.2.2 (z.2.1 (kb_ix (x2))) 2) z) (fun r9 z8 => kb_br (r9 = 0) (kb_cl (pB_hasOlderForWord nb Q L x2 z8) (fun r12 z11 => kb_br (r12 = 0) (some (x2, z11)) (pB_findHit_L2 nb Q L n x1 (x2 + 1) z11))) (pB_findHit_L2 nb Q L n x1 (x2 + 1) z8))))))
noncomputable def pB_findHit (nb Q : Nat) (L : List Nat) (x1 : Int32) (z0 : kc_S) : Option (Int32 × kc_S) := pB_findHit_L2 nb Q L 3000 x1 0 z0
noncomputable def pB_hasOlderForBank_L2 (nb Q : Nat) (L : List Nat) : Nat → Int32 → Int32 → kc_S → Option (Int32 × kc_S)
  | 0, _, _, _ => none
  | n + 1, x1, x2, z => kb_br (x1 ≤ x2) (some (0, z)) (kb_ck (vp_in (x2) Q) (kb_ck (z.2.1 (kb_ix (x2)) ∈ L) (kb_ck (vp_in (x1) Q) (kb_ck (z.2.1 (kb_ix (x1)) ∈ L) (kb_br ((z.2.2 (z.2.1 (kb_ix (x2))) 1) = (z.2.2 (z.2.1 (kb_ix (x1))) 1)) (some (1, z)) (pB_hasOlderForBank_L2 nb Q L n x1 (x2 + 1) z))))))
noncomputable def pB_hasOlderForBank (nb Q : Nat) (L : List Nat) (x1 : Int32) (z0 : kc_S) : Option (Int32 × kc_S) := pB_hasOlderForBank_L2 nb Q L 3000 x1 0 z0
noncomputable def pC_isTooSoonForOthers_L2 (b nb Q : Nat) (L : List Nat) : Nat → Int32 → Int32 → kc_S → Option (Int32 × kc_S)
  | 0, _, _, _ => none
  | n + 1, x1, x2, z => kb_br ((nI nb) ≤ x2) (some (0, z)) (kb_br (x2 = x1) (pC_isTooSoonForOthers_L2 b nb Q L n x1 (x2 + 1) z) (kb_ck (vp_in (x2) nb) (kb_cl (pC_isTooSoon b nb Q L 7 (z.1 (b + 2) (kb_ix (x2))) z) (fun r3 z2 => kb_br (r3 = 0) (pC_isTooSoonForOthers_L2 b nb Q L n x1 (x2 + 1) z2) (some (1, z2))))))
noncomputable def pC_isTooSoonForOthers (b nb Q : Nat) (L : List Nat) (x1 : Int32) (z0 : kc_S) : Option (Int32 × kc_S) := pC_isTooSoonForOthers_L2 b nb Q L 3000 x1 0 z0
noncomputable def pC_brokenByOpen (b nb Q : Nat) (L : List Nat) (x1 : Int32) (z0 : kc_S) : Option (Int32 × kc_S) := kb_ck (vp_in (x1) nb) (kb_br ((z0.1 (b + 1) (kb_ix (x1))) = (-1)) (kb_ck (vp_in (x1) nb) (kb_cl (pC_isTooSoon b nb Q L 1 (z0.1 (b + 3) (kb_ix (x1))) z0) (fun r4 z3 => kb_br (r4 = 0) (kb_ck (vp_in (x1) nb) (kb_cl (pC_isTooSoon b nb Q L 3 (z3.1 (b + 2) (kb_ix (x1))) z3) (fun r8 z7 => kb_br (r8 = 0) (kb_cl (pC_isTooSoonForOthers b nb Q L x1 z7) (fun r11 z10 => kb_br (r11 = 0) (kb_ck (vp_in (z10.1 b 0) 4) (kb_cl (pC_isTooSoon b nb Q L 8 (z10.1 (b + 6) (kb_ix (z10.1 b 0))) z10) (fun r15 z14 => kb_br (r15 = 0) (kb_cl (pC_isTooSoon b nb Q L 9 (z14.1 b 2) z14) (fun r18 z17 => kb_br (r18 = 0) (some (0, z17)) (some (6, z17)))) (some (5, z14))))) (some (4, z10)))) (some (3, z7))))) (some (2, z3))))) (some (1, z0)))
noncomputable def pB_isWanted_L3 (nb Q : Nat) (L : List Nat) : Nat → Int32 → Int32 → Int32 → Int32 → kc_S → Option (Int32 × kc_S)
  | 0, _, _, _, _, _ => none
  | n + 1, x1, x2, x3, x4, z => kb_br (x3 ≤ x4) (some (0, z)) (kb_ck (vp_in (x4) Q) (kb_ck (z.2.1 (kb_ix (x4)) ∈ L) (kb_br ((z.2.2 (z.2.1 (kb_ix (x4))) 1) = x1) (kb_ck (vp_in (x4) Q) (kb_ck (z.2.1 (kb_ix (x4)) ∈ L) (kb_br ((z.2.2 (z.2.1 (kb_ix (x4))) 2) = x2) (some (1, z)) (pB_isWanted_L3 nb Q L n x1 x2 x3 (x4 + 1) z)))) (pB_isWanted_L3 nb Q L n x1 x2 x3 (x4 + 1) z))))
noncomputable def pB_isWanted (nb Q : Nat) (L : List Nat) (x1 : Int32) (x2 : Int32) (x3 : Int32) (z0 : kc_S) : Option (Int32 × kc_S) := pB_isWanted_L3 nb Q L 3000 x1 x2 x3 0 z0
noncomputable def pB_giveWay_L2 (nb Q : Nat) (L : List Nat) : Nat → Int32 → Int32 → kc_S → Option (Int32 × kc_S)
  | 0, _, _, _ => none
  | n + 1, x1, x2, z => kb_br (x1 ≤ x2) (some (0, z)) (kb_ck (vp_in (x2) Q) (kb_cl (pB_hasOlderForBank nb Q L x2 z) (fun r3 z2 => kb_br (r3 = 0) (kb_ck (z.2.1 (kb_ix (x2)) ∈ L) (kb_ck (vp_in (z2.2.2 (z.2.1 (kb_ix (x2))) 1) nb) (kb_br ((z2.1 4 (kb_ix (z2.2.2 (z.2.1 (kb_ix (x2))) 1))) = (-1)) (kb_ck (z.2.1 (kb_ix (x2)) ∈ L) (kb_cl (pC_brokenByOpen 3 nb Q L (z2.2.2 (z.2.1 (kb_ix (x2))) 1) z2) (fun r31 z30 => kb_br (r31 = 0) (kb_ck (z.2.1 (kb_ix (x2)) ∈ L) (kb_ck (z.2.1 (kb_ix (x2)) ∈ L) (kb_cl (pB_giveCommand nb Q L 0 (z30.2.2 (z.2.1 (kb_ix (x2))) 1) (z30.2.2 (z.2.1 (kb_ix (x2))) 2) z30) (fun r40 z39 => some (r40, z39))))) (pB_giveWay_L2 nb Q L n x1 (x2 + 1) z30)))) (kb_ck (z.2.1 (kb_ix (x2)) ∈ L) (kb_cl (pB_isWanted nb Q L (z2.2.2 (z.2.1 (kb_ix (x2))) 1) (z2.1 4 (kb_ix (z2.2.2 (z.2.1 (kb_ix (x2))) 1))) x1 z2) (fun r13 z12 => kb_br (r13 = 0) (kb_ck (z.2.1 (kb_ix (x2)) ∈ L) (kb_cl (pC_brokenByClose 3 nb Q L (z12.2.2 (z.2.1 (kb_ix (x2))) 1) z12) (fun r19 z18 => kb_br (r19 = 0) (kb_ck (z.2.1 (kb_ix (x2)) ∈ L) (kb_cl (pB_giveCommand nb Q L 1 (z18.2.2 (z.2.1 (kb_ix (x2))) 1) 0 z18) (fun r25 z24 => some (r25, z24)))) (pB_giveWay_L2 nb Q L n x1 (x2 + 1) z18)))) (pB_giveWay_L2 nb Q L n x1 (x2 + 1) z12))))))) (pB_giveWay_L2 nb Q L n x1 (x2 + 1) z2))))
noncomputable def pB_giveWay (nb Q : Nat) (L : List Nat) (x1 : Int32) (z0 : kc_S) : Option (Int32 × kc_S) := pB_giveWay_L2 nb Q L 3000 x1 0 z0
noncomputable def pB_dequeue_L11 (nb Q : Nat) (L : List Nat) : Nat → Nat → Int32 → kc_S → Option (Int32 × kc_S)
  | 0, _, _, _ => none
  | n + 1, x2, x3, z => kb_br ((z.1 0 1) ≤ x3) (kb_st (kc_set z 0 1 ((z.1 0 1) - 1)) (fun z2 => kb_ck (vp_in (z2.1 0 1) Q) (kb_ck (x2 ∈ L) (kb_st (kc_setQ z2 (kb_ix (z2.1 0 1)) (x2)) (fun z5 => some (0, z5)))))) (kb_ck (vp_in (x3) Q) (kb_ck (vp_in (x3 - 1) Q) (kb_ck (z.2.1 (kb_ix (x3)) ∈ L) (kb_st (kc_setQ z (kb_ix (x3 - 1)) (z.2.1 (kb_ix (x3)))) (fun z12 => pB_dequeue_L11 nb Q L n x2 (x3 + 1) z12)))))
noncomputable def pB_dequeue (nb Q : Nat) (L : List Nat) (x1 : Int32) (z0 : kc_S) : Option (Int32 × kc_S) := kb_ck (vp_in (x1) Q) (pB_dequeue_L11 nb Q L 3000 (z0.2.1 (kb_ix (x1))) (x1 + 1) z0)
noncomputable def pB_isKept (nb Q : Nat) (L : List Nat) (x1 : Int32) (z0 : kc_S) : Option (Int32 × kc_S) := kb_br (32 < ((z0.1 0 2) - x1)) (some (0, z0)) (some (1, z0))
noncomputable def pB_giveHit_J117 (nb Q : Nat) (L : List Nat) (x2 : Nat) (z : kc_S) : Option (Int32 × kc_S) := kb_ck (x2 ∈ L) (kb_ck (x2 ∈ L) (kb_ck (x2 ∈ L) (kb_cl (pB_giveCommand nb Q L (z.2.2 x2 0) (z.2.2 x2 1) (z.2.2 x2 2) z) (fun r28 z27 => some (r28, z27)))))
noncomputable def pB_giveHit_J72 (nb Q : Nat) (L : List Nat) (x2 : Nat) (x3 : Int32) (z : kc_S) : Option (Int32 × kc_S) := kb_ck (x2 ∈ L) (kb_cl (pB_isKept nb Q L (z.2.2 x2 5) z) (fun r16 z15 => kb_br (r16 = 0) (pB_giveHit_J117 nb Q L x2 z15) (kb_ck (x2 ∈ L) (kb_ck (x2 ∈ L) (kb_ck (vp_in (z15.2.2 x2 3) (nb * 128)) (kb_ck (vp_in ((z15.2.2 x2 5) &&& 31) 32) (kb_st (kc_set z15 19 (kb_ix ((z15.2.2 x2 5) &&& 31)) (z15.1 2 (kb_ix (z15.2.2 x2 3)))) (fun z38 => kb_ck (x2 ∈ L) (kb_ck (vp_in ((z38.2.2 x2 5) &&& 31) 32) (kb_st (kc_set z38 20 (kb_ix ((z38.2.2 x2 5) &&& 31)) (x3)) (fun z44 => pB_giveHit_J117 nb Q L x2 z44)))))))))))
noncomputable def pB_giveHit_J30 (nb Q : Nat) (L : List Nat) (x2 : Nat) (z : kc_S) : Option (Int32 × kc_S) := kb_ck (x2 ∈ L) (kb_br ((z.2.2 x2 0) = 3) (kb_ck (x2 ∈ L) (kb_ck (x2 ∈ L) (kb_ck (vp_in (z.2.2 x2 3) (nb * 128)) (kb_st (kc_set z 2 (kb_ix (z.2.2 x2 3)) (z.2.2 x2 4)) (fun z53 => pB_giveHit_J72 nb Q L x2 (z.1 3 3) z53))))) (kb_ck (vp_in (11) 12) (pB_giveHit_J72 nb Q L x2 ((z.1 3 3) + (z.1 1 (kb_ix (11)))) z)))
noncomputable def pB_giveHit (nb Q : Nat) (L : List Nat) (x1 : Int32) (z0 : kc_S) : Option (Int32 × kc_S) := kb_ck (vp_in (x1) Q) (kb_cl (pB_dequeue nb Q L x1 z0) (fun r3 z2 => kb_cl (pB_hasWaitedLong nb Q L (z0.2.1 (kb_ix (x1))) z2) (fun r6 z5 => kb_br (r6 = 0) (pB_giveHit_J30 nb Q L (z0.2.1 (kb_ix (x1))) z5) (kb_st (kc_set z5 0 3 ((z5.1 0 3) + 1)) (fun z55 => pB_giveHit_J30 nb Q L (z0.2.1 (kb_ix (x1))) z55)))))
noncomputable def pB_giveFirst (nb Q : Nat) (L : List Nat) (z0 : kc_S) : Option (Int32 × kc_S) := kb_cl (pB_refreshIsDue nb Q L  z0) (fun r2 z1 => kb_br (r2 = 0) (kb_cl (pB_countLookedAt nb Q L  z1) (fun r5 z4 => kb_cl (pB_findHit nb Q L r5 z4) (fun r8 z7 => kb_br (r8 = (-1)) (kb_cl (pB_giveWay nb Q L r5 z7) (fun r14 z13 => some (r14, z13))) (kb_cl (pB_giveHit nb Q L r8 z7) (fun r11 z10 => some (r11, z10)))))) (kb_cl (pB_giveRefreshing nb Q L  z1) (fun r17 z16 => some (r17, z16))))
noncomputable def pB_tick (nb Q : Nat) (L : List Nat) (z0 : kc_S) : Option (Int32 × kc_S) := kb_cl (pB_giveFirst nb Q L  z0) (fun r2 z1 => kb_st (kc_set z1 3 3 ((z1.1 3 3) + 1)) (fun z4 => some (r2, z4)))
noncomputable def pC_firstBroken (b nb Q : Nat) (L : List Nat) (x1 : Int32) (x2 : Int32) (x3 : Int32) (z0 : kc_S) : Option (Int32 × kc_S) := kb_br ((x1).toInt = 0) (kb_cl (pC_brokenByOpen b nb Q L x2 z0) (fun r2 z1 => some (r2, z1))) (kb_br ((x1).toInt = 1) (kb_cl (pC_brokenByClose b nb Q L x2 z0) (fun r5 z4 => some (r5, z4))) (kb_br ((x1).toInt = 2) (kb_cl (pC_brokenByAccess b nb Q L x2 x3 z0) (fun r8 z7 => some (r8, z7))) (kb_br ((x1).toInt = 3) (kb_cl (pC_brokenByAccess b nb Q L x2 x3 z0) (fun r11 z10 => some (r11, z10))) (kb_br ((x1).toInt = 4) (kb_cl (pC_brokenByRefresh b nb Q L  z0) (fun r14 z13 => some (r14, z13))) (kb_cl (pC_brokenByAccess b nb Q L x2 x3 z0) (fun r17 z16 => some (r17, z16)))))))
