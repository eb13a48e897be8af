/-! pure layer 1: numbers, what is too soon, the four rules' numbers over a channel's rows -/
noncomputable def kd_b (P : Prop) : Int32 := @ite _ P (Classical.propDecidable P) 1 0
theorem kd_bt {P : Prop} (h : P) : kd_b P = 1 := by unfold kd_b; exact if_pos h
theorem kd_bf {P : Prop} (h : ¬ P) : kd_b P = 0 := by unfold kd_b; exact if_neg h
theorem kd_b0 {P : Prop} : kd_b P = 0 ↔ ¬ P := by
  by_cases h : P
  · rw [kd_bt h]; exact ⟨fun q => absurd q (by decide), fun q => absurd h q⟩
  · rw [kd_bf h]; exact ⟨fun _ => h, fun _ => rfl⟩
noncomputable def kd_if (P : Prop) (x y : Int32) : Int32 := @ite _ P (Classical.propDecidable P) x y
theorem kd_ift {P : Prop} {x y : Int32} (h : P) : kd_if P x y = x := by unfold kd_if; exact if_pos h
theorem kd_iff {P : Prop} {x y : Int32} (h : ¬ P) : kd_if P x y = y := by unfold kd_if; exact if_neg h
theorem kd_ifc {P P' : Prop} {x y y' : Int32} (hP : P ↔ P') (hy : y = y') : kd_if P x y = kd_if P' x y' := by
  by_cases h : P
  · rw [kd_ift h, kd_ift (hP.mp h)]
  · rw [kd_iff h, kd_iff (fun q => h (hP.mpr q)), hy]
theorem kd_ifx {P : Prop} {x x' y : Int32} (hx : x = x') : kd_if P x y = kd_if P x' y := by rw [hx]
/-- a branch on a call's answer that is 0 or 1 -/
theorem kd_br0 {α : Type} {P : Prop} {x y : Option α} : kb_br (kd_b P = 0) x y = kb_br P y x := by
  by_cases h : P
  · rw [kb_brt h, kb_brf (fun q => (kd_b0.mp q) h)]
  · rw [kb_brf h, kb_brt (kd_b0.mpr h)]
theorem kd_brs {σ : Type} {P : Prop} {x y : Int32} {z : σ} : kb_br P (some (x, z)) (some (y, z)) = some (kd_if P x y, z) := by
  by_cases h : P
  · rw [kb_brt h, kd_ift h]
  · rw [kb_brf h, kd_iff h]
theorem kd_brn {α : Type} {P : Prop} {x y : Option α} : kb_br (¬ P) x y = kb_br P y x := by
  by_cases h : P
  · rw [kb_brt h, kb_brf (fun q => q h)]
  · rw [kb_brf h, kb_brt h]
theorem kd_cl {α σ : Type} {r : Int32} {z : σ} {k : Int32 → σ → Option α} : kb_cl (some (r, z)) k = k r z := rfl
theorem kd_st {α σ : Type} {v : σ} {k : σ → Option α} : kb_st v k = k v := rfl
def kd_er (T x t : Int32) : Prop := ¬ x < 0 ∧ ¬ t ≤ T - x
theorem kd_in {i : Int32} {k n : Nat} (h : i = nI k) (hk : k < n) (hn : n < 2 ^ 31) : vp_in i n := by rw [h]; exact vp_in_nI hk hn
theorem kd_ix {i : Int32} {k : Nat} (h : i = nI k) (hk : k < 2 ^ 31) : kb_ix i = k := by rw [h]; exact nI_clamp hk
theorem pd_early {z : kb_S} {s w : Nat} {x1 x2 x3 : Int32} (h1 : x1 = nI s) (hs : s < 2) (h3 : x3 = nI w) (hw : w < 12) : pM_early x1 x2 x3 z = some (kd_b (kd_er (z 9 s) x2 (z 1 w)), z) := by
  unfold pM_early
  by_cases h : x2 < 0
  · rw [kb_brt h, kd_bf (fun q => q.1 h)]
  · rw [kb_brf h, kb_ckt (kd_in h1 hs (by decide)), kb_ckt (kd_in h3 hw (by decide)), kd_ix h1 (by omega), kd_ix h3 (by omega)]
    by_cases h2 : z 1 w ≤ z 9 s - x2
    · rw [kb_brt h2, kd_bf (fun q => q.2 h2)]
    · rw [kb_brf h2, kd_bt ⟨h, h2⟩]
theorem pd_soon {b nb Q : Nat} {L : List Nat} {z : kc_S} {w : Nat} {x1 x2 : Int32} (h1 : x1 = nI w) (hw : w < 12) (hx : x2 = -1 ∨ ¬ x2 < 0) : pC_isTooSoon b nb Q L x1 x2 z = some (kd_b (kd_er (z.1 b 3) x2 (z.1 1 w)), z) := by
  unfold pC_isTooSoon
  by_cases h : x2 = -1
  · rw [kb_brt h, kd_bf (fun q => q.1 (by rw [h]; decide))]
  · have h0 : ¬ x2 < 0 := hx.resolve_left h
    rw [kb_brf h, kb_ckt (kd_in h1 hw (by decide)), kd_ix h1 (by omega)]
    by_cases h2 : z.1 1 w ≤ z.1 b 3 - x2
    · rw [kb_brt h2, kd_bf (fun q => q.2 h2)]
    · rw [kb_brf h2, kd_bt ⟨h0, h2⟩]
theorem kd_mono {T x y t : Int32} (hxy : x ≤ y) (hy : y ≤ T) (h : kd_er T x t) : kd_er T y t := by
  obtain ⟨h0, h1⟩ := h
  have hy0 : ¬ y < 0 := fun q => h0 (Int32.lt_of_le_of_lt hxy q)
  have hT0 : ¬ T < 0 := fun q => hy0 (Int32.lt_of_le_of_lt hy q)
  obtain ⟨i, hi, rfl⟩ := nI_of h0
  obtain ⟨j, hj, rfl⟩ := nI_of hy0
  obtain ⟨k, hk, rfl⟩ := nI_of hT0
  have a := (nI_leI hi hj).mp hxy
  have b := (nI_leI hj hk).mp hy
  refine ⟨hy0, fun q => h1 (Int32.le_trans q ?_)⟩
  rw [pk_sub b, pk_sub (Nat.le_trans a b)]
  exact nI_le (by omega) (by omega)
def kd_mo (f : Nat → Int32) (b : Nat) : Nat → Nat → Int32 → Int32
  | 0, _, acc => acc
  | j + 1, i, acc => kd_mo f b j (i + 1) (if i = b then acc else if f i ≤ acc then acc else f i)
theorem kd_mo_er {f : Nat → Int32} {b : Nat} {T t : Int32} : ∀ (j i : Nat) (acc : Int32), acc ≤ T → (∀ k, i ≤ k → k < i + j → f k ≤ T) → (kd_er T (kd_mo f b j i acc) t ↔ kd_er T acc t ∨ ∃ k, i ≤ k ∧ k < i + j ∧ k ≠ b ∧ kd_er T (f k) t) := by
  intro j
  induction j with
  | zero =>
    intro i acc _ _
    constructor
    · intro h; exact Or.inl h
    · rintro (h | ⟨k, h1, h2, -⟩)
      · exact h
      · omega
  | succ j ih =>
    intro i acc ha hf
    have hfi := hf i (Nat.le_refl _) (by omega)
    have hn : (if i = b then acc else if f i ≤ acc then acc else f i) ≤ T := by
      split
      · exact ha
      · split
        · exact ha
        · exact hfi
    show kd_er T (kd_mo f b j (i + 1) (if i = b then acc else if f i ≤ acc then acc else f i)) t ↔ _
    rw [ih (i + 1) _ hn (fun k h1 h2 => hf k (by omega) (by omega))]
    constructor
    · rintro (h | ⟨k, h1, h2, h3, h4⟩)
      · by_cases hb : i = b
        · rw [if_pos hb] at h; exact Or.inl h
        · rw [if_neg hb] at h
          by_cases hl : f i ≤ acc
          · rw [if_pos hl] at h; exact Or.inl h
          · rw [if_neg hl] at h; exact Or.inr ⟨i, Nat.le_refl _, by omega, hb, h⟩
      · exact Or.inr ⟨k, by omega, by omega, h3, h4⟩
    · rintro (h | ⟨k, h1, h2, h3, h4⟩)
      · left
        by_cases hb : i = b
        · rw [if_pos hb]; exact h
        · rw [if_neg hb]
          by_cases hl : f i ≤ acc
          · rw [if_pos hl]; exact h
          · rw [if_neg hl]; exact kd_mono (Int32.le_of_lt (Int32.not_le.mp hl)) hfi h
      · by_cases hk : k = i
        · subst hk
          left
          rw [if_neg h3]
          by_cases hl : f k ≤ acc
          · rw [if_pos hl]; exact kd_mono hl ha h4
          · rw [if_neg hl]; exact h4
        · exact Or.inr ⟨k, by omega, by omega, h3, h4⟩
noncomputable def sp_open (nb b : Nat) (rows opened closed : Nat → Int32) (o4 rf T : Int32) (t : Nat → Int32) : Int32 :=
  kd_if (rows b < 0) (kd_if (kd_er T (closed b) (t 1)) 2 (kd_if (kd_er T (opened b) (t 3)) 3 (kd_if (∃ k, k < nb ∧ k ≠ b ∧ kd_er T (opened k) (t 7)) 4 (kd_if (kd_er T o4 (t 8)) 5 (kd_if (kd_er T rf (t 9)) 6 0))))) 1
noncomputable def sp_close (b : Nat) (rows opened readAt writtenAt : Nat → Int32) (T : Int32) (t : Nat → Int32) : Int32 :=
  kd_if (rows b < 0) 7 (kd_if (kd_er T (opened b) (t 2)) 8 (kd_if (kd_er T (writtenAt b) (t 4)) 9 (kd_if (kd_er T (readAt b) (t 5)) 10 0)))
noncomputable def sp_use (b : Nat) (row : Int32) (rows opened : Nat → Int32) (la T : Int32) (t : Nat → Int32) : Int32 :=
  kd_if (rows b = row) (kd_if (kd_er T (opened b) (t 0)) 12 (kd_if (kd_er T la (t 6)) 13 0)) 11
noncomputable def sp_refresh (nb : Nat) (rows closed : Nat → Int32) (rf T : Int32) (t : Nat → Int32) : Int32 :=
  kd_if (∃ k, k < nb ∧ ¬ rows k < 0) 14 (kd_if (∃ k, k < nb ∧ kd_er T (closed k) (t 1)) 15 (kd_if (kd_er T rf (t 9)) 16 0))
theorem kd_br_if {σ : Type} {P : Prop} {x : Int32} {z : σ} {y : Int32} {X Y : Option (Int32 × σ)} (hx : X = some (x, z)) (hy : Y = some (y, z)) : kb_br P X Y = some (kd_if P x y, z) := by rw [hx, hy]; exact kd_brs
theorem kd_8 (s b : Nat) : (8 : Int32) * nI s + nI b = nI (8 * s + b) := by rw [show (8 : Int32) = nI 8 from rfl, pk_mul, nI_add]
theorem kd_8' (s : Nat) : (8 : Int32) * nI s = nI (8 * s) := by rw [show (8 : Int32) = nI 8 from rfl, pk_mul]
theorem kd_88 (s : Nat) : (8 : Int32) * nI s + 8 = nI (8 * s + 8) := by rw [show (8 : Int32) = nI 8 from rfl, pk_mul, nI_add]
theorem kd_43 (s : Nat) : (4 : Int32) * nI s + 3 = nI (4 * s + 3) := by rw [show (4 : Int32) = nI 4 from rfl, pk_mul, show (3 : Int32) = nI 3 from rfl, nI_add]
theorem pd_bopen_L {z : kb_S} {s b nb : Nat} (hs : s < 2) (hb : b < 8) (hnb : z 0 1 = nI nb) (h8 : nb ≤ 8) : ∀ (j n i : Nat) (x4 : Int32), i + j = nb → j < n →
    pM_brokenOpen_L13 n (nI s) (nI b) (nI (8 * s + b)) x4 (nI i) z = some (kd_if (z 2 (8 * s + b) < 0) (kd_if (kd_er (z 9 s) (z 4 (8 * s + b)) (z 1 1)) 2 (kd_if (kd_er (z 9 s) (z 3 (8 * s + b)) (z 1 3)) 3 (kd_if (kd_er (z 9 s) (kd_mo (fun k => z 3 (8 * s + k)) b j i x4) (z 1 7)) 4 (kd_if (kd_er (z 9 s) (z 7 (4 * s + 3)) (z 1 8)) 5 (kd_if (kd_er (z 9 s) (z 8 s) (z 1 9)) 6 0))))) 1, z) := by
  intro j
  induction j with
  | zero =>
    intro n i x4 hi hn
    obtain ⟨n, rfl⟩ : ∃ q, n = q + 1 := ⟨n - 1, by omega⟩
    have hin : vp_in (nI (8 * s + b)) 16 := vp_in_nI (by omega) (by decide)
    rw [pM_brokenOpen_L13, kb_brt (by rw [hnb]; exact nI_le (by omega) (by omega)), kb_ckt hin, kd_ix rfl (by omega)]
    refine kd_br_if ?_ rfl
    rw [kb_ckt hin, pd_early rfl hs (show (1 : Int32) = nI 1 from rfl) (by decide), kd_cl, kd_br0]
    refine kd_br_if rfl ?_
    rw [kb_ckt hin, pd_early rfl hs (show (3 : Int32) = nI 3 from rfl) (by decide), kd_cl, kd_br0]
    refine kd_br_if rfl ?_
    rw [pd_early rfl hs (show (7 : Int32) = nI 7 from rfl) (by decide), kd_cl, kd_br0]
    refine kd_br_if rfl ?_
    rw [kd_43, kb_ckt (vp_in_nI (by omega) (by decide)), kd_ix rfl (by omega), pd_early rfl hs (show (8 : Int32) = nI 8 from rfl) (by decide), kd_cl, kd_br0]
    refine kd_br_if rfl ?_
    rw [kb_ckt (vp_in_nI hs (by decide)), kd_ix rfl (by omega), pd_early rfl hs (show (9 : Int32) = nI 9 from rfl) (by decide), kd_cl, kd_br0]
    exact kd_br_if rfl rfl
  | succ j ih =>
    intro n i x4 hi hn
    obtain ⟨n, rfl⟩ : ∃ q, n = q + 1 := ⟨n - 1, by omega⟩
    rw [pM_brokenOpen_L13, kb_brf (by rw [hnb]; exact nI_ge (by omega) (by omega)), kd_8, kb_ckt (vp_in_nI (by omega) (by decide)), kd_ix rfl (by omega), nI_1]
    by_cases hib : i = b
    · rw [kb_brt (by rw [hib]), ih n (i + 1) _ (by omega) (by omega)]
      rw [kd_mo, if_pos hib]
    · rw [kb_brf (fun q => hib ((nI_eq (by omega) (by omega)).mp q))]
      by_cases hl : z 3 (8 * s + i) ≤ x4
      · rw [kb_brt hl, ih n (i + 1) _ (by omega) (by omega)]
        rw [kd_mo, if_neg hib, if_pos hl]
      · rw [kb_brf hl, ih n (i + 1) _ (by omega) (by omega)]
        rw [kd_mo, if_neg hib, if_neg hl]
theorem pd_bopen {z : kb_S} {s b nb : Nat} (hs : s < 2) (hb : b < 8) (hnb : z 0 1 = nI nb) (h8 : nb ≤ 8) (hT : ¬ z 9 s < 0) (hbd : ∀ k, k < nb → z 3 (8 * s + k) ≤ z 9 s) : pM_brokenOpen (nI s) (nI b) z = some (sp_open nb b (fun k => z 2 (8 * s + k)) (fun k => z 3 (8 * s + k)) (fun k => z 4 (8 * s + k)) (z 7 (4 * s + 3)) (z 8 s) (z 9 s) (z 1), z) := by
  unfold pM_brokenOpen
  rw [kd_8, show (0 : Int32) = nI 0 from rfl, pd_bopen_L hs hb hnb h8 nb 3000 0 (-1) (by omega) (by omega)]
  unfold sp_open
  have hm : (-1 : Int32) ≤ z 9 s := Int32.le_trans (by decide) (Int32.not_lt.mp hT)
  have e := kd_mo_er (f := fun k => z 3 (8 * s + k)) (b := b) (T := z 9 s) (t := z 1 7) nb 0 (-1) hm (fun k _ h => hbd k (by omega))
  congr 2
  refine kd_ifx (kd_ifc Iff.rfl (kd_ifc Iff.rfl (kd_ifc (e.trans ?_) rfl)))
  constructor
  · rintro (h | ⟨k, -, h1, h2, h3⟩)
    · exact absurd (show (-1 : Int32) < 0 by decide) h.1
    · exact ⟨k, by omega, h2, h3⟩
  · rintro ⟨k, h1, h2, h3⟩
    exact Or.inr ⟨k, by omega, by omega, h2, h3⟩
theorem kd_lt0 {x : Int32} : ¬ x < 0 ↔ 0 ≤ x := Int32.not_lt
theorem pd_bclose {z : kb_S} {s b : Nat} (hs : s < 2) (hb : b < 8) : pM_brokenClose (nI s) (nI b) z = some (sp_close b (fun k => z 2 (8 * s + k)) (fun k => z 3 (8 * s + k)) (fun k => z 5 (8 * s + k)) (fun k => z 6 (8 * s + k)) (z 9 s) (z 1), z) := by
  unfold pM_brokenClose sp_close
  have hin : vp_in (nI (8 * s + b)) 16 := vp_in_nI (by omega) (by decide)
  simp only [kd_8]
  rw [kb_ckt hin, kd_ix rfl (by omega)]
  by_cases h : z 2 (8 * s + b) < 0
  · rw [kb_brf (fun q => (kd_lt0.mpr q) h), kd_ift h]
  · rw [kb_brt (kd_lt0.mp h), kd_iff h]
    rw [kb_ckt hin, pd_early rfl hs (show (2 : Int32) = nI 2 from rfl) (by decide), kd_cl, kd_br0]
    refine kd_br_if rfl ?_
    rw [kb_ckt hin, pd_early rfl hs (show (4 : Int32) = nI 4 from rfl) (by decide), kd_cl, kd_br0]
    refine kd_br_if rfl ?_
    rw [kb_ckt hin, pd_early rfl hs (show (5 : Int32) = nI 5 from rfl) (by decide), kd_cl, kd_br0]
    exact kd_br_if rfl rfl
def kd_mx (f g : Nat → Int32) : Nat → Nat → Int32 → Int32
  | 0, _, acc => acc
  | j + 1, i, acc => kd_mx f g j (i + 1) (if g i ≤ (if f i ≤ acc then acc else f i) then (if f i ≤ acc then acc else f i) else g i)
theorem pd_buse_L {z : kb_S} {s b : Nat} {row : Int32} (hs : s < 2) (hb : b < 8) : ∀ (j n i : Nat) (x5 : Int32), i + j = 8 → j < n →
    pM_brokenUse_L17 n (nI s) row (nI (8 * s + b)) x5 (nI (8 * s + i)) z = some (sp_use b row (fun k => z 2 (8 * s + k)) (fun k => z 3 (8 * s + k)) (kd_mx (fun k => z 5 (8 * s + k)) (fun k => z 6 (8 * s + k)) j i x5) (z 9 s) (z 1), z) := by
  intro j
  induction j with
  | zero =>
    intro n i x5 hi hn
    obtain ⟨n, rfl⟩ : ∃ q, n = q + 1 := ⟨n - 1, by omega⟩
    have hin : vp_in (nI (8 * s + b)) 16 := vp_in_nI (by omega) (by decide)
    rw [pM_brokenUse_L17, kd_88, kb_brt (nI_le (by omega) (by omega)), kb_ckt hin, kd_ix rfl (by omega)]
    unfold sp_use
    refine kd_br_if ?_ rfl
    rw [kb_ckt hin, pd_early rfl hs (show (0 : Int32) = nI 0 from rfl) (by decide), kd_cl, kd_br0]
    refine kd_br_if rfl ?_
    rw [pd_early rfl hs (show (6 : Int32) = nI 6 from rfl) (by decide), kd_cl, kd_br0]
    exact kd_br_if rfl rfl
  | succ j ih =>
    intro n i x5 hi hn
    obtain ⟨n, rfl⟩ : ∃ q, n = q + 1 := ⟨n - 1, by omega⟩
    have hin : vp_in (nI (8 * s + i)) 16 := vp_in_nI (by omega) (by decide)
    rw [pM_brokenUse_L17, kd_88, kb_brf (nI_ge (by omega) (by omega))]
    simp only [kb_ckt hin, nI_1, kd_ix (rfl : nI (8 * s + i) = nI (8 * s + i)) (by omega : 8 * s + i < 2 ^ 31), Nat.add_assoc]
    rw [kd_mx]
    by_cases h1 : z 5 (8 * s + i) ≤ x5
    · rw [kb_brt h1]
      simp only [if_pos h1]
      by_cases h2 : z 6 (8 * s + i) ≤ x5
      · rw [kb_brt h2, ih n (i + 1) _ (by omega) (by omega)]
        simp only [if_pos h2]
      · rw [kb_brf h2, ih n (i + 1) _ (by omega) (by omega)]
        simp only [if_neg h2]
    · rw [kb_brf h1]
      simp only [if_neg h1]
      by_cases h2 : z 6 (8 * s + i) ≤ z 5 (8 * s + i)
      · rw [kb_brt h2, ih n (i + 1) _ (by omega) (by omega)]
        simp only [if_pos h2]
      · rw [kb_brf h2, ih n (i + 1) _ (by omega) (by omega)]
        simp only [if_neg h2]
theorem pd_buse {z : kb_S} {s b : Nat} {row : Int32} (hs : s < 2) (hb : b < 8) : pM_brokenUse (nI s) (nI b) row z = some (sp_use b row (fun k => z 2 (8 * s + k)) (fun k => z 3 (8 * s + k)) (kd_mx (fun k => z 5 (8 * s + k)) (fun k => z 6 (8 * s + k)) 8 0 (-1)) (z 9 s) (z 1), z) := by
  unfold pM_brokenUse
  rw [kd_8, kd_8']
  exact pd_buse_L hs hb 8 3000 0 (-1) (by omega) (by omega)
theorem pd_bref_L {z : kb_S} {s : Nat} (hs : s < 2) : ∀ (j n i : Nat) (P R : Prop), i + j = 8 → j < n →
    pM_brokenRefresh_L10 n (nI s) (kd_b P) (kd_b R) (nI (8 * s + i)) z = some (kd_if (P ∨ ∃ k, i ≤ k ∧ k < 8 ∧ ¬ z 2 (8 * s + k) < 0) 14 (kd_if (R ∨ ∃ k, i ≤ k ∧ k < 8 ∧ kd_er (z 9 s) (z 4 (8 * s + k)) (z 1 1)) 15 (kd_if (kd_er (z 9 s) (z 8 s) (z 1 9)) 16 0)), z) := by
  intro j
  induction j with
  | zero =>
    intro n i P R hi hn
    obtain ⟨n, rfl⟩ : ∃ q, n = q + 1 := ⟨n - 1, by omega⟩
    rw [pM_brokenRefresh_L10, kd_88, kb_brt (nI_le (by omega) (by omega)), kd_br0, kd_br0]
    have e1 : (P ∨ ∃ k, i ≤ k ∧ k < 8 ∧ ¬ z 2 (8 * s + k) < 0) ↔ P := ⟨fun h => h.elim id (fun ⟨k, a, b, _⟩ => by omega), Or.inl⟩
    have e2 : (R ∨ ∃ k, i ≤ k ∧ k < 8 ∧ kd_er (z 9 s) (z 4 (8 * s + k)) (z 1 1)) ↔ R := ⟨fun h => h.elim id (fun ⟨k, a, b, _⟩ => by omega), Or.inl⟩
    rw [kd_ifc e1 (kd_ifc e2 rfl)]
    refine kd_br_if rfl (kd_br_if rfl ?_)
    rw [kb_ckt (vp_in_nI hs (by decide)), kd_ix rfl (by omega), pd_early rfl hs (show (9 : Int32) = nI 9 from rfl) (by decide), kd_cl, kd_br0]
    exact kd_br_if rfl rfl
  | succ j ih =>
    intro n i P R hi hn
    obtain ⟨n, rfl⟩ : ∃ q, n = q + 1 := ⟨n - 1, by omega⟩
    have hin : vp_in (nI (8 * s + i)) 16 := vp_in_nI (by omega) (by decide)
    have key : pM_brokenRefresh_L10 (n + 1) (nI s) (kd_b P) (kd_b R) (nI (8 * s + i)) z = pM_brokenRefresh_L10 n (nI s) (kd_b (P ∨ ¬ z 2 (8 * s + i) < 0)) (kd_b (R ∨ kd_er (z 9 s) (z 4 (8 * s + i)) (z 1 1))) (nI (8 * s + (i + 1))) z := by
      rw [pM_brokenRefresh_L10, kd_88, kb_brf (nI_ge (by omega) (by omega))]
      simp only [kb_ckt hin, nI_1, kd_ix (rfl : nI (8 * s + i) = nI (8 * s + i)) (by omega : 8 * s + i < 2 ^ 31), Nat.add_assoc, pd_early (rfl : nI s = nI s) hs (show (1 : Int32) = nI 1 from rfl) (by decide), kd_cl, kd_br0]
      by_cases hP : P
      · rw [kb_brt hP, kd_bt (Or.inl hP)]
        by_cases hR : R
        · rw [kb_brt hR, kd_bt (Or.inl hR)]
        · rw [kb_brf hR]
          by_cases hE : kd_er (z 9 s) (z 4 (8 * s + i)) (z 1 1)
          · rw [kb_brt hE, kd_bt (Or.inr hE)]
          · rw [kb_brf hE, kd_bf (fun h => h.elim hR hE)]
      · rw [kb_brf hP]
        by_cases hZ : z 2 (8 * s + i) < 0
        · rw [kb_brt hZ, kd_bf (fun h => h.elim hP (fun q => q hZ))]
          by_cases hR : R
          · rw [kb_brt hR, kd_bt (Or.inl hR)]
          · rw [kb_brf hR]
            by_cases hE : kd_er (z 9 s) (z 4 (8 * s + i)) (z 1 1)
            · rw [kb_brt hE, kd_bt (Or.inr hE)]
            · rw [kb_brf hE, kd_bf (fun h => h.elim hR hE)]
        · rw [kb_brf hZ, kd_bt (Or.inr hZ)]
          by_cases hR : R
          · rw [kb_brt hR, kd_bt (Or.inl hR)]
          · rw [kb_brf hR]
            by_cases hE : kd_er (z 9 s) (z 4 (8 * s + i)) (z 1 1)
            · rw [kb_brt hE, kd_bt (Or.inr hE)]
            · rw [kb_brf hE, kd_bf (fun h => h.elim hR hE)]
    rw [key, ih n (i + 1) _ _ (by omega) (by omega)]
    have e3 : ∀ (A : Prop) (B : Nat → Prop), ((A ∨ B i) ∨ ∃ k, i + 1 ≤ k ∧ k < 8 ∧ B k) ↔ (A ∨ ∃ k, i ≤ k ∧ k < 8 ∧ B k) := by
      intro A B
      constructor
      · rintro ((h | h) | ⟨k, h1, h2, h3⟩)
        · exact Or.inl h
        · exact Or.inr ⟨i, Nat.le_refl _, by omega, h⟩
        · exact Or.inr ⟨k, by omega, h2, h3⟩
      · rintro (h | ⟨k, h1, h2, h3⟩)
        · exact Or.inl (Or.inl h)
        · by_cases hk : k = i
          · subst hk; exact Or.inl (Or.inr h3)
          · exact Or.inr ⟨k, by omega, h2, h3⟩
    rw [kd_ifc (e3 P (fun k => ¬ z 2 (8 * s + k) < 0)) (kd_ifc (e3 R (fun k => kd_er (z 9 s) (z 4 (8 * s + k)) (z 1 1))) rfl)]
theorem pd_bref {z : kb_S} {s : Nat} (hs : s < 2) : pM_brokenRefresh (nI s) z = some (sp_refresh 8 (fun k => z 2 (8 * s + k)) (fun k => z 4 (8 * s + k)) (z 8 s) (z 9 s) (z 1), z) := by
  unfold pM_brokenRefresh sp_refresh
  have h := pd_bref_L (z := z) hs 8 3000 0 False False (by omega) (by omega)
  rw [kd_bf (fun q : False => q)] at h
  rw [kd_8']
  refine h.trans ?_
  have e3 : ∀ B : Nat → Prop, (False ∨ ∃ k, 0 ≤ k ∧ k < 8 ∧ B k) ↔ ∃ k, k < 8 ∧ B k := fun B => ⟨fun h => h.elim (fun q => q.elim) (fun ⟨k, _, a, b⟩ => ⟨k, a, b⟩), fun ⟨k, a, b⟩ => Or.inr ⟨k, by omega, a, b⟩⟩
  rw [kd_ifc (e3 (fun k => ¬ z 2 (8 * s + k) < 0)) (kd_ifc (e3 (fun k => kd_er (z 9 s) (z 4 (8 * s + k)) (z 1 1))) rfl)]
def kd_ok (x : Int32) : Prop := x = -1 ∨ ¬ x < 0
theorem kd_okn {x : Int32} (h : kd_ok x) : x = -1 ↔ x < 0 := ⟨fun q => by rw [q]; decide, fun q => h.resolve_right (fun r => r q)⟩
theorem pd_others_L {t nb Q b : Nat} {L : List Nat} {z : kc_S} (h8 : nb ≤ 8) (hb : b < nb) (hok : ∀ k, k < nb → kd_ok (z.1 (t + 2) k)) : ∀ (j n i : Nat), i + j = nb → j < n →
    pC_isTooSoonForOthers_L2 t nb Q L n (nI b) (nI i) z = some (kd_b (∃ k, i ≤ k ∧ k < nb ∧ k ≠ b ∧ kd_er (z.1 t 3) (z.1 (t + 2) k) (z.1 1 7)), z) := by
  intro j
  induction j with
  | zero =>
    intro n i hi hn
    obtain ⟨n, rfl⟩ : ∃ q, n = q + 1 := ⟨n - 1, by omega⟩
    rw [pC_isTooSoonForOthers_L2, kb_brt (nI_le (by omega) (by omega)), kd_bf (fun ⟨k, a, b, _⟩ => by omega)]
  | succ j ih =>
    intro n i hi hn
    obtain ⟨n, rfl⟩ : ∃ q, n = q + 1 := ⟨n - 1, by omega⟩
    rw [pC_isTooSoonForOthers_L2, kb_brf (nI_ge (by omega) (by omega)), nI_1]
    by_cases hib : i = b
    · rw [kb_brt (by rw [hib]), ih n (i + 1) (by omega) (by omega)]
      congr 3
      refine propext ⟨fun ⟨k, a1, a2, a3, a4⟩ => ⟨k, by omega, a2, a3, a4⟩, fun ⟨k, a1, a2, a3, a4⟩ => ⟨k, by omega, a2, a3, a4⟩⟩
    · rw [kb_brf (fun q => hib ((nI_eq (by omega) (by omega)).mp q)), kb_ckt (vp_in_nI (by omega) (by omega)), kd_ix rfl (by omega), pd_soon (show (7 : Int32) = nI 7 from rfl) (by decide) (hok i (by omega)), kd_cl, kd_br0]
      by_cases hE : kd_er (z.1 t 3) (z.1 (t + 2) i) (z.1 1 7)
      · rw [kb_brt hE, kd_bt ⟨i, Nat.le_refl _, by omega, hib, hE⟩]
      · rw [kb_brf hE, ih n (i + 1) (by omega) (by omega)]
        congr 3
        refine propext ⟨fun ⟨k, a1, a2, a3, a4⟩ => ⟨k, by omega, a2, a3, a4⟩, fun ⟨k, a1, a2, a3, a4⟩ => ⟨k, ?_, a2, a3, a4⟩⟩
        by_cases hk : k = i
        · exact absurd (hk ▸ a4) hE
        · omega
theorem pd_copen {t nb Q b nx : Nat} {L : List Nat} {z : kc_S} (h8 : nb ≤ 8) (hb : b < nb) (hr : ∀ k, k < nb → kd_ok (z.1 (t + 1) k)) (ho : ∀ k, k < nb → kd_ok (z.1 (t + 2) k)) (hc : ∀ k, k < nb → kd_ok (z.1 (t + 3) k)) (hnx : z.1 t 0 = nI nx) (hnx4 : nx < 4) (h4 : kd_ok (z.1 (t + 6) nx)) (hrf : kd_ok (z.1 t 2)) :
    pC_brokenByOpen t nb Q L (nI b) z = some (sp_open nb b (z.1 (t + 1)) (z.1 (t + 2)) (z.1 (t + 3)) (z.1 (t + 6) nx) (z.1 t 2) (z.1 t 3) (z.1 1), z) := by
  unfold pC_brokenByOpen sp_open
  have hin : vp_in (nI b) nb := vp_in_nI hb (by omega)
  rw [kb_ckt hin, kd_ix rfl (by omega)]
  have e0 := kd_okn (hr b hb)
  by_cases h : z.1 (t + 1) b < 0
  · rw [kb_brt (e0.mpr h), kd_ift h]
    rw [kb_ckt hin, pd_soon (show (1 : Int32) = nI 1 from rfl) (by decide) (hc b hb), kd_cl, kd_br0]
    refine kd_br_if rfl ?_
    rw [kb_ckt hin, pd_soon (show (3 : Int32) = nI 3 from rfl) (by decide) (ho b hb), kd_cl, kd_br0]
    refine kd_br_if rfl ?_
    unfold pC_isTooSoonForOthers
    rw [show (0 : Int32) = nI 0 from rfl, pd_others_L h8 hb ho nb 3000 0 (by omega) (by omega), kd_cl, show nI 0 = (0 : Int32) from rfl, kd_br0]
    have e3 : (∃ k, 0 ≤ k ∧ k < nb ∧ k ≠ b ∧ kd_er (z.1 t 3) (z.1 (t + 2) k) (z.1 1 7)) ↔ (∃ k, k < nb ∧ k ≠ b ∧ kd_er (z.1 t 3) (z.1 (t + 2) k) (z.1 1 7)) := ⟨fun ⟨k, _, h⟩ => ⟨k, h⟩, fun ⟨k, h⟩ => ⟨k, Nat.zero_le _, h⟩⟩
    rw [kd_ifc e3.symm rfl]
    refine kd_br_if rfl ?_
    rw [hnx, kb_ckt (vp_in_nI hnx4 (by decide)), kd_ix rfl (by omega), pd_soon (show (8 : Int32) = nI 8 from rfl) (by decide) h4, kd_cl, kd_br0]
    refine kd_br_if rfl ?_
    rw [pd_soon (show (9 : Int32) = nI 9 from rfl) (by decide) hrf, kd_cl, kd_br0]
    exact kd_br_if rfl rfl
  · rw [kb_brf (fun q => h (e0.mp q)), kd_iff h]
theorem pd_cclose {t nb Q b : Nat} {L : List Nat} {z : kc_S} (h8 : nb ≤ 8) (hb : b < nb) (hr : ∀ k, k < nb → kd_ok (z.1 (t + 1) k)) (ho : ∀ k, k < nb → kd_ok (z.1 (t + 2) k)) (hd : ∀ k, k < nb → kd_ok (z.1 (t + 4) k)) (hw : ∀ k, k < nb → kd_ok (z.1 (t + 5) k)) :
    pC_brokenByClose t nb Q L (nI b) z = some (sp_close b (z.1 (t + 1)) (z.1 (t + 2)) (z.1 (t + 4)) (z.1 (t + 5)) (z.1 t 3) (z.1 1), z) := by
  unfold pC_brokenByClose sp_close
  have hin : vp_in (nI b) nb := vp_in_nI hb (by omega)
  rw [kb_ckt hin, kd_ix rfl (by omega)]
  have e0 := kd_okn (hr b hb)
  by_cases h : z.1 (t + 1) b < 0
  · rw [kb_brt (e0.mpr h), kd_ift h]
  · rw [kb_brf (fun q => h (e0.mp q)), kd_iff h]
    rw [kb_ckt hin, pd_soon (show (2 : Int32) = nI 2 from rfl) (by decide) (ho b hb), kd_cl, kd_br0]
    refine kd_br_if rfl ?_
    rw [kb_ckt hin, pd_soon (show (4 : Int32) = nI 4 from rfl) (by decide) (hw b hb), kd_cl, kd_br0]
    refine kd_br_if rfl ?_
    rw [kb_ckt hin, pd_soon (show (5 : Int32) = nI 5 from rfl) (by decide) (hd b hb), kd_cl, kd_br0]
    exact kd_br_if rfl rfl
theorem pd_cuse {t nb Q b : Nat} {L : List Nat} {z : kc_S} {row : Int32} (h8 : nb ≤ 8) (hb : b < nb) (ho : ∀ k, k < nb → kd_ok (z.1 (t + 2) k)) (hla : kd_ok (z.1 t 1)) :
    pC_brokenByAccess t nb Q L (nI b) row z = some (sp_use b row (z.1 (t + 1)) (z.1 (t + 2)) (z.1 t 1) (z.1 t 3) (z.1 1), z) := by
  unfold pC_brokenByAccess sp_use
  have hin : vp_in (nI b) nb := vp_in_nI hb (by omega)
  rw [kb_ckt hin, kd_ix rfl (by omega)]
  refine kd_br_if ?_ rfl
  rw [kb_ckt hin, pd_soon (show (0 : Int32) = nI 0 from rfl) (by decide) (ho b hb), kd_cl, kd_br0]
  refine kd_br_if rfl ?_
  rw [pd_soon (show (6 : Int32) = nI 6 from rfl) (by decide) hla, kd_cl, kd_br0]
  exact kd_br_if rfl rfl
theorem pd_cref_L2 {t nb Q : Nat} {L : List Nat} {z : kc_S} (h8 : nb ≤ 8) (hc : ∀ k, k < nb → kd_ok (z.1 (t + 3) k)) (hrf : kd_ok (z.1 t 2)) : ∀ (j n i : Nat), i + j = nb → j < n →
    pC_brokenByRefresh_L32 t nb Q L n (nI i) z = some (kd_if (∃ k, i ≤ k ∧ k < nb ∧ kd_er (z.1 t 3) (z.1 (t + 3) k) (z.1 1 1)) 15 (kd_if (kd_er (z.1 t 3) (z.1 t 2) (z.1 1 9)) 16 0), z) := by
  intro j
  induction j with
  | zero =>
    intro n i hi hn
    obtain ⟨n, rfl⟩ : ∃ q, n = q + 1 := ⟨n - 1, by omega⟩
    rw [pC_brokenByRefresh_L32, kb_brt (nI_le (by omega) (by omega)), pd_soon (show (9 : Int32) = nI 9 from rfl) (by decide) hrf, kd_cl, kd_br0, kd_iff (P := ∃ k, i ≤ k ∧ k < nb ∧ kd_er (z.1 t 3) (z.1 (t + 3) k) (z.1 1 1)) (fun ⟨k, a, b, _⟩ => by omega)]
    exact kd_br_if rfl rfl
  | succ j ih =>
    intro n i hi hn
    obtain ⟨n, rfl⟩ : ∃ q, n = q + 1 := ⟨n - 1, by omega⟩
    rw [pC_brokenByRefresh_L32, kb_brf (nI_ge (by omega) (by omega)), nI_1, kb_ckt (vp_in_nI (by omega) (by omega)), kd_ix rfl (by omega), pd_soon (show (1 : Int32) = nI 1 from rfl) (by decide) (hc i (by omega)), kd_cl, kd_br0]
    by_cases hE : kd_er (z.1 t 3) (z.1 (t + 3) i) (z.1 1 1)
    · rw [kb_brt hE, kd_ift (P := ∃ k, i ≤ k ∧ k < nb ∧ kd_er (z.1 t 3) (z.1 (t + 3) k) (z.1 1 1)) ⟨i, Nat.le_refl _, by omega, hE⟩]
    · rw [kb_brf hE, ih n (i + 1) (by omega) (by omega)]
      refine congrArg (fun q => some (q, z)) (kd_ifc ⟨fun ⟨k, a1, a2, a3⟩ => ⟨k, by omega, a2, a3⟩, fun ⟨k, a1, a2, a3⟩ => ⟨k, ?_, a2, a3⟩⟩ rfl)
      by_cases hk : k = i
      · exact absurd (hk ▸ a3) hE
      · omega
theorem pd_cref_L1 {t nb Q : Nat} {L : List Nat} {z : kc_S} (h8 : nb ≤ 8) (hr : ∀ k, k < nb → kd_ok (z.1 (t + 1) k)) (hc : ∀ k, k < nb → kd_ok (z.1 (t + 3) k)) (hrf : kd_ok (z.1 t 2)) : ∀ (j n i : Nat), i + j = nb → j < n →
    pC_brokenByRefresh_L2 t nb Q L n (nI i) z = some (kd_if (∃ k, i ≤ k ∧ k < nb ∧ ¬ z.1 (t + 1) k < 0) 14 (kd_if (∃ k, 0 ≤ k ∧ k < nb ∧ kd_er (z.1 t 3) (z.1 (t + 3) k) (z.1 1 1)) 15 (kd_if (kd_er (z.1 t 3) (z.1 t 2) (z.1 1 9)) 16 0)), z) := by
  intro j
  induction j with
  | zero =>
    intro n i hi hn
    obtain ⟨n, rfl⟩ : ∃ q, n = q + 1 := ⟨n - 1, by omega⟩
    rw [pC_brokenByRefresh_L2, kb_brt (nI_le (by omega) (by omega)), kd_iff (P := ∃ k, i ≤ k ∧ k < nb ∧ ¬ z.1 (t + 1) k < 0) (fun ⟨k, a, b, _⟩ => by omega)]
    exact pd_cref_L2 h8 hc hrf nb 3000 0 (by omega) (by omega)
  | succ j ih =>
    intro n i hi hn
    obtain ⟨n, rfl⟩ : ∃ q, n = q + 1 := ⟨n - 1, by omega⟩
    have e0 := kd_okn (hr i (by omega))
    rw [pC_brokenByRefresh_L2, kb_brf (nI_ge (by omega) (by omega)), nI_1, kb_ckt (vp_in_nI (by omega) (by omega)), kd_ix rfl (by omega)]
    by_cases hE : z.1 (t + 1) i < 0
    · rw [kb_brt (e0.mpr hE), ih n (i + 1) (by omega) (by omega)]
      refine congrArg (fun q => some (q, z)) (kd_ifc ⟨fun ⟨k, a1, a2, a3⟩ => ⟨k, by omega, a2, a3⟩, fun ⟨k, a1, a2, a3⟩ => ⟨k, ?_, a2, a3⟩⟩ rfl)
      by_cases hk : k = i
      · exact absurd (hk ▸ hE) a3
      · omega
    · rw [kb_brf (fun q => hE (e0.mp q)), kd_ift (P := ∃ k, i ≤ k ∧ k < nb ∧ ¬ z.1 (t + 1) k < 0) ⟨i, Nat.le_refl _, by omega, hE⟩]
theorem pd_cref {t nb Q : Nat} {L : List Nat} {z : kc_S} (h8 : nb ≤ 8) (hr : ∀ k, k < nb → kd_ok (z.1 (t + 1) k)) (hc : ∀ k, k < nb → kd_ok (z.1 (t + 3) k)) (hrf : kd_ok (z.1 t 2)) :
    pC_brokenByRefresh t nb Q L z = some (sp_refresh nb (z.1 (t + 1)) (z.1 (t + 3)) (z.1 t 2) (z.1 t 3) (z.1 1), z) := by
  unfold pC_brokenByRefresh sp_refresh
  have h := pd_cref_L1 (L := L) (Q := Q) h8 hr hc hrf nb 3000 0 (by omega) (by omega)
  refine h.trans ?_
  have e3 : ∀ B : Nat → Prop, (∃ k, 0 ≤ k ∧ k < nb ∧ B k) ↔ ∃ k, k < nb ∧ B k := fun B => ⟨fun ⟨k, _, a, b⟩ => ⟨k, a, b⟩, fun ⟨k, a, b⟩ => ⟨k, Nat.zero_le _, a, b⟩⟩
  rw [kd_ifc (e3 (fun k => ¬ z.1 (t + 1) k < 0)) (kd_ifc (e3 (fun k => kd_er (z.1 t 3) (z.1 (t + 3) k) (z.1 1 1))) rfl)]
