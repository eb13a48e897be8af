/-! pure layer 2: the searches over the waiting ones -/
theorem kd_b01 (P : Prop) : kd_b P = 0 ∨ kd_b P = 1 := by
  by_cases h : P
  · exact Or.inr (kd_bt h)
  · exact Or.inl (kd_bf h)
theorem kd_bc {P P' : Prop} (h : P ↔ P') : kd_b P = kd_b P' := by rw [propext h]
/-- one step of a search upward -/
theorem kd_ex {i e : Nat} {B : Nat → Prop} (A : Prop) (hi : i < e) : ((A ∨ B i) ∨ ∃ k, i + 1 ≤ k ∧ k < e ∧ B k) ↔ (A ∨ ∃ k, i ≤ k ∧ k < e ∧ B k) := by
  constructor
  · rintro ((h | h) | ⟨k, h1, h2, h3⟩)
    · exact Or.inl h
    · exact Or.inr ⟨i, Nat.le_refl _, hi, h⟩
    · exact Or.inr ⟨k, by omega, h2, h3⟩
  · rintro (h | ⟨k, h1, h2, h3⟩)
    · exact Or.inl (Or.inl h)
    · by_cases hk : k = i
      · subst hk; exact Or.inl (Or.inr h3)
      · exact Or.inr ⟨k, by omega, h2, h3⟩
theorem kd_ex0 {i e : Nat} {B : Nat → Prop} (A : Prop) (hi : e ≤ i) : (A ∨ ∃ k, i ≤ k ∧ k < e ∧ B k) ↔ A := ⟨fun h => h.elim id (fun ⟨k, a, b, _⟩ => by omega), Or.inl⟩
theorem kd_exF {e : Nat} {B : Nat → Prop} : (False ∨ ∃ k, 0 ≤ k ∧ k < e ∧ B k) ↔ ∃ k, k < e ∧ B k := ⟨fun h => h.elim (fun q => q.elim) (fun ⟨k, _, a, b⟩ => ⟨k, a, b⟩), fun ⟨k, a, b⟩ => Or.inr ⟨k, Nat.zero_le _, a, b⟩⟩
theorem pd_elder_L {z : kb_S} {c : Nat} (hc : c < 12) : ∀ (j n i : Nat) (P : Prop), i + j = c → j < n →
    pM_hasElder_L4 n (nI c) (kd_b P) (nI i) z = some (kd_b (P ∨ ∃ k, i ≤ k ∧ k < c ∧ (z 12 k = z 12 c ∧ z 13 k = z 13 c ∧ z 14 k = z 14 c)), z) := by
  intro j
  induction j with
  | zero =>
    intro n i P hi hn
    obtain ⟨n, rfl⟩ : ∃ q, n = q + 1 := ⟨n - 1, by omega⟩
    rw [pM_hasElder_L4, kb_brt (nI_le (by omega) (by omega)), kb_ckt (kd_b01 P), kd_bc (kd_ex0 P (by omega))]
  | succ j ih =>
    intro n i P hi hn
    obtain ⟨n, rfl⟩ : ∃ q, n = q + 1 := ⟨n - 1, by omega⟩
    have hi2 : vp_in (nI i) 12 := vp_in_nI (by omega) (by decide)
    have hc2 : vp_in (nI c) 12 := vp_in_nI hc (by decide)
    have key : pM_hasElder_L4 (n + 1) (nI c) (kd_b P) (nI i) z = pM_hasElder_L4 n (nI c) (kd_b (P ∨ (z 12 i = z 12 c ∧ z 13 i = z 13 c ∧ z 14 i = z 14 c))) (nI (i + 1)) z := by
      rw [pM_hasElder_L4, kb_brf (nI_ge (by omega) (by omega)), kd_br0]
      simp only [kb_ckt hi2, kb_ckt hc2, nI_1, kd_ix (rfl : nI i = nI i) (by omega : i < 2 ^ 31), kd_ix (rfl : nI c = nI c) (by omega : c < 2 ^ 31)]
      by_cases hP : P
      · rw [kb_brt hP, kd_bt (Or.inl hP)]
      · rw [kb_brf hP]
        by_cases h1 : z 12 i = z 12 c
        · rw [kb_brt h1]
          by_cases h2 : z 13 i = z 13 c
          · rw [kb_brt h2]
            by_cases h3 : z 14 i = z 14 c
            · rw [kb_brt h3, kd_bt (Or.inr ⟨h1, h2, h3⟩)]
            · rw [kb_brf h3, kd_bf (fun h => h.elim hP (fun q => h3 q.2.2))]
          · rw [kb_brf h2, kd_bf (fun h => h.elim hP (fun q => h2 q.2.1))]
        · rw [kb_brf h1, kd_bf (fun h => h.elim hP (fun q => h1 q.1))]
    rw [key, ih n (i + 1) _ (by omega) (by omega), kd_bc (kd_ex (B := fun k => z 12 k = z 12 c ∧ z 13 k = z 13 c ∧ z 14 k = z 14 c) P (by omega))]
theorem pd_elder {z : kb_S} {c : Nat} (hc : c < 12) : pM_hasElder (nI c) z = some (kd_b (∃ k, k < c ∧ (z 12 k = z 12 c ∧ z 13 k = z 13 c ∧ z 14 k = z 14 c)), z) := by
  unfold pM_hasElder
  have h := pd_elder_L (z := z) hc c 3000 0 False (by omega) (by omega)
  rw [kd_bf (fun q : False => q), kd_bc kd_exF] at h
  exact h
theorem pd_asks_L {z : kb_S} {c : Nat} {b row : Int32} (hc : c ≤ 12) : ∀ (j n i : Nat) (P : Prop), i + j = c → j < n →
    pM_asks_L6 n (nI c) b row (kd_b P) (nI i) z = some (kd_b (P ∨ ∃ k, i ≤ k ∧ k < c ∧ (z 12 k = b ∧ (row < 0 ∨ z 13 k = row))), z) := by
  intro j
  induction j with
  | zero =>
    intro n i P hi hn
    obtain ⟨n, rfl⟩ : ∃ q, n = q + 1 := ⟨n - 1, by omega⟩
    rw [pM_asks_L6, kb_brt (nI_le (by omega) (by omega)), kb_ckt (kd_b01 P), kd_bc (kd_ex0 P (by omega))]
  | succ j ih =>
    intro n i P hi hn
    obtain ⟨n, rfl⟩ : ∃ q, n = q + 1 := ⟨n - 1, by omega⟩
    have hi2 : vp_in (nI i) 12 := vp_in_nI (by omega) (by decide)
    have key : pM_asks_L6 (n + 1) (nI c) b row (kd_b P) (nI i) z = pM_asks_L6 n (nI c) b row (kd_b (P ∨ (z 12 i = b ∧ (row < 0 ∨ z 13 i = row)))) (nI (i + 1)) z := by
      rw [pM_asks_L6, kb_brf (nI_ge (by omega) (by omega)), kd_br0]
      simp only [kb_ckt hi2, nI_1, kd_ix (rfl : nI i = nI i) (by omega : i < 2 ^ 31)]
      by_cases hP : P
      · rw [kb_brt hP, kd_bt (Or.inl hP)]
      · rw [kb_brf hP]
        by_cases h1 : z 12 i = b
        · rw [kb_brt h1]
          by_cases h2 : row < 0
          · rw [kb_brt h2, kd_bt (Or.inr ⟨h1, Or.inl h2⟩)]
          · rw [kb_brf h2]
            by_cases h3 : z 13 i = row
            · rw [kb_brt h3, kd_bt (Or.inr ⟨h1, Or.inr h3⟩)]
            · rw [kb_brf h3, kd_bf (fun h => h.elim hP (fun q => q.2.elim h2 h3))]
        · rw [kb_brf h1, kd_bf (fun h => h.elim hP (fun q => h1 q.1))]
    rw [key, ih n (i + 1) _ (by omega) (by omega), kd_bc (kd_ex (B := fun k => z 12 k = b ∧ (row < 0 ∨ z 13 k = row)) P (by omega))]
theorem pd_asks {z : kb_S} {c : Nat} {b row : Int32} (hc : c ≤ 12) : pM_asks (nI c) b row z = some (kd_b (∃ k, k < c ∧ (z 12 k = b ∧ (row < 0 ∨ z 13 k = row))), z) := by
  unfold pM_asks
  have h := pd_asks_L (z := z) (b := b) (row := row) hc c 3000 0 False (by omega) (by omega)
  rw [kd_bf (fun q : False => q), kd_bc kd_exF] at h
  exact h
/-- a search that answers 1 at the first that is found -/
theorem kd_ex1 {i e : Nat} {B : Nat → Prop} (hi : i < e) (hB : ¬ B i) : (∃ k, i + 1 ≤ k ∧ k < e ∧ B k) ↔ (∃ k, i ≤ k ∧ k < e ∧ B k) := by
  constructor
  · rintro ⟨k, h1, h2, h3⟩
    exact ⟨k, by omega, h2, h3⟩
  · rintro ⟨k, h1, h2, h3⟩
    by_cases hk : k = i
    · exact absurd (hk ▸ h3) hB
    · exact ⟨k, by omega, h2, h3⟩
theorem kd_exz {e : Nat} {B : Nat → Prop} : (∃ k, 0 ≤ k ∧ k < e ∧ B k) ↔ ∃ k, k < e ∧ B k := ⟨fun ⟨k, _, a, b⟩ => ⟨k, a, b⟩, fun ⟨k, a, b⟩ => ⟨k, Nat.zero_le _, a, b⟩⟩
theorem pd_word_L {nb Q c : Nat} {L : List Nat} {z : kc_S} (hQ : Q ≤ 12) (hc : c < Q) (hL : ∀ i, i < Q → z.2.1 i ∈ L) : ∀ (j n i : Nat), i + j = c → j < n →
    pB_hasOlderForWord_L2 nb Q L n (nI c) (nI i) z = some (kd_b (∃ k, i ≤ k ∧ k < c ∧ z.2.2 (z.2.1 k) 3 = z.2.2 (z.2.1 c) 3), z) := by
  intro j
  induction j with
  | zero =>
    intro n i hi hn
    obtain ⟨n, rfl⟩ : ∃ q, n = q + 1 := ⟨n - 1, by omega⟩
    rw [pB_hasOlderForWord_L2, kb_brt (nI_le (by omega) (by omega)), kd_bf (fun ⟨k, a, b, _⟩ => by omega)]
  | succ j ih =>
    intro n i hi hn
    obtain ⟨n, rfl⟩ : ∃ q, n = q + 1 := ⟨n - 1, by omega⟩
    rw [pB_hasOlderForWord_L2, kb_brf (nI_ge (by omega) (by omega))]
    simp only [kb_ckt (vp_in_nI (by omega : i < Q) (by omega : Q < 2 ^ 31)), kb_ckt (vp_in_nI hc (by omega : Q < 2 ^ 31)), nI_1, kd_ix (rfl : nI i = nI i) (by omega : i < 2 ^ 31), kd_ix (rfl : nI c = nI c) (by omega : c < 2 ^ 31), kb_ckt (hL i (by omega)), kb_ckt (hL c hc)]
    by_cases hE : z.2.2 (z.2.1 i) 3 = z.2.2 (z.2.1 c) 3
    · rw [kb_brt hE, kd_bt ⟨i, Nat.le_refl _, by omega, hE⟩]
    · rw [kb_brf hE, ih n (i + 1) (by omega) (by omega), kd_bc (kd_ex1 (by omega) hE)]
theorem pd_word {nb Q c : Nat} {L : List Nat} {z : kc_S} (hQ : Q ≤ 12) (hc : c < Q) (hL : ∀ i, i < Q → z.2.1 i ∈ L) : pB_hasOlderForWord nb Q L (nI c) z = some (kd_b (∃ k, k < c ∧ z.2.2 (z.2.1 k) 3 = z.2.2 (z.2.1 c) 3), z) := by
  unfold pB_hasOlderForWord
  have h := pd_word_L (nb := nb) hQ hc hL c 3000 0 (by omega) (by omega)
  rw [kd_bc kd_exz] at h
  exact h
theorem pd_bank_L {nb Q c : Nat} {L : List Nat} {z : kc_S} (hQ : Q ≤ 12) (hc : c < Q) (hL : ∀ i, i < Q → z.2.1 i ∈ L) : ∀ (j n i : Nat), i + j = c → j < n →
    pB_hasOlderForBank_L2 nb Q L n (nI c) (nI i) z = some (kd_b (∃ k, i ≤ k ∧ k < c ∧ z.2.2 (z.2.1 k) 1 = z.2.2 (z.2.1 c) 1), z) := by
  intro j
  induction j with
  | zero =>
    intro n i hi hn
    obtain ⟨n, rfl⟩ : ∃ q, n = q + 1 := ⟨n - 1, by omega⟩
    rw [pB_hasOlderForBank_L2, kb_brt (nI_le (by omega) (by omega)), kd_bf (fun ⟨k, a, b, _⟩ => by omega)]
  | succ j ih =>
    intro n i hi hn
    obtain ⟨n, rfl⟩ : ∃ q, n = q + 1 := ⟨n - 1, by omega⟩
    rw [pB_hasOlderForBank_L2, kb_brf (nI_ge (by omega) (by omega))]
    simp only [kb_ckt (vp_in_nI (by omega : i < Q) (by omega : Q < 2 ^ 31)), kb_ckt (vp_in_nI hc (by omega : Q < 2 ^ 31)), nI_1, kd_ix (rfl : nI i = nI i) (by omega : i < 2 ^ 31), kd_ix (rfl : nI c = nI c) (by omega : c < 2 ^ 31), kb_ckt (hL i (by omega)), kb_ckt (hL c hc)]
    by_cases hE : z.2.2 (z.2.1 i) 1 = z.2.2 (z.2.1 c) 1
    · rw [kb_brt hE, kd_bt ⟨i, Nat.le_refl _, by omega, hE⟩]
    · rw [kb_brf hE, ih n (i + 1) (by omega) (by omega), kd_bc (kd_ex1 (by omega) hE)]
theorem pd_bank {nb Q c : Nat} {L : List Nat} {z : kc_S} (hQ : Q ≤ 12) (hc : c < Q) (hL : ∀ i, i < Q → z.2.1 i ∈ L) : pB_hasOlderForBank nb Q L (nI c) z = some (kd_b (∃ k, k < c ∧ z.2.2 (z.2.1 k) 1 = z.2.2 (z.2.1 c) 1), z) := by
  unfold pB_hasOlderForBank
  have h := pd_bank_L (nb := nb) hQ hc hL c 3000 0 (by omega) (by omega)
  rw [kd_bc kd_exz] at h
  exact h
theorem pd_want_L {nb Q c : Nat} {L : List Nat} {z : kc_S} {b row : Int32} (hQ : Q ≤ 12) (hc : c ≤ Q) (hL : ∀ i, i < Q → z.2.1 i ∈ L) : ∀ (j n i : Nat), i + j = c → j < n →
    pB_isWanted_L3 nb Q L n b row (nI c) (nI i) z = some (kd_b (∃ k, i ≤ k ∧ k < c ∧ (z.2.2 (z.2.1 k) 1 = b ∧ z.2.2 (z.2.1 k) 2 = row)), z) := by
  intro j
  induction j with
  | zero =>
    intro n i hi hn
    obtain ⟨n, rfl⟩ : ∃ q, n = q + 1 := ⟨n - 1, by omega⟩
    rw [pB_isWanted_L3, kb_brt (nI_le (by omega) (by omega)), kd_bf (fun ⟨k, a, b, _⟩ => by omega)]
  | succ j ih =>
    intro n i hi hn
    obtain ⟨n, rfl⟩ : ∃ q, n = q + 1 := ⟨n - 1, by omega⟩
    rw [pB_isWanted_L3, kb_brf (nI_ge (by omega) (by omega))]
    simp only [kb_ckt (vp_in_nI (by omega : i < Q) (by omega : Q < 2 ^ 31)), nI_1, kd_ix (rfl : nI i = nI i) (by omega : i < 2 ^ 31), kb_ckt (hL i (by omega))]
    by_cases h1 : z.2.2 (z.2.1 i) 1 = b
    · rw [kb_brt h1]
      by_cases h2 : z.2.2 (z.2.1 i) 2 = row
      · rw [kb_brt h2, kd_bt ⟨i, Nat.le_refl _, by omega, h1, h2⟩]
      · rw [kb_brf h2, ih n (i + 1) (by omega) (by omega), kd_bc (kd_ex1 (by omega) (fun q => h2 q.2))]
    · rw [kb_brf h1, ih n (i + 1) (by omega) (by omega), kd_bc (kd_ex1 (by omega) (fun q => h1 q.1))]
theorem pd_want {nb Q c : Nat} {L : List Nat} {z : kc_S} {b row : Int32} (hQ : Q ≤ 12) (hc : c ≤ Q) (hL : ∀ i, i < Q → z.2.1 i ∈ L) : pB_isWanted nb Q L b row (nI c) z = some (kd_b (∃ k, k < c ∧ (z.2.2 (z.2.1 k) 1 = b ∧ z.2.2 (z.2.1 k) 2 = row)), z) := by
  unfold pB_isWanted
  have h := pd_want_L (nb := nb) (b := b) (row := row) hQ hc hL c 3000 0 (by omega) (by omega)
  rw [kd_bc kd_exz] at h
  exact h
