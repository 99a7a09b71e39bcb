/-! THE STATE that both sides hold: counts of parts, bars, notes, and columns of numbers.
Columns: 0 shift, 1 copied (parts); 2 beats, 3 key, 4 mark (bars); 5 part, 6 bar, 7 voice, 8 tick, 9 length, 10 pitch, 11 is in, 12 in the copy, 13 copy's length, 14 copy's pitch, 15 touched (notes); 16: page, turn, cue. -/
abbrev SS : Type := (Nat × Nat × Nat) × (Nat → Nat → Int32)
def Inv (S : SS) : Prop :=
  (S.1.1 ≤ 5 ∧ S.1.2.1 ≤ 14 ∧ S.1.2.2 ≤ 120) ∧
  (∀ p, p < S.1.1 → (-12 ≤ (S.2 0 p).toInt ∧ (S.2 0 p).toInt ≤ 12) ∧ (S.2 1 p = 0 ∨ S.2 1 p = 1)) ∧
  (∀ b, b < S.1.2.1 → (1 ≤ (S.2 2 b).toInt ∧ (S.2 2 b).toInt ≤ 8) ∧ (-6 ≤ (S.2 3 b).toInt ∧ (S.2 3 b).toInt ≤ 6) ∧ (S.2 4 b = 0 ∨ S.2 4 b = 1)) ∧
  (∀ i, i < S.1.2.2 → (∃ p, p < S.1.1 ∧ S.2 5 i = nI p) ∧ (∃ b, b < S.1.2.1 ∧ S.2 6 i = nI b ∧ (S.2 8 i).toInt + (S.2 9 i).toInt ≤ 4 * (S.2 2 b).toInt) ∧ (S.2 7 i = 0 ∨ S.2 7 i = 1) ∧ 0 ≤ (S.2 8 i).toInt ∧ 1 ≤ (S.2 9 i).toInt ∧ (24 ≤ (S.2 10 i).toInt ∧ (S.2 10 i).toInt ≤ 96) ∧
    (S.2 11 i = 0 ∨ S.2 11 i = 1) ∧ (S.2 12 i = 0 ∨ S.2 12 i = 1) ∧ (S.2 12 i = 1 → 1 ≤ (S.2 13 i).toInt) ∧ (S.2 15 i = 0 ∨ S.2 15 i = 1) ∧ (S.2 15 i = 0 → S.2 12 i = S.2 11 i ∧ S.2 13 i = S.2 9 i ∧ S.2 14 i = S.2 10 i)) ∧
  ((1 ≤ (S.2 16 0).toInt ∧ (S.2 16 0).toInt ≤ 60) ∧ (0 ≤ (S.2 16 1).toInt ∧ (S.2 16 1).toInt ≤ 64) ∧ (1 ≤ (S.2 16 2).toInt ∧ (S.2 16 2).toInt ≤ 14))
/-- the Blocks object and its arrays: what they hold is left open -/
def BK (μ : Mem) (bl : Nat) (bk : Nat → Nat) : Prop := ok9 μ 3 bl ∧ ∀ k, k < 9 → mQ μ 3 k bl = some (bk k) ∧ ok9 μ (10 + k) (bk k) ∧ mN μ (bk k) = 15
/-- the class's picture: ad 0: its arrays and its Blocks, ad 1: the Blocks' arrays, ad 2, 3, 4: parts, bars, notes -/
def BP (μ : Mem) (x : Nat) (ad : Nat → Nat → Nat) (S : SS) : Prop :=
  (ok9 μ 6 x ∧ mQ μ 6 0 x = some (ad 0 0) ∧ mQ μ 6 1 x = some (ad 0 1) ∧ mQ μ 6 2 x = some (ad 0 2) ∧ mQ μ 6 3 x = some (ad 0 3)) ∧
  (mI μ 6 4 x = nI S.1.1 ∧ mI μ 6 5 x = nI S.1.2.1 ∧ mI μ 6 6 x = nI S.1.2.2 ∧ mI μ 6 7 x = S.2 16 0 ∧ mI μ 6 8 x = S.2 16 1 ∧ mI μ 6 9 x = S.2 16 2) ∧
  ((ok9 μ 20 (ad 0 0) ∧ mN μ (ad 0 0) = 5) ∧ (ok9 μ 21 (ad 0 1) ∧ mN μ (ad 0 1) = 14) ∧ (ok9 μ 22 (ad 0 2) ∧ mN μ (ad 0 2) = 120)) ∧
  BK μ (ad 0 3) (ad 1) ∧
  ((∀ i, i < 5 → mS μ 20 (ad 0 0) i = if i < S.1.1 then some (ad 2 i) else none) ∧ (∀ i, i < 14 → mS μ 21 (ad 0 1) i = if i < S.1.2.1 then some (ad 3 i) else none) ∧ (∀ i, i < 120 → mS μ 22 (ad 0 2) i = if i < S.1.2.2 then some (ad 4 i) else none)) ∧
  ((∀ i, i < S.1.1 → ok9 μ 5 (ad 2 i) ∧ mI μ 5 0 (ad 2 i) = S.2 0 i ∧ mI μ 5 1 (ad 2 i) = S.2 1 i) ∧
   (∀ i, i < S.1.2.1 → ok9 μ 2 (ad 3 i) ∧ mI μ 2 0 (ad 3 i) = S.2 2 i * 4 ∧ mI μ 2 1 (ad 3 i) = S.2 3 i ∧ mI μ 2 2 (ad 3 i) = S.2 4 i) ∧
   (∀ i, i < S.1.2.2 → ok9 μ 4 (ad 4 i) ∧ ∀ k, k < 11 → mI μ 4 k (ad 4 i) = S.2 (k + 5) i)) ∧
  ((∀ i j, i < S.1.1 → j < S.1.1 → ad 2 i = ad 2 j → i = j) ∧ (∀ i j, i < S.1.2.1 → j < S.1.2.1 → ad 3 i = ad 3 j → i = j) ∧ (∀ i j, i < S.1.2.2 → j < S.1.2.2 → ad 4 i = ad 4 j → i = j))
/-- the reference's arrays: of each field its kind is 29 + field (up to 14), 44 and 45 for 21 and 22, 46 to 48 for 24 to 26 -/
def mlen (k : Nat) : Nat := if k = 1 ∨ k = 14 then 5 else if k = 2 ∨ k = 3 ∨ k = 12 ∨ k = 21 ∨ k = 22 then 14 else if k = 24 ∨ k = 25 ∨ k = 26 then 15 else 120
def mkind (k : Nat) : Nat := if k ≤ 14 then 29 + k else if k ≤ 22 then 23 + k else 22 + k
def MP (μ : Mem) (y : Nat) (am : Nat → Nat) (S : SS) : Prop :=
  ok9 μ 7 y ∧ (∀ k, ((1 ≤ k ∧ k ≤ 14) ∨ k = 21 ∨ k = 22 ∨ k = 24 ∨ k = 25 ∨ k = 26) → mQ μ 7 k y = some (am k) ∧ ok9 μ (mkind k) (am k) ∧ mN μ (am k) = mlen k) ∧
  (mI μ 7 15 y = nI S.1.1 ∧ mI μ 7 16 y = nI S.1.2.1 ∧ mI μ 7 17 y = nI S.1.2.2 ∧ mI μ 7 18 y = S.2 16 0 ∧ mI μ 7 19 y = S.2 16 1 ∧ mI μ 7 20 y = S.2 16 2) ∧
  (∀ p, p < S.1.1 → mR μ 30 (am 1) p = S.2 0 p ∧ mR μ 43 (am 14) p = S.2 1 p) ∧ (∀ p, S.1.1 ≤ p → p < 5 → mR μ 43 (am 14) p = 0) ∧
  (∀ b, b < S.1.2.1 → mR μ 31 (am 2) b = S.2 2 b ∧ mR μ 32 (am 3) b = S.2 3 b ∧ mR μ 41 (am 12) b = S.2 4 b) ∧
  (∀ i, i < S.1.2.2 → (∀ k, k < 6 → mR μ (33 + k) (am (4 + k)) i = S.2 (5 + k) i) ∧ mR μ 39 (am 10) i = (if S.2 12 i = 0 then 0 else S.2 13 i) ∧ mR μ 40 (am 11) i = S.2 14 i ∧ mR μ 42 (am 13) i = (if S.2 11 i = 0 then 1 else 0)) ∧
  (∀ i, S.1.2.2 ≤ i → i < 120 → mR μ 39 (am 10) i = 0 ∧ mR μ 40 (am 11) i = 0 ∧ mR μ 42 (am 13) i = 0)
/-- the law's two arrays -/
def OA (μ : Mem) (o od : Nat) : Prop := (ok9 μ 60 o ∧ mN μ o = 1) ∧ ok9 μ 61 od ∧ mN μ od = 1
def Sm (μ : Mem) (x y o od : Nat) (S : SS) : Prop := Inv S ∧ (∃ ad, BP μ x ad S) ∧ (∃ am, MP μ y am S) ∧ OA μ o od
/-! counts -/
def cnt (q : Nat → Bool) : Nat → Nat
  | 0 => 0
  | n + 1 => cnt q n + (if q n = true then 1 else 0)
theorem cnt_le (q : Nat → Bool) (n : Nat) : cnt q n ≤ n := by
  induction n with
  | zero => exact Nat.le_refl 0
  | succ n ih =>
    show cnt q n + (if q n = true then 1 else 0) ≤ n + 1
    split <;> omega
theorem cnt_beyond {q : Nat → Bool} {n m : Nat} (h : ∀ i, n ≤ i → i < m → q i = false) (hnm : n ≤ m) : cnt q m = cnt q n := by
  induction m with
  | zero => rw [Nat.le_zero.mp hnm]
  | succ m ih =>
    by_cases e : n = m + 1
    · rw [e]
    · have h1 : q m = false := h m (by omega) (by omega)
      show cnt q m + (if q m = true then 1 else 0) = cnt q n
      rw [h1, ih (fun i a b => h i a (by omega)) (by omega)]
      rfl
theorem cnt_congr {q r : Nat → Bool} {n : Nat} (h : ∀ i, i < n → q i = r i) : cnt q n = cnt r n := by
  induction n with
  | zero => rfl
  | succ n ih =>
    show cnt q n + (if q n = true then 1 else 0) = cnt r n + (if r n = true then 1 else 0)
    rw [ih (fun i hi => h i (by omega)), h n (by omega)]
/-! reading arrays, objects -/
theorem ald_ok {μ : Mem} {k a n i : Nat} (hk : ok9 μ k a) (hn : mN μ a = n) (h10 : 10 ≤ k) (ht : aT k = 0) (hi : i < n) (hs : n < 2 ^ 31) : ald μ a (nI i) = some (mR μ k a i) := by
  unfold ald
  rw [hk.2, hn, if_pos ⟨hk.1, h10, ht, inb_nI hi hs⟩, nI_clamp (by omega)]
theorem zld_ok {μ : Mem} {k a n i : Nat} (hk : ok9 μ k a) (hn : mN μ a = n) (h10 : 10 ≤ k) (ht : aT k = 1) (hi : i < n) (hs : n < 2 ^ 31) : zld μ a (nI i) = some (mR μ k a i) := by
  unfold zld
  rw [hk.2, hn, if_pos ⟨hk.1, h10, ht, inb_nI hi hs⟩, nI_clamp (by omega)]
theorem qld_ok {μ : Mem} {k a n i : Nat} (hk : ok9 μ k a) (hn : mN μ a = n) (h10 : 10 ≤ k) (ht : aT k = 2 ∨ aT k = 3 ∨ aT k = 4) (hi : i < n) (hs : n < 2 ^ 31) : qld μ a (nI i) = some (mS μ k a i) := by
  unfold qld
  rw [hk.2, hn, if_pos ⟨hk.1, h10, ht, inb_nI hi hs⟩, nI_clamp (by omega)]
theorem ast_ok {μ : Mem} {k a n i : Nat} {v : Int32} (hk : ok9 μ k a) (hn : mN μ a = n) (h10 : 10 ≤ k) (ht : aT k = 0) (hi : i < n) (hs : n < 2 ^ 31) : ast μ a (nI i) v = some (sR μ k a i v) := by
  unfold ast
  rw [hk.2, hn, if_pos ⟨hk.1, h10, ht, inb_nI hi hs⟩, nI_clamp (by omega)]
theorem zst_ok {μ : Mem} {k a n i : Nat} {v : Int32} (hk : ok9 μ k a) (hn : mN μ a = n) (h10 : 10 ≤ k) (ht : aT k = 1) (hi : i < n) (hs : n < 2 ^ 31) (hv : v = 0 ∨ v = 1) : zst μ a (nI i) v = some (sR μ k a i v) := by
  unfold zst
  rw [hk.2, hn, if_pos ⟨hk.1, h10, ht, inb_nI hi hs, hv⟩, nI_clamp (by omega)]
theorem alen_ok {μ : Mem} {k a n : Nat} (hk : ok9 μ k a) (hn : mN μ a = n) (h10 : 10 ≤ k) : alen μ a = some (nI n) := by
  unfold alen
  rw [hk.2, hn, if_pos ⟨hk.1, h10⟩]
theorem chk_of {μ : Mem} {k a : Nat} (hk : ok9 μ k a) : chk μ k a = some () := if_pos hk
theorem lst_ok {μ : Mem} {o : Nat} {v : Int64} (hk : ok9 μ 60 o) (hn : mN μ o = 1) : lst μ o 0 v = some (sJ μ 60 o 0 v) := by
  unfold lst
  rw [hk.2, hn, if_pos ⟨hk.1, by decide, rfl, by decide⟩]
  rfl
theorem lld_ok {μ : Mem} {o : Nat} (hk : ok9 μ 60 o) (hn : mN μ o = 1) : lld μ o 0 = some (mJ μ 60 o 0) := by
  unfold lld
  rw [hk.2, hn, if_pos ⟨hk.1, by decide, rfl, by decide⟩]
  rfl
theorem dst_ok {μ : Mem} {o : Nat} {v : UInt64} (hk : ok9 μ 61 o) (hn : mN μ o = 1) : dst μ o 0 v = some (sE μ 61 o 0 v) := by
  unfold dst
  rw [hk.2, hn, if_pos ⟨hk.1, by decide, rfl, by decide⟩]
  rfl
theorem dld_ok {μ : Mem} {o : Nat} (hk : ok9 μ 61 o) (hn : mN μ o = 1) : dld μ o 0 = some (mE μ 61 o 0) := by
  unfold dld
  rw [hk.2, hn, if_pos ⟨hk.1, by decide, rfl, by decide⟩]
  rfl
/-! numbers -/
theorem ix3 (x : Int32) {n : Nat} (hn : n < 2 ^ 31) : (x < 0 ∧ ¬ ∃ j : Nat, j < n ∧ x = nI j) ∨ (nI n ≤ x ∧ ¬ x < 0 ∧ ¬ ∃ j : Nat, j < n ∧ x = nI j) ∨ ∃ j : Nat, j < n ∧ x = nI j := by
  have hno : ∀ j, j < n → ¬ nI j < 0 := fun j hj => nI_pos (by omega)
  rcases pk_ix x hn with h | h | h
  · exact Or.inl ⟨h, fun ⟨j, hj, e⟩ => hno j hj (e ▸ h)⟩
  · refine Or.inr (Or.inl ⟨h, ?_, fun ⟨j, hj, e⟩ => nI_ge hj hn (e ▸ h)⟩)
    intro h0
    have h1 := Int32.lt_of_le_of_lt h h0
    exact nI_pos hn h1
  · exact Or.inr (Or.inr h)
