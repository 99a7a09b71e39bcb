/-! THE ORDER IN A BAR; WHAT A COPY LACKS; SUMS -/
/-- the place of a note in the order of its bar -/
def ord9 (S : SS) (i : Nat) : Int32 := 2 * S.2 8 i + S.2 7 i
def qAh (S : SS) (j i : Nat) : Bool := qAt S (S.2 5 j) (S.2 6 j) i && decide (¬ ord9 S j ≤ ord9 S i)
/-- the note of this number in the order of the bar -/
def qOr (S : SS) (p b k : Int32) (i : Nat) : Bool := qAt S p b i && decide (nI (cnt (qAh S i) S.1.2.2) = k)
/-- the copy differs at this note -/
def qDf (S : SS) (p : Int32) (i : Nat) : Bool := decide (S.2 5 i = p) && (if S.2 11 i = 0 then decide (S.2 12 i ≠ 0) else (decide (S.2 12 i = 0) || decide (S.2 10 i ≠ S.2 14 i) || decide (S.2 9 i ≠ S.2 13 i)))
theorem Inv.tick {S : SS} (h : Inv S) {i : Nat} (hi : i < S.1.2.2) : ∃ t v : Nat, t ≤ 32 ∧ v ≤ 1 ∧ S.2 8 i = nI t ∧ S.2 7 i = nI v := by
  obtain ⟨-, ⟨b, hb, -, h2⟩, h3, h4, h5, -⟩ := h.2.2.2.1 i hi
  obtain ⟨⟨h6, h7⟩, -⟩ := h.2.2.1 b hb
  have h8 : ¬ S.2 8 i < 0 := by
    rw [Int32.lt_iff_toInt_lt, Int32.toInt_zero]
    omega
  obtain ⟨t, ht, e⟩ := nI_of h8
  rw [e, nI_toInt ht] at h2
  refine ⟨t, if S.2 7 i = 0 then 0 else 1, by omega, by split <;> omega, e, ?_⟩
  rcases h3 with h3 | h3 <;> rw [h3] <;> rfl
theorem ord9_le {S : SS} {i j ti vi tj vj : Nat} (h1 : S.2 8 i = nI ti) (h2 : S.2 7 i = nI vi) (h3 : S.2 8 j = nI tj) (h4 : S.2 7 j = nI vj) (a1 : ti ≤ 32) (a2 : vi ≤ 1) (a3 : tj ≤ 32) (a4 : vj ≤ 1) : ord9 S j ≤ ord9 S i ↔ 2 * tj + vj ≤ 2 * ti + vi := by
  unfold ord9
  rw [h1, h2, h3, h4, show (2 : Int32) = nI 2 from rfl, pk_mul, pk_mul, nI_add, nI_add]
  exact nI_leI (by omega) (by omega)
section P33
variable {μ : Mem} {x y : Nat} {ad : Nat → Nat → Nat} {am : Nat → Nat} {S : SS}
theorem c_ahead (h : BP μ x ad S) (hI : Inv S) {i j : Nat} (hi : i < S.1.2.2) (hj : j < S.1.2.2) : f_X2_comesAheadOf μ (ad 4 i) (some (ad 4 j)) = some (if ¬ ord9 S j ≤ ord9 S i then 1 else 0) := by
  obtain ⟨ti, vi, a1, a2, e1, e2⟩ := hI.tick hi
  obtain ⟨tj, vj, a3, a4, e3, e4⟩ := hI.tick hj
  simp only [f_X2_comesAheadOf, obs, h.t3 hi, h.t3 hj, h.t2 hi, h.t2 hj, ord9_le e1 e2 e3 e4 a1 a2 a3 a4, e1, e2, e3, e4]
  by_cases g1 : ti < tj
  · rw [if_pos (nI_lt g1 (by omega)), if_pos (by omega)]
  · rw [if_neg (nI_nlt (by omega) (by omega))]
    by_cases g2 : ti = tj
    · subst g2
      rw [if_pos rfl]
      by_cases g3 : vj ≤ vi
      · rw [if_pos (nI_le g3 (by omega)), if_neg (by omega)]
      · rw [if_neg (nI_ge (by omega) (by omega)), if_pos (by omega)]
    · rw [if_neg (fun z => g2 ((nI_eq (by omega) (by omega)).mp z)), if_neg (by omega)]
theorem c_countAhead (h : BP μ x ad S) (hI : Inv S) {j : Nat} (hj : j < S.1.2.2) : f_X4_countAhead μ x (some (ad 4 j)) = some (nI (cnt (qAh S j) S.1.2.2)) := by
  unfold f_X4_countAhead
  refine (lp_cnt (F := f_X4_countAhead_L4 μ x (some (ad 4 j)) (fun z _ => some z)) (k := fun z _ => some z) (q := qln S (qAh S j)) (N := 120) ?_ ?_ (m := 200) (by decide)).trans ?_
  · intro n i c hi
    simp only [f_X4_countAhead_L4, h.q2, obs, h.n2, if_neg (nI_ge hi (by decide)), h.l2 hi]
    by_cases hn : i < S.1.2.2
    · rw [qln_t hn]
      simp only [if_pos hn, onl_s, h.chN hn, obs, c_isAt h hn, h.t0 hj, h.t1 hj, c_ahead h hI hn hj, qAh, Bool.and_eq_true, decide_eq_true_eq]
      by_cases hq : qAt S (S.2 5 j) (S.2 6 j) i = true
      · simp only [if_pos hq, if1]
        by_cases h2 : ord9 S j ≤ ord9 S i
        · have h3 : ¬ ¬ ord9 S j ≤ ord9 S i := fun z => z h2
          rw [if_neg h3, if0, if_neg (fun z => z.2 h2)]
        · rw [if_pos h2, if1, if_pos ⟨hq, h2⟩]
      · simp only [if_neg hq, if0, ift]
        rw [if_neg (fun z => hq z.1)]
    · rw [qln_f hn]
      simp only [if_neg hn, onl_n]
      rfl
  · intro n c
    simp only [f_X4_countAhead_L4, h.q2, obs, h.n2, if_pos (nI_le (Nat.le_refl 120) (by decide))]
  · rw [qln_cnt hI.1.2.2]
theorem fst9_some {q : Nat → Bool} {N d i : Nat} (h : fst9 q N d = some i) (hd : d ≤ N) : i < N ∧ q i = true := by
  induction d with
  | zero => cases h
  | succ d ih =>
    unfold fst9 at h
    by_cases hq : q (N - (d + 1)) = true
    · rw [if_pos hq] at h
      cases h
      exact ⟨by omega, hq⟩
    · rw [if_neg hq] at h
      exact ih h (by omega)
theorem c_inOrder (h : BP μ x ad S) (hI : Inv S) (p b k : Int32) : f_X4_knownNoteInOrder μ x p b k = some (match fst9 (qln S (qOr S p b k)) 120 120 with | some i => .inr (nI i) | none => .inl 4) := by
  unfold f_X4_knownNoteInOrder
  refine (lp_fst (F := f_X4_knownNoteInOrder_L3 μ x p b k (fun _ => none)) (r := fun i => some (.inr (nI i))) (z := some (.inl 4)) (q := qln S (qOr S p b k)) (N := 120) ?_ ?_ (m := 200) (by decide)).trans ?_
  · intro n i hi
    simp only [f_X4_knownNoteInOrder_L3, h.q2, obs, h.n2, if_neg (nI_ge hi (by decide)), h.l2 hi]
    by_cases hn : i < S.1.2.2
    · rw [qln_t hn]
      simp only [if_pos hn, onl_s, h.chN hn, h.ch, obs, c_isAt h hn, c_countAhead h hI hn, qOr, Bool.and_eq_true, decide_eq_true_eq]
      by_cases hq : qAt S p b i = true
      · simp only [if_pos hq, if1]
        by_cases h2 : nI (cnt (qAh S i) S.1.2.2) = k
        · rw [if_pos h2, if_pos ⟨hq, h2⟩]
        · rw [if_neg h2, if_neg (fun z => h2 z.2)]
      · simp only [if_neg hq, if0, ift]
        rw [if_neg (fun z => hq z.1)]
    · rw [qln_f hn]
      simp only [if_neg hn, onl_n]
      rfl
  · intro n
    simp only [f_X4_knownNoteInOrder_L3, h.q2, obs, h.n2, if_pos (nI_le (Nat.le_refl 120) (by decide))]
  · cases fst9 (qln S (qOr S p b k)) 120 120 <;> rfl
theorem fst9_mono {q r : Nat → Bool} {N M : Nat} (hNM : N ≤ M) (h1 : ∀ i, i < N → r i = q i) (h2 : ∀ i, N ≤ i → i < M → r i = false) : fst9 r M M = fst9 q N N := by
  have hz : ∀ d, d ≤ M - N → fst9 r M d = none := by
    intro d
    induction d with
    | zero => intro _; rfl
    | succ d ih =>
      intro hd
      unfold fst9
      rw [h2 (M - (d + 1)) (by omega) (by omega), if_neg (by decide)]
      exact ih (by omega)
  have hs : ∀ d, d ≤ N → fst9 r M (d + (M - N)) = fst9 q N d := by
    intro d
    induction d with
    | zero => intro _; rw [Nat.zero_add]; exact hz _ (Nat.le_refl _)
    | succ d ih =>
      intro hd
      rw [show d + 1 + (M - N) = (d + (M - N)) + 1 from by omega]
      unfold fst9
      rw [show M - (d + (M - N) + 1) = N - (d + 1) from by omega, h1 _ (by omega), ih (by omega)]
  have h3 := hs N (Nat.le_refl N)
  rw [show N + (M - N) = M from by omega] at h3
  exact h3
theorem qln_fst {q : Nat → Bool} {n : Nat} (h : S.1.2.2 ≤ n) : fst9 (qln S q) n n = fst9 q S.1.2.2 S.1.2.2 := fst9_mono h (fun i hi => qln_t hi) (fun i h1 _ => qln_f (by omega))
theorem m_noteBy (h : MP μ y am S) (hI : S.1.2.2 ≤ 120) (p b k : Int32) : f_X5_noteBy μ y p b k = some (match fst9 (qOr S p b k) S.1.2.2 S.1.2.2 with | some i => nI i | none => -1) := by
  have hin : ∀ (j : Nat) (K : Int32 → Int32 → Option Int32), j < S.1.2.2 → qAt S p b j = true → f_X5_noteBy_L32 μ y p b k (nI j) K 200 0 0 = K (nI (cnt (qAh S j) S.1.2.2)) (nI S.1.2.2) := by
    intro j K hj hq0
    have hp : S.2 5 j = p ∧ S.2 6 j = b := by
      unfold qAt at hq0
      rw [decide_eq_true_eq] at hq0
      exact hq0.2
    refine lp_cnt (F := f_X5_noteBy_L32 μ y p b k (nI j) K) (k := K) (q := qAh S j) (N := S.1.2.2) ?_ ?_ (m := 200) (by omega)
    · intro n i c hi
      simp only [f_X5_noteBy_L32, h.i17, obs, if_neg (nI_ge hi (by omega)), h.ch, m_isAt h hI hi, h.q6, h.q7, h.a6 hi hI, h.a7 hi hI, h.a6 hj hI, h.a7 hj hI, qAh, hp.1, hp.2, Bool.and_eq_true, decide_eq_true_eq, Int32.add_zero]
      by_cases hq : qAt S p b i = true
      · simp only [if_pos hq, if1]
        by_cases h2 : ord9 S j ≤ ord9 S i
        · have h2' : 2 * S.2 8 j + S.2 7 j ≤ 2 * S.2 8 i + S.2 7 i := h2
          rw [if_pos h2', if_neg (fun z => z.2 h2)]
        · have h2' : ¬ 2 * S.2 8 j + S.2 7 j ≤ 2 * S.2 8 i + S.2 7 i := h2
          rw [if_neg h2', if_pos ⟨hq, h2⟩]
      · simp only [if_neg hq, if0, ift]
        rw [if_neg (fun z => hq z.1)]
    · intro n c
      simp only [f_X5_noteBy_L32, h.i17, obs, if_pos (nI_le (Nat.le_refl S.1.2.2) (by omega))]
  unfold f_X5_noteBy
  refine (lp_fst (F := f_X5_noteBy_L3 μ y p b k (fun _ => some (-1))) (r := fun i => some (nI i)) (z := some (-1)) (q := qOr S p b k) (N := S.1.2.2) ?_ ?_ (m := 200) (by omega)).trans ?_
  · intro n i hi
    simp only [f_X5_noteBy_L3, h.i17, obs, if_neg (nI_ge hi (by omega)), h.ch, m_isAt h hI hi, qOr, Bool.and_eq_true, decide_eq_true_eq]
    by_cases hq : qAt S p b i = true
    · simp only [if_pos hq, if1]
      rw [hin i _ hi hq]
      by_cases h2 : nI (cnt (qAh S i) S.1.2.2) = k
      · rw [if_pos h2, if_pos ⟨hq, h2⟩]
      · rw [if_neg h2, if_neg (fun z => h2 z.2)]
    · simp only [if_neg hq, if0, ift]
      rw [if_neg (fun z => hq z.1)]
  · intro n
    simp only [f_X5_noteBy_L3, h.i17, obs, if_pos (nI_le (Nat.le_refl S.1.2.2) (by omega))]
  · cases fst9 (qOr S p b k) S.1.2.2 S.1.2.2 <;> rfl
end P33
