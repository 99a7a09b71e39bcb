/-! COUNTING AND SEARCHING, on both sides -/
theorem if0 {α : Type} (a b : α) : (if (0 : Int32) = 0 then a else b) = a := if_pos rfl
theorem if1 {α : Type} (a b : α) : (if (1 : Int32) = 0 then a else b) = b := if_neg (by decide)
def qAt (S : SS) (p b : Int32) (i : Nat) : Bool := decide (S.2 11 i ≠ 0 ∧ S.2 5 i = p ∧ S.2 6 i = b)
def qPt (S : SS) (p : Int32) (i : Nat) : Bool := decide (S.2 11 i ≠ 0 ∧ S.2 5 i = p)
/-- the note shares a tick with these ticks of this voice -/
def qMt (S : SS) (p b v t n : Int32) (i : Nat) : Bool := qAt S p b i && decide (S.2 7 i = v) && decide (¬ t + n ≤ S.2 8 i) && decide (¬ S.2 8 i + S.2 9 i ≤ t)
def qln (S : SS) (q : Nat → Bool) (i : Nat) : Bool := decide (i < S.1.2.2) && q i
theorem qln_t {S : SS} {q : Nat → Bool} {i : Nat} (h : i < S.1.2.2) : qln S q i = q i := by
  unfold qln
  rw [decide_eq_true h, Bool.true_and]
theorem qln_f {S : SS} {q : Nat → Bool} {i : Nat} (h : ¬ i < S.1.2.2) : qln S q i = false := by
  unfold qln
  rw [decide_eq_false h, Bool.false_and]
theorem qln_cnt {S : SS} {q : Nat → Bool} {n : Nat} (h : S.1.2.2 ≤ n) : cnt (qln S q) n = cnt q S.1.2.2 := by
  rw [cnt_beyond (n := S.1.2.2) (fun i h1 _ => qln_f (by omega)) h]
  exact cnt_congr (fun i hi => qln_t hi)
theorem qln_any {S : SS} {q : Nat → Bool} {n : Nat} (h : S.1.2.2 ≤ n) : (∃ i, i < n ∧ qln S q i = true) ↔ ∃ i, i < S.1.2.2 ∧ q i = true := by
  constructor
  · rintro ⟨i, h1, h2⟩
    by_cases hi : i < S.1.2.2
    · exact ⟨i, hi, by rw [qln_t hi] at h2; exact h2⟩
    · rw [qln_f hi] at h2; cases h2
  · rintro ⟨i, h1, h2⟩
    exact ⟨i, by omega, by rw [qln_t h1]; exact h2⟩
section P32
variable {μ : Mem} {x y : Nat} {ad : Nat → Nat → Nat} {am : Nat → Nat} {S : SS}
theorem c_isAt (h : BP μ x ad S) {i : Nat} (hi : i < S.1.2.2) (p b : Int32) : f_X2_isAt μ (ad 4 i) p b = some (if qAt S p b i = true then 1 else 0) := by
  simp only [f_X2_isAt, h.t6 hi, h.t0 hi, h.t1 hi, obs, qAt, decide_eq_true_eq]
  by_cases h1 : S.2 11 i = 0
  · rw [if_pos h1, if_neg (fun z => z.1 h1)]
  · by_cases h2 : S.2 5 i = p
    · by_cases h3 : S.2 6 i = b
      · rw [if_neg h1, if_pos h2, if_pos h3, if_pos ⟨h1, h2, h3⟩]
      · rw [if_neg h1, if_pos h2, if_neg h3, if_neg (fun z => h3 z.2.2)]
    · rw [if_neg h1, if_neg h2, if_neg (fun z => h2 z.2.1)]
theorem m_isAt (h : MP μ y am S) (hI : S.1.2.2 ≤ 120) {i : Nat} (hi : i < S.1.2.2) (p b : Int32) : f_X5_isAt μ y (nI i) p b = some (if qAt S p b i = true then 1 else 0) := by
  simp only [f_X5_isAt, h.q13, h.q4, h.q5, h.a13 hi hI, h.a4 hi hI, h.a5 hi hI, obs, qAt, decide_eq_true_eq]
  by_cases h1 : S.2 11 i = 0
  · rw [if_pos h1, if1, if_neg (fun z => z.1 h1)]
  · rw [if_neg h1, if0]
    by_cases h2 : S.2 5 i = p
    · by_cases h3 : S.2 6 i = b
      · rw [if_pos h2, if_pos h3, if_pos ⟨h1, h2, h3⟩]
      · rw [if_pos h2, if_neg h3, if_neg (fun z => h3 z.2.2)]
    · rw [if_neg h2, if_neg (fun z => h2 z.2.1)]
theorem c_countInBar (h : BP μ x ad S) (hI : S.1.2.2 ≤ 120) (p b : Int32) : f_X4_countInBar μ x p b = some (nI (cnt (qAt S p b) S.1.2.2)) := by
  unfold f_X4_countInBar
  refine (lp_cnt (F := f_X4_countInBar_L5 μ x p b (fun z _ => some z)) (k := fun z _ => some z) (q := qln S (qAt S p b)) (N := 120) ?_ ?_ (m := 200) (by decide)).trans ?_
  · intro n i c hi
    simp only [f_X4_countInBar_L5, h.q2, obs, h.n2, if_neg (nI_ge hi (by decide)), h.l2 hi]
    by_cases hn : i < S.1.2.2
    · rw [qln_t hn]
      simp only [if_pos hn, onl_s, h.chN hn, obs, c_isAt h hn]
      by_cases hq : qAt S p b i = true
      · simp only [if_pos hq, if1]
      · simp only [if_neg hq, if0, ift]
    · rw [qln_f hn]
      simp only [if_neg hn, onl_n]
      rfl
  · intro n c
    simp only [f_X4_countInBar_L5, h.q2, obs, h.n2, if_pos (nI_le (Nat.le_refl 120) (by decide))]
  · rw [qln_cnt hI]
theorem m_many (h : MP μ y am S) (hI : S.1.2.2 ≤ 120) (p b : Int32) : f_X5_many μ y p b = some (nI (cnt (qAt S p b) S.1.2.2)) := by
  unfold f_X5_many
  refine lp_cnt (F := f_X5_many_L5 μ y p b (fun z _ => some z)) (k := fun z _ => some z) (q := qAt S p b) (N := S.1.2.2) ?_ ?_ (m := 200) (by omega)
  · intro n i c hi
    simp only [f_X5_many_L5, h.i17, obs, if_neg (nI_ge hi (by omega)), h.ch, m_isAt h hI hi]
    by_cases hq : qAt S p b i = true
    · simp only [if_pos hq, if1]
    · simp only [if_neg hq, if0, ift, Int32.add_zero]
  · intro n c
    simp only [f_X5_many_L5, h.i17, obs, if_pos (nI_le (Nat.le_refl S.1.2.2) (by omega))]
theorem c_countOfPart (h : BP μ x ad S) (hI : S.1.2.2 ≤ 120) (p : Int32) : f_X4_countOfPart μ x p = some (nI (cnt (qPt S p) S.1.2.2)) := by
  unfold f_X4_countOfPart
  refine (lp_cnt (F := f_X4_countOfPart_L4 μ x p (fun z _ => some z)) (k := fun z _ => some z) (q := qln S (qPt S p)) (N := 120) ?_ ?_ (m := 200) (by decide)).trans ?_
  · intro n i c hi
    simp only [f_X4_countOfPart_L4, h.q2, obs, h.n2, if_neg (nI_ge hi (by decide)), h.l2 hi]
    by_cases hn : i < S.1.2.2
    · rw [qln_t hn]
      simp only [if_pos hn, onl_s, h.t6 hn, h.t0 hn, obs, qPt, decide_eq_true_eq]
      by_cases h1 : S.2 11 i = 0
      · rw [if_pos h1, if_neg (fun z => z.1 h1)]
      · by_cases h2 : S.2 5 i = p
        · rw [if_neg h1, if_pos h2, if_pos ⟨h1, h2⟩]
        · rw [if_neg h1, if_neg h2, if_neg (fun z => h2 z.2)]
    · rw [qln_f hn]
      simp only [if_neg hn, onl_n]
      rfl
  · intro n c
    simp only [f_X4_countOfPart_L4, h.q2, obs, h.n2, if_pos (nI_le (Nat.le_refl 120) (by decide))]
  · rw [qln_cnt hI]
theorem m_manyOf (h : MP μ y am S) (hI : S.1.2.2 ≤ 120) (p : Int32) : f_X5_manyOf μ y p = some (nI (cnt (qPt S p) S.1.2.2)) := by
  unfold f_X5_manyOf
  refine lp_cnt (F := f_X5_manyOf_L4 μ y p (fun z _ => some z)) (k := fun z _ => some z) (q := qPt S p) (N := S.1.2.2) ?_ ?_ (m := 200) (by omega)
  · intro n i c hi
    simp only [f_X5_manyOf_L4, h.i17, h.q13, h.q4, obs, if_neg (nI_ge hi (by omega)), h.a13 hi hI, h.a4 hi hI, qPt, decide_eq_true_eq, Int32.add_zero]
    by_cases h1 : S.2 11 i = 0
    · rw [if_pos h1, if1, if_neg (fun z => z.1 h1)]
    · rw [if_neg h1, if0]
      by_cases h2 : S.2 5 i = p
      · rw [if_pos h2, if_pos ⟨h1, h2⟩]
      · rw [if_neg h2, if_neg (fun z => h2 z.2)]
  · intro n c
    simp only [f_X5_manyOf_L4, h.i17, obs, if_pos (nI_le (Nat.le_refl S.1.2.2) (by omega))]
theorem c_hasVoice (h : BP μ x ad S) (hI : S.1.2.2 ≤ 120) (p b v : Int32) : f_X4_hasVoice μ x p b v = some (if ∃ i, i < S.1.2.2 ∧ (qAt S p b i && decide (S.2 7 i = v)) = true then 1 else 0) := by
  unfold f_X4_hasVoice
  refine (lp_any (F := f_X4_hasVoice_L3 μ x p b v (fun _ => some 0)) (r := some 1) (z := some 0) (q := qln S (fun i => qAt S p b i && decide (S.2 7 i = v))) (N := 120) ?_ ?_ (m := 200) (by decide)).trans ?_
  · intro n i hi
    simp only [f_X4_hasVoice_L3, h.q2, obs, h.n2, if_neg (nI_ge hi (by decide)), h.l2 hi]
    by_cases hn : i < S.1.2.2
    · rw [qln_t hn]
      simp only [if_pos hn, onl_s, h.chN hn, obs, c_isAt h hn, h.t2 hn, Bool.and_eq_true, decide_eq_true_eq]
      by_cases hq : qAt S p b i = true
      · simp only [if_pos hq, if1]
        by_cases h2 : S.2 7 i = v
        · rw [if_pos h2, if_pos ⟨hq, h2⟩]
        · rw [if_neg h2, if_neg (fun z => h2 z.2)]
      · simp only [if_neg hq, if0, ift]
        rw [if_neg (fun z => hq z.1)]
    · rw [qln_f hn]
      simp only [if_neg hn, onl_n]
      rfl
  · intro n
    simp only [f_X4_hasVoice_L3, h.q2, obs, h.n2, if_pos (nI_le (Nat.le_refl 120) (by decide))]
  · by_cases he : ∃ i, i < S.1.2.2 ∧ (qAt S p b i && decide (S.2 7 i = v)) = true
    · rw [if_pos he, if_pos ((qln_any hI).mpr he)]
    · rw [if_neg he, if_neg (fun z => he ((qln_any hI).mp z))]
theorem c_meets (h : BP μ x ad S) (hI : S.1.2.2 ≤ 120) {a : Nat} {p b v t n : Int32} (h0 : getI μ 4 0 a = some p) (h1 : getI μ 4 1 a = some b) (h2 : getI μ 4 2 a = some v) (h3 : getI μ 4 3 a = some t) (e : Int32) (he : ∀ i, i < S.1.2.2 → (ad 4 i = a ↔ nI i = e)) :
    f_X4_meetsAnother μ x (some a) n = some (if ∃ i, i < S.1.2.2 ∧ (decide (nI i ≠ e) && qMt S p b v t n i) = true then 1 else 0) := by
  unfold f_X4_meetsAnother
  refine (lp_any (F := f_X4_meetsAnother_L2 μ x (some a) n (fun _ => some 0)) (r := some 1) (z := some 0) (q := qln S (fun i => decide (nI i ≠ e) && qMt S p b v t n i)) (N := 120) ?_ ?_ (m := 200) (by decide)).trans ?_
  · intro m i hi
    simp only [f_X4_meetsAnother_L2, h.q2, obs, h.n2, if_neg (nI_ge hi (by decide)), h.l2 hi]
    by_cases hn : i < S.1.2.2
    · rw [qln_t hn]
      simp only [if_pos hn, onl_s, h.chN hn, obs, c_isAt h hn, h0, h1, h2, h3, h.t2 hn, f_X2_sharesTicks, h.t3 hn, h.t4 hn, qMt, Bool.and_eq_true, decide_eq_true_eq, Option.some.injEq]
      by_cases g0 : ad 4 i = a
      · rw [if_pos g0, if_neg (fun z => z.1 ((he i hn).mp g0))]
      · rw [if_neg g0]
        have g0' : nI i ≠ e := fun z => g0 ((he i hn).mpr z)
        by_cases hq : qAt S p b i = true
        · simp only [if_pos hq, if1]
          by_cases g2 : S.2 7 i = v
          · rw [if_pos g2]
            by_cases g3 : t + n ≤ S.2 8 i
            · simp only [if_pos g3, obs, if0, ift]
              rw [if_neg (fun z => z.2.1.2 g3)]
            · by_cases g4 : S.2 8 i + S.2 9 i ≤ t
              · simp only [if_neg g3, if_pos g4, obs, if0, ift]
                rw [if_neg (fun z => z.2.2 g4)]
              · simp only [if_neg g3, if_neg g4, obs, if1]
                rw [if_pos ⟨g0', ⟨⟨hq, g2⟩, g3⟩, g4⟩]
          · rw [if_neg g2, if_neg (fun z => g2 z.2.1.1.2)]
        · simp only [if_neg hq, if0, ift]
          rw [if_neg (fun z => hq z.2.1.1.1)]
    · rw [qln_f hn]
      simp only [if_neg hn, onl_n]
      rfl
  · intro m
    simp only [f_X4_meetsAnother_L2, h.q2, obs, h.n2, if_pos (nI_le (Nat.le_refl 120) (by decide))]
  · by_cases he : ∃ i, i < S.1.2.2 ∧ (decide (nI i ≠ e) && qMt S p b v t n i) = true
    · rw [if_pos he, if_pos ((qln_any hI).mpr he)]
    · rw [if_neg he, if_neg (fun z => he ((qln_any hI).mp z))]
theorem m_isTaken (h : MP μ y am S) (hI : S.1.2.2 ≤ 120) (p b v t n e : Int32) : f_X5_isTaken μ y p b v t n e = some (if ∃ i, i < S.1.2.2 ∧ (decide (nI i ≠ e) && qMt S p b v t n i) = true then 1 else 0) := by
  unfold f_X5_isTaken
  refine (lp_any (F := f_X5_isTaken_L3 μ y p b v t n e (fun _ => some 0)) (r := some 1) (z := some 0) (q := fun i => decide (nI i ≠ e) && qMt S p b v t n i) (N := S.1.2.2) ?_ ?_ (m := 200) (by omega)).trans ?_
  · intro m i hi
    simp only [f_X5_isTaken_L3, h.i17, obs, if_neg (nI_ge hi (by omega)), h.ch, m_isAt h hI hi, h.q6, h.q7, h.q8, h.a6 hi hI, h.a7 hi hI, h.a8 hi hI, qMt, Bool.and_eq_true, decide_eq_true_eq]
    by_cases g0 : nI i = e
    · rw [if_pos g0, if_neg (fun z => z.1 g0)]
    · rw [if_neg g0]
      by_cases hq : qAt S p b i = true
      · simp only [if_pos hq, if1]
        by_cases g2 : S.2 7 i = v
        · rw [if_pos g2]
          by_cases g3 : t + n ≤ S.2 8 i
          · rw [if_pos g3, if_neg (fun z => z.2.1.2 g3)]
          · by_cases g4 : S.2 8 i + S.2 9 i ≤ t
            · rw [if_neg g3, if_pos g4, if_neg (fun z => z.2.2 g4)]
            · rw [if_neg g3, if_neg g4, if_pos ⟨g0, ⟨⟨hq, g2⟩, g3⟩, g4⟩]
        · rw [if_neg g2, if_neg (fun z => g2 z.2.1.1.2)]
      · simp only [if_neg hq, if0, ift]
        rw [if_neg (fun z => hq z.2.1.1.1)]
  · intro m
    simp only [f_X5_isTaken_L3, h.i17, obs, if_pos (nI_le (Nat.le_refl S.1.2.2) (by omega))]
  · split <;> rfl
end P32
