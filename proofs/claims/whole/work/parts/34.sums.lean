section P34
variable {μ : Mem} {x y : Nat} {ad : Nat → Nat → Nat} {am : Nat → Nat} {S : SS}
def qd9 (S : SS) (i : Nat) : Bool := if S.2 11 i = 0 then decide (S.2 12 i ≠ 0) else (decide (S.2 12 i = 0) || decide (S.2 10 i ≠ S.2 14 i) || decide (S.2 9 i ≠ S.2 13 i))
def qDp (S : SS) (p : Int32) (i : Nat) : Bool := decide (S.2 5 i = p) && qd9 S i
theorem c_differs (h : BP μ x ad S) {i : Nat} (hi : i < S.1.2.2) : f_X2_differs μ (ad 4 i) = some (if qd9 S i = true then 1 else 0) := by
  simp only [f_X2_differs, h.t6 hi, h.t7 hi, h.t5 hi, h.t9 hi, h.t4 hi, h.t8 hi, obs, qd9]
  by_cases h11 : S.2 11 i = 0 <;> by_cases h12 : S.2 12 i = 0 <;> by_cases h10 : S.2 10 i = S.2 14 i <;> by_cases h9 : S.2 9 i = S.2 13 i <;> simp [h11, h12, h10, h9]
theorem qd9_touched (hI : Inv S) {i : Nat} (hi : i < S.1.2.2) (h : S.2 15 i = 0) : qd9 S i = false := by
  obtain ⟨-, -, -, -, -, -, -, -, -, -, h2⟩ := hI.2.2.2.1 i hi
  obtain ⟨e1, e2, e3⟩ := h2 h
  simp only [qd9, e1, e2, e3]
  by_cases h11 : S.2 11 i = 0 <;> simp [h11]
theorem c_compared (h : BP μ x ad S) (hI : S.1.2.2 ≤ 120) (p : Int32) : f_X4_comparedDifferences μ x p = some (nI (cnt (qDp S p) S.1.2.2)) := by
  unfold f_X4_comparedDifferences
  refine (lp_cnt (F := f_X4_comparedDifferences_L4 μ x p (fun z _ => some z)) (k := fun z _ => some z) (q := qln S (qDp S p)) (N := 120) ?_ ?_ (m := 200) (by decide)).trans ?_
  · intro n i c hi
    simp only [f_X4_comparedDifferences_L4, h.q2, obs, h.n2, if_neg (nI_ge hi (by decide)), h.l2 hi]
    by_cases hn : i < S.1.2.2
    · rw [qln_t hn]
      simp only [if_pos hn, onl_s, h.chN hn, h.t0 hn, obs, c_differs h hn, qDp, Bool.and_eq_true, decide_eq_true_eq]
      by_cases h1 : S.2 5 i = p
      · rw [if_pos h1]
        by_cases h2 : qd9 S i = true
        · rw [if_pos h2, if1, if_pos ⟨h1, h2⟩]
        · rw [if_neg h2, if0, if_neg (fun z => h2 z.2)]
      · rw [if_neg h1, if_neg (fun z => h1 z.1)]
    · rw [qln_f hn]
      simp only [if_neg hn, onl_n]
      rfl
  · intro n c
    simp only [f_X4_comparedDifferences_L4, h.q2, obs, h.n2, if_pos (nI_le (Nat.le_refl 120) (by decide))]
  · rw [qln_cnt hI]
theorem c_touched (h : BP μ x ad S) (hI : Inv S) (p : Int32) : f_X4_touchedDifferences μ x p = some (nI (cnt (qDp S p) S.1.2.2)) := by
  unfold f_X4_touchedDifferences
  refine (lp_cnt (F := f_X4_touchedDifferences_L4 μ x p (fun z _ => some z)) (k := fun z _ => some z) (q := qln S (qDp S p)) (N := 120) ?_ ?_ (m := 200) (by decide)).trans ?_
  · intro n i c hi
    simp only [f_X4_touchedDifferences_L4, h.q2, obs, h.n2, if_neg (nI_ge hi (by decide)), h.l2 hi]
    by_cases hn : i < S.1.2.2
    · rw [qln_t hn]
      simp only [if_pos hn, onl_s, h.chN hn, h.t0 hn, h.t10 hn, obs, c_differs h hn, qDp, Bool.and_eq_true, decide_eq_true_eq]
      by_cases h1 : S.2 5 i = p
      · rw [if_pos h1]
        by_cases h3 : S.2 15 i = 0
        · rw [if_pos h3, if_neg (fun z => absurd z.2 (by rw [qd9_touched hI hn h3]; decide))]
        · rw [if_neg h3]
          by_cases h2 : qd9 S i = true
          · rw [if_pos h2, if1, if_pos ⟨h1, h2⟩]
          · rw [if_neg h2, if0, if_neg (fun z => h2 z.2)]
      · rw [if_neg h1, if_neg (fun z => h1 z.1)]
    · rw [qln_f hn]
      simp only [if_neg hn, onl_n]
      rfl
  · intro n c
    simp only [f_X4_touchedDifferences_L4, h.q2, obs, h.n2, if_pos (nI_le (Nat.le_refl 120) (by decide))]
  · rw [qln_cnt hI.1.2.2]
theorem m_differs (h : MP μ y am S) (hI : Inv S) (p : Int32) : f_X5_differs μ y p = some (nI (cnt (qDp S p) S.1.2.2)) := by
  have h120 := hI.1.2.2
  unfold f_X5_differs
  refine lp_cnt (F := f_X5_differs_L4 μ y p (fun z _ => some z)) (k := fun z _ => some z) (q := qDp S p) (N := S.1.2.2) ?_ ?_ (m := 200) (by omega)
  · intro n i c hi
    obtain ⟨-, -, -, -, hlen, -, -, -, hcl, -, -⟩ := hI.2.2.2.1 i hi
    have h12 : S.2 12 i = 0 ∨ S.2 12 i = 1 := (hI.2.2.2.1 i hi).2.2.2.2.2.2.2.1
    have g9 : ¬ (0 : Int32) = S.2 9 i := fun z => by rw [← z] at hlen; exact absurd hlen (by decide)
    have g13 : ¬ S.2 12 i = 0 → ¬ S.2 13 i = 0 := fun z z2 => by
      have h9 := hcl (h12.resolve_left z)
      rw [z2] at h9
      exact absurd h9 (by decide)
    simp only [f_X5_differs_L4, h.i17, h.q4, h.q13, h.q10, h.q11, h.q8, h.q9, obs, if_neg (nI_ge hi (by omega)), h.a4 hi h120, h.a13 hi h120, h.a10 hi h120, h.a11 hi h120, h.a8 hi h120, h.a9 hi h120, qDp, qd9, Int32.add_zero]
    by_cases h1 : S.2 5 i = p
    · by_cases h11 : S.2 11 i = 0
      · by_cases h12' : S.2 12 i = 0
        · simp [h1, h11, h12']
        · simp [h1, h11, h12', g13 h12']
      · by_cases h12' : S.2 12 i = 0
        · simp [h1, h11, h12', g9]
        · by_cases e1 : S.2 9 i = S.2 13 i
          · by_cases e2 : S.2 10 i = S.2 14 i
            · simp [h1, h11, h12', e1, e2]
            · have e2' : ¬ S.2 14 i = S.2 10 i := fun z => e2 z.symm
              simp [h1, h11, h12', e1, e2, e2']
          · have e1' : ¬ S.2 13 i = S.2 9 i := fun z => e1 z.symm
            simp [h1, h11, h12', e1, e1']
    · simp [h1]
  · intro n c
    simp only [f_X5_differs_L4, h.i17, obs, if_pos (nI_le (Nat.le_refl S.1.2.2) (by omega))]
def gSum (S : SS) (p : Int32) (i : Nat) (c : Int32) : Int32 := if S.2 11 i ≠ 0 ∧ S.2 5 i = p then c + S.2 10 i else c
def gTk (S : SS) (i : Nat) (c : Int64) : Int64 := if S.2 11 i ≠ 0 then c + (S.2 9 i).toInt64 else c
theorem c_sum (h : BP μ x ad S) (hI : S.1.2.2 ≤ 120) (p : Int32) : f_X4_sumOfPitches μ x p = some (fold9 (gSum S p) 0 S.1.2.2) := by
  unfold f_X4_sumOfPitches
  refine (lp_fold (F := fun n c i => f_X4_sumOfPitches_L4 μ x p (fun z _ => some z) n c i) (k := some) (g := fun i c => if i < S.1.2.2 then gSum S p i c else c) (b := 0) (N := 120) ?_ ?_ (m := 200) (by decide)).trans ?_
  · intro n i c hi
    simp only [f_X4_sumOfPitches_L4, h.q2, obs, h.n2, if_neg (nI_ge hi (by decide)), h.l2 hi]
    by_cases hn : i < S.1.2.2
    · simp only [if_pos hn, onl_s, h.t6 hn, h.t0 hn, h.t5 hn, obs, gSum]
      by_cases h1 : S.2 11 i = 0
      · rw [if_pos h1, if_neg (fun z => z.1 h1)]
      · by_cases h2 : S.2 5 i = p
        · rw [if_neg h1, if_pos h2, if_pos ⟨h1, h2⟩]
        · rw [if_neg h1, if_neg h2, if_neg (fun z => h2 z.2)]
    · simp only [if_neg hn, onl_n]
  · intro n c
    simp only [f_X4_sumOfPitches_L4, h.q2, obs, h.n2, if_pos (nI_le (Nat.le_refl 120) (by decide))]
  · rw [fold9_beyond (n := S.1.2.2) (fun i c h1 _ => if_neg (by omega)) hI, fold9_congr (fun i c hi => if_pos hi)]
theorem c_ticks (h : BP μ x ad S) (hI : S.1.2.2 ≤ 120) : f_X4_ticks μ x = some (fold9 (gTk S) 0 S.1.2.2) := by
  unfold f_X4_ticks
  refine (lp_fold (F := fun n c i => f_X4_ticks_L4 μ x (fun z _ => some z) n c i) (k := some) (g := fun i c => if i < S.1.2.2 then gTk S i c else c) (b := 0) (N := 120) ?_ ?_ (m := 200) (by decide)).trans ?_
  · intro n i c hi
    simp only [f_X4_ticks_L4, h.q2, obs, h.n2, if_neg (nI_ge hi (by decide)), h.l2 hi]
    by_cases hn : i < S.1.2.2
    · simp only [if_pos hn, onl_s, h.t6 hn, h.t4 hn, obs, gTk]
      by_cases h1 : S.2 11 i = 0
      · rw [if_pos h1, if_neg (fun z => z h1)]
      · rw [if_neg h1, if_pos h1]
    · simp only [if_neg hn, onl_n]
  · intro n c
    simp only [f_X4_ticks_L4, h.q2, obs, h.n2, if_pos (nI_le (Nat.le_refl 120) (by decide))]
  · rw [fold9_beyond (n := S.1.2.2) (fun i c h1 _ => if_neg (by omega)) hI, fold9_congr (fun i c hi => if_pos hi)]
theorem m_ticksL (h : MP μ y am S) (hI : S.1.2.2 ≤ 120) (K : Int64 → Int32 → Option (Int64 × Mem)) : f_X5_ticks_L9 μ y K 200 0 0 = K (fold9 (gTk S) 0 S.1.2.2) (nI S.1.2.2) := by
  refine lp_fold (F := fun n c i => f_X5_ticks_L9 μ y K n c i) (k := fun c => K c (nI S.1.2.2)) (g := gTk S) (b := 0) (N := S.1.2.2) ?_ ?_ (m := 200) (by omega)
  · intro n i c hi
    simp only [f_X5_ticks_L9, h.i17, h.q13, h.q8, obs, if_neg (nI_ge hi (by omega)), h.a13 hi hI, h.a8 hi hI, gTk, Int64.add_zero]
    by_cases h1 : S.2 11 i = 0
    · rw [if_pos h1, if1, if_neg (fun z => z h1)]
    · rw [if_neg h1, if0, if_pos h1]
  · intro n c
    simp only [f_X5_ticks_L9, h.i17, obs, if_pos (nI_le (Nat.le_refl S.1.2.2) (by omega))]
theorem m_sumL (h : MP μ y am S) (hI : S.1.2.2 ≤ 120) (p z9 : Int32) (K : Int32 → Int32 → Option (UInt64 × Mem)) : f_X5_meanPitch_L32 μ y p z9 K 200 0 0 = K (fold9 (gSum S p) 0 S.1.2.2) (nI S.1.2.2) := by
  refine lp_fold (F := fun n c i => f_X5_meanPitch_L32 μ y p z9 K n c i) (k := fun c => K c (nI S.1.2.2)) (g := gSum S p) (b := 0) (N := S.1.2.2) ?_ ?_ (m := 200) (by omega)
  · intro n i c hi
    simp only [f_X5_meanPitch_L32, h.i17, h.q13, h.q4, h.q9, obs, if_neg (nI_ge hi (by omega)), h.a13 hi hI, h.a4 hi hI, h.a9 hi hI, gSum, Int32.add_zero]
    by_cases h1 : S.2 11 i = 0
    · rw [if_pos h1, if1, if_neg (fun z => z.1 h1)]
    · rw [if_neg h1, if0]
      by_cases h2 : S.2 5 i = p
      · rw [if_pos h2, if_pos ⟨h1, h2⟩]
      · rw [if_neg h2, if_neg (fun z => h2 z.2)]
  · intro n c
    simp only [f_X5_meanPitch_L32, h.i17, obs, if_pos (nI_le (Nat.le_refl S.1.2.2) (by omega))]
def qEm (S : SS) (p : Int32) (b : Nat) : Bool := decide (nI (cnt (qAt S p (nI b)) S.1.2.2) = 0)
theorem c_empty (h : BP μ x ad S) (hI : Inv S) (p : Int32) : f_X4_countOfEmptyBars μ x p = some (nI (cnt (qEm S p) S.1.2.1)) := by
  have h14 := hI.1.2.1
  unfold f_X4_countOfEmptyBars
  refine lp_cnt (F := f_X4_countOfEmptyBars_L4 μ x p (fun z _ => some z)) (k := fun z _ => some z) (q := qEm S p) (N := S.1.2.1) ?_ ?_ (m := 200) (by omega)
  · intro n i c hi
    simp only [f_X4_countOfEmptyBars_L4, h.i5, h.ch, obs, if_neg (nI_ge hi (by omega)), c_countInBar h hI.1.2.2, qEm, decide_eq_true_eq]
    by_cases h1 : nI (cnt (qAt S p (nI i)) S.1.2.2) = 0
    · rw [if_pos h1, if_pos h1]
    · rw [if_neg h1, if_neg h1]
  · intro n c
    simp only [f_X4_countOfEmptyBars_L4, h.i5, obs, if_pos (nI_le (Nat.le_refl S.1.2.1) (by omega))]
theorem m_emptyL (h : MP μ y am S) (hI : Inv S) (p : Int32) (K : Int32 → Int32 → Option (UInt32 × Mem)) : f_X5_restShare_L28 μ y p K 200 0 0 = K (nI (cnt (qEm S p) S.1.2.1)) (nI S.1.2.1) := by
  have h14 := hI.1.2.1
  refine lp_cnt (F := f_X5_restShare_L28 μ y p K) (k := K) (q := qEm S p) (N := S.1.2.1) ?_ ?_ (m := 200) (by omega)
  · intro n i c hi
    simp only [f_X5_restShare_L28, h.i16, h.ch, obs, if_neg (nI_ge hi (by omega)), m_many h hI.1.2.2, qEm, decide_eq_true_eq, Int32.add_zero]
    by_cases h1 : nI (cnt (qAt S p (nI i)) S.1.2.2) = 0
    · rw [if_pos h1, if_pos h1]
    · rw [if_neg h1, if_neg h1]
  · intro n c
    simp only [f_X5_restShare_L28, h.i16, obs, if_pos (nI_le (Nat.le_refl S.1.2.1) (by omega))]
def enc9 (a b : Bool) : Int32 := (if a = true then 1 else 0) ||| (if b = true then 2 else 0)
def qV (S : SS) (p b v : Int32) (i : Nat) : Bool := qAt S p b i && decide (S.2 7 i = v)
theorem m_dividedL (h : MP μ y am S) (hI : Inv S) (p b : Int32) (K : Int32 → Int32 → Option (Int32 × Mem)) : f_X5_isDivided_L16 μ y p b K 200 0 0 = K (enc9 (anyN (qV S p b 0) S.1.2.2) (anyN (qV S p b 1) S.1.2.2)) (nI S.1.2.2) := by
  have h120 := hI.1.2.2
  refine (lp_fold (F := fun n c i => f_X5_isDivided_L16 μ y p b K n c i) (k := fun c => K c (nI S.1.2.2)) (g := fun i c => if qAt S p b i = true then c ||| (1 + S.2 7 i) else c ||| 0) (b := 0) (N := S.1.2.2) ?_ ?_ (m := 200) (by omega)).trans ?_
  · intro n i c hi
    simp only [f_X5_isDivided_L16, h.i17, h.ch, h.q6, obs, if_neg (nI_ge hi (by omega)), m_isAt h h120 hi, h.a6 hi h120]
    by_cases hq : qAt S p b i = true
    · simp only [if_pos hq, if1]
    · simp only [if_neg hq, if0, ift]
  · intro n c
    simp only [f_X5_isDivided_L16, h.i17, obs, if_pos (nI_le (Nat.le_refl S.1.2.2) (by omega))]
  · have h2 : ∀ n, n ≤ S.1.2.2 → fold9 (fun i c => if qAt S p b i = true then c ||| (1 + S.2 7 i) else c ||| 0) 0 n = enc9 (anyN (qV S p b 0) n) (anyN (qV S p b 1) n) := by
      intro n
      induction n with
      | zero => intro _; exact (show (0 : Int32) = enc9 false false by decide)
      | succ n ih =>
        intro hn
        have hv : S.2 7 n = 0 ∨ S.2 7 n = 1 := (hI.2.2.2.1 n (by omega)).2.2.1
        show (if qAt S p b n = true then fold9 _ 0 n ||| (1 + S.2 7 n) else fold9 _ 0 n ||| 0) = enc9 (anyN (qV S p b 0) n || qV S p b 0 n) (anyN (qV S p b 1) n || qV S p b 1 n)
        rw [ih (by omega)]
        unfold qV
        generalize anyN (fun i => qAt S p b i && decide (S.2 7 i = 0)) n = A
        generalize anyN (fun i => qAt S p b i && decide (S.2 7 i = 1)) n = B
        generalize qAt S p b n = q
        rcases hv with e | e <;> rw [e] <;> cases A <;> cases B <;> cases q <;> decide
    rw [h2 _ (Nat.le_refl _)]
end P34
