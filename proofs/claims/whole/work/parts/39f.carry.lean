/-! COPIES of the reference; copyOut, carry -/
section P39f
variable {μ ν : Mem} {x y : Nat} {ad : Nat → Nat → Nat} {am : Nat → Nat} {S : SS}
def upC (S : SS) (i : Nat) (a b c d : Int32) : SS := upS (upS (upS (upS S 12 i a) 14 i b) 13 i c) 15 i d
theorem upC_o (S : SS) {i : Nat} (a b c d : Int32) {k j : Nat} (h : ¬ (12 ≤ k ∧ k ≤ 15 ∧ j = i)) : (upC S i a b c d).2 k j = S.2 k j := by
  unfold upC
  rw [upS_ne _ _ (by omega), upS_ne _ _ (by omega), upS_ne _ _ (by omega), upS_ne _ _ (by omega)]
theorem upC_12 (S : SS) {i : Nat} (a b c d : Int32) : (upC S i a b c d).2 12 i = a := by
  unfold upC
  rw [upS_ne _ _ (by omega), upS_ne _ _ (by omega), upS_ne _ _ (by omega), upS_hit]
theorem upC_14 (S : SS) {i : Nat} (a b c d : Int32) : (upC S i a b c d).2 14 i = b := by
  unfold upC
  rw [upS_ne _ _ (by omega), upS_ne _ _ (by omega), upS_hit]
theorem upC_13 (S : SS) {i : Nat} (a b c d : Int32) : (upC S i a b c d).2 13 i = c := by
  unfold upC
  rw [upS_ne _ _ (by omega), upS_hit]
/-- the reference's copy of one note -/
theorem MP.setC {i : Nat} {a b c d w : Int32} (h : MP ν y am S) (hi : i < S.1.2.2) (hw : w = if a = 0 then 0 else c) : MP (sR (sR ν 39 (am 10) i w) 40 (am 11) i b) y am (upC S i a b c d) := by
  obtain ⟨y9, hq, ⟨i15, i16, i17, i18, i19, i20⟩, hp, hp0, hb, hn, hn0⟩ := h
  have hr : ∀ k a' j, k ≠ 39 → k ≠ 40 → mR (sR (sR ν 39 (am 10) i w) 40 (am 11) i b) k a' j = mR ν k a' j := fun k a' j h1 h2 => (mR_sR_k h2).trans (mR_sR_k h1)
  have ho : ∀ k j, ¬ (12 ≤ k ∧ k ≤ 15 ∧ j = i) → (upC S i a b c d).2 k j = S.2 k j := fun k j z => upC_o S a b c d z
  refine ⟨y9, hq, ⟨i15, i16, i17, i18.trans (ho 16 0 (by omega)).symm, i19.trans (ho 16 1 (by omega)).symm, i20.trans (ho 16 2 (by omega)).symm⟩,
    fun p h1 => ⟨((hr 30 _ p (by decide) (by decide)).trans (hp p h1).1).trans (ho 0 p (by omega)).symm, ((hr 43 _ p (by decide) (by decide)).trans (hp p h1).2).trans (ho 1 p (by omega)).symm⟩, fun p h1 h2 => (hr 43 _ p (by decide) (by decide)).trans (hp0 p h1 h2),
    fun j h1 => ⟨((hr 31 _ j (by decide) (by decide)).trans (hb j h1).1).trans (ho 2 j (by omega)).symm, ((hr 32 _ j (by decide) (by decide)).trans (hb j h1).2.1).trans (ho 3 j (by omega)).symm, ((hr 41 _ j (by decide) (by decide)).trans (hb j h1).2.2).trans (ho 4 j (by omega)).symm⟩,
    fun j h1 => ⟨fun k' h2 => ((hr (33 + k') _ j (by omega) (by omega)).trans ((hn j h1).1 k' h2)).trans (ho (5 + k') j (by omega)).symm, ?_, ?_, ?_⟩, fun j h1 h2 => ?_⟩
  · by_cases e : j = i
    · subst e
      rw [upC_12, upC_13]
      exact (mR_sR_k (by decide)).trans (mR_sR_h.trans hw)
    · rw [ho 12 j (by omega), ho 13 j (by omega)]
      exact ((mR_sR_k (by decide)).trans (mR_sR_i e)).trans (hn j h1).2.1
  · by_cases e : j = i
    · subst e
      rw [upC_14]
      exact mR_sR_h
    · rw [ho 14 j (by omega)]
      exact ((mR_sR_i e).trans (mR_sR_k (by decide))).trans (hn j h1).2.2.1
  · rw [ho 11 j (by omega)]
    exact (hr 42 _ j (by decide) (by decide)).trans (hn j h1).2.2.2
  · have e : j ≠ i := by
      have h1 : S.1.2.2 ≤ j := h1
      omega
    have z := hn0 j h1 h2
    exact ⟨((mR_sR_k (by decide)).trans (mR_sR_i e)).trans z.1, ((mR_sR_i e).trans (mR_sR_k (by decide))).trans z.2.1, (hr 42 _ j (by decide) (by decide)).trans z.2.2⟩
theorem MP.setP {i : Nat} {v : Int32} (b : MP ν y am S) (hi : i < S.1.1) : MP (sR ν 43 (am 14) i v) y am (upS S 1 i v) := by
  obtain ⟨y9, hq, ⟨i15, i16, i17, i18, i19, i20⟩, hp, hp0, hb, hn, hn0⟩ := b
  refine ⟨y9, hq, ⟨i15, i16, i17, i18.trans (upS_ne _ _ (by omega)).symm, i19.trans (upS_ne _ _ (by omega)).symm, i20.trans (upS_ne _ _ (by omega)).symm⟩,
    fun p h1 => ⟨((mR_sR_k (by decide)).trans (hp p h1).1).trans (upS_ne _ _ (by omega)).symm, ?_⟩, fun p h1 h2 => ?_,
    fun j h1 => ⟨((mR_sR_k (by decide)).trans (hb j h1).1).trans (upS_ne _ _ (by omega)).symm, ((mR_sR_k (by decide)).trans (hb j h1).2.1).trans (upS_ne _ _ (by omega)).symm, ((mR_sR_k (by decide)).trans (hb j h1).2.2).trans (upS_ne _ _ (by omega)).symm⟩,
    fun j h1 => ⟨fun k' h2 => ((mR_sR_k (by omega)).trans ((hn j h1).1 k' h2)).trans (upS_ne _ _ (by omega)).symm, ?_, ?_, ?_⟩, fun j h1 h2 => ⟨(mR_sR_k (by decide)).trans (hn0 j h1 h2).1, (mR_sR_k (by decide)).trans (hn0 j h1 h2).2.1, (mR_sR_k (by decide)).trans (hn0 j h1 h2).2.2⟩⟩
  · by_cases e : p = i
    · subst e
      exact mR_sR_h.trans (upS_hit _ _ _ _).symm
    · exact ((mR_sR_i e).trans (hp p h1).2).trans (upS_ne _ _ (by omega)).symm
  · have e : p ≠ i := by
      have h1 : S.1.1 ≤ p := h1
      omega
    exact (mR_sR_i e).trans (hp0 p h1 h2)
  · rw [upS_ne _ _ (by omega), upS_ne _ _ (by omega)]
    exact (mR_sR_k (by decide)).trans (hn j h1).2.1
  · rw [upS_ne _ _ (by omega)]
    exact (mR_sR_k (by decide)).trans (hn j h1).2.2.1
  · rw [upS_ne _ _ (by omega)]
    exact (mR_sR_k (by decide)).trans (hn j h1).2.2.2
theorem Inv.part {i : Nat} {v : Int32} (hI : Inv S) (hv : v = 0 ∨ v = 1) : Inv (upS S 1 i v) := by
  obtain ⟨h1, h2, h3, h4, h5⟩ := hI
  have hz : ∀ c j, c ≠ 1 → (upS S 1 i v).2 c j = S.2 c j := fun c j h => upS_ne _ _ (fun z => h z.1)
  refine ⟨h1, fun p hp => ?_, fun b hb => ?_, fun j hj => ?_, ?_⟩
  · rw [hz 0 p (by decide)]
    refine ⟨(h2 p hp).1, ?_⟩
    by_cases e : p = i
    · subst e
      rw [upS_hit]
      exact hv
    · rw [upS_ne _ _ (fun z => e z.2)]
      exact (h2 p hp).2
  · rw [hz 2 b (by decide), hz 3 b (by decide), hz 4 b (by decide)]
    exact h3 b hb
  · have hz2 : ∀ b, (upS S 1 i v).2 2 b = S.2 2 b := fun b => hz 2 b (by decide)
    rw [hz 5 j (by decide), hz 6 j (by decide), hz 7 j (by decide), hz 8 j (by decide), hz 9 j (by decide), hz 10 j (by decide), hz 11 j (by decide), hz 12 j (by decide), hz 13 j (by decide), hz 14 j (by decide), hz 15 j (by decide)]
    simp only [hz2]
    exact h4 j hj
  · rw [hz 16 0 (by decide), hz 16 1 (by decide), hz 16 2 (by decide)]
    exact h5
theorem Inv.cp (hI : Inv S) (p : Int32) (n : Nat) : Inv (cpS S p n) := by
  obtain ⟨h1, h2, h3, h4, h5⟩ := hI
  have hz : ∀ c j, ¬ (12 ≤ c ∧ c ≤ 15) → (cpS S p n).2 c j = S.2 c j := fun c j h => cpS_lo S p n h j
  refine ⟨h1, fun q hq => ?_, fun b hb => ?_, fun j hj => ?_, ?_⟩
  · rw [hz 0 q (by decide), hz 1 q (by decide)]
    exact h2 q hq
  · rw [hz 2 b (by decide), hz 3 b (by decide), hz 4 b (by decide)]
    exact h3 b hb
  · have hz2 : ∀ b, (cpS S p n).2 2 b = S.2 2 b := fun b => hz 2 b (by decide)
    rw [hz 5 j (by decide), hz 6 j (by decide), hz 7 j (by decide), hz 8 j (by decide), hz 9 j (by decide), hz 10 j (by decide), hz 11 j (by decide)]
    simp only [hz2]
    obtain ⟨g1, g2, g3, g4, g5, g6, g7, g8, g9, g10, g11⟩ := h4 j hj
    refine ⟨g1, g2, g3, g4, g5, g6, g7, ?_⟩
    by_cases e : j < n ∧ j < S.1.2.2 ∧ S.2 5 j = p
    · have e12 : (cpS S p n).2 12 j = S.2 11 j := by
        show (if _ then _ else _) = _
        rw [if_pos e]
        rfl
      have e13 : (cpS S p n).2 13 j = S.2 9 j := by
        show (if _ then _ else _) = _
        rw [if_pos e]
        rfl
      have e14 : (cpS S p n).2 14 j = S.2 10 j := by
        show (if _ then _ else _) = _
        rw [if_pos e]
        rfl
      have e15 : (cpS S p n).2 15 j = 0 := by
        show (if _ then _ else _) = _
        rw [if_pos e]
        rfl
      rw [e12, e13, e14, e15]
      exact ⟨g7, fun _ => g5, Or.inl rfl, fun _ => ⟨rfl, rfl, rfl⟩⟩
    · have e1 : ∀ c, (cpS S p n).2 c j = S.2 c j := fun c => if_neg e
      rw [e1 12, e1 13, e1 14, e1 15]
      exact ⟨g8, g9, g10, g11⟩
  · rw [hz 16 0 (by decide), hz 16 1 (by decide), hz 16 2 (by decide)]
    exact h5
theorem cpS_all (S : SS) (p : Int32) {n : Nat} (h : S.1.2.2 ≤ n) : cpS S p n = cpS S p S.1.2.2 := by
  show (S.1, _) = (S.1, _)
  refine congrArg (Prod.mk S.1) ?_
  funext c j
  have e : (j < n ∧ j < S.1.2.2 ∧ S.2 5 j = p) ↔ (j < S.1.2.2 ∧ j < S.1.2.2 ∧ S.2 5 j = p) := ⟨fun z => ⟨z.2.1, z.2⟩, fun z => ⟨by omega, z.2⟩⟩
  simp only [e]
theorem m_takesL (h : MP ν y am S) (hI : Inv S) (p : Int32) : ∃ ν', f_X5_takes_L9 y p (fun z _ => some ((), z)) 200 ν 0 = some ((), ν') ∧ MP ν' y am (cpS S p 120) ∧ FR 1 ν ν' ∧ mI ν' = mI ν := by
  have h120 := hI.1.2.2
  have step : ∀ n i m, i < S.1.2.2 → (MP m y am (cpS S p i) ∧ FR 1 ν m ∧ mI m = mI ν) → ∃ m', (MP m' y am (cpS S p (i + 1)) ∧ FR 1 ν m' ∧ mI m' = mI ν) ∧ f_X5_takes_L9 y p (fun z _ => some ((), z)) (n + 1) m (nI i) = f_X5_takes_L9 y p (fun z _ => some ((), z)) n m' (nI i + 1) := by
    intro n i m hi hJ
    obtain ⟨hb, hf, hmi⟩ := hJ
    have ha : ∀ c, (cpS S p i).2 c i = S.2 c i := fun c => cpS_at S p i c (Nat.le_refl i)
    have hi' : i < (cpS S p i).1.2.2 := hi
    have hle : (cpS S p i).1.2.2 ≤ 120 := h120
    have g4 := hb.a4 hi' hle
    rw [ha 5] at g4
    by_cases hp : S.2 5 i = p
    · have g13 := hb.a13 hi' hle
      rw [ha 11] at g13
      have g8 := hb.a8 hi' hle
      rw [ha 9] at g8
      by_cases h0 : S.2 11 i = 0
      · rw [if_pos h0] at g13
        have c1 := hb.w10 (i := i) (v := 0) (by omega)
        have m1 : ∀ k, mI (sR m 39 (am 10) i 0) k = mI m k := fun _ => rfl
        have hq : ok9 (sR m 39 (am 10) i 0) 40 (am 11) ∧ mN (sR m 39 (am 10) i 0) (am 11) = 120 := hb.ok (k := 11) (by decide)
        have c2 : ast (sR m 39 (am 10) i 0) (am 11) (nI i) (S.2 10 i) = some (sR (sR m 39 (am 10) i 0) 40 (am 11) i (S.2 10 i)) := ast_ok hq.1 hq.2 (by decide) (by decide) (by omega) (by decide)
        have hqm : ∀ k, ((1 ≤ k ∧ k ≤ 14) ∨ k = 21 ∨ k = 22 ∨ k = 24 ∨ k = 25 ∨ k = 26) → getQ (sR m 39 (am 10) i 0) 7 k y = some (some (am k)) := fun k hk => hb.mq hk
        have hq9 : ok9 (sR m 39 (am 10) i 0) 38 (am 9) ∧ mN (sR m 39 (am 10) i 0) (am 9) = 120 := hb.ok (k := 9) (by decide)
        have c3 : ald (sR m 39 (am 10) i 0) (am 9) (nI i) = some (S.2 10 i) := by
          rw [ald_ok hq9.1 hq9.2 (by decide) (by decide) (show i < 120 by omega) (by decide), mR_sR_k (by decide), ← ha 10]
          exact congrArg some ((hb.2.2.2.2.2.2.1 i hi').1 5 (by decide))
        refine ⟨sR (sR m 39 (am 10) i 0) 40 (am 11) i (S.2 10 i), ⟨?_, hf.trans ((hb.f110 (i := i) (v := 0)).trans ?_), hmi⟩, ?_⟩
        · rw [cpS_step S p ⟨hi, hp⟩]
          exact hb.setC (a := S.2 11 i) (c := S.2 9 i) (d := 0) hi' (by rw [if_pos h0])
        · exact FR.sR (by rw [hq.1.2]; rfl)
        · simp only [f_X5_takes_L9, hb.i17, obs, if_neg (nI_ge hi' (by omega)), hb.q4, g4, if_pos hp, hb.q10, hb.q13, g13, if1, c1, hqm 11 (by decide), hqm 9 (by decide), c3, c2]
      · rw [if_neg h0] at g13
        have c1 := hb.w10 (i := i) (v := S.2 9 i) (by omega)
        have hq : ok9 (sR m 39 (am 10) i (S.2 9 i)) 40 (am 11) ∧ mN (sR m 39 (am 10) i (S.2 9 i)) (am 11) = 120 := hb.ok (k := 11) (by decide)
        have c2 : ast (sR m 39 (am 10) i (S.2 9 i)) (am 11) (nI i) (S.2 10 i) = some (sR (sR m 39 (am 10) i (S.2 9 i)) 40 (am 11) i (S.2 10 i)) := ast_ok hq.1 hq.2 (by decide) (by decide) (by omega) (by decide)
        have hqm : ∀ k, ((1 ≤ k ∧ k ≤ 14) ∨ k = 21 ∨ k = 22 ∨ k = 24 ∨ k = 25 ∨ k = 26) → getQ (sR m 39 (am 10) i (S.2 9 i)) 7 k y = some (some (am k)) := fun k hk => hb.mq hk
        have hq9 : ok9 (sR m 39 (am 10) i (S.2 9 i)) 38 (am 9) ∧ mN (sR m 39 (am 10) i (S.2 9 i)) (am 9) = 120 := hb.ok (k := 9) (by decide)
        have c3 : ald (sR m 39 (am 10) i (S.2 9 i)) (am 9) (nI i) = some (S.2 10 i) := by
          rw [ald_ok hq9.1 hq9.2 (by decide) (by decide) (show i < 120 by omega) (by decide), mR_sR_k (by decide), ← ha 10]
          exact congrArg some ((hb.2.2.2.2.2.2.1 i hi').1 5 (by decide))
        refine ⟨sR (sR m 39 (am 10) i (S.2 9 i)) 40 (am 11) i (S.2 10 i), ⟨?_, hf.trans ((hb.f110 (i := i) (v := S.2 9 i)).trans ?_), hmi⟩, ?_⟩
        · rw [cpS_step S p ⟨hi, hp⟩]
          exact hb.setC (a := S.2 11 i) (c := S.2 9 i) (d := 0) hi' (by rw [if_neg h0])
        · exact FR.sR (by rw [hq.1.2]; rfl)
        · simp only [f_X5_takes_L9, hb.i17, obs, if_neg (nI_ge hi' (by omega)), hb.q4, g4, if_pos hp, hb.q10, hb.q13, g13, ift, hb.q8, g8, c1, hqm 11 (by decide), hqm 9 (by decide), c3, c2]
    · refine ⟨m, ⟨by rw [cpS_skip S p (fun z => hp z.2)]; exact hb, hf, hmi⟩, ?_⟩
      simp only [f_X5_takes_L9, hb.i17, obs, if_neg (nI_ge hi' (by omega)), hb.q4, g4, if_neg hp]
  have fin : ∀ n m, (MP m y am (cpS S p S.1.2.2) ∧ FR 1 ν m ∧ mI m = mI ν) → f_X5_takes_L9 y p (fun z _ => some ((), z)) (n + 1) m (nI S.1.2.2) = some ((), m) := by
    intro n m hJ
    have h17 : getI m 7 17 y = some (nI S.1.2.2) := hJ.1.i17
    simp only [f_X5_takes_L9, h17, obs, if_pos (nI_le (Nat.le_refl S.1.2.2) (by omega))]
  obtain ⟨m, ⟨h1, h2, h3⟩, e⟩ := lp_inv (F := fun n m i => f_X5_takes_L9 y p (fun z _ => some ((), z)) n m i) (k := fun m => some ((), m)) (J := fun i m => MP m y am (cpS S p i) ∧ FR 1 ν m ∧ mI m = mI ν) (N := S.1.2.2) step fin (m := 200) (by omega) (μ := ν) ⟨by rw [cpS_0]; exact h, FR.refl 1 ν, rfl⟩
  exact ⟨m, e, by rw [cpS_all S p h120]; exact h1, h2, h3⟩
theorem m_takes (h : MP ν y am S) (hI : Inv S) {p : Nat} (hp : p < S.1.1) : ∃ ν', f_X5_takes ν y (nI p) = some ((), ν') ∧ MP ν' y am (cpS (upS S 1 p 1) (nI p) 120) ∧ FR 1 ν ν' ∧ mI ν' = mI ν := by
  have h5 := hI.1.1
  obtain ⟨m, e, h1, h2, h3⟩ := m_takesL (h.setP (v := 1) hp) (hI.part (i := p) (Or.inr rfl)) (nI p)
  refine ⟨m, ?_, h1, h.f114.trans h2, h3⟩
  simp only [f_X5_takes, h.q14, obs, h.w14 (i := p) (by omega) (Or.inr rfl)]
  exact e
theorem BP.zP (h : BP μ x ad S) {i : Nat} {k : Nat} {v : Int32} (hi : i < S.1.1) (hv : v = 0 ∨ v = 1) : putZ μ 5 k (ad 2 i) v = some (sI μ 5 k (ad 2 i) v) := putZ_ok (h.2.2.2.2.2.1.1 i hi).1 hv
theorem o_copyOut (h : BP μ x ad S) (hI : Inv S) (v : Int32) : Op μ x S [3] (f_X4_copyOut μ x v) (fun ν y => f_X5_copyOut ν y v) := by
  by_cases hv : ∃ j : Nat, j < S.1.1 ∧ v = nI j
  · obtain ⟨p, hp, rfl⟩ := hv
    have b1 := h.setP (v := 1) hp
    have I1 := hI.part (i := p) (v := 1) (Or.inr rfl)
    obtain ⟨m, e, b2, f2⟩ := c_bring b1 I1 (nI p)
    have h120 : (cpS (upS S 1 p 1) (nI p) 120).1.2.2 ≤ 120 := hI.1.2.2
    refine ⟨.inr (nI (cnt (qPt (cpS (upS S 1 p 1) (nI p) 120) (nI p)) S.1.2.2)), m, cpS (upS S 1 p 1) (nI p) 120, ?_, I1.cp (nI p) 120, ⟨ad, b2⟩, (h.fP hp).trans f2, fun ν y am hM => ?_⟩
    · simp only [f_X4_copyOut, h.ch, obs, kp_hit h hI hp, sml_r, h.zP hp (Or.inr rfl), b1.ch, e, bi2_s, b2.ch, c_countOfPart b2 h120]
      rfl
    · obtain ⟨n, en, c1, c2, c3⟩ := m_takes (hM.s0 0) hI hp
      refine ⟨nI (cnt (qPt (cpS (upS S 1 p 1) (nI p) 120) (nI p)) S.1.2.2), n, ?_, c1, (hM.f0 0).trans c2, ?_⟩
      · simp only [f_X5_copyOut, hM.ch, obs, nop_hit hM hI hp, bi2_s, ift, hM.ch0, en, c1.ch, m_manyOf c1 h120]
        rfl
      · rw [c3, mI_sI_h]
        exact Ag.v _
  · refine Op.no h hI (.inl 3) (by simp only [f_X4_copyOut, h.ch, obs, kp_miss h hv, sml_l]) 1 (Ag.x (by decide)) (fun ν y am hM => ?_)
    simp only [f_X5_copyOut, hM.ch, obs, nop_miss hM hI hv, bi2_s, if1]
theorem upS_self {c i : Nat} {v : Int32} (e : S.2 c i = v) : upS S c i v = S := by
  show (S.1, _) = (S.1, S.2)
  refine congrArg (Prod.mk S.1) ?_
  funext c' j
  show (if c' = c ∧ j = i then v else S.2 c' j) = S.2 c' j
  split
  · rename_i z
    rw [z.1, z.2, e]
  · rfl
theorem o_carry (h : BP μ x ad S) (hI : Inv S) (v : Int32) : Op μ x S [3, 2] (f_X4_carry μ x v) (fun ν y => f_X5_carry ν y v) := by
  rcases part_cases S v with ⟨p, hp, rfl, g⟩ | ⟨p, hp, rfl, g⟩ | g
  · have e1 : S.2 1 p = 1 := by
      rcases (hI.2.1 p hp).2 with z | z
      · exact absurd z g
      · exact z
    obtain ⟨m, e, b2, f2⟩ := c_bring h hI (nI p)
    refine ⟨.inr (nI (cnt (qDp S (nI p)) S.1.2.2)), m, cpS S (nI p) 120, ?_, hI.cp (nI p) 120, ⟨ad, b2⟩, f2, fun ν y am hM => ?_⟩
    · simp only [f_X4_carry, h.ch, obs, kc_y h hI hp g, sml_r, c_touched h hI, e, bi2_s]
    · obtain ⟨n, en, c1, c2, c3⟩ := m_takes (hM.s0 0) hI hp
      rw [upS_self e1] at c1
      refine ⟨nI (cnt (qDp S (nI p)) S.1.2.2), n, ?_, c1, (hM.f0 0).trans c2, ?_⟩
      · simp only [f_X5_carry, hM.ch, obs, nc_y hM hI hp g, bi2_s, ift, hM.ch0, m_differs (hM.s0 0) hI, en]
      · rw [c3, mI_sI_h]
        exact Ag.v _
  · refine Op.no h hI (.inl 2) (by simp only [f_X4_carry, h.ch, obs, kc_n h hI hp g, sml_l]) 2 (Ag.x (by decide)) (fun ν y am hM => ?_)
    simp only [f_X5_carry, hM.ch, obs, nc_n hM hI hp g, bi2_s, if1]
  · refine Op.no h hI (.inl 3) (by simp only [f_X4_carry, h.ch, obs, kc_x h g, sml_l]) 1 (Ag.x (by decide)) (fun ν y am hM => ?_)
    simp only [f_X5_carry, hM.ch, obs, nc_x hM hI g, bi2_s, if1]
end P39f
