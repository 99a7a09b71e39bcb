section P39d
variable {μ ν : Mem} {x y : Nat} {ad : Nat → Nat → Nat} {am : Nat → Nat} {S : SS}
/-- a number of the class's own: page 0, turn 1, cue 2 -/
theorem BP.setX {j : Nat} {v : Int32} (b : BP μ x ad S) (hj : j < 3) : BP (sI μ 6 (7 + j) x v) x ad (upS S 16 j v) := by
  obtain ⟨h1, ⟨i4, i5, i6, i7, i8, i9⟩, h3, h4, h5, ⟨p, br, nt⟩, hj'⟩ := b
  have hq : ∀ k i9 : Nat, mI μ 6 (7 + k) x = S.2 16 k → mI (sI μ 6 (7 + j) x v) 6 (7 + k) x = (upS S 16 j v).2 16 k := by
    intro k _ e
    by_cases ek : k = j
    · subst ek
      exact mI_sI_h.trans (upS_hit _ _ _ _).symm
    · exact ((mI_sI_k (by omega)).trans e).trans (upS_ne _ _ (fun z => ek z.2)).symm
  refine ⟨h1, ⟨(mI_sI_k (by omega)).trans i4, (mI_sI_k (by omega)).trans i5, (mI_sI_k (by omega)).trans i6, hq 0 0 i7, hq 1 0 i8, hq 2 0 i9⟩, h3, h4, h5, ⟨fun i hi => ?_, fun i hi => ?_, fun i hi => ⟨(nt i hi).1, fun k hk => ?_⟩⟩, hj'⟩
  · obtain ⟨o, e0, e1⟩ := p i hi
    exact ⟨o, ((mI_sI_c (by decide)).trans e0).trans (upS_ne _ _ (by omega)).symm, ((mI_sI_c (by decide)).trans e1).trans (upS_ne _ _ (by omega)).symm⟩
  · obtain ⟨o, e0, e1, e2⟩ := br i hi
    refine ⟨o, ((mI_sI_c (by decide)).trans e0).trans ?_, ((mI_sI_c (by decide)).trans e1).trans (upS_ne _ _ (by omega)).symm, ((mI_sI_c (by decide)).trans e2).trans (upS_ne _ _ (by omega)).symm⟩
    rw [upS_ne _ _ (by omega)]
  · exact ((mI_sI_c (by decide)).trans ((nt i hi).2 k hk)).trans (upS_ne _ _ (by omega)).symm
theorem MP.setX {j : Nat} {v : Int32} (b : MP ν y am S) (hj : j < 3) : MP (sI ν 7 (18 + j) y v) y am (upS S 16 j v) := by
  obtain ⟨y9, hq, ⟨i15, i16, i17, i18, i19, i20⟩, hp, hp0, hb, hn, hn0⟩ := b
  have hz : ∀ k : Nat, mI ν 7 (18 + k) y = S.2 16 k → mI (sI ν 7 (18 + j) y v) 7 (18 + k) y = (upS S 16 j v).2 16 k := by
    intro k e
    by_cases ek : k = j
    · subst ek
      exact mI_sI_h.trans (upS_hit _ _ _ _).symm
    · exact ((mI_sI_k (by omega)).trans e).trans (upS_ne _ _ (fun z => ek z.2)).symm
  refine ⟨y9, hq, ⟨(mI_sI_k (by omega)).trans i15, (mI_sI_k (by omega)).trans i16, (mI_sI_k (by omega)).trans i17, hz 0 i18, hz 1 i19, hz 2 i20⟩,
    fun p h1 => ⟨(hp p h1).1.trans (upS_ne _ _ (by omega)).symm, (hp p h1).2.trans (upS_ne _ _ (by omega)).symm⟩, hp0,
    fun b h1 => ⟨(hb b h1).1.trans (upS_ne _ _ (by omega)).symm, (hb b h1).2.1.trans (upS_ne _ _ (by omega)).symm, (hb b h1).2.2.trans (upS_ne _ _ (by omega)).symm⟩,
    fun i h1 => ⟨fun k' h2 => ((hn i h1).1 k' h2).trans (upS_ne _ _ (by omega)).symm, ?_, ?_, ?_⟩, hn0⟩
  · rw [upS_ne _ _ (by omega), upS_ne _ _ (by omega)]
    exact (hn i h1).2.1
  · rw [upS_ne _ _ (by omega)]
    exact (hn i h1).2.2.1
  · rw [upS_ne _ _ (by omega)]
    exact (hn i h1).2.2.2
theorem Inv.knob {j : Nat} {v : Int32} (hI : Inv S) (h : (j = 0 ∧ 1 ≤ v.toInt ∧ v.toInt ≤ 60) ∨ (j = 1 ∧ 0 ≤ v.toInt ∧ v.toInt ≤ 64) ∨ (j = 2 ∧ 1 ≤ v.toInt ∧ v.toInt ≤ 14)) : Inv (upS S 16 j v) := by
  obtain ⟨h1, h2, h3, h4, ⟨p0, p1, p2⟩⟩ := hI
  have hz : ∀ c i, c ≠ 16 → (upS S 16 j v).2 c i = S.2 c i := fun c i h => upS_ne _ _ (fun z => h z.1)
  refine ⟨h1, fun p hp => ?_, fun b hb => ?_, fun i hi => ?_, ?_, ?_, ?_⟩
  · rw [hz 0 p (by decide), hz 1 p (by decide)]
    exact h2 p hp
  · rw [hz 2 b (by decide), hz 3 b (by decide), hz 4 b (by decide)]
    exact h3 b hb
  · have hz2 : ∀ b, (upS S 16 j v).2 2 b = S.2 2 b := fun b => hz 2 b (by decide)
    rw [hz 5 i (by decide), hz 6 i (by decide), hz 7 i (by decide), hz 8 i (by decide), hz 9 i (by decide), hz 10 i (by decide), hz 11 i (by decide), hz 12 i (by decide), hz 13 i (by decide), hz 14 i (by decide), hz 15 i (by decide)]
    simp only [hz2]
    exact h4 i hi
  · by_cases e : 0 = j
    · subst e
      rw [upS_hit]
      omega
    · rw [upS_ne _ _ (fun z => e z.2)]
      exact p0
  · by_cases e : 1 = j
    · subst e
      rw [upS_hit]
      omega
    · rw [upS_ne _ _ (fun z => e z.2)]
      exact p1
  · by_cases e : 2 = j
    · subst e
      rw [upS_hit]
      omega
    · rw [upS_ne _ _ (fun z => e z.2)]
      exact p2
theorem BP.pX (h : BP μ x ad S) {k : Nat} {v : Int32} : putI μ 6 k x v = some (sI μ 6 k x v) := putI_ok h.1.1
theorem BP.fX (h : BP μ x ad S) {k : Nat} {v : Int32} : FR 0 μ (sI μ 6 k x v) := FR.sI (by rw [h.1.1.2]; rfl)
theorem MP.pY (h : MP ν y am S) {k : Nat} {v : Int32} : putI ν 7 k y v = some (sI ν 7 k y v) := putI_ok h.1
theorem MP.fY (h : MP ν y am S) {k : Nat} {v : Int32} : FR 1 ν (sI ν 7 k y v) := FR.sI (by rw [h.1.2]; rfl)
theorem o_setPage (h : BP μ x ad S) (hI : Inv S) (v : Int32) : Op μ x S [1] (f_X4_setPage μ x v) (fun ν y => f_X5_setPage ν y v) := by
  by_cases h1 : v < 1
  · refine Op.no h hI (.inl 1) (if_pos h1) 1 (Ag.x (by decide)) (fun ν y am hM => ?_)
    simp only [f_X5_setPage, hM.p0, obs, btw_lo _ h1, ift, hM.ch0, m_fails (hM.s0 0), bi2_s, s0_s0]
  · by_cases h2 : v ≤ 60
    · have h3 : ¬ 60 < v := Int32.not_lt.mpr h2
      have b1 : 1 ≤ v.toInt := by
        rw [Int32.lt_iff_toInt_lt, show (1 : Int32).toInt = 1 from by decide] at h1
        omega
      have b2 : v.toInt ≤ 60 := by
        rw [Int32.le_iff_toInt_le, show (60 : Int32).toInt = 60 from by decide] at h2
        exact h2
      refine ⟨.inr (S.2 16 0), _, _, by simp only [f_X4_setPage, if_neg h1, if_pos h2, h.i7, obs, h.pX], hI.knob (j := 0) (v := v) (by omega), ⟨ad, h.setX (j := 0) (by decide)⟩, h.fX, fun ν y am hM => ?_⟩
      refine ⟨S.2 16 0, sI (sI ν 7 0 y 0) 7 18 y v, ?_, (hM.s0 0).setX (j := 0) (by decide), (hM.f0 0).trans (hM.s0 0).fY, ?_⟩
      · simp only [f_X5_setPage, hM.p0, obs, btw_in _ h1 h3, if1, (hM.s0 0).i18, (hM.s0 0).pY]
      · rw [mI_sI_k (by decide), mI_sI_h]
        exact Ag.v _
    · have h3 : 60 < v := Int32.not_le.mp h2
      refine Op.no h hI (.inl 1) (by simp only [f_X4_setPage, if_neg h1, if_neg h2]) 1 (Ag.x (by decide)) (fun ν y am hM => ?_)
      simp only [f_X5_setPage, hM.p0, obs, btw_hi _ h3, ift, hM.ch0, m_fails (hM.s0 0), bi2_s, s0_s0]
theorem o_setTurn (h : BP μ x ad S) (hI : Inv S) (v : Int32) : Op μ x S [1] (f_X4_setTurn μ x v) (fun ν y => f_X5_setTurn ν y v) := by
  by_cases h1 : v < 0
  · refine Op.no h hI (.inl 1) (if_pos h1) 1 (Ag.x (by decide)) (fun ν y am hM => ?_)
    simp only [f_X5_setTurn, hM.p0, obs, btw_lo _ h1, ift, hM.ch0, m_fails (hM.s0 0), bi2_s, s0_s0]
  · by_cases h2 : v ≤ 64
    · have h3 : ¬ 64 < v := Int32.not_lt.mpr h2
      have b1 : 0 ≤ v.toInt := by
        rw [Int32.lt_iff_toInt_lt, show (0 : Int32).toInt = 0 from by decide] at h1
        omega
      have b2 : v.toInt ≤ 64 := by
        rw [Int32.le_iff_toInt_le, show (64 : Int32).toInt = 64 from by decide] at h2
        exact h2
      refine ⟨.inr (S.2 16 1), _, _, by simp only [f_X4_setTurn, if_neg h1, if_pos h2, h.i8, obs, h.pX], hI.knob (j := 1) (v := v) (by omega), ⟨ad, h.setX (j := 1) (by decide)⟩, h.fX, fun ν y am hM => ?_⟩
      refine ⟨S.2 16 1, sI (sI ν 7 0 y 0) 7 19 y v, ?_, (hM.s0 0).setX (j := 1) (by decide), (hM.f0 0).trans (hM.s0 0).fY, ?_⟩
      · simp only [f_X5_setTurn, hM.p0, obs, btw_in _ h1 h3, if1, (hM.s0 0).i19, (hM.s0 0).pY]
      · rw [mI_sI_k (by decide), mI_sI_h]
        exact Ag.v _
    · have h3 : 64 < v := Int32.not_le.mp h2
      refine Op.no h hI (.inl 1) (by simp only [f_X4_setTurn, if_neg h1, if_neg h2]) 1 (Ag.x (by decide)) (fun ν y am hM => ?_)
      simp only [f_X5_setTurn, hM.p0, obs, btw_hi _ h3, ift, hM.ch0, m_fails (hM.s0 0), bi2_s, s0_s0]
theorem o_setCue (h : BP μ x ad S) (hI : Inv S) (v : Int32) : Op μ x S [1] (f_X4_setCue μ x v) (fun ν y => f_X5_setCue ν y v) := by
  by_cases h1 : v < 1
  · refine Op.no h hI (.inl 1) (if_pos h1) 1 (Ag.x (by decide)) (fun ν y am hM => ?_)
    simp only [f_X5_setCue, hM.p0, obs, btw_lo _ h1, ift, hM.ch0, m_fails (hM.s0 0), bi2_s, s0_s0]
  · by_cases h2 : v ≤ 14
    · have h3 : ¬ 14 < v := Int32.not_lt.mpr h2
      have b1 : 1 ≤ v.toInt := by
        rw [Int32.lt_iff_toInt_lt, show (1 : Int32).toInt = 1 from by decide] at h1
        omega
      have b2 : v.toInt ≤ 14 := by
        rw [Int32.le_iff_toInt_le, show (14 : Int32).toInt = 14 from by decide] at h2
        exact h2
      refine ⟨.inr (S.2 16 2), _, _, by simp only [f_X4_setCue, if_neg h1, if_pos h2, h.i9, obs, h.pX], hI.knob (j := 2) (v := v) (by omega), ⟨ad, h.setX (j := 2) (by decide)⟩, h.fX, fun ν y am hM => ?_⟩
      refine ⟨S.2 16 2, sI (sI ν 7 0 y 0) 7 20 y v, ?_, (hM.s0 0).setX (j := 2) (by decide), (hM.f0 0).trans (hM.s0 0).fY, ?_⟩
      · simp only [f_X5_setCue, hM.p0, obs, btw_in _ h1 h3, if1, (hM.s0 0).i20, (hM.s0 0).pY]
      · rw [mI_sI_k (by decide), mI_sI_h]
        exact Ag.v _
    · have h3 : 14 < v := Int32.not_le.mp h2
      refine Op.no h hI (.inl 1) (by simp only [f_X4_setCue, if_neg h1, if_neg h2]) 1 (Ag.x (by decide)) (fun ν y am hM => ?_)
      simp only [f_X5_setCue, hM.p0, obs, btw_hi _ h3, ift, hM.ch0, m_fails (hM.s0 0), bi2_s, s0_s0]
end P39d
