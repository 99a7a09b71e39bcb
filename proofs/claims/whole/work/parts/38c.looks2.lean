section P38c
variable {μ ν : Mem} {x y : Nat} {ad : Nat → Nat → Nat} {am : Nat → Nat} {S : SS}
/-- of a part's number: it was copied, it wasn't, or there is none -/
theorem part_cases (S : SS) (v : Int32) : (∃ i : Nat, i < S.1.1 ∧ v = nI i ∧ S.2 1 i ≠ 0) ∨ (∃ i : Nat, i < S.1.1 ∧ v = nI i ∧ S.2 1 i = 0) ∨ ¬ ∃ i : Nat, i < S.1.1 ∧ v = nI i := by
  by_cases hp : ∃ j : Nat, j < S.1.1 ∧ v = nI j
  · obtain ⟨j, hj, e⟩ := hp
    by_cases h : S.2 1 j = 0
    · exact Or.inr (Or.inl ⟨j, hj, e, h⟩)
    · exact Or.inl ⟨j, hj, e, h⟩
  · exact Or.inr (Or.inr hp)
theorem kc_y (h : BP μ x ad S) (hI : Inv S) {p : Nat} (hp : p < S.1.1) (g : S.2 1 p ≠ 0) : f_X4_knownCopy μ x (nI p) = some (.inr ()) := by
  simp only [f_X4_knownCopy, h.ch, obs, kp_hit h hI hp, sml_r, h.p1 hp, if_neg g]
theorem kc_n (h : BP μ x ad S) (hI : Inv S) {p : Nat} (hp : p < S.1.1) (g : S.2 1 p = 0) : f_X4_knownCopy μ x (nI p) = some (.inl 2) := by
  simp only [f_X4_knownCopy, h.ch, obs, kp_hit h hI hp, sml_r, h.p1 hp, if_pos g]
theorem kc_x (h : BP μ x ad S) {v : Int32} (hv : ¬ ∃ p : Nat, p < S.1.1 ∧ v = nI p) : f_X4_knownCopy μ x v = some (.inl 3) := by
  simp only [f_X4_knownCopy, h.ch, obs, kp_miss h hv, sml_l]
theorem nc_y (h : MP ν y am S) (hI : Inv S) {p : Nat} (hp : p < S.1.1) (g : S.2 1 p ≠ 0) : f_X5_isNotCopied ν y (nI p) = some (0, sI ν 7 0 y 0) := by
  simp only [f_X5_isNotCopied, h.ch, obs, nop_hit h hI hp, bi2_s, ift, (h.s0 0).q14, (h.s0 0).a14 hp hI.1.1, if_neg g, h.g0, if_pos le00]
theorem nc_n (h : MP ν y am S) (hI : Inv S) {p : Nat} (hp : p < S.1.1) (g : S.2 1 p = 0) : f_X5_isNotCopied ν y (nI p) = some (1, sI ν 7 0 y 2) := by
  simp only [f_X5_isNotCopied, h.ch, obs, nop_hit h hI hp, bi2_s, ift, (h.s0 0).q14, (h.s0 0).a14 hp hI.1.1, if_pos g, h.ch0, m_fails (h.s0 0), s0_s0, h.g0, if_neg (show ¬ (2 : Int32) ≤ 0 by decide)]
theorem nc_x (h : MP ν y am S) (hI : Inv S) {v : Int32} (hv : ¬ ∃ p : Nat, p < S.1.1 ∧ v = nI p) : f_X5_isNotCopied ν y v = some (1, sI ν 7 0 y 1) := by
  simp only [f_X5_isNotCopied, h.ch, obs, nop_miss h hI hv, bi2_s, if1, h.g0, if_neg le10]
theorem o_differences (h : BP μ x ad S) (hI : Inv S) (v : Int32) : ∃ A, f_X4_differences μ x v = some A ∧ Vw S S [3, 2] A (fun ν y => f_X5_differences ν y v) := by
  rcases part_cases S v with ⟨i, hi, rfl, g⟩ | ⟨i, hi, rfl, g⟩ | g
  · refine ⟨.inr (nI (cnt (qDp S (nI i)) S.1.2.2)), by simp only [f_X4_differences, h.ch, obs, kc_y h hI hi g, sml_r, c_touched h hI], Vw.look (fun ν y am hM => ⟨_, 0, ?_, Ag.v _⟩)⟩
    simp only [f_X5_differences, hM.ch, obs, nc_y hM hI hi g, bi2_s, ift, hM.ch0, m_differs (hM.s0 0) hI]
  · refine ⟨.inl 2, by simp only [f_X4_differences, h.ch, obs, kc_n h hI hi g, sml_l], Vw.look (fun ν y am hM => ⟨0, 2, ?_, Ag.x (by decide)⟩)⟩
    simp only [f_X5_differences, hM.ch, obs, nc_n hM hI hi g, bi2_s, if1]
  · refine ⟨.inl 3, by simp only [f_X4_differences, h.ch, obs, kc_x h g, sml_l], Vw.look (fun ν y am hM => ⟨0, 1, ?_, Ag.x (by decide)⟩)⟩
    simp only [f_X5_differences, hM.ch, obs, nc_x hM hI g, bi2_s, if1]
theorem o_differencesByComparing (h : BP μ x ad S) (hI : Inv S) (v : Int32) : ∃ A, f_X4_differencesByComparing μ x v = some A ∧ Vw S S [3, 2] A (fun ν y => f_X5_differencesByComparing ν y v) := by
  rcases part_cases S v with ⟨i, hi, rfl, g⟩ | ⟨i, hi, rfl, g⟩ | g
  · refine ⟨.inr (nI (cnt (qDp S (nI i)) S.1.2.2)), by simp only [f_X4_differencesByComparing, h.ch, obs, kc_y h hI hi g, sml_r, c_compared h hI.1.2.2], Vw.look (fun ν y am hM => ⟨_, 0, ?_, Ag.v _⟩)⟩
    simp only [f_X5_differencesByComparing, f_X5_differences, hM.ch, obs, nc_y hM hI hi g, bi2_s, ift, hM.ch0, m_differs (hM.s0 0) hI]
  · refine ⟨.inl 2, by simp only [f_X4_differencesByComparing, h.ch, obs, kc_n h hI hi g, sml_l], Vw.look (fun ν y am hM => ⟨0, 2, ?_, Ag.x (by decide)⟩)⟩
    simp only [f_X5_differencesByComparing, f_X5_differences, hM.ch, obs, nc_n hM hI hi g, bi2_s, if1]
  · refine ⟨.inl 3, by simp only [f_X4_differencesByComparing, h.ch, obs, kc_x h g, sml_l], Vw.look (fun ν y am hM => ⟨0, 1, ?_, Ag.x (by decide)⟩)⟩
    simp only [f_X5_differencesByComparing, f_X5_differences, hM.ch, obs, nc_x hM hI g, bi2_s, if1]
theorem o_copied (h : BP μ x ad S) (hI : Inv S) (v : Int32) : ∃ A, f_X4_copied μ x v = some A ∧ Vw S S [4, 2] A (fun ν y => f_X5_copied ν y v) := by
  by_cases hv : ∃ j : Nat, j < S.1.2.2 ∧ v = nI j
  · obtain ⟨i, hi, rfl⟩ := hv
    have h120 := hI.1.2.2
    obtain ⟨p, b, hp, hb, e1, e2⟩ := hI.at hi
    have hbt : ∀ ν : Mem, f_X5_isBetween ν (nI i) 0 (nI S.1.2.2 - 1) = some 1 := fun ν => btw_nI ν hi (by omega)
    by_cases g1 : S.2 1 p = 0
    · refine ⟨.inl 2, by simp only [f_X4_copied, h.ch, obs, nson_hit h hi h120, onl_s, h.t0 hi, e1, pson_hit h hp hI.1.1, h.p1 hp, if_pos g1], Vw.look (fun ν y am hM => ⟨0, 2, ?_, Ag.x (by decide)⟩)⟩
      simp only [f_X5_copied, hM.p0, obs, (hM.s0 0).i17, hbt, if1, (hM.s0 0).q14, (hM.s0 0).q4, (hM.s0 0).a4 hi h120, e1, (hM.s0 0).a14 hp hI.1.1, if_pos g1, hM.ch0, m_fails (hM.s0 0), bi2_s, s0_s0]
    · by_cases g2 : S.2 12 i = 0
      · refine ⟨.inl 2, by simp only [f_X4_copied, h.ch, obs, nson_hit h hi h120, onl_s, h.t0 hi, e1, pson_hit h hp hI.1.1, h.p1 hp, if_neg g1, h.t7 hi, if_pos g2], Vw.look (fun ν y am hM => ⟨0, 2, ?_, Ag.x (by decide)⟩)⟩
        simp only [f_X5_copied, hM.p0, obs, (hM.s0 0).i17, hbt, if1, (hM.s0 0).q14, (hM.s0 0).q4, (hM.s0 0).a4 hi h120, e1, (hM.s0 0).a14 hp hI.1.1, if_neg g1, (hM.s0 0).q10, (hM.s0 0).a10 hi h120, if_pos g2, ift, hM.ch0, m_fails (hM.s0 0), bi2_s, s0_s0]
      · have g3 : ¬ S.2 13 i = 0 := fun z => by
          obtain ⟨-, -, -, -, -, -, -, h12, hcl, -, -⟩ := hI.2.2.2.1 i hi
          have h9 := hcl (h12.resolve_left g2)
          rw [z] at h9
          exact absurd h9 (by decide)
        refine ⟨.inr (S.2 14 i + S.2 0 p), by simp only [f_X4_copied, h.ch, obs, nson_hit h hi h120, onl_s, h.t0 hi, e1, pson_hit h hp hI.1.1, h.p1 hp, if_neg g1, h.t7 hi, if_neg g2, h.t9 hi, h.p0 hp], Vw.look (fun ν y am hM => ⟨_, 0, ?_, Ag.v _⟩)⟩
        simp only [f_X5_copied, hM.p0, obs, (hM.s0 0).i17, hbt, if1, (hM.s0 0).q14, (hM.s0 0).q4, (hM.s0 0).a4 hi h120, e1, (hM.s0 0).a14 hp hI.1.1, if_neg g1, (hM.s0 0).q10, (hM.s0 0).a10 hi h120, if_neg g2, if_neg g3, (hM.s0 0).q11, (hM.s0 0).a11 hi h120, (hM.s0 0).q1, (hM.s0 0).a1 hp hI.1.1]
  · refine ⟨.inl 4, by simp only [f_X4_copied, h.ch, obs, nson_miss h hv, onl_n], Vw.look (fun ν y am hM => ⟨0, 1, ?_, Ag.x (by decide)⟩)⟩
    simp only [f_X5_copied, hM.p0, obs, (hM.s0 0).i17, btw_no _ (show S.1.2.2 < 2 ^ 31 from by have := hI.1.2.2; omega) hv, ift, hM.ch0, m_fails (hM.s0 0), bi2_s, s0_s0]
theorem o_ticks (h : BP μ x ad S) (hI : Inv S) : ∃ v : Int64, f_X4_ticks μ x = some v ∧ ∀ (ν : Mem) (y : Nat) (am : Nat → Nat), MP ν y am S → f_X5_ticks ν y = some (v, sI ν 7 0 y 0) := by
  refine ⟨_, c_ticks h hI.1.2.2, fun ν y am hM => ?_⟩
  simp only [f_X5_ticks, hM.p0, obs, m_ticksL (hM.s0 0) hI.1.2.2]
/-- the sum of at most n pitches -/
theorem sum_small (hI : Inv S) (p : Int32) : ∀ n, n ≤ S.1.2.2 → ∃ a : Nat, a ≤ 96 * n ∧ fold9 (gSum S p) 0 n = nI a := by
  intro n
  induction n with
  | zero => intro _; exact ⟨0, Nat.le_refl _, rfl⟩
  | succ n ih =>
    intro hn
    obtain ⟨a, ha, e⟩ := ih (by omega)
    obtain ⟨-, -, -, -, -, ⟨h1, h2⟩, -⟩ := hI.2.2.2.1 n (by omega)
    obtain ⟨u, hu, e1⟩ := rng9 (x := S.2 10 n) 0 96 (by decide) (by decide) (by omega) h2
    have e3 : S.2 10 n = nI u := by rw [e1, show nI 0 = 0 from rfl, Int32.sub_zero]
    show ∃ a : Nat, a ≤ 96 * (n + 1) ∧ gSum S p n (fold9 (gSum S p) 0 n) = nI a
    rw [e]
    unfold gSum
    by_cases hc : S.2 11 n ≠ 0 ∧ S.2 5 n = p
    · rw [if_pos hc, e3, nI_add]
      exact ⟨a + u, by omega, rfl⟩
    · rw [if_neg hc]
      exact ⟨a, by omega, rfl⟩
theorem o_meanPitch (h : BP μ x ad S) (hI : Inv S) (v : Int32) : ∃ A : Nat ⊕ UInt64, f_X4_meanPitch μ x v = some A ∧ (∀ z, A = .inr z → vf_n64 z) ∧ Vw S S [3, 6] A (fun ν y => f_X5_meanPitch ν y v) := by
  have h120 := hI.1.2.2
  by_cases hp : ∃ j : Nat, j < S.1.1 ∧ v = nI j
  · obtain ⟨p, hp, rfl⟩ := hp
    have hc := cnt_le (qPt S (nI p)) S.1.2.2
    by_cases h0 : cnt (qPt S (nI p)) S.1.2.2 = 0
    · refine ⟨.inl 6, by simp only [f_X4_meanPitch, h.ch, obs, kp_hit h hI hp, sml_r, c_countOfPart h h120, h0, if_neg (show ¬ (0 : Int32) < nI 0 by decide)], fun z hz => (nomatch hz), Vw.look (fun ν y am hM => ⟨FP.i2d 0, 2, ?_, Ag.x (by decide)⟩)⟩
      simp only [f_X5_meanPitch, hM.ch, obs, nop_hit hM hI hp, bi2_s, ift, hM.ch0, m_manyOf (hM.s0 0) h120, h0, if_pos (show nI 0 = 0 from rfl), m_fails (hM.s0 0), s0_s0]
    · obtain ⟨a, ha, e⟩ := sum_small hI (nI p) S.1.2.2 (Nat.le_refl _)
      have hz : (0 : Int32) < nI (cnt (qPt S (nI p)) S.1.2.2) := nI_lt (a := 0) (by omega) (by omega)
      have hg := gn_mean (a := a) (c := cnt (qPt S (nI p)) S.1.2.2) (by omega) (by omega) (by omega)
      refine ⟨.inr (FP.ddiv (FP.i2d (nI a)) (FP.i2d (nI (cnt (qPt S (nI p)) S.1.2.2)))), ?_, fun z hz => by cases hz; exact gn64_ok hg, Vw.look (fun ν y am hM => ⟨_, 0, ?_, Ag.v _⟩)⟩
      · simp only [f_X4_meanPitch, h.ch, obs, kp_hit h hI hp, sml_r, c_countOfPart h h120, if_pos hz, c_sum h h120, e, hg]
      · simp only [f_X5_meanPitch, hM.ch, obs, nop_hit hM hI hp, bi2_s, ift, hM.ch0, m_manyOf (hM.s0 0) h120, if_neg (nI_ne0 (n := cnt (qPt S (nI p)) S.1.2.2) (by omega) (by omega)), m_sumL (hM.s0 0) h120, e, hg]
  · refine ⟨.inl 3, by simp only [f_X4_meanPitch, h.ch, obs, kp_miss h hp, sml_l], fun z hz => (nomatch hz), Vw.look (fun ν y am hM => ⟨FP.dconst0, 1, ?_, Ag.x (by decide)⟩)⟩
    simp only [f_X5_meanPitch, hM.ch, obs, nop_miss hM hI hp, bi2_s, if1]
theorem o_restShare (h : BP μ x ad S) (hI : Inv S) (v : Int32) : ∃ A : Nat ⊕ UInt32, f_X4_restShare μ x v = some A ∧ (∀ z, A = .inr z → vf_n64 (FP.f2d z)) ∧ Vw S S [3, 6] A (fun ν y => f_X5_restShare ν y v) := by
  have h14 := hI.1.2.1
  by_cases hp : ∃ j : Nat, j < S.1.1 ∧ v = nI j
  · obtain ⟨p, hp, rfl⟩ := hp
    have hc := cnt_le (qEm S (nI p)) S.1.2.1
    by_cases h0 : S.1.2.1 = 0
    · refine ⟨.inl 6, by simp only [f_X4_restShare, h.ch, obs, kp_hit h hI hp, sml_r, h.i5, h0, if_neg (show ¬ (0 : Int32) < nI 0 by decide)], fun z hz => (nomatch hz), Vw.look (fun ν y am hM => ⟨FP.i2f 0, 2, ?_, Ag.x (by decide)⟩)⟩
      simp only [f_X5_restShare, hM.ch, obs, nop_hit hM hI hp, bi2_s, ift, (hM.s0 0).i16, h0, if_pos (show nI 0 = 0 from rfl), hM.ch0, m_fails (hM.s0 0), s0_s0]
    · have hz : (0 : Int32) < nI S.1.2.1 := nI_lt (a := 0) (by omega) (by omega)
      have hg := gn_share (S.1.2.1 - 1) (by omega) (cnt (qEm S (nI p)) S.1.2.1) (by omega)
      rw [show S.1.2.1 - 1 + 1 = S.1.2.1 from by omega] at hg
      obtain ⟨g1, g2⟩ := hg
      refine ⟨.inr (FP.fdiv (FP.i2f (nI (cnt (qEm S (nI p)) S.1.2.1))) (FP.i2f (nI S.1.2.1))), ?_, fun z hz => by cases hz; exact gn64_ok g2, Vw.look (fun ν y am hM => ⟨_, 0, ?_, Ag.v _⟩)⟩
      · simp only [f_X4_restShare, h.ch, obs, kp_hit h hI hp, sml_r, h.i5, if_pos hz, c_empty h hI, g1]
      · simp only [f_X5_restShare, hM.ch, obs, nop_hit hM hI hp, bi2_s, ift, (hM.s0 0).i16, if_neg (nI_ne0 (n := S.1.2.1) (by omega) (by omega)), m_emptyL (hM.s0 0) hI, g1]
  · refine ⟨.inl 3, by simp only [f_X4_restShare, h.ch, obs, kp_miss h hp, sml_l], fun z hz => (nomatch hz), Vw.look (fun ν y am hM => ⟨FP.fconst0, 1, ?_, Ag.x (by decide)⟩)⟩
    simp only [f_X5_restShare, hM.ch, obs, nop_miss hM hI hp, bi2_s, if1]
end P38c
