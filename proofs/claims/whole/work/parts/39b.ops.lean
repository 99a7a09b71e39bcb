section P39b
variable {μ ν : Mem} {x y : Nat} {ad : Nat → Nat → Nat} {am : Nat → Nat} {S : SS}
theorem mkind_10 {k : Nat} (hk : (1 ≤ k ∧ k ≤ 14) ∨ k = 21 ∨ k = 22 ∨ k = 24 ∨ k = 25 ∨ k = 26) : 10 ≤ mkind k := by
  unfold mkind
  split
  · omega
  · split <;> omega
theorem mlen_s (k : Nat) : mlen k < 2 ^ 31 := by
  unfold mlen
  split
  · decide
  · split
    · decide
    · split <;> decide
theorem MP.wA (h : MP ν y am S) {k i : Nat} {v : Int32} (hk : (1 ≤ k ∧ k ≤ 14) ∨ k = 21 ∨ k = 22 ∨ k = 24 ∨ k = 25 ∨ k = 26) (ht : aT (mkind k) = 0) (hi : i < mlen k) : ast ν (am k) (nI i) v = some (sR ν (mkind k) (am k) i v) := ast_ok (h.ok hk).1 (h.ok hk).2 (mkind_10 hk) ht hi (mlen_s k)
theorem MP.wZ (h : MP ν y am S) {k i : Nat} {v : Int32} (hk : (1 ≤ k ∧ k ≤ 14) ∨ k = 21 ∨ k = 22 ∨ k = 24 ∨ k = 25 ∨ k = 26) (ht : aT (mkind k) = 1) (hi : i < mlen k) (hv : v = 0 ∨ v = 1) : zst ν (am k) (nI i) v = some (sR ν (mkind k) (am k) i v) := zst_ok (h.ok hk).1 (h.ok hk).2 (mkind_10 hk) ht hi (mlen_s k) hv
theorem MP.fR (h : MP ν y am S) {k i : Nat} {v : Int32} (hk : (1 ≤ k ∧ k ≤ 14) ∨ k = 21 ∨ k = 22 ∨ k = 24 ∨ k = 25 ∨ k = 26) : FR 1 ν (sR ν (mkind k) (am k) i v) := FR.sR (by rw [(h.ok hk).1.2]; exact mkind_m hk)
theorem MP.w1 (h : MP ν y am S) {i : Nat} {v : Int32} (hi : i < 5) : ast ν (am 1) (nI i) v = some (sR ν 30 (am 1) i v) := h.wA (k := 1) (by decide) (by decide) hi
theorem MP.f101 (h : MP ν y am S) {i : Nat} {v : Int32} : FR 1 ν (sR ν 30 (am 1) i v) := h.fR (k := 1) (by decide)
theorem MP.w2 (h : MP ν y am S) {i : Nat} {v : Int32} (hi : i < 14) : ast ν (am 2) (nI i) v = some (sR ν 31 (am 2) i v) := h.wA (k := 2) (by decide) (by decide) hi
theorem MP.f102 (h : MP ν y am S) {i : Nat} {v : Int32} : FR 1 ν (sR ν 31 (am 2) i v) := h.fR (k := 2) (by decide)
theorem MP.w3 (h : MP ν y am S) {i : Nat} {v : Int32} (hi : i < 14) : ast ν (am 3) (nI i) v = some (sR ν 32 (am 3) i v) := h.wA (k := 3) (by decide) (by decide) hi
theorem MP.f103 (h : MP ν y am S) {i : Nat} {v : Int32} : FR 1 ν (sR ν 32 (am 3) i v) := h.fR (k := 3) (by decide)
theorem MP.w4 (h : MP ν y am S) {i : Nat} {v : Int32} (hi : i < 120) : ast ν (am 4) (nI i) v = some (sR ν 33 (am 4) i v) := h.wA (k := 4) (by decide) (by decide) hi
theorem MP.f104 (h : MP ν y am S) {i : Nat} {v : Int32} : FR 1 ν (sR ν 33 (am 4) i v) := h.fR (k := 4) (by decide)
theorem MP.w5 (h : MP ν y am S) {i : Nat} {v : Int32} (hi : i < 120) : ast ν (am 5) (nI i) v = some (sR ν 34 (am 5) i v) := h.wA (k := 5) (by decide) (by decide) hi
theorem MP.f105 (h : MP ν y am S) {i : Nat} {v : Int32} : FR 1 ν (sR ν 34 (am 5) i v) := h.fR (k := 5) (by decide)
theorem MP.w6 (h : MP ν y am S) {i : Nat} {v : Int32} (hi : i < 120) : ast ν (am 6) (nI i) v = some (sR ν 35 (am 6) i v) := h.wA (k := 6) (by decide) (by decide) hi
theorem MP.f106 (h : MP ν y am S) {i : Nat} {v : Int32} : FR 1 ν (sR ν 35 (am 6) i v) := h.fR (k := 6) (by decide)
theorem MP.w7 (h : MP ν y am S) {i : Nat} {v : Int32} (hi : i < 120) : ast ν (am 7) (nI i) v = some (sR ν 36 (am 7) i v) := h.wA (k := 7) (by decide) (by decide) hi
theorem MP.f107 (h : MP ν y am S) {i : Nat} {v : Int32} : FR 1 ν (sR ν 36 (am 7) i v) := h.fR (k := 7) (by decide)
theorem MP.w8 (h : MP ν y am S) {i : Nat} {v : Int32} (hi : i < 120) : ast ν (am 8) (nI i) v = some (sR ν 37 (am 8) i v) := h.wA (k := 8) (by decide) (by decide) hi
theorem MP.f108 (h : MP ν y am S) {i : Nat} {v : Int32} : FR 1 ν (sR ν 37 (am 8) i v) := h.fR (k := 8) (by decide)
theorem MP.w9 (h : MP ν y am S) {i : Nat} {v : Int32} (hi : i < 120) : ast ν (am 9) (nI i) v = some (sR ν 38 (am 9) i v) := h.wA (k := 9) (by decide) (by decide) hi
theorem MP.f109 (h : MP ν y am S) {i : Nat} {v : Int32} : FR 1 ν (sR ν 38 (am 9) i v) := h.fR (k := 9) (by decide)
theorem MP.w10 (h : MP ν y am S) {i : Nat} {v : Int32} (hi : i < 120) : ast ν (am 10) (nI i) v = some (sR ν 39 (am 10) i v) := h.wA (k := 10) (by decide) (by decide) hi
theorem MP.f110 (h : MP ν y am S) {i : Nat} {v : Int32} : FR 1 ν (sR ν 39 (am 10) i v) := h.fR (k := 10) (by decide)
theorem MP.w11 (h : MP ν y am S) {i : Nat} {v : Int32} (hi : i < 120) : ast ν (am 11) (nI i) v = some (sR ν 40 (am 11) i v) := h.wA (k := 11) (by decide) (by decide) hi
theorem MP.f111 (h : MP ν y am S) {i : Nat} {v : Int32} : FR 1 ν (sR ν 40 (am 11) i v) := h.fR (k := 11) (by decide)
theorem MP.w12 (h : MP ν y am S) {i : Nat} {v : Int32} (hi : i < 14) (hv : v = 0 ∨ v = 1) : zst ν (am 12) (nI i) v = some (sR ν 41 (am 12) i v) := h.wZ (k := 12) (by decide) (by decide) hi hv
theorem MP.f112 (h : MP ν y am S) {i : Nat} {v : Int32} : FR 1 ν (sR ν 41 (am 12) i v) := h.fR (k := 12) (by decide)
theorem MP.w13 (h : MP ν y am S) {i : Nat} {v : Int32} (hi : i < 120) (hv : v = 0 ∨ v = 1) : zst ν (am 13) (nI i) v = some (sR ν 42 (am 13) i v) := h.wZ (k := 13) (by decide) (by decide) hi hv
theorem MP.f113 (h : MP ν y am S) {i : Nat} {v : Int32} : FR 1 ν (sR ν 42 (am 13) i v) := h.fR (k := 13) (by decide)
theorem MP.w14 (h : MP ν y am S) {i : Nat} {v : Int32} (hi : i < 5) (hv : v = 0 ∨ v = 1) : zst ν (am 14) (nI i) v = some (sR ν 43 (am 14) i v) := h.wZ (k := 14) (by decide) (by decide) hi hv
theorem MP.f114 (h : MP ν y am S) {i : Nat} {v : Int32} : FR 1 ν (sR ν 43 (am 14) i v) := h.fR (k := 14) (by decide)
theorem mI_sR {μ : Mem} {k a i c k' a' : Nat} {v : Int32} : mI (sR μ k a i v) c k' a' = mI μ c k' a' := rfl
theorem BP.z2 (h : BP μ x ad S) {i : Nat} {k : Nat} {v : Int32} (hi : i < S.1.2.1) (hv : v = 0 ∨ v = 1) : putZ μ 2 k (ad 3 i) v = some (sI μ 2 k (ad 3 i) v) := putZ_ok (h.2.2.2.2.2.1.2.1 i hi).1 hv
theorem BP.pB (h : BP μ x ad S) {i : Nat} {k : Nat} {v : Int32} (hi : i < S.1.2.1) : putI μ 2 k (ad 3 i) v = some (sI μ 2 k (ad 3 i) v) := putI_ok (h.2.2.2.2.2.1.2.1 i hi).1
theorem BP.zN (h : BP μ x ad S) {i : Nat} {k : Nat} {v : Int32} (hi : i < S.1.2.2) (hv : v = 0 ∨ v = 1) : putZ μ 4 k (ad 4 i) v = some (sI μ 4 k (ad 4 i) v) := putZ_ok (h.2.2.2.2.2.1.2.2 i hi).1 hv
theorem BP.pN (h : BP μ x ad S) {i : Nat} {k : Nat} {v : Int32} (hi : i < S.1.2.2) : putI μ 4 k (ad 4 i) v = some (sI μ 4 k (ad 4 i) v) := putI_ok (h.2.2.2.2.2.1.2.2 i hi).1
theorem BP.fB (h : BP μ x ad S) {i k : Nat} {v : Int32} (hi : i < S.1.2.1) : FR 0 μ (sI μ 2 k (ad 3 i) v) := FR.sI (by rw [(h.2.2.2.2.2.1.2.1 i hi).1.2]; rfl)
theorem BP.fN (h : BP μ x ad S) {i k : Nat} {v : Int32} (hi : i < S.1.2.2) : FR 0 μ (sI μ 4 k (ad 4 i) v) := FR.sI (by rw [(h.2.2.2.2.2.1.2.2 i hi).1.2]; rfl)
theorem BP.fP (h : BP μ x ad S) {i k : Nat} {v : Int32} (hi : i < S.1.1) : FR 0 μ (sI μ 5 k (ad 2 i) v) := FR.sI (by rw [(h.2.2.2.2.2.1.1 i hi).1.2]; rfl)
theorem nz_of {v : Int32} (h : v = 0 ∨ v = 1) : nz v = some v := if_pos h
theorem o_setMark (h : BP μ x ad S) (hI : Inv S) (v m : Int32) (hm : m = 0 ∨ m = 1) : Op μ x S [3] (f_X4_setMark μ x v m) (fun ν y => f_X5_setMark ν y v m) := by
  by_cases hb : ∃ j : Nat, j < S.1.2.1 ∧ v = nI j
  · obtain ⟨b, hb, rfl⟩ := hb
    have h14 := hI.1.2.1
    have hz : nz (S.2 4 b) = some (S.2 4 b) := nz_of (hI.2.2.1 b hb).2.2
    refine ⟨.inr (S.2 4 b), _, _, by simp only [f_X4_setMark, h.ch, obs, kb_hit h hI hb, sml_r, h.b2 hb, h.z2 hb hm, hz], hI.bar (c := 4) (Or.inr ⟨rfl, hm⟩), ⟨ad, h.setB (k := 2) hb (Or.inr rfl)⟩, h.fB hb, fun ν y am hM => ?_⟩
    refine ⟨S.2 4 b, sR (sI ν 7 0 y 0) 41 (am 12) b m, ?_, (hM.s0 0).setB (k := 12) hb (Or.inr ⟨rfl, rfl⟩), (hM.f0 0).trans (hM.s0 0).f112, ?_⟩
    · simp only [f_X5_setMark, hM.p0, obs, hM.ch0, m_isBar_hit (hM.s0 0) hI hb, if1, (hM.s0 0).q12, (hM.s0 0).a12 hb h14, (hM.s0 0).w12 (i := b) (by omega) hm, hz]
    · rw [mI_sR, mI_sI_h]
      exact Ag.v _
  · refine Op.no h hI (.inl 3) (by simp only [f_X4_setMark, h.ch, obs, kb_miss h hb, sml_l]) 1 (Ag.x (by decide)) (fun ν y am hM => ?_)
    simp only [f_X5_setMark, hM.p0, obs, hM.ch0, m_isBar_miss (hM.s0 0) hI hb, ift, m_isWrong (hM.s0 0), bi2_s, nz0, s0_s0]
theorem key_cases (ν : Mem) (k : Int32) : (-6 ≤ k.toInt ∧ k.toInt ≤ 6 ∧ f_X4_isKey μ k = some 1 ∧ f_X5_isBetween ν k (-6) 6 = some 1) ∨ (f_X4_isKey μ k = some 0 ∧ f_X5_isBetween ν k (-6) 6 = some 0) := by
  by_cases h1 : k < -6
  · exact Or.inr ⟨if_pos h1, btw_lo ν h1⟩
  · by_cases h2 : 6 < k
    · exact Or.inr ⟨by simp only [f_X4_isKey, if_neg h1, if_pos h2], btw_hi ν h2⟩
    · refine Or.inl ⟨?_, ?_, by simp only [f_X4_isKey, if_neg h1, if_neg h2], btw_in ν h1 h2⟩
      · rw [Int32.lt_iff_toInt_lt] at h1
        exact Int.not_lt.mp h1
      · rw [Int32.lt_iff_toInt_lt] at h2
        exact Int.not_lt.mp h2
theorem pitch_cases (ν : Mem) (k : Int32) : (24 ≤ k.toInt ∧ k.toInt ≤ 96 ∧ f_X4_isPitch μ k = some 1 ∧ f_X5_isBetween ν k 24 96 = some 1) ∨ (f_X4_isPitch μ k = some 0 ∧ f_X5_isBetween ν k 24 96 = some 0) := by
  by_cases h1 : k < 24
  · exact Or.inr ⟨if_pos h1, btw_lo ν h1⟩
  · by_cases h2 : 96 < k
    · exact Or.inr ⟨by simp only [f_X4_isPitch, if_neg h1, if_pos h2], btw_hi ν h2⟩
    · refine Or.inl ⟨?_, ?_, by simp only [f_X4_isPitch, if_neg h1, if_neg h2], btw_in ν h1 h2⟩
      · rw [Int32.lt_iff_toInt_lt] at h1
        exact Int.not_lt.mp h1
      · rw [Int32.lt_iff_toInt_lt] at h2
        exact Int.not_lt.mp h2
theorem o_setKey (h : BP μ x ad S) (hI : Inv S) (v k : Int32) : Op μ x S [3, 1] (f_X4_setKey μ x v k) (fun ν y => f_X5_setKey ν y v k) := by
  by_cases hb : ∃ j : Nat, j < S.1.2.1 ∧ v = nI j
  · obtain ⟨b, hb, rfl⟩ := hb
    have h14 := hI.1.2.1
    rcases key_cases (μ := μ) μ k with ⟨g1, g2, g3, -⟩ | ⟨g3, -⟩
    · refine ⟨.inr (S.2 3 b), _, _, by simp only [f_X4_setKey, h.ch, obs, kb_hit h hI hb, sml_r, g3, if1, h.b1 hb, h.pB hb], hI.bar (c := 3) (Or.inl ⟨rfl, g1, g2⟩), ⟨ad, h.setB (k := 1) hb (Or.inl rfl)⟩, h.fB hb, fun ν y am hM => ?_⟩
      refine ⟨S.2 3 b, sR (sI ν 7 0 y 0) 32 (am 3) b k, ?_, (hM.s0 0).setB (k := 3) hb (Or.inl ⟨rfl, rfl⟩), (hM.f0 0).trans (hM.s0 0).f103, ?_⟩
      · rcases key_cases (μ := μ) (sI ν 7 0 y 0) k with ⟨-, -, -, g4⟩ | ⟨g5, -⟩
        · simp only [f_X5_setKey, hM.p0, obs, hM.ch0, m_isBar_hit (hM.s0 0) hI hb, if1, g4, (hM.s0 0).q3, (hM.s0 0).a3 hb h14, (hM.s0 0).w3 (i := b) (by omega)]
        · rw [g3] at g5; exact absurd g5 (by decide)
      · rw [mI_sR, mI_sI_h]
        exact Ag.v _
    · refine Op.no h hI (.inl 1) (by simp only [f_X4_setKey, h.ch, obs, kb_hit h hI hb, sml_r, g3, ift]) 2 (Ag.x (by decide)) (fun ν y am hM => ?_)
      rcases key_cases (μ := μ) (sI ν 7 0 y 0) k with ⟨-, -, g5, -⟩ | ⟨-, g4⟩
      · rw [g3] at g5; exact absurd g5 (by decide)
      · simp only [f_X5_setKey, hM.p0, obs, hM.ch0, m_isBar_hit (hM.s0 0) hI hb, if1, g4, ift, m_fails (hM.s0 0), bi2_s, s0_s0]
  · refine Op.no h hI (.inl 3) (by simp only [f_X4_setKey, h.ch, obs, kb_miss h hb, sml_l]) 1 (Ag.x (by decide)) (fun ν y am hM => ?_)
    simp only [f_X5_setKey, hM.p0, obs, hM.ch0, m_isBar_miss (hM.s0 0) hI hb, ift, m_fails (hM.s0 0), bi2_s, s0_s0]
theorem NI.up {i : Nat} (h : NI S i) {c : Nat} {v : Int32} (hc : (c = 10 ∧ 24 ≤ v.toInt ∧ v.toInt ≤ 96) ∨ (c = 11 ∧ v = 0)) (ht : S.2 15 i = 1) : NI (upS S c i v) i := by
  obtain ⟨h1, h2, h3, h4, h5, h6, h7, h8, h9, h10, h11⟩ := h
  have hz : ∀ c', c' ≠ c → (upS S c i v).2 c' i = S.2 c' i := fun c' h => upS_ne _ _ (fun z => h z.1)
  have hz2 : ∀ b, (upS S c i v).2 2 b = S.2 2 b := fun b => upS_ne _ _ (by omega)
  unfold NI
  rw [hz 5 (by omega), hz 6 (by omega), hz 7 (by omega), hz 8 (by omega), hz 9 (by omega), hz 12 (by omega), hz 13 (by omega), hz 15 (by omega), ht]
  simp only [hz2]
  refine ⟨h1, h2, h3, h4, h5, ?_, ?_, h8, h9, Or.inr trivial, fun z => absurd z (by decide)⟩
  · rcases hc with ⟨rfl, g1, g2⟩ | ⟨rfl, -⟩
    · rw [upS_hit]; exact ⟨g1, g2⟩
    · rw [hz 10 (by decide)]; exact h6
  · rcases hc with ⟨rfl, -⟩ | ⟨rfl, rfl⟩
    · rw [hz 11 (by decide)]; exact h7
    · rw [upS_hit]; exact Or.inl rfl
theorem NI.touch {i : Nat} (h : NI S i) : NI (upS S 15 i 1) i := by
  obtain ⟨h1, h2, h3, h4, h5, h6, h7, h8, h9, h10, h11⟩ := h
  have hz : ∀ c', c' ≠ 15 → (upS S 15 i 1).2 c' i = S.2 c' i := fun c' h => upS_ne _ _ (fun z => h z.1)
  have hz2 : ∀ b, (upS S 15 i 1).2 2 b = S.2 2 b := fun b => upS_ne _ _ (by omega)
  unfold NI
  rw [hz 5 (by omega), hz 6 (by omega), hz 7 (by omega), hz 8 (by omega), hz 9 (by omega), hz 10 (by omega), hz 11 (by omega), hz 12 (by omega), hz 13 (by omega), upS_hit]
  simp only [hz2]
  exact ⟨h1, h2, h3, h4, h5, h6, h7, h8, h9, Or.inr trivial, fun z => absurd z (by decide)⟩
theorem o_correct (h : BP μ x ad S) (hI : Inv S) (v k : Int32) : Op μ x S [4, 1] (f_X4_correct μ x v k) (fun ν y => f_X5_correct ν y v k) := by
  have hno : ∀ (hk : f_X4_knownNote μ x v = some (.inl 4)) (hm : ∀ (ν : Mem) (y : Nat) (am : Nat → Nat), MP ν y am S → f_X5_isNote ν y v = some 0), Op μ x S [4, 1] (f_X4_correct μ x v k) (fun ν y => f_X5_correct ν y v k) := by
    intro hk hm
    refine Op.no h hI (.inl 4) (by simp only [f_X4_correct, h.ch, obs, hk, sml_l]) 1 (Ag.x (by decide)) (fun ν y am hM => ?_)
    simp only [f_X5_correct, hM.p0, obs, hM.ch0, hm _ _ _ (hM.s0 0), ift, m_fails (hM.s0 0), bi2_s, s0_s0]
  rcases note_cases S v with ⟨i, hi, rfl, g⟩ | ⟨i, hi, rfl, g⟩ | g
  · have h120 := hI.1.2.2
    rcases pitch_cases (μ := μ) μ k with ⟨g1, g2, g3, -⟩ | ⟨g3, -⟩
    · have hb1 := h.setN (k := 10) (v := 1) hi (by decide)
      refine ⟨.inr (S.2 10 i), sI (sI μ 4 5 (ad 4 i) k) 4 10 (ad 4 i) 1, upS (upS S 10 i k) 15 i 1, ?_, ?_, ⟨ad, (h.setN (k := 5) (v := k) hi (by decide)).setN (k := 10) hi (by decide)⟩, (h.fN hi).trans ((h.setN (k := 5) (v := k) hi (by decide)).fN hi), fun ν y am hM => ?_⟩
      · simp only [f_X4_correct, h.ch, obs, kn_hit h hI hi g, sml_r, g3, if1, h.t5 hi, h.pN hi, (h.setN (k := 5) (v := k) hi (by decide)).zN hi (Or.inr rfl)]
      · have e : upS (upS S 10 i k) 15 i 1 = upS (upS S 15 i 1) 10 i k := by
          show (S.1, _) = (S.1, _)
          refine congrArg (Prod.mk S.1) ?_
          funext c j
          show (if c = 15 ∧ j = i then (1 : Int32) else if c = 10 ∧ j = i then k else S.2 c j) = (if c = 10 ∧ j = i then k else if c = 15 ∧ j = i then 1 else S.2 c j)
          by_cases c1 : c = 15 ∧ j = i
          · rw [if_pos c1, if_neg (by omega), if_pos c1]
          · rw [if_neg c1]
            by_cases c2 : c = 10 ∧ j = i
            · rw [if_pos c2, if_pos c2]
            · rw [if_neg c2, if_neg c2, if_neg c1]
        rw [e]
        exact (hI.note (by decide) (fun hi => (hI.ni hi).touch)).note (by decide) (fun hi => ((hI.ni hi).touch).up (Or.inl ⟨rfl, g1, g2⟩) (upS_hit _ _ _ _))
      · refine ⟨S.2 10 i, sR (sI ν 7 0 y 0) 38 (am 9) i k, ?_, ((hM.s0 0).setN (k := 9) hi (by decide)).set15, (hM.f0 0).trans (hM.s0 0).f109, ?_⟩
        · rcases pitch_cases (μ := μ) (sI ν 7 0 y 0) k with ⟨-, -, -, g4⟩ | ⟨g5, -⟩
          · simp only [f_X5_correct, hM.p0, obs, hM.ch0, m_isNote_hit (hM.s0 0) hI hi g, if1, g4, (hM.s0 0).q9, (hM.s0 0).a9 hi h120, (hM.s0 0).w9 (i := i) (by omega)]
          · rw [g3] at g5; exact absurd g5 (by decide)
        · rw [mI_sR, mI_sI_h]
          exact Ag.v _
    · refine Op.no h hI (.inl 1) (by simp only [f_X4_correct, h.ch, obs, kn_hit h hI hi g, sml_r, g3, ift]) 2 (Ag.x (by decide)) (fun ν y am hM => ?_)
      rcases pitch_cases (μ := μ) (sI ν 7 0 y 0) k with ⟨-, -, g5, -⟩ | ⟨-, g4⟩
      · rw [g3] at g5; exact absurd g5 (by decide)
      · simp only [f_X5_correct, hM.p0, obs, hM.ch0, m_isNote_hit (hM.s0 0) hI hi g, if1, g4, ift, m_fails (hM.s0 0), bi2_s, s0_s0]
  · exact hno (kn_out h hI hi g) (fun ν y am hM => m_isNote_out hM hI hi g)
  · exact hno (kn_miss h g) (fun ν y am hM => m_isNote_miss hM hI g)
end P39b
