section P39c
variable {μ ν : Mem} {x y : Nat} {ad : Nat → Nat → Nat} {am : Nat → Nat} {S : SS}
theorem Inv.beats (hI : Inv S) {b : Nat} (hb : b < S.1.2.1) : ∃ q : Nat, 1 ≤ q ∧ q ≤ 8 ∧ S.2 2 b = nI q := by
  obtain ⟨⟨h1, h2⟩, -⟩ := hI.2.2.1 b hb
  obtain ⟨j, hj, e⟩ := rng9 (x := S.2 2 b) 0 8 (by decide) (by decide) (by omega) h2
  have e3 : S.2 2 b = nI j := by rw [e, show nI 0 = 0 from rfl, Int32.sub_zero]
  rw [e3, nI_toInt (by omega)] at h1
  exact ⟨j, by omega, by omega, e3⟩
/-- the ticks lie within the bar -/
def Wi (S : SS) (b : Nat) (t n : Int32) : Prop := 0 ≤ t.toInt ∧ 1 ≤ n.toInt ∧ t.toInt + n.toInt ≤ 4 * (S.2 2 b).toInt
theorem wi_cases (hI : Inv S) {b : Nat} (hb : b < S.1.2.1) (t n : Int32) : ∃ q : Nat, 1 ≤ q ∧ q ≤ 8 ∧ S.2 2 b * 4 = nI (q * 4) ∧ 4 * S.2 2 b = nI (q * 4) ∧ nI (q * 4) - 1 = nI (q * 4 - 1) ∧
    ((t < 0 ∧ ¬ Wi S b t n) ∨ (∃ j : Nat, j < 2 ^ 31 ∧ t = nI j ∧ ¬ t < 0 ∧ ((q * 4 ≤ j ∧ ¬ Wi S b t n) ∨ (j < q * 4 ∧ ((n < 1 ∧ ¬ Wi S b t n) ∨ (¬ n < 1 ∧ nI (q * 4 - j) < n ∧ ¬ Wi S b t n) ∨ (¬ n < 1 ∧ ¬ nI (q * 4 - j) < n ∧ Wi S b t n)))))) := by
  obtain ⟨q, h1, h8, e⟩ := hI.beats hb
  have e3 : (S.2 2 b).toInt = q := by rw [e, nI_toInt (by omega)]
  refine ⟨q, h1, h8, by rw [e, show (4 : Int32) = nI 4 from rfl, pk_mul], by rw [e, show (4 : Int32) = nI 4 from rfl, pk_mul, Nat.mul_comm], ?_, ?_⟩
  · obtain ⟨m, hm⟩ : ∃ m, q * 4 = m + 1 := ⟨q * 4 - 1, by omega⟩
    rw [hm, nI_pred, Nat.add_sub_cancel]
  · unfold Wi
    rw [e3]
    by_cases t0 : t < 0
    · refine Or.inl ⟨t0, fun z => ?_⟩
      rw [Int32.lt_iff_toInt_lt, Int32.toInt_zero] at t0
      omega
    · obtain ⟨j, hj, rfl⟩ := nI_of t0
      refine Or.inr ⟨j, hj, rfl, t0, ?_⟩
      rw [nI_toInt hj]
      by_cases tT : q * 4 ≤ j
      · exact Or.inl ⟨tT, fun z => by omega⟩
      · refine Or.inr ⟨by omega, ?_⟩
        by_cases n1 : n < 1
        · refine Or.inl ⟨n1, fun z => ?_⟩
          rw [Int32.lt_iff_toInt_lt, show (1 : Int32).toInt = 1 from by decide] at n1
          omega
        · have n1' := n1
          rw [Int32.lt_iff_toInt_lt, show (1 : Int32).toInt = 1 from by decide] at n1'
          by_cases nT : nI (q * 4 - j) < n
          · refine Or.inr (Or.inl ⟨n1, nT, fun z => ?_⟩)
            rw [Int32.lt_iff_toInt_lt, nI_toInt (by omega)] at nT
            omega
          · refine Or.inr (Or.inr ⟨n1, nT, ?_⟩)
            rw [Int32.lt_iff_toInt_lt, nI_toInt (by omega)] at nT
            omega
theorem c_holds (h : BP μ x ad S) (hI : Inv S) {b : Nat} (hb : b < S.1.2.1) (t n : Int32) : (Wi S b t n ∧ f_X0_holds μ (ad 3 b) t n = some 1) ∨ (¬ Wi S b t n ∧ f_X0_holds μ (ad 3 b) t n = some 0) := by
  obtain ⟨q, h1, h8, e1, -, -, hc⟩ := wi_cases hI hb t n
  simp only [f_X0_holds, h.b0 hb, obs, e1]
  rcases hc with ⟨t0, w⟩ | ⟨j, hj, rfl, t0, ⟨tT, w⟩ | ⟨tT, ⟨n1, w⟩ | ⟨n1, nT, w⟩ | ⟨n1, nT, w⟩⟩⟩
  · exact Or.inr ⟨w, if_pos t0⟩
  · exact Or.inr ⟨w, by rw [if_neg t0, if_pos (nI_le tT hj)]⟩
  · exact Or.inr ⟨w, by rw [if_neg t0, if_neg (nI_ge tT (by omega)), if_pos n1]⟩
  · exact Or.inr ⟨w, by rw [if_neg t0, if_neg (nI_ge tT (by omega)), if_neg n1, pk_sub (by omega), if_pos nT]⟩
  · exact Or.inl ⟨w, by rw [if_neg t0, if_neg (nI_ge tT (by omega)), if_neg n1, pk_sub (by omega), if_neg nT]⟩
theorem m_within (hM : MP ν y am S) (hI : Inv S) {b : Nat} (hb : b < S.1.2.1) (t n : Int32) : (Wi S b t n ∧ f_X5_isWithin ν y (nI b) t n = some 1) ∨ (¬ Wi S b t n ∧ f_X5_isWithin ν y (nI b) t n = some 0) := by
  obtain ⟨q, h1, h8, -, e2, e4, hc⟩ := wi_cases hI hb t n
  have h14 := hI.1.2.1
  simp only [f_X5_isWithin, hM.q2, hM.a2 hb h14, obs, e2, e4]
  rcases hc with ⟨t0, w⟩ | ⟨j, hj, rfl, t0, ⟨tT, w⟩ | ⟨tT, ⟨n1, w⟩ | ⟨n1, nT, w⟩ | ⟨n1, nT, w⟩⟩⟩
  · exact Or.inr ⟨w, by rw [btw_lo ν t0, obs, if0]⟩
  · exact Or.inr ⟨w, by rw [btw_hi ν (nI_lt (show q * 4 - 1 < j by omega) hj), obs, if0]⟩
  · exact Or.inr ⟨w, by rw [btw_in ν t0 (nI_nlt (show j ≤ q * 4 - 1 by omega) (by omega)), obs, if1, btw_lo ν n1, obs, if0]⟩
  · exact Or.inr ⟨w, by rw [btw_in ν t0 (nI_nlt (show j ≤ q * 4 - 1 by omega) (by omega)), obs, if1, pk_sub (by omega), btw_hi ν nT, obs, if0]⟩
  · exact Or.inl ⟨w, by rw [btw_in ν t0 (nI_nlt (show j ≤ q * 4 - 1 by omega) (by omega)), obs, if1, pk_sub (by omega), btw_in ν n1 nT, obs, if1]⟩
/-- a note is taken out of the reference -/
theorem MP.set11 {i : Nat} (b : MP ν y am S) (hi : i < S.1.2.2) : MP (sR ν 42 (am 13) i 1) y am (upS S 11 i 0) := by
  obtain ⟨y9, hq, ⟨i15, i16, i17, i18, i19, i20⟩, hp, hp0, hb, hn, hn0⟩ := b
  refine ⟨y9, hq, ⟨i15, i16, i17, i18.trans (upS_ne _ _ (by omega)).symm, i19.trans (upS_ne _ _ (by omega)).symm, i20.trans (upS_ne _ _ (by omega)).symm⟩,
    fun p h1 => ⟨((mR_sR_k (by decide)).trans (hp p h1).1).trans (upS_ne _ _ (by omega)).symm, ((mR_sR_k (by decide)).trans (hp p h1).2).trans (upS_ne _ _ (by omega)).symm⟩, fun p h1 h2 => (mR_sR_k (by decide)).trans (hp0 p h1 h2),
    fun b h1 => ⟨((mR_sR_k (by decide)).trans (hb b h1).1).trans (upS_ne _ _ (by omega)).symm, ((mR_sR_k (by decide)).trans (hb b h1).2.1).trans (upS_ne _ _ (by omega)).symm, ((mR_sR_k (by decide)).trans (hb b h1).2.2).trans (upS_ne _ _ (by omega)).symm⟩,
    fun j h1 => ⟨fun k' h2 => ((mR_sR_k (by omega)).trans ((hn j h1).1 k' h2)).trans (upS_ne _ _ (by omega)).symm, ?_, ?_, ?_⟩, fun j h1 h2 => ⟨(mR_sR_k (by decide)).trans (hn0 j h1 h2).1, (mR_sR_k (by decide)).trans (hn0 j h1 h2).2.1, (mR_sR_i (show ¬ j = i from fun z => absurd (z ▸ hi : j < S.1.2.2) (Nat.not_lt.mpr h1))).trans (hn0 j h1 h2).2.2⟩⟩
  · rw [upS_ne _ _ (by omega), upS_ne _ _ (by omega)]
    exact (mR_sR_k (by decide)).trans (hn j h1).2.1
  · rw [upS_ne _ _ (by omega)]
    exact (mR_sR_k (by decide)).trans (hn j h1).2.2.1
  · by_cases e : j = i
    · subst e
      rw [upS_hit, if_pos rfl]
      exact mR_sR_h
    · rw [upS_ne _ _ (fun z => e z.2)]
      exact (mR_sR_i e).trans (hn j h1).2.2.2
/-- the order of two columns at one note does not matter -/
theorem upS_swap (S : SS) {c d i : Nat} (u v : Int32) (h : c ≠ d) : upS (upS S c i u) d i v = upS (upS S d i v) c i u := by
  show (S.1, _) = (S.1, _)
  refine congrArg (Prod.mk S.1) ?_
  funext c' j
  show (if c' = d ∧ j = i then v else if c' = c ∧ j = i then u else S.2 c' j) = (if c' = c ∧ j = i then u else if c' = d ∧ j = i then v else S.2 c' j)
  by_cases c1 : c' = d ∧ j = i
  · rw [if_pos c1, if_neg (fun z => h (z.1.symm.trans c1.1)), if_pos c1]
  · rw [if_neg c1]
    by_cases c2 : c' = c ∧ j = i
    · rw [if_pos c2, if_pos c2]
    · rw [if_neg c2, if_neg c2, if_neg c1]
theorem o_takeOut (h : BP μ x ad S) (hI : Inv S) (v : Int32) : Op μ x S [4] (f_X4_takeOut μ x v) (fun ν y => f_X5_takeOut ν y v) := by
  have hno : ∀ (hk : f_X4_knownNote μ x v = some (.inl 4)) (hm : ∀ (ν : Mem) (y : Nat) (am : Nat → Nat), MP ν y am S → f_X5_isNote ν y v = some 0), Op μ x S [4] (f_X4_takeOut μ x v) (fun ν y => f_X5_takeOut ν y v) := by
    intro hk hm
    refine Op.no h hI (.inl 4) (by simp only [f_X4_takeOut, h.ch, obs, hk, sml_l]) 1 (Ag.x (by decide)) (fun ν y am hM => ?_)
    simp only [f_X5_takeOut, hM.p0, obs, hM.ch0, hm _ _ _ (hM.s0 0), ift, m_fails (hM.s0 0), bi2_s, s0_s0]
  rcases note_cases S v with ⟨i, hi, rfl, g⟩ | ⟨i, hi, rfl, g⟩ | g
  · have h120 := hI.1.2.2
    have b1 := h.setN (k := 6) (v := 0) hi (by decide)
    have b2 := b1.setN (k := 10) (v := 1) hi (by decide)
    have e5 : (upS (upS S 11 i 0) 15 i 1).2 5 i = S.2 5 i := by rw [upS_ne _ _ (by omega), upS_ne _ _ (by omega)]
    have g5 : getI (sI (sI μ 4 6 (ad 4 i) 0) 4 10 (ad 4 i) 1) 4 0 (ad 4 i) = some (S.2 5 i) := by rw [← e5]; exact b2.t0 hi
    refine ⟨.inr (nI (cnt (qPt (upS (upS S 11 i 0) 15 i 1) (S.2 5 i)) S.1.2.2)), sI (sI μ 4 6 (ad 4 i) 0) 4 10 (ad 4 i) 1, upS (upS S 11 i 0) 15 i 1, ?_, ?_, ⟨ad, b2⟩, (h.fN hi).trans (b1.fN hi), fun ν y am hM => ?_⟩
    · simp only [f_X4_takeOut, h.ch, obs, kn_hit h hI hi g, sml_r, h.zN hi (Or.inl rfl), b1.zN hi (Or.inr rfl), g5, b2.ch, c_countOfPart b2 h120]
      rfl
    · rw [upS_swap S 0 1 (by decide)]
      exact (hI.note (by decide) (fun hi => (hI.ni hi).touch)).note (by decide) (fun hi => ((hI.ni hi).touch).up (Or.inr ⟨rfl, rfl⟩) (upS_hit _ _ _ _))
    · have m1 := ((hM.s0 0).set11 hi).set15 (i := i) (v := 1)
      refine ⟨nI (cnt (qPt (upS (upS S 11 i 0) 15 i 1) (S.2 5 i)) S.1.2.2), sR (sI ν 7 0 y 0) 42 (am 13) i 1, ?_, m1, (hM.f0 0).trans (hM.s0 0).f113, ?_⟩
      · have g6 : ald (sR (sI ν 7 0 y 0) 42 (am 13) i 1) (am 4) (nI i) = some (S.2 5 i) := by rw [← e5]; exact m1.a4 hi h120
        simp only [f_X5_takeOut, hM.p0, obs, hM.ch0, m_isNote_hit (hM.s0 0) hI hi g, if1, (hM.s0 0).q13, (hM.s0 0).w13 (i := i) (by omega) (Or.inr rfl), m1.q4, g6, m1.ch, m_manyOf m1 h120]
        rfl
      · rw [mI_sR, mI_sI_h]
        exact Ag.v _
  · exact hno (kn_out h hI hi g) (fun ν y am hM => m_isNote_out hM hI hi g)
  · exact hno (kn_miss h g) (fun ν y am hM => m_isNote_miss hM hI g)
theorem NI.len {i b : Nat} {n : Int32} (h : NI S i) (hb : b < S.1.2.1) (e : S.2 6 i = nI b) (h1 : 1 ≤ n.toInt) (h2 : (S.2 8 i).toInt + n.toInt ≤ 4 * (S.2 2 b).toInt) (ht : S.2 15 i = 1) : NI (upS S 9 i n) i := by
  obtain ⟨g1, g2, g3, g4, g5, g6, g7, g8, g9, g10, g11⟩ := h
  have hz : ∀ c', c' ≠ 9 → (upS S 9 i n).2 c' i = S.2 c' i := fun c' h => upS_ne _ _ (fun z => h z.1)
  have hz2 : ∀ b, (upS S 9 i n).2 2 b = S.2 2 b := fun b => upS_ne _ _ (by omega)
  unfold NI
  rw [hz 5 (by decide), hz 6 (by decide), hz 7 (by decide), hz 8 (by decide), hz 10 (by decide), hz 11 (by decide), hz 12 (by decide), hz 13 (by decide), hz 15 (by decide), ht, upS_hit]
  simp only [hz2]
  exact ⟨g1, ⟨b, hb, e, h2⟩, g3, g4, h1, g6, g7, g8, g9, Or.inr trivial, fun z => absurd z (by decide)⟩
theorem o_stretch (h : BP μ x ad S) (hI : Inv S) (v n : Int32) : Op μ x S [4, 1, 5] (f_X4_stretch μ x v n) (fun ν y => f_X5_stretch ν y v n) := by
  have hno : ∀ (hk : f_X4_knownNote μ x v = some (.inl 4)) (hm : ∀ (ν : Mem) (y : Nat) (am : Nat → Nat), MP ν y am S → f_X5_isNote ν y v = some 0), Op μ x S [4, 1, 5] (f_X4_stretch μ x v n) (fun ν y => f_X5_stretch ν y v n) := by
    intro hk hm
    refine Op.no h hI (.inl 4) (by simp only [f_X4_stretch, h.ch, obs, hk, sml_l]) 1 (Ag.x (by decide)) (fun ν y am hM => ?_)
    simp only [f_X5_stretch, hM.p0, obs, hM.ch0, hm _ _ _ (hM.s0 0), ift, m_fails (hM.s0 0), bi2_s, s0_s0]
  rcases note_cases S v with ⟨i, hi, rfl, g⟩ | ⟨i, hi, rfl, g⟩ | g
  · have h120 := hI.1.2.2
    obtain ⟨p, b, hp, hb, e1, e2⟩ := hI.at hi
    have he : ∀ j, j < S.1.2.2 → (ad 4 j = ad 4 i ↔ nI j = nI i) := fun j hj => ⟨fun z => by rw [h.2.2.2.2.2.2.2.2 j i hj hi z], fun z => by rw [(nI_eq (by omega) (by omega)).mp z]⟩
    have hm := c_meets h h120 (n := n) (h.t0 hi) (h.t1 hi) (h.t2 hi) (h.t3 hi) (nI i) he
    rw [e2] at hm
    rcases c_holds h hI hb (S.2 8 i) n with ⟨w, hh⟩ | ⟨w, hh⟩
    · by_cases hx : ∃ j, j < S.1.2.2 ∧ (decide (nI j ≠ nI i) && qMt S (S.2 5 i) (nI b) (S.2 7 i) (S.2 8 i) n j) = true
      · rw [if_pos hx] at hm
        refine Op.no h hI (.inl 5) (by simp only [f_X4_stretch, h.ch, obs, kn_hit h hI hi g, sml_r, h.t1 hi, e2, bson_hit h hb hI.1.2.1, onl_s, h.t3 hi, h.chB hb, hh, if1, hm]) 3 (Ag.x (by decide)) (fun ν y am hM => ?_)
        have ht := m_isTaken (hM.s0 0) h120 (S.2 5 i) (nI b) (S.2 7 i) (S.2 8 i) n (nI i)
        rw [if_pos hx] at ht
        rcases m_within (hM.s0 0) hI hb (S.2 8 i) n with ⟨-, z⟩ | ⟨z, -⟩
        · simp only [f_X5_stretch, hM.p0, obs, hM.ch0, m_isNote_hit (hM.s0 0) hI hi g, if1, (hM.s0 0).q4, (hM.s0 0).a4 hi h120, (hM.s0 0).q5, (hM.s0 0).a5 hi h120, (hM.s0 0).q6, (hM.s0 0).a6 hi h120, (hM.s0 0).q7, (hM.s0 0).a7 hi h120, e2, z, ht, m_fails (hM.s0 0), bi2_s, s0_s0]
        · exact absurd w z
      · rw [if_neg hx] at hm
        have b1 := h.setN (k := 4) (v := n) hi (by decide)
        refine ⟨.inr (S.2 9 i), sI (sI μ 4 4 (ad 4 i) n) 4 10 (ad 4 i) 1, upS (upS S 9 i n) 15 i 1, ?_, ?_, ⟨ad, b1.setN (k := 10) hi (by decide)⟩, (h.fN hi).trans (b1.fN hi), fun ν y am hM => ?_⟩
        · simp only [f_X4_stretch, h.ch, obs, kn_hit h hI hi g, sml_r, h.t1 hi, e2, bson_hit h hb hI.1.2.1, onl_s, h.t3 hi, h.chB hb, hh, if1, hm, ift, h.t4 hi, h.pN hi, b1.zN hi (Or.inr rfl)]
        · rw [upS_swap S n 1 (by decide)]
          refine (hI.note (by decide) (fun hi => (hI.ni hi).touch)).note (by decide) (fun hi => ((hI.ni hi).touch).len (b := b) hb ?_ w.2.1 ?_ (upS_hit _ _ _ _))
          · rw [upS_ne _ _ (by omega)]; exact e2
          · rw [upS_ne _ _ (by omega), upS_ne _ _ (by omega)]; exact w.2.2
        · have ht := m_isTaken (hM.s0 0) h120 (S.2 5 i) (nI b) (S.2 7 i) (S.2 8 i) n (nI i)
          rw [if_neg hx] at ht
          refine ⟨S.2 9 i, sR (sI ν 7 0 y 0) 37 (am 8) i n, ?_, ((hM.s0 0).setN (k := 8) hi (by decide)).set15, (hM.f0 0).trans (hM.s0 0).f108, ?_⟩
          · rcases m_within (hM.s0 0) hI hb (S.2 8 i) n with ⟨-, z⟩ | ⟨z, -⟩
            · simp only [f_X5_stretch, hM.p0, obs, hM.ch0, m_isNote_hit (hM.s0 0) hI hi g, if1, (hM.s0 0).q4, (hM.s0 0).a4 hi h120, (hM.s0 0).q5, (hM.s0 0).a5 hi h120, (hM.s0 0).q6, (hM.s0 0).a6 hi h120, (hM.s0 0).q7, (hM.s0 0).a7 hi h120, e2, z, ht, ift, (hM.s0 0).q8, (hM.s0 0).a8 hi h120, (hM.s0 0).w8 (i := i) (by omega)]
            · exact absurd w z
          · rw [mI_sR, mI_sI_h]
            exact Ag.v _
    · refine Op.no h hI (.inl 1) (by simp only [f_X4_stretch, h.ch, obs, kn_hit h hI hi g, sml_r, h.t1 hi, e2, bson_hit h hb hI.1.2.1, onl_s, h.t3 hi, h.chB hb, hh, ift]) 2 (Ag.x (by decide)) (fun ν y am hM => ?_)
      rcases m_within (hM.s0 0) hI hb (S.2 8 i) n with ⟨z, -⟩ | ⟨-, z⟩
      · exact absurd z w
      · simp only [f_X5_stretch, hM.p0, obs, hM.ch0, m_isNote_hit (hM.s0 0) hI hi g, if1, (hM.s0 0).q5, (hM.s0 0).a5 hi h120, (hM.s0 0).q7, (hM.s0 0).a7 hi h120, e2, z, ift, m_fails (hM.s0 0), bi2_s, s0_s0]
  · exact hno (kn_out h hI hi g) (fun ν y am hM => m_isNote_out hM hI hi g)
  · exact hno (kn_miss h g) (fun ν y am hM => m_isNote_miss hM hI g)
end P39c
