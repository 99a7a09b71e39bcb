/-! GUARDS of both sides -/
section P37
variable {μ ν : Mem} {x y : Nat} {ad : Nat → Nat → Nat} {am : Nat → Nat} {S : SS}
theorem MP.s0 (h : MP ν y am S) (c : Int32) : MP (sI ν 7 0 y c) y am S := by
  obtain ⟨y9, hq, ⟨i15, i16, i17, i18, i19, i20⟩, hr⟩ := h
  exact ⟨y9, hq, ⟨(mI_sI_k (by decide)).trans i15, (mI_sI_k (by decide)).trans i16, (mI_sI_k (by decide)).trans i17, (mI_sI_k (by decide)).trans i18, (mI_sI_k (by decide)).trans i19, (mI_sI_k (by decide)).trans i20⟩, hr⟩
theorem MP.p0 (h : MP ν y am S) (c : Int32) : putI ν 7 0 y c = some (sI ν 7 0 y c) := putI_ok h.1
theorem MP.g0 (h : MP ν y am S) (c : Int32) : getI (sI ν 7 0 y c) 7 0 y = some c := by
  rw [getI_ok (show ok9 (sI ν 7 0 y c) 7 y from h.1)]
  exact congrArg some mI_sI_h
theorem MP.f0 (h : MP ν y am S) (c : Int32) : FR 1 ν (sI ν 7 0 y c) := FR.sI (by rw [h.1.2]; rfl)
theorem m_fails (h : MP ν y am S) (c : Int32) : f_X5_fails ν y c = some (0, sI ν 7 0 y c) := by
  simp only [f_X5_fails, h.p0, obs]
theorem m_isWrong (h : MP ν y am S) (c : Int32) : f_X5_isWrong ν y c = some (0, sI ν 7 0 y c) := by
  simp only [f_X5_isWrong, h.p0, obs]
theorem s0_s0 (ν : Mem) (y : Nat) (a b : Int32) : sI (sI ν 7 0 y a) 7 0 y b = sI ν 7 0 y b := by
  have h : up3 (up3 ν.2.2.2.1 7 0 y a) 7 0 y b = up3 ν.2.2.2.1 7 0 y b := by
    funext c k z
    unfold up3
    split <;> rfl
  show (ν.1, ν.2.1, ν.2.2.1, up3 (up3 ν.2.2.2.1 7 0 y a) 7 0 y b, ν.2.2.2.2) = (ν.1, ν.2.1, ν.2.2.1, up3 ν.2.2.2.1 7 0 y b, ν.2.2.2.2)
  rw [h]
theorem btw_in (ν : Mem) {v lo hi : Int32} (h1 : ¬ v < lo) (h2 : ¬ hi < v) : f_X5_isBetween ν v lo hi = some 1 := by
  simp only [f_X5_isBetween, if_neg h1, if_neg h2]
theorem btw_lo (ν : Mem) {v lo hi : Int32} (h1 : v < lo) : f_X5_isBetween ν v lo hi = some 0 := by
  simp only [f_X5_isBetween, if_pos h1]
theorem btw_hi (ν : Mem) {v lo hi : Int32} (h1 : hi < v) : f_X5_isBetween ν v lo hi = some 0 := by
  by_cases h : v < lo
  · exact btw_lo ν h
  · simp only [f_X5_isBetween, if_neg h, if_pos h1]
theorem btw_nI (ν : Mem) {p n : Nat} (hp : p < n) (hn : n < 2 ^ 31) : f_X5_isBetween ν (nI p) 0 (nI n - 1) = some 1 := by
  obtain ⟨m, rfl⟩ : ∃ m, n = m + 1 := ⟨n - 1, by omega⟩
  rw [nI_pred]
  exact btw_in ν (nI_pos (by omega)) (nI_nlt (by omega) (by omega))
theorem btw_no (ν : Mem) {v : Int32} {n : Nat} (hn : n < 2 ^ 31) (h : ¬ ∃ p : Nat, p < n ∧ v = nI p) : f_X5_isBetween ν v 0 (nI n - 1) = some 0 := by
  rcases ix3 v hn with ⟨h1, -⟩ | ⟨h1, h2, -⟩ | h1
  · exact btw_lo ν h1
  · obtain ⟨j, hj, rfl⟩ := nI_of h2
    have h3 : n ≤ j := (nI_leI hn hj).mp h1
    refine btw_hi ν ?_
    by_cases h0 : n = 0
    · subst h0
      rw [Int32.lt_iff_toInt_lt, nI_toInt hj]
      exact Int.lt_of_lt_of_le (show (nI 0 - 1 : Int32).toInt < 0 by decide) (Int.natCast_nonneg j)
    · obtain ⟨m, rfl⟩ : ∃ m, n = m + 1 := ⟨n - 1, by omega⟩
      rw [nI_pred]
      exact nI_lt (by omega) hj
  · exact absurd h1 h
theorem nz0 : nz 0 = some 0 := rfl
theorem nz1 : nz 1 = some 1 := rfl
theorem m_isPart_hit (h : MP ν y am S) (hI : Inv S) {p : Nat} (hp : p < S.1.1) : f_X5_isPart ν y (nI p) = some 1 := by
  simp only [f_X5_isPart, h.i15, obs, btw_nI ν hp (by have := hI.1.1; omega), nz1]
theorem m_isPart_miss (h : MP ν y am S) (hI : Inv S) {v : Int32} (hv : ¬ ∃ p : Nat, p < S.1.1 ∧ v = nI p) : f_X5_isPart ν y v = some 0 := by
  simp only [f_X5_isPart, h.i15, obs, btw_no ν (by have := hI.1.1; omega) hv, nz0]
theorem m_isBar_hit (h : MP ν y am S) (hI : Inv S) {p : Nat} (hp : p < S.1.2.1) : f_X5_isBar ν y (nI p) = some 1 := by
  simp only [f_X5_isBar, h.i16, obs, btw_nI ν hp (by have := hI.1.2.1; omega), nz1]
theorem m_isBar_miss (h : MP ν y am S) (hI : Inv S) {v : Int32} (hv : ¬ ∃ p : Nat, p < S.1.2.1 ∧ v = nI p) : f_X5_isBar ν y v = some 0 := by
  simp only [f_X5_isBar, h.i16, obs, btw_no ν (by have := hI.1.2.1; omega) hv, nz0]
theorem m_isNote_hit (h : MP ν y am S) (hI : Inv S) {p : Nat} (hp : p < S.1.2.2) (h1 : S.2 11 p ≠ 0) : f_X5_isNote ν y (nI p) = some 1 := by
  simp only [f_X5_isNote, h.i17, obs, btw_nI ν hp (by have := hI.1.2.2; omega), if1, h.q13, h.a13 hp hI.1.2.2, if_neg h1, if0, ift]
theorem m_isNote_out (h : MP ν y am S) (hI : Inv S) {p : Nat} (hp : p < S.1.2.2) (h1 : S.2 11 p = 0) : f_X5_isNote ν y (nI p) = some 0 := by
  simp only [f_X5_isNote, h.i17, obs, btw_nI ν hp (by have := hI.1.2.2; omega), if1, h.q13, h.a13 hp hI.1.2.2, if_pos h1]
theorem m_isNote_miss (h : MP ν y am S) (hI : Inv S) {v : Int32} (hv : ¬ ∃ p : Nat, p < S.1.2.2 ∧ v = nI p) : f_X5_isNote ν y v = some 0 := by
  simp only [f_X5_isNote, h.i17, obs, btw_no ν (by have := hI.1.2.2; omega) hv, if0, ift]
theorem le10 : ¬ (1 : Int32) ≤ 0 := by decide
theorem le00 : (0 : Int32) ≤ 0 := by decide
theorem now_p (h : MP ν y am S) (hI : Inv S) {v w : Int32} (hv : ¬ ∃ p : Nat, p < S.1.1 ∧ v = nI p) : f_X5_isNowhere ν y v w = some (1, sI ν 7 0 y 1) := by
  simp only [f_X5_isNowhere, h.ch, obs, m_isPart_miss h hI hv, if0, ift, h.p0, h.g0, if_neg le10]
theorem now_b (h : MP ν y am S) (hI : Inv S) {p : Nat} {w : Int32} (hp : p < S.1.1) (hw : ¬ ∃ p : Nat, p < S.1.2.1 ∧ w = nI p) : f_X5_isNowhere ν y (nI p) w = some (1, sI ν 7 0 y 1) := by
  simp only [f_X5_isNowhere, h.ch, obs, m_isPart_hit h hI hp, if1, m_isBar_miss h hI hw, if0, ift, h.p0, h.g0, if_neg le10]
theorem now_no (h : MP ν y am S) (hI : Inv S) {p b : Nat} (hp : p < S.1.1) (hb : b < S.1.2.1) : f_X5_isNowhere ν y (nI p) (nI b) = some (0, sI ν 7 0 y 0) := by
  simp only [f_X5_isNowhere, h.ch, obs, m_isPart_hit h hI hp, if1, m_isBar_hit h hI hb, h.p0, h.g0, if_pos le00]
theorem non_hit (h : MP ν y am S) (hI : Inv S) {p : Nat} (hp : p < S.1.2.2) (h1 : S.2 11 p ≠ 0) : f_X5_isNone ν y (nI p) = some (0, sI ν 7 0 y 0) := by
  simp only [f_X5_isNone, h.ch, obs, m_isNote_hit h hI hp h1, if1, h.p0, h.g0, if_pos le00]
theorem non_out (h : MP ν y am S) (hI : Inv S) {p : Nat} (hp : p < S.1.2.2) (h1 : S.2 11 p = 0) : f_X5_isNone ν y (nI p) = some (1, sI ν 7 0 y 1) := by
  simp only [f_X5_isNone, h.ch, obs, m_isNote_out h hI hp h1, if0, ift, h.p0, h.g0, if_neg le10]
theorem non_miss (h : MP ν y am S) (hI : Inv S) {v : Int32} (hv : ¬ ∃ p : Nat, p < S.1.2.2 ∧ v = nI p) : f_X5_isNone ν y v = some (1, sI ν 7 0 y 1) := by
  simp only [f_X5_isNone, h.ch, obs, m_isNote_miss h hI hv, if0, ift, h.p0, h.g0, if_neg le10]
theorem nop_hit (h : MP ν y am S) (hI : Inv S) {p : Nat} (hp : p < S.1.1) : f_X5_isNoPart ν y (nI p) = some (0, sI ν 7 0 y 0) := by
  simp only [f_X5_isNoPart, h.ch, obs, m_isPart_hit h hI hp, if1, h.p0, h.g0, if_pos le00]
theorem nop_miss (h : MP ν y am S) (hI : Inv S) {v : Int32} (hv : ¬ ∃ p : Nat, p < S.1.1 ∧ v = nI p) : f_X5_isNoPart ν y v = some (1, sI ν 7 0 y 1) := by
  simp only [f_X5_isNoPart, h.ch, obs, m_isPart_miss h hI hv, if0, ift, h.p0, h.g0, if_neg le10]
/-! the class's -/
theorem kp_hit (h : BP μ x ad S) (hI : Inv S) {p : Nat} (hp : p < S.1.1) : f_X4_knownPart μ x (nI p) = some (.inr (some (ad 2 p))) := by
  simp only [f_X4_knownPart, h.ch, obs, pson_hit h hp hI.1.1, onl_s]
theorem kp_miss (h : BP μ x ad S) {v : Int32} (hv : ¬ ∃ p : Nat, p < S.1.1 ∧ v = nI p) : f_X4_knownPart μ x v = some (.inl 3) := by
  simp only [f_X4_knownPart, h.ch, obs, pson_miss h hv, onl_n]
theorem kb_hit (h : BP μ x ad S) (hI : Inv S) {p : Nat} (hp : p < S.1.2.1) : f_X4_knownBar μ x (nI p) = some (.inr (some (ad 3 p))) := by
  simp only [f_X4_knownBar, h.ch, obs, bson_hit h hp hI.1.2.1, onl_s]
theorem kb_miss (h : BP μ x ad S) {v : Int32} (hv : ¬ ∃ p : Nat, p < S.1.2.1 ∧ v = nI p) : f_X4_knownBar μ x v = some (.inl 3) := by
  simp only [f_X4_knownBar, h.ch, obs, bson_miss h hv, onl_n]
theorem kn_hit (h : BP μ x ad S) (hI : Inv S) {p : Nat} (hp : p < S.1.2.2) (h1 : S.2 11 p ≠ 0) : f_X4_knownNote μ x (nI p) = some (.inr (some (ad 4 p))) := by
  simp only [f_X4_knownNote, h.ch, obs, nson_hit h hp hI.1.2.2, onl_s, h.t6 hp, if_neg h1]
theorem kn_out (h : BP μ x ad S) (hI : Inv S) {p : Nat} (hp : p < S.1.2.2) (h1 : S.2 11 p = 0) : f_X4_knownNote μ x (nI p) = some (.inl 4) := by
  simp only [f_X4_knownNote, h.ch, obs, nson_hit h hp hI.1.2.2, onl_s, h.t6 hp, if_pos h1]
theorem kn_miss (h : BP μ x ad S) {v : Int32} (hv : ¬ ∃ p : Nat, p < S.1.2.2 ∧ v = nI p) : f_X4_knownNote μ x v = some (.inl 4) := by
  simp only [f_X4_knownNote, h.ch, obs, nson_miss h hv, onl_n]
end P37
