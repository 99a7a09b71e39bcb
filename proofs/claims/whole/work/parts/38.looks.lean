/-! CALLS THAT ONLY LOOK. Vw S S' es A F: whatever picture of S the reference has, its call gives the class's answer A (exceptions es numbered from 1) and a picture of S' -/
def cdn : List Nat → Nat → Nat
  | [], _ => 0
  | a :: r, e => if e = a then 1 else cdn r e + 1
def Ag {α : Type} (es : List Nat) (A : Nat ⊕ α) (r : α) (c : Int32) : Prop := match A with
  | .inl e => e ∈ es ∧ c = nI (cdn es e)
  | .inr v => c = 0 ∧ r = v
def Vw {α : Type} (S S' : SS) (es : List Nat) (A : Nat ⊕ α) (F : Mem → Nat → Option (α × Mem)) : Prop := ∀ (ν : Mem) (y : Nat) (am : Nat → Nat), MP ν y am S → ∃ (r : α) (ν' : Mem), F ν y = some (r, ν') ∧ MP ν' y am S' ∧ FR 1 ν ν' ∧ Ag es A r (mI ν' 7 0 y)
theorem Vw.look {α : Type} {S : SS} {es : List Nat} {A : Nat ⊕ α} {F : Mem → Nat → Option (α × Mem)} (h : ∀ (ν : Mem) (y : Nat) (am : Nat → Nat), MP ν y am S → ∃ (r : α) (c : Int32), F ν y = some (r, sI ν 7 0 y c) ∧ Ag es A r c) : Vw S S es A F := by
  intro ν y am hM
  obtain ⟨r, c, h1, h2⟩ := h ν y am hM
  exact ⟨r, _, h1, hM.s0 c, hM.f0 c, by rw [mI_sI_h]; exact h2⟩
theorem Ag.x {α : Type} {es : List Nat} {e : Nat} {r : α} {c : Int32} (h : e ∈ es ∧ c = nI (cdn es e)) : Ag es (.inl e : Nat ⊕ α) r c := h
theorem Ag.v {α : Type} {es : List Nat} (r : α) : Ag es (.inr r : Nat ⊕ α) r 0 := ⟨rfl, rfl⟩
section P38
variable {μ ν : Mem} {x y : Nat} {ad : Nat → Nat → Nat} {am : Nat → Nat} {S : SS}
theorem MP.ch0 (h : MP ν y am S) (c : Int32) : chk (sI ν 7 0 y c) 7 y = some () := (h.s0 c).ch
theorem o_notesIn (h : BP μ x ad S) (hI : Inv S) (p b : Int32) : ∃ A, f_X4_notesIn μ x p b = some A ∧ Vw S S [3] A (fun ν y => f_X5_notesIn ν y p b) := by
  by_cases hp : ∃ j : Nat, j < S.1.1 ∧ p = nI j
  · obtain ⟨p, hp, rfl⟩ := hp
    by_cases hb : ∃ j : Nat, j < S.1.2.1 ∧ b = nI j
    · obtain ⟨b, hb, rfl⟩ := hb
      refine ⟨.inr (nI (cnt (qAt S (nI p) (nI b)) S.1.2.2)), by simp only [f_X4_notesIn, h.ch, obs, kp_hit h hI hp, kb_hit h hI hb, sml_r, c_countInBar h hI.1.2.2], Vw.look (fun ν y am hM => ⟨_, 0, ?_, Ag.v _⟩)⟩
      simp only [f_X5_notesIn, hM.ch, obs, now_no hM hI hp hb, bi2_s, ift, hM.ch0, m_many (hM.s0 0) hI.1.2.2]
    · refine ⟨.inl 3, by simp only [f_X4_notesIn, h.ch, obs, kp_hit h hI hp, kb_miss h hb, sml_r, sml_l], Vw.look (fun ν y am hM => ⟨0, 1, ?_, Ag.x (by decide)⟩)⟩
      simp only [f_X5_notesIn, hM.ch, obs, now_b hM hI hp hb, bi2_s, if1]
  · refine ⟨.inl 3, by simp only [f_X4_notesIn, h.ch, obs, kp_miss h hp, sml_l], Vw.look (fun ν y am hM => ⟨0, 1, ?_, Ag.x (by decide)⟩)⟩
    simp only [f_X5_notesIn, hM.ch, obs, now_p hM hI hp, bi2_s, if1]
theorem o_noteAt (h : BP μ x ad S) (hI : Inv S) (p b k : Int32) : ∃ A, f_X4_noteAt μ x p b k = some A ∧ Vw S S [3, 4] A (fun ν y => f_X5_noteAt ν y p b k) := by
  by_cases hp : ∃ j : Nat, j < S.1.1 ∧ p = nI j
  · obtain ⟨p, hp, rfl⟩ := hp
    by_cases hb : ∃ j : Nat, j < S.1.2.1 ∧ b = nI j
    · obtain ⟨b, hb, rfl⟩ := hb
      have h1 := c_inOrder h hI (nI p) (nI b) k
      rw [qln_fst hI.1.2.2] at h1
      cases hf : fst9 (qOr S (nI p) (nI b) k) S.1.2.2 S.1.2.2 with
      | none =>
        rw [hf] at h1
        refine ⟨.inl 4, by simp only [f_X4_noteAt, h.ch, obs, kp_hit h hI hp, kb_hit h hI hb, sml_r, h1, sml_l], Vw.look (fun ν y am hM => ⟨0, 2, ?_, Ag.x (by decide)⟩)⟩
        have h3 := m_noteBy (hM.s0 0) hI.1.2.2 (nI p) (nI b) k
        rw [hf] at h3
        simp only [f_X5_noteAt, hM.ch, obs, now_no hM hI hp hb, bi2_s, ift, hM.ch0, h3, if_neg (show ¬ (0 : Int32) ≤ -1 by decide), m_fails (hM.s0 0), s0_s0]
      | some i =>
        have hi := fst9_some hf (Nat.le_refl _)
        rw [hf] at h1
        refine ⟨.inr (nI i), by simp only [f_X4_noteAt, h.ch, obs, kp_hit h hI hp, kb_hit h hI hb, sml_r, h1], Vw.look (fun ν y am hM => ⟨_, 0, ?_, Ag.v _⟩)⟩
        have h3 := m_noteBy (hM.s0 0) hI.1.2.2 (nI p) (nI b) k
        rw [hf] at h3
        simp only [f_X5_noteAt, hM.ch, obs, now_no hM hI hp hb, bi2_s, ift, hM.ch0, h3, if_pos (nI_pos' (n := i) (by have := hI.1.2.2; omega))]
    · refine ⟨.inl 3, by simp only [f_X4_noteAt, h.ch, obs, kp_hit h hI hp, kb_miss h hb, sml_r, sml_l], Vw.look (fun ν y am hM => ⟨0, 1, ?_, Ag.x (by decide)⟩)⟩
      simp only [f_X5_noteAt, hM.ch, obs, now_b hM hI hp hb, bi2_s, if1]
  · refine ⟨.inl 3, by simp only [f_X4_noteAt, h.ch, obs, kp_miss h hp, sml_l], Vw.look (fun ν y am hM => ⟨0, 1, ?_, Ag.x (by decide)⟩)⟩
    simp only [f_X5_noteAt, hM.ch, obs, now_p hM hI hp, bi2_s, if1]
/-- of a note's number: it is in, it is out, or there is none -/
theorem note_cases (S : SS) (v : Int32) : (∃ i : Nat, i < S.1.2.2 ∧ v = nI i ∧ S.2 11 i ≠ 0) ∨ (∃ i : Nat, i < S.1.2.2 ∧ v = nI i ∧ S.2 11 i = 0) ∨ ¬ ∃ i : Nat, i < S.1.2.2 ∧ v = nI i := by
  by_cases hp : ∃ j : Nat, j < S.1.2.2 ∧ v = nI j
  · obtain ⟨j, hj, e⟩ := hp
    by_cases h : S.2 11 j = 0
    · exact Or.inr (Or.inl ⟨j, hj, e, h⟩)
    · exact Or.inl ⟨j, hj, e, h⟩
  · exact Or.inr (Or.inr hp)
theorem o_pitchOf (h : BP μ x ad S) (hI : Inv S) (v : Int32) : ∃ A, f_X4_pitchOf μ x v = some A ∧ Vw S S [4] A (fun ν y => f_X5_pitchOf ν y v) := by
  rcases note_cases S v with ⟨i, hi, rfl, g⟩ | ⟨i, hi, rfl, g⟩ | g
  · refine ⟨.inr (S.2 10 i), by simp only [f_X4_pitchOf, h.ch, obs, kn_hit h hI hi g, sml_r, h.t5 hi], Vw.look (fun ν y am hM => ⟨_, 0, ?_, Ag.v _⟩)⟩
    simp only [f_X5_pitchOf, hM.ch, obs, non_hit hM hI hi g, bi2_s, ift, (hM.s0 0).q9, (hM.s0 0).a9 hi hI.1.2.2]
  · refine ⟨.inl 4, by simp only [f_X4_pitchOf, h.ch, obs, kn_out h hI hi g, sml_l], Vw.look (fun ν y am hM => ⟨0, 1, ?_, Ag.x (by decide)⟩)⟩
    simp only [f_X5_pitchOf, hM.ch, obs, non_out hM hI hi g, bi2_s, if1]
  · refine ⟨.inl 4, by simp only [f_X4_pitchOf, h.ch, obs, kn_miss h g, sml_l], Vw.look (fun ν y am hM => ⟨0, 1, ?_, Ag.x (by decide)⟩)⟩
    simp only [f_X5_pitchOf, hM.ch, obs, non_miss hM hI g, bi2_s, if1]
theorem o_lengthOf (h : BP μ x ad S) (hI : Inv S) (v : Int32) : ∃ A, f_X4_lengthOf μ x v = some A ∧ Vw S S [4] A (fun ν y => f_X5_lengthOf ν y v) := by
  rcases note_cases S v with ⟨i, hi, rfl, g⟩ | ⟨i, hi, rfl, g⟩ | g
  · refine ⟨.inr (S.2 9 i), by simp only [f_X4_lengthOf, h.ch, obs, kn_hit h hI hi g, sml_r, h.t4 hi], Vw.look (fun ν y am hM => ⟨_, 0, ?_, Ag.v _⟩)⟩
    simp only [f_X5_lengthOf, hM.ch, obs, non_hit hM hI hi g, bi2_s, ift, (hM.s0 0).q8, (hM.s0 0).a8 hi hI.1.2.2]
  · refine ⟨.inl 4, by simp only [f_X4_lengthOf, h.ch, obs, kn_out h hI hi g, sml_l], Vw.look (fun ν y am hM => ⟨0, 1, ?_, Ag.x (by decide)⟩)⟩
    simp only [f_X5_lengthOf, hM.ch, obs, non_out hM hI hi g, bi2_s, if1]
  · refine ⟨.inl 4, by simp only [f_X4_lengthOf, h.ch, obs, kn_miss h g, sml_l], Vw.look (fun ν y am hM => ⟨0, 1, ?_, Ag.x (by decide)⟩)⟩
    simp only [f_X5_lengthOf, hM.ch, obs, non_miss hM hI g, bi2_s, if1]
theorem o_written (h : BP μ x ad S) (hI : Inv S) (v : Int32) : ∃ A, f_X4_written μ x v = some A ∧ Vw S S [4] A (fun ν y => f_X5_written ν y v) := by
  rcases note_cases S v with ⟨i, hi, rfl, g⟩ | ⟨i, hi, rfl, g⟩ | g
  · obtain ⟨p, b, hp, hb, e1, e2⟩ := hI.at hi
    refine ⟨.inr (S.2 10 i + S.2 0 p), by simp only [f_X4_written, h.ch, obs, kn_hit h hI hi g, sml_r, c_writtenPitch h hI hi hp e1], Vw.look (fun ν y am hM => ⟨_, 0, ?_, Ag.v _⟩)⟩
    simp only [f_X5_written, hM.ch, obs, non_hit hM hI hi g, bi2_s, ift, hM.ch0, m_writtenOf (hM.s0 0) hI hi hp e1]
  · refine ⟨.inl 4, by simp only [f_X4_written, h.ch, obs, kn_out h hI hi g, sml_l], Vw.look (fun ν y am hM => ⟨0, 1, ?_, Ag.x (by decide)⟩)⟩
    simp only [f_X5_written, hM.ch, obs, non_out hM hI hi g, bi2_s, if1]
  · refine ⟨.inl 4, by simp only [f_X4_written, h.ch, obs, kn_miss h g, sml_l], Vw.look (fun ν y am hM => ⟨0, 1, ?_, Ag.x (by decide)⟩)⟩
    simp only [f_X5_written, hM.ch, obs, non_miss hM hI g, bi2_s, if1]
theorem o_writtenKey (h : BP μ x ad S) (hI : Inv S) (p b : Int32) : ∃ A, f_X4_writtenKey μ x p b = some A ∧ Vw S S [3] A (fun ν y => f_X5_writtenKey ν y p b) := by
  by_cases hp : ∃ j : Nat, j < S.1.1 ∧ p = nI j
  · obtain ⟨p, hp, rfl⟩ := hp
    by_cases hb : ∃ j : Nat, j < S.1.2.1 ∧ b = nI j
    · obtain ⟨b, hb, rfl⟩ := hb
      obtain ⟨k1, -⟩ := key_eq (hI.2.2.1 b hb).2.1 (hI.2.1 p hp).1
      refine ⟨.inr (ky9 (S.2 3 b) (S.2 0 p)), by simp only [f_X4_writtenKey, h.ch, obs, kp_hit h hI hp, kb_hit h hI hb, sml_r, h.b1 hb, h.p0 hp, shifted_ok, k1], Vw.look (fun ν y am hM => ⟨_, 0, ?_, Ag.v _⟩)⟩
      simp only [f_X5_writtenKey, hM.ch, obs, now_no hM hI hp hb, bi2_s, ift, hM.ch0, m_keyOf (hM.s0 0) hI hp hb]
    · refine ⟨.inl 3, by simp only [f_X4_writtenKey, h.ch, obs, kp_hit h hI hp, kb_miss h hb, sml_r, sml_l, h.p0 hp], Vw.look (fun ν y am hM => ⟨0, 1, ?_, Ag.x (by decide)⟩)⟩
      simp only [f_X5_writtenKey, hM.ch, obs, now_b hM hI hp hb, bi2_s, if1]
  · refine ⟨.inl 3, by simp only [f_X4_writtenKey, h.ch, obs, kp_miss h hp, sml_l], Vw.look (fun ν y am hM => ⟨0, 1, ?_, Ag.x (by decide)⟩)⟩
    simp only [f_X5_writtenKey, hM.ch, obs, now_p hM hI hp, bi2_s, if1]
theorem o_isDivided (h : BP μ x ad S) (hI : Inv S) (p b : Int32) : ∃ A, f_X4_isDivided μ x p b = some A ∧ Vw S S [3] A (fun ν y => f_X5_isDivided ν y p b) := by
  by_cases hp : ∃ j : Nat, j < S.1.1 ∧ p = nI j
  · obtain ⟨p, hp, rfl⟩ := hp
    by_cases hb : ∃ j : Nat, j < S.1.2.1 ∧ b = nI j
    · obtain ⟨b, hb, rfl⟩ := hb
      have hv : ∀ v : Int32, f_X4_hasVoice μ x (nI p) (nI b) v = some (if anyN (qV S (nI p) (nI b) v) S.1.2.2 = true then 1 else 0) := by
        intro v
        rw [c_hasVoice h hI.1.2.2]
        by_cases e : anyN (qV S (nI p) (nI b) v) S.1.2.2 = true
        · have e2 : ∃ i, i < S.1.2.2 ∧ (qAt S (nI p) (nI b) i && decide (S.2 7 i = v)) = true := anyN_iff.mp e
          rw [if_pos e, if_pos e2]
        · have e2 : ¬ ∃ i, i < S.1.2.2 ∧ (qAt S (nI p) (nI b) i && decide (S.2 7 i = v)) = true := fun z => e (anyN_iff.mpr z)
          rw [if_neg e, if_neg e2]
      refine ⟨.inr (if enc9 (anyN (qV S (nI p) (nI b) 0) S.1.2.2) (anyN (qV S (nI p) (nI b) 1) S.1.2.2) = 3 then 1 else 0), ?_, Vw.look (fun ν y am hM => ⟨_, 0, ?_, Ag.v _⟩)⟩
      · simp only [f_X4_isDivided, h.ch, obs, kp_hit h hI hp, kb_hit h hI hb, sml_r, hv]
        generalize anyN (qV S (nI p) (nI b) 0) S.1.2.2 = a0
        generalize anyN (qV S (nI p) (nI b) 1) S.1.2.2 = a1
        cases a0 <;> cases a1 <;> rfl
      · simp only [f_X5_isDivided, hM.ch, obs, now_no hM hI hp hb, bi2_s, ift, m_dividedL (hM.s0 0) hI]
        split <;> rfl
    · refine ⟨.inl 3, by simp only [f_X4_isDivided, h.ch, obs, kp_hit h hI hp, kb_miss h hb, sml_r, sml_l], Vw.look (fun ν y am hM => ⟨0, 1, ?_, Ag.x (by decide)⟩)⟩
      simp only [f_X5_isDivided, hM.ch, obs, now_b hM hI hp hb, bi2_s, if1]
  · refine ⟨.inl 3, by simp only [f_X4_isDivided, h.ch, obs, kp_miss h hp, sml_l], Vw.look (fun ν y am hM => ⟨0, 1, ?_, Ag.x (by decide)⟩)⟩
    simp only [f_X5_isDivided, hM.ch, obs, now_p hM hI hp, bi2_s, if1]
theorem lt9_all : ∀ j, j < 24 → ∃ k, k < 7 ∧ rs9 (nI j - nI 10 + 1) 7 = nI k ∧ lt9 j = ltr k ∧ 0 ≤ (ltr k).toInt ∧ (ltr k).toInt < 65536 := by decide +kernel
theorem o_letterOf (h : BP μ x ad S) (hI : Inv S) (v : Int32) : ∃ A, f_X4_letterOf μ x v = some A ∧ Vw S S [4] A (fun ν y => f_X5_letterOf ν y v) := by
  rcases note_cases S v with ⟨i, hi, rfl, g⟩ | ⟨i, hi, rfl, g⟩ | g
  · obtain ⟨q, w, hq, hw, c1, -, c2⟩ := c_placeOf h hI hi
    obtain ⟨-, -, j, hj, e⟩ := place_all q hq w hw
    obtain ⟨k, hk, e1, e2, e3, e4⟩ := lt9_all j hj
    have hn : nc (ltr k) = some (ltr k) := if_pos ⟨e3, e4⟩
    have hc : chr9 (nI k) = some (ltr k) := by
      unfold chr9
      rw [if_pos (inb_nI hk (by decide)), nI_clamp (by omega)]
    refine ⟨.inr (ltr k), by simp only [f_X4_letterOf, h.ch, obs, kn_hit h hI hi g, sml_r, c1, e, letter_ok, e2, hn], Vw.look (fun ν y am hM => ⟨_, 0, ?_, Ag.v _⟩)⟩
    simp only [f_X5_letterOf, hM.ch, obs, non_hit hM hI hi g, bi2_s, ift, hM.ch0, c2 (hM.s0 0), e, rest_ok _ _ (show (7 : Int32) ≠ 0 by decide), e1, hc, hn]
  · refine ⟨.inl 4, by simp only [f_X4_letterOf, h.ch, obs, kn_out h hI hi g, sml_l], Vw.look (fun ν y am hM => ⟨0, 1, ?_, Ag.x (by decide)⟩)⟩
    simp only [f_X5_letterOf, hM.ch, obs, non_out hM hI hi g, bi2_s, if1, show nc 0 = some 0 from rfl]
  · refine ⟨.inl 4, by simp only [f_X4_letterOf, h.ch, obs, kn_miss h g, sml_l], Vw.look (fun ν y am hM => ⟨0, 1, ?_, Ag.x (by decide)⟩)⟩
    simp only [f_X5_letterOf, hM.ch, obs, non_miss hM hI g, bi2_s, if1, show nc 0 = some 0 from rfl]
theorem o_accidentalOf (h : BP μ x ad S) (hI : Inv S) (v : Int32) : ∃ A, f_X4_accidentalOf μ x v = some A ∧ Vw S S [4] A (fun ν y => f_X5_accidentalOf ν y v) := by
  rcases note_cases S v with ⟨i, hi, rfl, g⟩ | ⟨i, hi, rfl, g⟩ | g
  · obtain ⟨q, w, hq, hw, c1, -, c2⟩ := c_placeOf h hI hi
    obtain ⟨-, -, j, hj, e⟩ := place_all q hq w hw
    obtain ⟨e1, -, -⟩ := sharps_all j hj
    refine ⟨.inr ((nI j - nI 10 + 1 - rs9 (nI j - nI 10 + 1) 7) / 7), by simp only [f_X4_accidentalOf, h.ch, obs, kn_hit h hI hi g, sml_r, c1, e, f_X4_sharpsOfPlace, fdiv_ok _ _ (show (7 : Int32) ≠ 0 by decide), e1], Vw.look (fun ν y am hM => ⟨_, 0, ?_, Ag.v _⟩)⟩
    simp only [f_X5_accidentalOf, hM.ch, obs, non_hit hM hI hi g, bi2_s, ift, hM.ch0, c2 (hM.s0 0), e, rest_ok _ _ (show (7 : Int32) ≠ 0 by decide)]
  · refine ⟨.inl 4, by simp only [f_X4_accidentalOf, h.ch, obs, kn_out h hI hi g, sml_l], Vw.look (fun ν y am hM => ⟨0, 1, ?_, Ag.x (by decide)⟩)⟩
    simp only [f_X5_accidentalOf, hM.ch, obs, non_out hM hI hi g, bi2_s, if1]
  · refine ⟨.inl 4, by simp only [f_X4_accidentalOf, h.ch, obs, kn_miss h g, sml_l], Vw.look (fun ν y am hM => ⟨0, 1, ?_, Ag.x (by decide)⟩)⟩
    simp only [f_X5_accidentalOf, hM.ch, obs, non_miss hM hI g, bi2_s, if1]
end P38
