/-! addPart, addBar, addNote -/
section P39h
variable {μ μ' ν : Mem} {x y : Nat} {ad : Nat → Nat → Nat} {am : Nat → Nat} {S : SS}
theorem fresh_of {q : Nat} (hq : q ∉ mL μ) {k a : Nat} (h : ok9 μ k a) : a ≠ q := fun z => hq (z ▸ h.1)
theorem gI9 {c k a : Nat} {v : Int32} (h : ok9 μ c a) : getI (sI μ c k a v) c k a = some v := by
  rw [getI_ok (show ok9 (sI μ c k a v) c a from h)]
  exact congrArg some mI_sI_h
theorem pred9 (n : Nat) : nI n + 1 - 1 = nI n := by rw [nI_1, nI_pred]
theorem o_addPart (h : BP μ x ad S) (hI : Inv S) (v : Int32) : OpN μ x S [1, 2] (f_X4_addPart μ x v) (fun c q => f_X4_addPart_B μ c.1 c.2.1 c.2.2.1 c.2.2.2.1 c.2.2.2.2 q) (fun ν y => f_X5_addPart ν y v) := by
  have h5 := hI.1.1
  by_cases h1 : v < -12
  · refine OpN.no (.inl 1) (if_pos h1) 1 (Ag.x (by decide)) (fun ν y am hM => ?_)
    simp only [f_X5_addPart, hM.p0, obs, btw_lo _ h1, ift, hM.ch0, m_fails (hM.s0 0), bi2_s, s0_s0]
  · by_cases h2 : v ≤ 12
    · have h3 : ¬ 12 < v := Int32.not_lt.mpr h2
      by_cases h4 : S.1.1 < 5
      · refine Or.inr ⟨(nI S.1.1, some (ad 0 0), x, v, nI S.1.1), .inr (nI S.1.1), adS S (S.1.1 + 1, S.1.2) 0 1 S.1.1 (fun c => if c = 0 then v else 0), ?_, hI.addP h4 ?_ rfl, fun ν y am hM => ?_, fun q hq => ?_⟩
        · simp only [f_X4_addPart, if_neg h1, if_pos h2, h.i4, h.q0, obs, h.n0, if_pos (nI_lt h4 (by decide))]
        · rw [Int32.lt_iff_toInt_lt, show (-12 : Int32).toInt = -12 from by decide] at h1
          rw [Int32.lt_iff_toInt_lt, show (12 : Int32).toInt = 12 from by decide] at h3
          rw [if_pos rfl]
          omega
        · have hM0 := hM.s0 0
          have c2 : getI (sR (sI ν 7 0 y 0) 30 (am 1) S.1.1 v) 7 15 y = some (nI S.1.1) := hM0.i15
          have c3 : putI (sR (sI ν 7 0 y 0) 30 (am 1) S.1.1 v) 7 15 y (nI S.1.1 + 1) = some (sI (sR (sI ν 7 0 y 0) 30 (am 1) S.1.1 v) 7 15 y (nI S.1.1 + 1)) := putI_ok hM0.1
          have c4 : getI (sI (sR (sI ν 7 0 y 0) 30 (am 1) S.1.1 v) 7 15 y (nI S.1.1 + 1)) 7 15 y = some (nI S.1.1 + 1) := gI9 hM0.1
          refine ⟨nI S.1.1, sI (sR (sI ν 7 0 y 0) 30 (am 1) S.1.1 v) 7 15 y (nI S.1.1 + 1), ?_, hM0.addP h4 (by rw [if_pos rfl]) rfl, (hM.f0 0).trans (hM0.f101.trans (FR.sI (by rw [show mK (sR (sI ν 7 0 y 0) 30 (am 1) S.1.1 v) y = 7 from hM0.1.2]; rfl))), ?_⟩
          · simp only [f_X5_addPart, hM.p0, obs, btw_in _ h1 h3, if1, hM0.i15, if_neg (show ¬ nI S.1.1 = 5 from fun z => absurd ((nI_eq (b := 5) (by omega) (by decide)).mp z) (by omega)), hM0.q1, hM0.w1 h4, c2, c3, c4, pred9]
          · rw [mI_sI_k (by decide), mI_sR, mI_sI_h]
            exact Ag.v _
        · have o0 : ok9 (sNew μ q 5 0) 5 q := ok9_new
          have f0 : FR 3 μ (sNew μ q 5 0) := FR.sNew hq
          have f2 : FR 3 μ (sI (sI (sNew μ q 5 0) 5 1 q 0) 5 0 q v) := (f0.nw hq).nw hq
          have b2 := h.fr f2 (by decide)
          have o2 : ok9 (sI (sI (sNew μ q 5 0) 5 1 q 0) 5 0 q v) 5 q := o0
          have c1 : putZ (sNew μ q 5 0) 5 1 q 0 = some (sI (sNew μ q 5 0) 5 1 q 0) := putZ_ok o0 (Or.inl rfl)
          have c2 : putI (sI (sNew μ q 5 0) 5 1 q 0) 5 0 q v = some (sI (sI (sNew μ q 5 0) 5 1 q 0) 5 0 q v) := putI_ok o0
          have c3 : qst (sI (sI (sNew μ q 5 0) 5 1 q 0) 5 0 q v) (ad 0 0) (nI S.1.1) q = some (sS (sI (sI (sNew μ q 5 0) 5 1 q 0) 5 0 q v) 20 (ad 0 0) S.1.1 (some q)) := qst_ok b2.2.2.1.1.1 b2.2.2.1.1.2 (by decide) (by decide) h4 (by decide) o2
          have c4 : putI (sS (sI (sI (sNew μ q 5 0) 5 1 q 0) 5 0 q v) 20 (ad 0 0) S.1.1 (some q)) 6 4 x (nI S.1.1 + 1) = some (sI (sS (sI (sI (sNew μ q 5 0) 5 1 q 0) 5 0 q v) 20 (ad 0 0) S.1.1 (some q)) 6 4 x (nI S.1.1 + 1)) := putI_ok b2.1.1
          refine ⟨_, ?_, ⟨_, b2.addP (w := fun c => if c = 0 then v else 0) (fun i hi => fresh_of hq (h.2.2.2.2.2.1.1 i hi).1) o2 ?_ ?_⟩, f2.weak.trans ((FR.sS ?_).trans (FR.sI ?_))⟩
          · simp only [f_X4_addPart_B, f_X3_init, c1, obs, c2, bi2_s, c3, c4]
          · exact mI_sI_h
          · exact (mI_sI_k (by decide)).trans mI_sI_h
          · rw [b2.2.2.1.1.1.2]; rfl
          · rw [show mK (sS (sI (sI (sNew μ q 5 0) 5 1 q 0) 5 0 q v) 20 (ad 0 0) S.1.1 (some q)) x = 6 from b2.1.1.2]; rfl
      · have e5 : S.1.1 = 5 := by omega
        have e5' : nI S.1.1 = 5 := by rw [e5]; rfl
        refine OpN.no (.inl 2) ?_ 2 (Ag.x (by decide)) (fun ν y am hM => ?_)
        · simp only [f_X4_addPart, if_neg h1, if_pos h2, h.i4, h.q0, obs, h.n0, if_neg (nI_nlt (show 5 ≤ S.1.1 by omega) (by omega))]
        · simp only [f_X5_addPart, hM.p0, obs, btw_in _ h1 h3, if1, (hM.s0 0).i15, if_pos e5', hM.ch0, m_fails (hM.s0 0), bi2_s, s0_s0]
    · have h3 : 12 < v := Int32.not_le.mp h2
      refine OpN.no (.inl 1) (by simp only [f_X4_addPart, if_neg h1, if_neg h2]) 1 (Ag.x (by decide)) (fun ν y am hM => ?_)
      simp only [f_X5_addPart, hM.p0, obs, btw_hi _ h3, ift, hM.ch0, m_fails (hM.s0 0), bi2_s, s0_s0]
theorem o_addBar (h : BP μ x ad S) (hI : Inv S) (v k m : Int32) (hm : m = 0 ∨ m = 1) : OpN μ x S [1, 2] (f_X4_addBar μ x v k m) (fun c q => f_X4_addBar_B μ c.1 c.2.1 c.2.2.1 c.2.2.2.1 c.2.2.2.2.1 c.2.2.2.2.2.1 c.2.2.2.2.2.2 q) (fun ν y => f_X5_addBar ν y v k m) := by
  have h14 := hI.1.2.1
  by_cases h1 : v < 1
  · refine OpN.no (.inl 1) (if_pos h1) 1 (Ag.x (by decide)) (fun ν y am hM => ?_)
    simp only [f_X5_addBar, hM.p0, obs, btw_lo _ h1, ift, hM.ch0, m_fails (hM.s0 0), bi2_s, s0_s0]
  · by_cases h2 : 8 < v
    · refine OpN.no (.inl 1) (by simp only [f_X4_addBar, if_neg h1, if_pos h2]) 1 (Ag.x (by decide)) (fun ν y am hM => ?_)
      simp only [f_X5_addBar, hM.p0, obs, btw_hi _ h2, ift, hM.ch0, m_fails (hM.s0 0), bi2_s, s0_s0]
    · rcases key_cases (μ := μ) μ k with ⟨g1, g2, g3, -⟩ | ⟨g3, -⟩
      · have gk : ∀ ν : Mem, f_X5_isBetween ν k (-6) 6 = some 1 := by
          intro ν
          rcases key_cases (μ := μ) ν k with ⟨-, -, -, g4⟩ | ⟨g5, -⟩
          · exact g4
          · rw [g3] at g5; exact absurd g5 (by decide)
        by_cases h4 : S.1.2.1 < 14
        · refine Or.inr ⟨(nI S.1.2.1, some (ad 0 1), x, v, k, m, nI S.1.2.1), .inr (nI S.1.2.1), adS S (S.1.1, S.1.2.1 + 1, S.1.2.2) 2 4 S.1.2.1 (fun c => if c = 2 then v else if c = 3 then k else m), ?_, hI.addB h4 ?_ ?_ ?_, fun ν y am hM => ?_, fun q hq => ?_⟩
          · simp only [f_X4_addBar, if_neg h1, if_neg h2, g3, if1, h.i5, h.q1, obs, h.n1, if_pos (nI_lt h4 (by decide))]
          · rw [Int32.lt_iff_toInt_lt, show (1 : Int32).toInt = 1 from by decide] at h1
            rw [Int32.lt_iff_toInt_lt, show (8 : Int32).toInt = 8 from by decide] at h2
            rw [if_pos rfl]
            omega
          · rw [if_neg (by decide), if_pos rfl]
            exact ⟨g1, g2⟩
          · rw [if_neg (by decide), if_neg (by decide)]
            exact hm
          · have hM0 := hM.s0 0
            have k3 := hM0.ok (k := 3) (by decide)
            have k12 := hM0.ok (k := 12) (by decide)
            have c1 := hM0.w2 (i := S.1.2.1) (v := v) h4
            have q3 : getQ (sR (sI ν 7 0 y 0) 31 (am 2) S.1.2.1 v) 7 3 y = some (some (am 3)) := hM0.q3
            have i3 : getI (sR (sI ν 7 0 y 0) 31 (am 2) S.1.2.1 v) 7 16 y = some (nI S.1.2.1) := hM0.i16
            have c2 : ast (sR (sI ν 7 0 y 0) 31 (am 2) S.1.2.1 v) (am 3) (nI S.1.2.1) k = some (sR (sR (sI ν 7 0 y 0) 31 (am 2) S.1.2.1 v) 32 (am 3) S.1.2.1 k) := ast_ok (k := 32) (n := 14) k3.1 k3.2 (by decide) (by decide) h4 (by decide)
            have q12 : getQ (sR (sR (sI ν 7 0 y 0) 31 (am 2) S.1.2.1 v) 32 (am 3) S.1.2.1 k) 7 12 y = some (some (am 12)) := hM0.q12
            have i12 : getI (sR (sR (sI ν 7 0 y 0) 31 (am 2) S.1.2.1 v) 32 (am 3) S.1.2.1 k) 7 16 y = some (nI S.1.2.1) := hM0.i16
            have c3 : zst (sR (sR (sI ν 7 0 y 0) 31 (am 2) S.1.2.1 v) 32 (am 3) S.1.2.1 k) (am 12) (nI S.1.2.1) m = some (sR (sR (sR (sI ν 7 0 y 0) 31 (am 2) S.1.2.1 v) 32 (am 3) S.1.2.1 k) 41 (am 12) S.1.2.1 m) := zst_ok (k := 41) (n := 14) k12.1 k12.2 (by decide) (by decide) h4 (by decide) hm
            have i4 : getI (sR (sR (sR (sI ν 7 0 y 0) 31 (am 2) S.1.2.1 v) 32 (am 3) S.1.2.1 k) 41 (am 12) S.1.2.1 m) 7 16 y = some (nI S.1.2.1) := hM0.i16
            have c4 : putI (sR (sR (sR (sI ν 7 0 y 0) 31 (am 2) S.1.2.1 v) 32 (am 3) S.1.2.1 k) 41 (am 12) S.1.2.1 m) 7 16 y (nI S.1.2.1 + 1) = some (sI (sR (sR (sR (sI ν 7 0 y 0) 31 (am 2) S.1.2.1 v) 32 (am 3) S.1.2.1 k) 41 (am 12) S.1.2.1 m) 7 16 y (nI S.1.2.1 + 1)) := putI_ok hM0.1
            have c5 : getI (sI (sR (sR (sR (sI ν 7 0 y 0) 31 (am 2) S.1.2.1 v) 32 (am 3) S.1.2.1 k) 41 (am 12) S.1.2.1 m) 7 16 y (nI S.1.2.1 + 1)) 7 16 y = some (nI S.1.2.1 + 1) := gI9 hM0.1
            refine ⟨nI S.1.2.1, sI (sR (sR (sR (sI ν 7 0 y 0) 31 (am 2) S.1.2.1 v) 32 (am 3) S.1.2.1 k) 41 (am 12) S.1.2.1 m) 7 16 y (nI S.1.2.1 + 1), ?_, hM0.addB (w := fun c => if c = 2 then v else if c = 3 then k else m) ?_ ?_ ?_, (hM.f0 0).trans (hM0.f102.trans ((FR.sR ?_).trans ((FR.sR ?_).trans (FR.sI ?_)))), ?_⟩
            · simp only [f_X5_addBar, hM.p0, obs, btw_in _ h1 h2, if1, gk, hM0.i16, if_neg (show ¬ nI S.1.2.1 = 14 from fun z => absurd ((nI_eq (b := 14) (by omega) (by decide)).mp z) (by omega)), hM0.q2, c1, q3, i3, c2, q12, i12, c3, i4, c4, c5, pred9]
            · rw [if_pos rfl]
            · rw [if_neg (by decide), if_pos rfl]
            · rw [if_neg (by decide), if_neg (by decide)]
            · rw [show mK (sR (sI ν 7 0 y 0) 31 (am 2) S.1.2.1 v) (am 3) = 32 from k3.1.2]; rfl
            · rw [show mK (sR (sR (sI ν 7 0 y 0) 31 (am 2) S.1.2.1 v) 32 (am 3) S.1.2.1 k) (am 12) = 41 from k12.1.2]; rfl
            · rw [show mK (sR (sR (sR (sI ν 7 0 y 0) 31 (am 2) S.1.2.1 v) 32 (am 3) S.1.2.1 k) 41 (am 12) S.1.2.1 m) y = 7 from hM0.1.2]; rfl
            · rw [mI_sI_k (by decide), mI_sR, mI_sR, mI_sR, mI_sI_h]
              exact Ag.v _
          · have o0 : ok9 (sNew μ q 2 0) 2 q := ok9_new
            have f0 : FR 3 μ (sNew μ q 2 0) := FR.sNew hq
            have f2 : FR 3 μ (sI (sI (sI (sNew μ q 2 0) 2 0 q (v * 4)) 2 1 q k) 2 2 q m) := ((f0.nw hq).nw hq).nw hq
            have b2 := h.fr f2 (by decide)
            have o2 : ok9 (sI (sI (sI (sNew μ q 2 0) 2 0 q (v * 4)) 2 1 q k) 2 2 q m) 2 q := o0
            have c1 : putI (sNew μ q 2 0) 2 0 q (v * 4) = some (sI (sNew μ q 2 0) 2 0 q (v * 4)) := putI_ok o0
            have c2 : putI (sI (sNew μ q 2 0) 2 0 q (v * 4)) 2 1 q k = some (sI (sI (sNew μ q 2 0) 2 0 q (v * 4)) 2 1 q k) := putI_ok o0
            have c2' : putZ (sI (sI (sNew μ q 2 0) 2 0 q (v * 4)) 2 1 q k) 2 2 q m = some (sI (sI (sI (sNew μ q 2 0) 2 0 q (v * 4)) 2 1 q k) 2 2 q m) := putZ_ok o0 hm
            have c3 : qst (sI (sI (sI (sNew μ q 2 0) 2 0 q (v * 4)) 2 1 q k) 2 2 q m) (ad 0 1) (nI S.1.2.1) q = some (sS (sI (sI (sI (sNew μ q 2 0) 2 0 q (v * 4)) 2 1 q k) 2 2 q m) 21 (ad 0 1) S.1.2.1 (some q)) := qst_ok b2.2.2.1.2.1.1 b2.2.2.1.2.1.2 (by decide) (by decide) h4 (by decide) o2
            have c4 : putI (sS (sI (sI (sI (sNew μ q 2 0) 2 0 q (v * 4)) 2 1 q k) 2 2 q m) 21 (ad 0 1) S.1.2.1 (some q)) 6 5 x (nI S.1.2.1 + 1) = some (sI (sS (sI (sI (sI (sNew μ q 2 0) 2 0 q (v * 4)) 2 1 q k) 2 2 q m) 21 (ad 0 1) S.1.2.1 (some q)) 6 5 x (nI S.1.2.1 + 1)) := putI_ok b2.1.1
            refine ⟨_, ?_, ⟨_, b2.addB (w := fun c => if c = 2 then v else if c = 3 then k else m) (fun i hi => fresh_of hq (h.2.2.2.2.2.1.2.1 i hi).1) o2 ?_ ?_ ?_⟩, f2.weak.trans ((FR.sS ?_).trans (FR.sI ?_))⟩
            · simp only [f_X4_addBar_B, f_X0_init, c1, obs, c2, c2', bi2_s, c3, c4]
            · rw [if_pos rfl]
              exact (mI_sI_k (by decide)).trans ((mI_sI_k (by decide)).trans mI_sI_h)
            · rw [if_neg (by decide), if_pos rfl]
              exact (mI_sI_k (by decide)).trans mI_sI_h
            · rw [if_neg (by decide), if_neg (by decide)]
              exact mI_sI_h
            · rw [b2.2.2.1.2.1.1.2]; rfl
            · rw [show mK (sS (sI (sI (sI (sNew μ q 2 0) 2 0 q (v * 4)) 2 1 q k) 2 2 q m) 21 (ad 0 1) S.1.2.1 (some q)) x = 6 from b2.1.1.2]; rfl
        · have e5' : nI S.1.2.1 = 14 := by rw [show S.1.2.1 = 14 by omega]; rfl
          refine OpN.no (.inl 2) ?_ 2 (Ag.x (by decide)) (fun ν y am hM => ?_)
          · simp only [f_X4_addBar, if_neg h1, if_neg h2, g3, if1, h.i5, h.q1, obs, h.n1, if_neg (nI_nlt (show 14 ≤ S.1.2.1 by omega) (by omega))]
          · simp only [f_X5_addBar, hM.p0, obs, btw_in _ h1 h2, if1, gk, (hM.s0 0).i16, if_pos e5', hM.ch0, m_fails (hM.s0 0), bi2_s, s0_s0]
      · have gk : ∀ ν : Mem, f_X5_isBetween ν k (-6) 6 = some 0 := by
          intro ν
          rcases key_cases (μ := μ) ν k with ⟨-, -, g5, -⟩ | ⟨-, g4⟩
          · rw [g3] at g5; exact absurd g5 (by decide)
          · exact g4
        refine OpN.no (.inl 1) (by simp only [f_X4_addBar, if_neg h1, if_neg h2, g3, obs, ift]) 1 (Ag.x (by decide)) (fun ν y am hM => ?_)
        simp only [f_X5_addBar, hM.p0, obs, btw_in _ h1 h2, if1, gk, ift, hM.ch0, m_fails (hM.s0 0), bi2_s, s0_s0]
end P39h
