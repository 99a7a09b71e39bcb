/-! addNote -/
section P39i
variable {μ μ' ν : Mem} {x y : Nat} {ad : Nat → Nat → Nat} {am : Nat → Nat} {S : SS}
theorem mI_sI {c k a c' k' a' : Nat} {v : Int32} : mI (sI μ c k a v) c' k' a' = if c' = c ∧ k' = k ∧ a' = a then v else mI μ c' k' a' := byR rfl
/-- a new note -/
def mN9 (μ : Mem) (q : Nat) (p b v t n k : Int32) : Mem := sI (sI (sI (sI (sI (sI (sI (sI (sI (sI (sI (sNew μ q 4 0) 4 6 q 1) 4 7 q 0) 4 8 q 0) 4 9 q 0) 4 10 q 1) 4 0 q p) 4 1 q b) 4 2 q v) 4 3 q t) 4 4 q n) 4 5 q k
def wN9 (p b v t n k : Int32) (c : Nat) : Int32 := if c = 5 then p else if c = 6 then b else if c = 7 then v else if c = 8 then t else if c = 9 then n else if c = 10 then k else if c = 11 then 1 else if c = 15 then 1 else 0
theorem mN9_fr {q : Nat} (hq : q ∉ mL μ) (p b v t n k : Int32) : FR 3 μ (mN9 μ q p b v t n k) := by
  unfold mN9
  exact (((((((((((FR.sNew hq).nw hq).nw hq).nw hq).nw hq).nw hq).nw hq).nw hq).nw hq).nw hq).nw hq).nw hq
theorem mN9_ok {q : Nat} (p b v t n k : Int32) : ok9 (mN9 μ q p b v t n k) 4 q := (ok9_new : ok9 (sNew μ q 4 0) 4 q)
theorem mN9_i {q : Nat} (p b v t n k : Int32) : ∀ j, j < 11 → mI (mN9 μ q p b v t n k) 4 j q = wN9 p b v t n k (j + 5) := by
  intro j hj
  have h : j = 0 ∨ j = 1 ∨ j = 2 ∨ j = 3 ∨ j = 4 ∨ j = 5 ∨ j = 6 ∨ j = 7 ∨ j = 8 ∨ j = 9 ∨ j = 10 := by omega
  rcases h with rfl | rfl | rfl | rfl | rfl | rfl | rfl | rfl | rfl | rfl | rfl <;> simp [mN9, mI_sI, wN9]
theorem mN9_init {q : Nat} (p b v t n k : Int32) : f_X2_init (sNew μ q 4 0) q p b v t n k = some ((), mN9 μ q p b v t n k) := by
  have o0 : ok9 (sNew μ q 4 0) 4 q := ok9_new
  have c0 : putZ (sNew μ q 4 0) 4 6 q 1 = some (sI (sNew μ q 4 0) 4 6 q 1) := putZ_ok o0 (Or.inr rfl)
  have c1 : putZ (sI (sNew μ q 4 0) 4 6 q 1) 4 7 q 0 = some (sI (sI (sNew μ q 4 0) 4 6 q 1) 4 7 q 0) := putZ_ok o0 (Or.inl rfl)
  have c2 : putI (sI (sI (sNew μ q 4 0) 4 6 q 1) 4 7 q 0) 4 8 q 0 = some (sI (sI (sI (sNew μ q 4 0) 4 6 q 1) 4 7 q 0) 4 8 q 0) := putI_ok o0
  have c3 : putI (sI (sI (sI (sNew μ q 4 0) 4 6 q 1) 4 7 q 0) 4 8 q 0) 4 9 q 0 = some (sI (sI (sI (sI (sNew μ q 4 0) 4 6 q 1) 4 7 q 0) 4 8 q 0) 4 9 q 0) := putI_ok o0
  have c4 : putZ (sI (sI (sI (sI (sNew μ q 4 0) 4 6 q 1) 4 7 q 0) 4 8 q 0) 4 9 q 0) 4 10 q 1 = some (sI (sI (sI (sI (sI (sNew μ q 4 0) 4 6 q 1) 4 7 q 0) 4 8 q 0) 4 9 q 0) 4 10 q 1) := putZ_ok o0 (Or.inr rfl)
  have c5 : putI (sI (sI (sI (sI (sI (sNew μ q 4 0) 4 6 q 1) 4 7 q 0) 4 8 q 0) 4 9 q 0) 4 10 q 1) 4 0 q p = some (sI (sI (sI (sI (sI (sI (sNew μ q 4 0) 4 6 q 1) 4 7 q 0) 4 8 q 0) 4 9 q 0) 4 10 q 1) 4 0 q p) := putI_ok o0
  have c6 : putI (sI (sI (sI (sI (sI (sI (sNew μ q 4 0) 4 6 q 1) 4 7 q 0) 4 8 q 0) 4 9 q 0) 4 10 q 1) 4 0 q p) 4 1 q b = some (sI (sI (sI (sI (sI (sI (sI (sNew μ q 4 0) 4 6 q 1) 4 7 q 0) 4 8 q 0) 4 9 q 0) 4 10 q 1) 4 0 q p) 4 1 q b) := putI_ok o0
  have c7 : putI (sI (sI (sI (sI (sI (sI (sI (sNew μ q 4 0) 4 6 q 1) 4 7 q 0) 4 8 q 0) 4 9 q 0) 4 10 q 1) 4 0 q p) 4 1 q b) 4 2 q v = some (sI (sI (sI (sI (sI (sI (sI (sI (sNew μ q 4 0) 4 6 q 1) 4 7 q 0) 4 8 q 0) 4 9 q 0) 4 10 q 1) 4 0 q p) 4 1 q b) 4 2 q v) := putI_ok o0
  have c8 : putI (sI (sI (sI (sI (sI (sI (sI (sI (sNew μ q 4 0) 4 6 q 1) 4 7 q 0) 4 8 q 0) 4 9 q 0) 4 10 q 1) 4 0 q p) 4 1 q b) 4 2 q v) 4 3 q t = some (sI (sI (sI (sI (sI (sI (sI (sI (sI (sNew μ q 4 0) 4 6 q 1) 4 7 q 0) 4 8 q 0) 4 9 q 0) 4 10 q 1) 4 0 q p) 4 1 q b) 4 2 q v) 4 3 q t) := putI_ok o0
  have c9 : putI (sI (sI (sI (sI (sI (sI (sI (sI (sI (sNew μ q 4 0) 4 6 q 1) 4 7 q 0) 4 8 q 0) 4 9 q 0) 4 10 q 1) 4 0 q p) 4 1 q b) 4 2 q v) 4 3 q t) 4 4 q n = some (sI (sI (sI (sI (sI (sI (sI (sI (sI (sI (sNew μ q 4 0) 4 6 q 1) 4 7 q 0) 4 8 q 0) 4 9 q 0) 4 10 q 1) 4 0 q p) 4 1 q b) 4 2 q v) 4 3 q t) 4 4 q n) := putI_ok o0
  have c10 : putI (sI (sI (sI (sI (sI (sI (sI (sI (sI (sI (sNew μ q 4 0) 4 6 q 1) 4 7 q 0) 4 8 q 0) 4 9 q 0) 4 10 q 1) 4 0 q p) 4 1 q b) 4 2 q v) 4 3 q t) 4 4 q n) 4 5 q k = some (sI (sI (sI (sI (sI (sI (sI (sI (sI (sI (sI (sNew μ q 4 0) 4 6 q 1) 4 7 q 0) 4 8 q 0) 4 9 q 0) 4 10 q 1) 4 0 q p) 4 1 q b) 4 2 q v) 4 3 q t) 4 4 q n) 4 5 q k) := putI_ok o0
  simp only [f_X2_init, obs, c0, c1, c2, c3, c4, c5, c6, c7, c8, c9, c10]
  rfl
theorem nI_m1 {i : Nat} (h : i < 2 ^ 31) : nI i ≠ -1 := fun z => nI_pos h (z ▸ (by decide))
theorem o_addNote (h : BP μ x ad S) (hI : Inv S) (pp bb v t n k : Int32) : OpN μ x S [3, 1, 5, 2] (f_X4_addNote μ x pp bb v t n k) (fun c q => f_X4_addNote_B μ c.1 c.2.1 c.2.2.1 c.2.2.2.1 c.2.2.2.2.1 c.2.2.2.2.2.1 c.2.2.2.2.2.2.1 c.2.2.2.2.2.2.2 q) (fun ν y => f_X5_addNote ν y pp bb v t n k) := by
  have h120 := hI.1.2.2
  by_cases hp : ∃ j : Nat, j < S.1.1 ∧ pp = nI j
  · obtain ⟨p, hp, rfl⟩ := hp
    by_cases hb : ∃ j : Nat, j < S.1.2.1 ∧ bb = nI j
    · obtain ⟨b, hb, rfl⟩ := hb
      have hno : ∀ (e1 : f_X4_addNote μ x (nI p) (nI b) v t n k = some (.inl (.inl 1, μ))) (e2 : ∀ (ν : Mem) (y : Nat) (am : Nat → Nat), MP ν y am S → f_X5_addNote ν y (nI p) (nI b) v t n k = some (0, sI ν 7 0 y 2)), OpN μ x S [3, 1, 5, 2] (f_X4_addNote μ x (nI p) (nI b) v t n k) (fun c q => f_X4_addNote_B μ c.1 c.2.1 c.2.2.1 c.2.2.2.1 c.2.2.2.2.1 c.2.2.2.2.2.1 c.2.2.2.2.2.2.1 c.2.2.2.2.2.2.2 q) (fun ν y => f_X5_addNote ν y (nI p) (nI b) v t n k) := fun e1 e2 => OpN.no (.inl 1) e1 2 (Ag.x (by decide)) e2
      rcases ix3 v (n := 2) (by decide) with ⟨h1, -⟩ | ⟨h2, h1, -⟩ | ⟨j, hj, rfl⟩
      · refine hno ?_ (fun ν y am hM => ?_)
        · simp only [f_X4_addNote, h.ch, obs, kp_hit h hI hp, kb_hit h hI hb, sml_r, if_pos h1]
        · simp only [f_X5_addNote, hM.p0, obs, hM.ch0, m_isPart_hit (hM.s0 0) hI hp, m_isBar_hit (hM.s0 0) hI hb, if1, btw_lo _ h1, ift, m_fails (hM.s0 0), bi2_s, s0_s0]
      · have h2' : (2 : Int32) ≤ v := h2
        have h3 : (1 : Int32) < v := Int32.lt_of_lt_of_le (by decide) h2
        refine hno ?_ (fun ν y am hM => ?_)
        · simp only [f_X4_addNote, h.ch, obs, kp_hit h hI hp, kb_hit h hI hb, sml_r, if_neg h1, if_pos h2']
        · simp only [f_X5_addNote, hM.p0, obs, hM.ch0, m_isPart_hit (hM.s0 0) hI hp, m_isBar_hit (hM.s0 0) hI hb, if1, btw_hi _ h3, ift, m_fails (hM.s0 0), bi2_s, s0_s0]
      · have h1 : ¬ nI j < 0 := nI_pos (by omega)
        have h2 : ¬ (2 : Int32) ≤ nI j := nI_ge (b := 2) hj (by decide)
        have h3 : ¬ (1 : Int32) < nI j := nI_nlt (a := 1) (by omega) (by decide)
        have h01 : nI j = 0 ∨ nI j = 1 := by
          rcases (show j = 0 ∨ j = 1 by omega) with rfl | rfl
          · exact Or.inl rfl
          · exact Or.inr rfl
        generalize nI j = v at hno h1 h2 h3 h01 ⊢
        have ba := fun ν : Mem => btw_in ν h1 h3
        rcases pitch_cases (μ := μ) μ k with ⟨g1, g2, g3, -⟩ | ⟨g3, -⟩
        · have gk : ∀ ν : Mem, f_X5_isBetween ν k 24 96 = some 1 := by
            intro ν
            rcases pitch_cases (μ := μ) ν k with ⟨-, -, -, g4⟩ | ⟨g5, -⟩
            · exact g4
            · rw [g3] at g5; exact absurd g5 (by decide)
          rcases c_holds h hI hb t n with ⟨w, hh⟩ | ⟨w, hh⟩
          · have hwi : ∀ (ν : Mem) (y : Nat) (am : Nat → Nat), MP ν y am S → f_X5_isWithin ν y (nI b) t n = some 1 := by
              intro ν y am hM
              rcases m_within hM hI hb t n with ⟨-, z⟩ | ⟨z, -⟩
              · exact z
              · exact absurd w z
            have e1 : f_X4_addNote μ x (nI p) (nI b) v t n k = some (.inr (x, nI p, nI b, v, t, n, k, ad 3 b)) := by
              simp only [f_X4_addNote, h.ch, obs, kp_hit h hI hp, kb_hit h hI hb, sml_r, if_neg h1, if_neg h2, g3, if1, h.chB hb, hh]
            have hB : ∀ q, q ∉ mL μ → BP (mN9 μ q (nI p) (nI b) v t n k) x ad S := fun q hq => h.fr (mN9_fr hq _ _ _ _ _ _) (by decide)
            have hmt : ∀ q, q ∉ mL μ → f_X4_meetsAnother (mN9 μ q (nI p) (nI b) v t n k) x (some q) n = some (if ∃ i, i < S.1.2.2 ∧ (decide (nI i ≠ -1) && qMt S (nI p) (nI b) v t n i) = true then 1 else 0) := by
              intro q hq
              have oq := mN9_ok (μ := μ) (q := q) (nI p) (nI b) v t n k
              have iq := mN9_i (μ := μ) (q := q) (nI p) (nI b) v t n k
              refine c_meets (hB q hq) h120 ((getI_ok oq).trans (congrArg some (iq 0 (by decide)))) ((getI_ok oq).trans (congrArg some (iq 1 (by decide)))) ((getI_ok oq).trans (congrArg some (iq 2 (by decide)))) ((getI_ok oq).trans (congrArg some (iq 3 (by decide)))) (-1) (fun i hi => ⟨fun z => absurd z (fresh_of hq (h.2.2.2.2.2.1.2.2 i hi).1), fun z => absurd z (nI_m1 (by omega))⟩)
            have htk : ∀ (ν : Mem) (y : Nat) (am : Nat → Nat), MP ν y am S → f_X5_isTaken ν y (nI p) (nI b) v t n (-1) = some (if ∃ i, i < S.1.2.2 ∧ (decide (nI i ≠ -1) && qMt S (nI p) (nI b) v t n i) = true then 1 else 0) := fun ν y am hM => m_isTaken hM h120 _ _ _ _ _ _
            by_cases hx : ∃ i, i < S.1.2.2 ∧ (decide (nI i ≠ -1) && qMt S (nI p) (nI b) v t n i) = true
            · refine Or.inr ⟨_, .inl 5, S, e1, hI, Vw.look (fun ν y am hM => ⟨0, 3, ?_, Ag.x (by decide)⟩), fun q hq => ⟨mN9 μ q (nI p) (nI b) v t n k, ?_, ⟨ad, hB q hq⟩, (mN9_fr hq _ _ _ _ _ _).weak⟩⟩
              · have e3 := htk _ _ _ (hM.s0 0)
                rw [if_pos hx] at e3
                simp only [f_X5_addNote, hM.p0, obs, hM.ch0, m_isPart_hit (hM.s0 0) hI hp, m_isBar_hit (hM.s0 0) hI hb, if1, ba, gk, hwi _ _ _ (hM.s0 0), e3, m_fails (hM.s0 0), bi2_s, s0_s0]
              · have e3 := hmt q hq
                rw [if_pos hx] at e3
                simp only [f_X4_addNote_B, mN9_init, bi2_s, (hB q hq).ch, obs, e3, if1]
            · by_cases h4 : S.1.2.2 < 120
              · refine Or.inr ⟨_, .inr (nI S.1.2.2), adS S (S.1.1, S.1.2.1, S.1.2.2 + 1) 5 15 S.1.2.2 (wN9 (nI p) (nI b) v t n k), e1, hI.addN h4 hp hb rfl rfl w.2.2 h01 w.1 w.2.1 ⟨g1, g2⟩ rfl rfl rfl, fun ν y am hM => ?_, fun q hq => ?_⟩
                · have e3 := htk _ _ _ (hM.s0 0)
                  rw [if_neg hx] at e3
                  have hM0 := hM.s0 0
                  have k0 := hM0.ok (k := 4) (by decide)
                  have q0 : getQ (sI ν 7 0 y 0) 7 4 y = some (some (am 4)) := hM0.q4
                  have j0 : getI (sI ν 7 0 y 0) 7 17 y = some (nI S.1.2.2) := hM0.i17
                  have c0 : ast (sI ν 7 0 y 0) (am 4) (nI S.1.2.2) (nI p) = some (sR (sI ν 7 0 y 0) 33 (am 4) S.1.2.2 (nI p)) := ast_ok (k := 33) (n := 120) k0.1 k0.2 (by decide) (by decide) h4 (by decide)
                  have k1 := hM0.ok (k := 5) (by decide)
                  have q1 : getQ (sR (sI ν 7 0 y 0) 33 (am 4) S.1.2.2 (nI p)) 7 5 y = some (some (am 5)) := hM0.q5
                  have j1 : getI (sR (sI ν 7 0 y 0) 33 (am 4) S.1.2.2 (nI p)) 7 17 y = some (nI S.1.2.2) := hM0.i17
                  have c1 : ast (sR (sI ν 7 0 y 0) 33 (am 4) S.1.2.2 (nI p)) (am 5) (nI S.1.2.2) (nI b) = some (sR (sR (sI ν 7 0 y 0) 33 (am 4) S.1.2.2 (nI p)) 34 (am 5) S.1.2.2 (nI b)) := ast_ok (k := 34) (n := 120) k1.1 k1.2 (by decide) (by decide) h4 (by decide)
                  have k2 := hM0.ok (k := 6) (by decide)
                  have q2 : getQ (sR (sR (sI ν 7 0 y 0) 33 (am 4) S.1.2.2 (nI p)) 34 (am 5) S.1.2.2 (nI b)) 7 6 y = some (some (am 6)) := hM0.q6
                  have j2 : getI (sR (sR (sI ν 7 0 y 0) 33 (am 4) S.1.2.2 (nI p)) 34 (am 5) S.1.2.2 (nI b)) 7 17 y = some (nI S.1.2.2) := hM0.i17
                  have c2 : ast (sR (sR (sI ν 7 0 y 0) 33 (am 4) S.1.2.2 (nI p)) 34 (am 5) S.1.2.2 (nI b)) (am 6) (nI S.1.2.2) v = some (sR (sR (sR (sI ν 7 0 y 0) 33 (am 4) S.1.2.2 (nI p)) 34 (am 5) S.1.2.2 (nI b)) 35 (am 6) S.1.2.2 v) := ast_ok (k := 35) (n := 120) k2.1 k2.2 (by decide) (by decide) h4 (by decide)
                  have k3 := hM0.ok (k := 7) (by decide)
                  have q3 : getQ (sR (sR (sR (sI ν 7 0 y 0) 33 (am 4) S.1.2.2 (nI p)) 34 (am 5) S.1.2.2 (nI b)) 35 (am 6) S.1.2.2 v) 7 7 y = some (some (am 7)) := hM0.q7
                  have j3 : getI (sR (sR (sR (sI ν 7 0 y 0) 33 (am 4) S.1.2.2 (nI p)) 34 (am 5) S.1.2.2 (nI b)) 35 (am 6) S.1.2.2 v) 7 17 y = some (nI S.1.2.2) := hM0.i17
                  have c3 : ast (sR (sR (sR (sI ν 7 0 y 0) 33 (am 4) S.1.2.2 (nI p)) 34 (am 5) S.1.2.2 (nI b)) 35 (am 6) S.1.2.2 v) (am 7) (nI S.1.2.2) t = some (sR (sR (sR (sR (sI ν 7 0 y 0) 33 (am 4) S.1.2.2 (nI p)) 34 (am 5) S.1.2.2 (nI b)) 35 (am 6) S.1.2.2 v) 36 (am 7) S.1.2.2 t) := ast_ok (k := 36) (n := 120) k3.1 k3.2 (by decide) (by decide) h4 (by decide)
                  have k4 := hM0.ok (k := 8) (by decide)
                  have q4 : getQ (sR (sR (sR (sR (sI ν 7 0 y 0) 33 (am 4) S.1.2.2 (nI p)) 34 (am 5) S.1.2.2 (nI b)) 35 (am 6) S.1.2.2 v) 36 (am 7) S.1.2.2 t) 7 8 y = some (some (am 8)) := hM0.q8
                  have j4 : getI (sR (sR (sR (sR (sI ν 7 0 y 0) 33 (am 4) S.1.2.2 (nI p)) 34 (am 5) S.1.2.2 (nI b)) 35 (am 6) S.1.2.2 v) 36 (am 7) S.1.2.2 t) 7 17 y = some (nI S.1.2.2) := hM0.i17
                  have c4 : ast (sR (sR (sR (sR (sI ν 7 0 y 0) 33 (am 4) S.1.2.2 (nI p)) 34 (am 5) S.1.2.2 (nI b)) 35 (am 6) S.1.2.2 v) 36 (am 7) S.1.2.2 t) (am 8) (nI S.1.2.2) n = some (sR (sR (sR (sR (sR (sI ν 7 0 y 0) 33 (am 4) S.1.2.2 (nI p)) 34 (am 5) S.1.2.2 (nI b)) 35 (am 6) S.1.2.2 v) 36 (am 7) S.1.2.2 t) 37 (am 8) S.1.2.2 n) := ast_ok (k := 37) (n := 120) k4.1 k4.2 (by decide) (by decide) h4 (by decide)
                  have k5 := hM0.ok (k := 9) (by decide)
                  have q5 : getQ (sR (sR (sR (sR (sR (sI ν 7 0 y 0) 33 (am 4) S.1.2.2 (nI p)) 34 (am 5) S.1.2.2 (nI b)) 35 (am 6) S.1.2.2 v) 36 (am 7) S.1.2.2 t) 37 (am 8) S.1.2.2 n) 7 9 y = some (some (am 9)) := hM0.q9
                  have j5 : getI (sR (sR (sR (sR (sR (sI ν 7 0 y 0) 33 (am 4) S.1.2.2 (nI p)) 34 (am 5) S.1.2.2 (nI b)) 35 (am 6) S.1.2.2 v) 36 (am 7) S.1.2.2 t) 37 (am 8) S.1.2.2 n) 7 17 y = some (nI S.1.2.2) := hM0.i17
                  have c5 : ast (sR (sR (sR (sR (sR (sI ν 7 0 y 0) 33 (am 4) S.1.2.2 (nI p)) 34 (am 5) S.1.2.2 (nI b)) 35 (am 6) S.1.2.2 v) 36 (am 7) S.1.2.2 t) 37 (am 8) S.1.2.2 n) (am 9) (nI S.1.2.2) k = some (sR (sR (sR (sR (sR (sR (sI ν 7 0 y 0) 33 (am 4) S.1.2.2 (nI p)) 34 (am 5) S.1.2.2 (nI b)) 35 (am 6) S.1.2.2 v) 36 (am 7) S.1.2.2 t) 37 (am 8) S.1.2.2 n) 38 (am 9) S.1.2.2 k) := ast_ok (k := 38) (n := 120) k5.1 k5.2 (by decide) (by decide) h4 (by decide)
                  have j6 : getI (sR (sR (sR (sR (sR (sR (sI ν 7 0 y 0) 33 (am 4) S.1.2.2 (nI p)) 34 (am 5) S.1.2.2 (nI b)) 35 (am 6) S.1.2.2 v) 36 (am 7) S.1.2.2 t) 37 (am 8) S.1.2.2 n) 38 (am 9) S.1.2.2 k) 7 17 y = some (nI S.1.2.2) := hM0.i17
                  have c6 : putI (sR (sR (sR (sR (sR (sR (sI ν 7 0 y 0) 33 (am 4) S.1.2.2 (nI p)) 34 (am 5) S.1.2.2 (nI b)) 35 (am 6) S.1.2.2 v) 36 (am 7) S.1.2.2 t) 37 (am 8) S.1.2.2 n) 38 (am 9) S.1.2.2 k) 7 17 y (nI S.1.2.2 + 1) = some (sI (sR (sR (sR (sR (sR (sR (sI ν 7 0 y 0) 33 (am 4) S.1.2.2 (nI p)) 34 (am 5) S.1.2.2 (nI b)) 35 (am 6) S.1.2.2 v) 36 (am 7) S.1.2.2 t) 37 (am 8) S.1.2.2 n) 38 (am 9) S.1.2.2 k) 7 17 y (nI S.1.2.2 + 1)) := putI_ok hM0.1
                  have c7 : getI (sI (sR (sR (sR (sR (sR (sR (sI ν 7 0 y 0) 33 (am 4) S.1.2.2 (nI p)) 34 (am 5) S.1.2.2 (nI b)) 35 (am 6) S.1.2.2 v) 36 (am 7) S.1.2.2 t) 37 (am 8) S.1.2.2 n) 38 (am 9) S.1.2.2 k) 7 17 y (nI S.1.2.2 + 1)) 7 17 y = some (nI S.1.2.2 + 1) := gI9 hM0.1
                  refine ⟨nI S.1.2.2, (sI (sR (sR (sR (sR (sR (sR (sI ν 7 0 y 0) 33 (am 4) S.1.2.2 (nI p)) 34 (am 5) S.1.2.2 (nI b)) 35 (am 6) S.1.2.2 v) 36 (am 7) S.1.2.2 t) 37 (am 8) S.1.2.2 n) 38 (am 9) S.1.2.2 k) 7 17 y (nI S.1.2.2 + 1)), ?_, hM0.addN (m := (sR (sR (sR (sR (sR (sR (sI ν 7 0 y 0) 33 (am 4) S.1.2.2 (nI p)) 34 (am 5) S.1.2.2 (nI b)) 35 (am 6) S.1.2.2 v) 36 (am 7) S.1.2.2 t) 37 (am 8) S.1.2.2 n) 38 (am 9) S.1.2.2 k)) h4 rfl rfl rfl rfl rfl ?_ ?_ rfl rfl rfl, (hM.f0 0).trans (hM0.f104.trans ((FR.sR ?_).trans ((FR.sR ?_).trans ((FR.sR ?_).trans ((FR.sR ?_).trans ((FR.sR ?_).trans (FR.sI ?_))))))), ?_⟩
                  · simp only [f_X5_addNote, hM.p0, obs, hM.ch0, m_isPart_hit hM0 hI hp, m_isBar_hit hM0 hI hb, if1, ba, gk, hwi _ _ _ hM0, e3, ift, if_neg (show ¬ nI S.1.2.2 = 120 from fun z => absurd ((nI_eq (b := 120) (by omega) (by decide)).mp z) (by omega)), q0, j0, c0, q1, j1, c1, q2, j2, c2, q3, j3, c3, q4, j4, c4, q5, j5, c5, j6, c6, c7, pred9]
                  · intro c hc
                    have hc' : c = 0 ∨ c = 1 ∨ c = 2 ∨ c = 3 ∨ c = 4 ∨ c = 5 := by omega
                    rcases hc' with rfl | rfl | rfl | rfl | rfl | rfl
                    · exact (mR_sR_k (by decide)).trans ((mR_sR_k (by decide)).trans ((mR_sR_k (by decide)).trans ((mR_sR_k (by decide)).trans ((mR_sR_k (by decide)).trans (mR_sR_h)))))
                    · exact (mR_sR_k (by decide)).trans ((mR_sR_k (by decide)).trans ((mR_sR_k (by decide)).trans ((mR_sR_k (by decide)).trans (mR_sR_h))))
                    · exact (mR_sR_k (by decide)).trans ((mR_sR_k (by decide)).trans ((mR_sR_k (by decide)).trans (mR_sR_h)))
                    · exact (mR_sR_k (by decide)).trans ((mR_sR_k (by decide)).trans (mR_sR_h))
                    · exact (mR_sR_k (by decide)).trans (mR_sR_h)
                    · exact mR_sR_h
                  · intro k' a j hz
                    rcases hz with hz | hz
                    · exact ((mR_sR_k (by omega)).trans ((mR_sR_k (by omega)).trans ((mR_sR_k (by omega)).trans ((mR_sR_k (by omega)).trans ((mR_sR_k (by omega)).trans (mR_sR_k (by omega)))))))
                    · exact ((mR_sR_i hz).trans ((mR_sR_i hz).trans ((mR_sR_i hz).trans ((mR_sR_i hz).trans ((mR_sR_i hz).trans (mR_sR_i hz))))))
                  · rw [show mK (sR (sI ν 7 0 y 0) 33 (am 4) S.1.2.2 (nI p)) (am 5) = 34 from k1.1.2]; rfl
                  · rw [show mK (sR (sR (sI ν 7 0 y 0) 33 (am 4) S.1.2.2 (nI p)) 34 (am 5) S.1.2.2 (nI b)) (am 6) = 35 from k2.1.2]; rfl
                  · rw [show mK (sR (sR (sR (sI ν 7 0 y 0) 33 (am 4) S.1.2.2 (nI p)) 34 (am 5) S.1.2.2 (nI b)) 35 (am 6) S.1.2.2 v) (am 7) = 36 from k3.1.2]; rfl
                  · rw [show mK (sR (sR (sR (sR (sI ν 7 0 y 0) 33 (am 4) S.1.2.2 (nI p)) 34 (am 5) S.1.2.2 (nI b)) 35 (am 6) S.1.2.2 v) 36 (am 7) S.1.2.2 t) (am 8) = 37 from k4.1.2]; rfl
                  · rw [show mK (sR (sR (sR (sR (sR (sI ν 7 0 y 0) 33 (am 4) S.1.2.2 (nI p)) 34 (am 5) S.1.2.2 (nI b)) 35 (am 6) S.1.2.2 v) 36 (am 7) S.1.2.2 t) 37 (am 8) S.1.2.2 n) (am 9) = 38 from k5.1.2]; rfl
                  · rw [show mK (sR (sR (sR (sR (sR (sR (sI ν 7 0 y 0) 33 (am 4) S.1.2.2 (nI p)) 34 (am 5) S.1.2.2 (nI b)) 35 (am 6) S.1.2.2 v) 36 (am 7) S.1.2.2 t) 37 (am 8) S.1.2.2 n) 38 (am 9) S.1.2.2 k) y = 7 from hM0.1.2]; rfl
                  · rw [mI_sI_k (by decide), mI_sR, mI_sR, mI_sR, mI_sR, mI_sR, mI_sR, mI_sI_h]
                    exact Ag.v _
                · have e3 := hmt q hq
                  rw [if_neg hx] at e3
                  have b2 := hB q hq
                  have o2 := mN9_ok (μ := μ) (q := q) (nI p) (nI b) v t n k
                  have c3 : qst (mN9 μ q (nI p) (nI b) v t n k) (ad 0 2) (nI S.1.2.2) q = some (sS (mN9 μ q (nI p) (nI b) v t n k) 22 (ad 0 2) S.1.2.2 (some q)) := qst_ok b2.2.2.1.2.2.1 b2.2.2.1.2.2.2 (by decide) (by decide) h4 (by decide) o2
                  have c4 : putI (sS (mN9 μ q (nI p) (nI b) v t n k) 22 (ad 0 2) S.1.2.2 (some q)) 6 6 x (nI S.1.2.2 + 1) = some (sI (sS (mN9 μ q (nI p) (nI b) v t n k) 22 (ad 0 2) S.1.2.2 (some q)) 6 6 x (nI S.1.2.2 + 1)) := putI_ok b2.1.1
                  refine ⟨_, ?_, ⟨_, b2.addN (w := wN9 (nI p) (nI b) v t n k) (fun i hi => fresh_of hq (h.2.2.2.2.2.1.2.2 i hi).1) o2 (mN9_i _ _ _ _ _ _)⟩, (mN9_fr hq _ _ _ _ _ _).weak.trans ((FR.sS ?_).trans (FR.sI ?_))⟩
                  · simp only [f_X4_addNote_B, mN9_init, bi2_s, b2.ch, obs, e3, ift, b2.i6, b2.q2, b2.n2, if_pos (nI_lt h4 (by decide)), c3, c4]
                  · rw [b2.2.2.1.2.2.1.2]; rfl
                  · rw [show mK (sS (mN9 μ q (nI p) (nI b) v t n k) 22 (ad 0 2) S.1.2.2 (some q)) x = 6 from b2.1.1.2]; rfl
              · have e5' : nI S.1.2.2 = 120 := by rw [show S.1.2.2 = 120 by omega]; rfl
                refine Or.inr ⟨_, .inl 2, S, e1, hI, Vw.look (fun ν y am hM => ⟨0, 4, ?_, Ag.x (by decide)⟩), fun q hq => ⟨mN9 μ q (nI p) (nI b) v t n k, ?_, ⟨ad, hB q hq⟩, (mN9_fr hq _ _ _ _ _ _).weak⟩⟩
                · have e3 := htk _ _ _ (hM.s0 0)
                  rw [if_neg hx] at e3
                  simp only [f_X5_addNote, hM.p0, obs, hM.ch0, m_isPart_hit (hM.s0 0) hI hp, m_isBar_hit (hM.s0 0) hI hb, if1, ba, gk, hwi _ _ _ (hM.s0 0), e3, ift, (hM.s0 0).i17, if_pos e5', m_fails (hM.s0 0), bi2_s, s0_s0]
                · have e3 := hmt q hq
                  rw [if_neg hx] at e3
                  have b2 := hB q hq
                  simp only [f_X4_addNote_B, mN9_init, bi2_s, b2.ch, obs, e3, ift, b2.i6, b2.q2, b2.n2, if_neg (nI_nlt (show 120 ≤ S.1.2.2 by omega) (by omega))]
          · refine hno ?_ (fun ν y am hM => ?_)
            · simp only [f_X4_addNote, h.ch, obs, kp_hit h hI hp, kb_hit h hI hb, sml_r, if_neg h1, if_neg h2, g3, if1, h.chB hb, hh, ift]
            · rcases m_within (hM.s0 0) hI hb t n with ⟨z, -⟩ | ⟨-, z⟩
              · exact absurd z w
              · simp only [f_X5_addNote, hM.p0, obs, hM.ch0, m_isPart_hit (hM.s0 0) hI hp, m_isBar_hit (hM.s0 0) hI hb, if1, ba, gk, z, ift, m_fails (hM.s0 0), bi2_s, s0_s0]
        · have gk : ∀ ν : Mem, f_X5_isBetween ν k 24 96 = some 0 := by
            intro ν
            rcases pitch_cases (μ := μ) ν k with ⟨-, -, g5, -⟩ | ⟨-, g4⟩
            · rw [g3] at g5; exact absurd g5 (by decide)
            · exact g4
          refine hno ?_ (fun ν y am hM => ?_)
          · simp only [f_X4_addNote, h.ch, obs, kp_hit h hI hp, kb_hit h hI hb, sml_r, if_neg h1, if_neg h2, g3, ift]
          · simp only [f_X5_addNote, hM.p0, obs, hM.ch0, m_isPart_hit (hM.s0 0) hI hp, m_isBar_hit (hM.s0 0) hI hb, if1, ba, gk, ift, m_fails (hM.s0 0), bi2_s, s0_s0]
    · refine OpN.no (.inl 3) (by simp only [f_X4_addNote, h.ch, obs, kp_hit h hI hp, kb_miss h hb, sml_r, sml_l]) 1 (Ag.x (by decide)) (fun ν y am hM => ?_)
      simp only [f_X5_addNote, hM.p0, obs, hM.ch0, m_isPart_hit (hM.s0 0) hI hp, m_isBar_miss (hM.s0 0) hI hb, if1, ift, m_fails (hM.s0 0), bi2_s, s0_s0]
  · refine OpN.no (.inl 3) (by simp only [f_X4_addNote, h.ch, obs, kp_miss h hp, sml_l]) 1 (Ag.x (by decide)) (fun ν y am hM => ?_)
    simp only [f_X5_addNote, hM.p0, obs, hM.ch0, m_isPart_miss (hM.s0 0) hI hp, ift, m_fails (hM.s0 0), bi2_s, s0_s0]
end P39i
