/-! isTrue -/
def so9 (c : Int32) : Int32 := if (c - 65) = 0 then 9 else if (c - 65) = 1 then 11 else if (c - 65) = 2 then 0 else if (c - 65) = 3 then 2 else if (c - 65) = 4 then 4 else if (c - 65) = 5 then 5 else 7
theorem sound_ok (μ : Mem) (c : Int32) : f_X4_soundOfLetter μ c = some (so9 c) := by
  unfold f_X4_soundOfLetter so9
  repeat (split; · rfl)
  rfl
def ltP (x : Int32) : Int32 := if fmo9 (x + 1) 7 = 0 then 70 else if fmo9 (x + 1) 7 = 1 then 67 else if fmo9 (x + 1) 7 = 2 then 71 else if fmo9 (x + 1) 7 = 3 then 68 else if fmo9 (x + 1) 7 = 4 then 65 else if fmo9 (x + 1) 7 = 5 then 69 else 66
theorem letterP_ok (μ : Mem) (x : Int32) : f_X4_letterOfPlace μ x = some (ltP x) := by
  unfold f_X4_letterOfPlace ltP
  rw [fmod_ok μ _ (by decide), obs]
  repeat (split; · rfl)
  rfl
def tn9 (x : Int32) : Int32 := so9 (ltP x) + fdo9 (x + 1) 7
def tN9 (q v : Nat) : Nat := (tn9 (pc9 q v) + 10).toNatClampNeg
theorem tone_all : ∀ q, q < 12 → ∀ v, v < 12 → tn9 (pc9 q v) = nI (tN9 q v) - nI 10 ∧ tN9 q v % 12 = (v + 10) % 12 ∧ tN9 q v < 64 := by decide +kernel
theorem tone_mod : ∀ t, t < 64 → ∀ w, w < 121 → t % 12 = (w % 12 + 10) % 12 → fmo9 (nI t - nI 10 - nI w) 12 = 0 := by decide +kernel
section P39t
variable {μ μ' ν : Mem} {x y : Nat} {ad : Nat → Nat → Nat} {am : Nat → Nat} {S : SS}
theorem c_spelling (h : BP μ x ad S) (hI : Inv S) {i : Nat} (hi : i < S.1.2.2) : f_X4_spellingSounds μ x (some (ad 4 i)) = some 1 := by
  obtain ⟨p, b, hp, hb, e1, e2⟩ := hI.at hi
  obtain ⟨q, v, hq, hv, c1, c2, -⟩ := c_placeOf h hI hi
  obtain ⟨g1, g2⟩ := c2 p hp e1
  obtain ⟨w, hw, s1⟩ := hI.snd hi hp
  obtain ⟨a1, -⟩ := sound_all w hw
  rw [s1, a1] at g1
  have ev : v = w % 12 := (nI_eq (by omega) (by have := Nat.mod_lt w (show 0 < 12 by decide); omega)).mp g1
  obtain ⟨t1, t2, t3⟩ := tone_all q hq v hv
  have hz := tone_mod (tN9 q v) t3 w hw (by rw [t2, ev])
  have et : so9 (ltP (pc9 q v)) + fdo9 (pc9 q v + 1) 7 - nI w = nI (tN9 q v) - nI 10 - nI w := congrArg (fun z => z - nI w) t1
  simp only [f_X4_spellingSounds, h.ch, obs, c1, letterP_ok, sound_ok, f_X4_sharpsOfPlace, fdiv_ok _ _ (show (7 : Int32) ≠ 0 by decide), g2, s1, fmod_ok _ _ (show (12 : Int32) ≠ 0 by decide), et, hz, if_pos]
theorem c_spellings (h : BP μ x ad S) (hI : Inv S) : f_X4_spellingsSound μ x = some 1 := by
  unfold f_X4_spellingsSound
  refine lp_acc (acc := fun _ => ()) (F := fun n _ i => f_X4_spellingsSound_L2 μ x (fun _ => some 1) n i) (N := 120) ?_ ?_ (m := 200) (by decide)
  · intro n i hi
    simp only [f_X4_spellingsSound_L2, h.q2, obs, h.n2, if_neg (nI_ge hi (by decide)), h.l2 hi]
    by_cases hn : i < S.1.2.2
    · simp only [if_pos hn, onl_s, h.t6 hn, obs, h.ch, c_spelling h hI hn, if1]
      split <;> rfl
    · simp only [if_neg hn, onl_n]
  · intro n
    simp only [f_X4_spellingsSound_L2, h.q2, obs, h.n2, if_pos (nI_le (Nat.le_refl 120) (by decide))]
theorem c_turnsAgree (h : BP μ x ad S) (hI : Inv S) (p : Nat) : ∃ μ', f_X4_turnsAgree μ x (nI p) = some (1, μ') ∧ BP μ' x ad S ∧ FR 0 μ μ' := by
  obtain ⟨pg, hpg, epg⟩ := pg9_ok hI
  obtain ⟨n1, n2⟩ := B9_ok hI p
  obtain ⟨m, e, c1, f1⟩ := c_makeBlocks h hI p
  obtain ⟨m2, e2, ⟨c2, t2⟩, f2⟩ := c_makePages c1 hI hpg epg
  have ga : ald m2 (ad 1 6) 0 = some (nI (bT9 S p pg (B9 S p S.1.2.1).1 0).1) := (c2.1.ka (k := 6) (i := 0) (by decide) (by decide) (by decide)).trans (congrArg some (t2 0 (by omega) (Nat.zero_le _)).1)
  have ef : f_X1_fewestHardTurns 16 m2 (some (ad 0 3)) 0 = some (nI (bT9 S p pg (B9 S p S.1.2.1).1 0).1) := c_few c2 hI hpg epg 16 0 (Nat.zero_le _) (by omega)
  refine ⟨m2, ?_, c2.1, f1.trans f2⟩
  simp only [f_X4_turnsAgree, h.ch, obs, e, bi2_s, c1.1.q3, c1.1.kc, e2, c2.1.q3, c2.1.kc, f_X1_hardTurnsOfPages, c2.1.kq6, ga, ef, if_pos]
theorem c_copyAgrees (h : BP μ x ad S) (hI : Inv S) {p : Nat} (hp : p < S.1.1) : f_X4_copyAgrees μ x (nI p) = some 1 := by
  simp only [f_X4_copyAgrees, h.ch, obs, pson_hit h hp hI.1.1, onl_s, h.p1 hp, c_touched h hI, c_compared h hI.1.2.2, if_pos]
  split <;> rfl
theorem o_isTrue (h : BP μ x ad S) (hI : Inv S) : ∃ μ', f_X4_isTrue μ x = some (1, μ') ∧ BP μ' x ad S ∧ FR 0 μ μ' ∧ ∀ (ν : Mem) (y : Nat) (am : Nat → Nat), MP ν y am S → f_X5_isTrue ν y = some (1, sI ν 7 0 y 0) := by
  have step : ∀ n i m, i < 5 → (BP m x ad S ∧ FR 0 μ m) → ∃ m', (BP m' x ad S ∧ FR 0 μ m') ∧ f_X4_isTrue_L2 x (fun (zmu2 : Mem) (_ : Int32) => (chk zmu2 6 x).bind fun _ => (f_X4_spellingsSound zmu2 x).bind fun t22 => (nz t22).bind fun t24 => some (t24, zmu2)) (n + 1) m (nI i) = f_X4_isTrue_L2 x (fun (zmu2 : Mem) (_ : Int32) => (chk zmu2 6 x).bind fun _ => (f_X4_spellingsSound zmu2 x).bind fun t22 => (nz t22).bind fun t24 => some (t24, zmu2)) n m' (nI i + 1) := by
    intro n i m hi hJ
    obtain ⟨hb, hf⟩ := hJ
    have hl := hb.l0 hi
    by_cases hn : i < S.1.1
    · rw [if_pos hn] at hl
      obtain ⟨m', e, b1, f1⟩ := c_turnsAgree hb hI i
      refine ⟨m', ⟨b1, hf.trans f1⟩, ?_⟩
      simp only [f_X4_isTrue_L2, hb.q0, obs, hb.n0, if_neg (nI_ge hi (by decide)), hl, onl_s, hb.ch, e, bi2_s, if1, b1.ch, c_copyAgrees b1 hI hn]
    · rw [if_neg hn] at hl
      refine ⟨m, ⟨hb, hf⟩, ?_⟩
      simp only [f_X4_isTrue_L2, hb.q0, obs, hb.n0, if_neg (nI_ge hi (by decide)), hl, onl_n]
  have fin : ∀ n m, (BP m x ad S ∧ FR 0 μ m) → f_X4_isTrue_L2 x (fun (zmu2 : Mem) (_ : Int32) => (chk zmu2 6 x).bind fun _ => (f_X4_spellingsSound zmu2 x).bind fun t22 => (nz t22).bind fun t24 => some (t24, zmu2)) (n + 1) m (nI 5) = some (1, m) := by
    intro n m hJ
    simp only [f_X4_isTrue_L2, hJ.1.q0, obs, hJ.1.n0, if_pos (nI_le (Nat.le_refl 5) (by decide)), hJ.1.ch, c_spellings hJ.1 hI, nz1]
  obtain ⟨m, ⟨b1, f1⟩, e⟩ := lp_inv (F := fun n m i => f_X4_isTrue_L2 x (fun (zmu2 : Mem) (_ : Int32) => (chk zmu2 6 x).bind fun _ => (f_X4_spellingsSound zmu2 x).bind fun t22 => (nz t22).bind fun t24 => some (t24, zmu2)) n m i) (k := fun m => some ((1 : Int32), m)) (J := fun _ m => BP m x ad S ∧ FR 0 μ m) (N := 5) step fin (m := 200) (by decide) (μ := μ) ⟨h, FR.refl 0 μ⟩
  refine ⟨m, ?_, b1, f1, fun ν y am hM => by simp only [f_X5_isTrue, hM.p0, obs]⟩
  exact e
end P39t
