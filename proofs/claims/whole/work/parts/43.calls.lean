/-! THE CALLS OF THE LAW, one by one -/
section P43
variable {μ : Mem} {x y out od : Nat} {S : SS}
theorem w_addPart (l : Launch) (hsl : l.stackTraces = false) (G : GG) (A : Nat → Prop) (h : Sm μ x y out od S) (x1 : Int32) : ∃ P1, Ok l yL_addPart wsL_addPart ({ frames := 10, cells := 3, slots := 14, locals := 190 } : Room) [.ref x, .int x1, .ref out] G A μ P1 ∧ ∀ r m1, P1 r m1 → LPi (fun z => z.toInt64) x y out od (fun ν y => f_X5_addPart ν y x1) r m1 := by
  obtain ⟨hI, ⟨ad, hB⟩, ⟨am, hM⟩, hO⟩ := id h
  rcases o_addPart hB hI x1 with ⟨B, e, hv⟩ | ⟨c, B, S', e, hI', hv, hq⟩
  · have hI' := hI
    have k1 := (k_X4_addPart l hsl G A μ x x1 _ e (fun c9 hc => by cases hc)).mono (P' := GM μ x S (rIx B)) (fun r m hg => by
      rcases hg with ⟨r1, h1, h2, h3⟩ | ⟨c9, q9, r2, h1, -⟩
      · cases h1
        exact ⟨h2, by rw [h3]; exact ⟨ad, hB⟩, by rw [h3]; exact FR.refl 0 μ⟩
      · cases h1)
    obtain ⟨w1, w2, w3⟩ := w_core h hI' hv (fun z => z.toInt64)
    exact ⟨_, k_L_addPart l G A μ x x1 out (GM μ x S (rIx B)) k1 hB.1.1 w1 (fun e m hg => by have := w2 e m hg; simpa using this), fun r m1 hg => w3 (fun e => if e = 1 then 1 else 2) (by decide) r m1 hg⟩
  · have k1 := (k_X4_addPart l hsl G A μ x x1 _ e (fun c9 hc q hn => by
      cases hc
      obtain ⟨m, e2, -⟩ := hq q hn
      exact ⟨_, e2⟩)).mono (P' := GM μ x S' (rIx B)) (fun r m hg => by
      rcases hg with ⟨r1, h1, -⟩ | ⟨c9, q9, r2, h1, h2, h3, h4, h5⟩
      · cases h1
      · cases h1
        obtain ⟨m', e2, e3, e4⟩ := hq q9 h2
        have e5 := Option.some.inj (h3.symm.trans e2)
        rw [e5] at h4 h5
        exact ⟨h4, by rw [h5]; exact e3, by rw [h5]; exact e4⟩)
    obtain ⟨w1, w2, w3⟩ := w_core h hI' hv (fun z => z.toInt64)
    exact ⟨_, k_L_addPart l G A μ x x1 out (GM μ x S' (rIx B)) k1 hB.1.1 w1 (fun e m hg => by have := w2 e m hg; simpa using this), fun r m1 hg => w3 (fun e => if e = 1 then 1 else 2) (by decide) r m1 hg⟩
theorem w_addBar (l : Launch) (hsl : l.stackTraces = false) (G : GG) (A : Nat → Prop) (h : Sm μ x y out od S) (x1 x2 x3 : Int32) (hx3 : x3 = 0 ∨ x3 = 1) : ∃ P1, Ok l yL_addBar wsL_addBar ({ frames := 10, cells := 3, slots := 15, locals := 190 } : Room) [.ref x, .int x1, .int x2, .int x3, .ref out] G A μ P1 ∧ ∀ r m1, P1 r m1 → LPi (fun z => z.toInt64) x y out od (fun ν y => f_X5_addBar ν y x1 x2 x3) r m1 := by
  obtain ⟨hI, ⟨ad, hB⟩, ⟨am, hM⟩, hO⟩ := id h
  rcases o_addBar hB hI x1 x2 x3 hx3 with ⟨B, e, hv⟩ | ⟨c, B, S', e, hI', hv, hq⟩
  · have hI' := hI
    have k1 := (k_X4_addBar l hsl G A μ x x1 x2 x3 _ e (fun c9 hc => by cases hc)).mono (P' := GM μ x S (rIx B)) (fun r m hg => by
      rcases hg with ⟨r1, h1, h2, h3⟩ | ⟨c9, q9, r2, h1, -⟩
      · cases h1
        exact ⟨h2, by rw [h3]; exact ⟨ad, hB⟩, by rw [h3]; exact FR.refl 0 μ⟩
      · cases h1)
    obtain ⟨w1, w2, w3⟩ := w_core h hI' hv (fun z => z.toInt64)
    exact ⟨_, k_L_addBar l G A μ x x1 x2 x3 out (GM μ x S (rIx B)) k1 hB.1.1 w1 (fun e m hg => by have := w2 e m hg; simpa using this), fun r m1 hg => w3 (fun e => if e = 1 then 1 else 2) (by decide) r m1 hg⟩
  · have k1 := (k_X4_addBar l hsl G A μ x x1 x2 x3 _ e (fun c9 hc q hn => by
      cases hc
      obtain ⟨m, e2, -⟩ := hq q hn
      exact ⟨_, e2⟩)).mono (P' := GM μ x S' (rIx B)) (fun r m hg => by
      rcases hg with ⟨r1, h1, -⟩ | ⟨c9, q9, r2, h1, h2, h3, h4, h5⟩
      · cases h1
      · cases h1
        obtain ⟨m', e2, e3, e4⟩ := hq q9 h2
        have e5 := Option.some.inj (h3.symm.trans e2)
        rw [e5] at h4 h5
        exact ⟨h4, by rw [h5]; exact e3, by rw [h5]; exact e4⟩)
    obtain ⟨w1, w2, w3⟩ := w_core h hI' hv (fun z => z.toInt64)
    exact ⟨_, k_L_addBar l G A μ x x1 x2 x3 out (GM μ x S' (rIx B)) k1 hB.1.1 w1 (fun e m hg => by have := w2 e m hg; simpa using this), fun r m1 hg => w3 (fun e => if e = 1 then 1 else 2) (by decide) r m1 hg⟩
theorem w_setMark (l : Launch) (hsl : l.stackTraces = false) (G : GG) (A : Nat → Prop) (h : Sm μ x y out od S) (x1 x2 : Int32) (hx2 : x2 = 0 ∨ x2 = 1) : ∃ P1, Ok l yL_setMark wsL_setMark ({ frames := 12, cells := 1, slots := 6, locals := 230 } : Room) [.ref x, .int x1, .int x2, .ref out] G A μ P1 ∧ ∀ r m1, P1 r m1 → LPi (fun z => if z = 0 then 0 else 1) x y out od (fun ν y => f_X5_setMark ν y x1 x2) r m1 := by
  obtain ⟨hI, ⟨ad, hB⟩, ⟨am, hM⟩, hO⟩ := id h
  obtain ⟨B, μ', S', e, hI', hb', hf, hv⟩ := o_setMark hB hI x1 x2 hx2
  have k1 := (k_X4_setMark l hsl G A μ x x1 x2 _ e).mono (P' := GM μ x S' (rIx B)) (fun r m hg => ⟨hg.1, by rw [hg.2]; exact hb', by rw [hg.2]; exact hf⟩)
  obtain ⟨w1, w2, w3⟩ := w_core h hI' hv (fun z => if z = 0 then 0 else 1)
  exact ⟨_, k_L_setMark l G A μ x x1 x2 out (GM μ x S' (rIx B)) k1 hB.1.1 w1 (fun e m hg => by have := w2 e m hg; simpa using this), fun r m1 hg => w3 (fun e => 1) (by decide) r m1 hg⟩
theorem w_setKey (l : Launch) (hsl : l.stackTraces = false) (G : GG) (A : Nat → Prop) (h : Sm μ x y out od S) (x1 x2 : Int32) : ∃ P1, Ok l yL_setKey wsL_setKey ({ frames := 12, cells := 2, slots := 12, locals := 230 } : Room) [.ref x, .int x1, .int x2, .ref out] G A μ P1 ∧ ∀ r m1, P1 r m1 → LPi (fun z => z.toInt64) x y out od (fun ν y => f_X5_setKey ν y x1 x2) r m1 := by
  obtain ⟨hI, ⟨ad, hB⟩, ⟨am, hM⟩, hO⟩ := id h
  obtain ⟨B, μ', S', e, hI', hb', hf, hv⟩ := o_setKey hB hI x1 x2
  have k1 := (k_X4_setKey l hsl G A μ x x1 x2 _ e).mono (P' := GM μ x S' (rIx B)) (fun r m hg => ⟨hg.1, by rw [hg.2]; exact hb', by rw [hg.2]; exact hf⟩)
  obtain ⟨w1, w2, w3⟩ := w_core h hI' hv (fun z => z.toInt64)
  exact ⟨_, k_L_setKey l G A μ x x1 x2 out (GM μ x S' (rIx B)) k1 hB.1.1 w1 (fun e m hg => by have := w2 e m hg; simpa using this), fun r m1 hg => w3 (fun e => if e = 3 then 1 else 2) (by decide) r m1 hg⟩
theorem w_addNote (l : Launch) (hsl : l.stackTraces = false) (G : GG) (A : Nat → Prop) (h : Sm μ x y out od S) (x1 x2 x3 x4 x5 x6 : Int32) : ∃ P1, Ok l yL_addNote wsL_addNote ({ frames := 12, cells := 6, slots := 41, locals := 230 } : Room) [.ref x, .int x1, .int x2, .int x3, .int x4, .int x5, .int x6, .ref out] G A μ P1 ∧ ∀ r m1, P1 r m1 → LPi (fun z => z.toInt64) x y out od (fun ν y => f_X5_addNote ν y x1 x2 x3 x4 x5 x6) r m1 := by
  obtain ⟨hI, ⟨ad, hB⟩, ⟨am, hM⟩, hO⟩ := id h
  rcases o_addNote hB hI x1 x2 x3 x4 x5 x6 with ⟨B, e, hv⟩ | ⟨c, B, S', e, hI', hv, hq⟩
  · have hI' := hI
    have k1 := (k_X4_addNote l hsl G A μ x x1 x2 x3 x4 x5 x6 _ e (fun c9 hc => by cases hc)).mono (P' := GM μ x S (rIx B)) (fun r m hg => by
      rcases hg with ⟨r1, h1, h2, h3⟩ | ⟨c9, q9, r2, h1, -⟩
      · cases h1
        exact ⟨h2, by rw [h3]; exact ⟨ad, hB⟩, by rw [h3]; exact FR.refl 0 μ⟩
      · cases h1)
    obtain ⟨w1, w2, w3⟩ := w_core h hI' hv (fun z => z.toInt64)
    exact ⟨_, k_L_addNote l G A μ x x1 x2 x3 x4 x5 x6 out (GM μ x S (rIx B)) k1 hB.1.1 w1 (fun e m hg => by have := w2 e m hg; simpa using this), fun r m1 hg => w3 (fun e => if e = 3 then 1 else if e = 1 then 2 else if e = 5 then 3 else 4) (by decide) r m1 hg⟩
  · have k1 := (k_X4_addNote l hsl G A μ x x1 x2 x3 x4 x5 x6 _ e (fun c9 hc q hn => by
      cases hc
      obtain ⟨m, e2, -⟩ := hq q hn
      exact ⟨_, e2⟩)).mono (P' := GM μ x S' (rIx B)) (fun r m hg => by
      rcases hg with ⟨r1, h1, -⟩ | ⟨c9, q9, r2, h1, h2, h3, h4, h5⟩
      · cases h1
      · cases h1
        obtain ⟨m', e2, e3, e4⟩ := hq q9 h2
        have e5 := Option.some.inj (h3.symm.trans e2)
        rw [e5] at h4 h5
        exact ⟨h4, by rw [h5]; exact e3, by rw [h5]; exact e4⟩)
    obtain ⟨w1, w2, w3⟩ := w_core h hI' hv (fun z => z.toInt64)
    exact ⟨_, k_L_addNote l G A μ x x1 x2 x3 x4 x5 x6 out (GM μ x S' (rIx B)) k1 hB.1.1 w1 (fun e m hg => by have := w2 e m hg; simpa using this), fun r m1 hg => w3 (fun e => if e = 3 then 1 else if e = 1 then 2 else if e = 5 then 3 else 4) (by decide) r m1 hg⟩
theorem w_correct (l : Launch) (hsl : l.stackTraces = false) (G : GG) (A : Nat → Prop) (h : Sm μ x y out od S) (x1 x2 : Int32) : ∃ P1, Ok l yL_correct wsL_correct ({ frames := 12, cells := 2, slots := 12, locals := 230 } : Room) [.ref x, .int x1, .int x2, .ref out] G A μ P1 ∧ ∀ r m1, P1 r m1 → LPi (fun z => z.toInt64) x y out od (fun ν y => f_X5_correct ν y x1 x2) r m1 := by
  obtain ⟨hI, ⟨ad, hB⟩, ⟨am, hM⟩, hO⟩ := id h
  obtain ⟨B, μ', S', e, hI', hb', hf, hv⟩ := o_correct hB hI x1 x2
  have k1 := (k_X4_correct l hsl G A μ x x1 x2 _ e).mono (P' := GM μ x S' (rIx B)) (fun r m hg => ⟨hg.1, by rw [hg.2]; exact hb', by rw [hg.2]; exact hf⟩)
  obtain ⟨w1, w2, w3⟩ := w_core h hI' hv (fun z => z.toInt64)
  exact ⟨_, k_L_correct l G A μ x x1 x2 out (GM μ x S' (rIx B)) k1 hB.1.1 w1 (fun e m hg => by have := w2 e m hg; simpa using this), fun r m1 hg => w3 (fun e => if e = 4 then 1 else 2) (by decide) r m1 hg⟩
theorem w_stretch (l : Launch) (hsl : l.stackTraces = false) (G : GG) (A : Nat → Prop) (h : Sm μ x y out od S) (x1 x2 : Int32) : ∃ P1, Ok l yL_stretch wsL_stretch ({ frames := 12, cells := 3, slots := 18, locals := 230 } : Room) [.ref x, .int x1, .int x2, .ref out] G A μ P1 ∧ ∀ r m1, P1 r m1 → LPi (fun z => z.toInt64) x y out od (fun ν y => f_X5_stretch ν y x1 x2) r m1 := by
  obtain ⟨hI, ⟨ad, hB⟩, ⟨am, hM⟩, hO⟩ := id h
  obtain ⟨B, μ', S', e, hI', hb', hf, hv⟩ := o_stretch hB hI x1 x2
  have k1 := (k_X4_stretch l hsl G A μ x x1 x2 _ e).mono (P' := GM μ x S' (rIx B)) (fun r m hg => ⟨hg.1, by rw [hg.2]; exact hb', by rw [hg.2]; exact hf⟩)
  obtain ⟨w1, w2, w3⟩ := w_core h hI' hv (fun z => z.toInt64)
  exact ⟨_, k_L_stretch l G A μ x x1 x2 out (GM μ x S' (rIx B)) k1 hB.1.1 w1 (fun e m hg => by have := w2 e m hg; simpa using this), fun r m1 hg => w3 (fun e => if e = 4 then 1 else if e = 1 then 2 else 3) (by decide) r m1 hg⟩
theorem w_takeOut (l : Launch) (hsl : l.stackTraces = false) (G : GG) (A : Nat → Prop) (h : Sm μ x y out od S) (x1 : Int32) : ∃ P1, Ok l yL_takeOut wsL_takeOut ({ frames := 12, cells := 1, slots := 6, locals := 230 } : Room) [.ref x, .int x1, .ref out] G A μ P1 ∧ ∀ r m1, P1 r m1 → LPi (fun z => z.toInt64) x y out od (fun ν y => f_X5_takeOut ν y x1) r m1 := by
  obtain ⟨hI, ⟨ad, hB⟩, ⟨am, hM⟩, hO⟩ := id h
  obtain ⟨B, μ', S', e, hI', hb', hf, hv⟩ := o_takeOut hB hI x1
  have k1 := (k_X4_takeOut l hsl G A μ x x1 _ e).mono (P' := GM μ x S' (rIx B)) (fun r m hg => ⟨hg.1, by rw [hg.2]; exact hb', by rw [hg.2]; exact hf⟩)
  obtain ⟨w1, w2, w3⟩ := w_core h hI' hv (fun z => z.toInt64)
  exact ⟨_, k_L_takeOut l G A μ x x1 out (GM μ x S' (rIx B)) k1 hB.1.1 w1 (fun e m hg => by have := w2 e m hg; simpa using this), fun r m1 hg => w3 (fun e => 1) (by decide) r m1 hg⟩
theorem w_notesIn (l : Launch) (hsl : l.stackTraces = false) (G : GG) (A : Nat → Prop) (h : Sm μ x y out od S) (x1 x2 : Int32) : ∃ P1, Ok l yL_notesIn wsL_notesIn ({ frames := 12, cells := 2, slots := 12, locals := 230 } : Room) [.ref x, .int x1, .int x2, .ref out] G A μ P1 ∧ ∀ r m1, P1 r m1 → LPi (fun z => z.toInt64) x y out od (fun ν y => f_X5_notesIn ν y x1 x2) r m1 := by
  obtain ⟨hI, ⟨ad, hB⟩, ⟨am, hM⟩, hO⟩ := id h
  obtain ⟨B, e, hv⟩ := o_notesIn hB hI x1 x2
  have hI' := hI
  have k1 := (k_X4_notesIn l hsl G A μ x x1 x2 _ e).mono (P' := GM μ x S (rIx B)) (fun r m hg => ⟨hg.1, by rw [hg.2]; exact ⟨ad, hB⟩, by rw [hg.2]; exact FR.refl 0 μ⟩)
  obtain ⟨w1, w2, w3⟩ := w_core h hI' hv (fun z => z.toInt64)
  exact ⟨_, k_L_notesIn l G A μ x x1 x2 out (GM μ x S (rIx B)) k1 hB.1.1 w1 (fun e m hg => by have := w2 e m hg; simpa using this), fun r m1 hg => w3 (fun e => 1) (by decide) r m1 hg⟩
theorem w_noteAt (l : Launch) (hsl : l.stackTraces = false) (G : GG) (A : Nat → Prop) (h : Sm μ x y out od S) (x1 x2 x3 : Int32) : ∃ P1, Ok l yL_noteAt wsL_noteAt ({ frames := 14, cells := 3, slots := 18, locals := 270 } : Room) [.ref x, .int x1, .int x2, .int x3, .ref out] G A μ P1 ∧ ∀ r m1, P1 r m1 → LPi (fun z => z.toInt64) x y out od (fun ν y => f_X5_noteAt ν y x1 x2 x3) r m1 := by
  obtain ⟨hI, ⟨ad, hB⟩, ⟨am, hM⟩, hO⟩ := id h
  obtain ⟨B, e, hv⟩ := o_noteAt hB hI x1 x2 x3
  have hI' := hI
  have k1 := (k_X4_noteAt l hsl G A μ x x1 x2 x3 _ e).mono (P' := GM μ x S (rIx B)) (fun r m hg => ⟨hg.1, by rw [hg.2]; exact ⟨ad, hB⟩, by rw [hg.2]; exact FR.refl 0 μ⟩)
  obtain ⟨w1, w2, w3⟩ := w_core h hI' hv (fun z => z.toInt64)
  exact ⟨_, k_L_noteAt l G A μ x x1 x2 x3 out (GM μ x S (rIx B)) k1 hB.1.1 w1 (fun e m hg => by have := w2 e m hg; simpa using this), fun r m1 hg => w3 (fun e => if e = 3 then 1 else 2) (by decide) r m1 hg⟩
theorem w_pitchOf (l : Launch) (hsl : l.stackTraces = false) (G : GG) (A : Nat → Prop) (h : Sm μ x y out od S) (x1 : Int32) : ∃ P1, Ok l yL_pitchOf wsL_pitchOf ({ frames := 12, cells := 1, slots := 6, locals := 230 } : Room) [.ref x, .int x1, .ref out] G A μ P1 ∧ ∀ r m1, P1 r m1 → LPi (fun z => z.toInt64) x y out od (fun ν y => f_X5_pitchOf ν y x1) r m1 := by
  obtain ⟨hI, ⟨ad, hB⟩, ⟨am, hM⟩, hO⟩ := id h
  obtain ⟨B, e, hv⟩ := o_pitchOf hB hI x1
  have hI' := hI
  have k1 := (k_X4_pitchOf l hsl G A μ x x1 _ e).mono (P' := GM μ x S (rIx B)) (fun r m hg => ⟨hg.1, by rw [hg.2]; exact ⟨ad, hB⟩, by rw [hg.2]; exact FR.refl 0 μ⟩)
  obtain ⟨w1, w2, w3⟩ := w_core h hI' hv (fun z => z.toInt64)
  exact ⟨_, k_L_pitchOf l G A μ x x1 out (GM μ x S (rIx B)) k1 hB.1.1 w1 (fun e m hg => by have := w2 e m hg; simpa using this), fun r m1 hg => w3 (fun e => 1) (by decide) r m1 hg⟩
theorem w_lengthOf (l : Launch) (hsl : l.stackTraces = false) (G : GG) (A : Nat → Prop) (h : Sm μ x y out od S) (x1 : Int32) : ∃ P1, Ok l yL_lengthOf wsL_lengthOf ({ frames := 12, cells := 1, slots := 6, locals := 230 } : Room) [.ref x, .int x1, .ref out] G A μ P1 ∧ ∀ r m1, P1 r m1 → LPi (fun z => z.toInt64) x y out od (fun ν y => f_X5_lengthOf ν y x1) r m1 := by
  obtain ⟨hI, ⟨ad, hB⟩, ⟨am, hM⟩, hO⟩ := id h
  obtain ⟨B, e, hv⟩ := o_lengthOf hB hI x1
  have hI' := hI
  have k1 := (k_X4_lengthOf l hsl G A μ x x1 _ e).mono (P' := GM μ x S (rIx B)) (fun r m hg => ⟨hg.1, by rw [hg.2]; exact ⟨ad, hB⟩, by rw [hg.2]; exact FR.refl 0 μ⟩)
  obtain ⟨w1, w2, w3⟩ := w_core h hI' hv (fun z => z.toInt64)
  exact ⟨_, k_L_lengthOf l G A μ x x1 out (GM μ x S (rIx B)) k1 hB.1.1 w1 (fun e m hg => by have := w2 e m hg; simpa using this), fun r m1 hg => w3 (fun e => 1) (by decide) r m1 hg⟩
theorem w_isDivided (l : Launch) (hsl : l.stackTraces = false) (G : GG) (A : Nat → Prop) (h : Sm μ x y out od S) (x1 x2 : Int32) : ∃ P1, Ok l yL_isDivided wsL_isDivided ({ frames := 12, cells := 2, slots := 12, locals := 230 } : Room) [.ref x, .int x1, .int x2, .ref out] G A μ P1 ∧ ∀ r m1, P1 r m1 → LPi (fun z => if z = 0 then 0 else 1) x y out od (fun ν y => f_X5_isDivided ν y x1 x2) r m1 := by
  obtain ⟨hI, ⟨ad, hB⟩, ⟨am, hM⟩, hO⟩ := id h
  obtain ⟨B, e, hv⟩ := o_isDivided hB hI x1 x2
  have hI' := hI
  have k1 := (k_X4_isDivided l hsl G A μ x x1 x2 _ e).mono (P' := GM μ x S (rIx B)) (fun r m hg => ⟨hg.1, by rw [hg.2]; exact ⟨ad, hB⟩, by rw [hg.2]; exact FR.refl 0 μ⟩)
  obtain ⟨w1, w2, w3⟩ := w_core h hI' hv (fun z => if z = 0 then 0 else 1)
  exact ⟨_, k_L_isDivided l G A μ x x1 x2 out (GM μ x S (rIx B)) k1 hB.1.1 w1 (fun e m hg => by have := w2 e m hg; simpa using this), fun r m1 hg => w3 (fun e => 1) (by decide) r m1 hg⟩
theorem w_written (l : Launch) (hsl : l.stackTraces = false) (G : GG) (A : Nat → Prop) (h : Sm μ x y out od S) (x1 : Int32) : ∃ P1, Ok l yL_written wsL_written ({ frames := 12, cells := 1, slots := 6, locals := 230 } : Room) [.ref x, .int x1, .ref out] G A μ P1 ∧ ∀ r m1, P1 r m1 → LPi (fun z => z.toInt64) x y out od (fun ν y => f_X5_written ν y x1) r m1 := by
  obtain ⟨hI, ⟨ad, hB⟩, ⟨am, hM⟩, hO⟩ := id h
  obtain ⟨B, e, hv⟩ := o_written hB hI x1
  have hI' := hI
  have k1 := (k_X4_written l hsl G A μ x x1 _ e).mono (P' := GM μ x S (rIx B)) (fun r m hg => ⟨hg.1, by rw [hg.2]; exact ⟨ad, hB⟩, by rw [hg.2]; exact FR.refl 0 μ⟩)
  obtain ⟨w1, w2, w3⟩ := w_core h hI' hv (fun z => z.toInt64)
  exact ⟨_, k_L_written l G A μ x x1 out (GM μ x S (rIx B)) k1 hB.1.1 w1 (fun e m hg => by have := w2 e m hg; simpa using this), fun r m1 hg => w3 (fun e => 1) (by decide) r m1 hg⟩
theorem w_writtenKey (l : Launch) (hsl : l.stackTraces = false) (G : GG) (A : Nat → Prop) (h : Sm μ x y out od S) (x1 x2 : Int32) : ∃ P1, Ok l yL_writtenKey wsL_writtenKey ({ frames := 12, cells := 2, slots := 12, locals := 230 } : Room) [.ref x, .int x1, .int x2, .ref out] G A μ P1 ∧ ∀ r m1, P1 r m1 → LPi (fun z => z.toInt64) x y out od (fun ν y => f_X5_writtenKey ν y x1 x2) r m1 := by
  obtain ⟨hI, ⟨ad, hB⟩, ⟨am, hM⟩, hO⟩ := id h
  obtain ⟨B, e, hv⟩ := o_writtenKey hB hI x1 x2
  have hI' := hI
  have k1 := (k_X4_writtenKey l hsl G A μ x x1 x2 _ e).mono (P' := GM μ x S (rIx B)) (fun r m hg => ⟨hg.1, by rw [hg.2]; exact ⟨ad, hB⟩, by rw [hg.2]; exact FR.refl 0 μ⟩)
  obtain ⟨w1, w2, w3⟩ := w_core h hI' hv (fun z => z.toInt64)
  exact ⟨_, k_L_writtenKey l G A μ x x1 x2 out (GM μ x S (rIx B)) k1 hB.1.1 w1 (fun e m hg => by have := w2 e m hg; simpa using this), fun r m1 hg => w3 (fun e => 1) (by decide) r m1 hg⟩
theorem w_letterOf (l : Launch) (hsl : l.stackTraces = false) (G : GG) (A : Nat → Prop) (h : Sm μ x y out od S) (x1 : Int32) : ∃ P1, Ok l yL_letterOf wsL_letterOf ({ frames := 14, cells := 1, slots := 6, locals := 270 } : Room) [.ref x, .int x1, .ref out] G A μ P1 ∧ ∀ r m1, P1 r m1 → LPi (fun z => z.toInt64) x y out od (fun ν y => f_X5_letterOf ν y x1) r m1 := by
  obtain ⟨hI, ⟨ad, hB⟩, ⟨am, hM⟩, hO⟩ := id h
  obtain ⟨B, e, hv⟩ := o_letterOf hB hI x1
  have hI' := hI
  have k1 := (k_X4_letterOf l hsl G A μ x x1 _ e).mono (P' := GM μ x S (rIx B)) (fun r m hg => ⟨hg.1, by rw [hg.2]; exact ⟨ad, hB⟩, by rw [hg.2]; exact FR.refl 0 μ⟩)
  obtain ⟨w1, w2, w3⟩ := w_core h hI' hv (fun z => z.toInt64)
  exact ⟨_, k_L_letterOf l G A μ x x1 out (GM μ x S (rIx B)) k1 hB.1.1 w1 (fun e m hg => by have := w2 e m hg; simpa using this), fun r m1 hg => w3 (fun e => 1) (by decide) r m1 hg⟩
theorem w_accidentalOf (l : Launch) (hsl : l.stackTraces = false) (G : GG) (A : Nat → Prop) (h : Sm μ x y out od S) (x1 : Int32) : ∃ P1, Ok l yL_accidentalOf wsL_accidentalOf ({ frames := 14, cells := 1, slots := 6, locals := 270 } : Room) [.ref x, .int x1, .ref out] G A μ P1 ∧ ∀ r m1, P1 r m1 → LPi (fun z => z.toInt64) x y out od (fun ν y => f_X5_accidentalOf ν y x1) r m1 := by
  obtain ⟨hI, ⟨ad, hB⟩, ⟨am, hM⟩, hO⟩ := id h
  obtain ⟨B, e, hv⟩ := o_accidentalOf hB hI x1
  have hI' := hI
  have k1 := (k_X4_accidentalOf l hsl G A μ x x1 _ e).mono (P' := GM μ x S (rIx B)) (fun r m hg => ⟨hg.1, by rw [hg.2]; exact ⟨ad, hB⟩, by rw [hg.2]; exact FR.refl 0 μ⟩)
  obtain ⟨w1, w2, w3⟩ := w_core h hI' hv (fun z => z.toInt64)
  exact ⟨_, k_L_accidentalOf l G A μ x x1 out (GM μ x S (rIx B)) k1 hB.1.1 w1 (fun e m hg => by have := w2 e m hg; simpa using this), fun r m1 hg => w3 (fun e => 1) (by decide) r m1 hg⟩
theorem w_rests (l : Launch) (hsl : l.stackTraces = false) (G : GG) (A : Nat → Prop) (h : Sm μ x y out od S) (x1 : Int32) : ∃ P1, Ok l yL_rests wsL_rests ({ frames := 16, cells := 1, slots := 6, locals := 310 } : Room) [.ref x, .int x1, .ref out] G A μ P1 ∧ ∀ r m1, P1 r m1 → LPi (fun z => z.toInt64) x y out od (fun ν y => f_X5_rests ν y x1) r m1 := by
  obtain ⟨hI, ⟨ad, hB⟩, ⟨am, hM⟩, hO⟩ := id h
  obtain ⟨B, μ', S', e, hI', hb', hf, hv⟩ := o_rests hB hI x1
  have k1 := (k_X4_rests l hsl G A μ x x1 _ e).mono (P' := GM μ x S' (rIx B)) (fun r m hg => ⟨hg.1, by rw [hg.2]; exact hb', by rw [hg.2]; exact hf⟩)
  obtain ⟨w1, w2, w3⟩ := w_core h hI' hv (fun z => z.toInt64)
  exact ⟨_, k_L_rests l G A μ x x1 out (GM μ x S' (rIx B)) k1 hB.1.1 w1 (fun e m hg => by have := w2 e m hg; simpa using this), fun r m1 hg => w3 (fun e => 1) (by decide) r m1 hg⟩
theorem w_restFirst (l : Launch) (hsl : l.stackTraces = false) (G : GG) (A : Nat → Prop) (h : Sm μ x y out od S) (x1 x2 : Int32) : ∃ P1, Ok l yL_restFirst wsL_restFirst ({ frames := 18, cells := 2, slots := 12, locals := 350 } : Room) [.ref x, .int x1, .int x2, .ref out] G A μ P1 ∧ ∀ r m1, P1 r m1 → LPi (fun z => z.toInt64) x y out od (fun ν y => f_X5_restFirst ν y x1 x2) r m1 := by
  obtain ⟨hI, ⟨ad, hB⟩, ⟨am, hM⟩, hO⟩ := id h
  obtain ⟨B, μ', S', e, hI', hb', hf, hv⟩ := o_restFirst hB hI x1 x2
  have k1 := (k_X4_restFirst l hsl G A μ x x1 x2 _ e).mono (P' := GM μ x S' (rIx B)) (fun r m hg => ⟨hg.1, by rw [hg.2]; exact hb', by rw [hg.2]; exact hf⟩)
  obtain ⟨w1, w2, w3⟩ := w_core h hI' hv (fun z => z.toInt64)
  exact ⟨_, k_L_restFirst l G A μ x x1 x2 out (GM μ x S' (rIx B)) k1 hB.1.1 w1 (fun e m hg => by have := w2 e m hg; simpa using this), fun r m1 hg => w3 (fun e => 1) (by decide) r m1 hg⟩
theorem w_restBars (l : Launch) (hsl : l.stackTraces = false) (G : GG) (A : Nat → Prop) (h : Sm μ x y out od S) (x1 x2 : Int32) : ∃ P1, Ok l yL_restBars wsL_restBars ({ frames := 18, cells := 2, slots := 12, locals := 350 } : Room) [.ref x, .int x1, .int x2, .ref out] G A μ P1 ∧ ∀ r m1, P1 r m1 → LPi (fun z => z.toInt64) x y out od (fun ν y => f_X5_restBars ν y x1 x2) r m1 := by
  obtain ⟨hI, ⟨ad, hB⟩, ⟨am, hM⟩, hO⟩ := id h
  obtain ⟨B, μ', S', e, hI', hb', hf, hv⟩ := o_restBars hB hI x1 x2
  have k1 := (k_X4_restBars l hsl G A μ x x1 x2 _ e).mono (P' := GM μ x S' (rIx B)) (fun r m hg => ⟨hg.1, by rw [hg.2]; exact hb', by rw [hg.2]; exact hf⟩)
  obtain ⟨w1, w2, w3⟩ := w_core h hI' hv (fun z => z.toInt64)
  exact ⟨_, k_L_restBars l G A μ x x1 x2 out (GM μ x S' (rIx B)) k1 hB.1.1 w1 (fun e m hg => by have := w2 e m hg; simpa using this), fun r m1 hg => w3 (fun e => 1) (by decide) r m1 hg⟩
theorem w_setPage (l : Launch) (hsl : l.stackTraces = false) (G : GG) (A : Nat → Prop) (h : Sm μ x y out od S) (x1 : Int32) : ∃ P1, Ok l yL_setPage wsL_setPage ({ frames := 8, cells := 1, slots := 6, locals := 150 } : Room) [.ref x, .int x1, .ref out] G A μ P1 ∧ ∀ r m1, P1 r m1 → LPi (fun z => z.toInt64) x y out od (fun ν y => f_X5_setPage ν y x1) r m1 := by
  obtain ⟨hI, ⟨ad, hB⟩, ⟨am, hM⟩, hO⟩ := id h
  obtain ⟨B, μ', S', e, hI', hb', hf, hv⟩ := o_setPage hB hI x1
  have k1 := (k_X4_setPage l hsl G A μ x x1 _ e).mono (P' := GM μ x S' (rIx B)) (fun r m hg => ⟨hg.1, by rw [hg.2]; exact hb', by rw [hg.2]; exact hf⟩)
  obtain ⟨w1, w2, w3⟩ := w_core h hI' hv (fun z => z.toInt64)
  exact ⟨_, k_L_setPage l G A μ x x1 out (GM μ x S' (rIx B)) k1 hB.1.1 w1 (fun e m hg => by have := w2 e m hg; simpa using this), fun r m1 hg => w3 (fun e => 1) (by decide) r m1 hg⟩
theorem w_setTurn (l : Launch) (hsl : l.stackTraces = false) (G : GG) (A : Nat → Prop) (h : Sm μ x y out od S) (x1 : Int32) : ∃ P1, Ok l yL_setTurn wsL_setTurn ({ frames := 8, cells := 1, slots := 6, locals := 150 } : Room) [.ref x, .int x1, .ref out] G A μ P1 ∧ ∀ r m1, P1 r m1 → LPi (fun z => z.toInt64) x y out od (fun ν y => f_X5_setTurn ν y x1) r m1 := by
  obtain ⟨hI, ⟨ad, hB⟩, ⟨am, hM⟩, hO⟩ := id h
  obtain ⟨B, μ', S', e, hI', hb', hf, hv⟩ := o_setTurn hB hI x1
  have k1 := (k_X4_setTurn l hsl G A μ x x1 _ e).mono (P' := GM μ x S' (rIx B)) (fun r m hg => ⟨hg.1, by rw [hg.2]; exact hb', by rw [hg.2]; exact hf⟩)
  obtain ⟨w1, w2, w3⟩ := w_core h hI' hv (fun z => z.toInt64)
  exact ⟨_, k_L_setTurn l G A μ x x1 out (GM μ x S' (rIx B)) k1 hB.1.1 w1 (fun e m hg => by have := w2 e m hg; simpa using this), fun r m1 hg => w3 (fun e => 1) (by decide) r m1 hg⟩
theorem w_setCue (l : Launch) (hsl : l.stackTraces = false) (G : GG) (A : Nat → Prop) (h : Sm μ x y out od S) (x1 : Int32) : ∃ P1, Ok l yL_setCue wsL_setCue ({ frames := 8, cells := 1, slots := 6, locals := 150 } : Room) [.ref x, .int x1, .ref out] G A μ P1 ∧ ∀ r m1, P1 r m1 → LPi (fun z => z.toInt64) x y out od (fun ν y => f_X5_setCue ν y x1) r m1 := by
  obtain ⟨hI, ⟨ad, hB⟩, ⟨am, hM⟩, hO⟩ := id h
  obtain ⟨B, μ', S', e, hI', hb', hf, hv⟩ := o_setCue hB hI x1
  have k1 := (k_X4_setCue l hsl G A μ x x1 _ e).mono (P' := GM μ x S' (rIx B)) (fun r m hg => ⟨hg.1, by rw [hg.2]; exact hb', by rw [hg.2]; exact hf⟩)
  obtain ⟨w1, w2, w3⟩ := w_core h hI' hv (fun z => z.toInt64)
  exact ⟨_, k_L_setCue l G A μ x x1 out (GM μ x S' (rIx B)) k1 hB.1.1 w1 (fun e m hg => by have := w2 e m hg; simpa using this), fun r m1 hg => w3 (fun e => 1) (by decide) r m1 hg⟩
theorem w_hardTurns (l : Launch) (hsl : l.stackTraces = false) (G : GG) (A : Nat → Prop) (h : Sm μ x y out od S) (x1 : Int32) : ∃ P1, Ok l yL_hardTurns wsL_hardTurns ({ frames := 16, cells := 1, slots := 6, locals := 310 } : Room) [.ref x, .int x1, .ref out] G A μ P1 ∧ ∀ r m1, P1 r m1 → LPi (fun z => z.toInt64) x y out od (fun ν y => f_X5_hardTurns ν y x1) r m1 := by
  obtain ⟨hI, ⟨ad, hB⟩, ⟨am, hM⟩, hO⟩ := id h
  obtain ⟨B, μ', S', e, hI', hb', hf, hv⟩ := o_hardTurns hB hI x1
  have k1 := (k_X4_hardTurns l hsl G A μ x x1 _ e).mono (P' := GM μ x S' (rIx B)) (fun r m hg => ⟨hg.1, by rw [hg.2]; exact hb', by rw [hg.2]; exact hf⟩)
  obtain ⟨w1, w2, w3⟩ := w_core h hI' hv (fun z => z.toInt64)
  exact ⟨_, k_L_hardTurns l G A μ x x1 out (GM μ x S' (rIx B)) k1 hB.1.1 w1 (fun e m hg => by have := w2 e m hg; simpa using this), fun r m1 hg => w3 (fun e => 1) (by decide) r m1 hg⟩
theorem w_hardTurnsByTrying (l : Launch) (hsl : l.stackTraces = false) (G : GG) (A : Nat → Prop) (h : Sm μ x y out od S) (x1 : Int32) : ∃ P1, Ok l yL_hardTurnsByTrying wsL_hardTurnsByTrying ({ frames := 58, cells := 1, slots := 6, locals := 1150 } : Room) [.ref x, .int x1, .ref out] G A μ P1 ∧ ∀ r m1, P1 r m1 → LPi (fun z => z.toInt64) x y out od (fun ν y => f_X5_hardTurnsByTrying ν y x1) r m1 := by
  obtain ⟨hI, ⟨ad, hB⟩, ⟨am, hM⟩, hO⟩ := id h
  obtain ⟨B, μ', S', e, hI', hb', hf, hv⟩ := o_hardTurnsByTrying hB hI x1
  have k1 := (k_X4_hardTurnsByTrying l hsl G A μ x x1 _ e).mono (P' := GM μ x S' (rIx B)) (fun r m hg => ⟨hg.1, by rw [hg.2]; exact hb', by rw [hg.2]; exact hf⟩)
  obtain ⟨w1, w2, w3⟩ := w_core h hI' hv (fun z => z.toInt64)
  exact ⟨_, k_L_hardTurnsByTrying l G A μ x x1 out (GM μ x S' (rIx B)) k1 hB.1.1 w1 (fun e m hg => by have := w2 e m hg; simpa using this), fun r m1 hg => w3 (fun e => 1) (by decide) r m1 hg⟩
theorem w_pages (l : Launch) (hsl : l.stackTraces = false) (G : GG) (A : Nat → Prop) (h : Sm μ x y out od S) (x1 : Int32) : ∃ P1, Ok l yL_pages wsL_pages ({ frames := 16, cells := 1, slots := 6, locals := 310 } : Room) [.ref x, .int x1, .ref out] G A μ P1 ∧ ∀ r m1, P1 r m1 → LPi (fun z => z.toInt64) x y out od (fun ν y => f_X5_pages ν y x1) r m1 := by
  obtain ⟨hI, ⟨ad, hB⟩, ⟨am, hM⟩, hO⟩ := id h
  obtain ⟨B, μ', S', e, hI', hb', hf, hv⟩ := o_pages hB hI x1
  have k1 := (k_X4_pages l hsl G A μ x x1 _ e).mono (P' := GM μ x S' (rIx B)) (fun r m hg => ⟨hg.1, by rw [hg.2]; exact hb', by rw [hg.2]; exact hf⟩)
  obtain ⟨w1, w2, w3⟩ := w_core h hI' hv (fun z => z.toInt64)
  exact ⟨_, k_L_pages l G A μ x x1 out (GM μ x S' (rIx B)) k1 hB.1.1 w1 (fun e m hg => by have := w2 e m hg; simpa using this), fun r m1 hg => w3 (fun e => 1) (by decide) r m1 hg⟩
theorem w_pageEnd (l : Launch) (hsl : l.stackTraces = false) (G : GG) (A : Nat → Prop) (h : Sm μ x y out od S) (x1 x2 : Int32) : ∃ P1, Ok l yL_pageEnd wsL_pageEnd ({ frames := 16, cells := 2, slots := 12, locals := 310 } : Room) [.ref x, .int x1, .int x2, .ref out] G A μ P1 ∧ ∀ r m1, P1 r m1 → LPi (fun z => z.toInt64) x y out od (fun ν y => f_X5_pageEnd ν y x1 x2) r m1 := by
  obtain ⟨hI, ⟨ad, hB⟩, ⟨am, hM⟩, hO⟩ := id h
  obtain ⟨B, μ', S', e, hI', hb', hf, hv⟩ := o_pageEnd hB hI x1 x2
  have k1 := (k_X4_pageEnd l hsl G A μ x x1 x2 _ e).mono (P' := GM μ x S' (rIx B)) (fun r m hg => ⟨hg.1, by rw [hg.2]; exact hb', by rw [hg.2]; exact hf⟩)
  obtain ⟨w1, w2, w3⟩ := w_core h hI' hv (fun z => z.toInt64)
  exact ⟨_, k_L_pageEnd l G A μ x x1 x2 out (GM μ x S' (rIx B)) k1 hB.1.1 w1 (fun e m hg => by have := w2 e m hg; simpa using this), fun r m1 hg => w3 (fun e => if e = 3 then 1 else 2) (by decide) r m1 hg⟩
theorem w_cuePart (l : Launch) (hsl : l.stackTraces = false) (G : GG) (A : Nat → Prop) (h : Sm μ x y out od S) (x1 x2 : Int32) : ∃ P1, Ok l yL_cuePart wsL_cuePart ({ frames := 18, cells := 3, slots := 18, locals := 350 } : Room) [.ref x, .int x1, .int x2, .ref out] G A μ P1 ∧ ∀ r m1, P1 r m1 → LPi (fun z => z.toInt64) x y out od (fun ν y => f_X5_cuePart ν y x1 x2) r m1 := by
  obtain ⟨hI, ⟨ad, hB⟩, ⟨am, hM⟩, hO⟩ := id h
  obtain ⟨B, μ', S', e, hI', hb', hf, hv⟩ := o_cuePart hB hI x1 x2
  have k1 := (k_X4_cuePart l hsl G A μ x x1 x2 _ e).mono (P' := GM μ x S' (rIx B)) (fun r m hg => ⟨hg.1, by rw [hg.2]; exact hb', by rw [hg.2]; exact hf⟩)
  obtain ⟨w1, w2, w3⟩ := w_core h hI' hv (fun z => z.toInt64)
  exact ⟨_, k_L_cuePart l G A μ x x1 x2 out (GM μ x S' (rIx B)) k1 hB.1.1 w1 (fun e m hg => by have := w2 e m hg; simpa using this), fun r m1 hg => w3 (fun e => if e = 3 then 1 else 2) (by decide) r m1 hg⟩
theorem w_cuePitch (l : Launch) (hsl : l.stackTraces = false) (G : GG) (A : Nat → Prop) (h : Sm μ x y out od S) (x1 x2 x3 : Int32) : ∃ P1, Ok l yL_cuePitch wsL_cuePitch ({ frames := 18, cells := 5, slots := 30, locals := 350 } : Room) [.ref x, .int x1, .int x2, .int x3, .ref out] G A μ P1 ∧ ∀ r m1, P1 r m1 → LPi (fun z => z.toInt64) x y out od (fun ν y => f_X5_cuePitch ν y x1 x2 x3) r m1 := by
  obtain ⟨hI, ⟨ad, hB⟩, ⟨am, hM⟩, hO⟩ := id h
  obtain ⟨B, μ', S', e, hI', hb', hf, hv⟩ := o_cuePitch hB hI x1 x2 x3
  have k1 := (k_X4_cuePitch l hsl G A μ x x1 x2 x3 _ e).mono (P' := GM μ x S' (rIx B)) (fun r m hg => ⟨hg.1, by rw [hg.2]; exact hb', by rw [hg.2]; exact hf⟩)
  obtain ⟨w1, w2, w3⟩ := w_core h hI' hv (fun z => z.toInt64)
  exact ⟨_, k_L_cuePitch l G A μ x x1 x2 x3 out (GM μ x S' (rIx B)) k1 hB.1.1 w1 (fun e m hg => by have := w2 e m hg; simpa using this), fun r m1 hg => w3 (fun e => if e = 3 then 1 else if e = 5 then 2 else 3) (by decide) r m1 hg⟩
theorem w_copyOut (l : Launch) (hsl : l.stackTraces = false) (G : GG) (A : Nat → Prop) (h : Sm μ x y out od S) (x1 : Int32) : ∃ P1, Ok l yL_copyOut wsL_copyOut ({ frames := 12, cells := 1, slots := 6, locals := 230 } : Room) [.ref x, .int x1, .ref out] G A μ P1 ∧ ∀ r m1, P1 r m1 → LPi (fun z => z.toInt64) x y out od (fun ν y => f_X5_copyOut ν y x1) r m1 := by
  obtain ⟨hI, ⟨ad, hB⟩, ⟨am, hM⟩, hO⟩ := id h
  obtain ⟨B, μ', S', e, hI', hb', hf, hv⟩ := o_copyOut hB hI x1
  have k1 := (k_X4_copyOut l hsl G A μ x x1 _ e).mono (P' := GM μ x S' (rIx B)) (fun r m hg => ⟨hg.1, by rw [hg.2]; exact hb', by rw [hg.2]; exact hf⟩)
  obtain ⟨w1, w2, w3⟩ := w_core h hI' hv (fun z => z.toInt64)
  exact ⟨_, k_L_copyOut l G A μ x x1 out (GM μ x S' (rIx B)) k1 hB.1.1 w1 (fun e m hg => by have := w2 e m hg; simpa using this), fun r m1 hg => w3 (fun e => 1) (by decide) r m1 hg⟩
theorem w_carry (l : Launch) (hsl : l.stackTraces = false) (G : GG) (A : Nat → Prop) (h : Sm μ x y out od S) (x1 : Int32) : ∃ P1, Ok l yL_carry wsL_carry ({ frames := 14, cells := 2, slots := 12, locals := 270 } : Room) [.ref x, .int x1, .ref out] G A μ P1 ∧ ∀ r m1, P1 r m1 → LPi (fun z => z.toInt64) x y out od (fun ν y => f_X5_carry ν y x1) r m1 := by
  obtain ⟨hI, ⟨ad, hB⟩, ⟨am, hM⟩, hO⟩ := id h
  obtain ⟨B, μ', S', e, hI', hb', hf, hv⟩ := o_carry hB hI x1
  have k1 := (k_X4_carry l hsl G A μ x x1 _ e).mono (P' := GM μ x S' (rIx B)) (fun r m hg => ⟨hg.1, by rw [hg.2]; exact hb', by rw [hg.2]; exact hf⟩)
  obtain ⟨w1, w2, w3⟩ := w_core h hI' hv (fun z => z.toInt64)
  exact ⟨_, k_L_carry l G A μ x x1 out (GM μ x S' (rIx B)) k1 hB.1.1 w1 (fun e m hg => by have := w2 e m hg; simpa using this), fun r m1 hg => w3 (fun e => if e = 3 then 1 else 2) (by decide) r m1 hg⟩
theorem w_differences (l : Launch) (hsl : l.stackTraces = false) (G : GG) (A : Nat → Prop) (h : Sm μ x y out od S) (x1 : Int32) : ∃ P1, Ok l yL_differences wsL_differences ({ frames := 14, cells := 2, slots := 12, locals := 270 } : Room) [.ref x, .int x1, .ref out] G A μ P1 ∧ ∀ r m1, P1 r m1 → LPi (fun z => z.toInt64) x y out od (fun ν y => f_X5_differences ν y x1) r m1 := by
  obtain ⟨hI, ⟨ad, hB⟩, ⟨am, hM⟩, hO⟩ := id h
  obtain ⟨B, e, hv⟩ := o_differences hB hI x1
  have hI' := hI
  have k1 := (k_X4_differences l hsl G A μ x x1 _ e).mono (P' := GM μ x S (rIx B)) (fun r m hg => ⟨hg.1, by rw [hg.2]; exact ⟨ad, hB⟩, by rw [hg.2]; exact FR.refl 0 μ⟩)
  obtain ⟨w1, w2, w3⟩ := w_core h hI' hv (fun z => z.toInt64)
  exact ⟨_, k_L_differences l G A μ x x1 out (GM μ x S (rIx B)) k1 hB.1.1 w1 (fun e m hg => by have := w2 e m hg; simpa using this), fun r m1 hg => w3 (fun e => if e = 3 then 1 else 2) (by decide) r m1 hg⟩
theorem w_differencesByComparing (l : Launch) (hsl : l.stackTraces = false) (G : GG) (A : Nat → Prop) (h : Sm μ x y out od S) (x1 : Int32) : ∃ P1, Ok l yL_differencesByComparing wsL_differencesByComparing ({ frames := 14, cells := 2, slots := 12, locals := 270 } : Room) [.ref x, .int x1, .ref out] G A μ P1 ∧ ∀ r m1, P1 r m1 → LPi (fun z => z.toInt64) x y out od (fun ν y => f_X5_differencesByComparing ν y x1) r m1 := by
  obtain ⟨hI, ⟨ad, hB⟩, ⟨am, hM⟩, hO⟩ := id h
  obtain ⟨B, e, hv⟩ := o_differencesByComparing hB hI x1
  have hI' := hI
  have k1 := (k_X4_differencesByComparing l hsl G A μ x x1 _ e).mono (P' := GM μ x S (rIx B)) (fun r m hg => ⟨hg.1, by rw [hg.2]; exact ⟨ad, hB⟩, by rw [hg.2]; exact FR.refl 0 μ⟩)
  obtain ⟨w1, w2, w3⟩ := w_core h hI' hv (fun z => z.toInt64)
  exact ⟨_, k_L_differencesByComparing l G A μ x x1 out (GM μ x S (rIx B)) k1 hB.1.1 w1 (fun e m hg => by have := w2 e m hg; simpa using this), fun r m1 hg => w3 (fun e => if e = 3 then 1 else 2) (by decide) r m1 hg⟩
theorem w_copied (l : Launch) (hsl : l.stackTraces = false) (G : GG) (A : Nat → Prop) (h : Sm μ x y out od S) (x1 : Int32) : ∃ P1, Ok l yL_copied wsL_copied ({ frames := 10, cells := 2, slots := 12, locals := 190 } : Room) [.ref x, .int x1, .ref out] G A μ P1 ∧ ∀ r m1, P1 r m1 → LPi (fun z => z.toInt64) x y out od (fun ν y => f_X5_copied ν y x1) r m1 := by
  obtain ⟨hI, ⟨ad, hB⟩, ⟨am, hM⟩, hO⟩ := id h
  obtain ⟨B, e, hv⟩ := o_copied hB hI x1
  have hI' := hI
  have k1 := (k_X4_copied l hsl G A μ x x1 _ e).mono (P' := GM μ x S (rIx B)) (fun r m hg => ⟨hg.1, by rw [hg.2]; exact ⟨ad, hB⟩, by rw [hg.2]; exact FR.refl 0 μ⟩)
  obtain ⟨w1, w2, w3⟩ := w_core h hI' hv (fun z => z.toInt64)
  exact ⟨_, k_L_copied l G A μ x x1 out (GM μ x S (rIx B)) k1 hB.1.1 w1 (fun e m hg => by have := w2 e m hg; simpa using this), fun r m1 hg => w3 (fun e => if e = 4 then 1 else 2) (by decide) r m1 hg⟩
theorem w_meanPitch (l : Launch) (hsl : l.stackTraces = false) (G : GG) (A : Nat → Prop) (h : Sm μ x y out od S) (x1 : Int32) : ∃ P1, Ok l yL_meanPitch wsL_meanPitch ({ frames := 12, cells := 2, slots := 12, locals := 230 } : Room) [.ref x, .int x1, .ref od] G A μ P1 ∧ ∀ r m1, P1 r m1 → LPD x y out od (fun ν y => f_X5_meanPitch ν y x1) r m1 := by
  obtain ⟨hI, ⟨ad, hB⟩, ⟨am, hM⟩, hO⟩ := id h
  obtain ⟨B, e, hn, hv⟩ := o_meanPitch hB hI x1
  have hI' := hI
  have k1 := (k_X4_meanPitch l hsl G A μ x x1 _ e).mono (P' := GM μ x S (rDx B)) (fun r m hg => ⟨hg.1, by rw [hg.2]; exact ⟨ad, hB⟩, by rw [hg.2]; exact FR.refl 0 μ⟩)
  obtain ⟨w1, w2, w3⟩ := w_coreD h hI' hv hn
  exact ⟨_, k_L_meanPitch l G A μ x x1 od (GM μ x S (rDx B)) k1 hB.1.1 w1 (fun e m hg => by have := w2 e m hg; simpa using this), fun r m1 hg => w3 (fun e => if e = 3 then 1 else 2) (by decide) r m1 hg⟩
theorem w_restShare (l : Launch) (hsl : l.stackTraces = false) (G : GG) (A : Nat → Prop) (h : Sm μ x y out od S) (x1 : Int32) : ∃ P1, Ok l yL_restShare wsL_restShare ({ frames := 14, cells := 2, slots := 12, locals := 270 } : Room) [.ref x, .int x1, .ref od] G A μ P1 ∧ ∀ r m1, P1 r m1 → LPF x y out od (fun ν y => f_X5_restShare ν y x1) r m1 := by
  obtain ⟨hI, ⟨ad, hB⟩, ⟨am, hM⟩, hO⟩ := id h
  obtain ⟨B, e, hn, hv⟩ := o_restShare hB hI x1
  have hI' := hI
  have k1 := (k_X4_restShare l hsl G A μ x x1 _ e).mono (P' := GM μ x S (rFx B)) (fun r m hg => ⟨hg.1, by rw [hg.2]; exact ⟨ad, hB⟩, by rw [hg.2]; exact FR.refl 0 μ⟩)
  obtain ⟨w1, w2, w3⟩ := w_coreF h hI' hv hn
  exact ⟨_, k_L_restShare l G A μ x x1 od (GM μ x S (rFx B)) k1 hB.1.1 w1 (fun e m hg => by have := w2 e m hg; simpa using this), fun r m1 hg => w3 (fun e => if e = 3 then 1 else 2) (by decide) r m1 hg⟩
end P43
