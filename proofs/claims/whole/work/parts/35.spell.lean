/-! SPELLING -/
def fmo9 (x m : Int32) : Int32 := if 0 ≤ (x ^^^ m) then x - x / m * m else if x - x / m * m = 0 then x - x / m * m else x - x / m * m + m
def fdo9 (x m : Int32) : Int32 := if 0 ≤ (x ^^^ m) then x / m else if x / m * m = x then x / m else x / m - 1
def rs9 (x m : Int32) : Int32 := (x - x / m * m + m) - (x - x / m * m + m) / m * m
theorem fmod_ok (μ : Mem) (x : Int32) {m : Int32} (hm : m ≠ 0) : f_J9_floorMod_7cf53 μ x m = some (fmo9 x m) := by
  unfold f_J9_floorMod_7cf53 fmo9
  rw [if_neg hm]
  split
  · rfl
  · split <;> rfl
theorem fdiv_ok (μ : Mem) (x : Int32) {m : Int32} (hm : m ≠ 0) : f_J9_floorDiv_7cf53 μ x m = some (fdo9 x m) := by
  unfold f_J9_floorDiv_7cf53 fdo9
  rw [if_neg hm]
  split
  · rfl
  · split <;> rfl
theorem rest_ok (μ : Mem) (x : Int32) {m : Int32} (hm : m ≠ 0) : f_X5_rest μ x m = some (rs9 x m) := by
  unfold f_X5_rest rs9
  rw [if_neg hm, if_neg hm]
/-- a number within bounds, counted from below -/
theorem rng9 {x : Int32} (m n : Nat) (hm : m < 1000) (hn : n < 1000) (h1 : -(m : Int) ≤ x.toInt) (h2 : x.toInt ≤ (n : Int)) : ∃ j, j < m + n + 1 ∧ x = nI j - nI m := by
  refine ⟨(x.toInt + m).toNat, by omega, Int32.toInt_inj.mp ?_⟩
  rw [pk_sub_toInt (by omega) (by omega)]
  omega
def sk9 (k s : Int32) : Int32 := if fmo9 (k + 7 * s) 12 ≤ 6 then fmo9 (k + 7 * s) 12 else fmo9 (k + 7 * s) 12 - 12
def ky9 (k s : Int32) : Int32 := rs9 (k + 7 * s + 5) 12 - 5
theorem key_all : ∀ j, j < 13 → ∀ i, i < 25 → sk9 (nI j - nI 6) (nI i - nI 12) = ky9 (nI j - nI 6) (nI i - nI 12) ∧ ∃ q, q < 12 ∧ sk9 (nI j - nI 6) (nI i - nI 12) = nI q - nI 5 := by decide +kernel
theorem key_eq {k s : Int32} (hk : -6 ≤ k.toInt ∧ k.toInt ≤ 6) (hs : -12 ≤ s.toInt ∧ s.toInt ≤ 12) : sk9 k s = ky9 k s ∧ ∃ q, q < 12 ∧ sk9 k s = nI q - nI 5 := by
  obtain ⟨j, hj, rfl⟩ := rng9 (x := k) 6 6 (by decide) (by decide) hk.1 hk.2
  obtain ⟨i, hi, rfl⟩ := rng9 (x := s) 12 12 (by decide) (by decide) hs.1 hs.2
  exact key_all j hj i hi
theorem shifted_ok (μ : Mem) (k s : Int32) : f_X4_shiftedKey μ k s = some (sk9 k s) := by
  unfold f_X4_shiftedKey sk9
  rw [fmod_ok μ _ (by decide), obs]
  split <;> rfl
theorem sound_all : ∀ j, j < 121 → fmo9 (nI j) 12 = nI (j % 12) ∧ rs9 (nI j) 12 = nI (j % 12) := by decide +kernel
/-- the search for the place -/
def pl9 (key sound : Int32) : Nat → Int32 → Option Int32
  | 0, _ => none
  | n + 1, w => if key + 7 ≤ w then some w else if fmo9 (w * 7) 12 = sound then some w else pl9 key sound n (w + 1)
def ml9 (sound : Int32) : Nat → Int32 → Option Int32
  | 0, _ => none
  | n + 1, w => if rs9 (7 * w) 12 = sound then some w else ml9 sound n (w + 1)
/-- the place itself -/
def pc9 (q v : Nat) : Int32 := (pl9 (nI q - nI 5) (nI v) 200 (nI q - nI 5 - 4)).getD 0
theorem place_all : ∀ q, q < 12 → ∀ v, v < 12 → pl9 (nI q - nI 5) (nI v) 200 (nI q - nI 5 - 4) = some (pc9 q v) ∧ ml9 (nI v) 200 (nI q - nI 5 - 4) = some (pc9 q v) ∧ ∃ j, j < 24 ∧ pc9 q v = nI j - nI 10 := by decide +kernel
theorem c_placeL (μ : Mem) (x a b d : Nat) (key sound : Int32) : ∀ n w, f_X4_placeOf_L61c μ x a b d key sound (fun z => some z) n w = pl9 key sound n w := by
  intro n
  induction n with
  | zero => intro w; rfl
  | succ n ih =>
    intro w
    unfold f_X4_placeOf_L61c pl9
    rw [fmod_ok μ _ (by decide), obs, ih]
section P35
variable {μ ν : Mem} {x y : Nat} {ad : Nat → Nat → Nat} {am : Nat → Nat} {S : SS}
theorem c_writtenPitch (h : BP μ x ad S) (hI : Inv S) {i p : Nat} (hi : i < S.1.2.2) (hp : p < S.1.1) (e : S.2 5 i = nI p) : f_X4_writtenPitch μ x (some (ad 4 i)) = some (S.2 10 i + S.2 0 p) := by
  simp only [f_X4_writtenPitch, obs, h.t0 hi, h.ch, e, pson_hit h hp hI.1.1, onl_s, h.t5 hi, h.p0 hp]
theorem m_writtenOf (h : MP μ y am S) (hI : Inv S) {i p : Nat} (hi : i < S.1.2.2) (hp : p < S.1.1) (e : S.2 5 i = nI p) : f_X5_writtenOf μ y (nI i) = some (S.2 10 i + S.2 0 p) := by
  simp only [f_X5_writtenOf, obs, h.q9, h.q1, h.q4, h.a9 hi hI.1.2.2, h.a4 hi hI.1.2.2, e, h.a1 hp hI.1.1]
theorem m_keyOf (h : MP μ y am S) (hI : Inv S) {p b : Nat} (hp : p < S.1.1) (hb : b < S.1.2.1) : f_X5_keyOf μ y (nI p) (nI b) = some (ky9 (S.2 3 b) (S.2 0 p)) := by
  simp only [f_X5_keyOf, obs, h.q3, h.q1, h.a3 hb hI.1.2.1, h.a1 hp hI.1.1, rest_ok μ _ (show (12 : Int32) ≠ 0 by decide)]
  rfl
theorem Inv.snd (hI : Inv S) {i p : Nat} (hi : i < S.1.2.2) (hp : p < S.1.1) : ∃ j, j < 121 ∧ S.2 10 i + S.2 0 p = nI j := by
  obtain ⟨-, -, -, -, -, ⟨h1, h2⟩, -⟩ := hI.2.2.2.1 i hi
  obtain ⟨⟨h3, h4⟩, -⟩ := hI.2.1 p hp
  obtain ⟨u, hu, e1⟩ := rng9 (x := S.2 10 i) 0 96 (by decide) (by decide) (by omega) h2
  obtain ⟨v, hv, e2⟩ := rng9 (x := S.2 0 p) 12 12 (by decide) (by decide) h3 h4
  have e3 : S.2 10 i = nI u := by rw [e1, show nI 0 = 0 from rfl, Int32.sub_zero]
  have hu24 : 24 ≤ u := by
    rw [e3, nI_toInt (by omega)] at h1
    omega
  refine ⟨u + v - 12, by omega, ?_⟩
  rw [e3, e2, ← pk_sub (a := u + v) (b := 12) (by omega), ← nI_add, Int32.sub_eq_add_neg, Int32.sub_eq_add_neg, Int32.add_assoc]
/-- what the spelling of a note in its part and bar rests on -/
theorem Inv.at (hI : Inv S) {i : Nat} (hi : i < S.1.2.2) : ∃ p b : Nat, p < S.1.1 ∧ b < S.1.2.1 ∧ S.2 5 i = nI p ∧ S.2 6 i = nI b := by
  obtain ⟨⟨p, hp, e1⟩, ⟨b, hb, e2, -⟩, -⟩ := hI.2.2.2.1 i hi
  exact ⟨p, b, hp, hb, e1, e2⟩
theorem c_placeK (h : BP μ x ad S) (hI : Inv S) {i p b : Nat} (hi : i < S.1.2.2) (hp : p < S.1.1) (hb : b < S.1.2.1) (e1 : S.2 5 i = nI p) (e2 : S.2 6 i = nI b) :
    f_X4_placeOf μ x (some (ad 4 i)) = pl9 (sk9 (S.2 3 b) (S.2 0 p)) (fmo9 (S.2 10 i + S.2 0 p) 12) 200 (sk9 (S.2 3 b) (S.2 0 p) - 4) := by
  unfold f_X4_placeOf
  rw [obs, h.t0 hi, obs, h.ch, obs, e1, pson_hit h hp hI.1.1, obs, h.t1 hi, obs, obs, e2, bson_hit h hb hI.1.2.1, obs, onl_s, onl_s, h.b1 hb, obs, h.p0 hp, obs, shifted_ok, obs, obs, c_writtenPitch h hI hi hp e1, obs, fmod_ok μ _ (show (12 : Int32) ≠ 0 by decide), obs]
  exact c_placeL μ x (ad 4 i) (ad 2 p) (ad 3 b) _ _ _ _
theorem m_placeL (h : MP ν y am S) (hI : Inv S) {i p : Nat} (hi : i < S.1.2.2) (hp : p < S.1.1) (e1 : S.2 5 i = nI p) : ∀ n w, f_X5_placeOf_L19 ν y (nI i) (fun t => some t) n w = ml9 (rs9 (S.2 10 i + S.2 0 p) 12) n w := by
  intro n
  induction n with
  | zero => intro w; rfl
  | succ n ih =>
    intro w
    unfold f_X5_placeOf_L19 ml9
    rw [rest_ok ν _ (show (12 : Int32) ≠ 0 by decide), obs, h.ch, obs, m_writtenOf h hI hi hp e1, obs, rest_ok ν _ (show (12 : Int32) ≠ 0 by decide), obs, ih]
theorem m_placeK (h : MP ν y am S) (hI : Inv S) {i p b : Nat} (hi : i < S.1.2.2) (hp : p < S.1.1) (hb : b < S.1.2.1) (e1 : S.2 5 i = nI p) (e2 : S.2 6 i = nI b) :
    f_X5_placeOf ν y (nI i) = ml9 (rs9 (S.2 10 i + S.2 0 p) 12) 200 (ky9 (S.2 3 b) (S.2 0 p) - 4) := by
  unfold f_X5_placeOf
  rw [h.q4, obs, obs, h.a4 hi hI.1.2.2, obs, h.q5, obs, obs, h.a5 hi hI.1.2.2, obs, h.ch, obs, e1, e2, m_keyOf h hI hp hb, obs]
  exact m_placeL h hI hi hp e1 _ _
theorem c_placeOf (h : BP μ x ad S) (hI : Inv S) {i : Nat} (hi : i < S.1.2.2) : ∃ q v, q < 12 ∧ v < 12 ∧ f_X4_placeOf μ x (some (ad 4 i)) = some (pc9 q v) ∧ (∀ p : Nat, p < S.1.1 → S.2 5 i = nI p → nI v = fmo9 (S.2 10 i + S.2 0 p) 12 ∧ f_X4_writtenPitch μ x (some (ad 4 i)) = some (S.2 10 i + S.2 0 p)) ∧ ∀ {ν : Mem} {z : Nat} {an : Nat → Nat}, MP ν z an S → f_X5_placeOf ν z (nI i) = some (pc9 q v) := by
  obtain ⟨p, b, hp, hb, e1, e2⟩ := hI.at hi
  obtain ⟨k1, q, hq, k2⟩ := key_eq (hI.2.2.1 b hb).2.1 (hI.2.1 p hp).1
  obtain ⟨j, hj, s1⟩ := hI.snd hi hp
  obtain ⟨g1, g2⟩ := sound_all j hj
  have hv : j % 12 < 12 := Nat.mod_lt _ (by decide)
  obtain ⟨a1, a2, -⟩ := place_all q hq (j % 12) hv
  have h1 := c_placeK h hI hi hp hb e1 e2
  rw [k2, s1, g1, a1] at h1
  refine ⟨q, j % 12, hq, hv, h1, ?_, ?_⟩
  · intro p' hp' e'
    obtain rfl : p = p' := (nI_eq (by have := hI.1.1; omega) (by have := hI.1.1; omega)).mp (e1.symm.trans e')
    exact ⟨by rw [s1, g1], c_writtenPitch h hI hi hp e1⟩
  · intro ν z an hM
    have h2 := m_placeK hM hI hi hp hb e1 e2
    rw [← k1, k2, s1, g2, a2] at h2
    exact h2
def lt9 (j : Nat) : Int32 := if fmo9 (nI j - nI 10 + 1) 7 = 0 then 70 else if fmo9 (nI j - nI 10 + 1) 7 = 1 then 67 else if fmo9 (nI j - nI 10 + 1) 7 = 2 then 71 else if fmo9 (nI j - nI 10 + 1) 7 = 3 then 68 else if fmo9 (nI j - nI 10 + 1) 7 = 4 then 65 else if fmo9 (nI j - nI 10 + 1) 7 = 5 then 69 else 66
theorem letter_ok (μ : Mem) (j : Nat) : f_X4_letterOfPlace μ (nI j - nI 10) = some (lt9 j) := by
  unfold f_X4_letterOfPlace lt9
  rw [fmod_ok μ _ (by decide), obs]
  repeat (split; · rfl)
  rfl
theorem sharps_all : ∀ j, j < 24 → fdo9 (nI j - nI 10 + 1) 7 = (nI j - nI 10 + 1 - rs9 (nI j - nI 10 + 1) 7) / 7 ∧ fmo9 (nI j - nI 10 + 1) 7 = rs9 (nI j - nI 10 + 1) 7 ∧ ∃ k, k < 7 ∧ rs9 (nI j - nI 10 + 1) 7 = nI k := by decide +kernel
end P35
