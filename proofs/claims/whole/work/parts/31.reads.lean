/-! READING both pictures -/
section P31
variable {μ : Mem} {x y : Nat} {ad : Nat → Nat → Nat} {am : Nat → Nat} {S : SS}
theorem byR {α : Sort _} {a b : α} (h : a = b) : a = b := Classical.byContradiction (fun z => z h)
theorem obs {α β : Type} (a : α) (f : α → Option β) : (some a).bind f = f a := byR rfl
theorem ift {α : Type} {h : Decidable True} (a b : α) : @ite α True h a b = a := if_pos trivial
theorem onl_n {α : Type} (A : Option α) (f : Nat → Option α) : onl none A f = A := byR rfl
theorem onl_s {α : Type} (A : Option α) (f : Nat → Option α) (a : Nat) : onl (some a) A f = f a := byR rfl
theorem bi2_s {α β γ : Type} (a : α) (b : β) (f : α → β → Option γ) : bi2 (some (a, b)) f = f a b := byR rfl
theorem sml_l {α β : Type} (e : Nat) (f : Nat → β) (g : α → β) : sml (.inl e) f g = f e := byR rfl
theorem sml_r {α β : Type} (v : α) (f : Nat → β) (g : α → β) : sml (.inr v) f g = g v := byR rfl
theorem BP.ch (h : BP μ x ad S) : chk μ 6 x = some () := chk_of h.1.1
theorem BP.q0 (h : BP μ x ad S) : getQ μ 6 0 x = some (some (ad 0 0)) := by rw [getQ_ok h.1.1, h.1.2.1]
theorem BP.q1 (h : BP μ x ad S) : getQ μ 6 1 x = some (some (ad 0 1)) := by rw [getQ_ok h.1.1, h.1.2.2.1]
theorem BP.q2 (h : BP μ x ad S) : getQ μ 6 2 x = some (some (ad 0 2)) := by rw [getQ_ok h.1.1, h.1.2.2.2.1]
theorem BP.q3 (h : BP μ x ad S) : getQ μ 6 3 x = some (some (ad 0 3)) := by rw [getQ_ok h.1.1, h.1.2.2.2.2]
theorem BP.i4 (h : BP μ x ad S) : getI μ 6 4 x = some (nI S.1.1) := by rw [getI_ok h.1.1, h.2.1.1]
theorem BP.i5 (h : BP μ x ad S) : getI μ 6 5 x = some (nI S.1.2.1) := by rw [getI_ok h.1.1, h.2.1.2.1]
theorem BP.i6 (h : BP μ x ad S) : getI μ 6 6 x = some (nI S.1.2.2) := by rw [getI_ok h.1.1, h.2.1.2.2.1]
theorem BP.i7 (h : BP μ x ad S) : getI μ 6 7 x = some (S.2 16 0) := by rw [getI_ok h.1.1, h.2.1.2.2.2.1]
theorem BP.i8 (h : BP μ x ad S) : getI μ 6 8 x = some (S.2 16 1) := by rw [getI_ok h.1.1, h.2.1.2.2.2.2.1]
theorem BP.i9 (h : BP μ x ad S) : getI μ 6 9 x = some (S.2 16 2) := by rw [getI_ok h.1.1, h.2.1.2.2.2.2.2]
theorem BP.n0 (h : BP μ x ad S) : alen μ (ad 0 0) = some (nI 5) := alen_ok h.2.2.1.1.1 h.2.2.1.1.2 (by decide)
theorem BP.n1 (h : BP μ x ad S) : alen μ (ad 0 1) = some (nI 14) := alen_ok h.2.2.1.2.1.1 h.2.2.1.2.1.2 (by decide)
theorem BP.n2 (h : BP μ x ad S) : alen μ (ad 0 2) = some (nI 120) := alen_ok h.2.2.1.2.2.1 h.2.2.1.2.2.2 (by decide)
theorem BP.l0 (h : BP μ x ad S) {i : Nat} (hi : i < 5) : qld μ (ad 0 0) (nI i) = some (if i < S.1.1 then some (ad 2 i) else none) := by
  rw [qld_ok h.2.2.1.1.1 h.2.2.1.1.2 (by decide) (by decide) hi (by decide), h.2.2.2.2.1.1 i hi]
theorem BP.l1 (h : BP μ x ad S) {i : Nat} (hi : i < 14) : qld μ (ad 0 1) (nI i) = some (if i < S.1.2.1 then some (ad 3 i) else none) := by
  rw [qld_ok h.2.2.1.2.1.1 h.2.2.1.2.1.2 (by decide) (by decide) hi (by decide), h.2.2.2.2.1.2.1 i hi]
theorem BP.l2 (h : BP μ x ad S) {i : Nat} (hi : i < 120) : qld μ (ad 0 2) (nI i) = some (if i < S.1.2.2 then some (ad 4 i) else none) := by
  rw [qld_ok h.2.2.1.2.2.1 h.2.2.1.2.2.2 (by decide) (by decide) hi (by decide), h.2.2.2.2.1.2.2 i hi]
theorem BP.chP (h : BP μ x ad S) {i : Nat} (hi : i < S.1.1) : chk μ 5 (ad 2 i) = some () := chk_of (h.2.2.2.2.2.1.1 i hi).1
theorem BP.chB (h : BP μ x ad S) {i : Nat} (hi : i < S.1.2.1) : chk μ 2 (ad 3 i) = some () := chk_of (h.2.2.2.2.2.1.2.1 i hi).1
theorem BP.chN (h : BP μ x ad S) {i : Nat} (hi : i < S.1.2.2) : chk μ 4 (ad 4 i) = some () := chk_of (h.2.2.2.2.2.1.2.2 i hi).1
theorem BP.p0 (h : BP μ x ad S) {i : Nat} (hi : i < S.1.1) : getI μ 5 0 (ad 2 i) = some (S.2 0 i) := by rw [getI_ok (h.2.2.2.2.2.1.1 i hi).1, (h.2.2.2.2.2.1.1 i hi).2.1]
theorem BP.p1 (h : BP μ x ad S) {i : Nat} (hi : i < S.1.1) : getI μ 5 1 (ad 2 i) = some (S.2 1 i) := by rw [getI_ok (h.2.2.2.2.2.1.1 i hi).1, (h.2.2.2.2.2.1.1 i hi).2.2]
theorem BP.b0 (h : BP μ x ad S) {i : Nat} (hi : i < S.1.2.1) : getI μ 2 0 (ad 3 i) = some (S.2 2 i * 4) := by rw [getI_ok (h.2.2.2.2.2.1.2.1 i hi).1, (h.2.2.2.2.2.1.2.1 i hi).2.1]
theorem BP.b1 (h : BP μ x ad S) {i : Nat} (hi : i < S.1.2.1) : getI μ 2 1 (ad 3 i) = some (S.2 3 i) := by rw [getI_ok (h.2.2.2.2.2.1.2.1 i hi).1, (h.2.2.2.2.2.1.2.1 i hi).2.2.1]
theorem BP.b2 (h : BP μ x ad S) {i : Nat} (hi : i < S.1.2.1) : getI μ 2 2 (ad 3 i) = some (S.2 4 i) := by rw [getI_ok (h.2.2.2.2.2.1.2.1 i hi).1, (h.2.2.2.2.2.1.2.1 i hi).2.2.2]
theorem BP.nt (h : BP μ x ad S) {i : Nat} (hi : i < S.1.2.2) {k : Nat} (hk : k < 11) : getI μ 4 k (ad 4 i) = some (S.2 (k + 5) i) := by rw [getI_ok (h.2.2.2.2.2.1.2.2 i hi).1, (h.2.2.2.2.2.1.2.2 i hi).2 k hk]
theorem BP.t0 (h : BP μ x ad S) {i : Nat} (hi : i < S.1.2.2) : getI μ 4 0 (ad 4 i) = some (S.2 5 i) := h.nt hi (by decide)
theorem BP.t1 (h : BP μ x ad S) {i : Nat} (hi : i < S.1.2.2) : getI μ 4 1 (ad 4 i) = some (S.2 6 i) := h.nt hi (by decide)
theorem BP.t2 (h : BP μ x ad S) {i : Nat} (hi : i < S.1.2.2) : getI μ 4 2 (ad 4 i) = some (S.2 7 i) := h.nt hi (by decide)
theorem BP.t3 (h : BP μ x ad S) {i : Nat} (hi : i < S.1.2.2) : getI μ 4 3 (ad 4 i) = some (S.2 8 i) := h.nt hi (by decide)
theorem BP.t4 (h : BP μ x ad S) {i : Nat} (hi : i < S.1.2.2) : getI μ 4 4 (ad 4 i) = some (S.2 9 i) := h.nt hi (by decide)
theorem BP.t5 (h : BP μ x ad S) {i : Nat} (hi : i < S.1.2.2) : getI μ 4 5 (ad 4 i) = some (S.2 10 i) := h.nt hi (by decide)
theorem BP.t6 (h : BP μ x ad S) {i : Nat} (hi : i < S.1.2.2) : getI μ 4 6 (ad 4 i) = some (S.2 11 i) := h.nt hi (by decide)
theorem BP.t7 (h : BP μ x ad S) {i : Nat} (hi : i < S.1.2.2) : getI μ 4 7 (ad 4 i) = some (S.2 12 i) := h.nt hi (by decide)
theorem BP.t8 (h : BP μ x ad S) {i : Nat} (hi : i < S.1.2.2) : getI μ 4 8 (ad 4 i) = some (S.2 13 i) := h.nt hi (by decide)
theorem BP.t9 (h : BP μ x ad S) {i : Nat} (hi : i < S.1.2.2) : getI μ 4 9 (ad 4 i) = some (S.2 14 i) := h.nt hi (by decide)
theorem BP.t10 (h : BP μ x ad S) {i : Nat} (hi : i < S.1.2.2) : getI μ 4 10 (ad 4 i) = some (S.2 15 i) := h.nt hi (by decide)
theorem pson_hit (h : BP μ x ad S) {p : Nat} (hp : p < S.1.1) (h9 : S.1.1 ≤ 5) : f_X4_partOrNull μ x (nI p) = some (some (ad 2 p)) := by
  simp only [f_X4_partOrNull, h.q0, Option.bind_some, h.n0, if_neg (nI_pos (n := p) (by omega)), if_neg (nI_ge (a := p) (b := 5) (by omega) (by decide)), h.l0 (i := p) (by omega), if_pos hp]
theorem pson_miss (h : BP μ x ad S) {v : Int32} (hv : ¬ ∃ p : Nat, p < S.1.1 ∧ v = nI p) : f_X4_partOrNull μ x v = some none := by
  rcases ix3 v (n := 5) (by decide) with ⟨h1, -⟩ | ⟨h1, h2, -⟩ | ⟨j, hj, rfl⟩
  · simp only [f_X4_partOrNull, if_pos h1]
  · simp only [f_X4_partOrNull, h.q0, Option.bind_some, h.n0, if_neg h2, if_pos h1]
  · have h3 : ¬ j < S.1.1 := fun z => hv ⟨j, z, rfl⟩
    simp only [f_X4_partOrNull, h.q0, Option.bind_some, h.n0, if_neg (nI_pos (n := j) (by omega)), if_neg (nI_ge (a := j) (b := 5) hj (by decide)), h.l0 hj, if_neg h3]
theorem bson_hit (h : BP μ x ad S) {p : Nat} (hp : p < S.1.2.1) (h9 : S.1.2.1 ≤ 14) : f_X4_barOrNull μ x (nI p) = some (some (ad 3 p)) := by
  simp only [f_X4_barOrNull, h.q1, Option.bind_some, h.n1, if_neg (nI_pos (n := p) (by omega)), if_neg (nI_ge (a := p) (b := 14) (by omega) (by decide)), h.l1 (i := p) (by omega), if_pos hp]
theorem bson_miss (h : BP μ x ad S) {v : Int32} (hv : ¬ ∃ p : Nat, p < S.1.2.1 ∧ v = nI p) : f_X4_barOrNull μ x v = some none := by
  rcases ix3 v (n := 14) (by decide) with ⟨h1, -⟩ | ⟨h1, h2, -⟩ | ⟨j, hj, rfl⟩
  · simp only [f_X4_barOrNull, if_pos h1]
  · simp only [f_X4_barOrNull, h.q1, Option.bind_some, h.n1, if_neg h2, if_pos h1]
  · have h3 : ¬ j < S.1.2.1 := fun z => hv ⟨j, z, rfl⟩
    simp only [f_X4_barOrNull, h.q1, Option.bind_some, h.n1, if_neg (nI_pos (n := j) (by omega)), if_neg (nI_ge (a := j) (b := 14) hj (by decide)), h.l1 hj, if_neg h3]
theorem nson_hit (h : BP μ x ad S) {p : Nat} (hp : p < S.1.2.2) (h9 : S.1.2.2 ≤ 120) : f_X4_noteOrNull μ x (nI p) = some (some (ad 4 p)) := by
  simp only [f_X4_noteOrNull, h.q2, Option.bind_some, h.n2, if_neg (nI_pos (n := p) (by omega)), if_neg (nI_ge (a := p) (b := 120) (by omega) (by decide)), h.l2 (i := p) (by omega), if_pos hp]
theorem nson_miss (h : BP μ x ad S) {v : Int32} (hv : ¬ ∃ p : Nat, p < S.1.2.2 ∧ v = nI p) : f_X4_noteOrNull μ x v = some none := by
  rcases ix3 v (n := 120) (by decide) with ⟨h1, -⟩ | ⟨h1, h2, -⟩ | ⟨j, hj, rfl⟩
  · simp only [f_X4_noteOrNull, if_pos h1]
  · simp only [f_X4_noteOrNull, h.q2, Option.bind_some, h.n2, if_neg h2, if_pos h1]
  · have h3 : ¬ j < S.1.2.2 := fun z => hv ⟨j, z, rfl⟩
    simp only [f_X4_noteOrNull, h.q2, Option.bind_some, h.n2, if_neg (nI_pos (n := j) (by omega)), if_neg (nI_ge (a := j) (b := 120) hj (by decide)), h.l2 hj, if_neg h3]
theorem MP.ch (h : MP μ y am S) : chk μ 7 y = some () := chk_of h.1
theorem MP.mq (h : MP μ y am S) {k : Nat} (hk : (1 ≤ k ∧ k ≤ 14) ∨ k = 21 ∨ k = 22 ∨ k = 24 ∨ k = 25 ∨ k = 26) : getQ μ 7 k y = some (some (am k)) := by rw [getQ_ok h.1, (h.2.1 k hk).1]
theorem MP.q1 (h : MP μ y am S) : getQ μ 7 1 y = some (some (am 1)) := h.mq (by decide)
theorem MP.q2 (h : MP μ y am S) : getQ μ 7 2 y = some (some (am 2)) := h.mq (by decide)
theorem MP.q3 (h : MP μ y am S) : getQ μ 7 3 y = some (some (am 3)) := h.mq (by decide)
theorem MP.q4 (h : MP μ y am S) : getQ μ 7 4 y = some (some (am 4)) := h.mq (by decide)
theorem MP.q5 (h : MP μ y am S) : getQ μ 7 5 y = some (some (am 5)) := h.mq (by decide)
theorem MP.q6 (h : MP μ y am S) : getQ μ 7 6 y = some (some (am 6)) := h.mq (by decide)
theorem MP.q7 (h : MP μ y am S) : getQ μ 7 7 y = some (some (am 7)) := h.mq (by decide)
theorem MP.q8 (h : MP μ y am S) : getQ μ 7 8 y = some (some (am 8)) := h.mq (by decide)
theorem MP.q9 (h : MP μ y am S) : getQ μ 7 9 y = some (some (am 9)) := h.mq (by decide)
theorem MP.q10 (h : MP μ y am S) : getQ μ 7 10 y = some (some (am 10)) := h.mq (by decide)
theorem MP.q11 (h : MP μ y am S) : getQ μ 7 11 y = some (some (am 11)) := h.mq (by decide)
theorem MP.q12 (h : MP μ y am S) : getQ μ 7 12 y = some (some (am 12)) := h.mq (by decide)
theorem MP.q13 (h : MP μ y am S) : getQ μ 7 13 y = some (some (am 13)) := h.mq (by decide)
theorem MP.q14 (h : MP μ y am S) : getQ μ 7 14 y = some (some (am 14)) := h.mq (by decide)
theorem MP.q21 (h : MP μ y am S) : getQ μ 7 21 y = some (some (am 21)) := h.mq (by decide)
theorem MP.q22 (h : MP μ y am S) : getQ μ 7 22 y = some (some (am 22)) := h.mq (by decide)
theorem MP.q24 (h : MP μ y am S) : getQ μ 7 24 y = some (some (am 24)) := h.mq (by decide)
theorem MP.q25 (h : MP μ y am S) : getQ μ 7 25 y = some (some (am 25)) := h.mq (by decide)
theorem MP.q26 (h : MP μ y am S) : getQ μ 7 26 y = some (some (am 26)) := h.mq (by decide)
theorem MP.i15 (h : MP μ y am S) : getI μ 7 15 y = some (nI S.1.1) := by rw [getI_ok h.1, h.2.2.1.1]
theorem MP.i16 (h : MP μ y am S) : getI μ 7 16 y = some (nI S.1.2.1) := by rw [getI_ok h.1, h.2.2.1.2.1]
theorem MP.i17 (h : MP μ y am S) : getI μ 7 17 y = some (nI S.1.2.2) := by rw [getI_ok h.1, h.2.2.1.2.2.1]
theorem MP.i18 (h : MP μ y am S) : getI μ 7 18 y = some (S.2 16 0) := by rw [getI_ok h.1, h.2.2.1.2.2.2.1]
theorem MP.i19 (h : MP μ y am S) : getI μ 7 19 y = some (S.2 16 1) := by rw [getI_ok h.1, h.2.2.1.2.2.2.2.1]
theorem MP.i20 (h : MP μ y am S) : getI μ 7 20 y = some (S.2 16 2) := by rw [getI_ok h.1, h.2.2.1.2.2.2.2.2]
theorem MP.ok (h : MP μ y am S) {k : Nat} (hk : (1 ≤ k ∧ k ≤ 14) ∨ k = 21 ∨ k = 22 ∨ k = 24 ∨ k = 25 ∨ k = 26) : ok9 μ (mkind k) (am k) ∧ mN μ (am k) = mlen k := (h.2.1 k hk).2
theorem MP.a1 (h : MP μ y am S) {p : Nat} (hp : p < S.1.1) (h9 : S.1.1 ≤ 5) : ald μ (am 1) (nI p) = some (S.2 0 p) := by
  rw [ald_ok (h.ok (k := 1) (by decide)).1 (h.ok (k := 1) (by decide)).2 (by decide) (by decide) (i := p) (show p < 5 by omega) (by decide)]
  exact congrArg some (h.2.2.2.1 p hp).1
theorem MP.a14 (h : MP μ y am S) {p : Nat} (hp : p < S.1.1) (h9 : S.1.1 ≤ 5) : zld μ (am 14) (nI p) = some (S.2 1 p) := by
  rw [zld_ok (h.ok (k := 14) (by decide)).1 (h.ok (k := 14) (by decide)).2 (by decide) (by decide) (i := p) (show p < 5 by omega) (by decide)]
  exact congrArg some (h.2.2.2.1 p hp).2
theorem MP.a2 (h : MP μ y am S) {b : Nat} (hp : b < S.1.2.1) (h9 : S.1.2.1 ≤ 14) : ald μ (am 2) (nI b) = some (S.2 2 b) := by
  rw [ald_ok (h.ok (k := 2) (by decide)).1 (h.ok (k := 2) (by decide)).2 (by decide) (by decide) (i := b) (show b < 14 by omega) (by decide)]
  exact congrArg some (h.2.2.2.2.2.1 b hp).1
theorem MP.a3 (h : MP μ y am S) {b : Nat} (hp : b < S.1.2.1) (h9 : S.1.2.1 ≤ 14) : ald μ (am 3) (nI b) = some (S.2 3 b) := by
  rw [ald_ok (h.ok (k := 3) (by decide)).1 (h.ok (k := 3) (by decide)).2 (by decide) (by decide) (i := b) (show b < 14 by omega) (by decide)]
  exact congrArg some (h.2.2.2.2.2.1 b hp).2.1
theorem MP.a12 (h : MP μ y am S) {b : Nat} (hp : b < S.1.2.1) (h9 : S.1.2.1 ≤ 14) : zld μ (am 12) (nI b) = some (S.2 4 b) := by
  rw [zld_ok (h.ok (k := 12) (by decide)).1 (h.ok (k := 12) (by decide)).2 (by decide) (by decide) (i := b) (show b < 14 by omega) (by decide)]
  exact congrArg some (h.2.2.2.2.2.1 b hp).2.2
theorem MP.a4 (h : MP μ y am S) {i : Nat} (hp : i < S.1.2.2) (h9 : S.1.2.2 ≤ 120) : ald μ (am 4) (nI i) = some (S.2 5 i) := by
  rw [ald_ok (h.ok (k := 4) (by decide)).1 (h.ok (k := 4) (by decide)).2 (by decide) (by decide) (i := i) (show i < 120 by omega) (by decide)]
  exact congrArg some ((h.2.2.2.2.2.2.1 i hp).1 0 (by decide))
theorem MP.a5 (h : MP μ y am S) {i : Nat} (hp : i < S.1.2.2) (h9 : S.1.2.2 ≤ 120) : ald μ (am 5) (nI i) = some (S.2 6 i) := by
  rw [ald_ok (h.ok (k := 5) (by decide)).1 (h.ok (k := 5) (by decide)).2 (by decide) (by decide) (i := i) (show i < 120 by omega) (by decide)]
  exact congrArg some ((h.2.2.2.2.2.2.1 i hp).1 1 (by decide))
theorem MP.a6 (h : MP μ y am S) {i : Nat} (hp : i < S.1.2.2) (h9 : S.1.2.2 ≤ 120) : ald μ (am 6) (nI i) = some (S.2 7 i) := by
  rw [ald_ok (h.ok (k := 6) (by decide)).1 (h.ok (k := 6) (by decide)).2 (by decide) (by decide) (i := i) (show i < 120 by omega) (by decide)]
  exact congrArg some ((h.2.2.2.2.2.2.1 i hp).1 2 (by decide))
theorem MP.a7 (h : MP μ y am S) {i : Nat} (hp : i < S.1.2.2) (h9 : S.1.2.2 ≤ 120) : ald μ (am 7) (nI i) = some (S.2 8 i) := by
  rw [ald_ok (h.ok (k := 7) (by decide)).1 (h.ok (k := 7) (by decide)).2 (by decide) (by decide) (i := i) (show i < 120 by omega) (by decide)]
  exact congrArg some ((h.2.2.2.2.2.2.1 i hp).1 3 (by decide))
theorem MP.a8 (h : MP μ y am S) {i : Nat} (hp : i < S.1.2.2) (h9 : S.1.2.2 ≤ 120) : ald μ (am 8) (nI i) = some (S.2 9 i) := by
  rw [ald_ok (h.ok (k := 8) (by decide)).1 (h.ok (k := 8) (by decide)).2 (by decide) (by decide) (i := i) (show i < 120 by omega) (by decide)]
  exact congrArg some ((h.2.2.2.2.2.2.1 i hp).1 4 (by decide))
theorem MP.a9 (h : MP μ y am S) {i : Nat} (hp : i < S.1.2.2) (h9 : S.1.2.2 ≤ 120) : ald μ (am 9) (nI i) = some (S.2 10 i) := by
  rw [ald_ok (h.ok (k := 9) (by decide)).1 (h.ok (k := 9) (by decide)).2 (by decide) (by decide) (i := i) (show i < 120 by omega) (by decide)]
  exact congrArg some ((h.2.2.2.2.2.2.1 i hp).1 5 (by decide))
theorem MP.a10 (h : MP μ y am S) {i : Nat} (hp : i < S.1.2.2) (h9 : S.1.2.2 ≤ 120) : ald μ (am 10) (nI i) = some (if S.2 12 i = 0 then 0 else S.2 13 i) := by
  rw [ald_ok (h.ok (k := 10) (by decide)).1 (h.ok (k := 10) (by decide)).2 (by decide) (by decide) (i := i) (show i < 120 by omega) (by decide)]
  exact congrArg some (h.2.2.2.2.2.2.1 i hp).2.1
theorem MP.a11 (h : MP μ y am S) {i : Nat} (hp : i < S.1.2.2) (h9 : S.1.2.2 ≤ 120) : ald μ (am 11) (nI i) = some (S.2 14 i) := by
  rw [ald_ok (h.ok (k := 11) (by decide)).1 (h.ok (k := 11) (by decide)).2 (by decide) (by decide) (i := i) (show i < 120 by omega) (by decide)]
  exact congrArg some (h.2.2.2.2.2.2.1 i hp).2.2.1
theorem MP.a13 (h : MP μ y am S) {i : Nat} (hp : i < S.1.2.2) (h9 : S.1.2.2 ≤ 120) : zld μ (am 13) (nI i) = some (if S.2 11 i = 0 then 1 else 0) := by
  rw [zld_ok (h.ok (k := 13) (by decide)).1 (h.ok (k := 13) (by decide)).2 (by decide) (by decide) (i := i) (show i < 120 by omega) (by decide)]
  exact congrArg some (h.2.2.2.2.2.2.1 i hp).2.2.2
end P31
/-! LOOPS -/
theorem lp_cnt {α : Type} {F : Nat → Int32 → Int32 → Option α} {k : Int32 → Int32 → Option α} {q : Nat → Bool} {N : Nat}
    (step : ∀ n i c, i < N → F (n + 1) c (nI i) = F n (if q i = true then c + 1 else c) (nI i + 1)) (fin : ∀ n c, F (n + 1) c (nI N) = k c (nI N)) {m : Nat} (hm : N < m) : F m 0 0 = k (nI (cnt q N)) (nI N) := by
  have h : ∀ d i m, i + d = N → d < m → F m (nI (cnt q i)) (nI i) = k (nI (cnt q N)) (nI N) := by
    intro d
    induction d with
    | zero =>
      intro i m hi hm
      obtain rfl : i = N := by omega
      obtain ⟨n, rfl⟩ : ∃ n, m = n + 1 := ⟨m - 1, by omega⟩
      exact fin n _
    | succ d ih =>
      intro i m hi hm
      obtain ⟨n, rfl⟩ : ∃ n, m = n + 1 := ⟨m - 1, by omega⟩
      rw [step n i _ (by omega), ← nI_succ i]
      have h1 := ih (i + 1) n (by omega) (by omega)
      rw [show nI (cnt q (i + 1)) = if q i = true then nI (cnt q i) + 1 else nI (cnt q i) from ?_] at h1
      · exact h1
      · show nI (cnt q i + (if q i = true then 1 else 0)) = _
        by_cases hq : q i = true
        · rw [if_pos hq, if_pos hq, nI_succ]
        · rw [if_neg hq, if_neg hq, Nat.add_zero]
  exact h N 0 m (by omega) hm
def anyN (q : Nat → Bool) : Nat → Bool
  | 0 => false
  | n + 1 => anyN q n || q n
theorem anyN_iff {q : Nat → Bool} {N : Nat} : anyN q N = true ↔ ∃ i, i < N ∧ q i = true := by
  induction N with
  | zero => exact ⟨fun h => (nomatch h), fun ⟨_, h, _⟩ => (nomatch h)⟩
  | succ n ih =>
    show (anyN q n || q n) = true ↔ _
    rw [Bool.or_eq_true, ih]
    constructor
    · rintro (⟨i, h1, h2⟩ | h)
      · exact ⟨i, by omega, h2⟩
      · exact ⟨n, by omega, h⟩
    · rintro ⟨i, h1, h2⟩
      by_cases e : i = n
      · exact Or.inr (e ▸ h2)
      · exact Or.inl ⟨i, by omega, h2⟩
theorem lp_any {α : Type} {F : Nat → Int32 → Option α} {r z : Option α} {q : Nat → Bool} {N : Nat}
    (step : ∀ n i, i < N → F (n + 1) (nI i) = if q i = true then r else F n (nI i + 1)) (fin : ∀ n, F (n + 1) (nI N) = z) {m : Nat} (hm : N < m) : F m 0 = if ∃ i, i < N ∧ q i = true then r else z := by
  have h : ∀ d i m, i + d = N → d < m → (∀ j, j < i → ¬ q j = true) → F m (nI i) = if ∃ i, i < N ∧ q i = true then r else z := by
    intro d
    induction d with
    | zero =>
      intro i m hi hm hno
      obtain rfl : i = N := by omega
      obtain ⟨n, rfl⟩ : ∃ n, m = n + 1 := ⟨m - 1, by omega⟩
      rw [fin n, if_neg (fun ⟨j, h1, h2⟩ => hno j h1 h2)]
    | succ d ih =>
      intro i m hi hm hno
      obtain ⟨n, rfl⟩ : ∃ n, m = n + 1 := ⟨m - 1, by omega⟩
      rw [step n i (by omega)]
      by_cases hq : q i = true
      · rw [if_pos hq, if_pos ⟨i, by omega, hq⟩]
      · rw [if_neg hq, ← nI_succ]
        refine ih (i + 1) n (by omega) (by omega) (fun j hj => ?_)
        by_cases e : j = i
        · exact e ▸ hq
        · exact hno j (by omega)
  exact h N 0 m (by omega) hm (fun j hj => (nomatch hj))
/-- the first below N -/
def fst9 (q : Nat → Bool) (N : Nat) : Nat → Option Nat
  | 0 => none
  | d + 1 => if q (N - (d + 1)) = true then some (N - (d + 1)) else fst9 q N d
theorem lp_fst {α : Type} {F : Nat → Int32 → Option α} {r : Nat → Option α} {z : Option α} {q : Nat → Bool} {N : Nat}
    (step : ∀ n i, i < N → F (n + 1) (nI i) = if q i = true then r i else F n (nI i + 1)) (fin : ∀ n, F (n + 1) (nI N) = z) {m : Nat} (hm : N < m) : F m 0 = match fst9 q N N with | some i => r i | none => z := by
  have h : ∀ d i m, i + d = N → d < m → F m (nI i) = match fst9 q N d with | some i => r i | none => z := by
    intro d
    induction d with
    | zero =>
      intro i m hi hm
      obtain rfl : i = N := by omega
      obtain ⟨n, rfl⟩ : ∃ n, m = n + 1 := ⟨m - 1, by omega⟩
      exact fin n
    | succ d ih =>
      intro i m hi hm
      obtain ⟨n, rfl⟩ : ∃ n, m = n + 1 := ⟨m - 1, by omega⟩
      obtain rfl : i = N - (d + 1) := by omega
      rw [step n _ (by omega)]
      unfold fst9
      by_cases hq : q (N - (d + 1)) = true
      · rw [if_pos hq, if_pos hq]
      · rw [if_neg hq, if_neg hq, ← nI_succ]
        exact ih _ n (by omega) (by omega)
  exact h N 0 m (by omega) hm
def fold9 {β : Type} (g : Nat → β → β) (b : β) : Nat → β
  | 0 => b
  | n + 1 => g n (fold9 g b n)
theorem lp_fold {α β : Type} {F : Nat → β → Int32 → Option α} {k : β → Option α} {g : Nat → β → β} {N : Nat} {b : β}
    (step : ∀ n i c, i < N → F (n + 1) c (nI i) = F n (g i c) (nI i + 1)) (fin : ∀ n c, F (n + 1) c (nI N) = k c) {m : Nat} (hm : N < m) : F m b 0 = k (fold9 g b N) := by
  have h : ∀ d i m, i + d = N → d < m → F m (fold9 g b i) (nI i) = k (fold9 g b N) := by
    intro d
    induction d with
    | zero =>
      intro i m hi hm
      obtain rfl : i = N := by omega
      obtain ⟨n, rfl⟩ : ∃ n, m = n + 1 := ⟨m - 1, by omega⟩
      exact fin n _
    | succ d ih =>
      intro i m hi hm
      obtain ⟨n, rfl⟩ : ∃ n, m = n + 1 := ⟨m - 1, by omega⟩
      rw [step n i _ (by omega), ← nI_succ i]
      exact ih (i + 1) n (by omega) (by omega)
  exact h N 0 m (by omega) hm
theorem fold9_beyond {β : Type} {g : Nat → β → β} {b : β} {n m : Nat} (h : ∀ i c, n ≤ i → i < m → g i c = c) (hnm : n ≤ m) : fold9 g b m = fold9 g b n := by
  induction m with
  | zero => rw [Nat.le_zero.mp hnm]
  | succ m ih =>
    by_cases e : n = m + 1
    · rw [e]
    · show g m (fold9 g b m) = _
      rw [h m _ (by omega) (by omega)]
      exact ih (fun i c a b => h i c a (by omega)) (by omega)
theorem fold9_congr {β : Type} {g k : Nat → β → β} {b : β} {n : Nat} (h : ∀ i c, i < n → g i c = k i c) : fold9 g b n = fold9 k b n := by
  induction n with
  | zero => rfl
  | succ n ih =>
    show g n (fold9 g b n) = k n (fold9 k b n)
    rw [ih (fun i c hi => h i c (by omega)), h n _ (by omega)]
