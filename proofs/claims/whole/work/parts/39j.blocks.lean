/-! BLOCKS OF A PART: count, first bars, bars of long rests (0: a bar with notes) -/
def bls (em mk : Nat → Bool) : Nat → Nat × (Nat → Nat) × (Nat → Nat)
  | 0 => (0, fun _ => 0, fun _ => 0)
  | b + 1 => if em b = true ∧ mk b = false ∧ 0 < (bls em mk b).1 ∧ 0 < (bls em mk b).2.2 ((bls em mk b).1 - 1) then ((bls em mk b).1, (bls em mk b).2.1, fun k => if k = (bls em mk b).1 - 1 then (bls em mk b).2.2 k + 1 else (bls em mk b).2.2 k)
    else ((bls em mk b).1 + 1, (fun k => if k = (bls em mk b).1 then b else (bls em mk b).2.1 k), fun k => if k = (bls em mk b).1 then (if em b = true then 1 else 0) else (bls em mk b).2.2 k)
/-- bars of a block -/
def bn9 (r : Nat) : Nat := if r = 0 then 1 else r
theorem bn9_pos (r : Nat) : 1 ≤ bn9 r := by unfold bn9; split <;> omega
theorem bls_ext {em mk : Nat → Bool} {b : Nat} (h : em b = true ∧ mk b = false ∧ 0 < (bls em mk b).1 ∧ 0 < (bls em mk b).2.2 ((bls em mk b).1 - 1)) : bls em mk (b + 1) = ((bls em mk b).1, (bls em mk b).2.1, fun k => if k = (bls em mk b).1 - 1 then (bls em mk b).2.2 k + 1 else (bls em mk b).2.2 k) := if_pos h
theorem bls_new {em mk : Nat → Bool} {b : Nat} (h : ¬ (em b = true ∧ mk b = false ∧ 0 < (bls em mk b).1 ∧ 0 < (bls em mk b).2.2 ((bls em mk b).1 - 1))) : bls em mk (b + 1) = ((bls em mk b).1 + 1, (fun k => if k = (bls em mk b).1 then b else (bls em mk b).2.1 k), fun k => if k = (bls em mk b).1 then (if em b = true then 1 else 0) else (bls em mk b).2.2 k) := if_neg h
theorem bls_ok (em mk : Nat → Bool) (b : Nat) : (bls em mk b).1 ≤ b ∧ (0 < b → 0 < (bls em mk b).1) ∧ (∀ k, k < (bls em mk b).1 → (bls em mk b).2.1 k + bn9 ((bls em mk b).2.2 k) ≤ b) ∧ (0 < (bls em mk b).1 → (bls em mk b).2.1 ((bls em mk b).1 - 1) + bn9 ((bls em mk b).2.2 ((bls em mk b).1 - 1)) = b) ∧ (∀ k, k < (bls em mk b).1 → (bls em mk b).2.2 k = 0 → em ((bls em mk b).2.1 k) = false) ∧ (∀ k, k < (bls em mk b).1 → (bls em mk b).2.2 k ≠ 0 → em ((bls em mk b).2.1 k) = true) := by
  induction b with
  | zero => exact ⟨Nat.le_refl 0, fun h => absurd h (Nat.lt_irrefl 0), fun k h => absurd h (Nat.not_lt_zero k), fun h => absurd h (Nat.lt_irrefl 0), fun k h => absurd h (Nat.not_lt_zero k), fun k h => absurd h (Nat.not_lt_zero k)⟩
  | succ b ih =>
    obtain ⟨i1, i2, i3, i4, i5, i6⟩ := ih
    by_cases h : em b = true ∧ mk b = false ∧ 0 < (bls em mk b).1 ∧ 0 < (bls em mk b).2.2 ((bls em mk b).1 - 1)
    · rw [bls_ext h]
      have e := i4 h.2.2.1
      have h4 := h.2.2.2
      generalize bls em mk b = s at i1 i2 i3 i4 i5 i6 h e h4
      obtain ⟨n, f, r⟩ := s
      simp only at i1 i2 i3 i4 i5 i6 h e h4 ⊢
      refine ⟨by omega, fun _ => h.2.2.1, fun k hk => ?_, fun _ => ?_, fun k hk z => ?_, fun k hk z => ?_⟩
      · by_cases ek : k = n - 1
        · subst ek
          rw [if_pos rfl]
          unfold bn9 at e ⊢
          rw [if_neg (by omega)] at e
          rw [if_neg (by omega)]
          omega
        · rw [if_neg ek]
          have := i3 k hk
          omega
      · rw [if_pos trivial]
        unfold bn9 at e ⊢
        rw [if_neg (by omega)] at e
        rw [if_neg (by omega)]
        omega
      · by_cases ek : k = n - 1
        · rw [if_pos ek] at z
          omega
        · rw [if_neg ek] at z
          exact i5 k hk z
      · by_cases ek : k = n - 1
        · exact i6 k hk (by rw [ek]; omega)
        · rw [if_neg ek] at z
          exact i6 k hk z
    · rw [bls_new h]
      clear h
      generalize bls em mk b = s at i1 i2 i3 i4 i5 i6
      obtain ⟨n, f, r⟩ := s
      simp only at i1 i2 i3 i4 i5 i6 ⊢
      have e1 : bn9 (if em b = true then 1 else 0) = 1 := by
        by_cases z : em b = true
        · rw [if_pos z]; rfl
        · rw [if_neg z]; rfl
      refine ⟨by omega, fun _ => by omega, fun k hk => ?_, fun _ => ?_, fun k hk z => ?_, fun k hk z => ?_⟩
      · by_cases ek : k = n
        · rw [if_pos ek, if_pos ek, e1]
          exact Nat.le_refl _
        · rw [if_neg ek, if_neg ek]
          have := i3 k (by omega)
          omega
      · rw [Nat.add_sub_cancel, if_pos rfl, if_pos rfl, e1]
      · by_cases ek : k = n
        · rw [if_pos ek] at z ⊢
          cases he : em b with
          | false => rfl
          | true => rw [if_pos he] at z; omega
        · rw [if_neg ek] at z ⊢
          exact i5 k (by omega) z
      · by_cases ek : k = n
        · rw [if_pos ek] at z ⊢
          cases he : em b with
          | true => rfl
          | false => rw [if_neg (by rw [he]; decide)] at z; omega
        · rw [if_neg ek] at z ⊢
          exact i6 k (by omega) z
/-! what the class writes of a block of first bar f and r bars of rest -/
def em9 (S : SS) (p b : Nat) : Bool := decide (cnt (qAt S (nI p) (nI b)) S.1.2.2 = 0)
def mk9 (S : SS) (b : Nat) : Bool := decide (S.2 4 b ≠ 0)
def B9 (S : SS) (p b : Nat) : Nat × (Nat → Nat) × (Nat → Nat) := bls (em9 S p) (mk9 S) b
/-- ticks of n bars from a on -/
def tk9 (S : SS) (a : Nat) : Nat → Int32
  | 0 => 0
  | n + 1 => tk9 S a n + S.2 2 (a + n) * 4
def gMin (S : SS) (p f : Nat) (i : Nat) (c : Int32) : Int32 := if qAt S (nI p) (nI f) i = true then (if S.2 8 i < c then S.2 8 i else c) else c
def gMax (S : SS) (p f : Nat) (i : Nat) (c : Int32) : Int32 := if qAt S (nI p) (nI f) i = true then (if c < S.2 8 i + S.2 9 i then S.2 8 i + S.2 9 i else c) else c
def pl0 (S : SS) (p f r : Nat) : Nat := if r = 0 then cnt (qAt S (nI p) (nI f)) S.1.2.2 else 1
def qs0 (S : SS) (p f r : Nat) : Int32 := if r = 0 then fold9 (gMin S p f) (S.2 2 f * 4) S.1.2.2 else tk9 S f r
def qe0 (S : SS) (p f r : Nat) : Int32 := if r = 0 then S.2 2 f * 4 - fold9 (gMax S p f) 0 S.1.2.2 else tk9 S f r
section P39j
variable {μ μ' ν : Mem} {x y : Nat} {ad : Nat → Nat → Nat} {am : Nat → Nat} {S : SS}
theorem mR_sR {k a i k' a' i' : Nat} {v : Int32} : mR (sR μ k a i v) k' a' i' = if k' = k ∧ a' = a ∧ i' = i then v else mR μ k' a' i' := byR rfl
/-! the Blocks object's cells -/
theorem BP.bk (h : BP μ x ad S) : BK μ (ad 0 3) (ad 1) := h.2.2.2.1
theorem BP.kc (h : BP μ x ad S) : chk μ 3 (ad 0 3) = some () := chk_of h.bk.1
theorem BP.kq (h : BP μ x ad S) {k : Nat} (hk : k < 9) : getQ μ 3 k (ad 0 3) = some (some (ad 1 k)) := by rw [getQ_ok h.bk.1, (h.bk.2 k hk).1]
theorem BP.kq0 (h : BP μ x ad S) : getQ μ 3 0 (ad 0 3) = some (some (ad 1 0)) := h.kq (by decide)
theorem BP.kq1 (h : BP μ x ad S) : getQ μ 3 1 (ad 0 3) = some (some (ad 1 1)) := h.kq (by decide)
theorem BP.kq2 (h : BP μ x ad S) : getQ μ 3 2 (ad 0 3) = some (some (ad 1 2)) := h.kq (by decide)
theorem BP.kq3 (h : BP μ x ad S) : getQ μ 3 3 (ad 0 3) = some (some (ad 1 3)) := h.kq (by decide)
theorem BP.kq4 (h : BP μ x ad S) : getQ μ 3 4 (ad 0 3) = some (some (ad 1 4)) := h.kq (by decide)
theorem BP.kq5 (h : BP μ x ad S) : getQ μ 3 5 (ad 0 3) = some (some (ad 1 5)) := h.kq (by decide)
theorem BP.kq6 (h : BP μ x ad S) : getQ μ 3 6 (ad 0 3) = some (some (ad 1 6)) := h.kq (by decide)
theorem BP.kq7 (h : BP μ x ad S) : getQ μ 3 7 (ad 0 3) = some (some (ad 1 7)) := h.kq (by decide)
theorem BP.kq8 (h : BP μ x ad S) : getQ μ 3 8 (ad 0 3) = some (some (ad 1 8)) := h.kq (by decide)
theorem BP.ki (h : BP μ x ad S) {k : Nat} : getI μ 3 k (ad 0 3) = some (mI μ 3 k (ad 0 3)) := getI_ok h.bk.1
theorem BP.kp (h : BP μ x ad S) {k : Nat} {v : Int32} : putI μ 3 k (ad 0 3) v = some (sI μ 3 k (ad 0 3) v) := putI_ok h.bk.1
theorem BP.ka (h : BP μ x ad S) {k i : Nat} (hk : k < 9) (h5 : k ≠ 5) (hi : i < 15) : ald μ (ad 1 k) (nI i) = some (mR μ (10 + k) (ad 1 k) i) := by
  refine ald_ok (h.bk.2 k hk).2.1 (h.bk.2 k hk).2.2 (by omega) ?_ hi (by decide)
  have : k = 0 ∨ k = 1 ∨ k = 2 ∨ k = 3 ∨ k = 4 ∨ k = 6 ∨ k = 7 ∨ k = 8 := by omega
  rcases this with rfl | rfl | rfl | rfl | rfl | rfl | rfl | rfl <;> rfl
theorem BP.kz (h : BP μ x ad S) {i : Nat} (hi : i < 15) : zld μ (ad 1 5) (nI i) = some (mR μ 15 (ad 1 5) i) := zld_ok (h.bk.2 5 (by decide)).2.1 (h.bk.2 5 (by decide)).2.2 (by decide) (by decide) hi (by decide)
theorem BP.kw (h : BP μ x ad S) {k i : Nat} {v : Int32} (hk : k < 9) (h5 : k ≠ 5) (hi : i < 15) : ast μ (ad 1 k) (nI i) v = some (sR μ (10 + k) (ad 1 k) i v) := by
  refine ast_ok (h.bk.2 k hk).2.1 (h.bk.2 k hk).2.2 (by omega) ?_ hi (by decide)
  have : k = 0 ∨ k = 1 ∨ k = 2 ∨ k = 3 ∨ k = 4 ∨ k = 6 ∨ k = 7 ∨ k = 8 := by omega
  rcases this with rfl | rfl | rfl | rfl | rfl | rfl | rfl | rfl <;> rfl
theorem BP.kwz (h : BP μ x ad S) {i : Nat} {v : Int32} (hi : i < 15) (hv : v = 0 ∨ v = 1) : zst μ (ad 1 5) (nI i) v = some (sR μ 15 (ad 1 5) i v) := zst_ok (h.bk.2 5 (by decide)).2.1 (h.bk.2 5 (by decide)).2.2 (by decide) (by decide) hi (by decide) hv
theorem BP.sRB (h : BP μ x ad S) {k a i : Nat} {v : Int32} : BP (sR μ k a i v) x ad S := h
theorem BP.sIB (h : BP μ x ad S) {k a : Nat} {v : Int32} : BP (sI μ 3 k a v) x ad S := by
  obtain ⟨h1, ⟨i4, i5, i6, i7, i8, i9⟩, h3, h4, h5, ⟨p, br, nt⟩, hj⟩ := h
  have hz : ∀ c k' a', c ≠ 3 → mI (sI μ 3 k a v) c k' a' = mI μ c k' a' := fun c k' a' z => mI_sI_c z
  refine ⟨h1, ⟨(hz 6 4 x (by decide)).trans i4, (hz 6 5 x (by decide)).trans i5, (hz 6 6 x (by decide)).trans i6, (hz 6 7 x (by decide)).trans i7, (hz 6 8 x (by decide)).trans i8, (hz 6 9 x (by decide)).trans i9⟩, h3, h4, h5, ⟨fun i hi => ?_, fun i hi => ?_, fun i hi => ?_⟩, hj⟩
  · obtain ⟨o, e0, e1⟩ := p i hi
    exact ⟨o, (hz 5 0 _ (by decide)).trans e0, (hz 5 1 _ (by decide)).trans e1⟩
  · obtain ⟨o, e0, e1, e2⟩ := br i hi
    exact ⟨o, (hz 2 0 _ (by decide)).trans e0, (hz 2 1 _ (by decide)).trans e1, (hz 2 2 _ (by decide)).trans e2⟩
  · obtain ⟨o, e0⟩ := nt i hi
    exact ⟨o, fun k' hk => (hz 4 k' _ (by decide)).trans (e0 k' hk)⟩
theorem BP.fkI (h : BP μ x ad S) {k : Nat} {v : Int32} : FR 0 μ (sI μ 3 k (ad 0 3) v) := FR.sI (by rw [h.bk.1.2]; rfl)
theorem BP.fkR (h : BP μ x ad S) {k i : Nat} {v : Int32} (hk : k < 9) : FR 0 μ (sR μ (10 + k) (ad 1 k) i v) := FR.sR (by rw [(h.bk.2 k hk).2.1.2]; exact gk_c (by omega) (by omega))
/-- add -/
def aB9 (μ : Mem) (bl : Nat) (bk : Nat → Nat) (c : Nat) (b pc ta tb r : Int32) : Mem := sI (sR (sR (sR (sR (sR (sR μ 10 (bk 0) c b) 11 (bk 1) c 1) 12 (bk 2) c pc) 13 (bk 3) c ta) 14 (bk 4) c tb) 15 (bk 5) c r) 3 9 bl (nI c + 1)
theorem aB9_I (μ : Mem) (bl : Nat) (bk : Nat → Nat) (c : Nat) (b pc ta tb r : Int32) (k : Nat) : mI (aB9 μ bl bk c b pc ta tb r) 3 k bl = if k = 9 then nI (c + 1) else mI μ 3 k bl := by
  unfold aB9
  by_cases h : k = 9
  · subst h
    rw [mI_sI_h, if_pos rfl, nI_1]
  · rw [mI_sI_k h, if_neg h]
    rfl
theorem aB9_R (μ : Mem) (bl : Nat) (bk : Nat → Nat) (c : Nat) (b pc ta tb r : Int32) (j : Nat) : mR (aB9 μ bl bk c b pc ta tb r) 10 (bk 0) j = (if j = c then b else mR μ 10 (bk 0) j) ∧ mR (aB9 μ bl bk c b pc ta tb r) 11 (bk 1) j = (if j = c then 1 else mR μ 11 (bk 1) j) ∧ mR (aB9 μ bl bk c b pc ta tb r) 12 (bk 2) j = (if j = c then pc else mR μ 12 (bk 2) j) ∧ mR (aB9 μ bl bk c b pc ta tb r) 13 (bk 3) j = (if j = c then ta else mR μ 13 (bk 3) j) ∧ mR (aB9 μ bl bk c b pc ta tb r) 14 (bk 4) j = (if j = c then tb else mR μ 14 (bk 4) j) ∧ mR (aB9 μ bl bk c b pc ta tb r) 15 (bk 5) j = (if j = c then r else mR μ 15 (bk 5) j) := by
  have hs : ∀ (m : Mem) (a : Nat) (v : Int32) (k' a' i' : Nat), mR (sI m 3 9 a v) k' a' i' = mR m k' a' i' := fun _ _ _ _ _ _ => rfl
  unfold aB9
  simp only [hs]
  simp [mR_sR]
theorem BP.aB (h : BP μ x ad S) {c : Nat} {b pc ta tb r : Int32} : BP (aB9 μ (ad 0 3) (ad 1) c b pc ta tb r) x ad S := by
  unfold aB9
  exact BP.sIB (h.sRB.sRB.sRB.sRB.sRB.sRB)
theorem BP.faB (h : BP μ x ad S) {c : Nat} {b pc ta tb r : Int32} : FR 0 μ (aB9 μ (ad 0 3) (ad 1) c b pc ta tb r) := by
  unfold aB9
  have f0 := h.fkR (k := 0) (i := c) (v := b) (by decide)
  have f1 := (h.sRB (k := 10) (a := ad 1 0) (i := c) (v := b)).fkR (k := 1) (i := c) (v := 1) (by decide)
  have h2 : BP (sR (sR μ 10 (ad 1 0) c b) 11 (ad 1 1) c 1) x ad S := h
  have f2 := h2.fkR (k := 2) (i := c) (v := pc) (by decide)
  have h3 : BP (sR (sR (sR μ 10 (ad 1 0) c b) 11 (ad 1 1) c 1) 12 (ad 1 2) c pc) x ad S := h
  have f3 := h3.fkR (k := 3) (i := c) (v := ta) (by decide)
  have h4 : BP (sR (sR (sR (sR μ 10 (ad 1 0) c b) 11 (ad 1 1) c 1) 12 (ad 1 2) c pc) 13 (ad 1 3) c ta) x ad S := h
  have f4 := h4.fkR (k := 4) (i := c) (v := tb) (by decide)
  have h5 : BP (sR (sR (sR (sR (sR μ 10 (ad 1 0) c b) 11 (ad 1 1) c 1) 12 (ad 1 2) c pc) 13 (ad 1 3) c ta) 14 (ad 1 4) c tb) x ad S := h
  have f5 := h5.fkR (k := 5) (i := c) (v := r) (by decide)
  have h6 : BP (sR (sR (sR (sR (sR (sR μ 10 (ad 1 0) c b) 11 (ad 1 1) c 1) 12 (ad 1 2) c pc) 13 (ad 1 3) c ta) 14 (ad 1 4) c tb) 15 (ad 1 5) c r) x ad S := h
  exact f0.trans (f1.trans (f2.trans (f3.trans (f4.trans (f5.trans h6.fkI)))))
theorem c_add (h : BP μ x ad S) {c : Nat} (hc : c < 14) (e9 : mI μ 3 9 (ad 0 3) = nI c) (b pc ta tb : Int32) {r : Int32} (hr : r = 0 ∨ r = 1) : f_X1_add μ (ad 0 3) b pc ta tb r = some ((), aB9 μ (ad 0 3) (ad 1) c b pc ta tb r) := by
  have g : ∀ m : Mem, BP m x ad S → mI m 3 9 (ad 0 3) = nI c → getI m 3 9 (ad 0 3) = some (nI c) := fun m hm e => by rw [hm.ki, e]
  have h1 : BP (sR μ 10 (ad 1 0) c b) x ad S := h
  have h2 : BP (sR (sR μ 10 (ad 1 0) c b) 11 (ad 1 1) c 1) x ad S := h
  have h3 : BP (sR (sR (sR μ 10 (ad 1 0) c b) 11 (ad 1 1) c 1) 12 (ad 1 2) c pc) x ad S := h
  have h4 : BP (sR (sR (sR (sR μ 10 (ad 1 0) c b) 11 (ad 1 1) c 1) 12 (ad 1 2) c pc) 13 (ad 1 3) c ta) x ad S := h
  have h5 : BP (sR (sR (sR (sR (sR μ 10 (ad 1 0) c b) 11 (ad 1 1) c 1) 12 (ad 1 2) c pc) 13 (ad 1 3) c ta) 14 (ad 1 4) c tb) x ad S := h
  have h6 : BP (sR (sR (sR (sR (sR (sR μ 10 (ad 1 0) c b) 11 (ad 1 1) c 1) 12 (ad 1 2) c pc) 13 (ad 1 3) c ta) 14 (ad 1 4) c tb) 15 (ad 1 5) c r) x ad S := h
  have w0 : ast μ (ad 1 0) (nI c) b = some (sR μ 10 (ad 1 0) c b) := h.kw (k := 0) (i := c) (v := b) (by decide) (by decide) (by omega)
  have w1 : ast (sR μ 10 (ad 1 0) c b) (ad 1 1) (nI c) 1 = some (sR (sR μ 10 (ad 1 0) c b) 11 (ad 1 1) c 1) := h1.kw (k := 1) (i := c) (v := 1) (by decide) (by decide) (by omega)
  have w2 : ast (sR (sR μ 10 (ad 1 0) c b) 11 (ad 1 1) c 1) (ad 1 2) (nI c) pc = some (sR (sR (sR μ 10 (ad 1 0) c b) 11 (ad 1 1) c 1) 12 (ad 1 2) c pc) := h2.kw (k := 2) (i := c) (v := pc) (by decide) (by decide) (by omega)
  have w3 : ast (sR (sR (sR μ 10 (ad 1 0) c b) 11 (ad 1 1) c 1) 12 (ad 1 2) c pc) (ad 1 3) (nI c) ta = some (sR (sR (sR (sR μ 10 (ad 1 0) c b) 11 (ad 1 1) c 1) 12 (ad 1 2) c pc) 13 (ad 1 3) c ta) := h3.kw (k := 3) (i := c) (v := ta) (by decide) (by decide) (by omega)
  have w4 : ast (sR (sR (sR (sR μ 10 (ad 1 0) c b) 11 (ad 1 1) c 1) 12 (ad 1 2) c pc) 13 (ad 1 3) c ta) (ad 1 4) (nI c) tb = some (sR (sR (sR (sR (sR μ 10 (ad 1 0) c b) 11 (ad 1 1) c 1) 12 (ad 1 2) c pc) 13 (ad 1 3) c ta) 14 (ad 1 4) c tb) := h4.kw (k := 4) (i := c) (v := tb) (by decide) (by decide) (by omega)
  have w5 := h5.kwz (i := c) (v := r) (by omega) hr
  simp only [f_X1_add, g _ h e9, obs, if_neg (nI_pos (n := c) (by omega)), if_pos (show nI c < 14 from nI_lt (b := 14) hc (by decide)), h.kq0, w0, h1.kq1, g _ h1 e9, w1, h2.kq2, g _ h2 e9, w2, h3.kq3, g _ h3 e9, w3, h4.kq4, g _ h4 e9, w4, h5.kq5, g _ h5 e9, w5, g _ h6 e9, h6.kp]
  rfl
theorem c_isBlock (h : BP μ x ad S) {c : Nat} (hc : c < 2 ^ 31) (e9 : mI μ 3 9 (ad 0 3) = nI c) {k : Nat} (hk : k < c) : f_X1_isBlock μ (ad 0 3) (nI k) = some 1 := by
  simp only [f_X1_isBlock, if_neg (nI_pos (n := k) (by omega)), h.ki, e9, obs, if_neg (nI_ge hk hc)]
end P39j
