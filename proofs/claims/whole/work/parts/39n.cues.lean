/-! cuePart, cuePitch -/
/-- the fullest of the parts below i, but one -/
def fb9 (c : Nat → Nat) (p : Nat) : Nat → Option Nat
  | 0 => none
  | i + 1 => if i ≠ p ∧ (match fb9 c p i with | none => 0 | some j => c j) < c i then some i else fb9 c p i
def eo9 : Option Nat → Int32
  | none => -1
  | some j => nI j
def mo9 (c : Nat → Nat) : Option Nat → Nat
  | none => 0
  | some j => c j
theorem fb9_s (c : Nat → Nat) (p i : Nat) : fb9 c p (i + 1) = if i ≠ p ∧ mo9 c (fb9 c p i) < c i then some i else fb9 c p i := by
  show (if i ≠ p ∧ (match fb9 c p i with | none => 0 | some j => c j) < c i then some i else fb9 c p i) = _
  cases fb9 c p i <;> rfl
theorem fb9_lt {c : Nat → Nat} {p : Nat} : ∀ {i j : Nat}, fb9 c p i = some j → j < i ∧ j ≠ p ∧ 0 < c j := by
  intro i
  induction i with
  | zero => intro j h; cases h
  | succ i ih =>
    intro j h
    rw [fb9_s] at h
    by_cases e : i ≠ p ∧ mo9 c (fb9 c p i) < c i
    · rw [if_pos e] at h
      cases h
      exact ⟨Nat.lt_succ_self _, e.1, by omega⟩
    · rw [if_neg e] at h
      have := ih h
      exact ⟨by omega, this.2⟩
/-- a loop over a computed state -/
theorem lp_acc {α β : Type} {acc : Nat → β} {F : Nat → β → Int32 → Option α} {z : Option α} {N : Nat}
    (step : ∀ n i, i < N → F (n + 1) (acc i) (nI i) = F n (acc (i + 1)) (nI i + 1)) (fin : ∀ n, F (n + 1) (acc N) (nI N) = z) {m : Nat} (hm : N < m) : F m (acc 0) 0 = z := by
  have h : ∀ d i m, i + d = N → d < m → F m (acc i) (nI i) = z := by
    intro d
    induction d with
    | zero =>
      intro i m hi hm
      obtain rfl : i = N := by omega
      obtain ⟨n, rfl⟩ : ∃ n, m = n + 1 := ⟨m - 1, by omega⟩
      exact fin n
    | succ d ih =>
      intro i m hi hm
      obtain ⟨n, rfl⟩ : ∃ n, m = n + 1 := ⟨m - 1, by omega⟩
      rw [step n i (by omega), ← nI_succ]
      exact ih (i + 1) n (by omega) (by omega)
  exact h N 0 m (by omega) hm
section P39n
variable {μ μ' ν : Mem} {x y : Nat} {ad : Nat → Nat → Nat} {am : Nat → Nat} {S : SS}
def cq9 (S : SS) (b : Nat) (q : Nat) : Nat := cnt (qAt S (nI q) (nI b)) S.1.2.2
theorem c_fullest (h : BP μ x ad S) (hI : Inv S) {p : Nat} (hp : p < S.1.1) (b : Nat) : f_X4_fullestOtherPart μ x (nI p) (nI b) = some (eo9 (fb9 (cq9 S b) p S.1.1)) := by
  have h5 := hI.1.1
  have h120 := hI.1.2.2
  have hle : ∀ q, cq9 S b q ≤ 120 := fun q => Nat.le_trans (cnt_le _ _) h120
  have hcq : ∀ q, cnt (qAt S (nI q) (nI b)) S.1.2.2 = cq9 S b q := fun _ => rfl
  unfold f_X4_fullestOtherPart
  refine lp_acc (acc := fun i => (eo9 (fb9 (cq9 S b) p i), nI (mo9 (cq9 S b) (fb9 (cq9 S b) p i)))) (F := fun n (s : Int32 × Int32) i => f_X4_fullestOtherPart_L8 μ x (nI p) (nI b) (fun z _ _ => some z) n s.1 s.2 i) (N := S.1.1) ?_ ?_ (m := 200) (by omega)
  · intro n i hi
    have hm : mo9 (cq9 S b) (fb9 (cq9 S b) p i) ≤ 120 := by
      cases fb9 (cq9 S b) p i with
      | none => exact Nat.zero_le _
      | some j => exact hle j
    simp only [f_X4_fullestOtherPart_L8, h.i4, obs, if_neg (nI_ge hi (by omega))]
    by_cases e : i = p
    · subst e
      simp only [if_pos (nI_pos' (n := mo9 (cq9 S b) (fb9 (cq9 S b) i i)) (by omega)), if_pos]
      rw [fb9_s, if_neg (fun z => z.1 rfl)]
    · have e1 : ¬ nI i = nI p := fun z => e ((nI_eq (by omega) (by omega)).mp z)
      simp only [if_neg e1, h.ch, obs, c_countInBar h h120, hcq]
      rw [fb9_s]
      by_cases e2 : mo9 (cq9 S b) (fb9 (cq9 S b) p i) < cq9 S b i
      · rw [if_neg (nI_ge e2 (by have := hle i; omega)), if_pos (show i ≠ p ∧ mo9 (cq9 S b) (fb9 (cq9 S b) p i) < cq9 S b i from ⟨e, e2⟩)]
        rfl
      · rw [if_pos (nI_le (Nat.le_of_not_lt e2) (by omega)), if_neg (show ¬ (i ≠ p ∧ mo9 (cq9 S b) (fb9 (cq9 S b) p i) < cq9 S b i) from fun z => e2 z.2)]
  · intro n
    simp only [f_X4_fullestOtherPart_L8, h.i4, obs, if_pos (nI_le (Nat.le_refl S.1.1) (by omega))]
theorem eo9_neg (o : Option Nat) (h : ∀ j, o = some j → j < 2 ^ 31) : (o = none ∧ eo9 o < 0 ∧ ¬ 0 ≤ eo9 o) ∨ (∃ j, o = some j ∧ ¬ eo9 o < 0 ∧ 0 ≤ eo9 o) := by
  cases o with
  | none => exact Or.inl ⟨rfl, by decide, by decide⟩
  | some j => exact Or.inr ⟨j, rfl, nI_pos (h j rfl), nI_pos' (h j rfl)⟩
theorem m_cueL (h : MP ν y am S) (hI : Inv S) {p : Nat} (hp : p < S.1.1) (k : Int32) (b : Nat) (K : Int32 → Int32 → Option Int32) : f_X5_cueOf_L12 ν y (nI p) k (nI b) K 200 (-1) 0 = K (eo9 (fb9 (cq9 S b) p S.1.1)) (nI S.1.1) := by
  have h5 := hI.1.1
  have h120 := hI.1.2.2
  have hle : ∀ q, cq9 S b q ≤ 120 := fun q => Nat.le_trans (cnt_le _ _) h120
  have hcq : ∀ q, cnt (qAt S (nI q) (nI b)) S.1.2.2 = cq9 S b q := fun _ => rfl
  refine lp_acc (acc := fun i => eo9 (fb9 (cq9 S b) p i)) (F := fun n s i => f_X5_cueOf_L12 ν y (nI p) k (nI b) K n s i) (N := S.1.1) ?_ ?_ (m := 200) (by omega)
  · intro n i hi
    have hj : ∀ j, fb9 (cq9 S b) p i = some j → j < 2 ^ 31 := fun j hj => by
      have := (fb9_lt hj).1
      omega
    simp only [f_X5_cueOf_L12, h.i15, obs, if_neg (nI_ge hi (by omega))]
    by_cases e : i = p
    · subst e
      simp only [if_pos]
      rw [fb9_s, if_neg (fun z => z.1 rfl)]
    · have e1 : ¬ nI i = nI p := fun z => e ((nI_eq (by omega) (by omega)).mp z)
      simp only [if_neg e1, h.ch, obs, m_many h h120, hcq]
      rw [fb9_s]
      by_cases e0 : cq9 S b i = 0
      · rw [if_pos (show nI (cq9 S b i) ≤ 0 by rw [e0]; decide), if_neg (show ¬ (i ≠ p ∧ mo9 (cq9 S b) (fb9 (cq9 S b) p i) < cq9 S b i) from fun z => by omega)]
      · rw [if_neg (nI_nle (n := cq9 S b i) (Nat.pos_of_ne_zero e0) (by have := hle i; omega))]
        rcases eo9_neg _ hj with ⟨g0, g1, -⟩ | ⟨j, g0, g1, -⟩
        · rw [if_pos g1, if_pos (show i ≠ p ∧ mo9 (cq9 S b) (fb9 (cq9 S b) p i) < cq9 S b i from ⟨e, by rw [g0]; exact Nat.pos_of_ne_zero e0⟩)]
          rfl
        · rw [if_neg g1, g0]
          have ej : cnt (qAt S (eo9 (some j)) (nI b)) S.1.2.2 = cq9 S b j := rfl
          rw [ej]
          by_cases e2 : cq9 S b j < cq9 S b i
          · rw [if_neg (nI_ge e2 (by have := hle i; omega)), if_pos (show i ≠ p ∧ mo9 (cq9 S b) (some j) < cq9 S b i from ⟨e, e2⟩)]
            rfl
          · rw [if_pos (nI_le (Nat.le_of_not_lt e2) (by have := hle j; omega)), if_neg (show ¬ (i ≠ p ∧ mo9 (cq9 S b) (some j) < cq9 S b i) from fun z => e2 z.2)]
  · intro n
    simp only [f_X5_cueOf_L12, h.i15, obs, if_pos (nI_le (Nat.le_refl S.1.1) (by omega))]
/-- the last bar of a block -/
def lb9 (B : Nat × (Nat → Nat) × (Nat → Nat)) (k : Nat) : Nat := B.2.1 k + bn9 (B.2.2 k) - 1
theorem c_lastBar {p : Nat} {B : Nat × (Nat → Nat) × (Nat → Nat)} (h : CB μ x ad S p B) (hB : B.1 ≤ 14) {k : Nat} (hk : k < B.1) : f_X1_lastBarOf μ (ad 0 3) (nI k) = some (nI (lb9 B k)) := by
  obtain ⟨h1, h2, -, -, h5⟩ := h
  have a0 : ald μ (ad 1 0) (nI k) = some (nI (B.2.1 k)) := (h1.ka (k := 0) (by decide) (by decide) (by omega)).trans (congrArg some (h5 k hk).1)
  have a1 : ald μ (ad 1 1) (nI k) = some (nI (bn9 (B.2.2 k))) := (h1.ka (k := 1) (by decide) (by decide) (by omega)).trans (congrArg some (h5 k hk).2.1)
  simp only [f_X1_lastBarOf, h1.kc, obs, c_isBlock h1 (by omega) h2 hk, if1, h1.kq0, a0, h1.kq1, a1, nI_add]
  have hp := bn9_pos (B.2.2 k)
  obtain ⟨d, hd⟩ : ∃ d, B.2.1 k + bn9 (B.2.2 k) = d + 1 := ⟨B.2.1 k + bn9 (B.2.2 k) - 1, by omega⟩
  unfold lb9
  rw [hd, nI_pred, Nat.add_sub_cancel]
theorem c_barsOf {p : Nat} {B : Nat × (Nat → Nat) × (Nat → Nat)} (h : CB μ x ad S p B) (hB : B.1 ≤ 14) {k : Nat} (hk : k < B.1) : f_X1_barsOf μ (ad 0 3) (nI k) = some (nI (bn9 (B.2.2 k))) := by
  obtain ⟨h1, h2, -, -, h5⟩ := h
  have a1 : ald μ (ad 1 1) (nI k) = some (nI (bn9 (B.2.2 k))) := (h1.ka (k := 1) (by decide) (by decide) (by omega)).trans (congrArg some (h5 k hk).2.1)
  simp only [f_X1_barsOf, h1.kc, obs, c_isBlock h1 (by omega) h2 hk, if1, h1.kq1, a1]
theorem m_lastBar {B : Nat × (Nat → Nat) × (Nat → Nat)} (h : MB ν y am S B) (hB : B.1 ≤ 14) {k : Nat} (hk : k < B.1) (h4 : B.2.2 k ≤ 14) : f_X5_lastBar ν y (nI k) = some (nI (lb9 B k)) := by
  obtain ⟨h1, h2, h5⟩ := h
  simp only [f_X5_lastBar, h1.q21, h1.q22, obs, h1.a21 (show k < 14 by omega), h1.a22 (show k < 14 by omega), (h5 k hk).1, (h5 k hk).2]
  unfold lb9 bn9
  by_cases e : B.2.2 k = 0
  · rw [e, if_neg (show ¬ (0 : Int32) < nI 0 - 1 by decide), if_pos rfl, Nat.add_sub_cancel, Int32.add_zero]
  · obtain ⟨d, hd⟩ : ∃ d, B.2.2 k = d + 1 := ⟨B.2.2 k - 1, by omega⟩
    rw [if_neg e, hd, nI_pred]
    by_cases d0 : d = 0
    · subst d0
      rw [if_neg (show ¬ (0 : Int32) < nI 0 by decide), Int32.add_zero]
      rfl
    · rw [if_pos (show (0 : Int32) < nI d from nI_lt (a := 0) (Nat.pos_of_ne_zero d0) (by omega)), nI_add]
      rfl
/-- the part from which the cue of a block is taken -/
def cu9 (S : SS) (p k : Nat) : Option Nat := if (S.2 16 2).toInt ≤ (B9 S p S.1.2.1).2.2 k ∧ lb9 (B9 S p S.1.2.1) k + 1 < S.1.2.1 then fb9 (cq9 S (lb9 (B9 S p S.1.2.1) k)) p S.1.1 else none
theorem c_knownCue {p9 : Nat} (h : CB μ x ad S p9 (B9 S p9 S.1.2.1)) (hI : Inv S) (hp : p9 < S.1.1) {k : Nat} (hk : k < (B9 S p9 S.1.2.1).1) (hne : (B9 S p9 S.1.2.1).2.2 k ≠ 0) : f_X4_knownCue μ x (nI p9) (nI k) = some (match cu9 S p9 k with | some j => .inr (nI j) | none => .inl 5) := by
  have h14 := hI.1.2.1
  have h5 := hI.1.1
  obtain ⟨n1, n2⟩ := B9_ok hI p9
  obtain ⟨m1, m2, m3⟩ := n2 k hk
  have ebn : bn9 ((B9 S p9 S.1.2.1).2.2 k) = (B9 S p9 S.1.2.1).2.2 k := if_neg hne
  have hlb : lb9 (B9 S p9 S.1.2.1) k + 1 ≤ S.1.2.1 := by
    have := bn9_pos ((B9 S p9 S.1.2.1).2.2 k)
    unfold lb9
    omega
  have hj : ∀ j, fb9 (cq9 S (lb9 (B9 S p9 S.1.2.1) k)) p9 S.1.1 = some j → j < 2 ^ 31 := fun j hj => by
    have := (fb9_lt hj).1
    omega
  have el : (nI ((B9 S p9 S.1.2.1).2.2 k) < S.2 16 2) ↔ ¬ (S.2 16 2).toInt ≤ (B9 S p9 S.1.2.1).2.2 k := by
    rw [Int32.lt_iff_toInt_lt, nI_toInt (by omega)]
    omega
  simp only [f_X4_knownCue, h.1.q3, h.1.kc, obs, c_lastBar h n1 hk, c_barsOf h n1 hk, h.1.i9, h.1.i5, nI_1, ebn]
  by_cases e1 : (S.2 16 2).toInt ≤ (B9 S p9 S.1.2.1).2.2 k
  · rw [if_neg (fun z => (el.mp z) e1)]
    by_cases e2 : lb9 (B9 S p9 S.1.2.1) k + 1 < S.1.2.1
    · have ec : cu9 S p9 k = fb9 (cq9 S (lb9 (B9 S p9 S.1.2.1) k)) p9 S.1.1 := if_pos ⟨e1, e2⟩
      rw [if_neg (nI_ge e2 (by omega)), h.1.ch, obs, c_fullest h.1 hI hp, obs, ec]
      rcases eo9_neg _ hj with ⟨g0, -, g2⟩ | ⟨j, g0, -, g2⟩
      · rw [if_neg g2, g0]
      · rw [if_pos g2, g0]
        rfl
    · have ec : cu9 S p9 k = none := if_neg (fun z => e2 z.2)
      rw [if_pos (nI_le (Nat.le_of_not_lt e2) (by omega)), ec]
  · have ec : cu9 S p9 k = none := if_neg (fun z => e1 z.1)
    rw [if_pos (el.mpr e1), ec]
    split <;> rfl
theorem m_cueOf {p9 : Nat} (h : MB ν y am S (B9 S p9 S.1.2.1)) (hI : Inv S) (hp : p9 < S.1.1) {k : Nat} (hk : k < (B9 S p9 S.1.2.1).1) : f_X5_cueOf ν y (nI p9) (nI k) = some (eo9 (cu9 S p9 k)) := by
  have h14 := hI.1.2.1
  obtain ⟨n1, n2⟩ := B9_ok hI p9
  obtain ⟨m1, m2, m3⟩ := n2 k hk
  have hlb : lb9 (B9 S p9 S.1.2.1) k + 1 ≤ S.1.2.1 := by
    have := bn9_pos ((B9 S p9 S.1.2.1).2.2 k)
    unfold lb9
    omega
  have el : (nI ((B9 S p9 S.1.2.1).2.2 k) < S.2 16 2) ↔ ¬ (S.2 16 2).toInt ≤ (B9 S p9 S.1.2.1).2.2 k := by
    rw [Int32.lt_iff_toInt_lt, nI_toInt (by omega)]
    omega
  obtain ⟨d, hd⟩ : ∃ d, S.1.2.1 = d + 1 := ⟨S.1.2.1 - 1, by omega⟩
  have ed : nI S.1.2.1 - 1 = nI d := by rw [hd, nI_pred]
  simp only [f_X5_cueOf, h.1.ch, obs, m_lastBar h n1 hk m2, m_cueL h.1 hI hp, h.1.q22, h.1.a22 (show k < 14 by omega), (h.2.2 k hk).2, h.1.i20, h.1.i16, ed]
  by_cases e1 : (S.2 16 2).toInt ≤ (B9 S p9 S.1.2.1).2.2 k
  · rw [if_neg (fun z => (el.mp z) e1)]
    by_cases e2 : lb9 (B9 S p9 S.1.2.1) k + 1 < S.1.2.1
    · have ec : cu9 S p9 k = fb9 (cq9 S (lb9 (B9 S p9 S.1.2.1) k)) p9 S.1.1 := if_pos ⟨e1, e2⟩
      rw [if_neg (nI_ge (show lb9 (B9 S p9 S.1.2.1) k < d by omega) (by omega)), ec]
    · have ec : cu9 S p9 k = none := if_neg (fun z => e2 z.2)
      rw [if_pos (nI_le (show d ≤ lb9 (B9 S p9 S.1.2.1) k by omega) (by omega)), ec]
      rfl
  · have ec : cu9 S p9 k = none := if_neg (fun z => e1 z.1)
    rw [if_pos (el.mpr e1), ec]
    rfl
theorem cu9_lt (hI : Inv S) {p k j : Nat} (h : cu9 S p k = some j) : j < S.1.1 := by
  unfold cu9 at h
  split at h
  · exact (fb9_lt h).1
  · cases h
/-- the reference's cuePart, at a part that is there -/
theorem m_cuePart (h : MP ν y am S) (hI : Inv S) {p : Nat} (hp : p < S.1.1) (r : Int32) : ∃ ν', MB ν' y am S (B9 S p S.1.2.1) ∧ FR 1 ν ν' ∧
    ((rk9 (B9 S p S.1.2.1) r = none ∧ f_X5_cuePart ν y (nI p) r = some (0, ν') ∧ mI ν' 7 0 y = 1) ∨ (∃ k, rk9 (B9 S p S.1.2.1) r = some k ∧ ((cu9 S p k = none ∧ f_X5_cuePart ν y (nI p) r = some (0, ν') ∧ mI ν' 7 0 y = 2) ∨ ∃ j, cu9 S p k = some j ∧ f_X5_cuePart ν y (nI p) r = some (nI j, ν') ∧ mI ν' 7 0 y = 0))) := by
  have h5 := hI.1.1
  obtain ⟨n1, n2⟩ := B9_ok hI p
  obtain ⟨n, en, d1, d2, d3⟩ := m_blockOf (h.s0 0) hI p r
  have hs : ∀ c : Int32, MB (sI n 7 0 y c) y am S (B9 S p S.1.2.1) := fun c => ⟨d1.1.s0 c, (mI_sI_k (by decide)).trans d1.2.1, d1.2.2⟩
  cases hk : rk9 (B9 S p S.1.2.1) r with
  | none =>
    rw [hk] at en
    refine ⟨sI n 7 0 y 1, hs 1, ((h.f0 0).trans d2).trans (d1.1.f0 1), Or.inl ⟨rfl, ?_, mI_sI_h⟩⟩
    simp only [f_X5_cuePart, h.ch, obs, nop_hit h hI hp, bi2_s, ift, h.ch0, en, if_neg (show ¬ (0 : Int32) ≤ -1 by decide), d1.1.ch, m_fails d1.1]
  | some k =>
    rw [hk] at en
    have hlt := (rk9_some hk).1
    have hge : (0 : Int32) ≤ nI k := nI_pos' (by omega)
    have ec := m_cueOf d1 hI hp hlt
    cases hc : cu9 S p k with
    | none =>
      rw [hc] at ec
      refine ⟨sI n 7 0 y 2, hs 2, ((h.f0 0).trans d2).trans (d1.1.f0 2), Or.inr ⟨k, rfl, Or.inl ⟨hc, ?_, mI_sI_h⟩⟩⟩
      simp only [f_X5_cuePart, h.ch, obs, nop_hit h hI hp, bi2_s, ift, h.ch0, en, if_pos hge, d1.1.ch, ec, eo9, if_neg (show ¬ (0 : Int32) ≤ -1 by decide), m_fails d1.1]
    | some j =>
      rw [hc] at ec
      have hj := cu9_lt hI hc
      refine ⟨n, d1, (h.f0 0).trans d2, Or.inr ⟨k, rfl, Or.inr ⟨j, hc, ?_, d3.trans mI_sI_h⟩⟩⟩
      simp only [f_X5_cuePart, h.ch, obs, nop_hit h hI hp, bi2_s, ift, h.ch0, en, if_pos hge, d1.1.ch, ec, eo9, if_pos (nI_pos' (n := j) (by omega))]
theorem o_cuePart (h : BP μ x ad S) (hI : Inv S) (v r : Int32) : Op μ x S [3, 5] (f_X4_cuePart μ x v r) (fun ν y => f_X5_cuePart ν y v r) := by
  by_cases hv : ∃ j : Nat, j < S.1.1 ∧ v = nI j
  · obtain ⟨p, hp, rfl⟩ := hv
    obtain ⟨m, e, c1, f1⟩ := c_knownRest h hI p r
    cases hk : rk9 (B9 S p S.1.2.1) r with
    | none =>
      rw [hk] at e
      refine ⟨.inl 3, m, S, ?_, hI, ⟨ad, c1.1⟩, f1, fun ν y am hM => ?_⟩
      · simp only [f_X4_cuePart, h.ch, obs, kp_hit h hI hp, sml_r, e, bi2_s, sml_l]
      · obtain ⟨n, d1, d2, ⟨-, d4, d5⟩ | ⟨k, g, -⟩⟩ := m_cuePart hM hI hp r
        · exact ⟨0, n, d4, d1.1, d2, by rw [d5]; exact Ag.x (by decide)⟩
        · rw [hk] at g; cases g
    | some k =>
      rw [hk] at e
      obtain ⟨hlt, hne⟩ := rk9_some hk
      have ec := c_knownCue c1 hI hp hlt hne
      cases hc : cu9 S p k with
      | none =>
        rw [hc] at ec
        refine ⟨.inl 5, m, S, ?_, hI, ⟨ad, c1.1⟩, f1, fun ν y am hM => ?_⟩
        · simp only [f_X4_cuePart, h.ch, obs, kp_hit h hI hp, sml_r, e, bi2_s, c1.1.ch, ec, sml_l]
        · obtain ⟨n, d1, d2, ⟨g, -⟩ | ⟨k', g, ⟨g2, d4, d5⟩ | ⟨j, g2, -⟩⟩⟩ := m_cuePart hM hI hp r
          · rw [hk] at g; cases g
          · exact ⟨0, n, d4, d1.1, d2, by rw [d5]; exact Ag.x (by decide)⟩
          · rw [hk] at g; cases g; rw [hc] at g2; cases g2
      | some j =>
        rw [hc] at ec
        refine ⟨.inr (nI j), m, S, ?_, hI, ⟨ad, c1.1⟩, f1, fun ν y am hM => ?_⟩
        · simp only [f_X4_cuePart, h.ch, obs, kp_hit h hI hp, sml_r, e, bi2_s, c1.1.ch, ec]
        · obtain ⟨n, d1, d2, ⟨g, -⟩ | ⟨k', g, ⟨g2, -⟩ | ⟨j', g2, d4, d5⟩⟩⟩ := m_cuePart hM hI hp r
          · rw [hk] at g; cases g
          · rw [hk] at g; cases g; rw [hc] at g2; cases g2
          · rw [hk] at g; cases g; rw [hc] at g2; cases g2
            exact ⟨nI j, n, d4, d1.1, d2, by rw [d5]; exact Ag.v _⟩
  · refine Op.no h hI (.inl 3) (by simp only [f_X4_cuePart, h.ch, obs, kp_miss h hv, sml_l]) 1 (Ag.x (by decide)) (fun ν y am hM => ?_)
    simp only [f_X5_cuePart, hM.ch, obs, nop_miss hM hI hv, bi2_s, if1]
theorem m_cuePartX (h : MP ν y am S) (hI : Inv S) {v : Int32} (hv : ¬ ∃ p : Nat, p < S.1.1 ∧ v = nI p) (r : Int32) : f_X5_cuePart ν y v r = some (0, sI ν 7 0 y 1) := by
  simp only [f_X5_cuePart, h.ch, obs, nop_miss h hI hv, bi2_s, if1]
theorem o_cuePitch (h : BP μ x ad S) (hI : Inv S) (v r i : Int32) : Op μ x S [3, 5, 4] (f_X4_cuePitch μ x v r i) (fun ν y => f_X5_cuePitch ν y v r i) := by
  have h120 := hI.1.2.2
  have h5 := hI.1.1
  by_cases hv : ∃ j : Nat, j < S.1.1 ∧ v = nI j
  · obtain ⟨p, hp, rfl⟩ := hv
    obtain ⟨n1, n2⟩ := B9_ok hI p
    obtain ⟨m, e, c1, f1⟩ := c_knownRest h hI p r
    cases hk : rk9 (B9 S p S.1.2.1) r with
    | none =>
      rw [hk] at e
      refine ⟨.inl 3, m, S, ?_, hI, ⟨ad, c1.1⟩, f1, fun ν y am hM => ?_⟩
      · simp only [f_X4_cuePitch, h.ch, obs, kp_hit h hI hp, sml_r, e, bi2_s, sml_l]
      · obtain ⟨n, d1, d2, ⟨-, d4, d5⟩ | ⟨k, g, -⟩⟩ := m_cuePart hM hI hp r
        · have e0 : getI n 7 0 y = some 1 := by rw [d1.1.iY, d5]
          refine ⟨0, n, ?_, d1.1, d2, by rw [d5]; exact Ag.x (by decide)⟩
          simp only [f_X5_cuePitch, hM.ch, obs, d4, bi2_s, e0, if_neg le10]
        · rw [hk] at g; cases g
    | some k =>
      rw [hk] at e
      obtain ⟨hlt, hne⟩ := rk9_some hk
      have ec := c_knownCue c1 hI hp hlt hne
      cases hc : cu9 S p k with
      | none =>
        rw [hc] at ec
        refine ⟨.inl 5, m, S, ?_, hI, ⟨ad, c1.1⟩, f1, fun ν y am hM => ?_⟩
        · simp only [f_X4_cuePitch, h.ch, obs, kp_hit h hI hp, sml_r, e, bi2_s, c1.1.ch, ec, sml_l]
        · obtain ⟨n, d1, d2, ⟨g, -⟩ | ⟨k', g, ⟨g2, d4, d5⟩ | ⟨j, g2, -⟩⟩⟩ := m_cuePart hM hI hp r
          · rw [hk] at g; cases g
          · have e0 : getI n 7 0 y = some 2 := by rw [d1.1.iY, d5]
            refine ⟨0, n, ?_, d1.1, d2, by rw [d5]; exact Ag.x (by decide)⟩
            simp only [f_X5_cuePitch, hM.ch, obs, d4, bi2_s, e0, if_neg (show ¬ (2 : Int32) ≤ 0 by decide)]
          · rw [hk] at g; cases g; rw [hc] at g2; cases g2
      | some j =>
        rw [hc] at ec
        have eo := c_inOrder c1.1 hI (nI j) (nI (lb9 (B9 S p S.1.2.1) k)) i
        rw [qln_fst h120] at eo
        have hm : ∀ (ν : Mem) (y : Nat) (am : Nat → Nat), MP ν y am S → ∃ n n2, f_X5_cuePart ν y (nI p) r = some (nI j, n) ∧ getI n 7 0 y = some 0 ∧ chk n 7 y = some () ∧ f_X5_blockOf n y (nI p) r = some (nI k, n2) ∧ MB n2 y am S (B9 S p S.1.2.1) ∧ FR 1 ν n2 ∧ mI n2 7 0 y = 0 := by
          intro ν y am hM
          obtain ⟨n, d1, d2, ⟨g, -⟩ | ⟨k', g, ⟨g2, -⟩ | ⟨j', g2, d4, d5⟩⟩⟩ := m_cuePart hM hI hp r
          · rw [hk] at g; cases g
          · rw [hk] at g; cases g; rw [hc] at g2; cases g2
          · rw [hk] at g; cases g; rw [hc] at g2; cases g2
            obtain ⟨n2, e2, b1, b2, b3⟩ := m_blockOf d1.1 hI p r
            rw [hk] at e2
            exact ⟨n, n2, d4, by rw [d1.1.iY, d5], d1.1.ch, e2, b1, d2.trans b2, b3.trans d5⟩
        have hlb := fun (ν : Mem) (y : Nat) (am : Nat → Nat) (hM : MB ν y am S (B9 S p S.1.2.1)) => m_lastBar hM n1 hlt (n2 k hlt).2.1
        cases hq : fst9 (qOr S (nI j) (nI (lb9 (B9 S p S.1.2.1) k)) i) S.1.2.2 S.1.2.2 with
        | none =>
          rw [hq] at eo
          refine ⟨.inl 4, m, S, ?_, hI, ⟨ad, c1.1⟩, f1, fun ν y am hM => ?_⟩
          · simp only [f_X4_cuePitch, h.ch, obs, kp_hit h hI hp, sml_r, e, bi2_s, c1.1.ch, ec, c1.1.q3, c1.1.kc, c_lastBar c1 n1 hlt, eo, sml_l]
          · obtain ⟨n, n2, d1, d2, d3, d4, d5, d6, d7⟩ := hm ν y am hM
            have en := m_noteBy d5.1 h120 (nI j) (nI (lb9 (B9 S p S.1.2.1) k)) i
            rw [hq] at en
            refine ⟨0, sI n2 7 0 y 3, ?_, d5.1.s0 3, d6.trans (d5.1.f0 3), by rw [mI_sI_h]; exact Ag.x (by decide)⟩
            simp only [f_X5_cuePitch, hM.ch, obs, d1, bi2_s, d2, if_pos le00, d3, d4, d5.1.ch, hlb _ _ _ d5, en, if_neg (show ¬ (0 : Int32) ≤ -1 by decide), m_fails d5.1]
        | some t =>
          rw [hq] at eo
          obtain ⟨ht, hqt⟩ := fst9_some hq (Nat.le_refl _)
          have h11 : S.2 11 t ≠ 0 := by
            unfold qOr qAt at hqt
            rw [Bool.and_eq_true, decide_eq_true_eq] at hqt
            exact hqt.1.1
          refine ⟨.inr (S.2 10 t + S.2 0 p), m, S, ?_, hI, ⟨ad, c1.1⟩, f1, fun ν y am hM => ?_⟩
          · simp only [f_X4_cuePitch, h.ch, obs, kp_hit h hI hp, sml_r, e, bi2_s, c1.1.ch, ec, c1.1.q3, c1.1.kc, c_lastBar c1 n1 hlt, eo, kn_hit c1.1 hI ht h11, c1.1.t5 ht, c1.1.p0 hp]
          · obtain ⟨n, n2, d1, d2, d3, d4, d5, d6, d7⟩ := hm ν y am hM
            have en := m_noteBy d5.1 h120 (nI j) (nI (lb9 (B9 S p S.1.2.1) k)) i
            rw [hq] at en
            refine ⟨S.2 10 t + S.2 0 p, n2, ?_, d5.1, d6, by rw [d7]; exact Ag.v _⟩
            simp only [f_X5_cuePitch, hM.ch, obs, d1, bi2_s, d2, if_pos le00, d3, d4, d5.1.ch, hlb _ _ _ d5, en, if_pos (nI_pos' (n := t) (by omega)), d5.1.q9, d5.1.a9 ht h120, d5.1.q1, d5.1.a1 hp h5]
  · refine Op.no h hI (.inl 3) (by simp only [f_X4_cuePitch, h.ch, obs, kp_miss h hv, sml_l]) 1 (Ag.x (by decide)) (fun ν y am hM => ?_)
    simp only [f_X5_cuePitch, hM.ch, obs, m_cuePartX hM hI hv, bi2_s, hM.g0, if_neg le10]
end P39n
