/-! rests, restFirst, restBars -/
theorem lp_fstA {α β : Type} {acc : Nat → β} {F : Nat → β → Int32 → Option α} {r : Nat → Option α} {z : Option α} {q : Nat → Bool} {N : Nat}
    (step : ∀ n i, i < N → F (n + 1) (acc i) (nI i) = if q i = true then r i else F n (acc (i + 1)) (nI i + 1)) (fin : ∀ n, F (n + 1) (acc N) (nI N) = z) {m : Nat} (hm : N < m) : F m (acc 0) 0 = match fst9 q N N with | some i => r i | none => z := by
  have h : ∀ d i m, i + d = N → d < m → F m (acc i) (nI i) = match fst9 q N d with | some i => r i | none => z := by
    intro d
    induction d with
    | zero =>
      intro i m hi hm
      obtain rfl : i = N := by omega
      obtain ⟨n, rfl⟩ : ∃ n, m = n + 1 := ⟨m - 1, by omega⟩
      exact fin n
    | succ d ih =>
      intro i m hi hm
      obtain ⟨n, rfl⟩ : ∃ n, m = n + 1 := ⟨m - 1, by omega⟩
      obtain rfl : i = N - (d + 1) := by omega
      rw [step n _ (by omega)]
      unfold fst9
      by_cases hq : q (N - (d + 1)) = true
      · rw [if_pos hq, if_pos hq]
      · rw [if_neg hq, if_neg hq, ← nI_succ]
        exact ih _ n (by omega) (by omega)
  exact h N 0 m (by omega) hm
theorem nI_eq0 {n : Nat} (h : n < 2 ^ 31) : nI n = 0 ↔ n = 0 := nI_eq (b := 0) h (by decide)
def isR (B : Nat × (Nat → Nat) × (Nat → Nat)) (k : Nat) : Bool := decide (B.2.2 k ≠ 0)
def fR (B : Nat × (Nat → Nat) × (Nat → Nat)) (r : Int32) (k : Nat) : Bool := isR B k && decide (nI (cnt (isR B) k) = r)
/-- the block of a long rest by its number -/
def rk9 (B : Nat × (Nat → Nat) × (Nat → Nat)) (r : Int32) : Option Nat := fst9 (fR B r) B.1 B.1
theorem rk9_some {B : Nat × (Nat → Nat) × (Nat → Nat)} {r : Int32} {k : Nat} (h : rk9 B r = some k) : k < B.1 ∧ B.2.2 k ≠ 0 := by
  obtain ⟨h1, h2⟩ := fst9_some h (Nat.le_refl _)
  unfold fR at h2
  rw [Bool.and_eq_true] at h2
  exact ⟨h1, of_decide_eq_true h2.1⟩
theorem cnt_s (q : Nat → Bool) (n : Nat) : cnt q (n + 1) = cnt q n + (if q n = true then 1 else 0) := rfl
section P39m
variable {μ μ' ν : Mem} {x y : Nat} {ad : Nat → Nat → Nat} {am : Nat → Nat} {S : SS}
theorem B9_ok (hI : Inv S) (p : Nat) : (B9 S p S.1.2.1).1 ≤ 14 ∧ ∀ k, k < (B9 S p S.1.2.1).1 → (B9 S p S.1.2.1).2.1 k + bn9 ((B9 S p S.1.2.1).2.2 k) ≤ S.1.2.1 ∧ (B9 S p S.1.2.1).2.2 k ≤ 14 ∧ (B9 S p S.1.2.1).2.1 k < 14 := by
  have h14 := hI.1.2.1
  obtain ⟨n1, -, n3, -⟩ := bls_ok (em9 S p) (mk9 S) S.1.2.1
  refine ⟨Nat.le_trans n1 h14, fun k hk => ?_⟩
  have h := n3 k hk
  have h' : (B9 S p S.1.2.1).2.1 k + bn9 ((B9 S p S.1.2.1).2.2 k) ≤ S.1.2.1 := h
  have hp := bn9_pos ((B9 S p S.1.2.1).2.2 k)
  refine ⟨h', ?_, by omega⟩
  unfold bn9 at h'
  split at h'
  · omega
  · omega
theorem c_countOfRests {p : Nat} {B : Nat × (Nat → Nat) × (Nat → Nat)} (h : CB μ x ad S p B) (hB : B.1 ≤ 14) : f_X1_countOfRests μ (ad 0 3) = some (nI (cnt (isR B) B.1)) := by
  obtain ⟨h1, h2, -, -, h5⟩ := h
  unfold f_X1_countOfRests
  refine (lp_cnt (F := fun n c i => f_X1_countOfRests_L4 μ (ad 0 3) (fun z _ => some z) n c i) (k := fun c _ => some c) (q := isR B) (N := B.1) ?_ ?_ (m := 200) (by omega))
  · intro n i c hi
    simp only [f_X1_countOfRests_L4, h1.ki, h2, obs, if_neg (nI_ge hi (by omega)), h1.kq5, h1.kz (show i < 15 by omega), (h5 i hi).2.2.2.2.2, isR, decide_eq_true_eq]
    by_cases e : B.2.2 i = 0
    · simp only [if_pos e, ift]
      rw [if_neg (fun z => z e)]
    · simp only [if_neg e, if1]
      rw [if_pos e]
  · intro n c
    simp only [f_X1_countOfRests_L4, h1.ki, h2, obs, if_pos (nI_le (Nat.le_refl B.1) (by omega))]
theorem c_blockOfRest {p : Nat} {B : Nat × (Nat → Nat) × (Nat → Nat)} (h : CB μ x ad S p B) (hB : B.1 ≤ 14) (r : Int32) : f_X1_blockOfRest μ (ad 0 3) r = some (match rk9 B r with | some k => nI k | none => -1) := by
  obtain ⟨h1, h2, -, -, h5⟩ := h
  unfold f_X1_blockOfRest
  refine (lp_fstA (acc := fun i => nI (cnt (isR B) i)) (F := fun n c i => f_X1_blockOfRest_L4 μ (ad 0 3) r (fun _ _ => some (-1)) n c i) (r := fun i => some (nI i)) (z := some (-1)) (q := fR B r) (N := B.1) ?_ ?_ (m := 200) (by omega)).trans ?_
  · intro n i hi
    simp only [f_X1_blockOfRest_L4, h1.ki, h2, obs, if_neg (nI_ge hi (by omega)), h1.kq5, h1.kz (show i < 15 by omega), (h5 i hi).2.2.2.2.2, cnt_s]
    by_cases e : B.2.2 i = 0
    · have e1 : isR B i = false := decide_eq_false (fun z => z e)
      simp only [if_pos e, ift, fR, e1, Bool.false_and, Bool.false_eq_true, if_false, Nat.add_zero]
    · have e1 : isR B i = true := decide_eq_true e
      simp only [if_neg e, if1, fR, e1, Bool.true_and, decide_eq_true_eq, if_true, nI_1]
  · intro n
    simp only [f_X1_blockOfRest_L4, h1.ki, h2, obs, if_pos (nI_le (Nat.le_refl B.1) (by omega))]
  · unfold rk9
    cases fst9 (fR B r) B.1 B.1 <;> rfl
theorem m_restsL {B : Nat × (Nat → Nat) × (Nat → Nat)} (h : MB ν y am S B) (hB : B.1 ≤ 14) (h4 : ∀ k, k < B.1 → B.2.2 k ≤ 14) (p : Int32) : f_X5_rests_L19 ν y p (fun z _ => some (z, ν)) 200 0 0 = some (nI (cnt (isR B) B.1), ν) := by
  obtain ⟨h1, h2, h5⟩ := h
  refine (lp_cnt (F := fun n c i => f_X5_rests_L19 ν y p (fun z _ => some (z, ν)) n c i) (k := fun c _ => some (c, ν)) (q := isR B) (N := B.1) ?_ ?_ (m := 200) (by omega))
  · intro n i c hi
    have := h4 i hi
    simp only [f_X5_rests_L19, h1.iY, h2, obs, if_neg (nI_ge hi (by omega)), h1.q22, h1.a22 (show i < 14 by omega), (h5 i hi).2, isR, decide_eq_true_eq]
    by_cases e : B.2.2 i = 0
    · rw [if_pos (show nI (B.2.2 i) ≤ 0 by rw [e]; decide), if_neg (fun z : B.2.2 i ≠ 0 => z e), Int32.add_zero]
    · rw [if_neg (nI_nle (n := B.2.2 i) (by omega) (by omega)), if_pos (show B.2.2 i ≠ 0 from e)]
  · intro n c
    simp only [f_X5_rests_L19, h1.iY, h2, obs, if_pos (nI_le (Nat.le_refl B.1) (by omega))]
theorem m_blockOfL {B : Nat × (Nat → Nat) × (Nat → Nat)} (h : MB ν y am S B) (hB : B.1 ≤ 14) (h4 : ∀ k, k < B.1 → B.2.2 k ≤ 14) (p r : Int32) : f_X5_blockOf_L10 ν y p r (fun _ _ => some (-1, ν)) 200 r 0 = some ((match rk9 B r with | some k => nI k | none => -1), ν) := by
  obtain ⟨h1, h2, h5⟩ := h
  have e0 : r = r - nI (cnt (isR B) 0) := by
    show r = r - 0
    rw [Int32.sub_zero]
  have hl := lp_fstA (acc := fun i => r - nI (cnt (isR B) i)) (F := fun n c i => f_X5_blockOf_L10 ν y p r (fun _ _ => some (-1, ν)) n c i) (r := fun i => some (nI i, ν)) (z := some (-1, ν)) (q := fR B r) (N := B.1) ?_ ?_ (m := 200) (by omega)
  · have hl' : f_X5_blockOf_L10 ν y p r (fun _ _ => some (-1, ν)) 200 (r - nI (cnt (isR B) 0)) 0 = _ := hl
    rw [← e0] at hl'
    refine hl'.trans ?_
    unfold rk9
    cases fst9 (fR B r) B.1 B.1 <;> rfl
  · intro n i hi
    have := h4 i hi
    simp only [f_X5_blockOf_L10, h1.iY, h2, obs, if_neg (nI_ge hi (by omega)), h1.q22, h1.a22 (show i < 14 by omega), (h5 i hi).2, cnt_s]
    by_cases e : B.2.2 i = 0
    · have e1 : isR B i = false := decide_eq_false (fun z => z e)
      simp only [e, if_pos (show nI 0 = 0 by decide), fR, e1, Bool.false_and, Bool.false_eq_true, if_false, Nat.add_zero]
    · have e1 : isR B i = true := decide_eq_true e
      have e2 : (r - nI (cnt (isR B) i) = 0) ↔ nI (cnt (isR B) i) = r := ⟨fun z => ((Int32.sub_eq_iff_eq_add.mp z).trans (Int32.zero_add _)).symm, fun z => by rw [z, Int32.sub_self]⟩
      have e3 : r - nI (cnt (isR B) i) + -1 = r - nI (cnt (isR B) i + 1) := by
        rw [Int32.add_neg_eq_sub, Int32.sub_sub, nI_1]
      simp only [if_neg (nI_ne0 (n := B.2.2 i) (by omega) (by omega)), fR, e1, Bool.true_and, decide_eq_true_eq, if_true, e2, e3]
  · intro n
    simp only [f_X5_blockOf_L10, h1.iY, h2, obs, if_pos (nI_le (Nat.le_refl B.1) (by omega))]
theorem m_blockOf (h : MP ν y am S) (hI : Inv S) (p : Nat) (r : Int32) : ∃ ν', f_X5_blockOf ν y (nI p) r = some ((match rk9 (B9 S p S.1.2.1) r with | some k => nI k | none => -1), ν') ∧ MB ν' y am S (B9 S p S.1.2.1) ∧ FR 1 ν ν' ∧ mI ν' 7 0 y = mI ν 7 0 y := by
  obtain ⟨n1, n2⟩ := B9_ok hI p
  obtain ⟨m, e, c1, c2, c3⟩ := m_finds h hI p
  refine ⟨m, ?_, c1, c2, c3⟩
  simp only [f_X5_blockOf, h.ch, obs, e, bi2_s]
  exact m_blockOfL c1 n1 (fun k hk => (n2 k hk).2.1) (nI p) r
theorem c_knownRest (h : BP μ x ad S) (hI : Inv S) (p : Nat) (r : Int32) : ∃ μ', f_X4_knownRest μ x (nI p) r = some ((match rk9 (B9 S p S.1.2.1) r with | some k => .inr (nI k) | none => .inl 3), μ') ∧ CB μ' x ad S p (B9 S p S.1.2.1) ∧ FR 0 μ μ' := by
  obtain ⟨n1, n2⟩ := B9_ok hI p
  obtain ⟨m, e, c1, c2⟩ := c_makeBlocks h hI p
  refine ⟨m, ?_, c1, c2⟩
  simp only [f_X4_knownRest, h.ch, obs, e, bi2_s, c1.1.q3, c1.1.kc, c_blockOfRest c1 n1]
  cases hk : rk9 (B9 S p S.1.2.1) r with
  | none => exact if_neg (by decide)
  | some k =>
    have := (rk9_some hk).1
    exact if_pos (nI_pos' (by omega))
theorem o_rests (h : BP μ x ad S) (hI : Inv S) (v : Int32) : Op μ x S [3] (f_X4_rests μ x v) (fun ν y => f_X5_rests ν y v) := by
  by_cases hv : ∃ j : Nat, j < S.1.1 ∧ v = nI j
  · obtain ⟨p, hp, rfl⟩ := hv
    obtain ⟨n1, n2⟩ := B9_ok hI p
    obtain ⟨m, e, c1, f1⟩ := c_makeBlocks h hI p
    refine ⟨.inr (nI (cnt (isR (B9 S p S.1.2.1)) (B9 S p S.1.2.1).1)), m, S, ?_, hI, ⟨ad, c1.1⟩, f1, fun ν y am hM => ?_⟩
    · simp only [f_X4_rests, h.ch, obs, kp_hit h hI hp, sml_r, e, bi2_s, c1.1.q3, c1.1.kc, c_countOfRests c1 n1]
    · obtain ⟨n, en, d1, d2, d3⟩ := m_finds (hM.s0 0) hI p
      refine ⟨nI (cnt (isR (B9 S p S.1.2.1)) (B9 S p S.1.2.1).1), n, ?_, d1.1, (hM.f0 0).trans d2, ?_⟩
      · simp only [f_X5_rests, hM.ch, obs, nop_hit hM hI hp, bi2_s, ift, hM.ch0, en, m_restsL d1 n1 (fun k hk => (n2 k hk).2.1)]
      · rw [d3, mI_sI_h]
        exact Ag.v _
  · refine Op.no h hI (.inl 3) (by simp only [f_X4_rests, h.ch, obs, kp_miss h hv, sml_l]) 1 (Ag.x (by decide)) (fun ν y am hM => ?_)
    simp only [f_X5_rests, hM.ch, obs, nop_miss hM hI hv, bi2_s, if1]
theorem fails_of {S' : SS} (h : MP ν y am S') (c : Int32) : f_X5_fails ν y c = some (0, sI ν 7 0 y c) ∧ MP (sI ν 7 0 y c) y am S' ∧ FR 1 ν (sI ν 7 0 y c) ∧ mI (sI ν 7 0 y c) 7 0 y = c := ⟨m_fails h c, h.s0 c, h.f0 c, mI_sI_h⟩
theorem o_restFirst (h : BP μ x ad S) (hI : Inv S) (v r : Int32) : Op μ x S [3] (f_X4_restFirst μ x v r) (fun ν y => f_X5_restFirst ν y v r) := by
  by_cases hv : ∃ j : Nat, j < S.1.1 ∧ v = nI j
  · obtain ⟨p, hp, rfl⟩ := hv
    obtain ⟨n1, n2⟩ := B9_ok hI p
    obtain ⟨m, e, c1, f1⟩ := c_knownRest h hI p r
    cases hk : rk9 (B9 S p S.1.2.1) r with
    | none =>
      rw [hk] at e
      refine ⟨.inl 3, m, S, ?_, hI, ⟨ad, c1.1⟩, f1, fun ν y am hM => ?_⟩
      · simp only [f_X4_restFirst, h.ch, obs, kp_hit h hI hp, sml_r, h.q3, e, bi2_s, sml_l]
      · obtain ⟨n, en, d1, d2, d3⟩ := m_blockOf (hM.s0 0) hI p r
        rw [hk] at en
        refine ⟨0, sI n 7 0 y 1, ?_, d1.1.s0 1, ((hM.f0 0).trans d2).trans (d1.1.f0 1), ?_⟩
        · simp only [f_X5_restFirst, hM.ch, obs, nop_hit hM hI hp, bi2_s, ift, hM.ch0, en, if_neg (show ¬ (0 : Int32) ≤ -1 by decide), d1.1.ch, m_fails d1.1]
        · rw [mI_sI_h]
          exact Ag.x (by decide)
    | some k =>
      rw [hk] at e
      have hlt := (rk9_some hk).1
      have hge : (0 : Int32) ≤ nI k := nI_pos' (by omega)
      refine ⟨.inr (nI ((B9 S p S.1.2.1).2.1 k)), m, S, ?_, hI, ⟨ad, c1.1⟩, f1, fun ν y am hM => ?_⟩
      · have ha : ald m (ad 1 0) (nI k) = some (nI ((B9 S p S.1.2.1).2.1 k)) := (c1.1.ka (k := 0) (by decide) (by decide) (by omega)).trans (congrArg some (c1.2.2.2.2 k hlt).1)
        simp only [f_X4_restFirst, h.ch, obs, kp_hit h hI hp, sml_r, h.q3, e, bi2_s, f_X1_firstBarOf, c1.1.kc, c_isBlock c1.1 (by omega) c1.2.1 hlt, if1, c1.1.kq0, ha]
      · obtain ⟨n, en, d1, d2, d3⟩ := m_blockOf (hM.s0 0) hI p r
        rw [hk] at en
        have ha := d1.1.a21 (i := k) (by omega)
        rw [(d1.2.2 k hlt).1] at ha
        refine ⟨nI ((B9 S p S.1.2.1).2.1 k), n, ?_, d1.1, (hM.f0 0).trans d2, ?_⟩
        · simp only [f_X5_restFirst, hM.ch, obs, nop_hit hM hI hp, bi2_s, ift, hM.ch0, en, if_pos hge, d1.1.q21, ha]
        · rw [d3, mI_sI_h]
          exact Ag.v _
  · refine Op.no h hI (.inl 3) (by simp only [f_X4_restFirst, h.ch, obs, kp_miss h hv, sml_l]) 1 (Ag.x (by decide)) (fun ν y am hM => ?_)
    simp only [f_X5_restFirst, hM.ch, obs, nop_miss hM hI hv, bi2_s, if1]
theorem o_restBars (h : BP μ x ad S) (hI : Inv S) (v r : Int32) : Op μ x S [3] (f_X4_restBars μ x v r) (fun ν y => f_X5_restBars ν y v r) := by
  by_cases hv : ∃ j : Nat, j < S.1.1 ∧ v = nI j
  · obtain ⟨p, hp, rfl⟩ := hv
    obtain ⟨n1, n2⟩ := B9_ok hI p
    obtain ⟨m, e, c1, f1⟩ := c_knownRest h hI p r
    cases hk : rk9 (B9 S p S.1.2.1) r with
    | none =>
      rw [hk] at e
      refine ⟨.inl 3, m, S, ?_, hI, ⟨ad, c1.1⟩, f1, fun ν y am hM => ?_⟩
      · simp only [f_X4_restBars, h.ch, obs, kp_hit h hI hp, sml_r, h.q3, e, bi2_s, sml_l]
      · obtain ⟨n, en, d1, d2, d3⟩ := m_blockOf (hM.s0 0) hI p r
        rw [hk] at en
        refine ⟨0, sI n 7 0 y 1, ?_, d1.1.s0 1, ((hM.f0 0).trans d2).trans (d1.1.f0 1), ?_⟩
        · simp only [f_X5_restBars, hM.ch, obs, nop_hit hM hI hp, bi2_s, ift, hM.ch0, en, if_neg (show ¬ (0 : Int32) ≤ -1 by decide), d1.1.ch, m_fails d1.1]
        · rw [mI_sI_h]
          exact Ag.x (by decide)
    | some k =>
      rw [hk] at e
      obtain ⟨hlt, hne⟩ := rk9_some hk
      have hge : (0 : Int32) ≤ nI k := nI_pos' (by omega)
      have ebn : bn9 ((B9 S p S.1.2.1).2.2 k) = (B9 S p S.1.2.1).2.2 k := if_neg hne
      refine ⟨.inr (nI ((B9 S p S.1.2.1).2.2 k)), m, S, ?_, hI, ⟨ad, c1.1⟩, f1, fun ν y am hM => ?_⟩
      · have ha : ald m (ad 1 1) (nI k) = some (nI ((B9 S p S.1.2.1).2.2 k)) := (c1.1.ka (k := 1) (by decide) (by decide) (by omega)).trans (congrArg some ((c1.2.2.2.2 k hlt).2.1.trans (congrArg nI ebn)))
        simp only [f_X4_restBars, h.ch, obs, kp_hit h hI hp, sml_r, h.q3, e, bi2_s, f_X1_barsOf, c1.1.kc, c_isBlock c1.1 (by omega) c1.2.1 hlt, if1, c1.1.kq1, ha]
      · obtain ⟨n, en, d1, d2, d3⟩ := m_blockOf (hM.s0 0) hI p r
        rw [hk] at en
        have ha := d1.1.a22 (i := k) (by omega)
        rw [(d1.2.2 k hlt).2] at ha
        refine ⟨nI ((B9 S p S.1.2.1).2.2 k), n, ?_, d1.1, (hM.f0 0).trans d2, ?_⟩
        · simp only [f_X5_restBars, hM.ch, obs, nop_hit hM hI hp, bi2_s, ift, hM.ch0, en, if_pos hge, d1.1.q22, ha]
        · rw [d3, mI_sI_h]
          exact Ag.v _
  · refine Op.no h hI (.inl 3) (by simp only [f_X4_restBars, h.ch, obs, kp_miss h hv, sml_l]) 1 (Ag.x (by decide)) (fun ν y am hM => ?_)
    simp only [f_X5_restBars, hM.ch, obs, nop_miss hM hI hv, bi2_s, if1]
end P39m
