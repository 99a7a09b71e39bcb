/-! A LOOP THAT WRITES -/
theorem lp_inv {β : Type} {F : Nat → Mem → Int32 → Option β} {k : Mem → Option β} {J : Nat → Mem → Prop} {N : Nat}
    (step : ∀ n i μ, i < N → J i μ → ∃ μ', J (i + 1) μ' ∧ F (n + 1) μ (nI i) = F n μ' (nI i + 1)) (fin : ∀ n μ, J N μ → F (n + 1) μ (nI N) = k μ) {m : Nat} (hm : N < m) {μ : Mem} (h0 : J 0 μ) : ∃ μ', J N μ' ∧ F m μ 0 = k μ' := by
  have h : ∀ d i m μ, i + d = N → d < m → J i μ → ∃ μ', J N μ' ∧ F m μ (nI i) = k μ' := by
    intro d
    induction d with
    | zero =>
      intro i m μ hi hm hJ
      obtain rfl : i = N := by omega
      obtain ⟨n, rfl⟩ : ∃ n, m = n + 1 := ⟨m - 1, by omega⟩
      exact ⟨μ, hJ, fin n μ hJ⟩
    | succ d ih =>
      intro i m μ hi hm hJ
      obtain ⟨n, rfl⟩ : ∃ n, m = n + 1 := ⟨m - 1, by omega⟩
      obtain ⟨μ1, h1, e1⟩ := step n i μ (by omega) hJ
      obtain ⟨μ2, h2, e2⟩ := ih (i + 1) n μ1 (by omega) (by omega) h1
      refine ⟨μ2, h2, ?_⟩
      rw [e1, ← nI_succ i]
      exact e2
  exact h N 0 m μ (by omega) hm h0
/-- the notes of the part that stand ahead of n are in the copy as they are -/
def cpS (S : SS) (p : Int32) (n : Nat) : SS := (S.1, fun c j => if j < n ∧ j < S.1.2.2 ∧ S.2 5 j = p then (if c = 12 then S.2 11 j else if c = 13 then S.2 9 j else if c = 14 then S.2 10 j else if c = 15 then 0 else S.2 c j) else S.2 c j)
theorem cpS_0 (S : SS) (p : Int32) : cpS S p 0 = S := by
  show (S.1, _) = (S.1, S.2)
  refine congrArg (Prod.mk S.1) ?_
  funext c j
  exact if_neg (fun z => absurd z.1 (Nat.not_lt_zero j))
theorem cpS_skip (S : SS) (p : Int32) {i : Nat} (h : ¬ (i < S.1.2.2 ∧ S.2 5 i = p)) : cpS S p (i + 1) = cpS S p i := by
  show (S.1, _) = (S.1, _)
  refine congrArg (Prod.mk S.1) ?_
  funext c j
  by_cases e : j = i
  · subst e
    rw [if_neg (fun z => h z.2), if_neg (fun z => h z.2)]
  · by_cases z : j < i ∧ j < S.1.2.2 ∧ S.2 5 j = p
    · rw [if_pos z, if_pos ⟨by omega, z.2⟩]
    · rw [if_neg z, if_neg (fun w => z ⟨by omega, w.2⟩)]
theorem cpS_at (S : SS) (p : Int32) (n c : Nat) {j : Nat} (h : n ≤ j) : (cpS S p n).2 c j = S.2 c j := if_neg (fun z => by omega)
theorem cpS_lo (S : SS) (p : Int32) (n : Nat) {c : Nat} (h : ¬ (12 ≤ c ∧ c ≤ 15)) (j : Nat) : (cpS S p n).2 c j = S.2 c j := by
  show (if _ then _ else _) = _
  split
  · rw [if_neg (by omega), if_neg (by omega), if_neg (by omega), if_neg (by omega)]
  · rfl
theorem cpS_step (S : SS) (p : Int32) {i : Nat} (h : i < S.1.2.2 ∧ S.2 5 i = p) : cpS S p (i + 1) = upS (upS (upS (upS (cpS S p i) 12 i (S.2 11 i)) 14 i (S.2 10 i)) 13 i (S.2 9 i)) 15 i 0 := by
  show (S.1, _) = (S.1, _)
  refine congrArg (Prod.mk S.1) ?_
  funext c j
  show (if j < i + 1 ∧ j < S.1.2.2 ∧ S.2 5 j = p then (if c = 12 then S.2 11 j else if c = 13 then S.2 9 j else if c = 14 then S.2 10 j else if c = 15 then 0 else S.2 c j) else S.2 c j) = (if c = 15 ∧ j = i then (0 : Int32) else if c = 13 ∧ j = i then S.2 9 i else if c = 14 ∧ j = i then S.2 10 i else if c = 12 ∧ j = i then S.2 11 i else if j < i ∧ j < S.1.2.2 ∧ S.2 5 j = p then (if c = 12 then S.2 11 j else if c = 13 then S.2 9 j else if c = 14 then S.2 10 j else if c = 15 then 0 else S.2 c j) else S.2 c j)
  by_cases e : j = i
  · subst e
    rw [if_pos ⟨Nat.lt_succ_self j, h⟩, if_neg (show ¬ (j < j ∧ j < S.1.2.2 ∧ S.2 5 j = p) from fun z => absurd z.1 (Nat.lt_irrefl j))]
    by_cases c2 : c = 12
    · subst c2; simp
    · by_cases c3 : c = 13
      · subst c3; simp
      · by_cases c4 : c = 14
        · subst c4; simp
        · by_cases c5 : c = 15
          · subst c5; simp
          · simp [c2, c3, c4, c5]
  · have e1 : (j < i + 1 ∧ j < S.1.2.2 ∧ S.2 5 j = p) ↔ (j < i ∧ j < S.1.2.2 ∧ S.2 5 j = p) := ⟨fun z => ⟨by omega, z.2⟩, fun z => ⟨by omega, z.2⟩⟩
    simp only [e1, e, and_false, if_false]
section P39e
variable {μ ν : Mem} {x y : Nat} {ad : Nat → Nat → Nat} {am : Nat → Nat} {S : SS}
theorem c_bring (h : BP μ x ad S) (hI : Inv S) (p : Int32) : ∃ μ', f_X4_bringCopyUpToDate μ x p = some ((), μ') ∧ BP μ' x ad (cpS S p 120) ∧ FR 0 μ μ' := by
  have step : ∀ n i m, i < 120 → (BP m x ad (cpS S p i) ∧ FR 0 μ m) → ∃ m', (BP m' x ad (cpS S p (i + 1)) ∧ FR 0 μ m') ∧ f_X4_bringCopyUpToDate_L2 x p (fun z _ => some ((), z)) (n + 1) m (nI i) = f_X4_bringCopyUpToDate_L2 x p (fun z _ => some ((), z)) n m' (nI i + 1) := by
    intro n i m hi hJ
    obtain ⟨hb, hf⟩ := hJ
    have hl := hb.l2 hi
    by_cases hn : i < S.1.2.2
    · have g0 : getI m 4 0 (ad 4 i) = some (S.2 5 i) := by rw [hb.t0 hn, cpS_at S p i 5 (Nat.le_refl i)]
      rw [if_pos (show i < (cpS S p i).1.2.2 from hn)] at hl
      by_cases hp : S.2 5 i = p
      · have g6 : getI m 4 6 (ad 4 i) = some (S.2 11 i) := by rw [hb.t6 hn, cpS_at S p i 11 (Nat.le_refl i)]
        have h01 : S.2 11 i = 0 ∨ S.2 11 i = 1 := (hI.2.2.2.1 i hn).2.2.2.2.2.2.1
        have b1 := hb.setN (k := 7) (v := S.2 11 i) hn (by decide)
        have g5 := b1.t5 hn
        rw [upS_ne _ _ (by omega), cpS_at S p i 10 (Nat.le_refl i)] at g5
        have b2 := b1.setN (k := 9) (v := S.2 10 i) hn (by decide)
        have g4 := b2.t4 hn
        rw [upS_ne _ _ (by omega), upS_ne _ _ (by omega), cpS_at S p i 9 (Nat.le_refl i)] at g4
        have b3 := b2.setN (k := 8) (v := S.2 9 i) hn (by decide)
        have b4 := b3.setN (k := 10) (v := 0) hn (by decide)
        refine ⟨sI (sI (sI (sI m 4 7 (ad 4 i) (S.2 11 i)) 4 9 (ad 4 i) (S.2 10 i)) 4 8 (ad 4 i) (S.2 9 i)) 4 10 (ad 4 i) 0, ⟨?_, hf.trans ((hb.fN hn).trans ((b1.fN hn).trans ((b2.fN hn).trans (b3.fN hn))))⟩, ?_⟩
        · rw [cpS_step S p ⟨hn, hp⟩]
          exact b4
        · simp only [f_X4_bringCopyUpToDate_L2, hb.q2, obs, hb.n2, if_neg (nI_ge hi (by decide)), hl, onl_s, g0, if_pos hp, hb.chN hn, f_X2_enterCopy, g6, hb.zN hn h01, g5, b1.pN hn, g4, b2.pN hn, b3.zN hn (Or.inl rfl), bi2_s]
      · refine ⟨m, ⟨by rw [cpS_skip S p (fun z => hp z.2)]; exact hb, hf⟩, ?_⟩
        simp only [f_X4_bringCopyUpToDate_L2, hb.q2, obs, hb.n2, if_neg (nI_ge hi (by decide)), hl, onl_s, g0, if_neg hp]
    · rw [if_neg (show ¬ i < (cpS S p i).1.2.2 from hn)] at hl
      refine ⟨m, ⟨by rw [cpS_skip S p (fun z => hn z.1)]; exact hb, hf⟩, ?_⟩
      simp only [f_X4_bringCopyUpToDate_L2, hb.q2, obs, hb.n2, if_neg (nI_ge hi (by decide)), hl, onl_n]
  have fin : ∀ n m, (BP m x ad (cpS S p 120) ∧ FR 0 μ m) → f_X4_bringCopyUpToDate_L2 x p (fun z _ => some ((), z)) (n + 1) m (nI 120) = some ((), m) := by
    intro n m hJ
    simp only [f_X4_bringCopyUpToDate_L2, hJ.1.q2, obs, hJ.1.n2, if_pos (nI_le (Nat.le_refl 120) (by decide))]
  obtain ⟨m, ⟨h1, h2⟩, e⟩ := lp_inv (F := fun n m i => f_X4_bringCopyUpToDate_L2 x p (fun z _ => some ((), z)) n m i) (k := fun m => some ((), m)) (J := fun i m => BP m x ad (cpS S p i) ∧ FR 0 μ m) (N := 120) step fin (m := 200) (by decide) (μ := μ) ⟨by rw [cpS_0]; exact h, FR.refl 0 μ⟩
  exact ⟨m, e, h1, h2⟩
end P39e
