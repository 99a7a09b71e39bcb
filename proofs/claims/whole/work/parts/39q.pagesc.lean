/-! makePages of the class -/
theorem nI_1a (a : Nat) : 1 + nI a = nI (1 + a) := nI_add 1 a
theorem nI_m (a : Nat) : nI (a + 1) + -1 = nI a := by rw [Int32.add_neg_eq_sub, nI_pred]
section P39q
variable {μ μ' ν : Mem} {x y : Nat} {ad : Nat → Nat → Nat} {am : Nat → Nat} {S : SS}
/-- places of a block -/
def plB (S : SS) (p : Nat) (k : Nat) : Nat := pl0 S p ((B9 S p S.1.2.1).2.1 k) ((B9 S p S.1.2.1).2.2 k)
theorem pg9_ok (hI : Inv S) : ∃ pg : Nat, pg ≤ 60 ∧ S.2 16 0 = nI pg := by
  obtain ⟨⟨h1, h2⟩, -⟩ := hI.2.2.2.2
  obtain ⟨t, ht, et⟩ := nI_of (x := S.2 16 0) (by rw [Int32.lt_iff_toInt_lt, Int32.toInt_zero]; omega)
  rw [et, nI_toInt ht] at h2
  exact ⟨t, by omega, et⟩
theorem plB_le (hI : Inv S) (p k : Nat) : plB S p k ≤ 120 := by
  unfold plB pl0
  split
  · exact Nat.le_trans (cnt_le _ _) hI.1.2.2
  · decide
theorem CB.sR3 {p : Nat} {B : Nat × (Nat → Nat) × (Nat → Nat)} (h : CB μ x ad S p B) {k a i : Nat} {v : Int32} (hk : 16 ≤ k) : CB (sR μ k a i v) x ad S p B := by
  obtain ⟨h1, h2, h3, h4, h5⟩ := h
  have hz : ∀ k' a' j, k' < 16 → mR (sR μ k a i v) k' a' j = mR μ k' a' j := fun k' a' j z => mR_sR_k (by omega)
  refine ⟨h1, h2, h3, h4, fun j hj => ?_⟩
  rw [hz 10 _ j (by decide), hz 11 _ j (by decide), hz 12 _ j (by decide), hz 13 _ j (by decide), hz 14 _ j (by decide), hz 15 _ j (by decide)]
  exact h5 j hj
/-- of the blocks behind k what T says, of k what a says -/
def PB (m : Mem) (x : Nat) (ad : Nat → Nat → Nat) (S : SS) (p k : Nat) (T : Nat → Nat × Nat × Nat) (a : Nat × Nat × Nat) : Prop :=
  CB m x ad S p (B9 S p S.1.2.1) ∧ (∀ j, k < j → j ≤ (B9 S p S.1.2.1).1 → mR m 16 (ad 1 6) j = nI (T j).1 ∧ mR m 17 (ad 1 7) j = nI (T j).2.1 ∧ (j < (B9 S p S.1.2.1).1 → mR m 18 (ad 1 8) j = nI (T j).2.2)) ∧
  (a.2.2 = 0 → mR m 16 (ad 1 6) k = 2147483647 ∧ mR m 17 (ad 1 7) k = 0) ∧ (a.2.2 ≠ 0 → mR m 16 (ad 1 6) k = nI a.1 ∧ mR m 17 (ad 1 7) k = nI a.2.1 ∧ mR m 18 (ad 1 8) k = nI a.2.2)
theorem PB.put {m : Mem} {p k : Nat} {T : Nat → Nat × Nat × Nat} {a : Nat × Nat × Nat} (h : PB m x ad S p k T a) (hh c e : Nat) (he : e ≠ 0) : PB (sR (sR (sR m 16 (ad 1 6) k (nI hh)) 17 (ad 1 7) k (nI c)) 18 (ad 1 8) k (nI e)) x ad S p k T (hh, c, e) := by
  obtain ⟨h1, h2, -⟩ := h
  refine ⟨((h1.sR3 (by decide)).sR3 (by decide)).sR3 (by decide), fun j hj hn => ?_, fun z => absurd z he, fun _ => ⟨?_, ?_, ?_⟩⟩
  · have ej : j ≠ k := by omega
    have hz : ∀ k' a', mR (sR (sR (sR m 16 (ad 1 6) k (nI hh)) 17 (ad 1 7) k (nI c)) 18 (ad 1 8) k (nI e)) k' a' j = mR m k' a' j := fun k' a' => (mR_sR_i ej).trans ((mR_sR_i ej).trans (mR_sR_i ej))
    rw [hz, hz, hz]
    exact h2 j hj hn
  · exact (mR_sR_k (by decide)).trans ((mR_sR_k (by decide)).trans mR_sR_h)
  · exact (mR_sR_k (by decide)).trans mR_sR_h
  · exact mR_sR_h
theorem PB.f3 {m : Mem} {p k : Nat} {T : Nat → Nat × Nat × Nat} {a : Nat × Nat × Nat} (h : PB m x ad S p k T a) (u v w : Int32) : FR 0 m (sR (sR (sR m 16 (ad 1 6) k u) 17 (ad 1 7) k v) 18 (ad 1 8) k w) := by
  have h1 := h.1.1
  have b1 : BP (sR m 16 (ad 1 6) k u) x ad S := h1
  have b2 : BP (sR (sR m 16 (ad 1 6) k u) 17 (ad 1 7) k v) x ad S := h1
  exact (h1.fkR (k := 6) (by decide)).trans ((b1.fkR (k := 7) (by decide)).trans (b2.fkR (k := 8) (by decide)))
theorem c_in {m : Mem} {p k l tk pg q d : Nat} {T : Nat → Nat × Nat × Nat} {a : Nat × Nat × Nat} (h : PB m x ad S p k T a) (hI : Inv S) (hkl : k ≤ l) (hl : l < (B9 S p S.1.2.1).1) (hpg : pg ≤ 60) (epg : S.2 16 0 = nI pg) (htk : tk ≤ 120 * l) (hT : TO (B9 S p S.1.2.1).1 k T) (ha : AO (B9 S p S.1.2.1).1 k T a) (K : Mem → Int32 → Int32 → Option (Unit × Mem)) :
    ((pg < tk + plB S p l ∧ k < l) → f_X1_makePageFrom_L6 (ad 0 3) (nI k) K (q + 1) m (nI tk) (nI (l + 1)) = some ((), m)) ∧ (¬ (pg < tk + plB S p l ∧ k < l) → ∃ m', f_X1_makePageFrom_L6 (ad 0 3) (nI k) K (q + 1) m (nI tk) (nI (l + 1)) = f_X1_makePageFrom_L6 (ad 0 3) (nI k) K q m' (nI (tk + plB S p l)) (nI (l + 1 + 1)) ∧ PB m' x ad S p k T (up9 (tu9 S p) T l a) ∧ FR 0 m m') := by
  obtain ⟨n1, n2⟩ := B9_ok hI p
  have hpl := plB_le hI p l
  have htu := tu9_le S p l
  obtain ⟨t1, t2, -, -⟩ := hT (l + 1) (by omega) (by omega)
  have h1 := h.1.1
  have g9 : getI m 3 9 (ad 0 3) = some (nI (B9 S p S.1.2.1).1) := by rw [h1.ki, h.1.2.1]
  have g10 : getI m 3 10 (ad 0 3) = some (nI pg) := by rw [h1.ki, h.1.2.2.1, epg]
  have gp : ald m (ad 1 2) (nI l) = some (nI (plB S p l)) := (h1.ka (k := 2) (by decide) (by decide) (by omega)).trans (congrArg some (h.1.2.2.2.2 l hl).2.2.1)
  have gt := c_turn h.1 hI hl
  have gh : ald m (ad 1 6) (nI (l + 1)) = some (nI (T (l + 1)).1) := (h1.ka (k := 6) (by decide) (by decide) (by omega)).trans (congrArg some (h.2.1 (l + 1) (by omega) (by omega)).1)
  have gc : ald m (ad 1 7) (nI (l + 1)) = some (nI (T (l + 1)).2.1) := (h1.ka (k := 7) (by decide) (by decide) (by omega)).trans (congrArg some (h.2.1 (l + 1) (by omega) (by omega)).2.1)
  have gk : ald m (ad 1 6) (nI k) = some (mR m 16 (ad 1 6) k) := h1.ka (k := 6) (by decide) (by decide) (by omega)
  have gk7 : ald m (ad 1 7) (nI k) = some (mR m 17 (ad 1 7) k) := h1.ka (k := 7) (by decide) (by decide) (by omega)
  have hlt : ¬ nI (B9 S p S.1.2.1).1 < nI (l + 1) := nI_nlt (by omega) (by omega)
  have b1 : BP (sR m 16 (ad 1 6) k (nI (tu9 S p l + (T (l + 1)).1))) x ad S := h1
  have b2 : BP (sR (sR m 16 (ad 1 6) k (nI (tu9 S p l + (T (l + 1)).1))) 17 (ad 1 7) k (nI (1 + (T (l + 1)).2.1))) x ad S := h1
  have w1 : ast m (ad 1 6) (nI k) (nI (tu9 S p l + (T (l + 1)).1)) = some (sR m 16 (ad 1 6) k (nI (tu9 S p l + (T (l + 1)).1))) := h1.kw (k := 6) (by decide) (by decide) (by omega)
  have w2 : ast (sR m 16 (ad 1 6) k (nI (tu9 S p l + (T (l + 1)).1))) (ad 1 7) (nI k) (nI (1 + (T (l + 1)).2.1)) = some (sR (sR m 16 (ad 1 6) k (nI (tu9 S p l + (T (l + 1)).1))) 17 (ad 1 7) k (nI (1 + (T (l + 1)).2.1))) := b1.kw (k := 7) (by decide) (by decide) (by omega)
  have w3 : ast (sR (sR m 16 (ad 1 6) k (nI (tu9 S p l + (T (l + 1)).1))) 17 (ad 1 7) k (nI (1 + (T (l + 1)).2.1))) (ad 1 8) (nI k) (nI (l + 1)) = some (sR (sR (sR m 16 (ad 1 6) k (nI (tu9 S p l + (T (l + 1)).1))) 17 (ad 1 7) k (nI (1 + (T (l + 1)).2.1))) 18 (ad 1 8) k (nI (l + 1))) := b2.kw (k := 8) (by decide) (by decide) (by omega)
  have hput := h.put (tu9 S p l + (T (l + 1)).1) (1 + (T (l + 1)).2.1) (l + 1) (Nat.succ_ne_zero l)
  have hf := h.f3 (nI (tu9 S p l + (T (l + 1)).1)) (nI (1 + (T (l + 1)).2.1)) (nI (l + 1))
  constructor
  · intro hs
    simp only [f_X1_makePageFrom_L6, g9, obs, if_neg hlt, h1.kq2, nI_pred, gp, g10, nI_add, if_neg (nI_ge hs.1 (by omega)), nI_1, if_neg (nI_ge (show k + 1 < l + 1 by omega) (by omega))]
  · intro hs
    by_cases c1 : a.2.2 = 0 ∨ tu9 S p l + (T (l + 1)).1 < a.1
    · have hv : nI (tu9 S p l + (T (l + 1)).1) < mR m 16 (ad 1 6) k := by
        by_cases c0 : a.2.2 = 0
        · rw [(h.2.2.1 c0).1]
          exact nI_lt (b := 2147483647) (by omega) (by decide)
        · rcases ha with z | ⟨z, -⟩
          · exact absurd z c0
          · rw [(h.2.2.2 c0).1]
            rcases c1 with w | w
            · exact absurd w c0
            · exact nI_lt w (by omega)
      have eu : up9 (tu9 S p) T l a = (tu9 S p l + (T (l + 1)).1, 1 + (T (l + 1)).2.1, l + 1) := by
        refine if_pos ?_
        rcases c1 with w | w
        · exact Or.inl w
        · exact Or.inr (Or.inl w)
      refine ⟨_, ?_, by rw [eu]; exact hput, hf⟩
      by_cases hA : tk + plB S p l ≤ pg
      · skip
        simp only [f_X1_makePageFrom_L6, g9, obs, if_neg hlt, h1.kq2, nI_pred, gp, g10, nI_add, nI_1, nI_1a, if_pos (nI_le hA (by omega)), h1.kc, gt, h1.kq6, gh, h1.kq7, gc, gk, gk7, if_pos hv, w1, b1.kq7, w2, b2.kq8, w3]
      · skip
        simp only [f_X1_makePageFrom_L6, g9, obs, if_neg hlt, h1.kq2, nI_pred, gp, g10, nI_add, nI_1, nI_1a, if_neg (nI_ge (show pg < tk + plB S p l by omega) (by omega)), if_pos (nI_le (show l + 1 ≤ k + 1 by omega) (by omega)), h1.kc, gt, h1.kq6, gh, h1.kq7, gc, gk, gk7, if_pos hv, w1, b1.kq7, w2, b2.kq8, w3]
    · have c0 : a.2.2 ≠ 0 := fun z => c1 (Or.inl z)
      have c2 : ¬ tu9 S p l + (T (l + 1)).1 < a.1 := fun z => c1 (Or.inr z)
      obtain ⟨v1, v2, v3⟩ := h.2.2.2 c0
      obtain ⟨a1, a2, a3, a4, a5⟩ : a.1 ≤ (B9 S p S.1.2.1).1 - k ∧ a.2.1 ≤ (B9 S p S.1.2.1).1 - k ∧ k < a.2.2 ∧ a.2.2 ≤ (B9 S p S.1.2.1).1 ∧ a.2.1 = 1 + (T a.2.2).2.1 := by
        rcases ha with z | z
        · exact absurd z c0
        · exact z
      have hv : ¬ nI (tu9 S p l + (T (l + 1)).1) < nI a.1 := nI_nlt (Nat.le_of_not_lt c2) (by omega)
      rw [v1] at gk
      rw [v2] at gk7
      by_cases c3 : tu9 S p l + (T (l + 1)).1 = a.1
      · have he : nI (tu9 S p l + (T (l + 1)).1) = nI a.1 := congrArg nI c3
        by_cases c4 : 1 + (T (l + 1)).2.1 ≤ a.2.1
        · have eu : up9 (tu9 S p) T l a = (tu9 S p l + (T (l + 1)).1, 1 + (T (l + 1)).2.1, l + 1) := if_pos (Or.inr (Or.inr ⟨c3, c4⟩))
          refine ⟨_, ?_, by rw [eu]; exact hput, hf⟩
          by_cases hA : tk + plB S p l ≤ pg
          · skip
            simp only [f_X1_makePageFrom_L6, g9, obs, if_neg hlt, h1.kq2, nI_pred, gp, g10, nI_add, nI_1, nI_1a, if_pos (nI_le hA (by omega)), h1.kc, gt, h1.kq6, gh, h1.kq7, gc, gk, gk7, if_neg hv, if_pos he, if_neg (nI_nlt c4 (by omega)), w1, b1.kq7, w2, b2.kq8, w3]
          · skip
            simp only [f_X1_makePageFrom_L6, g9, obs, if_neg hlt, h1.kq2, nI_pred, gp, g10, nI_add, nI_1, nI_1a, if_neg (nI_ge (show pg < tk + plB S p l by omega) (by omega)), if_pos (nI_le (show l + 1 ≤ k + 1 by omega) (by omega)), h1.kc, gt, h1.kq6, gh, h1.kq7, gc, gk, gk7, if_neg hv, if_pos he, if_neg (nI_nlt c4 (by omega)), w1, b1.kq7, w2, b2.kq8, w3]
        · have eu : up9 (tu9 S p) T l a = a := if_neg (fun z => by omega)
          refine ⟨m, ?_, by rw [eu]; exact h, FR.refl 0 m⟩
          by_cases hA : tk + plB S p l ≤ pg
          · skip
            simp only [f_X1_makePageFrom_L6, g9, obs, if_neg hlt, h1.kq2, nI_pred, gp, g10, nI_add, nI_1, nI_1a, if_pos (nI_le hA (by omega)), h1.kc, gt, h1.kq6, gh, h1.kq7, gc, gk, gk7, if_neg hv, if_pos he, if_pos (nI_lt (show a.2.1 < 1 + (T (l + 1)).2.1 by omega) (by omega))]
          · skip
            simp only [f_X1_makePageFrom_L6, g9, obs, if_neg hlt, h1.kq2, nI_pred, gp, g10, nI_add, nI_1, nI_1a, if_neg (nI_ge (show pg < tk + plB S p l by omega) (by omega)), if_pos (nI_le (show l + 1 ≤ k + 1 by omega) (by omega)), h1.kc, gt, h1.kq6, gh, h1.kq7, gc, gk, gk7, if_neg hv, if_pos he, if_pos (nI_lt (show a.2.1 < 1 + (T (l + 1)).2.1 by omega) (by omega))]
      · have he : ¬ nI (tu9 S p l + (T (l + 1)).1) = nI a.1 := fun z => c3 ((nI_eq (by omega) (by omega)).mp z)
        have eu : up9 (tu9 S p) T l a = a := if_neg (fun z => by omega)
        refine ⟨m, ?_, by rw [eu]; exact h, FR.refl 0 m⟩
        by_cases hA : tk + plB S p l ≤ pg
        · skip
          simp only [f_X1_makePageFrom_L6, g9, obs, if_neg hlt, h1.kq2, nI_pred, gp, g10, nI_add, nI_1, nI_1a, if_pos (nI_le hA (by omega)), h1.kc, gt, h1.kq6, gh, h1.kq7, gc, gk, gk7, if_neg hv, if_neg he]
        · skip
          simp only [f_X1_makePageFrom_L6, g9, obs, if_neg hlt, h1.kq2, nI_pred, gp, g10, nI_add, nI_1, nI_1a, if_neg (nI_ge (show pg < tk + plB S p l by omega) (by omega)), if_pos (nI_le (show l + 1 ≤ k + 1 by omega) (by omega)), h1.kc, gt, h1.kq6, gh, h1.kq7, gc, gk, gk7, if_neg hv, if_neg he]
theorem c_inAll (hI : Inv S) {p k pg : Nat} {T : Nat → Nat × Nat × Nat} (hpg : pg ≤ 60) (epg : S.2 16 0 = nI pg) (hT : TO (B9 S p S.1.2.1).1 k T) : ∀ (d l tk q : Nat) (a : Nat × Nat × Nat) (m : Mem), l + d = (B9 S p S.1.2.1).1 → k ≤ l → tk ≤ 120 * l → d < q → PB m x ad S p k T a → AO (B9 S p S.1.2.1).1 k T a →
    ∃ m', f_X1_makePageFrom_L6 (ad 0 3) (nI k) (fun z _ _ => some ((), z)) q m (nI tk) (nI (l + 1)) = some ((), m') ∧ PB m' x ad S p k T (in9 (tu9 S p) (plB S p) pg T k d l tk a) ∧ FR 0 m m' := by
  obtain ⟨n1, n2⟩ := B9_ok hI p
  intro d
  induction d with
  | zero =>
    intro l tk q a m hl hk htk hq h ha
    obtain ⟨q, rfl⟩ : ∃ q', q = q' + 1 := ⟨q - 1, by omega⟩
    have g9 : getI m 3 9 (ad 0 3) = some (nI (B9 S p S.1.2.1).1) := by rw [h.1.1.ki, h.1.2.1]
    refine ⟨m, ?_, h, FR.refl 0 m⟩
    simp only [f_X1_makePageFrom_L6, g9, obs, if_pos (nI_lt (show (B9 S p S.1.2.1).1 < l + 1 by omega) (by omega))]
  | succ d ih =>
    intro l tk q a m hl hk htk hq h ha
    obtain ⟨q, rfl⟩ : ∃ q', q = q' + 1 := ⟨q - 1, by omega⟩
    have hpl := plB_le hI p l
    obtain ⟨s1, s2⟩ := c_in (q := q) (d := d) h hI hk (by omega) hpg epg htk hT ha (fun z _ _ => some ((), z))
    by_cases hs : pg < tk + plB S p l ∧ k < l
    · exact ⟨m, s1 hs, by rw [in9_stop hs]; exact h, FR.refl 0 m⟩
    · obtain ⟨m', e, h', f'⟩ := s2 hs
      obtain ⟨m2, e2, h2, f2⟩ := ih (l + 1) (tk + plB S p l) q _ m' (by omega) (by omega) (by omega) (by omega) h' (up9_ok (tu9_le S p) hT hk (by omega) ha).1
      exact ⟨m2, e.trans e2, by rw [in9_go hs]; exact h2, f'.trans f2⟩
/-- the table from the block n - d on -/
def TB (m : Mem) (x : Nat) (ad : Nat → Nat → Nat) (S : SS) (p d : Nat) (T : Nat → Nat × Nat × Nat) : Prop :=
  CB m x ad S p (B9 S p S.1.2.1) ∧ ∀ j, (B9 S p S.1.2.1).1 ≤ j + d → j ≤ (B9 S p S.1.2.1).1 → mR m 16 (ad 1 6) j = nI (T j).1 ∧ mR m 17 (ad 1 7) j = nI (T j).2.1 ∧ (j < (B9 S p S.1.2.1).1 → mR m 18 (ad 1 8) j = nI (T j).2.2)
def bT9 (S : SS) (p pg d : Nat) : Nat → Nat × Nat × Nat := tb9 (tu9 S p) (plB S p) pg (B9 S p S.1.2.1).1 d
theorem c_from (hI : Inv S) {p k d pg : Nat} {m : Mem} (hpg : pg ≤ 60) (epg : S.2 16 0 = nI pg) (hd : k + 1 + d = (B9 S p S.1.2.1).1) (h : TB m x ad S p d (bT9 S p pg d)) (n : Nat) :
    ∃ m', f_X1_makePages_L5 (ad 0 3) (fun z _ => some ((), z)) (n + 1) m (nI k) = f_X1_makePages_L5 (ad 0 3) (fun z _ => some ((), z)) n m' (nI k + -1) ∧ TB m' x ad S p (d + 1) (bT9 S p pg (d + 1)) ∧ FR 0 m m' := by
  obtain ⟨n1, n2⟩ := B9_ok hI p
  obtain ⟨h1, h2⟩ := h
  have hT : TO (B9 S p S.1.2.1).1 k (bT9 S p pg d) := TO_tb (tu9_le S p) hd
  have g9 : ∀ m : Mem, CB m x ad S p (B9 S p S.1.2.1) → getI m 3 9 (ad 0 3) = some (nI (B9 S p S.1.2.1).1) := fun m h => by rw [h.1.ki, h.2.1]
  have c1 : CB (sR m 16 (ad 1 6) k 2147483647) x ad S p (B9 S p S.1.2.1) := h1.sR3 (by decide)
  have c2 : CB (sR (sR m 16 (ad 1 6) k 2147483647) 17 (ad 1 7) k 0) x ad S p (B9 S p S.1.2.1) := c1.sR3 (by decide)
  have c3 : CB (sR (sR (sR m 16 (ad 1 6) k 2147483647) 17 (ad 1 7) k 0) 18 (ad 1 8) k (nI (B9 S p S.1.2.1).1)) x ad S p (B9 S p S.1.2.1) := c2.sR3 (by decide)
  have w1 : ast m (ad 1 6) (nI k) 2147483647 = some (sR m 16 (ad 1 6) k 2147483647) := h1.1.kw (k := 6) (by decide) (by decide) (by omega)
  have w2 : ast (sR m 16 (ad 1 6) k 2147483647) (ad 1 7) (nI k) 0 = some (sR (sR m 16 (ad 1 6) k 2147483647) 17 (ad 1 7) k 0) := c1.1.kw (k := 7) (by decide) (by decide) (by omega)
  have w3 : ast (sR (sR m 16 (ad 1 6) k 2147483647) 17 (ad 1 7) k 0) (ad 1 8) (nI k) (nI (B9 S p S.1.2.1).1) = some (sR (sR (sR m 16 (ad 1 6) k 2147483647) 17 (ad 1 7) k 0) 18 (ad 1 8) k (nI (B9 S p S.1.2.1).1)) := c2.1.kw (k := 8) (by decide) (by decide) (by omega)
  have f3 : FR 0 m (sR (sR (sR m 16 (ad 1 6) k 2147483647) 17 (ad 1 7) k 0) 18 (ad 1 8) k (nI (B9 S p S.1.2.1).1)) := (h1.1.fkR (k := 6) (by decide)).trans ((c1.1.fkR (k := 7) (by decide)).trans (c2.1.fkR (k := 8) (by decide)))
  have hp : PB (sR (sR (sR m 16 (ad 1 6) k 2147483647) 17 (ad 1 7) k 0) 18 (ad 1 8) k (nI (B9 S p S.1.2.1).1)) x ad S p k (bT9 S p pg d) (0, 0, 0) := by
    refine ⟨c3, fun j hj hn => ?_, fun _ => ⟨(mR_sR_k (by decide)).trans ((mR_sR_k (by decide)).trans mR_sR_h), (mR_sR_k (by decide)).trans mR_sR_h⟩, fun z => absurd rfl z⟩
    have ej : j ≠ k := by omega
    have hz : ∀ k' a', mR (sR (sR (sR m 16 (ad 1 6) k 2147483647) 17 (ad 1 7) k 0) 18 (ad 1 8) k (nI (B9 S p S.1.2.1).1)) k' a' j = mR m k' a' j := fun k' a' => (mR_sR_i ej).trans ((mR_sR_i ej).trans (mR_sR_i ej))
    rw [hz, hz, hz]
    exact h2 j (by omega) hn
  obtain ⟨m', e, h3, f4⟩ := c_inAll (x := x) (ad := ad) hI hpg epg hT (d + 1) k 0 200 (0, 0, 0) _ (by omega) (Nat.le_refl k) (Nat.zero_le _) (by omega) hp (Or.inl rfl)
  have e' : f_X1_makePageFrom (sR (sR (sR m 16 (ad 1 6) k 2147483647) 17 (ad 1 7) k 0) 18 (ad 1 8) k (nI (B9 S p S.1.2.1).1)) (ad 0 3) (nI k) = some ((), m') := by
    unfold f_X1_makePageFrom
    rw [nI_1]
    exact e
  refine ⟨m', ?_, ⟨h3.1, fun j hj hn => ?_⟩, f3.trans f4⟩
  · simp only [f_X1_makePages_L5, if_neg (nI_pos (n := k) (by omega)), h1.1.kq6, g9 _ h1, obs, if_neg (show ¬ nI k = nI (B9 S p S.1.2.1).1 from fun z => by have := (nI_eq (by omega) (by omega)).mp z; omega), w1, c1.1.kq7, w2, c2.1.kq8, g9 _ c2, w3, c3.1.kc, e', bi2_s]
  · by_cases ej : j = k
    · subst ej
      have et : bT9 S p pg (d + 1) j = in9 (tu9 S p) (plB S p) pg (bT9 S p pg d) j (d + 1) j 0 (0, 0, 0) := tb9_hit (by omega)
      obtain ⟨-, g2⟩ := in9_ok (pl := plB S p) (pg := pg) (tu9_le S p) hT (d + 1) j 0 (0, 0, 0) (by omega) (Nat.le_refl j) (Or.inl rfl) (fun _ => ⟨rfl, by omega⟩)
      obtain ⟨k1, k2, k3⟩ := h3.2.2.2 g2
      rw [et]
      exact ⟨k1, k2, fun _ => k3⟩
    · have et : bT9 S p pg (d + 1) j = bT9 S p pg d j := tb9_old (by omega)
      rw [et]
      exact h3.2.1 j (by omega) hn
theorem c_fromAll (hI : Inv S) {p pg : Nat} (hpg : pg ≤ 60) (epg : S.2 16 0 = nI pg) : ∀ (k d : Nat) (m : Mem) (q : Nat), k + 1 + d = (B9 S p S.1.2.1).1 → k + 1 < q → TB m x ad S p d (bT9 S p pg d) →
    ∃ m', f_X1_makePages_L5 (ad 0 3) (fun z _ => some ((), z)) q m (nI k) = some ((), m') ∧ TB m' x ad S p (B9 S p S.1.2.1).1 (bT9 S p pg (B9 S p S.1.2.1).1) ∧ FR 0 m m' := by
  intro k
  induction k with
  | zero =>
    intro d m q hd hq h
    obtain ⟨q, rfl⟩ : ∃ q', q = q' + 1 + 1 := ⟨q - 2, by omega⟩
    obtain ⟨m', e, h', f'⟩ := c_from hI hpg epg hd h (q + 1)
    refine ⟨m', ?_, by rw [show (B9 S p S.1.2.1).1 = d + 1 by omega]; exact h', f'⟩
    rw [e]
    simp only [f_X1_makePages_L5, if_pos (show nI 0 + -1 < 0 by decide)]
  | succ k ih =>
    intro d m q hd hq h
    obtain ⟨q, rfl⟩ : ∃ q', q = q' + 1 := ⟨q - 1, by omega⟩
    obtain ⟨m', e, h', f'⟩ := c_from hI hpg epg hd h q
    obtain ⟨m2, e2, h2, f2⟩ := ih (d + 1) m' q (by omega) (by omega) h'
    refine ⟨m2, ?_, h2, f'.trans f2⟩
    rw [e, nI_m]
    exact e2
theorem c_makePages {p : Nat} (h : CB μ x ad S p (B9 S p S.1.2.1)) (hI : Inv S) {pg : Nat} (hpg : pg ≤ 60) (epg : S.2 16 0 = nI pg) : ∃ μ', f_X1_makePages μ (ad 0 3) = some ((), μ') ∧ TB μ' x ad S p (B9 S p S.1.2.1).1 (bT9 S p pg (B9 S p S.1.2.1).1) ∧ FR 0 μ μ' := by
  obtain ⟨n1, n2⟩ := B9_ok hI p
  have g9 : ∀ m : Mem, CB m x ad S p (B9 S p S.1.2.1) → getI m 3 9 (ad 0 3) = some (nI (B9 S p S.1.2.1).1) := fun m h => by rw [h.1.ki, h.2.1]
  have c1 : CB (sR μ 16 (ad 1 6) (B9 S p S.1.2.1).1 0) x ad S p (B9 S p S.1.2.1) := h.sR3 (by decide)
  have c2 : CB (sR (sR μ 16 (ad 1 6) (B9 S p S.1.2.1).1 0) 17 (ad 1 7) (B9 S p S.1.2.1).1 0) x ad S p (B9 S p S.1.2.1) := c1.sR3 (by decide)
  have c3 : CB (sR (sR (sR μ 16 (ad 1 6) (B9 S p S.1.2.1).1 0) 17 (ad 1 7) (B9 S p S.1.2.1).1 0) 18 (ad 1 8) (B9 S p S.1.2.1).1 (nI (B9 S p S.1.2.1).1)) x ad S p (B9 S p S.1.2.1) := c2.sR3 (by decide)
  have w1 : ast μ (ad 1 6) (nI (B9 S p S.1.2.1).1) 0 = some (sR μ 16 (ad 1 6) (B9 S p S.1.2.1).1 0) := h.1.kw (k := 6) (by decide) (by decide) (by omega)
  have w2 : ast (sR μ 16 (ad 1 6) (B9 S p S.1.2.1).1 0) (ad 1 7) (nI (B9 S p S.1.2.1).1) 0 = some (sR (sR μ 16 (ad 1 6) (B9 S p S.1.2.1).1 0) 17 (ad 1 7) (B9 S p S.1.2.1).1 0) := c1.1.kw (k := 7) (by decide) (by decide) (by omega)
  have w3 : ast (sR (sR μ 16 (ad 1 6) (B9 S p S.1.2.1).1 0) 17 (ad 1 7) (B9 S p S.1.2.1).1 0) (ad 1 8) (nI (B9 S p S.1.2.1).1) (nI (B9 S p S.1.2.1).1) = some (sR (sR (sR μ 16 (ad 1 6) (B9 S p S.1.2.1).1 0) 17 (ad 1 7) (B9 S p S.1.2.1).1 0) 18 (ad 1 8) (B9 S p S.1.2.1).1 (nI (B9 S p S.1.2.1).1)) := c2.1.kw (k := 8) (by decide) (by decide) (by omega)
  have f3 : FR 0 μ (sR (sR (sR μ 16 (ad 1 6) (B9 S p S.1.2.1).1 0) 17 (ad 1 7) (B9 S p S.1.2.1).1 0) 18 (ad 1 8) (B9 S p S.1.2.1).1 (nI (B9 S p S.1.2.1).1)) := (h.1.fkR (k := 6) (by decide)).trans ((c1.1.fkR (k := 7) (by decide)).trans (c2.1.fkR (k := 8) (by decide)))
  have hT : TB (sR (sR (sR μ 16 (ad 1 6) (B9 S p S.1.2.1).1 0) 17 (ad 1 7) (B9 S p S.1.2.1).1 0) 18 (ad 1 8) (B9 S p S.1.2.1).1 (nI (B9 S p S.1.2.1).1)) x ad S p 0 (bT9 S p pg 0) := by
    refine ⟨c3, fun j h1 h2 => ?_⟩
    have ej : j = (B9 S p S.1.2.1).1 := by omega
    subst ej
    exact ⟨(mR_sR_k (by decide)).trans ((mR_sR_k (by decide)).trans mR_sR_h), (mR_sR_k (by decide)).trans mR_sR_h, fun z => absurd z (Nat.lt_irrefl _)⟩
  have e' : f_X1_makePageFrom (sR (sR (sR μ 16 (ad 1 6) (B9 S p S.1.2.1).1 0) 17 (ad 1 7) (B9 S p S.1.2.1).1 0) 18 (ad 1 8) (B9 S p S.1.2.1).1 (nI (B9 S p S.1.2.1).1)) (ad 0 3) (nI (B9 S p S.1.2.1).1) = some ((), sR (sR (sR μ 16 (ad 1 6) (B9 S p S.1.2.1).1 0) 17 (ad 1 7) (B9 S p S.1.2.1).1 0) 18 (ad 1 8) (B9 S p S.1.2.1).1 (nI (B9 S p S.1.2.1).1)) := by
    have g : ∀ q, f_X1_makePageFrom_L6 (ad 0 3) (nI (B9 S p S.1.2.1).1) (fun z _ _ => some ((), z)) (q + 1) (sR (sR (sR μ 16 (ad 1 6) (B9 S p S.1.2.1).1 0) 17 (ad 1 7) (B9 S p S.1.2.1).1 0) 18 (ad 1 8) (B9 S p S.1.2.1).1 (nI (B9 S p S.1.2.1).1)) 0 (nI (B9 S p S.1.2.1).1 + 1) = some ((), (sR (sR (sR μ 16 (ad 1 6) (B9 S p S.1.2.1).1 0) 17 (ad 1 7) (B9 S p S.1.2.1).1 0) 18 (ad 1 8) (B9 S p S.1.2.1).1 (nI (B9 S p S.1.2.1).1))) := by
      intro q
      simp only [f_X1_makePageFrom_L6, g9 _ c3, obs, nI_1, if_pos (nI_lt (Nat.lt_succ_self (B9 S p S.1.2.1).1) (by omega))]
    exact g 199
  have e1 : f_X1_makePages μ (ad 0 3) = f_X1_makePages_L5 (ad 0 3) (fun z _ => some ((), z)) 199 (sR (sR (sR μ 16 (ad 1 6) (B9 S p S.1.2.1).1 0) 17 (ad 1 7) (B9 S p S.1.2.1).1 0) 18 (ad 1 8) (B9 S p S.1.2.1).1 (nI (B9 S p S.1.2.1).1)) (nI (B9 S p S.1.2.1).1 + -1) := by
    unfold f_X1_makePages
    rw [g9 _ h, obs]
    have g : ∀ q, f_X1_makePages_L5 (ad 0 3) (fun z _ => some ((), z)) (q + 1) μ (nI (B9 S p S.1.2.1).1) = f_X1_makePages_L5 (ad 0 3) (fun z _ => some ((), z)) q (sR (sR (sR μ 16 (ad 1 6) (B9 S p S.1.2.1).1 0) 17 (ad 1 7) (B9 S p S.1.2.1).1 0) 18 (ad 1 8) (B9 S p S.1.2.1).1 (nI (B9 S p S.1.2.1).1)) (nI (B9 S p S.1.2.1).1 + -1) := by
      intro q
      simp only [f_X1_makePages_L5, if_neg (nI_pos (n := (B9 S p S.1.2.1).1) (by omega)), h.1.kq6, g9 _ h, obs, if_pos, w1, c1.1.kq7, w2, c2.1.kq8, g9 _ c2, w3, c3.1.kc, e', bi2_s]
    exact g 199
  by_cases h0 : (B9 S p S.1.2.1).1 = 0
  · refine ⟨_, ?_, by rw [h0] at hT ⊢; exact hT, f3⟩
    rw [e1]
    have g : ∀ q m, f_X1_makePages_L5 (ad 0 3) (fun z _ => some ((), z)) (q + 1) m (nI (B9 S p S.1.2.1).1 + -1) = some ((), m) := by
      intro q m
      simp only [f_X1_makePages_L5, if_pos (show nI (B9 S p S.1.2.1).1 + -1 < 0 by rw [h0]; decide)]
    exact g 198 _
  · obtain ⟨k, hk⟩ : ∃ k, (B9 S p S.1.2.1).1 = k + 1 := ⟨(B9 S p S.1.2.1).1 - 1, by omega⟩
    obtain ⟨m', e, h', f'⟩ := c_fromAll hI hpg epg k 0 _ 199 (by omega) (by omega) hT
    refine ⟨m', ?_, h', f3.trans f'⟩
    rw [e1, show nI (B9 S p S.1.2.1).1 + -1 = nI k by rw [hk, nI_m]]
    exact e
end P39q
