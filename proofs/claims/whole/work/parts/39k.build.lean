/-! makeBlocks of the class -/
section P39k
variable {μ μ' ν : Mem} {x y : Nat} {ad : Nat → Nat → Nat} {am : Nat → Nat} {S : SS}
/-- the class's blocks after the bars below b -/
def CB (μ : Mem) (x : Nat) (ad : Nat → Nat → Nat) (S : SS) (p : Nat) (B : Nat × (Nat → Nat) × (Nat → Nat)) : Prop :=
  BP μ x ad S ∧ mI μ 3 9 (ad 0 3) = nI B.1 ∧ mI μ 3 10 (ad 0 3) = S.2 16 0 ∧ mI μ 3 11 (ad 0 3) = S.2 16 1 ∧
  ∀ k, k < B.1 → mR μ 10 (ad 1 0) k = nI (B.2.1 k) ∧ mR μ 11 (ad 1 1) k = nI (bn9 (B.2.2 k)) ∧ mR μ 12 (ad 1 2) k = nI (pl0 S p (B.2.1 k) (B.2.2 k)) ∧ mR μ 13 (ad 1 3) k = qs0 S p (B.2.1 k) (B.2.2 k) ∧ mR μ 14 (ad 1 4) k = qe0 S p (B.2.1 k) (B.2.2 k) ∧ mR μ 15 (ad 1 5) k = if B.2.2 k = 0 then 0 else 1
theorem tk9_1 (S : SS) (a : Nat) : tk9 S a 1 = S.2 2 a * 4 := by
  show (0 : Int32) + S.2 2 (a + 0) * 4 = _
  rw [Int32.zero_add, Nat.add_zero]
/-- one more block -/
theorem CB.new {p b r : Nat} {B : Nat × (Nat → Nat) × (Nat → Nat)} (h : CB μ x ad S p B) {pc ta tb z : Int32} (e1 : pc = nI (pl0 S p b r)) (e2 : ta = qs0 S p b r) (e3 : tb = qe0 S p b r) (e4 : z = if r = 0 then 0 else 1) (e5 : bn9 r = 1) : CB (aB9 μ (ad 0 3) (ad 1) B.1 (nI b) pc ta tb z) x ad S p (B.1 + 1, (fun k => if k = B.1 then b else B.2.1 k), fun k => if k = B.1 then r else B.2.2 k) := by
  obtain ⟨h1, h2, h3, h4, h5⟩ := h
  refine ⟨h1.aB, (aB9_I _ _ _ _ _ _ _ _ _ 9).trans (if_pos rfl), ((aB9_I _ _ _ _ _ _ _ _ _ 10).trans (if_neg (by decide))).trans h3, ((aB9_I _ _ _ _ _ _ _ _ _ 11).trans (if_neg (by decide))).trans h4, fun k hk => ?_⟩
  obtain ⟨g0, g1, g2, g3, g4, g5⟩ := aB9_R μ (ad 0 3) (ad 1) B.1 (nI b) pc ta tb z k
  rw [g0, g1, g2, g3, g4, g5]
  have hk : k < B.1 + 1 := hk
  by_cases e : k = B.1
  · simp only [if_pos e]
    exact ⟨trivial, by rw [e5]; rfl, e1, e2, e3, e4⟩
  · simp only [if_neg e]
    exact h5 k (by omega)
/-- a long rest goes on -/
theorem c_ext {p b : Nat} {B : Nat × (Nat → Nat) × (Nat → Nat)} (h : CB μ x ad S p B) (h14 : B.1 ≤ 14) (h0 : 0 < B.1) (hr : 0 < B.2.2 (B.1 - 1)) (hb : B.2.1 (B.1 - 1) + bn9 (B.2.2 (B.1 - 1)) = b) : ∃ μ', f_X1_addEmptyBar μ (ad 0 3) (nI b) (S.2 2 b * 4) 0 = some ((), μ') ∧ CB μ' x ad S p (B.1, B.2.1, fun k => if k = B.1 - 1 then B.2.2 k + 1 else B.2.2 k) ∧ FR 0 μ μ' := by
  obtain ⟨h1, h2, h3, h4, h5⟩ := h
  obtain ⟨c, hc⟩ : ∃ c, B.1 = c + 1 := ⟨B.1 - 1, by omega⟩
  rw [hc, Nat.add_sub_cancel] at hr hb
  rw [hc, Nat.add_sub_cancel]
  rw [hc] at h2 h5
  have hne : ¬ B.2.2 c = 0 := by omega
  obtain ⟨g0, g1, g2, g3, g4, g5⟩ := h5 c (Nat.lt_succ_self c)
  have ebn : bn9 (B.2.2 c) = B.2.2 c := if_neg hne
  rw [ebn] at hb g1
  rw [if_neg hne] at g5
  have eS : qs0 S p (B.2.1 c) (B.2.2 c) = tk9 S (B.2.1 c) (B.2.2 c) := if_neg hne
  have eE : qe0 S p (B.2.1 c) (B.2.2 c) = tk9 S (B.2.1 c) (B.2.2 c) := if_neg hne
  rw [eS] at g3
  rw [eE] at g4
  have etk : tk9 S (B.2.1 c) (B.2.2 c) + S.2 2 b * 4 = tk9 S (B.2.1 c) (B.2.2 c + 1) := by rw [← hb]; rfl
  have b1 : BP (sR μ 11 (ad 1 1) c (nI (B.2.2 c + 1))) x ad S := h1
  have b2 : BP (sR (sR μ 11 (ad 1 1) c (nI (B.2.2 c + 1))) 13 (ad 1 3) c (tk9 S (B.2.1 c) (B.2.2 c + 1))) x ad S := h1
  have b3 : BP (sR (sR (sR μ 11 (ad 1 1) c (nI (B.2.2 c + 1))) 13 (ad 1 3) c (tk9 S (B.2.1 c) (B.2.2 c + 1))) 14 (ad 1 4) c (tk9 S (B.2.1 c) (B.2.2 c + 1))) x ad S := h1
  have hz : zld μ (ad 1 5) (nI c) = some 1 := by rw [h1.kz (by omega), g5]
  have ha : ald μ (ad 1 1) (nI c) = some (nI (B.2.2 c)) := (h1.ka (k := 1) (by decide) (by decide) (by omega)).trans (congrArg some g1)
  have hw : ast μ (ad 1 1) (nI c) (nI (B.2.2 c + 1)) = some (sR μ 11 (ad 1 1) c (nI (B.2.2 c + 1))) := h1.kw (k := 1) (by decide) (by decide) (by omega)
  have ha3 : ald (sR μ 11 (ad 1 1) c (nI (B.2.2 c + 1))) (ad 1 3) (nI c) = some (tk9 S (B.2.1 c) (B.2.2 c)) := (b1.ka (k := 3) (by decide) (by decide) (by omega)).trans (congrArg some ((mR_sR_k (by decide)).trans g3))
  have hw3 : ast (sR μ 11 (ad 1 1) c (nI (B.2.2 c + 1))) (ad 1 3) (nI c) (tk9 S (B.2.1 c) (B.2.2 c + 1)) = some (sR (sR μ 11 (ad 1 1) c (nI (B.2.2 c + 1))) 13 (ad 1 3) c (tk9 S (B.2.1 c) (B.2.2 c + 1))) := b1.kw (k := 3) (by decide) (by decide) (by omega)
  have ha4 : ald (sR (sR μ 11 (ad 1 1) c (nI (B.2.2 c + 1))) 13 (ad 1 3) c (tk9 S (B.2.1 c) (B.2.2 c + 1))) (ad 1 4) (nI c) = some (tk9 S (B.2.1 c) (B.2.2 c)) := (b2.ka (k := 4) (by decide) (by decide) (by omega)).trans (congrArg some ((mR_sR_k (by decide)).trans ((mR_sR_k (by decide)).trans g4)))
  have hw4 : ast (sR (sR μ 11 (ad 1 1) c (nI (B.2.2 c + 1))) 13 (ad 1 3) c (tk9 S (B.2.1 c) (B.2.2 c + 1))) (ad 1 4) (nI c) (tk9 S (B.2.1 c) (B.2.2 c + 1)) = some (sR (sR (sR μ 11 (ad 1 1) c (nI (B.2.2 c + 1))) 13 (ad 1 3) c (tk9 S (B.2.1 c) (B.2.2 c + 1))) 14 (ad 1 4) c (tk9 S (B.2.1 c) (B.2.2 c + 1))) := b2.kw (k := 4) (by decide) (by decide) (by omega)
  refine ⟨_, ?_, ⟨b3, h2, h3, h4, fun k hk => ?_⟩, (h1.fkR (k := 1) (by decide)).trans ((b1.fkR (k := 3) (by decide)).trans (b2.fkR (k := 4) (by decide)))⟩
  · simp only [f_X1_addEmptyBar, h1.ki, h2, obs, ift, h1.kc, nI_pred, c_isBlock h1 (by omega) h2 (Nat.lt_succ_self c), if1, h1.kq5, hz, h1.kq1, ha, nI_1, hw, b1.kq3, ha3, etk, hw3, b2.kq4, ha4, hw4]
  · by_cases e : k = c
    · subst e
      simp only [if_pos]
      rw [show bn9 (B.2.2 k + 1) = B.2.2 k + 1 from if_neg (by omega), show pl0 S p (B.2.1 k) (B.2.2 k + 1) = 1 from if_neg (by omega), show qs0 S p (B.2.1 k) (B.2.2 k + 1) = tk9 S (B.2.1 k) (B.2.2 k + 1) from if_neg (by omega), show qe0 S p (B.2.1 k) (B.2.2 k + 1) = tk9 S (B.2.1 k) (B.2.2 k + 1) from if_neg (by omega), if_neg (show ¬ B.2.2 k + 1 = 0 by omega)]
      rw [show pl0 S p (B.2.1 k) (B.2.2 k) = 1 from if_neg hne] at g2
      refine ⟨?_, ?_, ?_, ?_, ?_, ?_⟩
      · exact (mR_sR_k (by decide)).trans ((mR_sR_k (by decide)).trans ((mR_sR_k (by decide)).trans g0))
      · exact (mR_sR_k (by decide)).trans ((mR_sR_k (by decide)).trans mR_sR_h)
      · exact (mR_sR_k (by decide)).trans ((mR_sR_k (by decide)).trans ((mR_sR_k (by decide)).trans g2))
      · exact (mR_sR_k (by decide)).trans mR_sR_h
      · exact mR_sR_h
      · exact (mR_sR_k (by decide)).trans ((mR_sR_k (by decide)).trans ((mR_sR_k (by decide)).trans g5))
    · simp only [if_neg e]
      have hz : ∀ k' a, mR (sR (sR (sR μ 11 (ad 1 1) c (nI (B.2.2 c + 1))) 13 (ad 1 3) c (tk9 S (B.2.1 c) (B.2.2 c + 1))) 14 (ad 1 4) c (tk9 S (B.2.1 c) (B.2.2 c + 1))) k' a k = mR μ k' a k := fun k' a => (mR_sR_i e).trans ((mR_sR_i e).trans (mR_sR_i e))
      rw [hz, hz, hz, hz, hz, hz]
      exact h5 k hk
theorem c_addNew (h : BP μ x ad S) {c b : Nat} (hc : c < 14) (e9 : mI μ 3 9 (ad 0 3) = nI c) (t m : Int32) (hm : m = 0 ∨ m = 1) (hno : ¬ (m = 0 ∧ 0 < c ∧ mR μ 15 (ad 1 5) (c - 1) ≠ 0)) : f_X1_addEmptyBar μ (ad 0 3) (nI b) t m = some ((), aB9 μ (ad 0 3) (ad 1) c (nI b) 1 t t 1) := by
  have ha := c_add h hc e9 (nI b) 1 t t (r := 1) (Or.inr rfl)
  rcases hm with rfl | rfl
  · by_cases c0 : c = 0
    · subst c0
      have e : f_X1_isBlock μ (ad 0 3) (nI 0 - 1) = some 0 := if_pos (by decide)
      simp only [f_X1_addEmptyBar, h.ki, e9, obs, ift, h.kc, e, ha, bi2_s]
    · obtain ⟨d, rfl⟩ : ∃ d, c = d + 1 := ⟨c - 1, by omega⟩
      have e1 : mR μ 15 (ad 1 5) d = 0 := Classical.byContradiction (fun z => hno ⟨rfl, by omega, z⟩)
      have hz : zld μ (ad 1 5) (nI d) = some 0 := by rw [h.kz (by omega), e1]
      simp only [f_X1_addEmptyBar, h.ki, e9, obs, ift, h.kc, nI_pred, c_isBlock h (by omega) e9 (Nat.lt_succ_self d), if1, h.kq5, hz, ha, bi2_s]
  · simp only [f_X1_addEmptyBar, h.ki, e9, obs, if1, h.kc, ha, bi2_s]
theorem fold9_3 {β γ δ : Type} {g : Nat → β → β} {g' : Nat → γ → γ} {g'' : Nat → δ → δ} {b : β} {c : γ} {d : δ} (n : Nat) : fold9 (fun i (s : β × γ × δ) => (g i s.1, g' i s.2.1, g'' i s.2.2)) (b, c, d) n = (fold9 g b n, fold9 g' c n, fold9 g'' d n) := by
  induction n with
  | zero => rfl
  | succ n ih =>
    show (fun (s : β × γ × δ) => (g n s.1, g' n s.2.1, g'' n s.2.2)) (fold9 _ (b, c, d) n) = _
    rw [ih]
    rfl
def gCn (q : Nat → Bool) (i : Nat) (c : Int32) : Int32 := if q i = true then c + 1 else c
theorem fold9_cnt (q : Nat → Bool) (n : Nat) : fold9 (gCn q) 0 n = nI (cnt q n) := by
  induction n with
  | zero => rfl
  | succ n ih =>
    show gCn q n (fold9 (gCn q) 0 n) = nI (cnt q n + (if q n = true then 1 else 0))
    rw [ih]
    unfold gCn
    by_cases h : q n = true
    · rw [if_pos h, if_pos h, nI_1]
    · rw [if_neg h, if_neg h, Nat.add_zero]
/-- the loop of addToBlocks: notes, least first tick, greatest end -/
theorem c_scan (h : BP μ x ad S) (hI : S.1.2.2 ≤ 120) (p b a : Nat) (t : Int32) (K : Int32 → Int32 → Int32 → Int32 → Option (Unit × Mem)) : f_X4_addToBlocks_L15 μ x (nI p) (nI b) a K 200 0 t 0 0 = K (nI (cnt (qAt S (nI p) (nI b)) S.1.2.2)) (fold9 (gMin S p b) t S.1.2.2) (fold9 (gMax S p b) 0 S.1.2.2) (nI 120) := by
  have e := lp_fold (F := fun n (s : Int32 × Int32 × Int32) i => f_X4_addToBlocks_L15 μ x (nI p) (nI b) a K n s.1 s.2.1 s.2.2 i) (k := fun s => K s.1 s.2.1 s.2.2 (nI 120)) (g := fun i s => if i < S.1.2.2 then (gCn (qAt S (nI p) (nI b)) i s.1, gMin S p b i s.2.1, gMax S p b i s.2.2) else s) (N := 120) (b := ((0 : Int32), t, (0 : Int32))) ?_ ?_ (m := 200) (by decide)
  · refine e.trans ?_
    rw [fold9_beyond (n := S.1.2.2) (fun i c h1 _ => if_neg (by omega)) hI, fold9_congr (k := fun i s => (gCn (qAt S (nI p) (nI b)) i s.1, gMin S p b i s.2.1, gMax S p b i s.2.2)) (fun i c hi => if_pos hi), fold9_3, fold9_cnt]
  · intro n i c hi
    obtain ⟨c1, c2, c3⟩ := c
    simp only [f_X4_addToBlocks_L15, h.q2, obs, h.n2, if_neg (nI_ge hi (by decide)), h.l2 hi]
    by_cases hn : i < S.1.2.2
    · simp only [if_pos hn, onl_s, h.chN hn, obs, c_isAt h hn, h.t3 hn, h.t4 hn]
      by_cases hq : qAt S (nI p) (nI b) i = true
      · simp only [if_pos hq, if1, gCn, gMin, gMax]
      · simp only [if_neg hq, if0, ift, gCn, gMin, gMax]
    · simp only [if_neg hn, onl_n]
  · intro n c
    simp only [f_X4_addToBlocks_L15, h.q2, obs, h.n2, if_pos (nI_le (Nat.le_refl 120) (by decide))]
theorem c_step {p b : Nat} (h : CB μ x ad S p (B9 S p b)) (hI : Inv S) (hb : b < S.1.2.1) : ∃ μ', f_X4_addToBlocks μ x (nI p) (nI b) (some (ad 3 b)) = some ((), μ') ∧ CB μ' x ad S p (B9 S p (b + 1)) ∧ FR 0 μ μ' := by
  obtain ⟨h1, h2, h3, h4, h5⟩ := h
  have h14 := hI.1.2.1
  have h120 := hI.1.2.2
  obtain ⟨n1, n2, n3, n4, n5, n6⟩ := bls_ok (em9 S p) (mk9 S) b
  have hc : (B9 S p b).1 < 14 := by
    have : (B9 S p b).1 ≤ b := n1
    omega
  have hmk : S.2 4 b = 0 ∨ S.2 4 b = 1 := (hI.2.2.1 b hb).2.2
  unfold f_X4_addToBlocks
  simp only [obs, h1.b0 hb]
  rw [c_scan h1 h120]
  by_cases he : em9 S p b = true
  · have he0 : cnt (qAt S (nI p) (nI b)) S.1.2.2 = 0 := of_decide_eq_true he
    by_cases hx : em9 S p b = true ∧ mk9 S b = false ∧ 0 < (bls (em9 S p) (mk9 S) b).1 ∧ 0 < (bls (em9 S p) (mk9 S) b).2.2 ((bls (em9 S p) (mk9 S) b).1 - 1)
    · have hm0 : S.2 4 b = 0 := Classical.byContradiction (fun z => by
        have : mk9 S b = true := decide_eq_true z
        rw [hx.2.1] at this
        cases this)
      obtain ⟨μ', e, hc', hf⟩ := c_ext (b := b) ⟨h1, h2, h3, h4, h5⟩ (Nat.le_of_lt hc) hx.2.2.1 hx.2.2.2 (n4 hx.2.2.1)
      refine ⟨μ', ?_, ?_, hf⟩
      · simp only [he0, if_pos (show nI 0 ≤ 0 by decide), h1.q3, obs, h1.b0 hb, h1.b2 hb, hm0, h1.kc, e, bi2_s]
      · have e9 : B9 S p (b + 1) = ((B9 S p b).1, (B9 S p b).2.1, fun k => if k = (B9 S p b).1 - 1 then (B9 S p b).2.2 k + 1 else (B9 S p b).2.2 k) := bls_ext hx
        rw [e9]
        exact hc'
    · have hno : ¬ (S.2 4 b = 0 ∧ 0 < (B9 S p b).1 ∧ mR μ 15 (ad 1 5) ((B9 S p b).1 - 1) ≠ 0) := by
        intro z
        refine hx ⟨he, ?_, z.2.1, ?_⟩
        · exact decide_eq_false (fun w => w z.1)
        · have g := (h5 ((B9 S p b).1 - 1) (by omega)).2.2.2.2.2
          rw [g] at z
          refine Nat.pos_of_ne_zero (fun w => z.2.2 ?_)
          exact if_pos w
      have ha := c_addNew (b := b) h1 hc h2 (S.2 2 b * 4) (S.2 4 b) hmk hno
      refine ⟨aB9 μ (ad 0 3) (ad 1) (B9 S p b).1 (nI b) 1 (S.2 2 b * 4) (S.2 2 b * 4) 1, ?_, ?_, h1.faB⟩
      · simp only [he0, if_pos (show nI 0 ≤ 0 by decide), h1.q3, obs, h1.b0 hb, h1.b2 hb, h1.kc, ha, bi2_s]
      · have e9 : B9 S p (b + 1) = ((B9 S p b).1 + 1, (fun k => if k = (B9 S p b).1 then b else (B9 S p b).2.1 k), fun k => if k = (B9 S p b).1 then 1 else (B9 S p b).2.2 k) := by
          refine (bls_new hx).trans ?_
          rw [if_pos he]
          rfl
        rw [e9]
        refine CB.new ⟨h1, h2, h3, h4, h5⟩ rfl ?_ ?_ rfl rfl
        · exact (tk9_1 S b).symm
        · exact (tk9_1 S b).symm
  · have he0 : ¬ cnt (qAt S (nI p) (nI b)) S.1.2.2 = 0 := fun z => he (decide_eq_true z)
    have hle := cnt_le (qAt S (nI p) (nI b)) S.1.2.2
    have hx : ¬ (em9 S p b = true ∧ mk9 S b = false ∧ 0 < (bls (em9 S p) (mk9 S) b).1 ∧ 0 < (bls (em9 S p) (mk9 S) b).2.2 ((bls (em9 S p) (mk9 S) b).1 - 1)) := fun z => he z.1
    have ha := c_add h1 hc h2 (nI b) (nI (cnt (qAt S (nI p) (nI b)) S.1.2.2)) (fold9 (gMin S p b) (S.2 2 b * 4) S.1.2.2) (S.2 2 b * 4 - fold9 (gMax S p b) 0 S.1.2.2) (r := 0) (Or.inl rfl)
    refine ⟨_, ?_, ?_, h1.faB (c := (B9 S p b).1) (b := nI b) (pc := nI (cnt (qAt S (nI p) (nI b)) S.1.2.2)) (ta := fold9 (gMin S p b) (S.2 2 b * 4) S.1.2.2) (tb := S.2 2 b * 4 - fold9 (gMax S p b) 0 S.1.2.2) (r := 0)⟩
    · simp only [if_neg (nI_nle (n := cnt (qAt S (nI p) (nI b)) S.1.2.2) (by omega) (by omega)), h1.q3, obs, h1.b0 hb, h1.kc, f_X1_addBarWithNotes, ha, bi2_s]
    · have e9 : B9 S p (b + 1) = ((B9 S p b).1 + 1, (fun k => if k = (B9 S p b).1 then b else (B9 S p b).2.1 k), fun k => if k = (B9 S p b).1 then 0 else (B9 S p b).2.2 k) := by
        refine (bls_new hx).trans ?_
        rw [if_neg he]
        rfl
      rw [e9]
      exact CB.new ⟨h1, h2, h3, h4, h5⟩ rfl rfl rfl rfl rfl
theorem c_makeBlocks (h : BP μ x ad S) (hI : Inv S) (p : Nat) : ∃ μ', f_X4_makeBlocks μ x (nI p) = some ((), μ') ∧ CB μ' x ad S p (B9 S p S.1.2.1) ∧ FR 0 μ μ' := by
  have h14 := hI.1.2.1
  have b1 := h.sIB (k := 10) (a := ad 0 3) (v := S.2 16 0)
  have b2 := b1.sIB (k := 11) (a := ad 0 3) (v := S.2 16 1)
  have b3 := b2.sIB (k := 9) (a := ad 0 3) (v := 0)
  have hf : FR 0 μ (sI (sI (sI μ 3 10 (ad 0 3) (S.2 16 0)) 3 11 (ad 0 3) (S.2 16 1)) 3 9 (ad 0 3) 0) := h.fkI.trans (b1.fkI.trans b2.fkI)
  have c0 : CB (sI (sI (sI μ 3 10 (ad 0 3) (S.2 16 0)) 3 11 (ad 0 3) (S.2 16 1)) 3 9 (ad 0 3) 0) x ad S p (B9 S p 0) :=
    ⟨b3, mI_sI_h, (mI_sI_k (by decide)).trans ((mI_sI_k (by decide)).trans mI_sI_h), (mI_sI_k (by decide)).trans mI_sI_h, fun k hk => absurd hk (Nat.not_lt_zero k)⟩
  have step : ∀ n i m, i < 14 → (CB m x ad S p (B9 S p (min i S.1.2.1)) ∧ FR 0 μ m) → ∃ m', (CB m' x ad S p (B9 S p (min (i + 1) S.1.2.1)) ∧ FR 0 μ m') ∧ f_X4_makeBlocks_L17 x (nI p) (fun z _ => some ((), z)) (n + 1) m (nI i) = f_X4_makeBlocks_L17 x (nI p) (fun z _ => some ((), z)) n m' (nI i + 1) := by
    intro n i m hi hJ
    obtain ⟨hb, hf'⟩ := hJ
    have hl := hb.1.l1 hi
    by_cases hn : i < S.1.2.1
    · rw [if_pos hn] at hl
      rw [show min i S.1.2.1 = i by omega] at hb
      obtain ⟨m', e, c1, f1⟩ := c_step hb hI hn
      refine ⟨m', ⟨by rw [show min (i + 1) S.1.2.1 = i + 1 by omega]; exact c1, hf'.trans f1⟩, ?_⟩
      simp only [f_X4_makeBlocks_L17, hb.1.q1, obs, hb.1.n1, if_neg (nI_ge hi (by decide)), hl, onl_s, hb.1.ch, e, bi2_s]
    · rw [if_neg hn] at hl
      refine ⟨m, ⟨by rw [show min (i + 1) S.1.2.1 = min i S.1.2.1 by omega]; exact hb, hf'⟩, ?_⟩
      simp only [f_X4_makeBlocks_L17, hb.1.q1, obs, hb.1.n1, if_neg (nI_ge hi (by decide)), hl, onl_n]
  have fin : ∀ n m, (CB m x ad S p (B9 S p (min 14 S.1.2.1)) ∧ FR 0 μ m) → f_X4_makeBlocks_L17 x (nI p) (fun z _ => some ((), z)) (n + 1) m (nI 14) = some ((), m) := by
    intro n m hJ
    simp only [f_X4_makeBlocks_L17, hJ.1.1.q1, obs, hJ.1.1.n1, if_pos (nI_le (Nat.le_refl 14) (by decide))]
  obtain ⟨m, ⟨c1, f1⟩, e⟩ := lp_inv (F := fun n m i => f_X4_makeBlocks_L17 x (nI p) (fun z _ => some ((), z)) n m i) (k := fun m => some ((), m)) (J := fun i m => CB m x ad S p (B9 S p (min i S.1.2.1)) ∧ FR 0 μ m) (N := 14) step fin (m := 200) (by decide) (μ := sI (sI (sI μ 3 10 (ad 0 3) (S.2 16 0)) 3 11 (ad 0 3) (S.2 16 1)) 3 9 (ad 0 3) 0) ⟨by rw [show min 0 S.1.2.1 = 0 by omega]; exact c0, hf⟩
  rw [show min 14 S.1.2.1 = S.1.2.1 by omega] at c1
  refine ⟨m, ?_, c1, f1⟩
  simp only [f_X4_makeBlocks, h.q3, h.i7, h.i8, obs, h.kc, f_X1_begin, h.kp, b1.kp, b2.kp, bi2_s]
  exact e
end P39k
