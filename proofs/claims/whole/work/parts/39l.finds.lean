/-! finds of the reference -/
section P39l
variable {μ μ' ν : Mem} {x y : Nat} {ad : Nat → Nat → Nat} {am : Nat → Nat} {S : SS}
/-- the reference's blocks -/
def MB (ν : Mem) (y : Nat) (am : Nat → Nat) (S : SS) (B : Nat × (Nat → Nat) × (Nat → Nat)) : Prop :=
  MP ν y am S ∧ mI ν 7 23 y = nI B.1 ∧ ∀ k, k < B.1 → mR ν 44 (am 21) k = nI (B.2.1 k) ∧ mR ν 45 (am 22) k = nI (B.2.2 k)
theorem MP.sIk (h : MP ν y am S) {k : Nat} {v : Int32} (hk : k < 15 ∨ 20 < k) : MP (sI ν 7 k y v) y am S := by
  obtain ⟨y9, hq, ⟨i15, i16, i17, i18, i19, i20⟩, hr⟩ := h
  exact ⟨y9, hq, ⟨(mI_sI_k (by omega)).trans i15, (mI_sI_k (by omega)).trans i16, (mI_sI_k (by omega)).trans i17, (mI_sI_k (by omega)).trans i18, (mI_sI_k (by omega)).trans i19, (mI_sI_k (by omega)).trans i20⟩, hr⟩
theorem MP.sRk (h : MP ν y am S) {k a i : Nat} {v : Int32} (hk : 44 ≤ k) : MP (sR ν k a i v) y am S := by
  obtain ⟨y9, hq, hi, hp, hp0, hb, hn, hn0⟩ := h
  have hz : ∀ k' a' j, k' < 44 → mR (sR ν k a i v) k' a' j = mR ν k' a' j := fun k' a' j z => mR_sR_k (by omega)
  refine ⟨y9, hq, hi, fun p h1 => ⟨(hz 30 _ p (by decide)).trans (hp p h1).1, (hz 43 _ p (by decide)).trans (hp p h1).2⟩, fun p h1 h2 => (hz 43 _ p (by decide)).trans (hp0 p h1 h2),
    fun b h1 => ⟨(hz 31 _ b (by decide)).trans (hb b h1).1, (hz 32 _ b (by decide)).trans (hb b h1).2.1, (hz 41 _ b (by decide)).trans (hb b h1).2.2⟩,
    fun j h1 => ⟨fun k' h2 => (hz (33 + k') _ j (by omega)).trans ((hn j h1).1 k' h2), (hz 39 _ j (by decide)).trans (hn j h1).2.1, (hz 40 _ j (by decide)).trans (hn j h1).2.2.1, (hz 42 _ j (by decide)).trans (hn j h1).2.2.2⟩,
    fun j h1 h2 => ⟨(hz 39 _ j (by decide)).trans (hn0 j h1 h2).1, (hz 40 _ j (by decide)).trans (hn0 j h1 h2).2.1, (hz 42 _ j (by decide)).trans (hn0 j h1 h2).2.2⟩⟩
theorem MP.iY (h : MP ν y am S) {k : Nat} : getI ν 7 k y = some (mI ν 7 k y) := getI_ok h.1
theorem MP.a21 (h : MP ν y am S) {i : Nat} (hi : i < 14) : ald ν (am 21) (nI i) = some (mR ν 44 (am 21) i) := ald_ok (h.ok (k := 21) (by decide)).1 (h.ok (k := 21) (by decide)).2 (by decide) (by decide) hi (by decide)
theorem MP.a22 (h : MP ν y am S) {i : Nat} (hi : i < 14) : ald ν (am 22) (nI i) = some (mR ν 45 (am 22) i) := ald_ok (h.ok (k := 22) (by decide)).1 (h.ok (k := 22) (by decide)).2 (by decide) (by decide) hi (by decide)
theorem MP.w21 (h : MP ν y am S) {i : Nat} {v : Int32} (hi : i < 14) : ast ν (am 21) (nI i) v = some (sR ν 44 (am 21) i v) := h.wA (k := 21) (by decide) (by decide) hi
theorem MP.w22 (h : MP ν y am S) {i : Nat} {v : Int32} (hi : i < 14) : ast ν (am 22) (nI i) v = some (sR ν 45 (am 22) i v) := h.wA (k := 22) (by decide) (by decide) hi
theorem MP.f21 (h : MP ν y am S) {i : Nat} {v : Int32} : FR 1 ν (sR ν 44 (am 21) i v) := h.fR (k := 21) (by decide)
theorem MP.f22 (h : MP ν y am S) {i : Nat} {v : Int32} : FR 1 ν (sR ν 45 (am 22) i v) := h.fR (k := 22) (by decide)
def nB9 (ν : Mem) (y : Nat) (am : Nat → Nat) (c : Nat) (b r : Int32) : Mem := sI (sR (sR ν 44 (am 21) c b) 45 (am 22) c r) 7 23 y (nI c + 1)
theorem MB.new {b r : Nat} {B : Nat × (Nat → Nat) × (Nat → Nat)} (h : MB ν y am S B) : MB (nB9 ν y am B.1 (nI b) (nI r)) y am S (B.1 + 1, (fun k => if k = B.1 then b else B.2.1 k), fun k => if k = B.1 then r else B.2.2 k) := by
  obtain ⟨h1, h2, h3⟩ := h
  refine ⟨((h1.sRk (by decide)).sRk (by decide)).sIk (Or.inr (by decide)), mI_sI_h.trans (nI_1 _), fun k hk => ?_⟩
  have hk : k < B.1 + 1 := hk
  have e1 : mR (nB9 ν y am B.1 (nI b) (nI r)) 44 (am 21) k = if k = B.1 then nI b else mR ν 44 (am 21) k := by
    show mR (sR (sR ν 44 (am 21) B.1 (nI b)) 45 (am 22) B.1 (nI r)) 44 (am 21) k = _
    simp [mR_sR]
  have e2 : mR (nB9 ν y am B.1 (nI b) (nI r)) 45 (am 22) k = if k = B.1 then nI r else mR ν 45 (am 22) k := by
    show mR (sR (sR ν 44 (am 21) B.1 (nI b)) 45 (am 22) B.1 (nI r)) 45 (am 22) k = _
    simp [mR_sR]
  rw [e1, e2]
  by_cases e : k = B.1
  · simp only [if_pos e]
    exact ⟨trivial, trivial⟩
  · simp only [if_neg e]
    exact h3 k (by omega)
theorem MB.fnew {b r : Int32} {B : Nat × (Nat → Nat) × (Nat → Nat)} (h : MB ν y am S B) : FR 1 ν (nB9 ν y am B.1 b r) ∧ mI (nB9 ν y am B.1 b r) 7 0 y = mI ν 7 0 y := by
  have h1 := h.1
  have b1 : MP (sR ν 44 (am 21) B.1 b) y am S := h1.sRk (by decide)
  have b2 : MP (sR (sR ν 44 (am 21) B.1 b) 45 (am 22) B.1 r) y am S := b1.sRk (by decide)
  exact ⟨h1.f21.trans (b1.f22.trans b2.fY), mI_sI_k (by decide)⟩
/-- the writes of a new block -/
theorem MB.ws {B : Nat × (Nat → Nat) × (Nat → Nat)} (h : MB ν y am S B) (hc : B.1 < 14) (b r : Int32) :
    getI ν 7 23 y = some (nI B.1) ∧ ast ν (am 21) (nI B.1) b = some (sR ν 44 (am 21) B.1 b) ∧ getQ (sR ν 44 (am 21) B.1 b) 7 22 y = some (some (am 22)) ∧ getI (sR ν 44 (am 21) B.1 b) 7 23 y = some (nI B.1) ∧
    ast (sR ν 44 (am 21) B.1 b) (am 22) (nI B.1) r = some (sR (sR ν 44 (am 21) B.1 b) 45 (am 22) B.1 r) ∧ getI (sR (sR ν 44 (am 21) B.1 b) 45 (am 22) B.1 r) 7 23 y = some (nI B.1) ∧ putI (sR (sR ν 44 (am 21) B.1 b) 45 (am 22) B.1 r) 7 23 y (nI B.1 + 1) = some (nB9 ν y am B.1 b r) := by
  have h1 := h.1
  have b1 : MP (sR ν 44 (am 21) B.1 b) y am S := h1.sRk (by decide)
  have b2 : MP (sR (sR ν 44 (am 21) B.1 b) 45 (am 22) B.1 r) y am S := b1.sRk (by decide)
  exact ⟨by rw [h1.iY, h.2.1], h1.w21 hc, b1.q22, by rw [b1.iY]; exact congrArg some h.2.1, b1.w22 hc, by rw [b2.iY]; exact congrArg some h.2.1, b2.pY⟩
theorem m_step {p b : Nat} (h : MB ν y am S (B9 S p b)) (hI : Inv S) (hb : b < S.1.2.1) (K : Mem → Int32 → Option (Unit × Mem)) (n : Nat) : ∃ ν', f_X5_finds_L7 y (nI p) K (n + 1) ν (nI b) = f_X5_finds_L7 y (nI p) K n ν' (nI b + 1) ∧ MB ν' y am S (B9 S p (b + 1)) ∧ FR 1 ν ν' ∧ mI ν' 7 0 y = mI ν 7 0 y := by
  have h14 := hI.1.2.1
  have h120 := hI.1.2.2
  have h1 := h.1
  obtain ⟨n1, n2, n3, n4, n5, n6⟩ := bls_ok (em9 S p) (mk9 S) b
  have hc : (B9 S p b).1 < 14 := by
    have : (B9 S p b).1 ≤ b := n1
    omega
  have hge : ¬ nI S.1.2.1 ≤ nI b := nI_ge hb (by omega)
  by_cases he : em9 S p b = true
  · have he0 : cnt (qAt S (nI p) (nI b)) S.1.2.2 = 0 := of_decide_eq_true he
    have hm : f_X5_many ν y (nI p) (nI b) = some 0 := by
      rw [m_many h1 h120, he0]
      rfl
    by_cases hx : em9 S p b = true ∧ mk9 S b = false ∧ 0 < (bls (em9 S p) (mk9 S) b).1 ∧ 0 < (bls (em9 S p) (mk9 S) b).2.2 ((bls (em9 S p) (mk9 S) b).1 - 1)
    · have hm0 : S.2 4 b = 0 := Classical.byContradiction (fun z => by
        have : mk9 S b = true := decide_eq_true z
        rw [hx.2.1] at this
        cases this)
      have e9 : B9 S p (b + 1) = ((B9 S p b).1, (B9 S p b).2.1, fun k => if k = (B9 S p b).1 - 1 then (B9 S p b).2.2 k + 1 else (B9 S p b).2.2 k) := bls_ext hx
      have x1 : 0 < (B9 S p b).1 := hx.2.2.1
      have x2 : 0 < (B9 S p b).2.2 ((B9 S p b).1 - 1) := hx.2.2.2
      have x3 := n3 ((B9 S p b).1 - 1) (show (B9 S p b).1 - 1 < (B9 S p b).1 by omega)
      have x4 : (B9 S p b).2.2 ((B9 S p b).1 - 1) ≤ 14 := by
        have z : bn9 ((B9 S p b).2.2 ((B9 S p b).1 - 1)) ≤ b := Nat.le_trans (Nat.le_add_left _ _) x3
        unfold bn9 at z
        rw [if_neg (by omega)] at z
        omega
      rw [e9]
      obtain ⟨-, h2, h3⟩ := h
      have e24 : nI (B9 S p b).1 - 1 = nI ((B9 S p b).1 - 1) := by
        obtain ⟨d, hd⟩ : ∃ d, (B9 S p b).1 = d + 1 := ⟨(B9 S p b).1 - 1, by omega⟩
        rw [hd, nI_pred, Nat.add_sub_cancel]
      have e25 := (h3 ((B9 S p b).1 - 1) (by omega)).2
      have g := h1.a22 (i := (B9 S p b).1 - 1) (by omega)
      rw [e25] at g
      have w := h1.w22 (i := (B9 S p b).1 - 1) (v := nI ((B9 S p b).2.2 ((B9 S p b).1 - 1) + 1)) (by omega)
      refine ⟨sR ν 45 (am 22) ((B9 S p b).1 - 1) (nI ((B9 S p b).2.2 ((B9 S p b).1 - 1) + 1)), ?_, ⟨h1.sRk (by decide), h2, fun k hk => ?_⟩, h1.f22, rfl⟩
      · simp only [f_X5_finds_L7, h1.i16, obs, if_neg hge, h1.ch, hm, ift, h1.q12, h1.a12 hb h14, hm0, h1.iY, h2, if_neg (nI_nle x1 (by omega)), h1.q22, e24, g, if_neg (nI_nle x2 (by omega)), nI_1, w]
      · have hk : k < (B9 S p b).1 := hk
        refine ⟨(mR_sR_k (by decide)).trans (h3 k hk).1, ?_⟩
        show _ = nI (if k = (B9 S p b).1 - 1 then (B9 S p b).2.2 k + 1 else (B9 S p b).2.2 k)
        by_cases e : k = (B9 S p b).1 - 1
        · subst e
          rw [if_pos rfl]
          exact mR_sR_h
        · rw [if_neg e]
          exact (mR_sR_i e).trans (h3 k hk).2
    · have e9 : B9 S p (b + 1) = ((B9 S p b).1 + 1, (fun k => if k = (B9 S p b).1 then b else (B9 S p b).2.1 k), fun k => if k = (B9 S p b).1 then 1 else (B9 S p b).2.2 k) := by
        refine (bls_new hx).trans ?_
        rw [if_pos he]
        rfl
      rw [e9]
      obtain ⟨s1, s2, s3, s4, s5, s6, s7⟩ := h.ws hc (nI b) 1
      refine ⟨nB9 ν y am (B9 S p b).1 (nI b) 1, ?_, h.new (b := b) (r := 1), h.fnew⟩
      by_cases hm0 : S.2 4 b = 0
      · by_cases c0 : (B9 S p b).1 = 0
        · simp only [f_X5_finds_L7, h1.i16, obs, if_neg hge, h1.ch, hm, ift, h1.q12, h1.a12 hb h14, hm0, s1, if_pos (show nI (B9 S p b).1 ≤ 0 by rw [c0]; decide), h1.q21, h1.q22, s2, s3, s4, s5, s6, s7]
        · have e24 : nI (B9 S p b).1 - 1 = nI ((B9 S p b).1 - 1) := by
            obtain ⟨d, hd⟩ : ∃ d, (B9 S p b).1 = d + 1 := ⟨(B9 S p b).1 - 1, by omega⟩
            rw [hd, nI_pred, Nat.add_sub_cancel]
          have e25 := (h.2.2 ((B9 S p b).1 - 1) (by omega)).2
          have g := h1.a22 (i := (B9 S p b).1 - 1) (by omega)
          rw [e25] at g
          have r0 : (B9 S p b).2.2 ((B9 S p b).1 - 1) = 0 := Classical.byContradiction (fun z => hx ⟨he, decide_eq_false (fun w => w hm0), Nat.pos_of_ne_zero c0, Nat.pos_of_ne_zero z⟩)
          simp only [f_X5_finds_L7, h1.i16, obs, if_neg hge, h1.ch, hm, ift, h1.q12, h1.a12 hb h14, hm0, s1, if_neg (nI_nle (n := (B9 S p b).1) (by omega) (by omega)), h1.q21, h1.q22, e24, g, r0, if_pos (show nI 0 ≤ 0 by decide), s2, s3, s4, s5, s6, s7]
      · simp only [f_X5_finds_L7, h1.i16, obs, if_neg hge, h1.ch, hm, ift, h1.q12, h1.a12 hb h14, if_neg hm0, s1, h1.q21, s2, s3, s4, s5, s6, s7]
  · have he0 : ¬ cnt (qAt S (nI p) (nI b)) S.1.2.2 = 0 := fun z => he (decide_eq_true z)
    have hle := cnt_le (qAt S (nI p) (nI b)) S.1.2.2
    have hx : ¬ (em9 S p b = true ∧ mk9 S b = false ∧ 0 < (bls (em9 S p) (mk9 S) b).1 ∧ 0 < (bls (em9 S p) (mk9 S) b).2.2 ((bls (em9 S p) (mk9 S) b).1 - 1)) := fun z => he z.1
    have e9 : B9 S p (b + 1) = ((B9 S p b).1 + 1, (fun k => if k = (B9 S p b).1 then b else (B9 S p b).2.1 k), fun k => if k = (B9 S p b).1 then 0 else (B9 S p b).2.2 k) := by
      refine (bls_new hx).trans ?_
      rw [if_neg he]
      rfl
    rw [e9]
    obtain ⟨s1, s2, s3, s4, s5, s6, s7⟩ := h.ws hc (nI b) 0
    refine ⟨nB9 ν y am (B9 S p b).1 (nI b) 0, ?_, h.new (b := b) (r := 0), h.fnew⟩
    simp only [f_X5_finds_L7, h1.i16, obs, if_neg hge, h1.ch, m_many h1 h120, if_neg (nI_ne0 (n := cnt (qAt S (nI p) (nI b)) S.1.2.2) (by omega) (by omega)), h1.q21, s1, s2, s3, s4, s5, s6, s7]
theorem m_finds (h : MP ν y am S) (hI : Inv S) (p : Nat) : ∃ ν', f_X5_finds ν y (nI p) = some ((), ν') ∧ MB ν' y am S (B9 S p S.1.2.1) ∧ FR 1 ν ν' ∧ mI ν' 7 0 y = mI ν 7 0 y := by
  have h14 := hI.1.2.1
  have m0 : MB (sI ν 7 23 y 0) y am S (B9 S p 0) := ⟨h.sIk (Or.inr (by decide)), mI_sI_h, fun k hk => absurd hk (Nat.not_lt_zero k)⟩
  have step : ∀ n i m, i < S.1.2.1 → (MB m y am S (B9 S p i) ∧ FR 1 ν m ∧ mI m 7 0 y = mI ν 7 0 y) → ∃ m', (MB m' y am S (B9 S p (i + 1)) ∧ FR 1 ν m' ∧ mI m' 7 0 y = mI ν 7 0 y) ∧ f_X5_finds_L7 y (nI p) (fun z _ => some ((), z)) (n + 1) m (nI i) = f_X5_finds_L7 y (nI p) (fun z _ => some ((), z)) n m' (nI i + 1) := by
    intro n i m hi hJ
    obtain ⟨m', e, c1, c2, c3⟩ := m_step hJ.1 hI hi (fun z _ => some ((), z)) n
    exact ⟨m', ⟨c1, hJ.2.1.trans c2, c3.trans hJ.2.2⟩, e⟩
  have fin : ∀ n m, (MB m y am S (B9 S p S.1.2.1) ∧ FR 1 ν m ∧ mI m 7 0 y = mI ν 7 0 y) → f_X5_finds_L7 y (nI p) (fun z _ => some ((), z)) (n + 1) m (nI S.1.2.1) = some ((), m) := by
    intro n m hJ
    simp only [f_X5_finds_L7, hJ.1.1.i16, obs, if_pos (nI_le (Nat.le_refl S.1.2.1) (by omega))]
  obtain ⟨m, ⟨c1, c2, c3⟩, e⟩ := lp_inv (F := fun n m i => f_X5_finds_L7 y (nI p) (fun z _ => some ((), z)) n m i) (k := fun m => some ((), m)) (J := fun i m => MB m y am S (B9 S p i) ∧ FR 1 ν m ∧ mI m 7 0 y = mI ν 7 0 y) (N := S.1.2.1) step fin (m := 200) (by omega) (μ := sI ν 7 23 y 0) ⟨m0, h.fY, mI_sI_k (by decide)⟩
  refine ⟨m, ?_, c1, c2, c3⟩
  simp only [f_X5_finds, h.pY, obs]
  exact e
end P39l
