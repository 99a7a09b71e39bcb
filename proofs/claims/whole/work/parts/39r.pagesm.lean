/-! makes of the reference -/
section P39r
variable {μ μ' ν : Mem} {x y : Nat} {ad : Nat → Nat → Nat} {am : Nat → Nat} {S : SS}
theorem MP.a24 (h : MP ν y am S) {i : Nat} (hi : i < 15) : ald ν (am 24) (nI i) = some (mR ν 46 (am 24) i) := ald_ok (h.ok (k := 24) (by decide)).1 (h.ok (k := 24) (by decide)).2 (by decide) (by decide) hi (by decide)
theorem MP.a25 (h : MP ν y am S) {i : Nat} (hi : i < 15) : ald ν (am 25) (nI i) = some (mR ν 47 (am 25) i) := ald_ok (h.ok (k := 25) (by decide)).1 (h.ok (k := 25) (by decide)).2 (by decide) (by decide) hi (by decide)
theorem MP.a26 (h : MP ν y am S) {i : Nat} (hi : i < 15) : ald ν (am 26) (nI i) = some (mR ν 48 (am 26) i) := ald_ok (h.ok (k := 26) (by decide)).1 (h.ok (k := 26) (by decide)).2 (by decide) (by decide) hi (by decide)
theorem MP.w24 (h : MP ν y am S) {i : Nat} {v : Int32} (hi : i < 15) : ast ν (am 24) (nI i) v = some (sR ν 46 (am 24) i v) := h.wA (k := 24) (by decide) (by decide) hi
theorem MP.w25 (h : MP ν y am S) {i : Nat} {v : Int32} (hi : i < 15) : ast ν (am 25) (nI i) v = some (sR ν 47 (am 25) i v) := h.wA (k := 25) (by decide) (by decide) hi
theorem MP.w26 (h : MP ν y am S) {i : Nat} {v : Int32} (hi : i < 15) : ast ν (am 26) (nI i) v = some (sR ν 48 (am 26) i v) := h.wA (k := 26) (by decide) (by decide) hi
theorem MP.f24 (h : MP ν y am S) {i : Nat} {v : Int32} : FR 1 ν (sR ν 46 (am 24) i v) := h.fR (k := 24) (by decide)
theorem MP.f25 (h : MP ν y am S) {i : Nat} {v : Int32} : FR 1 ν (sR ν 47 (am 25) i v) := h.fR (k := 25) (by decide)
theorem MP.f26 (h : MP ν y am S) {i : Nat} {v : Int32} : FR 1 ν (sR ν 48 (am 26) i v) := h.fR (k := 26) (by decide)
theorem MB.sR3 {B : Nat × (Nat → Nat) × (Nat → Nat)} (h : MB ν y am S B) {k a i : Nat} {v : Int32} (hk : 46 ≤ k) : MB (sR ν k a i v) y am S B := by
  obtain ⟨h1, h2, h3⟩ := h
  refine ⟨h1.sRk (by omega), h2, fun j hj => ⟨(mR_sR_k (by omega)).trans (h3 j hj).1, (mR_sR_k (by omega)).trans (h3 j hj).2⟩⟩
def RB (m : Mem) (y : Nat) (am : Nat → Nat) (S : SS) (p k : Nat) (T : Nat → Nat × Nat × Nat) (a : Nat × Nat × Nat) : Prop :=
  MB m y am S (B9 S p S.1.2.1) ∧ (∀ j, k < j → j ≤ (B9 S p S.1.2.1).1 → mR m 46 (am 24) j = nI (T j).1 ∧ mR m 47 (am 25) j = nI (T j).2.1 ∧ (j < (B9 S p S.1.2.1).1 → mR m 48 (am 26) j = nI ((T j).2.2 - j))) ∧
  (a.2.2 = 0 → mR m 48 (am 26) k = 0) ∧ (a.2.2 ≠ 0 → mR m 46 (am 24) k = nI a.1 ∧ mR m 47 (am 25) k = nI a.2.1 ∧ mR m 48 (am 26) k = nI (a.2.2 - k))
theorem RB.put {m : Mem} {p k : Nat} {T : Nat → Nat × Nat × Nat} {a : Nat × Nat × Nat} (h : RB m y am S p k T a) (hh c e : Nat) (he : e ≠ 0) : RB (sR (sR (sR m 46 (am 24) k (nI hh)) 47 (am 25) k (nI c)) 48 (am 26) k (nI (e - k))) y am S p k T (hh, c, e) := by
  obtain ⟨h1, h2, -⟩ := h
  refine ⟨((h1.sR3 (by decide)).sR3 (by decide)).sR3 (by decide), fun j hj hn => ?_, fun z => absurd z he, fun _ => ⟨?_, ?_, ?_⟩⟩
  · have ej : j ≠ k := by omega
    have hz : ∀ k' a', mR (sR (sR (sR m 46 (am 24) k (nI hh)) 47 (am 25) k (nI c)) 48 (am 26) k (nI (e - k))) k' a' j = mR m k' a' j := fun k' a' => (mR_sR_i ej).trans ((mR_sR_i ej).trans (mR_sR_i ej))
    rw [hz, hz, hz]
    exact h2 j hj hn
  · exact (mR_sR_k (by decide)).trans ((mR_sR_k (by decide)).trans mR_sR_h)
  · exact (mR_sR_k (by decide)).trans mR_sR_h
  · exact mR_sR_h
theorem MP.f3 (h : MP ν y am S) {k : Nat} (u v w : Int32) : FR 1 ν (sR (sR (sR ν 46 (am 24) k u) 47 (am 25) k v) 48 (am 26) k w) := by
  have b1 : MP (sR ν 46 (am 24) k u) y am S := h.sRk (by decide)
  have b2 : MP (sR (sR ν 46 (am 24) k u) 47 (am 25) k v) y am S := b1.sRk (by decide)
  exact h.f24.trans (b1.f25.trans b2.f26)
set_option maxHeartbeats 4000000 in
theorem m_in {m : Mem} {p k l tk pg q : Nat} {T : Nat → Nat × Nat × Nat} {a : Nat × Nat × Nat} (h : RB m y am S p k T a) (hI : Inv S) (hkl : k ≤ l) (hl : l < (B9 S p S.1.2.1).1) (hpg : pg ≤ 60) (epg : S.2 16 0 = nI pg) (htk : tk ≤ 120 * l) (hT : TO (B9 S p S.1.2.1).1 k T) (ha : AO (B9 S p S.1.2.1).1 k T a) (K : Mem → Int32 → Int32 → Option (Unit × Mem)) :
    ((pg < tk + plB S p l ∧ k < l) → f_X5_makes_L48 y (nI p) (nI k) K (q + 1) m (nI tk) (nI l) = K m (nI (tk + plB S p l)) (nI l)) ∧ (¬ (pg < tk + plB S p l ∧ k < l) → ∃ m', f_X5_makes_L48 y (nI p) (nI k) K (q + 1) m (nI tk) (nI l) = f_X5_makes_L48 y (nI p) (nI k) K q m' (nI (tk + plB S p l)) (nI (l + 1)) ∧ RB m' y am S p k T (up9 (tu9 S p) T l a) ∧ FR 1 m m' ∧ mI m' = mI m) := by
  have h120 := hI.1.2.2
  obtain ⟨n1, n2⟩ := B9_ok hI p
  obtain ⟨r1, r2, r3⟩ := n2 l hl
  have hpl := plB_le hI p l
  have htu := tu9_le S p l
  obtain ⟨t1, t2, -, -⟩ := hT (l + 1) (by omega) (by omega)
  have h1 := h.1.1
  have g23 : getI m 7 23 y = some (nI (B9 S p S.1.2.1).1) := by rw [h1.iY, h.1.2.1]
  have hlt : ¬ nI (B9 S p S.1.2.1).1 ≤ nI l := nI_ge hl (by omega)
  have g22 : ald m (am 22) (nI l) = some (nI ((B9 S p S.1.2.1).2.2 l)) := (h1.a22 (by omega)).trans (congrArg some (h.1.2.2 l hl).2)
  have g21 : ald m (am 21) (nI l) = some (nI ((B9 S p S.1.2.1).2.1 l)) := (h1.a21 (by omega)).trans (congrArg some (h.1.2.2 l hl).1)
  have gt := m_turn h.1 hI hl
  have gl : nI l + 1 = nI (l + 1) := nI_1 l
  have gs : nI l - nI k + 1 = nI (l + 1 - k) := by rw [pk_sub hkl, nI_1, show l - k + 1 = l + 1 - k by omega]
  have gh : ald m (am 24) (nI (l + 1)) = some (nI (T (l + 1)).1) := (h1.a24 (by omega)).trans (congrArg some (h.2.1 (l + 1) (by omega) (by omega)).1)
  have gc : ald m (am 25) (nI (l + 1)) = some (nI (T (l + 1)).2.1) := (h1.a25 (by omega)).trans (congrArg some (h.2.1 (l + 1) (by omega) (by omega)).2.1)
  have g10 : getI m 7 18 y = some (nI pg) := by rw [h1.i18, epg]
  have b1 : MP (sR m 46 (am 24) k (nI (tu9 S p l + (T (l + 1)).1))) y am S := h1.sRk (by decide)
  have b2 : MP (sR (sR m 46 (am 24) k (nI (tu9 S p l + (T (l + 1)).1))) 47 (am 25) k (nI (1 + (T (l + 1)).2.1))) y am S := b1.sRk (by decide)
  have w1 : ast m (am 24) (nI k) (nI (tu9 S p l + (T (l + 1)).1)) = some (sR m 46 (am 24) k (nI (tu9 S p l + (T (l + 1)).1))) := h1.w24 (by omega)
  have w2 : ast (sR m 46 (am 24) k (nI (tu9 S p l + (T (l + 1)).1))) (am 25) (nI k) (nI (1 + (T (l + 1)).2.1)) = some (sR (sR m 46 (am 24) k (nI (tu9 S p l + (T (l + 1)).1))) 47 (am 25) k (nI (1 + (T (l + 1)).2.1))) := b1.w25 (by omega)
  have w3 : ast (sR (sR m 46 (am 24) k (nI (tu9 S p l + (T (l + 1)).1))) 47 (am 25) k (nI (1 + (T (l + 1)).2.1))) (am 26) (nI k) (nI (l + 1 - k)) = some (sR (sR (sR m 46 (am 24) k (nI (tu9 S p l + (T (l + 1)).1))) 47 (am 25) k (nI (1 + (T (l + 1)).2.1))) 48 (am 26) k (nI (l + 1 - k))) := b2.w26 (by omega)
  have hput := h.put (tu9 S p l + (T (l + 1)).1) (1 + (T (l + 1)).2.1) (l + 1) (Nat.succ_ne_zero l)
  have hf : FR 1 m (sR (sR (sR m 46 (am 24) k (nI (tu9 S p l + (T (l + 1)).1))) 47 (am 25) k (nI (1 + (T (l + 1)).2.1))) 48 (am 26) k (nI (l + 1 - k))) := h1.f3 _ _ _
  have hrest : (nI ((B9 S p S.1.2.1).2.2 l) ≤ 0 ∧ f_X5_many m y (nI p) (nI ((B9 S p S.1.2.1).2.1 l)) = some (nI (plB S p l))) ∨ (¬ nI ((B9 S p S.1.2.1).2.2 l) ≤ 0 ∧ nI tk + 1 = nI (tk + plB S p l)) := by
    by_cases r0 : (B9 S p S.1.2.1).2.2 l = 0
    · refine Or.inl ⟨by rw [r0]; decide, ?_⟩
      rw [m_many h1 h120, show plB S p l = cnt (qAt S (nI p) (nI ((B9 S p S.1.2.1).2.1 l))) S.1.2.2 from if_pos r0]
    · refine Or.inr ⟨nI_nle (Nat.pos_of_ne_zero r0) (by omega), ?_⟩
      rw [show plB S p l = 1 from if_neg r0, nI_1]
  constructor
  · intro hs
    have p1 : ¬ nI l ≤ nI k := nI_ge hs.2 (by omega)
    have p2 : ¬ nI (tk + plB S p l) ≤ nI pg := nI_ge hs.1 (by omega)
    rcases hrest with ⟨u1, u2⟩ | ⟨u1, u2⟩
    · simp only [f_X5_makes_L48, g23, obs, if_neg hlt, h1.q22, g22, if_pos u1, h1.q21, g21, h1.ch, u2, if_neg p1, g10, nI_add, if_neg p2]
    · simp only [f_X5_makes_L48, g23, obs, if_neg hlt, h1.q22, g22, if_neg u1, if_neg p1, g10, u2, if_neg p2]
  · intro hs
    have hpath : nI l ≤ nI k ∨ (¬ nI l ≤ nI k ∧ nI (tk + plB S p l) ≤ nI pg) := by
      by_cases hk : l ≤ k
      · exact Or.inl (nI_le hk (by omega))
      · exact Or.inr ⟨nI_ge (show k < l by omega) (by omega), nI_le (by omega) (by omega)⟩
    have gk24 : ald m (am 24) (nI k) = some (mR m 46 (am 24) k) := h1.a24 (by omega)
    have gk25 : ald m (am 25) (nI k) = some (mR m 47 (am 25) k) := h1.a25 (by omega)
    have gk26 : ald m (am 26) (nI k) = some (mR m 48 (am 26) k) := h1.a26 (by omega)
    by_cases c0 : a.2.2 = 0
    · have eu : up9 (tu9 S p) T l a = (tu9 S p l + (T (l + 1)).1, 1 + (T (l + 1)).2.1, l + 1) := if_pos (Or.inl c0)
      rw [h.2.2.1 c0] at gk26
      refine ⟨_, ?_, by rw [eu]; exact hput, hf, rfl⟩
      rcases hrest with ⟨u1, u2⟩ | ⟨u1, u2⟩
      · rcases hpath with p1 | ⟨p1, p2⟩
        · simp only [f_X5_makes_L48, g23, obs, if_neg hlt, h1.q22, g22, if_pos u1, h1.q21, g21, u2, nI_add, if_pos p1, h1.ch, gt, h1.q24, h1.q25, h1.q26, gl, gh, gc, nI_1a, gk26, if_pos (show (0 : Int32) ≤ 0 by decide), gs, w1, b1.q25, w2, b2.q26, w3]
        · simp only [f_X5_makes_L48, g23, obs, if_neg hlt, h1.q22, g22, if_pos u1, h1.q21, g21, u2, nI_add, if_neg p1, g10, if_pos p2, h1.ch, gt, h1.q24, h1.q25, h1.q26, gl, gh, gc, nI_1a, gk26, if_pos (show (0 : Int32) ≤ 0 by decide), gs, w1, b1.q25, w2, b2.q26, w3]
      · rcases hpath with p1 | ⟨p1, p2⟩
        · simp only [f_X5_makes_L48, g23, obs, if_neg hlt, h1.q22, g22, if_neg u1, u2, nI_add, if_pos p1, h1.ch, gt, h1.q24, h1.q25, h1.q26, gl, gh, gc, nI_1a, gk26, if_pos (show (0 : Int32) ≤ 0 by decide), gs, w1, b1.q25, w2, b2.q26, w3]
        · simp only [f_X5_makes_L48, g23, obs, if_neg hlt, h1.q22, g22, if_neg u1, u2, nI_add, if_neg p1, g10, if_pos p2, h1.ch, gt, h1.q24, h1.q25, h1.q26, gl, gh, gc, nI_1a, gk26, if_pos (show (0 : Int32) ≤ 0 by decide), gs, w1, b1.q25, w2, b2.q26, w3]
    · obtain ⟨v1, v2, v3⟩ := h.2.2.2 c0
      obtain ⟨a1, a2, a3, a4, a5⟩ : a.1 ≤ (B9 S p S.1.2.1).1 - k ∧ a.2.1 ≤ (B9 S p S.1.2.1).1 - k ∧ k < a.2.2 ∧ a.2.2 ≤ (B9 S p S.1.2.1).1 ∧ a.2.1 = 1 + (T a.2.2).2.1 := by
        rcases ha with z | z
        · exact absurd z c0
        · exact z
      rw [v1] at gk24
      rw [v2] at gk25
      rw [v3] at gk26
      have x6 : ¬ nI (a.2.2 - k) ≤ 0 := nI_nle (by omega) (by omega)
      by_cases c2 : a.1 < tu9 S p l + (T (l + 1)).1
      · have eu : up9 (tu9 S p) T l a = a := if_neg (fun z => by omega)
        have hv : nI a.1 < nI (tu9 S p l + (T (l + 1)).1) := nI_lt c2 (by omega)
        refine ⟨m, ?_, by rw [eu]; exact h, FR.refl 1 m, rfl⟩
        rcases hrest with ⟨u1, u2⟩ | ⟨u1, u2⟩
        · rcases hpath with p1 | ⟨p1, p2⟩
          · simp only [f_X5_makes_L48, g23, obs, if_neg hlt, h1.q22, g22, if_pos u1, h1.q21, g21, u2, nI_add, if_pos p1, h1.ch, gt, h1.q24, h1.q25, h1.q26, gl, gh, gc, nI_1a, gk26, if_neg x6, gk24, if_pos hv]
          · simp only [f_X5_makes_L48, g23, obs, if_neg hlt, h1.q22, g22, if_pos u1, h1.q21, g21, u2, nI_add, if_neg p1, g10, if_pos p2, h1.ch, gt, h1.q24, h1.q25, h1.q26, gl, gh, gc, nI_1a, gk26, if_neg x6, gk24, if_pos hv]
        · rcases hpath with p1 | ⟨p1, p2⟩
          · simp only [f_X5_makes_L48, g23, obs, if_neg hlt, h1.q22, g22, if_neg u1, u2, nI_add, if_pos p1, h1.ch, gt, h1.q24, h1.q25, h1.q26, gl, gh, gc, nI_1a, gk26, if_neg x6, gk24, if_pos hv]
          · simp only [f_X5_makes_L48, g23, obs, if_neg hlt, h1.q22, g22, if_neg u1, u2, nI_add, if_neg p1, g10, if_pos p2, h1.ch, gt, h1.q24, h1.q25, h1.q26, gl, gh, gc, nI_1a, gk26, if_neg x6, gk24, if_pos hv]
      · have hv : ¬ nI a.1 < nI (tu9 S p l + (T (l + 1)).1) := nI_nlt (Nat.le_of_not_lt c2) (by omega)
        by_cases c3 : tu9 S p l + (T (l + 1)).1 = a.1
        · have he : nI (tu9 S p l + (T (l + 1)).1) = nI a.1 := congrArg nI c3
          by_cases c4 : 1 + (T (l + 1)).2.1 ≤ a.2.1
          · have eu : up9 (tu9 S p) T l a = (tu9 S p l + (T (l + 1)).1, 1 + (T (l + 1)).2.1, l + 1) := if_pos (Or.inr (Or.inr ⟨c3, c4⟩))
            have hx : nI (1 + (T (l + 1)).2.1) ≤ nI a.2.1 := nI_le c4 (by omega)
            refine ⟨_, ?_, by rw [eu]; exact hput, hf, rfl⟩
            rcases hrest with ⟨u1, u2⟩ | ⟨u1, u2⟩
            · rcases hpath with p1 | ⟨p1, p2⟩
              · simp only [f_X5_makes_L48, g23, obs, if_neg hlt, h1.q22, g22, if_pos u1, h1.q21, g21, u2, nI_add, if_pos p1, h1.ch, gt, h1.q24, h1.q25, h1.q26, gl, gh, gc, nI_1a, gk26, if_neg x6, gk24, if_neg hv, if_pos he, gk25, if_pos hx, gs, w1, b1.q25, w2, b2.q26, w3]
              · simp only [f_X5_makes_L48, g23, obs, if_neg hlt, h1.q22, g22, if_pos u1, h1.q21, g21, u2, nI_add, if_neg p1, g10, if_pos p2, h1.ch, gt, h1.q24, h1.q25, h1.q26, gl, gh, gc, nI_1a, gk26, if_neg x6, gk24, if_neg hv, if_pos he, gk25, if_pos hx, gs, w1, b1.q25, w2, b2.q26, w3]
            · rcases hpath with p1 | ⟨p1, p2⟩
              · simp only [f_X5_makes_L48, g23, obs, if_neg hlt, h1.q22, g22, if_neg u1, u2, nI_add, if_pos p1, h1.ch, gt, h1.q24, h1.q25, h1.q26, gl, gh, gc, nI_1a, gk26, if_neg x6, gk24, if_neg hv, if_pos he, gk25, if_pos hx, gs, w1, b1.q25, w2, b2.q26, w3]
              · simp only [f_X5_makes_L48, g23, obs, if_neg hlt, h1.q22, g22, if_neg u1, u2, nI_add, if_neg p1, g10, if_pos p2, h1.ch, gt, h1.q24, h1.q25, h1.q26, gl, gh, gc, nI_1a, gk26, if_neg x6, gk24, if_neg hv, if_pos he, gk25, if_pos hx, gs, w1, b1.q25, w2, b2.q26, w3]
          · have eu : up9 (tu9 S p) T l a = a := if_neg (fun z => by omega)
            have hx : ¬ nI (1 + (T (l + 1)).2.1) ≤ nI a.2.1 := nI_ge (Nat.lt_of_not_le c4) (by omega)
            refine ⟨m, ?_, by rw [eu]; exact h, FR.refl 1 m, rfl⟩
            rcases hrest with ⟨u1, u2⟩ | ⟨u1, u2⟩
            · rcases hpath with p1 | ⟨p1, p2⟩
              · simp only [f_X5_makes_L48, g23, obs, if_neg hlt, h1.q22, g22, if_pos u1, h1.q21, g21, u2, nI_add, if_pos p1, h1.ch, gt, h1.q24, h1.q25, h1.q26, gl, gh, gc, nI_1a, gk26, if_neg x6, gk24, if_neg hv, if_pos he, gk25, if_neg hx]
              · simp only [f_X5_makes_L48, g23, obs, if_neg hlt, h1.q22, g22, if_pos u1, h1.q21, g21, u2, nI_add, if_neg p1, g10, if_pos p2, h1.ch, gt, h1.q24, h1.q25, h1.q26, gl, gh, gc, nI_1a, gk26, if_neg x6, gk24, if_neg hv, if_pos he, gk25, if_neg hx]
            · rcases hpath with p1 | ⟨p1, p2⟩
              · simp only [f_X5_makes_L48, g23, obs, if_neg hlt, h1.q22, g22, if_neg u1, u2, nI_add, if_pos p1, h1.ch, gt, h1.q24, h1.q25, h1.q26, gl, gh, gc, nI_1a, gk26, if_neg x6, gk24, if_neg hv, if_pos he, gk25, if_neg hx]
              · simp only [f_X5_makes_L48, g23, obs, if_neg hlt, h1.q22, g22, if_neg u1, u2, nI_add, if_neg p1, g10, if_pos p2, h1.ch, gt, h1.q24, h1.q25, h1.q26, gl, gh, gc, nI_1a, gk26, if_neg x6, gk24, if_neg hv, if_pos he, gk25, if_neg hx]
        · have he : ¬ nI (tu9 S p l + (T (l + 1)).1) = nI a.1 := fun z => c3 ((nI_eq (by omega) (by omega)).mp z)
          have eu : up9 (tu9 S p) T l a = (tu9 S p l + (T (l + 1)).1, 1 + (T (l + 1)).2.1, l + 1) := if_pos (Or.inr (Or.inl (by omega)))
          refine ⟨_, ?_, by rw [eu]; exact hput, hf, rfl⟩
          rcases hrest with ⟨u1, u2⟩ | ⟨u1, u2⟩
          · rcases hpath with p1 | ⟨p1, p2⟩
            · simp only [f_X5_makes_L48, g23, obs, if_neg hlt, h1.q22, g22, if_pos u1, h1.q21, g21, u2, nI_add, if_pos p1, h1.ch, gt, h1.q24, h1.q25, h1.q26, gl, gh, gc, nI_1a, gk26, if_neg x6, gk24, if_neg hv, if_neg he, gs, w1, b1.q25, w2, b2.q26, w3]
            · simp only [f_X5_makes_L48, g23, obs, if_neg hlt, h1.q22, g22, if_pos u1, h1.q21, g21, u2, nI_add, if_neg p1, g10, if_pos p2, h1.ch, gt, h1.q24, h1.q25, h1.q26, gl, gh, gc, nI_1a, gk26, if_neg x6, gk24, if_neg hv, if_neg he, gs, w1, b1.q25, w2, b2.q26, w3]
          · rcases hpath with p1 | ⟨p1, p2⟩
            · simp only [f_X5_makes_L48, g23, obs, if_neg hlt, h1.q22, g22, if_neg u1, u2, nI_add, if_pos p1, h1.ch, gt, h1.q24, h1.q25, h1.q26, gl, gh, gc, nI_1a, gk26, if_neg x6, gk24, if_neg hv, if_neg he, gs, w1, b1.q25, w2, b2.q26, w3]
            · simp only [f_X5_makes_L48, g23, obs, if_neg hlt, h1.q22, g22, if_neg u1, u2, nI_add, if_neg p1, g10, if_pos p2, h1.ch, gt, h1.q24, h1.q25, h1.q26, gl, gh, gc, nI_1a, gk26, if_neg x6, gk24, if_neg hv, if_neg he, gs, w1, b1.q25, w2, b2.q26, w3]
theorem m_inAll (hI : Inv S) {p k pg : Nat} {T : Nat → Nat × Nat × Nat} (hpg : pg ≤ 60) (epg : S.2 16 0 = nI pg) (hT : TO (B9 S p S.1.2.1).1 k T) (K : Mem → Option (Unit × Mem)) : ∀ (d l tk q : Nat) (a : Nat × Nat × Nat) (m : Mem), l + d = (B9 S p S.1.2.1).1 → k ≤ l → tk ≤ 120 * l → d < q → RB m y am S p k T a → AO (B9 S p S.1.2.1).1 k T a →
    ∃ m', f_X5_makes_L48 y (nI p) (nI k) (fun z _ _ => K z) q m (nI tk) (nI l) = K m' ∧ RB m' y am S p k T (in9 (tu9 S p) (plB S p) pg T k d l tk a) ∧ FR 1 m m' ∧ mI m' = mI m := by
  obtain ⟨n1, n2⟩ := B9_ok hI p
  intro d
  induction d with
  | zero =>
    intro l tk q a m hl hk htk hq h ha
    obtain ⟨q, rfl⟩ : ∃ q', q = q' + 1 := ⟨q - 1, by omega⟩
    have g23 : getI m 7 23 y = some (nI (B9 S p S.1.2.1).1) := by rw [h.1.1.iY, h.1.2.1]
    refine ⟨m, ?_, h, FR.refl 1 m, rfl⟩
    simp only [f_X5_makes_L48, g23, obs, if_pos (nI_le (show (B9 S p S.1.2.1).1 ≤ l by omega) (by omega))]
  | succ d ih =>
    intro l tk q a m hl hk htk hq h ha
    obtain ⟨q, rfl⟩ : ∃ q', q = q' + 1 := ⟨q - 1, by omega⟩
    have hpl := plB_le hI p l
    obtain ⟨s1, s2⟩ := m_in (q := q) h hI hk (by omega) hpg epg htk hT ha (fun z _ _ => K z)
    by_cases hs : pg < tk + plB S p l ∧ k < l
    · exact ⟨m, s1 hs, by rw [in9_stop hs]; exact h, FR.refl 1 m, rfl⟩
    · obtain ⟨m', e, h', f', i'⟩ := s2 hs
      obtain ⟨m2, e2, h2, f2, i2⟩ := ih (l + 1) (tk + plB S p l) q _ m' (by omega) (by omega) (by omega) (by omega) h' (up9_ok (tu9_le S p) hT hk (by omega) ha).1
      exact ⟨m2, e.trans e2, by rw [in9_go hs]; exact h2, f'.trans f2, i2.trans i'⟩
def RT (m : Mem) (y : Nat) (am : Nat → Nat) (S : SS) (p d : Nat) (T : Nat → Nat × Nat × Nat) : Prop :=
  MB m y am S (B9 S p S.1.2.1) ∧ ∀ j, (B9 S p S.1.2.1).1 ≤ j + d → j ≤ (B9 S p S.1.2.1).1 → mR m 46 (am 24) j = nI (T j).1 ∧ mR m 47 (am 25) j = nI (T j).2.1 ∧ (j < (B9 S p S.1.2.1).1 → mR m 48 (am 26) j = nI ((T j).2.2 - j))
theorem m_from (hI : Inv S) {p k d pg : Nat} {m : Mem} (hpg : pg ≤ 60) (epg : S.2 16 0 = nI pg) (hd : k + 1 + d = (B9 S p S.1.2.1).1) (h : RT m y am S p d (bT9 S p pg d)) (n : Nat) :
    ∃ m', f_X5_makes_L32 y (nI p) (fun z _ => some ((), z)) (n + 1) m (nI k) = f_X5_makes_L32 y (nI p) (fun z _ => some ((), z)) n m' (nI k + -1) ∧ RT m' y am S p (d + 1) (bT9 S p pg (d + 1)) ∧ FR 1 m m' ∧ mI m' = mI m := by
  obtain ⟨n1, n2⟩ := B9_ok hI p
  obtain ⟨h1, h2⟩ := h
  have hT : TO (B9 S p S.1.2.1).1 k (bT9 S p pg d) := TO_tb (tu9_le S p) hd
  have c1 : MB (sR m 48 (am 26) k 0) y am S (B9 S p S.1.2.1) := h1.sR3 (by decide)
  have w1 : ast m (am 26) (nI k) 0 = some (sR m 48 (am 26) k 0) := h1.1.w26 (by omega)
  have hp : RB (sR m 48 (am 26) k 0) y am S p k (bT9 S p pg d) (0, 0, 0) := by
    refine ⟨c1, fun j hj hn => ?_, fun _ => mR_sR_h, fun z => absurd rfl z⟩
    have ej : j ≠ k := by omega
    have hz : ∀ k' a', mR (sR m 48 (am 26) k 0) k' a' j = mR m k' a' j := fun k' a' => mR_sR_i ej
    rw [hz, hz, hz]
    exact h2 j (by omega) hn
  obtain ⟨m', e, h3, f4, i4⟩ := m_inAll hI hpg epg hT (fun z => f_X5_makes_L32 y (nI p) (fun z _ => some ((), z)) n z (nI k + -1)) (d + 1) k 0 200 (0, 0, 0) _ (by omega) (Nat.le_refl k) (Nat.zero_le _) (by omega) hp (Or.inl rfl)
  refine ⟨m', ?_, ⟨h3.1, fun j hj hn => ?_⟩, h1.1.f26.trans f4, i4⟩
  · simp only [f_X5_makes_L32, if_neg (nI_pos (n := k) (by omega)), h1.1.q26, obs, w1]
    exact e
  · by_cases ej : j = k
    · subst ej
      have et : bT9 S p pg (d + 1) j = in9 (tu9 S p) (plB S p) pg (bT9 S p pg d) j (d + 1) j 0 (0, 0, 0) := tb9_hit (by omega)
      obtain ⟨-, g2⟩ := in9_ok (pl := plB S p) (pg := pg) (tu9_le S p) hT (d + 1) j 0 (0, 0, 0) (by omega) (Nat.le_refl j) (Or.inl rfl) (fun _ => ⟨rfl, by omega⟩)
      obtain ⟨k1, k2, k3⟩ := h3.2.2.2 g2
      rw [et]
      exact ⟨k1, k2, fun _ => k3⟩
    · have et : bT9 S p pg (d + 1) j = bT9 S p pg d j := tb9_old (by omega)
      rw [et]
      exact h3.2.1 j (by omega) hn
theorem m_fromAll (hI : Inv S) {p pg : Nat} (hpg : pg ≤ 60) (epg : S.2 16 0 = nI pg) : ∀ (k d : Nat) (m : Mem) (q : Nat), k + 1 + d = (B9 S p S.1.2.1).1 → k + 1 < q → RT m y am S p d (bT9 S p pg d) →
    ∃ m', f_X5_makes_L32 y (nI p) (fun z _ => some ((), z)) q m (nI k) = some ((), m') ∧ RT m' y am S p (B9 S p S.1.2.1).1 (bT9 S p pg (B9 S p S.1.2.1).1) ∧ FR 1 m m' ∧ mI m' = mI m := by
  intro k
  induction k with
  | zero =>
    intro d m q hd hq h
    obtain ⟨q, rfl⟩ : ∃ q', q = q' + 1 + 1 := ⟨q - 2, by omega⟩
    obtain ⟨m', e, h', f', i'⟩ := m_from hI hpg epg hd h (q + 1)
    refine ⟨m', ?_, by rw [show (B9 S p S.1.2.1).1 = d + 1 by omega]; exact h', f', i'⟩
    rw [e]
    simp only [f_X5_makes_L32, if_pos (show nI 0 + -1 < 0 by decide)]
  | succ k ih =>
    intro d m q hd hq h
    obtain ⟨q, rfl⟩ : ∃ q', q = q' + 1 := ⟨q - 1, by omega⟩
    obtain ⟨m', e, h', f', i'⟩ := m_from hI hpg epg hd h q
    obtain ⟨m2, e2, h2, f2, i2⟩ := ih (d + 1) m' q (by omega) (by omega) h'
    refine ⟨m2, ?_, h2, f'.trans f2, i2.trans i'⟩
    rw [e, nI_m]
    exact e2
theorem m_makes (h : MP ν y am S) (hI : Inv S) (p : Nat) {pg : Nat} (hpg : pg ≤ 60) (epg : S.2 16 0 = nI pg) : ∃ ν', f_X5_makes ν y (nI p) = some ((), ν') ∧ RT ν' y am S p (B9 S p S.1.2.1).1 (bT9 S p pg (B9 S p S.1.2.1).1) ∧ FR 1 ν ν' ∧ mI ν' 7 0 y = mI ν 7 0 y := by
  obtain ⟨n1, n2⟩ := B9_ok hI p
  obtain ⟨m, e, d1, d2, d3⟩ := m_finds h hI p
  have g23 : ∀ m : Mem, MB m y am S (B9 S p S.1.2.1) → getI m 7 23 y = some (nI (B9 S p S.1.2.1).1) := fun m h => by rw [h.1.iY, h.2.1]
  have c1 : MB (sR m 46 (am 24) (B9 S p S.1.2.1).1 0) y am S (B9 S p S.1.2.1) := d1.sR3 (by decide)
  have c2 : MB (sR (sR m 46 (am 24) (B9 S p S.1.2.1).1 0) 47 (am 25) (B9 S p S.1.2.1).1 0) y am S (B9 S p S.1.2.1) := c1.sR3 (by decide)
  have w1 : ast m (am 24) (nI (B9 S p S.1.2.1).1) 0 = some (sR m 46 (am 24) (B9 S p S.1.2.1).1 0) := d1.1.w24 (by omega)
  have w2 : ast (sR m 46 (am 24) (B9 S p S.1.2.1).1 0) (am 25) (nI (B9 S p S.1.2.1).1) 0 = some (sR (sR m 46 (am 24) (B9 S p S.1.2.1).1 0) 47 (am 25) (B9 S p S.1.2.1).1 0) := c1.1.w25 (by omega)
  have hf := d2.trans (d1.1.f24.trans (c1.1.f25 (i := (B9 S p S.1.2.1).1) (v := 0)))
  have hT : RT (sR (sR m 46 (am 24) (B9 S p S.1.2.1).1 0) 47 (am 25) (B9 S p S.1.2.1).1 0) y am S p 0 (bT9 S p pg 0) := by
    refine ⟨c2, fun j h1 h2 => ?_⟩
    have ej : j = (B9 S p S.1.2.1).1 := by omega
    subst ej
    exact ⟨(mR_sR_k (by decide)).trans mR_sR_h, mR_sR_h, fun z => absurd z (Nat.lt_irrefl _)⟩
  have e1 : f_X5_makes ν y (nI p) = f_X5_makes_L32 y (nI p) (fun z _ => some ((), z)) 200 (sR (sR m 46 (am 24) (B9 S p S.1.2.1).1 0) 47 (am 25) (B9 S p S.1.2.1).1 0) (nI (B9 S p S.1.2.1).1 - 1) := by
    unfold f_X5_makes
    simp only [h.ch, obs, e, bi2_s, d1.1.q24, g23 _ d1, w1, c1.1.q25, g23 _ c1, w2, g23 _ c2]
  by_cases h0 : (B9 S p S.1.2.1).1 = 0
  · refine ⟨_, ?_, by rw [h0] at hT ⊢; exact hT, hf, d3⟩
    rw [e1]
    have g : ∀ q m, f_X5_makes_L32 y (nI p) (fun z _ => some ((), z)) (q + 1) m (nI (B9 S p S.1.2.1).1 - 1) = some ((), m) := by
      intro q m
      simp only [f_X5_makes_L32, if_pos (show nI (B9 S p S.1.2.1).1 - 1 < 0 by rw [h0]; decide)]
    exact g 199 _
  · obtain ⟨k, hk⟩ : ∃ k, (B9 S p S.1.2.1).1 = k + 1 := ⟨(B9 S p S.1.2.1).1 - 1, by omega⟩
    obtain ⟨m', e', h', f', i'⟩ := m_fromAll hI hpg epg k 0 _ 200 (by omega) (by omega) hT
    refine ⟨m', ?_, h', hf.trans f', ?_⟩
    · rw [e1, show nI (B9 S p S.1.2.1).1 - 1 = nI k by rw [hk, nI_pred]]
      exact e'
    · rw [i']
      exact d3
end P39r
