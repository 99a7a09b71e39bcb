/-! CALLS THAT MAKE -/
section P39g
variable {μ μ' ν : Mem} {x y : Nat} {ad : Nat → Nat → Nat} {am : Nat → Nat} {S : SS}
def OpN {C : Type} (μ : Mem) (x : Nat) (S : SS) (es : List Nat) (res : Option (((Nat ⊕ Int32) × Mem) ⊕ C)) (B : C → Nat → Option ((Nat ⊕ Int32) × Mem)) (F : Mem → Nat → Option (Int32 × Mem)) : Prop :=
  (∃ A : Nat ⊕ Int32, res = some (.inl (A, μ)) ∧ Vw S S es A F) ∨ ∃ (c : C) (A : Nat ⊕ Int32) (S' : SS), res = some (.inr c) ∧ Inv S' ∧ Vw S S' es A F ∧ ∀ q : Nat, q ∉ mL μ → ∃ μ' : Mem, B c q = some (A, μ') ∧ (∃ ad', BP μ' x ad' S') ∧ FR 0 μ μ'
theorem OpN.no {C : Type} {es : List Nat} {res : Option (((Nat ⊕ Int32) × Mem) ⊕ C)} {B : C → Nat → Option ((Nat ⊕ Int32) × Mem)} {F : Mem → Nat → Option (Int32 × Mem)} (A : Nat ⊕ Int32) (e : res = some (.inl (A, μ))) (c : Int32) (hc : Ag es A 0 c) (hF : ∀ (ν : Mem) (y : Nat) (am : Nat → Nat), MP ν y am S → F ν y = some (0, sI ν 7 0 y c)) : OpN μ x S es res B F :=
  Or.inl ⟨A, e, Vw.look (fun ν y am hM => ⟨0, c, hF ν y am hM, hc⟩)⟩
theorem gk_ne3 (k : Nat) : gk k ≠ 3 := by
  unfold gk
  split
  · decide
  · split
    · decide
    · split <;> decide
theorem FR.weak {g : Nat} (h : FR 3 μ μ') : FR g μ μ' := by
  intro a ha
  obtain ⟨h1, h2, h3, h4⟩ := h a ha
  exact ⟨h1, h2, h3, fun _ => h4 (gk_ne3 _)⟩
abbrev sI9 (μ : Mem) (c k a : Nat) (v : Int32) : Mem := sI μ c k a v
/-- a write to a new object -/
theorem FR.nw {q c k : Nat} {v : Int32} (h : FR 3 μ μ') (hq : q ∉ mL μ) : FR 3 μ (sI9 μ' c k q v) := by
  intro a ha
  obtain ⟨h1, h2, h3, h4⟩ := h a ha
  have e : a ≠ q := fun z => hq (z ▸ ha)
  exact ⟨h1, h2, h3, fun z => (h4 z).trans (fun c' k' => ⟨up3_ne _ _ (fun w => e w.2.2), rfl, rfl, rfl, rfl, rfl⟩)⟩
theorem ok9_new {q k n : Nat} : ok9 (sNew μ q k n) k q := by
  refine ⟨List.mem_append_right _ List.mem_cons_self, ?_⟩
  show va_up μ.2.1 q k q = k
  rw [va_up_self]
theorem qst_ok {k a n i v : Nat} (hk : ok9 μ k a) (hn : mN μ a = n) (h10 : 10 ≤ k) (ht : aT k = 2 ∨ aT k = 3 ∨ aT k = 4) (hi : i < n) (hs : n < 2 ^ 31) (hv : ok9 μ (aC (aT k)) v) : qst μ a (nI i) v = some (sS μ k a i (some v)) := by
  unfold qst
  rw [hk.2, hn, if_pos ⟨hk.1, h10, ht, inb_nI hi hs, hv⟩, nI_clamp (by omega)]
/-- one more part, bar or note -/
def adS (S : SS) (N : Nat × Nat × Nat) (lo hi n : Nat) (w : Nat → Int32) : SS := (N, fun c i => if lo ≤ c ∧ c ≤ hi ∧ i = n then w c else S.2 c i)
theorem adS_h (S : SS) {N : Nat × Nat × Nat} {lo hi n c : Nat} (w : Nat → Int32) (h1 : lo ≤ c) (h2 : c ≤ hi) : (adS S N lo hi n w).2 c n = w c := if_pos ⟨h1, h2, rfl⟩
theorem adS_o (S : SS) {N : Nat × Nat × Nat} {lo hi n c i : Nat} (w : Nat → Int32) (h : ¬ (lo ≤ c ∧ c ≤ hi ∧ i = n)) : (adS S N lo hi n w).2 c i = S.2 c i := if_neg h
def upA (ad : Nat → Nat → Nat) (r n q : Nat) : Nat → Nat → Nat := fun r' i => if r' = r ∧ i = n then q else ad r' i
theorem upA_h (ad : Nat → Nat → Nat) (r n q : Nat) : upA ad r n q r n = q := if_pos ⟨rfl, rfl⟩
theorem upA_n (ad : Nat → Nat → Nat) {r n q i : Nat} (h : i ≠ n) : upA ad r n q r i = ad r i := if_neg (fun z => h z.2)
theorem upA_r (ad : Nat → Nat → Nat) {r n q r' : Nat} (h : r' ≠ r) : upA ad r n q r' = ad r' := funext (fun i => if_neg (fun z => h z.1))
theorem slot_new {k a n q N i : Nat} {f f' : Nat → Nat} {M : Mem} (hM : mS M = up3 (mS μ) k a n (some q)) (hs : ∀ i, i < N → mS μ k a i = if i < n then some (f i) else none) (hq : f' n = q) (ho : ∀ i, i < n → f' i = f i) (hi : i < N) : mS M k a i = if i < n + 1 then some (f' i) else none := by
  rw [hM]
  by_cases e : i = n
  · subst e
    rw [up3_hit, if_pos (Nat.lt_succ_self i), hq]
  · rw [up3_ne _ _ (fun z => e z.2.2), hs i hi]
    by_cases h : i < n
    · rw [if_pos h, if_pos (by omega), ho i h]
    · rw [if_neg h, if_neg (by omega)]
theorem inj_new {n q : Nat} {f f' : Nat → Nat} (h : ∀ i j, i < n → j < n → f i = f j → i = j) (hq : f' n = q) (ho : ∀ i, i < n → f' i = f i) (hf : ∀ i, i < n → f i ≠ q) : ∀ i j, i < n + 1 → j < n + 1 → f' i = f' j → i = j := by
  intro i j hi hj e
  by_cases e1 : i = n
  · by_cases e2 : j = n
    · omega
    · rw [e1, hq, ho j (by omega)] at e
      exact absurd e.symm (hf j (by omega))
  · by_cases e2 : j = n
    · rw [e2, hq, ho i (by omega)] at e
      exact absurd e (hf i (by omega))
    · rw [ho i (by omega), ho j (by omega)] at e
      exact h i j (by omega) (by omega) e
theorem mS_w {k a i c f z k' a' i' : Nat} {v : Option Nat} {u : Int32} (h : ¬ k' = k) : mS (sI (sS μ k a i v) c f z u) k' a' i' = mS μ k' a' i' := if_neg (fun e => h e.1)
theorem BP.addP {q : Nat} {w : Nat → Int32} (b : BP μ x ad S) (hf : ∀ i, i < S.1.1 → ad 2 i ≠ q) (hq : ok9 μ 5 q) (g0 : mI μ 5 0 q = w 0) (g1 : mI μ 5 1 q = w 1) : BP (sI (sS μ 20 (ad 0 0) S.1.1 (some q)) 6 4 x (nI S.1.1 + 1)) x (upA ad 2 S.1.1 q) (adS S (S.1.1 + 1, S.1.2) 0 1 S.1.1 w) := by
  obtain ⟨h1, ⟨i4, i5, i6, i7, i8, i9⟩, h3, h4, ⟨s0, s1, s2⟩, ⟨p, br, nt⟩, ⟨j0, j1, j2⟩⟩ := b
  have ho : ∀ c i, ¬ (c ≤ 1 ∧ i = S.1.1) → (adS S (S.1.1 + 1, S.1.2) 0 1 S.1.1 w).2 c i = S.2 c i := fun c i z => adS_o S w (by omega)
  have a0 := upA_r ad (r := 2) (n := S.1.1) (q := q) (r' := 0) (by decide)
  have a1 := upA_r ad (r := 2) (n := S.1.1) (q := q) (r' := 1) (by decide)
  have a3 := upA_r ad (r := 2) (n := S.1.1) (q := q) (r' := 3) (by decide)
  have a4 := upA_r ad (r := 2) (n := S.1.1) (q := q) (r' := 4) (by decide)
  have aq := upA_h ad 2 S.1.1 q
  have ao : ∀ i, i < S.1.1 → upA ad 2 S.1.1 q 2 i = ad 2 i := fun i hi => upA_n ad (by omega)
  unfold BP
  rw [a0, a1, a3, a4]
  refine ⟨h1, ⟨?_, (mI_sI_k (by decide)).trans i5, (mI_sI_k (by decide)).trans i6, ?_, ?_, ?_⟩, h3, h4, ⟨fun i hi => slot_new rfl s0 aq ao hi, fun i hi => (mS_w (by decide)).trans (s1 i hi), fun i hi => (mS_w (by decide)).trans (s2 i hi)⟩, ⟨fun i hi => ?_, fun i hi => ?_, fun i hi => ⟨(nt i hi).1, fun k hk => ?_⟩⟩, ⟨inj_new j0 aq ao hf, j1, j2⟩⟩
  · exact mI_sI_h.trans (nI_1 _)
  · exact ((mI_sI_k (by decide)).trans i7).trans (ho 16 0 (by omega)).symm
  · exact ((mI_sI_k (by decide)).trans i8).trans (ho 16 1 (by omega)).symm
  · exact ((mI_sI_k (by decide)).trans i9).trans (ho 16 2 (by omega)).symm
  · have hi : i < S.1.1 + 1 := hi
    by_cases e : i = S.1.1
    · subst e
      rw [aq]
      exact ⟨hq, ((mI_sI_c (by decide)).trans g0).trans (adS_h S w (by decide) (by decide)).symm, ((mI_sI_c (by decide)).trans g1).trans (adS_h S w (by decide) (by decide)).symm⟩
    · rw [ao i (by omega)]
      obtain ⟨o, e0, e1⟩ := p i (by omega)
      exact ⟨o, ((mI_sI_c (by decide)).trans e0).trans (ho 0 i (by omega)).symm, ((mI_sI_c (by decide)).trans e1).trans (ho 1 i (by omega)).symm⟩
  · obtain ⟨o, e0, e1, e2⟩ := br i hi
    refine ⟨o, ((mI_sI_c (by decide)).trans e0).trans ?_, ((mI_sI_c (by decide)).trans e1).trans (ho 3 i (by omega)).symm, ((mI_sI_c (by decide)).trans e2).trans (ho 4 i (by omega)).symm⟩
    rw [ho 2 i (by omega)]
  · exact ((mI_sI_c (by decide)).trans ((nt i hi).2 k hk)).trans (ho (k + 5) i (by omega)).symm
theorem BP.addB {q : Nat} {w : Nat → Int32} (b : BP μ x ad S) (hf : ∀ i, i < S.1.2.1 → ad 3 i ≠ q) (hq : ok9 μ 2 q) (g0 : mI μ 2 0 q = w 2 * 4) (g1 : mI μ 2 1 q = w 3) (g2 : mI μ 2 2 q = w 4) : BP (sI (sS μ 21 (ad 0 1) S.1.2.1 (some q)) 6 5 x (nI S.1.2.1 + 1)) x (upA ad 3 S.1.2.1 q) (adS S (S.1.1, S.1.2.1 + 1, S.1.2.2) 2 4 S.1.2.1 w) := by
  obtain ⟨h1, ⟨i4, i5, i6, i7, i8, i9⟩, h3, h4, ⟨s0, s1, s2⟩, ⟨p, br, nt⟩, ⟨j0, j1, j2⟩⟩ := b
  have ho : ∀ c i, ¬ (2 ≤ c ∧ c ≤ 4 ∧ i = S.1.2.1) → (adS S (S.1.1, S.1.2.1 + 1, S.1.2.2) 2 4 S.1.2.1 w).2 c i = S.2 c i := fun c i z => adS_o S w z
  have a0 := upA_r ad (r := 3) (n := S.1.2.1) (q := q) (r' := 0) (by decide)
  have a1 := upA_r ad (r := 3) (n := S.1.2.1) (q := q) (r' := 1) (by decide)
  have a3 := upA_r ad (r := 3) (n := S.1.2.1) (q := q) (r' := 2) (by decide)
  have a4 := upA_r ad (r := 3) (n := S.1.2.1) (q := q) (r' := 4) (by decide)
  have aq := upA_h ad 3 S.1.2.1 q
  have ao : ∀ i, i < S.1.2.1 → upA ad 3 S.1.2.1 q 3 i = ad 3 i := fun i hi => upA_n ad (by omega)
  unfold BP
  rw [a0, a1, a3, a4]
  refine ⟨h1, ⟨(mI_sI_k (by decide)).trans i4, ?_, (mI_sI_k (by decide)).trans i6, ?_, ?_, ?_⟩, h3, h4, ⟨fun i hi => (mS_w (by decide)).trans (s0 i hi), fun i hi => slot_new rfl s1 aq ao hi, fun i hi => (mS_w (by decide)).trans (s2 i hi)⟩, ⟨fun i hi => ?_, fun i hi => ?_, fun i hi => ⟨(nt i hi).1, fun k hk => ?_⟩⟩, ⟨j0, inj_new j1 aq ao hf, j2⟩⟩
  · exact mI_sI_h.trans (nI_1 _)
  · exact ((mI_sI_k (by decide)).trans i7).trans (ho 16 0 (by omega)).symm
  · exact ((mI_sI_k (by decide)).trans i8).trans (ho 16 1 (by omega)).symm
  · exact ((mI_sI_k (by decide)).trans i9).trans (ho 16 2 (by omega)).symm
  · obtain ⟨o, e0, e1⟩ := p i hi
    exact ⟨o, ((mI_sI_c (by decide)).trans e0).trans (ho 0 i (by omega)).symm, ((mI_sI_c (by decide)).trans e1).trans (ho 1 i (by omega)).symm⟩
  · have hi : i < S.1.2.1 + 1 := hi
    by_cases e : i = S.1.2.1
    · subst e
      rw [aq]
      refine ⟨hq, ((mI_sI_c (by decide)).trans g0).trans ?_, ((mI_sI_c (by decide)).trans g1).trans (adS_h S w (by decide) (by decide)).symm, ((mI_sI_c (by decide)).trans g2).trans (adS_h S w (by decide) (by decide)).symm⟩
      rw [adS_h S w (by decide) (by decide)]
    · rw [ao i (by omega)]
      obtain ⟨o, e0, e1, e2⟩ := br i (by omega)
      refine ⟨o, ((mI_sI_c (by decide)).trans e0).trans ?_, ((mI_sI_c (by decide)).trans e1).trans (ho 3 i (by omega)).symm, ((mI_sI_c (by decide)).trans e2).trans (ho 4 i (by omega)).symm⟩
      rw [ho 2 i (by omega)]
  · exact ((mI_sI_c (by decide)).trans ((nt i hi).2 k hk)).trans (ho (k + 5) i (by omega)).symm
theorem BP.addN {q : Nat} {w : Nat → Int32} (b : BP μ x ad S) (hf : ∀ i, i < S.1.2.2 → ad 4 i ≠ q) (hq : ok9 μ 4 q) (g : ∀ k, k < 11 → mI μ 4 k q = w (k + 5)) : BP (sI (sS μ 22 (ad 0 2) S.1.2.2 (some q)) 6 6 x (nI S.1.2.2 + 1)) x (upA ad 4 S.1.2.2 q) (adS S (S.1.1, S.1.2.1, S.1.2.2 + 1) 5 15 S.1.2.2 w) := by
  obtain ⟨h1, ⟨i4, i5, i6, i7, i8, i9⟩, h3, h4, ⟨s0, s1, s2⟩, ⟨p, br, nt⟩, ⟨j0, j1, j2⟩⟩ := b
  have ho : ∀ c i, ¬ (5 ≤ c ∧ c ≤ 15 ∧ i = S.1.2.2) → (adS S (S.1.1, S.1.2.1, S.1.2.2 + 1) 5 15 S.1.2.2 w).2 c i = S.2 c i := fun c i z => adS_o S w z
  have a0 := upA_r ad (r := 4) (n := S.1.2.2) (q := q) (r' := 0) (by decide)
  have a1 := upA_r ad (r := 4) (n := S.1.2.2) (q := q) (r' := 1) (by decide)
  have a3 := upA_r ad (r := 4) (n := S.1.2.2) (q := q) (r' := 2) (by decide)
  have a4 := upA_r ad (r := 4) (n := S.1.2.2) (q := q) (r' := 3) (by decide)
  have aq := upA_h ad 4 S.1.2.2 q
  have ao : ∀ i, i < S.1.2.2 → upA ad 4 S.1.2.2 q 4 i = ad 4 i := fun i hi => upA_n ad (by omega)
  unfold BP
  rw [a0, a1, a3, a4]
  refine ⟨h1, ⟨(mI_sI_k (by decide)).trans i4, (mI_sI_k (by decide)).trans i5, ?_, ?_, ?_, ?_⟩, h3, h4, ⟨fun i hi => (mS_w (by decide)).trans (s0 i hi), fun i hi => (mS_w (by decide)).trans (s1 i hi), fun i hi => slot_new rfl s2 aq ao hi⟩, ⟨fun i hi => ?_, fun i hi => ?_, fun i hi => ?_⟩, ⟨j0, j1, inj_new j2 aq ao hf⟩⟩
  · exact mI_sI_h.trans (nI_1 _)
  · exact ((mI_sI_k (by decide)).trans i7).trans (ho 16 0 (by omega)).symm
  · exact ((mI_sI_k (by decide)).trans i8).trans (ho 16 1 (by omega)).symm
  · exact ((mI_sI_k (by decide)).trans i9).trans (ho 16 2 (by omega)).symm
  · obtain ⟨o, e0, e1⟩ := p i hi
    exact ⟨o, ((mI_sI_c (by decide)).trans e0).trans (ho 0 i (by omega)).symm, ((mI_sI_c (by decide)).trans e1).trans (ho 1 i (by omega)).symm⟩
  · obtain ⟨o, e0, e1, e2⟩ := br i hi
    refine ⟨o, ((mI_sI_c (by decide)).trans e0).trans ?_, ((mI_sI_c (by decide)).trans e1).trans (ho 3 i (by omega)).symm, ((mI_sI_c (by decide)).trans e2).trans (ho 4 i (by omega)).symm⟩
    rw [ho 2 i (by omega)]
  · have hi : i < S.1.2.2 + 1 := hi
    by_cases e : i = S.1.2.2
    · subst e
      rw [aq]
      exact ⟨hq, fun k hk => ((mI_sI_c (by decide)).trans (g k hk)).trans (adS_h S w (by omega) (by omega)).symm⟩
    · rw [ao i (by omega)]
      exact ⟨(nt i (by omega)).1, fun k hk => ((mI_sI_c (by decide)).trans ((nt i (by omega)).2 k hk)).trans (ho (k + 5) i (by omega)).symm⟩
/-! the reference's -/
theorem MP.addP {w : Nat → Int32} {v : Int32} (b : MP ν y am S) (h5 : S.1.1 < 5) (hv : v = w 0) (h1 : w 1 = 0) : MP (sI (sR ν 30 (am 1) S.1.1 v) 7 15 y (nI S.1.1 + 1)) y am (adS S (S.1.1 + 1, S.1.2) 0 1 S.1.1 w) := by
  obtain ⟨y9, hq, ⟨i15, i16, i17, i18, i19, i20⟩, hp, hp0, hb, hn, hn0⟩ := b
  have ho : ∀ c i, ¬ (c ≤ 1 ∧ i = S.1.1) → (adS S (S.1.1 + 1, S.1.2) 0 1 S.1.1 w).2 c i = S.2 c i := fun c i z => adS_o S w (by omega)
  have hr : ∀ k a' j, k ≠ 30 → mR (sI (sR ν 30 (am 1) S.1.1 v) 7 15 y (nI S.1.1 + 1)) k a' j = mR ν k a' j := fun k a' j h => mR_sR_k h
  refine ⟨y9, hq, ⟨?_, (mI_sI_k (by decide)).trans i16, (mI_sI_k (by decide)).trans i17, ?_, ?_, ?_⟩, fun p hp' => ?_, fun p hp' h9 => ?_, fun j hj => ?_, fun j hj => ?_, fun j h1 h2 => ?_⟩
  · exact mI_sI_h.trans (nI_1 _)
  · exact ((mI_sI_k (by decide)).trans i18).trans (ho 16 0 (by omega)).symm
  · exact ((mI_sI_k (by decide)).trans i19).trans (ho 16 1 (by omega)).symm
  · exact ((mI_sI_k (by decide)).trans i20).trans (ho 16 2 (by omega)).symm
  · have hp' : p < S.1.1 + 1 := hp'
    by_cases e : p = S.1.1
    · subst e
      refine ⟨(mR_sR_h.trans hv).trans (adS_h S w (by decide) (by decide)).symm, ?_⟩
      rw [adS_h S w (by decide) (by decide), h1]
      exact (hr 43 _ _ (by decide)).trans (hp0 _ (Nat.le_refl _) h5)
    · exact ⟨((mR_sR_i e).trans (hp p (by omega)).1).trans (ho 0 p (by omega)).symm, ((hr 43 _ _ (by decide)).trans (hp p (by omega)).2).trans (ho 1 p (by omega)).symm⟩
  · have hp' : S.1.1 + 1 ≤ p := hp'
    exact (hr 43 _ _ (by decide)).trans (hp0 p (by omega) h9)
  · exact ⟨((hr 31 _ j (by decide)).trans (hb j hj).1).trans (ho 2 j (by omega)).symm, ((hr 32 _ j (by decide)).trans (hb j hj).2.1).trans (ho 3 j (by omega)).symm, ((hr 41 _ j (by decide)).trans (hb j hj).2.2).trans (ho 4 j (by omega)).symm⟩
  · refine ⟨fun k hk => ((hr (33 + k) _ j (by omega)).trans ((hn j hj).1 k hk)).trans (ho (5 + k) j (by omega)).symm, ?_, ?_, ?_⟩
    · rw [ho 12 j (by omega), ho 13 j (by omega)]
      exact (hr 39 _ j (by decide)).trans (hn j hj).2.1
    · rw [ho 14 j (by omega)]
      exact (hr 40 _ j (by decide)).trans (hn j hj).2.2.1
    · rw [ho 11 j (by omega)]
      exact (hr 42 _ j (by decide)).trans (hn j hj).2.2.2
  · exact ⟨(hr 39 _ j (by decide)).trans (hn0 j h1 h2).1, (hr 40 _ j (by decide)).trans (hn0 j h1 h2).2.1, (hr 42 _ j (by decide)).trans (hn0 j h1 h2).2.2⟩
theorem MP.addB {w : Nat → Int32} {v2 v3 v4 : Int32} (b : MP ν y am S) (e2 : v2 = w 2) (e3 : v3 = w 3) (e4 : v4 = w 4) : MP (sI (sR (sR (sR ν 31 (am 2) S.1.2.1 v2) 32 (am 3) S.1.2.1 v3) 41 (am 12) S.1.2.1 v4) 7 16 y (nI S.1.2.1 + 1)) y am (adS S (S.1.1, S.1.2.1 + 1, S.1.2.2) 2 4 S.1.2.1 w) := by
  obtain ⟨y9, hq, ⟨i15, i16, i17, i18, i19, i20⟩, hp, hp0, hb, hn, hn0⟩ := b
  have ho : ∀ c i, ¬ (2 ≤ c ∧ c ≤ 4 ∧ i = S.1.2.1) → (adS S (S.1.1, S.1.2.1 + 1, S.1.2.2) 2 4 S.1.2.1 w).2 c i = S.2 c i := fun c i z => adS_o S w z
  have hr : ∀ k a' j, k ≠ 31 → k ≠ 32 → k ≠ 41 → mR (sI (sR (sR (sR ν 31 (am 2) S.1.2.1 v2) 32 (am 3) S.1.2.1 v3) 41 (am 12) S.1.2.1 v4) 7 16 y (nI S.1.2.1 + 1)) k a' j = mR ν k a' j := fun k a' j g1 g2 g3 => (mR_sR_k g3).trans ((mR_sR_k g2).trans (mR_sR_k g1))
  have hj' : ∀ k a' j, j ≠ S.1.2.1 → mR (sI (sR (sR (sR ν 31 (am 2) S.1.2.1 v2) 32 (am 3) S.1.2.1 v3) 41 (am 12) S.1.2.1 v4) 7 16 y (nI S.1.2.1 + 1)) k a' j = mR ν k a' j := fun k a' j g => (mR_sR_i g).trans ((mR_sR_i g).trans (mR_sR_i g))
  refine ⟨y9, hq, ⟨(mI_sI_k (by decide)).trans i15, ?_, (mI_sI_k (by decide)).trans i17, ?_, ?_, ?_⟩, fun p hp' => ?_, fun p hp' h9 => ?_, fun j hj => ?_, fun j hj => ?_, fun j h1 h2 => ?_⟩
  · exact mI_sI_h.trans (nI_1 _)
  · exact ((mI_sI_k (by decide)).trans i18).trans (ho 16 0 (by omega)).symm
  · exact ((mI_sI_k (by decide)).trans i19).trans (ho 16 1 (by omega)).symm
  · exact ((mI_sI_k (by decide)).trans i20).trans (ho 16 2 (by omega)).symm
  · exact ⟨((hr 30 _ p (by decide) (by decide) (by decide)).trans (hp p hp').1).trans (ho 0 p (by omega)).symm, ((hr 43 _ p (by decide) (by decide) (by decide)).trans (hp p hp').2).trans (ho 1 p (by omega)).symm⟩
  · exact (hr 43 _ p (by decide) (by decide) (by decide)).trans (hp0 p hp' h9)
  · have hj : j < S.1.2.1 + 1 := hj
    by_cases e : j = S.1.2.1
    · subst e
      exact ⟨((mR_sR_k (by decide)).trans ((mR_sR_k (by decide)).trans mR_sR_h)).trans (e2.trans (adS_h S w (by decide) (by decide)).symm), ((mR_sR_k (by decide)).trans mR_sR_h).trans (e3.trans (adS_h S w (by decide) (by decide)).symm), mR_sR_h.trans (e4.trans (adS_h S w (by decide) (by decide)).symm)⟩
    · exact ⟨((hj' 31 _ j e).trans (hb j (by omega)).1).trans (ho 2 j (by omega)).symm, ((hj' 32 _ j e).trans (hb j (by omega)).2.1).trans (ho 3 j (by omega)).symm, ((hj' 41 _ j e).trans (hb j (by omega)).2.2).trans (ho 4 j (by omega)).symm⟩
  · refine ⟨fun k hk => ((hr (33 + k) _ j (by omega) (by omega) (by omega)).trans ((hn j hj).1 k hk)).trans (ho (5 + k) j (by omega)).symm, ?_, ?_, ?_⟩
    · rw [ho 12 j (by omega), ho 13 j (by omega)]
      exact (hr 39 _ j (by decide) (by decide) (by decide)).trans (hn j hj).2.1
    · rw [ho 14 j (by omega)]
      exact (hr 40 _ j (by decide) (by decide) (by decide)).trans (hn j hj).2.2.1
    · rw [ho 11 j (by omega)]
      exact (hr 42 _ j (by decide) (by decide) (by decide)).trans (hn j hj).2.2.2
  · exact ⟨(hr 39 _ j (by decide) (by decide) (by decide)).trans (hn0 j h1 h2).1, (hr 40 _ j (by decide) (by decide) (by decide)).trans (hn0 j h1 h2).2.1, (hr 42 _ j (by decide) (by decide) (by decide)).trans (hn0 j h1 h2).2.2⟩
theorem MP.addN {w : Nat → Int32} {m : Mem} (b : MP ν y am S) (h120 : S.1.2.2 < 120) (eL : mL m = mL ν) (eK : mK m = mK ν) (eN : mN m = mN ν) (eQ : mQ m = mQ ν) (eI : mI m = mI ν) (r1 : ∀ c, c < 6 → mR m (33 + c) (am (4 + c)) S.1.2.2 = w (5 + c)) (r2 : ∀ k a j, (¬ (33 ≤ k ∧ k ≤ 38) ∨ j ≠ S.1.2.2) → mR m k a j = mR ν k a j) (w11 : w 11 = 1) (w12 : w 12 = 0) (w14 : w 14 = 0) :
    MP (sI m 7 17 y (nI S.1.2.2 + 1)) y am (adS S (S.1.1, S.1.2.1, S.1.2.2 + 1) 5 15 S.1.2.2 w) := by
  obtain ⟨y9, hq, ⟨i15, i16, i17, i18, i19, i20⟩, hp, hp0, hb, hn, hn0⟩ := b
  have ho : ∀ c i, ¬ (5 ≤ c ∧ c ≤ 15 ∧ i = S.1.2.2) → (adS S (S.1.1, S.1.2.1, S.1.2.2 + 1) 5 15 S.1.2.2 w).2 c i = S.2 c i := fun c i z => adS_o S w z
  have hr : ∀ k a j, (¬ (33 ≤ k ∧ k ≤ 38) ∨ j ≠ S.1.2.2) → mR (sI m 7 17 y (nI S.1.2.2 + 1)) k a j = mR ν k a j := r2
  have hok : ∀ k a, ok9 ν k a → ok9 (sI m 7 17 y (nI S.1.2.2 + 1)) k a := fun k a h => ⟨by show a ∈ mL m; rw [eL]; exact h.1, by show mK m a = k; rw [eK]; exact h.2⟩
  have hnn : ∀ a, mN (sI m 7 17 y (nI S.1.2.2 + 1)) a = mN ν a := fun a => by show mN m a = _; rw [eN]
  have hmi : ∀ k, k ≠ 17 → mI (sI m 7 17 y (nI S.1.2.2 + 1)) 7 k y = mI ν 7 k y := fun k h => (mI_sI_k h).trans (by rw [eI])
  refine ⟨hok _ _ y9, fun k hk => ⟨?_, hok _ _ (hq k hk).2.1, (hnn _).trans (hq k hk).2.2⟩, ⟨(hmi 15 (by decide)).trans i15, (hmi 16 (by decide)).trans i16, ?_, ?_, ?_, ?_⟩, fun p hp' => ?_, fun p hp' h9 => ?_, fun j hj => ?_, fun j hj => ?_, fun j h1 h2 => ?_⟩
  · show mQ m 7 k y = _
    rw [eQ]
    exact (hq k hk).1
  · exact mI_sI_h.trans (nI_1 _)
  · exact ((hmi 18 (by decide)).trans i18).trans (ho 16 0 (by omega)).symm
  · exact ((hmi 19 (by decide)).trans i19).trans (ho 16 1 (by omega)).symm
  · exact ((hmi 20 (by decide)).trans i20).trans (ho 16 2 (by omega)).symm
  · exact ⟨((hr 30 _ p (by omega)).trans (hp p hp').1).trans (ho 0 p (by omega)).symm, ((hr 43 _ p (by omega)).trans (hp p hp').2).trans (ho 1 p (by omega)).symm⟩
  · exact (hr 43 _ p (by omega)).trans (hp0 p hp' h9)
  · exact ⟨((hr 31 _ j (by omega)).trans (hb j hj).1).trans (ho 2 j (by omega)).symm, ((hr 32 _ j (by omega)).trans (hb j hj).2.1).trans (ho 3 j (by omega)).symm, ((hr 41 _ j (by omega)).trans (hb j hj).2.2).trans (ho 4 j (by omega)).symm⟩
  · have hj : j < S.1.2.2 + 1 := hj
    by_cases e : j = S.1.2.2
    · subst e
      have z := hn0 S.1.2.2 (Nat.le_refl _) h120
      refine ⟨fun k hk => ?_, ?_, ?_, ?_⟩
      · exact (r1 k hk).trans (adS_h S w (by omega) (by omega)).symm
      · rw [adS_h S w (by decide) (by decide), adS_h S w (by decide) (by decide), w12, if_pos rfl]
        exact (hr 39 _ _ (by omega)).trans z.1
      · rw [adS_h S w (by decide) (by decide), w14]
        exact (hr 40 _ _ (by omega)).trans z.2.1
      · rw [adS_h S w (by decide) (by decide), w11, if_neg (by decide)]
        exact (hr 42 _ _ (by omega)).trans z.2.2
    · refine ⟨fun k hk => ((hr (33 + k) _ j (Or.inr e)).trans ((hn j (by omega)).1 k hk)).trans (ho (5 + k) j (by omega)).symm, ?_, ?_, ?_⟩
      · rw [ho 12 j (by omega), ho 13 j (by omega)]
        exact (hr 39 _ j (by omega)).trans (hn j (by omega)).2.1
      · rw [ho 14 j (by omega)]
        exact (hr 40 _ j (by omega)).trans (hn j (by omega)).2.2.1
      · rw [ho 11 j (by omega)]
        exact (hr 42 _ j (by omega)).trans (hn j (by omega)).2.2.2
  · have h1 : S.1.2.2 + 1 ≤ j := h1
    have z := hn0 j (by omega) h2
    exact ⟨(hr 39 _ j (by omega)).trans z.1, (hr 40 _ j (by omega)).trans z.2.1, (hr 42 _ j (by omega)).trans z.2.2⟩
/-! what must hold of the state -/
theorem Inv.addP {w : Nat → Int32} (hI : Inv S) (h5 : S.1.1 < 5) (h0 : -12 ≤ (w 0).toInt ∧ (w 0).toInt ≤ 12) (h1 : w 1 = 0) : Inv (adS S (S.1.1 + 1, S.1.2) 0 1 S.1.1 w) := by
  obtain ⟨⟨c1, c2, c3⟩, p2, p3, p4, p5⟩ := hI
  have ho : ∀ c i, ¬ (c ≤ 1 ∧ i = S.1.1) → (adS S (S.1.1 + 1, S.1.2) 0 1 S.1.1 w).2 c i = S.2 c i := fun c i z => adS_o S w (by omega)
  refine ⟨⟨h5, c2, c3⟩, fun p hp => ?_, fun b hb => ?_, fun j hj => ?_, ?_⟩
  · have hp : p < S.1.1 + 1 := hp
    by_cases e : p = S.1.1
    · subst e
      rw [adS_h S w (by decide) (by decide), adS_h S w (by decide) (by decide)]
      exact ⟨h0, Or.inl h1⟩
    · rw [ho 0 p (by omega), ho 1 p (by omega)]
      exact p2 p (by omega)
  · rw [ho 2 b (by omega), ho 3 b (by omega), ho 4 b (by omega)]
    exact p3 b hb
  · have hz2 : ∀ b, (adS S (S.1.1 + 1, S.1.2) 0 1 S.1.1 w).2 2 b = S.2 2 b := fun b => ho 2 b (by omega)
    rw [ho 5 j (by omega), ho 6 j (by omega), ho 7 j (by omega), ho 8 j (by omega), ho 9 j (by omega), ho 10 j (by omega), ho 11 j (by omega), ho 12 j (by omega), ho 13 j (by omega), ho 14 j (by omega), ho 15 j (by omega)]
    simp only [hz2]
    obtain ⟨⟨p, hp, e⟩, g⟩ := p4 j hj
    exact ⟨⟨p, Nat.lt_succ_of_lt hp, e⟩, g⟩
  · rw [ho 16 0 (by omega), ho 16 1 (by omega), ho 16 2 (by omega)]
    exact p5
theorem Inv.addB {w : Nat → Int32} (hI : Inv S) (h14 : S.1.2.1 < 14) (h2 : 1 ≤ (w 2).toInt ∧ (w 2).toInt ≤ 8) (h3 : -6 ≤ (w 3).toInt ∧ (w 3).toInt ≤ 6) (h4 : w 4 = 0 ∨ w 4 = 1) : Inv (adS S (S.1.1, S.1.2.1 + 1, S.1.2.2) 2 4 S.1.2.1 w) := by
  obtain ⟨⟨c1, c2, c3⟩, p2, p3, p4, p5⟩ := hI
  have ho : ∀ c i, ¬ (2 ≤ c ∧ c ≤ 4 ∧ i = S.1.2.1) → (adS S (S.1.1, S.1.2.1 + 1, S.1.2.2) 2 4 S.1.2.1 w).2 c i = S.2 c i := fun c i z => adS_o S w z
  refine ⟨⟨c1, h14, c3⟩, fun p hp => ?_, fun b hb => ?_, fun j hj => ?_, ?_⟩
  · rw [ho 0 p (by omega), ho 1 p (by omega)]
    exact p2 p hp
  · have hb : b < S.1.2.1 + 1 := hb
    by_cases e : b = S.1.2.1
    · subst e
      rw [adS_h S w (by decide) (by decide), adS_h S w (by decide) (by decide), adS_h S w (by decide) (by decide)]
      exact ⟨h2, h3, h4⟩
    · rw [ho 2 b (by omega), ho 3 b (by omega), ho 4 b (by omega)]
      exact p3 b (by omega)
  · rw [ho 5 j (by omega), ho 6 j (by omega), ho 7 j (by omega), ho 8 j (by omega), ho 9 j (by omega), ho 10 j (by omega), ho 11 j (by omega), ho 12 j (by omega), ho 13 j (by omega), ho 14 j (by omega), ho 15 j (by omega)]
    obtain ⟨g1, ⟨b, hb, e1, e2⟩, g⟩ := p4 j hj
    exact ⟨g1, ⟨b, Nat.lt_succ_of_lt hb, e1, by rw [ho 2 b (by omega)]; exact e2⟩, g⟩
  · rw [ho 16 0 (by omega), ho 16 1 (by omega), ho 16 2 (by omega)]
    exact p5
theorem Inv.addN {w : Nat → Int32} (hI : Inv S) (h120 : S.1.2.2 < 120) {p b : Nat} (hp : p < S.1.1) (hb : b < S.1.2.1) (e5 : w 5 = nI p) (e6 : w 6 = nI b) (e8 : (w 8).toInt + (w 9).toInt ≤ 4 * (S.2 2 b).toInt) (e7 : w 7 = 0 ∨ w 7 = 1) (e81 : 0 ≤ (w 8).toInt) (e9 : 1 ≤ (w 9).toInt) (e10 : 24 ≤ (w 10).toInt ∧ (w 10).toInt ≤ 96) (e11 : w 11 = 1) (e12 : w 12 = 0) (e15 : w 15 = 1) : Inv (adS S (S.1.1, S.1.2.1, S.1.2.2 + 1) 5 15 S.1.2.2 w) := by
  obtain ⟨⟨c1, c2, c3⟩, p2, p3, p4, p5⟩ := hI
  have ho : ∀ c i, ¬ (5 ≤ c ∧ c ≤ 15 ∧ i = S.1.2.2) → (adS S (S.1.1, S.1.2.1, S.1.2.2 + 1) 5 15 S.1.2.2 w).2 c i = S.2 c i := fun c i z => adS_o S w z
  refine ⟨⟨c1, c2, h120⟩, fun p hp => ?_, fun b hb => ?_, fun j hj => ?_, ?_⟩
  · rw [ho 0 p (by omega), ho 1 p (by omega)]
    exact p2 p hp
  · rw [ho 2 b (by omega), ho 3 b (by omega), ho 4 b (by omega)]
    exact p3 b hb
  · have hz2 : ∀ b, (adS S (S.1.1, S.1.2.1, S.1.2.2 + 1) 5 15 S.1.2.2 w).2 2 b = S.2 2 b := fun b => ho 2 b (by omega)
    simp only [hz2]
    have hj : j < S.1.2.2 + 1 := hj
    by_cases e : j = S.1.2.2
    · subst e
      have hh : ∀ c, 5 ≤ c → c ≤ 15 → (adS S (S.1.1, S.1.2.1, S.1.2.2 + 1) 5 15 S.1.2.2 w).2 c S.1.2.2 = w c := fun c h1 h2 => adS_h S w h1 h2
      rw [hh 5 (by decide) (by decide), hh 6 (by decide) (by decide), hh 7 (by decide) (by decide), hh 8 (by decide) (by decide), hh 9 (by decide) (by decide), hh 10 (by decide) (by decide), hh 11 (by decide) (by decide), hh 12 (by decide) (by decide), hh 13 (by decide) (by decide), hh 14 (by decide) (by decide), hh 15 (by decide) (by decide)]
      refine ⟨⟨p, hp, e5⟩, ⟨b, hb, e6, e8⟩, e7, e81, e9, e10, Or.inr e11, Or.inl e12, fun z => ?_, Or.inr e15, fun z => ?_⟩
      · rw [e12] at z
        exact absurd z (by decide)
      · rw [e15] at z
        exact absurd z (by decide)
    · rw [ho 5 j (by omega), ho 6 j (by omega), ho 7 j (by omega), ho 8 j (by omega), ho 9 j (by omega), ho 10 j (by omega), ho 11 j (by omega), ho 12 j (by omega), ho 13 j (by omega), ho 14 j (by omega), ho 15 j (by omega)]
      exact p4 j (by omega)
  · rw [ho 16 0 (by omega), ho 16 1 (by omega), ho 16 2 (by omega)]
    exact p5
end P39g
