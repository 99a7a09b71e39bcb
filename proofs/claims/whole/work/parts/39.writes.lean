/-! CALLS THAT WRITE -/
section P39
variable {μ ν : Mem} {x y : Nat} {ad : Nat → Nat → Nat} {am : Nat → Nat} {S : SS}
def Op (μ : Mem) (x : Nat) (S : SS) (es : List Nat) (res : Option ((Nat ⊕ Int32) × Mem)) (F : Mem → Nat → Option (Int32 × Mem)) : Prop := ∃ (A : Nat ⊕ Int32) (μ' : Mem) (S' : SS), res = some (A, μ') ∧ Inv S' ∧ (∃ ad', BP μ' x ad' S') ∧ FR 0 μ μ' ∧ Vw S S' es A F
theorem Op.no {es : List Nat} {res : Option ((Nat ⊕ Int32) × Mem)} {F : Mem → Nat → Option (Int32 × Mem)} (h : BP μ x ad S) (hI : Inv S) (A : Nat ⊕ Int32) (e : res = some (A, μ)) (c : Int32) (hc : Ag es A 0 c) (hF : ∀ (ν : Mem) (y : Nat) (am : Nat → Nat), MP ν y am S → F ν y = some (0, sI ν 7 0 y c)) : Op μ x S es res F :=
  ⟨A, μ, S, e, hI, ⟨ad, h⟩, FR.refl 0 μ, Vw.look (fun ν y am hM => ⟨0, c, hF ν y am hM, hc⟩)⟩
/-- a number of a note in the reference: the fields part to pitch -/
theorem MP.setN {i k : Nat} {v : Int32} (b : MP ν y am S) (hi : i < S.1.2.2) (hk : 4 ≤ k ∧ k ≤ 9) : MP (sR ν (29 + k) (am k) i v) y am (upS S (k + 1) i v) := by
  obtain ⟨y9, hq, ⟨i15, i16, i17, i18, i19, i20⟩, hp, hp0, hb, hn, hn0⟩ := b
  refine ⟨y9, hq, ⟨i15, i16, i17, i18.trans (upS_ne _ _ (by omega)).symm, i19.trans (upS_ne _ _ (by omega)).symm, i20.trans (upS_ne _ _ (by omega)).symm⟩,
    fun p h1 => ⟨((mR_sR_k (by omega)).trans (hp p h1).1).trans (upS_ne _ _ (by omega)).symm, ((mR_sR_k (by omega)).trans (hp p h1).2).trans (upS_ne _ _ (by omega)).symm⟩, fun p h1 h2 => (mR_sR_k (by omega)).trans (hp0 p h1 h2),
    fun b h1 => ⟨((mR_sR_k (by omega)).trans (hb b h1).1).trans (upS_ne _ _ (by omega)).symm, ((mR_sR_k (by omega)).trans (hb b h1).2.1).trans (upS_ne _ _ (by omega)).symm, ((mR_sR_k (by omega)).trans (hb b h1).2.2).trans (upS_ne _ _ (by omega)).symm⟩,
    fun j h1 => ⟨fun k' h2 => ?_, ?_, ?_, ?_⟩, fun j h1 h2 => ⟨(mR_sR_k (by omega)).trans (hn0 j h1 h2).1, (mR_sR_k (by omega)).trans (hn0 j h1 h2).2.1, (mR_sR_k (by omega)).trans (hn0 j h1 h2).2.2⟩⟩
  · by_cases e : 33 + k' = 29 + k ∧ j = i
    · obtain ⟨e, rfl⟩ := e
      obtain rfl : k = 4 + k' := by omega
      rw [show 29 + (4 + k') = 33 + k' from by omega, show 4 + k' + 1 = 5 + k' from by omega]
      exact mR_sR_h.trans (upS_hit _ _ _ _).symm
    · refine ((mR_sR_n (fun z => e ⟨z.1, z.2.2⟩)).trans ((hn j h1).1 k' h2)).trans (upS_ne _ _ (fun z => e ⟨by omega, z.2⟩)).symm
  · rw [upS_ne _ _ (by omega), upS_ne _ _ (by omega)]
    exact (mR_sR_k (by omega)).trans (hn j h1).2.1
  · rw [upS_ne _ _ (by omega)]
    exact (mR_sR_k (by omega)).trans (hn j h1).2.2.1
  · rw [upS_ne _ _ (by omega)]
    exact (mR_sR_k (by omega)).trans (hn j h1).2.2.2
/-- 'touched' is the class's own -/
theorem MP.set15 {i : Nat} {v : Int32} (b : MP ν y am S) : MP ν y am (upS S 15 i v) := by
  obtain ⟨y9, hq, ⟨i15, i16, i17, i18, i19, i20⟩, hp, hp0, hb, hn, hn0⟩ := b
  refine ⟨y9, hq, ⟨i15, i16, i17, i18.trans (upS_ne _ _ (by omega)).symm, i19.trans (upS_ne _ _ (by omega)).symm, i20.trans (upS_ne _ _ (by omega)).symm⟩,
    fun p h1 => ⟨(hp p h1).1.trans (upS_ne _ _ (by omega)).symm, (hp p h1).2.trans (upS_ne _ _ (by omega)).symm⟩, hp0,
    fun b h1 => ⟨(hb b h1).1.trans (upS_ne _ _ (by omega)).symm, (hb b h1).2.1.trans (upS_ne _ _ (by omega)).symm, (hb b h1).2.2.trans (upS_ne _ _ (by omega)).symm⟩,
    fun j h1 => ⟨fun k' h2 => ((hn j h1).1 k' h2).trans (upS_ne _ _ (by omega)).symm, ?_, ?_, ?_⟩, hn0⟩
  · rw [upS_ne _ _ (by omega), upS_ne _ _ (by omega)]
    exact (hn j h1).2.1
  · rw [upS_ne _ _ (by omega)]
    exact (hn j h1).2.2.1
  · rw [upS_ne _ _ (by omega)]
    exact (hn j h1).2.2.2
/-- a bar's key (3) or mark (12) in the reference -/
theorem MP.setB {i k c : Nat} {v : Int32} (b : MP ν y am S) (hi : i < S.1.2.1) (hk : (k = 3 ∧ c = 3) ∨ (k = 12 ∧ c = 4)) : MP (sR ν (29 + k) (am k) i v) y am (upS S c i v) := by
  obtain ⟨y9, hq, ⟨i15, i16, i17, i18, i19, i20⟩, hp, hp0, hb, hn, hn0⟩ := b
  refine ⟨y9, hq, ⟨i15, i16, i17, i18.trans (upS_ne _ _ (by omega)).symm, i19.trans (upS_ne _ _ (by omega)).symm, i20.trans (upS_ne _ _ (by omega)).symm⟩,
    fun p h1 => ⟨((mR_sR_k (by omega)).trans (hp p h1).1).trans (upS_ne _ _ (by omega)).symm, ((mR_sR_k (by omega)).trans (hp p h1).2).trans (upS_ne _ _ (by omega)).symm⟩, fun p h1 h2 => (mR_sR_k (by omega)).trans (hp0 p h1 h2),
    fun j h1 => ⟨((mR_sR_k (by omega)).trans (hb j h1).1).trans (upS_ne _ _ (by omega)).symm, ?_, ?_⟩,
    fun j h1 => ⟨fun k' h2 => ((mR_sR_k (by omega)).trans ((hn j h1).1 k' h2)).trans (upS_ne _ _ (by omega)).symm, ?_, ?_, ?_⟩, fun j h1 h2 => ⟨(mR_sR_k (by omega)).trans (hn0 j h1 h2).1, (mR_sR_k (by omega)).trans (hn0 j h1 h2).2.1, (mR_sR_k (by omega)).trans (hn0 j h1 h2).2.2⟩⟩
  · by_cases e : k = 3 ∧ j = i
    · obtain ⟨rfl, rfl⟩ := e
      obtain rfl : c = 3 := by omega
      exact mR_sR_h.trans (upS_hit _ _ _ _).symm
    · exact ((mR_sR_n (fun z => e ⟨by omega, z.2.2⟩)).trans (hb j h1).2.1).trans (upS_ne _ _ (fun z => e ⟨by omega, z.2⟩)).symm
  · by_cases e : k = 12 ∧ j = i
    · obtain ⟨rfl, rfl⟩ := e
      obtain rfl : c = 4 := by omega
      exact mR_sR_h.trans (upS_hit _ _ _ _).symm
    · exact ((mR_sR_n (fun z => e ⟨by omega, z.2.2⟩)).trans (hb j h1).2.2).trans (upS_ne _ _ (fun z => e ⟨by omega, z.2⟩)).symm
  · rw [upS_ne _ _ (by omega), upS_ne _ _ (by omega)]
    exact (mR_sR_k (by omega)).trans (hn j h1).2.1
  · rw [upS_ne _ _ (by omega)]
    exact (mR_sR_k (by omega)).trans (hn j h1).2.2.1
  · rw [upS_ne _ _ (by omega)]
    exact (mR_sR_k (by omega)).trans (hn j h1).2.2.2
/-- what a note's columns must keep -/
def NI (S : SS) (i : Nat) : Prop := (∃ p, p < S.1.1 ∧ S.2 5 i = nI p) ∧ (∃ b, b < S.1.2.1 ∧ S.2 6 i = nI b ∧ (S.2 8 i).toInt + (S.2 9 i).toInt ≤ 4 * (S.2 2 b).toInt) ∧ (S.2 7 i = 0 ∨ S.2 7 i = 1) ∧ 0 ≤ (S.2 8 i).toInt ∧ 1 ≤ (S.2 9 i).toInt ∧ (24 ≤ (S.2 10 i).toInt ∧ (S.2 10 i).toInt ≤ 96) ∧
    (S.2 11 i = 0 ∨ S.2 11 i = 1) ∧ (S.2 12 i = 0 ∨ S.2 12 i = 1) ∧ (S.2 12 i = 1 → 1 ≤ (S.2 13 i).toInt) ∧ (S.2 15 i = 0 ∨ S.2 15 i = 1) ∧ (S.2 15 i = 0 → S.2 12 i = S.2 11 i ∧ S.2 13 i = S.2 9 i ∧ S.2 14 i = S.2 10 i)
theorem Inv.note {i c : Nat} {v : Int32} (hI : Inv S) (hc : 5 ≤ c ∧ c ≤ 15) (hN : i < S.1.2.2 → NI (upS S c i v) i) : Inv (upS S c i v) := by
  obtain ⟨h1, h2, h3, h4, h5⟩ := hI
  refine ⟨h1, fun p hp => ?_, fun b hb => ?_, fun j hj => ?_, ?_⟩
  · rw [upS_ne _ _ (by omega), upS_ne _ _ (by omega)]
    exact h2 p hp
  · rw [upS_ne _ _ (by omega), upS_ne _ _ (by omega), upS_ne _ _ (by omega)]
    exact h3 b hb
  · by_cases e : j = i
    · subst e
      exact hN hj
    · have hz : ∀ c', (upS S c i v).2 c' j = S.2 c' j := fun c' => upS_ne _ _ (fun z => e z.2)
      have hz2 : ∀ b, (upS S c i v).2 2 b = S.2 2 b := fun b => upS_ne _ _ (by omega)
      simp only [hz, hz2]
      exact h4 j hj
  · rw [upS_ne _ _ (by omega), upS_ne _ _ (by omega), upS_ne _ _ (by omega)]
    exact h5
/-- the bars' beats stay -/
theorem Inv.bar {i c : Nat} {v : Int32} (hI : Inv S) (hc : (c = 3 ∧ -6 ≤ v.toInt ∧ v.toInt ≤ 6) ∨ (c = 4 ∧ (v = 0 ∨ v = 1))) : Inv (upS S c i v) := by
  obtain ⟨h1, h2, h3, h4, h5⟩ := hI
  refine ⟨h1, fun p hp => ?_, fun b hb => ?_, fun j hj => ?_, ?_⟩
  · rw [upS_ne _ _ (by omega), upS_ne _ _ (by omega)]
    exact h2 p hp
  · rw [upS_ne (c' := 2) _ _ (by omega)]
    refine ⟨(h3 b hb).1, ?_, ?_⟩
    · by_cases e : 3 = c ∧ b = i
      · obtain ⟨rfl, rfl⟩ := e
        rw [upS_hit]
        omega
      · rw [upS_ne _ _ e]
        exact (h3 b hb).2.1
    · by_cases e : 4 = c ∧ b = i
      · obtain ⟨rfl, rfl⟩ := e
        rw [upS_hit]
        rcases hc with hc | hc
        · exact absurd hc.1 (by decide)
        · exact hc.2
      · rw [upS_ne _ _ e]
        exact (h3 b hb).2.2
  · have hz : ∀ c', 5 ≤ c' → (upS S c i v).2 c' j = S.2 c' j := fun c' h => upS_ne _ _ (by omega)
    have hz2 : ∀ b, (upS S c i v).2 2 b = S.2 2 b := fun b => upS_ne _ _ (by omega)
    simp only [hz2, hz 5 (by decide), hz 6 (by decide), hz 7 (by decide), hz 8 (by decide), hz 9 (by decide), hz 10 (by decide), hz 11 (by decide), hz 12 (by decide), hz 13 (by decide), hz 14 (by decide), hz 15 (by decide)]
    exact h4 j hj
  · rw [upS_ne _ _ (by omega), upS_ne _ _ (by omega), upS_ne _ _ (by omega)]
    exact h5
theorem Inv.ni (hI : Inv S) {i : Nat} (hi : i < S.1.2.2) : NI S i := hI.2.2.2.1 i hi
end P39
