/-! ONE CALL OF THE LAW: the wrapper over the class, then the reference's call -/
section P42
variable {l : Launch} {G : GG} {A : Nat → Prop} {μ : Mem} {x y out od : Nat} {S S' : SS} {es : List Nat}
/-- the class's answer and picture -/
def GM (μ : Mem) (x : Nat) (S' : SS) (R : Nat ⊕ Option Value) : Nat ⊕ Option Value → Mem → Prop := fun r m => r = R ∧ (∃ ad', BP m x ad' S') ∧ FR 0 μ m
def LPi (va : Int32 → Int64) (x y out od : Nat) (F : Mem → Nat → Option (Int32 × Mem)) (r : Nat ⊕ Option Value) (m1 : Mem) : Prop := ∃ (c b : Int32) (m2 : Mem) (S' : SS), r = .inr (some (.int c)) ∧ ok9 m1 7 y ∧ F m1 y = some (b, m2) ∧ mI m2 7 0 y = c ∧ (c = 0 → mJ m2 60 out 0 = va b) ∧ Sm m2 x y out od S'
def LPD (x y out od : Nat) (F : Mem → Nat → Option (UInt64 × Mem)) (r : Nat ⊕ Option Value) (m1 : Mem) : Prop := ∃ (c : Int32) (b : UInt64) (m2 : Mem) (S' : SS), r = .inr (some (.int c)) ∧ ok9 m1 7 y ∧ F m1 y = some (b, m2) ∧ mI m2 7 0 y = c ∧ (c = 0 → mE m2 61 od 0 = b ∧ vf_n64 b) ∧ Sm m2 x y out od S'
def LPF (x y out od : Nat) (F : Mem → Nat → Option (UInt32 × Mem)) (r : Nat ⊕ Option Value) (m1 : Mem) : Prop := ∃ (c : Int32) (b : UInt32) (m2 : Mem) (S' : SS), r = .inr (some (.int c)) ∧ ok9 m1 7 y ∧ F m1 y = some (b, m2) ∧ mI m2 7 0 y = c ∧ (c = 0 → mE m2 61 od 0 = FP.f2d b ∧ vf_n64 (FP.f2d b)) ∧ Sm m2 x y out od S'
theorem sm_after {α : Type} {B : Nat ⊕ α} {F : Mem → Nat → Option (α × Mem)} {m : Mem} (h : Sm μ x y out od S) (hI' : Inv S') (hv : Vw S S' es B F) (hb : ∃ ad', BP m x ad' S') (hf : FR 0 μ m) {m1 : Mem} (h2 : FR 2 m m1) :
    ∃ (r : α) (m2 : Mem), ok9 m1 7 y ∧ F m1 y = some (r, m2) ∧ Sm m2 x y out od S' ∧ Ag es B r (mI m2 7 0 y) ∧ mJ m2 60 out 0 = mJ m1 60 out 0 ∧ mE m2 61 od 0 = mE m1 61 od 0 := by
  obtain ⟨hI, -, ⟨am, hM⟩, hO⟩ := h
  obtain ⟨ad', hB⟩ := hb
  have hM1 := (hM.fr hf (by decide)).fr h2 (by decide)
  have hB1 := hB.fr h2 (by decide)
  have hO1 := (hO.fr hf).fr h2
  obtain ⟨r, m2, e, hM2, f1, hA⟩ := hv m1 y am hM1
  obtain ⟨j1, j2⟩ := hO1.lld f1 (by decide)
  exact ⟨r, m2, hM1.1, e, ⟨hI', ⟨ad', hB1.fr f1 (by decide)⟩, ⟨am, hM2⟩, hO1.fr f1⟩, hA, j1, j2⟩
theorem ag_mem {α : Type} {e : Nat} {F : Mem → Nat → Option (α × Mem)} (h : Sm μ x y out od S) (hv : Vw S S' es (.inl e : Nat ⊕ α) F) : e ∈ es := by
  obtain ⟨hI, -, ⟨am, hM⟩, hO⟩ := h
  obtain ⟨r, m2, -, -, -, hA⟩ := hv μ y am hM
  exact hA.1
theorem mx_inl {α : Type} {f : α → Option Value} {B : Nat ⊕ α} {e : Nat} (h : (.inl e : Nat ⊕ Option Value) = mx f B) : B = .inl e := by
  cases B with
  | inl a => exact congrArg Sum.inl (Sum.inl.inj h).symm
  | inr v => cases h
theorem mx_inr {α : Type} {f : α → Option Value} {B : Nat ⊕ α} {v : Option Value} (h : (.inr v : Nat ⊕ Option Value) = mx f B) : ∃ z, B = .inr z ∧ v = f z := by
  cases B with
  | inl a => cases h
  | inr z => exact ⟨z, rfl, Sum.inr.inj h⟩
theorem w_core {B : Nat ⊕ Int32} {F : Mem → Nat → Option (Int32 × Mem)} (h : Sm μ x y out od S) (hI' : Inv S') (hv : Vw S S' es B F) (va : Int32 → Int64) :
    (∀ v μ9, GM μ x S' (rIx B) (.inr v) μ9 → ∃ (z : Int32) (m2 : Mem), v = some (.int z) ∧ lst μ9 out 0 (va z) = some m2) ∧ (∀ e μ9, GM μ x S' (rIx B) (.inl e) μ9 → e ∈ es) ∧
    (∀ cd : Nat → Int32, (∀ e ∈ es, cd e = nI (cdn es e) ∧ cd e ≠ 0) → ∀ r m1, ((∃ (z : Int32) (μ9 : Mem), GM μ x S' (rIx B) (.inr (some (.int z))) μ9 ∧ r = .inr (some (.int 0)) ∧ lst μ9 out 0 (va z) = some m1) ∨ (∃ e : Nat, GM μ x S' (rIx B) (.inl e) m1 ∧ r = .inr (some (.int (cd e))))) → LPi va x y out od F r m1) := by
  refine ⟨fun v m hg => ?_, fun e m hg => ?_, fun cd hcd r m1 hg => ?_⟩
  · obtain ⟨h1, -, h3⟩ := hg
    obtain ⟨z, -, e2⟩ := mx_inr h1
    have hO := (h.2.2.2.fr h3).1
    exact ⟨z, _, e2, lst_ok hO.1 hO.2⟩
  · obtain ⟨h1, -, -⟩ := hg
    have e1 := mx_inl h1
    subst e1
    exact ag_mem h hv
  · rcases hg with ⟨z, m, ⟨h1, h2, h3⟩, rfl, hl⟩ | ⟨e, ⟨h1, h2, h3⟩, rfl⟩
    · obtain ⟨z', e1, e2⟩ := mx_inr h1
      cases e2
      subst e1
      have hO := (h.2.2.2.fr h3).1
      rw [lst_ok hO.1 hO.2] at hl
      have em := Option.some.inj hl
      have hf2 : FR 2 m m1 := by
        rw [← em]
        exact FR.sJ (by rw [hO.1.2]; rfl)
      obtain ⟨b, m2, k1, k2, k3, ⟨k4, k5⟩, k6, -⟩ := sm_after h hI' hv h2 h3 hf2
      refine ⟨0, b, m2, S', rfl, k1, k2, k4, fun _ => ?_, k3⟩
      rw [k6, k5, ← em]
      exact up3_hit _ _ _ _ _
    · have e1 := mx_inl h1
      subst e1
      obtain ⟨b, m2, k1, k2, k3, ⟨k4, k5⟩, -⟩ := sm_after h hI' hv h2 h3 (FR.refl 2 m1)
      exact ⟨cd e, b, m2, S', rfl, k1, k2, by rw [k5, (hcd e k4).1], fun z => absurd z (hcd e k4).2, k3⟩

theorem w_coreD {B : Nat ⊕ UInt64} {F : Mem → Nat → Option (UInt64 × Mem)} (h : Sm μ x y out od S) (hI' : Inv S') (hv : Vw S S' es B F) (hnan : ∀ z, B = .inr z → vf_n64 (z)) :
    (∀ v μ9, GM μ x S' (rDx B) (.inr v) μ9 → ∃ (z : UInt64) (m2 : Mem), v = some (.double z) ∧ dst μ9 od 0 (z) = some m2) ∧ (∀ e μ9, GM μ x S' (rDx B) (.inl e) μ9 → e ∈ es) ∧
    (∀ cd : Nat → Int32, (∀ e ∈ es, cd e = nI (cdn es e) ∧ cd e ≠ 0) → ∀ r m1, ((∃ (z : UInt64) (μ9 : Mem), GM μ x S' (rDx B) (.inr (some (.double z))) μ9 ∧ r = .inr (some (.int 0)) ∧ dst μ9 od 0 (z) = some m1) ∨ (∃ e : Nat, GM μ x S' (rDx B) (.inl e) m1 ∧ r = .inr (some (.int (cd e))))) → LPD x y out od F r m1) := by
  refine ⟨fun v m hg => ?_, fun e m hg => ?_, fun cd hcd r m1 hg => ?_⟩
  · obtain ⟨h1, -, h3⟩ := hg
    obtain ⟨z, e1, e2⟩ := mx_inr h1
    have hO := (h.2.2.2.fr h3).2
    exact ⟨z, _, e2, dst_ok hO.1 hO.2⟩
  · obtain ⟨h1, -, -⟩ := hg
    have e1 := mx_inl h1
    subst e1
    exact ag_mem h hv
  · rcases hg with ⟨z, m, ⟨h1, h2, h3⟩, rfl, hl⟩ | ⟨e, ⟨h1, h2, h3⟩, rfl⟩
    · obtain ⟨z', e1, e2⟩ := mx_inr h1
      cases e2
      subst e1
      have hO := (h.2.2.2.fr h3).2
      rw [dst_ok hO.1 hO.2] at hl
      have em := Option.some.inj hl
      have hf2 : FR 2 m m1 := by
        rw [← em]
        exact FR.sE (by rw [hO.1.2]; rfl)
      obtain ⟨b, m2, k1, k2, k3, ⟨k4, k5⟩, -, k6⟩ := sm_after h hI' hv h2 h3 hf2
      subst k5
      refine ⟨0, b, m2, S', rfl, k1, k2, k4, fun _ => ⟨?_, hnan _ rfl⟩, k3⟩
      rw [k6, ← em]
      exact up3_hit _ _ _ _ _
    · have e1 := mx_inl h1
      subst e1
      obtain ⟨b, m2, k1, k2, k3, ⟨k4, k5⟩, -⟩ := sm_after h hI' hv h2 h3 (FR.refl 2 m1)
      exact ⟨cd e, b, m2, S', rfl, k1, k2, by rw [k5, (hcd e k4).1], fun z => absurd z (hcd e k4).2, k3⟩

theorem w_coreF {B : Nat ⊕ UInt32} {F : Mem → Nat → Option (UInt32 × Mem)} (h : Sm μ x y out od S) (hI' : Inv S') (hv : Vw S S' es B F) (hnan : ∀ z, B = .inr z → vf_n64 (FP.f2d z)) :
    (∀ v μ9, GM μ x S' (rFx B) (.inr v) μ9 → ∃ (z : UInt32) (m2 : Mem), v = some (.float z) ∧ dst μ9 od 0 (FP.f2d z) = some m2 ∧ vf_n64 (FP.f2d z)) ∧ (∀ e μ9, GM μ x S' (rFx B) (.inl e) μ9 → e ∈ es) ∧
    (∀ cd : Nat → Int32, (∀ e ∈ es, cd e = nI (cdn es e) ∧ cd e ≠ 0) → ∀ r m1, ((∃ (z : UInt32) (μ9 : Mem), GM μ x S' (rFx B) (.inr (some (.float z))) μ9 ∧ r = .inr (some (.int 0)) ∧ dst μ9 od 0 (FP.f2d z) = some m1) ∨ (∃ e : Nat, GM μ x S' (rFx B) (.inl e) m1 ∧ r = .inr (some (.int (cd e))))) → LPF x y out od F r m1) := by
  refine ⟨fun v m hg => ?_, fun e m hg => ?_, fun cd hcd r m1 hg => ?_⟩
  · obtain ⟨h1, -, h3⟩ := hg
    obtain ⟨z, e1, e2⟩ := mx_inr h1
    have hO := (h.2.2.2.fr h3).2
    exact ⟨z, _, e2, dst_ok hO.1 hO.2, hnan z e1⟩
  · obtain ⟨h1, -, -⟩ := hg
    have e1 := mx_inl h1
    subst e1
    exact ag_mem h hv
  · rcases hg with ⟨z, m, ⟨h1, h2, h3⟩, rfl, hl⟩ | ⟨e, ⟨h1, h2, h3⟩, rfl⟩
    · obtain ⟨z', e1, e2⟩ := mx_inr h1
      cases e2
      subst e1
      have hO := (h.2.2.2.fr h3).2
      rw [dst_ok hO.1 hO.2] at hl
      have em := Option.some.inj hl
      have hf2 : FR 2 m m1 := by
        rw [← em]
        exact FR.sE (by rw [hO.1.2]; rfl)
      obtain ⟨b, m2, k1, k2, k3, ⟨k4, k5⟩, -, k6⟩ := sm_after h hI' hv h2 h3 hf2
      subst k5
      refine ⟨0, b, m2, S', rfl, k1, k2, k4, fun _ => ⟨?_, hnan _ rfl⟩, k3⟩
      rw [k6, ← em]
      exact up3_hit _ _ _ _ _
    · have e1 := mx_inl h1
      subst e1
      obtain ⟨b, m2, k1, k2, k3, ⟨k4, k5⟩, -⟩ := sm_after h hI' hv h2 h3 (FR.refl 2 m1)
      exact ⟨cd e, b, m2, S', rfl, k1, k2, by rw [k5, (hcd e k4).1], fun z => absurd z (hcd e k4).2, k3⟩

end P42
