/-! FRAMES: what a call leaves alone. Groups: 0 the class's cells, 1 the reference's, 2 the law's two arrays -/
def gk (k : Nat) : Nat := if k = 7 then 1 else if k < 29 then 0 else if k < 50 then 1 else 2
def SA (μ μ' : Mem) (a : Nat) : Prop := ∀ c k : Nat, mI μ' c k a = mI μ c k a ∧ mQ μ' c k a = mQ μ c k a ∧ mR μ' c a k = mR μ c a k ∧ mS μ' c a k = mS μ c a k ∧ mJ μ' c a k = mJ μ c a k ∧ mE μ' c a k = mE μ c a k
def FR (g : Nat) (μ μ' : Mem) : Prop := ∀ a ∈ mL μ, a ∈ mL μ' ∧ mK μ' a = mK μ a ∧ mN μ' a = mN μ a ∧ (gk (mK μ a) ≠ g → SA μ μ' a)
theorem SA.refl (μ : Mem) (a : Nat) : SA μ μ a := fun _ _ => ⟨rfl, rfl, rfl, rfl, rfl, rfl⟩
theorem SA.trans {μ1 μ2 μ3 : Mem} {a : Nat} (h : SA μ1 μ2 a) (k : SA μ2 μ3 a) : SA μ1 μ3 a := by
  intro c j
  obtain ⟨h1, h2, h3, h4, h5, h6⟩ := h c j
  obtain ⟨k1, k2, k3, k4, k5, k6⟩ := k c j
  exact ⟨k1.trans h1, k2.trans h2, k3.trans h3, k4.trans h4, k5.trans h5, k6.trans h6⟩
theorem FR.refl (g : Nat) (μ : Mem) : FR g μ μ := fun a ha => ⟨ha, rfl, rfl, fun _ => SA.refl μ a⟩
theorem FR.trans {g : Nat} {μ1 μ2 μ3 : Mem} (h : FR g μ1 μ2) (k : FR g μ2 μ3) : FR g μ1 μ3 := by
  intro a ha
  obtain ⟨h1, h2, h3, h4⟩ := h a ha
  obtain ⟨k1, k2, k3, k4⟩ := k a h1
  exact ⟨k1, k2.trans h2, k3.trans h3, fun z => (h4 z).trans (k4 (by rw [h2]; exact z))⟩
theorem FR.sI {g : Nat} {μ : Mem} {c k a : Nat} {v : Int32} (h : gk (mK μ a) = g) : FR g μ (sI μ c k a v) := by
  intro b hb
  refine ⟨hb, rfl, rfl, fun z c' k' => ⟨up3_ne _ _ (fun e => z ?_), rfl, rfl, rfl, rfl, rfl⟩⟩
  rw [e.2.2]; exact h
theorem FR.sQ {g : Nat} {μ : Mem} {c k a : Nat} {v : Option Nat} (h : gk (mK μ a) = g) : FR g μ (sQ μ c k a v) := by
  intro b hb
  refine ⟨hb, rfl, rfl, fun z c' k' => ⟨rfl, up3_ne _ _ (fun e => z ?_), rfl, rfl, rfl, rfl⟩⟩
  rw [e.2.2]; exact h
theorem FR.sR {g : Nat} {μ : Mem} {k a i : Nat} {v : Int32} (h : gk (mK μ a) = g) : FR g μ (sR μ k a i v) := by
  intro b hb
  refine ⟨hb, rfl, rfl, fun z c' k' => ⟨rfl, rfl, up3_ne _ _ (fun e => z ?_), rfl, rfl, rfl⟩⟩
  rw [e.2.1]; exact h
theorem FR.sS {g : Nat} {μ : Mem} {k a i : Nat} {v : Option Nat} (h : gk (mK μ a) = g) : FR g μ (sS μ k a i v) := by
  intro b hb
  refine ⟨hb, rfl, rfl, fun z c' k' => ⟨rfl, rfl, rfl, up3_ne _ _ (fun e => z ?_), rfl, rfl⟩⟩
  rw [e.2.1]; exact h
theorem FR.sJ {g : Nat} {μ : Mem} {k a i : Nat} {v : Int64} (h : gk (mK μ a) = g) : FR g μ (sJ μ k a i v) := by
  intro b hb
  refine ⟨hb, rfl, rfl, fun z c' k' => ⟨rfl, rfl, rfl, rfl, up3_ne _ _ (fun e => z ?_), rfl⟩⟩
  rw [e.2.1]; exact h
theorem FR.sE {g : Nat} {μ : Mem} {k a i : Nat} {v : UInt64} (h : gk (mK μ a) = g) : FR g μ (sE μ k a i v) := by
  intro b hb
  refine ⟨hb, rfl, rfl, fun z c' k' => ⟨rfl, rfl, rfl, rfl, rfl, up3_ne _ _ (fun e => z ?_)⟩⟩
  rw [e.2.1]; exact h
theorem FR.sNew {g : Nat} {μ : Mem} {q k n : Nat} (h : q ∉ mL μ) : FR g μ (sNew μ q k n) := by
  intro b hb
  have e : b ≠ q := fun z => h (z ▸ hb)
  exact ⟨List.mem_append_left _ hb, va_up_ne _ _ e, va_up_ne _ _ e, fun _ c' k' => ⟨if_neg e, if_neg e, if_neg e, if_neg e, if_neg e, if_neg e⟩⟩
theorem FR.ok {g : Nat} {μ μ' : Mem} (h : FR g μ μ') {k a : Nat} (ha : ok9 μ k a) : ok9 μ' k a := ⟨(h a ha.1).1, (h a ha.1).2.1.trans ha.2⟩
theorem FR.nn {g : Nat} {μ μ' : Mem} (h : FR g μ μ') {k a : Nat} (ha : ok9 μ k a) : mN μ' a = mN μ a := (h a ha.1).2.2.1
theorem FR.sa {g : Nat} {μ μ' : Mem} (h : FR g μ μ') {k a : Nat} (ha : ok9 μ k a) (hk : gk k ≠ g) : SA μ μ' a := (h a ha.1).2.2.2 (by rw [ha.2]; exact hk)
theorem gk_c {k : Nat} (h : k < 29) (h7 : k ≠ 7) : gk k = 0 := by
  unfold gk
  rw [if_neg h7, if_pos h]
theorem gk_m {k : Nat} (h : 29 ≤ k) (h5 : k < 50) : gk k = 1 := by
  unfold gk
  rw [if_neg (by omega), if_neg (by omega), if_pos h5]
theorem mkind_m {k : Nat} (hk : (1 ≤ k ∧ k ≤ 14) ∨ k = 21 ∨ k = 22 ∨ k = 24 ∨ k = 25 ∨ k = 26) : gk (mkind k) = 1 := by
  apply gk_m <;> unfold mkind <;> split <;> (try split) <;> omega
section P36
variable {μ μ' : Mem} {x y : Nat} {ad : Nat → Nat → Nat} {am : Nat → Nat} {S : SS} {g : Nat}
theorem BK.fr (h : FR g μ μ') (hg : g ≠ 0) {bl : Nat} {bk : Nat → Nat} (b : BK μ bl bk) : BK μ' bl bk := by
  refine ⟨h.ok b.1, fun k hk => ?_⟩
  obtain ⟨h1, h2, h3⟩ := b.2 k hk
  exact ⟨((h.sa b.1 (by rw [gk_c (by decide) (by decide)]; exact hg.symm) 3 k).2.1).trans h1, h.ok h2, (h.nn h2).trans h3⟩
theorem BP.fr (h : FR g μ μ') (hg : g ≠ 0) (b : BP μ x ad S) : BP μ' x ad S := by
  obtain ⟨⟨x9, q0, q1, q2, q3⟩, ⟨i4, i5, i6, i7, i8, i9⟩, ⟨⟨r0, n0⟩, ⟨r1, n1⟩, ⟨r2, n2⟩⟩, hb, ⟨s0, s1, s2⟩, ⟨p, br, nt⟩, hj⟩ := b
  have hgk : ∀ k, k < 29 → k ≠ 7 → gk k ≠ g := fun k h1 h2 => by rw [gk_c h1 h2]; exact hg.symm
  have sx := h.sa x9 (hgk 6 (by decide) (by decide))
  have a0 := h.sa r0 (hgk 20 (by decide) (by decide))
  have a1 := h.sa r1 (hgk 21 (by decide) (by decide))
  have a2 := h.sa r2 (hgk 22 (by decide) (by decide))
  refine ⟨⟨h.ok x9, ((sx 6 0).2.1).trans q0, ((sx 6 1).2.1).trans q1, ((sx 6 2).2.1).trans q2, ((sx 6 3).2.1).trans q3⟩,
    ⟨((sx 6 4).1).trans i4, ((sx 6 5).1).trans i5, ((sx 6 6).1).trans i6, ((sx 6 7).1).trans i7, ((sx 6 8).1).trans i8, ((sx 6 9).1).trans i9⟩,
    ⟨⟨h.ok r0, (h.nn r0).trans n0⟩, ⟨h.ok r1, (h.nn r1).trans n1⟩, ⟨h.ok r2, (h.nn r2).trans n2⟩⟩, hb.fr h hg,
    ⟨fun i hi => ((a0 20 i).2.2.2.1).trans (s0 i hi), fun i hi => ((a1 21 i).2.2.2.1).trans (s1 i hi), fun i hi => ((a2 22 i).2.2.2.1).trans (s2 i hi)⟩,
    ⟨fun i hi => ?_, fun i hi => ?_, fun i hi => ?_⟩, hj⟩
  · obtain ⟨o, e0, e1⟩ := p i hi
    have sp := h.sa o (hgk 5 (by decide) (by decide))
    exact ⟨h.ok o, ((sp 5 0).1).trans e0, ((sp 5 1).1).trans e1⟩
  · obtain ⟨o, e0, e1, e2⟩ := br i hi
    have sp := h.sa o (hgk 2 (by decide) (by decide))
    exact ⟨h.ok o, ((sp 2 0).1).trans e0, ((sp 2 1).1).trans e1, ((sp 2 2).1).trans e2⟩
  · obtain ⟨o, e0⟩ := nt i hi
    have sp := h.sa o (hgk 4 (by decide) (by decide))
    exact ⟨h.ok o, fun k hk => ((sp 4 k).1).trans (e0 k hk)⟩
theorem MP.fr (h : FR g μ μ') (hg : g ≠ 1) (b : MP μ y am S) : MP μ' y am S := by
  obtain ⟨y9, hq, ⟨i15, i16, i17, i18, i19, i20⟩, hp, hp0, hb, hn, hn0⟩ := b
  have sy := h.sa y9 (show gk 7 ≠ g from fun z => hg z.symm)
  have sk : ∀ k, ((1 ≤ k ∧ k ≤ 14) ∨ k = 21 ∨ k = 22 ∨ k = 24 ∨ k = 25 ∨ k = 26) → SA μ μ' (am k) := fun k hk => h.sa (hq k hk).2.1 (by rw [mkind_m hk]; exact hg.symm)
  refine ⟨h.ok y9, fun k hk => ⟨((sy 7 k).2.1).trans (hq k hk).1, h.ok (hq k hk).2.1, (h.nn (hq k hk).2.1).trans (hq k hk).2.2⟩,
    ⟨((sy 7 15).1).trans i15, ((sy 7 16).1).trans i16, ((sy 7 17).1).trans i17, ((sy 7 18).1).trans i18, ((sy 7 19).1).trans i19, ((sy 7 20).1).trans i20⟩,
    fun p h1 => ⟨((sk 1 (by decide) 30 p).2.2.1).trans (hp p h1).1, ((sk 14 (by decide) 43 p).2.2.1).trans (hp p h1).2⟩, fun p h1 h2 => ((sk 14 (by decide) 43 p).2.2.1).trans (hp0 p h1 h2),
    fun b h1 => ⟨((sk 2 (by decide) 31 b).2.2.1).trans (hb b h1).1, ((sk 3 (by decide) 32 b).2.2.1).trans (hb b h1).2.1, ((sk 12 (by decide) 41 b).2.2.1).trans (hb b h1).2.2⟩,
    fun i h1 => ⟨fun k h2 => ((sk (4 + k) (by omega) (33 + k) i).2.2.1).trans ((hn i h1).1 k h2), ((sk 10 (by decide) 39 i).2.2.1).trans (hn i h1).2.1, ((sk 11 (by decide) 40 i).2.2.1).trans (hn i h1).2.2.1, ((sk 13 (by decide) 42 i).2.2.1).trans (hn i h1).2.2.2⟩,
    fun i h1 h2 => ⟨((sk 10 (by decide) 39 i).2.2.1).trans (hn0 i h1 h2).1, ((sk 11 (by decide) 40 i).2.2.1).trans (hn0 i h1 h2).2.1, ((sk 13 (by decide) 42 i).2.2.1).trans (hn0 i h1 h2).2.2⟩⟩
theorem OA.fr {o od : Nat} (h : FR g μ μ') (b : OA μ o od) : OA μ' o od := ⟨⟨h.ok b.1.1, (h.nn b.1.1).trans b.1.2⟩, h.ok b.2.1, (h.nn b.2.1).trans b.2.2⟩
theorem OA.lld {o od : Nat} (h : FR g μ μ') (hg : g ≠ 2) (b : OA μ o od) : mJ μ' 60 o 0 = mJ μ 60 o 0 ∧ mE μ' 61 od 0 = mE μ 61 od 0 :=
  ⟨(h.sa b.1.1 (show gk 60 ≠ g from fun z => hg z.symm) 60 0).2.2.2.2.1, (h.sa b.2.1 (show gk 61 ≠ g from fun z => hg z.symm) 61 0).2.2.2.2.2⟩
theorem mI_sI_n {c k a c' k' a' : Nat} {v : Int32} (h : ¬ (c' = c ∧ k' = k ∧ a' = a)) : mI (sI μ c k a v) c' k' a' = mI μ c' k' a' := if_neg h
theorem mI_sI_c {c k a c' k' a' : Nat} {v : Int32} (h : ¬ c' = c) : mI (sI μ c k a v) c' k' a' = mI μ c' k' a' := if_neg (fun e => h e.1)
theorem mI_sI_k {c k a c' k' a' : Nat} {v : Int32} (h : ¬ k' = k) : mI (sI μ c k a v) c' k' a' = mI μ c' k' a' := if_neg (fun e => h e.2.1)
theorem mI_sI_h {c k a : Nat} {v : Int32} : mI (sI μ c k a v) c k a = v := if_pos ⟨rfl, rfl, rfl⟩
theorem mR_sR_n {k a i k' a' i' : Nat} {v : Int32} (h : ¬ (k' = k ∧ a' = a ∧ i' = i)) : mR (sR μ k a i v) k' a' i' = mR μ k' a' i' := if_neg h
theorem mR_sR_k {k a i k' a' i' : Nat} {v : Int32} (h : ¬ k' = k) : mR (sR μ k a i v) k' a' i' = mR μ k' a' i' := if_neg (fun e => h e.1)
theorem mR_sR_i {k a i k' a' i' : Nat} {v : Int32} (h : ¬ i' = i) : mR (sR μ k a i v) k' a' i' = mR μ k' a' i' := if_neg (fun e => h e.2.2)
theorem mR_sR_h {k a i : Nat} {v : Int32} : mR (sR μ k a i v) k a i = v := if_pos ⟨rfl, rfl, rfl⟩
/-! one column of the state at one place -/
def upS (S : SS) (c i : Nat) (v : Int32) : SS := (S.1, fun c' i' => if c' = c ∧ i' = i then v else S.2 c' i')
theorem upS_hit (S : SS) (c i : Nat) (v : Int32) : (upS S c i v).2 c i = v := if_pos ⟨rfl, rfl⟩
theorem upS_ne (S : SS) {c i c' i' : Nat} (v : Int32) (h : ¬ (c' = c ∧ i' = i)) : (upS S c i v).2 c' i' = S.2 c' i' := if_neg h
/-- a field of a note -/
theorem BP.setN {i k : Nat} {v : Int32} (b : BP μ x ad S) (hi : i < S.1.2.2) (hk : k < 11) : BP (sI μ 4 k (ad 4 i) v) x ad (upS S (k + 5) i v) := by
  obtain ⟨h1, ⟨i4, i5, i6, i7, i8, i9⟩, h3, h4, h5, ⟨p, br, nt⟩, hj⟩ := b
  refine ⟨h1, ⟨?_, ?_, ?_, ?_, ?_, ?_⟩, h3, h4, h5, ⟨fun j hj' => ?_, fun j hj' => ?_, fun j hj' => ⟨(nt j hj').1, fun k' hk' => ?_⟩⟩, hj⟩
  · exact (mI_sI_c (by decide)).trans i4
  · exact (mI_sI_c (by decide)).trans i5
  · exact (mI_sI_c (by decide)).trans i6
  · exact ((mI_sI_c (by decide)).trans i7).trans (upS_ne _ _ (by omega)).symm
  · exact ((mI_sI_c (by decide)).trans i8).trans (upS_ne _ _ (by omega)).symm
  · exact ((mI_sI_c (by decide)).trans i9).trans (upS_ne _ _ (by omega)).symm
  · obtain ⟨o, e0, e1⟩ := p j hj'
    exact ⟨o, ((mI_sI_c (by decide)).trans e0).trans (upS_ne _ _ (by omega)).symm, ((mI_sI_c (by decide)).trans e1).trans (upS_ne _ _ (by omega)).symm⟩
  · obtain ⟨o, e0, e1, e2⟩ := br j hj'
    refine ⟨o, ((mI_sI_c (by decide)).trans e0).trans ?_, ((mI_sI_c (by decide)).trans e1).trans (upS_ne _ _ (by omega)).symm, ((mI_sI_c (by decide)).trans e2).trans (upS_ne _ _ (by omega)).symm⟩
    rw [upS_ne _ _ (by omega)]
  · by_cases e : k' = k ∧ j = i
    · obtain ⟨rfl, rfl⟩ := e
      exact mI_sI_h.trans (upS_hit _ _ _ _).symm
    · refine ((mI_sI_n (fun z => e ⟨z.2.1, hj.2.2 j i hj' hi z.2.2⟩)).trans ((nt j hj').2 k' hk')).trans (upS_ne _ _ (fun z => e ⟨by omega, z.2⟩)).symm
/-- a bar's key or mark -/
theorem BP.setB {i k : Nat} {v : Int32} (b : BP μ x ad S) (hi : i < S.1.2.1) (hk : k = 1 ∨ k = 2) : BP (sI μ 2 k (ad 3 i) v) x ad (upS S (k + 2) i v) := by
  obtain ⟨h1, ⟨i4, i5, i6, i7, i8, i9⟩, h3, h4, h5, ⟨p, br, nt⟩, hj⟩ := b
  refine ⟨h1, ⟨?_, ?_, ?_, ?_, ?_, ?_⟩, h3, h4, h5, ⟨fun j hj' => ?_, fun j hj' => ?_, fun j hj' => ⟨(nt j hj').1, fun k' hk' => ?_⟩⟩, hj⟩
  · exact (mI_sI_c (by decide)).trans i4
  · exact (mI_sI_c (by decide)).trans i5
  · exact (mI_sI_c (by decide)).trans i6
  · exact ((mI_sI_c (by decide)).trans i7).trans (upS_ne _ _ (by omega)).symm
  · exact ((mI_sI_c (by decide)).trans i8).trans (upS_ne _ _ (by omega)).symm
  · exact ((mI_sI_c (by decide)).trans i9).trans (upS_ne _ _ (by omega)).symm
  · obtain ⟨o, e0, e1⟩ := p j hj'
    exact ⟨o, ((mI_sI_c (by decide)).trans e0).trans (upS_ne _ _ (by omega)).symm, ((mI_sI_c (by decide)).trans e1).trans (upS_ne _ _ (by omega)).symm⟩
  · obtain ⟨o, e0, e1, e2⟩ := br j hj'
    refine ⟨o, ((mI_sI_k (by omega)).trans e0).trans ?_, ?_, ?_⟩
    · rw [upS_ne _ _ (by omega)]
    · by_cases e : 1 = k ∧ j = i
      · obtain ⟨rfl, rfl⟩ := e
        exact mI_sI_h.trans (upS_hit _ _ _ _).symm
      · exact ((mI_sI_n (fun z => e ⟨z.2.1, hj.2.1 j i hj' hi z.2.2⟩)).trans e1).trans (upS_ne _ _ (fun z => e ⟨by omega, z.2⟩)).symm
    · by_cases e : 2 = k ∧ j = i
      · obtain ⟨rfl, rfl⟩ := e
        exact mI_sI_h.trans (upS_hit _ _ _ _).symm
      · exact ((mI_sI_n (fun z => e ⟨z.2.1, hj.2.1 j i hj' hi z.2.2⟩)).trans e2).trans (upS_ne _ _ (fun z => e ⟨by omega, z.2⟩)).symm
  · exact ((mI_sI_c (by decide)).trans ((nt j hj').2 k' hk')).trans (upS_ne _ _ (by omega)).symm
/-- a part is copied -/
theorem BP.setP {i : Nat} {v : Int32} (b : BP μ x ad S) (hi : i < S.1.1) : BP (sI μ 5 1 (ad 2 i) v) x ad (upS S 1 i v) := by
  obtain ⟨h1, ⟨i4, i5, i6, i7, i8, i9⟩, h3, h4, h5, ⟨p, br, nt⟩, hj⟩ := b
  refine ⟨h1, ⟨?_, ?_, ?_, ?_, ?_, ?_⟩, h3, h4, h5, ⟨fun j hj' => ?_, fun j hj' => ?_, fun j hj' => ⟨(nt j hj').1, fun k' hk' => ?_⟩⟩, hj⟩
  · exact (mI_sI_c (by decide)).trans i4
  · exact (mI_sI_c (by decide)).trans i5
  · exact (mI_sI_c (by decide)).trans i6
  · exact ((mI_sI_c (by decide)).trans i7).trans (upS_ne _ _ (by omega)).symm
  · exact ((mI_sI_c (by decide)).trans i8).trans (upS_ne _ _ (by omega)).symm
  · exact ((mI_sI_c (by decide)).trans i9).trans (upS_ne _ _ (by omega)).symm
  · obtain ⟨o, e0, e1⟩ := p j hj'
    refine ⟨o, ((mI_sI_k (by decide)).trans e0).trans (upS_ne _ _ (by omega)).symm, ?_⟩
    by_cases e : j = i
    · subst e
      exact mI_sI_h.trans (upS_hit _ _ _ _).symm
    · exact ((mI_sI_n (fun z => e (hj.1 j i hj' hi z.2.2))).trans e1).trans (upS_ne _ _ (fun z => e z.2)).symm
  · obtain ⟨o, e0, e1, e2⟩ := br j hj'
    refine ⟨o, ((mI_sI_c (by decide)).trans e0).trans ?_, ((mI_sI_c (by decide)).trans e1).trans (upS_ne _ _ (by omega)).symm, ((mI_sI_c (by decide)).trans e2).trans (upS_ne _ _ (by omega)).symm⟩
    rw [upS_ne _ _ (by omega)]
  · exact ((mI_sI_c (by decide)).trans ((nt j hj').2 k' hk')).trans (upS_ne _ _ (by omega)).symm
end P36
