/-! new arrays, and what a constructor has set so far -/
section R13
variable {p : Program} {l : Launch} {e : Env} {R : Room} {s : State} {m : MethodId} {args : Array Value} {below : List Frame} {meth : Method} {c : Code} {H : Heap} {locs : List Loc} {cells slots : Nat} {Q : State → Prop} {cc : ByteArray} {pc nL : Nat} {ls : Array Slot} {rest : List Value} {own : String} {Ts : List Cond} {G : GG} {A : Nat → Prop} {μ : Mem} {P : Nat ⊕ Option Value → Mem → Prop} {mc ms : Nat}
theorem row_new (q k n c : Nat) : mR (sNew μ q k n) c q = fun _ => 0 := by funext i; exact if_pos rfl
theorem row_newS (q k n c : Nat) : mS (sNew μ q k n) c q = fun _ => none := by funext i; exact if_pos rfl
theorem row_newJ (q k n c : Nat) : mJ (sNew μ q k n) c q = fun _ => 0 := by funext i; exact if_pos rfl
theorem row_newE (q k n c : Nat) : mE (sNew μ q k n) c q = fun _ => 0 := by funext i; exact if_pos rfl
theorem ent_narr {ac : Nat → ClassId} {q kd n : Nat} (h : 10 ≤ kd) : ent ac (sNew μ q kd n) q = .inl (ac (aT kd), n, rw9 (sNew μ q kd n) kd q) := by
  have h1 : mK (sNew μ q kd n) q = kd := va_up_self _ _ _
  have h2 : mN (sNew μ q kd n) q = n := va_up_self _ _ _
  rw [ent_arr (by rw [h1]; exact h), h1, h2]
theorem r_newa {atype : ArrayType} {kd N' : Nat} {n : Int32} (hx : p.tables.exec = Jvm.exec) (hb : c.code = cc) (hEK : va_K G.1 vwCl (tyL G.2.1) s) (hA9 : ∀ q, s.heap.size ≤ q → A q) (hW : MW G A μ s.heap H locs) (harr : (Cond.arrayClass (newarray.typeOf atype)).before args s = true) (hkd : 10 ≤ kd)
    (hcase : (aT kd = 0 ∧ newarray.typeOf atype = .int) ∨ (aT kd = 1 ∧ newarray.typeOf atype = .boolean) ∨ (aT kd = 5 ∧ newarray.typeOf atype = .long) ∨ (aT kd = 6 ∧ newarray.typeOf atype = .double)) (hn : ¬ n < 0) (hN : n.toNatClampNeg = N') (hsmall : N' ≤ 1000) (hR : cells + 1 ≤ R.cells ∧ slots + N' ≤ R.slots) (hdg : decode cc pc = .ok (.newarray atype, 2))
    (kk : ∀ (q : Nat) (H1 : Heap), q ∉ mL μ → MW G A (sNew μ q kd N') s.heap H1 locs → W p l e R s m args below meth c H1 locs (cells + 1) (slots + N') Q (F0 m (pc + 2) ls (.ref q :: rest))) : W p l e R s m args below meth c H locs cells slots Q (F0 m pc ls (.int n :: rest)) := by
  rcases hcase with ⟨h, hty⟩ | ⟨h, hty⟩ | ⟨h, hty⟩ | ⟨h, hty⟩
  · refine va_newa (D := G.1) (cl := vwCl) hx hb harr hty hEK hW.1.1 hW.1.2 hW.2 hA9 (a0 := (N', .inl (fun _ => 0))) (fun cA => rfl) hn hN (show N' * 4 ≤ _ by omega) hR.1 hR.2 hdg (fun q cA H1 hK hP hD hS => ?_)
    have e1 : cA = G.2.1 (aT kd) := by rw [h]; exact Option.some.inj (((hK.2 7 (cA, .int) rfl).2).symm.trans ((hEK.2 0 (G.2.1 0, .int) rfl).2))
    obtain ⟨hq, hW1⟩ := MW.push (k := kd) (n := N') hP hD hS (by rw [ent_narr hkd, rw9_i h, row_new, e1])
    exact kk q H1 hq hW1
  · refine va_newa (D := G.1) (cl := vwCl) hx hb harr hty hEK hW.1.1 hW.1.2 hW.2 hA9 (a0 := (N', .inl (fun _ => 0))) (fun cA => rfl) hn hN (show N' * 1 ≤ _ by omega) hR.1 hR.2 hdg (fun q cA H1 hK hP hD hS => ?_)
    have e1 : cA = G.2.1 (aT kd) := by rw [h]; exact Option.some.inj (((hK.2 7 (cA, .boolean) rfl).2).symm.trans ((hEK.2 1 (G.2.1 1, .boolean) rfl).2))
    obtain ⟨hq, hW1⟩ := MW.push (k := kd) (n := N') hP hD hS (by rw [ent_narr hkd, rw9_z h, row_new, e1])
    exact kk q H1 hq hW1
  · refine va_newa (D := G.1) (cl := vwCl) hx hb harr hty hEK hW.1.1 hW.1.2 hW.2 hA9 (a0 := (N', .inr (.inl (fun _ => 0)))) (fun cA => rfl) hn hN (show N' * 8 ≤ _ by omega) hR.1 hR.2 hdg (fun q cA H1 hK hP hD hS => ?_)
    have e1 : cA = G.2.1 (aT kd) := by rw [h]; exact Option.some.inj (((hK.2 7 (cA, .long) rfl).2).symm.trans ((hEK.2 5 (G.2.1 5, .long) rfl).2))
    obtain ⟨hq, hW1⟩ := MW.push (k := kd) (n := N') hP hD hS (by rw [ent_narr hkd, rw9_l h, row_newJ, e1])
    exact kk q H1 hq hW1
  · refine va_newa (D := G.1) (cl := vwCl) hx hb harr hty hEK hW.1.1 hW.1.2 hW.2 hA9 (a0 := (N', .inr (.inr (.inr (.inl (fun _ => 0)))))) (fun cA => rfl) hn hN (show N' * 8 ≤ _ by omega) hR.1 hR.2 hdg (fun q cA H1 hK hP hD hS => ?_)
    have e1 : cA = G.2.1 (aT kd) := by rw [h]; exact Option.some.inj (((hK.2 7 (cA, .double) rfl).2).symm.trans ((hEK.2 6 (G.2.1 6, .double) rfl).2))
    obtain ⟨hq, hW1⟩ := MW.push (k := kd) (n := N') hP hD hS (by rw [ent_narr hkd, rw9_d h, row_newE, e1])
    exact kk q H1 hq hW1
theorem r_newq {C : String} {kd t N' index : Nat} {n : Int32} (X : BX p l s m args meth c cc nL own Ts G A) (hW : MW G A μ s.heap H locs) (hcl : (Cond.classLink own index C).before args s = true) (hAO : va_AO C s) (hkd : 10 ≤ kd) (ht : aT kd = t) (htt : t = 2 ∨ t = 3 ∨ t = 4) (hty : (tyL G.2.1)[t]? = some (G.2.1 t, .object C)) (hn : ¬ n < 0) (hN : n.toNatClampNeg = N') (hsmall : N' ≤ 1000) (hR : cells + 1 ≤ R.cells ∧ slots + N' ≤ R.slots) (hdg : decode cc pc = .ok (.anewarray index, 3))
    (kk : ∀ (q : Nat) (H1 : Heap), q ∉ mL μ → MW G A (sNew μ q kd N') s.heap H1 locs → W p l e R s m args below meth c H1 locs (cells + 1) (slots + N') Q (F0 m (pc + 3) ls (.ref q :: rest))) : W p l e R s m args below meth c H locs cells slots Q (F0 m pc ls (.int n :: rest)) := by
  obtain ⟨hx, hb, -, hown, hts, hE, -, -, -, hA9⟩ := X
  refine va_newq (D := G.1) (cl := vwCl) hx hb hown hcl hAO hE.1 hW.1.1 hW.1.2 hW.2 hA9 hn hN (by omega) hR.1 hR.2 hdg (fun q cA H1 hK hP hD hS => ?_)
  have e1 : cA = G.2.1 (aT kd) := by
    obtain ⟨kA, comp, -, -, -, h1⟩ := (hK.2 7 (cA, .object C) rfl).2
    obtain ⟨kB, comp2, -, -, -, h2⟩ := (hE.1.2 t (G.2.1 t, .object C) hty).2
    rw [ht]
    exact Option.some.inj (h1.symm.trans h2)
  obtain ⟨hq, hW1⟩ := MW.push (k := kd) (n := N') hP hD hS (by rw [ent_narr hkd, rw9_q (by rw [ht]; exact htt), row_newS, e1])
  exact kk q H1 hq hW1
/-- what a constructor of the class ci has set in y: field, array, its kind, its length; the arrays are as they were made -/
def IA (μ : Mem) (ci y : Nat) (L : List (Nat × Nat × Nat × Nat)) : Prop := ok9 μ ci y ∧ ∀ z ∈ L, mQ μ ci z.1 y = some z.2.1 ∧ ok9 μ z.2.2.1 z.2.1 ∧ mN μ z.2.1 = z.2.2.2 ∧ (∀ i, mR μ z.2.2.1 z.2.1 i = 0) ∧ ∀ i, mS μ z.2.2.1 z.2.1 i = none
theorem mem_new {q k n : Nat} : q ∈ mL (sNew μ q k n) := List.mem_append_right _ List.mem_cons_self
theorem mem_old {q k n b : Nat} (h : b ∈ mL μ) : b ∈ mL (sNew μ q k n) := List.mem_append_left _ h
theorem ok_old {q k n b ci : Nat} (hq : q ∉ mL μ) (h : ok9 μ ci b) : ok9 (sNew μ q k n) ci b := ⟨mem_old h.1, (va_up_ne _ _ (show b ≠ q from fun e => hq (e ▸ h.1))).trans h.2⟩
theorem ok_new {q k n : Nat} : ok9 (sNew μ q k n) k q := ⟨mem_new, va_up_self _ _ _⟩
theorem IA.new {ci y q k n : Nat} {L : List (Nat × Nat × Nat × Nat)} (h : IA μ ci y L) (hq : q ∉ mL μ) : IA (sNew μ q k n) ci y L := by
  refine ⟨ok_old hq h.1, fun z hz => ?_⟩
  obtain ⟨h1, h2, h3, h4, h5⟩ := h.2 z hz
  have hy : y ≠ q := fun e => hq (e ▸ h.1.1)
  have hz9 : z.2.1 ≠ q := fun e => hq (e ▸ h2.1)
  refine ⟨(if_neg hy).trans h1, ok_old hq h2, (va_up_ne _ _ hz9).trans h3, fun i => (if_neg hz9).trans (h4 i), fun i => (if_neg hz9).trans (h5 i)⟩
theorem IA.setI {ci y c k a : Nat} {v : Int32} {L : List (Nat × Nat × Nat × Nat)} (h : IA μ ci y L) : IA (sI μ c k a v) ci y L := h
theorem IA.setQ {ci y k q kd n : Nat} {L : List (Nat × Nat × Nat × Nat)} (h : IA (sNew μ q kd n) ci y L) (hk : ∀ z ∈ L, z.1 ≠ k) : IA (sQ (sNew μ q kd n) ci k y (some q)) ci y ((k, q, kd, n) :: L) := by
  refine ⟨h.1, fun z hz => ?_⟩
  rcases List.mem_cons.mp hz with rfl | hz
  · refine ⟨up3_hit _ _ _ _ _, ok_new (n := n), va_up_self _ _ _, fun i => if_pos rfl, fun i => if_pos rfl⟩
  · obtain ⟨h1, h2⟩ := h.2 z hz
    exact ⟨(up3_ne _ _ (fun e => hk z hz e.2.1)).trans h1, h2⟩
end R13
section R14
variable {μ μ' μ2 : Mem}
def IB (μ : Mem) (ci y : Nat) (L : List (Nat × Int32)) : Prop := ∀ z ∈ L, mI μ ci z.1 y = z.2
/-- what a constructor of y leaves alone -/
def NF (y : Nat) (μ μ' : Mem) : Prop := ∀ a ∈ mL μ, a ∈ mL μ' ∧ mK μ' a = mK μ a ∧ mN μ' a = mN μ a ∧ (∀ c i, mR μ' c a i = mR μ c a i ∧ mS μ' c a i = mS μ c a i ∧ mJ μ' c a i = mJ μ c a i ∧ mE μ' c a i = mE μ c a i) ∧ (a ≠ y → ∀ c k, mI μ' c k a = mI μ c k a ∧ mQ μ' c k a = mQ μ c k a)
theorem IB.new {ci y q k n : Nat} {L : List (Nat × Int32)} (h : IB μ ci y L) (hy : y ∈ mL μ) (hq : q ∉ mL μ) : IB (sNew μ q k n) ci y L := fun z hz => (if_neg (show ¬ y = q from fun e => hq (e ▸ hy))).trans (h z hz)
theorem IB.setQ {ci y c k a : Nat} {v : Option Nat} {L : List (Nat × Int32)} (h : IB μ ci y L) : IB (sQ μ c k a v) ci y L := h
theorem IB.setI {ci y k : Nat} {v : Int32} {L : List (Nat × Int32)} (h : IB μ ci y L) (hk : ∀ z ∈ L, z.1 ≠ k) : IB (sI μ ci k y v) ci y ((k, v) :: L) := by
  intro z hz
  rcases List.mem_cons.mp hz with rfl | hz
  · exact up3_hit _ _ _ _ _
  · exact (up3_ne _ _ (fun e => hk z hz e.2.1)).trans (h z hz)
theorem NF.rfl9 (y : Nat) (μ : Mem) : NF y μ μ := fun _ h => ⟨h, rfl, rfl, fun _ _ => ⟨rfl, rfl, rfl, rfl⟩, fun _ _ _ => ⟨rfl, rfl⟩⟩
theorem NF.new {y q k n : Nat} (h : NF y μ μ') (hq : q ∉ mL μ') : NF y μ (sNew μ' q k n) := by
  intro a ha
  obtain ⟨h1, h2, h3, h4, h5⟩ := h a ha
  have hn : a ≠ q := fun e => hq (e ▸ h1)
  refine ⟨mem_old h1, (va_up_ne _ _ hn).trans h2, (va_up_ne _ _ hn).trans h3, fun c i => ?_, fun hy c k => ?_⟩
  · obtain ⟨g1, g2, g3, g4⟩ := h4 c i
    exact ⟨(if_neg hn).trans g1, (if_neg hn).trans g2, (if_neg hn).trans g3, (if_neg hn).trans g4⟩
  · obtain ⟨g1, g2⟩ := h5 hy c k
    exact ⟨(if_neg hn).trans g1, (if_neg hn).trans g2⟩
theorem NF.setI {y c k : Nat} {v : Int32} (h : NF y μ μ') : NF y μ (sI μ' c k y v) := by
  intro a ha
  obtain ⟨h1, h2, h3, h4, h5⟩ := h a ha
  exact ⟨h1, h2, h3, h4, fun hy c k => ⟨(up3_ne _ _ (fun e => hy e.2.2)).trans (h5 hy c k).1, (h5 hy c k).2⟩⟩
theorem NF.setQ {y c k : Nat} {v : Option Nat} (h : NF y μ μ') : NF y μ (sQ μ' c k y v) := by
  intro a ha
  obtain ⟨h1, h2, h3, h4, h5⟩ := h a ha
  exact ⟨h1, h2, h3, h4, fun hy c k => ⟨(h5 hy c k).1, (up3_ne _ _ (fun e => hy e.2.2)).trans (h5 hy c k).2⟩⟩
/-- a constructor of another object, on the way -/
theorem NF.call {y b : Nat} (h : NF y μ μ') (h2 : NF b μ' μ2) (hb : b ∉ mL μ) : NF y μ μ2 := by
  intro a ha
  obtain ⟨h1, h2', h3, h4, h5⟩ := h a ha
  obtain ⟨g1, g2, g3, g4, g5⟩ := h2 a h1
  have hn : a ≠ b := fun e => hb (e ▸ ha)
  refine ⟨g1, g2.trans h2', g3.trans h3, fun c i => ?_, fun hy c k => ?_⟩
  · obtain ⟨p1, p2, p3, p4⟩ := h4 c i
    obtain ⟨q1, q2, q3, q4⟩ := g4 c i
    exact ⟨q1.trans p1, q2.trans p2, q3.trans p3, q4.trans p4⟩
  · exact ⟨(g5 hn c k).1.trans (h5 hy c k).1, (g5 hn c k).2.trans (h5 hy c k).2⟩
theorem IA.nf {ci y b : Nat} {L : List (Nat × Nat × Nat × Nat)} (h : IA μ ci y L) (hn : NF b μ μ') (hy : y ≠ b) : IA μ' ci y L := by
  obtain ⟨⟨h1, h2⟩, h3⟩ := h
  obtain ⟨g1, g2, g3, g4, g5⟩ := hn y h1
  refine ⟨⟨g1, g2.trans h2⟩, fun z hz => ?_⟩
  obtain ⟨p1, ⟨p2, p3⟩, p4, p5, p6⟩ := h3 z hz
  obtain ⟨r1, r2, r3, r4, r5⟩ := hn z.2.1 p2
  exact ⟨(g5 hy ci z.1).2.trans p1, ⟨r1, r2.trans p3⟩, r3.trans p4, fun i => (r4 z.2.2.1 i).1.trans (p5 i), fun i => (r4 z.2.2.1 i).2.1.trans (p6 i)⟩
theorem IB.nf {ci y b : Nat} {L : List (Nat × Int32)} (h : IB μ ci y L) (hyL : y ∈ mL μ) (hn : NF b μ μ') (hy : y ≠ b) : IB μ' ci y L := fun z hz => (((hn y hyL).2.2.2.2 hy ci z.1).1).trans (h z hz)
end R14
