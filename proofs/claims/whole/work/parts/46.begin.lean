/-! THE LAW'S BEGINNING: both sides made, and the two arrays (printed by mk_begin.py) -/
def M00 : Mem := ([], fun _ => 0, fun _ => 0, fun _ _ _ => 0, fun _ _ _ => none, fun _ _ _ => 0, fun _ _ _ => none, fun _ _ _ => 0, fun _ _ _ => 0)
def S00 : SS := ((0, 0, 0), fun c i => if c = 16 then (if i = 0 then 12 else if i = 1 then 4 else 2) else 0)
theorem inv_00 : Inv S00 := ⟨⟨by decide, by decide, by decide⟩, fun p h => absurd h (Nat.not_lt_zero p), fun p h => absurd h (Nat.not_lt_zero p), fun p h => absurd h (Nat.not_lt_zero p), by decide +kernel⟩
section P46
variable {μ μ' : Mem}
theorem IA.at9 {ci y : Nat} {L : List (Nat × Nat × Nat × Nat)} (h : IA μ ci y L) (n : Nat) {z : Nat × Nat × Nat × Nat} (hz : L[n]? = some z) : mQ μ ci z.1 y = some z.2.1 ∧ ok9 μ z.2.2.1 z.2.1 ∧ mN μ z.2.1 = z.2.2.2 ∧ (∀ i, mR μ z.2.2.1 z.2.1 i = 0) ∧ ∀ i, mS μ z.2.2.1 z.2.1 i = none := h.2 z (List.mem_of_getElem? hz)
theorem IB.at9 {ci y : Nat} {L : List (Nat × Int32)} (h : IB μ ci y L) (n : Nat) {z : Nat × Int32} (hz : L[n]? = some z) : mI μ ci z.1 y = z.2 := h z (List.mem_of_getElem? hz)
def ad00 (q0 q1 q2 qb w0 w1 w2 w3 w4 w5 w6 w7 w8 : Nat) : Nat → Nat → Nat := fun a k => match a with
  | 0 => (match k with | 0 => q0 | 1 => q1 | 2 => q2 | _ => qb)
  | 1 => (match k with | 0 => w0 | 1 => w1 | 2 => w2 | 3 => w3 | 4 => w4 | 5 => w5 | 6 => w6 | 7 => w7 | _ => w8)
  | _ => 0
def am00 (a1 a2 a3 a4 a5 a6 a7 a8 a9 a10 a11 a12 a13 a14 a21 a22 a24 a25 a26 : Nat) : Nat → Nat := fun k => match k with
  | 1 => a1 | 2 => a2 | 3 => a3 | 4 => a4 | 5 => a5 | 6 => a6 | 7 => a7 | 8 => a8 | 9 => a9 | 10 => a10 | 11 => a11 | 12 => a12 | 13 => a13 | 14 => a14 | 21 => a21 | 22 => a22 | 24 => a24 | 25 => a25 | 26 => a26 | _ => 0
theorem bp_00 {x q0 q1 q2 qb w0 w1 w2 w3 w4 w5 w6 w7 w8 : Nat} (hQ : mQ μ 6 3 x = some qb) (hA : IA μ 6 x [(2, q2, 22, 120), (1, q1, 21, 14), (0, q0, 20, 5)]) (hA3 : IA μ 3 qb [(8, w8, 18, 15), (7, w7, 17, 15), (6, w6, 16, 15), (5, w5, 15, 15), (4, w4, 14, 15), (3, w3, 13, 15), (2, w2, 12, 15), (1, w1, 11, 15), (0, w0, 10, 15)]) (hI : IB μ 6 x [(9, 2), (8, 4), (7, 12), (6, 0), (5, 0), (4, 0)]) : BP μ x (ad00 q0 q1 q2 qb w0 w1 w2 w3 w4 w5 w6 w7 w8) S00 := by
  refine ⟨⟨hA.1, (hA.at9 2 rfl).1, (hA.at9 1 rfl).1, (hA.at9 0 rfl).1, hQ⟩, ⟨(hI.at9 5 rfl).trans nI_0.symm, (hI.at9 4 rfl).trans nI_0.symm, (hI.at9 3 rfl).trans nI_0.symm, hI.at9 2 rfl, hI.at9 1 rfl, hI.at9 0 rfl⟩, ⟨⟨(hA.at9 2 rfl).2.1, (hA.at9 2 rfl).2.2.1⟩, ⟨(hA.at9 1 rfl).2.1, (hA.at9 1 rfl).2.2.1⟩, ⟨(hA.at9 0 rfl).2.1, (hA.at9 0 rfl).2.2.1⟩⟩, ⟨hA3.1, fun k hk => ?_⟩, ⟨fun i _ => ((hA.at9 2 rfl).2.2.2.2 i).trans (if_neg (Nat.not_lt_zero i)).symm, fun i _ => ((hA.at9 1 rfl).2.2.2.2 i).trans (if_neg (Nat.not_lt_zero i)).symm, fun i _ => ((hA.at9 0 rfl).2.2.2.2 i).trans (if_neg (Nat.not_lt_zero i)).symm⟩, ⟨fun i h => absurd h (Nat.not_lt_zero i), fun i h => absurd h (Nat.not_lt_zero i), fun i h => absurd h (Nat.not_lt_zero i)⟩, ⟨fun i _ h => absurd h (Nat.not_lt_zero i), fun i _ h => absurd h (Nat.not_lt_zero i), fun i _ h => absurd h (Nat.not_lt_zero i)⟩⟩
  rcases (show k = 0 ∨ k = 1 ∨ k = 2 ∨ k = 3 ∨ k = 4 ∨ k = 5 ∨ k = 6 ∨ k = 7 ∨ k = 8 by omega) with rfl | rfl | rfl | rfl | rfl | rfl | rfl | rfl | rfl
  · exact ⟨(hA3.at9 8 rfl).1, (hA3.at9 8 rfl).2.1, (hA3.at9 8 rfl).2.2.1⟩
  · exact ⟨(hA3.at9 7 rfl).1, (hA3.at9 7 rfl).2.1, (hA3.at9 7 rfl).2.2.1⟩
  · exact ⟨(hA3.at9 6 rfl).1, (hA3.at9 6 rfl).2.1, (hA3.at9 6 rfl).2.2.1⟩
  · exact ⟨(hA3.at9 5 rfl).1, (hA3.at9 5 rfl).2.1, (hA3.at9 5 rfl).2.2.1⟩
  · exact ⟨(hA3.at9 4 rfl).1, (hA3.at9 4 rfl).2.1, (hA3.at9 4 rfl).2.2.1⟩
  · exact ⟨(hA3.at9 3 rfl).1, (hA3.at9 3 rfl).2.1, (hA3.at9 3 rfl).2.2.1⟩
  · exact ⟨(hA3.at9 2 rfl).1, (hA3.at9 2 rfl).2.1, (hA3.at9 2 rfl).2.2.1⟩
  · exact ⟨(hA3.at9 1 rfl).1, (hA3.at9 1 rfl).2.1, (hA3.at9 1 rfl).2.2.1⟩
  · exact ⟨(hA3.at9 0 rfl).1, (hA3.at9 0 rfl).2.1, (hA3.at9 0 rfl).2.2.1⟩
theorem mp_00 {y a1 a2 a3 a4 a5 a6 a7 a8 a9 a10 a11 a12 a13 a14 a21 a22 a24 a25 a26 : Nat} (hA : IA μ 7 y [(26, a26, 48, 15), (25, a25, 47, 15), (24, a24, 46, 15), (22, a22, 45, 14), (21, a21, 44, 14), (14, a14, 43, 5), (13, a13, 42, 120), (12, a12, 41, 14), (11, a11, 40, 120), (10, a10, 39, 120), (9, a9, 38, 120), (8, a8, 37, 120), (7, a7, 36, 120), (6, a6, 35, 120), (5, a5, 34, 120), (4, a4, 33, 120), (3, a3, 32, 14), (2, a2, 31, 14), (1, a1, 30, 5)]) (hI : IB μ 7 y [(20, 2), (19, 4), (18, 12), (0, 0), (15, 0), (16, 0), (17, 0), (23, 0)]) : MP μ y (am00 a1 a2 a3 a4 a5 a6 a7 a8 a9 a10 a11 a12 a13 a14 a21 a22 a24 a25 a26) S00 := by
  refine ⟨hA.1, fun k hk => ?_, ⟨(hI.at9 4 rfl).trans nI_0.symm, (hI.at9 5 rfl).trans nI_0.symm, (hI.at9 6 rfl).trans nI_0.symm, hI.at9 2 rfl, hI.at9 1 rfl, hI.at9 0 rfl⟩, fun p h => absurd h (Nat.not_lt_zero p), fun p _ _ => (hA.at9 5 rfl).2.2.2.1 p, fun p h => absurd h (Nat.not_lt_zero p), fun p h => absurd h (Nat.not_lt_zero p), fun p _ _ => ⟨(hA.at9 9 rfl).2.2.2.1 p, (hA.at9 8 rfl).2.2.2.1 p, (hA.at9 6 rfl).2.2.2.1 p⟩⟩
  rcases (show k = 1 ∨ k = 2 ∨ k = 3 ∨ k = 4 ∨ k = 5 ∨ k = 6 ∨ k = 7 ∨ k = 8 ∨ k = 9 ∨ k = 10 ∨ k = 11 ∨ k = 12 ∨ k = 13 ∨ k = 14 ∨ k = 21 ∨ k = 22 ∨ k = 24 ∨ k = 25 ∨ k = 26 by omega) with rfl | rfl | rfl | rfl | rfl | rfl | rfl | rfl | rfl | rfl | rfl | rfl | rfl | rfl | rfl | rfl | rfl | rfl | rfl
  · exact ⟨(hA.at9 18 rfl).1, (hA.at9 18 rfl).2.1, (hA.at9 18 rfl).2.2.1⟩
  · exact ⟨(hA.at9 17 rfl).1, (hA.at9 17 rfl).2.1, (hA.at9 17 rfl).2.2.1⟩
  · exact ⟨(hA.at9 16 rfl).1, (hA.at9 16 rfl).2.1, (hA.at9 16 rfl).2.2.1⟩
  · exact ⟨(hA.at9 15 rfl).1, (hA.at9 15 rfl).2.1, (hA.at9 15 rfl).2.2.1⟩
  · exact ⟨(hA.at9 14 rfl).1, (hA.at9 14 rfl).2.1, (hA.at9 14 rfl).2.2.1⟩
  · exact ⟨(hA.at9 13 rfl).1, (hA.at9 13 rfl).2.1, (hA.at9 13 rfl).2.2.1⟩
  · exact ⟨(hA.at9 12 rfl).1, (hA.at9 12 rfl).2.1, (hA.at9 12 rfl).2.2.1⟩
  · exact ⟨(hA.at9 11 rfl).1, (hA.at9 11 rfl).2.1, (hA.at9 11 rfl).2.2.1⟩
  · exact ⟨(hA.at9 10 rfl).1, (hA.at9 10 rfl).2.1, (hA.at9 10 rfl).2.2.1⟩
  · exact ⟨(hA.at9 9 rfl).1, (hA.at9 9 rfl).2.1, (hA.at9 9 rfl).2.2.1⟩
  · exact ⟨(hA.at9 8 rfl).1, (hA.at9 8 rfl).2.1, (hA.at9 8 rfl).2.2.1⟩
  · exact ⟨(hA.at9 7 rfl).1, (hA.at9 7 rfl).2.1, (hA.at9 7 rfl).2.2.1⟩
  · exact ⟨(hA.at9 6 rfl).1, (hA.at9 6 rfl).2.1, (hA.at9 6 rfl).2.2.1⟩
  · exact ⟨(hA.at9 5 rfl).1, (hA.at9 5 rfl).2.1, (hA.at9 5 rfl).2.2.1⟩
  · exact ⟨(hA.at9 4 rfl).1, (hA.at9 4 rfl).2.1, (hA.at9 4 rfl).2.2.1⟩
  · exact ⟨(hA.at9 3 rfl).1, (hA.at9 3 rfl).2.1, (hA.at9 3 rfl).2.2.1⟩
  · exact ⟨(hA.at9 2 rfl).1, (hA.at9 2 rfl).2.1, (hA.at9 2 rfl).2.2.1⟩
  · exact ⟨(hA.at9 1 rfl).1, (hA.at9 1 rfl).2.1, (hA.at9 1 rfl).2.2.1⟩
  · exact ⟨(hA.at9 0 rfl).1, (hA.at9 0 rfl).2.1, (hA.at9 0 rfl).2.2.1⟩
end P46
def D4 (μ : Mem) (x : Nat) : Prop := ∃ q0 q1 q2 qb w0 w1 w2 w3 w4 w5 w6 w7 w8 : Nat, mQ μ 6 3 x = some qb ∧ IA μ 6 x [(2, q2, 22, 120), (1, q1, 21, 14), (0, q0, 20, 5)] ∧ IA μ 3 qb [(8, w8, 18, 15), (7, w7, 17, 15), (6, w6, 16, 15), (5, w5, 15, 15), (4, w4, 14, 15), (3, w3, 13, 15), (2, w2, 12, 15), (1, w1, 11, 15), (0, w0, 10, 15)] ∧ IB μ 6 x [(9, 2), (8, 4), (7, 12), (6, 0), (5, 0), (4, 0)]
def D7 (μ : Mem) (y : Nat) : Prop := ∃ a1 a2 a3 a4 a5 a6 a7 a8 a9 a10 a11 a12 a13 a14 a21 a22 a24 a25 a26 : Nat, IA μ 7 y [(26, a26, 48, 15), (25, a25, 47, 15), (24, a24, 46, 15), (22, a22, 45, 14), (21, a21, 44, 14), (14, a14, 43, 5), (13, a13, 42, 120), (12, a12, 41, 14), (11, a11, 40, 120), (10, a10, 39, 120), (9, a9, 38, 120), (8, a8, 37, 120), (7, a7, 36, 120), (6, a6, 35, 120), (5, a5, 34, 120), (4, a4, 33, 120), (3, a3, 32, 14), (2, a2, 31, 14), (1, a1, 30, 5)] ∧ IB μ 7 y [(20, 2), (19, 4), (18, 12), (0, 0), (15, 0), (16, 0), (17, 0), (23, 0)]
theorem D4.mem {μ : Mem} {x : Nat} (h : D4 μ x) : x ∈ mL μ := by
  obtain ⟨q0, q1, q2, qb, w0, w1, w2, w3, w4, w5, w6, w7, w8, hQ, hA, hA3, hI⟩ := h
  exact hA.1.1
theorem D4.new {μ : Mem} {x q k n : Nat} (h : D4 μ x) (hq : q ∉ mL μ) : D4 (sNew μ q k n) x := by
  obtain ⟨q0, q1, q2, qb, w0, w1, w2, w3, w4, w5, w6, w7, w8, hQ, hA, hA3, hI⟩ := h
  exact ⟨q0, q1, q2, qb, w0, w1, w2, w3, w4, w5, w6, w7, w8, (if_neg (show ¬ x = q from fun e => hq (e ▸ hA.1.1))).trans hQ, hA.new hq, hA3.new hq, hI.new hA.1.1 hq⟩
theorem D4.nf {μ μ' : Mem} {x y : Nat} (h : D4 μ x) (hn : NF y μ μ') (hy : y ∉ mL μ ∨ ok9 μ 7 y) : D4 μ' x := by
  obtain ⟨q0, q1, q2, qb, w0, w1, w2, w3, w4, w5, w6, w7, w8, hQ, hA, hA3, hI⟩ := h
  have h1 : x ≠ y := fun e => hy.elim (fun z => z (e ▸ hA.1.1)) (fun z => by have z2 := z.2; rw [← e, hA.1.2] at z2; exact absurd z2 (by decide))
  have h2 : qb ≠ y := fun e => hy.elim (fun z => z (e ▸ hA3.1.1)) (fun z => by have z2 := z.2; rw [← e, hA3.1.2] at z2; exact absurd z2 (by decide))
  exact ⟨q0, q1, q2, qb, w0, w1, w2, w3, w4, w5, w6, w7, w8, (((hn x hA.1.1).2.2.2.2 h1 6 3).2).trans hQ, hA.nf hn h1, hA3.nf hn h2, hI.nf hA.1.1 hn h1⟩
theorem D7.new {μ : Mem} {y q k n : Nat} (h : D7 μ y) (hq : q ∉ mL μ) : D7 (sNew μ q k n) y := by
  obtain ⟨a1, a2, a3, a4, a5, a6, a7, a8, a9, a10, a11, a12, a13, a14, a21, a22, a24, a25, a26, hA, hI⟩ := h
  exact ⟨a1, a2, a3, a4, a5, a6, a7, a8, a9, a10, a11, a12, a13, a14, a21, a22, a24, a25, a26, hA.new hq, hI.new hA.1.1 hq⟩
theorem sm_00 {μ : Mem} {x y out od : Nat} (h4 : D4 μ x) (h7 : D7 μ y) (hO : OA μ out od) : Sm μ x y out od S00 := by
  obtain ⟨q0, q1, q2, qb, w0, w1, w2, w3, w4, w5, w6, w7, w8, hQ, hA, hA3, hI⟩ := h4
  obtain ⟨a1, a2, a3, a4, a5, a6, a7, a8, a9, a10, a11, a12, a13, a14, a21, a22, a24, a25, a26, hA7, hI7⟩ := h7
  exact ⟨inv_00, ⟨_, bp_00 hQ hA hA3 hI⟩, ⟨_, mp_00 hA7 hI7⟩, hO⟩
theorem ib_00 {μ : Mem} {y : Nat} : IB (sNew μ y 7 0) 7 y [(0, 0), (15, 0), (16, 0), (17, 0), (23, 0)] := by
  intro z hz
  have e1 : mI (sNew μ y 7 0) 7 z.1 y = 0 := if_pos rfl
  rw [e1]
  simp only [List.mem_cons, List.not_mem_nil, or_false] at hz
  rcases hz with rfl | rfl | rfl | rfl | rfl <;> rfl
set_option maxHeartbeats 1000000 in
theorem be_1 {p : Program} {l : Launch} {e : Env} {s : State} {m : MethodId} {below : List Frame} {meth : Method} {c : Code} {b L : Nat} {xs : Nat → Int32} {G : GG} {Q : State → Prop} (C : LC p l s m c b L xs G) (htb : ∀ w ∈ lw_tbl, w.before #[Value.ref b] s = true) {ls : Array Slot} (hl : lv_has ls 9 [(0, .ref b)])
    (K : ∀ (μ : Mem) (x : Nat) (H : Heap) (locs : List Loc) (ls : Array Slot), D4 μ x → MW G (LA s) μ s.heap H locs → lv_has ls 9 [(1, .ref x), (0, .ref b)] → W p l e room_1 s m #[Value.ref b] below meth c H locs 14 296 Q (F0 m 8 ls [])) :
    W p l e room_1 s m #[Value.ref b] below meth c s.heap [] 0 0 Q (F0 m 0 ls []) := by
  obtain ⟨hx, hb, hml, hown, hts, hE, hX, hbl, hsl, hL⟩ := C
  have hA9 : ∀ q, s.heap.size ≤ q → LA s q := fun _ h => h
  have hP0 : va_P G.1 vwCl [] s.heap := fun k q h => by simp at h
  have hD0 : va_D (LA s) [] := ⟨fun i j p q h => by simp at h, fun k q h => by simp at h⟩
  have hW : MW G (LA s) M00 s.heap s.heap [] := ⟨⟨hP0, hD0⟩, va_S.rf⟩
  refine r_newZ (ci := 6) (C := RX4) (T := TX4) (N := 10) hx hb hml hown htb hE hA9 hW hl.1 rfl (by decide) inX4 tyX4 tyX4_ok (htb (.classLink RL 8 RX4) (List.mem_append_right _ (List.mem_of_getElem? (i := 22) (by decide +kernel)))) (htb (.instantiable RX4 10) (List.mem_append_right _ (List.mem_of_getElem? (i := 23) (by decide +kernel)))) (htb (.initialized RX4) (List.mem_append_right _ (List.mem_of_getElem? (i := 1) (by decide +kernel)))) (by decide +kernel) ⟨(show 0 + 1 ≤ 603072 by decide), (show 0 + 10 ≤ 7194730 by decide)⟩ dL_law_0 (fun x H hxn hW => ?_)
  refine lv_dup hx hb dL_law_3 rfl ?_
  refine r_callIZ (n := 0) (As := []) (rest := [.ref x]) hx hb hml hown hts hE hA9 hW hl.1 (k_X4_init l hsl G (LA s) _ x ok_new) gL_law_X4_init rfl (htb (.initialized yX4_init.cls) (List.mem_append_right _ (List.mem_of_getElem? (i := 1) (by decide +kernel)))) (htb (.methodLink RL 139 yX4_init) (List.mem_append_right _ (List.mem_of_getElem? (i := 24) (by decide +kernel)))) (htb (.instanceMethod yX4_init) (List.mem_append_right _ (List.mem_of_getElem? (i := 25) (by decide +kernel)))) rfl (by decide +kernel) rfl ⟨(by decide), (by decide), (show 0 + 1 + 13 ≤ 603072 by decide), (show 0 + 10 + 286 ≤ 7194730 by decide)⟩ (Nat.le_of_ble_eq_true rfl) dL_law_4 rfl (fun e9 m9 h => by cases h.1) (fun v9 m2 H locs hp hW => ?_)
  obtain ⟨h1, q0, q1, q2, qb, w0, w1, w2, w3, w4, w5, w6, w7, w8, hQ, hA, hA3, hI, -⟩ := hp
  cases h1
  refine W.widen (k := 14) (n := 296) (show 0 + 1 + 13 ≤ 14 by decide) (show 0 + 10 + 286 ≤ 296 by decide) ?_
  refine W.eq (g2 := F0 m 7 ls [.ref x]) rfl ?_
  refine lv_astore_n (lv' := [(1, .ref x), (0, .ref b)]) hx hb dL_law_7 rfl hl (by decide) rfl (fun ls hl => ?_)
  exact K m2 x H locs ls ⟨q0, q1, q2, qb, w0, w1, w2, w3, w4, w5, w6, w7, w8, hQ, hA, hA3, hI⟩ hW hl
set_option maxHeartbeats 1000000 in
theorem be_2 {p : Program} {l : Launch} {e : Env} {s : State} {m : MethodId} {below : List Frame} {meth : Method} {c : Code} {b L : Nat} {xs : Nat → Int32} {G : GG} {Q : State → Prop} (C : LC p l s m c b L xs G) (htb : ∀ w ∈ lw_tbl, w.before #[Value.ref b] s = true) {x : Nat} {μ : Mem} {H : Heap} {locs : List Loc} {ls : Array Slot} (h4 : D4 μ x) (hW : MW G (LA s) μ s.heap H locs) (hl : lv_has ls 9 [(1, .ref x), (0, .ref b)])
    (K : ∀ (μ : Mem) (y : Nat) (H : Heap) (locs : List Loc) (ls : Array Slot), D4 μ x → D7 μ y → MW G (LA s) μ s.heap H locs → lv_has ls 9 [(2, .ref y), (1, .ref x), (0, .ref b)] → W p l e room_1 s m #[Value.ref b] below meth c H locs 34 1528 Q (F0 m 16 ls [])) :
    W p l e room_1 s m #[Value.ref b] below meth c H locs 14 296 Q (F0 m 8 ls []) := by
  obtain ⟨hx, hb, hml, hown, hts, hE, hX, hbl, hsl, hL⟩ := C
  have hA9 : ∀ q, s.heap.size ≤ q → LA s q := fun _ h => h
  refine r_newZ (ci := 7) (C := RX5) (T := TX5) (N := 27) hx hb hml hown htb hE hA9 hW hl.1 rfl (by decide) inX5 tyX5 tyX5_ok (htb (.classLink RL 140 RX5) (List.mem_append_right _ (List.mem_of_getElem? (i := 891) (by decide +kernel)))) (htb (.instantiable RX5 27) (List.mem_append_right _ (List.mem_of_getElem? (i := 892) (by decide +kernel)))) (htb (.initialized RX5) (List.mem_append_right _ (List.mem_of_getElem? (i := 3) (by decide +kernel)))) (by decide +kernel) ⟨(show 14 + 1 ≤ 603072 by decide), (show 296 + 27 ≤ 7194730 by decide)⟩ dL_law_8 (fun y H hyn hW => ?_)
  have h4 := h4.new (k := 7) (n := 0) hyn
  refine lv_dup hx hb dL_law_11 rfl ?_
  refine r_callIZ (n := 0) (As := []) (rest := [.ref y]) hx hb hml hown hts hE hA9 hW hl.1 (k_X5_init l hsl G (LA s) _ y ok_new ib_00) gL_law_X5_init rfl (htb (.initialized yX5_init.cls) (List.mem_append_right _ (List.mem_of_getElem? (i := 3) (by decide +kernel)))) (htb (.methodLink RL 142 yX5_init) (List.mem_append_right _ (List.mem_of_getElem? (i := 893) (by decide +kernel)))) (htb (.instanceMethod yX5_init) (List.mem_append_right _ (List.mem_of_getElem? (i := 894) (by decide +kernel)))) rfl (by decide +kernel) rfl ⟨(by decide), (by decide), (show 14 + 1 + 19 ≤ 603072 by decide), (show 296 + 27 + 1205 ≤ 7194730 by decide)⟩ (Nat.le_of_ble_eq_true rfl) dL_law_12 rfl (fun e9 m9 h => by cases h.1) (fun v9 m4 H locs hp hW => ?_)
  obtain ⟨h1, a1, a2, a3, a4, a5, a6, a7, a8, a9, a10, a11, a12, a13, a14, a21, a22, a24, a25, a26, hA7, hI7, hN⟩ := hp
  cases h1
  refine W.widen (k := 34) (n := 1528) (show 14 + 1 + 19 ≤ 34 by decide) (show 296 + 27 + 1205 ≤ 1528 by decide) ?_
  refine W.eq (g2 := F0 m 15 ls [.ref y]) rfl ?_
  refine lv_astore_n (lv' := [(2, .ref y), (1, .ref x), (0, .ref b)]) hx hb dL_law_15 rfl hl (by decide) rfl (fun ls hl => ?_)
  exact K m4 y H locs ls (h4.nf hN (Or.inr ok_new)) ⟨a1, a2, a3, a4, a5, a6, a7, a8, a9, a10, a11, a12, a13, a14, a21, a22, a24, a25, a26, hA7, hI7⟩ hW hl
set_option maxHeartbeats 1000000 in
theorem be_3 {p : Program} {l : Launch} {e : Env} {s : State} {m : MethodId} {below : List Frame} {meth : Method} {c : Code} {b L : Nat} {xs : Nat → Int32} {G : GG} {Q : State → Prop} (C : LC p l s m c b L xs G) (htb : ∀ w ∈ lw_tbl, w.before #[Value.ref b] s = true) {x y : Nat} {μ : Mem} {H : Heap} {locs : List Loc} {ls : Array Slot} (h4 : D4 μ x) (h7 : D7 μ y) (hW : MW G (LA s) μ s.heap H locs) (hl : lv_has ls 9 [(2, .ref y), (1, .ref x), (0, .ref b)])
    (K : ∀ (μ : Mem) (out od : Nat) (H : Heap) (locs : List Loc) (ls : Array Slot), Sm μ x y out od S00 → MW G (LA s) μ s.heap H locs → lv_has ls 9 [(5, .int (nI (7 * 0))), (4, .ref od), (3, .ref out), (2, .ref y), (1, .ref x), (0, .ref b)] → W p l e room_1 s m #[Value.ref b] below meth c H locs 36 1530 Q (F0 m 28 ls [])) :
    W p l e room_1 s m #[Value.ref b] below meth c H locs 34 1528 Q (F0 m 16 ls []) := by
  obtain ⟨hx, hb, hml, hown, hts, hE, hX, hbl, hsl, hL⟩ := C
  have hA9 : ∀ q, s.heap.size ≤ q → LA s q := fun _ h => h
  refine lv_iconst (v := 1) hx hb dL_law_16 (by decide) ?_
  refine r_newa (atype := .long) (kd := 60) (N' := 1) hx hb hE.1 hA9 hW (htb (.arrayClass .long) (List.mem_append_right _ (List.mem_of_getElem? (i := 1295) (by decide +kernel)))) (by decide) (Or.inr (Or.inr (Or.inl ⟨rfl, rfl⟩))) (by decide) (by decide) (by decide) ⟨(show 34 + 1 ≤ 603072 by decide), (show 1528 + 1 ≤ 7194730 by decide)⟩ dL_law_17 (fun out H hout hW => ?_)
  refine lv_astore_n (lv' := [(3, .ref out), (2, .ref y), (1, .ref x), (0, .ref b)]) hx hb dL_law_19 rfl hl (by decide) rfl (fun ls hl => ?_)
  refine lv_iconst (v := 1) hx hb dL_law_20 (by decide) ?_
  refine r_newa (atype := .double) (kd := 61) (N' := 1) hx hb hE.1 hA9 hW (htb (.arrayClass .double) (List.mem_append_right _ (List.mem_of_getElem? (i := 1296) (by decide +kernel)))) (by decide) (Or.inr (Or.inr (Or.inr ⟨rfl, rfl⟩))) (by decide) (by decide) (by decide) ⟨(show 34 + 1 + 1 ≤ 603072 by decide), (show 1528 + 1 + 1 ≤ 7194730 by decide)⟩ dL_law_21 (fun od H hod hW => ?_)
  refine W.widen (k := 36) (n := 1530) (show 34 + 1 + 1 ≤ 36 by decide) (show 1528 + 1 + 1 ≤ 1530 by decide) ?_
  refine lv_astore (lv' := [(4, .ref od), (3, .ref out), (2, .ref y), (1, .ref x), (0, .ref b)]) hx hb dL_law_23 hl (by decide) rfl (fun ls hl => ?_)
  refine lv_iconst (v := 0) hx hb dL_law_25 (by decide) ?_
  refine lv_istore (lv' := [(5, .int 0), (4, .ref od), (3, .ref out), (2, .ref y), (1, .ref x), (0, .ref b)]) hx hb dL_law_26 hl (by decide) rfl (fun ls hl => ?_)
  have nod : out ≠ od := fun e => hod (e ▸ (mem_new : out ∈ mL (sNew μ out 60 1)))
  have hO : OA (sNew (sNew μ out 60 1) od 61 1) out od := ⟨⟨ok_old hod ok_new, (va_up_ne _ _ nod).trans (va_up_self _ _ _)⟩, ok_new, va_up_self _ _ _⟩
  have hl : lv_has ls 9 [(5, .int (nI (7 * 0))), (4, .ref od), (3, .ref out), (2, .ref y), (1, .ref x), (0, .ref b)] := by
    rw [show nI (7 * 0) = 0 from nI_0]
    exact hl
  exact K _ out od H locs ls (sm_00 ((h4.new hout).new hod) ((h7.new hout).new hod) hO) hW hl
theorem be_gin {p : Program} {l : Launch} {e : Env} {s : State} {m : MethodId} {below : List Frame} {meth : Method} {c : Code} {b L : Nat} {xs : Nat → Int32} {G : GG} {Q : State → Prop} (C : LC p l s m c b L xs G) (htb : ∀ w ∈ lw_tbl, w.before #[Value.ref b] s = true) {ls : Array Slot} (hl : lv_has ls 9 [(0, .ref b)])
    (K : ∀ (μ : Mem) (x y out od : Nat) (H : Heap) (locs : List Loc) (ls : Array Slot), Sm μ x y out od S00 → MW G (LA s) μ s.heap H locs → lv_has ls 9 [(5, .int (nI (7 * 0))), (4, .ref od), (3, .ref out), (2, .ref y), (1, .ref x), (0, .ref b)] → W p l e room_1 s m #[Value.ref b] below meth c H locs 36 1530 Q (F0 m 28 ls [])) :
    W p l e room_1 s m #[Value.ref b] below meth c s.heap [] 0 0 Q (F0 m 0 ls []) :=
  be_1 C htb hl (fun _ x _ _ _ h4 hW hl => be_2 C htb h4 hW hl (fun _ y _ _ _ h4 h7 hW hl => be_3 C htb h4 h7 hW hl (fun μ out od H locs ls => K μ x y out od H locs ls)))
