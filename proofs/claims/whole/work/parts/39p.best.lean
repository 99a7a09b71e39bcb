/-! THE BEST PAGES, pure: tu: a turn behind a block that isn't free, pl: places, pg: places of a page, T: of each block hard turns, pages and the next page's first block, from it on -/
def up9 (tu : Nat → Nat) (T : Nat → Nat × Nat × Nat) (l : Nat) (a : Nat × Nat × Nat) : Nat × Nat × Nat :=
  if a.2.2 = 0 ∨ tu l + (T (l + 1)).1 < a.1 ∨ (tu l + (T (l + 1)).1 = a.1 ∧ 1 + (T (l + 1)).2.1 ≤ a.2.1) then (tu l + (T (l + 1)).1, 1 + (T (l + 1)).2.1, l + 1) else a
def in9 (tu pl : Nat → Nat) (pg : Nat) (T : Nat → Nat × Nat × Nat) (k : Nat) : Nat → Nat → Nat → Nat × Nat × Nat → Nat × Nat × Nat
  | 0, _, _, a => a
  | d + 1, l, tk, a => if pg < tk + pl l ∧ k < l then a else in9 tu pl pg T k d (l + 1) (tk + pl l) (up9 tu T l a)
def tb9 (tu pl : Nat → Nat) (pg n : Nat) : Nat → Nat → Nat × Nat × Nat
  | 0 => fun _ => (0, 0, n)
  | d + 1 => fun j => if j + (d + 1) = n then in9 tu pl pg (tb9 tu pl pg n d) j (d + 1) j 0 (0, 0, 0) else tb9 tu pl pg n d j
section P39p
variable {tu pl : Nat → Nat} {pg n : Nat}
theorem in9_stop {T : Nat → Nat × Nat × Nat} {k d l tk : Nat} {a : Nat × Nat × Nat} (h : pg < tk + pl l ∧ k < l) : in9 tu pl pg T k (d + 1) l tk a = a := if_pos h
theorem in9_go {T : Nat → Nat × Nat × Nat} {k d l tk : Nat} {a : Nat × Nat × Nat} (h : ¬ (pg < tk + pl l ∧ k < l)) : in9 tu pl pg T k (d + 1) l tk a = in9 tu pl pg T k d (l + 1) (tk + pl l) (up9 tu T l a) := if_neg h
theorem tb9_hit {d j : Nat} (h : j + (d + 1) = n) : tb9 tu pl pg n (d + 1) j = in9 tu pl pg (tb9 tu pl pg n d) j (d + 1) j 0 (0, 0, 0) := if_pos h
theorem tb9_old {d j : Nat} (h : ¬ j + (d + 1) = n) : tb9 tu pl pg n (d + 1) j = tb9 tu pl pg n d j := if_neg h
theorem tb9_keep {d j : Nat} (m : Nat) (h : n ≤ j + d) : tb9 tu pl pg n (d + m) j = tb9 tu pl pg n d j := by
  induction m with
  | zero => rfl
  | succ m ih =>
    show tb9 tu pl pg n (d + m + 1) j = _
    rw [tb9_old (by omega), ih]
/-- what holds of the table behind k, and of the best way found so far -/
def TO (n k : Nat) (T : Nat → Nat × Nat × Nat) : Prop := ∀ e, k < e → e ≤ n → (T e).1 ≤ n - e ∧ (T e).2.1 ≤ n - e ∧ (e = n → (T e).2.1 = 0) ∧ (e < n → e < (T e).2.2 ∧ (T e).2.2 ≤ n ∧ (T e).2.1 = 1 + (T (T e).2.2).2.1)
def AO (n k : Nat) (T : Nat → Nat × Nat × Nat) (a : Nat × Nat × Nat) : Prop := a.2.2 = 0 ∨ (a.1 ≤ n - k ∧ a.2.1 ≤ n - k ∧ k < a.2.2 ∧ a.2.2 ≤ n ∧ a.2.1 = 1 + (T a.2.2).2.1)
theorem up9_ok {T : Nat → Nat × Nat × Nat} {k l : Nat} {a : Nat × Nat × Nat} (ht : ∀ i, tu i ≤ 1) (hT : TO n k T) (hk : k ≤ l) (hl : l < n) (ha : AO n k T a) : AO n k T (up9 tu T l a) ∧ (up9 tu T l a).2.2 ≠ 0 := by
  obtain ⟨h1, h2, -, -⟩ := hT (l + 1) (by omega) (by omega)
  have ht := ht l
  unfold up9
  by_cases h : a.2.2 = 0 ∨ tu l + (T (l + 1)).1 < a.1 ∨ (tu l + (T (l + 1)).1 = a.1 ∧ 1 + (T (l + 1)).2.1 ≤ a.2.1)
  · rw [if_pos h]
    exact ⟨Or.inr ⟨show tu l + (T (l + 1)).1 ≤ n - k by omega, show 1 + (T (l + 1)).2.1 ≤ n - k by omega, show k < l + 1 by omega, show l + 1 ≤ n by omega, rfl⟩, Nat.succ_ne_zero l⟩
  · rw [if_neg h]
    exact ⟨ha, fun z => h (Or.inl z)⟩
theorem in9_ok {T : Nat → Nat × Nat × Nat} {k : Nat} (ht : ∀ i, tu i ≤ 1) (hT : TO n k T) : ∀ (d l tk : Nat) (a : Nat × Nat × Nat), l + d = n → k ≤ l → AO n k T a → (a.2.2 = 0 → k = l ∧ d ≠ 0) → AO n k T (in9 tu pl pg T k d l tk a) ∧ (in9 tu pl pg T k d l tk a).2.2 ≠ 0 := by
  intro d
  induction d with
  | zero =>
    intro l tk a hl hk ha h0
    exact ⟨ha, fun z => (h0 z).2 rfl⟩
  | succ d ih =>
    intro l tk a hl hk ha h0
    by_cases h : pg < tk + pl l ∧ k < l
    · rw [in9_stop h]
      exact ⟨ha, fun z => by have := (h0 z).1; omega⟩
    · rw [in9_go h]
      obtain ⟨g1, g2⟩ := up9_ok ht hT hk (show l < n by omega) ha
      exact ih (l + 1) _ _ (by omega) (by omega) g1 (fun z => absurd z g2)
theorem tb9_ok (ht : ∀ i, tu i ≤ 1) : ∀ d, d ≤ n → ∀ j, n ≤ j + d → j ≤ n → (tb9 tu pl pg n d j).1 ≤ n - j ∧ (tb9 tu pl pg n d j).2.1 ≤ n - j ∧ (j = n → (tb9 tu pl pg n d j).2.1 = 0) ∧ (j < n → j < (tb9 tu pl pg n d j).2.2 ∧ (tb9 tu pl pg n d j).2.2 ≤ n ∧ (tb9 tu pl pg n d j).2.1 = 1 + (tb9 tu pl pg n d (tb9 tu pl pg n d j).2.2).2.1) := by
  intro d
  induction d with
  | zero =>
    intro _ j h1 h2
    have e : j = n := by omega
    exact ⟨Nat.zero_le _, Nat.zero_le _, fun _ => rfl, fun z => by omega⟩
  | succ d ih =>
    intro hd j h1 h2
    have ih := ih (by omega)
    by_cases e : j + (d + 1) = n
    · rw [tb9_hit e]
      have hT : TO n j (tb9 tu pl pg n d) := fun e' h1 h2 => ih e' (by omega) h2
      obtain ⟨g1, g2⟩ := in9_ok (pl := pl) (pg := pg) ht hT (d + 1) j 0 (0, 0, 0) e (Nat.le_refl j) (Or.inl rfl) (fun _ => ⟨rfl, by omega⟩)
      rcases g1 with g1 | ⟨g3, g4, g5, g6, g7⟩
      · exact absurd g1 g2
      · refine ⟨g3, g4, fun z => by omega, fun _ => ⟨g5, g6, ?_⟩⟩
        rw [tb9_old (by omega)]
        exact g7
    · rw [tb9_old e]
      obtain ⟨g1, g2, g3, g4⟩ := ih j (by omega) h2
      refine ⟨g1, g2, g3, fun z => ?_⟩
      obtain ⟨k1, k2, k3⟩ := g4 z
      exact ⟨k1, k2, by rw [tb9_old (by omega)]; exact k3⟩
theorem TO_tb (ht : ∀ i, tu i ≤ 1) {d k : Nat} (h : k + 1 + d = n) : TO n k (tb9 tu pl pg n d) := fun e h1 h2 => tb9_ok ht d (by omega) e (by omega) h2
/-- hard turns only fall -/
theorem up9_fall {T : Nat → Nat × Nat × Nat} {l : Nat} {a : Nat × Nat × Nat} (h : a.2.2 ≠ 0) : (up9 tu T l a).1 = (if tu l + (T (l + 1)).1 < a.1 then tu l + (T (l + 1)).1 else a.1) := by
  unfold up9
  by_cases c : a.2.2 = 0 ∨ tu l + (T (l + 1)).1 < a.1 ∨ (tu l + (T (l + 1)).1 = a.1 ∧ 1 + (T (l + 1)).2.1 ≤ a.2.1)
  · rw [if_pos c]
    show tu l + (T (l + 1)).1 = _
    split
    · rfl
    · omega
  · rw [if_neg c, if_neg (fun z => c (Or.inr (Or.inl z)))]
theorem in9_zero {T : Nat → Nat × Nat × Nat} {k : Nat} : ∀ (d l tk : Nat) (a : Nat × Nat × Nat), a.2.2 ≠ 0 → a.1 = 0 → (in9 tu pl pg T k d l tk a).1 = 0 := by
  intro d
  induction d with
  | zero => intro l tk a _ h; exact h
  | succ d ih =>
    intro l tk a h1 h2
    by_cases h : pg < tk + pl l ∧ k < l
    · rw [in9_stop h]; exact h2
    · rw [in9_go h]
      refine ih _ _ _ ?_ ?_
      · unfold up9
        split
        · exact Nat.succ_ne_zero l
        · exact h1
      · rw [up9_fall h1, h2, if_neg (Nat.not_lt_zero _)]
end P39p
