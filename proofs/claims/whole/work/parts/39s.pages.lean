/-! hardTurns, hardTurnsByTrying, pages, pageEnd -/
def F9 (n : Nat) (a : Nat × Nat × Nat) : Nat := if a.2.2 = 0 then n else a.1
theorem F9_up {tu : Nat → Nat} {n k l : Nat} {T : Nat → Nat × Nat × Nat} {a : Nat × Nat × Nat} (ht : ∀ i, tu i ≤ 1) (hT : TO n k T) (hk : k ≤ l) (hl : l < n) : F9 n (up9 tu T l a) = if tu l + (T (l + 1)).1 < F9 n a then tu l + (T (l + 1)).1 else F9 n a := by
  obtain ⟨h1, -⟩ := hT (l + 1) (by omega) (by omega)
  have ht := ht l
  by_cases h0 : a.2.2 = 0
  · have eu : up9 tu T l a = (tu l + (T (l + 1)).1, 1 + (T (l + 1)).2.1, l + 1) := if_pos (Or.inl h0)
    have e1 : F9 n a = n := if_pos h0
    rw [eu, e1]
    show (if l + 1 = 0 then n else tu l + (T (l + 1)).1) = _
    rw [if_neg (Nat.succ_ne_zero l)]
    split
    · rfl
    · omega
  · have e1 : F9 n a = a.1 := if_neg h0
    have e2 : (up9 tu T l a).2.2 ≠ 0 := by
      unfold up9
      split
      · exact Nat.succ_ne_zero l
      · exact h0
    have e3 : F9 n (up9 tu T l a) = (up9 tu T l a).1 := if_neg e2
    rw [e3, e1, up9_fall h0]
/-- the first blocks of the pages -/
def it9 (T : Nat → Nat × Nat × Nat) : Nat → Nat
  | 0 => 0
  | i + 1 => (T (it9 T i)).2.2
theorem it9_ok {tu pl : Nat → Nat} {pg n : Nat} (ht : ∀ i, tu i ≤ 1) : ∀ i, i ≤ (tb9 tu pl pg n n 0).2.1 → it9 (tb9 tu pl pg n n) i ≤ n ∧ (tb9 tu pl pg n n (it9 (tb9 tu pl pg n n) i)).2.1 + i = (tb9 tu pl pg n n 0).2.1 := by
  intro i
  induction i with
  | zero => intro _; exact ⟨Nat.zero_le _, rfl⟩
  | succ i ih =>
    intro hi
    obtain ⟨h1, h2⟩ := ih (by omega)
    obtain ⟨-, -, g3, g4⟩ := tb9_ok (pl := pl) (pg := pg) ht n (Nat.le_refl n) (it9 (tb9 tu pl pg n n) i) (by omega) h1
    by_cases e : it9 (tb9 tu pl pg n n) i = n
    · have := g3 e
      omega
    · obtain ⟨k1, k2, k3⟩ := g4 (by omega)
      refine ⟨k2, ?_⟩
      show (tb9 tu pl pg n n (tb9 tu pl pg n n (it9 (tb9 tu pl pg n n) i)).2.2).2.1 + (i + 1) = _
      omega
theorem it9_lt {tu pl : Nat → Nat} {pg n : Nat} (ht : ∀ i, tu i ≤ 1) {i : Nat} (hi : i < (tb9 tu pl pg n n 0).2.1) : it9 (tb9 tu pl pg n n) i < n ∧ it9 (tb9 tu pl pg n n) i < it9 (tb9 tu pl pg n n) (i + 1) ∧ it9 (tb9 tu pl pg n n) (i + 1) ≤ n := by
  obtain ⟨h1, h2⟩ := it9_ok (pl := pl) (pg := pg) (n := n) ht i (Nat.le_of_lt hi)
  obtain ⟨-, -, g3, g4⟩ := tb9_ok (pl := pl) (pg := pg) ht n (Nat.le_refl n) (it9 (tb9 tu pl pg n n) i) (by omega) h1
  have e : it9 (tb9 tu pl pg n n) i ≠ n := fun e => by
    have := g3 e
    omega
  obtain ⟨k1, k2, k3⟩ := g4 (by omega)
  exact ⟨by omega, k1, k2⟩
section P39s
variable {μ μ' ν : Mem} {x y : Nat} {ad : Nat → Nat → Nat} {am : Nat → Nat} {S : SS}
theorem c_fewL {p k pg : Nat} (h : CB μ x ad S p (B9 S p S.1.2.1)) (hI : Inv S) (hk : k < (B9 S p S.1.2.1).1) (hpg : pg ≤ 60) (epg : S.2 16 0 = nI pg) {T : Nat → Nat × Nat × Nat} (hT : TO (B9 S p S.1.2.1).1 k T) {rec : Option Nat → Int32 → Option Int32} (hrec : ∀ e, k < e → e ≤ (B9 S p S.1.2.1).1 → rec (some (ad 0 3)) (nI e) = some (nI (T e).1)) :
    ∀ (d l tk q : Nat) (a : Nat × Nat × Nat), l + d = (B9 S p S.1.2.1).1 → k ≤ l → tk ≤ 120 * l → d < q → AO (B9 S p S.1.2.1).1 k T a → (a.2.2 = 0 → k = l ∧ d ≠ 0) → f_X1_fewestHardTurns_L30 rec μ (ad 0 3) (nI k) (fun z _ _ => some z) q (nI (F9 (B9 S p S.1.2.1).1 a)) (nI tk) (nI (l + 1)) = some (nI (in9 (tu9 S p) (plB S p) pg T k d l tk a).1) := by
  obtain ⟨n1, n2⟩ := B9_ok hI p
  have g9 : getI μ 3 9 (ad 0 3) = some (nI (B9 S p S.1.2.1).1) := by rw [h.1.ki, h.2.1]
  have g10 : getI μ 3 10 (ad 0 3) = some (nI pg) := by rw [h.1.ki, h.2.2.1, epg]
  intro d
  induction d with
  | zero =>
    intro l tk q a hl hkl htk hq ha h0
    obtain ⟨q, rfl⟩ : ∃ q', q = q' + 1 := ⟨q - 1, by omega⟩
    have e1 : F9 (B9 S p S.1.2.1).1 a = a.1 := if_neg (fun z => (h0 z).2 rfl)
    simp only [f_X1_fewestHardTurns_L30, g9, obs, if_pos (nI_lt (show (B9 S p S.1.2.1).1 < l + 1 by omega) (by omega)), e1]
    rfl
  | succ d ih =>
    intro l tk q a hl hkl htk hq ha h0
    obtain ⟨q, rfl⟩ : ∃ q', q = q' + 1 := ⟨q - 1, by omega⟩
    have hpl := plB_le hI p l
    have htu := tu9_le S p l
    obtain ⟨t1, -⟩ := hT (l + 1) (by omega) (by omega)
    have hlt : ¬ nI (B9 S p S.1.2.1).1 < nI (l + 1) := nI_nlt (by omega) (by omega)
    have hF : F9 (B9 S p S.1.2.1).1 a ≤ (B9 S p S.1.2.1).1 := by
      unfold F9
      split
      · exact Nat.le_refl _
      · rename_i c
        rcases ha with z | z
        · exact absurd z c
        · omega
    by_cases hz : F9 (B9 S p S.1.2.1).1 a = 0
    · have c0 : a.2.2 ≠ 0 := fun z => by
        have : F9 (B9 S p S.1.2.1).1 a = (B9 S p S.1.2.1).1 := if_pos z
        omega
      have c1 : a.1 = 0 := by
        have : F9 (B9 S p S.1.2.1).1 a = a.1 := if_neg c0
        omega
      rw [in9_zero (d + 1) l tk a c0 c1]
      simp only [f_X1_fewestHardTurns_L30, g9, obs, if_neg hlt, hz, if_pos (show nI 0 ≤ 0 by decide)]
    · have gz : ¬ nI (F9 (B9 S p S.1.2.1).1 a) ≤ 0 := nI_nle (Nat.pos_of_ne_zero hz) (by omega)
      have gp : ald μ (ad 1 2) (nI l) = some (nI (plB S p l)) := (h.1.ka (k := 2) (by decide) (by decide) (by omega)).trans (congrArg some (h.2.2.2.2 l (by omega)).2.2.1)
      have gt := c_turn h hI (show l < (B9 S p S.1.2.1).1 by omega)
      have gr := hrec (l + 1) (by omega) (by omega)
      by_cases hs : pg < tk + plB S p l ∧ k < l
      · rw [in9_stop hs]
        have e1 : F9 (B9 S p S.1.2.1).1 a = a.1 := if_neg (fun z => by have := (h0 z).1; omega)
        simp only [f_X1_fewestHardTurns_L30, g9, obs, if_neg hlt, if_neg gz, h.1.kq2, nI_pred, gp, g10, nI_add, if_neg (nI_ge hs.1 (by omega)), nI_1, if_neg (nI_ge (show k + 1 < l + 1 by omega) (by omega))]
        rw [e1]
      · rw [in9_go hs]
        have hu := up9_ok (tu9_le S p) hT hkl (show l < (B9 S p S.1.2.1).1 by omega) ha
        have e2 : (if nI (tu9 S p l + (T (l + 1)).1) < nI (F9 (B9 S p S.1.2.1).1 a) then nI (tu9 S p l + (T (l + 1)).1) else nI (F9 (B9 S p S.1.2.1).1 a)) = nI (F9 (B9 S p S.1.2.1).1 (up9 (tu9 S p) T l a)) := by
          rw [F9_up (tu9_le S p) hT hkl (show l < (B9 S p S.1.2.1).1 by omega)]
          by_cases c : tu9 S p l + (T (l + 1)).1 < F9 (B9 S p S.1.2.1).1 a
          · rw [if_pos (nI_lt c (by omega)), if_pos c]
          · rw [if_neg (nI_nlt (Nat.le_of_not_lt c) (by omega)), if_neg c]
        have e3 := ih (l + 1) (tk + plB S p l) q _ (by omega) (by omega) (by omega) (by omega) hu.1 (fun z => absurd z hu.2)
        by_cases hA : tk + plB S p l ≤ pg
        · simp only [f_X1_fewestHardTurns_L30, g9, obs, if_neg hlt, if_neg gz, h.1.kq2, nI_pred, gp, g10, nI_add, if_pos (nI_le hA (by omega)), nI_1, h.1.kc, gt, gr, e2]
          exact e3
        · simp only [f_X1_fewestHardTurns_L30, g9, obs, if_neg hlt, if_neg gz, h.1.kq2, nI_pred, gp, g10, nI_add, if_neg (nI_ge (show pg < tk + plB S p l by omega) (by omega)), nI_1, if_pos (nI_le (show l + 1 ≤ k + 1 by omega) (by omega)), h.1.kc, gt, gr, e2]
          exact e3
theorem c_few {p pg : Nat} (h : CB μ x ad S p (B9 S p S.1.2.1)) (hI : Inv S) (hpg : pg ≤ 60) (epg : S.2 16 0 = nI pg) : ∀ (dep k : Nat), k ≤ (B9 S p S.1.2.1).1 → (B9 S p S.1.2.1).1 - k < dep → f_X1_fewestHardTurns dep μ (some (ad 0 3)) (nI k) = some (nI (bT9 S p pg (B9 S p S.1.2.1).1 k).1) := by
  obtain ⟨n1, n2⟩ := B9_ok hI p
  have g9 : getI μ 3 9 (ad 0 3) = some (nI (B9 S p S.1.2.1).1) := by rw [h.1.ki, h.2.1]
  intro dep
  induction dep with
  | zero => intro k _ hd; omega
  | succ dep ih =>
    intro k hk hd
    show f_X1_fewestHardTurns_1 μ (f_X1_fewestHardTurns dep μ) (some (ad 0 3)) (nI k) = _
    by_cases e : k = (B9 S p S.1.2.1).1
    · have hz := (tb9_ok (pl := plB S p) (pg := pg) (tu9_le S p) (B9 S p S.1.2.1).1 (Nat.le_refl _) k (by omega) hk).1
      have hz' : (bT9 S p pg (B9 S p S.1.2.1).1 k).1 = 0 := by
        have : (bT9 S p pg (B9 S p S.1.2.1).1 k).1 ≤ (B9 S p S.1.2.1).1 - k := hz
        omega
      rw [hz']
      simp only [f_X1_fewestHardTurns_1, onl_s, if_neg (nI_pos (n := k) (by omega)), g9, obs, if_neg (nI_nlt (show (B9 S p S.1.2.1).1 ≤ k by omega) (by omega))]
      rfl
    · obtain ⟨d, hd'⟩ : ∃ d, k + 1 + d = (B9 S p S.1.2.1).1 := ⟨(B9 S p S.1.2.1).1 - k - 1, by omega⟩
      have hT : TO (B9 S p S.1.2.1).1 k (bT9 S p pg d) := TO_tb (tu9_le S p) hd'
      have ekeep : ∀ e, k < e → bT9 S p pg (B9 S p S.1.2.1).1 e = bT9 S p pg d e := fun e he => by
        have := tb9_keep (tu := tu9 S p) (pl := plB S p) (pg := pg) (n := (B9 S p S.1.2.1).1) (d := d) (j := e) ((B9 S p S.1.2.1).1 - d) (by omega)
        rw [show d + ((B9 S p S.1.2.1).1 - d) = (B9 S p S.1.2.1).1 by omega] at this
        exact this
      have ehit : bT9 S p pg (B9 S p S.1.2.1).1 k = in9 (tu9 S p) (plB S p) pg (bT9 S p pg d) k (d + 1) k 0 (0, 0, 0) := by
        have := tb9_keep (tu := tu9 S p) (pl := plB S p) (pg := pg) (n := (B9 S p S.1.2.1).1) (d := d + 1) (j := k) ((B9 S p S.1.2.1).1 - (d + 1)) (by omega)
        rw [show d + 1 + ((B9 S p S.1.2.1).1 - (d + 1)) = (B9 S p S.1.2.1).1 by omega] at this
        exact this.trans (tb9_hit (by omega))
      have hrec : ∀ e, k < e → e ≤ (B9 S p S.1.2.1).1 → f_X1_fewestHardTurns dep μ (some (ad 0 3)) (nI e) = some (nI (bT9 S p pg d e).1) := fun e h1 h2 => by
        rw [ih e h2 (by omega), ekeep e h1]
      have e3 := c_fewL h hI (by omega) hpg epg hT hrec (d + 1) k 0 200 (0, 0, 0) (by omega) (Nat.le_refl k) (Nat.zero_le _) (by omega) (Or.inl rfl) (fun _ => ⟨rfl, by omega⟩)
      rw [ehit]
      simp only [f_X1_fewestHardTurns_1, onl_s, if_neg (nI_pos (n := k) (by omega)), g9, obs, if_pos (nI_lt (show k < (B9 S p S.1.2.1).1 by omega) (by omega)), nI_1]
      exact e3
/-! the ops -/
theorem o_hardTurns (h : BP μ x ad S) (hI : Inv S) (v : Int32) : Op μ x S [3] (f_X4_hardTurns μ x v) (fun ν y => f_X5_hardTurns ν y v) := by
  by_cases hv : ∃ j : Nat, j < S.1.1 ∧ v = nI j
  · obtain ⟨p, hp, rfl⟩ := hv
    obtain ⟨pg, hpg, epg⟩ := pg9_ok hI
    obtain ⟨m, e, c1, f1⟩ := c_makeBlocks h hI p
    obtain ⟨m2, e2, ⟨c2, t2⟩, f2⟩ := c_makePages c1 hI hpg epg
    have g := t2 0 (by omega) (Nat.zero_le _)
    have ga : ald m2 (ad 1 6) 0 = some (nI (bT9 S p pg (B9 S p S.1.2.1).1 0).1) := (c2.1.ka (k := 6) (i := 0) (by decide) (by decide) (by decide)).trans (congrArg some g.1)
    refine ⟨.inr (nI (bT9 S p pg (B9 S p S.1.2.1).1 0).1), m2, S, ?_, hI, ⟨ad, c2.1⟩, f1.trans f2, fun ν y am hM => ?_⟩
    · simp only [f_X4_hardTurns, h.ch, obs, kp_hit h hI hp, sml_r, e, bi2_s, c1.1.q3, c1.1.kc, e2, c2.1.q3, c2.1.kc, f_X1_hardTurnsOfPages, c2.1.kq6, ga]
    · obtain ⟨n, en, ⟨d1, dt⟩, d2, d3⟩ := m_makes (hM.s0 0) hI p hpg epg
      have gm : ald n (am 24) 0 = some (nI (bT9 S p pg (B9 S p S.1.2.1).1 0).1) := (d1.1.a24 (i := 0) (by decide)).trans (congrArg some (dt 0 (by omega) (Nat.zero_le _)).1)
      refine ⟨nI (bT9 S p pg (B9 S p S.1.2.1).1 0).1, n, ?_, d1.1, (hM.f0 0).trans d2, ?_⟩
      · simp only [f_X5_hardTurns, hM.ch, obs, nop_hit hM hI hp, bi2_s, ift, hM.ch0, en, d1.1.q24, gm]
      · rw [d3, mI_sI_h]
        exact Ag.v _
  · refine Op.no h hI (.inl 3) (by simp only [f_X4_hardTurns, h.ch, obs, kp_miss h hv, sml_l]) 1 (Ag.x (by decide)) (fun ν y am hM => ?_)
    simp only [f_X5_hardTurns, hM.ch, obs, nop_miss hM hI hv, bi2_s, if1]
theorem o_hardTurnsByTrying (h : BP μ x ad S) (hI : Inv S) (v : Int32) : Op μ x S [3] (f_X4_hardTurnsByTrying μ x v) (fun ν y => f_X5_hardTurnsByTrying ν y v) := by
  by_cases hv : ∃ j : Nat, j < S.1.1 ∧ v = nI j
  · obtain ⟨p, hp, rfl⟩ := hv
    obtain ⟨pg, hpg, epg⟩ := pg9_ok hI
    obtain ⟨n1, n2⟩ := B9_ok hI p
    obtain ⟨m, e, c1, f1⟩ := c_makeBlocks h hI p
    have ef : f_X1_fewestHardTurns 16 m (some (ad 0 3)) 0 = some (nI (bT9 S p pg (B9 S p S.1.2.1).1 0).1) := c_few c1 hI hpg epg 16 0 (Nat.zero_le _) (by omega)
    refine ⟨.inr (nI (bT9 S p pg (B9 S p S.1.2.1).1 0).1), m, S, ?_, hI, ⟨ad, c1.1⟩, f1, fun ν y am hM => ?_⟩
    · simp only [f_X4_hardTurnsByTrying, h.ch, obs, kp_hit h hI hp, sml_r, e, bi2_s, c1.1.q3, ef]
    · obtain ⟨n, en, ⟨d1, dt⟩, d2, d3⟩ := m_makes (hM.s0 0) hI p hpg epg
      have gm : ald n (am 24) 0 = some (nI (bT9 S p pg (B9 S p S.1.2.1).1 0).1) := (d1.1.a24 (i := 0) (by decide)).trans (congrArg some (dt 0 (by omega) (Nat.zero_le _)).1)
      refine ⟨nI (bT9 S p pg (B9 S p S.1.2.1).1 0).1, n, ?_, d1.1, (hM.f0 0).trans d2, ?_⟩
      · simp only [f_X5_hardTurnsByTrying, f_X5_hardTurns, hM.ch, obs, nop_hit hM hI hp, bi2_s, ift, hM.ch0, en, d1.1.q24, gm]
      · rw [d3, mI_sI_h]
        exact Ag.v _
  · refine Op.no h hI (.inl 3) (by simp only [f_X4_hardTurnsByTrying, h.ch, obs, kp_miss h hv, sml_l]) 1 (Ag.x (by decide)) (fun ν y am hM => ?_)
    simp only [f_X5_hardTurnsByTrying, f_X5_hardTurns, hM.ch, obs, nop_miss hM hI hv, bi2_s, if1]
theorem o_pages (h : BP μ x ad S) (hI : Inv S) (v : Int32) : Op μ x S [3] (f_X4_pages μ x v) (fun ν y => f_X5_pages ν y v) := by
  by_cases hv : ∃ j : Nat, j < S.1.1 ∧ v = nI j
  · obtain ⟨p, hp, rfl⟩ := hv
    obtain ⟨pg, hpg, epg⟩ := pg9_ok hI
    obtain ⟨m, e, c1, f1⟩ := c_makeBlocks h hI p
    obtain ⟨m2, e2, ⟨c2, t2⟩, f2⟩ := c_makePages c1 hI hpg epg
    have g := t2 0 (by omega) (Nat.zero_le _)
    have ga : ald m2 (ad 1 7) 0 = some (nI (bT9 S p pg (B9 S p S.1.2.1).1 0).2.1) := (c2.1.ka (k := 7) (i := 0) (by decide) (by decide) (by decide)).trans (congrArg some g.2.1)
    refine ⟨.inr (nI (bT9 S p pg (B9 S p S.1.2.1).1 0).2.1), m2, S, ?_, hI, ⟨ad, c2.1⟩, f1.trans f2, fun ν y am hM => ?_⟩
    · simp only [f_X4_pages, h.ch, obs, kp_hit h hI hp, sml_r, e, bi2_s, c1.1.q3, c1.1.kc, e2, c2.1.q3, c2.1.kc, f_X1_countOfPages, c2.1.kq7, ga]
    · obtain ⟨n, en, ⟨d1, dt⟩, d2, d3⟩ := m_makes (hM.s0 0) hI p hpg epg
      have gm : ald n (am 25) 0 = some (nI (bT9 S p pg (B9 S p S.1.2.1).1 0).2.1) := (d1.1.a25 (i := 0) (by decide)).trans (congrArg some (dt 0 (by omega) (Nat.zero_le _)).2.1)
      refine ⟨nI (bT9 S p pg (B9 S p S.1.2.1).1 0).2.1, n, ?_, d1.1, (hM.f0 0).trans d2, ?_⟩
      · simp only [f_X5_pages, hM.ch, obs, nop_hit hM hI hp, bi2_s, ift, hM.ch0, en, d1.1.q25, gm]
      · rw [d3, mI_sI_h]
        exact Ag.v _
  · refine Op.no h hI (.inl 3) (by simp only [f_X4_pages, h.ch, obs, kp_miss h hv, sml_l]) 1 (Ag.x (by decide)) (fun ν y am hM => ?_)
    simp only [f_X5_pages, hM.ch, obs, nop_miss hM hI hv, bi2_s, if1]
theorem c_lastBlock {m : Mem} {p pg j : Nat} (h : TB m x ad S p (B9 S p S.1.2.1).1 (bT9 S p pg (B9 S p S.1.2.1).1)) (hI : Inv S) (hj : j < (bT9 S p pg (B9 S p S.1.2.1).1 0).2.1) : f_X1_lastBlockOfPage m (ad 0 3) (nI j) = some (nI (it9 (bT9 S p pg (B9 S p S.1.2.1).1) (j + 1) - 1)) := by
  obtain ⟨n1, n2⟩ := B9_ok hI p
  obtain ⟨c1, t1⟩ := h
  have g9 : getI m 3 9 (ad 0 3) = some (nI (B9 S p S.1.2.1).1) := by rw [c1.1.ki, c1.2.1]
  have hP : (bT9 S p pg (B9 S p S.1.2.1).1 0).2.1 ≤ (B9 S p S.1.2.1).1 - 0 := (tb9_ok (pl := plB S p) (pg := pg) (tu9_le S p) (B9 S p S.1.2.1).1 (Nat.le_refl _) 0 (by omega) (Nat.zero_le _)).2.1
  have hit : ∀ i, i < (bT9 S p pg (B9 S p S.1.2.1).1 0).2.1 → it9 (bT9 S p pg (B9 S p S.1.2.1).1) i < (B9 S p S.1.2.1).1 ∧ it9 (bT9 S p pg (B9 S p S.1.2.1).1) i < it9 (bT9 S p pg (B9 S p S.1.2.1).1) (i + 1) ∧ it9 (bT9 S p pg (B9 S p S.1.2.1).1) (i + 1) ≤ (B9 S p S.1.2.1).1 := fun i hi => it9_lt (pl := plB S p) (pg := pg) (tu9_le S p) hi
  unfold f_X1_lastBlockOfPage
  refine lp_acc (acc := fun i => nI (it9 (bT9 S p pg (B9 S p S.1.2.1).1) i)) (F := fun n c i => f_X1_lastBlockOfPage_L4 m (ad 0 3) (nI j) (fun z _ => some (z - 1)) n c i) (N := j + 1) ?_ ?_ (m := 200) (by omega)
  · intro n i hi
    obtain ⟨k1, k2, k3⟩ := hit i (by omega)
    have ga : ald m (ad 1 8) (nI (it9 (bT9 S p pg (B9 S p S.1.2.1).1) i)) = some (nI (it9 (bT9 S p pg (B9 S p S.1.2.1).1) (i + 1))) := (c1.1.ka (k := 8) (by decide) (by decide) (by omega)).trans (congrArg some ((t1 _ (by omega) (by omega)).2.2 k1))
    simp only [f_X1_lastBlockOfPage_L4, if_neg (nI_nlt (show i ≤ j by omega) (by omega)), g9, obs, if_neg (nI_ge (show i < (B9 S p S.1.2.1).1 by omega) (by omega)), c1.1.kc, c_isBlock c1.1 (by omega) c1.2.1 k1, if1, c1.1.kq8, ga]
  · intro n
    obtain ⟨k1, k2, k3⟩ := hit j hj
    simp only [f_X1_lastBlockOfPage_L4, if_pos (nI_lt (Nat.lt_succ_self j) (by omega))]
    obtain ⟨d, hd⟩ : ∃ d, it9 (bT9 S p pg (B9 S p S.1.2.1).1) (j + 1) = d + 1 := ⟨it9 (bT9 S p pg (B9 S p S.1.2.1).1) (j + 1) - 1, by omega⟩
    rw [hd, nI_pred, Nat.add_sub_cancel]
theorem m_pageL {m : Mem} {p pg j : Nat} (h : RT m y am S p (B9 S p S.1.2.1).1 (bT9 S p pg (B9 S p S.1.2.1).1)) (hI : Inv S) (hj : j < (bT9 S p pg (B9 S p S.1.2.1).1 0).2.1) (P : Int32) (K : Int32 → Int32 → Option (Int32 × Mem)) : f_X5_pageEnd_L42 m y P (nI j) K 200 0 0 = K (nI (it9 (bT9 S p pg (B9 S p S.1.2.1).1) j)) (nI j) := by
  obtain ⟨n1, n2⟩ := B9_ok hI p
  obtain ⟨c1, t1⟩ := h
  have hP : (bT9 S p pg (B9 S p S.1.2.1).1 0).2.1 ≤ (B9 S p S.1.2.1).1 - 0 := (tb9_ok (pl := plB S p) (pg := pg) (tu9_le S p) (B9 S p S.1.2.1).1 (Nat.le_refl _) 0 (by omega) (Nat.zero_le _)).2.1
  have hit : ∀ i, i < (bT9 S p pg (B9 S p S.1.2.1).1 0).2.1 → it9 (bT9 S p pg (B9 S p S.1.2.1).1) i < (B9 S p S.1.2.1).1 ∧ it9 (bT9 S p pg (B9 S p S.1.2.1).1) i < it9 (bT9 S p pg (B9 S p S.1.2.1).1) (i + 1) ∧ it9 (bT9 S p pg (B9 S p S.1.2.1).1) (i + 1) ≤ (B9 S p S.1.2.1).1 := fun i hi => it9_lt (pl := plB S p) (pg := pg) (tu9_le S p) hi
  refine lp_acc (acc := fun i => nI (it9 (bT9 S p pg (B9 S p S.1.2.1).1) i)) (F := fun n c i => f_X5_pageEnd_L42 m y P (nI j) K n c i) (N := j) ?_ ?_ (m := 200) (by omega)
  · intro n i hi
    obtain ⟨k1, k2, k3⟩ := hit i (by omega)
    have ga : ald m (am 26) (nI (it9 (bT9 S p pg (B9 S p S.1.2.1).1) i)) = some (nI (it9 (bT9 S p pg (B9 S p S.1.2.1).1) (i + 1) - it9 (bT9 S p pg (B9 S p S.1.2.1).1) i)) := (c1.1.a26 (by omega)).trans (congrArg some ((t1 _ (by omega) (by omega)).2.2 k1))
    simp only [f_X5_pageEnd_L42, if_neg (nI_ge hi (by omega)), c1.1.q26, obs, ga, nI_add, show it9 (bT9 S p pg (B9 S p S.1.2.1).1) i + (it9 (bT9 S p pg (B9 S p S.1.2.1).1) (i + 1) - it9 (bT9 S p pg (B9 S p S.1.2.1).1) i) = it9 (bT9 S p pg (B9 S p S.1.2.1).1) (i + 1) by omega]
  · intro n
    simp only [f_X5_pageEnd_L42, if_pos (nI_le (Nat.le_refl j) (by omega))]
theorem o_pageEnd (h : BP μ x ad S) (hI : Inv S) (v w : Int32) : Op μ x S [3, 4] (f_X4_pageEnd μ x v w) (fun ν y => f_X5_pageEnd ν y v w) := by
  by_cases hv : ∃ j : Nat, j < S.1.1 ∧ v = nI j
  · obtain ⟨p, hp, rfl⟩ := hv
    obtain ⟨pg, hpg, epg⟩ := pg9_ok hI
    obtain ⟨n1, n2⟩ := B9_ok hI p
    obtain ⟨m, e, c1, f1⟩ := c_makeBlocks h hI p
    obtain ⟨m2, e2, ht2, f2⟩ := c_makePages c1 hI hpg epg
    have c2 := ht2.1
    have g := ht2.2 0 (by omega) (Nat.zero_le _)
    have ga : ald m2 (ad 1 7) 0 = some (nI (bT9 S p pg (B9 S p S.1.2.1).1 0).2.1) := (c2.1.ka (k := 7) (i := 0) (by decide) (by decide) (by decide)).trans (congrArg some g.2.1)
    have hP : (bT9 S p pg (B9 S p S.1.2.1).1 0).2.1 ≤ (B9 S p S.1.2.1).1 - 0 := (tb9_ok (pl := plB S p) (pg := pg) (tu9_le S p) (B9 S p S.1.2.1).1 (Nat.le_refl _) 0 (by omega) (Nat.zero_le _)).2.1
    have gm : ∀ (n : Mem) (y : Nat) (am : Nat → Nat), RT n y am S p (B9 S p S.1.2.1).1 (bT9 S p pg (B9 S p S.1.2.1).1) → ald n (am 25) 0 = some (nI (bT9 S p pg (B9 S p S.1.2.1).1 0).2.1) := fun n y am hR => (hR.1.1.a25 (i := 0) (by decide)).trans (congrArg some (hR.2 0 (by omega) (Nat.zero_le _)).2.1)
    by_cases hw : ∃ j : Nat, j < (bT9 S p pg (B9 S p S.1.2.1).1 0).2.1 ∧ w = nI j
    · obtain ⟨j, hj, rfl⟩ := hw
      obtain ⟨k1, k2, k3⟩ : it9 (bT9 S p pg (B9 S p S.1.2.1).1) j < (B9 S p S.1.2.1).1 ∧ it9 (bT9 S p pg (B9 S p S.1.2.1).1) j < it9 (bT9 S p pg (B9 S p S.1.2.1).1) (j + 1) ∧ it9 (bT9 S p pg (B9 S p S.1.2.1).1) (j + 1) ≤ (B9 S p S.1.2.1).1 := it9_lt (pl := plB S p) (pg := pg) (tu9_le S p) hj
      have hb : it9 (bT9 S p pg (B9 S p S.1.2.1).1) (j + 1) - 1 < (B9 S p S.1.2.1).1 := by omega
      refine ⟨.inr (nI (lb9 (B9 S p S.1.2.1) (it9 (bT9 S p pg (B9 S p S.1.2.1).1) (j + 1) - 1))), m2, S, ?_, hI, ⟨ad, c2.1⟩, f1.trans f2, fun ν y am hM => ?_⟩
      · simp only [f_X4_pageEnd, h.ch, obs, kp_hit h hI hp, sml_r, e, bi2_s, c1.1.q3, c1.1.kc, e2, if_neg (nI_pos (n := j) (by omega)), c2.1.q3, c2.1.kc, f_X1_countOfPages, c2.1.kq7, ga, if_pos (nI_lt hj (by omega)), c_lastBlock ht2 hI hj, c_lastBar c2 n1 hb]
      · obtain ⟨n, en, hR, d2, d3⟩ := m_makes (hM.s0 0) hI p hpg epg
        have d1 := hR.1
        have gt : ald n (am 26) (nI (it9 (bT9 S p pg (B9 S p S.1.2.1).1) j)) = some (nI (it9 (bT9 S p pg (B9 S p S.1.2.1).1) (j + 1) - it9 (bT9 S p pg (B9 S p S.1.2.1).1) j)) := (d1.1.a26 (by omega)).trans (congrArg some ((hR.2 _ (by omega) (by omega)).2.2 k1))
        have es : nI (it9 (bT9 S p pg (B9 S p S.1.2.1).1) j + (it9 (bT9 S p pg (B9 S p S.1.2.1).1) (j + 1) - it9 (bT9 S p pg (B9 S p S.1.2.1).1) j)) - 1 = nI (it9 (bT9 S p pg (B9 S p S.1.2.1).1) (j + 1) - 1) := by
          obtain ⟨d, hd⟩ : ∃ d, it9 (bT9 S p pg (B9 S p S.1.2.1).1) (j + 1) = d + 1 := ⟨it9 (bT9 S p pg (B9 S p S.1.2.1).1) (j + 1) - 1, by omega⟩
          rw [show it9 (bT9 S p pg (B9 S p S.1.2.1).1) j + (it9 (bT9 S p pg (B9 S p S.1.2.1).1) (j + 1) - it9 (bT9 S p pg (B9 S p S.1.2.1).1) j) = d + 1 by omega, nI_pred, hd, Nat.add_sub_cancel]
        refine ⟨nI (lb9 (B9 S p S.1.2.1) (it9 (bT9 S p pg (B9 S p S.1.2.1).1) (j + 1) - 1)), n, ?_, d1.1, (hM.f0 0).trans d2, ?_⟩
        · simp only [f_X5_pageEnd, hM.ch, obs, nop_hit hM hI hp, bi2_s, ift, hM.ch0, en, d1.1.q25, gm n y am hR, btw_nI n hj (by omega), if1, m_pageL hR hI hj, d1.1.q26, gt, d1.1.ch, nI_add, es, m_lastBar d1 n1 hb (n2 _ hb).2.1]
        · rw [d3, mI_sI_h]
          exact Ag.v _
    · refine ⟨.inl 4, m2, S, ?_, hI, ⟨ad, c2.1⟩, f1.trans f2, fun ν y am hM => ?_⟩
      · rcases ix3 w (n := (bT9 S p pg (B9 S p S.1.2.1).1 0).2.1) (by omega) with ⟨w1, -⟩ | ⟨w1, w2, -⟩ | w1
        · simp only [f_X4_pageEnd, h.ch, obs, kp_hit h hI hp, sml_r, e, bi2_s, c1.1.q3, c1.1.kc, e2, if_pos w1]
        · simp only [f_X4_pageEnd, h.ch, obs, kp_hit h hI hp, sml_r, e, bi2_s, c1.1.q3, c1.1.kc, e2, if_neg w2, c2.1.q3, c2.1.kc, f_X1_countOfPages, c2.1.kq7, ga, if_neg (Int32.not_lt.mpr w1)]
        · exact absurd w1 hw
      · obtain ⟨n, en, hR, d2, d3⟩ := m_makes (hM.s0 0) hI p hpg epg
        have d1 := hR.1
        refine ⟨0, sI n 7 0 y 2, ?_, d1.1.s0 2, ((hM.f0 0).trans d2).trans (d1.1.f0 2), ?_⟩
        · simp only [f_X5_pageEnd, hM.ch, obs, nop_hit hM hI hp, bi2_s, ift, hM.ch0, en, d1.1.q25, gm n y am hR, btw_no n (n := (bT9 S p pg (B9 S p S.1.2.1).1 0).2.1) (by omega) hw, d1.1.ch, m_fails d1.1]
        · rw [mI_sI_h]
          exact Ag.x (by decide)
  · refine Op.no h hI (.inl 3) (by simp only [f_X4_pageEnd, h.ch, obs, kp_miss h hv, sml_l]) 1 (Ag.x (by decide)) (fun ν y am hM => ?_)
    simp only [f_X5_pageEnd, hM.ch, obs, nop_miss hM hI hv, bi2_s, if1]
end P39s
