/-! the ticks without notes around a turn -/
theorem cnt_zero {q : Nat → Bool} : ∀ {n : Nat}, cnt q n = 0 → ∀ i, i < n → q i = false := by
  intro n
  induction n with
  | zero => intro _ i hi; exact absurd hi (Nat.not_lt_zero i)
  | succ n ih =>
    intro h i hi
    rw [cnt_s] at h
    by_cases e : i = n
    · subst e
      cases hq : q i with
      | false => rfl
      | true => rw [hq, if_pos rfl] at h; omega
    · exact ih (by omega) i (by omega)
theorem tk9_s (S : SS) (a n : Nat) : tk9 S a (n + 1) = tk9 S a n + S.2 2 (a + n) * 4 := rfl
section P39o
variable {μ μ' ν : Mem} {x y : Nat} {ad : Nat → Nat → Nat} {am : Nat → Nat} {S : SS}
theorem note_in (hI : Inv S) {p f q i : Nat} (hf : f < S.1.2.1) (eq : S.2 2 f = nI q) (h8 : q ≤ 8) (hi : i < S.1.2.2) (h : qAt S (nI p) (nI f) i = true) : ∃ t l : Nat, S.2 8 i = nI t ∧ S.2 9 i = nI l ∧ t + l ≤ q * 4 := by
  have h14 := hI.1.2.1
  obtain ⟨-, ⟨b, hb, e6, hle⟩, -, h0, h1, -⟩ := hI.2.2.2.1 i hi
  have h6 : S.2 6 i = nI f := by
    unfold qAt at h
    rw [decide_eq_true_eq] at h
    exact h.2.2
  rw [h6] at e6
  have ebf : f = b := (nI_eq (by omega) (by omega)).mp e6
  subst ebf
  rw [eq, nI_toInt (by omega)] at hle
  obtain ⟨t, ht, et⟩ := nI_of (x := S.2 8 i) (by rw [Int32.lt_iff_toInt_lt, Int32.toInt_zero]; omega)
  obtain ⟨l, hl, el⟩ := nI_of (x := S.2 9 i) (by rw [Int32.lt_iff_toInt_lt, Int32.toInt_zero]; omega)
  rw [et, el, nI_toInt ht, nI_toInt hl] at hle
  exact ⟨t, l, et, el, by omega⟩
def gEnd (S : SS) (p f : Nat) (all : Int32) (i : Nat) (c : Int32) : Int32 := if qAt S (nI p) (nI f) i = true then (if all - S.2 8 i - S.2 9 i < c then all - S.2 8 i - S.2 9 i else c) else c
theorem end_dual (hI : Inv S) {p f : Nat} (hf : f < S.1.2.1) : fold9 (gEnd S p f (S.2 2 f * 4)) (S.2 2 f * 4) S.1.2.2 = S.2 2 f * 4 - fold9 (gMax S p f) 0 S.1.2.2 := by
  obtain ⟨q, h1, h8, eq⟩ := hI.beats hf
  have e4 : S.2 2 f * 4 = nI (q * 4) := by rw [eq, show (4 : Int32) = nI 4 from rfl, pk_mul]
  have h : ∀ n, n ≤ S.1.2.2 → ∃ v, v ≤ q * 4 ∧ fold9 (gMax S p f) 0 n = nI v ∧ fold9 (gEnd S p f (nI (q * 4))) (nI (q * 4)) n = nI (q * 4 - v) := by
    intro n
    induction n with
    | zero => intro _; exact ⟨0, Nat.zero_le _, rfl, rfl⟩
    | succ n ih =>
      intro hn
      obtain ⟨v, hv, e1, e2⟩ := ih (by omega)
      show ∃ v, v ≤ q * 4 ∧ gMax S p f n (fold9 (gMax S p f) 0 n) = nI v ∧ gEnd S p f (nI (q * 4)) n (fold9 (gEnd S p f (nI (q * 4))) (nI (q * 4)) n) = nI (q * 4 - v)
      rw [e1, e2]
      unfold gMax gEnd
      by_cases hq : qAt S (nI p) (nI f) n = true
      · obtain ⟨t, l, et, el, hle⟩ := note_in hI hf eq h8 (by omega) hq
        rw [if_pos hq, if_pos hq, et, el, nI_add, pk_sub (show t ≤ q * 4 by omega), pk_sub (show l ≤ q * 4 - t by omega)]
        by_cases hlt : v < t + l
        · refine ⟨t + l, hle, if_pos (nI_lt hlt (by omega)), ?_⟩
          rw [if_pos (nI_lt (show q * 4 - t - l < q * 4 - v by omega) (by omega)), Nat.sub_sub]
        · refine ⟨v, hv, if_neg (nI_nlt (Nat.le_of_not_lt hlt) (by omega)), ?_⟩
          rw [if_neg (nI_nlt (show q * 4 - v ≤ q * 4 - t - l by omega) (by omega))]
      · rw [if_neg hq, if_neg hq]
        exact ⟨v, hv, rfl, rfl⟩
  obtain ⟨v, hv, e1, e2⟩ := h S.1.2.2 (Nat.le_refl _)
  rw [e4, e1, e2, pk_sub hv]
theorem m_allL {B : Nat × (Nat → Nat) × (Nat → Nat)} (h : MB ν y am S B) (hI : Inv S) (hB : B.1 ≤ 14) {k : Nat} (hk : k < B.1) (h4 : B.2.2 k ≤ 14) (hb : B.2.1 k + bn9 (B.2.2 k) ≤ S.1.2.1) (P z : Int32) (K : Int32 → Int32 → Option Int32) : f_X5_quiet_L11 ν y P (nI k) z K 200 0 (nI (B.2.1 k)) = K (tk9 S (B.2.1 k) (bn9 (B.2.2 k))) (nI (B.2.1 k + bn9 (B.2.2 k))) := by
  have h14 := hI.1.2.1
  have hp := bn9_pos (B.2.2 k)
  have el := m_lastBar h hB hk h4
  have g : ∀ d j m, j + d = bn9 (B.2.2 k) → d < m → f_X5_quiet_L11 ν y P (nI k) z K m (tk9 S (B.2.1 k) j) (nI (B.2.1 k + j)) = K (tk9 S (B.2.1 k) (bn9 (B.2.2 k))) (nI (B.2.1 k + bn9 (B.2.2 k))) := by
    intro d
    induction d with
    | zero =>
      intro j m hj hm
      obtain rfl : j = bn9 (B.2.2 k) := by omega
      obtain ⟨n, rfl⟩ : ∃ n, m = n + 1 := ⟨m - 1, by omega⟩
      simp only [f_X5_quiet_L11, h.1.ch, obs, el, if_pos (nI_lt (show lb9 B k < B.2.1 k + bn9 (B.2.2 k) by unfold lb9; omega) (by omega))]
    | succ d ih =>
      intro j m hj hm
      obtain ⟨n, rfl⟩ : ∃ n, m = n + 1 := ⟨m - 1, by omega⟩
      have e2 : tk9 S (B.2.1 k) j + 4 * S.2 2 (B.2.1 k + j) = tk9 S (B.2.1 k) (j + 1) := by rw [tk9_s, Int32.mul_comm]
      simp only [f_X5_quiet_L11, h.1.ch, obs, el, if_neg (nI_nlt (show B.2.1 k + j ≤ lb9 B k by unfold lb9; omega) (by unfold lb9; omega)), h.1.q2, h.1.a2 (show B.2.1 k + j < S.1.2.1 by omega) h14, e2, nI_1]
      exact ih (j + 1) n (by omega) (by omega)
  exact g (bn9 (B.2.2 k)) 0 200 (by omega) (by unfold bn9; split <;> omega)
theorem m_quietL {B : Nat × (Nat → Nat) × (Nat → Nat)} (h : MB ν y am S B) (hI : Inv S) (hB : B.1 ≤ 14) {p k : Nat} (hk : k < B.1) (z all : Int32) : f_X5_quiet_L48 ν y (nI p) (nI k) z all (fun t _ => some t) 200 all 0 = some (fold9 (if z = 0 then gMin S p (B.2.1 k) else gEnd S p (B.2.1 k) all) all S.1.2.2) := by
  have h120 := hI.1.2.2
  refine lp_fold (F := fun n c i => f_X5_quiet_L48 ν y (nI p) (nI k) z all (fun t _ => some t) n c i) (k := fun c => some c) (N := S.1.2.2) ?_ ?_ (m := 200) (by omega)
  · intro n i c hi
    simp only [f_X5_quiet_L48, h.1.i17, obs, if_neg (nI_ge hi (by omega)), h.1.q21, h.1.a21 (show k < 14 by omega), (h.2.2 k hk).1, h.1.ch, m_isAt h.1 h120 hi, h.1.q7, h.1.a7 hi h120, h.1.q8, h.1.a8 hi h120]
    by_cases hq : qAt S (nI p) (nI (B.2.1 k)) i = true
    · by_cases hz : z = 0
      · simp only [if_pos hq, if1, if_pos hz, gMin]
      · simp only [if_pos hq, if1, if_neg hz, gEnd]
    · by_cases hz : z = 0
      · simp only [if_neg hq, if0, ift, if_pos hz, gMin]
      · simp only [if_neg hq, if0, ift, if_neg hz, gEnd]
  · intro n c
    simp only [f_X5_quiet_L48, h.1.i17, obs, if_pos (nI_le (Nat.le_refl S.1.2.2) (by omega))]
theorem fold9_id {β : Type} {g : Nat → β → β} {b : β} {n : Nat} (h : ∀ i c, i < n → g i c = c) : fold9 g b n = b := by
  induction n with
  | zero => rfl
  | succ n ih =>
    show g n (fold9 g b n) = b
    rw [ih (fun i c hi => h i c (by omega)), h n b (by omega)]
theorem m_quiet {p : Nat} (h : MB ν y am S (B9 S p S.1.2.1)) (hI : Inv S) {k : Nat} (hk : k < (B9 S p S.1.2.1).1) : f_X5_quiet ν y (nI p) (nI k) 0 = some (qs0 S p ((B9 S p S.1.2.1).2.1 k) ((B9 S p S.1.2.1).2.2 k)) ∧ f_X5_quiet ν y (nI p) (nI k) 1 = some (qe0 S p ((B9 S p S.1.2.1).2.1 k) ((B9 S p S.1.2.1).2.2 k)) := by
  obtain ⟨n1, n2⟩ := B9_ok hI p
  obtain ⟨m1, m2, m3⟩ := n2 k hk
  obtain ⟨-, -, -, -, -, i6⟩ := bls_ok (em9 S p) (mk9 S) S.1.2.1
  have hp := bn9_pos ((B9 S p S.1.2.1).2.2 k)
  have hall := fun z K => m_allL h hI n1 hk m2 m1 (nI p) z K
  by_cases e : (B9 S p S.1.2.1).2.2 k = 0
  · have e1 : tk9 S ((B9 S p S.1.2.1).2.1 k) (bn9 ((B9 S p S.1.2.1).2.2 k)) = S.2 2 ((B9 S p S.1.2.1).2.1 k) * 4 := by
      rw [e]
      exact tk9_1 S _
    have es : qs0 S p ((B9 S p S.1.2.1).2.1 k) ((B9 S p S.1.2.1).2.2 k) = fold9 (gMin S p ((B9 S p S.1.2.1).2.1 k)) (S.2 2 ((B9 S p S.1.2.1).2.1 k) * 4) S.1.2.2 := if_pos e
    have ee : qe0 S p ((B9 S p S.1.2.1).2.1 k) ((B9 S p S.1.2.1).2.2 k) = S.2 2 ((B9 S p S.1.2.1).2.1 k) * 4 - fold9 (gMax S p ((B9 S p S.1.2.1).2.1 k)) 0 S.1.2.2 := if_pos e
    rw [es, ee]
    constructor
    · simp only [f_X5_quiet, h.1.q21, obs, h.1.a21 (show k < 14 by omega), (h.2.2 k hk).1, hall, m_quietL h hI n1 hk, e1, ift, if_pos]
    · simp only [f_X5_quiet, h.1.q21, obs, h.1.a21 (show k < 14 by omega), (h.2.2 k hk).1, hall, m_quietL h hI n1 hk, e1, if_neg (show ¬ (1 : Int32) = 0 by decide), end_dual hI (show (B9 S p S.1.2.1).2.1 k < S.1.2.1 by omega)]
  · have e1 : bn9 ((B9 S p S.1.2.1).2.2 k) = (B9 S p S.1.2.1).2.2 k := if_neg e
    have es : qs0 S p ((B9 S p S.1.2.1).2.1 k) ((B9 S p S.1.2.1).2.2 k) = tk9 S ((B9 S p S.1.2.1).2.1 k) ((B9 S p S.1.2.1).2.2 k) := if_neg e
    have ee : qe0 S p ((B9 S p S.1.2.1).2.1 k) ((B9 S p S.1.2.1).2.2 k) = tk9 S ((B9 S p S.1.2.1).2.1 k) ((B9 S p S.1.2.1).2.2 k) := if_neg e
    have he : em9 S p ((B9 S p S.1.2.1).2.1 k) = true := i6 k hk e
    have h0 : cnt (qAt S (nI p) (nI ((B9 S p S.1.2.1).2.1 k))) S.1.2.2 = 0 := of_decide_eq_true he
    have hz := cnt_zero h0
    have f1 : ∀ b, fold9 (gMin S p ((B9 S p S.1.2.1).2.1 k)) b S.1.2.2 = b := fun b => fold9_id (fun i c hi => if_neg (by rw [hz i hi]; decide))
    have f2 : ∀ a b, fold9 (gEnd S p ((B9 S p S.1.2.1).2.1 k) a) b S.1.2.2 = b := fun a b => fold9_id (fun i c hi => if_neg (by rw [hz i hi]; decide))
    rw [es, ee]
    constructor
    · simp only [f_X5_quiet, h.1.q21, obs, h.1.a21 (show k < 14 by omega), (h.2.2 k hk).1, hall, m_quietL h hI n1 hk, e1, if_pos, f1]
    · simp only [f_X5_quiet, h.1.q21, obs, h.1.a21 (show k < 14 by omega), (h.2.2 k hk).1, hall, m_quietL h hI n1 hk, e1, if_neg (show ¬ (1 : Int32) = 0 by decide), f2]
/-- a turn behind a block: 1 if it isn't free -/
def tu9 (S : SS) (p k : Nat) : Nat := if k + 1 = (B9 S p S.1.2.1).1 then 0 else if S.2 16 1 ≤ qe0 S p ((B9 S p S.1.2.1).2.1 k) ((B9 S p S.1.2.1).2.2 k) + qs0 S p ((B9 S p S.1.2.1).2.1 (k + 1)) ((B9 S p S.1.2.1).2.2 (k + 1)) then 0 else 1
theorem tu9_le (S : SS) (p k : Nat) : tu9 S p k ≤ 1 := by
  unfold tu9
  split
  · omega
  · split <;> omega
theorem m_turn {p : Nat} (h : MB ν y am S (B9 S p S.1.2.1)) (hI : Inv S) {k : Nat} (hk : k < (B9 S p S.1.2.1).1) : f_X5_turnBehind ν y (nI p) (nI k) = some (nI (tu9 S p k)) := by
  obtain ⟨n1, n2⟩ := B9_ok hI p
  obtain ⟨d, hd⟩ : ∃ d, (B9 S p S.1.2.1).1 = d + 1 := ⟨(B9 S p S.1.2.1).1 - 1, by omega⟩
  have e23 : getI ν 7 23 y = some (nI (d + 1)) := by rw [h.1.iY, h.2.1, hd]
  by_cases e : k + 1 = (B9 S p S.1.2.1).1
  · have ek : k = d := by omega
    subst ek
    have et : tu9 S p k = 0 := if_pos e
    rw [et]
    simp only [f_X5_turnBehind, e23, obs, nI_pred, if_pos]
    rfl
  · have e1 : ¬ nI k = nI d := fun z => by
      have := (nI_eq (by omega) (by omega)).mp z
      omega
    have q1 := (m_quiet h hI hk).2
    have q2 := (m_quiet h hI (k := k + 1) (by omega)).1
    simp only [f_X5_turnBehind, e23, obs, nI_pred, if_neg e1, h.1.ch, q1, nI_1, q2, h.1.i19]
    unfold tu9
    rw [if_neg e]
    by_cases hl : S.2 16 1 ≤ qe0 S p ((B9 S p S.1.2.1).2.1 k) ((B9 S p S.1.2.1).2.2 k) + qs0 S p ((B9 S p S.1.2.1).2.1 (k + 1)) ((B9 S p S.1.2.1).2.2 (k + 1))
    · rw [if_neg (Int32.not_lt.mpr hl), if_pos hl]
      rfl
    · rw [if_pos (Int32.not_le.mp hl), if_neg hl]
      rfl
theorem c_turn {p : Nat} (h : CB μ x ad S p (B9 S p S.1.2.1)) (hI : Inv S) {k : Nat} (hk : k < (B9 S p S.1.2.1).1) : f_X1_hardTurnAhead μ (ad 0 3) (nI (k + 1)) = some (nI (tu9 S p k)) := by
  obtain ⟨n1, n2⟩ := B9_ok hI p
  obtain ⟨h1, h2, h3, h4, h5⟩ := h
  have g1 : ¬ nI (k + 1) < 1 := nI_nlt (b := 1) (by omega) (by omega)
  by_cases e : k + 1 = (B9 S p S.1.2.1).1
  · have et : tu9 S p k = 0 := if_pos e
    rw [et]
    simp only [f_X1_hardTurnAhead, if_neg g1, h1.ki, h2, obs, if_neg (nI_nlt (Nat.le_of_eq e.symm) (by omega))]
    rfl
  · have a4 : ald μ (ad 1 4) (nI k) = some (qe0 S p ((B9 S p S.1.2.1).2.1 k) ((B9 S p S.1.2.1).2.2 k)) := (h1.ka (k := 4) (by decide) (by decide) (by omega)).trans (congrArg some (h5 k hk).2.2.2.2.1)
    have a3 : ald μ (ad 1 3) (nI (k + 1)) = some (qs0 S p ((B9 S p S.1.2.1).2.1 (k + 1)) ((B9 S p S.1.2.1).2.2 (k + 1))) := (h1.ka (k := 3) (by decide) (by decide) (by omega)).trans (congrArg some (h5 (k + 1) (by omega)).2.2.2.1)
    simp only [f_X1_hardTurnAhead, if_neg g1, h1.ki, h2, obs, if_pos (nI_lt (show k + 1 < (B9 S p S.1.2.1).1 by omega) (by omega)), h1.kq4, nI_pred, a4, h1.kq3, a3, h4]
    unfold tu9
    rw [if_neg e]
    split <;> rfl
end P39o
