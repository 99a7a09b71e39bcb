/-! QUOTIENTS OF WHOLE NUMBERS ARE NUMBERS -/
theorem nn_asm (s : Bool) {e t : Nat} (h : e * 2 ^ 52 + t ≤ 2047 * 2 ^ 52) : FP.Core.assemble FP.Core.b64 s e t % 2 ^ 63 ≤ 2047 * 2 ^ 52 := by
  have h1 : FP.Core.assemble FP.Core.b64 s e t = s.toNat * 2 ^ 63 + (e * 2 ^ 52 + t) := by
    show (s.toNat * 2 ^ 11 + e) * 2 ^ 52 + t = _
    rw [Nat.add_mul, Nat.mul_assoc]
    omega
  rw [h1]
  omega
theorem nn_bound (s : Bool) {c : Nat} {q : Int} (h : c < 2 ^ 53) : FP.Core.encode FP.Core.b64 (FP.Core.bound FP.Core.b64 s c q) % 2 ^ 63 ≤ 2047 * 2 ^ 52 := by
  unfold FP.Core.bound
  by_cases hq : q ≤ 971
  · rw [if_pos (show q ≤ FP.Core.b64.qmax from hq)]
    show (if c < 2 ^ 52 then FP.Core.assemble FP.Core.b64 s 0 c else FP.Core.assemble FP.Core.b64 s ((q - (-1074)).toNat + 1) (c - 2 ^ 52)) % 2 ^ 63 ≤ _
    by_cases hc : c < 2 ^ 52
    · rw [if_pos hc]
      exact nn_asm s (by omega)
    · rw [if_neg hc]
      refine nn_asm s ?_
      have h1 : (q - (-1074)).toNat + 1 ≤ 2046 := by omega
      have h2 : ((q - (-1074)).toNat + 1) * 2 ^ 52 ≤ 2046 * 2 ^ 52 := Nat.mul_le_mul_right _ h1
      have h3 : c - 2 ^ 52 ≤ 2 ^ 52 := by omega
      exact Nat.le_trans (Nat.add_le_add h2 h3) (by decide)
  · rw [if_neg (show ¬ q ≤ FP.Core.b64.qmax from hq)]
    exact nn_asm (e := 2047) (t := 0) s (by omega)
theorem nn_settle (s : Bool) (c : Nat) (q : Int) : FP.Core.encode FP.Core.b64 (FP.Core.settle FP.Core.b64 s c q) % 2 ^ 63 ≤ 2047 * 2 ^ 52 := by
  unfold FP.Core.settle
  by_cases hc : c < 2 ^ 53
  · rw [if_pos (show c < 2 ^ FP.Core.b64.p from hc)]
    exact nn_bound s hc
  · rw [if_neg (show ¬ c < 2 ^ FP.Core.b64.p from hc)]
    exact nn_bound s (show 2 ^ 52 < 2 ^ 53 by decide)
theorem nn_ratio (s : Bool) (c d : Nat) (q : Int) : FP.Core.encode FP.Core.b64 (FP.Core.roundRatio FP.Core.b64 s c d q) % 2 ^ 63 ≤ 2047 * 2 ^ 52 := by
  unfold FP.Core.roundRatio
  by_cases hc : c = 0
  · rw [if_pos hc]
    show (if 0 < 2 ^ 52 then FP.Core.assemble FP.Core.b64 s 0 0 else FP.Core.assemble FP.Core.b64 s ((FP.Core.b64.qmin - FP.Core.b64.qmin).toNat + 1) (0 - 2 ^ 52)) % 2 ^ 63 ≤ _
    rw [if_pos (by decide)]
    exact nn_asm s (by omega)
  · rw [if_neg hc]
    exact nn_settle s _ _
/-- a number other than zero, infinity or none -/
def fin9 (z : Bool) (x : UInt64) : Bool := match FP.Core.decode FP.Core.b64 x.toNat with
  | .fin _ c _ => z || decide (c ≠ 0)
  | _ => false
theorem fin_ex {z : Bool} {x : UInt64} (h : fin9 z x = true) : ∃ s c q, FP.Core.decode FP.Core.b64 x.toNat = .fin s c q ∧ (z = false → c ≠ 0) := by
  unfold fin9 at h
  split at h
  · rename_i s c q e
    refine ⟨s, c, q, e, fun hz => ?_⟩
    rw [hz, Bool.false_or, decide_eq_true_eq] at h
    exact h
  · cases h
theorem gn_quot {a b : UInt64} (ha : fin9 true a = true) (hb : fin9 false b = true) : gn64 (FP.ddiv a b) = some () := by
  obtain ⟨s, c, q, e1, -⟩ := fin_ex ha
  obtain ⟨t, d, r, e2, hd⟩ := fin_ex hb
  have h0 : FP.ddiv a b = UInt64.ofNat (FP.Core.encode FP.Core.b64 (FP.Core.quotient FP.Core.b64 (FP.Core.decode FP.Core.b64 a.toNat) (FP.Core.decode FP.Core.b64 b.toNat))) := rfl
  have h1 : FP.Core.quotient FP.Core.b64 (FP.Core.decode FP.Core.b64 a.toNat) (FP.Core.decode FP.Core.b64 b.toNat) = FP.Core.roundRatio FP.Core.b64 (s != t) c d (q - r) := by
    rw [e1, e2]
    exact if_neg (hd rfl)
  unfold gn64
  refine if_pos ?_
  rw [h0, h1, UInt64.le_iff_toNat_le, UInt64.toNat_and]
  have h2 := nn_ratio (s != t) c d (q - r)
  generalize FP.Core.encode FP.Core.b64 (FP.Core.roundRatio FP.Core.b64 (s != t) c d (q - r)) = n at h2
  rw [show (0x7fffffffffffffff : UInt64).toNat = 2 ^ 63 - 1 from rfl, Nat.and_two_pow_sub_one_eq_mod, UInt64.toNat_ofNat']
  rw [show (0x7ff0000000000000 : UInt64).toNat = 2047 * 2 ^ 52 from rfl]
  omega
theorem fin_den : ∀ c, c < 120 → fin9 false (FP.i2d (nI (c + 1))) = true := by decide +kernel
theorem fin_num : ∀ u, u < 121 → ∀ v, v < 96 → fin9 true (FP.i2d (nI (96 * u + v))) = true := by decide +kernel
theorem gn_mean {a c : Nat} (ha : a < 11616) (hc : 0 < c) (hc2 : c ≤ 120) : gn64 (FP.ddiv (FP.i2d (nI a)) (FP.i2d (nI c))) = some () := by
  have h1 := fin_num (a / 96) (by omega) (a % 96) (Nat.mod_lt _ (by decide))
  rw [show 96 * (a / 96) + a % 96 = a from Nat.div_add_mod a 96] at h1
  obtain ⟨d, rfl⟩ : ∃ d, c = d + 1 := ⟨c - 1, by omega⟩
  exact gn_quot h1 (fin_den d (by omega))
theorem gn_share : ∀ b, b < 14 → ∀ a, a < 15 → gn32 (FP.fdiv (FP.i2f (nI a)) (FP.i2f (nI (b + 1)))) = some () ∧ gn64 (FP.f2d (FP.fdiv (FP.i2f (nI a)) (FP.i2f (nI (b + 1))))) = some () := by decide +kernel
