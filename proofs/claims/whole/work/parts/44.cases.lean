/-! THE LAW'S CASES -/
theorem r_lcmpE {p : Program} {l : Launch} {e : Env} {R : Room} {s : State} {m : MethodId} {args : Array Value} {below : List Frame} {meth : Method} {c : Code} {H : Heap} {locs : List Loc} {cells slots : Nat} {Q : State → Prop} {cc : ByteArray} {pc : Nat} {ls : Array Slot} {rest : List Value} (hexec : p.tables.exec = Jvm.exec) (hb : c.code = cc) {v : Int64} (hdg : decode cc pc = .ok (.lcmp, 1))
    (k : W p l e R s m args below meth c H locs cells slots Q (F0 m (pc + 1) ls (.int 0 :: rest))) : W p l e R s m args below meth c H locs cells slots Q (F0 m pc ls (.long v :: .long v :: rest)) := by
  intro T hT X
  obtain ⟨t, a, b⟩ := k T hT X
  refine ⟨t, ?_, b⟩
  have h1 : ¬ v > v := Int64.lt_irrefl
  jvm_step X.here [X.here.top, hexec, hb, hdg, h1]
  exact a
theorem dcmp_self {z : UInt64} (h : vf_n64 z) : FP.dcmp z z = some .eq := by
  have h1 : z.toNat % 2 ^ 63 ≤ 2047 * 2 ^ 52 := by
    unfold vf_n64 at h
    rw [UInt64.le_iff_toNat_le, UInt64.toNat_and, show (0x7fffffffffffffff : UInt64).toNat = 2 ^ 63 - 1 from rfl, Nat.and_two_pow_sub_one_eq_mod, show (0x7ff0000000000000 : UInt64).toNat = 2047 * 2 ^ 52 from rfl] at h
    exact h
  have h2 : FP.Core.decode FP.Core.b64 z.toNat ≠ .nan := by
    unfold FP.Core.decode
    split
    · rename_i h3
      split
      · intro h; cases h
      · rename_i h4
        exfalso
        refine h4 ?_
        have h3' : z.toNat / 2 ^ 52 % 2 ^ 11 = 2 ^ 11 - 1 := h3
        show z.toNat % 2 ^ 52 = 0
        omega
    · split <;> (intro h; cases h)
  show FP.Core.order (FP.Core.decode FP.Core.b64 z.toNat) (FP.Core.decode FP.Core.b64 z.toNat) = _
  have hc : ∀ k : Int, compare k k = .eq := by
    intro k
    show (if k < k then Ordering.lt else if k = k then .eq else .gt) = .eq
    rw [if_neg (Int.lt_irrefl _), if_pos rfl]
  generalize FP.Core.decode FP.Core.b64 z.toNat = d at h2
  cases d with
  | nan => exact absurd rfl h2
  | inf s => exact congrArg some (hc _)
  | fin s c q => exact congrArg some (hc _)
def LA (s : State) : Nat → Prop := fun q => s.heap.size ≤ q
/-- what the law's body has at hand -/
def LC (p : Program) (l : Launch) (s : State) (m : MethodId) (c : Code) (b L : Nat) (xs : Nat → Int32) (G : GG) : Prop :=
  p.tables.exec = Jvm.exec ∧ c.code = cL_law ∧ c.maxLocals = 9 ∧ s.vm.findClass RL = some m.cls ∧ (∀ w ∈ wsL_law, w.before #[Value.ref b] s = true) ∧ EN G (LA s) s s.heap ∧ va_X b L xs s s.heap ∧ b < s.heap.size ∧ l.stackTraces = false ∧ L ≤ 3584
/-- behind a call -/
def Nx (p : Program) (l : Launch) (e : Env) (s : State) (m : MethodId) (below : List Frame) (meth : Method) (c : Code) (b cells slots : Nat) (Q : State → Prop) (G : GG) (x y out od i : Nat) : Prop :=
  ∀ (μ' : Mem) (S' : SS) (H' : Heap) (locs' : List Loc) (ls' : Array Slot), Sm μ' x y out od S' → MW G (LA s) μ' s.heap H' locs' → lv_has ls' 9 [(5, .int (nI (7 * i))), (4, .ref od), (3, .ref out), (2, .ref y), (1, .ref x), (0, .ref b)] → W p l e room_1 s m #[Value.ref b] below meth c H' locs' (cells + 20) (slots + 200) Q (F0 m 2610 ls' [])
set_option maxHeartbeats 1000000 in
theorem cs_addPart {p : Program} {l : Launch} {e : Env} {s : State} {m : MethodId} {below : List Frame} {meth : Method} {c : Code} {b L : Nat} {xs : Nat → Int32} {G : GG} {Q : State → Prop} (C : LC p l s m c b L xs G) {i : Nat} (hi : 7 * i + 7 ≤ L) {x y out od cells slots : Nat} {μ : Mem} {S : SS} {H : Heap} {locs : List Loc} {ls : Array Slot} (hS : Sm μ x y out od S) (hW : MW G (LA s) μ s.heap H locs) (hl : lv_has ls 9 [(5, .int (nI (7 * i))), (4, .ref od), (3, .ref out), (2, .ref y), (1, .ref x), (0, .ref b)]) (hR : cells + 20 ≤ 603072 ∧ slots + 200 ≤ 7194730) (K : Nx p l e s m below meth c b cells slots Q G x y out od i) :
    W p l e room_1 s m #[Value.ref b] below meth c H locs cells slots Q (F0 m 212 ls []) := by
  obtain ⟨hx, hb, hml, hown, hts, hE, hX, hbl, hsl, hL⟩ := C
  have hA9 : ∀ q, s.heap.size ≤ q → LA s q := fun _ h => h
  have hbA : ¬ LA s b := Nat.not_le.mpr hbl
  have hin1 : vp_in (nI (7 * i) + 1) L := by rw [show nI (7 * i) + 1 = nI (7 * i + 1) from nI_add (7 * i) 1]; exact vp_in_nI (by omega) (by omega)
  refine lv_aload_n hx hb dL_law_212 rfl (lv_at hl 4 rfl) ?_
  refine lv_aload_n hx hb dL_law_213 rfl (lv_at hl 5 rfl) ?_
  refine lv_iload hx hb dL_law_214 (lv_at hl 0 rfl) ?_
  refine lv_iconst (v := 1) hx hb dL_law_216 (by decide) ?_
  refine lv_iadd hx hb dL_law_217 ?_
  refine va_sld hx hb hX hbl hbA hW.2 hin1 dL_law_218 ?_
  refine lv_aload_n hx hb dL_law_219 rfl (lv_at hl 2 rfl) ?_
  obtain ⟨P1, hO1, hP1⟩ := w_addPart l hsl G (LA s) hS (xs (nI (7 * i) + 1).toNatClampNeg)
  refine r_callSZ hx hb hml hown hts hE hA9 hW hl.1 hO1 gL_law_L_addPart rfl (by decide +kernel) (n := 3) rfl ⟨by decide, by decide, (show cells + 3 ≤ 603072 by omega), (show slots + 14 ≤ 7194730 by omega)⟩ (Nat.le_of_ble_eq_true rfl) dL_law_220 rfl (fun e9 m9 hp => by obtain ⟨c1, b1, m2, S2, h1, -⟩ := hP1 _ _ hp; cases h1) (fun v1 m1 H locs hp hW => ?_)
  obtain ⟨c1, b1, m2, S2, h1, hy1, hf1, ht1, hq1, hS2⟩ := hP1 _ _ hp
  cases h1
  refine W.eq (g2 := F0 m 223 ls [.int c1]) rfl ?_
  refine lv_istore (lv' := [(6, .int c1), (5, .int (nI (7 * i))), (4, .ref od), (3, .ref out), (2, .ref y), (1, .ref x), (0, .ref b)]) hx hb dL_law_223 hl (by decide) rfl (fun ls hl => ?_)
  refine lv_aload_n hx hb dL_law_225 rfl (lv_at hl 4 rfl) ?_
  refine lv_aload_n hx hb dL_law_226 rfl (lv_at hl 6 rfl) ?_
  refine lv_iload hx hb dL_law_227 (lv_at hl 1 rfl) ?_
  refine lv_iconst (v := 1) hx hb dL_law_229 (by decide) ?_
  refine lv_iadd hx hb dL_law_230 ?_
  refine va_sld hx hb hX hbl hbA hW.2 hin1 dL_law_231 ?_
  refine r_callVZ (ci := 7) hx hb hml hown hts hE hA9 hW hl.1 (k_X5_addPart l hsl G (LA s) m1 y (xs (nI (7 * i) + 1).toNatClampNeg) _ hf1) gL_law_X5_addPart rfl hy1 (by decide) rfl (by decide +kernel) (n := 1) rfl ⟨by decide, by decide, (show cells + 3 + 0 ≤ 603072 by omega), (show slots + 14 + 0 ≤ 7194730 by omega)⟩ (Nat.le_of_ble_eq_true rfl) dL_law_232 rfl (fun e9 m9 hp => by cases hp.1) (fun v2 m9 H locs hp hW9a => ?_)
  obtain ⟨h1, h2⟩ := hp
  cases h1
  replace h2 : m9 = m2 := h2
  subst h2
  have hW := hW9a
  refine W.eq (g2 := F0 m 235 ls [.int b1]) rfl ?_
  refine lv_istore (lv' := [(7, .int b1), (6, .int c1), (5, .int (nI (7 * i))), (4, .ref od), (3, .ref out), (2, .ref y), (1, .ref x), (0, .ref b)]) hx hb dL_law_235 hl (by decide) rfl (fun ls hl => ?_)
  refine lv_aload_n hx hb dL_law_237 rfl (lv_at hl 5 rfl) ?_
  have hMy : ok9 m9 7 y := by obtain ⟨-, -, ⟨am, hM⟩, -⟩ := hS2; exact hM.1
  have hth : f_X5_thrown m9 y = some c1 := by
    unfold f_X5_thrown
    rw [getI_ok hMy, obs, ht1]
  refine r_callVZ (ci := 7) hx hb hml hown hts hE hA9 hW hl.1 (k_X5_thrown l hsl G (LA s) m9 y _ hth) gL_law_X5_thrown rfl hMy (by decide) rfl (by decide +kernel) (n := 0) rfl ⟨by decide, by decide, (show cells + 3 + 0 + 0 ≤ 603072 by omega), (show slots + 14 + 0 + 0 ≤ 7194730 by omega)⟩ (Nat.le_of_ble_eq_true rfl) dL_law_238 rfl (fun e9 m9 hp => by cases hp.1) (fun v3 m8 H locs hp hW9b => ?_)
  obtain ⟨h1, h2⟩ := hp
  cases h1
  subst h2
  have hW := hW9b
  refine W.widen (k := cells + 20) (n := slots + 200) (show cells + 3 + 0 + 0 ≤ cells + 20 by omega) (show slots + 14 + 0 + 0 ≤ slots + 200 by omega) ?_
  refine W.eq (g2 := F0 m 241 ls [.int c1]) rfl ?_
  refine lv_iload hx hb dL_law_241 (lv_at hl 1 rfl) ?_
  refine lv_icmp_eq (tgt := 248) hx hb dL_law_243 (by decide) (fun _ => ?_) (fun hc => absurd rfl hc)
  refine lv_iload hx hb dL_law_248 (lv_at hl 1 rfl) ?_
  refine lv_if_ne (tgt := 265) hx hb dL_law_250 (by decide) (fun _ => ?_) (fun hc0 => ?_)
  · refine lv_goto (tgt := 2610) hx hb dL_law_265 (by decide) ?_
    exact K _ _ _ _ _ hS2 hW (lv_sub hl [2, 3, 4, 5, 6, 7] rfl)
  · have hq := hq1 hc0
    have hOO := hS2.2.2.2
    refine lv_aload_n hx hb dL_law_253 rfl (lv_at hl 4 rfl) ?_
    refine lv_iconst (v := 0) hx hb dL_law_254 (by decide) ?_
    refine r_lldK hx hb hE.1 hW (lld_ok hOO.1.1 hOO.1.2) dL_law_255 ?_
    rw [hq]
    refine lv_iload hx hb dL_law_256 (lv_at hl 0 rfl) ?_
    refine lv_i2l hx hb dL_law_258 rfl ?_
    refine r_lcmpE hx hb dL_law_259 ?_
    refine lv_if_eq (tgt := 265) hx hb dL_law_260 (by decide) (fun _ => ?_) (fun hc => absurd rfl hc)
    refine lv_goto (tgt := 2610) hx hb dL_law_265 (by decide) ?_
    exact K _ _ _ _ _ hS2 hW (lv_sub hl [2, 3, 4, 5, 6, 7] rfl)
set_option maxHeartbeats 1000000 in
theorem cs_addBar {p : Program} {l : Launch} {e : Env} {s : State} {m : MethodId} {below : List Frame} {meth : Method} {c : Code} {b L : Nat} {xs : Nat → Int32} {G : GG} {Q : State → Prop} (C : LC p l s m c b L xs G) {i : Nat} (hi : 7 * i + 7 ≤ L) {x y out od cells slots : Nat} {μ : Mem} {S : SS} {H : Heap} {locs : List Loc} {ls : Array Slot} (hS : Sm μ x y out od S) (hW : MW G (LA s) μ s.heap H locs) (hl : lv_has ls 9 [(5, .int (nI (7 * i))), (4, .ref od), (3, .ref out), (2, .ref y), (1, .ref x), (0, .ref b)]) (hR : cells + 20 ≤ 603072 ∧ slots + 200 ≤ 7194730) (K : Nx p l e s m below meth c b cells slots Q G x y out od i) :
    W p l e room_1 s m #[Value.ref b] below meth c H locs cells slots Q (F0 m 268 ls []) := by
  obtain ⟨hx, hb, hml, hown, hts, hE, hX, hbl, hsl, hL⟩ := C
  have hA9 : ∀ q, s.heap.size ≤ q → LA s q := fun _ h => h
  have hbA : ¬ LA s b := Nat.not_le.mpr hbl
  have hin1 : vp_in (nI (7 * i) + 1) L := by rw [show nI (7 * i) + 1 = nI (7 * i + 1) from nI_add (7 * i) 1]; exact vp_in_nI (by omega) (by omega)
  have hin2 : vp_in (nI (7 * i) + 2) L := by rw [show nI (7 * i) + 2 = nI (7 * i + 2) from nI_add (7 * i) 2]; exact vp_in_nI (by omega) (by omega)
  have hin3 : vp_in (nI (7 * i) + 3) L := by rw [show nI (7 * i) + 3 = nI (7 * i + 3) from nI_add (7 * i) 3]; exact vp_in_nI (by omega) (by omega)
  by_cases hz : (xs (nI (7 * i) + 3).toNatClampNeg) = 0
  · skip
    refine lv_aload_n hx hb dL_law_268 rfl (lv_at hl 4 rfl) ?_
    refine lv_aload_n hx hb dL_law_269 rfl (lv_at hl 5 rfl) ?_
    refine lv_iload hx hb dL_law_270 (lv_at hl 0 rfl) ?_
    refine lv_iconst (v := 1) hx hb dL_law_272 (by decide) ?_
    refine lv_iadd hx hb dL_law_273 ?_
    refine va_sld hx hb hX hbl hbA hW.2 hin1 dL_law_274 ?_
    refine lv_aload_n hx hb dL_law_275 rfl (lv_at hl 5 rfl) ?_
    refine lv_iload hx hb dL_law_276 (lv_at hl 0 rfl) ?_
    refine lv_iconst (v := 2) hx hb dL_law_278 (by decide) ?_
    refine lv_iadd hx hb dL_law_279 ?_
    refine va_sld hx hb hX hbl hbA hW.2 hin2 dL_law_280 ?_
    refine lv_aload_n hx hb dL_law_281 rfl (lv_at hl 5 rfl) ?_
    refine lv_iload hx hb dL_law_282 (lv_at hl 0 rfl) ?_
    refine lv_iconst (v := 3) hx hb dL_law_284 (by decide) ?_
    refine lv_iadd hx hb dL_law_285 ?_
    refine va_sld hx hb hX hbl hbA hW.2 hin3 dL_law_286 ?_
    refine lv_if_eq (tgt := 294) hx hb dL_law_287 (by decide) (fun _ => ?_) (fun hc => absurd hz hc)
    refine lv_iconst (v := 0) hx hb dL_law_294 (by decide) ?_
    refine lv_aload_n hx hb dL_law_295 rfl (lv_at hl 2 rfl) ?_
    obtain ⟨P1, hO1, hP1⟩ := w_addBar l hsl G (LA s) hS (xs (nI (7 * i) + 1).toNatClampNeg) (xs (nI (7 * i) + 2).toNatClampNeg) 0 (Or.inl rfl)
    refine r_callSZ hx hb hml hown hts hE hA9 hW hl.1 hO1 gL_law_L_addBar rfl (by decide +kernel) (n := 5) rfl ⟨by decide, by decide, (show cells + 3 ≤ 603072 by omega), (show slots + 15 ≤ 7194730 by omega)⟩ (Nat.le_of_ble_eq_true rfl) dL_law_296 rfl (fun e9 m9 hp => by obtain ⟨c1, b1, m2, S2, h1, -⟩ := hP1 _ _ hp; cases h1) (fun v1 m1 H locs hp hW => ?_)
    obtain ⟨c1, b1, m2, S2, h1, hy1, hf1, ht1, hq1, hS2⟩ := hP1 _ _ hp
    cases h1
    refine W.eq (g2 := F0 m 299 ls [.int c1]) rfl ?_
    refine lv_istore (lv' := [(6, .int c1), (5, .int (nI (7 * i))), (4, .ref od), (3, .ref out), (2, .ref y), (1, .ref x), (0, .ref b)]) hx hb dL_law_299 hl (by decide) rfl (fun ls hl => ?_)
    refine lv_aload_n hx hb dL_law_301 rfl (lv_at hl 4 rfl) ?_
    refine lv_aload_n hx hb dL_law_302 rfl (lv_at hl 6 rfl) ?_
    refine lv_iload hx hb dL_law_303 (lv_at hl 1 rfl) ?_
    refine lv_iconst (v := 1) hx hb dL_law_305 (by decide) ?_
    refine lv_iadd hx hb dL_law_306 ?_
    refine va_sld hx hb hX hbl hbA hW.2 hin1 dL_law_307 ?_
    refine lv_aload_n hx hb dL_law_308 rfl (lv_at hl 6 rfl) ?_
    refine lv_iload hx hb dL_law_309 (lv_at hl 1 rfl) ?_
    refine lv_iconst (v := 2) hx hb dL_law_311 (by decide) ?_
    refine lv_iadd hx hb dL_law_312 ?_
    refine va_sld hx hb hX hbl hbA hW.2 hin2 dL_law_313 ?_
    refine lv_aload_n hx hb dL_law_314 rfl (lv_at hl 6 rfl) ?_
    refine lv_iload hx hb dL_law_315 (lv_at hl 1 rfl) ?_
    refine lv_iconst (v := 3) hx hb dL_law_317 (by decide) ?_
    refine lv_iadd hx hb dL_law_318 ?_
    refine va_sld hx hb hX hbl hbA hW.2 hin3 dL_law_319 ?_
    refine lv_if_eq (tgt := 327) hx hb dL_law_320 (by decide) (fun _ => ?_) (fun hc => absurd hz hc)
    refine lv_iconst (v := 0) hx hb dL_law_327 (by decide) ?_
    refine r_callVZ (ci := 7) hx hb hml hown hts hE hA9 hW hl.1 (k_X5_addBar l hsl G (LA s) m1 y (xs (nI (7 * i) + 1).toNatClampNeg) (xs (nI (7 * i) + 2).toNatClampNeg) 0 _ hf1) gL_law_X5_addBar rfl hy1 (by decide) rfl (by decide +kernel) (n := 3) rfl ⟨by decide, by decide, (show cells + 3 + 0 ≤ 603072 by omega), (show slots + 15 + 0 ≤ 7194730 by omega)⟩ (Nat.le_of_ble_eq_true rfl) dL_law_328 rfl (fun e9 m9 hp => by cases hp.1) (fun v2 m9 H locs hp hW9a => ?_)
    obtain ⟨h1, h2⟩ := hp
    cases h1
    replace h2 : m9 = m2 := h2
    subst h2
    have hW := hW9a
    refine W.eq (g2 := F0 m 331 ls [.int b1]) rfl ?_
    refine lv_istore (lv' := [(7, .int b1), (6, .int c1), (5, .int (nI (7 * i))), (4, .ref od), (3, .ref out), (2, .ref y), (1, .ref x), (0, .ref b)]) hx hb dL_law_331 hl (by decide) rfl (fun ls hl => ?_)
    refine lv_aload_n hx hb dL_law_333 rfl (lv_at hl 5 rfl) ?_
    have hMy : ok9 m9 7 y := by obtain ⟨-, -, ⟨am, hM⟩, -⟩ := hS2; exact hM.1
    have hth : f_X5_thrown m9 y = some c1 := by
      unfold f_X5_thrown
      rw [getI_ok hMy, obs, ht1]
    refine r_callVZ (ci := 7) hx hb hml hown hts hE hA9 hW hl.1 (k_X5_thrown l hsl G (LA s) m9 y _ hth) gL_law_X5_thrown rfl hMy (by decide) rfl (by decide +kernel) (n := 0) rfl ⟨by decide, by decide, (show cells + 3 + 0 + 0 ≤ 603072 by omega), (show slots + 15 + 0 + 0 ≤ 7194730 by omega)⟩ (Nat.le_of_ble_eq_true rfl) dL_law_334 rfl (fun e9 m9 hp => by cases hp.1) (fun v3 m8 H locs hp hW9b => ?_)
    obtain ⟨h1, h2⟩ := hp
    cases h1
    subst h2
    have hW := hW9b
    refine W.widen (k := cells + 20) (n := slots + 200) (show cells + 3 + 0 + 0 ≤ cells + 20 by omega) (show slots + 15 + 0 + 0 ≤ slots + 200 by omega) ?_
    refine W.eq (g2 := F0 m 337 ls [.int c1]) rfl ?_
    refine lv_iload hx hb dL_law_337 (lv_at hl 1 rfl) ?_
    refine lv_icmp_eq (tgt := 344) hx hb dL_law_339 (by decide) (fun _ => ?_) (fun hc => absurd rfl hc)
    refine lv_iload hx hb dL_law_344 (lv_at hl 1 rfl) ?_
    refine lv_if_ne (tgt := 361) hx hb dL_law_346 (by decide) (fun _ => ?_) (fun hc0 => ?_)
    · refine lv_goto (tgt := 2610) hx hb dL_law_361 (by decide) ?_
      exact K _ _ _ _ _ hS2 hW (lv_sub hl [2, 3, 4, 5, 6, 7] rfl)
    · have hq := hq1 hc0
      have hOO := hS2.2.2.2
      refine lv_aload_n hx hb dL_law_349 rfl (lv_at hl 4 rfl) ?_
      refine lv_iconst (v := 0) hx hb dL_law_350 (by decide) ?_
      refine r_lldK hx hb hE.1 hW (lld_ok hOO.1.1 hOO.1.2) dL_law_351 ?_
      rw [hq]
      refine lv_iload hx hb dL_law_352 (lv_at hl 0 rfl) ?_
      refine lv_i2l hx hb dL_law_354 rfl ?_
      refine r_lcmpE hx hb dL_law_355 ?_
      refine lv_if_eq (tgt := 361) hx hb dL_law_356 (by decide) (fun _ => ?_) (fun hc => absurd rfl hc)
      refine lv_goto (tgt := 2610) hx hb dL_law_361 (by decide) ?_
      exact K _ _ _ _ _ hS2 hW (lv_sub hl [2, 3, 4, 5, 6, 7] rfl)
  · skip
    refine lv_aload_n hx hb dL_law_268 rfl (lv_at hl 4 rfl) ?_
    refine lv_aload_n hx hb dL_law_269 rfl (lv_at hl 5 rfl) ?_
    refine lv_iload hx hb dL_law_270 (lv_at hl 0 rfl) ?_
    refine lv_iconst (v := 1) hx hb dL_law_272 (by decide) ?_
    refine lv_iadd hx hb dL_law_273 ?_
    refine va_sld hx hb hX hbl hbA hW.2 hin1 dL_law_274 ?_
    refine lv_aload_n hx hb dL_law_275 rfl (lv_at hl 5 rfl) ?_
    refine lv_iload hx hb dL_law_276 (lv_at hl 0 rfl) ?_
    refine lv_iconst (v := 2) hx hb dL_law_278 (by decide) ?_
    refine lv_iadd hx hb dL_law_279 ?_
    refine va_sld hx hb hX hbl hbA hW.2 hin2 dL_law_280 ?_
    refine lv_aload_n hx hb dL_law_281 rfl (lv_at hl 5 rfl) ?_
    refine lv_iload hx hb dL_law_282 (lv_at hl 0 rfl) ?_
    refine lv_iconst (v := 3) hx hb dL_law_284 (by decide) ?_
    refine lv_iadd hx hb dL_law_285 ?_
    refine va_sld hx hb hX hbl hbA hW.2 hin3 dL_law_286 ?_
    refine lv_if_eq (tgt := 294) hx hb dL_law_287 (by decide) (fun hc => absurd hc hz) (fun _ => ?_)
    refine lv_iconst (v := 1) hx hb dL_law_290 (by decide) ?_
    refine lv_goto (tgt := 295) hx hb dL_law_291 (by decide) ?_
    refine lv_aload_n hx hb dL_law_295 rfl (lv_at hl 2 rfl) ?_
    obtain ⟨P1, hO1, hP1⟩ := w_addBar l hsl G (LA s) hS (xs (nI (7 * i) + 1).toNatClampNeg) (xs (nI (7 * i) + 2).toNatClampNeg) 1 (Or.inr rfl)
    refine r_callSZ hx hb hml hown hts hE hA9 hW hl.1 hO1 gL_law_L_addBar rfl (by decide +kernel) (n := 5) rfl ⟨by decide, by decide, (show cells + 3 ≤ 603072 by omega), (show slots + 15 ≤ 7194730 by omega)⟩ (Nat.le_of_ble_eq_true rfl) dL_law_296 rfl (fun e9 m9 hp => by obtain ⟨c1, b1, m2, S2, h1, -⟩ := hP1 _ _ hp; cases h1) (fun v1 m1 H locs hp hW => ?_)
    obtain ⟨c1, b1, m2, S2, h1, hy1, hf1, ht1, hq1, hS2⟩ := hP1 _ _ hp
    cases h1
    refine W.eq (g2 := F0 m 299 ls [.int c1]) rfl ?_
    refine lv_istore (lv' := [(6, .int c1), (5, .int (nI (7 * i))), (4, .ref od), (3, .ref out), (2, .ref y), (1, .ref x), (0, .ref b)]) hx hb dL_law_299 hl (by decide) rfl (fun ls hl => ?_)
    refine lv_aload_n hx hb dL_law_301 rfl (lv_at hl 4 rfl) ?_
    refine lv_aload_n hx hb dL_law_302 rfl (lv_at hl 6 rfl) ?_
    refine lv_iload hx hb dL_law_303 (lv_at hl 1 rfl) ?_
    refine lv_iconst (v := 1) hx hb dL_law_305 (by decide) ?_
    refine lv_iadd hx hb dL_law_306 ?_
    refine va_sld hx hb hX hbl hbA hW.2 hin1 dL_law_307 ?_
    refine lv_aload_n hx hb dL_law_308 rfl (lv_at hl 6 rfl) ?_
    refine lv_iload hx hb dL_law_309 (lv_at hl 1 rfl) ?_
    refine lv_iconst (v := 2) hx hb dL_law_311 (by decide) ?_
    refine lv_iadd hx hb dL_law_312 ?_
    refine va_sld hx hb hX hbl hbA hW.2 hin2 dL_law_313 ?_
    refine lv_aload_n hx hb dL_law_314 rfl (lv_at hl 6 rfl) ?_
    refine lv_iload hx hb dL_law_315 (lv_at hl 1 rfl) ?_
    refine lv_iconst (v := 3) hx hb dL_law_317 (by decide) ?_
    refine lv_iadd hx hb dL_law_318 ?_
    refine va_sld hx hb hX hbl hbA hW.2 hin3 dL_law_319 ?_
    refine lv_if_eq (tgt := 327) hx hb dL_law_320 (by decide) (fun hc => absurd hc hz) (fun _ => ?_)
    refine lv_iconst (v := 1) hx hb dL_law_323 (by decide) ?_
    refine lv_goto (tgt := 328) hx hb dL_law_324 (by decide) ?_
    refine r_callVZ (ci := 7) hx hb hml hown hts hE hA9 hW hl.1 (k_X5_addBar l hsl G (LA s) m1 y (xs (nI (7 * i) + 1).toNatClampNeg) (xs (nI (7 * i) + 2).toNatClampNeg) 1 _ hf1) gL_law_X5_addBar rfl hy1 (by decide) rfl (by decide +kernel) (n := 3) rfl ⟨by decide, by decide, (show cells + 3 + 0 ≤ 603072 by omega), (show slots + 15 + 0 ≤ 7194730 by omega)⟩ (Nat.le_of_ble_eq_true rfl) dL_law_328 rfl (fun e9 m9 hp => by cases hp.1) (fun v2 m9 H locs hp hW9a => ?_)
    obtain ⟨h1, h2⟩ := hp
    cases h1
    replace h2 : m9 = m2 := h2
    subst h2
    have hW := hW9a
    refine W.eq (g2 := F0 m 331 ls [.int b1]) rfl ?_
    refine lv_istore (lv' := [(7, .int b1), (6, .int c1), (5, .int (nI (7 * i))), (4, .ref od), (3, .ref out), (2, .ref y), (1, .ref x), (0, .ref b)]) hx hb dL_law_331 hl (by decide) rfl (fun ls hl => ?_)
    refine lv_aload_n hx hb dL_law_333 rfl (lv_at hl 5 rfl) ?_
    have hMy : ok9 m9 7 y := by obtain ⟨-, -, ⟨am, hM⟩, -⟩ := hS2; exact hM.1
    have hth : f_X5_thrown m9 y = some c1 := by
      unfold f_X5_thrown
      rw [getI_ok hMy, obs, ht1]
    refine r_callVZ (ci := 7) hx hb hml hown hts hE hA9 hW hl.1 (k_X5_thrown l hsl G (LA s) m9 y _ hth) gL_law_X5_thrown rfl hMy (by decide) rfl (by decide +kernel) (n := 0) rfl ⟨by decide, by decide, (show cells + 3 + 0 + 0 ≤ 603072 by omega), (show slots + 15 + 0 + 0 ≤ 7194730 by omega)⟩ (Nat.le_of_ble_eq_true rfl) dL_law_334 rfl (fun e9 m9 hp => by cases hp.1) (fun v3 m8 H locs hp hW9b => ?_)
    obtain ⟨h1, h2⟩ := hp
    cases h1
    subst h2
    have hW := hW9b
    refine W.widen (k := cells + 20) (n := slots + 200) (show cells + 3 + 0 + 0 ≤ cells + 20 by omega) (show slots + 15 + 0 + 0 ≤ slots + 200 by omega) ?_
    refine W.eq (g2 := F0 m 337 ls [.int c1]) rfl ?_
    refine lv_iload hx hb dL_law_337 (lv_at hl 1 rfl) ?_
    refine lv_icmp_eq (tgt := 344) hx hb dL_law_339 (by decide) (fun _ => ?_) (fun hc => absurd rfl hc)
    refine lv_iload hx hb dL_law_344 (lv_at hl 1 rfl) ?_
    refine lv_if_ne (tgt := 361) hx hb dL_law_346 (by decide) (fun _ => ?_) (fun hc0 => ?_)
    · refine lv_goto (tgt := 2610) hx hb dL_law_361 (by decide) ?_
      exact K _ _ _ _ _ hS2 hW (lv_sub hl [2, 3, 4, 5, 6, 7] rfl)
    · have hq := hq1 hc0
      have hOO := hS2.2.2.2
      refine lv_aload_n hx hb dL_law_349 rfl (lv_at hl 4 rfl) ?_
      refine lv_iconst (v := 0) hx hb dL_law_350 (by decide) ?_
      refine r_lldK hx hb hE.1 hW (lld_ok hOO.1.1 hOO.1.2) dL_law_351 ?_
      rw [hq]
      refine lv_iload hx hb dL_law_352 (lv_at hl 0 rfl) ?_
      refine lv_i2l hx hb dL_law_354 rfl ?_
      refine r_lcmpE hx hb dL_law_355 ?_
      refine lv_if_eq (tgt := 361) hx hb dL_law_356 (by decide) (fun _ => ?_) (fun hc => absurd rfl hc)
      refine lv_goto (tgt := 2610) hx hb dL_law_361 (by decide) ?_
      exact K _ _ _ _ _ hS2 hW (lv_sub hl [2, 3, 4, 5, 6, 7] rfl)
set_option maxHeartbeats 1000000 in
theorem cs_setMark {p : Program} {l : Launch} {e : Env} {s : State} {m : MethodId} {below : List Frame} {meth : Method} {c : Code} {b L : Nat} {xs : Nat → Int32} {G : GG} {Q : State → Prop} (C : LC p l s m c b L xs G) {i : Nat} (hi : 7 * i + 7 ≤ L) {x y out od cells slots : Nat} {μ : Mem} {S : SS} {H : Heap} {locs : List Loc} {ls : Array Slot} (hS : Sm μ x y out od S) (hW : MW G (LA s) μ s.heap H locs) (hl : lv_has ls 9 [(5, .int (nI (7 * i))), (4, .ref od), (3, .ref out), (2, .ref y), (1, .ref x), (0, .ref b)]) (hR : cells + 20 ≤ 603072 ∧ slots + 200 ≤ 7194730) (K : Nx p l e s m below meth c b cells slots Q G x y out od i) :
    W p l e room_1 s m #[Value.ref b] below meth c H locs cells slots Q (F0 m 364 ls []) := by
  obtain ⟨hx, hb, hml, hown, hts, hE, hX, hbl, hsl, hL⟩ := C
  have hA9 : ∀ q, s.heap.size ≤ q → LA s q := fun _ h => h
  have hbA : ¬ LA s b := Nat.not_le.mpr hbl
  have hin1 : vp_in (nI (7 * i) + 1) L := by rw [show nI (7 * i) + 1 = nI (7 * i + 1) from nI_add (7 * i) 1]; exact vp_in_nI (by omega) (by omega)
  have hin2 : vp_in (nI (7 * i) + 2) L := by rw [show nI (7 * i) + 2 = nI (7 * i + 2) from nI_add (7 * i) 2]; exact vp_in_nI (by omega) (by omega)
  by_cases hz : (xs (nI (7 * i) + 2).toNatClampNeg) = 0
  · skip
    refine lv_aload_n hx hb dL_law_364 rfl (lv_at hl 4 rfl) ?_
    refine lv_aload_n hx hb dL_law_365 rfl (lv_at hl 5 rfl) ?_
    refine lv_iload hx hb dL_law_366 (lv_at hl 0 rfl) ?_
    refine lv_iconst (v := 1) hx hb dL_law_368 (by decide) ?_
    refine lv_iadd hx hb dL_law_369 ?_
    refine va_sld hx hb hX hbl hbA hW.2 hin1 dL_law_370 ?_
    refine lv_aload_n hx hb dL_law_371 rfl (lv_at hl 5 rfl) ?_
    refine lv_iload hx hb dL_law_372 (lv_at hl 0 rfl) ?_
    refine lv_iconst (v := 2) hx hb dL_law_374 (by decide) ?_
    refine lv_iadd hx hb dL_law_375 ?_
    refine va_sld hx hb hX hbl hbA hW.2 hin2 dL_law_376 ?_
    refine lv_if_eq (tgt := 384) hx hb dL_law_377 (by decide) (fun _ => ?_) (fun hc => absurd hz hc)
    refine lv_iconst (v := 0) hx hb dL_law_384 (by decide) ?_
    refine lv_aload_n hx hb dL_law_385 rfl (lv_at hl 2 rfl) ?_
    obtain ⟨P1, hO1, hP1⟩ := w_setMark l hsl G (LA s) hS (xs (nI (7 * i) + 1).toNatClampNeg) 0 (Or.inl rfl)
    refine r_callSZ hx hb hml hown hts hE hA9 hW hl.1 hO1 gL_law_L_setMark rfl (by decide +kernel) (n := 4) rfl ⟨by decide, by decide, (show cells + 1 ≤ 603072 by omega), (show slots + 6 ≤ 7194730 by omega)⟩ (Nat.le_of_ble_eq_true rfl) dL_law_386 rfl (fun e9 m9 hp => by obtain ⟨c1, b1, m2, S2, h1, -⟩ := hP1 _ _ hp; cases h1) (fun v1 m1 H locs hp hW => ?_)
    obtain ⟨c1, b1, m2, S2, h1, hy1, hf1, ht1, hq1, hS2⟩ := hP1 _ _ hp
    cases h1
    refine W.eq (g2 := F0 m 389 ls [.int c1]) rfl ?_
    refine lv_istore (lv' := [(6, .int c1), (5, .int (nI (7 * i))), (4, .ref od), (3, .ref out), (2, .ref y), (1, .ref x), (0, .ref b)]) hx hb dL_law_389 hl (by decide) rfl (fun ls hl => ?_)
    refine lv_aload_n hx hb dL_law_391 rfl (lv_at hl 4 rfl) ?_
    refine lv_aload_n hx hb dL_law_392 rfl (lv_at hl 6 rfl) ?_
    refine lv_iload hx hb dL_law_393 (lv_at hl 1 rfl) ?_
    refine lv_iconst (v := 1) hx hb dL_law_395 (by decide) ?_
    refine lv_iadd hx hb dL_law_396 ?_
    refine va_sld hx hb hX hbl hbA hW.2 hin1 dL_law_397 ?_
    refine lv_aload_n hx hb dL_law_398 rfl (lv_at hl 6 rfl) ?_
    refine lv_iload hx hb dL_law_399 (lv_at hl 1 rfl) ?_
    refine lv_iconst (v := 2) hx hb dL_law_401 (by decide) ?_
    refine lv_iadd hx hb dL_law_402 ?_
    refine va_sld hx hb hX hbl hbA hW.2 hin2 dL_law_403 ?_
    refine lv_if_eq (tgt := 411) hx hb dL_law_404 (by decide) (fun _ => ?_) (fun hc => absurd hz hc)
    refine lv_iconst (v := 0) hx hb dL_law_411 (by decide) ?_
    refine r_callVZ (ci := 7) hx hb hml hown hts hE hA9 hW hl.1 (k_X5_setMark l hsl G (LA s) m1 y (xs (nI (7 * i) + 1).toNatClampNeg) 0 _ hf1) gL_law_X5_setMark rfl hy1 (by decide) rfl (by decide +kernel) (n := 2) rfl ⟨by decide, by decide, (show cells + 1 + 0 ≤ 603072 by omega), (show slots + 6 + 0 ≤ 7194730 by omega)⟩ (Nat.le_of_ble_eq_true rfl) dL_law_412 rfl (fun e9 m9 hp => by cases hp.1) (fun v2 m9 H locs hp hW9a => ?_)
    obtain ⟨h1, h2⟩ := hp
    cases h1
    replace h2 : m9 = m2 := h2
    subst h2
    have hW := hW9a
    refine W.eq (g2 := F0 m 415 ls [.int b1]) rfl ?_
    refine lv_istore (lv' := [(7, .int b1), (6, .int c1), (5, .int (nI (7 * i))), (4, .ref od), (3, .ref out), (2, .ref y), (1, .ref x), (0, .ref b)]) hx hb dL_law_415 hl (by decide) rfl (fun ls hl => ?_)
    refine lv_aload_n hx hb dL_law_417 rfl (lv_at hl 5 rfl) ?_
    have hMy : ok9 m9 7 y := by obtain ⟨-, -, ⟨am, hM⟩, -⟩ := hS2; exact hM.1
    have hth : f_X5_thrown m9 y = some c1 := by
      unfold f_X5_thrown
      rw [getI_ok hMy, obs, ht1]
    refine r_callVZ (ci := 7) hx hb hml hown hts hE hA9 hW hl.1 (k_X5_thrown l hsl G (LA s) m9 y _ hth) gL_law_X5_thrown rfl hMy (by decide) rfl (by decide +kernel) (n := 0) rfl ⟨by decide, by decide, (show cells + 1 + 0 + 0 ≤ 603072 by omega), (show slots + 6 + 0 + 0 ≤ 7194730 by omega)⟩ (Nat.le_of_ble_eq_true rfl) dL_law_418 rfl (fun e9 m9 hp => by cases hp.1) (fun v3 m8 H locs hp hW9b => ?_)
    obtain ⟨h1, h2⟩ := hp
    cases h1
    subst h2
    have hW := hW9b
    refine W.widen (k := cells + 20) (n := slots + 200) (show cells + 1 + 0 + 0 ≤ cells + 20 by omega) (show slots + 6 + 0 + 0 ≤ slots + 200 by omega) ?_
    refine W.eq (g2 := F0 m 421 ls [.int c1]) rfl ?_
    refine lv_iload hx hb dL_law_421 (lv_at hl 1 rfl) ?_
    refine lv_icmp_eq (tgt := 428) hx hb dL_law_423 (by decide) (fun _ => ?_) (fun hc => absurd rfl hc)
    refine lv_iload hx hb dL_law_428 (lv_at hl 1 rfl) ?_
    refine lv_if_ne (tgt := 452) hx hb dL_law_430 (by decide) (fun _ => ?_) (fun hc0 => ?_)
    · refine lv_goto (tgt := 2610) hx hb dL_law_452 (by decide) ?_
      exact K _ _ _ _ _ hS2 hW (lv_sub hl [2, 3, 4, 5, 6, 7] rfl)
    · have hq := hq1 hc0
      have hOO := hS2.2.2.2
      refine lv_aload_n hx hb dL_law_433 rfl (lv_at hl 4 rfl) ?_
      refine lv_iconst (v := 0) hx hb dL_law_434 (by decide) ?_
      refine r_lldK hx hb hE.1 hW (lld_ok hOO.1.1 hOO.1.2) dL_law_435 ?_
      rw [hq]
      refine lv_iload hx hb dL_law_436 (lv_at hl 0 rfl) ?_
      refine lv_if_eq (tgt := 445) hx hb dL_law_438 (by decide) (fun hv => ?_) (fun hv => ?_)
      · refine lv_lconst (v := 0) hx hb dL_law_445 rfl ?_
        simp only [if_pos hv]
        refine r_lcmpE hx hb dL_law_446 ?_
        refine lv_if_eq (tgt := 452) hx hb dL_law_447 (by decide) (fun _ => ?_) (fun hc => absurd rfl hc)
        refine lv_goto (tgt := 2610) hx hb dL_law_452 (by decide) ?_
        exact K _ _ _ _ _ hS2 hW (lv_sub hl [2, 3, 4, 5, 6, 7] rfl)
      · refine lv_lconst (v := 1) hx hb dL_law_441 rfl ?_
        refine lv_goto (tgt := 446) hx hb dL_law_442 (by decide) ?_
        simp only [if_neg hv]
        refine r_lcmpE hx hb dL_law_446 ?_
        refine lv_if_eq (tgt := 452) hx hb dL_law_447 (by decide) (fun _ => ?_) (fun hc => absurd rfl hc)
        refine lv_goto (tgt := 2610) hx hb dL_law_452 (by decide) ?_
        exact K _ _ _ _ _ hS2 hW (lv_sub hl [2, 3, 4, 5, 6, 7] rfl)
  · skip
    refine lv_aload_n hx hb dL_law_364 rfl (lv_at hl 4 rfl) ?_
    refine lv_aload_n hx hb dL_law_365 rfl (lv_at hl 5 rfl) ?_
    refine lv_iload hx hb dL_law_366 (lv_at hl 0 rfl) ?_
    refine lv_iconst (v := 1) hx hb dL_law_368 (by decide) ?_
    refine lv_iadd hx hb dL_law_369 ?_
    refine va_sld hx hb hX hbl hbA hW.2 hin1 dL_law_370 ?_
    refine lv_aload_n hx hb dL_law_371 rfl (lv_at hl 5 rfl) ?_
    refine lv_iload hx hb dL_law_372 (lv_at hl 0 rfl) ?_
    refine lv_iconst (v := 2) hx hb dL_law_374 (by decide) ?_
    refine lv_iadd hx hb dL_law_375 ?_
    refine va_sld hx hb hX hbl hbA hW.2 hin2 dL_law_376 ?_
    refine lv_if_eq (tgt := 384) hx hb dL_law_377 (by decide) (fun hc => absurd hc hz) (fun _ => ?_)
    refine lv_iconst (v := 1) hx hb dL_law_380 (by decide) ?_
    refine lv_goto (tgt := 385) hx hb dL_law_381 (by decide) ?_
    refine lv_aload_n hx hb dL_law_385 rfl (lv_at hl 2 rfl) ?_
    obtain ⟨P1, hO1, hP1⟩ := w_setMark l hsl G (LA s) hS (xs (nI (7 * i) + 1).toNatClampNeg) 1 (Or.inr rfl)
    refine r_callSZ hx hb hml hown hts hE hA9 hW hl.1 hO1 gL_law_L_setMark rfl (by decide +kernel) (n := 4) rfl ⟨by decide, by decide, (show cells + 1 ≤ 603072 by omega), (show slots + 6 ≤ 7194730 by omega)⟩ (Nat.le_of_ble_eq_true rfl) dL_law_386 rfl (fun e9 m9 hp => by obtain ⟨c1, b1, m2, S2, h1, -⟩ := hP1 _ _ hp; cases h1) (fun v1 m1 H locs hp hW => ?_)
    obtain ⟨c1, b1, m2, S2, h1, hy1, hf1, ht1, hq1, hS2⟩ := hP1 _ _ hp
    cases h1
    refine W.eq (g2 := F0 m 389 ls [.int c1]) rfl ?_
    refine lv_istore (lv' := [(6, .int c1), (5, .int (nI (7 * i))), (4, .ref od), (3, .ref out), (2, .ref y), (1, .ref x), (0, .ref b)]) hx hb dL_law_389 hl (by decide) rfl (fun ls hl => ?_)
    refine lv_aload_n hx hb dL_law_391 rfl (lv_at hl 4 rfl) ?_
    refine lv_aload_n hx hb dL_law_392 rfl (lv_at hl 6 rfl) ?_
    refine lv_iload hx hb dL_law_393 (lv_at hl 1 rfl) ?_
    refine lv_iconst (v := 1) hx hb dL_law_395 (by decide) ?_
    refine lv_iadd hx hb dL_law_396 ?_
    refine va_sld hx hb hX hbl hbA hW.2 hin1 dL_law_397 ?_
    refine lv_aload_n hx hb dL_law_398 rfl (lv_at hl 6 rfl) ?_
    refine lv_iload hx hb dL_law_399 (lv_at hl 1 rfl) ?_
    refine lv_iconst (v := 2) hx hb dL_law_401 (by decide) ?_
    refine lv_iadd hx hb dL_law_402 ?_
    refine va_sld hx hb hX hbl hbA hW.2 hin2 dL_law_403 ?_
    refine lv_if_eq (tgt := 411) hx hb dL_law_404 (by decide) (fun hc => absurd hc hz) (fun _ => ?_)
    refine lv_iconst (v := 1) hx hb dL_law_407 (by decide) ?_
    refine lv_goto (tgt := 412) hx hb dL_law_408 (by decide) ?_
    refine r_callVZ (ci := 7) hx hb hml hown hts hE hA9 hW hl.1 (k_X5_setMark l hsl G (LA s) m1 y (xs (nI (7 * i) + 1).toNatClampNeg) 1 _ hf1) gL_law_X5_setMark rfl hy1 (by decide) rfl (by decide +kernel) (n := 2) rfl ⟨by decide, by decide, (show cells + 1 + 0 ≤ 603072 by omega), (show slots + 6 + 0 ≤ 7194730 by omega)⟩ (Nat.le_of_ble_eq_true rfl) dL_law_412 rfl (fun e9 m9 hp => by cases hp.1) (fun v2 m9 H locs hp hW9a => ?_)
    obtain ⟨h1, h2⟩ := hp
    cases h1
    replace h2 : m9 = m2 := h2
    subst h2
    have hW := hW9a
    refine W.eq (g2 := F0 m 415 ls [.int b1]) rfl ?_
    refine lv_istore (lv' := [(7, .int b1), (6, .int c1), (5, .int (nI (7 * i))), (4, .ref od), (3, .ref out), (2, .ref y), (1, .ref x), (0, .ref b)]) hx hb dL_law_415 hl (by decide) rfl (fun ls hl => ?_)
    refine lv_aload_n hx hb dL_law_417 rfl (lv_at hl 5 rfl) ?_
    have hMy : ok9 m9 7 y := by obtain ⟨-, -, ⟨am, hM⟩, -⟩ := hS2; exact hM.1
    have hth : f_X5_thrown m9 y = some c1 := by
      unfold f_X5_thrown
      rw [getI_ok hMy, obs, ht1]
    refine r_callVZ (ci := 7) hx hb hml hown hts hE hA9 hW hl.1 (k_X5_thrown l hsl G (LA s) m9 y _ hth) gL_law_X5_thrown rfl hMy (by decide) rfl (by decide +kernel) (n := 0) rfl ⟨by decide, by decide, (show cells + 1 + 0 + 0 ≤ 603072 by omega), (show slots + 6 + 0 + 0 ≤ 7194730 by omega)⟩ (Nat.le_of_ble_eq_true rfl) dL_law_418 rfl (fun e9 m9 hp => by cases hp.1) (fun v3 m8 H locs hp hW9b => ?_)
    obtain ⟨h1, h2⟩ := hp
    cases h1
    subst h2
    have hW := hW9b
    refine W.widen (k := cells + 20) (n := slots + 200) (show cells + 1 + 0 + 0 ≤ cells + 20 by omega) (show slots + 6 + 0 + 0 ≤ slots + 200 by omega) ?_
    refine W.eq (g2 := F0 m 421 ls [.int c1]) rfl ?_
    refine lv_iload hx hb dL_law_421 (lv_at hl 1 rfl) ?_
    refine lv_icmp_eq (tgt := 428) hx hb dL_law_423 (by decide) (fun _ => ?_) (fun hc => absurd rfl hc)
    refine lv_iload hx hb dL_law_428 (lv_at hl 1 rfl) ?_
    refine lv_if_ne (tgt := 452) hx hb dL_law_430 (by decide) (fun _ => ?_) (fun hc0 => ?_)
    · refine lv_goto (tgt := 2610) hx hb dL_law_452 (by decide) ?_
      exact K _ _ _ _ _ hS2 hW (lv_sub hl [2, 3, 4, 5, 6, 7] rfl)
    · have hq := hq1 hc0
      have hOO := hS2.2.2.2
      refine lv_aload_n hx hb dL_law_433 rfl (lv_at hl 4 rfl) ?_
      refine lv_iconst (v := 0) hx hb dL_law_434 (by decide) ?_
      refine r_lldK hx hb hE.1 hW (lld_ok hOO.1.1 hOO.1.2) dL_law_435 ?_
      rw [hq]
      refine lv_iload hx hb dL_law_436 (lv_at hl 0 rfl) ?_
      refine lv_if_eq (tgt := 445) hx hb dL_law_438 (by decide) (fun hv => ?_) (fun hv => ?_)
      · refine lv_lconst (v := 0) hx hb dL_law_445 rfl ?_
        simp only [if_pos hv]
        refine r_lcmpE hx hb dL_law_446 ?_
        refine lv_if_eq (tgt := 452) hx hb dL_law_447 (by decide) (fun _ => ?_) (fun hc => absurd rfl hc)
        refine lv_goto (tgt := 2610) hx hb dL_law_452 (by decide) ?_
        exact K _ _ _ _ _ hS2 hW (lv_sub hl [2, 3, 4, 5, 6, 7] rfl)
      · refine lv_lconst (v := 1) hx hb dL_law_441 rfl ?_
        refine lv_goto (tgt := 446) hx hb dL_law_442 (by decide) ?_
        simp only [if_neg hv]
        refine r_lcmpE hx hb dL_law_446 ?_
        refine lv_if_eq (tgt := 452) hx hb dL_law_447 (by decide) (fun _ => ?_) (fun hc => absurd rfl hc)
        refine lv_goto (tgt := 2610) hx hb dL_law_452 (by decide) ?_
        exact K _ _ _ _ _ hS2 hW (lv_sub hl [2, 3, 4, 5, 6, 7] rfl)
set_option maxHeartbeats 1000000 in
theorem cs_setKey {p : Program} {l : Launch} {e : Env} {s : State} {m : MethodId} {below : List Frame} {meth : Method} {c : Code} {b L : Nat} {xs : Nat → Int32} {G : GG} {Q : State → Prop} (C : LC p l s m c b L xs G) {i : Nat} (hi : 7 * i + 7 ≤ L) {x y out od cells slots : Nat} {μ : Mem} {S : SS} {H : Heap} {locs : List Loc} {ls : Array Slot} (hS : Sm μ x y out od S) (hW : MW G (LA s) μ s.heap H locs) (hl : lv_has ls 9 [(5, .int (nI (7 * i))), (4, .ref od), (3, .ref out), (2, .ref y), (1, .ref x), (0, .ref b)]) (hR : cells + 20 ≤ 603072 ∧ slots + 200 ≤ 7194730) (K : Nx p l e s m below meth c b cells slots Q G x y out od i) :
    W p l e room_1 s m #[Value.ref b] below meth c H locs cells slots Q (F0 m 455 ls []) := by
  obtain ⟨hx, hb, hml, hown, hts, hE, hX, hbl, hsl, hL⟩ := C
  have hA9 : ∀ q, s.heap.size ≤ q → LA s q := fun _ h => h
  have hbA : ¬ LA s b := Nat.not_le.mpr hbl
  have hin1 : vp_in (nI (7 * i) + 1) L := by rw [show nI (7 * i) + 1 = nI (7 * i + 1) from nI_add (7 * i) 1]; exact vp_in_nI (by omega) (by omega)
  have hin2 : vp_in (nI (7 * i) + 2) L := by rw [show nI (7 * i) + 2 = nI (7 * i + 2) from nI_add (7 * i) 2]; exact vp_in_nI (by omega) (by omega)
  refine lv_aload_n hx hb dL_law_455 rfl (lv_at hl 4 rfl) ?_
  refine lv_aload_n hx hb dL_law_456 rfl (lv_at hl 5 rfl) ?_
  refine lv_iload hx hb dL_law_457 (lv_at hl 0 rfl) ?_
  refine lv_iconst (v := 1) hx hb dL_law_459 (by decide) ?_
  refine lv_iadd hx hb dL_law_460 ?_
  refine va_sld hx hb hX hbl hbA hW.2 hin1 dL_law_461 ?_
  refine lv_aload_n hx hb dL_law_462 rfl (lv_at hl 5 rfl) ?_
  refine lv_iload hx hb dL_law_463 (lv_at hl 0 rfl) ?_
  refine lv_iconst (v := 2) hx hb dL_law_465 (by decide) ?_
  refine lv_iadd hx hb dL_law_466 ?_
  refine va_sld hx hb hX hbl hbA hW.2 hin2 dL_law_467 ?_
  refine lv_aload_n hx hb dL_law_468 rfl (lv_at hl 2 rfl) ?_
  obtain ⟨P1, hO1, hP1⟩ := w_setKey l hsl G (LA s) hS (xs (nI (7 * i) + 1).toNatClampNeg) (xs (nI (7 * i) + 2).toNatClampNeg)
  refine r_callSZ hx hb hml hown hts hE hA9 hW hl.1 hO1 gL_law_L_setKey rfl (by decide +kernel) (n := 4) rfl ⟨by decide, by decide, (show cells + 2 ≤ 603072 by omega), (show slots + 12 ≤ 7194730 by omega)⟩ (Nat.le_of_ble_eq_true rfl) dL_law_469 rfl (fun e9 m9 hp => by obtain ⟨c1, b1, m2, S2, h1, -⟩ := hP1 _ _ hp; cases h1) (fun v1 m1 H locs hp hW => ?_)
  obtain ⟨c1, b1, m2, S2, h1, hy1, hf1, ht1, hq1, hS2⟩ := hP1 _ _ hp
  cases h1
  refine W.eq (g2 := F0 m 472 ls [.int c1]) rfl ?_
  refine lv_istore (lv' := [(6, .int c1), (5, .int (nI (7 * i))), (4, .ref od), (3, .ref out), (2, .ref y), (1, .ref x), (0, .ref b)]) hx hb dL_law_472 hl (by decide) rfl (fun ls hl => ?_)
  refine lv_aload_n hx hb dL_law_474 rfl (lv_at hl 4 rfl) ?_
  refine lv_aload_n hx hb dL_law_475 rfl (lv_at hl 6 rfl) ?_
  refine lv_iload hx hb dL_law_476 (lv_at hl 1 rfl) ?_
  refine lv_iconst (v := 1) hx hb dL_law_478 (by decide) ?_
  refine lv_iadd hx hb dL_law_479 ?_
  refine va_sld hx hb hX hbl hbA hW.2 hin1 dL_law_480 ?_
  refine lv_aload_n hx hb dL_law_481 rfl (lv_at hl 6 rfl) ?_
  refine lv_iload hx hb dL_law_482 (lv_at hl 1 rfl) ?_
  refine lv_iconst (v := 2) hx hb dL_law_484 (by decide) ?_
  refine lv_iadd hx hb dL_law_485 ?_
  refine va_sld hx hb hX hbl hbA hW.2 hin2 dL_law_486 ?_
  refine r_callVZ (ci := 7) hx hb hml hown hts hE hA9 hW hl.1 (k_X5_setKey l hsl G (LA s) m1 y (xs (nI (7 * i) + 1).toNatClampNeg) (xs (nI (7 * i) + 2).toNatClampNeg) _ hf1) gL_law_X5_setKey rfl hy1 (by decide) rfl (by decide +kernel) (n := 2) rfl ⟨by decide, by decide, (show cells + 2 + 0 ≤ 603072 by omega), (show slots + 12 + 0 ≤ 7194730 by omega)⟩ (Nat.le_of_ble_eq_true rfl) dL_law_487 rfl (fun e9 m9 hp => by cases hp.1) (fun v2 m9 H locs hp hW9a => ?_)
  obtain ⟨h1, h2⟩ := hp
  cases h1
  replace h2 : m9 = m2 := h2
  subst h2
  have hW := hW9a
  refine W.eq (g2 := F0 m 490 ls [.int b1]) rfl ?_
  refine lv_istore (lv' := [(7, .int b1), (6, .int c1), (5, .int (nI (7 * i))), (4, .ref od), (3, .ref out), (2, .ref y), (1, .ref x), (0, .ref b)]) hx hb dL_law_490 hl (by decide) rfl (fun ls hl => ?_)
  refine lv_aload_n hx hb dL_law_492 rfl (lv_at hl 5 rfl) ?_
  have hMy : ok9 m9 7 y := by obtain ⟨-, -, ⟨am, hM⟩, -⟩ := hS2; exact hM.1
  have hth : f_X5_thrown m9 y = some c1 := by
    unfold f_X5_thrown
    rw [getI_ok hMy, obs, ht1]
  refine r_callVZ (ci := 7) hx hb hml hown hts hE hA9 hW hl.1 (k_X5_thrown l hsl G (LA s) m9 y _ hth) gL_law_X5_thrown rfl hMy (by decide) rfl (by decide +kernel) (n := 0) rfl ⟨by decide, by decide, (show cells + 2 + 0 + 0 ≤ 603072 by omega), (show slots + 12 + 0 + 0 ≤ 7194730 by omega)⟩ (Nat.le_of_ble_eq_true rfl) dL_law_493 rfl (fun e9 m9 hp => by cases hp.1) (fun v3 m8 H locs hp hW9b => ?_)
  obtain ⟨h1, h2⟩ := hp
  cases h1
  subst h2
  have hW := hW9b
  refine W.widen (k := cells + 20) (n := slots + 200) (show cells + 2 + 0 + 0 ≤ cells + 20 by omega) (show slots + 12 + 0 + 0 ≤ slots + 200 by omega) ?_
  refine W.eq (g2 := F0 m 496 ls [.int c1]) rfl ?_
  refine lv_iload hx hb dL_law_496 (lv_at hl 1 rfl) ?_
  refine lv_icmp_eq (tgt := 503) hx hb dL_law_498 (by decide) (fun _ => ?_) (fun hc => absurd rfl hc)
  refine lv_iload hx hb dL_law_503 (lv_at hl 1 rfl) ?_
  refine lv_if_ne (tgt := 520) hx hb dL_law_505 (by decide) (fun _ => ?_) (fun hc0 => ?_)
  · refine lv_goto (tgt := 2610) hx hb dL_law_520 (by decide) ?_
    exact K _ _ _ _ _ hS2 hW (lv_sub hl [2, 3, 4, 5, 6, 7] rfl)
  · have hq := hq1 hc0
    have hOO := hS2.2.2.2
    refine lv_aload_n hx hb dL_law_508 rfl (lv_at hl 4 rfl) ?_
    refine lv_iconst (v := 0) hx hb dL_law_509 (by decide) ?_
    refine r_lldK hx hb hE.1 hW (lld_ok hOO.1.1 hOO.1.2) dL_law_510 ?_
    rw [hq]
    refine lv_iload hx hb dL_law_511 (lv_at hl 0 rfl) ?_
    refine lv_i2l hx hb dL_law_513 rfl ?_
    refine r_lcmpE hx hb dL_law_514 ?_
    refine lv_if_eq (tgt := 520) hx hb dL_law_515 (by decide) (fun _ => ?_) (fun hc => absurd rfl hc)
    refine lv_goto (tgt := 2610) hx hb dL_law_520 (by decide) ?_
    exact K _ _ _ _ _ hS2 hW (lv_sub hl [2, 3, 4, 5, 6, 7] rfl)
set_option maxHeartbeats 1000000 in
theorem cs_addNote {p : Program} {l : Launch} {e : Env} {s : State} {m : MethodId} {below : List Frame} {meth : Method} {c : Code} {b L : Nat} {xs : Nat → Int32} {G : GG} {Q : State → Prop} (C : LC p l s m c b L xs G) {i : Nat} (hi : 7 * i + 7 ≤ L) {x y out od cells slots : Nat} {μ : Mem} {S : SS} {H : Heap} {locs : List Loc} {ls : Array Slot} (hS : Sm μ x y out od S) (hW : MW G (LA s) μ s.heap H locs) (hl : lv_has ls 9 [(5, .int (nI (7 * i))), (4, .ref od), (3, .ref out), (2, .ref y), (1, .ref x), (0, .ref b)]) (hR : cells + 20 ≤ 603072 ∧ slots + 200 ≤ 7194730) (K : Nx p l e s m below meth c b cells slots Q G x y out od i) :
    W p l e room_1 s m #[Value.ref b] below meth c H locs cells slots Q (F0 m 523 ls []) := by
  obtain ⟨hx, hb, hml, hown, hts, hE, hX, hbl, hsl, hL⟩ := C
  have hA9 : ∀ q, s.heap.size ≤ q → LA s q := fun _ h => h
  have hbA : ¬ LA s b := Nat.not_le.mpr hbl
  have hin1 : vp_in (nI (7 * i) + 1) L := by rw [show nI (7 * i) + 1 = nI (7 * i + 1) from nI_add (7 * i) 1]; exact vp_in_nI (by omega) (by omega)
  have hin2 : vp_in (nI (7 * i) + 2) L := by rw [show nI (7 * i) + 2 = nI (7 * i + 2) from nI_add (7 * i) 2]; exact vp_in_nI (by omega) (by omega)
  have hin3 : vp_in (nI (7 * i) + 3) L := by rw [show nI (7 * i) + 3 = nI (7 * i + 3) from nI_add (7 * i) 3]; exact vp_in_nI (by omega) (by omega)
  have hin4 : vp_in (nI (7 * i) + 4) L := by rw [show nI (7 * i) + 4 = nI (7 * i + 4) from nI_add (7 * i) 4]; exact vp_in_nI (by omega) (by omega)
  have hin5 : vp_in (nI (7 * i) + 5) L := by rw [show nI (7 * i) + 5 = nI (7 * i + 5) from nI_add (7 * i) 5]; exact vp_in_nI (by omega) (by omega)
  have hin6 : vp_in (nI (7 * i) + 6) L := by rw [show nI (7 * i) + 6 = nI (7 * i + 6) from nI_add (7 * i) 6]; exact vp_in_nI (by omega) (by omega)
  refine lv_aload_n hx hb dL_law_523 rfl (lv_at hl 4 rfl) ?_
  refine lv_aload_n hx hb dL_law_524 rfl (lv_at hl 5 rfl) ?_
  refine lv_iload hx hb dL_law_525 (lv_at hl 0 rfl) ?_
  refine lv_iconst (v := 1) hx hb dL_law_527 (by decide) ?_
  refine lv_iadd hx hb dL_law_528 ?_
  refine va_sld hx hb hX hbl hbA hW.2 hin1 dL_law_529 ?_
  refine lv_aload_n hx hb dL_law_530 rfl (lv_at hl 5 rfl) ?_
  refine lv_iload hx hb dL_law_531 (lv_at hl 0 rfl) ?_
  refine lv_iconst (v := 2) hx hb dL_law_533 (by decide) ?_
  refine lv_iadd hx hb dL_law_534 ?_
  refine va_sld hx hb hX hbl hbA hW.2 hin2 dL_law_535 ?_
  refine lv_aload_n hx hb dL_law_536 rfl (lv_at hl 5 rfl) ?_
  refine lv_iload hx hb dL_law_537 (lv_at hl 0 rfl) ?_
  refine lv_iconst (v := 3) hx hb dL_law_539 (by decide) ?_
  refine lv_iadd hx hb dL_law_540 ?_
  refine va_sld hx hb hX hbl hbA hW.2 hin3 dL_law_541 ?_
  refine lv_aload_n hx hb dL_law_542 rfl (lv_at hl 5 rfl) ?_
  refine lv_iload hx hb dL_law_543 (lv_at hl 0 rfl) ?_
  refine lv_iconst (v := 4) hx hb dL_law_545 (by decide) ?_
  refine lv_iadd hx hb dL_law_546 ?_
  refine va_sld hx hb hX hbl hbA hW.2 hin4 dL_law_547 ?_
  refine lv_aload_n hx hb dL_law_548 rfl (lv_at hl 5 rfl) ?_
  refine lv_iload hx hb dL_law_549 (lv_at hl 0 rfl) ?_
  refine lv_iconst (v := 5) hx hb dL_law_551 (by decide) ?_
  refine lv_iadd hx hb dL_law_552 ?_
  refine va_sld hx hb hX hbl hbA hW.2 hin5 dL_law_553 ?_
  refine lv_aload_n hx hb dL_law_554 rfl (lv_at hl 5 rfl) ?_
  refine lv_iload hx hb dL_law_555 (lv_at hl 0 rfl) ?_
  refine lv_bipush (v := 6) hx hb dL_law_557 (by decide) ?_
  refine lv_iadd hx hb dL_law_559 ?_
  refine va_sld hx hb hX hbl hbA hW.2 hin6 dL_law_560 ?_
  refine lv_aload_n hx hb dL_law_561 rfl (lv_at hl 2 rfl) ?_
  obtain ⟨P1, hO1, hP1⟩ := w_addNote l hsl G (LA s) hS (xs (nI (7 * i) + 1).toNatClampNeg) (xs (nI (7 * i) + 2).toNatClampNeg) (xs (nI (7 * i) + 3).toNatClampNeg) (xs (nI (7 * i) + 4).toNatClampNeg) (xs (nI (7 * i) + 5).toNatClampNeg) (xs (nI (7 * i) + 6).toNatClampNeg)
  refine r_callSZ hx hb hml hown hts hE hA9 hW hl.1 hO1 gL_law_L_addNote rfl (by decide +kernel) (n := 8) rfl ⟨by decide, by decide, (show cells + 6 ≤ 603072 by omega), (show slots + 41 ≤ 7194730 by omega)⟩ (Nat.le_of_ble_eq_true rfl) dL_law_562 rfl (fun e9 m9 hp => by obtain ⟨c1, b1, m2, S2, h1, -⟩ := hP1 _ _ hp; cases h1) (fun v1 m1 H locs hp hW => ?_)
  obtain ⟨c1, b1, m2, S2, h1, hy1, hf1, ht1, hq1, hS2⟩ := hP1 _ _ hp
  cases h1
  refine W.eq (g2 := F0 m 565 ls [.int c1]) rfl ?_
  refine lv_istore (lv' := [(6, .int c1), (5, .int (nI (7 * i))), (4, .ref od), (3, .ref out), (2, .ref y), (1, .ref x), (0, .ref b)]) hx hb dL_law_565 hl (by decide) rfl (fun ls hl => ?_)
  refine lv_aload_n hx hb dL_law_567 rfl (lv_at hl 4 rfl) ?_
  refine lv_aload_n hx hb dL_law_568 rfl (lv_at hl 6 rfl) ?_
  refine lv_iload hx hb dL_law_569 (lv_at hl 1 rfl) ?_
  refine lv_iconst (v := 1) hx hb dL_law_571 (by decide) ?_
  refine lv_iadd hx hb dL_law_572 ?_
  refine va_sld hx hb hX hbl hbA hW.2 hin1 dL_law_573 ?_
  refine lv_aload_n hx hb dL_law_574 rfl (lv_at hl 6 rfl) ?_
  refine lv_iload hx hb dL_law_575 (lv_at hl 1 rfl) ?_
  refine lv_iconst (v := 2) hx hb dL_law_577 (by decide) ?_
  refine lv_iadd hx hb dL_law_578 ?_
  refine va_sld hx hb hX hbl hbA hW.2 hin2 dL_law_579 ?_
  refine lv_aload_n hx hb dL_law_580 rfl (lv_at hl 6 rfl) ?_
  refine lv_iload hx hb dL_law_581 (lv_at hl 1 rfl) ?_
  refine lv_iconst (v := 3) hx hb dL_law_583 (by decide) ?_
  refine lv_iadd hx hb dL_law_584 ?_
  refine va_sld hx hb hX hbl hbA hW.2 hin3 dL_law_585 ?_
  refine lv_aload_n hx hb dL_law_586 rfl (lv_at hl 6 rfl) ?_
  refine lv_iload hx hb dL_law_587 (lv_at hl 1 rfl) ?_
  refine lv_iconst (v := 4) hx hb dL_law_589 (by decide) ?_
  refine lv_iadd hx hb dL_law_590 ?_
  refine va_sld hx hb hX hbl hbA hW.2 hin4 dL_law_591 ?_
  refine lv_aload_n hx hb dL_law_592 rfl (lv_at hl 6 rfl) ?_
  refine lv_iload hx hb dL_law_593 (lv_at hl 1 rfl) ?_
  refine lv_iconst (v := 5) hx hb dL_law_595 (by decide) ?_
  refine lv_iadd hx hb dL_law_596 ?_
  refine va_sld hx hb hX hbl hbA hW.2 hin5 dL_law_597 ?_
  refine lv_aload_n hx hb dL_law_598 rfl (lv_at hl 6 rfl) ?_
  refine lv_iload hx hb dL_law_599 (lv_at hl 1 rfl) ?_
  refine lv_bipush (v := 6) hx hb dL_law_601 (by decide) ?_
  refine lv_iadd hx hb dL_law_603 ?_
  refine va_sld hx hb hX hbl hbA hW.2 hin6 dL_law_604 ?_
  refine r_callVZ (ci := 7) hx hb hml hown hts hE hA9 hW hl.1 (k_X5_addNote l hsl G (LA s) m1 y (xs (nI (7 * i) + 1).toNatClampNeg) (xs (nI (7 * i) + 2).toNatClampNeg) (xs (nI (7 * i) + 3).toNatClampNeg) (xs (nI (7 * i) + 4).toNatClampNeg) (xs (nI (7 * i) + 5).toNatClampNeg) (xs (nI (7 * i) + 6).toNatClampNeg) _ hf1) gL_law_X5_addNote rfl hy1 (by decide) rfl (by decide +kernel) (n := 6) rfl ⟨by decide, by decide, (show cells + 6 + 0 ≤ 603072 by omega), (show slots + 41 + 0 ≤ 7194730 by omega)⟩ (Nat.le_of_ble_eq_true rfl) dL_law_605 rfl (fun e9 m9 hp => by cases hp.1) (fun v2 m9 H locs hp hW9a => ?_)
  obtain ⟨h1, h2⟩ := hp
  cases h1
  replace h2 : m9 = m2 := h2
  subst h2
  have hW := hW9a
  refine W.eq (g2 := F0 m 608 ls [.int b1]) rfl ?_
  refine lv_istore (lv' := [(7, .int b1), (6, .int c1), (5, .int (nI (7 * i))), (4, .ref od), (3, .ref out), (2, .ref y), (1, .ref x), (0, .ref b)]) hx hb dL_law_608 hl (by decide) rfl (fun ls hl => ?_)
  refine lv_aload_n hx hb dL_law_610 rfl (lv_at hl 5 rfl) ?_
  have hMy : ok9 m9 7 y := by obtain ⟨-, -, ⟨am, hM⟩, -⟩ := hS2; exact hM.1
  have hth : f_X5_thrown m9 y = some c1 := by
    unfold f_X5_thrown
    rw [getI_ok hMy, obs, ht1]
  refine r_callVZ (ci := 7) hx hb hml hown hts hE hA9 hW hl.1 (k_X5_thrown l hsl G (LA s) m9 y _ hth) gL_law_X5_thrown rfl hMy (by decide) rfl (by decide +kernel) (n := 0) rfl ⟨by decide, by decide, (show cells + 6 + 0 + 0 ≤ 603072 by omega), (show slots + 41 + 0 + 0 ≤ 7194730 by omega)⟩ (Nat.le_of_ble_eq_true rfl) dL_law_611 rfl (fun e9 m9 hp => by cases hp.1) (fun v3 m8 H locs hp hW9b => ?_)
  obtain ⟨h1, h2⟩ := hp
  cases h1
  subst h2
  have hW := hW9b
  refine W.widen (k := cells + 20) (n := slots + 200) (show cells + 6 + 0 + 0 ≤ cells + 20 by omega) (show slots + 41 + 0 + 0 ≤ slots + 200 by omega) ?_
  refine W.eq (g2 := F0 m 614 ls [.int c1]) rfl ?_
  refine lv_iload hx hb dL_law_614 (lv_at hl 1 rfl) ?_
  refine lv_icmp_eq (tgt := 621) hx hb dL_law_616 (by decide) (fun _ => ?_) (fun hc => absurd rfl hc)
  refine lv_iload hx hb dL_law_621 (lv_at hl 1 rfl) ?_
  refine lv_if_ne (tgt := 638) hx hb dL_law_623 (by decide) (fun _ => ?_) (fun hc0 => ?_)
  · refine lv_goto (tgt := 2610) hx hb dL_law_638 (by decide) ?_
    exact K _ _ _ _ _ hS2 hW (lv_sub hl [2, 3, 4, 5, 6, 7] rfl)
  · have hq := hq1 hc0
    have hOO := hS2.2.2.2
    refine lv_aload_n hx hb dL_law_626 rfl (lv_at hl 4 rfl) ?_
    refine lv_iconst (v := 0) hx hb dL_law_627 (by decide) ?_
    refine r_lldK hx hb hE.1 hW (lld_ok hOO.1.1 hOO.1.2) dL_law_628 ?_
    rw [hq]
    refine lv_iload hx hb dL_law_629 (lv_at hl 0 rfl) ?_
    refine lv_i2l hx hb dL_law_631 rfl ?_
    refine r_lcmpE hx hb dL_law_632 ?_
    refine lv_if_eq (tgt := 638) hx hb dL_law_633 (by decide) (fun _ => ?_) (fun hc => absurd rfl hc)
    refine lv_goto (tgt := 2610) hx hb dL_law_638 (by decide) ?_
    exact K _ _ _ _ _ hS2 hW (lv_sub hl [2, 3, 4, 5, 6, 7] rfl)
set_option maxHeartbeats 1000000 in
theorem cs_correct {p : Program} {l : Launch} {e : Env} {s : State} {m : MethodId} {below : List Frame} {meth : Method} {c : Code} {b L : Nat} {xs : Nat → Int32} {G : GG} {Q : State → Prop} (C : LC p l s m c b L xs G) {i : Nat} (hi : 7 * i + 7 ≤ L) {x y out od cells slots : Nat} {μ : Mem} {S : SS} {H : Heap} {locs : List Loc} {ls : Array Slot} (hS : Sm μ x y out od S) (hW : MW G (LA s) μ s.heap H locs) (hl : lv_has ls 9 [(5, .int (nI (7 * i))), (4, .ref od), (3, .ref out), (2, .ref y), (1, .ref x), (0, .ref b)]) (hR : cells + 20 ≤ 603072 ∧ slots + 200 ≤ 7194730) (K : Nx p l e s m below meth c b cells slots Q G x y out od i) :
    W p l e room_1 s m #[Value.ref b] below meth c H locs cells slots Q (F0 m 641 ls []) := by
  obtain ⟨hx, hb, hml, hown, hts, hE, hX, hbl, hsl, hL⟩ := C
  have hA9 : ∀ q, s.heap.size ≤ q → LA s q := fun _ h => h
  have hbA : ¬ LA s b := Nat.not_le.mpr hbl
  have hin1 : vp_in (nI (7 * i) + 1) L := by rw [show nI (7 * i) + 1 = nI (7 * i + 1) from nI_add (7 * i) 1]; exact vp_in_nI (by omega) (by omega)
  have hin2 : vp_in (nI (7 * i) + 2) L := by rw [show nI (7 * i) + 2 = nI (7 * i + 2) from nI_add (7 * i) 2]; exact vp_in_nI (by omega) (by omega)
  refine lv_aload_n hx hb dL_law_641 rfl (lv_at hl 4 rfl) ?_
  refine lv_aload_n hx hb dL_law_642 rfl (lv_at hl 5 rfl) ?_
  refine lv_iload hx hb dL_law_643 (lv_at hl 0 rfl) ?_
  refine lv_iconst (v := 1) hx hb dL_law_645 (by decide) ?_
  refine lv_iadd hx hb dL_law_646 ?_
  refine va_sld hx hb hX hbl hbA hW.2 hin1 dL_law_647 ?_
  refine lv_aload_n hx hb dL_law_648 rfl (lv_at hl 5 rfl) ?_
  refine lv_iload hx hb dL_law_649 (lv_at hl 0 rfl) ?_
  refine lv_iconst (v := 2) hx hb dL_law_651 (by decide) ?_
  refine lv_iadd hx hb dL_law_652 ?_
  refine va_sld hx hb hX hbl hbA hW.2 hin2 dL_law_653 ?_
  refine lv_aload_n hx hb dL_law_654 rfl (lv_at hl 2 rfl) ?_
  obtain ⟨P1, hO1, hP1⟩ := w_correct l hsl G (LA s) hS (xs (nI (7 * i) + 1).toNatClampNeg) (xs (nI (7 * i) + 2).toNatClampNeg)
  refine r_callSZ hx hb hml hown hts hE hA9 hW hl.1 hO1 gL_law_L_correct rfl (by decide +kernel) (n := 4) rfl ⟨by decide, by decide, (show cells + 2 ≤ 603072 by omega), (show slots + 12 ≤ 7194730 by omega)⟩ (Nat.le_of_ble_eq_true rfl) dL_law_655 rfl (fun e9 m9 hp => by obtain ⟨c1, b1, m2, S2, h1, -⟩ := hP1 _ _ hp; cases h1) (fun v1 m1 H locs hp hW => ?_)
  obtain ⟨c1, b1, m2, S2, h1, hy1, hf1, ht1, hq1, hS2⟩ := hP1 _ _ hp
  cases h1
  refine W.eq (g2 := F0 m 658 ls [.int c1]) rfl ?_
  refine lv_istore (lv' := [(6, .int c1), (5, .int (nI (7 * i))), (4, .ref od), (3, .ref out), (2, .ref y), (1, .ref x), (0, .ref b)]) hx hb dL_law_658 hl (by decide) rfl (fun ls hl => ?_)
  refine lv_aload_n hx hb dL_law_660 rfl (lv_at hl 4 rfl) ?_
  refine lv_aload_n hx hb dL_law_661 rfl (lv_at hl 6 rfl) ?_
  refine lv_iload hx hb dL_law_662 (lv_at hl 1 rfl) ?_
  refine lv_iconst (v := 1) hx hb dL_law_664 (by decide) ?_
  refine lv_iadd hx hb dL_law_665 ?_
  refine va_sld hx hb hX hbl hbA hW.2 hin1 dL_law_666 ?_
  refine lv_aload_n hx hb dL_law_667 rfl (lv_at hl 6 rfl) ?_
  refine lv_iload hx hb dL_law_668 (lv_at hl 1 rfl) ?_
  refine lv_iconst (v := 2) hx hb dL_law_670 (by decide) ?_
  refine lv_iadd hx hb dL_law_671 ?_
  refine va_sld hx hb hX hbl hbA hW.2 hin2 dL_law_672 ?_
  refine r_callVZ (ci := 7) hx hb hml hown hts hE hA9 hW hl.1 (k_X5_correct l hsl G (LA s) m1 y (xs (nI (7 * i) + 1).toNatClampNeg) (xs (nI (7 * i) + 2).toNatClampNeg) _ hf1) gL_law_X5_correct rfl hy1 (by decide) rfl (by decide +kernel) (n := 2) rfl ⟨by decide, by decide, (show cells + 2 + 0 ≤ 603072 by omega), (show slots + 12 + 0 ≤ 7194730 by omega)⟩ (Nat.le_of_ble_eq_true rfl) dL_law_673 rfl (fun e9 m9 hp => by cases hp.1) (fun v2 m9 H locs hp hW9a => ?_)
  obtain ⟨h1, h2⟩ := hp
  cases h1
  replace h2 : m9 = m2 := h2
  subst h2
  have hW := hW9a
  refine W.eq (g2 := F0 m 676 ls [.int b1]) rfl ?_
  refine lv_istore (lv' := [(7, .int b1), (6, .int c1), (5, .int (nI (7 * i))), (4, .ref od), (3, .ref out), (2, .ref y), (1, .ref x), (0, .ref b)]) hx hb dL_law_676 hl (by decide) rfl (fun ls hl => ?_)
  refine lv_aload_n hx hb dL_law_678 rfl (lv_at hl 5 rfl) ?_
  have hMy : ok9 m9 7 y := by obtain ⟨-, -, ⟨am, hM⟩, -⟩ := hS2; exact hM.1
  have hth : f_X5_thrown m9 y = some c1 := by
    unfold f_X5_thrown
    rw [getI_ok hMy, obs, ht1]
  refine r_callVZ (ci := 7) hx hb hml hown hts hE hA9 hW hl.1 (k_X5_thrown l hsl G (LA s) m9 y _ hth) gL_law_X5_thrown rfl hMy (by decide) rfl (by decide +kernel) (n := 0) rfl ⟨by decide, by decide, (show cells + 2 + 0 + 0 ≤ 603072 by omega), (show slots + 12 + 0 + 0 ≤ 7194730 by omega)⟩ (Nat.le_of_ble_eq_true rfl) dL_law_679 rfl (fun e9 m9 hp => by cases hp.1) (fun v3 m8 H locs hp hW9b => ?_)
  obtain ⟨h1, h2⟩ := hp
  cases h1
  subst h2
  have hW := hW9b
  refine W.widen (k := cells + 20) (n := slots + 200) (show cells + 2 + 0 + 0 ≤ cells + 20 by omega) (show slots + 12 + 0 + 0 ≤ slots + 200 by omega) ?_
  refine W.eq (g2 := F0 m 682 ls [.int c1]) rfl ?_
  refine lv_iload hx hb dL_law_682 (lv_at hl 1 rfl) ?_
  refine lv_icmp_eq (tgt := 689) hx hb dL_law_684 (by decide) (fun _ => ?_) (fun hc => absurd rfl hc)
  refine lv_iload hx hb dL_law_689 (lv_at hl 1 rfl) ?_
  refine lv_if_ne (tgt := 706) hx hb dL_law_691 (by decide) (fun _ => ?_) (fun hc0 => ?_)
  · refine lv_goto (tgt := 2610) hx hb dL_law_706 (by decide) ?_
    exact K _ _ _ _ _ hS2 hW (lv_sub hl [2, 3, 4, 5, 6, 7] rfl)
  · have hq := hq1 hc0
    have hOO := hS2.2.2.2
    refine lv_aload_n hx hb dL_law_694 rfl (lv_at hl 4 rfl) ?_
    refine lv_iconst (v := 0) hx hb dL_law_695 (by decide) ?_
    refine r_lldK hx hb hE.1 hW (lld_ok hOO.1.1 hOO.1.2) dL_law_696 ?_
    rw [hq]
    refine lv_iload hx hb dL_law_697 (lv_at hl 0 rfl) ?_
    refine lv_i2l hx hb dL_law_699 rfl ?_
    refine r_lcmpE hx hb dL_law_700 ?_
    refine lv_if_eq (tgt := 706) hx hb dL_law_701 (by decide) (fun _ => ?_) (fun hc => absurd rfl hc)
    refine lv_goto (tgt := 2610) hx hb dL_law_706 (by decide) ?_
    exact K _ _ _ _ _ hS2 hW (lv_sub hl [2, 3, 4, 5, 6, 7] rfl)
set_option maxHeartbeats 1000000 in
theorem cs_stretch {p : Program} {l : Launch} {e : Env} {s : State} {m : MethodId} {below : List Frame} {meth : Method} {c : Code} {b L : Nat} {xs : Nat → Int32} {G : GG} {Q : State → Prop} (C : LC p l s m c b L xs G) {i : Nat} (hi : 7 * i + 7 ≤ L) {x y out od cells slots : Nat} {μ : Mem} {S : SS} {H : Heap} {locs : List Loc} {ls : Array Slot} (hS : Sm μ x y out od S) (hW : MW G (LA s) μ s.heap H locs) (hl : lv_has ls 9 [(5, .int (nI (7 * i))), (4, .ref od), (3, .ref out), (2, .ref y), (1, .ref x), (0, .ref b)]) (hR : cells + 20 ≤ 603072 ∧ slots + 200 ≤ 7194730) (K : Nx p l e s m below meth c b cells slots Q G x y out od i) :
    W p l e room_1 s m #[Value.ref b] below meth c H locs cells slots Q (F0 m 709 ls []) := by
  obtain ⟨hx, hb, hml, hown, hts, hE, hX, hbl, hsl, hL⟩ := C
  have hA9 : ∀ q, s.heap.size ≤ q → LA s q := fun _ h => h
  have hbA : ¬ LA s b := Nat.not_le.mpr hbl
  have hin1 : vp_in (nI (7 * i) + 1) L := by rw [show nI (7 * i) + 1 = nI (7 * i + 1) from nI_add (7 * i) 1]; exact vp_in_nI (by omega) (by omega)
  have hin2 : vp_in (nI (7 * i) + 2) L := by rw [show nI (7 * i) + 2 = nI (7 * i + 2) from nI_add (7 * i) 2]; exact vp_in_nI (by omega) (by omega)
  refine lv_aload_n hx hb dL_law_709 rfl (lv_at hl 4 rfl) ?_
  refine lv_aload_n hx hb dL_law_710 rfl (lv_at hl 5 rfl) ?_
  refine lv_iload hx hb dL_law_711 (lv_at hl 0 rfl) ?_
  refine lv_iconst (v := 1) hx hb dL_law_713 (by decide) ?_
  refine lv_iadd hx hb dL_law_714 ?_
  refine va_sld hx hb hX hbl hbA hW.2 hin1 dL_law_715 ?_
  refine lv_aload_n hx hb dL_law_716 rfl (lv_at hl 5 rfl) ?_
  refine lv_iload hx hb dL_law_717 (lv_at hl 0 rfl) ?_
  refine lv_iconst (v := 2) hx hb dL_law_719 (by decide) ?_
  refine lv_iadd hx hb dL_law_720 ?_
  refine va_sld hx hb hX hbl hbA hW.2 hin2 dL_law_721 ?_
  refine lv_aload_n hx hb dL_law_722 rfl (lv_at hl 2 rfl) ?_
  obtain ⟨P1, hO1, hP1⟩ := w_stretch l hsl G (LA s) hS (xs (nI (7 * i) + 1).toNatClampNeg) (xs (nI (7 * i) + 2).toNatClampNeg)
  refine r_callSZ hx hb hml hown hts hE hA9 hW hl.1 hO1 gL_law_L_stretch rfl (by decide +kernel) (n := 4) rfl ⟨by decide, by decide, (show cells + 3 ≤ 603072 by omega), (show slots + 18 ≤ 7194730 by omega)⟩ (Nat.le_of_ble_eq_true rfl) dL_law_723 rfl (fun e9 m9 hp => by obtain ⟨c1, b1, m2, S2, h1, -⟩ := hP1 _ _ hp; cases h1) (fun v1 m1 H locs hp hW => ?_)
  obtain ⟨c1, b1, m2, S2, h1, hy1, hf1, ht1, hq1, hS2⟩ := hP1 _ _ hp
  cases h1
  refine W.eq (g2 := F0 m 726 ls [.int c1]) rfl ?_
  refine lv_istore (lv' := [(6, .int c1), (5, .int (nI (7 * i))), (4, .ref od), (3, .ref out), (2, .ref y), (1, .ref x), (0, .ref b)]) hx hb dL_law_726 hl (by decide) rfl (fun ls hl => ?_)
  refine lv_aload_n hx hb dL_law_728 rfl (lv_at hl 4 rfl) ?_
  refine lv_aload_n hx hb dL_law_729 rfl (lv_at hl 6 rfl) ?_
  refine lv_iload hx hb dL_law_730 (lv_at hl 1 rfl) ?_
  refine lv_iconst (v := 1) hx hb dL_law_732 (by decide) ?_
  refine lv_iadd hx hb dL_law_733 ?_
  refine va_sld hx hb hX hbl hbA hW.2 hin1 dL_law_734 ?_
  refine lv_aload_n hx hb dL_law_735 rfl (lv_at hl 6 rfl) ?_
  refine lv_iload hx hb dL_law_736 (lv_at hl 1 rfl) ?_
  refine lv_iconst (v := 2) hx hb dL_law_738 (by decide) ?_
  refine lv_iadd hx hb dL_law_739 ?_
  refine va_sld hx hb hX hbl hbA hW.2 hin2 dL_law_740 ?_
  refine r_callVZ (ci := 7) hx hb hml hown hts hE hA9 hW hl.1 (k_X5_stretch l hsl G (LA s) m1 y (xs (nI (7 * i) + 1).toNatClampNeg) (xs (nI (7 * i) + 2).toNatClampNeg) _ hf1) gL_law_X5_stretch rfl hy1 (by decide) rfl (by decide +kernel) (n := 2) rfl ⟨by decide, by decide, (show cells + 3 + 0 ≤ 603072 by omega), (show slots + 18 + 0 ≤ 7194730 by omega)⟩ (Nat.le_of_ble_eq_true rfl) dL_law_741 rfl (fun e9 m9 hp => by cases hp.1) (fun v2 m9 H locs hp hW9a => ?_)
  obtain ⟨h1, h2⟩ := hp
  cases h1
  replace h2 : m9 = m2 := h2
  subst h2
  have hW := hW9a
  refine W.eq (g2 := F0 m 744 ls [.int b1]) rfl ?_
  refine lv_istore (lv' := [(7, .int b1), (6, .int c1), (5, .int (nI (7 * i))), (4, .ref od), (3, .ref out), (2, .ref y), (1, .ref x), (0, .ref b)]) hx hb dL_law_744 hl (by decide) rfl (fun ls hl => ?_)
  refine lv_aload_n hx hb dL_law_746 rfl (lv_at hl 5 rfl) ?_
  have hMy : ok9 m9 7 y := by obtain ⟨-, -, ⟨am, hM⟩, -⟩ := hS2; exact hM.1
  have hth : f_X5_thrown m9 y = some c1 := by
    unfold f_X5_thrown
    rw [getI_ok hMy, obs, ht1]
  refine r_callVZ (ci := 7) hx hb hml hown hts hE hA9 hW hl.1 (k_X5_thrown l hsl G (LA s) m9 y _ hth) gL_law_X5_thrown rfl hMy (by decide) rfl (by decide +kernel) (n := 0) rfl ⟨by decide, by decide, (show cells + 3 + 0 + 0 ≤ 603072 by omega), (show slots + 18 + 0 + 0 ≤ 7194730 by omega)⟩ (Nat.le_of_ble_eq_true rfl) dL_law_747 rfl (fun e9 m9 hp => by cases hp.1) (fun v3 m8 H locs hp hW9b => ?_)
  obtain ⟨h1, h2⟩ := hp
  cases h1
  subst h2
  have hW := hW9b
  refine W.widen (k := cells + 20) (n := slots + 200) (show cells + 3 + 0 + 0 ≤ cells + 20 by omega) (show slots + 18 + 0 + 0 ≤ slots + 200 by omega) ?_
  refine W.eq (g2 := F0 m 750 ls [.int c1]) rfl ?_
  refine lv_iload hx hb dL_law_750 (lv_at hl 1 rfl) ?_
  refine lv_icmp_eq (tgt := 757) hx hb dL_law_752 (by decide) (fun _ => ?_) (fun hc => absurd rfl hc)
  refine lv_iload hx hb dL_law_757 (lv_at hl 1 rfl) ?_
  refine lv_if_ne (tgt := 774) hx hb dL_law_759 (by decide) (fun _ => ?_) (fun hc0 => ?_)
  · refine lv_goto (tgt := 2610) hx hb dL_law_774 (by decide) ?_
    exact K _ _ _ _ _ hS2 hW (lv_sub hl [2, 3, 4, 5, 6, 7] rfl)
  · have hq := hq1 hc0
    have hOO := hS2.2.2.2
    refine lv_aload_n hx hb dL_law_762 rfl (lv_at hl 4 rfl) ?_
    refine lv_iconst (v := 0) hx hb dL_law_763 (by decide) ?_
    refine r_lldK hx hb hE.1 hW (lld_ok hOO.1.1 hOO.1.2) dL_law_764 ?_
    rw [hq]
    refine lv_iload hx hb dL_law_765 (lv_at hl 0 rfl) ?_
    refine lv_i2l hx hb dL_law_767 rfl ?_
    refine r_lcmpE hx hb dL_law_768 ?_
    refine lv_if_eq (tgt := 774) hx hb dL_law_769 (by decide) (fun _ => ?_) (fun hc => absurd rfl hc)
    refine lv_goto (tgt := 2610) hx hb dL_law_774 (by decide) ?_
    exact K _ _ _ _ _ hS2 hW (lv_sub hl [2, 3, 4, 5, 6, 7] rfl)
set_option maxHeartbeats 1000000 in
theorem cs_takeOut {p : Program} {l : Launch} {e : Env} {s : State} {m : MethodId} {below : List Frame} {meth : Method} {c : Code} {b L : Nat} {xs : Nat → Int32} {G : GG} {Q : State → Prop} (C : LC p l s m c b L xs G) {i : Nat} (hi : 7 * i + 7 ≤ L) {x y out od cells slots : Nat} {μ : Mem} {S : SS} {H : Heap} {locs : List Loc} {ls : Array Slot} (hS : Sm μ x y out od S) (hW : MW G (LA s) μ s.heap H locs) (hl : lv_has ls 9 [(5, .int (nI (7 * i))), (4, .ref od), (3, .ref out), (2, .ref y), (1, .ref x), (0, .ref b)]) (hR : cells + 20 ≤ 603072 ∧ slots + 200 ≤ 7194730) (K : Nx p l e s m below meth c b cells slots Q G x y out od i) :
    W p l e room_1 s m #[Value.ref b] below meth c H locs cells slots Q (F0 m 777 ls []) := by
  obtain ⟨hx, hb, hml, hown, hts, hE, hX, hbl, hsl, hL⟩ := C
  have hA9 : ∀ q, s.heap.size ≤ q → LA s q := fun _ h => h
  have hbA : ¬ LA s b := Nat.not_le.mpr hbl
  have hin1 : vp_in (nI (7 * i) + 1) L := by rw [show nI (7 * i) + 1 = nI (7 * i + 1) from nI_add (7 * i) 1]; exact vp_in_nI (by omega) (by omega)
  refine lv_aload_n hx hb dL_law_777 rfl (lv_at hl 4 rfl) ?_
  refine lv_aload_n hx hb dL_law_778 rfl (lv_at hl 5 rfl) ?_
  refine lv_iload hx hb dL_law_779 (lv_at hl 0 rfl) ?_
  refine lv_iconst (v := 1) hx hb dL_law_781 (by decide) ?_
  refine lv_iadd hx hb dL_law_782 ?_
  refine va_sld hx hb hX hbl hbA hW.2 hin1 dL_law_783 ?_
  refine lv_aload_n hx hb dL_law_784 rfl (lv_at hl 2 rfl) ?_
  obtain ⟨P1, hO1, hP1⟩ := w_takeOut l hsl G (LA s) hS (xs (nI (7 * i) + 1).toNatClampNeg)
  refine r_callSZ hx hb hml hown hts hE hA9 hW hl.1 hO1 gL_law_L_takeOut rfl (by decide +kernel) (n := 3) rfl ⟨by decide, by decide, (show cells + 1 ≤ 603072 by omega), (show slots + 6 ≤ 7194730 by omega)⟩ (Nat.le_of_ble_eq_true rfl) dL_law_785 rfl (fun e9 m9 hp => by obtain ⟨c1, b1, m2, S2, h1, -⟩ := hP1 _ _ hp; cases h1) (fun v1 m1 H locs hp hW => ?_)
  obtain ⟨c1, b1, m2, S2, h1, hy1, hf1, ht1, hq1, hS2⟩ := hP1 _ _ hp
  cases h1
  refine W.eq (g2 := F0 m 788 ls [.int c1]) rfl ?_
  refine lv_istore (lv' := [(6, .int c1), (5, .int (nI (7 * i))), (4, .ref od), (3, .ref out), (2, .ref y), (1, .ref x), (0, .ref b)]) hx hb dL_law_788 hl (by decide) rfl (fun ls hl => ?_)
  refine lv_aload_n hx hb dL_law_790 rfl (lv_at hl 4 rfl) ?_
  refine lv_aload_n hx hb dL_law_791 rfl (lv_at hl 6 rfl) ?_
  refine lv_iload hx hb dL_law_792 (lv_at hl 1 rfl) ?_
  refine lv_iconst (v := 1) hx hb dL_law_794 (by decide) ?_
  refine lv_iadd hx hb dL_law_795 ?_
  refine va_sld hx hb hX hbl hbA hW.2 hin1 dL_law_796 ?_
  refine r_callVZ (ci := 7) hx hb hml hown hts hE hA9 hW hl.1 (k_X5_takeOut l hsl G (LA s) m1 y (xs (nI (7 * i) + 1).toNatClampNeg) _ hf1) gL_law_X5_takeOut rfl hy1 (by decide) rfl (by decide +kernel) (n := 1) rfl ⟨by decide, by decide, (show cells + 1 + 0 ≤ 603072 by omega), (show slots + 6 + 0 ≤ 7194730 by omega)⟩ (Nat.le_of_ble_eq_true rfl) dL_law_797 rfl (fun e9 m9 hp => by cases hp.1) (fun v2 m9 H locs hp hW9a => ?_)
  obtain ⟨h1, h2⟩ := hp
  cases h1
  replace h2 : m9 = m2 := h2
  subst h2
  have hW := hW9a
  refine W.eq (g2 := F0 m 800 ls [.int b1]) rfl ?_
  refine lv_istore (lv' := [(7, .int b1), (6, .int c1), (5, .int (nI (7 * i))), (4, .ref od), (3, .ref out), (2, .ref y), (1, .ref x), (0, .ref b)]) hx hb dL_law_800 hl (by decide) rfl (fun ls hl => ?_)
  refine lv_aload_n hx hb dL_law_802 rfl (lv_at hl 5 rfl) ?_
  have hMy : ok9 m9 7 y := by obtain ⟨-, -, ⟨am, hM⟩, -⟩ := hS2; exact hM.1
  have hth : f_X5_thrown m9 y = some c1 := by
    unfold f_X5_thrown
    rw [getI_ok hMy, obs, ht1]
  refine r_callVZ (ci := 7) hx hb hml hown hts hE hA9 hW hl.1 (k_X5_thrown l hsl G (LA s) m9 y _ hth) gL_law_X5_thrown rfl hMy (by decide) rfl (by decide +kernel) (n := 0) rfl ⟨by decide, by decide, (show cells + 1 + 0 + 0 ≤ 603072 by omega), (show slots + 6 + 0 + 0 ≤ 7194730 by omega)⟩ (Nat.le_of_ble_eq_true rfl) dL_law_803 rfl (fun e9 m9 hp => by cases hp.1) (fun v3 m8 H locs hp hW9b => ?_)
  obtain ⟨h1, h2⟩ := hp
  cases h1
  subst h2
  have hW := hW9b
  refine W.widen (k := cells + 20) (n := slots + 200) (show cells + 1 + 0 + 0 ≤ cells + 20 by omega) (show slots + 6 + 0 + 0 ≤ slots + 200 by omega) ?_
  refine W.eq (g2 := F0 m 806 ls [.int c1]) rfl ?_
  refine lv_iload hx hb dL_law_806 (lv_at hl 1 rfl) ?_
  refine lv_icmp_eq (tgt := 813) hx hb dL_law_808 (by decide) (fun _ => ?_) (fun hc => absurd rfl hc)
  refine lv_iload hx hb dL_law_813 (lv_at hl 1 rfl) ?_
  refine lv_if_ne (tgt := 830) hx hb dL_law_815 (by decide) (fun _ => ?_) (fun hc0 => ?_)
  · refine lv_goto (tgt := 2610) hx hb dL_law_830 (by decide) ?_
    exact K _ _ _ _ _ hS2 hW (lv_sub hl [2, 3, 4, 5, 6, 7] rfl)
  · have hq := hq1 hc0
    have hOO := hS2.2.2.2
    refine lv_aload_n hx hb dL_law_818 rfl (lv_at hl 4 rfl) ?_
    refine lv_iconst (v := 0) hx hb dL_law_819 (by decide) ?_
    refine r_lldK hx hb hE.1 hW (lld_ok hOO.1.1 hOO.1.2) dL_law_820 ?_
    rw [hq]
    refine lv_iload hx hb dL_law_821 (lv_at hl 0 rfl) ?_
    refine lv_i2l hx hb dL_law_823 rfl ?_
    refine r_lcmpE hx hb dL_law_824 ?_
    refine lv_if_eq (tgt := 830) hx hb dL_law_825 (by decide) (fun _ => ?_) (fun hc => absurd rfl hc)
    refine lv_goto (tgt := 2610) hx hb dL_law_830 (by decide) ?_
    exact K _ _ _ _ _ hS2 hW (lv_sub hl [2, 3, 4, 5, 6, 7] rfl)
set_option maxHeartbeats 1000000 in
theorem cs_notesIn {p : Program} {l : Launch} {e : Env} {s : State} {m : MethodId} {below : List Frame} {meth : Method} {c : Code} {b L : Nat} {xs : Nat → Int32} {G : GG} {Q : State → Prop} (C : LC p l s m c b L xs G) {i : Nat} (hi : 7 * i + 7 ≤ L) {x y out od cells slots : Nat} {μ : Mem} {S : SS} {H : Heap} {locs : List Loc} {ls : Array Slot} (hS : Sm μ x y out od S) (hW : MW G (LA s) μ s.heap H locs) (hl : lv_has ls 9 [(5, .int (nI (7 * i))), (4, .ref od), (3, .ref out), (2, .ref y), (1, .ref x), (0, .ref b)]) (hR : cells + 20 ≤ 603072 ∧ slots + 200 ≤ 7194730) (K : Nx p l e s m below meth c b cells slots Q G x y out od i) :
    W p l e room_1 s m #[Value.ref b] below meth c H locs cells slots Q (F0 m 833 ls []) := by
  obtain ⟨hx, hb, hml, hown, hts, hE, hX, hbl, hsl, hL⟩ := C
  have hA9 : ∀ q, s.heap.size ≤ q → LA s q := fun _ h => h
  have hbA : ¬ LA s b := Nat.not_le.mpr hbl
  have hin1 : vp_in (nI (7 * i) + 1) L := by rw [show nI (7 * i) + 1 = nI (7 * i + 1) from nI_add (7 * i) 1]; exact vp_in_nI (by omega) (by omega)
  have hin2 : vp_in (nI (7 * i) + 2) L := by rw [show nI (7 * i) + 2 = nI (7 * i + 2) from nI_add (7 * i) 2]; exact vp_in_nI (by omega) (by omega)
  refine lv_aload_n hx hb dL_law_833 rfl (lv_at hl 4 rfl) ?_
  refine lv_aload_n hx hb dL_law_834 rfl (lv_at hl 5 rfl) ?_
  refine lv_iload hx hb dL_law_835 (lv_at hl 0 rfl) ?_
  refine lv_iconst (v := 1) hx hb dL_law_837 (by decide) ?_
  refine lv_iadd hx hb dL_law_838 ?_
  refine va_sld hx hb hX hbl hbA hW.2 hin1 dL_law_839 ?_
  refine lv_aload_n hx hb dL_law_840 rfl (lv_at hl 5 rfl) ?_
  refine lv_iload hx hb dL_law_841 (lv_at hl 0 rfl) ?_
  refine lv_iconst (v := 2) hx hb dL_law_843 (by decide) ?_
  refine lv_iadd hx hb dL_law_844 ?_
  refine va_sld hx hb hX hbl hbA hW.2 hin2 dL_law_845 ?_
  refine lv_aload_n hx hb dL_law_846 rfl (lv_at hl 2 rfl) ?_
  obtain ⟨P1, hO1, hP1⟩ := w_notesIn l hsl G (LA s) hS (xs (nI (7 * i) + 1).toNatClampNeg) (xs (nI (7 * i) + 2).toNatClampNeg)
  refine r_callSZ hx hb hml hown hts hE hA9 hW hl.1 hO1 gL_law_L_notesIn rfl (by decide +kernel) (n := 4) rfl ⟨by decide, by decide, (show cells + 2 ≤ 603072 by omega), (show slots + 12 ≤ 7194730 by omega)⟩ (Nat.le_of_ble_eq_true rfl) dL_law_847 rfl (fun e9 m9 hp => by obtain ⟨c1, b1, m2, S2, h1, -⟩ := hP1 _ _ hp; cases h1) (fun v1 m1 H locs hp hW => ?_)
  obtain ⟨c1, b1, m2, S2, h1, hy1, hf1, ht1, hq1, hS2⟩ := hP1 _ _ hp
  cases h1
  refine W.eq (g2 := F0 m 850 ls [.int c1]) rfl ?_
  refine lv_istore (lv' := [(6, .int c1), (5, .int (nI (7 * i))), (4, .ref od), (3, .ref out), (2, .ref y), (1, .ref x), (0, .ref b)]) hx hb dL_law_850 hl (by decide) rfl (fun ls hl => ?_)
  refine lv_aload_n hx hb dL_law_852 rfl (lv_at hl 4 rfl) ?_
  refine lv_aload_n hx hb dL_law_853 rfl (lv_at hl 6 rfl) ?_
  refine lv_iload hx hb dL_law_854 (lv_at hl 1 rfl) ?_
  refine lv_iconst (v := 1) hx hb dL_law_856 (by decide) ?_
  refine lv_iadd hx hb dL_law_857 ?_
  refine va_sld hx hb hX hbl hbA hW.2 hin1 dL_law_858 ?_
  refine lv_aload_n hx hb dL_law_859 rfl (lv_at hl 6 rfl) ?_
  refine lv_iload hx hb dL_law_860 (lv_at hl 1 rfl) ?_
  refine lv_iconst (v := 2) hx hb dL_law_862 (by decide) ?_
  refine lv_iadd hx hb dL_law_863 ?_
  refine va_sld hx hb hX hbl hbA hW.2 hin2 dL_law_864 ?_
  refine r_callVZ (ci := 7) hx hb hml hown hts hE hA9 hW hl.1 (k_X5_notesIn l hsl G (LA s) m1 y (xs (nI (7 * i) + 1).toNatClampNeg) (xs (nI (7 * i) + 2).toNatClampNeg) _ hf1) gL_law_X5_notesIn rfl hy1 (by decide) rfl (by decide +kernel) (n := 2) rfl ⟨by decide, by decide, (show cells + 2 + 0 ≤ 603072 by omega), (show slots + 12 + 0 ≤ 7194730 by omega)⟩ (Nat.le_of_ble_eq_true rfl) dL_law_865 rfl (fun e9 m9 hp => by cases hp.1) (fun v2 m9 H locs hp hW9a => ?_)
  obtain ⟨h1, h2⟩ := hp
  cases h1
  replace h2 : m9 = m2 := h2
  subst h2
  have hW := hW9a
  refine W.eq (g2 := F0 m 868 ls [.int b1]) rfl ?_
  refine lv_istore (lv' := [(7, .int b1), (6, .int c1), (5, .int (nI (7 * i))), (4, .ref od), (3, .ref out), (2, .ref y), (1, .ref x), (0, .ref b)]) hx hb dL_law_868 hl (by decide) rfl (fun ls hl => ?_)
  refine lv_aload_n hx hb dL_law_870 rfl (lv_at hl 5 rfl) ?_
  have hMy : ok9 m9 7 y := by obtain ⟨-, -, ⟨am, hM⟩, -⟩ := hS2; exact hM.1
  have hth : f_X5_thrown m9 y = some c1 := by
    unfold f_X5_thrown
    rw [getI_ok hMy, obs, ht1]
  refine r_callVZ (ci := 7) hx hb hml hown hts hE hA9 hW hl.1 (k_X5_thrown l hsl G (LA s) m9 y _ hth) gL_law_X5_thrown rfl hMy (by decide) rfl (by decide +kernel) (n := 0) rfl ⟨by decide, by decide, (show cells + 2 + 0 + 0 ≤ 603072 by omega), (show slots + 12 + 0 + 0 ≤ 7194730 by omega)⟩ (Nat.le_of_ble_eq_true rfl) dL_law_871 rfl (fun e9 m9 hp => by cases hp.1) (fun v3 m8 H locs hp hW9b => ?_)
  obtain ⟨h1, h2⟩ := hp
  cases h1
  subst h2
  have hW := hW9b
  refine W.widen (k := cells + 20) (n := slots + 200) (show cells + 2 + 0 + 0 ≤ cells + 20 by omega) (show slots + 12 + 0 + 0 ≤ slots + 200 by omega) ?_
  refine W.eq (g2 := F0 m 874 ls [.int c1]) rfl ?_
  refine lv_iload hx hb dL_law_874 (lv_at hl 1 rfl) ?_
  refine lv_icmp_eq (tgt := 881) hx hb dL_law_876 (by decide) (fun _ => ?_) (fun hc => absurd rfl hc)
  refine lv_iload hx hb dL_law_881 (lv_at hl 1 rfl) ?_
  refine lv_if_ne (tgt := 898) hx hb dL_law_883 (by decide) (fun _ => ?_) (fun hc0 => ?_)
  · refine lv_goto (tgt := 2610) hx hb dL_law_898 (by decide) ?_
    exact K _ _ _ _ _ hS2 hW (lv_sub hl [2, 3, 4, 5, 6, 7] rfl)
  · have hq := hq1 hc0
    have hOO := hS2.2.2.2
    refine lv_aload_n hx hb dL_law_886 rfl (lv_at hl 4 rfl) ?_
    refine lv_iconst (v := 0) hx hb dL_law_887 (by decide) ?_
    refine r_lldK hx hb hE.1 hW (lld_ok hOO.1.1 hOO.1.2) dL_law_888 ?_
    rw [hq]
    refine lv_iload hx hb dL_law_889 (lv_at hl 0 rfl) ?_
    refine lv_i2l hx hb dL_law_891 rfl ?_
    refine r_lcmpE hx hb dL_law_892 ?_
    refine lv_if_eq (tgt := 898) hx hb dL_law_893 (by decide) (fun _ => ?_) (fun hc => absurd rfl hc)
    refine lv_goto (tgt := 2610) hx hb dL_law_898 (by decide) ?_
    exact K _ _ _ _ _ hS2 hW (lv_sub hl [2, 3, 4, 5, 6, 7] rfl)
set_option maxHeartbeats 1000000 in
theorem cs_noteAt {p : Program} {l : Launch} {e : Env} {s : State} {m : MethodId} {below : List Frame} {meth : Method} {c : Code} {b L : Nat} {xs : Nat → Int32} {G : GG} {Q : State → Prop} (C : LC p l s m c b L xs G) {i : Nat} (hi : 7 * i + 7 ≤ L) {x y out od cells slots : Nat} {μ : Mem} {S : SS} {H : Heap} {locs : List Loc} {ls : Array Slot} (hS : Sm μ x y out od S) (hW : MW G (LA s) μ s.heap H locs) (hl : lv_has ls 9 [(5, .int (nI (7 * i))), (4, .ref od), (3, .ref out), (2, .ref y), (1, .ref x), (0, .ref b)]) (hR : cells + 20 ≤ 603072 ∧ slots + 200 ≤ 7194730) (K : Nx p l e s m below meth c b cells slots Q G x y out od i) :
    W p l e room_1 s m #[Value.ref b] below meth c H locs cells slots Q (F0 m 901 ls []) := by
  obtain ⟨hx, hb, hml, hown, hts, hE, hX, hbl, hsl, hL⟩ := C
  have hA9 : ∀ q, s.heap.size ≤ q → LA s q := fun _ h => h
  have hbA : ¬ LA s b := Nat.not_le.mpr hbl
  have hin1 : vp_in (nI (7 * i) + 1) L := by rw [show nI (7 * i) + 1 = nI (7 * i + 1) from nI_add (7 * i) 1]; exact vp_in_nI (by omega) (by omega)
  have hin2 : vp_in (nI (7 * i) + 2) L := by rw [show nI (7 * i) + 2 = nI (7 * i + 2) from nI_add (7 * i) 2]; exact vp_in_nI (by omega) (by omega)
  have hin3 : vp_in (nI (7 * i) + 3) L := by rw [show nI (7 * i) + 3 = nI (7 * i + 3) from nI_add (7 * i) 3]; exact vp_in_nI (by omega) (by omega)
  refine lv_aload_n hx hb dL_law_901 rfl (lv_at hl 4 rfl) ?_
  refine lv_aload_n hx hb dL_law_902 rfl (lv_at hl 5 rfl) ?_
  refine lv_iload hx hb dL_law_903 (lv_at hl 0 rfl) ?_
  refine lv_iconst (v := 1) hx hb dL_law_905 (by decide) ?_
  refine lv_iadd hx hb dL_law_906 ?_
  refine va_sld hx hb hX hbl hbA hW.2 hin1 dL_law_907 ?_
  refine lv_aload_n hx hb dL_law_908 rfl (lv_at hl 5 rfl) ?_
  refine lv_iload hx hb dL_law_909 (lv_at hl 0 rfl) ?_
  refine lv_iconst (v := 2) hx hb dL_law_911 (by decide) ?_
  refine lv_iadd hx hb dL_law_912 ?_
  refine va_sld hx hb hX hbl hbA hW.2 hin2 dL_law_913 ?_
  refine lv_aload_n hx hb dL_law_914 rfl (lv_at hl 5 rfl) ?_
  refine lv_iload hx hb dL_law_915 (lv_at hl 0 rfl) ?_
  refine lv_iconst (v := 3) hx hb dL_law_917 (by decide) ?_
  refine lv_iadd hx hb dL_law_918 ?_
  refine va_sld hx hb hX hbl hbA hW.2 hin3 dL_law_919 ?_
  refine lv_aload_n hx hb dL_law_920 rfl (lv_at hl 2 rfl) ?_
  obtain ⟨P1, hO1, hP1⟩ := w_noteAt l hsl G (LA s) hS (xs (nI (7 * i) + 1).toNatClampNeg) (xs (nI (7 * i) + 2).toNatClampNeg) (xs (nI (7 * i) + 3).toNatClampNeg)
  refine r_callSZ hx hb hml hown hts hE hA9 hW hl.1 hO1 gL_law_L_noteAt rfl (by decide +kernel) (n := 5) rfl ⟨by decide, by decide, (show cells + 3 ≤ 603072 by omega), (show slots + 18 ≤ 7194730 by omega)⟩ (Nat.le_of_ble_eq_true rfl) dL_law_921 rfl (fun e9 m9 hp => by obtain ⟨c1, b1, m2, S2, h1, -⟩ := hP1 _ _ hp; cases h1) (fun v1 m1 H locs hp hW => ?_)
  obtain ⟨c1, b1, m2, S2, h1, hy1, hf1, ht1, hq1, hS2⟩ := hP1 _ _ hp
  cases h1
  refine W.eq (g2 := F0 m 924 ls [.int c1]) rfl ?_
  refine lv_istore (lv' := [(6, .int c1), (5, .int (nI (7 * i))), (4, .ref od), (3, .ref out), (2, .ref y), (1, .ref x), (0, .ref b)]) hx hb dL_law_924 hl (by decide) rfl (fun ls hl => ?_)
  refine lv_aload_n hx hb dL_law_926 rfl (lv_at hl 4 rfl) ?_
  refine lv_aload_n hx hb dL_law_927 rfl (lv_at hl 6 rfl) ?_
  refine lv_iload hx hb dL_law_928 (lv_at hl 1 rfl) ?_
  refine lv_iconst (v := 1) hx hb dL_law_930 (by decide) ?_
  refine lv_iadd hx hb dL_law_931 ?_
  refine va_sld hx hb hX hbl hbA hW.2 hin1 dL_law_932 ?_
  refine lv_aload_n hx hb dL_law_933 rfl (lv_at hl 6 rfl) ?_
  refine lv_iload hx hb dL_law_934 (lv_at hl 1 rfl) ?_
  refine lv_iconst (v := 2) hx hb dL_law_936 (by decide) ?_
  refine lv_iadd hx hb dL_law_937 ?_
  refine va_sld hx hb hX hbl hbA hW.2 hin2 dL_law_938 ?_
  refine lv_aload_n hx hb dL_law_939 rfl (lv_at hl 6 rfl) ?_
  refine lv_iload hx hb dL_law_940 (lv_at hl 1 rfl) ?_
  refine lv_iconst (v := 3) hx hb dL_law_942 (by decide) ?_
  refine lv_iadd hx hb dL_law_943 ?_
  refine va_sld hx hb hX hbl hbA hW.2 hin3 dL_law_944 ?_
  refine r_callVZ (ci := 7) hx hb hml hown hts hE hA9 hW hl.1 (k_X5_noteAt l hsl G (LA s) m1 y (xs (nI (7 * i) + 1).toNatClampNeg) (xs (nI (7 * i) + 2).toNatClampNeg) (xs (nI (7 * i) + 3).toNatClampNeg) _ hf1) gL_law_X5_noteAt rfl hy1 (by decide) rfl (by decide +kernel) (n := 3) rfl ⟨by decide, by decide, (show cells + 3 + 0 ≤ 603072 by omega), (show slots + 18 + 0 ≤ 7194730 by omega)⟩ (Nat.le_of_ble_eq_true rfl) dL_law_945 rfl (fun e9 m9 hp => by cases hp.1) (fun v2 m9 H locs hp hW9a => ?_)
  obtain ⟨h1, h2⟩ := hp
  cases h1
  replace h2 : m9 = m2 := h2
  subst h2
  have hW := hW9a
  refine W.eq (g2 := F0 m 948 ls [.int b1]) rfl ?_
  refine lv_istore (lv' := [(7, .int b1), (6, .int c1), (5, .int (nI (7 * i))), (4, .ref od), (3, .ref out), (2, .ref y), (1, .ref x), (0, .ref b)]) hx hb dL_law_948 hl (by decide) rfl (fun ls hl => ?_)
  refine lv_aload_n hx hb dL_law_950 rfl (lv_at hl 5 rfl) ?_
  have hMy : ok9 m9 7 y := by obtain ⟨-, -, ⟨am, hM⟩, -⟩ := hS2; exact hM.1
  have hth : f_X5_thrown m9 y = some c1 := by
    unfold f_X5_thrown
    rw [getI_ok hMy, obs, ht1]
  refine r_callVZ (ci := 7) hx hb hml hown hts hE hA9 hW hl.1 (k_X5_thrown l hsl G (LA s) m9 y _ hth) gL_law_X5_thrown rfl hMy (by decide) rfl (by decide +kernel) (n := 0) rfl ⟨by decide, by decide, (show cells + 3 + 0 + 0 ≤ 603072 by omega), (show slots + 18 + 0 + 0 ≤ 7194730 by omega)⟩ (Nat.le_of_ble_eq_true rfl) dL_law_951 rfl (fun e9 m9 hp => by cases hp.1) (fun v3 m8 H locs hp hW9b => ?_)
  obtain ⟨h1, h2⟩ := hp
  cases h1
  subst h2
  have hW := hW9b
  refine W.widen (k := cells + 20) (n := slots + 200) (show cells + 3 + 0 + 0 ≤ cells + 20 by omega) (show slots + 18 + 0 + 0 ≤ slots + 200 by omega) ?_
  refine W.eq (g2 := F0 m 954 ls [.int c1]) rfl ?_
  refine lv_iload hx hb dL_law_954 (lv_at hl 1 rfl) ?_
  refine lv_icmp_eq (tgt := 961) hx hb dL_law_956 (by decide) (fun _ => ?_) (fun hc => absurd rfl hc)
  refine lv_iload hx hb dL_law_961 (lv_at hl 1 rfl) ?_
  refine lv_if_ne (tgt := 978) hx hb dL_law_963 (by decide) (fun _ => ?_) (fun hc0 => ?_)
  · refine lv_goto (tgt := 2610) hx hb dL_law_978 (by decide) ?_
    exact K _ _ _ _ _ hS2 hW (lv_sub hl [2, 3, 4, 5, 6, 7] rfl)
  · have hq := hq1 hc0
    have hOO := hS2.2.2.2
    refine lv_aload_n hx hb dL_law_966 rfl (lv_at hl 4 rfl) ?_
    refine lv_iconst (v := 0) hx hb dL_law_967 (by decide) ?_
    refine r_lldK hx hb hE.1 hW (lld_ok hOO.1.1 hOO.1.2) dL_law_968 ?_
    rw [hq]
    refine lv_iload hx hb dL_law_969 (lv_at hl 0 rfl) ?_
    refine lv_i2l hx hb dL_law_971 rfl ?_
    refine r_lcmpE hx hb dL_law_972 ?_
    refine lv_if_eq (tgt := 978) hx hb dL_law_973 (by decide) (fun _ => ?_) (fun hc => absurd rfl hc)
    refine lv_goto (tgt := 2610) hx hb dL_law_978 (by decide) ?_
    exact K _ _ _ _ _ hS2 hW (lv_sub hl [2, 3, 4, 5, 6, 7] rfl)
set_option maxHeartbeats 1000000 in
theorem cs_pitchOf {p : Program} {l : Launch} {e : Env} {s : State} {m : MethodId} {below : List Frame} {meth : Method} {c : Code} {b L : Nat} {xs : Nat → Int32} {G : GG} {Q : State → Prop} (C : LC p l s m c b L xs G) {i : Nat} (hi : 7 * i + 7 ≤ L) {x y out od cells slots : Nat} {μ : Mem} {S : SS} {H : Heap} {locs : List Loc} {ls : Array Slot} (hS : Sm μ x y out od S) (hW : MW G (LA s) μ s.heap H locs) (hl : lv_has ls 9 [(5, .int (nI (7 * i))), (4, .ref od), (3, .ref out), (2, .ref y), (1, .ref x), (0, .ref b)]) (hR : cells + 20 ≤ 603072 ∧ slots + 200 ≤ 7194730) (K : Nx p l e s m below meth c b cells slots Q G x y out od i) :
    W p l e room_1 s m #[Value.ref b] below meth c H locs cells slots Q (F0 m 981 ls []) := by
  obtain ⟨hx, hb, hml, hown, hts, hE, hX, hbl, hsl, hL⟩ := C
  have hA9 : ∀ q, s.heap.size ≤ q → LA s q := fun _ h => h
  have hbA : ¬ LA s b := Nat.not_le.mpr hbl
  have hin1 : vp_in (nI (7 * i) + 1) L := by rw [show nI (7 * i) + 1 = nI (7 * i + 1) from nI_add (7 * i) 1]; exact vp_in_nI (by omega) (by omega)
  refine lv_aload_n hx hb dL_law_981 rfl (lv_at hl 4 rfl) ?_
  refine lv_aload_n hx hb dL_law_982 rfl (lv_at hl 5 rfl) ?_
  refine lv_iload hx hb dL_law_983 (lv_at hl 0 rfl) ?_
  refine lv_iconst (v := 1) hx hb dL_law_985 (by decide) ?_
  refine lv_iadd hx hb dL_law_986 ?_
  refine va_sld hx hb hX hbl hbA hW.2 hin1 dL_law_987 ?_
  refine lv_aload_n hx hb dL_law_988 rfl (lv_at hl 2 rfl) ?_
  obtain ⟨P1, hO1, hP1⟩ := w_pitchOf l hsl G (LA s) hS (xs (nI (7 * i) + 1).toNatClampNeg)
  refine r_callSZ hx hb hml hown hts hE hA9 hW hl.1 hO1 gL_law_L_pitchOf rfl (by decide +kernel) (n := 3) rfl ⟨by decide, by decide, (show cells + 1 ≤ 603072 by omega), (show slots + 6 ≤ 7194730 by omega)⟩ (Nat.le_of_ble_eq_true rfl) dL_law_989 rfl (fun e9 m9 hp => by obtain ⟨c1, b1, m2, S2, h1, -⟩ := hP1 _ _ hp; cases h1) (fun v1 m1 H locs hp hW => ?_)
  obtain ⟨c1, b1, m2, S2, h1, hy1, hf1, ht1, hq1, hS2⟩ := hP1 _ _ hp
  cases h1
  refine W.eq (g2 := F0 m 992 ls [.int c1]) rfl ?_
  refine lv_istore (lv' := [(6, .int c1), (5, .int (nI (7 * i))), (4, .ref od), (3, .ref out), (2, .ref y), (1, .ref x), (0, .ref b)]) hx hb dL_law_992 hl (by decide) rfl (fun ls hl => ?_)
  refine lv_aload_n hx hb dL_law_994 rfl (lv_at hl 4 rfl) ?_
  refine lv_aload_n hx hb dL_law_995 rfl (lv_at hl 6 rfl) ?_
  refine lv_iload hx hb dL_law_996 (lv_at hl 1 rfl) ?_
  refine lv_iconst (v := 1) hx hb dL_law_998 (by decide) ?_
  refine lv_iadd hx hb dL_law_999 ?_
  refine va_sld hx hb hX hbl hbA hW.2 hin1 dL_law_1000 ?_
  refine r_callVZ (ci := 7) hx hb hml hown hts hE hA9 hW hl.1 (k_X5_pitchOf l hsl G (LA s) m1 y (xs (nI (7 * i) + 1).toNatClampNeg) _ hf1) gL_law_X5_pitchOf rfl hy1 (by decide) rfl (by decide +kernel) (n := 1) rfl ⟨by decide, by decide, (show cells + 1 + 0 ≤ 603072 by omega), (show slots + 6 + 0 ≤ 7194730 by omega)⟩ (Nat.le_of_ble_eq_true rfl) dL_law_1001 rfl (fun e9 m9 hp => by cases hp.1) (fun v2 m9 H locs hp hW9a => ?_)
  obtain ⟨h1, h2⟩ := hp
  cases h1
  replace h2 : m9 = m2 := h2
  subst h2
  have hW := hW9a
  refine W.eq (g2 := F0 m 1004 ls [.int b1]) rfl ?_
  refine lv_istore (lv' := [(7, .int b1), (6, .int c1), (5, .int (nI (7 * i))), (4, .ref od), (3, .ref out), (2, .ref y), (1, .ref x), (0, .ref b)]) hx hb dL_law_1004 hl (by decide) rfl (fun ls hl => ?_)
  refine lv_aload_n hx hb dL_law_1006 rfl (lv_at hl 5 rfl) ?_
  have hMy : ok9 m9 7 y := by obtain ⟨-, -, ⟨am, hM⟩, -⟩ := hS2; exact hM.1
  have hth : f_X5_thrown m9 y = some c1 := by
    unfold f_X5_thrown
    rw [getI_ok hMy, obs, ht1]
  refine r_callVZ (ci := 7) hx hb hml hown hts hE hA9 hW hl.1 (k_X5_thrown l hsl G (LA s) m9 y _ hth) gL_law_X5_thrown rfl hMy (by decide) rfl (by decide +kernel) (n := 0) rfl ⟨by decide, by decide, (show cells + 1 + 0 + 0 ≤ 603072 by omega), (show slots + 6 + 0 + 0 ≤ 7194730 by omega)⟩ (Nat.le_of_ble_eq_true rfl) dL_law_1007 rfl (fun e9 m9 hp => by cases hp.1) (fun v3 m8 H locs hp hW9b => ?_)
  obtain ⟨h1, h2⟩ := hp
  cases h1
  subst h2
  have hW := hW9b
  refine W.widen (k := cells + 20) (n := slots + 200) (show cells + 1 + 0 + 0 ≤ cells + 20 by omega) (show slots + 6 + 0 + 0 ≤ slots + 200 by omega) ?_
  refine W.eq (g2 := F0 m 1010 ls [.int c1]) rfl ?_
  refine lv_iload hx hb dL_law_1010 (lv_at hl 1 rfl) ?_
  refine lv_icmp_eq (tgt := 1017) hx hb dL_law_1012 (by decide) (fun _ => ?_) (fun hc => absurd rfl hc)
  refine lv_iload hx hb dL_law_1017 (lv_at hl 1 rfl) ?_
  refine lv_if_ne (tgt := 1034) hx hb dL_law_1019 (by decide) (fun _ => ?_) (fun hc0 => ?_)
  · refine lv_goto (tgt := 2610) hx hb dL_law_1034 (by decide) ?_
    exact K _ _ _ _ _ hS2 hW (lv_sub hl [2, 3, 4, 5, 6, 7] rfl)
  · have hq := hq1 hc0
    have hOO := hS2.2.2.2
    refine lv_aload_n hx hb dL_law_1022 rfl (lv_at hl 4 rfl) ?_
    refine lv_iconst (v := 0) hx hb dL_law_1023 (by decide) ?_
    refine r_lldK hx hb hE.1 hW (lld_ok hOO.1.1 hOO.1.2) dL_law_1024 ?_
    rw [hq]
    refine lv_iload hx hb dL_law_1025 (lv_at hl 0 rfl) ?_
    refine lv_i2l hx hb dL_law_1027 rfl ?_
    refine r_lcmpE hx hb dL_law_1028 ?_
    refine lv_if_eq (tgt := 1034) hx hb dL_law_1029 (by decide) (fun _ => ?_) (fun hc => absurd rfl hc)
    refine lv_goto (tgt := 2610) hx hb dL_law_1034 (by decide) ?_
    exact K _ _ _ _ _ hS2 hW (lv_sub hl [2, 3, 4, 5, 6, 7] rfl)
set_option maxHeartbeats 1000000 in
theorem cs_lengthOf {p : Program} {l : Launch} {e : Env} {s : State} {m : MethodId} {below : List Frame} {meth : Method} {c : Code} {b L : Nat} {xs : Nat → Int32} {G : GG} {Q : State → Prop} (C : LC p l s m c b L xs G) {i : Nat} (hi : 7 * i + 7 ≤ L) {x y out od cells slots : Nat} {μ : Mem} {S : SS} {H : Heap} {locs : List Loc} {ls : Array Slot} (hS : Sm μ x y out od S) (hW : MW G (LA s) μ s.heap H locs) (hl : lv_has ls 9 [(5, .int (nI (7 * i))), (4, .ref od), (3, .ref out), (2, .ref y), (1, .ref x), (0, .ref b)]) (hR : cells + 20 ≤ 603072 ∧ slots + 200 ≤ 7194730) (K : Nx p l e s m below meth c b cells slots Q G x y out od i) :
    W p l e room_1 s m #[Value.ref b] below meth c H locs cells slots Q (F0 m 1037 ls []) := by
  obtain ⟨hx, hb, hml, hown, hts, hE, hX, hbl, hsl, hL⟩ := C
  have hA9 : ∀ q, s.heap.size ≤ q → LA s q := fun _ h => h
  have hbA : ¬ LA s b := Nat.not_le.mpr hbl
  have hin1 : vp_in (nI (7 * i) + 1) L := by rw [show nI (7 * i) + 1 = nI (7 * i + 1) from nI_add (7 * i) 1]; exact vp_in_nI (by omega) (by omega)
  refine lv_aload_n hx hb dL_law_1037 rfl (lv_at hl 4 rfl) ?_
  refine lv_aload_n hx hb dL_law_1038 rfl (lv_at hl 5 rfl) ?_
  refine lv_iload hx hb dL_law_1039 (lv_at hl 0 rfl) ?_
  refine lv_iconst (v := 1) hx hb dL_law_1041 (by decide) ?_
  refine lv_iadd hx hb dL_law_1042 ?_
  refine va_sld hx hb hX hbl hbA hW.2 hin1 dL_law_1043 ?_
  refine lv_aload_n hx hb dL_law_1044 rfl (lv_at hl 2 rfl) ?_
  obtain ⟨P1, hO1, hP1⟩ := w_lengthOf l hsl G (LA s) hS (xs (nI (7 * i) + 1).toNatClampNeg)
  refine r_callSZ hx hb hml hown hts hE hA9 hW hl.1 hO1 gL_law_L_lengthOf rfl (by decide +kernel) (n := 3) rfl ⟨by decide, by decide, (show cells + 1 ≤ 603072 by omega), (show slots + 6 ≤ 7194730 by omega)⟩ (Nat.le_of_ble_eq_true rfl) dL_law_1045 rfl (fun e9 m9 hp => by obtain ⟨c1, b1, m2, S2, h1, -⟩ := hP1 _ _ hp; cases h1) (fun v1 m1 H locs hp hW => ?_)
  obtain ⟨c1, b1, m2, S2, h1, hy1, hf1, ht1, hq1, hS2⟩ := hP1 _ _ hp
  cases h1
  refine W.eq (g2 := F0 m 1048 ls [.int c1]) rfl ?_
  refine lv_istore (lv' := [(6, .int c1), (5, .int (nI (7 * i))), (4, .ref od), (3, .ref out), (2, .ref y), (1, .ref x), (0, .ref b)]) hx hb dL_law_1048 hl (by decide) rfl (fun ls hl => ?_)
  refine lv_aload_n hx hb dL_law_1050 rfl (lv_at hl 4 rfl) ?_
  refine lv_aload_n hx hb dL_law_1051 rfl (lv_at hl 6 rfl) ?_
  refine lv_iload hx hb dL_law_1052 (lv_at hl 1 rfl) ?_
  refine lv_iconst (v := 1) hx hb dL_law_1054 (by decide) ?_
  refine lv_iadd hx hb dL_law_1055 ?_
  refine va_sld hx hb hX hbl hbA hW.2 hin1 dL_law_1056 ?_
  refine r_callVZ (ci := 7) hx hb hml hown hts hE hA9 hW hl.1 (k_X5_lengthOf l hsl G (LA s) m1 y (xs (nI (7 * i) + 1).toNatClampNeg) _ hf1) gL_law_X5_lengthOf rfl hy1 (by decide) rfl (by decide +kernel) (n := 1) rfl ⟨by decide, by decide, (show cells + 1 + 0 ≤ 603072 by omega), (show slots + 6 + 0 ≤ 7194730 by omega)⟩ (Nat.le_of_ble_eq_true rfl) dL_law_1057 rfl (fun e9 m9 hp => by cases hp.1) (fun v2 m9 H locs hp hW9a => ?_)
  obtain ⟨h1, h2⟩ := hp
  cases h1
  replace h2 : m9 = m2 := h2
  subst h2
  have hW := hW9a
  refine W.eq (g2 := F0 m 1060 ls [.int b1]) rfl ?_
  refine lv_istore (lv' := [(7, .int b1), (6, .int c1), (5, .int (nI (7 * i))), (4, .ref od), (3, .ref out), (2, .ref y), (1, .ref x), (0, .ref b)]) hx hb dL_law_1060 hl (by decide) rfl (fun ls hl => ?_)
  refine lv_aload_n hx hb dL_law_1062 rfl (lv_at hl 5 rfl) ?_
  have hMy : ok9 m9 7 y := by obtain ⟨-, -, ⟨am, hM⟩, -⟩ := hS2; exact hM.1
  have hth : f_X5_thrown m9 y = some c1 := by
    unfold f_X5_thrown
    rw [getI_ok hMy, obs, ht1]
  refine r_callVZ (ci := 7) hx hb hml hown hts hE hA9 hW hl.1 (k_X5_thrown l hsl G (LA s) m9 y _ hth) gL_law_X5_thrown rfl hMy (by decide) rfl (by decide +kernel) (n := 0) rfl ⟨by decide, by decide, (show cells + 1 + 0 + 0 ≤ 603072 by omega), (show slots + 6 + 0 + 0 ≤ 7194730 by omega)⟩ (Nat.le_of_ble_eq_true rfl) dL_law_1063 rfl (fun e9 m9 hp => by cases hp.1) (fun v3 m8 H locs hp hW9b => ?_)
  obtain ⟨h1, h2⟩ := hp
  cases h1
  subst h2
  have hW := hW9b
  refine W.widen (k := cells + 20) (n := slots + 200) (show cells + 1 + 0 + 0 ≤ cells + 20 by omega) (show slots + 6 + 0 + 0 ≤ slots + 200 by omega) ?_
  refine W.eq (g2 := F0 m 1066 ls [.int c1]) rfl ?_
  refine lv_iload hx hb dL_law_1066 (lv_at hl 1 rfl) ?_
  refine lv_icmp_eq (tgt := 1073) hx hb dL_law_1068 (by decide) (fun _ => ?_) (fun hc => absurd rfl hc)
  refine lv_iload hx hb dL_law_1073 (lv_at hl 1 rfl) ?_
  refine lv_if_ne (tgt := 1090) hx hb dL_law_1075 (by decide) (fun _ => ?_) (fun hc0 => ?_)
  · refine lv_goto (tgt := 2610) hx hb dL_law_1090 (by decide) ?_
    exact K _ _ _ _ _ hS2 hW (lv_sub hl [2, 3, 4, 5, 6, 7] rfl)
  · have hq := hq1 hc0
    have hOO := hS2.2.2.2
    refine lv_aload_n hx hb dL_law_1078 rfl (lv_at hl 4 rfl) ?_
    refine lv_iconst (v := 0) hx hb dL_law_1079 (by decide) ?_
    refine r_lldK hx hb hE.1 hW (lld_ok hOO.1.1 hOO.1.2) dL_law_1080 ?_
    rw [hq]
    refine lv_iload hx hb dL_law_1081 (lv_at hl 0 rfl) ?_
    refine lv_i2l hx hb dL_law_1083 rfl ?_
    refine r_lcmpE hx hb dL_law_1084 ?_
    refine lv_if_eq (tgt := 1090) hx hb dL_law_1085 (by decide) (fun _ => ?_) (fun hc => absurd rfl hc)
    refine lv_goto (tgt := 2610) hx hb dL_law_1090 (by decide) ?_
    exact K _ _ _ _ _ hS2 hW (lv_sub hl [2, 3, 4, 5, 6, 7] rfl)
set_option maxHeartbeats 1000000 in
theorem cs_isDivided {p : Program} {l : Launch} {e : Env} {s : State} {m : MethodId} {below : List Frame} {meth : Method} {c : Code} {b L : Nat} {xs : Nat → Int32} {G : GG} {Q : State → Prop} (C : LC p l s m c b L xs G) {i : Nat} (hi : 7 * i + 7 ≤ L) {x y out od cells slots : Nat} {μ : Mem} {S : SS} {H : Heap} {locs : List Loc} {ls : Array Slot} (hS : Sm μ x y out od S) (hW : MW G (LA s) μ s.heap H locs) (hl : lv_has ls 9 [(5, .int (nI (7 * i))), (4, .ref od), (3, .ref out), (2, .ref y), (1, .ref x), (0, .ref b)]) (hR : cells + 20 ≤ 603072 ∧ slots + 200 ≤ 7194730) (K : Nx p l e s m below meth c b cells slots Q G x y out od i) :
    W p l e room_1 s m #[Value.ref b] below meth c H locs cells slots Q (F0 m 1093 ls []) := by
  obtain ⟨hx, hb, hml, hown, hts, hE, hX, hbl, hsl, hL⟩ := C
  have hA9 : ∀ q, s.heap.size ≤ q → LA s q := fun _ h => h
  have hbA : ¬ LA s b := Nat.not_le.mpr hbl
  have hin1 : vp_in (nI (7 * i) + 1) L := by rw [show nI (7 * i) + 1 = nI (7 * i + 1) from nI_add (7 * i) 1]; exact vp_in_nI (by omega) (by omega)
  have hin2 : vp_in (nI (7 * i) + 2) L := by rw [show nI (7 * i) + 2 = nI (7 * i + 2) from nI_add (7 * i) 2]; exact vp_in_nI (by omega) (by omega)
  refine lv_aload_n hx hb dL_law_1093 rfl (lv_at hl 4 rfl) ?_
  refine lv_aload_n hx hb dL_law_1094 rfl (lv_at hl 5 rfl) ?_
  refine lv_iload hx hb dL_law_1095 (lv_at hl 0 rfl) ?_
  refine lv_iconst (v := 1) hx hb dL_law_1097 (by decide) ?_
  refine lv_iadd hx hb dL_law_1098 ?_
  refine va_sld hx hb hX hbl hbA hW.2 hin1 dL_law_1099 ?_
  refine lv_aload_n hx hb dL_law_1100 rfl (lv_at hl 5 rfl) ?_
  refine lv_iload hx hb dL_law_1101 (lv_at hl 0 rfl) ?_
  refine lv_iconst (v := 2) hx hb dL_law_1103 (by decide) ?_
  refine lv_iadd hx hb dL_law_1104 ?_
  refine va_sld hx hb hX hbl hbA hW.2 hin2 dL_law_1105 ?_
  refine lv_aload_n hx hb dL_law_1106 rfl (lv_at hl 2 rfl) ?_
  obtain ⟨P1, hO1, hP1⟩ := w_isDivided l hsl G (LA s) hS (xs (nI (7 * i) + 1).toNatClampNeg) (xs (nI (7 * i) + 2).toNatClampNeg)
  refine r_callSZ hx hb hml hown hts hE hA9 hW hl.1 hO1 gL_law_L_isDivided rfl (by decide +kernel) (n := 4) rfl ⟨by decide, by decide, (show cells + 2 ≤ 603072 by omega), (show slots + 12 ≤ 7194730 by omega)⟩ (Nat.le_of_ble_eq_true rfl) dL_law_1107 rfl (fun e9 m9 hp => by obtain ⟨c1, b1, m2, S2, h1, -⟩ := hP1 _ _ hp; cases h1) (fun v1 m1 H locs hp hW => ?_)
  obtain ⟨c1, b1, m2, S2, h1, hy1, hf1, ht1, hq1, hS2⟩ := hP1 _ _ hp
  cases h1
  refine W.eq (g2 := F0 m 1110 ls [.int c1]) rfl ?_
  refine lv_istore (lv' := [(6, .int c1), (5, .int (nI (7 * i))), (4, .ref od), (3, .ref out), (2, .ref y), (1, .ref x), (0, .ref b)]) hx hb dL_law_1110 hl (by decide) rfl (fun ls hl => ?_)
  refine lv_aload_n hx hb dL_law_1112 rfl (lv_at hl 4 rfl) ?_
  refine lv_aload_n hx hb dL_law_1113 rfl (lv_at hl 6 rfl) ?_
  refine lv_iload hx hb dL_law_1114 (lv_at hl 1 rfl) ?_
  refine lv_iconst (v := 1) hx hb dL_law_1116 (by decide) ?_
  refine lv_iadd hx hb dL_law_1117 ?_
  refine va_sld hx hb hX hbl hbA hW.2 hin1 dL_law_1118 ?_
  refine lv_aload_n hx hb dL_law_1119 rfl (lv_at hl 6 rfl) ?_
  refine lv_iload hx hb dL_law_1120 (lv_at hl 1 rfl) ?_
  refine lv_iconst (v := 2) hx hb dL_law_1122 (by decide) ?_
  refine lv_iadd hx hb dL_law_1123 ?_
  refine va_sld hx hb hX hbl hbA hW.2 hin2 dL_law_1124 ?_
  refine r_callVZ (ci := 7) hx hb hml hown hts hE hA9 hW hl.1 (k_X5_isDivided l hsl G (LA s) m1 y (xs (nI (7 * i) + 1).toNatClampNeg) (xs (nI (7 * i) + 2).toNatClampNeg) _ hf1) gL_law_X5_isDivided rfl hy1 (by decide) rfl (by decide +kernel) (n := 2) rfl ⟨by decide, by decide, (show cells + 2 + 0 ≤ 603072 by omega), (show slots + 12 + 0 ≤ 7194730 by omega)⟩ (Nat.le_of_ble_eq_true rfl) dL_law_1125 rfl (fun e9 m9 hp => by cases hp.1) (fun v2 m9 H locs hp hW9a => ?_)
  obtain ⟨h1, h2⟩ := hp
  cases h1
  replace h2 : m9 = m2 := h2
  subst h2
  have hW := hW9a
  refine W.eq (g2 := F0 m 1128 ls [.int b1]) rfl ?_
  refine lv_istore (lv' := [(7, .int b1), (6, .int c1), (5, .int (nI (7 * i))), (4, .ref od), (3, .ref out), (2, .ref y), (1, .ref x), (0, .ref b)]) hx hb dL_law_1128 hl (by decide) rfl (fun ls hl => ?_)
  refine lv_aload_n hx hb dL_law_1130 rfl (lv_at hl 5 rfl) ?_
  have hMy : ok9 m9 7 y := by obtain ⟨-, -, ⟨am, hM⟩, -⟩ := hS2; exact hM.1
  have hth : f_X5_thrown m9 y = some c1 := by
    unfold f_X5_thrown
    rw [getI_ok hMy, obs, ht1]
  refine r_callVZ (ci := 7) hx hb hml hown hts hE hA9 hW hl.1 (k_X5_thrown l hsl G (LA s) m9 y _ hth) gL_law_X5_thrown rfl hMy (by decide) rfl (by decide +kernel) (n := 0) rfl ⟨by decide, by decide, (show cells + 2 + 0 + 0 ≤ 603072 by omega), (show slots + 12 + 0 + 0 ≤ 7194730 by omega)⟩ (Nat.le_of_ble_eq_true rfl) dL_law_1131 rfl (fun e9 m9 hp => by cases hp.1) (fun v3 m8 H locs hp hW9b => ?_)
  obtain ⟨h1, h2⟩ := hp
  cases h1
  subst h2
  have hW := hW9b
  refine W.widen (k := cells + 20) (n := slots + 200) (show cells + 2 + 0 + 0 ≤ cells + 20 by omega) (show slots + 12 + 0 + 0 ≤ slots + 200 by omega) ?_
  refine W.eq (g2 := F0 m 1134 ls [.int c1]) rfl ?_
  refine lv_iload hx hb dL_law_1134 (lv_at hl 1 rfl) ?_
  refine lv_icmp_eq (tgt := 1141) hx hb dL_law_1136 (by decide) (fun _ => ?_) (fun hc => absurd rfl hc)
  refine lv_iload hx hb dL_law_1141 (lv_at hl 1 rfl) ?_
  refine lv_if_ne (tgt := 1165) hx hb dL_law_1143 (by decide) (fun _ => ?_) (fun hc0 => ?_)
  · refine lv_goto (tgt := 2610) hx hb dL_law_1165 (by decide) ?_
    exact K _ _ _ _ _ hS2 hW (lv_sub hl [2, 3, 4, 5, 6, 7] rfl)
  · have hq := hq1 hc0
    have hOO := hS2.2.2.2
    refine lv_aload_n hx hb dL_law_1146 rfl (lv_at hl 4 rfl) ?_
    refine lv_iconst (v := 0) hx hb dL_law_1147 (by decide) ?_
    refine r_lldK hx hb hE.1 hW (lld_ok hOO.1.1 hOO.1.2) dL_law_1148 ?_
    rw [hq]
    refine lv_iload hx hb dL_law_1149 (lv_at hl 0 rfl) ?_
    refine lv_if_eq (tgt := 1158) hx hb dL_law_1151 (by decide) (fun hv => ?_) (fun hv => ?_)
    · refine lv_lconst (v := 0) hx hb dL_law_1158 rfl ?_
      simp only [if_pos hv]
      refine r_lcmpE hx hb dL_law_1159 ?_
      refine lv_if_eq (tgt := 1165) hx hb dL_law_1160 (by decide) (fun _ => ?_) (fun hc => absurd rfl hc)
      refine lv_goto (tgt := 2610) hx hb dL_law_1165 (by decide) ?_
      exact K _ _ _ _ _ hS2 hW (lv_sub hl [2, 3, 4, 5, 6, 7] rfl)
    · refine lv_lconst (v := 1) hx hb dL_law_1154 rfl ?_
      refine lv_goto (tgt := 1159) hx hb dL_law_1155 (by decide) ?_
      simp only [if_neg hv]
      refine r_lcmpE hx hb dL_law_1159 ?_
      refine lv_if_eq (tgt := 1165) hx hb dL_law_1160 (by decide) (fun _ => ?_) (fun hc => absurd rfl hc)
      refine lv_goto (tgt := 2610) hx hb dL_law_1165 (by decide) ?_
      exact K _ _ _ _ _ hS2 hW (lv_sub hl [2, 3, 4, 5, 6, 7] rfl)
set_option maxHeartbeats 1000000 in
theorem cs_written {p : Program} {l : Launch} {e : Env} {s : State} {m : MethodId} {below : List Frame} {meth : Method} {c : Code} {b L : Nat} {xs : Nat → Int32} {G : GG} {Q : State → Prop} (C : LC p l s m c b L xs G) {i : Nat} (hi : 7 * i + 7 ≤ L) {x y out od cells slots : Nat} {μ : Mem} {S : SS} {H : Heap} {locs : List Loc} {ls : Array Slot} (hS : Sm μ x y out od S) (hW : MW G (LA s) μ s.heap H locs) (hl : lv_has ls 9 [(5, .int (nI (7 * i))), (4, .ref od), (3, .ref out), (2, .ref y), (1, .ref x), (0, .ref b)]) (hR : cells + 20 ≤ 603072 ∧ slots + 200 ≤ 7194730) (K : Nx p l e s m below meth c b cells slots Q G x y out od i) :
    W p l e room_1 s m #[Value.ref b] below meth c H locs cells slots Q (F0 m 1168 ls []) := by
  obtain ⟨hx, hb, hml, hown, hts, hE, hX, hbl, hsl, hL⟩ := C
  have hA9 : ∀ q, s.heap.size ≤ q → LA s q := fun _ h => h
  have hbA : ¬ LA s b := Nat.not_le.mpr hbl
  have hin1 : vp_in (nI (7 * i) + 1) L := by rw [show nI (7 * i) + 1 = nI (7 * i + 1) from nI_add (7 * i) 1]; exact vp_in_nI (by omega) (by omega)
  refine lv_aload_n hx hb dL_law_1168 rfl (lv_at hl 4 rfl) ?_
  refine lv_aload_n hx hb dL_law_1169 rfl (lv_at hl 5 rfl) ?_
  refine lv_iload hx hb dL_law_1170 (lv_at hl 0 rfl) ?_
  refine lv_iconst (v := 1) hx hb dL_law_1172 (by decide) ?_
  refine lv_iadd hx hb dL_law_1173 ?_
  refine va_sld hx hb hX hbl hbA hW.2 hin1 dL_law_1174 ?_
  refine lv_aload_n hx hb dL_law_1175 rfl (lv_at hl 2 rfl) ?_
  obtain ⟨P1, hO1, hP1⟩ := w_written l hsl G (LA s) hS (xs (nI (7 * i) + 1).toNatClampNeg)
  refine r_callSZ hx hb hml hown hts hE hA9 hW hl.1 hO1 gL_law_L_written rfl (by decide +kernel) (n := 3) rfl ⟨by decide, by decide, (show cells + 1 ≤ 603072 by omega), (show slots + 6 ≤ 7194730 by omega)⟩ (Nat.le_of_ble_eq_true rfl) dL_law_1176 rfl (fun e9 m9 hp => by obtain ⟨c1, b1, m2, S2, h1, -⟩ := hP1 _ _ hp; cases h1) (fun v1 m1 H locs hp hW => ?_)
  obtain ⟨c1, b1, m2, S2, h1, hy1, hf1, ht1, hq1, hS2⟩ := hP1 _ _ hp
  cases h1
  refine W.eq (g2 := F0 m 1179 ls [.int c1]) rfl ?_
  refine lv_istore (lv' := [(6, .int c1), (5, .int (nI (7 * i))), (4, .ref od), (3, .ref out), (2, .ref y), (1, .ref x), (0, .ref b)]) hx hb dL_law_1179 hl (by decide) rfl (fun ls hl => ?_)
  refine lv_aload_n hx hb dL_law_1181 rfl (lv_at hl 4 rfl) ?_
  refine lv_aload_n hx hb dL_law_1182 rfl (lv_at hl 6 rfl) ?_
  refine lv_iload hx hb dL_law_1183 (lv_at hl 1 rfl) ?_
  refine lv_iconst (v := 1) hx hb dL_law_1185 (by decide) ?_
  refine lv_iadd hx hb dL_law_1186 ?_
  refine va_sld hx hb hX hbl hbA hW.2 hin1 dL_law_1187 ?_
  refine r_callVZ (ci := 7) hx hb hml hown hts hE hA9 hW hl.1 (k_X5_written l hsl G (LA s) m1 y (xs (nI (7 * i) + 1).toNatClampNeg) _ hf1) gL_law_X5_written rfl hy1 (by decide) rfl (by decide +kernel) (n := 1) rfl ⟨by decide, by decide, (show cells + 1 + 0 ≤ 603072 by omega), (show slots + 6 + 0 ≤ 7194730 by omega)⟩ (Nat.le_of_ble_eq_true rfl) dL_law_1188 rfl (fun e9 m9 hp => by cases hp.1) (fun v2 m9 H locs hp hW9a => ?_)
  obtain ⟨h1, h2⟩ := hp
  cases h1
  replace h2 : m9 = m2 := h2
  subst h2
  have hW := hW9a
  refine W.eq (g2 := F0 m 1191 ls [.int b1]) rfl ?_
  refine lv_istore (lv' := [(7, .int b1), (6, .int c1), (5, .int (nI (7 * i))), (4, .ref od), (3, .ref out), (2, .ref y), (1, .ref x), (0, .ref b)]) hx hb dL_law_1191 hl (by decide) rfl (fun ls hl => ?_)
  refine lv_aload_n hx hb dL_law_1193 rfl (lv_at hl 5 rfl) ?_
  have hMy : ok9 m9 7 y := by obtain ⟨-, -, ⟨am, hM⟩, -⟩ := hS2; exact hM.1
  have hth : f_X5_thrown m9 y = some c1 := by
    unfold f_X5_thrown
    rw [getI_ok hMy, obs, ht1]
  refine r_callVZ (ci := 7) hx hb hml hown hts hE hA9 hW hl.1 (k_X5_thrown l hsl G (LA s) m9 y _ hth) gL_law_X5_thrown rfl hMy (by decide) rfl (by decide +kernel) (n := 0) rfl ⟨by decide, by decide, (show cells + 1 + 0 + 0 ≤ 603072 by omega), (show slots + 6 + 0 + 0 ≤ 7194730 by omega)⟩ (Nat.le_of_ble_eq_true rfl) dL_law_1194 rfl (fun e9 m9 hp => by cases hp.1) (fun v3 m8 H locs hp hW9b => ?_)
  obtain ⟨h1, h2⟩ := hp
  cases h1
  subst h2
  have hW := hW9b
  refine W.widen (k := cells + 20) (n := slots + 200) (show cells + 1 + 0 + 0 ≤ cells + 20 by omega) (show slots + 6 + 0 + 0 ≤ slots + 200 by omega) ?_
  refine W.eq (g2 := F0 m 1197 ls [.int c1]) rfl ?_
  refine lv_iload hx hb dL_law_1197 (lv_at hl 1 rfl) ?_
  refine lv_icmp_eq (tgt := 1204) hx hb dL_law_1199 (by decide) (fun _ => ?_) (fun hc => absurd rfl hc)
  refine lv_iload hx hb dL_law_1204 (lv_at hl 1 rfl) ?_
  refine lv_if_ne (tgt := 1221) hx hb dL_law_1206 (by decide) (fun _ => ?_) (fun hc0 => ?_)
  · refine lv_goto (tgt := 2610) hx hb dL_law_1221 (by decide) ?_
    exact K _ _ _ _ _ hS2 hW (lv_sub hl [2, 3, 4, 5, 6, 7] rfl)
  · have hq := hq1 hc0
    have hOO := hS2.2.2.2
    refine lv_aload_n hx hb dL_law_1209 rfl (lv_at hl 4 rfl) ?_
    refine lv_iconst (v := 0) hx hb dL_law_1210 (by decide) ?_
    refine r_lldK hx hb hE.1 hW (lld_ok hOO.1.1 hOO.1.2) dL_law_1211 ?_
    rw [hq]
    refine lv_iload hx hb dL_law_1212 (lv_at hl 0 rfl) ?_
    refine lv_i2l hx hb dL_law_1214 rfl ?_
    refine r_lcmpE hx hb dL_law_1215 ?_
    refine lv_if_eq (tgt := 1221) hx hb dL_law_1216 (by decide) (fun _ => ?_) (fun hc => absurd rfl hc)
    refine lv_goto (tgt := 2610) hx hb dL_law_1221 (by decide) ?_
    exact K _ _ _ _ _ hS2 hW (lv_sub hl [2, 3, 4, 5, 6, 7] rfl)
set_option maxHeartbeats 1000000 in
theorem cs_writtenKey {p : Program} {l : Launch} {e : Env} {s : State} {m : MethodId} {below : List Frame} {meth : Method} {c : Code} {b L : Nat} {xs : Nat → Int32} {G : GG} {Q : State → Prop} (C : LC p l s m c b L xs G) {i : Nat} (hi : 7 * i + 7 ≤ L) {x y out od cells slots : Nat} {μ : Mem} {S : SS} {H : Heap} {locs : List Loc} {ls : Array Slot} (hS : Sm μ x y out od S) (hW : MW G (LA s) μ s.heap H locs) (hl : lv_has ls 9 [(5, .int (nI (7 * i))), (4, .ref od), (3, .ref out), (2, .ref y), (1, .ref x), (0, .ref b)]) (hR : cells + 20 ≤ 603072 ∧ slots + 200 ≤ 7194730) (K : Nx p l e s m below meth c b cells slots Q G x y out od i) :
    W p l e room_1 s m #[Value.ref b] below meth c H locs cells slots Q (F0 m 1224 ls []) := by
  obtain ⟨hx, hb, hml, hown, hts, hE, hX, hbl, hsl, hL⟩ := C
  have hA9 : ∀ q, s.heap.size ≤ q → LA s q := fun _ h => h
  have hbA : ¬ LA s b := Nat.not_le.mpr hbl
  have hin1 : vp_in (nI (7 * i) + 1) L := by rw [show nI (7 * i) + 1 = nI (7 * i + 1) from nI_add (7 * i) 1]; exact vp_in_nI (by omega) (by omega)
  have hin2 : vp_in (nI (7 * i) + 2) L := by rw [show nI (7 * i) + 2 = nI (7 * i + 2) from nI_add (7 * i) 2]; exact vp_in_nI (by omega) (by omega)
  refine lv_aload_n hx hb dL_law_1224 rfl (lv_at hl 4 rfl) ?_
  refine lv_aload_n hx hb dL_law_1225 rfl (lv_at hl 5 rfl) ?_
  refine lv_iload hx hb dL_law_1226 (lv_at hl 0 rfl) ?_
  refine lv_iconst (v := 1) hx hb dL_law_1228 (by decide) ?_
  refine lv_iadd hx hb dL_law_1229 ?_
  refine va_sld hx hb hX hbl hbA hW.2 hin1 dL_law_1230 ?_
  refine lv_aload_n hx hb dL_law_1231 rfl (lv_at hl 5 rfl) ?_
  refine lv_iload hx hb dL_law_1232 (lv_at hl 0 rfl) ?_
  refine lv_iconst (v := 2) hx hb dL_law_1234 (by decide) ?_
  refine lv_iadd hx hb dL_law_1235 ?_
  refine va_sld hx hb hX hbl hbA hW.2 hin2 dL_law_1236 ?_
  refine lv_aload_n hx hb dL_law_1237 rfl (lv_at hl 2 rfl) ?_
  obtain ⟨P1, hO1, hP1⟩ := w_writtenKey l hsl G (LA s) hS (xs (nI (7 * i) + 1).toNatClampNeg) (xs (nI (7 * i) + 2).toNatClampNeg)
  refine r_callSZ hx hb hml hown hts hE hA9 hW hl.1 hO1 gL_law_L_writtenKey rfl (by decide +kernel) (n := 4) rfl ⟨by decide, by decide, (show cells + 2 ≤ 603072 by omega), (show slots + 12 ≤ 7194730 by omega)⟩ (Nat.le_of_ble_eq_true rfl) dL_law_1238 rfl (fun e9 m9 hp => by obtain ⟨c1, b1, m2, S2, h1, -⟩ := hP1 _ _ hp; cases h1) (fun v1 m1 H locs hp hW => ?_)
  obtain ⟨c1, b1, m2, S2, h1, hy1, hf1, ht1, hq1, hS2⟩ := hP1 _ _ hp
  cases h1
  refine W.eq (g2 := F0 m 1241 ls [.int c1]) rfl ?_
  refine lv_istore (lv' := [(6, .int c1), (5, .int (nI (7 * i))), (4, .ref od), (3, .ref out), (2, .ref y), (1, .ref x), (0, .ref b)]) hx hb dL_law_1241 hl (by decide) rfl (fun ls hl => ?_)
  refine lv_aload_n hx hb dL_law_1243 rfl (lv_at hl 4 rfl) ?_
  refine lv_aload_n hx hb dL_law_1244 rfl (lv_at hl 6 rfl) ?_
  refine lv_iload hx hb dL_law_1245 (lv_at hl 1 rfl) ?_
  refine lv_iconst (v := 1) hx hb dL_law_1247 (by decide) ?_
  refine lv_iadd hx hb dL_law_1248 ?_
  refine va_sld hx hb hX hbl hbA hW.2 hin1 dL_law_1249 ?_
  refine lv_aload_n hx hb dL_law_1250 rfl (lv_at hl 6 rfl) ?_
  refine lv_iload hx hb dL_law_1251 (lv_at hl 1 rfl) ?_
  refine lv_iconst (v := 2) hx hb dL_law_1253 (by decide) ?_
  refine lv_iadd hx hb dL_law_1254 ?_
  refine va_sld hx hb hX hbl hbA hW.2 hin2 dL_law_1255 ?_
  refine r_callVZ (ci := 7) hx hb hml hown hts hE hA9 hW hl.1 (k_X5_writtenKey l hsl G (LA s) m1 y (xs (nI (7 * i) + 1).toNatClampNeg) (xs (nI (7 * i) + 2).toNatClampNeg) _ hf1) gL_law_X5_writtenKey rfl hy1 (by decide) rfl (by decide +kernel) (n := 2) rfl ⟨by decide, by decide, (show cells + 2 + 0 ≤ 603072 by omega), (show slots + 12 + 0 ≤ 7194730 by omega)⟩ (Nat.le_of_ble_eq_true rfl) dL_law_1256 rfl (fun e9 m9 hp => by cases hp.1) (fun v2 m9 H locs hp hW9a => ?_)
  obtain ⟨h1, h2⟩ := hp
  cases h1
  replace h2 : m9 = m2 := h2
  subst h2
  have hW := hW9a
  refine W.eq (g2 := F0 m 1259 ls [.int b1]) rfl ?_
  refine lv_istore (lv' := [(7, .int b1), (6, .int c1), (5, .int (nI (7 * i))), (4, .ref od), (3, .ref out), (2, .ref y), (1, .ref x), (0, .ref b)]) hx hb dL_law_1259 hl (by decide) rfl (fun ls hl => ?_)
  refine lv_aload_n hx hb dL_law_1261 rfl (lv_at hl 5 rfl) ?_
  have hMy : ok9 m9 7 y := by obtain ⟨-, -, ⟨am, hM⟩, -⟩ := hS2; exact hM.1
  have hth : f_X5_thrown m9 y = some c1 := by
    unfold f_X5_thrown
    rw [getI_ok hMy, obs, ht1]
  refine r_callVZ (ci := 7) hx hb hml hown hts hE hA9 hW hl.1 (k_X5_thrown l hsl G (LA s) m9 y _ hth) gL_law_X5_thrown rfl hMy (by decide) rfl (by decide +kernel) (n := 0) rfl ⟨by decide, by decide, (show cells + 2 + 0 + 0 ≤ 603072 by omega), (show slots + 12 + 0 + 0 ≤ 7194730 by omega)⟩ (Nat.le_of_ble_eq_true rfl) dL_law_1262 rfl (fun e9 m9 hp => by cases hp.1) (fun v3 m8 H locs hp hW9b => ?_)
  obtain ⟨h1, h2⟩ := hp
  cases h1
  subst h2
  have hW := hW9b
  refine W.widen (k := cells + 20) (n := slots + 200) (show cells + 2 + 0 + 0 ≤ cells + 20 by omega) (show slots + 12 + 0 + 0 ≤ slots + 200 by omega) ?_
  refine W.eq (g2 := F0 m 1265 ls [.int c1]) rfl ?_
  refine lv_iload hx hb dL_law_1265 (lv_at hl 1 rfl) ?_
  refine lv_icmp_eq (tgt := 1272) hx hb dL_law_1267 (by decide) (fun _ => ?_) (fun hc => absurd rfl hc)
  refine lv_iload hx hb dL_law_1272 (lv_at hl 1 rfl) ?_
  refine lv_if_ne (tgt := 1289) hx hb dL_law_1274 (by decide) (fun _ => ?_) (fun hc0 => ?_)
  · refine lv_goto (tgt := 2610) hx hb dL_law_1289 (by decide) ?_
    exact K _ _ _ _ _ hS2 hW (lv_sub hl [2, 3, 4, 5, 6, 7] rfl)
  · have hq := hq1 hc0
    have hOO := hS2.2.2.2
    refine lv_aload_n hx hb dL_law_1277 rfl (lv_at hl 4 rfl) ?_
    refine lv_iconst (v := 0) hx hb dL_law_1278 (by decide) ?_
    refine r_lldK hx hb hE.1 hW (lld_ok hOO.1.1 hOO.1.2) dL_law_1279 ?_
    rw [hq]
    refine lv_iload hx hb dL_law_1280 (lv_at hl 0 rfl) ?_
    refine lv_i2l hx hb dL_law_1282 rfl ?_
    refine r_lcmpE hx hb dL_law_1283 ?_
    refine lv_if_eq (tgt := 1289) hx hb dL_law_1284 (by decide) (fun _ => ?_) (fun hc => absurd rfl hc)
    refine lv_goto (tgt := 2610) hx hb dL_law_1289 (by decide) ?_
    exact K _ _ _ _ _ hS2 hW (lv_sub hl [2, 3, 4, 5, 6, 7] rfl)
set_option maxHeartbeats 1000000 in
theorem cs_letterOf {p : Program} {l : Launch} {e : Env} {s : State} {m : MethodId} {below : List Frame} {meth : Method} {c : Code} {b L : Nat} {xs : Nat → Int32} {G : GG} {Q : State → Prop} (C : LC p l s m c b L xs G) {i : Nat} (hi : 7 * i + 7 ≤ L) {x y out od cells slots : Nat} {μ : Mem} {S : SS} {H : Heap} {locs : List Loc} {ls : Array Slot} (hS : Sm μ x y out od S) (hW : MW G (LA s) μ s.heap H locs) (hl : lv_has ls 9 [(5, .int (nI (7 * i))), (4, .ref od), (3, .ref out), (2, .ref y), (1, .ref x), (0, .ref b)]) (hR : cells + 20 ≤ 603072 ∧ slots + 200 ≤ 7194730) (K : Nx p l e s m below meth c b cells slots Q G x y out od i) :
    W p l e room_1 s m #[Value.ref b] below meth c H locs cells slots Q (F0 m 1292 ls []) := by
  obtain ⟨hx, hb, hml, hown, hts, hE, hX, hbl, hsl, hL⟩ := C
  have hA9 : ∀ q, s.heap.size ≤ q → LA s q := fun _ h => h
  have hbA : ¬ LA s b := Nat.not_le.mpr hbl
  have hin1 : vp_in (nI (7 * i) + 1) L := by rw [show nI (7 * i) + 1 = nI (7 * i + 1) from nI_add (7 * i) 1]; exact vp_in_nI (by omega) (by omega)
  refine lv_aload_n hx hb dL_law_1292 rfl (lv_at hl 4 rfl) ?_
  refine lv_aload_n hx hb dL_law_1293 rfl (lv_at hl 5 rfl) ?_
  refine lv_iload hx hb dL_law_1294 (lv_at hl 0 rfl) ?_
  refine lv_iconst (v := 1) hx hb dL_law_1296 (by decide) ?_
  refine lv_iadd hx hb dL_law_1297 ?_
  refine va_sld hx hb hX hbl hbA hW.2 hin1 dL_law_1298 ?_
  refine lv_aload_n hx hb dL_law_1299 rfl (lv_at hl 2 rfl) ?_
  obtain ⟨P1, hO1, hP1⟩ := w_letterOf l hsl G (LA s) hS (xs (nI (7 * i) + 1).toNatClampNeg)
  refine r_callSZ hx hb hml hown hts hE hA9 hW hl.1 hO1 gL_law_L_letterOf rfl (by decide +kernel) (n := 3) rfl ⟨by decide, by decide, (show cells + 1 ≤ 603072 by omega), (show slots + 6 ≤ 7194730 by omega)⟩ (Nat.le_of_ble_eq_true rfl) dL_law_1300 rfl (fun e9 m9 hp => by obtain ⟨c1, b1, m2, S2, h1, -⟩ := hP1 _ _ hp; cases h1) (fun v1 m1 H locs hp hW => ?_)
  obtain ⟨c1, b1, m2, S2, h1, hy1, hf1, ht1, hq1, hS2⟩ := hP1 _ _ hp
  cases h1
  refine W.eq (g2 := F0 m 1303 ls [.int c1]) rfl ?_
  refine lv_istore (lv' := [(6, .int c1), (5, .int (nI (7 * i))), (4, .ref od), (3, .ref out), (2, .ref y), (1, .ref x), (0, .ref b)]) hx hb dL_law_1303 hl (by decide) rfl (fun ls hl => ?_)
  refine lv_aload_n hx hb dL_law_1305 rfl (lv_at hl 4 rfl) ?_
  refine lv_aload_n hx hb dL_law_1306 rfl (lv_at hl 6 rfl) ?_
  refine lv_iload hx hb dL_law_1307 (lv_at hl 1 rfl) ?_
  refine lv_iconst (v := 1) hx hb dL_law_1309 (by decide) ?_
  refine lv_iadd hx hb dL_law_1310 ?_
  refine va_sld hx hb hX hbl hbA hW.2 hin1 dL_law_1311 ?_
  refine r_callVZ (ci := 7) hx hb hml hown hts hE hA9 hW hl.1 (k_X5_letterOf l hsl G (LA s) m1 y (xs (nI (7 * i) + 1).toNatClampNeg) _ hf1) gL_law_X5_letterOf rfl hy1 (by decide) rfl (by decide +kernel) (n := 1) rfl ⟨by decide, by decide, (show cells + 1 + 0 ≤ 603072 by omega), (show slots + 6 + 0 ≤ 7194730 by omega)⟩ (Nat.le_of_ble_eq_true rfl) dL_law_1312 rfl (fun e9 m9 hp => by cases hp.1) (fun v2 m9 H locs hp hW9a => ?_)
  obtain ⟨h1, h2⟩ := hp
  cases h1
  replace h2 : m9 = m2 := h2
  subst h2
  have hW := hW9a
  refine W.eq (g2 := F0 m 1315 ls [.int b1]) rfl ?_
  refine lv_istore (lv' := [(7, .int b1), (6, .int c1), (5, .int (nI (7 * i))), (4, .ref od), (3, .ref out), (2, .ref y), (1, .ref x), (0, .ref b)]) hx hb dL_law_1315 hl (by decide) rfl (fun ls hl => ?_)
  refine lv_aload_n hx hb dL_law_1317 rfl (lv_at hl 5 rfl) ?_
  have hMy : ok9 m9 7 y := by obtain ⟨-, -, ⟨am, hM⟩, -⟩ := hS2; exact hM.1
  have hth : f_X5_thrown m9 y = some c1 := by
    unfold f_X5_thrown
    rw [getI_ok hMy, obs, ht1]
  refine r_callVZ (ci := 7) hx hb hml hown hts hE hA9 hW hl.1 (k_X5_thrown l hsl G (LA s) m9 y _ hth) gL_law_X5_thrown rfl hMy (by decide) rfl (by decide +kernel) (n := 0) rfl ⟨by decide, by decide, (show cells + 1 + 0 + 0 ≤ 603072 by omega), (show slots + 6 + 0 + 0 ≤ 7194730 by omega)⟩ (Nat.le_of_ble_eq_true rfl) dL_law_1318 rfl (fun e9 m9 hp => by cases hp.1) (fun v3 m8 H locs hp hW9b => ?_)
  obtain ⟨h1, h2⟩ := hp
  cases h1
  subst h2
  have hW := hW9b
  refine W.widen (k := cells + 20) (n := slots + 200) (show cells + 1 + 0 + 0 ≤ cells + 20 by omega) (show slots + 6 + 0 + 0 ≤ slots + 200 by omega) ?_
  refine W.eq (g2 := F0 m 1321 ls [.int c1]) rfl ?_
  refine lv_iload hx hb dL_law_1321 (lv_at hl 1 rfl) ?_
  refine lv_icmp_eq (tgt := 1328) hx hb dL_law_1323 (by decide) (fun _ => ?_) (fun hc => absurd rfl hc)
  refine lv_iload hx hb dL_law_1328 (lv_at hl 1 rfl) ?_
  refine lv_if_ne (tgt := 1345) hx hb dL_law_1330 (by decide) (fun _ => ?_) (fun hc0 => ?_)
  · refine lv_goto (tgt := 2610) hx hb dL_law_1345 (by decide) ?_
    exact K _ _ _ _ _ hS2 hW (lv_sub hl [2, 3, 4, 5, 6, 7] rfl)
  · have hq := hq1 hc0
    have hOO := hS2.2.2.2
    refine lv_aload_n hx hb dL_law_1333 rfl (lv_at hl 4 rfl) ?_
    refine lv_iconst (v := 0) hx hb dL_law_1334 (by decide) ?_
    refine r_lldK hx hb hE.1 hW (lld_ok hOO.1.1 hOO.1.2) dL_law_1335 ?_
    rw [hq]
    refine lv_iload hx hb dL_law_1336 (lv_at hl 0 rfl) ?_
    refine lv_i2l hx hb dL_law_1338 rfl ?_
    refine r_lcmpE hx hb dL_law_1339 ?_
    refine lv_if_eq (tgt := 1345) hx hb dL_law_1340 (by decide) (fun _ => ?_) (fun hc => absurd rfl hc)
    refine lv_goto (tgt := 2610) hx hb dL_law_1345 (by decide) ?_
    exact K _ _ _ _ _ hS2 hW (lv_sub hl [2, 3, 4, 5, 6, 7] rfl)
set_option maxHeartbeats 1000000 in
theorem cs_accidentalOf {p : Program} {l : Launch} {e : Env} {s : State} {m : MethodId} {below : List Frame} {meth : Method} {c : Code} {b L : Nat} {xs : Nat → Int32} {G : GG} {Q : State → Prop} (C : LC p l s m c b L xs G) {i : Nat} (hi : 7 * i + 7 ≤ L) {x y out od cells slots : Nat} {μ : Mem} {S : SS} {H : Heap} {locs : List Loc} {ls : Array Slot} (hS : Sm μ x y out od S) (hW : MW G (LA s) μ s.heap H locs) (hl : lv_has ls 9 [(5, .int (nI (7 * i))), (4, .ref od), (3, .ref out), (2, .ref y), (1, .ref x), (0, .ref b)]) (hR : cells + 20 ≤ 603072 ∧ slots + 200 ≤ 7194730) (K : Nx p l e s m below meth c b cells slots Q G x y out od i) :
    W p l e room_1 s m #[Value.ref b] below meth c H locs cells slots Q (F0 m 1348 ls []) := by
  obtain ⟨hx, hb, hml, hown, hts, hE, hX, hbl, hsl, hL⟩ := C
  have hA9 : ∀ q, s.heap.size ≤ q → LA s q := fun _ h => h
  have hbA : ¬ LA s b := Nat.not_le.mpr hbl
  have hin1 : vp_in (nI (7 * i) + 1) L := by rw [show nI (7 * i) + 1 = nI (7 * i + 1) from nI_add (7 * i) 1]; exact vp_in_nI (by omega) (by omega)
  refine lv_aload_n hx hb dL_law_1348 rfl (lv_at hl 4 rfl) ?_
  refine lv_aload_n hx hb dL_law_1349 rfl (lv_at hl 5 rfl) ?_
  refine lv_iload hx hb dL_law_1350 (lv_at hl 0 rfl) ?_
  refine lv_iconst (v := 1) hx hb dL_law_1352 (by decide) ?_
  refine lv_iadd hx hb dL_law_1353 ?_
  refine va_sld hx hb hX hbl hbA hW.2 hin1 dL_law_1354 ?_
  refine lv_aload_n hx hb dL_law_1355 rfl (lv_at hl 2 rfl) ?_
  obtain ⟨P1, hO1, hP1⟩ := w_accidentalOf l hsl G (LA s) hS (xs (nI (7 * i) + 1).toNatClampNeg)
  refine r_callSZ hx hb hml hown hts hE hA9 hW hl.1 hO1 gL_law_L_accidentalOf rfl (by decide +kernel) (n := 3) rfl ⟨by decide, by decide, (show cells + 1 ≤ 603072 by omega), (show slots + 6 ≤ 7194730 by omega)⟩ (Nat.le_of_ble_eq_true rfl) dL_law_1356 rfl (fun e9 m9 hp => by obtain ⟨c1, b1, m2, S2, h1, -⟩ := hP1 _ _ hp; cases h1) (fun v1 m1 H locs hp hW => ?_)
  obtain ⟨c1, b1, m2, S2, h1, hy1, hf1, ht1, hq1, hS2⟩ := hP1 _ _ hp
  cases h1
  refine W.eq (g2 := F0 m 1359 ls [.int c1]) rfl ?_
  refine lv_istore (lv' := [(6, .int c1), (5, .int (nI (7 * i))), (4, .ref od), (3, .ref out), (2, .ref y), (1, .ref x), (0, .ref b)]) hx hb dL_law_1359 hl (by decide) rfl (fun ls hl => ?_)
  refine lv_aload_n hx hb dL_law_1361 rfl (lv_at hl 4 rfl) ?_
  refine lv_aload_n hx hb dL_law_1362 rfl (lv_at hl 6 rfl) ?_
  refine lv_iload hx hb dL_law_1363 (lv_at hl 1 rfl) ?_
  refine lv_iconst (v := 1) hx hb dL_law_1365 (by decide) ?_
  refine lv_iadd hx hb dL_law_1366 ?_
  refine va_sld hx hb hX hbl hbA hW.2 hin1 dL_law_1367 ?_
  refine r_callVZ (ci := 7) hx hb hml hown hts hE hA9 hW hl.1 (k_X5_accidentalOf l hsl G (LA s) m1 y (xs (nI (7 * i) + 1).toNatClampNeg) _ hf1) gL_law_X5_accidentalOf rfl hy1 (by decide) rfl (by decide +kernel) (n := 1) rfl ⟨by decide, by decide, (show cells + 1 + 0 ≤ 603072 by omega), (show slots + 6 + 0 ≤ 7194730 by omega)⟩ (Nat.le_of_ble_eq_true rfl) dL_law_1368 rfl (fun e9 m9 hp => by cases hp.1) (fun v2 m9 H locs hp hW9a => ?_)
  obtain ⟨h1, h2⟩ := hp
  cases h1
  replace h2 : m9 = m2 := h2
  subst h2
  have hW := hW9a
  refine W.eq (g2 := F0 m 1371 ls [.int b1]) rfl ?_
  refine lv_istore (lv' := [(7, .int b1), (6, .int c1), (5, .int (nI (7 * i))), (4, .ref od), (3, .ref out), (2, .ref y), (1, .ref x), (0, .ref b)]) hx hb dL_law_1371 hl (by decide) rfl (fun ls hl => ?_)
  refine lv_aload_n hx hb dL_law_1373 rfl (lv_at hl 5 rfl) ?_
  have hMy : ok9 m9 7 y := by obtain ⟨-, -, ⟨am, hM⟩, -⟩ := hS2; exact hM.1
  have hth : f_X5_thrown m9 y = some c1 := by
    unfold f_X5_thrown
    rw [getI_ok hMy, obs, ht1]
  refine r_callVZ (ci := 7) hx hb hml hown hts hE hA9 hW hl.1 (k_X5_thrown l hsl G (LA s) m9 y _ hth) gL_law_X5_thrown rfl hMy (by decide) rfl (by decide +kernel) (n := 0) rfl ⟨by decide, by decide, (show cells + 1 + 0 + 0 ≤ 603072 by omega), (show slots + 6 + 0 + 0 ≤ 7194730 by omega)⟩ (Nat.le_of_ble_eq_true rfl) dL_law_1374 rfl (fun e9 m9 hp => by cases hp.1) (fun v3 m8 H locs hp hW9b => ?_)
  obtain ⟨h1, h2⟩ := hp
  cases h1
  subst h2
  have hW := hW9b
  refine W.widen (k := cells + 20) (n := slots + 200) (show cells + 1 + 0 + 0 ≤ cells + 20 by omega) (show slots + 6 + 0 + 0 ≤ slots + 200 by omega) ?_
  refine W.eq (g2 := F0 m 1377 ls [.int c1]) rfl ?_
  refine lv_iload hx hb dL_law_1377 (lv_at hl 1 rfl) ?_
  refine lv_icmp_eq (tgt := 1384) hx hb dL_law_1379 (by decide) (fun _ => ?_) (fun hc => absurd rfl hc)
  refine lv_iload hx hb dL_law_1384 (lv_at hl 1 rfl) ?_
  refine lv_if_ne (tgt := 1401) hx hb dL_law_1386 (by decide) (fun _ => ?_) (fun hc0 => ?_)
  · refine lv_goto (tgt := 2610) hx hb dL_law_1401 (by decide) ?_
    exact K _ _ _ _ _ hS2 hW (lv_sub hl [2, 3, 4, 5, 6, 7] rfl)
  · have hq := hq1 hc0
    have hOO := hS2.2.2.2
    refine lv_aload_n hx hb dL_law_1389 rfl (lv_at hl 4 rfl) ?_
    refine lv_iconst (v := 0) hx hb dL_law_1390 (by decide) ?_
    refine r_lldK hx hb hE.1 hW (lld_ok hOO.1.1 hOO.1.2) dL_law_1391 ?_
    rw [hq]
    refine lv_iload hx hb dL_law_1392 (lv_at hl 0 rfl) ?_
    refine lv_i2l hx hb dL_law_1394 rfl ?_
    refine r_lcmpE hx hb dL_law_1395 ?_
    refine lv_if_eq (tgt := 1401) hx hb dL_law_1396 (by decide) (fun _ => ?_) (fun hc => absurd rfl hc)
    refine lv_goto (tgt := 2610) hx hb dL_law_1401 (by decide) ?_
    exact K _ _ _ _ _ hS2 hW (lv_sub hl [2, 3, 4, 5, 6, 7] rfl)
set_option maxHeartbeats 1000000 in
theorem cs_rests {p : Program} {l : Launch} {e : Env} {s : State} {m : MethodId} {below : List Frame} {meth : Method} {c : Code} {b L : Nat} {xs : Nat → Int32} {G : GG} {Q : State → Prop} (C : LC p l s m c b L xs G) {i : Nat} (hi : 7 * i + 7 ≤ L) {x y out od cells slots : Nat} {μ : Mem} {S : SS} {H : Heap} {locs : List Loc} {ls : Array Slot} (hS : Sm μ x y out od S) (hW : MW G (LA s) μ s.heap H locs) (hl : lv_has ls 9 [(5, .int (nI (7 * i))), (4, .ref od), (3, .ref out), (2, .ref y), (1, .ref x), (0, .ref b)]) (hR : cells + 20 ≤ 603072 ∧ slots + 200 ≤ 7194730) (K : Nx p l e s m below meth c b cells slots Q G x y out od i) :
    W p l e room_1 s m #[Value.ref b] below meth c H locs cells slots Q (F0 m 1404 ls []) := by
  obtain ⟨hx, hb, hml, hown, hts, hE, hX, hbl, hsl, hL⟩ := C
  have hA9 : ∀ q, s.heap.size ≤ q → LA s q := fun _ h => h
  have hbA : ¬ LA s b := Nat.not_le.mpr hbl
  have hin1 : vp_in (nI (7 * i) + 1) L := by rw [show nI (7 * i) + 1 = nI (7 * i + 1) from nI_add (7 * i) 1]; exact vp_in_nI (by omega) (by omega)
  refine lv_aload_n hx hb dL_law_1404 rfl (lv_at hl 4 rfl) ?_
  refine lv_aload_n hx hb dL_law_1405 rfl (lv_at hl 5 rfl) ?_
  refine lv_iload hx hb dL_law_1406 (lv_at hl 0 rfl) ?_
  refine lv_iconst (v := 1) hx hb dL_law_1408 (by decide) ?_
  refine lv_iadd hx hb dL_law_1409 ?_
  refine va_sld hx hb hX hbl hbA hW.2 hin1 dL_law_1410 ?_
  refine lv_aload_n hx hb dL_law_1411 rfl (lv_at hl 2 rfl) ?_
  obtain ⟨P1, hO1, hP1⟩ := w_rests l hsl G (LA s) hS (xs (nI (7 * i) + 1).toNatClampNeg)
  refine r_callSZ hx hb hml hown hts hE hA9 hW hl.1 hO1 gL_law_L_rests rfl (by decide +kernel) (n := 3) rfl ⟨by decide, by decide, (show cells + 1 ≤ 603072 by omega), (show slots + 6 ≤ 7194730 by omega)⟩ (Nat.le_of_ble_eq_true rfl) dL_law_1412 rfl (fun e9 m9 hp => by obtain ⟨c1, b1, m2, S2, h1, -⟩ := hP1 _ _ hp; cases h1) (fun v1 m1 H locs hp hW => ?_)
  obtain ⟨c1, b1, m2, S2, h1, hy1, hf1, ht1, hq1, hS2⟩ := hP1 _ _ hp
  cases h1
  refine W.eq (g2 := F0 m 1415 ls [.int c1]) rfl ?_
  refine lv_istore (lv' := [(6, .int c1), (5, .int (nI (7 * i))), (4, .ref od), (3, .ref out), (2, .ref y), (1, .ref x), (0, .ref b)]) hx hb dL_law_1415 hl (by decide) rfl (fun ls hl => ?_)
  refine lv_aload_n hx hb dL_law_1417 rfl (lv_at hl 4 rfl) ?_
  refine lv_aload_n hx hb dL_law_1418 rfl (lv_at hl 6 rfl) ?_
  refine lv_iload hx hb dL_law_1419 (lv_at hl 1 rfl) ?_
  refine lv_iconst (v := 1) hx hb dL_law_1421 (by decide) ?_
  refine lv_iadd hx hb dL_law_1422 ?_
  refine va_sld hx hb hX hbl hbA hW.2 hin1 dL_law_1423 ?_
  refine r_callVZ (ci := 7) hx hb hml hown hts hE hA9 hW hl.1 (k_X5_rests l hsl G (LA s) m1 y (xs (nI (7 * i) + 1).toNatClampNeg) _ hf1) gL_law_X5_rests rfl hy1 (by decide) rfl (by decide +kernel) (n := 1) rfl ⟨by decide, by decide, (show cells + 1 + 0 ≤ 603072 by omega), (show slots + 6 + 0 ≤ 7194730 by omega)⟩ (Nat.le_of_ble_eq_true rfl) dL_law_1424 rfl (fun e9 m9 hp => by cases hp.1) (fun v2 m9 H locs hp hW9a => ?_)
  obtain ⟨h1, h2⟩ := hp
  cases h1
  replace h2 : m9 = m2 := h2
  subst h2
  have hW := hW9a
  refine W.eq (g2 := F0 m 1427 ls [.int b1]) rfl ?_
  refine lv_istore (lv' := [(7, .int b1), (6, .int c1), (5, .int (nI (7 * i))), (4, .ref od), (3, .ref out), (2, .ref y), (1, .ref x), (0, .ref b)]) hx hb dL_law_1427 hl (by decide) rfl (fun ls hl => ?_)
  refine lv_aload_n hx hb dL_law_1429 rfl (lv_at hl 5 rfl) ?_
  have hMy : ok9 m9 7 y := by obtain ⟨-, -, ⟨am, hM⟩, -⟩ := hS2; exact hM.1
  have hth : f_X5_thrown m9 y = some c1 := by
    unfold f_X5_thrown
    rw [getI_ok hMy, obs, ht1]
  refine r_callVZ (ci := 7) hx hb hml hown hts hE hA9 hW hl.1 (k_X5_thrown l hsl G (LA s) m9 y _ hth) gL_law_X5_thrown rfl hMy (by decide) rfl (by decide +kernel) (n := 0) rfl ⟨by decide, by decide, (show cells + 1 + 0 + 0 ≤ 603072 by omega), (show slots + 6 + 0 + 0 ≤ 7194730 by omega)⟩ (Nat.le_of_ble_eq_true rfl) dL_law_1430 rfl (fun e9 m9 hp => by cases hp.1) (fun v3 m8 H locs hp hW9b => ?_)
  obtain ⟨h1, h2⟩ := hp
  cases h1
  subst h2
  have hW := hW9b
  refine W.widen (k := cells + 20) (n := slots + 200) (show cells + 1 + 0 + 0 ≤ cells + 20 by omega) (show slots + 6 + 0 + 0 ≤ slots + 200 by omega) ?_
  refine W.eq (g2 := F0 m 1433 ls [.int c1]) rfl ?_
  refine lv_iload hx hb dL_law_1433 (lv_at hl 1 rfl) ?_
  refine lv_icmp_eq (tgt := 1440) hx hb dL_law_1435 (by decide) (fun _ => ?_) (fun hc => absurd rfl hc)
  refine lv_iload hx hb dL_law_1440 (lv_at hl 1 rfl) ?_
  refine lv_if_ne (tgt := 1457) hx hb dL_law_1442 (by decide) (fun _ => ?_) (fun hc0 => ?_)
  · refine lv_goto (tgt := 2610) hx hb dL_law_1457 (by decide) ?_
    exact K _ _ _ _ _ hS2 hW (lv_sub hl [2, 3, 4, 5, 6, 7] rfl)
  · have hq := hq1 hc0
    have hOO := hS2.2.2.2
    refine lv_aload_n hx hb dL_law_1445 rfl (lv_at hl 4 rfl) ?_
    refine lv_iconst (v := 0) hx hb dL_law_1446 (by decide) ?_
    refine r_lldK hx hb hE.1 hW (lld_ok hOO.1.1 hOO.1.2) dL_law_1447 ?_
    rw [hq]
    refine lv_iload hx hb dL_law_1448 (lv_at hl 0 rfl) ?_
    refine lv_i2l hx hb dL_law_1450 rfl ?_
    refine r_lcmpE hx hb dL_law_1451 ?_
    refine lv_if_eq (tgt := 1457) hx hb dL_law_1452 (by decide) (fun _ => ?_) (fun hc => absurd rfl hc)
    refine lv_goto (tgt := 2610) hx hb dL_law_1457 (by decide) ?_
    exact K _ _ _ _ _ hS2 hW (lv_sub hl [2, 3, 4, 5, 6, 7] rfl)
set_option maxHeartbeats 1000000 in
theorem cs_restFirst {p : Program} {l : Launch} {e : Env} {s : State} {m : MethodId} {below : List Frame} {meth : Method} {c : Code} {b L : Nat} {xs : Nat → Int32} {G : GG} {Q : State → Prop} (C : LC p l s m c b L xs G) {i : Nat} (hi : 7 * i + 7 ≤ L) {x y out od cells slots : Nat} {μ : Mem} {S : SS} {H : Heap} {locs : List Loc} {ls : Array Slot} (hS : Sm μ x y out od S) (hW : MW G (LA s) μ s.heap H locs) (hl : lv_has ls 9 [(5, .int (nI (7 * i))), (4, .ref od), (3, .ref out), (2, .ref y), (1, .ref x), (0, .ref b)]) (hR : cells + 20 ≤ 603072 ∧ slots + 200 ≤ 7194730) (K : Nx p l e s m below meth c b cells slots Q G x y out od i) :
    W p l e room_1 s m #[Value.ref b] below meth c H locs cells slots Q (F0 m 1460 ls []) := by
  obtain ⟨hx, hb, hml, hown, hts, hE, hX, hbl, hsl, hL⟩ := C
  have hA9 : ∀ q, s.heap.size ≤ q → LA s q := fun _ h => h
  have hbA : ¬ LA s b := Nat.not_le.mpr hbl
  have hin1 : vp_in (nI (7 * i) + 1) L := by rw [show nI (7 * i) + 1 = nI (7 * i + 1) from nI_add (7 * i) 1]; exact vp_in_nI (by omega) (by omega)
  have hin2 : vp_in (nI (7 * i) + 2) L := by rw [show nI (7 * i) + 2 = nI (7 * i + 2) from nI_add (7 * i) 2]; exact vp_in_nI (by omega) (by omega)
  refine lv_aload_n hx hb dL_law_1460 rfl (lv_at hl 4 rfl) ?_
  refine lv_aload_n hx hb dL_law_1461 rfl (lv_at hl 5 rfl) ?_
  refine lv_iload hx hb dL_law_1462 (lv_at hl 0 rfl) ?_
  refine lv_iconst (v := 1) hx hb dL_law_1464 (by decide) ?_
  refine lv_iadd hx hb dL_law_1465 ?_
  refine va_sld hx hb hX hbl hbA hW.2 hin1 dL_law_1466 ?_
  refine lv_aload_n hx hb dL_law_1467 rfl (lv_at hl 5 rfl) ?_
  refine lv_iload hx hb dL_law_1468 (lv_at hl 0 rfl) ?_
  refine lv_iconst (v := 2) hx hb dL_law_1470 (by decide) ?_
  refine lv_iadd hx hb dL_law_1471 ?_
  refine va_sld hx hb hX hbl hbA hW.2 hin2 dL_law_1472 ?_
  refine lv_aload_n hx hb dL_law_1473 rfl (lv_at hl 2 rfl) ?_
  obtain ⟨P1, hO1, hP1⟩ := w_restFirst l hsl G (LA s) hS (xs (nI (7 * i) + 1).toNatClampNeg) (xs (nI (7 * i) + 2).toNatClampNeg)
  refine r_callSZ hx hb hml hown hts hE hA9 hW hl.1 hO1 gL_law_L_restFirst rfl (by decide +kernel) (n := 4) rfl ⟨by decide, by decide, (show cells + 2 ≤ 603072 by omega), (show slots + 12 ≤ 7194730 by omega)⟩ (Nat.le_of_ble_eq_true rfl) dL_law_1474 rfl (fun e9 m9 hp => by obtain ⟨c1, b1, m2, S2, h1, -⟩ := hP1 _ _ hp; cases h1) (fun v1 m1 H locs hp hW => ?_)
  obtain ⟨c1, b1, m2, S2, h1, hy1, hf1, ht1, hq1, hS2⟩ := hP1 _ _ hp
  cases h1
  refine W.eq (g2 := F0 m 1477 ls [.int c1]) rfl ?_
  refine lv_istore (lv' := [(6, .int c1), (5, .int (nI (7 * i))), (4, .ref od), (3, .ref out), (2, .ref y), (1, .ref x), (0, .ref b)]) hx hb dL_law_1477 hl (by decide) rfl (fun ls hl => ?_)
  refine lv_aload_n hx hb dL_law_1479 rfl (lv_at hl 4 rfl) ?_
  refine lv_aload_n hx hb dL_law_1480 rfl (lv_at hl 6 rfl) ?_
  refine lv_iload hx hb dL_law_1481 (lv_at hl 1 rfl) ?_
  refine lv_iconst (v := 1) hx hb dL_law_1483 (by decide) ?_
  refine lv_iadd hx hb dL_law_1484 ?_
  refine va_sld hx hb hX hbl hbA hW.2 hin1 dL_law_1485 ?_
  refine lv_aload_n hx hb dL_law_1486 rfl (lv_at hl 6 rfl) ?_
  refine lv_iload hx hb dL_law_1487 (lv_at hl 1 rfl) ?_
  refine lv_iconst (v := 2) hx hb dL_law_1489 (by decide) ?_
  refine lv_iadd hx hb dL_law_1490 ?_
  refine va_sld hx hb hX hbl hbA hW.2 hin2 dL_law_1491 ?_
  refine r_callVZ (ci := 7) hx hb hml hown hts hE hA9 hW hl.1 (k_X5_restFirst l hsl G (LA s) m1 y (xs (nI (7 * i) + 1).toNatClampNeg) (xs (nI (7 * i) + 2).toNatClampNeg) _ hf1) gL_law_X5_restFirst rfl hy1 (by decide) rfl (by decide +kernel) (n := 2) rfl ⟨by decide, by decide, (show cells + 2 + 0 ≤ 603072 by omega), (show slots + 12 + 0 ≤ 7194730 by omega)⟩ (Nat.le_of_ble_eq_true rfl) dL_law_1492 rfl (fun e9 m9 hp => by cases hp.1) (fun v2 m9 H locs hp hW9a => ?_)
  obtain ⟨h1, h2⟩ := hp
  cases h1
  replace h2 : m9 = m2 := h2
  subst h2
  have hW := hW9a
  refine W.eq (g2 := F0 m 1495 ls [.int b1]) rfl ?_
  refine lv_istore (lv' := [(7, .int b1), (6, .int c1), (5, .int (nI (7 * i))), (4, .ref od), (3, .ref out), (2, .ref y), (1, .ref x), (0, .ref b)]) hx hb dL_law_1495 hl (by decide) rfl (fun ls hl => ?_)
  refine lv_aload_n hx hb dL_law_1497 rfl (lv_at hl 5 rfl) ?_
  have hMy : ok9 m9 7 y := by obtain ⟨-, -, ⟨am, hM⟩, -⟩ := hS2; exact hM.1
  have hth : f_X5_thrown m9 y = some c1 := by
    unfold f_X5_thrown
    rw [getI_ok hMy, obs, ht1]
  refine r_callVZ (ci := 7) hx hb hml hown hts hE hA9 hW hl.1 (k_X5_thrown l hsl G (LA s) m9 y _ hth) gL_law_X5_thrown rfl hMy (by decide) rfl (by decide +kernel) (n := 0) rfl ⟨by decide, by decide, (show cells + 2 + 0 + 0 ≤ 603072 by omega), (show slots + 12 + 0 + 0 ≤ 7194730 by omega)⟩ (Nat.le_of_ble_eq_true rfl) dL_law_1498 rfl (fun e9 m9 hp => by cases hp.1) (fun v3 m8 H locs hp hW9b => ?_)
  obtain ⟨h1, h2⟩ := hp
  cases h1
  subst h2
  have hW := hW9b
  refine W.widen (k := cells + 20) (n := slots + 200) (show cells + 2 + 0 + 0 ≤ cells + 20 by omega) (show slots + 12 + 0 + 0 ≤ slots + 200 by omega) ?_
  refine W.eq (g2 := F0 m 1501 ls [.int c1]) rfl ?_
  refine lv_iload hx hb dL_law_1501 (lv_at hl 1 rfl) ?_
  refine lv_icmp_eq (tgt := 1508) hx hb dL_law_1503 (by decide) (fun _ => ?_) (fun hc => absurd rfl hc)
  refine lv_iload hx hb dL_law_1508 (lv_at hl 1 rfl) ?_
  refine lv_if_ne (tgt := 1525) hx hb dL_law_1510 (by decide) (fun _ => ?_) (fun hc0 => ?_)
  · refine lv_goto (tgt := 2610) hx hb dL_law_1525 (by decide) ?_
    exact K _ _ _ _ _ hS2 hW (lv_sub hl [2, 3, 4, 5, 6, 7] rfl)
  · have hq := hq1 hc0
    have hOO := hS2.2.2.2
    refine lv_aload_n hx hb dL_law_1513 rfl (lv_at hl 4 rfl) ?_
    refine lv_iconst (v := 0) hx hb dL_law_1514 (by decide) ?_
    refine r_lldK hx hb hE.1 hW (lld_ok hOO.1.1 hOO.1.2) dL_law_1515 ?_
    rw [hq]
    refine lv_iload hx hb dL_law_1516 (lv_at hl 0 rfl) ?_
    refine lv_i2l hx hb dL_law_1518 rfl ?_
    refine r_lcmpE hx hb dL_law_1519 ?_
    refine lv_if_eq (tgt := 1525) hx hb dL_law_1520 (by decide) (fun _ => ?_) (fun hc => absurd rfl hc)
    refine lv_goto (tgt := 2610) hx hb dL_law_1525 (by decide) ?_
    exact K _ _ _ _ _ hS2 hW (lv_sub hl [2, 3, 4, 5, 6, 7] rfl)
set_option maxHeartbeats 1000000 in
theorem cs_restBars {p : Program} {l : Launch} {e : Env} {s : State} {m : MethodId} {below : List Frame} {meth : Method} {c : Code} {b L : Nat} {xs : Nat → Int32} {G : GG} {Q : State → Prop} (C : LC p l s m c b L xs G) {i : Nat} (hi : 7 * i + 7 ≤ L) {x y out od cells slots : Nat} {μ : Mem} {S : SS} {H : Heap} {locs : List Loc} {ls : Array Slot} (hS : Sm μ x y out od S) (hW : MW G (LA s) μ s.heap H locs) (hl : lv_has ls 9 [(5, .int (nI (7 * i))), (4, .ref od), (3, .ref out), (2, .ref y), (1, .ref x), (0, .ref b)]) (hR : cells + 20 ≤ 603072 ∧ slots + 200 ≤ 7194730) (K : Nx p l e s m below meth c b cells slots Q G x y out od i) :
    W p l e room_1 s m #[Value.ref b] below meth c H locs cells slots Q (F0 m 1528 ls []) := by
  obtain ⟨hx, hb, hml, hown, hts, hE, hX, hbl, hsl, hL⟩ := C
  have hA9 : ∀ q, s.heap.size ≤ q → LA s q := fun _ h => h
  have hbA : ¬ LA s b := Nat.not_le.mpr hbl
  have hin1 : vp_in (nI (7 * i) + 1) L := by rw [show nI (7 * i) + 1 = nI (7 * i + 1) from nI_add (7 * i) 1]; exact vp_in_nI (by omega) (by omega)
  have hin2 : vp_in (nI (7 * i) + 2) L := by rw [show nI (7 * i) + 2 = nI (7 * i + 2) from nI_add (7 * i) 2]; exact vp_in_nI (by omega) (by omega)
  refine lv_aload_n hx hb dL_law_1528 rfl (lv_at hl 4 rfl) ?_
  refine lv_aload_n hx hb dL_law_1529 rfl (lv_at hl 5 rfl) ?_
  refine lv_iload hx hb dL_law_1530 (lv_at hl 0 rfl) ?_
  refine lv_iconst (v := 1) hx hb dL_law_1532 (by decide) ?_
  refine lv_iadd hx hb dL_law_1533 ?_
  refine va_sld hx hb hX hbl hbA hW.2 hin1 dL_law_1534 ?_
  refine lv_aload_n hx hb dL_law_1535 rfl (lv_at hl 5 rfl) ?_
  refine lv_iload hx hb dL_law_1536 (lv_at hl 0 rfl) ?_
  refine lv_iconst (v := 2) hx hb dL_law_1538 (by decide) ?_
  refine lv_iadd hx hb dL_law_1539 ?_
  refine va_sld hx hb hX hbl hbA hW.2 hin2 dL_law_1540 ?_
  refine lv_aload_n hx hb dL_law_1541 rfl (lv_at hl 2 rfl) ?_
  obtain ⟨P1, hO1, hP1⟩ := w_restBars l hsl G (LA s) hS (xs (nI (7 * i) + 1).toNatClampNeg) (xs (nI (7 * i) + 2).toNatClampNeg)
  refine r_callSZ hx hb hml hown hts hE hA9 hW hl.1 hO1 gL_law_L_restBars rfl (by decide +kernel) (n := 4) rfl ⟨by decide, by decide, (show cells + 2 ≤ 603072 by omega), (show slots + 12 ≤ 7194730 by omega)⟩ (Nat.le_of_ble_eq_true rfl) dL_law_1542 rfl (fun e9 m9 hp => by obtain ⟨c1, b1, m2, S2, h1, -⟩ := hP1 _ _ hp; cases h1) (fun v1 m1 H locs hp hW => ?_)
  obtain ⟨c1, b1, m2, S2, h1, hy1, hf1, ht1, hq1, hS2⟩ := hP1 _ _ hp
  cases h1
  refine W.eq (g2 := F0 m 1545 ls [.int c1]) rfl ?_
  refine lv_istore (lv' := [(6, .int c1), (5, .int (nI (7 * i))), (4, .ref od), (3, .ref out), (2, .ref y), (1, .ref x), (0, .ref b)]) hx hb dL_law_1545 hl (by decide) rfl (fun ls hl => ?_)
  refine lv_aload_n hx hb dL_law_1547 rfl (lv_at hl 4 rfl) ?_
  refine lv_aload_n hx hb dL_law_1548 rfl (lv_at hl 6 rfl) ?_
  refine lv_iload hx hb dL_law_1549 (lv_at hl 1 rfl) ?_
  refine lv_iconst (v := 1) hx hb dL_law_1551 (by decide) ?_
  refine lv_iadd hx hb dL_law_1552 ?_
  refine va_sld hx hb hX hbl hbA hW.2 hin1 dL_law_1553 ?_
  refine lv_aload_n hx hb dL_law_1554 rfl (lv_at hl 6 rfl) ?_
  refine lv_iload hx hb dL_law_1555 (lv_at hl 1 rfl) ?_
  refine lv_iconst (v := 2) hx hb dL_law_1557 (by decide) ?_
  refine lv_iadd hx hb dL_law_1558 ?_
  refine va_sld hx hb hX hbl hbA hW.2 hin2 dL_law_1559 ?_
  refine r_callVZ (ci := 7) hx hb hml hown hts hE hA9 hW hl.1 (k_X5_restBars l hsl G (LA s) m1 y (xs (nI (7 * i) + 1).toNatClampNeg) (xs (nI (7 * i) + 2).toNatClampNeg) _ hf1) gL_law_X5_restBars rfl hy1 (by decide) rfl (by decide +kernel) (n := 2) rfl ⟨by decide, by decide, (show cells + 2 + 0 ≤ 603072 by omega), (show slots + 12 + 0 ≤ 7194730 by omega)⟩ (Nat.le_of_ble_eq_true rfl) dL_law_1560 rfl (fun e9 m9 hp => by cases hp.1) (fun v2 m9 H locs hp hW9a => ?_)
  obtain ⟨h1, h2⟩ := hp
  cases h1
  replace h2 : m9 = m2 := h2
  subst h2
  have hW := hW9a
  refine W.eq (g2 := F0 m 1563 ls [.int b1]) rfl ?_
  refine lv_istore (lv' := [(7, .int b1), (6, .int c1), (5, .int (nI (7 * i))), (4, .ref od), (3, .ref out), (2, .ref y), (1, .ref x), (0, .ref b)]) hx hb dL_law_1563 hl (by decide) rfl (fun ls hl => ?_)
  refine lv_aload_n hx hb dL_law_1565 rfl (lv_at hl 5 rfl) ?_
  have hMy : ok9 m9 7 y := by obtain ⟨-, -, ⟨am, hM⟩, -⟩ := hS2; exact hM.1
  have hth : f_X5_thrown m9 y = some c1 := by
    unfold f_X5_thrown
    rw [getI_ok hMy, obs, ht1]
  refine r_callVZ (ci := 7) hx hb hml hown hts hE hA9 hW hl.1 (k_X5_thrown l hsl G (LA s) m9 y _ hth) gL_law_X5_thrown rfl hMy (by decide) rfl (by decide +kernel) (n := 0) rfl ⟨by decide, by decide, (show cells + 2 + 0 + 0 ≤ 603072 by omega), (show slots + 12 + 0 + 0 ≤ 7194730 by omega)⟩ (Nat.le_of_ble_eq_true rfl) dL_law_1566 rfl (fun e9 m9 hp => by cases hp.1) (fun v3 m8 H locs hp hW9b => ?_)
  obtain ⟨h1, h2⟩ := hp
  cases h1
  subst h2
  have hW := hW9b
  refine W.widen (k := cells + 20) (n := slots + 200) (show cells + 2 + 0 + 0 ≤ cells + 20 by omega) (show slots + 12 + 0 + 0 ≤ slots + 200 by omega) ?_
  refine W.eq (g2 := F0 m 1569 ls [.int c1]) rfl ?_
  refine lv_iload hx hb dL_law_1569 (lv_at hl 1 rfl) ?_
  refine lv_icmp_eq (tgt := 1576) hx hb dL_law_1571 (by decide) (fun _ => ?_) (fun hc => absurd rfl hc)
  refine lv_iload hx hb dL_law_1576 (lv_at hl 1 rfl) ?_
  refine lv_if_ne (tgt := 1593) hx hb dL_law_1578 (by decide) (fun _ => ?_) (fun hc0 => ?_)
  · refine lv_goto (tgt := 2610) hx hb dL_law_1593 (by decide) ?_
    exact K _ _ _ _ _ hS2 hW (lv_sub hl [2, 3, 4, 5, 6, 7] rfl)
  · have hq := hq1 hc0
    have hOO := hS2.2.2.2
    refine lv_aload_n hx hb dL_law_1581 rfl (lv_at hl 4 rfl) ?_
    refine lv_iconst (v := 0) hx hb dL_law_1582 (by decide) ?_
    refine r_lldK hx hb hE.1 hW (lld_ok hOO.1.1 hOO.1.2) dL_law_1583 ?_
    rw [hq]
    refine lv_iload hx hb dL_law_1584 (lv_at hl 0 rfl) ?_
    refine lv_i2l hx hb dL_law_1586 rfl ?_
    refine r_lcmpE hx hb dL_law_1587 ?_
    refine lv_if_eq (tgt := 1593) hx hb dL_law_1588 (by decide) (fun _ => ?_) (fun hc => absurd rfl hc)
    refine lv_goto (tgt := 2610) hx hb dL_law_1593 (by decide) ?_
    exact K _ _ _ _ _ hS2 hW (lv_sub hl [2, 3, 4, 5, 6, 7] rfl)
set_option maxHeartbeats 1000000 in
theorem cs_setPage {p : Program} {l : Launch} {e : Env} {s : State} {m : MethodId} {below : List Frame} {meth : Method} {c : Code} {b L : Nat} {xs : Nat → Int32} {G : GG} {Q : State → Prop} (C : LC p l s m c b L xs G) {i : Nat} (hi : 7 * i + 7 ≤ L) {x y out od cells slots : Nat} {μ : Mem} {S : SS} {H : Heap} {locs : List Loc} {ls : Array Slot} (hS : Sm μ x y out od S) (hW : MW G (LA s) μ s.heap H locs) (hl : lv_has ls 9 [(5, .int (nI (7 * i))), (4, .ref od), (3, .ref out), (2, .ref y), (1, .ref x), (0, .ref b)]) (hR : cells + 20 ≤ 603072 ∧ slots + 200 ≤ 7194730) (K : Nx p l e s m below meth c b cells slots Q G x y out od i) :
    W p l e room_1 s m #[Value.ref b] below meth c H locs cells slots Q (F0 m 1596 ls []) := by
  obtain ⟨hx, hb, hml, hown, hts, hE, hX, hbl, hsl, hL⟩ := C
  have hA9 : ∀ q, s.heap.size ≤ q → LA s q := fun _ h => h
  have hbA : ¬ LA s b := Nat.not_le.mpr hbl
  have hin1 : vp_in (nI (7 * i) + 1) L := by rw [show nI (7 * i) + 1 = nI (7 * i + 1) from nI_add (7 * i) 1]; exact vp_in_nI (by omega) (by omega)
  refine lv_aload_n hx hb dL_law_1596 rfl (lv_at hl 4 rfl) ?_
  refine lv_aload_n hx hb dL_law_1597 rfl (lv_at hl 5 rfl) ?_
  refine lv_iload hx hb dL_law_1598 (lv_at hl 0 rfl) ?_
  refine lv_iconst (v := 1) hx hb dL_law_1600 (by decide) ?_
  refine lv_iadd hx hb dL_law_1601 ?_
  refine va_sld hx hb hX hbl hbA hW.2 hin1 dL_law_1602 ?_
  refine lv_aload_n hx hb dL_law_1603 rfl (lv_at hl 2 rfl) ?_
  obtain ⟨P1, hO1, hP1⟩ := w_setPage l hsl G (LA s) hS (xs (nI (7 * i) + 1).toNatClampNeg)
  refine r_callSZ hx hb hml hown hts hE hA9 hW hl.1 hO1 gL_law_L_setPage rfl (by decide +kernel) (n := 3) rfl ⟨by decide, by decide, (show cells + 1 ≤ 603072 by omega), (show slots + 6 ≤ 7194730 by omega)⟩ (Nat.le_of_ble_eq_true rfl) dL_law_1604 rfl (fun e9 m9 hp => by obtain ⟨c1, b1, m2, S2, h1, -⟩ := hP1 _ _ hp; cases h1) (fun v1 m1 H locs hp hW => ?_)
  obtain ⟨c1, b1, m2, S2, h1, hy1, hf1, ht1, hq1, hS2⟩ := hP1 _ _ hp
  cases h1
  refine W.eq (g2 := F0 m 1607 ls [.int c1]) rfl ?_
  refine lv_istore (lv' := [(6, .int c1), (5, .int (nI (7 * i))), (4, .ref od), (3, .ref out), (2, .ref y), (1, .ref x), (0, .ref b)]) hx hb dL_law_1607 hl (by decide) rfl (fun ls hl => ?_)
  refine lv_aload_n hx hb dL_law_1609 rfl (lv_at hl 4 rfl) ?_
  refine lv_aload_n hx hb dL_law_1610 rfl (lv_at hl 6 rfl) ?_
  refine lv_iload hx hb dL_law_1611 (lv_at hl 1 rfl) ?_
  refine lv_iconst (v := 1) hx hb dL_law_1613 (by decide) ?_
  refine lv_iadd hx hb dL_law_1614 ?_
  refine va_sld hx hb hX hbl hbA hW.2 hin1 dL_law_1615 ?_
  refine r_callVZ (ci := 7) hx hb hml hown hts hE hA9 hW hl.1 (k_X5_setPage l hsl G (LA s) m1 y (xs (nI (7 * i) + 1).toNatClampNeg) _ hf1) gL_law_X5_setPage rfl hy1 (by decide) rfl (by decide +kernel) (n := 1) rfl ⟨by decide, by decide, (show cells + 1 + 0 ≤ 603072 by omega), (show slots + 6 + 0 ≤ 7194730 by omega)⟩ (Nat.le_of_ble_eq_true rfl) dL_law_1616 rfl (fun e9 m9 hp => by cases hp.1) (fun v2 m9 H locs hp hW9a => ?_)
  obtain ⟨h1, h2⟩ := hp
  cases h1
  replace h2 : m9 = m2 := h2
  subst h2
  have hW := hW9a
  refine W.eq (g2 := F0 m 1619 ls [.int b1]) rfl ?_
  refine lv_istore (lv' := [(7, .int b1), (6, .int c1), (5, .int (nI (7 * i))), (4, .ref od), (3, .ref out), (2, .ref y), (1, .ref x), (0, .ref b)]) hx hb dL_law_1619 hl (by decide) rfl (fun ls hl => ?_)
  refine lv_aload_n hx hb dL_law_1621 rfl (lv_at hl 5 rfl) ?_
  have hMy : ok9 m9 7 y := by obtain ⟨-, -, ⟨am, hM⟩, -⟩ := hS2; exact hM.1
  have hth : f_X5_thrown m9 y = some c1 := by
    unfold f_X5_thrown
    rw [getI_ok hMy, obs, ht1]
  refine r_callVZ (ci := 7) hx hb hml hown hts hE hA9 hW hl.1 (k_X5_thrown l hsl G (LA s) m9 y _ hth) gL_law_X5_thrown rfl hMy (by decide) rfl (by decide +kernel) (n := 0) rfl ⟨by decide, by decide, (show cells + 1 + 0 + 0 ≤ 603072 by omega), (show slots + 6 + 0 + 0 ≤ 7194730 by omega)⟩ (Nat.le_of_ble_eq_true rfl) dL_law_1622 rfl (fun e9 m9 hp => by cases hp.1) (fun v3 m8 H locs hp hW9b => ?_)
  obtain ⟨h1, h2⟩ := hp
  cases h1
  subst h2
  have hW := hW9b
  refine W.widen (k := cells + 20) (n := slots + 200) (show cells + 1 + 0 + 0 ≤ cells + 20 by omega) (show slots + 6 + 0 + 0 ≤ slots + 200 by omega) ?_
  refine W.eq (g2 := F0 m 1625 ls [.int c1]) rfl ?_
  refine lv_iload hx hb dL_law_1625 (lv_at hl 1 rfl) ?_
  refine lv_icmp_eq (tgt := 1632) hx hb dL_law_1627 (by decide) (fun _ => ?_) (fun hc => absurd rfl hc)
  refine lv_iload hx hb dL_law_1632 (lv_at hl 1 rfl) ?_
  refine lv_if_ne (tgt := 1649) hx hb dL_law_1634 (by decide) (fun _ => ?_) (fun hc0 => ?_)
  · refine lv_goto (tgt := 2610) hx hb dL_law_1649 (by decide) ?_
    exact K _ _ _ _ _ hS2 hW (lv_sub hl [2, 3, 4, 5, 6, 7] rfl)
  · have hq := hq1 hc0
    have hOO := hS2.2.2.2
    refine lv_aload_n hx hb dL_law_1637 rfl (lv_at hl 4 rfl) ?_
    refine lv_iconst (v := 0) hx hb dL_law_1638 (by decide) ?_
    refine r_lldK hx hb hE.1 hW (lld_ok hOO.1.1 hOO.1.2) dL_law_1639 ?_
    rw [hq]
    refine lv_iload hx hb dL_law_1640 (lv_at hl 0 rfl) ?_
    refine lv_i2l hx hb dL_law_1642 rfl ?_
    refine r_lcmpE hx hb dL_law_1643 ?_
    refine lv_if_eq (tgt := 1649) hx hb dL_law_1644 (by decide) (fun _ => ?_) (fun hc => absurd rfl hc)
    refine lv_goto (tgt := 2610) hx hb dL_law_1649 (by decide) ?_
    exact K _ _ _ _ _ hS2 hW (lv_sub hl [2, 3, 4, 5, 6, 7] rfl)
set_option maxHeartbeats 1000000 in
theorem cs_setTurn {p : Program} {l : Launch} {e : Env} {s : State} {m : MethodId} {below : List Frame} {meth : Method} {c : Code} {b L : Nat} {xs : Nat → Int32} {G : GG} {Q : State → Prop} (C : LC p l s m c b L xs G) {i : Nat} (hi : 7 * i + 7 ≤ L) {x y out od cells slots : Nat} {μ : Mem} {S : SS} {H : Heap} {locs : List Loc} {ls : Array Slot} (hS : Sm μ x y out od S) (hW : MW G (LA s) μ s.heap H locs) (hl : lv_has ls 9 [(5, .int (nI (7 * i))), (4, .ref od), (3, .ref out), (2, .ref y), (1, .ref x), (0, .ref b)]) (hR : cells + 20 ≤ 603072 ∧ slots + 200 ≤ 7194730) (K : Nx p l e s m below meth c b cells slots Q G x y out od i) :
    W p l e room_1 s m #[Value.ref b] below meth c H locs cells slots Q (F0 m 1652 ls []) := by
  obtain ⟨hx, hb, hml, hown, hts, hE, hX, hbl, hsl, hL⟩ := C
  have hA9 : ∀ q, s.heap.size ≤ q → LA s q := fun _ h => h
  have hbA : ¬ LA s b := Nat.not_le.mpr hbl
  have hin1 : vp_in (nI (7 * i) + 1) L := by rw [show nI (7 * i) + 1 = nI (7 * i + 1) from nI_add (7 * i) 1]; exact vp_in_nI (by omega) (by omega)
  refine lv_aload_n hx hb dL_law_1652 rfl (lv_at hl 4 rfl) ?_
  refine lv_aload_n hx hb dL_law_1653 rfl (lv_at hl 5 rfl) ?_
  refine lv_iload hx hb dL_law_1654 (lv_at hl 0 rfl) ?_
  refine lv_iconst (v := 1) hx hb dL_law_1656 (by decide) ?_
  refine lv_iadd hx hb dL_law_1657 ?_
  refine va_sld hx hb hX hbl hbA hW.2 hin1 dL_law_1658 ?_
  refine lv_aload_n hx hb dL_law_1659 rfl (lv_at hl 2 rfl) ?_
  obtain ⟨P1, hO1, hP1⟩ := w_setTurn l hsl G (LA s) hS (xs (nI (7 * i) + 1).toNatClampNeg)
  refine r_callSZ hx hb hml hown hts hE hA9 hW hl.1 hO1 gL_law_L_setTurn rfl (by decide +kernel) (n := 3) rfl ⟨by decide, by decide, (show cells + 1 ≤ 603072 by omega), (show slots + 6 ≤ 7194730 by omega)⟩ (Nat.le_of_ble_eq_true rfl) dL_law_1660 rfl (fun e9 m9 hp => by obtain ⟨c1, b1, m2, S2, h1, -⟩ := hP1 _ _ hp; cases h1) (fun v1 m1 H locs hp hW => ?_)
  obtain ⟨c1, b1, m2, S2, h1, hy1, hf1, ht1, hq1, hS2⟩ := hP1 _ _ hp
  cases h1
  refine W.eq (g2 := F0 m 1663 ls [.int c1]) rfl ?_
  refine lv_istore (lv' := [(6, .int c1), (5, .int (nI (7 * i))), (4, .ref od), (3, .ref out), (2, .ref y), (1, .ref x), (0, .ref b)]) hx hb dL_law_1663 hl (by decide) rfl (fun ls hl => ?_)
  refine lv_aload_n hx hb dL_law_1665 rfl (lv_at hl 4 rfl) ?_
  refine lv_aload_n hx hb dL_law_1666 rfl (lv_at hl 6 rfl) ?_
  refine lv_iload hx hb dL_law_1667 (lv_at hl 1 rfl) ?_
  refine lv_iconst (v := 1) hx hb dL_law_1669 (by decide) ?_
  refine lv_iadd hx hb dL_law_1670 ?_
  refine va_sld hx hb hX hbl hbA hW.2 hin1 dL_law_1671 ?_
  refine r_callVZ (ci := 7) hx hb hml hown hts hE hA9 hW hl.1 (k_X5_setTurn l hsl G (LA s) m1 y (xs (nI (7 * i) + 1).toNatClampNeg) _ hf1) gL_law_X5_setTurn rfl hy1 (by decide) rfl (by decide +kernel) (n := 1) rfl ⟨by decide, by decide, (show cells + 1 + 0 ≤ 603072 by omega), (show slots + 6 + 0 ≤ 7194730 by omega)⟩ (Nat.le_of_ble_eq_true rfl) dL_law_1672 rfl (fun e9 m9 hp => by cases hp.1) (fun v2 m9 H locs hp hW9a => ?_)
  obtain ⟨h1, h2⟩ := hp
  cases h1
  replace h2 : m9 = m2 := h2
  subst h2
  have hW := hW9a
  refine W.eq (g2 := F0 m 1675 ls [.int b1]) rfl ?_
  refine lv_istore (lv' := [(7, .int b1), (6, .int c1), (5, .int (nI (7 * i))), (4, .ref od), (3, .ref out), (2, .ref y), (1, .ref x), (0, .ref b)]) hx hb dL_law_1675 hl (by decide) rfl (fun ls hl => ?_)
  refine lv_aload_n hx hb dL_law_1677 rfl (lv_at hl 5 rfl) ?_
  have hMy : ok9 m9 7 y := by obtain ⟨-, -, ⟨am, hM⟩, -⟩ := hS2; exact hM.1
  have hth : f_X5_thrown m9 y = some c1 := by
    unfold f_X5_thrown
    rw [getI_ok hMy, obs, ht1]
  refine r_callVZ (ci := 7) hx hb hml hown hts hE hA9 hW hl.1 (k_X5_thrown l hsl G (LA s) m9 y _ hth) gL_law_X5_thrown rfl hMy (by decide) rfl (by decide +kernel) (n := 0) rfl ⟨by decide, by decide, (show cells + 1 + 0 + 0 ≤ 603072 by omega), (show slots + 6 + 0 + 0 ≤ 7194730 by omega)⟩ (Nat.le_of_ble_eq_true rfl) dL_law_1678 rfl (fun e9 m9 hp => by cases hp.1) (fun v3 m8 H locs hp hW9b => ?_)
  obtain ⟨h1, h2⟩ := hp
  cases h1
  subst h2
  have hW := hW9b
  refine W.widen (k := cells + 20) (n := slots + 200) (show cells + 1 + 0 + 0 ≤ cells + 20 by omega) (show slots + 6 + 0 + 0 ≤ slots + 200 by omega) ?_
  refine W.eq (g2 := F0 m 1681 ls [.int c1]) rfl ?_
  refine lv_iload hx hb dL_law_1681 (lv_at hl 1 rfl) ?_
  refine lv_icmp_eq (tgt := 1688) hx hb dL_law_1683 (by decide) (fun _ => ?_) (fun hc => absurd rfl hc)
  refine lv_iload hx hb dL_law_1688 (lv_at hl 1 rfl) ?_
  refine lv_if_ne (tgt := 1705) hx hb dL_law_1690 (by decide) (fun _ => ?_) (fun hc0 => ?_)
  · refine lv_goto (tgt := 2610) hx hb dL_law_1705 (by decide) ?_
    exact K _ _ _ _ _ hS2 hW (lv_sub hl [2, 3, 4, 5, 6, 7] rfl)
  · have hq := hq1 hc0
    have hOO := hS2.2.2.2
    refine lv_aload_n hx hb dL_law_1693 rfl (lv_at hl 4 rfl) ?_
    refine lv_iconst (v := 0) hx hb dL_law_1694 (by decide) ?_
    refine r_lldK hx hb hE.1 hW (lld_ok hOO.1.1 hOO.1.2) dL_law_1695 ?_
    rw [hq]
    refine lv_iload hx hb dL_law_1696 (lv_at hl 0 rfl) ?_
    refine lv_i2l hx hb dL_law_1698 rfl ?_
    refine r_lcmpE hx hb dL_law_1699 ?_
    refine lv_if_eq (tgt := 1705) hx hb dL_law_1700 (by decide) (fun _ => ?_) (fun hc => absurd rfl hc)
    refine lv_goto (tgt := 2610) hx hb dL_law_1705 (by decide) ?_
    exact K _ _ _ _ _ hS2 hW (lv_sub hl [2, 3, 4, 5, 6, 7] rfl)
set_option maxHeartbeats 1000000 in
theorem cs_setCue {p : Program} {l : Launch} {e : Env} {s : State} {m : MethodId} {below : List Frame} {meth : Method} {c : Code} {b L : Nat} {xs : Nat → Int32} {G : GG} {Q : State → Prop} (C : LC p l s m c b L xs G) {i : Nat} (hi : 7 * i + 7 ≤ L) {x y out od cells slots : Nat} {μ : Mem} {S : SS} {H : Heap} {locs : List Loc} {ls : Array Slot} (hS : Sm μ x y out od S) (hW : MW G (LA s) μ s.heap H locs) (hl : lv_has ls 9 [(5, .int (nI (7 * i))), (4, .ref od), (3, .ref out), (2, .ref y), (1, .ref x), (0, .ref b)]) (hR : cells + 20 ≤ 603072 ∧ slots + 200 ≤ 7194730) (K : Nx p l e s m below meth c b cells slots Q G x y out od i) :
    W p l e room_1 s m #[Value.ref b] below meth c H locs cells slots Q (F0 m 1708 ls []) := by
  obtain ⟨hx, hb, hml, hown, hts, hE, hX, hbl, hsl, hL⟩ := C
  have hA9 : ∀ q, s.heap.size ≤ q → LA s q := fun _ h => h
  have hbA : ¬ LA s b := Nat.not_le.mpr hbl
  have hin1 : vp_in (nI (7 * i) + 1) L := by rw [show nI (7 * i) + 1 = nI (7 * i + 1) from nI_add (7 * i) 1]; exact vp_in_nI (by omega) (by omega)
  refine lv_aload_n hx hb dL_law_1708 rfl (lv_at hl 4 rfl) ?_
  refine lv_aload_n hx hb dL_law_1709 rfl (lv_at hl 5 rfl) ?_
  refine lv_iload hx hb dL_law_1710 (lv_at hl 0 rfl) ?_
  refine lv_iconst (v := 1) hx hb dL_law_1712 (by decide) ?_
  refine lv_iadd hx hb dL_law_1713 ?_
  refine va_sld hx hb hX hbl hbA hW.2 hin1 dL_law_1714 ?_
  refine lv_aload_n hx hb dL_law_1715 rfl (lv_at hl 2 rfl) ?_
  obtain ⟨P1, hO1, hP1⟩ := w_setCue l hsl G (LA s) hS (xs (nI (7 * i) + 1).toNatClampNeg)
  refine r_callSZ hx hb hml hown hts hE hA9 hW hl.1 hO1 gL_law_L_setCue rfl (by decide +kernel) (n := 3) rfl ⟨by decide, by decide, (show cells + 1 ≤ 603072 by omega), (show slots + 6 ≤ 7194730 by omega)⟩ (Nat.le_of_ble_eq_true rfl) dL_law_1716 rfl (fun e9 m9 hp => by obtain ⟨c1, b1, m2, S2, h1, -⟩ := hP1 _ _ hp; cases h1) (fun v1 m1 H locs hp hW => ?_)
  obtain ⟨c1, b1, m2, S2, h1, hy1, hf1, ht1, hq1, hS2⟩ := hP1 _ _ hp
  cases h1
  refine W.eq (g2 := F0 m 1719 ls [.int c1]) rfl ?_
  refine lv_istore (lv' := [(6, .int c1), (5, .int (nI (7 * i))), (4, .ref od), (3, .ref out), (2, .ref y), (1, .ref x), (0, .ref b)]) hx hb dL_law_1719 hl (by decide) rfl (fun ls hl => ?_)
  refine lv_aload_n hx hb dL_law_1721 rfl (lv_at hl 4 rfl) ?_
  refine lv_aload_n hx hb dL_law_1722 rfl (lv_at hl 6 rfl) ?_
  refine lv_iload hx hb dL_law_1723 (lv_at hl 1 rfl) ?_
  refine lv_iconst (v := 1) hx hb dL_law_1725 (by decide) ?_
  refine lv_iadd hx hb dL_law_1726 ?_
  refine va_sld hx hb hX hbl hbA hW.2 hin1 dL_law_1727 ?_
  refine r_callVZ (ci := 7) hx hb hml hown hts hE hA9 hW hl.1 (k_X5_setCue l hsl G (LA s) m1 y (xs (nI (7 * i) + 1).toNatClampNeg) _ hf1) gL_law_X5_setCue rfl hy1 (by decide) rfl (by decide +kernel) (n := 1) rfl ⟨by decide, by decide, (show cells + 1 + 0 ≤ 603072 by omega), (show slots + 6 + 0 ≤ 7194730 by omega)⟩ (Nat.le_of_ble_eq_true rfl) dL_law_1728 rfl (fun e9 m9 hp => by cases hp.1) (fun v2 m9 H locs hp hW9a => ?_)
  obtain ⟨h1, h2⟩ := hp
  cases h1
  replace h2 : m9 = m2 := h2
  subst h2
  have hW := hW9a
  refine W.eq (g2 := F0 m 1731 ls [.int b1]) rfl ?_
  refine lv_istore (lv' := [(7, .int b1), (6, .int c1), (5, .int (nI (7 * i))), (4, .ref od), (3, .ref out), (2, .ref y), (1, .ref x), (0, .ref b)]) hx hb dL_law_1731 hl (by decide) rfl (fun ls hl => ?_)
  refine lv_aload_n hx hb dL_law_1733 rfl (lv_at hl 5 rfl) ?_
  have hMy : ok9 m9 7 y := by obtain ⟨-, -, ⟨am, hM⟩, -⟩ := hS2; exact hM.1
  have hth : f_X5_thrown m9 y = some c1 := by
    unfold f_X5_thrown
    rw [getI_ok hMy, obs, ht1]
  refine r_callVZ (ci := 7) hx hb hml hown hts hE hA9 hW hl.1 (k_X5_thrown l hsl G (LA s) m9 y _ hth) gL_law_X5_thrown rfl hMy (by decide) rfl (by decide +kernel) (n := 0) rfl ⟨by decide, by decide, (show cells + 1 + 0 + 0 ≤ 603072 by omega), (show slots + 6 + 0 + 0 ≤ 7194730 by omega)⟩ (Nat.le_of_ble_eq_true rfl) dL_law_1734 rfl (fun e9 m9 hp => by cases hp.1) (fun v3 m8 H locs hp hW9b => ?_)
  obtain ⟨h1, h2⟩ := hp
  cases h1
  subst h2
  have hW := hW9b
  refine W.widen (k := cells + 20) (n := slots + 200) (show cells + 1 + 0 + 0 ≤ cells + 20 by omega) (show slots + 6 + 0 + 0 ≤ slots + 200 by omega) ?_
  refine W.eq (g2 := F0 m 1737 ls [.int c1]) rfl ?_
  refine lv_iload hx hb dL_law_1737 (lv_at hl 1 rfl) ?_
  refine lv_icmp_eq (tgt := 1744) hx hb dL_law_1739 (by decide) (fun _ => ?_) (fun hc => absurd rfl hc)
  refine lv_iload hx hb dL_law_1744 (lv_at hl 1 rfl) ?_
  refine lv_if_ne (tgt := 1761) hx hb dL_law_1746 (by decide) (fun _ => ?_) (fun hc0 => ?_)
  · refine lv_goto (tgt := 2610) hx hb dL_law_1761 (by decide) ?_
    exact K _ _ _ _ _ hS2 hW (lv_sub hl [2, 3, 4, 5, 6, 7] rfl)
  · have hq := hq1 hc0
    have hOO := hS2.2.2.2
    refine lv_aload_n hx hb dL_law_1749 rfl (lv_at hl 4 rfl) ?_
    refine lv_iconst (v := 0) hx hb dL_law_1750 (by decide) ?_
    refine r_lldK hx hb hE.1 hW (lld_ok hOO.1.1 hOO.1.2) dL_law_1751 ?_
    rw [hq]
    refine lv_iload hx hb dL_law_1752 (lv_at hl 0 rfl) ?_
    refine lv_i2l hx hb dL_law_1754 rfl ?_
    refine r_lcmpE hx hb dL_law_1755 ?_
    refine lv_if_eq (tgt := 1761) hx hb dL_law_1756 (by decide) (fun _ => ?_) (fun hc => absurd rfl hc)
    refine lv_goto (tgt := 2610) hx hb dL_law_1761 (by decide) ?_
    exact K _ _ _ _ _ hS2 hW (lv_sub hl [2, 3, 4, 5, 6, 7] rfl)
set_option maxHeartbeats 1000000 in
theorem cs_hardTurns {p : Program} {l : Launch} {e : Env} {s : State} {m : MethodId} {below : List Frame} {meth : Method} {c : Code} {b L : Nat} {xs : Nat → Int32} {G : GG} {Q : State → Prop} (C : LC p l s m c b L xs G) {i : Nat} (hi : 7 * i + 7 ≤ L) {x y out od cells slots : Nat} {μ : Mem} {S : SS} {H : Heap} {locs : List Loc} {ls : Array Slot} (hS : Sm μ x y out od S) (hW : MW G (LA s) μ s.heap H locs) (hl : lv_has ls 9 [(5, .int (nI (7 * i))), (4, .ref od), (3, .ref out), (2, .ref y), (1, .ref x), (0, .ref b)]) (hR : cells + 20 ≤ 603072 ∧ slots + 200 ≤ 7194730) (K : Nx p l e s m below meth c b cells slots Q G x y out od i) :
    W p l e room_1 s m #[Value.ref b] below meth c H locs cells slots Q (F0 m 1764 ls []) := by
  obtain ⟨hx, hb, hml, hown, hts, hE, hX, hbl, hsl, hL⟩ := C
  have hA9 : ∀ q, s.heap.size ≤ q → LA s q := fun _ h => h
  have hbA : ¬ LA s b := Nat.not_le.mpr hbl
  have hin1 : vp_in (nI (7 * i) + 1) L := by rw [show nI (7 * i) + 1 = nI (7 * i + 1) from nI_add (7 * i) 1]; exact vp_in_nI (by omega) (by omega)
  refine lv_aload_n hx hb dL_law_1764 rfl (lv_at hl 4 rfl) ?_
  refine lv_aload_n hx hb dL_law_1765 rfl (lv_at hl 5 rfl) ?_
  refine lv_iload hx hb dL_law_1766 (lv_at hl 0 rfl) ?_
  refine lv_iconst (v := 1) hx hb dL_law_1768 (by decide) ?_
  refine lv_iadd hx hb dL_law_1769 ?_
  refine va_sld hx hb hX hbl hbA hW.2 hin1 dL_law_1770 ?_
  refine lv_aload_n hx hb dL_law_1771 rfl (lv_at hl 2 rfl) ?_
  obtain ⟨P1, hO1, hP1⟩ := w_hardTurns l hsl G (LA s) hS (xs (nI (7 * i) + 1).toNatClampNeg)
  refine r_callSZ hx hb hml hown hts hE hA9 hW hl.1 hO1 gL_law_L_hardTurns rfl (by decide +kernel) (n := 3) rfl ⟨by decide, by decide, (show cells + 1 ≤ 603072 by omega), (show slots + 6 ≤ 7194730 by omega)⟩ (Nat.le_of_ble_eq_true rfl) dL_law_1772 rfl (fun e9 m9 hp => by obtain ⟨c1, b1, m2, S2, h1, -⟩ := hP1 _ _ hp; cases h1) (fun v1 m1 H locs hp hW => ?_)
  obtain ⟨c1, b1, m2, S2, h1, hy1, hf1, ht1, hq1, hS2⟩ := hP1 _ _ hp
  cases h1
  refine W.eq (g2 := F0 m 1775 ls [.int c1]) rfl ?_
  refine lv_istore (lv' := [(6, .int c1), (5, .int (nI (7 * i))), (4, .ref od), (3, .ref out), (2, .ref y), (1, .ref x), (0, .ref b)]) hx hb dL_law_1775 hl (by decide) rfl (fun ls hl => ?_)
  refine lv_aload_n hx hb dL_law_1777 rfl (lv_at hl 4 rfl) ?_
  refine lv_aload_n hx hb dL_law_1778 rfl (lv_at hl 6 rfl) ?_
  refine lv_iload hx hb dL_law_1779 (lv_at hl 1 rfl) ?_
  refine lv_iconst (v := 1) hx hb dL_law_1781 (by decide) ?_
  refine lv_iadd hx hb dL_law_1782 ?_
  refine va_sld hx hb hX hbl hbA hW.2 hin1 dL_law_1783 ?_
  refine r_callVZ (ci := 7) hx hb hml hown hts hE hA9 hW hl.1 (k_X5_hardTurns l hsl G (LA s) m1 y (xs (nI (7 * i) + 1).toNatClampNeg) _ hf1) gL_law_X5_hardTurns rfl hy1 (by decide) rfl (by decide +kernel) (n := 1) rfl ⟨by decide, by decide, (show cells + 1 + 0 ≤ 603072 by omega), (show slots + 6 + 0 ≤ 7194730 by omega)⟩ (Nat.le_of_ble_eq_true rfl) dL_law_1784 rfl (fun e9 m9 hp => by cases hp.1) (fun v2 m9 H locs hp hW9a => ?_)
  obtain ⟨h1, h2⟩ := hp
  cases h1
  replace h2 : m9 = m2 := h2
  subst h2
  have hW := hW9a
  refine W.eq (g2 := F0 m 1787 ls [.int b1]) rfl ?_
  refine lv_istore (lv' := [(7, .int b1), (6, .int c1), (5, .int (nI (7 * i))), (4, .ref od), (3, .ref out), (2, .ref y), (1, .ref x), (0, .ref b)]) hx hb dL_law_1787 hl (by decide) rfl (fun ls hl => ?_)
  refine lv_aload_n hx hb dL_law_1789 rfl (lv_at hl 5 rfl) ?_
  have hMy : ok9 m9 7 y := by obtain ⟨-, -, ⟨am, hM⟩, -⟩ := hS2; exact hM.1
  have hth : f_X5_thrown m9 y = some c1 := by
    unfold f_X5_thrown
    rw [getI_ok hMy, obs, ht1]
  refine r_callVZ (ci := 7) hx hb hml hown hts hE hA9 hW hl.1 (k_X5_thrown l hsl G (LA s) m9 y _ hth) gL_law_X5_thrown rfl hMy (by decide) rfl (by decide +kernel) (n := 0) rfl ⟨by decide, by decide, (show cells + 1 + 0 + 0 ≤ 603072 by omega), (show slots + 6 + 0 + 0 ≤ 7194730 by omega)⟩ (Nat.le_of_ble_eq_true rfl) dL_law_1790 rfl (fun e9 m9 hp => by cases hp.1) (fun v3 m8 H locs hp hW9b => ?_)
  obtain ⟨h1, h2⟩ := hp
  cases h1
  subst h2
  have hW := hW9b
  refine W.widen (k := cells + 20) (n := slots + 200) (show cells + 1 + 0 + 0 ≤ cells + 20 by omega) (show slots + 6 + 0 + 0 ≤ slots + 200 by omega) ?_
  refine W.eq (g2 := F0 m 1793 ls [.int c1]) rfl ?_
  refine lv_iload hx hb dL_law_1793 (lv_at hl 1 rfl) ?_
  refine lv_icmp_eq (tgt := 1800) hx hb dL_law_1795 (by decide) (fun _ => ?_) (fun hc => absurd rfl hc)
  refine lv_iload hx hb dL_law_1800 (lv_at hl 1 rfl) ?_
  refine lv_if_ne (tgt := 1817) hx hb dL_law_1802 (by decide) (fun _ => ?_) (fun hc0 => ?_)
  · refine lv_goto (tgt := 2610) hx hb dL_law_1817 (by decide) ?_
    exact K _ _ _ _ _ hS2 hW (lv_sub hl [2, 3, 4, 5, 6, 7] rfl)
  · have hq := hq1 hc0
    have hOO := hS2.2.2.2
    refine lv_aload_n hx hb dL_law_1805 rfl (lv_at hl 4 rfl) ?_
    refine lv_iconst (v := 0) hx hb dL_law_1806 (by decide) ?_
    refine r_lldK hx hb hE.1 hW (lld_ok hOO.1.1 hOO.1.2) dL_law_1807 ?_
    rw [hq]
    refine lv_iload hx hb dL_law_1808 (lv_at hl 0 rfl) ?_
    refine lv_i2l hx hb dL_law_1810 rfl ?_
    refine r_lcmpE hx hb dL_law_1811 ?_
    refine lv_if_eq (tgt := 1817) hx hb dL_law_1812 (by decide) (fun _ => ?_) (fun hc => absurd rfl hc)
    refine lv_goto (tgt := 2610) hx hb dL_law_1817 (by decide) ?_
    exact K _ _ _ _ _ hS2 hW (lv_sub hl [2, 3, 4, 5, 6, 7] rfl)
set_option maxHeartbeats 1000000 in
theorem cs_hardTurnsByTrying {p : Program} {l : Launch} {e : Env} {s : State} {m : MethodId} {below : List Frame} {meth : Method} {c : Code} {b L : Nat} {xs : Nat → Int32} {G : GG} {Q : State → Prop} (C : LC p l s m c b L xs G) {i : Nat} (hi : 7 * i + 7 ≤ L) {x y out od cells slots : Nat} {μ : Mem} {S : SS} {H : Heap} {locs : List Loc} {ls : Array Slot} (hS : Sm μ x y out od S) (hW : MW G (LA s) μ s.heap H locs) (hl : lv_has ls 9 [(5, .int (nI (7 * i))), (4, .ref od), (3, .ref out), (2, .ref y), (1, .ref x), (0, .ref b)]) (hR : cells + 20 ≤ 603072 ∧ slots + 200 ≤ 7194730) (K : Nx p l e s m below meth c b cells slots Q G x y out od i) :
    W p l e room_1 s m #[Value.ref b] below meth c H locs cells slots Q (F0 m 1820 ls []) := by
  obtain ⟨hx, hb, hml, hown, hts, hE, hX, hbl, hsl, hL⟩ := C
  have hA9 : ∀ q, s.heap.size ≤ q → LA s q := fun _ h => h
  have hbA : ¬ LA s b := Nat.not_le.mpr hbl
  have hin1 : vp_in (nI (7 * i) + 1) L := by rw [show nI (7 * i) + 1 = nI (7 * i + 1) from nI_add (7 * i) 1]; exact vp_in_nI (by omega) (by omega)
  refine lv_aload_n hx hb dL_law_1820 rfl (lv_at hl 4 rfl) ?_
  refine lv_aload_n hx hb dL_law_1821 rfl (lv_at hl 5 rfl) ?_
  refine lv_iload hx hb dL_law_1822 (lv_at hl 0 rfl) ?_
  refine lv_iconst (v := 1) hx hb dL_law_1824 (by decide) ?_
  refine lv_iadd hx hb dL_law_1825 ?_
  refine va_sld hx hb hX hbl hbA hW.2 hin1 dL_law_1826 ?_
  refine lv_aload_n hx hb dL_law_1827 rfl (lv_at hl 2 rfl) ?_
  obtain ⟨P1, hO1, hP1⟩ := w_hardTurnsByTrying l hsl G (LA s) hS (xs (nI (7 * i) + 1).toNatClampNeg)
  refine r_callSZ hx hb hml hown hts hE hA9 hW hl.1 hO1 gL_law_L_hardTurnsByTrying rfl (by decide +kernel) (n := 3) rfl ⟨by decide, by decide, (show cells + 1 ≤ 603072 by omega), (show slots + 6 ≤ 7194730 by omega)⟩ (Nat.le_of_ble_eq_true rfl) dL_law_1828 rfl (fun e9 m9 hp => by obtain ⟨c1, b1, m2, S2, h1, -⟩ := hP1 _ _ hp; cases h1) (fun v1 m1 H locs hp hW => ?_)
  obtain ⟨c1, b1, m2, S2, h1, hy1, hf1, ht1, hq1, hS2⟩ := hP1 _ _ hp
  cases h1
  refine W.eq (g2 := F0 m 1831 ls [.int c1]) rfl ?_
  refine lv_istore (lv' := [(6, .int c1), (5, .int (nI (7 * i))), (4, .ref od), (3, .ref out), (2, .ref y), (1, .ref x), (0, .ref b)]) hx hb dL_law_1831 hl (by decide) rfl (fun ls hl => ?_)
  refine lv_aload_n hx hb dL_law_1833 rfl (lv_at hl 4 rfl) ?_
  refine lv_aload_n hx hb dL_law_1834 rfl (lv_at hl 6 rfl) ?_
  refine lv_iload hx hb dL_law_1835 (lv_at hl 1 rfl) ?_
  refine lv_iconst (v := 1) hx hb dL_law_1837 (by decide) ?_
  refine lv_iadd hx hb dL_law_1838 ?_
  refine va_sld hx hb hX hbl hbA hW.2 hin1 dL_law_1839 ?_
  refine r_callVZ (ci := 7) hx hb hml hown hts hE hA9 hW hl.1 (k_X5_hardTurnsByTrying l hsl G (LA s) m1 y (xs (nI (7 * i) + 1).toNatClampNeg) _ hf1) gL_law_X5_hardTurnsByTrying rfl hy1 (by decide) rfl (by decide +kernel) (n := 1) rfl ⟨by decide, by decide, (show cells + 1 + 0 ≤ 603072 by omega), (show slots + 6 + 0 ≤ 7194730 by omega)⟩ (Nat.le_of_ble_eq_true rfl) dL_law_1840 rfl (fun e9 m9 hp => by cases hp.1) (fun v2 m9 H locs hp hW9a => ?_)
  obtain ⟨h1, h2⟩ := hp
  cases h1
  replace h2 : m9 = m2 := h2
  subst h2
  have hW := hW9a
  refine W.eq (g2 := F0 m 1843 ls [.int b1]) rfl ?_
  refine lv_istore (lv' := [(7, .int b1), (6, .int c1), (5, .int (nI (7 * i))), (4, .ref od), (3, .ref out), (2, .ref y), (1, .ref x), (0, .ref b)]) hx hb dL_law_1843 hl (by decide) rfl (fun ls hl => ?_)
  refine lv_aload_n hx hb dL_law_1845 rfl (lv_at hl 5 rfl) ?_
  have hMy : ok9 m9 7 y := by obtain ⟨-, -, ⟨am, hM⟩, -⟩ := hS2; exact hM.1
  have hth : f_X5_thrown m9 y = some c1 := by
    unfold f_X5_thrown
    rw [getI_ok hMy, obs, ht1]
  refine r_callVZ (ci := 7) hx hb hml hown hts hE hA9 hW hl.1 (k_X5_thrown l hsl G (LA s) m9 y _ hth) gL_law_X5_thrown rfl hMy (by decide) rfl (by decide +kernel) (n := 0) rfl ⟨by decide, by decide, (show cells + 1 + 0 + 0 ≤ 603072 by omega), (show slots + 6 + 0 + 0 ≤ 7194730 by omega)⟩ (Nat.le_of_ble_eq_true rfl) dL_law_1846 rfl (fun e9 m9 hp => by cases hp.1) (fun v3 m8 H locs hp hW9b => ?_)
  obtain ⟨h1, h2⟩ := hp
  cases h1
  subst h2
  have hW := hW9b
  refine W.widen (k := cells + 20) (n := slots + 200) (show cells + 1 + 0 + 0 ≤ cells + 20 by omega) (show slots + 6 + 0 + 0 ≤ slots + 200 by omega) ?_
  refine W.eq (g2 := F0 m 1849 ls [.int c1]) rfl ?_
  refine lv_iload hx hb dL_law_1849 (lv_at hl 1 rfl) ?_
  refine lv_icmp_eq (tgt := 1856) hx hb dL_law_1851 (by decide) (fun _ => ?_) (fun hc => absurd rfl hc)
  refine lv_iload hx hb dL_law_1856 (lv_at hl 1 rfl) ?_
  refine lv_if_ne (tgt := 1873) hx hb dL_law_1858 (by decide) (fun _ => ?_) (fun hc0 => ?_)
  · refine lv_goto (tgt := 2610) hx hb dL_law_1873 (by decide) ?_
    exact K _ _ _ _ _ hS2 hW (lv_sub hl [2, 3, 4, 5, 6, 7] rfl)
  · have hq := hq1 hc0
    have hOO := hS2.2.2.2
    refine lv_aload_n hx hb dL_law_1861 rfl (lv_at hl 4 rfl) ?_
    refine lv_iconst (v := 0) hx hb dL_law_1862 (by decide) ?_
    refine r_lldK hx hb hE.1 hW (lld_ok hOO.1.1 hOO.1.2) dL_law_1863 ?_
    rw [hq]
    refine lv_iload hx hb dL_law_1864 (lv_at hl 0 rfl) ?_
    refine lv_i2l hx hb dL_law_1866 rfl ?_
    refine r_lcmpE hx hb dL_law_1867 ?_
    refine lv_if_eq (tgt := 1873) hx hb dL_law_1868 (by decide) (fun _ => ?_) (fun hc => absurd rfl hc)
    refine lv_goto (tgt := 2610) hx hb dL_law_1873 (by decide) ?_
    exact K _ _ _ _ _ hS2 hW (lv_sub hl [2, 3, 4, 5, 6, 7] rfl)
set_option maxHeartbeats 1000000 in
theorem cs_pages {p : Program} {l : Launch} {e : Env} {s : State} {m : MethodId} {below : List Frame} {meth : Method} {c : Code} {b L : Nat} {xs : Nat → Int32} {G : GG} {Q : State → Prop} (C : LC p l s m c b L xs G) {i : Nat} (hi : 7 * i + 7 ≤ L) {x y out od cells slots : Nat} {μ : Mem} {S : SS} {H : Heap} {locs : List Loc} {ls : Array Slot} (hS : Sm μ x y out od S) (hW : MW G (LA s) μ s.heap H locs) (hl : lv_has ls 9 [(5, .int (nI (7 * i))), (4, .ref od), (3, .ref out), (2, .ref y), (1, .ref x), (0, .ref b)]) (hR : cells + 20 ≤ 603072 ∧ slots + 200 ≤ 7194730) (K : Nx p l e s m below meth c b cells slots Q G x y out od i) :
    W p l e room_1 s m #[Value.ref b] below meth c H locs cells slots Q (F0 m 1876 ls []) := by
  obtain ⟨hx, hb, hml, hown, hts, hE, hX, hbl, hsl, hL⟩ := C
  have hA9 : ∀ q, s.heap.size ≤ q → LA s q := fun _ h => h
  have hbA : ¬ LA s b := Nat.not_le.mpr hbl
  have hin1 : vp_in (nI (7 * i) + 1) L := by rw [show nI (7 * i) + 1 = nI (7 * i + 1) from nI_add (7 * i) 1]; exact vp_in_nI (by omega) (by omega)
  refine lv_aload_n hx hb dL_law_1876 rfl (lv_at hl 4 rfl) ?_
  refine lv_aload_n hx hb dL_law_1877 rfl (lv_at hl 5 rfl) ?_
  refine lv_iload hx hb dL_law_1878 (lv_at hl 0 rfl) ?_
  refine lv_iconst (v := 1) hx hb dL_law_1880 (by decide) ?_
  refine lv_iadd hx hb dL_law_1881 ?_
  refine va_sld hx hb hX hbl hbA hW.2 hin1 dL_law_1882 ?_
  refine lv_aload_n hx hb dL_law_1883 rfl (lv_at hl 2 rfl) ?_
  obtain ⟨P1, hO1, hP1⟩ := w_pages l hsl G (LA s) hS (xs (nI (7 * i) + 1).toNatClampNeg)
  refine r_callSZ hx hb hml hown hts hE hA9 hW hl.1 hO1 gL_law_L_pages rfl (by decide +kernel) (n := 3) rfl ⟨by decide, by decide, (show cells + 1 ≤ 603072 by omega), (show slots + 6 ≤ 7194730 by omega)⟩ (Nat.le_of_ble_eq_true rfl) dL_law_1884 rfl (fun e9 m9 hp => by obtain ⟨c1, b1, m2, S2, h1, -⟩ := hP1 _ _ hp; cases h1) (fun v1 m1 H locs hp hW => ?_)
  obtain ⟨c1, b1, m2, S2, h1, hy1, hf1, ht1, hq1, hS2⟩ := hP1 _ _ hp
  cases h1
  refine W.eq (g2 := F0 m 1887 ls [.int c1]) rfl ?_
  refine lv_istore (lv' := [(6, .int c1), (5, .int (nI (7 * i))), (4, .ref od), (3, .ref out), (2, .ref y), (1, .ref x), (0, .ref b)]) hx hb dL_law_1887 hl (by decide) rfl (fun ls hl => ?_)
  refine lv_aload_n hx hb dL_law_1889 rfl (lv_at hl 4 rfl) ?_
  refine lv_aload_n hx hb dL_law_1890 rfl (lv_at hl 6 rfl) ?_
  refine lv_iload hx hb dL_law_1891 (lv_at hl 1 rfl) ?_
  refine lv_iconst (v := 1) hx hb dL_law_1893 (by decide) ?_
  refine lv_iadd hx hb dL_law_1894 ?_
  refine va_sld hx hb hX hbl hbA hW.2 hin1 dL_law_1895 ?_
  refine r_callVZ (ci := 7) hx hb hml hown hts hE hA9 hW hl.1 (k_X5_pages l hsl G (LA s) m1 y (xs (nI (7 * i) + 1).toNatClampNeg) _ hf1) gL_law_X5_pages rfl hy1 (by decide) rfl (by decide +kernel) (n := 1) rfl ⟨by decide, by decide, (show cells + 1 + 0 ≤ 603072 by omega), (show slots + 6 + 0 ≤ 7194730 by omega)⟩ (Nat.le_of_ble_eq_true rfl) dL_law_1896 rfl (fun e9 m9 hp => by cases hp.1) (fun v2 m9 H locs hp hW9a => ?_)
  obtain ⟨h1, h2⟩ := hp
  cases h1
  replace h2 : m9 = m2 := h2
  subst h2
  have hW := hW9a
  refine W.eq (g2 := F0 m 1899 ls [.int b1]) rfl ?_
  refine lv_istore (lv' := [(7, .int b1), (6, .int c1), (5, .int (nI (7 * i))), (4, .ref od), (3, .ref out), (2, .ref y), (1, .ref x), (0, .ref b)]) hx hb dL_law_1899 hl (by decide) rfl (fun ls hl => ?_)
  refine lv_aload_n hx hb dL_law_1901 rfl (lv_at hl 5 rfl) ?_
  have hMy : ok9 m9 7 y := by obtain ⟨-, -, ⟨am, hM⟩, -⟩ := hS2; exact hM.1
  have hth : f_X5_thrown m9 y = some c1 := by
    unfold f_X5_thrown
    rw [getI_ok hMy, obs, ht1]
  refine r_callVZ (ci := 7) hx hb hml hown hts hE hA9 hW hl.1 (k_X5_thrown l hsl G (LA s) m9 y _ hth) gL_law_X5_thrown rfl hMy (by decide) rfl (by decide +kernel) (n := 0) rfl ⟨by decide, by decide, (show cells + 1 + 0 + 0 ≤ 603072 by omega), (show slots + 6 + 0 + 0 ≤ 7194730 by omega)⟩ (Nat.le_of_ble_eq_true rfl) dL_law_1902 rfl (fun e9 m9 hp => by cases hp.1) (fun v3 m8 H locs hp hW9b => ?_)
  obtain ⟨h1, h2⟩ := hp
  cases h1
  subst h2
  have hW := hW9b
  refine W.widen (k := cells + 20) (n := slots + 200) (show cells + 1 + 0 + 0 ≤ cells + 20 by omega) (show slots + 6 + 0 + 0 ≤ slots + 200 by omega) ?_
  refine W.eq (g2 := F0 m 1905 ls [.int c1]) rfl ?_
  refine lv_iload hx hb dL_law_1905 (lv_at hl 1 rfl) ?_
  refine lv_icmp_eq (tgt := 1912) hx hb dL_law_1907 (by decide) (fun _ => ?_) (fun hc => absurd rfl hc)
  refine lv_iload hx hb dL_law_1912 (lv_at hl 1 rfl) ?_
  refine lv_if_ne (tgt := 1929) hx hb dL_law_1914 (by decide) (fun _ => ?_) (fun hc0 => ?_)
  · refine lv_goto (tgt := 2610) hx hb dL_law_1929 (by decide) ?_
    exact K _ _ _ _ _ hS2 hW (lv_sub hl [2, 3, 4, 5, 6, 7] rfl)
  · have hq := hq1 hc0
    have hOO := hS2.2.2.2
    refine lv_aload_n hx hb dL_law_1917 rfl (lv_at hl 4 rfl) ?_
    refine lv_iconst (v := 0) hx hb dL_law_1918 (by decide) ?_
    refine r_lldK hx hb hE.1 hW (lld_ok hOO.1.1 hOO.1.2) dL_law_1919 ?_
    rw [hq]
    refine lv_iload hx hb dL_law_1920 (lv_at hl 0 rfl) ?_
    refine lv_i2l hx hb dL_law_1922 rfl ?_
    refine r_lcmpE hx hb dL_law_1923 ?_
    refine lv_if_eq (tgt := 1929) hx hb dL_law_1924 (by decide) (fun _ => ?_) (fun hc => absurd rfl hc)
    refine lv_goto (tgt := 2610) hx hb dL_law_1929 (by decide) ?_
    exact K _ _ _ _ _ hS2 hW (lv_sub hl [2, 3, 4, 5, 6, 7] rfl)
set_option maxHeartbeats 1000000 in
theorem cs_pageEnd {p : Program} {l : Launch} {e : Env} {s : State} {m : MethodId} {below : List Frame} {meth : Method} {c : Code} {b L : Nat} {xs : Nat → Int32} {G : GG} {Q : State → Prop} (C : LC p l s m c b L xs G) {i : Nat} (hi : 7 * i + 7 ≤ L) {x y out od cells slots : Nat} {μ : Mem} {S : SS} {H : Heap} {locs : List Loc} {ls : Array Slot} (hS : Sm μ x y out od S) (hW : MW G (LA s) μ s.heap H locs) (hl : lv_has ls 9 [(5, .int (nI (7 * i))), (4, .ref od), (3, .ref out), (2, .ref y), (1, .ref x), (0, .ref b)]) (hR : cells + 20 ≤ 603072 ∧ slots + 200 ≤ 7194730) (K : Nx p l e s m below meth c b cells slots Q G x y out od i) :
    W p l e room_1 s m #[Value.ref b] below meth c H locs cells slots Q (F0 m 1932 ls []) := by
  obtain ⟨hx, hb, hml, hown, hts, hE, hX, hbl, hsl, hL⟩ := C
  have hA9 : ∀ q, s.heap.size ≤ q → LA s q := fun _ h => h
  have hbA : ¬ LA s b := Nat.not_le.mpr hbl
  have hin1 : vp_in (nI (7 * i) + 1) L := by rw [show nI (7 * i) + 1 = nI (7 * i + 1) from nI_add (7 * i) 1]; exact vp_in_nI (by omega) (by omega)
  have hin2 : vp_in (nI (7 * i) + 2) L := by rw [show nI (7 * i) + 2 = nI (7 * i + 2) from nI_add (7 * i) 2]; exact vp_in_nI (by omega) (by omega)
  refine lv_aload_n hx hb dL_law_1932 rfl (lv_at hl 4 rfl) ?_
  refine lv_aload_n hx hb dL_law_1933 rfl (lv_at hl 5 rfl) ?_
  refine lv_iload hx hb dL_law_1934 (lv_at hl 0 rfl) ?_
  refine lv_iconst (v := 1) hx hb dL_law_1936 (by decide) ?_
  refine lv_iadd hx hb dL_law_1937 ?_
  refine va_sld hx hb hX hbl hbA hW.2 hin1 dL_law_1938 ?_
  refine lv_aload_n hx hb dL_law_1939 rfl (lv_at hl 5 rfl) ?_
  refine lv_iload hx hb dL_law_1940 (lv_at hl 0 rfl) ?_
  refine lv_iconst (v := 2) hx hb dL_law_1942 (by decide) ?_
  refine lv_iadd hx hb dL_law_1943 ?_
  refine va_sld hx hb hX hbl hbA hW.2 hin2 dL_law_1944 ?_
  refine lv_aload_n hx hb dL_law_1945 rfl (lv_at hl 2 rfl) ?_
  obtain ⟨P1, hO1, hP1⟩ := w_pageEnd l hsl G (LA s) hS (xs (nI (7 * i) + 1).toNatClampNeg) (xs (nI (7 * i) + 2).toNatClampNeg)
  refine r_callSZ hx hb hml hown hts hE hA9 hW hl.1 hO1 gL_law_L_pageEnd rfl (by decide +kernel) (n := 4) rfl ⟨by decide, by decide, (show cells + 2 ≤ 603072 by omega), (show slots + 12 ≤ 7194730 by omega)⟩ (Nat.le_of_ble_eq_true rfl) dL_law_1946 rfl (fun e9 m9 hp => by obtain ⟨c1, b1, m2, S2, h1, -⟩ := hP1 _ _ hp; cases h1) (fun v1 m1 H locs hp hW => ?_)
  obtain ⟨c1, b1, m2, S2, h1, hy1, hf1, ht1, hq1, hS2⟩ := hP1 _ _ hp
  cases h1
  refine W.eq (g2 := F0 m 1949 ls [.int c1]) rfl ?_
  refine lv_istore (lv' := [(6, .int c1), (5, .int (nI (7 * i))), (4, .ref od), (3, .ref out), (2, .ref y), (1, .ref x), (0, .ref b)]) hx hb dL_law_1949 hl (by decide) rfl (fun ls hl => ?_)
  refine lv_aload_n hx hb dL_law_1951 rfl (lv_at hl 4 rfl) ?_
  refine lv_aload_n hx hb dL_law_1952 rfl (lv_at hl 6 rfl) ?_
  refine lv_iload hx hb dL_law_1953 (lv_at hl 1 rfl) ?_
  refine lv_iconst (v := 1) hx hb dL_law_1955 (by decide) ?_
  refine lv_iadd hx hb dL_law_1956 ?_
  refine va_sld hx hb hX hbl hbA hW.2 hin1 dL_law_1957 ?_
  refine lv_aload_n hx hb dL_law_1958 rfl (lv_at hl 6 rfl) ?_
  refine lv_iload hx hb dL_law_1959 (lv_at hl 1 rfl) ?_
  refine lv_iconst (v := 2) hx hb dL_law_1961 (by decide) ?_
  refine lv_iadd hx hb dL_law_1962 ?_
  refine va_sld hx hb hX hbl hbA hW.2 hin2 dL_law_1963 ?_
  refine r_callVZ (ci := 7) hx hb hml hown hts hE hA9 hW hl.1 (k_X5_pageEnd l hsl G (LA s) m1 y (xs (nI (7 * i) + 1).toNatClampNeg) (xs (nI (7 * i) + 2).toNatClampNeg) _ hf1) gL_law_X5_pageEnd rfl hy1 (by decide) rfl (by decide +kernel) (n := 2) rfl ⟨by decide, by decide, (show cells + 2 + 0 ≤ 603072 by omega), (show slots + 12 + 0 ≤ 7194730 by omega)⟩ (Nat.le_of_ble_eq_true rfl) dL_law_1964 rfl (fun e9 m9 hp => by cases hp.1) (fun v2 m9 H locs hp hW9a => ?_)
  obtain ⟨h1, h2⟩ := hp
  cases h1
  replace h2 : m9 = m2 := h2
  subst h2
  have hW := hW9a
  refine W.eq (g2 := F0 m 1967 ls [.int b1]) rfl ?_
  refine lv_istore (lv' := [(7, .int b1), (6, .int c1), (5, .int (nI (7 * i))), (4, .ref od), (3, .ref out), (2, .ref y), (1, .ref x), (0, .ref b)]) hx hb dL_law_1967 hl (by decide) rfl (fun ls hl => ?_)
  refine lv_aload_n hx hb dL_law_1969 rfl (lv_at hl 5 rfl) ?_
  have hMy : ok9 m9 7 y := by obtain ⟨-, -, ⟨am, hM⟩, -⟩ := hS2; exact hM.1
  have hth : f_X5_thrown m9 y = some c1 := by
    unfold f_X5_thrown
    rw [getI_ok hMy, obs, ht1]
  refine r_callVZ (ci := 7) hx hb hml hown hts hE hA9 hW hl.1 (k_X5_thrown l hsl G (LA s) m9 y _ hth) gL_law_X5_thrown rfl hMy (by decide) rfl (by decide +kernel) (n := 0) rfl ⟨by decide, by decide, (show cells + 2 + 0 + 0 ≤ 603072 by omega), (show slots + 12 + 0 + 0 ≤ 7194730 by omega)⟩ (Nat.le_of_ble_eq_true rfl) dL_law_1970 rfl (fun e9 m9 hp => by cases hp.1) (fun v3 m8 H locs hp hW9b => ?_)
  obtain ⟨h1, h2⟩ := hp
  cases h1
  subst h2
  have hW := hW9b
  refine W.widen (k := cells + 20) (n := slots + 200) (show cells + 2 + 0 + 0 ≤ cells + 20 by omega) (show slots + 12 + 0 + 0 ≤ slots + 200 by omega) ?_
  refine W.eq (g2 := F0 m 1973 ls [.int c1]) rfl ?_
  refine lv_iload hx hb dL_law_1973 (lv_at hl 1 rfl) ?_
  refine lv_icmp_eq (tgt := 1980) hx hb dL_law_1975 (by decide) (fun _ => ?_) (fun hc => absurd rfl hc)
  refine lv_iload hx hb dL_law_1980 (lv_at hl 1 rfl) ?_
  refine lv_if_ne (tgt := 1997) hx hb dL_law_1982 (by decide) (fun _ => ?_) (fun hc0 => ?_)
  · refine lv_goto (tgt := 2610) hx hb dL_law_1997 (by decide) ?_
    exact K _ _ _ _ _ hS2 hW (lv_sub hl [2, 3, 4, 5, 6, 7] rfl)
  · have hq := hq1 hc0
    have hOO := hS2.2.2.2
    refine lv_aload_n hx hb dL_law_1985 rfl (lv_at hl 4 rfl) ?_
    refine lv_iconst (v := 0) hx hb dL_law_1986 (by decide) ?_
    refine r_lldK hx hb hE.1 hW (lld_ok hOO.1.1 hOO.1.2) dL_law_1987 ?_
    rw [hq]
    refine lv_iload hx hb dL_law_1988 (lv_at hl 0 rfl) ?_
    refine lv_i2l hx hb dL_law_1990 rfl ?_
    refine r_lcmpE hx hb dL_law_1991 ?_
    refine lv_if_eq (tgt := 1997) hx hb dL_law_1992 (by decide) (fun _ => ?_) (fun hc => absurd rfl hc)
    refine lv_goto (tgt := 2610) hx hb dL_law_1997 (by decide) ?_
    exact K _ _ _ _ _ hS2 hW (lv_sub hl [2, 3, 4, 5, 6, 7] rfl)
set_option maxHeartbeats 1000000 in
theorem cs_cuePart {p : Program} {l : Launch} {e : Env} {s : State} {m : MethodId} {below : List Frame} {meth : Method} {c : Code} {b L : Nat} {xs : Nat → Int32} {G : GG} {Q : State → Prop} (C : LC p l s m c b L xs G) {i : Nat} (hi : 7 * i + 7 ≤ L) {x y out od cells slots : Nat} {μ : Mem} {S : SS} {H : Heap} {locs : List Loc} {ls : Array Slot} (hS : Sm μ x y out od S) (hW : MW G (LA s) μ s.heap H locs) (hl : lv_has ls 9 [(5, .int (nI (7 * i))), (4, .ref od), (3, .ref out), (2, .ref y), (1, .ref x), (0, .ref b)]) (hR : cells + 20 ≤ 603072 ∧ slots + 200 ≤ 7194730) (K : Nx p l e s m below meth c b cells slots Q G x y out od i) :
    W p l e room_1 s m #[Value.ref b] below meth c H locs cells slots Q (F0 m 2000 ls []) := by
  obtain ⟨hx, hb, hml, hown, hts, hE, hX, hbl, hsl, hL⟩ := C
  have hA9 : ∀ q, s.heap.size ≤ q → LA s q := fun _ h => h
  have hbA : ¬ LA s b := Nat.not_le.mpr hbl
  have hin1 : vp_in (nI (7 * i) + 1) L := by rw [show nI (7 * i) + 1 = nI (7 * i + 1) from nI_add (7 * i) 1]; exact vp_in_nI (by omega) (by omega)
  have hin2 : vp_in (nI (7 * i) + 2) L := by rw [show nI (7 * i) + 2 = nI (7 * i + 2) from nI_add (7 * i) 2]; exact vp_in_nI (by omega) (by omega)
  refine lv_aload_n hx hb dL_law_2000 rfl (lv_at hl 4 rfl) ?_
  refine lv_aload_n hx hb dL_law_2001 rfl (lv_at hl 5 rfl) ?_
  refine lv_iload hx hb dL_law_2002 (lv_at hl 0 rfl) ?_
  refine lv_iconst (v := 1) hx hb dL_law_2004 (by decide) ?_
  refine lv_iadd hx hb dL_law_2005 ?_
  refine va_sld hx hb hX hbl hbA hW.2 hin1 dL_law_2006 ?_
  refine lv_aload_n hx hb dL_law_2007 rfl (lv_at hl 5 rfl) ?_
  refine lv_iload hx hb dL_law_2008 (lv_at hl 0 rfl) ?_
  refine lv_iconst (v := 2) hx hb dL_law_2010 (by decide) ?_
  refine lv_iadd hx hb dL_law_2011 ?_
  refine va_sld hx hb hX hbl hbA hW.2 hin2 dL_law_2012 ?_
  refine lv_aload_n hx hb dL_law_2013 rfl (lv_at hl 2 rfl) ?_
  obtain ⟨P1, hO1, hP1⟩ := w_cuePart l hsl G (LA s) hS (xs (nI (7 * i) + 1).toNatClampNeg) (xs (nI (7 * i) + 2).toNatClampNeg)
  refine r_callSZ hx hb hml hown hts hE hA9 hW hl.1 hO1 gL_law_L_cuePart rfl (by decide +kernel) (n := 4) rfl ⟨by decide, by decide, (show cells + 3 ≤ 603072 by omega), (show slots + 18 ≤ 7194730 by omega)⟩ (Nat.le_of_ble_eq_true rfl) dL_law_2014 rfl (fun e9 m9 hp => by obtain ⟨c1, b1, m2, S2, h1, -⟩ := hP1 _ _ hp; cases h1) (fun v1 m1 H locs hp hW => ?_)
  obtain ⟨c1, b1, m2, S2, h1, hy1, hf1, ht1, hq1, hS2⟩ := hP1 _ _ hp
  cases h1
  refine W.eq (g2 := F0 m 2017 ls [.int c1]) rfl ?_
  refine lv_istore (lv' := [(6, .int c1), (5, .int (nI (7 * i))), (4, .ref od), (3, .ref out), (2, .ref y), (1, .ref x), (0, .ref b)]) hx hb dL_law_2017 hl (by decide) rfl (fun ls hl => ?_)
  refine lv_aload_n hx hb dL_law_2019 rfl (lv_at hl 4 rfl) ?_
  refine lv_aload_n hx hb dL_law_2020 rfl (lv_at hl 6 rfl) ?_
  refine lv_iload hx hb dL_law_2021 (lv_at hl 1 rfl) ?_
  refine lv_iconst (v := 1) hx hb dL_law_2023 (by decide) ?_
  refine lv_iadd hx hb dL_law_2024 ?_
  refine va_sld hx hb hX hbl hbA hW.2 hin1 dL_law_2025 ?_
  refine lv_aload_n hx hb dL_law_2026 rfl (lv_at hl 6 rfl) ?_
  refine lv_iload hx hb dL_law_2027 (lv_at hl 1 rfl) ?_
  refine lv_iconst (v := 2) hx hb dL_law_2029 (by decide) ?_
  refine lv_iadd hx hb dL_law_2030 ?_
  refine va_sld hx hb hX hbl hbA hW.2 hin2 dL_law_2031 ?_
  refine r_callVZ (ci := 7) hx hb hml hown hts hE hA9 hW hl.1 (k_X5_cuePart l hsl G (LA s) m1 y (xs (nI (7 * i) + 1).toNatClampNeg) (xs (nI (7 * i) + 2).toNatClampNeg) _ hf1) gL_law_X5_cuePart rfl hy1 (by decide) rfl (by decide +kernel) (n := 2) rfl ⟨by decide, by decide, (show cells + 3 + 0 ≤ 603072 by omega), (show slots + 18 + 0 ≤ 7194730 by omega)⟩ (Nat.le_of_ble_eq_true rfl) dL_law_2032 rfl (fun e9 m9 hp => by cases hp.1) (fun v2 m9 H locs hp hW9a => ?_)
  obtain ⟨h1, h2⟩ := hp
  cases h1
  replace h2 : m9 = m2 := h2
  subst h2
  have hW := hW9a
  refine W.eq (g2 := F0 m 2035 ls [.int b1]) rfl ?_
  refine lv_istore (lv' := [(7, .int b1), (6, .int c1), (5, .int (nI (7 * i))), (4, .ref od), (3, .ref out), (2, .ref y), (1, .ref x), (0, .ref b)]) hx hb dL_law_2035 hl (by decide) rfl (fun ls hl => ?_)
  refine lv_aload_n hx hb dL_law_2037 rfl (lv_at hl 5 rfl) ?_
  have hMy : ok9 m9 7 y := by obtain ⟨-, -, ⟨am, hM⟩, -⟩ := hS2; exact hM.1
  have hth : f_X5_thrown m9 y = some c1 := by
    unfold f_X5_thrown
    rw [getI_ok hMy, obs, ht1]
  refine r_callVZ (ci := 7) hx hb hml hown hts hE hA9 hW hl.1 (k_X5_thrown l hsl G (LA s) m9 y _ hth) gL_law_X5_thrown rfl hMy (by decide) rfl (by decide +kernel) (n := 0) rfl ⟨by decide, by decide, (show cells + 3 + 0 + 0 ≤ 603072 by omega), (show slots + 18 + 0 + 0 ≤ 7194730 by omega)⟩ (Nat.le_of_ble_eq_true rfl) dL_law_2038 rfl (fun e9 m9 hp => by cases hp.1) (fun v3 m8 H locs hp hW9b => ?_)
  obtain ⟨h1, h2⟩ := hp
  cases h1
  subst h2
  have hW := hW9b
  refine W.widen (k := cells + 20) (n := slots + 200) (show cells + 3 + 0 + 0 ≤ cells + 20 by omega) (show slots + 18 + 0 + 0 ≤ slots + 200 by omega) ?_
  refine W.eq (g2 := F0 m 2041 ls [.int c1]) rfl ?_
  refine lv_iload hx hb dL_law_2041 (lv_at hl 1 rfl) ?_
  refine lv_icmp_eq (tgt := 2048) hx hb dL_law_2043 (by decide) (fun _ => ?_) (fun hc => absurd rfl hc)
  refine lv_iload hx hb dL_law_2048 (lv_at hl 1 rfl) ?_
  refine lv_if_ne (tgt := 2065) hx hb dL_law_2050 (by decide) (fun _ => ?_) (fun hc0 => ?_)
  · refine lv_goto (tgt := 2610) hx hb dL_law_2065 (by decide) ?_
    exact K _ _ _ _ _ hS2 hW (lv_sub hl [2, 3, 4, 5, 6, 7] rfl)
  · have hq := hq1 hc0
    have hOO := hS2.2.2.2
    refine lv_aload_n hx hb dL_law_2053 rfl (lv_at hl 4 rfl) ?_
    refine lv_iconst (v := 0) hx hb dL_law_2054 (by decide) ?_
    refine r_lldK hx hb hE.1 hW (lld_ok hOO.1.1 hOO.1.2) dL_law_2055 ?_
    rw [hq]
    refine lv_iload hx hb dL_law_2056 (lv_at hl 0 rfl) ?_
    refine lv_i2l hx hb dL_law_2058 rfl ?_
    refine r_lcmpE hx hb dL_law_2059 ?_
    refine lv_if_eq (tgt := 2065) hx hb dL_law_2060 (by decide) (fun _ => ?_) (fun hc => absurd rfl hc)
    refine lv_goto (tgt := 2610) hx hb dL_law_2065 (by decide) ?_
    exact K _ _ _ _ _ hS2 hW (lv_sub hl [2, 3, 4, 5, 6, 7] rfl)
set_option maxHeartbeats 1000000 in
theorem cs_cuePitch {p : Program} {l : Launch} {e : Env} {s : State} {m : MethodId} {below : List Frame} {meth : Method} {c : Code} {b L : Nat} {xs : Nat → Int32} {G : GG} {Q : State → Prop} (C : LC p l s m c b L xs G) {i : Nat} (hi : 7 * i + 7 ≤ L) {x y out od cells slots : Nat} {μ : Mem} {S : SS} {H : Heap} {locs : List Loc} {ls : Array Slot} (hS : Sm μ x y out od S) (hW : MW G (LA s) μ s.heap H locs) (hl : lv_has ls 9 [(5, .int (nI (7 * i))), (4, .ref od), (3, .ref out), (2, .ref y), (1, .ref x), (0, .ref b)]) (hR : cells + 20 ≤ 603072 ∧ slots + 200 ≤ 7194730) (K : Nx p l e s m below meth c b cells slots Q G x y out od i) :
    W p l e room_1 s m #[Value.ref b] below meth c H locs cells slots Q (F0 m 2068 ls []) := by
  obtain ⟨hx, hb, hml, hown, hts, hE, hX, hbl, hsl, hL⟩ := C
  have hA9 : ∀ q, s.heap.size ≤ q → LA s q := fun _ h => h
  have hbA : ¬ LA s b := Nat.not_le.mpr hbl
  have hin1 : vp_in (nI (7 * i) + 1) L := by rw [show nI (7 * i) + 1 = nI (7 * i + 1) from nI_add (7 * i) 1]; exact vp_in_nI (by omega) (by omega)
  have hin2 : vp_in (nI (7 * i) + 2) L := by rw [show nI (7 * i) + 2 = nI (7 * i + 2) from nI_add (7 * i) 2]; exact vp_in_nI (by omega) (by omega)
  have hin3 : vp_in (nI (7 * i) + 3) L := by rw [show nI (7 * i) + 3 = nI (7 * i + 3) from nI_add (7 * i) 3]; exact vp_in_nI (by omega) (by omega)
  refine lv_aload_n hx hb dL_law_2068 rfl (lv_at hl 4 rfl) ?_
  refine lv_aload_n hx hb dL_law_2069 rfl (lv_at hl 5 rfl) ?_
  refine lv_iload hx hb dL_law_2070 (lv_at hl 0 rfl) ?_
  refine lv_iconst (v := 1) hx hb dL_law_2072 (by decide) ?_
  refine lv_iadd hx hb dL_law_2073 ?_
  refine va_sld hx hb hX hbl hbA hW.2 hin1 dL_law_2074 ?_
  refine lv_aload_n hx hb dL_law_2075 rfl (lv_at hl 5 rfl) ?_
  refine lv_iload hx hb dL_law_2076 (lv_at hl 0 rfl) ?_
  refine lv_iconst (v := 2) hx hb dL_law_2078 (by decide) ?_
  refine lv_iadd hx hb dL_law_2079 ?_
  refine va_sld hx hb hX hbl hbA hW.2 hin2 dL_law_2080 ?_
  refine lv_aload_n hx hb dL_law_2081 rfl (lv_at hl 5 rfl) ?_
  refine lv_iload hx hb dL_law_2082 (lv_at hl 0 rfl) ?_
  refine lv_iconst (v := 3) hx hb dL_law_2084 (by decide) ?_
  refine lv_iadd hx hb dL_law_2085 ?_
  refine va_sld hx hb hX hbl hbA hW.2 hin3 dL_law_2086 ?_
  refine lv_aload_n hx hb dL_law_2087 rfl (lv_at hl 2 rfl) ?_
  obtain ⟨P1, hO1, hP1⟩ := w_cuePitch l hsl G (LA s) hS (xs (nI (7 * i) + 1).toNatClampNeg) (xs (nI (7 * i) + 2).toNatClampNeg) (xs (nI (7 * i) + 3).toNatClampNeg)
  refine r_callSZ hx hb hml hown hts hE hA9 hW hl.1 hO1 gL_law_L_cuePitch rfl (by decide +kernel) (n := 5) rfl ⟨by decide, by decide, (show cells + 5 ≤ 603072 by omega), (show slots + 30 ≤ 7194730 by omega)⟩ (Nat.le_of_ble_eq_true rfl) dL_law_2088 rfl (fun e9 m9 hp => by obtain ⟨c1, b1, m2, S2, h1, -⟩ := hP1 _ _ hp; cases h1) (fun v1 m1 H locs hp hW => ?_)
  obtain ⟨c1, b1, m2, S2, h1, hy1, hf1, ht1, hq1, hS2⟩ := hP1 _ _ hp
  cases h1
  refine W.eq (g2 := F0 m 2091 ls [.int c1]) rfl ?_
  refine lv_istore (lv' := [(6, .int c1), (5, .int (nI (7 * i))), (4, .ref od), (3, .ref out), (2, .ref y), (1, .ref x), (0, .ref b)]) hx hb dL_law_2091 hl (by decide) rfl (fun ls hl => ?_)
  refine lv_aload_n hx hb dL_law_2093 rfl (lv_at hl 4 rfl) ?_
  refine lv_aload_n hx hb dL_law_2094 rfl (lv_at hl 6 rfl) ?_
  refine lv_iload hx hb dL_law_2095 (lv_at hl 1 rfl) ?_
  refine lv_iconst (v := 1) hx hb dL_law_2097 (by decide) ?_
  refine lv_iadd hx hb dL_law_2098 ?_
  refine va_sld hx hb hX hbl hbA hW.2 hin1 dL_law_2099 ?_
  refine lv_aload_n hx hb dL_law_2100 rfl (lv_at hl 6 rfl) ?_
  refine lv_iload hx hb dL_law_2101 (lv_at hl 1 rfl) ?_
  refine lv_iconst (v := 2) hx hb dL_law_2103 (by decide) ?_
  refine lv_iadd hx hb dL_law_2104 ?_
  refine va_sld hx hb hX hbl hbA hW.2 hin2 dL_law_2105 ?_
  refine lv_aload_n hx hb dL_law_2106 rfl (lv_at hl 6 rfl) ?_
  refine lv_iload hx hb dL_law_2107 (lv_at hl 1 rfl) ?_
  refine lv_iconst (v := 3) hx hb dL_law_2109 (by decide) ?_
  refine lv_iadd hx hb dL_law_2110 ?_
  refine va_sld hx hb hX hbl hbA hW.2 hin3 dL_law_2111 ?_
  refine r_callVZ (ci := 7) hx hb hml hown hts hE hA9 hW hl.1 (k_X5_cuePitch l hsl G (LA s) m1 y (xs (nI (7 * i) + 1).toNatClampNeg) (xs (nI (7 * i) + 2).toNatClampNeg) (xs (nI (7 * i) + 3).toNatClampNeg) _ hf1) gL_law_X5_cuePitch rfl hy1 (by decide) rfl (by decide +kernel) (n := 3) rfl ⟨by decide, by decide, (show cells + 5 + 0 ≤ 603072 by omega), (show slots + 30 + 0 ≤ 7194730 by omega)⟩ (Nat.le_of_ble_eq_true rfl) dL_law_2112 rfl (fun e9 m9 hp => by cases hp.1) (fun v2 m9 H locs hp hW9a => ?_)
  obtain ⟨h1, h2⟩ := hp
  cases h1
  replace h2 : m9 = m2 := h2
  subst h2
  have hW := hW9a
  refine W.eq (g2 := F0 m 2115 ls [.int b1]) rfl ?_
  refine lv_istore (lv' := [(7, .int b1), (6, .int c1), (5, .int (nI (7 * i))), (4, .ref od), (3, .ref out), (2, .ref y), (1, .ref x), (0, .ref b)]) hx hb dL_law_2115 hl (by decide) rfl (fun ls hl => ?_)
  refine lv_aload_n hx hb dL_law_2117 rfl (lv_at hl 5 rfl) ?_
  have hMy : ok9 m9 7 y := by obtain ⟨-, -, ⟨am, hM⟩, -⟩ := hS2; exact hM.1
  have hth : f_X5_thrown m9 y = some c1 := by
    unfold f_X5_thrown
    rw [getI_ok hMy, obs, ht1]
  refine r_callVZ (ci := 7) hx hb hml hown hts hE hA9 hW hl.1 (k_X5_thrown l hsl G (LA s) m9 y _ hth) gL_law_X5_thrown rfl hMy (by decide) rfl (by decide +kernel) (n := 0) rfl ⟨by decide, by decide, (show cells + 5 + 0 + 0 ≤ 603072 by omega), (show slots + 30 + 0 + 0 ≤ 7194730 by omega)⟩ (Nat.le_of_ble_eq_true rfl) dL_law_2118 rfl (fun e9 m9 hp => by cases hp.1) (fun v3 m8 H locs hp hW9b => ?_)
  obtain ⟨h1, h2⟩ := hp
  cases h1
  subst h2
  have hW := hW9b
  refine W.widen (k := cells + 20) (n := slots + 200) (show cells + 5 + 0 + 0 ≤ cells + 20 by omega) (show slots + 30 + 0 + 0 ≤ slots + 200 by omega) ?_
  refine W.eq (g2 := F0 m 2121 ls [.int c1]) rfl ?_
  refine lv_iload hx hb dL_law_2121 (lv_at hl 1 rfl) ?_
  refine lv_icmp_eq (tgt := 2128) hx hb dL_law_2123 (by decide) (fun _ => ?_) (fun hc => absurd rfl hc)
  refine lv_iload hx hb dL_law_2128 (lv_at hl 1 rfl) ?_
  refine lv_if_ne (tgt := 2145) hx hb dL_law_2130 (by decide) (fun _ => ?_) (fun hc0 => ?_)
  · refine lv_goto (tgt := 2610) hx hb dL_law_2145 (by decide) ?_
    exact K _ _ _ _ _ hS2 hW (lv_sub hl [2, 3, 4, 5, 6, 7] rfl)
  · have hq := hq1 hc0
    have hOO := hS2.2.2.2
    refine lv_aload_n hx hb dL_law_2133 rfl (lv_at hl 4 rfl) ?_
    refine lv_iconst (v := 0) hx hb dL_law_2134 (by decide) ?_
    refine r_lldK hx hb hE.1 hW (lld_ok hOO.1.1 hOO.1.2) dL_law_2135 ?_
    rw [hq]
    refine lv_iload hx hb dL_law_2136 (lv_at hl 0 rfl) ?_
    refine lv_i2l hx hb dL_law_2138 rfl ?_
    refine r_lcmpE hx hb dL_law_2139 ?_
    refine lv_if_eq (tgt := 2145) hx hb dL_law_2140 (by decide) (fun _ => ?_) (fun hc => absurd rfl hc)
    refine lv_goto (tgt := 2610) hx hb dL_law_2145 (by decide) ?_
    exact K _ _ _ _ _ hS2 hW (lv_sub hl [2, 3, 4, 5, 6, 7] rfl)
set_option maxHeartbeats 1000000 in
theorem cs_copyOut {p : Program} {l : Launch} {e : Env} {s : State} {m : MethodId} {below : List Frame} {meth : Method} {c : Code} {b L : Nat} {xs : Nat → Int32} {G : GG} {Q : State → Prop} (C : LC p l s m c b L xs G) {i : Nat} (hi : 7 * i + 7 ≤ L) {x y out od cells slots : Nat} {μ : Mem} {S : SS} {H : Heap} {locs : List Loc} {ls : Array Slot} (hS : Sm μ x y out od S) (hW : MW G (LA s) μ s.heap H locs) (hl : lv_has ls 9 [(5, .int (nI (7 * i))), (4, .ref od), (3, .ref out), (2, .ref y), (1, .ref x), (0, .ref b)]) (hR : cells + 20 ≤ 603072 ∧ slots + 200 ≤ 7194730) (K : Nx p l e s m below meth c b cells slots Q G x y out od i) :
    W p l e room_1 s m #[Value.ref b] below meth c H locs cells slots Q (F0 m 2148 ls []) := by
  obtain ⟨hx, hb, hml, hown, hts, hE, hX, hbl, hsl, hL⟩ := C
  have hA9 : ∀ q, s.heap.size ≤ q → LA s q := fun _ h => h
  have hbA : ¬ LA s b := Nat.not_le.mpr hbl
  have hin1 : vp_in (nI (7 * i) + 1) L := by rw [show nI (7 * i) + 1 = nI (7 * i + 1) from nI_add (7 * i) 1]; exact vp_in_nI (by omega) (by omega)
  refine lv_aload_n hx hb dL_law_2148 rfl (lv_at hl 4 rfl) ?_
  refine lv_aload_n hx hb dL_law_2149 rfl (lv_at hl 5 rfl) ?_
  refine lv_iload hx hb dL_law_2150 (lv_at hl 0 rfl) ?_
  refine lv_iconst (v := 1) hx hb dL_law_2152 (by decide) ?_
  refine lv_iadd hx hb dL_law_2153 ?_
  refine va_sld hx hb hX hbl hbA hW.2 hin1 dL_law_2154 ?_
  refine lv_aload_n hx hb dL_law_2155 rfl (lv_at hl 2 rfl) ?_
  obtain ⟨P1, hO1, hP1⟩ := w_copyOut l hsl G (LA s) hS (xs (nI (7 * i) + 1).toNatClampNeg)
  refine r_callSZ hx hb hml hown hts hE hA9 hW hl.1 hO1 gL_law_L_copyOut rfl (by decide +kernel) (n := 3) rfl ⟨by decide, by decide, (show cells + 1 ≤ 603072 by omega), (show slots + 6 ≤ 7194730 by omega)⟩ (Nat.le_of_ble_eq_true rfl) dL_law_2156 rfl (fun e9 m9 hp => by obtain ⟨c1, b1, m2, S2, h1, -⟩ := hP1 _ _ hp; cases h1) (fun v1 m1 H locs hp hW => ?_)
  obtain ⟨c1, b1, m2, S2, h1, hy1, hf1, ht1, hq1, hS2⟩ := hP1 _ _ hp
  cases h1
  refine W.eq (g2 := F0 m 2159 ls [.int c1]) rfl ?_
  refine lv_istore (lv' := [(6, .int c1), (5, .int (nI (7 * i))), (4, .ref od), (3, .ref out), (2, .ref y), (1, .ref x), (0, .ref b)]) hx hb dL_law_2159 hl (by decide) rfl (fun ls hl => ?_)
  refine lv_aload_n hx hb dL_law_2161 rfl (lv_at hl 4 rfl) ?_
  refine lv_aload_n hx hb dL_law_2162 rfl (lv_at hl 6 rfl) ?_
  refine lv_iload hx hb dL_law_2163 (lv_at hl 1 rfl) ?_
  refine lv_iconst (v := 1) hx hb dL_law_2165 (by decide) ?_
  refine lv_iadd hx hb dL_law_2166 ?_
  refine va_sld hx hb hX hbl hbA hW.2 hin1 dL_law_2167 ?_
  refine r_callVZ (ci := 7) hx hb hml hown hts hE hA9 hW hl.1 (k_X5_copyOut l hsl G (LA s) m1 y (xs (nI (7 * i) + 1).toNatClampNeg) _ hf1) gL_law_X5_copyOut rfl hy1 (by decide) rfl (by decide +kernel) (n := 1) rfl ⟨by decide, by decide, (show cells + 1 + 0 ≤ 603072 by omega), (show slots + 6 + 0 ≤ 7194730 by omega)⟩ (Nat.le_of_ble_eq_true rfl) dL_law_2168 rfl (fun e9 m9 hp => by cases hp.1) (fun v2 m9 H locs hp hW9a => ?_)
  obtain ⟨h1, h2⟩ := hp
  cases h1
  replace h2 : m9 = m2 := h2
  subst h2
  have hW := hW9a
  refine W.eq (g2 := F0 m 2171 ls [.int b1]) rfl ?_
  refine lv_istore (lv' := [(7, .int b1), (6, .int c1), (5, .int (nI (7 * i))), (4, .ref od), (3, .ref out), (2, .ref y), (1, .ref x), (0, .ref b)]) hx hb dL_law_2171 hl (by decide) rfl (fun ls hl => ?_)
  refine lv_aload_n hx hb dL_law_2173 rfl (lv_at hl 5 rfl) ?_
  have hMy : ok9 m9 7 y := by obtain ⟨-, -, ⟨am, hM⟩, -⟩ := hS2; exact hM.1
  have hth : f_X5_thrown m9 y = some c1 := by
    unfold f_X5_thrown
    rw [getI_ok hMy, obs, ht1]
  refine r_callVZ (ci := 7) hx hb hml hown hts hE hA9 hW hl.1 (k_X5_thrown l hsl G (LA s) m9 y _ hth) gL_law_X5_thrown rfl hMy (by decide) rfl (by decide +kernel) (n := 0) rfl ⟨by decide, by decide, (show cells + 1 + 0 + 0 ≤ 603072 by omega), (show slots + 6 + 0 + 0 ≤ 7194730 by omega)⟩ (Nat.le_of_ble_eq_true rfl) dL_law_2174 rfl (fun e9 m9 hp => by cases hp.1) (fun v3 m8 H locs hp hW9b => ?_)
  obtain ⟨h1, h2⟩ := hp
  cases h1
  subst h2
  have hW := hW9b
  refine W.widen (k := cells + 20) (n := slots + 200) (show cells + 1 + 0 + 0 ≤ cells + 20 by omega) (show slots + 6 + 0 + 0 ≤ slots + 200 by omega) ?_
  refine W.eq (g2 := F0 m 2177 ls [.int c1]) rfl ?_
  refine lv_iload hx hb dL_law_2177 (lv_at hl 1 rfl) ?_
  refine lv_icmp_eq (tgt := 2184) hx hb dL_law_2179 (by decide) (fun _ => ?_) (fun hc => absurd rfl hc)
  refine lv_iload hx hb dL_law_2184 (lv_at hl 1 rfl) ?_
  refine lv_if_ne (tgt := 2201) hx hb dL_law_2186 (by decide) (fun _ => ?_) (fun hc0 => ?_)
  · refine lv_goto (tgt := 2610) hx hb dL_law_2201 (by decide) ?_
    exact K _ _ _ _ _ hS2 hW (lv_sub hl [2, 3, 4, 5, 6, 7] rfl)
  · have hq := hq1 hc0
    have hOO := hS2.2.2.2
    refine lv_aload_n hx hb dL_law_2189 rfl (lv_at hl 4 rfl) ?_
    refine lv_iconst (v := 0) hx hb dL_law_2190 (by decide) ?_
    refine r_lldK hx hb hE.1 hW (lld_ok hOO.1.1 hOO.1.2) dL_law_2191 ?_
    rw [hq]
    refine lv_iload hx hb dL_law_2192 (lv_at hl 0 rfl) ?_
    refine lv_i2l hx hb dL_law_2194 rfl ?_
    refine r_lcmpE hx hb dL_law_2195 ?_
    refine lv_if_eq (tgt := 2201) hx hb dL_law_2196 (by decide) (fun _ => ?_) (fun hc => absurd rfl hc)
    refine lv_goto (tgt := 2610) hx hb dL_law_2201 (by decide) ?_
    exact K _ _ _ _ _ hS2 hW (lv_sub hl [2, 3, 4, 5, 6, 7] rfl)
set_option maxHeartbeats 1000000 in
theorem cs_carry {p : Program} {l : Launch} {e : Env} {s : State} {m : MethodId} {below : List Frame} {meth : Method} {c : Code} {b L : Nat} {xs : Nat → Int32} {G : GG} {Q : State → Prop} (C : LC p l s m c b L xs G) {i : Nat} (hi : 7 * i + 7 ≤ L) {x y out od cells slots : Nat} {μ : Mem} {S : SS} {H : Heap} {locs : List Loc} {ls : Array Slot} (hS : Sm μ x y out od S) (hW : MW G (LA s) μ s.heap H locs) (hl : lv_has ls 9 [(5, .int (nI (7 * i))), (4, .ref od), (3, .ref out), (2, .ref y), (1, .ref x), (0, .ref b)]) (hR : cells + 20 ≤ 603072 ∧ slots + 200 ≤ 7194730) (K : Nx p l e s m below meth c b cells slots Q G x y out od i) :
    W p l e room_1 s m #[Value.ref b] below meth c H locs cells slots Q (F0 m 2204 ls []) := by
  obtain ⟨hx, hb, hml, hown, hts, hE, hX, hbl, hsl, hL⟩ := C
  have hA9 : ∀ q, s.heap.size ≤ q → LA s q := fun _ h => h
  have hbA : ¬ LA s b := Nat.not_le.mpr hbl
  have hin1 : vp_in (nI (7 * i) + 1) L := by rw [show nI (7 * i) + 1 = nI (7 * i + 1) from nI_add (7 * i) 1]; exact vp_in_nI (by omega) (by omega)
  refine lv_aload_n hx hb dL_law_2204 rfl (lv_at hl 4 rfl) ?_
  refine lv_aload_n hx hb dL_law_2205 rfl (lv_at hl 5 rfl) ?_
  refine lv_iload hx hb dL_law_2206 (lv_at hl 0 rfl) ?_
  refine lv_iconst (v := 1) hx hb dL_law_2208 (by decide) ?_
  refine lv_iadd hx hb dL_law_2209 ?_
  refine va_sld hx hb hX hbl hbA hW.2 hin1 dL_law_2210 ?_
  refine lv_aload_n hx hb dL_law_2211 rfl (lv_at hl 2 rfl) ?_
  obtain ⟨P1, hO1, hP1⟩ := w_carry l hsl G (LA s) hS (xs (nI (7 * i) + 1).toNatClampNeg)
  refine r_callSZ hx hb hml hown hts hE hA9 hW hl.1 hO1 gL_law_L_carry rfl (by decide +kernel) (n := 3) rfl ⟨by decide, by decide, (show cells + 2 ≤ 603072 by omega), (show slots + 12 ≤ 7194730 by omega)⟩ (Nat.le_of_ble_eq_true rfl) dL_law_2212 rfl (fun e9 m9 hp => by obtain ⟨c1, b1, m2, S2, h1, -⟩ := hP1 _ _ hp; cases h1) (fun v1 m1 H locs hp hW => ?_)
  obtain ⟨c1, b1, m2, S2, h1, hy1, hf1, ht1, hq1, hS2⟩ := hP1 _ _ hp
  cases h1
  refine W.eq (g2 := F0 m 2215 ls [.int c1]) rfl ?_
  refine lv_istore (lv' := [(6, .int c1), (5, .int (nI (7 * i))), (4, .ref od), (3, .ref out), (2, .ref y), (1, .ref x), (0, .ref b)]) hx hb dL_law_2215 hl (by decide) rfl (fun ls hl => ?_)
  refine lv_aload_n hx hb dL_law_2217 rfl (lv_at hl 4 rfl) ?_
  refine lv_aload_n hx hb dL_law_2218 rfl (lv_at hl 6 rfl) ?_
  refine lv_iload hx hb dL_law_2219 (lv_at hl 1 rfl) ?_
  refine lv_iconst (v := 1) hx hb dL_law_2221 (by decide) ?_
  refine lv_iadd hx hb dL_law_2222 ?_
  refine va_sld hx hb hX hbl hbA hW.2 hin1 dL_law_2223 ?_
  refine r_callVZ (ci := 7) hx hb hml hown hts hE hA9 hW hl.1 (k_X5_carry l hsl G (LA s) m1 y (xs (nI (7 * i) + 1).toNatClampNeg) _ hf1) gL_law_X5_carry rfl hy1 (by decide) rfl (by decide +kernel) (n := 1) rfl ⟨by decide, by decide, (show cells + 2 + 0 ≤ 603072 by omega), (show slots + 12 + 0 ≤ 7194730 by omega)⟩ (Nat.le_of_ble_eq_true rfl) dL_law_2224 rfl (fun e9 m9 hp => by cases hp.1) (fun v2 m9 H locs hp hW9a => ?_)
  obtain ⟨h1, h2⟩ := hp
  cases h1
  replace h2 : m9 = m2 := h2
  subst h2
  have hW := hW9a
  refine W.eq (g2 := F0 m 2227 ls [.int b1]) rfl ?_
  refine lv_istore (lv' := [(7, .int b1), (6, .int c1), (5, .int (nI (7 * i))), (4, .ref od), (3, .ref out), (2, .ref y), (1, .ref x), (0, .ref b)]) hx hb dL_law_2227 hl (by decide) rfl (fun ls hl => ?_)
  refine lv_aload_n hx hb dL_law_2229 rfl (lv_at hl 5 rfl) ?_
  have hMy : ok9 m9 7 y := by obtain ⟨-, -, ⟨am, hM⟩, -⟩ := hS2; exact hM.1
  have hth : f_X5_thrown m9 y = some c1 := by
    unfold f_X5_thrown
    rw [getI_ok hMy, obs, ht1]
  refine r_callVZ (ci := 7) hx hb hml hown hts hE hA9 hW hl.1 (k_X5_thrown l hsl G (LA s) m9 y _ hth) gL_law_X5_thrown rfl hMy (by decide) rfl (by decide +kernel) (n := 0) rfl ⟨by decide, by decide, (show cells + 2 + 0 + 0 ≤ 603072 by omega), (show slots + 12 + 0 + 0 ≤ 7194730 by omega)⟩ (Nat.le_of_ble_eq_true rfl) dL_law_2230 rfl (fun e9 m9 hp => by cases hp.1) (fun v3 m8 H locs hp hW9b => ?_)
  obtain ⟨h1, h2⟩ := hp
  cases h1
  subst h2
  have hW := hW9b
  refine W.widen (k := cells + 20) (n := slots + 200) (show cells + 2 + 0 + 0 ≤ cells + 20 by omega) (show slots + 12 + 0 + 0 ≤ slots + 200 by omega) ?_
  refine W.eq (g2 := F0 m 2233 ls [.int c1]) rfl ?_
  refine lv_iload hx hb dL_law_2233 (lv_at hl 1 rfl) ?_
  refine lv_icmp_eq (tgt := 2240) hx hb dL_law_2235 (by decide) (fun _ => ?_) (fun hc => absurd rfl hc)
  refine lv_iload hx hb dL_law_2240 (lv_at hl 1 rfl) ?_
  refine lv_if_ne (tgt := 2257) hx hb dL_law_2242 (by decide) (fun _ => ?_) (fun hc0 => ?_)
  · refine lv_goto (tgt := 2610) hx hb dL_law_2257 (by decide) ?_
    exact K _ _ _ _ _ hS2 hW (lv_sub hl [2, 3, 4, 5, 6, 7] rfl)
  · have hq := hq1 hc0
    have hOO := hS2.2.2.2
    refine lv_aload_n hx hb dL_law_2245 rfl (lv_at hl 4 rfl) ?_
    refine lv_iconst (v := 0) hx hb dL_law_2246 (by decide) ?_
    refine r_lldK hx hb hE.1 hW (lld_ok hOO.1.1 hOO.1.2) dL_law_2247 ?_
    rw [hq]
    refine lv_iload hx hb dL_law_2248 (lv_at hl 0 rfl) ?_
    refine lv_i2l hx hb dL_law_2250 rfl ?_
    refine r_lcmpE hx hb dL_law_2251 ?_
    refine lv_if_eq (tgt := 2257) hx hb dL_law_2252 (by decide) (fun _ => ?_) (fun hc => absurd rfl hc)
    refine lv_goto (tgt := 2610) hx hb dL_law_2257 (by decide) ?_
    exact K _ _ _ _ _ hS2 hW (lv_sub hl [2, 3, 4, 5, 6, 7] rfl)
set_option maxHeartbeats 1000000 in
theorem cs_differences {p : Program} {l : Launch} {e : Env} {s : State} {m : MethodId} {below : List Frame} {meth : Method} {c : Code} {b L : Nat} {xs : Nat → Int32} {G : GG} {Q : State → Prop} (C : LC p l s m c b L xs G) {i : Nat} (hi : 7 * i + 7 ≤ L) {x y out od cells slots : Nat} {μ : Mem} {S : SS} {H : Heap} {locs : List Loc} {ls : Array Slot} (hS : Sm μ x y out od S) (hW : MW G (LA s) μ s.heap H locs) (hl : lv_has ls 9 [(5, .int (nI (7 * i))), (4, .ref od), (3, .ref out), (2, .ref y), (1, .ref x), (0, .ref b)]) (hR : cells + 20 ≤ 603072 ∧ slots + 200 ≤ 7194730) (K : Nx p l e s m below meth c b cells slots Q G x y out od i) :
    W p l e room_1 s m #[Value.ref b] below meth c H locs cells slots Q (F0 m 2260 ls []) := by
  obtain ⟨hx, hb, hml, hown, hts, hE, hX, hbl, hsl, hL⟩ := C
  have hA9 : ∀ q, s.heap.size ≤ q → LA s q := fun _ h => h
  have hbA : ¬ LA s b := Nat.not_le.mpr hbl
  have hin1 : vp_in (nI (7 * i) + 1) L := by rw [show nI (7 * i) + 1 = nI (7 * i + 1) from nI_add (7 * i) 1]; exact vp_in_nI (by omega) (by omega)
  refine lv_aload_n hx hb dL_law_2260 rfl (lv_at hl 4 rfl) ?_
  refine lv_aload_n hx hb dL_law_2261 rfl (lv_at hl 5 rfl) ?_
  refine lv_iload hx hb dL_law_2262 (lv_at hl 0 rfl) ?_
  refine lv_iconst (v := 1) hx hb dL_law_2264 (by decide) ?_
  refine lv_iadd hx hb dL_law_2265 ?_
  refine va_sld hx hb hX hbl hbA hW.2 hin1 dL_law_2266 ?_
  refine lv_aload_n hx hb dL_law_2267 rfl (lv_at hl 2 rfl) ?_
  obtain ⟨P1, hO1, hP1⟩ := w_differences l hsl G (LA s) hS (xs (nI (7 * i) + 1).toNatClampNeg)
  refine r_callSZ hx hb hml hown hts hE hA9 hW hl.1 hO1 gL_law_L_differences rfl (by decide +kernel) (n := 3) rfl ⟨by decide, by decide, (show cells + 2 ≤ 603072 by omega), (show slots + 12 ≤ 7194730 by omega)⟩ (Nat.le_of_ble_eq_true rfl) dL_law_2268 rfl (fun e9 m9 hp => by obtain ⟨c1, b1, m2, S2, h1, -⟩ := hP1 _ _ hp; cases h1) (fun v1 m1 H locs hp hW => ?_)
  obtain ⟨c1, b1, m2, S2, h1, hy1, hf1, ht1, hq1, hS2⟩ := hP1 _ _ hp
  cases h1
  refine W.eq (g2 := F0 m 2271 ls [.int c1]) rfl ?_
  refine lv_istore (lv' := [(6, .int c1), (5, .int (nI (7 * i))), (4, .ref od), (3, .ref out), (2, .ref y), (1, .ref x), (0, .ref b)]) hx hb dL_law_2271 hl (by decide) rfl (fun ls hl => ?_)
  refine lv_aload_n hx hb dL_law_2273 rfl (lv_at hl 4 rfl) ?_
  refine lv_aload_n hx hb dL_law_2274 rfl (lv_at hl 6 rfl) ?_
  refine lv_iload hx hb dL_law_2275 (lv_at hl 1 rfl) ?_
  refine lv_iconst (v := 1) hx hb dL_law_2277 (by decide) ?_
  refine lv_iadd hx hb dL_law_2278 ?_
  refine va_sld hx hb hX hbl hbA hW.2 hin1 dL_law_2279 ?_
  refine r_callVZ (ci := 7) hx hb hml hown hts hE hA9 hW hl.1 (k_X5_differences l hsl G (LA s) m1 y (xs (nI (7 * i) + 1).toNatClampNeg) _ hf1) gL_law_X5_differences rfl hy1 (by decide) rfl (by decide +kernel) (n := 1) rfl ⟨by decide, by decide, (show cells + 2 + 0 ≤ 603072 by omega), (show slots + 12 + 0 ≤ 7194730 by omega)⟩ (Nat.le_of_ble_eq_true rfl) dL_law_2280 rfl (fun e9 m9 hp => by cases hp.1) (fun v2 m9 H locs hp hW9a => ?_)
  obtain ⟨h1, h2⟩ := hp
  cases h1
  replace h2 : m9 = m2 := h2
  subst h2
  have hW := hW9a
  refine W.eq (g2 := F0 m 2283 ls [.int b1]) rfl ?_
  refine lv_istore (lv' := [(7, .int b1), (6, .int c1), (5, .int (nI (7 * i))), (4, .ref od), (3, .ref out), (2, .ref y), (1, .ref x), (0, .ref b)]) hx hb dL_law_2283 hl (by decide) rfl (fun ls hl => ?_)
  refine lv_aload_n hx hb dL_law_2285 rfl (lv_at hl 5 rfl) ?_
  have hMy : ok9 m9 7 y := by obtain ⟨-, -, ⟨am, hM⟩, -⟩ := hS2; exact hM.1
  have hth : f_X5_thrown m9 y = some c1 := by
    unfold f_X5_thrown
    rw [getI_ok hMy, obs, ht1]
  refine r_callVZ (ci := 7) hx hb hml hown hts hE hA9 hW hl.1 (k_X5_thrown l hsl G (LA s) m9 y _ hth) gL_law_X5_thrown rfl hMy (by decide) rfl (by decide +kernel) (n := 0) rfl ⟨by decide, by decide, (show cells + 2 + 0 + 0 ≤ 603072 by omega), (show slots + 12 + 0 + 0 ≤ 7194730 by omega)⟩ (Nat.le_of_ble_eq_true rfl) dL_law_2286 rfl (fun e9 m9 hp => by cases hp.1) (fun v3 m8 H locs hp hW9b => ?_)
  obtain ⟨h1, h2⟩ := hp
  cases h1
  subst h2
  have hW := hW9b
  refine W.widen (k := cells + 20) (n := slots + 200) (show cells + 2 + 0 + 0 ≤ cells + 20 by omega) (show slots + 12 + 0 + 0 ≤ slots + 200 by omega) ?_
  refine W.eq (g2 := F0 m 2289 ls [.int c1]) rfl ?_
  refine lv_iload hx hb dL_law_2289 (lv_at hl 1 rfl) ?_
  refine lv_icmp_eq (tgt := 2296) hx hb dL_law_2291 (by decide) (fun _ => ?_) (fun hc => absurd rfl hc)
  refine lv_iload hx hb dL_law_2296 (lv_at hl 1 rfl) ?_
  refine lv_if_ne (tgt := 2313) hx hb dL_law_2298 (by decide) (fun _ => ?_) (fun hc0 => ?_)
  · refine lv_goto (tgt := 2610) hx hb dL_law_2313 (by decide) ?_
    exact K _ _ _ _ _ hS2 hW (lv_sub hl [2, 3, 4, 5, 6, 7] rfl)
  · have hq := hq1 hc0
    have hOO := hS2.2.2.2
    refine lv_aload_n hx hb dL_law_2301 rfl (lv_at hl 4 rfl) ?_
    refine lv_iconst (v := 0) hx hb dL_law_2302 (by decide) ?_
    refine r_lldK hx hb hE.1 hW (lld_ok hOO.1.1 hOO.1.2) dL_law_2303 ?_
    rw [hq]
    refine lv_iload hx hb dL_law_2304 (lv_at hl 0 rfl) ?_
    refine lv_i2l hx hb dL_law_2306 rfl ?_
    refine r_lcmpE hx hb dL_law_2307 ?_
    refine lv_if_eq (tgt := 2313) hx hb dL_law_2308 (by decide) (fun _ => ?_) (fun hc => absurd rfl hc)
    refine lv_goto (tgt := 2610) hx hb dL_law_2313 (by decide) ?_
    exact K _ _ _ _ _ hS2 hW (lv_sub hl [2, 3, 4, 5, 6, 7] rfl)
set_option maxHeartbeats 1000000 in
theorem cs_differencesByComparing {p : Program} {l : Launch} {e : Env} {s : State} {m : MethodId} {below : List Frame} {meth : Method} {c : Code} {b L : Nat} {xs : Nat → Int32} {G : GG} {Q : State → Prop} (C : LC p l s m c b L xs G) {i : Nat} (hi : 7 * i + 7 ≤ L) {x y out od cells slots : Nat} {μ : Mem} {S : SS} {H : Heap} {locs : List Loc} {ls : Array Slot} (hS : Sm μ x y out od S) (hW : MW G (LA s) μ s.heap H locs) (hl : lv_has ls 9 [(5, .int (nI (7 * i))), (4, .ref od), (3, .ref out), (2, .ref y), (1, .ref x), (0, .ref b)]) (hR : cells + 20 ≤ 603072 ∧ slots + 200 ≤ 7194730) (K : Nx p l e s m below meth c b cells slots Q G x y out od i) :
    W p l e room_1 s m #[Value.ref b] below meth c H locs cells slots Q (F0 m 2316 ls []) := by
  obtain ⟨hx, hb, hml, hown, hts, hE, hX, hbl, hsl, hL⟩ := C
  have hA9 : ∀ q, s.heap.size ≤ q → LA s q := fun _ h => h
  have hbA : ¬ LA s b := Nat.not_le.mpr hbl
  have hin1 : vp_in (nI (7 * i) + 1) L := by rw [show nI (7 * i) + 1 = nI (7 * i + 1) from nI_add (7 * i) 1]; exact vp_in_nI (by omega) (by omega)
  refine lv_aload_n hx hb dL_law_2316 rfl (lv_at hl 4 rfl) ?_
  refine lv_aload_n hx hb dL_law_2317 rfl (lv_at hl 5 rfl) ?_
  refine lv_iload hx hb dL_law_2318 (lv_at hl 0 rfl) ?_
  refine lv_iconst (v := 1) hx hb dL_law_2320 (by decide) ?_
  refine lv_iadd hx hb dL_law_2321 ?_
  refine va_sld hx hb hX hbl hbA hW.2 hin1 dL_law_2322 ?_
  refine lv_aload_n hx hb dL_law_2323 rfl (lv_at hl 2 rfl) ?_
  obtain ⟨P1, hO1, hP1⟩ := w_differencesByComparing l hsl G (LA s) hS (xs (nI (7 * i) + 1).toNatClampNeg)
  refine r_callSZ hx hb hml hown hts hE hA9 hW hl.1 hO1 gL_law_L_differencesByComparing rfl (by decide +kernel) (n := 3) rfl ⟨by decide, by decide, (show cells + 2 ≤ 603072 by omega), (show slots + 12 ≤ 7194730 by omega)⟩ (Nat.le_of_ble_eq_true rfl) dL_law_2324 rfl (fun e9 m9 hp => by obtain ⟨c1, b1, m2, S2, h1, -⟩ := hP1 _ _ hp; cases h1) (fun v1 m1 H locs hp hW => ?_)
  obtain ⟨c1, b1, m2, S2, h1, hy1, hf1, ht1, hq1, hS2⟩ := hP1 _ _ hp
  cases h1
  refine W.eq (g2 := F0 m 2327 ls [.int c1]) rfl ?_
  refine lv_istore (lv' := [(6, .int c1), (5, .int (nI (7 * i))), (4, .ref od), (3, .ref out), (2, .ref y), (1, .ref x), (0, .ref b)]) hx hb dL_law_2327 hl (by decide) rfl (fun ls hl => ?_)
  refine lv_aload_n hx hb dL_law_2329 rfl (lv_at hl 4 rfl) ?_
  refine lv_aload_n hx hb dL_law_2330 rfl (lv_at hl 6 rfl) ?_
  refine lv_iload hx hb dL_law_2331 (lv_at hl 1 rfl) ?_
  refine lv_iconst (v := 1) hx hb dL_law_2333 (by decide) ?_
  refine lv_iadd hx hb dL_law_2334 ?_
  refine va_sld hx hb hX hbl hbA hW.2 hin1 dL_law_2335 ?_
  refine r_callVZ (ci := 7) hx hb hml hown hts hE hA9 hW hl.1 (k_X5_differencesByComparing l hsl G (LA s) m1 y (xs (nI (7 * i) + 1).toNatClampNeg) _ hf1) gL_law_X5_differencesByComparing rfl hy1 (by decide) rfl (by decide +kernel) (n := 1) rfl ⟨by decide, by decide, (show cells + 2 + 0 ≤ 603072 by omega), (show slots + 12 + 0 ≤ 7194730 by omega)⟩ (Nat.le_of_ble_eq_true rfl) dL_law_2336 rfl (fun e9 m9 hp => by cases hp.1) (fun v2 m9 H locs hp hW9a => ?_)
  obtain ⟨h1, h2⟩ := hp
  cases h1
  replace h2 : m9 = m2 := h2
  subst h2
  have hW := hW9a
  refine W.eq (g2 := F0 m 2339 ls [.int b1]) rfl ?_
  refine lv_istore (lv' := [(7, .int b1), (6, .int c1), (5, .int (nI (7 * i))), (4, .ref od), (3, .ref out), (2, .ref y), (1, .ref x), (0, .ref b)]) hx hb dL_law_2339 hl (by decide) rfl (fun ls hl => ?_)
  refine lv_aload_n hx hb dL_law_2341 rfl (lv_at hl 5 rfl) ?_
  have hMy : ok9 m9 7 y := by obtain ⟨-, -, ⟨am, hM⟩, -⟩ := hS2; exact hM.1
  have hth : f_X5_thrown m9 y = some c1 := by
    unfold f_X5_thrown
    rw [getI_ok hMy, obs, ht1]
  refine r_callVZ (ci := 7) hx hb hml hown hts hE hA9 hW hl.1 (k_X5_thrown l hsl G (LA s) m9 y _ hth) gL_law_X5_thrown rfl hMy (by decide) rfl (by decide +kernel) (n := 0) rfl ⟨by decide, by decide, (show cells + 2 + 0 + 0 ≤ 603072 by omega), (show slots + 12 + 0 + 0 ≤ 7194730 by omega)⟩ (Nat.le_of_ble_eq_true rfl) dL_law_2342 rfl (fun e9 m9 hp => by cases hp.1) (fun v3 m8 H locs hp hW9b => ?_)
  obtain ⟨h1, h2⟩ := hp
  cases h1
  subst h2
  have hW := hW9b
  refine W.widen (k := cells + 20) (n := slots + 200) (show cells + 2 + 0 + 0 ≤ cells + 20 by omega) (show slots + 12 + 0 + 0 ≤ slots + 200 by omega) ?_
  refine W.eq (g2 := F0 m 2345 ls [.int c1]) rfl ?_
  refine lv_iload hx hb dL_law_2345 (lv_at hl 1 rfl) ?_
  refine lv_icmp_eq (tgt := 2352) hx hb dL_law_2347 (by decide) (fun _ => ?_) (fun hc => absurd rfl hc)
  refine lv_iload hx hb dL_law_2352 (lv_at hl 1 rfl) ?_
  refine lv_if_ne (tgt := 2369) hx hb dL_law_2354 (by decide) (fun _ => ?_) (fun hc0 => ?_)
  · refine lv_goto (tgt := 2610) hx hb dL_law_2369 (by decide) ?_
    exact K _ _ _ _ _ hS2 hW (lv_sub hl [2, 3, 4, 5, 6, 7] rfl)
  · have hq := hq1 hc0
    have hOO := hS2.2.2.2
    refine lv_aload_n hx hb dL_law_2357 rfl (lv_at hl 4 rfl) ?_
    refine lv_iconst (v := 0) hx hb dL_law_2358 (by decide) ?_
    refine r_lldK hx hb hE.1 hW (lld_ok hOO.1.1 hOO.1.2) dL_law_2359 ?_
    rw [hq]
    refine lv_iload hx hb dL_law_2360 (lv_at hl 0 rfl) ?_
    refine lv_i2l hx hb dL_law_2362 rfl ?_
    refine r_lcmpE hx hb dL_law_2363 ?_
    refine lv_if_eq (tgt := 2369) hx hb dL_law_2364 (by decide) (fun _ => ?_) (fun hc => absurd rfl hc)
    refine lv_goto (tgt := 2610) hx hb dL_law_2369 (by decide) ?_
    exact K _ _ _ _ _ hS2 hW (lv_sub hl [2, 3, 4, 5, 6, 7] rfl)
set_option maxHeartbeats 1000000 in
theorem cs_copied {p : Program} {l : Launch} {e : Env} {s : State} {m : MethodId} {below : List Frame} {meth : Method} {c : Code} {b L : Nat} {xs : Nat → Int32} {G : GG} {Q : State → Prop} (C : LC p l s m c b L xs G) {i : Nat} (hi : 7 * i + 7 ≤ L) {x y out od cells slots : Nat} {μ : Mem} {S : SS} {H : Heap} {locs : List Loc} {ls : Array Slot} (hS : Sm μ x y out od S) (hW : MW G (LA s) μ s.heap H locs) (hl : lv_has ls 9 [(5, .int (nI (7 * i))), (4, .ref od), (3, .ref out), (2, .ref y), (1, .ref x), (0, .ref b)]) (hR : cells + 20 ≤ 603072 ∧ slots + 200 ≤ 7194730) (K : Nx p l e s m below meth c b cells slots Q G x y out od i) :
    W p l e room_1 s m #[Value.ref b] below meth c H locs cells slots Q (F0 m 2372 ls []) := by
  obtain ⟨hx, hb, hml, hown, hts, hE, hX, hbl, hsl, hL⟩ := C
  have hA9 : ∀ q, s.heap.size ≤ q → LA s q := fun _ h => h
  have hbA : ¬ LA s b := Nat.not_le.mpr hbl
  have hin1 : vp_in (nI (7 * i) + 1) L := by rw [show nI (7 * i) + 1 = nI (7 * i + 1) from nI_add (7 * i) 1]; exact vp_in_nI (by omega) (by omega)
  refine lv_aload_n hx hb dL_law_2372 rfl (lv_at hl 4 rfl) ?_
  refine lv_aload_n hx hb dL_law_2373 rfl (lv_at hl 5 rfl) ?_
  refine lv_iload hx hb dL_law_2374 (lv_at hl 0 rfl) ?_
  refine lv_iconst (v := 1) hx hb dL_law_2376 (by decide) ?_
  refine lv_iadd hx hb dL_law_2377 ?_
  refine va_sld hx hb hX hbl hbA hW.2 hin1 dL_law_2378 ?_
  refine lv_aload_n hx hb dL_law_2379 rfl (lv_at hl 2 rfl) ?_
  obtain ⟨P1, hO1, hP1⟩ := w_copied l hsl G (LA s) hS (xs (nI (7 * i) + 1).toNatClampNeg)
  refine r_callSZ hx hb hml hown hts hE hA9 hW hl.1 hO1 gL_law_L_copied rfl (by decide +kernel) (n := 3) rfl ⟨by decide, by decide, (show cells + 2 ≤ 603072 by omega), (show slots + 12 ≤ 7194730 by omega)⟩ (Nat.le_of_ble_eq_true rfl) dL_law_2380 rfl (fun e9 m9 hp => by obtain ⟨c1, b1, m2, S2, h1, -⟩ := hP1 _ _ hp; cases h1) (fun v1 m1 H locs hp hW => ?_)
  obtain ⟨c1, b1, m2, S2, h1, hy1, hf1, ht1, hq1, hS2⟩ := hP1 _ _ hp
  cases h1
  refine W.eq (g2 := F0 m 2383 ls [.int c1]) rfl ?_
  refine lv_istore (lv' := [(6, .int c1), (5, .int (nI (7 * i))), (4, .ref od), (3, .ref out), (2, .ref y), (1, .ref x), (0, .ref b)]) hx hb dL_law_2383 hl (by decide) rfl (fun ls hl => ?_)
  refine lv_aload_n hx hb dL_law_2385 rfl (lv_at hl 4 rfl) ?_
  refine lv_aload_n hx hb dL_law_2386 rfl (lv_at hl 6 rfl) ?_
  refine lv_iload hx hb dL_law_2387 (lv_at hl 1 rfl) ?_
  refine lv_iconst (v := 1) hx hb dL_law_2389 (by decide) ?_
  refine lv_iadd hx hb dL_law_2390 ?_
  refine va_sld hx hb hX hbl hbA hW.2 hin1 dL_law_2391 ?_
  refine r_callVZ (ci := 7) hx hb hml hown hts hE hA9 hW hl.1 (k_X5_copied l hsl G (LA s) m1 y (xs (nI (7 * i) + 1).toNatClampNeg) _ hf1) gL_law_X5_copied rfl hy1 (by decide) rfl (by decide +kernel) (n := 1) rfl ⟨by decide, by decide, (show cells + 2 + 0 ≤ 603072 by omega), (show slots + 12 + 0 ≤ 7194730 by omega)⟩ (Nat.le_of_ble_eq_true rfl) dL_law_2392 rfl (fun e9 m9 hp => by cases hp.1) (fun v2 m9 H locs hp hW9a => ?_)
  obtain ⟨h1, h2⟩ := hp
  cases h1
  replace h2 : m9 = m2 := h2
  subst h2
  have hW := hW9a
  refine W.eq (g2 := F0 m 2395 ls [.int b1]) rfl ?_
  refine lv_istore (lv' := [(7, .int b1), (6, .int c1), (5, .int (nI (7 * i))), (4, .ref od), (3, .ref out), (2, .ref y), (1, .ref x), (0, .ref b)]) hx hb dL_law_2395 hl (by decide) rfl (fun ls hl => ?_)
  refine lv_aload_n hx hb dL_law_2397 rfl (lv_at hl 5 rfl) ?_
  have hMy : ok9 m9 7 y := by obtain ⟨-, -, ⟨am, hM⟩, -⟩ := hS2; exact hM.1
  have hth : f_X5_thrown m9 y = some c1 := by
    unfold f_X5_thrown
    rw [getI_ok hMy, obs, ht1]
  refine r_callVZ (ci := 7) hx hb hml hown hts hE hA9 hW hl.1 (k_X5_thrown l hsl G (LA s) m9 y _ hth) gL_law_X5_thrown rfl hMy (by decide) rfl (by decide +kernel) (n := 0) rfl ⟨by decide, by decide, (show cells + 2 + 0 + 0 ≤ 603072 by omega), (show slots + 12 + 0 + 0 ≤ 7194730 by omega)⟩ (Nat.le_of_ble_eq_true rfl) dL_law_2398 rfl (fun e9 m9 hp => by cases hp.1) (fun v3 m8 H locs hp hW9b => ?_)
  obtain ⟨h1, h2⟩ := hp
  cases h1
  subst h2
  have hW := hW9b
  refine W.widen (k := cells + 20) (n := slots + 200) (show cells + 2 + 0 + 0 ≤ cells + 20 by omega) (show slots + 12 + 0 + 0 ≤ slots + 200 by omega) ?_
  refine W.eq (g2 := F0 m 2401 ls [.int c1]) rfl ?_
  refine lv_iload hx hb dL_law_2401 (lv_at hl 1 rfl) ?_
  refine lv_icmp_eq (tgt := 2408) hx hb dL_law_2403 (by decide) (fun _ => ?_) (fun hc => absurd rfl hc)
  refine lv_iload hx hb dL_law_2408 (lv_at hl 1 rfl) ?_
  refine lv_if_ne (tgt := 2425) hx hb dL_law_2410 (by decide) (fun _ => ?_) (fun hc0 => ?_)
  · refine lv_goto (tgt := 2610) hx hb dL_law_2425 (by decide) ?_
    exact K _ _ _ _ _ hS2 hW (lv_sub hl [2, 3, 4, 5, 6, 7] rfl)
  · have hq := hq1 hc0
    have hOO := hS2.2.2.2
    refine lv_aload_n hx hb dL_law_2413 rfl (lv_at hl 4 rfl) ?_
    refine lv_iconst (v := 0) hx hb dL_law_2414 (by decide) ?_
    refine r_lldK hx hb hE.1 hW (lld_ok hOO.1.1 hOO.1.2) dL_law_2415 ?_
    rw [hq]
    refine lv_iload hx hb dL_law_2416 (lv_at hl 0 rfl) ?_
    refine lv_i2l hx hb dL_law_2418 rfl ?_
    refine r_lcmpE hx hb dL_law_2419 ?_
    refine lv_if_eq (tgt := 2425) hx hb dL_law_2420 (by decide) (fun _ => ?_) (fun hc => absurd rfl hc)
    refine lv_goto (tgt := 2610) hx hb dL_law_2425 (by decide) ?_
    exact K _ _ _ _ _ hS2 hW (lv_sub hl [2, 3, 4, 5, 6, 7] rfl)
set_option maxHeartbeats 1000000 in
theorem cs_ticks {p : Program} {l : Launch} {e : Env} {s : State} {m : MethodId} {below : List Frame} {meth : Method} {c : Code} {b L : Nat} {xs : Nat → Int32} {G : GG} {Q : State → Prop} (C : LC p l s m c b L xs G) {i : Nat} (hi : 7 * i + 7 ≤ L) {x y out od cells slots : Nat} {μ : Mem} {S : SS} {H : Heap} {locs : List Loc} {ls : Array Slot} (hS : Sm μ x y out od S) (hW : MW G (LA s) μ s.heap H locs) (hl : lv_has ls 9 [(5, .int (nI (7 * i))), (4, .ref od), (3, .ref out), (2, .ref y), (1, .ref x), (0, .ref b)]) (hR : cells + 20 ≤ 603072 ∧ slots + 200 ≤ 7194730) (K : Nx p l e s m below meth c b cells slots Q G x y out od i) :
    W p l e room_1 s m #[Value.ref b] below meth c H locs cells slots Q (F0 m 2428 ls []) := by
  obtain ⟨hx, hb, hml, hown, hts, hE, hX, hbl, hsl, hL⟩ := C
  have hA9 : ∀ q, s.heap.size ≤ q → LA s q := fun _ h => h
  have hbA : ¬ LA s b := Nat.not_le.mpr hbl
  obtain ⟨hI, ⟨ad, hB⟩, ⟨am, hM⟩, hO⟩ := id hS
  obtain ⟨v, e1, e2⟩ := o_ticks hB hI
  have e2 := e2 μ y am hM
  have hS2 : Sm (sI μ 7 0 y 0) x y out od S := ⟨hI, ⟨ad, hB.fr (hM.f0 0) (by decide)⟩, ⟨am, hM.s0 0⟩, hO.fr (hM.f0 0)⟩
  refine lv_aload_n hx hb dL_law_2428 rfl (lv_at hl 4 rfl) ?_
  refine r_callVZ (ci := 6) hx hb hml hown hts hE hA9 hW hl.1 (k_X4_ticks l hsl G (LA s) μ x _ e1) gL_law_X4_ticks rfl hB.1.1 (by decide) rfl (by decide +kernel) (n := 0) rfl ⟨by decide, by decide, (show cells + 0 ≤ 603072 by omega), (show slots + 0 ≤ 7194730 by omega)⟩ (Nat.le_of_ble_eq_true rfl) dL_law_2429 rfl (fun e9 m9 hp => by cases hp.1) (fun v2 m9 H locs hp hW9c => ?_)
  obtain ⟨h1, h2⟩ := hp
  cases h1
  subst h2
  have hW := hW9c
  refine W.eq (g2 := F0 m 2432 ls [.long v]) rfl ?_
  refine lv_aload_n hx hb dL_law_2432 rfl (lv_at hl 3 rfl) ?_
  refine r_callVZ (ci := 7) hx hb hml hown hts hE hA9 hW hl.1 (k_X5_ticks l hsl G (LA s) _ y _ e2) gL_law_X5_ticks rfl hM.1 (by decide) rfl (by decide +kernel) (n := 0) rfl ⟨by decide, by decide, (show cells + 0 + 0 ≤ 603072 by omega), (show slots + 0 + 0 ≤ 7194730 by omega)⟩ (Nat.le_of_ble_eq_true rfl) dL_law_2433 rfl (fun e9 m9 hp => by cases hp.1) (fun v2 m8 H locs hp hW9d => ?_)
  obtain ⟨h1, h2⟩ := hp
  cases h1
  replace h2 : m8 = sI m9 7 0 y 0 := h2
  subst h2
  have hW := hW9d
  refine W.widen (k := cells + 20) (n := slots + 200) (show cells + 0 + 0 ≤ cells + 20 by omega) (show slots + 0 + 0 ≤ slots + 200 by omega) ?_
  refine W.eq (g2 := F0 m 2436 ls [.long v, .long v]) rfl ?_
  refine r_lcmpE hx hb dL_law_2436 ?_
  refine lv_if_eq (tgt := 2610) hx hb dL_law_2437 (by decide) (fun _ => ?_) (fun hc => absurd rfl hc)
  exact K _ _ _ _ _ hS2 hW hl
set_option maxHeartbeats 1000000 in
theorem cs_meanPitch {p : Program} {l : Launch} {e : Env} {s : State} {m : MethodId} {below : List Frame} {meth : Method} {c : Code} {b L : Nat} {xs : Nat → Int32} {G : GG} {Q : State → Prop} (C : LC p l s m c b L xs G) {i : Nat} (hi : 7 * i + 7 ≤ L) {x y out od cells slots : Nat} {μ : Mem} {S : SS} {H : Heap} {locs : List Loc} {ls : Array Slot} (hS : Sm μ x y out od S) (hW : MW G (LA s) μ s.heap H locs) (hl : lv_has ls 9 [(5, .int (nI (7 * i))), (4, .ref od), (3, .ref out), (2, .ref y), (1, .ref x), (0, .ref b)]) (hR : cells + 20 ≤ 603072 ∧ slots + 200 ≤ 7194730) (K : Nx p l e s m below meth c b cells slots Q G x y out od i) :
    W p l e room_1 s m #[Value.ref b] below meth c H locs cells slots Q (F0 m 2442 ls []) := by
  obtain ⟨hx, hb, hml, hown, hts, hE, hX, hbl, hsl, hL⟩ := C
  have hA9 : ∀ q, s.heap.size ≤ q → LA s q := fun _ h => h
  have hbA : ¬ LA s b := Nat.not_le.mpr hbl
  have hin1 : vp_in (nI (7 * i) + 1) L := by rw [show nI (7 * i) + 1 = nI (7 * i + 1) from nI_add (7 * i) 1]; exact vp_in_nI (by omega) (by omega)
  refine lv_aload_n hx hb dL_law_2442 rfl (lv_at hl 4 rfl) ?_
  refine lv_aload_n hx hb dL_law_2443 rfl (lv_at hl 5 rfl) ?_
  refine lv_iload hx hb dL_law_2444 (lv_at hl 0 rfl) ?_
  refine lv_iconst (v := 1) hx hb dL_law_2446 (by decide) ?_
  refine lv_iadd hx hb dL_law_2447 ?_
  refine va_sld hx hb hX hbl hbA hW.2 hin1 dL_law_2448 ?_
  refine lv_aload hx hb dL_law_2449 (lv_at hl 1 rfl) ?_
  obtain ⟨P1, hO1, hP1⟩ := w_meanPitch l hsl G (LA s) hS (xs (nI (7 * i) + 1).toNatClampNeg)
  refine r_callSZ hx hb hml hown hts hE hA9 hW hl.1 hO1 gL_law_L_meanPitch rfl (by decide +kernel) (n := 3) rfl ⟨by decide, by decide, (show cells + 2 ≤ 603072 by omega), (show slots + 12 ≤ 7194730 by omega)⟩ (Nat.le_of_ble_eq_true rfl) dL_law_2451 rfl (fun e9 m9 hp => by obtain ⟨c1, b1, m2, S2, h1, -⟩ := hP1 _ _ hp; cases h1) (fun v1 m1 H locs hp hW => ?_)
  obtain ⟨c1, b1, m2, S2, h1, hy1, hf1, ht1, hq1, hS2⟩ := hP1 _ _ hp
  cases h1
  refine W.eq (g2 := F0 m 2454 ls [.int c1]) rfl ?_
  refine lv_istore (lv' := [(6, .int c1), (5, .int (nI (7 * i))), (4, .ref od), (3, .ref out), (2, .ref y), (1, .ref x), (0, .ref b)]) hx hb dL_law_2454 hl (by decide) rfl (fun ls hl => ?_)
  refine lv_aload_n hx hb dL_law_2456 rfl (lv_at hl 4 rfl) ?_
  refine lv_aload_n hx hb dL_law_2457 rfl (lv_at hl 6 rfl) ?_
  refine lv_iload hx hb dL_law_2458 (lv_at hl 1 rfl) ?_
  refine lv_iconst (v := 1) hx hb dL_law_2460 (by decide) ?_
  refine lv_iadd hx hb dL_law_2461 ?_
  refine va_sld hx hb hX hbl hbA hW.2 hin1 dL_law_2462 ?_
  refine r_callVZ (ci := 7) hx hb hml hown hts hE hA9 hW hl.1 (k_X5_meanPitch l hsl G (LA s) m1 y (xs (nI (7 * i) + 1).toNatClampNeg) _ hf1) gL_law_X5_meanPitch rfl hy1 (by decide) rfl (by decide +kernel) (n := 1) rfl ⟨by decide, by decide, (show cells + 2 + 0 ≤ 603072 by omega), (show slots + 12 + 0 ≤ 7194730 by omega)⟩ (Nat.le_of_ble_eq_true rfl) dL_law_2463 rfl (fun e9 m9 hp => by cases hp.1) (fun v2 m9 H locs hp hW9a => ?_)
  obtain ⟨h1, h2⟩ := hp
  cases h1
  replace h2 : m9 = m2 := h2
  subst h2
  have hW := hW9a
  refine W.eq (g2 := F0 m 2466 ls [.double b1]) rfl ?_
  refine lv_dstore (lv' := [(7, .double b1), (6, .int c1), (5, .int (nI (7 * i))), (4, .ref od), (3, .ref out), (2, .ref y), (1, .ref x), (0, .ref b)]) hx hb dL_law_2466 hl (by decide) rfl (fun ls hl => ?_)
  refine lv_aload_n hx hb dL_law_2468 rfl (lv_at hl 5 rfl) ?_
  have hMy : ok9 m9 7 y := by obtain ⟨-, -, ⟨am, hM⟩, -⟩ := hS2; exact hM.1
  have hth : f_X5_thrown m9 y = some c1 := by
    unfold f_X5_thrown
    rw [getI_ok hMy, obs, ht1]
  refine r_callVZ (ci := 7) hx hb hml hown hts hE hA9 hW hl.1 (k_X5_thrown l hsl G (LA s) m9 y _ hth) gL_law_X5_thrown rfl hMy (by decide) rfl (by decide +kernel) (n := 0) rfl ⟨by decide, by decide, (show cells + 2 + 0 + 0 ≤ 603072 by omega), (show slots + 12 + 0 + 0 ≤ 7194730 by omega)⟩ (Nat.le_of_ble_eq_true rfl) dL_law_2469 rfl (fun e9 m9 hp => by cases hp.1) (fun v3 m8 H locs hp hW9b => ?_)
  obtain ⟨h1, h2⟩ := hp
  cases h1
  subst h2
  have hW := hW9b
  refine W.widen (k := cells + 20) (n := slots + 200) (show cells + 2 + 0 + 0 ≤ cells + 20 by omega) (show slots + 12 + 0 + 0 ≤ slots + 200 by omega) ?_
  refine W.eq (g2 := F0 m 2472 ls [.int c1]) rfl ?_
  refine lv_iload hx hb dL_law_2472 (lv_at hl 1 rfl) ?_
  refine lv_icmp_eq (tgt := 2479) hx hb dL_law_2474 (by decide) (fun _ => ?_) (fun hc => absurd rfl hc)
  refine lv_iload hx hb dL_law_2479 (lv_at hl 1 rfl) ?_
  refine lv_if_ne (tgt := 2516) hx hb dL_law_2481 (by decide) (fun _ => ?_) (fun hc0 => ?_)
  · refine lv_goto (tgt := 2610) hx hb dL_law_2516 (by decide) ?_
    exact K _ _ _ _ _ hS2 hW (lv_sub hl [2, 3, 4, 5, 6, 7] rfl)
  · have hq := hq1 hc0
    have hOO := hS2.2.2.2
    refine lv_aload hx hb dL_law_2484 (lv_at hl 3 rfl) ?_
    refine lv_iconst (v := 0) hx hb dL_law_2486 (by decide) ?_
    refine r_dldK hx hb hE.1 hW (dld_ok hOO.2.1 hOO.2.2) dL_law_2487 ?_
    rw [hq.1]
    refine lv_dload hx hb dL_law_2488 (lv_at hl 0 rfl) ?_
    refine lv_dcmp hx hb dL_law_2490 ?_
    rw [dcmp_self hq.2]
    refine lv_if_eq (tgt := 2516) hx hb dL_law_2491 (by decide) (fun _ => ?_) (fun hc => absurd rfl hc)
    refine lv_goto (tgt := 2610) hx hb dL_law_2516 (by decide) ?_
    exact K _ _ _ _ _ hS2 hW (lv_sub hl [2, 3, 4, 5, 6, 7] rfl)
set_option maxHeartbeats 1000000 in
theorem cs_restShare {p : Program} {l : Launch} {e : Env} {s : State} {m : MethodId} {below : List Frame} {meth : Method} {c : Code} {b L : Nat} {xs : Nat → Int32} {G : GG} {Q : State → Prop} (C : LC p l s m c b L xs G) {i : Nat} (hi : 7 * i + 7 ≤ L) {x y out od cells slots : Nat} {μ : Mem} {S : SS} {H : Heap} {locs : List Loc} {ls : Array Slot} (hS : Sm μ x y out od S) (hW : MW G (LA s) μ s.heap H locs) (hl : lv_has ls 9 [(5, .int (nI (7 * i))), (4, .ref od), (3, .ref out), (2, .ref y), (1, .ref x), (0, .ref b)]) (hR : cells + 20 ≤ 603072 ∧ slots + 200 ≤ 7194730) (K : Nx p l e s m below meth c b cells slots Q G x y out od i) :
    W p l e room_1 s m #[Value.ref b] below meth c H locs cells slots Q (F0 m 2519 ls []) := by
  obtain ⟨hx, hb, hml, hown, hts, hE, hX, hbl, hsl, hL⟩ := C
  have hA9 : ∀ q, s.heap.size ≤ q → LA s q := fun _ h => h
  have hbA : ¬ LA s b := Nat.not_le.mpr hbl
  have hin1 : vp_in (nI (7 * i) + 1) L := by rw [show nI (7 * i) + 1 = nI (7 * i + 1) from nI_add (7 * i) 1]; exact vp_in_nI (by omega) (by omega)
  refine lv_aload_n hx hb dL_law_2519 rfl (lv_at hl 4 rfl) ?_
  refine lv_aload_n hx hb dL_law_2520 rfl (lv_at hl 5 rfl) ?_
  refine lv_iload hx hb dL_law_2521 (lv_at hl 0 rfl) ?_
  refine lv_iconst (v := 1) hx hb dL_law_2523 (by decide) ?_
  refine lv_iadd hx hb dL_law_2524 ?_
  refine va_sld hx hb hX hbl hbA hW.2 hin1 dL_law_2525 ?_
  refine lv_aload hx hb dL_law_2526 (lv_at hl 1 rfl) ?_
  obtain ⟨P1, hO1, hP1⟩ := w_restShare l hsl G (LA s) hS (xs (nI (7 * i) + 1).toNatClampNeg)
  refine r_callSZ hx hb hml hown hts hE hA9 hW hl.1 hO1 gL_law_L_restShare rfl (by decide +kernel) (n := 3) rfl ⟨by decide, by decide, (show cells + 2 ≤ 603072 by omega), (show slots + 12 ≤ 7194730 by omega)⟩ (Nat.le_of_ble_eq_true rfl) dL_law_2528 rfl (fun e9 m9 hp => by obtain ⟨c1, b1, m2, S2, h1, -⟩ := hP1 _ _ hp; cases h1) (fun v1 m1 H locs hp hW => ?_)
  obtain ⟨c1, b1, m2, S2, h1, hy1, hf1, ht1, hq1, hS2⟩ := hP1 _ _ hp
  cases h1
  refine W.eq (g2 := F0 m 2531 ls [.int c1]) rfl ?_
  refine lv_istore (lv' := [(6, .int c1), (5, .int (nI (7 * i))), (4, .ref od), (3, .ref out), (2, .ref y), (1, .ref x), (0, .ref b)]) hx hb dL_law_2531 hl (by decide) rfl (fun ls hl => ?_)
  refine lv_aload_n hx hb dL_law_2533 rfl (lv_at hl 4 rfl) ?_
  refine lv_aload_n hx hb dL_law_2534 rfl (lv_at hl 6 rfl) ?_
  refine lv_iload hx hb dL_law_2535 (lv_at hl 1 rfl) ?_
  refine lv_iconst (v := 1) hx hb dL_law_2537 (by decide) ?_
  refine lv_iadd hx hb dL_law_2538 ?_
  refine va_sld hx hb hX hbl hbA hW.2 hin1 dL_law_2539 ?_
  refine r_callVZ (ci := 7) hx hb hml hown hts hE hA9 hW hl.1 (k_X5_restShare l hsl G (LA s) m1 y (xs (nI (7 * i) + 1).toNatClampNeg) _ hf1) gL_law_X5_restShare rfl hy1 (by decide) rfl (by decide +kernel) (n := 1) rfl ⟨by decide, by decide, (show cells + 2 + 0 ≤ 603072 by omega), (show slots + 12 + 0 ≤ 7194730 by omega)⟩ (Nat.le_of_ble_eq_true rfl) dL_law_2540 rfl (fun e9 m9 hp => by cases hp.1) (fun v2 m9 H locs hp hW9a => ?_)
  obtain ⟨h1, h2⟩ := hp
  cases h1
  replace h2 : m9 = m2 := h2
  subst h2
  have hW := hW9a
  refine W.eq (g2 := F0 m 2543 ls [.float b1]) rfl ?_
  refine lv_fstore (lv' := [(7, .float b1), (6, .int c1), (5, .int (nI (7 * i))), (4, .ref od), (3, .ref out), (2, .ref y), (1, .ref x), (0, .ref b)]) hx hb dL_law_2543 hl (by decide) rfl (fun ls hl => ?_)
  refine lv_aload_n hx hb dL_law_2545 rfl (lv_at hl 5 rfl) ?_
  have hMy : ok9 m9 7 y := by obtain ⟨-, -, ⟨am, hM⟩, -⟩ := hS2; exact hM.1
  have hth : f_X5_thrown m9 y = some c1 := by
    unfold f_X5_thrown
    rw [getI_ok hMy, obs, ht1]
  refine r_callVZ (ci := 7) hx hb hml hown hts hE hA9 hW hl.1 (k_X5_thrown l hsl G (LA s) m9 y _ hth) gL_law_X5_thrown rfl hMy (by decide) rfl (by decide +kernel) (n := 0) rfl ⟨by decide, by decide, (show cells + 2 + 0 + 0 ≤ 603072 by omega), (show slots + 12 + 0 + 0 ≤ 7194730 by omega)⟩ (Nat.le_of_ble_eq_true rfl) dL_law_2546 rfl (fun e9 m9 hp => by cases hp.1) (fun v3 m8 H locs hp hW9b => ?_)
  obtain ⟨h1, h2⟩ := hp
  cases h1
  subst h2
  have hW := hW9b
  refine W.widen (k := cells + 20) (n := slots + 200) (show cells + 2 + 0 + 0 ≤ cells + 20 by omega) (show slots + 12 + 0 + 0 ≤ slots + 200 by omega) ?_
  refine W.eq (g2 := F0 m 2549 ls [.int c1]) rfl ?_
  refine lv_iload hx hb dL_law_2549 (lv_at hl 1 rfl) ?_
  refine lv_icmp_eq (tgt := 2556) hx hb dL_law_2551 (by decide) (fun _ => ?_) (fun hc => absurd rfl hc)
  refine lv_iload hx hb dL_law_2556 (lv_at hl 1 rfl) ?_
  refine lv_if_ne (tgt := 2594) hx hb dL_law_2558 (by decide) (fun _ => ?_) (fun hc0 => ?_)
  · refine lv_goto (tgt := 2610) hx hb dL_law_2594 (by decide) ?_
    exact K _ _ _ _ _ hS2 hW (lv_sub hl [2, 3, 4, 5, 6, 7] rfl)
  · have hq := hq1 hc0
    have hOO := hS2.2.2.2
    refine lv_aload hx hb dL_law_2561 (lv_at hl 3 rfl) ?_
    refine lv_iconst (v := 0) hx hb dL_law_2563 (by decide) ?_
    refine r_dldK hx hb hE.1 hW (dld_ok hOO.2.1 hOO.2.2) dL_law_2564 ?_
    rw [hq.1]
    refine lv_fload hx hb dL_law_2565 (lv_at hl 0 rfl) ?_
    refine lv_f2d hx hb dL_law_2567 hq.2 ?_
    refine lv_dcmp hx hb dL_law_2568 ?_
    rw [dcmp_self hq.2]
    refine lv_if_eq (tgt := 2594) hx hb dL_law_2569 (by decide) (fun _ => ?_) (fun hc => absurd rfl hc)
    refine lv_goto (tgt := 2610) hx hb dL_law_2594 (by decide) ?_
    exact K _ _ _ _ _ hS2 hW (lv_sub hl [2, 3, 4, 5, 6, 7] rfl)
set_option maxHeartbeats 1000000 in
theorem cs_isTrue {p : Program} {l : Launch} {e : Env} {s : State} {m : MethodId} {below : List Frame} {meth : Method} {c : Code} {b L : Nat} {xs : Nat → Int32} {G : GG} {Q : State → Prop} (C : LC p l s m c b L xs G) {i : Nat} (hi : 7 * i + 7 ≤ L) {x y out od cells slots : Nat} {μ : Mem} {S : SS} {H : Heap} {locs : List Loc} {ls : Array Slot} (hS : Sm μ x y out od S) (hW : MW G (LA s) μ s.heap H locs) (hl : lv_has ls 9 [(5, .int (nI (7 * i))), (4, .ref od), (3, .ref out), (2, .ref y), (1, .ref x), (0, .ref b)]) (hR : cells + 20 ≤ 603072 ∧ slots + 200 ≤ 7194730) (K : Nx p l e s m below meth c b cells slots Q G x y out od i) :
    W p l e room_1 s m #[Value.ref b] below meth c H locs cells slots Q (F0 m 2597 ls []) := by
  obtain ⟨hx, hb, hml, hown, hts, hE, hX, hbl, hsl, hL⟩ := C
  have hA9 : ∀ q, s.heap.size ≤ q → LA s q := fun _ h => h
  have hbA : ¬ LA s b := Nat.not_le.mpr hbl
  obtain ⟨hI, ⟨ad, hB⟩, ⟨am, hM⟩, hO⟩ := id hS
  obtain ⟨m1, e1, hB1, hf1, e2⟩ := o_isTrue hB hI
  have hM1 := hM.fr hf1 (by decide)
  have e2 := e2 m1 y am hM1
  have hS2 : Sm (sI m1 7 0 y 0) x y out od S := ⟨hI, ⟨ad, hB1.fr (hM1.f0 0) (by decide)⟩, ⟨am, hM1.s0 0⟩, (hO.fr hf1).fr (hM1.f0 0)⟩
  refine lv_aload_n hx hb dL_law_2597 rfl (lv_at hl 4 rfl) ?_
  refine r_callVZ (ci := 6) hx hb hml hown hts hE hA9 hW hl.1 (k_X4_isTrue l hsl G (LA s) μ x _ e1) gL_law_X4_isTrue rfl hB.1.1 (by decide) rfl (by decide +kernel) (n := 0) rfl ⟨by decide, by decide, (show cells + 0 ≤ 603072 by omega), (show slots + 0 ≤ 7194730 by omega)⟩ (Nat.le_of_ble_eq_true rfl) dL_law_2598 rfl (fun e9 m9 hp => by cases hp.1) (fun v2 m9 H locs hp hW9e => ?_)
  obtain ⟨h1, h2⟩ := hp
  cases h1
  replace h2 : m9 = m1 := h2
  subst h2
  have hW := hW9e
  refine W.eq (g2 := F0 m 2601 ls [.int 1]) rfl ?_
  refine lv_aload_n hx hb dL_law_2601 rfl (lv_at hl 3 rfl) ?_
  refine r_callVZ (ci := 7) hx hb hml hown hts hE hA9 hW hl.1 (k_X5_isTrue l hsl G (LA s) m9 y _ e2) gL_law_X5_isTrue rfl hM1.1 (by decide) rfl (by decide +kernel) (n := 0) rfl ⟨by decide, by decide, (show cells + 0 + 0 ≤ 603072 by omega), (show slots + 0 + 0 ≤ 7194730 by omega)⟩ (Nat.le_of_ble_eq_true rfl) dL_law_2602 rfl (fun e9 m9 hp => by cases hp.1) (fun v2 m8 H locs hp hW9f => ?_)
  obtain ⟨h1, h2⟩ := hp
  cases h1
  replace h2 : m8 = sI m9 7 0 y 0 := h2
  subst h2
  have hW := hW9f
  refine W.widen (k := cells + 20) (n := slots + 200) (show cells + 0 + 0 ≤ cells + 20 by omega) (show slots + 0 + 0 ≤ slots + 200 by omega) ?_
  refine W.eq (g2 := F0 m 2605 ls [.int 1, .int 1]) rfl ?_
  refine lv_icmp_eq (tgt := 2610) hx hb dL_law_2605 (by decide) (fun _ => ?_) (fun hc => absurd rfl hc)
  exact K _ _ _ _ _ hS2 hW hl
