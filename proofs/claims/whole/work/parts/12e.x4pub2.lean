def f_X4_restFirst (mu : Mem) (x0 : Nat) (x1 : Int32) (x2 : Int32) : Option ((Nat ⊕ Int32) × Mem) := (chk mu 6 x0).bind fun _ => (f_X4_knownPart mu x0 x1).bind fun t2 => sml t2 (fun e4 => some ((.inl e4), mu)) (fun v5 => (getQ mu 6 3 x0).bind fun t6 => (chk mu 6 x0).bind fun _ => bi2 (f_X4_knownRest mu x0 x1 x2) (fun (t9 : Nat ⊕ (Int32)) m11 => sml t9 (fun e12 => some ((.inl e12), m11)) (fun v13 => t6.bind fun a14 => (chk m11 3 a14).bind fun _ => (f_X1_firstBarOf m11 a14 v13).bind fun t17 => some ((.inr t17), m11))))
set_option maxHeartbeats 1000000 in
set_option maxRecDepth 100000 in
theorem k_X4_restFirst (l : Launch) (hsl : l.stackTraces = false) (G : GG) (A : Nat → Prop) (mu : Mem) (x0 : Nat) (x1 : Int32) (x2 : Int32) (r : (Nat ⊕ Int32) × Mem) (hf : f_X4_restFirst mu x0 x1 x2 = some r) : Ok l yX4_restFirst wsX4_restFirst ({ frames := 16, cells := 2, slots := 12, locals := 310 } : Room) [.ref x0, .int x1, .int x2] G A mu (dP (rIx r.1) r.2) := by
  refine Ok.start (cc := cX4_restFirst) (maxL := 3) (ret := (some .int)) rfl (by decide +kernel) hsl (by first | exact Nat.le_of_ble_eq_true rfl | simp [lg_sl, cat_rf, Value.category]) ?_
  intro p e s m args below meth c ls X hr hname hW hl
  have X : BX p l s m args meth c cX4_restFirst 3 RX4 wsX4_restFirst G A := X
  have hx := X.1
  have hb := X.2.1
  have hts := X.2.2.2.2.1
  have hl : lv_has ls 3 [(0, .ref x0), (1, .int x1), (2, .int x2)] := hl
  have hinX4 : ∀ w ∈ wsX40, w ∈ wsX4_restFirst := by decide +kernel
  have hF30 : (Cond.fieldLink RX4 30 "PartcopyistBench" "blocks" "LPartcopyistBench$Blocks;").before args s = true := hts _ (by decide +kernel)
  unfold f_X4_restFirst at hf
  refine lv_aload_n hx hb dX4_restFirst_0 rfl (lv_at hl 0 rfl) ?_
  refine lv_iload_n hx hb dX4_restFirst_1 rfl (lv_at hl 1 rfl) ?_
  replace hf := bnd hf
  obtain ⟨_, h1, hf⟩ := hf
  replace hf := bnd hf
  obtain ⟨t2, h3, hf⟩ := hf
  replace hf := smc hf
  rcases hf with ⟨e4, hq, hf⟩ | ⟨v5, hq, hf⟩
  · subst hq
    exact r_callV_thr X hW hl.1 (k_X4_knownPart l hsl G A mu x0 x1 _ h3) gX4_restFirst_X4_knownPart rfl (chk_ok h1) (by decide) rfl (by decide +kernel) (n := 1) rfl (by decide) (Nat.le_of_ble_eq_true rfl) dX4_restFirst_2 rfl rfl (by cases hf; exact ⟨rfl, rfl⟩)
  · subst hq
    refine r_callV_ok X hW hl.1 (k_X4_knownPart l hsl G A mu x0 x1 _ h3) gX4_restFirst_X4_knownPart rfl (chk_ok h1) (by decide) rfl (by decide +kernel) (n := 1) rfl (by decide) (Nat.le_of_ble_eq_true rfl) dX4_restFirst_2 rfl rfl (stk := [va_rf v5]) rfl (fun H locs hW => ?_)
    refine lv_pop hx hb dX4_restFirst_5 (cat_rf _) ?_
    refine lv_aload_n hx hb dX4_restFirst_6 rfl (lv_at hl 0 rfl) ?_
    replace hf := bnd hf
    obtain ⟨t6, h7, hf⟩ := hf
    refine g_6_3 X hW hinX4 hF30 h7 dX4_restFirst_7 ?_
    refine lv_aload_n hx hb dX4_restFirst_10 rfl (lv_at hl 0 rfl) ?_
    refine lv_iload_n hx hb dX4_restFirst_11 rfl (lv_at hl 1 rfl) ?_
    refine lv_iload_n hx hb dX4_restFirst_12 rfl (lv_at hl 2 rfl) ?_
    replace hf := bnd hf
    obtain ⟨_, h8, hf⟩ := hf
    replace hf := bnd2 hf
    obtain ⟨t9, m11, h10, hf⟩ := hf
    replace hf := smc hf
    rcases hf with ⟨e12, hq, hf⟩ | ⟨v13, hq, hf⟩
    · subst hq
      exact r_callV_thr (μ9 := m11) X hW hl.1 (k_X4_knownRest l hsl G A mu x0 x1 x2 _ h10) gX4_restFirst_X4_knownRest rfl (chk_ok h8) (by decide) rfl (by decide +kernel) (n := 2) rfl (by decide) (by cases t6 <;> exact Nat.le_of_ble_eq_true rfl) dX4_restFirst_13 rfl rfl (by cases hf; exact ⟨rfl, rfl⟩)
    · subst hq
      refine r_callV_ok (μ9 := m11) X hW hl.1 (k_X4_knownRest l hsl G A mu x0 x1 x2 _ h10) gX4_restFirst_X4_knownRest rfl (chk_ok h8) (by decide) rfl (by decide +kernel) (n := 2) rfl (by decide) (by cases t6 <;> exact Nat.le_of_ble_eq_true rfl) dX4_restFirst_13 rfl rfl (stk := [.int v13, va_rf t6]) rfl (fun H locs hW => ?_)
      replace hf := bnd hf
      obtain ⟨a14, h15, hf⟩ := hf
      subst h15
      replace hf := bnd hf
      obtain ⟨_, h16, hf⟩ := hf
      replace hf := bnd hf
      obtain ⟨t17, h18, hf⟩ := hf
      refine r_callV_ok X hW hl.1 (k_X1_firstBarOf l hsl G A m11 a14 v13 _ h18) gX4_restFirst_X1_firstBarOf rfl (chk_ok h16) (by decide) rfl (by decide +kernel) (n := 1) rfl (by decide) (Nat.le_of_ble_eq_true rfl) dX4_restFirst_16 rfl rfl (stk := [.int t17]) rfl (fun H locs hW => ?_)
      exact r_iret X hr hW (by cases hf; exact ⟨rfl, rfl⟩) (by decide) (by decide) dX4_restFirst_19

def f_X4_restBars (mu : Mem) (x0 : Nat) (x1 : Int32) (x2 : Int32) : Option ((Nat ⊕ Int32) × Mem) := (chk mu 6 x0).bind fun _ => (f_X4_knownPart mu x0 x1).bind fun t2 => sml t2 (fun e4 => some ((.inl e4), mu)) (fun v5 => (getQ mu 6 3 x0).bind fun t6 => (chk mu 6 x0).bind fun _ => bi2 (f_X4_knownRest mu x0 x1 x2) (fun (t9 : Nat ⊕ (Int32)) m11 => sml t9 (fun e12 => some ((.inl e12), m11)) (fun v13 => t6.bind fun a14 => (chk m11 3 a14).bind fun _ => (f_X1_barsOf m11 a14 v13).bind fun t17 => some ((.inr t17), m11))))
set_option maxHeartbeats 1000000 in
set_option maxRecDepth 100000 in
theorem k_X4_restBars (l : Launch) (hsl : l.stackTraces = false) (G : GG) (A : Nat → Prop) (mu : Mem) (x0 : Nat) (x1 : Int32) (x2 : Int32) (r : (Nat ⊕ Int32) × Mem) (hf : f_X4_restBars mu x0 x1 x2 = some r) : Ok l yX4_restBars wsX4_restBars ({ frames := 16, cells := 2, slots := 12, locals := 310 } : Room) [.ref x0, .int x1, .int x2] G A mu (dP (rIx r.1) r.2) := by
  refine Ok.start (cc := cX4_restBars) (maxL := 3) (ret := (some .int)) rfl (by decide +kernel) hsl (by first | exact Nat.le_of_ble_eq_true rfl | simp [lg_sl, cat_rf, Value.category]) ?_
  intro p e s m args below meth c ls X hr hname hW hl
  have X : BX p l s m args meth c cX4_restBars 3 RX4 wsX4_restBars G A := X
  have hx := X.1
  have hb := X.2.1
  have hts := X.2.2.2.2.1
  have hl : lv_has ls 3 [(0, .ref x0), (1, .int x1), (2, .int x2)] := hl
  have hinX4 : ∀ w ∈ wsX40, w ∈ wsX4_restBars := by decide +kernel
  have hF30 : (Cond.fieldLink RX4 30 "PartcopyistBench" "blocks" "LPartcopyistBench$Blocks;").before args s = true := hts _ (by decide +kernel)
  unfold f_X4_restBars at hf
  refine lv_aload_n hx hb dX4_restBars_0 rfl (lv_at hl 0 rfl) ?_
  refine lv_iload_n hx hb dX4_restBars_1 rfl (lv_at hl 1 rfl) ?_
  replace hf := bnd hf
  obtain ⟨_, h1, hf⟩ := hf
  replace hf := bnd hf
  obtain ⟨t2, h3, hf⟩ := hf
  replace hf := smc hf
  rcases hf with ⟨e4, hq, hf⟩ | ⟨v5, hq, hf⟩
  · subst hq
    exact r_callV_thr X hW hl.1 (k_X4_knownPart l hsl G A mu x0 x1 _ h3) gX4_restBars_X4_knownPart rfl (chk_ok h1) (by decide) rfl (by decide +kernel) (n := 1) rfl (by decide) (Nat.le_of_ble_eq_true rfl) dX4_restBars_2 rfl rfl (by cases hf; exact ⟨rfl, rfl⟩)
  · subst hq
    refine r_callV_ok X hW hl.1 (k_X4_knownPart l hsl G A mu x0 x1 _ h3) gX4_restBars_X4_knownPart rfl (chk_ok h1) (by decide) rfl (by decide +kernel) (n := 1) rfl (by decide) (Nat.le_of_ble_eq_true rfl) dX4_restBars_2 rfl rfl (stk := [va_rf v5]) rfl (fun H locs hW => ?_)
    refine lv_pop hx hb dX4_restBars_5 (cat_rf _) ?_
    refine lv_aload_n hx hb dX4_restBars_6 rfl (lv_at hl 0 rfl) ?_
    replace hf := bnd hf
    obtain ⟨t6, h7, hf⟩ := hf
    refine g_6_3 X hW hinX4 hF30 h7 dX4_restBars_7 ?_
    refine lv_aload_n hx hb dX4_restBars_10 rfl (lv_at hl 0 rfl) ?_
    refine lv_iload_n hx hb dX4_restBars_11 rfl (lv_at hl 1 rfl) ?_
    refine lv_iload_n hx hb dX4_restBars_12 rfl (lv_at hl 2 rfl) ?_
    replace hf := bnd hf
    obtain ⟨_, h8, hf⟩ := hf
    replace hf := bnd2 hf
    obtain ⟨t9, m11, h10, hf⟩ := hf
    replace hf := smc hf
    rcases hf with ⟨e12, hq, hf⟩ | ⟨v13, hq, hf⟩
    · subst hq
      exact r_callV_thr (μ9 := m11) X hW hl.1 (k_X4_knownRest l hsl G A mu x0 x1 x2 _ h10) gX4_restBars_X4_knownRest rfl (chk_ok h8) (by decide) rfl (by decide +kernel) (n := 2) rfl (by decide) (by cases t6 <;> exact Nat.le_of_ble_eq_true rfl) dX4_restBars_13 rfl rfl (by cases hf; exact ⟨rfl, rfl⟩)
    · subst hq
      refine r_callV_ok (μ9 := m11) X hW hl.1 (k_X4_knownRest l hsl G A mu x0 x1 x2 _ h10) gX4_restBars_X4_knownRest rfl (chk_ok h8) (by decide) rfl (by decide +kernel) (n := 2) rfl (by decide) (by cases t6 <;> exact Nat.le_of_ble_eq_true rfl) dX4_restBars_13 rfl rfl (stk := [.int v13, va_rf t6]) rfl (fun H locs hW => ?_)
      replace hf := bnd hf
      obtain ⟨a14, h15, hf⟩ := hf
      subst h15
      replace hf := bnd hf
      obtain ⟨_, h16, hf⟩ := hf
      replace hf := bnd hf
      obtain ⟨t17, h18, hf⟩ := hf
      refine r_callV_ok X hW hl.1 (k_X1_barsOf l hsl G A m11 a14 v13 _ h18) gX4_restBars_X1_barsOf rfl (chk_ok h16) (by decide) rfl (by decide +kernel) (n := 1) rfl (by decide) (Nat.le_of_ble_eq_true rfl) dX4_restBars_16 rfl rfl (stk := [.int t17]) rfl (fun H locs hW => ?_)
      exact r_iret X hr hW (by cases hf; exact ⟨rfl, rfl⟩) (by decide) (by decide) dX4_restBars_19

def f_X4_setPage (mu : Mem) (x0 : Nat) (x1 : Int32) : Option ((Nat ⊕ Int32) × Mem) := if x1 < 1 then (some ((.inl 1), mu)) else (if x1 ≤ 60 then ((getI mu 6 7 x0).bind fun t1 => (putI mu 6 7 x0 x1).bind fun m3 => some ((.inr t1), m3)) else (some ((.inl 1), mu)))
set_option maxHeartbeats 1000000 in
set_option maxRecDepth 100000 in
theorem k_X4_setPage (l : Launch) (hsl : l.stackTraces = false) (G : GG) (A : Nat → Prop) (mu : Mem) (x0 : Nat) (x1 : Int32) (r : (Nat ⊕ Int32) × Mem) (hf : f_X4_setPage mu x0 x1 = some r) : Ok l yX4_setPage wsX4_setPage ({ frames := 6, cells := 1, slots := 6, locals := 110 } : Room) [.ref x0, .int x1] G A mu (dP (rIx r.1) r.2) := by
  refine Ok.start (cc := cX4_setPage) (maxL := 3) (ret := (some .int)) rfl (by decide +kernel) hsl (by first | exact Nat.le_of_ble_eq_true rfl | simp [lg_sl, cat_rf, Value.category]) ?_
  intro p e s m args below meth c ls X hr hname hW hl
  have X : BX p l s m args meth c cX4_setPage 3 RX4 wsX4_setPage G A := X
  have hx := X.1
  have hb := X.2.1
  have hts := X.2.2.2.2.1
  have hl : lv_has ls 3 [(0, .ref x0), (1, .int x1)] := hl
  have hinX4 : ∀ w ∈ wsX40, w ∈ wsX4_setPage := by decide +kernel
  have hF44 : (Cond.fieldLink RX4 44 "PartcopyistBench" "pagePlaces" "I").before args s = true := hts _ (by decide +kernel)
  have hk1 : (Cond.classLink RX4 53 "java/lang/IllegalArgumentException").before args s = true := hts _ (by decide +kernel)
  have hi1 : (Cond.initialized "java/lang/IllegalArgumentException").before args s = true := hts _ (by decide +kernel)
  have hg1 : ∀ w ∈ (vx_atS RX4 57 "java/lang/IllegalArgumentException" ["java/lang/RuntimeException", "java/lang/Exception"]).filter goodWord, w ∈ wsX4_setPage := by decide +kernel
  unfold f_X4_setPage at hf
  refine lv_iload_n hx hb dX4_setPage_0 rfl (lv_at hl 1 rfl) ?_
  refine lv_iconst (v := 1) hx hb dX4_setPage_1 (by decide) ?_
  refine lv_icmp_lt (tgt := 11) hx hb dX4_setPage_2 (by decide) (fun hc => ?_) (fun hc => ?_)
  · replace hf := itp hc hf
    exact r_thr (cls := "java/lang/IllegalArgumentException") (e9 := 1) (is := 205) (text := "the places are out of range") X hsl hl.1 hW rfl (by decide +kernel) (by decide +kernel) hk1 hi1 hg1 hbad1 hgood1 (by decide +kernel) dX4_setPage_11 dX4_setPage_14 dX4_setPage_15 dX4_setPage_17 dX4_setPage_20 (by decide) (by cases hf; exact ⟨rfl, rfl⟩) (by decide) (by decide)
  · replace hf := itn hc hf
    refine lv_iload_n hx hb dX4_setPage_5 rfl (lv_at hl 1 rfl) ?_
    refine lv_bipush (v := 60) hx hb dX4_setPage_6 (by decide) ?_
    refine lv_icmp_le (tgt := 21) hx hb dX4_setPage_8 (by decide) (fun hc => ?_) (fun hc => ?_)
    · replace hf := itp hc hf
      refine lv_aload_n hx hb dX4_setPage_21 rfl (lv_at hl 0 rfl) ?_
      replace hf := bnd hf
      obtain ⟨t1, h2, hf⟩ := hf
      refine g_6_7 X hW hinX4 hF44 h2 dX4_setPage_22 ?_
      refine lv_istore_n (lv' := [(2, .int t1), (0, .ref x0), (1, .int x1)]) hx hb dX4_setPage_25 rfl hl (by decide) rfl (fun ls hl => ?_)
      refine lv_aload_n hx hb dX4_setPage_26 rfl (lv_at hl 1 rfl) ?_
      refine lv_iload_n hx hb dX4_setPage_27 rfl (lv_at hl 2 rfl) ?_
      replace hf := bnd hf
      obtain ⟨m3, h4, hf⟩ := hf
      refine p_6_7 X hW hinX4 hF44 h4 dX4_setPage_28 (fun H locs hW => ?_)
      refine lv_iload_n hx hb dX4_setPage_31 rfl (lv_at hl 0 rfl) ?_
      exact r_iret X hr hW (by cases hf; exact ⟨rfl, rfl⟩) (by decide) (by decide) dX4_setPage_32
    · replace hf := itn hc hf
      exact r_thr (cls := "java/lang/IllegalArgumentException") (e9 := 1) (is := 205) (text := "the places are out of range") X hsl hl.1 hW rfl (by decide +kernel) (by decide +kernel) hk1 hi1 hg1 hbad1 hgood1 (by decide +kernel) dX4_setPage_11 dX4_setPage_14 dX4_setPage_15 dX4_setPage_17 dX4_setPage_20 (by decide) (by cases hf; exact ⟨rfl, rfl⟩) (by decide) (by decide)

def f_X4_setTurn (mu : Mem) (x0 : Nat) (x1 : Int32) : Option ((Nat ⊕ Int32) × Mem) := if x1 < 0 then (some ((.inl 1), mu)) else (if x1 ≤ 64 then ((getI mu 6 8 x0).bind fun t1 => (putI mu 6 8 x0 x1).bind fun m3 => some ((.inr t1), m3)) else (some ((.inl 1), mu)))
set_option maxHeartbeats 1000000 in
set_option maxRecDepth 100000 in
theorem k_X4_setTurn (l : Launch) (hsl : l.stackTraces = false) (G : GG) (A : Nat → Prop) (mu : Mem) (x0 : Nat) (x1 : Int32) (r : (Nat ⊕ Int32) × Mem) (hf : f_X4_setTurn mu x0 x1 = some r) : Ok l yX4_setTurn wsX4_setTurn ({ frames := 6, cells := 1, slots := 6, locals := 110 } : Room) [.ref x0, .int x1] G A mu (dP (rIx r.1) r.2) := by
  refine Ok.start (cc := cX4_setTurn) (maxL := 3) (ret := (some .int)) rfl (by decide +kernel) hsl (by first | exact Nat.le_of_ble_eq_true rfl | simp [lg_sl, cat_rf, Value.category]) ?_
  intro p e s m args below meth c ls X hr hname hW hl
  have X : BX p l s m args meth c cX4_setTurn 3 RX4 wsX4_setTurn G A := X
  have hx := X.1
  have hb := X.2.1
  have hts := X.2.2.2.2.1
  have hl : lv_has ls 3 [(0, .ref x0), (1, .int x1)] := hl
  have hinX4 : ∀ w ∈ wsX40, w ∈ wsX4_setTurn := by decide +kernel
  have hF47 : (Cond.fieldLink RX4 47 "PartcopyistBench" "turnTicks" "I").before args s = true := hts _ (by decide +kernel)
  have hk1 : (Cond.classLink RX4 53 "java/lang/IllegalArgumentException").before args s = true := hts _ (by decide +kernel)
  have hi1 : (Cond.initialized "java/lang/IllegalArgumentException").before args s = true := hts _ (by decide +kernel)
  have hg1 : ∀ w ∈ (vx_atS RX4 57 "java/lang/IllegalArgumentException" ["java/lang/RuntimeException", "java/lang/Exception"]).filter goodWord, w ∈ wsX4_setTurn := by decide +kernel
  unfold f_X4_setTurn at hf
  refine lv_iload_n hx hb dX4_setTurn_0 rfl (lv_at hl 1 rfl) ?_
  refine lv_if_lt (tgt := 10) hx hb dX4_setTurn_1 (by decide) (fun hc => ?_) (fun hc => ?_)
  · replace hf := itp hc hf
    exact r_thr (cls := "java/lang/IllegalArgumentException") (e9 := 1) (is := 207) (text := "the ticks are out of range") X hsl hl.1 hW rfl (by decide +kernel) (by decide +kernel) hk1 hi1 hg1 hbad1 hgood1 (by decide +kernel) dX4_setTurn_10 dX4_setTurn_13 dX4_setTurn_14 dX4_setTurn_16 dX4_setTurn_19 (by decide) (by cases hf; exact ⟨rfl, rfl⟩) (by decide) (by decide)
  · replace hf := itn hc hf
    refine lv_iload_n hx hb dX4_setTurn_4 rfl (lv_at hl 1 rfl) ?_
    refine lv_bipush (v := 64) hx hb dX4_setTurn_5 (by decide) ?_
    refine lv_icmp_le (tgt := 20) hx hb dX4_setTurn_7 (by decide) (fun hc => ?_) (fun hc => ?_)
    · replace hf := itp hc hf
      refine lv_aload_n hx hb dX4_setTurn_20 rfl (lv_at hl 0 rfl) ?_
      replace hf := bnd hf
      obtain ⟨t1, h2, hf⟩ := hf
      refine g_6_8 X hW hinX4 hF47 h2 dX4_setTurn_21 ?_
      refine lv_istore_n (lv' := [(2, .int t1), (0, .ref x0), (1, .int x1)]) hx hb dX4_setTurn_24 rfl hl (by decide) rfl (fun ls hl => ?_)
      refine lv_aload_n hx hb dX4_setTurn_25 rfl (lv_at hl 1 rfl) ?_
      refine lv_iload_n hx hb dX4_setTurn_26 rfl (lv_at hl 2 rfl) ?_
      replace hf := bnd hf
      obtain ⟨m3, h4, hf⟩ := hf
      refine p_6_8 X hW hinX4 hF47 h4 dX4_setTurn_27 (fun H locs hW => ?_)
      refine lv_iload_n hx hb dX4_setTurn_30 rfl (lv_at hl 0 rfl) ?_
      exact r_iret X hr hW (by cases hf; exact ⟨rfl, rfl⟩) (by decide) (by decide) dX4_setTurn_31
    · replace hf := itn hc hf
      exact r_thr (cls := "java/lang/IllegalArgumentException") (e9 := 1) (is := 207) (text := "the ticks are out of range") X hsl hl.1 hW rfl (by decide +kernel) (by decide +kernel) hk1 hi1 hg1 hbad1 hgood1 (by decide +kernel) dX4_setTurn_10 dX4_setTurn_13 dX4_setTurn_14 dX4_setTurn_16 dX4_setTurn_19 (by decide) (by cases hf; exact ⟨rfl, rfl⟩) (by decide) (by decide)

def f_X4_setCue (mu : Mem) (x0 : Nat) (x1 : Int32) : Option ((Nat ⊕ Int32) × Mem) := if x1 < 1 then (some ((.inl 1), mu)) else (if x1 ≤ 14 then ((getI mu 6 9 x0).bind fun t1 => (putI mu 6 9 x0 x1).bind fun m3 => some ((.inr t1), m3)) else (some ((.inl 1), mu)))
set_option maxHeartbeats 1000000 in
set_option maxRecDepth 100000 in
theorem k_X4_setCue (l : Launch) (hsl : l.stackTraces = false) (G : GG) (A : Nat → Prop) (mu : Mem) (x0 : Nat) (x1 : Int32) (r : (Nat ⊕ Int32) × Mem) (hf : f_X4_setCue mu x0 x1 = some r) : Ok l yX4_setCue wsX4_setCue ({ frames := 6, cells := 1, slots := 6, locals := 110 } : Room) [.ref x0, .int x1] G A mu (dP (rIx r.1) r.2) := by
  refine Ok.start (cc := cX4_setCue) (maxL := 3) (ret := (some .int)) rfl (by decide +kernel) hsl (by first | exact Nat.le_of_ble_eq_true rfl | simp [lg_sl, cat_rf, Value.category]) ?_
  intro p e s m args below meth c ls X hr hname hW hl
  have X : BX p l s m args meth c cX4_setCue 3 RX4 wsX4_setCue G A := X
  have hx := X.1
  have hb := X.2.1
  have hts := X.2.2.2.2.1
  have hl : lv_has ls 3 [(0, .ref x0), (1, .int x1)] := hl
  have hinX4 : ∀ w ∈ wsX40, w ∈ wsX4_setCue := by decide +kernel
  have hF50 : (Cond.fieldLink RX4 50 "PartcopyistBench" "cueBars" "I").before args s = true := hts _ (by decide +kernel)
  have hk1 : (Cond.classLink RX4 53 "java/lang/IllegalArgumentException").before args s = true := hts _ (by decide +kernel)
  have hi1 : (Cond.initialized "java/lang/IllegalArgumentException").before args s = true := hts _ (by decide +kernel)
  have hg1 : ∀ w ∈ (vx_atS RX4 57 "java/lang/IllegalArgumentException" ["java/lang/RuntimeException", "java/lang/Exception"]).filter goodWord, w ∈ wsX4_setCue := by decide +kernel
  unfold f_X4_setCue at hf
  refine lv_iload_n hx hb dX4_setCue_0 rfl (lv_at hl 1 rfl) ?_
  refine lv_iconst (v := 1) hx hb dX4_setCue_1 (by decide) ?_
  refine lv_icmp_lt (tgt := 11) hx hb dX4_setCue_2 (by decide) (fun hc => ?_) (fun hc => ?_)
  · replace hf := itp hc hf
    exact r_thr (cls := "java/lang/IllegalArgumentException") (e9 := 1) (is := 209) (text := "the bars are out of range") X hsl hl.1 hW rfl (by decide +kernel) (by decide +kernel) hk1 hi1 hg1 hbad1 hgood1 (by decide +kernel) dX4_setCue_11 dX4_setCue_14 dX4_setCue_15 dX4_setCue_17 dX4_setCue_20 (by decide) (by cases hf; exact ⟨rfl, rfl⟩) (by decide) (by decide)
  · replace hf := itn hc hf
    refine lv_iload_n hx hb dX4_setCue_5 rfl (lv_at hl 1 rfl) ?_
    refine lv_bipush (v := 14) hx hb dX4_setCue_6 (by decide) ?_
    refine lv_icmp_le (tgt := 21) hx hb dX4_setCue_8 (by decide) (fun hc => ?_) (fun hc => ?_)
    · replace hf := itp hc hf
      refine lv_aload_n hx hb dX4_setCue_21 rfl (lv_at hl 0 rfl) ?_
      replace hf := bnd hf
      obtain ⟨t1, h2, hf⟩ := hf
      refine g_6_9 X hW hinX4 hF50 h2 dX4_setCue_22 ?_
      refine lv_istore_n (lv' := [(2, .int t1), (0, .ref x0), (1, .int x1)]) hx hb dX4_setCue_25 rfl hl (by decide) rfl (fun ls hl => ?_)
      refine lv_aload_n hx hb dX4_setCue_26 rfl (lv_at hl 1 rfl) ?_
      refine lv_iload_n hx hb dX4_setCue_27 rfl (lv_at hl 2 rfl) ?_
      replace hf := bnd hf
      obtain ⟨m3, h4, hf⟩ := hf
      refine p_6_9 X hW hinX4 hF50 h4 dX4_setCue_28 (fun H locs hW => ?_)
      refine lv_iload_n hx hb dX4_setCue_31 rfl (lv_at hl 0 rfl) ?_
      exact r_iret X hr hW (by cases hf; exact ⟨rfl, rfl⟩) (by decide) (by decide) dX4_setCue_32
    · replace hf := itn hc hf
      exact r_thr (cls := "java/lang/IllegalArgumentException") (e9 := 1) (is := 209) (text := "the bars are out of range") X hsl hl.1 hW rfl (by decide +kernel) (by decide +kernel) hk1 hi1 hg1 hbad1 hgood1 (by decide +kernel) dX4_setCue_11 dX4_setCue_14 dX4_setCue_15 dX4_setCue_17 dX4_setCue_20 (by decide) (by cases hf; exact ⟨rfl, rfl⟩) (by decide) (by decide)

def f_X4_hardTurns (mu : Mem) (x0 : Nat) (x1 : Int32) : Option ((Nat ⊕ Int32) × Mem) := (chk mu 6 x0).bind fun _ => (f_X4_knownPart mu x0 x1).bind fun t2 => sml t2 (fun e4 => some ((.inl e4), mu)) (fun v5 => (chk mu 6 x0).bind fun _ => bi2 (f_X4_makeBlocks mu x0 x1) (fun (t7 : (Unit)) m9 => (getQ m9 6 3 x0).bind fun t10 => t10.bind fun a12 => (chk m9 3 a12).bind fun _ => bi2 (f_X1_makePages m9 a12) (fun (t15 : (Unit)) m17 => (getQ m17 6 3 x0).bind fun t18 => t18.bind fun a20 => (chk m17 3 a20).bind fun _ => (f_X1_hardTurnsOfPages m17 a20).bind fun t23 => some ((.inr t23), m17))))
set_option maxHeartbeats 1000000 in
set_option maxRecDepth 100000 in
theorem k_X4_hardTurns (l : Launch) (hsl : l.stackTraces = false) (G : GG) (A : Nat → Prop) (mu : Mem) (x0 : Nat) (x1 : Int32) (r : (Nat ⊕ Int32) × Mem) (hf : f_X4_hardTurns mu x0 x1 = some r) : Ok l yX4_hardTurns wsX4_hardTurns ({ frames := 14, cells := 1, slots := 6, locals := 270 } : Room) [.ref x0, .int x1] G A mu (dP (rIx r.1) r.2) := by
  refine Ok.start (cc := cX4_hardTurns) (maxL := 2) (ret := (some .int)) rfl (by decide +kernel) hsl (by first | exact Nat.le_of_ble_eq_true rfl | simp [lg_sl, cat_rf, Value.category]) ?_
  intro p e s m args below meth c ls X hr hname hW hl
  have X : BX p l s m args meth c cX4_hardTurns 2 RX4 wsX4_hardTurns G A := X
  have hx := X.1
  have hb := X.2.1
  have hts := X.2.2.2.2.1
  have hl : lv_has ls 2 [(0, .ref x0), (1, .int x1)] := hl
  have hinX4 : ∀ w ∈ wsX40, w ∈ wsX4_hardTurns := by decide +kernel
  have hF30 : (Cond.fieldLink RX4 30 "PartcopyistBench" "blocks" "LPartcopyistBench$Blocks;").before args s = true := hts _ (by decide +kernel)
  unfold f_X4_hardTurns at hf
  refine lv_aload_n hx hb dX4_hardTurns_0 rfl (lv_at hl 0 rfl) ?_
  refine lv_iload_n hx hb dX4_hardTurns_1 rfl (lv_at hl 1 rfl) ?_
  replace hf := bnd hf
  obtain ⟨_, h1, hf⟩ := hf
  replace hf := bnd hf
  obtain ⟨t2, h3, hf⟩ := hf
  replace hf := smc hf
  rcases hf with ⟨e4, hq, hf⟩ | ⟨v5, hq, hf⟩
  · subst hq
    exact r_callV_thr X hW hl.1 (k_X4_knownPart l hsl G A mu x0 x1 _ h3) gX4_hardTurns_X4_knownPart rfl (chk_ok h1) (by decide) rfl (by decide +kernel) (n := 1) rfl (by decide) (Nat.le_of_ble_eq_true rfl) dX4_hardTurns_2 rfl rfl (by cases hf; exact ⟨rfl, rfl⟩)
  · subst hq
    refine r_callV_ok X hW hl.1 (k_X4_knownPart l hsl G A mu x0 x1 _ h3) gX4_hardTurns_X4_knownPart rfl (chk_ok h1) (by decide) rfl (by decide +kernel) (n := 1) rfl (by decide) (Nat.le_of_ble_eq_true rfl) dX4_hardTurns_2 rfl rfl (stk := [va_rf v5]) rfl (fun H locs hW => ?_)
    refine lv_pop hx hb dX4_hardTurns_5 (cat_rf _) ?_
    refine lv_aload_n hx hb dX4_hardTurns_6 rfl (lv_at hl 0 rfl) ?_
    refine lv_iload_n hx hb dX4_hardTurns_7 rfl (lv_at hl 1 rfl) ?_
    replace hf := bnd hf
    obtain ⟨_, h6, hf⟩ := hf
    replace hf := bnd2 hf
    obtain ⟨t7, m9, h8, hf⟩ := hf
    refine r_callV_ok (μ9 := m9) X hW hl.1 (k_X4_makeBlocks l hsl G A mu x0 x1 _ h8) gX4_hardTurns_X4_makeBlocks rfl (chk_ok h6) (by decide) rfl (by decide +kernel) (n := 1) rfl (by decide) (Nat.le_of_ble_eq_true rfl) dX4_hardTurns_8 rfl rfl (stk := []) rfl (fun H locs hW => ?_)
    refine lv_aload_n hx hb dX4_hardTurns_11 rfl (lv_at hl 0 rfl) ?_
    replace hf := bnd hf
    obtain ⟨t10, h11, hf⟩ := hf
    refine g_6_3 X hW hinX4 hF30 h11 dX4_hardTurns_12 ?_
    replace hf := bnd hf
    obtain ⟨a12, h13, hf⟩ := hf
    subst h13
    replace hf := bnd hf
    obtain ⟨_, h14, hf⟩ := hf
    replace hf := bnd2 hf
    obtain ⟨t15, m17, h16, hf⟩ := hf
    refine r_callV_ok (μ9 := m17) X hW hl.1 (k_X1_makePages l hsl G A m9 a12 _ h16) gX4_hardTurns_X1_makePages rfl (chk_ok h14) (by decide) rfl (by decide +kernel) (n := 0) rfl (by decide) (Nat.le_of_ble_eq_true rfl) dX4_hardTurns_15 rfl rfl (stk := []) rfl (fun H locs hW => ?_)
    refine lv_aload_n hx hb dX4_hardTurns_18 rfl (lv_at hl 0 rfl) ?_
    replace hf := bnd hf
    obtain ⟨t18, h19, hf⟩ := hf
    refine g_6_3 X hW hinX4 hF30 h19 dX4_hardTurns_19 ?_
    replace hf := bnd hf
    obtain ⟨a20, h21, hf⟩ := hf
    subst h21
    replace hf := bnd hf
    obtain ⟨_, h22, hf⟩ := hf
    replace hf := bnd hf
    obtain ⟨t23, h24, hf⟩ := hf
    refine r_callV_ok X hW hl.1 (k_X1_hardTurnsOfPages l hsl G A m17 a20 _ h24) gX4_hardTurns_X1_hardTurnsOfPages rfl (chk_ok h22) (by decide) rfl (by decide +kernel) (n := 0) rfl (by decide) (Nat.le_of_ble_eq_true rfl) dX4_hardTurns_22 rfl rfl (stk := [.int t23]) rfl (fun H locs hW => ?_)
    exact r_iret X hr hW (by cases hf; exact ⟨rfl, rfl⟩) (by decide) (by decide) dX4_hardTurns_25

def f_X4_pages (mu : Mem) (x0 : Nat) (x1 : Int32) : Option ((Nat ⊕ Int32) × Mem) := (chk mu 6 x0).bind fun _ => (f_X4_knownPart mu x0 x1).bind fun t2 => sml t2 (fun e4 => some ((.inl e4), mu)) (fun v5 => (chk mu 6 x0).bind fun _ => bi2 (f_X4_makeBlocks mu x0 x1) (fun (t7 : (Unit)) m9 => (getQ m9 6 3 x0).bind fun t10 => t10.bind fun a12 => (chk m9 3 a12).bind fun _ => bi2 (f_X1_makePages m9 a12) (fun (t15 : (Unit)) m17 => (getQ m17 6 3 x0).bind fun t18 => t18.bind fun a20 => (chk m17 3 a20).bind fun _ => (f_X1_countOfPages m17 a20).bind fun t23 => some ((.inr t23), m17))))
set_option maxHeartbeats 1000000 in
set_option maxRecDepth 100000 in
theorem k_X4_pages (l : Launch) (hsl : l.stackTraces = false) (G : GG) (A : Nat → Prop) (mu : Mem) (x0 : Nat) (x1 : Int32) (r : (Nat ⊕ Int32) × Mem) (hf : f_X4_pages mu x0 x1 = some r) : Ok l yX4_pages wsX4_pages ({ frames := 14, cells := 1, slots := 6, locals := 270 } : Room) [.ref x0, .int x1] G A mu (dP (rIx r.1) r.2) := by
  refine Ok.start (cc := cX4_pages) (maxL := 2) (ret := (some .int)) rfl (by decide +kernel) hsl (by first | exact Nat.le_of_ble_eq_true rfl | simp [lg_sl, cat_rf, Value.category]) ?_
  intro p e s m args below meth c ls X hr hname hW hl
  have X : BX p l s m args meth c cX4_pages 2 RX4 wsX4_pages G A := X
  have hx := X.1
  have hb := X.2.1
  have hts := X.2.2.2.2.1
  have hl : lv_has ls 2 [(0, .ref x0), (1, .int x1)] := hl
  have hinX4 : ∀ w ∈ wsX40, w ∈ wsX4_pages := by decide +kernel
  have hF30 : (Cond.fieldLink RX4 30 "PartcopyistBench" "blocks" "LPartcopyistBench$Blocks;").before args s = true := hts _ (by decide +kernel)
  unfold f_X4_pages at hf
  refine lv_aload_n hx hb dX4_pages_0 rfl (lv_at hl 0 rfl) ?_
  refine lv_iload_n hx hb dX4_pages_1 rfl (lv_at hl 1 rfl) ?_
  replace hf := bnd hf
  obtain ⟨_, h1, hf⟩ := hf
  replace hf := bnd hf
  obtain ⟨t2, h3, hf⟩ := hf
  replace hf := smc hf
  rcases hf with ⟨e4, hq, hf⟩ | ⟨v5, hq, hf⟩
  · subst hq
    exact r_callV_thr X hW hl.1 (k_X4_knownPart l hsl G A mu x0 x1 _ h3) gX4_pages_X4_knownPart rfl (chk_ok h1) (by decide) rfl (by decide +kernel) (n := 1) rfl (by decide) (Nat.le_of_ble_eq_true rfl) dX4_pages_2 rfl rfl (by cases hf; exact ⟨rfl, rfl⟩)
  · subst hq
    refine r_callV_ok X hW hl.1 (k_X4_knownPart l hsl G A mu x0 x1 _ h3) gX4_pages_X4_knownPart rfl (chk_ok h1) (by decide) rfl (by decide +kernel) (n := 1) rfl (by decide) (Nat.le_of_ble_eq_true rfl) dX4_pages_2 rfl rfl (stk := [va_rf v5]) rfl (fun H locs hW => ?_)
    refine lv_pop hx hb dX4_pages_5 (cat_rf _) ?_
    refine lv_aload_n hx hb dX4_pages_6 rfl (lv_at hl 0 rfl) ?_
    refine lv_iload_n hx hb dX4_pages_7 rfl (lv_at hl 1 rfl) ?_
    replace hf := bnd hf
    obtain ⟨_, h6, hf⟩ := hf
    replace hf := bnd2 hf
    obtain ⟨t7, m9, h8, hf⟩ := hf
    refine r_callV_ok (μ9 := m9) X hW hl.1 (k_X4_makeBlocks l hsl G A mu x0 x1 _ h8) gX4_pages_X4_makeBlocks rfl (chk_ok h6) (by decide) rfl (by decide +kernel) (n := 1) rfl (by decide) (Nat.le_of_ble_eq_true rfl) dX4_pages_8 rfl rfl (stk := []) rfl (fun H locs hW => ?_)
    refine lv_aload_n hx hb dX4_pages_11 rfl (lv_at hl 0 rfl) ?_
    replace hf := bnd hf
    obtain ⟨t10, h11, hf⟩ := hf
    refine g_6_3 X hW hinX4 hF30 h11 dX4_pages_12 ?_
    replace hf := bnd hf
    obtain ⟨a12, h13, hf⟩ := hf
    subst h13
    replace hf := bnd hf
    obtain ⟨_, h14, hf⟩ := hf
    replace hf := bnd2 hf
    obtain ⟨t15, m17, h16, hf⟩ := hf
    refine r_callV_ok (μ9 := m17) X hW hl.1 (k_X1_makePages l hsl G A m9 a12 _ h16) gX4_pages_X1_makePages rfl (chk_ok h14) (by decide) rfl (by decide +kernel) (n := 0) rfl (by decide) (Nat.le_of_ble_eq_true rfl) dX4_pages_15 rfl rfl (stk := []) rfl (fun H locs hW => ?_)
    refine lv_aload_n hx hb dX4_pages_18 rfl (lv_at hl 0 rfl) ?_
    replace hf := bnd hf
    obtain ⟨t18, h19, hf⟩ := hf
    refine g_6_3 X hW hinX4 hF30 h19 dX4_pages_19 ?_
    replace hf := bnd hf
    obtain ⟨a20, h21, hf⟩ := hf
    subst h21
    replace hf := bnd hf
    obtain ⟨_, h22, hf⟩ := hf
    replace hf := bnd hf
    obtain ⟨t23, h24, hf⟩ := hf
    refine r_callV_ok X hW hl.1 (k_X1_countOfPages l hsl G A m17 a20 _ h24) gX4_pages_X1_countOfPages rfl (chk_ok h22) (by decide) rfl (by decide +kernel) (n := 0) rfl (by decide) (Nat.le_of_ble_eq_true rfl) dX4_pages_22 rfl rfl (stk := [.int t23]) rfl (fun H locs hW => ?_)
    exact r_iret X hr hW (by cases hf; exact ⟨rfl, rfl⟩) (by decide) (by decide) dX4_pages_25

def f_X4_pageEnd (mu : Mem) (x0 : Nat) (x1 : Int32) (x2 : Int32) : Option ((Nat ⊕ Int32) × Mem) := (chk mu 6 x0).bind fun _ => (f_X4_knownPart mu x0 x1).bind fun t2 => sml t2 (fun e4 => some ((.inl e4), mu)) (fun v5 => (chk mu 6 x0).bind fun _ => bi2 (f_X4_makeBlocks mu x0 x1) (fun (t7 : (Unit)) m9 => (getQ m9 6 3 x0).bind fun t10 => t10.bind fun a12 => (chk m9 3 a12).bind fun _ => bi2 (f_X1_makePages m9 a12) (fun (t15 : (Unit)) m17 => if x2 < 0 then (some ((.inl 4), m17)) else ((getQ m17 6 3 x0).bind fun t18 => t18.bind fun a20 => (chk m17 3 a20).bind fun _ => (f_X1_countOfPages m17 a20).bind fun t23 => if x2 < t23 then ((getQ m17 6 3 x0).bind fun t25 => (getQ m17 6 3 x0).bind fun t27 => t27.bind fun a29 => (chk m17 3 a29).bind fun _ => (f_X1_lastBlockOfPage m17 a29 x2).bind fun t32 => t25.bind fun a34 => (chk m17 3 a34).bind fun _ => (f_X1_lastBarOf m17 a34 t32).bind fun t37 => some ((.inr t37), m17)) else (some ((.inl 4), m17))))))
set_option maxHeartbeats 1000000 in
set_option maxRecDepth 100000 in
theorem k_X4_pageEnd (l : Launch) (hsl : l.stackTraces = false) (G : GG) (A : Nat → Prop) (mu : Mem) (x0 : Nat) (x1 : Int32) (x2 : Int32) (r : (Nat ⊕ Int32) × Mem) (hf : f_X4_pageEnd mu x0 x1 x2 = some r) : Ok l yX4_pageEnd wsX4_pageEnd ({ frames := 14, cells := 2, slots := 12, locals := 270 } : Room) [.ref x0, .int x1, .int x2] G A mu (dP (rIx r.1) r.2) := by
  refine Ok.start (cc := cX4_pageEnd) (maxL := 3) (ret := (some .int)) rfl (by decide +kernel) hsl (by first | exact Nat.le_of_ble_eq_true rfl | simp [lg_sl, cat_rf, Value.category]) ?_
  intro p e s m args below meth c ls X hr hname hW hl
  have X : BX p l s m args meth c cX4_pageEnd 3 RX4 wsX4_pageEnd G A := X
  have hx := X.1
  have hb := X.2.1
  have hts := X.2.2.2.2.1
  have hl : lv_has ls 3 [(0, .ref x0), (1, .int x1), (2, .int x2)] := hl
  have hinX4 : ∀ w ∈ wsX40, w ∈ wsX4_pageEnd := by decide +kernel
  have hF30 : (Cond.fieldLink RX4 30 "PartcopyistBench" "blocks" "LPartcopyistBench$Blocks;").before args s = true := hts _ (by decide +kernel)
  have hk4 : (Cond.classLink RX4 224 "java/util/NoSuchElementException").before args s = true := hts _ (by decide +kernel)
  have hi4 : (Cond.initialized "java/util/NoSuchElementException").before args s = true := hts _ (by decide +kernel)
  have hg4 : ∀ w ∈ vz_at9.filter goodWord, w ∈ wsX4_pageEnd := by decide +kernel
  unfold f_X4_pageEnd at hf
  refine lv_aload_n hx hb dX4_pageEnd_0 rfl (lv_at hl 0 rfl) ?_
  refine lv_iload_n hx hb dX4_pageEnd_1 rfl (lv_at hl 1 rfl) ?_
  replace hf := bnd hf
  obtain ⟨_, h1, hf⟩ := hf
  replace hf := bnd hf
  obtain ⟨t2, h3, hf⟩ := hf
  replace hf := smc hf
  rcases hf with ⟨e4, hq, hf⟩ | ⟨v5, hq, hf⟩
  · subst hq
    exact r_callV_thr X hW hl.1 (k_X4_knownPart l hsl G A mu x0 x1 _ h3) gX4_pageEnd_X4_knownPart rfl (chk_ok h1) (by decide) rfl (by decide +kernel) (n := 1) rfl (by decide) (Nat.le_of_ble_eq_true rfl) dX4_pageEnd_2 rfl rfl (by cases hf; exact ⟨rfl, rfl⟩)
  · subst hq
    refine r_callV_ok X hW hl.1 (k_X4_knownPart l hsl G A mu x0 x1 _ h3) gX4_pageEnd_X4_knownPart rfl (chk_ok h1) (by decide) rfl (by decide +kernel) (n := 1) rfl (by decide) (Nat.le_of_ble_eq_true rfl) dX4_pageEnd_2 rfl rfl (stk := [va_rf v5]) rfl (fun H locs hW => ?_)
    refine lv_pop hx hb dX4_pageEnd_5 (cat_rf _) ?_
    refine lv_aload_n hx hb dX4_pageEnd_6 rfl (lv_at hl 0 rfl) ?_
    refine lv_iload_n hx hb dX4_pageEnd_7 rfl (lv_at hl 1 rfl) ?_
    replace hf := bnd hf
    obtain ⟨_, h6, hf⟩ := hf
    replace hf := bnd2 hf
    obtain ⟨t7, m9, h8, hf⟩ := hf
    refine r_callV_ok (μ9 := m9) X hW hl.1 (k_X4_makeBlocks l hsl G A mu x0 x1 _ h8) gX4_pageEnd_X4_makeBlocks rfl (chk_ok h6) (by decide) rfl (by decide +kernel) (n := 1) rfl (by decide) (Nat.le_of_ble_eq_true rfl) dX4_pageEnd_8 rfl rfl (stk := []) rfl (fun H locs hW => ?_)
    refine lv_aload_n hx hb dX4_pageEnd_11 rfl (lv_at hl 0 rfl) ?_
    replace hf := bnd hf
    obtain ⟨t10, h11, hf⟩ := hf
    refine g_6_3 X hW hinX4 hF30 h11 dX4_pageEnd_12 ?_
    replace hf := bnd hf
    obtain ⟨a12, h13, hf⟩ := hf
    subst h13
    replace hf := bnd hf
    obtain ⟨_, h14, hf⟩ := hf
    replace hf := bnd2 hf
    obtain ⟨t15, m17, h16, hf⟩ := hf
    refine r_callV_ok (μ9 := m17) X hW hl.1 (k_X1_makePages l hsl G A m9 a12 _ h16) gX4_pageEnd_X1_makePages rfl (chk_ok h14) (by decide) rfl (by decide +kernel) (n := 0) rfl (by decide) (Nat.le_of_ble_eq_true rfl) dX4_pageEnd_15 rfl rfl (stk := []) rfl (fun H locs hW => ?_)
    refine lv_iload_n hx hb dX4_pageEnd_18 rfl (lv_at hl 2 rfl) ?_
    refine lv_if_lt (tgt := 33) hx hb dX4_pageEnd_19 (by decide) (fun hc => ?_) (fun hc => ?_)
    · replace hf := itp hc hf
      exact r_thrN (is := 226) (text := "there is no such page") X hsl hl.1 hW rfl (by decide +kernel) (by decide +kernel) hk4 hi4 hg4 hbad4 hgood4 (by decide +kernel) dX4_pageEnd_33 dX4_pageEnd_36 dX4_pageEnd_37 dX4_pageEnd_39 dX4_pageEnd_42 (by decide) (by cases hf; exact ⟨rfl, rfl⟩) (by decide) (by decide)
    · replace hf := itn hc hf
      refine lv_iload_n hx hb dX4_pageEnd_22 rfl (lv_at hl 2 rfl) ?_
      refine lv_aload_n hx hb dX4_pageEnd_23 rfl (lv_at hl 0 rfl) ?_
      replace hf := bnd hf
      obtain ⟨t18, h19, hf⟩ := hf
      refine g_6_3 X hW hinX4 hF30 h19 dX4_pageEnd_24 ?_
      replace hf := bnd hf
      obtain ⟨a20, h21, hf⟩ := hf
      subst h21
      replace hf := bnd hf
      obtain ⟨_, h22, hf⟩ := hf
      replace hf := bnd hf
      obtain ⟨t23, h24, hf⟩ := hf
      refine r_callV_ok X hW hl.1 (k_X1_countOfPages l hsl G A m17 a20 _ h24) gX4_pageEnd_X1_countOfPages rfl (chk_ok h22) (by decide) rfl (by decide +kernel) (n := 0) rfl (by decide) (Nat.le_of_ble_eq_true rfl) dX4_pageEnd_27 rfl rfl (stk := [.int t23, .int x2]) rfl (fun H locs hW => ?_)
      refine lv_icmp_lt (tgt := 43) hx hb dX4_pageEnd_30 (by decide) (fun hc => ?_) (fun hc => ?_)
      · replace hf := itp hc hf
        refine lv_aload_n hx hb dX4_pageEnd_43 rfl (lv_at hl 0 rfl) ?_
        replace hf := bnd hf
        obtain ⟨t25, h26, hf⟩ := hf
        refine g_6_3 X hW hinX4 hF30 h26 dX4_pageEnd_44 ?_
        refine lv_aload_n hx hb dX4_pageEnd_47 rfl (lv_at hl 0 rfl) ?_
        replace hf := bnd hf
        obtain ⟨t27, h28, hf⟩ := hf
        refine g_6_3 X hW hinX4 hF30 h28 dX4_pageEnd_48 ?_
        refine lv_iload_n hx hb dX4_pageEnd_51 rfl (lv_at hl 2 rfl) ?_
        replace hf := bnd hf
        obtain ⟨a29, h30, hf⟩ := hf
        subst h30
        replace hf := bnd hf
        obtain ⟨_, h31, hf⟩ := hf
        replace hf := bnd hf
        obtain ⟨t32, h33, hf⟩ := hf
        refine r_callV_ok X hW hl.1 (k_X1_lastBlockOfPage l hsl G A m17 a29 x2 _ h33) gX4_pageEnd_X1_lastBlockOfPage rfl (chk_ok h31) (by decide) rfl (by decide +kernel) (n := 1) rfl (by decide) (by cases t25 <;> exact Nat.le_of_ble_eq_true rfl) dX4_pageEnd_52 rfl rfl (stk := [.int t32, va_rf t25]) rfl (fun H locs hW => ?_)
        replace hf := bnd hf
        obtain ⟨a34, h35, hf⟩ := hf
        subst h35
        replace hf := bnd hf
        obtain ⟨_, h36, hf⟩ := hf
        replace hf := bnd hf
        obtain ⟨t37, h38, hf⟩ := hf
        refine r_callV_ok X hW hl.1 (k_X1_lastBarOf l hsl G A m17 a34 t32 _ h38) gX4_pageEnd_X1_lastBarOf rfl (chk_ok h36) (by decide) rfl (by decide +kernel) (n := 1) rfl (by decide) (Nat.le_of_ble_eq_true rfl) dX4_pageEnd_55 rfl rfl (stk := [.int t37]) rfl (fun H locs hW => ?_)
        exact r_iret X hr hW (by cases hf; exact ⟨rfl, rfl⟩) (by decide) (by decide) dX4_pageEnd_58
      · replace hf := itn hc hf
        exact r_thrN (is := 226) (text := "there is no such page") X hsl hl.1 hW rfl (by decide +kernel) (by decide +kernel) hk4 hi4 hg4 hbad4 hgood4 (by decide +kernel) dX4_pageEnd_33 dX4_pageEnd_36 dX4_pageEnd_37 dX4_pageEnd_39 dX4_pageEnd_42 (by decide) (by cases hf; exact ⟨rfl, rfl⟩) (by decide) (by decide)

def f_X4_cuePart (mu : Mem) (x0 : Nat) (x1 : Int32) (x2 : Int32) : Option ((Nat ⊕ Int32) × Mem) := (chk mu 6 x0).bind fun _ => (f_X4_knownPart mu x0 x1).bind fun t2 => sml t2 (fun e4 => some ((.inl e4), mu)) (fun v5 => (chk mu 6 x0).bind fun _ => bi2 (f_X4_knownRest mu x0 x1 x2) (fun (t7 : Nat ⊕ (Int32)) m9 => sml t7 (fun e10 => some ((.inl e10), m9)) (fun v11 => (chk m9 6 x0).bind fun _ => (f_X4_knownCue m9 x0 x1 v11).bind fun t13 => sml t13 (fun e15 => some ((.inl e15), m9)) (fun v16 => some ((.inr v16), m9)))))
set_option maxHeartbeats 1000000 in
set_option maxRecDepth 100000 in
theorem k_X4_cuePart (l : Launch) (hsl : l.stackTraces = false) (G : GG) (A : Nat → Prop) (mu : Mem) (x0 : Nat) (x1 : Int32) (x2 : Int32) (r : (Nat ⊕ Int32) × Mem) (hf : f_X4_cuePart mu x0 x1 x2 = some r) : Ok l yX4_cuePart wsX4_cuePart ({ frames := 16, cells := 3, slots := 18, locals := 310 } : Room) [.ref x0, .int x1, .int x2] G A mu (dP (rIx r.1) r.2) := by
  refine Ok.start (cc := cX4_cuePart) (maxL := 4) (ret := (some .int)) rfl (by decide +kernel) hsl (by first | exact Nat.le_of_ble_eq_true rfl | simp [lg_sl, cat_rf, Value.category]) ?_
  intro p e s m args below meth c ls X hr hname hW hl
  have X : BX p l s m args meth c cX4_cuePart 4 RX4 wsX4_cuePart G A := X
  have hx := X.1
  have hb := X.2.1
  have hts := X.2.2.2.2.1
  have hl : lv_has ls 4 [(0, .ref x0), (1, .int x1), (2, .int x2)] := hl
  unfold f_X4_cuePart at hf
  refine lv_aload_n hx hb dX4_cuePart_0 rfl (lv_at hl 0 rfl) ?_
  refine lv_iload_n hx hb dX4_cuePart_1 rfl (lv_at hl 1 rfl) ?_
  replace hf := bnd hf
  obtain ⟨_, h1, hf⟩ := hf
  replace hf := bnd hf
  obtain ⟨t2, h3, hf⟩ := hf
  replace hf := smc hf
  rcases hf with ⟨e4, hq, hf⟩ | ⟨v5, hq, hf⟩
  · subst hq
    exact r_callV_thr X hW hl.1 (k_X4_knownPart l hsl G A mu x0 x1 _ h3) gX4_cuePart_X4_knownPart rfl (chk_ok h1) (by decide) rfl (by decide +kernel) (n := 1) rfl (by decide) (Nat.le_of_ble_eq_true rfl) dX4_cuePart_2 rfl rfl (by cases hf; exact ⟨rfl, rfl⟩)
  · subst hq
    refine r_callV_ok X hW hl.1 (k_X4_knownPart l hsl G A mu x0 x1 _ h3) gX4_cuePart_X4_knownPart rfl (chk_ok h1) (by decide) rfl (by decide +kernel) (n := 1) rfl (by decide) (Nat.le_of_ble_eq_true rfl) dX4_cuePart_2 rfl rfl (stk := [va_rf v5]) rfl (fun H locs hW => ?_)
    refine lv_pop hx hb dX4_cuePart_5 (cat_rf _) ?_
    refine lv_aload_n hx hb dX4_cuePart_6 rfl (lv_at hl 0 rfl) ?_
    refine lv_iload_n hx hb dX4_cuePart_7 rfl (lv_at hl 1 rfl) ?_
    refine lv_iload_n hx hb dX4_cuePart_8 rfl (lv_at hl 2 rfl) ?_
    replace hf := bnd hf
    obtain ⟨_, h6, hf⟩ := hf
    replace hf := bnd2 hf
    obtain ⟨t7, m9, h8, hf⟩ := hf
    replace hf := smc hf
    rcases hf with ⟨e10, hq, hf⟩ | ⟨v11, hq, hf⟩
    · subst hq
      exact r_callV_thr (μ9 := m9) X hW hl.1 (k_X4_knownRest l hsl G A mu x0 x1 x2 _ h8) gX4_cuePart_X4_knownRest rfl (chk_ok h6) (by decide) rfl (by decide +kernel) (n := 2) rfl (by decide) (Nat.le_of_ble_eq_true rfl) dX4_cuePart_9 rfl rfl (by cases hf; exact ⟨rfl, rfl⟩)
    · subst hq
      refine r_callV_ok (μ9 := m9) X hW hl.1 (k_X4_knownRest l hsl G A mu x0 x1 x2 _ h8) gX4_cuePart_X4_knownRest rfl (chk_ok h6) (by decide) rfl (by decide +kernel) (n := 2) rfl (by decide) (Nat.le_of_ble_eq_true rfl) dX4_cuePart_9 rfl rfl (stk := [.int v11]) rfl (fun H locs hW => ?_)
      refine lv_istore_n (lv' := [(3, .int v11), (0, .ref x0), (1, .int x1), (2, .int x2)]) hx hb dX4_cuePart_12 rfl hl (by decide) rfl (fun ls hl => ?_)
      refine lv_aload_n hx hb dX4_cuePart_13 rfl (lv_at hl 1 rfl) ?_
      refine lv_iload_n hx hb dX4_cuePart_14 rfl (lv_at hl 2 rfl) ?_
      refine lv_iload_n hx hb dX4_cuePart_15 rfl (lv_at hl 0 rfl) ?_
      replace hf := bnd hf
      obtain ⟨_, h12, hf⟩ := hf
      replace hf := bnd hf
      obtain ⟨t13, h14, hf⟩ := hf
      replace hf := smc hf
      rcases hf with ⟨e15, hq, hf⟩ | ⟨v16, hq, hf⟩
      · subst hq
        exact r_callV_thr X hW hl.1 (k_X4_knownCue l hsl G A m9 x0 x1 v11 _ h14) gX4_cuePart_X4_knownCue rfl (chk_ok h12) (by decide) rfl (by decide +kernel) (n := 2) rfl (by decide) (Nat.le_of_ble_eq_true rfl) dX4_cuePart_16 rfl rfl (by cases hf; exact ⟨rfl, rfl⟩)
      · subst hq
        refine r_callV_ok X hW hl.1 (k_X4_knownCue l hsl G A m9 x0 x1 v11 _ h14) gX4_cuePart_X4_knownCue rfl (chk_ok h12) (by decide) rfl (by decide +kernel) (n := 2) rfl (by decide) (Nat.le_of_ble_eq_true rfl) dX4_cuePart_16 rfl rfl (stk := [.int v16]) rfl (fun H locs hW => ?_)
        exact r_iret X hr hW (by cases hf; exact ⟨rfl, rfl⟩) (by decide) (by decide) dX4_cuePart_19
