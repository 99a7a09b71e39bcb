def f_X5_thrown (mu : Mem) (x0 : Nat) : Option (Int32) := (getI mu 7 0 x0).bind fun t1 => some t1
set_option maxHeartbeats 1000000 in
set_option maxRecDepth 100000 in
theorem k_X5_thrown (l : Launch) (hsl : l.stackTraces = false) (G : GG) (A : Nat → Prop) (mu : Mem) (x0 : Nat) (r : Int32) (hf : f_X5_thrown mu x0 = some r) : Ok l yX5_thrown wsX5_thrown ({ frames := 6, cells := 0, slots := 0, locals := 110 } : Room) [.ref x0] G A mu (dP (.inr (rI r)) mu) := by
  refine Ok.start (cc := cX5_thrown) (maxL := 1) (ret := (some .int)) rfl (by decide +kernel) hsl (by first | exact Nat.le_of_ble_eq_true rfl | simp [lg_sl, cat_rf, Value.category]) ?_
  intro p e s m args below meth c ls X hr hname hW hl
  have X : BX p l s m args meth c cX5_thrown 1 RX5 wsX5_thrown G A := X
  have hx := X.1
  have hb := X.2.1
  have hts := X.2.2.2.2.1
  have hl : lv_has ls 1 [(0, .ref x0)] := hl
  have hinX5 : ∀ w ∈ wsX50, w ∈ wsX5_thrown := by decide +kernel
  have hF78 : (Cond.fieldLink RX5 78 "PartcopyistBenchModel" "thrown" "I").before args s = true := hts _ (by decide +kernel)
  unfold f_X5_thrown at hf
  refine lv_aload_n hx hb dX5_thrown_0 rfl (lv_at hl 0 rfl) ?_
  replace hf := bnd hf
  obtain ⟨t1, h2, hf⟩ := hf
  refine g_7_0 X hW hinX5 hF78 h2 dX5_thrown_1 ?_
  exact r_iret X hr hW (by cases hf; exact ⟨rfl, rfl⟩) (by decide) (by decide) dX5_thrown_4

def f_X5_fails (mu : Mem) (x0 : Nat) (x1 : Int32) : Option ((Int32) × Mem) := (putI mu 7 0 x0 x1).bind fun m1 => some (0, m1)
set_option maxHeartbeats 1000000 in
set_option maxRecDepth 100000 in
theorem k_X5_fails (l : Launch) (hsl : l.stackTraces = false) (G : GG) (A : Nat → Prop) (mu : Mem) (x0 : Nat) (x1 : Int32) (r : (Int32) × Mem) (hf : f_X5_fails mu x0 x1 = some r) : Ok l yX5_fails wsX5_fails ({ frames := 6, cells := 0, slots := 0, locals := 110 } : Room) [.ref x0, .int x1] G A mu (dP (.inr (rI r.1)) r.2) := by
  refine Ok.start (cc := cX5_fails) (maxL := 2) (ret := (some .int)) rfl (by decide +kernel) hsl (by first | exact Nat.le_of_ble_eq_true rfl | simp [lg_sl, cat_rf, Value.category]) ?_
  intro p e s m args below meth c ls X hr hname hW hl
  have X : BX p l s m args meth c cX5_fails 2 RX5 wsX5_fails G A := X
  have hx := X.1
  have hb := X.2.1
  have hts := X.2.2.2.2.1
  have hl : lv_has ls 2 [(0, .ref x0), (1, .int x1)] := hl
  have hinX5 : ∀ w ∈ wsX50, w ∈ wsX5_fails := by decide +kernel
  have hF78 : (Cond.fieldLink RX5 78 "PartcopyistBenchModel" "thrown" "I").before args s = true := hts _ (by decide +kernel)
  unfold f_X5_fails at hf
  refine lv_aload_n hx hb dX5_fails_0 rfl (lv_at hl 0 rfl) ?_
  refine lv_iload_n hx hb dX5_fails_1 rfl (lv_at hl 1 rfl) ?_
  replace hf := bnd hf
  obtain ⟨m1, h2, hf⟩ := hf
  refine p_7_0 X hW hinX5 hF78 h2 dX5_fails_2 (fun H locs hW => ?_)
  refine lv_iconst (v := 0) hx hb dX5_fails_5 (by decide) ?_
  exact r_iret X hr hW (by cases hf; exact ⟨rfl, rfl⟩) (by decide) (by decide) dX5_fails_6

def f_X5_isWrong (mu : Mem) (x0 : Nat) (x1 : Int32) : Option ((Int32) × Mem) := (putI mu 7 0 x0 x1).bind fun m1 => some (0, m1)
set_option maxHeartbeats 1000000 in
set_option maxRecDepth 100000 in
theorem k_X5_isWrong (l : Launch) (hsl : l.stackTraces = false) (G : GG) (A : Nat → Prop) (mu : Mem) (x0 : Nat) (x1 : Int32) (r : (Int32) × Mem) (hf : f_X5_isWrong mu x0 x1 = some r) : Ok l yX5_isWrong wsX5_isWrong ({ frames := 6, cells := 0, slots := 0, locals := 110 } : Room) [.ref x0, .int x1] G A mu (dP (.inr (rI r.1)) r.2) := by
  refine Ok.start (cc := cX5_isWrong) (maxL := 2) (ret := (some .boolean)) rfl (by decide +kernel) hsl (by first | exact Nat.le_of_ble_eq_true rfl | simp [lg_sl, cat_rf, Value.category]) ?_
  intro p e s m args below meth c ls X hr hname hW hl
  have X : BX p l s m args meth c cX5_isWrong 2 RX5 wsX5_isWrong G A := X
  have hx := X.1
  have hb := X.2.1
  have hts := X.2.2.2.2.1
  have hl : lv_has ls 2 [(0, .ref x0), (1, .int x1)] := hl
  have hinX5 : ∀ w ∈ wsX50, w ∈ wsX5_isWrong := by decide +kernel
  have hF78 : (Cond.fieldLink RX5 78 "PartcopyistBenchModel" "thrown" "I").before args s = true := hts _ (by decide +kernel)
  unfold f_X5_isWrong at hf
  refine lv_aload_n hx hb dX5_isWrong_0 rfl (lv_at hl 0 rfl) ?_
  refine lv_iload_n hx hb dX5_isWrong_1 rfl (lv_at hl 1 rfl) ?_
  replace hf := bnd hf
  obtain ⟨m1, h2, hf⟩ := hf
  refine p_7_0 X hW hinX5 hF78 h2 dX5_isWrong_2 (fun H locs hW => ?_)
  refine lv_iconst (v := 0) hx hb dX5_isWrong_5 (by decide) ?_
  exact r_zret X hr hW (Or.inl rfl) (by cases hf; exact ⟨rfl, rfl⟩) (by decide) (by decide) dX5_isWrong_6

def f_X5_isBetween (mu : Mem) (x0 : Int32) (x1 : Int32) (x2 : Int32) : Option (Int32) := if x0 < x1 then (some 0) else (if x2 < x0 then (some 0) else (some 1))
set_option maxHeartbeats 1000000 in
set_option maxRecDepth 100000 in
theorem k_X5_isBetween (l : Launch) (hsl : l.stackTraces = false) (G : GG) (A : Nat → Prop) (mu : Mem) (x0 : Int32) (x1 : Int32) (x2 : Int32) (r : Int32) (hf : f_X5_isBetween mu x0 x1 x2 = some r) : Ok l yX5_isBetween wsX5_isBetween ({ frames := 6, cells := 0, slots := 0, locals := 110 } : Room) [.int x0, .int x1, .int x2] G A mu (dP (.inr (rI r)) mu) := by
  refine Ok.start (cc := cX5_isBetween) (maxL := 3) (ret := (some .boolean)) rfl (by decide +kernel) hsl (by first | exact Nat.le_of_ble_eq_true rfl | simp [lg_sl, cat_rf, Value.category]) ?_
  intro p e s m args below meth c ls X hr hname hW hl
  have X : BX p l s m args meth c cX5_isBetween 3 RX5 wsX5_isBetween G A := X
  have hx := X.1
  have hb := X.2.1
  have hts := X.2.2.2.2.1
  have hl : lv_has ls 3 [(0, .int x0), (1, .int x1), (2, .int x2)] := hl
  unfold f_X5_isBetween at hf
  refine lv_iload_n hx hb dX5_isBetween_0 rfl (lv_at hl 1 rfl) ?_
  refine lv_iload_n hx hb dX5_isBetween_1 rfl (lv_at hl 0 rfl) ?_
  refine lv_icmp_gt (tgt := 14) hx hb dX5_isBetween_2 (by decide) (fun hc => ?_) (fun hc => ?_)
  · replace hf := itp hc hf
    refine lv_iconst (v := 0) hx hb dX5_isBetween_14 (by decide) ?_
    exact r_zret X hr hW (Or.inl rfl) (by cases hf; exact ⟨rfl, rfl⟩) (by decide) (by decide) dX5_isBetween_15
  · replace hf := itn hc hf
    refine lv_iload_n hx hb dX5_isBetween_5 rfl (lv_at hl 0 rfl) ?_
    refine lv_iload_n hx hb dX5_isBetween_6 rfl (lv_at hl 2 rfl) ?_
    refine lv_icmp_gt (tgt := 14) hx hb dX5_isBetween_7 (by decide) (fun hc => ?_) (fun hc => ?_)
    · replace hf := itp hc hf
      refine lv_iconst (v := 0) hx hb dX5_isBetween_14 (by decide) ?_
      exact r_zret X hr hW (Or.inl rfl) (by cases hf; exact ⟨rfl, rfl⟩) (by decide) (by decide) dX5_isBetween_15
    · replace hf := itn hc hf
      refine lv_iconst (v := 1) hx hb dX5_isBetween_10 (by decide) ?_
      refine lv_goto (tgt := 15) hx hb dX5_isBetween_11 (by decide) ?_
      exact r_zret X hr hW (Or.inr rfl) (by cases hf; exact ⟨rfl, rfl⟩) (by decide) (by decide) dX5_isBetween_15

def f_X5_rest (mu : Mem) (x0 : Int32) (x1 : Int32) : Option (Int32) := if x1 = 0 then none else if x1 = 0 then none else some (((x0 - x0 / x1 * x1) + x1) - ((x0 - x0 / x1 * x1) + x1) / x1 * x1)
set_option maxHeartbeats 1000000 in
set_option maxRecDepth 100000 in
theorem k_X5_rest (l : Launch) (hsl : l.stackTraces = false) (G : GG) (A : Nat → Prop) (mu : Mem) (x0 : Int32) (x1 : Int32) (r : Int32) (hf : f_X5_rest mu x0 x1 = some r) : Ok l yX5_rest wsX5_rest ({ frames := 6, cells := 0, slots := 0, locals := 110 } : Room) [.int x0, .int x1] G A mu (dP (.inr (rI r)) mu) := by
  refine Ok.start (cc := cX5_rest) (maxL := 2) (ret := (some .int)) rfl (by decide +kernel) hsl (by first | exact Nat.le_of_ble_eq_true rfl | simp [lg_sl, cat_rf, Value.category]) ?_
  intro p e s m args below meth c ls X hr hname hW hl
  have X : BX p l s m args meth c cX5_rest 2 RX5 wsX5_rest G A := X
  have hx := X.1
  have hb := X.2.1
  have hts := X.2.2.2.2.1
  have hl : lv_has ls 2 [(0, .int x0), (1, .int x1)] := hl
  unfold f_X5_rest at hf
  refine lv_iload_n hx hb dX5_rest_0 rfl (lv_at hl 0 rfl) ?_
  refine lv_iload_n hx hb dX5_rest_1 rfl (lv_at hl 1 rfl) ?_
  replace hf := itz hf
  obtain ⟨h1, hf⟩ := hf
  refine lv_irem hx hb dX5_rest_2 h1 ?_
  refine lv_iload_n hx hb dX5_rest_3 rfl (lv_at hl 1 rfl) ?_
  refine lv_iadd hx hb dX5_rest_4 ?_
  refine lv_iload_n hx hb dX5_rest_5 rfl (lv_at hl 1 rfl) ?_
  replace hf := itz hf
  obtain ⟨h2, hf⟩ := hf
  refine lv_irem hx hb dX5_rest_6 h2 ?_
  exact r_iret X hr hW (by cases hf; exact ⟨rfl, rfl⟩) (by decide) (by decide) dX5_rest_7

def f_X5_isPart (mu : Mem) (x0 : Nat) (x1 : Int32) : Option (Int32) := (getI mu 7 15 x0).bind fun t1 => (f_X5_isBetween mu x1 0 (t1 - 1)).bind fun t3 => (nz t3).bind fun t5 => some t5
set_option maxHeartbeats 1000000 in
set_option maxRecDepth 100000 in
theorem k_X5_isPart (l : Launch) (hsl : l.stackTraces = false) (G : GG) (A : Nat → Prop) (mu : Mem) (x0 : Nat) (x1 : Int32) (r : Int32) (hf : f_X5_isPart mu x0 x1 = some r) : Ok l yX5_isPart wsX5_isPart ({ frames := 8, cells := 0, slots := 0, locals := 150 } : Room) [.ref x0, .int x1] G A mu (dP (.inr (rI r)) mu) := by
  refine Ok.start (cc := cX5_isPart) (maxL := 2) (ret := (some .boolean)) rfl (by decide +kernel) hsl (by first | exact Nat.le_of_ble_eq_true rfl | simp [lg_sl, cat_rf, Value.category]) ?_
  intro p e s m args below meth c ls X hr hname hW hl
  have X : BX p l s m args meth c cX5_isPart 2 RX5 wsX5_isPart G A := X
  have hx := X.1
  have hb := X.2.1
  have hts := X.2.2.2.2.1
  have hl : lv_has ls 2 [(0, .ref x0), (1, .int x1)] := hl
  have hinX5 : ∀ w ∈ wsX50, w ∈ wsX5_isPart := by decide +kernel
  have hF81 : (Cond.fieldLink RX5 81 "PartcopyistBenchModel" "parts" "I").before args s = true := hts _ (by decide +kernel)
  unfold f_X5_isPart at hf
  refine lv_iload_n hx hb dX5_isPart_0 rfl (lv_at hl 1 rfl) ?_
  refine lv_iconst (v := 0) hx hb dX5_isPart_1 (by decide) ?_
  refine lv_aload_n hx hb dX5_isPart_2 rfl (lv_at hl 0 rfl) ?_
  replace hf := bnd hf
  obtain ⟨t1, h2, hf⟩ := hf
  refine g_7_15 X hW hinX5 hF81 h2 dX5_isPart_3 ?_
  refine lv_iconst (v := 1) hx hb dX5_isPart_6 (by decide) ?_
  refine lv_isub hx hb dX5_isPart_7 ?_
  replace hf := bnd hf
  obtain ⟨t3, h4, hf⟩ := hf
  refine r_callS_ok X hW hl.1 (k_X5_isBetween l hsl G A mu x1 0 (t1 - 1) _ h4) gX5_isPart_X5_isBetween rfl (by decide +kernel) (n := 3) rfl (by decide) (Nat.le_of_ble_eq_true rfl) dX5_isPart_8 rfl rfl (stk := [.int t3]) rfl (fun H locs hW => ?_)
  replace hf := bnd hf
  obtain ⟨t5, h6, hf⟩ := hf
  obtain ⟨hcc, hce⟩ := ifs h6
  subst hce
  exact r_zret X hr hW hcc (by cases hf; exact ⟨rfl, rfl⟩) (by decide) (by decide) dX5_isPart_11

def f_X5_isBar (mu : Mem) (x0 : Nat) (x1 : Int32) : Option (Int32) := (getI mu 7 16 x0).bind fun t1 => (f_X5_isBetween mu x1 0 (t1 - 1)).bind fun t3 => (nz t3).bind fun t5 => some t5
set_option maxHeartbeats 1000000 in
set_option maxRecDepth 100000 in
theorem k_X5_isBar (l : Launch) (hsl : l.stackTraces = false) (G : GG) (A : Nat → Prop) (mu : Mem) (x0 : Nat) (x1 : Int32) (r : Int32) (hf : f_X5_isBar mu x0 x1 = some r) : Ok l yX5_isBar wsX5_isBar ({ frames := 8, cells := 0, slots := 0, locals := 150 } : Room) [.ref x0, .int x1] G A mu (dP (.inr (rI r)) mu) := by
  refine Ok.start (cc := cX5_isBar) (maxL := 2) (ret := (some .boolean)) rfl (by decide +kernel) hsl (by first | exact Nat.le_of_ble_eq_true rfl | simp [lg_sl, cat_rf, Value.category]) ?_
  intro p e s m args below meth c ls X hr hname hW hl
  have X : BX p l s m args meth c cX5_isBar 2 RX5 wsX5_isBar G A := X
  have hx := X.1
  have hb := X.2.1
  have hts := X.2.2.2.2.1
  have hl : lv_has ls 2 [(0, .ref x0), (1, .int x1)] := hl
  have hinX5 : ∀ w ∈ wsX50, w ∈ wsX5_isBar := by decide +kernel
  have hF88 : (Cond.fieldLink RX5 88 "PartcopyistBenchModel" "bars" "I").before args s = true := hts _ (by decide +kernel)
  unfold f_X5_isBar at hf
  refine lv_iload_n hx hb dX5_isBar_0 rfl (lv_at hl 1 rfl) ?_
  refine lv_iconst (v := 0) hx hb dX5_isBar_1 (by decide) ?_
  refine lv_aload_n hx hb dX5_isBar_2 rfl (lv_at hl 0 rfl) ?_
  replace hf := bnd hf
  obtain ⟨t1, h2, hf⟩ := hf
  refine g_7_16 X hW hinX5 hF88 h2 dX5_isBar_3 ?_
  refine lv_iconst (v := 1) hx hb dX5_isBar_6 (by decide) ?_
  refine lv_isub hx hb dX5_isBar_7 ?_
  replace hf := bnd hf
  obtain ⟨t3, h4, hf⟩ := hf
  refine r_callS_ok X hW hl.1 (k_X5_isBetween l hsl G A mu x1 0 (t1 - 1) _ h4) gX5_isBar_X5_isBetween rfl (by decide +kernel) (n := 3) rfl (by decide) (Nat.le_of_ble_eq_true rfl) dX5_isBar_8 rfl rfl (stk := [.int t3]) rfl (fun H locs hW => ?_)
  replace hf := bnd hf
  obtain ⟨t5, h6, hf⟩ := hf
  obtain ⟨hcc, hce⟩ := ifs h6
  subst hce
  exact r_zret X hr hW hcc (by cases hf; exact ⟨rfl, rfl⟩) (by decide) (by decide) dX5_isBar_11

def f_X5_isNote (mu : Mem) (x0 : Nat) (x1 : Int32) : Option (Int32) := (getI mu 7 17 x0).bind fun t1 => (f_X5_isBetween mu x1 0 (t1 - 1)).bind fun t3 => if t3 = 0 then (some 0) else ((getQ mu 7 13 x0).bind fun t5 => t5.bind fun a7 => (zld mu a7 x1).bind fun t9 => if t9 = 0 then (some 1) else (some 0))
set_option maxHeartbeats 1000000 in
set_option maxRecDepth 100000 in
theorem k_X5_isNote (l : Launch) (hsl : l.stackTraces = false) (G : GG) (A : Nat → Prop) (mu : Mem) (x0 : Nat) (x1 : Int32) (r : Int32) (hf : f_X5_isNote mu x0 x1 = some r) : Ok l yX5_isNote wsX5_isNote ({ frames := 8, cells := 0, slots := 0, locals := 150 } : Room) [.ref x0, .int x1] G A mu (dP (.inr (rI r)) mu) := by
  refine Ok.start (cc := cX5_isNote) (maxL := 2) (ret := (some .boolean)) rfl (by decide +kernel) hsl (by first | exact Nat.le_of_ble_eq_true rfl | simp [lg_sl, cat_rf, Value.category]) ?_
  intro p e s m args below meth c ls X hr hname hW hl
  have X : BX p l s m args meth c cX5_isNote 2 RX5 wsX5_isNote G A := X
  have hx := X.1
  have hb := X.2.1
  have hts := X.2.2.2.2.1
  have hl : lv_has ls 2 [(0, .ref x0), (1, .int x1)] := hl
  have hinX5 : ∀ w ∈ wsX50, w ∈ wsX5_isNote := by decide +kernel
  have hF47 : (Cond.fieldLink RX5 47 "PartcopyistBenchModel" "isOut" "[Z").before args s = true := hts _ (by decide +kernel)
  have hF91 : (Cond.fieldLink RX5 91 "PartcopyistBenchModel" "notes" "I").before args s = true := hts _ (by decide +kernel)
  unfold f_X5_isNote at hf
  refine lv_iload_n hx hb dX5_isNote_0 rfl (lv_at hl 1 rfl) ?_
  refine lv_iconst (v := 0) hx hb dX5_isNote_1 (by decide) ?_
  refine lv_aload_n hx hb dX5_isNote_2 rfl (lv_at hl 0 rfl) ?_
  replace hf := bnd hf
  obtain ⟨t1, h2, hf⟩ := hf
  refine g_7_17 X hW hinX5 hF91 h2 dX5_isNote_3 ?_
  refine lv_iconst (v := 1) hx hb dX5_isNote_6 (by decide) ?_
  refine lv_isub hx hb dX5_isNote_7 ?_
  replace hf := bnd hf
  obtain ⟨t3, h4, hf⟩ := hf
  refine r_callS_ok X hW hl.1 (k_X5_isBetween l hsl G A mu x1 0 (t1 - 1) _ h4) gX5_isNote_X5_isBetween rfl (by decide +kernel) (n := 3) rfl (by decide) (Nat.le_of_ble_eq_true rfl) dX5_isNote_8 rfl rfl (stk := [.int t3]) rfl (fun H locs hW => ?_)
  refine lv_if_eq (tgt := 27) hx hb dX5_isNote_11 (by decide) (fun hc => ?_) (fun hc => ?_)
  · replace hf := itp hc hf
    refine lv_iconst (v := 0) hx hb dX5_isNote_27 (by decide) ?_
    exact r_zret X hr hW (Or.inl rfl) (by cases hf; exact ⟨rfl, rfl⟩) (by decide) (by decide) dX5_isNote_28
  · replace hf := itn hc hf
    refine lv_aload_n hx hb dX5_isNote_14 rfl (lv_at hl 0 rfl) ?_
    replace hf := bnd hf
    obtain ⟨t5, h6, hf⟩ := hf
    refine g_7_13 X hW hinX5 hF47 h6 dX5_isNote_15 ?_
    refine lv_iload_n hx hb dX5_isNote_18 rfl (lv_at hl 1 rfl) ?_
    replace hf := bnd hf
    obtain ⟨a7, h8, hf⟩ := hf
    subst h8
    replace hf := bnd hf
    obtain ⟨t9, h10, hf⟩ := hf
    refine r_zld X hW h10 dX5_isNote_19 ?_
    refine lv_if_ne (tgt := 27) hx hb dX5_isNote_20 (by decide) (fun hc => ?_) (fun hc => ?_)
    · replace hf := itn hc hf
      refine lv_iconst (v := 0) hx hb dX5_isNote_27 (by decide) ?_
      exact r_zret X hr hW (Or.inl rfl) (by cases hf; exact ⟨rfl, rfl⟩) (by decide) (by decide) dX5_isNote_28
    · replace hf := itp hc hf
      refine lv_iconst (v := 1) hx hb dX5_isNote_23 (by decide) ?_
      refine lv_goto (tgt := 28) hx hb dX5_isNote_24 (by decide) ?_
      exact r_zret X hr hW (Or.inr rfl) (by cases hf; exact ⟨rfl, rfl⟩) (by decide) (by decide) dX5_isNote_28

def f_X5_addPart (mu : Mem) (x0 : Nat) (x1 : Int32) : Option ((Int32) × Mem) := (putI mu 7 0 x0 0).bind fun m1 => (f_X5_isBetween m1 x1 (-12) 12).bind fun t3 => if t3 = 0 then ((chk m1 7 x0).bind fun _ => bi2 (f_X5_fails m1 x0 1) (fun (t26 : (Int32)) m28 => some (t26, m28))) else ((getI m1 7 15 x0).bind fun t5 => if t5 = 5 then ((chk m1 7 x0).bind fun _ => bi2 (f_X5_fails m1 x0 2) (fun (t22 : (Int32)) m24 => some (t22, m24))) else ((getQ m1 7 1 x0).bind fun t7 => (getI m1 7 15 x0).bind fun t9 => t7.bind fun a11 => (ast m1 a11 t9 x1).bind fun m13 => (getI m13 7 15 x0).bind fun t15 => (putI m13 7 15 x0 (t15 + 1)).bind fun m17 => (getI m17 7 15 x0).bind fun t19 => some ((t19 - 1), m17)))
set_option maxHeartbeats 1000000 in
set_option maxRecDepth 100000 in
theorem k_X5_addPart (l : Launch) (hsl : l.stackTraces = false) (G : GG) (A : Nat → Prop) (mu : Mem) (x0 : Nat) (x1 : Int32) (r : (Int32) × Mem) (hf : f_X5_addPart mu x0 x1 = some r) : Ok l yX5_addPart wsX5_addPart ({ frames := 8, cells := 0, slots := 0, locals := 150 } : Room) [.ref x0, .int x1] G A mu (dP (.inr (rI r.1)) r.2) := by
  refine Ok.start (cc := cX5_addPart) (maxL := 2) (ret := (some .int)) rfl (by decide +kernel) hsl (by first | exact Nat.le_of_ble_eq_true rfl | simp [lg_sl, cat_rf, Value.category]) ?_
  intro p e s m args below meth c ls X hr hname hW hl
  have X : BX p l s m args meth c cX5_addPart 2 RX5 wsX5_addPart G A := X
  have hx := X.1
  have hb := X.2.1
  have hts := X.2.2.2.2.1
  have hl : lv_has ls 2 [(0, .ref x0), (1, .int x1)] := hl
  have hinX5 : ∀ w ∈ wsX50, w ∈ wsX5_addPart := by decide +kernel
  have hF78 : (Cond.fieldLink RX5 78 "PartcopyistBenchModel" "thrown" "I").before args s = true := hts _ (by decide +kernel)
  have hF81 : (Cond.fieldLink RX5 81 "PartcopyistBenchModel" "parts" "I").before args s = true := hts _ (by decide +kernel)
  have hF9 : (Cond.fieldLink RX5 9 "PartcopyistBenchModel" "shifts" "[I").before args s = true := hts _ (by decide +kernel)
  unfold f_X5_addPart at hf
  refine lv_aload_n hx hb dX5_addPart_0 rfl (lv_at hl 0 rfl) ?_
  refine lv_iconst (v := 0) hx hb dX5_addPart_1 (by decide) ?_
  replace hf := bnd hf
  obtain ⟨m1, h2, hf⟩ := hf
  refine p_7_0 X hW hinX5 hF78 h2 dX5_addPart_2 (fun H locs hW => ?_)
  refine lv_iload_n hx hb dX5_addPart_5 rfl (lv_at hl 1 rfl) ?_
  refine lv_bipush (v := (-12)) hx hb dX5_addPart_6 (by decide) ?_
  refine lv_bipush (v := 12) hx hb dX5_addPart_8 (by decide) ?_
  replace hf := bnd hf
  obtain ⟨t3, h4, hf⟩ := hf
  refine r_callS_ok X hW hl.1 (k_X5_isBetween l hsl G A m1 x1 (-12) 12 _ h4) gX5_addPart_X5_isBetween rfl (by decide +kernel) (n := 3) rfl (by decide) (Nat.le_of_ble_eq_true rfl) dX5_addPart_10 rfl rfl (stk := [.int t3]) rfl (fun H locs hW => ?_)
  refine lv_if_ne (tgt := 22) hx hb dX5_addPart_13 (by decide) (fun hc => ?_) (fun hc => ?_)
  · replace hf := itn hc hf
    refine lv_aload_n hx hb dX5_addPart_22 rfl (lv_at hl 0 rfl) ?_
    replace hf := bnd hf
    obtain ⟨t5, h6, hf⟩ := hf
    refine g_7_15 X hW hinX5 hF81 h6 dX5_addPart_23 ?_
    refine lv_iconst (v := 5) hx hb dX5_addPart_26 (by decide) ?_
    refine lv_icmp_ne (tgt := 36) hx hb dX5_addPart_27 (by decide) (fun hc => ?_) (fun hc => ?_)
    · replace hf := itn hc hf
      refine lv_aload_n hx hb dX5_addPart_36 rfl (lv_at hl 0 rfl) ?_
      replace hf := bnd hf
      obtain ⟨t7, h8, hf⟩ := hf
      refine g_7_1 X hW hinX5 hF9 h8 dX5_addPart_37 ?_
      refine lv_aload_n hx hb dX5_addPart_40 rfl (lv_at hl 0 rfl) ?_
      replace hf := bnd hf
      obtain ⟨t9, h10, hf⟩ := hf
      refine g_7_15 X hW hinX5 hF81 h10 dX5_addPart_41 ?_
      refine lv_iload_n hx hb dX5_addPart_44 rfl (lv_at hl 1 rfl) ?_
      replace hf := bnd hf
      obtain ⟨a11, h12, hf⟩ := hf
      subst h12
      replace hf := bnd hf
      obtain ⟨m13, h14, hf⟩ := hf
      refine r_ast X hW h14 dX5_addPart_45 (fun H locs hW => ?_)
      refine lv_aload_n hx hb dX5_addPart_46 rfl (lv_at hl 0 rfl) ?_
      refine lv_dup hx hb dX5_addPart_47 rfl ?_
      replace hf := bnd hf
      obtain ⟨t15, h16, hf⟩ := hf
      refine g_7_15 X hW hinX5 hF81 h16 dX5_addPart_48 ?_
      refine lv_iconst (v := 1) hx hb dX5_addPart_51 (by decide) ?_
      refine lv_iadd hx hb dX5_addPart_52 ?_
      replace hf := bnd hf
      obtain ⟨m17, h18, hf⟩ := hf
      refine p_7_15 X hW hinX5 hF81 h18 dX5_addPart_53 (fun H locs hW => ?_)
      refine lv_aload_n hx hb dX5_addPart_56 rfl (lv_at hl 0 rfl) ?_
      replace hf := bnd hf
      obtain ⟨t19, h20, hf⟩ := hf
      refine g_7_15 X hW hinX5 hF81 h20 dX5_addPart_57 ?_
      refine lv_iconst (v := 1) hx hb dX5_addPart_60 (by decide) ?_
      refine lv_isub hx hb dX5_addPart_61 ?_
      exact r_iret X hr hW (by cases hf; exact ⟨rfl, rfl⟩) (by decide) (by decide) dX5_addPart_62
    · replace hf := itp hc hf
      refine lv_aload_n hx hb dX5_addPart_30 rfl (lv_at hl 0 rfl) ?_
      refine lv_iconst (v := 2) hx hb dX5_addPart_31 (by decide) ?_
      replace hf := bnd hf
      obtain ⟨_, h21, hf⟩ := hf
      replace hf := bnd2 hf
      obtain ⟨t22, m24, h23, hf⟩ := hf
      refine r_callV_ok (μ9 := m24) X hW hl.1 (k_X5_fails l hsl G A m1 x0 2 _ h23) gX5_addPart_X5_fails rfl (chk_ok h21) (by decide) rfl (by decide +kernel) (n := 1) rfl (by decide) (Nat.le_of_ble_eq_true rfl) dX5_addPart_32 rfl rfl (stk := [.int t22]) rfl (fun H locs hW => ?_)
      exact r_iret X hr hW (by cases hf; exact ⟨rfl, rfl⟩) (by decide) (by decide) dX5_addPart_35
  · replace hf := itp hc hf
    refine lv_aload_n hx hb dX5_addPart_16 rfl (lv_at hl 0 rfl) ?_
    refine lv_iconst (v := 1) hx hb dX5_addPart_17 (by decide) ?_
    replace hf := bnd hf
    obtain ⟨_, h25, hf⟩ := hf
    replace hf := bnd2 hf
    obtain ⟨t26, m28, h27, hf⟩ := hf
    refine r_callV_ok (μ9 := m28) X hW hl.1 (k_X5_fails l hsl G A m1 x0 1 _ h27) gX5_addPart_X5_fails rfl (chk_ok h25) (by decide) rfl (by decide +kernel) (n := 1) rfl (by decide) (Nat.le_of_ble_eq_true rfl) dX5_addPart_18 rfl rfl (stk := [.int t26]) rfl (fun H locs hW => ?_)
    exact r_iret X hr hW (by cases hf; exact ⟨rfl, rfl⟩) (by decide) (by decide) dX5_addPart_21

def f_X5_addBar (mu : Mem) (x0 : Nat) (x1 : Int32) (x2 : Int32) (x3 : Int32) : Option ((Int32) × Mem) := (putI mu 7 0 x0 0).bind fun m1 => (f_X5_isBetween m1 x1 1 8).bind fun t3 => if t3 = 0 then ((chk m1 7 x0).bind fun _ => bi2 (f_X5_fails m1 x0 1) (fun (t6 : (Int32)) m8 => some (t6, m8))) else ((f_X5_isBetween m1 x2 (-6) 6).bind fun t9 => if t9 = 0 then ((chk m1 7 x0).bind fun _ => bi2 (f_X5_fails m1 x0 1) (fun (t48 : (Int32)) m50 => some (t48, m50))) else ((getI m1 7 16 x0).bind fun t11 => if t11 = 14 then ((chk m1 7 x0).bind fun _ => bi2 (f_X5_fails m1 x0 2) (fun (t44 : (Int32)) m46 => some (t44, m46))) else ((getQ m1 7 2 x0).bind fun t13 => (getI m1 7 16 x0).bind fun t15 => t13.bind fun a17 => (ast m1 a17 t15 x1).bind fun m19 => (getQ m19 7 3 x0).bind fun t21 => (getI m19 7 16 x0).bind fun t23 => t21.bind fun a25 => (ast m19 a25 t23 x2).bind fun m27 => (getQ m27 7 12 x0).bind fun t29 => (getI m27 7 16 x0).bind fun t31 => t29.bind fun a33 => (zst m27 a33 t31 x3).bind fun m35 => (getI m35 7 16 x0).bind fun t37 => (putI m35 7 16 x0 (t37 + 1)).bind fun m39 => (getI m39 7 16 x0).bind fun t41 => some ((t41 - 1), m39))))
set_option maxHeartbeats 1000000 in
set_option maxRecDepth 100000 in
theorem k_X5_addBar (l : Launch) (hsl : l.stackTraces = false) (G : GG) (A : Nat → Prop) (mu : Mem) (x0 : Nat) (x1 : Int32) (x2 : Int32) (x3 : Int32) (r : (Int32) × Mem) (hf : f_X5_addBar mu x0 x1 x2 x3 = some r) : Ok l yX5_addBar wsX5_addBar ({ frames := 8, cells := 0, slots := 0, locals := 150 } : Room) [.ref x0, .int x1, .int x2, .int x3] G A mu (dP (.inr (rI r.1)) r.2) := by
  refine Ok.start (cc := cX5_addBar) (maxL := 4) (ret := (some .int)) rfl (by decide +kernel) hsl (by first | exact Nat.le_of_ble_eq_true rfl | simp [lg_sl, cat_rf, Value.category]) ?_
  intro p e s m args below meth c ls X hr hname hW hl
  have X : BX p l s m args meth c cX5_addBar 4 RX5 wsX5_addBar G A := X
  have hx := X.1
  have hb := X.2.1
  have hts := X.2.2.2.2.1
  have hl : lv_has ls 4 [(0, .ref x0), (1, .int x1), (2, .int x2), (3, .int x3)] := hl
  have hinX5 : ∀ w ∈ wsX50, w ∈ wsX5_addBar := by decide +kernel
  have hF13 : (Cond.fieldLink RX5 13 "PartcopyistBenchModel" "beats" "[I").before args s = true := hts _ (by decide +kernel)
  have hF16 : (Cond.fieldLink RX5 16 "PartcopyistBenchModel" "keys" "[I").before args s = true := hts _ (by decide +kernel)
  have hF43 : (Cond.fieldLink RX5 43 "PartcopyistBenchModel" "marks" "[Z").before args s = true := hts _ (by decide +kernel)
  have hF78 : (Cond.fieldLink RX5 78 "PartcopyistBenchModel" "thrown" "I").before args s = true := hts _ (by decide +kernel)
  have hF88 : (Cond.fieldLink RX5 88 "PartcopyistBenchModel" "bars" "I").before args s = true := hts _ (by decide +kernel)
  unfold f_X5_addBar at hf
  refine lv_aload_n hx hb dX5_addBar_0 rfl (lv_at hl 0 rfl) ?_
  refine lv_iconst (v := 0) hx hb dX5_addBar_1 (by decide) ?_
  replace hf := bnd hf
  obtain ⟨m1, h2, hf⟩ := hf
  refine p_7_0 X hW hinX5 hF78 h2 dX5_addBar_2 (fun H locs hW => ?_)
  refine lv_iload_n hx hb dX5_addBar_5 rfl (lv_at hl 1 rfl) ?_
  refine lv_iconst (v := 1) hx hb dX5_addBar_6 (by decide) ?_
  refine lv_bipush (v := 8) hx hb dX5_addBar_7 (by decide) ?_
  replace hf := bnd hf
  obtain ⟨t3, h4, hf⟩ := hf
  refine r_callS_ok X hW hl.1 (k_X5_isBetween l hsl G A m1 x1 1 8 _ h4) gX5_addBar_X5_isBetween rfl (by decide +kernel) (n := 3) rfl (by decide) (Nat.le_of_ble_eq_true rfl) dX5_addBar_9 rfl rfl (stk := [.int t3]) rfl (fun H locs hW => ?_)
  refine lv_if_eq (tgt := 26) hx hb dX5_addBar_12 (by decide) (fun hc => ?_) (fun hc => ?_)
  · replace hf := itp hc hf
    refine lv_aload_n hx hb dX5_addBar_26 rfl (lv_at hl 0 rfl) ?_
    refine lv_iconst (v := 1) hx hb dX5_addBar_27 (by decide) ?_
    replace hf := bnd hf
    obtain ⟨_, h5, hf⟩ := hf
    replace hf := bnd2 hf
    obtain ⟨t6, m8, h7, hf⟩ := hf
    refine r_callV_ok (μ9 := m8) X hW hl.1 (k_X5_fails l hsl G A m1 x0 1 _ h7) gX5_addBar_X5_fails rfl (chk_ok h5) (by decide) rfl (by decide +kernel) (n := 1) rfl (by decide) (Nat.le_of_ble_eq_true rfl) dX5_addBar_28 rfl rfl (stk := [.int t6]) rfl (fun H locs hW => ?_)
    exact r_iret X hr hW (by cases hf; exact ⟨rfl, rfl⟩) (by decide) (by decide) dX5_addBar_31
  · replace hf := itn hc hf
    refine lv_iload_n hx hb dX5_addBar_15 rfl (lv_at hl 2 rfl) ?_
    refine lv_bipush (v := (-6)) hx hb dX5_addBar_16 (by decide) ?_
    refine lv_bipush (v := 6) hx hb dX5_addBar_18 (by decide) ?_
    replace hf := bnd hf
    obtain ⟨t9, h10, hf⟩ := hf
    refine r_callS_ok X hW hl.1 (k_X5_isBetween l hsl G A m1 x2 (-6) 6 _ h10) gX5_addBar_X5_isBetween rfl (by decide +kernel) (n := 3) rfl (by decide) (Nat.le_of_ble_eq_true rfl) dX5_addBar_20 rfl rfl (stk := [.int t9]) rfl (fun H locs hW => ?_)
    refine lv_if_ne (tgt := 32) hx hb dX5_addBar_23 (by decide) (fun hc => ?_) (fun hc => ?_)
    · replace hf := itn hc hf
      refine lv_aload_n hx hb dX5_addBar_32 rfl (lv_at hl 0 rfl) ?_
      replace hf := bnd hf
      obtain ⟨t11, h12, hf⟩ := hf
      refine g_7_16 X hW hinX5 hF88 h12 dX5_addBar_33 ?_
      refine lv_bipush (v := 14) hx hb dX5_addBar_36 (by decide) ?_
      refine lv_icmp_ne (tgt := 47) hx hb dX5_addBar_38 (by decide) (fun hc => ?_) (fun hc => ?_)
      · replace hf := itn hc hf
        refine lv_aload_n hx hb dX5_addBar_47 rfl (lv_at hl 0 rfl) ?_
        replace hf := bnd hf
        obtain ⟨t13, h14, hf⟩ := hf
        refine g_7_2 X hW hinX5 hF13 h14 dX5_addBar_48 ?_
        refine lv_aload_n hx hb dX5_addBar_51 rfl (lv_at hl 0 rfl) ?_
        replace hf := bnd hf
        obtain ⟨t15, h16, hf⟩ := hf
        refine g_7_16 X hW hinX5 hF88 h16 dX5_addBar_52 ?_
        refine lv_iload_n hx hb dX5_addBar_55 rfl (lv_at hl 1 rfl) ?_
        replace hf := bnd hf
        obtain ⟨a17, h18, hf⟩ := hf
        subst h18
        replace hf := bnd hf
        obtain ⟨m19, h20, hf⟩ := hf
        refine r_ast X hW h20 dX5_addBar_56 (fun H locs hW => ?_)
        refine lv_aload_n hx hb dX5_addBar_57 rfl (lv_at hl 0 rfl) ?_
        replace hf := bnd hf
        obtain ⟨t21, h22, hf⟩ := hf
        refine g_7_3 X hW hinX5 hF16 h22 dX5_addBar_58 ?_
        refine lv_aload_n hx hb dX5_addBar_61 rfl (lv_at hl 0 rfl) ?_
        replace hf := bnd hf
        obtain ⟨t23, h24, hf⟩ := hf
        refine g_7_16 X hW hinX5 hF88 h24 dX5_addBar_62 ?_
        refine lv_iload_n hx hb dX5_addBar_65 rfl (lv_at hl 2 rfl) ?_
        replace hf := bnd hf
        obtain ⟨a25, h26, hf⟩ := hf
        subst h26
        replace hf := bnd hf
        obtain ⟨m27, h28, hf⟩ := hf
        refine r_ast X hW h28 dX5_addBar_66 (fun H locs hW => ?_)
        refine lv_aload_n hx hb dX5_addBar_67 rfl (lv_at hl 0 rfl) ?_
        replace hf := bnd hf
        obtain ⟨t29, h30, hf⟩ := hf
        refine g_7_12 X hW hinX5 hF43 h30 dX5_addBar_68 ?_
        refine lv_aload_n hx hb dX5_addBar_71 rfl (lv_at hl 0 rfl) ?_
        replace hf := bnd hf
        obtain ⟨t31, h32, hf⟩ := hf
        refine g_7_16 X hW hinX5 hF88 h32 dX5_addBar_72 ?_
        refine lv_iload_n hx hb dX5_addBar_75 rfl (lv_at hl 3 rfl) ?_
        replace hf := bnd hf
        obtain ⟨a33, h34, hf⟩ := hf
        subst h34
        replace hf := bnd hf
        obtain ⟨m35, h36, hf⟩ := hf
        refine r_zst X hW h36 dX5_addBar_76 (fun H locs hW => ?_)
        refine lv_aload_n hx hb dX5_addBar_77 rfl (lv_at hl 0 rfl) ?_
        refine lv_dup hx hb dX5_addBar_78 rfl ?_
        replace hf := bnd hf
        obtain ⟨t37, h38, hf⟩ := hf
        refine g_7_16 X hW hinX5 hF88 h38 dX5_addBar_79 ?_
        refine lv_iconst (v := 1) hx hb dX5_addBar_82 (by decide) ?_
        refine lv_iadd hx hb dX5_addBar_83 ?_
        replace hf := bnd hf
        obtain ⟨m39, h40, hf⟩ := hf
        refine p_7_16 X hW hinX5 hF88 h40 dX5_addBar_84 (fun H locs hW => ?_)
        refine lv_aload_n hx hb dX5_addBar_87 rfl (lv_at hl 0 rfl) ?_
        replace hf := bnd hf
        obtain ⟨t41, h42, hf⟩ := hf
        refine g_7_16 X hW hinX5 hF88 h42 dX5_addBar_88 ?_
        refine lv_iconst (v := 1) hx hb dX5_addBar_91 (by decide) ?_
        refine lv_isub hx hb dX5_addBar_92 ?_
        exact r_iret X hr hW (by cases hf; exact ⟨rfl, rfl⟩) (by decide) (by decide) dX5_addBar_93
      · replace hf := itp hc hf
        refine lv_aload_n hx hb dX5_addBar_41 rfl (lv_at hl 0 rfl) ?_
        refine lv_iconst (v := 2) hx hb dX5_addBar_42 (by decide) ?_
        replace hf := bnd hf
        obtain ⟨_, h43, hf⟩ := hf
        replace hf := bnd2 hf
        obtain ⟨t44, m46, h45, hf⟩ := hf
        refine r_callV_ok (μ9 := m46) X hW hl.1 (k_X5_fails l hsl G A m1 x0 2 _ h45) gX5_addBar_X5_fails rfl (chk_ok h43) (by decide) rfl (by decide +kernel) (n := 1) rfl (by decide) (Nat.le_of_ble_eq_true rfl) dX5_addBar_43 rfl rfl (stk := [.int t44]) rfl (fun H locs hW => ?_)
        exact r_iret X hr hW (by cases hf; exact ⟨rfl, rfl⟩) (by decide) (by decide) dX5_addBar_46
    · replace hf := itp hc hf
      refine lv_aload_n hx hb dX5_addBar_26 rfl (lv_at hl 0 rfl) ?_
      refine lv_iconst (v := 1) hx hb dX5_addBar_27 (by decide) ?_
      replace hf := bnd hf
      obtain ⟨_, h47, hf⟩ := hf
      replace hf := bnd2 hf
      obtain ⟨t48, m50, h49, hf⟩ := hf
      refine r_callV_ok (μ9 := m50) X hW hl.1 (k_X5_fails l hsl G A m1 x0 1 _ h49) gX5_addBar_X5_fails rfl (chk_ok h47) (by decide) rfl (by decide +kernel) (n := 1) rfl (by decide) (Nat.le_of_ble_eq_true rfl) dX5_addBar_28 rfl rfl (stk := [.int t48]) rfl (fun H locs hW => ?_)
      exact r_iret X hr hW (by cases hf; exact ⟨rfl, rfl⟩) (by decide) (by decide) dX5_addBar_31

def f_X5_setMark (mu : Mem) (x0 : Nat) (x1 : Int32) (x2 : Int32) : Option ((Int32) × Mem) := (putI mu 7 0 x0 0).bind fun m1 => (chk m1 7 x0).bind fun _ => (f_X5_isBar m1 x0 x1).bind fun t4 => if t4 = 0 then ((chk m1 7 x0).bind fun _ => bi2 (f_X5_isWrong m1 x0 1) (fun (t21 : (Int32)) m23 => (nz t21).bind fun t24 => some (t24, m23))) else ((getQ m1 7 12 x0).bind fun t6 => t6.bind fun a8 => (zld m1 a8 x1).bind fun t10 => (getQ m1 7 12 x0).bind fun t12 => t12.bind fun a14 => (zst m1 a14 x1 x2).bind fun m16 => (nz t10).bind fun t18 => some (t18, m16))
set_option maxHeartbeats 1000000 in
set_option maxRecDepth 100000 in
theorem k_X5_setMark (l : Launch) (hsl : l.stackTraces = false) (G : GG) (A : Nat → Prop) (mu : Mem) (x0 : Nat) (x1 : Int32) (x2 : Int32) (r : (Int32) × Mem) (hf : f_X5_setMark mu x0 x1 x2 = some r) : Ok l yX5_setMark wsX5_setMark ({ frames := 10, cells := 0, slots := 0, locals := 190 } : Room) [.ref x0, .int x1, .int x2] G A mu (dP (.inr (rI r.1)) r.2) := by
  refine Ok.start (cc := cX5_setMark) (maxL := 4) (ret := (some .boolean)) rfl (by decide +kernel) hsl (by first | exact Nat.le_of_ble_eq_true rfl | simp [lg_sl, cat_rf, Value.category]) ?_
  intro p e s m args below meth c ls X hr hname hW hl
  have X : BX p l s m args meth c cX5_setMark 4 RX5 wsX5_setMark G A := X
  have hx := X.1
  have hb := X.2.1
  have hts := X.2.2.2.2.1
  have hl : lv_has ls 4 [(0, .ref x0), (1, .int x1), (2, .int x2)] := hl
  have hinX5 : ∀ w ∈ wsX50, w ∈ wsX5_setMark := by decide +kernel
  have hF43 : (Cond.fieldLink RX5 43 "PartcopyistBenchModel" "marks" "[Z").before args s = true := hts _ (by decide +kernel)
  have hF78 : (Cond.fieldLink RX5 78 "PartcopyistBenchModel" "thrown" "I").before args s = true := hts _ (by decide +kernel)
  unfold f_X5_setMark at hf
  refine lv_aload_n hx hb dX5_setMark_0 rfl (lv_at hl 0 rfl) ?_
  refine lv_iconst (v := 0) hx hb dX5_setMark_1 (by decide) ?_
  replace hf := bnd hf
  obtain ⟨m1, h2, hf⟩ := hf
  refine p_7_0 X hW hinX5 hF78 h2 dX5_setMark_2 (fun H locs hW => ?_)
  refine lv_aload_n hx hb dX5_setMark_5 rfl (lv_at hl 0 rfl) ?_
  refine lv_iload_n hx hb dX5_setMark_6 rfl (lv_at hl 1 rfl) ?_
  replace hf := bnd hf
  obtain ⟨_, h3, hf⟩ := hf
  replace hf := bnd hf
  obtain ⟨t4, h5, hf⟩ := hf
  refine r_callV_ok X hW hl.1 (k_X5_isBar l hsl G A m1 x0 x1 _ h5) gX5_setMark_X5_isBar rfl (chk_ok h3) (by decide) rfl (by decide +kernel) (n := 1) rfl (by decide) (Nat.le_of_ble_eq_true rfl) dX5_setMark_7 rfl rfl (stk := [.int t4]) rfl (fun H locs hW => ?_)
  refine lv_if_ne (tgt := 19) hx hb dX5_setMark_10 (by decide) (fun hc => ?_) (fun hc => ?_)
  · replace hf := itn hc hf
    refine lv_aload_n hx hb dX5_setMark_19 rfl (lv_at hl 0 rfl) ?_
    replace hf := bnd hf
    obtain ⟨t6, h7, hf⟩ := hf
    refine g_7_12 X hW hinX5 hF43 h7 dX5_setMark_20 ?_
    refine lv_iload_n hx hb dX5_setMark_23 rfl (lv_at hl 1 rfl) ?_
    replace hf := bnd hf
    obtain ⟨a8, h9, hf⟩ := hf
    subst h9
    replace hf := bnd hf
    obtain ⟨t10, h11, hf⟩ := hf
    refine r_zld X hW h11 dX5_setMark_24 ?_
    refine lv_istore_n (lv' := [(3, .int t10), (0, .ref x0), (1, .int x1), (2, .int x2)]) hx hb dX5_setMark_25 rfl hl (by decide) rfl (fun ls hl => ?_)
    refine lv_aload_n hx hb dX5_setMark_26 rfl (lv_at hl 1 rfl) ?_
    replace hf := bnd hf
    obtain ⟨t12, h13, hf⟩ := hf
    refine g_7_12 X hW hinX5 hF43 h13 dX5_setMark_27 ?_
    refine lv_iload_n hx hb dX5_setMark_30 rfl (lv_at hl 2 rfl) ?_
    refine lv_iload_n hx hb dX5_setMark_31 rfl (lv_at hl 3 rfl) ?_
    replace hf := bnd hf
    obtain ⟨a14, h15, hf⟩ := hf
    subst h15
    replace hf := bnd hf
    obtain ⟨m16, h17, hf⟩ := hf
    refine r_zst X hW h17 dX5_setMark_32 (fun H locs hW => ?_)
    refine lv_iload_n hx hb dX5_setMark_33 rfl (lv_at hl 0 rfl) ?_
    replace hf := bnd hf
    obtain ⟨t18, h19, hf⟩ := hf
    obtain ⟨hcc, hce⟩ := ifs h19
    subst hce
    exact r_zret X hr hW hcc (by cases hf; exact ⟨rfl, rfl⟩) (by decide) (by decide) dX5_setMark_34
  · replace hf := itp hc hf
    refine lv_aload_n hx hb dX5_setMark_13 rfl (lv_at hl 0 rfl) ?_
    refine lv_iconst (v := 1) hx hb dX5_setMark_14 (by decide) ?_
    replace hf := bnd hf
    obtain ⟨_, h20, hf⟩ := hf
    replace hf := bnd2 hf
    obtain ⟨t21, m23, h22, hf⟩ := hf
    refine r_callV_ok (μ9 := m23) X hW hl.1 (k_X5_isWrong l hsl G A m1 x0 1 _ h22) gX5_setMark_X5_isWrong rfl (chk_ok h20) (by decide) rfl (by decide +kernel) (n := 1) rfl (by decide) (Nat.le_of_ble_eq_true rfl) dX5_setMark_15 rfl rfl (stk := [.int t21]) rfl (fun H locs hW => ?_)
    replace hf := bnd hf
    obtain ⟨t24, h25, hf⟩ := hf
    obtain ⟨hcc, hce⟩ := ifs h25
    subst hce
    exact r_zret X hr hW hcc (by cases hf; exact ⟨rfl, rfl⟩) (by decide) (by decide) dX5_setMark_18

def f_X5_setKey (mu : Mem) (x0 : Nat) (x1 : Int32) (x2 : Int32) : Option ((Int32) × Mem) := (putI mu 7 0 x0 0).bind fun m1 => (chk m1 7 x0).bind fun _ => (f_X5_isBar m1 x0 x1).bind fun t4 => if t4 = 0 then ((chk m1 7 x0).bind fun _ => bi2 (f_X5_fails m1 x0 1) (fun (t25 : (Int32)) m27 => some (t25, m27))) else ((f_X5_isBetween m1 x2 (-6) 6).bind fun t6 => if t6 = 0 then ((chk m1 7 x0).bind fun _ => bi2 (f_X5_fails m1 x0 2) (fun (t21 : (Int32)) m23 => some (t21, m23))) else ((getQ m1 7 3 x0).bind fun t8 => t8.bind fun a10 => (ald m1 a10 x1).bind fun t12 => (getQ m1 7 3 x0).bind fun t14 => t14.bind fun a16 => (ast m1 a16 x1 x2).bind fun m18 => some (t12, m18)))
set_option maxHeartbeats 1000000 in
set_option maxRecDepth 100000 in
theorem k_X5_setKey (l : Launch) (hsl : l.stackTraces = false) (G : GG) (A : Nat → Prop) (mu : Mem) (x0 : Nat) (x1 : Int32) (x2 : Int32) (r : (Int32) × Mem) (hf : f_X5_setKey mu x0 x1 x2 = some r) : Ok l yX5_setKey wsX5_setKey ({ frames := 10, cells := 0, slots := 0, locals := 190 } : Room) [.ref x0, .int x1, .int x2] G A mu (dP (.inr (rI r.1)) r.2) := by
  refine Ok.start (cc := cX5_setKey) (maxL := 4) (ret := (some .int)) rfl (by decide +kernel) hsl (by first | exact Nat.le_of_ble_eq_true rfl | simp [lg_sl, cat_rf, Value.category]) ?_
  intro p e s m args below meth c ls X hr hname hW hl
  have X : BX p l s m args meth c cX5_setKey 4 RX5 wsX5_setKey G A := X
  have hx := X.1
  have hb := X.2.1
  have hts := X.2.2.2.2.1
  have hl : lv_has ls 4 [(0, .ref x0), (1, .int x1), (2, .int x2)] := hl
  have hinX5 : ∀ w ∈ wsX50, w ∈ wsX5_setKey := by decide +kernel
  have hF16 : (Cond.fieldLink RX5 16 "PartcopyistBenchModel" "keys" "[I").before args s = true := hts _ (by decide +kernel)
  have hF78 : (Cond.fieldLink RX5 78 "PartcopyistBenchModel" "thrown" "I").before args s = true := hts _ (by decide +kernel)
  unfold f_X5_setKey at hf
  refine lv_aload_n hx hb dX5_setKey_0 rfl (lv_at hl 0 rfl) ?_
  refine lv_iconst (v := 0) hx hb dX5_setKey_1 (by decide) ?_
  replace hf := bnd hf
  obtain ⟨m1, h2, hf⟩ := hf
  refine p_7_0 X hW hinX5 hF78 h2 dX5_setKey_2 (fun H locs hW => ?_)
  refine lv_aload_n hx hb dX5_setKey_5 rfl (lv_at hl 0 rfl) ?_
  refine lv_iload_n hx hb dX5_setKey_6 rfl (lv_at hl 1 rfl) ?_
  replace hf := bnd hf
  obtain ⟨_, h3, hf⟩ := hf
  replace hf := bnd hf
  obtain ⟨t4, h5, hf⟩ := hf
  refine r_callV_ok X hW hl.1 (k_X5_isBar l hsl G A m1 x0 x1 _ h5) gX5_setKey_X5_isBar rfl (chk_ok h3) (by decide) rfl (by decide +kernel) (n := 1) rfl (by decide) (Nat.le_of_ble_eq_true rfl) dX5_setKey_7 rfl rfl (stk := [.int t4]) rfl (fun H locs hW => ?_)
  refine lv_if_ne (tgt := 19) hx hb dX5_setKey_10 (by decide) (fun hc => ?_) (fun hc => ?_)
  · replace hf := itn hc hf
    refine lv_iload_n hx hb dX5_setKey_19 rfl (lv_at hl 2 rfl) ?_
    refine lv_bipush (v := (-6)) hx hb dX5_setKey_20 (by decide) ?_
    refine lv_bipush (v := 6) hx hb dX5_setKey_22 (by decide) ?_
    replace hf := bnd hf
    obtain ⟨t6, h7, hf⟩ := hf
    refine r_callS_ok X hW hl.1 (k_X5_isBetween l hsl G A m1 x2 (-6) 6 _ h7) gX5_setKey_X5_isBetween rfl (by decide +kernel) (n := 3) rfl (by decide) (Nat.le_of_ble_eq_true rfl) dX5_setKey_24 rfl rfl (stk := [.int t6]) rfl (fun H locs hW => ?_)
    refine lv_if_ne (tgt := 36) hx hb dX5_setKey_27 (by decide) (fun hc => ?_) (fun hc => ?_)
    · replace hf := itn hc hf
      refine lv_aload_n hx hb dX5_setKey_36 rfl (lv_at hl 0 rfl) ?_
      replace hf := bnd hf
      obtain ⟨t8, h9, hf⟩ := hf
      refine g_7_3 X hW hinX5 hF16 h9 dX5_setKey_37 ?_
      refine lv_iload_n hx hb dX5_setKey_40 rfl (lv_at hl 1 rfl) ?_
      replace hf := bnd hf
      obtain ⟨a10, h11, hf⟩ := hf
      subst h11
      replace hf := bnd hf
      obtain ⟨t12, h13, hf⟩ := hf
      refine r_ald X hW h13 dX5_setKey_41 ?_
      refine lv_istore_n (lv' := [(3, .int t12), (0, .ref x0), (1, .int x1), (2, .int x2)]) hx hb dX5_setKey_42 rfl hl (by decide) rfl (fun ls hl => ?_)
      refine lv_aload_n hx hb dX5_setKey_43 rfl (lv_at hl 1 rfl) ?_
      replace hf := bnd hf
      obtain ⟨t14, h15, hf⟩ := hf
      refine g_7_3 X hW hinX5 hF16 h15 dX5_setKey_44 ?_
      refine lv_iload_n hx hb dX5_setKey_47 rfl (lv_at hl 2 rfl) ?_
      refine lv_iload_n hx hb dX5_setKey_48 rfl (lv_at hl 3 rfl) ?_
      replace hf := bnd hf
      obtain ⟨a16, h17, hf⟩ := hf
      subst h17
      replace hf := bnd hf
      obtain ⟨m18, h19, hf⟩ := hf
      refine r_ast X hW h19 dX5_setKey_49 (fun H locs hW => ?_)
      refine lv_iload_n hx hb dX5_setKey_50 rfl (lv_at hl 0 rfl) ?_
      exact r_iret X hr hW (by cases hf; exact ⟨rfl, rfl⟩) (by decide) (by decide) dX5_setKey_51
    · replace hf := itp hc hf
      refine lv_aload_n hx hb dX5_setKey_30 rfl (lv_at hl 0 rfl) ?_
      refine lv_iconst (v := 2) hx hb dX5_setKey_31 (by decide) ?_
      replace hf := bnd hf
      obtain ⟨_, h20, hf⟩ := hf
      replace hf := bnd2 hf
      obtain ⟨t21, m23, h22, hf⟩ := hf
      refine r_callV_ok (μ9 := m23) X hW hl.1 (k_X5_fails l hsl G A m1 x0 2 _ h22) gX5_setKey_X5_fails rfl (chk_ok h20) (by decide) rfl (by decide +kernel) (n := 1) rfl (by decide) (Nat.le_of_ble_eq_true rfl) dX5_setKey_32 rfl rfl (stk := [.int t21]) rfl (fun H locs hW => ?_)
      exact r_iret X hr hW (by cases hf; exact ⟨rfl, rfl⟩) (by decide) (by decide) dX5_setKey_35
  · replace hf := itp hc hf
    refine lv_aload_n hx hb dX5_setKey_13 rfl (lv_at hl 0 rfl) ?_
    refine lv_iconst (v := 1) hx hb dX5_setKey_14 (by decide) ?_
    replace hf := bnd hf
    obtain ⟨_, h24, hf⟩ := hf
    replace hf := bnd2 hf
    obtain ⟨t25, m27, h26, hf⟩ := hf
    refine r_callV_ok (μ9 := m27) X hW hl.1 (k_X5_fails l hsl G A m1 x0 1 _ h26) gX5_setKey_X5_fails rfl (chk_ok h24) (by decide) rfl (by decide +kernel) (n := 1) rfl (by decide) (Nat.le_of_ble_eq_true rfl) dX5_setKey_15 rfl rfl (stk := [.int t25]) rfl (fun H locs hW => ?_)
    exact r_iret X hr hW (by cases hf; exact ⟨rfl, rfl⟩) (by decide) (by decide) dX5_setKey_18

def f_X5_isWithin (mu : Mem) (x0 : Nat) (x1 : Int32) (x2 : Int32) (x3 : Int32) : Option (Int32) := (getQ mu 7 2 x0).bind fun t1 => t1.bind fun a3 => (ald mu a3 x1).bind fun t5 => (f_X5_isBetween mu x2 0 ((4 * t5) - 1)).bind fun t7 => if t7 = 0 then (some 0) else ((getQ mu 7 2 x0).bind fun t9 => t9.bind fun a11 => (ald mu a11 x1).bind fun t13 => (f_X5_isBetween mu x3 1 ((4 * t13) - x2)).bind fun t15 => if t15 = 0 then (some 0) else (some 1))
set_option maxHeartbeats 1000000 in
set_option maxRecDepth 100000 in
theorem k_X5_isWithin (l : Launch) (hsl : l.stackTraces = false) (G : GG) (A : Nat → Prop) (mu : Mem) (x0 : Nat) (x1 : Int32) (x2 : Int32) (x3 : Int32) (r : Int32) (hf : f_X5_isWithin mu x0 x1 x2 x3 = some r) : Ok l yX5_isWithin wsX5_isWithin ({ frames := 8, cells := 0, slots := 0, locals := 150 } : Room) [.ref x0, .int x1, .int x2, .int x3] G A mu (dP (.inr (rI r)) mu) := by
  refine Ok.start (cc := cX5_isWithin) (maxL := 4) (ret := (some .boolean)) rfl (by decide +kernel) hsl (by first | exact Nat.le_of_ble_eq_true rfl | simp [lg_sl, cat_rf, Value.category]) ?_
  intro p e s m args below meth c ls X hr hname hW hl
  have X : BX p l s m args meth c cX5_isWithin 4 RX5 wsX5_isWithin G A := X
  have hx := X.1
  have hb := X.2.1
  have hts := X.2.2.2.2.1
  have hl : lv_has ls 4 [(0, .ref x0), (1, .int x1), (2, .int x2), (3, .int x3)] := hl
  have hinX5 : ∀ w ∈ wsX50, w ∈ wsX5_isWithin := by decide +kernel
  have hF13 : (Cond.fieldLink RX5 13 "PartcopyistBenchModel" "beats" "[I").before args s = true := hts _ (by decide +kernel)
  unfold f_X5_isWithin at hf
  refine lv_iload_n hx hb dX5_isWithin_0 rfl (lv_at hl 2 rfl) ?_
  refine lv_iconst (v := 0) hx hb dX5_isWithin_1 (by decide) ?_
  refine lv_iconst (v := 4) hx hb dX5_isWithin_2 (by decide) ?_
  refine lv_aload_n hx hb dX5_isWithin_3 rfl (lv_at hl 0 rfl) ?_
  replace hf := bnd hf
  obtain ⟨t1, h2, hf⟩ := hf
  refine g_7_2 X hW hinX5 hF13 h2 dX5_isWithin_4 ?_
  refine lv_iload_n hx hb dX5_isWithin_7 rfl (lv_at hl 1 rfl) ?_
  replace hf := bnd hf
  obtain ⟨a3, h4, hf⟩ := hf
  subst h4
  replace hf := bnd hf
  obtain ⟨t5, h6, hf⟩ := hf
  refine r_ald X hW h6 dX5_isWithin_8 ?_
  refine lv_imul hx hb dX5_isWithin_9 ?_
  refine lv_iconst (v := 1) hx hb dX5_isWithin_10 (by decide) ?_
  refine lv_isub hx hb dX5_isWithin_11 ?_
  replace hf := bnd hf
  obtain ⟨t7, h8, hf⟩ := hf
  refine r_callS_ok X hW hl.1 (k_X5_isBetween l hsl G A mu x2 0 ((4 * t5) - 1) _ h8) gX5_isWithin_X5_isBetween rfl (by decide +kernel) (n := 3) rfl (by decide) (Nat.le_of_ble_eq_true rfl) dX5_isWithin_12 rfl rfl (stk := [.int t7]) rfl (fun H locs hW => ?_)
  refine lv_if_eq (tgt := 40) hx hb dX5_isWithin_15 (by decide) (fun hc => ?_) (fun hc => ?_)
  · replace hf := itp hc hf
    refine lv_iconst (v := 0) hx hb dX5_isWithin_40 (by decide) ?_
    exact r_zret X hr hW (Or.inl rfl) (by cases hf; exact ⟨rfl, rfl⟩) (by decide) (by decide) dX5_isWithin_41
  · replace hf := itn hc hf
    refine lv_iload_n hx hb dX5_isWithin_18 rfl (lv_at hl 3 rfl) ?_
    refine lv_iconst (v := 1) hx hb dX5_isWithin_19 (by decide) ?_
    refine lv_iconst (v := 4) hx hb dX5_isWithin_20 (by decide) ?_
    refine lv_aload_n hx hb dX5_isWithin_21 rfl (lv_at hl 0 rfl) ?_
    replace hf := bnd hf
    obtain ⟨t9, h10, hf⟩ := hf
    refine g_7_2 X hW hinX5 hF13 h10 dX5_isWithin_22 ?_
    refine lv_iload_n hx hb dX5_isWithin_25 rfl (lv_at hl 1 rfl) ?_
    replace hf := bnd hf
    obtain ⟨a11, h12, hf⟩ := hf
    subst h12
    replace hf := bnd hf
    obtain ⟨t13, h14, hf⟩ := hf
    refine r_ald X hW h14 dX5_isWithin_26 ?_
    refine lv_imul hx hb dX5_isWithin_27 ?_
    refine lv_iload_n hx hb dX5_isWithin_28 rfl (lv_at hl 2 rfl) ?_
    refine lv_isub hx hb dX5_isWithin_29 ?_
    replace hf := bnd hf
    obtain ⟨t15, h16, hf⟩ := hf
    refine r_callS_ok X hW hl.1 (k_X5_isBetween l hsl G A mu x3 1 ((4 * t13) - x2) _ h16) gX5_isWithin_X5_isBetween rfl (by decide +kernel) (n := 3) rfl (by decide) (Nat.le_of_ble_eq_true rfl) dX5_isWithin_30 rfl rfl (stk := [.int t15]) rfl (fun H locs hW => ?_)
    refine lv_if_eq (tgt := 40) hx hb dX5_isWithin_33 (by decide) (fun hc => ?_) (fun hc => ?_)
    · replace hf := itp hc hf
      refine lv_iconst (v := 0) hx hb dX5_isWithin_40 (by decide) ?_
      exact r_zret X hr hW (Or.inl rfl) (by cases hf; exact ⟨rfl, rfl⟩) (by decide) (by decide) dX5_isWithin_41
    · replace hf := itn hc hf
      refine lv_iconst (v := 1) hx hb dX5_isWithin_36 (by decide) ?_
      refine lv_goto (tgt := 41) hx hb dX5_isWithin_37 (by decide) ?_
      exact r_zret X hr hW (Or.inr rfl) (by cases hf; exact ⟨rfl, rfl⟩) (by decide) (by decide) dX5_isWithin_41

def f_X5_isAt (mu : Mem) (x0 : Nat) (x1 : Int32) (x2 : Int32) (x3 : Int32) : Option (Int32) := (getQ mu 7 13 x0).bind fun t1 => t1.bind fun a3 => (zld mu a3 x1).bind fun t5 => if t5 = 0 then ((getQ mu 7 4 x0).bind fun t7 => t7.bind fun a9 => (ald mu a9 x1).bind fun t11 => if t11 = x2 then ((getQ mu 7 5 x0).bind fun t13 => t13.bind fun a15 => (ald mu a15 x1).bind fun t17 => if t17 = x3 then (some 1) else (some 0)) else (some 0)) else (some 0)
set_option maxHeartbeats 1000000 in
set_option maxRecDepth 100000 in
theorem k_X5_isAt (l : Launch) (hsl : l.stackTraces = false) (G : GG) (A : Nat → Prop) (mu : Mem) (x0 : Nat) (x1 : Int32) (x2 : Int32) (x3 : Int32) (r : Int32) (hf : f_X5_isAt mu x0 x1 x2 x3 = some r) : Ok l yX5_isAt wsX5_isAt ({ frames := 6, cells := 0, slots := 0, locals := 110 } : Room) [.ref x0, .int x1, .int x2, .int x3] G A mu (dP (.inr (rI r)) mu) := by
  refine Ok.start (cc := cX5_isAt) (maxL := 4) (ret := (some .boolean)) rfl (by decide +kernel) hsl (by first | exact Nat.le_of_ble_eq_true rfl | simp [lg_sl, cat_rf, Value.category]) ?_
  intro p e s m args below meth c ls X hr hname hW hl
  have X : BX p l s m args meth c cX5_isAt 4 RX5 wsX5_isAt G A := X
  have hx := X.1
  have hb := X.2.1
  have hts := X.2.2.2.2.1
  have hl : lv_has ls 4 [(0, .ref x0), (1, .int x1), (2, .int x2), (3, .int x3)] := hl
  have hinX5 : ∀ w ∈ wsX50, w ∈ wsX5_isAt := by decide +kernel
  have hF19 : (Cond.fieldLink RX5 19 "PartcopyistBenchModel" "partOf" "[I").before args s = true := hts _ (by decide +kernel)
  have hF22 : (Cond.fieldLink RX5 22 "PartcopyistBenchModel" "barOf" "[I").before args s = true := hts _ (by decide +kernel)
  have hF47 : (Cond.fieldLink RX5 47 "PartcopyistBenchModel" "isOut" "[Z").before args s = true := hts _ (by decide +kernel)
  unfold f_X5_isAt at hf
  refine lv_aload_n hx hb dX5_isAt_0 rfl (lv_at hl 0 rfl) ?_
  replace hf := bnd hf
  obtain ⟨t1, h2, hf⟩ := hf
  refine g_7_13 X hW hinX5 hF47 h2 dX5_isAt_1 ?_
  refine lv_iload_n hx hb dX5_isAt_4 rfl (lv_at hl 1 rfl) ?_
  replace hf := bnd hf
  obtain ⟨a3, h4, hf⟩ := hf
  subst h4
  replace hf := bnd hf
  obtain ⟨t5, h6, hf⟩ := hf
  refine r_zld X hW h6 dX5_isAt_5 ?_
  refine lv_if_ne (tgt := 33) hx hb dX5_isAt_6 (by decide) (fun hc => ?_) (fun hc => ?_)
  · replace hf := itn hc hf
    refine lv_iconst (v := 0) hx hb dX5_isAt_33 (by decide) ?_
    exact r_zret X hr hW (Or.inl rfl) (by cases hf; exact ⟨rfl, rfl⟩) (by decide) (by decide) dX5_isAt_34
  · replace hf := itp hc hf
    refine lv_aload_n hx hb dX5_isAt_9 rfl (lv_at hl 0 rfl) ?_
    replace hf := bnd hf
    obtain ⟨t7, h8, hf⟩ := hf
    refine g_7_4 X hW hinX5 hF19 h8 dX5_isAt_10 ?_
    refine lv_iload_n hx hb dX5_isAt_13 rfl (lv_at hl 1 rfl) ?_
    replace hf := bnd hf
    obtain ⟨a9, h10, hf⟩ := hf
    subst h10
    replace hf := bnd hf
    obtain ⟨t11, h12, hf⟩ := hf
    refine r_ald X hW h12 dX5_isAt_14 ?_
    refine lv_iload_n hx hb dX5_isAt_15 rfl (lv_at hl 2 rfl) ?_
    refine lv_icmp_ne (tgt := 33) hx hb dX5_isAt_16 (by decide) (fun hc => ?_) (fun hc => ?_)
    · replace hf := itn hc hf
      refine lv_iconst (v := 0) hx hb dX5_isAt_33 (by decide) ?_
      exact r_zret X hr hW (Or.inl rfl) (by cases hf; exact ⟨rfl, rfl⟩) (by decide) (by decide) dX5_isAt_34
    · replace hf := itp hc hf
      refine lv_aload_n hx hb dX5_isAt_19 rfl (lv_at hl 0 rfl) ?_
      replace hf := bnd hf
      obtain ⟨t13, h14, hf⟩ := hf
      refine g_7_5 X hW hinX5 hF22 h14 dX5_isAt_20 ?_
      refine lv_iload_n hx hb dX5_isAt_23 rfl (lv_at hl 1 rfl) ?_
      replace hf := bnd hf
      obtain ⟨a15, h16, hf⟩ := hf
      subst h16
      replace hf := bnd hf
      obtain ⟨t17, h18, hf⟩ := hf
      refine r_ald X hW h18 dX5_isAt_24 ?_
      refine lv_iload_n hx hb dX5_isAt_25 rfl (lv_at hl 3 rfl) ?_
      refine lv_icmp_ne (tgt := 33) hx hb dX5_isAt_26 (by decide) (fun hc => ?_) (fun hc => ?_)
      · replace hf := itn hc hf
        refine lv_iconst (v := 0) hx hb dX5_isAt_33 (by decide) ?_
        exact r_zret X hr hW (Or.inl rfl) (by cases hf; exact ⟨rfl, rfl⟩) (by decide) (by decide) dX5_isAt_34
      · replace hf := itp hc hf
        refine lv_iconst (v := 1) hx hb dX5_isAt_29 (by decide) ?_
        refine lv_goto (tgt := 34) hx hb dX5_isAt_30 (by decide) ?_
        exact r_zret X hr hW (Or.inr rfl) (by cases hf; exact ⟨rfl, rfl⟩) (by decide) (by decide) dX5_isAt_34

def f_X5_isTaken_L3 (mu : Mem) (u0_3 : Nat) (u1_3 : Int32) (u2_3 : Int32) (u3_3 : Int32) (u4_3 : Int32) (u5_3 : Int32) (u6_3 : Int32) (k9 : Int32 → Option (Int32)) : Nat → Int32 → Option (Int32)
  | 0, _ => none
  | n + 1, w7_3 => (getI mu 7 17 u0_3).bind fun t1 => if t1 ≤ w7_3 then (k9 w7_3) else (if w7_3 = u6_3 then (f_X5_isTaken_L3 mu u0_3 u1_3 u2_3 u3_3 u4_3 u5_3 u6_3 k9 n (w7_3 + 1)) else ((chk mu 7 u0_3).bind fun _ => (f_X5_isAt mu u0_3 w7_3 u1_3 u2_3).bind fun t4 => if t4 = 0 then (f_X5_isTaken_L3 mu u0_3 u1_3 u2_3 u3_3 u4_3 u5_3 u6_3 k9 n (w7_3 + 1)) else ((getQ mu 7 6 u0_3).bind fun t6 => t6.bind fun a8 => (ald mu a8 w7_3).bind fun t10 => if t10 = u3_3 then ((getQ mu 7 7 u0_3).bind fun t12 => t12.bind fun a14 => (ald mu a14 w7_3).bind fun t16 => if (u4_3 + u5_3) ≤ t16 then (f_X5_isTaken_L3 mu u0_3 u1_3 u2_3 u3_3 u4_3 u5_3 u6_3 k9 n (w7_3 + 1)) else ((getQ mu 7 7 u0_3).bind fun t18 => t18.bind fun a20 => (ald mu a20 w7_3).bind fun t22 => (getQ mu 7 8 u0_3).bind fun t24 => t24.bind fun a26 => (ald mu a26 w7_3).bind fun t28 => if (t22 + t28) ≤ u4_3 then (f_X5_isTaken_L3 mu u0_3 u1_3 u2_3 u3_3 u4_3 u5_3 u6_3 k9 n (w7_3 + 1)) else (some 1))) else (f_X5_isTaken_L3 mu u0_3 u1_3 u2_3 u3_3 u4_3 u5_3 u6_3 k9 n (w7_3 + 1)))))
def f_X5_isTaken (mu : Mem) (x0 : Nat) (x1 : Int32) (x2 : Int32) (x3 : Int32) (x4 : Int32) (x5 : Int32) (x6 : Int32) : Option (Int32) := f_X5_isTaken_L3 mu x0 x1 x2 x3 x4 x5 x6 (fun (zw7_3 : Int32) => some 0) 200 0
set_option maxHeartbeats 1000000 in
set_option maxRecDepth 100000 in
theorem k_X5_isTaken (l : Launch) (hsl : l.stackTraces = false) (G : GG) (A : Nat → Prop) (mu : Mem) (x0 : Nat) (x1 : Int32) (x2 : Int32) (x3 : Int32) (x4 : Int32) (x5 : Int32) (x6 : Int32) (r : Int32) (hf : f_X5_isTaken mu x0 x1 x2 x3 x4 x5 x6 = some r) : Ok l yX5_isTaken wsX5_isTaken ({ frames := 8, cells := 0, slots := 0, locals := 150 } : Room) [.ref x0, .int x1, .int x2, .int x3, .int x4, .int x5, .int x6] G A mu (dP (.inr (rI r)) mu) := by
  refine Ok.start (cc := cX5_isTaken) (maxL := 8) (ret := (some .boolean)) rfl (by decide +kernel) hsl (by first | exact Nat.le_of_ble_eq_true rfl | simp [lg_sl, cat_rf, Value.category]) ?_
  intro p e s m args below meth c ls X hr hname hW hl
  have X : BX p l s m args meth c cX5_isTaken 8 RX5 wsX5_isTaken G A := X
  have hx := X.1
  have hb := X.2.1
  have hts := X.2.2.2.2.1
  have hl : lv_has ls 8 [(0, .ref x0), (1, .int x1), (2, .int x2), (3, .int x3), (4, .int x4), (5, .int x5), (6, .int x6)] := hl
  have hinX5 : ∀ w ∈ wsX50, w ∈ wsX5_isTaken := by decide +kernel
  have hF25 : (Cond.fieldLink RX5 25 "PartcopyistBenchModel" "voices" "[I").before args s = true := hts _ (by decide +kernel)
  have hF28 : (Cond.fieldLink RX5 28 "PartcopyistBenchModel" "firsts" "[I").before args s = true := hts _ (by decide +kernel)
  have hF31 : (Cond.fieldLink RX5 31 "PartcopyistBenchModel" "lengths" "[I").before args s = true := hts _ (by decide +kernel)
  have hF91 : (Cond.fieldLink RX5 91 "PartcopyistBenchModel" "notes" "I").before args s = true := hts _ (by decide +kernel)
  unfold f_X5_isTaken at hf
  refine lv_iconst (v := 0) hx hb dX5_isTaken_0 (by decide) ?_
  refine lv_istore (lv' := [(7, .int 0), (0, .ref x0), (1, .int x1), (2, .int x2), (3, .int x3), (4, .int x4), (5, .int x5), (6, .int x6)]) hx hb dX5_isTaken_1 hl (by decide) rfl (fun ls hl => ?_)
  have L3 : ∀ (u0_3 : Nat) (u1_3 : Int32) (u2_3 : Int32) (u3_3 : Int32) (u4_3 : Int32) (u5_3 : Int32) (u6_3 : Int32) (k9 : Int32 → Option (Int32)),
      (∀ (w7_3 : Int32) (H : Heap) (locs : List Loc) (ls : Array Slot), k9 w7_3 = some r → MW G A mu s.heap H locs → lv_has ls 8 [(0, .ref u0_3), (1, .int u1_3), (2, .int u2_3), (3, .int u3_3), (4, .int u4_3), (5, .int u5_3), (6, .int u6_3), (7, .int w7_3)] → W p l e ({ frames := 8, cells := 0, slots := 0, locals := 150 } : Room) s m args below meth c H locs 0 0 (QQ below G A (dP (.inr (rI r)) mu) args s 0 0) (F0 m 84 ls [])) →
      ∀ (n : Nat) (w7_3 : Int32) (H : Heap) (locs : List Loc) (ls : Array Slot), f_X5_isTaken_L3 mu u0_3 u1_3 u2_3 u3_3 u4_3 u5_3 u6_3 k9 n w7_3 = some r → MW G A mu s.heap H locs → lv_has ls 8 [(0, .ref u0_3), (1, .int u1_3), (2, .int u2_3), (3, .int u3_3), (4, .int u4_3), (5, .int u5_3), (6, .int u6_3), (7, .int w7_3)] → W p l e ({ frames := 8, cells := 0, slots := 0, locals := 150 } : Room) s m args below meth c H locs 0 0 (QQ below G A (dP (.inr (rI r)) mu) args s 0 0) (F0 m 3 ls []) := by
    intro u0_3 u1_3 u2_3 u3_3 u4_3 u5_3 u6_3 k9 hk3 n
    induction n with
    | zero => intro w7_3 H locs ls hf hW hl; rw [f_X5_isTaken_L3] at hf; cases hf
    | succ n ih3 =>
      intro w7_3 H locs ls hf hW hl
      rw [f_X5_isTaken_L3] at hf
      refine lv_iload hx hb dX5_isTaken_3 (lv_at hl 7 rfl) ?_
      refine lv_aload_n hx hb dX5_isTaken_5 rfl (lv_at hl 0 rfl) ?_
      replace hf := bnd hf
      obtain ⟨t1, h2, hf⟩ := hf
      refine g_7_17 X hW hinX5 hF91 h2 dX5_isTaken_6 ?_
      refine lv_icmp_ge (tgt := 84) hx hb dX5_isTaken_9 (by decide) (fun hc => ?_) (fun hc => ?_)
      · replace hf := itp hc hf
        exact hk3 _ _ _ _ hf hW (lv_sub hl [0, 1, 2, 3, 4, 5, 6, 7] rfl)
      · replace hf := itn hc hf
        refine lv_iload hx hb dX5_isTaken_12 (lv_at hl 7 rfl) ?_
        refine lv_iload hx hb dX5_isTaken_14 (lv_at hl 6 rfl) ?_
        refine lv_icmp_eq (tgt := 78) hx hb dX5_isTaken_16 (by decide) (fun hc => ?_) (fun hc => ?_)
        · replace hf := itp hc hf
          refine lv_iinc (v := (w7_3 + 1)) (lv' := [(7, .int (w7_3 + 1)), (0, .ref u0_3), (1, .int u1_3), (2, .int u2_3), (3, .int u3_3), (4, .int u4_3), (5, .int u5_3), (6, .int u6_3)]) hx hb dX5_isTaken_78 hl (k := 7) rfl rfl (by decide) rfl (fun ls hl => ?_)
          refine lv_goto (tgt := 3) hx hb dX5_isTaken_81 (by decide) ?_
          exact ih3 _ _ _ _ hf hW (lv_sub hl [1, 2, 3, 4, 5, 6, 7, 0] rfl)
        · replace hf := itn hc hf
          refine lv_aload_n hx hb dX5_isTaken_19 rfl (lv_at hl 0 rfl) ?_
          refine lv_iload hx hb dX5_isTaken_20 (lv_at hl 7 rfl) ?_
          refine lv_iload_n hx hb dX5_isTaken_22 rfl (lv_at hl 1 rfl) ?_
          refine lv_iload_n hx hb dX5_isTaken_23 rfl (lv_at hl 2 rfl) ?_
          replace hf := bnd hf
          obtain ⟨_, h3, hf⟩ := hf
          replace hf := bnd hf
          obtain ⟨t4, h5, hf⟩ := hf
          refine r_callV_ok X hW hl.1 (k_X5_isAt l hsl G A mu u0_3 w7_3 u1_3 u2_3 _ h5) gX5_isTaken_X5_isAt rfl (chk_ok h3) (by decide) rfl (by decide +kernel) (n := 3) rfl (by decide) (Nat.le_of_ble_eq_true rfl) dX5_isTaken_24 rfl rfl (stk := [.int t4]) rfl (fun H locs hW => ?_)
          refine lv_if_eq (tgt := 78) hx hb dX5_isTaken_27 (by decide) (fun hc => ?_) (fun hc => ?_)
          · replace hf := itp hc hf
            refine lv_iinc (v := (w7_3 + 1)) (lv' := [(7, .int (w7_3 + 1)), (0, .ref u0_3), (1, .int u1_3), (2, .int u2_3), (3, .int u3_3), (4, .int u4_3), (5, .int u5_3), (6, .int u6_3)]) hx hb dX5_isTaken_78 hl (k := 7) rfl rfl (by decide) rfl (fun ls hl => ?_)
            refine lv_goto (tgt := 3) hx hb dX5_isTaken_81 (by decide) ?_
            exact ih3 _ _ _ _ hf hW (lv_sub hl [1, 2, 3, 4, 5, 6, 7, 0] rfl)
          · replace hf := itn hc hf
            refine lv_aload_n hx hb dX5_isTaken_30 rfl (lv_at hl 0 rfl) ?_
            replace hf := bnd hf
            obtain ⟨t6, h7, hf⟩ := hf
            refine g_7_6 X hW hinX5 hF25 h7 dX5_isTaken_31 ?_
            refine lv_iload hx hb dX5_isTaken_34 (lv_at hl 7 rfl) ?_
            replace hf := bnd hf
            obtain ⟨a8, h9, hf⟩ := hf
            subst h9
            replace hf := bnd hf
            obtain ⟨t10, h11, hf⟩ := hf
            refine r_ald X hW h11 dX5_isTaken_36 ?_
            refine lv_iload_n hx hb dX5_isTaken_37 rfl (lv_at hl 3 rfl) ?_
            refine lv_icmp_ne (tgt := 78) hx hb dX5_isTaken_38 (by decide) (fun hc => ?_) (fun hc => ?_)
            · replace hf := itn hc hf
              refine lv_iinc (v := (w7_3 + 1)) (lv' := [(7, .int (w7_3 + 1)), (0, .ref u0_3), (1, .int u1_3), (2, .int u2_3), (3, .int u3_3), (4, .int u4_3), (5, .int u5_3), (6, .int u6_3)]) hx hb dX5_isTaken_78 hl (k := 7) rfl rfl (by decide) rfl (fun ls hl => ?_)
              refine lv_goto (tgt := 3) hx hb dX5_isTaken_81 (by decide) ?_
              exact ih3 _ _ _ _ hf hW (lv_sub hl [1, 2, 3, 4, 5, 6, 7, 0] rfl)
            · replace hf := itp hc hf
              refine lv_aload_n hx hb dX5_isTaken_41 rfl (lv_at hl 0 rfl) ?_
              replace hf := bnd hf
              obtain ⟨t12, h13, hf⟩ := hf
              refine g_7_7 X hW hinX5 hF28 h13 dX5_isTaken_42 ?_
              refine lv_iload hx hb dX5_isTaken_45 (lv_at hl 7 rfl) ?_
              replace hf := bnd hf
              obtain ⟨a14, h15, hf⟩ := hf
              subst h15
              replace hf := bnd hf
              obtain ⟨t16, h17, hf⟩ := hf
              refine r_ald X hW h17 dX5_isTaken_47 ?_
              refine lv_iload hx hb dX5_isTaken_48 (lv_at hl 4 rfl) ?_
              refine lv_iload hx hb dX5_isTaken_50 (lv_at hl 5 rfl) ?_
              refine lv_iadd hx hb dX5_isTaken_52 ?_
              refine lv_icmp_ge (tgt := 78) hx hb dX5_isTaken_53 (by decide) (fun hc => ?_) (fun hc => ?_)
              · replace hf := itp hc hf
                refine lv_iinc (v := (w7_3 + 1)) (lv' := [(7, .int (w7_3 + 1)), (0, .ref u0_3), (1, .int u1_3), (2, .int u2_3), (3, .int u3_3), (4, .int u4_3), (5, .int u5_3), (6, .int u6_3)]) hx hb dX5_isTaken_78 hl (k := 7) rfl rfl (by decide) rfl (fun ls hl => ?_)
                refine lv_goto (tgt := 3) hx hb dX5_isTaken_81 (by decide) ?_
                exact ih3 _ _ _ _ hf hW (lv_sub hl [1, 2, 3, 4, 5, 6, 7, 0] rfl)
              · replace hf := itn hc hf
                refine lv_iload hx hb dX5_isTaken_56 (lv_at hl 4 rfl) ?_
                refine lv_aload_n hx hb dX5_isTaken_58 rfl (lv_at hl 0 rfl) ?_
                replace hf := bnd hf
                obtain ⟨t18, h19, hf⟩ := hf
                refine g_7_7 X hW hinX5 hF28 h19 dX5_isTaken_59 ?_
                refine lv_iload hx hb dX5_isTaken_62 (lv_at hl 7 rfl) ?_
                replace hf := bnd hf
                obtain ⟨a20, h21, hf⟩ := hf
                subst h21
                replace hf := bnd hf
                obtain ⟨t22, h23, hf⟩ := hf
                refine r_ald X hW h23 dX5_isTaken_64 ?_
                refine lv_aload_n hx hb dX5_isTaken_65 rfl (lv_at hl 0 rfl) ?_
                replace hf := bnd hf
                obtain ⟨t24, h25, hf⟩ := hf
                refine g_7_8 X hW hinX5 hF31 h25 dX5_isTaken_66 ?_
                refine lv_iload hx hb dX5_isTaken_69 (lv_at hl 7 rfl) ?_
                replace hf := bnd hf
                obtain ⟨a26, h27, hf⟩ := hf
                subst h27
                replace hf := bnd hf
                obtain ⟨t28, h29, hf⟩ := hf
                refine r_ald X hW h29 dX5_isTaken_71 ?_
                refine lv_iadd hx hb dX5_isTaken_72 ?_
                refine lv_icmp_ge (tgt := 78) hx hb dX5_isTaken_73 (by decide) (fun hc => ?_) (fun hc => ?_)
                · replace hf := itp hc hf
                  refine lv_iinc (v := (w7_3 + 1)) (lv' := [(7, .int (w7_3 + 1)), (0, .ref u0_3), (1, .int u1_3), (2, .int u2_3), (3, .int u3_3), (4, .int u4_3), (5, .int u5_3), (6, .int u6_3)]) hx hb dX5_isTaken_78 hl (k := 7) rfl rfl (by decide) rfl (fun ls hl => ?_)
                  refine lv_goto (tgt := 3) hx hb dX5_isTaken_81 (by decide) ?_
                  exact ih3 _ _ _ _ hf hW (lv_sub hl [1, 2, 3, 4, 5, 6, 7, 0] rfl)
                · replace hf := itn hc hf
                  refine lv_iconst (v := 1) hx hb dX5_isTaken_76 (by decide) ?_
                  exact r_zret X hr hW (Or.inr rfl) (by cases hf; exact ⟨rfl, rfl⟩) (by decide) (by decide) dX5_isTaken_77
  refine L3 x0 x1 x2 x3 x4 x5 x6 _ ?_ 200 0 _ _ _ hf hW (lv_sub hl [1, 2, 3, 4, 5, 6, 7, 0] rfl)
  intro zw7_3 H locs ls hf hW hl
  refine lv_iconst (v := 0) hx hb dX5_isTaken_84 (by decide) ?_
  exact r_zret X hr hW (Or.inl rfl) (by cases hf; exact ⟨rfl, rfl⟩) (by decide) (by decide) dX5_isTaken_85

def f_X5_addNote (mu : Mem) (x0 : Nat) (x1 : Int32) (x2 : Int32) (x3 : Int32) (x4 : Int32) (x5 : Int32) (x6 : Int32) : Option ((Int32) × Mem) := (putI mu 7 0 x0 0).bind fun m1 => (chk m1 7 x0).bind fun _ => (f_X5_isPart m1 x0 x1).bind fun t4 => if t4 = 0 then ((chk m1 7 x0).bind fun _ => bi2 (f_X5_fails m1 x0 1) (fun (t7 : (Int32)) m9 => some (t7, m9))) else ((chk m1 7 x0).bind fun _ => (f_X5_isBar m1 x0 x2).bind fun t11 => if t11 = 0 then ((chk m1 7 x0).bind fun _ => bi2 (f_X5_fails m1 x0 1) (fun (t100 : (Int32)) m102 => some (t100, m102))) else ((f_X5_isBetween m1 x3 0 1).bind fun t13 => if t13 = 0 then ((chk m1 7 x0).bind fun _ => bi2 (f_X5_fails m1 x0 2) (fun (t16 : (Int32)) m18 => some (t16, m18))) else ((f_X5_isBetween m1 x6 24 96).bind fun t19 => if t19 = 0 then ((chk m1 7 x0).bind fun _ => bi2 (f_X5_fails m1 x0 2) (fun (t22 : (Int32)) m24 => some (t22, m24))) else ((chk m1 7 x0).bind fun _ => (f_X5_isWithin m1 x0 x2 x4 x5).bind fun t26 => if t26 = 0 then ((chk m1 7 x0).bind fun _ => bi2 (f_X5_fails m1 x0 2) (fun (t96 : (Int32)) m98 => some (t96, m98))) else ((chk m1 7 x0).bind fun _ => (f_X5_isTaken m1 x0 x1 x2 x3 x4 x5 (-1)).bind fun t29 => if t29 = 0 then ((getI m1 7 17 x0).bind fun t31 => if t31 = 120 then ((chk m1 7 x0).bind fun _ => bi2 (f_X5_fails m1 x0 4) (fun (t88 : (Int32)) m90 => some (t88, m90))) else ((getQ m1 7 4 x0).bind fun t33 => (getI m1 7 17 x0).bind fun t35 => t33.bind fun a37 => (ast m1 a37 t35 x1).bind fun m39 => (getQ m39 7 5 x0).bind fun t41 => (getI m39 7 17 x0).bind fun t43 => t41.bind fun a45 => (ast m39 a45 t43 x2).bind fun m47 => (getQ m47 7 6 x0).bind fun t49 => (getI m47 7 17 x0).bind fun t51 => t49.bind fun a53 => (ast m47 a53 t51 x3).bind fun m55 => (getQ m55 7 7 x0).bind fun t57 => (getI m55 7 17 x0).bind fun t59 => t57.bind fun a61 => (ast m55 a61 t59 x4).bind fun m63 => (getQ m63 7 8 x0).bind fun t65 => (getI m63 7 17 x0).bind fun t67 => t65.bind fun a69 => (ast m63 a69 t67 x5).bind fun m71 => (getQ m71 7 9 x0).bind fun t73 => (getI m71 7 17 x0).bind fun t75 => t73.bind fun a77 => (ast m71 a77 t75 x6).bind fun m79 => (getI m79 7 17 x0).bind fun t81 => (putI m79 7 17 x0 (t81 + 1)).bind fun m83 => (getI m83 7 17 x0).bind fun t85 => some ((t85 - 1), m83))) else ((chk m1 7 x0).bind fun _ => bi2 (f_X5_fails m1 x0 3) (fun (t92 : (Int32)) m94 => some (t92, m94))))))))
set_option maxHeartbeats 1000000 in
set_option maxRecDepth 100000 in
theorem k_X5_addNote (l : Launch) (hsl : l.stackTraces = false) (G : GG) (A : Nat → Prop) (mu : Mem) (x0 : Nat) (x1 : Int32) (x2 : Int32) (x3 : Int32) (x4 : Int32) (x5 : Int32) (x6 : Int32) (r : (Int32) × Mem) (hf : f_X5_addNote mu x0 x1 x2 x3 x4 x5 x6 = some r) : Ok l yX5_addNote wsX5_addNote ({ frames := 10, cells := 0, slots := 0, locals := 190 } : Room) [.ref x0, .int x1, .int x2, .int x3, .int x4, .int x5, .int x6] G A mu (dP (.inr (rI r.1)) r.2) := by
  refine Ok.start (cc := cX5_addNote) (maxL := 7) (ret := (some .int)) rfl (by decide +kernel) hsl (by first | exact Nat.le_of_ble_eq_true rfl | simp [lg_sl, cat_rf, Value.category]) ?_
  intro p e s m args below meth c ls X hr hname hW hl
  have X : BX p l s m args meth c cX5_addNote 7 RX5 wsX5_addNote G A := X
  have hx := X.1
  have hb := X.2.1
  have hts := X.2.2.2.2.1
  have hl : lv_has ls 7 [(0, .ref x0), (1, .int x1), (2, .int x2), (3, .int x3), (4, .int x4), (5, .int x5), (6, .int x6)] := hl
  have hinX5 : ∀ w ∈ wsX50, w ∈ wsX5_addNote := by decide +kernel
  have hF19 : (Cond.fieldLink RX5 19 "PartcopyistBenchModel" "partOf" "[I").before args s = true := hts _ (by decide +kernel)
  have hF22 : (Cond.fieldLink RX5 22 "PartcopyistBenchModel" "barOf" "[I").before args s = true := hts _ (by decide +kernel)
  have hF25 : (Cond.fieldLink RX5 25 "PartcopyistBenchModel" "voices" "[I").before args s = true := hts _ (by decide +kernel)
  have hF28 : (Cond.fieldLink RX5 28 "PartcopyistBenchModel" "firsts" "[I").before args s = true := hts _ (by decide +kernel)
  have hF31 : (Cond.fieldLink RX5 31 "PartcopyistBenchModel" "lengths" "[I").before args s = true := hts _ (by decide +kernel)
  have hF34 : (Cond.fieldLink RX5 34 "PartcopyistBenchModel" "pitches" "[I").before args s = true := hts _ (by decide +kernel)
  have hF78 : (Cond.fieldLink RX5 78 "PartcopyistBenchModel" "thrown" "I").before args s = true := hts _ (by decide +kernel)
  have hF91 : (Cond.fieldLink RX5 91 "PartcopyistBenchModel" "notes" "I").before args s = true := hts _ (by decide +kernel)
  unfold f_X5_addNote at hf
  refine lv_aload_n hx hb dX5_addNote_0 rfl (lv_at hl 0 rfl) ?_
  refine lv_iconst (v := 0) hx hb dX5_addNote_1 (by decide) ?_
  replace hf := bnd hf
  obtain ⟨m1, h2, hf⟩ := hf
  refine p_7_0 X hW hinX5 hF78 h2 dX5_addNote_2 (fun H locs hW => ?_)
  refine lv_aload_n hx hb dX5_addNote_5 rfl (lv_at hl 0 rfl) ?_
  refine lv_iload_n hx hb dX5_addNote_6 rfl (lv_at hl 1 rfl) ?_
  replace hf := bnd hf
  obtain ⟨_, h3, hf⟩ := hf
  replace hf := bnd hf
  obtain ⟨t4, h5, hf⟩ := hf
  refine r_callV_ok X hW hl.1 (k_X5_isPart l hsl G A m1 x0 x1 _ h5) gX5_addNote_X5_isPart rfl (chk_ok h3) (by decide) rfl (by decide +kernel) (n := 1) rfl (by decide) (Nat.le_of_ble_eq_true rfl) dX5_addNote_7 rfl rfl (stk := [.int t4]) rfl (fun H locs hW => ?_)
  refine lv_if_eq (tgt := 21) hx hb dX5_addNote_10 (by decide) (fun hc => ?_) (fun hc => ?_)
  · replace hf := itp hc hf
    refine lv_aload_n hx hb dX5_addNote_21 rfl (lv_at hl 0 rfl) ?_
    refine lv_iconst (v := 1) hx hb dX5_addNote_22 (by decide) ?_
    replace hf := bnd hf
    obtain ⟨_, h6, hf⟩ := hf
    replace hf := bnd2 hf
    obtain ⟨t7, m9, h8, hf⟩ := hf
    refine r_callV_ok (μ9 := m9) X hW hl.1 (k_X5_fails l hsl G A m1 x0 1 _ h8) gX5_addNote_X5_fails rfl (chk_ok h6) (by decide) rfl (by decide +kernel) (n := 1) rfl (by decide) (Nat.le_of_ble_eq_true rfl) dX5_addNote_23 rfl rfl (stk := [.int t7]) rfl (fun H locs hW => ?_)
    exact r_iret X hr hW (by cases hf; exact ⟨rfl, rfl⟩) (by decide) (by decide) dX5_addNote_26
  · replace hf := itn hc hf
    refine lv_aload_n hx hb dX5_addNote_13 rfl (lv_at hl 0 rfl) ?_
    refine lv_iload_n hx hb dX5_addNote_14 rfl (lv_at hl 2 rfl) ?_
    replace hf := bnd hf
    obtain ⟨_, h10, hf⟩ := hf
    replace hf := bnd hf
    obtain ⟨t11, h12, hf⟩ := hf
    refine r_callV_ok X hW hl.1 (k_X5_isBar l hsl G A m1 x0 x2 _ h12) gX5_addNote_X5_isBar rfl (chk_ok h10) (by decide) rfl (by decide +kernel) (n := 1) rfl (by decide) (Nat.le_of_ble_eq_true rfl) dX5_addNote_15 rfl rfl (stk := [.int t11]) rfl (fun H locs hW => ?_)
    refine lv_if_ne (tgt := 27) hx hb dX5_addNote_18 (by decide) (fun hc => ?_) (fun hc => ?_)
    · replace hf := itn hc hf
      refine lv_iload_n hx hb dX5_addNote_27 rfl (lv_at hl 3 rfl) ?_
      refine lv_iconst (v := 0) hx hb dX5_addNote_28 (by decide) ?_
      refine lv_iconst (v := 1) hx hb dX5_addNote_29 (by decide) ?_
      replace hf := bnd hf
      obtain ⟨t13, h14, hf⟩ := hf
      refine r_callS_ok X hW hl.1 (k_X5_isBetween l hsl G A m1 x3 0 1 _ h14) gX5_addNote_X5_isBetween rfl (by decide +kernel) (n := 3) rfl (by decide) (Nat.le_of_ble_eq_true rfl) dX5_addNote_30 rfl rfl (stk := [.int t13]) rfl (fun H locs hW => ?_)
      refine lv_if_eq (tgt := 60) hx hb dX5_addNote_33 (by decide) (fun hc => ?_) (fun hc => ?_)
      · replace hf := itp hc hf
        refine lv_aload_n hx hb dX5_addNote_60 rfl (lv_at hl 0 rfl) ?_
        refine lv_iconst (v := 2) hx hb dX5_addNote_61 (by decide) ?_
        replace hf := bnd hf
        obtain ⟨_, h15, hf⟩ := hf
        replace hf := bnd2 hf
        obtain ⟨t16, m18, h17, hf⟩ := hf
        refine r_callV_ok (μ9 := m18) X hW hl.1 (k_X5_fails l hsl G A m1 x0 2 _ h17) gX5_addNote_X5_fails rfl (chk_ok h15) (by decide) rfl (by decide +kernel) (n := 1) rfl (by decide) (Nat.le_of_ble_eq_true rfl) dX5_addNote_62 rfl rfl (stk := [.int t16]) rfl (fun H locs hW => ?_)
        exact r_iret X hr hW (by cases hf; exact ⟨rfl, rfl⟩) (by decide) (by decide) dX5_addNote_65
      · replace hf := itn hc hf
        refine lv_iload hx hb dX5_addNote_36 (lv_at hl 6 rfl) ?_
        refine lv_bipush (v := 24) hx hb dX5_addNote_38 (by decide) ?_
        refine lv_bipush (v := 96) hx hb dX5_addNote_40 (by decide) ?_
        replace hf := bnd hf
        obtain ⟨t19, h20, hf⟩ := hf
        refine r_callS_ok X hW hl.1 (k_X5_isBetween l hsl G A m1 x6 24 96 _ h20) gX5_addNote_X5_isBetween rfl (by decide +kernel) (n := 3) rfl (by decide) (Nat.le_of_ble_eq_true rfl) dX5_addNote_42 rfl rfl (stk := [.int t19]) rfl (fun H locs hW => ?_)
        refine lv_if_eq (tgt := 60) hx hb dX5_addNote_45 (by decide) (fun hc => ?_) (fun hc => ?_)
        · replace hf := itp hc hf
          refine lv_aload_n hx hb dX5_addNote_60 rfl (lv_at hl 0 rfl) ?_
          refine lv_iconst (v := 2) hx hb dX5_addNote_61 (by decide) ?_
          replace hf := bnd hf
          obtain ⟨_, h21, hf⟩ := hf
          replace hf := bnd2 hf
          obtain ⟨t22, m24, h23, hf⟩ := hf
          refine r_callV_ok (μ9 := m24) X hW hl.1 (k_X5_fails l hsl G A m1 x0 2 _ h23) gX5_addNote_X5_fails rfl (chk_ok h21) (by decide) rfl (by decide +kernel) (n := 1) rfl (by decide) (Nat.le_of_ble_eq_true rfl) dX5_addNote_62 rfl rfl (stk := [.int t22]) rfl (fun H locs hW => ?_)
          exact r_iret X hr hW (by cases hf; exact ⟨rfl, rfl⟩) (by decide) (by decide) dX5_addNote_65
        · replace hf := itn hc hf
          refine lv_aload_n hx hb dX5_addNote_48 rfl (lv_at hl 0 rfl) ?_
          refine lv_iload_n hx hb dX5_addNote_49 rfl (lv_at hl 2 rfl) ?_
          refine lv_iload hx hb dX5_addNote_50 (lv_at hl 4 rfl) ?_
          refine lv_iload hx hb dX5_addNote_52 (lv_at hl 5 rfl) ?_
          replace hf := bnd hf
          obtain ⟨_, h25, hf⟩ := hf
          replace hf := bnd hf
          obtain ⟨t26, h27, hf⟩ := hf
          refine r_callV_ok X hW hl.1 (k_X5_isWithin l hsl G A m1 x0 x2 x4 x5 _ h27) gX5_addNote_X5_isWithin rfl (chk_ok h25) (by decide) rfl (by decide +kernel) (n := 3) rfl (by decide) (Nat.le_of_ble_eq_true rfl) dX5_addNote_54 rfl rfl (stk := [.int t26]) rfl (fun H locs hW => ?_)
          refine lv_if_ne (tgt := 66) hx hb dX5_addNote_57 (by decide) (fun hc => ?_) (fun hc => ?_)
          · replace hf := itn hc hf
            refine lv_aload_n hx hb dX5_addNote_66 rfl (lv_at hl 0 rfl) ?_
            refine lv_iload_n hx hb dX5_addNote_67 rfl (lv_at hl 1 rfl) ?_
            refine lv_iload_n hx hb dX5_addNote_68 rfl (lv_at hl 2 rfl) ?_
            refine lv_iload_n hx hb dX5_addNote_69 rfl (lv_at hl 3 rfl) ?_
            refine lv_iload hx hb dX5_addNote_70 (lv_at hl 4 rfl) ?_
            refine lv_iload hx hb dX5_addNote_72 (lv_at hl 5 rfl) ?_
            refine lv_iconst (v := (-1)) hx hb dX5_addNote_74 (by decide) ?_
            replace hf := bnd hf
            obtain ⟨_, h28, hf⟩ := hf
            replace hf := bnd hf
            obtain ⟨t29, h30, hf⟩ := hf
            refine r_callV_ok X hW hl.1 (k_X5_isTaken l hsl G A m1 x0 x1 x2 x3 x4 x5 (-1) _ h30) gX5_addNote_X5_isTaken rfl (chk_ok h28) (by decide) rfl (by decide +kernel) (n := 6) rfl (by decide) (Nat.le_of_ble_eq_true rfl) dX5_addNote_75 rfl rfl (stk := [.int t29]) rfl (fun H locs hW => ?_)
            refine lv_if_eq (tgt := 87) hx hb dX5_addNote_78 (by decide) (fun hc => ?_) (fun hc => ?_)
            · replace hf := itp hc hf
              refine lv_aload_n hx hb dX5_addNote_87 rfl (lv_at hl 0 rfl) ?_
              replace hf := bnd hf
              obtain ⟨t31, h32, hf⟩ := hf
              refine g_7_17 X hW hinX5 hF91 h32 dX5_addNote_88 ?_
              refine lv_bipush (v := 120) hx hb dX5_addNote_91 (by decide) ?_
              refine lv_icmp_ne (tgt := 102) hx hb dX5_addNote_93 (by decide) (fun hc => ?_) (fun hc => ?_)
              · replace hf := itn hc hf
                refine lv_aload_n hx hb dX5_addNote_102 rfl (lv_at hl 0 rfl) ?_
                replace hf := bnd hf
                obtain ⟨t33, h34, hf⟩ := hf
                refine g_7_4 X hW hinX5 hF19 h34 dX5_addNote_103 ?_
                refine lv_aload_n hx hb dX5_addNote_106 rfl (lv_at hl 0 rfl) ?_
                replace hf := bnd hf
                obtain ⟨t35, h36, hf⟩ := hf
                refine g_7_17 X hW hinX5 hF91 h36 dX5_addNote_107 ?_
                refine lv_iload_n hx hb dX5_addNote_110 rfl (lv_at hl 1 rfl) ?_
                replace hf := bnd hf
                obtain ⟨a37, h38, hf⟩ := hf
                subst h38
                replace hf := bnd hf
                obtain ⟨m39, h40, hf⟩ := hf
                refine r_ast X hW h40 dX5_addNote_111 (fun H locs hW => ?_)
                refine lv_aload_n hx hb dX5_addNote_112 rfl (lv_at hl 0 rfl) ?_
                replace hf := bnd hf
                obtain ⟨t41, h42, hf⟩ := hf
                refine g_7_5 X hW hinX5 hF22 h42 dX5_addNote_113 ?_
                refine lv_aload_n hx hb dX5_addNote_116 rfl (lv_at hl 0 rfl) ?_
                replace hf := bnd hf
                obtain ⟨t43, h44, hf⟩ := hf
                refine g_7_17 X hW hinX5 hF91 h44 dX5_addNote_117 ?_
                refine lv_iload_n hx hb dX5_addNote_120 rfl (lv_at hl 2 rfl) ?_
                replace hf := bnd hf
                obtain ⟨a45, h46, hf⟩ := hf
                subst h46
                replace hf := bnd hf
                obtain ⟨m47, h48, hf⟩ := hf
                refine r_ast X hW h48 dX5_addNote_121 (fun H locs hW => ?_)
                refine lv_aload_n hx hb dX5_addNote_122 rfl (lv_at hl 0 rfl) ?_
                replace hf := bnd hf
                obtain ⟨t49, h50, hf⟩ := hf
                refine g_7_6 X hW hinX5 hF25 h50 dX5_addNote_123 ?_
                refine lv_aload_n hx hb dX5_addNote_126 rfl (lv_at hl 0 rfl) ?_
                replace hf := bnd hf
                obtain ⟨t51, h52, hf⟩ := hf
                refine g_7_17 X hW hinX5 hF91 h52 dX5_addNote_127 ?_
                refine lv_iload_n hx hb dX5_addNote_130 rfl (lv_at hl 3 rfl) ?_
                replace hf := bnd hf
                obtain ⟨a53, h54, hf⟩ := hf
                subst h54
                replace hf := bnd hf
                obtain ⟨m55, h56, hf⟩ := hf
                refine r_ast X hW h56 dX5_addNote_131 (fun H locs hW => ?_)
                refine lv_aload_n hx hb dX5_addNote_132 rfl (lv_at hl 0 rfl) ?_
                replace hf := bnd hf
                obtain ⟨t57, h58, hf⟩ := hf
                refine g_7_7 X hW hinX5 hF28 h58 dX5_addNote_133 ?_
                refine lv_aload_n hx hb dX5_addNote_136 rfl (lv_at hl 0 rfl) ?_
                replace hf := bnd hf
                obtain ⟨t59, h60, hf⟩ := hf
                refine g_7_17 X hW hinX5 hF91 h60 dX5_addNote_137 ?_
                refine lv_iload hx hb dX5_addNote_140 (lv_at hl 4 rfl) ?_
                replace hf := bnd hf
                obtain ⟨a61, h62, hf⟩ := hf
                subst h62
                replace hf := bnd hf
                obtain ⟨m63, h64, hf⟩ := hf
                refine r_ast X hW h64 dX5_addNote_142 (fun H locs hW => ?_)
                refine lv_aload_n hx hb dX5_addNote_143 rfl (lv_at hl 0 rfl) ?_
                replace hf := bnd hf
                obtain ⟨t65, h66, hf⟩ := hf
                refine g_7_8 X hW hinX5 hF31 h66 dX5_addNote_144 ?_
                refine lv_aload_n hx hb dX5_addNote_147 rfl (lv_at hl 0 rfl) ?_
                replace hf := bnd hf
                obtain ⟨t67, h68, hf⟩ := hf
                refine g_7_17 X hW hinX5 hF91 h68 dX5_addNote_148 ?_
                refine lv_iload hx hb dX5_addNote_151 (lv_at hl 5 rfl) ?_
                replace hf := bnd hf
                obtain ⟨a69, h70, hf⟩ := hf
                subst h70
                replace hf := bnd hf
                obtain ⟨m71, h72, hf⟩ := hf
                refine r_ast X hW h72 dX5_addNote_153 (fun H locs hW => ?_)
                refine lv_aload_n hx hb dX5_addNote_154 rfl (lv_at hl 0 rfl) ?_
                replace hf := bnd hf
                obtain ⟨t73, h74, hf⟩ := hf
                refine g_7_9 X hW hinX5 hF34 h74 dX5_addNote_155 ?_
                refine lv_aload_n hx hb dX5_addNote_158 rfl (lv_at hl 0 rfl) ?_
                replace hf := bnd hf
                obtain ⟨t75, h76, hf⟩ := hf
                refine g_7_17 X hW hinX5 hF91 h76 dX5_addNote_159 ?_
                refine lv_iload hx hb dX5_addNote_162 (lv_at hl 6 rfl) ?_
                replace hf := bnd hf
                obtain ⟨a77, h78, hf⟩ := hf
                subst h78
                replace hf := bnd hf
                obtain ⟨m79, h80, hf⟩ := hf
                refine r_ast X hW h80 dX5_addNote_164 (fun H locs hW => ?_)
                refine lv_aload_n hx hb dX5_addNote_165 rfl (lv_at hl 0 rfl) ?_
                refine lv_dup hx hb dX5_addNote_166 rfl ?_
                replace hf := bnd hf
                obtain ⟨t81, h82, hf⟩ := hf
                refine g_7_17 X hW hinX5 hF91 h82 dX5_addNote_167 ?_
                refine lv_iconst (v := 1) hx hb dX5_addNote_170 (by decide) ?_
                refine lv_iadd hx hb dX5_addNote_171 ?_
                replace hf := bnd hf
                obtain ⟨m83, h84, hf⟩ := hf
                refine p_7_17 X hW hinX5 hF91 h84 dX5_addNote_172 (fun H locs hW => ?_)
                refine lv_aload_n hx hb dX5_addNote_175 rfl (lv_at hl 0 rfl) ?_
                replace hf := bnd hf
                obtain ⟨t85, h86, hf⟩ := hf
                refine g_7_17 X hW hinX5 hF91 h86 dX5_addNote_176 ?_
                refine lv_iconst (v := 1) hx hb dX5_addNote_179 (by decide) ?_
                refine lv_isub hx hb dX5_addNote_180 ?_
                exact r_iret X hr hW (by cases hf; exact ⟨rfl, rfl⟩) (by decide) (by decide) dX5_addNote_181
              · replace hf := itp hc hf
                refine lv_aload_n hx hb dX5_addNote_96 rfl (lv_at hl 0 rfl) ?_
                refine lv_iconst (v := 4) hx hb dX5_addNote_97 (by decide) ?_
                replace hf := bnd hf
                obtain ⟨_, h87, hf⟩ := hf
                replace hf := bnd2 hf
                obtain ⟨t88, m90, h89, hf⟩ := hf
                refine r_callV_ok (μ9 := m90) X hW hl.1 (k_X5_fails l hsl G A m1 x0 4 _ h89) gX5_addNote_X5_fails rfl (chk_ok h87) (by decide) rfl (by decide +kernel) (n := 1) rfl (by decide) (Nat.le_of_ble_eq_true rfl) dX5_addNote_98 rfl rfl (stk := [.int t88]) rfl (fun H locs hW => ?_)
                exact r_iret X hr hW (by cases hf; exact ⟨rfl, rfl⟩) (by decide) (by decide) dX5_addNote_101
            · replace hf := itn hc hf
              refine lv_aload_n hx hb dX5_addNote_81 rfl (lv_at hl 0 rfl) ?_
              refine lv_iconst (v := 3) hx hb dX5_addNote_82 (by decide) ?_
              replace hf := bnd hf
              obtain ⟨_, h91, hf⟩ := hf
              replace hf := bnd2 hf
              obtain ⟨t92, m94, h93, hf⟩ := hf
              refine r_callV_ok (μ9 := m94) X hW hl.1 (k_X5_fails l hsl G A m1 x0 3 _ h93) gX5_addNote_X5_fails rfl (chk_ok h91) (by decide) rfl (by decide +kernel) (n := 1) rfl (by decide) (Nat.le_of_ble_eq_true rfl) dX5_addNote_83 rfl rfl (stk := [.int t92]) rfl (fun H locs hW => ?_)
              exact r_iret X hr hW (by cases hf; exact ⟨rfl, rfl⟩) (by decide) (by decide) dX5_addNote_86
          · replace hf := itp hc hf
            refine lv_aload_n hx hb dX5_addNote_60 rfl (lv_at hl 0 rfl) ?_
            refine lv_iconst (v := 2) hx hb dX5_addNote_61 (by decide) ?_
            replace hf := bnd hf
            obtain ⟨_, h95, hf⟩ := hf
            replace hf := bnd2 hf
            obtain ⟨t96, m98, h97, hf⟩ := hf
            refine r_callV_ok (μ9 := m98) X hW hl.1 (k_X5_fails l hsl G A m1 x0 2 _ h97) gX5_addNote_X5_fails rfl (chk_ok h95) (by decide) rfl (by decide +kernel) (n := 1) rfl (by decide) (Nat.le_of_ble_eq_true rfl) dX5_addNote_62 rfl rfl (stk := [.int t96]) rfl (fun H locs hW => ?_)
            exact r_iret X hr hW (by cases hf; exact ⟨rfl, rfl⟩) (by decide) (by decide) dX5_addNote_65
    · replace hf := itp hc hf
      refine lv_aload_n hx hb dX5_addNote_21 rfl (lv_at hl 0 rfl) ?_
      refine lv_iconst (v := 1) hx hb dX5_addNote_22 (by decide) ?_
      replace hf := bnd hf
      obtain ⟨_, h99, hf⟩ := hf
      replace hf := bnd2 hf
      obtain ⟨t100, m102, h101, hf⟩ := hf
      refine r_callV_ok (μ9 := m102) X hW hl.1 (k_X5_fails l hsl G A m1 x0 1 _ h101) gX5_addNote_X5_fails rfl (chk_ok h99) (by decide) rfl (by decide +kernel) (n := 1) rfl (by decide) (Nat.le_of_ble_eq_true rfl) dX5_addNote_23 rfl rfl (stk := [.int t100]) rfl (fun H locs hW => ?_)
      exact r_iret X hr hW (by cases hf; exact ⟨rfl, rfl⟩) (by decide) (by decide) dX5_addNote_26

def f_X5_correct (mu : Mem) (x0 : Nat) (x1 : Int32) (x2 : Int32) : Option ((Int32) × Mem) := (putI mu 7 0 x0 0).bind fun m1 => (chk m1 7 x0).bind fun _ => (f_X5_isNote m1 x0 x1).bind fun t4 => if t4 = 0 then ((chk m1 7 x0).bind fun _ => bi2 (f_X5_fails m1 x0 1) (fun (t25 : (Int32)) m27 => some (t25, m27))) else ((f_X5_isBetween m1 x2 24 96).bind fun t6 => if t6 = 0 then ((chk m1 7 x0).bind fun _ => bi2 (f_X5_fails m1 x0 2) (fun (t21 : (Int32)) m23 => some (t21, m23))) else ((getQ m1 7 9 x0).bind fun t8 => t8.bind fun a10 => (ald m1 a10 x1).bind fun t12 => (getQ m1 7 9 x0).bind fun t14 => t14.bind fun a16 => (ast m1 a16 x1 x2).bind fun m18 => some (t12, m18)))
set_option maxHeartbeats 1000000 in
set_option maxRecDepth 100000 in
theorem k_X5_correct (l : Launch) (hsl : l.stackTraces = false) (G : GG) (A : Nat → Prop) (mu : Mem) (x0 : Nat) (x1 : Int32) (x2 : Int32) (r : (Int32) × Mem) (hf : f_X5_correct mu x0 x1 x2 = some r) : Ok l yX5_correct wsX5_correct ({ frames := 10, cells := 0, slots := 0, locals := 190 } : Room) [.ref x0, .int x1, .int x2] G A mu (dP (.inr (rI r.1)) r.2) := by
  refine Ok.start (cc := cX5_correct) (maxL := 4) (ret := (some .int)) rfl (by decide +kernel) hsl (by first | exact Nat.le_of_ble_eq_true rfl | simp [lg_sl, cat_rf, Value.category]) ?_
  intro p e s m args below meth c ls X hr hname hW hl
  have X : BX p l s m args meth c cX5_correct 4 RX5 wsX5_correct G A := X
  have hx := X.1
  have hb := X.2.1
  have hts := X.2.2.2.2.1
  have hl : lv_has ls 4 [(0, .ref x0), (1, .int x1), (2, .int x2)] := hl
  have hinX5 : ∀ w ∈ wsX50, w ∈ wsX5_correct := by decide +kernel
  have hF34 : (Cond.fieldLink RX5 34 "PartcopyistBenchModel" "pitches" "[I").before args s = true := hts _ (by decide +kernel)
  have hF78 : (Cond.fieldLink RX5 78 "PartcopyistBenchModel" "thrown" "I").before args s = true := hts _ (by decide +kernel)
  unfold f_X5_correct at hf
  refine lv_aload_n hx hb dX5_correct_0 rfl (lv_at hl 0 rfl) ?_
  refine lv_iconst (v := 0) hx hb dX5_correct_1 (by decide) ?_
  replace hf := bnd hf
  obtain ⟨m1, h2, hf⟩ := hf
  refine p_7_0 X hW hinX5 hF78 h2 dX5_correct_2 (fun H locs hW => ?_)
  refine lv_aload_n hx hb dX5_correct_5 rfl (lv_at hl 0 rfl) ?_
  refine lv_iload_n hx hb dX5_correct_6 rfl (lv_at hl 1 rfl) ?_
  replace hf := bnd hf
  obtain ⟨_, h3, hf⟩ := hf
  replace hf := bnd hf
  obtain ⟨t4, h5, hf⟩ := hf
  refine r_callV_ok X hW hl.1 (k_X5_isNote l hsl G A m1 x0 x1 _ h5) gX5_correct_X5_isNote rfl (chk_ok h3) (by decide) rfl (by decide +kernel) (n := 1) rfl (by decide) (Nat.le_of_ble_eq_true rfl) dX5_correct_7 rfl rfl (stk := [.int t4]) rfl (fun H locs hW => ?_)
  refine lv_if_ne (tgt := 19) hx hb dX5_correct_10 (by decide) (fun hc => ?_) (fun hc => ?_)
  · replace hf := itn hc hf
    refine lv_iload_n hx hb dX5_correct_19 rfl (lv_at hl 2 rfl) ?_
    refine lv_bipush (v := 24) hx hb dX5_correct_20 (by decide) ?_
    refine lv_bipush (v := 96) hx hb dX5_correct_22 (by decide) ?_
    replace hf := bnd hf
    obtain ⟨t6, h7, hf⟩ := hf
    refine r_callS_ok X hW hl.1 (k_X5_isBetween l hsl G A m1 x2 24 96 _ h7) gX5_correct_X5_isBetween rfl (by decide +kernel) (n := 3) rfl (by decide) (Nat.le_of_ble_eq_true rfl) dX5_correct_24 rfl rfl (stk := [.int t6]) rfl (fun H locs hW => ?_)
    refine lv_if_ne (tgt := 36) hx hb dX5_correct_27 (by decide) (fun hc => ?_) (fun hc => ?_)
    · replace hf := itn hc hf
      refine lv_aload_n hx hb dX5_correct_36 rfl (lv_at hl 0 rfl) ?_
      replace hf := bnd hf
      obtain ⟨t8, h9, hf⟩ := hf
      refine g_7_9 X hW hinX5 hF34 h9 dX5_correct_37 ?_
      refine lv_iload_n hx hb dX5_correct_40 rfl (lv_at hl 1 rfl) ?_
      replace hf := bnd hf
      obtain ⟨a10, h11, hf⟩ := hf
      subst h11
      replace hf := bnd hf
      obtain ⟨t12, h13, hf⟩ := hf
      refine r_ald X hW h13 dX5_correct_41 ?_
      refine lv_istore_n (lv' := [(3, .int t12), (0, .ref x0), (1, .int x1), (2, .int x2)]) hx hb dX5_correct_42 rfl hl (by decide) rfl (fun ls hl => ?_)
      refine lv_aload_n hx hb dX5_correct_43 rfl (lv_at hl 1 rfl) ?_
      replace hf := bnd hf
      obtain ⟨t14, h15, hf⟩ := hf
      refine g_7_9 X hW hinX5 hF34 h15 dX5_correct_44 ?_
      refine lv_iload_n hx hb dX5_correct_47 rfl (lv_at hl 2 rfl) ?_
      refine lv_iload_n hx hb dX5_correct_48 rfl (lv_at hl 3 rfl) ?_
      replace hf := bnd hf
      obtain ⟨a16, h17, hf⟩ := hf
      subst h17
      replace hf := bnd hf
      obtain ⟨m18, h19, hf⟩ := hf
      refine r_ast X hW h19 dX5_correct_49 (fun H locs hW => ?_)
      refine lv_iload_n hx hb dX5_correct_50 rfl (lv_at hl 0 rfl) ?_
      exact r_iret X hr hW (by cases hf; exact ⟨rfl, rfl⟩) (by decide) (by decide) dX5_correct_51
    · replace hf := itp hc hf
      refine lv_aload_n hx hb dX5_correct_30 rfl (lv_at hl 0 rfl) ?_
      refine lv_iconst (v := 2) hx hb dX5_correct_31 (by decide) ?_
      replace hf := bnd hf
      obtain ⟨_, h20, hf⟩ := hf
      replace hf := bnd2 hf
      obtain ⟨t21, m23, h22, hf⟩ := hf
      refine r_callV_ok (μ9 := m23) X hW hl.1 (k_X5_fails l hsl G A m1 x0 2 _ h22) gX5_correct_X5_fails rfl (chk_ok h20) (by decide) rfl (by decide +kernel) (n := 1) rfl (by decide) (Nat.le_of_ble_eq_true rfl) dX5_correct_32 rfl rfl (stk := [.int t21]) rfl (fun H locs hW => ?_)
      exact r_iret X hr hW (by cases hf; exact ⟨rfl, rfl⟩) (by decide) (by decide) dX5_correct_35
  · replace hf := itp hc hf
    refine lv_aload_n hx hb dX5_correct_13 rfl (lv_at hl 0 rfl) ?_
    refine lv_iconst (v := 1) hx hb dX5_correct_14 (by decide) ?_
    replace hf := bnd hf
    obtain ⟨_, h24, hf⟩ := hf
    replace hf := bnd2 hf
    obtain ⟨t25, m27, h26, hf⟩ := hf
    refine r_callV_ok (μ9 := m27) X hW hl.1 (k_X5_fails l hsl G A m1 x0 1 _ h26) gX5_correct_X5_fails rfl (chk_ok h24) (by decide) rfl (by decide +kernel) (n := 1) rfl (by decide) (Nat.le_of_ble_eq_true rfl) dX5_correct_15 rfl rfl (stk := [.int t25]) rfl (fun H locs hW => ?_)
    exact r_iret X hr hW (by cases hf; exact ⟨rfl, rfl⟩) (by decide) (by decide) dX5_correct_18

def f_X5_stretch (mu : Mem) (x0 : Nat) (x1 : Int32) (x2 : Int32) : Option ((Int32) × Mem) := (putI mu 7 0 x0 0).bind fun m1 => (chk m1 7 x0).bind fun _ => (f_X5_isNote m1 x0 x1).bind fun t4 => if t4 = 0 then ((chk m1 7 x0).bind fun _ => bi2 (f_X5_fails m1 x0 1) (fun (t69 : (Int32)) m71 => some (t69, m71))) else ((getQ m1 7 5 x0).bind fun t6 => t6.bind fun a8 => (ald m1 a8 x1).bind fun t10 => (getQ m1 7 7 x0).bind fun t12 => t12.bind fun a14 => (ald m1 a14 x1).bind fun t16 => (chk m1 7 x0).bind fun _ => (f_X5_isWithin m1 x0 t10 t16 x2).bind fun t19 => if t19 = 0 then ((chk m1 7 x0).bind fun _ => bi2 (f_X5_fails m1 x0 2) (fun (t65 : (Int32)) m67 => some (t65, m67))) else ((getQ m1 7 4 x0).bind fun t21 => t21.bind fun a23 => (ald m1 a23 x1).bind fun t25 => (getQ m1 7 5 x0).bind fun t27 => t27.bind fun a29 => (ald m1 a29 x1).bind fun t31 => (getQ m1 7 6 x0).bind fun t33 => t33.bind fun a35 => (ald m1 a35 x1).bind fun t37 => (getQ m1 7 7 x0).bind fun t39 => t39.bind fun a41 => (ald m1 a41 x1).bind fun t43 => (chk m1 7 x0).bind fun _ => (f_X5_isTaken m1 x0 t25 t31 t37 t43 x2 x1).bind fun t46 => if t46 = 0 then ((getQ m1 7 8 x0).bind fun t48 => t48.bind fun a50 => (ald m1 a50 x1).bind fun t52 => (getQ m1 7 8 x0).bind fun t54 => t54.bind fun a56 => (ast m1 a56 x1 x2).bind fun m58 => some (t52, m58)) else ((chk m1 7 x0).bind fun _ => bi2 (f_X5_fails m1 x0 3) (fun (t61 : (Int32)) m63 => some (t61, m63)))))
set_option maxHeartbeats 1000000 in
set_option maxRecDepth 100000 in
theorem k_X5_stretch (l : Launch) (hsl : l.stackTraces = false) (G : GG) (A : Nat → Prop) (mu : Mem) (x0 : Nat) (x1 : Int32) (x2 : Int32) (r : (Int32) × Mem) (hf : f_X5_stretch mu x0 x1 x2 = some r) : Ok l yX5_stretch wsX5_stretch ({ frames := 10, cells := 0, slots := 0, locals := 190 } : Room) [.ref x0, .int x1, .int x2] G A mu (dP (.inr (rI r.1)) r.2) := by
  refine Ok.start (cc := cX5_stretch) (maxL := 4) (ret := (some .int)) rfl (by decide +kernel) hsl (by first | exact Nat.le_of_ble_eq_true rfl | simp [lg_sl, cat_rf, Value.category]) ?_
  intro p e s m args below meth c ls X hr hname hW hl
  have X : BX p l s m args meth c cX5_stretch 4 RX5 wsX5_stretch G A := X
  have hx := X.1
  have hb := X.2.1
  have hts := X.2.2.2.2.1
  have hl : lv_has ls 4 [(0, .ref x0), (1, .int x1), (2, .int x2)] := hl
  have hinX5 : ∀ w ∈ wsX50, w ∈ wsX5_stretch := by decide +kernel
  have hF19 : (Cond.fieldLink RX5 19 "PartcopyistBenchModel" "partOf" "[I").before args s = true := hts _ (by decide +kernel)
  have hF22 : (Cond.fieldLink RX5 22 "PartcopyistBenchModel" "barOf" "[I").before args s = true := hts _ (by decide +kernel)
  have hF25 : (Cond.fieldLink RX5 25 "PartcopyistBenchModel" "voices" "[I").before args s = true := hts _ (by decide +kernel)
  have hF28 : (Cond.fieldLink RX5 28 "PartcopyistBenchModel" "firsts" "[I").before args s = true := hts _ (by decide +kernel)
  have hF31 : (Cond.fieldLink RX5 31 "PartcopyistBenchModel" "lengths" "[I").before args s = true := hts _ (by decide +kernel)
  have hF78 : (Cond.fieldLink RX5 78 "PartcopyistBenchModel" "thrown" "I").before args s = true := hts _ (by decide +kernel)
  unfold f_X5_stretch at hf
  refine lv_aload_n hx hb dX5_stretch_0 rfl (lv_at hl 0 rfl) ?_
  refine lv_iconst (v := 0) hx hb dX5_stretch_1 (by decide) ?_
  replace hf := bnd hf
  obtain ⟨m1, h2, hf⟩ := hf
  refine p_7_0 X hW hinX5 hF78 h2 dX5_stretch_2 (fun H locs hW => ?_)
  refine lv_aload_n hx hb dX5_stretch_5 rfl (lv_at hl 0 rfl) ?_
  refine lv_iload_n hx hb dX5_stretch_6 rfl (lv_at hl 1 rfl) ?_
  replace hf := bnd hf
  obtain ⟨_, h3, hf⟩ := hf
  replace hf := bnd hf
  obtain ⟨t4, h5, hf⟩ := hf
  refine r_callV_ok X hW hl.1 (k_X5_isNote l hsl G A m1 x0 x1 _ h5) gX5_stretch_X5_isNote rfl (chk_ok h3) (by decide) rfl (by decide +kernel) (n := 1) rfl (by decide) (Nat.le_of_ble_eq_true rfl) dX5_stretch_7 rfl rfl (stk := [.int t4]) rfl (fun H locs hW => ?_)
  refine lv_if_ne (tgt := 19) hx hb dX5_stretch_10 (by decide) (fun hc => ?_) (fun hc => ?_)
  · replace hf := itn hc hf
    refine lv_aload_n hx hb dX5_stretch_19 rfl (lv_at hl 0 rfl) ?_
    refine lv_aload_n hx hb dX5_stretch_20 rfl (lv_at hl 0 rfl) ?_
    replace hf := bnd hf
    obtain ⟨t6, h7, hf⟩ := hf
    refine g_7_5 X hW hinX5 hF22 h7 dX5_stretch_21 ?_
    refine lv_iload_n hx hb dX5_stretch_24 rfl (lv_at hl 1 rfl) ?_
    replace hf := bnd hf
    obtain ⟨a8, h9, hf⟩ := hf
    subst h9
    replace hf := bnd hf
    obtain ⟨t10, h11, hf⟩ := hf
    refine r_ald X hW h11 dX5_stretch_25 ?_
    refine lv_aload_n hx hb dX5_stretch_26 rfl (lv_at hl 0 rfl) ?_
    replace hf := bnd hf
    obtain ⟨t12, h13, hf⟩ := hf
    refine g_7_7 X hW hinX5 hF28 h13 dX5_stretch_27 ?_
    refine lv_iload_n hx hb dX5_stretch_30 rfl (lv_at hl 1 rfl) ?_
    replace hf := bnd hf
    obtain ⟨a14, h15, hf⟩ := hf
    subst h15
    replace hf := bnd hf
    obtain ⟨t16, h17, hf⟩ := hf
    refine r_ald X hW h17 dX5_stretch_31 ?_
    refine lv_iload_n hx hb dX5_stretch_32 rfl (lv_at hl 2 rfl) ?_
    replace hf := bnd hf
    obtain ⟨_, h18, hf⟩ := hf
    replace hf := bnd hf
    obtain ⟨t19, h20, hf⟩ := hf
    refine r_callV_ok X hW hl.1 (k_X5_isWithin l hsl G A m1 x0 t10 t16 x2 _ h20) gX5_stretch_X5_isWithin rfl (chk_ok h18) (by decide) rfl (by decide +kernel) (n := 3) rfl (by decide) (Nat.le_of_ble_eq_true rfl) dX5_stretch_33 rfl rfl (stk := [.int t19]) rfl (fun H locs hW => ?_)
    refine lv_if_ne (tgt := 45) hx hb dX5_stretch_36 (by decide) (fun hc => ?_) (fun hc => ?_)
    · replace hf := itn hc hf
      refine lv_aload_n hx hb dX5_stretch_45 rfl (lv_at hl 0 rfl) ?_
      refine lv_aload_n hx hb dX5_stretch_46 rfl (lv_at hl 0 rfl) ?_
      replace hf := bnd hf
      obtain ⟨t21, h22, hf⟩ := hf
      refine g_7_4 X hW hinX5 hF19 h22 dX5_stretch_47 ?_
      refine lv_iload_n hx hb dX5_stretch_50 rfl (lv_at hl 1 rfl) ?_
      replace hf := bnd hf
      obtain ⟨a23, h24, hf⟩ := hf
      subst h24
      replace hf := bnd hf
      obtain ⟨t25, h26, hf⟩ := hf
      refine r_ald X hW h26 dX5_stretch_51 ?_
      refine lv_aload_n hx hb dX5_stretch_52 rfl (lv_at hl 0 rfl) ?_
      replace hf := bnd hf
      obtain ⟨t27, h28, hf⟩ := hf
      refine g_7_5 X hW hinX5 hF22 h28 dX5_stretch_53 ?_
      refine lv_iload_n hx hb dX5_stretch_56 rfl (lv_at hl 1 rfl) ?_
      replace hf := bnd hf
      obtain ⟨a29, h30, hf⟩ := hf
      subst h30
      replace hf := bnd hf
      obtain ⟨t31, h32, hf⟩ := hf
      refine r_ald X hW h32 dX5_stretch_57 ?_
      refine lv_aload_n hx hb dX5_stretch_58 rfl (lv_at hl 0 rfl) ?_
      replace hf := bnd hf
      obtain ⟨t33, h34, hf⟩ := hf
      refine g_7_6 X hW hinX5 hF25 h34 dX5_stretch_59 ?_
      refine lv_iload_n hx hb dX5_stretch_62 rfl (lv_at hl 1 rfl) ?_
      replace hf := bnd hf
      obtain ⟨a35, h36, hf⟩ := hf
      subst h36
      replace hf := bnd hf
      obtain ⟨t37, h38, hf⟩ := hf
      refine r_ald X hW h38 dX5_stretch_63 ?_
      refine lv_aload_n hx hb dX5_stretch_64 rfl (lv_at hl 0 rfl) ?_
      replace hf := bnd hf
      obtain ⟨t39, h40, hf⟩ := hf
      refine g_7_7 X hW hinX5 hF28 h40 dX5_stretch_65 ?_
      refine lv_iload_n hx hb dX5_stretch_68 rfl (lv_at hl 1 rfl) ?_
      replace hf := bnd hf
      obtain ⟨a41, h42, hf⟩ := hf
      subst h42
      replace hf := bnd hf
      obtain ⟨t43, h44, hf⟩ := hf
      refine r_ald X hW h44 dX5_stretch_69 ?_
      refine lv_iload_n hx hb dX5_stretch_70 rfl (lv_at hl 2 rfl) ?_
      refine lv_iload_n hx hb dX5_stretch_71 rfl (lv_at hl 1 rfl) ?_
      replace hf := bnd hf
      obtain ⟨_, h45, hf⟩ := hf
      replace hf := bnd hf
      obtain ⟨t46, h47, hf⟩ := hf
      refine r_callV_ok X hW hl.1 (k_X5_isTaken l hsl G A m1 x0 t25 t31 t37 t43 x2 x1 _ h47) gX5_stretch_X5_isTaken rfl (chk_ok h45) (by decide) rfl (by decide +kernel) (n := 6) rfl (by decide) (Nat.le_of_ble_eq_true rfl) dX5_stretch_72 rfl rfl (stk := [.int t46]) rfl (fun H locs hW => ?_)
      refine lv_if_eq (tgt := 84) hx hb dX5_stretch_75 (by decide) (fun hc => ?_) (fun hc => ?_)
      · replace hf := itp hc hf
        refine lv_aload_n hx hb dX5_stretch_84 rfl (lv_at hl 0 rfl) ?_
        replace hf := bnd hf
        obtain ⟨t48, h49, hf⟩ := hf
        refine g_7_8 X hW hinX5 hF31 h49 dX5_stretch_85 ?_
        refine lv_iload_n hx hb dX5_stretch_88 rfl (lv_at hl 1 rfl) ?_
        replace hf := bnd hf
        obtain ⟨a50, h51, hf⟩ := hf
        subst h51
        replace hf := bnd hf
        obtain ⟨t52, h53, hf⟩ := hf
        refine r_ald X hW h53 dX5_stretch_89 ?_
        refine lv_istore_n (lv' := [(3, .int t52), (0, .ref x0), (1, .int x1), (2, .int x2)]) hx hb dX5_stretch_90 rfl hl (by decide) rfl (fun ls hl => ?_)
        refine lv_aload_n hx hb dX5_stretch_91 rfl (lv_at hl 1 rfl) ?_
        replace hf := bnd hf
        obtain ⟨t54, h55, hf⟩ := hf
        refine g_7_8 X hW hinX5 hF31 h55 dX5_stretch_92 ?_
        refine lv_iload_n hx hb dX5_stretch_95 rfl (lv_at hl 2 rfl) ?_
        refine lv_iload_n hx hb dX5_stretch_96 rfl (lv_at hl 3 rfl) ?_
        replace hf := bnd hf
        obtain ⟨a56, h57, hf⟩ := hf
        subst h57
        replace hf := bnd hf
        obtain ⟨m58, h59, hf⟩ := hf
        refine r_ast X hW h59 dX5_stretch_97 (fun H locs hW => ?_)
        refine lv_iload_n hx hb dX5_stretch_98 rfl (lv_at hl 0 rfl) ?_
        exact r_iret X hr hW (by cases hf; exact ⟨rfl, rfl⟩) (by decide) (by decide) dX5_stretch_99
      · replace hf := itn hc hf
        refine lv_aload_n hx hb dX5_stretch_78 rfl (lv_at hl 0 rfl) ?_
        refine lv_iconst (v := 3) hx hb dX5_stretch_79 (by decide) ?_
        replace hf := bnd hf
        obtain ⟨_, h60, hf⟩ := hf
        replace hf := bnd2 hf
        obtain ⟨t61, m63, h62, hf⟩ := hf
        refine r_callV_ok (μ9 := m63) X hW hl.1 (k_X5_fails l hsl G A m1 x0 3 _ h62) gX5_stretch_X5_fails rfl (chk_ok h60) (by decide) rfl (by decide +kernel) (n := 1) rfl (by decide) (Nat.le_of_ble_eq_true rfl) dX5_stretch_80 rfl rfl (stk := [.int t61]) rfl (fun H locs hW => ?_)
        exact r_iret X hr hW (by cases hf; exact ⟨rfl, rfl⟩) (by decide) (by decide) dX5_stretch_83
    · replace hf := itp hc hf
      refine lv_aload_n hx hb dX5_stretch_39 rfl (lv_at hl 0 rfl) ?_
      refine lv_iconst (v := 2) hx hb dX5_stretch_40 (by decide) ?_
      replace hf := bnd hf
      obtain ⟨_, h64, hf⟩ := hf
      replace hf := bnd2 hf
      obtain ⟨t65, m67, h66, hf⟩ := hf
      refine r_callV_ok (μ9 := m67) X hW hl.1 (k_X5_fails l hsl G A m1 x0 2 _ h66) gX5_stretch_X5_fails rfl (chk_ok h64) (by decide) rfl (by decide +kernel) (n := 1) rfl (by decide) (Nat.le_of_ble_eq_true rfl) dX5_stretch_41 rfl rfl (stk := [.int t65]) rfl (fun H locs hW => ?_)
      exact r_iret X hr hW (by cases hf; exact ⟨rfl, rfl⟩) (by decide) (by decide) dX5_stretch_44
  · replace hf := itp hc hf
    refine lv_aload_n hx hb dX5_stretch_13 rfl (lv_at hl 0 rfl) ?_
    refine lv_iconst (v := 1) hx hb dX5_stretch_14 (by decide) ?_
    replace hf := bnd hf
    obtain ⟨_, h68, hf⟩ := hf
    replace hf := bnd2 hf
    obtain ⟨t69, m71, h70, hf⟩ := hf
    refine r_callV_ok (μ9 := m71) X hW hl.1 (k_X5_fails l hsl G A m1 x0 1 _ h70) gX5_stretch_X5_fails rfl (chk_ok h68) (by decide) rfl (by decide +kernel) (n := 1) rfl (by decide) (Nat.le_of_ble_eq_true rfl) dX5_stretch_15 rfl rfl (stk := [.int t69]) rfl (fun H locs hW => ?_)
    exact r_iret X hr hW (by cases hf; exact ⟨rfl, rfl⟩) (by decide) (by decide) dX5_stretch_18

def f_X5_manyOf_L4 (mu : Mem) (u0_4 : Nat) (u1_4 : Int32) (k9 : Int32 → Int32 → Option (Int32)) : Nat → Int32 → Int32 → Option (Int32)
  | 0, _, _ => none
  | n + 1, w2_4, w3_4 => (getI mu 7 17 u0_4).bind fun t1 => if t1 ≤ w3_4 then (k9 w2_4 w3_4) else ((getQ mu 7 13 u0_4).bind fun t3 => t3.bind fun a5 => (zld mu a5 w3_4).bind fun t7 => if t7 = 0 then ((getQ mu 7 4 u0_4).bind fun t9 => t9.bind fun a11 => (ald mu a11 w3_4).bind fun t13 => if t13 = u1_4 then (f_X5_manyOf_L4 mu u0_4 u1_4 k9 n (w2_4 + 1) (w3_4 + 1)) else (f_X5_manyOf_L4 mu u0_4 u1_4 k9 n (w2_4 + 0) (w3_4 + 1))) else (f_X5_manyOf_L4 mu u0_4 u1_4 k9 n (w2_4 + 0) (w3_4 + 1)))
def f_X5_manyOf (mu : Mem) (x0 : Nat) (x1 : Int32) : Option (Int32) := f_X5_manyOf_L4 mu x0 x1 (fun (zw2_4 : Int32) (zw3_4 : Int32) => some zw2_4) 200 0 0
set_option maxHeartbeats 1000000 in
set_option maxRecDepth 100000 in
theorem k_X5_manyOf (l : Launch) (hsl : l.stackTraces = false) (G : GG) (A : Nat → Prop) (mu : Mem) (x0 : Nat) (x1 : Int32) (r : Int32) (hf : f_X5_manyOf mu x0 x1 = some r) : Ok l yX5_manyOf wsX5_manyOf ({ frames := 6, cells := 0, slots := 0, locals := 110 } : Room) [.ref x0, .int x1] G A mu (dP (.inr (rI r)) mu) := by
  refine Ok.start (cc := cX5_manyOf) (maxL := 4) (ret := (some .int)) rfl (by decide +kernel) hsl (by first | exact Nat.le_of_ble_eq_true rfl | simp [lg_sl, cat_rf, Value.category]) ?_
  intro p e s m args below meth c ls X hr hname hW hl
  have X : BX p l s m args meth c cX5_manyOf 4 RX5 wsX5_manyOf G A := X
  have hx := X.1
  have hb := X.2.1
  have hts := X.2.2.2.2.1
  have hl : lv_has ls 4 [(0, .ref x0), (1, .int x1)] := hl
  have hinX5 : ∀ w ∈ wsX50, w ∈ wsX5_manyOf := by decide +kernel
  have hF19 : (Cond.fieldLink RX5 19 "PartcopyistBenchModel" "partOf" "[I").before args s = true := hts _ (by decide +kernel)
  have hF47 : (Cond.fieldLink RX5 47 "PartcopyistBenchModel" "isOut" "[Z").before args s = true := hts _ (by decide +kernel)
  have hF91 : (Cond.fieldLink RX5 91 "PartcopyistBenchModel" "notes" "I").before args s = true := hts _ (by decide +kernel)
  unfold f_X5_manyOf at hf
  refine lv_iconst (v := 0) hx hb dX5_manyOf_0 (by decide) ?_
  refine lv_istore_n (lv' := [(2, .int 0), (0, .ref x0), (1, .int x1)]) hx hb dX5_manyOf_1 rfl hl (by decide) rfl (fun ls hl => ?_)
  refine lv_iconst (v := 0) hx hb dX5_manyOf_2 (by decide) ?_
  refine lv_istore_n (lv' := [(3, .int 0), (2, .int 0), (0, .ref x0), (1, .int x1)]) hx hb dX5_manyOf_3 rfl hl (by decide) rfl (fun ls hl => ?_)
  have L4 : ∀ (u0_4 : Nat) (u1_4 : Int32) (k9 : Int32 → Int32 → Option (Int32)),
      (∀ (w2_4 : Int32) (w3_4 : Int32) (H : Heap) (locs : List Loc) (ls : Array Slot), k9 w2_4 w3_4 = some r → MW G A mu s.heap H locs → lv_has ls 4 [(0, .ref u0_4), (1, .int u1_4), (2, .int w2_4), (3, .int w3_4)] → W p l e ({ frames := 6, cells := 0, slots := 0, locals := 110 } : Room) s m args below meth c H locs 0 0 (QQ below G A (dP (.inr (rI r)) mu) args s 0 0) (F0 m 45 ls [])) →
      ∀ (n : Nat) (w2_4 : Int32) (w3_4 : Int32) (H : Heap) (locs : List Loc) (ls : Array Slot), f_X5_manyOf_L4 mu u0_4 u1_4 k9 n w2_4 w3_4 = some r → MW G A mu s.heap H locs → lv_has ls 4 [(0, .ref u0_4), (1, .int u1_4), (2, .int w2_4), (3, .int w3_4)] → W p l e ({ frames := 6, cells := 0, slots := 0, locals := 110 } : Room) s m args below meth c H locs 0 0 (QQ below G A (dP (.inr (rI r)) mu) args s 0 0) (F0 m 4 ls []) := by
    intro u0_4 u1_4 k9 hk4 n
    induction n with
    | zero => intro w2_4 w3_4 H locs ls hf hW hl; rw [f_X5_manyOf_L4] at hf; cases hf
    | succ n ih4 =>
      intro w2_4 w3_4 H locs ls hf hW hl
      rw [f_X5_manyOf_L4] at hf
      refine lv_iload_n hx hb dX5_manyOf_4 rfl (lv_at hl 3 rfl) ?_
      refine lv_aload_n hx hb dX5_manyOf_5 rfl (lv_at hl 0 rfl) ?_
      replace hf := bnd hf
      obtain ⟨t1, h2, hf⟩ := hf
      refine g_7_17 X hW hinX5 hF91 h2 dX5_manyOf_6 ?_
      refine lv_icmp_ge (tgt := 45) hx hb dX5_manyOf_9 (by decide) (fun hc => ?_) (fun hc => ?_)
      · replace hf := itp hc hf
        exact hk4 _ _ _ _ _ hf hW (lv_sub hl [0, 1, 2, 3] rfl)
      · replace hf := itn hc hf
        refine lv_iload_n hx hb dX5_manyOf_12 rfl (lv_at hl 2 rfl) ?_
        refine lv_aload_n hx hb dX5_manyOf_13 rfl (lv_at hl 0 rfl) ?_
        replace hf := bnd hf
        obtain ⟨t3, h4, hf⟩ := hf
        refine g_7_13 X hW hinX5 hF47 h4 dX5_manyOf_14 ?_
        refine lv_iload_n hx hb dX5_manyOf_17 rfl (lv_at hl 3 rfl) ?_
        replace hf := bnd hf
        obtain ⟨a5, h6, hf⟩ := hf
        subst h6
        replace hf := bnd hf
        obtain ⟨t7, h8, hf⟩ := hf
        refine r_zld X hW h8 dX5_manyOf_18 ?_
        refine lv_if_ne (tgt := 36) hx hb dX5_manyOf_19 (by decide) (fun hc => ?_) (fun hc => ?_)
        · replace hf := itn hc hf
          refine lv_iconst (v := 0) hx hb dX5_manyOf_36 (by decide) ?_
          refine lv_iadd hx hb dX5_manyOf_37 ?_
          refine lv_istore_n (lv' := [(2, .int (w2_4 + 0)), (0, .ref u0_4), (1, .int u1_4), (3, .int w3_4)]) hx hb dX5_manyOf_38 rfl hl (by decide) rfl (fun ls hl => ?_)
          refine lv_iinc (v := (w3_4 + 1)) (lv' := [(3, .int (w3_4 + 1)), (2, .int (w2_4 + 0)), (0, .ref u0_4), (1, .int u1_4)]) hx hb dX5_manyOf_39 hl (k := 3) rfl rfl (by decide) rfl (fun ls hl => ?_)
          refine lv_goto (tgt := 4) hx hb dX5_manyOf_42 (by decide) ?_
          exact ih4 _ _ _ _ _ hf hW (lv_sub hl [2, 3, 1, 0] rfl)
        · replace hf := itp hc hf
          refine lv_aload_n hx hb dX5_manyOf_22 rfl (lv_at hl 0 rfl) ?_
          replace hf := bnd hf
          obtain ⟨t9, h10, hf⟩ := hf
          refine g_7_4 X hW hinX5 hF19 h10 dX5_manyOf_23 ?_
          refine lv_iload_n hx hb dX5_manyOf_26 rfl (lv_at hl 3 rfl) ?_
          replace hf := bnd hf
          obtain ⟨a11, h12, hf⟩ := hf
          subst h12
          replace hf := bnd hf
          obtain ⟨t13, h14, hf⟩ := hf
          refine r_ald X hW h14 dX5_manyOf_27 ?_
          refine lv_iload_n hx hb dX5_manyOf_28 rfl (lv_at hl 1 rfl) ?_
          refine lv_icmp_ne (tgt := 36) hx hb dX5_manyOf_29 (by decide) (fun hc => ?_) (fun hc => ?_)
          · replace hf := itn hc hf
            refine lv_iconst (v := 0) hx hb dX5_manyOf_36 (by decide) ?_
            refine lv_iadd hx hb dX5_manyOf_37 ?_
            refine lv_istore_n (lv' := [(2, .int (w2_4 + 0)), (0, .ref u0_4), (1, .int u1_4), (3, .int w3_4)]) hx hb dX5_manyOf_38 rfl hl (by decide) rfl (fun ls hl => ?_)
            refine lv_iinc (v := (w3_4 + 1)) (lv' := [(3, .int (w3_4 + 1)), (2, .int (w2_4 + 0)), (0, .ref u0_4), (1, .int u1_4)]) hx hb dX5_manyOf_39 hl (k := 3) rfl rfl (by decide) rfl (fun ls hl => ?_)
            refine lv_goto (tgt := 4) hx hb dX5_manyOf_42 (by decide) ?_
            exact ih4 _ _ _ _ _ hf hW (lv_sub hl [2, 3, 1, 0] rfl)
          · replace hf := itp hc hf
            refine lv_iconst (v := 1) hx hb dX5_manyOf_32 (by decide) ?_
            refine lv_goto (tgt := 37) hx hb dX5_manyOf_33 (by decide) ?_
            refine lv_iadd hx hb dX5_manyOf_37 ?_
            refine lv_istore_n (lv' := [(2, .int (w2_4 + 1)), (0, .ref u0_4), (1, .int u1_4), (3, .int w3_4)]) hx hb dX5_manyOf_38 rfl hl (by decide) rfl (fun ls hl => ?_)
            refine lv_iinc (v := (w3_4 + 1)) (lv' := [(3, .int (w3_4 + 1)), (2, .int (w2_4 + 1)), (0, .ref u0_4), (1, .int u1_4)]) hx hb dX5_manyOf_39 hl (k := 3) rfl rfl (by decide) rfl (fun ls hl => ?_)
            refine lv_goto (tgt := 4) hx hb dX5_manyOf_42 (by decide) ?_
            exact ih4 _ _ _ _ _ hf hW (lv_sub hl [2, 3, 1, 0] rfl)
  refine L4 x0 x1 _ ?_ 200 0 0 _ _ _ hf hW (lv_sub hl [2, 3, 1, 0] rfl)
  intro zw2_4 zw3_4 H locs ls hf hW hl
  refine lv_iload_n hx hb dX5_manyOf_45 rfl (lv_at hl 2 rfl) ?_
  exact r_iret X hr hW (by cases hf; exact ⟨rfl, rfl⟩) (by decide) (by decide) dX5_manyOf_46

def f_X5_takeOut (mu : Mem) (x0 : Nat) (x1 : Int32) : Option ((Int32) × Mem) := (putI mu 7 0 x0 0).bind fun m1 => (chk m1 7 x0).bind fun _ => (f_X5_isNote m1 x0 x1).bind fun t4 => if t4 = 0 then ((chk m1 7 x0).bind fun _ => bi2 (f_X5_fails m1 x0 1) (fun (t22 : (Int32)) m24 => some (t22, m24))) else ((getQ m1 7 13 x0).bind fun t6 => t6.bind fun a8 => (zst m1 a8 x1 1).bind fun m10 => (getQ m10 7 4 x0).bind fun t12 => t12.bind fun a14 => (ald m10 a14 x1).bind fun t16 => (chk m10 7 x0).bind fun _ => (f_X5_manyOf m10 x0 t16).bind fun t19 => some (t19, m10))
set_option maxHeartbeats 1000000 in
set_option maxRecDepth 100000 in
theorem k_X5_takeOut (l : Launch) (hsl : l.stackTraces = false) (G : GG) (A : Nat → Prop) (mu : Mem) (x0 : Nat) (x1 : Int32) (r : (Int32) × Mem) (hf : f_X5_takeOut mu x0 x1 = some r) : Ok l yX5_takeOut wsX5_takeOut ({ frames := 10, cells := 0, slots := 0, locals := 190 } : Room) [.ref x0, .int x1] G A mu (dP (.inr (rI r.1)) r.2) := by
  refine Ok.start (cc := cX5_takeOut) (maxL := 2) (ret := (some .int)) rfl (by decide +kernel) hsl (by first | exact Nat.le_of_ble_eq_true rfl | simp [lg_sl, cat_rf, Value.category]) ?_
  intro p e s m args below meth c ls X hr hname hW hl
  have X : BX p l s m args meth c cX5_takeOut 2 RX5 wsX5_takeOut G A := X
  have hx := X.1
  have hb := X.2.1
  have hts := X.2.2.2.2.1
  have hl : lv_has ls 2 [(0, .ref x0), (1, .int x1)] := hl
  have hinX5 : ∀ w ∈ wsX50, w ∈ wsX5_takeOut := by decide +kernel
  have hF19 : (Cond.fieldLink RX5 19 "PartcopyistBenchModel" "partOf" "[I").before args s = true := hts _ (by decide +kernel)
  have hF47 : (Cond.fieldLink RX5 47 "PartcopyistBenchModel" "isOut" "[Z").before args s = true := hts _ (by decide +kernel)
  have hF78 : (Cond.fieldLink RX5 78 "PartcopyistBenchModel" "thrown" "I").before args s = true := hts _ (by decide +kernel)
  unfold f_X5_takeOut at hf
  refine lv_aload_n hx hb dX5_takeOut_0 rfl (lv_at hl 0 rfl) ?_
  refine lv_iconst (v := 0) hx hb dX5_takeOut_1 (by decide) ?_
  replace hf := bnd hf
  obtain ⟨m1, h2, hf⟩ := hf
  refine p_7_0 X hW hinX5 hF78 h2 dX5_takeOut_2 (fun H locs hW => ?_)
  refine lv_aload_n hx hb dX5_takeOut_5 rfl (lv_at hl 0 rfl) ?_
  refine lv_iload_n hx hb dX5_takeOut_6 rfl (lv_at hl 1 rfl) ?_
  replace hf := bnd hf
  obtain ⟨_, h3, hf⟩ := hf
  replace hf := bnd hf
  obtain ⟨t4, h5, hf⟩ := hf
  refine r_callV_ok X hW hl.1 (k_X5_isNote l hsl G A m1 x0 x1 _ h5) gX5_takeOut_X5_isNote rfl (chk_ok h3) (by decide) rfl (by decide +kernel) (n := 1) rfl (by decide) (Nat.le_of_ble_eq_true rfl) dX5_takeOut_7 rfl rfl (stk := [.int t4]) rfl (fun H locs hW => ?_)
  refine lv_if_ne (tgt := 19) hx hb dX5_takeOut_10 (by decide) (fun hc => ?_) (fun hc => ?_)
  · replace hf := itn hc hf
    refine lv_aload_n hx hb dX5_takeOut_19 rfl (lv_at hl 0 rfl) ?_
    replace hf := bnd hf
    obtain ⟨t6, h7, hf⟩ := hf
    refine g_7_13 X hW hinX5 hF47 h7 dX5_takeOut_20 ?_
    refine lv_iload_n hx hb dX5_takeOut_23 rfl (lv_at hl 1 rfl) ?_
    refine lv_iconst (v := 1) hx hb dX5_takeOut_24 (by decide) ?_
    replace hf := bnd hf
    obtain ⟨a8, h9, hf⟩ := hf
    subst h9
    replace hf := bnd hf
    obtain ⟨m10, h11, hf⟩ := hf
    refine r_zst X hW h11 dX5_takeOut_25 (fun H locs hW => ?_)
    refine lv_aload_n hx hb dX5_takeOut_26 rfl (lv_at hl 0 rfl) ?_
    refine lv_aload_n hx hb dX5_takeOut_27 rfl (lv_at hl 0 rfl) ?_
    replace hf := bnd hf
    obtain ⟨t12, h13, hf⟩ := hf
    refine g_7_4 X hW hinX5 hF19 h13 dX5_takeOut_28 ?_
    refine lv_iload_n hx hb dX5_takeOut_31 rfl (lv_at hl 1 rfl) ?_
    replace hf := bnd hf
    obtain ⟨a14, h15, hf⟩ := hf
    subst h15
    replace hf := bnd hf
    obtain ⟨t16, h17, hf⟩ := hf
    refine r_ald X hW h17 dX5_takeOut_32 ?_
    replace hf := bnd hf
    obtain ⟨_, h18, hf⟩ := hf
    replace hf := bnd hf
    obtain ⟨t19, h20, hf⟩ := hf
    refine r_callV_ok X hW hl.1 (k_X5_manyOf l hsl G A m10 x0 t16 _ h20) gX5_takeOut_X5_manyOf rfl (chk_ok h18) (by decide) rfl (by decide +kernel) (n := 1) rfl (by decide) (Nat.le_of_ble_eq_true rfl) dX5_takeOut_33 rfl rfl (stk := [.int t19]) rfl (fun H locs hW => ?_)
    exact r_iret X hr hW (by cases hf; exact ⟨rfl, rfl⟩) (by decide) (by decide) dX5_takeOut_36
  · replace hf := itp hc hf
    refine lv_aload_n hx hb dX5_takeOut_13 rfl (lv_at hl 0 rfl) ?_
    refine lv_iconst (v := 1) hx hb dX5_takeOut_14 (by decide) ?_
    replace hf := bnd hf
    obtain ⟨_, h21, hf⟩ := hf
    replace hf := bnd2 hf
    obtain ⟨t22, m24, h23, hf⟩ := hf
    refine r_callV_ok (μ9 := m24) X hW hl.1 (k_X5_fails l hsl G A m1 x0 1 _ h23) gX5_takeOut_X5_fails rfl (chk_ok h21) (by decide) rfl (by decide +kernel) (n := 1) rfl (by decide) (Nat.le_of_ble_eq_true rfl) dX5_takeOut_15 rfl rfl (stk := [.int t22]) rfl (fun H locs hW => ?_)
    exact r_iret X hr hW (by cases hf; exact ⟨rfl, rfl⟩) (by decide) (by decide) dX5_takeOut_18

def f_X5_many_L5 (mu : Mem) (u0_5 : Nat) (u1_5 : Int32) (u2_5 : Int32) (k9 : Int32 → Int32 → Option (Int32)) : Nat → Int32 → Int32 → Option (Int32)
  | 0, _, _ => none
  | n + 1, w3_5, w4_5 => (getI mu 7 17 u0_5).bind fun t1 => if t1 ≤ w4_5 then (k9 w3_5 w4_5) else ((chk mu 7 u0_5).bind fun _ => (f_X5_isAt mu u0_5 w4_5 u1_5 u2_5).bind fun t4 => if t4 = 0 then (f_X5_many_L5 mu u0_5 u1_5 u2_5 k9 n (w3_5 + 0) (w4_5 + 1)) else (f_X5_many_L5 mu u0_5 u1_5 u2_5 k9 n (w3_5 + 1) (w4_5 + 1)))
def f_X5_many (mu : Mem) (x0 : Nat) (x1 : Int32) (x2 : Int32) : Option (Int32) := f_X5_many_L5 mu x0 x1 x2 (fun (zw3_5 : Int32) (zw4_5 : Int32) => some zw3_5) 200 0 0
set_option maxHeartbeats 1000000 in
set_option maxRecDepth 100000 in
theorem k_X5_many (l : Launch) (hsl : l.stackTraces = false) (G : GG) (A : Nat → Prop) (mu : Mem) (x0 : Nat) (x1 : Int32) (x2 : Int32) (r : Int32) (hf : f_X5_many mu x0 x1 x2 = some r) : Ok l yX5_many wsX5_many ({ frames := 8, cells := 0, slots := 0, locals := 150 } : Room) [.ref x0, .int x1, .int x2] G A mu (dP (.inr (rI r)) mu) := by
  refine Ok.start (cc := cX5_many) (maxL := 5) (ret := (some .int)) rfl (by decide +kernel) hsl (by first | exact Nat.le_of_ble_eq_true rfl | simp [lg_sl, cat_rf, Value.category]) ?_
  intro p e s m args below meth c ls X hr hname hW hl
  have X : BX p l s m args meth c cX5_many 5 RX5 wsX5_many G A := X
  have hx := X.1
  have hb := X.2.1
  have hts := X.2.2.2.2.1
  have hl : lv_has ls 5 [(0, .ref x0), (1, .int x1), (2, .int x2)] := hl
  have hinX5 : ∀ w ∈ wsX50, w ∈ wsX5_many := by decide +kernel
  have hF91 : (Cond.fieldLink RX5 91 "PartcopyistBenchModel" "notes" "I").before args s = true := hts _ (by decide +kernel)
  unfold f_X5_many at hf
  refine lv_iconst (v := 0) hx hb dX5_many_0 (by decide) ?_
  refine lv_istore_n (lv' := [(3, .int 0), (0, .ref x0), (1, .int x1), (2, .int x2)]) hx hb dX5_many_1 rfl hl (by decide) rfl (fun ls hl => ?_)
  refine lv_iconst (v := 0) hx hb dX5_many_2 (by decide) ?_
  refine lv_istore (lv' := [(4, .int 0), (3, .int 0), (0, .ref x0), (1, .int x1), (2, .int x2)]) hx hb dX5_many_3 hl (by decide) rfl (fun ls hl => ?_)
  have L5 : ∀ (u0_5 : Nat) (u1_5 : Int32) (u2_5 : Int32) (k9 : Int32 → Int32 → Option (Int32)),
      (∀ (w3_5 : Int32) (w4_5 : Int32) (H : Heap) (locs : List Loc) (ls : Array Slot), k9 w3_5 w4_5 = some r → MW G A mu s.heap H locs → lv_has ls 5 [(0, .ref u0_5), (1, .int u1_5), (2, .int u2_5), (3, .int w3_5), (4, .int w4_5)] → W p l e ({ frames := 8, cells := 0, slots := 0, locals := 150 } : Room) s m args below meth c H locs 0 0 (QQ below G A (dP (.inr (rI r)) mu) args s 0 0) (F0 m 39 ls [])) →
      ∀ (n : Nat) (w3_5 : Int32) (w4_5 : Int32) (H : Heap) (locs : List Loc) (ls : Array Slot), f_X5_many_L5 mu u0_5 u1_5 u2_5 k9 n w3_5 w4_5 = some r → MW G A mu s.heap H locs → lv_has ls 5 [(0, .ref u0_5), (1, .int u1_5), (2, .int u2_5), (3, .int w3_5), (4, .int w4_5)] → W p l e ({ frames := 8, cells := 0, slots := 0, locals := 150 } : Room) s m args below meth c H locs 0 0 (QQ below G A (dP (.inr (rI r)) mu) args s 0 0) (F0 m 5 ls []) := by
    intro u0_5 u1_5 u2_5 k9 hk5 n
    induction n with
    | zero => intro w3_5 w4_5 H locs ls hf hW hl; rw [f_X5_many_L5] at hf; cases hf
    | succ n ih5 =>
      intro w3_5 w4_5 H locs ls hf hW hl
      rw [f_X5_many_L5] at hf
      refine lv_iload hx hb dX5_many_5 (lv_at hl 4 rfl) ?_
      refine lv_aload_n hx hb dX5_many_7 rfl (lv_at hl 0 rfl) ?_
      replace hf := bnd hf
      obtain ⟨t1, h2, hf⟩ := hf
      refine g_7_17 X hW hinX5 hF91 h2 dX5_many_8 ?_
      refine lv_icmp_ge (tgt := 39) hx hb dX5_many_11 (by decide) (fun hc => ?_) (fun hc => ?_)
      · replace hf := itp hc hf
        exact hk5 _ _ _ _ _ hf hW (lv_sub hl [0, 1, 2, 3, 4] rfl)
      · replace hf := itn hc hf
        refine lv_iload_n hx hb dX5_many_14 rfl (lv_at hl 3 rfl) ?_
        refine lv_aload_n hx hb dX5_many_15 rfl (lv_at hl 0 rfl) ?_
        refine lv_iload hx hb dX5_many_16 (lv_at hl 4 rfl) ?_
        refine lv_iload_n hx hb dX5_many_18 rfl (lv_at hl 1 rfl) ?_
        refine lv_iload_n hx hb dX5_many_19 rfl (lv_at hl 2 rfl) ?_
        replace hf := bnd hf
        obtain ⟨_, h3, hf⟩ := hf
        replace hf := bnd hf
        obtain ⟨t4, h5, hf⟩ := hf
        refine r_callV_ok X hW hl.1 (k_X5_isAt l hsl G A mu u0_5 w4_5 u1_5 u2_5 _ h5) gX5_many_X5_isAt rfl (chk_ok h3) (by decide) rfl (by decide +kernel) (n := 3) rfl (by decide) (Nat.le_of_ble_eq_true rfl) dX5_many_20 rfl rfl (stk := [.int t4, .int w3_5]) rfl (fun H locs hW => ?_)
        refine lv_if_eq (tgt := 30) hx hb dX5_many_23 (by decide) (fun hc => ?_) (fun hc => ?_)
        · replace hf := itp hc hf
          refine lv_iconst (v := 0) hx hb dX5_many_30 (by decide) ?_
          refine lv_iadd hx hb dX5_many_31 ?_
          refine lv_istore_n (lv' := [(3, .int (w3_5 + 0)), (0, .ref u0_5), (1, .int u1_5), (2, .int u2_5), (4, .int w4_5)]) hx hb dX5_many_32 rfl hl (by decide) rfl (fun ls hl => ?_)
          refine lv_iinc (v := (w4_5 + 1)) (lv' := [(4, .int (w4_5 + 1)), (3, .int (w3_5 + 0)), (0, .ref u0_5), (1, .int u1_5), (2, .int u2_5)]) hx hb dX5_many_33 hl (k := 4) rfl rfl (by decide) rfl (fun ls hl => ?_)
          refine lv_goto (tgt := 5) hx hb dX5_many_36 (by decide) ?_
          exact ih5 _ _ _ _ _ hf hW (lv_sub hl [2, 3, 4, 1, 0] rfl)
        · replace hf := itn hc hf
          refine lv_iconst (v := 1) hx hb dX5_many_26 (by decide) ?_
          refine lv_goto (tgt := 31) hx hb dX5_many_27 (by decide) ?_
          refine lv_iadd hx hb dX5_many_31 ?_
          refine lv_istore_n (lv' := [(3, .int (w3_5 + 1)), (0, .ref u0_5), (1, .int u1_5), (2, .int u2_5), (4, .int w4_5)]) hx hb dX5_many_32 rfl hl (by decide) rfl (fun ls hl => ?_)
          refine lv_iinc (v := (w4_5 + 1)) (lv' := [(4, .int (w4_5 + 1)), (3, .int (w3_5 + 1)), (0, .ref u0_5), (1, .int u1_5), (2, .int u2_5)]) hx hb dX5_many_33 hl (k := 4) rfl rfl (by decide) rfl (fun ls hl => ?_)
          refine lv_goto (tgt := 5) hx hb dX5_many_36 (by decide) ?_
          exact ih5 _ _ _ _ _ hf hW (lv_sub hl [2, 3, 4, 1, 0] rfl)
  refine L5 x0 x1 x2 _ ?_ 200 0 0 _ _ _ hf hW (lv_sub hl [2, 3, 4, 1, 0] rfl)
  intro zw3_5 zw4_5 H locs ls hf hW hl
  refine lv_iload_n hx hb dX5_many_39 rfl (lv_at hl 3 rfl) ?_
  exact r_iret X hr hW (by cases hf; exact ⟨rfl, rfl⟩) (by decide) (by decide) dX5_many_40

def f_X5_noteBy_L32 (mu : Mem) (u0_32 : Nat) (u1_32 : Int32) (u2_32 : Int32) (u3_32 : Int32) (u4_32 : Int32) (k9 : Int32 → Int32 → Option (Int32)) : Nat → Int32 → Int32 → Option (Int32)
  | 0, _, _ => none
  | n + 1, w5_32, w6_32 => (getI mu 7 17 u0_32).bind fun t6 => if t6 ≤ w6_32 then (k9 w5_32 w6_32) else ((chk mu 7 u0_32).bind fun _ => (f_X5_isAt mu u0_32 w6_32 u1_32 u2_32).bind fun t9 => if t9 = 0 then (f_X5_noteBy_L32 mu u0_32 u1_32 u2_32 u3_32 u4_32 k9 n (w5_32 + 0) (w6_32 + 1)) else ((getQ mu 7 7 u0_32).bind fun t11 => t11.bind fun a13 => (ald mu a13 w6_32).bind fun t15 => (getQ mu 7 6 u0_32).bind fun t17 => t17.bind fun a19 => (ald mu a19 w6_32).bind fun t21 => (getQ mu 7 7 u0_32).bind fun t23 => t23.bind fun a25 => (ald mu a25 u4_32).bind fun t27 => (getQ mu 7 6 u0_32).bind fun t29 => t29.bind fun a31 => (ald mu a31 u4_32).bind fun t33 => if ((2 * t27) + t33) ≤ ((2 * t15) + t21) then (f_X5_noteBy_L32 mu u0_32 u1_32 u2_32 u3_32 u4_32 k9 n (w5_32 + 0) (w6_32 + 1)) else (f_X5_noteBy_L32 mu u0_32 u1_32 u2_32 u3_32 u4_32 k9 n (w5_32 + 1) (w6_32 + 1))))
def f_X5_noteBy_L3 (mu : Mem) (u0_3 : Nat) (u1_3 : Int32) (u2_3 : Int32) (u3_3 : Int32) (k9 : Int32 → Option (Int32)) : Nat → Int32 → Option (Int32)
  | 0, _ => none
  | n + 1, w4_3 => (getI mu 7 17 u0_3).bind fun t1 => if t1 ≤ w4_3 then (k9 w4_3) else ((chk mu 7 u0_3).bind fun _ => (f_X5_isAt mu u0_3 w4_3 u1_3 u2_3).bind fun t4 => if t4 = 0 then (f_X5_noteBy_L3 mu u0_3 u1_3 u2_3 u3_3 k9 n (w4_3 + 1)) else (f_X5_noteBy_L32 mu u0_3 u1_3 u2_3 u3_3 w4_3 (fun (zw5_32 : Int32) (zw6_32 : Int32) => if zw5_32 = u3_3 then (some w4_3) else (f_X5_noteBy_L3 mu u0_3 u1_3 u2_3 u3_3 k9 n (w4_3 + 1))) 200 0 0))
def f_X5_noteBy (mu : Mem) (x0 : Nat) (x1 : Int32) (x2 : Int32) (x3 : Int32) : Option (Int32) := f_X5_noteBy_L3 mu x0 x1 x2 x3 (fun (zw4_3 : Int32) => some (-1)) 200 0
set_option maxHeartbeats 1000000 in
set_option maxRecDepth 100000 in
theorem k_X5_noteBy (l : Launch) (hsl : l.stackTraces = false) (G : GG) (A : Nat → Prop) (mu : Mem) (x0 : Nat) (x1 : Int32) (x2 : Int32) (x3 : Int32) (r : Int32) (hf : f_X5_noteBy mu x0 x1 x2 x3 = some r) : Ok l yX5_noteBy wsX5_noteBy ({ frames := 8, cells := 0, slots := 0, locals := 150 } : Room) [.ref x0, .int x1, .int x2, .int x3] G A mu (dP (.inr (rI r)) mu) := by
  refine Ok.start (cc := cX5_noteBy) (maxL := 7) (ret := (some .int)) rfl (by decide +kernel) hsl (by first | exact Nat.le_of_ble_eq_true rfl | simp [lg_sl, cat_rf, Value.category]) ?_
  intro p e s m args below meth c ls X hr hname hW hl
  have X : BX p l s m args meth c cX5_noteBy 7 RX5 wsX5_noteBy G A := X
  have hx := X.1
  have hb := X.2.1
  have hts := X.2.2.2.2.1
  have hl : lv_has ls 7 [(0, .ref x0), (1, .int x1), (2, .int x2), (3, .int x3)] := hl
  have hinX5 : ∀ w ∈ wsX50, w ∈ wsX5_noteBy := by decide +kernel
  have hF25 : (Cond.fieldLink RX5 25 "PartcopyistBenchModel" "voices" "[I").before args s = true := hts _ (by decide +kernel)
  have hF28 : (Cond.fieldLink RX5 28 "PartcopyistBenchModel" "firsts" "[I").before args s = true := hts _ (by decide +kernel)
  have hF91 : (Cond.fieldLink RX5 91 "PartcopyistBenchModel" "notes" "I").before args s = true := hts _ (by decide +kernel)
  unfold f_X5_noteBy at hf
  refine lv_iconst (v := 0) hx hb dX5_noteBy_0 (by decide) ?_
  refine lv_istore (lv' := [(4, .int 0), (0, .ref x0), (1, .int x1), (2, .int x2), (3, .int x3)]) hx hb dX5_noteBy_1 hl (by decide) rfl (fun ls hl => ?_)
  have L3 : ∀ (u0_3 : Nat) (u1_3 : Int32) (u2_3 : Int32) (u3_3 : Int32) (k9 : Int32 → Option (Int32)),
      (∀ (w4_3 : Int32) (H : Heap) (locs : List Loc) (ls : Array Slot), k9 w4_3 = some r → MW G A mu s.heap H locs → lv_has ls 7 [(0, .ref u0_3), (1, .int u1_3), (2, .int u2_3), (3, .int u3_3), (4, .int w4_3)] → W p l e ({ frames := 8, cells := 0, slots := 0, locals := 150 } : Room) s m args below meth c H locs 0 0 (QQ below G A (dP (.inr (rI r)) mu) args s 0 0) (F0 m 120 ls [])) →
      ∀ (n : Nat) (w4_3 : Int32) (H : Heap) (locs : List Loc) (ls : Array Slot), f_X5_noteBy_L3 mu u0_3 u1_3 u2_3 u3_3 k9 n w4_3 = some r → MW G A mu s.heap H locs → lv_has ls 7 [(0, .ref u0_3), (1, .int u1_3), (2, .int u2_3), (3, .int u3_3), (4, .int w4_3)] → W p l e ({ frames := 8, cells := 0, slots := 0, locals := 150 } : Room) s m args below meth c H locs 0 0 (QQ below G A (dP (.inr (rI r)) mu) args s 0 0) (F0 m 3 ls []) := by
    intro u0_3 u1_3 u2_3 u3_3 k9 hk3 n
    induction n with
    | zero => intro w4_3 H locs ls hf hW hl; rw [f_X5_noteBy_L3] at hf; cases hf
    | succ n ih3 =>
      intro w4_3 H locs ls hf hW hl
      rw [f_X5_noteBy_L3] at hf
      refine lv_iload hx hb dX5_noteBy_3 (lv_at hl 4 rfl) ?_
      refine lv_aload_n hx hb dX5_noteBy_5 rfl (lv_at hl 0 rfl) ?_
      replace hf := bnd hf
      obtain ⟨t1, h2, hf⟩ := hf
      refine g_7_17 X hW hinX5 hF91 h2 dX5_noteBy_6 ?_
      refine lv_icmp_ge (tgt := 120) hx hb dX5_noteBy_9 (by decide) (fun hc => ?_) (fun hc => ?_)
      · replace hf := itp hc hf
        exact hk3 _ _ _ _ hf hW (lv_sub hl [0, 1, 2, 3, 4] rfl)
      · replace hf := itn hc hf
        refine lv_aload_n hx hb dX5_noteBy_12 rfl (lv_at hl 0 rfl) ?_
        refine lv_iload hx hb dX5_noteBy_13 (lv_at hl 4 rfl) ?_
        refine lv_iload_n hx hb dX5_noteBy_15 rfl (lv_at hl 1 rfl) ?_
        refine lv_iload_n hx hb dX5_noteBy_16 rfl (lv_at hl 2 rfl) ?_
        replace hf := bnd hf
        obtain ⟨_, h3, hf⟩ := hf
        replace hf := bnd hf
        obtain ⟨t4, h5, hf⟩ := hf
        refine r_callV_ok X hW hl.1 (k_X5_isAt l hsl G A mu u0_3 w4_3 u1_3 u2_3 _ h5) gX5_noteBy_X5_isAt rfl (chk_ok h3) (by decide) rfl (by decide +kernel) (n := 3) rfl (by decide) (Nat.le_of_ble_eq_true rfl) dX5_noteBy_17 rfl rfl (stk := [.int t4]) rfl (fun H locs hW => ?_)
        refine lv_if_ne (tgt := 26) hx hb dX5_noteBy_20 (by decide) (fun hc => ?_) (fun hc => ?_)
        · replace hf := itn hc hf
          refine lv_iconst (v := 0) hx hb dX5_noteBy_26 (by decide) ?_
          refine lv_istore (lv' := [(5, .int 0), (0, .ref u0_3), (1, .int u1_3), (2, .int u2_3), (3, .int u3_3), (4, .int w4_3)]) hx hb dX5_noteBy_27 hl (by decide) rfl (fun ls hl => ?_)
          refine lv_iconst (v := 0) hx hb dX5_noteBy_29 (by decide) ?_
          refine lv_istore (lv' := [(6, .int 0), (5, .int 0), (0, .ref u0_3), (1, .int u1_3), (2, .int u2_3), (3, .int u3_3), (4, .int w4_3)]) hx hb dX5_noteBy_30 hl (by decide) rfl (fun ls hl => ?_)
          have L32 : ∀ (u0_32 : Nat) (u1_32 : Int32) (u2_32 : Int32) (u3_32 : Int32) (u4_32 : Int32) (k9 : Int32 → Int32 → Option (Int32)),
              (∀ (w5_32 : Int32) (w6_32 : Int32) (H : Heap) (locs : List Loc) (ls : Array Slot), k9 w5_32 w6_32 = some r → MW G A mu s.heap H locs → lv_has ls 7 [(0, .ref u0_32), (1, .int u1_32), (2, .int u2_32), (3, .int u3_32), (4, .int u4_32), (5, .int w5_32), (6, .int w6_32)] → W p l e ({ frames := 8, cells := 0, slots := 0, locals := 150 } : Room) s m args below meth c H locs 0 0 (QQ below G A (dP (.inr (rI r)) mu) args s 0 0) (F0 m 105 ls [])) →
              ∀ (n : Nat) (w5_32 : Int32) (w6_32 : Int32) (H : Heap) (locs : List Loc) (ls : Array Slot), f_X5_noteBy_L32 mu u0_32 u1_32 u2_32 u3_32 u4_32 k9 n w5_32 w6_32 = some r → MW G A mu s.heap H locs → lv_has ls 7 [(0, .ref u0_32), (1, .int u1_32), (2, .int u2_32), (3, .int u3_32), (4, .int u4_32), (5, .int w5_32), (6, .int w6_32)] → W p l e ({ frames := 8, cells := 0, slots := 0, locals := 150 } : Room) s m args below meth c H locs 0 0 (QQ below G A (dP (.inr (rI r)) mu) args s 0 0) (F0 m 32 ls []) := by
            intro u0_32 u1_32 u2_32 u3_32 u4_32 k9 hk32 n
            induction n with
            | zero => intro w5_32 w6_32 H locs ls hf hW hl; rw [f_X5_noteBy_L32] at hf; cases hf
            | succ n ih32 =>
              intro w5_32 w6_32 H locs ls hf hW hl
              rw [f_X5_noteBy_L32] at hf
              refine lv_iload hx hb dX5_noteBy_32 (lv_at hl 6 rfl) ?_
              refine lv_aload_n hx hb dX5_noteBy_34 rfl (lv_at hl 0 rfl) ?_
              replace hf := bnd hf
              obtain ⟨t6, h7, hf⟩ := hf
              refine g_7_17 X hW hinX5 hF91 h7 dX5_noteBy_35 ?_
              refine lv_icmp_ge (tgt := 105) hx hb dX5_noteBy_38 (by decide) (fun hc => ?_) (fun hc => ?_)
              · replace hf := itp hc hf
                exact hk32 _ _ _ _ _ hf hW (lv_sub hl [0, 1, 2, 3, 4, 5, 6] rfl)
              · replace hf := itn hc hf
                refine lv_iload hx hb dX5_noteBy_41 (lv_at hl 5 rfl) ?_
                refine lv_aload_n hx hb dX5_noteBy_43 rfl (lv_at hl 0 rfl) ?_
                refine lv_iload hx hb dX5_noteBy_44 (lv_at hl 6 rfl) ?_
                refine lv_iload_n hx hb dX5_noteBy_46 rfl (lv_at hl 1 rfl) ?_
                refine lv_iload_n hx hb dX5_noteBy_47 rfl (lv_at hl 2 rfl) ?_
                replace hf := bnd hf
                obtain ⟨_, h8, hf⟩ := hf
                replace hf := bnd hf
                obtain ⟨t9, h10, hf⟩ := hf
                refine r_callV_ok X hW hl.1 (k_X5_isAt l hsl G A mu u0_32 w6_32 u1_32 u2_32 _ h10) gX5_noteBy_X5_isAt rfl (chk_ok h8) (by decide) rfl (by decide +kernel) (n := 3) rfl (by decide) (Nat.le_of_ble_eq_true rfl) dX5_noteBy_48 rfl rfl (stk := [.int t9, .int w5_32]) rfl (fun H locs hW => ?_)
                refine lv_if_eq (tgt := 95) hx hb dX5_noteBy_51 (by decide) (fun hc => ?_) (fun hc => ?_)
                · replace hf := itp hc hf
                  refine lv_iconst (v := 0) hx hb dX5_noteBy_95 (by decide) ?_
                  refine lv_iadd hx hb dX5_noteBy_96 ?_
                  refine lv_istore (lv' := [(5, .int (w5_32 + 0)), (0, .ref u0_32), (1, .int u1_32), (2, .int u2_32), (3, .int u3_32), (4, .int u4_32), (6, .int w6_32)]) hx hb dX5_noteBy_97 hl (by decide) rfl (fun ls hl => ?_)
                  refine lv_iinc (v := (w6_32 + 1)) (lv' := [(6, .int (w6_32 + 1)), (5, .int (w5_32 + 0)), (0, .ref u0_32), (1, .int u1_32), (2, .int u2_32), (3, .int u3_32), (4, .int u4_32)]) hx hb dX5_noteBy_99 hl (k := 6) rfl rfl (by decide) rfl (fun ls hl => ?_)
                  refine lv_goto (tgt := 32) hx hb dX5_noteBy_102 (by decide) ?_
                  exact ih32 _ _ _ _ _ hf hW (lv_sub hl [2, 3, 4, 5, 6, 1, 0] rfl)
                · replace hf := itn hc hf
                  refine lv_iconst (v := 2) hx hb dX5_noteBy_54 (by decide) ?_
                  refine lv_aload_n hx hb dX5_noteBy_55 rfl (lv_at hl 0 rfl) ?_
                  replace hf := bnd hf
                  obtain ⟨t11, h12, hf⟩ := hf
                  refine g_7_7 X hW hinX5 hF28 h12 dX5_noteBy_56 ?_
                  refine lv_iload hx hb dX5_noteBy_59 (lv_at hl 6 rfl) ?_
                  replace hf := bnd hf
                  obtain ⟨a13, h14, hf⟩ := hf
                  subst h14
                  replace hf := bnd hf
                  obtain ⟨t15, h16, hf⟩ := hf
                  refine r_ald X hW h16 dX5_noteBy_61 ?_
                  refine lv_imul hx hb dX5_noteBy_62 ?_
                  refine lv_aload_n hx hb dX5_noteBy_63 rfl (lv_at hl 0 rfl) ?_
                  replace hf := bnd hf
                  obtain ⟨t17, h18, hf⟩ := hf
                  refine g_7_6 X hW hinX5 hF25 h18 dX5_noteBy_64 ?_
                  refine lv_iload hx hb dX5_noteBy_67 (lv_at hl 6 rfl) ?_
                  replace hf := bnd hf
                  obtain ⟨a19, h20, hf⟩ := hf
                  subst h20
                  replace hf := bnd hf
                  obtain ⟨t21, h22, hf⟩ := hf
                  refine r_ald X hW h22 dX5_noteBy_69 ?_
                  refine lv_iadd hx hb dX5_noteBy_70 ?_
                  refine lv_iconst (v := 2) hx hb dX5_noteBy_71 (by decide) ?_
                  refine lv_aload_n hx hb dX5_noteBy_72 rfl (lv_at hl 0 rfl) ?_
                  replace hf := bnd hf
                  obtain ⟨t23, h24, hf⟩ := hf
                  refine g_7_7 X hW hinX5 hF28 h24 dX5_noteBy_73 ?_
                  refine lv_iload hx hb dX5_noteBy_76 (lv_at hl 4 rfl) ?_
                  replace hf := bnd hf
                  obtain ⟨a25, h26, hf⟩ := hf
                  subst h26
                  replace hf := bnd hf
                  obtain ⟨t27, h28, hf⟩ := hf
                  refine r_ald X hW h28 dX5_noteBy_78 ?_
                  refine lv_imul hx hb dX5_noteBy_79 ?_
                  refine lv_aload_n hx hb dX5_noteBy_80 rfl (lv_at hl 0 rfl) ?_
                  replace hf := bnd hf
                  obtain ⟨t29, h30, hf⟩ := hf
                  refine g_7_6 X hW hinX5 hF25 h30 dX5_noteBy_81 ?_
                  refine lv_iload hx hb dX5_noteBy_84 (lv_at hl 4 rfl) ?_
                  replace hf := bnd hf
                  obtain ⟨a31, h32, hf⟩ := hf
                  subst h32
                  replace hf := bnd hf
                  obtain ⟨t33, h34, hf⟩ := hf
                  refine r_ald X hW h34 dX5_noteBy_86 ?_
                  refine lv_iadd hx hb dX5_noteBy_87 ?_
                  refine lv_icmp_ge (tgt := 95) hx hb dX5_noteBy_88 (by decide) (fun hc => ?_) (fun hc => ?_)
                  · replace hf := itp hc hf
                    refine lv_iconst (v := 0) hx hb dX5_noteBy_95 (by decide) ?_
                    refine lv_iadd hx hb dX5_noteBy_96 ?_
                    refine lv_istore (lv' := [(5, .int (w5_32 + 0)), (0, .ref u0_32), (1, .int u1_32), (2, .int u2_32), (3, .int u3_32), (4, .int u4_32), (6, .int w6_32)]) hx hb dX5_noteBy_97 hl (by decide) rfl (fun ls hl => ?_)
                    refine lv_iinc (v := (w6_32 + 1)) (lv' := [(6, .int (w6_32 + 1)), (5, .int (w5_32 + 0)), (0, .ref u0_32), (1, .int u1_32), (2, .int u2_32), (3, .int u3_32), (4, .int u4_32)]) hx hb dX5_noteBy_99 hl (k := 6) rfl rfl (by decide) rfl (fun ls hl => ?_)
                    refine lv_goto (tgt := 32) hx hb dX5_noteBy_102 (by decide) ?_
                    exact ih32 _ _ _ _ _ hf hW (lv_sub hl [2, 3, 4, 5, 6, 1, 0] rfl)
                  · replace hf := itn hc hf
                    refine lv_iconst (v := 1) hx hb dX5_noteBy_91 (by decide) ?_
                    refine lv_goto (tgt := 96) hx hb dX5_noteBy_92 (by decide) ?_
                    refine lv_iadd hx hb dX5_noteBy_96 ?_
                    refine lv_istore (lv' := [(5, .int (w5_32 + 1)), (0, .ref u0_32), (1, .int u1_32), (2, .int u2_32), (3, .int u3_32), (4, .int u4_32), (6, .int w6_32)]) hx hb dX5_noteBy_97 hl (by decide) rfl (fun ls hl => ?_)
                    refine lv_iinc (v := (w6_32 + 1)) (lv' := [(6, .int (w6_32 + 1)), (5, .int (w5_32 + 1)), (0, .ref u0_32), (1, .int u1_32), (2, .int u2_32), (3, .int u3_32), (4, .int u4_32)]) hx hb dX5_noteBy_99 hl (k := 6) rfl rfl (by decide) rfl (fun ls hl => ?_)
                    refine lv_goto (tgt := 32) hx hb dX5_noteBy_102 (by decide) ?_
                    exact ih32 _ _ _ _ _ hf hW (lv_sub hl [2, 3, 4, 5, 6, 1, 0] rfl)
          refine L32 u0_3 u1_3 u2_3 u3_3 w4_3 _ ?_ 200 0 0 _ _ _ hf hW (lv_sub hl [2, 3, 4, 5, 6, 1, 0] rfl)
          intro zw5_32 zw6_32 H locs ls hf hW hl
          refine lv_iload hx hb dX5_noteBy_105 (lv_at hl 5 rfl) ?_
          refine lv_iload_n hx hb dX5_noteBy_107 rfl (lv_at hl 3 rfl) ?_
          refine lv_icmp_ne (tgt := 114) hx hb dX5_noteBy_108 (by decide) (fun hc => ?_) (fun hc => ?_)
          · replace hf := itn hc hf
            refine lv_iinc (v := (w4_3 + 1)) (lv' := [(4, .int (w4_3 + 1)), (0, .ref u0_3), (1, .int u1_3), (2, .int u2_3), (3, .int u3_3), (5, .int zw5_32), (6, .int zw6_32)]) hx hb dX5_noteBy_114 hl (k := 4) rfl rfl (by decide) rfl (fun ls hl => ?_)
            refine lv_goto (tgt := 3) hx hb dX5_noteBy_117 (by decide) ?_
            exact ih3 _ _ _ _ hf hW (lv_sub hl [1, 2, 3, 4, 0] rfl)
          · replace hf := itp hc hf
            refine lv_iload hx hb dX5_noteBy_111 (lv_at hl 4 rfl) ?_
            exact r_iret X hr hW (by cases hf; exact ⟨rfl, rfl⟩) (by decide) (by decide) dX5_noteBy_113
        · replace hf := itp hc hf
          refine lv_goto (tgt := 114) hx hb dX5_noteBy_23 (by decide) ?_
          refine lv_iinc (v := (w4_3 + 1)) (lv' := [(4, .int (w4_3 + 1)), (0, .ref u0_3), (1, .int u1_3), (2, .int u2_3), (3, .int u3_3)]) hx hb dX5_noteBy_114 hl (k := 4) rfl rfl (by decide) rfl (fun ls hl => ?_)
          refine lv_goto (tgt := 3) hx hb dX5_noteBy_117 (by decide) ?_
          exact ih3 _ _ _ _ hf hW (lv_sub hl [1, 2, 3, 4, 0] rfl)
  refine L3 x0 x1 x2 x3 _ ?_ 200 0 _ _ _ hf hW (lv_sub hl [1, 2, 3, 4, 0] rfl)
  intro zw4_3 H locs ls hf hW hl
  refine lv_iconst (v := (-1)) hx hb dX5_noteBy_120 (by decide) ?_
  exact r_iret X hr hW (by cases hf; exact ⟨rfl, rfl⟩) (by decide) (by decide) dX5_noteBy_121

def f_X5_isNowhere (mu : Mem) (x0 : Nat) (x1 : Int32) (x2 : Int32) : Option ((Int32) × Mem) := (chk mu 7 x0).bind fun _ => (f_X5_isPart mu x0 x1).bind fun t2 => if t2 = 0 then ((putI mu 7 0 x0 1).bind fun m4 => (getI m4 7 0 x0).bind fun t6 => if t6 ≤ 0 then (some (0, m4)) else (some (1, m4))) else ((chk mu 7 x0).bind fun _ => (f_X5_isBar mu x0 x2).bind fun t9 => if t9 = 0 then ((putI mu 7 0 x0 1).bind fun m11 => (getI m11 7 0 x0).bind fun t13 => if t13 ≤ 0 then (some (0, m11)) else (some (1, m11))) else ((putI mu 7 0 x0 0).bind fun m15 => (getI m15 7 0 x0).bind fun t17 => if t17 ≤ 0 then (some (0, m15)) else (some (1, m15))))
set_option maxHeartbeats 1000000 in
set_option maxRecDepth 100000 in
theorem k_X5_isNowhere (l : Launch) (hsl : l.stackTraces = false) (G : GG) (A : Nat → Prop) (mu : Mem) (x0 : Nat) (x1 : Int32) (x2 : Int32) (r : (Int32) × Mem) (hf : f_X5_isNowhere mu x0 x1 x2 = some r) : Ok l yX5_isNowhere wsX5_isNowhere ({ frames := 10, cells := 0, slots := 0, locals := 190 } : Room) [.ref x0, .int x1, .int x2] G A mu (dP (.inr (rI r.1)) r.2) := by
  refine Ok.start (cc := cX5_isNowhere) (maxL := 3) (ret := (some .boolean)) rfl (by decide +kernel) hsl (by first | exact Nat.le_of_ble_eq_true rfl | simp [lg_sl, cat_rf, Value.category]) ?_
  intro p e s m args below meth c ls X hr hname hW hl
  have X : BX p l s m args meth c cX5_isNowhere 3 RX5 wsX5_isNowhere G A := X
  have hx := X.1
  have hb := X.2.1
  have hts := X.2.2.2.2.1
  have hl : lv_has ls 3 [(0, .ref x0), (1, .int x1), (2, .int x2)] := hl
  have hinX5 : ∀ w ∈ wsX50, w ∈ wsX5_isNowhere := by decide +kernel
  have hF78 : (Cond.fieldLink RX5 78 "PartcopyistBenchModel" "thrown" "I").before args s = true := hts _ (by decide +kernel)
  unfold f_X5_isNowhere at hf
  refine lv_aload_n hx hb dX5_isNowhere_0 rfl (lv_at hl 0 rfl) ?_
  refine lv_aload_n hx hb dX5_isNowhere_1 rfl (lv_at hl 0 rfl) ?_
  refine lv_iload_n hx hb dX5_isNowhere_2 rfl (lv_at hl 1 rfl) ?_
  replace hf := bnd hf
  obtain ⟨_, h1, hf⟩ := hf
  replace hf := bnd hf
  obtain ⟨t2, h3, hf⟩ := hf
  refine r_callV_ok X hW hl.1 (k_X5_isPart l hsl G A mu x0 x1 _ h3) gX5_isNowhere_X5_isPart rfl (chk_ok h1) (by decide) rfl (by decide +kernel) (n := 1) rfl (by decide) (Nat.le_of_ble_eq_true rfl) dX5_isNowhere_3 rfl rfl (stk := [.int t2, .ref x0]) rfl (fun H locs hW => ?_)
  refine lv_if_eq (tgt := 21) hx hb dX5_isNowhere_6 (by decide) (fun hc => ?_) (fun hc => ?_)
  · replace hf := itp hc hf
    refine lv_iconst (v := 1) hx hb dX5_isNowhere_21 (by decide) ?_
    replace hf := bnd hf
    obtain ⟨m4, h5, hf⟩ := hf
    refine p_7_0 X hW hinX5 hF78 h5 dX5_isNowhere_22 (fun H locs hW => ?_)
    refine lv_aload_n hx hb dX5_isNowhere_25 rfl (lv_at hl 0 rfl) ?_
    replace hf := bnd hf
    obtain ⟨t6, h7, hf⟩ := hf
    refine g_7_0 X hW hinX5 hF78 h7 dX5_isNowhere_26 ?_
    refine lv_if_le (tgt := 36) hx hb dX5_isNowhere_29 (by decide) (fun hc => ?_) (fun hc => ?_)
    · replace hf := itp hc hf
      refine lv_iconst (v := 0) hx hb dX5_isNowhere_36 (by decide) ?_
      exact r_zret X hr hW (Or.inl rfl) (by cases hf; exact ⟨rfl, rfl⟩) (by decide) (by decide) dX5_isNowhere_37
    · replace hf := itn hc hf
      refine lv_iconst (v := 1) hx hb dX5_isNowhere_32 (by decide) ?_
      refine lv_goto (tgt := 37) hx hb dX5_isNowhere_33 (by decide) ?_
      exact r_zret X hr hW (Or.inr rfl) (by cases hf; exact ⟨rfl, rfl⟩) (by decide) (by decide) dX5_isNowhere_37
  · replace hf := itn hc hf
    refine lv_aload_n hx hb dX5_isNowhere_9 rfl (lv_at hl 0 rfl) ?_
    refine lv_iload_n hx hb dX5_isNowhere_10 rfl (lv_at hl 2 rfl) ?_
    replace hf := bnd hf
    obtain ⟨_, h8, hf⟩ := hf
    replace hf := bnd hf
    obtain ⟨t9, h10, hf⟩ := hf
    refine r_callV_ok X hW hl.1 (k_X5_isBar l hsl G A mu x0 x2 _ h10) gX5_isNowhere_X5_isBar rfl (chk_ok h8) (by decide) rfl (by decide +kernel) (n := 1) rfl (by decide) (Nat.le_of_ble_eq_true rfl) dX5_isNowhere_11 rfl rfl (stk := [.int t9, .ref x0]) rfl (fun H locs hW => ?_)
    refine lv_if_eq (tgt := 21) hx hb dX5_isNowhere_14 (by decide) (fun hc => ?_) (fun hc => ?_)
    · replace hf := itp hc hf
      refine lv_iconst (v := 1) hx hb dX5_isNowhere_21 (by decide) ?_
      replace hf := bnd hf
      obtain ⟨m11, h12, hf⟩ := hf
      refine p_7_0 X hW hinX5 hF78 h12 dX5_isNowhere_22 (fun H locs hW => ?_)
      refine lv_aload_n hx hb dX5_isNowhere_25 rfl (lv_at hl 0 rfl) ?_
      replace hf := bnd hf
      obtain ⟨t13, h14, hf⟩ := hf
      refine g_7_0 X hW hinX5 hF78 h14 dX5_isNowhere_26 ?_
      refine lv_if_le (tgt := 36) hx hb dX5_isNowhere_29 (by decide) (fun hc => ?_) (fun hc => ?_)
      · replace hf := itp hc hf
        refine lv_iconst (v := 0) hx hb dX5_isNowhere_36 (by decide) ?_
        exact r_zret X hr hW (Or.inl rfl) (by cases hf; exact ⟨rfl, rfl⟩) (by decide) (by decide) dX5_isNowhere_37
      · replace hf := itn hc hf
        refine lv_iconst (v := 1) hx hb dX5_isNowhere_32 (by decide) ?_
        refine lv_goto (tgt := 37) hx hb dX5_isNowhere_33 (by decide) ?_
        exact r_zret X hr hW (Or.inr rfl) (by cases hf; exact ⟨rfl, rfl⟩) (by decide) (by decide) dX5_isNowhere_37
    · replace hf := itn hc hf
      refine lv_iconst (v := 0) hx hb dX5_isNowhere_17 (by decide) ?_
      refine lv_goto (tgt := 22) hx hb dX5_isNowhere_18 (by decide) ?_
      replace hf := bnd hf
      obtain ⟨m15, h16, hf⟩ := hf
      refine p_7_0 X hW hinX5 hF78 h16 dX5_isNowhere_22 (fun H locs hW => ?_)
      refine lv_aload_n hx hb dX5_isNowhere_25 rfl (lv_at hl 0 rfl) ?_
      replace hf := bnd hf
      obtain ⟨t17, h18, hf⟩ := hf
      refine g_7_0 X hW hinX5 hF78 h18 dX5_isNowhere_26 ?_
      refine lv_if_le (tgt := 36) hx hb dX5_isNowhere_29 (by decide) (fun hc => ?_) (fun hc => ?_)
      · replace hf := itp hc hf
        refine lv_iconst (v := 0) hx hb dX5_isNowhere_36 (by decide) ?_
        exact r_zret X hr hW (Or.inl rfl) (by cases hf; exact ⟨rfl, rfl⟩) (by decide) (by decide) dX5_isNowhere_37
      · replace hf := itn hc hf
        refine lv_iconst (v := 1) hx hb dX5_isNowhere_32 (by decide) ?_
        refine lv_goto (tgt := 37) hx hb dX5_isNowhere_33 (by decide) ?_
        exact r_zret X hr hW (Or.inr rfl) (by cases hf; exact ⟨rfl, rfl⟩) (by decide) (by decide) dX5_isNowhere_37

def f_X5_notesIn (mu : Mem) (x0 : Nat) (x1 : Int32) (x2 : Int32) : Option ((Int32) × Mem) := (chk mu 7 x0).bind fun _ => bi2 (f_X5_isNowhere mu x0 x1 x2) (fun (t2 : (Int32)) m4 => if t2 = 0 then ((chk m4 7 x0).bind fun _ => (f_X5_many m4 x0 x1 x2).bind fun t6 => some (t6, m4)) else (some (0, m4)))
set_option maxHeartbeats 1000000 in
set_option maxRecDepth 100000 in
theorem k_X5_notesIn (l : Launch) (hsl : l.stackTraces = false) (G : GG) (A : Nat → Prop) (mu : Mem) (x0 : Nat) (x1 : Int32) (x2 : Int32) (r : (Int32) × Mem) (hf : f_X5_notesIn mu x0 x1 x2 = some r) : Ok l yX5_notesIn wsX5_notesIn ({ frames := 12, cells := 0, slots := 0, locals := 230 } : Room) [.ref x0, .int x1, .int x2] G A mu (dP (.inr (rI r.1)) r.2) := by
  refine Ok.start (cc := cX5_notesIn) (maxL := 3) (ret := (some .int)) rfl (by decide +kernel) hsl (by first | exact Nat.le_of_ble_eq_true rfl | simp [lg_sl, cat_rf, Value.category]) ?_
  intro p e s m args below meth c ls X hr hname hW hl
  have X : BX p l s m args meth c cX5_notesIn 3 RX5 wsX5_notesIn G A := X
  have hx := X.1
  have hb := X.2.1
  have hts := X.2.2.2.2.1
  have hl : lv_has ls 3 [(0, .ref x0), (1, .int x1), (2, .int x2)] := hl
  unfold f_X5_notesIn at hf
  refine lv_aload_n hx hb dX5_notesIn_0 rfl (lv_at hl 0 rfl) ?_
  refine lv_iload_n hx hb dX5_notesIn_1 rfl (lv_at hl 1 rfl) ?_
  refine lv_iload_n hx hb dX5_notesIn_2 rfl (lv_at hl 2 rfl) ?_
  replace hf := bnd hf
  obtain ⟨_, h1, hf⟩ := hf
  replace hf := bnd2 hf
  obtain ⟨t2, m4, h3, hf⟩ := hf
  refine r_callV_ok (μ9 := m4) X hW hl.1 (k_X5_isNowhere l hsl G A mu x0 x1 x2 _ h3) gX5_notesIn_X5_isNowhere rfl (chk_ok h1) (by decide) rfl (by decide +kernel) (n := 2) rfl (by decide) (Nat.le_of_ble_eq_true rfl) dX5_notesIn_3 rfl rfl (stk := [.int t2]) rfl (fun H locs hW => ?_)
  refine lv_if_eq (tgt := 13) hx hb dX5_notesIn_6 (by decide) (fun hc => ?_) (fun hc => ?_)
  · replace hf := itp hc hf
    refine lv_aload_n hx hb dX5_notesIn_13 rfl (lv_at hl 0 rfl) ?_
    refine lv_iload_n hx hb dX5_notesIn_14 rfl (lv_at hl 1 rfl) ?_
    refine lv_iload_n hx hb dX5_notesIn_15 rfl (lv_at hl 2 rfl) ?_
    replace hf := bnd hf
    obtain ⟨_, h5, hf⟩ := hf
    replace hf := bnd hf
    obtain ⟨t6, h7, hf⟩ := hf
    refine r_callV_ok X hW hl.1 (k_X5_many l hsl G A m4 x0 x1 x2 _ h7) gX5_notesIn_X5_many rfl (chk_ok h5) (by decide) rfl (by decide +kernel) (n := 2) rfl (by decide) (Nat.le_of_ble_eq_true rfl) dX5_notesIn_16 rfl rfl (stk := [.int t6]) rfl (fun H locs hW => ?_)
    exact r_iret X hr hW (by cases hf; exact ⟨rfl, rfl⟩) (by decide) (by decide) dX5_notesIn_19
  · replace hf := itn hc hf
    refine lv_iconst (v := 0) hx hb dX5_notesIn_9 (by decide) ?_
    refine lv_goto (tgt := 19) hx hb dX5_notesIn_10 (by decide) ?_
    exact r_iret X hr hW (by cases hf; exact ⟨rfl, rfl⟩) (by decide) (by decide) dX5_notesIn_19

def f_X5_noteAt (mu : Mem) (x0 : Nat) (x1 : Int32) (x2 : Int32) (x3 : Int32) : Option ((Int32) × Mem) := (chk mu 7 x0).bind fun _ => bi2 (f_X5_isNowhere mu x0 x1 x2) (fun (t2 : (Int32)) m4 => if t2 = 0 then ((chk m4 7 x0).bind fun _ => (f_X5_noteBy m4 x0 x1 x2 x3).bind fun t6 => if 0 ≤ t6 then (some (t6, m4)) else ((chk m4 7 x0).bind fun _ => bi2 (f_X5_fails m4 x0 2) (fun (t9 : (Int32)) m11 => some (t9, m11)))) else (some (0, m4)))
set_option maxHeartbeats 1000000 in
set_option maxRecDepth 100000 in
theorem k_X5_noteAt (l : Launch) (hsl : l.stackTraces = false) (G : GG) (A : Nat → Prop) (mu : Mem) (x0 : Nat) (x1 : Int32) (x2 : Int32) (x3 : Int32) (r : (Int32) × Mem) (hf : f_X5_noteAt mu x0 x1 x2 x3 = some r) : Ok l yX5_noteAt wsX5_noteAt ({ frames := 12, cells := 0, slots := 0, locals := 230 } : Room) [.ref x0, .int x1, .int x2, .int x3] G A mu (dP (.inr (rI r.1)) r.2) := by
  refine Ok.start (cc := cX5_noteAt) (maxL := 5) (ret := (some .int)) rfl (by decide +kernel) hsl (by first | exact Nat.le_of_ble_eq_true rfl | simp [lg_sl, cat_rf, Value.category]) ?_
  intro p e s m args below meth c ls X hr hname hW hl
  have X : BX p l s m args meth c cX5_noteAt 5 RX5 wsX5_noteAt G A := X
  have hx := X.1
  have hb := X.2.1
  have hts := X.2.2.2.2.1
  have hl : lv_has ls 5 [(0, .ref x0), (1, .int x1), (2, .int x2), (3, .int x3)] := hl
  unfold f_X5_noteAt at hf
  refine lv_aload_n hx hb dX5_noteAt_0 rfl (lv_at hl 0 rfl) ?_
  refine lv_iload_n hx hb dX5_noteAt_1 rfl (lv_at hl 1 rfl) ?_
  refine lv_iload_n hx hb dX5_noteAt_2 rfl (lv_at hl 2 rfl) ?_
  replace hf := bnd hf
  obtain ⟨_, h1, hf⟩ := hf
  replace hf := bnd2 hf
  obtain ⟨t2, m4, h3, hf⟩ := hf
  refine r_callV_ok (μ9 := m4) X hW hl.1 (k_X5_isNowhere l hsl G A mu x0 x1 x2 _ h3) gX5_noteAt_X5_isNowhere rfl (chk_ok h1) (by decide) rfl (by decide +kernel) (n := 2) rfl (by decide) (Nat.le_of_ble_eq_true rfl) dX5_noteAt_3 rfl rfl (stk := [.int t2]) rfl (fun H locs hW => ?_)
  refine lv_if_eq (tgt := 11) hx hb dX5_noteAt_6 (by decide) (fun hc => ?_) (fun hc => ?_)
  · replace hf := itp hc hf
    refine lv_aload_n hx hb dX5_noteAt_11 rfl (lv_at hl 0 rfl) ?_
    refine lv_iload_n hx hb dX5_noteAt_12 rfl (lv_at hl 1 rfl) ?_
    refine lv_iload_n hx hb dX5_noteAt_13 rfl (lv_at hl 2 rfl) ?_
    refine lv_iload_n hx hb dX5_noteAt_14 rfl (lv_at hl 3 rfl) ?_
    replace hf := bnd hf
    obtain ⟨_, h5, hf⟩ := hf
    replace hf := bnd hf
    obtain ⟨t6, h7, hf⟩ := hf
    refine r_callV_ok X hW hl.1 (k_X5_noteBy l hsl G A m4 x0 x1 x2 x3 _ h7) gX5_noteAt_X5_noteBy rfl (chk_ok h5) (by decide) rfl (by decide +kernel) (n := 3) rfl (by decide) (Nat.le_of_ble_eq_true rfl) dX5_noteAt_15 rfl rfl (stk := [.int t6]) rfl (fun H locs hW => ?_)
    refine lv_istore (lv' := [(4, .int t6), (0, .ref x0), (1, .int x1), (2, .int x2), (3, .int x3)]) hx hb dX5_noteAt_18 hl (by decide) rfl (fun ls hl => ?_)
    refine lv_iload hx hb dX5_noteAt_20 (lv_at hl 0 rfl) ?_
    refine lv_if_ge (tgt := 33) hx hb dX5_noteAt_22 (by decide) (fun hc => ?_) (fun hc => ?_)
    · replace hf := itp hc hf
      refine lv_iload hx hb dX5_noteAt_33 (lv_at hl 0 rfl) ?_
      exact r_iret X hr hW (by cases hf; exact ⟨rfl, rfl⟩) (by decide) (by decide) dX5_noteAt_35
    · replace hf := itn hc hf
      refine lv_aload_n hx hb dX5_noteAt_25 rfl (lv_at hl 1 rfl) ?_
      refine lv_iconst (v := 2) hx hb dX5_noteAt_26 (by decide) ?_
      replace hf := bnd hf
      obtain ⟨_, h8, hf⟩ := hf
      replace hf := bnd2 hf
      obtain ⟨t9, m11, h10, hf⟩ := hf
      refine r_callV_ok (μ9 := m11) X hW hl.1 (k_X5_fails l hsl G A m4 x0 2 _ h10) gX5_noteAt_X5_fails rfl (chk_ok h8) (by decide) rfl (by decide +kernel) (n := 1) rfl (by decide) (Nat.le_of_ble_eq_true rfl) dX5_noteAt_27 rfl rfl (stk := [.int t9]) rfl (fun H locs hW => ?_)
      refine lv_goto (tgt := 35) hx hb dX5_noteAt_30 (by decide) ?_
      exact r_iret X hr hW (by cases hf; exact ⟨rfl, rfl⟩) (by decide) (by decide) dX5_noteAt_35
  · replace hf := itn hc hf
    refine lv_iconst (v := 0) hx hb dX5_noteAt_9 (by decide) ?_
    exact r_iret X hr hW (by cases hf; exact ⟨rfl, rfl⟩) (by decide) (by decide) dX5_noteAt_10

def f_X5_isNone (mu : Mem) (x0 : Nat) (x1 : Int32) : Option ((Int32) × Mem) := (chk mu 7 x0).bind fun _ => (f_X5_isNote mu x0 x1).bind fun t2 => if t2 = 0 then ((putI mu 7 0 x0 1).bind fun m4 => (getI m4 7 0 x0).bind fun t6 => if t6 ≤ 0 then (some (0, m4)) else (some (1, m4))) else ((putI mu 7 0 x0 0).bind fun m8 => (getI m8 7 0 x0).bind fun t10 => if t10 ≤ 0 then (some (0, m8)) else (some (1, m8)))
set_option maxHeartbeats 1000000 in
set_option maxRecDepth 100000 in
theorem k_X5_isNone (l : Launch) (hsl : l.stackTraces = false) (G : GG) (A : Nat → Prop) (mu : Mem) (x0 : Nat) (x1 : Int32) (r : (Int32) × Mem) (hf : f_X5_isNone mu x0 x1 = some r) : Ok l yX5_isNone wsX5_isNone ({ frames := 10, cells := 0, slots := 0, locals := 190 } : Room) [.ref x0, .int x1] G A mu (dP (.inr (rI r.1)) r.2) := by
  refine Ok.start (cc := cX5_isNone) (maxL := 2) (ret := (some .boolean)) rfl (by decide +kernel) hsl (by first | exact Nat.le_of_ble_eq_true rfl | simp [lg_sl, cat_rf, Value.category]) ?_
  intro p e s m args below meth c ls X hr hname hW hl
  have X : BX p l s m args meth c cX5_isNone 2 RX5 wsX5_isNone G A := X
  have hx := X.1
  have hb := X.2.1
  have hts := X.2.2.2.2.1
  have hl : lv_has ls 2 [(0, .ref x0), (1, .int x1)] := hl
  have hinX5 : ∀ w ∈ wsX50, w ∈ wsX5_isNone := by decide +kernel
  have hF78 : (Cond.fieldLink RX5 78 "PartcopyistBenchModel" "thrown" "I").before args s = true := hts _ (by decide +kernel)
  unfold f_X5_isNone at hf
  refine lv_aload_n hx hb dX5_isNone_0 rfl (lv_at hl 0 rfl) ?_
  refine lv_aload_n hx hb dX5_isNone_1 rfl (lv_at hl 0 rfl) ?_
  refine lv_iload_n hx hb dX5_isNone_2 rfl (lv_at hl 1 rfl) ?_
  replace hf := bnd hf
  obtain ⟨_, h1, hf⟩ := hf
  replace hf := bnd hf
  obtain ⟨t2, h3, hf⟩ := hf
  refine r_callV_ok X hW hl.1 (k_X5_isNote l hsl G A mu x0 x1 _ h3) gX5_isNone_X5_isNote rfl (chk_ok h1) (by decide) rfl (by decide +kernel) (n := 1) rfl (by decide) (Nat.le_of_ble_eq_true rfl) dX5_isNone_3 rfl rfl (stk := [.int t2, .ref x0]) rfl (fun H locs hW => ?_)
  refine lv_if_eq (tgt := 13) hx hb dX5_isNone_6 (by decide) (fun hc => ?_) (fun hc => ?_)
  · replace hf := itp hc hf
    refine lv_iconst (v := 1) hx hb dX5_isNone_13 (by decide) ?_
    replace hf := bnd hf
    obtain ⟨m4, h5, hf⟩ := hf
    refine p_7_0 X hW hinX5 hF78 h5 dX5_isNone_14 (fun H locs hW => ?_)
    refine lv_aload_n hx hb dX5_isNone_17 rfl (lv_at hl 0 rfl) ?_
    replace hf := bnd hf
    obtain ⟨t6, h7, hf⟩ := hf
    refine g_7_0 X hW hinX5 hF78 h7 dX5_isNone_18 ?_
    refine lv_if_le (tgt := 28) hx hb dX5_isNone_21 (by decide) (fun hc => ?_) (fun hc => ?_)
    · replace hf := itp hc hf
      refine lv_iconst (v := 0) hx hb dX5_isNone_28 (by decide) ?_
      exact r_zret X hr hW (Or.inl rfl) (by cases hf; exact ⟨rfl, rfl⟩) (by decide) (by decide) dX5_isNone_29
    · replace hf := itn hc hf
      refine lv_iconst (v := 1) hx hb dX5_isNone_24 (by decide) ?_
      refine lv_goto (tgt := 29) hx hb dX5_isNone_25 (by decide) ?_
      exact r_zret X hr hW (Or.inr rfl) (by cases hf; exact ⟨rfl, rfl⟩) (by decide) (by decide) dX5_isNone_29
  · replace hf := itn hc hf
    refine lv_iconst (v := 0) hx hb dX5_isNone_9 (by decide) ?_
    refine lv_goto (tgt := 14) hx hb dX5_isNone_10 (by decide) ?_
    replace hf := bnd hf
    obtain ⟨m8, h9, hf⟩ := hf
    refine p_7_0 X hW hinX5 hF78 h9 dX5_isNone_14 (fun H locs hW => ?_)
    refine lv_aload_n hx hb dX5_isNone_17 rfl (lv_at hl 0 rfl) ?_
    replace hf := bnd hf
    obtain ⟨t10, h11, hf⟩ := hf
    refine g_7_0 X hW hinX5 hF78 h11 dX5_isNone_18 ?_
    refine lv_if_le (tgt := 28) hx hb dX5_isNone_21 (by decide) (fun hc => ?_) (fun hc => ?_)
    · replace hf := itp hc hf
      refine lv_iconst (v := 0) hx hb dX5_isNone_28 (by decide) ?_
      exact r_zret X hr hW (Or.inl rfl) (by cases hf; exact ⟨rfl, rfl⟩) (by decide) (by decide) dX5_isNone_29
    · replace hf := itn hc hf
      refine lv_iconst (v := 1) hx hb dX5_isNone_24 (by decide) ?_
      refine lv_goto (tgt := 29) hx hb dX5_isNone_25 (by decide) ?_
      exact r_zret X hr hW (Or.inr rfl) (by cases hf; exact ⟨rfl, rfl⟩) (by decide) (by decide) dX5_isNone_29

def f_X5_pitchOf (mu : Mem) (x0 : Nat) (x1 : Int32) : Option ((Int32) × Mem) := (chk mu 7 x0).bind fun _ => bi2 (f_X5_isNone mu x0 x1) (fun (t2 : (Int32)) m4 => if t2 = 0 then ((getQ m4 7 9 x0).bind fun t5 => t5.bind fun a7 => (ald m4 a7 x1).bind fun t9 => some (t9, m4)) else (some (0, m4)))
set_option maxHeartbeats 1000000 in
set_option maxRecDepth 100000 in
theorem k_X5_pitchOf (l : Launch) (hsl : l.stackTraces = false) (G : GG) (A : Nat → Prop) (mu : Mem) (x0 : Nat) (x1 : Int32) (r : (Int32) × Mem) (hf : f_X5_pitchOf mu x0 x1 = some r) : Ok l yX5_pitchOf wsX5_pitchOf ({ frames := 12, cells := 0, slots := 0, locals := 230 } : Room) [.ref x0, .int x1] G A mu (dP (.inr (rI r.1)) r.2) := by
  refine Ok.start (cc := cX5_pitchOf) (maxL := 2) (ret := (some .int)) rfl (by decide +kernel) hsl (by first | exact Nat.le_of_ble_eq_true rfl | simp [lg_sl, cat_rf, Value.category]) ?_
  intro p e s m args below meth c ls X hr hname hW hl
  have X : BX p l s m args meth c cX5_pitchOf 2 RX5 wsX5_pitchOf G A := X
  have hx := X.1
  have hb := X.2.1
  have hts := X.2.2.2.2.1
  have hl : lv_has ls 2 [(0, .ref x0), (1, .int x1)] := hl
  have hinX5 : ∀ w ∈ wsX50, w ∈ wsX5_pitchOf := by decide +kernel
  have hF34 : (Cond.fieldLink RX5 34 "PartcopyistBenchModel" "pitches" "[I").before args s = true := hts _ (by decide +kernel)
  unfold f_X5_pitchOf at hf
  refine lv_aload_n hx hb dX5_pitchOf_0 rfl (lv_at hl 0 rfl) ?_
  refine lv_iload_n hx hb dX5_pitchOf_1 rfl (lv_at hl 1 rfl) ?_
  replace hf := bnd hf
  obtain ⟨_, h1, hf⟩ := hf
  replace hf := bnd2 hf
  obtain ⟨t2, m4, h3, hf⟩ := hf
  refine r_callV_ok (μ9 := m4) X hW hl.1 (k_X5_isNone l hsl G A mu x0 x1 _ h3) gX5_pitchOf_X5_isNone rfl (chk_ok h1) (by decide) rfl (by decide +kernel) (n := 1) rfl (by decide) (Nat.le_of_ble_eq_true rfl) dX5_pitchOf_2 rfl rfl (stk := [.int t2]) rfl (fun H locs hW => ?_)
  refine lv_if_eq (tgt := 12) hx hb dX5_pitchOf_5 (by decide) (fun hc => ?_) (fun hc => ?_)
  · replace hf := itp hc hf
    refine lv_aload_n hx hb dX5_pitchOf_12 rfl (lv_at hl 0 rfl) ?_
    replace hf := bnd hf
    obtain ⟨t5, h6, hf⟩ := hf
    refine g_7_9 X hW hinX5 hF34 h6 dX5_pitchOf_13 ?_
    refine lv_iload_n hx hb dX5_pitchOf_16 rfl (lv_at hl 1 rfl) ?_
    replace hf := bnd hf
    obtain ⟨a7, h8, hf⟩ := hf
    subst h8
    replace hf := bnd hf
    obtain ⟨t9, h10, hf⟩ := hf
    refine r_ald X hW h10 dX5_pitchOf_17 ?_
    exact r_iret X hr hW (by cases hf; exact ⟨rfl, rfl⟩) (by decide) (by decide) dX5_pitchOf_18
  · replace hf := itn hc hf
    refine lv_iconst (v := 0) hx hb dX5_pitchOf_8 (by decide) ?_
    refine lv_goto (tgt := 18) hx hb dX5_pitchOf_9 (by decide) ?_
    exact r_iret X hr hW (by cases hf; exact ⟨rfl, rfl⟩) (by decide) (by decide) dX5_pitchOf_18

def f_X5_lengthOf (mu : Mem) (x0 : Nat) (x1 : Int32) : Option ((Int32) × Mem) := (chk mu 7 x0).bind fun _ => bi2 (f_X5_isNone mu x0 x1) (fun (t2 : (Int32)) m4 => if t2 = 0 then ((getQ m4 7 8 x0).bind fun t5 => t5.bind fun a7 => (ald m4 a7 x1).bind fun t9 => some (t9, m4)) else (some (0, m4)))
set_option maxHeartbeats 1000000 in
set_option maxRecDepth 100000 in
theorem k_X5_lengthOf (l : Launch) (hsl : l.stackTraces = false) (G : GG) (A : Nat → Prop) (mu : Mem) (x0 : Nat) (x1 : Int32) (r : (Int32) × Mem) (hf : f_X5_lengthOf mu x0 x1 = some r) : Ok l yX5_lengthOf wsX5_lengthOf ({ frames := 12, cells := 0, slots := 0, locals := 230 } : Room) [.ref x0, .int x1] G A mu (dP (.inr (rI r.1)) r.2) := by
  refine Ok.start (cc := cX5_lengthOf) (maxL := 2) (ret := (some .int)) rfl (by decide +kernel) hsl (by first | exact Nat.le_of_ble_eq_true rfl | simp [lg_sl, cat_rf, Value.category]) ?_
  intro p e s m args below meth c ls X hr hname hW hl
  have X : BX p l s m args meth c cX5_lengthOf 2 RX5 wsX5_lengthOf G A := X
  have hx := X.1
  have hb := X.2.1
  have hts := X.2.2.2.2.1
  have hl : lv_has ls 2 [(0, .ref x0), (1, .int x1)] := hl
  have hinX5 : ∀ w ∈ wsX50, w ∈ wsX5_lengthOf := by decide +kernel
  have hF31 : (Cond.fieldLink RX5 31 "PartcopyistBenchModel" "lengths" "[I").before args s = true := hts _ (by decide +kernel)
  unfold f_X5_lengthOf at hf
  refine lv_aload_n hx hb dX5_lengthOf_0 rfl (lv_at hl 0 rfl) ?_
  refine lv_iload_n hx hb dX5_lengthOf_1 rfl (lv_at hl 1 rfl) ?_
  replace hf := bnd hf
  obtain ⟨_, h1, hf⟩ := hf
  replace hf := bnd2 hf
  obtain ⟨t2, m4, h3, hf⟩ := hf
  refine r_callV_ok (μ9 := m4) X hW hl.1 (k_X5_isNone l hsl G A mu x0 x1 _ h3) gX5_lengthOf_X5_isNone rfl (chk_ok h1) (by decide) rfl (by decide +kernel) (n := 1) rfl (by decide) (Nat.le_of_ble_eq_true rfl) dX5_lengthOf_2 rfl rfl (stk := [.int t2]) rfl (fun H locs hW => ?_)
  refine lv_if_eq (tgt := 12) hx hb dX5_lengthOf_5 (by decide) (fun hc => ?_) (fun hc => ?_)
  · replace hf := itp hc hf
    refine lv_aload_n hx hb dX5_lengthOf_12 rfl (lv_at hl 0 rfl) ?_
    replace hf := bnd hf
    obtain ⟨t5, h6, hf⟩ := hf
    refine g_7_8 X hW hinX5 hF31 h6 dX5_lengthOf_13 ?_
    refine lv_iload_n hx hb dX5_lengthOf_16 rfl (lv_at hl 1 rfl) ?_
    replace hf := bnd hf
    obtain ⟨a7, h8, hf⟩ := hf
    subst h8
    replace hf := bnd hf
    obtain ⟨t9, h10, hf⟩ := hf
    refine r_ald X hW h10 dX5_lengthOf_17 ?_
    exact r_iret X hr hW (by cases hf; exact ⟨rfl, rfl⟩) (by decide) (by decide) dX5_lengthOf_18
  · replace hf := itn hc hf
    refine lv_iconst (v := 0) hx hb dX5_lengthOf_8 (by decide) ?_
    refine lv_goto (tgt := 18) hx hb dX5_lengthOf_9 (by decide) ?_
    exact r_iret X hr hW (by cases hf; exact ⟨rfl, rfl⟩) (by decide) (by decide) dX5_lengthOf_18

def f_X5_isDivided_L16 (m4 : Mem) (u0_16 : Nat) (u1_16 : Int32) (u2_16 : Int32) (k9 : Int32 → Int32 → Option ((Int32) × Mem)) : Nat → Int32 → Int32 → Option ((Int32) × Mem)
  | 0, _, _ => none
  | n + 1, w3_16, w4_16 => (getI m4 7 17 u0_16).bind fun t5 => if t5 ≤ w4_16 then (k9 w3_16 w4_16) else ((chk m4 7 u0_16).bind fun _ => (f_X5_isAt m4 u0_16 w4_16 u1_16 u2_16).bind fun t8 => if t8 = 0 then (f_X5_isDivided_L16 m4 u0_16 u1_16 u2_16 k9 n (w3_16 ||| 0) (w4_16 + 1)) else ((getQ m4 7 6 u0_16).bind fun t10 => t10.bind fun a12 => (ald m4 a12 w4_16).bind fun t14 => f_X5_isDivided_L16 m4 u0_16 u1_16 u2_16 k9 n (w3_16 ||| (1 + t14)) (w4_16 + 1)))
def f_X5_isDivided (mu : Mem) (x0 : Nat) (x1 : Int32) (x2 : Int32) : Option ((Int32) × Mem) := (chk mu 7 x0).bind fun _ => bi2 (f_X5_isNowhere mu x0 x1 x2) (fun (t2 : (Int32)) m4 => if t2 = 0 then (f_X5_isDivided_L16 m4 x0 x1 x2 (fun (zw3_16 : Int32) (zw4_16 : Int32) => if zw3_16 = 3 then (some (1, m4)) else (some (0, m4))) 200 0 0) else (some (0, m4)))
set_option maxHeartbeats 1000000 in
set_option maxRecDepth 100000 in
theorem k_X5_isDivided (l : Launch) (hsl : l.stackTraces = false) (G : GG) (A : Nat → Prop) (mu : Mem) (x0 : Nat) (x1 : Int32) (x2 : Int32) (r : (Int32) × Mem) (hf : f_X5_isDivided mu x0 x1 x2 = some r) : Ok l yX5_isDivided wsX5_isDivided ({ frames := 12, cells := 0, slots := 0, locals := 230 } : Room) [.ref x0, .int x1, .int x2] G A mu (dP (.inr (rI r.1)) r.2) := by
  refine Ok.start (cc := cX5_isDivided) (maxL := 5) (ret := (some .boolean)) rfl (by decide +kernel) hsl (by first | exact Nat.le_of_ble_eq_true rfl | simp [lg_sl, cat_rf, Value.category]) ?_
  intro p e s m args below meth c ls X hr hname hW hl
  have X : BX p l s m args meth c cX5_isDivided 5 RX5 wsX5_isDivided G A := X
  have hx := X.1
  have hb := X.2.1
  have hts := X.2.2.2.2.1
  have hl : lv_has ls 5 [(0, .ref x0), (1, .int x1), (2, .int x2)] := hl
  have hinX5 : ∀ w ∈ wsX50, w ∈ wsX5_isDivided := by decide +kernel
  have hF25 : (Cond.fieldLink RX5 25 "PartcopyistBenchModel" "voices" "[I").before args s = true := hts _ (by decide +kernel)
  have hF91 : (Cond.fieldLink RX5 91 "PartcopyistBenchModel" "notes" "I").before args s = true := hts _ (by decide +kernel)
  unfold f_X5_isDivided at hf
  refine lv_aload_n hx hb dX5_isDivided_0 rfl (lv_at hl 0 rfl) ?_
  refine lv_iload_n hx hb dX5_isDivided_1 rfl (lv_at hl 1 rfl) ?_
  refine lv_iload_n hx hb dX5_isDivided_2 rfl (lv_at hl 2 rfl) ?_
  replace hf := bnd hf
  obtain ⟨_, h1, hf⟩ := hf
  replace hf := bnd2 hf
  obtain ⟨t2, m4, h3, hf⟩ := hf
  refine r_callV_ok (μ9 := m4) X hW hl.1 (k_X5_isNowhere l hsl G A mu x0 x1 x2 _ h3) gX5_isDivided_X5_isNowhere rfl (chk_ok h1) (by decide) rfl (by decide +kernel) (n := 2) rfl (by decide) (Nat.le_of_ble_eq_true rfl) dX5_isDivided_3 rfl rfl (stk := [.int t2]) rfl (fun H locs hW => ?_)
  refine lv_if_eq (tgt := 11) hx hb dX5_isDivided_6 (by decide) (fun hc => ?_) (fun hc => ?_)
  · replace hf := itp hc hf
    refine lv_iconst (v := 0) hx hb dX5_isDivided_11 (by decide) ?_
    refine lv_istore_n (lv' := [(3, .int 0), (0, .ref x0), (1, .int x1), (2, .int x2)]) hx hb dX5_isDivided_12 rfl hl (by decide) rfl (fun ls hl => ?_)
    refine lv_iconst (v := 0) hx hb dX5_isDivided_13 (by decide) ?_
    refine lv_istore (lv' := [(4, .int 0), (3, .int 0), (0, .ref x0), (1, .int x1), (2, .int x2)]) hx hb dX5_isDivided_14 hl (by decide) rfl (fun ls hl => ?_)
    have L16 : ∀ (u0_16 : Nat) (u1_16 : Int32) (u2_16 : Int32) (k9 : Int32 → Int32 → Option ((Int32) × Mem)),
        (∀ (w3_16 : Int32) (w4_16 : Int32) (H : Heap) (locs : List Loc) (ls : Array Slot), k9 w3_16 w4_16 = some r → MW G A m4 s.heap H locs → lv_has ls 5 [(0, .ref u0_16), (1, .int u1_16), (2, .int u2_16), (3, .int w3_16), (4, .int w4_16)] → W p l e ({ frames := 12, cells := 0, slots := 0, locals := 230 } : Room) s m args below meth c H locs 0 0 (QQ below G A (dP (.inr (rI r.1)) r.2) args s 0 0) (F0 m 58 ls [])) →
        ∀ (n : Nat) (w3_16 : Int32) (w4_16 : Int32) (H : Heap) (locs : List Loc) (ls : Array Slot), f_X5_isDivided_L16 m4 u0_16 u1_16 u2_16 k9 n w3_16 w4_16 = some r → MW G A m4 s.heap H locs → lv_has ls 5 [(0, .ref u0_16), (1, .int u1_16), (2, .int u2_16), (3, .int w3_16), (4, .int w4_16)] → W p l e ({ frames := 12, cells := 0, slots := 0, locals := 230 } : Room) s m args below meth c H locs 0 0 (QQ below G A (dP (.inr (rI r.1)) r.2) args s 0 0) (F0 m 16 ls []) := by
      intro u0_16 u1_16 u2_16 k9 hk16 n
      induction n with
      | zero => intro w3_16 w4_16 H locs ls hf hW hl; rw [f_X5_isDivided_L16] at hf; cases hf
      | succ n ih16 =>
        intro w3_16 w4_16 H locs ls hf hW hl
        rw [f_X5_isDivided_L16] at hf
        refine lv_iload hx hb dX5_isDivided_16 (lv_at hl 4 rfl) ?_
        refine lv_aload_n hx hb dX5_isDivided_18 rfl (lv_at hl 0 rfl) ?_
        replace hf := bnd hf
        obtain ⟨t5, h6, hf⟩ := hf
        refine g_7_17 X hW hinX5 hF91 h6 dX5_isDivided_19 ?_
        refine lv_icmp_ge (tgt := 58) hx hb dX5_isDivided_22 (by decide) (fun hc => ?_) (fun hc => ?_)
        · replace hf := itp hc hf
          exact hk16 _ _ _ _ _ hf hW (lv_sub hl [0, 1, 2, 3, 4] rfl)
        · replace hf := itn hc hf
          refine lv_iload_n hx hb dX5_isDivided_25 rfl (lv_at hl 3 rfl) ?_
          refine lv_aload_n hx hb dX5_isDivided_26 rfl (lv_at hl 0 rfl) ?_
          refine lv_iload hx hb dX5_isDivided_27 (lv_at hl 4 rfl) ?_
          refine lv_iload_n hx hb dX5_isDivided_29 rfl (lv_at hl 1 rfl) ?_
          refine lv_iload_n hx hb dX5_isDivided_30 rfl (lv_at hl 2 rfl) ?_
          replace hf := bnd hf
          obtain ⟨_, h7, hf⟩ := hf
          replace hf := bnd hf
          obtain ⟨t8, h9, hf⟩ := hf
          refine r_callV_ok X hW hl.1 (k_X5_isAt l hsl G A m4 u0_16 w4_16 u1_16 u2_16 _ h9) gX5_isDivided_X5_isAt rfl (chk_ok h7) (by decide) rfl (by decide +kernel) (n := 3) rfl (by decide) (Nat.le_of_ble_eq_true rfl) dX5_isDivided_31 rfl rfl (stk := [.int t8, .int w3_16]) rfl (fun H locs hW => ?_)
          refine lv_if_eq (tgt := 49) hx hb dX5_isDivided_34 (by decide) (fun hc => ?_) (fun hc => ?_)
          · replace hf := itp hc hf
            refine lv_iconst (v := 0) hx hb dX5_isDivided_49 (by decide) ?_
            refine lv_ior hx hb dX5_isDivided_50 ?_
            refine lv_istore_n (lv' := [(3, .int (w3_16 ||| 0)), (0, .ref u0_16), (1, .int u1_16), (2, .int u2_16), (4, .int w4_16)]) hx hb dX5_isDivided_51 rfl hl (by decide) rfl (fun ls hl => ?_)
            refine lv_iinc (v := (w4_16 + 1)) (lv' := [(4, .int (w4_16 + 1)), (3, .int (w3_16 ||| 0)), (0, .ref u0_16), (1, .int u1_16), (2, .int u2_16)]) hx hb dX5_isDivided_52 hl (k := 4) rfl rfl (by decide) rfl (fun ls hl => ?_)
            refine lv_goto (tgt := 16) hx hb dX5_isDivided_55 (by decide) ?_
            exact ih16 _ _ _ _ _ hf hW (lv_sub hl [2, 3, 4, 1, 0] rfl)
          · replace hf := itn hc hf
            refine lv_iconst (v := 1) hx hb dX5_isDivided_37 (by decide) ?_
            refine lv_aload_n hx hb dX5_isDivided_38 rfl (lv_at hl 0 rfl) ?_
            replace hf := bnd hf
            obtain ⟨t10, h11, hf⟩ := hf
            refine g_7_6 X hW hinX5 hF25 h11 dX5_isDivided_39 ?_
            refine lv_iload hx hb dX5_isDivided_42 (lv_at hl 4 rfl) ?_
            replace hf := bnd hf
            obtain ⟨a12, h13, hf⟩ := hf
            subst h13
            replace hf := bnd hf
            obtain ⟨t14, h15, hf⟩ := hf
            refine r_ald X hW h15 dX5_isDivided_44 ?_
            refine lv_iadd hx hb dX5_isDivided_45 ?_
            refine lv_goto (tgt := 50) hx hb dX5_isDivided_46 (by decide) ?_
            refine lv_ior hx hb dX5_isDivided_50 ?_
            refine lv_istore_n (lv' := [(3, .int (w3_16 ||| (1 + t14))), (0, .ref u0_16), (1, .int u1_16), (2, .int u2_16), (4, .int w4_16)]) hx hb dX5_isDivided_51 rfl hl (by decide) rfl (fun ls hl => ?_)
            refine lv_iinc (v := (w4_16 + 1)) (lv' := [(4, .int (w4_16 + 1)), (3, .int (w3_16 ||| (1 + t14))), (0, .ref u0_16), (1, .int u1_16), (2, .int u2_16)]) hx hb dX5_isDivided_52 hl (k := 4) rfl rfl (by decide) rfl (fun ls hl => ?_)
            refine lv_goto (tgt := 16) hx hb dX5_isDivided_55 (by decide) ?_
            exact ih16 _ _ _ _ _ hf hW (lv_sub hl [2, 3, 4, 1, 0] rfl)
    refine L16 x0 x1 x2 _ ?_ 200 0 0 _ _ _ hf hW (lv_sub hl [2, 3, 4, 1, 0] rfl)
    intro zw3_16 zw4_16 H locs ls hf hW hl
    refine lv_iload_n hx hb dX5_isDivided_58 rfl (lv_at hl 3 rfl) ?_
    refine lv_iconst (v := 3) hx hb dX5_isDivided_59 (by decide) ?_
    refine lv_icmp_ne (tgt := 67) hx hb dX5_isDivided_60 (by decide) (fun hc => ?_) (fun hc => ?_)
    · replace hf := itn hc hf
      refine lv_iconst (v := 0) hx hb dX5_isDivided_67 (by decide) ?_
      exact r_zret X hr hW (Or.inl rfl) (by cases hf; exact ⟨rfl, rfl⟩) (by decide) (by decide) dX5_isDivided_68
    · replace hf := itp hc hf
      refine lv_iconst (v := 1) hx hb dX5_isDivided_63 (by decide) ?_
      refine lv_goto (tgt := 68) hx hb dX5_isDivided_64 (by decide) ?_
      exact r_zret X hr hW (Or.inr rfl) (by cases hf; exact ⟨rfl, rfl⟩) (by decide) (by decide) dX5_isDivided_68
  · replace hf := itn hc hf
    refine lv_iconst (v := 0) hx hb dX5_isDivided_9 (by decide) ?_
    exact r_zret X hr hW (Or.inl rfl) (by cases hf; exact ⟨rfl, rfl⟩) (by decide) (by decide) dX5_isDivided_10

def f_X5_writtenOf (mu : Mem) (x0 : Nat) (x1 : Int32) : Option (Int32) := (getQ mu 7 9 x0).bind fun t1 => t1.bind fun a3 => (ald mu a3 x1).bind fun t5 => (getQ mu 7 1 x0).bind fun t7 => (getQ mu 7 4 x0).bind fun t9 => t9.bind fun a11 => (ald mu a11 x1).bind fun t13 => t7.bind fun a15 => (ald mu a15 t13).bind fun t17 => some (t5 + t17)
set_option maxHeartbeats 1000000 in
set_option maxRecDepth 100000 in
theorem k_X5_writtenOf (l : Launch) (hsl : l.stackTraces = false) (G : GG) (A : Nat → Prop) (mu : Mem) (x0 : Nat) (x1 : Int32) (r : Int32) (hf : f_X5_writtenOf mu x0 x1 = some r) : Ok l yX5_writtenOf wsX5_writtenOf ({ frames := 6, cells := 0, slots := 0, locals := 110 } : Room) [.ref x0, .int x1] G A mu (dP (.inr (rI r)) mu) := by
  refine Ok.start (cc := cX5_writtenOf) (maxL := 2) (ret := (some .int)) rfl (by decide +kernel) hsl (by first | exact Nat.le_of_ble_eq_true rfl | simp [lg_sl, cat_rf, Value.category]) ?_
  intro p e s m args below meth c ls X hr hname hW hl
  have X : BX p l s m args meth c cX5_writtenOf 2 RX5 wsX5_writtenOf G A := X
  have hx := X.1
  have hb := X.2.1
  have hts := X.2.2.2.2.1
  have hl : lv_has ls 2 [(0, .ref x0), (1, .int x1)] := hl
  have hinX5 : ∀ w ∈ wsX50, w ∈ wsX5_writtenOf := by decide +kernel
  have hF19 : (Cond.fieldLink RX5 19 "PartcopyistBenchModel" "partOf" "[I").before args s = true := hts _ (by decide +kernel)
  have hF34 : (Cond.fieldLink RX5 34 "PartcopyistBenchModel" "pitches" "[I").before args s = true := hts _ (by decide +kernel)
  have hF9 : (Cond.fieldLink RX5 9 "PartcopyistBenchModel" "shifts" "[I").before args s = true := hts _ (by decide +kernel)
  unfold f_X5_writtenOf at hf
  refine lv_aload_n hx hb dX5_writtenOf_0 rfl (lv_at hl 0 rfl) ?_
  replace hf := bnd hf
  obtain ⟨t1, h2, hf⟩ := hf
  refine g_7_9 X hW hinX5 hF34 h2 dX5_writtenOf_1 ?_
  refine lv_iload_n hx hb dX5_writtenOf_4 rfl (lv_at hl 1 rfl) ?_
  replace hf := bnd hf
  obtain ⟨a3, h4, hf⟩ := hf
  subst h4
  replace hf := bnd hf
  obtain ⟨t5, h6, hf⟩ := hf
  refine r_ald X hW h6 dX5_writtenOf_5 ?_
  refine lv_aload_n hx hb dX5_writtenOf_6 rfl (lv_at hl 0 rfl) ?_
  replace hf := bnd hf
  obtain ⟨t7, h8, hf⟩ := hf
  refine g_7_1 X hW hinX5 hF9 h8 dX5_writtenOf_7 ?_
  refine lv_aload_n hx hb dX5_writtenOf_10 rfl (lv_at hl 0 rfl) ?_
  replace hf := bnd hf
  obtain ⟨t9, h10, hf⟩ := hf
  refine g_7_4 X hW hinX5 hF19 h10 dX5_writtenOf_11 ?_
  refine lv_iload_n hx hb dX5_writtenOf_14 rfl (lv_at hl 1 rfl) ?_
  replace hf := bnd hf
  obtain ⟨a11, h12, hf⟩ := hf
  subst h12
  replace hf := bnd hf
  obtain ⟨t13, h14, hf⟩ := hf
  refine r_ald X hW h14 dX5_writtenOf_15 ?_
  replace hf := bnd hf
  obtain ⟨a15, h16, hf⟩ := hf
  subst h16
  replace hf := bnd hf
  obtain ⟨t17, h18, hf⟩ := hf
  refine r_ald X hW h18 dX5_writtenOf_16 ?_
  refine lv_iadd hx hb dX5_writtenOf_17 ?_
  exact r_iret X hr hW (by cases hf; exact ⟨rfl, rfl⟩) (by decide) (by decide) dX5_writtenOf_18

def f_X5_written (mu : Mem) (x0 : Nat) (x1 : Int32) : Option ((Int32) × Mem) := (chk mu 7 x0).bind fun _ => bi2 (f_X5_isNone mu x0 x1) (fun (t2 : (Int32)) m4 => if t2 = 0 then ((chk m4 7 x0).bind fun _ => (f_X5_writtenOf m4 x0 x1).bind fun t6 => some (t6, m4)) else (some (0, m4)))
set_option maxHeartbeats 1000000 in
set_option maxRecDepth 100000 in
theorem k_X5_written (l : Launch) (hsl : l.stackTraces = false) (G : GG) (A : Nat → Prop) (mu : Mem) (x0 : Nat) (x1 : Int32) (r : (Int32) × Mem) (hf : f_X5_written mu x0 x1 = some r) : Ok l yX5_written wsX5_written ({ frames := 12, cells := 0, slots := 0, locals := 230 } : Room) [.ref x0, .int x1] G A mu (dP (.inr (rI r.1)) r.2) := by
  refine Ok.start (cc := cX5_written) (maxL := 2) (ret := (some .int)) rfl (by decide +kernel) hsl (by first | exact Nat.le_of_ble_eq_true rfl | simp [lg_sl, cat_rf, Value.category]) ?_
  intro p e s m args below meth c ls X hr hname hW hl
  have X : BX p l s m args meth c cX5_written 2 RX5 wsX5_written G A := X
  have hx := X.1
  have hb := X.2.1
  have hts := X.2.2.2.2.1
  have hl : lv_has ls 2 [(0, .ref x0), (1, .int x1)] := hl
  unfold f_X5_written at hf
  refine lv_aload_n hx hb dX5_written_0 rfl (lv_at hl 0 rfl) ?_
  refine lv_iload_n hx hb dX5_written_1 rfl (lv_at hl 1 rfl) ?_
  replace hf := bnd hf
  obtain ⟨_, h1, hf⟩ := hf
  replace hf := bnd2 hf
  obtain ⟨t2, m4, h3, hf⟩ := hf
  refine r_callV_ok (μ9 := m4) X hW hl.1 (k_X5_isNone l hsl G A mu x0 x1 _ h3) gX5_written_X5_isNone rfl (chk_ok h1) (by decide) rfl (by decide +kernel) (n := 1) rfl (by decide) (Nat.le_of_ble_eq_true rfl) dX5_written_2 rfl rfl (stk := [.int t2]) rfl (fun H locs hW => ?_)
  refine lv_if_eq (tgt := 12) hx hb dX5_written_5 (by decide) (fun hc => ?_) (fun hc => ?_)
  · replace hf := itp hc hf
    refine lv_aload_n hx hb dX5_written_12 rfl (lv_at hl 0 rfl) ?_
    refine lv_iload_n hx hb dX5_written_13 rfl (lv_at hl 1 rfl) ?_
    replace hf := bnd hf
    obtain ⟨_, h5, hf⟩ := hf
    replace hf := bnd hf
    obtain ⟨t6, h7, hf⟩ := hf
    refine r_callV_ok X hW hl.1 (k_X5_writtenOf l hsl G A m4 x0 x1 _ h7) gX5_written_X5_writtenOf rfl (chk_ok h5) (by decide) rfl (by decide +kernel) (n := 1) rfl (by decide) (Nat.le_of_ble_eq_true rfl) dX5_written_14 rfl rfl (stk := [.int t6]) rfl (fun H locs hW => ?_)
    exact r_iret X hr hW (by cases hf; exact ⟨rfl, rfl⟩) (by decide) (by decide) dX5_written_17
  · replace hf := itn hc hf
    refine lv_iconst (v := 0) hx hb dX5_written_8 (by decide) ?_
    refine lv_goto (tgt := 17) hx hb dX5_written_9 (by decide) ?_
    exact r_iret X hr hW (by cases hf; exact ⟨rfl, rfl⟩) (by decide) (by decide) dX5_written_17

def f_X5_keyOf (mu : Mem) (x0 : Nat) (x1 : Int32) (x2 : Int32) : Option (Int32) := (getQ mu 7 3 x0).bind fun t1 => t1.bind fun a3 => (ald mu a3 x2).bind fun t5 => (getQ mu 7 1 x0).bind fun t7 => t7.bind fun a9 => (ald mu a9 x1).bind fun t11 => (f_X5_rest mu ((t5 + (7 * t11)) + 5) 12).bind fun t13 => some (t13 - 5)
set_option maxHeartbeats 1000000 in
set_option maxRecDepth 100000 in
theorem k_X5_keyOf (l : Launch) (hsl : l.stackTraces = false) (G : GG) (A : Nat → Prop) (mu : Mem) (x0 : Nat) (x1 : Int32) (x2 : Int32) (r : Int32) (hf : f_X5_keyOf mu x0 x1 x2 = some r) : Ok l yX5_keyOf wsX5_keyOf ({ frames := 8, cells := 0, slots := 0, locals := 150 } : Room) [.ref x0, .int x1, .int x2] G A mu (dP (.inr (rI r)) mu) := by
  refine Ok.start (cc := cX5_keyOf) (maxL := 3) (ret := (some .int)) rfl (by decide +kernel) hsl (by first | exact Nat.le_of_ble_eq_true rfl | simp [lg_sl, cat_rf, Value.category]) ?_
  intro p e s m args below meth c ls X hr hname hW hl
  have X : BX p l s m args meth c cX5_keyOf 3 RX5 wsX5_keyOf G A := X
  have hx := X.1
  have hb := X.2.1
  have hts := X.2.2.2.2.1
  have hl : lv_has ls 3 [(0, .ref x0), (1, .int x1), (2, .int x2)] := hl
  have hinX5 : ∀ w ∈ wsX50, w ∈ wsX5_keyOf := by decide +kernel
  have hF16 : (Cond.fieldLink RX5 16 "PartcopyistBenchModel" "keys" "[I").before args s = true := hts _ (by decide +kernel)
  have hF9 : (Cond.fieldLink RX5 9 "PartcopyistBenchModel" "shifts" "[I").before args s = true := hts _ (by decide +kernel)
  unfold f_X5_keyOf at hf
  refine lv_aload_n hx hb dX5_keyOf_0 rfl (lv_at hl 0 rfl) ?_
  replace hf := bnd hf
  obtain ⟨t1, h2, hf⟩ := hf
  refine g_7_3 X hW hinX5 hF16 h2 dX5_keyOf_1 ?_
  refine lv_iload_n hx hb dX5_keyOf_4 rfl (lv_at hl 2 rfl) ?_
  replace hf := bnd hf
  obtain ⟨a3, h4, hf⟩ := hf
  subst h4
  replace hf := bnd hf
  obtain ⟨t5, h6, hf⟩ := hf
  refine r_ald X hW h6 dX5_keyOf_5 ?_
  refine lv_bipush (v := 7) hx hb dX5_keyOf_6 (by decide) ?_
  refine lv_aload_n hx hb dX5_keyOf_8 rfl (lv_at hl 0 rfl) ?_
  replace hf := bnd hf
  obtain ⟨t7, h8, hf⟩ := hf
  refine g_7_1 X hW hinX5 hF9 h8 dX5_keyOf_9 ?_
  refine lv_iload_n hx hb dX5_keyOf_12 rfl (lv_at hl 1 rfl) ?_
  replace hf := bnd hf
  obtain ⟨a9, h10, hf⟩ := hf
  subst h10
  replace hf := bnd hf
  obtain ⟨t11, h12, hf⟩ := hf
  refine r_ald X hW h12 dX5_keyOf_13 ?_
  refine lv_imul hx hb dX5_keyOf_14 ?_
  refine lv_iadd hx hb dX5_keyOf_15 ?_
  refine lv_iconst (v := 5) hx hb dX5_keyOf_16 (by decide) ?_
  refine lv_iadd hx hb dX5_keyOf_17 ?_
  refine lv_bipush (v := 12) hx hb dX5_keyOf_18 (by decide) ?_
  replace hf := bnd hf
  obtain ⟨t13, h14, hf⟩ := hf
  refine r_callS_ok X hW hl.1 (k_X5_rest l hsl G A mu ((t5 + (7 * t11)) + 5) 12 _ h14) gX5_keyOf_X5_rest rfl (by decide +kernel) (n := 2) rfl (by decide) (Nat.le_of_ble_eq_true rfl) dX5_keyOf_20 rfl rfl (stk := [.int t13]) rfl (fun H locs hW => ?_)
  refine lv_iconst (v := 5) hx hb dX5_keyOf_23 (by decide) ?_
  refine lv_isub hx hb dX5_keyOf_24 ?_
  exact r_iret X hr hW (by cases hf; exact ⟨rfl, rfl⟩) (by decide) (by decide) dX5_keyOf_25

def f_X5_writtenKey (mu : Mem) (x0 : Nat) (x1 : Int32) (x2 : Int32) : Option ((Int32) × Mem) := (chk mu 7 x0).bind fun _ => bi2 (f_X5_isNowhere mu x0 x1 x2) (fun (t2 : (Int32)) m4 => if t2 = 0 then ((chk m4 7 x0).bind fun _ => (f_X5_keyOf m4 x0 x1 x2).bind fun t6 => some (t6, m4)) else (some (0, m4)))
set_option maxHeartbeats 1000000 in
set_option maxRecDepth 100000 in
theorem k_X5_writtenKey (l : Launch) (hsl : l.stackTraces = false) (G : GG) (A : Nat → Prop) (mu : Mem) (x0 : Nat) (x1 : Int32) (x2 : Int32) (r : (Int32) × Mem) (hf : f_X5_writtenKey mu x0 x1 x2 = some r) : Ok l yX5_writtenKey wsX5_writtenKey ({ frames := 12, cells := 0, slots := 0, locals := 230 } : Room) [.ref x0, .int x1, .int x2] G A mu (dP (.inr (rI r.1)) r.2) := by
  refine Ok.start (cc := cX5_writtenKey) (maxL := 3) (ret := (some .int)) rfl (by decide +kernel) hsl (by first | exact Nat.le_of_ble_eq_true rfl | simp [lg_sl, cat_rf, Value.category]) ?_
  intro p e s m args below meth c ls X hr hname hW hl
  have X : BX p l s m args meth c cX5_writtenKey 3 RX5 wsX5_writtenKey G A := X
  have hx := X.1
  have hb := X.2.1
  have hts := X.2.2.2.2.1
  have hl : lv_has ls 3 [(0, .ref x0), (1, .int x1), (2, .int x2)] := hl
  unfold f_X5_writtenKey at hf
  refine lv_aload_n hx hb dX5_writtenKey_0 rfl (lv_at hl 0 rfl) ?_
  refine lv_iload_n hx hb dX5_writtenKey_1 rfl (lv_at hl 1 rfl) ?_
  refine lv_iload_n hx hb dX5_writtenKey_2 rfl (lv_at hl 2 rfl) ?_
  replace hf := bnd hf
  obtain ⟨_, h1, hf⟩ := hf
  replace hf := bnd2 hf
  obtain ⟨t2, m4, h3, hf⟩ := hf
  refine r_callV_ok (μ9 := m4) X hW hl.1 (k_X5_isNowhere l hsl G A mu x0 x1 x2 _ h3) gX5_writtenKey_X5_isNowhere rfl (chk_ok h1) (by decide) rfl (by decide +kernel) (n := 2) rfl (by decide) (Nat.le_of_ble_eq_true rfl) dX5_writtenKey_3 rfl rfl (stk := [.int t2]) rfl (fun H locs hW => ?_)
  refine lv_if_eq (tgt := 13) hx hb dX5_writtenKey_6 (by decide) (fun hc => ?_) (fun hc => ?_)
  · replace hf := itp hc hf
    refine lv_aload_n hx hb dX5_writtenKey_13 rfl (lv_at hl 0 rfl) ?_
    refine lv_iload_n hx hb dX5_writtenKey_14 rfl (lv_at hl 1 rfl) ?_
    refine lv_iload_n hx hb dX5_writtenKey_15 rfl (lv_at hl 2 rfl) ?_
    replace hf := bnd hf
    obtain ⟨_, h5, hf⟩ := hf
    replace hf := bnd hf
    obtain ⟨t6, h7, hf⟩ := hf
    refine r_callV_ok X hW hl.1 (k_X5_keyOf l hsl G A m4 x0 x1 x2 _ h7) gX5_writtenKey_X5_keyOf rfl (chk_ok h5) (by decide) rfl (by decide +kernel) (n := 2) rfl (by decide) (Nat.le_of_ble_eq_true rfl) dX5_writtenKey_16 rfl rfl (stk := [.int t6]) rfl (fun H locs hW => ?_)
    exact r_iret X hr hW (by cases hf; exact ⟨rfl, rfl⟩) (by decide) (by decide) dX5_writtenKey_19
  · replace hf := itn hc hf
    refine lv_iconst (v := 0) hx hb dX5_writtenKey_9 (by decide) ?_
    refine lv_goto (tgt := 19) hx hb dX5_writtenKey_10 (by decide) ?_
    exact r_iret X hr hW (by cases hf; exact ⟨rfl, rfl⟩) (by decide) (by decide) dX5_writtenKey_19

def f_X5_placeOf_L19 (mu : Mem) (u0_19 : Nat) (u1_19 : Int32) (k9 : Int32 → Option (Int32)) : Nat → Int32 → Option (Int32)
  | 0, _ => none
  | n + 1, w2_19 => (f_X5_rest mu (7 * w2_19) 12).bind fun t16 => (chk mu 7 u0_19).bind fun _ => (f_X5_writtenOf mu u0_19 u1_19).bind fun t19 => (f_X5_rest mu t19 12).bind fun t21 => if t16 = t21 then (k9 w2_19) else (f_X5_placeOf_L19 mu u0_19 u1_19 k9 n (w2_19 + 1))
def f_X5_placeOf (mu : Mem) (x0 : Nat) (x1 : Int32) : Option (Int32) := (getQ mu 7 4 x0).bind fun t1 => t1.bind fun a3 => (ald mu a3 x1).bind fun t5 => (getQ mu 7 5 x0).bind fun t7 => t7.bind fun a9 => (ald mu a9 x1).bind fun t11 => (chk mu 7 x0).bind fun _ => (f_X5_keyOf mu x0 t5 t11).bind fun t14 => f_X5_placeOf_L19 mu x0 x1 (fun (zw2_19 : Int32) => some zw2_19) 200 (t14 - 4)
set_option maxHeartbeats 1000000 in
set_option maxRecDepth 100000 in
theorem k_X5_placeOf (l : Launch) (hsl : l.stackTraces = false) (G : GG) (A : Nat → Prop) (mu : Mem) (x0 : Nat) (x1 : Int32) (r : Int32) (hf : f_X5_placeOf mu x0 x1 = some r) : Ok l yX5_placeOf wsX5_placeOf ({ frames := 10, cells := 0, slots := 0, locals := 190 } : Room) [.ref x0, .int x1] G A mu (dP (.inr (rI r)) mu) := by
  refine Ok.start (cc := cX5_placeOf) (maxL := 3) (ret := (some .int)) rfl (by decide +kernel) hsl (by first | exact Nat.le_of_ble_eq_true rfl | simp [lg_sl, cat_rf, Value.category]) ?_
  intro p e s m args below meth c ls X hr hname hW hl
  have X : BX p l s m args meth c cX5_placeOf 3 RX5 wsX5_placeOf G A := X
  have hx := X.1
  have hb := X.2.1
  have hts := X.2.2.2.2.1
  have hl : lv_has ls 3 [(0, .ref x0), (1, .int x1)] := hl
  have hinX5 : ∀ w ∈ wsX50, w ∈ wsX5_placeOf := by decide +kernel
  have hF19 : (Cond.fieldLink RX5 19 "PartcopyistBenchModel" "partOf" "[I").before args s = true := hts _ (by decide +kernel)
  have hF22 : (Cond.fieldLink RX5 22 "PartcopyistBenchModel" "barOf" "[I").before args s = true := hts _ (by decide +kernel)
  unfold f_X5_placeOf at hf
  refine lv_aload_n hx hb dX5_placeOf_0 rfl (lv_at hl 0 rfl) ?_
  refine lv_aload_n hx hb dX5_placeOf_1 rfl (lv_at hl 0 rfl) ?_
  replace hf := bnd hf
  obtain ⟨t1, h2, hf⟩ := hf
  refine g_7_4 X hW hinX5 hF19 h2 dX5_placeOf_2 ?_
  refine lv_iload_n hx hb dX5_placeOf_5 rfl (lv_at hl 1 rfl) ?_
  replace hf := bnd hf
  obtain ⟨a3, h4, hf⟩ := hf
  subst h4
  replace hf := bnd hf
  obtain ⟨t5, h6, hf⟩ := hf
  refine r_ald X hW h6 dX5_placeOf_6 ?_
  refine lv_aload_n hx hb dX5_placeOf_7 rfl (lv_at hl 0 rfl) ?_
  replace hf := bnd hf
  obtain ⟨t7, h8, hf⟩ := hf
  refine g_7_5 X hW hinX5 hF22 h8 dX5_placeOf_8 ?_
  refine lv_iload_n hx hb dX5_placeOf_11 rfl (lv_at hl 1 rfl) ?_
  replace hf := bnd hf
  obtain ⟨a9, h10, hf⟩ := hf
  subst h10
  replace hf := bnd hf
  obtain ⟨t11, h12, hf⟩ := hf
  refine r_ald X hW h12 dX5_placeOf_12 ?_
  replace hf := bnd hf
  obtain ⟨_, h13, hf⟩ := hf
  replace hf := bnd hf
  obtain ⟨t14, h15, hf⟩ := hf
  refine r_callV_ok X hW hl.1 (k_X5_keyOf l hsl G A mu x0 t5 t11 _ h15) gX5_placeOf_X5_keyOf rfl (chk_ok h13) (by decide) rfl (by decide +kernel) (n := 2) rfl (by decide) (Nat.le_of_ble_eq_true rfl) dX5_placeOf_13 rfl rfl (stk := [.int t14]) rfl (fun H locs hW => ?_)
  refine lv_iconst (v := 4) hx hb dX5_placeOf_16 (by decide) ?_
  refine lv_isub hx hb dX5_placeOf_17 ?_
  refine lv_istore_n (lv' := [(2, .int (t14 - 4)), (0, .ref x0), (1, .int x1)]) hx hb dX5_placeOf_18 rfl hl (by decide) rfl (fun ls hl => ?_)
  have L19 : ∀ (u0_19 : Nat) (u1_19 : Int32) (k9 : Int32 → Option (Int32)),
      (∀ (w2_19 : Int32) (H : Heap) (locs : List Loc) (ls : Array Slot), k9 w2_19 = some r → MW G A mu s.heap H locs → lv_has ls 3 [(0, .ref u0_19), (1, .int u1_19), (2, .int w2_19)] → W p l e ({ frames := 10, cells := 0, slots := 0, locals := 190 } : Room) s m args below meth c H locs 0 0 (QQ below G A (dP (.inr (rI r)) mu) args s 0 0) (F0 m 47 ls [])) →
      ∀ (n : Nat) (w2_19 : Int32) (H : Heap) (locs : List Loc) (ls : Array Slot), f_X5_placeOf_L19 mu u0_19 u1_19 k9 n w2_19 = some r → MW G A mu s.heap H locs → lv_has ls 3 [(0, .ref u0_19), (1, .int u1_19), (2, .int w2_19)] → W p l e ({ frames := 10, cells := 0, slots := 0, locals := 190 } : Room) s m args below meth c H locs 0 0 (QQ below G A (dP (.inr (rI r)) mu) args s 0 0) (F0 m 19 ls []) := by
    intro u0_19 u1_19 k9 hk19 n
    induction n with
    | zero => intro w2_19 H locs ls hf hW hl; rw [f_X5_placeOf_L19] at hf; cases hf
    | succ n ih19 =>
      intro w2_19 H locs ls hf hW hl
      rw [f_X5_placeOf_L19] at hf
      refine lv_bipush (v := 7) hx hb dX5_placeOf_19 (by decide) ?_
      refine lv_iload_n hx hb dX5_placeOf_21 rfl (lv_at hl 2 rfl) ?_
      refine lv_imul hx hb dX5_placeOf_22 ?_
      refine lv_bipush (v := 12) hx hb dX5_placeOf_23 (by decide) ?_
      replace hf := bnd hf
      obtain ⟨t16, h17, hf⟩ := hf
      refine r_callS_ok X hW hl.1 (k_X5_rest l hsl G A mu (7 * w2_19) 12 _ h17) gX5_placeOf_X5_rest rfl (by decide +kernel) (n := 2) rfl (by decide) (Nat.le_of_ble_eq_true rfl) dX5_placeOf_25 rfl rfl (stk := [.int t16]) rfl (fun H locs hW => ?_)
      refine lv_aload_n hx hb dX5_placeOf_28 rfl (lv_at hl 0 rfl) ?_
      refine lv_iload_n hx hb dX5_placeOf_29 rfl (lv_at hl 1 rfl) ?_
      replace hf := bnd hf
      obtain ⟨_, h18, hf⟩ := hf
      replace hf := bnd hf
      obtain ⟨t19, h20, hf⟩ := hf
      refine r_callV_ok X hW hl.1 (k_X5_writtenOf l hsl G A mu u0_19 u1_19 _ h20) gX5_placeOf_X5_writtenOf rfl (chk_ok h18) (by decide) rfl (by decide +kernel) (n := 1) rfl (by decide) (Nat.le_of_ble_eq_true rfl) dX5_placeOf_30 rfl rfl (stk := [.int t19, .int t16]) rfl (fun H locs hW => ?_)
      refine lv_bipush (v := 12) hx hb dX5_placeOf_33 (by decide) ?_
      replace hf := bnd hf
      obtain ⟨t21, h22, hf⟩ := hf
      refine r_callS_ok X hW hl.1 (k_X5_rest l hsl G A mu t19 12 _ h22) gX5_placeOf_X5_rest rfl (by decide +kernel) (n := 2) rfl (by decide) (Nat.le_of_ble_eq_true rfl) dX5_placeOf_35 rfl rfl (stk := [.int t21, .int t16]) rfl (fun H locs hW => ?_)
      refine lv_icmp_eq (tgt := 47) hx hb dX5_placeOf_38 (by decide) (fun hc => ?_) (fun hc => ?_)
      · replace hf := itp hc hf
        exact hk19 _ _ _ _ hf hW (lv_sub hl [0, 1, 2] rfl)
      · replace hf := itn hc hf
        refine lv_iinc (v := (w2_19 + 1)) (lv' := [(2, .int (w2_19 + 1)), (0, .ref u0_19), (1, .int u1_19)]) hx hb dX5_placeOf_41 hl (k := 2) rfl rfl (by decide) rfl (fun ls hl => ?_)
        refine lv_goto (tgt := 19) hx hb dX5_placeOf_44 (by decide) ?_
        exact ih19 _ _ _ _ hf hW (lv_sub hl [1, 2, 0] rfl)
  refine L19 x0 x1 _ ?_ 200 (t14 - 4) _ _ _ hf hW (lv_sub hl [1, 2, 0] rfl)
  intro zw2_19 H locs ls hf hW hl
  refine lv_iload_n hx hb dX5_placeOf_47 rfl (lv_at hl 2 rfl) ?_
  exact r_iret X hr hW (by cases hf; exact ⟨rfl, rfl⟩) (by decide) (by decide) dX5_placeOf_48

def f_X5_accidentalOf (mu : Mem) (x0 : Nat) (x1 : Int32) : Option ((Int32) × Mem) := (chk mu 7 x0).bind fun _ => bi2 (f_X5_isNone mu x0 x1) (fun (t2 : (Int32)) m4 => if t2 = 0 then ((chk m4 7 x0).bind fun _ => (f_X5_placeOf m4 x0 x1).bind fun t6 => (f_X5_rest m4 (t6 + 1) 7).bind fun t8 => some ((((t6 + 1) - t8) / 7), m4)) else (some (0, m4)))
set_option maxHeartbeats 1000000 in
set_option maxRecDepth 100000 in
theorem k_X5_accidentalOf (l : Launch) (hsl : l.stackTraces = false) (G : GG) (A : Nat → Prop) (mu : Mem) (x0 : Nat) (x1 : Int32) (r : (Int32) × Mem) (hf : f_X5_accidentalOf mu x0 x1 = some r) : Ok l yX5_accidentalOf wsX5_accidentalOf ({ frames := 12, cells := 0, slots := 0, locals := 230 } : Room) [.ref x0, .int x1] G A mu (dP (.inr (rI r.1)) r.2) := by
  refine Ok.start (cc := cX5_accidentalOf) (maxL := 3) (ret := (some .int)) rfl (by decide +kernel) hsl (by first | exact Nat.le_of_ble_eq_true rfl | simp [lg_sl, cat_rf, Value.category]) ?_
  intro p e s m args below meth c ls X hr hname hW hl
  have X : BX p l s m args meth c cX5_accidentalOf 3 RX5 wsX5_accidentalOf G A := X
  have hx := X.1
  have hb := X.2.1
  have hts := X.2.2.2.2.1
  have hl : lv_has ls 3 [(0, .ref x0), (1, .int x1)] := hl
  unfold f_X5_accidentalOf at hf
  refine lv_aload_n hx hb dX5_accidentalOf_0 rfl (lv_at hl 0 rfl) ?_
  refine lv_iload_n hx hb dX5_accidentalOf_1 rfl (lv_at hl 1 rfl) ?_
  replace hf := bnd hf
  obtain ⟨_, h1, hf⟩ := hf
  replace hf := bnd2 hf
  obtain ⟨t2, m4, h3, hf⟩ := hf
  refine r_callV_ok (μ9 := m4) X hW hl.1 (k_X5_isNone l hsl G A mu x0 x1 _ h3) gX5_accidentalOf_X5_isNone rfl (chk_ok h1) (by decide) rfl (by decide +kernel) (n := 1) rfl (by decide) (Nat.le_of_ble_eq_true rfl) dX5_accidentalOf_2 rfl rfl (stk := [.int t2]) rfl (fun H locs hW => ?_)
  refine lv_if_eq (tgt := 10) hx hb dX5_accidentalOf_5 (by decide) (fun hc => ?_) (fun hc => ?_)
  · replace hf := itp hc hf
    refine lv_aload_n hx hb dX5_accidentalOf_10 rfl (lv_at hl 0 rfl) ?_
    refine lv_iload_n hx hb dX5_accidentalOf_11 rfl (lv_at hl 1 rfl) ?_
    replace hf := bnd hf
    obtain ⟨_, h5, hf⟩ := hf
    replace hf := bnd hf
    obtain ⟨t6, h7, hf⟩ := hf
    refine r_callV_ok X hW hl.1 (k_X5_placeOf l hsl G A m4 x0 x1 _ h7) gX5_accidentalOf_X5_placeOf rfl (chk_ok h5) (by decide) rfl (by decide +kernel) (n := 1) rfl (by decide) (Nat.le_of_ble_eq_true rfl) dX5_accidentalOf_12 rfl rfl (stk := [.int t6]) rfl (fun H locs hW => ?_)
    refine lv_iconst (v := 1) hx hb dX5_accidentalOf_15 (by decide) ?_
    refine lv_iadd hx hb dX5_accidentalOf_16 ?_
    refine lv_istore_n (lv' := [(2, .int (t6 + 1)), (0, .ref x0), (1, .int x1)]) hx hb dX5_accidentalOf_17 rfl hl (by decide) rfl (fun ls hl => ?_)
    refine lv_iload_n hx hb dX5_accidentalOf_18 rfl (lv_at hl 0 rfl) ?_
    refine lv_iload_n hx hb dX5_accidentalOf_19 rfl (lv_at hl 0 rfl) ?_
    refine lv_bipush (v := 7) hx hb dX5_accidentalOf_20 (by decide) ?_
    replace hf := bnd hf
    obtain ⟨t8, h9, hf⟩ := hf
    refine r_callS_ok X hW hl.1 (k_X5_rest l hsl G A m4 (t6 + 1) 7 _ h9) gX5_accidentalOf_X5_rest rfl (by decide +kernel) (n := 2) rfl (by decide) (Nat.le_of_ble_eq_true rfl) dX5_accidentalOf_22 rfl rfl (stk := [.int t8, .int (t6 + 1)]) rfl (fun H locs hW => ?_)
    refine lv_isub hx hb dX5_accidentalOf_25 ?_
    refine lv_bipush (v := 7) hx hb dX5_accidentalOf_26 (by decide) ?_
    refine lv_idiv hx hb dX5_accidentalOf_28 (by decide) ?_
    exact r_iret X hr hW (by cases hf; exact ⟨rfl, rfl⟩) (by decide) (by decide) dX5_accidentalOf_29
  · replace hf := itn hc hf
    refine lv_iconst (v := 0) hx hb dX5_accidentalOf_8 (by decide) ?_
    exact r_iret X hr hW (by cases hf; exact ⟨rfl, rfl⟩) (by decide) (by decide) dX5_accidentalOf_9

def f_X5_lastBar (mu : Mem) (x0 : Nat) (x1 : Int32) : Option (Int32) := (getQ mu 7 21 x0).bind fun t1 => t1.bind fun a3 => (ald mu a3 x1).bind fun t5 => (getQ mu 7 22 x0).bind fun t7 => t7.bind fun a9 => (ald mu a9 x1).bind fun t11 => some (t5 + (if 0 < (t11 - 1) then (t11 - 1) else 0))
set_option maxHeartbeats 1000000 in
set_option maxRecDepth 100000 in
theorem k_X5_lastBar (l : Launch) (hsl : l.stackTraces = false) (G : GG) (A : Nat → Prop) (mu : Mem) (x0 : Nat) (x1 : Int32) (r : Int32) (hf : f_X5_lastBar mu x0 x1 = some r) : Ok l yX5_lastBar wsX5_lastBar ({ frames := 6, cells := 0, slots := 0, locals := 110 } : Room) [.ref x0, .int x1] G A mu (dP (.inr (rI r)) mu) := by
  refine Ok.start (cc := cX5_lastBar) (maxL := 2) (ret := (some .int)) rfl (by decide +kernel) hsl (by first | exact Nat.le_of_ble_eq_true rfl | simp [lg_sl, cat_rf, Value.category]) ?_
  intro p e s m args below meth c ls X hr hname hW hl
  have X : BX p l s m args meth c cX5_lastBar 2 RX5 wsX5_lastBar G A := X
  have hx := X.1
  have hb := X.2.1
  have hts := X.2.2.2.2.1
  have hl : lv_has ls 2 [(0, .ref x0), (1, .int x1)] := hl
  have hinX5 : ∀ w ∈ wsX50, w ∈ wsX5_lastBar := by decide +kernel
  have hMc_max : (Cond.code Lib.Math.max.name Lib.Math.max.code 2 (some .int)).before args s = true := hts _ (by decide +kernel)
  have hMi : (Cond.initialized "java/lang/Math").before args s = true := hts _ (by decide +kernel)
  have hMl_max : (Cond.methodLink RX5 162 Lib.Math.max.name).before args s = true := hts _ (by decide +kernel)
  have hMs_max : (Cond.static Lib.Math.max.name).before args s = true := hts _ (by decide +kernel)
  have hF63 : (Cond.fieldLink RX5 63 "PartcopyistBenchModel" "blockFirst" "[I").before args s = true := hts _ (by decide +kernel)
  have hF66 : (Cond.fieldLink RX5 66 "PartcopyistBenchModel" "blockRest" "[I").before args s = true := hts _ (by decide +kernel)
  unfold f_X5_lastBar at hf
  refine lv_aload_n hx hb dX5_lastBar_0 rfl (lv_at hl 0 rfl) ?_
  replace hf := bnd hf
  obtain ⟨t1, h2, hf⟩ := hf
  refine g_7_21 X hW hinX5 hF63 h2 dX5_lastBar_1 ?_
  refine lv_iload_n hx hb dX5_lastBar_4 rfl (lv_at hl 1 rfl) ?_
  replace hf := bnd hf
  obtain ⟨a3, h4, hf⟩ := hf
  subst h4
  replace hf := bnd hf
  obtain ⟨t5, h6, hf⟩ := hf
  refine r_ald X hW h6 dX5_lastBar_5 ?_
  refine lv_iconst (v := 0) hx hb dX5_lastBar_6 (by decide) ?_
  refine lv_aload_n hx hb dX5_lastBar_7 rfl (lv_at hl 0 rfl) ?_
  replace hf := bnd hf
  obtain ⟨t7, h8, hf⟩ := hf
  refine g_7_22 X hW hinX5 hF66 h8 dX5_lastBar_8 ?_
  refine lv_iload_n hx hb dX5_lastBar_11 rfl (lv_at hl 1 rfl) ?_
  replace hf := bnd hf
  obtain ⟨a9, h10, hf⟩ := hf
  subst h10
  replace hf := bnd hf
  obtain ⟨t11, h12, hf⟩ := hf
  refine r_ald X hW h12 dX5_lastBar_12 ?_
  refine lv_iconst (v := 1) hx hb dX5_lastBar_13 (by decide) ?_
  refine lv_isub hx hb dX5_lastBar_14 ?_
  refine va_mmax hx hb (X.2.2.1.trans hl.1.symm) X.2.2.2.1 hMl_max hMs_max hMi hMc_max (by decide) (Nat.le_of_ble_eq_true rfl) (by decide) (by decide) dX5_lastBar_15 ?_
  refine lv_iadd hx hb dX5_lastBar_18 ?_
  exact r_iret X hr hW (by cases hf; exact ⟨rfl, rfl⟩) (by decide) (by decide) dX5_lastBar_19

def f_X5_isNoPart (mu : Mem) (x0 : Nat) (x1 : Int32) : Option ((Int32) × Mem) := (chk mu 7 x0).bind fun _ => (f_X5_isPart mu x0 x1).bind fun t2 => if t2 = 0 then ((putI mu 7 0 x0 1).bind fun m4 => (getI m4 7 0 x0).bind fun t6 => if t6 ≤ 0 then (some (0, m4)) else (some (1, m4))) else ((putI mu 7 0 x0 0).bind fun m8 => (getI m8 7 0 x0).bind fun t10 => if t10 ≤ 0 then (some (0, m8)) else (some (1, m8)))
set_option maxHeartbeats 1000000 in
set_option maxRecDepth 100000 in
theorem k_X5_isNoPart (l : Launch) (hsl : l.stackTraces = false) (G : GG) (A : Nat → Prop) (mu : Mem) (x0 : Nat) (x1 : Int32) (r : (Int32) × Mem) (hf : f_X5_isNoPart mu x0 x1 = some r) : Ok l yX5_isNoPart wsX5_isNoPart ({ frames := 10, cells := 0, slots := 0, locals := 190 } : Room) [.ref x0, .int x1] G A mu (dP (.inr (rI r.1)) r.2) := by
  refine Ok.start (cc := cX5_isNoPart) (maxL := 2) (ret := (some .boolean)) rfl (by decide +kernel) hsl (by first | exact Nat.le_of_ble_eq_true rfl | simp [lg_sl, cat_rf, Value.category]) ?_
  intro p e s m args below meth c ls X hr hname hW hl
  have X : BX p l s m args meth c cX5_isNoPart 2 RX5 wsX5_isNoPart G A := X
  have hx := X.1
  have hb := X.2.1
  have hts := X.2.2.2.2.1
  have hl : lv_has ls 2 [(0, .ref x0), (1, .int x1)] := hl
  have hinX5 : ∀ w ∈ wsX50, w ∈ wsX5_isNoPart := by decide +kernel
  have hF78 : (Cond.fieldLink RX5 78 "PartcopyistBenchModel" "thrown" "I").before args s = true := hts _ (by decide +kernel)
  unfold f_X5_isNoPart at hf
  refine lv_aload_n hx hb dX5_isNoPart_0 rfl (lv_at hl 0 rfl) ?_
  refine lv_aload_n hx hb dX5_isNoPart_1 rfl (lv_at hl 0 rfl) ?_
  refine lv_iload_n hx hb dX5_isNoPart_2 rfl (lv_at hl 1 rfl) ?_
  replace hf := bnd hf
  obtain ⟨_, h1, hf⟩ := hf
  replace hf := bnd hf
  obtain ⟨t2, h3, hf⟩ := hf
  refine r_callV_ok X hW hl.1 (k_X5_isPart l hsl G A mu x0 x1 _ h3) gX5_isNoPart_X5_isPart rfl (chk_ok h1) (by decide) rfl (by decide +kernel) (n := 1) rfl (by decide) (Nat.le_of_ble_eq_true rfl) dX5_isNoPart_3 rfl rfl (stk := [.int t2, .ref x0]) rfl (fun H locs hW => ?_)
  refine lv_if_eq (tgt := 13) hx hb dX5_isNoPart_6 (by decide) (fun hc => ?_) (fun hc => ?_)
  · replace hf := itp hc hf
    refine lv_iconst (v := 1) hx hb dX5_isNoPart_13 (by decide) ?_
    replace hf := bnd hf
    obtain ⟨m4, h5, hf⟩ := hf
    refine p_7_0 X hW hinX5 hF78 h5 dX5_isNoPart_14 (fun H locs hW => ?_)
    refine lv_aload_n hx hb dX5_isNoPart_17 rfl (lv_at hl 0 rfl) ?_
    replace hf := bnd hf
    obtain ⟨t6, h7, hf⟩ := hf
    refine g_7_0 X hW hinX5 hF78 h7 dX5_isNoPart_18 ?_
    refine lv_if_le (tgt := 28) hx hb dX5_isNoPart_21 (by decide) (fun hc => ?_) (fun hc => ?_)
    · replace hf := itp hc hf
      refine lv_iconst (v := 0) hx hb dX5_isNoPart_28 (by decide) ?_
      exact r_zret X hr hW (Or.inl rfl) (by cases hf; exact ⟨rfl, rfl⟩) (by decide) (by decide) dX5_isNoPart_29
    · replace hf := itn hc hf
      refine lv_iconst (v := 1) hx hb dX5_isNoPart_24 (by decide) ?_
      refine lv_goto (tgt := 29) hx hb dX5_isNoPart_25 (by decide) ?_
      exact r_zret X hr hW (Or.inr rfl) (by cases hf; exact ⟨rfl, rfl⟩) (by decide) (by decide) dX5_isNoPart_29
  · replace hf := itn hc hf
    refine lv_iconst (v := 0) hx hb dX5_isNoPart_9 (by decide) ?_
    refine lv_goto (tgt := 14) hx hb dX5_isNoPart_10 (by decide) ?_
    replace hf := bnd hf
    obtain ⟨m8, h9, hf⟩ := hf
    refine p_7_0 X hW hinX5 hF78 h9 dX5_isNoPart_14 (fun H locs hW => ?_)
    refine lv_aload_n hx hb dX5_isNoPart_17 rfl (lv_at hl 0 rfl) ?_
    replace hf := bnd hf
    obtain ⟨t10, h11, hf⟩ := hf
    refine g_7_0 X hW hinX5 hF78 h11 dX5_isNoPart_18 ?_
    refine lv_if_le (tgt := 28) hx hb dX5_isNoPart_21 (by decide) (fun hc => ?_) (fun hc => ?_)
    · replace hf := itp hc hf
      refine lv_iconst (v := 0) hx hb dX5_isNoPart_28 (by decide) ?_
      exact r_zret X hr hW (Or.inl rfl) (by cases hf; exact ⟨rfl, rfl⟩) (by decide) (by decide) dX5_isNoPart_29
    · replace hf := itn hc hf
      refine lv_iconst (v := 1) hx hb dX5_isNoPart_24 (by decide) ?_
      refine lv_goto (tgt := 29) hx hb dX5_isNoPart_25 (by decide) ?_
      exact r_zret X hr hW (Or.inr rfl) (by cases hf; exact ⟨rfl, rfl⟩) (by decide) (by decide) dX5_isNoPart_29

def f_X5_setPage (mu : Mem) (x0 : Nat) (x1 : Int32) : Option ((Int32) × Mem) := (putI mu 7 0 x0 0).bind fun m1 => (f_X5_isBetween m1 x1 1 60).bind fun t3 => if t3 = 0 then ((chk m1 7 x0).bind fun _ => bi2 (f_X5_fails m1 x0 1) (fun (t10 : (Int32)) m12 => some (t10, m12))) else ((getI m1 7 18 x0).bind fun t5 => (putI m1 7 18 x0 x1).bind fun m7 => some (t5, m7))
set_option maxHeartbeats 1000000 in
set_option maxRecDepth 100000 in
theorem k_X5_setPage (l : Launch) (hsl : l.stackTraces = false) (G : GG) (A : Nat → Prop) (mu : Mem) (x0 : Nat) (x1 : Int32) (r : (Int32) × Mem) (hf : f_X5_setPage mu x0 x1 = some r) : Ok l yX5_setPage wsX5_setPage ({ frames := 8, cells := 0, slots := 0, locals := 150 } : Room) [.ref x0, .int x1] G A mu (dP (.inr (rI r.1)) r.2) := by
  refine Ok.start (cc := cX5_setPage) (maxL := 3) (ret := (some .int)) rfl (by decide +kernel) hsl (by first | exact Nat.le_of_ble_eq_true rfl | simp [lg_sl, cat_rf, Value.category]) ?_
  intro p e s m args below meth c ls X hr hname hW hl
  have X : BX p l s m args meth c cX5_setPage 3 RX5 wsX5_setPage G A := X
  have hx := X.1
  have hb := X.2.1
  have hts := X.2.2.2.2.1
  have hl : lv_has ls 3 [(0, .ref x0), (1, .int x1)] := hl
  have hinX5 : ∀ w ∈ wsX50, w ∈ wsX5_setPage := by decide +kernel
  have hF53 : (Cond.fieldLink RX5 53 "PartcopyistBenchModel" "page" "I").before args s = true := hts _ (by decide +kernel)
  have hF78 : (Cond.fieldLink RX5 78 "PartcopyistBenchModel" "thrown" "I").before args s = true := hts _ (by decide +kernel)
  unfold f_X5_setPage at hf
  refine lv_aload_n hx hb dX5_setPage_0 rfl (lv_at hl 0 rfl) ?_
  refine lv_iconst (v := 0) hx hb dX5_setPage_1 (by decide) ?_
  replace hf := bnd hf
  obtain ⟨m1, h2, hf⟩ := hf
  refine p_7_0 X hW hinX5 hF78 h2 dX5_setPage_2 (fun H locs hW => ?_)
  refine lv_iload_n hx hb dX5_setPage_5 rfl (lv_at hl 1 rfl) ?_
  refine lv_iconst (v := 1) hx hb dX5_setPage_6 (by decide) ?_
  refine lv_bipush (v := 60) hx hb dX5_setPage_7 (by decide) ?_
  replace hf := bnd hf
  obtain ⟨t3, h4, hf⟩ := hf
  refine r_callS_ok X hW hl.1 (k_X5_isBetween l hsl G A m1 x1 1 60 _ h4) gX5_setPage_X5_isBetween rfl (by decide +kernel) (n := 3) rfl (by decide) (Nat.le_of_ble_eq_true rfl) dX5_setPage_9 rfl rfl (stk := [.int t3]) rfl (fun H locs hW => ?_)
  refine lv_if_ne (tgt := 21) hx hb dX5_setPage_12 (by decide) (fun hc => ?_) (fun hc => ?_)
  · replace hf := itn hc hf
    refine lv_aload_n hx hb dX5_setPage_21 rfl (lv_at hl 0 rfl) ?_
    replace hf := bnd hf
    obtain ⟨t5, h6, hf⟩ := hf
    refine g_7_18 X hW hinX5 hF53 h6 dX5_setPage_22 ?_
    refine lv_istore_n (lv' := [(2, .int t5), (0, .ref x0), (1, .int x1)]) hx hb dX5_setPage_25 rfl hl (by decide) rfl (fun ls hl => ?_)
    refine lv_aload_n hx hb dX5_setPage_26 rfl (lv_at hl 1 rfl) ?_
    refine lv_iload_n hx hb dX5_setPage_27 rfl (lv_at hl 2 rfl) ?_
    replace hf := bnd hf
    obtain ⟨m7, h8, hf⟩ := hf
    refine p_7_18 X hW hinX5 hF53 h8 dX5_setPage_28 (fun H locs hW => ?_)
    refine lv_iload_n hx hb dX5_setPage_31 rfl (lv_at hl 0 rfl) ?_
    exact r_iret X hr hW (by cases hf; exact ⟨rfl, rfl⟩) (by decide) (by decide) dX5_setPage_32
  · replace hf := itp hc hf
    refine lv_aload_n hx hb dX5_setPage_15 rfl (lv_at hl 0 rfl) ?_
    refine lv_iconst (v := 1) hx hb dX5_setPage_16 (by decide) ?_
    replace hf := bnd hf
    obtain ⟨_, h9, hf⟩ := hf
    replace hf := bnd2 hf
    obtain ⟨t10, m12, h11, hf⟩ := hf
    refine r_callV_ok (μ9 := m12) X hW hl.1 (k_X5_fails l hsl G A m1 x0 1 _ h11) gX5_setPage_X5_fails rfl (chk_ok h9) (by decide) rfl (by decide +kernel) (n := 1) rfl (by decide) (Nat.le_of_ble_eq_true rfl) dX5_setPage_17 rfl rfl (stk := [.int t10]) rfl (fun H locs hW => ?_)
    exact r_iret X hr hW (by cases hf; exact ⟨rfl, rfl⟩) (by decide) (by decide) dX5_setPage_20

def f_X5_setTurn (mu : Mem) (x0 : Nat) (x1 : Int32) : Option ((Int32) × Mem) := (putI mu 7 0 x0 0).bind fun m1 => (f_X5_isBetween m1 x1 0 64).bind fun t3 => if t3 = 0 then ((chk m1 7 x0).bind fun _ => bi2 (f_X5_fails m1 x0 1) (fun (t10 : (Int32)) m12 => some (t10, m12))) else ((getI m1 7 19 x0).bind fun t5 => (putI m1 7 19 x0 x1).bind fun m7 => some (t5, m7))
set_option maxHeartbeats 1000000 in
set_option maxRecDepth 100000 in
theorem k_X5_setTurn (l : Launch) (hsl : l.stackTraces = false) (G : GG) (A : Nat → Prop) (mu : Mem) (x0 : Nat) (x1 : Int32) (r : (Int32) × Mem) (hf : f_X5_setTurn mu x0 x1 = some r) : Ok l yX5_setTurn wsX5_setTurn ({ frames := 8, cells := 0, slots := 0, locals := 150 } : Room) [.ref x0, .int x1] G A mu (dP (.inr (rI r.1)) r.2) := by
  refine Ok.start (cc := cX5_setTurn) (maxL := 3) (ret := (some .int)) rfl (by decide +kernel) hsl (by first | exact Nat.le_of_ble_eq_true rfl | simp [lg_sl, cat_rf, Value.category]) ?_
  intro p e s m args below meth c ls X hr hname hW hl
  have X : BX p l s m args meth c cX5_setTurn 3 RX5 wsX5_setTurn G A := X
  have hx := X.1
  have hb := X.2.1
  have hts := X.2.2.2.2.1
  have hl : lv_has ls 3 [(0, .ref x0), (1, .int x1)] := hl
  have hinX5 : ∀ w ∈ wsX50, w ∈ wsX5_setTurn := by decide +kernel
  have hF57 : (Cond.fieldLink RX5 57 "PartcopyistBenchModel" "turn" "I").before args s = true := hts _ (by decide +kernel)
  have hF78 : (Cond.fieldLink RX5 78 "PartcopyistBenchModel" "thrown" "I").before args s = true := hts _ (by decide +kernel)
  unfold f_X5_setTurn at hf
  refine lv_aload_n hx hb dX5_setTurn_0 rfl (lv_at hl 0 rfl) ?_
  refine lv_iconst (v := 0) hx hb dX5_setTurn_1 (by decide) ?_
  replace hf := bnd hf
  obtain ⟨m1, h2, hf⟩ := hf
  refine p_7_0 X hW hinX5 hF78 h2 dX5_setTurn_2 (fun H locs hW => ?_)
  refine lv_iload_n hx hb dX5_setTurn_5 rfl (lv_at hl 1 rfl) ?_
  refine lv_iconst (v := 0) hx hb dX5_setTurn_6 (by decide) ?_
  refine lv_bipush (v := 64) hx hb dX5_setTurn_7 (by decide) ?_
  replace hf := bnd hf
  obtain ⟨t3, h4, hf⟩ := hf
  refine r_callS_ok X hW hl.1 (k_X5_isBetween l hsl G A m1 x1 0 64 _ h4) gX5_setTurn_X5_isBetween rfl (by decide +kernel) (n := 3) rfl (by decide) (Nat.le_of_ble_eq_true rfl) dX5_setTurn_9 rfl rfl (stk := [.int t3]) rfl (fun H locs hW => ?_)
  refine lv_if_ne (tgt := 21) hx hb dX5_setTurn_12 (by decide) (fun hc => ?_) (fun hc => ?_)
  · replace hf := itn hc hf
    refine lv_aload_n hx hb dX5_setTurn_21 rfl (lv_at hl 0 rfl) ?_
    replace hf := bnd hf
    obtain ⟨t5, h6, hf⟩ := hf
    refine g_7_19 X hW hinX5 hF57 h6 dX5_setTurn_22 ?_
    refine lv_istore_n (lv' := [(2, .int t5), (0, .ref x0), (1, .int x1)]) hx hb dX5_setTurn_25 rfl hl (by decide) rfl (fun ls hl => ?_)
    refine lv_aload_n hx hb dX5_setTurn_26 rfl (lv_at hl 1 rfl) ?_
    refine lv_iload_n hx hb dX5_setTurn_27 rfl (lv_at hl 2 rfl) ?_
    replace hf := bnd hf
    obtain ⟨m7, h8, hf⟩ := hf
    refine p_7_19 X hW hinX5 hF57 h8 dX5_setTurn_28 (fun H locs hW => ?_)
    refine lv_iload_n hx hb dX5_setTurn_31 rfl (lv_at hl 0 rfl) ?_
    exact r_iret X hr hW (by cases hf; exact ⟨rfl, rfl⟩) (by decide) (by decide) dX5_setTurn_32
  · replace hf := itp hc hf
    refine lv_aload_n hx hb dX5_setTurn_15 rfl (lv_at hl 0 rfl) ?_
    refine lv_iconst (v := 1) hx hb dX5_setTurn_16 (by decide) ?_
    replace hf := bnd hf
    obtain ⟨_, h9, hf⟩ := hf
    replace hf := bnd2 hf
    obtain ⟨t10, m12, h11, hf⟩ := hf
    refine r_callV_ok (μ9 := m12) X hW hl.1 (k_X5_fails l hsl G A m1 x0 1 _ h11) gX5_setTurn_X5_fails rfl (chk_ok h9) (by decide) rfl (by decide +kernel) (n := 1) rfl (by decide) (Nat.le_of_ble_eq_true rfl) dX5_setTurn_17 rfl rfl (stk := [.int t10]) rfl (fun H locs hW => ?_)
    exact r_iret X hr hW (by cases hf; exact ⟨rfl, rfl⟩) (by decide) (by decide) dX5_setTurn_20

def f_X5_setCue (mu : Mem) (x0 : Nat) (x1 : Int32) : Option ((Int32) × Mem) := (putI mu 7 0 x0 0).bind fun m1 => (f_X5_isBetween m1 x1 1 14).bind fun t3 => if t3 = 0 then ((chk m1 7 x0).bind fun _ => bi2 (f_X5_fails m1 x0 1) (fun (t10 : (Int32)) m12 => some (t10, m12))) else ((getI m1 7 20 x0).bind fun t5 => (putI m1 7 20 x0 x1).bind fun m7 => some (t5, m7))
set_option maxHeartbeats 1000000 in
set_option maxRecDepth 100000 in
theorem k_X5_setCue (l : Launch) (hsl : l.stackTraces = false) (G : GG) (A : Nat → Prop) (mu : Mem) (x0 : Nat) (x1 : Int32) (r : (Int32) × Mem) (hf : f_X5_setCue mu x0 x1 = some r) : Ok l yX5_setCue wsX5_setCue ({ frames := 8, cells := 0, slots := 0, locals := 150 } : Room) [.ref x0, .int x1] G A mu (dP (.inr (rI r.1)) r.2) := by
  refine Ok.start (cc := cX5_setCue) (maxL := 3) (ret := (some .int)) rfl (by decide +kernel) hsl (by first | exact Nat.le_of_ble_eq_true rfl | simp [lg_sl, cat_rf, Value.category]) ?_
  intro p e s m args below meth c ls X hr hname hW hl
  have X : BX p l s m args meth c cX5_setCue 3 RX5 wsX5_setCue G A := X
  have hx := X.1
  have hb := X.2.1
  have hts := X.2.2.2.2.1
  have hl : lv_has ls 3 [(0, .ref x0), (1, .int x1)] := hl
  have hinX5 : ∀ w ∈ wsX50, w ∈ wsX5_setCue := by decide +kernel
  have hF60 : (Cond.fieldLink RX5 60 "PartcopyistBenchModel" "cue" "I").before args s = true := hts _ (by decide +kernel)
  have hF78 : (Cond.fieldLink RX5 78 "PartcopyistBenchModel" "thrown" "I").before args s = true := hts _ (by decide +kernel)
  unfold f_X5_setCue at hf
  refine lv_aload_n hx hb dX5_setCue_0 rfl (lv_at hl 0 rfl) ?_
  refine lv_iconst (v := 0) hx hb dX5_setCue_1 (by decide) ?_
  replace hf := bnd hf
  obtain ⟨m1, h2, hf⟩ := hf
  refine p_7_0 X hW hinX5 hF78 h2 dX5_setCue_2 (fun H locs hW => ?_)
  refine lv_iload_n hx hb dX5_setCue_5 rfl (lv_at hl 1 rfl) ?_
  refine lv_iconst (v := 1) hx hb dX5_setCue_6 (by decide) ?_
  refine lv_bipush (v := 14) hx hb dX5_setCue_7 (by decide) ?_
  replace hf := bnd hf
  obtain ⟨t3, h4, hf⟩ := hf
  refine r_callS_ok X hW hl.1 (k_X5_isBetween l hsl G A m1 x1 1 14 _ h4) gX5_setCue_X5_isBetween rfl (by decide +kernel) (n := 3) rfl (by decide) (Nat.le_of_ble_eq_true rfl) dX5_setCue_9 rfl rfl (stk := [.int t3]) rfl (fun H locs hW => ?_)
  refine lv_if_ne (tgt := 21) hx hb dX5_setCue_12 (by decide) (fun hc => ?_) (fun hc => ?_)
  · replace hf := itn hc hf
    refine lv_aload_n hx hb dX5_setCue_21 rfl (lv_at hl 0 rfl) ?_
    replace hf := bnd hf
    obtain ⟨t5, h6, hf⟩ := hf
    refine g_7_20 X hW hinX5 hF60 h6 dX5_setCue_22 ?_
    refine lv_istore_n (lv' := [(2, .int t5), (0, .ref x0), (1, .int x1)]) hx hb dX5_setCue_25 rfl hl (by decide) rfl (fun ls hl => ?_)
    refine lv_aload_n hx hb dX5_setCue_26 rfl (lv_at hl 1 rfl) ?_
    refine lv_iload_n hx hb dX5_setCue_27 rfl (lv_at hl 2 rfl) ?_
    replace hf := bnd hf
    obtain ⟨m7, h8, hf⟩ := hf
    refine p_7_20 X hW hinX5 hF60 h8 dX5_setCue_28 (fun H locs hW => ?_)
    refine lv_iload_n hx hb dX5_setCue_31 rfl (lv_at hl 0 rfl) ?_
    exact r_iret X hr hW (by cases hf; exact ⟨rfl, rfl⟩) (by decide) (by decide) dX5_setCue_32
  · replace hf := itp hc hf
    refine lv_aload_n hx hb dX5_setCue_15 rfl (lv_at hl 0 rfl) ?_
    refine lv_iconst (v := 1) hx hb dX5_setCue_16 (by decide) ?_
    replace hf := bnd hf
    obtain ⟨_, h9, hf⟩ := hf
    replace hf := bnd2 hf
    obtain ⟨t10, m12, h11, hf⟩ := hf
    refine r_callV_ok (μ9 := m12) X hW hl.1 (k_X5_fails l hsl G A m1 x0 1 _ h11) gX5_setCue_X5_fails rfl (chk_ok h9) (by decide) rfl (by decide +kernel) (n := 1) rfl (by decide) (Nat.le_of_ble_eq_true rfl) dX5_setCue_17 rfl rfl (stk := [.int t10]) rfl (fun H locs hW => ?_)
    exact r_iret X hr hW (by cases hf; exact ⟨rfl, rfl⟩) (by decide) (by decide) dX5_setCue_20

def f_X5_quiet_L11 (mu : Mem) (u0_11 : Nat) (u1_11 : Int32) (u2_11 : Int32) (u3_11 : Int32) (k9 : Int32 → Int32 → Option (Int32)) : Nat → Int32 → Int32 → Option (Int32)
  | 0, _, _ => none
  | n + 1, w4_11, w5_11 => (chk mu 7 u0_11).bind fun _ => (f_X5_lastBar mu u0_11 u2_11).bind fun t8 => if t8 < w5_11 then (k9 w4_11 w5_11) else ((getQ mu 7 2 u0_11).bind fun t10 => t10.bind fun a12 => (ald mu a12 w5_11).bind fun t14 => f_X5_quiet_L11 mu u0_11 u1_11 u2_11 u3_11 k9 n (w4_11 + (4 * t14)) (w5_11 + 1))
def f_X5_quiet_L48 (mu : Mem) (u0_48 : Nat) (u1_48 : Int32) (u2_48 : Int32) (u3_48 : Int32) (u4_48 : Int32) (k9 : Int32 → Int32 → Option (Int32)) : Nat → Int32 → Int32 → Option (Int32)
  | 0, _, _ => none
  | n + 1, w5_48, w6_48 => (getI mu 7 17 u0_48).bind fun t16 => if t16 ≤ w6_48 then (k9 w5_48 w6_48) else ((getQ mu 7 21 u0_48).bind fun t18 => t18.bind fun a20 => (ald mu a20 u2_48).bind fun t22 => (chk mu 7 u0_48).bind fun _ => (f_X5_isAt mu u0_48 w6_48 u1_48 t22).bind fun t25 => if t25 = 0 then (f_X5_quiet_L48 mu u0_48 u1_48 u2_48 u3_48 u4_48 k9 n w5_48 (w6_48 + 1)) else (if u3_48 = 0 then ((getQ mu 7 7 u0_48).bind fun t27 => t27.bind fun a29 => (ald mu a29 w6_48).bind fun t31 => f_X5_quiet_L48 mu u0_48 u1_48 u2_48 u3_48 u4_48 k9 n (if t31 < w5_48 then t31 else w5_48) (w6_48 + 1)) else ((getQ mu 7 7 u0_48).bind fun t33 => t33.bind fun a35 => (ald mu a35 w6_48).bind fun t37 => (getQ mu 7 8 u0_48).bind fun t39 => t39.bind fun a41 => (ald mu a41 w6_48).bind fun t43 => f_X5_quiet_L48 mu u0_48 u1_48 u2_48 u3_48 u4_48 k9 n (if ((u4_48 - t37) - t43) < w5_48 then ((u4_48 - t37) - t43) else w5_48) (w6_48 + 1))))
def f_X5_quiet (mu : Mem) (x0 : Nat) (x1 : Int32) (x2 : Int32) (x3 : Int32) : Option (Int32) := (getQ mu 7 21 x0).bind fun t1 => t1.bind fun a3 => (ald mu a3 x2).bind fun t5 => f_X5_quiet_L11 mu x0 x1 x2 x3 (fun (zw4_11 : Int32) (zw5_11 : Int32) => f_X5_quiet_L48 mu x0 x1 x2 x3 zw4_11 (fun (zw5_48 : Int32) (zw6_48 : Int32) => some zw5_48) 200 zw4_11 0) 200 0 t5
set_option maxHeartbeats 1000000 in
set_option maxRecDepth 100000 in
theorem k_X5_quiet (l : Launch) (hsl : l.stackTraces = false) (G : GG) (A : Nat → Prop) (mu : Mem) (x0 : Nat) (x1 : Int32) (x2 : Int32) (x3 : Int32) (r : Int32) (hf : f_X5_quiet mu x0 x1 x2 x3 = some r) : Ok l yX5_quiet wsX5_quiet ({ frames := 8, cells := 0, slots := 0, locals := 150 } : Room) [.ref x0, .int x1, .int x2, .int x3] G A mu (dP (.inr (rI r)) mu) := by
  refine Ok.start (cc := cX5_quiet) (maxL := 7) (ret := (some .int)) rfl (by decide +kernel) hsl (by first | exact Nat.le_of_ble_eq_true rfl | simp [lg_sl, cat_rf, Value.category]) ?_
  intro p e s m args below meth c ls X hr hname hW hl
  have X : BX p l s m args meth c cX5_quiet 7 RX5 wsX5_quiet G A := X
  have hx := X.1
  have hb := X.2.1
  have hts := X.2.2.2.2.1
  have hl : lv_has ls 7 [(0, .ref x0), (1, .int x1), (2, .int x2), (3, .int x3)] := hl
  have hinX5 : ∀ w ∈ wsX50, w ∈ wsX5_quiet := by decide +kernel
  have hMc_min : (Cond.code Lib.Math.min.name Lib.Math.min.code 2 (some .int)).before args s = true := hts _ (by decide +kernel)
  have hMi : (Cond.initialized "java/lang/Math").before args s = true := hts _ (by decide +kernel)
  have hMl_min : (Cond.methodLink RX5 180 Lib.Math.min.name).before args s = true := hts _ (by decide +kernel)
  have hMs_min : (Cond.static Lib.Math.min.name).before args s = true := hts _ (by decide +kernel)
  have hF13 : (Cond.fieldLink RX5 13 "PartcopyistBenchModel" "beats" "[I").before args s = true := hts _ (by decide +kernel)
  have hF28 : (Cond.fieldLink RX5 28 "PartcopyistBenchModel" "firsts" "[I").before args s = true := hts _ (by decide +kernel)
  have hF31 : (Cond.fieldLink RX5 31 "PartcopyistBenchModel" "lengths" "[I").before args s = true := hts _ (by decide +kernel)
  have hF63 : (Cond.fieldLink RX5 63 "PartcopyistBenchModel" "blockFirst" "[I").before args s = true := hts _ (by decide +kernel)
  have hF91 : (Cond.fieldLink RX5 91 "PartcopyistBenchModel" "notes" "I").before args s = true := hts _ (by decide +kernel)
  unfold f_X5_quiet at hf
  refine lv_iconst (v := 0) hx hb dX5_quiet_0 (by decide) ?_
  refine lv_istore (lv' := [(4, .int 0), (0, .ref x0), (1, .int x1), (2, .int x2), (3, .int x3)]) hx hb dX5_quiet_1 hl (by decide) rfl (fun ls hl => ?_)
  refine lv_aload_n hx hb dX5_quiet_3 rfl (lv_at hl 1 rfl) ?_
  replace hf := bnd hf
  obtain ⟨t1, h2, hf⟩ := hf
  refine g_7_21 X hW hinX5 hF63 h2 dX5_quiet_4 ?_
  refine lv_iload_n hx hb dX5_quiet_7 rfl (lv_at hl 3 rfl) ?_
  replace hf := bnd hf
  obtain ⟨a3, h4, hf⟩ := hf
  subst h4
  replace hf := bnd hf
  obtain ⟨t5, h6, hf⟩ := hf
  refine r_ald X hW h6 dX5_quiet_8 ?_
  refine lv_istore (lv' := [(5, .int t5), (4, .int 0), (0, .ref x0), (1, .int x1), (2, .int x2), (3, .int x3)]) hx hb dX5_quiet_9 hl (by decide) rfl (fun ls hl => ?_)
  have L11 : ∀ (u0_11 : Nat) (u1_11 : Int32) (u2_11 : Int32) (u3_11 : Int32) (k9 : Int32 → Int32 → Option (Int32)),
      (∀ (w4_11 : Int32) (w5_11 : Int32) (H : Heap) (locs : List Loc) (ls : Array Slot), k9 w4_11 w5_11 = some r → MW G A mu s.heap H locs → lv_has ls 7 [(0, .ref u0_11), (1, .int u1_11), (2, .int u2_11), (3, .int u3_11), (4, .int w4_11), (5, .int w5_11)] → W p l e ({ frames := 8, cells := 0, slots := 0, locals := 150 } : Room) s m args below meth c H locs 0 0 (QQ below G A (dP (.inr (rI r)) mu) args s 0 0) (F0 m 41 ls [])) →
      ∀ (n : Nat) (w4_11 : Int32) (w5_11 : Int32) (H : Heap) (locs : List Loc) (ls : Array Slot), f_X5_quiet_L11 mu u0_11 u1_11 u2_11 u3_11 k9 n w4_11 w5_11 = some r → MW G A mu s.heap H locs → lv_has ls 7 [(0, .ref u0_11), (1, .int u1_11), (2, .int u2_11), (3, .int u3_11), (4, .int w4_11), (5, .int w5_11)] → W p l e ({ frames := 8, cells := 0, slots := 0, locals := 150 } : Room) s m args below meth c H locs 0 0 (QQ below G A (dP (.inr (rI r)) mu) args s 0 0) (F0 m 11 ls []) := by
    intro u0_11 u1_11 u2_11 u3_11 k9 hk11 n
    induction n with
    | zero => intro w4_11 w5_11 H locs ls hf hW hl; rw [f_X5_quiet_L11] at hf; cases hf
    | succ n ih11 =>
      intro w4_11 w5_11 H locs ls hf hW hl
      rw [f_X5_quiet_L11] at hf
      refine lv_iload hx hb dX5_quiet_11 (lv_at hl 5 rfl) ?_
      refine lv_aload_n hx hb dX5_quiet_13 rfl (lv_at hl 0 rfl) ?_
      refine lv_iload_n hx hb dX5_quiet_14 rfl (lv_at hl 2 rfl) ?_
      replace hf := bnd hf
      obtain ⟨_, h7, hf⟩ := hf
      replace hf := bnd hf
      obtain ⟨t8, h9, hf⟩ := hf
      refine r_callV_ok X hW hl.1 (k_X5_lastBar l hsl G A mu u0_11 u2_11 _ h9) gX5_quiet_X5_lastBar rfl (chk_ok h7) (by decide) rfl (by decide +kernel) (n := 1) rfl (by decide) (Nat.le_of_ble_eq_true rfl) dX5_quiet_15 rfl rfl (stk := [.int t8, .int w5_11]) rfl (fun H locs hW => ?_)
      refine lv_icmp_gt (tgt := 41) hx hb dX5_quiet_18 (by decide) (fun hc => ?_) (fun hc => ?_)
      · replace hf := itp hc hf
        exact hk11 _ _ _ _ _ hf hW (lv_sub hl [0, 1, 2, 3, 4, 5] rfl)
      · replace hf := itn hc hf
        refine lv_iload hx hb dX5_quiet_21 (lv_at hl 4 rfl) ?_
        refine lv_iconst (v := 4) hx hb dX5_quiet_23 (by decide) ?_
        refine lv_aload_n hx hb dX5_quiet_24 rfl (lv_at hl 0 rfl) ?_
        replace hf := bnd hf
        obtain ⟨t10, h11, hf⟩ := hf
        refine g_7_2 X hW hinX5 hF13 h11 dX5_quiet_25 ?_
        refine lv_iload hx hb dX5_quiet_28 (lv_at hl 5 rfl) ?_
        replace hf := bnd hf
        obtain ⟨a12, h13, hf⟩ := hf
        subst h13
        replace hf := bnd hf
        obtain ⟨t14, h15, hf⟩ := hf
        refine r_ald X hW h15 dX5_quiet_30 ?_
        refine lv_imul hx hb dX5_quiet_31 ?_
        refine lv_iadd hx hb dX5_quiet_32 ?_
        refine lv_istore (lv' := [(4, .int (w4_11 + (4 * t14))), (0, .ref u0_11), (1, .int u1_11), (2, .int u2_11), (3, .int u3_11), (5, .int w5_11)]) hx hb dX5_quiet_33 hl (by decide) rfl (fun ls hl => ?_)
        refine lv_iinc (v := (w5_11 + 1)) (lv' := [(5, .int (w5_11 + 1)), (4, .int (w4_11 + (4 * t14))), (0, .ref u0_11), (1, .int u1_11), (2, .int u2_11), (3, .int u3_11)]) hx hb dX5_quiet_35 hl (k := 5) rfl rfl (by decide) rfl (fun ls hl => ?_)
        refine lv_goto (tgt := 11) hx hb dX5_quiet_38 (by decide) ?_
        exact ih11 _ _ _ _ _ hf hW (lv_sub hl [2, 3, 4, 5, 1, 0] rfl)
  refine L11 x0 x1 x2 x3 _ ?_ 200 0 t5 _ _ _ hf hW (lv_sub hl [2, 3, 4, 5, 1, 0] rfl)
  intro zw4_11 zw5_11 H locs ls hf hW hl
  refine lv_iload hx hb dX5_quiet_41 (lv_at hl 4 rfl) ?_
  refine lv_istore (lv' := [(5, .int zw4_11), (0, .ref x0), (1, .int x1), (2, .int x2), (3, .int x3), (4, .int zw4_11)]) hx hb dX5_quiet_43 hl (by decide) rfl (fun ls hl => ?_)
  refine lv_iconst (v := 0) hx hb dX5_quiet_45 (by decide) ?_
  refine lv_istore (lv' := [(6, .int 0), (5, .int zw4_11), (0, .ref x0), (1, .int x1), (2, .int x2), (3, .int x3), (4, .int zw4_11)]) hx hb dX5_quiet_46 hl (by decide) rfl (fun ls hl => ?_)
  have L48 : ∀ (u0_48 : Nat) (u1_48 : Int32) (u2_48 : Int32) (u3_48 : Int32) (u4_48 : Int32) (k9 : Int32 → Int32 → Option (Int32)),
      (∀ (w5_48 : Int32) (w6_48 : Int32) (H : Heap) (locs : List Loc) (ls : Array Slot), k9 w5_48 w6_48 = some r → MW G A mu s.heap H locs → lv_has ls 7 [(0, .ref u0_48), (1, .int u1_48), (2, .int u2_48), (3, .int u3_48), (4, .int u4_48), (5, .int w5_48), (6, .int w6_48)] → W p l e ({ frames := 8, cells := 0, slots := 0, locals := 150 } : Room) s m args below meth c H locs 0 0 (QQ below G A (dP (.inr (rI r)) mu) args s 0 0) (F0 m 118 ls [])) →
      ∀ (n : Nat) (w5_48 : Int32) (w6_48 : Int32) (H : Heap) (locs : List Loc) (ls : Array Slot), f_X5_quiet_L48 mu u0_48 u1_48 u2_48 u3_48 u4_48 k9 n w5_48 w6_48 = some r → MW G A mu s.heap H locs → lv_has ls 7 [(0, .ref u0_48), (1, .int u1_48), (2, .int u2_48), (3, .int u3_48), (4, .int u4_48), (5, .int w5_48), (6, .int w6_48)] → W p l e ({ frames := 8, cells := 0, slots := 0, locals := 150 } : Room) s m args below meth c H locs 0 0 (QQ below G A (dP (.inr (rI r)) mu) args s 0 0) (F0 m 48 ls []) := by
    intro u0_48 u1_48 u2_48 u3_48 u4_48 k9 hk48 n
    induction n with
    | zero => intro w5_48 w6_48 H locs ls hf hW hl; rw [f_X5_quiet_L48] at hf; cases hf
    | succ n ih48 =>
      intro w5_48 w6_48 H locs ls hf hW hl
      rw [f_X5_quiet_L48] at hf
      refine lv_iload hx hb dX5_quiet_48 (lv_at hl 6 rfl) ?_
      refine lv_aload_n hx hb dX5_quiet_50 rfl (lv_at hl 0 rfl) ?_
      replace hf := bnd hf
      obtain ⟨t16, h17, hf⟩ := hf
      refine g_7_17 X hW hinX5 hF91 h17 dX5_quiet_51 ?_
      refine lv_icmp_ge (tgt := 118) hx hb dX5_quiet_54 (by decide) (fun hc => ?_) (fun hc => ?_)
      · replace hf := itp hc hf
        exact hk48 _ _ _ _ _ hf hW (lv_sub hl [0, 1, 2, 3, 4, 5, 6] rfl)
      · replace hf := itn hc hf
        refine lv_aload_n hx hb dX5_quiet_57 rfl (lv_at hl 0 rfl) ?_
        refine lv_iload hx hb dX5_quiet_58 (lv_at hl 6 rfl) ?_
        refine lv_iload_n hx hb dX5_quiet_60 rfl (lv_at hl 1 rfl) ?_
        refine lv_aload_n hx hb dX5_quiet_61 rfl (lv_at hl 0 rfl) ?_
        replace hf := bnd hf
        obtain ⟨t18, h19, hf⟩ := hf
        refine g_7_21 X hW hinX5 hF63 h19 dX5_quiet_62 ?_
        refine lv_iload_n hx hb dX5_quiet_65 rfl (lv_at hl 2 rfl) ?_
        replace hf := bnd hf
        obtain ⟨a20, h21, hf⟩ := hf
        subst h21
        replace hf := bnd hf
        obtain ⟨t22, h23, hf⟩ := hf
        refine r_ald X hW h23 dX5_quiet_66 ?_
        replace hf := bnd hf
        obtain ⟨_, h24, hf⟩ := hf
        replace hf := bnd hf
        obtain ⟨t25, h26, hf⟩ := hf
        refine r_callV_ok X hW hl.1 (k_X5_isAt l hsl G A mu u0_48 w6_48 u1_48 t22 _ h26) gX5_quiet_X5_isAt rfl (chk_ok h24) (by decide) rfl (by decide +kernel) (n := 3) rfl (by decide) (Nat.le_of_ble_eq_true rfl) dX5_quiet_67 rfl rfl (stk := [.int t25]) rfl (fun H locs hW => ?_)
        refine lv_if_eq (tgt := 112) hx hb dX5_quiet_70 (by decide) (fun hc => ?_) (fun hc => ?_)
        · replace hf := itp hc hf
          refine lv_iinc (v := (w6_48 + 1)) (lv' := [(6, .int (w6_48 + 1)), (0, .ref u0_48), (1, .int u1_48), (2, .int u2_48), (3, .int u3_48), (4, .int u4_48), (5, .int w5_48)]) hx hb dX5_quiet_112 hl (k := 6) rfl rfl (by decide) rfl (fun ls hl => ?_)
          refine lv_goto (tgt := 48) hx hb dX5_quiet_115 (by decide) ?_
          exact ih48 _ _ _ _ _ hf hW (lv_sub hl [1, 2, 3, 4, 5, 6, 0] rfl)
        · replace hf := itn hc hf
          refine lv_iload hx hb dX5_quiet_73 (lv_at hl 5 rfl) ?_
          refine lv_iload_n hx hb dX5_quiet_75 rfl (lv_at hl 3 rfl) ?_
          refine lv_if_eq (tgt := 100) hx hb dX5_quiet_76 (by decide) (fun hc => ?_) (fun hc => ?_)
          · replace hf := itp hc hf
            refine lv_aload_n hx hb dX5_quiet_100 rfl (lv_at hl 0 rfl) ?_
            replace hf := bnd hf
            obtain ⟨t27, h28, hf⟩ := hf
            refine g_7_7 X hW hinX5 hF28 h28 dX5_quiet_101 ?_
            refine lv_iload hx hb dX5_quiet_104 (lv_at hl 6 rfl) ?_
            replace hf := bnd hf
            obtain ⟨a29, h30, hf⟩ := hf
            subst h30
            replace hf := bnd hf
            obtain ⟨t31, h32, hf⟩ := hf
            refine r_ald X hW h32 dX5_quiet_106 ?_
            refine va_mmin hx hb (X.2.2.1.trans hl.1.symm) X.2.2.2.1 hMl_min hMs_min hMi hMc_min (by decide) (Nat.le_of_ble_eq_true rfl) (by decide) (by decide) dX5_quiet_107 ?_
            refine lv_istore (lv' := [(5, .int (if t31 < w5_48 then t31 else w5_48)), (0, .ref u0_48), (1, .int u1_48), (2, .int u2_48), (3, .int u3_48), (4, .int u4_48), (6, .int w6_48)]) hx hb dX5_quiet_110 hl (by decide) rfl (fun ls hl => ?_)
            refine lv_iinc (v := (w6_48 + 1)) (lv' := [(6, .int (w6_48 + 1)), (5, .int (if t31 < w5_48 then t31 else w5_48)), (0, .ref u0_48), (1, .int u1_48), (2, .int u2_48), (3, .int u3_48), (4, .int u4_48)]) hx hb dX5_quiet_112 hl (k := 6) rfl rfl (by decide) rfl (fun ls hl => ?_)
            refine lv_goto (tgt := 48) hx hb dX5_quiet_115 (by decide) ?_
            exact ih48 _ _ _ _ _ hf hW (lv_sub hl [2, 3, 4, 5, 6, 1, 0] rfl)
          · replace hf := itn hc hf
            refine lv_iload hx hb dX5_quiet_79 (lv_at hl 4 rfl) ?_
            refine lv_aload_n hx hb dX5_quiet_81 rfl (lv_at hl 0 rfl) ?_
            replace hf := bnd hf
            obtain ⟨t33, h34, hf⟩ := hf
            refine g_7_7 X hW hinX5 hF28 h34 dX5_quiet_82 ?_
            refine lv_iload hx hb dX5_quiet_85 (lv_at hl 6 rfl) ?_
            replace hf := bnd hf
            obtain ⟨a35, h36, hf⟩ := hf
            subst h36
            replace hf := bnd hf
            obtain ⟨t37, h38, hf⟩ := hf
            refine r_ald X hW h38 dX5_quiet_87 ?_
            refine lv_isub hx hb dX5_quiet_88 ?_
            refine lv_aload_n hx hb dX5_quiet_89 rfl (lv_at hl 0 rfl) ?_
            replace hf := bnd hf
            obtain ⟨t39, h40, hf⟩ := hf
            refine g_7_8 X hW hinX5 hF31 h40 dX5_quiet_90 ?_
            refine lv_iload hx hb dX5_quiet_93 (lv_at hl 6 rfl) ?_
            replace hf := bnd hf
            obtain ⟨a41, h42, hf⟩ := hf
            subst h42
            replace hf := bnd hf
            obtain ⟨t43, h44, hf⟩ := hf
            refine r_ald X hW h44 dX5_quiet_95 ?_
            refine lv_isub hx hb dX5_quiet_96 ?_
            refine lv_goto (tgt := 107) hx hb dX5_quiet_97 (by decide) ?_
            refine va_mmin hx hb (X.2.2.1.trans hl.1.symm) X.2.2.2.1 hMl_min hMs_min hMi hMc_min (by decide) (Nat.le_of_ble_eq_true rfl) (by decide) (by decide) dX5_quiet_107 ?_
            refine lv_istore (lv' := [(5, .int (if ((u4_48 - t37) - t43) < w5_48 then ((u4_48 - t37) - t43) else w5_48)), (0, .ref u0_48), (1, .int u1_48), (2, .int u2_48), (3, .int u3_48), (4, .int u4_48), (6, .int w6_48)]) hx hb dX5_quiet_110 hl (by decide) rfl (fun ls hl => ?_)
            refine lv_iinc (v := (w6_48 + 1)) (lv' := [(6, .int (w6_48 + 1)), (5, .int (if ((u4_48 - t37) - t43) < w5_48 then ((u4_48 - t37) - t43) else w5_48)), (0, .ref u0_48), (1, .int u1_48), (2, .int u2_48), (3, .int u3_48), (4, .int u4_48)]) hx hb dX5_quiet_112 hl (k := 6) rfl rfl (by decide) rfl (fun ls hl => ?_)
            refine lv_goto (tgt := 48) hx hb dX5_quiet_115 (by decide) ?_
            exact ih48 _ _ _ _ _ hf hW (lv_sub hl [2, 3, 4, 5, 6, 1, 0] rfl)
  refine L48 x0 x1 x2 x3 zw4_11 _ ?_ 200 zw4_11 0 _ _ _ hf hW (lv_sub hl [2, 3, 4, 5, 6, 1, 0] rfl)
  intro zw5_48 zw6_48 H locs ls hf hW hl
  refine lv_iload hx hb dX5_quiet_118 (lv_at hl 5 rfl) ?_
  exact r_iret X hr hW (by cases hf; exact ⟨rfl, rfl⟩) (by decide) (by decide) dX5_quiet_120

def f_X5_turnBehind (mu : Mem) (x0 : Nat) (x1 : Int32) (x2 : Int32) : Option (Int32) := (getI mu 7 23 x0).bind fun t1 => if x2 = (t1 - 1) then (some 0) else ((chk mu 7 x0).bind fun _ => (f_X5_quiet mu x0 x1 x2 1).bind fun t4 => (chk mu 7 x0).bind fun _ => (f_X5_quiet mu x0 x1 (x2 + 1) 0).bind fun t7 => (getI mu 7 19 x0).bind fun t9 => if (t4 + t7) < t9 then (some 1) else (some 0))
set_option maxHeartbeats 1000000 in
set_option maxRecDepth 100000 in
theorem k_X5_turnBehind (l : Launch) (hsl : l.stackTraces = false) (G : GG) (A : Nat → Prop) (mu : Mem) (x0 : Nat) (x1 : Int32) (x2 : Int32) (r : Int32) (hf : f_X5_turnBehind mu x0 x1 x2 = some r) : Ok l yX5_turnBehind wsX5_turnBehind ({ frames := 10, cells := 0, slots := 0, locals := 190 } : Room) [.ref x0, .int x1, .int x2] G A mu (dP (.inr (rI r)) mu) := by
  refine Ok.start (cc := cX5_turnBehind) (maxL := 3) (ret := (some .int)) rfl (by decide +kernel) hsl (by first | exact Nat.le_of_ble_eq_true rfl | simp [lg_sl, cat_rf, Value.category]) ?_
  intro p e s m args below meth c ls X hr hname hW hl
  have X : BX p l s m args meth c cX5_turnBehind 3 RX5 wsX5_turnBehind G A := X
  have hx := X.1
  have hb := X.2.1
  have hts := X.2.2.2.2.1
  have hl : lv_has ls 3 [(0, .ref x0), (1, .int x1), (2, .int x2)] := hl
  have hinX5 : ∀ w ∈ wsX50, w ∈ wsX5_turnBehind := by decide +kernel
  have hF159 : (Cond.fieldLink RX5 159 "PartcopyistBenchModel" "blocks" "I").before args s = true := hts _ (by decide +kernel)
  have hF57 : (Cond.fieldLink RX5 57 "PartcopyistBenchModel" "turn" "I").before args s = true := hts _ (by decide +kernel)
  unfold f_X5_turnBehind at hf
  refine lv_iload_n hx hb dX5_turnBehind_0 rfl (lv_at hl 2 rfl) ?_
  refine lv_aload_n hx hb dX5_turnBehind_1 rfl (lv_at hl 0 rfl) ?_
  replace hf := bnd hf
  obtain ⟨t1, h2, hf⟩ := hf
  refine g_7_23 X hW hinX5 hF159 h2 dX5_turnBehind_2 ?_
  refine lv_iconst (v := 1) hx hb dX5_turnBehind_5 (by decide) ?_
  refine lv_isub hx hb dX5_turnBehind_6 ?_
  refine lv_icmp_ne (tgt := 12) hx hb dX5_turnBehind_7 (by decide) (fun hc => ?_) (fun hc => ?_)
  · replace hf := itn hc hf
    refine lv_aload_n hx hb dX5_turnBehind_12 rfl (lv_at hl 0 rfl) ?_
    refine lv_iload_n hx hb dX5_turnBehind_13 rfl (lv_at hl 1 rfl) ?_
    refine lv_iload_n hx hb dX5_turnBehind_14 rfl (lv_at hl 2 rfl) ?_
    refine lv_iconst (v := 1) hx hb dX5_turnBehind_15 (by decide) ?_
    replace hf := bnd hf
    obtain ⟨_, h3, hf⟩ := hf
    replace hf := bnd hf
    obtain ⟨t4, h5, hf⟩ := hf
    refine r_callV_ok X hW hl.1 (k_X5_quiet l hsl G A mu x0 x1 x2 1 _ h5) gX5_turnBehind_X5_quiet rfl (chk_ok h3) (by decide) rfl (by decide +kernel) (n := 3) rfl (by decide) (Nat.le_of_ble_eq_true rfl) dX5_turnBehind_16 rfl rfl (stk := [.int t4]) rfl (fun H locs hW => ?_)
    refine lv_aload_n hx hb dX5_turnBehind_19 rfl (lv_at hl 0 rfl) ?_
    refine lv_iload_n hx hb dX5_turnBehind_20 rfl (lv_at hl 1 rfl) ?_
    refine lv_iload_n hx hb dX5_turnBehind_21 rfl (lv_at hl 2 rfl) ?_
    refine lv_iconst (v := 1) hx hb dX5_turnBehind_22 (by decide) ?_
    refine lv_iadd hx hb dX5_turnBehind_23 ?_
    refine lv_iconst (v := 0) hx hb dX5_turnBehind_24 (by decide) ?_
    replace hf := bnd hf
    obtain ⟨_, h6, hf⟩ := hf
    replace hf := bnd hf
    obtain ⟨t7, h8, hf⟩ := hf
    refine r_callV_ok X hW hl.1 (k_X5_quiet l hsl G A mu x0 x1 (x2 + 1) 0 _ h8) gX5_turnBehind_X5_quiet rfl (chk_ok h6) (by decide) rfl (by decide +kernel) (n := 3) rfl (by decide) (Nat.le_of_ble_eq_true rfl) dX5_turnBehind_25 rfl rfl (stk := [.int t7, .int t4]) rfl (fun H locs hW => ?_)
    refine lv_iadd hx hb dX5_turnBehind_28 ?_
    refine lv_aload_n hx hb dX5_turnBehind_29 rfl (lv_at hl 0 rfl) ?_
    replace hf := bnd hf
    obtain ⟨t9, h10, hf⟩ := hf
    refine g_7_19 X hW hinX5 hF57 h10 dX5_turnBehind_30 ?_
    refine lv_icmp_lt (tgt := 40) hx hb dX5_turnBehind_33 (by decide) (fun hc => ?_) (fun hc => ?_)
    · replace hf := itp hc hf
      refine lv_iconst (v := 1) hx hb dX5_turnBehind_40 (by decide) ?_
      exact r_iret X hr hW (by cases hf; exact ⟨rfl, rfl⟩) (by decide) (by decide) dX5_turnBehind_41
    · replace hf := itn hc hf
      refine lv_iconst (v := 0) hx hb dX5_turnBehind_36 (by decide) ?_
      refine lv_goto (tgt := 41) hx hb dX5_turnBehind_37 (by decide) ?_
      exact r_iret X hr hW (by cases hf; exact ⟨rfl, rfl⟩) (by decide) (by decide) dX5_turnBehind_41
  · replace hf := itp hc hf
    refine lv_iconst (v := 0) hx hb dX5_turnBehind_10 (by decide) ?_
    exact r_iret X hr hW (by cases hf; exact ⟨rfl, rfl⟩) (by decide) (by decide) dX5_turnBehind_11

def f_X5_cueOf_L12 (mu : Mem) (u0_12 : Nat) (u1_12 : Int32) (u2_12 : Int32) (u3_12 : Int32) (k9 : Int32 → Int32 → Option (Int32)) : Nat → Int32 → Int32 → Option (Int32)
  | 0, _, _ => none
  | n + 1, w4_12, w5_12 => (getI mu 7 15 u0_12).bind fun t4 => if t4 ≤ w5_12 then (k9 w4_12 w5_12) else (if w5_12 = u1_12 then (f_X5_cueOf_L12 mu u0_12 u1_12 u2_12 u3_12 k9 n w4_12 (w5_12 + 1)) else ((chk mu 7 u0_12).bind fun _ => (f_X5_many mu u0_12 w5_12 u3_12).bind fun t7 => if t7 ≤ 0 then (f_X5_cueOf_L12 mu u0_12 u1_12 u2_12 u3_12 k9 n w4_12 (w5_12 + 1)) else (if w4_12 < 0 then (f_X5_cueOf_L12 mu u0_12 u1_12 u2_12 u3_12 k9 n w5_12 (w5_12 + 1)) else ((chk mu 7 u0_12).bind fun _ => (f_X5_many mu u0_12 w5_12 u3_12).bind fun t10 => (chk mu 7 u0_12).bind fun _ => (f_X5_many mu u0_12 w4_12 u3_12).bind fun t13 => if t10 ≤ t13 then (f_X5_cueOf_L12 mu u0_12 u1_12 u2_12 u3_12 k9 n w4_12 (w5_12 + 1)) else (f_X5_cueOf_L12 mu u0_12 u1_12 u2_12 u3_12 k9 n w5_12 (w5_12 + 1))))))
def f_X5_cueOf (mu : Mem) (x0 : Nat) (x1 : Int32) (x2 : Int32) : Option (Int32) := (chk mu 7 x0).bind fun _ => (f_X5_lastBar mu x0 x2).bind fun t2 => f_X5_cueOf_L12 mu x0 x1 x2 t2 (fun (zw4_12 : Int32) (zw5_12 : Int32) => (getQ mu 7 22 x0).bind fun t15 => t15.bind fun a17 => (ald mu a17 x2).bind fun t19 => (getI mu 7 20 x0).bind fun t21 => if t19 < t21 then (some (-1)) else ((getI mu 7 16 x0).bind fun t23 => if (t23 - 1) ≤ t2 then (some (-1)) else (some zw4_12))) 200 (-1) 0
set_option maxHeartbeats 1000000 in
set_option maxRecDepth 100000 in
theorem k_X5_cueOf (l : Launch) (hsl : l.stackTraces = false) (G : GG) (A : Nat → Prop) (mu : Mem) (x0 : Nat) (x1 : Int32) (x2 : Int32) (r : Int32) (hf : f_X5_cueOf mu x0 x1 x2 = some r) : Ok l yX5_cueOf wsX5_cueOf ({ frames := 10, cells := 0, slots := 0, locals := 190 } : Room) [.ref x0, .int x1, .int x2] G A mu (dP (.inr (rI r)) mu) := by
  refine Ok.start (cc := cX5_cueOf) (maxL := 6) (ret := (some .int)) rfl (by decide +kernel) hsl (by first | exact Nat.le_of_ble_eq_true rfl | simp [lg_sl, cat_rf, Value.category]) ?_
  intro p e s m args below meth c ls X hr hname hW hl
  have X : BX p l s m args meth c cX5_cueOf 6 RX5 wsX5_cueOf G A := X
  have hx := X.1
  have hb := X.2.1
  have hts := X.2.2.2.2.1
  have hl : lv_has ls 6 [(0, .ref x0), (1, .int x1), (2, .int x2)] := hl
  have hinX5 : ∀ w ∈ wsX50, w ∈ wsX5_cueOf := by decide +kernel
  have hF60 : (Cond.fieldLink RX5 60 "PartcopyistBenchModel" "cue" "I").before args s = true := hts _ (by decide +kernel)
  have hF66 : (Cond.fieldLink RX5 66 "PartcopyistBenchModel" "blockRest" "[I").before args s = true := hts _ (by decide +kernel)
  have hF81 : (Cond.fieldLink RX5 81 "PartcopyistBenchModel" "parts" "I").before args s = true := hts _ (by decide +kernel)
  have hF88 : (Cond.fieldLink RX5 88 "PartcopyistBenchModel" "bars" "I").before args s = true := hts _ (by decide +kernel)
  unfold f_X5_cueOf at hf
  refine lv_aload_n hx hb dX5_cueOf_0 rfl (lv_at hl 0 rfl) ?_
  refine lv_iload_n hx hb dX5_cueOf_1 rfl (lv_at hl 2 rfl) ?_
  replace hf := bnd hf
  obtain ⟨_, h1, hf⟩ := hf
  replace hf := bnd hf
  obtain ⟨t2, h3, hf⟩ := hf
  refine r_callV_ok X hW hl.1 (k_X5_lastBar l hsl G A mu x0 x2 _ h3) gX5_cueOf_X5_lastBar rfl (chk_ok h1) (by decide) rfl (by decide +kernel) (n := 1) rfl (by decide) (Nat.le_of_ble_eq_true rfl) dX5_cueOf_2 rfl rfl (stk := [.int t2]) rfl (fun H locs hW => ?_)
  refine lv_istore_n (lv' := [(3, .int t2), (0, .ref x0), (1, .int x1), (2, .int x2)]) hx hb dX5_cueOf_5 rfl hl (by decide) rfl (fun ls hl => ?_)
  refine lv_iconst (v := (-1)) hx hb dX5_cueOf_6 (by decide) ?_
  refine lv_istore (lv' := [(4, .int (-1)), (3, .int t2), (0, .ref x0), (1, .int x1), (2, .int x2)]) hx hb dX5_cueOf_7 hl (by decide) rfl (fun ls hl => ?_)
  refine lv_iconst (v := 0) hx hb dX5_cueOf_9 (by decide) ?_
  refine lv_istore (lv' := [(5, .int 0), (4, .int (-1)), (3, .int t2), (0, .ref x0), (1, .int x1), (2, .int x2)]) hx hb dX5_cueOf_10 hl (by decide) rfl (fun ls hl => ?_)
  have L12 : ∀ (u0_12 : Nat) (u1_12 : Int32) (u2_12 : Int32) (u3_12 : Int32) (k9 : Int32 → Int32 → Option (Int32)),
      (∀ (w4_12 : Int32) (w5_12 : Int32) (H : Heap) (locs : List Loc) (ls : Array Slot), k9 w4_12 w5_12 = some r → MW G A mu s.heap H locs → lv_has ls 6 [(0, .ref u0_12), (1, .int u1_12), (2, .int u2_12), (3, .int u3_12), (4, .int w4_12), (5, .int w5_12)] → W p l e ({ frames := 10, cells := 0, slots := 0, locals := 190 } : Room) s m args below meth c H locs 0 0 (QQ below G A (dP (.inr (rI r)) mu) args s 0 0) (F0 m 69 ls [])) →
      ∀ (n : Nat) (w4_12 : Int32) (w5_12 : Int32) (H : Heap) (locs : List Loc) (ls : Array Slot), f_X5_cueOf_L12 mu u0_12 u1_12 u2_12 u3_12 k9 n w4_12 w5_12 = some r → MW G A mu s.heap H locs → lv_has ls 6 [(0, .ref u0_12), (1, .int u1_12), (2, .int u2_12), (3, .int u3_12), (4, .int w4_12), (5, .int w5_12)] → W p l e ({ frames := 10, cells := 0, slots := 0, locals := 190 } : Room) s m args below meth c H locs 0 0 (QQ below G A (dP (.inr (rI r)) mu) args s 0 0) (F0 m 12 ls []) := by
    intro u0_12 u1_12 u2_12 u3_12 k9 hk12 n
    induction n with
    | zero => intro w4_12 w5_12 H locs ls hf hW hl; rw [f_X5_cueOf_L12] at hf; cases hf
    | succ n ih12 =>
      intro w4_12 w5_12 H locs ls hf hW hl
      rw [f_X5_cueOf_L12] at hf
      refine lv_iload hx hb dX5_cueOf_12 (lv_at hl 5 rfl) ?_
      refine lv_aload_n hx hb dX5_cueOf_14 rfl (lv_at hl 0 rfl) ?_
      replace hf := bnd hf
      obtain ⟨t4, h5, hf⟩ := hf
      refine g_7_15 X hW hinX5 hF81 h5 dX5_cueOf_15 ?_
      refine lv_icmp_ge (tgt := 69) hx hb dX5_cueOf_18 (by decide) (fun hc => ?_) (fun hc => ?_)
      · replace hf := itp hc hf
        exact hk12 _ _ _ _ _ hf hW (lv_sub hl [0, 1, 2, 3, 4, 5] rfl)
      · replace hf := itn hc hf
        refine lv_iload hx hb dX5_cueOf_21 (lv_at hl 5 rfl) ?_
        refine lv_iload_n hx hb dX5_cueOf_23 rfl (lv_at hl 1 rfl) ?_
        refine lv_icmp_eq (tgt := 63) hx hb dX5_cueOf_24 (by decide) (fun hc => ?_) (fun hc => ?_)
        · replace hf := itp hc hf
          refine lv_iinc (v := (w5_12 + 1)) (lv' := [(5, .int (w5_12 + 1)), (0, .ref u0_12), (1, .int u1_12), (2, .int u2_12), (3, .int u3_12), (4, .int w4_12)]) hx hb dX5_cueOf_63 hl (k := 5) rfl rfl (by decide) rfl (fun ls hl => ?_)
          refine lv_goto (tgt := 12) hx hb dX5_cueOf_66 (by decide) ?_
          exact ih12 _ _ _ _ _ hf hW (lv_sub hl [1, 2, 3, 4, 5, 0] rfl)
        · replace hf := itn hc hf
          refine lv_aload_n hx hb dX5_cueOf_27 rfl (lv_at hl 0 rfl) ?_
          refine lv_iload hx hb dX5_cueOf_28 (lv_at hl 5 rfl) ?_
          refine lv_iload_n hx hb dX5_cueOf_30 rfl (lv_at hl 3 rfl) ?_
          replace hf := bnd hf
          obtain ⟨_, h6, hf⟩ := hf
          replace hf := bnd hf
          obtain ⟨t7, h8, hf⟩ := hf
          refine r_callV_ok X hW hl.1 (k_X5_many l hsl G A mu u0_12 w5_12 u3_12 _ h8) gX5_cueOf_X5_many rfl (chk_ok h6) (by decide) rfl (by decide +kernel) (n := 2) rfl (by decide) (Nat.le_of_ble_eq_true rfl) dX5_cueOf_31 rfl rfl (stk := [.int t7]) rfl (fun H locs hW => ?_)
          refine lv_if_le (tgt := 63) hx hb dX5_cueOf_34 (by decide) (fun hc => ?_) (fun hc => ?_)
          · replace hf := itp hc hf
            refine lv_iinc (v := (w5_12 + 1)) (lv' := [(5, .int (w5_12 + 1)), (0, .ref u0_12), (1, .int u1_12), (2, .int u2_12), (3, .int u3_12), (4, .int w4_12)]) hx hb dX5_cueOf_63 hl (k := 5) rfl rfl (by decide) rfl (fun ls hl => ?_)
            refine lv_goto (tgt := 12) hx hb dX5_cueOf_66 (by decide) ?_
            exact ih12 _ _ _ _ _ hf hW (lv_sub hl [1, 2, 3, 4, 5, 0] rfl)
          · replace hf := itn hc hf
            refine lv_iload hx hb dX5_cueOf_37 (lv_at hl 4 rfl) ?_
            refine lv_if_lt (tgt := 59) hx hb dX5_cueOf_39 (by decide) (fun hc => ?_) (fun hc => ?_)
            · replace hf := itp hc hf
              refine lv_iload hx hb dX5_cueOf_59 (lv_at hl 5 rfl) ?_
              refine lv_istore (lv' := [(4, .int w5_12), (0, .ref u0_12), (1, .int u1_12), (2, .int u2_12), (3, .int u3_12), (5, .int w5_12)]) hx hb dX5_cueOf_61 hl (by decide) rfl (fun ls hl => ?_)
              refine lv_iinc (v := (w5_12 + 1)) (lv' := [(5, .int (w5_12 + 1)), (4, .int w5_12), (0, .ref u0_12), (1, .int u1_12), (2, .int u2_12), (3, .int u3_12)]) hx hb dX5_cueOf_63 hl (k := 5) rfl rfl (by decide) rfl (fun ls hl => ?_)
              refine lv_goto (tgt := 12) hx hb dX5_cueOf_66 (by decide) ?_
              exact ih12 _ _ _ _ _ hf hW (lv_sub hl [2, 3, 4, 5, 1, 0] rfl)
            · replace hf := itn hc hf
              refine lv_aload_n hx hb dX5_cueOf_42 rfl (lv_at hl 0 rfl) ?_
              refine lv_iload hx hb dX5_cueOf_43 (lv_at hl 5 rfl) ?_
              refine lv_iload_n hx hb dX5_cueOf_45 rfl (lv_at hl 3 rfl) ?_
              replace hf := bnd hf
              obtain ⟨_, h9, hf⟩ := hf
              replace hf := bnd hf
              obtain ⟨t10, h11, hf⟩ := hf
              refine r_callV_ok X hW hl.1 (k_X5_many l hsl G A mu u0_12 w5_12 u3_12 _ h11) gX5_cueOf_X5_many rfl (chk_ok h9) (by decide) rfl (by decide +kernel) (n := 2) rfl (by decide) (Nat.le_of_ble_eq_true rfl) dX5_cueOf_46 rfl rfl (stk := [.int t10]) rfl (fun H locs hW => ?_)
              refine lv_aload_n hx hb dX5_cueOf_49 rfl (lv_at hl 0 rfl) ?_
              refine lv_iload hx hb dX5_cueOf_50 (lv_at hl 4 rfl) ?_
              refine lv_iload_n hx hb dX5_cueOf_52 rfl (lv_at hl 3 rfl) ?_
              replace hf := bnd hf
              obtain ⟨_, h12, hf⟩ := hf
              replace hf := bnd hf
              obtain ⟨t13, h14, hf⟩ := hf
              refine r_callV_ok X hW hl.1 (k_X5_many l hsl G A mu u0_12 w4_12 u3_12 _ h14) gX5_cueOf_X5_many rfl (chk_ok h12) (by decide) rfl (by decide +kernel) (n := 2) rfl (by decide) (Nat.le_of_ble_eq_true rfl) dX5_cueOf_53 rfl rfl (stk := [.int t13, .int t10]) rfl (fun H locs hW => ?_)
              refine lv_icmp_le (tgt := 63) hx hb dX5_cueOf_56 (by decide) (fun hc => ?_) (fun hc => ?_)
              · replace hf := itp hc hf
                refine lv_iinc (v := (w5_12 + 1)) (lv' := [(5, .int (w5_12 + 1)), (0, .ref u0_12), (1, .int u1_12), (2, .int u2_12), (3, .int u3_12), (4, .int w4_12)]) hx hb dX5_cueOf_63 hl (k := 5) rfl rfl (by decide) rfl (fun ls hl => ?_)
                refine lv_goto (tgt := 12) hx hb dX5_cueOf_66 (by decide) ?_
                exact ih12 _ _ _ _ _ hf hW (lv_sub hl [1, 2, 3, 4, 5, 0] rfl)
              · replace hf := itn hc hf
                refine lv_iload hx hb dX5_cueOf_59 (lv_at hl 5 rfl) ?_
                refine lv_istore (lv' := [(4, .int w5_12), (0, .ref u0_12), (1, .int u1_12), (2, .int u2_12), (3, .int u3_12), (5, .int w5_12)]) hx hb dX5_cueOf_61 hl (by decide) rfl (fun ls hl => ?_)
                refine lv_iinc (v := (w5_12 + 1)) (lv' := [(5, .int (w5_12 + 1)), (4, .int w5_12), (0, .ref u0_12), (1, .int u1_12), (2, .int u2_12), (3, .int u3_12)]) hx hb dX5_cueOf_63 hl (k := 5) rfl rfl (by decide) rfl (fun ls hl => ?_)
                refine lv_goto (tgt := 12) hx hb dX5_cueOf_66 (by decide) ?_
                exact ih12 _ _ _ _ _ hf hW (lv_sub hl [2, 3, 4, 5, 1, 0] rfl)
  refine L12 x0 x1 x2 t2 _ ?_ 200 (-1) 0 _ _ _ hf hW (lv_sub hl [3, 4, 5, 2, 1, 0] rfl)
  intro zw4_12 zw5_12 H locs ls hf hW hl
  refine lv_aload_n hx hb dX5_cueOf_69 rfl (lv_at hl 0 rfl) ?_
  replace hf := bnd hf
  obtain ⟨t15, h16, hf⟩ := hf
  refine g_7_22 X hW hinX5 hF66 h16 dX5_cueOf_70 ?_
  refine lv_iload_n hx hb dX5_cueOf_73 rfl (lv_at hl 2 rfl) ?_
  replace hf := bnd hf
  obtain ⟨a17, h18, hf⟩ := hf
  subst h18
  replace hf := bnd hf
  obtain ⟨t19, h20, hf⟩ := hf
  refine r_ald X hW h20 dX5_cueOf_74 ?_
  refine lv_aload_n hx hb dX5_cueOf_75 rfl (lv_at hl 0 rfl) ?_
  replace hf := bnd hf
  obtain ⟨t21, h22, hf⟩ := hf
  refine g_7_20 X hW hinX5 hF60 h22 dX5_cueOf_76 ?_
  refine lv_icmp_lt (tgt := 97) hx hb dX5_cueOf_79 (by decide) (fun hc => ?_) (fun hc => ?_)
  · replace hf := itp hc hf
    refine lv_iconst (v := (-1)) hx hb dX5_cueOf_97 (by decide) ?_
    exact r_iret X hr hW (by cases hf; exact ⟨rfl, rfl⟩) (by decide) (by decide) dX5_cueOf_98
  · replace hf := itn hc hf
    refine lv_iload_n hx hb dX5_cueOf_82 rfl (lv_at hl 3 rfl) ?_
    refine lv_aload_n hx hb dX5_cueOf_83 rfl (lv_at hl 0 rfl) ?_
    replace hf := bnd hf
    obtain ⟨t23, h24, hf⟩ := hf
    refine g_7_16 X hW hinX5 hF88 h24 dX5_cueOf_84 ?_
    refine lv_iconst (v := 1) hx hb dX5_cueOf_87 (by decide) ?_
    refine lv_isub hx hb dX5_cueOf_88 ?_
    refine lv_icmp_ge (tgt := 97) hx hb dX5_cueOf_89 (by decide) (fun hc => ?_) (fun hc => ?_)
    · replace hf := itp hc hf
      refine lv_iconst (v := (-1)) hx hb dX5_cueOf_97 (by decide) ?_
      exact r_iret X hr hW (by cases hf; exact ⟨rfl, rfl⟩) (by decide) (by decide) dX5_cueOf_98
    · replace hf := itn hc hf
      refine lv_iload hx hb dX5_cueOf_92 (lv_at hl 4 rfl) ?_
      refine lv_goto (tgt := 98) hx hb dX5_cueOf_94 (by decide) ?_
      exact r_iret X hr hW (by cases hf; exact ⟨rfl, rfl⟩) (by decide) (by decide) dX5_cueOf_98

def f_X5_differs_L4 (mu : Mem) (u0_4 : Nat) (u1_4 : Int32) (k9 : Int32 → Int32 → Option (Int32)) : Nat → Int32 → Int32 → Option (Int32)
  | 0, _, _ => none
  | n + 1, w2_4, w3_4 => (getI mu 7 17 u0_4).bind fun t1 => if t1 ≤ w3_4 then (k9 w2_4 w3_4) else ((getQ mu 7 4 u0_4).bind fun t3 => t3.bind fun a5 => (ald mu a5 w3_4).bind fun t7 => if t7 = u1_4 then ((getQ mu 7 13 u0_4).bind fun t9 => t9.bind fun a11 => (zld mu a11 w3_4).bind fun t13 => if t13 = 0 then ((getQ mu 7 13 u0_4).bind fun t15 => t15.bind fun a17 => (zld mu a17 w3_4).bind fun t19 => if t19 = 0 then ((getQ mu 7 10 u0_4).bind fun t21 => t21.bind fun a23 => (ald mu a23 w3_4).bind fun t25 => (getQ mu 7 8 u0_4).bind fun t27 => t27.bind fun a29 => (ald mu a29 w3_4).bind fun t31 => if t25 = t31 then ((getQ mu 7 11 u0_4).bind fun t33 => t33.bind fun a35 => (ald mu a35 w3_4).bind fun t37 => (getQ mu 7 9 u0_4).bind fun t39 => t39.bind fun a41 => (ald mu a41 w3_4).bind fun t43 => if t37 = t43 then (f_X5_differs_L4 mu u0_4 u1_4 k9 n (w2_4 + 0) (w3_4 + 1)) else (f_X5_differs_L4 mu u0_4 u1_4 k9 n (w2_4 + 1) (w3_4 + 1))) else (f_X5_differs_L4 mu u0_4 u1_4 k9 n (w2_4 + 1) (w3_4 + 1))) else (f_X5_differs_L4 mu u0_4 u1_4 k9 n (w2_4 + 1) (w3_4 + 1))) else ((getQ mu 7 10 u0_4).bind fun t45 => t45.bind fun a47 => (ald mu a47 w3_4).bind fun t49 => if t49 = 0 then (f_X5_differs_L4 mu u0_4 u1_4 k9 n w2_4 (w3_4 + 1)) else ((getQ mu 7 13 u0_4).bind fun t51 => t51.bind fun a53 => (zld mu a53 w3_4).bind fun t55 => if t55 = 0 then ((getQ mu 7 10 u0_4).bind fun t57 => t57.bind fun a59 => (ald mu a59 w3_4).bind fun t61 => (getQ mu 7 8 u0_4).bind fun t63 => t63.bind fun a65 => (ald mu a65 w3_4).bind fun t67 => if t61 = t67 then ((getQ mu 7 11 u0_4).bind fun t69 => t69.bind fun a71 => (ald mu a71 w3_4).bind fun t73 => (getQ mu 7 9 u0_4).bind fun t75 => t75.bind fun a77 => (ald mu a77 w3_4).bind fun t79 => if t73 = t79 then (f_X5_differs_L4 mu u0_4 u1_4 k9 n (w2_4 + 0) (w3_4 + 1)) else (f_X5_differs_L4 mu u0_4 u1_4 k9 n (w2_4 + 1) (w3_4 + 1))) else (f_X5_differs_L4 mu u0_4 u1_4 k9 n (w2_4 + 1) (w3_4 + 1))) else (f_X5_differs_L4 mu u0_4 u1_4 k9 n (w2_4 + 1) (w3_4 + 1))))) else (f_X5_differs_L4 mu u0_4 u1_4 k9 n w2_4 (w3_4 + 1)))
def f_X5_differs (mu : Mem) (x0 : Nat) (x1 : Int32) : Option (Int32) := f_X5_differs_L4 mu x0 x1 (fun (zw2_4 : Int32) (zw3_4 : Int32) => some zw2_4) 200 0 0
set_option maxHeartbeats 1000000 in
set_option maxRecDepth 100000 in
theorem k_X5_differs (l : Launch) (hsl : l.stackTraces = false) (G : GG) (A : Nat → Prop) (mu : Mem) (x0 : Nat) (x1 : Int32) (r : Int32) (hf : f_X5_differs mu x0 x1 = some r) : Ok l yX5_differs wsX5_differs ({ frames := 6, cells := 0, slots := 0, locals := 110 } : Room) [.ref x0, .int x1] G A mu (dP (.inr (rI r)) mu) := by
  refine Ok.start (cc := cX5_differs) (maxL := 4) (ret := (some .int)) rfl (by decide +kernel) hsl (by first | exact Nat.le_of_ble_eq_true rfl | simp [lg_sl, cat_rf, Value.category]) ?_
  intro p e s m args below meth c ls X hr hname hW hl
  have X : BX p l s m args meth c cX5_differs 4 RX5 wsX5_differs G A := X
  have hx := X.1
  have hb := X.2.1
  have hts := X.2.2.2.2.1
  have hl : lv_has ls 4 [(0, .ref x0), (1, .int x1)] := hl
  have hinX5 : ∀ w ∈ wsX50, w ∈ wsX5_differs := by decide +kernel
  have hF19 : (Cond.fieldLink RX5 19 "PartcopyistBenchModel" "partOf" "[I").before args s = true := hts _ (by decide +kernel)
  have hF31 : (Cond.fieldLink RX5 31 "PartcopyistBenchModel" "lengths" "[I").before args s = true := hts _ (by decide +kernel)
  have hF34 : (Cond.fieldLink RX5 34 "PartcopyistBenchModel" "pitches" "[I").before args s = true := hts _ (by decide +kernel)
  have hF37 : (Cond.fieldLink RX5 37 "PartcopyistBenchModel" "copyLengths" "[I").before args s = true := hts _ (by decide +kernel)
  have hF40 : (Cond.fieldLink RX5 40 "PartcopyistBenchModel" "copyPitches" "[I").before args s = true := hts _ (by decide +kernel)
  have hF47 : (Cond.fieldLink RX5 47 "PartcopyistBenchModel" "isOut" "[Z").before args s = true := hts _ (by decide +kernel)
  have hF91 : (Cond.fieldLink RX5 91 "PartcopyistBenchModel" "notes" "I").before args s = true := hts _ (by decide +kernel)
  unfold f_X5_differs at hf
  refine lv_iconst (v := 0) hx hb dX5_differs_0 (by decide) ?_
  refine lv_istore_n (lv' := [(2, .int 0), (0, .ref x0), (1, .int x1)]) hx hb dX5_differs_1 rfl hl (by decide) rfl (fun ls hl => ?_)
  refine lv_iconst (v := 0) hx hb dX5_differs_2 (by decide) ?_
  refine lv_istore_n (lv' := [(3, .int 0), (2, .int 0), (0, .ref x0), (1, .int x1)]) hx hb dX5_differs_3 rfl hl (by decide) rfl (fun ls hl => ?_)
  have L4 : ∀ (u0_4 : Nat) (u1_4 : Int32) (k9 : Int32 → Int32 → Option (Int32)),
      (∀ (w2_4 : Int32) (w3_4 : Int32) (H : Heap) (locs : List Loc) (ls : Array Slot), k9 w2_4 w3_4 = some r → MW G A mu s.heap H locs → lv_has ls 4 [(0, .ref u0_4), (1, .int u1_4), (2, .int w2_4), (3, .int w3_4)] → W p l e ({ frames := 6, cells := 0, slots := 0, locals := 110 } : Room) s m args below meth c H locs 0 0 (QQ below G A (dP (.inr (rI r)) mu) args s 0 0) (F0 m 96 ls [])) →
      ∀ (n : Nat) (w2_4 : Int32) (w3_4 : Int32) (H : Heap) (locs : List Loc) (ls : Array Slot), f_X5_differs_L4 mu u0_4 u1_4 k9 n w2_4 w3_4 = some r → MW G A mu s.heap H locs → lv_has ls 4 [(0, .ref u0_4), (1, .int u1_4), (2, .int w2_4), (3, .int w3_4)] → W p l e ({ frames := 6, cells := 0, slots := 0, locals := 110 } : Room) s m args below meth c H locs 0 0 (QQ below G A (dP (.inr (rI r)) mu) args s 0 0) (F0 m 4 ls []) := by
    intro u0_4 u1_4 k9 hk4 n
    induction n with
    | zero => intro w2_4 w3_4 H locs ls hf hW hl; rw [f_X5_differs_L4] at hf; cases hf
    | succ n ih4 =>
      intro w2_4 w3_4 H locs ls hf hW hl
      rw [f_X5_differs_L4] at hf
      refine lv_iload_n hx hb dX5_differs_4 rfl (lv_at hl 3 rfl) ?_
      refine lv_aload_n hx hb dX5_differs_5 rfl (lv_at hl 0 rfl) ?_
      replace hf := bnd hf
      obtain ⟨t1, h2, hf⟩ := hf
      refine g_7_17 X hW hinX5 hF91 h2 dX5_differs_6 ?_
      refine lv_icmp_ge (tgt := 96) hx hb dX5_differs_9 (by decide) (fun hc => ?_) (fun hc => ?_)
      · replace hf := itp hc hf
        exact hk4 _ _ _ _ _ hf hW (lv_sub hl [0, 1, 2, 3] rfl)
      · replace hf := itn hc hf
        refine lv_aload_n hx hb dX5_differs_12 rfl (lv_at hl 0 rfl) ?_
        replace hf := bnd hf
        obtain ⟨t3, h4, hf⟩ := hf
        refine g_7_4 X hW hinX5 hF19 h4 dX5_differs_13 ?_
        refine lv_iload_n hx hb dX5_differs_16 rfl (lv_at hl 3 rfl) ?_
        replace hf := bnd hf
        obtain ⟨a5, h6, hf⟩ := hf
        subst h6
        replace hf := bnd hf
        obtain ⟨t7, h8, hf⟩ := hf
        refine r_ald X hW h8 dX5_differs_17 ?_
        refine lv_iload_n hx hb dX5_differs_18 rfl (lv_at hl 1 rfl) ?_
        refine lv_icmp_ne (tgt := 90) hx hb dX5_differs_19 (by decide) (fun hc => ?_) (fun hc => ?_)
        · replace hf := itn hc hf
          refine lv_iinc (v := (w3_4 + 1)) (lv' := [(3, .int (w3_4 + 1)), (0, .ref u0_4), (1, .int u1_4), (2, .int w2_4)]) hx hb dX5_differs_90 hl (k := 3) rfl rfl (by decide) rfl (fun ls hl => ?_)
          refine lv_goto (tgt := 4) hx hb dX5_differs_93 (by decide) ?_
          exact ih4 _ _ _ _ _ hf hW (lv_sub hl [1, 2, 3, 0] rfl)
        · replace hf := itp hc hf
          refine lv_aload_n hx hb dX5_differs_22 rfl (lv_at hl 0 rfl) ?_
          replace hf := bnd hf
          obtain ⟨t9, h10, hf⟩ := hf
          refine g_7_13 X hW hinX5 hF47 h10 dX5_differs_23 ?_
          refine lv_iload_n hx hb dX5_differs_26 rfl (lv_at hl 3 rfl) ?_
          replace hf := bnd hf
          obtain ⟨a11, h12, hf⟩ := hf
          subst h12
          replace hf := bnd hf
          obtain ⟨t13, h14, hf⟩ := hf
          refine r_zld X hW h14 dX5_differs_27 ?_
          refine lv_if_eq (tgt := 43) hx hb dX5_differs_28 (by decide) (fun hc => ?_) (fun hc => ?_)
          · replace hf := itp hc hf
            refine lv_iload_n hx hb dX5_differs_43 rfl (lv_at hl 2 rfl) ?_
            refine lv_aload_n hx hb dX5_differs_44 rfl (lv_at hl 0 rfl) ?_
            replace hf := bnd hf
            obtain ⟨t15, h16, hf⟩ := hf
            refine g_7_13 X hW hinX5 hF47 h16 dX5_differs_45 ?_
            refine lv_iload_n hx hb dX5_differs_48 rfl (lv_at hl 3 rfl) ?_
            replace hf := bnd hf
            obtain ⟨a17, h18, hf⟩ := hf
            subst h18
            replace hf := bnd hf
            obtain ⟨t19, h20, hf⟩ := hf
            refine r_zld X hW h20 dX5_differs_49 ?_
            refine lv_if_ne (tgt := 83) hx hb dX5_differs_50 (by decide) (fun hc => ?_) (fun hc => ?_)
            · replace hf := itn hc hf
              refine lv_iconst (v := 1) hx hb dX5_differs_83 (by decide) ?_
              refine lv_goto (tgt := 88) hx hb dX5_differs_84 (by decide) ?_
              refine lv_iadd hx hb dX5_differs_88 ?_
              refine lv_istore_n (lv' := [(2, .int (w2_4 + 1)), (0, .ref u0_4), (1, .int u1_4), (3, .int w3_4)]) hx hb dX5_differs_89 rfl hl (by decide) rfl (fun ls hl => ?_)
              refine lv_iinc (v := (w3_4 + 1)) (lv' := [(3, .int (w3_4 + 1)), (2, .int (w2_4 + 1)), (0, .ref u0_4), (1, .int u1_4)]) hx hb dX5_differs_90 hl (k := 3) rfl rfl (by decide) rfl (fun ls hl => ?_)
              refine lv_goto (tgt := 4) hx hb dX5_differs_93 (by decide) ?_
              exact ih4 _ _ _ _ _ hf hW (lv_sub hl [2, 3, 1, 0] rfl)
            · replace hf := itp hc hf
              refine lv_aload_n hx hb dX5_differs_53 rfl (lv_at hl 0 rfl) ?_
              replace hf := bnd hf
              obtain ⟨t21, h22, hf⟩ := hf
              refine g_7_10 X hW hinX5 hF37 h22 dX5_differs_54 ?_
              refine lv_iload_n hx hb dX5_differs_57 rfl (lv_at hl 3 rfl) ?_
              replace hf := bnd hf
              obtain ⟨a23, h24, hf⟩ := hf
              subst h24
              replace hf := bnd hf
              obtain ⟨t25, h26, hf⟩ := hf
              refine r_ald X hW h26 dX5_differs_58 ?_
              refine lv_aload_n hx hb dX5_differs_59 rfl (lv_at hl 0 rfl) ?_
              replace hf := bnd hf
              obtain ⟨t27, h28, hf⟩ := hf
              refine g_7_8 X hW hinX5 hF31 h28 dX5_differs_60 ?_
              refine lv_iload_n hx hb dX5_differs_63 rfl (lv_at hl 3 rfl) ?_
              replace hf := bnd hf
              obtain ⟨a29, h30, hf⟩ := hf
              subst h30
              replace hf := bnd hf
              obtain ⟨t31, h32, hf⟩ := hf
              refine r_ald X hW h32 dX5_differs_64 ?_
              refine lv_icmp_ne (tgt := 83) hx hb dX5_differs_65 (by decide) (fun hc => ?_) (fun hc => ?_)
              · replace hf := itn hc hf
                refine lv_iconst (v := 1) hx hb dX5_differs_83 (by decide) ?_
                refine lv_goto (tgt := 88) hx hb dX5_differs_84 (by decide) ?_
                refine lv_iadd hx hb dX5_differs_88 ?_
                refine lv_istore_n (lv' := [(2, .int (w2_4 + 1)), (0, .ref u0_4), (1, .int u1_4), (3, .int w3_4)]) hx hb dX5_differs_89 rfl hl (by decide) rfl (fun ls hl => ?_)
                refine lv_iinc (v := (w3_4 + 1)) (lv' := [(3, .int (w3_4 + 1)), (2, .int (w2_4 + 1)), (0, .ref u0_4), (1, .int u1_4)]) hx hb dX5_differs_90 hl (k := 3) rfl rfl (by decide) rfl (fun ls hl => ?_)
                refine lv_goto (tgt := 4) hx hb dX5_differs_93 (by decide) ?_
                exact ih4 _ _ _ _ _ hf hW (lv_sub hl [2, 3, 1, 0] rfl)
              · replace hf := itp hc hf
                refine lv_aload_n hx hb dX5_differs_68 rfl (lv_at hl 0 rfl) ?_
                replace hf := bnd hf
                obtain ⟨t33, h34, hf⟩ := hf
                refine g_7_11 X hW hinX5 hF40 h34 dX5_differs_69 ?_
                refine lv_iload_n hx hb dX5_differs_72 rfl (lv_at hl 3 rfl) ?_
                replace hf := bnd hf
                obtain ⟨a35, h36, hf⟩ := hf
                subst h36
                replace hf := bnd hf
                obtain ⟨t37, h38, hf⟩ := hf
                refine r_ald X hW h38 dX5_differs_73 ?_
                refine lv_aload_n hx hb dX5_differs_74 rfl (lv_at hl 0 rfl) ?_
                replace hf := bnd hf
                obtain ⟨t39, h40, hf⟩ := hf
                refine g_7_9 X hW hinX5 hF34 h40 dX5_differs_75 ?_
                refine lv_iload_n hx hb dX5_differs_78 rfl (lv_at hl 3 rfl) ?_
                replace hf := bnd hf
                obtain ⟨a41, h42, hf⟩ := hf
                subst h42
                replace hf := bnd hf
                obtain ⟨t43, h44, hf⟩ := hf
                refine r_ald X hW h44 dX5_differs_79 ?_
                refine lv_icmp_eq (tgt := 87) hx hb dX5_differs_80 (by decide) (fun hc => ?_) (fun hc => ?_)
                · replace hf := itp hc hf
                  refine lv_iconst (v := 0) hx hb dX5_differs_87 (by decide) ?_
                  refine lv_iadd hx hb dX5_differs_88 ?_
                  refine lv_istore_n (lv' := [(2, .int (w2_4 + 0)), (0, .ref u0_4), (1, .int u1_4), (3, .int w3_4)]) hx hb dX5_differs_89 rfl hl (by decide) rfl (fun ls hl => ?_)
                  refine lv_iinc (v := (w3_4 + 1)) (lv' := [(3, .int (w3_4 + 1)), (2, .int (w2_4 + 0)), (0, .ref u0_4), (1, .int u1_4)]) hx hb dX5_differs_90 hl (k := 3) rfl rfl (by decide) rfl (fun ls hl => ?_)
                  refine lv_goto (tgt := 4) hx hb dX5_differs_93 (by decide) ?_
                  exact ih4 _ _ _ _ _ hf hW (lv_sub hl [2, 3, 1, 0] rfl)
                · replace hf := itn hc hf
                  refine lv_iconst (v := 1) hx hb dX5_differs_83 (by decide) ?_
                  refine lv_goto (tgt := 88) hx hb dX5_differs_84 (by decide) ?_
                  refine lv_iadd hx hb dX5_differs_88 ?_
                  refine lv_istore_n (lv' := [(2, .int (w2_4 + 1)), (0, .ref u0_4), (1, .int u1_4), (3, .int w3_4)]) hx hb dX5_differs_89 rfl hl (by decide) rfl (fun ls hl => ?_)
                  refine lv_iinc (v := (w3_4 + 1)) (lv' := [(3, .int (w3_4 + 1)), (2, .int (w2_4 + 1)), (0, .ref u0_4), (1, .int u1_4)]) hx hb dX5_differs_90 hl (k := 3) rfl rfl (by decide) rfl (fun ls hl => ?_)
                  refine lv_goto (tgt := 4) hx hb dX5_differs_93 (by decide) ?_
                  exact ih4 _ _ _ _ _ hf hW (lv_sub hl [2, 3, 1, 0] rfl)
          · replace hf := itn hc hf
            refine lv_aload_n hx hb dX5_differs_31 rfl (lv_at hl 0 rfl) ?_
            replace hf := bnd hf
            obtain ⟨t45, h46, hf⟩ := hf
            refine g_7_10 X hW hinX5 hF37 h46 dX5_differs_32 ?_
            refine lv_iload_n hx hb dX5_differs_35 rfl (lv_at hl 3 rfl) ?_
            replace hf := bnd hf
            obtain ⟨a47, h48, hf⟩ := hf
            subst h48
            replace hf := bnd hf
            obtain ⟨t49, h50, hf⟩ := hf
            refine r_ald X hW h50 dX5_differs_36 ?_
            refine lv_if_ne (tgt := 43) hx hb dX5_differs_37 (by decide) (fun hc => ?_) (fun hc => ?_)
            · replace hf := itn hc hf
              refine lv_iload_n hx hb dX5_differs_43 rfl (lv_at hl 2 rfl) ?_
              refine lv_aload_n hx hb dX5_differs_44 rfl (lv_at hl 0 rfl) ?_
              replace hf := bnd hf
              obtain ⟨t51, h52, hf⟩ := hf
              refine g_7_13 X hW hinX5 hF47 h52 dX5_differs_45 ?_
              refine lv_iload_n hx hb dX5_differs_48 rfl (lv_at hl 3 rfl) ?_
              replace hf := bnd hf
              obtain ⟨a53, h54, hf⟩ := hf
              subst h54
              replace hf := bnd hf
              obtain ⟨t55, h56, hf⟩ := hf
              refine r_zld X hW h56 dX5_differs_49 ?_
              refine lv_if_ne (tgt := 83) hx hb dX5_differs_50 (by decide) (fun hc => ?_) (fun hc => ?_)
              · replace hf := itn hc hf
                refine lv_iconst (v := 1) hx hb dX5_differs_83 (by decide) ?_
                refine lv_goto (tgt := 88) hx hb dX5_differs_84 (by decide) ?_
                refine lv_iadd hx hb dX5_differs_88 ?_
                refine lv_istore_n (lv' := [(2, .int (w2_4 + 1)), (0, .ref u0_4), (1, .int u1_4), (3, .int w3_4)]) hx hb dX5_differs_89 rfl hl (by decide) rfl (fun ls hl => ?_)
                refine lv_iinc (v := (w3_4 + 1)) (lv' := [(3, .int (w3_4 + 1)), (2, .int (w2_4 + 1)), (0, .ref u0_4), (1, .int u1_4)]) hx hb dX5_differs_90 hl (k := 3) rfl rfl (by decide) rfl (fun ls hl => ?_)
                refine lv_goto (tgt := 4) hx hb dX5_differs_93 (by decide) ?_
                exact ih4 _ _ _ _ _ hf hW (lv_sub hl [2, 3, 1, 0] rfl)
              · replace hf := itp hc hf
                refine lv_aload_n hx hb dX5_differs_53 rfl (lv_at hl 0 rfl) ?_
                replace hf := bnd hf
                obtain ⟨t57, h58, hf⟩ := hf
                refine g_7_10 X hW hinX5 hF37 h58 dX5_differs_54 ?_
                refine lv_iload_n hx hb dX5_differs_57 rfl (lv_at hl 3 rfl) ?_
                replace hf := bnd hf
                obtain ⟨a59, h60, hf⟩ := hf
                subst h60
                replace hf := bnd hf
                obtain ⟨t61, h62, hf⟩ := hf
                refine r_ald X hW h62 dX5_differs_58 ?_
                refine lv_aload_n hx hb dX5_differs_59 rfl (lv_at hl 0 rfl) ?_
                replace hf := bnd hf
                obtain ⟨t63, h64, hf⟩ := hf
                refine g_7_8 X hW hinX5 hF31 h64 dX5_differs_60 ?_
                refine lv_iload_n hx hb dX5_differs_63 rfl (lv_at hl 3 rfl) ?_
                replace hf := bnd hf
                obtain ⟨a65, h66, hf⟩ := hf
                subst h66
                replace hf := bnd hf
                obtain ⟨t67, h68, hf⟩ := hf
                refine r_ald X hW h68 dX5_differs_64 ?_
                refine lv_icmp_ne (tgt := 83) hx hb dX5_differs_65 (by decide) (fun hc => ?_) (fun hc => ?_)
                · replace hf := itn hc hf
                  refine lv_iconst (v := 1) hx hb dX5_differs_83 (by decide) ?_
                  refine lv_goto (tgt := 88) hx hb dX5_differs_84 (by decide) ?_
                  refine lv_iadd hx hb dX5_differs_88 ?_
                  refine lv_istore_n (lv' := [(2, .int (w2_4 + 1)), (0, .ref u0_4), (1, .int u1_4), (3, .int w3_4)]) hx hb dX5_differs_89 rfl hl (by decide) rfl (fun ls hl => ?_)
                  refine lv_iinc (v := (w3_4 + 1)) (lv' := [(3, .int (w3_4 + 1)), (2, .int (w2_4 + 1)), (0, .ref u0_4), (1, .int u1_4)]) hx hb dX5_differs_90 hl (k := 3) rfl rfl (by decide) rfl (fun ls hl => ?_)
                  refine lv_goto (tgt := 4) hx hb dX5_differs_93 (by decide) ?_
                  exact ih4 _ _ _ _ _ hf hW (lv_sub hl [2, 3, 1, 0] rfl)
                · replace hf := itp hc hf
                  refine lv_aload_n hx hb dX5_differs_68 rfl (lv_at hl 0 rfl) ?_
                  replace hf := bnd hf
                  obtain ⟨t69, h70, hf⟩ := hf
                  refine g_7_11 X hW hinX5 hF40 h70 dX5_differs_69 ?_
                  refine lv_iload_n hx hb dX5_differs_72 rfl (lv_at hl 3 rfl) ?_
                  replace hf := bnd hf
                  obtain ⟨a71, h72, hf⟩ := hf
                  subst h72
                  replace hf := bnd hf
                  obtain ⟨t73, h74, hf⟩ := hf
                  refine r_ald X hW h74 dX5_differs_73 ?_
                  refine lv_aload_n hx hb dX5_differs_74 rfl (lv_at hl 0 rfl) ?_
                  replace hf := bnd hf
                  obtain ⟨t75, h76, hf⟩ := hf
                  refine g_7_9 X hW hinX5 hF34 h76 dX5_differs_75 ?_
                  refine lv_iload_n hx hb dX5_differs_78 rfl (lv_at hl 3 rfl) ?_
                  replace hf := bnd hf
                  obtain ⟨a77, h78, hf⟩ := hf
                  subst h78
                  replace hf := bnd hf
                  obtain ⟨t79, h80, hf⟩ := hf
                  refine r_ald X hW h80 dX5_differs_79 ?_
                  refine lv_icmp_eq (tgt := 87) hx hb dX5_differs_80 (by decide) (fun hc => ?_) (fun hc => ?_)
                  · replace hf := itp hc hf
                    refine lv_iconst (v := 0) hx hb dX5_differs_87 (by decide) ?_
                    refine lv_iadd hx hb dX5_differs_88 ?_
                    refine lv_istore_n (lv' := [(2, .int (w2_4 + 0)), (0, .ref u0_4), (1, .int u1_4), (3, .int w3_4)]) hx hb dX5_differs_89 rfl hl (by decide) rfl (fun ls hl => ?_)
                    refine lv_iinc (v := (w3_4 + 1)) (lv' := [(3, .int (w3_4 + 1)), (2, .int (w2_4 + 0)), (0, .ref u0_4), (1, .int u1_4)]) hx hb dX5_differs_90 hl (k := 3) rfl rfl (by decide) rfl (fun ls hl => ?_)
                    refine lv_goto (tgt := 4) hx hb dX5_differs_93 (by decide) ?_
                    exact ih4 _ _ _ _ _ hf hW (lv_sub hl [2, 3, 1, 0] rfl)
                  · replace hf := itn hc hf
                    refine lv_iconst (v := 1) hx hb dX5_differs_83 (by decide) ?_
                    refine lv_goto (tgt := 88) hx hb dX5_differs_84 (by decide) ?_
                    refine lv_iadd hx hb dX5_differs_88 ?_
                    refine lv_istore_n (lv' := [(2, .int (w2_4 + 1)), (0, .ref u0_4), (1, .int u1_4), (3, .int w3_4)]) hx hb dX5_differs_89 rfl hl (by decide) rfl (fun ls hl => ?_)
                    refine lv_iinc (v := (w3_4 + 1)) (lv' := [(3, .int (w3_4 + 1)), (2, .int (w2_4 + 1)), (0, .ref u0_4), (1, .int u1_4)]) hx hb dX5_differs_90 hl (k := 3) rfl rfl (by decide) rfl (fun ls hl => ?_)
                    refine lv_goto (tgt := 4) hx hb dX5_differs_93 (by decide) ?_
                    exact ih4 _ _ _ _ _ hf hW (lv_sub hl [2, 3, 1, 0] rfl)
            · replace hf := itp hc hf
              refine lv_goto (tgt := 90) hx hb dX5_differs_40 (by decide) ?_
              refine lv_iinc (v := (w3_4 + 1)) (lv' := [(3, .int (w3_4 + 1)), (0, .ref u0_4), (1, .int u1_4), (2, .int w2_4)]) hx hb dX5_differs_90 hl (k := 3) rfl rfl (by decide) rfl (fun ls hl => ?_)
              refine lv_goto (tgt := 4) hx hb dX5_differs_93 (by decide) ?_
              exact ih4 _ _ _ _ _ hf hW (lv_sub hl [1, 2, 3, 0] rfl)
  refine L4 x0 x1 _ ?_ 200 0 0 _ _ _ hf hW (lv_sub hl [2, 3, 1, 0] rfl)
  intro zw2_4 zw3_4 H locs ls hf hW hl
  refine lv_iload_n hx hb dX5_differs_96 rfl (lv_at hl 2 rfl) ?_
  exact r_iret X hr hW (by cases hf; exact ⟨rfl, rfl⟩) (by decide) (by decide) dX5_differs_97

def f_X5_takes_L9 (u0_9 : Nat) (u1_9 : Int32) (k9 : Mem → Int32 → Option ((Unit) × Mem)) : Nat → Mem → Int32 → Option ((Unit) × Mem)
  | 0, _, _ => none
  | n + 1, mu9, w2_9 => (getI mu9 7 17 u0_9).bind fun t7 => if t7 ≤ w2_9 then (k9 mu9 w2_9) else ((getQ mu9 7 4 u0_9).bind fun t9 => t9.bind fun a11 => (ald mu9 a11 w2_9).bind fun t13 => if t13 = u1_9 then ((getQ mu9 7 10 u0_9).bind fun t15 => (getQ mu9 7 13 u0_9).bind fun t17 => t17.bind fun a19 => (zld mu9 a19 w2_9).bind fun t21 => if t21 = 0 then ((getQ mu9 7 8 u0_9).bind fun t23 => t23.bind fun a25 => (ald mu9 a25 w2_9).bind fun t27 => t15.bind fun a29 => (ast mu9 a29 w2_9 t27).bind fun m31 => (getQ m31 7 11 u0_9).bind fun t33 => (getQ m31 7 9 u0_9).bind fun t35 => t35.bind fun a37 => (ald m31 a37 w2_9).bind fun t39 => t33.bind fun a41 => (ast m31 a41 w2_9 t39).bind fun m43 => f_X5_takes_L9 u0_9 u1_9 k9 n m43 (w2_9 + 1)) else (t15.bind fun a45 => (ast mu9 a45 w2_9 0).bind fun m47 => (getQ m47 7 11 u0_9).bind fun t49 => (getQ m47 7 9 u0_9).bind fun t51 => t51.bind fun a53 => (ald m47 a53 w2_9).bind fun t55 => t49.bind fun a57 => (ast m47 a57 w2_9 t55).bind fun m59 => f_X5_takes_L9 u0_9 u1_9 k9 n m59 (w2_9 + 1))) else (f_X5_takes_L9 u0_9 u1_9 k9 n mu9 (w2_9 + 1)))
def f_X5_takes (mu : Mem) (x0 : Nat) (x1 : Int32) : Option ((Unit) × Mem) := (getQ mu 7 14 x0).bind fun t1 => t1.bind fun a3 => (zst mu a3 x1 1).bind fun m5 => f_X5_takes_L9 x0 x1 (fun (zmu9 : Mem) (zw2_9 : Int32) => some ((), zmu9)) 200 m5 0
set_option maxHeartbeats 1000000 in
set_option maxRecDepth 100000 in
theorem k_X5_takes (l : Launch) (hsl : l.stackTraces = false) (G : GG) (A : Nat → Prop) (mu : Mem) (x0 : Nat) (x1 : Int32) (r : (Unit) × Mem) (hf : f_X5_takes mu x0 x1 = some r) : Ok l yX5_takes wsX5_takes ({ frames := 6, cells := 0, slots := 0, locals := 110 } : Room) [.ref x0, .int x1] G A mu (dP (.inr (rV r.1)) r.2) := by
  refine Ok.start (cc := cX5_takes) (maxL := 3) (ret := none) rfl (by decide +kernel) hsl (by first | exact Nat.le_of_ble_eq_true rfl | simp [lg_sl, cat_rf, Value.category]) ?_
  intro p e s m args below meth c ls X hr hname hW hl
  have X : BX p l s m args meth c cX5_takes 3 RX5 wsX5_takes G A := X
  have hx := X.1
  have hb := X.2.1
  have hts := X.2.2.2.2.1
  have hl : lv_has ls 3 [(0, .ref x0), (1, .int x1)] := hl
  have hinX5 : ∀ w ∈ wsX50, w ∈ wsX5_takes := by decide +kernel
  have hF19 : (Cond.fieldLink RX5 19 "PartcopyistBenchModel" "partOf" "[I").before args s = true := hts _ (by decide +kernel)
  have hF31 : (Cond.fieldLink RX5 31 "PartcopyistBenchModel" "lengths" "[I").before args s = true := hts _ (by decide +kernel)
  have hF34 : (Cond.fieldLink RX5 34 "PartcopyistBenchModel" "pitches" "[I").before args s = true := hts _ (by decide +kernel)
  have hF37 : (Cond.fieldLink RX5 37 "PartcopyistBenchModel" "copyLengths" "[I").before args s = true := hts _ (by decide +kernel)
  have hF40 : (Cond.fieldLink RX5 40 "PartcopyistBenchModel" "copyPitches" "[I").before args s = true := hts _ (by decide +kernel)
  have hF47 : (Cond.fieldLink RX5 47 "PartcopyistBenchModel" "isOut" "[Z").before args s = true := hts _ (by decide +kernel)
  have hF50 : (Cond.fieldLink RX5 50 "PartcopyistBenchModel" "isCopied" "[Z").before args s = true := hts _ (by decide +kernel)
  have hF91 : (Cond.fieldLink RX5 91 "PartcopyistBenchModel" "notes" "I").before args s = true := hts _ (by decide +kernel)
  unfold f_X5_takes at hf
  refine lv_aload_n hx hb dX5_takes_0 rfl (lv_at hl 0 rfl) ?_
  replace hf := bnd hf
  obtain ⟨t1, h2, hf⟩ := hf
  refine g_7_14 X hW hinX5 hF50 h2 dX5_takes_1 ?_
  refine lv_iload_n hx hb dX5_takes_4 rfl (lv_at hl 1 rfl) ?_
  refine lv_iconst (v := 1) hx hb dX5_takes_5 (by decide) ?_
  replace hf := bnd hf
  obtain ⟨a3, h4, hf⟩ := hf
  subst h4
  replace hf := bnd hf
  obtain ⟨m5, h6, hf⟩ := hf
  refine r_zst X hW h6 dX5_takes_6 (fun H locs hW => ?_)
  refine lv_iconst (v := 0) hx hb dX5_takes_7 (by decide) ?_
  refine lv_istore_n (lv' := [(2, .int 0), (0, .ref x0), (1, .int x1)]) hx hb dX5_takes_8 rfl hl (by decide) rfl (fun ls hl => ?_)
  have L9 : ∀ (u0_9 : Nat) (u1_9 : Int32) (k9 : Mem → Int32 → Option ((Unit) × Mem)),
      (∀ (mu9 : Mem) (w2_9 : Int32) (H : Heap) (locs : List Loc) (ls : Array Slot), k9 mu9 w2_9 = some r → MW G A mu9 s.heap H locs → lv_has ls 3 [(0, .ref u0_9), (1, .int u1_9), (2, .int w2_9)] → W p l e ({ frames := 6, cells := 0, slots := 0, locals := 110 } : Room) s m args below meth c H locs 0 0 (QQ below G A (dP (.inr (rV r.1)) r.2) args s 0 0) (F0 m 73 ls [])) →
      ∀ (n : Nat) (mu9 : Mem) (w2_9 : Int32) (H : Heap) (locs : List Loc) (ls : Array Slot), f_X5_takes_L9 u0_9 u1_9 k9 n mu9 w2_9 = some r → MW G A mu9 s.heap H locs → lv_has ls 3 [(0, .ref u0_9), (1, .int u1_9), (2, .int w2_9)] → W p l e ({ frames := 6, cells := 0, slots := 0, locals := 110 } : Room) s m args below meth c H locs 0 0 (QQ below G A (dP (.inr (rV r.1)) r.2) args s 0 0) (F0 m 9 ls []) := by
    intro u0_9 u1_9 k9 hk9 n
    induction n with
    | zero => intro mu9 w2_9 H locs ls hf hW hl; rw [f_X5_takes_L9] at hf; cases hf
    | succ n ih9 =>
      intro mu9 w2_9 H locs ls hf hW hl
      rw [f_X5_takes_L9] at hf
      refine lv_iload_n hx hb dX5_takes_9 rfl (lv_at hl 2 rfl) ?_
      refine lv_aload_n hx hb dX5_takes_10 rfl (lv_at hl 0 rfl) ?_
      replace hf := bnd hf
      obtain ⟨t7, h8, hf⟩ := hf
      refine g_7_17 X hW hinX5 hF91 h8 dX5_takes_11 ?_
      refine lv_icmp_ge (tgt := 73) hx hb dX5_takes_14 (by decide) (fun hc => ?_) (fun hc => ?_)
      · replace hf := itp hc hf
        exact hk9 _ _ _ _ _ hf hW (lv_sub hl [0, 1, 2] rfl)
      · replace hf := itn hc hf
        refine lv_aload_n hx hb dX5_takes_17 rfl (lv_at hl 0 rfl) ?_
        replace hf := bnd hf
        obtain ⟨t9, h10, hf⟩ := hf
        refine g_7_4 X hW hinX5 hF19 h10 dX5_takes_18 ?_
        refine lv_iload_n hx hb dX5_takes_21 rfl (lv_at hl 2 rfl) ?_
        replace hf := bnd hf
        obtain ⟨a11, h12, hf⟩ := hf
        subst h12
        replace hf := bnd hf
        obtain ⟨t13, h14, hf⟩ := hf
        refine r_ald X hW h14 dX5_takes_22 ?_
        refine lv_iload_n hx hb dX5_takes_23 rfl (lv_at hl 1 rfl) ?_
        refine lv_icmp_eq (tgt := 30) hx hb dX5_takes_24 (by decide) (fun hc => ?_) (fun hc => ?_)
        · replace hf := itp hc hf
          refine lv_aload_n hx hb dX5_takes_30 rfl (lv_at hl 0 rfl) ?_
          replace hf := bnd hf
          obtain ⟨t15, h16, hf⟩ := hf
          refine g_7_10 X hW hinX5 hF37 h16 dX5_takes_31 ?_
          refine lv_iload_n hx hb dX5_takes_34 rfl (lv_at hl 2 rfl) ?_
          refine lv_aload_n hx hb dX5_takes_35 rfl (lv_at hl 0 rfl) ?_
          replace hf := bnd hf
          obtain ⟨t17, h18, hf⟩ := hf
          refine g_7_13 X hW hinX5 hF47 h18 dX5_takes_36 ?_
          refine lv_iload_n hx hb dX5_takes_39 rfl (lv_at hl 2 rfl) ?_
          replace hf := bnd hf
          obtain ⟨a19, h20, hf⟩ := hf
          subst h20
          replace hf := bnd hf
          obtain ⟨t21, h22, hf⟩ := hf
          refine r_zld X hW h22 dX5_takes_40 ?_
          refine lv_if_eq (tgt := 48) hx hb dX5_takes_41 (by decide) (fun hc => ?_) (fun hc => ?_)
          · replace hf := itp hc hf
            refine lv_aload_n hx hb dX5_takes_48 rfl (lv_at hl 0 rfl) ?_
            replace hf := bnd hf
            obtain ⟨t23, h24, hf⟩ := hf
            refine g_7_8 X hW hinX5 hF31 h24 dX5_takes_49 ?_
            refine lv_iload_n hx hb dX5_takes_52 rfl (lv_at hl 2 rfl) ?_
            replace hf := bnd hf
            obtain ⟨a25, h26, hf⟩ := hf
            subst h26
            replace hf := bnd hf
            obtain ⟨t27, h28, hf⟩ := hf
            refine r_ald X hW h28 dX5_takes_53 ?_
            replace hf := bnd hf
            obtain ⟨a29, h30, hf⟩ := hf
            subst h30
            replace hf := bnd hf
            obtain ⟨m31, h32, hf⟩ := hf
            refine r_ast X hW h32 dX5_takes_54 (fun H locs hW => ?_)
            refine lv_aload_n hx hb dX5_takes_55 rfl (lv_at hl 0 rfl) ?_
            replace hf := bnd hf
            obtain ⟨t33, h34, hf⟩ := hf
            refine g_7_11 X hW hinX5 hF40 h34 dX5_takes_56 ?_
            refine lv_iload_n hx hb dX5_takes_59 rfl (lv_at hl 2 rfl) ?_
            refine lv_aload_n hx hb dX5_takes_60 rfl (lv_at hl 0 rfl) ?_
            replace hf := bnd hf
            obtain ⟨t35, h36, hf⟩ := hf
            refine g_7_9 X hW hinX5 hF34 h36 dX5_takes_61 ?_
            refine lv_iload_n hx hb dX5_takes_64 rfl (lv_at hl 2 rfl) ?_
            replace hf := bnd hf
            obtain ⟨a37, h38, hf⟩ := hf
            subst h38
            replace hf := bnd hf
            obtain ⟨t39, h40, hf⟩ := hf
            refine r_ald X hW h40 dX5_takes_65 ?_
            replace hf := bnd hf
            obtain ⟨a41, h42, hf⟩ := hf
            subst h42
            replace hf := bnd hf
            obtain ⟨m43, h44, hf⟩ := hf
            refine r_ast X hW h44 dX5_takes_66 (fun H locs hW => ?_)
            refine lv_iinc (v := (w2_9 + 1)) (lv' := [(2, .int (w2_9 + 1)), (0, .ref u0_9), (1, .int u1_9)]) hx hb dX5_takes_67 hl (k := 2) rfl rfl (by decide) rfl (fun ls hl => ?_)
            refine lv_goto (tgt := 9) hx hb dX5_takes_70 (by decide) ?_
            exact ih9 _ _ _ _ _ hf hW (lv_sub hl [1, 2, 0] rfl)
          · replace hf := itn hc hf
            refine lv_iconst (v := 0) hx hb dX5_takes_44 (by decide) ?_
            refine lv_goto (tgt := 54) hx hb dX5_takes_45 (by decide) ?_
            replace hf := bnd hf
            obtain ⟨a45, h46, hf⟩ := hf
            subst h46
            replace hf := bnd hf
            obtain ⟨m47, h48, hf⟩ := hf
            refine r_ast X hW h48 dX5_takes_54 (fun H locs hW => ?_)
            refine lv_aload_n hx hb dX5_takes_55 rfl (lv_at hl 0 rfl) ?_
            replace hf := bnd hf
            obtain ⟨t49, h50, hf⟩ := hf
            refine g_7_11 X hW hinX5 hF40 h50 dX5_takes_56 ?_
            refine lv_iload_n hx hb dX5_takes_59 rfl (lv_at hl 2 rfl) ?_
            refine lv_aload_n hx hb dX5_takes_60 rfl (lv_at hl 0 rfl) ?_
            replace hf := bnd hf
            obtain ⟨t51, h52, hf⟩ := hf
            refine g_7_9 X hW hinX5 hF34 h52 dX5_takes_61 ?_
            refine lv_iload_n hx hb dX5_takes_64 rfl (lv_at hl 2 rfl) ?_
            replace hf := bnd hf
            obtain ⟨a53, h54, hf⟩ := hf
            subst h54
            replace hf := bnd hf
            obtain ⟨t55, h56, hf⟩ := hf
            refine r_ald X hW h56 dX5_takes_65 ?_
            replace hf := bnd hf
            obtain ⟨a57, h58, hf⟩ := hf
            subst h58
            replace hf := bnd hf
            obtain ⟨m59, h60, hf⟩ := hf
            refine r_ast X hW h60 dX5_takes_66 (fun H locs hW => ?_)
            refine lv_iinc (v := (w2_9 + 1)) (lv' := [(2, .int (w2_9 + 1)), (0, .ref u0_9), (1, .int u1_9)]) hx hb dX5_takes_67 hl (k := 2) rfl rfl (by decide) rfl (fun ls hl => ?_)
            refine lv_goto (tgt := 9) hx hb dX5_takes_70 (by decide) ?_
            exact ih9 _ _ _ _ _ hf hW (lv_sub hl [1, 2, 0] rfl)
        · replace hf := itn hc hf
          refine lv_goto (tgt := 67) hx hb dX5_takes_27 (by decide) ?_
          refine lv_iinc (v := (w2_9 + 1)) (lv' := [(2, .int (w2_9 + 1)), (0, .ref u0_9), (1, .int u1_9)]) hx hb dX5_takes_67 hl (k := 2) rfl rfl (by decide) rfl (fun ls hl => ?_)
          refine lv_goto (tgt := 9) hx hb dX5_takes_70 (by decide) ?_
          exact ih9 _ _ _ _ _ hf hW (lv_sub hl [1, 2, 0] rfl)
  refine L9 x0 x1 _ ?_ 200 m5 0 _ _ _ hf hW (lv_sub hl [1, 2, 0] rfl)
  intro zmu9 zw2_9 H locs ls hf hW hl
  exact r_vret X hr hW (by cases hf; exact ⟨rfl, rfl⟩) (by decide) (by decide) dX5_takes_73

def f_X5_copyOut (mu : Mem) (x0 : Nat) (x1 : Int32) : Option ((Int32) × Mem) := (chk mu 7 x0).bind fun _ => bi2 (f_X5_isNoPart mu x0 x1) (fun (t2 : (Int32)) m4 => if t2 = 0 then ((chk m4 7 x0).bind fun _ => bi2 (f_X5_takes m4 x0 x1) (fun (t6 : (Unit)) m8 => (chk m8 7 x0).bind fun _ => (f_X5_manyOf m8 x0 x1).bind fun t10 => some (t10, m8))) else (some (0, m4)))
set_option maxHeartbeats 1000000 in
set_option maxRecDepth 100000 in
theorem k_X5_copyOut (l : Launch) (hsl : l.stackTraces = false) (G : GG) (A : Nat → Prop) (mu : Mem) (x0 : Nat) (x1 : Int32) (r : (Int32) × Mem) (hf : f_X5_copyOut mu x0 x1 = some r) : Ok l yX5_copyOut wsX5_copyOut ({ frames := 12, cells := 0, slots := 0, locals := 230 } : Room) [.ref x0, .int x1] G A mu (dP (.inr (rI r.1)) r.2) := by
  refine Ok.start (cc := cX5_copyOut) (maxL := 2) (ret := (some .int)) rfl (by decide +kernel) hsl (by first | exact Nat.le_of_ble_eq_true rfl | simp [lg_sl, cat_rf, Value.category]) ?_
  intro p e s m args below meth c ls X hr hname hW hl
  have X : BX p l s m args meth c cX5_copyOut 2 RX5 wsX5_copyOut G A := X
  have hx := X.1
  have hb := X.2.1
  have hts := X.2.2.2.2.1
  have hl : lv_has ls 2 [(0, .ref x0), (1, .int x1)] := hl
  unfold f_X5_copyOut at hf
  refine lv_aload_n hx hb dX5_copyOut_0 rfl (lv_at hl 0 rfl) ?_
  refine lv_iload_n hx hb dX5_copyOut_1 rfl (lv_at hl 1 rfl) ?_
  replace hf := bnd hf
  obtain ⟨_, h1, hf⟩ := hf
  replace hf := bnd2 hf
  obtain ⟨t2, m4, h3, hf⟩ := hf
  refine r_callV_ok (μ9 := m4) X hW hl.1 (k_X5_isNoPart l hsl G A mu x0 x1 _ h3) gX5_copyOut_X5_isNoPart rfl (chk_ok h1) (by decide) rfl (by decide +kernel) (n := 1) rfl (by decide) (Nat.le_of_ble_eq_true rfl) dX5_copyOut_2 rfl rfl (stk := [.int t2]) rfl (fun H locs hW => ?_)
  refine lv_if_eq (tgt := 10) hx hb dX5_copyOut_5 (by decide) (fun hc => ?_) (fun hc => ?_)
  · replace hf := itp hc hf
    refine lv_aload_n hx hb dX5_copyOut_10 rfl (lv_at hl 0 rfl) ?_
    refine lv_iload_n hx hb dX5_copyOut_11 rfl (lv_at hl 1 rfl) ?_
    replace hf := bnd hf
    obtain ⟨_, h5, hf⟩ := hf
    replace hf := bnd2 hf
    obtain ⟨t6, m8, h7, hf⟩ := hf
    refine r_callV_ok (μ9 := m8) X hW hl.1 (k_X5_takes l hsl G A m4 x0 x1 _ h7) gX5_copyOut_X5_takes rfl (chk_ok h5) (by decide) rfl (by decide +kernel) (n := 1) rfl (by decide) (Nat.le_of_ble_eq_true rfl) dX5_copyOut_12 rfl rfl (stk := []) rfl (fun H locs hW => ?_)
    refine lv_aload_n hx hb dX5_copyOut_15 rfl (lv_at hl 0 rfl) ?_
    refine lv_iload_n hx hb dX5_copyOut_16 rfl (lv_at hl 1 rfl) ?_
    replace hf := bnd hf
    obtain ⟨_, h9, hf⟩ := hf
    replace hf := bnd hf
    obtain ⟨t10, h11, hf⟩ := hf
    refine r_callV_ok X hW hl.1 (k_X5_manyOf l hsl G A m8 x0 x1 _ h11) gX5_copyOut_X5_manyOf rfl (chk_ok h9) (by decide) rfl (by decide +kernel) (n := 1) rfl (by decide) (Nat.le_of_ble_eq_true rfl) dX5_copyOut_17 rfl rfl (stk := [.int t10]) rfl (fun H locs hW => ?_)
    exact r_iret X hr hW (by cases hf; exact ⟨rfl, rfl⟩) (by decide) (by decide) dX5_copyOut_20
  · replace hf := itn hc hf
    refine lv_iconst (v := 0) hx hb dX5_copyOut_8 (by decide) ?_
    exact r_iret X hr hW (by cases hf; exact ⟨rfl, rfl⟩) (by decide) (by decide) dX5_copyOut_9

def f_X5_isNotCopied (mu : Mem) (x0 : Nat) (x1 : Int32) : Option ((Int32) × Mem) := (chk mu 7 x0).bind fun _ => bi2 (f_X5_isNoPart mu x0 x1) (fun (t2 : (Int32)) m4 => if t2 = 0 then ((getQ m4 7 14 x0).bind fun t7 => t7.bind fun a9 => (zld m4 a9 x1).bind fun t11 => if t11 = 0 then ((chk m4 7 x0).bind fun _ => bi2 (f_X5_fails m4 x0 2) (fun (t16 : (Int32)) m18 => (getI m18 7 0 x0).bind fun t19 => if t19 ≤ 0 then (some (0, m18)) else (some (1, m18)))) else ((getI m4 7 0 x0).bind fun t13 => if t13 ≤ 0 then (some (0, m4)) else (some (1, m4)))) else ((getI m4 7 0 x0).bind fun t5 => if t5 ≤ 0 then (some (0, m4)) else (some (1, m4))))
set_option maxHeartbeats 1000000 in
set_option maxRecDepth 100000 in
theorem k_X5_isNotCopied (l : Launch) (hsl : l.stackTraces = false) (G : GG) (A : Nat → Prop) (mu : Mem) (x0 : Nat) (x1 : Int32) (r : (Int32) × Mem) (hf : f_X5_isNotCopied mu x0 x1 = some r) : Ok l yX5_isNotCopied wsX5_isNotCopied ({ frames := 12, cells := 0, slots := 0, locals := 230 } : Room) [.ref x0, .int x1] G A mu (dP (.inr (rI r.1)) r.2) := by
  refine Ok.start (cc := cX5_isNotCopied) (maxL := 2) (ret := (some .boolean)) rfl (by decide +kernel) hsl (by first | exact Nat.le_of_ble_eq_true rfl | simp [lg_sl, cat_rf, Value.category]) ?_
  intro p e s m args below meth c ls X hr hname hW hl
  have X : BX p l s m args meth c cX5_isNotCopied 2 RX5 wsX5_isNotCopied G A := X
  have hx := X.1
  have hb := X.2.1
  have hts := X.2.2.2.2.1
  have hl : lv_has ls 2 [(0, .ref x0), (1, .int x1)] := hl
  have hinX5 : ∀ w ∈ wsX50, w ∈ wsX5_isNotCopied := by decide +kernel
  have hF50 : (Cond.fieldLink RX5 50 "PartcopyistBenchModel" "isCopied" "[Z").before args s = true := hts _ (by decide +kernel)
  have hF78 : (Cond.fieldLink RX5 78 "PartcopyistBenchModel" "thrown" "I").before args s = true := hts _ (by decide +kernel)
  unfold f_X5_isNotCopied at hf
  refine lv_aload_n hx hb dX5_isNotCopied_0 rfl (lv_at hl 0 rfl) ?_
  refine lv_iload_n hx hb dX5_isNotCopied_1 rfl (lv_at hl 1 rfl) ?_
  replace hf := bnd hf
  obtain ⟨_, h1, hf⟩ := hf
  replace hf := bnd2 hf
  obtain ⟨t2, m4, h3, hf⟩ := hf
  refine r_callV_ok (μ9 := m4) X hW hl.1 (k_X5_isNoPart l hsl G A mu x0 x1 _ h3) gX5_isNotCopied_X5_isNoPart rfl (chk_ok h1) (by decide) rfl (by decide +kernel) (n := 1) rfl (by decide) (Nat.le_of_ble_eq_true rfl) dX5_isNotCopied_2 rfl rfl (stk := [.int t2]) rfl (fun H locs hW => ?_)
  refine lv_if_ne (tgt := 23) hx hb dX5_isNotCopied_5 (by decide) (fun hc => ?_) (fun hc => ?_)
  · replace hf := itn hc hf
    refine lv_aload_n hx hb dX5_isNotCopied_23 rfl (lv_at hl 0 rfl) ?_
    replace hf := bnd hf
    obtain ⟨t5, h6, hf⟩ := hf
    refine g_7_0 X hW hinX5 hF78 h6 dX5_isNotCopied_24 ?_
    refine lv_if_le (tgt := 34) hx hb dX5_isNotCopied_27 (by decide) (fun hc => ?_) (fun hc => ?_)
    · replace hf := itp hc hf
      refine lv_iconst (v := 0) hx hb dX5_isNotCopied_34 (by decide) ?_
      exact r_zret X hr hW (Or.inl rfl) (by cases hf; exact ⟨rfl, rfl⟩) (by decide) (by decide) dX5_isNotCopied_35
    · replace hf := itn hc hf
      refine lv_iconst (v := 1) hx hb dX5_isNotCopied_30 (by decide) ?_
      refine lv_goto (tgt := 35) hx hb dX5_isNotCopied_31 (by decide) ?_
      exact r_zret X hr hW (Or.inr rfl) (by cases hf; exact ⟨rfl, rfl⟩) (by decide) (by decide) dX5_isNotCopied_35
  · replace hf := itp hc hf
    refine lv_aload_n hx hb dX5_isNotCopied_8 rfl (lv_at hl 0 rfl) ?_
    replace hf := bnd hf
    obtain ⟨t7, h8, hf⟩ := hf
    refine g_7_14 X hW hinX5 hF50 h8 dX5_isNotCopied_9 ?_
    refine lv_iload_n hx hb dX5_isNotCopied_12 rfl (lv_at hl 1 rfl) ?_
    replace hf := bnd hf
    obtain ⟨a9, h10, hf⟩ := hf
    subst h10
    replace hf := bnd hf
    obtain ⟨t11, h12, hf⟩ := hf
    refine r_zld X hW h12 dX5_isNotCopied_13 ?_
    refine lv_if_ne (tgt := 23) hx hb dX5_isNotCopied_14 (by decide) (fun hc => ?_) (fun hc => ?_)
    · replace hf := itn hc hf
      refine lv_aload_n hx hb dX5_isNotCopied_23 rfl (lv_at hl 0 rfl) ?_
      replace hf := bnd hf
      obtain ⟨t13, h14, hf⟩ := hf
      refine g_7_0 X hW hinX5 hF78 h14 dX5_isNotCopied_24 ?_
      refine lv_if_le (tgt := 34) hx hb dX5_isNotCopied_27 (by decide) (fun hc => ?_) (fun hc => ?_)
      · replace hf := itp hc hf
        refine lv_iconst (v := 0) hx hb dX5_isNotCopied_34 (by decide) ?_
        exact r_zret X hr hW (Or.inl rfl) (by cases hf; exact ⟨rfl, rfl⟩) (by decide) (by decide) dX5_isNotCopied_35
      · replace hf := itn hc hf
        refine lv_iconst (v := 1) hx hb dX5_isNotCopied_30 (by decide) ?_
        refine lv_goto (tgt := 35) hx hb dX5_isNotCopied_31 (by decide) ?_
        exact r_zret X hr hW (Or.inr rfl) (by cases hf; exact ⟨rfl, rfl⟩) (by decide) (by decide) dX5_isNotCopied_35
    · replace hf := itp hc hf
      refine lv_aload_n hx hb dX5_isNotCopied_17 rfl (lv_at hl 0 rfl) ?_
      refine lv_iconst (v := 2) hx hb dX5_isNotCopied_18 (by decide) ?_
      replace hf := bnd hf
      obtain ⟨_, h15, hf⟩ := hf
      replace hf := bnd2 hf
      obtain ⟨t16, m18, h17, hf⟩ := hf
      refine r_callV_ok (μ9 := m18) X hW hl.1 (k_X5_fails l hsl G A m4 x0 2 _ h17) gX5_isNotCopied_X5_fails rfl (chk_ok h15) (by decide) rfl (by decide +kernel) (n := 1) rfl (by decide) (Nat.le_of_ble_eq_true rfl) dX5_isNotCopied_19 rfl rfl (stk := [.int t16]) rfl (fun H locs hW => ?_)
      refine lv_pop hx hb dX5_isNotCopied_22 rfl ?_
      refine lv_aload_n hx hb dX5_isNotCopied_23 rfl (lv_at hl 0 rfl) ?_
      replace hf := bnd hf
      obtain ⟨t19, h20, hf⟩ := hf
      refine g_7_0 X hW hinX5 hF78 h20 dX5_isNotCopied_24 ?_
      refine lv_if_le (tgt := 34) hx hb dX5_isNotCopied_27 (by decide) (fun hc => ?_) (fun hc => ?_)
      · replace hf := itp hc hf
        refine lv_iconst (v := 0) hx hb dX5_isNotCopied_34 (by decide) ?_
        exact r_zret X hr hW (Or.inl rfl) (by cases hf; exact ⟨rfl, rfl⟩) (by decide) (by decide) dX5_isNotCopied_35
      · replace hf := itn hc hf
        refine lv_iconst (v := 1) hx hb dX5_isNotCopied_30 (by decide) ?_
        refine lv_goto (tgt := 35) hx hb dX5_isNotCopied_31 (by decide) ?_
        exact r_zret X hr hW (Or.inr rfl) (by cases hf; exact ⟨rfl, rfl⟩) (by decide) (by decide) dX5_isNotCopied_35

def f_X5_carry (mu : Mem) (x0 : Nat) (x1 : Int32) : Option ((Int32) × Mem) := (chk mu 7 x0).bind fun _ => bi2 (f_X5_isNotCopied mu x0 x1) (fun (t2 : (Int32)) m4 => if t2 = 0 then ((chk m4 7 x0).bind fun _ => (f_X5_differs m4 x0 x1).bind fun t6 => (chk m4 7 x0).bind fun _ => bi2 (f_X5_takes m4 x0 x1) (fun (t9 : (Unit)) m11 => some (t6, m11))) else (some (0, m4)))
set_option maxHeartbeats 1000000 in
set_option maxRecDepth 100000 in
theorem k_X5_carry (l : Launch) (hsl : l.stackTraces = false) (G : GG) (A : Nat → Prop) (mu : Mem) (x0 : Nat) (x1 : Int32) (r : (Int32) × Mem) (hf : f_X5_carry mu x0 x1 = some r) : Ok l yX5_carry wsX5_carry ({ frames := 14, cells := 0, slots := 0, locals := 270 } : Room) [.ref x0, .int x1] G A mu (dP (.inr (rI r.1)) r.2) := by
  refine Ok.start (cc := cX5_carry) (maxL := 3) (ret := (some .int)) rfl (by decide +kernel) hsl (by first | exact Nat.le_of_ble_eq_true rfl | simp [lg_sl, cat_rf, Value.category]) ?_
  intro p e s m args below meth c ls X hr hname hW hl
  have X : BX p l s m args meth c cX5_carry 3 RX5 wsX5_carry G A := X
  have hx := X.1
  have hb := X.2.1
  have hts := X.2.2.2.2.1
  have hl : lv_has ls 3 [(0, .ref x0), (1, .int x1)] := hl
  unfold f_X5_carry at hf
  refine lv_aload_n hx hb dX5_carry_0 rfl (lv_at hl 0 rfl) ?_
  refine lv_iload_n hx hb dX5_carry_1 rfl (lv_at hl 1 rfl) ?_
  replace hf := bnd hf
  obtain ⟨_, h1, hf⟩ := hf
  replace hf := bnd2 hf
  obtain ⟨t2, m4, h3, hf⟩ := hf
  refine r_callV_ok (μ9 := m4) X hW hl.1 (k_X5_isNotCopied l hsl G A mu x0 x1 _ h3) gX5_carry_X5_isNotCopied rfl (chk_ok h1) (by decide) rfl (by decide +kernel) (n := 1) rfl (by decide) (Nat.le_of_ble_eq_true rfl) dX5_carry_2 rfl rfl (stk := [.int t2]) rfl (fun H locs hW => ?_)
  refine lv_if_eq (tgt := 10) hx hb dX5_carry_5 (by decide) (fun hc => ?_) (fun hc => ?_)
  · replace hf := itp hc hf
    refine lv_aload_n hx hb dX5_carry_10 rfl (lv_at hl 0 rfl) ?_
    refine lv_iload_n hx hb dX5_carry_11 rfl (lv_at hl 1 rfl) ?_
    replace hf := bnd hf
    obtain ⟨_, h5, hf⟩ := hf
    replace hf := bnd hf
    obtain ⟨t6, h7, hf⟩ := hf
    refine r_callV_ok X hW hl.1 (k_X5_differs l hsl G A m4 x0 x1 _ h7) gX5_carry_X5_differs rfl (chk_ok h5) (by decide) rfl (by decide +kernel) (n := 1) rfl (by decide) (Nat.le_of_ble_eq_true rfl) dX5_carry_12 rfl rfl (stk := [.int t6]) rfl (fun H locs hW => ?_)
    refine lv_istore_n (lv' := [(2, .int t6), (0, .ref x0), (1, .int x1)]) hx hb dX5_carry_15 rfl hl (by decide) rfl (fun ls hl => ?_)
    refine lv_aload_n hx hb dX5_carry_16 rfl (lv_at hl 1 rfl) ?_
    refine lv_iload_n hx hb dX5_carry_17 rfl (lv_at hl 2 rfl) ?_
    replace hf := bnd hf
    obtain ⟨_, h8, hf⟩ := hf
    replace hf := bnd2 hf
    obtain ⟨t9, m11, h10, hf⟩ := hf
    refine r_callV_ok (μ9 := m11) X hW hl.1 (k_X5_takes l hsl G A m4 x0 x1 _ h10) gX5_carry_X5_takes rfl (chk_ok h8) (by decide) rfl (by decide +kernel) (n := 1) rfl (by decide) (Nat.le_of_ble_eq_true rfl) dX5_carry_18 rfl rfl (stk := []) rfl (fun H locs hW => ?_)
    refine lv_iload_n hx hb dX5_carry_21 rfl (lv_at hl 0 rfl) ?_
    exact r_iret X hr hW (by cases hf; exact ⟨rfl, rfl⟩) (by decide) (by decide) dX5_carry_22
  · replace hf := itn hc hf
    refine lv_iconst (v := 0) hx hb dX5_carry_8 (by decide) ?_
    exact r_iret X hr hW (by cases hf; exact ⟨rfl, rfl⟩) (by decide) (by decide) dX5_carry_9

def f_X5_differences (mu : Mem) (x0 : Nat) (x1 : Int32) : Option ((Int32) × Mem) := (chk mu 7 x0).bind fun _ => bi2 (f_X5_isNotCopied mu x0 x1) (fun (t2 : (Int32)) m4 => if t2 = 0 then ((chk m4 7 x0).bind fun _ => (f_X5_differs m4 x0 x1).bind fun t6 => some (t6, m4)) else (some (0, m4)))
set_option maxHeartbeats 1000000 in
set_option maxRecDepth 100000 in
theorem k_X5_differences (l : Launch) (hsl : l.stackTraces = false) (G : GG) (A : Nat → Prop) (mu : Mem) (x0 : Nat) (x1 : Int32) (r : (Int32) × Mem) (hf : f_X5_differences mu x0 x1 = some r) : Ok l yX5_differences wsX5_differences ({ frames := 14, cells := 0, slots := 0, locals := 270 } : Room) [.ref x0, .int x1] G A mu (dP (.inr (rI r.1)) r.2) := by
  refine Ok.start (cc := cX5_differences) (maxL := 2) (ret := (some .int)) rfl (by decide +kernel) hsl (by first | exact Nat.le_of_ble_eq_true rfl | simp [lg_sl, cat_rf, Value.category]) ?_
  intro p e s m args below meth c ls X hr hname hW hl
  have X : BX p l s m args meth c cX5_differences 2 RX5 wsX5_differences G A := X
  have hx := X.1
  have hb := X.2.1
  have hts := X.2.2.2.2.1
  have hl : lv_has ls 2 [(0, .ref x0), (1, .int x1)] := hl
  unfold f_X5_differences at hf
  refine lv_aload_n hx hb dX5_differences_0 rfl (lv_at hl 0 rfl) ?_
  refine lv_iload_n hx hb dX5_differences_1 rfl (lv_at hl 1 rfl) ?_
  replace hf := bnd hf
  obtain ⟨_, h1, hf⟩ := hf
  replace hf := bnd2 hf
  obtain ⟨t2, m4, h3, hf⟩ := hf
  refine r_callV_ok (μ9 := m4) X hW hl.1 (k_X5_isNotCopied l hsl G A mu x0 x1 _ h3) gX5_differences_X5_isNotCopied rfl (chk_ok h1) (by decide) rfl (by decide +kernel) (n := 1) rfl (by decide) (Nat.le_of_ble_eq_true rfl) dX5_differences_2 rfl rfl (stk := [.int t2]) rfl (fun H locs hW => ?_)
  refine lv_if_eq (tgt := 12) hx hb dX5_differences_5 (by decide) (fun hc => ?_) (fun hc => ?_)
  · replace hf := itp hc hf
    refine lv_aload_n hx hb dX5_differences_12 rfl (lv_at hl 0 rfl) ?_
    refine lv_iload_n hx hb dX5_differences_13 rfl (lv_at hl 1 rfl) ?_
    replace hf := bnd hf
    obtain ⟨_, h5, hf⟩ := hf
    replace hf := bnd hf
    obtain ⟨t6, h7, hf⟩ := hf
    refine r_callV_ok X hW hl.1 (k_X5_differs l hsl G A m4 x0 x1 _ h7) gX5_differences_X5_differs rfl (chk_ok h5) (by decide) rfl (by decide +kernel) (n := 1) rfl (by decide) (Nat.le_of_ble_eq_true rfl) dX5_differences_14 rfl rfl (stk := [.int t6]) rfl (fun H locs hW => ?_)
    exact r_iret X hr hW (by cases hf; exact ⟨rfl, rfl⟩) (by decide) (by decide) dX5_differences_17
  · replace hf := itn hc hf
    refine lv_iconst (v := 0) hx hb dX5_differences_8 (by decide) ?_
    refine lv_goto (tgt := 17) hx hb dX5_differences_9 (by decide) ?_
    exact r_iret X hr hW (by cases hf; exact ⟨rfl, rfl⟩) (by decide) (by decide) dX5_differences_17

def f_X5_differencesByComparing (mu : Mem) (x0 : Nat) (x1 : Int32) : Option ((Int32) × Mem) := (chk mu 7 x0).bind fun _ => bi2 (f_X5_differences mu x0 x1) (fun (t2 : (Int32)) m4 => some (t2, m4))
set_option maxHeartbeats 1000000 in
set_option maxRecDepth 100000 in
theorem k_X5_differencesByComparing (l : Launch) (hsl : l.stackTraces = false) (G : GG) (A : Nat → Prop) (mu : Mem) (x0 : Nat) (x1 : Int32) (r : (Int32) × Mem) (hf : f_X5_differencesByComparing mu x0 x1 = some r) : Ok l yX5_differencesByComparing wsX5_differencesByComparing ({ frames := 16, cells := 0, slots := 0, locals := 310 } : Room) [.ref x0, .int x1] G A mu (dP (.inr (rI r.1)) r.2) := by
  refine Ok.start (cc := cX5_differencesByComparing) (maxL := 2) (ret := (some .int)) rfl (by decide +kernel) hsl (by first | exact Nat.le_of_ble_eq_true rfl | simp [lg_sl, cat_rf, Value.category]) ?_
  intro p e s m args below meth c ls X hr hname hW hl
  have X : BX p l s m args meth c cX5_differencesByComparing 2 RX5 wsX5_differencesByComparing G A := X
  have hx := X.1
  have hb := X.2.1
  have hts := X.2.2.2.2.1
  have hl : lv_has ls 2 [(0, .ref x0), (1, .int x1)] := hl
  unfold f_X5_differencesByComparing at hf
  refine lv_aload_n hx hb dX5_differencesByComparing_0 rfl (lv_at hl 0 rfl) ?_
  refine lv_iload_n hx hb dX5_differencesByComparing_1 rfl (lv_at hl 1 rfl) ?_
  replace hf := bnd hf
  obtain ⟨_, h1, hf⟩ := hf
  replace hf := bnd2 hf
  obtain ⟨t2, m4, h3, hf⟩ := hf
  refine r_callV_ok (μ9 := m4) X hW hl.1 (k_X5_differences l hsl G A mu x0 x1 _ h3) gX5_differencesByComparing_X5_differences rfl (chk_ok h1) (by decide) rfl (by decide +kernel) (n := 1) rfl (by decide) (Nat.le_of_ble_eq_true rfl) dX5_differencesByComparing_2 rfl rfl (stk := [.int t2]) rfl (fun H locs hW => ?_)
  exact r_iret X hr hW (by cases hf; exact ⟨rfl, rfl⟩) (by decide) (by decide) dX5_differencesByComparing_5

def f_X5_copied (mu : Mem) (x0 : Nat) (x1 : Int32) : Option ((Int32) × Mem) := (putI mu 7 0 x0 0).bind fun m1 => (getI m1 7 17 x0).bind fun t3 => (f_X5_isBetween m1 x1 0 (t3 - 1)).bind fun t5 => if t5 = 0 then ((chk m1 7 x0).bind fun _ => bi2 (f_X5_fails m1 x0 1) (fun (t52 : (Int32)) m54 => some (t52, m54))) else ((getQ m1 7 14 x0).bind fun t7 => (getQ m1 7 4 x0).bind fun t9 => t9.bind fun a11 => (ald m1 a11 x1).bind fun t13 => t7.bind fun a15 => (zld m1 a15 t13).bind fun t17 => if t17 = 0 then ((chk m1 7 x0).bind fun _ => bi2 (f_X5_fails m1 x0 2) (fun (t20 : (Int32)) m22 => some (t20, m22))) else ((getQ m1 7 10 x0).bind fun t23 => t23.bind fun a25 => (ald m1 a25 x1).bind fun t27 => if t27 = 0 then ((chk m1 7 x0).bind fun _ => bi2 (f_X5_fails m1 x0 2) (fun (t48 : (Int32)) m50 => some (t48, m50))) else ((getQ m1 7 11 x0).bind fun t29 => t29.bind fun a31 => (ald m1 a31 x1).bind fun t33 => (getQ m1 7 1 x0).bind fun t35 => (getQ m1 7 4 x0).bind fun t37 => t37.bind fun a39 => (ald m1 a39 x1).bind fun t41 => t35.bind fun a43 => (ald m1 a43 t41).bind fun t45 => some ((t33 + t45), m1))))
set_option maxHeartbeats 1000000 in
set_option maxRecDepth 100000 in
theorem k_X5_copied (l : Launch) (hsl : l.stackTraces = false) (G : GG) (A : Nat → Prop) (mu : Mem) (x0 : Nat) (x1 : Int32) (r : (Int32) × Mem) (hf : f_X5_copied mu x0 x1 = some r) : Ok l yX5_copied wsX5_copied ({ frames := 8, cells := 0, slots := 0, locals := 150 } : Room) [.ref x0, .int x1] G A mu (dP (.inr (rI r.1)) r.2) := by
  refine Ok.start (cc := cX5_copied) (maxL := 2) (ret := (some .int)) rfl (by decide +kernel) hsl (by first | exact Nat.le_of_ble_eq_true rfl | simp [lg_sl, cat_rf, Value.category]) ?_
  intro p e s m args below meth c ls X hr hname hW hl
  have X : BX p l s m args meth c cX5_copied 2 RX5 wsX5_copied G A := X
  have hx := X.1
  have hb := X.2.1
  have hts := X.2.2.2.2.1
  have hl : lv_has ls 2 [(0, .ref x0), (1, .int x1)] := hl
  have hinX5 : ∀ w ∈ wsX50, w ∈ wsX5_copied := by decide +kernel
  have hF19 : (Cond.fieldLink RX5 19 "PartcopyistBenchModel" "partOf" "[I").before args s = true := hts _ (by decide +kernel)
  have hF37 : (Cond.fieldLink RX5 37 "PartcopyistBenchModel" "copyLengths" "[I").before args s = true := hts _ (by decide +kernel)
  have hF40 : (Cond.fieldLink RX5 40 "PartcopyistBenchModel" "copyPitches" "[I").before args s = true := hts _ (by decide +kernel)
  have hF50 : (Cond.fieldLink RX5 50 "PartcopyistBenchModel" "isCopied" "[Z").before args s = true := hts _ (by decide +kernel)
  have hF78 : (Cond.fieldLink RX5 78 "PartcopyistBenchModel" "thrown" "I").before args s = true := hts _ (by decide +kernel)
  have hF9 : (Cond.fieldLink RX5 9 "PartcopyistBenchModel" "shifts" "[I").before args s = true := hts _ (by decide +kernel)
  have hF91 : (Cond.fieldLink RX5 91 "PartcopyistBenchModel" "notes" "I").before args s = true := hts _ (by decide +kernel)
  unfold f_X5_copied at hf
  refine lv_aload_n hx hb dX5_copied_0 rfl (lv_at hl 0 rfl) ?_
  refine lv_iconst (v := 0) hx hb dX5_copied_1 (by decide) ?_
  replace hf := bnd hf
  obtain ⟨m1, h2, hf⟩ := hf
  refine p_7_0 X hW hinX5 hF78 h2 dX5_copied_2 (fun H locs hW => ?_)
  refine lv_iload_n hx hb dX5_copied_5 rfl (lv_at hl 1 rfl) ?_
  refine lv_iconst (v := 0) hx hb dX5_copied_6 (by decide) ?_
  refine lv_aload_n hx hb dX5_copied_7 rfl (lv_at hl 0 rfl) ?_
  replace hf := bnd hf
  obtain ⟨t3, h4, hf⟩ := hf
  refine g_7_17 X hW hinX5 hF91 h4 dX5_copied_8 ?_
  refine lv_iconst (v := 1) hx hb dX5_copied_11 (by decide) ?_
  refine lv_isub hx hb dX5_copied_12 ?_
  replace hf := bnd hf
  obtain ⟨t5, h6, hf⟩ := hf
  refine r_callS_ok X hW hl.1 (k_X5_isBetween l hsl G A m1 x1 0 (t3 - 1) _ h6) gX5_copied_X5_isBetween rfl (by decide +kernel) (n := 3) rfl (by decide) (Nat.le_of_ble_eq_true rfl) dX5_copied_13 rfl rfl (stk := [.int t5]) rfl (fun H locs hW => ?_)
  refine lv_if_ne (tgt := 25) hx hb dX5_copied_16 (by decide) (fun hc => ?_) (fun hc => ?_)
  · replace hf := itn hc hf
    refine lv_aload_n hx hb dX5_copied_25 rfl (lv_at hl 0 rfl) ?_
    replace hf := bnd hf
    obtain ⟨t7, h8, hf⟩ := hf
    refine g_7_14 X hW hinX5 hF50 h8 dX5_copied_26 ?_
    refine lv_aload_n hx hb dX5_copied_29 rfl (lv_at hl 0 rfl) ?_
    replace hf := bnd hf
    obtain ⟨t9, h10, hf⟩ := hf
    refine g_7_4 X hW hinX5 hF19 h10 dX5_copied_30 ?_
    refine lv_iload_n hx hb dX5_copied_33 rfl (lv_at hl 1 rfl) ?_
    replace hf := bnd hf
    obtain ⟨a11, h12, hf⟩ := hf
    subst h12
    replace hf := bnd hf
    obtain ⟨t13, h14, hf⟩ := hf
    refine r_ald X hW h14 dX5_copied_34 ?_
    replace hf := bnd hf
    obtain ⟨a15, h16, hf⟩ := hf
    subst h16
    replace hf := bnd hf
    obtain ⟨t17, h18, hf⟩ := hf
    refine r_zld X hW h18 dX5_copied_35 ?_
    refine lv_if_eq (tgt := 48) hx hb dX5_copied_36 (by decide) (fun hc => ?_) (fun hc => ?_)
    · replace hf := itp hc hf
      refine lv_aload_n hx hb dX5_copied_48 rfl (lv_at hl 0 rfl) ?_
      refine lv_iconst (v := 2) hx hb dX5_copied_49 (by decide) ?_
      replace hf := bnd hf
      obtain ⟨_, h19, hf⟩ := hf
      replace hf := bnd2 hf
      obtain ⟨t20, m22, h21, hf⟩ := hf
      refine r_callV_ok (μ9 := m22) X hW hl.1 (k_X5_fails l hsl G A m1 x0 2 _ h21) gX5_copied_X5_fails rfl (chk_ok h19) (by decide) rfl (by decide +kernel) (n := 1) rfl (by decide) (Nat.le_of_ble_eq_true rfl) dX5_copied_50 rfl rfl (stk := [.int t20]) rfl (fun H locs hW => ?_)
      exact r_iret X hr hW (by cases hf; exact ⟨rfl, rfl⟩) (by decide) (by decide) dX5_copied_53
    · replace hf := itn hc hf
      refine lv_aload_n hx hb dX5_copied_39 rfl (lv_at hl 0 rfl) ?_
      replace hf := bnd hf
      obtain ⟨t23, h24, hf⟩ := hf
      refine g_7_10 X hW hinX5 hF37 h24 dX5_copied_40 ?_
      refine lv_iload_n hx hb dX5_copied_43 rfl (lv_at hl 1 rfl) ?_
      replace hf := bnd hf
      obtain ⟨a25, h26, hf⟩ := hf
      subst h26
      replace hf := bnd hf
      obtain ⟨t27, h28, hf⟩ := hf
      refine r_ald X hW h28 dX5_copied_44 ?_
      refine lv_if_ne (tgt := 54) hx hb dX5_copied_45 (by decide) (fun hc => ?_) (fun hc => ?_)
      · replace hf := itn hc hf
        refine lv_aload_n hx hb dX5_copied_54 rfl (lv_at hl 0 rfl) ?_
        replace hf := bnd hf
        obtain ⟨t29, h30, hf⟩ := hf
        refine g_7_11 X hW hinX5 hF40 h30 dX5_copied_55 ?_
        refine lv_iload_n hx hb dX5_copied_58 rfl (lv_at hl 1 rfl) ?_
        replace hf := bnd hf
        obtain ⟨a31, h32, hf⟩ := hf
        subst h32
        replace hf := bnd hf
        obtain ⟨t33, h34, hf⟩ := hf
        refine r_ald X hW h34 dX5_copied_59 ?_
        refine lv_aload_n hx hb dX5_copied_60 rfl (lv_at hl 0 rfl) ?_
        replace hf := bnd hf
        obtain ⟨t35, h36, hf⟩ := hf
        refine g_7_1 X hW hinX5 hF9 h36 dX5_copied_61 ?_
        refine lv_aload_n hx hb dX5_copied_64 rfl (lv_at hl 0 rfl) ?_
        replace hf := bnd hf
        obtain ⟨t37, h38, hf⟩ := hf
        refine g_7_4 X hW hinX5 hF19 h38 dX5_copied_65 ?_
        refine lv_iload_n hx hb dX5_copied_68 rfl (lv_at hl 1 rfl) ?_
        replace hf := bnd hf
        obtain ⟨a39, h40, hf⟩ := hf
        subst h40
        replace hf := bnd hf
        obtain ⟨t41, h42, hf⟩ := hf
        refine r_ald X hW h42 dX5_copied_69 ?_
        replace hf := bnd hf
        obtain ⟨a43, h44, hf⟩ := hf
        subst h44
        replace hf := bnd hf
        obtain ⟨t45, h46, hf⟩ := hf
        refine r_ald X hW h46 dX5_copied_70 ?_
        refine lv_iadd hx hb dX5_copied_71 ?_
        exact r_iret X hr hW (by cases hf; exact ⟨rfl, rfl⟩) (by decide) (by decide) dX5_copied_72
      · replace hf := itp hc hf
        refine lv_aload_n hx hb dX5_copied_48 rfl (lv_at hl 0 rfl) ?_
        refine lv_iconst (v := 2) hx hb dX5_copied_49 (by decide) ?_
        replace hf := bnd hf
        obtain ⟨_, h47, hf⟩ := hf
        replace hf := bnd2 hf
        obtain ⟨t48, m50, h49, hf⟩ := hf
        refine r_callV_ok (μ9 := m50) X hW hl.1 (k_X5_fails l hsl G A m1 x0 2 _ h49) gX5_copied_X5_fails rfl (chk_ok h47) (by decide) rfl (by decide +kernel) (n := 1) rfl (by decide) (Nat.le_of_ble_eq_true rfl) dX5_copied_50 rfl rfl (stk := [.int t48]) rfl (fun H locs hW => ?_)
        exact r_iret X hr hW (by cases hf; exact ⟨rfl, rfl⟩) (by decide) (by decide) dX5_copied_53
  · replace hf := itp hc hf
    refine lv_aload_n hx hb dX5_copied_19 rfl (lv_at hl 0 rfl) ?_
    refine lv_iconst (v := 1) hx hb dX5_copied_20 (by decide) ?_
    replace hf := bnd hf
    obtain ⟨_, h51, hf⟩ := hf
    replace hf := bnd2 hf
    obtain ⟨t52, m54, h53, hf⟩ := hf
    refine r_callV_ok (μ9 := m54) X hW hl.1 (k_X5_fails l hsl G A m1 x0 1 _ h53) gX5_copied_X5_fails rfl (chk_ok h51) (by decide) rfl (by decide +kernel) (n := 1) rfl (by decide) (Nat.le_of_ble_eq_true rfl) dX5_copied_21 rfl rfl (stk := [.int t52]) rfl (fun H locs hW => ?_)
    exact r_iret X hr hW (by cases hf; exact ⟨rfl, rfl⟩) (by decide) (by decide) dX5_copied_24

def f_X5_ticks_L9 (m1 : Mem) (u0_9 : Nat) (k9 : Int64 → Int32 → Option ((Int64) × Mem)) : Nat → Int64 → Int32 → Option ((Int64) × Mem)
  | 0, _, _ => none
  | n + 1, w1_9, w3_9 => (getI m1 7 17 u0_9).bind fun t3 => if t3 ≤ w3_9 then (k9 w1_9 w3_9) else ((getQ m1 7 13 u0_9).bind fun t5 => t5.bind fun a7 => (zld m1 a7 w3_9).bind fun t9 => if t9 = 0 then ((getQ m1 7 8 u0_9).bind fun t11 => t11.bind fun a13 => (ald m1 a13 w3_9).bind fun t15 => f_X5_ticks_L9 m1 u0_9 k9 n (w1_9 + ((t15).toInt64)) (w3_9 + 1)) else (f_X5_ticks_L9 m1 u0_9 k9 n (w1_9 + 0) (w3_9 + 1)))
def f_X5_ticks (mu : Mem) (x0 : Nat) : Option ((Int64) × Mem) := (putI mu 7 0 x0 0).bind fun m1 => f_X5_ticks_L9 m1 x0 (fun (zw1_9 : Int64) (zw3_9 : Int32) => some (zw1_9, m1)) 200 0 0
set_option maxHeartbeats 1000000 in
set_option maxRecDepth 100000 in
theorem k_X5_ticks (l : Launch) (hsl : l.stackTraces = false) (G : GG) (A : Nat → Prop) (mu : Mem) (x0 : Nat) (r : (Int64) × Mem) (hf : f_X5_ticks mu x0 = some r) : Ok l yX5_ticks wsX5_ticks ({ frames := 6, cells := 0, slots := 0, locals := 110 } : Room) [.ref x0] G A mu (dP (.inr (rLg r.1)) r.2) := by
  refine Ok.start (cc := cX5_ticks) (maxL := 4) (ret := (some .long)) rfl (by decide +kernel) hsl (by first | exact Nat.le_of_ble_eq_true rfl | simp [lg_sl, cat_rf, Value.category]) ?_
  intro p e s m args below meth c ls X hr hname hW hl
  have X : BX p l s m args meth c cX5_ticks 4 RX5 wsX5_ticks G A := X
  have hx := X.1
  have hb := X.2.1
  have hts := X.2.2.2.2.1
  have hl : lv_has ls 4 [(0, .ref x0)] := hl
  have hinX5 : ∀ w ∈ wsX50, w ∈ wsX5_ticks := by decide +kernel
  have hF31 : (Cond.fieldLink RX5 31 "PartcopyistBenchModel" "lengths" "[I").before args s = true := hts _ (by decide +kernel)
  have hF47 : (Cond.fieldLink RX5 47 "PartcopyistBenchModel" "isOut" "[Z").before args s = true := hts _ (by decide +kernel)
  have hF78 : (Cond.fieldLink RX5 78 "PartcopyistBenchModel" "thrown" "I").before args s = true := hts _ (by decide +kernel)
  have hF91 : (Cond.fieldLink RX5 91 "PartcopyistBenchModel" "notes" "I").before args s = true := hts _ (by decide +kernel)
  unfold f_X5_ticks at hf
  refine lv_aload_n hx hb dX5_ticks_0 rfl (lv_at hl 0 rfl) ?_
  refine lv_iconst (v := 0) hx hb dX5_ticks_1 (by decide) ?_
  replace hf := bnd hf
  obtain ⟨m1, h2, hf⟩ := hf
  refine p_7_0 X hW hinX5 hF78 h2 dX5_ticks_2 (fun H locs hW => ?_)
  refine lv_lconst (v := 0) hx hb dX5_ticks_5 rfl ?_
  refine lv_lstore_n (lv' := [(1, .long 0), (0, .ref x0)]) hx hb dX5_ticks_6 rfl hl (by decide) rfl (fun ls hl => ?_)
  refine lv_iconst (v := 0) hx hb dX5_ticks_7 (by decide) ?_
  refine lv_istore_n (lv' := [(3, .int 0), (1, .long 0), (0, .ref x0)]) hx hb dX5_ticks_8 rfl hl (by decide) rfl (fun ls hl => ?_)
  have L9 : ∀ (u0_9 : Nat) (k9 : Int64 → Int32 → Option ((Int64) × Mem)),
      (∀ (w1_9 : Int64) (w3_9 : Int32) (H : Heap) (locs : List Loc) (ls : Array Slot), k9 w1_9 w3_9 = some r → MW G A m1 s.heap H locs → lv_has ls 4 [(0, .ref u0_9), (1, .long w1_9), (3, .int w3_9)] → W p l e ({ frames := 6, cells := 0, slots := 0, locals := 110 } : Room) s m args below meth c H locs 0 0 (QQ below G A (dP (.inr (rLg r.1)) r.2) args s 0 0) (F0 m 46 ls [])) →
      ∀ (n : Nat) (w1_9 : Int64) (w3_9 : Int32) (H : Heap) (locs : List Loc) (ls : Array Slot), f_X5_ticks_L9 m1 u0_9 k9 n w1_9 w3_9 = some r → MW G A m1 s.heap H locs → lv_has ls 4 [(0, .ref u0_9), (1, .long w1_9), (3, .int w3_9)] → W p l e ({ frames := 6, cells := 0, slots := 0, locals := 110 } : Room) s m args below meth c H locs 0 0 (QQ below G A (dP (.inr (rLg r.1)) r.2) args s 0 0) (F0 m 9 ls []) := by
    intro u0_9 k9 hk9 n
    induction n with
    | zero => intro w1_9 w3_9 H locs ls hf hW hl; rw [f_X5_ticks_L9] at hf; cases hf
    | succ n ih9 =>
      intro w1_9 w3_9 H locs ls hf hW hl
      rw [f_X5_ticks_L9] at hf
      refine lv_iload_n hx hb dX5_ticks_9 rfl (lv_at hl 2 rfl) ?_
      refine lv_aload_n hx hb dX5_ticks_10 rfl (lv_at hl 0 rfl) ?_
      replace hf := bnd hf
      obtain ⟨t3, h4, hf⟩ := hf
      refine g_7_17 X hW hinX5 hF91 h4 dX5_ticks_11 ?_
      refine lv_icmp_ge (tgt := 46) hx hb dX5_ticks_14 (by decide) (fun hc => ?_) (fun hc => ?_)
      · replace hf := itp hc hf
        exact hk9 _ _ _ _ _ hf hW (lv_sub hl [0, 1, 2] rfl)
      · replace hf := itn hc hf
        refine lv_lload_n hx hb dX5_ticks_17 rfl (lv_at hl 1 rfl) ?_
        refine lv_aload_n hx hb dX5_ticks_18 rfl (lv_at hl 0 rfl) ?_
        replace hf := bnd hf
        obtain ⟨t5, h6, hf⟩ := hf
        refine g_7_13 X hW hinX5 hF47 h6 dX5_ticks_19 ?_
        refine lv_iload_n hx hb dX5_ticks_22 rfl (lv_at hl 2 rfl) ?_
        replace hf := bnd hf
        obtain ⟨a7, h8, hf⟩ := hf
        subst h8
        replace hf := bnd hf
        obtain ⟨t9, h10, hf⟩ := hf
        refine r_zld X hW h10 dX5_ticks_23 ?_
        refine lv_if_eq (tgt := 31) hx hb dX5_ticks_24 (by decide) (fun hc => ?_) (fun hc => ?_)
        · replace hf := itp hc hf
          refine lv_aload_n hx hb dX5_ticks_31 rfl (lv_at hl 0 rfl) ?_
          replace hf := bnd hf
          obtain ⟨t11, h12, hf⟩ := hf
          refine g_7_8 X hW hinX5 hF31 h12 dX5_ticks_32 ?_
          refine lv_iload_n hx hb dX5_ticks_35 rfl (lv_at hl 2 rfl) ?_
          replace hf := bnd hf
          obtain ⟨a13, h14, hf⟩ := hf
          subst h14
          replace hf := bnd hf
          obtain ⟨t15, h16, hf⟩ := hf
          refine r_ald X hW h16 dX5_ticks_36 ?_
          refine lv_i2l hx hb dX5_ticks_37 rfl ?_
          refine lv_ladd hx hb dX5_ticks_38 ?_
          refine lv_lstore_n (lv' := [(1, .long (w1_9 + ((t15).toInt64))), (0, .ref u0_9), (3, .int w3_9)]) hx hb dX5_ticks_39 rfl hl (by decide) rfl (fun ls hl => ?_)
          refine lv_iinc (v := (w3_9 + 1)) (lv' := [(3, .int (w3_9 + 1)), (1, .long (w1_9 + ((t15).toInt64))), (0, .ref u0_9)]) hx hb dX5_ticks_40 hl (k := 2) rfl rfl (by decide) rfl (fun ls hl => ?_)
          refine lv_goto (tgt := 9) hx hb dX5_ticks_43 (by decide) ?_
          exact ih9 _ _ _ _ _ hf hW (lv_sub hl [2, 1, 0] rfl)
        · replace hf := itn hc hf
          refine lv_lconst (v := 0) hx hb dX5_ticks_27 rfl ?_
          refine lv_goto (tgt := 38) hx hb dX5_ticks_28 (by decide) ?_
          refine lv_ladd hx hb dX5_ticks_38 ?_
          refine lv_lstore_n (lv' := [(1, .long (w1_9 + 0)), (0, .ref u0_9), (3, .int w3_9)]) hx hb dX5_ticks_39 rfl hl (by decide) rfl (fun ls hl => ?_)
          refine lv_iinc (v := (w3_9 + 1)) (lv' := [(3, .int (w3_9 + 1)), (1, .long (w1_9 + 0)), (0, .ref u0_9)]) hx hb dX5_ticks_40 hl (k := 2) rfl rfl (by decide) rfl (fun ls hl => ?_)
          refine lv_goto (tgt := 9) hx hb dX5_ticks_43 (by decide) ?_
          exact ih9 _ _ _ _ _ hf hW (lv_sub hl [2, 1, 0] rfl)
  refine L9 x0 _ ?_ 200 0 0 _ _ _ hf hW (lv_sub hl [2, 1, 0] rfl)
  intro zw1_9 zw3_9 H locs ls hf hW hl
  refine lv_lload_n hx hb dX5_ticks_46 rfl (lv_at hl 1 rfl) ?_
  exact r_lret X hr hW (by cases hf; exact ⟨rfl, rfl⟩) (by decide) (by decide) dX5_ticks_47

def f_X5_meanPitch_L32 (m4 : Mem) (u0_32 : Nat) (u1_32 : Int32) (u2_32 : Int32) (k9 : Int32 → Int32 → Option ((UInt64) × Mem)) : Nat → Int32 → Int32 → Option ((UInt64) × Mem)
  | 0, _, _ => none
  | n + 1, w3_32, w4_32 => (getI m4 7 17 u0_32).bind fun t8 => if t8 ≤ w4_32 then (k9 w3_32 w4_32) else ((getQ m4 7 13 u0_32).bind fun t10 => t10.bind fun a12 => (zld m4 a12 w4_32).bind fun t14 => if t14 = 0 then ((getQ m4 7 4 u0_32).bind fun t16 => t16.bind fun a18 => (ald m4 a18 w4_32).bind fun t20 => if t20 = u1_32 then ((getQ m4 7 9 u0_32).bind fun t22 => t22.bind fun a24 => (ald m4 a24 w4_32).bind fun t26 => f_X5_meanPitch_L32 m4 u0_32 u1_32 u2_32 k9 n (w3_32 + t26) (w4_32 + 1)) else (f_X5_meanPitch_L32 m4 u0_32 u1_32 u2_32 k9 n (w3_32 + 0) (w4_32 + 1))) else (f_X5_meanPitch_L32 m4 u0_32 u1_32 u2_32 k9 n (w3_32 + 0) (w4_32 + 1)))
def f_X5_meanPitch (mu : Mem) (x0 : Nat) (x1 : Int32) : Option ((UInt64) × Mem) := (chk mu 7 x0).bind fun _ => bi2 (f_X5_isNoPart mu x0 x1) (fun (t2 : (Int32)) m4 => if t2 = 0 then ((chk m4 7 x0).bind fun _ => (f_X5_manyOf m4 x0 x1).bind fun t6 => if t6 = 0 then ((chk m4 7 x0).bind fun _ => bi2 (f_X5_fails m4 x0 2) (fun (t30 : (Int32)) m32 => some ((FP.i2d t30), m32))) else (f_X5_meanPitch_L32 m4 x0 x1 t6 (fun (zw3_32 : Int32) (zw4_32 : Int32) => (gn64 (FP.ddiv (FP.i2d zw3_32) (FP.i2d t6))).bind fun _ => some ((FP.ddiv (FP.i2d zw3_32) (FP.i2d t6)), m4)) 200 0 0)) else (some (FP.dconst0, m4)))
set_option maxHeartbeats 1000000 in
set_option maxRecDepth 100000 in
theorem k_X5_meanPitch (l : Launch) (hsl : l.stackTraces = false) (G : GG) (A : Nat → Prop) (mu : Mem) (x0 : Nat) (x1 : Int32) (r : (UInt64) × Mem) (hf : f_X5_meanPitch mu x0 x1 = some r) : Ok l yX5_meanPitch wsX5_meanPitch ({ frames := 12, cells := 0, slots := 0, locals := 230 } : Room) [.ref x0, .int x1] G A mu (dP (.inr (rD r.1)) r.2) := by
  refine Ok.start (cc := cX5_meanPitch) (maxL := 5) (ret := (some .double)) rfl (by decide +kernel) hsl (by first | exact Nat.le_of_ble_eq_true rfl | simp [lg_sl, cat_rf, Value.category]) ?_
  intro p e s m args below meth c ls X hr hname hW hl
  have X : BX p l s m args meth c cX5_meanPitch 5 RX5 wsX5_meanPitch G A := X
  have hx := X.1
  have hb := X.2.1
  have hts := X.2.2.2.2.1
  have hl : lv_has ls 5 [(0, .ref x0), (1, .int x1)] := hl
  have hinX5 : ∀ w ∈ wsX50, w ∈ wsX5_meanPitch := by decide +kernel
  have hF19 : (Cond.fieldLink RX5 19 "PartcopyistBenchModel" "partOf" "[I").before args s = true := hts _ (by decide +kernel)
  have hF34 : (Cond.fieldLink RX5 34 "PartcopyistBenchModel" "pitches" "[I").before args s = true := hts _ (by decide +kernel)
  have hF47 : (Cond.fieldLink RX5 47 "PartcopyistBenchModel" "isOut" "[Z").before args s = true := hts _ (by decide +kernel)
  have hF91 : (Cond.fieldLink RX5 91 "PartcopyistBenchModel" "notes" "I").before args s = true := hts _ (by decide +kernel)
  unfold f_X5_meanPitch at hf
  refine lv_aload_n hx hb dX5_meanPitch_0 rfl (lv_at hl 0 rfl) ?_
  refine lv_iload_n hx hb dX5_meanPitch_1 rfl (lv_at hl 1 rfl) ?_
  replace hf := bnd hf
  obtain ⟨_, h1, hf⟩ := hf
  replace hf := bnd2 hf
  obtain ⟨t2, m4, h3, hf⟩ := hf
  refine r_callV_ok (μ9 := m4) X hW hl.1 (k_X5_isNoPart l hsl G A mu x0 x1 _ h3) gX5_meanPitch_X5_isNoPart rfl (chk_ok h1) (by decide) rfl (by decide +kernel) (n := 1) rfl (by decide) (Nat.le_of_ble_eq_true rfl) dX5_meanPitch_2 rfl rfl (stk := [.int t2]) rfl (fun H locs hW => ?_)
  refine lv_if_eq (tgt := 10) hx hb dX5_meanPitch_5 (by decide) (fun hc => ?_) (fun hc => ?_)
  · replace hf := itp hc hf
    refine lv_aload_n hx hb dX5_meanPitch_10 rfl (lv_at hl 0 rfl) ?_
    refine lv_iload_n hx hb dX5_meanPitch_11 rfl (lv_at hl 1 rfl) ?_
    replace hf := bnd hf
    obtain ⟨_, h5, hf⟩ := hf
    replace hf := bnd hf
    obtain ⟨t6, h7, hf⟩ := hf
    refine r_callV_ok X hW hl.1 (k_X5_manyOf l hsl G A m4 x0 x1 _ h7) gX5_meanPitch_X5_manyOf rfl (chk_ok h5) (by decide) rfl (by decide +kernel) (n := 1) rfl (by decide) (Nat.le_of_ble_eq_true rfl) dX5_meanPitch_12 rfl rfl (stk := [.int t6]) rfl (fun H locs hW => ?_)
    refine lv_istore_n (lv' := [(2, .int t6), (0, .ref x0), (1, .int x1)]) hx hb dX5_meanPitch_15 rfl hl (by decide) rfl (fun ls hl => ?_)
    refine lv_iload_n hx hb dX5_meanPitch_16 rfl (lv_at hl 0 rfl) ?_
    refine lv_if_ne (tgt := 27) hx hb dX5_meanPitch_17 (by decide) (fun hc => ?_) (fun hc => ?_)
    · replace hf := itn hc hf
      refine lv_iconst (v := 0) hx hb dX5_meanPitch_27 (by decide) ?_
      refine lv_istore_n (lv' := [(3, .int 0), (2, .int t6), (0, .ref x0), (1, .int x1)]) hx hb dX5_meanPitch_28 rfl hl (by decide) rfl (fun ls hl => ?_)
      refine lv_iconst (v := 0) hx hb dX5_meanPitch_29 (by decide) ?_
      refine lv_istore (lv' := [(4, .int 0), (3, .int 0), (2, .int t6), (0, .ref x0), (1, .int x1)]) hx hb dX5_meanPitch_30 hl (by decide) rfl (fun ls hl => ?_)
      have L32 : ∀ (u0_32 : Nat) (u1_32 : Int32) (u2_32 : Int32) (k9 : Int32 → Int32 → Option ((UInt64) × Mem)),
          (∀ (w3_32 : Int32) (w4_32 : Int32) (H : Heap) (locs : List Loc) (ls : Array Slot), k9 w3_32 w4_32 = some r → MW G A m4 s.heap H locs → lv_has ls 5 [(0, .ref u0_32), (1, .int u1_32), (2, .int u2_32), (3, .int w3_32), (4, .int w4_32)] → W p l e ({ frames := 12, cells := 0, slots := 0, locals := 230 } : Room) s m args below meth c H locs 0 0 (QQ below G A (dP (.inr (rD r.1)) r.2) args s 0 0) (F0 m 82 ls [])) →
          ∀ (n : Nat) (w3_32 : Int32) (w4_32 : Int32) (H : Heap) (locs : List Loc) (ls : Array Slot), f_X5_meanPitch_L32 m4 u0_32 u1_32 u2_32 k9 n w3_32 w4_32 = some r → MW G A m4 s.heap H locs → lv_has ls 5 [(0, .ref u0_32), (1, .int u1_32), (2, .int u2_32), (3, .int w3_32), (4, .int w4_32)] → W p l e ({ frames := 12, cells := 0, slots := 0, locals := 230 } : Room) s m args below meth c H locs 0 0 (QQ below G A (dP (.inr (rD r.1)) r.2) args s 0 0) (F0 m 32 ls []) := by
        intro u0_32 u1_32 u2_32 k9 hk32 n
        induction n with
        | zero => intro w3_32 w4_32 H locs ls hf hW hl; rw [f_X5_meanPitch_L32] at hf; cases hf
        | succ n ih32 =>
          intro w3_32 w4_32 H locs ls hf hW hl
          rw [f_X5_meanPitch_L32] at hf
          refine lv_iload hx hb dX5_meanPitch_32 (lv_at hl 4 rfl) ?_
          refine lv_aload_n hx hb dX5_meanPitch_34 rfl (lv_at hl 0 rfl) ?_
          replace hf := bnd hf
          obtain ⟨t8, h9, hf⟩ := hf
          refine g_7_17 X hW hinX5 hF91 h9 dX5_meanPitch_35 ?_
          refine lv_icmp_ge (tgt := 82) hx hb dX5_meanPitch_38 (by decide) (fun hc => ?_) (fun hc => ?_)
          · replace hf := itp hc hf
            exact hk32 _ _ _ _ _ hf hW (lv_sub hl [0, 1, 2, 3, 4] rfl)
          · replace hf := itn hc hf
            refine lv_iload_n hx hb dX5_meanPitch_41 rfl (lv_at hl 3 rfl) ?_
            refine lv_aload_n hx hb dX5_meanPitch_42 rfl (lv_at hl 0 rfl) ?_
            replace hf := bnd hf
            obtain ⟨t10, h11, hf⟩ := hf
            refine g_7_13 X hW hinX5 hF47 h11 dX5_meanPitch_43 ?_
            refine lv_iload hx hb dX5_meanPitch_46 (lv_at hl 4 rfl) ?_
            replace hf := bnd hf
            obtain ⟨a12, h13, hf⟩ := hf
            subst h13
            replace hf := bnd hf
            obtain ⟨t14, h15, hf⟩ := hf
            refine r_zld X hW h15 dX5_meanPitch_48 ?_
            refine lv_if_ne (tgt := 73) hx hb dX5_meanPitch_49 (by decide) (fun hc => ?_) (fun hc => ?_)
            · replace hf := itn hc hf
              refine lv_iconst (v := 0) hx hb dX5_meanPitch_73 (by decide) ?_
              refine lv_iadd hx hb dX5_meanPitch_74 ?_
              refine lv_istore_n (lv' := [(3, .int (w3_32 + 0)), (0, .ref u0_32), (1, .int u1_32), (2, .int u2_32), (4, .int w4_32)]) hx hb dX5_meanPitch_75 rfl hl (by decide) rfl (fun ls hl => ?_)
              refine lv_iinc (v := (w4_32 + 1)) (lv' := [(4, .int (w4_32 + 1)), (3, .int (w3_32 + 0)), (0, .ref u0_32), (1, .int u1_32), (2, .int u2_32)]) hx hb dX5_meanPitch_76 hl (k := 4) rfl rfl (by decide) rfl (fun ls hl => ?_)
              refine lv_goto (tgt := 32) hx hb dX5_meanPitch_79 (by decide) ?_
              exact ih32 _ _ _ _ _ hf hW (lv_sub hl [2, 3, 4, 1, 0] rfl)
            · replace hf := itp hc hf
              refine lv_aload_n hx hb dX5_meanPitch_52 rfl (lv_at hl 0 rfl) ?_
              replace hf := bnd hf
              obtain ⟨t16, h17, hf⟩ := hf
              refine g_7_4 X hW hinX5 hF19 h17 dX5_meanPitch_53 ?_
              refine lv_iload hx hb dX5_meanPitch_56 (lv_at hl 4 rfl) ?_
              replace hf := bnd hf
              obtain ⟨a18, h19, hf⟩ := hf
              subst h19
              replace hf := bnd hf
              obtain ⟨t20, h21, hf⟩ := hf
              refine r_ald X hW h21 dX5_meanPitch_58 ?_
              refine lv_iload_n hx hb dX5_meanPitch_59 rfl (lv_at hl 1 rfl) ?_
              refine lv_icmp_ne (tgt := 73) hx hb dX5_meanPitch_60 (by decide) (fun hc => ?_) (fun hc => ?_)
              · replace hf := itn hc hf
                refine lv_iconst (v := 0) hx hb dX5_meanPitch_73 (by decide) ?_
                refine lv_iadd hx hb dX5_meanPitch_74 ?_
                refine lv_istore_n (lv' := [(3, .int (w3_32 + 0)), (0, .ref u0_32), (1, .int u1_32), (2, .int u2_32), (4, .int w4_32)]) hx hb dX5_meanPitch_75 rfl hl (by decide) rfl (fun ls hl => ?_)
                refine lv_iinc (v := (w4_32 + 1)) (lv' := [(4, .int (w4_32 + 1)), (3, .int (w3_32 + 0)), (0, .ref u0_32), (1, .int u1_32), (2, .int u2_32)]) hx hb dX5_meanPitch_76 hl (k := 4) rfl rfl (by decide) rfl (fun ls hl => ?_)
                refine lv_goto (tgt := 32) hx hb dX5_meanPitch_79 (by decide) ?_
                exact ih32 _ _ _ _ _ hf hW (lv_sub hl [2, 3, 4, 1, 0] rfl)
              · replace hf := itp hc hf
                refine lv_aload_n hx hb dX5_meanPitch_63 rfl (lv_at hl 0 rfl) ?_
                replace hf := bnd hf
                obtain ⟨t22, h23, hf⟩ := hf
                refine g_7_9 X hW hinX5 hF34 h23 dX5_meanPitch_64 ?_
                refine lv_iload hx hb dX5_meanPitch_67 (lv_at hl 4 rfl) ?_
                replace hf := bnd hf
                obtain ⟨a24, h25, hf⟩ := hf
                subst h25
                replace hf := bnd hf
                obtain ⟨t26, h27, hf⟩ := hf
                refine r_ald X hW h27 dX5_meanPitch_69 ?_
                refine lv_goto (tgt := 74) hx hb dX5_meanPitch_70 (by decide) ?_
                refine lv_iadd hx hb dX5_meanPitch_74 ?_
                refine lv_istore_n (lv' := [(3, .int (w3_32 + t26)), (0, .ref u0_32), (1, .int u1_32), (2, .int u2_32), (4, .int w4_32)]) hx hb dX5_meanPitch_75 rfl hl (by decide) rfl (fun ls hl => ?_)
                refine lv_iinc (v := (w4_32 + 1)) (lv' := [(4, .int (w4_32 + 1)), (3, .int (w3_32 + t26)), (0, .ref u0_32), (1, .int u1_32), (2, .int u2_32)]) hx hb dX5_meanPitch_76 hl (k := 4) rfl rfl (by decide) rfl (fun ls hl => ?_)
                refine lv_goto (tgt := 32) hx hb dX5_meanPitch_79 (by decide) ?_
                exact ih32 _ _ _ _ _ hf hW (lv_sub hl [2, 3, 4, 1, 0] rfl)
      refine L32 x0 x1 t6 _ ?_ 200 0 0 _ _ _ hf hW (lv_sub hl [3, 4, 2, 1, 0] rfl)
      intro zw3_32 zw4_32 H locs ls hf hW hl
      refine lv_iload_n hx hb dX5_meanPitch_82 rfl (lv_at hl 3 rfl) ?_
      refine lv_i2d hx hb dX5_meanPitch_83 ?_
      refine lv_iload_n hx hb dX5_meanPitch_84 rfl (lv_at hl 2 rfl) ?_
      refine lv_i2d hx hb dX5_meanPitch_85 ?_
      replace hf := bnd hf
      obtain ⟨_, h28, hf⟩ := hf
      refine lv_ddiv hx hb dX5_meanPitch_86 (gn64_ok h28) ?_
      exact r_dret X hr hW (by cases hf; exact ⟨rfl, rfl⟩) (by decide) (by decide) dX5_meanPitch_87
    · replace hf := itp hc hf
      refine lv_aload_n hx hb dX5_meanPitch_20 rfl (lv_at hl 1 rfl) ?_
      refine lv_iconst (v := 2) hx hb dX5_meanPitch_21 (by decide) ?_
      replace hf := bnd hf
      obtain ⟨_, h29, hf⟩ := hf
      replace hf := bnd2 hf
      obtain ⟨t30, m32, h31, hf⟩ := hf
      refine r_callV_ok (μ9 := m32) X hW hl.1 (k_X5_fails l hsl G A m4 x0 2 _ h31) gX5_meanPitch_X5_fails rfl (chk_ok h29) (by decide) rfl (by decide +kernel) (n := 1) rfl (by decide) (Nat.le_of_ble_eq_true rfl) dX5_meanPitch_22 rfl rfl (stk := [.int t30]) rfl (fun H locs hW => ?_)
      refine lv_i2d hx hb dX5_meanPitch_25 ?_
      exact r_dret X hr hW (by cases hf; exact ⟨rfl, rfl⟩) (by decide) (by decide) dX5_meanPitch_26
  · replace hf := itn hc hf
    refine lv_dconst0 hx hb dX5_meanPitch_8 ?_
    exact r_dret X hr hW (by cases hf; exact ⟨rfl, rfl⟩) (by decide) (by decide) dX5_meanPitch_9

def f_X5_restShare_L28 (m4 : Mem) (u0_28 : Nat) (u1_28 : Int32) (k9 : Int32 → Int32 → Option ((UInt32) × Mem)) : Nat → Int32 → Int32 → Option ((UInt32) × Mem)
  | 0, _, _ => none
  | n + 1, w2_28, w3_28 => (getI m4 7 16 u0_28).bind fun t7 => if t7 ≤ w3_28 then (k9 w2_28 w3_28) else ((chk m4 7 u0_28).bind fun _ => (f_X5_many m4 u0_28 u1_28 w3_28).bind fun t10 => if t10 = 0 then (f_X5_restShare_L28 m4 u0_28 u1_28 k9 n (w2_28 + 1) (w3_28 + 1)) else (f_X5_restShare_L28 m4 u0_28 u1_28 k9 n (w2_28 + 0) (w3_28 + 1)))
def f_X5_restShare (mu : Mem) (x0 : Nat) (x1 : Int32) : Option ((UInt32) × Mem) := (chk mu 7 x0).bind fun _ => bi2 (f_X5_isNoPart mu x0 x1) (fun (t2 : (Int32)) m4 => if t2 = 0 then ((getI m4 7 16 x0).bind fun t5 => if t5 = 0 then ((chk m4 7 x0).bind fun _ => bi2 (f_X5_fails m4 x0 2) (fun (t16 : (Int32)) m18 => some ((FP.i2f t16), m18))) else (f_X5_restShare_L28 m4 x0 x1 (fun (zw2_28 : Int32) (zw3_28 : Int32) => (getI m4 7 16 x0).bind fun t12 => (gn32 (FP.fdiv (FP.i2f zw2_28) (FP.i2f t12))).bind fun _ => some ((FP.fdiv (FP.i2f zw2_28) (FP.i2f t12)), m4)) 200 0 0)) else (some (FP.fconst0, m4)))
set_option maxHeartbeats 1000000 in
set_option maxRecDepth 100000 in
theorem k_X5_restShare (l : Launch) (hsl : l.stackTraces = false) (G : GG) (A : Nat → Prop) (mu : Mem) (x0 : Nat) (x1 : Int32) (r : (UInt32) × Mem) (hf : f_X5_restShare mu x0 x1 = some r) : Ok l yX5_restShare wsX5_restShare ({ frames := 12, cells := 0, slots := 0, locals := 230 } : Room) [.ref x0, .int x1] G A mu (dP (.inr (rF r.1)) r.2) := by
  refine Ok.start (cc := cX5_restShare) (maxL := 4) (ret := (some .float)) rfl (by decide +kernel) hsl (by first | exact Nat.le_of_ble_eq_true rfl | simp [lg_sl, cat_rf, Value.category]) ?_
  intro p e s m args below meth c ls X hr hname hW hl
  have X : BX p l s m args meth c cX5_restShare 4 RX5 wsX5_restShare G A := X
  have hx := X.1
  have hb := X.2.1
  have hts := X.2.2.2.2.1
  have hl : lv_has ls 4 [(0, .ref x0), (1, .int x1)] := hl
  have hinX5 : ∀ w ∈ wsX50, w ∈ wsX5_restShare := by decide +kernel
  have hF88 : (Cond.fieldLink RX5 88 "PartcopyistBenchModel" "bars" "I").before args s = true := hts _ (by decide +kernel)
  unfold f_X5_restShare at hf
  refine lv_aload_n hx hb dX5_restShare_0 rfl (lv_at hl 0 rfl) ?_
  refine lv_iload_n hx hb dX5_restShare_1 rfl (lv_at hl 1 rfl) ?_
  replace hf := bnd hf
  obtain ⟨_, h1, hf⟩ := hf
  replace hf := bnd2 hf
  obtain ⟨t2, m4, h3, hf⟩ := hf
  refine r_callV_ok (μ9 := m4) X hW hl.1 (k_X5_isNoPart l hsl G A mu x0 x1 _ h3) gX5_restShare_X5_isNoPart rfl (chk_ok h1) (by decide) rfl (by decide +kernel) (n := 1) rfl (by decide) (Nat.le_of_ble_eq_true rfl) dX5_restShare_2 rfl rfl (stk := [.int t2]) rfl (fun H locs hW => ?_)
  refine lv_if_eq (tgt := 10) hx hb dX5_restShare_5 (by decide) (fun hc => ?_) (fun hc => ?_)
  · replace hf := itp hc hf
    refine lv_aload_n hx hb dX5_restShare_10 rfl (lv_at hl 0 rfl) ?_
    replace hf := bnd hf
    obtain ⟨t5, h6, hf⟩ := hf
    refine g_7_16 X hW hinX5 hF88 h6 dX5_restShare_11 ?_
    refine lv_if_ne (tgt := 24) hx hb dX5_restShare_14 (by decide) (fun hc => ?_) (fun hc => ?_)
    · replace hf := itn hc hf
      refine lv_iconst (v := 0) hx hb dX5_restShare_24 (by decide) ?_
      refine lv_istore_n (lv' := [(2, .int 0), (0, .ref x0), (1, .int x1)]) hx hb dX5_restShare_25 rfl hl (by decide) rfl (fun ls hl => ?_)
      refine lv_iconst (v := 0) hx hb dX5_restShare_26 (by decide) ?_
      refine lv_istore_n (lv' := [(3, .int 0), (2, .int 0), (0, .ref x0), (1, .int x1)]) hx hb dX5_restShare_27 rfl hl (by decide) rfl (fun ls hl => ?_)
      have L28 : ∀ (u0_28 : Nat) (u1_28 : Int32) (k9 : Int32 → Int32 → Option ((UInt32) × Mem)),
          (∀ (w2_28 : Int32) (w3_28 : Int32) (H : Heap) (locs : List Loc) (ls : Array Slot), k9 w2_28 w3_28 = some r → MW G A m4 s.heap H locs → lv_has ls 4 [(0, .ref u0_28), (1, .int u1_28), (2, .int w2_28), (3, .int w3_28)] → W p l e ({ frames := 12, cells := 0, slots := 0, locals := 230 } : Room) s m args below meth c H locs 0 0 (QQ below G A (dP (.inr (rF r.1)) r.2) args s 0 0) (F0 m 59 ls [])) →
          ∀ (n : Nat) (w2_28 : Int32) (w3_28 : Int32) (H : Heap) (locs : List Loc) (ls : Array Slot), f_X5_restShare_L28 m4 u0_28 u1_28 k9 n w2_28 w3_28 = some r → MW G A m4 s.heap H locs → lv_has ls 4 [(0, .ref u0_28), (1, .int u1_28), (2, .int w2_28), (3, .int w3_28)] → W p l e ({ frames := 12, cells := 0, slots := 0, locals := 230 } : Room) s m args below meth c H locs 0 0 (QQ below G A (dP (.inr (rF r.1)) r.2) args s 0 0) (F0 m 28 ls []) := by
        intro u0_28 u1_28 k9 hk28 n
        induction n with
        | zero => intro w2_28 w3_28 H locs ls hf hW hl; rw [f_X5_restShare_L28] at hf; cases hf
        | succ n ih28 =>
          intro w2_28 w3_28 H locs ls hf hW hl
          rw [f_X5_restShare_L28] at hf
          refine lv_iload_n hx hb dX5_restShare_28 rfl (lv_at hl 3 rfl) ?_
          refine lv_aload_n hx hb dX5_restShare_29 rfl (lv_at hl 0 rfl) ?_
          replace hf := bnd hf
          obtain ⟨t7, h8, hf⟩ := hf
          refine g_7_16 X hW hinX5 hF88 h8 dX5_restShare_30 ?_
          refine lv_icmp_ge (tgt := 59) hx hb dX5_restShare_33 (by decide) (fun hc => ?_) (fun hc => ?_)
          · replace hf := itp hc hf
            exact hk28 _ _ _ _ _ hf hW (lv_sub hl [0, 1, 2, 3] rfl)
          · replace hf := itn hc hf
            refine lv_iload_n hx hb dX5_restShare_36 rfl (lv_at hl 2 rfl) ?_
            refine lv_aload_n hx hb dX5_restShare_37 rfl (lv_at hl 0 rfl) ?_
            refine lv_iload_n hx hb dX5_restShare_38 rfl (lv_at hl 1 rfl) ?_
            refine lv_iload_n hx hb dX5_restShare_39 rfl (lv_at hl 3 rfl) ?_
            replace hf := bnd hf
            obtain ⟨_, h9, hf⟩ := hf
            replace hf := bnd hf
            obtain ⟨t10, h11, hf⟩ := hf
            refine r_callV_ok X hW hl.1 (k_X5_many l hsl G A m4 u0_28 u1_28 w3_28 _ h11) gX5_restShare_X5_many rfl (chk_ok h9) (by decide) rfl (by decide +kernel) (n := 2) rfl (by decide) (Nat.le_of_ble_eq_true rfl) dX5_restShare_40 rfl rfl (stk := [.int t10, .int w2_28]) rfl (fun H locs hW => ?_)
            refine lv_if_ne (tgt := 50) hx hb dX5_restShare_43 (by decide) (fun hc => ?_) (fun hc => ?_)
            · replace hf := itn hc hf
              refine lv_iconst (v := 0) hx hb dX5_restShare_50 (by decide) ?_
              refine lv_iadd hx hb dX5_restShare_51 ?_
              refine lv_istore_n (lv' := [(2, .int (w2_28 + 0)), (0, .ref u0_28), (1, .int u1_28), (3, .int w3_28)]) hx hb dX5_restShare_52 rfl hl (by decide) rfl (fun ls hl => ?_)
              refine lv_iinc (v := (w3_28 + 1)) (lv' := [(3, .int (w3_28 + 1)), (2, .int (w2_28 + 0)), (0, .ref u0_28), (1, .int u1_28)]) hx hb dX5_restShare_53 hl (k := 3) rfl rfl (by decide) rfl (fun ls hl => ?_)
              refine lv_goto (tgt := 28) hx hb dX5_restShare_56 (by decide) ?_
              exact ih28 _ _ _ _ _ hf hW (lv_sub hl [2, 3, 1, 0] rfl)
            · replace hf := itp hc hf
              refine lv_iconst (v := 1) hx hb dX5_restShare_46 (by decide) ?_
              refine lv_goto (tgt := 51) hx hb dX5_restShare_47 (by decide) ?_
              refine lv_iadd hx hb dX5_restShare_51 ?_
              refine lv_istore_n (lv' := [(2, .int (w2_28 + 1)), (0, .ref u0_28), (1, .int u1_28), (3, .int w3_28)]) hx hb dX5_restShare_52 rfl hl (by decide) rfl (fun ls hl => ?_)
              refine lv_iinc (v := (w3_28 + 1)) (lv' := [(3, .int (w3_28 + 1)), (2, .int (w2_28 + 1)), (0, .ref u0_28), (1, .int u1_28)]) hx hb dX5_restShare_53 hl (k := 3) rfl rfl (by decide) rfl (fun ls hl => ?_)
              refine lv_goto (tgt := 28) hx hb dX5_restShare_56 (by decide) ?_
              exact ih28 _ _ _ _ _ hf hW (lv_sub hl [2, 3, 1, 0] rfl)
      refine L28 x0 x1 _ ?_ 200 0 0 _ _ _ hf hW (lv_sub hl [2, 3, 1, 0] rfl)
      intro zw2_28 zw3_28 H locs ls hf hW hl
      refine lv_iload_n hx hb dX5_restShare_59 rfl (lv_at hl 2 rfl) ?_
      refine lv_i2f hx hb dX5_restShare_60 ?_
      refine lv_aload_n hx hb dX5_restShare_61 rfl (lv_at hl 0 rfl) ?_
      replace hf := bnd hf
      obtain ⟨t12, h13, hf⟩ := hf
      refine g_7_16 X hW hinX5 hF88 h13 dX5_restShare_62 ?_
      refine lv_i2f hx hb dX5_restShare_65 ?_
      replace hf := bnd hf
      obtain ⟨_, h14, hf⟩ := hf
      refine lv_fdiv hx hb dX5_restShare_66 (gn32_ok h14) ?_
      exact r_fret X hr hW (by cases hf; exact ⟨rfl, rfl⟩) (by decide) (by decide) dX5_restShare_67
    · replace hf := itp hc hf
      refine lv_aload_n hx hb dX5_restShare_17 rfl (lv_at hl 0 rfl) ?_
      refine lv_iconst (v := 2) hx hb dX5_restShare_18 (by decide) ?_
      replace hf := bnd hf
      obtain ⟨_, h15, hf⟩ := hf
      replace hf := bnd2 hf
      obtain ⟨t16, m18, h17, hf⟩ := hf
      refine r_callV_ok (μ9 := m18) X hW hl.1 (k_X5_fails l hsl G A m4 x0 2 _ h17) gX5_restShare_X5_fails rfl (chk_ok h15) (by decide) rfl (by decide +kernel) (n := 1) rfl (by decide) (Nat.le_of_ble_eq_true rfl) dX5_restShare_19 rfl rfl (stk := [.int t16]) rfl (fun H locs hW => ?_)
      refine lv_i2f hx hb dX5_restShare_22 ?_
      exact r_fret X hr hW (by cases hf; exact ⟨rfl, rfl⟩) (by decide) (by decide) dX5_restShare_23
  · replace hf := itn hc hf
    refine lv_fconst0 hx hb dX5_restShare_8 ?_
    exact r_fret X hr hW (by cases hf; exact ⟨rfl, rfl⟩) (by decide) (by decide) dX5_restShare_9

def f_X5_isTrue (mu : Mem) (x0 : Nat) : Option ((Int32) × Mem) := (putI mu 7 0 x0 0).bind fun m1 => some (1, m1)
set_option maxHeartbeats 1000000 in
set_option maxRecDepth 100000 in
theorem k_X5_isTrue (l : Launch) (hsl : l.stackTraces = false) (G : GG) (A : Nat → Prop) (mu : Mem) (x0 : Nat) (r : (Int32) × Mem) (hf : f_X5_isTrue mu x0 = some r) : Ok l yX5_isTrue wsX5_isTrue ({ frames := 6, cells := 0, slots := 0, locals := 110 } : Room) [.ref x0] G A mu (dP (.inr (rI r.1)) r.2) := by
  refine Ok.start (cc := cX5_isTrue) (maxL := 1) (ret := (some .boolean)) rfl (by decide +kernel) hsl (by first | exact Nat.le_of_ble_eq_true rfl | simp [lg_sl, cat_rf, Value.category]) ?_
  intro p e s m args below meth c ls X hr hname hW hl
  have X : BX p l s m args meth c cX5_isTrue 1 RX5 wsX5_isTrue G A := X
  have hx := X.1
  have hb := X.2.1
  have hts := X.2.2.2.2.1
  have hl : lv_has ls 1 [(0, .ref x0)] := hl
  have hinX5 : ∀ w ∈ wsX50, w ∈ wsX5_isTrue := by decide +kernel
  have hF78 : (Cond.fieldLink RX5 78 "PartcopyistBenchModel" "thrown" "I").before args s = true := hts _ (by decide +kernel)
  unfold f_X5_isTrue at hf
  refine lv_aload_n hx hb dX5_isTrue_0 rfl (lv_at hl 0 rfl) ?_
  refine lv_iconst (v := 0) hx hb dX5_isTrue_1 (by decide) ?_
  replace hf := bnd hf
  obtain ⟨m1, h2, hf⟩ := hf
  refine p_7_0 X hW hinX5 hF78 h2 dX5_isTrue_2 (fun H locs hW => ?_)
  refine lv_iconst (v := 1) hx hb dX5_isTrue_5 (by decide) ?_
  exact r_zret X hr hW (Or.inr rfl) (by cases hf; exact ⟨rfl, rfl⟩) (by decide) (by decide) dX5_isTrue_6
