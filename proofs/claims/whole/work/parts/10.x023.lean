def f_X0_init (mu : Mem) (x0 : Nat) (x1 : Int32) (x2 : Int32) (x3 : Int32) : Option ((Unit) × Mem) := (putI mu 2 0 x0 x1).bind fun m1 => (putI m1 2 1 x0 x2).bind fun m3 => (putZ m3 2 2 x0 x3).bind fun m5 => some ((), m5)
set_option maxHeartbeats 4000000 in
set_option maxRecDepth 100000 in
theorem k_X0_init (l : Launch) (hsl : l.stackTraces = false) (G : GG) (A : Nat → Prop) (mu : Mem) (x0 : Nat) (x1 : Int32) (x2 : Int32) (x3 : Int32) (r : (Unit) × Mem) (hf : f_X0_init mu x0 x1 x2 x3 = some r) : Ok l yX0_init wsX0_init ({ frames := 6, cells := 0, slots := 0, locals := 110 } : Room) [.ref x0, .int x1, .int x2, .int x3] G A mu (dP (.inr (rV r.1)) r.2) := by
  refine Ok.start (cc := cX0_init) (maxL := 4) (ret := none) rfl (by decide +kernel) hsl (by first | exact Nat.le_of_ble_eq_true rfl | simp [lg_sl, cat_rf, Value.category]) ?_
  intro p e s m args below meth c ls X hr hname hW hl
  have X : BX p l s m args meth c cX0_init 4 RX0 wsX0_init G A := X
  have hx := X.1
  have hb := X.2.1
  have hts := X.2.2.2.2.1
  have hl : lv_has ls 4 [(0, .ref x0), (1, .int x1), (2, .int x2), (3, .int x3)] := hl
  have hinX0 : ∀ w ∈ wsX00, w ∈ wsX0_init := by decide +kernel
  have hO1 : (Cond.methodLink RX0 1 objectInit).before args s = true := hts _ (by decide +kernel)
  have hO2 : (Cond.instanceMethod objectInit).before args s = true := hts _ (by decide +kernel)
  have hO3 : (Cond.code objectInit ⟨#[0xb1]⟩ 1 none).before args s = true := hts _ (by decide +kernel)
  have hF13 : (Cond.fieldLink RX0 13 "PartcopyistBench$Bar" "key" "I").before args s = true := hts _ (by decide +kernel)
  have hF16 : (Cond.fieldLink RX0 16 "PartcopyistBench$Bar" "hasMark" "Z").before args s = true := hts _ (by decide +kernel)
  have hF7 : (Cond.fieldLink RX0 7 "PartcopyistBench$Bar" "ticks" "I").before args s = true := hts _ (by decide +kernel)
  unfold f_X0_init at hf
  refine lv_aload_n hx hb dX0_init_0 rfl (lv_at hl 0 rfl) ?_
  refine W.objInit hx hb X.2.2.2.1 hO1 hO2 hO3 rfl (X.2.2.1.trans hl.1.symm).symm rfl dX0_init_1 (Nat.le_of_ble_eq_true rfl) (Nat.le_of_ble_eq_true rfl) ?_
  refine W.eq (g2 := F0 m 4 ls []) rfl ?_
  refine lv_aload_n hx hb dX0_init_4 rfl (lv_at hl 0 rfl) ?_
  refine lv_iload_n hx hb dX0_init_5 rfl (lv_at hl 1 rfl) ?_
  replace hf := bnd hf
  obtain ⟨m1, h2, hf⟩ := hf
  refine p_2_0 X hname rfl hW hinX0 hF7 h2 dX0_init_6 (fun H locs hW => ?_)
  refine lv_aload_n hx hb dX0_init_9 rfl (lv_at hl 0 rfl) ?_
  refine lv_iload_n hx hb dX0_init_10 rfl (lv_at hl 2 rfl) ?_
  replace hf := bnd hf
  obtain ⟨m3, h4, hf⟩ := hf
  refine p_2_1 X hW hinX0 hF13 h4 dX0_init_11 (fun H locs hW => ?_)
  refine lv_aload_n hx hb dX0_init_14 rfl (lv_at hl 0 rfl) ?_
  refine lv_iload_n hx hb dX0_init_15 rfl (lv_at hl 3 rfl) ?_
  replace hf := bnd hf
  obtain ⟨m5, h6, hf⟩ := hf
  refine p_2_2 X hW hinX0 hF16 h6 dX0_init_16 (fun H locs hW => ?_)
  exact r_vret X hr hW (by cases hf; exact ⟨rfl, rfl⟩) (by decide) (by decide) dX0_init_19

def f_X0_holds (mu : Mem) (x0 : Nat) (x1 : Int32) (x2 : Int32) : Option (Int32) := if x1 < 0 then (some 0) else ((getI mu 2 0 x0).bind fun t1 => if t1 ≤ x1 then (some 0) else (if x2 < 1 then (some 0) else ((getI mu 2 0 x0).bind fun t3 => if (t3 - x1) < x2 then (some 0) else (some 1))))
set_option maxHeartbeats 4000000 in
set_option maxRecDepth 100000 in
theorem k_X0_holds (l : Launch) (hsl : l.stackTraces = false) (G : GG) (A : Nat → Prop) (mu : Mem) (x0 : Nat) (x1 : Int32) (x2 : Int32) (r : Int32) (hf : f_X0_holds mu x0 x1 x2 = some r) : Ok l yX0_holds wsX0_holds ({ frames := 6, cells := 0, slots := 0, locals := 110 } : Room) [.ref x0, .int x1, .int x2] G A mu (dP (.inr (rI r)) mu) := by
  refine Ok.start (cc := cX0_holds) (maxL := 3) (ret := (some .boolean)) rfl (by decide +kernel) hsl (by first | exact Nat.le_of_ble_eq_true rfl | simp [lg_sl, cat_rf, Value.category]) ?_
  intro p e s m args below meth c ls X hr hname hW hl
  have X : BX p l s m args meth c cX0_holds 3 RX0 wsX0_holds G A := X
  have hx := X.1
  have hb := X.2.1
  have hts := X.2.2.2.2.1
  have hl : lv_has ls 3 [(0, .ref x0), (1, .int x1), (2, .int x2)] := hl
  have hinX0 : ∀ w ∈ wsX00, w ∈ wsX0_holds := by decide +kernel
  have hF7 : (Cond.fieldLink RX0 7 "PartcopyistBench$Bar" "ticks" "I").before args s = true := hts _ (by decide +kernel)
  unfold f_X0_holds at hf
  refine lv_iload_n hx hb dX0_holds_0 rfl (lv_at hl 1 rfl) ?_
  refine lv_if_lt (tgt := 31) hx hb dX0_holds_1 (by decide) (fun hc => ?_) (fun hc => ?_)
  · replace hf := itp hc hf
    refine lv_iconst (v := 0) hx hb dX0_holds_31 (by decide) ?_
    exact r_zret X hr hW (Or.inl rfl) (by cases hf; exact ⟨rfl, rfl⟩) (by decide) (by decide) dX0_holds_32
  · replace hf := itn hc hf
    refine lv_iload_n hx hb dX0_holds_4 rfl (lv_at hl 1 rfl) ?_
    refine lv_aload_n hx hb dX0_holds_5 rfl (lv_at hl 0 rfl) ?_
    replace hf := bnd hf
    obtain ⟨t1, h2, hf⟩ := hf
    refine g_2_0 X hW hinX0 hF7 h2 dX0_holds_6 ?_
    refine lv_icmp_ge (tgt := 31) hx hb dX0_holds_9 (by decide) (fun hc => ?_) (fun hc => ?_)
    · replace hf := itp hc hf
      refine lv_iconst (v := 0) hx hb dX0_holds_31 (by decide) ?_
      exact r_zret X hr hW (Or.inl rfl) (by cases hf; exact ⟨rfl, rfl⟩) (by decide) (by decide) dX0_holds_32
    · replace hf := itn hc hf
      refine lv_iload_n hx hb dX0_holds_12 rfl (lv_at hl 2 rfl) ?_
      refine lv_iconst (v := 1) hx hb dX0_holds_13 (by decide) ?_
      refine lv_icmp_lt (tgt := 31) hx hb dX0_holds_14 (by decide) (fun hc => ?_) (fun hc => ?_)
      · replace hf := itp hc hf
        refine lv_iconst (v := 0) hx hb dX0_holds_31 (by decide) ?_
        exact r_zret X hr hW (Or.inl rfl) (by cases hf; exact ⟨rfl, rfl⟩) (by decide) (by decide) dX0_holds_32
      · replace hf := itn hc hf
        refine lv_iload_n hx hb dX0_holds_17 rfl (lv_at hl 2 rfl) ?_
        refine lv_aload_n hx hb dX0_holds_18 rfl (lv_at hl 0 rfl) ?_
        replace hf := bnd hf
        obtain ⟨t3, h4, hf⟩ := hf
        refine g_2_0 X hW hinX0 hF7 h4 dX0_holds_19 ?_
        refine lv_iload_n hx hb dX0_holds_22 rfl (lv_at hl 1 rfl) ?_
        refine lv_isub hx hb dX0_holds_23 ?_
        refine lv_icmp_gt (tgt := 31) hx hb dX0_holds_24 (by decide) (fun hc => ?_) (fun hc => ?_)
        · replace hf := itp hc hf
          refine lv_iconst (v := 0) hx hb dX0_holds_31 (by decide) ?_
          exact r_zret X hr hW (Or.inl rfl) (by cases hf; exact ⟨rfl, rfl⟩) (by decide) (by decide) dX0_holds_32
        · replace hf := itn hc hf
          refine lv_iconst (v := 1) hx hb dX0_holds_27 (by decide) ?_
          refine lv_goto (tgt := 32) hx hb dX0_holds_28 (by decide) ?_
          exact r_zret X hr hW (Or.inr rfl) (by cases hf; exact ⟨rfl, rfl⟩) (by decide) (by decide) dX0_holds_32

def f_X2_init (mu : Mem) (x0 : Nat) (x1 : Int32) (x2 : Int32) (x3 : Int32) (x4 : Int32) (x5 : Int32) (x6 : Int32) : Option ((Unit) × Mem) := (putZ mu 4 6 x0 1).bind fun m1 => (putZ m1 4 7 x0 0).bind fun m3 => (putI m3 4 8 x0 0).bind fun m5 => (putI m5 4 9 x0 0).bind fun m7 => (putZ m7 4 10 x0 1).bind fun m9 => (putI m9 4 0 x0 x1).bind fun m11 => (putI m11 4 1 x0 x2).bind fun m13 => (putI m13 4 2 x0 x3).bind fun m15 => (putI m15 4 3 x0 x4).bind fun m17 => (putI m17 4 4 x0 x5).bind fun m19 => (putI m19 4 5 x0 x6).bind fun m21 => some ((), m21)
set_option maxHeartbeats 4000000 in
set_option maxRecDepth 100000 in
theorem k_X2_init (l : Launch) (hsl : l.stackTraces = false) (G : GG) (A : Nat → Prop) (mu : Mem) (x0 : Nat) (x1 : Int32) (x2 : Int32) (x3 : Int32) (x4 : Int32) (x5 : Int32) (x6 : Int32) (r : (Unit) × Mem) (hf : f_X2_init mu x0 x1 x2 x3 x4 x5 x6 = some r) : Ok l yX2_init wsX2_init ({ frames := 6, cells := 0, slots := 0, locals := 110 } : Room) [.ref x0, .int x1, .int x2, .int x3, .int x4, .int x5, .int x6] G A mu (dP (.inr (rV r.1)) r.2) := by
  refine Ok.start (cc := cX2_init) (maxL := 7) (ret := none) rfl (by decide +kernel) hsl (by first | exact Nat.le_of_ble_eq_true rfl | simp [lg_sl, cat_rf, Value.category]) ?_
  intro p e s m args below meth c ls X hr hname hW hl
  have X : BX p l s m args meth c cX2_init 7 RX2 wsX2_init G A := X
  have hx := X.1
  have hb := X.2.1
  have hts := X.2.2.2.2.1
  have hl : lv_has ls 7 [(0, .ref x0), (1, .int x1), (2, .int x2), (3, .int x3), (4, .int x4), (5, .int x5), (6, .int x6)] := hl
  have hinX2 : ∀ w ∈ wsX20, w ∈ wsX2_init := by decide +kernel
  have hO1 : (Cond.methodLink RX2 1 objectInit).before args s = true := hts _ (by decide +kernel)
  have hO2 : (Cond.instanceMethod objectInit).before args s = true := hts _ (by decide +kernel)
  have hO3 : (Cond.code objectInit ⟨#[0xb1]⟩ 1 none).before args s = true := hts _ (by decide +kernel)
  have hF13 : (Cond.fieldLink RX2 13 "PartcopyistBench$Note" "isInCopy" "Z").before args s = true := hts _ (by decide +kernel)
  have hF16 : (Cond.fieldLink RX2 16 "PartcopyistBench$Note" "copyLength" "I").before args s = true := hts _ (by decide +kernel)
  have hF20 : (Cond.fieldLink RX2 20 "PartcopyistBench$Note" "copyPitch" "I").before args s = true := hts _ (by decide +kernel)
  have hF23 : (Cond.fieldLink RX2 23 "PartcopyistBench$Note" "isTouched" "Z").before args s = true := hts _ (by decide +kernel)
  have hF26 : (Cond.fieldLink RX2 26 "PartcopyistBench$Note" "part" "I").before args s = true := hts _ (by decide +kernel)
  have hF29 : (Cond.fieldLink RX2 29 "PartcopyistBench$Note" "bar" "I").before args s = true := hts _ (by decide +kernel)
  have hF32 : (Cond.fieldLink RX2 32 "PartcopyistBench$Note" "voice" "I").before args s = true := hts _ (by decide +kernel)
  have hF35 : (Cond.fieldLink RX2 35 "PartcopyistBench$Note" "tick" "I").before args s = true := hts _ (by decide +kernel)
  have hF38 : (Cond.fieldLink RX2 38 "PartcopyistBench$Note" "length" "I").before args s = true := hts _ (by decide +kernel)
  have hF41 : (Cond.fieldLink RX2 41 "PartcopyistBench$Note" "pitch" "I").before args s = true := hts _ (by decide +kernel)
  have hF7 : (Cond.fieldLink RX2 7 "PartcopyistBench$Note" "isIn" "Z").before args s = true := hts _ (by decide +kernel)
  unfold f_X2_init at hf
  refine lv_aload_n hx hb dX2_init_0 rfl (lv_at hl 0 rfl) ?_
  refine W.objInit hx hb X.2.2.2.1 hO1 hO2 hO3 rfl (X.2.2.1.trans hl.1.symm).symm rfl dX2_init_1 (Nat.le_of_ble_eq_true rfl) (Nat.le_of_ble_eq_true rfl) ?_
  refine W.eq (g2 := F0 m 4 ls []) rfl ?_
  refine lv_aload_n hx hb dX2_init_4 rfl (lv_at hl 0 rfl) ?_
  refine lv_iconst (v := 1) hx hb dX2_init_5 (by decide) ?_
  replace hf := bnd hf
  obtain ⟨m1, h2, hf⟩ := hf
  refine p_4_6 X hW hinX2 hF7 h2 dX2_init_6 (fun H locs hW => ?_)
  refine lv_aload_n hx hb dX2_init_9 rfl (lv_at hl 0 rfl) ?_
  refine lv_iconst (v := 0) hx hb dX2_init_10 (by decide) ?_
  replace hf := bnd hf
  obtain ⟨m3, h4, hf⟩ := hf
  refine p_4_7 X hW hinX2 hF13 h4 dX2_init_11 (fun H locs hW => ?_)
  refine lv_aload_n hx hb dX2_init_14 rfl (lv_at hl 0 rfl) ?_
  refine lv_iconst (v := 0) hx hb dX2_init_15 (by decide) ?_
  replace hf := bnd hf
  obtain ⟨m5, h6, hf⟩ := hf
  refine p_4_8 X hW hinX2 hF16 h6 dX2_init_16 (fun H locs hW => ?_)
  refine lv_aload_n hx hb dX2_init_19 rfl (lv_at hl 0 rfl) ?_
  refine lv_iconst (v := 0) hx hb dX2_init_20 (by decide) ?_
  replace hf := bnd hf
  obtain ⟨m7, h8, hf⟩ := hf
  refine p_4_9 X hW hinX2 hF20 h8 dX2_init_21 (fun H locs hW => ?_)
  refine lv_aload_n hx hb dX2_init_24 rfl (lv_at hl 0 rfl) ?_
  refine lv_iconst (v := 1) hx hb dX2_init_25 (by decide) ?_
  replace hf := bnd hf
  obtain ⟨m9, h10, hf⟩ := hf
  refine p_4_10 X hW hinX2 hF23 h10 dX2_init_26 (fun H locs hW => ?_)
  refine lv_aload_n hx hb dX2_init_29 rfl (lv_at hl 0 rfl) ?_
  refine lv_iload_n hx hb dX2_init_30 rfl (lv_at hl 1 rfl) ?_
  replace hf := bnd hf
  obtain ⟨m11, h12, hf⟩ := hf
  refine p_4_0 X hname rfl hW hinX2 hF26 h12 dX2_init_31 (fun H locs hW => ?_)
  refine lv_aload_n hx hb dX2_init_34 rfl (lv_at hl 0 rfl) ?_
  refine lv_iload_n hx hb dX2_init_35 rfl (lv_at hl 2 rfl) ?_
  replace hf := bnd hf
  obtain ⟨m13, h14, hf⟩ := hf
  refine p_4_1 X hname rfl hW hinX2 hF29 h14 dX2_init_36 (fun H locs hW => ?_)
  refine lv_aload_n hx hb dX2_init_39 rfl (lv_at hl 0 rfl) ?_
  refine lv_iload_n hx hb dX2_init_40 rfl (lv_at hl 3 rfl) ?_
  replace hf := bnd hf
  obtain ⟨m15, h16, hf⟩ := hf
  refine p_4_2 X hname rfl hW hinX2 hF32 h16 dX2_init_41 (fun H locs hW => ?_)
  refine lv_aload_n hx hb dX2_init_44 rfl (lv_at hl 0 rfl) ?_
  refine lv_iload hx hb dX2_init_45 (lv_at hl 4 rfl) ?_
  replace hf := bnd hf
  obtain ⟨m17, h18, hf⟩ := hf
  refine p_4_3 X hname rfl hW hinX2 hF35 h18 dX2_init_47 (fun H locs hW => ?_)
  refine lv_aload_n hx hb dX2_init_50 rfl (lv_at hl 0 rfl) ?_
  refine lv_iload hx hb dX2_init_51 (lv_at hl 5 rfl) ?_
  replace hf := bnd hf
  obtain ⟨m19, h20, hf⟩ := hf
  refine p_4_4 X hW hinX2 hF38 h20 dX2_init_53 (fun H locs hW => ?_)
  refine lv_aload_n hx hb dX2_init_56 rfl (lv_at hl 0 rfl) ?_
  refine lv_iload hx hb dX2_init_57 (lv_at hl 6 rfl) ?_
  replace hf := bnd hf
  obtain ⟨m21, h22, hf⟩ := hf
  refine p_4_5 X hW hinX2 hF41 h22 dX2_init_59 (fun H locs hW => ?_)
  exact r_vret X hr hW (by cases hf; exact ⟨rfl, rfl⟩) (by decide) (by decide) dX2_init_62

def f_X2_isAt (mu : Mem) (x0 : Nat) (x1 : Int32) (x2 : Int32) : Option (Int32) := (getI mu 4 6 x0).bind fun t1 => if t1 = 0 then (some 0) else ((getI mu 4 0 x0).bind fun t3 => if t3 = x1 then ((getI mu 4 1 x0).bind fun t5 => if t5 = x2 then (some 1) else (some 0)) else (some 0))
set_option maxHeartbeats 4000000 in
set_option maxRecDepth 100000 in
theorem k_X2_isAt (l : Launch) (hsl : l.stackTraces = false) (G : GG) (A : Nat → Prop) (mu : Mem) (x0 : Nat) (x1 : Int32) (x2 : Int32) (r : Int32) (hf : f_X2_isAt mu x0 x1 x2 = some r) : Ok l yX2_isAt wsX2_isAt ({ frames := 6, cells := 0, slots := 0, locals := 110 } : Room) [.ref x0, .int x1, .int x2] G A mu (dP (.inr (rI r)) mu) := by
  refine Ok.start (cc := cX2_isAt) (maxL := 3) (ret := (some .boolean)) rfl (by decide +kernel) hsl (by first | exact Nat.le_of_ble_eq_true rfl | simp [lg_sl, cat_rf, Value.category]) ?_
  intro p e s m args below meth c ls X hr hname hW hl
  have X : BX p l s m args meth c cX2_isAt 3 RX2 wsX2_isAt G A := X
  have hx := X.1
  have hb := X.2.1
  have hts := X.2.2.2.2.1
  have hl : lv_has ls 3 [(0, .ref x0), (1, .int x1), (2, .int x2)] := hl
  have hinX2 : ∀ w ∈ wsX20, w ∈ wsX2_isAt := by decide +kernel
  have hF26 : (Cond.fieldLink RX2 26 "PartcopyistBench$Note" "part" "I").before args s = true := hts _ (by decide +kernel)
  have hF29 : (Cond.fieldLink RX2 29 "PartcopyistBench$Note" "bar" "I").before args s = true := hts _ (by decide +kernel)
  have hF7 : (Cond.fieldLink RX2 7 "PartcopyistBench$Note" "isIn" "Z").before args s = true := hts _ (by decide +kernel)
  unfold f_X2_isAt at hf
  refine lv_aload_n hx hb dX2_isAt_0 rfl (lv_at hl 0 rfl) ?_
  replace hf := bnd hf
  obtain ⟨t1, h2, hf⟩ := hf
  refine g_4_6 X hW hinX2 hF7 h2 dX2_isAt_1 ?_
  refine lv_if_eq (tgt := 27) hx hb dX2_isAt_4 (by decide) (fun hc => ?_) (fun hc => ?_)
  · replace hf := itp hc hf
    refine lv_iconst (v := 0) hx hb dX2_isAt_27 (by decide) ?_
    exact r_zret X hr hW (Or.inl rfl) (by cases hf; exact ⟨rfl, rfl⟩) (by decide) (by decide) dX2_isAt_28
  · replace hf := itn hc hf
    refine lv_aload_n hx hb dX2_isAt_7 rfl (lv_at hl 0 rfl) ?_
    replace hf := bnd hf
    obtain ⟨t3, h4, hf⟩ := hf
    refine g_4_0 X hW hinX2 hF26 h4 dX2_isAt_8 ?_
    refine lv_iload_n hx hb dX2_isAt_11 rfl (lv_at hl 1 rfl) ?_
    refine lv_icmp_ne (tgt := 27) hx hb dX2_isAt_12 (by decide) (fun hc => ?_) (fun hc => ?_)
    · replace hf := itn hc hf
      refine lv_iconst (v := 0) hx hb dX2_isAt_27 (by decide) ?_
      exact r_zret X hr hW (Or.inl rfl) (by cases hf; exact ⟨rfl, rfl⟩) (by decide) (by decide) dX2_isAt_28
    · replace hf := itp hc hf
      refine lv_aload_n hx hb dX2_isAt_15 rfl (lv_at hl 0 rfl) ?_
      replace hf := bnd hf
      obtain ⟨t5, h6, hf⟩ := hf
      refine g_4_1 X hW hinX2 hF29 h6 dX2_isAt_16 ?_
      refine lv_iload_n hx hb dX2_isAt_19 rfl (lv_at hl 2 rfl) ?_
      refine lv_icmp_ne (tgt := 27) hx hb dX2_isAt_20 (by decide) (fun hc => ?_) (fun hc => ?_)
      · replace hf := itn hc hf
        refine lv_iconst (v := 0) hx hb dX2_isAt_27 (by decide) ?_
        exact r_zret X hr hW (Or.inl rfl) (by cases hf; exact ⟨rfl, rfl⟩) (by decide) (by decide) dX2_isAt_28
      · replace hf := itp hc hf
        refine lv_iconst (v := 1) hx hb dX2_isAt_23 (by decide) ?_
        refine lv_goto (tgt := 28) hx hb dX2_isAt_24 (by decide) ?_
        exact r_zret X hr hW (Or.inr rfl) (by cases hf; exact ⟨rfl, rfl⟩) (by decide) (by decide) dX2_isAt_28

def f_X2_sharesTicks (mu : Mem) (x0 : Nat) (x1 : Int32) (x2 : Int32) : Option (Int32) := (getI mu 4 3 x0).bind fun t1 => if (x1 + x2) ≤ t1 then (some 0) else ((getI mu 4 3 x0).bind fun t3 => (getI mu 4 4 x0).bind fun t5 => if (t3 + t5) ≤ x1 then (some 0) else (some 1))
set_option maxHeartbeats 4000000 in
set_option maxRecDepth 100000 in
theorem k_X2_sharesTicks (l : Launch) (hsl : l.stackTraces = false) (G : GG) (A : Nat → Prop) (mu : Mem) (x0 : Nat) (x1 : Int32) (x2 : Int32) (r : Int32) (hf : f_X2_sharesTicks mu x0 x1 x2 = some r) : Ok l yX2_sharesTicks wsX2_sharesTicks ({ frames := 6, cells := 0, slots := 0, locals := 110 } : Room) [.ref x0, .int x1, .int x2] G A mu (dP (.inr (rI r)) mu) := by
  refine Ok.start (cc := cX2_sharesTicks) (maxL := 3) (ret := (some .boolean)) rfl (by decide +kernel) hsl (by first | exact Nat.le_of_ble_eq_true rfl | simp [lg_sl, cat_rf, Value.category]) ?_
  intro p e s m args below meth c ls X hr hname hW hl
  have X : BX p l s m args meth c cX2_sharesTicks 3 RX2 wsX2_sharesTicks G A := X
  have hx := X.1
  have hb := X.2.1
  have hts := X.2.2.2.2.1
  have hl : lv_has ls 3 [(0, .ref x0), (1, .int x1), (2, .int x2)] := hl
  have hinX2 : ∀ w ∈ wsX20, w ∈ wsX2_sharesTicks := by decide +kernel
  have hF35 : (Cond.fieldLink RX2 35 "PartcopyistBench$Note" "tick" "I").before args s = true := hts _ (by decide +kernel)
  have hF38 : (Cond.fieldLink RX2 38 "PartcopyistBench$Note" "length" "I").before args s = true := hts _ (by decide +kernel)
  unfold f_X2_sharesTicks at hf
  refine lv_aload_n hx hb dX2_sharesTicks_0 rfl (lv_at hl 0 rfl) ?_
  replace hf := bnd hf
  obtain ⟨t1, h2, hf⟩ := hf
  refine g_4_3 X hW hinX2 hF35 h2 dX2_sharesTicks_1 ?_
  refine lv_iload_n hx hb dX2_sharesTicks_4 rfl (lv_at hl 1 rfl) ?_
  refine lv_iload_n hx hb dX2_sharesTicks_5 rfl (lv_at hl 2 rfl) ?_
  refine lv_iadd hx hb dX2_sharesTicks_6 ?_
  refine lv_icmp_ge (tgt := 27) hx hb dX2_sharesTicks_7 (by decide) (fun hc => ?_) (fun hc => ?_)
  · replace hf := itp hc hf
    refine lv_iconst (v := 0) hx hb dX2_sharesTicks_27 (by decide) ?_
    exact r_zret X hr hW (Or.inl rfl) (by cases hf; exact ⟨rfl, rfl⟩) (by decide) (by decide) dX2_sharesTicks_28
  · replace hf := itn hc hf
    refine lv_iload_n hx hb dX2_sharesTicks_10 rfl (lv_at hl 1 rfl) ?_
    refine lv_aload_n hx hb dX2_sharesTicks_11 rfl (lv_at hl 0 rfl) ?_
    replace hf := bnd hf
    obtain ⟨t3, h4, hf⟩ := hf
    refine g_4_3 X hW hinX2 hF35 h4 dX2_sharesTicks_12 ?_
    refine lv_aload_n hx hb dX2_sharesTicks_15 rfl (lv_at hl 0 rfl) ?_
    replace hf := bnd hf
    obtain ⟨t5, h6, hf⟩ := hf
    refine g_4_4 X hW hinX2 hF38 h6 dX2_sharesTicks_16 ?_
    refine lv_iadd hx hb dX2_sharesTicks_19 ?_
    refine lv_icmp_ge (tgt := 27) hx hb dX2_sharesTicks_20 (by decide) (fun hc => ?_) (fun hc => ?_)
    · replace hf := itp hc hf
      refine lv_iconst (v := 0) hx hb dX2_sharesTicks_27 (by decide) ?_
      exact r_zret X hr hW (Or.inl rfl) (by cases hf; exact ⟨rfl, rfl⟩) (by decide) (by decide) dX2_sharesTicks_28
    · replace hf := itn hc hf
      refine lv_iconst (v := 1) hx hb dX2_sharesTicks_23 (by decide) ?_
      refine lv_goto (tgt := 28) hx hb dX2_sharesTicks_24 (by decide) ?_
      exact r_zret X hr hW (Or.inr rfl) (by cases hf; exact ⟨rfl, rfl⟩) (by decide) (by decide) dX2_sharesTicks_28

def f_X2_comesAheadOf (mu : Mem) (x0 : Nat) (x1 : Option Nat) : Option (Int32) := (getI mu 4 3 x0).bind fun t1 => x1.bind fun a3 => (getI mu 4 3 a3).bind fun t5 => if t1 < t5 then (some 1) else ((getI mu 4 3 x0).bind fun t7 => (getI mu 4 3 a3).bind fun t9 => if t7 = t9 then ((getI mu 4 2 x0).bind fun t11 => (getI mu 4 2 a3).bind fun t13 => if t13 ≤ t11 then (some 0) else (some 1)) else (some 0))
set_option maxHeartbeats 4000000 in
set_option maxRecDepth 100000 in
theorem k_X2_comesAheadOf (l : Launch) (hsl : l.stackTraces = false) (G : GG) (A : Nat → Prop) (mu : Mem) (x0 : Nat) (x1 : Option Nat) (r : Int32) (hf : f_X2_comesAheadOf mu x0 x1 = some r) : Ok l yX2_comesAheadOf wsX2_comesAheadOf ({ frames := 6, cells := 0, slots := 0, locals := 110 } : Room) [.ref x0, va_rf x1] G A mu (dP (.inr (rI r)) mu) := by
  refine Ok.start (cc := cX2_comesAheadOf) (maxL := 2) (ret := (some .boolean)) rfl (by decide +kernel) hsl (by cases x1 <;> exact Nat.le_of_ble_eq_true rfl) ?_
  intro p e s m args below meth c ls X hr hname hW hl
  have X : BX p l s m args meth c cX2_comesAheadOf 2 RX2 wsX2_comesAheadOf G A := X
  have hx := X.1
  have hb := X.2.1
  have hts := X.2.2.2.2.1
  have hl : lv_has ls 2 [(0, .ref x0), (1, va_rf x1)] := by cases x1 <;> exact hl
  have hinX2 : ∀ w ∈ wsX20, w ∈ wsX2_comesAheadOf := by decide +kernel
  have hF32 : (Cond.fieldLink RX2 32 "PartcopyistBench$Note" "voice" "I").before args s = true := hts _ (by decide +kernel)
  have hF35 : (Cond.fieldLink RX2 35 "PartcopyistBench$Note" "tick" "I").before args s = true := hts _ (by decide +kernel)
  unfold f_X2_comesAheadOf at hf
  refine lv_aload_n hx hb dX2_comesAheadOf_0 rfl (lv_at hl 0 rfl) ?_
  replace hf := bnd hf
  obtain ⟨t1, h2, hf⟩ := hf
  refine g_4_3 X hW hinX2 hF35 h2 dX2_comesAheadOf_1 ?_
  refine r_aload_nq hx hb dX2_comesAheadOf_4 rfl (lv_at hl 1 rfl) ?_
  replace hf := bnd hf
  obtain ⟨a3, h4, hf⟩ := hf
  subst h4
  replace hf := bnd hf
  obtain ⟨t5, h6, hf⟩ := hf
  refine g_4_3 X hW hinX2 hF35 h6 dX2_comesAheadOf_5 ?_
  refine lv_icmp_lt (tgt := 33) hx hb dX2_comesAheadOf_8 (by decide) (fun hc => ?_) (fun hc => ?_)
  · replace hf := itp hc hf
    refine lv_iconst (v := 1) hx hb dX2_comesAheadOf_33 (by decide) ?_
    refine lv_goto (tgt := 38) hx hb dX2_comesAheadOf_34 (by decide) ?_
    exact r_zret X hr hW (Or.inr rfl) (by cases hf; exact ⟨rfl, rfl⟩) (by decide) (by decide) dX2_comesAheadOf_38
  · replace hf := itn hc hf
    refine lv_aload_n hx hb dX2_comesAheadOf_11 rfl (lv_at hl 0 rfl) ?_
    replace hf := bnd hf
    obtain ⟨t7, h8, hf⟩ := hf
    refine g_4_3 X hW hinX2 hF35 h8 dX2_comesAheadOf_12 ?_
    refine lv_aload_n hx hb dX2_comesAheadOf_15 rfl (lv_at hl 1 rfl) ?_
    replace hf := bnd hf
    obtain ⟨t9, h10, hf⟩ := hf
    refine g_4_3 X hW hinX2 hF35 h10 dX2_comesAheadOf_16 ?_
    refine lv_icmp_ne (tgt := 37) hx hb dX2_comesAheadOf_19 (by decide) (fun hc => ?_) (fun hc => ?_)
    · replace hf := itn hc hf
      refine lv_iconst (v := 0) hx hb dX2_comesAheadOf_37 (by decide) ?_
      exact r_zret X hr hW (Or.inl rfl) (by cases hf; exact ⟨rfl, rfl⟩) (by decide) (by decide) dX2_comesAheadOf_38
    · replace hf := itp hc hf
      refine lv_aload_n hx hb dX2_comesAheadOf_22 rfl (lv_at hl 0 rfl) ?_
      replace hf := bnd hf
      obtain ⟨t11, h12, hf⟩ := hf
      refine g_4_2 X hW hinX2 hF32 h12 dX2_comesAheadOf_23 ?_
      refine lv_aload_n hx hb dX2_comesAheadOf_26 rfl (lv_at hl 1 rfl) ?_
      replace hf := bnd hf
      obtain ⟨t13, h14, hf⟩ := hf
      refine g_4_2 X hW hinX2 hF32 h14 dX2_comesAheadOf_27 ?_
      refine lv_icmp_ge (tgt := 37) hx hb dX2_comesAheadOf_30 (by decide) (fun hc => ?_) (fun hc => ?_)
      · replace hf := itp hc hf
        refine lv_iconst (v := 0) hx hb dX2_comesAheadOf_37 (by decide) ?_
        exact r_zret X hr hW (Or.inl rfl) (by cases hf; exact ⟨rfl, rfl⟩) (by decide) (by decide) dX2_comesAheadOf_38
      · replace hf := itn hc hf
        refine lv_iconst (v := 1) hx hb dX2_comesAheadOf_33 (by decide) ?_
        refine lv_goto (tgt := 38) hx hb dX2_comesAheadOf_34 (by decide) ?_
        exact r_zret X hr hW (Or.inr rfl) (by cases hf; exact ⟨rfl, rfl⟩) (by decide) (by decide) dX2_comesAheadOf_38

def f_X2_differs (mu : Mem) (x0 : Nat) : Option (Int32) := (getI mu 4 6 x0).bind fun t1 => if t1 = 0 then ((getI mu 4 6 x0).bind fun t3 => if t3 = 0 then ((getI mu 4 7 x0).bind fun t5 => if t5 = 0 then (some 0) else (some 1)) else (some 1)) else ((getI mu 4 7 x0).bind fun t7 => if t7 = 0 then ((getI mu 4 6 x0).bind fun t9 => if t9 = 0 then ((getI mu 4 7 x0).bind fun t11 => if t11 = 0 then (some 0) else (some 1)) else (some 1)) else ((getI mu 4 5 x0).bind fun t13 => (getI mu 4 9 x0).bind fun t15 => if t13 = t15 then ((getI mu 4 4 x0).bind fun t17 => (getI mu 4 8 x0).bind fun t19 => if t17 = t19 then (some 0) else (some 1)) else (some 1)))
set_option maxHeartbeats 4000000 in
set_option maxRecDepth 100000 in
theorem k_X2_differs (l : Launch) (hsl : l.stackTraces = false) (G : GG) (A : Nat → Prop) (mu : Mem) (x0 : Nat) (r : Int32) (hf : f_X2_differs mu x0 = some r) : Ok l yX2_differs wsX2_differs ({ frames := 6, cells := 0, slots := 0, locals := 110 } : Room) [.ref x0] G A mu (dP (.inr (rI r)) mu) := by
  refine Ok.start (cc := cX2_differs) (maxL := 1) (ret := (some .boolean)) rfl (by decide +kernel) hsl (by first | exact Nat.le_of_ble_eq_true rfl | simp [lg_sl, cat_rf, Value.category]) ?_
  intro p e s m args below meth c ls X hr hname hW hl
  have X : BX p l s m args meth c cX2_differs 1 RX2 wsX2_differs G A := X
  have hx := X.1
  have hb := X.2.1
  have hts := X.2.2.2.2.1
  have hl : lv_has ls 1 [(0, .ref x0)] := hl
  have hinX2 : ∀ w ∈ wsX20, w ∈ wsX2_differs := by decide +kernel
  have hF13 : (Cond.fieldLink RX2 13 "PartcopyistBench$Note" "isInCopy" "Z").before args s = true := hts _ (by decide +kernel)
  have hF16 : (Cond.fieldLink RX2 16 "PartcopyistBench$Note" "copyLength" "I").before args s = true := hts _ (by decide +kernel)
  have hF20 : (Cond.fieldLink RX2 20 "PartcopyistBench$Note" "copyPitch" "I").before args s = true := hts _ (by decide +kernel)
  have hF38 : (Cond.fieldLink RX2 38 "PartcopyistBench$Note" "length" "I").before args s = true := hts _ (by decide +kernel)
  have hF41 : (Cond.fieldLink RX2 41 "PartcopyistBench$Note" "pitch" "I").before args s = true := hts _ (by decide +kernel)
  have hF7 : (Cond.fieldLink RX2 7 "PartcopyistBench$Note" "isIn" "Z").before args s = true := hts _ (by decide +kernel)
  unfold f_X2_differs at hf
  refine lv_aload_n hx hb dX2_differs_0 rfl (lv_at hl 0 rfl) ?_
  replace hf := bnd hf
  obtain ⟨t1, h2, hf⟩ := hf
  refine g_4_6 X hW hinX2 hF7 h2 dX2_differs_1 ?_
  refine lv_if_eq (tgt := 42) hx hb dX2_differs_4 (by decide) (fun hc => ?_) (fun hc => ?_)
  · replace hf := itp hc hf
    refine lv_aload_n hx hb dX2_differs_42 rfl (lv_at hl 0 rfl) ?_
    replace hf := bnd hf
    obtain ⟨t3, h4, hf⟩ := hf
    refine g_4_6 X hW hinX2 hF7 h4 dX2_differs_43 ?_
    refine lv_if_ne (tgt := 56) hx hb dX2_differs_46 (by decide) (fun hc => ?_) (fun hc => ?_)
    · replace hf := itn hc hf
      refine lv_iconst (v := 1) hx hb dX2_differs_56 (by decide) ?_
      refine lv_goto (tgt := 61) hx hb dX2_differs_57 (by decide) ?_
      exact r_zret X hr hW (Or.inr rfl) (by cases hf; exact ⟨rfl, rfl⟩) (by decide) (by decide) dX2_differs_61
    · replace hf := itp hc hf
      refine lv_aload_n hx hb dX2_differs_49 rfl (lv_at hl 0 rfl) ?_
      replace hf := bnd hf
      obtain ⟨t5, h6, hf⟩ := hf
      refine g_4_7 X hW hinX2 hF13 h6 dX2_differs_50 ?_
      refine lv_if_eq (tgt := 60) hx hb dX2_differs_53 (by decide) (fun hc => ?_) (fun hc => ?_)
      · replace hf := itp hc hf
        refine lv_iconst (v := 0) hx hb dX2_differs_60 (by decide) ?_
        exact r_zret X hr hW (Or.inl rfl) (by cases hf; exact ⟨rfl, rfl⟩) (by decide) (by decide) dX2_differs_61
      · replace hf := itn hc hf
        refine lv_iconst (v := 1) hx hb dX2_differs_56 (by decide) ?_
        refine lv_goto (tgt := 61) hx hb dX2_differs_57 (by decide) ?_
        exact r_zret X hr hW (Or.inr rfl) (by cases hf; exact ⟨rfl, rfl⟩) (by decide) (by decide) dX2_differs_61
  · replace hf := itn hc hf
    refine lv_aload_n hx hb dX2_differs_7 rfl (lv_at hl 0 rfl) ?_
    replace hf := bnd hf
    obtain ⟨t7, h8, hf⟩ := hf
    refine g_4_7 X hW hinX2 hF13 h8 dX2_differs_8 ?_
    refine lv_if_eq (tgt := 42) hx hb dX2_differs_11 (by decide) (fun hc => ?_) (fun hc => ?_)
    · replace hf := itp hc hf
      refine lv_aload_n hx hb dX2_differs_42 rfl (lv_at hl 0 rfl) ?_
      replace hf := bnd hf
      obtain ⟨t9, h10, hf⟩ := hf
      refine g_4_6 X hW hinX2 hF7 h10 dX2_differs_43 ?_
      refine lv_if_ne (tgt := 56) hx hb dX2_differs_46 (by decide) (fun hc => ?_) (fun hc => ?_)
      · replace hf := itn hc hf
        refine lv_iconst (v := 1) hx hb dX2_differs_56 (by decide) ?_
        refine lv_goto (tgt := 61) hx hb dX2_differs_57 (by decide) ?_
        exact r_zret X hr hW (Or.inr rfl) (by cases hf; exact ⟨rfl, rfl⟩) (by decide) (by decide) dX2_differs_61
      · replace hf := itp hc hf
        refine lv_aload_n hx hb dX2_differs_49 rfl (lv_at hl 0 rfl) ?_
        replace hf := bnd hf
        obtain ⟨t11, h12, hf⟩ := hf
        refine g_4_7 X hW hinX2 hF13 h12 dX2_differs_50 ?_
        refine lv_if_eq (tgt := 60) hx hb dX2_differs_53 (by decide) (fun hc => ?_) (fun hc => ?_)
        · replace hf := itp hc hf
          refine lv_iconst (v := 0) hx hb dX2_differs_60 (by decide) ?_
          exact r_zret X hr hW (Or.inl rfl) (by cases hf; exact ⟨rfl, rfl⟩) (by decide) (by decide) dX2_differs_61
        · replace hf := itn hc hf
          refine lv_iconst (v := 1) hx hb dX2_differs_56 (by decide) ?_
          refine lv_goto (tgt := 61) hx hb dX2_differs_57 (by decide) ?_
          exact r_zret X hr hW (Or.inr rfl) (by cases hf; exact ⟨rfl, rfl⟩) (by decide) (by decide) dX2_differs_61
    · replace hf := itn hc hf
      refine lv_aload_n hx hb dX2_differs_14 rfl (lv_at hl 0 rfl) ?_
      replace hf := bnd hf
      obtain ⟨t13, h14, hf⟩ := hf
      refine g_4_5 X hW hinX2 hF41 h14 dX2_differs_15 ?_
      refine lv_aload_n hx hb dX2_differs_18 rfl (lv_at hl 0 rfl) ?_
      replace hf := bnd hf
      obtain ⟨t15, h16, hf⟩ := hf
      refine g_4_9 X hW hinX2 hF20 h16 dX2_differs_19 ?_
      refine lv_icmp_ne (tgt := 36) hx hb dX2_differs_22 (by decide) (fun hc => ?_) (fun hc => ?_)
      · replace hf := itn hc hf
        refine lv_iconst (v := 1) hx hb dX2_differs_36 (by decide) ?_
        refine lv_goto (tgt := 41) hx hb dX2_differs_37 (by decide) ?_
        exact r_zret X hr hW (Or.inr rfl) (by cases hf; exact ⟨rfl, rfl⟩) (by decide) (by decide) dX2_differs_41
      · replace hf := itp hc hf
        refine lv_aload_n hx hb dX2_differs_25 rfl (lv_at hl 0 rfl) ?_
        replace hf := bnd hf
        obtain ⟨t17, h18, hf⟩ := hf
        refine g_4_4 X hW hinX2 hF38 h18 dX2_differs_26 ?_
        refine lv_aload_n hx hb dX2_differs_29 rfl (lv_at hl 0 rfl) ?_
        replace hf := bnd hf
        obtain ⟨t19, h20, hf⟩ := hf
        refine g_4_8 X hW hinX2 hF16 h20 dX2_differs_30 ?_
        refine lv_icmp_eq (tgt := 40) hx hb dX2_differs_33 (by decide) (fun hc => ?_) (fun hc => ?_)
        · replace hf := itp hc hf
          refine lv_iconst (v := 0) hx hb dX2_differs_40 (by decide) ?_
          exact r_zret X hr hW (Or.inl rfl) (by cases hf; exact ⟨rfl, rfl⟩) (by decide) (by decide) dX2_differs_41
        · replace hf := itn hc hf
          refine lv_iconst (v := 1) hx hb dX2_differs_36 (by decide) ?_
          refine lv_goto (tgt := 41) hx hb dX2_differs_37 (by decide) ?_
          exact r_zret X hr hW (Or.inr rfl) (by cases hf; exact ⟨rfl, rfl⟩) (by decide) (by decide) dX2_differs_41

def f_X2_enterCopy (mu : Mem) (x0 : Nat) : Option ((Unit) × Mem) := (getI mu 4 6 x0).bind fun t1 => (putZ mu 4 7 x0 t1).bind fun m3 => (getI m3 4 5 x0).bind fun t5 => (putI m3 4 9 x0 t5).bind fun m7 => (getI m7 4 4 x0).bind fun t9 => (putI m7 4 8 x0 t9).bind fun m11 => (putZ m11 4 10 x0 0).bind fun m13 => some ((), m13)
set_option maxHeartbeats 4000000 in
set_option maxRecDepth 100000 in
theorem k_X2_enterCopy (l : Launch) (hsl : l.stackTraces = false) (G : GG) (A : Nat → Prop) (mu : Mem) (x0 : Nat) (r : (Unit) × Mem) (hf : f_X2_enterCopy mu x0 = some r) : Ok l yX2_enterCopy wsX2_enterCopy ({ frames := 6, cells := 0, slots := 0, locals := 110 } : Room) [.ref x0] G A mu (dP (.inr (rV r.1)) r.2) := by
  refine Ok.start (cc := cX2_enterCopy) (maxL := 1) (ret := none) rfl (by decide +kernel) hsl (by first | exact Nat.le_of_ble_eq_true rfl | simp [lg_sl, cat_rf, Value.category]) ?_
  intro p e s m args below meth c ls X hr hname hW hl
  have X : BX p l s m args meth c cX2_enterCopy 1 RX2 wsX2_enterCopy G A := X
  have hx := X.1
  have hb := X.2.1
  have hts := X.2.2.2.2.1
  have hl : lv_has ls 1 [(0, .ref x0)] := hl
  have hinX2 : ∀ w ∈ wsX20, w ∈ wsX2_enterCopy := by decide +kernel
  have hF13 : (Cond.fieldLink RX2 13 "PartcopyistBench$Note" "isInCopy" "Z").before args s = true := hts _ (by decide +kernel)
  have hF16 : (Cond.fieldLink RX2 16 "PartcopyistBench$Note" "copyLength" "I").before args s = true := hts _ (by decide +kernel)
  have hF20 : (Cond.fieldLink RX2 20 "PartcopyistBench$Note" "copyPitch" "I").before args s = true := hts _ (by decide +kernel)
  have hF23 : (Cond.fieldLink RX2 23 "PartcopyistBench$Note" "isTouched" "Z").before args s = true := hts _ (by decide +kernel)
  have hF38 : (Cond.fieldLink RX2 38 "PartcopyistBench$Note" "length" "I").before args s = true := hts _ (by decide +kernel)
  have hF41 : (Cond.fieldLink RX2 41 "PartcopyistBench$Note" "pitch" "I").before args s = true := hts _ (by decide +kernel)
  have hF7 : (Cond.fieldLink RX2 7 "PartcopyistBench$Note" "isIn" "Z").before args s = true := hts _ (by decide +kernel)
  unfold f_X2_enterCopy at hf
  refine lv_aload_n hx hb dX2_enterCopy_0 rfl (lv_at hl 0 rfl) ?_
  refine lv_aload_n hx hb dX2_enterCopy_1 rfl (lv_at hl 0 rfl) ?_
  replace hf := bnd hf
  obtain ⟨t1, h2, hf⟩ := hf
  refine g_4_6 X hW hinX2 hF7 h2 dX2_enterCopy_2 ?_
  replace hf := bnd hf
  obtain ⟨m3, h4, hf⟩ := hf
  refine p_4_7 X hW hinX2 hF13 h4 dX2_enterCopy_5 (fun H locs hW => ?_)
  refine lv_aload_n hx hb dX2_enterCopy_8 rfl (lv_at hl 0 rfl) ?_
  refine lv_aload_n hx hb dX2_enterCopy_9 rfl (lv_at hl 0 rfl) ?_
  replace hf := bnd hf
  obtain ⟨t5, h6, hf⟩ := hf
  refine g_4_5 X hW hinX2 hF41 h6 dX2_enterCopy_10 ?_
  replace hf := bnd hf
  obtain ⟨m7, h8, hf⟩ := hf
  refine p_4_9 X hW hinX2 hF20 h8 dX2_enterCopy_13 (fun H locs hW => ?_)
  refine lv_aload_n hx hb dX2_enterCopy_16 rfl (lv_at hl 0 rfl) ?_
  refine lv_aload_n hx hb dX2_enterCopy_17 rfl (lv_at hl 0 rfl) ?_
  replace hf := bnd hf
  obtain ⟨t9, h10, hf⟩ := hf
  refine g_4_4 X hW hinX2 hF38 h10 dX2_enterCopy_18 ?_
  replace hf := bnd hf
  obtain ⟨m11, h12, hf⟩ := hf
  refine p_4_8 X hW hinX2 hF16 h12 dX2_enterCopy_21 (fun H locs hW => ?_)
  refine lv_aload_n hx hb dX2_enterCopy_24 rfl (lv_at hl 0 rfl) ?_
  refine lv_iconst (v := 0) hx hb dX2_enterCopy_25 (by decide) ?_
  replace hf := bnd hf
  obtain ⟨m13, h14, hf⟩ := hf
  refine p_4_10 X hW hinX2 hF23 h14 dX2_enterCopy_26 (fun H locs hW => ?_)
  exact r_vret X hr hW (by cases hf; exact ⟨rfl, rfl⟩) (by decide) (by decide) dX2_enterCopy_29

def f_X3_init (mu : Mem) (x0 : Nat) (x1 : Int32) : Option ((Unit) × Mem) := (putZ mu 5 1 x0 0).bind fun m1 => (putI m1 5 0 x0 x1).bind fun m3 => some ((), m3)
set_option maxHeartbeats 4000000 in
set_option maxRecDepth 100000 in
theorem k_X3_init (l : Launch) (hsl : l.stackTraces = false) (G : GG) (A : Nat → Prop) (mu : Mem) (x0 : Nat) (x1 : Int32) (r : (Unit) × Mem) (hf : f_X3_init mu x0 x1 = some r) : Ok l yX3_init wsX3_init ({ frames := 6, cells := 0, slots := 0, locals := 110 } : Room) [.ref x0, .int x1] G A mu (dP (.inr (rV r.1)) r.2) := by
  refine Ok.start (cc := cX3_init) (maxL := 2) (ret := none) rfl (by decide +kernel) hsl (by first | exact Nat.le_of_ble_eq_true rfl | simp [lg_sl, cat_rf, Value.category]) ?_
  intro p e s m args below meth c ls X hr hname hW hl
  have X : BX p l s m args meth c cX3_init 2 RX3 wsX3_init G A := X
  have hx := X.1
  have hb := X.2.1
  have hts := X.2.2.2.2.1
  have hl : lv_has ls 2 [(0, .ref x0), (1, .int x1)] := hl
  have hinX3 : ∀ w ∈ wsX30, w ∈ wsX3_init := by decide +kernel
  have hO1 : (Cond.methodLink RX3 1 objectInit).before args s = true := hts _ (by decide +kernel)
  have hO2 : (Cond.instanceMethod objectInit).before args s = true := hts _ (by decide +kernel)
  have hO3 : (Cond.code objectInit ⟨#[0xb1]⟩ 1 none).before args s = true := hts _ (by decide +kernel)
  have hF13 : (Cond.fieldLink RX3 13 "PartcopyistBench$Part" "shift" "I").before args s = true := hts _ (by decide +kernel)
  have hF7 : (Cond.fieldLink RX3 7 "PartcopyistBench$Part" "isCopied" "Z").before args s = true := hts _ (by decide +kernel)
  unfold f_X3_init at hf
  refine lv_aload_n hx hb dX3_init_0 rfl (lv_at hl 0 rfl) ?_
  refine W.objInit hx hb X.2.2.2.1 hO1 hO2 hO3 rfl (X.2.2.1.trans hl.1.symm).symm rfl dX3_init_1 (Nat.le_of_ble_eq_true rfl) (Nat.le_of_ble_eq_true rfl) ?_
  refine W.eq (g2 := F0 m 4 ls []) rfl ?_
  refine lv_aload_n hx hb dX3_init_4 rfl (lv_at hl 0 rfl) ?_
  refine lv_iconst (v := 0) hx hb dX3_init_5 (by decide) ?_
  replace hf := bnd hf
  obtain ⟨m1, h2, hf⟩ := hf
  refine p_5_1 X hW hinX3 hF7 h2 dX3_init_6 (fun H locs hW => ?_)
  refine lv_aload_n hx hb dX3_init_9 rfl (lv_at hl 0 rfl) ?_
  refine lv_iload_n hx hb dX3_init_10 rfl (lv_at hl 1 rfl) ?_
  replace hf := bnd hf
  obtain ⟨m3, h4, hf⟩ := hf
  refine p_5_0 X hname rfl hW hinX3 hF13 h4 dX3_init_11 (fun H locs hW => ?_)
  exact r_vret X hr hW (by cases hf; exact ⟨rfl, rfl⟩) (by decide) (by decide) dX3_init_14

