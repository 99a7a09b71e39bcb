def f_X1_begin (mu : Mem) (x0 : Nat) (x1 : Int32) (x2 : Int32) : Option ((Unit) × Mem) := (putI mu 3 10 x0 x1).bind fun m1 => (putI m1 3 11 x0 x2).bind fun m3 => (putI m3 3 9 x0 0).bind fun m5 => some ((), m5)
set_option maxHeartbeats 4000000 in
set_option maxRecDepth 100000 in
theorem k_X1_begin (l : Launch) (hsl : l.stackTraces = false) (G : GG) (A : Nat → Prop) (mu : Mem) (x0 : Nat) (x1 : Int32) (x2 : Int32) (r : (Unit) × Mem) (hf : f_X1_begin mu x0 x1 x2 = some r) : Ok l yX1_begin wsX1_begin ({ frames := 6, cells := 0, slots := 0, locals := 110 } : Room) [.ref x0, .int x1, .int x2] G A mu (dP (.inr (rV r.1)) r.2) := by
  refine Ok.start (cc := cX1_begin) (maxL := 3) (ret := none) rfl (by decide +kernel) hsl (by first | exact Nat.le_of_ble_eq_true rfl | simp [lg_sl, cat_rf, Value.category]) ?_
  intro p e s m args below meth c ls X hr hname hW hl
  have X : BX p l s m args meth c cX1_begin 3 RX1 wsX1_begin G A := X
  have hx := X.1
  have hb := X.2.1
  have hts := X.2.2.2.2.1
  have hl : lv_has ls 3 [(0, .ref x0), (1, .int x1), (2, .int x2)] := hl
  have hinX1 : ∀ w ∈ wsX10, w ∈ wsX1_begin := by decide +kernel
  have hF40 : (Cond.fieldLink RX1 40 "PartcopyistBench$Blocks" "count" "I").before args s = true := hts _ (by decide +kernel)
  have hF44 : (Cond.fieldLink RX1 44 "PartcopyistBench$Blocks" "pagePlaces" "I").before args s = true := hts _ (by decide +kernel)
  have hF47 : (Cond.fieldLink RX1 47 "PartcopyistBench$Blocks" "turnTicks" "I").before args s = true := hts _ (by decide +kernel)
  unfold f_X1_begin at hf
  refine lv_aload_n hx hb dX1_begin_0 rfl (lv_at hl 0 rfl) ?_
  refine lv_iload_n hx hb dX1_begin_1 rfl (lv_at hl 1 rfl) ?_
  replace hf := bnd hf
  obtain ⟨m1, h2, hf⟩ := hf
  refine p_3_10 X hW hinX1 hF44 h2 dX1_begin_2 (fun H locs hW => ?_)
  refine lv_aload_n hx hb dX1_begin_5 rfl (lv_at hl 0 rfl) ?_
  refine lv_iload_n hx hb dX1_begin_6 rfl (lv_at hl 2 rfl) ?_
  replace hf := bnd hf
  obtain ⟨m3, h4, hf⟩ := hf
  refine p_3_11 X hW hinX1 hF47 h4 dX1_begin_7 (fun H locs hW => ?_)
  refine lv_aload_n hx hb dX1_begin_10 rfl (lv_at hl 0 rfl) ?_
  refine lv_iconst (v := 0) hx hb dX1_begin_11 (by decide) ?_
  replace hf := bnd hf
  obtain ⟨m5, h6, hf⟩ := hf
  refine p_3_9 X hW hinX1 hF40 h6 dX1_begin_12 (fun H locs hW => ?_)
  exact r_vret X hr hW (by cases hf; exact ⟨rfl, rfl⟩) (by decide) (by decide) dX1_begin_15

def f_X1_add (mu : Mem) (x0 : Nat) (x1 : Int32) (x2 : Int32) (x3 : Int32) (x4 : Int32) (x5 : Int32) : Option ((Unit) × Mem) := (getI mu 3 9 x0).bind fun t1 => if t1 < 0 then (some ((), mu)) else ((getI mu 3 9 x0).bind fun t3 => if t3 < 14 then ((getQ mu 3 0 x0).bind fun t5 => (getI mu 3 9 x0).bind fun t7 => t5.bind fun a9 => (ast mu a9 t7 x1).bind fun m11 => (getQ m11 3 1 x0).bind fun t13 => (getI m11 3 9 x0).bind fun t15 => t13.bind fun a17 => (ast m11 a17 t15 1).bind fun m19 => (getQ m19 3 2 x0).bind fun t21 => (getI m19 3 9 x0).bind fun t23 => t21.bind fun a25 => (ast m19 a25 t23 x2).bind fun m27 => (getQ m27 3 3 x0).bind fun t29 => (getI m27 3 9 x0).bind fun t31 => t29.bind fun a33 => (ast m27 a33 t31 x3).bind fun m35 => (getQ m35 3 4 x0).bind fun t37 => (getI m35 3 9 x0).bind fun t39 => t37.bind fun a41 => (ast m35 a41 t39 x4).bind fun m43 => (getQ m43 3 5 x0).bind fun t45 => (getI m43 3 9 x0).bind fun t47 => t45.bind fun a49 => (zst m43 a49 t47 x5).bind fun m51 => (getI m51 3 9 x0).bind fun t53 => (putI m51 3 9 x0 (t53 + 1)).bind fun m55 => some ((), m55)) else (some ((), mu)))
set_option maxHeartbeats 4000000 in
set_option maxRecDepth 100000 in
theorem k_X1_add (l : Launch) (hsl : l.stackTraces = false) (G : GG) (A : Nat → Prop) (mu : Mem) (x0 : Nat) (x1 : Int32) (x2 : Int32) (x3 : Int32) (x4 : Int32) (x5 : Int32) (r : (Unit) × Mem) (hf : f_X1_add mu x0 x1 x2 x3 x4 x5 = some r) : Ok l yX1_add wsX1_add ({ frames := 6, cells := 0, slots := 0, locals := 110 } : Room) [.ref x0, .int x1, .int x2, .int x3, .int x4, .int x5] G A mu (dP (.inr (rV r.1)) r.2) := by
  refine Ok.start (cc := cX1_add) (maxL := 6) (ret := none) rfl (by decide +kernel) hsl (by first | exact Nat.le_of_ble_eq_true rfl | simp [lg_sl, cat_rf, Value.category]) ?_
  intro p e s m args below meth c ls X hr hname hW hl
  have X : BX p l s m args meth c cX1_add 6 RX1 wsX1_add G A := X
  have hx := X.1
  have hb := X.2.1
  have hts := X.2.2.2.2.1
  have hl : lv_has ls 6 [(0, .ref x0), (1, .int x1), (2, .int x2), (3, .int x3), (4, .int x4), (5, .int x5)] := hl
  have hinX1 : ∀ w ∈ wsX10, w ∈ wsX1_add := by decide +kernel
  have hF11 : (Cond.fieldLink RX1 11 "PartcopyistBench$Blocks" "firstBars" "[I").before args s = true := hts _ (by decide +kernel)
  have hF15 : (Cond.fieldLink RX1 15 "PartcopyistBench$Blocks" "barCounts" "[I").before args s = true := hts _ (by decide +kernel)
  have hF18 : (Cond.fieldLink RX1 18 "PartcopyistBench$Blocks" "places" "[I").before args s = true := hts _ (by decide +kernel)
  have hF21 : (Cond.fieldLink RX1 21 "PartcopyistBench$Blocks" "restAtStart" "[I").before args s = true := hts _ (by decide +kernel)
  have hF24 : (Cond.fieldLink RX1 24 "PartcopyistBench$Blocks" "restAtEnd" "[I").before args s = true := hts _ (by decide +kernel)
  have hF27 : (Cond.fieldLink RX1 27 "PartcopyistBench$Blocks" "isRest" "[Z").before args s = true := hts _ (by decide +kernel)
  have hF40 : (Cond.fieldLink RX1 40 "PartcopyistBench$Blocks" "count" "I").before args s = true := hts _ (by decide +kernel)
  unfold f_X1_add at hf
  refine lv_aload_n hx hb dX1_add_0 rfl (lv_at hl 0 rfl) ?_
  replace hf := bnd hf
  obtain ⟨t1, h2, hf⟩ := hf
  refine g_3_9 X hW hinX1 hF40 h2 dX1_add_1 ?_
  refine lv_if_lt (tgt := 16) hx hb dX1_add_4 (by decide) (fun hc => ?_) (fun hc => ?_)
  · replace hf := itp hc hf
    exact r_vret X hr hW (by cases hf; exact ⟨rfl, rfl⟩) (by decide) (by decide) dX1_add_16
  · replace hf := itn hc hf
    refine lv_aload_n hx hb dX1_add_7 rfl (lv_at hl 0 rfl) ?_
    replace hf := bnd hf
    obtain ⟨t3, h4, hf⟩ := hf
    refine g_3_9 X hW hinX1 hF40 h4 dX1_add_8 ?_
    refine lv_bipush (v := 14) hx hb dX1_add_11 (by decide) ?_
    refine lv_icmp_lt (tgt := 17) hx hb dX1_add_13 (by decide) (fun hc => ?_) (fun hc => ?_)
    · replace hf := itp hc hf
      refine lv_aload_n hx hb dX1_add_17 rfl (lv_at hl 0 rfl) ?_
      replace hf := bnd hf
      obtain ⟨t5, h6, hf⟩ := hf
      refine g_3_0 X hW hinX1 hF11 h6 dX1_add_18 ?_
      refine lv_aload_n hx hb dX1_add_21 rfl (lv_at hl 0 rfl) ?_
      replace hf := bnd hf
      obtain ⟨t7, h8, hf⟩ := hf
      refine g_3_9 X hW hinX1 hF40 h8 dX1_add_22 ?_
      refine lv_iload_n hx hb dX1_add_25 rfl (lv_at hl 1 rfl) ?_
      replace hf := bnd hf
      obtain ⟨a9, h10, hf⟩ := hf
      subst h10
      replace hf := bnd hf
      obtain ⟨m11, h12, hf⟩ := hf
      refine r_ast X hW h12 dX1_add_26 (fun H locs hW => ?_)
      refine lv_aload_n hx hb dX1_add_27 rfl (lv_at hl 0 rfl) ?_
      replace hf := bnd hf
      obtain ⟨t13, h14, hf⟩ := hf
      refine g_3_1 X hW hinX1 hF15 h14 dX1_add_28 ?_
      refine lv_aload_n hx hb dX1_add_31 rfl (lv_at hl 0 rfl) ?_
      replace hf := bnd hf
      obtain ⟨t15, h16, hf⟩ := hf
      refine g_3_9 X hW hinX1 hF40 h16 dX1_add_32 ?_
      refine lv_iconst (v := 1) hx hb dX1_add_35 (by decide) ?_
      replace hf := bnd hf
      obtain ⟨a17, h18, hf⟩ := hf
      subst h18
      replace hf := bnd hf
      obtain ⟨m19, h20, hf⟩ := hf
      refine r_ast X hW h20 dX1_add_36 (fun H locs hW => ?_)
      refine lv_aload_n hx hb dX1_add_37 rfl (lv_at hl 0 rfl) ?_
      replace hf := bnd hf
      obtain ⟨t21, h22, hf⟩ := hf
      refine g_3_2 X hW hinX1 hF18 h22 dX1_add_38 ?_
      refine lv_aload_n hx hb dX1_add_41 rfl (lv_at hl 0 rfl) ?_
      replace hf := bnd hf
      obtain ⟨t23, h24, hf⟩ := hf
      refine g_3_9 X hW hinX1 hF40 h24 dX1_add_42 ?_
      refine lv_iload_n hx hb dX1_add_45 rfl (lv_at hl 2 rfl) ?_
      replace hf := bnd hf
      obtain ⟨a25, h26, hf⟩ := hf
      subst h26
      replace hf := bnd hf
      obtain ⟨m27, h28, hf⟩ := hf
      refine r_ast X hW h28 dX1_add_46 (fun H locs hW => ?_)
      refine lv_aload_n hx hb dX1_add_47 rfl (lv_at hl 0 rfl) ?_
      replace hf := bnd hf
      obtain ⟨t29, h30, hf⟩ := hf
      refine g_3_3 X hW hinX1 hF21 h30 dX1_add_48 ?_
      refine lv_aload_n hx hb dX1_add_51 rfl (lv_at hl 0 rfl) ?_
      replace hf := bnd hf
      obtain ⟨t31, h32, hf⟩ := hf
      refine g_3_9 X hW hinX1 hF40 h32 dX1_add_52 ?_
      refine lv_iload_n hx hb dX1_add_55 rfl (lv_at hl 3 rfl) ?_
      replace hf := bnd hf
      obtain ⟨a33, h34, hf⟩ := hf
      subst h34
      replace hf := bnd hf
      obtain ⟨m35, h36, hf⟩ := hf
      refine r_ast X hW h36 dX1_add_56 (fun H locs hW => ?_)
      refine lv_aload_n hx hb dX1_add_57 rfl (lv_at hl 0 rfl) ?_
      replace hf := bnd hf
      obtain ⟨t37, h38, hf⟩ := hf
      refine g_3_4 X hW hinX1 hF24 h38 dX1_add_58 ?_
      refine lv_aload_n hx hb dX1_add_61 rfl (lv_at hl 0 rfl) ?_
      replace hf := bnd hf
      obtain ⟨t39, h40, hf⟩ := hf
      refine g_3_9 X hW hinX1 hF40 h40 dX1_add_62 ?_
      refine lv_iload hx hb dX1_add_65 (lv_at hl 4 rfl) ?_
      replace hf := bnd hf
      obtain ⟨a41, h42, hf⟩ := hf
      subst h42
      replace hf := bnd hf
      obtain ⟨m43, h44, hf⟩ := hf
      refine r_ast X hW h44 dX1_add_67 (fun H locs hW => ?_)
      refine lv_aload_n hx hb dX1_add_68 rfl (lv_at hl 0 rfl) ?_
      replace hf := bnd hf
      obtain ⟨t45, h46, hf⟩ := hf
      refine g_3_5 X hW hinX1 hF27 h46 dX1_add_69 ?_
      refine lv_aload_n hx hb dX1_add_72 rfl (lv_at hl 0 rfl) ?_
      replace hf := bnd hf
      obtain ⟨t47, h48, hf⟩ := hf
      refine g_3_9 X hW hinX1 hF40 h48 dX1_add_73 ?_
      refine lv_iload hx hb dX1_add_76 (lv_at hl 5 rfl) ?_
      replace hf := bnd hf
      obtain ⟨a49, h50, hf⟩ := hf
      subst h50
      replace hf := bnd hf
      obtain ⟨m51, h52, hf⟩ := hf
      refine r_zst X hW h52 dX1_add_78 (fun H locs hW => ?_)
      refine lv_aload_n hx hb dX1_add_79 rfl (lv_at hl 0 rfl) ?_
      refine lv_dup hx hb dX1_add_80 rfl ?_
      replace hf := bnd hf
      obtain ⟨t53, h54, hf⟩ := hf
      refine g_3_9 X hW hinX1 hF40 h54 dX1_add_81 ?_
      refine lv_iconst (v := 1) hx hb dX1_add_84 (by decide) ?_
      refine lv_iadd hx hb dX1_add_85 ?_
      replace hf := bnd hf
      obtain ⟨m55, h56, hf⟩ := hf
      refine p_3_9 X hW hinX1 hF40 h56 dX1_add_86 (fun H locs hW => ?_)
      exact r_vret X hr hW (by cases hf; exact ⟨rfl, rfl⟩) (by decide) (by decide) dX1_add_89
    · replace hf := itn hc hf
      exact r_vret X hr hW (by cases hf; exact ⟨rfl, rfl⟩) (by decide) (by decide) dX1_add_16

def f_X1_addBarWithNotes (mu : Mem) (x0 : Nat) (x1 : Int32) (x2 : Int32) (x3 : Int32) (x4 : Int32) : Option ((Unit) × Mem) := (chk mu 3 x0).bind fun _ => bi2 (f_X1_add mu x0 x1 x2 x3 x4 0) (fun (t2 : (Unit)) m4 => some ((), m4))
set_option maxHeartbeats 4000000 in
set_option maxRecDepth 100000 in
theorem k_X1_addBarWithNotes (l : Launch) (hsl : l.stackTraces = false) (G : GG) (A : Nat → Prop) (mu : Mem) (x0 : Nat) (x1 : Int32) (x2 : Int32) (x3 : Int32) (x4 : Int32) (r : (Unit) × Mem) (hf : f_X1_addBarWithNotes mu x0 x1 x2 x3 x4 = some r) : Ok l yX1_addBarWithNotes wsX1_addBarWithNotes ({ frames := 8, cells := 0, slots := 0, locals := 150 } : Room) [.ref x0, .int x1, .int x2, .int x3, .int x4] G A mu (dP (.inr (rV r.1)) r.2) := by
  refine Ok.start (cc := cX1_addBarWithNotes) (maxL := 5) (ret := none) rfl (by decide +kernel) hsl (by first | exact Nat.le_of_ble_eq_true rfl | simp [lg_sl, cat_rf, Value.category]) ?_
  intro p e s m args below meth c ls X hr hname hW hl
  have X : BX p l s m args meth c cX1_addBarWithNotes 5 RX1 wsX1_addBarWithNotes G A := X
  have hx := X.1
  have hb := X.2.1
  have hts := X.2.2.2.2.1
  have hl : lv_has ls 5 [(0, .ref x0), (1, .int x1), (2, .int x2), (3, .int x3), (4, .int x4)] := hl
  unfold f_X1_addBarWithNotes at hf
  refine lv_aload_n hx hb dX1_addBarWithNotes_0 rfl (lv_at hl 0 rfl) ?_
  refine lv_iload_n hx hb dX1_addBarWithNotes_1 rfl (lv_at hl 1 rfl) ?_
  refine lv_iload_n hx hb dX1_addBarWithNotes_2 rfl (lv_at hl 2 rfl) ?_
  refine lv_iload_n hx hb dX1_addBarWithNotes_3 rfl (lv_at hl 3 rfl) ?_
  refine lv_iload hx hb dX1_addBarWithNotes_4 (lv_at hl 4 rfl) ?_
  refine lv_iconst (v := 0) hx hb dX1_addBarWithNotes_6 (by decide) ?_
  replace hf := bnd hf
  obtain ⟨_, h1, hf⟩ := hf
  replace hf := bnd2 hf
  obtain ⟨t2, m4, h3, hf⟩ := hf
  refine r_callV_ok (μ9 := m4) X hW hl.1 (k_X1_add l hsl G A mu x0 x1 x2 x3 x4 0 _ h3) gX1_addBarWithNotes_X1_add rfl (chk_ok h1) (by decide) rfl (by decide +kernel) (n := 5) rfl (by decide) (by first | exact Nat.le_of_ble_eq_true rfl | simp [cat_rf, Value.category]) dX1_addBarWithNotes_7 rfl rfl (stk := []) rfl (fun H locs hW => ?_)
  exact r_vret X hr hW (by cases hf; exact ⟨rfl, rfl⟩) (by decide) (by decide) dX1_addBarWithNotes_10

def f_X1_isBlock (mu : Mem) (x0 : Nat) (x1 : Int32) : Option (Int32) := if x1 < 0 then (some 0) else ((getI mu 3 9 x0).bind fun t1 => if t1 ≤ x1 then (some 0) else (some 1))
set_option maxHeartbeats 4000000 in
set_option maxRecDepth 100000 in
theorem k_X1_isBlock (l : Launch) (hsl : l.stackTraces = false) (G : GG) (A : Nat → Prop) (mu : Mem) (x0 : Nat) (x1 : Int32) (r : Int32) (hf : f_X1_isBlock mu x0 x1 = some r) : Ok l yX1_isBlock wsX1_isBlock ({ frames := 6, cells := 0, slots := 0, locals := 110 } : Room) [.ref x0, .int x1] G A mu (dP (.inr (rI r)) mu) := by
  refine Ok.start (cc := cX1_isBlock) (maxL := 2) (ret := (some .boolean)) rfl (by decide +kernel) hsl (by first | exact Nat.le_of_ble_eq_true rfl | simp [lg_sl, cat_rf, Value.category]) ?_
  intro p e s m args below meth c ls X hr hname hW hl
  have X : BX p l s m args meth c cX1_isBlock 2 RX1 wsX1_isBlock G A := X
  have hx := X.1
  have hb := X.2.1
  have hts := X.2.2.2.2.1
  have hl : lv_has ls 2 [(0, .ref x0), (1, .int x1)] := hl
  have hinX1 : ∀ w ∈ wsX10, w ∈ wsX1_isBlock := by decide +kernel
  have hF40 : (Cond.fieldLink RX1 40 "PartcopyistBench$Blocks" "count" "I").before args s = true := hts _ (by decide +kernel)
  unfold f_X1_isBlock at hf
  refine lv_iload_n hx hb dX1_isBlock_0 rfl (lv_at hl 1 rfl) ?_
  refine lv_if_lt (tgt := 16) hx hb dX1_isBlock_1 (by decide) (fun hc => ?_) (fun hc => ?_)
  · replace hf := itp hc hf
    refine lv_iconst (v := 0) hx hb dX1_isBlock_16 (by decide) ?_
    exact r_zret X hr hW (Or.inl rfl) (by cases hf; exact ⟨rfl, rfl⟩) (by decide) (by decide) dX1_isBlock_17
  · replace hf := itn hc hf
    refine lv_iload_n hx hb dX1_isBlock_4 rfl (lv_at hl 1 rfl) ?_
    refine lv_aload_n hx hb dX1_isBlock_5 rfl (lv_at hl 0 rfl) ?_
    replace hf := bnd hf
    obtain ⟨t1, h2, hf⟩ := hf
    refine g_3_9 X hW hinX1 hF40 h2 dX1_isBlock_6 ?_
    refine lv_icmp_ge (tgt := 16) hx hb dX1_isBlock_9 (by decide) (fun hc => ?_) (fun hc => ?_)
    · replace hf := itp hc hf
      refine lv_iconst (v := 0) hx hb dX1_isBlock_16 (by decide) ?_
      exact r_zret X hr hW (Or.inl rfl) (by cases hf; exact ⟨rfl, rfl⟩) (by decide) (by decide) dX1_isBlock_17
    · replace hf := itn hc hf
      refine lv_iconst (v := 1) hx hb dX1_isBlock_12 (by decide) ?_
      refine lv_goto (tgt := 17) hx hb dX1_isBlock_13 (by decide) ?_
      exact r_zret X hr hW (Or.inr rfl) (by cases hf; exact ⟨rfl, rfl⟩) (by decide) (by decide) dX1_isBlock_17

def f_X1_addEmptyBar (mu : Mem) (x0 : Nat) (x1 : Int32) (x2 : Int32) (x3 : Int32) : Option ((Unit) × Mem) := (getI mu 3 9 x0).bind fun t1 => if x3 = 0 then ((chk mu 3 x0).bind fun _ => (f_X1_isBlock mu x0 (t1 - 1)).bind fun t8 => if t8 = 0 then ((chk mu 3 x0).bind fun _ => bi2 (f_X1_add mu x0 x1 1 x2 x2 1) (fun (t11 : (Unit)) m13 => some ((), m13))) else ((getQ mu 3 5 x0).bind fun t14 => t14.bind fun a16 => (zld mu a16 (t1 - 1)).bind fun t18 => if t18 = 0 then ((chk mu 3 x0).bind fun _ => bi2 (f_X1_add mu x0 x1 1 x2 x2 1) (fun (t21 : (Unit)) m23 => some ((), m23))) else ((getQ mu 3 1 x0).bind fun t24 => t24.bind fun a26 => (ald mu a26 (t1 - 1)).bind fun t28 => (ast mu a26 (t1 - 1) (t28 + 1)).bind fun m30 => (getQ m30 3 3 x0).bind fun t32 => t32.bind fun a34 => (ald m30 a34 (t1 - 1)).bind fun t36 => (ast m30 a34 (t1 - 1) (t36 + x2)).bind fun m38 => (getQ m38 3 4 x0).bind fun t40 => t40.bind fun a42 => (ald m38 a42 (t1 - 1)).bind fun t44 => (ast m38 a42 (t1 - 1) (t44 + x2)).bind fun m46 => some ((), m46)))) else ((chk mu 3 x0).bind fun _ => bi2 (f_X1_add mu x0 x1 1 x2 x2 1) (fun (t4 : (Unit)) m6 => some ((), m6)))
set_option maxHeartbeats 4000000 in
set_option maxRecDepth 100000 in
theorem k_X1_addEmptyBar (l : Launch) (hsl : l.stackTraces = false) (G : GG) (A : Nat → Prop) (mu : Mem) (x0 : Nat) (x1 : Int32) (x2 : Int32) (x3 : Int32) (r : (Unit) × Mem) (hf : f_X1_addEmptyBar mu x0 x1 x2 x3 = some r) : Ok l yX1_addEmptyBar wsX1_addEmptyBar ({ frames := 8, cells := 0, slots := 0, locals := 150 } : Room) [.ref x0, .int x1, .int x2, .int x3] G A mu (dP (.inr (rV r.1)) r.2) := by
  refine Ok.start (cc := cX1_addEmptyBar) (maxL := 5) (ret := none) rfl (by decide +kernel) hsl (by first | exact Nat.le_of_ble_eq_true rfl | simp [lg_sl, cat_rf, Value.category]) ?_
  intro p e s m args below meth c ls X hr hname hW hl
  have X : BX p l s m args meth c cX1_addEmptyBar 5 RX1 wsX1_addEmptyBar G A := X
  have hx := X.1
  have hb := X.2.1
  have hts := X.2.2.2.2.1
  have hl : lv_has ls 5 [(0, .ref x0), (1, .int x1), (2, .int x2), (3, .int x3)] := hl
  have hinX1 : ∀ w ∈ wsX10, w ∈ wsX1_addEmptyBar := by decide +kernel
  have hF15 : (Cond.fieldLink RX1 15 "PartcopyistBench$Blocks" "barCounts" "[I").before args s = true := hts _ (by decide +kernel)
  have hF21 : (Cond.fieldLink RX1 21 "PartcopyistBench$Blocks" "restAtStart" "[I").before args s = true := hts _ (by decide +kernel)
  have hF24 : (Cond.fieldLink RX1 24 "PartcopyistBench$Blocks" "restAtEnd" "[I").before args s = true := hts _ (by decide +kernel)
  have hF27 : (Cond.fieldLink RX1 27 "PartcopyistBench$Blocks" "isRest" "[Z").before args s = true := hts _ (by decide +kernel)
  have hF40 : (Cond.fieldLink RX1 40 "PartcopyistBench$Blocks" "count" "I").before args s = true := hts _ (by decide +kernel)
  unfold f_X1_addEmptyBar at hf
  refine lv_aload_n hx hb dX1_addEmptyBar_0 rfl (lv_at hl 0 rfl) ?_
  replace hf := bnd hf
  obtain ⟨t1, h2, hf⟩ := hf
  refine g_3_9 X hW hinX1 hF40 h2 dX1_addEmptyBar_1 ?_
  refine lv_iconst (v := 1) hx hb dX1_addEmptyBar_4 (by decide) ?_
  refine lv_isub hx hb dX1_addEmptyBar_5 ?_
  refine lv_istore (lv' := [(4, .int (t1 - 1)), (0, .ref x0), (1, .int x1), (2, .int x2), (3, .int x3)]) hx hb dX1_addEmptyBar_6 hl (by decide) rfl (fun ls hl => ?_)
  refine lv_iload_n hx hb dX1_addEmptyBar_8 rfl (lv_at hl 4 rfl) ?_
  refine lv_if_ne (tgt := 67) hx hb dX1_addEmptyBar_9 (by decide) (fun hc => ?_) (fun hc => ?_)
  · replace hf := itn hc hf
    refine lv_aload_n hx hb dX1_addEmptyBar_67 rfl (lv_at hl 1 rfl) ?_
    refine lv_iload_n hx hb dX1_addEmptyBar_68 rfl (lv_at hl 2 rfl) ?_
    refine lv_iconst (v := 1) hx hb dX1_addEmptyBar_69 (by decide) ?_
    refine lv_iload_n hx hb dX1_addEmptyBar_70 rfl (lv_at hl 3 rfl) ?_
    refine lv_iload_n hx hb dX1_addEmptyBar_71 rfl (lv_at hl 3 rfl) ?_
    refine lv_iconst (v := 1) hx hb dX1_addEmptyBar_72 (by decide) ?_
    replace hf := bnd hf
    obtain ⟨_, h3, hf⟩ := hf
    replace hf := bnd2 hf
    obtain ⟨t4, m6, h5, hf⟩ := hf
    refine r_callV_ok (μ9 := m6) X hW hl.1 (k_X1_add l hsl G A mu x0 x1 1 x2 x2 1 _ h5) gX1_addEmptyBar_X1_add rfl (chk_ok h3) (by decide) rfl (by decide +kernel) (n := 5) rfl (by decide) (by first | exact Nat.le_of_ble_eq_true rfl | simp [cat_rf, Value.category]) dX1_addEmptyBar_73 rfl rfl (stk := []) rfl (fun H locs hW => ?_)
    exact r_vret X hr hW (by cases hf; exact ⟨rfl, rfl⟩) (by decide) (by decide) dX1_addEmptyBar_76
  · replace hf := itp hc hf
    refine lv_aload_n hx hb dX1_addEmptyBar_12 rfl (lv_at hl 1 rfl) ?_
    refine lv_iload hx hb dX1_addEmptyBar_13 (lv_at hl 0 rfl) ?_
    replace hf := bnd hf
    obtain ⟨_, h7, hf⟩ := hf
    replace hf := bnd hf
    obtain ⟨t8, h9, hf⟩ := hf
    refine r_callV_ok X hW hl.1 (k_X1_isBlock l hsl G A mu x0 (t1 - 1) _ h9) gX1_addEmptyBar_X1_isBlock rfl (chk_ok h7) (by decide) rfl (by decide +kernel) (n := 1) rfl (by decide) (by first | exact Nat.le_of_ble_eq_true rfl | simp [cat_rf, Value.category]) dX1_addEmptyBar_15 rfl rfl (stk := [.int t8]) rfl (fun H locs hW => ?_)
    refine lv_if_eq (tgt := 67) hx hb dX1_addEmptyBar_18 (by decide) (fun hc => ?_) (fun hc => ?_)
    · replace hf := itp hc hf
      refine lv_aload_n hx hb dX1_addEmptyBar_67 rfl (lv_at hl 1 rfl) ?_
      refine lv_iload_n hx hb dX1_addEmptyBar_68 rfl (lv_at hl 2 rfl) ?_
      refine lv_iconst (v := 1) hx hb dX1_addEmptyBar_69 (by decide) ?_
      refine lv_iload_n hx hb dX1_addEmptyBar_70 rfl (lv_at hl 3 rfl) ?_
      refine lv_iload_n hx hb dX1_addEmptyBar_71 rfl (lv_at hl 3 rfl) ?_
      refine lv_iconst (v := 1) hx hb dX1_addEmptyBar_72 (by decide) ?_
      replace hf := bnd hf
      obtain ⟨_, h10, hf⟩ := hf
      replace hf := bnd2 hf
      obtain ⟨t11, m13, h12, hf⟩ := hf
      refine r_callV_ok (μ9 := m13) X hW hl.1 (k_X1_add l hsl G A mu x0 x1 1 x2 x2 1 _ h12) gX1_addEmptyBar_X1_add rfl (chk_ok h10) (by decide) rfl (by decide +kernel) (n := 5) rfl (by decide) (by first | exact Nat.le_of_ble_eq_true rfl | simp [cat_rf, Value.category]) dX1_addEmptyBar_73 rfl rfl (stk := []) rfl (fun H locs hW => ?_)
      exact r_vret X hr hW (by cases hf; exact ⟨rfl, rfl⟩) (by decide) (by decide) dX1_addEmptyBar_76
    · replace hf := itn hc hf
      refine lv_aload_n hx hb dX1_addEmptyBar_21 rfl (lv_at hl 1 rfl) ?_
      replace hf := bnd hf
      obtain ⟨t14, h15, hf⟩ := hf
      refine g_3_5 X hW hinX1 hF27 h15 dX1_addEmptyBar_22 ?_
      refine lv_iload hx hb dX1_addEmptyBar_25 (lv_at hl 0 rfl) ?_
      replace hf := bnd hf
      obtain ⟨a16, h17, hf⟩ := hf
      subst h17
      replace hf := bnd hf
      obtain ⟨t18, h19, hf⟩ := hf
      refine r_zld X hW h19 dX1_addEmptyBar_27 ?_
      refine lv_if_eq (tgt := 67) hx hb dX1_addEmptyBar_28 (by decide) (fun hc => ?_) (fun hc => ?_)
      · replace hf := itp hc hf
        refine lv_aload_n hx hb dX1_addEmptyBar_67 rfl (lv_at hl 1 rfl) ?_
        refine lv_iload_n hx hb dX1_addEmptyBar_68 rfl (lv_at hl 2 rfl) ?_
        refine lv_iconst (v := 1) hx hb dX1_addEmptyBar_69 (by decide) ?_
        refine lv_iload_n hx hb dX1_addEmptyBar_70 rfl (lv_at hl 3 rfl) ?_
        refine lv_iload_n hx hb dX1_addEmptyBar_71 rfl (lv_at hl 3 rfl) ?_
        refine lv_iconst (v := 1) hx hb dX1_addEmptyBar_72 (by decide) ?_
        replace hf := bnd hf
        obtain ⟨_, h20, hf⟩ := hf
        replace hf := bnd2 hf
        obtain ⟨t21, m23, h22, hf⟩ := hf
        refine r_callV_ok (μ9 := m23) X hW hl.1 (k_X1_add l hsl G A mu x0 x1 1 x2 x2 1 _ h22) gX1_addEmptyBar_X1_add rfl (chk_ok h20) (by decide) rfl (by decide +kernel) (n := 5) rfl (by decide) (by first | exact Nat.le_of_ble_eq_true rfl | simp [cat_rf, Value.category]) dX1_addEmptyBar_73 rfl rfl (stk := []) rfl (fun H locs hW => ?_)
        exact r_vret X hr hW (by cases hf; exact ⟨rfl, rfl⟩) (by decide) (by decide) dX1_addEmptyBar_76
      · replace hf := itn hc hf
        refine lv_aload_n hx hb dX1_addEmptyBar_31 rfl (lv_at hl 1 rfl) ?_
        replace hf := bnd hf
        obtain ⟨t24, h25, hf⟩ := hf
        refine g_3_1 X hW hinX1 hF15 h25 dX1_addEmptyBar_32 ?_
        refine lv_iload hx hb dX1_addEmptyBar_35 (lv_at hl 0 rfl) ?_
        refine lv_dup2_11 hx hb dX1_addEmptyBar_37 rfl (cat_rf _) ?_
        replace hf := bnd hf
        obtain ⟨a26, h27, hf⟩ := hf
        subst h27
        replace hf := bnd hf
        obtain ⟨t28, h29, hf⟩ := hf
        refine r_ald X hW h29 dX1_addEmptyBar_38 ?_
        refine lv_iconst (v := 1) hx hb dX1_addEmptyBar_39 (by decide) ?_
        refine lv_iadd hx hb dX1_addEmptyBar_40 ?_
        replace hf := bnd hf
        obtain ⟨m30, h31, hf⟩ := hf
        refine r_ast X hW h31 dX1_addEmptyBar_41 (fun H locs hW => ?_)
        refine lv_aload_n hx hb dX1_addEmptyBar_42 rfl (lv_at hl 1 rfl) ?_
        replace hf := bnd hf
        obtain ⟨t32, h33, hf⟩ := hf
        refine g_3_3 X hW hinX1 hF21 h33 dX1_addEmptyBar_43 ?_
        refine lv_iload hx hb dX1_addEmptyBar_46 (lv_at hl 0 rfl) ?_
        refine lv_dup2_11 hx hb dX1_addEmptyBar_48 rfl (cat_rf _) ?_
        replace hf := bnd hf
        obtain ⟨a34, h35, hf⟩ := hf
        subst h35
        replace hf := bnd hf
        obtain ⟨t36, h37, hf⟩ := hf
        refine r_ald X hW h37 dX1_addEmptyBar_49 ?_
        refine lv_iload_n hx hb dX1_addEmptyBar_50 rfl (lv_at hl 3 rfl) ?_
        refine lv_iadd hx hb dX1_addEmptyBar_51 ?_
        replace hf := bnd hf
        obtain ⟨m38, h39, hf⟩ := hf
        refine r_ast X hW h39 dX1_addEmptyBar_52 (fun H locs hW => ?_)
        refine lv_aload_n hx hb dX1_addEmptyBar_53 rfl (lv_at hl 1 rfl) ?_
        replace hf := bnd hf
        obtain ⟨t40, h41, hf⟩ := hf
        refine g_3_4 X hW hinX1 hF24 h41 dX1_addEmptyBar_54 ?_
        refine lv_iload hx hb dX1_addEmptyBar_57 (lv_at hl 0 rfl) ?_
        refine lv_dup2_11 hx hb dX1_addEmptyBar_59 rfl (cat_rf _) ?_
        replace hf := bnd hf
        obtain ⟨a42, h43, hf⟩ := hf
        subst h43
        replace hf := bnd hf
        obtain ⟨t44, h45, hf⟩ := hf
        refine r_ald X hW h45 dX1_addEmptyBar_60 ?_
        refine lv_iload_n hx hb dX1_addEmptyBar_61 rfl (lv_at hl 3 rfl) ?_
        refine lv_iadd hx hb dX1_addEmptyBar_62 ?_
        replace hf := bnd hf
        obtain ⟨m46, h47, hf⟩ := hf
        refine r_ast X hW h47 dX1_addEmptyBar_63 (fun H locs hW => ?_)
        refine lv_goto (tgt := 76) hx hb dX1_addEmptyBar_64 (by decide) ?_
        exact r_vret X hr hW (by cases hf; exact ⟨rfl, rfl⟩) (by decide) (by decide) dX1_addEmptyBar_76

def f_X1_firstBarOf (mu : Mem) (x0 : Nat) (x1 : Int32) : Option (Int32) := (chk mu 3 x0).bind fun _ => (f_X1_isBlock mu x0 x1).bind fun t2 => if t2 = 0 then (some (-1)) else ((getQ mu 3 0 x0).bind fun t4 => t4.bind fun a6 => (ald mu a6 x1).bind fun t8 => some t8)
set_option maxHeartbeats 4000000 in
set_option maxRecDepth 100000 in
theorem k_X1_firstBarOf (l : Launch) (hsl : l.stackTraces = false) (G : GG) (A : Nat → Prop) (mu : Mem) (x0 : Nat) (x1 : Int32) (r : Int32) (hf : f_X1_firstBarOf mu x0 x1 = some r) : Ok l yX1_firstBarOf wsX1_firstBarOf ({ frames := 8, cells := 0, slots := 0, locals := 150 } : Room) [.ref x0, .int x1] G A mu (dP (.inr (rI r)) mu) := by
  refine Ok.start (cc := cX1_firstBarOf) (maxL := 2) (ret := (some .int)) rfl (by decide +kernel) hsl (by first | exact Nat.le_of_ble_eq_true rfl | simp [lg_sl, cat_rf, Value.category]) ?_
  intro p e s m args below meth c ls X hr hname hW hl
  have X : BX p l s m args meth c cX1_firstBarOf 2 RX1 wsX1_firstBarOf G A := X
  have hx := X.1
  have hb := X.2.1
  have hts := X.2.2.2.2.1
  have hl : lv_has ls 2 [(0, .ref x0), (1, .int x1)] := hl
  have hinX1 : ∀ w ∈ wsX10, w ∈ wsX1_firstBarOf := by decide +kernel
  have hF11 : (Cond.fieldLink RX1 11 "PartcopyistBench$Blocks" "firstBars" "[I").before args s = true := hts _ (by decide +kernel)
  unfold f_X1_firstBarOf at hf
  refine lv_aload_n hx hb dX1_firstBarOf_0 rfl (lv_at hl 0 rfl) ?_
  refine lv_iload_n hx hb dX1_firstBarOf_1 rfl (lv_at hl 1 rfl) ?_
  replace hf := bnd hf
  obtain ⟨_, h1, hf⟩ := hf
  replace hf := bnd hf
  obtain ⟨t2, h3, hf⟩ := hf
  refine r_callV_ok X hW hl.1 (k_X1_isBlock l hsl G A mu x0 x1 _ h3) gX1_firstBarOf_X1_isBlock rfl (chk_ok h1) (by decide) rfl (by decide +kernel) (n := 1) rfl (by decide) (by first | exact Nat.le_of_ble_eq_true rfl | simp [cat_rf, Value.category]) dX1_firstBarOf_2 rfl rfl (stk := [.int t2]) rfl (fun H locs hW => ?_)
  refine lv_if_eq (tgt := 17) hx hb dX1_firstBarOf_5 (by decide) (fun hc => ?_) (fun hc => ?_)
  · replace hf := itp hc hf
    refine lv_iconst (v := (-1)) hx hb dX1_firstBarOf_17 (by decide) ?_
    exact r_iret X hr hW (by cases hf; exact ⟨rfl, rfl⟩) (by decide) (by decide) dX1_firstBarOf_18
  · replace hf := itn hc hf
    refine lv_aload_n hx hb dX1_firstBarOf_8 rfl (lv_at hl 0 rfl) ?_
    replace hf := bnd hf
    obtain ⟨t4, h5, hf⟩ := hf
    refine g_3_0 X hW hinX1 hF11 h5 dX1_firstBarOf_9 ?_
    refine lv_iload_n hx hb dX1_firstBarOf_12 rfl (lv_at hl 1 rfl) ?_
    replace hf := bnd hf
    obtain ⟨a6, h7, hf⟩ := hf
    subst h7
    replace hf := bnd hf
    obtain ⟨t8, h9, hf⟩ := hf
    refine r_ald X hW h9 dX1_firstBarOf_13 ?_
    refine lv_goto (tgt := 18) hx hb dX1_firstBarOf_14 (by decide) ?_
    exact r_iret X hr hW (by cases hf; exact ⟨rfl, rfl⟩) (by decide) (by decide) dX1_firstBarOf_18

def f_X1_barsOf (mu : Mem) (x0 : Nat) (x1 : Int32) : Option (Int32) := (chk mu 3 x0).bind fun _ => (f_X1_isBlock mu x0 x1).bind fun t2 => if t2 = 0 then (some 0) else ((getQ mu 3 1 x0).bind fun t4 => t4.bind fun a6 => (ald mu a6 x1).bind fun t8 => some t8)
set_option maxHeartbeats 4000000 in
set_option maxRecDepth 100000 in
theorem k_X1_barsOf (l : Launch) (hsl : l.stackTraces = false) (G : GG) (A : Nat → Prop) (mu : Mem) (x0 : Nat) (x1 : Int32) (r : Int32) (hf : f_X1_barsOf mu x0 x1 = some r) : Ok l yX1_barsOf wsX1_barsOf ({ frames := 8, cells := 0, slots := 0, locals := 150 } : Room) [.ref x0, .int x1] G A mu (dP (.inr (rI r)) mu) := by
  refine Ok.start (cc := cX1_barsOf) (maxL := 2) (ret := (some .int)) rfl (by decide +kernel) hsl (by first | exact Nat.le_of_ble_eq_true rfl | simp [lg_sl, cat_rf, Value.category]) ?_
  intro p e s m args below meth c ls X hr hname hW hl
  have X : BX p l s m args meth c cX1_barsOf 2 RX1 wsX1_barsOf G A := X
  have hx := X.1
  have hb := X.2.1
  have hts := X.2.2.2.2.1
  have hl : lv_has ls 2 [(0, .ref x0), (1, .int x1)] := hl
  have hinX1 : ∀ w ∈ wsX10, w ∈ wsX1_barsOf := by decide +kernel
  have hF15 : (Cond.fieldLink RX1 15 "PartcopyistBench$Blocks" "barCounts" "[I").before args s = true := hts _ (by decide +kernel)
  unfold f_X1_barsOf at hf
  refine lv_aload_n hx hb dX1_barsOf_0 rfl (lv_at hl 0 rfl) ?_
  refine lv_iload_n hx hb dX1_barsOf_1 rfl (lv_at hl 1 rfl) ?_
  replace hf := bnd hf
  obtain ⟨_, h1, hf⟩ := hf
  replace hf := bnd hf
  obtain ⟨t2, h3, hf⟩ := hf
  refine r_callV_ok X hW hl.1 (k_X1_isBlock l hsl G A mu x0 x1 _ h3) gX1_barsOf_X1_isBlock rfl (chk_ok h1) (by decide) rfl (by decide +kernel) (n := 1) rfl (by decide) (by first | exact Nat.le_of_ble_eq_true rfl | simp [cat_rf, Value.category]) dX1_barsOf_2 rfl rfl (stk := [.int t2]) rfl (fun H locs hW => ?_)
  refine lv_if_eq (tgt := 17) hx hb dX1_barsOf_5 (by decide) (fun hc => ?_) (fun hc => ?_)
  · replace hf := itp hc hf
    refine lv_iconst (v := 0) hx hb dX1_barsOf_17 (by decide) ?_
    exact r_iret X hr hW (by cases hf; exact ⟨rfl, rfl⟩) (by decide) (by decide) dX1_barsOf_18
  · replace hf := itn hc hf
    refine lv_aload_n hx hb dX1_barsOf_8 rfl (lv_at hl 0 rfl) ?_
    replace hf := bnd hf
    obtain ⟨t4, h5, hf⟩ := hf
    refine g_3_1 X hW hinX1 hF15 h5 dX1_barsOf_9 ?_
    refine lv_iload_n hx hb dX1_barsOf_12 rfl (lv_at hl 1 rfl) ?_
    replace hf := bnd hf
    obtain ⟨a6, h7, hf⟩ := hf
    subst h7
    replace hf := bnd hf
    obtain ⟨t8, h9, hf⟩ := hf
    refine r_ald X hW h9 dX1_barsOf_13 ?_
    refine lv_goto (tgt := 18) hx hb dX1_barsOf_14 (by decide) ?_
    exact r_iret X hr hW (by cases hf; exact ⟨rfl, rfl⟩) (by decide) (by decide) dX1_barsOf_18

def f_X1_lastBarOf (mu : Mem) (x0 : Nat) (x1 : Int32) : Option (Int32) := (chk mu 3 x0).bind fun _ => (f_X1_isBlock mu x0 x1).bind fun t2 => if t2 = 0 then (some (-1)) else ((getQ mu 3 0 x0).bind fun t4 => t4.bind fun a6 => (ald mu a6 x1).bind fun t8 => (getQ mu 3 1 x0).bind fun t10 => t10.bind fun a12 => (ald mu a12 x1).bind fun t14 => some ((t8 + t14) - 1))
set_option maxHeartbeats 4000000 in
set_option maxRecDepth 100000 in
theorem k_X1_lastBarOf (l : Launch) (hsl : l.stackTraces = false) (G : GG) (A : Nat → Prop) (mu : Mem) (x0 : Nat) (x1 : Int32) (r : Int32) (hf : f_X1_lastBarOf mu x0 x1 = some r) : Ok l yX1_lastBarOf wsX1_lastBarOf ({ frames := 8, cells := 0, slots := 0, locals := 150 } : Room) [.ref x0, .int x1] G A mu (dP (.inr (rI r)) mu) := by
  refine Ok.start (cc := cX1_lastBarOf) (maxL := 2) (ret := (some .int)) rfl (by decide +kernel) hsl (by first | exact Nat.le_of_ble_eq_true rfl | simp [lg_sl, cat_rf, Value.category]) ?_
  intro p e s m args below meth c ls X hr hname hW hl
  have X : BX p l s m args meth c cX1_lastBarOf 2 RX1 wsX1_lastBarOf G A := X
  have hx := X.1
  have hb := X.2.1
  have hts := X.2.2.2.2.1
  have hl : lv_has ls 2 [(0, .ref x0), (1, .int x1)] := hl
  have hinX1 : ∀ w ∈ wsX10, w ∈ wsX1_lastBarOf := by decide +kernel
  have hF11 : (Cond.fieldLink RX1 11 "PartcopyistBench$Blocks" "firstBars" "[I").before args s = true := hts _ (by decide +kernel)
  have hF15 : (Cond.fieldLink RX1 15 "PartcopyistBench$Blocks" "barCounts" "[I").before args s = true := hts _ (by decide +kernel)
  unfold f_X1_lastBarOf at hf
  refine lv_aload_n hx hb dX1_lastBarOf_0 rfl (lv_at hl 0 rfl) ?_
  refine lv_iload_n hx hb dX1_lastBarOf_1 rfl (lv_at hl 1 rfl) ?_
  replace hf := bnd hf
  obtain ⟨_, h1, hf⟩ := hf
  replace hf := bnd hf
  obtain ⟨t2, h3, hf⟩ := hf
  refine r_callV_ok X hW hl.1 (k_X1_isBlock l hsl G A mu x0 x1 _ h3) gX1_lastBarOf_X1_isBlock rfl (chk_ok h1) (by decide) rfl (by decide +kernel) (n := 1) rfl (by decide) (by first | exact Nat.le_of_ble_eq_true rfl | simp [cat_rf, Value.category]) dX1_lastBarOf_2 rfl rfl (stk := [.int t2]) rfl (fun H locs hW => ?_)
  refine lv_if_eq (tgt := 26) hx hb dX1_lastBarOf_5 (by decide) (fun hc => ?_) (fun hc => ?_)
  · replace hf := itp hc hf
    refine lv_iconst (v := (-1)) hx hb dX1_lastBarOf_26 (by decide) ?_
    exact r_iret X hr hW (by cases hf; exact ⟨rfl, rfl⟩) (by decide) (by decide) dX1_lastBarOf_27
  · replace hf := itn hc hf
    refine lv_aload_n hx hb dX1_lastBarOf_8 rfl (lv_at hl 0 rfl) ?_
    replace hf := bnd hf
    obtain ⟨t4, h5, hf⟩ := hf
    refine g_3_0 X hW hinX1 hF11 h5 dX1_lastBarOf_9 ?_
    refine lv_iload_n hx hb dX1_lastBarOf_12 rfl (lv_at hl 1 rfl) ?_
    replace hf := bnd hf
    obtain ⟨a6, h7, hf⟩ := hf
    subst h7
    replace hf := bnd hf
    obtain ⟨t8, h9, hf⟩ := hf
    refine r_ald X hW h9 dX1_lastBarOf_13 ?_
    refine lv_aload_n hx hb dX1_lastBarOf_14 rfl (lv_at hl 0 rfl) ?_
    replace hf := bnd hf
    obtain ⟨t10, h11, hf⟩ := hf
    refine g_3_1 X hW hinX1 hF15 h11 dX1_lastBarOf_15 ?_
    refine lv_iload_n hx hb dX1_lastBarOf_18 rfl (lv_at hl 1 rfl) ?_
    replace hf := bnd hf
    obtain ⟨a12, h13, hf⟩ := hf
    subst h13
    replace hf := bnd hf
    obtain ⟨t14, h15, hf⟩ := hf
    refine r_ald X hW h15 dX1_lastBarOf_19 ?_
    refine lv_iadd hx hb dX1_lastBarOf_20 ?_
    refine lv_iconst (v := 1) hx hb dX1_lastBarOf_21 (by decide) ?_
    refine lv_isub hx hb dX1_lastBarOf_22 ?_
    refine lv_goto (tgt := 27) hx hb dX1_lastBarOf_23 (by decide) ?_
    exact r_iret X hr hW (by cases hf; exact ⟨rfl, rfl⟩) (by decide) (by decide) dX1_lastBarOf_27

def f_X1_countOfRests_L4 (mu : Mem) (u0_4 : Nat) (k9 : Int32 → Int32 → Option (Int32)) : Nat → Int32 → Int32 → Option (Int32)
  | 0, _, _ => none
  | n + 1, w1_4, w2_4 => (getI mu 3 9 u0_4).bind fun t1 => if t1 ≤ w2_4 then (k9 w1_4 w2_4) else ((getQ mu 3 5 u0_4).bind fun t3 => t3.bind fun a5 => (zld mu a5 w2_4).bind fun t7 => if t7 = 0 then (f_X1_countOfRests_L4 mu u0_4 k9 n w1_4 (w2_4 + 1)) else (f_X1_countOfRests_L4 mu u0_4 k9 n (w1_4 + 1) (w2_4 + 1)))
def f_X1_countOfRests (mu : Mem) (x0 : Nat) : Option (Int32) := f_X1_countOfRests_L4 mu x0 (fun (zw1_4 : Int32) (zw2_4 : Int32) => some zw1_4) 200 0 0
set_option maxHeartbeats 4000000 in
set_option maxRecDepth 100000 in
theorem k_X1_countOfRests (l : Launch) (hsl : l.stackTraces = false) (G : GG) (A : Nat → Prop) (mu : Mem) (x0 : Nat) (r : Int32) (hf : f_X1_countOfRests mu x0 = some r) : Ok l yX1_countOfRests wsX1_countOfRests ({ frames := 6, cells := 0, slots := 0, locals := 110 } : Room) [.ref x0] G A mu (dP (.inr (rI r)) mu) := by
  refine Ok.start (cc := cX1_countOfRests) (maxL := 3) (ret := (some .int)) rfl (by decide +kernel) hsl (by first | exact Nat.le_of_ble_eq_true rfl | simp [lg_sl, cat_rf, Value.category]) ?_
  intro p e s m args below meth c ls X hr hname hW hl
  have X : BX p l s m args meth c cX1_countOfRests 3 RX1 wsX1_countOfRests G A := X
  have hx := X.1
  have hb := X.2.1
  have hts := X.2.2.2.2.1
  have hl : lv_has ls 3 [(0, .ref x0)] := hl
  have hinX1 : ∀ w ∈ wsX10, w ∈ wsX1_countOfRests := by decide +kernel
  have hF27 : (Cond.fieldLink RX1 27 "PartcopyistBench$Blocks" "isRest" "[Z").before args s = true := hts _ (by decide +kernel)
  have hF40 : (Cond.fieldLink RX1 40 "PartcopyistBench$Blocks" "count" "I").before args s = true := hts _ (by decide +kernel)
  unfold f_X1_countOfRests at hf
  refine lv_iconst (v := 0) hx hb dX1_countOfRests_0 (by decide) ?_
  refine lv_istore_n (lv' := [(1, .int 0), (0, .ref x0)]) hx hb dX1_countOfRests_1 rfl hl (by decide) rfl (fun ls hl => ?_)
  refine lv_iconst (v := 0) hx hb dX1_countOfRests_2 (by decide) ?_
  refine lv_istore_n (lv' := [(2, .int 0), (1, .int 0), (0, .ref x0)]) hx hb dX1_countOfRests_3 rfl hl (by decide) rfl (fun ls hl => ?_)
  have L4 : ∀ (u0_4 : Nat) (k9 : Int32 → Int32 → Option (Int32)),
      (∀ (w1_4 : Int32) (w2_4 : Int32) (H : Heap) (locs : List Loc) (ls : Array Slot), k9 w1_4 w2_4 = some r → MW G A mu s.heap H locs → lv_has ls 3 [(0, .ref u0_4), (1, .int w1_4), (2, .int w2_4)] → W p l e ({ frames := 6, cells := 0, slots := 0, locals := 110 } : Room) s m args below meth c H locs 0 0 (QQ below G A (dP (.inr (rI r)) mu) args s 0 0) (F0 m 30 ls [])) →
      ∀ (n : Nat) (w1_4 : Int32) (w2_4 : Int32) (H : Heap) (locs : List Loc) (ls : Array Slot), f_X1_countOfRests_L4 mu u0_4 k9 n w1_4 w2_4 = some r → MW G A mu s.heap H locs → lv_has ls 3 [(0, .ref u0_4), (1, .int w1_4), (2, .int w2_4)] → W p l e ({ frames := 6, cells := 0, slots := 0, locals := 110 } : Room) s m args below meth c H locs 0 0 (QQ below G A (dP (.inr (rI r)) mu) args s 0 0) (F0 m 4 ls []) := by
    intro u0_4 k9 hk4 n
    induction n with
    | zero => intro w1_4 w2_4 H locs ls hf hW hl; rw [f_X1_countOfRests_L4] at hf; cases hf
    | succ n ih4 =>
      intro w1_4 w2_4 H locs ls hf hW hl
      rw [f_X1_countOfRests_L4] at hf
      refine lv_iload_n hx hb dX1_countOfRests_4 rfl (lv_at hl 2 rfl) ?_
      refine lv_aload_n hx hb dX1_countOfRests_5 rfl (lv_at hl 0 rfl) ?_
      replace hf := bnd hf
      obtain ⟨t1, h2, hf⟩ := hf
      refine g_3_9 X hW hinX1 hF40 h2 dX1_countOfRests_6 ?_
      refine lv_icmp_ge (tgt := 30) hx hb dX1_countOfRests_9 (by decide) (fun hc => ?_) (fun hc => ?_)
      · replace hf := itp hc hf
        exact hk4 _ _ _ _ _ hf hW (lv_sub hl [0, 1, 2] rfl)
      · replace hf := itn hc hf
        refine lv_aload_n hx hb dX1_countOfRests_12 rfl (lv_at hl 0 rfl) ?_
        replace hf := bnd hf
        obtain ⟨t3, h4, hf⟩ := hf
        refine g_3_5 X hW hinX1 hF27 h4 dX1_countOfRests_13 ?_
        refine lv_iload_n hx hb dX1_countOfRests_16 rfl (lv_at hl 2 rfl) ?_
        replace hf := bnd hf
        obtain ⟨a5, h6, hf⟩ := hf
        subst h6
        replace hf := bnd hf
        obtain ⟨t7, h8, hf⟩ := hf
        refine r_zld X hW h8 dX1_countOfRests_17 ?_
        refine lv_if_eq (tgt := 24) hx hb dX1_countOfRests_18 (by decide) (fun hc => ?_) (fun hc => ?_)
        · replace hf := itp hc hf
          refine lv_iinc (v := (w2_4 + 1)) (lv' := [(2, .int (w2_4 + 1)), (0, .ref u0_4), (1, .int w1_4)]) hx hb dX1_countOfRests_24 hl (k := 2) rfl rfl (by decide) rfl (fun ls hl => ?_)
          refine lv_goto (tgt := 4) hx hb dX1_countOfRests_27 (by decide) ?_
          exact ih4 _ _ _ _ _ hf hW (lv_sub hl [1, 2, 0] rfl)
        · replace hf := itn hc hf
          refine lv_iinc (v := (w1_4 + 1)) (lv' := [(1, .int (w1_4 + 1)), (0, .ref u0_4), (2, .int w2_4)]) hx hb dX1_countOfRests_21 hl (k := 1) rfl rfl (by decide) rfl (fun ls hl => ?_)
          refine lv_iinc (v := (w2_4 + 1)) (lv' := [(2, .int (w2_4 + 1)), (1, .int (w1_4 + 1)), (0, .ref u0_4)]) hx hb dX1_countOfRests_24 hl (k := 2) rfl rfl (by decide) rfl (fun ls hl => ?_)
          refine lv_goto (tgt := 4) hx hb dX1_countOfRests_27 (by decide) ?_
          exact ih4 _ _ _ _ _ hf hW (lv_sub hl [2, 1, 0] rfl)
  refine L4 x0 _ ?_ 200 0 0 _ _ _ hf hW (lv_sub hl [2, 1, 0] rfl)
  intro zw1_4 zw2_4 H locs ls hf hW hl
  refine lv_iload_n hx hb dX1_countOfRests_30 rfl (lv_at hl 1 rfl) ?_
  exact r_iret X hr hW (by cases hf; exact ⟨rfl, rfl⟩) (by decide) (by decide) dX1_countOfRests_31

def f_X1_blockOfRest_L4 (mu : Mem) (u0_4 : Nat) (u1_4 : Int32) (k9 : Int32 → Int32 → Option (Int32)) : Nat → Int32 → Int32 → Option (Int32)
  | 0, _, _ => none
  | n + 1, w2_4, w3_4 => (getI mu 3 9 u0_4).bind fun t1 => if t1 ≤ w3_4 then (k9 w2_4 w3_4) else ((getQ mu 3 5 u0_4).bind fun t3 => t3.bind fun a5 => (zld mu a5 w3_4).bind fun t7 => if t7 = 0 then (f_X1_blockOfRest_L4 mu u0_4 u1_4 k9 n w2_4 (w3_4 + 1)) else (if w2_4 = u1_4 then (some w3_4) else (f_X1_blockOfRest_L4 mu u0_4 u1_4 k9 n (w2_4 + 1) (w3_4 + 1))))
def f_X1_blockOfRest (mu : Mem) (x0 : Nat) (x1 : Int32) : Option (Int32) := f_X1_blockOfRest_L4 mu x0 x1 (fun (zw2_4 : Int32) (zw3_4 : Int32) => some (-1)) 200 0 0
set_option maxHeartbeats 4000000 in
set_option maxRecDepth 100000 in
theorem k_X1_blockOfRest (l : Launch) (hsl : l.stackTraces = false) (G : GG) (A : Nat → Prop) (mu : Mem) (x0 : Nat) (x1 : Int32) (r : Int32) (hf : f_X1_blockOfRest mu x0 x1 = some r) : Ok l yX1_blockOfRest wsX1_blockOfRest ({ frames := 6, cells := 0, slots := 0, locals := 110 } : Room) [.ref x0, .int x1] G A mu (dP (.inr (rI r)) mu) := by
  refine Ok.start (cc := cX1_blockOfRest) (maxL := 4) (ret := (some .int)) rfl (by decide +kernel) hsl (by first | exact Nat.le_of_ble_eq_true rfl | simp [lg_sl, cat_rf, Value.category]) ?_
  intro p e s m args below meth c ls X hr hname hW hl
  have X : BX p l s m args meth c cX1_blockOfRest 4 RX1 wsX1_blockOfRest G A := X
  have hx := X.1
  have hb := X.2.1
  have hts := X.2.2.2.2.1
  have hl : lv_has ls 4 [(0, .ref x0), (1, .int x1)] := hl
  have hinX1 : ∀ w ∈ wsX10, w ∈ wsX1_blockOfRest := by decide +kernel
  have hF27 : (Cond.fieldLink RX1 27 "PartcopyistBench$Blocks" "isRest" "[Z").before args s = true := hts _ (by decide +kernel)
  have hF40 : (Cond.fieldLink RX1 40 "PartcopyistBench$Blocks" "count" "I").before args s = true := hts _ (by decide +kernel)
  unfold f_X1_blockOfRest at hf
  refine lv_iconst (v := 0) hx hb dX1_blockOfRest_0 (by decide) ?_
  refine lv_istore_n (lv' := [(2, .int 0), (0, .ref x0), (1, .int x1)]) hx hb dX1_blockOfRest_1 rfl hl (by decide) rfl (fun ls hl => ?_)
  refine lv_iconst (v := 0) hx hb dX1_blockOfRest_2 (by decide) ?_
  refine lv_istore_n (lv' := [(3, .int 0), (2, .int 0), (0, .ref x0), (1, .int x1)]) hx hb dX1_blockOfRest_3 rfl hl (by decide) rfl (fun ls hl => ?_)
  have L4 : ∀ (u0_4 : Nat) (u1_4 : Int32) (k9 : Int32 → Int32 → Option (Int32)),
      (∀ (w2_4 : Int32) (w3_4 : Int32) (H : Heap) (locs : List Loc) (ls : Array Slot), k9 w2_4 w3_4 = some r → MW G A mu s.heap H locs → lv_has ls 4 [(0, .ref u0_4), (1, .int u1_4), (2, .int w2_4), (3, .int w3_4)] → W p l e ({ frames := 6, cells := 0, slots := 0, locals := 110 } : Room) s m args below meth c H locs 0 0 (QQ below G A (dP (.inr (rI r)) mu) args s 0 0) (F0 m 37 ls [])) →
      ∀ (n : Nat) (w2_4 : Int32) (w3_4 : Int32) (H : Heap) (locs : List Loc) (ls : Array Slot), f_X1_blockOfRest_L4 mu u0_4 u1_4 k9 n w2_4 w3_4 = some r → MW G A mu s.heap H locs → lv_has ls 4 [(0, .ref u0_4), (1, .int u1_4), (2, .int w2_4), (3, .int w3_4)] → W p l e ({ frames := 6, cells := 0, slots := 0, locals := 110 } : Room) s m args below meth c H locs 0 0 (QQ below G A (dP (.inr (rI r)) mu) args s 0 0) (F0 m 4 ls []) := by
    intro u0_4 u1_4 k9 hk4 n
    induction n with
    | zero => intro w2_4 w3_4 H locs ls hf hW hl; rw [f_X1_blockOfRest_L4] at hf; cases hf
    | succ n ih4 =>
      intro w2_4 w3_4 H locs ls hf hW hl
      rw [f_X1_blockOfRest_L4] at hf
      refine lv_iload_n hx hb dX1_blockOfRest_4 rfl (lv_at hl 3 rfl) ?_
      refine lv_aload_n hx hb dX1_blockOfRest_5 rfl (lv_at hl 0 rfl) ?_
      replace hf := bnd hf
      obtain ⟨t1, h2, hf⟩ := hf
      refine g_3_9 X hW hinX1 hF40 h2 dX1_blockOfRest_6 ?_
      refine lv_icmp_ge (tgt := 37) hx hb dX1_blockOfRest_9 (by decide) (fun hc => ?_) (fun hc => ?_)
      · replace hf := itp hc hf
        exact hk4 _ _ _ _ _ hf hW (lv_sub hl [0, 1, 2, 3] rfl)
      · replace hf := itn hc hf
        refine lv_aload_n hx hb dX1_blockOfRest_12 rfl (lv_at hl 0 rfl) ?_
        replace hf := bnd hf
        obtain ⟨t3, h4, hf⟩ := hf
        refine g_3_5 X hW hinX1 hF27 h4 dX1_blockOfRest_13 ?_
        refine lv_iload_n hx hb dX1_blockOfRest_16 rfl (lv_at hl 3 rfl) ?_
        replace hf := bnd hf
        obtain ⟨a5, h6, hf⟩ := hf
        subst h6
        replace hf := bnd hf
        obtain ⟨t7, h8, hf⟩ := hf
        refine r_zld X hW h8 dX1_blockOfRest_17 ?_
        refine lv_if_eq (tgt := 31) hx hb dX1_blockOfRest_18 (by decide) (fun hc => ?_) (fun hc => ?_)
        · replace hf := itp hc hf
          refine lv_iinc (v := (w3_4 + 1)) (lv' := [(3, .int (w3_4 + 1)), (0, .ref u0_4), (1, .int u1_4), (2, .int w2_4)]) hx hb dX1_blockOfRest_31 hl (k := 3) rfl rfl (by decide) rfl (fun ls hl => ?_)
          refine lv_goto (tgt := 4) hx hb dX1_blockOfRest_34 (by decide) ?_
          exact ih4 _ _ _ _ _ hf hW (lv_sub hl [1, 2, 3, 0] rfl)
        · replace hf := itn hc hf
          refine lv_iload_n hx hb dX1_blockOfRest_21 rfl (lv_at hl 2 rfl) ?_
          refine lv_iload_n hx hb dX1_blockOfRest_22 rfl (lv_at hl 1 rfl) ?_
          refine lv_icmp_ne (tgt := 28) hx hb dX1_blockOfRest_23 (by decide) (fun hc => ?_) (fun hc => ?_)
          · replace hf := itn hc hf
            refine lv_iinc (v := (w2_4 + 1)) (lv' := [(2, .int (w2_4 + 1)), (0, .ref u0_4), (1, .int u1_4), (3, .int w3_4)]) hx hb dX1_blockOfRest_28 hl (k := 2) rfl rfl (by decide) rfl (fun ls hl => ?_)
            refine lv_iinc (v := (w3_4 + 1)) (lv' := [(3, .int (w3_4 + 1)), (2, .int (w2_4 + 1)), (0, .ref u0_4), (1, .int u1_4)]) hx hb dX1_blockOfRest_31 hl (k := 3) rfl rfl (by decide) rfl (fun ls hl => ?_)
            refine lv_goto (tgt := 4) hx hb dX1_blockOfRest_34 (by decide) ?_
            exact ih4 _ _ _ _ _ hf hW (lv_sub hl [2, 3, 1, 0] rfl)
          · replace hf := itp hc hf
            refine lv_iload_n hx hb dX1_blockOfRest_26 rfl (lv_at hl 3 rfl) ?_
            exact r_iret X hr hW (by cases hf; exact ⟨rfl, rfl⟩) (by decide) (by decide) dX1_blockOfRest_27
  refine L4 x0 x1 _ ?_ 200 0 0 _ _ _ hf hW (lv_sub hl [2, 3, 1, 0] rfl)
  intro zw2_4 zw3_4 H locs ls hf hW hl
  refine lv_iconst (v := (-1)) hx hb dX1_blockOfRest_37 (by decide) ?_
  exact r_iret X hr hW (by cases hf; exact ⟨rfl, rfl⟩) (by decide) (by decide) dX1_blockOfRest_38

def f_X1_hardTurnAhead (mu : Mem) (x0 : Nat) (x1 : Int32) : Option (Int32) := if x1 < 1 then (some 0) else ((getI mu 3 9 x0).bind fun t1 => if x1 < t1 then ((getQ mu 3 4 x0).bind fun t3 => t3.bind fun a5 => (ald mu a5 (x1 - 1)).bind fun t7 => (getQ mu 3 3 x0).bind fun t9 => t9.bind fun a11 => (ald mu a11 x1).bind fun t13 => (getI mu 3 11 x0).bind fun t15 => if t15 ≤ (t7 + t13) then (some 0) else (some 1)) else (some 0))
set_option maxHeartbeats 4000000 in
set_option maxRecDepth 100000 in
theorem k_X1_hardTurnAhead (l : Launch) (hsl : l.stackTraces = false) (G : GG) (A : Nat → Prop) (mu : Mem) (x0 : Nat) (x1 : Int32) (r : Int32) (hf : f_X1_hardTurnAhead mu x0 x1 = some r) : Ok l yX1_hardTurnAhead wsX1_hardTurnAhead ({ frames := 6, cells := 0, slots := 0, locals := 110 } : Room) [.ref x0, .int x1] G A mu (dP (.inr (rI r)) mu) := by
  refine Ok.start (cc := cX1_hardTurnAhead) (maxL := 2) (ret := (some .int)) rfl (by decide +kernel) hsl (by first | exact Nat.le_of_ble_eq_true rfl | simp [lg_sl, cat_rf, Value.category]) ?_
  intro p e s m args below meth c ls X hr hname hW hl
  have X : BX p l s m args meth c cX1_hardTurnAhead 2 RX1 wsX1_hardTurnAhead G A := X
  have hx := X.1
  have hb := X.2.1
  have hts := X.2.2.2.2.1
  have hl : lv_has ls 2 [(0, .ref x0), (1, .int x1)] := hl
  have hinX1 : ∀ w ∈ wsX10, w ∈ wsX1_hardTurnAhead := by decide +kernel
  have hF21 : (Cond.fieldLink RX1 21 "PartcopyistBench$Blocks" "restAtStart" "[I").before args s = true := hts _ (by decide +kernel)
  have hF24 : (Cond.fieldLink RX1 24 "PartcopyistBench$Blocks" "restAtEnd" "[I").before args s = true := hts _ (by decide +kernel)
  have hF40 : (Cond.fieldLink RX1 40 "PartcopyistBench$Blocks" "count" "I").before args s = true := hts _ (by decide +kernel)
  have hF47 : (Cond.fieldLink RX1 47 "PartcopyistBench$Blocks" "turnTicks" "I").before args s = true := hts _ (by decide +kernel)
  unfold f_X1_hardTurnAhead at hf
  refine lv_iload_n hx hb dX1_hardTurnAhead_0 rfl (lv_at hl 1 rfl) ?_
  refine lv_iconst (v := 1) hx hb dX1_hardTurnAhead_1 (by decide) ?_
  refine lv_icmp_lt (tgt := 13) hx hb dX1_hardTurnAhead_2 (by decide) (fun hc => ?_) (fun hc => ?_)
  · replace hf := itp hc hf
    refine lv_iconst (v := 0) hx hb dX1_hardTurnAhead_13 (by decide) ?_
    exact r_iret X hr hW (by cases hf; exact ⟨rfl, rfl⟩) (by decide) (by decide) dX1_hardTurnAhead_14
  · replace hf := itn hc hf
    refine lv_iload_n hx hb dX1_hardTurnAhead_5 rfl (lv_at hl 1 rfl) ?_
    refine lv_aload_n hx hb dX1_hardTurnAhead_6 rfl (lv_at hl 0 rfl) ?_
    replace hf := bnd hf
    obtain ⟨t1, h2, hf⟩ := hf
    refine g_3_9 X hW hinX1 hF40 h2 dX1_hardTurnAhead_7 ?_
    refine lv_icmp_lt (tgt := 15) hx hb dX1_hardTurnAhead_10 (by decide) (fun hc => ?_) (fun hc => ?_)
    · replace hf := itp hc hf
      refine lv_aload_n hx hb dX1_hardTurnAhead_15 rfl (lv_at hl 0 rfl) ?_
      replace hf := bnd hf
      obtain ⟨t3, h4, hf⟩ := hf
      refine g_3_4 X hW hinX1 hF24 h4 dX1_hardTurnAhead_16 ?_
      refine lv_iload_n hx hb dX1_hardTurnAhead_19 rfl (lv_at hl 1 rfl) ?_
      refine lv_iconst (v := 1) hx hb dX1_hardTurnAhead_20 (by decide) ?_
      refine lv_isub hx hb dX1_hardTurnAhead_21 ?_
      replace hf := bnd hf
      obtain ⟨a5, h6, hf⟩ := hf
      subst h6
      replace hf := bnd hf
      obtain ⟨t7, h8, hf⟩ := hf
      refine r_ald X hW h8 dX1_hardTurnAhead_22 ?_
      refine lv_aload_n hx hb dX1_hardTurnAhead_23 rfl (lv_at hl 0 rfl) ?_
      replace hf := bnd hf
      obtain ⟨t9, h10, hf⟩ := hf
      refine g_3_3 X hW hinX1 hF21 h10 dX1_hardTurnAhead_24 ?_
      refine lv_iload_n hx hb dX1_hardTurnAhead_27 rfl (lv_at hl 1 rfl) ?_
      replace hf := bnd hf
      obtain ⟨a11, h12, hf⟩ := hf
      subst h12
      replace hf := bnd hf
      obtain ⟨t13, h14, hf⟩ := hf
      refine r_ald X hW h14 dX1_hardTurnAhead_28 ?_
      refine lv_iadd hx hb dX1_hardTurnAhead_29 ?_
      refine lv_aload_n hx hb dX1_hardTurnAhead_30 rfl (lv_at hl 0 rfl) ?_
      replace hf := bnd hf
      obtain ⟨t15, h16, hf⟩ := hf
      refine g_3_11 X hW hinX1 hF47 h16 dX1_hardTurnAhead_31 ?_
      refine lv_icmp_ge (tgt := 41) hx hb dX1_hardTurnAhead_34 (by decide) (fun hc => ?_) (fun hc => ?_)
      · replace hf := itp hc hf
        refine lv_iconst (v := 0) hx hb dX1_hardTurnAhead_41 (by decide) ?_
        exact r_iret X hr hW (by cases hf; exact ⟨rfl, rfl⟩) (by decide) (by decide) dX1_hardTurnAhead_42
      · replace hf := itn hc hf
        refine lv_iconst (v := 1) hx hb dX1_hardTurnAhead_37 (by decide) ?_
        refine lv_goto (tgt := 42) hx hb dX1_hardTurnAhead_38 (by decide) ?_
        exact r_iret X hr hW (by cases hf; exact ⟨rfl, rfl⟩) (by decide) (by decide) dX1_hardTurnAhead_42
    · replace hf := itn hc hf
      refine lv_iconst (v := 0) hx hb dX1_hardTurnAhead_13 (by decide) ?_
      exact r_iret X hr hW (by cases hf; exact ⟨rfl, rfl⟩) (by decide) (by decide) dX1_hardTurnAhead_14

def f_X1_makePageFrom_L6 (u0_6 : Nat) (u1_6 : Int32) (k9 : Mem → Int32 → Int32 → Option ((Unit) × Mem)) : Nat → Mem → Int32 → Int32 → Option ((Unit) × Mem)
  | 0, _, _, _ => none
  | n + 1, mu6, w2_6, w3_6 => (getI mu6 3 9 u0_6).bind fun t1 => if t1 < w3_6 then (k9 mu6 w2_6 w3_6) else ((getQ mu6 3 2 u0_6).bind fun t3 => t3.bind fun a5 => (ald mu6 a5 (w3_6 - 1)).bind fun t7 => (getI mu6 3 10 u0_6).bind fun t9 => if (w2_6 + t7) ≤ t9 then ((chk mu6 3 u0_6).bind fun _ => (f_X1_hardTurnAhead mu6 u0_6 w3_6).bind fun t12 => (getQ mu6 3 6 u0_6).bind fun t14 => t14.bind fun a16 => (ald mu6 a16 w3_6).bind fun t18 => (getQ mu6 3 7 u0_6).bind fun t20 => t20.bind fun a22 => (ald mu6 a22 w3_6).bind fun t24 => (getQ mu6 3 6 u0_6).bind fun t26 => t26.bind fun a28 => (ald mu6 a28 u1_6).bind fun t30 => if (t12 + t18) < t30 then ((getQ mu6 3 6 u0_6).bind fun t32 => t32.bind fun a34 => (ast mu6 a34 u1_6 (t12 + t18)).bind fun m36 => (getQ m36 3 7 u0_6).bind fun t38 => t38.bind fun a40 => (ast m36 a40 u1_6 (1 + t24)).bind fun m42 => (getQ m42 3 8 u0_6).bind fun t44 => t44.bind fun a46 => (ast m42 a46 u1_6 w3_6).bind fun m48 => f_X1_makePageFrom_L6 u0_6 u1_6 k9 n m48 (w2_6 + t7) (w3_6 + 1)) else ((getQ mu6 3 6 u0_6).bind fun t50 => t50.bind fun a52 => (ald mu6 a52 u1_6).bind fun t54 => if (t12 + t18) = t54 then ((getQ mu6 3 7 u0_6).bind fun t56 => t56.bind fun a58 => (ald mu6 a58 u1_6).bind fun t60 => if t60 < (1 + t24) then (f_X1_makePageFrom_L6 u0_6 u1_6 k9 n mu6 (w2_6 + t7) (w3_6 + 1)) else ((getQ mu6 3 6 u0_6).bind fun t62 => t62.bind fun a64 => (ast mu6 a64 u1_6 (t12 + t18)).bind fun m66 => (getQ m66 3 7 u0_6).bind fun t68 => t68.bind fun a70 => (ast m66 a70 u1_6 (1 + t24)).bind fun m72 => (getQ m72 3 8 u0_6).bind fun t74 => t74.bind fun a76 => (ast m72 a76 u1_6 w3_6).bind fun m78 => f_X1_makePageFrom_L6 u0_6 u1_6 k9 n m78 (w2_6 + t7) (w3_6 + 1))) else (f_X1_makePageFrom_L6 u0_6 u1_6 k9 n mu6 (w2_6 + t7) (w3_6 + 1)))) else (if w3_6 ≤ (u1_6 + 1) then ((chk mu6 3 u0_6).bind fun _ => (f_X1_hardTurnAhead mu6 u0_6 w3_6).bind fun t81 => (getQ mu6 3 6 u0_6).bind fun t83 => t83.bind fun a85 => (ald mu6 a85 w3_6).bind fun t87 => (getQ mu6 3 7 u0_6).bind fun t89 => t89.bind fun a91 => (ald mu6 a91 w3_6).bind fun t93 => (getQ mu6 3 6 u0_6).bind fun t95 => t95.bind fun a97 => (ald mu6 a97 u1_6).bind fun t99 => if (t81 + t87) < t99 then ((getQ mu6 3 6 u0_6).bind fun t101 => t101.bind fun a103 => (ast mu6 a103 u1_6 (t81 + t87)).bind fun m105 => (getQ m105 3 7 u0_6).bind fun t107 => t107.bind fun a109 => (ast m105 a109 u1_6 (1 + t93)).bind fun m111 => (getQ m111 3 8 u0_6).bind fun t113 => t113.bind fun a115 => (ast m111 a115 u1_6 w3_6).bind fun m117 => f_X1_makePageFrom_L6 u0_6 u1_6 k9 n m117 (w2_6 + t7) (w3_6 + 1)) else ((getQ mu6 3 6 u0_6).bind fun t119 => t119.bind fun a121 => (ald mu6 a121 u1_6).bind fun t123 => if (t81 + t87) = t123 then ((getQ mu6 3 7 u0_6).bind fun t125 => t125.bind fun a127 => (ald mu6 a127 u1_6).bind fun t129 => if t129 < (1 + t93) then (f_X1_makePageFrom_L6 u0_6 u1_6 k9 n mu6 (w2_6 + t7) (w3_6 + 1)) else ((getQ mu6 3 6 u0_6).bind fun t131 => t131.bind fun a133 => (ast mu6 a133 u1_6 (t81 + t87)).bind fun m135 => (getQ m135 3 7 u0_6).bind fun t137 => t137.bind fun a139 => (ast m135 a139 u1_6 (1 + t93)).bind fun m141 => (getQ m141 3 8 u0_6).bind fun t143 => t143.bind fun a145 => (ast m141 a145 u1_6 w3_6).bind fun m147 => f_X1_makePageFrom_L6 u0_6 u1_6 k9 n m147 (w2_6 + t7) (w3_6 + 1))) else (f_X1_makePageFrom_L6 u0_6 u1_6 k9 n mu6 (w2_6 + t7) (w3_6 + 1)))) else (some ((), mu6))))
def f_X1_makePageFrom (mu : Mem) (x0 : Nat) (x1 : Int32) : Option ((Unit) × Mem) := f_X1_makePageFrom_L6 x0 x1 (fun (zmu6 : Mem) (zw2_6 : Int32) (zw3_6 : Int32) => some ((), zmu6)) 200 mu 0 (x1 + 1)
set_option maxHeartbeats 4000000 in
set_option maxRecDepth 100000 in
theorem k_X1_makePageFrom (l : Launch) (hsl : l.stackTraces = false) (G : GG) (A : Nat → Prop) (mu : Mem) (x0 : Nat) (x1 : Int32) (r : (Unit) × Mem) (hf : f_X1_makePageFrom mu x0 x1 = some r) : Ok l yX1_makePageFrom wsX1_makePageFrom ({ frames := 8, cells := 0, slots := 0, locals := 150 } : Room) [.ref x0, .int x1] G A mu (dP (.inr (rV r.1)) r.2) := by
  refine Ok.start (cc := cX1_makePageFrom) (maxL := 6) (ret := none) rfl (by decide +kernel) hsl (by first | exact Nat.le_of_ble_eq_true rfl | simp [lg_sl, cat_rf, Value.category]) ?_
  intro p e s m args below meth c ls X hr hname hW hl
  have X : BX p l s m args meth c cX1_makePageFrom 6 RX1 wsX1_makePageFrom G A := X
  have hx := X.1
  have hb := X.2.1
  have hts := X.2.2.2.2.1
  have hl : lv_has ls 6 [(0, .ref x0), (1, .int x1)] := hl
  have hinX1 : ∀ w ∈ wsX10, w ∈ wsX1_makePageFrom := by decide +kernel
  have hF18 : (Cond.fieldLink RX1 18 "PartcopyistBench$Blocks" "places" "[I").before args s = true := hts _ (by decide +kernel)
  have hF31 : (Cond.fieldLink RX1 31 "PartcopyistBench$Blocks" "hardFrom" "[I").before args s = true := hts _ (by decide +kernel)
  have hF34 : (Cond.fieldLink RX1 34 "PartcopyistBench$Blocks" "pagesFrom" "[I").before args s = true := hts _ (by decide +kernel)
  have hF37 : (Cond.fieldLink RX1 37 "PartcopyistBench$Blocks" "nextPageFrom" "[I").before args s = true := hts _ (by decide +kernel)
  have hF40 : (Cond.fieldLink RX1 40 "PartcopyistBench$Blocks" "count" "I").before args s = true := hts _ (by decide +kernel)
  have hF44 : (Cond.fieldLink RX1 44 "PartcopyistBench$Blocks" "pagePlaces" "I").before args s = true := hts _ (by decide +kernel)
  unfold f_X1_makePageFrom at hf
  refine lv_iconst (v := 0) hx hb dX1_makePageFrom_0 (by decide) ?_
  refine lv_istore_n (lv' := [(2, .int 0), (0, .ref x0), (1, .int x1)]) hx hb dX1_makePageFrom_1 rfl hl (by decide) rfl (fun ls hl => ?_)
  refine lv_iload_n hx hb dX1_makePageFrom_2 rfl (lv_at hl 2 rfl) ?_
  refine lv_iconst (v := 1) hx hb dX1_makePageFrom_3 (by decide) ?_
  refine lv_iadd hx hb dX1_makePageFrom_4 ?_
  refine lv_istore_n (lv' := [(3, .int (x1 + 1)), (2, .int 0), (0, .ref x0), (1, .int x1)]) hx hb dX1_makePageFrom_5 rfl hl (by decide) rfl (fun ls hl => ?_)
  have L6 : ∀ (u0_6 : Nat) (u1_6 : Int32) (k9 : Mem → Int32 → Int32 → Option ((Unit) × Mem)),
      (∀ (mu6 : Mem) (w2_6 : Int32) (w3_6 : Int32) (H : Heap) (locs : List Loc) (ls : Array Slot), k9 mu6 w2_6 w3_6 = some r → MW G A mu6 s.heap H locs → lv_has ls 6 [(0, .ref u0_6), (1, .int u1_6), (2, .int w2_6), (3, .int w3_6)] → W p l e ({ frames := 8, cells := 0, slots := 0, locals := 150 } : Room) s m args below meth c H locs 0 0 (QQ below G A (dP (.inr (rV r.1)) r.2) args s 0 0) (F0 m 127 ls [])) →
      ∀ (n : Nat) (mu6 : Mem) (w2_6 : Int32) (w3_6 : Int32) (H : Heap) (locs : List Loc) (ls : Array Slot), f_X1_makePageFrom_L6 u0_6 u1_6 k9 n mu6 w2_6 w3_6 = some r → MW G A mu6 s.heap H locs → lv_has ls 6 [(0, .ref u0_6), (1, .int u1_6), (2, .int w2_6), (3, .int w3_6)] → W p l e ({ frames := 8, cells := 0, slots := 0, locals := 150 } : Room) s m args below meth c H locs 0 0 (QQ below G A (dP (.inr (rV r.1)) r.2) args s 0 0) (F0 m 6 ls []) := by
    intro u0_6 u1_6 k9 hk6 n
    induction n with
    | zero => intro mu6 w2_6 w3_6 H locs ls hf hW hl; rw [f_X1_makePageFrom_L6] at hf; cases hf
    | succ n ih6 =>
      intro mu6 w2_6 w3_6 H locs ls hf hW hl
      rw [f_X1_makePageFrom_L6] at hf
      refine lv_iload_n hx hb dX1_makePageFrom_6 rfl (lv_at hl 3 rfl) ?_
      refine lv_aload_n hx hb dX1_makePageFrom_7 rfl (lv_at hl 0 rfl) ?_
      replace hf := bnd hf
      obtain ⟨t1, h2, hf⟩ := hf
      refine g_3_9 X hW hinX1 hF40 h2 dX1_makePageFrom_8 ?_
      refine lv_icmp_gt (tgt := 127) hx hb dX1_makePageFrom_11 (by decide) (fun hc => ?_) (fun hc => ?_)
      · replace hf := itp hc hf
        exact hk6 _ _ _ _ _ _ hf hW (lv_sub hl [0, 1, 2, 3] rfl)
      · replace hf := itn hc hf
        refine lv_iload_n hx hb dX1_makePageFrom_14 rfl (lv_at hl 2 rfl) ?_
        refine lv_aload_n hx hb dX1_makePageFrom_15 rfl (lv_at hl 0 rfl) ?_
        replace hf := bnd hf
        obtain ⟨t3, h4, hf⟩ := hf
        refine g_3_2 X hW hinX1 hF18 h4 dX1_makePageFrom_16 ?_
        refine lv_iload_n hx hb dX1_makePageFrom_19 rfl (lv_at hl 3 rfl) ?_
        refine lv_iconst (v := 1) hx hb dX1_makePageFrom_20 (by decide) ?_
        refine lv_isub hx hb dX1_makePageFrom_21 ?_
        replace hf := bnd hf
        obtain ⟨a5, h6, hf⟩ := hf
        subst h6
        replace hf := bnd hf
        obtain ⟨t7, h8, hf⟩ := hf
        refine r_ald X hW h8 dX1_makePageFrom_22 ?_
        refine lv_iadd hx hb dX1_makePageFrom_23 ?_
        refine lv_istore_n (lv' := [(2, .int (w2_6 + t7)), (0, .ref u0_6), (1, .int u1_6), (3, .int w3_6)]) hx hb dX1_makePageFrom_24 rfl hl (by decide) rfl (fun ls hl => ?_)
        refine lv_iload_n hx hb dX1_makePageFrom_25 rfl (lv_at hl 0 rfl) ?_
        refine lv_aload_n hx hb dX1_makePageFrom_26 rfl (lv_at hl 1 rfl) ?_
        replace hf := bnd hf
        obtain ⟨t9, h10, hf⟩ := hf
        refine g_3_10 X hW hinX1 hF44 h10 dX1_makePageFrom_27 ?_
        refine lv_icmp_le (tgt := 41) hx hb dX1_makePageFrom_30 (by decide) (fun hc => ?_) (fun hc => ?_)
        · replace hf := itp hc hf
          refine lv_aload_n hx hb dX1_makePageFrom_41 rfl (lv_at hl 1 rfl) ?_
          refine lv_iload_n hx hb dX1_makePageFrom_42 rfl (lv_at hl 3 rfl) ?_
          replace hf := bnd hf
          obtain ⟨_, h11, hf⟩ := hf
          replace hf := bnd hf
          obtain ⟨t12, h13, hf⟩ := hf
          refine r_callV_ok X hW hl.1 (k_X1_hardTurnAhead l hsl G A mu6 u0_6 w3_6 _ h13) gX1_makePageFrom_X1_hardTurnAhead rfl (chk_ok h11) (by decide) rfl (by decide +kernel) (n := 1) rfl (by decide) (by first | exact Nat.le_of_ble_eq_true rfl | simp [cat_rf, Value.category]) dX1_makePageFrom_43 rfl rfl (stk := [.int t12]) rfl (fun H locs hW => ?_)
          refine lv_aload_n hx hb dX1_makePageFrom_46 rfl (lv_at hl 1 rfl) ?_
          replace hf := bnd hf
          obtain ⟨t14, h15, hf⟩ := hf
          refine g_3_6 X hW hinX1 hF31 h15 dX1_makePageFrom_47 ?_
          refine lv_iload_n hx hb dX1_makePageFrom_50 rfl (lv_at hl 3 rfl) ?_
          replace hf := bnd hf
          obtain ⟨a16, h17, hf⟩ := hf
          subst h17
          replace hf := bnd hf
          obtain ⟨t18, h19, hf⟩ := hf
          refine r_ald X hW h19 dX1_makePageFrom_51 ?_
          refine lv_iadd hx hb dX1_makePageFrom_52 ?_
          refine lv_istore (lv' := [(4, .int (t12 + t18)), (2, .int (w2_6 + t7)), (0, .ref u0_6), (1, .int u1_6), (3, .int w3_6)]) hx hb dX1_makePageFrom_53 hl (by decide) rfl (fun ls hl => ?_)
          refine lv_iconst (v := 1) hx hb dX1_makePageFrom_55 (by decide) ?_
          refine lv_aload_n hx hb dX1_makePageFrom_56 rfl (lv_at hl 2 rfl) ?_
          replace hf := bnd hf
          obtain ⟨t20, h21, hf⟩ := hf
          refine g_3_7 X hW hinX1 hF34 h21 dX1_makePageFrom_57 ?_
          refine lv_iload_n hx hb dX1_makePageFrom_60 rfl (lv_at hl 4 rfl) ?_
          replace hf := bnd hf
          obtain ⟨a22, h23, hf⟩ := hf
          subst h23
          replace hf := bnd hf
          obtain ⟨t24, h25, hf⟩ := hf
          refine r_ald X hW h25 dX1_makePageFrom_61 ?_
          refine lv_iadd hx hb dX1_makePageFrom_62 ?_
          refine lv_istore (lv' := [(5, .int (1 + t24)), (4, .int (t12 + t18)), (2, .int (w2_6 + t7)), (0, .ref u0_6), (1, .int u1_6), (3, .int w3_6)]) hx hb dX1_makePageFrom_63 hl (by decide) rfl (fun ls hl => ?_)
          refine lv_iload hx hb dX1_makePageFrom_65 (lv_at hl 1 rfl) ?_
          refine lv_aload_n hx hb dX1_makePageFrom_67 rfl (lv_at hl 3 rfl) ?_
          replace hf := bnd hf
          obtain ⟨t26, h27, hf⟩ := hf
          refine g_3_6 X hW hinX1 hF31 h27 dX1_makePageFrom_68 ?_
          refine lv_iload_n hx hb dX1_makePageFrom_71 rfl (lv_at hl 4 rfl) ?_
          replace hf := bnd hf
          obtain ⟨a28, h29, hf⟩ := hf
          subst h29
          replace hf := bnd hf
          obtain ⟨t30, h31, hf⟩ := hf
          refine r_ald X hW h31 dX1_makePageFrom_72 ?_
          refine lv_icmp_lt (tgt := 98) hx hb dX1_makePageFrom_73 (by decide) (fun hc => ?_) (fun hc => ?_)
          · replace hf := itp hc hf
            refine lv_aload_n hx hb dX1_makePageFrom_98 rfl (lv_at hl 3 rfl) ?_
            replace hf := bnd hf
            obtain ⟨t32, h33, hf⟩ := hf
            refine g_3_6 X hW hinX1 hF31 h33 dX1_makePageFrom_99 ?_
            refine lv_iload_n hx hb dX1_makePageFrom_102 rfl (lv_at hl 4 rfl) ?_
            refine lv_iload hx hb dX1_makePageFrom_103 (lv_at hl 1 rfl) ?_
            replace hf := bnd hf
            obtain ⟨a34, h35, hf⟩ := hf
            subst h35
            replace hf := bnd hf
            obtain ⟨m36, h37, hf⟩ := hf
            refine r_ast X hW h37 dX1_makePageFrom_105 (fun H locs hW => ?_)
            refine lv_aload_n hx hb dX1_makePageFrom_106 rfl (lv_at hl 3 rfl) ?_
            replace hf := bnd hf
            obtain ⟨t38, h39, hf⟩ := hf
            refine g_3_7 X hW hinX1 hF34 h39 dX1_makePageFrom_107 ?_
            refine lv_iload_n hx hb dX1_makePageFrom_110 rfl (lv_at hl 4 rfl) ?_
            refine lv_iload hx hb dX1_makePageFrom_111 (lv_at hl 0 rfl) ?_
            replace hf := bnd hf
            obtain ⟨a40, h41, hf⟩ := hf
            subst h41
            replace hf := bnd hf
            obtain ⟨m42, h43, hf⟩ := hf
            refine r_ast X hW h43 dX1_makePageFrom_113 (fun H locs hW => ?_)
            refine lv_aload_n hx hb dX1_makePageFrom_114 rfl (lv_at hl 3 rfl) ?_
            replace hf := bnd hf
            obtain ⟨t44, h45, hf⟩ := hf
            refine g_3_8 X hW hinX1 hF37 h45 dX1_makePageFrom_115 ?_
            refine lv_iload_n hx hb dX1_makePageFrom_118 rfl (lv_at hl 4 rfl) ?_
            refine lv_iload_n hx hb dX1_makePageFrom_119 rfl (lv_at hl 5 rfl) ?_
            replace hf := bnd hf
            obtain ⟨a46, h47, hf⟩ := hf
            subst h47
            replace hf := bnd hf
            obtain ⟨m48, h49, hf⟩ := hf
            refine r_ast X hW h49 dX1_makePageFrom_120 (fun H locs hW => ?_)
            refine lv_iinc (v := (w3_6 + 1)) (lv' := [(3, .int (w3_6 + 1)), (5, .int (1 + t24)), (4, .int (t12 + t18)), (2, .int (w2_6 + t7)), (0, .ref u0_6), (1, .int u1_6)]) hx hb dX1_makePageFrom_121 hl (k := 5) rfl rfl (by decide) rfl (fun ls hl => ?_)
            refine lv_goto (tgt := 6) hx hb dX1_makePageFrom_124 (by decide) ?_
            exact ih6 _ _ _ _ _ _ hf hW (lv_sub hl [4, 5, 3, 0] rfl)
          · replace hf := itn hc hf
            refine lv_iload hx hb dX1_makePageFrom_76 (lv_at hl 1 rfl) ?_
            refine lv_aload_n hx hb dX1_makePageFrom_78 rfl (lv_at hl 3 rfl) ?_
            replace hf := bnd hf
            obtain ⟨t50, h51, hf⟩ := hf
            refine g_3_6 X hW hinX1 hF31 h51 dX1_makePageFrom_79 ?_
            refine lv_iload_n hx hb dX1_makePageFrom_82 rfl (lv_at hl 4 rfl) ?_
            replace hf := bnd hf
            obtain ⟨a52, h53, hf⟩ := hf
            subst h53
            replace hf := bnd hf
            obtain ⟨t54, h55, hf⟩ := hf
            refine r_ald X hW h55 dX1_makePageFrom_83 ?_
            refine lv_icmp_ne (tgt := 121) hx hb dX1_makePageFrom_84 (by decide) (fun hc => ?_) (fun hc => ?_)
            · replace hf := itn hc hf
              refine lv_iinc (v := (w3_6 + 1)) (lv' := [(3, .int (w3_6 + 1)), (5, .int (1 + t24)), (4, .int (t12 + t18)), (2, .int (w2_6 + t7)), (0, .ref u0_6), (1, .int u1_6)]) hx hb dX1_makePageFrom_121 hl (k := 5) rfl rfl (by decide) rfl (fun ls hl => ?_)
              refine lv_goto (tgt := 6) hx hb dX1_makePageFrom_124 (by decide) ?_
              exact ih6 _ _ _ _ _ _ hf hW (lv_sub hl [4, 5, 3, 0] rfl)
            · replace hf := itp hc hf
              refine lv_iload hx hb dX1_makePageFrom_87 (lv_at hl 0 rfl) ?_
              refine lv_aload_n hx hb dX1_makePageFrom_89 rfl (lv_at hl 3 rfl) ?_
              replace hf := bnd hf
              obtain ⟨t56, h57, hf⟩ := hf
              refine g_3_7 X hW hinX1 hF34 h57 dX1_makePageFrom_90 ?_
              refine lv_iload_n hx hb dX1_makePageFrom_93 rfl (lv_at hl 4 rfl) ?_
              replace hf := bnd hf
              obtain ⟨a58, h59, hf⟩ := hf
              subst h59
              replace hf := bnd hf
              obtain ⟨t60, h61, hf⟩ := hf
              refine r_ald X hW h61 dX1_makePageFrom_94 ?_
              refine lv_icmp_gt (tgt := 121) hx hb dX1_makePageFrom_95 (by decide) (fun hc => ?_) (fun hc => ?_)
              · replace hf := itp hc hf
                refine lv_iinc (v := (w3_6 + 1)) (lv' := [(3, .int (w3_6 + 1)), (5, .int (1 + t24)), (4, .int (t12 + t18)), (2, .int (w2_6 + t7)), (0, .ref u0_6), (1, .int u1_6)]) hx hb dX1_makePageFrom_121 hl (k := 5) rfl rfl (by decide) rfl (fun ls hl => ?_)
                refine lv_goto (tgt := 6) hx hb dX1_makePageFrom_124 (by decide) ?_
                exact ih6 _ _ _ _ _ _ hf hW (lv_sub hl [4, 5, 3, 0] rfl)
              · replace hf := itn hc hf
                refine lv_aload_n hx hb dX1_makePageFrom_98 rfl (lv_at hl 3 rfl) ?_
                replace hf := bnd hf
                obtain ⟨t62, h63, hf⟩ := hf
                refine g_3_6 X hW hinX1 hF31 h63 dX1_makePageFrom_99 ?_
                refine lv_iload_n hx hb dX1_makePageFrom_102 rfl (lv_at hl 4 rfl) ?_
                refine lv_iload hx hb dX1_makePageFrom_103 (lv_at hl 1 rfl) ?_
                replace hf := bnd hf
                obtain ⟨a64, h65, hf⟩ := hf
                subst h65
                replace hf := bnd hf
                obtain ⟨m66, h67, hf⟩ := hf
                refine r_ast X hW h67 dX1_makePageFrom_105 (fun H locs hW => ?_)
                refine lv_aload_n hx hb dX1_makePageFrom_106 rfl (lv_at hl 3 rfl) ?_
                replace hf := bnd hf
                obtain ⟨t68, h69, hf⟩ := hf
                refine g_3_7 X hW hinX1 hF34 h69 dX1_makePageFrom_107 ?_
                refine lv_iload_n hx hb dX1_makePageFrom_110 rfl (lv_at hl 4 rfl) ?_
                refine lv_iload hx hb dX1_makePageFrom_111 (lv_at hl 0 rfl) ?_
                replace hf := bnd hf
                obtain ⟨a70, h71, hf⟩ := hf
                subst h71
                replace hf := bnd hf
                obtain ⟨m72, h73, hf⟩ := hf
                refine r_ast X hW h73 dX1_makePageFrom_113 (fun H locs hW => ?_)
                refine lv_aload_n hx hb dX1_makePageFrom_114 rfl (lv_at hl 3 rfl) ?_
                replace hf := bnd hf
                obtain ⟨t74, h75, hf⟩ := hf
                refine g_3_8 X hW hinX1 hF37 h75 dX1_makePageFrom_115 ?_
                refine lv_iload_n hx hb dX1_makePageFrom_118 rfl (lv_at hl 4 rfl) ?_
                refine lv_iload_n hx hb dX1_makePageFrom_119 rfl (lv_at hl 5 rfl) ?_
                replace hf := bnd hf
                obtain ⟨a76, h77, hf⟩ := hf
                subst h77
                replace hf := bnd hf
                obtain ⟨m78, h79, hf⟩ := hf
                refine r_ast X hW h79 dX1_makePageFrom_120 (fun H locs hW => ?_)
                refine lv_iinc (v := (w3_6 + 1)) (lv' := [(3, .int (w3_6 + 1)), (5, .int (1 + t24)), (4, .int (t12 + t18)), (2, .int (w2_6 + t7)), (0, .ref u0_6), (1, .int u1_6)]) hx hb dX1_makePageFrom_121 hl (k := 5) rfl rfl (by decide) rfl (fun ls hl => ?_)
                refine lv_goto (tgt := 6) hx hb dX1_makePageFrom_124 (by decide) ?_
                exact ih6 _ _ _ _ _ _ hf hW (lv_sub hl [4, 5, 3, 0] rfl)
        · replace hf := itn hc hf
          refine lv_iload_n hx hb dX1_makePageFrom_33 rfl (lv_at hl 3 rfl) ?_
          refine lv_iload_n hx hb dX1_makePageFrom_34 rfl (lv_at hl 2 rfl) ?_
          refine lv_iconst (v := 1) hx hb dX1_makePageFrom_35 (by decide) ?_
          refine lv_iadd hx hb dX1_makePageFrom_36 ?_
          refine lv_icmp_le (tgt := 41) hx hb dX1_makePageFrom_37 (by decide) (fun hc => ?_) (fun hc => ?_)
          · replace hf := itp hc hf
            refine lv_aload_n hx hb dX1_makePageFrom_41 rfl (lv_at hl 1 rfl) ?_
            refine lv_iload_n hx hb dX1_makePageFrom_42 rfl (lv_at hl 3 rfl) ?_
            replace hf := bnd hf
            obtain ⟨_, h80, hf⟩ := hf
            replace hf := bnd hf
            obtain ⟨t81, h82, hf⟩ := hf
            refine r_callV_ok X hW hl.1 (k_X1_hardTurnAhead l hsl G A mu6 u0_6 w3_6 _ h82) gX1_makePageFrom_X1_hardTurnAhead rfl (chk_ok h80) (by decide) rfl (by decide +kernel) (n := 1) rfl (by decide) (by first | exact Nat.le_of_ble_eq_true rfl | simp [cat_rf, Value.category]) dX1_makePageFrom_43 rfl rfl (stk := [.int t81]) rfl (fun H locs hW => ?_)
            refine lv_aload_n hx hb dX1_makePageFrom_46 rfl (lv_at hl 1 rfl) ?_
            replace hf := bnd hf
            obtain ⟨t83, h84, hf⟩ := hf
            refine g_3_6 X hW hinX1 hF31 h84 dX1_makePageFrom_47 ?_
            refine lv_iload_n hx hb dX1_makePageFrom_50 rfl (lv_at hl 3 rfl) ?_
            replace hf := bnd hf
            obtain ⟨a85, h86, hf⟩ := hf
            subst h86
            replace hf := bnd hf
            obtain ⟨t87, h88, hf⟩ := hf
            refine r_ald X hW h88 dX1_makePageFrom_51 ?_
            refine lv_iadd hx hb dX1_makePageFrom_52 ?_
            refine lv_istore (lv' := [(4, .int (t81 + t87)), (2, .int (w2_6 + t7)), (0, .ref u0_6), (1, .int u1_6), (3, .int w3_6)]) hx hb dX1_makePageFrom_53 hl (by decide) rfl (fun ls hl => ?_)
            refine lv_iconst (v := 1) hx hb dX1_makePageFrom_55 (by decide) ?_
            refine lv_aload_n hx hb dX1_makePageFrom_56 rfl (lv_at hl 2 rfl) ?_
            replace hf := bnd hf
            obtain ⟨t89, h90, hf⟩ := hf
            refine g_3_7 X hW hinX1 hF34 h90 dX1_makePageFrom_57 ?_
            refine lv_iload_n hx hb dX1_makePageFrom_60 rfl (lv_at hl 4 rfl) ?_
            replace hf := bnd hf
            obtain ⟨a91, h92, hf⟩ := hf
            subst h92
            replace hf := bnd hf
            obtain ⟨t93, h94, hf⟩ := hf
            refine r_ald X hW h94 dX1_makePageFrom_61 ?_
            refine lv_iadd hx hb dX1_makePageFrom_62 ?_
            refine lv_istore (lv' := [(5, .int (1 + t93)), (4, .int (t81 + t87)), (2, .int (w2_6 + t7)), (0, .ref u0_6), (1, .int u1_6), (3, .int w3_6)]) hx hb dX1_makePageFrom_63 hl (by decide) rfl (fun ls hl => ?_)
            refine lv_iload hx hb dX1_makePageFrom_65 (lv_at hl 1 rfl) ?_
            refine lv_aload_n hx hb dX1_makePageFrom_67 rfl (lv_at hl 3 rfl) ?_
            replace hf := bnd hf
            obtain ⟨t95, h96, hf⟩ := hf
            refine g_3_6 X hW hinX1 hF31 h96 dX1_makePageFrom_68 ?_
            refine lv_iload_n hx hb dX1_makePageFrom_71 rfl (lv_at hl 4 rfl) ?_
            replace hf := bnd hf
            obtain ⟨a97, h98, hf⟩ := hf
            subst h98
            replace hf := bnd hf
            obtain ⟨t99, h100, hf⟩ := hf
            refine r_ald X hW h100 dX1_makePageFrom_72 ?_
            refine lv_icmp_lt (tgt := 98) hx hb dX1_makePageFrom_73 (by decide) (fun hc => ?_) (fun hc => ?_)
            · replace hf := itp hc hf
              refine lv_aload_n hx hb dX1_makePageFrom_98 rfl (lv_at hl 3 rfl) ?_
              replace hf := bnd hf
              obtain ⟨t101, h102, hf⟩ := hf
              refine g_3_6 X hW hinX1 hF31 h102 dX1_makePageFrom_99 ?_
              refine lv_iload_n hx hb dX1_makePageFrom_102 rfl (lv_at hl 4 rfl) ?_
              refine lv_iload hx hb dX1_makePageFrom_103 (lv_at hl 1 rfl) ?_
              replace hf := bnd hf
              obtain ⟨a103, h104, hf⟩ := hf
              subst h104
              replace hf := bnd hf
              obtain ⟨m105, h106, hf⟩ := hf
              refine r_ast X hW h106 dX1_makePageFrom_105 (fun H locs hW => ?_)
              refine lv_aload_n hx hb dX1_makePageFrom_106 rfl (lv_at hl 3 rfl) ?_
              replace hf := bnd hf
              obtain ⟨t107, h108, hf⟩ := hf
              refine g_3_7 X hW hinX1 hF34 h108 dX1_makePageFrom_107 ?_
              refine lv_iload_n hx hb dX1_makePageFrom_110 rfl (lv_at hl 4 rfl) ?_
              refine lv_iload hx hb dX1_makePageFrom_111 (lv_at hl 0 rfl) ?_
              replace hf := bnd hf
              obtain ⟨a109, h110, hf⟩ := hf
              subst h110
              replace hf := bnd hf
              obtain ⟨m111, h112, hf⟩ := hf
              refine r_ast X hW h112 dX1_makePageFrom_113 (fun H locs hW => ?_)
              refine lv_aload_n hx hb dX1_makePageFrom_114 rfl (lv_at hl 3 rfl) ?_
              replace hf := bnd hf
              obtain ⟨t113, h114, hf⟩ := hf
              refine g_3_8 X hW hinX1 hF37 h114 dX1_makePageFrom_115 ?_
              refine lv_iload_n hx hb dX1_makePageFrom_118 rfl (lv_at hl 4 rfl) ?_
              refine lv_iload_n hx hb dX1_makePageFrom_119 rfl (lv_at hl 5 rfl) ?_
              replace hf := bnd hf
              obtain ⟨a115, h116, hf⟩ := hf
              subst h116
              replace hf := bnd hf
              obtain ⟨m117, h118, hf⟩ := hf
              refine r_ast X hW h118 dX1_makePageFrom_120 (fun H locs hW => ?_)
              refine lv_iinc (v := (w3_6 + 1)) (lv' := [(3, .int (w3_6 + 1)), (5, .int (1 + t93)), (4, .int (t81 + t87)), (2, .int (w2_6 + t7)), (0, .ref u0_6), (1, .int u1_6)]) hx hb dX1_makePageFrom_121 hl (k := 5) rfl rfl (by decide) rfl (fun ls hl => ?_)
              refine lv_goto (tgt := 6) hx hb dX1_makePageFrom_124 (by decide) ?_
              exact ih6 _ _ _ _ _ _ hf hW (lv_sub hl [4, 5, 3, 0] rfl)
            · replace hf := itn hc hf
              refine lv_iload hx hb dX1_makePageFrom_76 (lv_at hl 1 rfl) ?_
              refine lv_aload_n hx hb dX1_makePageFrom_78 rfl (lv_at hl 3 rfl) ?_
              replace hf := bnd hf
              obtain ⟨t119, h120, hf⟩ := hf
              refine g_3_6 X hW hinX1 hF31 h120 dX1_makePageFrom_79 ?_
              refine lv_iload_n hx hb dX1_makePageFrom_82 rfl (lv_at hl 4 rfl) ?_
              replace hf := bnd hf
              obtain ⟨a121, h122, hf⟩ := hf
              subst h122
              replace hf := bnd hf
              obtain ⟨t123, h124, hf⟩ := hf
              refine r_ald X hW h124 dX1_makePageFrom_83 ?_
              refine lv_icmp_ne (tgt := 121) hx hb dX1_makePageFrom_84 (by decide) (fun hc => ?_) (fun hc => ?_)
              · replace hf := itn hc hf
                refine lv_iinc (v := (w3_6 + 1)) (lv' := [(3, .int (w3_6 + 1)), (5, .int (1 + t93)), (4, .int (t81 + t87)), (2, .int (w2_6 + t7)), (0, .ref u0_6), (1, .int u1_6)]) hx hb dX1_makePageFrom_121 hl (k := 5) rfl rfl (by decide) rfl (fun ls hl => ?_)
                refine lv_goto (tgt := 6) hx hb dX1_makePageFrom_124 (by decide) ?_
                exact ih6 _ _ _ _ _ _ hf hW (lv_sub hl [4, 5, 3, 0] rfl)
              · replace hf := itp hc hf
                refine lv_iload hx hb dX1_makePageFrom_87 (lv_at hl 0 rfl) ?_
                refine lv_aload_n hx hb dX1_makePageFrom_89 rfl (lv_at hl 3 rfl) ?_
                replace hf := bnd hf
                obtain ⟨t125, h126, hf⟩ := hf
                refine g_3_7 X hW hinX1 hF34 h126 dX1_makePageFrom_90 ?_
                refine lv_iload_n hx hb dX1_makePageFrom_93 rfl (lv_at hl 4 rfl) ?_
                replace hf := bnd hf
                obtain ⟨a127, h128, hf⟩ := hf
                subst h128
                replace hf := bnd hf
                obtain ⟨t129, h130, hf⟩ := hf
                refine r_ald X hW h130 dX1_makePageFrom_94 ?_
                refine lv_icmp_gt (tgt := 121) hx hb dX1_makePageFrom_95 (by decide) (fun hc => ?_) (fun hc => ?_)
                · replace hf := itp hc hf
                  refine lv_iinc (v := (w3_6 + 1)) (lv' := [(3, .int (w3_6 + 1)), (5, .int (1 + t93)), (4, .int (t81 + t87)), (2, .int (w2_6 + t7)), (0, .ref u0_6), (1, .int u1_6)]) hx hb dX1_makePageFrom_121 hl (k := 5) rfl rfl (by decide) rfl (fun ls hl => ?_)
                  refine lv_goto (tgt := 6) hx hb dX1_makePageFrom_124 (by decide) ?_
                  exact ih6 _ _ _ _ _ _ hf hW (lv_sub hl [4, 5, 3, 0] rfl)
                · replace hf := itn hc hf
                  refine lv_aload_n hx hb dX1_makePageFrom_98 rfl (lv_at hl 3 rfl) ?_
                  replace hf := bnd hf
                  obtain ⟨t131, h132, hf⟩ := hf
                  refine g_3_6 X hW hinX1 hF31 h132 dX1_makePageFrom_99 ?_
                  refine lv_iload_n hx hb dX1_makePageFrom_102 rfl (lv_at hl 4 rfl) ?_
                  refine lv_iload hx hb dX1_makePageFrom_103 (lv_at hl 1 rfl) ?_
                  replace hf := bnd hf
                  obtain ⟨a133, h134, hf⟩ := hf
                  subst h134
                  replace hf := bnd hf
                  obtain ⟨m135, h136, hf⟩ := hf
                  refine r_ast X hW h136 dX1_makePageFrom_105 (fun H locs hW => ?_)
                  refine lv_aload_n hx hb dX1_makePageFrom_106 rfl (lv_at hl 3 rfl) ?_
                  replace hf := bnd hf
                  obtain ⟨t137, h138, hf⟩ := hf
                  refine g_3_7 X hW hinX1 hF34 h138 dX1_makePageFrom_107 ?_
                  refine lv_iload_n hx hb dX1_makePageFrom_110 rfl (lv_at hl 4 rfl) ?_
                  refine lv_iload hx hb dX1_makePageFrom_111 (lv_at hl 0 rfl) ?_
                  replace hf := bnd hf
                  obtain ⟨a139, h140, hf⟩ := hf
                  subst h140
                  replace hf := bnd hf
                  obtain ⟨m141, h142, hf⟩ := hf
                  refine r_ast X hW h142 dX1_makePageFrom_113 (fun H locs hW => ?_)
                  refine lv_aload_n hx hb dX1_makePageFrom_114 rfl (lv_at hl 3 rfl) ?_
                  replace hf := bnd hf
                  obtain ⟨t143, h144, hf⟩ := hf
                  refine g_3_8 X hW hinX1 hF37 h144 dX1_makePageFrom_115 ?_
                  refine lv_iload_n hx hb dX1_makePageFrom_118 rfl (lv_at hl 4 rfl) ?_
                  refine lv_iload_n hx hb dX1_makePageFrom_119 rfl (lv_at hl 5 rfl) ?_
                  replace hf := bnd hf
                  obtain ⟨a145, h146, hf⟩ := hf
                  subst h146
                  replace hf := bnd hf
                  obtain ⟨m147, h148, hf⟩ := hf
                  refine r_ast X hW h148 dX1_makePageFrom_120 (fun H locs hW => ?_)
                  refine lv_iinc (v := (w3_6 + 1)) (lv' := [(3, .int (w3_6 + 1)), (5, .int (1 + t93)), (4, .int (t81 + t87)), (2, .int (w2_6 + t7)), (0, .ref u0_6), (1, .int u1_6)]) hx hb dX1_makePageFrom_121 hl (k := 5) rfl rfl (by decide) rfl (fun ls hl => ?_)
                  refine lv_goto (tgt := 6) hx hb dX1_makePageFrom_124 (by decide) ?_
                  exact ih6 _ _ _ _ _ _ hf hW (lv_sub hl [4, 5, 3, 0] rfl)
          · replace hf := itn hc hf
            exact r_vret X hr hW (by cases hf; exact ⟨rfl, rfl⟩) (by decide) (by decide) dX1_makePageFrom_40
  refine L6 x0 x1 _ ?_ 200 mu 0 (x1 + 1) _ _ _ hf hW (lv_sub hl [2, 3, 1, 0] rfl)
  intro zmu6 zw2_6 zw3_6 H locs ls hf hW hl
  exact r_vret X hr hW (by cases hf; exact ⟨rfl, rfl⟩) (by decide) (by decide) dX1_makePageFrom_127

def f_X1_makePages_L5 (u0_5 : Nat) (k9 : Mem → Int32 → Option ((Unit) × Mem)) : Nat → Mem → Int32 → Option ((Unit) × Mem)
  | 0, _, _ => none
  | n + 1, mu5, w1_5 => if w1_5 < 0 then (k9 mu5 w1_5) else ((getQ mu5 3 6 u0_5).bind fun t3 => (getI mu5 3 9 u0_5).bind fun t5 => if w1_5 = t5 then (t3.bind fun a29 => (ast mu5 a29 w1_5 0).bind fun m31 => (getQ m31 3 7 u0_5).bind fun t33 => t33.bind fun a35 => (ast m31 a35 w1_5 0).bind fun m37 => (getQ m37 3 8 u0_5).bind fun t39 => (getI m37 3 9 u0_5).bind fun t41 => t39.bind fun a43 => (ast m37 a43 w1_5 t41).bind fun m45 => (chk m45 3 u0_5).bind fun _ => bi2 (f_X1_makePageFrom m45 u0_5 w1_5) (fun (t48 : (Unit)) m50 => f_X1_makePages_L5 u0_5 k9 n m50 (w1_5 + (-1)))) else (t3.bind fun a7 => (ast mu5 a7 w1_5 2147483647).bind fun m9 => (getQ m9 3 7 u0_5).bind fun t11 => t11.bind fun a13 => (ast m9 a13 w1_5 0).bind fun m15 => (getQ m15 3 8 u0_5).bind fun t17 => (getI m15 3 9 u0_5).bind fun t19 => t17.bind fun a21 => (ast m15 a21 w1_5 t19).bind fun m23 => (chk m23 3 u0_5).bind fun _ => bi2 (f_X1_makePageFrom m23 u0_5 w1_5) (fun (t26 : (Unit)) m28 => f_X1_makePages_L5 u0_5 k9 n m28 (w1_5 + (-1)))))
def f_X1_makePages (mu : Mem) (x0 : Nat) : Option ((Unit) × Mem) := (getI mu 3 9 x0).bind fun t1 => f_X1_makePages_L5 x0 (fun (zmu5 : Mem) (zw1_5 : Int32) => some ((), zmu5)) 200 mu t1
set_option maxHeartbeats 4000000 in
set_option maxRecDepth 100000 in
theorem k_X1_makePages (l : Launch) (hsl : l.stackTraces = false) (G : GG) (A : Nat → Prop) (mu : Mem) (x0 : Nat) (r : (Unit) × Mem) (hf : f_X1_makePages mu x0 = some r) : Ok l yX1_makePages wsX1_makePages ({ frames := 10, cells := 0, slots := 0, locals := 190 } : Room) [.ref x0] G A mu (dP (.inr (rV r.1)) r.2) := by
  refine Ok.start (cc := cX1_makePages) (maxL := 2) (ret := none) rfl (by decide +kernel) hsl (by first | exact Nat.le_of_ble_eq_true rfl | simp [lg_sl, cat_rf, Value.category]) ?_
  intro p e s m args below meth c ls X hr hname hW hl
  have X : BX p l s m args meth c cX1_makePages 2 RX1 wsX1_makePages G A := X
  have hx := X.1
  have hb := X.2.1
  have hts := X.2.2.2.2.1
  have hl : lv_has ls 2 [(0, .ref x0)] := hl
  have hinX1 : ∀ w ∈ wsX10, w ∈ wsX1_makePages := by decide +kernel
  have hC60 : (Cond.constant RX1 60 (2147483647)).before args s = true := hts _ (by decide +kernel)
  have hF31 : (Cond.fieldLink RX1 31 "PartcopyistBench$Blocks" "hardFrom" "[I").before args s = true := hts _ (by decide +kernel)
  have hF34 : (Cond.fieldLink RX1 34 "PartcopyistBench$Blocks" "pagesFrom" "[I").before args s = true := hts _ (by decide +kernel)
  have hF37 : (Cond.fieldLink RX1 37 "PartcopyistBench$Blocks" "nextPageFrom" "[I").before args s = true := hts _ (by decide +kernel)
  have hF40 : (Cond.fieldLink RX1 40 "PartcopyistBench$Blocks" "count" "I").before args s = true := hts _ (by decide +kernel)
  unfold f_X1_makePages at hf
  refine lv_aload_n hx hb dX1_makePages_0 rfl (lv_at hl 0 rfl) ?_
  replace hf := bnd hf
  obtain ⟨t1, h2, hf⟩ := hf
  refine g_3_9 X hW hinX1 hF40 h2 dX1_makePages_1 ?_
  refine lv_istore_n (lv' := [(1, .int t1), (0, .ref x0)]) hx hb dX1_makePages_4 rfl hl (by decide) rfl (fun ls hl => ?_)
  have L5 : ∀ (u0_5 : Nat) (k9 : Mem → Int32 → Option ((Unit) × Mem)),
      (∀ (mu5 : Mem) (w1_5 : Int32) (H : Heap) (locs : List Loc) (ls : Array Slot), k9 mu5 w1_5 = some r → MW G A mu5 s.heap H locs → lv_has ls 2 [(0, .ref u0_5), (1, .int w1_5)] → W p l e ({ frames := 10, cells := 0, slots := 0, locals := 190 } : Room) s m args below meth c H locs 0 0 (QQ below G A (dP (.inr (rV r.1)) r.2) args s 0 0) (F0 m 57 ls [])) →
      ∀ (n : Nat) (mu5 : Mem) (w1_5 : Int32) (H : Heap) (locs : List Loc) (ls : Array Slot), f_X1_makePages_L5 u0_5 k9 n mu5 w1_5 = some r → MW G A mu5 s.heap H locs → lv_has ls 2 [(0, .ref u0_5), (1, .int w1_5)] → W p l e ({ frames := 10, cells := 0, slots := 0, locals := 190 } : Room) s m args below meth c H locs 0 0 (QQ below G A (dP (.inr (rV r.1)) r.2) args s 0 0) (F0 m 5 ls []) := by
    intro u0_5 k9 hk5 n
    induction n with
    | zero => intro mu5 w1_5 H locs ls hf hW hl; rw [f_X1_makePages_L5] at hf; cases hf
    | succ n ih5 =>
      intro mu5 w1_5 H locs ls hf hW hl
      rw [f_X1_makePages_L5] at hf
      refine lv_iload_n hx hb dX1_makePages_5 rfl (lv_at hl 1 rfl) ?_
      refine lv_if_lt (tgt := 57) hx hb dX1_makePages_6 (by decide) (fun hc => ?_) (fun hc => ?_)
      · replace hf := itp hc hf
        exact hk5 _ _ _ _ _ hf hW (lv_sub hl [0, 1] rfl)
      · replace hf := itn hc hf
        refine lv_aload_n hx hb dX1_makePages_9 rfl (lv_at hl 0 rfl) ?_
        replace hf := bnd hf
        obtain ⟨t3, h4, hf⟩ := hf
        refine g_3_6 X hW hinX1 hF31 h4 dX1_makePages_10 ?_
        refine lv_iload_n hx hb dX1_makePages_13 rfl (lv_at hl 1 rfl) ?_
        refine lv_iload_n hx hb dX1_makePages_14 rfl (lv_at hl 1 rfl) ?_
        refine lv_aload_n hx hb dX1_makePages_15 rfl (lv_at hl 0 rfl) ?_
        replace hf := bnd hf
        obtain ⟨t5, h6, hf⟩ := hf
        refine g_3_9 X hW hinX1 hF40 h6 dX1_makePages_16 ?_
        refine lv_icmp_ne (tgt := 26) hx hb dX1_makePages_19 (by decide) (fun hc => ?_) (fun hc => ?_)
        · replace hf := itn hc hf
          refine lv_ldc (v := 2147483647) hx hb X.2.2.2.1 hC60 dX1_makePages_26 ?_
          replace hf := bnd hf
          obtain ⟨a7, h8, hf⟩ := hf
          subst h8
          replace hf := bnd hf
          obtain ⟨m9, h10, hf⟩ := hf
          refine r_ast X hW h10 dX1_makePages_28 (fun H locs hW => ?_)
          refine lv_aload_n hx hb dX1_makePages_29 rfl (lv_at hl 0 rfl) ?_
          replace hf := bnd hf
          obtain ⟨t11, h12, hf⟩ := hf
          refine g_3_7 X hW hinX1 hF34 h12 dX1_makePages_30 ?_
          refine lv_iload_n hx hb dX1_makePages_33 rfl (lv_at hl 1 rfl) ?_
          refine lv_iconst (v := 0) hx hb dX1_makePages_34 (by decide) ?_
          replace hf := bnd hf
          obtain ⟨a13, h14, hf⟩ := hf
          subst h14
          replace hf := bnd hf
          obtain ⟨m15, h16, hf⟩ := hf
          refine r_ast X hW h16 dX1_makePages_35 (fun H locs hW => ?_)
          refine lv_aload_n hx hb dX1_makePages_36 rfl (lv_at hl 0 rfl) ?_
          replace hf := bnd hf
          obtain ⟨t17, h18, hf⟩ := hf
          refine g_3_8 X hW hinX1 hF37 h18 dX1_makePages_37 ?_
          refine lv_iload_n hx hb dX1_makePages_40 rfl (lv_at hl 1 rfl) ?_
          refine lv_aload_n hx hb dX1_makePages_41 rfl (lv_at hl 0 rfl) ?_
          replace hf := bnd hf
          obtain ⟨t19, h20, hf⟩ := hf
          refine g_3_9 X hW hinX1 hF40 h20 dX1_makePages_42 ?_
          replace hf := bnd hf
          obtain ⟨a21, h22, hf⟩ := hf
          subst h22
          replace hf := bnd hf
          obtain ⟨m23, h24, hf⟩ := hf
          refine r_ast X hW h24 dX1_makePages_45 (fun H locs hW => ?_)
          refine lv_aload_n hx hb dX1_makePages_46 rfl (lv_at hl 0 rfl) ?_
          refine lv_iload_n hx hb dX1_makePages_47 rfl (lv_at hl 1 rfl) ?_
          replace hf := bnd hf
          obtain ⟨_, h25, hf⟩ := hf
          replace hf := bnd2 hf
          obtain ⟨t26, m28, h27, hf⟩ := hf
          refine r_callV_ok (μ9 := m28) X hW hl.1 (k_X1_makePageFrom l hsl G A m23 u0_5 w1_5 _ h27) gX1_makePages_X1_makePageFrom rfl (chk_ok h25) (by decide) rfl (by decide +kernel) (n := 1) rfl (by decide) (by first | exact Nat.le_of_ble_eq_true rfl | simp [cat_rf, Value.category]) dX1_makePages_48 rfl rfl (stk := []) rfl (fun H locs hW => ?_)
          refine lv_iinc (v := (w1_5 + (-1))) (lv' := [(1, .int (w1_5 + (-1))), (0, .ref u0_5)]) hx hb dX1_makePages_51 hl (k := 1) rfl rfl (by decide) rfl (fun ls hl => ?_)
          refine lv_goto (tgt := 5) hx hb dX1_makePages_54 (by decide) ?_
          exact ih5 _ _ _ _ _ hf hW (lv_sub hl [1, 0] rfl)
        · replace hf := itp hc hf
          refine lv_iconst (v := 0) hx hb dX1_makePages_22 (by decide) ?_
          refine lv_goto (tgt := 28) hx hb dX1_makePages_23 (by decide) ?_
          replace hf := bnd hf
          obtain ⟨a29, h30, hf⟩ := hf
          subst h30
          replace hf := bnd hf
          obtain ⟨m31, h32, hf⟩ := hf
          refine r_ast X hW h32 dX1_makePages_28 (fun H locs hW => ?_)
          refine lv_aload_n hx hb dX1_makePages_29 rfl (lv_at hl 0 rfl) ?_
          replace hf := bnd hf
          obtain ⟨t33, h34, hf⟩ := hf
          refine g_3_7 X hW hinX1 hF34 h34 dX1_makePages_30 ?_
          refine lv_iload_n hx hb dX1_makePages_33 rfl (lv_at hl 1 rfl) ?_
          refine lv_iconst (v := 0) hx hb dX1_makePages_34 (by decide) ?_
          replace hf := bnd hf
          obtain ⟨a35, h36, hf⟩ := hf
          subst h36
          replace hf := bnd hf
          obtain ⟨m37, h38, hf⟩ := hf
          refine r_ast X hW h38 dX1_makePages_35 (fun H locs hW => ?_)
          refine lv_aload_n hx hb dX1_makePages_36 rfl (lv_at hl 0 rfl) ?_
          replace hf := bnd hf
          obtain ⟨t39, h40, hf⟩ := hf
          refine g_3_8 X hW hinX1 hF37 h40 dX1_makePages_37 ?_
          refine lv_iload_n hx hb dX1_makePages_40 rfl (lv_at hl 1 rfl) ?_
          refine lv_aload_n hx hb dX1_makePages_41 rfl (lv_at hl 0 rfl) ?_
          replace hf := bnd hf
          obtain ⟨t41, h42, hf⟩ := hf
          refine g_3_9 X hW hinX1 hF40 h42 dX1_makePages_42 ?_
          replace hf := bnd hf
          obtain ⟨a43, h44, hf⟩ := hf
          subst h44
          replace hf := bnd hf
          obtain ⟨m45, h46, hf⟩ := hf
          refine r_ast X hW h46 dX1_makePages_45 (fun H locs hW => ?_)
          refine lv_aload_n hx hb dX1_makePages_46 rfl (lv_at hl 0 rfl) ?_
          refine lv_iload_n hx hb dX1_makePages_47 rfl (lv_at hl 1 rfl) ?_
          replace hf := bnd hf
          obtain ⟨_, h47, hf⟩ := hf
          replace hf := bnd2 hf
          obtain ⟨t48, m50, h49, hf⟩ := hf
          refine r_callV_ok (μ9 := m50) X hW hl.1 (k_X1_makePageFrom l hsl G A m45 u0_5 w1_5 _ h49) gX1_makePages_X1_makePageFrom rfl (chk_ok h47) (by decide) rfl (by decide +kernel) (n := 1) rfl (by decide) (by first | exact Nat.le_of_ble_eq_true rfl | simp [cat_rf, Value.category]) dX1_makePages_48 rfl rfl (stk := []) rfl (fun H locs hW => ?_)
          refine lv_iinc (v := (w1_5 + (-1))) (lv' := [(1, .int (w1_5 + (-1))), (0, .ref u0_5)]) hx hb dX1_makePages_51 hl (k := 1) rfl rfl (by decide) rfl (fun ls hl => ?_)
          refine lv_goto (tgt := 5) hx hb dX1_makePages_54 (by decide) ?_
          exact ih5 _ _ _ _ _ hf hW (lv_sub hl [1, 0] rfl)
  refine L5 x0 _ ?_ 200 mu t1 _ _ _ hf hW (lv_sub hl [1, 0] rfl)
  intro zmu5 zw1_5 H locs ls hf hW hl
  exact r_vret X hr hW (by cases hf; exact ⟨rfl, rfl⟩) (by decide) (by decide) dX1_makePages_57

def f_X1_hardTurnsOfPages (mu : Mem) (x0 : Nat) : Option (Int32) := (getQ mu 3 6 x0).bind fun t1 => t1.bind fun a3 => (ald mu a3 0).bind fun t5 => some t5
set_option maxHeartbeats 4000000 in
set_option maxRecDepth 100000 in
theorem k_X1_hardTurnsOfPages (l : Launch) (hsl : l.stackTraces = false) (G : GG) (A : Nat → Prop) (mu : Mem) (x0 : Nat) (r : Int32) (hf : f_X1_hardTurnsOfPages mu x0 = some r) : Ok l yX1_hardTurnsOfPages wsX1_hardTurnsOfPages ({ frames := 6, cells := 0, slots := 0, locals := 110 } : Room) [.ref x0] G A mu (dP (.inr (rI r)) mu) := by
  refine Ok.start (cc := cX1_hardTurnsOfPages) (maxL := 1) (ret := (some .int)) rfl (by decide +kernel) hsl (by first | exact Nat.le_of_ble_eq_true rfl | simp [lg_sl, cat_rf, Value.category]) ?_
  intro p e s m args below meth c ls X hr hname hW hl
  have X : BX p l s m args meth c cX1_hardTurnsOfPages 1 RX1 wsX1_hardTurnsOfPages G A := X
  have hx := X.1
  have hb := X.2.1
  have hts := X.2.2.2.2.1
  have hl : lv_has ls 1 [(0, .ref x0)] := hl
  have hinX1 : ∀ w ∈ wsX10, w ∈ wsX1_hardTurnsOfPages := by decide +kernel
  have hF31 : (Cond.fieldLink RX1 31 "PartcopyistBench$Blocks" "hardFrom" "[I").before args s = true := hts _ (by decide +kernel)
  unfold f_X1_hardTurnsOfPages at hf
  refine lv_aload_n hx hb dX1_hardTurnsOfPages_0 rfl (lv_at hl 0 rfl) ?_
  replace hf := bnd hf
  obtain ⟨t1, h2, hf⟩ := hf
  refine g_3_6 X hW hinX1 hF31 h2 dX1_hardTurnsOfPages_1 ?_
  refine lv_iconst (v := 0) hx hb dX1_hardTurnsOfPages_4 (by decide) ?_
  replace hf := bnd hf
  obtain ⟨a3, h4, hf⟩ := hf
  subst h4
  replace hf := bnd hf
  obtain ⟨t5, h6, hf⟩ := hf
  refine r_ald X hW h6 dX1_hardTurnsOfPages_5 ?_
  exact r_iret X hr hW (by cases hf; exact ⟨rfl, rfl⟩) (by decide) (by decide) dX1_hardTurnsOfPages_6

def f_X1_countOfPages (mu : Mem) (x0 : Nat) : Option (Int32) := (getQ mu 3 7 x0).bind fun t1 => t1.bind fun a3 => (ald mu a3 0).bind fun t5 => some t5
set_option maxHeartbeats 4000000 in
set_option maxRecDepth 100000 in
theorem k_X1_countOfPages (l : Launch) (hsl : l.stackTraces = false) (G : GG) (A : Nat → Prop) (mu : Mem) (x0 : Nat) (r : Int32) (hf : f_X1_countOfPages mu x0 = some r) : Ok l yX1_countOfPages wsX1_countOfPages ({ frames := 6, cells := 0, slots := 0, locals := 110 } : Room) [.ref x0] G A mu (dP (.inr (rI r)) mu) := by
  refine Ok.start (cc := cX1_countOfPages) (maxL := 1) (ret := (some .int)) rfl (by decide +kernel) hsl (by first | exact Nat.le_of_ble_eq_true rfl | simp [lg_sl, cat_rf, Value.category]) ?_
  intro p e s m args below meth c ls X hr hname hW hl
  have X : BX p l s m args meth c cX1_countOfPages 1 RX1 wsX1_countOfPages G A := X
  have hx := X.1
  have hb := X.2.1
  have hts := X.2.2.2.2.1
  have hl : lv_has ls 1 [(0, .ref x0)] := hl
  have hinX1 : ∀ w ∈ wsX10, w ∈ wsX1_countOfPages := by decide +kernel
  have hF34 : (Cond.fieldLink RX1 34 "PartcopyistBench$Blocks" "pagesFrom" "[I").before args s = true := hts _ (by decide +kernel)
  unfold f_X1_countOfPages at hf
  refine lv_aload_n hx hb dX1_countOfPages_0 rfl (lv_at hl 0 rfl) ?_
  replace hf := bnd hf
  obtain ⟨t1, h2, hf⟩ := hf
  refine g_3_7 X hW hinX1 hF34 h2 dX1_countOfPages_1 ?_
  refine lv_iconst (v := 0) hx hb dX1_countOfPages_4 (by decide) ?_
  replace hf := bnd hf
  obtain ⟨a3, h4, hf⟩ := hf
  subst h4
  replace hf := bnd hf
  obtain ⟨t5, h6, hf⟩ := hf
  refine r_ald X hW h6 dX1_countOfPages_5 ?_
  exact r_iret X hr hW (by cases hf; exact ⟨rfl, rfl⟩) (by decide) (by decide) dX1_countOfPages_6

def f_X1_lastBlockOfPage_L4 (mu : Mem) (u0_4 : Nat) (u1_4 : Int32) (k9 : Int32 → Int32 → Option (Int32)) : Nat → Int32 → Int32 → Option (Int32)
  | 0, _, _ => none
  | n + 1, w2_4, w3_4 => if u1_4 < w3_4 then (k9 w2_4 w3_4) else ((getI mu 3 9 u0_4).bind fun t1 => if t1 ≤ w3_4 then (k9 w2_4 w3_4) else ((chk mu 3 u0_4).bind fun _ => (f_X1_isBlock mu u0_4 w2_4).bind fun t4 => if t4 = 0 then ((getI mu 3 9 u0_4).bind fun t6 => f_X1_lastBlockOfPage_L4 mu u0_4 u1_4 k9 n t6 (w3_4 + 1)) else ((getQ mu 3 8 u0_4).bind fun t8 => t8.bind fun a10 => (ald mu a10 w2_4).bind fun t12 => f_X1_lastBlockOfPage_L4 mu u0_4 u1_4 k9 n t12 (w3_4 + 1))))
def f_X1_lastBlockOfPage (mu : Mem) (x0 : Nat) (x1 : Int32) : Option (Int32) := f_X1_lastBlockOfPage_L4 mu x0 x1 (fun (zw2_4 : Int32) (zw3_4 : Int32) => some (zw2_4 - 1)) 200 0 0
set_option maxHeartbeats 4000000 in
set_option maxRecDepth 100000 in
theorem k_X1_lastBlockOfPage (l : Launch) (hsl : l.stackTraces = false) (G : GG) (A : Nat → Prop) (mu : Mem) (x0 : Nat) (x1 : Int32) (r : Int32) (hf : f_X1_lastBlockOfPage mu x0 x1 = some r) : Ok l yX1_lastBlockOfPage wsX1_lastBlockOfPage ({ frames := 8, cells := 0, slots := 0, locals := 150 } : Room) [.ref x0, .int x1] G A mu (dP (.inr (rI r)) mu) := by
  refine Ok.start (cc := cX1_lastBlockOfPage) (maxL := 4) (ret := (some .int)) rfl (by decide +kernel) hsl (by first | exact Nat.le_of_ble_eq_true rfl | simp [lg_sl, cat_rf, Value.category]) ?_
  intro p e s m args below meth c ls X hr hname hW hl
  have X : BX p l s m args meth c cX1_lastBlockOfPage 4 RX1 wsX1_lastBlockOfPage G A := X
  have hx := X.1
  have hb := X.2.1
  have hts := X.2.2.2.2.1
  have hl : lv_has ls 4 [(0, .ref x0), (1, .int x1)] := hl
  have hinX1 : ∀ w ∈ wsX10, w ∈ wsX1_lastBlockOfPage := by decide +kernel
  have hF37 : (Cond.fieldLink RX1 37 "PartcopyistBench$Blocks" "nextPageFrom" "[I").before args s = true := hts _ (by decide +kernel)
  have hF40 : (Cond.fieldLink RX1 40 "PartcopyistBench$Blocks" "count" "I").before args s = true := hts _ (by decide +kernel)
  unfold f_X1_lastBlockOfPage at hf
  refine lv_iconst (v := 0) hx hb dX1_lastBlockOfPage_0 (by decide) ?_
  refine lv_istore_n (lv' := [(2, .int 0), (0, .ref x0), (1, .int x1)]) hx hb dX1_lastBlockOfPage_1 rfl hl (by decide) rfl (fun ls hl => ?_)
  refine lv_iconst (v := 0) hx hb dX1_lastBlockOfPage_2 (by decide) ?_
  refine lv_istore_n (lv' := [(3, .int 0), (2, .int 0), (0, .ref x0), (1, .int x1)]) hx hb dX1_lastBlockOfPage_3 rfl hl (by decide) rfl (fun ls hl => ?_)
  have L4 : ∀ (u0_4 : Nat) (u1_4 : Int32) (k9 : Int32 → Int32 → Option (Int32)),
      (∀ (w2_4 : Int32) (w3_4 : Int32) (H : Heap) (locs : List Loc) (ls : Array Slot), k9 w2_4 w3_4 = some r → MW G A mu s.heap H locs → lv_has ls 4 [(0, .ref u0_4), (1, .int u1_4), (2, .int w2_4), (3, .int w3_4)] → W p l e ({ frames := 8, cells := 0, slots := 0, locals := 150 } : Room) s m args below meth c H locs 0 0 (QQ below G A (dP (.inr (rI r)) mu) args s 0 0) (F0 m 45 ls [])) →
      ∀ (n : Nat) (w2_4 : Int32) (w3_4 : Int32) (H : Heap) (locs : List Loc) (ls : Array Slot), f_X1_lastBlockOfPage_L4 mu u0_4 u1_4 k9 n w2_4 w3_4 = some r → MW G A mu s.heap H locs → lv_has ls 4 [(0, .ref u0_4), (1, .int u1_4), (2, .int w2_4), (3, .int w3_4)] → W p l e ({ frames := 8, cells := 0, slots := 0, locals := 150 } : Room) s m args below meth c H locs 0 0 (QQ below G A (dP (.inr (rI r)) mu) args s 0 0) (F0 m 4 ls []) := by
    intro u0_4 u1_4 k9 hk4 n
    induction n with
    | zero => intro w2_4 w3_4 H locs ls hf hW hl; rw [f_X1_lastBlockOfPage_L4] at hf; cases hf
    | succ n ih4 =>
      intro w2_4 w3_4 H locs ls hf hW hl
      rw [f_X1_lastBlockOfPage_L4] at hf
      refine lv_iload_n hx hb dX1_lastBlockOfPage_4 rfl (lv_at hl 3 rfl) ?_
      refine lv_iload_n hx hb dX1_lastBlockOfPage_5 rfl (lv_at hl 1 rfl) ?_
      refine lv_icmp_gt (tgt := 45) hx hb dX1_lastBlockOfPage_6 (by decide) (fun hc => ?_) (fun hc => ?_)
      · replace hf := itp hc hf
        exact hk4 _ _ _ _ _ hf hW (lv_sub hl [0, 1, 2, 3] rfl)
      · replace hf := itn hc hf
        refine lv_iload_n hx hb dX1_lastBlockOfPage_9 rfl (lv_at hl 3 rfl) ?_
        refine lv_aload_n hx hb dX1_lastBlockOfPage_10 rfl (lv_at hl 0 rfl) ?_
        replace hf := bnd hf
        obtain ⟨t1, h2, hf⟩ := hf
        refine g_3_9 X hW hinX1 hF40 h2 dX1_lastBlockOfPage_11 ?_
        refine lv_icmp_ge (tgt := 45) hx hb dX1_lastBlockOfPage_14 (by decide) (fun hc => ?_) (fun hc => ?_)
        · replace hf := itp hc hf
          exact hk4 _ _ _ _ _ hf hW (lv_sub hl [0, 1, 2, 3] rfl)
        · replace hf := itn hc hf
          refine lv_aload_n hx hb dX1_lastBlockOfPage_17 rfl (lv_at hl 0 rfl) ?_
          refine lv_iload_n hx hb dX1_lastBlockOfPage_18 rfl (lv_at hl 2 rfl) ?_
          replace hf := bnd hf
          obtain ⟨_, h3, hf⟩ := hf
          replace hf := bnd hf
          obtain ⟨t4, h5, hf⟩ := hf
          refine r_callV_ok X hW hl.1 (k_X1_isBlock l hsl G A mu u0_4 w2_4 _ h5) gX1_lastBlockOfPage_X1_isBlock rfl (chk_ok h3) (by decide) rfl (by decide +kernel) (n := 1) rfl (by decide) (by first | exact Nat.le_of_ble_eq_true rfl | simp [cat_rf, Value.category]) dX1_lastBlockOfPage_19 rfl rfl (stk := [.int t4]) rfl (fun H locs hW => ?_)
          refine lv_if_eq (tgt := 34) hx hb dX1_lastBlockOfPage_22 (by decide) (fun hc => ?_) (fun hc => ?_)
          · replace hf := itp hc hf
            refine lv_aload_n hx hb dX1_lastBlockOfPage_34 rfl (lv_at hl 0 rfl) ?_
            replace hf := bnd hf
            obtain ⟨t6, h7, hf⟩ := hf
            refine g_3_9 X hW hinX1 hF40 h7 dX1_lastBlockOfPage_35 ?_
            refine lv_istore_n (lv' := [(2, .int t6), (0, .ref u0_4), (1, .int u1_4), (3, .int w3_4)]) hx hb dX1_lastBlockOfPage_38 rfl hl (by decide) rfl (fun ls hl => ?_)
            refine lv_iinc (v := (w3_4 + 1)) (lv' := [(3, .int (w3_4 + 1)), (2, .int t6), (0, .ref u0_4), (1, .int u1_4)]) hx hb dX1_lastBlockOfPage_39 hl (k := 3) rfl rfl (by decide) rfl (fun ls hl => ?_)
            refine lv_goto (tgt := 4) hx hb dX1_lastBlockOfPage_42 (by decide) ?_
            exact ih4 _ _ _ _ _ hf hW (lv_sub hl [2, 3, 1, 0] rfl)
          · replace hf := itn hc hf
            refine lv_aload_n hx hb dX1_lastBlockOfPage_25 rfl (lv_at hl 0 rfl) ?_
            replace hf := bnd hf
            obtain ⟨t8, h9, hf⟩ := hf
            refine g_3_8 X hW hinX1 hF37 h9 dX1_lastBlockOfPage_26 ?_
            refine lv_iload_n hx hb dX1_lastBlockOfPage_29 rfl (lv_at hl 2 rfl) ?_
            replace hf := bnd hf
            obtain ⟨a10, h11, hf⟩ := hf
            subst h11
            replace hf := bnd hf
            obtain ⟨t12, h13, hf⟩ := hf
            refine r_ald X hW h13 dX1_lastBlockOfPage_30 ?_
            refine lv_goto (tgt := 38) hx hb dX1_lastBlockOfPage_31 (by decide) ?_
            refine lv_istore_n (lv' := [(2, .int t12), (0, .ref u0_4), (1, .int u1_4), (3, .int w3_4)]) hx hb dX1_lastBlockOfPage_38 rfl hl (by decide) rfl (fun ls hl => ?_)
            refine lv_iinc (v := (w3_4 + 1)) (lv' := [(3, .int (w3_4 + 1)), (2, .int t12), (0, .ref u0_4), (1, .int u1_4)]) hx hb dX1_lastBlockOfPage_39 hl (k := 3) rfl rfl (by decide) rfl (fun ls hl => ?_)
            refine lv_goto (tgt := 4) hx hb dX1_lastBlockOfPage_42 (by decide) ?_
            exact ih4 _ _ _ _ _ hf hW (lv_sub hl [2, 3, 1, 0] rfl)
  refine L4 x0 x1 _ ?_ 200 0 0 _ _ _ hf hW (lv_sub hl [2, 3, 1, 0] rfl)
  intro zw2_4 zw3_4 H locs ls hf hW hl
  refine lv_iload_n hx hb dX1_lastBlockOfPage_45 rfl (lv_at hl 2 rfl) ?_
  refine lv_iconst (v := 1) hx hb dX1_lastBlockOfPage_46 (by decide) ?_
  refine lv_isub hx hb dX1_lastBlockOfPage_47 ?_
  exact r_iret X hr hW (by cases hf; exact ⟨rfl, rfl⟩) (by decide) (by decide) dX1_lastBlockOfPage_48

def f_J9_floorDiv_7cf53 (mu : Mem) (x0 : Int32) (x1 : Int32) : Option (Int32) := if x1 = 0 then none else if 0 ≤ (x0 ^^^ x1) then (some (x0 / x1)) else (if ((x0 / x1) * x1) = x0 then (some (x0 / x1)) else (some ((x0 / x1) - 1)))
set_option maxHeartbeats 4000000 in
set_option maxRecDepth 100000 in
theorem k_J9_floorDiv_7cf53 (l : Launch) (hsl : l.stackTraces = false) (G : GG) (A : Nat → Prop) (mu : Mem) (x0 : Int32) (x1 : Int32) (r : Int32) (hf : f_J9_floorDiv_7cf53 mu x0 x1 = some r) : Ok l yJ9_floorDiv_7cf53 wsJ9_floorDiv_7cf53 ({ frames := 6, cells := 0, slots := 0, locals := 110 } : Room) [.int x0, .int x1] G A mu (dP (.inr (rI r)) mu) := by
  refine Ok.startF (cc := cJ9_floorDiv_7cf53) (maxL := 3) (ret := (some .int)) rfl (by decide +kernel) hsl (by first | exact Nat.le_of_ble_eq_true rfl | simp [lg_sl, cat_rf, Value.category]) ?_
  intro p e s m args below meth c ls X hr hname hW hl
  have X : BX p l s m args meth c cJ9_floorDiv_7cf53 3 RJ9 wsJ9_floorDiv_7cf53 G A := X
  have hx := X.1
  have hb := X.2.1
  have hts := X.2.2.2.2.1
  have hl : lv_has ls 3 [(0, .int x0), (1, .int x1)] := hl
  unfold f_J9_floorDiv_7cf53 at hf
  refine lv_iload_n hx hb dJ9_floorDiv_7cf53_0 rfl (lv_at hl 0 rfl) ?_
  refine lv_iload_n hx hb dJ9_floorDiv_7cf53_1 rfl (lv_at hl 1 rfl) ?_
  replace hf := itz hf
  obtain ⟨h1, hf⟩ := hf
  refine lv_idiv hx hb dJ9_floorDiv_7cf53_2 h1 ?_
  refine lv_istore_n (lv' := [(2, .int (x0 / x1)), (0, .int x0), (1, .int x1)]) hx hb dJ9_floorDiv_7cf53_3 rfl hl (by decide) rfl (fun ls hl => ?_)
  refine lv_iload_n hx hb dJ9_floorDiv_7cf53_4 rfl (lv_at hl 1 rfl) ?_
  refine lv_iload_n hx hb dJ9_floorDiv_7cf53_5 rfl (lv_at hl 2 rfl) ?_
  refine lv_ixor hx hb dJ9_floorDiv_7cf53_6 ?_
  refine lv_if_ge (tgt := 21) hx hb dJ9_floorDiv_7cf53_7 (by decide) (fun hc => ?_) (fun hc => ?_)
  · replace hf := itp hc hf
    refine lv_iload_n hx hb dJ9_floorDiv_7cf53_21 rfl (lv_at hl 0 rfl) ?_
    exact r_iret X hr hW (by cases hf; exact ⟨rfl, rfl⟩) (by decide) (by decide) dJ9_floorDiv_7cf53_22
  · replace hf := itn hc hf
    refine lv_iload_n hx hb dJ9_floorDiv_7cf53_10 rfl (lv_at hl 0 rfl) ?_
    refine lv_iload_n hx hb dJ9_floorDiv_7cf53_11 rfl (lv_at hl 2 rfl) ?_
    refine lv_imul hx hb dJ9_floorDiv_7cf53_12 ?_
    refine lv_iload_n hx hb dJ9_floorDiv_7cf53_13 rfl (lv_at hl 1 rfl) ?_
    refine lv_icmp_eq (tgt := 21) hx hb dJ9_floorDiv_7cf53_14 (by decide) (fun hc => ?_) (fun hc => ?_)
    · replace hf := itp hc hf
      refine lv_iload_n hx hb dJ9_floorDiv_7cf53_21 rfl (lv_at hl 0 rfl) ?_
      exact r_iret X hr hW (by cases hf; exact ⟨rfl, rfl⟩) (by decide) (by decide) dJ9_floorDiv_7cf53_22
    · replace hf := itn hc hf
      refine lv_iload_n hx hb dJ9_floorDiv_7cf53_17 rfl (lv_at hl 0 rfl) ?_
      refine lv_iconst (v := 1) hx hb dJ9_floorDiv_7cf53_18 (by decide) ?_
      refine lv_isub hx hb dJ9_floorDiv_7cf53_19 ?_
      exact r_iret X hr hW (by cases hf; exact ⟨rfl, rfl⟩) (by decide) (by decide) dJ9_floorDiv_7cf53_20

def f_J9_floorMod_7cf53 (mu : Mem) (x0 : Int32) (x1 : Int32) : Option (Int32) := if x1 = 0 then none else if 0 ≤ (x0 ^^^ x1) then (some (x0 - x0 / x1 * x1)) else (if (x0 - x0 / x1 * x1) = 0 then (some (x0 - x0 / x1 * x1)) else (some ((x0 - x0 / x1 * x1) + x1)))
set_option maxHeartbeats 4000000 in
set_option maxRecDepth 100000 in
theorem k_J9_floorMod_7cf53 (l : Launch) (hsl : l.stackTraces = false) (G : GG) (A : Nat → Prop) (mu : Mem) (x0 : Int32) (x1 : Int32) (r : Int32) (hf : f_J9_floorMod_7cf53 mu x0 x1 = some r) : Ok l yJ9_floorMod_7cf53 wsJ9_floorMod_7cf53 ({ frames := 6, cells := 0, slots := 0, locals := 110 } : Room) [.int x0, .int x1] G A mu (dP (.inr (rI r)) mu) := by
  refine Ok.startF (cc := cJ9_floorMod_7cf53) (maxL := 3) (ret := (some .int)) rfl (by decide +kernel) hsl (by first | exact Nat.le_of_ble_eq_true rfl | simp [lg_sl, cat_rf, Value.category]) ?_
  intro p e s m args below meth c ls X hr hname hW hl
  have X : BX p l s m args meth c cJ9_floorMod_7cf53 3 RJ9 wsJ9_floorMod_7cf53 G A := X
  have hx := X.1
  have hb := X.2.1
  have hts := X.2.2.2.2.1
  have hl : lv_has ls 3 [(0, .int x0), (1, .int x1)] := hl
  unfold f_J9_floorMod_7cf53 at hf
  refine lv_iload_n hx hb dJ9_floorMod_7cf53_0 rfl (lv_at hl 0 rfl) ?_
  refine lv_iload_n hx hb dJ9_floorMod_7cf53_1 rfl (lv_at hl 1 rfl) ?_
  replace hf := itz hf
  obtain ⟨h1, hf⟩ := hf
  refine lv_irem hx hb dJ9_floorMod_7cf53_2 h1 ?_
  refine lv_istore_n (lv' := [(2, .int (x0 - x0 / x1 * x1)), (0, .int x0), (1, .int x1)]) hx hb dJ9_floorMod_7cf53_3 rfl hl (by decide) rfl (fun ls hl => ?_)
  refine lv_iload_n hx hb dJ9_floorMod_7cf53_4 rfl (lv_at hl 1 rfl) ?_
  refine lv_iload_n hx hb dJ9_floorMod_7cf53_5 rfl (lv_at hl 2 rfl) ?_
  refine lv_ixor hx hb dJ9_floorMod_7cf53_6 ?_
  refine lv_if_ge (tgt := 18) hx hb dJ9_floorMod_7cf53_7 (by decide) (fun hc => ?_) (fun hc => ?_)
  · replace hf := itp hc hf
    refine lv_iload_n hx hb dJ9_floorMod_7cf53_18 rfl (lv_at hl 0 rfl) ?_
    exact r_iret X hr hW (by cases hf; exact ⟨rfl, rfl⟩) (by decide) (by decide) dJ9_floorMod_7cf53_19
  · replace hf := itn hc hf
    refine lv_iload_n hx hb dJ9_floorMod_7cf53_10 rfl (lv_at hl 0 rfl) ?_
    refine lv_if_eq (tgt := 18) hx hb dJ9_floorMod_7cf53_11 (by decide) (fun hc => ?_) (fun hc => ?_)
    · replace hf := itp hc hf
      refine lv_iload_n hx hb dJ9_floorMod_7cf53_18 rfl (lv_at hl 0 rfl) ?_
      exact r_iret X hr hW (by cases hf; exact ⟨rfl, rfl⟩) (by decide) (by decide) dJ9_floorMod_7cf53_19
    · replace hf := itn hc hf
      refine lv_iload_n hx hb dJ9_floorMod_7cf53_14 rfl (lv_at hl 0 rfl) ?_
      refine lv_iload_n hx hb dJ9_floorMod_7cf53_15 rfl (lv_at hl 2 rfl) ?_
      refine lv_iadd hx hb dJ9_floorMod_7cf53_16 ?_
      exact r_iret X hr hW (by cases hf; exact ⟨rfl, rfl⟩) (by decide) (by decide) dJ9_floorMod_7cf53_17

