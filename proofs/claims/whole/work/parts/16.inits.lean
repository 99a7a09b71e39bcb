set_option maxHeartbeats 1000000 in
set_option maxRecDepth 100000 in
theorem k_X1_init (l : Launch) (hsl : l.stackTraces = false) (G : GG) (A : Nat → Prop) (mu : Mem) (x0 : Nat) (hok : ok9 mu 3 x0) : Ok l yX1_init wsX1_init ({ frames := 6, cells := 9, slots := 135, locals := 110 } : Room) [.ref x0] G A mu (fun r9 m9 => r9 = .inr none ∧ ∃ q0 q1 q2 q3 q4 q5 q6 q7 q8 : Nat, IA m9 3 x0 [(8, q8, 18, 15), (7, q7, 17, 15), (6, q6, 16, 15), (5, q5, 15, 15), (4, q4, 14, 15), (3, q3, 13, 15), (2, q2, 12, 15), (1, q1, 11, 15), (0, q0, 10, 15)] ∧ NF x0 mu m9) := by
  refine Ok.start (cc := cX1_init) (maxL := 1) (ret := none) rfl (by decide +kernel) hsl (by first | exact Nat.le_of_ble_eq_true rfl | simp [lg_sl, cat_rf, Value.category]) ?_
  intro p e s m args below meth c ls X hr hname hW hl
  have X : BX p l s m args meth c cX1_init 1 RX1 wsX1_init G A := X
  have hx := X.1
  have hb := X.2.1
  have hts := X.2.2.2.2.1
  have hl : lv_has ls 1 [(0, .ref x0)] := hl
  have hinX1 : ∀ w ∈ wsX10, w ∈ wsX1_init := by decide +kernel
  have hO1 : (Cond.methodLink RX1 3 objectInit).before args s = true := hts _ (by decide +kernel)
  have hO2 : (Cond.instanceMethod objectInit).before args s = true := hts _ (by decide +kernel)
  have hO3 : (Cond.code objectInit ⟨#[0xb1]⟩ 1 none).before args s = true := hts _ (by decide +kernel)
  have hF11 : (Cond.fieldLink RX1 11 "PartcopyistBench$Blocks" "firstBars" "[I").before args s = true := hts _ (by decide +kernel)
  have hF15 : (Cond.fieldLink RX1 15 "PartcopyistBench$Blocks" "barCounts" "[I").before args s = true := hts _ (by decide +kernel)
  have hF18 : (Cond.fieldLink RX1 18 "PartcopyistBench$Blocks" "places" "[I").before args s = true := hts _ (by decide +kernel)
  have hF21 : (Cond.fieldLink RX1 21 "PartcopyistBench$Blocks" "restAtStart" "[I").before args s = true := hts _ (by decide +kernel)
  have hF24 : (Cond.fieldLink RX1 24 "PartcopyistBench$Blocks" "restAtEnd" "[I").before args s = true := hts _ (by decide +kernel)
  have hF27 : (Cond.fieldLink RX1 27 "PartcopyistBench$Blocks" "isRest" "[Z").before args s = true := hts _ (by decide +kernel)
  have hF31 : (Cond.fieldLink RX1 31 "PartcopyistBench$Blocks" "hardFrom" "[I").before args s = true := hts _ (by decide +kernel)
  have hF34 : (Cond.fieldLink RX1 34 "PartcopyistBench$Blocks" "pagesFrom" "[I").before args s = true := hts _ (by decide +kernel)
  have hF37 : (Cond.fieldLink RX1 37 "PartcopyistBench$Blocks" "nextPageFrom" "[I").before args s = true := hts _ (by decide +kernel)
  have hF40 : (Cond.fieldLink RX1 40 "PartcopyistBench$Blocks" "count" "I").before args s = true := hts _ (by decide +kernel)
  have hF44 : (Cond.fieldLink RX1 44 "PartcopyistBench$Blocks" "pagePlaces" "I").before args s = true := hts _ (by decide +kernel)
  have hF47 : (Cond.fieldLink RX1 47 "PartcopyistBench$Blocks" "turnTicks" "I").before args s = true := hts _ (by decide +kernel)
  have hI : IA mu 3 x0 [] := ⟨hok, fun _ h => nomatch h⟩
  have hN := NF.rfl9 x0 mu
  have hB : IB mu 3 x0 [] := fun _ h => nomatch h
  refine lv_aload_n hx hb dX1_init_0 rfl (lv_at hl 0 rfl) ?_
  refine W.objInit hx hb X.2.2.2.1 hO1 hO2 hO3 rfl (X.2.2.1.trans hl.1.symm).symm rfl dX1_init_1 (Nat.le_of_ble_eq_true rfl) (Nat.le_of_ble_eq_true rfl) ?_
  refine W.eq (g2 := F0 m 4 ls []) rfl ?_
  refine lv_aload_n hx hb dX1_init_4 rfl (lv_at hl 0 rfl) ?_
  refine lv_bipush (v := 15) hx hb dX1_init_5 (by decide) ?_
  refine r_newa (kd := 10) (N' := 15) hx hb X.2.2.2.2.2.1.1 X.2.2.2.2.2.2.2.2.2 hW (hts _ (by decide +kernel)) (by decide) (by first | exact Or.inl ⟨rfl, rfl⟩ | exact Or.inr (Or.inl ⟨rfl, rfl⟩)) (by decide) (by decide) (by decide) (by decide) dX1_init_7 (fun q0 H hq0 hW => ?_)
  replace hN := hN.new (k := 10) (n := 15) hq0
  replace hB := hB.new (k := 10) (n := 15) hI.1.1 hq0
  replace hI := hI.new (k := 10) (n := 15) hq0
  refine p_3_0 X hname rfl hW hinX1 hF11 (v := some q0) (putQ_ok hI.1) dX1_init_9 (fun H locs hW => ?_)
  replace hI := hI.setQ (k := 0) (by simp)
  replace hN := hN.setQ (c := 3) (k := 0) (v := some q0)
  replace hB := hB.setQ (c := 3) (k := 0) (a := x0) (v := some q0)
  refine lv_aload_n hx hb dX1_init_12 rfl (lv_at hl 0 rfl) ?_
  refine lv_bipush (v := 15) hx hb dX1_init_13 (by decide) ?_
  refine r_newa (kd := 11) (N' := 15) hx hb X.2.2.2.2.2.1.1 X.2.2.2.2.2.2.2.2.2 hW (hts _ (by decide +kernel)) (by decide) (by first | exact Or.inl ⟨rfl, rfl⟩ | exact Or.inr (Or.inl ⟨rfl, rfl⟩)) (by decide) (by decide) (by decide) (by decide) dX1_init_15 (fun q1 H hq1 hW => ?_)
  replace hN := hN.new (k := 11) (n := 15) hq1
  replace hB := hB.new (k := 11) (n := 15) hI.1.1 hq1
  replace hI := hI.new (k := 11) (n := 15) hq1
  refine p_3_1 X hname rfl hW hinX1 hF15 (v := some q1) (putQ_ok hI.1) dX1_init_17 (fun H locs hW => ?_)
  replace hI := hI.setQ (k := 1) (by simp)
  replace hN := hN.setQ (c := 3) (k := 1) (v := some q1)
  replace hB := hB.setQ (c := 3) (k := 1) (a := x0) (v := some q1)
  refine lv_aload_n hx hb dX1_init_20 rfl (lv_at hl 0 rfl) ?_
  refine lv_bipush (v := 15) hx hb dX1_init_21 (by decide) ?_
  refine r_newa (kd := 12) (N' := 15) hx hb X.2.2.2.2.2.1.1 X.2.2.2.2.2.2.2.2.2 hW (hts _ (by decide +kernel)) (by decide) (by first | exact Or.inl ⟨rfl, rfl⟩ | exact Or.inr (Or.inl ⟨rfl, rfl⟩)) (by decide) (by decide) (by decide) (by decide) dX1_init_23 (fun q2 H hq2 hW => ?_)
  replace hN := hN.new (k := 12) (n := 15) hq2
  replace hB := hB.new (k := 12) (n := 15) hI.1.1 hq2
  replace hI := hI.new (k := 12) (n := 15) hq2
  refine p_3_2 X hname rfl hW hinX1 hF18 (v := some q2) (putQ_ok hI.1) dX1_init_25 (fun H locs hW => ?_)
  replace hI := hI.setQ (k := 2) (by simp)
  replace hN := hN.setQ (c := 3) (k := 2) (v := some q2)
  replace hB := hB.setQ (c := 3) (k := 2) (a := x0) (v := some q2)
  refine lv_aload_n hx hb dX1_init_28 rfl (lv_at hl 0 rfl) ?_
  refine lv_bipush (v := 15) hx hb dX1_init_29 (by decide) ?_
  refine r_newa (kd := 13) (N' := 15) hx hb X.2.2.2.2.2.1.1 X.2.2.2.2.2.2.2.2.2 hW (hts _ (by decide +kernel)) (by decide) (by first | exact Or.inl ⟨rfl, rfl⟩ | exact Or.inr (Or.inl ⟨rfl, rfl⟩)) (by decide) (by decide) (by decide) (by decide) dX1_init_31 (fun q3 H hq3 hW => ?_)
  replace hN := hN.new (k := 13) (n := 15) hq3
  replace hB := hB.new (k := 13) (n := 15) hI.1.1 hq3
  replace hI := hI.new (k := 13) (n := 15) hq3
  refine p_3_3 X hname rfl hW hinX1 hF21 (v := some q3) (putQ_ok hI.1) dX1_init_33 (fun H locs hW => ?_)
  replace hI := hI.setQ (k := 3) (by simp)
  replace hN := hN.setQ (c := 3) (k := 3) (v := some q3)
  replace hB := hB.setQ (c := 3) (k := 3) (a := x0) (v := some q3)
  refine lv_aload_n hx hb dX1_init_36 rfl (lv_at hl 0 rfl) ?_
  refine lv_bipush (v := 15) hx hb dX1_init_37 (by decide) ?_
  refine r_newa (kd := 14) (N' := 15) hx hb X.2.2.2.2.2.1.1 X.2.2.2.2.2.2.2.2.2 hW (hts _ (by decide +kernel)) (by decide) (by first | exact Or.inl ⟨rfl, rfl⟩ | exact Or.inr (Or.inl ⟨rfl, rfl⟩)) (by decide) (by decide) (by decide) (by decide) dX1_init_39 (fun q4 H hq4 hW => ?_)
  replace hN := hN.new (k := 14) (n := 15) hq4
  replace hB := hB.new (k := 14) (n := 15) hI.1.1 hq4
  replace hI := hI.new (k := 14) (n := 15) hq4
  refine p_3_4 X hname rfl hW hinX1 hF24 (v := some q4) (putQ_ok hI.1) dX1_init_41 (fun H locs hW => ?_)
  replace hI := hI.setQ (k := 4) (by simp)
  replace hN := hN.setQ (c := 3) (k := 4) (v := some q4)
  replace hB := hB.setQ (c := 3) (k := 4) (a := x0) (v := some q4)
  refine lv_aload_n hx hb dX1_init_44 rfl (lv_at hl 0 rfl) ?_
  refine lv_bipush (v := 15) hx hb dX1_init_45 (by decide) ?_
  refine r_newa (kd := 15) (N' := 15) hx hb X.2.2.2.2.2.1.1 X.2.2.2.2.2.2.2.2.2 hW (hts _ (by decide +kernel)) (by decide) (by first | exact Or.inl ⟨rfl, rfl⟩ | exact Or.inr (Or.inl ⟨rfl, rfl⟩)) (by decide) (by decide) (by decide) (by decide) dX1_init_47 (fun q5 H hq5 hW => ?_)
  replace hN := hN.new (k := 15) (n := 15) hq5
  replace hB := hB.new (k := 15) (n := 15) hI.1.1 hq5
  replace hI := hI.new (k := 15) (n := 15) hq5
  refine p_3_5 X hname rfl hW hinX1 hF27 (v := some q5) (putQ_ok hI.1) dX1_init_49 (fun H locs hW => ?_)
  replace hI := hI.setQ (k := 5) (by simp)
  replace hN := hN.setQ (c := 3) (k := 5) (v := some q5)
  replace hB := hB.setQ (c := 3) (k := 5) (a := x0) (v := some q5)
  refine lv_aload_n hx hb dX1_init_52 rfl (lv_at hl 0 rfl) ?_
  refine lv_bipush (v := 15) hx hb dX1_init_53 (by decide) ?_
  refine r_newa (kd := 16) (N' := 15) hx hb X.2.2.2.2.2.1.1 X.2.2.2.2.2.2.2.2.2 hW (hts _ (by decide +kernel)) (by decide) (by first | exact Or.inl ⟨rfl, rfl⟩ | exact Or.inr (Or.inl ⟨rfl, rfl⟩)) (by decide) (by decide) (by decide) (by decide) dX1_init_55 (fun q6 H hq6 hW => ?_)
  replace hN := hN.new (k := 16) (n := 15) hq6
  replace hB := hB.new (k := 16) (n := 15) hI.1.1 hq6
  replace hI := hI.new (k := 16) (n := 15) hq6
  refine p_3_6 X hname rfl hW hinX1 hF31 (v := some q6) (putQ_ok hI.1) dX1_init_57 (fun H locs hW => ?_)
  replace hI := hI.setQ (k := 6) (by simp)
  replace hN := hN.setQ (c := 3) (k := 6) (v := some q6)
  replace hB := hB.setQ (c := 3) (k := 6) (a := x0) (v := some q6)
  refine lv_aload_n hx hb dX1_init_60 rfl (lv_at hl 0 rfl) ?_
  refine lv_bipush (v := 15) hx hb dX1_init_61 (by decide) ?_
  refine r_newa (kd := 17) (N' := 15) hx hb X.2.2.2.2.2.1.1 X.2.2.2.2.2.2.2.2.2 hW (hts _ (by decide +kernel)) (by decide) (by first | exact Or.inl ⟨rfl, rfl⟩ | exact Or.inr (Or.inl ⟨rfl, rfl⟩)) (by decide) (by decide) (by decide) (by decide) dX1_init_63 (fun q7 H hq7 hW => ?_)
  replace hN := hN.new (k := 17) (n := 15) hq7
  replace hB := hB.new (k := 17) (n := 15) hI.1.1 hq7
  replace hI := hI.new (k := 17) (n := 15) hq7
  refine p_3_7 X hname rfl hW hinX1 hF34 (v := some q7) (putQ_ok hI.1) dX1_init_65 (fun H locs hW => ?_)
  replace hI := hI.setQ (k := 7) (by simp)
  replace hN := hN.setQ (c := 3) (k := 7) (v := some q7)
  replace hB := hB.setQ (c := 3) (k := 7) (a := x0) (v := some q7)
  refine lv_aload_n hx hb dX1_init_68 rfl (lv_at hl 0 rfl) ?_
  refine lv_bipush (v := 15) hx hb dX1_init_69 (by decide) ?_
  refine r_newa (kd := 18) (N' := 15) hx hb X.2.2.2.2.2.1.1 X.2.2.2.2.2.2.2.2.2 hW (hts _ (by decide +kernel)) (by decide) (by first | exact Or.inl ⟨rfl, rfl⟩ | exact Or.inr (Or.inl ⟨rfl, rfl⟩)) (by decide) (by decide) (by decide) (by decide) dX1_init_71 (fun q8 H hq8 hW => ?_)
  replace hN := hN.new (k := 18) (n := 15) hq8
  replace hB := hB.new (k := 18) (n := 15) hI.1.1 hq8
  replace hI := hI.new (k := 18) (n := 15) hq8
  refine p_3_8 X hname rfl hW hinX1 hF37 (v := some q8) (putQ_ok hI.1) dX1_init_73 (fun H locs hW => ?_)
  replace hI := hI.setQ (k := 8) (by simp)
  replace hN := hN.setQ (c := 3) (k := 8) (v := some q8)
  replace hB := hB.setQ (c := 3) (k := 8) (a := x0) (v := some q8)
  refine lv_aload_n hx hb dX1_init_76 rfl (lv_at hl 0 rfl) ?_
  refine lv_iconst (v := 0) hx hb dX1_init_77 (by decide) ?_
  refine p_3_9 X hW hinX1 hF40 (v := 0) (putI_ok hI.1) dX1_init_78 (fun H locs hW => ?_)
  replace hB := hB.setI (k := 9) (v := 0) (by simp)
  replace hI := hI.setI (c := 3) (k := 9) (a := x0) (v := 0)
  replace hN := hN.setI (c := 3) (k := 9) (v := 0)
  refine lv_aload_n hx hb dX1_init_81 rfl (lv_at hl 0 rfl) ?_
  refine lv_iconst (v := 0) hx hb dX1_init_82 (by decide) ?_
  refine p_3_10 X hW hinX1 hF44 (v := 0) (putI_ok hI.1) dX1_init_83 (fun H locs hW => ?_)
  replace hB := hB.setI (k := 10) (v := 0) (by simp)
  replace hI := hI.setI (c := 3) (k := 10) (a := x0) (v := 0)
  replace hN := hN.setI (c := 3) (k := 10) (v := 0)
  refine lv_aload_n hx hb dX1_init_86 rfl (lv_at hl 0 rfl) ?_
  refine lv_iconst (v := 0) hx hb dX1_init_87 (by decide) ?_
  refine p_3_11 X hW hinX1 hF47 (v := 0) (putI_ok hI.1) dX1_init_88 (fun H locs hW => ?_)
  replace hB := hB.setI (k := 11) (v := 0) (by simp)
  replace hI := hI.setI (c := 3) (k := 11) (a := x0) (v := 0)
  replace hN := hN.setI (c := 3) (k := 11) (v := 0)
  exact r_vret X hr hW ⟨rfl, q0, q1, q2, q3, q4, q5, q6, q7, q8, hI, hN⟩ (by decide) (by decide) dX1_init_91

set_option maxHeartbeats 1000000 in
set_option maxRecDepth 100000 in
theorem k_X4_init (l : Launch) (hsl : l.stackTraces = false) (G : GG) (A : Nat → Prop) (mu : Mem) (x0 : Nat) (hok : ok9 mu 6 x0) : Ok l yX4_init wsX4_init ({ frames := 8, cells := 13, slots := 286, locals := 150 } : Room) [.ref x0] G A mu (fun r9 m9 => r9 = .inr none ∧ ∃ q0 q1 q2 qb w0 w1 w2 w3 w4 w5 w6 w7 w8 : Nat, mQ m9 6 3 x0 = some qb ∧ IA m9 6 x0 [(2, q2, 22, 120), (1, q1, 21, 14), (0, q0, 20, 5)] ∧ IA m9 3 qb [(8, w8, 18, 15), (7, w7, 17, 15), (6, w6, 16, 15), (5, w5, 15, 15), (4, w4, 14, 15), (3, w3, 13, 15), (2, w2, 12, 15), (1, w1, 11, 15), (0, w0, 10, 15)] ∧ IB m9 6 x0 [(9, 2), (8, 4), (7, 12), (6, 0), (5, 0), (4, 0)] ∧ NF x0 mu m9) := by
  refine Ok.start (cc := cX4_init) (maxL := 1) (ret := none) rfl (by decide +kernel) hsl (by first | exact Nat.le_of_ble_eq_true rfl | simp [lg_sl, cat_rf, Value.category]) ?_
  intro p e s m args below meth c ls X hr hname hW hl
  have X : BX p l s m args meth c cX4_init 1 RX4 wsX4_init G A := X
  have hx := X.1
  have hb := X.2.1
  have hts := X.2.2.2.2.1
  have hl : lv_has ls 1 [(0, .ref x0)] := hl
  have hinX1 : ∀ w ∈ wsX10, w ∈ wsX4_init := by decide +kernel
  have hinX4 : ∀ w ∈ wsX40, w ∈ wsX4_init := by decide +kernel
  have hO1 : (Cond.methodLink RX4 1 objectInit).before args s = true := hts _ (by decide +kernel)
  have hO2 : (Cond.instanceMethod objectInit).before args s = true := hts _ (by decide +kernel)
  have hO3 : (Cond.code objectInit ⟨#[0xb1]⟩ 1 none).before args s = true := hts _ (by decide +kernel)
  have hF11 : (Cond.fieldLink RX4 11 "PartcopyistBench" "parts" "[LPartcopyistBench$Part;").before args s = true := hts _ (by decide +kernel)
  have hF17 : (Cond.fieldLink RX4 17 "PartcopyistBench" "bars" "[LPartcopyistBench$Bar;").before args s = true := hts _ (by decide +kernel)
  have hF23 : (Cond.fieldLink RX4 23 "PartcopyistBench" "notes" "[LPartcopyistBench$Note;").before args s = true := hts _ (by decide +kernel)
  have hF30 : (Cond.fieldLink RX4 30 "PartcopyistBench" "blocks" "LPartcopyistBench$Blocks;").before args s = true := hts _ (by decide +kernel)
  have hF34 : (Cond.fieldLink RX4 34 "PartcopyistBench" "partCount" "I").before args s = true := hts _ (by decide +kernel)
  have hF38 : (Cond.fieldLink RX4 38 "PartcopyistBench" "barCount" "I").before args s = true := hts _ (by decide +kernel)
  have hF41 : (Cond.fieldLink RX4 41 "PartcopyistBench" "noteCount" "I").before args s = true := hts _ (by decide +kernel)
  have hF44 : (Cond.fieldLink RX4 44 "PartcopyistBench" "pagePlaces" "I").before args s = true := hts _ (by decide +kernel)
  have hF47 : (Cond.fieldLink RX4 47 "PartcopyistBench" "turnTicks" "I").before args s = true := hts _ (by decide +kernel)
  have hF50 : (Cond.fieldLink RX4 50 "PartcopyistBench" "cueBars" "I").before args s = true := hts _ (by decide +kernel)
  have hI : IA mu 6 x0 [] := ⟨hok, fun _ h => nomatch h⟩
  have hN := NF.rfl9 x0 mu
  have hB : IB mu 6 x0 [] := fun _ h => nomatch h
  refine lv_aload_n hx hb dX4_init_0 rfl (lv_at hl 0 rfl) ?_
  refine W.objInit hx hb X.2.2.2.1 hO1 hO2 hO3 rfl (X.2.2.1.trans hl.1.symm).symm rfl dX4_init_1 (Nat.le_of_ble_eq_true rfl) (Nat.le_of_ble_eq_true rfl) ?_
  refine W.eq (g2 := F0 m 4 ls []) rfl ?_
  refine lv_aload_n hx hb dX4_init_4 rfl (lv_at hl 0 rfl) ?_
  refine lv_iconst (v := 5) hx hb dX4_init_5 (by decide) ?_
  refine r_newq (C := "PartcopyistBench$Part") (kd := 20) (t := 2) (N' := 5) X hW (hts _ (by decide +kernel)) X.2.2.2.2.2.1.2.2.2.2.2.2.2.2.1 (by decide) rfl (by decide) rfl (by decide) (by decide) (by decide) (by decide) dX4_init_6 (fun q0 H hq0 hW => ?_)
  replace hN := hN.new (k := 20) (n := 5) hq0
  replace hB := hB.new (k := 20) (n := 5) hI.1.1 hq0
  replace hI := hI.new (k := 20) (n := 5) hq0
  refine p_6_0 X hname rfl hW hinX4 hF11 (v := some q0) (putQ_ok hI.1) dX4_init_9 (fun H locs hW => ?_)
  replace hI := hI.setQ (k := 0) (by simp)
  replace hN := hN.setQ (c := 6) (k := 0) (v := some q0)
  replace hB := hB.setQ (c := 6) (k := 0) (a := x0) (v := some q0)
  refine lv_aload_n hx hb dX4_init_12 rfl (lv_at hl 0 rfl) ?_
  refine lv_bipush (v := 14) hx hb dX4_init_13 (by decide) ?_
  refine r_newq (C := "PartcopyistBench$Bar") (kd := 21) (t := 3) (N' := 14) X hW (hts _ (by decide +kernel)) X.2.2.2.2.2.1.2.2.2.2.2.2.2.2.2.1 (by decide) rfl (by decide) rfl (by decide) (by decide) (by decide) (by decide) dX4_init_15 (fun q1 H hq1 hW => ?_)
  replace hN := hN.new (k := 21) (n := 14) hq1
  replace hB := hB.new (k := 21) (n := 14) hI.1.1 hq1
  replace hI := hI.new (k := 21) (n := 14) hq1
  refine p_6_1 X hname rfl hW hinX4 hF17 (v := some q1) (putQ_ok hI.1) dX4_init_18 (fun H locs hW => ?_)
  replace hI := hI.setQ (k := 1) (by simp)
  replace hN := hN.setQ (c := 6) (k := 1) (v := some q1)
  replace hB := hB.setQ (c := 6) (k := 1) (a := x0) (v := some q1)
  refine lv_aload_n hx hb dX4_init_21 rfl (lv_at hl 0 rfl) ?_
  refine lv_bipush (v := 120) hx hb dX4_init_22 (by decide) ?_
  refine r_newq (C := "PartcopyistBench$Note") (kd := 22) (t := 4) (N' := 120) X hW (hts _ (by decide +kernel)) X.2.2.2.2.2.1.2.2.2.2.2.2.2.2.2.2.1 (by decide) rfl (by decide) rfl (by decide) (by decide) (by decide) (by decide) dX4_init_24 (fun q2 H hq2 hW => ?_)
  replace hN := hN.new (k := 22) (n := 120) hq2
  replace hB := hB.new (k := 22) (n := 120) hI.1.1 hq2
  replace hI := hI.new (k := 22) (n := 120) hq2
  refine p_6_2 X hname rfl hW hinX4 hF23 (v := some q2) (putQ_ok hI.1) dX4_init_27 (fun H locs hW => ?_)
  replace hI := hI.setQ (k := 2) (by simp)
  replace hN := hN.setQ (c := 6) (k := 2) (v := some q2)
  replace hB := hB.setQ (c := 6) (k := 2) (a := x0) (v := some q2)
  refine lv_aload_n hx hb dX4_init_30 rfl (lv_at hl 0 rfl) ?_
  refine r_new (ci := 3) (C := RX1) (T := TX1) (N := 12) X hW rfl (by decide) hinX1 tyX1 tyX1_ok (hts _ (by decide +kernel)) (hts _ (by decide +kernel)) (hts _ (by decide +kernel)) (by decide) (by decide) dX4_init_31 (fun qb H hqb hW => ?_)
  have hokb : ok9 (sNew (sQ (sNew (sQ (sNew (sQ (sNew mu q0 20 5) 6 0 x0 (some q0)) q1 21 14) 6 1 x0 (some q1)) q2 22 120) 6 2 x0 (some q2)) qb 3 0) 3 qb := ok_new
  have hxb : x0 ≠ qb := fun e => hqb (e ▸ hI.1.1)
  have hqb0 : qb ∉ mL mu := fun h => hqb (hN qb h).1
  replace hN := hN.new (k := 3) (n := 0) hqb
  replace hB := hB.new (k := 3) (n := 0) hI.1.1 hqb
  replace hI := hI.new (k := 3) (n := 0) hqb
  refine lv_dup hx hb dX4_init_34 rfl ?_
  refine r_callIN (P9 := _) X hW hl.1 (k_X1_init l hsl G A _ qb hokb) gX4_init_X1_init_n29 rfl X.2.2.2.2.2.1.2.2.2.2.2.2.1 (hts _ (by decide +kernel)) (hts _ (by decide +kernel)) rfl (by decide +kernel) (n := 0) rfl (by decide) (Nat.le_of_ble_eq_true rfl) dX4_init_35 (fun e9 m9 h9 => absurd h9.1 (by intro z; cases z)) rfl (fun v9 m9 H locs h9 hW => ?_)
  obtain ⟨hv9, w0, w1, w2, w3, w4, w5, w6, w7, w8, hIb, hNb⟩ := h9
  cases hv9
  refine W.eq (g2 := F0 m 38 ls [.ref qb, .ref x0]) rfl ?_
  replace hB := hB.nf hI.1.1 hNb hxb
  replace hI := hI.nf hNb hxb
  replace hN := hN.call hNb hqb0
  refine p_6_3 X hname rfl hW hinX4 hF30 (v := some qb) (putQ_ok hI.1) dX4_init_38 (fun H locs hW => ?_)
  have hIb : IA (sQ m9 6 3 x0 (some qb)) 3 qb _ := ⟨hIb.1, fun z hz => ⟨(show mQ (sQ m9 6 3 x0 (some qb)) 3 z.1 qb = mQ m9 3 z.1 qb from up3_ne (c := 6) (k := 3) (a := x0) (c' := 3) (k' := z.1) (a' := qb) (mQ m9) (some qb) (fun e => hxb e.2.2.symm)).trans (hIb.2 z hz).1, (hIb.2 z hz).2⟩⟩
  have hqx : mQ (sQ m9 6 3 x0 (some qb)) 6 3 x0 = some qb := up3_hit _ _ _ _ _
  replace hI : IA (sQ m9 6 3 x0 (some qb)) 6 x0 [(2, q2, 22, 120), (1, q1, 21, 14), (0, q0, 20, 5)] := ⟨hI.1, fun z hz => ⟨(up3_ne _ _ (fun e => absurd e.2.1 (by revert z hz; simp))).trans (hI.2 z hz).1, (hI.2 z hz).2⟩⟩
  replace hN := hN.setQ (c := 6) (k := 3) (v := some qb)
  refine lv_aload_n hx hb dX4_init_41 rfl (lv_at hl 0 rfl) ?_
  refine lv_iconst (v := 0) hx hb dX4_init_42 (by decide) ?_
  refine p_6_4 X hW hinX4 hF34 (v := 0) (putI_ok hI.1) dX4_init_43 (fun H locs hW => ?_)
  replace hB := hB.setI (k := 4) (v := 0) (by simp)
  replace hI := hI.setI (c := 6) (k := 4) (a := x0) (v := 0)
  replace hN := hN.setI (c := 6) (k := 4) (v := 0)
  replace hIb := hIb.setI (c := 6) (k := 4) (a := x0) (v := 0)
  refine lv_aload_n hx hb dX4_init_46 rfl (lv_at hl 0 rfl) ?_
  refine lv_iconst (v := 0) hx hb dX4_init_47 (by decide) ?_
  refine p_6_5 X hW hinX4 hF38 (v := 0) (putI_ok hI.1) dX4_init_48 (fun H locs hW => ?_)
  replace hB := hB.setI (k := 5) (v := 0) (by simp)
  replace hI := hI.setI (c := 6) (k := 5) (a := x0) (v := 0)
  replace hN := hN.setI (c := 6) (k := 5) (v := 0)
  replace hIb := hIb.setI (c := 6) (k := 5) (a := x0) (v := 0)
  refine lv_aload_n hx hb dX4_init_51 rfl (lv_at hl 0 rfl) ?_
  refine lv_iconst (v := 0) hx hb dX4_init_52 (by decide) ?_
  refine p_6_6 X hW hinX4 hF41 (v := 0) (putI_ok hI.1) dX4_init_53 (fun H locs hW => ?_)
  replace hB := hB.setI (k := 6) (v := 0) (by simp)
  replace hI := hI.setI (c := 6) (k := 6) (a := x0) (v := 0)
  replace hN := hN.setI (c := 6) (k := 6) (v := 0)
  replace hIb := hIb.setI (c := 6) (k := 6) (a := x0) (v := 0)
  refine lv_aload_n hx hb dX4_init_56 rfl (lv_at hl 0 rfl) ?_
  refine lv_bipush (v := 12) hx hb dX4_init_57 (by decide) ?_
  refine p_6_7 X hW hinX4 hF44 (v := 12) (putI_ok hI.1) dX4_init_59 (fun H locs hW => ?_)
  replace hB := hB.setI (k := 7) (v := 12) (by simp)
  replace hI := hI.setI (c := 6) (k := 7) (a := x0) (v := 12)
  replace hN := hN.setI (c := 6) (k := 7) (v := 12)
  replace hIb := hIb.setI (c := 6) (k := 7) (a := x0) (v := 12)
  refine lv_aload_n hx hb dX4_init_62 rfl (lv_at hl 0 rfl) ?_
  refine lv_iconst (v := 4) hx hb dX4_init_63 (by decide) ?_
  refine p_6_8 X hW hinX4 hF47 (v := 4) (putI_ok hI.1) dX4_init_64 (fun H locs hW => ?_)
  replace hB := hB.setI (k := 8) (v := 4) (by simp)
  replace hI := hI.setI (c := 6) (k := 8) (a := x0) (v := 4)
  replace hN := hN.setI (c := 6) (k := 8) (v := 4)
  replace hIb := hIb.setI (c := 6) (k := 8) (a := x0) (v := 4)
  refine lv_aload_n hx hb dX4_init_67 rfl (lv_at hl 0 rfl) ?_
  refine lv_iconst (v := 2) hx hb dX4_init_68 (by decide) ?_
  refine p_6_9 X hW hinX4 hF50 (v := 2) (putI_ok hI.1) dX4_init_69 (fun H locs hW => ?_)
  replace hB := hB.setI (k := 9) (v := 2) (by simp)
  replace hI := hI.setI (c := 6) (k := 9) (a := x0) (v := 2)
  replace hN := hN.setI (c := 6) (k := 9) (v := 2)
  replace hIb := hIb.setI (c := 6) (k := 9) (a := x0) (v := 2)
  exact r_vret X hr hW ⟨rfl, q0, q1, q2, qb, w0, w1, w2, w3, w4, w5, w6, w7, w8, hqx, hI, hIb, hB, hN⟩ (by decide) (by decide) dX4_init_72

set_option maxHeartbeats 1000000 in
set_option maxRecDepth 100000 in
theorem k_X5_init (l : Launch) (hsl : l.stackTraces = false) (G : GG) (A : Nat → Prop) (mu : Mem) (x0 : Nat) (hok : ok9 mu 7 x0) (hB : IB mu 7 x0 [(0, 0), (15, 0), (16, 0), (17, 0), (23, 0)]) : Ok l yX5_init wsX5_init ({ frames := 6, cells := 19, slots := 1205, locals := 110 } : Room) [.ref x0] G A mu (fun r9 m9 => r9 = .inr none ∧ ∃ q1 q2 q3 q4 q5 q6 q7 q8 q9 q10 q11 q12 q13 q14 q21 q22 q24 q25 q26 : Nat, IA m9 7 x0 [(26, q26, 48, 15), (25, q25, 47, 15), (24, q24, 46, 15), (22, q22, 45, 14), (21, q21, 44, 14), (14, q14, 43, 5), (13, q13, 42, 120), (12, q12, 41, 14), (11, q11, 40, 120), (10, q10, 39, 120), (9, q9, 38, 120), (8, q8, 37, 120), (7, q7, 36, 120), (6, q6, 35, 120), (5, q5, 34, 120), (4, q4, 33, 120), (3, q3, 32, 14), (2, q2, 31, 14), (1, q1, 30, 5)] ∧ IB m9 7 x0 [(20, 2), (19, 4), (18, 12), (0, 0), (15, 0), (16, 0), (17, 0), (23, 0)] ∧ NF x0 mu m9) := by
  refine Ok.start (cc := cX5_init) (maxL := 1) (ret := none) rfl (by decide +kernel) hsl (by first | exact Nat.le_of_ble_eq_true rfl | simp [lg_sl, cat_rf, Value.category]) ?_
  intro p e s m args below meth c ls X hr hname hW hl
  have X : BX p l s m args meth c cX5_init 1 RX5 wsX5_init G A := X
  have hx := X.1
  have hb := X.2.1
  have hts := X.2.2.2.2.1
  have hl : lv_has ls 1 [(0, .ref x0)] := hl
  have hinX5 : ∀ w ∈ wsX50, w ∈ wsX5_init := by decide +kernel
  have hO1 : (Cond.methodLink RX5 1 objectInit).before args s = true := hts _ (by decide +kernel)
  have hO2 : (Cond.instanceMethod objectInit).before args s = true := hts _ (by decide +kernel)
  have hO3 : (Cond.code objectInit ⟨#[0xb1]⟩ 1 none).before args s = true := hts _ (by decide +kernel)
  have hF13 : (Cond.fieldLink RX5 13 "PartcopyistBenchModel" "beats" "[I").before args s = true := hts _ (by decide +kernel)
  have hF16 : (Cond.fieldLink RX5 16 "PartcopyistBenchModel" "keys" "[I").before args s = true := hts _ (by decide +kernel)
  have hF19 : (Cond.fieldLink RX5 19 "PartcopyistBenchModel" "partOf" "[I").before args s = true := hts _ (by decide +kernel)
  have hF22 : (Cond.fieldLink RX5 22 "PartcopyistBenchModel" "barOf" "[I").before args s = true := hts _ (by decide +kernel)
  have hF25 : (Cond.fieldLink RX5 25 "PartcopyistBenchModel" "voices" "[I").before args s = true := hts _ (by decide +kernel)
  have hF28 : (Cond.fieldLink RX5 28 "PartcopyistBenchModel" "firsts" "[I").before args s = true := hts _ (by decide +kernel)
  have hF31 : (Cond.fieldLink RX5 31 "PartcopyistBenchModel" "lengths" "[I").before args s = true := hts _ (by decide +kernel)
  have hF34 : (Cond.fieldLink RX5 34 "PartcopyistBenchModel" "pitches" "[I").before args s = true := hts _ (by decide +kernel)
  have hF37 : (Cond.fieldLink RX5 37 "PartcopyistBenchModel" "copyLengths" "[I").before args s = true := hts _ (by decide +kernel)
  have hF40 : (Cond.fieldLink RX5 40 "PartcopyistBenchModel" "copyPitches" "[I").before args s = true := hts _ (by decide +kernel)
  have hF43 : (Cond.fieldLink RX5 43 "PartcopyistBenchModel" "marks" "[Z").before args s = true := hts _ (by decide +kernel)
  have hF47 : (Cond.fieldLink RX5 47 "PartcopyistBenchModel" "isOut" "[Z").before args s = true := hts _ (by decide +kernel)
  have hF50 : (Cond.fieldLink RX5 50 "PartcopyistBenchModel" "isCopied" "[Z").before args s = true := hts _ (by decide +kernel)
  have hF53 : (Cond.fieldLink RX5 53 "PartcopyistBenchModel" "page" "I").before args s = true := hts _ (by decide +kernel)
  have hF57 : (Cond.fieldLink RX5 57 "PartcopyistBenchModel" "turn" "I").before args s = true := hts _ (by decide +kernel)
  have hF60 : (Cond.fieldLink RX5 60 "PartcopyistBenchModel" "cue" "I").before args s = true := hts _ (by decide +kernel)
  have hF63 : (Cond.fieldLink RX5 63 "PartcopyistBenchModel" "blockFirst" "[I").before args s = true := hts _ (by decide +kernel)
  have hF66 : (Cond.fieldLink RX5 66 "PartcopyistBenchModel" "blockRest" "[I").before args s = true := hts _ (by decide +kernel)
  have hF69 : (Cond.fieldLink RX5 69 "PartcopyistBenchModel" "hard" "[I").before args s = true := hts _ (by decide +kernel)
  have hF72 : (Cond.fieldLink RX5 72 "PartcopyistBenchModel" "pageMany" "[I").before args s = true := hts _ (by decide +kernel)
  have hF75 : (Cond.fieldLink RX5 75 "PartcopyistBenchModel" "take" "[I").before args s = true := hts _ (by decide +kernel)
  have hF9 : (Cond.fieldLink RX5 9 "PartcopyistBenchModel" "shifts" "[I").before args s = true := hts _ (by decide +kernel)
  have hI : IA mu 7 x0 [] := ⟨hok, fun _ h => nomatch h⟩
  have hN := NF.rfl9 x0 mu
  refine lv_aload_n hx hb dX5_init_0 rfl (lv_at hl 0 rfl) ?_
  refine W.objInit hx hb X.2.2.2.1 hO1 hO2 hO3 rfl (X.2.2.1.trans hl.1.symm).symm rfl dX5_init_1 (Nat.le_of_ble_eq_true rfl) (Nat.le_of_ble_eq_true rfl) ?_
  refine W.eq (g2 := F0 m 4 ls []) rfl ?_
  refine lv_aload_n hx hb dX5_init_4 rfl (lv_at hl 0 rfl) ?_
  refine lv_iconst (v := 5) hx hb dX5_init_5 (by decide) ?_
  refine r_newa (kd := 30) (N' := 5) hx hb X.2.2.2.2.2.1.1 X.2.2.2.2.2.2.2.2.2 hW (hts _ (by decide +kernel)) (by decide) (by first | exact Or.inl ⟨rfl, rfl⟩ | exact Or.inr (Or.inl ⟨rfl, rfl⟩)) (by decide) (by decide) (by decide) (by decide) dX5_init_6 (fun q1 H hq1 hW => ?_)
  replace hN := hN.new (k := 30) (n := 5) hq1
  replace hB := hB.new (k := 30) (n := 5) hI.1.1 hq1
  replace hI := hI.new (k := 30) (n := 5) hq1
  refine p_7_1 X hname rfl hW hinX5 hF9 (v := some q1) (putQ_ok hI.1) dX5_init_8 (fun H locs hW => ?_)
  replace hI := hI.setQ (k := 1) (by simp)
  replace hN := hN.setQ (c := 7) (k := 1) (v := some q1)
  replace hB := hB.setQ (c := 7) (k := 1) (a := x0) (v := some q1)
  refine lv_aload_n hx hb dX5_init_11 rfl (lv_at hl 0 rfl) ?_
  refine lv_bipush (v := 14) hx hb dX5_init_12 (by decide) ?_
  refine r_newa (kd := 31) (N' := 14) hx hb X.2.2.2.2.2.1.1 X.2.2.2.2.2.2.2.2.2 hW (hts _ (by decide +kernel)) (by decide) (by first | exact Or.inl ⟨rfl, rfl⟩ | exact Or.inr (Or.inl ⟨rfl, rfl⟩)) (by decide) (by decide) (by decide) (by decide) dX5_init_14 (fun q2 H hq2 hW => ?_)
  replace hN := hN.new (k := 31) (n := 14) hq2
  replace hB := hB.new (k := 31) (n := 14) hI.1.1 hq2
  replace hI := hI.new (k := 31) (n := 14) hq2
  refine p_7_2 X hname rfl hW hinX5 hF13 (v := some q2) (putQ_ok hI.1) dX5_init_16 (fun H locs hW => ?_)
  replace hI := hI.setQ (k := 2) (by simp)
  replace hN := hN.setQ (c := 7) (k := 2) (v := some q2)
  replace hB := hB.setQ (c := 7) (k := 2) (a := x0) (v := some q2)
  refine lv_aload_n hx hb dX5_init_19 rfl (lv_at hl 0 rfl) ?_
  refine lv_bipush (v := 14) hx hb dX5_init_20 (by decide) ?_
  refine r_newa (kd := 32) (N' := 14) hx hb X.2.2.2.2.2.1.1 X.2.2.2.2.2.2.2.2.2 hW (hts _ (by decide +kernel)) (by decide) (by first | exact Or.inl ⟨rfl, rfl⟩ | exact Or.inr (Or.inl ⟨rfl, rfl⟩)) (by decide) (by decide) (by decide) (by decide) dX5_init_22 (fun q3 H hq3 hW => ?_)
  replace hN := hN.new (k := 32) (n := 14) hq3
  replace hB := hB.new (k := 32) (n := 14) hI.1.1 hq3
  replace hI := hI.new (k := 32) (n := 14) hq3
  refine p_7_3 X hname rfl hW hinX5 hF16 (v := some q3) (putQ_ok hI.1) dX5_init_24 (fun H locs hW => ?_)
  replace hI := hI.setQ (k := 3) (by simp)
  replace hN := hN.setQ (c := 7) (k := 3) (v := some q3)
  replace hB := hB.setQ (c := 7) (k := 3) (a := x0) (v := some q3)
  refine lv_aload_n hx hb dX5_init_27 rfl (lv_at hl 0 rfl) ?_
  refine lv_bipush (v := 120) hx hb dX5_init_28 (by decide) ?_
  refine r_newa (kd := 33) (N' := 120) hx hb X.2.2.2.2.2.1.1 X.2.2.2.2.2.2.2.2.2 hW (hts _ (by decide +kernel)) (by decide) (by first | exact Or.inl ⟨rfl, rfl⟩ | exact Or.inr (Or.inl ⟨rfl, rfl⟩)) (by decide) (by decide) (by decide) (by decide) dX5_init_30 (fun q4 H hq4 hW => ?_)
  replace hN := hN.new (k := 33) (n := 120) hq4
  replace hB := hB.new (k := 33) (n := 120) hI.1.1 hq4
  replace hI := hI.new (k := 33) (n := 120) hq4
  refine p_7_4 X hname rfl hW hinX5 hF19 (v := some q4) (putQ_ok hI.1) dX5_init_32 (fun H locs hW => ?_)
  replace hI := hI.setQ (k := 4) (by simp)
  replace hN := hN.setQ (c := 7) (k := 4) (v := some q4)
  replace hB := hB.setQ (c := 7) (k := 4) (a := x0) (v := some q4)
  refine lv_aload_n hx hb dX5_init_35 rfl (lv_at hl 0 rfl) ?_
  refine lv_bipush (v := 120) hx hb dX5_init_36 (by decide) ?_
  refine r_newa (kd := 34) (N' := 120) hx hb X.2.2.2.2.2.1.1 X.2.2.2.2.2.2.2.2.2 hW (hts _ (by decide +kernel)) (by decide) (by first | exact Or.inl ⟨rfl, rfl⟩ | exact Or.inr (Or.inl ⟨rfl, rfl⟩)) (by decide) (by decide) (by decide) (by decide) dX5_init_38 (fun q5 H hq5 hW => ?_)
  replace hN := hN.new (k := 34) (n := 120) hq5
  replace hB := hB.new (k := 34) (n := 120) hI.1.1 hq5
  replace hI := hI.new (k := 34) (n := 120) hq5
  refine p_7_5 X hname rfl hW hinX5 hF22 (v := some q5) (putQ_ok hI.1) dX5_init_40 (fun H locs hW => ?_)
  replace hI := hI.setQ (k := 5) (by simp)
  replace hN := hN.setQ (c := 7) (k := 5) (v := some q5)
  replace hB := hB.setQ (c := 7) (k := 5) (a := x0) (v := some q5)
  refine lv_aload_n hx hb dX5_init_43 rfl (lv_at hl 0 rfl) ?_
  refine lv_bipush (v := 120) hx hb dX5_init_44 (by decide) ?_
  refine r_newa (kd := 35) (N' := 120) hx hb X.2.2.2.2.2.1.1 X.2.2.2.2.2.2.2.2.2 hW (hts _ (by decide +kernel)) (by decide) (by first | exact Or.inl ⟨rfl, rfl⟩ | exact Or.inr (Or.inl ⟨rfl, rfl⟩)) (by decide) (by decide) (by decide) (by decide) dX5_init_46 (fun q6 H hq6 hW => ?_)
  replace hN := hN.new (k := 35) (n := 120) hq6
  replace hB := hB.new (k := 35) (n := 120) hI.1.1 hq6
  replace hI := hI.new (k := 35) (n := 120) hq6
  refine p_7_6 X hname rfl hW hinX5 hF25 (v := some q6) (putQ_ok hI.1) dX5_init_48 (fun H locs hW => ?_)
  replace hI := hI.setQ (k := 6) (by simp)
  replace hN := hN.setQ (c := 7) (k := 6) (v := some q6)
  replace hB := hB.setQ (c := 7) (k := 6) (a := x0) (v := some q6)
  refine lv_aload_n hx hb dX5_init_51 rfl (lv_at hl 0 rfl) ?_
  refine lv_bipush (v := 120) hx hb dX5_init_52 (by decide) ?_
  refine r_newa (kd := 36) (N' := 120) hx hb X.2.2.2.2.2.1.1 X.2.2.2.2.2.2.2.2.2 hW (hts _ (by decide +kernel)) (by decide) (by first | exact Or.inl ⟨rfl, rfl⟩ | exact Or.inr (Or.inl ⟨rfl, rfl⟩)) (by decide) (by decide) (by decide) (by decide) dX5_init_54 (fun q7 H hq7 hW => ?_)
  replace hN := hN.new (k := 36) (n := 120) hq7
  replace hB := hB.new (k := 36) (n := 120) hI.1.1 hq7
  replace hI := hI.new (k := 36) (n := 120) hq7
  refine p_7_7 X hname rfl hW hinX5 hF28 (v := some q7) (putQ_ok hI.1) dX5_init_56 (fun H locs hW => ?_)
  replace hI := hI.setQ (k := 7) (by simp)
  replace hN := hN.setQ (c := 7) (k := 7) (v := some q7)
  replace hB := hB.setQ (c := 7) (k := 7) (a := x0) (v := some q7)
  refine lv_aload_n hx hb dX5_init_59 rfl (lv_at hl 0 rfl) ?_
  refine lv_bipush (v := 120) hx hb dX5_init_60 (by decide) ?_
  refine r_newa (kd := 37) (N' := 120) hx hb X.2.2.2.2.2.1.1 X.2.2.2.2.2.2.2.2.2 hW (hts _ (by decide +kernel)) (by decide) (by first | exact Or.inl ⟨rfl, rfl⟩ | exact Or.inr (Or.inl ⟨rfl, rfl⟩)) (by decide) (by decide) (by decide) (by decide) dX5_init_62 (fun q8 H hq8 hW => ?_)
  replace hN := hN.new (k := 37) (n := 120) hq8
  replace hB := hB.new (k := 37) (n := 120) hI.1.1 hq8
  replace hI := hI.new (k := 37) (n := 120) hq8
  refine p_7_8 X hname rfl hW hinX5 hF31 (v := some q8) (putQ_ok hI.1) dX5_init_64 (fun H locs hW => ?_)
  replace hI := hI.setQ (k := 8) (by simp)
  replace hN := hN.setQ (c := 7) (k := 8) (v := some q8)
  replace hB := hB.setQ (c := 7) (k := 8) (a := x0) (v := some q8)
  refine lv_aload_n hx hb dX5_init_67 rfl (lv_at hl 0 rfl) ?_
  refine lv_bipush (v := 120) hx hb dX5_init_68 (by decide) ?_
  refine r_newa (kd := 38) (N' := 120) hx hb X.2.2.2.2.2.1.1 X.2.2.2.2.2.2.2.2.2 hW (hts _ (by decide +kernel)) (by decide) (by first | exact Or.inl ⟨rfl, rfl⟩ | exact Or.inr (Or.inl ⟨rfl, rfl⟩)) (by decide) (by decide) (by decide) (by decide) dX5_init_70 (fun q9 H hq9 hW => ?_)
  replace hN := hN.new (k := 38) (n := 120) hq9
  replace hB := hB.new (k := 38) (n := 120) hI.1.1 hq9
  replace hI := hI.new (k := 38) (n := 120) hq9
  refine p_7_9 X hname rfl hW hinX5 hF34 (v := some q9) (putQ_ok hI.1) dX5_init_72 (fun H locs hW => ?_)
  replace hI := hI.setQ (k := 9) (by simp)
  replace hN := hN.setQ (c := 7) (k := 9) (v := some q9)
  replace hB := hB.setQ (c := 7) (k := 9) (a := x0) (v := some q9)
  refine lv_aload_n hx hb dX5_init_75 rfl (lv_at hl 0 rfl) ?_
  refine lv_bipush (v := 120) hx hb dX5_init_76 (by decide) ?_
  refine r_newa (kd := 39) (N' := 120) hx hb X.2.2.2.2.2.1.1 X.2.2.2.2.2.2.2.2.2 hW (hts _ (by decide +kernel)) (by decide) (by first | exact Or.inl ⟨rfl, rfl⟩ | exact Or.inr (Or.inl ⟨rfl, rfl⟩)) (by decide) (by decide) (by decide) (by decide) dX5_init_78 (fun q10 H hq10 hW => ?_)
  replace hN := hN.new (k := 39) (n := 120) hq10
  replace hB := hB.new (k := 39) (n := 120) hI.1.1 hq10
  replace hI := hI.new (k := 39) (n := 120) hq10
  refine p_7_10 X hname rfl hW hinX5 hF37 (v := some q10) (putQ_ok hI.1) dX5_init_80 (fun H locs hW => ?_)
  replace hI := hI.setQ (k := 10) (by simp)
  replace hN := hN.setQ (c := 7) (k := 10) (v := some q10)
  replace hB := hB.setQ (c := 7) (k := 10) (a := x0) (v := some q10)
  refine lv_aload_n hx hb dX5_init_83 rfl (lv_at hl 0 rfl) ?_
  refine lv_bipush (v := 120) hx hb dX5_init_84 (by decide) ?_
  refine r_newa (kd := 40) (N' := 120) hx hb X.2.2.2.2.2.1.1 X.2.2.2.2.2.2.2.2.2 hW (hts _ (by decide +kernel)) (by decide) (by first | exact Or.inl ⟨rfl, rfl⟩ | exact Or.inr (Or.inl ⟨rfl, rfl⟩)) (by decide) (by decide) (by decide) (by decide) dX5_init_86 (fun q11 H hq11 hW => ?_)
  replace hN := hN.new (k := 40) (n := 120) hq11
  replace hB := hB.new (k := 40) (n := 120) hI.1.1 hq11
  replace hI := hI.new (k := 40) (n := 120) hq11
  refine p_7_11 X hname rfl hW hinX5 hF40 (v := some q11) (putQ_ok hI.1) dX5_init_88 (fun H locs hW => ?_)
  replace hI := hI.setQ (k := 11) (by simp)
  replace hN := hN.setQ (c := 7) (k := 11) (v := some q11)
  replace hB := hB.setQ (c := 7) (k := 11) (a := x0) (v := some q11)
  refine lv_aload_n hx hb dX5_init_91 rfl (lv_at hl 0 rfl) ?_
  refine lv_bipush (v := 14) hx hb dX5_init_92 (by decide) ?_
  refine r_newa (kd := 41) (N' := 14) hx hb X.2.2.2.2.2.1.1 X.2.2.2.2.2.2.2.2.2 hW (hts _ (by decide +kernel)) (by decide) (by first | exact Or.inl ⟨rfl, rfl⟩ | exact Or.inr (Or.inl ⟨rfl, rfl⟩)) (by decide) (by decide) (by decide) (by decide) dX5_init_94 (fun q12 H hq12 hW => ?_)
  replace hN := hN.new (k := 41) (n := 14) hq12
  replace hB := hB.new (k := 41) (n := 14) hI.1.1 hq12
  replace hI := hI.new (k := 41) (n := 14) hq12
  refine p_7_12 X hname rfl hW hinX5 hF43 (v := some q12) (putQ_ok hI.1) dX5_init_96 (fun H locs hW => ?_)
  replace hI := hI.setQ (k := 12) (by simp)
  replace hN := hN.setQ (c := 7) (k := 12) (v := some q12)
  replace hB := hB.setQ (c := 7) (k := 12) (a := x0) (v := some q12)
  refine lv_aload_n hx hb dX5_init_99 rfl (lv_at hl 0 rfl) ?_
  refine lv_bipush (v := 120) hx hb dX5_init_100 (by decide) ?_
  refine r_newa (kd := 42) (N' := 120) hx hb X.2.2.2.2.2.1.1 X.2.2.2.2.2.2.2.2.2 hW (hts _ (by decide +kernel)) (by decide) (by first | exact Or.inl ⟨rfl, rfl⟩ | exact Or.inr (Or.inl ⟨rfl, rfl⟩)) (by decide) (by decide) (by decide) (by decide) dX5_init_102 (fun q13 H hq13 hW => ?_)
  replace hN := hN.new (k := 42) (n := 120) hq13
  replace hB := hB.new (k := 42) (n := 120) hI.1.1 hq13
  replace hI := hI.new (k := 42) (n := 120) hq13
  refine p_7_13 X hname rfl hW hinX5 hF47 (v := some q13) (putQ_ok hI.1) dX5_init_104 (fun H locs hW => ?_)
  replace hI := hI.setQ (k := 13) (by simp)
  replace hN := hN.setQ (c := 7) (k := 13) (v := some q13)
  replace hB := hB.setQ (c := 7) (k := 13) (a := x0) (v := some q13)
  refine lv_aload_n hx hb dX5_init_107 rfl (lv_at hl 0 rfl) ?_
  refine lv_iconst (v := 5) hx hb dX5_init_108 (by decide) ?_
  refine r_newa (kd := 43) (N' := 5) hx hb X.2.2.2.2.2.1.1 X.2.2.2.2.2.2.2.2.2 hW (hts _ (by decide +kernel)) (by decide) (by first | exact Or.inl ⟨rfl, rfl⟩ | exact Or.inr (Or.inl ⟨rfl, rfl⟩)) (by decide) (by decide) (by decide) (by decide) dX5_init_109 (fun q14 H hq14 hW => ?_)
  replace hN := hN.new (k := 43) (n := 5) hq14
  replace hB := hB.new (k := 43) (n := 5) hI.1.1 hq14
  replace hI := hI.new (k := 43) (n := 5) hq14
  refine p_7_14 X hname rfl hW hinX5 hF50 (v := some q14) (putQ_ok hI.1) dX5_init_111 (fun H locs hW => ?_)
  replace hI := hI.setQ (k := 14) (by simp)
  replace hN := hN.setQ (c := 7) (k := 14) (v := some q14)
  replace hB := hB.setQ (c := 7) (k := 14) (a := x0) (v := some q14)
  refine lv_aload_n hx hb dX5_init_114 rfl (lv_at hl 0 rfl) ?_
  refine lv_bipush (v := 12) hx hb dX5_init_115 (by decide) ?_
  refine p_7_18 X hW hinX5 hF53 (v := 12) (putI_ok hI.1) dX5_init_117 (fun H locs hW => ?_)
  replace hB := hB.setI (k := 18) (v := 12) (by simp)
  replace hI := hI.setI (c := 7) (k := 18) (a := x0) (v := 12)
  replace hN := hN.setI (c := 7) (k := 18) (v := 12)
  refine lv_aload_n hx hb dX5_init_120 rfl (lv_at hl 0 rfl) ?_
  refine lv_iconst (v := 4) hx hb dX5_init_121 (by decide) ?_
  refine p_7_19 X hW hinX5 hF57 (v := 4) (putI_ok hI.1) dX5_init_122 (fun H locs hW => ?_)
  replace hB := hB.setI (k := 19) (v := 4) (by simp)
  replace hI := hI.setI (c := 7) (k := 19) (a := x0) (v := 4)
  replace hN := hN.setI (c := 7) (k := 19) (v := 4)
  refine lv_aload_n hx hb dX5_init_125 rfl (lv_at hl 0 rfl) ?_
  refine lv_iconst (v := 2) hx hb dX5_init_126 (by decide) ?_
  refine p_7_20 X hW hinX5 hF60 (v := 2) (putI_ok hI.1) dX5_init_127 (fun H locs hW => ?_)
  replace hB := hB.setI (k := 20) (v := 2) (by simp)
  replace hI := hI.setI (c := 7) (k := 20) (a := x0) (v := 2)
  replace hN := hN.setI (c := 7) (k := 20) (v := 2)
  refine lv_aload_n hx hb dX5_init_130 rfl (lv_at hl 0 rfl) ?_
  refine lv_bipush (v := 14) hx hb dX5_init_131 (by decide) ?_
  refine r_newa (kd := 44) (N' := 14) hx hb X.2.2.2.2.2.1.1 X.2.2.2.2.2.2.2.2.2 hW (hts _ (by decide +kernel)) (by decide) (by first | exact Or.inl ⟨rfl, rfl⟩ | exact Or.inr (Or.inl ⟨rfl, rfl⟩)) (by decide) (by decide) (by decide) (by decide) dX5_init_133 (fun q21 H hq21 hW => ?_)
  replace hN := hN.new (k := 44) (n := 14) hq21
  replace hB := hB.new (k := 44) (n := 14) hI.1.1 hq21
  replace hI := hI.new (k := 44) (n := 14) hq21
  refine p_7_21 X hname rfl hW hinX5 hF63 (v := some q21) (putQ_ok hI.1) dX5_init_135 (fun H locs hW => ?_)
  replace hI := hI.setQ (k := 21) (by simp)
  replace hN := hN.setQ (c := 7) (k := 21) (v := some q21)
  replace hB := hB.setQ (c := 7) (k := 21) (a := x0) (v := some q21)
  refine lv_aload_n hx hb dX5_init_138 rfl (lv_at hl 0 rfl) ?_
  refine lv_bipush (v := 14) hx hb dX5_init_139 (by decide) ?_
  refine r_newa (kd := 45) (N' := 14) hx hb X.2.2.2.2.2.1.1 X.2.2.2.2.2.2.2.2.2 hW (hts _ (by decide +kernel)) (by decide) (by first | exact Or.inl ⟨rfl, rfl⟩ | exact Or.inr (Or.inl ⟨rfl, rfl⟩)) (by decide) (by decide) (by decide) (by decide) dX5_init_141 (fun q22 H hq22 hW => ?_)
  replace hN := hN.new (k := 45) (n := 14) hq22
  replace hB := hB.new (k := 45) (n := 14) hI.1.1 hq22
  replace hI := hI.new (k := 45) (n := 14) hq22
  refine p_7_22 X hname rfl hW hinX5 hF66 (v := some q22) (putQ_ok hI.1) dX5_init_143 (fun H locs hW => ?_)
  replace hI := hI.setQ (k := 22) (by simp)
  replace hN := hN.setQ (c := 7) (k := 22) (v := some q22)
  replace hB := hB.setQ (c := 7) (k := 22) (a := x0) (v := some q22)
  refine lv_aload_n hx hb dX5_init_146 rfl (lv_at hl 0 rfl) ?_
  refine lv_bipush (v := 15) hx hb dX5_init_147 (by decide) ?_
  refine r_newa (kd := 46) (N' := 15) hx hb X.2.2.2.2.2.1.1 X.2.2.2.2.2.2.2.2.2 hW (hts _ (by decide +kernel)) (by decide) (by first | exact Or.inl ⟨rfl, rfl⟩ | exact Or.inr (Or.inl ⟨rfl, rfl⟩)) (by decide) (by decide) (by decide) (by decide) dX5_init_149 (fun q24 H hq24 hW => ?_)
  replace hN := hN.new (k := 46) (n := 15) hq24
  replace hB := hB.new (k := 46) (n := 15) hI.1.1 hq24
  replace hI := hI.new (k := 46) (n := 15) hq24
  refine p_7_24 X hname rfl hW hinX5 hF69 (v := some q24) (putQ_ok hI.1) dX5_init_151 (fun H locs hW => ?_)
  replace hI := hI.setQ (k := 24) (by simp)
  replace hN := hN.setQ (c := 7) (k := 24) (v := some q24)
  replace hB := hB.setQ (c := 7) (k := 24) (a := x0) (v := some q24)
  refine lv_aload_n hx hb dX5_init_154 rfl (lv_at hl 0 rfl) ?_
  refine lv_bipush (v := 15) hx hb dX5_init_155 (by decide) ?_
  refine r_newa (kd := 47) (N' := 15) hx hb X.2.2.2.2.2.1.1 X.2.2.2.2.2.2.2.2.2 hW (hts _ (by decide +kernel)) (by decide) (by first | exact Or.inl ⟨rfl, rfl⟩ | exact Or.inr (Or.inl ⟨rfl, rfl⟩)) (by decide) (by decide) (by decide) (by decide) dX5_init_157 (fun q25 H hq25 hW => ?_)
  replace hN := hN.new (k := 47) (n := 15) hq25
  replace hB := hB.new (k := 47) (n := 15) hI.1.1 hq25
  replace hI := hI.new (k := 47) (n := 15) hq25
  refine p_7_25 X hname rfl hW hinX5 hF72 (v := some q25) (putQ_ok hI.1) dX5_init_159 (fun H locs hW => ?_)
  replace hI := hI.setQ (k := 25) (by simp)
  replace hN := hN.setQ (c := 7) (k := 25) (v := some q25)
  replace hB := hB.setQ (c := 7) (k := 25) (a := x0) (v := some q25)
  refine lv_aload_n hx hb dX5_init_162 rfl (lv_at hl 0 rfl) ?_
  refine lv_bipush (v := 15) hx hb dX5_init_163 (by decide) ?_
  refine r_newa (kd := 48) (N' := 15) hx hb X.2.2.2.2.2.1.1 X.2.2.2.2.2.2.2.2.2 hW (hts _ (by decide +kernel)) (by decide) (by first | exact Or.inl ⟨rfl, rfl⟩ | exact Or.inr (Or.inl ⟨rfl, rfl⟩)) (by decide) (by decide) (by decide) (by decide) dX5_init_165 (fun q26 H hq26 hW => ?_)
  replace hN := hN.new (k := 48) (n := 15) hq26
  replace hB := hB.new (k := 48) (n := 15) hI.1.1 hq26
  replace hI := hI.new (k := 48) (n := 15) hq26
  refine p_7_26 X hname rfl hW hinX5 hF75 (v := some q26) (putQ_ok hI.1) dX5_init_167 (fun H locs hW => ?_)
  replace hI := hI.setQ (k := 26) (by simp)
  replace hN := hN.setQ (c := 7) (k := 26) (v := some q26)
  replace hB := hB.setQ (c := 7) (k := 26) (a := x0) (v := some q26)
  exact r_vret X hr hW ⟨rfl, q1, q2, q3, q4, q5, q6, q7, q8, q9, q10, q11, q12, q13, q14, q21, q22, q24, q25, q26, hI, hB, hN⟩ (by decide) (by decide) dX5_init_170
