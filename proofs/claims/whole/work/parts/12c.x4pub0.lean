def f_X4_addPart_B (mu : Mem) (b0 : Int32) (b1 : Option Nat) (b2 : Nat) (b3 : Int32) (b4 : Int32) (q9 : Nat) : Option ((Nat ⊕ Int32) × Mem) := bi2 (f_X3_init (sNew mu q9 5 0) q9 b3) (fun (t1 : (Unit)) m2 => b1.bind fun a4 => (qst m2 a4 b0 q9).bind fun m6 => (putI m6 6 4 b2 (b4 + 1)).bind fun m8 => some ((.inr b4), m8))
def f_X4_addPart (mu : Mem) (x0 : Nat) (x1 : Int32) : Option (((Nat ⊕ Int32) × Mem) ⊕ (Int32 × (Option Nat) × Nat × Int32 × Int32)) := if x1 < (-12) then (some (.inl ((.inl 1), mu))) else (if x1 ≤ 12 then ((getI mu 6 4 x0).bind fun t1 => (getQ mu 6 0 x0).bind fun t3 => t3.bind fun a5 => (alen mu a5).bind fun t7 => if t1 < t7 then ((getI mu 6 4 x0).bind fun t9 => (getQ mu 6 0 x0).bind fun t11 => some (.inr (t9, t11, x0, x1, t9))) else (some (.inl ((.inl 2), mu)))) else (some (.inl ((.inl 1), mu))))
set_option maxHeartbeats 1000000 in
set_option maxRecDepth 100000 in
theorem k_X4_addPart (l : Launch) (hsl : l.stackTraces = false) (G : GG) (A : Nat → Prop) (mu : Mem) (x0 : Nat) (x1 : Int32) (r : ((Nat ⊕ Int32) × Mem) ⊕ (Int32 × (Option Nat) × Nat × Int32 × Int32)) (hf : f_X4_addPart mu x0 x1 = some r) (hB : ∀ c9, r = .inr c9 → ∀ q9, q9 ∉ mL mu → ∃ r2, f_X4_addPart_B mu c9.1 c9.2.1 c9.2.2.1 c9.2.2.2.1 c9.2.2.2.2 q9 = some r2) : Ok l yX4_addPart wsX4_addPart ({ frames := 8, cells := 3, slots := 14, locals := 150 } : Room) [.ref x0, .int x1] G A mu (fun r9 m9 => (∃ r1, r = .inl r1 ∧ r9 = rIx r1.1 ∧ m9 = r1.2) ∨ (∃ c9 q9 r2, r = .inr c9 ∧ q9 ∉ mL mu ∧ f_X4_addPart_B mu c9.1 c9.2.1 c9.2.2.1 c9.2.2.2.1 c9.2.2.2.2 q9 = some r2 ∧ r9 = rIx r2.1 ∧ m9 = r2.2)) := by
  refine Ok.start (cc := cX4_addPart) (maxL := 3) (ret := (some .int)) rfl (by decide +kernel) hsl (by first | exact Nat.le_of_ble_eq_true rfl | simp [lg_sl, cat_rf, Value.category]) ?_
  intro p e s m args below meth c ls X hr hname hW hl
  have X : BX p l s m args meth c cX4_addPart 3 RX4 wsX4_addPart G A := X
  have hx := X.1
  have hb := X.2.1
  have hts := X.2.2.2.2.1
  have hl : lv_has ls 3 [(0, .ref x0), (1, .int x1)] := hl
  have hinX3 : ∀ w ∈ wsX30, w ∈ wsX4_addPart := by decide +kernel
  have hinX4 : ∀ w ∈ wsX40, w ∈ wsX4_addPart := by decide +kernel
  have hF11 : (Cond.fieldLink RX4 11 "PartcopyistBench" "parts" "[LPartcopyistBench$Part;").before args s = true := hts _ (by decide +kernel)
  have hF34 : (Cond.fieldLink RX4 34 "PartcopyistBench" "partCount" "I").before args s = true := hts _ (by decide +kernel)
  have hk1 : (Cond.classLink RX4 53 "java/lang/IllegalArgumentException").before args s = true := hts _ (by decide +kernel)
  have hi1 : (Cond.initialized "java/lang/IllegalArgumentException").before args s = true := hts _ (by decide +kernel)
  have hg1 : ∀ w ∈ (vx_atS RX4 57 "java/lang/IllegalArgumentException" ["java/lang/RuntimeException", "java/lang/Exception"]).filter goodWord, w ∈ wsX4_addPart := by decide +kernel
  have hk2 : (Cond.classLink RX4 60 "java/lang/IllegalStateException").before args s = true := hts _ (by decide +kernel)
  have hi2 : (Cond.initialized "java/lang/IllegalStateException").before args s = true := hts _ (by decide +kernel)
  have hg2 : ∀ w ∈ (vx_atS RX4 64 "java/lang/IllegalStateException" ["java/lang/RuntimeException", "java/lang/Exception"]).filter goodWord, w ∈ wsX4_addPart := by decide +kernel
  unfold f_X4_addPart at hf
  refine lv_iload_n hx hb dX4_addPart_0 rfl (lv_at hl 1 rfl) ?_
  refine lv_bipush (v := (-12)) hx hb dX4_addPart_1 (by decide) ?_
  refine lv_icmp_lt (tgt := 12) hx hb dX4_addPart_3 (by decide) (fun hc => ?_) (fun hc => ?_)
  · replace hf := itp hc hf
    exact r_thr (cls := "java/lang/IllegalArgumentException") (e9 := 1) (is := 55) (text := "the shift is out of range") X hsl hl.1 hW rfl (by decide +kernel) (by decide +kernel) hk1 hi1 hg1 hbad1 hgood1 (by decide +kernel) dX4_addPart_12 dX4_addPart_15 dX4_addPart_16 dX4_addPart_18 dX4_addPart_21 (by decide) (by cases hf; exact Or.inl ⟨_, rfl, rfl, rfl⟩) (by decide) (by decide)
  · replace hf := itn hc hf
    refine lv_iload_n hx hb dX4_addPart_6 rfl (lv_at hl 1 rfl) ?_
    refine lv_bipush (v := 12) hx hb dX4_addPart_7 (by decide) ?_
    refine lv_icmp_le (tgt := 22) hx hb dX4_addPart_9 (by decide) (fun hc => ?_) (fun hc => ?_)
    · replace hf := itp hc hf
      refine lv_aload_n hx hb dX4_addPart_22 rfl (lv_at hl 0 rfl) ?_
      replace hf := bnd hf
      obtain ⟨t1, h2, hf⟩ := hf
      refine g_6_4 X hW hinX4 hF34 h2 dX4_addPart_23 ?_
      refine lv_aload_n hx hb dX4_addPart_26 rfl (lv_at hl 0 rfl) ?_
      replace hf := bnd hf
      obtain ⟨t3, h4, hf⟩ := hf
      refine g_6_0 X hW hinX4 hF11 h4 dX4_addPart_27 ?_
      replace hf := bnd hf
      obtain ⟨a5, h6, hf⟩ := hf
      subst h6
      replace hf := bnd hf
      obtain ⟨t7, h8, hf⟩ := hf
      refine r_alen X hW h8 dX4_addPart_30 ?_
      refine lv_icmp_lt (tgt := 44) hx hb dX4_addPart_31 (by decide) (fun hc => ?_) (fun hc => ?_)
      · replace hf := itp hc hf
        refine lv_aload_n hx hb dX4_addPart_44 rfl (lv_at hl 0 rfl) ?_
        replace hf := bnd hf
        obtain ⟨t9, h10, hf⟩ := hf
        refine g_6_4 X hW hinX4 hF34 h10 dX4_addPart_45 ?_
        refine lv_istore_n (lv' := [(2, .int t9), (0, .ref x0), (1, .int x1)]) hx hb dX4_addPart_48 rfl hl (by decide) rfl (fun ls hl => ?_)
        refine lv_aload_n hx hb dX4_addPart_49 rfl (lv_at hl 1 rfl) ?_
        replace hf := bnd hf
        obtain ⟨t11, h12, hf⟩ := hf
        refine g_6_0 X hW hinX4 hF11 h12 dX4_addPart_50 ?_
        refine lv_iload_n hx hb dX4_addPart_53 rfl (lv_at hl 0 rfl) ?_
        have hc9 := Option.some.inj hf
        clear hf
        refine r_new (ci := 5) (C := RX3) (T := TX3) (N := 2) X hW rfl (by decide) hinX3 tyX3 tyX3_ok (hts _ (by decide +kernel)) (hts _ (by decide +kernel)) (hts _ (by decide +kernel)) (by decide) (by decide) dX4_addPart_54 (fun q9 H hq9 hW => ?_)
        obtain ⟨r2, hf⟩ := hB _ hc9.symm q9 hq9
        replace hf : f_X4_addPart_B mu t9 t11 x0 x1 t9 q9 = some r2 := hf
        have hB9 := hf
        unfold f_X4_addPart_B at hf
        refine lv_dup hx hb dX4_addPart_57 rfl ?_
        refine lv_iload_n hx hb dX4_addPart_58 rfl (lv_at hl 2 rfl) ?_
        replace hf := bnd2 hf
        obtain ⟨t13, m14, h15, hf⟩ := hf
        refine r_callI_ok (μ9 := m14) X hW hl.1 (k_X3_init l hsl G A (sNew mu q9 5 0) q9 x1 _ h15) gX4_addPart_X3_init rfl (hts (.initialized RX3) (by decide +kernel)) (hts (.methodLink RX4 65 yX3_init) (by decide +kernel)) (hts (.instanceMethod yX3_init) (by decide +kernel)) rfl (by decide +kernel) (n := 1) rfl (by decide) (by cases t11 <;> exact Nat.le_of_ble_eq_true rfl) dX4_addPart_59 rfl rfl (stk := [.ref q9, .int t9, va_rf t11]) rfl (fun H locs hW => ?_)
        replace hf := bnd hf
        obtain ⟨a16, h17, hf⟩ := hf
        subst h17
        replace hf := bnd hf
        obtain ⟨m18, h19, hf⟩ := hf
        refine r_qst X hW h19 dX4_addPart_62 (fun H locs hW => ?_)
        refine lv_aload_n hx hb dX4_addPart_63 rfl (lv_at hl 1 rfl) ?_
        refine lv_iload_n hx hb dX4_addPart_64 rfl (lv_at hl 0 rfl) ?_
        refine lv_iconst (v := 1) hx hb dX4_addPart_65 (by decide) ?_
        refine lv_iadd hx hb dX4_addPart_66 ?_
        replace hf := bnd hf
        obtain ⟨m20, h21, hf⟩ := hf
        refine p_6_4 X hW hinX4 hF34 h21 dX4_addPart_67 (fun H locs hW => ?_)
        refine lv_iload_n hx hb dX4_addPart_70 rfl (lv_at hl 0 rfl) ?_
        exact r_iret X hr hW (by cases hf; exact Or.inr ⟨_, _, _, hc9.symm, hq9, hB9, rfl, rfl⟩) (by decide) (by decide) dX4_addPart_71
      · replace hf := itn hc hf
        exact r_thr (cls := "java/lang/IllegalStateException") (e9 := 2) (is := 62) (text := "there are as many parts as there can be") X hsl hl.1 hW rfl (by decide +kernel) (by decide +kernel) hk2 hi2 hg2 hbad2 hgood2 (by decide +kernel) dX4_addPart_34 dX4_addPart_37 dX4_addPart_38 dX4_addPart_40 dX4_addPart_43 (by decide) (by cases hf; exact Or.inl ⟨_, rfl, rfl, rfl⟩) (by decide) (by decide)
    · replace hf := itn hc hf
      exact r_thr (cls := "java/lang/IllegalArgumentException") (e9 := 1) (is := 55) (text := "the shift is out of range") X hsl hl.1 hW rfl (by decide +kernel) (by decide +kernel) hk1 hi1 hg1 hbad1 hgood1 (by decide +kernel) dX4_addPart_12 dX4_addPart_15 dX4_addPart_16 dX4_addPart_18 dX4_addPart_21 (by decide) (by cases hf; exact Or.inl ⟨_, rfl, rfl, rfl⟩) (by decide) (by decide)

def f_X4_addBar_B (mu : Mem) (b0 : Int32) (b1 : Option Nat) (b2 : Nat) (b3 : Int32) (b4 : Int32) (b5 : Int32) (b6 : Int32) (q9 : Nat) : Option ((Nat ⊕ Int32) × Mem) := bi2 (f_X0_init (sNew mu q9 2 0) q9 (b3 * 4) b4 b5) (fun (t1 : (Unit)) m2 => b1.bind fun a4 => (qst m2 a4 b0 q9).bind fun m6 => (putI m6 6 5 b2 (b6 + 1)).bind fun m8 => some ((.inr b6), m8))
def f_X4_addBar (mu : Mem) (x0 : Nat) (x1 : Int32) (x2 : Int32) (x3 : Int32) : Option (((Nat ⊕ Int32) × Mem) ⊕ (Int32 × (Option Nat) × Nat × Int32 × Int32 × Int32 × Int32)) := if x1 < 1 then (some (.inl ((.inl 1), mu))) else (if 8 < x1 then (some (.inl ((.inl 1), mu))) else ((f_X4_isKey mu x2).bind fun t1 => if t1 = 0 then (some (.inl ((.inl 1), mu))) else ((getI mu 6 5 x0).bind fun t3 => (getQ mu 6 1 x0).bind fun t5 => t5.bind fun a7 => (alen mu a7).bind fun t9 => if t3 < t9 then ((getI mu 6 5 x0).bind fun t11 => (getQ mu 6 1 x0).bind fun t13 => some (.inr (t11, t13, x0, x1, x2, x3, t11))) else (some (.inl ((.inl 2), mu))))))
set_option maxHeartbeats 1000000 in
set_option maxRecDepth 100000 in
theorem k_X4_addBar (l : Launch) (hsl : l.stackTraces = false) (G : GG) (A : Nat → Prop) (mu : Mem) (x0 : Nat) (x1 : Int32) (x2 : Int32) (x3 : Int32) (r : ((Nat ⊕ Int32) × Mem) ⊕ (Int32 × (Option Nat) × Nat × Int32 × Int32 × Int32 × Int32)) (hf : f_X4_addBar mu x0 x1 x2 x3 = some r) (hB : ∀ c9, r = .inr c9 → ∀ q9, q9 ∉ mL mu → ∃ r2, f_X4_addBar_B mu c9.1 c9.2.1 c9.2.2.1 c9.2.2.2.1 c9.2.2.2.2.1 c9.2.2.2.2.2.1 c9.2.2.2.2.2.2 q9 = some r2) : Ok l yX4_addBar wsX4_addBar ({ frames := 8, cells := 3, slots := 15, locals := 150 } : Room) [.ref x0, .int x1, .int x2, .int x3] G A mu (fun r9 m9 => (∃ r1, r = .inl r1 ∧ r9 = rIx r1.1 ∧ m9 = r1.2) ∨ (∃ c9 q9 r2, r = .inr c9 ∧ q9 ∉ mL mu ∧ f_X4_addBar_B mu c9.1 c9.2.1 c9.2.2.1 c9.2.2.2.1 c9.2.2.2.2.1 c9.2.2.2.2.2.1 c9.2.2.2.2.2.2 q9 = some r2 ∧ r9 = rIx r2.1 ∧ m9 = r2.2)) := by
  refine Ok.start (cc := cX4_addBar) (maxL := 5) (ret := (some .int)) rfl (by decide +kernel) hsl (by first | exact Nat.le_of_ble_eq_true rfl | simp [lg_sl, cat_rf, Value.category]) ?_
  intro p e s m args below meth c ls X hr hname hW hl
  have X : BX p l s m args meth c cX4_addBar 5 RX4 wsX4_addBar G A := X
  have hx := X.1
  have hb := X.2.1
  have hts := X.2.2.2.2.1
  have hl : lv_has ls 5 [(0, .ref x0), (1, .int x1), (2, .int x2), (3, .int x3)] := hl
  have hinX0 : ∀ w ∈ wsX00, w ∈ wsX4_addBar := by decide +kernel
  have hinX4 : ∀ w ∈ wsX40, w ∈ wsX4_addBar := by decide +kernel
  have hF17 : (Cond.fieldLink RX4 17 "PartcopyistBench" "bars" "[LPartcopyistBench$Bar;").before args s = true := hts _ (by decide +kernel)
  have hF38 : (Cond.fieldLink RX4 38 "PartcopyistBench" "barCount" "I").before args s = true := hts _ (by decide +kernel)
  have hk1 : (Cond.classLink RX4 53 "java/lang/IllegalArgumentException").before args s = true := hts _ (by decide +kernel)
  have hi1 : (Cond.initialized "java/lang/IllegalArgumentException").before args s = true := hts _ (by decide +kernel)
  have hg1 : ∀ w ∈ (vx_atS RX4 57 "java/lang/IllegalArgumentException" ["java/lang/RuntimeException", "java/lang/Exception"]).filter goodWord, w ∈ wsX4_addBar := by decide +kernel
  have hk2 : (Cond.classLink RX4 60 "java/lang/IllegalStateException").before args s = true := hts _ (by decide +kernel)
  have hi2 : (Cond.initialized "java/lang/IllegalStateException").before args s = true := hts _ (by decide +kernel)
  have hg2 : ∀ w ∈ (vx_atS RX4 64 "java/lang/IllegalStateException" ["java/lang/RuntimeException", "java/lang/Exception"]).filter goodWord, w ∈ wsX4_addBar := by decide +kernel
  unfold f_X4_addBar at hf
  refine lv_iload_n hx hb dX4_addBar_0 rfl (lv_at hl 1 rfl) ?_
  refine lv_iconst (v := 1) hx hb dX4_addBar_1 (by decide) ?_
  refine lv_icmp_lt (tgt := 18) hx hb dX4_addBar_2 (by decide) (fun hc => ?_) (fun hc => ?_)
  · replace hf := itp hc hf
    exact r_thr (cls := "java/lang/IllegalArgumentException") (e9 := 1) (is := 72) (text := "the beats or the key are out of range") X hsl hl.1 hW rfl (by decide +kernel) (by decide +kernel) hk1 hi1 hg1 hbad1 hgood1 (by decide +kernel) dX4_addBar_18 dX4_addBar_21 dX4_addBar_22 dX4_addBar_24 dX4_addBar_27 (by decide) (by cases hf; exact Or.inl ⟨_, rfl, rfl, rfl⟩) (by decide) (by decide)
  · replace hf := itn hc hf
    refine lv_iload_n hx hb dX4_addBar_5 rfl (lv_at hl 1 rfl) ?_
    refine lv_bipush (v := 8) hx hb dX4_addBar_6 (by decide) ?_
    refine lv_icmp_gt (tgt := 18) hx hb dX4_addBar_8 (by decide) (fun hc => ?_) (fun hc => ?_)
    · replace hf := itp hc hf
      exact r_thr (cls := "java/lang/IllegalArgumentException") (e9 := 1) (is := 72) (text := "the beats or the key are out of range") X hsl hl.1 hW rfl (by decide +kernel) (by decide +kernel) hk1 hi1 hg1 hbad1 hgood1 (by decide +kernel) dX4_addBar_18 dX4_addBar_21 dX4_addBar_22 dX4_addBar_24 dX4_addBar_27 (by decide) (by cases hf; exact Or.inl ⟨_, rfl, rfl, rfl⟩) (by decide) (by decide)
    · replace hf := itn hc hf
      refine lv_iload_n hx hb dX4_addBar_11 rfl (lv_at hl 2 rfl) ?_
      replace hf := bnd hf
      obtain ⟨t1, h2, hf⟩ := hf
      refine r_callS_ok X hW hl.1 (k_X4_isKey l hsl G A mu x2 _ h2) gX4_addBar_X4_isKey rfl (by decide +kernel) (n := 1) rfl (by decide) (Nat.le_of_ble_eq_true rfl) dX4_addBar_12 rfl rfl (stk := [.int t1]) rfl (fun H locs hW => ?_)
      refine lv_if_ne (tgt := 28) hx hb dX4_addBar_15 (by decide) (fun hc => ?_) (fun hc => ?_)
      · replace hf := itn hc hf
        refine lv_aload_n hx hb dX4_addBar_28 rfl (lv_at hl 0 rfl) ?_
        replace hf := bnd hf
        obtain ⟨t3, h4, hf⟩ := hf
        refine g_6_5 X hW hinX4 hF38 h4 dX4_addBar_29 ?_
        refine lv_aload_n hx hb dX4_addBar_32 rfl (lv_at hl 0 rfl) ?_
        replace hf := bnd hf
        obtain ⟨t5, h6, hf⟩ := hf
        refine g_6_1 X hW hinX4 hF17 h6 dX4_addBar_33 ?_
        replace hf := bnd hf
        obtain ⟨a7, h8, hf⟩ := hf
        subst h8
        replace hf := bnd hf
        obtain ⟨t9, h10, hf⟩ := hf
        refine r_alen X hW h10 dX4_addBar_36 ?_
        refine lv_icmp_lt (tgt := 50) hx hb dX4_addBar_37 (by decide) (fun hc => ?_) (fun hc => ?_)
        · replace hf := itp hc hf
          refine lv_aload_n hx hb dX4_addBar_50 rfl (lv_at hl 0 rfl) ?_
          replace hf := bnd hf
          obtain ⟨t11, h12, hf⟩ := hf
          refine g_6_5 X hW hinX4 hF38 h12 dX4_addBar_51 ?_
          refine lv_istore (lv' := [(4, .int t11), (0, .ref x0), (1, .int x1), (2, .int x2), (3, .int x3)]) hx hb dX4_addBar_54 hl (by decide) rfl (fun ls hl => ?_)
          refine lv_aload_n hx hb dX4_addBar_56 rfl (lv_at hl 1 rfl) ?_
          replace hf := bnd hf
          obtain ⟨t13, h14, hf⟩ := hf
          refine g_6_1 X hW hinX4 hF17 h14 dX4_addBar_57 ?_
          refine lv_iload hx hb dX4_addBar_60 (lv_at hl 0 rfl) ?_
          have hc9 := Option.some.inj hf
          clear hf
          refine r_new (ci := 2) (C := RX0) (T := TX0) (N := 3) X hW rfl (by decide) hinX0 tyX0 tyX0_ok (hts _ (by decide +kernel)) (hts _ (by decide +kernel)) (hts _ (by decide +kernel)) (by decide) (by decide) dX4_addBar_62 (fun q9 H hq9 hW => ?_)
          obtain ⟨r2, hf⟩ := hB _ hc9.symm q9 hq9
          replace hf : f_X4_addBar_B mu t11 t13 x0 x1 x2 x3 t11 q9 = some r2 := hf
          have hB9 := hf
          unfold f_X4_addBar_B at hf
          refine lv_dup hx hb dX4_addBar_65 rfl ?_
          refine lv_iload_n hx hb dX4_addBar_66 rfl (lv_at hl 2 rfl) ?_
          refine lv_iconst (v := 4) hx hb dX4_addBar_67 (by decide) ?_
          refine lv_imul hx hb dX4_addBar_68 ?_
          refine lv_iload_n hx hb dX4_addBar_69 rfl (lv_at hl 3 rfl) ?_
          refine lv_iload_n hx hb dX4_addBar_70 rfl (lv_at hl 4 rfl) ?_
          replace hf := bnd2 hf
          obtain ⟨t15, m16, h17, hf⟩ := hf
          refine r_callI_ok (μ9 := m16) X hW hl.1 (k_X0_init l hsl G A (sNew mu q9 2 0) q9 (x1 * 4) x2 x3 _ h17) gX4_addBar_X0_init rfl (hts (.initialized RX0) (by decide +kernel)) (hts (.methodLink RX4 76 yX0_init) (by decide +kernel)) (hts (.instanceMethod yX0_init) (by decide +kernel)) rfl (by decide +kernel) (n := 3) rfl (by decide) (by cases t13 <;> exact Nat.le_of_ble_eq_true rfl) dX4_addBar_71 rfl rfl (stk := [.ref q9, .int t11, va_rf t13]) rfl (fun H locs hW => ?_)
          replace hf := bnd hf
          obtain ⟨a18, h19, hf⟩ := hf
          subst h19
          replace hf := bnd hf
          obtain ⟨m20, h21, hf⟩ := hf
          refine r_qst X hW h21 dX4_addBar_74 (fun H locs hW => ?_)
          refine lv_aload_n hx hb dX4_addBar_75 rfl (lv_at hl 1 rfl) ?_
          refine lv_iload hx hb dX4_addBar_76 (lv_at hl 0 rfl) ?_
          refine lv_iconst (v := 1) hx hb dX4_addBar_78 (by decide) ?_
          refine lv_iadd hx hb dX4_addBar_79 ?_
          replace hf := bnd hf
          obtain ⟨m22, h23, hf⟩ := hf
          refine p_6_5 X hW hinX4 hF38 h23 dX4_addBar_80 (fun H locs hW => ?_)
          refine lv_iload hx hb dX4_addBar_83 (lv_at hl 0 rfl) ?_
          exact r_iret X hr hW (by cases hf; exact Or.inr ⟨_, _, _, hc9.symm, hq9, hB9, rfl, rfl⟩) (by decide) (by decide) dX4_addBar_85
        · replace hf := itn hc hf
          exact r_thr (cls := "java/lang/IllegalStateException") (e9 := 2) (is := 74) (text := "there are as many bars as there can be") X hsl hl.1 hW rfl (by decide +kernel) (by decide +kernel) hk2 hi2 hg2 hbad2 hgood2 (by decide +kernel) dX4_addBar_40 dX4_addBar_43 dX4_addBar_44 dX4_addBar_46 dX4_addBar_49 (by decide) (by cases hf; exact Or.inl ⟨_, rfl, rfl, rfl⟩) (by decide) (by decide)
      · replace hf := itp hc hf
        exact r_thr (cls := "java/lang/IllegalArgumentException") (e9 := 1) (is := 72) (text := "the beats or the key are out of range") X hsl hl.1 hW rfl (by decide +kernel) (by decide +kernel) hk1 hi1 hg1 hbad1 hgood1 (by decide +kernel) dX4_addBar_18 dX4_addBar_21 dX4_addBar_22 dX4_addBar_24 dX4_addBar_27 (by decide) (by cases hf; exact Or.inl ⟨_, rfl, rfl, rfl⟩) (by decide) (by decide)

def f_X4_setMark (mu : Mem) (x0 : Nat) (x1 : Int32) (x2 : Int32) : Option ((Nat ⊕ Int32) × Mem) := (chk mu 6 x0).bind fun _ => (f_X4_knownBar mu x0 x1).bind fun t2 => sml t2 (fun e4 => some ((.inl e4), mu)) (fun v5 => v5.bind fun a6 => (getI mu 2 2 a6).bind fun t8 => (putZ mu 2 2 a6 x2).bind fun m10 => (nz t8).bind fun t12 => some ((.inr t12), m10))
set_option maxHeartbeats 1000000 in
set_option maxRecDepth 100000 in
theorem k_X4_setMark (l : Launch) (hsl : l.stackTraces = false) (G : GG) (A : Nat → Prop) (mu : Mem) (x0 : Nat) (x1 : Int32) (x2 : Int32) (r : (Nat ⊕ Int32) × Mem) (hf : f_X4_setMark mu x0 x1 x2 = some r) : Ok l yX4_setMark wsX4_setMark ({ frames := 10, cells := 1, slots := 6, locals := 190 } : Room) [.ref x0, .int x1, .int x2] G A mu (dP (rIx r.1) r.2) := by
  refine Ok.start (cc := cX4_setMark) (maxL := 5) (ret := (some .boolean)) rfl (by decide +kernel) hsl (by first | exact Nat.le_of_ble_eq_true rfl | simp [lg_sl, cat_rf, Value.category]) ?_
  intro p e s m args below meth c ls X hr hname hW hl
  have X : BX p l s m args meth c cX4_setMark 5 RX4 wsX4_setMark G A := X
  have hx := X.1
  have hb := X.2.1
  have hts := X.2.2.2.2.1
  have hl : lv_has ls 5 [(0, .ref x0), (1, .int x1), (2, .int x2)] := hl
  have hinX0 : ∀ w ∈ wsX00, w ∈ wsX4_setMark := by decide +kernel
  have hF83 : (Cond.fieldLink RX4 83 "PartcopyistBench$Bar" "hasMark" "Z").before args s = true := hts _ (by decide +kernel)
  unfold f_X4_setMark at hf
  refine lv_aload_n hx hb dX4_setMark_0 rfl (lv_at hl 0 rfl) ?_
  refine lv_iload_n hx hb dX4_setMark_1 rfl (lv_at hl 1 rfl) ?_
  replace hf := bnd hf
  obtain ⟨_, h1, hf⟩ := hf
  replace hf := bnd hf
  obtain ⟨t2, h3, hf⟩ := hf
  replace hf := smc hf
  rcases hf with ⟨e4, hq, hf⟩ | ⟨v5, hq, hf⟩
  · subst hq
    exact r_callV_thr X hW hl.1 (k_X4_knownBar l hsl G A mu x0 x1 _ h3) gX4_setMark_X4_knownBar rfl (chk_ok h1) (by decide) rfl (by decide +kernel) (n := 1) rfl (by decide) (Nat.le_of_ble_eq_true rfl) dX4_setMark_2 rfl rfl (by cases hf; exact ⟨rfl, rfl⟩)
  · subst hq
    refine r_callV_ok X hW hl.1 (k_X4_knownBar l hsl G A mu x0 x1 _ h3) gX4_setMark_X4_knownBar rfl (chk_ok h1) (by decide) rfl (by decide +kernel) (n := 1) rfl (by decide) (Nat.le_of_ble_eq_true rfl) dX4_setMark_2 rfl rfl (stk := [va_rf v5]) rfl (fun H locs hW => ?_)
    refine r_astore_nq (lv' := [(3, va_rf v5), (0, .ref x0), (1, .int x1), (2, .int x2)]) hx hb dX4_setMark_5 rfl hl (by decide) rfl (fun ls hl => ?_)
    refine r_aload_nq hx hb dX4_setMark_6 rfl (lv_at hl 0 rfl) ?_
    replace hf := bnd hf
    obtain ⟨a6, h7, hf⟩ := hf
    subst h7
    replace hf := bnd hf
    obtain ⟨t8, h9, hf⟩ := hf
    refine g_2_2 X hW hinX0 hF83 h9 dX4_setMark_7 ?_
    refine lv_istore (lv' := [(4, .int t8), (3, .ref a6), (0, .ref x0), (1, .int x1), (2, .int x2)]) hx hb dX4_setMark_10 hl (by decide) rfl (fun ls hl => ?_)
    refine lv_aload_n hx hb dX4_setMark_12 rfl (lv_at hl 1 rfl) ?_
    refine lv_iload_n hx hb dX4_setMark_13 rfl (lv_at hl 4 rfl) ?_
    replace hf := bnd hf
    obtain ⟨m10, h11, hf⟩ := hf
    refine p_2_2 X hW hinX0 hF83 h11 dX4_setMark_14 (fun H locs hW => ?_)
    refine lv_iload hx hb dX4_setMark_17 (lv_at hl 0 rfl) ?_
    replace hf := bnd hf
    obtain ⟨t12, h13, hf⟩ := hf
    obtain ⟨hcc, hce⟩ := ifs h13
    subst hce
    exact r_zret X hr hW hcc (by cases hf; exact ⟨rfl, rfl⟩) (by decide) (by decide) dX4_setMark_19

def f_X4_setKey (mu : Mem) (x0 : Nat) (x1 : Int32) (x2 : Int32) : Option ((Nat ⊕ Int32) × Mem) := (chk mu 6 x0).bind fun _ => (f_X4_knownBar mu x0 x1).bind fun t2 => sml t2 (fun e4 => some ((.inl e4), mu)) (fun v5 => (f_X4_isKey mu x2).bind fun t6 => if t6 = 0 then (some ((.inl 1), mu)) else (v5.bind fun a8 => (getI mu 2 1 a8).bind fun t10 => (putI mu 2 1 a8 x2).bind fun m12 => some ((.inr t10), m12)))
set_option maxHeartbeats 1000000 in
set_option maxRecDepth 100000 in
theorem k_X4_setKey (l : Launch) (hsl : l.stackTraces = false) (G : GG) (A : Nat → Prop) (mu : Mem) (x0 : Nat) (x1 : Int32) (x2 : Int32) (r : (Nat ⊕ Int32) × Mem) (hf : f_X4_setKey mu x0 x1 x2 = some r) : Ok l yX4_setKey wsX4_setKey ({ frames := 10, cells := 2, slots := 12, locals := 190 } : Room) [.ref x0, .int x1, .int x2] G A mu (dP (rIx r.1) r.2) := by
  refine Ok.start (cc := cX4_setKey) (maxL := 5) (ret := (some .int)) rfl (by decide +kernel) hsl (by first | exact Nat.le_of_ble_eq_true rfl | simp [lg_sl, cat_rf, Value.category]) ?_
  intro p e s m args below meth c ls X hr hname hW hl
  have X : BX p l s m args meth c cX4_setKey 5 RX4 wsX4_setKey G A := X
  have hx := X.1
  have hb := X.2.1
  have hts := X.2.2.2.2.1
  have hl : lv_has ls 5 [(0, .ref x0), (1, .int x1), (2, .int x2)] := hl
  have hinX0 : ∀ w ∈ wsX00, w ∈ wsX4_setKey := by decide +kernel
  have hF89 : (Cond.fieldLink RX4 89 "PartcopyistBench$Bar" "key" "I").before args s = true := hts _ (by decide +kernel)
  have hk1 : (Cond.classLink RX4 53 "java/lang/IllegalArgumentException").before args s = true := hts _ (by decide +kernel)
  have hi1 : (Cond.initialized "java/lang/IllegalArgumentException").before args s = true := hts _ (by decide +kernel)
  have hg1 : ∀ w ∈ (vx_atS RX4 57 "java/lang/IllegalArgumentException" ["java/lang/RuntimeException", "java/lang/Exception"]).filter goodWord, w ∈ wsX4_setKey := by decide +kernel
  unfold f_X4_setKey at hf
  refine lv_aload_n hx hb dX4_setKey_0 rfl (lv_at hl 0 rfl) ?_
  refine lv_iload_n hx hb dX4_setKey_1 rfl (lv_at hl 1 rfl) ?_
  replace hf := bnd hf
  obtain ⟨_, h1, hf⟩ := hf
  replace hf := bnd hf
  obtain ⟨t2, h3, hf⟩ := hf
  replace hf := smc hf
  rcases hf with ⟨e4, hq, hf⟩ | ⟨v5, hq, hf⟩
  · subst hq
    exact r_callV_thr X hW hl.1 (k_X4_knownBar l hsl G A mu x0 x1 _ h3) gX4_setKey_X4_knownBar rfl (chk_ok h1) (by decide) rfl (by decide +kernel) (n := 1) rfl (by decide) (Nat.le_of_ble_eq_true rfl) dX4_setKey_2 rfl rfl (by cases hf; exact ⟨rfl, rfl⟩)
  · subst hq
    refine r_callV_ok X hW hl.1 (k_X4_knownBar l hsl G A mu x0 x1 _ h3) gX4_setKey_X4_knownBar rfl (chk_ok h1) (by decide) rfl (by decide +kernel) (n := 1) rfl (by decide) (Nat.le_of_ble_eq_true rfl) dX4_setKey_2 rfl rfl (stk := [va_rf v5]) rfl (fun H locs hW => ?_)
    refine r_astore_nq (lv' := [(3, va_rf v5), (0, .ref x0), (1, .int x1), (2, .int x2)]) hx hb dX4_setKey_5 rfl hl (by decide) rfl (fun ls hl => ?_)
    refine lv_iload_n hx hb dX4_setKey_6 rfl (lv_at hl 3 rfl) ?_
    replace hf := bnd hf
    obtain ⟨t6, h7, hf⟩ := hf
    refine r_callS_ok X hW hl.1 (k_X4_isKey l hsl G A mu x2 _ h7) gX4_setKey_X4_isKey rfl (by decide +kernel) (n := 1) rfl (by decide) (Nat.le_of_ble_eq_true rfl) dX4_setKey_7 rfl rfl (stk := [.int t6]) rfl (fun H locs hW => ?_)
    refine lv_if_ne (tgt := 23) hx hb dX4_setKey_10 (by decide) (fun hc => ?_) (fun hc => ?_)
    · replace hf := itn hc hf
      refine r_aload_nq hx hb dX4_setKey_23 rfl (lv_at hl 0 rfl) ?_
      replace hf := bnd hf
      obtain ⟨a8, h9, hf⟩ := hf
      subst h9
      replace hf := bnd hf
      obtain ⟨t10, h11, hf⟩ := hf
      refine g_2_1 X hW hinX0 hF89 h11 dX4_setKey_24 ?_
      refine lv_istore (lv' := [(4, .int t10), (3, .ref a8), (0, .ref x0), (1, .int x1), (2, .int x2)]) hx hb dX4_setKey_27 hl (by decide) rfl (fun ls hl => ?_)
      refine lv_aload_n hx hb dX4_setKey_29 rfl (lv_at hl 1 rfl) ?_
      refine lv_iload_n hx hb dX4_setKey_30 rfl (lv_at hl 4 rfl) ?_
      replace hf := bnd hf
      obtain ⟨m12, h13, hf⟩ := hf
      refine p_2_1 X hW hinX0 hF89 h13 dX4_setKey_31 (fun H locs hW => ?_)
      refine lv_iload hx hb dX4_setKey_34 (lv_at hl 0 rfl) ?_
      exact r_iret X hr hW (by cases hf; exact ⟨rfl, rfl⟩) (by decide) (by decide) dX4_setKey_36
    · replace hf := itp hc hf
      exact r_thr (cls := "java/lang/IllegalArgumentException") (e9 := 1) (is := 87) (text := "the key is out of range") X hsl hl.1 hW rfl (by decide +kernel) (by decide +kernel) hk1 hi1 hg1 hbad1 hgood1 (by decide +kernel) dX4_setKey_13 dX4_setKey_16 dX4_setKey_17 dX4_setKey_19 dX4_setKey_22 (by decide) (by cases hf; exact ⟨rfl, rfl⟩) (by decide) (by decide)

def f_X4_addNote_B (mu : Mem) (b0 : Nat) (b1 : Int32) (b2 : Int32) (b3 : Int32) (b4 : Int32) (b5 : Int32) (b6 : Int32) (b7 : Nat) (q9 : Nat) : Option ((Nat ⊕ Int32) × Mem) := bi2 (f_X2_init (sNew mu q9 4 0) q9 b1 b2 b3 b4 b5 b6) (fun (t1 : (Unit)) m2 => (chk m2 6 b0).bind fun _ => (f_X4_meetsAnother m2 b0 (some q9) b5).bind fun t5 => if t5 = 0 then ((getI m2 6 6 b0).bind fun t7 => (getQ m2 6 2 b0).bind fun t9 => t9.bind fun a11 => (alen m2 a11).bind fun t13 => if t7 < t13 then ((getI m2 6 6 b0).bind fun t15 => (getQ m2 6 2 b0).bind fun t17 => t17.bind fun a19 => (qst m2 a19 t15 q9).bind fun m21 => (putI m21 6 6 b0 (t15 + 1)).bind fun m23 => some ((.inr t15), m23)) else (some ((.inl 2), m2))) else (some ((.inl 5), m2)))
def f_X4_addNote (mu : Mem) (x0 : Nat) (x1 : Int32) (x2 : Int32) (x3 : Int32) (x4 : Int32) (x5 : Int32) (x6 : Int32) : Option (((Nat ⊕ Int32) × Mem) ⊕ (Nat × Int32 × Int32 × Int32 × Int32 × Int32 × Int32 × Nat)) := (chk mu 6 x0).bind fun _ => (f_X4_knownPart mu x0 x1).bind fun t2 => sml t2 (fun e4 => some (.inl ((.inl e4), mu))) (fun v5 => (chk mu 6 x0).bind fun _ => (f_X4_knownBar mu x0 x2).bind fun t7 => sml t7 (fun e9 => some (.inl ((.inl e9), mu))) (fun v10 => if x3 < 0 then (some (.inl ((.inl 1), mu))) else (if 2 ≤ x3 then (some (.inl ((.inl 1), mu))) else ((f_X4_isPitch mu x6).bind fun t11 => if t11 = 0 then (some (.inl ((.inl 1), mu))) else (v10.bind fun a13 => (chk mu 2 a13).bind fun _ => (f_X0_holds mu a13 x4 x5).bind fun t16 => if t16 = 0 then (some (.inl ((.inl 1), mu))) else (some (.inr (x0, x1, x2, x3, x4, x5, x6, a13))))))))
set_option maxHeartbeats 1000000 in
set_option maxRecDepth 100000 in
theorem k_X4_addNote (l : Launch) (hsl : l.stackTraces = false) (G : GG) (A : Nat → Prop) (mu : Mem) (x0 : Nat) (x1 : Int32) (x2 : Int32) (x3 : Int32) (x4 : Int32) (x5 : Int32) (x6 : Int32) (r : ((Nat ⊕ Int32) × Mem) ⊕ (Nat × Int32 × Int32 × Int32 × Int32 × Int32 × Int32 × Nat)) (hf : f_X4_addNote mu x0 x1 x2 x3 x4 x5 x6 = some r) (hB : ∀ c9, r = .inr c9 → ∀ q9, q9 ∉ mL mu → ∃ r2, f_X4_addNote_B mu c9.1 c9.2.1 c9.2.2.1 c9.2.2.2.1 c9.2.2.2.2.1 c9.2.2.2.2.2.1 c9.2.2.2.2.2.2.1 c9.2.2.2.2.2.2.2 q9 = some r2) : Ok l yX4_addNote wsX4_addNote ({ frames := 10, cells := 6, slots := 41, locals := 190 } : Room) [.ref x0, .int x1, .int x2, .int x3, .int x4, .int x5, .int x6] G A mu (fun r9 m9 => (∃ r1, r = .inl r1 ∧ r9 = rIx r1.1 ∧ m9 = r1.2) ∨ (∃ c9 q9 r2, r = .inr c9 ∧ q9 ∉ mL mu ∧ f_X4_addNote_B mu c9.1 c9.2.1 c9.2.2.1 c9.2.2.2.1 c9.2.2.2.2.1 c9.2.2.2.2.2.1 c9.2.2.2.2.2.2.1 c9.2.2.2.2.2.2.2 q9 = some r2 ∧ r9 = rIx r2.1 ∧ m9 = r2.2)) := by
  refine Ok.start (cc := cX4_addNote) (maxL := 10) (ret := (some .int)) rfl (by decide +kernel) hsl (by first | exact Nat.le_of_ble_eq_true rfl | simp [lg_sl, cat_rf, Value.category]) ?_
  intro p e s m args below meth c ls X hr hname hW hl
  have X : BX p l s m args meth c cX4_addNote 10 RX4 wsX4_addNote G A := X
  have hx := X.1
  have hb := X.2.1
  have hts := X.2.2.2.2.1
  have hl : lv_has ls 10 [(0, .ref x0), (1, .int x1), (2, .int x2), (3, .int x3), (4, .int x4), (5, .int x5), (6, .int x6)] := hl
  have hinX2 : ∀ w ∈ wsX20, w ∈ wsX4_addNote := by decide +kernel
  have hinX4 : ∀ w ∈ wsX40, w ∈ wsX4_addNote := by decide +kernel
  have hF23 : (Cond.fieldLink RX4 23 "PartcopyistBench" "notes" "[LPartcopyistBench$Note;").before args s = true := hts _ (by decide +kernel)
  have hF41 : (Cond.fieldLink RX4 41 "PartcopyistBench" "noteCount" "I").before args s = true := hts _ (by decide +kernel)
  have hk1 : (Cond.classLink RX4 53 "java/lang/IllegalArgumentException").before args s = true := hts _ (by decide +kernel)
  have hi1 : (Cond.initialized "java/lang/IllegalArgumentException").before args s = true := hts _ (by decide +kernel)
  have hg1 : ∀ w ∈ (vx_atS RX4 57 "java/lang/IllegalArgumentException" ["java/lang/RuntimeException", "java/lang/Exception"]).filter goodWord, w ∈ wsX4_addNote := by decide +kernel
  have hk2 : (Cond.classLink RX4 60 "java/lang/IllegalStateException").before args s = true := hts _ (by decide +kernel)
  have hi2 : (Cond.initialized "java/lang/IllegalStateException").before args s = true := hts _ (by decide +kernel)
  have hg2 : ∀ w ∈ (vx_atS RX4 64 "java/lang/IllegalStateException" ["java/lang/RuntimeException", "java/lang/Exception"]).filter goodWord, w ∈ wsX4_addNote := by decide +kernel
  have hk5 : (Cond.classLink RX4 112 "java/lang/UnsupportedOperationException").before args s = true := hts _ (by decide +kernel)
  have hi5 : (Cond.initialized "java/lang/UnsupportedOperationException").before args s = true := hts _ (by decide +kernel)
  have hg5 : ∀ w ∈ (vx_atS RX4 116 "java/lang/UnsupportedOperationException" ["java/lang/RuntimeException", "java/lang/Exception"]).filter goodWord, w ∈ wsX4_addNote := by decide +kernel
  unfold f_X4_addNote at hf
  refine lv_aload_n hx hb dX4_addNote_0 rfl (lv_at hl 0 rfl) ?_
  refine lv_iload_n hx hb dX4_addNote_1 rfl (lv_at hl 1 rfl) ?_
  replace hf := bnd hf
  obtain ⟨_, h1, hf⟩ := hf
  replace hf := bnd hf
  obtain ⟨t2, h3, hf⟩ := hf
  replace hf := smc hf
  rcases hf with ⟨e4, hq, hf⟩ | ⟨v5, hq, hf⟩
  · subst hq
    exact r_callV_thr X hW hl.1 (k_X4_knownPart l hsl G A mu x0 x1 _ h3) gX4_addNote_X4_knownPart rfl (chk_ok h1) (by decide) rfl (by decide +kernel) (n := 1) rfl (by decide) (Nat.le_of_ble_eq_true rfl) dX4_addNote_2 rfl rfl (by cases hf; exact Or.inl ⟨_, rfl, rfl, rfl⟩)
  · subst hq
    refine r_callV_ok X hW hl.1 (k_X4_knownPart l hsl G A mu x0 x1 _ h3) gX4_addNote_X4_knownPart rfl (chk_ok h1) (by decide) rfl (by decide +kernel) (n := 1) rfl (by decide) (Nat.le_of_ble_eq_true rfl) dX4_addNote_2 rfl rfl (stk := [va_rf v5]) rfl (fun H locs hW => ?_)
    refine lv_pop hx hb dX4_addNote_5 (cat_rf _) ?_
    refine lv_aload_n hx hb dX4_addNote_6 rfl (lv_at hl 0 rfl) ?_
    refine lv_iload_n hx hb dX4_addNote_7 rfl (lv_at hl 2 rfl) ?_
    replace hf := bnd hf
    obtain ⟨_, h6, hf⟩ := hf
    replace hf := bnd hf
    obtain ⟨t7, h8, hf⟩ := hf
    replace hf := smc hf
    rcases hf with ⟨e9, hq, hf⟩ | ⟨v10, hq, hf⟩
    · subst hq
      exact r_callV_thr X hW hl.1 (k_X4_knownBar l hsl G A mu x0 x2 _ h8) gX4_addNote_X4_knownBar rfl (chk_ok h6) (by decide) rfl (by decide +kernel) (n := 1) rfl (by decide) (Nat.le_of_ble_eq_true rfl) dX4_addNote_8 rfl rfl (by cases hf; exact Or.inl ⟨_, rfl, rfl, rfl⟩)
    · subst hq
      refine r_callV_ok X hW hl.1 (k_X4_knownBar l hsl G A mu x0 x2 _ h8) gX4_addNote_X4_knownBar rfl (chk_ok h6) (by decide) rfl (by decide +kernel) (n := 1) rfl (by decide) (Nat.le_of_ble_eq_true rfl) dX4_addNote_8 rfl rfl (stk := [va_rf v10]) rfl (fun H locs hW => ?_)
      refine r_astoreq (lv' := [(7, va_rf v10), (0, .ref x0), (1, .int x1), (2, .int x2), (3, .int x3), (4, .int x4), (5, .int x5), (6, .int x6)]) hx hb dX4_addNote_11 hl (by decide) rfl (fun ls hl => ?_)
      refine lv_iload_n hx hb dX4_addNote_13 rfl (lv_at hl 4 rfl) ?_
      refine lv_if_lt (tgt := 42) hx hb dX4_addNote_14 (by decide) (fun hc => ?_) (fun hc => ?_)
      · replace hf := itp hc hf
        exact r_thr (cls := "java/lang/IllegalArgumentException") (e9 := 1) (is := 103) (text := "the voice, the pitch or the ticks are out of range") X hsl hl.1 hW rfl (by decide +kernel) (by decide +kernel) hk1 hi1 hg1 hbad1 hgood1 (by decide +kernel) dX4_addNote_42 dX4_addNote_45 dX4_addNote_46 dX4_addNote_48 dX4_addNote_51 (by decide) (by cases hf; exact Or.inl ⟨_, rfl, rfl, rfl⟩) (by decide) (by decide)
      · replace hf := itn hc hf
        refine lv_iload_n hx hb dX4_addNote_17 rfl (lv_at hl 4 rfl) ?_
        refine lv_iconst (v := 2) hx hb dX4_addNote_18 (by decide) ?_
        refine lv_icmp_ge (tgt := 42) hx hb dX4_addNote_19 (by decide) (fun hc => ?_) (fun hc => ?_)
        · replace hf := itp hc hf
          exact r_thr (cls := "java/lang/IllegalArgumentException") (e9 := 1) (is := 103) (text := "the voice, the pitch or the ticks are out of range") X hsl hl.1 hW rfl (by decide +kernel) (by decide +kernel) hk1 hi1 hg1 hbad1 hgood1 (by decide +kernel) dX4_addNote_42 dX4_addNote_45 dX4_addNote_46 dX4_addNote_48 dX4_addNote_51 (by decide) (by cases hf; exact Or.inl ⟨_, rfl, rfl, rfl⟩) (by decide) (by decide)
        · replace hf := itn hc hf
          refine lv_iload hx hb dX4_addNote_22 (lv_at hl 7 rfl) ?_
          replace hf := bnd hf
          obtain ⟨t11, h12, hf⟩ := hf
          refine r_callS_ok X hW hl.1 (k_X4_isPitch l hsl G A mu x6 _ h12) gX4_addNote_X4_isPitch rfl (by decide +kernel) (n := 1) rfl (by decide) (Nat.le_of_ble_eq_true rfl) dX4_addNote_24 rfl rfl (stk := [.int t11]) rfl (fun H locs hW => ?_)
          refine lv_if_eq (tgt := 42) hx hb dX4_addNote_27 (by decide) (fun hc => ?_) (fun hc => ?_)
          · replace hf := itp hc hf
            exact r_thr (cls := "java/lang/IllegalArgumentException") (e9 := 1) (is := 103) (text := "the voice, the pitch or the ticks are out of range") X hsl hl.1 hW rfl (by decide +kernel) (by decide +kernel) hk1 hi1 hg1 hbad1 hgood1 (by decide +kernel) dX4_addNote_42 dX4_addNote_45 dX4_addNote_46 dX4_addNote_48 dX4_addNote_51 (by decide) (by cases hf; exact Or.inl ⟨_, rfl, rfl, rfl⟩) (by decide) (by decide)
          · replace hf := itn hc hf
            refine r_aloadq hx hb dX4_addNote_30 (lv_at hl 0 rfl) ?_
            refine lv_iload hx hb dX4_addNote_32 (lv_at hl 5 rfl) ?_
            refine lv_iload hx hb dX4_addNote_34 (lv_at hl 6 rfl) ?_
            replace hf := bnd hf
            obtain ⟨a13, h14, hf⟩ := hf
            subst h14
            replace hf := bnd hf
            obtain ⟨_, h15, hf⟩ := hf
            replace hf := bnd hf
            obtain ⟨t16, h17, hf⟩ := hf
            refine r_callV_ok X hW hl.1 (k_X0_holds l hsl G A mu a13 x4 x5 _ h17) gX4_addNote_X0_holds rfl (chk_ok h15) (by decide) rfl (by decide +kernel) (n := 2) rfl (by decide) (Nat.le_of_ble_eq_true rfl) dX4_addNote_36 rfl rfl (stk := [.int t16]) rfl (fun H locs hW => ?_)
            refine lv_if_ne (tgt := 52) hx hb dX4_addNote_39 (by decide) (fun hc => ?_) (fun hc => ?_)
            · replace hf := itn hc hf
              have hc9 := Option.some.inj hf
              clear hf
              refine r_new (ci := 4) (C := RX2) (T := TX2) (N := 11) X hW rfl (by decide) hinX2 tyX2 tyX2_ok (hts _ (by decide +kernel)) (hts _ (by decide +kernel)) (hts _ (by decide +kernel)) (by decide) (by decide) dX4_addNote_52 (fun q9 H hq9 hW => ?_)
              obtain ⟨r2, hf⟩ := hB _ hc9.symm q9 hq9
              replace hf : f_X4_addNote_B mu x0 x1 x2 x3 x4 x5 x6 a13 q9 = some r2 := hf
              have hB9 := hf
              unfold f_X4_addNote_B at hf
              refine lv_dup hx hb dX4_addNote_55 rfl ?_
              refine lv_iload_n hx hb dX4_addNote_56 rfl (lv_at hl 2 rfl) ?_
              refine lv_iload_n hx hb dX4_addNote_57 rfl (lv_at hl 3 rfl) ?_
              refine lv_iload_n hx hb dX4_addNote_58 rfl (lv_at hl 4 rfl) ?_
              refine lv_iload hx hb dX4_addNote_59 (lv_at hl 5 rfl) ?_
              refine lv_iload hx hb dX4_addNote_61 (lv_at hl 6 rfl) ?_
              refine lv_iload hx hb dX4_addNote_63 (lv_at hl 7 rfl) ?_
              replace hf := bnd2 hf
              obtain ⟨t18, m19, h20, hf⟩ := hf
              refine r_callI_ok (μ9 := m19) X hW hl.1 (k_X2_init l hsl G A (sNew mu q9 4 0) q9 x1 x2 x3 x4 x5 x6 _ h20) gX4_addNote_X2_init rfl (hts (.initialized RX2) (by decide +kernel)) (hts (.methodLink RX4 105 yX2_init) (by decide +kernel)) (hts (.instanceMethod yX2_init) (by decide +kernel)) rfl (by decide +kernel) (n := 6) rfl (by decide) (Nat.le_of_ble_eq_true rfl) dX4_addNote_65 rfl rfl (stk := [.ref q9]) rfl (fun H locs hW => ?_)
              refine lv_astore (lv' := [(8, .ref q9), (7, .ref a13), (0, .ref x0), (1, .int x1), (2, .int x2), (3, .int x3), (4, .int x4), (5, .int x5), (6, .int x6)]) hx hb dX4_addNote_68 hl (by decide) rfl (fun ls hl => ?_)
              refine lv_aload_n hx hb dX4_addNote_70 rfl (lv_at hl 2 rfl) ?_
              refine lv_aload hx hb dX4_addNote_71 (lv_at hl 0 rfl) ?_
              refine lv_iload hx hb dX4_addNote_73 (lv_at hl 7 rfl) ?_
              replace hf := bnd hf
              obtain ⟨_, h21, hf⟩ := hf
              replace hf := bnd hf
              obtain ⟨t22, h23, hf⟩ := hf
              refine r_callV_ok X hW hl.1 (k_X4_meetsAnother l hsl G A m19 x0 (some q9) x5 _ h23) gX4_addNote_X4_meetsAnother rfl (chk_ok h21) (by decide) rfl (by decide +kernel) (n := 2) rfl (by decide) (Nat.le_of_ble_eq_true rfl) dX4_addNote_75 rfl rfl (stk := [.int t22]) rfl (fun H locs hW => ?_)
              refine lv_if_eq (tgt := 91) hx hb dX4_addNote_78 (by decide) (fun hc => ?_) (fun hc => ?_)
              · replace hf := itp hc hf
                refine lv_aload_n hx hb dX4_addNote_91 rfl (lv_at hl 2 rfl) ?_
                replace hf := bnd hf
                obtain ⟨t24, h25, hf⟩ := hf
                refine g_6_6 X hW hinX4 hF41 h25 dX4_addNote_92 ?_
                refine lv_aload_n hx hb dX4_addNote_95 rfl (lv_at hl 2 rfl) ?_
                replace hf := bnd hf
                obtain ⟨t26, h27, hf⟩ := hf
                refine g_6_2 X hW hinX4 hF23 h27 dX4_addNote_96 ?_
                replace hf := bnd hf
                obtain ⟨a28, h29, hf⟩ := hf
                subst h29
                replace hf := bnd hf
                obtain ⟨t30, h31, hf⟩ := hf
                refine r_alen X hW h31 dX4_addNote_99 ?_
                refine lv_icmp_lt (tgt := 113) hx hb dX4_addNote_100 (by decide) (fun hc => ?_) (fun hc => ?_)
                · replace hf := itp hc hf
                  refine lv_aload_n hx hb dX4_addNote_113 rfl (lv_at hl 2 rfl) ?_
                  replace hf := bnd hf
                  obtain ⟨t32, h33, hf⟩ := hf
                  refine g_6_6 X hW hinX4 hF41 h33 dX4_addNote_114 ?_
                  refine lv_istore (lv' := [(9, .int t32), (8, .ref q9), (7, .ref a13), (0, .ref x0), (1, .int x1), (2, .int x2), (3, .int x3), (4, .int x4), (5, .int x5), (6, .int x6)]) hx hb dX4_addNote_117 hl (by decide) rfl (fun ls hl => ?_)
                  refine lv_aload_n hx hb dX4_addNote_119 rfl (lv_at hl 3 rfl) ?_
                  replace hf := bnd hf
                  obtain ⟨t34, h35, hf⟩ := hf
                  refine g_6_2 X hW hinX4 hF23 h35 dX4_addNote_120 ?_
                  refine lv_iload hx hb dX4_addNote_123 (lv_at hl 0 rfl) ?_
                  refine lv_aload hx hb dX4_addNote_125 (lv_at hl 1 rfl) ?_
                  replace hf := bnd hf
                  obtain ⟨a36, h37, hf⟩ := hf
                  subst h37
                  replace hf := bnd hf
                  obtain ⟨m38, h39, hf⟩ := hf
                  refine r_qst X hW h39 dX4_addNote_127 (fun H locs hW => ?_)
                  refine lv_aload_n hx hb dX4_addNote_128 rfl (lv_at hl 3 rfl) ?_
                  refine lv_iload hx hb dX4_addNote_129 (lv_at hl 0 rfl) ?_
                  refine lv_iconst (v := 1) hx hb dX4_addNote_131 (by decide) ?_
                  refine lv_iadd hx hb dX4_addNote_132 ?_
                  replace hf := bnd hf
                  obtain ⟨m40, h41, hf⟩ := hf
                  refine p_6_6 X hW hinX4 hF41 h41 dX4_addNote_133 (fun H locs hW => ?_)
                  refine lv_iload hx hb dX4_addNote_136 (lv_at hl 0 rfl) ?_
                  exact r_iret X hr hW (by cases hf; exact Or.inr ⟨_, _, _, hc9.symm, hq9, hB9, rfl, rfl⟩) (by decide) (by decide) dX4_addNote_138
                · replace hf := itn hc hf
                  exact r_thr (cls := "java/lang/IllegalStateException") (e9 := 2) (is := 117) (text := "as many notes as there can be have been put in") X hsl hl.1 hW rfl (by decide +kernel) (by decide +kernel) hk2 hi2 hg2 hbad2 hgood2 (by decide +kernel) dX4_addNote_103 dX4_addNote_106 dX4_addNote_107 dX4_addNote_109 dX4_addNote_112 (by decide) (by cases hf; exact Or.inr ⟨_, _, _, hc9.symm, hq9, hB9, rfl, rfl⟩) (by decide) (by decide)
              · replace hf := itn hc hf
                exact r_thr (cls := "java/lang/UnsupportedOperationException") (e9 := 5) (is := 114) (text := "a note of this voice has a tick in common") X hsl hl.1 hW rfl (by decide +kernel) (by decide +kernel) hk5 hi5 hg5 hbad5 hgood5 (by decide +kernel) dX4_addNote_81 dX4_addNote_84 dX4_addNote_85 dX4_addNote_87 dX4_addNote_90 (by decide) (by cases hf; exact Or.inr ⟨_, _, _, hc9.symm, hq9, hB9, rfl, rfl⟩) (by decide) (by decide)
            · replace hf := itp hc hf
              exact r_thr (cls := "java/lang/IllegalArgumentException") (e9 := 1) (is := 103) (text := "the voice, the pitch or the ticks are out of range") X hsl hl.1 hW rfl (by decide +kernel) (by decide +kernel) hk1 hi1 hg1 hbad1 hgood1 (by decide +kernel) dX4_addNote_42 dX4_addNote_45 dX4_addNote_46 dX4_addNote_48 dX4_addNote_51 (by decide) (by cases hf; exact Or.inl ⟨_, rfl, rfl, rfl⟩) (by decide) (by decide)

def f_X4_correct (mu : Mem) (x0 : Nat) (x1 : Int32) (x2 : Int32) : Option ((Nat ⊕ Int32) × Mem) := (chk mu 6 x0).bind fun _ => (f_X4_knownNote mu x0 x1).bind fun t2 => sml t2 (fun e4 => some ((.inl e4), mu)) (fun v5 => (f_X4_isPitch mu x2).bind fun t6 => if t6 = 0 then (some ((.inl 1), mu)) else (v5.bind fun a8 => (getI mu 4 5 a8).bind fun t10 => (putI mu 4 5 a8 x2).bind fun m12 => (putZ m12 4 10 a8 1).bind fun m14 => some ((.inr t10), m14)))
set_option maxHeartbeats 1000000 in
set_option maxRecDepth 100000 in
theorem k_X4_correct (l : Launch) (hsl : l.stackTraces = false) (G : GG) (A : Nat → Prop) (mu : Mem) (x0 : Nat) (x1 : Int32) (x2 : Int32) (r : (Nat ⊕ Int32) × Mem) (hf : f_X4_correct mu x0 x1 x2 = some r) : Ok l yX4_correct wsX4_correct ({ frames := 10, cells := 2, slots := 12, locals := 190 } : Room) [.ref x0, .int x1, .int x2] G A mu (dP (rIx r.1) r.2) := by
  refine Ok.start (cc := cX4_correct) (maxL := 5) (ret := (some .int)) rfl (by decide +kernel) hsl (by first | exact Nat.le_of_ble_eq_true rfl | simp [lg_sl, cat_rf, Value.category]) ?_
  intro p e s m args below meth c ls X hr hname hW hl
  have X : BX p l s m args meth c cX4_correct 5 RX4 wsX4_correct G A := X
  have hx := X.1
  have hb := X.2.1
  have hts := X.2.2.2.2.1
  have hl : lv_has ls 5 [(0, .ref x0), (1, .int x1), (2, .int x2)] := hl
  have hinX2 : ∀ w ∈ wsX20, w ∈ wsX4_correct := by decide +kernel
  have hF125 : (Cond.fieldLink RX4 125 "PartcopyistBench$Note" "pitch" "I").before args s = true := hts _ (by decide +kernel)
  have hF128 : (Cond.fieldLink RX4 128 "PartcopyistBench$Note" "isTouched" "Z").before args s = true := hts _ (by decide +kernel)
  have hk1 : (Cond.classLink RX4 53 "java/lang/IllegalArgumentException").before args s = true := hts _ (by decide +kernel)
  have hi1 : (Cond.initialized "java/lang/IllegalArgumentException").before args s = true := hts _ (by decide +kernel)
  have hg1 : ∀ w ∈ (vx_atS RX4 57 "java/lang/IllegalArgumentException" ["java/lang/RuntimeException", "java/lang/Exception"]).filter goodWord, w ∈ wsX4_correct := by decide +kernel
  unfold f_X4_correct at hf
  refine lv_aload_n hx hb dX4_correct_0 rfl (lv_at hl 0 rfl) ?_
  refine lv_iload_n hx hb dX4_correct_1 rfl (lv_at hl 1 rfl) ?_
  replace hf := bnd hf
  obtain ⟨_, h1, hf⟩ := hf
  replace hf := bnd hf
  obtain ⟨t2, h3, hf⟩ := hf
  replace hf := smc hf
  rcases hf with ⟨e4, hq, hf⟩ | ⟨v5, hq, hf⟩
  · subst hq
    exact r_callV_thr X hW hl.1 (k_X4_knownNote l hsl G A mu x0 x1 _ h3) gX4_correct_X4_knownNote rfl (chk_ok h1) (by decide) rfl (by decide +kernel) (n := 1) rfl (by decide) (Nat.le_of_ble_eq_true rfl) dX4_correct_2 rfl rfl (by cases hf; exact ⟨rfl, rfl⟩)
  · subst hq
    refine r_callV_ok X hW hl.1 (k_X4_knownNote l hsl G A mu x0 x1 _ h3) gX4_correct_X4_knownNote rfl (chk_ok h1) (by decide) rfl (by decide +kernel) (n := 1) rfl (by decide) (Nat.le_of_ble_eq_true rfl) dX4_correct_2 rfl rfl (stk := [va_rf v5]) rfl (fun H locs hW => ?_)
    refine r_astore_nq (lv' := [(3, va_rf v5), (0, .ref x0), (1, .int x1), (2, .int x2)]) hx hb dX4_correct_5 rfl hl (by decide) rfl (fun ls hl => ?_)
    refine lv_iload_n hx hb dX4_correct_6 rfl (lv_at hl 3 rfl) ?_
    replace hf := bnd hf
    obtain ⟨t6, h7, hf⟩ := hf
    refine r_callS_ok X hW hl.1 (k_X4_isPitch l hsl G A mu x2 _ h7) gX4_correct_X4_isPitch rfl (by decide +kernel) (n := 1) rfl (by decide) (Nat.le_of_ble_eq_true rfl) dX4_correct_7 rfl rfl (stk := [.int t6]) rfl (fun H locs hW => ?_)
    refine lv_if_ne (tgt := 23) hx hb dX4_correct_10 (by decide) (fun hc => ?_) (fun hc => ?_)
    · replace hf := itn hc hf
      refine r_aload_nq hx hb dX4_correct_23 rfl (lv_at hl 0 rfl) ?_
      replace hf := bnd hf
      obtain ⟨a8, h9, hf⟩ := hf
      subst h9
      replace hf := bnd hf
      obtain ⟨t10, h11, hf⟩ := hf
      refine g_4_5 X hW hinX2 hF125 h11 dX4_correct_24 ?_
      refine lv_istore (lv' := [(4, .int t10), (3, .ref a8), (0, .ref x0), (1, .int x1), (2, .int x2)]) hx hb dX4_correct_27 hl (by decide) rfl (fun ls hl => ?_)
      refine lv_aload_n hx hb dX4_correct_29 rfl (lv_at hl 1 rfl) ?_
      refine lv_iload_n hx hb dX4_correct_30 rfl (lv_at hl 4 rfl) ?_
      replace hf := bnd hf
      obtain ⟨m12, h13, hf⟩ := hf
      refine p_4_5 X hW hinX2 hF125 h13 dX4_correct_31 (fun H locs hW => ?_)
      refine lv_aload_n hx hb dX4_correct_34 rfl (lv_at hl 1 rfl) ?_
      refine lv_iconst (v := 1) hx hb dX4_correct_35 (by decide) ?_
      replace hf := bnd hf
      obtain ⟨m14, h15, hf⟩ := hf
      refine p_4_10 X hW hinX2 hF128 h15 dX4_correct_36 (fun H locs hW => ?_)
      refine lv_iload hx hb dX4_correct_39 (lv_at hl 0 rfl) ?_
      exact r_iret X hr hW (by cases hf; exact ⟨rfl, rfl⟩) (by decide) (by decide) dX4_correct_41
    · replace hf := itp hc hf
      exact r_thr (cls := "java/lang/IllegalArgumentException") (e9 := 1) (is := 123) (text := "the pitch is out of range") X hsl hl.1 hW rfl (by decide +kernel) (by decide +kernel) hk1 hi1 hg1 hbad1 hgood1 (by decide +kernel) dX4_correct_13 dX4_correct_16 dX4_correct_17 dX4_correct_19 dX4_correct_22 (by decide) (by cases hf; exact ⟨rfl, rfl⟩) (by decide) (by decide)

def f_X4_stretch (mu : Mem) (x0 : Nat) (x1 : Int32) (x2 : Int32) : Option ((Nat ⊕ Int32) × Mem) := (chk mu 6 x0).bind fun _ => (f_X4_knownNote mu x0 x1).bind fun t2 => sml t2 (fun e4 => some ((.inl e4), mu)) (fun v5 => v5.bind fun a6 => (getI mu 4 1 a6).bind fun t8 => (chk mu 6 x0).bind fun _ => (f_X4_barOrNull mu x0 t8).bind fun t11 => onl t11 (some ((.inl 1), mu)) (fun a13 => (getI mu 4 3 a6).bind fun t14 => (chk mu 2 a13).bind fun _ => (f_X0_holds mu a13 t14 x2).bind fun t17 => if t17 = 0 then (some ((.inl 1), mu)) else ((chk mu 6 x0).bind fun _ => (f_X4_meetsAnother mu x0 (some a6) x2).bind fun t20 => if t20 = 0 then ((getI mu 4 4 a6).bind fun t22 => (putI mu 4 4 a6 x2).bind fun m24 => (putZ m24 4 10 a6 1).bind fun m26 => some ((.inr t22), m26)) else (some ((.inl 5), mu)))))
set_option maxHeartbeats 1000000 in
set_option maxRecDepth 100000 in
theorem k_X4_stretch (l : Launch) (hsl : l.stackTraces = false) (G : GG) (A : Nat → Prop) (mu : Mem) (x0 : Nat) (x1 : Int32) (x2 : Int32) (r : (Nat ⊕ Int32) × Mem) (hf : f_X4_stretch mu x0 x1 x2 = some r) : Ok l yX4_stretch wsX4_stretch ({ frames := 10, cells := 3, slots := 18, locals := 190 } : Room) [.ref x0, .int x1, .int x2] G A mu (dP (rIx r.1) r.2) := by
  refine Ok.start (cc := cX4_stretch) (maxL := 6) (ret := (some .int)) rfl (by decide +kernel) hsl (by first | exact Nat.le_of_ble_eq_true rfl | simp [lg_sl, cat_rf, Value.category]) ?_
  intro p e s m args below meth c ls X hr hname hW hl
  have X : BX p l s m args meth c cX4_stretch 6 RX4 wsX4_stretch G A := X
  have hx := X.1
  have hb := X.2.1
  have hts := X.2.2.2.2.1
  have hl : lv_has ls 6 [(0, .ref x0), (1, .int x1), (2, .int x2)] := hl
  have hinX2 : ∀ w ∈ wsX20, w ∈ wsX4_stretch := by decide +kernel
  have hF128 : (Cond.fieldLink RX4 128 "PartcopyistBench$Note" "isTouched" "Z").before args s = true := hts _ (by decide +kernel)
  have hF131 : (Cond.fieldLink RX4 131 "PartcopyistBench$Note" "bar" "I").before args s = true := hts _ (by decide +kernel)
  have hF137 : (Cond.fieldLink RX4 137 "PartcopyistBench$Note" "tick" "I").before args s = true := hts _ (by decide +kernel)
  have hF144 : (Cond.fieldLink RX4 144 "PartcopyistBench$Note" "length" "I").before args s = true := hts _ (by decide +kernel)
  have hk1 : (Cond.classLink RX4 53 "java/lang/IllegalArgumentException").before args s = true := hts _ (by decide +kernel)
  have hi1 : (Cond.initialized "java/lang/IllegalArgumentException").before args s = true := hts _ (by decide +kernel)
  have hg1 : ∀ w ∈ (vx_atS RX4 57 "java/lang/IllegalArgumentException" ["java/lang/RuntimeException", "java/lang/Exception"]).filter goodWord, w ∈ wsX4_stretch := by decide +kernel
  have hk5 : (Cond.classLink RX4 112 "java/lang/UnsupportedOperationException").before args s = true := hts _ (by decide +kernel)
  have hi5 : (Cond.initialized "java/lang/UnsupportedOperationException").before args s = true := hts _ (by decide +kernel)
  have hg5 : ∀ w ∈ (vx_atS RX4 116 "java/lang/UnsupportedOperationException" ["java/lang/RuntimeException", "java/lang/Exception"]).filter goodWord, w ∈ wsX4_stretch := by decide +kernel
  unfold f_X4_stretch at hf
  refine lv_aload_n hx hb dX4_stretch_0 rfl (lv_at hl 0 rfl) ?_
  refine lv_iload_n hx hb dX4_stretch_1 rfl (lv_at hl 1 rfl) ?_
  replace hf := bnd hf
  obtain ⟨_, h1, hf⟩ := hf
  replace hf := bnd hf
  obtain ⟨t2, h3, hf⟩ := hf
  replace hf := smc hf
  rcases hf with ⟨e4, hq, hf⟩ | ⟨v5, hq, hf⟩
  · subst hq
    exact r_callV_thr X hW hl.1 (k_X4_knownNote l hsl G A mu x0 x1 _ h3) gX4_stretch_X4_knownNote rfl (chk_ok h1) (by decide) rfl (by decide +kernel) (n := 1) rfl (by decide) (Nat.le_of_ble_eq_true rfl) dX4_stretch_2 rfl rfl (by cases hf; exact ⟨rfl, rfl⟩)
  · subst hq
    refine r_callV_ok X hW hl.1 (k_X4_knownNote l hsl G A mu x0 x1 _ h3) gX4_stretch_X4_knownNote rfl (chk_ok h1) (by decide) rfl (by decide +kernel) (n := 1) rfl (by decide) (Nat.le_of_ble_eq_true rfl) dX4_stretch_2 rfl rfl (stk := [va_rf v5]) rfl (fun H locs hW => ?_)
    refine r_astore_nq (lv' := [(3, va_rf v5), (0, .ref x0), (1, .int x1), (2, .int x2)]) hx hb dX4_stretch_5 rfl hl (by decide) rfl (fun ls hl => ?_)
    refine lv_aload_n hx hb dX4_stretch_6 rfl (lv_at hl 1 rfl) ?_
    refine r_aload_nq hx hb dX4_stretch_7 rfl (lv_at hl 0 rfl) ?_
    replace hf := bnd hf
    obtain ⟨a6, h7, hf⟩ := hf
    subst h7
    replace hf := bnd hf
    obtain ⟨t8, h9, hf⟩ := hf
    refine g_4_1 X hW hinX2 hF131 h9 dX4_stretch_8 ?_
    replace hf := bnd hf
    obtain ⟨_, h10, hf⟩ := hf
    replace hf := bnd hf
    obtain ⟨t11, h12, hf⟩ := hf
    refine r_callV_ok X hW hl.1 (k_X4_barOrNull l hsl G A mu x0 t8 _ h12) gX4_stretch_X4_barOrNull rfl (chk_ok h10) (by decide) rfl (by decide +kernel) (n := 1) rfl (by decide) (Nat.le_of_ble_eq_true rfl) dX4_stretch_11 rfl rfl (stk := [va_rf t11]) rfl (fun H locs hW => ?_)
    refine r_astoreq (lv' := [(4, va_rf t11), (3, .ref a6), (0, .ref x0), (1, .int x1), (2, .int x2)]) hx hb dX4_stretch_14 hl (by decide) rfl (fun ls hl => ?_)
    refine r_aloadq hx hb dX4_stretch_16 (lv_at hl 0 rfl) ?_
    replace hf := onl_c hf
    rcases hf with ⟨hq, hf⟩ | ⟨a13, hq, hf⟩
    · subst hq
      refine lv_ifnullN (tgt := 34) hx hb dX4_stretch_18 (by decide) ?_
      exact r_thr (cls := "java/lang/IllegalArgumentException") (e9 := 1) (is := 140) (text := "the note would not be within its bar") X hsl hl.1 hW rfl (by decide +kernel) (by decide +kernel) hk1 hi1 hg1 hbad1 hgood1 (by decide +kernel) dX4_stretch_34 dX4_stretch_37 dX4_stretch_38 dX4_stretch_40 dX4_stretch_43 (by decide) (by cases hf; exact ⟨rfl, rfl⟩) (by decide) (by decide)
    · subst hq
      refine lv_ifnull hx hb dX4_stretch_18 ?_
      refine lv_aload hx hb dX4_stretch_21 (lv_at hl 0 rfl) ?_
      refine lv_aload_n hx hb dX4_stretch_23 rfl (lv_at hl 1 rfl) ?_
      replace hf := bnd hf
      obtain ⟨t14, h15, hf⟩ := hf
      refine g_4_3 X hW hinX2 hF137 h15 dX4_stretch_24 ?_
      refine lv_iload_n hx hb dX4_stretch_27 rfl (lv_at hl 4 rfl) ?_
      replace hf := bnd hf
      obtain ⟨_, h16, hf⟩ := hf
      replace hf := bnd hf
      obtain ⟨t17, h18, hf⟩ := hf
      refine r_callV_ok X hW hl.1 (k_X0_holds l hsl G A mu a13 t14 x2 _ h18) gX4_stretch_X0_holds rfl (chk_ok h16) (by decide) rfl (by decide +kernel) (n := 2) rfl (by decide) (Nat.le_of_ble_eq_true rfl) dX4_stretch_28 rfl rfl (stk := [.int t17]) rfl (fun H locs hW => ?_)
      refine lv_if_ne (tgt := 44) hx hb dX4_stretch_31 (by decide) (fun hc => ?_) (fun hc => ?_)
      · replace hf := itn hc hf
        refine lv_aload_n hx hb dX4_stretch_44 rfl (lv_at hl 2 rfl) ?_
        refine lv_aload_n hx hb dX4_stretch_45 rfl (lv_at hl 1 rfl) ?_
        refine lv_iload_n hx hb dX4_stretch_46 rfl (lv_at hl 4 rfl) ?_
        replace hf := bnd hf
        obtain ⟨_, h19, hf⟩ := hf
        replace hf := bnd hf
        obtain ⟨t20, h21, hf⟩ := hf
        refine r_callV_ok X hW hl.1 (k_X4_meetsAnother l hsl G A mu x0 (some a6) x2 _ h21) gX4_stretch_X4_meetsAnother rfl (chk_ok h19) (by decide) rfl (by decide +kernel) (n := 2) rfl (by decide) (Nat.le_of_ble_eq_true rfl) dX4_stretch_47 rfl rfl (stk := [.int t20]) rfl (fun H locs hW => ?_)
        refine lv_if_eq (tgt := 63) hx hb dX4_stretch_50 (by decide) (fun hc => ?_) (fun hc => ?_)
        · replace hf := itp hc hf
          refine lv_aload_n hx hb dX4_stretch_63 rfl (lv_at hl 1 rfl) ?_
          replace hf := bnd hf
          obtain ⟨t22, h23, hf⟩ := hf
          refine g_4_4 X hW hinX2 hF144 h23 dX4_stretch_64 ?_
          refine lv_istore (lv' := [(5, .int t22), (4, .ref a13), (3, .ref a6), (0, .ref x0), (1, .int x1), (2, .int x2)]) hx hb dX4_stretch_67 hl (by decide) rfl (fun ls hl => ?_)
          refine lv_aload_n hx hb dX4_stretch_69 rfl (lv_at hl 2 rfl) ?_
          refine lv_iload_n hx hb dX4_stretch_70 rfl (lv_at hl 5 rfl) ?_
          replace hf := bnd hf
          obtain ⟨m24, h25, hf⟩ := hf
          refine p_4_4 X hW hinX2 hF144 h25 dX4_stretch_71 (fun H locs hW => ?_)
          refine lv_aload_n hx hb dX4_stretch_74 rfl (lv_at hl 2 rfl) ?_
          refine lv_iconst (v := 1) hx hb dX4_stretch_75 (by decide) ?_
          replace hf := bnd hf
          obtain ⟨m26, h27, hf⟩ := hf
          refine p_4_10 X hW hinX2 hF128 h27 dX4_stretch_76 (fun H locs hW => ?_)
          refine lv_iload hx hb dX4_stretch_79 (lv_at hl 0 rfl) ?_
          exact r_iret X hr hW (by cases hf; exact ⟨rfl, rfl⟩) (by decide) (by decide) dX4_stretch_81
        · replace hf := itn hc hf
          exact r_thr (cls := "java/lang/UnsupportedOperationException") (e9 := 5) (is := 142) (text := "a note of this voice would have a tick in common") X hsl hl.1 hW rfl (by decide +kernel) (by decide +kernel) hk5 hi5 hg5 hbad5 hgood5 (by decide +kernel) dX4_stretch_53 dX4_stretch_56 dX4_stretch_57 dX4_stretch_59 dX4_stretch_62 (by decide) (by cases hf; exact ⟨rfl, rfl⟩) (by decide) (by decide)
      · replace hf := itp hc hf
        exact r_thr (cls := "java/lang/IllegalArgumentException") (e9 := 1) (is := 140) (text := "the note would not be within its bar") X hsl hl.1 hW rfl (by decide +kernel) (by decide +kernel) hk1 hi1 hg1 hbad1 hgood1 (by decide +kernel) dX4_stretch_34 dX4_stretch_37 dX4_stretch_38 dX4_stretch_40 dX4_stretch_43 (by decide) (by cases hf; exact ⟨rfl, rfl⟩) (by decide) (by decide)

def f_X4_takeOut (mu : Mem) (x0 : Nat) (x1 : Int32) : Option ((Nat ⊕ Int32) × Mem) := (chk mu 6 x0).bind fun _ => (f_X4_knownNote mu x0 x1).bind fun t2 => sml t2 (fun e4 => some ((.inl e4), mu)) (fun v5 => v5.bind fun a6 => (putZ mu 4 6 a6 0).bind fun m8 => (putZ m8 4 10 a6 1).bind fun m10 => (getI m10 4 0 a6).bind fun t12 => (chk m10 6 x0).bind fun _ => (f_X4_countOfPart m10 x0 t12).bind fun t15 => some ((.inr t15), m10))
set_option maxHeartbeats 1000000 in
set_option maxRecDepth 100000 in
theorem k_X4_takeOut (l : Launch) (hsl : l.stackTraces = false) (G : GG) (A : Nat → Prop) (mu : Mem) (x0 : Nat) (x1 : Int32) (r : (Nat ⊕ Int32) × Mem) (hf : f_X4_takeOut mu x0 x1 = some r) : Ok l yX4_takeOut wsX4_takeOut ({ frames := 10, cells := 1, slots := 6, locals := 190 } : Room) [.ref x0, .int x1] G A mu (dP (rIx r.1) r.2) := by
  refine Ok.start (cc := cX4_takeOut) (maxL := 3) (ret := (some .int)) rfl (by decide +kernel) hsl (by first | exact Nat.le_of_ble_eq_true rfl | simp [lg_sl, cat_rf, Value.category]) ?_
  intro p e s m args below meth c ls X hr hname hW hl
  have X : BX p l s m args meth c cX4_takeOut 3 RX4 wsX4_takeOut G A := X
  have hx := X.1
  have hb := X.2.1
  have hts := X.2.2.2.2.1
  have hl : lv_has ls 3 [(0, .ref x0), (1, .int x1)] := hl
  have hinX2 : ∀ w ∈ wsX20, w ∈ wsX4_takeOut := by decide +kernel
  have hF128 : (Cond.fieldLink RX4 128 "PartcopyistBench$Note" "isTouched" "Z").before args s = true := hts _ (by decide +kernel)
  have hF147 : (Cond.fieldLink RX4 147 "PartcopyistBench$Note" "isIn" "Z").before args s = true := hts _ (by decide +kernel)
  have hF150 : (Cond.fieldLink RX4 150 "PartcopyistBench$Note" "part" "I").before args s = true := hts _ (by decide +kernel)
  unfold f_X4_takeOut at hf
  refine lv_aload_n hx hb dX4_takeOut_0 rfl (lv_at hl 0 rfl) ?_
  refine lv_iload_n hx hb dX4_takeOut_1 rfl (lv_at hl 1 rfl) ?_
  replace hf := bnd hf
  obtain ⟨_, h1, hf⟩ := hf
  replace hf := bnd hf
  obtain ⟨t2, h3, hf⟩ := hf
  replace hf := smc hf
  rcases hf with ⟨e4, hq, hf⟩ | ⟨v5, hq, hf⟩
  · subst hq
    exact r_callV_thr X hW hl.1 (k_X4_knownNote l hsl G A mu x0 x1 _ h3) gX4_takeOut_X4_knownNote rfl (chk_ok h1) (by decide) rfl (by decide +kernel) (n := 1) rfl (by decide) (Nat.le_of_ble_eq_true rfl) dX4_takeOut_2 rfl rfl (by cases hf; exact ⟨rfl, rfl⟩)
  · subst hq
    refine r_callV_ok X hW hl.1 (k_X4_knownNote l hsl G A mu x0 x1 _ h3) gX4_takeOut_X4_knownNote rfl (chk_ok h1) (by decide) rfl (by decide +kernel) (n := 1) rfl (by decide) (Nat.le_of_ble_eq_true rfl) dX4_takeOut_2 rfl rfl (stk := [va_rf v5]) rfl (fun H locs hW => ?_)
    refine r_astore_nq (lv' := [(2, va_rf v5), (0, .ref x0), (1, .int x1)]) hx hb dX4_takeOut_5 rfl hl (by decide) rfl (fun ls hl => ?_)
    refine r_aload_nq hx hb dX4_takeOut_6 rfl (lv_at hl 0 rfl) ?_
    refine lv_iconst (v := 0) hx hb dX4_takeOut_7 (by decide) ?_
    replace hf := bnd hf
    obtain ⟨a6, h7, hf⟩ := hf
    subst h7
    replace hf := bnd hf
    obtain ⟨m8, h9, hf⟩ := hf
    refine p_4_6 X hW hinX2 hF147 h9 dX4_takeOut_8 (fun H locs hW => ?_)
    refine lv_aload_n hx hb dX4_takeOut_11 rfl (lv_at hl 0 rfl) ?_
    refine lv_iconst (v := 1) hx hb dX4_takeOut_12 (by decide) ?_
    replace hf := bnd hf
    obtain ⟨m10, h11, hf⟩ := hf
    refine p_4_10 X hW hinX2 hF128 h11 dX4_takeOut_13 (fun H locs hW => ?_)
    refine lv_aload_n hx hb dX4_takeOut_16 rfl (lv_at hl 1 rfl) ?_
    refine lv_aload_n hx hb dX4_takeOut_17 rfl (lv_at hl 0 rfl) ?_
    replace hf := bnd hf
    obtain ⟨t12, h13, hf⟩ := hf
    refine g_4_0 X hW hinX2 hF150 h13 dX4_takeOut_18 ?_
    replace hf := bnd hf
    obtain ⟨_, h14, hf⟩ := hf
    replace hf := bnd hf
    obtain ⟨t15, h16, hf⟩ := hf
    refine r_callV_ok X hW hl.1 (k_X4_countOfPart l hsl G A m10 x0 t12 _ h16) gX4_takeOut_X4_countOfPart rfl (chk_ok h14) (by decide) rfl (by decide +kernel) (n := 1) rfl (by decide) (Nat.le_of_ble_eq_true rfl) dX4_takeOut_21 rfl rfl (stk := [.int t15]) rfl (fun H locs hW => ?_)
    exact r_iret X hr hW (by cases hf; exact ⟨rfl, rfl⟩) (by decide) (by decide) dX4_takeOut_24

def f_X4_notesIn (mu : Mem) (x0 : Nat) (x1 : Int32) (x2 : Int32) : Option (Nat ⊕ Int32) := (chk mu 6 x0).bind fun _ => (f_X4_knownPart mu x0 x1).bind fun t2 => sml t2 (fun e4 => some (.inl e4)) (fun v5 => (chk mu 6 x0).bind fun _ => (f_X4_knownBar mu x0 x2).bind fun t7 => sml t7 (fun e9 => some (.inl e9)) (fun v10 => (chk mu 6 x0).bind fun _ => (f_X4_countInBar mu x0 x1 x2).bind fun t12 => some (.inr t12)))
set_option maxHeartbeats 1000000 in
set_option maxRecDepth 100000 in
theorem k_X4_notesIn (l : Launch) (hsl : l.stackTraces = false) (G : GG) (A : Nat → Prop) (mu : Mem) (x0 : Nat) (x1 : Int32) (x2 : Int32) (r : Nat ⊕ Int32) (hf : f_X4_notesIn mu x0 x1 x2 = some r) : Ok l yX4_notesIn wsX4_notesIn ({ frames := 10, cells := 2, slots := 12, locals := 190 } : Room) [.ref x0, .int x1, .int x2] G A mu (dP (rIx r) mu) := by
  refine Ok.start (cc := cX4_notesIn) (maxL := 3) (ret := (some .int)) rfl (by decide +kernel) hsl (by first | exact Nat.le_of_ble_eq_true rfl | simp [lg_sl, cat_rf, Value.category]) ?_
  intro p e s m args below meth c ls X hr hname hW hl
  have X : BX p l s m args meth c cX4_notesIn 3 RX4 wsX4_notesIn G A := X
  have hx := X.1
  have hb := X.2.1
  have hts := X.2.2.2.2.1
  have hl : lv_has ls 3 [(0, .ref x0), (1, .int x1), (2, .int x2)] := hl
  unfold f_X4_notesIn at hf
  refine lv_aload_n hx hb dX4_notesIn_0 rfl (lv_at hl 0 rfl) ?_
  refine lv_iload_n hx hb dX4_notesIn_1 rfl (lv_at hl 1 rfl) ?_
  replace hf := bnd hf
  obtain ⟨_, h1, hf⟩ := hf
  replace hf := bnd hf
  obtain ⟨t2, h3, hf⟩ := hf
  replace hf := smc hf
  rcases hf with ⟨e4, hq, hf⟩ | ⟨v5, hq, hf⟩
  · subst hq
    exact r_callV_thr X hW hl.1 (k_X4_knownPart l hsl G A mu x0 x1 _ h3) gX4_notesIn_X4_knownPart rfl (chk_ok h1) (by decide) rfl (by decide +kernel) (n := 1) rfl (by decide) (Nat.le_of_ble_eq_true rfl) dX4_notesIn_2 rfl rfl (by cases hf; exact ⟨rfl, rfl⟩)
  · subst hq
    refine r_callV_ok X hW hl.1 (k_X4_knownPart l hsl G A mu x0 x1 _ h3) gX4_notesIn_X4_knownPart rfl (chk_ok h1) (by decide) rfl (by decide +kernel) (n := 1) rfl (by decide) (Nat.le_of_ble_eq_true rfl) dX4_notesIn_2 rfl rfl (stk := [va_rf v5]) rfl (fun H locs hW => ?_)
    refine lv_pop hx hb dX4_notesIn_5 (cat_rf _) ?_
    refine lv_aload_n hx hb dX4_notesIn_6 rfl (lv_at hl 0 rfl) ?_
    refine lv_iload_n hx hb dX4_notesIn_7 rfl (lv_at hl 2 rfl) ?_
    replace hf := bnd hf
    obtain ⟨_, h6, hf⟩ := hf
    replace hf := bnd hf
    obtain ⟨t7, h8, hf⟩ := hf
    replace hf := smc hf
    rcases hf with ⟨e9, hq, hf⟩ | ⟨v10, hq, hf⟩
    · subst hq
      exact r_callV_thr X hW hl.1 (k_X4_knownBar l hsl G A mu x0 x2 _ h8) gX4_notesIn_X4_knownBar rfl (chk_ok h6) (by decide) rfl (by decide +kernel) (n := 1) rfl (by decide) (Nat.le_of_ble_eq_true rfl) dX4_notesIn_8 rfl rfl (by cases hf; exact ⟨rfl, rfl⟩)
    · subst hq
      refine r_callV_ok X hW hl.1 (k_X4_knownBar l hsl G A mu x0 x2 _ h8) gX4_notesIn_X4_knownBar rfl (chk_ok h6) (by decide) rfl (by decide +kernel) (n := 1) rfl (by decide) (Nat.le_of_ble_eq_true rfl) dX4_notesIn_8 rfl rfl (stk := [va_rf v10]) rfl (fun H locs hW => ?_)
      refine lv_pop hx hb dX4_notesIn_11 (cat_rf _) ?_
      refine lv_aload_n hx hb dX4_notesIn_12 rfl (lv_at hl 0 rfl) ?_
      refine lv_iload_n hx hb dX4_notesIn_13 rfl (lv_at hl 1 rfl) ?_
      refine lv_iload_n hx hb dX4_notesIn_14 rfl (lv_at hl 2 rfl) ?_
      replace hf := bnd hf
      obtain ⟨_, h11, hf⟩ := hf
      replace hf := bnd hf
      obtain ⟨t12, h13, hf⟩ := hf
      refine r_callV_ok X hW hl.1 (k_X4_countInBar l hsl G A mu x0 x1 x2 _ h13) gX4_notesIn_X4_countInBar rfl (chk_ok h11) (by decide) rfl (by decide +kernel) (n := 2) rfl (by decide) (Nat.le_of_ble_eq_true rfl) dX4_notesIn_15 rfl rfl (stk := [.int t12]) rfl (fun H locs hW => ?_)
      exact r_iret X hr hW (by cases hf; exact ⟨rfl, rfl⟩) (by decide) (by decide) dX4_notesIn_18
