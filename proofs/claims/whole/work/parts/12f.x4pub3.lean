def f_X4_cuePitch (mu : Mem) (x0 : Nat) (x1 : Int32) (x2 : Int32) (x3 : Int32) : Option ((Nat ⊕ Int32) × Mem) := (chk mu 6 x0).bind fun _ => (f_X4_knownPart mu x0 x1).bind fun t2 => sml t2 (fun e4 => some ((.inl e4), mu)) (fun v5 => (chk mu 6 x0).bind fun _ => bi2 (f_X4_knownRest mu x0 x1 x2) (fun (t7 : Nat ⊕ (Int32)) m9 => sml t7 (fun e10 => some ((.inl e10), m9)) (fun v11 => (chk m9 6 x0).bind fun _ => (f_X4_knownCue m9 x0 x1 v11).bind fun t13 => sml t13 (fun e15 => some ((.inl e15), m9)) (fun v16 => (getQ m9 6 3 x0).bind fun t17 => t17.bind fun a19 => (chk m9 3 a19).bind fun _ => (f_X1_lastBarOf m9 a19 v11).bind fun t22 => (chk m9 6 x0).bind fun _ => (f_X4_knownNoteInOrder m9 x0 v16 t22 x3).bind fun t25 => sml t25 (fun e27 => some ((.inl e27), m9)) (fun v28 => (chk m9 6 x0).bind fun _ => (f_X4_knownNote m9 x0 v28).bind fun t30 => sml t30 (fun e32 => some ((.inl e32), m9)) (fun v33 => v33.bind fun a34 => (getI m9 4 5 a34).bind fun t36 => v5.bind fun a38 => (getI m9 5 0 a38).bind fun t40 => some ((.inr (t36 + t40)), m9)))))))
set_option maxHeartbeats 1000000 in
set_option maxRecDepth 100000 in
theorem k_X4_cuePitch (l : Launch) (hsl : l.stackTraces = false) (G : GG) (A : Nat → Prop) (mu : Mem) (x0 : Nat) (x1 : Int32) (x2 : Int32) (x3 : Int32) (r : (Nat ⊕ Int32) × Mem) (hf : f_X4_cuePitch mu x0 x1 x2 x3 = some r) : Ok l yX4_cuePitch wsX4_cuePitch ({ frames := 16, cells := 5, slots := 30, locals := 310 } : Room) [.ref x0, .int x1, .int x2, .int x3] G A mu (dP (rIx r.1) r.2) := by
  refine Ok.start (cc := cX4_cuePitch) (maxL := 8) (ret := (some .int)) rfl (by decide +kernel) hsl (by first | exact Nat.le_of_ble_eq_true rfl | simp [lg_sl, cat_rf, Value.category]) ?_
  intro p e s m args below meth c ls X hr hname hW hl
  have X : BX p l s m args meth c cX4_cuePitch 8 RX4 wsX4_cuePitch G A := X
  have hx := X.1
  have hb := X.2.1
  have hts := X.2.2.2.2.1
  have hl : lv_has ls 8 [(0, .ref x0), (1, .int x1), (2, .int x2), (3, .int x3)] := hl
  have hinX2 : ∀ w ∈ wsX20, w ∈ wsX4_cuePitch := by decide +kernel
  have hinX3 : ∀ w ∈ wsX30, w ∈ wsX4_cuePitch := by decide +kernel
  have hinX4 : ∀ w ∈ wsX40, w ∈ wsX4_cuePitch := by decide +kernel
  have hF125 : (Cond.fieldLink RX4 125 "PartcopyistBench$Note" "pitch" "I").before args s = true := hts _ (by decide +kernel)
  have hF173 : (Cond.fieldLink RX4 173 "PartcopyistBench$Part" "shift" "I").before args s = true := hts _ (by decide +kernel)
  have hF30 : (Cond.fieldLink RX4 30 "PartcopyistBench" "blocks" "LPartcopyistBench$Blocks;").before args s = true := hts _ (by decide +kernel)
  unfold f_X4_cuePitch at hf
  refine lv_aload_n hx hb dX4_cuePitch_0 rfl (lv_at hl 0 rfl) ?_
  refine lv_iload_n hx hb dX4_cuePitch_1 rfl (lv_at hl 1 rfl) ?_
  replace hf := bnd hf
  obtain ⟨_, h1, hf⟩ := hf
  replace hf := bnd hf
  obtain ⟨t2, h3, hf⟩ := hf
  replace hf := smc hf
  rcases hf with ⟨e4, hq, hf⟩ | ⟨v5, hq, hf⟩
  · subst hq
    exact r_callV_thr X hW hl.1 (k_X4_knownPart l hsl G A mu x0 x1 _ h3) gX4_cuePitch_X4_knownPart rfl (chk_ok h1) (by decide) rfl (by decide +kernel) (n := 1) rfl (by decide) (Nat.le_of_ble_eq_true rfl) dX4_cuePitch_2 rfl rfl (by cases hf; exact ⟨rfl, rfl⟩)
  · subst hq
    refine r_callV_ok X hW hl.1 (k_X4_knownPart l hsl G A mu x0 x1 _ h3) gX4_cuePitch_X4_knownPart rfl (chk_ok h1) (by decide) rfl (by decide +kernel) (n := 1) rfl (by decide) (Nat.le_of_ble_eq_true rfl) dX4_cuePitch_2 rfl rfl (stk := [va_rf v5]) rfl (fun H locs hW => ?_)
    refine r_astoreq (lv' := [(4, va_rf v5), (0, .ref x0), (1, .int x1), (2, .int x2), (3, .int x3)]) hx hb dX4_cuePitch_5 hl (by decide) rfl (fun ls hl => ?_)
    refine lv_aload_n hx hb dX4_cuePitch_7 rfl (lv_at hl 1 rfl) ?_
    refine lv_iload_n hx hb dX4_cuePitch_8 rfl (lv_at hl 2 rfl) ?_
    refine lv_iload_n hx hb dX4_cuePitch_9 rfl (lv_at hl 3 rfl) ?_
    replace hf := bnd hf
    obtain ⟨_, h6, hf⟩ := hf
    replace hf := bnd2 hf
    obtain ⟨t7, m9, h8, hf⟩ := hf
    replace hf := smc hf
    rcases hf with ⟨e10, hq, hf⟩ | ⟨v11, hq, hf⟩
    · subst hq
      exact r_callV_thr (μ9 := m9) X hW hl.1 (k_X4_knownRest l hsl G A mu x0 x1 x2 _ h8) gX4_cuePitch_X4_knownRest rfl (chk_ok h6) (by decide) rfl (by decide +kernel) (n := 2) rfl (by decide) (Nat.le_of_ble_eq_true rfl) dX4_cuePitch_10 rfl rfl (by cases hf; exact ⟨rfl, rfl⟩)
    · subst hq
      refine r_callV_ok (μ9 := m9) X hW hl.1 (k_X4_knownRest l hsl G A mu x0 x1 x2 _ h8) gX4_cuePitch_X4_knownRest rfl (chk_ok h6) (by decide) rfl (by decide +kernel) (n := 2) rfl (by decide) (Nat.le_of_ble_eq_true rfl) dX4_cuePitch_10 rfl rfl (stk := [.int v11]) rfl (fun H locs hW => ?_)
      refine lv_istore (lv' := [(5, .int v11), (4, va_rf v5), (0, .ref x0), (1, .int x1), (2, .int x2), (3, .int x3)]) hx hb dX4_cuePitch_13 hl (by decide) (by cases v5 <;> rfl) (fun ls hl => ?_)
      refine lv_aload_n hx hb dX4_cuePitch_15 rfl (lv_at hl 2 rfl) ?_
      refine lv_iload_n hx hb dX4_cuePitch_16 rfl (lv_at hl 3 rfl) ?_
      refine lv_iload hx hb dX4_cuePitch_17 (lv_at hl 0 rfl) ?_
      replace hf := bnd hf
      obtain ⟨_, h12, hf⟩ := hf
      replace hf := bnd hf
      obtain ⟨t13, h14, hf⟩ := hf
      replace hf := smc hf
      rcases hf with ⟨e15, hq, hf⟩ | ⟨v16, hq, hf⟩
      · subst hq
        exact r_callV_thr X hW hl.1 (k_X4_knownCue l hsl G A m9 x0 x1 v11 _ h14) gX4_cuePitch_X4_knownCue rfl (chk_ok h12) (by decide) rfl (by decide +kernel) (n := 2) rfl (by decide) (Nat.le_of_ble_eq_true rfl) dX4_cuePitch_19 rfl rfl (by cases hf; exact ⟨rfl, rfl⟩)
      · subst hq
        refine r_callV_ok X hW hl.1 (k_X4_knownCue l hsl G A m9 x0 x1 v11 _ h14) gX4_cuePitch_X4_knownCue rfl (chk_ok h12) (by decide) rfl (by decide +kernel) (n := 2) rfl (by decide) (Nat.le_of_ble_eq_true rfl) dX4_cuePitch_19 rfl rfl (stk := [.int v16]) rfl (fun H locs hW => ?_)
        refine lv_istore (lv' := [(6, .int v16), (5, .int v11), (4, va_rf v5), (0, .ref x0), (1, .int x1), (2, .int x2), (3, .int x3)]) hx hb dX4_cuePitch_22 hl (by decide) rfl (fun ls hl => ?_)
        refine lv_aload_n hx hb dX4_cuePitch_24 rfl (lv_at hl 3 rfl) ?_
        refine lv_iload hx hb dX4_cuePitch_25 (lv_at hl 0 rfl) ?_
        refine lv_aload_n hx hb dX4_cuePitch_27 rfl (lv_at hl 3 rfl) ?_
        replace hf := bnd hf
        obtain ⟨t17, h18, hf⟩ := hf
        refine g_6_3 X hW hinX4 hF30 h18 dX4_cuePitch_28 ?_
        refine lv_iload hx hb dX4_cuePitch_31 (lv_at hl 1 rfl) ?_
        replace hf := bnd hf
        obtain ⟨a19, h20, hf⟩ := hf
        subst h20
        replace hf := bnd hf
        obtain ⟨_, h21, hf⟩ := hf
        replace hf := bnd hf
        obtain ⟨t22, h23, hf⟩ := hf
        refine r_callV_ok X hW hl.1 (k_X1_lastBarOf l hsl G A m9 a19 v11 _ h23) gX4_cuePitch_X1_lastBarOf rfl (chk_ok h21) (by decide) rfl (by decide +kernel) (n := 1) rfl (by decide) (Nat.le_of_ble_eq_true rfl) dX4_cuePitch_33 rfl rfl (stk := [.int t22, .int v16, .ref x0]) rfl (fun H locs hW => ?_)
        refine lv_iload_n hx hb dX4_cuePitch_36 rfl (lv_at hl 6 rfl) ?_
        replace hf := bnd hf
        obtain ⟨_, h24, hf⟩ := hf
        replace hf := bnd hf
        obtain ⟨t25, h26, hf⟩ := hf
        replace hf := smc hf
        rcases hf with ⟨e27, hq, hf⟩ | ⟨v28, hq, hf⟩
        · subst hq
          exact r_callV_thr X hW hl.1 (k_X4_knownNoteInOrder l hsl G A m9 x0 v16 t22 x3 _ h26) gX4_cuePitch_X4_knownNoteInOrder rfl (chk_ok h24) (by decide) rfl (by decide +kernel) (n := 3) rfl (by decide) (Nat.le_of_ble_eq_true rfl) dX4_cuePitch_37 rfl rfl (by cases hf; exact ⟨rfl, rfl⟩)
        · subst hq
          refine r_callV_ok X hW hl.1 (k_X4_knownNoteInOrder l hsl G A m9 x0 v16 t22 x3 _ h26) gX4_cuePitch_X4_knownNoteInOrder rfl (chk_ok h24) (by decide) rfl (by decide +kernel) (n := 3) rfl (by decide) (Nat.le_of_ble_eq_true rfl) dX4_cuePitch_37 rfl rfl (stk := [.int v28]) rfl (fun H locs hW => ?_)
          refine lv_istore (lv' := [(7, .int v28), (6, .int v16), (5, .int v11), (4, va_rf v5), (0, .ref x0), (1, .int x1), (2, .int x2), (3, .int x3)]) hx hb dX4_cuePitch_40 hl (by decide) rfl (fun ls hl => ?_)
          refine lv_aload_n hx hb dX4_cuePitch_42 rfl (lv_at hl 4 rfl) ?_
          refine lv_iload hx hb dX4_cuePitch_43 (lv_at hl 0 rfl) ?_
          replace hf := bnd hf
          obtain ⟨_, h29, hf⟩ := hf
          replace hf := bnd hf
          obtain ⟨t30, h31, hf⟩ := hf
          replace hf := smc hf
          rcases hf with ⟨e32, hq, hf⟩ | ⟨v33, hq, hf⟩
          · subst hq
            exact r_callV_thr X hW hl.1 (k_X4_knownNote l hsl G A m9 x0 v28 _ h31) gX4_cuePitch_X4_knownNote rfl (chk_ok h29) (by decide) rfl (by decide +kernel) (n := 1) rfl (by decide) (Nat.le_of_ble_eq_true rfl) dX4_cuePitch_45 rfl rfl (by cases hf; exact ⟨rfl, rfl⟩)
          · subst hq
            refine r_callV_ok X hW hl.1 (k_X4_knownNote l hsl G A m9 x0 v28 _ h31) gX4_cuePitch_X4_knownNote rfl (chk_ok h29) (by decide) rfl (by decide +kernel) (n := 1) rfl (by decide) (Nat.le_of_ble_eq_true rfl) dX4_cuePitch_45 rfl rfl (stk := [va_rf v33]) rfl (fun H locs hW => ?_)
            replace hf := bnd hf
            obtain ⟨a34, h35, hf⟩ := hf
            subst h35
            replace hf := bnd hf
            obtain ⟨t36, h37, hf⟩ := hf
            refine g_4_5 X hW hinX2 hF125 h37 dX4_cuePitch_48 ?_
            refine r_aloadq hx hb dX4_cuePitch_51 (lv_at hl 3 rfl) ?_
            replace hf := bnd hf
            obtain ⟨a38, h39, hf⟩ := hf
            subst h39
            replace hf := bnd hf
            obtain ⟨t40, h41, hf⟩ := hf
            refine g_5_0 X hW hinX3 hF173 h41 dX4_cuePitch_53 ?_
            refine lv_iadd hx hb dX4_cuePitch_56 ?_
            exact r_iret X hr hW (by cases hf; exact ⟨rfl, rfl⟩) (by decide) (by decide) dX4_cuePitch_57

def f_X4_copyOut (mu : Mem) (x0 : Nat) (x1 : Int32) : Option ((Nat ⊕ Int32) × Mem) := (chk mu 6 x0).bind fun _ => (f_X4_knownPart mu x0 x1).bind fun t2 => sml t2 (fun e4 => some ((.inl e4), mu)) (fun v5 => v5.bind fun a6 => (putZ mu 5 1 a6 1).bind fun m8 => (chk m8 6 x0).bind fun _ => bi2 (f_X4_bringCopyUpToDate m8 x0 x1) (fun (t11 : (Unit)) m13 => (chk m13 6 x0).bind fun _ => (f_X4_countOfPart m13 x0 x1).bind fun t15 => some ((.inr t15), m13)))
set_option maxHeartbeats 1000000 in
set_option maxRecDepth 100000 in
theorem k_X4_copyOut (l : Launch) (hsl : l.stackTraces = false) (G : GG) (A : Nat → Prop) (mu : Mem) (x0 : Nat) (x1 : Int32) (r : (Nat ⊕ Int32) × Mem) (hf : f_X4_copyOut mu x0 x1 = some r) : Ok l yX4_copyOut wsX4_copyOut ({ frames := 10, cells := 1, slots := 6, locals := 190 } : Room) [.ref x0, .int x1] G A mu (dP (rIx r.1) r.2) := by
  refine Ok.start (cc := cX4_copyOut) (maxL := 3) (ret := (some .int)) rfl (by decide +kernel) hsl (by first | exact Nat.le_of_ble_eq_true rfl | simp [lg_sl, cat_rf, Value.category]) ?_
  intro p e s m args below meth c ls X hr hname hW hl
  have X : BX p l s m args meth c cX4_copyOut 3 RX4 wsX4_copyOut G A := X
  have hx := X.1
  have hb := X.2.1
  have hts := X.2.2.2.2.1
  have hl : lv_has ls 3 [(0, .ref x0), (1, .int x1)] := hl
  have hinX3 : ∀ w ∈ wsX30, w ∈ wsX4_copyOut := by decide +kernel
  have hF238 : (Cond.fieldLink RX4 238 "PartcopyistBench$Part" "isCopied" "Z").before args s = true := hts _ (by decide +kernel)
  unfold f_X4_copyOut at hf
  refine lv_aload_n hx hb dX4_copyOut_0 rfl (lv_at hl 0 rfl) ?_
  refine lv_iload_n hx hb dX4_copyOut_1 rfl (lv_at hl 1 rfl) ?_
  replace hf := bnd hf
  obtain ⟨_, h1, hf⟩ := hf
  replace hf := bnd hf
  obtain ⟨t2, h3, hf⟩ := hf
  replace hf := smc hf
  rcases hf with ⟨e4, hq, hf⟩ | ⟨v5, hq, hf⟩
  · subst hq
    exact r_callV_thr X hW hl.1 (k_X4_knownPart l hsl G A mu x0 x1 _ h3) gX4_copyOut_X4_knownPart rfl (chk_ok h1) (by decide) rfl (by decide +kernel) (n := 1) rfl (by decide) (Nat.le_of_ble_eq_true rfl) dX4_copyOut_2 rfl rfl (by cases hf; exact ⟨rfl, rfl⟩)
  · subst hq
    refine r_callV_ok X hW hl.1 (k_X4_knownPart l hsl G A mu x0 x1 _ h3) gX4_copyOut_X4_knownPart rfl (chk_ok h1) (by decide) rfl (by decide +kernel) (n := 1) rfl (by decide) (Nat.le_of_ble_eq_true rfl) dX4_copyOut_2 rfl rfl (stk := [va_rf v5]) rfl (fun H locs hW => ?_)
    refine r_astore_nq (lv' := [(2, va_rf v5), (0, .ref x0), (1, .int x1)]) hx hb dX4_copyOut_5 rfl hl (by decide) rfl (fun ls hl => ?_)
    refine r_aload_nq hx hb dX4_copyOut_6 rfl (lv_at hl 0 rfl) ?_
    refine lv_iconst (v := 1) hx hb dX4_copyOut_7 (by decide) ?_
    replace hf := bnd hf
    obtain ⟨a6, h7, hf⟩ := hf
    subst h7
    replace hf := bnd hf
    obtain ⟨m8, h9, hf⟩ := hf
    refine p_5_1 X hW hinX3 hF238 h9 dX4_copyOut_8 (fun H locs hW => ?_)
    refine lv_aload_n hx hb dX4_copyOut_11 rfl (lv_at hl 1 rfl) ?_
    refine lv_iload_n hx hb dX4_copyOut_12 rfl (lv_at hl 2 rfl) ?_
    replace hf := bnd hf
    obtain ⟨_, h10, hf⟩ := hf
    replace hf := bnd2 hf
    obtain ⟨t11, m13, h12, hf⟩ := hf
    refine r_callV_ok (μ9 := m13) X hW hl.1 (k_X4_bringCopyUpToDate l hsl G A m8 x0 x1 _ h12) gX4_copyOut_X4_bringCopyUpToDate rfl (chk_ok h10) (by decide) rfl (by decide +kernel) (n := 1) rfl (by decide) (Nat.le_of_ble_eq_true rfl) dX4_copyOut_13 rfl rfl (stk := []) rfl (fun H locs hW => ?_)
    refine lv_aload_n hx hb dX4_copyOut_16 rfl (lv_at hl 1 rfl) ?_
    refine lv_iload_n hx hb dX4_copyOut_17 rfl (lv_at hl 2 rfl) ?_
    replace hf := bnd hf
    obtain ⟨_, h14, hf⟩ := hf
    replace hf := bnd hf
    obtain ⟨t15, h16, hf⟩ := hf
    refine r_callV_ok X hW hl.1 (k_X4_countOfPart l hsl G A m13 x0 x1 _ h16) gX4_copyOut_X4_countOfPart rfl (chk_ok h14) (by decide) rfl (by decide +kernel) (n := 1) rfl (by decide) (Nat.le_of_ble_eq_true rfl) dX4_copyOut_18 rfl rfl (stk := [.int t15]) rfl (fun H locs hW => ?_)
    exact r_iret X hr hW (by cases hf; exact ⟨rfl, rfl⟩) (by decide) (by decide) dX4_copyOut_21

def f_X4_carry (mu : Mem) (x0 : Nat) (x1 : Int32) : Option ((Nat ⊕ Int32) × Mem) := (chk mu 6 x0).bind fun _ => (f_X4_knownCopy mu x0 x1).bind fun t2 => sml t2 (fun e4 => some ((.inl e4), mu)) (fun v5 => (chk mu 6 x0).bind fun _ => (f_X4_touchedDifferences mu x0 x1).bind fun t7 => (chk mu 6 x0).bind fun _ => bi2 (f_X4_bringCopyUpToDate mu x0 x1) (fun (t10 : (Unit)) m12 => some ((.inr t7), m12)))
set_option maxHeartbeats 1000000 in
set_option maxRecDepth 100000 in
theorem k_X4_carry (l : Launch) (hsl : l.stackTraces = false) (G : GG) (A : Nat → Prop) (mu : Mem) (x0 : Nat) (x1 : Int32) (r : (Nat ⊕ Int32) × Mem) (hf : f_X4_carry mu x0 x1 = some r) : Ok l yX4_carry wsX4_carry ({ frames := 12, cells := 2, slots := 12, locals := 230 } : Room) [.ref x0, .int x1] G A mu (dP (rIx r.1) r.2) := by
  refine Ok.start (cc := cX4_carry) (maxL := 3) (ret := (some .int)) rfl (by decide +kernel) hsl (by first | exact Nat.le_of_ble_eq_true rfl | simp [lg_sl, cat_rf, Value.category]) ?_
  intro p e s m args below meth c ls X hr hname hW hl
  have X : BX p l s m args meth c cX4_carry 3 RX4 wsX4_carry G A := X
  have hx := X.1
  have hb := X.2.1
  have hts := X.2.2.2.2.1
  have hl : lv_has ls 3 [(0, .ref x0), (1, .int x1)] := hl
  unfold f_X4_carry at hf
  refine lv_aload_n hx hb dX4_carry_0 rfl (lv_at hl 0 rfl) ?_
  refine lv_iload_n hx hb dX4_carry_1 rfl (lv_at hl 1 rfl) ?_
  replace hf := bnd hf
  obtain ⟨_, h1, hf⟩ := hf
  replace hf := bnd hf
  obtain ⟨t2, h3, hf⟩ := hf
  replace hf := smc hf
  rcases hf with ⟨e4, hq, hf⟩ | ⟨v5, hq, hf⟩
  · subst hq
    exact r_callV_thr X hW hl.1 (k_X4_knownCopy l hsl G A mu x0 x1 _ h3) gX4_carry_X4_knownCopy rfl (chk_ok h1) (by decide) rfl (by decide +kernel) (n := 1) rfl (by decide) (Nat.le_of_ble_eq_true rfl) dX4_carry_2 rfl rfl (by cases hf; exact ⟨rfl, rfl⟩)
  · subst hq
    refine r_callV_ok X hW hl.1 (k_X4_knownCopy l hsl G A mu x0 x1 _ h3) gX4_carry_X4_knownCopy rfl (chk_ok h1) (by decide) rfl (by decide +kernel) (n := 1) rfl (by decide) (Nat.le_of_ble_eq_true rfl) dX4_carry_2 rfl rfl (stk := []) rfl (fun H locs hW => ?_)
    refine lv_aload_n hx hb dX4_carry_5 rfl (lv_at hl 0 rfl) ?_
    refine lv_iload_n hx hb dX4_carry_6 rfl (lv_at hl 1 rfl) ?_
    replace hf := bnd hf
    obtain ⟨_, h6, hf⟩ := hf
    replace hf := bnd hf
    obtain ⟨t7, h8, hf⟩ := hf
    refine r_callV_ok X hW hl.1 (k_X4_touchedDifferences l hsl G A mu x0 x1 _ h8) gX4_carry_X4_touchedDifferences rfl (chk_ok h6) (by decide) rfl (by decide +kernel) (n := 1) rfl (by decide) (Nat.le_of_ble_eq_true rfl) dX4_carry_7 rfl rfl (stk := [.int t7]) rfl (fun H locs hW => ?_)
    refine lv_istore_n (lv' := [(2, .int t7), (0, .ref x0), (1, .int x1)]) hx hb dX4_carry_10 rfl hl (by decide) rfl (fun ls hl => ?_)
    refine lv_aload_n hx hb dX4_carry_11 rfl (lv_at hl 1 rfl) ?_
    refine lv_iload_n hx hb dX4_carry_12 rfl (lv_at hl 2 rfl) ?_
    replace hf := bnd hf
    obtain ⟨_, h9, hf⟩ := hf
    replace hf := bnd2 hf
    obtain ⟨t10, m12, h11, hf⟩ := hf
    refine r_callV_ok (μ9 := m12) X hW hl.1 (k_X4_bringCopyUpToDate l hsl G A mu x0 x1 _ h11) gX4_carry_X4_bringCopyUpToDate rfl (chk_ok h9) (by decide) rfl (by decide +kernel) (n := 1) rfl (by decide) (Nat.le_of_ble_eq_true rfl) dX4_carry_13 rfl rfl (stk := []) rfl (fun H locs hW => ?_)
    refine lv_iload_n hx hb dX4_carry_16 rfl (lv_at hl 0 rfl) ?_
    exact r_iret X hr hW (by cases hf; exact ⟨rfl, rfl⟩) (by decide) (by decide) dX4_carry_17

def f_X4_differences (mu : Mem) (x0 : Nat) (x1 : Int32) : Option (Nat ⊕ Int32) := (chk mu 6 x0).bind fun _ => (f_X4_knownCopy mu x0 x1).bind fun t2 => sml t2 (fun e4 => some (.inl e4)) (fun v5 => (chk mu 6 x0).bind fun _ => (f_X4_touchedDifferences mu x0 x1).bind fun t7 => some (.inr t7))
set_option maxHeartbeats 1000000 in
set_option maxRecDepth 100000 in
theorem k_X4_differences (l : Launch) (hsl : l.stackTraces = false) (G : GG) (A : Nat → Prop) (mu : Mem) (x0 : Nat) (x1 : Int32) (r : Nat ⊕ Int32) (hf : f_X4_differences mu x0 x1 = some r) : Ok l yX4_differences wsX4_differences ({ frames := 12, cells := 2, slots := 12, locals := 230 } : Room) [.ref x0, .int x1] G A mu (dP (rIx r) mu) := by
  refine Ok.start (cc := cX4_differences) (maxL := 2) (ret := (some .int)) rfl (by decide +kernel) hsl (by first | exact Nat.le_of_ble_eq_true rfl | simp [lg_sl, cat_rf, Value.category]) ?_
  intro p e s m args below meth c ls X hr hname hW hl
  have X : BX p l s m args meth c cX4_differences 2 RX4 wsX4_differences G A := X
  have hx := X.1
  have hb := X.2.1
  have hts := X.2.2.2.2.1
  have hl : lv_has ls 2 [(0, .ref x0), (1, .int x1)] := hl
  unfold f_X4_differences at hf
  refine lv_aload_n hx hb dX4_differences_0 rfl (lv_at hl 0 rfl) ?_
  refine lv_iload_n hx hb dX4_differences_1 rfl (lv_at hl 1 rfl) ?_
  replace hf := bnd hf
  obtain ⟨_, h1, hf⟩ := hf
  replace hf := bnd hf
  obtain ⟨t2, h3, hf⟩ := hf
  replace hf := smc hf
  rcases hf with ⟨e4, hq, hf⟩ | ⟨v5, hq, hf⟩
  · subst hq
    exact r_callV_thr X hW hl.1 (k_X4_knownCopy l hsl G A mu x0 x1 _ h3) gX4_differences_X4_knownCopy rfl (chk_ok h1) (by decide) rfl (by decide +kernel) (n := 1) rfl (by decide) (Nat.le_of_ble_eq_true rfl) dX4_differences_2 rfl rfl (by cases hf; exact ⟨rfl, rfl⟩)
  · subst hq
    refine r_callV_ok X hW hl.1 (k_X4_knownCopy l hsl G A mu x0 x1 _ h3) gX4_differences_X4_knownCopy rfl (chk_ok h1) (by decide) rfl (by decide +kernel) (n := 1) rfl (by decide) (Nat.le_of_ble_eq_true rfl) dX4_differences_2 rfl rfl (stk := []) rfl (fun H locs hW => ?_)
    refine lv_aload_n hx hb dX4_differences_5 rfl (lv_at hl 0 rfl) ?_
    refine lv_iload_n hx hb dX4_differences_6 rfl (lv_at hl 1 rfl) ?_
    replace hf := bnd hf
    obtain ⟨_, h6, hf⟩ := hf
    replace hf := bnd hf
    obtain ⟨t7, h8, hf⟩ := hf
    refine r_callV_ok X hW hl.1 (k_X4_touchedDifferences l hsl G A mu x0 x1 _ h8) gX4_differences_X4_touchedDifferences rfl (chk_ok h6) (by decide) rfl (by decide +kernel) (n := 1) rfl (by decide) (Nat.le_of_ble_eq_true rfl) dX4_differences_7 rfl rfl (stk := [.int t7]) rfl (fun H locs hW => ?_)
    exact r_iret X hr hW (by cases hf; exact ⟨rfl, rfl⟩) (by decide) (by decide) dX4_differences_10

def f_X4_differencesByComparing (mu : Mem) (x0 : Nat) (x1 : Int32) : Option (Nat ⊕ Int32) := (chk mu 6 x0).bind fun _ => (f_X4_knownCopy mu x0 x1).bind fun t2 => sml t2 (fun e4 => some (.inl e4)) (fun v5 => (chk mu 6 x0).bind fun _ => (f_X4_comparedDifferences mu x0 x1).bind fun t7 => some (.inr t7))
set_option maxHeartbeats 1000000 in
set_option maxRecDepth 100000 in
theorem k_X4_differencesByComparing (l : Launch) (hsl : l.stackTraces = false) (G : GG) (A : Nat → Prop) (mu : Mem) (x0 : Nat) (x1 : Int32) (r : Nat ⊕ Int32) (hf : f_X4_differencesByComparing mu x0 x1 = some r) : Ok l yX4_differencesByComparing wsX4_differencesByComparing ({ frames := 12, cells := 2, slots := 12, locals := 230 } : Room) [.ref x0, .int x1] G A mu (dP (rIx r) mu) := by
  refine Ok.start (cc := cX4_differencesByComparing) (maxL := 2) (ret := (some .int)) rfl (by decide +kernel) hsl (by first | exact Nat.le_of_ble_eq_true rfl | simp [lg_sl, cat_rf, Value.category]) ?_
  intro p e s m args below meth c ls X hr hname hW hl
  have X : BX p l s m args meth c cX4_differencesByComparing 2 RX4 wsX4_differencesByComparing G A := X
  have hx := X.1
  have hb := X.2.1
  have hts := X.2.2.2.2.1
  have hl : lv_has ls 2 [(0, .ref x0), (1, .int x1)] := hl
  unfold f_X4_differencesByComparing at hf
  refine lv_aload_n hx hb dX4_differencesByComparing_0 rfl (lv_at hl 0 rfl) ?_
  refine lv_iload_n hx hb dX4_differencesByComparing_1 rfl (lv_at hl 1 rfl) ?_
  replace hf := bnd hf
  obtain ⟨_, h1, hf⟩ := hf
  replace hf := bnd hf
  obtain ⟨t2, h3, hf⟩ := hf
  replace hf := smc hf
  rcases hf with ⟨e4, hq, hf⟩ | ⟨v5, hq, hf⟩
  · subst hq
    exact r_callV_thr X hW hl.1 (k_X4_knownCopy l hsl G A mu x0 x1 _ h3) gX4_differencesByComparing_X4_knownCopy rfl (chk_ok h1) (by decide) rfl (by decide +kernel) (n := 1) rfl (by decide) (Nat.le_of_ble_eq_true rfl) dX4_differencesByComparing_2 rfl rfl (by cases hf; exact ⟨rfl, rfl⟩)
  · subst hq
    refine r_callV_ok X hW hl.1 (k_X4_knownCopy l hsl G A mu x0 x1 _ h3) gX4_differencesByComparing_X4_knownCopy rfl (chk_ok h1) (by decide) rfl (by decide +kernel) (n := 1) rfl (by decide) (Nat.le_of_ble_eq_true rfl) dX4_differencesByComparing_2 rfl rfl (stk := []) rfl (fun H locs hW => ?_)
    refine lv_aload_n hx hb dX4_differencesByComparing_5 rfl (lv_at hl 0 rfl) ?_
    refine lv_iload_n hx hb dX4_differencesByComparing_6 rfl (lv_at hl 1 rfl) ?_
    replace hf := bnd hf
    obtain ⟨_, h6, hf⟩ := hf
    replace hf := bnd hf
    obtain ⟨t7, h8, hf⟩ := hf
    refine r_callV_ok X hW hl.1 (k_X4_comparedDifferences l hsl G A mu x0 x1 _ h8) gX4_differencesByComparing_X4_comparedDifferences rfl (chk_ok h6) (by decide) rfl (by decide +kernel) (n := 1) rfl (by decide) (Nat.le_of_ble_eq_true rfl) dX4_differencesByComparing_7 rfl rfl (stk := [.int t7]) rfl (fun H locs hW => ?_)
    exact r_iret X hr hW (by cases hf; exact ⟨rfl, rfl⟩) (by decide) (by decide) dX4_differencesByComparing_10

def f_X4_copied (mu : Mem) (x0 : Nat) (x1 : Int32) : Option (Nat ⊕ Int32) := (chk mu 6 x0).bind fun _ => (f_X4_noteOrNull mu x0 x1).bind fun t2 => onl t2 (some (.inl 4)) (fun a4 => (getI mu 4 0 a4).bind fun t5 => (chk mu 6 x0).bind fun _ => (f_X4_partOrNull mu x0 t5).bind fun t8 => onl t8 (some (.inl 2)) (fun a10 => (getI mu 5 1 a10).bind fun t11 => if t11 = 0 then (some (.inl 2)) else ((getI mu 4 7 a4).bind fun t13 => if t13 = 0 then (some (.inl 2)) else ((getI mu 4 9 a4).bind fun t15 => (getI mu 5 0 a10).bind fun t17 => some (.inr (t15 + t17))))))
set_option maxHeartbeats 1000000 in
set_option maxRecDepth 100000 in
theorem k_X4_copied (l : Launch) (hsl : l.stackTraces = false) (G : GG) (A : Nat → Prop) (mu : Mem) (x0 : Nat) (x1 : Int32) (r : Nat ⊕ Int32) (hf : f_X4_copied mu x0 x1 = some r) : Ok l yX4_copied wsX4_copied ({ frames := 8, cells := 2, slots := 12, locals := 150 } : Room) [.ref x0, .int x1] G A mu (dP (rIx r) mu) := by
  refine Ok.start (cc := cX4_copied) (maxL := 4) (ret := (some .int)) rfl (by decide +kernel) hsl (by first | exact Nat.le_of_ble_eq_true rfl | simp [lg_sl, cat_rf, Value.category]) ?_
  intro p e s m args below meth c ls X hr hname hW hl
  have X : BX p l s m args meth c cX4_copied 4 RX4 wsX4_copied G A := X
  have hx := X.1
  have hb := X.2.1
  have hts := X.2.2.2.2.1
  have hl : lv_has ls 4 [(0, .ref x0), (1, .int x1)] := hl
  have hinX2 : ∀ w ∈ wsX20, w ∈ wsX4_copied := by decide +kernel
  have hinX3 : ∀ w ∈ wsX30, w ∈ wsX4_copied := by decide +kernel
  have hF150 : (Cond.fieldLink RX4 150 "PartcopyistBench$Note" "part" "I").before args s = true := hts _ (by decide +kernel)
  have hF173 : (Cond.fieldLink RX4 173 "PartcopyistBench$Part" "shift" "I").before args s = true := hts _ (by decide +kernel)
  have hF238 : (Cond.fieldLink RX4 238 "PartcopyistBench$Part" "isCopied" "Z").before args s = true := hts _ (by decide +kernel)
  have hF261 : (Cond.fieldLink RX4 261 "PartcopyistBench$Note" "isInCopy" "Z").before args s = true := hts _ (by decide +kernel)
  have hF266 : (Cond.fieldLink RX4 266 "PartcopyistBench$Note" "copyPitch" "I").before args s = true := hts _ (by decide +kernel)
  have hk2 : (Cond.classLink RX4 60 "java/lang/IllegalStateException").before args s = true := hts _ (by decide +kernel)
  have hi2 : (Cond.initialized "java/lang/IllegalStateException").before args s = true := hts _ (by decide +kernel)
  have hg2 : ∀ w ∈ (vx_atS RX4 64 "java/lang/IllegalStateException" ["java/lang/RuntimeException", "java/lang/Exception"]).filter goodWord, w ∈ wsX4_copied := by decide +kernel
  have hk4 : (Cond.classLink RX4 224 "java/util/NoSuchElementException").before args s = true := hts _ (by decide +kernel)
  have hi4 : (Cond.initialized "java/util/NoSuchElementException").before args s = true := hts _ (by decide +kernel)
  have hg4 : ∀ w ∈ vz_at9.filter goodWord, w ∈ wsX4_copied := by decide +kernel
  unfold f_X4_copied at hf
  refine lv_aload_n hx hb dX4_copied_0 rfl (lv_at hl 0 rfl) ?_
  refine lv_iload_n hx hb dX4_copied_1 rfl (lv_at hl 1 rfl) ?_
  replace hf := bnd hf
  obtain ⟨_, h1, hf⟩ := hf
  replace hf := bnd hf
  obtain ⟨t2, h3, hf⟩ := hf
  refine r_callV_ok X hW hl.1 (k_X4_noteOrNull l hsl G A mu x0 x1 _ h3) gX4_copied_X4_noteOrNull rfl (chk_ok h1) (by decide) rfl (by decide +kernel) (n := 1) rfl (by decide) (Nat.le_of_ble_eq_true rfl) dX4_copied_2 rfl rfl (stk := [va_rf t2]) rfl (fun H locs hW => ?_)
  refine r_astore_nq (lv' := [(2, va_rf t2), (0, .ref x0), (1, .int x1)]) hx hb dX4_copied_5 rfl hl (by decide) rfl (fun ls hl => ?_)
  refine r_aload_nq hx hb dX4_copied_6 rfl (lv_at hl 0 rfl) ?_
  replace hf := onl_c hf
  rcases hf with ⟨hq, hf⟩ | ⟨a4, hq, hf⟩
  · subst hq
    refine lv_ifnonnullN hx hb dX4_copied_7 ?_
    exact r_thrwN (is := 256) (text := "no such note was put in") X hsl hl.1 hW rfl (by decide +kernel) (by decide +kernel) hk4 hi4 hg4 hbad4 hgood4 (by decide +kernel) dX4_copied_10 dX4_copied_13 dX4_copied_14 dX4_copied_17 dX4_copied_20 (by decide) (by cases hf; exact ⟨rfl, rfl⟩) (by decide) (by decide)
  · subst hq
    refine lv_ifnonnull (tgt := 21) hx hb dX4_copied_7 (by decide) ?_
    refine lv_aload_n hx hb dX4_copied_21 rfl (lv_at hl 1 rfl) ?_
    refine lv_aload_n hx hb dX4_copied_22 rfl (lv_at hl 0 rfl) ?_
    replace hf := bnd hf
    obtain ⟨t5, h6, hf⟩ := hf
    refine g_4_0 X hW hinX2 hF150 h6 dX4_copied_23 ?_
    replace hf := bnd hf
    obtain ⟨_, h7, hf⟩ := hf
    replace hf := bnd hf
    obtain ⟨t8, h9, hf⟩ := hf
    refine r_callV_ok X hW hl.1 (k_X4_partOrNull l hsl G A mu x0 t5 _ h9) gX4_copied_X4_partOrNull rfl (chk_ok h7) (by decide) rfl (by decide +kernel) (n := 1) rfl (by decide) (Nat.le_of_ble_eq_true rfl) dX4_copied_26 rfl rfl (stk := [va_rf t8]) rfl (fun H locs hW => ?_)
    refine r_astore_nq (lv' := [(3, va_rf t8), (2, .ref a4), (0, .ref x0), (1, .int x1)]) hx hb dX4_copied_29 rfl hl (by decide) rfl (fun ls hl => ?_)
    refine r_aload_nq hx hb dX4_copied_30 rfl (lv_at hl 0 rfl) ?_
    replace hf := onl_c hf
    rcases hf with ⟨hq, hf⟩ | ⟨a10, hq, hf⟩
    · subst hq
      refine lv_ifnullN (tgt := 48) hx hb dX4_copied_31 (by decide) ?_
      exact r_thrw (cls := "java/lang/IllegalStateException") (e9 := 2) (is := 264) (text := "its part was not copied, or the copy does not have it") X hsl hl.1 hW rfl (by decide +kernel) (by decide +kernel) hk2 hi2 hg2 hbad2 hgood2 (by decide +kernel) dX4_copied_48 dX4_copied_51 dX4_copied_52 dX4_copied_55 dX4_copied_58 (by decide) (by cases hf; exact ⟨rfl, rfl⟩) (by decide) (by decide)
    · subst hq
      refine lv_ifnull hx hb dX4_copied_31 ?_
      refine lv_aload_n hx hb dX4_copied_34 rfl (lv_at hl 0 rfl) ?_
      replace hf := bnd hf
      obtain ⟨t11, h12, hf⟩ := hf
      refine g_5_1 X hW hinX3 hF238 h12 dX4_copied_35 ?_
      refine lv_if_eq (tgt := 48) hx hb dX4_copied_38 (by decide) (fun hc => ?_) (fun hc => ?_)
      · replace hf := itp hc hf
        exact r_thrw (cls := "java/lang/IllegalStateException") (e9 := 2) (is := 264) (text := "its part was not copied, or the copy does not have it") X hsl hl.1 hW rfl (by decide +kernel) (by decide +kernel) hk2 hi2 hg2 hbad2 hgood2 (by decide +kernel) dX4_copied_48 dX4_copied_51 dX4_copied_52 dX4_copied_55 dX4_copied_58 (by decide) (by cases hf; exact ⟨rfl, rfl⟩) (by decide) (by decide)
      · replace hf := itn hc hf
        refine lv_aload_n hx hb dX4_copied_41 rfl (lv_at hl 1 rfl) ?_
        replace hf := bnd hf
        obtain ⟨t13, h14, hf⟩ := hf
        refine g_4_7 X hW hinX2 hF261 h14 dX4_copied_42 ?_
        refine lv_if_ne (tgt := 59) hx hb dX4_copied_45 (by decide) (fun hc => ?_) (fun hc => ?_)
        · replace hf := itn hc hf
          refine lv_aload_n hx hb dX4_copied_59 rfl (lv_at hl 1 rfl) ?_
          replace hf := bnd hf
          obtain ⟨t15, h16, hf⟩ := hf
          refine g_4_9 X hW hinX2 hF266 h16 dX4_copied_60 ?_
          refine lv_aload_n hx hb dX4_copied_63 rfl (lv_at hl 0 rfl) ?_
          replace hf := bnd hf
          obtain ⟨t17, h18, hf⟩ := hf
          refine g_5_0 X hW hinX3 hF173 h18 dX4_copied_64 ?_
          refine lv_iadd hx hb dX4_copied_67 ?_
          exact r_iret X hr hW (by cases hf; exact ⟨rfl, rfl⟩) (by decide) (by decide) dX4_copied_68
        · replace hf := itp hc hf
          exact r_thrw (cls := "java/lang/IllegalStateException") (e9 := 2) (is := 264) (text := "its part was not copied, or the copy does not have it") X hsl hl.1 hW rfl (by decide +kernel) (by decide +kernel) hk2 hi2 hg2 hbad2 hgood2 (by decide +kernel) dX4_copied_48 dX4_copied_51 dX4_copied_52 dX4_copied_55 dX4_copied_58 (by decide) (by cases hf; exact ⟨rfl, rfl⟩) (by decide) (by decide)

def f_X4_meanPitch (mu : Mem) (x0 : Nat) (x1 : Int32) : Option (Nat ⊕ UInt64) := (chk mu 6 x0).bind fun _ => (f_X4_knownPart mu x0 x1).bind fun t2 => sml t2 (fun e4 => some (.inl e4)) (fun v5 => (chk mu 6 x0).bind fun _ => (f_X4_countOfPart mu x0 x1).bind fun t7 => if 0 < t7 then ((chk mu 6 x0).bind fun _ => (f_X4_sumOfPitches mu x0 x1).bind fun t10 => (gn64 (FP.ddiv (FP.i2d t10) (FP.i2d t7))).bind fun _ => some (.inr (FP.ddiv (FP.i2d t10) (FP.i2d t7)))) else (some (.inl 6)))
set_option maxHeartbeats 1000000 in
set_option maxRecDepth 100000 in
theorem k_X4_meanPitch (l : Launch) (hsl : l.stackTraces = false) (G : GG) (A : Nat → Prop) (mu : Mem) (x0 : Nat) (x1 : Int32) (r : Nat ⊕ UInt64) (hf : f_X4_meanPitch mu x0 x1 = some r) : Ok l yX4_meanPitch wsX4_meanPitch ({ frames := 10, cells := 2, slots := 12, locals := 190 } : Room) [.ref x0, .int x1] G A mu (dP (rDx r) mu) := by
  refine Ok.start (cc := cX4_meanPitch) (maxL := 3) (ret := (some .double)) rfl (by decide +kernel) hsl (by first | exact Nat.le_of_ble_eq_true rfl | simp [lg_sl, cat_rf, Value.category]) ?_
  intro p e s m args below meth c ls X hr hname hW hl
  have X : BX p l s m args meth c cX4_meanPitch 3 RX4 wsX4_meanPitch G A := X
  have hx := X.1
  have hb := X.2.1
  have hts := X.2.2.2.2.1
  have hl : lv_has ls 3 [(0, .ref x0), (1, .int x1)] := hl
  have hk6 : (Cond.classLink RX4 269 "java/lang/ArithmeticException").before args s = true := hts _ (by decide +kernel)
  have hi6 : (Cond.initialized "java/lang/ArithmeticException").before args s = true := hts _ (by decide +kernel)
  have hg6 : ∀ w ∈ (vx_atS RX4 273 "java/lang/ArithmeticException" ["java/lang/RuntimeException", "java/lang/Exception"]).filter goodWord, w ∈ wsX4_meanPitch := by decide +kernel
  unfold f_X4_meanPitch at hf
  refine lv_aload_n hx hb dX4_meanPitch_0 rfl (lv_at hl 0 rfl) ?_
  refine lv_iload_n hx hb dX4_meanPitch_1 rfl (lv_at hl 1 rfl) ?_
  replace hf := bnd hf
  obtain ⟨_, h1, hf⟩ := hf
  replace hf := bnd hf
  obtain ⟨t2, h3, hf⟩ := hf
  replace hf := smc hf
  rcases hf with ⟨e4, hq, hf⟩ | ⟨v5, hq, hf⟩
  · subst hq
    exact r_callV_thr X hW hl.1 (k_X4_knownPart l hsl G A mu x0 x1 _ h3) gX4_meanPitch_X4_knownPart rfl (chk_ok h1) (by decide) rfl (by decide +kernel) (n := 1) rfl (by decide) (Nat.le_of_ble_eq_true rfl) dX4_meanPitch_2 rfl rfl (by cases hf; exact ⟨rfl, rfl⟩)
  · subst hq
    refine r_callV_ok X hW hl.1 (k_X4_knownPart l hsl G A mu x0 x1 _ h3) gX4_meanPitch_X4_knownPart rfl (chk_ok h1) (by decide) rfl (by decide +kernel) (n := 1) rfl (by decide) (Nat.le_of_ble_eq_true rfl) dX4_meanPitch_2 rfl rfl (stk := [va_rf v5]) rfl (fun H locs hW => ?_)
    refine lv_pop hx hb dX4_meanPitch_5 (cat_rf _) ?_
    refine lv_aload_n hx hb dX4_meanPitch_6 rfl (lv_at hl 0 rfl) ?_
    refine lv_iload_n hx hb dX4_meanPitch_7 rfl (lv_at hl 1 rfl) ?_
    replace hf := bnd hf
    obtain ⟨_, h6, hf⟩ := hf
    replace hf := bnd hf
    obtain ⟨t7, h8, hf⟩ := hf
    refine r_callV_ok X hW hl.1 (k_X4_countOfPart l hsl G A mu x0 x1 _ h8) gX4_meanPitch_X4_countOfPart rfl (chk_ok h6) (by decide) rfl (by decide +kernel) (n := 1) rfl (by decide) (Nat.le_of_ble_eq_true rfl) dX4_meanPitch_8 rfl rfl (stk := [.int t7]) rfl (fun H locs hW => ?_)
    refine lv_istore_n (lv' := [(2, .int t7), (0, .ref x0), (1, .int x1)]) hx hb dX4_meanPitch_11 rfl hl (by decide) rfl (fun ls hl => ?_)
    refine lv_iload_n hx hb dX4_meanPitch_12 rfl (lv_at hl 0 rfl) ?_
    refine lv_if_gt (tgt := 27) hx hb dX4_meanPitch_13 (by decide) (fun hc => ?_) (fun hc => ?_)
    · replace hf := itp hc hf
      refine lv_aload_n hx hb dX4_meanPitch_27 rfl (lv_at hl 1 rfl) ?_
      refine lv_iload_n hx hb dX4_meanPitch_28 rfl (lv_at hl 2 rfl) ?_
      replace hf := bnd hf
      obtain ⟨_, h9, hf⟩ := hf
      replace hf := bnd hf
      obtain ⟨t10, h11, hf⟩ := hf
      refine r_callV_ok X hW hl.1 (k_X4_sumOfPitches l hsl G A mu x0 x1 _ h11) gX4_meanPitch_X4_sumOfPitches rfl (chk_ok h9) (by decide) rfl (by decide +kernel) (n := 1) rfl (by decide) (Nat.le_of_ble_eq_true rfl) dX4_meanPitch_29 rfl rfl (stk := [.int t10]) rfl (fun H locs hW => ?_)
      refine lv_i2d hx hb dX4_meanPitch_32 ?_
      refine lv_iload_n hx hb dX4_meanPitch_33 rfl (lv_at hl 0 rfl) ?_
      refine lv_i2d hx hb dX4_meanPitch_34 ?_
      replace hf := bnd hf
      obtain ⟨_, h12, hf⟩ := hf
      refine lv_ddiv hx hb dX4_meanPitch_35 (gn64_ok h12) ?_
      exact r_dret X hr hW (by cases hf; exact ⟨rfl, rfl⟩) (by decide) (by decide) dX4_meanPitch_36
    · replace hf := itn hc hf
      exact r_thrw (cls := "java/lang/ArithmeticException") (e9 := 6) (is := 271) (text := "the part has no notes") X hsl hl.1 hW rfl (by decide +kernel) (by decide +kernel) hk6 hi6 hg6 hbad6 hgood6 (by decide +kernel) dX4_meanPitch_16 dX4_meanPitch_19 dX4_meanPitch_20 dX4_meanPitch_23 dX4_meanPitch_26 (by decide) (by cases hf; exact ⟨rfl, rfl⟩) (by decide) (by decide)

def f_X4_restShare (mu : Mem) (x0 : Nat) (x1 : Int32) : Option (Nat ⊕ UInt32) := (chk mu 6 x0).bind fun _ => (f_X4_knownPart mu x0 x1).bind fun t2 => sml t2 (fun e4 => some (.inl e4)) (fun v5 => (getI mu 6 5 x0).bind fun t6 => if 0 < t6 then ((chk mu 6 x0).bind fun _ => (f_X4_countOfEmptyBars mu x0 x1).bind fun t9 => (getI mu 6 5 x0).bind fun t11 => (gn32 (FP.fdiv (FP.i2f t9) (FP.i2f t11))).bind fun _ => some (.inr (FP.fdiv (FP.i2f t9) (FP.i2f t11)))) else (some (.inl 6)))
set_option maxHeartbeats 1000000 in
set_option maxRecDepth 100000 in
theorem k_X4_restShare (l : Launch) (hsl : l.stackTraces = false) (G : GG) (A : Nat → Prop) (mu : Mem) (x0 : Nat) (x1 : Int32) (r : Nat ⊕ UInt32) (hf : f_X4_restShare mu x0 x1 = some r) : Ok l yX4_restShare wsX4_restShare ({ frames := 12, cells := 2, slots := 12, locals := 230 } : Room) [.ref x0, .int x1] G A mu (dP (rFx r) mu) := by
  refine Ok.start (cc := cX4_restShare) (maxL := 2) (ret := (some .float)) rfl (by decide +kernel) hsl (by first | exact Nat.le_of_ble_eq_true rfl | simp [lg_sl, cat_rf, Value.category]) ?_
  intro p e s m args below meth c ls X hr hname hW hl
  have X : BX p l s m args meth c cX4_restShare 2 RX4 wsX4_restShare G A := X
  have hx := X.1
  have hb := X.2.1
  have hts := X.2.2.2.2.1
  have hl : lv_has ls 2 [(0, .ref x0), (1, .int x1)] := hl
  have hinX4 : ∀ w ∈ wsX40, w ∈ wsX4_restShare := by decide +kernel
  have hF38 : (Cond.fieldLink RX4 38 "PartcopyistBench" "barCount" "I").before args s = true := hts _ (by decide +kernel)
  have hk6 : (Cond.classLink RX4 269 "java/lang/ArithmeticException").before args s = true := hts _ (by decide +kernel)
  have hi6 : (Cond.initialized "java/lang/ArithmeticException").before args s = true := hts _ (by decide +kernel)
  have hg6 : ∀ w ∈ (vx_atS RX4 273 "java/lang/ArithmeticException" ["java/lang/RuntimeException", "java/lang/Exception"]).filter goodWord, w ∈ wsX4_restShare := by decide +kernel
  unfold f_X4_restShare at hf
  refine lv_aload_n hx hb dX4_restShare_0 rfl (lv_at hl 0 rfl) ?_
  refine lv_iload_n hx hb dX4_restShare_1 rfl (lv_at hl 1 rfl) ?_
  replace hf := bnd hf
  obtain ⟨_, h1, hf⟩ := hf
  replace hf := bnd hf
  obtain ⟨t2, h3, hf⟩ := hf
  replace hf := smc hf
  rcases hf with ⟨e4, hq, hf⟩ | ⟨v5, hq, hf⟩
  · subst hq
    exact r_callV_thr X hW hl.1 (k_X4_knownPart l hsl G A mu x0 x1 _ h3) gX4_restShare_X4_knownPart rfl (chk_ok h1) (by decide) rfl (by decide +kernel) (n := 1) rfl (by decide) (Nat.le_of_ble_eq_true rfl) dX4_restShare_2 rfl rfl (by cases hf; exact ⟨rfl, rfl⟩)
  · subst hq
    refine r_callV_ok X hW hl.1 (k_X4_knownPart l hsl G A mu x0 x1 _ h3) gX4_restShare_X4_knownPart rfl (chk_ok h1) (by decide) rfl (by decide +kernel) (n := 1) rfl (by decide) (Nat.le_of_ble_eq_true rfl) dX4_restShare_2 rfl rfl (stk := [va_rf v5]) rfl (fun H locs hW => ?_)
    refine lv_pop hx hb dX4_restShare_5 (cat_rf _) ?_
    refine lv_aload_n hx hb dX4_restShare_6 rfl (lv_at hl 0 rfl) ?_
    replace hf := bnd hf
    obtain ⟨t6, h7, hf⟩ := hf
    refine g_6_5 X hW hinX4 hF38 h7 dX4_restShare_7 ?_
    refine lv_if_gt (tgt := 24) hx hb dX4_restShare_10 (by decide) (fun hc => ?_) (fun hc => ?_)
    · replace hf := itp hc hf
      refine lv_aload_n hx hb dX4_restShare_24 rfl (lv_at hl 0 rfl) ?_
      refine lv_iload_n hx hb dX4_restShare_25 rfl (lv_at hl 1 rfl) ?_
      replace hf := bnd hf
      obtain ⟨_, h8, hf⟩ := hf
      replace hf := bnd hf
      obtain ⟨t9, h10, hf⟩ := hf
      refine r_callV_ok X hW hl.1 (k_X4_countOfEmptyBars l hsl G A mu x0 x1 _ h10) gX4_restShare_X4_countOfEmptyBars rfl (chk_ok h8) (by decide) rfl (by decide +kernel) (n := 1) rfl (by decide) (Nat.le_of_ble_eq_true rfl) dX4_restShare_26 rfl rfl (stk := [.int t9]) rfl (fun H locs hW => ?_)
      refine lv_i2f hx hb dX4_restShare_29 ?_
      refine lv_aload_n hx hb dX4_restShare_30 rfl (lv_at hl 0 rfl) ?_
      replace hf := bnd hf
      obtain ⟨t11, h12, hf⟩ := hf
      refine g_6_5 X hW hinX4 hF38 h12 dX4_restShare_31 ?_
      refine lv_i2f hx hb dX4_restShare_34 ?_
      replace hf := bnd hf
      obtain ⟨_, h13, hf⟩ := hf
      refine lv_fdiv hx hb dX4_restShare_35 (gn32_ok h13) ?_
      exact r_fret X hr hW (by cases hf; exact ⟨rfl, rfl⟩) (by decide) (by decide) dX4_restShare_36
    · replace hf := itn hc hf
      exact r_thrw (cls := "java/lang/ArithmeticException") (e9 := 6) (is := 277) (text := "there are no bars") X hsl hl.1 hW rfl (by decide +kernel) (by decide +kernel) hk6 hi6 hg6 hbad6 hgood6 (by decide +kernel) dX4_restShare_13 dX4_restShare_16 dX4_restShare_17 dX4_restShare_20 dX4_restShare_23 (by decide) (by cases hf; exact ⟨rfl, rfl⟩) (by decide) (by decide)
